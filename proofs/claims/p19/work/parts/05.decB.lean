theorem dX4_init_0 : decode cX4_init 0 = .ok (.aload_n 0, 1) := by decide +kernel
theorem dX4_init_1 : decode cX4_init 1 = .ok (.invokespecial 1, 3) := by decide +kernel
theorem dX4_init_4 : decode cX4_init 4 = .ok (.aload_n 0, 1) := by decide +kernel
theorem dX4_init_5 : decode cX4_init 5 = .ok (.new 7, 3) := by decide +kernel
theorem dX4_init_8 : decode cX4_init 8 = .ok (.dup, 1) := by decide +kernel
theorem dX4_init_9 : decode cX4_init 9 = .ok (.invokespecial 9, 3) := by decide +kernel
theorem dX4_init_12 : decode cX4_init 12 = .ok (.putfield 10, 3) := by decide +kernel
theorem dX4_init_15 : decode cX4_init 15 = .ok (.aload_n 0, 1) := by decide +kernel
theorem dX4_init_16 : decode cX4_init 16 = .ok (.new 7, 3) := by decide +kernel
theorem dX4_init_19 : decode cX4_init 19 = .ok (.dup, 1) := by decide +kernel
theorem dX4_init_20 : decode cX4_init 20 = .ok (.invokespecial 9, 3) := by decide +kernel
theorem dX4_init_23 : decode cX4_init 23 = .ok (.putfield 16, 3) := by decide +kernel
theorem dX4_init_26 : decode cX4_init 26 = .ok (.return_, 1) := by decide +kernel
theorem dX4_set_0 : decode cX4_set 0 = .ok (.iload_n 1, 1) := by decide +kernel
theorem dX4_set_1 : decode cX4_set 1 = .ok (.invokestatic 19, 3) := by decide +kernel
theorem dX4_set_4 : decode cX4_set 4 = .ok (.ifCond .ne 13, 3) := by decide +kernel
theorem dX4_set_7 : decode cX4_set 7 = .ok (.new 23, 3) := by decide +kernel
theorem dX4_set_10 : decode cX4_set 10 = .ok (.dup, 1) := by decide +kernel
theorem dX4_set_11 : decode cX4_set 11 = .ok (.ldc 25, 2) := by decide +kernel
theorem dX4_set_13 : decode cX4_set 13 = .ok (.invokespecial 27, 3) := by decide +kernel
theorem dX4_set_16 : decode cX4_set 16 = .ok (.athrow, 1) := by decide +kernel
theorem dX4_set_17 : decode cX4_set 17 = .ok (.iload_n 2, 1) := by decide +kernel
theorem dX4_set_18 : decode cX4_set 18 = .ok (.iconst 1, 1) := by decide +kernel
theorem dX4_set_19 : decode cX4_set 19 = .ok (.bipush 9, 2) := by decide +kernel
theorem dX4_set_21 : decode cX4_set 21 = .ok (.invokestatic 30, 3) := by decide +kernel
theorem dX4_set_24 : decode cX4_set 24 = .ok (.ifCond .eq 13, 3) := by decide +kernel
theorem dX4_set_27 : decode cX4_set 27 = .ok (.iload_n 3, 1) := by decide +kernel
theorem dX4_set_28 : decode cX4_set 28 = .ok (.iconst 0, 1) := by decide +kernel
theorem dX4_set_29 : decode cX4_set 29 = .ok (.bipush 9, 2) := by decide +kernel
theorem dX4_set_31 : decode cX4_set 31 = .ok (.invokestatic 30, 3) := by decide +kernel
theorem dX4_set_34 : decode cX4_set 34 = .ok (.ifCond .ne 13, 3) := by decide +kernel
theorem dX4_set_37 : decode cX4_set 37 = .ok (.new 34, 3) := by decide +kernel
theorem dX4_set_40 : decode cX4_set 40 = .ok (.dup, 1) := by decide +kernel
theorem dX4_set_41 : decode cX4_set 41 = .ok (.ldc 36, 2) := by decide +kernel
theorem dX4_set_43 : decode cX4_set 43 = .ok (.invokespecial 38, 3) := by decide +kernel
theorem dX4_set_46 : decode cX4_set 46 = .ok (.athrow, 1) := by decide +kernel
theorem dX4_set_47 : decode cX4_set 47 = .ok (.aload_n 0, 1) := by decide +kernel
theorem dX4_set_48 : decode cX4_set 48 = .ok (.getfield 10, 3) := by decide +kernel
theorem dX4_set_51 : decode cX4_set 51 = .ok (.iload_n 1, 1) := by decide +kernel
theorem dX4_set_52 : decode cX4_set 52 = .ok (.invokevirtual 39, 3) := by decide +kernel
theorem dX4_set_55 : decode cX4_set 55 = .ok (.astore 4, 2) := by decide +kernel
theorem dX4_set_57 : decode cX4_set 57 = .ok (.bipush 10, 2) := by decide +kernel
theorem dX4_set_59 : decode cX4_set 59 = .ok (.aload 4, 2) := by decide +kernel
theorem dX4_set_61 : decode cX4_set 61 = .ok (.getfield 43, 3) := by decide +kernel
theorem dX4_set_64 : decode cX4_set 64 = .ok (.imul, 1) := by decide +kernel
theorem dX4_set_65 : decode cX4_set 65 = .ok (.aload 4, 2) := by decide +kernel
theorem dX4_set_67 : decode cX4_set 67 = .ok (.getfield 49, 3) := by decide +kernel
theorem dX4_set_70 : decode cX4_set 70 = .ok (.iadd, 1) := by decide +kernel
theorem dX4_set_71 : decode cX4_set 71 = .ok (.istore 5, 2) := by decide +kernel
theorem dX4_set_73 : decode cX4_set 73 = .ok (.aload 4, 2) := by decide +kernel
theorem dX4_set_75 : decode cX4_set 75 = .ok (.iload_n 2, 1) := by decide +kernel
theorem dX4_set_76 : decode cX4_set 76 = .ok (.putfield 43, 3) := by decide +kernel
theorem dX4_set_79 : decode cX4_set 79 = .ok (.aload 4, 2) := by decide +kernel
theorem dX4_set_81 : decode cX4_set 81 = .ok (.iload_n 3, 1) := by decide +kernel
theorem dX4_set_82 : decode cX4_set 82 = .ok (.putfield 49, 3) := by decide +kernel
theorem dX4_set_85 : decode cX4_set 85 = .ok (.iload 5, 2) := by decide +kernel
theorem dX4_set_87 : decode cX4_set 87 = .ok (.ireturn, 1) := by decide +kernel
theorem dX4_hold_0 : decode cX4_hold 0 = .ok (.iload_n 1, 1) := by decide +kernel
theorem dX4_hold_1 : decode cX4_hold 1 = .ok (.iconst 0, 1) := by decide +kernel
theorem dX4_hold_2 : decode cX4_hold 2 = .ok (.bipush 15, 2) := by decide +kernel
theorem dX4_hold_4 : decode cX4_hold 4 = .ok (.invokestatic 30, 3) := by decide +kernel
theorem dX4_hold_7 : decode cX4_hold 7 = .ok (.ifCond .ne 13, 3) := by decide +kernel
theorem dX4_hold_10 : decode cX4_hold 10 = .ok (.new 34, 3) := by decide +kernel
theorem dX4_hold_13 : decode cX4_hold 13 = .ok (.dup, 1) := by decide +kernel
theorem dX4_hold_14 : decode cX4_hold 14 = .ok (.ldc 52, 2) := by decide +kernel
theorem dX4_hold_16 : decode cX4_hold 16 = .ok (.invokespecial 38, 3) := by decide +kernel
theorem dX4_hold_19 : decode cX4_hold 19 = .ok (.athrow, 1) := by decide +kernel
theorem dX4_hold_20 : decode cX4_hold 20 = .ok (.aload_n 0, 1) := by decide +kernel
theorem dX4_hold_21 : decode cX4_hold 21 = .ok (.getfield 10, 3) := by decide +kernel
theorem dX4_hold_24 : decode cX4_hold 24 = .ok (.getfield 54, 3) := by decide +kernel
theorem dX4_hold_27 : decode cX4_hold 27 = .ok (.istore_n 2, 1) := by decide +kernel
theorem dX4_hold_28 : decode cX4_hold 28 = .ok (.aload_n 0, 1) := by decide +kernel
theorem dX4_hold_29 : decode cX4_hold 29 = .ok (.getfield 10, 3) := by decide +kernel
theorem dX4_hold_32 : decode cX4_hold 32 = .ok (.iload_n 1, 1) := by decide +kernel
theorem dX4_hold_33 : decode cX4_hold 33 = .ok (.putfield 54, 3) := by decide +kernel
theorem dX4_hold_36 : decode cX4_hold 36 = .ok (.iload_n 2, 1) := by decide +kernel
theorem dX4_hold_37 : decode cX4_hold 37 = .ok (.ireturn, 1) := by decide +kernel
theorem dX4_start_0 : decode cX4_start 0 = .ok (.iload_n 1, 1) := by decide +kernel
theorem dX4_start_1 : decode cX4_start 1 = .ok (.invokestatic 19, 3) := by decide +kernel
theorem dX4_start_4 : decode cX4_start 4 = .ok (.ifCond .ne 13, 3) := by decide +kernel
theorem dX4_start_7 : decode cX4_start 7 = .ok (.new 23, 3) := by decide +kernel
theorem dX4_start_10 : decode cX4_start 10 = .ok (.dup, 1) := by decide +kernel
theorem dX4_start_11 : decode cX4_start 11 = .ok (.ldc 25, 2) := by decide +kernel
theorem dX4_start_13 : decode cX4_start 13 = .ok (.invokespecial 27, 3) := by decide +kernel
theorem dX4_start_16 : decode cX4_start 16 = .ok (.athrow, 1) := by decide +kernel
theorem dX4_start_17 : decode cX4_start 17 = .ok (.iload_n 2, 1) := by decide +kernel
theorem dX4_start_18 : decode cX4_start 18 = .ok (.iconst 1, 1) := by decide +kernel
theorem dX4_start_19 : decode cX4_start 19 = .ok (.bipush 20, 2) := by decide +kernel
theorem dX4_start_21 : decode cX4_start 21 = .ok (.invokestatic 30, 3) := by decide +kernel
theorem dX4_start_24 : decode cX4_start 24 = .ok (.ifCond .ne 13, 3) := by decide +kernel
theorem dX4_start_27 : decode cX4_start 27 = .ok (.new 34, 3) := by decide +kernel
theorem dX4_start_30 : decode cX4_start 30 = .ok (.dup, 1) := by decide +kernel
theorem dX4_start_31 : decode cX4_start 31 = .ok (.ldc 57, 2) := by decide +kernel
theorem dX4_start_33 : decode cX4_start 33 = .ok (.invokespecial 38, 3) := by decide +kernel
theorem dX4_start_36 : decode cX4_start 36 = .ok (.athrow, 1) := by decide +kernel
theorem dX4_start_37 : decode cX4_start 37 = .ok (.aload_n 0, 1) := by decide +kernel
theorem dX4_start_38 : decode cX4_start 38 = .ok (.getfield 10, 3) := by decide +kernel
theorem dX4_start_41 : decode cX4_start 41 = .ok (.getfield 59, 3) := by decide +kernel
theorem dX4_start_44 : decode cX4_start 44 = .ok (.bipush 6, 2) := by decide +kernel
theorem dX4_start_46 : decode cX4_start 46 = .ok (.if_icmp .lt 13, 3) := by decide +kernel
theorem dX4_start_49 : decode cX4_start 49 = .ok (.new 62, 3) := by decide +kernel
theorem dX4_start_52 : decode cX4_start 52 = .ok (.dup, 1) := by decide +kernel
theorem dX4_start_53 : decode cX4_start 53 = .ok (.ldc 64, 2) := by decide +kernel
theorem dX4_start_55 : decode cX4_start 55 = .ok (.invokespecial 66, 3) := by decide +kernel
theorem dX4_start_58 : decode cX4_start 58 = .ok (.athrow, 1) := by decide +kernel
theorem dX4_start_59 : decode cX4_start 59 = .ok (.aload_n 0, 1) := by decide +kernel
theorem dX4_start_60 : decode cX4_start 60 = .ok (.getfield 10, 3) := by decide +kernel
theorem dX4_start_63 : decode cX4_start 63 = .ok (.iload_n 1, 1) := by decide +kernel
theorem dX4_start_64 : decode cX4_start 64 = .ok (.iload_n 2, 1) := by decide +kernel
theorem dX4_start_65 : decode cX4_start 65 = .ok (.invokevirtual 67, 3) := by decide +kernel
theorem dX4_start_68 : decode cX4_start 68 = .ok (.ireturn, 1) := by decide +kernel
theorem dX4_queue_0 : decode cX4_queue 0 = .ok (.iload_n 1, 1) := by decide +kernel
theorem dX4_queue_1 : decode cX4_queue 1 = .ok (.invokestatic 19, 3) := by decide +kernel
theorem dX4_queue_4 : decode cX4_queue 4 = .ok (.ifCond .eq 10, 3) := by decide +kernel
theorem dX4_queue_7 : decode cX4_queue 7 = .ok (.iload_n 2, 1) := by decide +kernel
theorem dX4_queue_8 : decode cX4_queue 8 = .ok (.invokestatic 19, 3) := by decide +kernel
theorem dX4_queue_11 : decode cX4_queue 11 = .ok (.ifCond .ne 13, 3) := by decide +kernel
theorem dX4_queue_14 : decode cX4_queue 14 = .ok (.new 23, 3) := by decide +kernel
theorem dX4_queue_17 : decode cX4_queue 17 = .ok (.dup, 1) := by decide +kernel
theorem dX4_queue_18 : decode cX4_queue 18 = .ok (.ldc 25, 2) := by decide +kernel
theorem dX4_queue_20 : decode cX4_queue 20 = .ok (.invokespecial 27, 3) := by decide +kernel
theorem dX4_queue_23 : decode cX4_queue 23 = .ok (.athrow, 1) := by decide +kernel
theorem dX4_queue_24 : decode cX4_queue 24 = .ok (.iload_n 1, 1) := by decide +kernel
theorem dX4_queue_25 : decode cX4_queue 25 = .ok (.iload_n 2, 1) := by decide +kernel
theorem dX4_queue_26 : decode cX4_queue 26 = .ok (.if_icmp .ne 13, 3) := by decide +kernel
theorem dX4_queue_29 : decode cX4_queue 29 = .ok (.new 34, 3) := by decide +kernel
theorem dX4_queue_32 : decode cX4_queue 32 = .ok (.dup, 1) := by decide +kernel
theorem dX4_queue_33 : decode cX4_queue 33 = .ok (.ldc 71, 2) := by decide +kernel
theorem dX4_queue_35 : decode cX4_queue 35 = .ok (.invokespecial 38, 3) := by decide +kernel
theorem dX4_queue_38 : decode cX4_queue 38 = .ok (.athrow, 1) := by decide +kernel
theorem dX4_queue_39 : decode cX4_queue 39 = .ok (.aload_n 0, 1) := by decide +kernel
theorem dX4_queue_40 : decode cX4_queue 40 = .ok (.getfield 10, 3) := by decide +kernel
theorem dX4_queue_43 : decode cX4_queue 43 = .ok (.getfield 73, 3) := by decide +kernel
theorem dX4_queue_46 : decode cX4_queue 46 = .ok (.bipush 50, 2) := by decide +kernel
theorem dX4_queue_48 : decode cX4_queue 48 = .ok (.if_icmp .lt 13, 3) := by decide +kernel
theorem dX4_queue_51 : decode cX4_queue 51 = .ok (.new 62, 3) := by decide +kernel
theorem dX4_queue_54 : decode cX4_queue 54 = .ok (.dup, 1) := by decide +kernel
theorem dX4_queue_55 : decode cX4_queue 55 = .ok (.ldc 76, 2) := by decide +kernel
theorem dX4_queue_57 : decode cX4_queue 57 = .ok (.invokespecial 66, 3) := by decide +kernel
theorem dX4_queue_60 : decode cX4_queue 60 = .ok (.athrow, 1) := by decide +kernel
theorem dX4_queue_61 : decode cX4_queue 61 = .ok (.aload_n 0, 1) := by decide +kernel
theorem dX4_queue_62 : decode cX4_queue 62 = .ok (.getfield 10, 3) := by decide +kernel
theorem dX4_queue_65 : decode cX4_queue 65 = .ok (.iload_n 1, 1) := by decide +kernel
theorem dX4_queue_66 : decode cX4_queue 66 = .ok (.iload_n 2, 1) := by decide +kernel
theorem dX4_queue_67 : decode cX4_queue 67 = .ok (.invokevirtual 78, 3) := by decide +kernel
theorem dX4_queue_70 : decode cX4_queue 70 = .ok (.ireturn, 1) := by decide +kernel
theorem dX4_change_0 : decode cX4_change 0 = .ok (.aload_n 0, 1) := by decide +kernel
theorem dX4_change_1 : decode cX4_change 1 = .ok (.iload_n 1, 1) := by decide +kernel
theorem dX4_change_2 : decode cX4_change 2 = .ok (.invokevirtual 81, 3) := by decide +kernel
theorem dX4_change_5 : decode cX4_change 5 = .ok (.ifCond .eq 10, 3) := by decide +kernel
theorem dX4_change_8 : decode cX4_change 8 = .ok (.iload_n 2, 1) := by decide +kernel
theorem dX4_change_9 : decode cX4_change 9 = .ok (.invokestatic 19, 3) := by decide +kernel
theorem dX4_change_12 : decode cX4_change 12 = .ok (.ifCond .ne 13, 3) := by decide +kernel
theorem dX4_change_15 : decode cX4_change 15 = .ok (.new 23, 3) := by decide +kernel
theorem dX4_change_18 : decode cX4_change 18 = .ok (.dup, 1) := by decide +kernel
theorem dX4_change_19 : decode cX4_change 19 = .ok (.ldc 84, 2) := by decide +kernel
theorem dX4_change_21 : decode cX4_change 21 = .ok (.invokespecial 27, 3) := by decide +kernel
theorem dX4_change_24 : decode cX4_change 24 = .ok (.athrow, 1) := by decide +kernel
theorem dX4_change_25 : decode cX4_change 25 = .ok (.aload_n 0, 1) := by decide +kernel
theorem dX4_change_26 : decode cX4_change 26 = .ok (.getfield 10, 3) := by decide +kernel
theorem dX4_change_29 : decode cX4_change 29 = .ok (.getfield 86, 3) := by decide +kernel
theorem dX4_change_32 : decode cX4_change 32 = .ok (.iload_n 1, 1) := by decide +kernel
theorem dX4_change_33 : decode cX4_change 33 = .ok (.aaload, 1) := by decide +kernel
theorem dX4_change_34 : decode cX4_change 34 = .ok (.astore_n 3, 1) := by decide +kernel
theorem dX4_change_35 : decode cX4_change 35 = .ok (.aload_n 3, 1) := by decide +kernel
theorem dX4_change_36 : decode cX4_change 36 = .ok (.getfield 90, 3) := by decide +kernel
theorem dX4_change_39 : decode cX4_change 39 = .ok (.iconst 2, 1) := by decide +kernel
theorem dX4_change_40 : decode cX4_change 40 = .ok (.if_icmp .ne 11, 3) := by decide +kernel
theorem dX4_change_43 : decode cX4_change 43 = .ok (.aload_n 3, 1) := by decide +kernel
theorem dX4_change_44 : decode cX4_change 44 = .ok (.getfield 95, 3) := by decide +kernel
theorem dX4_change_47 : decode cX4_change 47 = .ok (.iload_n 2, 1) := by decide +kernel
theorem dX4_change_48 : decode cX4_change 48 = .ok (.if_icmp .ne 13, 3) := by decide +kernel
theorem dX4_change_51 : decode cX4_change 51 = .ok (.new 62, 3) := by decide +kernel
theorem dX4_change_54 : decode cX4_change 54 = .ok (.dup, 1) := by decide +kernel
theorem dX4_change_55 : decode cX4_change 55 = .ok (.ldc 98, 2) := by decide +kernel
theorem dX4_change_57 : decode cX4_change 57 = .ok (.invokespecial 66, 3) := by decide +kernel
theorem dX4_change_60 : decode cX4_change 60 = .ok (.athrow, 1) := by decide +kernel
theorem dX4_change_61 : decode cX4_change 61 = .ok (.aload_n 3, 1) := by decide +kernel
theorem dX4_change_62 : decode cX4_change 62 = .ok (.iload_n 2, 1) := by decide +kernel
theorem dX4_change_63 : decode cX4_change 63 = .ok (.aload_n 0, 1) := by decide +kernel
theorem dX4_change_64 : decode cX4_change 64 = .ok (.getfield 10, 3) := by decide +kernel
theorem dX4_change_67 : decode cX4_change 67 = .ok (.getfield 100, 3) := by decide +kernel
theorem dX4_change_70 : decode cX4_change 70 = .ok (.invokevirtual 103, 3) := by decide +kernel
theorem dX4_change_73 : decode cX4_change 73 = .ok (.aload_n 3, 1) := by decide +kernel
theorem dX4_change_74 : decode cX4_change 74 = .ok (.getfield 107, 3) := by decide +kernel
theorem dX4_change_77 : decode cX4_change 77 = .ok (.ireturn, 1) := by decide +kernel
theorem dX4_fare_0 : decode cX4_fare 0 = .ok (.iload_n 1, 1) := by decide +kernel
theorem dX4_fare_1 : decode cX4_fare 1 = .ok (.invokestatic 19, 3) := by decide +kernel
theorem dX4_fare_4 : decode cX4_fare 4 = .ok (.ifCond .eq 10, 3) := by decide +kernel
theorem dX4_fare_7 : decode cX4_fare 7 = .ok (.iload_n 2, 1) := by decide +kernel
theorem dX4_fare_8 : decode cX4_fare 8 = .ok (.invokestatic 19, 3) := by decide +kernel
theorem dX4_fare_11 : decode cX4_fare 11 = .ok (.ifCond .ne 13, 3) := by decide +kernel
theorem dX4_fare_14 : decode cX4_fare 14 = .ok (.new 23, 3) := by decide +kernel
theorem dX4_fare_17 : decode cX4_fare 17 = .ok (.dup, 1) := by decide +kernel
theorem dX4_fare_18 : decode cX4_fare 18 = .ok (.ldc 25, 2) := by decide +kernel
theorem dX4_fare_20 : decode cX4_fare 20 = .ok (.invokespecial 27, 3) := by decide +kernel
theorem dX4_fare_23 : decode cX4_fare 23 = .ok (.athrow, 1) := by decide +kernel
theorem dX4_fare_24 : decode cX4_fare 24 = .ok (.aload_n 0, 1) := by decide +kernel
theorem dX4_fare_25 : decode cX4_fare 25 = .ok (.getfield 10, 3) := by decide +kernel
theorem dX4_fare_28 : decode cX4_fare 28 = .ok (.iload_n 1, 1) := by decide +kernel
theorem dX4_fare_29 : decode cX4_fare 29 = .ok (.iload_n 2, 1) := by decide +kernel
theorem dX4_fare_30 : decode cX4_fare 30 = .ok (.invokevirtual 111, 3) := by decide +kernel
theorem dX4_fare_33 : decode cX4_fare 33 = .ok (.ireturn, 1) := by decide +kernel
theorem dX4_bus_0 : decode cX4_bus 0 = .ok (.iload_n 1, 1) := by decide +kernel
theorem dX4_bus_1 : decode cX4_bus 1 = .ok (.iconst 0, 1) := by decide +kernel
theorem dX4_bus_2 : decode cX4_bus 2 = .ok (.aload_n 0, 1) := by decide +kernel
theorem dX4_bus_3 : decode cX4_bus 3 = .ok (.getfield 10, 3) := by decide +kernel
theorem dX4_bus_6 : decode cX4_bus 6 = .ok (.getfield 59, 3) := by decide +kernel
theorem dX4_bus_9 : decode cX4_bus 9 = .ok (.iconst 1, 1) := by decide +kernel
theorem dX4_bus_10 : decode cX4_bus 10 = .ok (.isub, 1) := by decide +kernel
theorem dX4_bus_11 : decode cX4_bus 11 = .ok (.invokestatic 30, 3) := by decide +kernel
theorem dX4_bus_14 : decode cX4_bus 14 = .ok (.ifCond .eq 12, 3) := by decide +kernel
theorem dX4_bus_17 : decode cX4_bus 17 = .ok (.iload_n 2, 1) := by decide +kernel
theorem dX4_bus_18 : decode cX4_bus 18 = .ok (.iconst 0, 1) := by decide +kernel
theorem dX4_bus_19 : decode cX4_bus 19 = .ok (.iconst 5, 1) := by decide +kernel
theorem dX4_bus_20 : decode cX4_bus 20 = .ok (.invokestatic 30, 3) := by decide +kernel
theorem dX4_bus_23 : decode cX4_bus 23 = .ok (.ifCond .ne 13, 3) := by decide +kernel
theorem dX4_bus_26 : decode cX4_bus 26 = .ok (.new 23, 3) := by decide +kernel
theorem dX4_bus_29 : decode cX4_bus 29 = .ok (.dup, 1) := by decide +kernel
theorem dX4_bus_30 : decode cX4_bus 30 = .ok (.ldc 114, 2) := by decide +kernel
theorem dX4_bus_32 : decode cX4_bus 32 = .ok (.invokespecial 27, 3) := by decide +kernel
theorem dX4_bus_35 : decode cX4_bus 35 = .ok (.athrow, 1) := by decide +kernel
theorem dX4_bus_36 : decode cX4_bus 36 = .ok (.aload_n 0, 1) := by decide +kernel
theorem dX4_bus_37 : decode cX4_bus 37 = .ok (.getfield 10, 3) := by decide +kernel
theorem dX4_bus_40 : decode cX4_bus 40 = .ok (.getfield 116, 3) := by decide +kernel
theorem dX4_bus_43 : decode cX4_bus 43 = .ok (.iload_n 1, 1) := by decide +kernel
theorem dX4_bus_44 : decode cX4_bus 44 = .ok (.aaload, 1) := by decide +kernel
theorem dX4_bus_45 : decode cX4_bus 45 = .ok (.iload_n 2, 1) := by decide +kernel
theorem dX4_bus_46 : decode cX4_bus 46 = .ok (.invokevirtual 120, 3) := by decide +kernel
theorem dX4_bus_49 : decode cX4_bus 49 = .ok (.ireturn, 1) := by decide +kernel
theorem dX4_passenger_0 : decode cX4_passenger 0 = .ok (.aload_n 0, 1) := by decide +kernel
theorem dX4_passenger_1 : decode cX4_passenger 1 = .ok (.iload_n 1, 1) := by decide +kernel
theorem dX4_passenger_2 : decode cX4_passenger 2 = .ok (.invokevirtual 81, 3) := by decide +kernel
theorem dX4_passenger_5 : decode cX4_passenger 5 = .ok (.ifCond .eq 13, 3) := by decide +kernel
theorem dX4_passenger_8 : decode cX4_passenger 8 = .ok (.iload_n 2, 1) := by decide +kernel
theorem dX4_passenger_9 : decode cX4_passenger 9 = .ok (.iconst 0, 1) := by decide +kernel
theorem dX4_passenger_10 : decode cX4_passenger 10 = .ok (.bipush 6, 2) := by decide +kernel
theorem dX4_passenger_12 : decode cX4_passenger 12 = .ok (.invokestatic 30, 3) := by decide +kernel
theorem dX4_passenger_15 : decode cX4_passenger 15 = .ok (.ifCond .ne 13, 3) := by decide +kernel
theorem dX4_passenger_18 : decode cX4_passenger 18 = .ok (.new 23, 3) := by decide +kernel
theorem dX4_passenger_21 : decode cX4_passenger 21 = .ok (.dup, 1) := by decide +kernel
theorem dX4_passenger_22 : decode cX4_passenger 22 = .ok (.ldc 126, 2) := by decide +kernel
theorem dX4_passenger_24 : decode cX4_passenger 24 = .ok (.invokespecial 27, 3) := by decide +kernel
theorem dX4_passenger_27 : decode cX4_passenger 27 = .ok (.athrow, 1) := by decide +kernel
theorem dX4_passenger_28 : decode cX4_passenger 28 = .ok (.aload_n 0, 1) := by decide +kernel
theorem dX4_passenger_29 : decode cX4_passenger 29 = .ok (.getfield 10, 3) := by decide +kernel
theorem dX4_passenger_32 : decode cX4_passenger 32 = .ok (.getfield 86, 3) := by decide +kernel
theorem dX4_passenger_35 : decode cX4_passenger 35 = .ok (.iload_n 1, 1) := by decide +kernel
theorem dX4_passenger_36 : decode cX4_passenger 36 = .ok (.aaload, 1) := by decide +kernel
theorem dX4_passenger_37 : decode cX4_passenger 37 = .ok (.iload_n 2, 1) := by decide +kernel
theorem dX4_passenger_38 : decode cX4_passenger 38 = .ok (.invokevirtual 128, 3) := by decide +kernel
theorem dX4_passenger_41 : decode cX4_passenger 41 = .ok (.ireturn, 1) := by decide +kernel
theorem dX4_stop_0 : decode cX4_stop 0 = .ok (.iload_n 1, 1) := by decide +kernel
theorem dX4_stop_1 : decode cX4_stop 1 = .ok (.invokestatic 19, 3) := by decide +kernel
theorem dX4_stop_4 : decode cX4_stop 4 = .ok (.ifCond .eq 12, 3) := by decide +kernel
theorem dX4_stop_7 : decode cX4_stop 7 = .ok (.iload_n 2, 1) := by decide +kernel
theorem dX4_stop_8 : decode cX4_stop 8 = .ok (.iconst 0, 1) := by decide +kernel
theorem dX4_stop_9 : decode cX4_stop 9 = .ok (.iconst 4, 1) := by decide +kernel
theorem dX4_stop_10 : decode cX4_stop 10 = .ok (.invokestatic 30, 3) := by decide +kernel
theorem dX4_stop_13 : decode cX4_stop 13 = .ok (.ifCond .ne 13, 3) := by decide +kernel
theorem dX4_stop_16 : decode cX4_stop 16 = .ok (.new 23, 3) := by decide +kernel
theorem dX4_stop_19 : decode cX4_stop 19 = .ok (.dup, 1) := by decide +kernel
theorem dX4_stop_20 : decode cX4_stop 20 = .ok (.ldc 129, 2) := by decide +kernel
theorem dX4_stop_22 : decode cX4_stop 22 = .ok (.invokespecial 27, 3) := by decide +kernel
theorem dX4_stop_25 : decode cX4_stop 25 = .ok (.athrow, 1) := by decide +kernel
theorem dX4_stop_26 : decode cX4_stop 26 = .ok (.aload_n 0, 1) := by decide +kernel
theorem dX4_stop_27 : decode cX4_stop 27 = .ok (.getfield 10, 3) := by decide +kernel
theorem dX4_stop_30 : decode cX4_stop 30 = .ok (.iload_n 1, 1) := by decide +kernel
theorem dX4_stop_31 : decode cX4_stop 31 = .ok (.iload_n 2, 1) := by decide +kernel
theorem dX4_stop_32 : decode cX4_stop 32 = .ok (.invokevirtual 131, 3) := by decide +kernel
theorem dX4_stop_35 : decode cX4_stop 35 = .ok (.ireturn, 1) := by decide +kernel
theorem dX4_count_0 : decode cX4_count 0 = .ok (.iload_n 1, 1) := by decide +kernel
theorem dX4_count_1 : decode cX4_count 1 = .ok (.iconst 0, 1) := by decide +kernel
theorem dX4_count_2 : decode cX4_count 2 = .ok (.bipush 9, 2) := by decide +kernel
theorem dX4_count_4 : decode cX4_count 4 = .ok (.invokestatic 30, 3) := by decide +kernel
theorem dX4_count_7 : decode cX4_count 7 = .ok (.ifCond .ne 13, 3) := by decide +kernel
theorem dX4_count_10 : decode cX4_count 10 = .ok (.new 23, 3) := by decide +kernel
theorem dX4_count_13 : decode cX4_count 13 = .ok (.dup, 1) := by decide +kernel
theorem dX4_count_14 : decode cX4_count 14 = .ok (.ldc 134, 2) := by decide +kernel
theorem dX4_count_16 : decode cX4_count 16 = .ok (.invokespecial 27, 3) := by decide +kernel
theorem dX4_count_19 : decode cX4_count 19 = .ok (.athrow, 1) := by decide +kernel
theorem dX4_count_20 : decode cX4_count 20 = .ok (.aload_n 0, 1) := by decide +kernel
theorem dX4_count_21 : decode cX4_count 21 = .ok (.getfield 10, 3) := by decide +kernel
theorem dX4_count_24 : decode cX4_count 24 = .ok (.iload_n 1, 1) := by decide +kernel
theorem dX4_count_25 : decode cX4_count 25 = .ok (.invokevirtual 136, 3) := by decide +kernel
theorem dX4_count_28 : decode cX4_count 28 = .ok (.ireturn, 1) := by decide +kernel
theorem dX4_go_0 : decode cX4_go 0 = .ok (.iload_n 1, 1) := by decide +kernel
theorem dX4_go_1 : decode cX4_go 1 = .ok (.iconst 1, 1) := by decide +kernel
theorem dX4_go_2 : decode cX4_go 2 = .ok (.bipush 120, 2) := by decide +kernel
theorem dX4_go_4 : decode cX4_go 4 = .ok (.invokestatic 30, 3) := by decide +kernel
theorem dX4_go_7 : decode cX4_go 7 = .ok (.ifCond .ne 13, 3) := by decide +kernel
theorem dX4_go_10 : decode cX4_go 10 = .ok (.new 34, 3) := by decide +kernel
theorem dX4_go_13 : decode cX4_go 13 = .ok (.dup, 1) := by decide +kernel
theorem dX4_go_14 : decode cX4_go 14 = .ok (.ldc 139, 2) := by decide +kernel
theorem dX4_go_16 : decode cX4_go 16 = .ok (.invokespecial 38, 3) := by decide +kernel
theorem dX4_go_19 : decode cX4_go 19 = .ok (.athrow, 1) := by decide +kernel
theorem dX4_go_20 : decode cX4_go 20 = .ok (.aload_n 0, 1) := by decide +kernel
theorem dX4_go_21 : decode cX4_go 21 = .ok (.getfield 10, 3) := by decide +kernel
theorem dX4_go_24 : decode cX4_go 24 = .ok (.iconst 2, 1) := by decide +kernel
theorem dX4_go_25 : decode cX4_go 25 = .ok (.invokevirtual 141, 3) := by decide +kernel
theorem dX4_go_28 : decode cX4_go 28 = .ok (.istore_n 2, 1) := by decide +kernel
theorem dX4_go_29 : decode cX4_go 29 = .ok (.aload_n 0, 1) := by decide +kernel
theorem dX4_go_30 : decode cX4_go 30 = .ok (.getfield 10, 3) := by decide +kernel
theorem dX4_go_33 : decode cX4_go 33 = .ok (.iload_n 1, 1) := by decide +kernel
theorem dX4_go_34 : decode cX4_go 34 = .ok (.invokevirtual 144, 3) := by decide +kernel
theorem dX4_go_37 : decode cX4_go 37 = .ok (.aload_n 0, 1) := by decide +kernel
theorem dX4_go_38 : decode cX4_go 38 = .ok (.getfield 10, 3) := by decide +kernel
theorem dX4_go_41 : decode cX4_go 41 = .ok (.iconst 2, 1) := by decide +kernel
theorem dX4_go_42 : decode cX4_go 42 = .ok (.invokevirtual 141, 3) := by decide +kernel
theorem dX4_go_45 : decode cX4_go 45 = .ok (.iload_n 2, 1) := by decide +kernel
theorem dX4_go_46 : decode cX4_go 46 = .ok (.isub, 1) := by decide +kernel
theorem dX4_go_47 : decode cX4_go 47 = .ok (.ireturn, 1) := by decide +kernel
theorem dX4_arrives_0 : decode cX4_arrives 0 = .ok (.aload_n 0, 1) := by decide +kernel
theorem dX4_arrives_1 : decode cX4_arrives 1 = .ok (.iload_n 1, 1) := by decide +kernel
theorem dX4_arrives_2 : decode cX4_arrives 2 = .ok (.invokevirtual 81, 3) := by decide +kernel
theorem dX4_arrives_5 : decode cX4_arrives 5 = .ok (.ifCond .ne 13, 3) := by decide +kernel
theorem dX4_arrives_8 : decode cX4_arrives 8 = .ok (.new 23, 3) := by decide +kernel
theorem dX4_arrives_11 : decode cX4_arrives 11 = .ok (.dup, 1) := by decide +kernel
theorem dX4_arrives_12 : decode cX4_arrives 12 = .ok (.ldc 148, 2) := by decide +kernel
theorem dX4_arrives_14 : decode cX4_arrives 14 = .ok (.invokespecial 27, 3) := by decide +kernel
theorem dX4_arrives_17 : decode cX4_arrives 17 = .ok (.athrow, 1) := by decide +kernel
theorem dX4_arrives_18 : decode cX4_arrives 18 = .ok (.aload_n 0, 1) := by decide +kernel
theorem dX4_arrives_19 : decode cX4_arrives 19 = .ok (.getfield 16, 3) := by decide +kernel
theorem dX4_arrives_22 : decode cX4_arrives 22 = .ok (.aload_n 0, 1) := by decide +kernel
theorem dX4_arrives_23 : decode cX4_arrives 23 = .ok (.getfield 10, 3) := by decide +kernel
theorem dX4_arrives_26 : decode cX4_arrives 26 = .ok (.invokevirtual 150, 3) := by decide +kernel
theorem dX4_arrives_29 : decode cX4_arrives 29 = .ok (.aload_n 0, 1) := by decide +kernel
theorem dX4_arrives_30 : decode cX4_arrives 30 = .ok (.getfield 16, 3) := by decide +kernel
theorem dX4_arrives_33 : decode cX4_arrives 33 = .ok (.getfield 86, 3) := by decide +kernel
theorem dX4_arrives_36 : decode cX4_arrives 36 = .ok (.iload_n 1, 1) := by decide +kernel
theorem dX4_arrives_37 : decode cX4_arrives 37 = .ok (.aaload, 1) := by decide +kernel
theorem dX4_arrives_38 : decode cX4_arrives 38 = .ok (.astore_n 2, 1) := by decide +kernel
theorem dX4_arrives_39 : decode cX4_arrives 39 = .ok (.iconst 0, 1) := by decide +kernel
theorem dX4_arrives_40 : decode cX4_arrives 40 = .ok (.istore_n 3, 1) := by decide +kernel
theorem dX4_arrives_41 : decode cX4_arrives 41 = .ok (.iload_n 3, 1) := by decide +kernel
theorem dX4_arrives_42 : decode cX4_arrives 42 = .ok (.sipush 200, 3) := by decide +kernel
theorem dX4_arrives_45 : decode cX4_arrives 45 = .ok (.if_icmp .ge 26, 3) := by decide +kernel
theorem dX4_arrives_48 : decode cX4_arrives 48 = .ok (.aload_n 2, 1) := by decide +kernel
theorem dX4_arrives_49 : decode cX4_arrives 49 = .ok (.getfield 90, 3) := by decide +kernel
theorem dX4_arrives_52 : decode cX4_arrives 52 = .ok (.iconst 2, 1) := by decide +kernel
theorem dX4_arrives_53 : decode cX4_arrives 53 = .ok (.if_icmp .ne 5, 3) := by decide +kernel
theorem dX4_arrives_56 : decode cX4_arrives 56 = .ok (.iload_n 3, 1) := by decide +kernel
theorem dX4_arrives_57 : decode cX4_arrives 57 = .ok (.ireturn, 1) := by decide +kernel
theorem dX4_arrives_58 : decode cX4_arrives 58 = .ok (.aload_n 0, 1) := by decide +kernel
theorem dX4_arrives_59 : decode cX4_arrives 59 = .ok (.getfield 16, 3) := by decide +kernel
theorem dX4_arrives_62 : decode cX4_arrives 62 = .ok (.invokevirtual 154, 3) := by decide +kernel
theorem dX4_arrives_65 : decode cX4_arrives 65 = .ok (.iinc 3 1, 3) := by decide +kernel
theorem dX4_arrives_68 : decode cX4_arrives 68 = .ok (.goto (-27), 3) := by decide +kernel
theorem dX4_arrives_71 : decode cX4_arrives 71 = .ok (.aload_n 2, 1) := by decide +kernel
theorem dX4_arrives_72 : decode cX4_arrives 72 = .ok (.getfield 90, 3) := by decide +kernel
theorem dX4_arrives_75 : decode cX4_arrives 75 = .ok (.iconst 2, 1) := by decide +kernel
theorem dX4_arrives_76 : decode cX4_arrives 76 = .ok (.if_icmp .ne 9, 3) := by decide +kernel
theorem dX4_arrives_79 : decode cX4_arrives 79 = .ok (.sipush 200, 3) := by decide +kernel
theorem dX4_arrives_82 : decode cX4_arrives 82 = .ok (.goto 4, 3) := by decide +kernel
theorem dX4_arrives_85 : decode cX4_arrives 85 = .ok (.iconst (-1), 1) := by decide +kernel
theorem dX4_arrives_86 : decode cX4_arrives 86 = .ok (.ireturn, 1) := by decide +kernel
theorem dX4_foresee_0 : decode cX4_foresee 0 = .ok (.iload_n 1, 1) := by decide +kernel
theorem dX4_foresee_1 : decode cX4_foresee 1 = .ok (.iconst 1, 1) := by decide +kernel
theorem dX4_foresee_2 : decode cX4_foresee 2 = .ok (.bipush 120, 2) := by decide +kernel
theorem dX4_foresee_4 : decode cX4_foresee 4 = .ok (.invokestatic 30, 3) := by decide +kernel
theorem dX4_foresee_7 : decode cX4_foresee 7 = .ok (.ifCond .ne 13, 3) := by decide +kernel
theorem dX4_foresee_10 : decode cX4_foresee 10 = .ok (.new 34, 3) := by decide +kernel
theorem dX4_foresee_13 : decode cX4_foresee 13 = .ok (.dup, 1) := by decide +kernel
theorem dX4_foresee_14 : decode cX4_foresee 14 = .ok (.ldc 139, 2) := by decide +kernel
theorem dX4_foresee_16 : decode cX4_foresee 16 = .ok (.invokespecial 38, 3) := by decide +kernel
theorem dX4_foresee_19 : decode cX4_foresee 19 = .ok (.athrow, 1) := by decide +kernel
theorem dX4_foresee_20 : decode cX4_foresee 20 = .ok (.iload_n 2, 1) := by decide +kernel
theorem dX4_foresee_21 : decode cX4_foresee 21 = .ok (.iconst 0, 1) := by decide +kernel
theorem dX4_foresee_22 : decode cX4_foresee 22 = .ok (.iconst 3, 1) := by decide +kernel
theorem dX4_foresee_23 : decode cX4_foresee 23 = .ok (.invokestatic 30, 3) := by decide +kernel
theorem dX4_foresee_26 : decode cX4_foresee 26 = .ok (.ifCond .ne 13, 3) := by decide +kernel
theorem dX4_foresee_29 : decode cX4_foresee 29 = .ok (.new 23, 3) := by decide +kernel
theorem dX4_foresee_32 : decode cX4_foresee 32 = .ok (.dup, 1) := by decide +kernel
theorem dX4_foresee_33 : decode cX4_foresee 33 = .ok (.ldc 134, 2) := by decide +kernel
theorem dX4_foresee_35 : decode cX4_foresee 35 = .ok (.invokespecial 27, 3) := by decide +kernel
theorem dX4_foresee_38 : decode cX4_foresee 38 = .ok (.athrow, 1) := by decide +kernel
theorem dX4_foresee_39 : decode cX4_foresee 39 = .ok (.aload_n 0, 1) := by decide +kernel
theorem dX4_foresee_40 : decode cX4_foresee 40 = .ok (.getfield 16, 3) := by decide +kernel
theorem dX4_foresee_43 : decode cX4_foresee 43 = .ok (.aload_n 0, 1) := by decide +kernel
theorem dX4_foresee_44 : decode cX4_foresee 44 = .ok (.getfield 10, 3) := by decide +kernel
theorem dX4_foresee_47 : decode cX4_foresee 47 = .ok (.invokevirtual 150, 3) := by decide +kernel
theorem dX4_foresee_50 : decode cX4_foresee 50 = .ok (.aload_n 0, 1) := by decide +kernel
theorem dX4_foresee_51 : decode cX4_foresee 51 = .ok (.getfield 16, 3) := by decide +kernel
theorem dX4_foresee_54 : decode cX4_foresee 54 = .ok (.iload_n 1, 1) := by decide +kernel
theorem dX4_foresee_55 : decode cX4_foresee 55 = .ok (.invokevirtual 144, 3) := by decide +kernel
theorem dX4_foresee_58 : decode cX4_foresee 58 = .ok (.iload_n 2, 1) := by decide +kernel
theorem dX4_foresee_59 : decode cX4_foresee 59 = .ok (.tableswitch 75 0 2 #[25, 43, 59], 25) := by decide +kernel
theorem dX4_foresee_84 : decode cX4_foresee 84 = .ok (.aload_n 0, 1) := by decide +kernel
theorem dX4_foresee_85 : decode cX4_foresee 85 = .ok (.getfield 16, 3) := by decide +kernel
theorem dX4_foresee_88 : decode cX4_foresee 88 = .ok (.iconst 2, 1) := by decide +kernel
theorem dX4_foresee_89 : decode cX4_foresee 89 = .ok (.invokevirtual 141, 3) := by decide +kernel
theorem dX4_foresee_92 : decode cX4_foresee 92 = .ok (.aload_n 0, 1) := by decide +kernel
theorem dX4_foresee_93 : decode cX4_foresee 93 = .ok (.getfield 10, 3) := by decide +kernel
theorem dX4_foresee_96 : decode cX4_foresee 96 = .ok (.iconst 2, 1) := by decide +kernel
theorem dX4_foresee_97 : decode cX4_foresee 97 = .ok (.invokevirtual 141, 3) := by decide +kernel
theorem dX4_foresee_100 : decode cX4_foresee 100 = .ok (.isub, 1) := by decide +kernel
theorem dX4_foresee_101 : decode cX4_foresee 101 = .ok (.ireturn, 1) := by decide +kernel
theorem dX4_foresee_102 : decode cX4_foresee 102 = .ok (.aload_n 0, 1) := by decide +kernel
theorem dX4_foresee_103 : decode cX4_foresee 103 = .ok (.getfield 16, 3) := by decide +kernel
theorem dX4_foresee_106 : decode cX4_foresee 106 = .ok (.invokevirtual 157, 3) := by decide +kernel
theorem dX4_foresee_109 : decode cX4_foresee 109 = .ok (.aload_n 0, 1) := by decide +kernel
theorem dX4_foresee_110 : decode cX4_foresee 110 = .ok (.getfield 10, 3) := by decide +kernel
theorem dX4_foresee_113 : decode cX4_foresee 113 = .ok (.invokevirtual 157, 3) := by decide +kernel
theorem dX4_foresee_116 : decode cX4_foresee 116 = .ok (.isub, 1) := by decide +kernel
theorem dX4_foresee_117 : decode cX4_foresee 117 = .ok (.ireturn, 1) := by decide +kernel
theorem dX4_foresee_118 : decode cX4_foresee 118 = .ok (.aload_n 0, 1) := by decide +kernel
theorem dX4_foresee_119 : decode cX4_foresee 119 = .ok (.getfield 16, 3) := by decide +kernel
theorem dX4_foresee_122 : decode cX4_foresee 122 = .ok (.invokevirtual 161, 3) := by decide +kernel
theorem dX4_foresee_125 : decode cX4_foresee 125 = .ok (.aload_n 0, 1) := by decide +kernel
theorem dX4_foresee_126 : decode cX4_foresee 126 = .ok (.getfield 10, 3) := by decide +kernel
theorem dX4_foresee_129 : decode cX4_foresee 129 = .ok (.invokevirtual 161, 3) := by decide +kernel
theorem dX4_foresee_132 : decode cX4_foresee 132 = .ok (.isub, 1) := by decide +kernel
theorem dX4_foresee_133 : decode cX4_foresee 133 = .ok (.ireturn, 1) := by decide +kernel
theorem dX4_foresee_134 : decode cX4_foresee 134 = .ok (.aload_n 0, 1) := by decide +kernel
theorem dX4_foresee_135 : decode cX4_foresee 135 = .ok (.getfield 16, 3) := by decide +kernel
theorem dX4_foresee_138 : decode cX4_foresee 138 = .ok (.invokevirtual 164, 3) := by decide +kernel
theorem dX4_foresee_141 : decode cX4_foresee 141 = .ok (.ireturn, 1) := by decide +kernel
theorem dX4_advise_0 : decode cX4_advise 0 = .ok (.iload_n 1, 1) := by decide +kernel
theorem dX4_advise_1 : decode cX4_advise 1 = .ok (.iconst 1, 1) := by decide +kernel
theorem dX4_advise_2 : decode cX4_advise 2 = .ok (.bipush 120, 2) := by decide +kernel
theorem dX4_advise_4 : decode cX4_advise 4 = .ok (.invokestatic 30, 3) := by decide +kernel
theorem dX4_advise_7 : decode cX4_advise 7 = .ok (.ifCond .ne 13, 3) := by decide +kernel
theorem dX4_advise_10 : decode cX4_advise 10 = .ok (.new 34, 3) := by decide +kernel
theorem dX4_advise_13 : decode cX4_advise 13 = .ok (.dup, 1) := by decide +kernel
theorem dX4_advise_14 : decode cX4_advise 14 = .ok (.ldc 139, 2) := by decide +kernel
theorem dX4_advise_16 : decode cX4_advise 16 = .ok (.invokespecial 38, 3) := by decide +kernel
theorem dX4_advise_19 : decode cX4_advise 19 = .ok (.athrow, 1) := by decide +kernel
theorem dX4_advise_20 : decode cX4_advise 20 = .ok (.iconst 0, 1) := by decide +kernel
theorem dX4_advise_21 : decode cX4_advise 21 = .ok (.istore_n 2, 1) := by decide +kernel
theorem dX4_advise_22 : decode cX4_advise 22 = .ok (.iconst 0, 1) := by decide +kernel
theorem dX4_advise_23 : decode cX4_advise 23 = .ok (.istore_n 3, 1) := by decide +kernel
theorem dX4_advise_24 : decode cX4_advise 24 = .ok (.iconst 0, 1) := by decide +kernel
theorem dX4_advise_25 : decode cX4_advise 25 = .ok (.istore 4, 2) := by decide +kernel
theorem dX4_advise_27 : decode cX4_advise 27 = .ok (.iload 4, 2) := by decide +kernel
theorem dX4_advise_29 : decode cX4_advise 29 = .ok (.bipush 15, 2) := by decide +kernel
theorem dX4_advise_31 : decode cX4_advise 31 = .ok (.if_icmp .gt 63, 3) := by decide +kernel
theorem dX4_advise_34 : decode cX4_advise 34 = .ok (.aload_n 0, 1) := by decide +kernel
theorem dX4_advise_35 : decode cX4_advise 35 = .ok (.getfield 16, 3) := by decide +kernel
theorem dX4_advise_38 : decode cX4_advise 38 = .ok (.aload_n 0, 1) := by decide +kernel
theorem dX4_advise_39 : decode cX4_advise 39 = .ok (.getfield 10, 3) := by decide +kernel
theorem dX4_advise_42 : decode cX4_advise 42 = .ok (.invokevirtual 150, 3) := by decide +kernel
theorem dX4_advise_45 : decode cX4_advise 45 = .ok (.aload_n 0, 1) := by decide +kernel
theorem dX4_advise_46 : decode cX4_advise 46 = .ok (.getfield 16, 3) := by decide +kernel
theorem dX4_advise_49 : decode cX4_advise 49 = .ok (.iload 4, 2) := by decide +kernel
theorem dX4_advise_51 : decode cX4_advise 51 = .ok (.putfield 54, 3) := by decide +kernel
theorem dX4_advise_54 : decode cX4_advise 54 = .ok (.aload_n 0, 1) := by decide +kernel
theorem dX4_advise_55 : decode cX4_advise 55 = .ok (.getfield 16, 3) := by decide +kernel
theorem dX4_advise_58 : decode cX4_advise 58 = .ok (.iload_n 1, 1) := by decide +kernel
theorem dX4_advise_59 : decode cX4_advise 59 = .ok (.invokevirtual 144, 3) := by decide +kernel
theorem dX4_advise_62 : decode cX4_advise 62 = .ok (.aload_n 0, 1) := by decide +kernel
theorem dX4_advise_63 : decode cX4_advise 63 = .ok (.getfield 16, 3) := by decide +kernel
theorem dX4_advise_66 : decode cX4_advise 66 = .ok (.invokevirtual 161, 3) := by decide +kernel
theorem dX4_advise_69 : decode cX4_advise 69 = .ok (.istore 5, 2) := by decide +kernel
theorem dX4_advise_71 : decode cX4_advise 71 = .ok (.iload 4, 2) := by decide +kernel
theorem dX4_advise_73 : decode cX4_advise 73 = .ok (.ifCond .eq 9, 3) := by decide +kernel
theorem dX4_advise_76 : decode cX4_advise 76 = .ok (.iload 5, 2) := by decide +kernel
theorem dX4_advise_78 : decode cX4_advise 78 = .ok (.iload_n 3, 1) := by decide +kernel
theorem dX4_advise_79 : decode cX4_advise 79 = .ok (.if_icmp .ge 9, 3) := by decide +kernel
theorem dX4_advise_82 : decode cX4_advise 82 = .ok (.iload 4, 2) := by decide +kernel
theorem dX4_advise_84 : decode cX4_advise 84 = .ok (.istore_n 2, 1) := by decide +kernel
theorem dX4_advise_85 : decode cX4_advise 85 = .ok (.iload 5, 2) := by decide +kernel
theorem dX4_advise_87 : decode cX4_advise 87 = .ok (.istore_n 3, 1) := by decide +kernel
theorem dX4_advise_88 : decode cX4_advise 88 = .ok (.iinc 4 1, 3) := by decide +kernel
theorem dX4_advise_91 : decode cX4_advise 91 = .ok (.goto (-64), 3) := by decide +kernel
theorem dX4_advise_94 : decode cX4_advise 94 = .ok (.iload_n 2, 1) := by decide +kernel
theorem dX4_advise_95 : decode cX4_advise 95 = .ok (.ireturn, 1) := by decide +kernel
theorem dX4_digest_0 : decode cX4_digest 0 = .ok (.ldc2_w 167, 3) := by decide +kernel
theorem dX4_digest_3 : decode cX4_digest 3 = .ok (.lstore_n 1, 1) := by decide +kernel
theorem dX4_digest_4 : decode cX4_digest 4 = .ok (.iconst 0, 1) := by decide +kernel
theorem dX4_digest_5 : decode cX4_digest 5 = .ok (.istore_n 3, 1) := by decide +kernel
theorem dX4_digest_6 : decode cX4_digest 6 = .ok (.iload_n 3, 1) := by decide +kernel
theorem dX4_digest_7 : decode cX4_digest 7 = .ok (.bipush 10, 2) := by decide +kernel
theorem dX4_digest_9 : decode cX4_digest 9 = .ok (.if_icmp .ge 25, 3) := by decide +kernel
theorem dX4_digest_12 : decode cX4_digest 12 = .ok (.lload_n 1, 1) := by decide +kernel
theorem dX4_digest_13 : decode cX4_digest 13 = .ok (.ldc2_w 169, 3) := by decide +kernel
theorem dX4_digest_16 : decode cX4_digest 16 = .ok (.lmul, 1) := by decide +kernel
theorem dX4_digest_17 : decode cX4_digest 17 = .ok (.aload_n 0, 1) := by decide +kernel
theorem dX4_digest_18 : decode cX4_digest 18 = .ok (.getfield 10, 3) := by decide +kernel
theorem dX4_digest_21 : decode cX4_digest 21 = .ok (.iload_n 3, 1) := by decide +kernel
theorem dX4_digest_22 : decode cX4_digest 22 = .ok (.invokevirtual 136, 3) := by decide +kernel
theorem dX4_digest_25 : decode cX4_digest 25 = .ok (.i2l, 1) := by decide +kernel
theorem dX4_digest_26 : decode cX4_digest 26 = .ok (.ladd, 1) := by decide +kernel
theorem dX4_digest_27 : decode cX4_digest 27 = .ok (.lstore_n 1, 1) := by decide +kernel
theorem dX4_digest_28 : decode cX4_digest 28 = .ok (.iinc 3 1, 3) := by decide +kernel
theorem dX4_digest_31 : decode cX4_digest 31 = .ok (.goto (-25), 3) := by decide +kernel
theorem dX4_digest_34 : decode cX4_digest 34 = .ok (.iconst 0, 1) := by decide +kernel
theorem dX4_digest_35 : decode cX4_digest 35 = .ok (.istore_n 3, 1) := by decide +kernel
theorem dX4_digest_36 : decode cX4_digest 36 = .ok (.iload_n 3, 1) := by decide +kernel
theorem dX4_digest_37 : decode cX4_digest 37 = .ok (.bipush 10, 2) := by decide +kernel
theorem dX4_digest_39 : decode cX4_digest 39 = .ok (.if_icmp .ge 42, 3) := by decide +kernel
theorem dX4_digest_42 : decode cX4_digest 42 = .ok (.iconst 0, 1) := by decide +kernel
theorem dX4_digest_43 : decode cX4_digest 43 = .ok (.istore 4, 2) := by decide +kernel
theorem dX4_digest_45 : decode cX4_digest 45 = .ok (.iload 4, 2) := by decide +kernel
theorem dX4_digest_47 : decode cX4_digest 47 = .ok (.iconst 5, 1) := by decide +kernel
theorem dX4_digest_48 : decode cX4_digest 48 = .ok (.if_icmp .ge 27, 3) := by decide +kernel
theorem dX4_digest_51 : decode cX4_digest 51 = .ok (.lload_n 1, 1) := by decide +kernel
theorem dX4_digest_52 : decode cX4_digest 52 = .ok (.ldc2_w 169, 3) := by decide +kernel
theorem dX4_digest_55 : decode cX4_digest 55 = .ok (.lmul, 1) := by decide +kernel
theorem dX4_digest_56 : decode cX4_digest 56 = .ok (.aload_n 0, 1) := by decide +kernel
theorem dX4_digest_57 : decode cX4_digest 57 = .ok (.getfield 10, 3) := by decide +kernel
theorem dX4_digest_60 : decode cX4_digest 60 = .ok (.iload_n 3, 1) := by decide +kernel
theorem dX4_digest_61 : decode cX4_digest 61 = .ok (.iload 4, 2) := by decide +kernel
theorem dX4_digest_63 : decode cX4_digest 63 = .ok (.invokevirtual 131, 3) := by decide +kernel
theorem dX4_digest_66 : decode cX4_digest 66 = .ok (.i2l, 1) := by decide +kernel
theorem dX4_digest_67 : decode cX4_digest 67 = .ok (.ladd, 1) := by decide +kernel
theorem dX4_digest_68 : decode cX4_digest 68 = .ok (.lstore_n 1, 1) := by decide +kernel
theorem dX4_digest_69 : decode cX4_digest 69 = .ok (.iinc 4 1, 3) := by decide +kernel
theorem dX4_digest_72 : decode cX4_digest 72 = .ok (.goto (-27), 3) := by decide +kernel
theorem dX4_digest_75 : decode cX4_digest 75 = .ok (.iinc 3 1, 3) := by decide +kernel
theorem dX4_digest_78 : decode cX4_digest 78 = .ok (.goto (-42), 3) := by decide +kernel
theorem dX4_digest_81 : decode cX4_digest 81 = .ok (.iconst 0, 1) := by decide +kernel
theorem dX4_digest_82 : decode cX4_digest 82 = .ok (.istore_n 3, 1) := by decide +kernel
theorem dX4_digest_83 : decode cX4_digest 83 = .ok (.iload_n 3, 1) := by decide +kernel
theorem dX4_digest_84 : decode cX4_digest 84 = .ok (.aload_n 0, 1) := by decide +kernel
theorem dX4_digest_85 : decode cX4_digest 85 = .ok (.getfield 10, 3) := by decide +kernel
theorem dX4_digest_88 : decode cX4_digest 88 = .ok (.getfield 59, 3) := by decide +kernel
theorem dX4_digest_91 : decode cX4_digest 91 = .ok (.if_icmp .ge 47, 3) := by decide +kernel
theorem dX4_digest_94 : decode cX4_digest 94 = .ok (.iconst 0, 1) := by decide +kernel
theorem dX4_digest_95 : decode cX4_digest 95 = .ok (.istore 4, 2) := by decide +kernel
theorem dX4_digest_97 : decode cX4_digest 97 = .ok (.iload 4, 2) := by decide +kernel
theorem dX4_digest_99 : decode cX4_digest 99 = .ok (.bipush 6, 2) := by decide +kernel
theorem dX4_digest_101 : decode cX4_digest 101 = .ok (.if_icmp .ge 31, 3) := by decide +kernel
theorem dX4_digest_104 : decode cX4_digest 104 = .ok (.lload_n 1, 1) := by decide +kernel
theorem dX4_digest_105 : decode cX4_digest 105 = .ok (.ldc2_w 169, 3) := by decide +kernel
theorem dX4_digest_108 : decode cX4_digest 108 = .ok (.lmul, 1) := by decide +kernel
theorem dX4_digest_109 : decode cX4_digest 109 = .ok (.aload_n 0, 1) := by decide +kernel
theorem dX4_digest_110 : decode cX4_digest 110 = .ok (.getfield 10, 3) := by decide +kernel
theorem dX4_digest_113 : decode cX4_digest 113 = .ok (.getfield 116, 3) := by decide +kernel
theorem dX4_digest_116 : decode cX4_digest 116 = .ok (.iload_n 3, 1) := by decide +kernel
theorem dX4_digest_117 : decode cX4_digest 117 = .ok (.aaload, 1) := by decide +kernel
theorem dX4_digest_118 : decode cX4_digest 118 = .ok (.iload 4, 2) := by decide +kernel
theorem dX4_digest_120 : decode cX4_digest 120 = .ok (.invokevirtual 120, 3) := by decide +kernel
theorem dX4_digest_123 : decode cX4_digest 123 = .ok (.i2l, 1) := by decide +kernel
theorem dX4_digest_124 : decode cX4_digest 124 = .ok (.ladd, 1) := by decide +kernel
theorem dX4_digest_125 : decode cX4_digest 125 = .ok (.lstore_n 1, 1) := by decide +kernel
theorem dX4_digest_126 : decode cX4_digest 126 = .ok (.iinc 4 1, 3) := by decide +kernel
theorem dX4_digest_129 : decode cX4_digest 129 = .ok (.goto (-32), 3) := by decide +kernel
theorem dX4_digest_132 : decode cX4_digest 132 = .ok (.iinc 3 1, 3) := by decide +kernel
theorem dX4_digest_135 : decode cX4_digest 135 = .ok (.goto (-52), 3) := by decide +kernel
theorem dX4_digest_138 : decode cX4_digest 138 = .ok (.iconst 0, 1) := by decide +kernel
theorem dX4_digest_139 : decode cX4_digest 139 = .ok (.istore_n 3, 1) := by decide +kernel
theorem dX4_digest_140 : decode cX4_digest 140 = .ok (.iload_n 3, 1) := by decide +kernel
theorem dX4_digest_141 : decode cX4_digest 141 = .ok (.aload_n 0, 1) := by decide +kernel
theorem dX4_digest_142 : decode cX4_digest 142 = .ok (.getfield 10, 3) := by decide +kernel
theorem dX4_digest_145 : decode cX4_digest 145 = .ok (.getfield 73, 3) := by decide +kernel
theorem dX4_digest_148 : decode cX4_digest 148 = .ok (.if_icmp .ge 47, 3) := by decide +kernel
theorem dX4_digest_151 : decode cX4_digest 151 = .ok (.iconst 0, 1) := by decide +kernel
theorem dX4_digest_152 : decode cX4_digest 152 = .ok (.istore 4, 2) := by decide +kernel
theorem dX4_digest_154 : decode cX4_digest 154 = .ok (.iload 4, 2) := by decide +kernel
theorem dX4_digest_156 : decode cX4_digest 156 = .ok (.bipush 7, 2) := by decide +kernel
theorem dX4_digest_158 : decode cX4_digest 158 = .ok (.if_icmp .ge 31, 3) := by decide +kernel
theorem dX4_digest_161 : decode cX4_digest 161 = .ok (.lload_n 1, 1) := by decide +kernel
theorem dX4_digest_162 : decode cX4_digest 162 = .ok (.ldc2_w 169, 3) := by decide +kernel
theorem dX4_digest_165 : decode cX4_digest 165 = .ok (.lmul, 1) := by decide +kernel
theorem dX4_digest_166 : decode cX4_digest 166 = .ok (.aload_n 0, 1) := by decide +kernel
theorem dX4_digest_167 : decode cX4_digest 167 = .ok (.getfield 10, 3) := by decide +kernel
theorem dX4_digest_170 : decode cX4_digest 170 = .ok (.getfield 86, 3) := by decide +kernel
theorem dX4_digest_173 : decode cX4_digest 173 = .ok (.iload_n 3, 1) := by decide +kernel
theorem dX4_digest_174 : decode cX4_digest 174 = .ok (.aaload, 1) := by decide +kernel
theorem dX4_digest_175 : decode cX4_digest 175 = .ok (.iload 4, 2) := by decide +kernel
theorem dX4_digest_177 : decode cX4_digest 177 = .ok (.invokevirtual 128, 3) := by decide +kernel
theorem dX4_digest_180 : decode cX4_digest 180 = .ok (.i2l, 1) := by decide +kernel
theorem dX4_digest_181 : decode cX4_digest 181 = .ok (.ladd, 1) := by decide +kernel
theorem dX4_digest_182 : decode cX4_digest 182 = .ok (.lstore_n 1, 1) := by decide +kernel
theorem dX4_digest_183 : decode cX4_digest 183 = .ok (.iinc 4 1, 3) := by decide +kernel
theorem dX4_digest_186 : decode cX4_digest 186 = .ok (.goto (-32), 3) := by decide +kernel
theorem dX4_digest_189 : decode cX4_digest 189 = .ok (.iinc 3 1, 3) := by decide +kernel
theorem dX4_digest_192 : decode cX4_digest 192 = .ok (.goto (-52), 3) := by decide +kernel
theorem dX4_digest_195 : decode cX4_digest 195 = .ok (.lload_n 1, 1) := by decide +kernel
theorem dX4_digest_196 : decode cX4_digest 196 = .ok (.lreturn, 1) := by decide +kernel
theorem dX4_isWithin_0 : decode cX4_isWithin 0 = .ok (.iload_n 0, 1) := by decide +kernel
theorem dX4_isWithin_1 : decode cX4_isWithin 1 = .ok (.iload_n 1, 1) := by decide +kernel
theorem dX4_isWithin_2 : decode cX4_isWithin 2 = .ok (.if_icmp .lt 12, 3) := by decide +kernel
theorem dX4_isWithin_5 : decode cX4_isWithin 5 = .ok (.iload_n 0, 1) := by decide +kernel
theorem dX4_isWithin_6 : decode cX4_isWithin 6 = .ok (.iload_n 2, 1) := by decide +kernel
theorem dX4_isWithin_7 : decode cX4_isWithin 7 = .ok (.if_icmp .gt 7, 3) := by decide +kernel
theorem dX4_isWithin_10 : decode cX4_isWithin 10 = .ok (.iconst 1, 1) := by decide +kernel
theorem dX4_isWithin_11 : decode cX4_isWithin 11 = .ok (.goto 4, 3) := by decide +kernel
theorem dX4_isWithin_14 : decode cX4_isWithin 14 = .ok (.iconst 0, 1) := by decide +kernel
theorem dX4_isWithin_15 : decode cX4_isWithin 15 = .ok (.ireturn, 1) := by decide +kernel
theorem dX4_isStop_0 : decode cX4_isStop 0 = .ok (.iload_n 0, 1) := by decide +kernel
theorem dX4_isStop_1 : decode cX4_isStop 1 = .ok (.iconst 0, 1) := by decide +kernel
theorem dX4_isStop_2 : decode cX4_isStop 2 = .ok (.bipush 9, 2) := by decide +kernel
theorem dX4_isStop_4 : decode cX4_isStop 4 = .ok (.invokestatic 30, 3) := by decide +kernel
theorem dX4_isStop_7 : decode cX4_isStop 7 = .ok (.ireturn, 1) := by decide +kernel
theorem dX4_isPassenger_0 : decode cX4_isPassenger 0 = .ok (.iload_n 1, 1) := by decide +kernel
theorem dX4_isPassenger_1 : decode cX4_isPassenger 1 = .ok (.iconst 0, 1) := by decide +kernel
theorem dX4_isPassenger_2 : decode cX4_isPassenger 2 = .ok (.aload_n 0, 1) := by decide +kernel
theorem dX4_isPassenger_3 : decode cX4_isPassenger 3 = .ok (.getfield 10, 3) := by decide +kernel
theorem dX4_isPassenger_6 : decode cX4_isPassenger 6 = .ok (.getfield 73, 3) := by decide +kernel
theorem dX4_isPassenger_9 : decode cX4_isPassenger 9 = .ok (.iconst 1, 1) := by decide +kernel
theorem dX4_isPassenger_10 : decode cX4_isPassenger 10 = .ok (.isub, 1) := by decide +kernel
theorem dX4_isPassenger_11 : decode cX4_isPassenger 11 = .ok (.invokestatic 30, 3) := by decide +kernel
theorem dX4_isPassenger_14 : decode cX4_isPassenger 14 = .ok (.ireturn, 1) := by decide +kernel
