theorem d_NW_init_0 : decode b_NW_init 0 = .ok (.aload_n 0, 1) := by decide +kernel
theorem d_NW_init_1 : decode b_NW_init 1 = .ok (.invokespecial 1, 3) := by decide +kernel
theorem d_NW_init_4 : decode b_NW_init 4 = .ok (.aload_n 0, 1) := by decide +kernel
theorem d_NW_init_5 : decode b_NW_init 5 = .ok (.new 7, 3) := by decide +kernel
theorem d_NW_init_8 : decode b_NW_init 8 = .ok (.dup, 1) := by decide +kernel
theorem d_NW_init_9 : decode b_NW_init 9 = .ok (.invokespecial 9, 3) := by decide +kernel
theorem d_NW_init_12 : decode b_NW_init 12 = .ok (.putfield 10, 3) := by decide +kernel
theorem d_NW_init_15 : decode b_NW_init 15 = .ok (.aload_n 0, 1) := by decide +kernel
theorem d_NW_init_16 : decode b_NW_init 16 = .ok (.new 7, 3) := by decide +kernel
theorem d_NW_init_19 : decode b_NW_init 19 = .ok (.dup, 1) := by decide +kernel
theorem d_NW_init_20 : decode b_NW_init 20 = .ok (.invokespecial 9, 3) := by decide +kernel
theorem d_NW_init_23 : decode b_NW_init 23 = .ok (.putfield 16, 3) := by decide +kernel
theorem d_NW_init_26 : decode b_NW_init 26 = .ok (.aload_n 0, 1) := by decide +kernel
theorem d_NW_init_27 : decode b_NW_init 27 = .ok (.new 19, 3) := by decide +kernel
theorem d_NW_init_30 : decode b_NW_init 30 = .ok (.dup, 1) := by decide +kernel
theorem d_NW_init_31 : decode b_NW_init 31 = .ok (.invokespecial 21, 3) := by decide +kernel
theorem d_NW_init_34 : decode b_NW_init 34 = .ok (.putfield 22, 3) := by decide +kernel
theorem d_NW_init_37 : decode b_NW_init 37 = .ok (.aload_n 0, 1) := by decide +kernel
theorem d_NW_init_38 : decode b_NW_init 38 = .ok (.new 26, 3) := by decide +kernel
theorem d_NW_init_41 : decode b_NW_init 41 = .ok (.dup, 1) := by decide +kernel
theorem d_NW_init_42 : decode b_NW_init 42 = .ok (.invokespecial 28, 3) := by decide +kernel
theorem d_NW_init_45 : decode b_NW_init 45 = .ok (.putfield 29, 3) := by decide +kernel
theorem d_NW_init_48 : decode b_NW_init 48 = .ok (.aload_n 0, 1) := by decide +kernel
theorem d_NW_init_49 : decode b_NW_init 49 = .ok (.new 33, 3) := by decide +kernel
theorem d_NW_init_52 : decode b_NW_init 52 = .ok (.dup, 1) := by decide +kernel
theorem d_NW_init_53 : decode b_NW_init 53 = .ok (.invokespecial 35, 3) := by decide +kernel
theorem d_NW_init_56 : decode b_NW_init 56 = .ok (.putfield 36, 3) := by decide +kernel
theorem d_NW_init_59 : decode b_NW_init 59 = .ok (.aload_n 0, 1) := by decide +kernel
theorem d_NW_init_60 : decode b_NW_init 60 = .ok (.new 40, 3) := by decide +kernel
theorem d_NW_init_63 : decode b_NW_init 63 = .ok (.dup, 1) := by decide +kernel
theorem d_NW_init_64 : decode b_NW_init 64 = .ok (.invokespecial 42, 3) := by decide +kernel
theorem d_NW_init_67 : decode b_NW_init 67 = .ok (.putfield 43, 3) := by decide +kernel
theorem d_NW_init_70 : decode b_NW_init 70 = .ok (.aload_n 0, 1) := by decide +kernel
theorem d_NW_init_71 : decode b_NW_init 71 = .ok (.new 47, 3) := by decide +kernel
theorem d_NW_init_74 : decode b_NW_init 74 = .ok (.dup, 1) := by decide +kernel
theorem d_NW_init_75 : decode b_NW_init 75 = .ok (.invokespecial 49, 3) := by decide +kernel
theorem d_NW_init_78 : decode b_NW_init 78 = .ok (.putfield 50, 3) := by decide +kernel
theorem d_NW_init_81 : decode b_NW_init 81 = .ok (.return_, 1) := by decide +kernel
theorem d_NW_near_0 : decode b_NW_near 0 = .ok (.aload_n 0, 1) := by decide +kernel
theorem d_NW_near_1 : decode b_NW_near 1 = .ok (.invokevirtual 76, 3) := by decide +kernel
theorem d_NW_near_4 : decode b_NW_near 4 = .ok (.astore_n 2, 1) := by decide +kernel
theorem d_NW_near_5 : decode b_NW_near 5 = .ok (.iload_n 1, 1) := by decide +kernel
theorem d_NW_near_6 : decode b_NW_near 6 = .ok (.ifCond .lt 15, 3) := by decide +kernel
theorem d_NW_near_9 : decode b_NW_near 9 = .ok (.iload_n 1, 1) := by decide +kernel
theorem d_NW_near_10 : decode b_NW_near 10 = .ok (.iconst 3, 1) := by decide +kernel
theorem d_NW_near_11 : decode b_NW_near 11 = .ok (.if_icmp .gt 10, 3) := by decide +kernel
theorem d_NW_near_14 : decode b_NW_near 14 = .ok (.aload_n 2, 1) := by decide +kernel
theorem d_NW_near_15 : decode b_NW_near 15 = .ok (.invokevirtual 80, 3) := by decide +kernel
theorem d_NW_near_18 : decode b_NW_near 18 = .ok (.ifCond .eq 11, 3) := by decide +kernel
theorem d_NW_near_21 : decode b_NW_near 21 = .ok (.new 58, 3) := by decide +kernel
theorem d_NW_near_24 : decode b_NW_near 24 = .ok (.dup, 1) := by decide +kernel
theorem d_NW_near_25 : decode b_NW_near 25 = .ok (.invokespecial 60, 3) := by decide +kernel
theorem d_NW_near_28 : decode b_NW_near 28 = .ok (.athrow, 1) := by decide +kernel
theorem d_NW_near_29 : decode b_NW_near 29 = .ok (.aload_n 0, 1) := by decide +kernel
theorem d_NW_near_30 : decode b_NW_near 30 = .ok (.getfield 43, 3) := by decide +kernel
theorem d_NW_near_33 : decode b_NW_near 33 = .ok (.aload_n 2, 1) := by decide +kernel
theorem d_NW_near_34 : decode b_NW_near 34 = .ok (.invokevirtual 107, 3) := by decide +kernel
theorem d_NW_near_37 : decode b_NW_near 37 = .ok (.aload_n 0, 1) := by decide +kernel
theorem d_NW_near_38 : decode b_NW_near 38 = .ok (.getfield 50, 3) := by decide +kernel
theorem d_NW_near_41 : decode b_NW_near 41 = .ok (.invokevirtual 111, 3) := by decide +kernel
theorem d_NW_near_44 : decode b_NW_near 44 = .ok (.iconst 0, 1) := by decide +kernel
theorem d_NW_near_45 : decode b_NW_near 45 = .ok (.istore_n 3, 1) := by decide +kernel
theorem d_NW_near_46 : decode b_NW_near 46 = .ok (.iload_n 3, 1) := by decide +kernel
theorem d_NW_near_47 : decode b_NW_near 47 = .ok (.aload_n 0, 1) := by decide +kernel
theorem d_NW_near_48 : decode b_NW_near 48 = .ok (.getfield 22, 3) := by decide +kernel
theorem d_NW_near_51 : decode b_NW_near 51 = .ok (.invokevirtual 92, 3) := by decide +kernel
theorem d_NW_near_54 : decode b_NW_near 54 = .ok (.if_icmp .ge 54, 3) := by decide +kernel
theorem d_NW_near_57 : decode b_NW_near 57 = .ok (.iload_n 1, 1) := by decide +kernel
theorem d_NW_near_58 : decode b_NW_near 58 = .ok (.aload_n 2, 1) := by decide +kernel
theorem d_NW_near_59 : decode b_NW_near 59 = .ok (.invokevirtual 61, 3) := by decide +kernel
theorem d_NW_near_62 : decode b_NW_near 62 = .ok (.aload_n 0, 1) := by decide +kernel
theorem d_NW_near_63 : decode b_NW_near 63 = .ok (.getfield 22, 3) := by decide +kernel
theorem d_NW_near_66 : decode b_NW_near 66 = .ok (.iload_n 3, 1) := by decide +kernel
theorem d_NW_near_67 : decode b_NW_near 67 = .ok (.invokevirtual 114, 3) := by decide +kernel
theorem d_NW_near_70 : decode b_NW_near 70 = .ok (.invokestatic 118, 3) := by decide +kernel
theorem d_NW_near_73 : decode b_NW_near 73 = .ok (.iconst 1, 1) := by decide +kernel
theorem d_NW_near_74 : decode b_NW_near 74 = .ok (.isub, 1) := by decide +kernel
theorem d_NW_near_75 : decode b_NW_near 75 = .ok (.invokestatic 118, 3) := by decide +kernel
theorem d_NW_near_78 : decode b_NW_near 78 = .ok (.istore 4, 2) := by decide +kernel
theorem d_NW_near_80 : decode b_NW_near 80 = .ok (.aload_n 0, 1) := by decide +kernel
theorem d_NW_near_81 : decode b_NW_near 81 = .ok (.getfield 50, 3) := by decide +kernel
theorem d_NW_near_84 : decode b_NW_near 84 = .ok (.iload_n 3, 1) := by decide +kernel
theorem d_NW_near_85 : decode b_NW_near 85 = .ok (.aload_n 0, 1) := by decide +kernel
theorem d_NW_near_86 : decode b_NW_near 86 = .ok (.getfield 43, 3) := by decide +kernel
theorem d_NW_near_89 : decode b_NW_near 89 = .ok (.aload_n 0, 1) := by decide +kernel
theorem d_NW_near_90 : decode b_NW_near 90 = .ok (.getfield 22, 3) := by decide +kernel
theorem d_NW_near_93 : decode b_NW_near 93 = .ok (.iload_n 3, 1) := by decide +kernel
theorem d_NW_near_94 : decode b_NW_near 94 = .ok (.iload 4, 2) := by decide +kernel
theorem d_NW_near_96 : decode b_NW_near 96 = .ok (.invokevirtual 124, 3) := by decide +kernel
theorem d_NW_near_99 : decode b_NW_near 99 = .ok (.invokevirtual 128, 3) := by decide +kernel
theorem d_NW_near_102 : decode b_NW_near 102 = .ok (.iinc 3 1, 3) := by decide +kernel
theorem d_NW_near_105 : decode b_NW_near 105 = .ok (.goto (-59), 3) := by decide +kernel
theorem d_NW_near_108 : decode b_NW_near 108 = .ok (.aload_n 0, 1) := by decide +kernel
theorem d_NW_near_109 : decode b_NW_near 109 = .ok (.getfield 50, 3) := by decide +kernel
theorem d_NW_near_112 : decode b_NW_near 112 = .ok (.aload_n 0, 1) := by decide +kernel
theorem d_NW_near_113 : decode b_NW_near 113 = .ok (.getfield 29, 3) := by decide +kernel
theorem d_NW_near_116 : decode b_NW_near 116 = .ok (.aload_n 0, 1) := by decide +kernel
theorem d_NW_near_117 : decode b_NW_near 117 = .ok (.getfield 22, 3) := by decide +kernel
theorem d_NW_near_120 : decode b_NW_near 120 = .ok (.invokevirtual 132, 3) := by decide +kernel
theorem d_NW_near_123 : decode b_NW_near 123 = .ok (.aload_n 0, 1) := by decide +kernel
theorem d_NW_near_124 : decode b_NW_near 124 = .ok (.getfield 29, 3) := by decide +kernel
theorem d_NW_near_127 : decode b_NW_near 127 = .ok (.invokevirtual 136, 3) := by decide +kernel
theorem d_NW_near_130 : decode b_NW_near 130 = .ok (.ireturn, 1) := by decide +kernel
theorem d_NW_distance_0 : decode b_NW_distance 0 = .ok (.aload_n 0, 1) := by decide +kernel
theorem d_NW_distance_1 : decode b_NW_distance 1 = .ok (.getfield 29, 3) := by decide +kernel
theorem d_NW_distance_4 : decode b_NW_distance 4 = .ok (.iload_n 1, 1) := by decide +kernel
theorem d_NW_distance_5 : decode b_NW_distance 5 = .ok (.invokevirtual 149, 3) := by decide +kernel
theorem d_NW_distance_8 : decode b_NW_distance 8 = .ok (.ifCond .ne 11, 3) := by decide +kernel
theorem d_NW_distance_11 : decode b_NW_distance 11 = .ok (.new 58, 3) := by decide +kernel
theorem d_NW_distance_14 : decode b_NW_distance 14 = .ok (.dup, 1) := by decide +kernel
theorem d_NW_distance_15 : decode b_NW_distance 15 = .ok (.invokespecial 60, 3) := by decide +kernel
theorem d_NW_distance_18 : decode b_NW_distance 18 = .ok (.athrow, 1) := by decide +kernel
theorem d_NW_distance_19 : decode b_NW_distance 19 = .ok (.aload_n 0, 1) := by decide +kernel
theorem d_NW_distance_20 : decode b_NW_distance 20 = .ok (.getfield 29, 3) := by decide +kernel
theorem d_NW_distance_23 : decode b_NW_distance 23 = .ok (.iload_n 1, 1) := by decide +kernel
theorem d_NW_distance_24 : decode b_NW_distance 24 = .ok (.invokevirtual 156, 3) := by decide +kernel
theorem d_NW_distance_27 : decode b_NW_distance 27 = .ok (.ireturn, 1) := by decide +kernel
theorem d_NW_isTypable_0 : decode b_NW_isTypable 0 = .ok (.bipush 56, 2) := by decide +kernel
theorem d_NW_isTypable_2 : decode b_NW_isTypable 2 = .ok (.istore_n 2, 1) := by decide +kernel
theorem d_NW_isTypable_3 : decode b_NW_isTypable 3 = .ok (.iload_n 2, 1) := by decide +kernel
theorem d_NW_isTypable_4 : decode b_NW_isTypable 4 = .ok (.ifCond .lt 33, 3) := by decide +kernel
theorem d_NW_isTypable_7 : decode b_NW_isTypable 7 = .ok (.lload_n 0, 1) := by decide +kernel
theorem d_NW_isTypable_8 : decode b_NW_isTypable 8 = .ok (.iload_n 2, 1) := by decide +kernel
theorem d_NW_isTypable_9 : decode b_NW_isTypable 9 = .ok (.invokestatic 166, 3) := by decide +kernel
theorem d_NW_isTypable_12 : decode b_NW_isTypable 12 = .ok (.istore_n 3, 1) := by decide +kernel
theorem d_NW_isTypable_13 : decode b_NW_isTypable 13 = .ok (.iload_n 3, 1) := by decide +kernel
theorem d_NW_isTypable_14 : decode b_NW_isTypable 14 = .ok (.ifCond .eq 17, 3) := by decide +kernel
theorem d_NW_isTypable_17 : decode b_NW_isTypable 17 = .ok (.iload_n 3, 1) := by decide +kernel
theorem d_NW_isTypable_18 : decode b_NW_isTypable 18 = .ok (.bipush 33, 2) := by decide +kernel
theorem d_NW_isTypable_20 : decode b_NW_isTypable 20 = .ok (.if_icmp .lt 9, 3) := by decide +kernel
theorem d_NW_isTypable_23 : decode b_NW_isTypable 23 = .ok (.iload_n 3, 1) := by decide +kernel
theorem d_NW_isTypable_24 : decode b_NW_isTypable 24 = .ok (.bipush 126, 2) := by decide +kernel
theorem d_NW_isTypable_26 : decode b_NW_isTypable 26 = .ok (.if_icmp .le 5, 3) := by decide +kernel
theorem d_NW_isTypable_29 : decode b_NW_isTypable 29 = .ok (.iconst 0, 1) := by decide +kernel
theorem d_NW_isTypable_30 : decode b_NW_isTypable 30 = .ok (.ireturn, 1) := by decide +kernel
theorem d_NW_isTypable_31 : decode b_NW_isTypable 31 = .ok (.iinc 2 (-8), 3) := by decide +kernel
theorem d_NW_isTypable_34 : decode b_NW_isTypable 34 = .ok (.goto (-31), 3) := by decide +kernel
theorem d_NW_isTypable_37 : decode b_NW_isTypable 37 = .ok (.iconst 1, 1) := by decide +kernel
theorem d_NW_isTypable_38 : decode b_NW_isTypable 38 = .ok (.ireturn, 1) := by decide +kernel
theorem d_Mod_thrown_0 : decode b_Mod_thrown 0 = .ok (.aload_n 0, 1) := by decide +kernel
theorem d_Mod_thrown_1 : decode b_Mod_thrown 1 = .ok (.getfield 46, 3) := by decide +kernel
theorem d_Mod_thrown_4 : decode b_Mod_thrown 4 = .ok (.ireturn, 1) := by decide +kernel
theorem d_Mod_order_0 : decode b_Mod_order 0 = .ok (.iload_n 2, 1) := by decide +kernel
theorem d_Mod_order_1 : decode b_Mod_order 1 = .ok (.aload_n 0, 1) := by decide +kernel
theorem d_Mod_order_2 : decode b_Mod_order 2 = .ok (.getfield 20, 3) := by decide +kernel
theorem d_Mod_order_5 : decode b_Mod_order 5 = .ok (.iload_n 1, 1) := by decide +kernel
theorem d_Mod_order_6 : decode b_Mod_order 6 = .ok (.iaload, 1) := by decide +kernel
theorem d_Mod_order_7 : decode b_Mod_order 7 = .ok (.invokestatic 53, 3) := by decide +kernel
theorem d_Mod_order_10 : decode b_Mod_order 10 = .ok (.istore_n 3, 1) := by decide +kernel
theorem d_Mod_order_11 : decode b_Mod_order 11 = .ok (.iconst 0, 1) := by decide +kernel
theorem d_Mod_order_12 : decode b_Mod_order 12 = .ok (.istore 4, 2) := by decide +kernel
theorem d_Mod_order_14 : decode b_Mod_order 14 = .ok (.iload 4, 2) := by decide +kernel
theorem d_Mod_order_16 : decode b_Mod_order 16 = .ok (.iload_n 3, 1) := by decide +kernel
theorem d_Mod_order_17 : decode b_Mod_order 17 = .ok (.if_icmp .ge 52, 3) := by decide +kernel
theorem d_Mod_order_20 : decode b_Mod_order 20 = .ok (.aload_n 0, 1) := by decide +kernel
theorem d_Mod_order_21 : decode b_Mod_order 21 = .ok (.getfield 14, 3) := by decide +kernel
theorem d_Mod_order_24 : decode b_Mod_order 24 = .ok (.iload_n 1, 1) := by decide +kernel
theorem d_Mod_order_25 : decode b_Mod_order 25 = .ok (.bipush 60, 2) := by decide +kernel
theorem d_Mod_order_27 : decode b_Mod_order 27 = .ok (.imul, 1) := by decide +kernel
theorem d_Mod_order_28 : decode b_Mod_order 28 = .ok (.iload 4, 2) := by decide +kernel
theorem d_Mod_order_30 : decode b_Mod_order 30 = .ok (.iadd, 1) := by decide +kernel
theorem d_Mod_order_31 : decode b_Mod_order 31 = .ok (.baload, 1) := by decide +kernel
theorem d_Mod_order_32 : decode b_Mod_order 32 = .ok (.aload_n 0, 1) := by decide +kernel
theorem d_Mod_order_33 : decode b_Mod_order 33 = .ok (.getfield 7, 3) := by decide +kernel
theorem d_Mod_order_36 : decode b_Mod_order 36 = .ok (.iload 4, 2) := by decide +kernel
theorem d_Mod_order_38 : decode b_Mod_order 38 = .ok (.baload, 1) := by decide +kernel
theorem d_Mod_order_39 : decode b_Mod_order 39 = .ok (.if_icmp .eq 24, 3) := by decide +kernel
theorem d_Mod_order_42 : decode b_Mod_order 42 = .ok (.aload_n 0, 1) := by decide +kernel
theorem d_Mod_order_43 : decode b_Mod_order 43 = .ok (.getfield 14, 3) := by decide +kernel
theorem d_Mod_order_46 : decode b_Mod_order 46 = .ok (.iload_n 1, 1) := by decide +kernel
theorem d_Mod_order_47 : decode b_Mod_order 47 = .ok (.bipush 60, 2) := by decide +kernel
theorem d_Mod_order_49 : decode b_Mod_order 49 = .ok (.imul, 1) := by decide +kernel
theorem d_Mod_order_50 : decode b_Mod_order 50 = .ok (.iload 4, 2) := by decide +kernel
theorem d_Mod_order_52 : decode b_Mod_order 52 = .ok (.iadd, 1) := by decide +kernel
theorem d_Mod_order_53 : decode b_Mod_order 53 = .ok (.baload, 1) := by decide +kernel
theorem d_Mod_order_54 : decode b_Mod_order 54 = .ok (.aload_n 0, 1) := by decide +kernel
theorem d_Mod_order_55 : decode b_Mod_order 55 = .ok (.getfield 7, 3) := by decide +kernel
theorem d_Mod_order_58 : decode b_Mod_order 58 = .ok (.iload 4, 2) := by decide +kernel
theorem d_Mod_order_60 : decode b_Mod_order 60 = .ok (.baload, 1) := by decide +kernel
theorem d_Mod_order_61 : decode b_Mod_order 61 = .ok (.isub, 1) := by decide +kernel
theorem d_Mod_order_62 : decode b_Mod_order 62 = .ok (.ireturn, 1) := by decide +kernel
theorem d_Mod_order_63 : decode b_Mod_order 63 = .ok (.iinc 4 1, 3) := by decide +kernel
theorem d_Mod_order_66 : decode b_Mod_order 66 = .ok (.goto (-52), 3) := by decide +kernel
theorem d_Mod_order_69 : decode b_Mod_order 69 = .ok (.aload_n 0, 1) := by decide +kernel
theorem d_Mod_order_70 : decode b_Mod_order 70 = .ok (.getfield 20, 3) := by decide +kernel
theorem d_Mod_order_73 : decode b_Mod_order 73 = .ok (.iload_n 1, 1) := by decide +kernel
theorem d_Mod_order_74 : decode b_Mod_order 74 = .ok (.iaload, 1) := by decide +kernel
theorem d_Mod_order_75 : decode b_Mod_order 75 = .ok (.iload_n 2, 1) := by decide +kernel
theorem d_Mod_order_76 : decode b_Mod_order 76 = .ok (.isub, 1) := by decide +kernel
theorem d_Mod_order_77 : decode b_Mod_order 77 = .ok (.ireturn, 1) := by decide +kernel
theorem d_Mod_remove_0 : decode b_Mod_remove 0 = .ok (.aload_n 0, 1) := by decide +kernel
theorem d_Mod_remove_1 : decode b_Mod_remove 1 = .ok (.invokevirtual 63, 3) := by decide +kernel
theorem d_Mod_remove_4 : decode b_Mod_remove 4 = .ok (.istore_n 1, 1) := by decide +kernel
theorem d_Mod_remove_5 : decode b_Mod_remove 5 = .ok (.aload_n 0, 1) := by decide +kernel
theorem d_Mod_remove_6 : decode b_Mod_remove 6 = .ok (.iload_n 1, 1) := by decide +kernel
theorem d_Mod_remove_7 : decode b_Mod_remove 7 = .ok (.ifCond .ne 7, 3) := by decide +kernel
theorem d_Mod_remove_10 : decode b_Mod_remove 10 = .ok (.iconst 1, 1) := by decide +kernel
theorem d_Mod_remove_11 : decode b_Mod_remove 11 = .ok (.goto 4, 3) := by decide +kernel
theorem d_Mod_remove_14 : decode b_Mod_remove 14 = .ok (.iconst 0, 1) := by decide +kernel
theorem d_Mod_remove_15 : decode b_Mod_remove 15 = .ok (.putfield 46, 3) := by decide +kernel
theorem d_Mod_remove_18 : decode b_Mod_remove 18 = .ok (.iload_n 1, 1) := by decide +kernel
theorem d_Mod_remove_19 : decode b_Mod_remove 19 = .ok (.ifCond .ne 5, 3) := by decide +kernel
theorem d_Mod_remove_22 : decode b_Mod_remove 22 = .ok (.iconst 0, 1) := by decide +kernel
theorem d_Mod_remove_23 : decode b_Mod_remove 23 = .ok (.ireturn, 1) := by decide +kernel
theorem d_Mod_remove_24 : decode b_Mod_remove 24 = .ok (.aload_n 0, 1) := by decide +kernel
theorem d_Mod_remove_25 : decode b_Mod_remove 25 = .ok (.iload_n 1, 1) := by decide +kernel
theorem d_Mod_remove_26 : decode b_Mod_remove 26 = .ok (.invokevirtual 67, 3) := by decide +kernel
theorem d_Mod_remove_29 : decode b_Mod_remove 29 = .ok (.istore_n 2, 1) := by decide +kernel
theorem d_Mod_remove_30 : decode b_Mod_remove 30 = .ok (.iload_n 2, 1) := by decide +kernel
theorem d_Mod_remove_31 : decode b_Mod_remove 31 = .ok (.aload_n 0, 1) := by decide +kernel
theorem d_Mod_remove_32 : decode b_Mod_remove 32 = .ok (.getfield 57, 3) := by decide +kernel
theorem d_Mod_remove_35 : decode b_Mod_remove 35 = .ok (.if_icmp .eq 12, 3) := by decide +kernel
theorem d_Mod_remove_38 : decode b_Mod_remove 38 = .ok (.aload_n 0, 1) := by decide +kernel
theorem d_Mod_remove_39 : decode b_Mod_remove 39 = .ok (.iload_n 2, 1) := by decide +kernel
theorem d_Mod_remove_40 : decode b_Mod_remove 40 = .ok (.iload_n 1, 1) := by decide +kernel
theorem d_Mod_remove_41 : decode b_Mod_remove 41 = .ok (.invokevirtual 60, 3) := by decide +kernel
theorem d_Mod_remove_44 : decode b_Mod_remove 44 = .ok (.ifCond .eq 8, 3) := by decide +kernel
theorem d_Mod_remove_47 : decode b_Mod_remove 47 = .ok (.aload_n 0, 1) := by decide +kernel
theorem d_Mod_remove_48 : decode b_Mod_remove 48 = .ok (.getfield 57, 3) := by decide +kernel
theorem d_Mod_remove_51 : decode b_Mod_remove 51 = .ok (.ireturn, 1) := by decide +kernel
theorem d_Mod_remove_52 : decode b_Mod_remove 52 = .ok (.iload_n 2, 1) := by decide +kernel
theorem d_Mod_remove_53 : decode b_Mod_remove 53 = .ok (.istore_n 3, 1) := by decide +kernel
theorem d_Mod_remove_54 : decode b_Mod_remove 54 = .ok (.iload_n 3, 1) := by decide +kernel
theorem d_Mod_remove_55 : decode b_Mod_remove 55 = .ok (.iconst 1, 1) := by decide +kernel
theorem d_Mod_remove_56 : decode b_Mod_remove 56 = .ok (.iadd, 1) := by decide +kernel
theorem d_Mod_remove_57 : decode b_Mod_remove 57 = .ok (.aload_n 0, 1) := by decide +kernel
theorem d_Mod_remove_58 : decode b_Mod_remove 58 = .ok (.getfield 57, 3) := by decide +kernel
theorem d_Mod_remove_61 : decode b_Mod_remove 61 = .ok (.if_icmp .ge 25, 3) := by decide +kernel
theorem d_Mod_remove_64 : decode b_Mod_remove 64 = .ok (.aload_n 0, 1) := by decide +kernel
theorem d_Mod_remove_65 : decode b_Mod_remove 65 = .ok (.iload_n 3, 1) := by decide +kernel
theorem d_Mod_remove_66 : decode b_Mod_remove 66 = .ok (.iconst 1, 1) := by decide +kernel
theorem d_Mod_remove_67 : decode b_Mod_remove 67 = .ok (.iadd, 1) := by decide +kernel
theorem d_Mod_remove_68 : decode b_Mod_remove 68 = .ok (.iload_n 3, 1) := by decide +kernel
theorem d_Mod_remove_69 : decode b_Mod_remove 69 = .ok (.aload_n 0, 1) := by decide +kernel
theorem d_Mod_remove_70 : decode b_Mod_remove 70 = .ok (.getfield 20, 3) := by decide +kernel
theorem d_Mod_remove_73 : decode b_Mod_remove 73 = .ok (.iload_n 3, 1) := by decide +kernel
theorem d_Mod_remove_74 : decode b_Mod_remove 74 = .ok (.iconst 1, 1) := by decide +kernel
theorem d_Mod_remove_75 : decode b_Mod_remove 75 = .ok (.iadd, 1) := by decide +kernel
theorem d_Mod_remove_76 : decode b_Mod_remove 76 = .ok (.iaload, 1) := by decide +kernel
theorem d_Mod_remove_77 : decode b_Mod_remove 77 = .ok (.invokevirtual 74, 3) := by decide +kernel
theorem d_Mod_remove_80 : decode b_Mod_remove 80 = .ok (.iinc 3 1, 3) := by decide +kernel
theorem d_Mod_remove_83 : decode b_Mod_remove 83 = .ok (.goto (-29), 3) := by decide +kernel
theorem d_Mod_remove_86 : decode b_Mod_remove 86 = .ok (.aload_n 0, 1) := by decide +kernel
theorem d_Mod_remove_87 : decode b_Mod_remove 87 = .ok (.dup, 1) := by decide +kernel
theorem d_Mod_remove_88 : decode b_Mod_remove 88 = .ok (.getfield 57, 3) := by decide +kernel
theorem d_Mod_remove_91 : decode b_Mod_remove 91 = .ok (.iconst 1, 1) := by decide +kernel
theorem d_Mod_remove_92 : decode b_Mod_remove 92 = .ok (.isub, 1) := by decide +kernel
theorem d_Mod_remove_93 : decode b_Mod_remove 93 = .ok (.putfield 57, 3) := by decide +kernel
theorem d_Mod_remove_96 : decode b_Mod_remove 96 = .ok (.aload_n 0, 1) := by decide +kernel
theorem d_Mod_remove_97 : decode b_Mod_remove 97 = .ok (.dup, 1) := by decide +kernel
theorem d_Mod_remove_98 : decode b_Mod_remove 98 = .ok (.getfield 71, 3) := by decide +kernel
theorem d_Mod_remove_101 : decode b_Mod_remove 101 = .ok (.iload_n 1, 1) := by decide +kernel
theorem d_Mod_remove_102 : decode b_Mod_remove 102 = .ok (.isub, 1) := by decide +kernel
theorem d_Mod_remove_103 : decode b_Mod_remove 103 = .ok (.putfield 71, 3) := by decide +kernel
theorem d_Mod_remove_106 : decode b_Mod_remove 106 = .ok (.aload_n 0, 1) := by decide +kernel
theorem d_Mod_remove_107 : decode b_Mod_remove 107 = .ok (.getfield 57, 3) := by decide +kernel
theorem d_Mod_remove_110 : decode b_Mod_remove 110 = .ok (.ireturn, 1) := by decide +kernel
theorem d_Mod_fits_0 : decode b_Mod_fits 0 = .ok (.aload_n 0, 1) := by decide +kernel
theorem d_Mod_fits_1 : decode b_Mod_fits 1 = .ok (.getfield 39, 3) := by decide +kernel
theorem d_Mod_fits_4 : decode b_Mod_fits 4 = .ok (.iconst 0, 1) := by decide +kernel
theorem d_Mod_fits_5 : decode b_Mod_fits 5 = .ok (.iconst 1, 1) := by decide +kernel
theorem d_Mod_fits_6 : decode b_Mod_fits 6 = .ok (.bastore, 1) := by decide +kernel
theorem d_Mod_fits_7 : decode b_Mod_fits 7 = .ok (.iconst 1, 1) := by decide +kernel
theorem d_Mod_fits_8 : decode b_Mod_fits 8 = .ok (.istore_n 3, 1) := by decide +kernel
theorem d_Mod_fits_9 : decode b_Mod_fits 9 = .ok (.iload_n 3, 1) := by decide +kernel
theorem d_Mod_fits_10 : decode b_Mod_fits 10 = .ok (.iload_n 2, 1) := by decide +kernel
theorem d_Mod_fits_11 : decode b_Mod_fits 11 = .ok (.if_icmp .gt 44, 3) := by decide +kernel
theorem d_Mod_fits_14 : decode b_Mod_fits 14 = .ok (.aload_n 0, 1) := by decide +kernel
theorem d_Mod_fits_15 : decode b_Mod_fits 15 = .ok (.getfield 39, 3) := by decide +kernel
theorem d_Mod_fits_18 : decode b_Mod_fits 18 = .ok (.iload_n 3, 1) := by decide +kernel
theorem d_Mod_fits_19 : decode b_Mod_fits 19 = .ok (.aload_n 0, 1) := by decide +kernel
theorem d_Mod_fits_20 : decode b_Mod_fits 20 = .ok (.getfield 39, 3) := by decide +kernel
theorem d_Mod_fits_23 : decode b_Mod_fits 23 = .ok (.iload_n 3, 1) := by decide +kernel
theorem d_Mod_fits_24 : decode b_Mod_fits 24 = .ok (.iconst 1, 1) := by decide +kernel
theorem d_Mod_fits_25 : decode b_Mod_fits 25 = .ok (.isub, 1) := by decide +kernel
theorem d_Mod_fits_26 : decode b_Mod_fits 26 = .ok (.baload, 1) := by decide +kernel
theorem d_Mod_fits_27 : decode b_Mod_fits 27 = .ok (.ifCond .eq 20, 3) := by decide +kernel
theorem d_Mod_fits_30 : decode b_Mod_fits 30 = .ok (.aload_n 0, 1) := by decide +kernel
theorem d_Mod_fits_31 : decode b_Mod_fits 31 = .ok (.getfield 7, 3) := by decide +kernel
theorem d_Mod_fits_34 : decode b_Mod_fits 34 = .ok (.iload_n 3, 1) := by decide +kernel
theorem d_Mod_fits_35 : decode b_Mod_fits 35 = .ok (.iconst 1, 1) := by decide +kernel
theorem d_Mod_fits_36 : decode b_Mod_fits 36 = .ok (.isub, 1) := by decide +kernel
theorem d_Mod_fits_37 : decode b_Mod_fits 37 = .ok (.baload, 1) := by decide +kernel
theorem d_Mod_fits_38 : decode b_Mod_fits 38 = .ok (.bipush 42, 2) := by decide +kernel
theorem d_Mod_fits_40 : decode b_Mod_fits 40 = .ok (.if_icmp .ne 7, 3) := by decide +kernel
theorem d_Mod_fits_43 : decode b_Mod_fits 43 = .ok (.iconst 1, 1) := by decide +kernel
theorem d_Mod_fits_44 : decode b_Mod_fits 44 = .ok (.goto 4, 3) := by decide +kernel
theorem d_Mod_fits_47 : decode b_Mod_fits 47 = .ok (.iconst 0, 1) := by decide +kernel
theorem d_Mod_fits_48 : decode b_Mod_fits 48 = .ok (.bastore, 1) := by decide +kernel
theorem d_Mod_fits_49 : decode b_Mod_fits 49 = .ok (.iinc 3 1, 3) := by decide +kernel
theorem d_Mod_fits_52 : decode b_Mod_fits 52 = .ok (.goto (-43), 3) := by decide +kernel
theorem d_Mod_fits_55 : decode b_Mod_fits 55 = .ok (.iconst 0, 1) := by decide +kernel
theorem d_Mod_fits_56 : decode b_Mod_fits 56 = .ok (.istore_n 3, 1) := by decide +kernel
theorem d_Mod_fits_57 : decode b_Mod_fits 57 = .ok (.iload_n 3, 1) := by decide +kernel
theorem d_Mod_fits_58 : decode b_Mod_fits 58 = .ok (.aload_n 0, 1) := by decide +kernel
theorem d_Mod_fits_59 : decode b_Mod_fits 59 = .ok (.getfield 20, 3) := by decide +kernel
theorem d_Mod_fits_62 : decode b_Mod_fits 62 = .ok (.iload_n 1, 1) := by decide +kernel
theorem d_Mod_fits_63 : decode b_Mod_fits 63 = .ok (.iaload, 1) := by decide +kernel
theorem d_Mod_fits_64 : decode b_Mod_fits 64 = .ok (.if_icmp .ge 159, 3) := by decide +kernel
theorem d_Mod_fits_67 : decode b_Mod_fits 67 = .ok (.aload_n 0, 1) := by decide +kernel
theorem d_Mod_fits_68 : decode b_Mod_fits 68 = .ok (.getfield 14, 3) := by decide +kernel
theorem d_Mod_fits_71 : decode b_Mod_fits 71 = .ok (.iload_n 1, 1) := by decide +kernel
theorem d_Mod_fits_72 : decode b_Mod_fits 72 = .ok (.bipush 60, 2) := by decide +kernel
theorem d_Mod_fits_74 : decode b_Mod_fits 74 = .ok (.imul, 1) := by decide +kernel
theorem d_Mod_fits_75 : decode b_Mod_fits 75 = .ok (.iload_n 3, 1) := by decide +kernel
theorem d_Mod_fits_76 : decode b_Mod_fits 76 = .ok (.iadd, 1) := by decide +kernel
theorem d_Mod_fits_77 : decode b_Mod_fits 77 = .ok (.baload, 1) := by decide +kernel
theorem d_Mod_fits_78 : decode b_Mod_fits 78 = .ok (.istore 4, 2) := by decide +kernel
theorem d_Mod_fits_80 : decode b_Mod_fits 80 = .ok (.aload_n 0, 1) := by decide +kernel
theorem d_Mod_fits_81 : decode b_Mod_fits 81 = .ok (.getfield 43, 3) := by decide +kernel
theorem d_Mod_fits_84 : decode b_Mod_fits 84 = .ok (.iconst 0, 1) := by decide +kernel
theorem d_Mod_fits_85 : decode b_Mod_fits 85 = .ok (.iconst 0, 1) := by decide +kernel
theorem d_Mod_fits_86 : decode b_Mod_fits 86 = .ok (.bastore, 1) := by decide +kernel
theorem d_Mod_fits_87 : decode b_Mod_fits 87 = .ok (.iconst 1, 1) := by decide +kernel
theorem d_Mod_fits_88 : decode b_Mod_fits 88 = .ok (.istore 5, 2) := by decide +kernel
theorem d_Mod_fits_90 : decode b_Mod_fits 90 = .ok (.iload 5, 2) := by decide +kernel
theorem d_Mod_fits_92 : decode b_Mod_fits 92 = .ok (.iload_n 2, 1) := by decide +kernel
theorem d_Mod_fits_93 : decode b_Mod_fits 93 = .ok (.if_icmp .gt 95, 3) := by decide +kernel
theorem d_Mod_fits_96 : decode b_Mod_fits 96 = .ok (.aload_n 0, 1) := by decide +kernel
theorem d_Mod_fits_97 : decode b_Mod_fits 97 = .ok (.getfield 7, 3) := by decide +kernel
theorem d_Mod_fits_100 : decode b_Mod_fits 100 = .ok (.iload 5, 2) := by decide +kernel
theorem d_Mod_fits_102 : decode b_Mod_fits 102 = .ok (.iconst 1, 1) := by decide +kernel
theorem d_Mod_fits_103 : decode b_Mod_fits 103 = .ok (.isub, 1) := by decide +kernel
theorem d_Mod_fits_104 : decode b_Mod_fits 104 = .ok (.baload, 1) := by decide +kernel
theorem d_Mod_fits_105 : decode b_Mod_fits 105 = .ok (.istore 6, 2) := by decide +kernel
theorem d_Mod_fits_107 : decode b_Mod_fits 107 = .ok (.aload_n 0, 1) := by decide +kernel
theorem d_Mod_fits_108 : decode b_Mod_fits 108 = .ok (.getfield 43, 3) := by decide +kernel
theorem d_Mod_fits_111 : decode b_Mod_fits 111 = .ok (.iload 5, 2) := by decide +kernel
theorem d_Mod_fits_113 : decode b_Mod_fits 113 = .ok (.iload 6, 2) := by decide +kernel
theorem d_Mod_fits_115 : decode b_Mod_fits 115 = .ok (.bipush 42, 2) := by decide +kernel
theorem d_Mod_fits_117 : decode b_Mod_fits 117 = .ok (.if_icmp .ne 33, 3) := by decide +kernel
theorem d_Mod_fits_120 : decode b_Mod_fits 120 = .ok (.aload_n 0, 1) := by decide +kernel
theorem d_Mod_fits_121 : decode b_Mod_fits 121 = .ok (.getfield 43, 3) := by decide +kernel
theorem d_Mod_fits_124 : decode b_Mod_fits 124 = .ok (.iload 5, 2) := by decide +kernel
theorem d_Mod_fits_126 : decode b_Mod_fits 126 = .ok (.iconst 1, 1) := by decide +kernel
theorem d_Mod_fits_127 : decode b_Mod_fits 127 = .ok (.isub, 1) := by decide +kernel
theorem d_Mod_fits_128 : decode b_Mod_fits 128 = .ok (.baload, 1) := by decide +kernel
theorem d_Mod_fits_129 : decode b_Mod_fits 129 = .ok (.ifCond .ne 13, 3) := by decide +kernel
theorem d_Mod_fits_132 : decode b_Mod_fits 132 = .ok (.aload_n 0, 1) := by decide +kernel
theorem d_Mod_fits_133 : decode b_Mod_fits 133 = .ok (.getfield 39, 3) := by decide +kernel
theorem d_Mod_fits_136 : decode b_Mod_fits 136 = .ok (.iload 5, 2) := by decide +kernel
theorem d_Mod_fits_138 : decode b_Mod_fits 138 = .ok (.baload, 1) := by decide +kernel
theorem d_Mod_fits_139 : decode b_Mod_fits 139 = .ok (.ifCond .eq 7, 3) := by decide +kernel
theorem d_Mod_fits_142 : decode b_Mod_fits 142 = .ok (.iconst 1, 1) := by decide +kernel
theorem d_Mod_fits_143 : decode b_Mod_fits 143 = .ok (.goto 38, 3) := by decide +kernel
theorem d_Mod_fits_146 : decode b_Mod_fits 146 = .ok (.iconst 0, 1) := by decide +kernel
theorem d_Mod_fits_147 : decode b_Mod_fits 147 = .ok (.goto 34, 3) := by decide +kernel
theorem d_Mod_fits_150 : decode b_Mod_fits 150 = .ok (.aload_n 0, 1) := by decide +kernel
theorem d_Mod_fits_151 : decode b_Mod_fits 151 = .ok (.getfield 39, 3) := by decide +kernel
theorem d_Mod_fits_154 : decode b_Mod_fits 154 = .ok (.iload 5, 2) := by decide +kernel
theorem d_Mod_fits_156 : decode b_Mod_fits 156 = .ok (.iconst 1, 1) := by decide +kernel
theorem d_Mod_fits_157 : decode b_Mod_fits 157 = .ok (.isub, 1) := by decide +kernel
theorem d_Mod_fits_158 : decode b_Mod_fits 158 = .ok (.baload, 1) := by decide +kernel
theorem d_Mod_fits_159 : decode b_Mod_fits 159 = .ok (.ifCond .eq 21, 3) := by decide +kernel
theorem d_Mod_fits_162 : decode b_Mod_fits 162 = .ok (.iload 6, 2) := by decide +kernel
theorem d_Mod_fits_164 : decode b_Mod_fits 164 = .ok (.bipush 63, 2) := by decide +kernel
theorem d_Mod_fits_166 : decode b_Mod_fits 166 = .ok (.if_icmp .eq 10, 3) := by decide +kernel
theorem d_Mod_fits_169 : decode b_Mod_fits 169 = .ok (.iload 6, 2) := by decide +kernel
theorem d_Mod_fits_171 : decode b_Mod_fits 171 = .ok (.iload 4, 2) := by decide +kernel
theorem d_Mod_fits_173 : decode b_Mod_fits 173 = .ok (.if_icmp .ne 7, 3) := by decide +kernel
theorem d_Mod_fits_176 : decode b_Mod_fits 176 = .ok (.iconst 1, 1) := by decide +kernel
theorem d_Mod_fits_177 : decode b_Mod_fits 177 = .ok (.goto 4, 3) := by decide +kernel
theorem d_Mod_fits_180 : decode b_Mod_fits 180 = .ok (.iconst 0, 1) := by decide +kernel
theorem d_Mod_fits_181 : decode b_Mod_fits 181 = .ok (.bastore, 1) := by decide +kernel
theorem d_Mod_fits_182 : decode b_Mod_fits 182 = .ok (.iinc 5 1, 3) := by decide +kernel
theorem d_Mod_fits_185 : decode b_Mod_fits 185 = .ok (.goto (-95), 3) := by decide +kernel
theorem d_Mod_fits_188 : decode b_Mod_fits 188 = .ok (.iconst 0, 1) := by decide +kernel
theorem d_Mod_fits_189 : decode b_Mod_fits 189 = .ok (.istore 5, 2) := by decide +kernel
theorem d_Mod_fits_191 : decode b_Mod_fits 191 = .ok (.iload 5, 2) := by decide +kernel
theorem d_Mod_fits_193 : decode b_Mod_fits 193 = .ok (.iload_n 2, 1) := by decide +kernel
theorem d_Mod_fits_194 : decode b_Mod_fits 194 = .ok (.if_icmp .gt 23, 3) := by decide +kernel
theorem d_Mod_fits_197 : decode b_Mod_fits 197 = .ok (.aload_n 0, 1) := by decide +kernel
theorem d_Mod_fits_198 : decode b_Mod_fits 198 = .ok (.getfield 39, 3) := by decide +kernel
theorem d_Mod_fits_201 : decode b_Mod_fits 201 = .ok (.iload 5, 2) := by decide +kernel
theorem d_Mod_fits_203 : decode b_Mod_fits 203 = .ok (.aload_n 0, 1) := by decide +kernel
theorem d_Mod_fits_204 : decode b_Mod_fits 204 = .ok (.getfield 43, 3) := by decide +kernel
theorem d_Mod_fits_207 : decode b_Mod_fits 207 = .ok (.iload 5, 2) := by decide +kernel
theorem d_Mod_fits_209 : decode b_Mod_fits 209 = .ok (.baload, 1) := by decide +kernel
theorem d_Mod_fits_210 : decode b_Mod_fits 210 = .ok (.bastore, 1) := by decide +kernel
theorem d_Mod_fits_211 : decode b_Mod_fits 211 = .ok (.iinc 5 1, 3) := by decide +kernel
theorem d_Mod_fits_214 : decode b_Mod_fits 214 = .ok (.goto (-23), 3) := by decide +kernel
theorem d_Mod_fits_217 : decode b_Mod_fits 217 = .ok (.iinc 3 1, 3) := by decide +kernel
theorem d_Mod_fits_220 : decode b_Mod_fits 220 = .ok (.goto (-163), 3) := by decide +kernel
theorem d_Mod_fits_223 : decode b_Mod_fits 223 = .ok (.aload_n 0, 1) := by decide +kernel
theorem d_Mod_fits_224 : decode b_Mod_fits 224 = .ok (.getfield 39, 3) := by decide +kernel
theorem d_Mod_fits_227 : decode b_Mod_fits 227 = .ok (.iload_n 2, 1) := by decide +kernel
theorem d_Mod_fits_228 : decode b_Mod_fits 228 = .ok (.baload, 1) := by decide +kernel
theorem d_Mod_fits_229 : decode b_Mod_fits 229 = .ok (.ireturn, 1) := by decide +kernel
theorem d_Mod_distance_0 : decode b_Mod_distance 0 = .ok (.aload_n 0, 1) := by decide +kernel
theorem d_Mod_distance_1 : decode b_Mod_distance 1 = .ok (.iload_n 1, 1) := by decide +kernel
theorem d_Mod_distance_2 : decode b_Mod_distance 2 = .ok (.ifCond .lt 11, 3) := by decide +kernel
theorem d_Mod_distance_5 : decode b_Mod_distance 5 = .ok (.iload_n 1, 1) := by decide +kernel
theorem d_Mod_distance_6 : decode b_Mod_distance 6 = .ok (.aload_n 0, 1) := by decide +kernel
theorem d_Mod_distance_7 : decode b_Mod_distance 7 = .ok (.getfield 81, 3) := by decide +kernel
theorem d_Mod_distance_10 : decode b_Mod_distance 10 = .ok (.if_icmp .lt 7, 3) := by decide +kernel
theorem d_Mod_distance_13 : decode b_Mod_distance 13 = .ok (.iconst 1, 1) := by decide +kernel
theorem d_Mod_distance_14 : decode b_Mod_distance 14 = .ok (.goto 4, 3) := by decide +kernel
theorem d_Mod_distance_17 : decode b_Mod_distance 17 = .ok (.iconst 0, 1) := by decide +kernel
theorem d_Mod_distance_18 : decode b_Mod_distance 18 = .ok (.putfield 46, 3) := by decide +kernel
theorem d_Mod_distance_21 : decode b_Mod_distance 21 = .ok (.aload_n 0, 1) := by decide +kernel
theorem d_Mod_distance_22 : decode b_Mod_distance 22 = .ok (.getfield 46, 3) := by decide +kernel
theorem d_Mod_distance_25 : decode b_Mod_distance 25 = .ok (.ifCond .eq 7, 3) := by decide +kernel
theorem d_Mod_distance_28 : decode b_Mod_distance 28 = .ok (.iconst 0, 1) := by decide +kernel
theorem d_Mod_distance_29 : decode b_Mod_distance 29 = .ok (.goto 9, 3) := by decide +kernel
theorem d_Mod_distance_32 : decode b_Mod_distance 32 = .ok (.aload_n 0, 1) := by decide +kernel
theorem d_Mod_distance_33 : decode b_Mod_distance 33 = .ok (.getfield 27, 3) := by decide +kernel
theorem d_Mod_distance_36 : decode b_Mod_distance 36 = .ok (.iload_n 1, 1) := by decide +kernel
theorem d_Mod_distance_37 : decode b_Mod_distance 37 = .ok (.iaload, 1) := by decide +kernel
theorem d_Mod_distance_38 : decode b_Mod_distance 38 = .ok (.ireturn, 1) := by decide +kernel
theorem d_Met_stepsTo_0 : decode b_Met_stepsTo 0 = .ok (.aload_n 1, 1) := by decide +kernel
theorem d_Met_stepsTo_1 : decode b_Met_stepsTo 1 = .ok (.iload_n 2, 1) := by decide +kernel
theorem d_Met_stepsTo_2 : decode b_Met_stepsTo 2 = .ok (.invokevirtual 44, 3) := by decide +kernel
theorem d_Met_stepsTo_5 : decode b_Met_stepsTo 5 = .ok (.istore 4, 2) := by decide +kernel
theorem d_Met_stepsTo_7 : decode b_Met_stepsTo 7 = .ok (.iload 4, 2) := by decide +kernel
theorem d_Met_stepsTo_9 : decode b_Met_stepsTo 9 = .ok (.aload_n 0, 1) := by decide +kernel
theorem d_Met_stepsTo_10 : decode b_Met_stepsTo 10 = .ok (.getfield 20, 3) := by decide +kernel
theorem d_Met_stepsTo_13 : decode b_Met_stepsTo 13 = .ok (.isub, 1) := by decide +kernel
theorem d_Met_stepsTo_14 : decode b_Met_stepsTo 14 = .ok (.invokestatic 49, 3) := by decide +kernel
theorem d_Met_stepsTo_17 : decode b_Met_stepsTo 17 = .ok (.iload_n 3, 1) := by decide +kernel
theorem d_Met_stepsTo_18 : decode b_Met_stepsTo 18 = .ok (.if_icmp .le 5, 3) := by decide +kernel
theorem d_Met_stepsTo_21 : decode b_Met_stepsTo 21 = .ok (.iconst (-1), 1) := by decide +kernel
theorem d_Met_stepsTo_22 : decode b_Met_stepsTo 22 = .ok (.ireturn, 1) := by decide +kernel
theorem d_Met_stepsTo_23 : decode b_Met_stepsTo 23 = .ok (.iconst 0, 1) := by decide +kernel
theorem d_Met_stepsTo_24 : decode b_Met_stepsTo 24 = .ok (.istore 5, 2) := by decide +kernel
theorem d_Met_stepsTo_26 : decode b_Met_stepsTo 26 = .ok (.iconst 1, 1) := by decide +kernel
theorem d_Met_stepsTo_27 : decode b_Met_stepsTo 27 = .ok (.istore 6, 2) := by decide +kernel
theorem d_Met_stepsTo_29 : decode b_Met_stepsTo 29 = .ok (.iload 6, 2) := by decide +kernel
theorem d_Met_stepsTo_31 : decode b_Met_stepsTo 31 = .ok (.iload 4, 2) := by decide +kernel
theorem d_Met_stepsTo_33 : decode b_Met_stepsTo 33 = .ok (.if_icmp .gt 61, 3) := by decide +kernel
theorem d_Met_stepsTo_36 : decode b_Met_stepsTo 36 = .ok (.aload_n 1, 1) := by decide +kernel
theorem d_Met_stepsTo_37 : decode b_Met_stepsTo 37 = .ok (.iload_n 2, 1) := by decide +kernel
theorem d_Met_stepsTo_38 : decode b_Met_stepsTo 38 = .ok (.iload 6, 2) := by decide +kernel
theorem d_Met_stepsTo_40 : decode b_Met_stepsTo 40 = .ok (.iconst 1, 1) := by decide +kernel
theorem d_Met_stepsTo_41 : decode b_Met_stepsTo 41 = .ok (.isub, 1) := by decide +kernel
theorem d_Met_stepsTo_42 : decode b_Met_stepsTo 42 = .ok (.invokevirtual 54, 3) := by decide +kernel
theorem d_Met_stepsTo_45 : decode b_Met_stepsTo 45 = .ok (.istore 7, 2) := by decide +kernel
theorem d_Met_stepsTo_47 : decode b_Met_stepsTo 47 = .ok (.aload_n 0, 1) := by decide +kernel
theorem d_Met_stepsTo_48 : decode b_Met_stepsTo 48 = .ok (.iload 6, 2) := by decide +kernel
theorem d_Met_stepsTo_50 : decode b_Met_stepsTo 50 = .ok (.aload_n 0, 1) := by decide +kernel
theorem d_Met_stepsTo_51 : decode b_Met_stepsTo 51 = .ok (.getfield 9, 3) := by decide +kernel
theorem d_Met_stepsTo_54 : decode b_Met_stepsTo 54 = .ok (.iload 7, 2) := by decide +kernel
theorem d_Met_stepsTo_56 : decode b_Met_stepsTo 56 = .ok (.laload, 1) := by decide +kernel
theorem d_Met_stepsTo_57 : decode b_Met_stepsTo 57 = .ok (.aload_n 0, 1) := by decide +kernel
theorem d_Met_stepsTo_58 : decode b_Met_stepsTo 58 = .ok (.getfield 9, 3) := by decide +kernel
theorem d_Met_stepsTo_61 : decode b_Met_stepsTo 61 = .ok (.iload 5, 2) := by decide +kernel
theorem d_Met_stepsTo_63 : decode b_Met_stepsTo 63 = .ok (.laload, 1) := by decide +kernel
theorem d_Met_stepsTo_64 : decode b_Met_stepsTo 64 = .ok (.iload_n 3, 1) := by decide +kernel
theorem d_Met_stepsTo_65 : decode b_Met_stepsTo 65 = .ok (.invokevirtual 57, 3) := by decide +kernel
theorem d_Met_stepsTo_68 : decode b_Met_stepsTo 68 = .ok (.aload_n 0, 1) := by decide +kernel
theorem d_Met_stepsTo_69 : decode b_Met_stepsTo 69 = .ok (.getfield 17, 3) := by decide +kernel
theorem d_Met_stepsTo_72 : decode b_Met_stepsTo 72 = .ok (.iload 6, 2) := by decide +kernel
theorem d_Met_stepsTo_74 : decode b_Met_stepsTo 74 = .ok (.aaload, 1) := by decide +kernel
theorem d_Met_stepsTo_75 : decode b_Met_stepsTo 75 = .ok (.iload_n 3, 1) := by decide +kernel
theorem d_Met_stepsTo_76 : decode b_Met_stepsTo 76 = .ok (.laload, 1) := by decide +kernel
theorem d_Met_stepsTo_77 : decode b_Met_stepsTo 77 = .ok (.lconst 0, 1) := by decide +kernel
theorem d_Met_stepsTo_78 : decode b_Met_stepsTo 78 = .ok (.lcmp, 1) := by decide +kernel
theorem d_Met_stepsTo_79 : decode b_Met_stepsTo 79 = .ok (.ifCond .ne 5, 3) := by decide +kernel
theorem d_Met_stepsTo_82 : decode b_Met_stepsTo 82 = .ok (.iconst (-1), 1) := by decide +kernel
theorem d_Met_stepsTo_83 : decode b_Met_stepsTo 83 = .ok (.ireturn, 1) := by decide +kernel
theorem d_Met_stepsTo_84 : decode b_Met_stepsTo 84 = .ok (.iload 7, 2) := by decide +kernel
theorem d_Met_stepsTo_86 : decode b_Met_stepsTo 86 = .ok (.istore 5, 2) := by decide +kernel
theorem d_Met_stepsTo_88 : decode b_Met_stepsTo 88 = .ok (.iinc 6 1, 3) := by decide +kernel
theorem d_Met_stepsTo_91 : decode b_Met_stepsTo 91 = .ok (.goto (-62), 3) := by decide +kernel
theorem d_Met_stepsTo_94 : decode b_Met_stepsTo 94 = .ok (.aload_n 0, 1) := by decide +kernel
theorem d_Met_stepsTo_95 : decode b_Met_stepsTo 95 = .ok (.aload_n 0, 1) := by decide +kernel
theorem d_Met_stepsTo_96 : decode b_Met_stepsTo 96 = .ok (.getfield 17, 3) := by decide +kernel
theorem d_Met_stepsTo_99 : decode b_Met_stepsTo 99 = .ok (.iload 4, 2) := by decide +kernel
theorem d_Met_stepsTo_101 : decode b_Met_stepsTo 101 = .ok (.aaload, 1) := by decide +kernel
theorem d_Met_stepsTo_102 : decode b_Met_stepsTo 102 = .ok (.iload_n 3, 1) := by decide +kernel
theorem d_Met_stepsTo_103 : decode b_Met_stepsTo 103 = .ok (.invokevirtual 61, 3) := by decide +kernel
theorem d_Met_stepsTo_106 : decode b_Met_stepsTo 106 = .ok (.ireturn, 1) := by decide +kernel
theorem d_Met_lowBits_0 : decode b_Met_lowBits 0 = .ok (.lconst 1, 1) := by decide +kernel
theorem d_Met_lowBits_1 : decode b_Met_lowBits 1 = .ok (.iload_n 0, 1) := by decide +kernel
theorem d_Met_lowBits_2 : decode b_Met_lowBits 2 = .ok (.lshl, 1) := by decide +kernel
theorem d_Met_lowBits_3 : decode b_Met_lowBits 3 = .ok (.lconst 1, 1) := by decide +kernel
theorem d_Met_lowBits_4 : decode b_Met_lowBits 4 = .ok (.lsub, 1) := by decide +kernel
theorem d_Met_lowBits_5 : decode b_Met_lowBits 5 = .ok (.lreturn, 1) := by decide +kernel
theorem d_Near_moveTo_0 : decode b_Near_moveTo 0 = .ok (.aload_n 0, 1) := by decide +kernel
theorem d_Near_moveTo_1 : decode b_Near_moveTo 1 = .ok (.invokevirtual 25, 3) := by decide +kernel
theorem d_Near_moveTo_4 : decode b_Near_moveTo 4 = .ok (.aload_n 1, 1) := by decide +kernel
theorem d_Near_moveTo_5 : decode b_Near_moveTo 5 = .ok (.invokevirtual 28, 3) := by decide +kernel
theorem d_Near_moveTo_8 : decode b_Near_moveTo 8 = .ok (.iconst 0, 1) := by decide +kernel
theorem d_Near_moveTo_9 : decode b_Near_moveTo 9 = .ok (.istore_n 3, 1) := by decide +kernel
theorem d_Near_moveTo_10 : decode b_Near_moveTo 10 = .ok (.iload_n 3, 1) := by decide +kernel
theorem d_Near_moveTo_11 : decode b_Near_moveTo 11 = .ok (.aload_n 2, 1) := by decide +kernel
theorem d_Near_moveTo_12 : decode b_Near_moveTo 12 = .ok (.invokevirtual 33, 3) := by decide +kernel
theorem d_Near_moveTo_15 : decode b_Near_moveTo 15 = .ok (.if_icmp .ge 51, 3) := by decide +kernel
theorem d_Near_moveTo_18 : decode b_Near_moveTo 18 = .ok (.aload_n 0, 1) := by decide +kernel
theorem d_Near_moveTo_19 : decode b_Near_moveTo 19 = .ok (.getfield 9, 3) := by decide +kernel
theorem d_Near_moveTo_22 : decode b_Near_moveTo 22 = .ok (.iload_n 3, 1) := by decide +kernel
theorem d_Near_moveTo_23 : decode b_Near_moveTo 23 = .ok (.baload, 1) := by decide +kernel
theorem d_Near_moveTo_24 : decode b_Near_moveTo 24 = .ok (.istore 4, 2) := by decide +kernel
theorem d_Near_moveTo_26 : decode b_Near_moveTo 26 = .ok (.iload 4, 2) := by decide +kernel
theorem d_Near_moveTo_28 : decode b_Near_moveTo 28 = .ok (.ifCond .lt 32, 3) := by decide +kernel
theorem d_Near_moveTo_31 : decode b_Near_moveTo 31 = .ok (.aload_n 0, 1) := by decide +kernel
theorem d_Near_moveTo_32 : decode b_Near_moveTo 32 = .ok (.getfield 15, 3) := by decide +kernel
theorem d_Near_moveTo_35 : decode b_Near_moveTo 35 = .ok (.iload 4, 2) := by decide +kernel
theorem d_Near_moveTo_37 : decode b_Near_moveTo 37 = .ok (.iaload, 1) := by decide +kernel
theorem d_Near_moveTo_38 : decode b_Near_moveTo 38 = .ok (.ifCond .le 22, 3) := by decide +kernel
theorem d_Near_moveTo_41 : decode b_Near_moveTo 41 = .ok (.aload_n 0, 1) := by decide +kernel
theorem d_Near_moveTo_42 : decode b_Near_moveTo 42 = .ok (.getfield 15, 3) := by decide +kernel
theorem d_Near_moveTo_45 : decode b_Near_moveTo 45 = .ok (.iload 4, 2) := by decide +kernel
theorem d_Near_moveTo_47 : decode b_Near_moveTo 47 = .ok (.dup2, 1) := by decide +kernel
theorem d_Near_moveTo_48 : decode b_Near_moveTo 48 = .ok (.iaload, 1) := by decide +kernel
theorem d_Near_moveTo_49 : decode b_Near_moveTo 49 = .ok (.iconst 1, 1) := by decide +kernel
theorem d_Near_moveTo_50 : decode b_Near_moveTo 50 = .ok (.isub, 1) := by decide +kernel
theorem d_Near_moveTo_51 : decode b_Near_moveTo 51 = .ok (.iastore, 1) := by decide +kernel
theorem d_Near_moveTo_52 : decode b_Near_moveTo 52 = .ok (.aload_n 1, 1) := by decide +kernel
theorem d_Near_moveTo_53 : decode b_Near_moveTo 53 = .ok (.aload_n 2, 1) := by decide +kernel
theorem d_Near_moveTo_54 : decode b_Near_moveTo 54 = .ok (.iload_n 3, 1) := by decide +kernel
theorem d_Near_moveTo_55 : decode b_Near_moveTo 55 = .ok (.iload 4, 2) := by decide +kernel
theorem d_Near_moveTo_57 : decode b_Near_moveTo 57 = .ok (.invokevirtual 39, 3) := by decide +kernel
theorem d_Near_moveTo_60 : decode b_Near_moveTo 60 = .ok (.iinc 3 1, 3) := by decide +kernel
theorem d_Near_moveTo_63 : decode b_Near_moveTo 63 = .ok (.goto (-53), 3) := by decide +kernel
theorem d_Near_moveTo_66 : decode b_Near_moveTo 66 = .ok (.return_, 1) := by decide +kernel
theorem d_Pat_fits_0 : decode b_Pat_fits 0 = .ok (.aload_n 0, 1) := by decide +kernel
theorem d_Pat_fits_1 : decode b_Pat_fits 1 = .ok (.lconst 1, 1) := by decide +kernel
theorem d_Pat_fits_2 : decode b_Pat_fits 2 = .ok (.invokevirtual 45, 3) := by decide +kernel
theorem d_Pat_fits_5 : decode b_Pat_fits 5 = .ok (.lstore_n 3, 1) := by decide +kernel
theorem d_Pat_fits_6 : decode b_Pat_fits 6 = .ok (.aload_n 1, 1) := by decide +kernel
theorem d_Pat_fits_7 : decode b_Pat_fits 7 = .ok (.iload_n 2, 1) := by decide +kernel
theorem d_Pat_fits_8 : decode b_Pat_fits 8 = .ok (.invokevirtual 49, 3) := by decide +kernel
theorem d_Pat_fits_11 : decode b_Pat_fits 11 = .ok (.istore 5, 2) := by decide +kernel
theorem d_Pat_fits_13 : decode b_Pat_fits 13 = .ok (.iconst 0, 1) := by decide +kernel
theorem d_Pat_fits_14 : decode b_Pat_fits 14 = .ok (.istore 6, 2) := by decide +kernel
theorem d_Pat_fits_16 : decode b_Pat_fits 16 = .ok (.iload 6, 2) := by decide +kernel
theorem d_Pat_fits_18 : decode b_Pat_fits 18 = .ok (.iload 5, 2) := by decide +kernel
theorem d_Pat_fits_20 : decode b_Pat_fits 20 = .ok (.if_icmp .ge 52, 3) := by decide +kernel
theorem d_Pat_fits_23 : decode b_Pat_fits 23 = .ok (.lload_n 3, 1) := by decide +kernel
theorem d_Pat_fits_24 : decode b_Pat_fits 24 = .ok (.lconst 0, 1) := by decide +kernel
theorem d_Pat_fits_25 : decode b_Pat_fits 25 = .ok (.lcmp, 1) := by decide +kernel
theorem d_Pat_fits_26 : decode b_Pat_fits 26 = .ok (.ifCond .eq 46, 3) := by decide +kernel
theorem d_Pat_fits_29 : decode b_Pat_fits 29 = .ok (.lload_n 3, 1) := by decide +kernel
theorem d_Pat_fits_30 : decode b_Pat_fits 30 = .ok (.aload_n 0, 1) := by decide +kernel
theorem d_Pat_fits_31 : decode b_Pat_fits 31 = .ok (.getfield 9, 3) := by decide +kernel
theorem d_Pat_fits_34 : decode b_Pat_fits 34 = .ok (.aload_n 1, 1) := by decide +kernel
theorem d_Pat_fits_35 : decode b_Pat_fits 35 = .ok (.iload_n 2, 1) := by decide +kernel
theorem d_Pat_fits_36 : decode b_Pat_fits 36 = .ok (.iload 6, 2) := by decide +kernel
theorem d_Pat_fits_38 : decode b_Pat_fits 38 = .ok (.invokevirtual 54, 3) := by decide +kernel
theorem d_Pat_fits_41 : decode b_Pat_fits 41 = .ok (.laload, 1) := by decide +kernel
theorem d_Pat_fits_42 : decode b_Pat_fits 42 = .ok (.aload_n 0, 1) := by decide +kernel
theorem d_Pat_fits_43 : decode b_Pat_fits 43 = .ok (.getfield 19, 3) := by decide +kernel
theorem d_Pat_fits_46 : decode b_Pat_fits 46 = .ok (.lor, 1) := by decide +kernel
theorem d_Pat_fits_47 : decode b_Pat_fits 47 = .ok (.land, 1) := by decide +kernel
theorem d_Pat_fits_48 : decode b_Pat_fits 48 = .ok (.lstore 7, 2) := by decide +kernel
theorem d_Pat_fits_50 : decode b_Pat_fits 50 = .ok (.aload_n 0, 1) := by decide +kernel
theorem d_Pat_fits_51 : decode b_Pat_fits 51 = .ok (.lload 7, 2) := by decide +kernel
theorem d_Pat_fits_53 : decode b_Pat_fits 53 = .ok (.iconst 1, 1) := by decide +kernel
theorem d_Pat_fits_54 : decode b_Pat_fits 54 = .ok (.lshl, 1) := by decide +kernel
theorem d_Pat_fits_55 : decode b_Pat_fits 55 = .ok (.lload_n 3, 1) := by decide +kernel
theorem d_Pat_fits_56 : decode b_Pat_fits 56 = .ok (.aload_n 0, 1) := by decide +kernel
theorem d_Pat_fits_57 : decode b_Pat_fits 57 = .ok (.getfield 15, 3) := by decide +kernel
theorem d_Pat_fits_60 : decode b_Pat_fits 60 = .ok (.land, 1) := by decide +kernel
theorem d_Pat_fits_61 : decode b_Pat_fits 61 = .ok (.lor, 1) := by decide +kernel
theorem d_Pat_fits_62 : decode b_Pat_fits 62 = .ok (.invokevirtual 45, 3) := by decide +kernel
theorem d_Pat_fits_65 : decode b_Pat_fits 65 = .ok (.lstore_n 3, 1) := by decide +kernel
theorem d_Pat_fits_66 : decode b_Pat_fits 66 = .ok (.iinc 6 1, 3) := by decide +kernel
theorem d_Pat_fits_69 : decode b_Pat_fits 69 = .ok (.goto (-53), 3) := by decide +kernel
theorem d_Pat_fits_72 : decode b_Pat_fits 72 = .ok (.lload_n 3, 1) := by decide +kernel
theorem d_Pat_fits_73 : decode b_Pat_fits 73 = .ok (.aload_n 0, 1) := by decide +kernel
theorem d_Pat_fits_74 : decode b_Pat_fits 74 = .ok (.getfield 22, 3) := by decide +kernel
theorem d_Pat_fits_77 : decode b_Pat_fits 77 = .ok (.lushr, 1) := by decide +kernel
theorem d_Pat_fits_78 : decode b_Pat_fits 78 = .ok (.lconst 1, 1) := by decide +kernel
theorem d_Pat_fits_79 : decode b_Pat_fits 79 = .ok (.land, 1) := by decide +kernel
theorem d_Pat_fits_80 : decode b_Pat_fits 80 = .ok (.lconst 0, 1) := by decide +kernel
theorem d_Pat_fits_81 : decode b_Pat_fits 81 = .ok (.lcmp, 1) := by decide +kernel
theorem d_Pat_fits_82 : decode b_Pat_fits 82 = .ok (.ifCond .eq 7, 3) := by decide +kernel
theorem d_Pat_fits_85 : decode b_Pat_fits 85 = .ok (.iconst 1, 1) := by decide +kernel
theorem d_Pat_fits_86 : decode b_Pat_fits 86 = .ok (.goto 4, 3) := by decide +kernel
theorem d_Pat_fits_89 : decode b_Pat_fits 89 = .ok (.iconst 0, 1) := by decide +kernel
theorem d_Pat_fits_90 : decode b_Pat_fits 90 = .ok (.ireturn, 1) := by decide +kernel
theorem d_Res_size_0 : decode b_Res_size 0 = .ok (.aload_n 0, 1) := by decide +kernel
theorem d_Res_size_1 : decode b_Res_size 1 = .ok (.getfield 23, 3) := by decide +kernel
theorem d_Res_size_4 : decode b_Res_size 4 = .ok (.ireturn, 1) := by decide +kernel
theorem d_Res_clear_0 : decode b_Res_clear 0 = .ok (.aload_n 0, 1) := by decide +kernel
theorem d_Res_clear_1 : decode b_Res_clear 1 = .ok (.iconst 0, 1) := by decide +kernel
theorem d_Res_clear_2 : decode b_Res_clear 2 = .ok (.putfield 23, 3) := by decide +kernel
theorem d_Res_clear_5 : decode b_Res_clear 5 = .ok (.return_, 1) := by decide +kernel
theorem d_Row_isEmpty_0 : decode b_Row_isEmpty 0 = .ok (.aload_n 0, 1) := by decide +kernel
theorem d_Row_isEmpty_1 : decode b_Row_isEmpty 1 = .ok (.getfield 15, 3) := by decide +kernel
theorem d_Row_isEmpty_4 : decode b_Row_isEmpty 4 = .ok (.ifCond .ne 7, 3) := by decide +kernel
theorem d_Row_isEmpty_7 : decode b_Row_isEmpty 7 = .ok (.iconst 1, 1) := by decide +kernel
theorem d_Row_isEmpty_8 : decode b_Row_isEmpty 8 = .ok (.goto 4, 3) := by decide +kernel
theorem d_Row_isEmpty_11 : decode b_Row_isEmpty 11 = .ok (.iconst 0, 1) := by decide +kernel
theorem d_Row_isEmpty_12 : decode b_Row_isEmpty 12 = .ok (.ireturn, 1) := by decide +kernel
theorem d_Row_copyTo_0 : decode b_Row_copyTo 0 = .ok (.aload_n 0, 1) := by decide +kernel
theorem d_Row_copyTo_1 : decode b_Row_copyTo 1 = .ok (.getfield 9, 3) := by decide +kernel
theorem d_Row_copyTo_4 : decode b_Row_copyTo 4 = .ok (.iconst 0, 1) := by decide +kernel
theorem d_Row_copyTo_5 : decode b_Row_copyTo 5 = .ok (.aload_n 1, 1) := by decide +kernel
theorem d_Row_copyTo_6 : decode b_Row_copyTo 6 = .ok (.iload_n 2, 1) := by decide +kernel
theorem d_Row_copyTo_7 : decode b_Row_copyTo 7 = .ok (.aload_n 0, 1) := by decide +kernel
theorem d_Row_copyTo_8 : decode b_Row_copyTo 8 = .ok (.getfield 15, 3) := by decide +kernel
theorem d_Row_copyTo_11 : decode b_Row_copyTo 11 = .ok (.invokestatic 19, 3) := by decide +kernel
theorem d_Row_copyTo_14 : decode b_Row_copyTo 14 = .ok (.return_, 1) := by decide +kernel
theorem d_WL_lengthOf_0 : decode b_WL_lengthOf 0 = .ok (.aload_n 0, 1) := by decide +kernel
theorem d_WL_lengthOf_1 : decode b_WL_lengthOf 1 = .ok (.getfield 15, 3) := by decide +kernel
theorem d_WL_lengthOf_4 : decode b_WL_lengthOf 4 = .ok (.iload_n 1, 1) := by decide +kernel
theorem d_WL_lengthOf_5 : decode b_WL_lengthOf 5 = .ok (.iconst 1, 1) := by decide +kernel
theorem d_WL_lengthOf_6 : decode b_WL_lengthOf 6 = .ok (.iadd, 1) := by decide +kernel
theorem d_WL_lengthOf_7 : decode b_WL_lengthOf 7 = .ok (.iaload, 1) := by decide +kernel
theorem d_WL_lengthOf_8 : decode b_WL_lengthOf 8 = .ok (.aload_n 0, 1) := by decide +kernel
theorem d_WL_lengthOf_9 : decode b_WL_lengthOf 9 = .ok (.getfield 15, 3) := by decide +kernel
theorem d_WL_lengthOf_12 : decode b_WL_lengthOf 12 = .ok (.iload_n 1, 1) := by decide +kernel
theorem d_WL_lengthOf_13 : decode b_WL_lengthOf 13 = .ok (.iaload, 1) := by decide +kernel
theorem d_WL_lengthOf_14 : decode b_WL_lengthOf 14 = .ok (.isub, 1) := by decide +kernel
theorem d_WL_lengthOf_15 : decode b_WL_lengthOf 15 = .ok (.ireturn, 1) := by decide +kernel
theorem d_WL_isAt_0 : decode b_WL_isAt 0 = .ok (.iload_n 1, 1) := by decide +kernel
theorem d_WL_isAt_1 : decode b_WL_isAt 1 = .ok (.aload_n 0, 1) := by decide +kernel
theorem d_WL_isAt_2 : decode b_WL_isAt 2 = .ok (.getfield 19, 3) := by decide +kernel
theorem d_WL_isAt_5 : decode b_WL_isAt 5 = .ok (.if_icmp .ge 16, 3) := by decide +kernel
theorem d_WL_isAt_8 : decode b_WL_isAt 8 = .ok (.aload_n 0, 1) := by decide +kernel
theorem d_WL_isAt_9 : decode b_WL_isAt 9 = .ok (.iload_n 1, 1) := by decide +kernel
theorem d_WL_isAt_10 : decode b_WL_isAt 10 = .ok (.aload_n 2, 1) := by decide +kernel
theorem d_WL_isAt_11 : decode b_WL_isAt 11 = .ok (.invokevirtual 33, 3) := by decide +kernel
theorem d_WL_isAt_14 : decode b_WL_isAt 14 = .ok (.ifCond .ne 7, 3) := by decide +kernel
theorem d_WL_isAt_17 : decode b_WL_isAt 17 = .ok (.iconst 1, 1) := by decide +kernel
theorem d_WL_isAt_18 : decode b_WL_isAt 18 = .ok (.goto 4, 3) := by decide +kernel
theorem d_WL_isAt_21 : decode b_WL_isAt 21 = .ok (.iconst 0, 1) := by decide +kernel
theorem d_WL_isAt_22 : decode b_WL_isAt 22 = .ok (.ireturn, 1) := by decide +kernel
theorem d_WL_copyTo_0 : decode b_WL_copyTo 0 = .ok (.aload_n 0, 1) := by decide +kernel
theorem d_WL_copyTo_1 : decode b_WL_copyTo 1 = .ok (.getfield 9, 3) := by decide +kernel
theorem d_WL_copyTo_4 : decode b_WL_copyTo 4 = .ok (.aload_n 0, 1) := by decide +kernel
theorem d_WL_copyTo_5 : decode b_WL_copyTo 5 = .ok (.getfield 15, 3) := by decide +kernel
theorem d_WL_copyTo_8 : decode b_WL_copyTo 8 = .ok (.iload_n 2, 1) := by decide +kernel
theorem d_WL_copyTo_9 : decode b_WL_copyTo 9 = .ok (.iaload, 1) := by decide +kernel
theorem d_WL_copyTo_10 : decode b_WL_copyTo 10 = .ok (.aload_n 1, 1) := by decide +kernel
theorem d_WL_copyTo_11 : decode b_WL_copyTo 11 = .ok (.iconst 0, 1) := by decide +kernel
theorem d_WL_copyTo_12 : decode b_WL_copyTo 12 = .ok (.aload_n 0, 1) := by decide +kernel
theorem d_WL_copyTo_13 : decode b_WL_copyTo 13 = .ok (.iload_n 2, 1) := by decide +kernel
theorem d_WL_copyTo_14 : decode b_WL_copyTo 14 = .ok (.invokevirtual 23, 3) := by decide +kernel
theorem d_WL_copyTo_17 : decode b_WL_copyTo 17 = .ok (.invokestatic 45, 3) := by decide +kernel
theorem d_WL_copyTo_20 : decode b_WL_copyTo 20 = .ok (.return_, 1) := by decide +kernel
theorem d_Law_remove_0 : decode b_Law_remove 0 = .ok (.aload_n 1, 1) := by decide +kernel
theorem d_Law_remove_1 : decode b_Law_remove 1 = .ok (.iconst 0, 1) := by decide +kernel
theorem d_Law_remove_2 : decode b_Law_remove 2 = .ok (.aload_n 0, 1) := by decide +kernel
theorem d_Law_remove_3 : decode b_Law_remove 3 = .ok (.invokevirtual 21, 3) := by decide +kernel
theorem d_Law_remove_6 : decode b_Law_remove 6 = .ok (.i2l, 1) := by decide +kernel
theorem d_Law_remove_7 : decode b_Law_remove 7 = .ok (.lastore, 1) := by decide +kernel
theorem d_Law_remove_8 : decode b_Law_remove 8 = .ok (.goto 6, 3) := by decide +kernel
theorem d_Law_remove_11 : decode b_Law_remove 11 = .ok (.astore_n 2, 1) := by decide +kernel
theorem d_Law_remove_12 : decode b_Law_remove 12 = .ok (.iconst 1, 1) := by decide +kernel
theorem d_Law_remove_13 : decode b_Law_remove 13 = .ok (.ireturn, 1) := by decide +kernel
theorem d_Law_remove_14 : decode b_Law_remove 14 = .ok (.iconst 0, 1) := by decide +kernel
theorem d_Law_remove_15 : decode b_Law_remove 15 = .ok (.ireturn, 1) := by decide +kernel
theorem d_Arr_fillI_0 : decode b_Arr_fillI 0 = .ok (.iconst 0, 1) := by decide +kernel
theorem d_Arr_fillI_1 : decode b_Arr_fillI 1 = .ok (.istore_n 2, 1) := by decide +kernel
theorem d_Arr_fillI_2 : decode b_Arr_fillI 2 = .ok (.aload_n 0, 1) := by decide +kernel
theorem d_Arr_fillI_3 : decode b_Arr_fillI 3 = .ok (.arraylength, 1) := by decide +kernel
theorem d_Arr_fillI_4 : decode b_Arr_fillI 4 = .ok (.istore_n 3, 1) := by decide +kernel
theorem d_Arr_fillI_5 : decode b_Arr_fillI 5 = .ok (.iload_n 2, 1) := by decide +kernel
theorem d_Arr_fillI_6 : decode b_Arr_fillI 6 = .ok (.iload_n 3, 1) := by decide +kernel
theorem d_Arr_fillI_7 : decode b_Arr_fillI 7 = .ok (.if_icmp .ge 13, 3) := by decide +kernel
theorem d_Arr_fillI_10 : decode b_Arr_fillI 10 = .ok (.aload_n 0, 1) := by decide +kernel
theorem d_Arr_fillI_11 : decode b_Arr_fillI 11 = .ok (.iload_n 2, 1) := by decide +kernel
theorem d_Arr_fillI_12 : decode b_Arr_fillI 12 = .ok (.iload_n 1, 1) := by decide +kernel
theorem d_Arr_fillI_13 : decode b_Arr_fillI 13 = .ok (.iastore, 1) := by decide +kernel
theorem d_Arr_fillI_14 : decode b_Arr_fillI 14 = .ok (.iinc 2 1, 3) := by decide +kernel
theorem d_Arr_fillI_17 : decode b_Arr_fillI 17 = .ok (.goto (-12), 3) := by decide +kernel
theorem d_Arr_fillI_20 : decode b_Arr_fillI 20 = .ok (.return_, 1) := by decide +kernel
