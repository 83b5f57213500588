theorem d_NW_add_0 : decode b_NW_add 0 = .ok (.aload_n 0, 1) := by decide +kernel
theorem d_NW_add_1 : decode b_NW_add 1 = .ok (.invokevirtual 76, 3) := by decide +kernel
theorem d_NW_add_4 : decode b_NW_add 4 = .ok (.astore_n 1, 1) := by decide +kernel
theorem d_NW_add_5 : decode b_NW_add 5 = .ok (.aload_n 1, 1) := by decide +kernel
theorem d_NW_add_6 : decode b_NW_add 6 = .ok (.invokevirtual 80, 3) := by decide +kernel
theorem d_NW_add_9 : decode b_NW_add 9 = .ok (.ifCond .eq 11, 3) := by decide +kernel
theorem d_NW_add_12 : decode b_NW_add 12 = .ok (.new 58, 3) := by decide +kernel
theorem d_NW_add_15 : decode b_NW_add 15 = .ok (.dup, 1) := by decide +kernel
theorem d_NW_add_16 : decode b_NW_add 16 = .ok (.invokespecial 60, 3) := by decide +kernel
theorem d_NW_add_19 : decode b_NW_add 19 = .ok (.athrow, 1) := by decide +kernel
theorem d_NW_add_20 : decode b_NW_add 20 = .ok (.aload_n 0, 1) := by decide +kernel
theorem d_NW_add_21 : decode b_NW_add 21 = .ok (.getfield 22, 3) := by decide +kernel
theorem d_NW_add_24 : decode b_NW_add 24 = .ok (.aload_n 1, 1) := by decide +kernel
theorem d_NW_add_25 : decode b_NW_add 25 = .ok (.invokevirtual 84, 3) := by decide +kernel
theorem d_NW_add_28 : decode b_NW_add 28 = .ok (.istore_n 2, 1) := by decide +kernel
theorem d_NW_add_29 : decode b_NW_add 29 = .ok (.aload_n 0, 1) := by decide +kernel
theorem d_NW_add_30 : decode b_NW_add 30 = .ok (.getfield 22, 3) := by decide +kernel
theorem d_NW_add_33 : decode b_NW_add 33 = .ok (.iload_n 2, 1) := by decide +kernel
theorem d_NW_add_34 : decode b_NW_add 34 = .ok (.aload_n 1, 1) := by decide +kernel
theorem d_NW_add_35 : decode b_NW_add 35 = .ok (.invokevirtual 88, 3) := by decide +kernel
theorem d_NW_add_38 : decode b_NW_add 38 = .ok (.ifCond .eq 11, 3) := by decide +kernel
theorem d_NW_add_41 : decode b_NW_add 41 = .ok (.aload_n 0, 1) := by decide +kernel
theorem d_NW_add_42 : decode b_NW_add 42 = .ok (.getfield 22, 3) := by decide +kernel
theorem d_NW_add_45 : decode b_NW_add 45 = .ok (.invokevirtual 92, 3) := by decide +kernel
theorem d_NW_add_48 : decode b_NW_add 48 = .ok (.ireturn, 1) := by decide +kernel
theorem d_NW_add_49 : decode b_NW_add 49 = .ok (.aload_n 0, 1) := by decide +kernel
theorem d_NW_add_50 : decode b_NW_add 50 = .ok (.getfield 22, 3) := by decide +kernel
theorem d_NW_add_53 : decode b_NW_add 53 = .ok (.aload_n 1, 1) := by decide +kernel
theorem d_NW_add_54 : decode b_NW_add 54 = .ok (.invokevirtual 95, 3) := by decide +kernel
theorem d_NW_add_57 : decode b_NW_add 57 = .ok (.ifCond .ne 11, 3) := by decide +kernel
theorem d_NW_add_60 : decode b_NW_add 60 = .ok (.new 69, 3) := by decide +kernel
theorem d_NW_add_63 : decode b_NW_add 63 = .ok (.dup, 1) := by decide +kernel
theorem d_NW_add_64 : decode b_NW_add 64 = .ok (.invokespecial 71, 3) := by decide +kernel
theorem d_NW_add_67 : decode b_NW_add 67 = .ok (.athrow, 1) := by decide +kernel
theorem d_NW_add_68 : decode b_NW_add 68 = .ok (.aload_n 0, 1) := by decide +kernel
theorem d_NW_add_69 : decode b_NW_add 69 = .ok (.getfield 22, 3) := by decide +kernel
theorem d_NW_add_72 : decode b_NW_add 72 = .ok (.iload_n 2, 1) := by decide +kernel
theorem d_NW_add_73 : decode b_NW_add 73 = .ok (.aload_n 1, 1) := by decide +kernel
theorem d_NW_add_74 : decode b_NW_add 74 = .ok (.invokevirtual 99, 3) := by decide +kernel
theorem d_NW_add_77 : decode b_NW_add 77 = .ok (.aload_n 0, 1) := by decide +kernel
theorem d_NW_add_78 : decode b_NW_add 78 = .ok (.getfield 22, 3) := by decide +kernel
theorem d_NW_add_81 : decode b_NW_add 81 = .ok (.invokevirtual 92, 3) := by decide +kernel
theorem d_NW_add_84 : decode b_NW_add 84 = .ok (.ireturn, 1) := by decide +kernel
theorem d_NW_before_0 : decode b_NW_before 0 = .ok (.aload_n 0, 1) := by decide +kernel
theorem d_NW_before_1 : decode b_NW_before 1 = .ok (.getfield 22, 3) := by decide +kernel
theorem d_NW_before_4 : decode b_NW_before 4 = .ok (.aload_n 0, 1) := by decide +kernel
theorem d_NW_before_5 : decode b_NW_before 5 = .ok (.invokevirtual 76, 3) := by decide +kernel
theorem d_NW_before_8 : decode b_NW_before 8 = .ok (.invokevirtual 84, 3) := by decide +kernel
theorem d_NW_before_11 : decode b_NW_before 11 = .ok (.ireturn, 1) := by decide +kernel
theorem d_NW_takeInput_0 : decode b_NW_takeInput 0 = .ok (.aload_n 0, 1) := by decide +kernel
theorem d_NW_takeInput_1 : decode b_NW_takeInput 1 = .ok (.getfield 10, 3) := by decide +kernel
theorem d_NW_takeInput_4 : decode b_NW_takeInput 4 = .ok (.astore_n 1, 1) := by decide +kernel
theorem d_NW_takeInput_5 : decode b_NW_takeInput 5 = .ok (.aload_n 0, 1) := by decide +kernel
theorem d_NW_takeInput_6 : decode b_NW_takeInput 6 = .ok (.aload_n 0, 1) := by decide +kernel
theorem d_NW_takeInput_7 : decode b_NW_takeInput 7 = .ok (.getfield 16, 3) := by decide +kernel
theorem d_NW_takeInput_10 : decode b_NW_takeInput 10 = .ok (.putfield 10, 3) := by decide +kernel
theorem d_NW_takeInput_13 : decode b_NW_takeInput 13 = .ok (.aload_n 0, 1) := by decide +kernel
theorem d_NW_takeInput_14 : decode b_NW_takeInput 14 = .ok (.aload_n 1, 1) := by decide +kernel
theorem d_NW_takeInput_15 : decode b_NW_takeInput 15 = .ok (.putfield 16, 3) := by decide +kernel
theorem d_NW_takeInput_18 : decode b_NW_takeInput 18 = .ok (.aload_n 0, 1) := by decide +kernel
theorem d_NW_takeInput_19 : decode b_NW_takeInput 19 = .ok (.getfield 10, 3) := by decide +kernel
theorem d_NW_takeInput_22 : decode b_NW_takeInput 22 = .ok (.invokevirtual 165, 3) := by decide +kernel
theorem d_NW_takeInput_25 : decode b_NW_takeInput 25 = .ok (.aload_n 1, 1) := by decide +kernel
theorem d_NW_takeInput_26 : decode b_NW_takeInput 26 = .ok (.areturn, 1) := by decide +kernel
theorem d_NW_byteOf_0 : decode b_NW_byteOf 0 = .ok (.lload_n 0, 1) := by decide +kernel
theorem d_NW_byteOf_1 : decode b_NW_byteOf 1 = .ok (.iload_n 2, 1) := by decide +kernel
theorem d_NW_byteOf_2 : decode b_NW_byteOf 2 = .ok (.lushr, 1) := by decide +kernel
theorem d_NW_byteOf_3 : decode b_NW_byteOf 3 = .ok (.l2i, 1) := by decide +kernel
theorem d_NW_byteOf_4 : decode b_NW_byteOf 4 = .ok (.sipush 255, 3) := by decide +kernel
theorem d_NW_byteOf_7 : decode b_NW_byteOf 7 = .ok (.iand, 1) := by decide +kernel
theorem d_NW_byteOf_8 : decode b_NW_byteOf 8 = .ok (.ireturn, 1) := by decide +kernel
theorem d_Mod_least_0 : decode b_Mod_least 0 = .ok (.iload_n 0, 1) := by decide +kernel
theorem d_Mod_least_1 : decode b_Mod_least 1 = .ok (.iload_n 1, 1) := by decide +kernel
theorem d_Mod_least_2 : decode b_Mod_least 2 = .ok (.if_icmp .ge 7, 3) := by decide +kernel
theorem d_Mod_least_5 : decode b_Mod_least 5 = .ok (.iload_n 0, 1) := by decide +kernel
theorem d_Mod_least_6 : decode b_Mod_least 6 = .ok (.goto 4, 3) := by decide +kernel
theorem d_Mod_least_9 : decode b_Mod_least 9 = .ok (.iload_n 1, 1) := by decide +kernel
theorem d_Mod_least_10 : decode b_Mod_least 10 = .ok (.ireturn, 1) := by decide +kernel
theorem d_Mod_shift_0 : decode b_Mod_shift 0 = .ok (.iconst 0, 1) := by decide +kernel
theorem d_Mod_shift_1 : decode b_Mod_shift 1 = .ok (.istore 4, 2) := by decide +kernel
theorem d_Mod_shift_3 : decode b_Mod_shift 3 = .ok (.iload 4, 2) := by decide +kernel
theorem d_Mod_shift_5 : decode b_Mod_shift 5 = .ok (.iload_n 3, 1) := by decide +kernel
theorem d_Mod_shift_6 : decode b_Mod_shift 6 = .ok (.if_icmp .ge 33, 3) := by decide +kernel
theorem d_Mod_shift_9 : decode b_Mod_shift 9 = .ok (.aload_n 0, 1) := by decide +kernel
theorem d_Mod_shift_10 : decode b_Mod_shift 10 = .ok (.getfield 14, 3) := by decide +kernel
theorem d_Mod_shift_13 : decode b_Mod_shift 13 = .ok (.iload_n 2, 1) := by decide +kernel
theorem d_Mod_shift_14 : decode b_Mod_shift 14 = .ok (.bipush 60, 2) := by decide +kernel
theorem d_Mod_shift_16 : decode b_Mod_shift 16 = .ok (.imul, 1) := by decide +kernel
theorem d_Mod_shift_17 : decode b_Mod_shift 17 = .ok (.iload 4, 2) := by decide +kernel
theorem d_Mod_shift_19 : decode b_Mod_shift 19 = .ok (.iadd, 1) := by decide +kernel
theorem d_Mod_shift_20 : decode b_Mod_shift 20 = .ok (.aload_n 0, 1) := by decide +kernel
theorem d_Mod_shift_21 : decode b_Mod_shift 21 = .ok (.getfield 14, 3) := by decide +kernel
theorem d_Mod_shift_24 : decode b_Mod_shift 24 = .ok (.iload_n 1, 1) := by decide +kernel
theorem d_Mod_shift_25 : decode b_Mod_shift 25 = .ok (.bipush 60, 2) := by decide +kernel
theorem d_Mod_shift_27 : decode b_Mod_shift 27 = .ok (.imul, 1) := by decide +kernel
theorem d_Mod_shift_28 : decode b_Mod_shift 28 = .ok (.iload 4, 2) := by decide +kernel
theorem d_Mod_shift_30 : decode b_Mod_shift 30 = .ok (.iadd, 1) := by decide +kernel
theorem d_Mod_shift_31 : decode b_Mod_shift 31 = .ok (.baload, 1) := by decide +kernel
theorem d_Mod_shift_32 : decode b_Mod_shift 32 = .ok (.bastore, 1) := by decide +kernel
theorem d_Mod_shift_33 : decode b_Mod_shift 33 = .ok (.iinc 4 1, 3) := by decide +kernel
theorem d_Mod_shift_36 : decode b_Mod_shift 36 = .ok (.goto (-33), 3) := by decide +kernel
theorem d_Mod_shift_39 : decode b_Mod_shift 39 = .ok (.aload_n 0, 1) := by decide +kernel
theorem d_Mod_shift_40 : decode b_Mod_shift 40 = .ok (.getfield 20, 3) := by decide +kernel
theorem d_Mod_shift_43 : decode b_Mod_shift 43 = .ok (.iload_n 2, 1) := by decide +kernel
theorem d_Mod_shift_44 : decode b_Mod_shift 44 = .ok (.iload_n 3, 1) := by decide +kernel
theorem d_Mod_shift_45 : decode b_Mod_shift 45 = .ok (.iastore, 1) := by decide +kernel
theorem d_Mod_shift_46 : decode b_Mod_shift 46 = .ok (.return_, 1) := by decide +kernel
theorem d_Mod_keep_0 : decode b_Mod_keep 0 = .ok (.iconst 0, 1) := by decide +kernel
theorem d_Mod_keep_1 : decode b_Mod_keep 1 = .ok (.istore 4, 2) := by decide +kernel
theorem d_Mod_keep_3 : decode b_Mod_keep 3 = .ok (.iload 4, 2) := by decide +kernel
theorem d_Mod_keep_5 : decode b_Mod_keep 5 = .ok (.aload_n 0, 1) := by decide +kernel
theorem d_Mod_keep_6 : decode b_Mod_keep 6 = .ok (.getfield 20, 3) := by decide +kernel
theorem d_Mod_keep_9 : decode b_Mod_keep 9 = .ok (.iload_n 2, 1) := by decide +kernel
theorem d_Mod_keep_10 : decode b_Mod_keep 10 = .ok (.iaload, 1) := by decide +kernel
theorem d_Mod_keep_11 : decode b_Mod_keep 11 = .ok (.if_icmp .ge 33, 3) := by decide +kernel
theorem d_Mod_keep_14 : decode b_Mod_keep 14 = .ok (.aload_n 0, 1) := by decide +kernel
theorem d_Mod_keep_15 : decode b_Mod_keep 15 = .ok (.getfield 17, 3) := by decide +kernel
theorem d_Mod_keep_18 : decode b_Mod_keep 18 = .ok (.iload_n 1, 1) := by decide +kernel
theorem d_Mod_keep_19 : decode b_Mod_keep 19 = .ok (.bipush 60, 2) := by decide +kernel
theorem d_Mod_keep_21 : decode b_Mod_keep 21 = .ok (.imul, 1) := by decide +kernel
theorem d_Mod_keep_22 : decode b_Mod_keep 22 = .ok (.iload 4, 2) := by decide +kernel
theorem d_Mod_keep_24 : decode b_Mod_keep 24 = .ok (.iadd, 1) := by decide +kernel
theorem d_Mod_keep_25 : decode b_Mod_keep 25 = .ok (.aload_n 0, 1) := by decide +kernel
theorem d_Mod_keep_26 : decode b_Mod_keep 26 = .ok (.getfield 14, 3) := by decide +kernel
theorem d_Mod_keep_29 : decode b_Mod_keep 29 = .ok (.iload_n 2, 1) := by decide +kernel
theorem d_Mod_keep_30 : decode b_Mod_keep 30 = .ok (.bipush 60, 2) := by decide +kernel
theorem d_Mod_keep_32 : decode b_Mod_keep 32 = .ok (.imul, 1) := by decide +kernel
theorem d_Mod_keep_33 : decode b_Mod_keep 33 = .ok (.iload 4, 2) := by decide +kernel
theorem d_Mod_keep_35 : decode b_Mod_keep 35 = .ok (.iadd, 1) := by decide +kernel
theorem d_Mod_keep_36 : decode b_Mod_keep 36 = .ok (.baload, 1) := by decide +kernel
theorem d_Mod_keep_37 : decode b_Mod_keep 37 = .ok (.bastore, 1) := by decide +kernel
theorem d_Mod_keep_38 : decode b_Mod_keep 38 = .ok (.iinc 4 1, 3) := by decide +kernel
theorem d_Mod_keep_41 : decode b_Mod_keep 41 = .ok (.goto (-38), 3) := by decide +kernel
theorem d_Mod_keep_44 : decode b_Mod_keep 44 = .ok (.aload_n 0, 1) := by decide +kernel
theorem d_Mod_keep_45 : decode b_Mod_keep 45 = .ok (.getfield 24, 3) := by decide +kernel
theorem d_Mod_keep_48 : decode b_Mod_keep 48 = .ok (.iload_n 1, 1) := by decide +kernel
theorem d_Mod_keep_49 : decode b_Mod_keep 49 = .ok (.aload_n 0, 1) := by decide +kernel
theorem d_Mod_keep_50 : decode b_Mod_keep 50 = .ok (.getfield 20, 3) := by decide +kernel
theorem d_Mod_keep_53 : decode b_Mod_keep 53 = .ok (.iload_n 2, 1) := by decide +kernel
theorem d_Mod_keep_54 : decode b_Mod_keep 54 = .ok (.iaload, 1) := by decide +kernel
theorem d_Mod_keep_55 : decode b_Mod_keep 55 = .ok (.iastore, 1) := by decide +kernel
theorem d_Mod_keep_56 : decode b_Mod_keep 56 = .ok (.aload_n 0, 1) := by decide +kernel
theorem d_Mod_keep_57 : decode b_Mod_keep 57 = .ok (.getfield 27, 3) := by decide +kernel
theorem d_Mod_keep_60 : decode b_Mod_keep 60 = .ok (.iload_n 1, 1) := by decide +kernel
theorem d_Mod_keep_61 : decode b_Mod_keep 61 = .ok (.iload_n 3, 1) := by decide +kernel
theorem d_Mod_keep_62 : decode b_Mod_keep 62 = .ok (.iastore, 1) := by decide +kernel
theorem d_Mod_keep_63 : decode b_Mod_keep 63 = .ok (.return_, 1) := by decide +kernel
theorem d_Mod_before_0 : decode b_Mod_before 0 = .ok (.aload_n 0, 1) := by decide +kernel
theorem d_Mod_before_1 : decode b_Mod_before 1 = .ok (.iconst 0, 1) := by decide +kernel
theorem d_Mod_before_2 : decode b_Mod_before 2 = .ok (.putfield 46, 3) := by decide +kernel
theorem d_Mod_before_5 : decode b_Mod_before 5 = .ok (.aload_n 0, 1) := by decide +kernel
theorem d_Mod_before_6 : decode b_Mod_before 6 = .ok (.aload_n 0, 1) := by decide +kernel
theorem d_Mod_before_7 : decode b_Mod_before 7 = .ok (.invokevirtual 63, 3) := by decide +kernel
theorem d_Mod_before_10 : decode b_Mod_before 10 = .ok (.invokevirtual 67, 3) := by decide +kernel
theorem d_Mod_before_13 : decode b_Mod_before 13 = .ok (.ireturn, 1) := by decide +kernel
theorem d_Met_init_0 : decode b_Met_init 0 = .ok (.aload_n 0, 1) := by decide +kernel
theorem d_Met_init_1 : decode b_Met_init 1 = .ok (.invokespecial 3, 3) := by decide +kernel
theorem d_Met_init_4 : decode b_Met_init 4 = .ok (.aload_n 0, 1) := by decide +kernel
theorem d_Met_init_5 : decode b_Met_init 5 = .ok (.bipush 127, 2) := by decide +kernel
theorem d_Met_init_7 : decode b_Met_init 7 = .ok (.newarray .long, 2) := by decide +kernel
theorem d_Met_init_9 : decode b_Met_init 9 = .ok (.putfield 9, 3) := by decide +kernel
theorem d_Met_init_12 : decode b_Met_init 12 = .ok (.aload_n 0, 1) := by decide +kernel
theorem d_Met_init_13 : decode b_Met_init 13 = .ok (.bipush 61, 2) := by decide +kernel
theorem d_Met_init_15 : decode b_Met_init 15 = .ok (.iconst 4, 1) := by decide +kernel
theorem d_Met_init_16 : decode b_Met_init 16 = .ok (.multianewarray 15 2, 4) := by decide +kernel
theorem d_Met_init_20 : decode b_Met_init 20 = .ok (.putfield 17, 3) := by decide +kernel
theorem d_Met_init_23 : decode b_Met_init 23 = .ok (.aload_n 0, 1) := by decide +kernel
theorem d_Met_init_24 : decode b_Met_init 24 = .ok (.iconst 0, 1) := by decide +kernel
theorem d_Met_init_25 : decode b_Met_init 25 = .ok (.putfield 20, 3) := by decide +kernel
theorem d_Met_init_28 : decode b_Met_init 28 = .ok (.iconst 0, 1) := by decide +kernel
theorem d_Met_init_29 : decode b_Met_init 29 = .ok (.istore_n 1, 1) := by decide +kernel
theorem d_Met_init_30 : decode b_Met_init 30 = .ok (.iload_n 1, 1) := by decide +kernel
theorem d_Met_init_31 : decode b_Met_init 31 = .ok (.iconst 3, 1) := by decide +kernel
theorem d_Met_init_32 : decode b_Met_init 32 = .ok (.if_icmp .gt 23, 3) := by decide +kernel
theorem d_Met_init_35 : decode b_Met_init 35 = .ok (.aload_n 0, 1) := by decide +kernel
theorem d_Met_init_36 : decode b_Met_init 36 = .ok (.getfield 17, 3) := by decide +kernel
theorem d_Met_init_39 : decode b_Met_init 39 = .ok (.iconst 0, 1) := by decide +kernel
theorem d_Met_init_40 : decode b_Met_init 40 = .ok (.aaload, 1) := by decide +kernel
theorem d_Met_init_41 : decode b_Met_init 41 = .ok (.iload_n 1, 1) := by decide +kernel
theorem d_Met_init_42 : decode b_Met_init 42 = .ok (.iload_n 1, 1) := by decide +kernel
theorem d_Met_init_43 : decode b_Met_init 43 = .ok (.iconst 1, 1) := by decide +kernel
theorem d_Met_init_44 : decode b_Met_init 44 = .ok (.iadd, 1) := by decide +kernel
theorem d_Met_init_45 : decode b_Met_init 45 = .ok (.invokestatic 24, 3) := by decide +kernel
theorem d_Met_init_48 : decode b_Met_init 48 = .ok (.lastore, 1) := by decide +kernel
theorem d_Met_init_49 : decode b_Met_init 49 = .ok (.iinc 1 1, 3) := by decide +kernel
theorem d_Met_init_52 : decode b_Met_init 52 = .ok (.goto (-22), 3) := by decide +kernel
theorem d_Met_init_55 : decode b_Met_init 55 = .ok (.return_, 1) := by decide +kernel
theorem d_Met_swapped_0 : decode b_Met_swapped 0 = .ok (.iload_n 1, 1) := by decide +kernel
theorem d_Met_swapped_1 : decode b_Met_swapped 1 = .ok (.iconst 2, 1) := by decide +kernel
theorem d_Met_swapped_2 : decode b_Met_swapped 2 = .ok (.if_icmp .ge 5, 3) := by decide +kernel
theorem d_Met_swapped_5 : decode b_Met_swapped 5 = .ok (.lconst 0, 1) := by decide +kernel
theorem d_Met_swapped_6 : decode b_Met_swapped 6 = .ok (.lreturn, 1) := by decide +kernel
theorem d_Met_swapped_7 : decode b_Met_swapped 7 = .ok (.aload_n 0, 1) := by decide +kernel
theorem d_Met_swapped_8 : decode b_Met_swapped 8 = .ok (.getfield 17, 3) := by decide +kernel
theorem d_Met_swapped_11 : decode b_Met_swapped 11 = .ok (.iload_n 1, 1) := by decide +kernel
theorem d_Met_swapped_12 : decode b_Met_swapped 12 = .ok (.iconst 2, 1) := by decide +kernel
theorem d_Met_swapped_13 : decode b_Met_swapped 13 = .ok (.isub, 1) := by decide +kernel
theorem d_Met_swapped_14 : decode b_Met_swapped 14 = .ok (.aaload, 1) := by decide +kernel
theorem d_Met_swapped_15 : decode b_Met_swapped 15 = .ok (.iload_n 2, 1) := by decide +kernel
theorem d_Met_swapped_16 : decode b_Met_swapped 16 = .ok (.iconst 1, 1) := by decide +kernel
theorem d_Met_swapped_17 : decode b_Met_swapped 17 = .ok (.isub, 1) := by decide +kernel
theorem d_Met_swapped_18 : decode b_Met_swapped 18 = .ok (.laload, 1) := by decide +kernel
theorem d_Met_swapped_19 : decode b_Met_swapped 19 = .ok (.lload_n 3, 1) := by decide +kernel
theorem d_Met_swapped_20 : decode b_Met_swapped 20 = .ok (.land, 1) := by decide +kernel
theorem d_Met_swapped_21 : decode b_Met_swapped 21 = .ok (.iconst 1, 1) := by decide +kernel
theorem d_Met_swapped_22 : decode b_Met_swapped 22 = .ok (.lshl, 1) := by decide +kernel
theorem d_Met_swapped_23 : decode b_Met_swapped 23 = .ok (.lstore 7, 2) := by decide +kernel
theorem d_Met_swapped_25 : decode b_Met_swapped 25 = .ok (.lload 7, 2) := by decide +kernel
theorem d_Met_swapped_27 : decode b_Met_swapped 27 = .ok (.lload 5, 2) := by decide +kernel
theorem d_Met_swapped_29 : decode b_Met_swapped 29 = .ok (.land, 1) := by decide +kernel
theorem d_Met_swapped_30 : decode b_Met_swapped 30 = .ok (.iconst 1, 1) := by decide +kernel
theorem d_Met_swapped_31 : decode b_Met_swapped 31 = .ok (.lshl, 1) := by decide +kernel
theorem d_Met_swapped_32 : decode b_Met_swapped 32 = .ok (.lreturn, 1) := by decide +kernel
theorem d_Near_clear_0 : decode b_Near_clear 0 = .ok (.aload_n 0, 1) := by decide +kernel
theorem d_Near_clear_1 : decode b_Near_clear 1 = .ok (.getfield 15, 3) := by decide +kernel
theorem d_Near_clear_4 : decode b_Near_clear 4 = .ok (.iconst 0, 1) := by decide +kernel
theorem d_Near_clear_5 : decode b_Near_clear 5 = .ok (.invokestatic 19, 3) := by decide +kernel
theorem d_Near_clear_8 : decode b_Near_clear 8 = .ok (.return_, 1) := by decide +kernel
theorem d_Pat_init_0 : decode b_Pat_init 0 = .ok (.aload_n 0, 1) := by decide +kernel
theorem d_Pat_init_1 : decode b_Pat_init 1 = .ok (.invokespecial 3, 3) := by decide +kernel
theorem d_Pat_init_4 : decode b_Pat_init 4 = .ok (.aload_n 0, 1) := by decide +kernel
theorem d_Pat_init_5 : decode b_Pat_init 5 = .ok (.bipush 127, 2) := by decide +kernel
theorem d_Pat_init_7 : decode b_Pat_init 7 = .ok (.newarray .long, 2) := by decide +kernel
theorem d_Pat_init_9 : decode b_Pat_init 9 = .ok (.putfield 9, 3) := by decide +kernel
theorem d_Pat_init_12 : decode b_Pat_init 12 = .ok (.aload_n 0, 1) := by decide +kernel
theorem d_Pat_init_13 : decode b_Pat_init 13 = .ok (.lconst 0, 1) := by decide +kernel
theorem d_Pat_init_14 : decode b_Pat_init 14 = .ok (.putfield 15, 3) := by decide +kernel
theorem d_Pat_init_17 : decode b_Pat_init 17 = .ok (.aload_n 0, 1) := by decide +kernel
theorem d_Pat_init_18 : decode b_Pat_init 18 = .ok (.lconst 0, 1) := by decide +kernel
theorem d_Pat_init_19 : decode b_Pat_init 19 = .ok (.putfield 19, 3) := by decide +kernel
theorem d_Pat_init_22 : decode b_Pat_init 22 = .ok (.aload_n 0, 1) := by decide +kernel
theorem d_Pat_init_23 : decode b_Pat_init 23 = .ok (.iconst 0, 1) := by decide +kernel
theorem d_Pat_init_24 : decode b_Pat_init 24 = .ok (.putfield 22, 3) := by decide +kernel
theorem d_Pat_init_27 : decode b_Pat_init 27 = .ok (.return_, 1) := by decide +kernel
theorem d_Pat_overAnyRow_0 : decode b_Pat_overAnyRow 0 = .ok (.lload_n 1, 1) := by decide +kernel
theorem d_Pat_overAnyRow_1 : decode b_Pat_overAnyRow 1 = .ok (.lload_n 1, 1) := by decide +kernel
theorem d_Pat_overAnyRow_2 : decode b_Pat_overAnyRow 2 = .ok (.aload_n 0, 1) := by decide +kernel
theorem d_Pat_overAnyRow_3 : decode b_Pat_overAnyRow 3 = .ok (.getfield 15, 3) := by decide +kernel
theorem d_Pat_overAnyRow_6 : decode b_Pat_overAnyRow 6 = .ok (.land, 1) := by decide +kernel
theorem d_Pat_overAnyRow_7 : decode b_Pat_overAnyRow 7 = .ok (.iconst 1, 1) := by decide +kernel
theorem d_Pat_overAnyRow_8 : decode b_Pat_overAnyRow 8 = .ok (.lshl, 1) := by decide +kernel
theorem d_Pat_overAnyRow_9 : decode b_Pat_overAnyRow 9 = .ok (.lor, 1) := by decide +kernel
theorem d_Pat_overAnyRow_10 : decode b_Pat_overAnyRow 10 = .ok (.lreturn, 1) := by decide +kernel
theorem d_Res_characterAt_0 : decode b_Res_characterAt 0 = .ok (.iload_n 2, 1) := by decide +kernel
theorem d_Res_characterAt_1 : decode b_Res_characterAt 1 = .ok (.aload_n 0, 1) := by decide +kernel
theorem d_Res_characterAt_2 : decode b_Res_characterAt 2 = .ok (.getfield 16, 3) := by decide +kernel
theorem d_Res_characterAt_5 : decode b_Res_characterAt 5 = .ok (.iload_n 1, 1) := by decide +kernel
theorem d_Res_characterAt_6 : decode b_Res_characterAt 6 = .ok (.iaload, 1) := by decide +kernel
theorem d_Res_characterAt_7 : decode b_Res_characterAt 7 = .ok (.if_icmp .ge 14, 3) := by decide +kernel
theorem d_Res_characterAt_10 : decode b_Res_characterAt 10 = .ok (.aload_n 0, 1) := by decide +kernel
theorem d_Res_characterAt_11 : decode b_Res_characterAt 11 = .ok (.getfield 11, 3) := by decide +kernel
theorem d_Res_characterAt_14 : decode b_Res_characterAt 14 = .ok (.iload_n 1, 1) := by decide +kernel
theorem d_Res_characterAt_15 : decode b_Res_characterAt 15 = .ok (.aaload, 1) := by decide +kernel
theorem d_Res_characterAt_16 : decode b_Res_characterAt 16 = .ok (.iload_n 2, 1) := by decide +kernel
theorem d_Res_characterAt_17 : decode b_Res_characterAt 17 = .ok (.baload, 1) := by decide +kernel
theorem d_Res_characterAt_18 : decode b_Res_characterAt 18 = .ok (.goto 4, 3) := by decide +kernel
theorem d_Res_characterAt_21 : decode b_Res_characterAt 21 = .ok (.iconst 0, 1) := by decide +kernel
theorem d_Res_characterAt_22 : decode b_Res_characterAt 22 = .ok (.ireturn, 1) := by decide +kernel
theorem d_Row_init_0 : decode b_Row_init 0 = .ok (.aload_n 0, 1) := by decide +kernel
theorem d_Row_init_1 : decode b_Row_init 1 = .ok (.invokespecial 3, 3) := by decide +kernel
theorem d_Row_init_4 : decode b_Row_init 4 = .ok (.aload_n 0, 1) := by decide +kernel
theorem d_Row_init_5 : decode b_Row_init 5 = .ok (.bipush 60, 2) := by decide +kernel
theorem d_Row_init_7 : decode b_Row_init 7 = .ok (.newarray .byte, 2) := by decide +kernel
theorem d_Row_init_9 : decode b_Row_init 9 = .ok (.putfield 9, 3) := by decide +kernel
theorem d_Row_init_12 : decode b_Row_init 12 = .ok (.aload_n 0, 1) := by decide +kernel
theorem d_Row_init_13 : decode b_Row_init 13 = .ok (.iconst 0, 1) := by decide +kernel
theorem d_Row_init_14 : decode b_Row_init 14 = .ok (.putfield 15, 3) := by decide +kernel
theorem d_Row_init_17 : decode b_Row_init 17 = .ok (.return_, 1) := by decide +kernel
theorem d_Row_clear_0 : decode b_Row_clear 0 = .ok (.aload_n 0, 1) := by decide +kernel
theorem d_Row_clear_1 : decode b_Row_clear 1 = .ok (.iconst 0, 1) := by decide +kernel
theorem d_Row_clear_2 : decode b_Row_clear 2 = .ok (.putfield 15, 3) := by decide +kernel
theorem d_Row_clear_5 : decode b_Row_clear 5 = .ok (.return_, 1) := by decide +kernel
theorem d_WL_size_0 : decode b_WL_size 0 = .ok (.aload_n 0, 1) := by decide +kernel
theorem d_WL_size_1 : decode b_WL_size 1 = .ok (.getfield 19, 3) := by decide +kernel
theorem d_WL_size_4 : decode b_WL_size 4 = .ok (.ireturn, 1) := by decide +kernel
theorem d_WL_longest_0 : decode b_WL_longest 0 = .ok (.iconst 0, 1) := by decide +kernel
theorem d_WL_longest_1 : decode b_WL_longest 1 = .ok (.istore_n 1, 1) := by decide +kernel
theorem d_WL_longest_2 : decode b_WL_longest 2 = .ok (.iconst 0, 1) := by decide +kernel
theorem d_WL_longest_3 : decode b_WL_longest 3 = .ok (.istore_n 2, 1) := by decide +kernel
theorem d_WL_longest_4 : decode b_WL_longest 4 = .ok (.iload_n 2, 1) := by decide +kernel
theorem d_WL_longest_5 : decode b_WL_longest 5 = .ok (.aload_n 0, 1) := by decide +kernel
theorem d_WL_longest_6 : decode b_WL_longest 6 = .ok (.getfield 19, 3) := by decide +kernel
theorem d_WL_longest_9 : decode b_WL_longest 9 = .ok (.if_icmp .ge 19, 3) := by decide +kernel
theorem d_WL_longest_12 : decode b_WL_longest 12 = .ok (.iload_n 1, 1) := by decide +kernel
theorem d_WL_longest_13 : decode b_WL_longest 13 = .ok (.aload_n 0, 1) := by decide +kernel
theorem d_WL_longest_14 : decode b_WL_longest 14 = .ok (.iload_n 2, 1) := by decide +kernel
theorem d_WL_longest_15 : decode b_WL_longest 15 = .ok (.invokevirtual 23, 3) := by decide +kernel
theorem d_WL_longest_18 : decode b_WL_longest 18 = .ok (.invokestatic 27, 3) := by decide +kernel
theorem d_WL_longest_21 : decode b_WL_longest 21 = .ok (.istore_n 1, 1) := by decide +kernel
theorem d_WL_longest_22 : decode b_WL_longest 22 = .ok (.iinc 2 1, 3) := by decide +kernel
theorem d_WL_longest_25 : decode b_WL_longest 25 = .ok (.goto (-21), 3) := by decide +kernel
theorem d_WL_longest_28 : decode b_WL_longest 28 = .ok (.iload_n 1, 1) := by decide +kernel
theorem d_WL_longest_29 : decode b_WL_longest 29 = .ok (.ireturn, 1) := by decide +kernel
theorem d_WL_insertAt_0 : decode b_WL_insertAt 0 = .ok (.aload_n 0, 1) := by decide +kernel
theorem d_WL_insertAt_1 : decode b_WL_insertAt 1 = .ok (.getfield 15, 3) := by decide +kernel
theorem d_WL_insertAt_4 : decode b_WL_insertAt 4 = .ok (.iload_n 1, 1) := by decide +kernel
theorem d_WL_insertAt_5 : decode b_WL_insertAt 5 = .ok (.iaload, 1) := by decide +kernel
theorem d_WL_insertAt_6 : decode b_WL_insertAt 6 = .ok (.istore_n 3, 1) := by decide +kernel
theorem d_WL_insertAt_7 : decode b_WL_insertAt 7 = .ok (.aload_n 2, 1) := by decide +kernel
theorem d_WL_insertAt_8 : decode b_WL_insertAt 8 = .ok (.invokevirtual 40, 3) := by decide +kernel
theorem d_WL_insertAt_11 : decode b_WL_insertAt 11 = .ok (.istore 4, 2) := by decide +kernel
theorem d_WL_insertAt_13 : decode b_WL_insertAt 13 = .ok (.aload_n 0, 1) := by decide +kernel
theorem d_WL_insertAt_14 : decode b_WL_insertAt 14 = .ok (.getfield 9, 3) := by decide +kernel
theorem d_WL_insertAt_17 : decode b_WL_insertAt 17 = .ok (.iload_n 3, 1) := by decide +kernel
theorem d_WL_insertAt_18 : decode b_WL_insertAt 18 = .ok (.aload_n 0, 1) := by decide +kernel
theorem d_WL_insertAt_19 : decode b_WL_insertAt 19 = .ok (.getfield 9, 3) := by decide +kernel
theorem d_WL_insertAt_22 : decode b_WL_insertAt 22 = .ok (.iload_n 3, 1) := by decide +kernel
theorem d_WL_insertAt_23 : decode b_WL_insertAt 23 = .ok (.iload 4, 2) := by decide +kernel
theorem d_WL_insertAt_25 : decode b_WL_insertAt 25 = .ok (.iadd, 1) := by decide +kernel
theorem d_WL_insertAt_26 : decode b_WL_insertAt 26 = .ok (.aload_n 0, 1) := by decide +kernel
theorem d_WL_insertAt_27 : decode b_WL_insertAt 27 = .ok (.invokevirtual 37, 3) := by decide +kernel
theorem d_WL_insertAt_30 : decode b_WL_insertAt 30 = .ok (.iload_n 3, 1) := by decide +kernel
theorem d_WL_insertAt_31 : decode b_WL_insertAt 31 = .ok (.isub, 1) := by decide +kernel
theorem d_WL_insertAt_32 : decode b_WL_insertAt 32 = .ok (.invokestatic 45, 3) := by decide +kernel
theorem d_WL_insertAt_35 : decode b_WL_insertAt 35 = .ok (.aload_n 2, 1) := by decide +kernel
theorem d_WL_insertAt_36 : decode b_WL_insertAt 36 = .ok (.aload_n 0, 1) := by decide +kernel
theorem d_WL_insertAt_37 : decode b_WL_insertAt 37 = .ok (.getfield 9, 3) := by decide +kernel
theorem d_WL_insertAt_40 : decode b_WL_insertAt 40 = .ok (.iload_n 3, 1) := by decide +kernel
theorem d_WL_insertAt_41 : decode b_WL_insertAt 41 = .ok (.invokevirtual 51, 3) := by decide +kernel
theorem d_WL_insertAt_44 : decode b_WL_insertAt 44 = .ok (.aload_n 0, 1) := by decide +kernel
theorem d_WL_insertAt_45 : decode b_WL_insertAt 45 = .ok (.getfield 19, 3) := by decide +kernel
theorem d_WL_insertAt_48 : decode b_WL_insertAt 48 = .ok (.istore 5, 2) := by decide +kernel
theorem d_WL_insertAt_50 : decode b_WL_insertAt 50 = .ok (.iload 5, 2) := by decide +kernel
theorem d_WL_insertAt_52 : decode b_WL_insertAt 52 = .ok (.iload_n 1, 1) := by decide +kernel
theorem d_WL_insertAt_53 : decode b_WL_insertAt 53 = .ok (.if_icmp .lt 28, 3) := by decide +kernel
theorem d_WL_insertAt_56 : decode b_WL_insertAt 56 = .ok (.aload_n 0, 1) := by decide +kernel
theorem d_WL_insertAt_57 : decode b_WL_insertAt 57 = .ok (.getfield 15, 3) := by decide +kernel
theorem d_WL_insertAt_60 : decode b_WL_insertAt 60 = .ok (.iload 5, 2) := by decide +kernel
theorem d_WL_insertAt_62 : decode b_WL_insertAt 62 = .ok (.iconst 1, 1) := by decide +kernel
theorem d_WL_insertAt_63 : decode b_WL_insertAt 63 = .ok (.iadd, 1) := by decide +kernel
theorem d_WL_insertAt_64 : decode b_WL_insertAt 64 = .ok (.aload_n 0, 1) := by decide +kernel
theorem d_WL_insertAt_65 : decode b_WL_insertAt 65 = .ok (.getfield 15, 3) := by decide +kernel
theorem d_WL_insertAt_68 : decode b_WL_insertAt 68 = .ok (.iload 5, 2) := by decide +kernel
theorem d_WL_insertAt_70 : decode b_WL_insertAt 70 = .ok (.iaload, 1) := by decide +kernel
theorem d_WL_insertAt_71 : decode b_WL_insertAt 71 = .ok (.iload 4, 2) := by decide +kernel
theorem d_WL_insertAt_73 : decode b_WL_insertAt 73 = .ok (.iadd, 1) := by decide +kernel
theorem d_WL_insertAt_74 : decode b_WL_insertAt 74 = .ok (.iastore, 1) := by decide +kernel
theorem d_WL_insertAt_75 : decode b_WL_insertAt 75 = .ok (.iinc 5 (-1), 3) := by decide +kernel
theorem d_WL_insertAt_78 : decode b_WL_insertAt 78 = .ok (.goto (-28), 3) := by decide +kernel
theorem d_WL_insertAt_81 : decode b_WL_insertAt 81 = .ok (.aload_n 0, 1) := by decide +kernel
theorem d_WL_insertAt_82 : decode b_WL_insertAt 82 = .ok (.dup, 1) := by decide +kernel
theorem d_WL_insertAt_83 : decode b_WL_insertAt 83 = .ok (.getfield 19, 3) := by decide +kernel
theorem d_WL_insertAt_86 : decode b_WL_insertAt 86 = .ok (.iconst 1, 1) := by decide +kernel
theorem d_WL_insertAt_87 : decode b_WL_insertAt 87 = .ok (.iadd, 1) := by decide +kernel
theorem d_WL_insertAt_88 : decode b_WL_insertAt 88 = .ok (.putfield 19, 3) := by decide +kernel
theorem d_WL_insertAt_91 : decode b_WL_insertAt 91 = .ok (.return_, 1) := by decide +kernel
theorem d_Law_type_0 : decode b_Law_type 0 = .ok (.aload 5, 2) := by decide +kernel
theorem d_Law_type_2 : decode b_Law_type 2 = .ok (.iconst 0, 1) := by decide +kernel
theorem d_Law_type_3 : decode b_Law_type 3 = .ok (.aload_n 0, 1) := by decide +kernel
theorem d_Law_type_4 : decode b_Law_type 4 = .ok (.lload_n 1, 1) := by decide +kernel
theorem d_Law_type_5 : decode b_Law_type 5 = .ok (.lload_n 3, 1) := by decide +kernel
theorem d_Law_type_6 : decode b_Law_type 6 = .ok (.invokevirtual 7, 3) := by decide +kernel
theorem d_Law_type_9 : decode b_Law_type 9 = .ok (.i2l, 1) := by decide +kernel
theorem d_Law_type_10 : decode b_Law_type 10 = .ok (.lastore, 1) := by decide +kernel
theorem d_Law_type_11 : decode b_Law_type 11 = .ok (.goto 11, 3) := by decide +kernel
theorem d_Law_type_14 : decode b_Law_type 14 = .ok (.astore 6, 2) := by decide +kernel
theorem d_Law_type_16 : decode b_Law_type 16 = .ok (.iconst 1, 1) := by decide +kernel
theorem d_Law_type_17 : decode b_Law_type 17 = .ok (.ireturn, 1) := by decide +kernel
theorem d_Law_type_18 : decode b_Law_type 18 = .ok (.astore 6, 2) := by decide +kernel
theorem d_Law_type_20 : decode b_Law_type 20 = .ok (.iconst 2, 1) := by decide +kernel
theorem d_Law_type_21 : decode b_Law_type 21 = .ok (.ireturn, 1) := by decide +kernel
theorem d_Law_type_22 : decode b_Law_type 22 = .ok (.iconst 0, 1) := by decide +kernel
theorem d_Law_type_23 : decode b_Law_type 23 = .ok (.ireturn, 1) := by decide +kernel
theorem d_Law_letter_0 : decode b_Law_letter 0 = .ok (.aload_n 3, 1) := by decide +kernel
theorem d_Law_letter_1 : decode b_Law_letter 1 = .ok (.iconst 0, 1) := by decide +kernel
theorem d_Law_letter_2 : decode b_Law_letter 2 = .ok (.aload_n 0, 1) := by decide +kernel
theorem d_Law_letter_3 : decode b_Law_letter 3 = .ok (.iload_n 1, 1) := by decide +kernel
theorem d_Law_letter_4 : decode b_Law_letter 4 = .ok (.iload_n 2, 1) := by decide +kernel
theorem d_Law_letter_5 : decode b_Law_letter 5 = .ok (.invokevirtual 28, 3) := by decide +kernel
theorem d_Law_letter_8 : decode b_Law_letter 8 = .ok (.i2l, 1) := by decide +kernel
theorem d_Law_letter_9 : decode b_Law_letter 9 = .ok (.lastore, 1) := by decide +kernel
theorem d_Law_letter_10 : decode b_Law_letter 10 = .ok (.goto 7, 3) := by decide +kernel
theorem d_Law_letter_13 : decode b_Law_letter 13 = .ok (.astore 4, 2) := by decide +kernel
theorem d_Law_letter_15 : decode b_Law_letter 15 = .ok (.iconst 1, 1) := by decide +kernel
theorem d_Law_letter_16 : decode b_Law_letter 16 = .ok (.ireturn, 1) := by decide +kernel
theorem d_Law_letter_17 : decode b_Law_letter 17 = .ok (.iconst 0, 1) := by decide +kernel
theorem d_Law_letter_18 : decode b_Law_letter 18 = .ok (.ireturn, 1) := by decide +kernel
