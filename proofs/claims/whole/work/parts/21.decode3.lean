theorem d_NW_remove_0 : decode b_NW_remove 0 = .ok (.aload_n 0, 1) := by decide +kernel
theorem d_NW_remove_1 : decode b_NW_remove 1 = .ok (.invokevirtual 76, 3) := by decide +kernel
theorem d_NW_remove_4 : decode b_NW_remove 4 = .ok (.astore_n 1, 1) := by decide +kernel
theorem d_NW_remove_5 : decode b_NW_remove 5 = .ok (.aload_n 1, 1) := by decide +kernel
theorem d_NW_remove_6 : decode b_NW_remove 6 = .ok (.invokevirtual 80, 3) := by decide +kernel
theorem d_NW_remove_9 : decode b_NW_remove 9 = .ok (.ifCond .eq 11, 3) := by decide +kernel
theorem d_NW_remove_12 : decode b_NW_remove 12 = .ok (.new 58, 3) := by decide +kernel
theorem d_NW_remove_15 : decode b_NW_remove 15 = .ok (.dup, 1) := by decide +kernel
theorem d_NW_remove_16 : decode b_NW_remove 16 = .ok (.invokespecial 60, 3) := by decide +kernel
theorem d_NW_remove_19 : decode b_NW_remove 19 = .ok (.athrow, 1) := by decide +kernel
theorem d_NW_remove_20 : decode b_NW_remove 20 = .ok (.aload_n 0, 1) := by decide +kernel
theorem d_NW_remove_21 : decode b_NW_remove 21 = .ok (.getfield 22, 3) := by decide +kernel
theorem d_NW_remove_24 : decode b_NW_remove 24 = .ok (.aload_n 1, 1) := by decide +kernel
theorem d_NW_remove_25 : decode b_NW_remove 25 = .ok (.invokevirtual 84, 3) := by decide +kernel
theorem d_NW_remove_28 : decode b_NW_remove 28 = .ok (.istore_n 2, 1) := by decide +kernel
theorem d_NW_remove_29 : decode b_NW_remove 29 = .ok (.aload_n 0, 1) := by decide +kernel
theorem d_NW_remove_30 : decode b_NW_remove 30 = .ok (.getfield 22, 3) := by decide +kernel
theorem d_NW_remove_33 : decode b_NW_remove 33 = .ok (.iload_n 2, 1) := by decide +kernel
theorem d_NW_remove_34 : decode b_NW_remove 34 = .ok (.aload_n 1, 1) := by decide +kernel
theorem d_NW_remove_35 : decode b_NW_remove 35 = .ok (.invokevirtual 88, 3) := by decide +kernel
theorem d_NW_remove_38 : decode b_NW_remove 38 = .ok (.ifCond .eq 11, 3) := by decide +kernel
theorem d_NW_remove_41 : decode b_NW_remove 41 = .ok (.aload_n 0, 1) := by decide +kernel
theorem d_NW_remove_42 : decode b_NW_remove 42 = .ok (.getfield 22, 3) := by decide +kernel
theorem d_NW_remove_45 : decode b_NW_remove 45 = .ok (.iload_n 2, 1) := by decide +kernel
theorem d_NW_remove_46 : decode b_NW_remove 46 = .ok (.invokevirtual 103, 3) := by decide +kernel
theorem d_NW_remove_49 : decode b_NW_remove 49 = .ok (.aload_n 0, 1) := by decide +kernel
theorem d_NW_remove_50 : decode b_NW_remove 50 = .ok (.getfield 22, 3) := by decide +kernel
theorem d_NW_remove_53 : decode b_NW_remove 53 = .ok (.invokevirtual 92, 3) := by decide +kernel
theorem d_NW_remove_56 : decode b_NW_remove 56 = .ok (.ireturn, 1) := by decide +kernel
theorem d_NW_letter_0 : decode b_NW_letter 0 = .ok (.aload_n 0, 1) := by decide +kernel
theorem d_NW_letter_1 : decode b_NW_letter 1 = .ok (.getfield 29, 3) := by decide +kernel
theorem d_NW_letter_4 : decode b_NW_letter 4 = .ok (.iload_n 1, 1) := by decide +kernel
theorem d_NW_letter_5 : decode b_NW_letter 5 = .ok (.invokevirtual 149, 3) := by decide +kernel
theorem d_NW_letter_8 : decode b_NW_letter 8 = .ok (.ifCond .eq 7, 3) := by decide +kernel
theorem d_NW_letter_11 : decode b_NW_letter 11 = .ok (.iload_n 2, 1) := by decide +kernel
theorem d_NW_letter_12 : decode b_NW_letter 12 = .ok (.ifCond .ge 11, 3) := by decide +kernel
theorem d_NW_letter_15 : decode b_NW_letter 15 = .ok (.new 58, 3) := by decide +kernel
theorem d_NW_letter_18 : decode b_NW_letter 18 = .ok (.dup, 1) := by decide +kernel
theorem d_NW_letter_19 : decode b_NW_letter 19 = .ok (.invokespecial 60, 3) := by decide +kernel
theorem d_NW_letter_22 : decode b_NW_letter 22 = .ok (.athrow, 1) := by decide +kernel
theorem d_NW_letter_23 : decode b_NW_letter 23 = .ok (.aload_n 0, 1) := by decide +kernel
theorem d_NW_letter_24 : decode b_NW_letter 24 = .ok (.getfield 29, 3) := by decide +kernel
theorem d_NW_letter_27 : decode b_NW_letter 27 = .ok (.iload_n 1, 1) := by decide +kernel
theorem d_NW_letter_28 : decode b_NW_letter 28 = .ok (.iload_n 2, 1) := by decide +kernel
theorem d_NW_letter_29 : decode b_NW_letter 29 = .ok (.invokevirtual 153, 3) := by decide +kernel
theorem d_NW_letter_32 : decode b_NW_letter 32 = .ok (.ireturn, 1) := by decide +kernel
theorem d_NW_appendToInput_0 : decode b_NW_appendToInput 0 = .ok (.bipush 56, 2) := by decide +kernel
theorem d_NW_appendToInput_2 : decode b_NW_appendToInput 2 = .ok (.istore_n 3, 1) := by decide +kernel
theorem d_NW_appendToInput_3 : decode b_NW_appendToInput 3 = .ok (.iload_n 3, 1) := by decide +kernel
theorem d_NW_appendToInput_4 : decode b_NW_appendToInput 4 = .ok (.ifCond .lt 30, 3) := by decide +kernel
theorem d_NW_appendToInput_7 : decode b_NW_appendToInput 7 = .ok (.lload_n 1, 1) := by decide +kernel
theorem d_NW_appendToInput_8 : decode b_NW_appendToInput 8 = .ok (.iload_n 3, 1) := by decide +kernel
theorem d_NW_appendToInput_9 : decode b_NW_appendToInput 9 = .ok (.invokestatic 166, 3) := by decide +kernel
theorem d_NW_appendToInput_12 : decode b_NW_appendToInput 12 = .ok (.istore 4, 2) := by decide +kernel
theorem d_NW_appendToInput_14 : decode b_NW_appendToInput 14 = .ok (.iload 4, 2) := by decide +kernel
theorem d_NW_appendToInput_16 : decode b_NW_appendToInput 16 = .ok (.ifCond .eq 12, 3) := by decide +kernel
theorem d_NW_appendToInput_19 : decode b_NW_appendToInput 19 = .ok (.aload_n 0, 1) := by decide +kernel
theorem d_NW_appendToInput_20 : decode b_NW_appendToInput 20 = .ok (.getfield 10, 3) := by decide +kernel
theorem d_NW_appendToInput_23 : decode b_NW_appendToInput 23 = .ok (.iload 4, 2) := by decide +kernel
theorem d_NW_appendToInput_25 : decode b_NW_appendToInput 25 = .ok (.invokevirtual 170, 3) := by decide +kernel
theorem d_NW_appendToInput_28 : decode b_NW_appendToInput 28 = .ok (.iinc 3 (-8), 3) := by decide +kernel
theorem d_NW_appendToInput_31 : decode b_NW_appendToInput 31 = .ok (.goto (-28), 3) := by decide +kernel
theorem d_NW_appendToInput_34 : decode b_NW_appendToInput 34 = .ok (.return_, 1) := by decide +kernel
theorem d_Mod_init_0 : decode b_Mod_init 0 = .ok (.aload_n 0, 1) := by decide +kernel
theorem d_Mod_init_1 : decode b_Mod_init 1 = .ok (.invokespecial 1, 3) := by decide +kernel
theorem d_Mod_init_4 : decode b_Mod_init 4 = .ok (.aload_n 0, 1) := by decide +kernel
theorem d_Mod_init_5 : decode b_Mod_init 5 = .ok (.bipush 60, 2) := by decide +kernel
theorem d_Mod_init_7 : decode b_Mod_init 7 = .ok (.newarray .byte, 2) := by decide +kernel
theorem d_Mod_init_9 : decode b_Mod_init 9 = .ok (.putfield 7, 3) := by decide +kernel
theorem d_Mod_init_12 : decode b_Mod_init 12 = .ok (.aload_n 0, 1) := by decide +kernel
theorem d_Mod_init_13 : decode b_Mod_init 13 = .ok (.ldc 13, 2) := by decide +kernel
theorem d_Mod_init_15 : decode b_Mod_init 15 = .ok (.newarray .byte, 2) := by decide +kernel
theorem d_Mod_init_17 : decode b_Mod_init 17 = .ok (.putfield 14, 3) := by decide +kernel
theorem d_Mod_init_20 : decode b_Mod_init 20 = .ok (.aload_n 0, 1) := by decide +kernel
theorem d_Mod_init_21 : decode b_Mod_init 21 = .ok (.sipush 3000, 3) := by decide +kernel
theorem d_Mod_init_24 : decode b_Mod_init 24 = .ok (.newarray .byte, 2) := by decide +kernel
theorem d_Mod_init_26 : decode b_Mod_init 26 = .ok (.putfield 17, 3) := by decide +kernel
theorem d_Mod_init_29 : decode b_Mod_init 29 = .ok (.aload_n 0, 1) := by decide +kernel
theorem d_Mod_init_30 : decode b_Mod_init 30 = .ok (.sipush 1000, 3) := by decide +kernel
theorem d_Mod_init_33 : decode b_Mod_init 33 = .ok (.newarray .int, 2) := by decide +kernel
theorem d_Mod_init_35 : decode b_Mod_init 35 = .ok (.putfield 20, 3) := by decide +kernel
theorem d_Mod_init_38 : decode b_Mod_init 38 = .ok (.aload_n 0, 1) := by decide +kernel
theorem d_Mod_init_39 : decode b_Mod_init 39 = .ok (.bipush 50, 2) := by decide +kernel
theorem d_Mod_init_41 : decode b_Mod_init 41 = .ok (.newarray .int, 2) := by decide +kernel
theorem d_Mod_init_43 : decode b_Mod_init 43 = .ok (.putfield 24, 3) := by decide +kernel
theorem d_Mod_init_46 : decode b_Mod_init 46 = .ok (.aload_n 0, 1) := by decide +kernel
theorem d_Mod_init_47 : decode b_Mod_init 47 = .ok (.bipush 50, 2) := by decide +kernel
theorem d_Mod_init_49 : decode b_Mod_init 49 = .ok (.newarray .int, 2) := by decide +kernel
theorem d_Mod_init_51 : decode b_Mod_init 51 = .ok (.putfield 27, 3) := by decide +kernel
theorem d_Mod_init_54 : decode b_Mod_init 54 = .ok (.aload_n 0, 1) := by decide +kernel
theorem d_Mod_init_55 : decode b_Mod_init 55 = .ok (.bipush 50, 2) := by decide +kernel
theorem d_Mod_init_57 : decode b_Mod_init 57 = .ok (.newarray .int, 2) := by decide +kernel
theorem d_Mod_init_59 : decode b_Mod_init 59 = .ok (.putfield 30, 3) := by decide +kernel
theorem d_Mod_init_62 : decode b_Mod_init 62 = .ok (.aload_n 0, 1) := by decide +kernel
theorem d_Mod_init_63 : decode b_Mod_init 63 = .ok (.bipush 50, 2) := by decide +kernel
theorem d_Mod_init_65 : decode b_Mod_init 65 = .ok (.newarray .int, 2) := by decide +kernel
theorem d_Mod_init_67 : decode b_Mod_init 67 = .ok (.putfield 33, 3) := by decide +kernel
theorem d_Mod_init_70 : decode b_Mod_init 70 = .ok (.aload_n 0, 1) := by decide +kernel
theorem d_Mod_init_71 : decode b_Mod_init 71 = .ok (.sipush 3721, 3) := by decide +kernel
theorem d_Mod_init_74 : decode b_Mod_init 74 = .ok (.newarray .int, 2) := by decide +kernel
theorem d_Mod_init_76 : decode b_Mod_init 76 = .ok (.putfield 36, 3) := by decide +kernel
theorem d_Mod_init_79 : decode b_Mod_init 79 = .ok (.aload_n 0, 1) := by decide +kernel
theorem d_Mod_init_80 : decode b_Mod_init 80 = .ok (.bipush 61, 2) := by decide +kernel
theorem d_Mod_init_82 : decode b_Mod_init 82 = .ok (.newarray .boolean, 2) := by decide +kernel
theorem d_Mod_init_84 : decode b_Mod_init 84 = .ok (.putfield 39, 3) := by decide +kernel
theorem d_Mod_init_87 : decode b_Mod_init 87 = .ok (.aload_n 0, 1) := by decide +kernel
theorem d_Mod_init_88 : decode b_Mod_init 88 = .ok (.bipush 61, 2) := by decide +kernel
theorem d_Mod_init_90 : decode b_Mod_init 90 = .ok (.newarray .boolean, 2) := by decide +kernel
theorem d_Mod_init_92 : decode b_Mod_init 92 = .ok (.putfield 43, 3) := by decide +kernel
theorem d_Mod_init_95 : decode b_Mod_init 95 = .ok (.return_, 1) := by decide +kernel
theorem d_Mod_take_0 : decode b_Mod_take 0 = .ok (.aload_n 0, 1) := by decide +kernel
theorem d_Mod_take_1 : decode b_Mod_take 1 = .ok (.getfield 50, 3) := by decide +kernel
theorem d_Mod_take_4 : decode b_Mod_take 4 = .ok (.istore_n 1, 1) := by decide +kernel
theorem d_Mod_take_5 : decode b_Mod_take 5 = .ok (.aload_n 0, 1) := by decide +kernel
theorem d_Mod_take_6 : decode b_Mod_take 6 = .ok (.iconst 0, 1) := by decide +kernel
theorem d_Mod_take_7 : decode b_Mod_take 7 = .ok (.putfield 50, 3) := by decide +kernel
theorem d_Mod_take_10 : decode b_Mod_take 10 = .ok (.iload_n 1, 1) := by decide +kernel
theorem d_Mod_take_11 : decode b_Mod_take 11 = .ok (.ireturn, 1) := by decide +kernel
theorem d_Mod_add_0 : decode b_Mod_add 0 = .ok (.aload_n 0, 1) := by decide +kernel
theorem d_Mod_add_1 : decode b_Mod_add 1 = .ok (.invokevirtual 63, 3) := by decide +kernel
theorem d_Mod_add_4 : decode b_Mod_add 4 = .ok (.istore_n 1, 1) := by decide +kernel
theorem d_Mod_add_5 : decode b_Mod_add 5 = .ok (.aload_n 0, 1) := by decide +kernel
theorem d_Mod_add_6 : decode b_Mod_add 6 = .ok (.iload_n 1, 1) := by decide +kernel
theorem d_Mod_add_7 : decode b_Mod_add 7 = .ok (.ifCond .ne 7, 3) := by decide +kernel
theorem d_Mod_add_10 : decode b_Mod_add 10 = .ok (.iconst 1, 1) := by decide +kernel
theorem d_Mod_add_11 : decode b_Mod_add 11 = .ok (.goto 4, 3) := by decide +kernel
theorem d_Mod_add_14 : decode b_Mod_add 14 = .ok (.iconst 0, 1) := by decide +kernel
theorem d_Mod_add_15 : decode b_Mod_add 15 = .ok (.putfield 46, 3) := by decide +kernel
theorem d_Mod_add_18 : decode b_Mod_add 18 = .ok (.iload_n 1, 1) := by decide +kernel
theorem d_Mod_add_19 : decode b_Mod_add 19 = .ok (.ifCond .ne 5, 3) := by decide +kernel
theorem d_Mod_add_22 : decode b_Mod_add 22 = .ok (.iconst 0, 1) := by decide +kernel
theorem d_Mod_add_23 : decode b_Mod_add 23 = .ok (.ireturn, 1) := by decide +kernel
theorem d_Mod_add_24 : decode b_Mod_add 24 = .ok (.aload_n 0, 1) := by decide +kernel
theorem d_Mod_add_25 : decode b_Mod_add 25 = .ok (.iload_n 1, 1) := by decide +kernel
theorem d_Mod_add_26 : decode b_Mod_add 26 = .ok (.invokevirtual 67, 3) := by decide +kernel
theorem d_Mod_add_29 : decode b_Mod_add 29 = .ok (.istore_n 2, 1) := by decide +kernel
theorem d_Mod_add_30 : decode b_Mod_add 30 = .ok (.iload_n 2, 1) := by decide +kernel
theorem d_Mod_add_31 : decode b_Mod_add 31 = .ok (.aload_n 0, 1) := by decide +kernel
theorem d_Mod_add_32 : decode b_Mod_add 32 = .ok (.getfield 57, 3) := by decide +kernel
theorem d_Mod_add_35 : decode b_Mod_add 35 = .ok (.if_icmp .ge 17, 3) := by decide +kernel
theorem d_Mod_add_38 : decode b_Mod_add 38 = .ok (.aload_n 0, 1) := by decide +kernel
theorem d_Mod_add_39 : decode b_Mod_add 39 = .ok (.iload_n 2, 1) := by decide +kernel
theorem d_Mod_add_40 : decode b_Mod_add 40 = .ok (.iload_n 1, 1) := by decide +kernel
theorem d_Mod_add_41 : decode b_Mod_add 41 = .ok (.invokevirtual 60, 3) := by decide +kernel
theorem d_Mod_add_44 : decode b_Mod_add 44 = .ok (.ifCond .ne 8, 3) := by decide +kernel
theorem d_Mod_add_47 : decode b_Mod_add 47 = .ok (.aload_n 0, 1) := by decide +kernel
theorem d_Mod_add_48 : decode b_Mod_add 48 = .ok (.getfield 57, 3) := by decide +kernel
theorem d_Mod_add_51 : decode b_Mod_add 51 = .ok (.ireturn, 1) := by decide +kernel
theorem d_Mod_add_52 : decode b_Mod_add 52 = .ok (.aload_n 0, 1) := by decide +kernel
theorem d_Mod_add_53 : decode b_Mod_add 53 = .ok (.getfield 57, 3) := by decide +kernel
theorem d_Mod_add_56 : decode b_Mod_add 56 = .ok (.sipush 1000, 3) := by decide +kernel
theorem d_Mod_add_59 : decode b_Mod_add 59 = .ok (.if_icmp .eq 15, 3) := by decide +kernel
theorem d_Mod_add_62 : decode b_Mod_add 62 = .ok (.aload_n 0, 1) := by decide +kernel
theorem d_Mod_add_63 : decode b_Mod_add 63 = .ok (.getfield 71, 3) := by decide +kernel
theorem d_Mod_add_66 : decode b_Mod_add 66 = .ok (.iload_n 1, 1) := by decide +kernel
theorem d_Mod_add_67 : decode b_Mod_add 67 = .ok (.iadd, 1) := by decide +kernel
theorem d_Mod_add_68 : decode b_Mod_add 68 = .ok (.sipush 12000, 3) := by decide +kernel
theorem d_Mod_add_71 : decode b_Mod_add 71 = .ok (.if_icmp .le 10, 3) := by decide +kernel
theorem d_Mod_add_74 : decode b_Mod_add 74 = .ok (.aload_n 0, 1) := by decide +kernel
theorem d_Mod_add_75 : decode b_Mod_add 75 = .ok (.iconst 2, 1) := by decide +kernel
theorem d_Mod_add_76 : decode b_Mod_add 76 = .ok (.putfield 46, 3) := by decide +kernel
theorem d_Mod_add_79 : decode b_Mod_add 79 = .ok (.iconst 0, 1) := by decide +kernel
theorem d_Mod_add_80 : decode b_Mod_add 80 = .ok (.ireturn, 1) := by decide +kernel
theorem d_Mod_add_81 : decode b_Mod_add 81 = .ok (.aload_n 0, 1) := by decide +kernel
theorem d_Mod_add_82 : decode b_Mod_add 82 = .ok (.getfield 57, 3) := by decide +kernel
theorem d_Mod_add_85 : decode b_Mod_add 85 = .ok (.istore_n 3, 1) := by decide +kernel
theorem d_Mod_add_86 : decode b_Mod_add 86 = .ok (.iload_n 3, 1) := by decide +kernel
theorem d_Mod_add_87 : decode b_Mod_add 87 = .ok (.iload_n 2, 1) := by decide +kernel
theorem d_Mod_add_88 : decode b_Mod_add 88 = .ok (.if_icmp .le 25, 3) := by decide +kernel
theorem d_Mod_add_91 : decode b_Mod_add 91 = .ok (.aload_n 0, 1) := by decide +kernel
theorem d_Mod_add_92 : decode b_Mod_add 92 = .ok (.iload_n 3, 1) := by decide +kernel
theorem d_Mod_add_93 : decode b_Mod_add 93 = .ok (.iconst 1, 1) := by decide +kernel
theorem d_Mod_add_94 : decode b_Mod_add 94 = .ok (.isub, 1) := by decide +kernel
theorem d_Mod_add_95 : decode b_Mod_add 95 = .ok (.iload_n 3, 1) := by decide +kernel
theorem d_Mod_add_96 : decode b_Mod_add 96 = .ok (.aload_n 0, 1) := by decide +kernel
theorem d_Mod_add_97 : decode b_Mod_add 97 = .ok (.getfield 20, 3) := by decide +kernel
theorem d_Mod_add_100 : decode b_Mod_add 100 = .ok (.iload_n 3, 1) := by decide +kernel
theorem d_Mod_add_101 : decode b_Mod_add 101 = .ok (.iconst 1, 1) := by decide +kernel
theorem d_Mod_add_102 : decode b_Mod_add 102 = .ok (.isub, 1) := by decide +kernel
theorem d_Mod_add_103 : decode b_Mod_add 103 = .ok (.iaload, 1) := by decide +kernel
theorem d_Mod_add_104 : decode b_Mod_add 104 = .ok (.invokevirtual 74, 3) := by decide +kernel
theorem d_Mod_add_107 : decode b_Mod_add 107 = .ok (.iinc 3 (-1), 3) := by decide +kernel
theorem d_Mod_add_110 : decode b_Mod_add 110 = .ok (.goto (-24), 3) := by decide +kernel
theorem d_Mod_add_113 : decode b_Mod_add 113 = .ok (.iconst 0, 1) := by decide +kernel
theorem d_Mod_add_114 : decode b_Mod_add 114 = .ok (.istore_n 3, 1) := by decide +kernel
theorem d_Mod_add_115 : decode b_Mod_add 115 = .ok (.iload_n 3, 1) := by decide +kernel
theorem d_Mod_add_116 : decode b_Mod_add 116 = .ok (.iload_n 1, 1) := by decide +kernel
theorem d_Mod_add_117 : decode b_Mod_add 117 = .ok (.if_icmp .ge 26, 3) := by decide +kernel
theorem d_Mod_add_120 : decode b_Mod_add 120 = .ok (.aload_n 0, 1) := by decide +kernel
theorem d_Mod_add_121 : decode b_Mod_add 121 = .ok (.getfield 14, 3) := by decide +kernel
theorem d_Mod_add_124 : decode b_Mod_add 124 = .ok (.iload_n 2, 1) := by decide +kernel
theorem d_Mod_add_125 : decode b_Mod_add 125 = .ok (.bipush 60, 2) := by decide +kernel
theorem d_Mod_add_127 : decode b_Mod_add 127 = .ok (.imul, 1) := by decide +kernel
theorem d_Mod_add_128 : decode b_Mod_add 128 = .ok (.iload_n 3, 1) := by decide +kernel
theorem d_Mod_add_129 : decode b_Mod_add 129 = .ok (.iadd, 1) := by decide +kernel
theorem d_Mod_add_130 : decode b_Mod_add 130 = .ok (.aload_n 0, 1) := by decide +kernel
theorem d_Mod_add_131 : decode b_Mod_add 131 = .ok (.getfield 7, 3) := by decide +kernel
theorem d_Mod_add_134 : decode b_Mod_add 134 = .ok (.iload_n 3, 1) := by decide +kernel
theorem d_Mod_add_135 : decode b_Mod_add 135 = .ok (.baload, 1) := by decide +kernel
theorem d_Mod_add_136 : decode b_Mod_add 136 = .ok (.bastore, 1) := by decide +kernel
theorem d_Mod_add_137 : decode b_Mod_add 137 = .ok (.iinc 3 1, 3) := by decide +kernel
theorem d_Mod_add_140 : decode b_Mod_add 140 = .ok (.goto (-25), 3) := by decide +kernel
theorem d_Mod_add_143 : decode b_Mod_add 143 = .ok (.aload_n 0, 1) := by decide +kernel
theorem d_Mod_add_144 : decode b_Mod_add 144 = .ok (.getfield 20, 3) := by decide +kernel
theorem d_Mod_add_147 : decode b_Mod_add 147 = .ok (.iload_n 2, 1) := by decide +kernel
theorem d_Mod_add_148 : decode b_Mod_add 148 = .ok (.iload_n 1, 1) := by decide +kernel
theorem d_Mod_add_149 : decode b_Mod_add 149 = .ok (.iastore, 1) := by decide +kernel
theorem d_Mod_add_150 : decode b_Mod_add 150 = .ok (.aload_n 0, 1) := by decide +kernel
theorem d_Mod_add_151 : decode b_Mod_add 151 = .ok (.dup, 1) := by decide +kernel
theorem d_Mod_add_152 : decode b_Mod_add 152 = .ok (.getfield 57, 3) := by decide +kernel
theorem d_Mod_add_155 : decode b_Mod_add 155 = .ok (.iconst 1, 1) := by decide +kernel
theorem d_Mod_add_156 : decode b_Mod_add 156 = .ok (.iadd, 1) := by decide +kernel
theorem d_Mod_add_157 : decode b_Mod_add 157 = .ok (.putfield 57, 3) := by decide +kernel
theorem d_Mod_add_160 : decode b_Mod_add 160 = .ok (.aload_n 0, 1) := by decide +kernel
theorem d_Mod_add_161 : decode b_Mod_add 161 = .ok (.dup, 1) := by decide +kernel
theorem d_Mod_add_162 : decode b_Mod_add 162 = .ok (.getfield 71, 3) := by decide +kernel
theorem d_Mod_add_165 : decode b_Mod_add 165 = .ok (.iload_n 1, 1) := by decide +kernel
theorem d_Mod_add_166 : decode b_Mod_add 166 = .ok (.iadd, 1) := by decide +kernel
theorem d_Mod_add_167 : decode b_Mod_add 167 = .ok (.putfield 71, 3) := by decide +kernel
theorem d_Mod_add_170 : decode b_Mod_add 170 = .ok (.aload_n 0, 1) := by decide +kernel
theorem d_Mod_add_171 : decode b_Mod_add 171 = .ok (.getfield 57, 3) := by decide +kernel
theorem d_Mod_add_174 : decode b_Mod_add 174 = .ok (.ireturn, 1) := by decide +kernel
theorem d_Mod_near_0 : decode b_Mod_near 0 = .ok (.aload_n 0, 1) := by decide +kernel
theorem d_Mod_near_1 : decode b_Mod_near 1 = .ok (.invokevirtual 63, 3) := by decide +kernel
theorem d_Mod_near_4 : decode b_Mod_near 4 = .ok (.istore_n 2, 1) := by decide +kernel
theorem d_Mod_near_5 : decode b_Mod_near 5 = .ok (.aload_n 0, 1) := by decide +kernel
theorem d_Mod_near_6 : decode b_Mod_near 6 = .ok (.iload_n 1, 1) := by decide +kernel
theorem d_Mod_near_7 : decode b_Mod_near 7 = .ok (.ifCond .lt 12, 3) := by decide +kernel
theorem d_Mod_near_10 : decode b_Mod_near 10 = .ok (.iload_n 1, 1) := by decide +kernel
theorem d_Mod_near_11 : decode b_Mod_near 11 = .ok (.iconst 3, 1) := by decide +kernel
theorem d_Mod_near_12 : decode b_Mod_near 12 = .ok (.if_icmp .gt 7, 3) := by decide +kernel
theorem d_Mod_near_15 : decode b_Mod_near 15 = .ok (.iload_n 2, 1) := by decide +kernel
theorem d_Mod_near_16 : decode b_Mod_near 16 = .ok (.ifCond .ne 7, 3) := by decide +kernel
theorem d_Mod_near_19 : decode b_Mod_near 19 = .ok (.iconst 1, 1) := by decide +kernel
theorem d_Mod_near_20 : decode b_Mod_near 20 = .ok (.goto 4, 3) := by decide +kernel
theorem d_Mod_near_23 : decode b_Mod_near 23 = .ok (.iconst 0, 1) := by decide +kernel
theorem d_Mod_near_24 : decode b_Mod_near 24 = .ok (.putfield 46, 3) := by decide +kernel
theorem d_Mod_near_27 : decode b_Mod_near 27 = .ok (.aload_n 0, 1) := by decide +kernel
theorem d_Mod_near_28 : decode b_Mod_near 28 = .ok (.getfield 46, 3) := by decide +kernel
theorem d_Mod_near_31 : decode b_Mod_near 31 = .ok (.ifCond .eq 5, 3) := by decide +kernel
theorem d_Mod_near_34 : decode b_Mod_near 34 = .ok (.iconst 0, 1) := by decide +kernel
theorem d_Mod_near_35 : decode b_Mod_near 35 = .ok (.ireturn, 1) := by decide +kernel
theorem d_Mod_near_36 : decode b_Mod_near 36 = .ok (.iconst 0, 1) := by decide +kernel
theorem d_Mod_near_37 : decode b_Mod_near 37 = .ok (.istore_n 3, 1) := by decide +kernel
theorem d_Mod_near_38 : decode b_Mod_near 38 = .ok (.iconst 0, 1) := by decide +kernel
theorem d_Mod_near_39 : decode b_Mod_near 39 = .ok (.istore 4, 2) := by decide +kernel
theorem d_Mod_near_41 : decode b_Mod_near 41 = .ok (.iload 4, 2) := by decide +kernel
theorem d_Mod_near_43 : decode b_Mod_near 43 = .ok (.iload_n 1, 1) := by decide +kernel
theorem d_Mod_near_44 : decode b_Mod_near 44 = .ok (.if_icmp .gt 90, 3) := by decide +kernel
theorem d_Mod_near_47 : decode b_Mod_near 47 = .ok (.iconst 0, 1) := by decide +kernel
theorem d_Mod_near_48 : decode b_Mod_near 48 = .ok (.istore 5, 2) := by decide +kernel
theorem d_Mod_near_50 : decode b_Mod_near 50 = .ok (.iload 5, 2) := by decide +kernel
theorem d_Mod_near_52 : decode b_Mod_near 52 = .ok (.aload_n 0, 1) := by decide +kernel
theorem d_Mod_near_53 : decode b_Mod_near 53 = .ok (.getfield 57, 3) := by decide +kernel
theorem d_Mod_near_56 : decode b_Mod_near 56 = .ok (.if_icmp .ge 72, 3) := by decide +kernel
theorem d_Mod_near_59 : decode b_Mod_near 59 = .ok (.iload_n 3, 1) := by decide +kernel
theorem d_Mod_near_60 : decode b_Mod_near 60 = .ok (.bipush 50, 2) := by decide +kernel
theorem d_Mod_near_62 : decode b_Mod_near 62 = .ok (.if_icmp .ge 66, 3) := by decide +kernel
theorem d_Mod_near_65 : decode b_Mod_near 65 = .ok (.aload_n 0, 1) := by decide +kernel
theorem d_Mod_near_66 : decode b_Mod_near 66 = .ok (.iload 5, 2) := by decide +kernel
theorem d_Mod_near_68 : decode b_Mod_near 68 = .ok (.iload_n 2, 1) := by decide +kernel
theorem d_Mod_near_69 : decode b_Mod_near 69 = .ok (.invokevirtual 78, 3) := by decide +kernel
theorem d_Mod_near_72 : decode b_Mod_near 72 = .ok (.iload 4, 2) := by decide +kernel
theorem d_Mod_near_74 : decode b_Mod_near 74 = .ok (.if_icmp .ne 48, 3) := by decide +kernel
theorem d_Mod_near_77 : decode b_Mod_near 77 = .ok (.iload 4, 2) := by decide +kernel
theorem d_Mod_near_79 : decode b_Mod_near 79 = .ok (.ifCond .le 24, 3) := by decide +kernel
theorem d_Mod_near_82 : decode b_Mod_near 82 = .ok (.iload 4, 2) := by decide +kernel
theorem d_Mod_near_84 : decode b_Mod_near 84 = .ok (.iload_n 2, 1) := by decide +kernel
theorem d_Mod_near_85 : decode b_Mod_near 85 = .ok (.if_icmp .ge 37, 3) := by decide +kernel
theorem d_Mod_near_88 : decode b_Mod_near 88 = .ok (.iload 4, 2) := by decide +kernel
theorem d_Mod_near_90 : decode b_Mod_near 90 = .ok (.aload_n 0, 1) := by decide +kernel
theorem d_Mod_near_91 : decode b_Mod_near 91 = .ok (.getfield 20, 3) := by decide +kernel
theorem d_Mod_near_94 : decode b_Mod_near 94 = .ok (.iload 5, 2) := by decide +kernel
theorem d_Mod_near_96 : decode b_Mod_near 96 = .ok (.iaload, 1) := by decide +kernel
theorem d_Mod_near_97 : decode b_Mod_near 97 = .ok (.if_icmp .lt 6, 3) := by decide +kernel
theorem d_Mod_near_100 : decode b_Mod_near 100 = .ok (.goto 22, 3) := by decide +kernel
theorem d_Mod_near_103 : decode b_Mod_near 103 = .ok (.aload_n 0, 1) := by decide +kernel
theorem d_Mod_near_104 : decode b_Mod_near 104 = .ok (.getfield 30, 3) := by decide +kernel
theorem d_Mod_near_107 : decode b_Mod_near 107 = .ok (.iload_n 3, 1) := by decide +kernel
theorem d_Mod_near_108 : decode b_Mod_near 108 = .ok (.iload 5, 2) := by decide +kernel
theorem d_Mod_near_110 : decode b_Mod_near 110 = .ok (.iastore, 1) := by decide +kernel
theorem d_Mod_near_111 : decode b_Mod_near 111 = .ok (.aload_n 0, 1) := by decide +kernel
theorem d_Mod_near_112 : decode b_Mod_near 112 = .ok (.getfield 33, 3) := by decide +kernel
theorem d_Mod_near_115 : decode b_Mod_near 115 = .ok (.iload_n 3, 1) := by decide +kernel
theorem d_Mod_near_116 : decode b_Mod_near 116 = .ok (.iload 4, 2) := by decide +kernel
theorem d_Mod_near_118 : decode b_Mod_near 118 = .ok (.iastore, 1) := by decide +kernel
theorem d_Mod_near_119 : decode b_Mod_near 119 = .ok (.iinc 3 1, 3) := by decide +kernel
theorem d_Mod_near_122 : decode b_Mod_near 122 = .ok (.iinc 5 1, 3) := by decide +kernel
theorem d_Mod_near_125 : decode b_Mod_near 125 = .ok (.goto (-75), 3) := by decide +kernel
theorem d_Mod_near_128 : decode b_Mod_near 128 = .ok (.iinc 4 1, 3) := by decide +kernel
theorem d_Mod_near_131 : decode b_Mod_near 131 = .ok (.goto (-90), 3) := by decide +kernel
theorem d_Mod_near_134 : decode b_Mod_near 134 = .ok (.aload_n 0, 1) := by decide +kernel
theorem d_Mod_near_135 : decode b_Mod_near 135 = .ok (.iconst 0, 1) := by decide +kernel
theorem d_Mod_near_136 : decode b_Mod_near 136 = .ok (.putfield 81, 3) := by decide +kernel
theorem d_Mod_near_139 : decode b_Mod_near 139 = .ok (.iconst 0, 1) := by decide +kernel
theorem d_Mod_near_140 : decode b_Mod_near 140 = .ok (.istore 4, 2) := by decide +kernel
theorem d_Mod_near_142 : decode b_Mod_near 142 = .ok (.iload 4, 2) := by decide +kernel
theorem d_Mod_near_144 : decode b_Mod_near 144 = .ok (.aload_n 0, 1) := by decide +kernel
theorem d_Mod_near_145 : decode b_Mod_near 145 = .ok (.getfield 57, 3) := by decide +kernel
theorem d_Mod_near_148 : decode b_Mod_near 148 = .ok (.if_icmp .ge 66, 3) := by decide +kernel
theorem d_Mod_near_151 : decode b_Mod_near 151 = .ok (.iconst 0, 1) := by decide +kernel
theorem d_Mod_near_152 : decode b_Mod_near 152 = .ok (.istore 5, 2) := by decide +kernel
theorem d_Mod_near_154 : decode b_Mod_near 154 = .ok (.iload 5, 2) := by decide +kernel
theorem d_Mod_near_156 : decode b_Mod_near 156 = .ok (.iload_n 3, 1) := by decide +kernel
theorem d_Mod_near_157 : decode b_Mod_near 157 = .ok (.if_icmp .ge 51, 3) := by decide +kernel
theorem d_Mod_near_160 : decode b_Mod_near 160 = .ok (.aload_n 0, 1) := by decide +kernel
theorem d_Mod_near_161 : decode b_Mod_near 161 = .ok (.getfield 30, 3) := by decide +kernel
theorem d_Mod_near_164 : decode b_Mod_near 164 = .ok (.iload 5, 2) := by decide +kernel
theorem d_Mod_near_166 : decode b_Mod_near 166 = .ok (.iaload, 1) := by decide +kernel
theorem d_Mod_near_167 : decode b_Mod_near 167 = .ok (.iload 4, 2) := by decide +kernel
theorem d_Mod_near_169 : decode b_Mod_near 169 = .ok (.if_icmp .eq 6, 3) := by decide +kernel
theorem d_Mod_near_172 : decode b_Mod_near 172 = .ok (.goto 30, 3) := by decide +kernel
theorem d_Mod_near_175 : decode b_Mod_near 175 = .ok (.aload_n 0, 1) := by decide +kernel
theorem d_Mod_near_176 : decode b_Mod_near 176 = .ok (.aload_n 0, 1) := by decide +kernel
theorem d_Mod_near_177 : decode b_Mod_near 177 = .ok (.getfield 81, 3) := by decide +kernel
theorem d_Mod_near_180 : decode b_Mod_near 180 = .ok (.iload 4, 2) := by decide +kernel
theorem d_Mod_near_182 : decode b_Mod_near 182 = .ok (.aload_n 0, 1) := by decide +kernel
theorem d_Mod_near_183 : decode b_Mod_near 183 = .ok (.getfield 33, 3) := by decide +kernel
theorem d_Mod_near_186 : decode b_Mod_near 186 = .ok (.iload 5, 2) := by decide +kernel
theorem d_Mod_near_188 : decode b_Mod_near 188 = .ok (.iaload, 1) := by decide +kernel
theorem d_Mod_near_189 : decode b_Mod_near 189 = .ok (.invokevirtual 84, 3) := by decide +kernel
theorem d_Mod_near_192 : decode b_Mod_near 192 = .ok (.aload_n 0, 1) := by decide +kernel
theorem d_Mod_near_193 : decode b_Mod_near 193 = .ok (.dup, 1) := by decide +kernel
theorem d_Mod_near_194 : decode b_Mod_near 194 = .ok (.getfield 81, 3) := by decide +kernel
theorem d_Mod_near_197 : decode b_Mod_near 197 = .ok (.iconst 1, 1) := by decide +kernel
theorem d_Mod_near_198 : decode b_Mod_near 198 = .ok (.iadd, 1) := by decide +kernel
theorem d_Mod_near_199 : decode b_Mod_near 199 = .ok (.putfield 81, 3) := by decide +kernel
theorem d_Mod_near_202 : decode b_Mod_near 202 = .ok (.iinc 5 1, 3) := by decide +kernel
theorem d_Mod_near_205 : decode b_Mod_near 205 = .ok (.goto (-51), 3) := by decide +kernel
theorem d_Mod_near_208 : decode b_Mod_near 208 = .ok (.iinc 4 1, 3) := by decide +kernel
theorem d_Mod_near_211 : decode b_Mod_near 211 = .ok (.goto (-69), 3) := by decide +kernel
theorem d_Mod_near_214 : decode b_Mod_near 214 = .ok (.aload_n 0, 1) := by decide +kernel
theorem d_Mod_near_215 : decode b_Mod_near 215 = .ok (.getfield 81, 3) := by decide +kernel
theorem d_Mod_near_218 : decode b_Mod_near 218 = .ok (.ireturn, 1) := by decide +kernel
theorem d_Mod_letter_0 : decode b_Mod_letter 0 = .ok (.aload_n 0, 1) := by decide +kernel
theorem d_Mod_letter_1 : decode b_Mod_letter 1 = .ok (.iload_n 1, 1) := by decide +kernel
theorem d_Mod_letter_2 : decode b_Mod_letter 2 = .ok (.ifCond .lt 15, 3) := by decide +kernel
theorem d_Mod_letter_5 : decode b_Mod_letter 5 = .ok (.iload_n 1, 1) := by decide +kernel
theorem d_Mod_letter_6 : decode b_Mod_letter 6 = .ok (.aload_n 0, 1) := by decide +kernel
theorem d_Mod_letter_7 : decode b_Mod_letter 7 = .ok (.getfield 81, 3) := by decide +kernel
theorem d_Mod_letter_10 : decode b_Mod_letter 10 = .ok (.if_icmp .ge 7, 3) := by decide +kernel
theorem d_Mod_letter_13 : decode b_Mod_letter 13 = .ok (.iload_n 2, 1) := by decide +kernel
theorem d_Mod_letter_14 : decode b_Mod_letter 14 = .ok (.ifCond .ge 7, 3) := by decide +kernel
theorem d_Mod_letter_17 : decode b_Mod_letter 17 = .ok (.iconst 1, 1) := by decide +kernel
theorem d_Mod_letter_18 : decode b_Mod_letter 18 = .ok (.goto 4, 3) := by decide +kernel
theorem d_Mod_letter_21 : decode b_Mod_letter 21 = .ok (.iconst 0, 1) := by decide +kernel
theorem d_Mod_letter_22 : decode b_Mod_letter 22 = .ok (.putfield 46, 3) := by decide +kernel
theorem d_Mod_letter_25 : decode b_Mod_letter 25 = .ok (.aload_n 0, 1) := by decide +kernel
theorem d_Mod_letter_26 : decode b_Mod_letter 26 = .ok (.getfield 46, 3) := by decide +kernel
theorem d_Mod_letter_29 : decode b_Mod_letter 29 = .ok (.ifCond .eq 5, 3) := by decide +kernel
theorem d_Mod_letter_32 : decode b_Mod_letter 32 = .ok (.iconst 0, 1) := by decide +kernel
theorem d_Mod_letter_33 : decode b_Mod_letter 33 = .ok (.ireturn, 1) := by decide +kernel
theorem d_Mod_letter_34 : decode b_Mod_letter 34 = .ok (.iload_n 2, 1) := by decide +kernel
theorem d_Mod_letter_35 : decode b_Mod_letter 35 = .ok (.aload_n 0, 1) := by decide +kernel
theorem d_Mod_letter_36 : decode b_Mod_letter 36 = .ok (.getfield 24, 3) := by decide +kernel
theorem d_Mod_letter_39 : decode b_Mod_letter 39 = .ok (.iload_n 1, 1) := by decide +kernel
theorem d_Mod_letter_40 : decode b_Mod_letter 40 = .ok (.iaload, 1) := by decide +kernel
theorem d_Mod_letter_41 : decode b_Mod_letter 41 = .ok (.if_icmp .ge 17, 3) := by decide +kernel
theorem d_Mod_letter_44 : decode b_Mod_letter 44 = .ok (.aload_n 0, 1) := by decide +kernel
theorem d_Mod_letter_45 : decode b_Mod_letter 45 = .ok (.getfield 17, 3) := by decide +kernel
theorem d_Mod_letter_48 : decode b_Mod_letter 48 = .ok (.iload_n 1, 1) := by decide +kernel
theorem d_Mod_letter_49 : decode b_Mod_letter 49 = .ok (.bipush 60, 2) := by decide +kernel
theorem d_Mod_letter_51 : decode b_Mod_letter 51 = .ok (.imul, 1) := by decide +kernel
theorem d_Mod_letter_52 : decode b_Mod_letter 52 = .ok (.iload_n 2, 1) := by decide +kernel
theorem d_Mod_letter_53 : decode b_Mod_letter 53 = .ok (.iadd, 1) := by decide +kernel
theorem d_Mod_letter_54 : decode b_Mod_letter 54 = .ok (.baload, 1) := by decide +kernel
theorem d_Mod_letter_55 : decode b_Mod_letter 55 = .ok (.goto 4, 3) := by decide +kernel
theorem d_Mod_letter_58 : decode b_Mod_letter 58 = .ok (.iconst 0, 1) := by decide +kernel
theorem d_Mod_letter_59 : decode b_Mod_letter 59 = .ok (.ireturn, 1) := by decide +kernel
theorem d_Met_aimAt_0 : decode b_Met_aimAt 0 = .ok (.aload_n 0, 1) := by decide +kernel
theorem d_Met_aimAt_1 : decode b_Met_aimAt 1 = .ok (.getfield 9, 3) := by decide +kernel
theorem d_Met_aimAt_4 : decode b_Met_aimAt 4 = .ok (.lconst 0, 1) := by decide +kernel
theorem d_Met_aimAt_5 : decode b_Met_aimAt 5 = .ok (.invokestatic 28, 3) := by decide +kernel
theorem d_Met_aimAt_8 : decode b_Met_aimAt 8 = .ok (.aload_n 0, 1) := by decide +kernel
theorem d_Met_aimAt_9 : decode b_Met_aimAt 9 = .ok (.aload_n 1, 1) := by decide +kernel
theorem d_Met_aimAt_10 : decode b_Met_aimAt 10 = .ok (.invokevirtual 34, 3) := by decide +kernel
theorem d_Met_aimAt_13 : decode b_Met_aimAt 13 = .ok (.putfield 20, 3) := by decide +kernel
theorem d_Met_aimAt_16 : decode b_Met_aimAt 16 = .ok (.iconst 0, 1) := by decide +kernel
theorem d_Met_aimAt_17 : decode b_Met_aimAt 17 = .ok (.istore_n 2, 1) := by decide +kernel
theorem d_Met_aimAt_18 : decode b_Met_aimAt 18 = .ok (.iload_n 2, 1) := by decide +kernel
theorem d_Met_aimAt_19 : decode b_Met_aimAt 19 = .ok (.aload_n 0, 1) := by decide +kernel
theorem d_Met_aimAt_20 : decode b_Met_aimAt 20 = .ok (.getfield 20, 3) := by decide +kernel
theorem d_Met_aimAt_23 : decode b_Met_aimAt 23 = .ok (.if_icmp .ge 25, 3) := by decide +kernel
theorem d_Met_aimAt_26 : decode b_Met_aimAt 26 = .ok (.aload_n 0, 1) := by decide +kernel
theorem d_Met_aimAt_27 : decode b_Met_aimAt 27 = .ok (.getfield 9, 3) := by decide +kernel
theorem d_Met_aimAt_30 : decode b_Met_aimAt 30 = .ok (.aload_n 1, 1) := by decide +kernel
theorem d_Met_aimAt_31 : decode b_Met_aimAt 31 = .ok (.iload_n 2, 1) := by decide +kernel
theorem d_Met_aimAt_32 : decode b_Met_aimAt 32 = .ok (.invokevirtual 40, 3) := by decide +kernel
theorem d_Met_aimAt_35 : decode b_Met_aimAt 35 = .ok (.dup2, 1) := by decide +kernel
theorem d_Met_aimAt_36 : decode b_Met_aimAt 36 = .ok (.laload, 1) := by decide +kernel
theorem d_Met_aimAt_37 : decode b_Met_aimAt 37 = .ok (.lconst 1, 1) := by decide +kernel
theorem d_Met_aimAt_38 : decode b_Met_aimAt 38 = .ok (.iload_n 2, 1) := by decide +kernel
theorem d_Met_aimAt_39 : decode b_Met_aimAt 39 = .ok (.lshl, 1) := by decide +kernel
theorem d_Met_aimAt_40 : decode b_Met_aimAt 40 = .ok (.lor, 1) := by decide +kernel
theorem d_Met_aimAt_41 : decode b_Met_aimAt 41 = .ok (.lastore, 1) := by decide +kernel
theorem d_Met_aimAt_42 : decode b_Met_aimAt 42 = .ok (.iinc 2 1, 3) := by decide +kernel
theorem d_Met_aimAt_45 : decode b_Met_aimAt 45 = .ok (.goto (-27), 3) := by decide +kernel
theorem d_Met_aimAt_48 : decode b_Met_aimAt 48 = .ok (.return_, 1) := by decide +kernel
theorem d_Met_leastSteps_0 : decode b_Met_leastSteps 0 = .ok (.iconst 0, 1) := by decide +kernel
theorem d_Met_leastSteps_1 : decode b_Met_leastSteps 1 = .ok (.istore_n 3, 1) := by decide +kernel
theorem d_Met_leastSteps_2 : decode b_Met_leastSteps 2 = .ok (.iload_n 3, 1) := by decide +kernel
theorem d_Met_leastSteps_3 : decode b_Met_leastSteps 3 = .ok (.iload_n 2, 1) := by decide +kernel
theorem d_Met_leastSteps_4 : decode b_Met_leastSteps 4 = .ok (.if_icmp .gt 26, 3) := by decide +kernel
theorem d_Met_leastSteps_7 : decode b_Met_leastSteps 7 = .ok (.aload_n 1, 1) := by decide +kernel
theorem d_Met_leastSteps_8 : decode b_Met_leastSteps 8 = .ok (.iload_n 3, 1) := by decide +kernel
theorem d_Met_leastSteps_9 : decode b_Met_leastSteps 9 = .ok (.laload, 1) := by decide +kernel
theorem d_Met_leastSteps_10 : decode b_Met_leastSteps 10 = .ok (.aload_n 0, 1) := by decide +kernel
theorem d_Met_leastSteps_11 : decode b_Met_leastSteps 11 = .ok (.getfield 20, 3) := by decide +kernel
theorem d_Met_leastSteps_14 : decode b_Met_leastSteps 14 = .ok (.lushr, 1) := by decide +kernel
theorem d_Met_leastSteps_15 : decode b_Met_leastSteps 15 = .ok (.lconst 1, 1) := by decide +kernel
theorem d_Met_leastSteps_16 : decode b_Met_leastSteps 16 = .ok (.land, 1) := by decide +kernel
theorem d_Met_leastSteps_17 : decode b_Met_leastSteps 17 = .ok (.lconst 0, 1) := by decide +kernel
theorem d_Met_leastSteps_18 : decode b_Met_leastSteps 18 = .ok (.lcmp, 1) := by decide +kernel
theorem d_Met_leastSteps_19 : decode b_Met_leastSteps 19 = .ok (.ifCond .eq 5, 3) := by decide +kernel
theorem d_Met_leastSteps_22 : decode b_Met_leastSteps 22 = .ok (.iload_n 3, 1) := by decide +kernel
theorem d_Met_leastSteps_23 : decode b_Met_leastSteps 23 = .ok (.ireturn, 1) := by decide +kernel
theorem d_Met_leastSteps_24 : decode b_Met_leastSteps 24 = .ok (.iinc 3 1, 3) := by decide +kernel
theorem d_Met_leastSteps_27 : decode b_Met_leastSteps 27 = .ok (.goto (-25), 3) := by decide +kernel
theorem d_Met_leastSteps_30 : decode b_Met_leastSteps 30 = .ok (.iconst (-1), 1) := by decide +kernel
theorem d_Met_leastSteps_31 : decode b_Met_leastSteps 31 = .ok (.ireturn, 1) := by decide +kernel
theorem d_Near_note_0 : decode b_Near_note 0 = .ok (.aload_n 0, 1) := by decide +kernel
theorem d_Near_note_1 : decode b_Near_note 1 = .ok (.getfield 9, 3) := by decide +kernel
theorem d_Near_note_4 : decode b_Near_note 4 = .ok (.iload_n 1, 1) := by decide +kernel
theorem d_Near_note_5 : decode b_Near_note 5 = .ok (.iload_n 2, 1) := by decide +kernel
theorem d_Near_note_6 : decode b_Near_note 6 = .ok (.i2b, 1) := by decide +kernel
theorem d_Near_note_7 : decode b_Near_note 7 = .ok (.bastore, 1) := by decide +kernel
theorem d_Near_note_8 : decode b_Near_note 8 = .ok (.iload_n 2, 1) := by decide +kernel
theorem d_Near_note_9 : decode b_Near_note 9 = .ok (.ifCond .lt 13, 3) := by decide +kernel
theorem d_Near_note_12 : decode b_Near_note 12 = .ok (.aload_n 0, 1) := by decide +kernel
theorem d_Near_note_13 : decode b_Near_note 13 = .ok (.getfield 15, 3) := by decide +kernel
theorem d_Near_note_16 : decode b_Near_note 16 = .ok (.iload_n 2, 1) := by decide +kernel
theorem d_Near_note_17 : decode b_Near_note 17 = .ok (.dup2, 1) := by decide +kernel
theorem d_Near_note_18 : decode b_Near_note 18 = .ok (.iaload, 1) := by decide +kernel
theorem d_Near_note_19 : decode b_Near_note 19 = .ok (.iconst 1, 1) := by decide +kernel
theorem d_Near_note_20 : decode b_Near_note 20 = .ok (.iadd, 1) := by decide +kernel
theorem d_Near_note_21 : decode b_Near_note 21 = .ok (.iastore, 1) := by decide +kernel
theorem d_Near_note_22 : decode b_Near_note 22 = .ok (.return_, 1) := by decide +kernel
theorem d_Pat_read_0 : decode b_Pat_read 0 = .ok (.aload_n 0, 1) := by decide +kernel
theorem d_Pat_read_1 : decode b_Pat_read 1 = .ok (.getfield 9, 3) := by decide +kernel
theorem d_Pat_read_4 : decode b_Pat_read 4 = .ok (.lconst 0, 1) := by decide +kernel
theorem d_Pat_read_5 : decode b_Pat_read 5 = .ok (.invokestatic 26, 3) := by decide +kernel
theorem d_Pat_read_8 : decode b_Pat_read 8 = .ok (.aload_n 0, 1) := by decide +kernel
theorem d_Pat_read_9 : decode b_Pat_read 9 = .ok (.lconst 0, 1) := by decide +kernel
theorem d_Pat_read_10 : decode b_Pat_read 10 = .ok (.putfield 15, 3) := by decide +kernel
theorem d_Pat_read_13 : decode b_Pat_read 13 = .ok (.aload_n 0, 1) := by decide +kernel
theorem d_Pat_read_14 : decode b_Pat_read 14 = .ok (.lconst 0, 1) := by decide +kernel
theorem d_Pat_read_15 : decode b_Pat_read 15 = .ok (.putfield 19, 3) := by decide +kernel
theorem d_Pat_read_18 : decode b_Pat_read 18 = .ok (.aload_n 0, 1) := by decide +kernel
theorem d_Pat_read_19 : decode b_Pat_read 19 = .ok (.iconst 0, 1) := by decide +kernel
theorem d_Pat_read_20 : decode b_Pat_read 20 = .ok (.putfield 22, 3) := by decide +kernel
theorem d_Pat_read_23 : decode b_Pat_read 23 = .ok (.iconst 0, 1) := by decide +kernel
theorem d_Pat_read_24 : decode b_Pat_read 24 = .ok (.istore_n 2, 1) := by decide +kernel
theorem d_Pat_read_25 : decode b_Pat_read 25 = .ok (.iload_n 2, 1) := by decide +kernel
theorem d_Pat_read_26 : decode b_Pat_read 26 = .ok (.aload_n 1, 1) := by decide +kernel
theorem d_Pat_read_27 : decode b_Pat_read 27 = .ok (.invokevirtual 32, 3) := by decide +kernel
theorem d_Pat_read_30 : decode b_Pat_read 30 = .ok (.if_icmp .ge 44, 3) := by decide +kernel
theorem d_Pat_read_33 : decode b_Pat_read 33 = .ok (.iload_n 2, 1) := by decide +kernel
theorem d_Pat_read_34 : decode b_Pat_read 34 = .ok (.ifCond .eq 25, 3) := by decide +kernel
theorem d_Pat_read_37 : decode b_Pat_read 37 = .ok (.aload_n 1, 1) := by decide +kernel
theorem d_Pat_read_38 : decode b_Pat_read 38 = .ok (.iload_n 2, 1) := by decide +kernel
theorem d_Pat_read_39 : decode b_Pat_read 39 = .ok (.invokevirtual 37, 3) := by decide +kernel
theorem d_Pat_read_42 : decode b_Pat_read 42 = .ok (.bipush 42, 2) := by decide +kernel
theorem d_Pat_read_44 : decode b_Pat_read 44 = .ok (.if_icmp .ne 15, 3) := by decide +kernel
theorem d_Pat_read_47 : decode b_Pat_read 47 = .ok (.aload_n 1, 1) := by decide +kernel
theorem d_Pat_read_48 : decode b_Pat_read 48 = .ok (.iload_n 2, 1) := by decide +kernel
theorem d_Pat_read_49 : decode b_Pat_read 49 = .ok (.iconst 1, 1) := by decide +kernel
theorem d_Pat_read_50 : decode b_Pat_read 50 = .ok (.isub, 1) := by decide +kernel
theorem d_Pat_read_51 : decode b_Pat_read 51 = .ok (.invokevirtual 37, 3) := by decide +kernel
theorem d_Pat_read_54 : decode b_Pat_read 54 = .ok (.bipush 42, 2) := by decide +kernel
theorem d_Pat_read_56 : decode b_Pat_read 56 = .ok (.if_icmp .eq 12, 3) := by decide +kernel
theorem d_Pat_read_59 : decode b_Pat_read 59 = .ok (.aload_n 0, 1) := by decide +kernel
theorem d_Pat_read_60 : decode b_Pat_read 60 = .ok (.aload_n 1, 1) := by decide +kernel
theorem d_Pat_read_61 : decode b_Pat_read 61 = .ok (.iload_n 2, 1) := by decide +kernel
theorem d_Pat_read_62 : decode b_Pat_read 62 = .ok (.invokevirtual 37, 3) := by decide +kernel
theorem d_Pat_read_65 : decode b_Pat_read 65 = .ok (.invokevirtual 41, 3) := by decide +kernel
theorem d_Pat_read_68 : decode b_Pat_read 68 = .ok (.iinc 2 1, 3) := by decide +kernel
theorem d_Pat_read_71 : decode b_Pat_read 71 = .ok (.goto (-46), 3) := by decide +kernel
theorem d_Pat_read_74 : decode b_Pat_read 74 = .ok (.return_, 1) := by decide +kernel
theorem d_Res_init_0 : decode b_Res_init 0 = .ok (.aload_n 0, 1) := by decide +kernel
theorem d_Res_init_1 : decode b_Res_init 1 = .ok (.invokespecial 3, 3) := by decide +kernel
theorem d_Res_init_4 : decode b_Res_init 4 = .ok (.aload_n 0, 1) := by decide +kernel
theorem d_Res_init_5 : decode b_Res_init 5 = .ok (.bipush 50, 2) := by decide +kernel
theorem d_Res_init_7 : decode b_Res_init 7 = .ok (.bipush 60, 2) := by decide +kernel
theorem d_Res_init_9 : decode b_Res_init 9 = .ok (.multianewarray 9 2, 4) := by decide +kernel
theorem d_Res_init_13 : decode b_Res_init 13 = .ok (.putfield 11, 3) := by decide +kernel
theorem d_Res_init_16 : decode b_Res_init 16 = .ok (.aload_n 0, 1) := by decide +kernel
theorem d_Res_init_17 : decode b_Res_init 17 = .ok (.bipush 50, 2) := by decide +kernel
theorem d_Res_init_19 : decode b_Res_init 19 = .ok (.newarray .int, 2) := by decide +kernel
theorem d_Res_init_21 : decode b_Res_init 21 = .ok (.putfield 16, 3) := by decide +kernel
theorem d_Res_init_24 : decode b_Res_init 24 = .ok (.aload_n 0, 1) := by decide +kernel
theorem d_Res_init_25 : decode b_Res_init 25 = .ok (.bipush 50, 2) := by decide +kernel
theorem d_Res_init_27 : decode b_Res_init 27 = .ok (.newarray .int, 2) := by decide +kernel
theorem d_Res_init_29 : decode b_Res_init 29 = .ok (.putfield 20, 3) := by decide +kernel
theorem d_Res_init_32 : decode b_Res_init 32 = .ok (.aload_n 0, 1) := by decide +kernel
theorem d_Res_init_33 : decode b_Res_init 33 = .ok (.iconst 0, 1) := by decide +kernel
theorem d_Res_init_34 : decode b_Res_init 34 = .ok (.putfield 23, 3) := by decide +kernel
theorem d_Res_init_37 : decode b_Res_init 37 = .ok (.return_, 1) := by decide +kernel
theorem d_Res_stepsOf_0 : decode b_Res_stepsOf 0 = .ok (.aload_n 0, 1) := by decide +kernel
theorem d_Res_stepsOf_1 : decode b_Res_stepsOf 1 = .ok (.getfield 20, 3) := by decide +kernel
theorem d_Res_stepsOf_4 : decode b_Res_stepsOf 4 = .ok (.iload_n 1, 1) := by decide +kernel
theorem d_Res_stepsOf_5 : decode b_Res_stepsOf 5 = .ok (.iaload, 1) := by decide +kernel
theorem d_Res_stepsOf_6 : decode b_Res_stepsOf 6 = .ok (.ireturn, 1) := by decide +kernel
theorem d_Row_length_0 : decode b_Row_length 0 = .ok (.aload_n 0, 1) := by decide +kernel
theorem d_Row_length_1 : decode b_Row_length 1 = .ok (.getfield 15, 3) := by decide +kernel
theorem d_Row_length_4 : decode b_Row_length 4 = .ok (.ireturn, 1) := by decide +kernel
theorem d_Row_append_0 : decode b_Row_append 0 = .ok (.aload_n 0, 1) := by decide +kernel
theorem d_Row_append_1 : decode b_Row_append 1 = .ok (.getfield 15, 3) := by decide +kernel
theorem d_Row_append_4 : decode b_Row_append 4 = .ok (.bipush 60, 2) := by decide +kernel
theorem d_Row_append_6 : decode b_Row_append 6 = .ok (.if_icmp .ge 24, 3) := by decide +kernel
theorem d_Row_append_9 : decode b_Row_append 9 = .ok (.aload_n 0, 1) := by decide +kernel
theorem d_Row_append_10 : decode b_Row_append 10 = .ok (.getfield 9, 3) := by decide +kernel
theorem d_Row_append_13 : decode b_Row_append 13 = .ok (.aload_n 0, 1) := by decide +kernel
theorem d_Row_append_14 : decode b_Row_append 14 = .ok (.getfield 15, 3) := by decide +kernel
theorem d_Row_append_17 : decode b_Row_append 17 = .ok (.iload_n 1, 1) := by decide +kernel
theorem d_Row_append_18 : decode b_Row_append 18 = .ok (.i2b, 1) := by decide +kernel
theorem d_Row_append_19 : decode b_Row_append 19 = .ok (.bastore, 1) := by decide +kernel
theorem d_Row_append_20 : decode b_Row_append 20 = .ok (.aload_n 0, 1) := by decide +kernel
theorem d_Row_append_21 : decode b_Row_append 21 = .ok (.dup, 1) := by decide +kernel
theorem d_Row_append_22 : decode b_Row_append 22 = .ok (.getfield 15, 3) := by decide +kernel
theorem d_Row_append_25 : decode b_Row_append 25 = .ok (.iconst 1, 1) := by decide +kernel
theorem d_Row_append_26 : decode b_Row_append 26 = .ok (.iadd, 1) := by decide +kernel
theorem d_Row_append_27 : decode b_Row_append 27 = .ok (.putfield 15, 3) := by decide +kernel
theorem d_Row_append_30 : decode b_Row_append 30 = .ok (.return_, 1) := by decide +kernel
theorem d_WL_characters_0 : decode b_WL_characters 0 = .ok (.aload_n 0, 1) := by decide +kernel
theorem d_WL_characters_1 : decode b_WL_characters 1 = .ok (.getfield 15, 3) := by decide +kernel
theorem d_WL_characters_4 : decode b_WL_characters 4 = .ok (.aload_n 0, 1) := by decide +kernel
theorem d_WL_characters_5 : decode b_WL_characters 5 = .ok (.getfield 19, 3) := by decide +kernel
theorem d_WL_characters_8 : decode b_WL_characters 8 = .ok (.iaload, 1) := by decide +kernel
theorem d_WL_characters_9 : decode b_WL_characters 9 = .ok (.ireturn, 1) := by decide +kernel
theorem d_WL_placeOf_0 : decode b_WL_placeOf 0 = .ok (.iconst 0, 1) := by decide +kernel
theorem d_WL_placeOf_1 : decode b_WL_placeOf 1 = .ok (.istore_n 2, 1) := by decide +kernel
theorem d_WL_placeOf_2 : decode b_WL_placeOf 2 = .ok (.sipush 512, 3) := by decide +kernel
theorem d_WL_placeOf_5 : decode b_WL_placeOf 5 = .ok (.istore_n 3, 1) := by decide +kernel
theorem d_WL_placeOf_6 : decode b_WL_placeOf 6 = .ok (.iload_n 3, 1) := by decide +kernel
theorem d_WL_placeOf_7 : decode b_WL_placeOf 7 = .ok (.ifCond .le 37, 3) := by decide +kernel
theorem d_WL_placeOf_10 : decode b_WL_placeOf 10 = .ok (.iload_n 2, 1) := by decide +kernel
theorem d_WL_placeOf_11 : decode b_WL_placeOf 11 = .ok (.iload_n 3, 1) := by decide +kernel
theorem d_WL_placeOf_12 : decode b_WL_placeOf 12 = .ok (.iadd, 1) := by decide +kernel
theorem d_WL_placeOf_13 : decode b_WL_placeOf 13 = .ok (.aload_n 0, 1) := by decide +kernel
theorem d_WL_placeOf_14 : decode b_WL_placeOf 14 = .ok (.getfield 19, 3) := by decide +kernel
theorem d_WL_placeOf_17 : decode b_WL_placeOf 17 = .ok (.if_icmp .gt 20, 3) := by decide +kernel
theorem d_WL_placeOf_20 : decode b_WL_placeOf 20 = .ok (.aload_n 0, 1) := by decide +kernel
theorem d_WL_placeOf_21 : decode b_WL_placeOf 21 = .ok (.iload_n 2, 1) := by decide +kernel
theorem d_WL_placeOf_22 : decode b_WL_placeOf 22 = .ok (.iload_n 3, 1) := by decide +kernel
theorem d_WL_placeOf_23 : decode b_WL_placeOf 23 = .ok (.iadd, 1) := by decide +kernel
theorem d_WL_placeOf_24 : decode b_WL_placeOf 24 = .ok (.iconst 1, 1) := by decide +kernel
theorem d_WL_placeOf_25 : decode b_WL_placeOf 25 = .ok (.isub, 1) := by decide +kernel
theorem d_WL_placeOf_26 : decode b_WL_placeOf 26 = .ok (.aload_n 1, 1) := by decide +kernel
theorem d_WL_placeOf_27 : decode b_WL_placeOf 27 = .ok (.invokevirtual 33, 3) := by decide +kernel
theorem d_WL_placeOf_30 : decode b_WL_placeOf 30 = .ok (.ifCond .ge 7, 3) := by decide +kernel
theorem d_WL_placeOf_33 : decode b_WL_placeOf 33 = .ok (.iload_n 2, 1) := by decide +kernel
theorem d_WL_placeOf_34 : decode b_WL_placeOf 34 = .ok (.iload_n 3, 1) := by decide +kernel
theorem d_WL_placeOf_35 : decode b_WL_placeOf 35 = .ok (.iadd, 1) := by decide +kernel
theorem d_WL_placeOf_36 : decode b_WL_placeOf 36 = .ok (.istore_n 2, 1) := by decide +kernel
theorem d_WL_placeOf_37 : decode b_WL_placeOf 37 = .ok (.iload_n 3, 1) := by decide +kernel
theorem d_WL_placeOf_38 : decode b_WL_placeOf 38 = .ok (.iconst 2, 1) := by decide +kernel
theorem d_WL_placeOf_39 : decode b_WL_placeOf 39 = .ok (.idiv, 1) := by decide +kernel
theorem d_WL_placeOf_40 : decode b_WL_placeOf 40 = .ok (.istore_n 3, 1) := by decide +kernel
theorem d_WL_placeOf_41 : decode b_WL_placeOf 41 = .ok (.goto (-35), 3) := by decide +kernel
theorem d_WL_placeOf_44 : decode b_WL_placeOf 44 = .ok (.iload_n 2, 1) := by decide +kernel
theorem d_WL_placeOf_45 : decode b_WL_placeOf 45 = .ok (.ireturn, 1) := by decide +kernel
theorem d_WL_deleteAt_0 : decode b_WL_deleteAt 0 = .ok (.aload_n 0, 1) := by decide +kernel
theorem d_WL_deleteAt_1 : decode b_WL_deleteAt 1 = .ok (.getfield 15, 3) := by decide +kernel
theorem d_WL_deleteAt_4 : decode b_WL_deleteAt 4 = .ok (.iload_n 1, 1) := by decide +kernel
theorem d_WL_deleteAt_5 : decode b_WL_deleteAt 5 = .ok (.iaload, 1) := by decide +kernel
theorem d_WL_deleteAt_6 : decode b_WL_deleteAt 6 = .ok (.istore_n 2, 1) := by decide +kernel
theorem d_WL_deleteAt_7 : decode b_WL_deleteAt 7 = .ok (.aload_n 0, 1) := by decide +kernel
theorem d_WL_deleteAt_8 : decode b_WL_deleteAt 8 = .ok (.getfield 15, 3) := by decide +kernel
theorem d_WL_deleteAt_11 : decode b_WL_deleteAt 11 = .ok (.iload_n 1, 1) := by decide +kernel
theorem d_WL_deleteAt_12 : decode b_WL_deleteAt 12 = .ok (.iconst 1, 1) := by decide +kernel
theorem d_WL_deleteAt_13 : decode b_WL_deleteAt 13 = .ok (.iadd, 1) := by decide +kernel
theorem d_WL_deleteAt_14 : decode b_WL_deleteAt 14 = .ok (.iaload, 1) := by decide +kernel
theorem d_WL_deleteAt_15 : decode b_WL_deleteAt 15 = .ok (.istore_n 3, 1) := by decide +kernel
theorem d_WL_deleteAt_16 : decode b_WL_deleteAt 16 = .ok (.aload_n 0, 1) := by decide +kernel
theorem d_WL_deleteAt_17 : decode b_WL_deleteAt 17 = .ok (.getfield 9, 3) := by decide +kernel
theorem d_WL_deleteAt_20 : decode b_WL_deleteAt 20 = .ok (.iload_n 3, 1) := by decide +kernel
theorem d_WL_deleteAt_21 : decode b_WL_deleteAt 21 = .ok (.aload_n 0, 1) := by decide +kernel
theorem d_WL_deleteAt_22 : decode b_WL_deleteAt 22 = .ok (.getfield 9, 3) := by decide +kernel
theorem d_WL_deleteAt_25 : decode b_WL_deleteAt 25 = .ok (.iload_n 2, 1) := by decide +kernel
theorem d_WL_deleteAt_26 : decode b_WL_deleteAt 26 = .ok (.aload_n 0, 1) := by decide +kernel
theorem d_WL_deleteAt_27 : decode b_WL_deleteAt 27 = .ok (.invokevirtual 37, 3) := by decide +kernel
theorem d_WL_deleteAt_30 : decode b_WL_deleteAt 30 = .ok (.iload_n 3, 1) := by decide +kernel
theorem d_WL_deleteAt_31 : decode b_WL_deleteAt 31 = .ok (.isub, 1) := by decide +kernel
theorem d_WL_deleteAt_32 : decode b_WL_deleteAt 32 = .ok (.invokestatic 45, 3) := by decide +kernel
theorem d_WL_deleteAt_35 : decode b_WL_deleteAt 35 = .ok (.iload_n 1, 1) := by decide +kernel
theorem d_WL_deleteAt_36 : decode b_WL_deleteAt 36 = .ok (.istore 4, 2) := by decide +kernel
theorem d_WL_deleteAt_38 : decode b_WL_deleteAt 38 = .ok (.iload 4, 2) := by decide +kernel
theorem d_WL_deleteAt_40 : decode b_WL_deleteAt 40 = .ok (.aload_n 0, 1) := by decide +kernel
theorem d_WL_deleteAt_41 : decode b_WL_deleteAt 41 = .ok (.getfield 19, 3) := by decide +kernel
theorem d_WL_deleteAt_44 : decode b_WL_deleteAt 44 = .ok (.if_icmp .ge 29, 3) := by decide +kernel
theorem d_WL_deleteAt_47 : decode b_WL_deleteAt 47 = .ok (.aload_n 0, 1) := by decide +kernel
theorem d_WL_deleteAt_48 : decode b_WL_deleteAt 48 = .ok (.getfield 15, 3) := by decide +kernel
theorem d_WL_deleteAt_51 : decode b_WL_deleteAt 51 = .ok (.iload 4, 2) := by decide +kernel
theorem d_WL_deleteAt_53 : decode b_WL_deleteAt 53 = .ok (.aload_n 0, 1) := by decide +kernel
theorem d_WL_deleteAt_54 : decode b_WL_deleteAt 54 = .ok (.getfield 15, 3) := by decide +kernel
theorem d_WL_deleteAt_57 : decode b_WL_deleteAt 57 = .ok (.iload 4, 2) := by decide +kernel
theorem d_WL_deleteAt_59 : decode b_WL_deleteAt 59 = .ok (.iconst 1, 1) := by decide +kernel
theorem d_WL_deleteAt_60 : decode b_WL_deleteAt 60 = .ok (.iadd, 1) := by decide +kernel
theorem d_WL_deleteAt_61 : decode b_WL_deleteAt 61 = .ok (.iaload, 1) := by decide +kernel
theorem d_WL_deleteAt_62 : decode b_WL_deleteAt 62 = .ok (.iload_n 3, 1) := by decide +kernel
theorem d_WL_deleteAt_63 : decode b_WL_deleteAt 63 = .ok (.iload_n 2, 1) := by decide +kernel
theorem d_WL_deleteAt_64 : decode b_WL_deleteAt 64 = .ok (.isub, 1) := by decide +kernel
theorem d_WL_deleteAt_65 : decode b_WL_deleteAt 65 = .ok (.isub, 1) := by decide +kernel
theorem d_WL_deleteAt_66 : decode b_WL_deleteAt 66 = .ok (.iastore, 1) := by decide +kernel
theorem d_WL_deleteAt_67 : decode b_WL_deleteAt 67 = .ok (.iinc 4 1, 3) := by decide +kernel
theorem d_WL_deleteAt_70 : decode b_WL_deleteAt 70 = .ok (.goto (-32), 3) := by decide +kernel
theorem d_WL_deleteAt_73 : decode b_WL_deleteAt 73 = .ok (.aload_n 0, 1) := by decide +kernel
theorem d_WL_deleteAt_74 : decode b_WL_deleteAt 74 = .ok (.dup, 1) := by decide +kernel
theorem d_WL_deleteAt_75 : decode b_WL_deleteAt 75 = .ok (.getfield 19, 3) := by decide +kernel
theorem d_WL_deleteAt_78 : decode b_WL_deleteAt 78 = .ok (.iconst 1, 1) := by decide +kernel
theorem d_WL_deleteAt_79 : decode b_WL_deleteAt 79 = .ok (.isub, 1) := by decide +kernel
theorem d_WL_deleteAt_80 : decode b_WL_deleteAt 80 = .ok (.putfield 19, 3) := by decide +kernel
theorem d_WL_deleteAt_83 : decode b_WL_deleteAt 83 = .ok (.return_, 1) := by decide +kernel
theorem d_Law_add_0 : decode b_Law_add 0 = .ok (.aload_n 1, 1) := by decide +kernel
theorem d_Law_add_1 : decode b_Law_add 1 = .ok (.iconst 0, 1) := by decide +kernel
theorem d_Law_add_2 : decode b_Law_add 2 = .ok (.aload_n 0, 1) := by decide +kernel
theorem d_Law_add_3 : decode b_Law_add 3 = .ok (.invokevirtual 17, 3) := by decide +kernel
theorem d_Law_add_6 : decode b_Law_add 6 = .ok (.i2l, 1) := by decide +kernel
theorem d_Law_add_7 : decode b_Law_add 7 = .ok (.lastore, 1) := by decide +kernel
theorem d_Law_add_8 : decode b_Law_add 8 = .ok (.goto 9, 3) := by decide +kernel
theorem d_Law_add_11 : decode b_Law_add 11 = .ok (.astore_n 2, 1) := by decide +kernel
theorem d_Law_add_12 : decode b_Law_add 12 = .ok (.iconst 1, 1) := by decide +kernel
theorem d_Law_add_13 : decode b_Law_add 13 = .ok (.ireturn, 1) := by decide +kernel
theorem d_Law_add_14 : decode b_Law_add 14 = .ok (.astore_n 2, 1) := by decide +kernel
theorem d_Law_add_15 : decode b_Law_add 15 = .ok (.iconst 2, 1) := by decide +kernel
theorem d_Law_add_16 : decode b_Law_add 16 = .ok (.ireturn, 1) := by decide +kernel
theorem d_Law_add_17 : decode b_Law_add 17 = .ok (.iconst 0, 1) := by decide +kernel
theorem d_Law_add_18 : decode b_Law_add 18 = .ok (.ireturn, 1) := by decide +kernel
theorem d_Law_distance_0 : decode b_Law_distance 0 = .ok (.aload_n 2, 1) := by decide +kernel
theorem d_Law_distance_1 : decode b_Law_distance 1 = .ok (.iconst 0, 1) := by decide +kernel
theorem d_Law_distance_2 : decode b_Law_distance 2 = .ok (.aload_n 0, 1) := by decide +kernel
theorem d_Law_distance_3 : decode b_Law_distance 3 = .ok (.iload_n 1, 1) := by decide +kernel
theorem d_Law_distance_4 : decode b_Law_distance 4 = .ok (.invokevirtual 32, 3) := by decide +kernel
theorem d_Law_distance_7 : decode b_Law_distance 7 = .ok (.i2l, 1) := by decide +kernel
theorem d_Law_distance_8 : decode b_Law_distance 8 = .ok (.lastore, 1) := by decide +kernel
theorem d_Law_distance_9 : decode b_Law_distance 9 = .ok (.goto 6, 3) := by decide +kernel
theorem d_Law_distance_12 : decode b_Law_distance 12 = .ok (.astore_n 3, 1) := by decide +kernel
theorem d_Law_distance_13 : decode b_Law_distance 13 = .ok (.iconst 1, 1) := by decide +kernel
theorem d_Law_distance_14 : decode b_Law_distance 14 = .ok (.ireturn, 1) := by decide +kernel
theorem d_Law_distance_15 : decode b_Law_distance 15 = .ok (.iconst 0, 1) := by decide +kernel
theorem d_Law_distance_16 : decode b_Law_distance 16 = .ok (.ireturn, 1) := by decide +kernel
