theorem d_NW_type_0 : decode b_NW_type 0 = .ok (.lload_n 1, 1) := by decide +kernel
theorem d_NW_type_1 : decode b_NW_type 1 = .ok (.invokestatic 54, 3) := by decide +kernel
theorem d_NW_type_4 : decode b_NW_type 4 = .ok (.ifCond .eq 10, 3) := by decide +kernel
theorem d_NW_type_7 : decode b_NW_type 7 = .ok (.lload_n 3, 1) := by decide +kernel
theorem d_NW_type_8 : decode b_NW_type 8 = .ok (.invokestatic 54, 3) := by decide +kernel
theorem d_NW_type_11 : decode b_NW_type 11 = .ok (.ifCond .ne 11, 3) := by decide +kernel
theorem d_NW_type_14 : decode b_NW_type 14 = .ok (.new 58, 3) := by decide +kernel
theorem d_NW_type_17 : decode b_NW_type 17 = .ok (.dup, 1) := by decide +kernel
theorem d_NW_type_18 : decode b_NW_type 18 = .ok (.invokespecial 60, 3) := by decide +kernel
theorem d_NW_type_21 : decode b_NW_type 21 = .ok (.athrow, 1) := by decide +kernel
theorem d_NW_type_22 : decode b_NW_type 22 = .ok (.aload_n 0, 1) := by decide +kernel
theorem d_NW_type_23 : decode b_NW_type 23 = .ok (.getfield 10, 3) := by decide +kernel
theorem d_NW_type_26 : decode b_NW_type 26 = .ok (.invokevirtual 61, 3) := by decide +kernel
theorem d_NW_type_29 : decode b_NW_type 29 = .ok (.lload_n 1, 1) := by decide +kernel
theorem d_NW_type_30 : decode b_NW_type 30 = .ok (.invokestatic 65, 3) := by decide +kernel
theorem d_NW_type_33 : decode b_NW_type 33 = .ok (.iadd, 1) := by decide +kernel
theorem d_NW_type_34 : decode b_NW_type 34 = .ok (.lload_n 3, 1) := by decide +kernel
theorem d_NW_type_35 : decode b_NW_type 35 = .ok (.invokestatic 65, 3) := by decide +kernel
theorem d_NW_type_38 : decode b_NW_type 38 = .ok (.iadd, 1) := by decide +kernel
theorem d_NW_type_39 : decode b_NW_type 39 = .ok (.bipush 60, 2) := by decide +kernel
theorem d_NW_type_41 : decode b_NW_type 41 = .ok (.if_icmp .le 11, 3) := by decide +kernel
theorem d_NW_type_44 : decode b_NW_type 44 = .ok (.new 69, 3) := by decide +kernel
theorem d_NW_type_47 : decode b_NW_type 47 = .ok (.dup, 1) := by decide +kernel
theorem d_NW_type_48 : decode b_NW_type 48 = .ok (.invokespecial 71, 3) := by decide +kernel
theorem d_NW_type_51 : decode b_NW_type 51 = .ok (.athrow, 1) := by decide +kernel
theorem d_NW_type_52 : decode b_NW_type 52 = .ok (.aload_n 0, 1) := by decide +kernel
theorem d_NW_type_53 : decode b_NW_type 53 = .ok (.lload_n 1, 1) := by decide +kernel
theorem d_NW_type_54 : decode b_NW_type 54 = .ok (.invokevirtual 72, 3) := by decide +kernel
theorem d_NW_type_57 : decode b_NW_type 57 = .ok (.aload_n 0, 1) := by decide +kernel
theorem d_NW_type_58 : decode b_NW_type 58 = .ok (.lload_n 3, 1) := by decide +kernel
theorem d_NW_type_59 : decode b_NW_type 59 = .ok (.invokevirtual 72, 3) := by decide +kernel
theorem d_NW_type_62 : decode b_NW_type 62 = .ok (.aload_n 0, 1) := by decide +kernel
theorem d_NW_type_63 : decode b_NW_type 63 = .ok (.getfield 10, 3) := by decide +kernel
theorem d_NW_type_66 : decode b_NW_type 66 = .ok (.invokevirtual 61, 3) := by decide +kernel
theorem d_NW_type_69 : decode b_NW_type 69 = .ok (.ireturn, 1) := by decide +kernel
theorem d_NW_like_0 : decode b_NW_like 0 = .ok (.aload_n 0, 1) := by decide +kernel
theorem d_NW_like_1 : decode b_NW_like 1 = .ok (.getfield 36, 3) := by decide +kernel
theorem d_NW_like_4 : decode b_NW_like 4 = .ok (.aload_n 0, 1) := by decide +kernel
theorem d_NW_like_5 : decode b_NW_like 5 = .ok (.invokevirtual 76, 3) := by decide +kernel
theorem d_NW_like_8 : decode b_NW_like 8 = .ok (.invokevirtual 137, 3) := by decide +kernel
theorem d_NW_like_11 : decode b_NW_like 11 = .ok (.aload_n 0, 1) := by decide +kernel
theorem d_NW_like_12 : decode b_NW_like 12 = .ok (.getfield 29, 3) := by decide +kernel
theorem d_NW_like_15 : decode b_NW_like 15 = .ok (.invokevirtual 140, 3) := by decide +kernel
theorem d_NW_like_18 : decode b_NW_like 18 = .ok (.iconst 0, 1) := by decide +kernel
theorem d_NW_like_19 : decode b_NW_like 19 = .ok (.istore_n 1, 1) := by decide +kernel
theorem d_NW_like_20 : decode b_NW_like 20 = .ok (.iconst 0, 1) := by decide +kernel
theorem d_NW_like_21 : decode b_NW_like 21 = .ok (.istore_n 2, 1) := by decide +kernel
theorem d_NW_like_22 : decode b_NW_like 22 = .ok (.iload_n 2, 1) := by decide +kernel
theorem d_NW_like_23 : decode b_NW_like 23 = .ok (.aload_n 0, 1) := by decide +kernel
theorem d_NW_like_24 : decode b_NW_like 24 = .ok (.getfield 22, 3) := by decide +kernel
theorem d_NW_like_27 : decode b_NW_like 27 = .ok (.invokevirtual 92, 3) := by decide +kernel
theorem d_NW_like_30 : decode b_NW_like 30 = .ok (.if_icmp .ge 40, 3) := by decide +kernel
theorem d_NW_like_33 : decode b_NW_like 33 = .ok (.aload_n 0, 1) := by decide +kernel
theorem d_NW_like_34 : decode b_NW_like 34 = .ok (.getfield 36, 3) := by decide +kernel
theorem d_NW_like_37 : decode b_NW_like 37 = .ok (.aload_n 0, 1) := by decide +kernel
theorem d_NW_like_38 : decode b_NW_like 38 = .ok (.getfield 22, 3) := by decide +kernel
theorem d_NW_like_41 : decode b_NW_like 41 = .ok (.iload_n 2, 1) := by decide +kernel
theorem d_NW_like_42 : decode b_NW_like 42 = .ok (.invokevirtual 141, 3) := by decide +kernel
theorem d_NW_like_45 : decode b_NW_like 45 = .ok (.ifCond .eq 19, 3) := by decide +kernel
theorem d_NW_like_48 : decode b_NW_like 48 = .ok (.iinc 1 1, 3) := by decide +kernel
theorem d_NW_like_51 : decode b_NW_like 51 = .ok (.aload_n 0, 1) := by decide +kernel
theorem d_NW_like_52 : decode b_NW_like 52 = .ok (.getfield 29, 3) := by decide +kernel
theorem d_NW_like_55 : decode b_NW_like 55 = .ok (.aload_n 0, 1) := by decide +kernel
theorem d_NW_like_56 : decode b_NW_like 56 = .ok (.getfield 22, 3) := by decide +kernel
theorem d_NW_like_59 : decode b_NW_like 59 = .ok (.iload_n 2, 1) := by decide +kernel
theorem d_NW_like_60 : decode b_NW_like 60 = .ok (.iconst 0, 1) := by decide +kernel
theorem d_NW_like_61 : decode b_NW_like 61 = .ok (.invokevirtual 145, 3) := by decide +kernel
theorem d_NW_like_64 : decode b_NW_like 64 = .ok (.iinc 2 1, 3) := by decide +kernel
theorem d_NW_like_67 : decode b_NW_like 67 = .ok (.goto (-45), 3) := by decide +kernel
theorem d_NW_like_70 : decode b_NW_like 70 = .ok (.iload_n 1, 1) := by decide +kernel
theorem d_NW_like_71 : decode b_NW_like 71 = .ok (.ireturn, 1) := by decide +kernel
theorem d_NW_count_0 : decode b_NW_count 0 = .ok (.iload_n 1, 1) := by decide +kernel
theorem d_NW_count_1 : decode b_NW_count 1 = .ok (.tableswitch 75 0 4 #[35, 43, 51, 59, 67], 35) := by decide +kernel
theorem d_NW_count_36 : decode b_NW_count 36 = .ok (.aload_n 0, 1) := by decide +kernel
theorem d_NW_count_37 : decode b_NW_count 37 = .ok (.getfield 10, 3) := by decide +kernel
theorem d_NW_count_40 : decode b_NW_count 40 = .ok (.invokevirtual 61, 3) := by decide +kernel
theorem d_NW_count_43 : decode b_NW_count 43 = .ok (.ireturn, 1) := by decide +kernel
theorem d_NW_count_44 : decode b_NW_count 44 = .ok (.aload_n 0, 1) := by decide +kernel
theorem d_NW_count_45 : decode b_NW_count 45 = .ok (.getfield 22, 3) := by decide +kernel
theorem d_NW_count_48 : decode b_NW_count 48 = .ok (.invokevirtual 92, 3) := by decide +kernel
theorem d_NW_count_51 : decode b_NW_count 51 = .ok (.ireturn, 1) := by decide +kernel
theorem d_NW_count_52 : decode b_NW_count 52 = .ok (.aload_n 0, 1) := by decide +kernel
theorem d_NW_count_53 : decode b_NW_count 53 = .ok (.getfield 22, 3) := by decide +kernel
theorem d_NW_count_56 : decode b_NW_count 56 = .ok (.invokevirtual 159, 3) := by decide +kernel
theorem d_NW_count_59 : decode b_NW_count 59 = .ok (.ireturn, 1) := by decide +kernel
theorem d_NW_count_60 : decode b_NW_count 60 = .ok (.aload_n 0, 1) := by decide +kernel
theorem d_NW_count_61 : decode b_NW_count 61 = .ok (.getfield 29, 3) := by decide +kernel
theorem d_NW_count_64 : decode b_NW_count 64 = .ok (.invokevirtual 136, 3) := by decide +kernel
theorem d_NW_count_67 : decode b_NW_count 67 = .ok (.ireturn, 1) := by decide +kernel
theorem d_NW_count_68 : decode b_NW_count 68 = .ok (.aload_n 0, 1) := by decide +kernel
theorem d_NW_count_69 : decode b_NW_count 69 = .ok (.getfield 22, 3) := by decide +kernel
theorem d_NW_count_72 : decode b_NW_count 72 = .ok (.invokevirtual 162, 3) := by decide +kernel
theorem d_NW_count_75 : decode b_NW_count 75 = .ok (.ireturn, 1) := by decide +kernel
theorem d_NW_count_76 : decode b_NW_count 76 = .ok (.iconst (-1), 1) := by decide +kernel
theorem d_NW_count_77 : decode b_NW_count 77 = .ok (.ireturn, 1) := by decide +kernel
theorem d_NW_bytesIn_0 : decode b_NW_bytesIn 0 = .ok (.iconst 0, 1) := by decide +kernel
theorem d_NW_bytesIn_1 : decode b_NW_bytesIn 1 = .ok (.istore_n 2, 1) := by decide +kernel
theorem d_NW_bytesIn_2 : decode b_NW_bytesIn 2 = .ok (.bipush 56, 2) := by decide +kernel
theorem d_NW_bytesIn_4 : decode b_NW_bytesIn 4 = .ok (.istore_n 3, 1) := by decide +kernel
theorem d_NW_bytesIn_5 : decode b_NW_bytesIn 5 = .ok (.iload_n 3, 1) := by decide +kernel
theorem d_NW_bytesIn_6 : decode b_NW_bytesIn 6 = .ok (.ifCond .lt 20, 3) := by decide +kernel
theorem d_NW_bytesIn_9 : decode b_NW_bytesIn 9 = .ok (.lload_n 0, 1) := by decide +kernel
theorem d_NW_bytesIn_10 : decode b_NW_bytesIn 10 = .ok (.iload_n 3, 1) := by decide +kernel
theorem d_NW_bytesIn_11 : decode b_NW_bytesIn 11 = .ok (.invokestatic 166, 3) := by decide +kernel
theorem d_NW_bytesIn_14 : decode b_NW_bytesIn 14 = .ok (.ifCond .eq 6, 3) := by decide +kernel
theorem d_NW_bytesIn_17 : decode b_NW_bytesIn 17 = .ok (.iinc 2 1, 3) := by decide +kernel
theorem d_NW_bytesIn_20 : decode b_NW_bytesIn 20 = .ok (.iinc 3 (-8), 3) := by decide +kernel
theorem d_NW_bytesIn_23 : decode b_NW_bytesIn 23 = .ok (.goto (-18), 3) := by decide +kernel
theorem d_NW_bytesIn_26 : decode b_NW_bytesIn 26 = .ok (.iload_n 2, 1) := by decide +kernel
theorem d_NW_bytesIn_27 : decode b_NW_bytesIn 27 = .ok (.ireturn, 1) := by decide +kernel
theorem d_Mod_type_0 : decode b_Mod_type 0 = .ok (.iconst 0, 1) := by decide +kernel
theorem d_Mod_type_1 : decode b_Mod_type 1 = .ok (.istore 5, 2) := by decide +kernel
theorem d_Mod_type_3 : decode b_Mod_type 3 = .ok (.aload_n 0, 1) := by decide +kernel
theorem d_Mod_type_4 : decode b_Mod_type 4 = .ok (.iconst 0, 1) := by decide +kernel
theorem d_Mod_type_5 : decode b_Mod_type 5 = .ok (.putfield 46, 3) := by decide +kernel
theorem d_Mod_type_8 : decode b_Mod_type 8 = .ok (.iconst 0, 1) := by decide +kernel
theorem d_Mod_type_9 : decode b_Mod_type 9 = .ok (.istore 6, 2) := by decide +kernel
theorem d_Mod_type_11 : decode b_Mod_type 11 = .ok (.iload 6, 2) := by decide +kernel
theorem d_Mod_type_13 : decode b_Mod_type 13 = .ok (.bipush 16, 2) := by decide +kernel
theorem d_Mod_type_15 : decode b_Mod_type 15 = .ok (.if_icmp .ge 72, 3) := by decide +kernel
theorem d_Mod_type_18 : decode b_Mod_type 18 = .ok (.iload 6, 2) := by decide +kernel
theorem d_Mod_type_20 : decode b_Mod_type 20 = .ok (.bipush 8, 2) := by decide +kernel
theorem d_Mod_type_22 : decode b_Mod_type 22 = .ok (.if_icmp .ge 7, 3) := by decide +kernel
theorem d_Mod_type_25 : decode b_Mod_type 25 = .ok (.lload_n 1, 1) := by decide +kernel
theorem d_Mod_type_26 : decode b_Mod_type 26 = .ok (.goto 4, 3) := by decide +kernel
theorem d_Mod_type_29 : decode b_Mod_type 29 = .ok (.lload_n 3, 1) := by decide +kernel
theorem d_Mod_type_30 : decode b_Mod_type 30 = .ok (.bipush 56, 2) := by decide +kernel
theorem d_Mod_type_32 : decode b_Mod_type 32 = .ok (.iload 6, 2) := by decide +kernel
theorem d_Mod_type_34 : decode b_Mod_type 34 = .ok (.bipush 8, 2) := by decide +kernel
theorem d_Mod_type_36 : decode b_Mod_type 36 = .ok (.irem, 1) := by decide +kernel
theorem d_Mod_type_37 : decode b_Mod_type 37 = .ok (.bipush 8, 2) := by decide +kernel
theorem d_Mod_type_39 : decode b_Mod_type 39 = .ok (.imul, 1) := by decide +kernel
theorem d_Mod_type_40 : decode b_Mod_type 40 = .ok (.isub, 1) := by decide +kernel
theorem d_Mod_type_41 : decode b_Mod_type 41 = .ok (.lushr, 1) := by decide +kernel
theorem d_Mod_type_42 : decode b_Mod_type 42 = .ok (.l2i, 1) := by decide +kernel
theorem d_Mod_type_43 : decode b_Mod_type 43 = .ok (.sipush 255, 3) := by decide +kernel
theorem d_Mod_type_46 : decode b_Mod_type 46 = .ok (.iand, 1) := by decide +kernel
theorem d_Mod_type_47 : decode b_Mod_type 47 = .ok (.istore 7, 2) := by decide +kernel
theorem d_Mod_type_49 : decode b_Mod_type 49 = .ok (.iload 7, 2) := by decide +kernel
theorem d_Mod_type_51 : decode b_Mod_type 51 = .ok (.ifCond .eq 22, 3) := by decide +kernel
theorem d_Mod_type_54 : decode b_Mod_type 54 = .ok (.iload 7, 2) := by decide +kernel
theorem d_Mod_type_56 : decode b_Mod_type 56 = .ok (.bipush 33, 2) := by decide +kernel
theorem d_Mod_type_58 : decode b_Mod_type 58 = .ok (.if_icmp .lt 10, 3) := by decide +kernel
theorem d_Mod_type_61 : decode b_Mod_type 61 = .ok (.iload 7, 2) := by decide +kernel
theorem d_Mod_type_63 : decode b_Mod_type 63 = .ok (.bipush 126, 2) := by decide +kernel
theorem d_Mod_type_65 : decode b_Mod_type 65 = .ok (.if_icmp .le 8, 3) := by decide +kernel
theorem d_Mod_type_68 : decode b_Mod_type 68 = .ok (.aload_n 0, 1) := by decide +kernel
theorem d_Mod_type_69 : decode b_Mod_type 69 = .ok (.iconst 1, 1) := by decide +kernel
theorem d_Mod_type_70 : decode b_Mod_type 70 = .ok (.putfield 46, 3) := by decide +kernel
theorem d_Mod_type_73 : decode b_Mod_type 73 = .ok (.iload 7, 2) := by decide +kernel
theorem d_Mod_type_75 : decode b_Mod_type 75 = .ok (.ifCond .eq 6, 3) := by decide +kernel
theorem d_Mod_type_78 : decode b_Mod_type 78 = .ok (.iinc 5 1, 3) := by decide +kernel
theorem d_Mod_type_81 : decode b_Mod_type 81 = .ok (.iinc 6 1, 3) := by decide +kernel
theorem d_Mod_type_84 : decode b_Mod_type 84 = .ok (.goto (-73), 3) := by decide +kernel
theorem d_Mod_type_87 : decode b_Mod_type 87 = .ok (.aload_n 0, 1) := by decide +kernel
theorem d_Mod_type_88 : decode b_Mod_type 88 = .ok (.getfield 46, 3) := by decide +kernel
theorem d_Mod_type_91 : decode b_Mod_type 91 = .ok (.ifCond .ne 20, 3) := by decide +kernel
theorem d_Mod_type_94 : decode b_Mod_type 94 = .ok (.aload_n 0, 1) := by decide +kernel
theorem d_Mod_type_95 : decode b_Mod_type 95 = .ok (.getfield 50, 3) := by decide +kernel
theorem d_Mod_type_98 : decode b_Mod_type 98 = .ok (.iload 5, 2) := by decide +kernel
theorem d_Mod_type_100 : decode b_Mod_type 100 = .ok (.iadd, 1) := by decide +kernel
theorem d_Mod_type_101 : decode b_Mod_type 101 = .ok (.bipush 60, 2) := by decide +kernel
theorem d_Mod_type_103 : decode b_Mod_type 103 = .ok (.if_icmp .le 8, 3) := by decide +kernel
theorem d_Mod_type_106 : decode b_Mod_type 106 = .ok (.aload_n 0, 1) := by decide +kernel
theorem d_Mod_type_107 : decode b_Mod_type 107 = .ok (.iconst 2, 1) := by decide +kernel
theorem d_Mod_type_108 : decode b_Mod_type 108 = .ok (.putfield 46, 3) := by decide +kernel
theorem d_Mod_type_111 : decode b_Mod_type 111 = .ok (.aload_n 0, 1) := by decide +kernel
theorem d_Mod_type_112 : decode b_Mod_type 112 = .ok (.getfield 46, 3) := by decide +kernel
theorem d_Mod_type_115 : decode b_Mod_type 115 = .ok (.ifCond .eq 5, 3) := by decide +kernel
theorem d_Mod_type_118 : decode b_Mod_type 118 = .ok (.iconst 0, 1) := by decide +kernel
theorem d_Mod_type_119 : decode b_Mod_type 119 = .ok (.ireturn, 1) := by decide +kernel
theorem d_Mod_type_120 : decode b_Mod_type 120 = .ok (.iconst 0, 1) := by decide +kernel
theorem d_Mod_type_121 : decode b_Mod_type 121 = .ok (.istore 6, 2) := by decide +kernel
theorem d_Mod_type_123 : decode b_Mod_type 123 = .ok (.iload 6, 2) := by decide +kernel
theorem d_Mod_type_125 : decode b_Mod_type 125 = .ok (.bipush 16, 2) := by decide +kernel
theorem d_Mod_type_127 : decode b_Mod_type 127 = .ok (.if_icmp .ge 70, 3) := by decide +kernel
theorem d_Mod_type_130 : decode b_Mod_type 130 = .ok (.iload 6, 2) := by decide +kernel
theorem d_Mod_type_132 : decode b_Mod_type 132 = .ok (.bipush 8, 2) := by decide +kernel
theorem d_Mod_type_134 : decode b_Mod_type 134 = .ok (.if_icmp .ge 7, 3) := by decide +kernel
theorem d_Mod_type_137 : decode b_Mod_type 137 = .ok (.lload_n 1, 1) := by decide +kernel
theorem d_Mod_type_138 : decode b_Mod_type 138 = .ok (.goto 4, 3) := by decide +kernel
theorem d_Mod_type_141 : decode b_Mod_type 141 = .ok (.lload_n 3, 1) := by decide +kernel
theorem d_Mod_type_142 : decode b_Mod_type 142 = .ok (.bipush 56, 2) := by decide +kernel
theorem d_Mod_type_144 : decode b_Mod_type 144 = .ok (.iload 6, 2) := by decide +kernel
theorem d_Mod_type_146 : decode b_Mod_type 146 = .ok (.bipush 8, 2) := by decide +kernel
theorem d_Mod_type_148 : decode b_Mod_type 148 = .ok (.irem, 1) := by decide +kernel
theorem d_Mod_type_149 : decode b_Mod_type 149 = .ok (.bipush 8, 2) := by decide +kernel
theorem d_Mod_type_151 : decode b_Mod_type 151 = .ok (.imul, 1) := by decide +kernel
theorem d_Mod_type_152 : decode b_Mod_type 152 = .ok (.isub, 1) := by decide +kernel
theorem d_Mod_type_153 : decode b_Mod_type 153 = .ok (.lushr, 1) := by decide +kernel
theorem d_Mod_type_154 : decode b_Mod_type 154 = .ok (.l2i, 1) := by decide +kernel
theorem d_Mod_type_155 : decode b_Mod_type 155 = .ok (.sipush 255, 3) := by decide +kernel
theorem d_Mod_type_158 : decode b_Mod_type 158 = .ok (.iand, 1) := by decide +kernel
theorem d_Mod_type_159 : decode b_Mod_type 159 = .ok (.istore 7, 2) := by decide +kernel
theorem d_Mod_type_161 : decode b_Mod_type 161 = .ok (.iload 7, 2) := by decide +kernel
theorem d_Mod_type_163 : decode b_Mod_type 163 = .ok (.ifCond .ne 6, 3) := by decide +kernel
theorem d_Mod_type_166 : decode b_Mod_type 166 = .ok (.goto 25, 3) := by decide +kernel
theorem d_Mod_type_169 : decode b_Mod_type 169 = .ok (.aload_n 0, 1) := by decide +kernel
theorem d_Mod_type_170 : decode b_Mod_type 170 = .ok (.getfield 7, 3) := by decide +kernel
theorem d_Mod_type_173 : decode b_Mod_type 173 = .ok (.aload_n 0, 1) := by decide +kernel
theorem d_Mod_type_174 : decode b_Mod_type 174 = .ok (.getfield 50, 3) := by decide +kernel
theorem d_Mod_type_177 : decode b_Mod_type 177 = .ok (.iload 7, 2) := by decide +kernel
theorem d_Mod_type_179 : decode b_Mod_type 179 = .ok (.i2b, 1) := by decide +kernel
theorem d_Mod_type_180 : decode b_Mod_type 180 = .ok (.bastore, 1) := by decide +kernel
theorem d_Mod_type_181 : decode b_Mod_type 181 = .ok (.aload_n 0, 1) := by decide +kernel
theorem d_Mod_type_182 : decode b_Mod_type 182 = .ok (.dup, 1) := by decide +kernel
theorem d_Mod_type_183 : decode b_Mod_type 183 = .ok (.getfield 50, 3) := by decide +kernel
theorem d_Mod_type_186 : decode b_Mod_type 186 = .ok (.iconst 1, 1) := by decide +kernel
theorem d_Mod_type_187 : decode b_Mod_type 187 = .ok (.iadd, 1) := by decide +kernel
theorem d_Mod_type_188 : decode b_Mod_type 188 = .ok (.putfield 50, 3) := by decide +kernel
theorem d_Mod_type_191 : decode b_Mod_type 191 = .ok (.iinc 6 1, 3) := by decide +kernel
theorem d_Mod_type_194 : decode b_Mod_type 194 = .ok (.goto (-71), 3) := by decide +kernel
theorem d_Mod_type_197 : decode b_Mod_type 197 = .ok (.aload_n 0, 1) := by decide +kernel
theorem d_Mod_type_198 : decode b_Mod_type 198 = .ok (.getfield 50, 3) := by decide +kernel
theorem d_Mod_type_201 : decode b_Mod_type 201 = .ok (.ireturn, 1) := by decide +kernel
theorem d_Mod_standing_0 : decode b_Mod_standing 0 = .ok (.iconst 0, 1) := by decide +kernel
theorem d_Mod_standing_1 : decode b_Mod_standing 1 = .ok (.istore_n 2, 1) := by decide +kernel
theorem d_Mod_standing_2 : decode b_Mod_standing 2 = .ok (.iconst 0, 1) := by decide +kernel
theorem d_Mod_standing_3 : decode b_Mod_standing 3 = .ok (.istore_n 3, 1) := by decide +kernel
theorem d_Mod_standing_4 : decode b_Mod_standing 4 = .ok (.iload_n 3, 1) := by decide +kernel
theorem d_Mod_standing_5 : decode b_Mod_standing 5 = .ok (.aload_n 0, 1) := by decide +kernel
theorem d_Mod_standing_6 : decode b_Mod_standing 6 = .ok (.getfield 57, 3) := by decide +kernel
theorem d_Mod_standing_9 : decode b_Mod_standing 9 = .ok (.if_icmp .ge 21, 3) := by decide +kernel
theorem d_Mod_standing_12 : decode b_Mod_standing 12 = .ok (.aload_n 0, 1) := by decide +kernel
theorem d_Mod_standing_13 : decode b_Mod_standing 13 = .ok (.iload_n 3, 1) := by decide +kernel
theorem d_Mod_standing_14 : decode b_Mod_standing 14 = .ok (.iload_n 1, 1) := by decide +kernel
theorem d_Mod_standing_15 : decode b_Mod_standing 15 = .ok (.invokevirtual 60, 3) := by decide +kernel
theorem d_Mod_standing_18 : decode b_Mod_standing 18 = .ok (.ifCond .ge 6, 3) := by decide +kernel
theorem d_Mod_standing_21 : decode b_Mod_standing 21 = .ok (.iinc 2 1, 3) := by decide +kernel
theorem d_Mod_standing_24 : decode b_Mod_standing 24 = .ok (.iinc 3 1, 3) := by decide +kernel
theorem d_Mod_standing_27 : decode b_Mod_standing 27 = .ok (.goto (-23), 3) := by decide +kernel
theorem d_Mod_standing_30 : decode b_Mod_standing 30 = .ok (.iload_n 2, 1) := by decide +kernel
theorem d_Mod_standing_31 : decode b_Mod_standing 31 = .ok (.ireturn, 1) := by decide +kernel
theorem d_Mod_steps_0 : decode b_Mod_steps 0 = .ok (.aload_n 0, 1) := by decide +kernel
theorem d_Mod_steps_1 : decode b_Mod_steps 1 = .ok (.getfield 20, 3) := by decide +kernel
theorem d_Mod_steps_4 : decode b_Mod_steps 4 = .ok (.iload_n 1, 1) := by decide +kernel
theorem d_Mod_steps_5 : decode b_Mod_steps 5 = .ok (.iaload, 1) := by decide +kernel
theorem d_Mod_steps_6 : decode b_Mod_steps 6 = .ok (.istore_n 3, 1) := by decide +kernel
theorem d_Mod_steps_7 : decode b_Mod_steps 7 = .ok (.iconst 0, 1) := by decide +kernel
theorem d_Mod_steps_8 : decode b_Mod_steps 8 = .ok (.istore 4, 2) := by decide +kernel
theorem d_Mod_steps_10 : decode b_Mod_steps 10 = .ok (.iload 4, 2) := by decide +kernel
theorem d_Mod_steps_12 : decode b_Mod_steps 12 = .ok (.iload_n 3, 1) := by decide +kernel
theorem d_Mod_steps_13 : decode b_Mod_steps 13 = .ok (.if_icmp .gt 241, 3) := by decide +kernel
theorem d_Mod_steps_16 : decode b_Mod_steps 16 = .ok (.iconst 0, 1) := by decide +kernel
theorem d_Mod_steps_17 : decode b_Mod_steps 17 = .ok (.istore 5, 2) := by decide +kernel
theorem d_Mod_steps_19 : decode b_Mod_steps 19 = .ok (.iload 5, 2) := by decide +kernel
theorem d_Mod_steps_21 : decode b_Mod_steps 21 = .ok (.iload_n 2, 1) := by decide +kernel
theorem d_Mod_steps_22 : decode b_Mod_steps 22 = .ok (.if_icmp .gt 226, 3) := by decide +kernel
theorem d_Mod_steps_25 : decode b_Mod_steps 25 = .ok (.iload 4, 2) := by decide +kernel
theorem d_Mod_steps_27 : decode b_Mod_steps 27 = .ok (.ifCond .ne 8, 3) := by decide +kernel
theorem d_Mod_steps_30 : decode b_Mod_steps 30 = .ok (.iload 5, 2) := by decide +kernel
theorem d_Mod_steps_32 : decode b_Mod_steps 32 = .ok (.goto 48, 3) := by decide +kernel
theorem d_Mod_steps_35 : decode b_Mod_steps 35 = .ok (.iload 5, 2) := by decide +kernel
theorem d_Mod_steps_37 : decode b_Mod_steps 37 = .ok (.ifCond .ne 8, 3) := by decide +kernel
theorem d_Mod_steps_40 : decode b_Mod_steps 40 = .ok (.iload 4, 2) := by decide +kernel
theorem d_Mod_steps_42 : decode b_Mod_steps 42 = .ok (.goto 38, 3) := by decide +kernel
theorem d_Mod_steps_45 : decode b_Mod_steps 45 = .ok (.aload_n 0, 1) := by decide +kernel
theorem d_Mod_steps_46 : decode b_Mod_steps 46 = .ok (.getfield 36, 3) := by decide +kernel
theorem d_Mod_steps_49 : decode b_Mod_steps 49 = .ok (.iload 4, 2) := by decide +kernel
theorem d_Mod_steps_51 : decode b_Mod_steps 51 = .ok (.iconst 1, 1) := by decide +kernel
theorem d_Mod_steps_52 : decode b_Mod_steps 52 = .ok (.isub, 1) := by decide +kernel
theorem d_Mod_steps_53 : decode b_Mod_steps 53 = .ok (.bipush 61, 2) := by decide +kernel
theorem d_Mod_steps_55 : decode b_Mod_steps 55 = .ok (.imul, 1) := by decide +kernel
theorem d_Mod_steps_56 : decode b_Mod_steps 56 = .ok (.iload 5, 2) := by decide +kernel
theorem d_Mod_steps_58 : decode b_Mod_steps 58 = .ok (.iadd, 1) := by decide +kernel
theorem d_Mod_steps_59 : decode b_Mod_steps 59 = .ok (.iaload, 1) := by decide +kernel
theorem d_Mod_steps_60 : decode b_Mod_steps 60 = .ok (.aload_n 0, 1) := by decide +kernel
theorem d_Mod_steps_61 : decode b_Mod_steps 61 = .ok (.getfield 36, 3) := by decide +kernel
theorem d_Mod_steps_64 : decode b_Mod_steps 64 = .ok (.iload 4, 2) := by decide +kernel
theorem d_Mod_steps_66 : decode b_Mod_steps 66 = .ok (.bipush 61, 2) := by decide +kernel
theorem d_Mod_steps_68 : decode b_Mod_steps 68 = .ok (.imul, 1) := by decide +kernel
theorem d_Mod_steps_69 : decode b_Mod_steps 69 = .ok (.iload 5, 2) := by decide +kernel
theorem d_Mod_steps_71 : decode b_Mod_steps 71 = .ok (.iadd, 1) := by decide +kernel
theorem d_Mod_steps_72 : decode b_Mod_steps 72 = .ok (.iconst 1, 1) := by decide +kernel
theorem d_Mod_steps_73 : decode b_Mod_steps 73 = .ok (.isub, 1) := by decide +kernel
theorem d_Mod_steps_74 : decode b_Mod_steps 74 = .ok (.iaload, 1) := by decide +kernel
theorem d_Mod_steps_75 : decode b_Mod_steps 75 = .ok (.invokestatic 53, 3) := by decide +kernel
theorem d_Mod_steps_78 : decode b_Mod_steps 78 = .ok (.iconst 1, 1) := by decide +kernel
theorem d_Mod_steps_79 : decode b_Mod_steps 79 = .ok (.iadd, 1) := by decide +kernel
theorem d_Mod_steps_80 : decode b_Mod_steps 80 = .ok (.istore 6, 2) := by decide +kernel
theorem d_Mod_steps_82 : decode b_Mod_steps 82 = .ok (.iload 4, 2) := by decide +kernel
theorem d_Mod_steps_84 : decode b_Mod_steps 84 = .ok (.ifCond .le 143, 3) := by decide +kernel
theorem d_Mod_steps_87 : decode b_Mod_steps 87 = .ok (.iload 5, 2) := by decide +kernel
theorem d_Mod_steps_89 : decode b_Mod_steps 89 = .ok (.ifCond .le 138, 3) := by decide +kernel
theorem d_Mod_steps_92 : decode b_Mod_steps 92 = .ok (.aload_n 0, 1) := by decide +kernel
theorem d_Mod_steps_93 : decode b_Mod_steps 93 = .ok (.getfield 14, 3) := by decide +kernel
theorem d_Mod_steps_96 : decode b_Mod_steps 96 = .ok (.iload_n 1, 1) := by decide +kernel
theorem d_Mod_steps_97 : decode b_Mod_steps 97 = .ok (.bipush 60, 2) := by decide +kernel
theorem d_Mod_steps_99 : decode b_Mod_steps 99 = .ok (.imul, 1) := by decide +kernel
theorem d_Mod_steps_100 : decode b_Mod_steps 100 = .ok (.iload 4, 2) := by decide +kernel
theorem d_Mod_steps_102 : decode b_Mod_steps 102 = .ok (.iadd, 1) := by decide +kernel
theorem d_Mod_steps_103 : decode b_Mod_steps 103 = .ok (.iconst 1, 1) := by decide +kernel
theorem d_Mod_steps_104 : decode b_Mod_steps 104 = .ok (.isub, 1) := by decide +kernel
theorem d_Mod_steps_105 : decode b_Mod_steps 105 = .ok (.baload, 1) := by decide +kernel
theorem d_Mod_steps_106 : decode b_Mod_steps 106 = .ok (.istore 7, 2) := by decide +kernel
theorem d_Mod_steps_108 : decode b_Mod_steps 108 = .ok (.aload_n 0, 1) := by decide +kernel
theorem d_Mod_steps_109 : decode b_Mod_steps 109 = .ok (.getfield 7, 3) := by decide +kernel
theorem d_Mod_steps_112 : decode b_Mod_steps 112 = .ok (.iload 5, 2) := by decide +kernel
theorem d_Mod_steps_114 : decode b_Mod_steps 114 = .ok (.iconst 1, 1) := by decide +kernel
theorem d_Mod_steps_115 : decode b_Mod_steps 115 = .ok (.isub, 1) := by decide +kernel
theorem d_Mod_steps_116 : decode b_Mod_steps 116 = .ok (.baload, 1) := by decide +kernel
theorem d_Mod_steps_117 : decode b_Mod_steps 117 = .ok (.istore 8, 2) := by decide +kernel
theorem d_Mod_steps_119 : decode b_Mod_steps 119 = .ok (.iload 6, 2) := by decide +kernel
theorem d_Mod_steps_121 : decode b_Mod_steps 121 = .ok (.aload_n 0, 1) := by decide +kernel
theorem d_Mod_steps_122 : decode b_Mod_steps 122 = .ok (.getfield 36, 3) := by decide +kernel
theorem d_Mod_steps_125 : decode b_Mod_steps 125 = .ok (.iload 4, 2) := by decide +kernel
theorem d_Mod_steps_127 : decode b_Mod_steps 127 = .ok (.iconst 1, 1) := by decide +kernel
theorem d_Mod_steps_128 : decode b_Mod_steps 128 = .ok (.isub, 1) := by decide +kernel
theorem d_Mod_steps_129 : decode b_Mod_steps 129 = .ok (.bipush 61, 2) := by decide +kernel
theorem d_Mod_steps_131 : decode b_Mod_steps 131 = .ok (.imul, 1) := by decide +kernel
theorem d_Mod_steps_132 : decode b_Mod_steps 132 = .ok (.iload 5, 2) := by decide +kernel
theorem d_Mod_steps_134 : decode b_Mod_steps 134 = .ok (.iadd, 1) := by decide +kernel
theorem d_Mod_steps_135 : decode b_Mod_steps 135 = .ok (.iconst 1, 1) := by decide +kernel
theorem d_Mod_steps_136 : decode b_Mod_steps 136 = .ok (.isub, 1) := by decide +kernel
theorem d_Mod_steps_137 : decode b_Mod_steps 137 = .ok (.iaload, 1) := by decide +kernel
theorem d_Mod_steps_138 : decode b_Mod_steps 138 = .ok (.iload 7, 2) := by decide +kernel
theorem d_Mod_steps_140 : decode b_Mod_steps 140 = .ok (.iload 8, 2) := by decide +kernel
theorem d_Mod_steps_142 : decode b_Mod_steps 142 = .ok (.if_icmp .ne 7, 3) := by decide +kernel
theorem d_Mod_steps_145 : decode b_Mod_steps 145 = .ok (.iconst 0, 1) := by decide +kernel
theorem d_Mod_steps_146 : decode b_Mod_steps 146 = .ok (.goto 4, 3) := by decide +kernel
theorem d_Mod_steps_149 : decode b_Mod_steps 149 = .ok (.iconst 1, 1) := by decide +kernel
theorem d_Mod_steps_150 : decode b_Mod_steps 150 = .ok (.iadd, 1) := by decide +kernel
theorem d_Mod_steps_151 : decode b_Mod_steps 151 = .ok (.invokestatic 53, 3) := by decide +kernel
theorem d_Mod_steps_154 : decode b_Mod_steps 154 = .ok (.istore 6, 2) := by decide +kernel
theorem d_Mod_steps_156 : decode b_Mod_steps 156 = .ok (.iload 4, 2) := by decide +kernel
theorem d_Mod_steps_158 : decode b_Mod_steps 158 = .ok (.iconst 1, 1) := by decide +kernel
theorem d_Mod_steps_159 : decode b_Mod_steps 159 = .ok (.if_icmp .le 68, 3) := by decide +kernel
theorem d_Mod_steps_162 : decode b_Mod_steps 162 = .ok (.iload 5, 2) := by decide +kernel
theorem d_Mod_steps_164 : decode b_Mod_steps 164 = .ok (.iconst 1, 1) := by decide +kernel
theorem d_Mod_steps_165 : decode b_Mod_steps 165 = .ok (.if_icmp .le 62, 3) := by decide +kernel
theorem d_Mod_steps_168 : decode b_Mod_steps 168 = .ok (.iload 7, 2) := by decide +kernel
theorem d_Mod_steps_170 : decode b_Mod_steps 170 = .ok (.aload_n 0, 1) := by decide +kernel
theorem d_Mod_steps_171 : decode b_Mod_steps 171 = .ok (.getfield 7, 3) := by decide +kernel
theorem d_Mod_steps_174 : decode b_Mod_steps 174 = .ok (.iload 5, 2) := by decide +kernel
theorem d_Mod_steps_176 : decode b_Mod_steps 176 = .ok (.iconst 2, 1) := by decide +kernel
theorem d_Mod_steps_177 : decode b_Mod_steps 177 = .ok (.isub, 1) := by decide +kernel
theorem d_Mod_steps_178 : decode b_Mod_steps 178 = .ok (.baload, 1) := by decide +kernel
theorem d_Mod_steps_179 : decode b_Mod_steps 179 = .ok (.if_icmp .ne 48, 3) := by decide +kernel
theorem d_Mod_steps_182 : decode b_Mod_steps 182 = .ok (.aload_n 0, 1) := by decide +kernel
theorem d_Mod_steps_183 : decode b_Mod_steps 183 = .ok (.getfield 14, 3) := by decide +kernel
theorem d_Mod_steps_186 : decode b_Mod_steps 186 = .ok (.iload_n 1, 1) := by decide +kernel
theorem d_Mod_steps_187 : decode b_Mod_steps 187 = .ok (.bipush 60, 2) := by decide +kernel
theorem d_Mod_steps_189 : decode b_Mod_steps 189 = .ok (.imul, 1) := by decide +kernel
theorem d_Mod_steps_190 : decode b_Mod_steps 190 = .ok (.iload 4, 2) := by decide +kernel
theorem d_Mod_steps_192 : decode b_Mod_steps 192 = .ok (.iadd, 1) := by decide +kernel
theorem d_Mod_steps_193 : decode b_Mod_steps 193 = .ok (.iconst 2, 1) := by decide +kernel
theorem d_Mod_steps_194 : decode b_Mod_steps 194 = .ok (.isub, 1) := by decide +kernel
theorem d_Mod_steps_195 : decode b_Mod_steps 195 = .ok (.baload, 1) := by decide +kernel
theorem d_Mod_steps_196 : decode b_Mod_steps 196 = .ok (.iload 8, 2) := by decide +kernel
theorem d_Mod_steps_198 : decode b_Mod_steps 198 = .ok (.if_icmp .ne 29, 3) := by decide +kernel
theorem d_Mod_steps_201 : decode b_Mod_steps 201 = .ok (.iload 6, 2) := by decide +kernel
theorem d_Mod_steps_203 : decode b_Mod_steps 203 = .ok (.aload_n 0, 1) := by decide +kernel
theorem d_Mod_steps_204 : decode b_Mod_steps 204 = .ok (.getfield 36, 3) := by decide +kernel
theorem d_Mod_steps_207 : decode b_Mod_steps 207 = .ok (.iload 4, 2) := by decide +kernel
theorem d_Mod_steps_209 : decode b_Mod_steps 209 = .ok (.iconst 2, 1) := by decide +kernel
theorem d_Mod_steps_210 : decode b_Mod_steps 210 = .ok (.isub, 1) := by decide +kernel
theorem d_Mod_steps_211 : decode b_Mod_steps 211 = .ok (.bipush 61, 2) := by decide +kernel
theorem d_Mod_steps_213 : decode b_Mod_steps 213 = .ok (.imul, 1) := by decide +kernel
theorem d_Mod_steps_214 : decode b_Mod_steps 214 = .ok (.iload 5, 2) := by decide +kernel
theorem d_Mod_steps_216 : decode b_Mod_steps 216 = .ok (.iadd, 1) := by decide +kernel
theorem d_Mod_steps_217 : decode b_Mod_steps 217 = .ok (.iconst 2, 1) := by decide +kernel
theorem d_Mod_steps_218 : decode b_Mod_steps 218 = .ok (.isub, 1) := by decide +kernel
theorem d_Mod_steps_219 : decode b_Mod_steps 219 = .ok (.iaload, 1) := by decide +kernel
theorem d_Mod_steps_220 : decode b_Mod_steps 220 = .ok (.iconst 1, 1) := by decide +kernel
theorem d_Mod_steps_221 : decode b_Mod_steps 221 = .ok (.iadd, 1) := by decide +kernel
theorem d_Mod_steps_222 : decode b_Mod_steps 222 = .ok (.invokestatic 53, 3) := by decide +kernel
theorem d_Mod_steps_225 : decode b_Mod_steps 225 = .ok (.istore 6, 2) := by decide +kernel
theorem d_Mod_steps_227 : decode b_Mod_steps 227 = .ok (.aload_n 0, 1) := by decide +kernel
theorem d_Mod_steps_228 : decode b_Mod_steps 228 = .ok (.getfield 36, 3) := by decide +kernel
theorem d_Mod_steps_231 : decode b_Mod_steps 231 = .ok (.iload 4, 2) := by decide +kernel
theorem d_Mod_steps_233 : decode b_Mod_steps 233 = .ok (.bipush 61, 2) := by decide +kernel
theorem d_Mod_steps_235 : decode b_Mod_steps 235 = .ok (.imul, 1) := by decide +kernel
theorem d_Mod_steps_236 : decode b_Mod_steps 236 = .ok (.iload 5, 2) := by decide +kernel
theorem d_Mod_steps_238 : decode b_Mod_steps 238 = .ok (.iadd, 1) := by decide +kernel
theorem d_Mod_steps_239 : decode b_Mod_steps 239 = .ok (.iload 6, 2) := by decide +kernel
theorem d_Mod_steps_241 : decode b_Mod_steps 241 = .ok (.iastore, 1) := by decide +kernel
theorem d_Mod_steps_242 : decode b_Mod_steps 242 = .ok (.iinc 5 1, 3) := by decide +kernel
theorem d_Mod_steps_245 : decode b_Mod_steps 245 = .ok (.goto (-226), 3) := by decide +kernel
theorem d_Mod_steps_248 : decode b_Mod_steps 248 = .ok (.iinc 4 1, 3) := by decide +kernel
theorem d_Mod_steps_251 : decode b_Mod_steps 251 = .ok (.goto (-241), 3) := by decide +kernel
theorem d_Mod_steps_254 : decode b_Mod_steps 254 = .ok (.aload_n 0, 1) := by decide +kernel
theorem d_Mod_steps_255 : decode b_Mod_steps 255 = .ok (.getfield 36, 3) := by decide +kernel
theorem d_Mod_steps_258 : decode b_Mod_steps 258 = .ok (.iload_n 3, 1) := by decide +kernel
theorem d_Mod_steps_259 : decode b_Mod_steps 259 = .ok (.bipush 61, 2) := by decide +kernel
theorem d_Mod_steps_261 : decode b_Mod_steps 261 = .ok (.imul, 1) := by decide +kernel
theorem d_Mod_steps_262 : decode b_Mod_steps 262 = .ok (.iload_n 2, 1) := by decide +kernel
theorem d_Mod_steps_263 : decode b_Mod_steps 263 = .ok (.iadd, 1) := by decide +kernel
theorem d_Mod_steps_264 : decode b_Mod_steps 264 = .ok (.iaload, 1) := by decide +kernel
theorem d_Mod_steps_265 : decode b_Mod_steps 265 = .ok (.ireturn, 1) := by decide +kernel
theorem d_Mod_like_0 : decode b_Mod_like 0 = .ok (.aload_n 0, 1) := by decide +kernel
theorem d_Mod_like_1 : decode b_Mod_like 1 = .ok (.invokevirtual 63, 3) := by decide +kernel
theorem d_Mod_like_4 : decode b_Mod_like 4 = .ok (.istore_n 1, 1) := by decide +kernel
theorem d_Mod_like_5 : decode b_Mod_like 5 = .ok (.aload_n 0, 1) := by decide +kernel
theorem d_Mod_like_6 : decode b_Mod_like 6 = .ok (.iconst 0, 1) := by decide +kernel
theorem d_Mod_like_7 : decode b_Mod_like 7 = .ok (.putfield 46, 3) := by decide +kernel
theorem d_Mod_like_10 : decode b_Mod_like 10 = .ok (.iconst 0, 1) := by decide +kernel
theorem d_Mod_like_11 : decode b_Mod_like 11 = .ok (.istore_n 2, 1) := by decide +kernel
theorem d_Mod_like_12 : decode b_Mod_like 12 = .ok (.iconst 0, 1) := by decide +kernel
theorem d_Mod_like_13 : decode b_Mod_like 13 = .ok (.istore_n 3, 1) := by decide +kernel
theorem d_Mod_like_14 : decode b_Mod_like 14 = .ok (.iload_n 3, 1) := by decide +kernel
theorem d_Mod_like_15 : decode b_Mod_like 15 = .ok (.aload_n 0, 1) := by decide +kernel
theorem d_Mod_like_16 : decode b_Mod_like 16 = .ok (.getfield 57, 3) := by decide +kernel
theorem d_Mod_like_19 : decode b_Mod_like 19 = .ok (.if_icmp .ge 37, 3) := by decide +kernel
theorem d_Mod_like_22 : decode b_Mod_like 22 = .ok (.aload_n 0, 1) := by decide +kernel
theorem d_Mod_like_23 : decode b_Mod_like 23 = .ok (.iload_n 3, 1) := by decide +kernel
theorem d_Mod_like_24 : decode b_Mod_like 24 = .ok (.iload_n 1, 1) := by decide +kernel
theorem d_Mod_like_25 : decode b_Mod_like 25 = .ok (.invokevirtual 87, 3) := by decide +kernel
theorem d_Mod_like_28 : decode b_Mod_like 28 = .ok (.ifCond .ne 6, 3) := by decide +kernel
theorem d_Mod_like_31 : decode b_Mod_like 31 = .ok (.goto 19, 3) := by decide +kernel
theorem d_Mod_like_34 : decode b_Mod_like 34 = .ok (.iload_n 2, 1) := by decide +kernel
theorem d_Mod_like_35 : decode b_Mod_like 35 = .ok (.bipush 50, 2) := by decide +kernel
theorem d_Mod_like_37 : decode b_Mod_like 37 = .ok (.if_icmp .ge 10, 3) := by decide +kernel
theorem d_Mod_like_40 : decode b_Mod_like 40 = .ok (.aload_n 0, 1) := by decide +kernel
theorem d_Mod_like_41 : decode b_Mod_like 41 = .ok (.iload_n 2, 1) := by decide +kernel
theorem d_Mod_like_42 : decode b_Mod_like 42 = .ok (.iload_n 3, 1) := by decide +kernel
theorem d_Mod_like_43 : decode b_Mod_like 43 = .ok (.iconst 0, 1) := by decide +kernel
theorem d_Mod_like_44 : decode b_Mod_like 44 = .ok (.invokevirtual 84, 3) := by decide +kernel
theorem d_Mod_like_47 : decode b_Mod_like 47 = .ok (.iinc 2 1, 3) := by decide +kernel
theorem d_Mod_like_50 : decode b_Mod_like 50 = .ok (.iinc 3 1, 3) := by decide +kernel
theorem d_Mod_like_53 : decode b_Mod_like 53 = .ok (.goto (-39), 3) := by decide +kernel
theorem d_Mod_like_56 : decode b_Mod_like 56 = .ok (.aload_n 0, 1) := by decide +kernel
theorem d_Mod_like_57 : decode b_Mod_like 57 = .ok (.iload_n 2, 1) := by decide +kernel
theorem d_Mod_like_58 : decode b_Mod_like 58 = .ok (.bipush 50, 2) := by decide +kernel
theorem d_Mod_like_60 : decode b_Mod_like 60 = .ok (.invokestatic 53, 3) := by decide +kernel
theorem d_Mod_like_63 : decode b_Mod_like 63 = .ok (.putfield 81, 3) := by decide +kernel
theorem d_Mod_like_66 : decode b_Mod_like 66 = .ok (.iload_n 2, 1) := by decide +kernel
theorem d_Mod_like_67 : decode b_Mod_like 67 = .ok (.ireturn, 1) := by decide +kernel
theorem d_Mod_count_0 : decode b_Mod_count 0 = .ok (.aload_n 0, 1) := by decide +kernel
theorem d_Mod_count_1 : decode b_Mod_count 1 = .ok (.iconst 0, 1) := by decide +kernel
theorem d_Mod_count_2 : decode b_Mod_count 2 = .ok (.putfield 46, 3) := by decide +kernel
theorem d_Mod_count_5 : decode b_Mod_count 5 = .ok (.iconst 0, 1) := by decide +kernel
theorem d_Mod_count_6 : decode b_Mod_count 6 = .ok (.istore_n 2, 1) := by decide +kernel
theorem d_Mod_count_7 : decode b_Mod_count 7 = .ok (.iconst 0, 1) := by decide +kernel
theorem d_Mod_count_8 : decode b_Mod_count 8 = .ok (.istore_n 3, 1) := by decide +kernel
theorem d_Mod_count_9 : decode b_Mod_count 9 = .ok (.iload_n 3, 1) := by decide +kernel
theorem d_Mod_count_10 : decode b_Mod_count 10 = .ok (.aload_n 0, 1) := by decide +kernel
theorem d_Mod_count_11 : decode b_Mod_count 11 = .ok (.getfield 57, 3) := by decide +kernel
theorem d_Mod_count_14 : decode b_Mod_count 14 = .ok (.if_icmp .ge 30, 3) := by decide +kernel
theorem d_Mod_count_17 : decode b_Mod_count 17 = .ok (.aload_n 0, 1) := by decide +kernel
theorem d_Mod_count_18 : decode b_Mod_count 18 = .ok (.getfield 20, 3) := by decide +kernel
theorem d_Mod_count_21 : decode b_Mod_count 21 = .ok (.iload_n 3, 1) := by decide +kernel
theorem d_Mod_count_22 : decode b_Mod_count 22 = .ok (.iaload, 1) := by decide +kernel
theorem d_Mod_count_23 : decode b_Mod_count 23 = .ok (.iload_n 2, 1) := by decide +kernel
theorem d_Mod_count_24 : decode b_Mod_count 24 = .ok (.if_icmp .le 12, 3) := by decide +kernel
theorem d_Mod_count_27 : decode b_Mod_count 27 = .ok (.aload_n 0, 1) := by decide +kernel
theorem d_Mod_count_28 : decode b_Mod_count 28 = .ok (.getfield 20, 3) := by decide +kernel
theorem d_Mod_count_31 : decode b_Mod_count 31 = .ok (.iload_n 3, 1) := by decide +kernel
theorem d_Mod_count_32 : decode b_Mod_count 32 = .ok (.iaload, 1) := by decide +kernel
theorem d_Mod_count_33 : decode b_Mod_count 33 = .ok (.goto 4, 3) := by decide +kernel
theorem d_Mod_count_36 : decode b_Mod_count 36 = .ok (.iload_n 2, 1) := by decide +kernel
theorem d_Mod_count_37 : decode b_Mod_count 37 = .ok (.istore_n 2, 1) := by decide +kernel
theorem d_Mod_count_38 : decode b_Mod_count 38 = .ok (.iinc 3 1, 3) := by decide +kernel
theorem d_Mod_count_41 : decode b_Mod_count 41 = .ok (.goto (-32), 3) := by decide +kernel
theorem d_Mod_count_44 : decode b_Mod_count 44 = .ok (.iload_n 1, 1) := by decide +kernel
theorem d_Mod_count_45 : decode b_Mod_count 45 = .ok (.tableswitch 57 0 4 #[35, 40, 45, 50, 55], 35) := by decide +kernel
theorem d_Mod_count_80 : decode b_Mod_count 80 = .ok (.aload_n 0, 1) := by decide +kernel
theorem d_Mod_count_81 : decode b_Mod_count 81 = .ok (.getfield 50, 3) := by decide +kernel
theorem d_Mod_count_84 : decode b_Mod_count 84 = .ok (.ireturn, 1) := by decide +kernel
theorem d_Mod_count_85 : decode b_Mod_count 85 = .ok (.aload_n 0, 1) := by decide +kernel
theorem d_Mod_count_86 : decode b_Mod_count 86 = .ok (.getfield 57, 3) := by decide +kernel
theorem d_Mod_count_89 : decode b_Mod_count 89 = .ok (.ireturn, 1) := by decide +kernel
theorem d_Mod_count_90 : decode b_Mod_count 90 = .ok (.aload_n 0, 1) := by decide +kernel
theorem d_Mod_count_91 : decode b_Mod_count 91 = .ok (.getfield 71, 3) := by decide +kernel
theorem d_Mod_count_94 : decode b_Mod_count 94 = .ok (.ireturn, 1) := by decide +kernel
theorem d_Mod_count_95 : decode b_Mod_count 95 = .ok (.aload_n 0, 1) := by decide +kernel
theorem d_Mod_count_96 : decode b_Mod_count 96 = .ok (.getfield 81, 3) := by decide +kernel
theorem d_Mod_count_99 : decode b_Mod_count 99 = .ok (.ireturn, 1) := by decide +kernel
theorem d_Mod_count_100 : decode b_Mod_count 100 = .ok (.iload_n 2, 1) := by decide +kernel
theorem d_Mod_count_101 : decode b_Mod_count 101 = .ok (.ireturn, 1) := by decide +kernel
theorem d_Mod_count_102 : decode b_Mod_count 102 = .ok (.iconst (-1), 1) := by decide +kernel
theorem d_Mod_count_103 : decode b_Mod_count 103 = .ok (.ireturn, 1) := by decide +kernel
theorem d_Met_extend_0 : decode b_Met_extend 0 = .ok (.aload_n 0, 1) := by decide +kernel
theorem d_Met_extend_1 : decode b_Met_extend 1 = .ok (.getfield 17, 3) := by decide +kernel
theorem d_Met_extend_4 : decode b_Met_extend 4 = .ok (.iload_n 1, 1) := by decide +kernel
theorem d_Met_extend_5 : decode b_Met_extend 5 = .ok (.aaload, 1) := by decide +kernel
theorem d_Met_extend_6 : decode b_Met_extend 6 = .ok (.astore 7, 2) := by decide +kernel
theorem d_Met_extend_8 : decode b_Met_extend 8 = .ok (.aload_n 0, 1) := by decide +kernel
theorem d_Met_extend_9 : decode b_Met_extend 9 = .ok (.getfield 17, 3) := by decide +kernel
theorem d_Met_extend_12 : decode b_Met_extend 12 = .ok (.iload_n 1, 1) := by decide +kernel
theorem d_Met_extend_13 : decode b_Met_extend 13 = .ok (.iconst 1, 1) := by decide +kernel
theorem d_Met_extend_14 : decode b_Met_extend 14 = .ok (.isub, 1) := by decide +kernel
theorem d_Met_extend_15 : decode b_Met_extend 15 = .ok (.aaload, 1) := by decide +kernel
theorem d_Met_extend_16 : decode b_Met_extend 16 = .ok (.astore 8, 2) := by decide +kernel
theorem d_Met_extend_18 : decode b_Met_extend 18 = .ok (.aload_n 0, 1) := by decide +kernel
theorem d_Met_extend_19 : decode b_Met_extend 19 = .ok (.getfield 20, 3) := by decide +kernel
theorem d_Met_extend_22 : decode b_Met_extend 22 = .ok (.iconst 1, 1) := by decide +kernel
theorem d_Met_extend_23 : decode b_Met_extend 23 = .ok (.iadd, 1) := by decide +kernel
theorem d_Met_extend_24 : decode b_Met_extend 24 = .ok (.invokestatic 24, 3) := by decide +kernel
theorem d_Met_extend_27 : decode b_Met_extend 27 = .ok (.lstore 9, 2) := by decide +kernel
theorem d_Met_extend_29 : decode b_Met_extend 29 = .ok (.aload 7, 2) := by decide +kernel
theorem d_Met_extend_31 : decode b_Met_extend 31 = .ok (.iconst 0, 1) := by decide +kernel
theorem d_Met_extend_32 : decode b_Met_extend 32 = .ok (.aload 8, 2) := by decide +kernel
theorem d_Met_extend_34 : decode b_Met_extend 34 = .ok (.iconst 0, 1) := by decide +kernel
theorem d_Met_extend_35 : decode b_Met_extend 35 = .ok (.laload, 1) := by decide +kernel
theorem d_Met_extend_36 : decode b_Met_extend 36 = .ok (.lload_n 2, 1) := by decide +kernel
theorem d_Met_extend_37 : decode b_Met_extend 37 = .ok (.land, 1) := by decide +kernel
theorem d_Met_extend_38 : decode b_Met_extend 38 = .ok (.iconst 1, 1) := by decide +kernel
theorem d_Met_extend_39 : decode b_Met_extend 39 = .ok (.lshl, 1) := by decide +kernel
theorem d_Met_extend_40 : decode b_Met_extend 40 = .ok (.lastore, 1) := by decide +kernel
theorem d_Met_extend_41 : decode b_Met_extend 41 = .ok (.iconst 1, 1) := by decide +kernel
theorem d_Met_extend_42 : decode b_Met_extend 42 = .ok (.istore 11, 2) := by decide +kernel
theorem d_Met_extend_44 : decode b_Met_extend 44 = .ok (.iload 11, 2) := by decide +kernel
theorem d_Met_extend_46 : decode b_Met_extend 46 = .ok (.iload 6, 2) := by decide +kernel
theorem d_Met_extend_48 : decode b_Met_extend 48 = .ok (.if_icmp .gt 81, 3) := by decide +kernel
theorem d_Met_extend_51 : decode b_Met_extend 51 = .ok (.aload 8, 2) := by decide +kernel
theorem d_Met_extend_53 : decode b_Met_extend 53 = .ok (.iload 11, 2) := by decide +kernel
theorem d_Met_extend_55 : decode b_Met_extend 55 = .ok (.laload, 1) := by decide +kernel
theorem d_Met_extend_56 : decode b_Met_extend 56 = .ok (.lload_n 2, 1) := by decide +kernel
theorem d_Met_extend_57 : decode b_Met_extend 57 = .ok (.land, 1) := by decide +kernel
theorem d_Met_extend_58 : decode b_Met_extend 58 = .ok (.iconst 1, 1) := by decide +kernel
theorem d_Met_extend_59 : decode b_Met_extend 59 = .ok (.lshl, 1) := by decide +kernel
theorem d_Met_extend_60 : decode b_Met_extend 60 = .ok (.lstore 12, 2) := by decide +kernel
theorem d_Met_extend_62 : decode b_Met_extend 62 = .ok (.aload 8, 2) := by decide +kernel
theorem d_Met_extend_64 : decode b_Met_extend 64 = .ok (.iload 11, 2) := by decide +kernel
theorem d_Met_extend_66 : decode b_Met_extend 66 = .ok (.iconst 1, 1) := by decide +kernel
theorem d_Met_extend_67 : decode b_Met_extend 67 = .ok (.isub, 1) := by decide +kernel
theorem d_Met_extend_68 : decode b_Met_extend 68 = .ok (.laload, 1) := by decide +kernel
theorem d_Met_extend_69 : decode b_Met_extend 69 = .ok (.lstore 14, 2) := by decide +kernel
theorem d_Met_extend_71 : decode b_Met_extend 71 = .ok (.aload 7, 2) := by decide +kernel
theorem d_Met_extend_73 : decode b_Met_extend 73 = .ok (.iload 11, 2) := by decide +kernel
theorem d_Met_extend_75 : decode b_Met_extend 75 = .ok (.iconst 1, 1) := by decide +kernel
theorem d_Met_extend_76 : decode b_Met_extend 76 = .ok (.isub, 1) := by decide +kernel
theorem d_Met_extend_77 : decode b_Met_extend 77 = .ok (.laload, 1) := by decide +kernel
theorem d_Met_extend_78 : decode b_Met_extend 78 = .ok (.iconst 1, 1) := by decide +kernel
theorem d_Met_extend_79 : decode b_Met_extend 79 = .ok (.lshl, 1) := by decide +kernel
theorem d_Met_extend_80 : decode b_Met_extend 80 = .ok (.lstore 16, 2) := by decide +kernel
theorem d_Met_extend_82 : decode b_Met_extend 82 = .ok (.aload 8, 2) := by decide +kernel
theorem d_Met_extend_84 : decode b_Met_extend 84 = .ok (.iload 11, 2) := by decide +kernel
theorem d_Met_extend_86 : decode b_Met_extend 86 = .ok (.iconst 1, 1) := by decide +kernel
theorem d_Met_extend_87 : decode b_Met_extend 87 = .ok (.isub, 1) := by decide +kernel
theorem d_Met_extend_88 : decode b_Met_extend 88 = .ok (.laload, 1) := by decide +kernel
theorem d_Met_extend_89 : decode b_Met_extend 89 = .ok (.iconst 1, 1) := by decide +kernel
theorem d_Met_extend_90 : decode b_Met_extend 90 = .ok (.lshl, 1) := by decide +kernel
theorem d_Met_extend_91 : decode b_Met_extend 91 = .ok (.lstore 18, 2) := by decide +kernel
theorem d_Met_extend_93 : decode b_Met_extend 93 = .ok (.aload 7, 2) := by decide +kernel
theorem d_Met_extend_95 : decode b_Met_extend 95 = .ok (.iload 11, 2) := by decide +kernel
theorem d_Met_extend_97 : decode b_Met_extend 97 = .ok (.lload 12, 2) := by decide +kernel
theorem d_Met_extend_99 : decode b_Met_extend 99 = .ok (.lload 14, 2) := by decide +kernel
theorem d_Met_extend_101 : decode b_Met_extend 101 = .ok (.lor, 1) := by decide +kernel
theorem d_Met_extend_102 : decode b_Met_extend 102 = .ok (.lload 16, 2) := by decide +kernel
theorem d_Met_extend_104 : decode b_Met_extend 104 = .ok (.lor, 1) := by decide +kernel
theorem d_Met_extend_105 : decode b_Met_extend 105 = .ok (.lload 18, 2) := by decide +kernel
theorem d_Met_extend_107 : decode b_Met_extend 107 = .ok (.lor, 1) := by decide +kernel
theorem d_Met_extend_108 : decode b_Met_extend 108 = .ok (.aload_n 0, 1) := by decide +kernel
theorem d_Met_extend_109 : decode b_Met_extend 109 = .ok (.iload_n 1, 1) := by decide +kernel
theorem d_Met_extend_110 : decode b_Met_extend 110 = .ok (.iload 11, 2) := by decide +kernel
theorem d_Met_extend_112 : decode b_Met_extend 112 = .ok (.lload_n 2, 1) := by decide +kernel
theorem d_Met_extend_113 : decode b_Met_extend 113 = .ok (.lload 4, 2) := by decide +kernel
theorem d_Met_extend_115 : decode b_Met_extend 115 = .ok (.invokevirtual 65, 3) := by decide +kernel
theorem d_Met_extend_118 : decode b_Met_extend 118 = .ok (.lor, 1) := by decide +kernel
theorem d_Met_extend_119 : decode b_Met_extend 119 = .ok (.lload 9, 2) := by decide +kernel
theorem d_Met_extend_121 : decode b_Met_extend 121 = .ok (.land, 1) := by decide +kernel
theorem d_Met_extend_122 : decode b_Met_extend 122 = .ok (.lastore, 1) := by decide +kernel
theorem d_Met_extend_123 : decode b_Met_extend 123 = .ok (.iinc 11 1, 3) := by decide +kernel
theorem d_Met_extend_126 : decode b_Met_extend 126 = .ok (.goto (-82), 3) := by decide +kernel
theorem d_Met_extend_129 : decode b_Met_extend 129 = .ok (.return_, 1) := by decide +kernel
theorem d_Near_init_0 : decode b_Near_init 0 = .ok (.aload_n 0, 1) := by decide +kernel
theorem d_Near_init_1 : decode b_Near_init 1 = .ok (.invokespecial 3, 3) := by decide +kernel
theorem d_Near_init_4 : decode b_Near_init 4 = .ok (.aload_n 0, 1) := by decide +kernel
theorem d_Near_init_5 : decode b_Near_init 5 = .ok (.sipush 1000, 3) := by decide +kernel
theorem d_Near_init_8 : decode b_Near_init 8 = .ok (.newarray .byte, 2) := by decide +kernel
theorem d_Near_init_10 : decode b_Near_init 10 = .ok (.putfield 9, 3) := by decide +kernel
theorem d_Near_init_13 : decode b_Near_init 13 = .ok (.aload_n 0, 1) := by decide +kernel
theorem d_Near_init_14 : decode b_Near_init 14 = .ok (.iconst 4, 1) := by decide +kernel
theorem d_Near_init_15 : decode b_Near_init 15 = .ok (.newarray .int, 2) := by decide +kernel
theorem d_Near_init_17 : decode b_Near_init 17 = .ok (.putfield 15, 3) := by decide +kernel
theorem d_Near_init_20 : decode b_Near_init 20 = .ok (.return_, 1) := by decide +kernel
theorem d_Near_shareRoom_0 : decode b_Near_shareRoom 0 = .ok (.bipush 50, 2) := by decide +kernel
theorem d_Near_shareRoom_2 : decode b_Near_shareRoom 2 = .ok (.istore_n 1, 1) := by decide +kernel
theorem d_Near_shareRoom_3 : decode b_Near_shareRoom 3 = .ok (.iconst 0, 1) := by decide +kernel
theorem d_Near_shareRoom_4 : decode b_Near_shareRoom 4 = .ok (.istore_n 2, 1) := by decide +kernel
theorem d_Near_shareRoom_5 : decode b_Near_shareRoom 5 = .ok (.iload_n 2, 1) := by decide +kernel
theorem d_Near_shareRoom_6 : decode b_Near_shareRoom 6 = .ok (.iconst 3, 1) := by decide +kernel
theorem d_Near_shareRoom_7 : decode b_Near_shareRoom 7 = .ok (.if_icmp .gt 34, 3) := by decide +kernel
theorem d_Near_shareRoom_10 : decode b_Near_shareRoom 10 = .ok (.aload_n 0, 1) := by decide +kernel
theorem d_Near_shareRoom_11 : decode b_Near_shareRoom 11 = .ok (.getfield 15, 3) := by decide +kernel
theorem d_Near_shareRoom_14 : decode b_Near_shareRoom 14 = .ok (.iload_n 2, 1) := by decide +kernel
theorem d_Near_shareRoom_15 : decode b_Near_shareRoom 15 = .ok (.aload_n 0, 1) := by decide +kernel
theorem d_Near_shareRoom_16 : decode b_Near_shareRoom 16 = .ok (.getfield 15, 3) := by decide +kernel
theorem d_Near_shareRoom_19 : decode b_Near_shareRoom 19 = .ok (.iload_n 2, 1) := by decide +kernel
theorem d_Near_shareRoom_20 : decode b_Near_shareRoom 20 = .ok (.iaload, 1) := by decide +kernel
theorem d_Near_shareRoom_21 : decode b_Near_shareRoom 21 = .ok (.iload_n 1, 1) := by decide +kernel
theorem d_Near_shareRoom_22 : decode b_Near_shareRoom 22 = .ok (.invokestatic 43, 3) := by decide +kernel
theorem d_Near_shareRoom_25 : decode b_Near_shareRoom 25 = .ok (.iastore, 1) := by decide +kernel
theorem d_Near_shareRoom_26 : decode b_Near_shareRoom 26 = .ok (.iload_n 1, 1) := by decide +kernel
theorem d_Near_shareRoom_27 : decode b_Near_shareRoom 27 = .ok (.aload_n 0, 1) := by decide +kernel
theorem d_Near_shareRoom_28 : decode b_Near_shareRoom 28 = .ok (.getfield 15, 3) := by decide +kernel
theorem d_Near_shareRoom_31 : decode b_Near_shareRoom 31 = .ok (.iload_n 2, 1) := by decide +kernel
theorem d_Near_shareRoom_32 : decode b_Near_shareRoom 32 = .ok (.iaload, 1) := by decide +kernel
theorem d_Near_shareRoom_33 : decode b_Near_shareRoom 33 = .ok (.isub, 1) := by decide +kernel
theorem d_Near_shareRoom_34 : decode b_Near_shareRoom 34 = .ok (.istore_n 1, 1) := by decide +kernel
theorem d_Near_shareRoom_35 : decode b_Near_shareRoom 35 = .ok (.iinc 2 1, 3) := by decide +kernel
theorem d_Near_shareRoom_38 : decode b_Near_shareRoom 38 = .ok (.goto (-33), 3) := by decide +kernel
theorem d_Near_shareRoom_41 : decode b_Near_shareRoom 41 = .ok (.return_, 1) := by decide +kernel
theorem d_Pat_readPart_0 : decode b_Pat_readPart 0 = .ok (.lconst 1, 1) := by decide +kernel
theorem d_Pat_readPart_1 : decode b_Pat_readPart 1 = .ok (.aload_n 0, 1) := by decide +kernel
theorem d_Pat_readPart_2 : decode b_Pat_readPart 2 = .ok (.getfield 22, 3) := by decide +kernel
theorem d_Pat_readPart_5 : decode b_Pat_readPart 5 = .ok (.lshl, 1) := by decide +kernel
theorem d_Pat_readPart_6 : decode b_Pat_readPart 6 = .ok (.lstore_n 2, 1) := by decide +kernel
theorem d_Pat_readPart_7 : decode b_Pat_readPart 7 = .ok (.iload_n 1, 1) := by decide +kernel
theorem d_Pat_readPart_8 : decode b_Pat_readPart 8 = .ok (.bipush 42, 2) := by decide +kernel
theorem d_Pat_readPart_10 : decode b_Pat_readPart 10 = .ok (.if_icmp .ne 16, 3) := by decide +kernel
theorem d_Pat_readPart_13 : decode b_Pat_readPart 13 = .ok (.aload_n 0, 1) := by decide +kernel
theorem d_Pat_readPart_14 : decode b_Pat_readPart 14 = .ok (.dup, 1) := by decide +kernel
theorem d_Pat_readPart_15 : decode b_Pat_readPart 15 = .ok (.getfield 15, 3) := by decide +kernel
theorem d_Pat_readPart_18 : decode b_Pat_readPart 18 = .ok (.lload_n 2, 1) := by decide +kernel
theorem d_Pat_readPart_19 : decode b_Pat_readPart 19 = .ok (.lor, 1) := by decide +kernel
theorem d_Pat_readPart_20 : decode b_Pat_readPart 20 = .ok (.putfield 15, 3) := by decide +kernel
theorem d_Pat_readPart_23 : decode b_Pat_readPart 23 = .ok (.goto 32, 3) := by decide +kernel
theorem d_Pat_readPart_26 : decode b_Pat_readPart 26 = .ok (.iload_n 1, 1) := by decide +kernel
theorem d_Pat_readPart_27 : decode b_Pat_readPart 27 = .ok (.bipush 63, 2) := by decide +kernel
theorem d_Pat_readPart_29 : decode b_Pat_readPart 29 = .ok (.if_icmp .ne 16, 3) := by decide +kernel
theorem d_Pat_readPart_32 : decode b_Pat_readPart 32 = .ok (.aload_n 0, 1) := by decide +kernel
theorem d_Pat_readPart_33 : decode b_Pat_readPart 33 = .ok (.dup, 1) := by decide +kernel
theorem d_Pat_readPart_34 : decode b_Pat_readPart 34 = .ok (.getfield 19, 3) := by decide +kernel
theorem d_Pat_readPart_37 : decode b_Pat_readPart 37 = .ok (.lload_n 2, 1) := by decide +kernel
theorem d_Pat_readPart_38 : decode b_Pat_readPart 38 = .ok (.lor, 1) := by decide +kernel
theorem d_Pat_readPart_39 : decode b_Pat_readPart 39 = .ok (.putfield 19, 3) := by decide +kernel
theorem d_Pat_readPart_42 : decode b_Pat_readPart 42 = .ok (.goto 13, 3) := by decide +kernel
theorem d_Pat_readPart_45 : decode b_Pat_readPart 45 = .ok (.aload_n 0, 1) := by decide +kernel
theorem d_Pat_readPart_46 : decode b_Pat_readPart 46 = .ok (.getfield 9, 3) := by decide +kernel
theorem d_Pat_readPart_49 : decode b_Pat_readPart 49 = .ok (.iload_n 1, 1) := by decide +kernel
theorem d_Pat_readPart_50 : decode b_Pat_readPart 50 = .ok (.dup2, 1) := by decide +kernel
theorem d_Pat_readPart_51 : decode b_Pat_readPart 51 = .ok (.laload, 1) := by decide +kernel
theorem d_Pat_readPart_52 : decode b_Pat_readPart 52 = .ok (.lload_n 2, 1) := by decide +kernel
theorem d_Pat_readPart_53 : decode b_Pat_readPart 53 = .ok (.lor, 1) := by decide +kernel
theorem d_Pat_readPart_54 : decode b_Pat_readPart 54 = .ok (.lastore, 1) := by decide +kernel
theorem d_Pat_readPart_55 : decode b_Pat_readPart 55 = .ok (.aload_n 0, 1) := by decide +kernel
theorem d_Pat_readPart_56 : decode b_Pat_readPart 56 = .ok (.dup, 1) := by decide +kernel
theorem d_Pat_readPart_57 : decode b_Pat_readPart 57 = .ok (.getfield 22, 3) := by decide +kernel
theorem d_Pat_readPart_60 : decode b_Pat_readPart 60 = .ok (.iconst 1, 1) := by decide +kernel
theorem d_Pat_readPart_61 : decode b_Pat_readPart 61 = .ok (.iadd, 1) := by decide +kernel
theorem d_Pat_readPart_62 : decode b_Pat_readPart 62 = .ok (.putfield 22, 3) := by decide +kernel
theorem d_Pat_readPart_65 : decode b_Pat_readPart 65 = .ok (.return_, 1) := by decide +kernel
theorem d_Res_has_0 : decode b_Res_has 0 = .ok (.iload_n 1, 1) := by decide +kernel
theorem d_Res_has_1 : decode b_Res_has 1 = .ok (.ifCond .lt 15, 3) := by decide +kernel
theorem d_Res_has_4 : decode b_Res_has 4 = .ok (.iload_n 1, 1) := by decide +kernel
theorem d_Res_has_5 : decode b_Res_has 5 = .ok (.aload_n 0, 1) := by decide +kernel
theorem d_Res_has_6 : decode b_Res_has 6 = .ok (.getfield 23, 3) := by decide +kernel
theorem d_Res_has_9 : decode b_Res_has 9 = .ok (.if_icmp .ge 7, 3) := by decide +kernel
theorem d_Res_has_12 : decode b_Res_has 12 = .ok (.iconst 1, 1) := by decide +kernel
theorem d_Res_has_13 : decode b_Res_has 13 = .ok (.goto 4, 3) := by decide +kernel
theorem d_Res_has_16 : decode b_Res_has 16 = .ok (.iconst 0, 1) := by decide +kernel
theorem d_Res_has_17 : decode b_Res_has 17 = .ok (.ireturn, 1) := by decide +kernel
theorem d_Res_keep_0 : decode b_Res_keep 0 = .ok (.aload_n 0, 1) := by decide +kernel
theorem d_Res_keep_1 : decode b_Res_keep 1 = .ok (.getfield 23, 3) := by decide +kernel
theorem d_Res_keep_4 : decode b_Res_keep 4 = .ok (.bipush 50, 2) := by decide +kernel
theorem d_Res_keep_6 : decode b_Res_keep 6 = .ok (.if_icmp .ge 51, 3) := by decide +kernel
theorem d_Res_keep_9 : decode b_Res_keep 9 = .ok (.aload_n 1, 1) := by decide +kernel
theorem d_Res_keep_10 : decode b_Res_keep 10 = .ok (.aload_n 0, 1) := by decide +kernel
theorem d_Res_keep_11 : decode b_Res_keep 11 = .ok (.getfield 11, 3) := by decide +kernel
theorem d_Res_keep_14 : decode b_Res_keep 14 = .ok (.aload_n 0, 1) := by decide +kernel
theorem d_Res_keep_15 : decode b_Res_keep 15 = .ok (.getfield 23, 3) := by decide +kernel
theorem d_Res_keep_18 : decode b_Res_keep 18 = .ok (.aaload, 1) := by decide +kernel
theorem d_Res_keep_19 : decode b_Res_keep 19 = .ok (.iload_n 2, 1) := by decide +kernel
theorem d_Res_keep_20 : decode b_Res_keep 20 = .ok (.invokevirtual 27, 3) := by decide +kernel
theorem d_Res_keep_23 : decode b_Res_keep 23 = .ok (.aload_n 0, 1) := by decide +kernel
theorem d_Res_keep_24 : decode b_Res_keep 24 = .ok (.getfield 16, 3) := by decide +kernel
theorem d_Res_keep_27 : decode b_Res_keep 27 = .ok (.aload_n 0, 1) := by decide +kernel
theorem d_Res_keep_28 : decode b_Res_keep 28 = .ok (.getfield 23, 3) := by decide +kernel
theorem d_Res_keep_31 : decode b_Res_keep 31 = .ok (.aload_n 1, 1) := by decide +kernel
theorem d_Res_keep_32 : decode b_Res_keep 32 = .ok (.iload_n 2, 1) := by decide +kernel
theorem d_Res_keep_33 : decode b_Res_keep 33 = .ok (.invokevirtual 33, 3) := by decide +kernel
theorem d_Res_keep_36 : decode b_Res_keep 36 = .ok (.iastore, 1) := by decide +kernel
theorem d_Res_keep_37 : decode b_Res_keep 37 = .ok (.aload_n 0, 1) := by decide +kernel
theorem d_Res_keep_38 : decode b_Res_keep 38 = .ok (.getfield 20, 3) := by decide +kernel
theorem d_Res_keep_41 : decode b_Res_keep 41 = .ok (.aload_n 0, 1) := by decide +kernel
theorem d_Res_keep_42 : decode b_Res_keep 42 = .ok (.getfield 23, 3) := by decide +kernel
theorem d_Res_keep_45 : decode b_Res_keep 45 = .ok (.iload_n 3, 1) := by decide +kernel
theorem d_Res_keep_46 : decode b_Res_keep 46 = .ok (.iastore, 1) := by decide +kernel
theorem d_Res_keep_47 : decode b_Res_keep 47 = .ok (.aload_n 0, 1) := by decide +kernel
theorem d_Res_keep_48 : decode b_Res_keep 48 = .ok (.dup, 1) := by decide +kernel
theorem d_Res_keep_49 : decode b_Res_keep 49 = .ok (.getfield 23, 3) := by decide +kernel
theorem d_Res_keep_52 : decode b_Res_keep 52 = .ok (.iconst 1, 1) := by decide +kernel
theorem d_Res_keep_53 : decode b_Res_keep 53 = .ok (.iadd, 1) := by decide +kernel
theorem d_Res_keep_54 : decode b_Res_keep 54 = .ok (.putfield 23, 3) := by decide +kernel
theorem d_Res_keep_57 : decode b_Res_keep 57 = .ok (.return_, 1) := by decide +kernel
theorem d_Row_at_0 : decode b_Row_at 0 = .ok (.aload_n 0, 1) := by decide +kernel
theorem d_Row_at_1 : decode b_Row_at 1 = .ok (.getfield 9, 3) := by decide +kernel
theorem d_Row_at_4 : decode b_Row_at 4 = .ok (.iload_n 1, 1) := by decide +kernel
theorem d_Row_at_5 : decode b_Row_at 5 = .ok (.baload, 1) := by decide +kernel
theorem d_Row_at_6 : decode b_Row_at 6 = .ok (.ireturn, 1) := by decide +kernel
theorem d_WL_init_0 : decode b_WL_init 0 = .ok (.aload_n 0, 1) := by decide +kernel
theorem d_WL_init_1 : decode b_WL_init 1 = .ok (.invokespecial 3, 3) := by decide +kernel
theorem d_WL_init_4 : decode b_WL_init 4 = .ok (.aload_n 0, 1) := by decide +kernel
theorem d_WL_init_5 : decode b_WL_init 5 = .ok (.sipush 12000, 3) := by decide +kernel
theorem d_WL_init_8 : decode b_WL_init 8 = .ok (.newarray .byte, 2) := by decide +kernel
theorem d_WL_init_10 : decode b_WL_init 10 = .ok (.putfield 9, 3) := by decide +kernel
theorem d_WL_init_13 : decode b_WL_init 13 = .ok (.aload_n 0, 1) := by decide +kernel
theorem d_WL_init_14 : decode b_WL_init 14 = .ok (.sipush 1001, 3) := by decide +kernel
theorem d_WL_init_17 : decode b_WL_init 17 = .ok (.newarray .int, 2) := by decide +kernel
theorem d_WL_init_19 : decode b_WL_init 19 = .ok (.putfield 15, 3) := by decide +kernel
theorem d_WL_init_22 : decode b_WL_init 22 = .ok (.aload_n 0, 1) := by decide +kernel
theorem d_WL_init_23 : decode b_WL_init 23 = .ok (.iconst 0, 1) := by decide +kernel
theorem d_WL_init_24 : decode b_WL_init 24 = .ok (.putfield 19, 3) := by decide +kernel
theorem d_WL_init_27 : decode b_WL_init 27 = .ok (.return_, 1) := by decide +kernel
theorem d_WL_at_0 : decode b_WL_at 0 = .ok (.aload_n 0, 1) := by decide +kernel
theorem d_WL_at_1 : decode b_WL_at 1 = .ok (.getfield 9, 3) := by decide +kernel
theorem d_WL_at_4 : decode b_WL_at 4 = .ok (.aload_n 0, 1) := by decide +kernel
theorem d_WL_at_5 : decode b_WL_at 5 = .ok (.getfield 15, 3) := by decide +kernel
theorem d_WL_at_8 : decode b_WL_at 8 = .ok (.iload_n 1, 1) := by decide +kernel
theorem d_WL_at_9 : decode b_WL_at 9 = .ok (.iaload, 1) := by decide +kernel
theorem d_WL_at_10 : decode b_WL_at 10 = .ok (.iload_n 2, 1) := by decide +kernel
theorem d_WL_at_11 : decode b_WL_at 11 = .ok (.iadd, 1) := by decide +kernel
theorem d_WL_at_12 : decode b_WL_at 12 = .ok (.baload, 1) := by decide +kernel
theorem d_WL_at_13 : decode b_WL_at 13 = .ok (.ireturn, 1) := by decide +kernel
theorem d_WL_hasRoomFor_0 : decode b_WL_hasRoomFor 0 = .ok (.aload_n 0, 1) := by decide +kernel
theorem d_WL_hasRoomFor_1 : decode b_WL_hasRoomFor 1 = .ok (.getfield 19, 3) := by decide +kernel
theorem d_WL_hasRoomFor_4 : decode b_WL_hasRoomFor 4 = .ok (.sipush 1000, 3) := by decide +kernel
theorem d_WL_hasRoomFor_7 : decode b_WL_hasRoomFor 7 = .ok (.if_icmp .ge 22, 3) := by decide +kernel
theorem d_WL_hasRoomFor_10 : decode b_WL_hasRoomFor 10 = .ok (.aload_n 0, 1) := by decide +kernel
theorem d_WL_hasRoomFor_11 : decode b_WL_hasRoomFor 11 = .ok (.invokevirtual 37, 3) := by decide +kernel
theorem d_WL_hasRoomFor_14 : decode b_WL_hasRoomFor 14 = .ok (.aload_n 1, 1) := by decide +kernel
theorem d_WL_hasRoomFor_15 : decode b_WL_hasRoomFor 15 = .ok (.invokevirtual 40, 3) := by decide +kernel
theorem d_WL_hasRoomFor_18 : decode b_WL_hasRoomFor 18 = .ok (.iadd, 1) := by decide +kernel
theorem d_WL_hasRoomFor_19 : decode b_WL_hasRoomFor 19 = .ok (.sipush 12000, 3) := by decide +kernel
theorem d_WL_hasRoomFor_22 : decode b_WL_hasRoomFor 22 = .ok (.if_icmp .gt 7, 3) := by decide +kernel
theorem d_WL_hasRoomFor_25 : decode b_WL_hasRoomFor 25 = .ok (.iconst 1, 1) := by decide +kernel
theorem d_WL_hasRoomFor_26 : decode b_WL_hasRoomFor 26 = .ok (.goto 4, 3) := by decide +kernel
theorem d_WL_hasRoomFor_29 : decode b_WL_hasRoomFor 29 = .ok (.iconst 0, 1) := by decide +kernel
theorem d_WL_hasRoomFor_30 : decode b_WL_hasRoomFor 30 = .ok (.ireturn, 1) := by decide +kernel
theorem d_WL_compare_0 : decode b_WL_compare 0 = .ok (.aload_n 0, 1) := by decide +kernel
theorem d_WL_compare_1 : decode b_WL_compare 1 = .ok (.iload_n 1, 1) := by decide +kernel
theorem d_WL_compare_2 : decode b_WL_compare 2 = .ok (.invokevirtual 23, 3) := by decide +kernel
theorem d_WL_compare_5 : decode b_WL_compare 5 = .ok (.istore_n 3, 1) := by decide +kernel
theorem d_WL_compare_6 : decode b_WL_compare 6 = .ok (.iload_n 3, 1) := by decide +kernel
theorem d_WL_compare_7 : decode b_WL_compare 7 = .ok (.aload_n 2, 1) := by decide +kernel
theorem d_WL_compare_8 : decode b_WL_compare 8 = .ok (.invokevirtual 40, 3) := by decide +kernel
theorem d_WL_compare_11 : decode b_WL_compare 11 = .ok (.invokestatic 55, 3) := by decide +kernel
theorem d_WL_compare_14 : decode b_WL_compare 14 = .ok (.istore 4, 2) := by decide +kernel
theorem d_WL_compare_16 : decode b_WL_compare 16 = .ok (.iconst 0, 1) := by decide +kernel
theorem d_WL_compare_17 : decode b_WL_compare 17 = .ok (.istore 5, 2) := by decide +kernel
theorem d_WL_compare_19 : decode b_WL_compare 19 = .ok (.iload 5, 2) := by decide +kernel
theorem d_WL_compare_21 : decode b_WL_compare 21 = .ok (.iload 4, 2) := by decide +kernel
theorem d_WL_compare_23 : decode b_WL_compare 23 = .ok (.if_icmp .ge 40, 3) := by decide +kernel
theorem d_WL_compare_26 : decode b_WL_compare 26 = .ok (.aload_n 0, 1) := by decide +kernel
theorem d_WL_compare_27 : decode b_WL_compare 27 = .ok (.iload_n 1, 1) := by decide +kernel
theorem d_WL_compare_28 : decode b_WL_compare 28 = .ok (.iload 5, 2) := by decide +kernel
theorem d_WL_compare_30 : decode b_WL_compare 30 = .ok (.invokevirtual 58, 3) := by decide +kernel
theorem d_WL_compare_33 : decode b_WL_compare 33 = .ok (.aload_n 2, 1) := by decide +kernel
theorem d_WL_compare_34 : decode b_WL_compare 34 = .ok (.iload 5, 2) := by decide +kernel
theorem d_WL_compare_36 : decode b_WL_compare 36 = .ok (.invokevirtual 61, 3) := by decide +kernel
theorem d_WL_compare_39 : decode b_WL_compare 39 = .ok (.if_icmp .eq 18, 3) := by decide +kernel
theorem d_WL_compare_42 : decode b_WL_compare 42 = .ok (.aload_n 0, 1) := by decide +kernel
theorem d_WL_compare_43 : decode b_WL_compare 43 = .ok (.iload_n 1, 1) := by decide +kernel
theorem d_WL_compare_44 : decode b_WL_compare 44 = .ok (.iload 5, 2) := by decide +kernel
theorem d_WL_compare_46 : decode b_WL_compare 46 = .ok (.invokevirtual 58, 3) := by decide +kernel
theorem d_WL_compare_49 : decode b_WL_compare 49 = .ok (.aload_n 2, 1) := by decide +kernel
theorem d_WL_compare_50 : decode b_WL_compare 50 = .ok (.iload 5, 2) := by decide +kernel
theorem d_WL_compare_52 : decode b_WL_compare 52 = .ok (.invokevirtual 61, 3) := by decide +kernel
theorem d_WL_compare_55 : decode b_WL_compare 55 = .ok (.isub, 1) := by decide +kernel
theorem d_WL_compare_56 : decode b_WL_compare 56 = .ok (.ireturn, 1) := by decide +kernel
theorem d_WL_compare_57 : decode b_WL_compare 57 = .ok (.iinc 5 1, 3) := by decide +kernel
theorem d_WL_compare_60 : decode b_WL_compare 60 = .ok (.goto (-41), 3) := by decide +kernel
theorem d_WL_compare_63 : decode b_WL_compare 63 = .ok (.iload_n 3, 1) := by decide +kernel
theorem d_WL_compare_64 : decode b_WL_compare 64 = .ok (.aload_n 2, 1) := by decide +kernel
theorem d_WL_compare_65 : decode b_WL_compare 65 = .ok (.invokevirtual 40, 3) := by decide +kernel
theorem d_WL_compare_68 : decode b_WL_compare 68 = .ok (.isub, 1) := by decide +kernel
theorem d_WL_compare_69 : decode b_WL_compare 69 = .ok (.ireturn, 1) := by decide +kernel
theorem d_Law_near_0 : decode b_Law_near 0 = .ok (.aload_n 2, 1) := by decide +kernel
theorem d_Law_near_1 : decode b_Law_near 1 = .ok (.iconst 0, 1) := by decide +kernel
theorem d_Law_near_2 : decode b_Law_near 2 = .ok (.aload_n 0, 1) := by decide +kernel
theorem d_Law_near_3 : decode b_Law_near 3 = .ok (.iload_n 1, 1) := by decide +kernel
theorem d_Law_near_4 : decode b_Law_near 4 = .ok (.invokevirtual 24, 3) := by decide +kernel
theorem d_Law_near_7 : decode b_Law_near 7 = .ok (.i2l, 1) := by decide +kernel
theorem d_Law_near_8 : decode b_Law_near 8 = .ok (.lastore, 1) := by decide +kernel
theorem d_Law_near_9 : decode b_Law_near 9 = .ok (.goto 6, 3) := by decide +kernel
theorem d_Law_near_12 : decode b_Law_near 12 = .ok (.astore_n 3, 1) := by decide +kernel
theorem d_Law_near_13 : decode b_Law_near 13 = .ok (.iconst 1, 1) := by decide +kernel
theorem d_Law_near_14 : decode b_Law_near 14 = .ok (.ireturn, 1) := by decide +kernel
theorem d_Law_near_15 : decode b_Law_near 15 = .ok (.iconst 0, 1) := by decide +kernel
theorem d_Law_near_16 : decode b_Law_near 16 = .ok (.ireturn, 1) := by decide +kernel
theorem d_Arr_fillJ_0 : decode b_Arr_fillJ 0 = .ok (.iconst 0, 1) := by decide +kernel
theorem d_Arr_fillJ_1 : decode b_Arr_fillJ 1 = .ok (.istore_n 3, 1) := by decide +kernel
theorem d_Arr_fillJ_2 : decode b_Arr_fillJ 2 = .ok (.aload_n 0, 1) := by decide +kernel
theorem d_Arr_fillJ_3 : decode b_Arr_fillJ 3 = .ok (.arraylength, 1) := by decide +kernel
theorem d_Arr_fillJ_4 : decode b_Arr_fillJ 4 = .ok (.istore 4, 2) := by decide +kernel
theorem d_Arr_fillJ_6 : decode b_Arr_fillJ 6 = .ok (.iload_n 3, 1) := by decide +kernel
theorem d_Arr_fillJ_7 : decode b_Arr_fillJ 7 = .ok (.iload 4, 2) := by decide +kernel
theorem d_Arr_fillJ_9 : decode b_Arr_fillJ 9 = .ok (.if_icmp .ge 13, 3) := by decide +kernel
theorem d_Arr_fillJ_12 : decode b_Arr_fillJ 12 = .ok (.aload_n 0, 1) := by decide +kernel
theorem d_Arr_fillJ_13 : decode b_Arr_fillJ 13 = .ok (.iload_n 3, 1) := by decide +kernel
theorem d_Arr_fillJ_14 : decode b_Arr_fillJ 14 = .ok (.lload_n 1, 1) := by decide +kernel
theorem d_Arr_fillJ_15 : decode b_Arr_fillJ 15 = .ok (.lastore, 1) := by decide +kernel
theorem d_Arr_fillJ_16 : decode b_Arr_fillJ 16 = .ok (.iinc 3 1, 3) := by decide +kernel
theorem d_Arr_fillJ_19 : decode b_Arr_fillJ 19 = .ok (.goto (-13), 3) := by decide +kernel
theorem d_Arr_fillJ_22 : decode b_Arr_fillJ 22 = .ok (.return_, 1) := by decide +kernel
