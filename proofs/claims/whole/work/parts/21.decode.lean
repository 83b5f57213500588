theorem d_Row_length_0 : decode b_Row_length 0 = .ok (.aload_n 0, 1) := by decide +kernel
theorem d_Row_length_1 : decode b_Row_length 1 = .ok (.getfield 15, 3) := by decide +kernel
theorem d_Row_length_4 : decode b_Row_length 4 = .ok (.ireturn, 1) := by decide +kernel
theorem d_Row_isEmpty_0 : decode b_Row_isEmpty 0 = .ok (.aload_n 0, 1) := by decide +kernel
theorem d_Row_isEmpty_1 : decode b_Row_isEmpty 1 = .ok (.getfield 15, 3) := by decide +kernel
theorem d_Row_isEmpty_4 : decode b_Row_isEmpty 4 = .ok (.ifCond .ne 7, 3) := by decide +kernel
theorem d_Row_isEmpty_7 : decode b_Row_isEmpty 7 = .ok (.iconst 1, 1) := by decide +kernel
theorem d_Row_isEmpty_8 : decode b_Row_isEmpty 8 = .ok (.goto 4, 3) := by decide +kernel
theorem d_Row_isEmpty_11 : decode b_Row_isEmpty 11 = .ok (.iconst 0, 1) := by decide +kernel
theorem d_Row_isEmpty_12 : decode b_Row_isEmpty 12 = .ok (.ireturn, 1) := by decide +kernel
theorem d_Row_at_0 : decode b_Row_at 0 = .ok (.aload_n 0, 1) := by decide +kernel
theorem d_Row_at_1 : decode b_Row_at 1 = .ok (.getfield 9, 3) := by decide +kernel
theorem d_Row_at_4 : decode b_Row_at 4 = .ok (.iload_n 1, 1) := by decide +kernel
theorem d_Row_at_5 : decode b_Row_at 5 = .ok (.baload, 1) := by decide +kernel
theorem d_Row_at_6 : decode b_Row_at 6 = .ok (.ireturn, 1) := by decide +kernel
theorem d_Row_clear_0 : decode b_Row_clear 0 = .ok (.aload_n 0, 1) := by decide +kernel
theorem d_Row_clear_1 : decode b_Row_clear 1 = .ok (.iconst 0, 1) := by decide +kernel
theorem d_Row_clear_2 : decode b_Row_clear 2 = .ok (.putfield 15, 3) := by decide +kernel
theorem d_Row_clear_5 : decode b_Row_clear 5 = .ok (.return_, 1) := by decide +kernel
theorem d_Row_append_0 : decode b_Row_append 0 = .ok (.aload_n 0, 1) := by decide +kernel
theorem d_Row_append_1 : decode b_Row_append 1 = .ok (.getfield 15, 3) := by decide +kernel
theorem d_Row_append_4 : decode b_Row_append 4 = .ok (.bipush 60, 2) := by decide +kernel
theorem d_Row_append_6 : decode b_Row_append 6 = .ok (.if_icmp .ge 24, 3) := by decide +kernel
theorem d_Row_append_9 : decode b_Row_append 9 = .ok (.aload_n 0, 1) := by decide +kernel
theorem d_Row_append_10 : decode b_Row_append 10 = .ok (.getfield 9, 3) := by decide +kernel
theorem d_Row_append_13 : decode b_Row_append 13 = .ok (.aload_n 0, 1) := by decide +kernel
theorem d_Row_append_14 : decode b_Row_append 14 = .ok (.getfield 15, 3) := by decide +kernel
theorem d_Row_append_17 : decode b_Row_append 17 = .ok (.iload_n 1, 1) := by decide +kernel
theorem d_Row_append_18 : decode b_Row_append 18 = .ok (.i2b, 1) := by decide +kernel
theorem d_Row_append_19 : decode b_Row_append 19 = .ok (.bastore, 1) := by decide +kernel
theorem d_Row_append_20 : decode b_Row_append 20 = .ok (.aload_n 0, 1) := by decide +kernel
theorem d_Row_append_21 : decode b_Row_append 21 = .ok (.dup, 1) := by decide +kernel
theorem d_Row_append_22 : decode b_Row_append 22 = .ok (.getfield 15, 3) := by decide +kernel
theorem d_Row_append_25 : decode b_Row_append 25 = .ok (.iconst 1, 1) := by decide +kernel
theorem d_Row_append_26 : decode b_Row_append 26 = .ok (.iadd, 1) := by decide +kernel
theorem d_Row_append_27 : decode b_Row_append 27 = .ok (.putfield 15, 3) := by decide +kernel
theorem d_Row_append_30 : decode b_Row_append 30 = .ok (.return_, 1) := by decide +kernel
theorem d_Row_copyTo_0 : decode b_Row_copyTo 0 = .ok (.aload_n 0, 1) := by decide +kernel
theorem d_Row_copyTo_1 : decode b_Row_copyTo 1 = .ok (.getfield 9, 3) := by decide +kernel
theorem d_Row_copyTo_4 : decode b_Row_copyTo 4 = .ok (.iconst 0, 1) := by decide +kernel
theorem d_Row_copyTo_5 : decode b_Row_copyTo 5 = .ok (.aload_n 1, 1) := by decide +kernel
theorem d_Row_copyTo_6 : decode b_Row_copyTo 6 = .ok (.iload_n 2, 1) := by decide +kernel
theorem d_Row_copyTo_7 : decode b_Row_copyTo 7 = .ok (.aload_n 0, 1) := by decide +kernel
theorem d_Row_copyTo_8 : decode b_Row_copyTo 8 = .ok (.getfield 15, 3) := by decide +kernel
theorem d_Row_copyTo_11 : decode b_Row_copyTo 11 = .ok (.invokestatic 19, 3) := by decide +kernel
theorem d_Row_copyTo_14 : decode b_Row_copyTo 14 = .ok (.return_, 1) := by decide +kernel
theorem d_WL_size_0 : decode b_WL_size 0 = .ok (.aload_n 0, 1) := by decide +kernel
theorem d_WL_size_1 : decode b_WL_size 1 = .ok (.getfield 19, 3) := by decide +kernel
theorem d_WL_size_4 : decode b_WL_size 4 = .ok (.ireturn, 1) := by decide +kernel
theorem d_WL_characters_0 : decode b_WL_characters 0 = .ok (.aload_n 0, 1) := by decide +kernel
theorem d_WL_characters_1 : decode b_WL_characters 1 = .ok (.getfield 15, 3) := by decide +kernel
theorem d_WL_characters_4 : decode b_WL_characters 4 = .ok (.aload_n 0, 1) := by decide +kernel
theorem d_WL_characters_5 : decode b_WL_characters 5 = .ok (.getfield 19, 3) := by decide +kernel
theorem d_WL_characters_8 : decode b_WL_characters 8 = .ok (.iaload, 1) := by decide +kernel
theorem d_WL_characters_9 : decode b_WL_characters 9 = .ok (.ireturn, 1) := by decide +kernel
theorem d_WL_lengthOf_0 : decode b_WL_lengthOf 0 = .ok (.aload_n 0, 1) := by decide +kernel
theorem d_WL_lengthOf_1 : decode b_WL_lengthOf 1 = .ok (.getfield 15, 3) := by decide +kernel
theorem d_WL_lengthOf_4 : decode b_WL_lengthOf 4 = .ok (.iload_n 1, 1) := by decide +kernel
theorem d_WL_lengthOf_5 : decode b_WL_lengthOf 5 = .ok (.iconst 1, 1) := by decide +kernel
theorem d_WL_lengthOf_6 : decode b_WL_lengthOf 6 = .ok (.iadd, 1) := by decide +kernel
theorem d_WL_lengthOf_7 : decode b_WL_lengthOf 7 = .ok (.iaload, 1) := by decide +kernel
theorem d_WL_lengthOf_8 : decode b_WL_lengthOf 8 = .ok (.aload_n 0, 1) := by decide +kernel
theorem d_WL_lengthOf_9 : decode b_WL_lengthOf 9 = .ok (.getfield 15, 3) := by decide +kernel
theorem d_WL_lengthOf_12 : decode b_WL_lengthOf 12 = .ok (.iload_n 1, 1) := by decide +kernel
theorem d_WL_lengthOf_13 : decode b_WL_lengthOf 13 = .ok (.iaload, 1) := by decide +kernel
theorem d_WL_lengthOf_14 : decode b_WL_lengthOf 14 = .ok (.isub, 1) := by decide +kernel
theorem d_WL_lengthOf_15 : decode b_WL_lengthOf 15 = .ok (.ireturn, 1) := by decide +kernel
theorem d_WL_at_0 : decode b_WL_at 0 = .ok (.aload_n 0, 1) := by decide +kernel
theorem d_WL_at_1 : decode b_WL_at 1 = .ok (.getfield 9, 3) := by decide +kernel
theorem d_WL_at_4 : decode b_WL_at 4 = .ok (.aload_n 0, 1) := by decide +kernel
theorem d_WL_at_5 : decode b_WL_at 5 = .ok (.getfield 15, 3) := by decide +kernel
theorem d_WL_at_8 : decode b_WL_at 8 = .ok (.iload_n 1, 1) := by decide +kernel
theorem d_WL_at_9 : decode b_WL_at 9 = .ok (.iaload, 1) := by decide +kernel
theorem d_WL_at_10 : decode b_WL_at 10 = .ok (.iload_n 2, 1) := by decide +kernel
theorem d_WL_at_11 : decode b_WL_at 11 = .ok (.iadd, 1) := by decide +kernel
theorem d_WL_at_12 : decode b_WL_at 12 = .ok (.baload, 1) := by decide +kernel
theorem d_WL_at_13 : decode b_WL_at 13 = .ok (.ireturn, 1) := by decide +kernel
theorem d_WL_longest_0 : decode b_WL_longest 0 = .ok (.iconst 0, 1) := by decide +kernel
theorem d_WL_longest_1 : decode b_WL_longest 1 = .ok (.istore_n 1, 1) := by decide +kernel
theorem d_WL_longest_2 : decode b_WL_longest 2 = .ok (.iconst 0, 1) := by decide +kernel
theorem d_WL_longest_3 : decode b_WL_longest 3 = .ok (.istore_n 2, 1) := by decide +kernel
theorem d_WL_longest_4 : decode b_WL_longest 4 = .ok (.iload_n 2, 1) := by decide +kernel
theorem d_WL_longest_5 : decode b_WL_longest 5 = .ok (.aload_n 0, 1) := by decide +kernel
theorem d_WL_longest_6 : decode b_WL_longest 6 = .ok (.getfield 19, 3) := by decide +kernel
theorem d_WL_longest_9 : decode b_WL_longest 9 = .ok (.if_icmp .ge 19, 3) := by decide +kernel
theorem d_WL_longest_12 : decode b_WL_longest 12 = .ok (.iload_n 1, 1) := by decide +kernel
theorem d_WL_longest_13 : decode b_WL_longest 13 = .ok (.aload_n 0, 1) := by decide +kernel
theorem d_WL_longest_14 : decode b_WL_longest 14 = .ok (.iload_n 2, 1) := by decide +kernel
theorem d_WL_longest_15 : decode b_WL_longest 15 = .ok (.invokevirtual 23, 3) := by decide +kernel
theorem d_WL_longest_18 : decode b_WL_longest 18 = .ok (.invokestatic 27, 3) := by decide +kernel
theorem d_WL_longest_21 : decode b_WL_longest 21 = .ok (.istore_n 1, 1) := by decide +kernel
theorem d_WL_longest_22 : decode b_WL_longest 22 = .ok (.iinc 2 1, 3) := by decide +kernel
theorem d_WL_longest_25 : decode b_WL_longest 25 = .ok (.goto (-21), 3) := by decide +kernel
theorem d_WL_longest_28 : decode b_WL_longest 28 = .ok (.iload_n 1, 1) := by decide +kernel
theorem d_WL_longest_29 : decode b_WL_longest 29 = .ok (.ireturn, 1) := by decide +kernel
theorem d_WL_compare_0 : decode b_WL_compare 0 = .ok (.aload_n 0, 1) := by decide +kernel
theorem d_WL_compare_1 : decode b_WL_compare 1 = .ok (.iload_n 1, 1) := by decide +kernel
theorem d_WL_compare_2 : decode b_WL_compare 2 = .ok (.invokevirtual 23, 3) := by decide +kernel
theorem d_WL_compare_5 : decode b_WL_compare 5 = .ok (.istore_n 3, 1) := by decide +kernel
theorem d_WL_compare_6 : decode b_WL_compare 6 = .ok (.iload_n 3, 1) := by decide +kernel
theorem d_WL_compare_7 : decode b_WL_compare 7 = .ok (.aload_n 2, 1) := by decide +kernel
theorem d_WL_compare_8 : decode b_WL_compare 8 = .ok (.invokevirtual 40, 3) := by decide +kernel
theorem d_WL_compare_11 : decode b_WL_compare 11 = .ok (.invokestatic 55, 3) := by decide +kernel
theorem d_WL_compare_14 : decode b_WL_compare 14 = .ok (.istore 4, 2) := by decide +kernel
theorem d_WL_compare_16 : decode b_WL_compare 16 = .ok (.iconst 0, 1) := by decide +kernel
theorem d_WL_compare_17 : decode b_WL_compare 17 = .ok (.istore 5, 2) := by decide +kernel
theorem d_WL_compare_19 : decode b_WL_compare 19 = .ok (.iload 5, 2) := by decide +kernel
theorem d_WL_compare_21 : decode b_WL_compare 21 = .ok (.iload 4, 2) := by decide +kernel
theorem d_WL_compare_23 : decode b_WL_compare 23 = .ok (.if_icmp .ge 40, 3) := by decide +kernel
theorem d_WL_compare_26 : decode b_WL_compare 26 = .ok (.aload_n 0, 1) := by decide +kernel
theorem d_WL_compare_27 : decode b_WL_compare 27 = .ok (.iload_n 1, 1) := by decide +kernel
theorem d_WL_compare_28 : decode b_WL_compare 28 = .ok (.iload 5, 2) := by decide +kernel
theorem d_WL_compare_30 : decode b_WL_compare 30 = .ok (.invokevirtual 58, 3) := by decide +kernel
theorem d_WL_compare_33 : decode b_WL_compare 33 = .ok (.aload_n 2, 1) := by decide +kernel
theorem d_WL_compare_34 : decode b_WL_compare 34 = .ok (.iload 5, 2) := by decide +kernel
theorem d_WL_compare_36 : decode b_WL_compare 36 = .ok (.invokevirtual 61, 3) := by decide +kernel
theorem d_WL_compare_39 : decode b_WL_compare 39 = .ok (.if_icmp .eq 18, 3) := by decide +kernel
theorem d_WL_compare_42 : decode b_WL_compare 42 = .ok (.aload_n 0, 1) := by decide +kernel
theorem d_WL_compare_43 : decode b_WL_compare 43 = .ok (.iload_n 1, 1) := by decide +kernel
theorem d_WL_compare_44 : decode b_WL_compare 44 = .ok (.iload 5, 2) := by decide +kernel
theorem d_WL_compare_46 : decode b_WL_compare 46 = .ok (.invokevirtual 58, 3) := by decide +kernel
theorem d_WL_compare_49 : decode b_WL_compare 49 = .ok (.aload_n 2, 1) := by decide +kernel
theorem d_WL_compare_50 : decode b_WL_compare 50 = .ok (.iload 5, 2) := by decide +kernel
theorem d_WL_compare_52 : decode b_WL_compare 52 = .ok (.invokevirtual 61, 3) := by decide +kernel
theorem d_WL_compare_55 : decode b_WL_compare 55 = .ok (.isub, 1) := by decide +kernel
theorem d_WL_compare_56 : decode b_WL_compare 56 = .ok (.ireturn, 1) := by decide +kernel
theorem d_WL_compare_57 : decode b_WL_compare 57 = .ok (.iinc 5 1, 3) := by decide +kernel
theorem d_WL_compare_60 : decode b_WL_compare 60 = .ok (.goto (-41), 3) := by decide +kernel
theorem d_WL_compare_63 : decode b_WL_compare 63 = .ok (.iload_n 3, 1) := by decide +kernel
theorem d_WL_compare_64 : decode b_WL_compare 64 = .ok (.aload_n 2, 1) := by decide +kernel
theorem d_WL_compare_65 : decode b_WL_compare 65 = .ok (.invokevirtual 40, 3) := by decide +kernel
theorem d_WL_compare_68 : decode b_WL_compare 68 = .ok (.isub, 1) := by decide +kernel
theorem d_WL_compare_69 : decode b_WL_compare 69 = .ok (.ireturn, 1) := by decide +kernel
theorem d_WL_placeOf_0 : decode b_WL_placeOf 0 = .ok (.iconst 0, 1) := by decide +kernel
theorem d_WL_placeOf_1 : decode b_WL_placeOf 1 = .ok (.istore_n 2, 1) := by decide +kernel
theorem d_WL_placeOf_2 : decode b_WL_placeOf 2 = .ok (.sipush 512, 3) := by decide +kernel
theorem d_WL_placeOf_5 : decode b_WL_placeOf 5 = .ok (.istore_n 3, 1) := by decide +kernel
theorem d_WL_placeOf_6 : decode b_WL_placeOf 6 = .ok (.iload_n 3, 1) := by decide +kernel
theorem d_WL_placeOf_7 : decode b_WL_placeOf 7 = .ok (.ifCond .le 37, 3) := by decide +kernel
theorem d_WL_placeOf_10 : decode b_WL_placeOf 10 = .ok (.iload_n 2, 1) := by decide +kernel
theorem d_WL_placeOf_11 : decode b_WL_placeOf 11 = .ok (.iload_n 3, 1) := by decide +kernel
theorem d_WL_placeOf_12 : decode b_WL_placeOf 12 = .ok (.iadd, 1) := by decide +kernel
theorem d_WL_placeOf_13 : decode b_WL_placeOf 13 = .ok (.aload_n 0, 1) := by decide +kernel
theorem d_WL_placeOf_14 : decode b_WL_placeOf 14 = .ok (.getfield 19, 3) := by decide +kernel
theorem d_WL_placeOf_17 : decode b_WL_placeOf 17 = .ok (.if_icmp .gt 20, 3) := by decide +kernel
theorem d_WL_placeOf_20 : decode b_WL_placeOf 20 = .ok (.aload_n 0, 1) := by decide +kernel
theorem d_WL_placeOf_21 : decode b_WL_placeOf 21 = .ok (.iload_n 2, 1) := by decide +kernel
theorem d_WL_placeOf_22 : decode b_WL_placeOf 22 = .ok (.iload_n 3, 1) := by decide +kernel
theorem d_WL_placeOf_23 : decode b_WL_placeOf 23 = .ok (.iadd, 1) := by decide +kernel
theorem d_WL_placeOf_24 : decode b_WL_placeOf 24 = .ok (.iconst 1, 1) := by decide +kernel
theorem d_WL_placeOf_25 : decode b_WL_placeOf 25 = .ok (.isub, 1) := by decide +kernel
theorem d_WL_placeOf_26 : decode b_WL_placeOf 26 = .ok (.aload_n 1, 1) := by decide +kernel
theorem d_WL_placeOf_27 : decode b_WL_placeOf 27 = .ok (.invokevirtual 33, 3) := by decide +kernel
theorem d_WL_placeOf_30 : decode b_WL_placeOf 30 = .ok (.ifCond .ge 7, 3) := by decide +kernel
theorem d_WL_placeOf_33 : decode b_WL_placeOf 33 = .ok (.iload_n 2, 1) := by decide +kernel
theorem d_WL_placeOf_34 : decode b_WL_placeOf 34 = .ok (.iload_n 3, 1) := by decide +kernel
theorem d_WL_placeOf_35 : decode b_WL_placeOf 35 = .ok (.iadd, 1) := by decide +kernel
theorem d_WL_placeOf_36 : decode b_WL_placeOf 36 = .ok (.istore_n 2, 1) := by decide +kernel
theorem d_WL_placeOf_37 : decode b_WL_placeOf 37 = .ok (.iload_n 3, 1) := by decide +kernel
theorem d_WL_placeOf_38 : decode b_WL_placeOf 38 = .ok (.iconst 2, 1) := by decide +kernel
theorem d_WL_placeOf_39 : decode b_WL_placeOf 39 = .ok (.idiv, 1) := by decide +kernel
theorem d_WL_placeOf_40 : decode b_WL_placeOf 40 = .ok (.istore_n 3, 1) := by decide +kernel
theorem d_WL_placeOf_41 : decode b_WL_placeOf 41 = .ok (.goto (-35), 3) := by decide +kernel
theorem d_WL_placeOf_44 : decode b_WL_placeOf 44 = .ok (.iload_n 2, 1) := by decide +kernel
theorem d_WL_placeOf_45 : decode b_WL_placeOf 45 = .ok (.ireturn, 1) := by decide +kernel
theorem d_WL_isAt_0 : decode b_WL_isAt 0 = .ok (.iload_n 1, 1) := by decide +kernel
theorem d_WL_isAt_1 : decode b_WL_isAt 1 = .ok (.aload_n 0, 1) := by decide +kernel
theorem d_WL_isAt_2 : decode b_WL_isAt 2 = .ok (.getfield 19, 3) := by decide +kernel
theorem d_WL_isAt_5 : decode b_WL_isAt 5 = .ok (.if_icmp .ge 16, 3) := by decide +kernel
theorem d_WL_isAt_8 : decode b_WL_isAt 8 = .ok (.aload_n 0, 1) := by decide +kernel
theorem d_WL_isAt_9 : decode b_WL_isAt 9 = .ok (.iload_n 1, 1) := by decide +kernel
theorem d_WL_isAt_10 : decode b_WL_isAt 10 = .ok (.aload_n 2, 1) := by decide +kernel
theorem d_WL_isAt_11 : decode b_WL_isAt 11 = .ok (.invokevirtual 33, 3) := by decide +kernel
theorem d_WL_isAt_14 : decode b_WL_isAt 14 = .ok (.ifCond .ne 7, 3) := by decide +kernel
theorem d_WL_isAt_17 : decode b_WL_isAt 17 = .ok (.iconst 1, 1) := by decide +kernel
theorem d_WL_isAt_18 : decode b_WL_isAt 18 = .ok (.goto 4, 3) := by decide +kernel
theorem d_WL_isAt_21 : decode b_WL_isAt 21 = .ok (.iconst 0, 1) := by decide +kernel
theorem d_WL_isAt_22 : decode b_WL_isAt 22 = .ok (.ireturn, 1) := by decide +kernel
theorem d_WL_hasRoomFor_0 : decode b_WL_hasRoomFor 0 = .ok (.aload_n 0, 1) := by decide +kernel
theorem d_WL_hasRoomFor_1 : decode b_WL_hasRoomFor 1 = .ok (.getfield 19, 3) := by decide +kernel
theorem d_WL_hasRoomFor_4 : decode b_WL_hasRoomFor 4 = .ok (.sipush 1000, 3) := by decide +kernel
theorem d_WL_hasRoomFor_7 : decode b_WL_hasRoomFor 7 = .ok (.if_icmp .ge 22, 3) := by decide +kernel
theorem d_WL_hasRoomFor_10 : decode b_WL_hasRoomFor 10 = .ok (.aload_n 0, 1) := by decide +kernel
theorem d_WL_hasRoomFor_11 : decode b_WL_hasRoomFor 11 = .ok (.invokevirtual 37, 3) := by decide +kernel
theorem d_WL_hasRoomFor_14 : decode b_WL_hasRoomFor 14 = .ok (.aload_n 1, 1) := by decide +kernel
theorem d_WL_hasRoomFor_15 : decode b_WL_hasRoomFor 15 = .ok (.invokevirtual 40, 3) := by decide +kernel
theorem d_WL_hasRoomFor_18 : decode b_WL_hasRoomFor 18 = .ok (.iadd, 1) := by decide +kernel
theorem d_WL_hasRoomFor_19 : decode b_WL_hasRoomFor 19 = .ok (.sipush 12000, 3) := by decide +kernel
theorem d_WL_hasRoomFor_22 : decode b_WL_hasRoomFor 22 = .ok (.if_icmp .gt 7, 3) := by decide +kernel
theorem d_WL_hasRoomFor_25 : decode b_WL_hasRoomFor 25 = .ok (.iconst 1, 1) := by decide +kernel
theorem d_WL_hasRoomFor_26 : decode b_WL_hasRoomFor 26 = .ok (.goto 4, 3) := by decide +kernel
theorem d_WL_hasRoomFor_29 : decode b_WL_hasRoomFor 29 = .ok (.iconst 0, 1) := by decide +kernel
theorem d_WL_hasRoomFor_30 : decode b_WL_hasRoomFor 30 = .ok (.ireturn, 1) := by decide +kernel
theorem d_WL_insertAt_0 : decode b_WL_insertAt 0 = .ok (.aload_n 0, 1) := by decide +kernel
theorem d_WL_insertAt_1 : decode b_WL_insertAt 1 = .ok (.getfield 15, 3) := by decide +kernel
theorem d_WL_insertAt_4 : decode b_WL_insertAt 4 = .ok (.iload_n 1, 1) := by decide +kernel
theorem d_WL_insertAt_5 : decode b_WL_insertAt 5 = .ok (.iaload, 1) := by decide +kernel
theorem d_WL_insertAt_6 : decode b_WL_insertAt 6 = .ok (.istore_n 3, 1) := by decide +kernel
theorem d_WL_insertAt_7 : decode b_WL_insertAt 7 = .ok (.aload_n 2, 1) := by decide +kernel
theorem d_WL_insertAt_8 : decode b_WL_insertAt 8 = .ok (.invokevirtual 40, 3) := by decide +kernel
theorem d_WL_insertAt_11 : decode b_WL_insertAt 11 = .ok (.istore 4, 2) := by decide +kernel
theorem d_WL_insertAt_13 : decode b_WL_insertAt 13 = .ok (.aload_n 0, 1) := by decide +kernel
theorem d_WL_insertAt_14 : decode b_WL_insertAt 14 = .ok (.getfield 9, 3) := by decide +kernel
theorem d_WL_insertAt_17 : decode b_WL_insertAt 17 = .ok (.iload_n 3, 1) := by decide +kernel
theorem d_WL_insertAt_18 : decode b_WL_insertAt 18 = .ok (.aload_n 0, 1) := by decide +kernel
theorem d_WL_insertAt_19 : decode b_WL_insertAt 19 = .ok (.getfield 9, 3) := by decide +kernel
theorem d_WL_insertAt_22 : decode b_WL_insertAt 22 = .ok (.iload_n 3, 1) := by decide +kernel
theorem d_WL_insertAt_23 : decode b_WL_insertAt 23 = .ok (.iload 4, 2) := by decide +kernel
theorem d_WL_insertAt_25 : decode b_WL_insertAt 25 = .ok (.iadd, 1) := by decide +kernel
theorem d_WL_insertAt_26 : decode b_WL_insertAt 26 = .ok (.aload_n 0, 1) := by decide +kernel
theorem d_WL_insertAt_27 : decode b_WL_insertAt 27 = .ok (.invokevirtual 37, 3) := by decide +kernel
theorem d_WL_insertAt_30 : decode b_WL_insertAt 30 = .ok (.iload_n 3, 1) := by decide +kernel
theorem d_WL_insertAt_31 : decode b_WL_insertAt 31 = .ok (.isub, 1) := by decide +kernel
theorem d_WL_insertAt_32 : decode b_WL_insertAt 32 = .ok (.invokestatic 45, 3) := by decide +kernel
theorem d_WL_insertAt_35 : decode b_WL_insertAt 35 = .ok (.aload_n 2, 1) := by decide +kernel
theorem d_WL_insertAt_36 : decode b_WL_insertAt 36 = .ok (.aload_n 0, 1) := by decide +kernel
theorem d_WL_insertAt_37 : decode b_WL_insertAt 37 = .ok (.getfield 9, 3) := by decide +kernel
theorem d_WL_insertAt_40 : decode b_WL_insertAt 40 = .ok (.iload_n 3, 1) := by decide +kernel
theorem d_WL_insertAt_41 : decode b_WL_insertAt 41 = .ok (.invokevirtual 51, 3) := by decide +kernel
theorem d_WL_insertAt_44 : decode b_WL_insertAt 44 = .ok (.aload_n 0, 1) := by decide +kernel
theorem d_WL_insertAt_45 : decode b_WL_insertAt 45 = .ok (.getfield 19, 3) := by decide +kernel
theorem d_WL_insertAt_48 : decode b_WL_insertAt 48 = .ok (.istore 5, 2) := by decide +kernel
theorem d_WL_insertAt_50 : decode b_WL_insertAt 50 = .ok (.iload 5, 2) := by decide +kernel
theorem d_WL_insertAt_52 : decode b_WL_insertAt 52 = .ok (.iload_n 1, 1) := by decide +kernel
theorem d_WL_insertAt_53 : decode b_WL_insertAt 53 = .ok (.if_icmp .lt 28, 3) := by decide +kernel
theorem d_WL_insertAt_56 : decode b_WL_insertAt 56 = .ok (.aload_n 0, 1) := by decide +kernel
theorem d_WL_insertAt_57 : decode b_WL_insertAt 57 = .ok (.getfield 15, 3) := by decide +kernel
theorem d_WL_insertAt_60 : decode b_WL_insertAt 60 = .ok (.iload 5, 2) := by decide +kernel
theorem d_WL_insertAt_62 : decode b_WL_insertAt 62 = .ok (.iconst 1, 1) := by decide +kernel
theorem d_WL_insertAt_63 : decode b_WL_insertAt 63 = .ok (.iadd, 1) := by decide +kernel
theorem d_WL_insertAt_64 : decode b_WL_insertAt 64 = .ok (.aload_n 0, 1) := by decide +kernel
theorem d_WL_insertAt_65 : decode b_WL_insertAt 65 = .ok (.getfield 15, 3) := by decide +kernel
theorem d_WL_insertAt_68 : decode b_WL_insertAt 68 = .ok (.iload 5, 2) := by decide +kernel
theorem d_WL_insertAt_70 : decode b_WL_insertAt 70 = .ok (.iaload, 1) := by decide +kernel
theorem d_WL_insertAt_71 : decode b_WL_insertAt 71 = .ok (.iload 4, 2) := by decide +kernel
theorem d_WL_insertAt_73 : decode b_WL_insertAt 73 = .ok (.iadd, 1) := by decide +kernel
theorem d_WL_insertAt_74 : decode b_WL_insertAt 74 = .ok (.iastore, 1) := by decide +kernel
theorem d_WL_insertAt_75 : decode b_WL_insertAt 75 = .ok (.iinc 5 (-1), 3) := by decide +kernel
theorem d_WL_insertAt_78 : decode b_WL_insertAt 78 = .ok (.goto (-28), 3) := by decide +kernel
theorem d_WL_insertAt_81 : decode b_WL_insertAt 81 = .ok (.aload_n 0, 1) := by decide +kernel
theorem d_WL_insertAt_82 : decode b_WL_insertAt 82 = .ok (.dup, 1) := by decide +kernel
theorem d_WL_insertAt_83 : decode b_WL_insertAt 83 = .ok (.getfield 19, 3) := by decide +kernel
theorem d_WL_insertAt_86 : decode b_WL_insertAt 86 = .ok (.iconst 1, 1) := by decide +kernel
theorem d_WL_insertAt_87 : decode b_WL_insertAt 87 = .ok (.iadd, 1) := by decide +kernel
theorem d_WL_insertAt_88 : decode b_WL_insertAt 88 = .ok (.putfield 19, 3) := by decide +kernel
theorem d_WL_insertAt_91 : decode b_WL_insertAt 91 = .ok (.return_, 1) := by decide +kernel
theorem d_WL_deleteAt_0 : decode b_WL_deleteAt 0 = .ok (.aload_n 0, 1) := by decide +kernel
theorem d_WL_deleteAt_1 : decode b_WL_deleteAt 1 = .ok (.getfield 15, 3) := by decide +kernel
theorem d_WL_deleteAt_4 : decode b_WL_deleteAt 4 = .ok (.iload_n 1, 1) := by decide +kernel
theorem d_WL_deleteAt_5 : decode b_WL_deleteAt 5 = .ok (.iaload, 1) := by decide +kernel
theorem d_WL_deleteAt_6 : decode b_WL_deleteAt 6 = .ok (.istore_n 2, 1) := by decide +kernel
theorem d_WL_deleteAt_7 : decode b_WL_deleteAt 7 = .ok (.aload_n 0, 1) := by decide +kernel
theorem d_WL_deleteAt_8 : decode b_WL_deleteAt 8 = .ok (.getfield 15, 3) := by decide +kernel
theorem d_WL_deleteAt_11 : decode b_WL_deleteAt 11 = .ok (.iload_n 1, 1) := by decide +kernel
theorem d_WL_deleteAt_12 : decode b_WL_deleteAt 12 = .ok (.iconst 1, 1) := by decide +kernel
theorem d_WL_deleteAt_13 : decode b_WL_deleteAt 13 = .ok (.iadd, 1) := by decide +kernel
theorem d_WL_deleteAt_14 : decode b_WL_deleteAt 14 = .ok (.iaload, 1) := by decide +kernel
theorem d_WL_deleteAt_15 : decode b_WL_deleteAt 15 = .ok (.istore_n 3, 1) := by decide +kernel
theorem d_WL_deleteAt_16 : decode b_WL_deleteAt 16 = .ok (.aload_n 0, 1) := by decide +kernel
theorem d_WL_deleteAt_17 : decode b_WL_deleteAt 17 = .ok (.getfield 9, 3) := by decide +kernel
theorem d_WL_deleteAt_20 : decode b_WL_deleteAt 20 = .ok (.iload_n 3, 1) := by decide +kernel
theorem d_WL_deleteAt_21 : decode b_WL_deleteAt 21 = .ok (.aload_n 0, 1) := by decide +kernel
theorem d_WL_deleteAt_22 : decode b_WL_deleteAt 22 = .ok (.getfield 9, 3) := by decide +kernel
theorem d_WL_deleteAt_25 : decode b_WL_deleteAt 25 = .ok (.iload_n 2, 1) := by decide +kernel
theorem d_WL_deleteAt_26 : decode b_WL_deleteAt 26 = .ok (.aload_n 0, 1) := by decide +kernel
theorem d_WL_deleteAt_27 : decode b_WL_deleteAt 27 = .ok (.invokevirtual 37, 3) := by decide +kernel
theorem d_WL_deleteAt_30 : decode b_WL_deleteAt 30 = .ok (.iload_n 3, 1) := by decide +kernel
theorem d_WL_deleteAt_31 : decode b_WL_deleteAt 31 = .ok (.isub, 1) := by decide +kernel
theorem d_WL_deleteAt_32 : decode b_WL_deleteAt 32 = .ok (.invokestatic 45, 3) := by decide +kernel
theorem d_WL_deleteAt_35 : decode b_WL_deleteAt 35 = .ok (.iload_n 1, 1) := by decide +kernel
theorem d_WL_deleteAt_36 : decode b_WL_deleteAt 36 = .ok (.istore 4, 2) := by decide +kernel
theorem d_WL_deleteAt_38 : decode b_WL_deleteAt 38 = .ok (.iload 4, 2) := by decide +kernel
theorem d_WL_deleteAt_40 : decode b_WL_deleteAt 40 = .ok (.aload_n 0, 1) := by decide +kernel
theorem d_WL_deleteAt_41 : decode b_WL_deleteAt 41 = .ok (.getfield 19, 3) := by decide +kernel
theorem d_WL_deleteAt_44 : decode b_WL_deleteAt 44 = .ok (.if_icmp .ge 29, 3) := by decide +kernel
theorem d_WL_deleteAt_47 : decode b_WL_deleteAt 47 = .ok (.aload_n 0, 1) := by decide +kernel
theorem d_WL_deleteAt_48 : decode b_WL_deleteAt 48 = .ok (.getfield 15, 3) := by decide +kernel
theorem d_WL_deleteAt_51 : decode b_WL_deleteAt 51 = .ok (.iload 4, 2) := by decide +kernel
theorem d_WL_deleteAt_53 : decode b_WL_deleteAt 53 = .ok (.aload_n 0, 1) := by decide +kernel
theorem d_WL_deleteAt_54 : decode b_WL_deleteAt 54 = .ok (.getfield 15, 3) := by decide +kernel
theorem d_WL_deleteAt_57 : decode b_WL_deleteAt 57 = .ok (.iload 4, 2) := by decide +kernel
theorem d_WL_deleteAt_59 : decode b_WL_deleteAt 59 = .ok (.iconst 1, 1) := by decide +kernel
theorem d_WL_deleteAt_60 : decode b_WL_deleteAt 60 = .ok (.iadd, 1) := by decide +kernel
theorem d_WL_deleteAt_61 : decode b_WL_deleteAt 61 = .ok (.iaload, 1) := by decide +kernel
theorem d_WL_deleteAt_62 : decode b_WL_deleteAt 62 = .ok (.iload_n 3, 1) := by decide +kernel
theorem d_WL_deleteAt_63 : decode b_WL_deleteAt 63 = .ok (.iload_n 2, 1) := by decide +kernel
theorem d_WL_deleteAt_64 : decode b_WL_deleteAt 64 = .ok (.isub, 1) := by decide +kernel
theorem d_WL_deleteAt_65 : decode b_WL_deleteAt 65 = .ok (.isub, 1) := by decide +kernel
theorem d_WL_deleteAt_66 : decode b_WL_deleteAt 66 = .ok (.iastore, 1) := by decide +kernel
theorem d_WL_deleteAt_67 : decode b_WL_deleteAt 67 = .ok (.iinc 4 1, 3) := by decide +kernel
theorem d_WL_deleteAt_70 : decode b_WL_deleteAt 70 = .ok (.goto (-32), 3) := by decide +kernel
theorem d_WL_deleteAt_73 : decode b_WL_deleteAt 73 = .ok (.aload_n 0, 1) := by decide +kernel
theorem d_WL_deleteAt_74 : decode b_WL_deleteAt 74 = .ok (.dup, 1) := by decide +kernel
theorem d_WL_deleteAt_75 : decode b_WL_deleteAt 75 = .ok (.getfield 19, 3) := by decide +kernel
theorem d_WL_deleteAt_78 : decode b_WL_deleteAt 78 = .ok (.iconst 1, 1) := by decide +kernel
theorem d_WL_deleteAt_79 : decode b_WL_deleteAt 79 = .ok (.isub, 1) := by decide +kernel
theorem d_WL_deleteAt_80 : decode b_WL_deleteAt 80 = .ok (.putfield 19, 3) := by decide +kernel
theorem d_WL_deleteAt_83 : decode b_WL_deleteAt 83 = .ok (.return_, 1) := by decide +kernel
theorem d_Arr_fillJ_0 : decode b_Arr_fillJ 0 = .ok (.iconst 0, 1) := by decide +kernel
theorem d_Arr_fillJ_1 : decode b_Arr_fillJ 1 = .ok (.istore_n 3, 1) := by decide +kernel
theorem d_Arr_fillJ_2 : decode b_Arr_fillJ 2 = .ok (.aload_n 0, 1) := by decide +kernel
theorem d_Arr_fillJ_3 : decode b_Arr_fillJ 3 = .ok (.arraylength, 1) := by decide +kernel
theorem d_Arr_fillJ_4 : decode b_Arr_fillJ 4 = .ok (.istore 4, 2) := by decide +kernel
theorem d_Arr_fillJ_6 : decode b_Arr_fillJ 6 = .ok (.iload_n 3, 1) := by decide +kernel
theorem d_Arr_fillJ_7 : decode b_Arr_fillJ 7 = .ok (.iload 4, 2) := by decide +kernel
theorem d_Arr_fillJ_9 : decode b_Arr_fillJ 9 = .ok (.if_icmp .ge 13, 3) := by decide +kernel
theorem d_Arr_fillJ_12 : decode b_Arr_fillJ 12 = .ok (.aload_n 0, 1) := by decide +kernel
theorem d_Arr_fillJ_13 : decode b_Arr_fillJ 13 = .ok (.iload_n 3, 1) := by decide +kernel
theorem d_Arr_fillJ_14 : decode b_Arr_fillJ 14 = .ok (.lload_n 1, 1) := by decide +kernel
theorem d_Arr_fillJ_15 : decode b_Arr_fillJ 15 = .ok (.lastore, 1) := by decide +kernel
theorem d_Arr_fillJ_16 : decode b_Arr_fillJ 16 = .ok (.iinc 3 1, 3) := by decide +kernel
theorem d_Arr_fillJ_19 : decode b_Arr_fillJ 19 = .ok (.goto (-13), 3) := by decide +kernel
theorem d_Arr_fillJ_22 : decode b_Arr_fillJ 22 = .ok (.return_, 1) := by decide +kernel
theorem d_Arr_fillI_0 : decode b_Arr_fillI 0 = .ok (.iconst 0, 1) := by decide +kernel
theorem d_Arr_fillI_1 : decode b_Arr_fillI 1 = .ok (.istore_n 2, 1) := by decide +kernel
theorem d_Arr_fillI_2 : decode b_Arr_fillI 2 = .ok (.aload_n 0, 1) := by decide +kernel
theorem d_Arr_fillI_3 : decode b_Arr_fillI 3 = .ok (.arraylength, 1) := by decide +kernel
theorem d_Arr_fillI_4 : decode b_Arr_fillI 4 = .ok (.istore_n 3, 1) := by decide +kernel
theorem d_Arr_fillI_5 : decode b_Arr_fillI 5 = .ok (.iload_n 2, 1) := by decide +kernel
theorem d_Arr_fillI_6 : decode b_Arr_fillI 6 = .ok (.iload_n 3, 1) := by decide +kernel
theorem d_Arr_fillI_7 : decode b_Arr_fillI 7 = .ok (.if_icmp .ge 13, 3) := by decide +kernel
theorem d_Arr_fillI_10 : decode b_Arr_fillI 10 = .ok (.aload_n 0, 1) := by decide +kernel
theorem d_Arr_fillI_11 : decode b_Arr_fillI 11 = .ok (.iload_n 2, 1) := by decide +kernel
theorem d_Arr_fillI_12 : decode b_Arr_fillI 12 = .ok (.iload_n 1, 1) := by decide +kernel
theorem d_Arr_fillI_13 : decode b_Arr_fillI 13 = .ok (.iastore, 1) := by decide +kernel
theorem d_Arr_fillI_14 : decode b_Arr_fillI 14 = .ok (.iinc 2 1, 3) := by decide +kernel
theorem d_Arr_fillI_17 : decode b_Arr_fillI 17 = .ok (.goto (-12), 3) := by decide +kernel
theorem d_Arr_fillI_20 : decode b_Arr_fillI 20 = .ok (.return_, 1) := by decide +kernel
theorem d_Row_init_0 : decode b_Row_init 0 = .ok (.aload_n 0, 1) := by decide +kernel
theorem d_Row_init_1 : decode b_Row_init 1 = .ok (.invokespecial 3, 3) := by decide +kernel
theorem d_Row_init_4 : decode b_Row_init 4 = .ok (.aload_n 0, 1) := by decide +kernel
theorem d_Row_init_5 : decode b_Row_init 5 = .ok (.bipush 60, 2) := by decide +kernel
theorem d_Row_init_7 : decode b_Row_init 7 = .ok (.newarray .byte, 2) := by decide +kernel
theorem d_Row_init_9 : decode b_Row_init 9 = .ok (.putfield 9, 3) := by decide +kernel
theorem d_Row_init_12 : decode b_Row_init 12 = .ok (.aload_n 0, 1) := by decide +kernel
theorem d_Row_init_13 : decode b_Row_init 13 = .ok (.iconst 0, 1) := by decide +kernel
theorem d_Row_init_14 : decode b_Row_init 14 = .ok (.putfield 15, 3) := by decide +kernel
theorem d_Row_init_17 : decode b_Row_init 17 = .ok (.return_, 1) := by decide +kernel
theorem d_WL_init_0 : decode b_WL_init 0 = .ok (.aload_n 0, 1) := by decide +kernel
theorem d_WL_init_1 : decode b_WL_init 1 = .ok (.invokespecial 3, 3) := by decide +kernel
theorem d_WL_init_4 : decode b_WL_init 4 = .ok (.aload_n 0, 1) := by decide +kernel
theorem d_WL_init_5 : decode b_WL_init 5 = .ok (.sipush 12000, 3) := by decide +kernel
theorem d_WL_init_8 : decode b_WL_init 8 = .ok (.newarray .byte, 2) := by decide +kernel
theorem d_WL_init_10 : decode b_WL_init 10 = .ok (.putfield 9, 3) := by decide +kernel
theorem d_WL_init_13 : decode b_WL_init 13 = .ok (.aload_n 0, 1) := by decide +kernel
theorem d_WL_init_14 : decode b_WL_init 14 = .ok (.sipush 1001, 3) := by decide +kernel
theorem d_WL_init_17 : decode b_WL_init 17 = .ok (.newarray .int, 2) := by decide +kernel
theorem d_WL_init_19 : decode b_WL_init 19 = .ok (.putfield 15, 3) := by decide +kernel
theorem d_WL_init_22 : decode b_WL_init 22 = .ok (.aload_n 0, 1) := by decide +kernel
theorem d_WL_init_23 : decode b_WL_init 23 = .ok (.iconst 0, 1) := by decide +kernel
theorem d_WL_init_24 : decode b_WL_init 24 = .ok (.putfield 19, 3) := by decide +kernel
theorem d_WL_init_27 : decode b_WL_init 27 = .ok (.return_, 1) := by decide +kernel
theorem d_Pat_init_0 : decode b_Pat_init 0 = .ok (.aload_n 0, 1) := by decide +kernel
theorem d_Pat_init_1 : decode b_Pat_init 1 = .ok (.invokespecial 3, 3) := by decide +kernel
theorem d_Pat_init_4 : decode b_Pat_init 4 = .ok (.aload_n 0, 1) := by decide +kernel
theorem d_Pat_init_5 : decode b_Pat_init 5 = .ok (.bipush 127, 2) := by decide +kernel
theorem d_Pat_init_7 : decode b_Pat_init 7 = .ok (.newarray .long, 2) := by decide +kernel
theorem d_Pat_init_9 : decode b_Pat_init 9 = .ok (.putfield 9, 3) := by decide +kernel
theorem d_Pat_init_12 : decode b_Pat_init 12 = .ok (.aload_n 0, 1) := by decide +kernel
theorem d_Pat_init_13 : decode b_Pat_init 13 = .ok (.lconst 0, 1) := by decide +kernel
theorem d_Pat_init_14 : decode b_Pat_init 14 = .ok (.putfield 15, 3) := by decide +kernel
theorem d_Pat_init_17 : decode b_Pat_init 17 = .ok (.aload_n 0, 1) := by decide +kernel
theorem d_Pat_init_18 : decode b_Pat_init 18 = .ok (.lconst 0, 1) := by decide +kernel
theorem d_Pat_init_19 : decode b_Pat_init 19 = .ok (.putfield 19, 3) := by decide +kernel
theorem d_Pat_init_22 : decode b_Pat_init 22 = .ok (.aload_n 0, 1) := by decide +kernel
theorem d_Pat_init_23 : decode b_Pat_init 23 = .ok (.iconst 0, 1) := by decide +kernel
theorem d_Pat_init_24 : decode b_Pat_init 24 = .ok (.putfield 22, 3) := by decide +kernel
theorem d_Pat_init_27 : decode b_Pat_init 27 = .ok (.return_, 1) := by decide +kernel
theorem d_Near_init_0 : decode b_Near_init 0 = .ok (.aload_n 0, 1) := by decide +kernel
theorem d_Near_init_1 : decode b_Near_init 1 = .ok (.invokespecial 3, 3) := by decide +kernel
theorem d_Near_init_4 : decode b_Near_init 4 = .ok (.aload_n 0, 1) := by decide +kernel
theorem d_Near_init_5 : decode b_Near_init 5 = .ok (.sipush 1000, 3) := by decide +kernel
theorem d_Near_init_8 : decode b_Near_init 8 = .ok (.newarray .byte, 2) := by decide +kernel
theorem d_Near_init_10 : decode b_Near_init 10 = .ok (.putfield 9, 3) := by decide +kernel
theorem d_Near_init_13 : decode b_Near_init 13 = .ok (.aload_n 0, 1) := by decide +kernel
theorem d_Near_init_14 : decode b_Near_init 14 = .ok (.iconst 4, 1) := by decide +kernel
theorem d_Near_init_15 : decode b_Near_init 15 = .ok (.newarray .int, 2) := by decide +kernel
theorem d_Near_init_17 : decode b_Near_init 17 = .ok (.putfield 15, 3) := by decide +kernel
theorem d_Near_init_20 : decode b_Near_init 20 = .ok (.return_, 1) := by decide +kernel
theorem d_Mod_thrown_0 : decode b_Mod_thrown 0 = .ok (.aload_n 0, 1) := by decide +kernel
theorem d_Mod_thrown_1 : decode b_Mod_thrown 1 = .ok (.getfield 46, 3) := by decide +kernel
theorem d_Mod_thrown_4 : decode b_Mod_thrown 4 = .ok (.ireturn, 1) := by decide +kernel
theorem d_Mod_least_0 : decode b_Mod_least 0 = .ok (.iload_n 0, 1) := by decide +kernel
theorem d_Mod_least_1 : decode b_Mod_least 1 = .ok (.iload_n 1, 1) := by decide +kernel
theorem d_Mod_least_2 : decode b_Mod_least 2 = .ok (.if_icmp .ge 7, 3) := by decide +kernel
theorem d_Mod_least_5 : decode b_Mod_least 5 = .ok (.iload_n 0, 1) := by decide +kernel
theorem d_Mod_least_6 : decode b_Mod_least 6 = .ok (.goto 4, 3) := by decide +kernel
theorem d_Mod_least_9 : decode b_Mod_least 9 = .ok (.iload_n 1, 1) := by decide +kernel
theorem d_Mod_least_10 : decode b_Mod_least 10 = .ok (.ireturn, 1) := by decide +kernel
theorem d_Mod_take_0 : decode b_Mod_take 0 = .ok (.aload_n 0, 1) := by decide +kernel
theorem d_Mod_take_1 : decode b_Mod_take 1 = .ok (.getfield 50, 3) := by decide +kernel
theorem d_Mod_take_4 : decode b_Mod_take 4 = .ok (.istore_n 1, 1) := by decide +kernel
theorem d_Mod_take_5 : decode b_Mod_take 5 = .ok (.aload_n 0, 1) := by decide +kernel
theorem d_Mod_take_6 : decode b_Mod_take 6 = .ok (.iconst 0, 1) := by decide +kernel
theorem d_Mod_take_7 : decode b_Mod_take 7 = .ok (.putfield 50, 3) := by decide +kernel
theorem d_Mod_take_10 : decode b_Mod_take 10 = .ok (.iload_n 1, 1) := by decide +kernel
theorem d_Mod_take_11 : decode b_Mod_take 11 = .ok (.ireturn, 1) := by decide +kernel
theorem d_Mod_order_0 : decode b_Mod_order 0 = .ok (.iload_n 2, 1) := by decide +kernel
theorem d_Mod_order_1 : decode b_Mod_order 1 = .ok (.aload_n 0, 1) := by decide +kernel
theorem d_Mod_order_2 : decode b_Mod_order 2 = .ok (.getfield 20, 3) := by decide +kernel
theorem d_Mod_order_5 : decode b_Mod_order 5 = .ok (.iload_n 1, 1) := by decide +kernel
theorem d_Mod_order_6 : decode b_Mod_order 6 = .ok (.iaload, 1) := by decide +kernel
theorem d_Mod_order_7 : decode b_Mod_order 7 = .ok (.invokestatic 53, 3) := by decide +kernel
theorem d_Mod_order_10 : decode b_Mod_order 10 = .ok (.istore_n 3, 1) := by decide +kernel
theorem d_Mod_order_11 : decode b_Mod_order 11 = .ok (.iconst 0, 1) := by decide +kernel
theorem d_Mod_order_12 : decode b_Mod_order 12 = .ok (.istore 4, 2) := by decide +kernel
theorem d_Mod_order_14 : decode b_Mod_order 14 = .ok (.iload 4, 2) := by decide +kernel
theorem d_Mod_order_16 : decode b_Mod_order 16 = .ok (.iload_n 3, 1) := by decide +kernel
theorem d_Mod_order_17 : decode b_Mod_order 17 = .ok (.if_icmp .ge 52, 3) := by decide +kernel
theorem d_Mod_order_20 : decode b_Mod_order 20 = .ok (.aload_n 0, 1) := by decide +kernel
theorem d_Mod_order_21 : decode b_Mod_order 21 = .ok (.getfield 14, 3) := by decide +kernel
theorem d_Mod_order_24 : decode b_Mod_order 24 = .ok (.iload_n 1, 1) := by decide +kernel
theorem d_Mod_order_25 : decode b_Mod_order 25 = .ok (.bipush 60, 2) := by decide +kernel
theorem d_Mod_order_27 : decode b_Mod_order 27 = .ok (.imul, 1) := by decide +kernel
theorem d_Mod_order_28 : decode b_Mod_order 28 = .ok (.iload 4, 2) := by decide +kernel
theorem d_Mod_order_30 : decode b_Mod_order 30 = .ok (.iadd, 1) := by decide +kernel
theorem d_Mod_order_31 : decode b_Mod_order 31 = .ok (.baload, 1) := by decide +kernel
theorem d_Mod_order_32 : decode b_Mod_order 32 = .ok (.aload_n 0, 1) := by decide +kernel
theorem d_Mod_order_33 : decode b_Mod_order 33 = .ok (.getfield 7, 3) := by decide +kernel
theorem d_Mod_order_36 : decode b_Mod_order 36 = .ok (.iload 4, 2) := by decide +kernel
theorem d_Mod_order_38 : decode b_Mod_order 38 = .ok (.baload, 1) := by decide +kernel
theorem d_Mod_order_39 : decode b_Mod_order 39 = .ok (.if_icmp .eq 24, 3) := by decide +kernel
theorem d_Mod_order_42 : decode b_Mod_order 42 = .ok (.aload_n 0, 1) := by decide +kernel
theorem d_Mod_order_43 : decode b_Mod_order 43 = .ok (.getfield 14, 3) := by decide +kernel
theorem d_Mod_order_46 : decode b_Mod_order 46 = .ok (.iload_n 1, 1) := by decide +kernel
theorem d_Mod_order_47 : decode b_Mod_order 47 = .ok (.bipush 60, 2) := by decide +kernel
theorem d_Mod_order_49 : decode b_Mod_order 49 = .ok (.imul, 1) := by decide +kernel
theorem d_Mod_order_50 : decode b_Mod_order 50 = .ok (.iload 4, 2) := by decide +kernel
theorem d_Mod_order_52 : decode b_Mod_order 52 = .ok (.iadd, 1) := by decide +kernel
theorem d_Mod_order_53 : decode b_Mod_order 53 = .ok (.baload, 1) := by decide +kernel
theorem d_Mod_order_54 : decode b_Mod_order 54 = .ok (.aload_n 0, 1) := by decide +kernel
theorem d_Mod_order_55 : decode b_Mod_order 55 = .ok (.getfield 7, 3) := by decide +kernel
theorem d_Mod_order_58 : decode b_Mod_order 58 = .ok (.iload 4, 2) := by decide +kernel
theorem d_Mod_order_60 : decode b_Mod_order 60 = .ok (.baload, 1) := by decide +kernel
theorem d_Mod_order_61 : decode b_Mod_order 61 = .ok (.isub, 1) := by decide +kernel
theorem d_Mod_order_62 : decode b_Mod_order 62 = .ok (.ireturn, 1) := by decide +kernel
theorem d_Mod_order_63 : decode b_Mod_order 63 = .ok (.iinc 4 1, 3) := by decide +kernel
theorem d_Mod_order_66 : decode b_Mod_order 66 = .ok (.goto (-52), 3) := by decide +kernel
theorem d_Mod_order_69 : decode b_Mod_order 69 = .ok (.aload_n 0, 1) := by decide +kernel
theorem d_Mod_order_70 : decode b_Mod_order 70 = .ok (.getfield 20, 3) := by decide +kernel
theorem d_Mod_order_73 : decode b_Mod_order 73 = .ok (.iload_n 1, 1) := by decide +kernel
theorem d_Mod_order_74 : decode b_Mod_order 74 = .ok (.iaload, 1) := by decide +kernel
theorem d_Mod_order_75 : decode b_Mod_order 75 = .ok (.iload_n 2, 1) := by decide +kernel
theorem d_Mod_order_76 : decode b_Mod_order 76 = .ok (.isub, 1) := by decide +kernel
theorem d_Mod_order_77 : decode b_Mod_order 77 = .ok (.ireturn, 1) := by decide +kernel
theorem d_Mod_standing_0 : decode b_Mod_standing 0 = .ok (.iconst 0, 1) := by decide +kernel
theorem d_Mod_standing_1 : decode b_Mod_standing 1 = .ok (.istore_n 2, 1) := by decide +kernel
theorem d_Mod_standing_2 : decode b_Mod_standing 2 = .ok (.iconst 0, 1) := by decide +kernel
theorem d_Mod_standing_3 : decode b_Mod_standing 3 = .ok (.istore_n 3, 1) := by decide +kernel
theorem d_Mod_standing_4 : decode b_Mod_standing 4 = .ok (.iload_n 3, 1) := by decide +kernel
theorem d_Mod_standing_5 : decode b_Mod_standing 5 = .ok (.aload_n 0, 1) := by decide +kernel
theorem d_Mod_standing_6 : decode b_Mod_standing 6 = .ok (.getfield 57, 3) := by decide +kernel
theorem d_Mod_standing_9 : decode b_Mod_standing 9 = .ok (.if_icmp .ge 21, 3) := by decide +kernel
theorem d_Mod_standing_12 : decode b_Mod_standing 12 = .ok (.aload_n 0, 1) := by decide +kernel
theorem d_Mod_standing_13 : decode b_Mod_standing 13 = .ok (.iload_n 3, 1) := by decide +kernel
theorem d_Mod_standing_14 : decode b_Mod_standing 14 = .ok (.iload_n 1, 1) := by decide +kernel
theorem d_Mod_standing_15 : decode b_Mod_standing 15 = .ok (.invokevirtual 60, 3) := by decide +kernel
theorem d_Mod_standing_18 : decode b_Mod_standing 18 = .ok (.ifCond .ge 6, 3) := by decide +kernel
theorem d_Mod_standing_21 : decode b_Mod_standing 21 = .ok (.iinc 2 1, 3) := by decide +kernel
theorem d_Mod_standing_24 : decode b_Mod_standing 24 = .ok (.iinc 3 1, 3) := by decide +kernel
theorem d_Mod_standing_27 : decode b_Mod_standing 27 = .ok (.goto (-23), 3) := by decide +kernel
theorem d_Mod_standing_30 : decode b_Mod_standing 30 = .ok (.iload_n 2, 1) := by decide +kernel
theorem d_Mod_standing_31 : decode b_Mod_standing 31 = .ok (.ireturn, 1) := by decide +kernel
theorem d_Mod_before_0 : decode b_Mod_before 0 = .ok (.aload_n 0, 1) := by decide +kernel
theorem d_Mod_before_1 : decode b_Mod_before 1 = .ok (.iconst 0, 1) := by decide +kernel
theorem d_Mod_before_2 : decode b_Mod_before 2 = .ok (.putfield 46, 3) := by decide +kernel
theorem d_Mod_before_5 : decode b_Mod_before 5 = .ok (.aload_n 0, 1) := by decide +kernel
theorem d_Mod_before_6 : decode b_Mod_before 6 = .ok (.aload_n 0, 1) := by decide +kernel
theorem d_Mod_before_7 : decode b_Mod_before 7 = .ok (.invokevirtual 63, 3) := by decide +kernel
theorem d_Mod_before_10 : decode b_Mod_before 10 = .ok (.invokevirtual 67, 3) := by decide +kernel
theorem d_Mod_before_13 : decode b_Mod_before 13 = .ok (.ireturn, 1) := by decide +kernel
theorem d_Mod_count_0 : decode b_Mod_count 0 = .ok (.aload_n 0, 1) := by decide +kernel
theorem d_Mod_count_1 : decode b_Mod_count 1 = .ok (.iconst 0, 1) := by decide +kernel
theorem d_Mod_count_2 : decode b_Mod_count 2 = .ok (.putfield 46, 3) := by decide +kernel
theorem d_Mod_count_5 : decode b_Mod_count 5 = .ok (.iconst 0, 1) := by decide +kernel
theorem d_Mod_count_6 : decode b_Mod_count 6 = .ok (.istore_n 2, 1) := by decide +kernel
theorem d_Mod_count_7 : decode b_Mod_count 7 = .ok (.iconst 0, 1) := by decide +kernel
theorem d_Mod_count_8 : decode b_Mod_count 8 = .ok (.istore_n 3, 1) := by decide +kernel
theorem d_Mod_count_9 : decode b_Mod_count 9 = .ok (.iload_n 3, 1) := by decide +kernel
theorem d_Mod_count_10 : decode b_Mod_count 10 = .ok (.aload_n 0, 1) := by decide +kernel
theorem d_Mod_count_11 : decode b_Mod_count 11 = .ok (.getfield 57, 3) := by decide +kernel
theorem d_Mod_count_14 : decode b_Mod_count 14 = .ok (.if_icmp .ge 30, 3) := by decide +kernel
theorem d_Mod_count_17 : decode b_Mod_count 17 = .ok (.aload_n 0, 1) := by decide +kernel
theorem d_Mod_count_18 : decode b_Mod_count 18 = .ok (.getfield 20, 3) := by decide +kernel
theorem d_Mod_count_21 : decode b_Mod_count 21 = .ok (.iload_n 3, 1) := by decide +kernel
theorem d_Mod_count_22 : decode b_Mod_count 22 = .ok (.iaload, 1) := by decide +kernel
theorem d_Mod_count_23 : decode b_Mod_count 23 = .ok (.iload_n 2, 1) := by decide +kernel
theorem d_Mod_count_24 : decode b_Mod_count 24 = .ok (.if_icmp .le 12, 3) := by decide +kernel
theorem d_Mod_count_27 : decode b_Mod_count 27 = .ok (.aload_n 0, 1) := by decide +kernel
theorem d_Mod_count_28 : decode b_Mod_count 28 = .ok (.getfield 20, 3) := by decide +kernel
theorem d_Mod_count_31 : decode b_Mod_count 31 = .ok (.iload_n 3, 1) := by decide +kernel
theorem d_Mod_count_32 : decode b_Mod_count 32 = .ok (.iaload, 1) := by decide +kernel
theorem d_Mod_count_33 : decode b_Mod_count 33 = .ok (.goto 4, 3) := by decide +kernel
theorem d_Mod_count_36 : decode b_Mod_count 36 = .ok (.iload_n 2, 1) := by decide +kernel
theorem d_Mod_count_37 : decode b_Mod_count 37 = .ok (.istore_n 2, 1) := by decide +kernel
theorem d_Mod_count_38 : decode b_Mod_count 38 = .ok (.iinc 3 1, 3) := by decide +kernel
theorem d_Mod_count_41 : decode b_Mod_count 41 = .ok (.goto (-32), 3) := by decide +kernel
theorem d_Mod_count_44 : decode b_Mod_count 44 = .ok (.iload_n 1, 1) := by decide +kernel
theorem d_Mod_count_45 : decode b_Mod_count 45 = .ok (.tableswitch 57 0 4 #[35, 40, 45, 50, 55], 35) := by decide +kernel
theorem d_Mod_count_80 : decode b_Mod_count 80 = .ok (.aload_n 0, 1) := by decide +kernel
theorem d_Mod_count_81 : decode b_Mod_count 81 = .ok (.getfield 50, 3) := by decide +kernel
theorem d_Mod_count_84 : decode b_Mod_count 84 = .ok (.ireturn, 1) := by decide +kernel
theorem d_Mod_count_85 : decode b_Mod_count 85 = .ok (.aload_n 0, 1) := by decide +kernel
theorem d_Mod_count_86 : decode b_Mod_count 86 = .ok (.getfield 57, 3) := by decide +kernel
theorem d_Mod_count_89 : decode b_Mod_count 89 = .ok (.ireturn, 1) := by decide +kernel
theorem d_Mod_count_90 : decode b_Mod_count 90 = .ok (.aload_n 0, 1) := by decide +kernel
theorem d_Mod_count_91 : decode b_Mod_count 91 = .ok (.getfield 71, 3) := by decide +kernel
theorem d_Mod_count_94 : decode b_Mod_count 94 = .ok (.ireturn, 1) := by decide +kernel
theorem d_Mod_count_95 : decode b_Mod_count 95 = .ok (.aload_n 0, 1) := by decide +kernel
theorem d_Mod_count_96 : decode b_Mod_count 96 = .ok (.getfield 81, 3) := by decide +kernel
theorem d_Mod_count_99 : decode b_Mod_count 99 = .ok (.ireturn, 1) := by decide +kernel
theorem d_Mod_count_100 : decode b_Mod_count 100 = .ok (.iload_n 2, 1) := by decide +kernel
theorem d_Mod_count_101 : decode b_Mod_count 101 = .ok (.ireturn, 1) := by decide +kernel
theorem d_Mod_count_102 : decode b_Mod_count 102 = .ok (.iconst (-1), 1) := by decide +kernel
theorem d_Mod_count_103 : decode b_Mod_count 103 = .ok (.ireturn, 1) := by decide +kernel
theorem d_Mod_letter_0 : decode b_Mod_letter 0 = .ok (.aload_n 0, 1) := by decide +kernel
theorem d_Mod_letter_1 : decode b_Mod_letter 1 = .ok (.iload_n 1, 1) := by decide +kernel
theorem d_Mod_letter_2 : decode b_Mod_letter 2 = .ok (.ifCond .lt 15, 3) := by decide +kernel
theorem d_Mod_letter_5 : decode b_Mod_letter 5 = .ok (.iload_n 1, 1) := by decide +kernel
theorem d_Mod_letter_6 : decode b_Mod_letter 6 = .ok (.aload_n 0, 1) := by decide +kernel
theorem d_Mod_letter_7 : decode b_Mod_letter 7 = .ok (.getfield 81, 3) := by decide +kernel
theorem d_Mod_letter_10 : decode b_Mod_letter 10 = .ok (.if_icmp .ge 7, 3) := by decide +kernel
theorem d_Mod_letter_13 : decode b_Mod_letter 13 = .ok (.iload_n 2, 1) := by decide +kernel
theorem d_Mod_letter_14 : decode b_Mod_letter 14 = .ok (.ifCond .ge 7, 3) := by decide +kernel
theorem d_Mod_letter_17 : decode b_Mod_letter 17 = .ok (.iconst 1, 1) := by decide +kernel
theorem d_Mod_letter_18 : decode b_Mod_letter 18 = .ok (.goto 4, 3) := by decide +kernel
theorem d_Mod_letter_21 : decode b_Mod_letter 21 = .ok (.iconst 0, 1) := by decide +kernel
theorem d_Mod_letter_22 : decode b_Mod_letter 22 = .ok (.putfield 46, 3) := by decide +kernel
theorem d_Mod_letter_25 : decode b_Mod_letter 25 = .ok (.aload_n 0, 1) := by decide +kernel
theorem d_Mod_letter_26 : decode b_Mod_letter 26 = .ok (.getfield 46, 3) := by decide +kernel
theorem d_Mod_letter_29 : decode b_Mod_letter 29 = .ok (.ifCond .eq 5, 3) := by decide +kernel
theorem d_Mod_letter_32 : decode b_Mod_letter 32 = .ok (.iconst 0, 1) := by decide +kernel
theorem d_Mod_letter_33 : decode b_Mod_letter 33 = .ok (.ireturn, 1) := by decide +kernel
theorem d_Mod_letter_34 : decode b_Mod_letter 34 = .ok (.iload_n 2, 1) := by decide +kernel
theorem d_Mod_letter_35 : decode b_Mod_letter 35 = .ok (.aload_n 0, 1) := by decide +kernel
theorem d_Mod_letter_36 : decode b_Mod_letter 36 = .ok (.getfield 24, 3) := by decide +kernel
theorem d_Mod_letter_39 : decode b_Mod_letter 39 = .ok (.iload_n 1, 1) := by decide +kernel
theorem d_Mod_letter_40 : decode b_Mod_letter 40 = .ok (.iaload, 1) := by decide +kernel
theorem d_Mod_letter_41 : decode b_Mod_letter 41 = .ok (.if_icmp .ge 17, 3) := by decide +kernel
theorem d_Mod_letter_44 : decode b_Mod_letter 44 = .ok (.aload_n 0, 1) := by decide +kernel
theorem d_Mod_letter_45 : decode b_Mod_letter 45 = .ok (.getfield 17, 3) := by decide +kernel
theorem d_Mod_letter_48 : decode b_Mod_letter 48 = .ok (.iload_n 1, 1) := by decide +kernel
theorem d_Mod_letter_49 : decode b_Mod_letter 49 = .ok (.bipush 60, 2) := by decide +kernel
theorem d_Mod_letter_51 : decode b_Mod_letter 51 = .ok (.imul, 1) := by decide +kernel
theorem d_Mod_letter_52 : decode b_Mod_letter 52 = .ok (.iload_n 2, 1) := by decide +kernel
theorem d_Mod_letter_53 : decode b_Mod_letter 53 = .ok (.iadd, 1) := by decide +kernel
theorem d_Mod_letter_54 : decode b_Mod_letter 54 = .ok (.baload, 1) := by decide +kernel
theorem d_Mod_letter_55 : decode b_Mod_letter 55 = .ok (.goto 4, 3) := by decide +kernel
theorem d_Mod_letter_58 : decode b_Mod_letter 58 = .ok (.iconst 0, 1) := by decide +kernel
theorem d_Mod_letter_59 : decode b_Mod_letter 59 = .ok (.ireturn, 1) := by decide +kernel
theorem d_Mod_distance_0 : decode b_Mod_distance 0 = .ok (.aload_n 0, 1) := by decide +kernel
theorem d_Mod_distance_1 : decode b_Mod_distance 1 = .ok (.iload_n 1, 1) := by decide +kernel
theorem d_Mod_distance_2 : decode b_Mod_distance 2 = .ok (.ifCond .lt 11, 3) := by decide +kernel
theorem d_Mod_distance_5 : decode b_Mod_distance 5 = .ok (.iload_n 1, 1) := by decide +kernel
theorem d_Mod_distance_6 : decode b_Mod_distance 6 = .ok (.aload_n 0, 1) := by decide +kernel
theorem d_Mod_distance_7 : decode b_Mod_distance 7 = .ok (.getfield 81, 3) := by decide +kernel
theorem d_Mod_distance_10 : decode b_Mod_distance 10 = .ok (.if_icmp .lt 7, 3) := by decide +kernel
theorem d_Mod_distance_13 : decode b_Mod_distance 13 = .ok (.iconst 1, 1) := by decide +kernel
theorem d_Mod_distance_14 : decode b_Mod_distance 14 = .ok (.goto 4, 3) := by decide +kernel
theorem d_Mod_distance_17 : decode b_Mod_distance 17 = .ok (.iconst 0, 1) := by decide +kernel
theorem d_Mod_distance_18 : decode b_Mod_distance 18 = .ok (.putfield 46, 3) := by decide +kernel
theorem d_Mod_distance_21 : decode b_Mod_distance 21 = .ok (.aload_n 0, 1) := by decide +kernel
theorem d_Mod_distance_22 : decode b_Mod_distance 22 = .ok (.getfield 46, 3) := by decide +kernel
theorem d_Mod_distance_25 : decode b_Mod_distance 25 = .ok (.ifCond .eq 7, 3) := by decide +kernel
theorem d_Mod_distance_28 : decode b_Mod_distance 28 = .ok (.iconst 0, 1) := by decide +kernel
theorem d_Mod_distance_29 : decode b_Mod_distance 29 = .ok (.goto 9, 3) := by decide +kernel
theorem d_Mod_distance_32 : decode b_Mod_distance 32 = .ok (.aload_n 0, 1) := by decide +kernel
theorem d_Mod_distance_33 : decode b_Mod_distance 33 = .ok (.getfield 27, 3) := by decide +kernel
theorem d_Mod_distance_36 : decode b_Mod_distance 36 = .ok (.iload_n 1, 1) := by decide +kernel
theorem d_Mod_distance_37 : decode b_Mod_distance 37 = .ok (.iaload, 1) := by decide +kernel
theorem d_Mod_distance_38 : decode b_Mod_distance 38 = .ok (.ireturn, 1) := by decide +kernel
theorem d_Mod_shift_0 : decode b_Mod_shift 0 = .ok (.iconst 0, 1) := by decide +kernel
theorem d_Mod_shift_1 : decode b_Mod_shift 1 = .ok (.istore 4, 2) := by decide +kernel
theorem d_Mod_shift_3 : decode b_Mod_shift 3 = .ok (.iload 4, 2) := by decide +kernel
theorem d_Mod_shift_5 : decode b_Mod_shift 5 = .ok (.iload_n 3, 1) := by decide +kernel
theorem d_Mod_shift_6 : decode b_Mod_shift 6 = .ok (.if_icmp .ge 33, 3) := by decide +kernel
theorem d_Mod_shift_9 : decode b_Mod_shift 9 = .ok (.aload_n 0, 1) := by decide +kernel
theorem d_Mod_shift_10 : decode b_Mod_shift 10 = .ok (.getfield 14, 3) := by decide +kernel
theorem d_Mod_shift_13 : decode b_Mod_shift 13 = .ok (.iload_n 2, 1) := by decide +kernel
theorem d_Mod_shift_14 : decode b_Mod_shift 14 = .ok (.bipush 60, 2) := by decide +kernel
theorem d_Mod_shift_16 : decode b_Mod_shift 16 = .ok (.imul, 1) := by decide +kernel
theorem d_Mod_shift_17 : decode b_Mod_shift 17 = .ok (.iload 4, 2) := by decide +kernel
theorem d_Mod_shift_19 : decode b_Mod_shift 19 = .ok (.iadd, 1) := by decide +kernel
theorem d_Mod_shift_20 : decode b_Mod_shift 20 = .ok (.aload_n 0, 1) := by decide +kernel
theorem d_Mod_shift_21 : decode b_Mod_shift 21 = .ok (.getfield 14, 3) := by decide +kernel
theorem d_Mod_shift_24 : decode b_Mod_shift 24 = .ok (.iload_n 1, 1) := by decide +kernel
theorem d_Mod_shift_25 : decode b_Mod_shift 25 = .ok (.bipush 60, 2) := by decide +kernel
theorem d_Mod_shift_27 : decode b_Mod_shift 27 = .ok (.imul, 1) := by decide +kernel
theorem d_Mod_shift_28 : decode b_Mod_shift 28 = .ok (.iload 4, 2) := by decide +kernel
theorem d_Mod_shift_30 : decode b_Mod_shift 30 = .ok (.iadd, 1) := by decide +kernel
theorem d_Mod_shift_31 : decode b_Mod_shift 31 = .ok (.baload, 1) := by decide +kernel
theorem d_Mod_shift_32 : decode b_Mod_shift 32 = .ok (.bastore, 1) := by decide +kernel
theorem d_Mod_shift_33 : decode b_Mod_shift 33 = .ok (.iinc 4 1, 3) := by decide +kernel
theorem d_Mod_shift_36 : decode b_Mod_shift 36 = .ok (.goto (-33), 3) := by decide +kernel
theorem d_Mod_shift_39 : decode b_Mod_shift 39 = .ok (.aload_n 0, 1) := by decide +kernel
theorem d_Mod_shift_40 : decode b_Mod_shift 40 = .ok (.getfield 20, 3) := by decide +kernel
theorem d_Mod_shift_43 : decode b_Mod_shift 43 = .ok (.iload_n 2, 1) := by decide +kernel
theorem d_Mod_shift_44 : decode b_Mod_shift 44 = .ok (.iload_n 3, 1) := by decide +kernel
theorem d_Mod_shift_45 : decode b_Mod_shift 45 = .ok (.iastore, 1) := by decide +kernel
theorem d_Mod_shift_46 : decode b_Mod_shift 46 = .ok (.return_, 1) := by decide +kernel
theorem d_Mod_keep_0 : decode b_Mod_keep 0 = .ok (.iconst 0, 1) := by decide +kernel
theorem d_Mod_keep_1 : decode b_Mod_keep 1 = .ok (.istore 4, 2) := by decide +kernel
theorem d_Mod_keep_3 : decode b_Mod_keep 3 = .ok (.iload 4, 2) := by decide +kernel
theorem d_Mod_keep_5 : decode b_Mod_keep 5 = .ok (.aload_n 0, 1) := by decide +kernel
theorem d_Mod_keep_6 : decode b_Mod_keep 6 = .ok (.getfield 20, 3) := by decide +kernel
theorem d_Mod_keep_9 : decode b_Mod_keep 9 = .ok (.iload_n 2, 1) := by decide +kernel
theorem d_Mod_keep_10 : decode b_Mod_keep 10 = .ok (.iaload, 1) := by decide +kernel
theorem d_Mod_keep_11 : decode b_Mod_keep 11 = .ok (.if_icmp .ge 33, 3) := by decide +kernel
theorem d_Mod_keep_14 : decode b_Mod_keep 14 = .ok (.aload_n 0, 1) := by decide +kernel
theorem d_Mod_keep_15 : decode b_Mod_keep 15 = .ok (.getfield 17, 3) := by decide +kernel
theorem d_Mod_keep_18 : decode b_Mod_keep 18 = .ok (.iload_n 1, 1) := by decide +kernel
theorem d_Mod_keep_19 : decode b_Mod_keep 19 = .ok (.bipush 60, 2) := by decide +kernel
theorem d_Mod_keep_21 : decode b_Mod_keep 21 = .ok (.imul, 1) := by decide +kernel
theorem d_Mod_keep_22 : decode b_Mod_keep 22 = .ok (.iload 4, 2) := by decide +kernel
theorem d_Mod_keep_24 : decode b_Mod_keep 24 = .ok (.iadd, 1) := by decide +kernel
theorem d_Mod_keep_25 : decode b_Mod_keep 25 = .ok (.aload_n 0, 1) := by decide +kernel
theorem d_Mod_keep_26 : decode b_Mod_keep 26 = .ok (.getfield 14, 3) := by decide +kernel
theorem d_Mod_keep_29 : decode b_Mod_keep 29 = .ok (.iload_n 2, 1) := by decide +kernel
theorem d_Mod_keep_30 : decode b_Mod_keep 30 = .ok (.bipush 60, 2) := by decide +kernel
theorem d_Mod_keep_32 : decode b_Mod_keep 32 = .ok (.imul, 1) := by decide +kernel
theorem d_Mod_keep_33 : decode b_Mod_keep 33 = .ok (.iload 4, 2) := by decide +kernel
theorem d_Mod_keep_35 : decode b_Mod_keep 35 = .ok (.iadd, 1) := by decide +kernel
theorem d_Mod_keep_36 : decode b_Mod_keep 36 = .ok (.baload, 1) := by decide +kernel
theorem d_Mod_keep_37 : decode b_Mod_keep 37 = .ok (.bastore, 1) := by decide +kernel
theorem d_Mod_keep_38 : decode b_Mod_keep 38 = .ok (.iinc 4 1, 3) := by decide +kernel
theorem d_Mod_keep_41 : decode b_Mod_keep 41 = .ok (.goto (-38), 3) := by decide +kernel
theorem d_Mod_keep_44 : decode b_Mod_keep 44 = .ok (.aload_n 0, 1) := by decide +kernel
theorem d_Mod_keep_45 : decode b_Mod_keep 45 = .ok (.getfield 24, 3) := by decide +kernel
theorem d_Mod_keep_48 : decode b_Mod_keep 48 = .ok (.iload_n 1, 1) := by decide +kernel
theorem d_Mod_keep_49 : decode b_Mod_keep 49 = .ok (.aload_n 0, 1) := by decide +kernel
theorem d_Mod_keep_50 : decode b_Mod_keep 50 = .ok (.getfield 20, 3) := by decide +kernel
theorem d_Mod_keep_53 : decode b_Mod_keep 53 = .ok (.iload_n 2, 1) := by decide +kernel
theorem d_Mod_keep_54 : decode b_Mod_keep 54 = .ok (.iaload, 1) := by decide +kernel
theorem d_Mod_keep_55 : decode b_Mod_keep 55 = .ok (.iastore, 1) := by decide +kernel
theorem d_Mod_keep_56 : decode b_Mod_keep 56 = .ok (.aload_n 0, 1) := by decide +kernel
theorem d_Mod_keep_57 : decode b_Mod_keep 57 = .ok (.getfield 27, 3) := by decide +kernel
theorem d_Mod_keep_60 : decode b_Mod_keep 60 = .ok (.iload_n 1, 1) := by decide +kernel
theorem d_Mod_keep_61 : decode b_Mod_keep 61 = .ok (.iload_n 3, 1) := by decide +kernel
theorem d_Mod_keep_62 : decode b_Mod_keep 62 = .ok (.iastore, 1) := by decide +kernel
theorem d_Mod_keep_63 : decode b_Mod_keep 63 = .ok (.return_, 1) := by decide +kernel
theorem d_Mod_steps_0 : decode b_Mod_steps 0 = .ok (.aload_n 0, 1) := by decide +kernel
theorem d_Mod_steps_1 : decode b_Mod_steps 1 = .ok (.getfield 20, 3) := by decide +kernel
theorem d_Mod_steps_4 : decode b_Mod_steps 4 = .ok (.iload_n 1, 1) := by decide +kernel
theorem d_Mod_steps_5 : decode b_Mod_steps 5 = .ok (.iaload, 1) := by decide +kernel
theorem d_Mod_steps_6 : decode b_Mod_steps 6 = .ok (.istore_n 3, 1) := by decide +kernel
theorem d_Mod_steps_7 : decode b_Mod_steps 7 = .ok (.iconst 0, 1) := by decide +kernel
theorem d_Mod_steps_8 : decode b_Mod_steps 8 = .ok (.istore 4, 2) := by decide +kernel
theorem d_Mod_steps_10 : decode b_Mod_steps 10 = .ok (.iload 4, 2) := by decide +kernel
theorem d_Mod_steps_12 : decode b_Mod_steps 12 = .ok (.iload_n 3, 1) := by decide +kernel
theorem d_Mod_steps_13 : decode b_Mod_steps 13 = .ok (.if_icmp .gt 241, 3) := by decide +kernel
theorem d_Mod_steps_16 : decode b_Mod_steps 16 = .ok (.iconst 0, 1) := by decide +kernel
theorem d_Mod_steps_17 : decode b_Mod_steps 17 = .ok (.istore 5, 2) := by decide +kernel
theorem d_Mod_steps_19 : decode b_Mod_steps 19 = .ok (.iload 5, 2) := by decide +kernel
theorem d_Mod_steps_21 : decode b_Mod_steps 21 = .ok (.iload_n 2, 1) := by decide +kernel
theorem d_Mod_steps_22 : decode b_Mod_steps 22 = .ok (.if_icmp .gt 226, 3) := by decide +kernel
theorem d_Mod_steps_25 : decode b_Mod_steps 25 = .ok (.iload 4, 2) := by decide +kernel
theorem d_Mod_steps_27 : decode b_Mod_steps 27 = .ok (.ifCond .ne 8, 3) := by decide +kernel
theorem d_Mod_steps_30 : decode b_Mod_steps 30 = .ok (.iload 5, 2) := by decide +kernel
theorem d_Mod_steps_32 : decode b_Mod_steps 32 = .ok (.goto 48, 3) := by decide +kernel
theorem d_Mod_steps_35 : decode b_Mod_steps 35 = .ok (.iload 5, 2) := by decide +kernel
theorem d_Mod_steps_37 : decode b_Mod_steps 37 = .ok (.ifCond .ne 8, 3) := by decide +kernel
theorem d_Mod_steps_40 : decode b_Mod_steps 40 = .ok (.iload 4, 2) := by decide +kernel
theorem d_Mod_steps_42 : decode b_Mod_steps 42 = .ok (.goto 38, 3) := by decide +kernel
theorem d_Mod_steps_45 : decode b_Mod_steps 45 = .ok (.aload_n 0, 1) := by decide +kernel
theorem d_Mod_steps_46 : decode b_Mod_steps 46 = .ok (.getfield 36, 3) := by decide +kernel
theorem d_Mod_steps_49 : decode b_Mod_steps 49 = .ok (.iload 4, 2) := by decide +kernel
theorem d_Mod_steps_51 : decode b_Mod_steps 51 = .ok (.iconst 1, 1) := by decide +kernel
theorem d_Mod_steps_52 : decode b_Mod_steps 52 = .ok (.isub, 1) := by decide +kernel
theorem d_Mod_steps_53 : decode b_Mod_steps 53 = .ok (.bipush 61, 2) := by decide +kernel
theorem d_Mod_steps_55 : decode b_Mod_steps 55 = .ok (.imul, 1) := by decide +kernel
theorem d_Mod_steps_56 : decode b_Mod_steps 56 = .ok (.iload 5, 2) := by decide +kernel
theorem d_Mod_steps_58 : decode b_Mod_steps 58 = .ok (.iadd, 1) := by decide +kernel
theorem d_Mod_steps_59 : decode b_Mod_steps 59 = .ok (.iaload, 1) := by decide +kernel
theorem d_Mod_steps_60 : decode b_Mod_steps 60 = .ok (.aload_n 0, 1) := by decide +kernel
theorem d_Mod_steps_61 : decode b_Mod_steps 61 = .ok (.getfield 36, 3) := by decide +kernel
theorem d_Mod_steps_64 : decode b_Mod_steps 64 = .ok (.iload 4, 2) := by decide +kernel
theorem d_Mod_steps_66 : decode b_Mod_steps 66 = .ok (.bipush 61, 2) := by decide +kernel
theorem d_Mod_steps_68 : decode b_Mod_steps 68 = .ok (.imul, 1) := by decide +kernel
theorem d_Mod_steps_69 : decode b_Mod_steps 69 = .ok (.iload 5, 2) := by decide +kernel
theorem d_Mod_steps_71 : decode b_Mod_steps 71 = .ok (.iadd, 1) := by decide +kernel
theorem d_Mod_steps_72 : decode b_Mod_steps 72 = .ok (.iconst 1, 1) := by decide +kernel
theorem d_Mod_steps_73 : decode b_Mod_steps 73 = .ok (.isub, 1) := by decide +kernel
theorem d_Mod_steps_74 : decode b_Mod_steps 74 = .ok (.iaload, 1) := by decide +kernel
theorem d_Mod_steps_75 : decode b_Mod_steps 75 = .ok (.invokestatic 53, 3) := by decide +kernel
theorem d_Mod_steps_78 : decode b_Mod_steps 78 = .ok (.iconst 1, 1) := by decide +kernel
theorem d_Mod_steps_79 : decode b_Mod_steps 79 = .ok (.iadd, 1) := by decide +kernel
theorem d_Mod_steps_80 : decode b_Mod_steps 80 = .ok (.istore 6, 2) := by decide +kernel
theorem d_Mod_steps_82 : decode b_Mod_steps 82 = .ok (.iload 4, 2) := by decide +kernel
theorem d_Mod_steps_84 : decode b_Mod_steps 84 = .ok (.ifCond .le 143, 3) := by decide +kernel
theorem d_Mod_steps_87 : decode b_Mod_steps 87 = .ok (.iload 5, 2) := by decide +kernel
theorem d_Mod_steps_89 : decode b_Mod_steps 89 = .ok (.ifCond .le 138, 3) := by decide +kernel
theorem d_Mod_steps_92 : decode b_Mod_steps 92 = .ok (.aload_n 0, 1) := by decide +kernel
theorem d_Mod_steps_93 : decode b_Mod_steps 93 = .ok (.getfield 14, 3) := by decide +kernel
theorem d_Mod_steps_96 : decode b_Mod_steps 96 = .ok (.iload_n 1, 1) := by decide +kernel
theorem d_Mod_steps_97 : decode b_Mod_steps 97 = .ok (.bipush 60, 2) := by decide +kernel
theorem d_Mod_steps_99 : decode b_Mod_steps 99 = .ok (.imul, 1) := by decide +kernel
theorem d_Mod_steps_100 : decode b_Mod_steps 100 = .ok (.iload 4, 2) := by decide +kernel
theorem d_Mod_steps_102 : decode b_Mod_steps 102 = .ok (.iadd, 1) := by decide +kernel
theorem d_Mod_steps_103 : decode b_Mod_steps 103 = .ok (.iconst 1, 1) := by decide +kernel
theorem d_Mod_steps_104 : decode b_Mod_steps 104 = .ok (.isub, 1) := by decide +kernel
theorem d_Mod_steps_105 : decode b_Mod_steps 105 = .ok (.baload, 1) := by decide +kernel
theorem d_Mod_steps_106 : decode b_Mod_steps 106 = .ok (.istore 7, 2) := by decide +kernel
theorem d_Mod_steps_108 : decode b_Mod_steps 108 = .ok (.aload_n 0, 1) := by decide +kernel
theorem d_Mod_steps_109 : decode b_Mod_steps 109 = .ok (.getfield 7, 3) := by decide +kernel
theorem d_Mod_steps_112 : decode b_Mod_steps 112 = .ok (.iload 5, 2) := by decide +kernel
theorem d_Mod_steps_114 : decode b_Mod_steps 114 = .ok (.iconst 1, 1) := by decide +kernel
theorem d_Mod_steps_115 : decode b_Mod_steps 115 = .ok (.isub, 1) := by decide +kernel
theorem d_Mod_steps_116 : decode b_Mod_steps 116 = .ok (.baload, 1) := by decide +kernel
theorem d_Mod_steps_117 : decode b_Mod_steps 117 = .ok (.istore 8, 2) := by decide +kernel
theorem d_Mod_steps_119 : decode b_Mod_steps 119 = .ok (.iload 6, 2) := by decide +kernel
theorem d_Mod_steps_121 : decode b_Mod_steps 121 = .ok (.aload_n 0, 1) := by decide +kernel
theorem d_Mod_steps_122 : decode b_Mod_steps 122 = .ok (.getfield 36, 3) := by decide +kernel
theorem d_Mod_steps_125 : decode b_Mod_steps 125 = .ok (.iload 4, 2) := by decide +kernel
theorem d_Mod_steps_127 : decode b_Mod_steps 127 = .ok (.iconst 1, 1) := by decide +kernel
theorem d_Mod_steps_128 : decode b_Mod_steps 128 = .ok (.isub, 1) := by decide +kernel
theorem d_Mod_steps_129 : decode b_Mod_steps 129 = .ok (.bipush 61, 2) := by decide +kernel
theorem d_Mod_steps_131 : decode b_Mod_steps 131 = .ok (.imul, 1) := by decide +kernel
theorem d_Mod_steps_132 : decode b_Mod_steps 132 = .ok (.iload 5, 2) := by decide +kernel
theorem d_Mod_steps_134 : decode b_Mod_steps 134 = .ok (.iadd, 1) := by decide +kernel
theorem d_Mod_steps_135 : decode b_Mod_steps 135 = .ok (.iconst 1, 1) := by decide +kernel
theorem d_Mod_steps_136 : decode b_Mod_steps 136 = .ok (.isub, 1) := by decide +kernel
theorem d_Mod_steps_137 : decode b_Mod_steps 137 = .ok (.iaload, 1) := by decide +kernel
theorem d_Mod_steps_138 : decode b_Mod_steps 138 = .ok (.iload 7, 2) := by decide +kernel
theorem d_Mod_steps_140 : decode b_Mod_steps 140 = .ok (.iload 8, 2) := by decide +kernel
theorem d_Mod_steps_142 : decode b_Mod_steps 142 = .ok (.if_icmp .ne 7, 3) := by decide +kernel
theorem d_Mod_steps_145 : decode b_Mod_steps 145 = .ok (.iconst 0, 1) := by decide +kernel
theorem d_Mod_steps_146 : decode b_Mod_steps 146 = .ok (.goto 4, 3) := by decide +kernel
theorem d_Mod_steps_149 : decode b_Mod_steps 149 = .ok (.iconst 1, 1) := by decide +kernel
theorem d_Mod_steps_150 : decode b_Mod_steps 150 = .ok (.iadd, 1) := by decide +kernel
theorem d_Mod_steps_151 : decode b_Mod_steps 151 = .ok (.invokestatic 53, 3) := by decide +kernel
theorem d_Mod_steps_154 : decode b_Mod_steps 154 = .ok (.istore 6, 2) := by decide +kernel
theorem d_Mod_steps_156 : decode b_Mod_steps 156 = .ok (.iload 4, 2) := by decide +kernel
theorem d_Mod_steps_158 : decode b_Mod_steps 158 = .ok (.iconst 1, 1) := by decide +kernel
theorem d_Mod_steps_159 : decode b_Mod_steps 159 = .ok (.if_icmp .le 68, 3) := by decide +kernel
theorem d_Mod_steps_162 : decode b_Mod_steps 162 = .ok (.iload 5, 2) := by decide +kernel
theorem d_Mod_steps_164 : decode b_Mod_steps 164 = .ok (.iconst 1, 1) := by decide +kernel
theorem d_Mod_steps_165 : decode b_Mod_steps 165 = .ok (.if_icmp .le 62, 3) := by decide +kernel
theorem d_Mod_steps_168 : decode b_Mod_steps 168 = .ok (.iload 7, 2) := by decide +kernel
theorem d_Mod_steps_170 : decode b_Mod_steps 170 = .ok (.aload_n 0, 1) := by decide +kernel
theorem d_Mod_steps_171 : decode b_Mod_steps 171 = .ok (.getfield 7, 3) := by decide +kernel
theorem d_Mod_steps_174 : decode b_Mod_steps 174 = .ok (.iload 5, 2) := by decide +kernel
theorem d_Mod_steps_176 : decode b_Mod_steps 176 = .ok (.iconst 2, 1) := by decide +kernel
theorem d_Mod_steps_177 : decode b_Mod_steps 177 = .ok (.isub, 1) := by decide +kernel
theorem d_Mod_steps_178 : decode b_Mod_steps 178 = .ok (.baload, 1) := by decide +kernel
theorem d_Mod_steps_179 : decode b_Mod_steps 179 = .ok (.if_icmp .ne 48, 3) := by decide +kernel
theorem d_Mod_steps_182 : decode b_Mod_steps 182 = .ok (.aload_n 0, 1) := by decide +kernel
theorem d_Mod_steps_183 : decode b_Mod_steps 183 = .ok (.getfield 14, 3) := by decide +kernel
theorem d_Mod_steps_186 : decode b_Mod_steps 186 = .ok (.iload_n 1, 1) := by decide +kernel
theorem d_Mod_steps_187 : decode b_Mod_steps 187 = .ok (.bipush 60, 2) := by decide +kernel
theorem d_Mod_steps_189 : decode b_Mod_steps 189 = .ok (.imul, 1) := by decide +kernel
theorem d_Mod_steps_190 : decode b_Mod_steps 190 = .ok (.iload 4, 2) := by decide +kernel
theorem d_Mod_steps_192 : decode b_Mod_steps 192 = .ok (.iadd, 1) := by decide +kernel
theorem d_Mod_steps_193 : decode b_Mod_steps 193 = .ok (.iconst 2, 1) := by decide +kernel
theorem d_Mod_steps_194 : decode b_Mod_steps 194 = .ok (.isub, 1) := by decide +kernel
theorem d_Mod_steps_195 : decode b_Mod_steps 195 = .ok (.baload, 1) := by decide +kernel
theorem d_Mod_steps_196 : decode b_Mod_steps 196 = .ok (.iload 8, 2) := by decide +kernel
theorem d_Mod_steps_198 : decode b_Mod_steps 198 = .ok (.if_icmp .ne 29, 3) := by decide +kernel
theorem d_Mod_steps_201 : decode b_Mod_steps 201 = .ok (.iload 6, 2) := by decide +kernel
theorem d_Mod_steps_203 : decode b_Mod_steps 203 = .ok (.aload_n 0, 1) := by decide +kernel
theorem d_Mod_steps_204 : decode b_Mod_steps 204 = .ok (.getfield 36, 3) := by decide +kernel
theorem d_Mod_steps_207 : decode b_Mod_steps 207 = .ok (.iload 4, 2) := by decide +kernel
theorem d_Mod_steps_209 : decode b_Mod_steps 209 = .ok (.iconst 2, 1) := by decide +kernel
theorem d_Mod_steps_210 : decode b_Mod_steps 210 = .ok (.isub, 1) := by decide +kernel
theorem d_Mod_steps_211 : decode b_Mod_steps 211 = .ok (.bipush 61, 2) := by decide +kernel
theorem d_Mod_steps_213 : decode b_Mod_steps 213 = .ok (.imul, 1) := by decide +kernel
theorem d_Mod_steps_214 : decode b_Mod_steps 214 = .ok (.iload 5, 2) := by decide +kernel
theorem d_Mod_steps_216 : decode b_Mod_steps 216 = .ok (.iadd, 1) := by decide +kernel
theorem d_Mod_steps_217 : decode b_Mod_steps 217 = .ok (.iconst 2, 1) := by decide +kernel
theorem d_Mod_steps_218 : decode b_Mod_steps 218 = .ok (.isub, 1) := by decide +kernel
theorem d_Mod_steps_219 : decode b_Mod_steps 219 = .ok (.iaload, 1) := by decide +kernel
theorem d_Mod_steps_220 : decode b_Mod_steps 220 = .ok (.iconst 1, 1) := by decide +kernel
theorem d_Mod_steps_221 : decode b_Mod_steps 221 = .ok (.iadd, 1) := by decide +kernel
theorem d_Mod_steps_222 : decode b_Mod_steps 222 = .ok (.invokestatic 53, 3) := by decide +kernel
theorem d_Mod_steps_225 : decode b_Mod_steps 225 = .ok (.istore 6, 2) := by decide +kernel
theorem d_Mod_steps_227 : decode b_Mod_steps 227 = .ok (.aload_n 0, 1) := by decide +kernel
theorem d_Mod_steps_228 : decode b_Mod_steps 228 = .ok (.getfield 36, 3) := by decide +kernel
theorem d_Mod_steps_231 : decode b_Mod_steps 231 = .ok (.iload 4, 2) := by decide +kernel
theorem d_Mod_steps_233 : decode b_Mod_steps 233 = .ok (.bipush 61, 2) := by decide +kernel
theorem d_Mod_steps_235 : decode b_Mod_steps 235 = .ok (.imul, 1) := by decide +kernel
theorem d_Mod_steps_236 : decode b_Mod_steps 236 = .ok (.iload 5, 2) := by decide +kernel
theorem d_Mod_steps_238 : decode b_Mod_steps 238 = .ok (.iadd, 1) := by decide +kernel
theorem d_Mod_steps_239 : decode b_Mod_steps 239 = .ok (.iload 6, 2) := by decide +kernel
theorem d_Mod_steps_241 : decode b_Mod_steps 241 = .ok (.iastore, 1) := by decide +kernel
theorem d_Mod_steps_242 : decode b_Mod_steps 242 = .ok (.iinc 5 1, 3) := by decide +kernel
theorem d_Mod_steps_245 : decode b_Mod_steps 245 = .ok (.goto (-226), 3) := by decide +kernel
theorem d_Mod_steps_248 : decode b_Mod_steps 248 = .ok (.iinc 4 1, 3) := by decide +kernel
theorem d_Mod_steps_251 : decode b_Mod_steps 251 = .ok (.goto (-241), 3) := by decide +kernel
theorem d_Mod_steps_254 : decode b_Mod_steps 254 = .ok (.aload_n 0, 1) := by decide +kernel
theorem d_Mod_steps_255 : decode b_Mod_steps 255 = .ok (.getfield 36, 3) := by decide +kernel
theorem d_Mod_steps_258 : decode b_Mod_steps 258 = .ok (.iload_n 3, 1) := by decide +kernel
theorem d_Mod_steps_259 : decode b_Mod_steps 259 = .ok (.bipush 61, 2) := by decide +kernel
theorem d_Mod_steps_261 : decode b_Mod_steps 261 = .ok (.imul, 1) := by decide +kernel
theorem d_Mod_steps_262 : decode b_Mod_steps 262 = .ok (.iload_n 2, 1) := by decide +kernel
theorem d_Mod_steps_263 : decode b_Mod_steps 263 = .ok (.iadd, 1) := by decide +kernel
theorem d_Mod_steps_264 : decode b_Mod_steps 264 = .ok (.iaload, 1) := by decide +kernel
theorem d_Mod_steps_265 : decode b_Mod_steps 265 = .ok (.ireturn, 1) := by decide +kernel
theorem d_Mod_fits_0 : decode b_Mod_fits 0 = .ok (.aload_n 0, 1) := by decide +kernel
theorem d_Mod_fits_1 : decode b_Mod_fits 1 = .ok (.getfield 39, 3) := by decide +kernel
theorem d_Mod_fits_4 : decode b_Mod_fits 4 = .ok (.iconst 0, 1) := by decide +kernel
theorem d_Mod_fits_5 : decode b_Mod_fits 5 = .ok (.iconst 1, 1) := by decide +kernel
theorem d_Mod_fits_6 : decode b_Mod_fits 6 = .ok (.bastore, 1) := by decide +kernel
theorem d_Mod_fits_7 : decode b_Mod_fits 7 = .ok (.iconst 1, 1) := by decide +kernel
theorem d_Mod_fits_8 : decode b_Mod_fits 8 = .ok (.istore_n 3, 1) := by decide +kernel
theorem d_Mod_fits_9 : decode b_Mod_fits 9 = .ok (.iload_n 3, 1) := by decide +kernel
theorem d_Mod_fits_10 : decode b_Mod_fits 10 = .ok (.iload_n 2, 1) := by decide +kernel
theorem d_Mod_fits_11 : decode b_Mod_fits 11 = .ok (.if_icmp .gt 44, 3) := by decide +kernel
theorem d_Mod_fits_14 : decode b_Mod_fits 14 = .ok (.aload_n 0, 1) := by decide +kernel
theorem d_Mod_fits_15 : decode b_Mod_fits 15 = .ok (.getfield 39, 3) := by decide +kernel
theorem d_Mod_fits_18 : decode b_Mod_fits 18 = .ok (.iload_n 3, 1) := by decide +kernel
theorem d_Mod_fits_19 : decode b_Mod_fits 19 = .ok (.aload_n 0, 1) := by decide +kernel
theorem d_Mod_fits_20 : decode b_Mod_fits 20 = .ok (.getfield 39, 3) := by decide +kernel
theorem d_Mod_fits_23 : decode b_Mod_fits 23 = .ok (.iload_n 3, 1) := by decide +kernel
theorem d_Mod_fits_24 : decode b_Mod_fits 24 = .ok (.iconst 1, 1) := by decide +kernel
theorem d_Mod_fits_25 : decode b_Mod_fits 25 = .ok (.isub, 1) := by decide +kernel
theorem d_Mod_fits_26 : decode b_Mod_fits 26 = .ok (.baload, 1) := by decide +kernel
theorem d_Mod_fits_27 : decode b_Mod_fits 27 = .ok (.ifCond .eq 20, 3) := by decide +kernel
theorem d_Mod_fits_30 : decode b_Mod_fits 30 = .ok (.aload_n 0, 1) := by decide +kernel
theorem d_Mod_fits_31 : decode b_Mod_fits 31 = .ok (.getfield 7, 3) := by decide +kernel
theorem d_Mod_fits_34 : decode b_Mod_fits 34 = .ok (.iload_n 3, 1) := by decide +kernel
theorem d_Mod_fits_35 : decode b_Mod_fits 35 = .ok (.iconst 1, 1) := by decide +kernel
theorem d_Mod_fits_36 : decode b_Mod_fits 36 = .ok (.isub, 1) := by decide +kernel
theorem d_Mod_fits_37 : decode b_Mod_fits 37 = .ok (.baload, 1) := by decide +kernel
theorem d_Mod_fits_38 : decode b_Mod_fits 38 = .ok (.bipush 42, 2) := by decide +kernel
theorem d_Mod_fits_40 : decode b_Mod_fits 40 = .ok (.if_icmp .ne 7, 3) := by decide +kernel
theorem d_Mod_fits_43 : decode b_Mod_fits 43 = .ok (.iconst 1, 1) := by decide +kernel
theorem d_Mod_fits_44 : decode b_Mod_fits 44 = .ok (.goto 4, 3) := by decide +kernel
theorem d_Mod_fits_47 : decode b_Mod_fits 47 = .ok (.iconst 0, 1) := by decide +kernel
theorem d_Mod_fits_48 : decode b_Mod_fits 48 = .ok (.bastore, 1) := by decide +kernel
theorem d_Mod_fits_49 : decode b_Mod_fits 49 = .ok (.iinc 3 1, 3) := by decide +kernel
theorem d_Mod_fits_52 : decode b_Mod_fits 52 = .ok (.goto (-43), 3) := by decide +kernel
theorem d_Mod_fits_55 : decode b_Mod_fits 55 = .ok (.iconst 0, 1) := by decide +kernel
theorem d_Mod_fits_56 : decode b_Mod_fits 56 = .ok (.istore_n 3, 1) := by decide +kernel
theorem d_Mod_fits_57 : decode b_Mod_fits 57 = .ok (.iload_n 3, 1) := by decide +kernel
theorem d_Mod_fits_58 : decode b_Mod_fits 58 = .ok (.aload_n 0, 1) := by decide +kernel
theorem d_Mod_fits_59 : decode b_Mod_fits 59 = .ok (.getfield 20, 3) := by decide +kernel
theorem d_Mod_fits_62 : decode b_Mod_fits 62 = .ok (.iload_n 1, 1) := by decide +kernel
theorem d_Mod_fits_63 : decode b_Mod_fits 63 = .ok (.iaload, 1) := by decide +kernel
theorem d_Mod_fits_64 : decode b_Mod_fits 64 = .ok (.if_icmp .ge 159, 3) := by decide +kernel
theorem d_Mod_fits_67 : decode b_Mod_fits 67 = .ok (.aload_n 0, 1) := by decide +kernel
theorem d_Mod_fits_68 : decode b_Mod_fits 68 = .ok (.getfield 14, 3) := by decide +kernel
theorem d_Mod_fits_71 : decode b_Mod_fits 71 = .ok (.iload_n 1, 1) := by decide +kernel
theorem d_Mod_fits_72 : decode b_Mod_fits 72 = .ok (.bipush 60, 2) := by decide +kernel
theorem d_Mod_fits_74 : decode b_Mod_fits 74 = .ok (.imul, 1) := by decide +kernel
theorem d_Mod_fits_75 : decode b_Mod_fits 75 = .ok (.iload_n 3, 1) := by decide +kernel
theorem d_Mod_fits_76 : decode b_Mod_fits 76 = .ok (.iadd, 1) := by decide +kernel
theorem d_Mod_fits_77 : decode b_Mod_fits 77 = .ok (.baload, 1) := by decide +kernel
theorem d_Mod_fits_78 : decode b_Mod_fits 78 = .ok (.istore 4, 2) := by decide +kernel
theorem d_Mod_fits_80 : decode b_Mod_fits 80 = .ok (.aload_n 0, 1) := by decide +kernel
theorem d_Mod_fits_81 : decode b_Mod_fits 81 = .ok (.getfield 43, 3) := by decide +kernel
theorem d_Mod_fits_84 : decode b_Mod_fits 84 = .ok (.iconst 0, 1) := by decide +kernel
theorem d_Mod_fits_85 : decode b_Mod_fits 85 = .ok (.iconst 0, 1) := by decide +kernel
theorem d_Mod_fits_86 : decode b_Mod_fits 86 = .ok (.bastore, 1) := by decide +kernel
theorem d_Mod_fits_87 : decode b_Mod_fits 87 = .ok (.iconst 1, 1) := by decide +kernel
theorem d_Mod_fits_88 : decode b_Mod_fits 88 = .ok (.istore 5, 2) := by decide +kernel
theorem d_Mod_fits_90 : decode b_Mod_fits 90 = .ok (.iload 5, 2) := by decide +kernel
theorem d_Mod_fits_92 : decode b_Mod_fits 92 = .ok (.iload_n 2, 1) := by decide +kernel
theorem d_Mod_fits_93 : decode b_Mod_fits 93 = .ok (.if_icmp .gt 95, 3) := by decide +kernel
theorem d_Mod_fits_96 : decode b_Mod_fits 96 = .ok (.aload_n 0, 1) := by decide +kernel
theorem d_Mod_fits_97 : decode b_Mod_fits 97 = .ok (.getfield 7, 3) := by decide +kernel
theorem d_Mod_fits_100 : decode b_Mod_fits 100 = .ok (.iload 5, 2) := by decide +kernel
theorem d_Mod_fits_102 : decode b_Mod_fits 102 = .ok (.iconst 1, 1) := by decide +kernel
theorem d_Mod_fits_103 : decode b_Mod_fits 103 = .ok (.isub, 1) := by decide +kernel
theorem d_Mod_fits_104 : decode b_Mod_fits 104 = .ok (.baload, 1) := by decide +kernel
theorem d_Mod_fits_105 : decode b_Mod_fits 105 = .ok (.istore 6, 2) := by decide +kernel
theorem d_Mod_fits_107 : decode b_Mod_fits 107 = .ok (.aload_n 0, 1) := by decide +kernel
theorem d_Mod_fits_108 : decode b_Mod_fits 108 = .ok (.getfield 43, 3) := by decide +kernel
theorem d_Mod_fits_111 : decode b_Mod_fits 111 = .ok (.iload 5, 2) := by decide +kernel
theorem d_Mod_fits_113 : decode b_Mod_fits 113 = .ok (.iload 6, 2) := by decide +kernel
theorem d_Mod_fits_115 : decode b_Mod_fits 115 = .ok (.bipush 42, 2) := by decide +kernel
theorem d_Mod_fits_117 : decode b_Mod_fits 117 = .ok (.if_icmp .ne 33, 3) := by decide +kernel
theorem d_Mod_fits_120 : decode b_Mod_fits 120 = .ok (.aload_n 0, 1) := by decide +kernel
theorem d_Mod_fits_121 : decode b_Mod_fits 121 = .ok (.getfield 43, 3) := by decide +kernel
theorem d_Mod_fits_124 : decode b_Mod_fits 124 = .ok (.iload 5, 2) := by decide +kernel
theorem d_Mod_fits_126 : decode b_Mod_fits 126 = .ok (.iconst 1, 1) := by decide +kernel
theorem d_Mod_fits_127 : decode b_Mod_fits 127 = .ok (.isub, 1) := by decide +kernel
theorem d_Mod_fits_128 : decode b_Mod_fits 128 = .ok (.baload, 1) := by decide +kernel
theorem d_Mod_fits_129 : decode b_Mod_fits 129 = .ok (.ifCond .ne 13, 3) := by decide +kernel
theorem d_Mod_fits_132 : decode b_Mod_fits 132 = .ok (.aload_n 0, 1) := by decide +kernel
theorem d_Mod_fits_133 : decode b_Mod_fits 133 = .ok (.getfield 39, 3) := by decide +kernel
theorem d_Mod_fits_136 : decode b_Mod_fits 136 = .ok (.iload 5, 2) := by decide +kernel
theorem d_Mod_fits_138 : decode b_Mod_fits 138 = .ok (.baload, 1) := by decide +kernel
theorem d_Mod_fits_139 : decode b_Mod_fits 139 = .ok (.ifCond .eq 7, 3) := by decide +kernel
theorem d_Mod_fits_142 : decode b_Mod_fits 142 = .ok (.iconst 1, 1) := by decide +kernel
theorem d_Mod_fits_143 : decode b_Mod_fits 143 = .ok (.goto 38, 3) := by decide +kernel
theorem d_Mod_fits_146 : decode b_Mod_fits 146 = .ok (.iconst 0, 1) := by decide +kernel
theorem d_Mod_fits_147 : decode b_Mod_fits 147 = .ok (.goto 34, 3) := by decide +kernel
theorem d_Mod_fits_150 : decode b_Mod_fits 150 = .ok (.aload_n 0, 1) := by decide +kernel
theorem d_Mod_fits_151 : decode b_Mod_fits 151 = .ok (.getfield 39, 3) := by decide +kernel
theorem d_Mod_fits_154 : decode b_Mod_fits 154 = .ok (.iload 5, 2) := by decide +kernel
theorem d_Mod_fits_156 : decode b_Mod_fits 156 = .ok (.iconst 1, 1) := by decide +kernel
theorem d_Mod_fits_157 : decode b_Mod_fits 157 = .ok (.isub, 1) := by decide +kernel
theorem d_Mod_fits_158 : decode b_Mod_fits 158 = .ok (.baload, 1) := by decide +kernel
theorem d_Mod_fits_159 : decode b_Mod_fits 159 = .ok (.ifCond .eq 21, 3) := by decide +kernel
theorem d_Mod_fits_162 : decode b_Mod_fits 162 = .ok (.iload 6, 2) := by decide +kernel
theorem d_Mod_fits_164 : decode b_Mod_fits 164 = .ok (.bipush 63, 2) := by decide +kernel
theorem d_Mod_fits_166 : decode b_Mod_fits 166 = .ok (.if_icmp .eq 10, 3) := by decide +kernel
theorem d_Mod_fits_169 : decode b_Mod_fits 169 = .ok (.iload 6, 2) := by decide +kernel
theorem d_Mod_fits_171 : decode b_Mod_fits 171 = .ok (.iload 4, 2) := by decide +kernel
theorem d_Mod_fits_173 : decode b_Mod_fits 173 = .ok (.if_icmp .ne 7, 3) := by decide +kernel
theorem d_Mod_fits_176 : decode b_Mod_fits 176 = .ok (.iconst 1, 1) := by decide +kernel
theorem d_Mod_fits_177 : decode b_Mod_fits 177 = .ok (.goto 4, 3) := by decide +kernel
theorem d_Mod_fits_180 : decode b_Mod_fits 180 = .ok (.iconst 0, 1) := by decide +kernel
theorem d_Mod_fits_181 : decode b_Mod_fits 181 = .ok (.bastore, 1) := by decide +kernel
theorem d_Mod_fits_182 : decode b_Mod_fits 182 = .ok (.iinc 5 1, 3) := by decide +kernel
theorem d_Mod_fits_185 : decode b_Mod_fits 185 = .ok (.goto (-95), 3) := by decide +kernel
theorem d_Mod_fits_188 : decode b_Mod_fits 188 = .ok (.iconst 0, 1) := by decide +kernel
theorem d_Mod_fits_189 : decode b_Mod_fits 189 = .ok (.istore 5, 2) := by decide +kernel
theorem d_Mod_fits_191 : decode b_Mod_fits 191 = .ok (.iload 5, 2) := by decide +kernel
theorem d_Mod_fits_193 : decode b_Mod_fits 193 = .ok (.iload_n 2, 1) := by decide +kernel
theorem d_Mod_fits_194 : decode b_Mod_fits 194 = .ok (.if_icmp .gt 23, 3) := by decide +kernel
theorem d_Mod_fits_197 : decode b_Mod_fits 197 = .ok (.aload_n 0, 1) := by decide +kernel
theorem d_Mod_fits_198 : decode b_Mod_fits 198 = .ok (.getfield 39, 3) := by decide +kernel
theorem d_Mod_fits_201 : decode b_Mod_fits 201 = .ok (.iload 5, 2) := by decide +kernel
theorem d_Mod_fits_203 : decode b_Mod_fits 203 = .ok (.aload_n 0, 1) := by decide +kernel
theorem d_Mod_fits_204 : decode b_Mod_fits 204 = .ok (.getfield 43, 3) := by decide +kernel
theorem d_Mod_fits_207 : decode b_Mod_fits 207 = .ok (.iload 5, 2) := by decide +kernel
theorem d_Mod_fits_209 : decode b_Mod_fits 209 = .ok (.baload, 1) := by decide +kernel
theorem d_Mod_fits_210 : decode b_Mod_fits 210 = .ok (.bastore, 1) := by decide +kernel
theorem d_Mod_fits_211 : decode b_Mod_fits 211 = .ok (.iinc 5 1, 3) := by decide +kernel
theorem d_Mod_fits_214 : decode b_Mod_fits 214 = .ok (.goto (-23), 3) := by decide +kernel
theorem d_Mod_fits_217 : decode b_Mod_fits 217 = .ok (.iinc 3 1, 3) := by decide +kernel
theorem d_Mod_fits_220 : decode b_Mod_fits 220 = .ok (.goto (-163), 3) := by decide +kernel
theorem d_Mod_fits_223 : decode b_Mod_fits 223 = .ok (.aload_n 0, 1) := by decide +kernel
theorem d_Mod_fits_224 : decode b_Mod_fits 224 = .ok (.getfield 39, 3) := by decide +kernel
theorem d_Mod_fits_227 : decode b_Mod_fits 227 = .ok (.iload_n 2, 1) := by decide +kernel
theorem d_Mod_fits_228 : decode b_Mod_fits 228 = .ok (.baload, 1) := by decide +kernel
theorem d_Mod_fits_229 : decode b_Mod_fits 229 = .ok (.ireturn, 1) := by decide +kernel
theorem d_Mod_add_0 : decode b_Mod_add 0 = .ok (.aload_n 0, 1) := by decide +kernel
theorem d_Mod_add_1 : decode b_Mod_add 1 = .ok (.invokevirtual 63, 3) := by decide +kernel
theorem d_Mod_add_4 : decode b_Mod_add 4 = .ok (.istore_n 1, 1) := by decide +kernel
theorem d_Mod_add_5 : decode b_Mod_add 5 = .ok (.aload_n 0, 1) := by decide +kernel
theorem d_Mod_add_6 : decode b_Mod_add 6 = .ok (.iload_n 1, 1) := by decide +kernel
theorem d_Mod_add_7 : decode b_Mod_add 7 = .ok (.ifCond .ne 7, 3) := by decide +kernel
theorem d_Mod_add_10 : decode b_Mod_add 10 = .ok (.iconst 1, 1) := by decide +kernel
theorem d_Mod_add_11 : decode b_Mod_add 11 = .ok (.goto 4, 3) := by decide +kernel
theorem d_Mod_add_14 : decode b_Mod_add 14 = .ok (.iconst 0, 1) := by decide +kernel
theorem d_Mod_add_15 : decode b_Mod_add 15 = .ok (.putfield 46, 3) := by decide +kernel
theorem d_Mod_add_18 : decode b_Mod_add 18 = .ok (.iload_n 1, 1) := by decide +kernel
theorem d_Mod_add_19 : decode b_Mod_add 19 = .ok (.ifCond .ne 5, 3) := by decide +kernel
theorem d_Mod_add_22 : decode b_Mod_add 22 = .ok (.iconst 0, 1) := by decide +kernel
theorem d_Mod_add_23 : decode b_Mod_add 23 = .ok (.ireturn, 1) := by decide +kernel
theorem d_Mod_add_24 : decode b_Mod_add 24 = .ok (.aload_n 0, 1) := by decide +kernel
theorem d_Mod_add_25 : decode b_Mod_add 25 = .ok (.iload_n 1, 1) := by decide +kernel
theorem d_Mod_add_26 : decode b_Mod_add 26 = .ok (.invokevirtual 67, 3) := by decide +kernel
theorem d_Mod_add_29 : decode b_Mod_add 29 = .ok (.istore_n 2, 1) := by decide +kernel
theorem d_Mod_add_30 : decode b_Mod_add 30 = .ok (.iload_n 2, 1) := by decide +kernel
theorem d_Mod_add_31 : decode b_Mod_add 31 = .ok (.aload_n 0, 1) := by decide +kernel
theorem d_Mod_add_32 : decode b_Mod_add 32 = .ok (.getfield 57, 3) := by decide +kernel
theorem d_Mod_add_35 : decode b_Mod_add 35 = .ok (.if_icmp .ge 17, 3) := by decide +kernel
theorem d_Mod_add_38 : decode b_Mod_add 38 = .ok (.aload_n 0, 1) := by decide +kernel
theorem d_Mod_add_39 : decode b_Mod_add 39 = .ok (.iload_n 2, 1) := by decide +kernel
theorem d_Mod_add_40 : decode b_Mod_add 40 = .ok (.iload_n 1, 1) := by decide +kernel
theorem d_Mod_add_41 : decode b_Mod_add 41 = .ok (.invokevirtual 60, 3) := by decide +kernel
theorem d_Mod_add_44 : decode b_Mod_add 44 = .ok (.ifCond .ne 8, 3) := by decide +kernel
theorem d_Mod_add_47 : decode b_Mod_add 47 = .ok (.aload_n 0, 1) := by decide +kernel
theorem d_Mod_add_48 : decode b_Mod_add 48 = .ok (.getfield 57, 3) := by decide +kernel
theorem d_Mod_add_51 : decode b_Mod_add 51 = .ok (.ireturn, 1) := by decide +kernel
theorem d_Mod_add_52 : decode b_Mod_add 52 = .ok (.aload_n 0, 1) := by decide +kernel
theorem d_Mod_add_53 : decode b_Mod_add 53 = .ok (.getfield 57, 3) := by decide +kernel
theorem d_Mod_add_56 : decode b_Mod_add 56 = .ok (.sipush 1000, 3) := by decide +kernel
theorem d_Mod_add_59 : decode b_Mod_add 59 = .ok (.if_icmp .eq 15, 3) := by decide +kernel
theorem d_Mod_add_62 : decode b_Mod_add 62 = .ok (.aload_n 0, 1) := by decide +kernel
theorem d_Mod_add_63 : decode b_Mod_add 63 = .ok (.getfield 71, 3) := by decide +kernel
theorem d_Mod_add_66 : decode b_Mod_add 66 = .ok (.iload_n 1, 1) := by decide +kernel
theorem d_Mod_add_67 : decode b_Mod_add 67 = .ok (.iadd, 1) := by decide +kernel
theorem d_Mod_add_68 : decode b_Mod_add 68 = .ok (.sipush 12000, 3) := by decide +kernel
theorem d_Mod_add_71 : decode b_Mod_add 71 = .ok (.if_icmp .le 10, 3) := by decide +kernel
theorem d_Mod_add_74 : decode b_Mod_add 74 = .ok (.aload_n 0, 1) := by decide +kernel
theorem d_Mod_add_75 : decode b_Mod_add 75 = .ok (.iconst 2, 1) := by decide +kernel
theorem d_Mod_add_76 : decode b_Mod_add 76 = .ok (.putfield 46, 3) := by decide +kernel
theorem d_Mod_add_79 : decode b_Mod_add 79 = .ok (.iconst 0, 1) := by decide +kernel
theorem d_Mod_add_80 : decode b_Mod_add 80 = .ok (.ireturn, 1) := by decide +kernel
theorem d_Mod_add_81 : decode b_Mod_add 81 = .ok (.aload_n 0, 1) := by decide +kernel
theorem d_Mod_add_82 : decode b_Mod_add 82 = .ok (.getfield 57, 3) := by decide +kernel
theorem d_Mod_add_85 : decode b_Mod_add 85 = .ok (.istore_n 3, 1) := by decide +kernel
theorem d_Mod_add_86 : decode b_Mod_add 86 = .ok (.iload_n 3, 1) := by decide +kernel
theorem d_Mod_add_87 : decode b_Mod_add 87 = .ok (.iload_n 2, 1) := by decide +kernel
theorem d_Mod_add_88 : decode b_Mod_add 88 = .ok (.if_icmp .le 25, 3) := by decide +kernel
theorem d_Mod_add_91 : decode b_Mod_add 91 = .ok (.aload_n 0, 1) := by decide +kernel
theorem d_Mod_add_92 : decode b_Mod_add 92 = .ok (.iload_n 3, 1) := by decide +kernel
theorem d_Mod_add_93 : decode b_Mod_add 93 = .ok (.iconst 1, 1) := by decide +kernel
theorem d_Mod_add_94 : decode b_Mod_add 94 = .ok (.isub, 1) := by decide +kernel
theorem d_Mod_add_95 : decode b_Mod_add 95 = .ok (.iload_n 3, 1) := by decide +kernel
theorem d_Mod_add_96 : decode b_Mod_add 96 = .ok (.aload_n 0, 1) := by decide +kernel
theorem d_Mod_add_97 : decode b_Mod_add 97 = .ok (.getfield 20, 3) := by decide +kernel
theorem d_Mod_add_100 : decode b_Mod_add 100 = .ok (.iload_n 3, 1) := by decide +kernel
theorem d_Mod_add_101 : decode b_Mod_add 101 = .ok (.iconst 1, 1) := by decide +kernel
theorem d_Mod_add_102 : decode b_Mod_add 102 = .ok (.isub, 1) := by decide +kernel
theorem d_Mod_add_103 : decode b_Mod_add 103 = .ok (.iaload, 1) := by decide +kernel
theorem d_Mod_add_104 : decode b_Mod_add 104 = .ok (.invokevirtual 74, 3) := by decide +kernel
theorem d_Mod_add_107 : decode b_Mod_add 107 = .ok (.iinc 3 (-1), 3) := by decide +kernel
theorem d_Mod_add_110 : decode b_Mod_add 110 = .ok (.goto (-24), 3) := by decide +kernel
theorem d_Mod_add_113 : decode b_Mod_add 113 = .ok (.iconst 0, 1) := by decide +kernel
theorem d_Mod_add_114 : decode b_Mod_add 114 = .ok (.istore_n 3, 1) := by decide +kernel
theorem d_Mod_add_115 : decode b_Mod_add 115 = .ok (.iload_n 3, 1) := by decide +kernel
theorem d_Mod_add_116 : decode b_Mod_add 116 = .ok (.iload_n 1, 1) := by decide +kernel
theorem d_Mod_add_117 : decode b_Mod_add 117 = .ok (.if_icmp .ge 26, 3) := by decide +kernel
theorem d_Mod_add_120 : decode b_Mod_add 120 = .ok (.aload_n 0, 1) := by decide +kernel
theorem d_Mod_add_121 : decode b_Mod_add 121 = .ok (.getfield 14, 3) := by decide +kernel
theorem d_Mod_add_124 : decode b_Mod_add 124 = .ok (.iload_n 2, 1) := by decide +kernel
theorem d_Mod_add_125 : decode b_Mod_add 125 = .ok (.bipush 60, 2) := by decide +kernel
theorem d_Mod_add_127 : decode b_Mod_add 127 = .ok (.imul, 1) := by decide +kernel
theorem d_Mod_add_128 : decode b_Mod_add 128 = .ok (.iload_n 3, 1) := by decide +kernel
theorem d_Mod_add_129 : decode b_Mod_add 129 = .ok (.iadd, 1) := by decide +kernel
theorem d_Mod_add_130 : decode b_Mod_add 130 = .ok (.aload_n 0, 1) := by decide +kernel
theorem d_Mod_add_131 : decode b_Mod_add 131 = .ok (.getfield 7, 3) := by decide +kernel
theorem d_Mod_add_134 : decode b_Mod_add 134 = .ok (.iload_n 3, 1) := by decide +kernel
theorem d_Mod_add_135 : decode b_Mod_add 135 = .ok (.baload, 1) := by decide +kernel
theorem d_Mod_add_136 : decode b_Mod_add 136 = .ok (.bastore, 1) := by decide +kernel
theorem d_Mod_add_137 : decode b_Mod_add 137 = .ok (.iinc 3 1, 3) := by decide +kernel
theorem d_Mod_add_140 : decode b_Mod_add 140 = .ok (.goto (-25), 3) := by decide +kernel
theorem d_Mod_add_143 : decode b_Mod_add 143 = .ok (.aload_n 0, 1) := by decide +kernel
theorem d_Mod_add_144 : decode b_Mod_add 144 = .ok (.getfield 20, 3) := by decide +kernel
theorem d_Mod_add_147 : decode b_Mod_add 147 = .ok (.iload_n 2, 1) := by decide +kernel
theorem d_Mod_add_148 : decode b_Mod_add 148 = .ok (.iload_n 1, 1) := by decide +kernel
theorem d_Mod_add_149 : decode b_Mod_add 149 = .ok (.iastore, 1) := by decide +kernel
theorem d_Mod_add_150 : decode b_Mod_add 150 = .ok (.aload_n 0, 1) := by decide +kernel
theorem d_Mod_add_151 : decode b_Mod_add 151 = .ok (.dup, 1) := by decide +kernel
theorem d_Mod_add_152 : decode b_Mod_add 152 = .ok (.getfield 57, 3) := by decide +kernel
theorem d_Mod_add_155 : decode b_Mod_add 155 = .ok (.iconst 1, 1) := by decide +kernel
theorem d_Mod_add_156 : decode b_Mod_add 156 = .ok (.iadd, 1) := by decide +kernel
theorem d_Mod_add_157 : decode b_Mod_add 157 = .ok (.putfield 57, 3) := by decide +kernel
theorem d_Mod_add_160 : decode b_Mod_add 160 = .ok (.aload_n 0, 1) := by decide +kernel
theorem d_Mod_add_161 : decode b_Mod_add 161 = .ok (.dup, 1) := by decide +kernel
theorem d_Mod_add_162 : decode b_Mod_add 162 = .ok (.getfield 71, 3) := by decide +kernel
theorem d_Mod_add_165 : decode b_Mod_add 165 = .ok (.iload_n 1, 1) := by decide +kernel
theorem d_Mod_add_166 : decode b_Mod_add 166 = .ok (.iadd, 1) := by decide +kernel
theorem d_Mod_add_167 : decode b_Mod_add 167 = .ok (.putfield 71, 3) := by decide +kernel
theorem d_Mod_add_170 : decode b_Mod_add 170 = .ok (.aload_n 0, 1) := by decide +kernel
theorem d_Mod_add_171 : decode b_Mod_add 171 = .ok (.getfield 57, 3) := by decide +kernel
theorem d_Mod_add_174 : decode b_Mod_add 174 = .ok (.ireturn, 1) := by decide +kernel
theorem d_Mod_remove_0 : decode b_Mod_remove 0 = .ok (.aload_n 0, 1) := by decide +kernel
theorem d_Mod_remove_1 : decode b_Mod_remove 1 = .ok (.invokevirtual 63, 3) := by decide +kernel
theorem d_Mod_remove_4 : decode b_Mod_remove 4 = .ok (.istore_n 1, 1) := by decide +kernel
theorem d_Mod_remove_5 : decode b_Mod_remove 5 = .ok (.aload_n 0, 1) := by decide +kernel
theorem d_Mod_remove_6 : decode b_Mod_remove 6 = .ok (.iload_n 1, 1) := by decide +kernel
theorem d_Mod_remove_7 : decode b_Mod_remove 7 = .ok (.ifCond .ne 7, 3) := by decide +kernel
theorem d_Mod_remove_10 : decode b_Mod_remove 10 = .ok (.iconst 1, 1) := by decide +kernel
theorem d_Mod_remove_11 : decode b_Mod_remove 11 = .ok (.goto 4, 3) := by decide +kernel
theorem d_Mod_remove_14 : decode b_Mod_remove 14 = .ok (.iconst 0, 1) := by decide +kernel
theorem d_Mod_remove_15 : decode b_Mod_remove 15 = .ok (.putfield 46, 3) := by decide +kernel
theorem d_Mod_remove_18 : decode b_Mod_remove 18 = .ok (.iload_n 1, 1) := by decide +kernel
theorem d_Mod_remove_19 : decode b_Mod_remove 19 = .ok (.ifCond .ne 5, 3) := by decide +kernel
theorem d_Mod_remove_22 : decode b_Mod_remove 22 = .ok (.iconst 0, 1) := by decide +kernel
theorem d_Mod_remove_23 : decode b_Mod_remove 23 = .ok (.ireturn, 1) := by decide +kernel
theorem d_Mod_remove_24 : decode b_Mod_remove 24 = .ok (.aload_n 0, 1) := by decide +kernel
theorem d_Mod_remove_25 : decode b_Mod_remove 25 = .ok (.iload_n 1, 1) := by decide +kernel
theorem d_Mod_remove_26 : decode b_Mod_remove 26 = .ok (.invokevirtual 67, 3) := by decide +kernel
theorem d_Mod_remove_29 : decode b_Mod_remove 29 = .ok (.istore_n 2, 1) := by decide +kernel
theorem d_Mod_remove_30 : decode b_Mod_remove 30 = .ok (.iload_n 2, 1) := by decide +kernel
theorem d_Mod_remove_31 : decode b_Mod_remove 31 = .ok (.aload_n 0, 1) := by decide +kernel
theorem d_Mod_remove_32 : decode b_Mod_remove 32 = .ok (.getfield 57, 3) := by decide +kernel
theorem d_Mod_remove_35 : decode b_Mod_remove 35 = .ok (.if_icmp .eq 12, 3) := by decide +kernel
theorem d_Mod_remove_38 : decode b_Mod_remove 38 = .ok (.aload_n 0, 1) := by decide +kernel
theorem d_Mod_remove_39 : decode b_Mod_remove 39 = .ok (.iload_n 2, 1) := by decide +kernel
theorem d_Mod_remove_40 : decode b_Mod_remove 40 = .ok (.iload_n 1, 1) := by decide +kernel
theorem d_Mod_remove_41 : decode b_Mod_remove 41 = .ok (.invokevirtual 60, 3) := by decide +kernel
theorem d_Mod_remove_44 : decode b_Mod_remove 44 = .ok (.ifCond .eq 8, 3) := by decide +kernel
theorem d_Mod_remove_47 : decode b_Mod_remove 47 = .ok (.aload_n 0, 1) := by decide +kernel
theorem d_Mod_remove_48 : decode b_Mod_remove 48 = .ok (.getfield 57, 3) := by decide +kernel
theorem d_Mod_remove_51 : decode b_Mod_remove 51 = .ok (.ireturn, 1) := by decide +kernel
theorem d_Mod_remove_52 : decode b_Mod_remove 52 = .ok (.iload_n 2, 1) := by decide +kernel
theorem d_Mod_remove_53 : decode b_Mod_remove 53 = .ok (.istore_n 3, 1) := by decide +kernel
theorem d_Mod_remove_54 : decode b_Mod_remove 54 = .ok (.iload_n 3, 1) := by decide +kernel
theorem d_Mod_remove_55 : decode b_Mod_remove 55 = .ok (.iconst 1, 1) := by decide +kernel
theorem d_Mod_remove_56 : decode b_Mod_remove 56 = .ok (.iadd, 1) := by decide +kernel
theorem d_Mod_remove_57 : decode b_Mod_remove 57 = .ok (.aload_n 0, 1) := by decide +kernel
theorem d_Mod_remove_58 : decode b_Mod_remove 58 = .ok (.getfield 57, 3) := by decide +kernel
theorem d_Mod_remove_61 : decode b_Mod_remove 61 = .ok (.if_icmp .ge 25, 3) := by decide +kernel
theorem d_Mod_remove_64 : decode b_Mod_remove 64 = .ok (.aload_n 0, 1) := by decide +kernel
theorem d_Mod_remove_65 : decode b_Mod_remove 65 = .ok (.iload_n 3, 1) := by decide +kernel
theorem d_Mod_remove_66 : decode b_Mod_remove 66 = .ok (.iconst 1, 1) := by decide +kernel
theorem d_Mod_remove_67 : decode b_Mod_remove 67 = .ok (.iadd, 1) := by decide +kernel
theorem d_Mod_remove_68 : decode b_Mod_remove 68 = .ok (.iload_n 3, 1) := by decide +kernel
theorem d_Mod_remove_69 : decode b_Mod_remove 69 = .ok (.aload_n 0, 1) := by decide +kernel
theorem d_Mod_remove_70 : decode b_Mod_remove 70 = .ok (.getfield 20, 3) := by decide +kernel
theorem d_Mod_remove_73 : decode b_Mod_remove 73 = .ok (.iload_n 3, 1) := by decide +kernel
theorem d_Mod_remove_74 : decode b_Mod_remove 74 = .ok (.iconst 1, 1) := by decide +kernel
theorem d_Mod_remove_75 : decode b_Mod_remove 75 = .ok (.iadd, 1) := by decide +kernel
theorem d_Mod_remove_76 : decode b_Mod_remove 76 = .ok (.iaload, 1) := by decide +kernel
theorem d_Mod_remove_77 : decode b_Mod_remove 77 = .ok (.invokevirtual 74, 3) := by decide +kernel
theorem d_Mod_remove_80 : decode b_Mod_remove 80 = .ok (.iinc 3 1, 3) := by decide +kernel
theorem d_Mod_remove_83 : decode b_Mod_remove 83 = .ok (.goto (-29), 3) := by decide +kernel
theorem d_Mod_remove_86 : decode b_Mod_remove 86 = .ok (.aload_n 0, 1) := by decide +kernel
theorem d_Mod_remove_87 : decode b_Mod_remove 87 = .ok (.dup, 1) := by decide +kernel
theorem d_Mod_remove_88 : decode b_Mod_remove 88 = .ok (.getfield 57, 3) := by decide +kernel
theorem d_Mod_remove_91 : decode b_Mod_remove 91 = .ok (.iconst 1, 1) := by decide +kernel
theorem d_Mod_remove_92 : decode b_Mod_remove 92 = .ok (.isub, 1) := by decide +kernel
theorem d_Mod_remove_93 : decode b_Mod_remove 93 = .ok (.putfield 57, 3) := by decide +kernel
theorem d_Mod_remove_96 : decode b_Mod_remove 96 = .ok (.aload_n 0, 1) := by decide +kernel
theorem d_Mod_remove_97 : decode b_Mod_remove 97 = .ok (.dup, 1) := by decide +kernel
theorem d_Mod_remove_98 : decode b_Mod_remove 98 = .ok (.getfield 71, 3) := by decide +kernel
theorem d_Mod_remove_101 : decode b_Mod_remove 101 = .ok (.iload_n 1, 1) := by decide +kernel
theorem d_Mod_remove_102 : decode b_Mod_remove 102 = .ok (.isub, 1) := by decide +kernel
theorem d_Mod_remove_103 : decode b_Mod_remove 103 = .ok (.putfield 71, 3) := by decide +kernel
theorem d_Mod_remove_106 : decode b_Mod_remove 106 = .ok (.aload_n 0, 1) := by decide +kernel
theorem d_Mod_remove_107 : decode b_Mod_remove 107 = .ok (.getfield 57, 3) := by decide +kernel
theorem d_Mod_remove_110 : decode b_Mod_remove 110 = .ok (.ireturn, 1) := by decide +kernel
theorem d_Mod_like_0 : decode b_Mod_like 0 = .ok (.aload_n 0, 1) := by decide +kernel
theorem d_Mod_like_1 : decode b_Mod_like 1 = .ok (.invokevirtual 63, 3) := by decide +kernel
theorem d_Mod_like_4 : decode b_Mod_like 4 = .ok (.istore_n 1, 1) := by decide +kernel
theorem d_Mod_like_5 : decode b_Mod_like 5 = .ok (.aload_n 0, 1) := by decide +kernel
theorem d_Mod_like_6 : decode b_Mod_like 6 = .ok (.iconst 0, 1) := by decide +kernel
theorem d_Mod_like_7 : decode b_Mod_like 7 = .ok (.putfield 46, 3) := by decide +kernel
theorem d_Mod_like_10 : decode b_Mod_like 10 = .ok (.iconst 0, 1) := by decide +kernel
theorem d_Mod_like_11 : decode b_Mod_like 11 = .ok (.istore_n 2, 1) := by decide +kernel
theorem d_Mod_like_12 : decode b_Mod_like 12 = .ok (.iconst 0, 1) := by decide +kernel
theorem d_Mod_like_13 : decode b_Mod_like 13 = .ok (.istore_n 3, 1) := by decide +kernel
theorem d_Mod_like_14 : decode b_Mod_like 14 = .ok (.iload_n 3, 1) := by decide +kernel
theorem d_Mod_like_15 : decode b_Mod_like 15 = .ok (.aload_n 0, 1) := by decide +kernel
theorem d_Mod_like_16 : decode b_Mod_like 16 = .ok (.getfield 57, 3) := by decide +kernel
theorem d_Mod_like_19 : decode b_Mod_like 19 = .ok (.if_icmp .ge 37, 3) := by decide +kernel
theorem d_Mod_like_22 : decode b_Mod_like 22 = .ok (.aload_n 0, 1) := by decide +kernel
theorem d_Mod_like_23 : decode b_Mod_like 23 = .ok (.iload_n 3, 1) := by decide +kernel
theorem d_Mod_like_24 : decode b_Mod_like 24 = .ok (.iload_n 1, 1) := by decide +kernel
theorem d_Mod_like_25 : decode b_Mod_like 25 = .ok (.invokevirtual 87, 3) := by decide +kernel
theorem d_Mod_like_28 : decode b_Mod_like 28 = .ok (.ifCond .ne 6, 3) := by decide +kernel
theorem d_Mod_like_31 : decode b_Mod_like 31 = .ok (.goto 19, 3) := by decide +kernel
theorem d_Mod_like_34 : decode b_Mod_like 34 = .ok (.iload_n 2, 1) := by decide +kernel
theorem d_Mod_like_35 : decode b_Mod_like 35 = .ok (.bipush 50, 2) := by decide +kernel
theorem d_Mod_like_37 : decode b_Mod_like 37 = .ok (.if_icmp .ge 10, 3) := by decide +kernel
theorem d_Mod_like_40 : decode b_Mod_like 40 = .ok (.aload_n 0, 1) := by decide +kernel
theorem d_Mod_like_41 : decode b_Mod_like 41 = .ok (.iload_n 2, 1) := by decide +kernel
theorem d_Mod_like_42 : decode b_Mod_like 42 = .ok (.iload_n 3, 1) := by decide +kernel
theorem d_Mod_like_43 : decode b_Mod_like 43 = .ok (.iconst 0, 1) := by decide +kernel
theorem d_Mod_like_44 : decode b_Mod_like 44 = .ok (.invokevirtual 84, 3) := by decide +kernel
theorem d_Mod_like_47 : decode b_Mod_like 47 = .ok (.iinc 2 1, 3) := by decide +kernel
theorem d_Mod_like_50 : decode b_Mod_like 50 = .ok (.iinc 3 1, 3) := by decide +kernel
theorem d_Mod_like_53 : decode b_Mod_like 53 = .ok (.goto (-39), 3) := by decide +kernel
theorem d_Mod_like_56 : decode b_Mod_like 56 = .ok (.aload_n 0, 1) := by decide +kernel
theorem d_Mod_like_57 : decode b_Mod_like 57 = .ok (.iload_n 2, 1) := by decide +kernel
theorem d_Mod_like_58 : decode b_Mod_like 58 = .ok (.bipush 50, 2) := by decide +kernel
theorem d_Mod_like_60 : decode b_Mod_like 60 = .ok (.invokestatic 53, 3) := by decide +kernel
theorem d_Mod_like_63 : decode b_Mod_like 63 = .ok (.putfield 81, 3) := by decide +kernel
theorem d_Mod_like_66 : decode b_Mod_like 66 = .ok (.iload_n 2, 1) := by decide +kernel
theorem d_Mod_like_67 : decode b_Mod_like 67 = .ok (.ireturn, 1) := by decide +kernel
theorem d_Mod_near_0 : decode b_Mod_near 0 = .ok (.aload_n 0, 1) := by decide +kernel
theorem d_Mod_near_1 : decode b_Mod_near 1 = .ok (.invokevirtual 63, 3) := by decide +kernel
theorem d_Mod_near_4 : decode b_Mod_near 4 = .ok (.istore_n 2, 1) := by decide +kernel
theorem d_Mod_near_5 : decode b_Mod_near 5 = .ok (.aload_n 0, 1) := by decide +kernel
theorem d_Mod_near_6 : decode b_Mod_near 6 = .ok (.iload_n 1, 1) := by decide +kernel
theorem d_Mod_near_7 : decode b_Mod_near 7 = .ok (.ifCond .lt 12, 3) := by decide +kernel
theorem d_Mod_near_10 : decode b_Mod_near 10 = .ok (.iload_n 1, 1) := by decide +kernel
theorem d_Mod_near_11 : decode b_Mod_near 11 = .ok (.iconst 3, 1) := by decide +kernel
theorem d_Mod_near_12 : decode b_Mod_near 12 = .ok (.if_icmp .gt 7, 3) := by decide +kernel
theorem d_Mod_near_15 : decode b_Mod_near 15 = .ok (.iload_n 2, 1) := by decide +kernel
theorem d_Mod_near_16 : decode b_Mod_near 16 = .ok (.ifCond .ne 7, 3) := by decide +kernel
theorem d_Mod_near_19 : decode b_Mod_near 19 = .ok (.iconst 1, 1) := by decide +kernel
theorem d_Mod_near_20 : decode b_Mod_near 20 = .ok (.goto 4, 3) := by decide +kernel
theorem d_Mod_near_23 : decode b_Mod_near 23 = .ok (.iconst 0, 1) := by decide +kernel
theorem d_Mod_near_24 : decode b_Mod_near 24 = .ok (.putfield 46, 3) := by decide +kernel
theorem d_Mod_near_27 : decode b_Mod_near 27 = .ok (.aload_n 0, 1) := by decide +kernel
theorem d_Mod_near_28 : decode b_Mod_near 28 = .ok (.getfield 46, 3) := by decide +kernel
theorem d_Mod_near_31 : decode b_Mod_near 31 = .ok (.ifCond .eq 5, 3) := by decide +kernel
theorem d_Mod_near_34 : decode b_Mod_near 34 = .ok (.iconst 0, 1) := by decide +kernel
theorem d_Mod_near_35 : decode b_Mod_near 35 = .ok (.ireturn, 1) := by decide +kernel
theorem d_Mod_near_36 : decode b_Mod_near 36 = .ok (.iconst 0, 1) := by decide +kernel
theorem d_Mod_near_37 : decode b_Mod_near 37 = .ok (.istore_n 3, 1) := by decide +kernel
theorem d_Mod_near_38 : decode b_Mod_near 38 = .ok (.iconst 0, 1) := by decide +kernel
theorem d_Mod_near_39 : decode b_Mod_near 39 = .ok (.istore 4, 2) := by decide +kernel
theorem d_Mod_near_41 : decode b_Mod_near 41 = .ok (.iload 4, 2) := by decide +kernel
theorem d_Mod_near_43 : decode b_Mod_near 43 = .ok (.iload_n 1, 1) := by decide +kernel
theorem d_Mod_near_44 : decode b_Mod_near 44 = .ok (.if_icmp .gt 90, 3) := by decide +kernel
theorem d_Mod_near_47 : decode b_Mod_near 47 = .ok (.iconst 0, 1) := by decide +kernel
theorem d_Mod_near_48 : decode b_Mod_near 48 = .ok (.istore 5, 2) := by decide +kernel
theorem d_Mod_near_50 : decode b_Mod_near 50 = .ok (.iload 5, 2) := by decide +kernel
theorem d_Mod_near_52 : decode b_Mod_near 52 = .ok (.aload_n 0, 1) := by decide +kernel
theorem d_Mod_near_53 : decode b_Mod_near 53 = .ok (.getfield 57, 3) := by decide +kernel
theorem d_Mod_near_56 : decode b_Mod_near 56 = .ok (.if_icmp .ge 72, 3) := by decide +kernel
theorem d_Mod_near_59 : decode b_Mod_near 59 = .ok (.iload_n 3, 1) := by decide +kernel
theorem d_Mod_near_60 : decode b_Mod_near 60 = .ok (.bipush 50, 2) := by decide +kernel
theorem d_Mod_near_62 : decode b_Mod_near 62 = .ok (.if_icmp .ge 66, 3) := by decide +kernel
theorem d_Mod_near_65 : decode b_Mod_near 65 = .ok (.aload_n 0, 1) := by decide +kernel
theorem d_Mod_near_66 : decode b_Mod_near 66 = .ok (.iload 5, 2) := by decide +kernel
theorem d_Mod_near_68 : decode b_Mod_near 68 = .ok (.iload_n 2, 1) := by decide +kernel
theorem d_Mod_near_69 : decode b_Mod_near 69 = .ok (.invokevirtual 78, 3) := by decide +kernel
theorem d_Mod_near_72 : decode b_Mod_near 72 = .ok (.iload 4, 2) := by decide +kernel
theorem d_Mod_near_74 : decode b_Mod_near 74 = .ok (.if_icmp .ne 48, 3) := by decide +kernel
theorem d_Mod_near_77 : decode b_Mod_near 77 = .ok (.iload 4, 2) := by decide +kernel
theorem d_Mod_near_79 : decode b_Mod_near 79 = .ok (.ifCond .le 24, 3) := by decide +kernel
theorem d_Mod_near_82 : decode b_Mod_near 82 = .ok (.iload 4, 2) := by decide +kernel
theorem d_Mod_near_84 : decode b_Mod_near 84 = .ok (.iload_n 2, 1) := by decide +kernel
theorem d_Mod_near_85 : decode b_Mod_near 85 = .ok (.if_icmp .ge 37, 3) := by decide +kernel
theorem d_Mod_near_88 : decode b_Mod_near 88 = .ok (.iload 4, 2) := by decide +kernel
theorem d_Mod_near_90 : decode b_Mod_near 90 = .ok (.aload_n 0, 1) := by decide +kernel
theorem d_Mod_near_91 : decode b_Mod_near 91 = .ok (.getfield 20, 3) := by decide +kernel
theorem d_Mod_near_94 : decode b_Mod_near 94 = .ok (.iload 5, 2) := by decide +kernel
theorem d_Mod_near_96 : decode b_Mod_near 96 = .ok (.iaload, 1) := by decide +kernel
theorem d_Mod_near_97 : decode b_Mod_near 97 = .ok (.if_icmp .lt 6, 3) := by decide +kernel
theorem d_Mod_near_100 : decode b_Mod_near 100 = .ok (.goto 22, 3) := by decide +kernel
theorem d_Mod_near_103 : decode b_Mod_near 103 = .ok (.aload_n 0, 1) := by decide +kernel
theorem d_Mod_near_104 : decode b_Mod_near 104 = .ok (.getfield 30, 3) := by decide +kernel
theorem d_Mod_near_107 : decode b_Mod_near 107 = .ok (.iload_n 3, 1) := by decide +kernel
theorem d_Mod_near_108 : decode b_Mod_near 108 = .ok (.iload 5, 2) := by decide +kernel
theorem d_Mod_near_110 : decode b_Mod_near 110 = .ok (.iastore, 1) := by decide +kernel
theorem d_Mod_near_111 : decode b_Mod_near 111 = .ok (.aload_n 0, 1) := by decide +kernel
theorem d_Mod_near_112 : decode b_Mod_near 112 = .ok (.getfield 33, 3) := by decide +kernel
theorem d_Mod_near_115 : decode b_Mod_near 115 = .ok (.iload_n 3, 1) := by decide +kernel
theorem d_Mod_near_116 : decode b_Mod_near 116 = .ok (.iload 4, 2) := by decide +kernel
theorem d_Mod_near_118 : decode b_Mod_near 118 = .ok (.iastore, 1) := by decide +kernel
theorem d_Mod_near_119 : decode b_Mod_near 119 = .ok (.iinc 3 1, 3) := by decide +kernel
theorem d_Mod_near_122 : decode b_Mod_near 122 = .ok (.iinc 5 1, 3) := by decide +kernel
theorem d_Mod_near_125 : decode b_Mod_near 125 = .ok (.goto (-75), 3) := by decide +kernel
theorem d_Mod_near_128 : decode b_Mod_near 128 = .ok (.iinc 4 1, 3) := by decide +kernel
theorem d_Mod_near_131 : decode b_Mod_near 131 = .ok (.goto (-90), 3) := by decide +kernel
theorem d_Mod_near_134 : decode b_Mod_near 134 = .ok (.aload_n 0, 1) := by decide +kernel
theorem d_Mod_near_135 : decode b_Mod_near 135 = .ok (.iconst 0, 1) := by decide +kernel
theorem d_Mod_near_136 : decode b_Mod_near 136 = .ok (.putfield 81, 3) := by decide +kernel
theorem d_Mod_near_139 : decode b_Mod_near 139 = .ok (.iconst 0, 1) := by decide +kernel
theorem d_Mod_near_140 : decode b_Mod_near 140 = .ok (.istore 4, 2) := by decide +kernel
theorem d_Mod_near_142 : decode b_Mod_near 142 = .ok (.iload 4, 2) := by decide +kernel
theorem d_Mod_near_144 : decode b_Mod_near 144 = .ok (.aload_n 0, 1) := by decide +kernel
theorem d_Mod_near_145 : decode b_Mod_near 145 = .ok (.getfield 57, 3) := by decide +kernel
theorem d_Mod_near_148 : decode b_Mod_near 148 = .ok (.if_icmp .ge 66, 3) := by decide +kernel
theorem d_Mod_near_151 : decode b_Mod_near 151 = .ok (.iconst 0, 1) := by decide +kernel
theorem d_Mod_near_152 : decode b_Mod_near 152 = .ok (.istore 5, 2) := by decide +kernel
theorem d_Mod_near_154 : decode b_Mod_near 154 = .ok (.iload 5, 2) := by decide +kernel
theorem d_Mod_near_156 : decode b_Mod_near 156 = .ok (.iload_n 3, 1) := by decide +kernel
theorem d_Mod_near_157 : decode b_Mod_near 157 = .ok (.if_icmp .ge 51, 3) := by decide +kernel
theorem d_Mod_near_160 : decode b_Mod_near 160 = .ok (.aload_n 0, 1) := by decide +kernel
theorem d_Mod_near_161 : decode b_Mod_near 161 = .ok (.getfield 30, 3) := by decide +kernel
theorem d_Mod_near_164 : decode b_Mod_near 164 = .ok (.iload 5, 2) := by decide +kernel
theorem d_Mod_near_166 : decode b_Mod_near 166 = .ok (.iaload, 1) := by decide +kernel
theorem d_Mod_near_167 : decode b_Mod_near 167 = .ok (.iload 4, 2) := by decide +kernel
theorem d_Mod_near_169 : decode b_Mod_near 169 = .ok (.if_icmp .eq 6, 3) := by decide +kernel
theorem d_Mod_near_172 : decode b_Mod_near 172 = .ok (.goto 30, 3) := by decide +kernel
theorem d_Mod_near_175 : decode b_Mod_near 175 = .ok (.aload_n 0, 1) := by decide +kernel
theorem d_Mod_near_176 : decode b_Mod_near 176 = .ok (.aload_n 0, 1) := by decide +kernel
theorem d_Mod_near_177 : decode b_Mod_near 177 = .ok (.getfield 81, 3) := by decide +kernel
theorem d_Mod_near_180 : decode b_Mod_near 180 = .ok (.iload 4, 2) := by decide +kernel
theorem d_Mod_near_182 : decode b_Mod_near 182 = .ok (.aload_n 0, 1) := by decide +kernel
theorem d_Mod_near_183 : decode b_Mod_near 183 = .ok (.getfield 33, 3) := by decide +kernel
theorem d_Mod_near_186 : decode b_Mod_near 186 = .ok (.iload 5, 2) := by decide +kernel
theorem d_Mod_near_188 : decode b_Mod_near 188 = .ok (.iaload, 1) := by decide +kernel
theorem d_Mod_near_189 : decode b_Mod_near 189 = .ok (.invokevirtual 84, 3) := by decide +kernel
theorem d_Mod_near_192 : decode b_Mod_near 192 = .ok (.aload_n 0, 1) := by decide +kernel
theorem d_Mod_near_193 : decode b_Mod_near 193 = .ok (.dup, 1) := by decide +kernel
theorem d_Mod_near_194 : decode b_Mod_near 194 = .ok (.getfield 81, 3) := by decide +kernel
theorem d_Mod_near_197 : decode b_Mod_near 197 = .ok (.iconst 1, 1) := by decide +kernel
theorem d_Mod_near_198 : decode b_Mod_near 198 = .ok (.iadd, 1) := by decide +kernel
theorem d_Mod_near_199 : decode b_Mod_near 199 = .ok (.putfield 81, 3) := by decide +kernel
theorem d_Mod_near_202 : decode b_Mod_near 202 = .ok (.iinc 5 1, 3) := by decide +kernel
theorem d_Mod_near_205 : decode b_Mod_near 205 = .ok (.goto (-51), 3) := by decide +kernel
theorem d_Mod_near_208 : decode b_Mod_near 208 = .ok (.iinc 4 1, 3) := by decide +kernel
theorem d_Mod_near_211 : decode b_Mod_near 211 = .ok (.goto (-69), 3) := by decide +kernel
theorem d_Mod_near_214 : decode b_Mod_near 214 = .ok (.aload_n 0, 1) := by decide +kernel
theorem d_Mod_near_215 : decode b_Mod_near 215 = .ok (.getfield 81, 3) := by decide +kernel
theorem d_Mod_near_218 : decode b_Mod_near 218 = .ok (.ireturn, 1) := by decide +kernel
theorem d_Mod_type_0 : decode b_Mod_type 0 = .ok (.iconst 0, 1) := by decide +kernel
theorem d_Mod_type_1 : decode b_Mod_type 1 = .ok (.istore 5, 2) := by decide +kernel
theorem d_Mod_type_3 : decode b_Mod_type 3 = .ok (.aload_n 0, 1) := by decide +kernel
theorem d_Mod_type_4 : decode b_Mod_type 4 = .ok (.iconst 0, 1) := by decide +kernel
theorem d_Mod_type_5 : decode b_Mod_type 5 = .ok (.putfield 46, 3) := by decide +kernel
theorem d_Mod_type_8 : decode b_Mod_type 8 = .ok (.iconst 0, 1) := by decide +kernel
theorem d_Mod_type_9 : decode b_Mod_type 9 = .ok (.istore 6, 2) := by decide +kernel
theorem d_Mod_type_11 : decode b_Mod_type 11 = .ok (.iload 6, 2) := by decide +kernel
theorem d_Mod_type_13 : decode b_Mod_type 13 = .ok (.bipush 16, 2) := by decide +kernel
theorem d_Mod_type_15 : decode b_Mod_type 15 = .ok (.if_icmp .ge 72, 3) := by decide +kernel
theorem d_Mod_type_18 : decode b_Mod_type 18 = .ok (.iload 6, 2) := by decide +kernel
theorem d_Mod_type_20 : decode b_Mod_type 20 = .ok (.bipush 8, 2) := by decide +kernel
theorem d_Mod_type_22 : decode b_Mod_type 22 = .ok (.if_icmp .ge 7, 3) := by decide +kernel
theorem d_Mod_type_25 : decode b_Mod_type 25 = .ok (.lload_n 1, 1) := by decide +kernel
theorem d_Mod_type_26 : decode b_Mod_type 26 = .ok (.goto 4, 3) := by decide +kernel
theorem d_Mod_type_29 : decode b_Mod_type 29 = .ok (.lload_n 3, 1) := by decide +kernel
theorem d_Mod_type_30 : decode b_Mod_type 30 = .ok (.bipush 56, 2) := by decide +kernel
theorem d_Mod_type_32 : decode b_Mod_type 32 = .ok (.iload 6, 2) := by decide +kernel
theorem d_Mod_type_34 : decode b_Mod_type 34 = .ok (.bipush 8, 2) := by decide +kernel
theorem d_Mod_type_36 : decode b_Mod_type 36 = .ok (.irem, 1) := by decide +kernel
theorem d_Mod_type_37 : decode b_Mod_type 37 = .ok (.bipush 8, 2) := by decide +kernel
theorem d_Mod_type_39 : decode b_Mod_type 39 = .ok (.imul, 1) := by decide +kernel
theorem d_Mod_type_40 : decode b_Mod_type 40 = .ok (.isub, 1) := by decide +kernel
theorem d_Mod_type_41 : decode b_Mod_type 41 = .ok (.lushr, 1) := by decide +kernel
theorem d_Mod_type_42 : decode b_Mod_type 42 = .ok (.l2i, 1) := by decide +kernel
theorem d_Mod_type_43 : decode b_Mod_type 43 = .ok (.sipush 255, 3) := by decide +kernel
theorem d_Mod_type_46 : decode b_Mod_type 46 = .ok (.iand, 1) := by decide +kernel
theorem d_Mod_type_47 : decode b_Mod_type 47 = .ok (.istore 7, 2) := by decide +kernel
theorem d_Mod_type_49 : decode b_Mod_type 49 = .ok (.iload 7, 2) := by decide +kernel
theorem d_Mod_type_51 : decode b_Mod_type 51 = .ok (.ifCond .eq 22, 3) := by decide +kernel
theorem d_Mod_type_54 : decode b_Mod_type 54 = .ok (.iload 7, 2) := by decide +kernel
theorem d_Mod_type_56 : decode b_Mod_type 56 = .ok (.bipush 33, 2) := by decide +kernel
theorem d_Mod_type_58 : decode b_Mod_type 58 = .ok (.if_icmp .lt 10, 3) := by decide +kernel
theorem d_Mod_type_61 : decode b_Mod_type 61 = .ok (.iload 7, 2) := by decide +kernel
theorem d_Mod_type_63 : decode b_Mod_type 63 = .ok (.bipush 126, 2) := by decide +kernel
theorem d_Mod_type_65 : decode b_Mod_type 65 = .ok (.if_icmp .le 8, 3) := by decide +kernel
theorem d_Mod_type_68 : decode b_Mod_type 68 = .ok (.aload_n 0, 1) := by decide +kernel
theorem d_Mod_type_69 : decode b_Mod_type 69 = .ok (.iconst 1, 1) := by decide +kernel
theorem d_Mod_type_70 : decode b_Mod_type 70 = .ok (.putfield 46, 3) := by decide +kernel
theorem d_Mod_type_73 : decode b_Mod_type 73 = .ok (.iload 7, 2) := by decide +kernel
theorem d_Mod_type_75 : decode b_Mod_type 75 = .ok (.ifCond .eq 6, 3) := by decide +kernel
theorem d_Mod_type_78 : decode b_Mod_type 78 = .ok (.iinc 5 1, 3) := by decide +kernel
theorem d_Mod_type_81 : decode b_Mod_type 81 = .ok (.iinc 6 1, 3) := by decide +kernel
theorem d_Mod_type_84 : decode b_Mod_type 84 = .ok (.goto (-73), 3) := by decide +kernel
theorem d_Mod_type_87 : decode b_Mod_type 87 = .ok (.aload_n 0, 1) := by decide +kernel
theorem d_Mod_type_88 : decode b_Mod_type 88 = .ok (.getfield 46, 3) := by decide +kernel
theorem d_Mod_type_91 : decode b_Mod_type 91 = .ok (.ifCond .ne 20, 3) := by decide +kernel
theorem d_Mod_type_94 : decode b_Mod_type 94 = .ok (.aload_n 0, 1) := by decide +kernel
theorem d_Mod_type_95 : decode b_Mod_type 95 = .ok (.getfield 50, 3) := by decide +kernel
theorem d_Mod_type_98 : decode b_Mod_type 98 = .ok (.iload 5, 2) := by decide +kernel
theorem d_Mod_type_100 : decode b_Mod_type 100 = .ok (.iadd, 1) := by decide +kernel
theorem d_Mod_type_101 : decode b_Mod_type 101 = .ok (.bipush 60, 2) := by decide +kernel
theorem d_Mod_type_103 : decode b_Mod_type 103 = .ok (.if_icmp .le 8, 3) := by decide +kernel
theorem d_Mod_type_106 : decode b_Mod_type 106 = .ok (.aload_n 0, 1) := by decide +kernel
theorem d_Mod_type_107 : decode b_Mod_type 107 = .ok (.iconst 2, 1) := by decide +kernel
theorem d_Mod_type_108 : decode b_Mod_type 108 = .ok (.putfield 46, 3) := by decide +kernel
theorem d_Mod_type_111 : decode b_Mod_type 111 = .ok (.aload_n 0, 1) := by decide +kernel
theorem d_Mod_type_112 : decode b_Mod_type 112 = .ok (.getfield 46, 3) := by decide +kernel
theorem d_Mod_type_115 : decode b_Mod_type 115 = .ok (.ifCond .eq 5, 3) := by decide +kernel
theorem d_Mod_type_118 : decode b_Mod_type 118 = .ok (.iconst 0, 1) := by decide +kernel
theorem d_Mod_type_119 : decode b_Mod_type 119 = .ok (.ireturn, 1) := by decide +kernel
theorem d_Mod_type_120 : decode b_Mod_type 120 = .ok (.iconst 0, 1) := by decide +kernel
theorem d_Mod_type_121 : decode b_Mod_type 121 = .ok (.istore 6, 2) := by decide +kernel
theorem d_Mod_type_123 : decode b_Mod_type 123 = .ok (.iload 6, 2) := by decide +kernel
theorem d_Mod_type_125 : decode b_Mod_type 125 = .ok (.bipush 16, 2) := by decide +kernel
theorem d_Mod_type_127 : decode b_Mod_type 127 = .ok (.if_icmp .ge 70, 3) := by decide +kernel
theorem d_Mod_type_130 : decode b_Mod_type 130 = .ok (.iload 6, 2) := by decide +kernel
theorem d_Mod_type_132 : decode b_Mod_type 132 = .ok (.bipush 8, 2) := by decide +kernel
theorem d_Mod_type_134 : decode b_Mod_type 134 = .ok (.if_icmp .ge 7, 3) := by decide +kernel
theorem d_Mod_type_137 : decode b_Mod_type 137 = .ok (.lload_n 1, 1) := by decide +kernel
theorem d_Mod_type_138 : decode b_Mod_type 138 = .ok (.goto 4, 3) := by decide +kernel
theorem d_Mod_type_141 : decode b_Mod_type 141 = .ok (.lload_n 3, 1) := by decide +kernel
theorem d_Mod_type_142 : decode b_Mod_type 142 = .ok (.bipush 56, 2) := by decide +kernel
theorem d_Mod_type_144 : decode b_Mod_type 144 = .ok (.iload 6, 2) := by decide +kernel
theorem d_Mod_type_146 : decode b_Mod_type 146 = .ok (.bipush 8, 2) := by decide +kernel
theorem d_Mod_type_148 : decode b_Mod_type 148 = .ok (.irem, 1) := by decide +kernel
theorem d_Mod_type_149 : decode b_Mod_type 149 = .ok (.bipush 8, 2) := by decide +kernel
theorem d_Mod_type_151 : decode b_Mod_type 151 = .ok (.imul, 1) := by decide +kernel
theorem d_Mod_type_152 : decode b_Mod_type 152 = .ok (.isub, 1) := by decide +kernel
theorem d_Mod_type_153 : decode b_Mod_type 153 = .ok (.lushr, 1) := by decide +kernel
theorem d_Mod_type_154 : decode b_Mod_type 154 = .ok (.l2i, 1) := by decide +kernel
theorem d_Mod_type_155 : decode b_Mod_type 155 = .ok (.sipush 255, 3) := by decide +kernel
theorem d_Mod_type_158 : decode b_Mod_type 158 = .ok (.iand, 1) := by decide +kernel
theorem d_Mod_type_159 : decode b_Mod_type 159 = .ok (.istore 7, 2) := by decide +kernel
theorem d_Mod_type_161 : decode b_Mod_type 161 = .ok (.iload 7, 2) := by decide +kernel
theorem d_Mod_type_163 : decode b_Mod_type 163 = .ok (.ifCond .ne 6, 3) := by decide +kernel
theorem d_Mod_type_166 : decode b_Mod_type 166 = .ok (.goto 25, 3) := by decide +kernel
theorem d_Mod_type_169 : decode b_Mod_type 169 = .ok (.aload_n 0, 1) := by decide +kernel
theorem d_Mod_type_170 : decode b_Mod_type 170 = .ok (.getfield 7, 3) := by decide +kernel
theorem d_Mod_type_173 : decode b_Mod_type 173 = .ok (.aload_n 0, 1) := by decide +kernel
theorem d_Mod_type_174 : decode b_Mod_type 174 = .ok (.getfield 50, 3) := by decide +kernel
theorem d_Mod_type_177 : decode b_Mod_type 177 = .ok (.iload 7, 2) := by decide +kernel
theorem d_Mod_type_179 : decode b_Mod_type 179 = .ok (.i2b, 1) := by decide +kernel
theorem d_Mod_type_180 : decode b_Mod_type 180 = .ok (.bastore, 1) := by decide +kernel
theorem d_Mod_type_181 : decode b_Mod_type 181 = .ok (.aload_n 0, 1) := by decide +kernel
theorem d_Mod_type_182 : decode b_Mod_type 182 = .ok (.dup, 1) := by decide +kernel
theorem d_Mod_type_183 : decode b_Mod_type 183 = .ok (.getfield 50, 3) := by decide +kernel
theorem d_Mod_type_186 : decode b_Mod_type 186 = .ok (.iconst 1, 1) := by decide +kernel
theorem d_Mod_type_187 : decode b_Mod_type 187 = .ok (.iadd, 1) := by decide +kernel
theorem d_Mod_type_188 : decode b_Mod_type 188 = .ok (.putfield 50, 3) := by decide +kernel
theorem d_Mod_type_191 : decode b_Mod_type 191 = .ok (.iinc 6 1, 3) := by decide +kernel
theorem d_Mod_type_194 : decode b_Mod_type 194 = .ok (.goto (-71), 3) := by decide +kernel
theorem d_Mod_type_197 : decode b_Mod_type 197 = .ok (.aload_n 0, 1) := by decide +kernel
theorem d_Mod_type_198 : decode b_Mod_type 198 = .ok (.getfield 50, 3) := by decide +kernel
theorem d_Mod_type_201 : decode b_Mod_type 201 = .ok (.ireturn, 1) := by decide +kernel
theorem d_Mod_init_0 : decode b_Mod_init 0 = .ok (.aload_n 0, 1) := by decide +kernel
theorem d_Mod_init_1 : decode b_Mod_init 1 = .ok (.invokespecial 1, 3) := by decide +kernel
theorem d_Mod_init_4 : decode b_Mod_init 4 = .ok (.aload_n 0, 1) := by decide +kernel
theorem d_Mod_init_5 : decode b_Mod_init 5 = .ok (.bipush 60, 2) := by decide +kernel
theorem d_Mod_init_7 : decode b_Mod_init 7 = .ok (.newarray .byte, 2) := by decide +kernel
theorem d_Mod_init_9 : decode b_Mod_init 9 = .ok (.putfield 7, 3) := by decide +kernel
theorem d_Mod_init_12 : decode b_Mod_init 12 = .ok (.aload_n 0, 1) := by decide +kernel
theorem d_Mod_init_13 : decode b_Mod_init 13 = .ok (.ldc 13, 2) := by decide +kernel
theorem d_Mod_init_15 : decode b_Mod_init 15 = .ok (.newarray .byte, 2) := by decide +kernel
theorem d_Mod_init_17 : decode b_Mod_init 17 = .ok (.putfield 14, 3) := by decide +kernel
theorem d_Mod_init_20 : decode b_Mod_init 20 = .ok (.aload_n 0, 1) := by decide +kernel
theorem d_Mod_init_21 : decode b_Mod_init 21 = .ok (.sipush 3000, 3) := by decide +kernel
theorem d_Mod_init_24 : decode b_Mod_init 24 = .ok (.newarray .byte, 2) := by decide +kernel
theorem d_Mod_init_26 : decode b_Mod_init 26 = .ok (.putfield 17, 3) := by decide +kernel
theorem d_Mod_init_29 : decode b_Mod_init 29 = .ok (.aload_n 0, 1) := by decide +kernel
theorem d_Mod_init_30 : decode b_Mod_init 30 = .ok (.sipush 1000, 3) := by decide +kernel
theorem d_Mod_init_33 : decode b_Mod_init 33 = .ok (.newarray .int, 2) := by decide +kernel
theorem d_Mod_init_35 : decode b_Mod_init 35 = .ok (.putfield 20, 3) := by decide +kernel
theorem d_Mod_init_38 : decode b_Mod_init 38 = .ok (.aload_n 0, 1) := by decide +kernel
theorem d_Mod_init_39 : decode b_Mod_init 39 = .ok (.bipush 50, 2) := by decide +kernel
theorem d_Mod_init_41 : decode b_Mod_init 41 = .ok (.newarray .int, 2) := by decide +kernel
theorem d_Mod_init_43 : decode b_Mod_init 43 = .ok (.putfield 24, 3) := by decide +kernel
theorem d_Mod_init_46 : decode b_Mod_init 46 = .ok (.aload_n 0, 1) := by decide +kernel
theorem d_Mod_init_47 : decode b_Mod_init 47 = .ok (.bipush 50, 2) := by decide +kernel
theorem d_Mod_init_49 : decode b_Mod_init 49 = .ok (.newarray .int, 2) := by decide +kernel
theorem d_Mod_init_51 : decode b_Mod_init 51 = .ok (.putfield 27, 3) := by decide +kernel
theorem d_Mod_init_54 : decode b_Mod_init 54 = .ok (.aload_n 0, 1) := by decide +kernel
theorem d_Mod_init_55 : decode b_Mod_init 55 = .ok (.bipush 50, 2) := by decide +kernel
theorem d_Mod_init_57 : decode b_Mod_init 57 = .ok (.newarray .int, 2) := by decide +kernel
theorem d_Mod_init_59 : decode b_Mod_init 59 = .ok (.putfield 30, 3) := by decide +kernel
theorem d_Mod_init_62 : decode b_Mod_init 62 = .ok (.aload_n 0, 1) := by decide +kernel
theorem d_Mod_init_63 : decode b_Mod_init 63 = .ok (.bipush 50, 2) := by decide +kernel
theorem d_Mod_init_65 : decode b_Mod_init 65 = .ok (.newarray .int, 2) := by decide +kernel
theorem d_Mod_init_67 : decode b_Mod_init 67 = .ok (.putfield 33, 3) := by decide +kernel
theorem d_Mod_init_70 : decode b_Mod_init 70 = .ok (.aload_n 0, 1) := by decide +kernel
theorem d_Mod_init_71 : decode b_Mod_init 71 = .ok (.sipush 3721, 3) := by decide +kernel
theorem d_Mod_init_74 : decode b_Mod_init 74 = .ok (.newarray .int, 2) := by decide +kernel
theorem d_Mod_init_76 : decode b_Mod_init 76 = .ok (.putfield 36, 3) := by decide +kernel
theorem d_Mod_init_79 : decode b_Mod_init 79 = .ok (.aload_n 0, 1) := by decide +kernel
theorem d_Mod_init_80 : decode b_Mod_init 80 = .ok (.bipush 61, 2) := by decide +kernel
theorem d_Mod_init_82 : decode b_Mod_init 82 = .ok (.newarray .boolean, 2) := by decide +kernel
theorem d_Mod_init_84 : decode b_Mod_init 84 = .ok (.putfield 39, 3) := by decide +kernel
theorem d_Mod_init_87 : decode b_Mod_init 87 = .ok (.aload_n 0, 1) := by decide +kernel
theorem d_Mod_init_88 : decode b_Mod_init 88 = .ok (.bipush 61, 2) := by decide +kernel
theorem d_Mod_init_90 : decode b_Mod_init 90 = .ok (.newarray .boolean, 2) := by decide +kernel
theorem d_Mod_init_92 : decode b_Mod_init 92 = .ok (.putfield 43, 3) := by decide +kernel
theorem d_Mod_init_95 : decode b_Mod_init 95 = .ok (.return_, 1) := by decide +kernel
