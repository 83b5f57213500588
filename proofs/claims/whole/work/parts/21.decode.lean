theorem d_Row_length_0 : decode b_Row_length 0 = .ok (.aload_n 0, 1) := by decide +kernel
theorem d_Row_length_1 : decode b_Row_length 1 = .ok (.getfield 15, 3) := by decide +kernel
theorem d_Row_length_4 : decode b_Row_length 4 = .ok (.ireturn, 1) := by decide +kernel
theorem d_Row_isEmpty_0 : decode b_Row_isEmpty 0 = .ok (.aload_n 0, 1) := by decide +kernel
theorem d_Row_isEmpty_1 : decode b_Row_isEmpty 1 = .ok (.getfield 15, 3) := by decide +kernel
theorem d_Row_isEmpty_4 : decode b_Row_isEmpty 4 = .ok (.ifCond .ne 7, 3) := by decide +kernel
theorem d_Row_isEmpty_7 : decode b_Row_isEmpty 7 = .ok (.iconst 1, 1) := by decide +kernel
theorem d_Row_isEmpty_8 : decode b_Row_isEmpty 8 = .ok (.goto 4, 3) := by decide +kernel
theorem d_Row_isEmpty_11 : decode b_Row_isEmpty 11 = .ok (.iconst 0, 1) := by decide +kernel
theorem d_Row_isEmpty_12 : decode b_Row_isEmpty 12 = .ok (.ireturn, 1) := by decide +kernel
theorem d_Row_at_0 : decode b_Row_at 0 = .ok (.aload_n 0, 1) := by decide +kernel
theorem d_Row_at_1 : decode b_Row_at 1 = .ok (.getfield 9, 3) := by decide +kernel
theorem d_Row_at_4 : decode b_Row_at 4 = .ok (.iload_n 1, 1) := by decide +kernel
theorem d_Row_at_5 : decode b_Row_at 5 = .ok (.baload, 1) := by decide +kernel
theorem d_Row_at_6 : decode b_Row_at 6 = .ok (.ireturn, 1) := by decide +kernel
theorem d_Row_clear_0 : decode b_Row_clear 0 = .ok (.aload_n 0, 1) := by decide +kernel
theorem d_Row_clear_1 : decode b_Row_clear 1 = .ok (.iconst 0, 1) := by decide +kernel
theorem d_Row_clear_2 : decode b_Row_clear 2 = .ok (.putfield 15, 3) := by decide +kernel
theorem d_Row_clear_5 : decode b_Row_clear 5 = .ok (.return_, 1) := by decide +kernel
theorem d_Row_append_0 : decode b_Row_append 0 = .ok (.aload_n 0, 1) := by decide +kernel
theorem d_Row_append_1 : decode b_Row_append 1 = .ok (.getfield 15, 3) := by decide +kernel
theorem d_Row_append_4 : decode b_Row_append 4 = .ok (.bipush 60, 2) := by decide +kernel
theorem d_Row_append_6 : decode b_Row_append 6 = .ok (.if_icmp .ge 24, 3) := by decide +kernel
theorem d_Row_append_9 : decode b_Row_append 9 = .ok (.aload_n 0, 1) := by decide +kernel
theorem d_Row_append_10 : decode b_Row_append 10 = .ok (.getfield 9, 3) := by decide +kernel
theorem d_Row_append_13 : decode b_Row_append 13 = .ok (.aload_n 0, 1) := by decide +kernel
theorem d_Row_append_14 : decode b_Row_append 14 = .ok (.getfield 15, 3) := by decide +kernel
theorem d_Row_append_17 : decode b_Row_append 17 = .ok (.iload_n 1, 1) := by decide +kernel
theorem d_Row_append_18 : decode b_Row_append 18 = .ok (.i2b, 1) := by decide +kernel
theorem d_Row_append_19 : decode b_Row_append 19 = .ok (.bastore, 1) := by decide +kernel
theorem d_Row_append_20 : decode b_Row_append 20 = .ok (.aload_n 0, 1) := by decide +kernel
theorem d_Row_append_21 : decode b_Row_append 21 = .ok (.dup, 1) := by decide +kernel
theorem d_Row_append_22 : decode b_Row_append 22 = .ok (.getfield 15, 3) := by decide +kernel
theorem d_Row_append_25 : decode b_Row_append 25 = .ok (.iconst 1, 1) := by decide +kernel
theorem d_Row_append_26 : decode b_Row_append 26 = .ok (.iadd, 1) := by decide +kernel
theorem d_Row_append_27 : decode b_Row_append 27 = .ok (.putfield 15, 3) := by decide +kernel
theorem d_Row_append_30 : decode b_Row_append 30 = .ok (.return_, 1) := by decide +kernel
theorem d_Row_copyTo_0 : decode b_Row_copyTo 0 = .ok (.aload_n 0, 1) := by decide +kernel
theorem d_Row_copyTo_1 : decode b_Row_copyTo 1 = .ok (.getfield 9, 3) := by decide +kernel
theorem d_Row_copyTo_4 : decode b_Row_copyTo 4 = .ok (.iconst 0, 1) := by decide +kernel
theorem d_Row_copyTo_5 : decode b_Row_copyTo 5 = .ok (.aload_n 1, 1) := by decide +kernel
theorem d_Row_copyTo_6 : decode b_Row_copyTo 6 = .ok (.iload_n 2, 1) := by decide +kernel
theorem d_Row_copyTo_7 : decode b_Row_copyTo 7 = .ok (.aload_n 0, 1) := by decide +kernel
theorem d_Row_copyTo_8 : decode b_Row_copyTo 8 = .ok (.getfield 15, 3) := by decide +kernel
theorem d_Row_copyTo_11 : decode b_Row_copyTo 11 = .ok (.invokestatic 19, 3) := by decide +kernel
theorem d_Row_copyTo_14 : decode b_Row_copyTo 14 = .ok (.return_, 1) := by decide +kernel
theorem d_WL_size_0 : decode b_WL_size 0 = .ok (.aload_n 0, 1) := by decide +kernel
theorem d_WL_size_1 : decode b_WL_size 1 = .ok (.getfield 19, 3) := by decide +kernel
theorem d_WL_size_4 : decode b_WL_size 4 = .ok (.ireturn, 1) := by decide +kernel
theorem d_WL_characters_0 : decode b_WL_characters 0 = .ok (.aload_n 0, 1) := by decide +kernel
theorem d_WL_characters_1 : decode b_WL_characters 1 = .ok (.getfield 15, 3) := by decide +kernel
theorem d_WL_characters_4 : decode b_WL_characters 4 = .ok (.aload_n 0, 1) := by decide +kernel
theorem d_WL_characters_5 : decode b_WL_characters 5 = .ok (.getfield 19, 3) := by decide +kernel
theorem d_WL_characters_8 : decode b_WL_characters 8 = .ok (.iaload, 1) := by decide +kernel
theorem d_WL_characters_9 : decode b_WL_characters 9 = .ok (.ireturn, 1) := by decide +kernel
theorem d_WL_lengthOf_0 : decode b_WL_lengthOf 0 = .ok (.aload_n 0, 1) := by decide +kernel
theorem d_WL_lengthOf_1 : decode b_WL_lengthOf 1 = .ok (.getfield 15, 3) := by decide +kernel
theorem d_WL_lengthOf_4 : decode b_WL_lengthOf 4 = .ok (.iload_n 1, 1) := by decide +kernel
theorem d_WL_lengthOf_5 : decode b_WL_lengthOf 5 = .ok (.iconst 1, 1) := by decide +kernel
theorem d_WL_lengthOf_6 : decode b_WL_lengthOf 6 = .ok (.iadd, 1) := by decide +kernel
theorem d_WL_lengthOf_7 : decode b_WL_lengthOf 7 = .ok (.iaload, 1) := by decide +kernel
theorem d_WL_lengthOf_8 : decode b_WL_lengthOf 8 = .ok (.aload_n 0, 1) := by decide +kernel
theorem d_WL_lengthOf_9 : decode b_WL_lengthOf 9 = .ok (.getfield 15, 3) := by decide +kernel
theorem d_WL_lengthOf_12 : decode b_WL_lengthOf 12 = .ok (.iload_n 1, 1) := by decide +kernel
theorem d_WL_lengthOf_13 : decode b_WL_lengthOf 13 = .ok (.iaload, 1) := by decide +kernel
theorem d_WL_lengthOf_14 : decode b_WL_lengthOf 14 = .ok (.isub, 1) := by decide +kernel
theorem d_WL_lengthOf_15 : decode b_WL_lengthOf 15 = .ok (.ireturn, 1) := by decide +kernel
theorem d_WL_at_0 : decode b_WL_at 0 = .ok (.aload_n 0, 1) := by decide +kernel
theorem d_WL_at_1 : decode b_WL_at 1 = .ok (.getfield 9, 3) := by decide +kernel
theorem d_WL_at_4 : decode b_WL_at 4 = .ok (.aload_n 0, 1) := by decide +kernel
theorem d_WL_at_5 : decode b_WL_at 5 = .ok (.getfield 15, 3) := by decide +kernel
theorem d_WL_at_8 : decode b_WL_at 8 = .ok (.iload_n 1, 1) := by decide +kernel
theorem d_WL_at_9 : decode b_WL_at 9 = .ok (.iaload, 1) := by decide +kernel
theorem d_WL_at_10 : decode b_WL_at 10 = .ok (.iload_n 2, 1) := by decide +kernel
theorem d_WL_at_11 : decode b_WL_at 11 = .ok (.iadd, 1) := by decide +kernel
theorem d_WL_at_12 : decode b_WL_at 12 = .ok (.baload, 1) := by decide +kernel
theorem d_WL_at_13 : decode b_WL_at 13 = .ok (.ireturn, 1) := by decide +kernel
theorem d_WL_longest_0 : decode b_WL_longest 0 = .ok (.iconst 0, 1) := by decide +kernel
theorem d_WL_longest_1 : decode b_WL_longest 1 = .ok (.istore_n 1, 1) := by decide +kernel
theorem d_WL_longest_2 : decode b_WL_longest 2 = .ok (.iconst 0, 1) := by decide +kernel
theorem d_WL_longest_3 : decode b_WL_longest 3 = .ok (.istore_n 2, 1) := by decide +kernel
theorem d_WL_longest_4 : decode b_WL_longest 4 = .ok (.iload_n 2, 1) := by decide +kernel
theorem d_WL_longest_5 : decode b_WL_longest 5 = .ok (.aload_n 0, 1) := by decide +kernel
theorem d_WL_longest_6 : decode b_WL_longest 6 = .ok (.getfield 19, 3) := by decide +kernel
theorem d_WL_longest_9 : decode b_WL_longest 9 = .ok (.if_icmp .ge 19, 3) := by decide +kernel
theorem d_WL_longest_12 : decode b_WL_longest 12 = .ok (.iload_n 1, 1) := by decide +kernel
theorem d_WL_longest_13 : decode b_WL_longest 13 = .ok (.aload_n 0, 1) := by decide +kernel
theorem d_WL_longest_14 : decode b_WL_longest 14 = .ok (.iload_n 2, 1) := by decide +kernel
theorem d_WL_longest_15 : decode b_WL_longest 15 = .ok (.invokevirtual 23, 3) := by decide +kernel
theorem d_WL_longest_18 : decode b_WL_longest 18 = .ok (.invokestatic 27, 3) := by decide +kernel
theorem d_WL_longest_21 : decode b_WL_longest 21 = .ok (.istore_n 1, 1) := by decide +kernel
theorem d_WL_longest_22 : decode b_WL_longest 22 = .ok (.iinc 2 1, 3) := by decide +kernel
theorem d_WL_longest_25 : decode b_WL_longest 25 = .ok (.goto (-21), 3) := by decide +kernel
theorem d_WL_longest_28 : decode b_WL_longest 28 = .ok (.iload_n 1, 1) := by decide +kernel
theorem d_WL_longest_29 : decode b_WL_longest 29 = .ok (.ireturn, 1) := by decide +kernel
theorem d_WL_compare_0 : decode b_WL_compare 0 = .ok (.aload_n 0, 1) := by decide +kernel
theorem d_WL_compare_1 : decode b_WL_compare 1 = .ok (.iload_n 1, 1) := by decide +kernel
theorem d_WL_compare_2 : decode b_WL_compare 2 = .ok (.invokevirtual 23, 3) := by decide +kernel
theorem d_WL_compare_5 : decode b_WL_compare 5 = .ok (.istore_n 3, 1) := by decide +kernel
theorem d_WL_compare_6 : decode b_WL_compare 6 = .ok (.iload_n 3, 1) := by decide +kernel
theorem d_WL_compare_7 : decode b_WL_compare 7 = .ok (.aload_n 2, 1) := by decide +kernel
theorem d_WL_compare_8 : decode b_WL_compare 8 = .ok (.invokevirtual 40, 3) := by decide +kernel
theorem d_WL_compare_11 : decode b_WL_compare 11 = .ok (.invokestatic 55, 3) := by decide +kernel
theorem d_WL_compare_14 : decode b_WL_compare 14 = .ok (.istore 4, 2) := by decide +kernel
theorem d_WL_compare_16 : decode b_WL_compare 16 = .ok (.iconst 0, 1) := by decide +kernel
theorem d_WL_compare_17 : decode b_WL_compare 17 = .ok (.istore 5, 2) := by decide +kernel
theorem d_WL_compare_19 : decode b_WL_compare 19 = .ok (.iload 5, 2) := by decide +kernel
theorem d_WL_compare_21 : decode b_WL_compare 21 = .ok (.iload 4, 2) := by decide +kernel
theorem d_WL_compare_23 : decode b_WL_compare 23 = .ok (.if_icmp .ge 40, 3) := by decide +kernel
theorem d_WL_compare_26 : decode b_WL_compare 26 = .ok (.aload_n 0, 1) := by decide +kernel
theorem d_WL_compare_27 : decode b_WL_compare 27 = .ok (.iload_n 1, 1) := by decide +kernel
theorem d_WL_compare_28 : decode b_WL_compare 28 = .ok (.iload 5, 2) := by decide +kernel
theorem d_WL_compare_30 : decode b_WL_compare 30 = .ok (.invokevirtual 58, 3) := by decide +kernel
theorem d_WL_compare_33 : decode b_WL_compare 33 = .ok (.aload_n 2, 1) := by decide +kernel
theorem d_WL_compare_34 : decode b_WL_compare 34 = .ok (.iload 5, 2) := by decide +kernel
theorem d_WL_compare_36 : decode b_WL_compare 36 = .ok (.invokevirtual 61, 3) := by decide +kernel
theorem d_WL_compare_39 : decode b_WL_compare 39 = .ok (.if_icmp .eq 18, 3) := by decide +kernel
theorem d_WL_compare_42 : decode b_WL_compare 42 = .ok (.aload_n 0, 1) := by decide +kernel
theorem d_WL_compare_43 : decode b_WL_compare 43 = .ok (.iload_n 1, 1) := by decide +kernel
theorem d_WL_compare_44 : decode b_WL_compare 44 = .ok (.iload 5, 2) := by decide +kernel
theorem d_WL_compare_46 : decode b_WL_compare 46 = .ok (.invokevirtual 58, 3) := by decide +kernel
theorem d_WL_compare_49 : decode b_WL_compare 49 = .ok (.aload_n 2, 1) := by decide +kernel
theorem d_WL_compare_50 : decode b_WL_compare 50 = .ok (.iload 5, 2) := by decide +kernel
theorem d_WL_compare_52 : decode b_WL_compare 52 = .ok (.invokevirtual 61, 3) := by decide +kernel
theorem d_WL_compare_55 : decode b_WL_compare 55 = .ok (.isub, 1) := by decide +kernel
theorem d_WL_compare_56 : decode b_WL_compare 56 = .ok (.ireturn, 1) := by decide +kernel
theorem d_WL_compare_57 : decode b_WL_compare 57 = .ok (.iinc 5 1, 3) := by decide +kernel
theorem d_WL_compare_60 : decode b_WL_compare 60 = .ok (.goto (-41), 3) := by decide +kernel
theorem d_WL_compare_63 : decode b_WL_compare 63 = .ok (.iload_n 3, 1) := by decide +kernel
theorem d_WL_compare_64 : decode b_WL_compare 64 = .ok (.aload_n 2, 1) := by decide +kernel
theorem d_WL_compare_65 : decode b_WL_compare 65 = .ok (.invokevirtual 40, 3) := by decide +kernel
theorem d_WL_compare_68 : decode b_WL_compare 68 = .ok (.isub, 1) := by decide +kernel
theorem d_WL_compare_69 : decode b_WL_compare 69 = .ok (.ireturn, 1) := by decide +kernel
theorem d_WL_placeOf_0 : decode b_WL_placeOf 0 = .ok (.iconst 0, 1) := by decide +kernel
theorem d_WL_placeOf_1 : decode b_WL_placeOf 1 = .ok (.istore_n 2, 1) := by decide +kernel
theorem d_WL_placeOf_2 : decode b_WL_placeOf 2 = .ok (.sipush 512, 3) := by decide +kernel
theorem d_WL_placeOf_5 : decode b_WL_placeOf 5 = .ok (.istore_n 3, 1) := by decide +kernel
theorem d_WL_placeOf_6 : decode b_WL_placeOf 6 = .ok (.iload_n 3, 1) := by decide +kernel
theorem d_WL_placeOf_7 : decode b_WL_placeOf 7 = .ok (.ifCond .le 37, 3) := by decide +kernel
theorem d_WL_placeOf_10 : decode b_WL_placeOf 10 = .ok (.iload_n 2, 1) := by decide +kernel
theorem d_WL_placeOf_11 : decode b_WL_placeOf 11 = .ok (.iload_n 3, 1) := by decide +kernel
theorem d_WL_placeOf_12 : decode b_WL_placeOf 12 = .ok (.iadd, 1) := by decide +kernel
theorem d_WL_placeOf_13 : decode b_WL_placeOf 13 = .ok (.aload_n 0, 1) := by decide +kernel
theorem d_WL_placeOf_14 : decode b_WL_placeOf 14 = .ok (.getfield 19, 3) := by decide +kernel
theorem d_WL_placeOf_17 : decode b_WL_placeOf 17 = .ok (.if_icmp .gt 20, 3) := by decide +kernel
theorem d_WL_placeOf_20 : decode b_WL_placeOf 20 = .ok (.aload_n 0, 1) := by decide +kernel
theorem d_WL_placeOf_21 : decode b_WL_placeOf 21 = .ok (.iload_n 2, 1) := by decide +kernel
theorem d_WL_placeOf_22 : decode b_WL_placeOf 22 = .ok (.iload_n 3, 1) := by decide +kernel
theorem d_WL_placeOf_23 : decode b_WL_placeOf 23 = .ok (.iadd, 1) := by decide +kernel
theorem d_WL_placeOf_24 : decode b_WL_placeOf 24 = .ok (.iconst 1, 1) := by decide +kernel
theorem d_WL_placeOf_25 : decode b_WL_placeOf 25 = .ok (.isub, 1) := by decide +kernel
theorem d_WL_placeOf_26 : decode b_WL_placeOf 26 = .ok (.aload_n 1, 1) := by decide +kernel
theorem d_WL_placeOf_27 : decode b_WL_placeOf 27 = .ok (.invokevirtual 33, 3) := by decide +kernel
theorem d_WL_placeOf_30 : decode b_WL_placeOf 30 = .ok (.ifCond .ge 7, 3) := by decide +kernel
theorem d_WL_placeOf_33 : decode b_WL_placeOf 33 = .ok (.iload_n 2, 1) := by decide +kernel
theorem d_WL_placeOf_34 : decode b_WL_placeOf 34 = .ok (.iload_n 3, 1) := by decide +kernel
theorem d_WL_placeOf_35 : decode b_WL_placeOf 35 = .ok (.iadd, 1) := by decide +kernel
theorem d_WL_placeOf_36 : decode b_WL_placeOf 36 = .ok (.istore_n 2, 1) := by decide +kernel
theorem d_WL_placeOf_37 : decode b_WL_placeOf 37 = .ok (.iload_n 3, 1) := by decide +kernel
theorem d_WL_placeOf_38 : decode b_WL_placeOf 38 = .ok (.iconst 2, 1) := by decide +kernel
theorem d_WL_placeOf_39 : decode b_WL_placeOf 39 = .ok (.idiv, 1) := by decide +kernel
theorem d_WL_placeOf_40 : decode b_WL_placeOf 40 = .ok (.istore_n 3, 1) := by decide +kernel
theorem d_WL_placeOf_41 : decode b_WL_placeOf 41 = .ok (.goto (-35), 3) := by decide +kernel
theorem d_WL_placeOf_44 : decode b_WL_placeOf 44 = .ok (.iload_n 2, 1) := by decide +kernel
theorem d_WL_placeOf_45 : decode b_WL_placeOf 45 = .ok (.ireturn, 1) := by decide +kernel
theorem d_WL_isAt_0 : decode b_WL_isAt 0 = .ok (.iload_n 1, 1) := by decide +kernel
theorem d_WL_isAt_1 : decode b_WL_isAt 1 = .ok (.aload_n 0, 1) := by decide +kernel
theorem d_WL_isAt_2 : decode b_WL_isAt 2 = .ok (.getfield 19, 3) := by decide +kernel
theorem d_WL_isAt_5 : decode b_WL_isAt 5 = .ok (.if_icmp .ge 16, 3) := by decide +kernel
theorem d_WL_isAt_8 : decode b_WL_isAt 8 = .ok (.aload_n 0, 1) := by decide +kernel
theorem d_WL_isAt_9 : decode b_WL_isAt 9 = .ok (.iload_n 1, 1) := by decide +kernel
theorem d_WL_isAt_10 : decode b_WL_isAt 10 = .ok (.aload_n 2, 1) := by decide +kernel
theorem d_WL_isAt_11 : decode b_WL_isAt 11 = .ok (.invokevirtual 33, 3) := by decide +kernel
theorem d_WL_isAt_14 : decode b_WL_isAt 14 = .ok (.ifCond .ne 7, 3) := by decide +kernel
theorem d_WL_isAt_17 : decode b_WL_isAt 17 = .ok (.iconst 1, 1) := by decide +kernel
theorem d_WL_isAt_18 : decode b_WL_isAt 18 = .ok (.goto 4, 3) := by decide +kernel
theorem d_WL_isAt_21 : decode b_WL_isAt 21 = .ok (.iconst 0, 1) := by decide +kernel
theorem d_WL_isAt_22 : decode b_WL_isAt 22 = .ok (.ireturn, 1) := by decide +kernel
theorem d_WL_hasRoomFor_0 : decode b_WL_hasRoomFor 0 = .ok (.aload_n 0, 1) := by decide +kernel
theorem d_WL_hasRoomFor_1 : decode b_WL_hasRoomFor 1 = .ok (.getfield 19, 3) := by decide +kernel
theorem d_WL_hasRoomFor_4 : decode b_WL_hasRoomFor 4 = .ok (.sipush 1000, 3) := by decide +kernel
theorem d_WL_hasRoomFor_7 : decode b_WL_hasRoomFor 7 = .ok (.if_icmp .ge 22, 3) := by decide +kernel
theorem d_WL_hasRoomFor_10 : decode b_WL_hasRoomFor 10 = .ok (.aload_n 0, 1) := by decide +kernel
theorem d_WL_hasRoomFor_11 : decode b_WL_hasRoomFor 11 = .ok (.invokevirtual 37, 3) := by decide +kernel
theorem d_WL_hasRoomFor_14 : decode b_WL_hasRoomFor 14 = .ok (.aload_n 1, 1) := by decide +kernel
theorem d_WL_hasRoomFor_15 : decode b_WL_hasRoomFor 15 = .ok (.invokevirtual 40, 3) := by decide +kernel
theorem d_WL_hasRoomFor_18 : decode b_WL_hasRoomFor 18 = .ok (.iadd, 1) := by decide +kernel
theorem d_WL_hasRoomFor_19 : decode b_WL_hasRoomFor 19 = .ok (.sipush 12000, 3) := by decide +kernel
theorem d_WL_hasRoomFor_22 : decode b_WL_hasRoomFor 22 = .ok (.if_icmp .gt 7, 3) := by decide +kernel
theorem d_WL_hasRoomFor_25 : decode b_WL_hasRoomFor 25 = .ok (.iconst 1, 1) := by decide +kernel
theorem d_WL_hasRoomFor_26 : decode b_WL_hasRoomFor 26 = .ok (.goto 4, 3) := by decide +kernel
theorem d_WL_hasRoomFor_29 : decode b_WL_hasRoomFor 29 = .ok (.iconst 0, 1) := by decide +kernel
theorem d_WL_hasRoomFor_30 : decode b_WL_hasRoomFor 30 = .ok (.ireturn, 1) := by decide +kernel
theorem d_WL_insertAt_0 : decode b_WL_insertAt 0 = .ok (.aload_n 0, 1) := by decide +kernel
theorem d_WL_insertAt_1 : decode b_WL_insertAt 1 = .ok (.getfield 15, 3) := by decide +kernel
theorem d_WL_insertAt_4 : decode b_WL_insertAt 4 = .ok (.iload_n 1, 1) := by decide +kernel
theorem d_WL_insertAt_5 : decode b_WL_insertAt 5 = .ok (.iaload, 1) := by decide +kernel
theorem d_WL_insertAt_6 : decode b_WL_insertAt 6 = .ok (.istore_n 3, 1) := by decide +kernel
theorem d_WL_insertAt_7 : decode b_WL_insertAt 7 = .ok (.aload_n 2, 1) := by decide +kernel
theorem d_WL_insertAt_8 : decode b_WL_insertAt 8 = .ok (.invokevirtual 40, 3) := by decide +kernel
theorem d_WL_insertAt_11 : decode b_WL_insertAt 11 = .ok (.istore 4, 2) := by decide +kernel
theorem d_WL_insertAt_13 : decode b_WL_insertAt 13 = .ok (.aload_n 0, 1) := by decide +kernel
theorem d_WL_insertAt_14 : decode b_WL_insertAt 14 = .ok (.getfield 9, 3) := by decide +kernel
theorem d_WL_insertAt_17 : decode b_WL_insertAt 17 = .ok (.iload_n 3, 1) := by decide +kernel
theorem d_WL_insertAt_18 : decode b_WL_insertAt 18 = .ok (.aload_n 0, 1) := by decide +kernel
theorem d_WL_insertAt_19 : decode b_WL_insertAt 19 = .ok (.getfield 9, 3) := by decide +kernel
theorem d_WL_insertAt_22 : decode b_WL_insertAt 22 = .ok (.iload_n 3, 1) := by decide +kernel
theorem d_WL_insertAt_23 : decode b_WL_insertAt 23 = .ok (.iload 4, 2) := by decide +kernel
theorem d_WL_insertAt_25 : decode b_WL_insertAt 25 = .ok (.iadd, 1) := by decide +kernel
theorem d_WL_insertAt_26 : decode b_WL_insertAt 26 = .ok (.aload_n 0, 1) := by decide +kernel
theorem d_WL_insertAt_27 : decode b_WL_insertAt 27 = .ok (.invokevirtual 37, 3) := by decide +kernel
theorem d_WL_insertAt_30 : decode b_WL_insertAt 30 = .ok (.iload_n 3, 1) := by decide +kernel
theorem d_WL_insertAt_31 : decode b_WL_insertAt 31 = .ok (.isub, 1) := by decide +kernel
theorem d_WL_insertAt_32 : decode b_WL_insertAt 32 = .ok (.invokestatic 45, 3) := by decide +kernel
theorem d_WL_insertAt_35 : decode b_WL_insertAt 35 = .ok (.aload_n 2, 1) := by decide +kernel
theorem d_WL_insertAt_36 : decode b_WL_insertAt 36 = .ok (.aload_n 0, 1) := by decide +kernel
theorem d_WL_insertAt_37 : decode b_WL_insertAt 37 = .ok (.getfield 9, 3) := by decide +kernel
theorem d_WL_insertAt_40 : decode b_WL_insertAt 40 = .ok (.iload_n 3, 1) := by decide +kernel
theorem d_WL_insertAt_41 : decode b_WL_insertAt 41 = .ok (.invokevirtual 51, 3) := by decide +kernel
theorem d_WL_insertAt_44 : decode b_WL_insertAt 44 = .ok (.aload_n 0, 1) := by decide +kernel
theorem d_WL_insertAt_45 : decode b_WL_insertAt 45 = .ok (.getfield 19, 3) := by decide +kernel
theorem d_WL_insertAt_48 : decode b_WL_insertAt 48 = .ok (.istore 5, 2) := by decide +kernel
theorem d_WL_insertAt_50 : decode b_WL_insertAt 50 = .ok (.iload 5, 2) := by decide +kernel
theorem d_WL_insertAt_52 : decode b_WL_insertAt 52 = .ok (.iload_n 1, 1) := by decide +kernel
theorem d_WL_insertAt_53 : decode b_WL_insertAt 53 = .ok (.if_icmp .lt 28, 3) := by decide +kernel
theorem d_WL_insertAt_56 : decode b_WL_insertAt 56 = .ok (.aload_n 0, 1) := by decide +kernel
theorem d_WL_insertAt_57 : decode b_WL_insertAt 57 = .ok (.getfield 15, 3) := by decide +kernel
theorem d_WL_insertAt_60 : decode b_WL_insertAt 60 = .ok (.iload 5, 2) := by decide +kernel
theorem d_WL_insertAt_62 : decode b_WL_insertAt 62 = .ok (.iconst 1, 1) := by decide +kernel
theorem d_WL_insertAt_63 : decode b_WL_insertAt 63 = .ok (.iadd, 1) := by decide +kernel
theorem d_WL_insertAt_64 : decode b_WL_insertAt 64 = .ok (.aload_n 0, 1) := by decide +kernel
theorem d_WL_insertAt_65 : decode b_WL_insertAt 65 = .ok (.getfield 15, 3) := by decide +kernel
theorem d_WL_insertAt_68 : decode b_WL_insertAt 68 = .ok (.iload 5, 2) := by decide +kernel
theorem d_WL_insertAt_70 : decode b_WL_insertAt 70 = .ok (.iaload, 1) := by decide +kernel
theorem d_WL_insertAt_71 : decode b_WL_insertAt 71 = .ok (.iload 4, 2) := by decide +kernel
theorem d_WL_insertAt_73 : decode b_WL_insertAt 73 = .ok (.iadd, 1) := by decide +kernel
theorem d_WL_insertAt_74 : decode b_WL_insertAt 74 = .ok (.iastore, 1) := by decide +kernel
theorem d_WL_insertAt_75 : decode b_WL_insertAt 75 = .ok (.iinc 5 (-1), 3) := by decide +kernel
theorem d_WL_insertAt_78 : decode b_WL_insertAt 78 = .ok (.goto (-28), 3) := by decide +kernel
theorem d_WL_insertAt_81 : decode b_WL_insertAt 81 = .ok (.aload_n 0, 1) := by decide +kernel
theorem d_WL_insertAt_82 : decode b_WL_insertAt 82 = .ok (.dup, 1) := by decide +kernel
theorem d_WL_insertAt_83 : decode b_WL_insertAt 83 = .ok (.getfield 19, 3) := by decide +kernel
theorem d_WL_insertAt_86 : decode b_WL_insertAt 86 = .ok (.iconst 1, 1) := by decide +kernel
theorem d_WL_insertAt_87 : decode b_WL_insertAt 87 = .ok (.iadd, 1) := by decide +kernel
theorem d_WL_insertAt_88 : decode b_WL_insertAt 88 = .ok (.putfield 19, 3) := by decide +kernel
theorem d_WL_insertAt_91 : decode b_WL_insertAt 91 = .ok (.return_, 1) := by decide +kernel
theorem d_WL_deleteAt_0 : decode b_WL_deleteAt 0 = .ok (.aload_n 0, 1) := by decide +kernel
theorem d_WL_deleteAt_1 : decode b_WL_deleteAt 1 = .ok (.getfield 15, 3) := by decide +kernel
theorem d_WL_deleteAt_4 : decode b_WL_deleteAt 4 = .ok (.iload_n 1, 1) := by decide +kernel
theorem d_WL_deleteAt_5 : decode b_WL_deleteAt 5 = .ok (.iaload, 1) := by decide +kernel
theorem d_WL_deleteAt_6 : decode b_WL_deleteAt 6 = .ok (.istore_n 2, 1) := by decide +kernel
theorem d_WL_deleteAt_7 : decode b_WL_deleteAt 7 = .ok (.aload_n 0, 1) := by decide +kernel
theorem d_WL_deleteAt_8 : decode b_WL_deleteAt 8 = .ok (.getfield 15, 3) := by decide +kernel
theorem d_WL_deleteAt_11 : decode b_WL_deleteAt 11 = .ok (.iload_n 1, 1) := by decide +kernel
theorem d_WL_deleteAt_12 : decode b_WL_deleteAt 12 = .ok (.iconst 1, 1) := by decide +kernel
theorem d_WL_deleteAt_13 : decode b_WL_deleteAt 13 = .ok (.iadd, 1) := by decide +kernel
theorem d_WL_deleteAt_14 : decode b_WL_deleteAt 14 = .ok (.iaload, 1) := by decide +kernel
theorem d_WL_deleteAt_15 : decode b_WL_deleteAt 15 = .ok (.istore_n 3, 1) := by decide +kernel
theorem d_WL_deleteAt_16 : decode b_WL_deleteAt 16 = .ok (.aload_n 0, 1) := by decide +kernel
theorem d_WL_deleteAt_17 : decode b_WL_deleteAt 17 = .ok (.getfield 9, 3) := by decide +kernel
theorem d_WL_deleteAt_20 : decode b_WL_deleteAt 20 = .ok (.iload_n 3, 1) := by decide +kernel
theorem d_WL_deleteAt_21 : decode b_WL_deleteAt 21 = .ok (.aload_n 0, 1) := by decide +kernel
theorem d_WL_deleteAt_22 : decode b_WL_deleteAt 22 = .ok (.getfield 9, 3) := by decide +kernel
theorem d_WL_deleteAt_25 : decode b_WL_deleteAt 25 = .ok (.iload_n 2, 1) := by decide +kernel
theorem d_WL_deleteAt_26 : decode b_WL_deleteAt 26 = .ok (.aload_n 0, 1) := by decide +kernel
theorem d_WL_deleteAt_27 : decode b_WL_deleteAt 27 = .ok (.invokevirtual 37, 3) := by decide +kernel
theorem d_WL_deleteAt_30 : decode b_WL_deleteAt 30 = .ok (.iload_n 3, 1) := by decide +kernel
theorem d_WL_deleteAt_31 : decode b_WL_deleteAt 31 = .ok (.isub, 1) := by decide +kernel
theorem d_WL_deleteAt_32 : decode b_WL_deleteAt 32 = .ok (.invokestatic 45, 3) := by decide +kernel
theorem d_WL_deleteAt_35 : decode b_WL_deleteAt 35 = .ok (.iload_n 1, 1) := by decide +kernel
theorem d_WL_deleteAt_36 : decode b_WL_deleteAt 36 = .ok (.istore 4, 2) := by decide +kernel
theorem d_WL_deleteAt_38 : decode b_WL_deleteAt 38 = .ok (.iload 4, 2) := by decide +kernel
theorem d_WL_deleteAt_40 : decode b_WL_deleteAt 40 = .ok (.aload_n 0, 1) := by decide +kernel
theorem d_WL_deleteAt_41 : decode b_WL_deleteAt 41 = .ok (.getfield 19, 3) := by decide +kernel
theorem d_WL_deleteAt_44 : decode b_WL_deleteAt 44 = .ok (.if_icmp .ge 29, 3) := by decide +kernel
theorem d_WL_deleteAt_47 : decode b_WL_deleteAt 47 = .ok (.aload_n 0, 1) := by decide +kernel
theorem d_WL_deleteAt_48 : decode b_WL_deleteAt 48 = .ok (.getfield 15, 3) := by decide +kernel
theorem d_WL_deleteAt_51 : decode b_WL_deleteAt 51 = .ok (.iload 4, 2) := by decide +kernel
theorem d_WL_deleteAt_53 : decode b_WL_deleteAt 53 = .ok (.aload_n 0, 1) := by decide +kernel
theorem d_WL_deleteAt_54 : decode b_WL_deleteAt 54 = .ok (.getfield 15, 3) := by decide +kernel
theorem d_WL_deleteAt_57 : decode b_WL_deleteAt 57 = .ok (.iload 4, 2) := by decide +kernel
theorem d_WL_deleteAt_59 : decode b_WL_deleteAt 59 = .ok (.iconst 1, 1) := by decide +kernel
theorem d_WL_deleteAt_60 : decode b_WL_deleteAt 60 = .ok (.iadd, 1) := by decide +kernel
theorem d_WL_deleteAt_61 : decode b_WL_deleteAt 61 = .ok (.iaload, 1) := by decide +kernel
theorem d_WL_deleteAt_62 : decode b_WL_deleteAt 62 = .ok (.iload_n 3, 1) := by decide +kernel
theorem d_WL_deleteAt_63 : decode b_WL_deleteAt 63 = .ok (.iload_n 2, 1) := by decide +kernel
theorem d_WL_deleteAt_64 : decode b_WL_deleteAt 64 = .ok (.isub, 1) := by decide +kernel
theorem d_WL_deleteAt_65 : decode b_WL_deleteAt 65 = .ok (.isub, 1) := by decide +kernel
theorem d_WL_deleteAt_66 : decode b_WL_deleteAt 66 = .ok (.iastore, 1) := by decide +kernel
theorem d_WL_deleteAt_67 : decode b_WL_deleteAt 67 = .ok (.iinc 4 1, 3) := by decide +kernel
theorem d_WL_deleteAt_70 : decode b_WL_deleteAt 70 = .ok (.goto (-32), 3) := by decide +kernel
theorem d_WL_deleteAt_73 : decode b_WL_deleteAt 73 = .ok (.aload_n 0, 1) := by decide +kernel
theorem d_WL_deleteAt_74 : decode b_WL_deleteAt 74 = .ok (.dup, 1) := by decide +kernel
theorem d_WL_deleteAt_75 : decode b_WL_deleteAt 75 = .ok (.getfield 19, 3) := by decide +kernel
theorem d_WL_deleteAt_78 : decode b_WL_deleteAt 78 = .ok (.iconst 1, 1) := by decide +kernel
theorem d_WL_deleteAt_79 : decode b_WL_deleteAt 79 = .ok (.isub, 1) := by decide +kernel
theorem d_WL_deleteAt_80 : decode b_WL_deleteAt 80 = .ok (.putfield 19, 3) := by decide +kernel
theorem d_WL_deleteAt_83 : decode b_WL_deleteAt 83 = .ok (.return_, 1) := by decide +kernel
