theorem dX3_buffer_0 : decode cX3_buffer 0 = .ok (.bipush 24, 2) := by decide +kernel
theorem dX3_buffer_2 : decode cX3_buffer 2 = .ok (.istore_n 2, 1) := by decide +kernel
theorem dX3_buffer_3 : decode cX3_buffer 3 = .ok (.iload_n 2, 1) := by decide +kernel
theorem dX3_buffer_4 : decode cX3_buffer 4 = .ok (.ifCond .lt 42, 3) := by decide +kernel
theorem dX3_buffer_7 : decode cX3_buffer 7 = .ok (.aload_n 0, 1) := by decide +kernel
theorem dX3_buffer_8 : decode cX3_buffer 8 = .ok (.getfield 19, 3) := by decide +kernel
theorem dX3_buffer_11 : decode cX3_buffer 11 = .ok (.sipush 600, 3) := by decide +kernel
theorem dX3_buffer_14 : decode cX3_buffer 14 = .ok (.if_icmp .ge 32, 3) := by decide +kernel
theorem dX3_buffer_17 : decode cX3_buffer 17 = .ok (.aload_n 0, 1) := by decide +kernel
theorem dX3_buffer_18 : decode cX3_buffer 18 = .ok (.getfield 9, 3) := by decide +kernel
theorem dX3_buffer_21 : decode cX3_buffer 21 = .ok (.aload_n 0, 1) := by decide +kernel
theorem dX3_buffer_22 : decode cX3_buffer 22 = .ok (.getfield 19, 3) := by decide +kernel
theorem dX3_buffer_25 : decode cX3_buffer 25 = .ok (.iload_n 1, 1) := by decide +kernel
theorem dX3_buffer_26 : decode cX3_buffer 26 = .ok (.iload_n 2, 1) := by decide +kernel
theorem dX3_buffer_27 : decode cX3_buffer 27 = .ok (.ishr, 1) := by decide +kernel
theorem dX3_buffer_28 : decode cX3_buffer 28 = .ok (.i2b, 1) := by decide +kernel
theorem dX3_buffer_29 : decode cX3_buffer 29 = .ok (.bastore, 1) := by decide +kernel
theorem dX3_buffer_30 : decode cX3_buffer 30 = .ok (.aload_n 0, 1) := by decide +kernel
theorem dX3_buffer_31 : decode cX3_buffer 31 = .ok (.dup, 1) := by decide +kernel
theorem dX3_buffer_32 : decode cX3_buffer 32 = .ok (.getfield 19, 3) := by decide +kernel
theorem dX3_buffer_35 : decode cX3_buffer 35 = .ok (.iconst 1, 1) := by decide +kernel
theorem dX3_buffer_36 : decode cX3_buffer 36 = .ok (.iadd, 1) := by decide +kernel
theorem dX3_buffer_37 : decode cX3_buffer 37 = .ok (.putfield 19, 3) := by decide +kernel
theorem dX3_buffer_40 : decode cX3_buffer 40 = .ok (.iinc 2 (-8), 3) := by decide +kernel
theorem dX3_buffer_43 : decode cX3_buffer 43 = .ok (.goto (-40), 3) := by decide +kernel
theorem dX3_buffer_46 : decode cX3_buffer 46 = .ok (.return_, 1) := by decide +kernel
theorem dX3_open_0 : decode cX3_open 0 = .ok (.aload_n 0, 1) := by decide +kernel
theorem dX3_open_1 : decode cX3_open 1 = .ok (.iload_n 1, 1) := by decide +kernel
theorem dX3_open_2 : decode cX3_open 2 = .ok (.aload_n 0, 1) := by decide +kernel
theorem dX3_open_3 : decode cX3_open 3 = .ok (.getfield 19, 3) := by decide +kernel
theorem dX3_open_6 : decode cX3_open 6 = .ok (.invokestatic 22, 3) := by decide +kernel
theorem dX3_open_9 : decode cX3_open 9 = .ok (.putfield 28, 3) := by decide +kernel
theorem dX3_open_12 : decode cX3_open 12 = .ok (.aload_n 0, 1) := by decide +kernel
theorem dX3_open_13 : decode cX3_open 13 = .ok (.iconst 0, 1) := by decide +kernel
theorem dX3_open_14 : decode cX3_open 14 = .ok (.putfield 19, 3) := by decide +kernel
theorem dX3_open_17 : decode cX3_open 17 = .ok (.aload_n 0, 1) := by decide +kernel
theorem dX3_open_18 : decode cX3_open 18 = .ok (.iconst 0, 1) := by decide +kernel
theorem dX3_open_19 : decode cX3_open 19 = .ok (.putfield 31, 3) := by decide +kernel
theorem dX3_open_22 : decode cX3_open 22 = .ok (.aload_n 0, 1) := by decide +kernel
theorem dX3_open_23 : decode cX3_open 23 = .ok (.iconst 0, 1) := by decide +kernel
theorem dX3_open_24 : decode cX3_open 24 = .ok (.putfield 34, 3) := by decide +kernel
theorem dX3_open_27 : decode cX3_open 27 = .ok (.aload_n 0, 1) := by decide +kernel
theorem dX3_open_28 : decode cX3_open 28 = .ok (.iconst (-1), 1) := by decide +kernel
theorem dX3_open_29 : decode cX3_open 29 = .ok (.putfield 15, 3) := by decide +kernel
theorem dX3_open_32 : decode cX3_open 32 = .ok (.return_, 1) := by decide +kernel
theorem dX3_skipSpaces_0 : decode cX3_skipSpaces 0 = .ok (.aload_n 0, 1) := by decide +kernel
theorem dX3_skipSpaces_1 : decode cX3_skipSpaces 1 = .ok (.getfield 31, 3) := by decide +kernel
theorem dX3_skipSpaces_4 : decode cX3_skipSpaces 4 = .ok (.aload_n 0, 1) := by decide +kernel
theorem dX3_skipSpaces_5 : decode cX3_skipSpaces 5 = .ok (.getfield 28, 3) := by decide +kernel
theorem dX3_skipSpaces_8 : decode cX3_skipSpaces 8 = .ok (.if_icmp .ge 30, 3) := by decide +kernel
theorem dX3_skipSpaces_11 : decode cX3_skipSpaces 11 = .ok (.aload_n 0, 1) := by decide +kernel
theorem dX3_skipSpaces_12 : decode cX3_skipSpaces 12 = .ok (.getfield 9, 3) := by decide +kernel
theorem dX3_skipSpaces_15 : decode cX3_skipSpaces 15 = .ok (.aload_n 0, 1) := by decide +kernel
theorem dX3_skipSpaces_16 : decode cX3_skipSpaces 16 = .ok (.getfield 31, 3) := by decide +kernel
theorem dX3_skipSpaces_19 : decode cX3_skipSpaces 19 = .ok (.baload, 1) := by decide +kernel
theorem dX3_skipSpaces_20 : decode cX3_skipSpaces 20 = .ok (.bipush 32, 2) := by decide +kernel
theorem dX3_skipSpaces_22 : decode cX3_skipSpaces 22 = .ok (.if_icmp .ne 16, 3) := by decide +kernel
theorem dX3_skipSpaces_25 : decode cX3_skipSpaces 25 = .ok (.aload_n 0, 1) := by decide +kernel
theorem dX3_skipSpaces_26 : decode cX3_skipSpaces 26 = .ok (.dup, 1) := by decide +kernel
theorem dX3_skipSpaces_27 : decode cX3_skipSpaces 27 = .ok (.getfield 31, 3) := by decide +kernel
theorem dX3_skipSpaces_30 : decode cX3_skipSpaces 30 = .ok (.iconst 1, 1) := by decide +kernel
theorem dX3_skipSpaces_31 : decode cX3_skipSpaces 31 = .ok (.iadd, 1) := by decide +kernel
theorem dX3_skipSpaces_32 : decode cX3_skipSpaces 32 = .ok (.putfield 31, 3) := by decide +kernel
theorem dX3_skipSpaces_35 : decode cX3_skipSpaces 35 = .ok (.goto (-35), 3) := by decide +kernel
theorem dX3_skipSpaces_38 : decode cX3_skipSpaces 38 = .ok (.return_, 1) := by decide +kernel
theorem dX3_findStatement_0 : decode cX3_findStatement 0 = .ok (.aload_n 0, 1) := by decide +kernel
theorem dX3_findStatement_1 : decode cX3_findStatement 1 = .ok (.invokevirtual 37, 3) := by decide +kernel
theorem dX3_findStatement_4 : decode cX3_findStatement 4 = .ok (.aload_n 0, 1) := by decide +kernel
theorem dX3_findStatement_5 : decode cX3_findStatement 5 = .ok (.getfield 31, 3) := by decide +kernel
theorem dX3_findStatement_8 : decode cX3_findStatement 8 = .ok (.aload_n 0, 1) := by decide +kernel
theorem dX3_findStatement_9 : decode cX3_findStatement 9 = .ok (.getfield 28, 3) := by decide +kernel
theorem dX3_findStatement_12 : decode cX3_findStatement 12 = .ok (.if_icmp .ge 7, 3) := by decide +kernel
theorem dX3_findStatement_15 : decode cX3_findStatement 15 = .ok (.iconst 1, 1) := by decide +kernel
theorem dX3_findStatement_16 : decode cX3_findStatement 16 = .ok (.goto 4, 3) := by decide +kernel
theorem dX3_findStatement_19 : decode cX3_findStatement 19 = .ok (.iconst 0, 1) := by decide +kernel
theorem dX3_findStatement_20 : decode cX3_findStatement 20 = .ok (.ireturn, 1) := by decide +kernel
theorem dX3_readWord_0 : decode cX3_readWord 0 = .ok (.aload_n 0, 1) := by decide +kernel
theorem dX3_readWord_1 : decode cX3_readWord 1 = .ok (.invokevirtual 37, 3) := by decide +kernel
theorem dX3_readWord_4 : decode cX3_readWord 4 = .ok (.aload_n 0, 1) := by decide +kernel
theorem dX3_readWord_5 : decode cX3_readWord 5 = .ok (.aload_n 0, 1) := by decide +kernel
theorem dX3_readWord_6 : decode cX3_readWord 6 = .ok (.getfield 31, 3) := by decide +kernel
theorem dX3_readWord_9 : decode cX3_readWord 9 = .ok (.putfield 50, 3) := by decide +kernel
theorem dX3_readWord_12 : decode cX3_readWord 12 = .ok (.aload_n 0, 1) := by decide +kernel
theorem dX3_readWord_13 : decode cX3_readWord 13 = .ok (.getfield 31, 3) := by decide +kernel
theorem dX3_readWord_16 : decode cX3_readWord 16 = .ok (.aload_n 0, 1) := by decide +kernel
theorem dX3_readWord_17 : decode cX3_readWord 17 = .ok (.getfield 28, 3) := by decide +kernel
theorem dX3_readWord_20 : decode cX3_readWord 20 = .ok (.if_icmp .ge 44, 3) := by decide +kernel
theorem dX3_readWord_23 : decode cX3_readWord 23 = .ok (.aload_n 0, 1) := by decide +kernel
theorem dX3_readWord_24 : decode cX3_readWord 24 = .ok (.getfield 9, 3) := by decide +kernel
theorem dX3_readWord_27 : decode cX3_readWord 27 = .ok (.aload_n 0, 1) := by decide +kernel
theorem dX3_readWord_28 : decode cX3_readWord 28 = .ok (.getfield 31, 3) := by decide +kernel
theorem dX3_readWord_31 : decode cX3_readWord 31 = .ok (.baload, 1) := by decide +kernel
theorem dX3_readWord_32 : decode cX3_readWord 32 = .ok (.bipush 97, 2) := by decide +kernel
theorem dX3_readWord_34 : decode cX3_readWord 34 = .ok (.if_icmp .lt 30, 3) := by decide +kernel
theorem dX3_readWord_37 : decode cX3_readWord 37 = .ok (.aload_n 0, 1) := by decide +kernel
theorem dX3_readWord_38 : decode cX3_readWord 38 = .ok (.getfield 9, 3) := by decide +kernel
theorem dX3_readWord_41 : decode cX3_readWord 41 = .ok (.aload_n 0, 1) := by decide +kernel
theorem dX3_readWord_42 : decode cX3_readWord 42 = .ok (.getfield 31, 3) := by decide +kernel
theorem dX3_readWord_45 : decode cX3_readWord 45 = .ok (.baload, 1) := by decide +kernel
theorem dX3_readWord_46 : decode cX3_readWord 46 = .ok (.bipush 122, 2) := by decide +kernel
theorem dX3_readWord_48 : decode cX3_readWord 48 = .ok (.if_icmp .gt 16, 3) := by decide +kernel
theorem dX3_readWord_51 : decode cX3_readWord 51 = .ok (.aload_n 0, 1) := by decide +kernel
theorem dX3_readWord_52 : decode cX3_readWord 52 = .ok (.dup, 1) := by decide +kernel
theorem dX3_readWord_53 : decode cX3_readWord 53 = .ok (.getfield 31, 3) := by decide +kernel
theorem dX3_readWord_56 : decode cX3_readWord 56 = .ok (.iconst 1, 1) := by decide +kernel
theorem dX3_readWord_57 : decode cX3_readWord 57 = .ok (.iadd, 1) := by decide +kernel
theorem dX3_readWord_58 : decode cX3_readWord 58 = .ok (.putfield 31, 3) := by decide +kernel
theorem dX3_readWord_61 : decode cX3_readWord 61 = .ok (.goto (-49), 3) := by decide +kernel
theorem dX3_readWord_64 : decode cX3_readWord 64 = .ok (.return_, 1) := by decide +kernel
theorem dX3_wordIs_0 : decode cX3_wordIs 0 = .ok (.aload_n 0, 1) := by decide +kernel
theorem dX3_wordIs_1 : decode cX3_wordIs 1 = .ok (.getfield 31, 3) := by decide +kernel
theorem dX3_wordIs_4 : decode cX3_wordIs 4 = .ok (.aload_n 0, 1) := by decide +kernel
theorem dX3_wordIs_5 : decode cX3_wordIs 5 = .ok (.getfield 50, 3) := by decide +kernel
theorem dX3_wordIs_8 : decode cX3_wordIs 8 = .ok (.isub, 1) := by decide +kernel
theorem dX3_wordIs_9 : decode cX3_wordIs 9 = .ok (.aload_n 1, 1) := by decide +kernel
theorem dX3_wordIs_10 : decode cX3_wordIs 10 = .ok (.invokevirtual 139, 3) := by decide +kernel
theorem dX3_wordIs_13 : decode cX3_wordIs 13 = .ok (.if_icmp .eq 5, 3) := by decide +kernel
theorem dX3_wordIs_16 : decode cX3_wordIs 16 = .ok (.iconst 0, 1) := by decide +kernel
theorem dX3_wordIs_17 : decode cX3_wordIs 17 = .ok (.ireturn, 1) := by decide +kernel
theorem dX3_wordIs_18 : decode cX3_wordIs 18 = .ok (.iconst 0, 1) := by decide +kernel
theorem dX3_wordIs_19 : decode cX3_wordIs 19 = .ok (.istore_n 2, 1) := by decide +kernel
theorem dX3_wordIs_20 : decode cX3_wordIs 20 = .ok (.iload_n 2, 1) := by decide +kernel
theorem dX3_wordIs_21 : decode cX3_wordIs 21 = .ok (.aload_n 1, 1) := by decide +kernel
theorem dX3_wordIs_22 : decode cX3_wordIs 22 = .ok (.invokevirtual 139, 3) := by decide +kernel
theorem dX3_wordIs_25 : decode cX3_wordIs 25 = .ok (.if_icmp .ge 43, 3) := by decide +kernel
theorem dX3_wordIs_28 : decode cX3_wordIs 28 = .ok (.aload_n 0, 1) := by decide +kernel
theorem dX3_wordIs_29 : decode cX3_wordIs 29 = .ok (.getfield 50, 3) := by decide +kernel
theorem dX3_wordIs_32 : decode cX3_wordIs 32 = .ok (.iload_n 2, 1) := by decide +kernel
theorem dX3_wordIs_33 : decode cX3_wordIs 33 = .ok (.iadd, 1) := by decide +kernel
theorem dX3_wordIs_34 : decode cX3_wordIs 34 = .ok (.aload_n 0, 1) := by decide +kernel
theorem dX3_wordIs_35 : decode cX3_wordIs 35 = .ok (.getfield 28, 3) := by decide +kernel
theorem dX3_wordIs_38 : decode cX3_wordIs 38 = .ok (.if_icmp .ge 30, 3) := by decide +kernel
theorem dX3_wordIs_41 : decode cX3_wordIs 41 = .ok (.aload_n 0, 1) := by decide +kernel
theorem dX3_wordIs_42 : decode cX3_wordIs 42 = .ok (.getfield 9, 3) := by decide +kernel
theorem dX3_wordIs_45 : decode cX3_wordIs 45 = .ok (.aload_n 0, 1) := by decide +kernel
theorem dX3_wordIs_46 : decode cX3_wordIs 46 = .ok (.getfield 50, 3) := by decide +kernel
theorem dX3_wordIs_49 : decode cX3_wordIs 49 = .ok (.iload_n 2, 1) := by decide +kernel
theorem dX3_wordIs_50 : decode cX3_wordIs 50 = .ok (.iadd, 1) := by decide +kernel
theorem dX3_wordIs_51 : decode cX3_wordIs 51 = .ok (.baload, 1) := by decide +kernel
theorem dX3_wordIs_52 : decode cX3_wordIs 52 = .ok (.aload_n 1, 1) := by decide +kernel
theorem dX3_wordIs_53 : decode cX3_wordIs 53 = .ok (.iload_n 2, 1) := by decide +kernel
theorem dX3_wordIs_54 : decode cX3_wordIs 54 = .ok (.invokevirtual 143, 3) := by decide +kernel
theorem dX3_wordIs_57 : decode cX3_wordIs 57 = .ok (.if_icmp .eq 5, 3) := by decide +kernel
theorem dX3_wordIs_60 : decode cX3_wordIs 60 = .ok (.iconst 0, 1) := by decide +kernel
theorem dX3_wordIs_61 : decode cX3_wordIs 61 = .ok (.ireturn, 1) := by decide +kernel
theorem dX3_wordIs_62 : decode cX3_wordIs 62 = .ok (.iinc 2 1, 3) := by decide +kernel
theorem dX3_wordIs_65 : decode cX3_wordIs 65 = .ok (.goto (-45), 3) := by decide +kernel
theorem dX3_wordIs_68 : decode cX3_wordIs 68 = .ok (.iconst 1, 1) := by decide +kernel
theorem dX3_wordIs_69 : decode cX3_wordIs 69 = .ok (.ireturn, 1) := by decide +kernel
theorem dX3_verbOfWord_0 : decode cX3_verbOfWord 0 = .ok (.aload_n 0, 1) := by decide +kernel
theorem dX3_verbOfWord_1 : decode cX3_verbOfWord 1 = .ok (.ldc 81, 2) := by decide +kernel
theorem dX3_verbOfWord_3 : decode cX3_verbOfWord 3 = .ok (.invokevirtual 83, 3) := by decide +kernel
theorem dX3_verbOfWord_6 : decode cX3_verbOfWord 6 = .ok (.ifCond .eq 5, 3) := by decide +kernel
theorem dX3_verbOfWord_9 : decode cX3_verbOfWord 9 = .ok (.iconst 0, 1) := by decide +kernel
theorem dX3_verbOfWord_10 : decode cX3_verbOfWord 10 = .ok (.ireturn, 1) := by decide +kernel
theorem dX3_verbOfWord_11 : decode cX3_verbOfWord 11 = .ok (.aload_n 0, 1) := by decide +kernel
theorem dX3_verbOfWord_12 : decode cX3_verbOfWord 12 = .ok (.ldc 87, 2) := by decide +kernel
theorem dX3_verbOfWord_14 : decode cX3_verbOfWord 14 = .ok (.invokevirtual 83, 3) := by decide +kernel
theorem dX3_verbOfWord_17 : decode cX3_verbOfWord 17 = .ok (.ifCond .eq 5, 3) := by decide +kernel
theorem dX3_verbOfWord_20 : decode cX3_verbOfWord 20 = .ok (.iconst 1, 1) := by decide +kernel
theorem dX3_verbOfWord_21 : decode cX3_verbOfWord 21 = .ok (.ireturn, 1) := by decide +kernel
theorem dX3_verbOfWord_22 : decode cX3_verbOfWord 22 = .ok (.aload_n 0, 1) := by decide +kernel
theorem dX3_verbOfWord_23 : decode cX3_verbOfWord 23 = .ok (.ldc 89, 2) := by decide +kernel
theorem dX3_verbOfWord_25 : decode cX3_verbOfWord 25 = .ok (.invokevirtual 83, 3) := by decide +kernel
theorem dX3_verbOfWord_28 : decode cX3_verbOfWord 28 = .ok (.ifCond .eq 5, 3) := by decide +kernel
theorem dX3_verbOfWord_31 : decode cX3_verbOfWord 31 = .ok (.iconst 2, 1) := by decide +kernel
theorem dX3_verbOfWord_32 : decode cX3_verbOfWord 32 = .ok (.ireturn, 1) := by decide +kernel
theorem dX3_verbOfWord_33 : decode cX3_verbOfWord 33 = .ok (.aload_n 0, 1) := by decide +kernel
theorem dX3_verbOfWord_34 : decode cX3_verbOfWord 34 = .ok (.ldc 91, 2) := by decide +kernel
theorem dX3_verbOfWord_36 : decode cX3_verbOfWord 36 = .ok (.invokevirtual 83, 3) := by decide +kernel
theorem dX3_verbOfWord_39 : decode cX3_verbOfWord 39 = .ok (.ifCond .eq 5, 3) := by decide +kernel
theorem dX3_verbOfWord_42 : decode cX3_verbOfWord 42 = .ok (.iconst 3, 1) := by decide +kernel
theorem dX3_verbOfWord_43 : decode cX3_verbOfWord 43 = .ok (.ireturn, 1) := by decide +kernel
theorem dX3_verbOfWord_44 : decode cX3_verbOfWord 44 = .ok (.aload_n 0, 1) := by decide +kernel
theorem dX3_verbOfWord_45 : decode cX3_verbOfWord 45 = .ok (.ldc 93, 2) := by decide +kernel
theorem dX3_verbOfWord_47 : decode cX3_verbOfWord 47 = .ok (.invokevirtual 83, 3) := by decide +kernel
theorem dX3_verbOfWord_50 : decode cX3_verbOfWord 50 = .ok (.ifCond .eq 5, 3) := by decide +kernel
theorem dX3_verbOfWord_53 : decode cX3_verbOfWord 53 = .ok (.iconst 4, 1) := by decide +kernel
theorem dX3_verbOfWord_54 : decode cX3_verbOfWord 54 = .ok (.ireturn, 1) := by decide +kernel
theorem dX3_verbOfWord_55 : decode cX3_verbOfWord 55 = .ok (.aload_n 0, 1) := by decide +kernel
theorem dX3_verbOfWord_56 : decode cX3_verbOfWord 56 = .ok (.ldc 95, 2) := by decide +kernel
theorem dX3_verbOfWord_58 : decode cX3_verbOfWord 58 = .ok (.invokevirtual 83, 3) := by decide +kernel
theorem dX3_verbOfWord_61 : decode cX3_verbOfWord 61 = .ok (.ifCond .eq 5, 3) := by decide +kernel
theorem dX3_verbOfWord_64 : decode cX3_verbOfWord 64 = .ok (.iconst 5, 1) := by decide +kernel
theorem dX3_verbOfWord_65 : decode cX3_verbOfWord 65 = .ok (.ireturn, 1) := by decide +kernel
theorem dX3_verbOfWord_66 : decode cX3_verbOfWord 66 = .ok (.aload_n 0, 1) := by decide +kernel
theorem dX3_verbOfWord_67 : decode cX3_verbOfWord 67 = .ok (.ldc 97, 2) := by decide +kernel
theorem dX3_verbOfWord_69 : decode cX3_verbOfWord 69 = .ok (.invokevirtual 83, 3) := by decide +kernel
theorem dX3_verbOfWord_72 : decode cX3_verbOfWord 72 = .ok (.ifCond .eq 8, 3) := by decide +kernel
theorem dX3_verbOfWord_75 : decode cX3_verbOfWord 75 = .ok (.bipush 6, 2) := by decide +kernel
theorem dX3_verbOfWord_77 : decode cX3_verbOfWord 77 = .ok (.goto 4, 3) := by decide +kernel
theorem dX3_verbOfWord_80 : decode cX3_verbOfWord 80 = .ok (.iconst (-1), 1) := by decide +kernel
theorem dX3_verbOfWord_81 : decode cX3_verbOfWord 81 = .ok (.ireturn, 1) := by decide +kernel
theorem dX3_fail_0 : decode cX3_fail 0 = .ok (.aload_n 0, 1) := by decide +kernel
theorem dX3_fail_1 : decode cX3_fail 1 = .ok (.iload_n 1, 1) := by decide +kernel
theorem dX3_fail_2 : decode cX3_fail 2 = .ok (.putfield 34, 3) := by decide +kernel
theorem dX3_fail_5 : decode cX3_fail 5 = .ok (.aload_n 0, 1) := by decide +kernel
theorem dX3_fail_6 : decode cX3_fail 6 = .ok (.iload_n 2, 1) := by decide +kernel
theorem dX3_fail_7 : decode cX3_fail 7 = .ok (.putfield 15, 3) := by decide +kernel
theorem dX3_fail_10 : decode cX3_fail 10 = .ok (.return_, 1) := by decide +kernel
theorem dX3_readNumber_0 : decode cX3_readNumber 0 = .ok (.aload_n 0, 1) := by decide +kernel
theorem dX3_readNumber_1 : decode cX3_readNumber 1 = .ok (.invokevirtual 37, 3) := by decide +kernel
theorem dX3_readNumber_4 : decode cX3_readNumber 4 = .ok (.aload_n 0, 1) := by decide +kernel
theorem dX3_readNumber_5 : decode cX3_readNumber 5 = .ok (.getfield 31, 3) := by decide +kernel
theorem dX3_readNumber_8 : decode cX3_readNumber 8 = .ok (.istore_n 3, 1) := by decide +kernel
theorem dX3_readNumber_9 : decode cX3_readNumber 9 = .ok (.lconst 0, 1) := by decide +kernel
theorem dX3_readNumber_10 : decode cX3_readNumber 10 = .ok (.lstore 4, 2) := by decide +kernel
theorem dX3_readNumber_12 : decode cX3_readNumber 12 = .ok (.aload_n 0, 1) := by decide +kernel
theorem dX3_readNumber_13 : decode cX3_readNumber 13 = .ok (.getfield 31, 3) := by decide +kernel
theorem dX3_readNumber_16 : decode cX3_readNumber 16 = .ok (.aload_n 0, 1) := by decide +kernel
theorem dX3_readNumber_17 : decode cX3_readNumber 17 = .ok (.getfield 28, 3) := by decide +kernel
theorem dX3_readNumber_20 : decode cX3_readNumber 20 = .ok (.if_icmp .ge 73, 3) := by decide +kernel
theorem dX3_readNumber_23 : decode cX3_readNumber 23 = .ok (.aload_n 0, 1) := by decide +kernel
theorem dX3_readNumber_24 : decode cX3_readNumber 24 = .ok (.getfield 9, 3) := by decide +kernel
theorem dX3_readNumber_27 : decode cX3_readNumber 27 = .ok (.aload_n 0, 1) := by decide +kernel
theorem dX3_readNumber_28 : decode cX3_readNumber 28 = .ok (.getfield 31, 3) := by decide +kernel
theorem dX3_readNumber_31 : decode cX3_readNumber 31 = .ok (.baload, 1) := by decide +kernel
theorem dX3_readNumber_32 : decode cX3_readNumber 32 = .ok (.bipush 48, 2) := by decide +kernel
theorem dX3_readNumber_34 : decode cX3_readNumber 34 = .ok (.if_icmp .lt 59, 3) := by decide +kernel
theorem dX3_readNumber_37 : decode cX3_readNumber 37 = .ok (.aload_n 0, 1) := by decide +kernel
theorem dX3_readNumber_38 : decode cX3_readNumber 38 = .ok (.getfield 9, 3) := by decide +kernel
theorem dX3_readNumber_41 : decode cX3_readNumber 41 = .ok (.aload_n 0, 1) := by decide +kernel
theorem dX3_readNumber_42 : decode cX3_readNumber 42 = .ok (.getfield 31, 3) := by decide +kernel
theorem dX3_readNumber_45 : decode cX3_readNumber 45 = .ok (.baload, 1) := by decide +kernel
theorem dX3_readNumber_46 : decode cX3_readNumber 46 = .ok (.bipush 57, 2) := by decide +kernel
theorem dX3_readNumber_48 : decode cX3_readNumber 48 = .ok (.if_icmp .gt 45, 3) := by decide +kernel
theorem dX3_readNumber_51 : decode cX3_readNumber 51 = .ok (.ldc2_w 130, 3) := by decide +kernel
theorem dX3_readNumber_54 : decode cX3_readNumber 54 = .ok (.lload 4, 2) := by decide +kernel
theorem dX3_readNumber_56 : decode cX3_readNumber 56 = .ok (.lmul, 1) := by decide +kernel
theorem dX3_readNumber_57 : decode cX3_readNumber 57 = .ok (.aload_n 0, 1) := by decide +kernel
theorem dX3_readNumber_58 : decode cX3_readNumber 58 = .ok (.getfield 9, 3) := by decide +kernel
theorem dX3_readNumber_61 : decode cX3_readNumber 61 = .ok (.aload_n 0, 1) := by decide +kernel
theorem dX3_readNumber_62 : decode cX3_readNumber 62 = .ok (.getfield 31, 3) := by decide +kernel
theorem dX3_readNumber_65 : decode cX3_readNumber 65 = .ok (.baload, 1) := by decide +kernel
theorem dX3_readNumber_66 : decode cX3_readNumber 66 = .ok (.i2l, 1) := by decide +kernel
theorem dX3_readNumber_67 : decode cX3_readNumber 67 = .ok (.ladd, 1) := by decide +kernel
theorem dX3_readNumber_68 : decode cX3_readNumber 68 = .ok (.ldc2_w 132, 3) := by decide +kernel
theorem dX3_readNumber_71 : decode cX3_readNumber 71 = .ok (.lsub, 1) := by decide +kernel
theorem dX3_readNumber_72 : decode cX3_readNumber 72 = .ok (.ldc2_w 134, 3) := by decide +kernel
theorem dX3_readNumber_75 : decode cX3_readNumber 75 = .ok (.invokestatic 136, 3) := by decide +kernel
theorem dX3_readNumber_78 : decode cX3_readNumber 78 = .ok (.lstore 4, 2) := by decide +kernel
theorem dX3_readNumber_80 : decode cX3_readNumber 80 = .ok (.aload_n 0, 1) := by decide +kernel
theorem dX3_readNumber_81 : decode cX3_readNumber 81 = .ok (.dup, 1) := by decide +kernel
theorem dX3_readNumber_82 : decode cX3_readNumber 82 = .ok (.getfield 31, 3) := by decide +kernel
theorem dX3_readNumber_85 : decode cX3_readNumber 85 = .ok (.iconst 1, 1) := by decide +kernel
theorem dX3_readNumber_86 : decode cX3_readNumber 86 = .ok (.iadd, 1) := by decide +kernel
theorem dX3_readNumber_87 : decode cX3_readNumber 87 = .ok (.putfield 31, 3) := by decide +kernel
theorem dX3_readNumber_90 : decode cX3_readNumber 90 = .ok (.goto (-78), 3) := by decide +kernel
theorem dX3_readNumber_93 : decode cX3_readNumber 93 = .ok (.aload_n 0, 1) := by decide +kernel
theorem dX3_readNumber_94 : decode cX3_readNumber 94 = .ok (.getfield 31, 3) := by decide +kernel
theorem dX3_readNumber_97 : decode cX3_readNumber 97 = .ok (.iload_n 3, 1) := by decide +kernel
theorem dX3_readNumber_98 : decode cX3_readNumber 98 = .ok (.if_icmp .ne 12, 3) := by decide +kernel
theorem dX3_readNumber_101 : decode cX3_readNumber 101 = .ok (.aload_n 0, 1) := by decide +kernel
theorem dX3_readNumber_102 : decode cX3_readNumber 102 = .ok (.bipush (-2), 2) := by decide +kernel
theorem dX3_readNumber_104 : decode cX3_readNumber 104 = .ok (.iload_n 3, 1) := by decide +kernel
theorem dX3_readNumber_105 : decode cX3_readNumber 105 = .ok (.invokevirtual 53, 3) := by decide +kernel
theorem dX3_readNumber_108 : decode cX3_readNumber 108 = .ok (.iconst 0, 1) := by decide +kernel
theorem dX3_readNumber_109 : decode cX3_readNumber 109 = .ok (.ireturn, 1) := by decide +kernel
theorem dX3_readNumber_110 : decode cX3_readNumber 110 = .ok (.lload 4, 2) := by decide +kernel
theorem dX3_readNumber_112 : decode cX3_readNumber 112 = .ok (.iload_n 1, 1) := by decide +kernel
theorem dX3_readNumber_113 : decode cX3_readNumber 113 = .ok (.i2l, 1) := by decide +kernel
theorem dX3_readNumber_114 : decode cX3_readNumber 114 = .ok (.lcmp, 1) := by decide +kernel
theorem dX3_readNumber_115 : decode cX3_readNumber 115 = .ok (.ifCond .lt 11, 3) := by decide +kernel
theorem dX3_readNumber_118 : decode cX3_readNumber 118 = .ok (.lload 4, 2) := by decide +kernel
theorem dX3_readNumber_120 : decode cX3_readNumber 120 = .ok (.iload_n 2, 1) := by decide +kernel
theorem dX3_readNumber_121 : decode cX3_readNumber 121 = .ok (.i2l, 1) := by decide +kernel
theorem dX3_readNumber_122 : decode cX3_readNumber 122 = .ok (.lcmp, 1) := by decide +kernel
theorem dX3_readNumber_123 : decode cX3_readNumber 123 = .ok (.ifCond .le 12, 3) := by decide +kernel
theorem dX3_readNumber_126 : decode cX3_readNumber 126 = .ok (.aload_n 0, 1) := by decide +kernel
theorem dX3_readNumber_127 : decode cX3_readNumber 127 = .ok (.bipush (-3), 2) := by decide +kernel
theorem dX3_readNumber_129 : decode cX3_readNumber 129 = .ok (.iload_n 3, 1) := by decide +kernel
theorem dX3_readNumber_130 : decode cX3_readNumber 130 = .ok (.invokevirtual 53, 3) := by decide +kernel
theorem dX3_readNumber_133 : decode cX3_readNumber 133 = .ok (.iconst 0, 1) := by decide +kernel
theorem dX3_readNumber_134 : decode cX3_readNumber 134 = .ok (.ireturn, 1) := by decide +kernel
theorem dX3_readNumber_135 : decode cX3_readNumber 135 = .ok (.lload 4, 2) := by decide +kernel
theorem dX3_readNumber_137 : decode cX3_readNumber 137 = .ok (.l2i, 1) := by decide +kernel
theorem dX3_readNumber_138 : decode cX3_readNumber 138 = .ok (.ireturn, 1) := by decide +kernel
theorem dX3_readPulse_0 : decode cX3_readPulse 0 = .ok (.aload_n 0, 1) := by decide +kernel
theorem dX3_readPulse_1 : decode cX3_readPulse 1 = .ok (.aload_n 0, 1) := by decide +kernel
theorem dX3_readPulse_2 : decode cX3_readPulse 2 = .ok (.iload_n 1, 1) := by decide +kernel
theorem dX3_readPulse_3 : decode cX3_readPulse 3 = .ok (.iconst 1, 1) := by decide +kernel
theorem dX3_readPulse_4 : decode cX3_readPulse 4 = .ok (.iadd, 1) := by decide +kernel
theorem dX3_readPulse_5 : decode cX3_readPulse 5 = .ok (.ldc 112, 2) := by decide +kernel
theorem dX3_readPulse_7 : decode cX3_readPulse 7 = .ok (.invokevirtual 106, 3) := by decide +kernel
theorem dX3_readPulse_10 : decode cX3_readPulse 10 = .ok (.putfield 109, 3) := by decide +kernel
theorem dX3_readPulse_13 : decode cX3_readPulse 13 = .ok (.aload_n 0, 1) := by decide +kernel
theorem dX3_readPulse_14 : decode cX3_readPulse 14 = .ok (.getfield 34, 3) := by decide +kernel
theorem dX3_readPulse_17 : decode cX3_readPulse 17 = .ok (.ifCond .ne 15, 3) := by decide +kernel
theorem dX3_readPulse_20 : decode cX3_readPulse 20 = .ok (.aload_n 0, 1) := by decide +kernel
theorem dX3_readPulse_21 : decode cX3_readPulse 21 = .ok (.aload_n 0, 1) := by decide +kernel
theorem dX3_readPulse_22 : decode cX3_readPulse 22 = .ok (.iconst 0, 1) := by decide +kernel
theorem dX3_readPulse_23 : decode cX3_readPulse 23 = .ok (.sipush 9999, 3) := by decide +kernel
theorem dX3_readPulse_26 : decode cX3_readPulse 26 = .ok (.invokevirtual 106, 3) := by decide +kernel
theorem dX3_readPulse_29 : decode cX3_readPulse 29 = .ok (.putfield 113, 3) := by decide +kernel
theorem dX3_readPulse_32 : decode cX3_readPulse 32 = .ok (.return_, 1) := by decide +kernel
theorem dX3_readHearing_0 : decode cX3_readHearing 0 = .ok (.aload_n 0, 1) := by decide +kernel
theorem dX3_readHearing_1 : decode cX3_readHearing 1 = .ok (.iconst 0, 1) := by decide +kernel
theorem dX3_readHearing_2 : decode cX3_readHearing 2 = .ok (.putfield 116, 3) := by decide +kernel
theorem dX3_readHearing_5 : decode cX3_readHearing 5 = .ok (.aload_n 0, 1) := by decide +kernel
theorem dX3_readHearing_6 : decode cX3_readHearing 6 = .ok (.lconst 0, 1) := by decide +kernel
theorem dX3_readHearing_7 : decode cX3_readHearing 7 = .ok (.putfield 120, 3) := by decide +kernel
theorem dX3_readHearing_10 : decode cX3_readHearing 10 = .ok (.iload_n 1, 1) := by decide +kernel
theorem dX3_readHearing_11 : decode cX3_readHearing 11 = .ok (.ifCond .ne 14, 3) := by decide +kernel
theorem dX3_readHearing_14 : decode cX3_readHearing 14 = .ok (.aload_n 0, 1) := by decide +kernel
theorem dX3_readHearing_15 : decode cX3_readHearing 15 = .ok (.bipush (-3), 2) := by decide +kernel
theorem dX3_readHearing_17 : decode cX3_readHearing 17 = .ok (.aload_n 0, 1) := by decide +kernel
theorem dX3_readHearing_18 : decode cX3_readHearing 18 = .ok (.getfield 50, 3) := by decide +kernel
theorem dX3_readHearing_21 : decode cX3_readHearing 21 = .ok (.invokevirtual 53, 3) := by decide +kernel
theorem dX3_readHearing_24 : decode cX3_readHearing 24 = .ok (.return_, 1) := by decide +kernel
theorem dX3_readHearing_25 : decode cX3_readHearing 25 = .ok (.aload_n 0, 1) := by decide +kernel
theorem dX3_readHearing_26 : decode cX3_readHearing 26 = .ok (.aload_n 0, 1) := by decide +kernel
theorem dX3_readHearing_27 : decode cX3_readHearing 27 = .ok (.iconst 0, 1) := by decide +kernel
theorem dX3_readHearing_28 : decode cX3_readHearing 28 = .ok (.ldc 126, 2) := by decide +kernel
theorem dX3_readHearing_30 : decode cX3_readHearing 30 = .ok (.invokevirtual 106, 3) := by decide +kernel
theorem dX3_readHearing_33 : decode cX3_readHearing 33 = .ok (.putfield 109, 3) := by decide +kernel
theorem dX3_readHearing_36 : decode cX3_readHearing 36 = .ok (.aload_n 0, 1) := by decide +kernel
theorem dX3_readHearing_37 : decode cX3_readHearing 37 = .ok (.getfield 34, 3) := by decide +kernel
theorem dX3_readHearing_40 : decode cX3_readHearing 40 = .ok (.ifCond .eq 4, 3) := by decide +kernel
theorem dX3_readHearing_43 : decode cX3_readHearing 43 = .ok (.return_, 1) := by decide +kernel
theorem dX3_readHearing_44 : decode cX3_readHearing 44 = .ok (.aload_n 0, 1) := by decide +kernel
theorem dX3_readHearing_45 : decode cX3_readHearing 45 = .ok (.invokevirtual 40, 3) := by decide +kernel
theorem dX3_readHearing_48 : decode cX3_readHearing 48 = .ok (.aload_n 0, 1) := by decide +kernel
theorem dX3_readHearing_49 : decode cX3_readHearing 49 = .ok (.ldc 127, 2) := by decide +kernel
theorem dX3_readHearing_51 : decode cX3_readHearing 51 = .ok (.invokevirtual 83, 3) := by decide +kernel
theorem dX3_readHearing_54 : decode cX3_readHearing 54 = .ok (.ifCond .eq 12, 3) := by decide +kernel
theorem dX3_readHearing_57 : decode cX3_readHearing 57 = .ok (.aload_n 0, 1) := by decide +kernel
theorem dX3_readHearing_58 : decode cX3_readHearing 58 = .ok (.iconst 1, 1) := by decide +kernel
theorem dX3_readHearing_59 : decode cX3_readHearing 59 = .ok (.putfield 116, 3) := by decide +kernel
theorem dX3_readHearing_62 : decode cX3_readHearing 62 = .ok (.aload_n 0, 1) := by decide +kernel
theorem dX3_readHearing_63 : decode cX3_readHearing 63 = .ok (.invokevirtual 40, 3) := by decide +kernel
theorem dX3_readHearing_66 : decode cX3_readHearing 66 = .ok (.iconst 0, 1) := by decide +kernel
theorem dX3_readHearing_67 : decode cX3_readHearing 67 = .ok (.istore_n 2, 1) := by decide +kernel
theorem dX3_readHearing_68 : decode cX3_readHearing 68 = .ok (.iload_n 2, 1) := by decide +kernel
theorem dX3_readHearing_69 : decode cX3_readHearing 69 = .ok (.aload_n 0, 1) := by decide +kernel
theorem dX3_readHearing_70 : decode cX3_readHearing 70 = .ok (.getfield 28, 3) := by decide +kernel
theorem dX3_readHearing_73 : decode cX3_readHearing 73 = .ok (.if_icmp .ge 48, 3) := by decide +kernel
theorem dX3_readHearing_76 : decode cX3_readHearing 76 = .ok (.aload_n 0, 1) := by decide +kernel
theorem dX3_readHearing_77 : decode cX3_readHearing 77 = .ok (.ldc 128, 2) := by decide +kernel
theorem dX3_readHearing_79 : decode cX3_readHearing 79 = .ok (.invokevirtual 83, 3) := by decide +kernel
theorem dX3_readHearing_82 : decode cX3_readHearing 82 = .ok (.ifCond .eq 39, 3) := by decide +kernel
theorem dX3_readHearing_85 : decode cX3_readHearing 85 = .ok (.aload_n 0, 1) := by decide +kernel
theorem dX3_readHearing_86 : decode cX3_readHearing 86 = .ok (.dup, 1) := by decide +kernel
theorem dX3_readHearing_87 : decode cX3_readHearing 87 = .ok (.getfield 120, 3) := by decide +kernel
theorem dX3_readHearing_90 : decode cX3_readHearing 90 = .ok (.lconst 1, 1) := by decide +kernel
theorem dX3_readHearing_91 : decode cX3_readHearing 91 = .ok (.aload_n 0, 1) := by decide +kernel
theorem dX3_readHearing_92 : decode cX3_readHearing 92 = .ok (.iconst 0, 1) := by decide +kernel
theorem dX3_readHearing_93 : decode cX3_readHearing 93 = .ok (.bipush 58, 2) := by decide +kernel
theorem dX3_readHearing_95 : decode cX3_readHearing 95 = .ok (.invokevirtual 106, 3) := by decide +kernel
theorem dX3_readHearing_98 : decode cX3_readHearing 98 = .ok (.lshl, 1) := by decide +kernel
theorem dX3_readHearing_99 : decode cX3_readHearing 99 = .ok (.lor, 1) := by decide +kernel
theorem dX3_readHearing_100 : decode cX3_readHearing 100 = .ok (.putfield 120, 3) := by decide +kernel
theorem dX3_readHearing_103 : decode cX3_readHearing 103 = .ok (.aload_n 0, 1) := by decide +kernel
theorem dX3_readHearing_104 : decode cX3_readHearing 104 = .ok (.getfield 34, 3) := by decide +kernel
theorem dX3_readHearing_107 : decode cX3_readHearing 107 = .ok (.ifCond .eq 4, 3) := by decide +kernel
theorem dX3_readHearing_110 : decode cX3_readHearing 110 = .ok (.return_, 1) := by decide +kernel
theorem dX3_readHearing_111 : decode cX3_readHearing 111 = .ok (.aload_n 0, 1) := by decide +kernel
theorem dX3_readHearing_112 : decode cX3_readHearing 112 = .ok (.invokevirtual 40, 3) := by decide +kernel
theorem dX3_readHearing_115 : decode cX3_readHearing 115 = .ok (.iinc 2 1, 3) := by decide +kernel
theorem dX3_readHearing_118 : decode cX3_readHearing 118 = .ok (.goto (-50), 3) := by decide +kernel
theorem dX3_readHearing_121 : decode cX3_readHearing 121 = .ok (.aload_n 0, 1) := by decide +kernel
theorem dX3_readHearing_122 : decode cX3_readHearing 122 = .ok (.getfield 31, 3) := by decide +kernel
theorem dX3_readHearing_125 : decode cX3_readHearing 125 = .ok (.aload_n 0, 1) := by decide +kernel
theorem dX3_readHearing_126 : decode cX3_readHearing 126 = .ok (.getfield 50, 3) := by decide +kernel
theorem dX3_readHearing_129 : decode cX3_readHearing 129 = .ok (.if_icmp .le 13, 3) := by decide +kernel
theorem dX3_readHearing_132 : decode cX3_readHearing 132 = .ok (.aload_n 0, 1) := by decide +kernel
theorem dX3_readHearing_133 : decode cX3_readHearing 133 = .ok (.bipush (-2), 2) := by decide +kernel
theorem dX3_readHearing_135 : decode cX3_readHearing 135 = .ok (.aload_n 0, 1) := by decide +kernel
theorem dX3_readHearing_136 : decode cX3_readHearing 136 = .ok (.getfield 50, 3) := by decide +kernel
theorem dX3_readHearing_139 : decode cX3_readHearing 139 = .ok (.invokevirtual 53, 3) := by decide +kernel
theorem dX3_readHearing_142 : decode cX3_readHearing 142 = .ok (.return_, 1) := by decide +kernel
theorem dX3_readSign_0 : decode cX3_readSign 0 = .ok (.aload_n 0, 1) := by decide +kernel
theorem dX3_readSign_1 : decode cX3_readSign 1 = .ok (.invokevirtual 37, 3) := by decide +kernel
theorem dX3_readSign_4 : decode cX3_readSign 4 = .ok (.aload_n 0, 1) := by decide +kernel
theorem dX3_readSign_5 : decode cX3_readSign 5 = .ok (.getfield 31, 3) := by decide +kernel
theorem dX3_readSign_8 : decode cX3_readSign 8 = .ok (.aload_n 0, 1) := by decide +kernel
theorem dX3_readSign_9 : decode cX3_readSign 9 = .ok (.getfield 28, 3) := by decide +kernel
theorem dX3_readSign_12 : decode cX3_readSign 12 = .ok (.if_icmp .ge 28, 3) := by decide +kernel
theorem dX3_readSign_15 : decode cX3_readSign 15 = .ok (.aload_n 0, 1) := by decide +kernel
theorem dX3_readSign_16 : decode cX3_readSign 16 = .ok (.getfield 9, 3) := by decide +kernel
theorem dX3_readSign_19 : decode cX3_readSign 19 = .ok (.aload_n 0, 1) := by decide +kernel
theorem dX3_readSign_20 : decode cX3_readSign 20 = .ok (.getfield 31, 3) := by decide +kernel
theorem dX3_readSign_23 : decode cX3_readSign 23 = .ok (.baload, 1) := by decide +kernel
theorem dX3_readSign_24 : decode cX3_readSign 24 = .ok (.iload_n 1, 1) := by decide +kernel
theorem dX3_readSign_25 : decode cX3_readSign 25 = .ok (.if_icmp .ne 15, 3) := by decide +kernel
theorem dX3_readSign_28 : decode cX3_readSign 28 = .ok (.aload_n 0, 1) := by decide +kernel
theorem dX3_readSign_29 : decode cX3_readSign 29 = .ok (.dup, 1) := by decide +kernel
theorem dX3_readSign_30 : decode cX3_readSign 30 = .ok (.getfield 31, 3) := by decide +kernel
theorem dX3_readSign_33 : decode cX3_readSign 33 = .ok (.iconst 1, 1) := by decide +kernel
theorem dX3_readSign_34 : decode cX3_readSign 34 = .ok (.iadd, 1) := by decide +kernel
theorem dX3_readSign_35 : decode cX3_readSign 35 = .ok (.putfield 31, 3) := by decide +kernel
theorem dX3_readSign_38 : decode cX3_readSign 38 = .ok (.iconst 1, 1) := by decide +kernel
theorem dX3_readSign_39 : decode cX3_readSign 39 = .ok (.ireturn, 1) := by decide +kernel
theorem dX3_readSign_40 : decode cX3_readSign 40 = .ok (.iconst 0, 1) := by decide +kernel
theorem dX3_readSign_41 : decode cX3_readSign 41 = .ok (.ireturn, 1) := by decide +kernel
theorem dX3_readSetting_0 : decode cX3_readSetting 0 = .ok (.aload_n 0, 1) := by decide +kernel
theorem dX3_readSetting_1 : decode cX3_readSetting 1 = .ok (.getfield 47, 3) := by decide +kernel
theorem dX3_readSetting_4 : decode cX3_readSetting 4 = .ok (.iconst 4, 1) := by decide +kernel
theorem dX3_readSetting_5 : decode cX3_readSetting 5 = .ok (.if_icmp .eq 30, 3) := by decide +kernel
theorem dX3_readSetting_8 : decode cX3_readSetting 8 = .ok (.aload_n 0, 1) := by decide +kernel
theorem dX3_readSetting_9 : decode cX3_readSetting 9 = .ok (.aload_n 0, 1) := by decide +kernel
theorem dX3_readSetting_10 : decode cX3_readSetting 10 = .ok (.getstatic 99, 3) := by decide +kernel
theorem dX3_readSetting_13 : decode cX3_readSetting 13 = .ok (.aload_n 0, 1) := by decide +kernel
theorem dX3_readSetting_14 : decode cX3_readSetting 14 = .ok (.getfield 47, 3) := by decide +kernel
theorem dX3_readSetting_17 : decode cX3_readSetting 17 = .ok (.iaload, 1) := by decide +kernel
theorem dX3_readSetting_18 : decode cX3_readSetting 18 = .ok (.getstatic 103, 3) := by decide +kernel
theorem dX3_readSetting_21 : decode cX3_readSetting 21 = .ok (.aload_n 0, 1) := by decide +kernel
theorem dX3_readSetting_22 : decode cX3_readSetting 22 = .ok (.getfield 47, 3) := by decide +kernel
theorem dX3_readSetting_25 : decode cX3_readSetting 25 = .ok (.iaload, 1) := by decide +kernel
theorem dX3_readSetting_26 : decode cX3_readSetting 26 = .ok (.invokevirtual 106, 3) := by decide +kernel
theorem dX3_readSetting_29 : decode cX3_readSetting 29 = .ok (.putfield 109, 3) := by decide +kernel
theorem dX3_readSetting_32 : decode cX3_readSetting 32 = .ok (.goto 45, 3) := by decide +kernel
theorem dX3_readSetting_35 : decode cX3_readSetting 35 = .ok (.aload_n 0, 1) := by decide +kernel
theorem dX3_readSetting_36 : decode cX3_readSetting 36 = .ok (.bipush 45, 2) := by decide +kernel
theorem dX3_readSetting_38 : decode cX3_readSetting 38 = .ok (.invokevirtual 77, 3) := by decide +kernel
theorem dX3_readSetting_41 : decode cX3_readSetting 41 = .ok (.ifCond .eq 22, 3) := by decide +kernel
theorem dX3_readSetting_44 : decode cX3_readSetting 44 = .ok (.aload_n 0, 1) := by decide +kernel
theorem dX3_readSetting_45 : decode cX3_readSetting 45 = .ok (.aload_n 0, 1) := by decide +kernel
theorem dX3_readSetting_46 : decode cX3_readSetting 46 = .ok (.iconst 0, 1) := by decide +kernel
theorem dX3_readSetting_47 : decode cX3_readSetting 47 = .ok (.getstatic 99, 3) := by decide +kernel
theorem dX3_readSetting_50 : decode cX3_readSetting 50 = .ok (.iconst 4, 1) := by decide +kernel
theorem dX3_readSetting_51 : decode cX3_readSetting 51 = .ok (.iaload, 1) := by decide +kernel
theorem dX3_readSetting_52 : decode cX3_readSetting 52 = .ok (.ineg, 1) := by decide +kernel
theorem dX3_readSetting_53 : decode cX3_readSetting 53 = .ok (.invokevirtual 106, 3) := by decide +kernel
theorem dX3_readSetting_56 : decode cX3_readSetting 56 = .ok (.ineg, 1) := by decide +kernel
theorem dX3_readSetting_57 : decode cX3_readSetting 57 = .ok (.putfield 109, 3) := by decide +kernel
theorem dX3_readSetting_60 : decode cX3_readSetting 60 = .ok (.goto 17, 3) := by decide +kernel
theorem dX3_readSetting_63 : decode cX3_readSetting 63 = .ok (.aload_n 0, 1) := by decide +kernel
theorem dX3_readSetting_64 : decode cX3_readSetting 64 = .ok (.aload_n 0, 1) := by decide +kernel
theorem dX3_readSetting_65 : decode cX3_readSetting 65 = .ok (.iconst 0, 1) := by decide +kernel
theorem dX3_readSetting_66 : decode cX3_readSetting 66 = .ok (.getstatic 103, 3) := by decide +kernel
theorem dX3_readSetting_69 : decode cX3_readSetting 69 = .ok (.iconst 4, 1) := by decide +kernel
theorem dX3_readSetting_70 : decode cX3_readSetting 70 = .ok (.iaload, 1) := by decide +kernel
theorem dX3_readSetting_71 : decode cX3_readSetting 71 = .ok (.invokevirtual 106, 3) := by decide +kernel
theorem dX3_readSetting_74 : decode cX3_readSetting 74 = .ok (.putfield 109, 3) := by decide +kernel
theorem dX3_readSetting_77 : decode cX3_readSetting 77 = .ok (.return_, 1) := by decide +kernel
theorem dX3_readStatement_0 : decode cX3_readStatement 0 = .ok (.aload_n 0, 1) := by decide +kernel
theorem dX3_readStatement_1 : decode cX3_readStatement 1 = .ok (.invokevirtual 40, 3) := by decide +kernel
theorem dX3_readStatement_4 : decode cX3_readStatement 4 = .ok (.aload_n 0, 1) := by decide +kernel
theorem dX3_readStatement_5 : decode cX3_readStatement 5 = .ok (.aload_n 0, 1) := by decide +kernel
theorem dX3_readStatement_6 : decode cX3_readStatement 6 = .ok (.invokevirtual 43, 3) := by decide +kernel
theorem dX3_readStatement_9 : decode cX3_readStatement 9 = .ok (.putfield 47, 3) := by decide +kernel
theorem dX3_readStatement_12 : decode cX3_readStatement 12 = .ok (.aload_n 0, 1) := by decide +kernel
theorem dX3_readStatement_13 : decode cX3_readStatement 13 = .ok (.getfield 47, 3) := by decide +kernel
theorem dX3_readStatement_16 : decode cX3_readStatement 16 = .ok (.iconst (-1), 1) := by decide +kernel
theorem dX3_readStatement_17 : decode cX3_readStatement 17 = .ok (.if_icmp .ne 16, 3) := by decide +kernel
theorem dX3_readStatement_20 : decode cX3_readStatement 20 = .ok (.aload_n 0, 1) := by decide +kernel
theorem dX3_readStatement_21 : decode cX3_readStatement 21 = .ok (.bipush (-2), 2) := by decide +kernel
theorem dX3_readStatement_23 : decode cX3_readStatement 23 = .ok (.aload_n 0, 1) := by decide +kernel
theorem dX3_readStatement_24 : decode cX3_readStatement 24 = .ok (.getfield 50, 3) := by decide +kernel
theorem dX3_readStatement_27 : decode cX3_readStatement 27 = .ok (.invokevirtual 53, 3) := by decide +kernel
theorem dX3_readStatement_30 : decode cX3_readStatement 30 = .ok (.goto 46, 3) := by decide +kernel
theorem dX3_readStatement_33 : decode cX3_readStatement 33 = .ok (.aload_n 0, 1) := by decide +kernel
theorem dX3_readStatement_34 : decode cX3_readStatement 34 = .ok (.getfield 47, 3) := by decide +kernel
theorem dX3_readStatement_37 : decode cX3_readStatement 37 = .ok (.iconst 5, 1) := by decide +kernel
theorem dX3_readStatement_38 : decode cX3_readStatement 38 = .ok (.if_icmp .ne 14, 3) := by decide +kernel
theorem dX3_readStatement_41 : decode cX3_readStatement 41 = .ok (.aload_n 0, 1) := by decide +kernel
theorem dX3_readStatement_42 : decode cX3_readStatement 42 = .ok (.aload_n 1, 1) := by decide +kernel
theorem dX3_readStatement_43 : decode cX3_readStatement 43 = .ok (.getfield 57, 3) := by decide +kernel
theorem dX3_readStatement_46 : decode cX3_readStatement 46 = .ok (.invokevirtual 62, 3) := by decide +kernel
theorem dX3_readStatement_49 : decode cX3_readStatement 49 = .ok (.goto 27, 3) := by decide +kernel
theorem dX3_readStatement_52 : decode cX3_readStatement 52 = .ok (.aload_n 0, 1) := by decide +kernel
theorem dX3_readStatement_53 : decode cX3_readStatement 53 = .ok (.getfield 47, 3) := by decide +kernel
theorem dX3_readStatement_56 : decode cX3_readStatement 56 = .ok (.bipush 6, 2) := by decide +kernel
theorem dX3_readStatement_58 : decode cX3_readStatement 58 = .ok (.if_icmp .ne 14, 3) := by decide +kernel
theorem dX3_readStatement_61 : decode cX3_readStatement 61 = .ok (.aload_n 0, 1) := by decide +kernel
theorem dX3_readStatement_62 : decode cX3_readStatement 62 = .ok (.aload_n 1, 1) := by decide +kernel
theorem dX3_readStatement_63 : decode cX3_readStatement 63 = .ok (.invokevirtual 66, 3) := by decide +kernel
theorem dX3_readStatement_66 : decode cX3_readStatement 66 = .ok (.invokevirtual 70, 3) := by decide +kernel
theorem dX3_readStatement_69 : decode cX3_readStatement 69 = .ok (.goto 7, 3) := by decide +kernel
theorem dX3_readStatement_72 : decode cX3_readStatement 72 = .ok (.aload_n 0, 1) := by decide +kernel
theorem dX3_readStatement_73 : decode cX3_readStatement 73 = .ok (.invokevirtual 74, 3) := by decide +kernel
theorem dX3_readStatement_76 : decode cX3_readStatement 76 = .ok (.aload_n 0, 1) := by decide +kernel
theorem dX3_readStatement_77 : decode cX3_readStatement 77 = .ok (.getfield 34, 3) := by decide +kernel
theorem dX3_readStatement_80 : decode cX3_readStatement 80 = .ok (.ifCond .ne 22, 3) := by decide +kernel
theorem dX3_readStatement_83 : decode cX3_readStatement 83 = .ok (.aload_n 0, 1) := by decide +kernel
theorem dX3_readStatement_84 : decode cX3_readStatement 84 = .ok (.bipush 59, 2) := by decide +kernel
theorem dX3_readStatement_86 : decode cX3_readStatement 86 = .ok (.invokevirtual 77, 3) := by decide +kernel
theorem dX3_readStatement_89 : decode cX3_readStatement 89 = .ok (.ifCond .ne 13, 3) := by decide +kernel
theorem dX3_readStatement_92 : decode cX3_readStatement 92 = .ok (.aload_n 0, 1) := by decide +kernel
theorem dX3_readStatement_93 : decode cX3_readStatement 93 = .ok (.bipush (-2), 2) := by decide +kernel
theorem dX3_readStatement_95 : decode cX3_readStatement 95 = .ok (.aload_n 0, 1) := by decide +kernel
theorem dX3_readStatement_96 : decode cX3_readStatement 96 = .ok (.getfield 31, 3) := by decide +kernel
theorem dX3_readStatement_99 : decode cX3_readStatement 99 = .ok (.invokevirtual 53, 3) := by decide +kernel
theorem dX3_readStatement_102 : decode cX3_readStatement 102 = .ok (.return_, 1) := by decide +kernel
def l_X3_buffer_3 (N : Nat) (x1 : Int32) : Nat → Int32 → Ob → Option Ob
  | 0, _, _ => none
  | n + 1, x2, u0 => (if x2 < (0 : Int32) then some u0 else (if (600 : Int32) ≤ (u0.1 1) then some u0 else (if (u0.1 1) < 0 ∨ 600 ≤ (u0.1 1).toNatClampNeg then none else l_X3_buffer_3 N x1 n (x2 + (-8 : Int32)) (oi (oa u0 0 (upd (u0.2.2.1 0) (u0.1 1).toNatClampNeg (vp_nar .byte (x1 >>> (x2 &&& 31)).toInt8.toInt32))) 1 ((u0.1 1) + (1 : Int32))))))
def f_X3_buffer (N : Nat) (x1 : Int32) (u0 : Ob) : Option Ob := l_X3_buffer_3 N x1 N (24 : Int32) u0
def f_X3_open (N : Nat) (x1 : Int32) (u0 : Ob) : Option Ob := some (oi (oi (oi (oi (oi u0 2 (if (u0.1 1) < x1 then (u0.1 1) else x1)) 1 (0 : Int32)) 3 (0 : Int32)) 5 (0 : Int32)) 6 (-1 : Int32))
def l_X3_skipSpaces_0 (N : Nat) : Nat → Ob → Option Ob
  | 0, _ => none
  | n + 1, u0 => (if (u0.1 2) ≤ (u0.1 3) then some u0 else (if (u0.1 3) < 0 ∨ 600 ≤ (u0.1 3).toNatClampNeg then none else (if ((u0.2.2.1 0) (u0.1 3).toNatClampNeg) = (32 : Int32) then l_X3_skipSpaces_0 N n (oi u0 3 ((u0.1 3) + (1 : Int32))) else some u0)))
def f_X3_skipSpaces (N : Nat) (u0 : Ob) : Option Ob := l_X3_skipSpaces_0 N N u0
def f_X3_findStatement (N : Nat) (u0 : Ob) : Option (Bool × Ob) := ((f_X3_skipSpaces N u0).bind fun q1 => (if (q1.1 2) ≤ (q1.1 3) then some (false, q1) else some (true, q1)))
def l_X3_readWord_12 (N : Nat) : Nat → Ob → Option Ob
  | 0, _ => none
  | n + 1, u0 => (if (u0.1 2) ≤ (u0.1 3) then some u0 else (if (u0.1 3) < 0 ∨ 600 ≤ (u0.1 3).toNatClampNeg then none else (if ((u0.2.2.1 0) (u0.1 3).toNatClampNeg) < (97 : Int32) then some u0 else (if (u0.1 3) < 0 ∨ 600 ≤ (u0.1 3).toNatClampNeg then none else (if (122 : Int32) < ((u0.2.2.1 0) (u0.1 3).toNatClampNeg) then some u0 else l_X3_readWord_12 N n (oi u0 3 ((u0.1 3) + (1 : Int32))))))))
def f_X3_readWord (N : Nat) (u0 : Ob) : Option Ob := ((f_X3_skipSpaces N u0).bind fun q1 => l_X3_readWord_12 N N (oi q1 4 (q1.1 3)))
def l_X3_wordIs_20 (N : Nat) (i : Nat) : Nat → Int32 → Ob → Option (Bool × Ob)
  | 0, _, _ => none
  | n + 1, x2, u0 => ((f_J0_length_8abf5 N i).bind fun q4 => (if q4 ≤ x2 then some (true, u0) else (if (u0.1 2) ≤ ((u0.1 4) + x2) then some (true, u0) else (if ((u0.1 4) + x2) < 0 ∨ 600 ≤ ((u0.1 4) + x2).toNatClampNeg then none else ((f_J0_charAt_5068e N i x2).bind fun q9 => (if ((u0.2.2.1 0) ((u0.1 4) + x2).toNatClampNeg) = q9 then l_X3_wordIs_20 N i n (x2 + (1 : Int32)) u0 else some (false, u0)))))))
def f_X3_wordIs (N : Nat) (i : Nat) (u0 : Ob) : Option (Bool × Ob) := ((f_J0_length_8abf5 N i).bind fun q1 => (if ((u0.1 3) - (u0.1 4)) = q1 then l_X3_wordIs_20 N i N (0 : Int32) u0 else some (false, u0)))
def f_X3_verbOfWord (N : Nat) (u0 : Ob) : Option (Int32 × Ob) := ((f_X3_wordIs N 0 u0).bind fun q1 => (if q1.1 = true then some ((0 : Int32), q1.2) else ((f_X3_wordIs N 1 q1.2).bind fun q4 => (if q4.1 = true then some ((1 : Int32), q4.2) else ((f_X3_wordIs N 2 q4.2).bind fun q7 => (if q7.1 = true then some ((2 : Int32), q7.2) else ((f_X3_wordIs N 3 q7.2).bind fun q10 => (if q10.1 = true then some ((3 : Int32), q10.2) else ((f_X3_wordIs N 4 q10.2).bind fun q13 => (if q13.1 = true then some ((4 : Int32), q13.2) else ((f_X3_wordIs N 5 q13.2).bind fun q16 => (if q16.1 = true then some ((5 : Int32), q16.2) else ((f_X3_wordIs N 6 q16.2).bind fun q19 => (if q19.1 = true then some ((6 : Int32), q19.2) else some ((-1 : Int32), q19.2)))))))))))))))
def f_X3_fail (N : Nat) (x1 : Int32) (x2 : Int32) (u0 : Ob) : Option Ob := some (oi (oi u0 5 x1) 6 x2)
def l_X3_readNumber_12 (N : Nat) (x1 : Int32) (x2 : Int32) : Nat → Int32 → Int64 → Ob → Option (Int32 × Ob)
  | 0, _, _, _ => none
  | n + 1, x3, x4, u0 => (if (u0.1 2) ≤ (u0.1 3) then (if (u0.1 3) = x3 then ((f_X3_fail N (-2 : Int32) x3 u0).bind fun q11 => some ((0 : Int32), q11)) else (if x4 < x1.toInt64 then ((f_X3_fail N (-3 : Int32) x3 u0).bind fun q6 => some ((0 : Int32), q6)) else (if x4 ≤ x2.toInt64 then some (x4.toInt32, u0) else ((f_X3_fail N (-3 : Int32) x3 u0).bind fun q9 => some ((0 : Int32), q9))))) else (if (u0.1 3) < 0 ∨ 600 ≤ (u0.1 3).toNatClampNeg then none else (if ((u0.2.2.1 0) (u0.1 3).toNatClampNeg) < (48 : Int32) then (if (u0.1 3) = x3 then ((f_X3_fail N (-2 : Int32) x3 u0).bind fun q22 => some ((0 : Int32), q22)) else (if x4 < x1.toInt64 then ((f_X3_fail N (-3 : Int32) x3 u0).bind fun q17 => some ((0 : Int32), q17)) else (if x4 ≤ x2.toInt64 then some (x4.toInt32, u0) else ((f_X3_fail N (-3 : Int32) x3 u0).bind fun q20 => some ((0 : Int32), q20))))) else (if (u0.1 3) < 0 ∨ 600 ≤ (u0.1 3).toNatClampNeg then none else (if (57 : Int32) < ((u0.2.2.1 0) (u0.1 3).toNatClampNeg) then (if (u0.1 3) = x3 then ((f_X3_fail N (-2 : Int32) x3 u0).bind fun q33 => some ((0 : Int32), q33)) else (if x4 < x1.toInt64 then ((f_X3_fail N (-3 : Int32) x3 u0).bind fun q28 => some ((0 : Int32), q28)) else (if x4 ≤ x2.toInt64 then some (x4.toInt32, u0) else ((f_X3_fail N (-3 : Int32) x3 u0).bind fun q31 => some ((0 : Int32), q31))))) else (if (u0.1 3) < 0 ∨ 600 ≤ (u0.1 3).toNatClampNeg then none else l_X3_readNumber_12 N x1 x2 n x3 (if (10000000000 : Int64) < ((((10 : Int64) * x4) + ((u0.2.2.1 0) (u0.1 3).toNatClampNeg).toInt64) - (48 : Int64)) then (10000000000 : Int64) else ((((10 : Int64) * x4) + ((u0.2.2.1 0) (u0.1 3).toNatClampNeg).toInt64) - (48 : Int64))) (oi u0 3 ((u0.1 3) + (1 : Int32)))))))))
def f_X3_readNumber (N : Nat) (x1 : Int32) (x2 : Int32) (u0 : Ob) : Option (Int32 × Ob) := ((f_X3_skipSpaces N u0).bind fun q1 => l_X3_readNumber_12 N x1 x2 N (q1.1 3) (0 : Int64) q1)
def f_X3_readPulse (N : Nat) (x1 : Int32) (u0 : Ob) : Option Ob := ((f_X3_readNumber N (x1 + (1 : Int32)) (2000000000 : Int32) u0).bind fun q1 => (if (q1.2.1 5) = (0 : Int32) then ((f_X3_readNumber N (0 : Int32) (9999 : Int32) (oi q1.2 8 q1.1)).bind fun q4 => some (oi q4.2 9 q4.1)) else some (oi q1.2 8 q1.1)))
def l_X3_readHearing_68 (N : Nat) (x1 : Bool) : Nat → Int32 → Ob → Option Ob
  | 0, _, _ => none
  | n + 1, x2, u0 => (if (u0.1 2) ≤ x2 then (if (u0.1 3) ≤ (u0.1 4) then some u0 else ((f_X3_fail N (-2 : Int32) (u0.1 4) u0).bind fun q12 => some q12)) else ((f_X3_wordIs N 8 u0).bind fun q14 => (if q14.1 = true then ((f_X3_readNumber N (0 : Int32) (58 : Int32) q14.2).bind fun q20 => (if (q20.2.1 5) = (0 : Int32) then ((f_X3_readWord N (ol q20.2 11 ((q14.2.2.1 11) ||| (jshl (1 : Int64) q20.1)))).bind fun q23 => l_X3_readHearing_68 N x1 n (x2 + (1 : Int32)) q23) else some (ol q20.2 11 ((q14.2.2.1 11) ||| (jshl (1 : Int64) q20.1))))) else (if (q14.2.1 3) ≤ (q14.2.1 4) then some q14.2 else ((f_X3_fail N (-2 : Int32) (q14.2.1 4) q14.2).bind fun q18 => some q18)))))
def f_X3_readHearing (N : Nat) (x1 : Bool) (u0 : Ob) : Option Ob := (if x1 = true then ((f_X3_readNumber N (0 : Int32) (52595999 : Int32) (ol (oi u0 10 (0 : Int32)) 11 (0 : Int64))).bind fun q2 => (if (q2.2.1 5) = (0 : Int32) then ((f_X3_readWord N (oi q2.2 8 q2.1)).bind fun q5 => ((f_X3_wordIs N 7 q5).bind fun q7 => (if q7.1 = true then ((f_X3_readWord N (oi q7.2 10 (1 : Int32))).bind fun q25 => l_X3_readHearing_68 N x1 N (0 : Int32) q25) else l_X3_readHearing_68 N x1 N (0 : Int32) q7.2))) else some (oi q2.2 8 q2.1))) else ((f_X3_fail N (-3 : Int32) (u0.1 4) (ol (oi u0 10 (0 : Int32)) 11 (0 : Int64))).bind fun q27 => some q27))
def f_X3_readSign (N : Nat) (x1 : Int32) (u0 : Ob) : Option (Bool × Ob) := ((f_X3_skipSpaces N u0).bind fun q1 => (if (q1.1 2) ≤ (q1.1 3) then some (false, q1) else (if (q1.1 3) < 0 ∨ 600 ≤ (q1.1 3).toNatClampNeg then none else (if ((q1.2.2.1 0) (q1.1 3).toNatClampNeg) = x1 then some (true, (oi q1 3 ((q1.1 3) + (1 : Int32)))) else some (false, q1)))))
def f_X3_readSetting (N : Nat) (u0 : Ob) : Option Ob := (if (u0.1 7) = (4 : Int32) then ((f_X3_readSign N (45 : Int32) u0).bind fun q2 => (if q2.1 = true then ((f_X3_readNumber N (0 : Int32) (-(aLe (4 : Int32).toNatClampNeg)) q2.2).bind fun q7 => some (oi q7.2 8 (-q7.1))) else ((f_X3_readNumber N (0 : Int32) (aGr (4 : Int32).toNatClampNeg) q2.2).bind fun q5 => some (oi q5.2 8 q5.1)))) else (if (u0.1 7) < 0 ∨ 5 ≤ (u0.1 7).toNatClampNeg then none else (if (u0.1 7) < 0 ∨ 5 ≤ (u0.1 7).toNatClampNeg then none else ((f_X3_readNumber N (aLe (u0.1 7).toNatClampNeg) (aGr (u0.1 7).toNatClampNeg) u0).bind fun q11 => some (oi q11.2 8 q11.1)))))
def f_X3_readStatement (N : Nat) (u0 : Ob) (u1 : Ob) : Option (Ob × Ob) := ((f_X3_readWord N u0).bind fun q1 => ((f_X3_verbOfWord N q1).bind fun q3 => (if q3.1 = (-1 : Int32) then ((f_X3_fail N (-2 : Int32) (q3.2.1 4) (oi q3.2 7 q3.1)).bind fun q34 => (if (q34.1 5) = (0 : Int32) then ((f_X3_readSign N (59 : Int32) q34).bind fun q37 => (if q37.1 = true then some (q37.2, u1) else ((f_X3_fail N (-2 : Int32) (q37.2.1 3) q37.2).bind fun q40 => some (q40, u1)))) else some (q34, u1))) else (if q3.1 = (5 : Int32) then ((f_X3_readPulse N (u1.1 1) (oi q3.2 7 q3.1)).bind fun q26 => (if (q26.1 5) = (0 : Int32) then ((f_X3_readSign N (59 : Int32) q26).bind fun q29 => (if q29.1 = true then some (q29.2, u1) else ((f_X3_fail N (-2 : Int32) (q29.2.1 3) q29.2).bind fun q32 => some (q32, u1)))) else some (q26, u1))) else (if q3.1 = (6 : Int32) then ((f_X4_canHear N u1).bind fun q16 => ((f_X3_readHearing N q16 (oi q3.2 7 q3.1)).bind fun q18 => (if (q18.1 5) = (0 : Int32) then ((f_X3_readSign N (59 : Int32) q18).bind fun q21 => (if q21.1 = true then some (q21.2, u1) else ((f_X3_fail N (-2 : Int32) (q21.2.1 3) q21.2).bind fun q24 => some (q24, u1)))) else some (q18, u1)))) else ((f_X3_readSetting N (oi q3.2 7 q3.1)).bind fun q8 => (if (q8.1 5) = (0 : Int32) then ((f_X3_readSign N (59 : Int32) q8).bind fun q11 => (if q11.1 = true then some (q11.2, u1) else ((f_X3_fail N (-2 : Int32) (q11.2.1 3) q11.2).bind fun q14 => some (q14, u1)))) else some (q8, u1))))))))
theorem kc_X3_buffer : Cond.instanceMethod yX3_buffer ∈ lw_g ∧ Cond.selects yX3_buffer.cls yX3_buffer yX3_buffer ∈ lw_g ∧ Cond.initialized yX3_buffer.cls ∈ lw_g ∧ Cond.code yX3_buffer cX3_buffer 3 none ∈ lw_g ∧ yX3_buffer.cls ≠ "java/lang/invoke/MethodHandle" ∧ yX3_buffer.cls ≠ "java/lang/invoke/VarHandle" ∧ (parseMethodDescriptor yX3_buffer.desc).map (fun d => d.parameters.length) = some 1 := ⟨kq2_180, kq2_181, kq1_4, kq2_182, by decide +kernel, by decide +kernel, by decide +kernel⟩
theorem kc_X3_open : Cond.instanceMethod yX3_open ∈ lw_g ∧ Cond.selects yX3_open.cls yX3_open yX3_open ∈ lw_g ∧ Cond.initialized yX3_open.cls ∈ lw_g ∧ Cond.code yX3_open cX3_open 2 none ∈ lw_g ∧ yX3_open.cls ≠ "java/lang/invoke/MethodHandle" ∧ yX3_open.cls ≠ "java/lang/invoke/VarHandle" ∧ (parseMethodDescriptor yX3_open.desc).map (fun d => d.parameters.length) = some 1 := ⟨kq2_208, kq2_209, kq1_4, kq2_210, by decide +kernel, by decide +kernel, by decide +kernel⟩
theorem kc_X3_skipSpaces : Cond.instanceMethod yX3_skipSpaces ∈ lw_g ∧ Cond.selects yX3_skipSpaces.cls yX3_skipSpaces yX3_skipSpaces ∈ lw_g ∧ Cond.initialized yX3_skipSpaces.cls ∈ lw_g ∧ Cond.code yX3_skipSpaces cX3_skipSpaces 1 none ∈ lw_g ∧ yX3_skipSpaces.cls ≠ "java/lang/invoke/MethodHandle" ∧ yX3_skipSpaces.cls ≠ "java/lang/invoke/VarHandle" ∧ (parseMethodDescriptor yX3_skipSpaces.desc).map (fun d => d.parameters.length) = some 0 := ⟨kq2_220, kqp_4, kq1_4, kq2_221, by decide +kernel, by decide +kernel, by decide +kernel⟩
theorem kc_X3_findStatement : Cond.instanceMethod yX3_findStatement ∈ lw_g ∧ Cond.selects yX3_findStatement.cls yX3_findStatement yX3_findStatement ∈ lw_g ∧ Cond.initialized yX3_findStatement.cls ∈ lw_g ∧ Cond.code yX3_findStatement cX3_findStatement 1 (some .boolean) ∈ lw_g ∧ yX3_findStatement.cls ≠ "java/lang/invoke/MethodHandle" ∧ yX3_findStatement.cls ≠ "java/lang/invoke/VarHandle" ∧ (parseMethodDescriptor yX3_findStatement.desc).map (fun d => d.parameters.length) = some 0 := ⟨kq2_215, kq2_216, kq1_4, kq2_217, by decide +kernel, by decide +kernel, by decide +kernel⟩
theorem kc_X3_readWord : Cond.instanceMethod yX3_readWord ∈ lw_g ∧ Cond.selects yX3_readWord.cls yX3_readWord yX3_readWord ∈ lw_g ∧ Cond.initialized yX3_readWord.cls ∈ lw_g ∧ Cond.code yX3_readWord cX3_readWord 1 none ∈ lw_g ∧ yX3_readWord.cls ≠ "java/lang/invoke/MethodHandle" ∧ yX3_readWord.cls ≠ "java/lang/invoke/VarHandle" ∧ (parseMethodDescriptor yX3_readWord.desc).map (fun d => d.parameters.length) = some 0 := ⟨kq2_228, kqp_5, kq1_4, kq2_229, by decide +kernel, by decide +kernel, by decide +kernel⟩
theorem kc_X3_wordIs : Cond.instanceMethod yX3_wordIs ∈ lw_g ∧ Cond.selects yX3_wordIs.cls yX3_wordIs yX3_wordIs ∈ lw_g ∧ Cond.initialized yX3_wordIs.cls ∈ lw_g ∧ Cond.code yX3_wordIs cX3_wordIs 3 (some .boolean) ∈ lw_g ∧ yX3_wordIs.cls ≠ "java/lang/invoke/MethodHandle" ∧ yX3_wordIs.cls ≠ "java/lang/invoke/VarHandle" ∧ (parseMethodDescriptor yX3_wordIs.desc).map (fun d => d.parameters.length) = some 1 := ⟨kq2_237, kqp_7, kq1_4, kq2_238, by decide +kernel, by decide +kernel, by decide +kernel⟩
theorem kc_X3_verbOfWord : Cond.instanceMethod yX3_verbOfWord ∈ lw_g ∧ Cond.selects yX3_verbOfWord.cls yX3_verbOfWord yX3_verbOfWord ∈ lw_g ∧ Cond.initialized yX3_verbOfWord.cls ∈ lw_g ∧ Cond.code yX3_verbOfWord cX3_verbOfWord 1 (some .int) ∈ lw_g ∧ yX3_verbOfWord.cls ≠ "java/lang/invoke/MethodHandle" ∧ yX3_verbOfWord.cls ≠ "java/lang/invoke/VarHandle" ∧ (parseMethodDescriptor yX3_verbOfWord.desc).map (fun d => d.parameters.length) = some 0 := ⟨kq2_232, kqp_6, kq1_4, kq2_233, by decide +kernel, by decide +kernel, by decide +kernel⟩
theorem kc_X3_fail : Cond.instanceMethod yX3_fail ∈ lw_g ∧ Cond.selects yX3_fail.cls yX3_fail yX3_fail ∈ lw_g ∧ Cond.initialized yX3_fail.cls ∈ lw_g ∧ Cond.code yX3_fail cX3_fail 3 none ∈ lw_g ∧ yX3_fail.cls ≠ "java/lang/invoke/MethodHandle" ∧ yX3_fail.cls ≠ "java/lang/invoke/VarHandle" ∧ (parseMethodDescriptor yX3_fail.desc).map (fun d => d.parameters.length) = some 2 := ⟨kq3_55, kqp_8, kq1_4, kq3_56, by decide +kernel, by decide +kernel, by decide +kernel⟩
theorem kc_X3_readNumber : Cond.instanceMethod yX3_readNumber ∈ lw_g ∧ Cond.selects yX3_readNumber.cls yX3_readNumber yX3_readNumber ∈ lw_g ∧ Cond.initialized yX3_readNumber.cls ∈ lw_g ∧ Cond.code yX3_readNumber cX3_readNumber 6 (some .int) ∈ lw_g ∧ yX3_readNumber.cls ≠ "java/lang/invoke/MethodHandle" ∧ yX3_readNumber.cls ≠ "java/lang/invoke/VarHandle" ∧ (parseMethodDescriptor yX3_readNumber.desc).map (fun d => d.parameters.length) = some 2 := ⟨kq3_64, kqp_10, kq1_4, kq3_65, by decide +kernel, by decide +kernel, by decide +kernel⟩
theorem kc_X3_readPulse : Cond.instanceMethod yX3_readPulse ∈ lw_g ∧ Cond.selects yX3_readPulse.cls yX3_readPulse yX3_readPulse ∈ lw_g ∧ Cond.initialized yX3_readPulse.cls ∈ lw_g ∧ Cond.code yX3_readPulse cX3_readPulse 2 none ∈ lw_g ∧ yX3_readPulse.cls ≠ "java/lang/invoke/MethodHandle" ∧ yX3_readPulse.cls ≠ "java/lang/invoke/VarHandle" ∧ (parseMethodDescriptor yX3_readPulse.desc).map (fun d => d.parameters.length) = some 1 := ⟨kq3_59, kqp_9, kq1_4, kq3_60, by decide +kernel, by decide +kernel, by decide +kernel⟩
theorem kc_X3_readHearing : Cond.instanceMethod yX3_readHearing ∈ lw_g ∧ Cond.selects yX3_readHearing.cls yX3_readHearing yX3_readHearing ∈ lw_g ∧ Cond.initialized yX3_readHearing.cls ∈ lw_g ∧ Cond.code yX3_readHearing cX3_readHearing 3 none ∈ lw_g ∧ yX3_readHearing.cls ≠ "java/lang/invoke/MethodHandle" ∧ yX3_readHearing.cls ≠ "java/lang/invoke/VarHandle" ∧ (parseMethodDescriptor yX3_readHearing.desc).map (fun d => d.parameters.length) = some 1 := ⟨kq3_84, kqp_12, kq1_4, kq3_85, by decide +kernel, by decide +kernel, by decide +kernel⟩
theorem kc_X3_readSign : Cond.instanceMethod yX3_readSign ∈ lw_g ∧ Cond.selects yX3_readSign.cls yX3_readSign yX3_readSign ∈ lw_g ∧ Cond.initialized yX3_readSign.cls ∈ lw_g ∧ Cond.code yX3_readSign cX3_readSign 2 (some .boolean) ∈ lw_g ∧ yX3_readSign.cls ≠ "java/lang/invoke/MethodHandle" ∧ yX3_readSign.cls ≠ "java/lang/invoke/VarHandle" ∧ (parseMethodDescriptor yX3_readSign.desc).map (fun d => d.parameters.length) = some 1 := ⟨kq3_99, kqp_14, kq1_4, kq3_100, by decide +kernel, by decide +kernel, by decide +kernel⟩
theorem kc_X3_readSetting : Cond.instanceMethod yX3_readSetting ∈ lw_g ∧ Cond.selects yX3_readSetting.cls yX3_readSetting yX3_readSetting ∈ lw_g ∧ Cond.initialized yX3_readSetting.cls ∈ lw_g ∧ Cond.code yX3_readSetting cX3_readSetting 1 none ∈ lw_g ∧ yX3_readSetting.cls ≠ "java/lang/invoke/MethodHandle" ∧ yX3_readSetting.cls ≠ "java/lang/invoke/VarHandle" ∧ (parseMethodDescriptor yX3_readSetting.desc).map (fun d => d.parameters.length) = some 0 := ⟨kq3_91, kqp_13, kq1_4, kq3_92, by decide +kernel, by decide +kernel, by decide +kernel⟩
theorem kc_X3_readStatement : Cond.instanceMethod yX3_readStatement ∈ lw_g ∧ Cond.selects yX3_readStatement.cls yX3_readStatement yX3_readStatement ∈ lw_g ∧ Cond.initialized yX3_readStatement.cls ∈ lw_g ∧ Cond.code yX3_readStatement cX3_readStatement 2 none ∈ lw_g ∧ yX3_readStatement.cls ≠ "java/lang/invoke/MethodHandle" ∧ yX3_readStatement.cls ≠ "java/lang/invoke/VarHandle" ∧ (parseMethodDescriptor yX3_readStatement.desc).map (fun d => d.parameters.length) = some 1 := ⟨kq2_223, kq2_224, kq1_4, kq2_225, by decide +kernel, by decide +kernel, by decide +kernel⟩
set_option maxRecDepth 100000 in
set_option maxHeartbeats 4000000 in
theorem c_X3_buffer {l : Launch} {G : Gp} {sz N : Nat} {x1 : Int32} {h0 : Nat} {a0 : Nat → Nat} {u0 : Ob} {q : Ob} (hf : f_X3_buffer N x1 u0 = some q) : Met l yX3_buffer (Cond.code yX3_buffer cX3_buffer 3 none :: lw_g) ({ frames := 0, cells := 0, slots := 0, locals := 0 } : Room) (va_Pc [.ref h0, .int x1] (pw G (wX3 G h0 a0 u0) sz)) (va_Qv (fun v : Ob => q = v) (bw G (fun v : Ob => (wX3 G h0 a0 v)) (va_A (wX3 G h0 a0 u0) sz)) (va_A (wX3 G h0 a0 u0) sz)) 0 0 (va_A (wX3 G h0 a0 u0) sz) := by
  refine mt (Qc := (fun A => va_Qv (fun v : Ob => q = v) (bw G (fun v : Ob => (wX3 G h0 a0 v)) A) A)) (by decide) (Nat.le_of_ble_eq_true rfl) ?_
  intro p e s m below meth c A ls hx hb hr hlk hml hts hown hA hP hK hD hE hS hl
  have hown : s.vm.findClass RX3 = some m.cls := hown
  have hg : ∀ w ∈ lw_g, w.before ([.ref h0, .int x1] : List Value).toArray s = true := fun w h => hts w (List.mem_cons_of_mem _ h)
  have hC : CallFix p m c cX3_buffer 3 s ([.ref h0, .int x1] : List Value).toArray (Cond.code yX3_buffer cX3_buffer 3 none :: lw_g) RX3 := ⟨hx, hb, hml, hown, hts⟩
  have hl : lv_has ls 3 [(0, .ref h0), (1, .int x1)] := hl
  have lp_3 : ∀ (n : Nat) (x2 : Int32) (u0 : Ob), l_X3_buffer_3 N x1 n x2 u0 = some q → ∀ (H : Heap) (locs : List Loc) (ls : Array Slot), va_P (gD G) vwCl (wX3 G h0 a0 u0) H → va_D A (wX3 G h0 a0 u0) → va_S A s.heap H locs → lv_has ls 3 [(0, .ref h0), (1, .int x1), (2, .int x2)] → W p l e ({ frames := 0, cells := 0, slots := 0, locals := 0 } : Room) s m ([.ref h0, .int x1] : List Value).toArray below meth c H locs 0 0 (MQ below (va_Qv (fun v : Ob => q = v) (bw G (fun v : Ob => (wX3 G h0 a0 v)) A) A) ([.ref h0, .int x1] : List Value).toArray s 0 0 A) (F0 m 3 ls []) := by
    intro n
    induction n with
    | zero => intro x2 u0 hf; rw [l_X3_buffer_3] at hf; cases hf
    | succ n ih =>
      intro x2 u0 hf H locs ls hP hD hS hl
      rw [l_X3_buffer_3] at hf
      refine lv_iload_n hx hb dX3_buffer_3 rfl (lv_at hl 2 rfl) ?_
      refine lv_if_lt (tgt := 46) hx hb dX3_buffer_4 (by decide) (fun c1 => ?_) (fun c1 => ?_)
      · have hf := tp hf c1
        have hf := Option.some.inj hf
        subst hf
        exact e_v (wf := (fun v : Ob => (wX3 G h0 a0 v))) hx hb hr hlk u0 rfl hP hK hD hS dX3_buffer_46
      · have hf := tn hf c1
        refine lv_aload_n hx hb dX3_buffer_7 rfl (lv_at hl 0 rfl) ?_
        refine va_get (D := gD G) (ci := 1) (v := .int (u0.1 1)) (C := RX3) (T := TX3) (N := 12) hx hb hg kl_X3 hown hK hP 0 rfl rfl 1 (by decide) (hg _ kq1_134) (fun _ h9 => h9) rfl dX3_buffer_8 ?_
        refine lv_sipush (v := (600 : Int32)) hx hb dX3_buffer_11 (by decide) ?_
        refine lv_icmp_ge (tgt := 46) hx hb dX3_buffer_14 (by decide) (fun c2 => ?_) (fun c2 => ?_)
        · have hf := tp hf c2
          have hf := Option.some.inj hf
          subst hf
          exact e_v (wf := (fun v : Ob => (wX3 G h0 a0 v))) hx hb hr hlk u0 rfl hP hK hD hS dX3_buffer_46
        · have hf := tn hf c2
          refine lv_aload_n hx hb dX3_buffer_17 rfl (lv_at hl 0 rfl) ?_
          refine va_get (D := gD G) (ci := 1) (v := .ref (a0 0)) (C := RX3) (T := TX3) (N := 12) hx hb hg kl_X3 hown hK hP 0 rfl rfl 0 (by decide) (hg _ kq1_132) (fun _ h9 => h9) rfl dX3_buffer_18 ?_
          refine lv_aload_n hx hb dX3_buffer_21 rfl (lv_at hl 0 rfl) ?_
          refine va_get (D := gD G) (ci := 1) (v := .int (u0.1 1)) (C := RX3) (T := TX3) (N := 12) hx hb hg kl_X3 hown hK hP 0 rfl rfl 1 (by decide) (hg _ kq1_134) (fun _ h9 => h9) rfl dX3_buffer_22 ?_
          refine lv_iload_n hx hb dX3_buffer_25 rfl (lv_at hl 1 rfl) ?_
          refine lv_iload_n hx hb dX3_buffer_26 rfl (lv_at hl 2 rfl) ?_
          refine lv_ishr hx hb dX3_buffer_27 ?_
          refine lv_i2b (v := (x1 >>> (x2 &&& 31)).toInt8.toInt32) hx hb dX3_buffer_28 rfl ?_
          obtain ⟨b3, hf⟩ := tno hf
          refine va_bast (f := (u0.2.2.1 0)) hx hb hK hP hD hS 1 0 rfl rfl b3 dX3_buffer_29 (fun H locs hP hD hS => ?_)
          have hP : va_P (gD G) vwCl (wX3 G h0 a0 (oa u0 0 (upd (u0.2.2.1 0) (u0.1 1).toNatClampNeg (vp_nar .byte (x1 >>> (x2 &&& 31)).toInt8.toInt32)))) H := hP
          have hD : va_D A (wX3 G h0 a0 (oa u0 0 (upd (u0.2.2.1 0) (u0.1 1).toNatClampNeg (vp_nar .byte (x1 >>> (x2 &&& 31)).toInt8.toInt32)))) := hD
          refine lv_aload_n hx hb dX3_buffer_30 rfl (lv_at hl 0 rfl) ?_
          refine lv_dup hx hb dX3_buffer_31 rfl ?_
          refine va_get (D := gD G) (ci := 1) (v := .int (u0.1 1)) (C := RX3) (T := TX3) (N := 12) hx hb hg kl_X3 hown hK hP 0 rfl rfl 1 (by decide) (hg _ kq1_134) (fun _ h9 => h9) rfl dX3_buffer_32 ?_
          refine lv_iconst (v := (1 : Int32)) hx hb dX3_buffer_35 (by decide) ?_
          refine lv_iadd hx hb dX3_buffer_36 ?_
          refine va_put (D := gD G) (ci := 1) (v := .int ((u0.1 1) + (1 : Int32))) (ty := .int) (C := RX3) (T := TX3) (N := 12) hx hb hg kl_X3 tyX3 tyX3_ok nmX3 hown hK hP hD hS 0 rfl rfl 1 (by decide) (hg _ kq1_134) (fun _ h9 => h9) rfl (by decide +kernel) rfl rfl (Nat.le_of_ble_eq_true rfl) dX3_buffer_37 (fun H locs hP hD hS => ?_)
          have hP : va_P (gD G) vwCl (wX3 G h0 a0 (oi (oa u0 0 (upd (u0.2.2.1 0) (u0.1 1).toNatClampNeg (vp_nar .byte (x1 >>> (x2 &&& 31)).toInt8.toInt32))) 1 ((u0.1 1) + (1 : Int32)))) H := hP
          have hD : va_D A (wX3 G h0 a0 (oi (oa u0 0 (upd (u0.2.2.1 0) (u0.1 1).toNatClampNeg (vp_nar .byte (x1 >>> (x2 &&& 31)).toInt8.toInt32))) 1 ((u0.1 1) + (1 : Int32)))) := hD
          refine lv_iinc (v := (x2 + (-8 : Int32))) (lv' := [(2, .int (x2 + (-8 : Int32))), (0, .ref h0), (1, .int x1)]) hx hb dX3_buffer_40 hl (k := 2) rfl rfl (by decide) rfl (fun ls hl => ?_)
          refine lv_goto (tgt := 3) hx hb dX3_buffer_43 (by decide) ?_
          exact ih _ _ hf _ _ _ hP hD hS (lv_sub hl [1, 2, 0] rfl)
  rw [f_X3_buffer] at hf
  refine lv_bipush (v := (24 : Int32)) hx hb dX3_buffer_0 (by decide) ?_
  refine lv_istore_n (lv' := [(2, .int (24 : Int32)), (0, .ref h0), (1, .int x1)]) hx hb dX3_buffer_2 rfl hl (by decide) rfl (fun ls hl => ?_)
  exact lp_3 N _ _ hf _ _ _ hP hD hS (lv_sub hl [1, 2, 0] rfl)
set_option maxRecDepth 100000 in
set_option maxHeartbeats 4000000 in
theorem c_X3_open {l : Launch} {G : Gp} {sz N : Nat} {x1 : Int32} {h0 : Nat} {a0 : Nat → Nat} {u0 : Ob} {q : Ob} (hf : f_X3_open N x1 u0 = some q) : Met l yX3_open (Cond.code yX3_open cX3_open 2 none :: lw_g) ({ frames := 1, cells := 0, slots := 0, locals := 16 } : Room) (va_Pc [.ref h0, .int x1] (pw G (wX3 G h0 a0 u0) sz)) (va_Qv (fun v : Ob => q = v) (bw G (fun v : Ob => (wX3 G h0 a0 v)) (va_A (wX3 G h0 a0 u0) sz)) (va_A (wX3 G h0 a0 u0) sz)) 0 0 (va_A (wX3 G h0 a0 u0) sz) := by
  refine mt (Qc := (fun A => va_Qv (fun v : Ob => q = v) (bw G (fun v : Ob => (wX3 G h0 a0 v)) A) A)) (by decide) (Nat.le_of_ble_eq_true rfl) ?_
  intro p e s m below meth c A ls hx hb hr hlk hml hts hown hA hP hK hD hE hS hl
  have hown : s.vm.findClass RX3 = some m.cls := hown
  have hg : ∀ w ∈ lw_g, w.before ([.ref h0, .int x1] : List Value).toArray s = true := fun w h => hts w (List.mem_cons_of_mem _ h)
  have hC : CallFix p m c cX3_open 2 s ([.ref h0, .int x1] : List Value).toArray (Cond.code yX3_open cX3_open 2 none :: lw_g) RX3 := ⟨hx, hb, hml, hown, hts⟩
  have hl : lv_has ls 2 [(0, .ref h0), (1, .int x1)] := hl
  rw [f_X3_open] at hf
  refine lv_aload_n hx hb dX3_open_0 rfl (lv_at hl 0 rfl) ?_
  refine lv_iload_n hx hb dX3_open_1 rfl (lv_at hl 1 rfl) ?_
  refine lv_aload_n hx hb dX3_open_2 rfl (lv_at hl 0 rfl) ?_
  refine va_get (D := gD G) (ci := 1) (v := .int (u0.1 1)) (C := RX3) (T := TX3) (N := 12) hx hb hg kl_X3 hown hK hP 0 rfl rfl 1 (by decide) (hg _ kq1_134) (fun _ h9 => h9) rfl dX3_open_3 ?_
  refine va_mmin hx hb (hml.trans hl.1.symm) hown (hg _ kq2_211) (hg _ kq2_212) (hg _ kq1_12) (hg _ kq2_213) (Nat.le_of_ble_eq_true rfl) (Nat.le_of_ble_eq_true rfl) (Nat.zero_le _) (Nat.zero_le _) (x := x1) (y := (u0.1 1)) dX3_open_6 ?_
  refine va_put (D := gD G) (ci := 1) (v := .int (if (u0.1 1) < x1 then (u0.1 1) else x1)) (ty := .int) (C := RX3) (T := TX3) (N := 12) hx hb hg kl_X3 tyX3 tyX3_ok nmX3 hown hK hP hD hS 0 rfl rfl 2 (by decide) (hg _ kq1_135) (fun _ h9 => h9) rfl (by decide +kernel) rfl rfl (Nat.le_of_ble_eq_true rfl) dX3_open_9 (fun H locs hP hD hS => ?_)
  have hP : va_P (gD G) vwCl (wX3 G h0 a0 (oi u0 2 (if (u0.1 1) < x1 then (u0.1 1) else x1))) H := hP
  have hD : va_D A (wX3 G h0 a0 (oi u0 2 (if (u0.1 1) < x1 then (u0.1 1) else x1))) := hD
  refine lv_aload_n hx hb dX3_open_12 rfl (lv_at hl 0 rfl) ?_
  refine lv_iconst (v := (0 : Int32)) hx hb dX3_open_13 (by decide) ?_
  refine va_put (D := gD G) (ci := 1) (v := .int (0 : Int32)) (ty := .int) (C := RX3) (T := TX3) (N := 12) hx hb hg kl_X3 tyX3 tyX3_ok nmX3 hown hK hP hD hS 0 rfl rfl 1 (by decide) (hg _ kq1_134) (fun _ h9 => h9) rfl (by decide +kernel) rfl rfl (Nat.le_of_ble_eq_true rfl) dX3_open_14 (fun H locs hP hD hS => ?_)
  have hP : va_P (gD G) vwCl (wX3 G h0 a0 (oi (oi u0 2 (if (u0.1 1) < x1 then (u0.1 1) else x1)) 1 (0 : Int32))) H := hP
  have hD : va_D A (wX3 G h0 a0 (oi (oi u0 2 (if (u0.1 1) < x1 then (u0.1 1) else x1)) 1 (0 : Int32))) := hD
  refine lv_aload_n hx hb dX3_open_17 rfl (lv_at hl 0 rfl) ?_
  refine lv_iconst (v := (0 : Int32)) hx hb dX3_open_18 (by decide) ?_
  refine va_put (D := gD G) (ci := 1) (v := .int (0 : Int32)) (ty := .int) (C := RX3) (T := TX3) (N := 12) hx hb hg kl_X3 tyX3 tyX3_ok nmX3 hown hK hP hD hS 0 rfl rfl 3 (by decide) (hg _ kq1_136) (fun _ h9 => h9) rfl (by decide +kernel) rfl rfl (Nat.le_of_ble_eq_true rfl) dX3_open_19 (fun H locs hP hD hS => ?_)
  have hP : va_P (gD G) vwCl (wX3 G h0 a0 (oi (oi (oi u0 2 (if (u0.1 1) < x1 then (u0.1 1) else x1)) 1 (0 : Int32)) 3 (0 : Int32))) H := hP
  have hD : va_D A (wX3 G h0 a0 (oi (oi (oi u0 2 (if (u0.1 1) < x1 then (u0.1 1) else x1)) 1 (0 : Int32)) 3 (0 : Int32))) := hD
  refine lv_aload_n hx hb dX3_open_22 rfl (lv_at hl 0 rfl) ?_
  refine lv_iconst (v := (0 : Int32)) hx hb dX3_open_23 (by decide) ?_
  refine va_put (D := gD G) (ci := 1) (v := .int (0 : Int32)) (ty := .int) (C := RX3) (T := TX3) (N := 12) hx hb hg kl_X3 tyX3 tyX3_ok nmX3 hown hK hP hD hS 0 rfl rfl 5 (by decide) (hg _ kq1_138) (fun _ h9 => h9) rfl (by decide +kernel) rfl rfl (Nat.le_of_ble_eq_true rfl) dX3_open_24 (fun H locs hP hD hS => ?_)
  have hP : va_P (gD G) vwCl (wX3 G h0 a0 (oi (oi (oi (oi u0 2 (if (u0.1 1) < x1 then (u0.1 1) else x1)) 1 (0 : Int32)) 3 (0 : Int32)) 5 (0 : Int32))) H := hP
  have hD : va_D A (wX3 G h0 a0 (oi (oi (oi (oi u0 2 (if (u0.1 1) < x1 then (u0.1 1) else x1)) 1 (0 : Int32)) 3 (0 : Int32)) 5 (0 : Int32))) := hD
  refine lv_aload_n hx hb dX3_open_27 rfl (lv_at hl 0 rfl) ?_
  refine lv_iconst (v := (-1 : Int32)) hx hb dX3_open_28 (by decide) ?_
  refine va_put (D := gD G) (ci := 1) (v := .int (-1 : Int32)) (ty := .int) (C := RX3) (T := TX3) (N := 12) hx hb hg kl_X3 tyX3 tyX3_ok nmX3 hown hK hP hD hS 0 rfl rfl 6 (by decide) (hg _ kq1_140) (fun _ h9 => h9) rfl (by decide +kernel) rfl rfl (Nat.le_of_ble_eq_true rfl) dX3_open_29 (fun H locs hP hD hS => ?_)
  have hP : va_P (gD G) vwCl (wX3 G h0 a0 (oi (oi (oi (oi (oi u0 2 (if (u0.1 1) < x1 then (u0.1 1) else x1)) 1 (0 : Int32)) 3 (0 : Int32)) 5 (0 : Int32)) 6 (-1 : Int32))) H := hP
  have hD : va_D A (wX3 G h0 a0 (oi (oi (oi (oi (oi u0 2 (if (u0.1 1) < x1 then (u0.1 1) else x1)) 1 (0 : Int32)) 3 (0 : Int32)) 5 (0 : Int32)) 6 (-1 : Int32))) := hD
  have hf := Option.some.inj hf
  subst hf
  exact e_v (wf := (fun v : Ob => (wX3 G h0 a0 v))) hx hb hr hlk (oi (oi (oi (oi (oi u0 2 (if (u0.1 1) < x1 then (u0.1 1) else x1)) 1 (0 : Int32)) 3 (0 : Int32)) 5 (0 : Int32)) 6 (-1 : Int32)) rfl hP hK hD hS dX3_open_32
set_option maxRecDepth 100000 in
set_option maxHeartbeats 4000000 in
theorem c_X3_skipSpaces {l : Launch} {G : Gp} {sz N : Nat} {h0 : Nat} {a0 : Nat → Nat} {u0 : Ob} {q : Ob} (hf : f_X3_skipSpaces N u0 = some q) : Met l yX3_skipSpaces (Cond.code yX3_skipSpaces cX3_skipSpaces 1 none :: lw_g) ({ frames := 0, cells := 0, slots := 0, locals := 0 } : Room) (va_Pc [.ref h0] (pw G (wX3 G h0 a0 u0) sz)) (va_Qv (fun v : Ob => q = v) (bw G (fun v : Ob => (wX3 G h0 a0 v)) (va_A (wX3 G h0 a0 u0) sz)) (va_A (wX3 G h0 a0 u0) sz)) 0 0 (va_A (wX3 G h0 a0 u0) sz) := by
  refine mt (Qc := (fun A => va_Qv (fun v : Ob => q = v) (bw G (fun v : Ob => (wX3 G h0 a0 v)) A) A)) (by decide) (Nat.le_of_ble_eq_true rfl) ?_
  intro p e s m below meth c A ls hx hb hr hlk hml hts hown hA hP hK hD hE hS hl
  have hown : s.vm.findClass RX3 = some m.cls := hown
  have hg : ∀ w ∈ lw_g, w.before ([.ref h0] : List Value).toArray s = true := fun w h => hts w (List.mem_cons_of_mem _ h)
  have hC : CallFix p m c cX3_skipSpaces 1 s ([.ref h0] : List Value).toArray (Cond.code yX3_skipSpaces cX3_skipSpaces 1 none :: lw_g) RX3 := ⟨hx, hb, hml, hown, hts⟩
  have hl : lv_has ls 1 [(0, .ref h0)] := hl
  have lp_0 : ∀ (n : Nat) (u0 : Ob), l_X3_skipSpaces_0 N n u0 = some q → ∀ (H : Heap) (locs : List Loc) (ls : Array Slot), va_P (gD G) vwCl (wX3 G h0 a0 u0) H → va_D A (wX3 G h0 a0 u0) → va_S A s.heap H locs → lv_has ls 1 [(0, .ref h0)] → W p l e ({ frames := 0, cells := 0, slots := 0, locals := 0 } : Room) s m ([.ref h0] : List Value).toArray below meth c H locs 0 0 (MQ below (va_Qv (fun v : Ob => q = v) (bw G (fun v : Ob => (wX3 G h0 a0 v)) A) A) ([.ref h0] : List Value).toArray s 0 0 A) (F0 m 0 ls []) := by
    intro n
    induction n with
    | zero => intro u0 hf; rw [l_X3_skipSpaces_0] at hf; cases hf
    | succ n ih =>
      intro u0 hf H locs ls hP hD hS hl
      rw [l_X3_skipSpaces_0] at hf
      refine lv_aload_n hx hb dX3_skipSpaces_0 rfl (lv_at hl 0 rfl) ?_
      refine va_get (D := gD G) (ci := 1) (v := .int (u0.1 3)) (C := RX3) (T := TX3) (N := 12) hx hb hg kl_X3 hown hK hP 0 rfl rfl 3 (by decide) (hg _ kq1_136) (fun _ h9 => h9) rfl dX3_skipSpaces_1 ?_
      refine lv_aload_n hx hb dX3_skipSpaces_4 rfl (lv_at hl 0 rfl) ?_
      refine va_get (D := gD G) (ci := 1) (v := .int (u0.1 2)) (C := RX3) (T := TX3) (N := 12) hx hb hg kl_X3 hown hK hP 0 rfl rfl 2 (by decide) (hg _ kq1_135) (fun _ h9 => h9) rfl dX3_skipSpaces_5 ?_
      refine lv_icmp_ge (tgt := 38) hx hb dX3_skipSpaces_8 (by decide) (fun c1 => ?_) (fun c1 => ?_)
      · have hf := tp hf c1
        have hf := Option.some.inj hf
        subst hf
        exact e_v (wf := (fun v : Ob => (wX3 G h0 a0 v))) hx hb hr hlk u0 rfl hP hK hD hS dX3_skipSpaces_38
      · have hf := tn hf c1
        refine lv_aload_n hx hb dX3_skipSpaces_11 rfl (lv_at hl 0 rfl) ?_
        refine va_get (D := gD G) (ci := 1) (v := .ref (a0 0)) (C := RX3) (T := TX3) (N := 12) hx hb hg kl_X3 hown hK hP 0 rfl rfl 0 (by decide) (hg _ kq1_132) (fun _ h9 => h9) rfl dX3_skipSpaces_12 ?_
        refine lv_aload_n hx hb dX3_skipSpaces_15 rfl (lv_at hl 0 rfl) ?_
        refine va_get (D := gD G) (ci := 1) (v := .int (u0.1 3)) (C := RX3) (T := TX3) (N := 12) hx hb hg kl_X3 hown hK hP 0 rfl rfl 3 (by decide) (hg _ kq1_136) (fun _ h9 => h9) rfl dX3_skipSpaces_16 ?_
        obtain ⟨b2, hf⟩ := tno hf
        refine va_bald (f := (u0.2.2.1 0)) hx hb hK hP 1 0 rfl rfl b2 dX3_skipSpaces_19 ?_
        refine lv_bipush (v := (32 : Int32)) hx hb dX3_skipSpaces_20 (by decide) ?_
        refine lv_icmp_ne (tgt := 38) hx hb dX3_skipSpaces_22 (by decide) (fun c3 => ?_) (fun c3 => ?_)
        · have hf := tn hf c3
          have hf := Option.some.inj hf
          subst hf
          exact e_v (wf := (fun v : Ob => (wX3 G h0 a0 v))) hx hb hr hlk u0 rfl hP hK hD hS dX3_skipSpaces_38
        · have hf := tp hf c3
          refine lv_aload_n hx hb dX3_skipSpaces_25 rfl (lv_at hl 0 rfl) ?_
          refine lv_dup hx hb dX3_skipSpaces_26 rfl ?_
          refine va_get (D := gD G) (ci := 1) (v := .int (u0.1 3)) (C := RX3) (T := TX3) (N := 12) hx hb hg kl_X3 hown hK hP 0 rfl rfl 3 (by decide) (hg _ kq1_136) (fun _ h9 => h9) rfl dX3_skipSpaces_27 ?_
          refine lv_iconst (v := (1 : Int32)) hx hb dX3_skipSpaces_30 (by decide) ?_
          refine lv_iadd hx hb dX3_skipSpaces_31 ?_
          refine va_put (D := gD G) (ci := 1) (v := .int ((u0.1 3) + (1 : Int32))) (ty := .int) (C := RX3) (T := TX3) (N := 12) hx hb hg kl_X3 tyX3 tyX3_ok nmX3 hown hK hP hD hS 0 rfl rfl 3 (by decide) (hg _ kq1_136) (fun _ h9 => h9) rfl (by decide +kernel) rfl rfl (Nat.le_of_ble_eq_true rfl) dX3_skipSpaces_32 (fun H locs hP hD hS => ?_)
          have hP : va_P (gD G) vwCl (wX3 G h0 a0 (oi u0 3 ((u0.1 3) + (1 : Int32)))) H := hP
          have hD : va_D A (wX3 G h0 a0 (oi u0 3 ((u0.1 3) + (1 : Int32)))) := hD
          refine lv_goto (tgt := 0) hx hb dX3_skipSpaces_35 (by decide) ?_
          exact ih _ hf _ _ _ hP hD hS (lv_sub hl [0] rfl)
  rw [f_X3_skipSpaces] at hf
  exact lp_0 N _ hf _ _ _ hP hD hS (lv_sub hl [0] rfl)
set_option maxRecDepth 100000 in
set_option maxHeartbeats 4000000 in
theorem c_X3_findStatement {l : Launch} {G : Gp} {sz N : Nat} {h0 : Nat} {a0 : Nat → Nat} {u0 : Ob} {q : Bool × Ob} (hf : f_X3_findStatement N u0 = some q) : Met l yX3_findStatement (Cond.code yX3_findStatement cX3_findStatement 1 (some .boolean) :: lw_g) ({ frames := 1, cells := 0, slots := 0, locals := 20 } : Room) (va_Pc [.ref h0] (pw G (wX3 G h0 a0 u0) sz)) (va_Qi (fun (r : Int32) (v : Ob) => bI q.1 = r ∧ q.2 = v) (bw G (fun v : Ob => (wX3 G h0 a0 v)) (va_A (wX3 G h0 a0 u0) sz)) (va_A (wX3 G h0 a0 u0) sz)) 0 0 (va_A (wX3 G h0 a0 u0) sz) := by
  refine mt (Qc := (fun A => va_Qi (fun (r : Int32) (v : Ob) => bI q.1 = r ∧ q.2 = v) (bw G (fun v : Ob => (wX3 G h0 a0 v)) A) A)) (by decide) (Nat.le_of_ble_eq_true rfl) ?_
  intro p e s m below meth c A ls hx hb hr hlk hml hts hown hA hP hK hD hE hS hl
  have hown : s.vm.findClass RX3 = some m.cls := hown
  have hg : ∀ w ∈ lw_g, w.before ([.ref h0] : List Value).toArray s = true := fun w h => hts w (List.mem_cons_of_mem _ h)
  have hC : CallFix p m c cX3_findStatement 1 s ([.ref h0] : List Value).toArray (Cond.code yX3_findStatement cX3_findStatement 1 (some .boolean) :: lw_g) RX3 := ⟨hx, hb, hml, hown, hts⟩
  have hl : lv_has ls 1 [(0, .ref h0)] := hl
  rw [f_X3_findStatement] at hf
  refine lv_aload_n hx hb dX3_findStatement_0 rfl (lv_at hl 0 rfl) ?_
  obtain ⟨q1, e2, hf⟩ := tbd hf
  refine kVv1 (As := []) (rest := []) hC (c_X3_skipSpaces (G := G) e2) kq2_218 kc_X3_skipSpaces (by decide) 0 (ci := 1) rfl rfl hP hK hD hE hS hA hl.1 (Nat.le_of_ble_eq_true rfl) ⟨Nat.zero_le _, Nat.zero_le _⟩ dX3_findStatement_1 (fun u9 H locs hw hP hD hS => ?_)
  obtain rfl := hw
  have hP : va_P (gD G) vwCl (wX3 G h0 a0 q1) H := hP
  have hD : va_D A (wX3 G h0 a0 q1) := hD
  refine lv_aload_n hx hb dX3_findStatement_4 rfl (lv_at hl 0 rfl) ?_
  refine va_get (D := gD G) (ci := 1) (v := .int (q1.1 3)) (C := RX3) (T := TX3) (N := 12) hx hb hg kl_X3 hown hK hP 0 rfl rfl 3 (by decide) (hg _ kq1_136) (fun _ h9 => h9) rfl dX3_findStatement_5 ?_
  refine lv_aload_n hx hb dX3_findStatement_8 rfl (lv_at hl 0 rfl) ?_
  refine va_get (D := gD G) (ci := 1) (v := .int (q1.1 2)) (C := RX3) (T := TX3) (N := 12) hx hb hg kl_X3 hown hK hP 0 rfl rfl 2 (by decide) (hg _ kq1_135) (fun _ h9 => h9) rfl dX3_findStatement_9 ?_
  refine lv_icmp_ge (tgt := 19) hx hb dX3_findStatement_12 (by decide) (fun c3 => ?_) (fun c3 => ?_)
  · have hf := tp hf c3
    refine lv_iconst (v := (0 : Int32)) hx hb dX3_findStatement_19 (by decide) ?_
    have hf := Option.some.inj hf
    subst hf
    exact e_z (wf := (fun v : Ob => (wX3 G h0 a0 v))) hx hb hr hlk q1 rfl ⟨rfl, rfl⟩ hP hK hD hS dX3_findStatement_20
  · have hf := tn hf c3
    refine lv_iconst (v := (1 : Int32)) hx hb dX3_findStatement_15 (by decide) ?_
    refine lv_goto (tgt := 20) hx hb dX3_findStatement_16 (by decide) ?_
    have hf := Option.some.inj hf
    subst hf
    exact e_z (wf := (fun v : Ob => (wX3 G h0 a0 v))) hx hb hr hlk q1 rfl ⟨rfl, rfl⟩ hP hK hD hS dX3_findStatement_20
set_option maxRecDepth 100000 in
set_option maxHeartbeats 4000000 in
theorem c_X3_readWord {l : Launch} {G : Gp} {sz N : Nat} {h0 : Nat} {a0 : Nat → Nat} {u0 : Ob} {q : Ob} (hf : f_X3_readWord N u0 = some q) : Met l yX3_readWord (Cond.code yX3_readWord cX3_readWord 1 none :: lw_g) ({ frames := 1, cells := 0, slots := 0, locals := 20 } : Room) (va_Pc [.ref h0] (pw G (wX3 G h0 a0 u0) sz)) (va_Qv (fun v : Ob => q = v) (bw G (fun v : Ob => (wX3 G h0 a0 v)) (va_A (wX3 G h0 a0 u0) sz)) (va_A (wX3 G h0 a0 u0) sz)) 0 0 (va_A (wX3 G h0 a0 u0) sz) := by
  refine mt (Qc := (fun A => va_Qv (fun v : Ob => q = v) (bw G (fun v : Ob => (wX3 G h0 a0 v)) A) A)) (by decide) (Nat.le_of_ble_eq_true rfl) ?_
  intro p e s m below meth c A ls hx hb hr hlk hml hts hown hA hP hK hD hE hS hl
  have hown : s.vm.findClass RX3 = some m.cls := hown
  have hg : ∀ w ∈ lw_g, w.before ([.ref h0] : List Value).toArray s = true := fun w h => hts w (List.mem_cons_of_mem _ h)
  have hC : CallFix p m c cX3_readWord 1 s ([.ref h0] : List Value).toArray (Cond.code yX3_readWord cX3_readWord 1 none :: lw_g) RX3 := ⟨hx, hb, hml, hown, hts⟩
  have hl : lv_has ls 1 [(0, .ref h0)] := hl
  have lp_12 : ∀ (n : Nat) (u0 : Ob), l_X3_readWord_12 N n u0 = some q → ∀ (H : Heap) (locs : List Loc) (ls : Array Slot), va_P (gD G) vwCl (wX3 G h0 a0 u0) H → va_D A (wX3 G h0 a0 u0) → va_S A s.heap H locs → lv_has ls 1 [(0, .ref h0)] → W p l e ({ frames := 1, cells := 0, slots := 0, locals := 20 } : Room) s m ([.ref h0] : List Value).toArray below meth c H locs 0 0 (MQ below (va_Qv (fun v : Ob => q = v) (bw G (fun v : Ob => (wX3 G h0 a0 v)) A) A) ([.ref h0] : List Value).toArray s 0 0 A) (F0 m 12 ls []) := by
    intro n
    induction n with
    | zero => intro u0 hf; rw [l_X3_readWord_12] at hf; cases hf
    | succ n ih =>
      intro u0 hf H locs ls hP hD hS hl
      rw [l_X3_readWord_12] at hf
      refine lv_aload_n hx hb dX3_readWord_12 rfl (lv_at hl 0 rfl) ?_
      refine va_get (D := gD G) (ci := 1) (v := .int (u0.1 3)) (C := RX3) (T := TX3) (N := 12) hx hb hg kl_X3 hown hK hP 0 rfl rfl 3 (by decide) (hg _ kq1_136) (fun _ h9 => h9) rfl dX3_readWord_13 ?_
      refine lv_aload_n hx hb dX3_readWord_16 rfl (lv_at hl 0 rfl) ?_
      refine va_get (D := gD G) (ci := 1) (v := .int (u0.1 2)) (C := RX3) (T := TX3) (N := 12) hx hb hg kl_X3 hown hK hP 0 rfl rfl 2 (by decide) (hg _ kq1_135) (fun _ h9 => h9) rfl dX3_readWord_17 ?_
      refine lv_icmp_ge (tgt := 64) hx hb dX3_readWord_20 (by decide) (fun c3 => ?_) (fun c3 => ?_)
      · have hf := tp hf c3
        have hf := Option.some.inj hf
        subst hf
        exact e_v (wf := (fun v : Ob => (wX3 G h0 a0 v))) hx hb hr hlk u0 rfl hP hK hD hS dX3_readWord_64
      · have hf := tn hf c3
        refine lv_aload_n hx hb dX3_readWord_23 rfl (lv_at hl 0 rfl) ?_
        refine va_get (D := gD G) (ci := 1) (v := .ref (a0 0)) (C := RX3) (T := TX3) (N := 12) hx hb hg kl_X3 hown hK hP 0 rfl rfl 0 (by decide) (hg _ kq1_132) (fun _ h9 => h9) rfl dX3_readWord_24 ?_
        refine lv_aload_n hx hb dX3_readWord_27 rfl (lv_at hl 0 rfl) ?_
        refine va_get (D := gD G) (ci := 1) (v := .int (u0.1 3)) (C := RX3) (T := TX3) (N := 12) hx hb hg kl_X3 hown hK hP 0 rfl rfl 3 (by decide) (hg _ kq1_136) (fun _ h9 => h9) rfl dX3_readWord_28 ?_
        obtain ⟨b4, hf⟩ := tno hf
        refine va_bald (f := (u0.2.2.1 0)) hx hb hK hP 1 0 rfl rfl b4 dX3_readWord_31 ?_
        refine lv_bipush (v := (97 : Int32)) hx hb dX3_readWord_32 (by decide) ?_
        refine lv_icmp_lt (tgt := 64) hx hb dX3_readWord_34 (by decide) (fun c5 => ?_) (fun c5 => ?_)
        · have hf := tp hf c5
          have hf := Option.some.inj hf
          subst hf
          exact e_v (wf := (fun v : Ob => (wX3 G h0 a0 v))) hx hb hr hlk u0 rfl hP hK hD hS dX3_readWord_64
        · have hf := tn hf c5
          refine lv_aload_n hx hb dX3_readWord_37 rfl (lv_at hl 0 rfl) ?_
          refine va_get (D := gD G) (ci := 1) (v := .ref (a0 0)) (C := RX3) (T := TX3) (N := 12) hx hb hg kl_X3 hown hK hP 0 rfl rfl 0 (by decide) (hg _ kq1_132) (fun _ h9 => h9) rfl dX3_readWord_38 ?_
          refine lv_aload_n hx hb dX3_readWord_41 rfl (lv_at hl 0 rfl) ?_
          refine va_get (D := gD G) (ci := 1) (v := .int (u0.1 3)) (C := RX3) (T := TX3) (N := 12) hx hb hg kl_X3 hown hK hP 0 rfl rfl 3 (by decide) (hg _ kq1_136) (fun _ h9 => h9) rfl dX3_readWord_42 ?_
          obtain ⟨b6, hf⟩ := tno hf
          refine va_bald (f := (u0.2.2.1 0)) hx hb hK hP 1 0 rfl rfl b6 dX3_readWord_45 ?_
          refine lv_bipush (v := (122 : Int32)) hx hb dX3_readWord_46 (by decide) ?_
          refine lv_icmp_gt (tgt := 64) hx hb dX3_readWord_48 (by decide) (fun c7 => ?_) (fun c7 => ?_)
          · have hf := tp hf c7
            have hf := Option.some.inj hf
            subst hf
            exact e_v (wf := (fun v : Ob => (wX3 G h0 a0 v))) hx hb hr hlk u0 rfl hP hK hD hS dX3_readWord_64
          · have hf := tn hf c7
            refine lv_aload_n hx hb dX3_readWord_51 rfl (lv_at hl 0 rfl) ?_
            refine lv_dup hx hb dX3_readWord_52 rfl ?_
            refine va_get (D := gD G) (ci := 1) (v := .int (u0.1 3)) (C := RX3) (T := TX3) (N := 12) hx hb hg kl_X3 hown hK hP 0 rfl rfl 3 (by decide) (hg _ kq1_136) (fun _ h9 => h9) rfl dX3_readWord_53 ?_
            refine lv_iconst (v := (1 : Int32)) hx hb dX3_readWord_56 (by decide) ?_
            refine lv_iadd hx hb dX3_readWord_57 ?_
            refine va_put (D := gD G) (ci := 1) (v := .int ((u0.1 3) + (1 : Int32))) (ty := .int) (C := RX3) (T := TX3) (N := 12) hx hb hg kl_X3 tyX3 tyX3_ok nmX3 hown hK hP hD hS 0 rfl rfl 3 (by decide) (hg _ kq1_136) (fun _ h9 => h9) rfl (by decide +kernel) rfl rfl (Nat.le_of_ble_eq_true rfl) dX3_readWord_58 (fun H locs hP hD hS => ?_)
            have hP : va_P (gD G) vwCl (wX3 G h0 a0 (oi u0 3 ((u0.1 3) + (1 : Int32)))) H := hP
            have hD : va_D A (wX3 G h0 a0 (oi u0 3 ((u0.1 3) + (1 : Int32)))) := hD
            refine lv_goto (tgt := 12) hx hb dX3_readWord_61 (by decide) ?_
            exact ih _ hf _ _ _ hP hD hS (lv_sub hl [0] rfl)
  rw [f_X3_readWord] at hf
  refine lv_aload_n hx hb dX3_readWord_0 rfl (lv_at hl 0 rfl) ?_
  obtain ⟨q1, e2, hf⟩ := tbd hf
  refine kVv1 (As := []) (rest := []) hC (c_X3_skipSpaces (G := G) e2) kq2_218 kc_X3_skipSpaces (by decide) 0 (ci := 1) rfl rfl hP hK hD hE hS hA hl.1 (Nat.le_of_ble_eq_true rfl) ⟨Nat.zero_le _, Nat.zero_le _⟩ dX3_readWord_1 (fun u9 H locs hw hP hD hS => ?_)
  obtain rfl := hw
  have hP : va_P (gD G) vwCl (wX3 G h0 a0 q1) H := hP
  have hD : va_D A (wX3 G h0 a0 q1) := hD
  refine lv_aload_n hx hb dX3_readWord_4 rfl (lv_at hl 0 rfl) ?_
  refine lv_aload_n hx hb dX3_readWord_5 rfl (lv_at hl 0 rfl) ?_
  refine va_get (D := gD G) (ci := 1) (v := .int (q1.1 3)) (C := RX3) (T := TX3) (N := 12) hx hb hg kl_X3 hown hK hP 0 rfl rfl 3 (by decide) (hg _ kq1_136) (fun _ h9 => h9) rfl dX3_readWord_6 ?_
  refine va_put (D := gD G) (ci := 1) (v := .int (q1.1 3)) (ty := .int) (C := RX3) (T := TX3) (N := 12) hx hb hg kl_X3 tyX3 tyX3_ok nmX3 hown hK hP hD hS 0 rfl rfl 4 (by decide) (hg _ kq1_137) (fun _ h9 => h9) rfl (by decide +kernel) rfl rfl (Nat.le_of_ble_eq_true rfl) dX3_readWord_9 (fun H locs hP hD hS => ?_)
  have hP : va_P (gD G) vwCl (wX3 G h0 a0 (oi q1 4 (q1.1 3))) H := hP
  have hD : va_D A (wX3 G h0 a0 (oi q1 4 (q1.1 3))) := hD
  exact lp_12 N _ hf _ _ _ hP hD hS (lv_sub hl [0] rfl)
set_option maxRecDepth 100000 in
set_option maxHeartbeats 4000000 in
theorem c_X3_wordIs {l : Launch} {G : Gp} {sz N : Nat} {i : Nat} {h0 : Nat} {a0 : Nat → Nat} {u0 : Ob} {q : Bool × Ob} (hi : i < 9) (hf : f_X3_wordIs N i u0 = some q) : Met l yX3_wordIs (Cond.code yX3_wordIs cX3_wordIs 3 (some .boolean) :: lw_g) ({ frames := 4, cells := 0, slots := 0, locals := 85 } : Room) (va_Pc [.ref h0, .ref (gE G (10 + 2 * i))] (pw G (wX3 G h0 a0 u0) sz)) (va_Qi (fun (r : Int32) (v : Ob) => bI q.1 = r ∧ q.2 = v) (bw G (fun v : Ob => (wX3 G h0 a0 v)) (va_A (wX3 G h0 a0 u0) sz)) (va_A (wX3 G h0 a0 u0) sz)) 0 0 (va_A (wX3 G h0 a0 u0) sz) := by
  refine mt (Qc := (fun A => va_Qi (fun (r : Int32) (v : Ob) => bI q.1 = r ∧ q.2 = v) (bw G (fun v : Ob => (wX3 G h0 a0 v)) A) A)) (by decide) (Nat.le_of_ble_eq_true rfl) ?_
  intro p e s m below meth c A ls hx hb hr hlk hml hts hown hA hP hK hD hE hS hl
  have hown : s.vm.findClass RX3 = some m.cls := hown
  have hg : ∀ w ∈ lw_g, w.before ([.ref h0, .ref (gE G (10 + 2 * i))] : List Value).toArray s = true := fun w h => hts w (List.mem_cons_of_mem _ h)
  have hC : CallFix p m c cX3_wordIs 3 s ([.ref h0, .ref (gE G (10 + 2 * i))] : List Value).toArray (Cond.code yX3_wordIs cX3_wordIs 3 (some .boolean) :: lw_g) RX3 := ⟨hx, hb, hml, hown, hts⟩
  have hl : lv_has ls 3 [(0, .ref h0), (1, .ref (gE G (10 + 2 * i)))] := hl
  have lp_20 : ∀ (n : Nat) (x2 : Int32) (u0 : Ob), l_X3_wordIs_20 N i n x2 u0 = some q → ∀ (H : Heap) (locs : List Loc) (ls : Array Slot), va_P (gD G) vwCl (wX3 G h0 a0 u0) H → va_D A (wX3 G h0 a0 u0) → va_S A s.heap H locs → lv_has ls 3 [(0, .ref h0), (1, .ref (gE G (10 + 2 * i))), (2, .int x2)] → W p l e ({ frames := 4, cells := 0, slots := 0, locals := 85 } : Room) s m ([.ref h0, .ref (gE G (10 + 2 * i))] : List Value).toArray below meth c H locs 0 0 (MQ below (va_Qi (fun (r : Int32) (v : Ob) => bI q.1 = r ∧ q.2 = v) (bw G (fun v : Ob => (wX3 G h0 a0 v)) A) A) ([.ref h0, .ref (gE G (10 + 2 * i))] : List Value).toArray s 0 0 A) (F0 m 20 ls []) := by
    intro n
    induction n with
    | zero => intro x2 u0 hf; rw [l_X3_wordIs_20] at hf; cases hf
    | succ n ih =>
      intro x2 u0 hf H locs ls hP hD hS hl
      rw [l_X3_wordIs_20] at hf
      refine lv_iload_n hx hb dX3_wordIs_20 rfl (lv_at hl 2 rfl) ?_
      refine lv_aload_n hx hb dX3_wordIs_21 rfl (lv_at hl 1 rfl) ?_
      obtain ⟨q4, e5, hf⟩ := tbd hf
      refine kTi0 (As := []) (rest := [.int x2]) hC (c_J0_length_8abf5 (G := G) (hi := hi) e5) kq2_239 kc_J0_length_8abf5 (by decide) (vk_recv (adK := fun i => gE G (10 + 2 * i)) (i := i) (hE.1.2.2.2.2.2.2.2.2.2.2.2.1) hi hS) hP hK hD hE hS hA hl.1 (Nat.le_of_ble_eq_true rfl) ⟨Nat.zero_le _, Nat.zero_le _⟩ dX3_wordIs_22 (fun r9 u9 H locs hw hP hD hS => ?_)
      obtain ⟨rfl, rfl⟩ := hw
      refine lv_icmp_ge (tgt := 68) hx hb dX3_wordIs_25 (by decide) (fun c6 => ?_) (fun c6 => ?_)
      · have hf := tp hf c6
        refine lv_iconst (v := (1 : Int32)) hx hb dX3_wordIs_68 (by decide) ?_
        have hf := Option.some.inj hf
        subst hf
        exact e_z (wf := (fun v : Ob => (wX3 G h0 a0 v))) hx hb hr hlk u0 rfl ⟨rfl, rfl⟩ hP hK hD hS dX3_wordIs_69
      · have hf := tn hf c6
        refine lv_aload_n hx hb dX3_wordIs_28 rfl (lv_at hl 0 rfl) ?_
        refine va_get (D := gD G) (ci := 1) (v := .int (u0.1 4)) (C := RX3) (T := TX3) (N := 12) hx hb hg kl_X3 hown hK hP 0 rfl rfl 4 (by decide) (hg _ kq1_137) (fun _ h9 => h9) rfl dX3_wordIs_29 ?_
        refine lv_iload_n hx hb dX3_wordIs_32 rfl (lv_at hl 2 rfl) ?_
        refine lv_iadd hx hb dX3_wordIs_33 ?_
        refine lv_aload_n hx hb dX3_wordIs_34 rfl (lv_at hl 0 rfl) ?_
        refine va_get (D := gD G) (ci := 1) (v := .int (u0.1 2)) (C := RX3) (T := TX3) (N := 12) hx hb hg kl_X3 hown hK hP 0 rfl rfl 2 (by decide) (hg _ kq1_135) (fun _ h9 => h9) rfl dX3_wordIs_35 ?_
        refine lv_icmp_ge (tgt := 68) hx hb dX3_wordIs_38 (by decide) (fun c7 => ?_) (fun c7 => ?_)
        · have hf := tp hf c7
          refine lv_iconst (v := (1 : Int32)) hx hb dX3_wordIs_68 (by decide) ?_
          have hf := Option.some.inj hf
          subst hf
          exact e_z (wf := (fun v : Ob => (wX3 G h0 a0 v))) hx hb hr hlk u0 rfl ⟨rfl, rfl⟩ hP hK hD hS dX3_wordIs_69
        · have hf := tn hf c7
          refine lv_aload_n hx hb dX3_wordIs_41 rfl (lv_at hl 0 rfl) ?_
          refine va_get (D := gD G) (ci := 1) (v := .ref (a0 0)) (C := RX3) (T := TX3) (N := 12) hx hb hg kl_X3 hown hK hP 0 rfl rfl 0 (by decide) (hg _ kq1_132) (fun _ h9 => h9) rfl dX3_wordIs_42 ?_
          refine lv_aload_n hx hb dX3_wordIs_45 rfl (lv_at hl 0 rfl) ?_
          refine va_get (D := gD G) (ci := 1) (v := .int (u0.1 4)) (C := RX3) (T := TX3) (N := 12) hx hb hg kl_X3 hown hK hP 0 rfl rfl 4 (by decide) (hg _ kq1_137) (fun _ h9 => h9) rfl dX3_wordIs_46 ?_
          refine lv_iload_n hx hb dX3_wordIs_49 rfl (lv_at hl 2 rfl) ?_
          refine lv_iadd hx hb dX3_wordIs_50 ?_
          obtain ⟨b8, hf⟩ := tno hf
          refine va_bald (f := (u0.2.2.1 0)) hx hb hK hP 1 0 rfl rfl b8 dX3_wordIs_51 ?_
          refine lv_aload_n hx hb dX3_wordIs_52 rfl (lv_at hl 1 rfl) ?_
          refine lv_iload_n hx hb dX3_wordIs_53 rfl (lv_at hl 2 rfl) ?_
          obtain ⟨q9, e10, hf⟩ := tbd hf
          refine kTi0 (As := [.int x2]) (rest := [.int ((u0.2.2.1 0) ((u0.1 4) + x2).toNatClampNeg)]) hC (c_J0_charAt_5068e (G := G) (hi := hi) e10) kq3_9 kc_J0_charAt_5068e (by decide) (vk_recv (adK := fun i => gE G (10 + 2 * i)) (i := i) (hE.1.2.2.2.2.2.2.2.2.2.2.2.1) hi hS) hP hK hD hE hS hA hl.1 (Nat.le_of_ble_eq_true rfl) ⟨Nat.zero_le _, Nat.zero_le _⟩ dX3_wordIs_54 (fun r9 u9 H locs hw hP hD hS => ?_)
          obtain ⟨rfl, rfl⟩ := hw
          refine lv_icmp_eq (tgt := 62) hx hb dX3_wordIs_57 (by decide) (fun c11 => ?_) (fun c11 => ?_)
          · have hf := tp hf c11
            refine lv_iinc (v := (x2 + (1 : Int32))) (lv' := [(2, .int (x2 + (1 : Int32))), (0, .ref h0), (1, .ref (gE G (10 + 2 * i)))]) hx hb dX3_wordIs_62 hl (k := 2) rfl rfl (by decide) rfl (fun ls hl => ?_)
            refine lv_goto (tgt := 20) hx hb dX3_wordIs_65 (by decide) ?_
            exact ih _ _ hf _ _ _ hP hD hS (lv_sub hl [1, 2, 0] rfl)
          · have hf := tn hf c11
            refine lv_iconst (v := (0 : Int32)) hx hb dX3_wordIs_60 (by decide) ?_
            have hf := Option.some.inj hf
            subst hf
            exact e_z (wf := (fun v : Ob => (wX3 G h0 a0 v))) hx hb hr hlk u0 rfl ⟨rfl, rfl⟩ hP hK hD hS dX3_wordIs_61
  rw [f_X3_wordIs] at hf
  refine lv_aload_n hx hb dX3_wordIs_0 rfl (lv_at hl 0 rfl) ?_
  refine va_get (D := gD G) (ci := 1) (v := .int (u0.1 3)) (C := RX3) (T := TX3) (N := 12) hx hb hg kl_X3 hown hK hP 0 rfl rfl 3 (by decide) (hg _ kq1_136) (fun _ h9 => h9) rfl dX3_wordIs_1 ?_
  refine lv_aload_n hx hb dX3_wordIs_4 rfl (lv_at hl 0 rfl) ?_
  refine va_get (D := gD G) (ci := 1) (v := .int (u0.1 4)) (C := RX3) (T := TX3) (N := 12) hx hb hg kl_X3 hown hK hP 0 rfl rfl 4 (by decide) (hg _ kq1_137) (fun _ h9 => h9) rfl dX3_wordIs_5 ?_
  refine lv_isub hx hb dX3_wordIs_8 ?_
  refine lv_aload_n hx hb dX3_wordIs_9 rfl (lv_at hl 1 rfl) ?_
  obtain ⟨q1, e2, hf⟩ := tbd hf
  refine kTi0 (As := []) (rest := [.int ((u0.1 3) - (u0.1 4))]) hC (c_J0_length_8abf5 (G := G) (hi := hi) e2) kq2_239 kc_J0_length_8abf5 (by decide) (vk_recv (adK := fun i => gE G (10 + 2 * i)) (i := i) (hE.1.2.2.2.2.2.2.2.2.2.2.2.1) hi hS) hP hK hD hE hS hA hl.1 (Nat.le_of_ble_eq_true rfl) ⟨Nat.zero_le _, Nat.zero_le _⟩ dX3_wordIs_10 (fun r9 u9 H locs hw hP hD hS => ?_)
  obtain ⟨rfl, rfl⟩ := hw
  refine lv_icmp_eq (tgt := 18) hx hb dX3_wordIs_13 (by decide) (fun c3 => ?_) (fun c3 => ?_)
  · have hf := tp hf c3
    refine lv_iconst (v := (0 : Int32)) hx hb dX3_wordIs_18 (by decide) ?_
    refine lv_istore_n (lv' := [(2, .int (0 : Int32)), (0, .ref h0), (1, .ref (gE G (10 + 2 * i)))]) hx hb dX3_wordIs_19 rfl hl (by decide) rfl (fun ls hl => ?_)
    exact lp_20 N _ _ hf _ _ _ hP hD hS (lv_sub hl [1, 2, 0] rfl)
  · have hf := tn hf c3
    refine lv_iconst (v := (0 : Int32)) hx hb dX3_wordIs_16 (by decide) ?_
    have hf := Option.some.inj hf
    subst hf
    exact e_z (wf := (fun v : Ob => (wX3 G h0 a0 v))) hx hb hr hlk u0 rfl ⟨rfl, rfl⟩ hP hK hD hS dX3_wordIs_17
set_option maxRecDepth 100000 in
set_option maxHeartbeats 4000000 in
theorem c_X3_verbOfWord {l : Launch} {G : Gp} {sz N : Nat} {h0 : Nat} {a0 : Nat → Nat} {u0 : Ob} {q : Int32 × Ob} (hf : f_X3_verbOfWord N u0 = some q) : Met l yX3_verbOfWord (Cond.code yX3_verbOfWord cX3_verbOfWord 1 (some .int) :: lw_g) ({ frames := 5, cells := 0, slots := 0, locals := 107 } : Room) (va_Pc [.ref h0] (pw G (wX3 G h0 a0 u0) sz)) (va_Qi (fun (r : Int32) (v : Ob) => q.1 = r ∧ q.2 = v) (bw G (fun v : Ob => (wX3 G h0 a0 v)) (va_A (wX3 G h0 a0 u0) sz)) (va_A (wX3 G h0 a0 u0) sz)) 0 0 (va_A (wX3 G h0 a0 u0) sz) := by
  refine mt (Qc := (fun A => va_Qi (fun (r : Int32) (v : Ob) => q.1 = r ∧ q.2 = v) (bw G (fun v : Ob => (wX3 G h0 a0 v)) A) A)) (by decide) (Nat.le_of_ble_eq_true rfl) ?_
  intro p e s m below meth c A ls hx hb hr hlk hml hts hown hA hP hK hD hE hS hl
  have hown : s.vm.findClass RX3 = some m.cls := hown
  have hg : ∀ w ∈ lw_g, w.before ([.ref h0] : List Value).toArray s = true := fun w h => hts w (List.mem_cons_of_mem _ h)
  have hC : CallFix p m c cX3_verbOfWord 1 s ([.ref h0] : List Value).toArray (Cond.code yX3_verbOfWord cX3_verbOfWord 1 (some .int) :: lw_g) RX3 := ⟨hx, hb, hml, hown, hts⟩
  have hl : lv_has ls 1 [(0, .ref h0)] := hl
  rw [f_X3_verbOfWord] at hf
  refine lv_aload_n hx hb dX3_verbOfWord_0 rfl (lv_at hl 0 rfl) ?_
  refine va_ldcS (q := gE G (10 + 2 * 0)) hx hb hown (hE.2.1 (RX3, 81, "tolerance", 0) (by decide +kernel)) dX3_verbOfWord_1 ?_
  obtain ⟨q1, e2, hf⟩ := tbd hf
  refine kVi1 (As := [.ref (gE G (10 + 2 * 0))]) (rest := []) hC (c_X3_wordIs (G := G) (hi := by decide) e2) kq2_235 kc_X3_wordIs (by decide) 0 (ci := 1) rfl rfl hP hK hD hE hS hA hl.1 (Nat.le_of_ble_eq_true rfl) ⟨Nat.zero_le _, Nat.zero_le _⟩ dX3_verbOfWord_3 (fun r9 u9 H locs hw hP hD hS => ?_)
  obtain ⟨rfl, rfl⟩ := hw
  have hP : va_P (gD G) vwCl (wX3 G h0 a0 q1.2) H := hP
  have hD : va_D A (wX3 G h0 a0 q1.2) := hD
  refine bz_eq (tgt := 11) hx hb dX3_verbOfWord_6 (by decide) (fun c3 => ?_) (fun c3 => ?_)
  · have hf := tn hf c3
    refine lv_aload_n hx hb dX3_verbOfWord_11 rfl (lv_at hl 0 rfl) ?_
    refine va_ldcS (q := gE G (10 + 2 * 1)) hx hb hown (hE.2.1 (RX3, 87, "quorum", 1) (by decide +kernel)) dX3_verbOfWord_12 ?_
    obtain ⟨q4, e5, hf⟩ := tbd hf
    refine kVi1 (As := [.ref (gE G (10 + 2 * 1))]) (rest := []) hC (c_X3_wordIs (G := G) (hi := by decide) e5) kq2_235 kc_X3_wordIs (by decide) 0 (ci := 1) rfl rfl hP hK hD hE hS hA hl.1 (Nat.le_of_ble_eq_true rfl) ⟨Nat.zero_le _, Nat.zero_le _⟩ dX3_verbOfWord_14 (fun r9 u9 H locs hw hP hD hS => ?_)
    obtain ⟨rfl, rfl⟩ := hw
    have hP : va_P (gD G) vwCl (wX3 G h0 a0 q4.2) H := hP
    have hD : va_D A (wX3 G h0 a0 q4.2) := hD
    refine bz_eq (tgt := 22) hx hb dX3_verbOfWord_17 (by decide) (fun c6 => ?_) (fun c6 => ?_)
    · have hf := tn hf c6
      refine lv_aload_n hx hb dX3_verbOfWord_22 rfl (lv_at hl 0 rfl) ?_
      refine va_ldcS (q := gE G (10 + 2 * 2)) hx hb hown (hE.2.1 (RX3, 89, "window", 2) (by decide +kernel)) dX3_verbOfWord_23 ?_
      obtain ⟨q7, e8, hf⟩ := tbd hf
      refine kVi1 (As := [.ref (gE G (10 + 2 * 2))]) (rest := []) hC (c_X3_wordIs (G := G) (hi := by decide) e8) kq2_235 kc_X3_wordIs (by decide) 0 (ci := 1) rfl rfl hP hK hD hE hS hA hl.1 (Nat.le_of_ble_eq_true rfl) ⟨Nat.zero_le _, Nat.zero_le _⟩ dX3_verbOfWord_25 (fun r9 u9 H locs hw hP hD hS => ?_)
      obtain ⟨rfl, rfl⟩ := hw
      have hP : va_P (gD G) vwCl (wX3 G h0 a0 q7.2) H := hP
      have hD : va_D A (wX3 G h0 a0 q7.2) := hD
      refine bz_eq (tgt := 33) hx hb dX3_verbOfWord_28 (by decide) (fun c9 => ?_) (fun c9 => ?_)
      · have hf := tn hf c9
        refine lv_aload_n hx hb dX3_verbOfWord_33 rfl (lv_at hl 0 rfl) ?_
        refine va_ldcS (q := gE G (10 + 2 * 3)) hx hb hown (hE.2.1 (RX3, 91, "mend", 3) (by decide +kernel)) dX3_verbOfWord_34 ?_
        obtain ⟨q10, e11, hf⟩ := tbd hf
        refine kVi1 (As := [.ref (gE G (10 + 2 * 3))]) (rest := []) hC (c_X3_wordIs (G := G) (hi := by decide) e11) kq2_235 kc_X3_wordIs (by decide) 0 (ci := 1) rfl rfl hP hK hD hE hS hA hl.1 (Nat.le_of_ble_eq_true rfl) ⟨Nat.zero_le _, Nat.zero_le _⟩ dX3_verbOfWord_36 (fun r9 u9 H locs hw hP hD hS => ?_)
        obtain ⟨rfl, rfl⟩ := hw
        have hP : va_P (gD G) vwCl (wX3 G h0 a0 q10.2) H := hP
        have hD : va_D A (wX3 G h0 a0 q10.2) := hD
        refine bz_eq (tgt := 44) hx hb dX3_verbOfWord_39 (by decide) (fun c12 => ?_) (fun c12 => ?_)
        · have hf := tn hf c12
          refine lv_aload_n hx hb dX3_verbOfWord_44 rfl (lv_at hl 0 rfl) ?_
          refine va_ldcS (q := gE G (10 + 2 * 4)) hx hb hown (hE.2.1 (RX3, 93, "drift", 4) (by decide +kernel)) dX3_verbOfWord_45 ?_
          obtain ⟨q13, e14, hf⟩ := tbd hf
          refine kVi1 (As := [.ref (gE G (10 + 2 * 4))]) (rest := []) hC (c_X3_wordIs (G := G) (hi := by decide) e14) kq2_235 kc_X3_wordIs (by decide) 0 (ci := 1) rfl rfl hP hK hD hE hS hA hl.1 (Nat.le_of_ble_eq_true rfl) ⟨Nat.zero_le _, Nat.zero_le _⟩ dX3_verbOfWord_47 (fun r9 u9 H locs hw hP hD hS => ?_)
          obtain ⟨rfl, rfl⟩ := hw
          have hP : va_P (gD G) vwCl (wX3 G h0 a0 q13.2) H := hP
          have hD : va_D A (wX3 G h0 a0 q13.2) := hD
          refine bz_eq (tgt := 55) hx hb dX3_verbOfWord_50 (by decide) (fun c15 => ?_) (fun c15 => ?_)
          · have hf := tn hf c15
            refine lv_aload_n hx hb dX3_verbOfWord_55 rfl (lv_at hl 0 rfl) ?_
            refine va_ldcS (q := gE G (10 + 2 * 5)) hx hb hown (hE.2.1 (RX3, 95, "pulse", 5) (by decide +kernel)) dX3_verbOfWord_56 ?_
            obtain ⟨q16, e17, hf⟩ := tbd hf
            refine kVi1 (As := [.ref (gE G (10 + 2 * 5))]) (rest := []) hC (c_X3_wordIs (G := G) (hi := by decide) e17) kq2_235 kc_X3_wordIs (by decide) 0 (ci := 1) rfl rfl hP hK hD hE hS hA hl.1 (Nat.le_of_ble_eq_true rfl) ⟨Nat.zero_le _, Nat.zero_le _⟩ dX3_verbOfWord_58 (fun r9 u9 H locs hw hP hD hS => ?_)
            obtain ⟨rfl, rfl⟩ := hw
            have hP : va_P (gD G) vwCl (wX3 G h0 a0 q16.2) H := hP
            have hD : va_D A (wX3 G h0 a0 q16.2) := hD
            refine bz_eq (tgt := 66) hx hb dX3_verbOfWord_61 (by decide) (fun c18 => ?_) (fun c18 => ?_)
            · have hf := tn hf c18
              refine lv_aload_n hx hb dX3_verbOfWord_66 rfl (lv_at hl 0 rfl) ?_
              refine va_ldcS (q := gE G (10 + 2 * 6)) hx hb hown (hE.2.1 (RX3, 97, "hear", 6) (by decide +kernel)) dX3_verbOfWord_67 ?_
              obtain ⟨q19, e20, hf⟩ := tbd hf
              refine kVi1 (As := [.ref (gE G (10 + 2 * 6))]) (rest := []) hC (c_X3_wordIs (G := G) (hi := by decide) e20) kq2_235 kc_X3_wordIs (by decide) 0 (ci := 1) rfl rfl hP hK hD hE hS hA hl.1 (Nat.le_of_ble_eq_true rfl) ⟨Nat.zero_le _, Nat.zero_le _⟩ dX3_verbOfWord_69 (fun r9 u9 H locs hw hP hD hS => ?_)
              obtain ⟨rfl, rfl⟩ := hw
              have hP : va_P (gD G) vwCl (wX3 G h0 a0 q19.2) H := hP
              have hD : va_D A (wX3 G h0 a0 q19.2) := hD
              refine bz_eq (tgt := 80) hx hb dX3_verbOfWord_72 (by decide) (fun c21 => ?_) (fun c21 => ?_)
              · have hf := tn hf c21
                refine lv_iconst (v := (-1 : Int32)) hx hb dX3_verbOfWord_80 (by decide) ?_
                have hf := Option.some.inj hf
                subst hf
                exact e_i (wf := (fun v : Ob => (wX3 G h0 a0 v))) hx hb hr hlk q19.2 ⟨rfl, rfl⟩ hP hK hD hS dX3_verbOfWord_81
              · have hf := tp hf c21
                refine lv_bipush (v := (6 : Int32)) hx hb dX3_verbOfWord_75 (by decide) ?_
                refine lv_goto (tgt := 81) hx hb dX3_verbOfWord_77 (by decide) ?_
                have hf := Option.some.inj hf
                subst hf
                exact e_i (wf := (fun v : Ob => (wX3 G h0 a0 v))) hx hb hr hlk q19.2 ⟨rfl, rfl⟩ hP hK hD hS dX3_verbOfWord_81
            · have hf := tp hf c18
              refine lv_iconst (v := (5 : Int32)) hx hb dX3_verbOfWord_64 (by decide) ?_
              have hf := Option.some.inj hf
              subst hf
              exact e_i (wf := (fun v : Ob => (wX3 G h0 a0 v))) hx hb hr hlk q16.2 ⟨rfl, rfl⟩ hP hK hD hS dX3_verbOfWord_65
          · have hf := tp hf c15
            refine lv_iconst (v := (4 : Int32)) hx hb dX3_verbOfWord_53 (by decide) ?_
            have hf := Option.some.inj hf
            subst hf
            exact e_i (wf := (fun v : Ob => (wX3 G h0 a0 v))) hx hb hr hlk q13.2 ⟨rfl, rfl⟩ hP hK hD hS dX3_verbOfWord_54
        · have hf := tp hf c12
          refine lv_iconst (v := (3 : Int32)) hx hb dX3_verbOfWord_42 (by decide) ?_
          have hf := Option.some.inj hf
          subst hf
          exact e_i (wf := (fun v : Ob => (wX3 G h0 a0 v))) hx hb hr hlk q10.2 ⟨rfl, rfl⟩ hP hK hD hS dX3_verbOfWord_43
      · have hf := tp hf c9
        refine lv_iconst (v := (2 : Int32)) hx hb dX3_verbOfWord_31 (by decide) ?_
        have hf := Option.some.inj hf
        subst hf
        exact e_i (wf := (fun v : Ob => (wX3 G h0 a0 v))) hx hb hr hlk q7.2 ⟨rfl, rfl⟩ hP hK hD hS dX3_verbOfWord_32
    · have hf := tp hf c6
      refine lv_iconst (v := (1 : Int32)) hx hb dX3_verbOfWord_20 (by decide) ?_
      have hf := Option.some.inj hf
      subst hf
      exact e_i (wf := (fun v : Ob => (wX3 G h0 a0 v))) hx hb hr hlk q4.2 ⟨rfl, rfl⟩ hP hK hD hS dX3_verbOfWord_21
  · have hf := tp hf c3
    refine lv_iconst (v := (0 : Int32)) hx hb dX3_verbOfWord_9 (by decide) ?_
    have hf := Option.some.inj hf
    subst hf
    exact e_i (wf := (fun v : Ob => (wX3 G h0 a0 v))) hx hb hr hlk q1.2 ⟨rfl, rfl⟩ hP hK hD hS dX3_verbOfWord_10
set_option maxRecDepth 100000 in
set_option maxHeartbeats 4000000 in
theorem c_X3_fail {l : Launch} {G : Gp} {sz N : Nat} {x1 : Int32} {x2 : Int32} {h0 : Nat} {a0 : Nat → Nat} {u0 : Ob} {q : Ob} (hf : f_X3_fail N x1 x2 u0 = some q) : Met l yX3_fail (Cond.code yX3_fail cX3_fail 3 none :: lw_g) ({ frames := 0, cells := 0, slots := 0, locals := 0 } : Room) (va_Pc [.ref h0, .int x1, .int x2] (pw G (wX3 G h0 a0 u0) sz)) (va_Qv (fun v : Ob => q = v) (bw G (fun v : Ob => (wX3 G h0 a0 v)) (va_A (wX3 G h0 a0 u0) sz)) (va_A (wX3 G h0 a0 u0) sz)) 0 0 (va_A (wX3 G h0 a0 u0) sz) := by
  refine mt (Qc := (fun A => va_Qv (fun v : Ob => q = v) (bw G (fun v : Ob => (wX3 G h0 a0 v)) A) A)) (by decide) (Nat.le_of_ble_eq_true rfl) ?_
  intro p e s m below meth c A ls hx hb hr hlk hml hts hown hA hP hK hD hE hS hl
  have hown : s.vm.findClass RX3 = some m.cls := hown
  have hg : ∀ w ∈ lw_g, w.before ([.ref h0, .int x1, .int x2] : List Value).toArray s = true := fun w h => hts w (List.mem_cons_of_mem _ h)
  have hC : CallFix p m c cX3_fail 3 s ([.ref h0, .int x1, .int x2] : List Value).toArray (Cond.code yX3_fail cX3_fail 3 none :: lw_g) RX3 := ⟨hx, hb, hml, hown, hts⟩
  have hl : lv_has ls 3 [(0, .ref h0), (1, .int x1), (2, .int x2)] := hl
  rw [f_X3_fail] at hf
  refine lv_aload_n hx hb dX3_fail_0 rfl (lv_at hl 0 rfl) ?_
  refine lv_iload_n hx hb dX3_fail_1 rfl (lv_at hl 1 rfl) ?_
  refine va_put (D := gD G) (ci := 1) (v := .int x1) (ty := .int) (C := RX3) (T := TX3) (N := 12) hx hb hg kl_X3 tyX3 tyX3_ok nmX3 hown hK hP hD hS 0 rfl rfl 5 (by decide) (hg _ kq1_138) (fun _ h9 => h9) rfl (by decide +kernel) rfl rfl (Nat.le_of_ble_eq_true rfl) dX3_fail_2 (fun H locs hP hD hS => ?_)
  have hP : va_P (gD G) vwCl (wX3 G h0 a0 (oi u0 5 x1)) H := hP
  have hD : va_D A (wX3 G h0 a0 (oi u0 5 x1)) := hD
  refine lv_aload_n hx hb dX3_fail_5 rfl (lv_at hl 0 rfl) ?_
  refine lv_iload_n hx hb dX3_fail_6 rfl (lv_at hl 2 rfl) ?_
  refine va_put (D := gD G) (ci := 1) (v := .int x2) (ty := .int) (C := RX3) (T := TX3) (N := 12) hx hb hg kl_X3 tyX3 tyX3_ok nmX3 hown hK hP hD hS 0 rfl rfl 6 (by decide) (hg _ kq1_140) (fun _ h9 => h9) rfl (by decide +kernel) rfl rfl (Nat.le_of_ble_eq_true rfl) dX3_fail_7 (fun H locs hP hD hS => ?_)
  have hP : va_P (gD G) vwCl (wX3 G h0 a0 (oi (oi u0 5 x1) 6 x2)) H := hP
  have hD : va_D A (wX3 G h0 a0 (oi (oi u0 5 x1) 6 x2)) := hD
  have hf := Option.some.inj hf
  subst hf
  exact e_v (wf := (fun v : Ob => (wX3 G h0 a0 v))) hx hb hr hlk (oi (oi u0 5 x1) 6 x2) rfl hP hK hD hS dX3_fail_10
set_option maxRecDepth 100000 in
set_option maxHeartbeats 4000000 in
theorem c_X3_readNumber {l : Launch} {G : Gp} {sz N : Nat} {x1 : Int32} {x2 : Int32} {h0 : Nat} {a0 : Nat → Nat} {u0 : Ob} {q : Int32 × Ob} (hf : f_X3_readNumber N x1 x2 u0 = some q) : Met l yX3_readNumber (Cond.code yX3_readNumber cX3_readNumber 6 (some .int) :: lw_g) ({ frames := 1, cells := 0, slots := 0, locals := 22 } : Room) (va_Pc [.ref h0, .int x1, .int x2] (pw G (wX3 G h0 a0 u0) sz)) (va_Qi (fun (r : Int32) (v : Ob) => q.1 = r ∧ q.2 = v) (bw G (fun v : Ob => (wX3 G h0 a0 v)) (va_A (wX3 G h0 a0 u0) sz)) (va_A (wX3 G h0 a0 u0) sz)) 0 0 (va_A (wX3 G h0 a0 u0) sz) := by
  refine mt (Qc := (fun A => va_Qi (fun (r : Int32) (v : Ob) => q.1 = r ∧ q.2 = v) (bw G (fun v : Ob => (wX3 G h0 a0 v)) A) A)) (by decide) (Nat.le_of_ble_eq_true rfl) ?_
  intro p e s m below meth c A ls hx hb hr hlk hml hts hown hA hP hK hD hE hS hl
  have hown : s.vm.findClass RX3 = some m.cls := hown
  have hg : ∀ w ∈ lw_g, w.before ([.ref h0, .int x1, .int x2] : List Value).toArray s = true := fun w h => hts w (List.mem_cons_of_mem _ h)
  have hC : CallFix p m c cX3_readNumber 6 s ([.ref h0, .int x1, .int x2] : List Value).toArray (Cond.code yX3_readNumber cX3_readNumber 6 (some .int) :: lw_g) RX3 := ⟨hx, hb, hml, hown, hts⟩
  have hl : lv_has ls 6 [(0, .ref h0), (1, .int x1), (2, .int x2)] := hl
  have lp_12 : ∀ (n : Nat) (x3 : Int32) (x4 : Int64) (u0 : Ob), l_X3_readNumber_12 N x1 x2 n x3 x4 u0 = some q → ∀ (H : Heap) (locs : List Loc) (ls : Array Slot), va_P (gD G) vwCl (wX3 G h0 a0 u0) H → va_D A (wX3 G h0 a0 u0) → va_S A s.heap H locs → lv_has ls 6 [(0, .ref h0), (1, .int x1), (2, .int x2), (3, .int x3), (4, .long x4)] → W p l e ({ frames := 1, cells := 0, slots := 0, locals := 22 } : Room) s m ([.ref h0, .int x1, .int x2] : List Value).toArray below meth c H locs 0 0 (MQ below (va_Qi (fun (r : Int32) (v : Ob) => q.1 = r ∧ q.2 = v) (bw G (fun v : Ob => (wX3 G h0 a0 v)) A) A) ([.ref h0, .int x1, .int x2] : List Value).toArray s 0 0 A) (F0 m 12 ls []) := by
    intro n
    induction n with
    | zero => intro x3 x4 u0 hf; rw [l_X3_readNumber_12] at hf; cases hf
    | succ n ih =>
      intro x3 x4 u0 hf H locs ls hP hD hS hl
      rw [l_X3_readNumber_12] at hf
      refine lv_aload_n hx hb dX3_readNumber_12 rfl (lv_at hl 0 rfl) ?_
      refine va_get (D := gD G) (ci := 1) (v := .int (u0.1 3)) (C := RX3) (T := TX3) (N := 12) hx hb hg kl_X3 hown hK hP 0 rfl rfl 3 (by decide) (hg _ kq1_136) (fun _ h9 => h9) rfl dX3_readNumber_13 ?_
      refine lv_aload_n hx hb dX3_readNumber_16 rfl (lv_at hl 0 rfl) ?_
      refine va_get (D := gD G) (ci := 1) (v := .int (u0.1 2)) (C := RX3) (T := TX3) (N := 12) hx hb hg kl_X3 hown hK hP 0 rfl rfl 2 (by decide) (hg _ kq1_135) (fun _ h9 => h9) rfl dX3_readNumber_17 ?_
      refine lv_icmp_ge (tgt := 93) hx hb dX3_readNumber_20 (by decide) (fun c3 => ?_) (fun c3 => ?_)
      · have hf := tp hf c3
        refine lv_aload_n hx hb dX3_readNumber_93 rfl (lv_at hl 0 rfl) ?_
        refine va_get (D := gD G) (ci := 1) (v := .int (u0.1 3)) (C := RX3) (T := TX3) (N := 12) hx hb hg kl_X3 hown hK hP 0 rfl rfl 3 (by decide) (hg _ kq1_136) (fun _ h9 => h9) rfl dX3_readNumber_94 ?_
        refine lv_iload_n hx hb dX3_readNumber_97 rfl (lv_at hl 3 rfl) ?_
        refine lv_icmp_ne (tgt := 110) hx hb dX3_readNumber_98 (by decide) (fun c4 => ?_) (fun c4 => ?_)
        · have hf := tn hf c4
          refine lv_lload hx hb dX3_readNumber_110 (lv_at hl 4 rfl) ?_
          refine lv_iload_n hx hb dX3_readNumber_112 rfl (lv_at hl 1 rfl) ?_
          refine lv_i2l (v := x1.toInt64) hx hb dX3_readNumber_113 rfl ?_
          refine lc_lt (tgt := 126) hx hb dX3_readNumber_114 dX3_readNumber_115 (by decide) (fun c5 => ?_) (fun c5 => ?_)
          · have hf := tp hf c5
            refine lv_aload_n hx hb dX3_readNumber_126 rfl (lv_at hl 0 rfl) ?_
            refine lv_bipush (v := (-3 : Int32)) hx hb dX3_readNumber_127 (by decide) ?_
            refine lv_iload_n hx hb dX3_readNumber_129 rfl (lv_at hl 3 rfl) ?_
            obtain ⟨q6, e7, hf⟩ := tbd hf
            refine kVv1 (As := [.int (-3 : Int32), .int x3]) (rest := []) hC (c_X3_fail (G := G) e7) kq3_53 kc_X3_fail (by decide) 0 (ci := 1) rfl rfl hP hK hD hE hS hA hl.1 (Nat.le_of_ble_eq_true rfl) ⟨Nat.zero_le _, Nat.zero_le _⟩ dX3_readNumber_130 (fun u9 H locs hw hP hD hS => ?_)
            obtain rfl := hw
            have hP : va_P (gD G) vwCl (wX3 G h0 a0 q6) H := hP
            have hD : va_D A (wX3 G h0 a0 q6) := hD
            refine lv_iconst (v := (0 : Int32)) hx hb dX3_readNumber_133 (by decide) ?_
            have hf := Option.some.inj hf
            subst hf
            exact e_i (wf := (fun v : Ob => (wX3 G h0 a0 v))) hx hb hr hlk q6 ⟨rfl, rfl⟩ hP hK hD hS dX3_readNumber_134
          · have hf := tn hf c5
            refine lv_lload hx hb dX3_readNumber_118 (lv_at hl 4 rfl) ?_
            refine lv_iload_n hx hb dX3_readNumber_120 rfl (lv_at hl 2 rfl) ?_
            refine lv_i2l (v := x2.toInt64) hx hb dX3_readNumber_121 rfl ?_
            refine lc_le (tgt := 135) hx hb dX3_readNumber_122 dX3_readNumber_123 (by decide) (fun c8 => ?_) (fun c8 => ?_)
            · have hf := tp hf c8
              refine lv_lload hx hb dX3_readNumber_135 (lv_at hl 4 rfl) ?_
              refine lv_l2i (v := x4.toInt32) hx hb dX3_readNumber_137 rfl ?_
              have hf := Option.some.inj hf
              subst hf
              exact e_i (wf := (fun v : Ob => (wX3 G h0 a0 v))) hx hb hr hlk u0 ⟨rfl, rfl⟩ hP hK hD hS dX3_readNumber_138
            · have hf := tn hf c8
              refine lv_aload_n hx hb dX3_readNumber_126 rfl (lv_at hl 0 rfl) ?_
              refine lv_bipush (v := (-3 : Int32)) hx hb dX3_readNumber_127 (by decide) ?_
              refine lv_iload_n hx hb dX3_readNumber_129 rfl (lv_at hl 3 rfl) ?_
              obtain ⟨q9, e10, hf⟩ := tbd hf
              refine kVv1 (As := [.int (-3 : Int32), .int x3]) (rest := []) hC (c_X3_fail (G := G) e10) kq3_53 kc_X3_fail (by decide) 0 (ci := 1) rfl rfl hP hK hD hE hS hA hl.1 (Nat.le_of_ble_eq_true rfl) ⟨Nat.zero_le _, Nat.zero_le _⟩ dX3_readNumber_130 (fun u9 H locs hw hP hD hS => ?_)
              obtain rfl := hw
              have hP : va_P (gD G) vwCl (wX3 G h0 a0 q9) H := hP
              have hD : va_D A (wX3 G h0 a0 q9) := hD
              refine lv_iconst (v := (0 : Int32)) hx hb dX3_readNumber_133 (by decide) ?_
              have hf := Option.some.inj hf
              subst hf
              exact e_i (wf := (fun v : Ob => (wX3 G h0 a0 v))) hx hb hr hlk q9 ⟨rfl, rfl⟩ hP hK hD hS dX3_readNumber_134
        · have hf := tp hf c4
          refine lv_aload_n hx hb dX3_readNumber_101 rfl (lv_at hl 0 rfl) ?_
          refine lv_bipush (v := (-2 : Int32)) hx hb dX3_readNumber_102 (by decide) ?_
          refine lv_iload_n hx hb dX3_readNumber_104 rfl (lv_at hl 3 rfl) ?_
          obtain ⟨q11, e12, hf⟩ := tbd hf
          refine kVv1 (As := [.int (-2 : Int32), .int x3]) (rest := []) hC (c_X3_fail (G := G) e12) kq3_53 kc_X3_fail (by decide) 0 (ci := 1) rfl rfl hP hK hD hE hS hA hl.1 (Nat.le_of_ble_eq_true rfl) ⟨Nat.zero_le _, Nat.zero_le _⟩ dX3_readNumber_105 (fun u9 H locs hw hP hD hS => ?_)
          obtain rfl := hw
          have hP : va_P (gD G) vwCl (wX3 G h0 a0 q11) H := hP
          have hD : va_D A (wX3 G h0 a0 q11) := hD
          refine lv_iconst (v := (0 : Int32)) hx hb dX3_readNumber_108 (by decide) ?_
          have hf := Option.some.inj hf
          subst hf
          exact e_i (wf := (fun v : Ob => (wX3 G h0 a0 v))) hx hb hr hlk q11 ⟨rfl, rfl⟩ hP hK hD hS dX3_readNumber_109
      · have hf := tn hf c3
        refine lv_aload_n hx hb dX3_readNumber_23 rfl (lv_at hl 0 rfl) ?_
        refine va_get (D := gD G) (ci := 1) (v := .ref (a0 0)) (C := RX3) (T := TX3) (N := 12) hx hb hg kl_X3 hown hK hP 0 rfl rfl 0 (by decide) (hg _ kq1_132) (fun _ h9 => h9) rfl dX3_readNumber_24 ?_
        refine lv_aload_n hx hb dX3_readNumber_27 rfl (lv_at hl 0 rfl) ?_
        refine va_get (D := gD G) (ci := 1) (v := .int (u0.1 3)) (C := RX3) (T := TX3) (N := 12) hx hb hg kl_X3 hown hK hP 0 rfl rfl 3 (by decide) (hg _ kq1_136) (fun _ h9 => h9) rfl dX3_readNumber_28 ?_
        obtain ⟨b13, hf⟩ := tno hf
        refine va_bald (f := (u0.2.2.1 0)) hx hb hK hP 1 0 rfl rfl b13 dX3_readNumber_31 ?_
        refine lv_bipush (v := (48 : Int32)) hx hb dX3_readNumber_32 (by decide) ?_
        refine lv_icmp_lt (tgt := 93) hx hb dX3_readNumber_34 (by decide) (fun c14 => ?_) (fun c14 => ?_)
        · have hf := tp hf c14
          refine lv_aload_n hx hb dX3_readNumber_93 rfl (lv_at hl 0 rfl) ?_
          refine va_get (D := gD G) (ci := 1) (v := .int (u0.1 3)) (C := RX3) (T := TX3) (N := 12) hx hb hg kl_X3 hown hK hP 0 rfl rfl 3 (by decide) (hg _ kq1_136) (fun _ h9 => h9) rfl dX3_readNumber_94 ?_
          refine lv_iload_n hx hb dX3_readNumber_97 rfl (lv_at hl 3 rfl) ?_
          refine lv_icmp_ne (tgt := 110) hx hb dX3_readNumber_98 (by decide) (fun c15 => ?_) (fun c15 => ?_)
          · have hf := tn hf c15
            refine lv_lload hx hb dX3_readNumber_110 (lv_at hl 4 rfl) ?_
            refine lv_iload_n hx hb dX3_readNumber_112 rfl (lv_at hl 1 rfl) ?_
            refine lv_i2l (v := x1.toInt64) hx hb dX3_readNumber_113 rfl ?_
            refine lc_lt (tgt := 126) hx hb dX3_readNumber_114 dX3_readNumber_115 (by decide) (fun c16 => ?_) (fun c16 => ?_)
            · have hf := tp hf c16
              refine lv_aload_n hx hb dX3_readNumber_126 rfl (lv_at hl 0 rfl) ?_
              refine lv_bipush (v := (-3 : Int32)) hx hb dX3_readNumber_127 (by decide) ?_
              refine lv_iload_n hx hb dX3_readNumber_129 rfl (lv_at hl 3 rfl) ?_
              obtain ⟨q17, e18, hf⟩ := tbd hf
              refine kVv1 (As := [.int (-3 : Int32), .int x3]) (rest := []) hC (c_X3_fail (G := G) e18) kq3_53 kc_X3_fail (by decide) 0 (ci := 1) rfl rfl hP hK hD hE hS hA hl.1 (Nat.le_of_ble_eq_true rfl) ⟨Nat.zero_le _, Nat.zero_le _⟩ dX3_readNumber_130 (fun u9 H locs hw hP hD hS => ?_)
              obtain rfl := hw
              have hP : va_P (gD G) vwCl (wX3 G h0 a0 q17) H := hP
              have hD : va_D A (wX3 G h0 a0 q17) := hD
              refine lv_iconst (v := (0 : Int32)) hx hb dX3_readNumber_133 (by decide) ?_
              have hf := Option.some.inj hf
              subst hf
              exact e_i (wf := (fun v : Ob => (wX3 G h0 a0 v))) hx hb hr hlk q17 ⟨rfl, rfl⟩ hP hK hD hS dX3_readNumber_134
            · have hf := tn hf c16
              refine lv_lload hx hb dX3_readNumber_118 (lv_at hl 4 rfl) ?_
              refine lv_iload_n hx hb dX3_readNumber_120 rfl (lv_at hl 2 rfl) ?_
              refine lv_i2l (v := x2.toInt64) hx hb dX3_readNumber_121 rfl ?_
              refine lc_le (tgt := 135) hx hb dX3_readNumber_122 dX3_readNumber_123 (by decide) (fun c19 => ?_) (fun c19 => ?_)
              · have hf := tp hf c19
                refine lv_lload hx hb dX3_readNumber_135 (lv_at hl 4 rfl) ?_
                refine lv_l2i (v := x4.toInt32) hx hb dX3_readNumber_137 rfl ?_
                have hf := Option.some.inj hf
                subst hf
                exact e_i (wf := (fun v : Ob => (wX3 G h0 a0 v))) hx hb hr hlk u0 ⟨rfl, rfl⟩ hP hK hD hS dX3_readNumber_138
              · have hf := tn hf c19
                refine lv_aload_n hx hb dX3_readNumber_126 rfl (lv_at hl 0 rfl) ?_
                refine lv_bipush (v := (-3 : Int32)) hx hb dX3_readNumber_127 (by decide) ?_
                refine lv_iload_n hx hb dX3_readNumber_129 rfl (lv_at hl 3 rfl) ?_
                obtain ⟨q20, e21, hf⟩ := tbd hf
                refine kVv1 (As := [.int (-3 : Int32), .int x3]) (rest := []) hC (c_X3_fail (G := G) e21) kq3_53 kc_X3_fail (by decide) 0 (ci := 1) rfl rfl hP hK hD hE hS hA hl.1 (Nat.le_of_ble_eq_true rfl) ⟨Nat.zero_le _, Nat.zero_le _⟩ dX3_readNumber_130 (fun u9 H locs hw hP hD hS => ?_)
                obtain rfl := hw
                have hP : va_P (gD G) vwCl (wX3 G h0 a0 q20) H := hP
                have hD : va_D A (wX3 G h0 a0 q20) := hD
                refine lv_iconst (v := (0 : Int32)) hx hb dX3_readNumber_133 (by decide) ?_
                have hf := Option.some.inj hf
                subst hf
                exact e_i (wf := (fun v : Ob => (wX3 G h0 a0 v))) hx hb hr hlk q20 ⟨rfl, rfl⟩ hP hK hD hS dX3_readNumber_134
          · have hf := tp hf c15
            refine lv_aload_n hx hb dX3_readNumber_101 rfl (lv_at hl 0 rfl) ?_
            refine lv_bipush (v := (-2 : Int32)) hx hb dX3_readNumber_102 (by decide) ?_
            refine lv_iload_n hx hb dX3_readNumber_104 rfl (lv_at hl 3 rfl) ?_
            obtain ⟨q22, e23, hf⟩ := tbd hf
            refine kVv1 (As := [.int (-2 : Int32), .int x3]) (rest := []) hC (c_X3_fail (G := G) e23) kq3_53 kc_X3_fail (by decide) 0 (ci := 1) rfl rfl hP hK hD hE hS hA hl.1 (Nat.le_of_ble_eq_true rfl) ⟨Nat.zero_le _, Nat.zero_le _⟩ dX3_readNumber_105 (fun u9 H locs hw hP hD hS => ?_)
            obtain rfl := hw
            have hP : va_P (gD G) vwCl (wX3 G h0 a0 q22) H := hP
            have hD : va_D A (wX3 G h0 a0 q22) := hD
            refine lv_iconst (v := (0 : Int32)) hx hb dX3_readNumber_108 (by decide) ?_
            have hf := Option.some.inj hf
            subst hf
            exact e_i (wf := (fun v : Ob => (wX3 G h0 a0 v))) hx hb hr hlk q22 ⟨rfl, rfl⟩ hP hK hD hS dX3_readNumber_109
        · have hf := tn hf c14
          refine lv_aload_n hx hb dX3_readNumber_37 rfl (lv_at hl 0 rfl) ?_
          refine va_get (D := gD G) (ci := 1) (v := .ref (a0 0)) (C := RX3) (T := TX3) (N := 12) hx hb hg kl_X3 hown hK hP 0 rfl rfl 0 (by decide) (hg _ kq1_132) (fun _ h9 => h9) rfl dX3_readNumber_38 ?_
          refine lv_aload_n hx hb dX3_readNumber_41 rfl (lv_at hl 0 rfl) ?_
          refine va_get (D := gD G) (ci := 1) (v := .int (u0.1 3)) (C := RX3) (T := TX3) (N := 12) hx hb hg kl_X3 hown hK hP 0 rfl rfl 3 (by decide) (hg _ kq1_136) (fun _ h9 => h9) rfl dX3_readNumber_42 ?_
          obtain ⟨b24, hf⟩ := tno hf
          refine va_bald (f := (u0.2.2.1 0)) hx hb hK hP 1 0 rfl rfl b24 dX3_readNumber_45 ?_
          refine lv_bipush (v := (57 : Int32)) hx hb dX3_readNumber_46 (by decide) ?_
          refine lv_icmp_gt (tgt := 93) hx hb dX3_readNumber_48 (by decide) (fun c25 => ?_) (fun c25 => ?_)
          · have hf := tp hf c25
            refine lv_aload_n hx hb dX3_readNumber_93 rfl (lv_at hl 0 rfl) ?_
            refine va_get (D := gD G) (ci := 1) (v := .int (u0.1 3)) (C := RX3) (T := TX3) (N := 12) hx hb hg kl_X3 hown hK hP 0 rfl rfl 3 (by decide) (hg _ kq1_136) (fun _ h9 => h9) rfl dX3_readNumber_94 ?_
            refine lv_iload_n hx hb dX3_readNumber_97 rfl (lv_at hl 3 rfl) ?_
            refine lv_icmp_ne (tgt := 110) hx hb dX3_readNumber_98 (by decide) (fun c26 => ?_) (fun c26 => ?_)
            · have hf := tn hf c26
              refine lv_lload hx hb dX3_readNumber_110 (lv_at hl 4 rfl) ?_
              refine lv_iload_n hx hb dX3_readNumber_112 rfl (lv_at hl 1 rfl) ?_
              refine lv_i2l (v := x1.toInt64) hx hb dX3_readNumber_113 rfl ?_
              refine lc_lt (tgt := 126) hx hb dX3_readNumber_114 dX3_readNumber_115 (by decide) (fun c27 => ?_) (fun c27 => ?_)
              · have hf := tp hf c27
                refine lv_aload_n hx hb dX3_readNumber_126 rfl (lv_at hl 0 rfl) ?_
                refine lv_bipush (v := (-3 : Int32)) hx hb dX3_readNumber_127 (by decide) ?_
                refine lv_iload_n hx hb dX3_readNumber_129 rfl (lv_at hl 3 rfl) ?_
                obtain ⟨q28, e29, hf⟩ := tbd hf
                refine kVv1 (As := [.int (-3 : Int32), .int x3]) (rest := []) hC (c_X3_fail (G := G) e29) kq3_53 kc_X3_fail (by decide) 0 (ci := 1) rfl rfl hP hK hD hE hS hA hl.1 (Nat.le_of_ble_eq_true rfl) ⟨Nat.zero_le _, Nat.zero_le _⟩ dX3_readNumber_130 (fun u9 H locs hw hP hD hS => ?_)
                obtain rfl := hw
                have hP : va_P (gD G) vwCl (wX3 G h0 a0 q28) H := hP
                have hD : va_D A (wX3 G h0 a0 q28) := hD
                refine lv_iconst (v := (0 : Int32)) hx hb dX3_readNumber_133 (by decide) ?_
                have hf := Option.some.inj hf
                subst hf
                exact e_i (wf := (fun v : Ob => (wX3 G h0 a0 v))) hx hb hr hlk q28 ⟨rfl, rfl⟩ hP hK hD hS dX3_readNumber_134
              · have hf := tn hf c27
                refine lv_lload hx hb dX3_readNumber_118 (lv_at hl 4 rfl) ?_
                refine lv_iload_n hx hb dX3_readNumber_120 rfl (lv_at hl 2 rfl) ?_
                refine lv_i2l (v := x2.toInt64) hx hb dX3_readNumber_121 rfl ?_
                refine lc_le (tgt := 135) hx hb dX3_readNumber_122 dX3_readNumber_123 (by decide) (fun c30 => ?_) (fun c30 => ?_)
                · have hf := tp hf c30
                  refine lv_lload hx hb dX3_readNumber_135 (lv_at hl 4 rfl) ?_
                  refine lv_l2i (v := x4.toInt32) hx hb dX3_readNumber_137 rfl ?_
                  have hf := Option.some.inj hf
                  subst hf
                  exact e_i (wf := (fun v : Ob => (wX3 G h0 a0 v))) hx hb hr hlk u0 ⟨rfl, rfl⟩ hP hK hD hS dX3_readNumber_138
                · have hf := tn hf c30
                  refine lv_aload_n hx hb dX3_readNumber_126 rfl (lv_at hl 0 rfl) ?_
                  refine lv_bipush (v := (-3 : Int32)) hx hb dX3_readNumber_127 (by decide) ?_
                  refine lv_iload_n hx hb dX3_readNumber_129 rfl (lv_at hl 3 rfl) ?_
                  obtain ⟨q31, e32, hf⟩ := tbd hf
                  refine kVv1 (As := [.int (-3 : Int32), .int x3]) (rest := []) hC (c_X3_fail (G := G) e32) kq3_53 kc_X3_fail (by decide) 0 (ci := 1) rfl rfl hP hK hD hE hS hA hl.1 (Nat.le_of_ble_eq_true rfl) ⟨Nat.zero_le _, Nat.zero_le _⟩ dX3_readNumber_130 (fun u9 H locs hw hP hD hS => ?_)
                  obtain rfl := hw
                  have hP : va_P (gD G) vwCl (wX3 G h0 a0 q31) H := hP
                  have hD : va_D A (wX3 G h0 a0 q31) := hD
                  refine lv_iconst (v := (0 : Int32)) hx hb dX3_readNumber_133 (by decide) ?_
                  have hf := Option.some.inj hf
                  subst hf
                  exact e_i (wf := (fun v : Ob => (wX3 G h0 a0 v))) hx hb hr hlk q31 ⟨rfl, rfl⟩ hP hK hD hS dX3_readNumber_134
            · have hf := tp hf c26
              refine lv_aload_n hx hb dX3_readNumber_101 rfl (lv_at hl 0 rfl) ?_
              refine lv_bipush (v := (-2 : Int32)) hx hb dX3_readNumber_102 (by decide) ?_
              refine lv_iload_n hx hb dX3_readNumber_104 rfl (lv_at hl 3 rfl) ?_
              obtain ⟨q33, e34, hf⟩ := tbd hf
              refine kVv1 (As := [.int (-2 : Int32), .int x3]) (rest := []) hC (c_X3_fail (G := G) e34) kq3_53 kc_X3_fail (by decide) 0 (ci := 1) rfl rfl hP hK hD hE hS hA hl.1 (Nat.le_of_ble_eq_true rfl) ⟨Nat.zero_le _, Nat.zero_le _⟩ dX3_readNumber_105 (fun u9 H locs hw hP hD hS => ?_)
              obtain rfl := hw
              have hP : va_P (gD G) vwCl (wX3 G h0 a0 q33) H := hP
              have hD : va_D A (wX3 G h0 a0 q33) := hD
              refine lv_iconst (v := (0 : Int32)) hx hb dX3_readNumber_108 (by decide) ?_
              have hf := Option.some.inj hf
              subst hf
              exact e_i (wf := (fun v : Ob => (wX3 G h0 a0 v))) hx hb hr hlk q33 ⟨rfl, rfl⟩ hP hK hD hS dX3_readNumber_109
          · have hf := tn hf c25
            refine lv_ldc2 hx hb hown (hg _ kq3_66) dX3_readNumber_51 ?_
            refine lv_lload hx hb dX3_readNumber_54 (lv_at hl 4 rfl) ?_
            refine lv_lmul hx hb dX3_readNumber_56 ?_
            refine lv_aload_n hx hb dX3_readNumber_57 rfl (lv_at hl 0 rfl) ?_
            refine va_get (D := gD G) (ci := 1) (v := .ref (a0 0)) (C := RX3) (T := TX3) (N := 12) hx hb hg kl_X3 hown hK hP 0 rfl rfl 0 (by decide) (hg _ kq1_132) (fun _ h9 => h9) rfl dX3_readNumber_58 ?_
            refine lv_aload_n hx hb dX3_readNumber_61 rfl (lv_at hl 0 rfl) ?_
            refine va_get (D := gD G) (ci := 1) (v := .int (u0.1 3)) (C := RX3) (T := TX3) (N := 12) hx hb hg kl_X3 hown hK hP 0 rfl rfl 3 (by decide) (hg _ kq1_136) (fun _ h9 => h9) rfl dX3_readNumber_62 ?_
            obtain ⟨b35, hf⟩ := tno hf
            refine va_bald (f := (u0.2.2.1 0)) hx hb hK hP 1 0 rfl rfl b35 dX3_readNumber_65 ?_
            refine lv_i2l (v := ((u0.2.2.1 0) (u0.1 3).toNatClampNeg).toInt64) hx hb dX3_readNumber_66 rfl ?_
            refine lv_ladd hx hb dX3_readNumber_67 ?_
            refine lv_ldc2 hx hb hown (hg _ kq3_67) dX3_readNumber_68 ?_
            refine lv_lsub hx hb dX3_readNumber_71 ?_
            refine lv_ldc2 hx hb hown (hg _ kq3_68) dX3_readNumber_72 ?_
            refine va_mmin_long hx hb (hml.trans hl.1.symm) hown (hg _ kq3_69) (hg _ kq3_70) (hg _ kq1_12) (hg _ kq3_71) (Nat.le_of_ble_eq_true rfl) (Nat.le_of_ble_eq_true rfl) (Nat.zero_le _) (Nat.zero_le _) (x := ((((10 : Int64) * x4) + ((u0.2.2.1 0) (u0.1 3).toNatClampNeg).toInt64) - (48 : Int64))) (y := (10000000000 : Int64)) dX3_readNumber_75 ?_
            refine lv_lstore (lv' := [(4, .long (if (10000000000 : Int64) < ((((10 : Int64) * x4) + ((u0.2.2.1 0) (u0.1 3).toNatClampNeg).toInt64) - (48 : Int64)) then (10000000000 : Int64) else ((((10 : Int64) * x4) + ((u0.2.2.1 0) (u0.1 3).toNatClampNeg).toInt64) - (48 : Int64)))), (0, .ref h0), (1, .int x1), (2, .int x2), (3, .int x3)]) hx hb dX3_readNumber_78 hl (by decide) rfl (fun ls hl => ?_)
            refine lv_aload_n hx hb dX3_readNumber_80 rfl (lv_at hl 1 rfl) ?_
            refine lv_dup hx hb dX3_readNumber_81 rfl ?_
            refine va_get (D := gD G) (ci := 1) (v := .int (u0.1 3)) (C := RX3) (T := TX3) (N := 12) hx hb hg kl_X3 hown hK hP 0 rfl rfl 3 (by decide) (hg _ kq1_136) (fun _ h9 => h9) rfl dX3_readNumber_82 ?_
            refine lv_iconst (v := (1 : Int32)) hx hb dX3_readNumber_85 (by decide) ?_
            refine lv_iadd hx hb dX3_readNumber_86 ?_
            refine va_put (D := gD G) (ci := 1) (v := .int ((u0.1 3) + (1 : Int32))) (ty := .int) (C := RX3) (T := TX3) (N := 12) hx hb hg kl_X3 tyX3 tyX3_ok nmX3 hown hK hP hD hS 0 rfl rfl 3 (by decide) (hg _ kq1_136) (fun _ h9 => h9) rfl (by decide +kernel) rfl rfl (Nat.le_of_ble_eq_true rfl) dX3_readNumber_87 (fun H locs hP hD hS => ?_)
            have hP : va_P (gD G) vwCl (wX3 G h0 a0 (oi u0 3 ((u0.1 3) + (1 : Int32)))) H := hP
            have hD : va_D A (wX3 G h0 a0 (oi u0 3 ((u0.1 3) + (1 : Int32)))) := hD
            refine lv_goto (tgt := 12) hx hb dX3_readNumber_90 (by decide) ?_
            exact ih _ _ _ hf _ _ _ hP hD hS (lv_sub hl [1, 2, 3, 4, 0] rfl)
  rw [f_X3_readNumber] at hf
  refine lv_aload_n hx hb dX3_readNumber_0 rfl (lv_at hl 0 rfl) ?_
  obtain ⟨q1, e2, hf⟩ := tbd hf
  refine kVv1 (As := []) (rest := []) hC (c_X3_skipSpaces (G := G) e2) kq2_218 kc_X3_skipSpaces (by decide) 0 (ci := 1) rfl rfl hP hK hD hE hS hA hl.1 (Nat.le_of_ble_eq_true rfl) ⟨Nat.zero_le _, Nat.zero_le _⟩ dX3_readNumber_1 (fun u9 H locs hw hP hD hS => ?_)
  obtain rfl := hw
  have hP : va_P (gD G) vwCl (wX3 G h0 a0 q1) H := hP
  have hD : va_D A (wX3 G h0 a0 q1) := hD
  refine lv_aload_n hx hb dX3_readNumber_4 rfl (lv_at hl 0 rfl) ?_
  refine va_get (D := gD G) (ci := 1) (v := .int (q1.1 3)) (C := RX3) (T := TX3) (N := 12) hx hb hg kl_X3 hown hK hP 0 rfl rfl 3 (by decide) (hg _ kq1_136) (fun _ h9 => h9) rfl dX3_readNumber_5 ?_
  refine lv_istore_n (lv' := [(3, .int (q1.1 3)), (0, .ref h0), (1, .int x1), (2, .int x2)]) hx hb dX3_readNumber_8 rfl hl (by decide) rfl (fun ls hl => ?_)
  refine lv_lconst (v := (0 : Int64)) hx hb dX3_readNumber_9 (by decide) ?_
  refine lv_lstore (lv' := [(4, .long (0 : Int64)), (3, .int (q1.1 3)), (0, .ref h0), (1, .int x1), (2, .int x2)]) hx hb dX3_readNumber_10 hl (by decide) rfl (fun ls hl => ?_)
  exact lp_12 N _ _ _ hf _ _ _ hP hD hS (lv_sub hl [2, 3, 4, 1, 0] rfl)
set_option maxRecDepth 100000 in
set_option maxHeartbeats 4000000 in
theorem c_X3_readPulse {l : Launch} {G : Gp} {sz N : Nat} {x1 : Int32} {h0 : Nat} {a0 : Nat → Nat} {u0 : Ob} {q : Ob} (hf : f_X3_readPulse N x1 u0 = some q) : Met l yX3_readPulse (Cond.code yX3_readPulse cX3_readPulse 2 none :: lw_g) ({ frames := 2, cells := 0, slots := 0, locals := 47 } : Room) (va_Pc [.ref h0, .int x1] (pw G (wX3 G h0 a0 u0) sz)) (va_Qv (fun v : Ob => q = v) (bw G (fun v : Ob => (wX3 G h0 a0 v)) (va_A (wX3 G h0 a0 u0) sz)) (va_A (wX3 G h0 a0 u0) sz)) 0 0 (va_A (wX3 G h0 a0 u0) sz) := by
  refine mt (Qc := (fun A => va_Qv (fun v : Ob => q = v) (bw G (fun v : Ob => (wX3 G h0 a0 v)) A) A)) (by decide) (Nat.le_of_ble_eq_true rfl) ?_
  intro p e s m below meth c A ls hx hb hr hlk hml hts hown hA hP hK hD hE hS hl
  have hown : s.vm.findClass RX3 = some m.cls := hown
  have hg : ∀ w ∈ lw_g, w.before ([.ref h0, .int x1] : List Value).toArray s = true := fun w h => hts w (List.mem_cons_of_mem _ h)
  have hC : CallFix p m c cX3_readPulse 2 s ([.ref h0, .int x1] : List Value).toArray (Cond.code yX3_readPulse cX3_readPulse 2 none :: lw_g) RX3 := ⟨hx, hb, hml, hown, hts⟩
  have hl : lv_has ls 2 [(0, .ref h0), (1, .int x1)] := hl
  rw [f_X3_readPulse] at hf
  refine lv_aload_n hx hb dX3_readPulse_0 rfl (lv_at hl 0 rfl) ?_
  refine lv_aload_n hx hb dX3_readPulse_1 rfl (lv_at hl 0 rfl) ?_
  refine lv_iload_n hx hb dX3_readPulse_2 rfl (lv_at hl 1 rfl) ?_
  refine lv_iconst (v := (1 : Int32)) hx hb dX3_readPulse_3 (by decide) ?_
  refine lv_iadd hx hb dX3_readPulse_4 ?_
  refine lv_ldc hx hb hown (hg _ kq3_61) dX3_readPulse_5 ?_
  obtain ⟨q1, e2, hf⟩ := tbd hf
  refine kVi1 (As := [.int (x1 + (1 : Int32)), .int (2000000000 : Int32)]) (rest := [.ref h0]) hC (c_X3_readNumber (G := G) e2) kq3_62 kc_X3_readNumber (by decide) 0 (ci := 1) rfl rfl hP hK hD hE hS hA hl.1 (Nat.le_of_ble_eq_true rfl) ⟨Nat.zero_le _, Nat.zero_le _⟩ dX3_readPulse_7 (fun r9 u9 H locs hw hP hD hS => ?_)
  obtain ⟨rfl, rfl⟩ := hw
  have hP : va_P (gD G) vwCl (wX3 G h0 a0 q1.2) H := hP
  have hD : va_D A (wX3 G h0 a0 q1.2) := hD
  refine va_put (D := gD G) (ci := 1) (v := .int q1.1) (ty := .int) (C := RX3) (T := TX3) (N := 12) hx hb hg kl_X3 tyX3 tyX3_ok nmX3 hown hK hP hD hS 0 rfl rfl 8 (by decide) (hg _ kq1_145) (fun _ h9 => h9) rfl (by decide +kernel) rfl rfl (Nat.le_of_ble_eq_true rfl) dX3_readPulse_10 (fun H locs hP hD hS => ?_)
  have hP : va_P (gD G) vwCl (wX3 G h0 a0 (oi q1.2 8 q1.1)) H := hP
  have hD : va_D A (wX3 G h0 a0 (oi q1.2 8 q1.1)) := hD
  refine lv_aload_n hx hb dX3_readPulse_13 rfl (lv_at hl 0 rfl) ?_
  refine va_get (D := gD G) (ci := 1) (v := .int (q1.2.1 5)) (C := RX3) (T := TX3) (N := 12) hx hb hg kl_X3 hown hK hP 0 rfl rfl 5 (by decide) (hg _ kq1_138) (fun _ h9 => h9) rfl dX3_readPulse_14 ?_
  refine lv_if_ne (tgt := 32) hx hb dX3_readPulse_17 (by decide) (fun c3 => ?_) (fun c3 => ?_)
  · have hf := tn hf c3
    have hf := Option.some.inj hf
    subst hf
    exact e_v (wf := (fun v : Ob => (wX3 G h0 a0 v))) hx hb hr hlk (oi q1.2 8 q1.1) rfl hP hK hD hS dX3_readPulse_32
  · have hf := tp hf c3
    refine lv_aload_n hx hb dX3_readPulse_20 rfl (lv_at hl 0 rfl) ?_
    refine lv_aload_n hx hb dX3_readPulse_21 rfl (lv_at hl 0 rfl) ?_
    refine lv_iconst (v := (0 : Int32)) hx hb dX3_readPulse_22 (by decide) ?_
    refine lv_sipush (v := (9999 : Int32)) hx hb dX3_readPulse_23 (by decide) ?_
    obtain ⟨q4, e5, hf⟩ := tbd hf
    refine kVi1 (As := [.int (0 : Int32), .int (9999 : Int32)]) (rest := [.ref h0]) hC (c_X3_readNumber (G := G) e5) kq3_62 kc_X3_readNumber (by decide) 0 (ci := 1) rfl rfl hP hK hD hE hS hA hl.1 (Nat.le_of_ble_eq_true rfl) ⟨Nat.zero_le _, Nat.zero_le _⟩ dX3_readPulse_26 (fun r9 u9 H locs hw hP hD hS => ?_)
    obtain ⟨rfl, rfl⟩ := hw
    have hP : va_P (gD G) vwCl (wX3 G h0 a0 q4.2) H := hP
    have hD : va_D A (wX3 G h0 a0 q4.2) := hD
    refine va_put (D := gD G) (ci := 1) (v := .int q4.1) (ty := .int) (C := RX3) (T := TX3) (N := 12) hx hb hg kl_X3 tyX3 tyX3_ok nmX3 hown hK hP hD hS 0 rfl rfl 9 (by decide) (hg _ kq1_147) (fun _ h9 => h9) rfl (by decide +kernel) rfl rfl (Nat.le_of_ble_eq_true rfl) dX3_readPulse_29 (fun H locs hP hD hS => ?_)
    have hP : va_P (gD G) vwCl (wX3 G h0 a0 (oi q4.2 9 q4.1)) H := hP
    have hD : va_D A (wX3 G h0 a0 (oi q4.2 9 q4.1)) := hD
    have hf := Option.some.inj hf
    subst hf
    exact e_v (wf := (fun v : Ob => (wX3 G h0 a0 v))) hx hb hr hlk (oi q4.2 9 q4.1) rfl hP hK hD hS dX3_readPulse_32
set_option maxRecDepth 100000 in
set_option maxHeartbeats 4000000 in
theorem c_X3_readHearing {l : Launch} {G : Gp} {sz N : Nat} {x1 : Bool} {h0 : Nat} {a0 : Nat → Nat} {u0 : Ob} {q : Ob} (hf : f_X3_readHearing N x1 u0 = some q) : Met l yX3_readHearing (Cond.code yX3_readHearing cX3_readHearing 3 none :: lw_g) ({ frames := 5, cells := 0, slots := 0, locals := 107 } : Room) (va_Pc [.ref h0, .int (bI x1)] (pw G (wX3 G h0 a0 u0) sz)) (va_Qv (fun v : Ob => q = v) (bw G (fun v : Ob => (wX3 G h0 a0 v)) (va_A (wX3 G h0 a0 u0) sz)) (va_A (wX3 G h0 a0 u0) sz)) 0 0 (va_A (wX3 G h0 a0 u0) sz) := by
  refine mt (Qc := (fun A => va_Qv (fun v : Ob => q = v) (bw G (fun v : Ob => (wX3 G h0 a0 v)) A) A)) (by decide) (Nat.le_of_ble_eq_true rfl) ?_
  intro p e s m below meth c A ls hx hb hr hlk hml hts hown hA hP hK hD hE hS hl
  have hown : s.vm.findClass RX3 = some m.cls := hown
  have hg : ∀ w ∈ lw_g, w.before ([.ref h0, .int (bI x1)] : List Value).toArray s = true := fun w h => hts w (List.mem_cons_of_mem _ h)
  have hC : CallFix p m c cX3_readHearing 3 s ([.ref h0, .int (bI x1)] : List Value).toArray (Cond.code yX3_readHearing cX3_readHearing 3 none :: lw_g) RX3 := ⟨hx, hb, hml, hown, hts⟩
  have hl : lv_has ls 3 [(0, .ref h0), (1, .int (bI x1))] := hl
  have lp_68 : ∀ (n : Nat) (x2 : Int32) (u0 : Ob), l_X3_readHearing_68 N x1 n x2 u0 = some q → ∀ (H : Heap) (locs : List Loc) (ls : Array Slot), va_P (gD G) vwCl (wX3 G h0 a0 u0) H → va_D A (wX3 G h0 a0 u0) → va_S A s.heap H locs → lv_has ls 3 [(0, .ref h0), (1, .int (bI x1)), (2, .int x2)] → W p l e ({ frames := 5, cells := 0, slots := 0, locals := 107 } : Room) s m ([.ref h0, .int (bI x1)] : List Value).toArray below meth c H locs 0 0 (MQ below (va_Qv (fun v : Ob => q = v) (bw G (fun v : Ob => (wX3 G h0 a0 v)) A) A) ([.ref h0, .int (bI x1)] : List Value).toArray s 0 0 A) (F0 m 68 ls []) := by
    intro n
    induction n with
    | zero => intro x2 u0 hf; rw [l_X3_readHearing_68] at hf; cases hf
    | succ n ih =>
      intro x2 u0 hf H locs ls hP hD hS hl
      rw [l_X3_readHearing_68] at hf
      refine lv_iload_n hx hb dX3_readHearing_68 rfl (lv_at hl 2 rfl) ?_
      refine lv_aload_n hx hb dX3_readHearing_69 rfl (lv_at hl 0 rfl) ?_
      refine va_get (D := gD G) (ci := 1) (v := .int (u0.1 2)) (C := RX3) (T := TX3) (N := 12) hx hb hg kl_X3 hown hK hP 0 rfl rfl 2 (by decide) (hg _ kq1_135) (fun _ h9 => h9) rfl dX3_readHearing_70 ?_
      refine lv_icmp_ge (tgt := 121) hx hb dX3_readHearing_73 (by decide) (fun c10 => ?_) (fun c10 => ?_)
      · have hf := tp hf c10
        refine lv_aload_n hx hb dX3_readHearing_121 rfl (lv_at hl 0 rfl) ?_
        refine va_get (D := gD G) (ci := 1) (v := .int (u0.1 3)) (C := RX3) (T := TX3) (N := 12) hx hb hg kl_X3 hown hK hP 0 rfl rfl 3 (by decide) (hg _ kq1_136) (fun _ h9 => h9) rfl dX3_readHearing_122 ?_
        refine lv_aload_n hx hb dX3_readHearing_125 rfl (lv_at hl 0 rfl) ?_
        refine va_get (D := gD G) (ci := 1) (v := .int (u0.1 4)) (C := RX3) (T := TX3) (N := 12) hx hb hg kl_X3 hown hK hP 0 rfl rfl 4 (by decide) (hg _ kq1_137) (fun _ h9 => h9) rfl dX3_readHearing_126 ?_
        refine lv_icmp_le (tgt := 142) hx hb dX3_readHearing_129 (by decide) (fun c11 => ?_) (fun c11 => ?_)
        · have hf := tp hf c11
          have hf := Option.some.inj hf
          subst hf
          exact e_v (wf := (fun v : Ob => (wX3 G h0 a0 v))) hx hb hr hlk u0 rfl hP hK hD hS dX3_readHearing_142
        · have hf := tn hf c11
          refine lv_aload_n hx hb dX3_readHearing_132 rfl (lv_at hl 0 rfl) ?_
          refine lv_bipush (v := (-2 : Int32)) hx hb dX3_readHearing_133 (by decide) ?_
          refine lv_aload_n hx hb dX3_readHearing_135 rfl (lv_at hl 0 rfl) ?_
          refine va_get (D := gD G) (ci := 1) (v := .int (u0.1 4)) (C := RX3) (T := TX3) (N := 12) hx hb hg kl_X3 hown hK hP 0 rfl rfl 4 (by decide) (hg _ kq1_137) (fun _ h9 => h9) rfl dX3_readHearing_136 ?_
          obtain ⟨q12, e13, hf⟩ := tbd hf
          refine kVv1 (As := [.int (-2 : Int32), .int (u0.1 4)]) (rest := []) hC (c_X3_fail (G := G) e13) kq3_53 kc_X3_fail (by decide) 0 (ci := 1) rfl rfl hP hK hD hE hS hA hl.1 (Nat.le_of_ble_eq_true rfl) ⟨Nat.zero_le _, Nat.zero_le _⟩ dX3_readHearing_139 (fun u9 H locs hw hP hD hS => ?_)
          obtain rfl := hw
          have hP : va_P (gD G) vwCl (wX3 G h0 a0 q12) H := hP
          have hD : va_D A (wX3 G h0 a0 q12) := hD
          have hf := Option.some.inj hf
          subst hf
          exact e_v (wf := (fun v : Ob => (wX3 G h0 a0 v))) hx hb hr hlk q12 rfl hP hK hD hS dX3_readHearing_142
      · have hf := tn hf c10
        refine lv_aload_n hx hb dX3_readHearing_76 rfl (lv_at hl 0 rfl) ?_
        refine va_ldcS (q := gE G (10 + 2 * 8)) hx hb hown (hE.2.1 (RX3, 128, "lose", 8) (by decide +kernel)) dX3_readHearing_77 ?_
        obtain ⟨q14, e15, hf⟩ := tbd hf
        refine kVi1 (As := [.ref (gE G (10 + 2 * 8))]) (rest := []) hC (c_X3_wordIs (G := G) (hi := by decide) e15) kq2_235 kc_X3_wordIs (by decide) 0 (ci := 1) rfl rfl hP hK hD hE hS hA hl.1 (Nat.le_of_ble_eq_true rfl) ⟨Nat.zero_le _, Nat.zero_le _⟩ dX3_readHearing_79 (fun r9 u9 H locs hw hP hD hS => ?_)
        obtain ⟨rfl, rfl⟩ := hw
        have hP : va_P (gD G) vwCl (wX3 G h0 a0 q14.2) H := hP
        have hD : va_D A (wX3 G h0 a0 q14.2) := hD
        refine bz_eq (tgt := 121) hx hb dX3_readHearing_82 (by decide) (fun c16 => ?_) (fun c16 => ?_)
        · have hf := tn hf c16
          refine lv_aload_n hx hb dX3_readHearing_121 rfl (lv_at hl 0 rfl) ?_
          refine va_get (D := gD G) (ci := 1) (v := .int (q14.2.1 3)) (C := RX3) (T := TX3) (N := 12) hx hb hg kl_X3 hown hK hP 0 rfl rfl 3 (by decide) (hg _ kq1_136) (fun _ h9 => h9) rfl dX3_readHearing_122 ?_
          refine lv_aload_n hx hb dX3_readHearing_125 rfl (lv_at hl 0 rfl) ?_
          refine va_get (D := gD G) (ci := 1) (v := .int (q14.2.1 4)) (C := RX3) (T := TX3) (N := 12) hx hb hg kl_X3 hown hK hP 0 rfl rfl 4 (by decide) (hg _ kq1_137) (fun _ h9 => h9) rfl dX3_readHearing_126 ?_
          refine lv_icmp_le (tgt := 142) hx hb dX3_readHearing_129 (by decide) (fun c17 => ?_) (fun c17 => ?_)
          · have hf := tp hf c17
            have hf := Option.some.inj hf
            subst hf
            exact e_v (wf := (fun v : Ob => (wX3 G h0 a0 v))) hx hb hr hlk q14.2 rfl hP hK hD hS dX3_readHearing_142
          · have hf := tn hf c17
            refine lv_aload_n hx hb dX3_readHearing_132 rfl (lv_at hl 0 rfl) ?_
            refine lv_bipush (v := (-2 : Int32)) hx hb dX3_readHearing_133 (by decide) ?_
            refine lv_aload_n hx hb dX3_readHearing_135 rfl (lv_at hl 0 rfl) ?_
            refine va_get (D := gD G) (ci := 1) (v := .int (q14.2.1 4)) (C := RX3) (T := TX3) (N := 12) hx hb hg kl_X3 hown hK hP 0 rfl rfl 4 (by decide) (hg _ kq1_137) (fun _ h9 => h9) rfl dX3_readHearing_136 ?_
            obtain ⟨q18, e19, hf⟩ := tbd hf
            refine kVv1 (As := [.int (-2 : Int32), .int (q14.2.1 4)]) (rest := []) hC (c_X3_fail (G := G) e19) kq3_53 kc_X3_fail (by decide) 0 (ci := 1) rfl rfl hP hK hD hE hS hA hl.1 (Nat.le_of_ble_eq_true rfl) ⟨Nat.zero_le _, Nat.zero_le _⟩ dX3_readHearing_139 (fun u9 H locs hw hP hD hS => ?_)
            obtain rfl := hw
            have hP : va_P (gD G) vwCl (wX3 G h0 a0 q18) H := hP
            have hD : va_D A (wX3 G h0 a0 q18) := hD
            have hf := Option.some.inj hf
            subst hf
            exact e_v (wf := (fun v : Ob => (wX3 G h0 a0 v))) hx hb hr hlk q18 rfl hP hK hD hS dX3_readHearing_142
        · have hf := tp hf c16
          refine lv_aload_n hx hb dX3_readHearing_85 rfl (lv_at hl 0 rfl) ?_
          refine lv_dup hx hb dX3_readHearing_86 rfl ?_
          refine va_get (D := gD G) (ci := 1) (v := .long (q14.2.2.1 11)) (C := RX3) (T := TX3) (N := 12) hx hb hg kl_X3 hown hK hP 0 rfl rfl 11 (by decide) (hg _ kq1_151) (fun _ h9 => h9) rfl dX3_readHearing_87 ?_
          refine lv_lconst (v := (1 : Int64)) hx hb dX3_readHearing_90 (by decide) ?_
          refine lv_aload_n hx hb dX3_readHearing_91 rfl (lv_at hl 0 rfl) ?_
          refine lv_iconst (v := (0 : Int32)) hx hb dX3_readHearing_92 (by decide) ?_
          refine lv_bipush (v := (58 : Int32)) hx hb dX3_readHearing_93 (by decide) ?_
          obtain ⟨q20, e21, hf⟩ := tbd hf
          refine kVi1 (As := [.int (0 : Int32), .int (58 : Int32)]) (rest := [.long (1 : Int64), .long (q14.2.2.1 11), .ref h0]) hC (c_X3_readNumber (G := G) e21) kq3_62 kc_X3_readNumber (by decide) 0 (ci := 1) rfl rfl hP hK hD hE hS hA hl.1 (Nat.le_of_ble_eq_true rfl) ⟨Nat.zero_le _, Nat.zero_le _⟩ dX3_readHearing_95 (fun r9 u9 H locs hw hP hD hS => ?_)
          obtain ⟨rfl, rfl⟩ := hw
          have hP : va_P (gD G) vwCl (wX3 G h0 a0 q20.2) H := hP
          have hD : va_D A (wX3 G h0 a0 q20.2) := hD
          refine lv_lshl (v := (jshl (1 : Int64) q20.1)) hx hb dX3_readHearing_98 rfl ?_
          refine lv_lor hx hb dX3_readHearing_99 ?_
          refine va_put (D := gD G) (ci := 1) (v := .long ((q14.2.2.1 11) ||| (jshl (1 : Int64) q20.1))) (ty := .long) (C := RX3) (T := TX3) (N := 12) hx hb hg kl_X3 tyX3 tyX3_ok nmX3 hown hK hP hD hS 0 rfl rfl 11 (by decide) (hg _ kq1_151) (fun _ h9 => h9) rfl (by decide +kernel) rfl rfl (Nat.le_of_ble_eq_true rfl) dX3_readHearing_100 (fun H locs hP hD hS => ?_)
          have hP : va_P (gD G) vwCl (wX3 G h0 a0 (ol q20.2 11 ((q14.2.2.1 11) ||| (jshl (1 : Int64) q20.1)))) H := hP
          have hD : va_D A (wX3 G h0 a0 (ol q20.2 11 ((q14.2.2.1 11) ||| (jshl (1 : Int64) q20.1)))) := hD
          refine lv_aload_n hx hb dX3_readHearing_103 rfl (lv_at hl 0 rfl) ?_
          refine va_get (D := gD G) (ci := 1) (v := .int (q20.2.1 5)) (C := RX3) (T := TX3) (N := 12) hx hb hg kl_X3 hown hK hP 0 rfl rfl 5 (by decide) (hg _ kq1_138) (fun _ h9 => h9) rfl dX3_readHearing_104 ?_
          refine lv_if_eq (tgt := 111) hx hb dX3_readHearing_107 (by decide) (fun c22 => ?_) (fun c22 => ?_)
          · have hf := tp hf c22
            refine lv_aload_n hx hb dX3_readHearing_111 rfl (lv_at hl 0 rfl) ?_
            obtain ⟨q23, e24, hf⟩ := tbd hf
            refine kVv1 (As := []) (rest := []) hC (c_X3_readWord (G := G) e24) kq2_226 kc_X3_readWord (by decide) 0 (ci := 1) rfl rfl hP hK hD hE hS hA hl.1 (Nat.le_of_ble_eq_true rfl) ⟨Nat.zero_le _, Nat.zero_le _⟩ dX3_readHearing_112 (fun u9 H locs hw hP hD hS => ?_)
            obtain rfl := hw
            have hP : va_P (gD G) vwCl (wX3 G h0 a0 q23) H := hP
            have hD : va_D A (wX3 G h0 a0 q23) := hD
            refine lv_iinc (v := (x2 + (1 : Int32))) (lv' := [(2, .int (x2 + (1 : Int32))), (0, .ref h0), (1, .int (bI x1))]) hx hb dX3_readHearing_115 hl (k := 2) rfl rfl (by decide) rfl (fun ls hl => ?_)
            refine lv_goto (tgt := 68) hx hb dX3_readHearing_118 (by decide) ?_
            exact ih _ _ hf _ _ _ hP hD hS (lv_sub hl [1, 2, 0] rfl)
          · have hf := tn hf c22
            have hf := Option.some.inj hf
            subst hf
            exact e_v (wf := (fun v : Ob => (wX3 G h0 a0 v))) hx hb hr hlk (ol q20.2 11 ((q14.2.2.1 11) ||| (jshl (1 : Int64) q20.1))) rfl hP hK hD hS dX3_readHearing_110
  rw [f_X3_readHearing] at hf
  refine lv_aload_n hx hb dX3_readHearing_0 rfl (lv_at hl 0 rfl) ?_
  refine lv_iconst (v := (0 : Int32)) hx hb dX3_readHearing_1 (by decide) ?_
  refine va_put (D := gD G) (ci := 1) (v := .int (0 : Int32)) (ty := .boolean) (C := RX3) (T := TX3) (N := 12) hx hb hg kl_X3 tyX3 tyX3_ok nmX3 hown hK hP hD hS 0 rfl rfl 10 (by decide) (hg _ kq1_149) (fun _ h9 => h9) rfl (by decide +kernel) rfl rfl (Nat.le_of_ble_eq_true rfl) dX3_readHearing_2 (fun H locs hP hD hS => ?_)
  have hP : va_P (gD G) vwCl (wX3 G h0 a0 (oi u0 10 (0 : Int32))) H := hP
  have hD : va_D A (wX3 G h0 a0 (oi u0 10 (0 : Int32))) := hD
  refine lv_aload_n hx hb dX3_readHearing_5 rfl (lv_at hl 0 rfl) ?_
  refine lv_lconst (v := (0 : Int64)) hx hb dX3_readHearing_6 (by decide) ?_
  refine va_put (D := gD G) (ci := 1) (v := .long (0 : Int64)) (ty := .long) (C := RX3) (T := TX3) (N := 12) hx hb hg kl_X3 tyX3 tyX3_ok nmX3 hown hK hP hD hS 0 rfl rfl 11 (by decide) (hg _ kq1_151) (fun _ h9 => h9) rfl (by decide +kernel) rfl rfl (Nat.le_of_ble_eq_true rfl) dX3_readHearing_7 (fun H locs hP hD hS => ?_)
  have hP : va_P (gD G) vwCl (wX3 G h0 a0 (ol (oi u0 10 (0 : Int32)) 11 (0 : Int64))) H := hP
  have hD : va_D A (wX3 G h0 a0 (ol (oi u0 10 (0 : Int32)) 11 (0 : Int64))) := hD
  refine lv_iload_n hx hb dX3_readHearing_10 rfl (lv_at hl 1 rfl) ?_
  refine bz_ne (tgt := 25) hx hb dX3_readHearing_11 (by decide) (fun c1 => ?_) (fun c1 => ?_)
  · have hf := tp hf c1
    refine lv_aload_n hx hb dX3_readHearing_25 rfl (lv_at hl 0 rfl) ?_
    refine lv_aload_n hx hb dX3_readHearing_26 rfl (lv_at hl 0 rfl) ?_
    refine lv_iconst (v := (0 : Int32)) hx hb dX3_readHearing_27 (by decide) ?_
    refine lv_ldc hx hb hown (hg _ kq3_86) dX3_readHearing_28 ?_
    obtain ⟨q2, e3, hf⟩ := tbd hf
    refine kVi1 (As := [.int (0 : Int32), .int (52595999 : Int32)]) (rest := [.ref h0]) hC (c_X3_readNumber (G := G) e3) kq3_62 kc_X3_readNumber (by decide) 0 (ci := 1) rfl rfl hP hK hD hE hS hA hl.1 (Nat.le_of_ble_eq_true rfl) ⟨Nat.zero_le _, Nat.zero_le _⟩ dX3_readHearing_30 (fun r9 u9 H locs hw hP hD hS => ?_)
    obtain ⟨rfl, rfl⟩ := hw
    have hP : va_P (gD G) vwCl (wX3 G h0 a0 q2.2) H := hP
    have hD : va_D A (wX3 G h0 a0 q2.2) := hD
    refine va_put (D := gD G) (ci := 1) (v := .int q2.1) (ty := .int) (C := RX3) (T := TX3) (N := 12) hx hb hg kl_X3 tyX3 tyX3_ok nmX3 hown hK hP hD hS 0 rfl rfl 8 (by decide) (hg _ kq1_145) (fun _ h9 => h9) rfl (by decide +kernel) rfl rfl (Nat.le_of_ble_eq_true rfl) dX3_readHearing_33 (fun H locs hP hD hS => ?_)
    have hP : va_P (gD G) vwCl (wX3 G h0 a0 (oi q2.2 8 q2.1)) H := hP
    have hD : va_D A (wX3 G h0 a0 (oi q2.2 8 q2.1)) := hD
    refine lv_aload_n hx hb dX3_readHearing_36 rfl (lv_at hl 0 rfl) ?_
    refine va_get (D := gD G) (ci := 1) (v := .int (q2.2.1 5)) (C := RX3) (T := TX3) (N := 12) hx hb hg kl_X3 hown hK hP 0 rfl rfl 5 (by decide) (hg _ kq1_138) (fun _ h9 => h9) rfl dX3_readHearing_37 ?_
    refine lv_if_eq (tgt := 44) hx hb dX3_readHearing_40 (by decide) (fun c4 => ?_) (fun c4 => ?_)
    · have hf := tp hf c4
      refine lv_aload_n hx hb dX3_readHearing_44 rfl (lv_at hl 0 rfl) ?_
      obtain ⟨q5, e6, hf⟩ := tbd hf
      refine kVv1 (As := []) (rest := []) hC (c_X3_readWord (G := G) e6) kq2_226 kc_X3_readWord (by decide) 0 (ci := 1) rfl rfl hP hK hD hE hS hA hl.1 (Nat.le_of_ble_eq_true rfl) ⟨Nat.zero_le _, Nat.zero_le _⟩ dX3_readHearing_45 (fun u9 H locs hw hP hD hS => ?_)
      obtain rfl := hw
      have hP : va_P (gD G) vwCl (wX3 G h0 a0 q5) H := hP
      have hD : va_D A (wX3 G h0 a0 q5) := hD
      refine lv_aload_n hx hb dX3_readHearing_48 rfl (lv_at hl 0 rfl) ?_
      refine va_ldcS (q := gE G (10 + 2 * 7)) hx hb hown (hE.2.1 (RX3, 127, "leap", 7) (by decide +kernel)) dX3_readHearing_49 ?_
      obtain ⟨q7, e8, hf⟩ := tbd hf
      refine kVi1 (As := [.ref (gE G (10 + 2 * 7))]) (rest := []) hC (c_X3_wordIs (G := G) (hi := by decide) e8) kq2_235 kc_X3_wordIs (by decide) 0 (ci := 1) rfl rfl hP hK hD hE hS hA hl.1 (Nat.le_of_ble_eq_true rfl) ⟨Nat.zero_le _, Nat.zero_le _⟩ dX3_readHearing_51 (fun r9 u9 H locs hw hP hD hS => ?_)
      obtain ⟨rfl, rfl⟩ := hw
      have hP : va_P (gD G) vwCl (wX3 G h0 a0 q7.2) H := hP
      have hD : va_D A (wX3 G h0 a0 q7.2) := hD
      refine bz_eq (tgt := 66) hx hb dX3_readHearing_54 (by decide) (fun c9 => ?_) (fun c9 => ?_)
      · have hf := tn hf c9
        refine lv_iconst (v := (0 : Int32)) hx hb dX3_readHearing_66 (by decide) ?_
        refine lv_istore_n (lv' := [(2, .int (0 : Int32)), (0, .ref h0), (1, .int (bI x1))]) hx hb dX3_readHearing_67 rfl hl (by decide) rfl (fun ls hl => ?_)
        exact lp_68 N _ _ hf _ _ _ hP hD hS (lv_sub hl [1, 2, 0] rfl)
      · have hf := tp hf c9
        refine lv_aload_n hx hb dX3_readHearing_57 rfl (lv_at hl 0 rfl) ?_
        refine lv_iconst (v := (1 : Int32)) hx hb dX3_readHearing_58 (by decide) ?_
        refine va_put (D := gD G) (ci := 1) (v := .int (1 : Int32)) (ty := .boolean) (C := RX3) (T := TX3) (N := 12) hx hb hg kl_X3 tyX3 tyX3_ok nmX3 hown hK hP hD hS 0 rfl rfl 10 (by decide) (hg _ kq1_149) (fun _ h9 => h9) rfl (by decide +kernel) rfl rfl (Nat.le_of_ble_eq_true rfl) dX3_readHearing_59 (fun H locs hP hD hS => ?_)
        have hP : va_P (gD G) vwCl (wX3 G h0 a0 (oi q7.2 10 (1 : Int32))) H := hP
        have hD : va_D A (wX3 G h0 a0 (oi q7.2 10 (1 : Int32))) := hD
        refine lv_aload_n hx hb dX3_readHearing_62 rfl (lv_at hl 0 rfl) ?_
        obtain ⟨q25, e26, hf⟩ := tbd hf
        refine kVv1 (As := []) (rest := []) hC (c_X3_readWord (G := G) e26) kq2_226 kc_X3_readWord (by decide) 0 (ci := 1) rfl rfl hP hK hD hE hS hA hl.1 (Nat.le_of_ble_eq_true rfl) ⟨Nat.zero_le _, Nat.zero_le _⟩ dX3_readHearing_63 (fun u9 H locs hw hP hD hS => ?_)
        obtain rfl := hw
        have hP : va_P (gD G) vwCl (wX3 G h0 a0 q25) H := hP
        have hD : va_D A (wX3 G h0 a0 q25) := hD
        refine lv_iconst (v := (0 : Int32)) hx hb dX3_readHearing_66 (by decide) ?_
        refine lv_istore_n (lv' := [(2, .int (0 : Int32)), (0, .ref h0), (1, .int (bI x1))]) hx hb dX3_readHearing_67 rfl hl (by decide) rfl (fun ls hl => ?_)
        exact lp_68 N _ _ hf _ _ _ hP hD hS (lv_sub hl [1, 2, 0] rfl)
    · have hf := tn hf c4
      have hf := Option.some.inj hf
      subst hf
      exact e_v (wf := (fun v : Ob => (wX3 G h0 a0 v))) hx hb hr hlk (oi q2.2 8 q2.1) rfl hP hK hD hS dX3_readHearing_43
  · have hf := tn hf c1
    refine lv_aload_n hx hb dX3_readHearing_14 rfl (lv_at hl 0 rfl) ?_
    refine lv_bipush (v := (-3 : Int32)) hx hb dX3_readHearing_15 (by decide) ?_
    refine lv_aload_n hx hb dX3_readHearing_17 rfl (lv_at hl 0 rfl) ?_
    refine va_get (D := gD G) (ci := 1) (v := .int (u0.1 4)) (C := RX3) (T := TX3) (N := 12) hx hb hg kl_X3 hown hK hP 0 rfl rfl 4 (by decide) (hg _ kq1_137) (fun _ h9 => h9) rfl dX3_readHearing_18 ?_
    obtain ⟨q27, e28, hf⟩ := tbd hf
    refine kVv1 (As := [.int (-3 : Int32), .int (u0.1 4)]) (rest := []) hC (c_X3_fail (G := G) e28) kq3_53 kc_X3_fail (by decide) 0 (ci := 1) rfl rfl hP hK hD hE hS hA hl.1 (Nat.le_of_ble_eq_true rfl) ⟨Nat.zero_le _, Nat.zero_le _⟩ dX3_readHearing_21 (fun u9 H locs hw hP hD hS => ?_)
    obtain rfl := hw
    have hP : va_P (gD G) vwCl (wX3 G h0 a0 q27) H := hP
    have hD : va_D A (wX3 G h0 a0 q27) := hD
    have hf := Option.some.inj hf
    subst hf
    exact e_v (wf := (fun v : Ob => (wX3 G h0 a0 v))) hx hb hr hlk q27 rfl hP hK hD hS dX3_readHearing_24
set_option maxRecDepth 100000 in
set_option maxHeartbeats 4000000 in
theorem c_X3_readSign {l : Launch} {G : Gp} {sz N : Nat} {x1 : Int32} {h0 : Nat} {a0 : Nat → Nat} {u0 : Ob} {q : Bool × Ob} (hf : f_X3_readSign N x1 u0 = some q) : Met l yX3_readSign (Cond.code yX3_readSign cX3_readSign 2 (some .boolean) :: lw_g) ({ frames := 1, cells := 0, slots := 0, locals := 20 } : Room) (va_Pc [.ref h0, .int x1] (pw G (wX3 G h0 a0 u0) sz)) (va_Qi (fun (r : Int32) (v : Ob) => bI q.1 = r ∧ q.2 = v) (bw G (fun v : Ob => (wX3 G h0 a0 v)) (va_A (wX3 G h0 a0 u0) sz)) (va_A (wX3 G h0 a0 u0) sz)) 0 0 (va_A (wX3 G h0 a0 u0) sz) := by
  refine mt (Qc := (fun A => va_Qi (fun (r : Int32) (v : Ob) => bI q.1 = r ∧ q.2 = v) (bw G (fun v : Ob => (wX3 G h0 a0 v)) A) A)) (by decide) (Nat.le_of_ble_eq_true rfl) ?_
  intro p e s m below meth c A ls hx hb hr hlk hml hts hown hA hP hK hD hE hS hl
  have hown : s.vm.findClass RX3 = some m.cls := hown
  have hg : ∀ w ∈ lw_g, w.before ([.ref h0, .int x1] : List Value).toArray s = true := fun w h => hts w (List.mem_cons_of_mem _ h)
  have hC : CallFix p m c cX3_readSign 2 s ([.ref h0, .int x1] : List Value).toArray (Cond.code yX3_readSign cX3_readSign 2 (some .boolean) :: lw_g) RX3 := ⟨hx, hb, hml, hown, hts⟩
  have hl : lv_has ls 2 [(0, .ref h0), (1, .int x1)] := hl
  rw [f_X3_readSign] at hf
  refine lv_aload_n hx hb dX3_readSign_0 rfl (lv_at hl 0 rfl) ?_
  obtain ⟨q1, e2, hf⟩ := tbd hf
  refine kVv1 (As := []) (rest := []) hC (c_X3_skipSpaces (G := G) e2) kq2_218 kc_X3_skipSpaces (by decide) 0 (ci := 1) rfl rfl hP hK hD hE hS hA hl.1 (Nat.le_of_ble_eq_true rfl) ⟨Nat.zero_le _, Nat.zero_le _⟩ dX3_readSign_1 (fun u9 H locs hw hP hD hS => ?_)
  obtain rfl := hw
  have hP : va_P (gD G) vwCl (wX3 G h0 a0 q1) H := hP
  have hD : va_D A (wX3 G h0 a0 q1) := hD
  refine lv_aload_n hx hb dX3_readSign_4 rfl (lv_at hl 0 rfl) ?_
  refine va_get (D := gD G) (ci := 1) (v := .int (q1.1 3)) (C := RX3) (T := TX3) (N := 12) hx hb hg kl_X3 hown hK hP 0 rfl rfl 3 (by decide) (hg _ kq1_136) (fun _ h9 => h9) rfl dX3_readSign_5 ?_
  refine lv_aload_n hx hb dX3_readSign_8 rfl (lv_at hl 0 rfl) ?_
  refine va_get (D := gD G) (ci := 1) (v := .int (q1.1 2)) (C := RX3) (T := TX3) (N := 12) hx hb hg kl_X3 hown hK hP 0 rfl rfl 2 (by decide) (hg _ kq1_135) (fun _ h9 => h9) rfl dX3_readSign_9 ?_
  refine lv_icmp_ge (tgt := 40) hx hb dX3_readSign_12 (by decide) (fun c3 => ?_) (fun c3 => ?_)
  · have hf := tp hf c3
    refine lv_iconst (v := (0 : Int32)) hx hb dX3_readSign_40 (by decide) ?_
    have hf := Option.some.inj hf
    subst hf
    exact e_z (wf := (fun v : Ob => (wX3 G h0 a0 v))) hx hb hr hlk q1 rfl ⟨rfl, rfl⟩ hP hK hD hS dX3_readSign_41
  · have hf := tn hf c3
    refine lv_aload_n hx hb dX3_readSign_15 rfl (lv_at hl 0 rfl) ?_
    refine va_get (D := gD G) (ci := 1) (v := .ref (a0 0)) (C := RX3) (T := TX3) (N := 12) hx hb hg kl_X3 hown hK hP 0 rfl rfl 0 (by decide) (hg _ kq1_132) (fun _ h9 => h9) rfl dX3_readSign_16 ?_
    refine lv_aload_n hx hb dX3_readSign_19 rfl (lv_at hl 0 rfl) ?_
    refine va_get (D := gD G) (ci := 1) (v := .int (q1.1 3)) (C := RX3) (T := TX3) (N := 12) hx hb hg kl_X3 hown hK hP 0 rfl rfl 3 (by decide) (hg _ kq1_136) (fun _ h9 => h9) rfl dX3_readSign_20 ?_
    obtain ⟨b4, hf⟩ := tno hf
    refine va_bald (f := (q1.2.2.1 0)) hx hb hK hP 1 0 rfl rfl b4 dX3_readSign_23 ?_
    refine lv_iload_n hx hb dX3_readSign_24 rfl (lv_at hl 1 rfl) ?_
    refine lv_icmp_ne (tgt := 40) hx hb dX3_readSign_25 (by decide) (fun c5 => ?_) (fun c5 => ?_)
    · have hf := tn hf c5
      refine lv_iconst (v := (0 : Int32)) hx hb dX3_readSign_40 (by decide) ?_
      have hf := Option.some.inj hf
      subst hf
      exact e_z (wf := (fun v : Ob => (wX3 G h0 a0 v))) hx hb hr hlk q1 rfl ⟨rfl, rfl⟩ hP hK hD hS dX3_readSign_41
    · have hf := tp hf c5
      refine lv_aload_n hx hb dX3_readSign_28 rfl (lv_at hl 0 rfl) ?_
      refine lv_dup hx hb dX3_readSign_29 rfl ?_
      refine va_get (D := gD G) (ci := 1) (v := .int (q1.1 3)) (C := RX3) (T := TX3) (N := 12) hx hb hg kl_X3 hown hK hP 0 rfl rfl 3 (by decide) (hg _ kq1_136) (fun _ h9 => h9) rfl dX3_readSign_30 ?_
      refine lv_iconst (v := (1 : Int32)) hx hb dX3_readSign_33 (by decide) ?_
      refine lv_iadd hx hb dX3_readSign_34 ?_
      refine va_put (D := gD G) (ci := 1) (v := .int ((q1.1 3) + (1 : Int32))) (ty := .int) (C := RX3) (T := TX3) (N := 12) hx hb hg kl_X3 tyX3 tyX3_ok nmX3 hown hK hP hD hS 0 rfl rfl 3 (by decide) (hg _ kq1_136) (fun _ h9 => h9) rfl (by decide +kernel) rfl rfl (Nat.le_of_ble_eq_true rfl) dX3_readSign_35 (fun H locs hP hD hS => ?_)
      have hP : va_P (gD G) vwCl (wX3 G h0 a0 (oi q1 3 ((q1.1 3) + (1 : Int32)))) H := hP
      have hD : va_D A (wX3 G h0 a0 (oi q1 3 ((q1.1 3) + (1 : Int32)))) := hD
      refine lv_iconst (v := (1 : Int32)) hx hb dX3_readSign_38 (by decide) ?_
      have hf := Option.some.inj hf
      subst hf
      exact e_z (wf := (fun v : Ob => (wX3 G h0 a0 v))) hx hb hr hlk (oi q1 3 ((q1.1 3) + (1 : Int32))) rfl ⟨rfl, rfl⟩ hP hK hD hS dX3_readSign_39
set_option maxRecDepth 100000 in
set_option maxHeartbeats 4000000 in
theorem c_X3_readSetting {l : Launch} {G : Gp} {sz N : Nat} {h0 : Nat} {a0 : Nat → Nat} {u0 : Ob} {q : Ob} (hf : f_X3_readSetting N u0 = some q) : Met l yX3_readSetting (Cond.code yX3_readSetting cX3_readSetting 1 none :: lw_g) ({ frames := 2, cells := 0, slots := 0, locals := 47 } : Room) (va_Pc [.ref h0] (pw G (wX3 G h0 a0 u0) sz)) (va_Qv (fun v : Ob => q = v) (bw G (fun v : Ob => (wX3 G h0 a0 v)) (va_A (wX3 G h0 a0 u0) sz)) (va_A (wX3 G h0 a0 u0) sz)) 0 0 (va_A (wX3 G h0 a0 u0) sz) := by
  refine mt (Qc := (fun A => va_Qv (fun v : Ob => q = v) (bw G (fun v : Ob => (wX3 G h0 a0 v)) A) A)) (by decide) (Nat.le_of_ble_eq_true rfl) ?_
  intro p e s m below meth c A ls hx hb hr hlk hml hts hown hA hP hK hD hE hS hl
  have hown : s.vm.findClass RX3 = some m.cls := hown
  have hg : ∀ w ∈ lw_g, w.before ([.ref h0] : List Value).toArray s = true := fun w h => hts w (List.mem_cons_of_mem _ h)
  have hC : CallFix p m c cX3_readSetting 1 s ([.ref h0] : List Value).toArray (Cond.code yX3_readSetting cX3_readSetting 1 none :: lw_g) RX3 := ⟨hx, hb, hml, hown, hts⟩
  have hl : lv_has ls 1 [(0, .ref h0)] := hl
  rw [f_X3_readSetting] at hf
  refine lv_aload_n hx hb dX3_readSetting_0 rfl (lv_at hl 0 rfl) ?_
  refine va_get (D := gD G) (ci := 1) (v := .int (u0.1 7)) (C := RX3) (T := TX3) (N := 12) hx hb hg kl_X3 hown hK hP 0 rfl rfl 7 (by decide) (hg _ kq1_143) (fun _ h9 => h9) rfl dX3_readSetting_1 ?_
  refine lv_iconst (v := (4 : Int32)) hx hb dX3_readSetting_4 (by decide) ?_
  refine lv_icmp_eq (tgt := 35) hx hb dX3_readSetting_5 (by decide) (fun c1 => ?_) (fun c1 => ?_)
  · have hf := tp hf c1
    refine lv_aload_n hx hb dX3_readSetting_35 rfl (lv_at hl 0 rfl) ?_
    refine lv_bipush (v := (45 : Int32)) hx hb dX3_readSetting_36 (by decide) ?_
    obtain ⟨q2, e3, hf⟩ := tbd hf
    refine kVi1 (As := [.int (45 : Int32)]) (rest := []) hC (c_X3_readSign (G := G) e3) kq3_97 kc_X3_readSign (by decide) 0 (ci := 1) rfl rfl hP hK hD hE hS hA hl.1 (Nat.le_of_ble_eq_true rfl) ⟨Nat.zero_le _, Nat.zero_le _⟩ dX3_readSetting_38 (fun r9 u9 H locs hw hP hD hS => ?_)
    obtain ⟨rfl, rfl⟩ := hw
    have hP : va_P (gD G) vwCl (wX3 G h0 a0 q2.2) H := hP
    have hD : va_D A (wX3 G h0 a0 q2.2) := hD
    refine bz_eq (tgt := 63) hx hb dX3_readSetting_41 (by decide) (fun c4 => ?_) (fun c4 => ?_)
    · have hf := tn hf c4
      refine lv_aload_n hx hb dX3_readSetting_63 rfl (lv_at hl 0 rfl) ?_
      refine lv_aload_n hx hb dX3_readSetting_64 rfl (lv_at hl 0 rfl) ?_
      refine lv_iconst (v := (0 : Int32)) hx hb dX3_readSetting_65 (by decide) ?_
      refine va_getsN hx hb (hE.1.2.2.2.2.2.2.2.2.1) hS hown ((hE.2.2.2.2.1 (RX3, 103, "GREATEST_SETTINGS") (by decide +kernel)).use rfl) (fun _ h9 => h9) dX3_readSetting_66 ?_
      refine lv_iconst (v := (4 : Int32)) hx hb dX3_readSetting_69 (by decide) ?_
      refine va_ti hx hb hE.1.2.2.2.2.2.2.2.2.2.1 hS (vin (by decide)) (v := .int (aGr (4 : Int32).toNatClampNeg)) rfl dX3_readSetting_70 ?_
      obtain ⟨q5, e6, hf⟩ := tbd hf
      refine kVi1 (As := [.int (0 : Int32), .int (aGr (4 : Int32).toNatClampNeg)]) (rest := [.ref h0]) hC (c_X3_readNumber (G := G) e6) kq3_62 kc_X3_readNumber (by decide) 0 (ci := 1) rfl rfl hP hK hD hE hS hA hl.1 (Nat.le_of_ble_eq_true rfl) ⟨Nat.zero_le _, Nat.zero_le _⟩ dX3_readSetting_71 (fun r9 u9 H locs hw hP hD hS => ?_)
      obtain ⟨rfl, rfl⟩ := hw
      have hP : va_P (gD G) vwCl (wX3 G h0 a0 q5.2) H := hP
      have hD : va_D A (wX3 G h0 a0 q5.2) := hD
      refine va_put (D := gD G) (ci := 1) (v := .int q5.1) (ty := .int) (C := RX3) (T := TX3) (N := 12) hx hb hg kl_X3 tyX3 tyX3_ok nmX3 hown hK hP hD hS 0 rfl rfl 8 (by decide) (hg _ kq1_145) (fun _ h9 => h9) rfl (by decide +kernel) rfl rfl (Nat.le_of_ble_eq_true rfl) dX3_readSetting_74 (fun H locs hP hD hS => ?_)
      have hP : va_P (gD G) vwCl (wX3 G h0 a0 (oi q5.2 8 q5.1)) H := hP
      have hD : va_D A (wX3 G h0 a0 (oi q5.2 8 q5.1)) := hD
      have hf := Option.some.inj hf
      subst hf
      exact e_v (wf := (fun v : Ob => (wX3 G h0 a0 v))) hx hb hr hlk (oi q5.2 8 q5.1) rfl hP hK hD hS dX3_readSetting_77
    · have hf := tp hf c4
      refine lv_aload_n hx hb dX3_readSetting_44 rfl (lv_at hl 0 rfl) ?_
      refine lv_aload_n hx hb dX3_readSetting_45 rfl (lv_at hl 0 rfl) ?_
      refine lv_iconst (v := (0 : Int32)) hx hb dX3_readSetting_46 (by decide) ?_
      refine va_getsN hx hb (hE.1.2.2.2.2.2.2.1) hS hown ((hE.2.2.2.2.1 (RX3, 99, "LEAST_SETTINGS") (by decide +kernel)).use rfl) (fun _ h9 => h9) dX3_readSetting_47 ?_
      refine lv_iconst (v := (4 : Int32)) hx hb dX3_readSetting_50 (by decide) ?_
      refine va_ti hx hb hE.1.2.2.2.2.2.2.2.1 hS (vin (by decide)) (v := .int (aLe (4 : Int32).toNatClampNeg)) rfl dX3_readSetting_51 ?_
      refine lv_ineg hx hb dX3_readSetting_52 ?_
      obtain ⟨q7, e8, hf⟩ := tbd hf
      refine kVi1 (As := [.int (0 : Int32), .int (-(aLe (4 : Int32).toNatClampNeg))]) (rest := [.ref h0]) hC (c_X3_readNumber (G := G) e8) kq3_62 kc_X3_readNumber (by decide) 0 (ci := 1) rfl rfl hP hK hD hE hS hA hl.1 (Nat.le_of_ble_eq_true rfl) ⟨Nat.zero_le _, Nat.zero_le _⟩ dX3_readSetting_53 (fun r9 u9 H locs hw hP hD hS => ?_)
      obtain ⟨rfl, rfl⟩ := hw
      have hP : va_P (gD G) vwCl (wX3 G h0 a0 q7.2) H := hP
      have hD : va_D A (wX3 G h0 a0 q7.2) := hD
      refine lv_ineg hx hb dX3_readSetting_56 ?_
      refine va_put (D := gD G) (ci := 1) (v := .int (-q7.1)) (ty := .int) (C := RX3) (T := TX3) (N := 12) hx hb hg kl_X3 tyX3 tyX3_ok nmX3 hown hK hP hD hS 0 rfl rfl 8 (by decide) (hg _ kq1_145) (fun _ h9 => h9) rfl (by decide +kernel) rfl rfl (Nat.le_of_ble_eq_true rfl) dX3_readSetting_57 (fun H locs hP hD hS => ?_)
      have hP : va_P (gD G) vwCl (wX3 G h0 a0 (oi q7.2 8 (-q7.1))) H := hP
      have hD : va_D A (wX3 G h0 a0 (oi q7.2 8 (-q7.1))) := hD
      refine lv_goto (tgt := 77) hx hb dX3_readSetting_60 (by decide) ?_
      have hf := Option.some.inj hf
      subst hf
      exact e_v (wf := (fun v : Ob => (wX3 G h0 a0 v))) hx hb hr hlk (oi q7.2 8 (-q7.1)) rfl hP hK hD hS dX3_readSetting_77
  · have hf := tn hf c1
    refine lv_aload_n hx hb dX3_readSetting_8 rfl (lv_at hl 0 rfl) ?_
    refine lv_aload_n hx hb dX3_readSetting_9 rfl (lv_at hl 0 rfl) ?_
    refine va_getsN hx hb (hE.1.2.2.2.2.2.2.1) hS hown ((hE.2.2.2.2.1 (RX3, 99, "LEAST_SETTINGS") (by decide +kernel)).use rfl) (fun _ h9 => h9) dX3_readSetting_10 ?_
    refine lv_aload_n hx hb dX3_readSetting_13 rfl (lv_at hl 0 rfl) ?_
    refine va_get (D := gD G) (ci := 1) (v := .int (u0.1 7)) (C := RX3) (T := TX3) (N := 12) hx hb hg kl_X3 hown hK hP 0 rfl rfl 7 (by decide) (hg _ kq1_143) (fun _ h9 => h9) rfl dX3_readSetting_14 ?_
    obtain ⟨b9, hf⟩ := tno hf
    refine va_ti hx hb hE.1.2.2.2.2.2.2.2.1 hS b9 (v := .int (aLe (u0.1 7).toNatClampNeg)) rfl dX3_readSetting_17 ?_
    refine va_getsN hx hb (hE.1.2.2.2.2.2.2.2.2.1) hS hown ((hE.2.2.2.2.1 (RX3, 103, "GREATEST_SETTINGS") (by decide +kernel)).use rfl) (fun _ h9 => h9) dX3_readSetting_18 ?_
    refine lv_aload_n hx hb dX3_readSetting_21 rfl (lv_at hl 0 rfl) ?_
    refine va_get (D := gD G) (ci := 1) (v := .int (u0.1 7)) (C := RX3) (T := TX3) (N := 12) hx hb hg kl_X3 hown hK hP 0 rfl rfl 7 (by decide) (hg _ kq1_143) (fun _ h9 => h9) rfl dX3_readSetting_22 ?_
    obtain ⟨b10, hf⟩ := tno hf
    refine va_ti hx hb hE.1.2.2.2.2.2.2.2.2.2.1 hS b10 (v := .int (aGr (u0.1 7).toNatClampNeg)) rfl dX3_readSetting_25 ?_
    obtain ⟨q11, e12, hf⟩ := tbd hf
    refine kVi1 (As := [.int (aLe (u0.1 7).toNatClampNeg), .int (aGr (u0.1 7).toNatClampNeg)]) (rest := [.ref h0]) hC (c_X3_readNumber (G := G) e12) kq3_62 kc_X3_readNumber (by decide) 0 (ci := 1) rfl rfl hP hK hD hE hS hA hl.1 (Nat.le_of_ble_eq_true rfl) ⟨Nat.zero_le _, Nat.zero_le _⟩ dX3_readSetting_26 (fun r9 u9 H locs hw hP hD hS => ?_)
    obtain ⟨rfl, rfl⟩ := hw
    have hP : va_P (gD G) vwCl (wX3 G h0 a0 q11.2) H := hP
    have hD : va_D A (wX3 G h0 a0 q11.2) := hD
    refine va_put (D := gD G) (ci := 1) (v := .int q11.1) (ty := .int) (C := RX3) (T := TX3) (N := 12) hx hb hg kl_X3 tyX3 tyX3_ok nmX3 hown hK hP hD hS 0 rfl rfl 8 (by decide) (hg _ kq1_145) (fun _ h9 => h9) rfl (by decide +kernel) rfl rfl (Nat.le_of_ble_eq_true rfl) dX3_readSetting_29 (fun H locs hP hD hS => ?_)
    have hP : va_P (gD G) vwCl (wX3 G h0 a0 (oi q11.2 8 q11.1)) H := hP
    have hD : va_D A (wX3 G h0 a0 (oi q11.2 8 q11.1)) := hD
    refine lv_goto (tgt := 77) hx hb dX3_readSetting_32 (by decide) ?_
    have hf := Option.some.inj hf
    subst hf
    exact e_v (wf := (fun v : Ob => (wX3 G h0 a0 v))) hx hb hr hlk (oi q11.2 8 q11.1) rfl hP hK hD hS dX3_readSetting_77
set_option maxRecDepth 100000 in
set_option maxHeartbeats 4000000 in
theorem c_X3_readStatement {l : Launch} {G : Gp} {sz N : Nat} {h0 : Nat} {a0 : Nat → Nat} {u0 : Ob} {h1 : Nat} {a1 : Nat → Nat} {u1 : Ob} {q : Ob × Ob} (hf : f_X3_readStatement N u0 u1 = some q) : Met l yX3_readStatement (Cond.code yX3_readStatement cX3_readStatement 2 none :: lw_g) ({ frames := 6, cells := 0, slots := 0, locals := 129 } : Room) (va_Pc [.ref h0, .ref h1] (pw G (wX3 G h0 a0 u0 ++ wX4 G h1 a1 u1) sz)) (va_Qv (fun v : Ob × Ob => q = v) (bw G (fun v : Ob × Ob => (wX3 G h0 a0 v.1 ++ wX4 G h1 a1 v.2)) (va_A (wX3 G h0 a0 u0 ++ wX4 G h1 a1 u1) sz)) (va_A (wX3 G h0 a0 u0 ++ wX4 G h1 a1 u1) sz)) 0 0 (va_A (wX3 G h0 a0 u0 ++ wX4 G h1 a1 u1) sz) := by
  refine mt (Qc := (fun A => va_Qv (fun v : Ob × Ob => q = v) (bw G (fun v : Ob × Ob => (wX3 G h0 a0 v.1 ++ wX4 G h1 a1 v.2)) A) A)) (by decide) (Nat.le_of_ble_eq_true rfl) ?_
  intro p e s m below meth c A ls hx hb hr hlk hml hts hown hA hP hK hD hE hS hl
  have hown : s.vm.findClass RX3 = some m.cls := hown
  have hg : ∀ w ∈ lw_g, w.before ([.ref h0, .ref h1] : List Value).toArray s = true := fun w h => hts w (List.mem_cons_of_mem _ h)
  have hC : CallFix p m c cX3_readStatement 2 s ([.ref h0, .ref h1] : List Value).toArray (Cond.code yX3_readStatement cX3_readStatement 2 none :: lw_g) RX3 := ⟨hx, hb, hml, hown, hts⟩
  have hl : lv_has ls 2 [(0, .ref h0), (1, .ref h1)] := hl
  rw [f_X3_readStatement] at hf
  refine lv_aload_n hx hb dX3_readStatement_0 rfl (lv_at hl 0 rfl) ?_
  obtain ⟨q1, e2, hf⟩ := tbd hf
  refine kVv2 (As := []) (rest := []) hC (c_X3_readWord (G := G) e2) kq2_226 kc_X3_readWord (by decide) 0 (ci := 1) rfl rfl hP hK hD hE hS hA (wr := (wX4 G h1 a1 u1)) [0, 1] [2, 3, 4, 5, 6, 7, 8] rfl rfl (by decide) (by decide) (by decide) hl.1 (Nat.le_of_ble_eq_true rfl) ⟨Nat.zero_le _, Nat.zero_le _⟩ dX3_readStatement_1 (fun u9 H locs hw hP hD hS => ?_)
  obtain rfl := hw
  have hP : va_P (gD G) vwCl (wX3 G h0 a0 q1 ++ wX4 G h1 a1 u1) H := hP.sub [7, 8, 0, 1, 2, 3, 4, 5, 6] rfl
  have hD : va_D A (wX3 G h0 a0 q1 ++ wX4 G h1 a1 u1) := hD.sub [7, 8, 0, 1, 2, 3, 4, 5, 6] (by decide) rfl
  refine lv_aload_n hx hb dX3_readStatement_4 rfl (lv_at hl 0 rfl) ?_
  refine lv_aload_n hx hb dX3_readStatement_5 rfl (lv_at hl 0 rfl) ?_
  obtain ⟨q3, e4, hf⟩ := tbd hf
  refine kVi2 (As := []) (rest := [.ref h0]) hC (c_X3_verbOfWord (G := G) e4) kq2_230 kc_X3_verbOfWord (by decide) 0 (ci := 1) rfl rfl hP hK hD hE hS hA (wr := (wX4 G h1 a1 u1)) [0, 1] [2, 3, 4, 5, 6, 7, 8] rfl rfl (by decide) (by decide) (by decide) hl.1 (Nat.le_of_ble_eq_true rfl) ⟨Nat.zero_le _, Nat.zero_le _⟩ dX3_readStatement_6 (fun r9 u9 H locs hw hP hD hS => ?_)
  obtain ⟨rfl, rfl⟩ := hw
  have hP : va_P (gD G) vwCl (wX3 G h0 a0 q3.2 ++ wX4 G h1 a1 u1) H := hP.sub [7, 8, 0, 1, 2, 3, 4, 5, 6] rfl
  have hD : va_D A (wX3 G h0 a0 q3.2 ++ wX4 G h1 a1 u1) := hD.sub [7, 8, 0, 1, 2, 3, 4, 5, 6] (by decide) rfl
  refine va_put (D := gD G) (ci := 1) (v := .int q3.1) (ty := .int) (C := RX3) (T := TX3) (N := 12) hx hb hg kl_X3 tyX3 tyX3_ok nmX3 hown hK hP hD hS 0 rfl rfl 7 (by decide) (hg _ kq1_143) (fun _ h9 => h9) rfl (by decide +kernel) rfl rfl (Nat.le_of_ble_eq_true rfl) dX3_readStatement_9 (fun H locs hP hD hS => ?_)
  have hP : va_P (gD G) vwCl (wX3 G h0 a0 (oi q3.2 7 q3.1) ++ wX4 G h1 a1 u1) H := hP
  have hD : va_D A (wX3 G h0 a0 (oi q3.2 7 q3.1) ++ wX4 G h1 a1 u1) := hD
  refine lv_aload_n hx hb dX3_readStatement_12 rfl (lv_at hl 0 rfl) ?_
  refine va_get (D := gD G) (ci := 1) (v := .int q3.1) (C := RX3) (T := TX3) (N := 12) hx hb hg kl_X3 hown hK hP 0 rfl rfl 7 (by decide) (hg _ kq1_143) (fun _ h9 => h9) rfl dX3_readStatement_13 ?_
  refine lv_iconst (v := (-1 : Int32)) hx hb dX3_readStatement_16 (by decide) ?_
  refine lv_icmp_ne (tgt := 33) hx hb dX3_readStatement_17 (by decide) (fun c5 => ?_) (fun c5 => ?_)
  · have hf := tn hf c5
    refine lv_aload_n hx hb dX3_readStatement_33 rfl (lv_at hl 0 rfl) ?_
    refine va_get (D := gD G) (ci := 1) (v := .int q3.1) (C := RX3) (T := TX3) (N := 12) hx hb hg kl_X3 hown hK hP 0 rfl rfl 7 (by decide) (hg _ kq1_143) (fun _ h9 => h9) rfl dX3_readStatement_34 ?_
    refine lv_iconst (v := (5 : Int32)) hx hb dX3_readStatement_37 (by decide) ?_
    refine lv_icmp_ne (tgt := 52) hx hb dX3_readStatement_38 (by decide) (fun c6 => ?_) (fun c6 => ?_)
    · have hf := tn hf c6
      refine lv_aload_n hx hb dX3_readStatement_52 rfl (lv_at hl 0 rfl) ?_
      refine va_get (D := gD G) (ci := 1) (v := .int q3.1) (C := RX3) (T := TX3) (N := 12) hx hb hg kl_X3 hown hK hP 0 rfl rfl 7 (by decide) (hg _ kq1_143) (fun _ h9 => h9) rfl dX3_readStatement_53 ?_
      refine lv_bipush (v := (6 : Int32)) hx hb dX3_readStatement_56 (by decide) ?_
      refine lv_icmp_ne (tgt := 72) hx hb dX3_readStatement_58 (by decide) (fun c7 => ?_) (fun c7 => ?_)
      · have hf := tn hf c7
        refine lv_aload_n hx hb dX3_readStatement_72 rfl (lv_at hl 0 rfl) ?_
        obtain ⟨q8, e9, hf⟩ := tbd hf
        refine kVv2 (As := []) (rest := []) hC (c_X3_readSetting (G := G) e9) kq3_89 kc_X3_readSetting (by decide) 0 (ci := 1) rfl rfl hP hK hD hE hS hA (wr := (wX4 G h1 a1 u1)) [0, 1] [2, 3, 4, 5, 6, 7, 8] rfl rfl (by decide) (by decide) (by decide) hl.1 (Nat.le_of_ble_eq_true rfl) ⟨Nat.zero_le _, Nat.zero_le _⟩ dX3_readStatement_73 (fun u9 H locs hw hP hD hS => ?_)
        obtain rfl := hw
        have hP : va_P (gD G) vwCl (wX3 G h0 a0 q8 ++ wX4 G h1 a1 u1) H := hP.sub [7, 8, 0, 1, 2, 3, 4, 5, 6] rfl
        have hD : va_D A (wX3 G h0 a0 q8 ++ wX4 G h1 a1 u1) := hD.sub [7, 8, 0, 1, 2, 3, 4, 5, 6] (by decide) rfl
        refine lv_aload_n hx hb dX3_readStatement_76 rfl (lv_at hl 0 rfl) ?_
        refine va_get (D := gD G) (ci := 1) (v := .int (q8.1 5)) (C := RX3) (T := TX3) (N := 12) hx hb hg kl_X3 hown hK hP 0 rfl rfl 5 (by decide) (hg _ kq1_138) (fun _ h9 => h9) rfl dX3_readStatement_77 ?_
        refine lv_if_ne (tgt := 102) hx hb dX3_readStatement_80 (by decide) (fun c10 => ?_) (fun c10 => ?_)
        · have hf := tn hf c10
          have hf := Option.some.inj hf
          subst hf
          exact e_v (wf := (fun v : Ob × Ob => (wX3 G h0 a0 v.1 ++ wX4 G h1 a1 v.2))) hx hb hr hlk (q8, u1) rfl hP hK hD hS dX3_readStatement_102
        · have hf := tp hf c10
          refine lv_aload_n hx hb dX3_readStatement_83 rfl (lv_at hl 0 rfl) ?_
          refine lv_bipush (v := (59 : Int32)) hx hb dX3_readStatement_84 (by decide) ?_
          obtain ⟨q11, e12, hf⟩ := tbd hf
          refine kVi2 (As := [.int (59 : Int32)]) (rest := []) hC (c_X3_readSign (G := G) e12) kq3_97 kc_X3_readSign (by decide) 0 (ci := 1) rfl rfl hP hK hD hE hS hA (wr := (wX4 G h1 a1 u1)) [0, 1] [2, 3, 4, 5, 6, 7, 8] rfl rfl (by decide) (by decide) (by decide) hl.1 (Nat.le_of_ble_eq_true rfl) ⟨Nat.zero_le _, Nat.zero_le _⟩ dX3_readStatement_86 (fun r9 u9 H locs hw hP hD hS => ?_)
          obtain ⟨rfl, rfl⟩ := hw
          have hP : va_P (gD G) vwCl (wX3 G h0 a0 q11.2 ++ wX4 G h1 a1 u1) H := hP.sub [7, 8, 0, 1, 2, 3, 4, 5, 6] rfl
          have hD : va_D A (wX3 G h0 a0 q11.2 ++ wX4 G h1 a1 u1) := hD.sub [7, 8, 0, 1, 2, 3, 4, 5, 6] (by decide) rfl
          refine bz_ne (tgt := 102) hx hb dX3_readStatement_89 (by decide) (fun c13 => ?_) (fun c13 => ?_)
          · have hf := tp hf c13
            have hf := Option.some.inj hf
            subst hf
            exact e_v (wf := (fun v : Ob × Ob => (wX3 G h0 a0 v.1 ++ wX4 G h1 a1 v.2))) hx hb hr hlk (q11.2, u1) rfl hP hK hD hS dX3_readStatement_102
          · have hf := tn hf c13
            refine lv_aload_n hx hb dX3_readStatement_92 rfl (lv_at hl 0 rfl) ?_
            refine lv_bipush (v := (-2 : Int32)) hx hb dX3_readStatement_93 (by decide) ?_
            refine lv_aload_n hx hb dX3_readStatement_95 rfl (lv_at hl 0 rfl) ?_
            refine va_get (D := gD G) (ci := 1) (v := .int (q11.2.1 3)) (C := RX3) (T := TX3) (N := 12) hx hb hg kl_X3 hown hK hP 0 rfl rfl 3 (by decide) (hg _ kq1_136) (fun _ h9 => h9) rfl dX3_readStatement_96 ?_
            obtain ⟨q14, e15, hf⟩ := tbd hf
            refine kVv2 (As := [.int (-2 : Int32), .int (q11.2.1 3)]) (rest := []) hC (c_X3_fail (G := G) e15) kq3_53 kc_X3_fail (by decide) 0 (ci := 1) rfl rfl hP hK hD hE hS hA (wr := (wX4 G h1 a1 u1)) [0, 1] [2, 3, 4, 5, 6, 7, 8] rfl rfl (by decide) (by decide) (by decide) hl.1 (Nat.le_of_ble_eq_true rfl) ⟨Nat.zero_le _, Nat.zero_le _⟩ dX3_readStatement_99 (fun u9 H locs hw hP hD hS => ?_)
            obtain rfl := hw
            have hP : va_P (gD G) vwCl (wX3 G h0 a0 q14 ++ wX4 G h1 a1 u1) H := hP.sub [7, 8, 0, 1, 2, 3, 4, 5, 6] rfl
            have hD : va_D A (wX3 G h0 a0 q14 ++ wX4 G h1 a1 u1) := hD.sub [7, 8, 0, 1, 2, 3, 4, 5, 6] (by decide) rfl
            have hf := Option.some.inj hf
            subst hf
            exact e_v (wf := (fun v : Ob × Ob => (wX3 G h0 a0 v.1 ++ wX4 G h1 a1 v.2))) hx hb hr hlk (q14, u1) rfl hP hK hD hS dX3_readStatement_102
      · have hf := tp hf c7
        refine lv_aload_n hx hb dX3_readStatement_61 rfl (lv_at hl 0 rfl) ?_
        refine lv_aload_n hx hb dX3_readStatement_62 rfl (lv_at hl 1 rfl) ?_
        obtain ⟨q16, e17, hf⟩ := tbd hf
        refine kVi2 (As := []) (rest := [.ref h0]) hC (c_X4_canHear (G := G) e17) kq3_72 kc_X4_canHear (by decide) 0 (ci := 2) rfl rfl hP hK hD hE hS hA (wr := (wX3 G h0 a0 (oi q3.2 7 q3.1))) [2, 3, 4, 5, 6, 7, 8] [0, 1] rfl rfl (by decide) (by decide) (by decide) hl.1 (Nat.le_of_ble_eq_true rfl) ⟨Nat.zero_le _, Nat.zero_le _⟩ dX3_readStatement_63 (fun r9 u9 H locs hw hP hD hS => ?_)
        obtain ⟨rfl, rfl⟩ := hw
        have hP : va_P (gD G) vwCl (wX3 G h0 a0 (oi q3.2 7 q3.1) ++ wX4 G h1 a1 u1) H := hP
        have hD : va_D A (wX3 G h0 a0 (oi q3.2 7 q3.1) ++ wX4 G h1 a1 u1) := hD
        obtain ⟨q18, e19, hf⟩ := tbd hf
        refine kVv2 (As := [.int (bI q16)]) (rest := []) hC (c_X3_readHearing (G := G) e19) kq3_82 kc_X3_readHearing (by decide) 0 (ci := 1) rfl rfl hP hK hD hE hS hA (wr := (wX4 G h1 a1 u1)) [0, 1] [2, 3, 4, 5, 6, 7, 8] rfl rfl (by decide) (by decide) (by decide) hl.1 (Nat.le_of_ble_eq_true rfl) ⟨Nat.zero_le _, Nat.zero_le _⟩ dX3_readStatement_66 (fun u9 H locs hw hP hD hS => ?_)
        obtain rfl := hw
        have hP : va_P (gD G) vwCl (wX3 G h0 a0 q18 ++ wX4 G h1 a1 u1) H := hP.sub [7, 8, 0, 1, 2, 3, 4, 5, 6] rfl
        have hD : va_D A (wX3 G h0 a0 q18 ++ wX4 G h1 a1 u1) := hD.sub [7, 8, 0, 1, 2, 3, 4, 5, 6] (by decide) rfl
        refine lv_goto (tgt := 76) hx hb dX3_readStatement_69 (by decide) ?_
        refine lv_aload_n hx hb dX3_readStatement_76 rfl (lv_at hl 0 rfl) ?_
        refine va_get (D := gD G) (ci := 1) (v := .int (q18.1 5)) (C := RX3) (T := TX3) (N := 12) hx hb hg kl_X3 hown hK hP 0 rfl rfl 5 (by decide) (hg _ kq1_138) (fun _ h9 => h9) rfl dX3_readStatement_77 ?_
        refine lv_if_ne (tgt := 102) hx hb dX3_readStatement_80 (by decide) (fun c20 => ?_) (fun c20 => ?_)
        · have hf := tn hf c20
          have hf := Option.some.inj hf
          subst hf
          exact e_v (wf := (fun v : Ob × Ob => (wX3 G h0 a0 v.1 ++ wX4 G h1 a1 v.2))) hx hb hr hlk (q18, u1) rfl hP hK hD hS dX3_readStatement_102
        · have hf := tp hf c20
          refine lv_aload_n hx hb dX3_readStatement_83 rfl (lv_at hl 0 rfl) ?_
          refine lv_bipush (v := (59 : Int32)) hx hb dX3_readStatement_84 (by decide) ?_
          obtain ⟨q21, e22, hf⟩ := tbd hf
          refine kVi2 (As := [.int (59 : Int32)]) (rest := []) hC (c_X3_readSign (G := G) e22) kq3_97 kc_X3_readSign (by decide) 0 (ci := 1) rfl rfl hP hK hD hE hS hA (wr := (wX4 G h1 a1 u1)) [0, 1] [2, 3, 4, 5, 6, 7, 8] rfl rfl (by decide) (by decide) (by decide) hl.1 (Nat.le_of_ble_eq_true rfl) ⟨Nat.zero_le _, Nat.zero_le _⟩ dX3_readStatement_86 (fun r9 u9 H locs hw hP hD hS => ?_)
          obtain ⟨rfl, rfl⟩ := hw
          have hP : va_P (gD G) vwCl (wX3 G h0 a0 q21.2 ++ wX4 G h1 a1 u1) H := hP.sub [7, 8, 0, 1, 2, 3, 4, 5, 6] rfl
          have hD : va_D A (wX3 G h0 a0 q21.2 ++ wX4 G h1 a1 u1) := hD.sub [7, 8, 0, 1, 2, 3, 4, 5, 6] (by decide) rfl
          refine bz_ne (tgt := 102) hx hb dX3_readStatement_89 (by decide) (fun c23 => ?_) (fun c23 => ?_)
          · have hf := tp hf c23
            have hf := Option.some.inj hf
            subst hf
            exact e_v (wf := (fun v : Ob × Ob => (wX3 G h0 a0 v.1 ++ wX4 G h1 a1 v.2))) hx hb hr hlk (q21.2, u1) rfl hP hK hD hS dX3_readStatement_102
          · have hf := tn hf c23
            refine lv_aload_n hx hb dX3_readStatement_92 rfl (lv_at hl 0 rfl) ?_
            refine lv_bipush (v := (-2 : Int32)) hx hb dX3_readStatement_93 (by decide) ?_
            refine lv_aload_n hx hb dX3_readStatement_95 rfl (lv_at hl 0 rfl) ?_
            refine va_get (D := gD G) (ci := 1) (v := .int (q21.2.1 3)) (C := RX3) (T := TX3) (N := 12) hx hb hg kl_X3 hown hK hP 0 rfl rfl 3 (by decide) (hg _ kq1_136) (fun _ h9 => h9) rfl dX3_readStatement_96 ?_
            obtain ⟨q24, e25, hf⟩ := tbd hf
            refine kVv2 (As := [.int (-2 : Int32), .int (q21.2.1 3)]) (rest := []) hC (c_X3_fail (G := G) e25) kq3_53 kc_X3_fail (by decide) 0 (ci := 1) rfl rfl hP hK hD hE hS hA (wr := (wX4 G h1 a1 u1)) [0, 1] [2, 3, 4, 5, 6, 7, 8] rfl rfl (by decide) (by decide) (by decide) hl.1 (Nat.le_of_ble_eq_true rfl) ⟨Nat.zero_le _, Nat.zero_le _⟩ dX3_readStatement_99 (fun u9 H locs hw hP hD hS => ?_)
            obtain rfl := hw
            have hP : va_P (gD G) vwCl (wX3 G h0 a0 q24 ++ wX4 G h1 a1 u1) H := hP.sub [7, 8, 0, 1, 2, 3, 4, 5, 6] rfl
            have hD : va_D A (wX3 G h0 a0 q24 ++ wX4 G h1 a1 u1) := hD.sub [7, 8, 0, 1, 2, 3, 4, 5, 6] (by decide) rfl
            have hf := Option.some.inj hf
            subst hf
            exact e_v (wf := (fun v : Ob × Ob => (wX3 G h0 a0 v.1 ++ wX4 G h1 a1 v.2))) hx hb hr hlk (q24, u1) rfl hP hK hD hS dX3_readStatement_102
    · have hf := tp hf c6
      refine lv_aload_n hx hb dX3_readStatement_41 rfl (lv_at hl 0 rfl) ?_
      refine lv_aload_n hx hb dX3_readStatement_42 rfl (lv_at hl 1 rfl) ?_
      refine va_get (D := gD G) (ci := 2) (v := .int (u1.1 1)) (C := RX4) (T := TX4) (N := 18) hx hb hg kl_X4 hown hK hP 2 rfl rfl 1 (by decide) (hg _ kq1_55) (fun _ h9 => h9) rfl dX3_readStatement_43 ?_
      obtain ⟨q26, e27, hf⟩ := tbd hf
      refine kVv2 (As := [.int (u1.1 1)]) (rest := []) hC (c_X3_readPulse (G := G) e27) kq3_57 kc_X3_readPulse (by decide) 0 (ci := 1) rfl rfl hP hK hD hE hS hA (wr := (wX4 G h1 a1 u1)) [0, 1] [2, 3, 4, 5, 6, 7, 8] rfl rfl (by decide) (by decide) (by decide) hl.1 (Nat.le_of_ble_eq_true rfl) ⟨Nat.zero_le _, Nat.zero_le _⟩ dX3_readStatement_46 (fun u9 H locs hw hP hD hS => ?_)
      obtain rfl := hw
      have hP : va_P (gD G) vwCl (wX3 G h0 a0 q26 ++ wX4 G h1 a1 u1) H := hP.sub [7, 8, 0, 1, 2, 3, 4, 5, 6] rfl
      have hD : va_D A (wX3 G h0 a0 q26 ++ wX4 G h1 a1 u1) := hD.sub [7, 8, 0, 1, 2, 3, 4, 5, 6] (by decide) rfl
      refine lv_goto (tgt := 76) hx hb dX3_readStatement_49 (by decide) ?_
      refine lv_aload_n hx hb dX3_readStatement_76 rfl (lv_at hl 0 rfl) ?_
      refine va_get (D := gD G) (ci := 1) (v := .int (q26.1 5)) (C := RX3) (T := TX3) (N := 12) hx hb hg kl_X3 hown hK hP 0 rfl rfl 5 (by decide) (hg _ kq1_138) (fun _ h9 => h9) rfl dX3_readStatement_77 ?_
      refine lv_if_ne (tgt := 102) hx hb dX3_readStatement_80 (by decide) (fun c28 => ?_) (fun c28 => ?_)
      · have hf := tn hf c28
        have hf := Option.some.inj hf
        subst hf
        exact e_v (wf := (fun v : Ob × Ob => (wX3 G h0 a0 v.1 ++ wX4 G h1 a1 v.2))) hx hb hr hlk (q26, u1) rfl hP hK hD hS dX3_readStatement_102
      · have hf := tp hf c28
        refine lv_aload_n hx hb dX3_readStatement_83 rfl (lv_at hl 0 rfl) ?_
        refine lv_bipush (v := (59 : Int32)) hx hb dX3_readStatement_84 (by decide) ?_
        obtain ⟨q29, e30, hf⟩ := tbd hf
        refine kVi2 (As := [.int (59 : Int32)]) (rest := []) hC (c_X3_readSign (G := G) e30) kq3_97 kc_X3_readSign (by decide) 0 (ci := 1) rfl rfl hP hK hD hE hS hA (wr := (wX4 G h1 a1 u1)) [0, 1] [2, 3, 4, 5, 6, 7, 8] rfl rfl (by decide) (by decide) (by decide) hl.1 (Nat.le_of_ble_eq_true rfl) ⟨Nat.zero_le _, Nat.zero_le _⟩ dX3_readStatement_86 (fun r9 u9 H locs hw hP hD hS => ?_)
        obtain ⟨rfl, rfl⟩ := hw
        have hP : va_P (gD G) vwCl (wX3 G h0 a0 q29.2 ++ wX4 G h1 a1 u1) H := hP.sub [7, 8, 0, 1, 2, 3, 4, 5, 6] rfl
        have hD : va_D A (wX3 G h0 a0 q29.2 ++ wX4 G h1 a1 u1) := hD.sub [7, 8, 0, 1, 2, 3, 4, 5, 6] (by decide) rfl
        refine bz_ne (tgt := 102) hx hb dX3_readStatement_89 (by decide) (fun c31 => ?_) (fun c31 => ?_)
        · have hf := tp hf c31
          have hf := Option.some.inj hf
          subst hf
          exact e_v (wf := (fun v : Ob × Ob => (wX3 G h0 a0 v.1 ++ wX4 G h1 a1 v.2))) hx hb hr hlk (q29.2, u1) rfl hP hK hD hS dX3_readStatement_102
        · have hf := tn hf c31
          refine lv_aload_n hx hb dX3_readStatement_92 rfl (lv_at hl 0 rfl) ?_
          refine lv_bipush (v := (-2 : Int32)) hx hb dX3_readStatement_93 (by decide) ?_
          refine lv_aload_n hx hb dX3_readStatement_95 rfl (lv_at hl 0 rfl) ?_
          refine va_get (D := gD G) (ci := 1) (v := .int (q29.2.1 3)) (C := RX3) (T := TX3) (N := 12) hx hb hg kl_X3 hown hK hP 0 rfl rfl 3 (by decide) (hg _ kq1_136) (fun _ h9 => h9) rfl dX3_readStatement_96 ?_
          obtain ⟨q32, e33, hf⟩ := tbd hf
          refine kVv2 (As := [.int (-2 : Int32), .int (q29.2.1 3)]) (rest := []) hC (c_X3_fail (G := G) e33) kq3_53 kc_X3_fail (by decide) 0 (ci := 1) rfl rfl hP hK hD hE hS hA (wr := (wX4 G h1 a1 u1)) [0, 1] [2, 3, 4, 5, 6, 7, 8] rfl rfl (by decide) (by decide) (by decide) hl.1 (Nat.le_of_ble_eq_true rfl) ⟨Nat.zero_le _, Nat.zero_le _⟩ dX3_readStatement_99 (fun u9 H locs hw hP hD hS => ?_)
          obtain rfl := hw
          have hP : va_P (gD G) vwCl (wX3 G h0 a0 q32 ++ wX4 G h1 a1 u1) H := hP.sub [7, 8, 0, 1, 2, 3, 4, 5, 6] rfl
          have hD : va_D A (wX3 G h0 a0 q32 ++ wX4 G h1 a1 u1) := hD.sub [7, 8, 0, 1, 2, 3, 4, 5, 6] (by decide) rfl
          have hf := Option.some.inj hf
          subst hf
          exact e_v (wf := (fun v : Ob × Ob => (wX3 G h0 a0 v.1 ++ wX4 G h1 a1 v.2))) hx hb hr hlk (q32, u1) rfl hP hK hD hS dX3_readStatement_102
  · have hf := tp hf c5
    refine lv_aload_n hx hb dX3_readStatement_20 rfl (lv_at hl 0 rfl) ?_
    refine lv_bipush (v := (-2 : Int32)) hx hb dX3_readStatement_21 (by decide) ?_
    refine lv_aload_n hx hb dX3_readStatement_23 rfl (lv_at hl 0 rfl) ?_
    refine va_get (D := gD G) (ci := 1) (v := .int (q3.2.1 4)) (C := RX3) (T := TX3) (N := 12) hx hb hg kl_X3 hown hK hP 0 rfl rfl 4 (by decide) (hg _ kq1_137) (fun _ h9 => h9) rfl dX3_readStatement_24 ?_
    obtain ⟨q34, e35, hf⟩ := tbd hf
    refine kVv2 (As := [.int (-2 : Int32), .int (q3.2.1 4)]) (rest := []) hC (c_X3_fail (G := G) e35) kq3_53 kc_X3_fail (by decide) 0 (ci := 1) rfl rfl hP hK hD hE hS hA (wr := (wX4 G h1 a1 u1)) [0, 1] [2, 3, 4, 5, 6, 7, 8] rfl rfl (by decide) (by decide) (by decide) hl.1 (Nat.le_of_ble_eq_true rfl) ⟨Nat.zero_le _, Nat.zero_le _⟩ dX3_readStatement_27 (fun u9 H locs hw hP hD hS => ?_)
    obtain rfl := hw
    have hP : va_P (gD G) vwCl (wX3 G h0 a0 q34 ++ wX4 G h1 a1 u1) H := hP.sub [7, 8, 0, 1, 2, 3, 4, 5, 6] rfl
    have hD : va_D A (wX3 G h0 a0 q34 ++ wX4 G h1 a1 u1) := hD.sub [7, 8, 0, 1, 2, 3, 4, 5, 6] (by decide) rfl
    refine lv_goto (tgt := 76) hx hb dX3_readStatement_30 (by decide) ?_
    refine lv_aload_n hx hb dX3_readStatement_76 rfl (lv_at hl 0 rfl) ?_
    refine va_get (D := gD G) (ci := 1) (v := .int (q34.1 5)) (C := RX3) (T := TX3) (N := 12) hx hb hg kl_X3 hown hK hP 0 rfl rfl 5 (by decide) (hg _ kq1_138) (fun _ h9 => h9) rfl dX3_readStatement_77 ?_
    refine lv_if_ne (tgt := 102) hx hb dX3_readStatement_80 (by decide) (fun c36 => ?_) (fun c36 => ?_)
    · have hf := tn hf c36
      have hf := Option.some.inj hf
      subst hf
      exact e_v (wf := (fun v : Ob × Ob => (wX3 G h0 a0 v.1 ++ wX4 G h1 a1 v.2))) hx hb hr hlk (q34, u1) rfl hP hK hD hS dX3_readStatement_102
    · have hf := tp hf c36
      refine lv_aload_n hx hb dX3_readStatement_83 rfl (lv_at hl 0 rfl) ?_
      refine lv_bipush (v := (59 : Int32)) hx hb dX3_readStatement_84 (by decide) ?_
      obtain ⟨q37, e38, hf⟩ := tbd hf
      refine kVi2 (As := [.int (59 : Int32)]) (rest := []) hC (c_X3_readSign (G := G) e38) kq3_97 kc_X3_readSign (by decide) 0 (ci := 1) rfl rfl hP hK hD hE hS hA (wr := (wX4 G h1 a1 u1)) [0, 1] [2, 3, 4, 5, 6, 7, 8] rfl rfl (by decide) (by decide) (by decide) hl.1 (Nat.le_of_ble_eq_true rfl) ⟨Nat.zero_le _, Nat.zero_le _⟩ dX3_readStatement_86 (fun r9 u9 H locs hw hP hD hS => ?_)
      obtain ⟨rfl, rfl⟩ := hw
      have hP : va_P (gD G) vwCl (wX3 G h0 a0 q37.2 ++ wX4 G h1 a1 u1) H := hP.sub [7, 8, 0, 1, 2, 3, 4, 5, 6] rfl
      have hD : va_D A (wX3 G h0 a0 q37.2 ++ wX4 G h1 a1 u1) := hD.sub [7, 8, 0, 1, 2, 3, 4, 5, 6] (by decide) rfl
      refine bz_ne (tgt := 102) hx hb dX3_readStatement_89 (by decide) (fun c39 => ?_) (fun c39 => ?_)
      · have hf := tp hf c39
        have hf := Option.some.inj hf
        subst hf
        exact e_v (wf := (fun v : Ob × Ob => (wX3 G h0 a0 v.1 ++ wX4 G h1 a1 v.2))) hx hb hr hlk (q37.2, u1) rfl hP hK hD hS dX3_readStatement_102
      · have hf := tn hf c39
        refine lv_aload_n hx hb dX3_readStatement_92 rfl (lv_at hl 0 rfl) ?_
        refine lv_bipush (v := (-2 : Int32)) hx hb dX3_readStatement_93 (by decide) ?_
        refine lv_aload_n hx hb dX3_readStatement_95 rfl (lv_at hl 0 rfl) ?_
        refine va_get (D := gD G) (ci := 1) (v := .int (q37.2.1 3)) (C := RX3) (T := TX3) (N := 12) hx hb hg kl_X3 hown hK hP 0 rfl rfl 3 (by decide) (hg _ kq1_136) (fun _ h9 => h9) rfl dX3_readStatement_96 ?_
        obtain ⟨q40, e41, hf⟩ := tbd hf
        refine kVv2 (As := [.int (-2 : Int32), .int (q37.2.1 3)]) (rest := []) hC (c_X3_fail (G := G) e41) kq3_53 kc_X3_fail (by decide) 0 (ci := 1) rfl rfl hP hK hD hE hS hA (wr := (wX4 G h1 a1 u1)) [0, 1] [2, 3, 4, 5, 6, 7, 8] rfl rfl (by decide) (by decide) (by decide) hl.1 (Nat.le_of_ble_eq_true rfl) ⟨Nat.zero_le _, Nat.zero_le _⟩ dX3_readStatement_99 (fun u9 H locs hw hP hD hS => ?_)
        obtain rfl := hw
        have hP : va_P (gD G) vwCl (wX3 G h0 a0 q40 ++ wX4 G h1 a1 u1) H := hP.sub [7, 8, 0, 1, 2, 3, 4, 5, 6] rfl
        have hD : va_D A (wX3 G h0 a0 q40 ++ wX4 G h1 a1 u1) := hD.sub [7, 8, 0, 1, 2, 3, 4, 5, 6] (by decide) rfl
        have hf := Option.some.inj hf
        subst hf
        exact e_v (wf := (fun v : Ob × Ob => (wX3 G h0 a0 v.1 ++ wX4 G h1 a1 v.2))) hx hb hr hlk (q40, u1) rfl hP hK hD hS dX3_readStatement_102
