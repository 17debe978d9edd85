theorem dX6_begins_0 : decode cX6_begins 0 = .ok (.iconst 0, 1) := by decide +kernel
theorem dX6_begins_1 : decode cX6_begins 1 = .ok (.istore_n 1, 1) := by decide +kernel
theorem dX6_begins_2 : decode cX6_begins 2 = .ok (.iload_n 1, 1) := by decide +kernel
theorem dX6_begins_3 : decode cX6_begins 3 = .ok (.bipush 48, 2) := by decide +kernel
theorem dX6_begins_5 : decode cX6_begins 5 = .ok (.if_icmp .ge 16, 3) := by decide +kernel
theorem dX6_begins_8 : decode cX6_begins 8 = .ok (.aload_n 0, 1) := by decide +kernel
theorem dX6_begins_9 : decode cX6_begins 9 = .ok (.getfield 13, 3) := by decide +kernel
theorem dX6_begins_12 : decode cX6_begins 12 = .ok (.iload_n 1, 1) := by decide +kernel
theorem dX6_begins_13 : decode cX6_begins 13 = .ok (.lconst 0, 1) := by decide +kernel
theorem dX6_begins_14 : decode cX6_begins 14 = .ok (.lastore, 1) := by decide +kernel
theorem dX6_begins_15 : decode cX6_begins 15 = .ok (.iinc 1 1, 3) := by decide +kernel
theorem dX6_begins_18 : decode cX6_begins 18 = .ok (.goto (-16), 3) := by decide +kernel
theorem dX6_begins_21 : decode cX6_begins 21 = .ok (.aload_n 0, 1) := by decide +kernel
theorem dX6_begins_22 : decode cX6_begins 22 = .ok (.getfield 13, 3) := by decide +kernel
theorem dX6_begins_25 : decode cX6_begins 25 = .ok (.iconst 0, 1) := by decide +kernel
theorem dX6_begins_26 : decode cX6_begins 26 = .ok (.ldc2_w 47, 3) := by decide +kernel
theorem dX6_begins_29 : decode cX6_begins 29 = .ok (.lastore, 1) := by decide +kernel
theorem dX6_begins_30 : decode cX6_begins 30 = .ok (.aload_n 0, 1) := by decide +kernel
theorem dX6_begins_31 : decode cX6_begins 31 = .ok (.getfield 13, 3) := by decide +kernel
theorem dX6_begins_34 : decode cX6_begins 34 = .ok (.iconst 1, 1) := by decide +kernel
theorem dX6_begins_35 : decode cX6_begins 35 = .ok (.ldc2_w 49, 3) := by decide +kernel
theorem dX6_begins_38 : decode cX6_begins 38 = .ok (.lastore, 1) := by decide +kernel
theorem dX6_begins_39 : decode cX6_begins 39 = .ok (.aload_n 0, 1) := by decide +kernel
theorem dX6_begins_40 : decode cX6_begins 40 = .ok (.getfield 13, 3) := by decide +kernel
theorem dX6_begins_43 : decode cX6_begins 43 = .ok (.iconst 2, 1) := by decide +kernel
theorem dX6_begins_44 : decode cX6_begins 44 = .ok (.ldc2_w 51, 3) := by decide +kernel
theorem dX6_begins_47 : decode cX6_begins 47 = .ok (.lastore, 1) := by decide +kernel
theorem dX6_begins_48 : decode cX6_begins 48 = .ok (.aload_n 0, 1) := by decide +kernel
theorem dX6_begins_49 : decode cX6_begins 49 = .ok (.getfield 13, 3) := by decide +kernel
theorem dX6_begins_52 : decode cX6_begins 52 = .ok (.iconst 5, 1) := by decide +kernel
theorem dX6_begins_53 : decode cX6_begins 53 = .ok (.ldc2_w 53, 3) := by decide +kernel
theorem dX6_begins_56 : decode cX6_begins 56 = .ok (.lastore, 1) := by decide +kernel
theorem dX6_begins_57 : decode cX6_begins 57 = .ok (.aload_n 0, 1) := by decide +kernel
theorem dX6_begins_58 : decode cX6_begins 58 = .ok (.getfield 13, 3) := by decide +kernel
theorem dX6_begins_61 : decode cX6_begins 61 = .ok (.bipush 6, 2) := by decide +kernel
theorem dX6_begins_63 : decode cX6_begins 63 = .ok (.ldc2_w 53, 3) := by decide +kernel
theorem dX6_begins_66 : decode cX6_begins 66 = .ok (.lastore, 1) := by decide +kernel
theorem dX6_begins_67 : decode cX6_begins 67 = .ok (.aload_n 0, 1) := by decide +kernel
theorem dX6_begins_68 : decode cX6_begins 68 = .ok (.getfield 13, 3) := by decide +kernel
theorem dX6_begins_71 : decode cX6_begins 71 = .ok (.bipush 7, 2) := by decide +kernel
theorem dX6_begins_73 : decode cX6_begins 73 = .ok (.ldc2_w 53, 3) := by decide +kernel
theorem dX6_begins_76 : decode cX6_begins 76 = .ok (.lastore, 1) := by decide +kernel
theorem dX6_begins_77 : decode cX6_begins 77 = .ok (.aload_n 0, 1) := by decide +kernel
theorem dX6_begins_78 : decode cX6_begins 78 = .ok (.getfield 13, 3) := by decide +kernel
theorem dX6_begins_81 : decode cX6_begins 81 = .ok (.bipush 9, 2) := by decide +kernel
theorem dX6_begins_83 : decode cX6_begins 83 = .ok (.ldc2_w 53, 3) := by decide +kernel
theorem dX6_begins_86 : decode cX6_begins 86 = .ok (.lastore, 1) := by decide +kernel
theorem dX6_begins_87 : decode cX6_begins 87 = .ok (.return_, 1) := by decide +kernel
theorem dX6_becomes_0 : decode cX6_becomes 0 = .ok (.iconst 0, 1) := by decide +kernel
theorem dX6_becomes_1 : decode cX6_becomes 1 = .ok (.istore_n 3, 1) := by decide +kernel
theorem dX6_becomes_2 : decode cX6_becomes 2 = .ok (.iload_n 3, 1) := by decide +kernel
theorem dX6_becomes_3 : decode cX6_becomes 3 = .ok (.bipush 48, 2) := by decide +kernel
theorem dX6_becomes_5 : decode cX6_becomes 5 = .ok (.if_icmp .ge 20, 3) := by decide +kernel
theorem dX6_becomes_8 : decode cX6_becomes 8 = .ok (.aload_n 0, 1) := by decide +kernel
theorem dX6_becomes_9 : decode cX6_becomes 9 = .ok (.getfield 7, 3) := by decide +kernel
theorem dX6_becomes_12 : decode cX6_becomes 12 = .ok (.iload_n 3, 1) := by decide +kernel
theorem dX6_becomes_13 : decode cX6_becomes 13 = .ok (.aload_n 1, 1) := by decide +kernel
theorem dX6_becomes_14 : decode cX6_becomes 14 = .ok (.iload_n 2, 1) := by decide +kernel
theorem dX6_becomes_15 : decode cX6_becomes 15 = .ok (.iload_n 3, 1) := by decide +kernel
theorem dX6_becomes_16 : decode cX6_becomes 16 = .ok (.iadd, 1) := by decide +kernel
theorem dX6_becomes_17 : decode cX6_becomes 17 = .ok (.laload, 1) := by decide +kernel
theorem dX6_becomes_18 : decode cX6_becomes 18 = .ok (.lastore, 1) := by decide +kernel
theorem dX6_becomes_19 : decode cX6_becomes 19 = .ok (.iinc 3 1, 3) := by decide +kernel
theorem dX6_becomes_22 : decode cX6_becomes 22 = .ok (.goto (-20), 3) := by decide +kernel
theorem dX6_becomes_25 : decode cX6_becomes 25 = .ok (.return_, 1) := by decide +kernel
theorem dX6_thrown_0 : decode cX6_thrown 0 = .ok (.aload_n 0, 1) := by decide +kernel
theorem dX6_thrown_1 : decode cX6_thrown 1 = .ok (.getfield 55, 3) := by decide +kernel
theorem dX6_thrown_4 : decode cX6_thrown 4 = .ok (.ireturn, 1) := by decide +kernel
theorem dX6_isIn_0 : decode cX6_isIn 0 = .ok (.lload_n 0, 1) := by decide +kernel
theorem dX6_isIn_1 : decode cX6_isIn 1 = .ok (.lload_n 2, 1) := by decide +kernel
theorem dX6_isIn_2 : decode cX6_isIn 2 = .ok (.lcmp, 1) := by decide +kernel
theorem dX6_isIn_3 : decode cX6_isIn 3 = .ok (.ifCond .lt 14, 3) := by decide +kernel
theorem dX6_isIn_6 : decode cX6_isIn 6 = .ok (.lload_n 0, 1) := by decide +kernel
theorem dX6_isIn_7 : decode cX6_isIn 7 = .ok (.lload 4, 2) := by decide +kernel
theorem dX6_isIn_9 : decode cX6_isIn 9 = .ok (.lcmp, 1) := by decide +kernel
theorem dX6_isIn_10 : decode cX6_isIn 10 = .ok (.ifCond .gt 7, 3) := by decide +kernel
theorem dX6_isIn_13 : decode cX6_isIn 13 = .ok (.iconst 1, 1) := by decide +kernel
theorem dX6_isIn_14 : decode cX6_isIn 14 = .ok (.goto 4, 3) := by decide +kernel
theorem dX6_isIn_17 : decode cX6_isIn 17 = .ok (.iconst 0, 1) := by decide +kernel
theorem dX6_isIn_18 : decode cX6_isIn 18 = .ok (.ireturn, 1) := by decide +kernel
theorem dX6_sizeOf_0 : decode cX6_sizeOf 0 = .ok (.lload_n 0, 1) := by decide +kernel
theorem dX6_sizeOf_1 : decode cX6_sizeOf 1 = .ok (.lconst 0, 1) := by decide +kernel
theorem dX6_sizeOf_2 : decode cX6_sizeOf 2 = .ok (.lcmp, 1) := by decide +kernel
theorem dX6_sizeOf_3 : decode cX6_sizeOf 3 = .ok (.ifCond .ge 8, 3) := by decide +kernel
theorem dX6_sizeOf_6 : decode cX6_sizeOf 6 = .ok (.lload_n 0, 1) := by decide +kernel
theorem dX6_sizeOf_7 : decode cX6_sizeOf 7 = .ok (.lneg, 1) := by decide +kernel
theorem dX6_sizeOf_8 : decode cX6_sizeOf 8 = .ok (.goto 4, 3) := by decide +kernel
theorem dX6_sizeOf_11 : decode cX6_sizeOf 11 = .ok (.lload_n 0, 1) := by decide +kernel
theorem dX6_sizeOf_12 : decode cX6_sizeOf 12 = .ok (.lreturn, 1) := by decide +kernel
theorem dX6_has_0 : decode cX6_has 0 = .ok (.lload_n 0, 1) := by decide +kernel
theorem dX6_has_1 : decode cX6_has 1 = .ok (.iload_n 2, 1) := by decide +kernel
theorem dX6_has_2 : decode cX6_has 2 = .ok (.lushr, 1) := by decide +kernel
theorem dX6_has_3 : decode cX6_has 3 = .ok (.lconst 1, 1) := by decide +kernel
theorem dX6_has_4 : decode cX6_has 4 = .ok (.land, 1) := by decide +kernel
theorem dX6_has_5 : decode cX6_has 5 = .ok (.lconst 1, 1) := by decide +kernel
theorem dX6_has_6 : decode cX6_has 6 = .ok (.lcmp, 1) := by decide +kernel
theorem dX6_has_7 : decode cX6_has 7 = .ok (.ifCond .ne 7, 3) := by decide +kernel
theorem dX6_has_10 : decode cX6_has 10 = .ok (.iconst 1, 1) := by decide +kernel
theorem dX6_has_11 : decode cX6_has 11 = .ok (.goto 4, 3) := by decide +kernel
theorem dX6_has_14 : decode cX6_has 14 = .ok (.iconst 0, 1) := by decide +kernel
theorem dX6_has_15 : decode cX6_has 15 = .ok (.ireturn, 1) := by decide +kernel
theorem dX6_bits_0 : decode cX6_bits 0 = .ok (.iconst 0, 1) := by decide +kernel
theorem dX6_bits_1 : decode cX6_bits 1 = .ok (.istore 4, 2) := by decide +kernel
theorem dX6_bits_3 : decode cX6_bits 3 = .ok (.iload_n 2, 1) := by decide +kernel
theorem dX6_bits_4 : decode cX6_bits 4 = .ok (.istore 5, 2) := by decide +kernel
theorem dX6_bits_6 : decode cX6_bits 6 = .ok (.iload 5, 2) := by decide +kernel
theorem dX6_bits_8 : decode cX6_bits 8 = .ok (.iload_n 3, 1) := by decide +kernel
theorem dX6_bits_9 : decode cX6_bits 9 = .ok (.if_icmp .gt 28, 3) := by decide +kernel
theorem dX6_bits_12 : decode cX6_bits 12 = .ok (.iload 4, 2) := by decide +kernel
theorem dX6_bits_14 : decode cX6_bits 14 = .ok (.lload_n 0, 1) := by decide +kernel
theorem dX6_bits_15 : decode cX6_bits 15 = .ok (.iload 5, 2) := by decide +kernel
theorem dX6_bits_17 : decode cX6_bits 17 = .ok (.invokestatic 58, 3) := by decide +kernel
theorem dX6_bits_20 : decode cX6_bits 20 = .ok (.ifCond .eq 7, 3) := by decide +kernel
theorem dX6_bits_23 : decode cX6_bits 23 = .ok (.iconst 1, 1) := by decide +kernel
theorem dX6_bits_24 : decode cX6_bits 24 = .ok (.goto 4, 3) := by decide +kernel
theorem dX6_bits_27 : decode cX6_bits 27 = .ok (.iconst 0, 1) := by decide +kernel
theorem dX6_bits_28 : decode cX6_bits 28 = .ok (.iadd, 1) := by decide +kernel
theorem dX6_bits_29 : decode cX6_bits 29 = .ok (.istore 4, 2) := by decide +kernel
theorem dX6_bits_31 : decode cX6_bits 31 = .ok (.iinc 5 1, 3) := by decide +kernel
theorem dX6_bits_34 : decode cX6_bits 34 = .ok (.goto (-28), 3) := by decide +kernel
theorem dX6_bits_37 : decode cX6_bits 37 = .ok (.iload 4, 2) := by decide +kernel
theorem dX6_bits_39 : decode cX6_bits 39 = .ok (.ireturn, 1) := by decide +kernel
theorem dX6_span_0 : decode cX6_span 0 = .ok (.lconst 0, 1) := by decide +kernel
theorem dX6_span_1 : decode cX6_span 1 = .ok (.lstore_n 2, 1) := by decide +kernel
theorem dX6_span_2 : decode cX6_span 2 = .ok (.iload_n 0, 1) := by decide +kernel
theorem dX6_span_3 : decode cX6_span 3 = .ok (.istore 4, 2) := by decide +kernel
theorem dX6_span_5 : decode cX6_span 5 = .ok (.iload 4, 2) := by decide +kernel
theorem dX6_span_7 : decode cX6_span 7 = .ok (.iload_n 1, 1) := by decide +kernel
theorem dX6_span_8 : decode cX6_span 8 = .ok (.if_icmp .gt 16, 3) := by decide +kernel
theorem dX6_span_11 : decode cX6_span 11 = .ok (.lload_n 2, 1) := by decide +kernel
theorem dX6_span_12 : decode cX6_span 12 = .ok (.lconst 1, 1) := by decide +kernel
theorem dX6_span_13 : decode cX6_span 13 = .ok (.iload 4, 2) := by decide +kernel
theorem dX6_span_15 : decode cX6_span 15 = .ok (.lshl, 1) := by decide +kernel
theorem dX6_span_16 : decode cX6_span 16 = .ok (.lor, 1) := by decide +kernel
theorem dX6_span_17 : decode cX6_span 17 = .ok (.lstore_n 2, 1) := by decide +kernel
theorem dX6_span_18 : decode cX6_span 18 = .ok (.iinc 4 1, 3) := by decide +kernel
theorem dX6_span_21 : decode cX6_span 21 = .ok (.goto (-16), 3) := by decide +kernel
theorem dX6_span_24 : decode cX6_span 24 = .ok (.lload_n 2, 1) := by decide +kernel
theorem dX6_span_25 : decode cX6_span 25 = .ok (.lreturn, 1) := by decide +kernel
theorem dX6_keeps_0 : decode cX6_keeps 0 = .ok (.aload_n 0, 1) := by decide +kernel
theorem dX6_keeps_1 : decode cX6_keeps 1 = .ok (.getfield 62, 3) := by decide +kernel
theorem dX6_keeps_4 : decode cX6_keeps 4 = .ok (.bipush 8, 2) := by decide +kernel
theorem dX6_keeps_6 : decode cX6_keeps 6 = .ok (.if_icmp .ne 43, 3) := by decide +kernel
theorem dX6_keeps_9 : decode cX6_keeps 9 = .ok (.iconst 0, 1) := by decide +kernel
theorem dX6_keeps_10 : decode cX6_keeps 10 = .ok (.istore_n 1, 1) := by decide +kernel
theorem dX6_keeps_11 : decode cX6_keeps 11 = .ok (.iload_n 1, 1) := by decide +kernel
theorem dX6_keeps_12 : decode cX6_keeps 12 = .ok (.sipush 336, 3) := by decide +kernel
theorem dX6_keeps_15 : decode cX6_keeps 15 = .ok (.if_icmp .ge 24, 3) := by decide +kernel
theorem dX6_keeps_18 : decode cX6_keeps 18 = .ok (.aload_n 0, 1) := by decide +kernel
theorem dX6_keeps_19 : decode cX6_keeps 19 = .ok (.getfield 19, 3) := by decide +kernel
theorem dX6_keeps_22 : decode cX6_keeps 22 = .ok (.iload_n 1, 1) := by decide +kernel
theorem dX6_keeps_23 : decode cX6_keeps 23 = .ok (.aload_n 0, 1) := by decide +kernel
theorem dX6_keeps_24 : decode cX6_keeps 24 = .ok (.getfield 19, 3) := by decide +kernel
theorem dX6_keeps_27 : decode cX6_keeps 27 = .ok (.iload_n 1, 1) := by decide +kernel
theorem dX6_keeps_28 : decode cX6_keeps 28 = .ok (.bipush 48, 2) := by decide +kernel
theorem dX6_keeps_30 : decode cX6_keeps 30 = .ok (.iadd, 1) := by decide +kernel
theorem dX6_keeps_31 : decode cX6_keeps 31 = .ok (.laload, 1) := by decide +kernel
theorem dX6_keeps_32 : decode cX6_keeps 32 = .ok (.lastore, 1) := by decide +kernel
theorem dX6_keeps_33 : decode cX6_keeps 33 = .ok (.iinc 1 1, 3) := by decide +kernel
theorem dX6_keeps_36 : decode cX6_keeps 36 = .ok (.goto (-25), 3) := by decide +kernel
theorem dX6_keeps_39 : decode cX6_keeps 39 = .ok (.aload_n 0, 1) := by decide +kernel
theorem dX6_keeps_40 : decode cX6_keeps 40 = .ok (.dup, 1) := by decide +kernel
theorem dX6_keeps_41 : decode cX6_keeps 41 = .ok (.getfield 62, 3) := by decide +kernel
theorem dX6_keeps_44 : decode cX6_keeps 44 = .ok (.iconst 1, 1) := by decide +kernel
theorem dX6_keeps_45 : decode cX6_keeps 45 = .ok (.isub, 1) := by decide +kernel
theorem dX6_keeps_46 : decode cX6_keeps 46 = .ok (.putfield 62, 3) := by decide +kernel
theorem dX6_keeps_49 : decode cX6_keeps 49 = .ok (.iconst 0, 1) := by decide +kernel
theorem dX6_keeps_50 : decode cX6_keeps 50 = .ok (.istore_n 1, 1) := by decide +kernel
theorem dX6_keeps_51 : decode cX6_keeps 51 = .ok (.iload_n 1, 1) := by decide +kernel
theorem dX6_keeps_52 : decode cX6_keeps 52 = .ok (.bipush 48, 2) := by decide +kernel
theorem dX6_keeps_54 : decode cX6_keeps 54 = .ok (.if_icmp .ge 29, 3) := by decide +kernel
theorem dX6_keeps_57 : decode cX6_keeps 57 = .ok (.aload_n 0, 1) := by decide +kernel
theorem dX6_keeps_58 : decode cX6_keeps 58 = .ok (.getfield 19, 3) := by decide +kernel
theorem dX6_keeps_61 : decode cX6_keeps 61 = .ok (.bipush 48, 2) := by decide +kernel
theorem dX6_keeps_63 : decode cX6_keeps 63 = .ok (.aload_n 0, 1) := by decide +kernel
theorem dX6_keeps_64 : decode cX6_keeps 64 = .ok (.getfield 62, 3) := by decide +kernel
theorem dX6_keeps_67 : decode cX6_keeps 67 = .ok (.imul, 1) := by decide +kernel
theorem dX6_keeps_68 : decode cX6_keeps 68 = .ok (.iload_n 1, 1) := by decide +kernel
theorem dX6_keeps_69 : decode cX6_keeps 69 = .ok (.iadd, 1) := by decide +kernel
theorem dX6_keeps_70 : decode cX6_keeps 70 = .ok (.aload_n 0, 1) := by decide +kernel
theorem dX6_keeps_71 : decode cX6_keeps 71 = .ok (.getfield 7, 3) := by decide +kernel
theorem dX6_keeps_74 : decode cX6_keeps 74 = .ok (.iload_n 1, 1) := by decide +kernel
theorem dX6_keeps_75 : decode cX6_keeps 75 = .ok (.laload, 1) := by decide +kernel
theorem dX6_keeps_76 : decode cX6_keeps 76 = .ok (.lastore, 1) := by decide +kernel
theorem dX6_keeps_77 : decode cX6_keeps 77 = .ok (.iinc 1 1, 3) := by decide +kernel
theorem dX6_keeps_80 : decode cX6_keeps 80 = .ok (.goto (-29), 3) := by decide +kernel
theorem dX6_keeps_83 : decode cX6_keeps 83 = .ok (.aload_n 0, 1) := by decide +kernel
theorem dX6_keeps_84 : decode cX6_keeps 84 = .ok (.dup, 1) := by decide +kernel
theorem dX6_keeps_85 : decode cX6_keeps 85 = .ok (.getfield 62, 3) := by decide +kernel
theorem dX6_keeps_88 : decode cX6_keeps 88 = .ok (.iconst 1, 1) := by decide +kernel
theorem dX6_keeps_89 : decode cX6_keeps 89 = .ok (.iadd, 1) := by decide +kernel
theorem dX6_keeps_90 : decode cX6_keeps 90 = .ok (.putfield 62, 3) := by decide +kernel
theorem dX6_keeps_93 : decode cX6_keeps 93 = .ok (.return_, 1) := by decide +kernel
theorem dX6_undo_0 : decode cX6_undo 0 = .ok (.aload_n 0, 1) := by decide +kernel
theorem dX6_undo_1 : decode cX6_undo 1 = .ok (.aload_n 0, 1) := by decide +kernel
theorem dX6_undo_2 : decode cX6_undo 2 = .ok (.getfield 62, 3) := by decide +kernel
theorem dX6_undo_5 : decode cX6_undo 5 = .ok (.ifCond .ne 7, 3) := by decide +kernel
theorem dX6_undo_8 : decode cX6_undo 8 = .ok (.iconst 1, 1) := by decide +kernel
theorem dX6_undo_9 : decode cX6_undo 9 = .ok (.goto 4, 3) := by decide +kernel
theorem dX6_undo_12 : decode cX6_undo 12 = .ok (.iconst 0, 1) := by decide +kernel
theorem dX6_undo_13 : decode cX6_undo 13 = .ok (.putfield 55, 3) := by decide +kernel
theorem dX6_undo_16 : decode cX6_undo 16 = .ok (.aload_n 0, 1) := by decide +kernel
theorem dX6_undo_17 : decode cX6_undo 17 = .ok (.getfield 55, 3) := by decide +kernel
theorem dX6_undo_20 : decode cX6_undo 20 = .ok (.ifCond .le 5, 3) := by decide +kernel
theorem dX6_undo_23 : decode cX6_undo 23 = .ok (.iconst 0, 1) := by decide +kernel
theorem dX6_undo_24 : decode cX6_undo 24 = .ok (.ireturn, 1) := by decide +kernel
theorem dX6_undo_25 : decode cX6_undo 25 = .ok (.aload_n 0, 1) := by decide +kernel
theorem dX6_undo_26 : decode cX6_undo 26 = .ok (.dup, 1) := by decide +kernel
theorem dX6_undo_27 : decode cX6_undo 27 = .ok (.getfield 62, 3) := by decide +kernel
theorem dX6_undo_30 : decode cX6_undo 30 = .ok (.iconst 1, 1) := by decide +kernel
theorem dX6_undo_31 : decode cX6_undo 31 = .ok (.isub, 1) := by decide +kernel
theorem dX6_undo_32 : decode cX6_undo 32 = .ok (.putfield 62, 3) := by decide +kernel
theorem dX6_undo_35 : decode cX6_undo 35 = .ok (.aload_n 0, 1) := by decide +kernel
theorem dX6_undo_36 : decode cX6_undo 36 = .ok (.aload_n 0, 1) := by decide +kernel
theorem dX6_undo_37 : decode cX6_undo 37 = .ok (.getfield 19, 3) := by decide +kernel
theorem dX6_undo_40 : decode cX6_undo 40 = .ok (.bipush 48, 2) := by decide +kernel
theorem dX6_undo_42 : decode cX6_undo 42 = .ok (.aload_n 0, 1) := by decide +kernel
theorem dX6_undo_43 : decode cX6_undo 43 = .ok (.getfield 62, 3) := by decide +kernel
theorem dX6_undo_46 : decode cX6_undo 46 = .ok (.imul, 1) := by decide +kernel
theorem dX6_undo_47 : decode cX6_undo 47 = .ok (.invokevirtual 43, 3) := by decide +kernel
theorem dX6_undo_50 : decode cX6_undo 50 = .ok (.aload_n 0, 1) := by decide +kernel
theorem dX6_undo_51 : decode cX6_undo 51 = .ok (.getfield 62, 3) := by decide +kernel
theorem dX6_undo_54 : decode cX6_undo 54 = .ok (.ireturn, 1) := by decide +kernel
theorem dX6_save_0 : decode cX6_save 0 = .ok (.aload_n 0, 1) := by decide +kernel
theorem dX6_save_1 : decode cX6_save 1 = .ok (.iload_n 1, 1) := by decide +kernel
theorem dX6_save_2 : decode cX6_save 2 = .ok (.i2l, 1) := by decide +kernel
theorem dX6_save_3 : decode cX6_save 3 = .ok (.lconst 0, 1) := by decide +kernel
theorem dX6_save_4 : decode cX6_save 4 = .ok (.lconst 1, 1) := by decide +kernel
theorem dX6_save_5 : decode cX6_save 5 = .ok (.invokestatic 65, 3) := by decide +kernel
theorem dX6_save_8 : decode cX6_save 8 = .ok (.ifCond .eq 7, 3) := by decide +kernel
theorem dX6_save_11 : decode cX6_save 11 = .ok (.iconst 0, 1) := by decide +kernel
theorem dX6_save_12 : decode cX6_save 12 = .ok (.goto 4, 3) := by decide +kernel
theorem dX6_save_15 : decode cX6_save 15 = .ok (.iconst 1, 1) := by decide +kernel
theorem dX6_save_16 : decode cX6_save 16 = .ok (.putfield 55, 3) := by decide +kernel
theorem dX6_save_19 : decode cX6_save 19 = .ok (.aload_n 0, 1) := by decide +kernel
theorem dX6_save_20 : decode cX6_save 20 = .ok (.getfield 55, 3) := by decide +kernel
theorem dX6_save_23 : decode cX6_save 23 = .ok (.ifCond .le 5, 3) := by decide +kernel
theorem dX6_save_26 : decode cX6_save 26 = .ok (.iconst 0, 1) := by decide +kernel
theorem dX6_save_27 : decode cX6_save 27 = .ok (.ireturn, 1) := by decide +kernel
theorem dX6_save_28 : decode cX6_save 28 = .ok (.aload_n 0, 1) := by decide +kernel
theorem dX6_save_29 : decode cX6_save 29 = .ok (.getfield 25, 3) := by decide +kernel
theorem dX6_save_32 : decode cX6_save 32 = .ok (.iload_n 1, 1) := by decide +kernel
theorem dX6_save_33 : decode cX6_save 33 = .ok (.iconst 1, 1) := by decide +kernel
theorem dX6_save_34 : decode cX6_save 34 = .ok (.bastore, 1) := by decide +kernel
theorem dX6_save_35 : decode cX6_save 35 = .ok (.iconst 0, 1) := by decide +kernel
theorem dX6_save_36 : decode cX6_save 36 = .ok (.istore_n 2, 1) := by decide +kernel
theorem dX6_save_37 : decode cX6_save 37 = .ok (.iload_n 2, 1) := by decide +kernel
theorem dX6_save_38 : decode cX6_save 38 = .ok (.bipush 48, 2) := by decide +kernel
theorem dX6_save_40 : decode cX6_save 40 = .ok (.if_icmp .ge 26, 3) := by decide +kernel
theorem dX6_save_43 : decode cX6_save 43 = .ok (.aload_n 0, 1) := by decide +kernel
theorem dX6_save_44 : decode cX6_save 44 = .ok (.getfield 22, 3) := by decide +kernel
theorem dX6_save_47 : decode cX6_save 47 = .ok (.bipush 48, 2) := by decide +kernel
theorem dX6_save_49 : decode cX6_save 49 = .ok (.iload_n 1, 1) := by decide +kernel
theorem dX6_save_50 : decode cX6_save 50 = .ok (.imul, 1) := by decide +kernel
theorem dX6_save_51 : decode cX6_save 51 = .ok (.iload_n 2, 1) := by decide +kernel
theorem dX6_save_52 : decode cX6_save 52 = .ok (.iadd, 1) := by decide +kernel
theorem dX6_save_53 : decode cX6_save 53 = .ok (.aload_n 0, 1) := by decide +kernel
theorem dX6_save_54 : decode cX6_save 54 = .ok (.getfield 7, 3) := by decide +kernel
theorem dX6_save_57 : decode cX6_save 57 = .ok (.iload_n 2, 1) := by decide +kernel
theorem dX6_save_58 : decode cX6_save 58 = .ok (.laload, 1) := by decide +kernel
theorem dX6_save_59 : decode cX6_save 59 = .ok (.lastore, 1) := by decide +kernel
theorem dX6_save_60 : decode cX6_save 60 = .ok (.iinc 2 1, 3) := by decide +kernel
theorem dX6_save_63 : decode cX6_save 63 = .ok (.goto (-26), 3) := by decide +kernel
theorem dX6_save_66 : decode cX6_save 66 = .ok (.aload_n 0, 1) := by decide +kernel
theorem dX6_save_67 : decode cX6_save 67 = .ok (.getfield 7, 3) := by decide +kernel
theorem dX6_save_70 : decode cX6_save 70 = .ok (.bipush 12, 2) := by decide +kernel
theorem dX6_save_72 : decode cX6_save 72 = .ok (.laload, 1) := by decide +kernel
theorem dX6_save_73 : decode cX6_save 73 = .ok (.l2i, 1) := by decide +kernel
theorem dX6_save_74 : decode cX6_save 74 = .ok (.ireturn, 1) := by decide +kernel
theorem dX6_restore_0 : decode cX6_restore 0 = .ok (.aload_n 0, 1) := by decide +kernel
theorem dX6_restore_1 : decode cX6_restore 1 = .ok (.iload_n 1, 1) := by decide +kernel
theorem dX6_restore_2 : decode cX6_restore 2 = .ok (.i2l, 1) := by decide +kernel
theorem dX6_restore_3 : decode cX6_restore 3 = .ok (.lconst 0, 1) := by decide +kernel
theorem dX6_restore_4 : decode cX6_restore 4 = .ok (.lconst 1, 1) := by decide +kernel
theorem dX6_restore_5 : decode cX6_restore 5 = .ok (.invokestatic 65, 3) := by decide +kernel
theorem dX6_restore_8 : decode cX6_restore 8 = .ok (.ifCond .ne 7, 3) := by decide +kernel
theorem dX6_restore_11 : decode cX6_restore 11 = .ok (.iconst 1, 1) := by decide +kernel
theorem dX6_restore_12 : decode cX6_restore 12 = .ok (.goto 17, 3) := by decide +kernel
theorem dX6_restore_15 : decode cX6_restore 15 = .ok (.aload_n 0, 1) := by decide +kernel
theorem dX6_restore_16 : decode cX6_restore 16 = .ok (.getfield 25, 3) := by decide +kernel
theorem dX6_restore_19 : decode cX6_restore 19 = .ok (.iload_n 1, 1) := by decide +kernel
theorem dX6_restore_20 : decode cX6_restore 20 = .ok (.baload, 1) := by decide +kernel
theorem dX6_restore_21 : decode cX6_restore 21 = .ok (.ifCond .eq 7, 3) := by decide +kernel
theorem dX6_restore_24 : decode cX6_restore 24 = .ok (.iconst 0, 1) := by decide +kernel
theorem dX6_restore_25 : decode cX6_restore 25 = .ok (.goto 4, 3) := by decide +kernel
theorem dX6_restore_28 : decode cX6_restore 28 = .ok (.iconst 2, 1) := by decide +kernel
theorem dX6_restore_29 : decode cX6_restore 29 = .ok (.putfield 55, 3) := by decide +kernel
theorem dX6_restore_32 : decode cX6_restore 32 = .ok (.aload_n 0, 1) := by decide +kernel
theorem dX6_restore_33 : decode cX6_restore 33 = .ok (.getfield 55, 3) := by decide +kernel
theorem dX6_restore_36 : decode cX6_restore 36 = .ok (.ifCond .le 5, 3) := by decide +kernel
theorem dX6_restore_39 : decode cX6_restore 39 = .ok (.iconst 0, 1) := by decide +kernel
theorem dX6_restore_40 : decode cX6_restore 40 = .ok (.ireturn, 1) := by decide +kernel
theorem dX6_restore_41 : decode cX6_restore 41 = .ok (.aload_n 0, 1) := by decide +kernel
theorem dX6_restore_42 : decode cX6_restore 42 = .ok (.invokevirtual 69, 3) := by decide +kernel
theorem dX6_restore_45 : decode cX6_restore 45 = .ok (.aload_n 0, 1) := by decide +kernel
theorem dX6_restore_46 : decode cX6_restore 46 = .ok (.aload_n 0, 1) := by decide +kernel
theorem dX6_restore_47 : decode cX6_restore 47 = .ok (.getfield 22, 3) := by decide +kernel
theorem dX6_restore_50 : decode cX6_restore 50 = .ok (.bipush 48, 2) := by decide +kernel
theorem dX6_restore_52 : decode cX6_restore 52 = .ok (.iload_n 1, 1) := by decide +kernel
theorem dX6_restore_53 : decode cX6_restore 53 = .ok (.imul, 1) := by decide +kernel
theorem dX6_restore_54 : decode cX6_restore 54 = .ok (.invokevirtual 43, 3) := by decide +kernel
theorem dX6_restore_57 : decode cX6_restore 57 = .ok (.aload_n 0, 1) := by decide +kernel
theorem dX6_restore_58 : decode cX6_restore 58 = .ok (.getfield 7, 3) := by decide +kernel
theorem dX6_restore_61 : decode cX6_restore 61 = .ok (.bipush 12, 2) := by decide +kernel
theorem dX6_restore_63 : decode cX6_restore 63 = .ok (.laload, 1) := by decide +kernel
theorem dX6_restore_64 : decode cX6_restore 64 = .ok (.l2i, 1) := by decide +kernel
theorem dX6_restore_65 : decode cX6_restore 65 = .ok (.ireturn, 1) := by decide +kernel
theorem dX6_isMinute_0 : decode cX6_isMinute 0 = .ok (.lload_n 0, 1) := by decide +kernel
theorem dX6_isMinute_1 : decode cX6_isMinute 1 = .ok (.lconst 0, 1) := by decide +kernel
theorem dX6_isMinute_2 : decode cX6_isMinute 2 = .ok (.ldc2_w 72, 3) := by decide +kernel
theorem dX6_isMinute_5 : decode cX6_isMinute 5 = .ok (.invokestatic 65, 3) := by decide +kernel
theorem dX6_isMinute_8 : decode cX6_isMinute 8 = .ok (.ireturn, 1) := by decide +kernel
theorem dX6_daysIn_0 : decode cX6_daysIn 0 = .ok (.iload_n 1, 1) := by decide +kernel
theorem dX6_daysIn_1 : decode cX6_daysIn 1 = .ok (.iconst 2, 1) := by decide +kernel
theorem dX6_daysIn_2 : decode cX6_daysIn 2 = .ok (.if_icmp .ne 17, 3) := by decide +kernel
theorem dX6_daysIn_5 : decode cX6_daysIn 5 = .ok (.iload_n 0, 1) := by decide +kernel
theorem dX6_daysIn_6 : decode cX6_daysIn 6 = .ok (.iconst 4, 1) := by decide +kernel
theorem dX6_daysIn_7 : decode cX6_daysIn 7 = .ok (.irem, 1) := by decide +kernel
theorem dX6_daysIn_8 : decode cX6_daysIn 8 = .ok (.ifCond .ne 8, 3) := by decide +kernel
theorem dX6_daysIn_11 : decode cX6_daysIn 11 = .ok (.bipush 29, 2) := by decide +kernel
theorem dX6_daysIn_13 : decode cX6_daysIn 13 = .ok (.goto 5, 3) := by decide +kernel
theorem dX6_daysIn_16 : decode cX6_daysIn 16 = .ok (.bipush 28, 2) := by decide +kernel
theorem dX6_daysIn_18 : decode cX6_daysIn 18 = .ok (.ireturn, 1) := by decide +kernel
theorem dX6_daysIn_19 : decode cX6_daysIn 19 = .ok (.iload_n 1, 1) := by decide +kernel
theorem dX6_daysIn_20 : decode cX6_daysIn 20 = .ok (.iconst 4, 1) := by decide +kernel
theorem dX6_daysIn_21 : decode cX6_daysIn 21 = .ok (.if_icmp .eq 21, 3) := by decide +kernel
theorem dX6_daysIn_24 : decode cX6_daysIn 24 = .ok (.iload_n 1, 1) := by decide +kernel
theorem dX6_daysIn_25 : decode cX6_daysIn 25 = .ok (.bipush 6, 2) := by decide +kernel
theorem dX6_daysIn_27 : decode cX6_daysIn 27 = .ok (.if_icmp .eq 15, 3) := by decide +kernel
theorem dX6_daysIn_30 : decode cX6_daysIn 30 = .ok (.iload_n 1, 1) := by decide +kernel
theorem dX6_daysIn_31 : decode cX6_daysIn 31 = .ok (.bipush 9, 2) := by decide +kernel
theorem dX6_daysIn_33 : decode cX6_daysIn 33 = .ok (.if_icmp .eq 9, 3) := by decide +kernel
theorem dX6_daysIn_36 : decode cX6_daysIn 36 = .ok (.iload_n 1, 1) := by decide +kernel
theorem dX6_daysIn_37 : decode cX6_daysIn 37 = .ok (.bipush 11, 2) := by decide +kernel
theorem dX6_daysIn_39 : decode cX6_daysIn 39 = .ok (.if_icmp .ne 8, 3) := by decide +kernel
theorem dX6_daysIn_42 : decode cX6_daysIn 42 = .ok (.bipush 30, 2) := by decide +kernel
theorem dX6_daysIn_44 : decode cX6_daysIn 44 = .ok (.goto 5, 3) := by decide +kernel
theorem dX6_daysIn_47 : decode cX6_daysIn 47 = .ok (.bipush 31, 2) := by decide +kernel
theorem dX6_daysIn_49 : decode cX6_daysIn 49 = .ok (.ireturn, 1) := by decide +kernel
theorem dX6_daysOf_0 : decode cX6_daysOf 0 = .ok (.iload_n 0, 1) := by decide +kernel
theorem dX6_daysOf_1 : decode cX6_daysOf 1 = .ok (.iconst 4, 1) := by decide +kernel
theorem dX6_daysOf_2 : decode cX6_daysOf 2 = .ok (.irem, 1) := by decide +kernel
theorem dX6_daysOf_3 : decode cX6_daysOf 3 = .ok (.ifCond .ne 9, 3) := by decide +kernel
theorem dX6_daysOf_6 : decode cX6_daysOf 6 = .ok (.sipush 366, 3) := by decide +kernel
theorem dX6_daysOf_9 : decode cX6_daysOf 9 = .ok (.goto 6, 3) := by decide +kernel
theorem dX6_daysOf_12 : decode cX6_daysOf 12 = .ok (.sipush 365, 3) := by decide +kernel
theorem dX6_daysOf_15 : decode cX6_daysOf 15 = .ok (.ireturn, 1) := by decide +kernel
theorem dX6_partOf_0 : decode cX6_partOf 0 = .ok (.iload_n 0, 1) := by decide +kernel
theorem dX6_partOf_1 : decode cX6_partOf 1 = .ok (.sipush 1440, 3) := by decide +kernel
theorem dX6_partOf_4 : decode cX6_partOf 4 = .ok (.idiv, 1) := by decide +kernel
theorem dX6_partOf_5 : decode cX6_partOf 5 = .ok (.istore_n 2, 1) := by decide +kernel
theorem dX6_partOf_6 : decode cX6_partOf 6 = .ok (.iload_n 1, 1) := by decide +kernel
theorem dX6_partOf_7 : decode cX6_partOf 7 = .ok (.iconst 3, 1) := by decide +kernel
theorem dX6_partOf_8 : decode cX6_partOf 8 = .ok (.if_icmp .ne 11, 3) := by decide +kernel
theorem dX6_partOf_11 : decode cX6_partOf 11 = .ok (.iload_n 0, 1) := by decide +kernel
theorem dX6_partOf_12 : decode cX6_partOf 12 = .ok (.bipush 60, 2) := by decide +kernel
theorem dX6_partOf_14 : decode cX6_partOf 14 = .ok (.idiv, 1) := by decide +kernel
theorem dX6_partOf_15 : decode cX6_partOf 15 = .ok (.bipush 24, 2) := by decide +kernel
theorem dX6_partOf_17 : decode cX6_partOf 17 = .ok (.irem, 1) := by decide +kernel
theorem dX6_partOf_18 : decode cX6_partOf 18 = .ok (.ireturn, 1) := by decide +kernel
theorem dX6_partOf_19 : decode cX6_partOf 19 = .ok (.iload_n 1, 1) := by decide +kernel
theorem dX6_partOf_20 : decode cX6_partOf 20 = .ok (.iconst 4, 1) := by decide +kernel
theorem dX6_partOf_21 : decode cX6_partOf 21 = .ok (.if_icmp .ne 8, 3) := by decide +kernel
theorem dX6_partOf_24 : decode cX6_partOf 24 = .ok (.iload_n 0, 1) := by decide +kernel
theorem dX6_partOf_25 : decode cX6_partOf 25 = .ok (.bipush 60, 2) := by decide +kernel
theorem dX6_partOf_27 : decode cX6_partOf 27 = .ok (.irem, 1) := by decide +kernel
theorem dX6_partOf_28 : decode cX6_partOf 28 = .ok (.ireturn, 1) := by decide +kernel
theorem dX6_partOf_29 : decode cX6_partOf 29 = .ok (.iload_n 1, 1) := by decide +kernel
theorem dX6_partOf_30 : decode cX6_partOf 30 = .ok (.iconst 5, 1) := by decide +kernel
theorem dX6_partOf_31 : decode cX6_partOf 31 = .ok (.if_icmp .ne 12, 3) := by decide +kernel
theorem dX6_partOf_34 : decode cX6_partOf 34 = .ok (.iload_n 2, 1) := by decide +kernel
theorem dX6_partOf_35 : decode cX6_partOf 35 = .ok (.iconst 5, 1) := by decide +kernel
theorem dX6_partOf_36 : decode cX6_partOf 36 = .ok (.iadd, 1) := by decide +kernel
theorem dX6_partOf_37 : decode cX6_partOf 37 = .ok (.bipush 7, 2) := by decide +kernel
theorem dX6_partOf_39 : decode cX6_partOf 39 = .ok (.irem, 1) := by decide +kernel
theorem dX6_partOf_40 : decode cX6_partOf 40 = .ok (.iconst 1, 1) := by decide +kernel
theorem dX6_partOf_41 : decode cX6_partOf 41 = .ok (.iadd, 1) := by decide +kernel
theorem dX6_partOf_42 : decode cX6_partOf 42 = .ok (.ireturn, 1) := by decide +kernel
theorem dX6_partOf_43 : decode cX6_partOf 43 = .ok (.sipush 2000, 3) := by decide +kernel
theorem dX6_partOf_46 : decode cX6_partOf 46 = .ok (.istore_n 3, 1) := by decide +kernel
theorem dX6_partOf_47 : decode cX6_partOf 47 = .ok (.iload_n 2, 1) := by decide +kernel
theorem dX6_partOf_48 : decode cX6_partOf 48 = .ok (.iload_n 3, 1) := by decide +kernel
theorem dX6_partOf_49 : decode cX6_partOf 49 = .ok (.invokestatic 74, 3) := by decide +kernel
theorem dX6_partOf_52 : decode cX6_partOf 52 = .ok (.if_icmp .lt 16, 3) := by decide +kernel
theorem dX6_partOf_55 : decode cX6_partOf 55 = .ok (.iload_n 2, 1) := by decide +kernel
theorem dX6_partOf_56 : decode cX6_partOf 56 = .ok (.iload_n 3, 1) := by decide +kernel
theorem dX6_partOf_57 : decode cX6_partOf 57 = .ok (.invokestatic 74, 3) := by decide +kernel
theorem dX6_partOf_60 : decode cX6_partOf 60 = .ok (.isub, 1) := by decide +kernel
theorem dX6_partOf_61 : decode cX6_partOf 61 = .ok (.istore_n 2, 1) := by decide +kernel
theorem dX6_partOf_62 : decode cX6_partOf 62 = .ok (.iinc 3 1, 3) := by decide +kernel
theorem dX6_partOf_65 : decode cX6_partOf 65 = .ok (.goto (-18), 3) := by decide +kernel
theorem dX6_partOf_68 : decode cX6_partOf 68 = .ok (.iconst 1, 1) := by decide +kernel
theorem dX6_partOf_69 : decode cX6_partOf 69 = .ok (.istore 4, 2) := by decide +kernel
theorem dX6_partOf_71 : decode cX6_partOf 71 = .ok (.iload_n 2, 1) := by decide +kernel
theorem dX6_partOf_72 : decode cX6_partOf 72 = .ok (.iload_n 3, 1) := by decide +kernel
theorem dX6_partOf_73 : decode cX6_partOf 73 = .ok (.iload 4, 2) := by decide +kernel
theorem dX6_partOf_75 : decode cX6_partOf 75 = .ok (.invokestatic 78, 3) := by decide +kernel
theorem dX6_partOf_78 : decode cX6_partOf 78 = .ok (.if_icmp .lt 18, 3) := by decide +kernel
theorem dX6_partOf_81 : decode cX6_partOf 81 = .ok (.iload_n 2, 1) := by decide +kernel
theorem dX6_partOf_82 : decode cX6_partOf 82 = .ok (.iload_n 3, 1) := by decide +kernel
theorem dX6_partOf_83 : decode cX6_partOf 83 = .ok (.iload 4, 2) := by decide +kernel
theorem dX6_partOf_85 : decode cX6_partOf 85 = .ok (.invokestatic 78, 3) := by decide +kernel
theorem dX6_partOf_88 : decode cX6_partOf 88 = .ok (.isub, 1) := by decide +kernel
theorem dX6_partOf_89 : decode cX6_partOf 89 = .ok (.istore_n 2, 1) := by decide +kernel
theorem dX6_partOf_90 : decode cX6_partOf 90 = .ok (.iinc 4 1, 3) := by decide +kernel
theorem dX6_partOf_93 : decode cX6_partOf 93 = .ok (.goto (-22), 3) := by decide +kernel
theorem dX6_partOf_96 : decode cX6_partOf 96 = .ok (.iload_n 1, 1) := by decide +kernel
theorem dX6_partOf_97 : decode cX6_partOf 97 = .ok (.ifCond .ne 7, 3) := by decide +kernel
theorem dX6_partOf_100 : decode cX6_partOf 100 = .ok (.iload_n 3, 1) := by decide +kernel
theorem dX6_partOf_101 : decode cX6_partOf 101 = .ok (.goto 16, 3) := by decide +kernel
theorem dX6_partOf_104 : decode cX6_partOf 104 = .ok (.iload_n 1, 1) := by decide +kernel
theorem dX6_partOf_105 : decode cX6_partOf 105 = .ok (.iconst 1, 1) := by decide +kernel
theorem dX6_partOf_106 : decode cX6_partOf 106 = .ok (.if_icmp .ne 8, 3) := by decide +kernel
theorem dX6_partOf_109 : decode cX6_partOf 109 = .ok (.iload 4, 2) := by decide +kernel
theorem dX6_partOf_111 : decode cX6_partOf 111 = .ok (.goto 6, 3) := by decide +kernel
theorem dX6_partOf_114 : decode cX6_partOf 114 = .ok (.iload_n 2, 1) := by decide +kernel
theorem dX6_partOf_115 : decode cX6_partOf 115 = .ok (.iconst 1, 1) := by decide +kernel
theorem dX6_partOf_116 : decode cX6_partOf 116 = .ok (.iadd, 1) := by decide +kernel
theorem dX6_partOf_117 : decode cX6_partOf 117 = .ok (.ireturn, 1) := by decide +kernel
theorem dX6_part_0 : decode cX6_part 0 = .ok (.aload_n 0, 1) := by decide +kernel
theorem dX6_part_1 : decode cX6_part 1 = .ok (.iload_n 1, 1) := by decide +kernel
theorem dX6_part_2 : decode cX6_part 2 = .ok (.i2l, 1) := by decide +kernel
theorem dX6_part_3 : decode cX6_part 3 = .ok (.invokestatic 82, 3) := by decide +kernel
theorem dX6_part_6 : decode cX6_part 6 = .ok (.ifCond .eq 19, 3) := by decide +kernel
theorem dX6_part_9 : decode cX6_part 9 = .ok (.iload_n 2, 1) := by decide +kernel
theorem dX6_part_10 : decode cX6_part 10 = .ok (.i2l, 1) := by decide +kernel
theorem dX6_part_11 : decode cX6_part 11 = .ok (.lconst 0, 1) := by decide +kernel
theorem dX6_part_12 : decode cX6_part 12 = .ok (.ldc2_w 51, 3) := by decide +kernel
theorem dX6_part_15 : decode cX6_part 15 = .ok (.invokestatic 65, 3) := by decide +kernel
theorem dX6_part_18 : decode cX6_part 18 = .ok (.ifCond .eq 7, 3) := by decide +kernel
theorem dX6_part_21 : decode cX6_part 21 = .ok (.iconst 0, 1) := by decide +kernel
theorem dX6_part_22 : decode cX6_part 22 = .ok (.goto 4, 3) := by decide +kernel
theorem dX6_part_25 : decode cX6_part 25 = .ok (.iconst 1, 1) := by decide +kernel
theorem dX6_part_26 : decode cX6_part 26 = .ok (.putfield 55, 3) := by decide +kernel
theorem dX6_part_29 : decode cX6_part 29 = .ok (.aload_n 0, 1) := by decide +kernel
theorem dX6_part_30 : decode cX6_part 30 = .ok (.getfield 55, 3) := by decide +kernel
theorem dX6_part_33 : decode cX6_part 33 = .ok (.ifCond .le 7, 3) := by decide +kernel
theorem dX6_part_36 : decode cX6_part 36 = .ok (.iconst 0, 1) := by decide +kernel
theorem dX6_part_37 : decode cX6_part 37 = .ok (.goto 8, 3) := by decide +kernel
theorem dX6_part_40 : decode cX6_part 40 = .ok (.iload_n 1, 1) := by decide +kernel
theorem dX6_part_41 : decode cX6_part 41 = .ok (.iload_n 2, 1) := by decide +kernel
theorem dX6_part_42 : decode cX6_part 42 = .ok (.invokestatic 86, 3) := by decide +kernel
theorem dX6_part_45 : decode cX6_part 45 = .ok (.ireturn, 1) := by decide +kernel
theorem dX6_isDay_0 : decode cX6_isDay 0 = .ok (.iload_n 0, 1) := by decide +kernel
theorem dX6_isDay_1 : decode cX6_isDay 1 = .ok (.i2l, 1) := by decide +kernel
theorem dX6_isDay_2 : decode cX6_isDay 2 = .ok (.ldc2_w 89, 3) := by decide +kernel
theorem dX6_isDay_5 : decode cX6_isDay 5 = .ok (.ldc2_w 91, 3) := by decide +kernel
theorem dX6_isDay_8 : decode cX6_isDay 8 = .ok (.invokestatic 65, 3) := by decide +kernel
theorem dX6_isDay_11 : decode cX6_isDay 11 = .ok (.ifCond .eq 34, 3) := by decide +kernel
theorem dX6_isDay_14 : decode cX6_isDay 14 = .ok (.iload_n 1, 1) := by decide +kernel
theorem dX6_isDay_15 : decode cX6_isDay 15 = .ok (.i2l, 1) := by decide +kernel
theorem dX6_isDay_16 : decode cX6_isDay 16 = .ok (.lconst 1, 1) := by decide +kernel
theorem dX6_isDay_17 : decode cX6_isDay 17 = .ok (.ldc2_w 93, 3) := by decide +kernel
theorem dX6_isDay_20 : decode cX6_isDay 20 = .ok (.invokestatic 65, 3) := by decide +kernel
theorem dX6_isDay_23 : decode cX6_isDay 23 = .ok (.ifCond .eq 22, 3) := by decide +kernel
theorem dX6_isDay_26 : decode cX6_isDay 26 = .ok (.iload_n 2, 1) := by decide +kernel
theorem dX6_isDay_27 : decode cX6_isDay 27 = .ok (.i2l, 1) := by decide +kernel
theorem dX6_isDay_28 : decode cX6_isDay 28 = .ok (.lconst 1, 1) := by decide +kernel
theorem dX6_isDay_29 : decode cX6_isDay 29 = .ok (.iload_n 0, 1) := by decide +kernel
theorem dX6_isDay_30 : decode cX6_isDay 30 = .ok (.iload_n 1, 1) := by decide +kernel
theorem dX6_isDay_31 : decode cX6_isDay 31 = .ok (.invokestatic 78, 3) := by decide +kernel
theorem dX6_isDay_34 : decode cX6_isDay 34 = .ok (.i2l, 1) := by decide +kernel
theorem dX6_isDay_35 : decode cX6_isDay 35 = .ok (.invokestatic 65, 3) := by decide +kernel
theorem dX6_isDay_38 : decode cX6_isDay 38 = .ok (.ifCond .eq 7, 3) := by decide +kernel
theorem dX6_isDay_41 : decode cX6_isDay 41 = .ok (.iconst 1, 1) := by decide +kernel
theorem dX6_isDay_42 : decode cX6_isDay 42 = .ok (.goto 4, 3) := by decide +kernel
theorem dX6_isDay_45 : decode cX6_isDay 45 = .ok (.iconst 0, 1) := by decide +kernel
theorem dX6_isDay_46 : decode cX6_isDay 46 = .ok (.ireturn, 1) := by decide +kernel
theorem dX6_numberFor_0 : decode cX6_numberFor 0 = .ok (.iload_n 2, 1) := by decide +kernel
theorem dX6_numberFor_1 : decode cX6_numberFor 1 = .ok (.iconst 1, 1) := by decide +kernel
theorem dX6_numberFor_2 : decode cX6_numberFor 2 = .ok (.isub, 1) := by decide +kernel
theorem dX6_numberFor_3 : decode cX6_numberFor 3 = .ok (.istore 5, 2) := by decide +kernel
theorem dX6_numberFor_5 : decode cX6_numberFor 5 = .ok (.sipush 2000, 3) := by decide +kernel
theorem dX6_numberFor_8 : decode cX6_numberFor 8 = .ok (.istore 6, 2) := by decide +kernel
theorem dX6_numberFor_10 : decode cX6_numberFor 10 = .ok (.iload 6, 2) := by decide +kernel
theorem dX6_numberFor_12 : decode cX6_numberFor 12 = .ok (.iload_n 0, 1) := by decide +kernel
theorem dX6_numberFor_13 : decode cX6_numberFor 13 = .ok (.if_icmp .ge 19, 3) := by decide +kernel
theorem dX6_numberFor_16 : decode cX6_numberFor 16 = .ok (.iload 5, 2) := by decide +kernel
theorem dX6_numberFor_18 : decode cX6_numberFor 18 = .ok (.iload 6, 2) := by decide +kernel
theorem dX6_numberFor_20 : decode cX6_numberFor 20 = .ok (.invokestatic 74, 3) := by decide +kernel
theorem dX6_numberFor_23 : decode cX6_numberFor 23 = .ok (.iadd, 1) := by decide +kernel
theorem dX6_numberFor_24 : decode cX6_numberFor 24 = .ok (.istore 5, 2) := by decide +kernel
theorem dX6_numberFor_26 : decode cX6_numberFor 26 = .ok (.iinc 6 1, 3) := by decide +kernel
theorem dX6_numberFor_29 : decode cX6_numberFor 29 = .ok (.goto (-19), 3) := by decide +kernel
theorem dX6_numberFor_32 : decode cX6_numberFor 32 = .ok (.iconst 1, 1) := by decide +kernel
theorem dX6_numberFor_33 : decode cX6_numberFor 33 = .ok (.istore 6, 2) := by decide +kernel
theorem dX6_numberFor_35 : decode cX6_numberFor 35 = .ok (.iload 6, 2) := by decide +kernel
theorem dX6_numberFor_37 : decode cX6_numberFor 37 = .ok (.iload_n 1, 1) := by decide +kernel
theorem dX6_numberFor_38 : decode cX6_numberFor 38 = .ok (.if_icmp .ge 20, 3) := by decide +kernel
theorem dX6_numberFor_41 : decode cX6_numberFor 41 = .ok (.iload 5, 2) := by decide +kernel
theorem dX6_numberFor_43 : decode cX6_numberFor 43 = .ok (.iload_n 0, 1) := by decide +kernel
theorem dX6_numberFor_44 : decode cX6_numberFor 44 = .ok (.iload 6, 2) := by decide +kernel
theorem dX6_numberFor_46 : decode cX6_numberFor 46 = .ok (.invokestatic 78, 3) := by decide +kernel
theorem dX6_numberFor_49 : decode cX6_numberFor 49 = .ok (.iadd, 1) := by decide +kernel
theorem dX6_numberFor_50 : decode cX6_numberFor 50 = .ok (.istore 5, 2) := by decide +kernel
theorem dX6_numberFor_52 : decode cX6_numberFor 52 = .ok (.iinc 6 1, 3) := by decide +kernel
theorem dX6_numberFor_55 : decode cX6_numberFor 55 = .ok (.goto (-20), 3) := by decide +kernel
theorem dX6_numberFor_58 : decode cX6_numberFor 58 = .ok (.sipush 1440, 3) := by decide +kernel
theorem dX6_numberFor_61 : decode cX6_numberFor 61 = .ok (.iload 5, 2) := by decide +kernel
theorem dX6_numberFor_63 : decode cX6_numberFor 63 = .ok (.imul, 1) := by decide +kernel
theorem dX6_numberFor_64 : decode cX6_numberFor 64 = .ok (.bipush 60, 2) := by decide +kernel
theorem dX6_numberFor_66 : decode cX6_numberFor 66 = .ok (.iload_n 3, 1) := by decide +kernel
theorem dX6_numberFor_67 : decode cX6_numberFor 67 = .ok (.imul, 1) := by decide +kernel
theorem dX6_numberFor_68 : decode cX6_numberFor 68 = .ok (.iadd, 1) := by decide +kernel
theorem dX6_numberFor_69 : decode cX6_numberFor 69 = .ok (.iload 4, 2) := by decide +kernel
theorem dX6_numberFor_71 : decode cX6_numberFor 71 = .ok (.iadd, 1) := by decide +kernel
theorem dX6_numberFor_72 : decode cX6_numberFor 72 = .ok (.ireturn, 1) := by decide +kernel
theorem dX6_number_0 : decode cX6_number 0 = .ok (.aload_n 0, 1) := by decide +kernel
theorem dX6_number_1 : decode cX6_number 1 = .ok (.iload_n 1, 1) := by decide +kernel
theorem dX6_number_2 : decode cX6_number 2 = .ok (.iload_n 2, 1) := by decide +kernel
theorem dX6_number_3 : decode cX6_number 3 = .ok (.iload_n 3, 1) := by decide +kernel
theorem dX6_number_4 : decode cX6_number 4 = .ok (.invokestatic 95, 3) := by decide +kernel
theorem dX6_number_7 : decode cX6_number 7 = .ok (.ifCond .eq 33, 3) := by decide +kernel
theorem dX6_number_10 : decode cX6_number 10 = .ok (.iload 4, 2) := by decide +kernel
theorem dX6_number_12 : decode cX6_number 12 = .ok (.i2l, 1) := by decide +kernel
theorem dX6_number_13 : decode cX6_number 13 = .ok (.lconst 0, 1) := by decide +kernel
theorem dX6_number_14 : decode cX6_number 14 = .ok (.ldc2_w 99, 3) := by decide +kernel
theorem dX6_number_17 : decode cX6_number 17 = .ok (.invokestatic 65, 3) := by decide +kernel
theorem dX6_number_20 : decode cX6_number 20 = .ok (.ifCond .eq 20, 3) := by decide +kernel
theorem dX6_number_23 : decode cX6_number 23 = .ok (.iload 5, 2) := by decide +kernel
theorem dX6_number_25 : decode cX6_number 25 = .ok (.i2l, 1) := by decide +kernel
theorem dX6_number_26 : decode cX6_number 26 = .ok (.lconst 0, 1) := by decide +kernel
theorem dX6_number_27 : decode cX6_number 27 = .ok (.ldc2_w 101, 3) := by decide +kernel
theorem dX6_number_30 : decode cX6_number 30 = .ok (.invokestatic 65, 3) := by decide +kernel
theorem dX6_number_33 : decode cX6_number 33 = .ok (.ifCond .eq 7, 3) := by decide +kernel
theorem dX6_number_36 : decode cX6_number 36 = .ok (.iconst 0, 1) := by decide +kernel
theorem dX6_number_37 : decode cX6_number 37 = .ok (.goto 4, 3) := by decide +kernel
theorem dX6_number_40 : decode cX6_number 40 = .ok (.iconst 1, 1) := by decide +kernel
theorem dX6_number_41 : decode cX6_number 41 = .ok (.putfield 55, 3) := by decide +kernel
theorem dX6_number_44 : decode cX6_number 44 = .ok (.aload_n 0, 1) := by decide +kernel
theorem dX6_number_45 : decode cX6_number 45 = .ok (.getfield 55, 3) := by decide +kernel
theorem dX6_number_48 : decode cX6_number 48 = .ok (.ifCond .le 7, 3) := by decide +kernel
theorem dX6_number_51 : decode cX6_number 51 = .ok (.iconst 0, 1) := by decide +kernel
theorem dX6_number_52 : decode cX6_number 52 = .ok (.goto 13, 3) := by decide +kernel
theorem dX6_number_55 : decode cX6_number 55 = .ok (.iload_n 1, 1) := by decide +kernel
theorem dX6_number_56 : decode cX6_number 56 = .ok (.iload_n 2, 1) := by decide +kernel
theorem dX6_number_57 : decode cX6_number 57 = .ok (.iload_n 3, 1) := by decide +kernel
theorem dX6_number_58 : decode cX6_number 58 = .ok (.iload 4, 2) := by decide +kernel
theorem dX6_number_60 : decode cX6_number 60 = .ok (.iload 5, 2) := by decide +kernel
theorem dX6_number_62 : decode cX6_number 62 = .ok (.invokestatic 103, 3) := by decide +kernel
theorem dX6_number_65 : decode cX6_number 65 = .ok (.ireturn, 1) := by decide +kernel
theorem dX6_digits_0 : decode cX6_digits 0 = .ok (.iload_n 0, 1) := by decide +kernel
theorem dX6_digits_1 : decode cX6_digits 1 = .ok (.bipush 10, 2) := by decide +kernel
theorem dX6_digits_3 : decode cX6_digits 3 = .ok (.irem, 1) := by decide +kernel
theorem dX6_digits_4 : decode cX6_digits 4 = .ok (.iload_n 0, 1) := by decide +kernel
theorem dX6_digits_5 : decode cX6_digits 5 = .ok (.bipush 10, 2) := by decide +kernel
theorem dX6_digits_7 : decode cX6_digits 7 = .ok (.idiv, 1) := by decide +kernel
theorem dX6_digits_8 : decode cX6_digits 8 = .ok (.iconst 4, 1) := by decide +kernel
theorem dX6_digits_9 : decode cX6_digits 9 = .ok (.ishl, 1) := by decide +kernel
theorem dX6_digits_10 : decode cX6_digits 10 = .ok (.ior, 1) := by decide +kernel
theorem dX6_digits_11 : decode cX6_digits 11 = .ok (.i2l, 1) := by decide +kernel
theorem dX6_digits_12 : decode cX6_digits 12 = .ok (.iload_n 1, 1) := by decide +kernel
theorem dX6_digits_13 : decode cX6_digits 13 = .ok (.lshl, 1) := by decide +kernel
theorem dX6_digits_14 : decode cX6_digits 14 = .ok (.lreturn, 1) := by decide +kernel
theorem dX6_parity_0 : decode cX6_parity 0 = .ok (.lload_n 0, 1) := by decide +kernel
theorem dX6_parity_1 : decode cX6_parity 1 = .ok (.iload_n 2, 1) := by decide +kernel
theorem dX6_parity_2 : decode cX6_parity 2 = .ok (.iload_n 3, 1) := by decide +kernel
theorem dX6_parity_3 : decode cX6_parity 3 = .ok (.iconst 1, 1) := by decide +kernel
theorem dX6_parity_4 : decode cX6_parity 4 = .ok (.isub, 1) := by decide +kernel
theorem dX6_parity_5 : decode cX6_parity 5 = .ok (.invokestatic 107, 3) := by decide +kernel
theorem dX6_parity_8 : decode cX6_parity 8 = .ok (.iconst 2, 1) := by decide +kernel
theorem dX6_parity_9 : decode cX6_parity 9 = .ok (.irem, 1) := by decide +kernel
theorem dX6_parity_10 : decode cX6_parity 10 = .ok (.iconst 1, 1) := by decide +kernel
theorem dX6_parity_11 : decode cX6_parity 11 = .ok (.if_icmp .ne 9, 3) := by decide +kernel
theorem dX6_parity_14 : decode cX6_parity 14 = .ok (.lconst 1, 1) := by decide +kernel
theorem dX6_parity_15 : decode cX6_parity 15 = .ok (.iload_n 3, 1) := by decide +kernel
theorem dX6_parity_16 : decode cX6_parity 16 = .ok (.lshl, 1) := by decide +kernel
theorem dX6_parity_17 : decode cX6_parity 17 = .ok (.goto 4, 3) := by decide +kernel
theorem dX6_parity_20 : decode cX6_parity 20 = .ok (.lconst 0, 1) := by decide +kernel
theorem dX6_parity_21 : decode cX6_parity 21 = .ok (.lreturn, 1) := by decide +kernel
theorem dX6_codeOf_0 : decode cX6_codeOf 0 = .ok (.ldc2_w 111, 3) := by decide +kernel
theorem dX6_codeOf_3 : decode cX6_codeOf 3 = .ok (.iload_n 1, 1) := by decide +kernel
theorem dX6_codeOf_4 : decode cX6_codeOf 4 = .ok (.ifCond .eq 9, 3) := by decide +kernel
theorem dX6_codeOf_7 : decode cX6_codeOf 7 = .ok (.ldc2_w 113, 3) := by decide +kernel
theorem dX6_codeOf_10 : decode cX6_codeOf 10 = .ok (.goto 4, 3) := by decide +kernel
theorem dX6_codeOf_13 : decode cX6_codeOf 13 = .ok (.lconst 0, 1) := by decide +kernel
theorem dX6_codeOf_14 : decode cX6_codeOf 14 = .ok (.lor, 1) := by decide +kernel
theorem dX6_codeOf_15 : decode cX6_codeOf 15 = .ok (.lstore_n 2, 1) := by decide +kernel
theorem dX6_codeOf_16 : decode cX6_codeOf 16 = .ok (.lload_n 2, 1) := by decide +kernel
theorem dX6_codeOf_17 : decode cX6_codeOf 17 = .ok (.iload_n 0, 1) := by decide +kernel
theorem dX6_codeOf_18 : decode cX6_codeOf 18 = .ok (.iconst 4, 1) := by decide +kernel
theorem dX6_codeOf_19 : decode cX6_codeOf 19 = .ok (.invokestatic 86, 3) := by decide +kernel
theorem dX6_codeOf_22 : decode cX6_codeOf 22 = .ok (.bipush 21, 2) := by decide +kernel
theorem dX6_codeOf_24 : decode cX6_codeOf 24 = .ok (.invokestatic 115, 3) := by decide +kernel
theorem dX6_codeOf_27 : decode cX6_codeOf 27 = .ok (.iload_n 0, 1) := by decide +kernel
theorem dX6_codeOf_28 : decode cX6_codeOf 28 = .ok (.iconst 3, 1) := by decide +kernel
theorem dX6_codeOf_29 : decode cX6_codeOf 29 = .ok (.invokestatic 86, 3) := by decide +kernel
theorem dX6_codeOf_32 : decode cX6_codeOf 32 = .ok (.bipush 29, 2) := by decide +kernel
theorem dX6_codeOf_34 : decode cX6_codeOf 34 = .ok (.invokestatic 115, 3) := by decide +kernel
theorem dX6_codeOf_37 : decode cX6_codeOf 37 = .ok (.lor, 1) := by decide +kernel
theorem dX6_codeOf_38 : decode cX6_codeOf 38 = .ok (.iload_n 0, 1) := by decide +kernel
theorem dX6_codeOf_39 : decode cX6_codeOf 39 = .ok (.iconst 2, 1) := by decide +kernel
theorem dX6_codeOf_40 : decode cX6_codeOf 40 = .ok (.invokestatic 86, 3) := by decide +kernel
theorem dX6_codeOf_43 : decode cX6_codeOf 43 = .ok (.bipush 36, 2) := by decide +kernel
theorem dX6_codeOf_45 : decode cX6_codeOf 45 = .ok (.invokestatic 115, 3) := by decide +kernel
theorem dX6_codeOf_48 : decode cX6_codeOf 48 = .ok (.lor, 1) := by decide +kernel
theorem dX6_codeOf_49 : decode cX6_codeOf 49 = .ok (.iload_n 0, 1) := by decide +kernel
theorem dX6_codeOf_50 : decode cX6_codeOf 50 = .ok (.iconst 5, 1) := by decide +kernel
theorem dX6_codeOf_51 : decode cX6_codeOf 51 = .ok (.invokestatic 86, 3) := by decide +kernel
theorem dX6_codeOf_54 : decode cX6_codeOf 54 = .ok (.bipush 42, 2) := by decide +kernel
theorem dX6_codeOf_56 : decode cX6_codeOf 56 = .ok (.invokestatic 115, 3) := by decide +kernel
theorem dX6_codeOf_59 : decode cX6_codeOf 59 = .ok (.lor, 1) := by decide +kernel
theorem dX6_codeOf_60 : decode cX6_codeOf 60 = .ok (.iload_n 0, 1) := by decide +kernel
theorem dX6_codeOf_61 : decode cX6_codeOf 61 = .ok (.iconst 1, 1) := by decide +kernel
theorem dX6_codeOf_62 : decode cX6_codeOf 62 = .ok (.invokestatic 86, 3) := by decide +kernel
theorem dX6_codeOf_65 : decode cX6_codeOf 65 = .ok (.bipush 45, 2) := by decide +kernel
theorem dX6_codeOf_67 : decode cX6_codeOf 67 = .ok (.invokestatic 115, 3) := by decide +kernel
theorem dX6_codeOf_70 : decode cX6_codeOf 70 = .ok (.lor, 1) := by decide +kernel
theorem dX6_codeOf_71 : decode cX6_codeOf 71 = .ok (.iload_n 0, 1) := by decide +kernel
theorem dX6_codeOf_72 : decode cX6_codeOf 72 = .ok (.iconst 0, 1) := by decide +kernel
theorem dX6_codeOf_73 : decode cX6_codeOf 73 = .ok (.invokestatic 86, 3) := by decide +kernel
theorem dX6_codeOf_76 : decode cX6_codeOf 76 = .ok (.sipush 2000, 3) := by decide +kernel
theorem dX6_codeOf_79 : decode cX6_codeOf 79 = .ok (.isub, 1) := by decide +kernel
theorem dX6_codeOf_80 : decode cX6_codeOf 80 = .ok (.bipush 50, 2) := by decide +kernel
theorem dX6_codeOf_82 : decode cX6_codeOf 82 = .ok (.invokestatic 115, 3) := by decide +kernel
theorem dX6_codeOf_85 : decode cX6_codeOf 85 = .ok (.lor, 1) := by decide +kernel
theorem dX6_codeOf_86 : decode cX6_codeOf 86 = .ok (.lor, 1) := by decide +kernel
theorem dX6_codeOf_87 : decode cX6_codeOf 87 = .ok (.lstore_n 2, 1) := by decide +kernel
theorem dX6_codeOf_88 : decode cX6_codeOf 88 = .ok (.lload_n 2, 1) := by decide +kernel
theorem dX6_codeOf_89 : decode cX6_codeOf 89 = .ok (.lload_n 2, 1) := by decide +kernel
theorem dX6_codeOf_90 : decode cX6_codeOf 90 = .ok (.bipush 21, 2) := by decide +kernel
theorem dX6_codeOf_92 : decode cX6_codeOf 92 = .ok (.bipush 28, 2) := by decide +kernel
theorem dX6_codeOf_94 : decode cX6_codeOf 94 = .ok (.invokestatic 119, 3) := by decide +kernel
theorem dX6_codeOf_97 : decode cX6_codeOf 97 = .ok (.lor, 1) := by decide +kernel
theorem dX6_codeOf_98 : decode cX6_codeOf 98 = .ok (.lload_n 2, 1) := by decide +kernel
theorem dX6_codeOf_99 : decode cX6_codeOf 99 = .ok (.bipush 29, 2) := by decide +kernel
theorem dX6_codeOf_101 : decode cX6_codeOf 101 = .ok (.bipush 35, 2) := by decide +kernel
theorem dX6_codeOf_103 : decode cX6_codeOf 103 = .ok (.invokestatic 119, 3) := by decide +kernel
theorem dX6_codeOf_106 : decode cX6_codeOf 106 = .ok (.lor, 1) := by decide +kernel
theorem dX6_codeOf_107 : decode cX6_codeOf 107 = .ok (.lload_n 2, 1) := by decide +kernel
theorem dX6_codeOf_108 : decode cX6_codeOf 108 = .ok (.bipush 36, 2) := by decide +kernel
theorem dX6_codeOf_110 : decode cX6_codeOf 110 = .ok (.bipush 58, 2) := by decide +kernel
theorem dX6_codeOf_112 : decode cX6_codeOf 112 = .ok (.invokestatic 119, 3) := by decide +kernel
theorem dX6_codeOf_115 : decode cX6_codeOf 115 = .ok (.lor, 1) := by decide +kernel
theorem dX6_codeOf_116 : decode cX6_codeOf 116 = .ok (.lreturn, 1) := by decide +kernel
theorem dX6_code_0 : decode cX6_code 0 = .ok (.aload_n 0, 1) := by decide +kernel
theorem dX6_code_1 : decode cX6_code 1 = .ok (.iload_n 1, 1) := by decide +kernel
theorem dX6_code_2 : decode cX6_code 2 = .ok (.i2l, 1) := by decide +kernel
theorem dX6_code_3 : decode cX6_code 3 = .ok (.invokestatic 82, 3) := by decide +kernel
theorem dX6_code_6 : decode cX6_code 6 = .ok (.ifCond .eq 7, 3) := by decide +kernel
theorem dX6_code_9 : decode cX6_code 9 = .ok (.iconst 0, 1) := by decide +kernel
theorem dX6_code_10 : decode cX6_code 10 = .ok (.goto 4, 3) := by decide +kernel
theorem dX6_code_13 : decode cX6_code 13 = .ok (.iconst 1, 1) := by decide +kernel
theorem dX6_code_14 : decode cX6_code 14 = .ok (.putfield 55, 3) := by decide +kernel
theorem dX6_code_17 : decode cX6_code 17 = .ok (.aload_n 0, 1) := by decide +kernel
theorem dX6_code_18 : decode cX6_code 18 = .ok (.getfield 55, 3) := by decide +kernel
theorem dX6_code_21 : decode cX6_code 21 = .ok (.ifCond .le 7, 3) := by decide +kernel
theorem dX6_code_24 : decode cX6_code 24 = .ok (.lconst 0, 1) := by decide +kernel
theorem dX6_code_25 : decode cX6_code 25 = .ok (.goto 8, 3) := by decide +kernel
theorem dX6_code_28 : decode cX6_code 28 = .ok (.iload_n 1, 1) := by decide +kernel
theorem dX6_code_29 : decode cX6_code 29 = .ok (.iload_n 2, 1) := by decide +kernel
theorem dX6_code_30 : decode cX6_code 30 = .ok (.invokestatic 123, 3) := by decide +kernel
theorem dX6_code_33 : decode cX6_code 33 = .ok (.lreturn, 1) := by decide +kernel
theorem dX6_ones_0 : decode cX6_ones 0 = .ok (.lload_n 0, 1) := by decide +kernel
theorem dX6_ones_1 : decode cX6_ones 1 = .ok (.iload_n 2, 1) := by decide +kernel
theorem dX6_ones_2 : decode cX6_ones 2 = .ok (.lushr, 1) := by decide +kernel
theorem dX6_ones_3 : decode cX6_ones 3 = .ok (.l2i, 1) := by decide +kernel
theorem dX6_ones_4 : decode cX6_ones 4 = .ok (.iconst 1, 1) := by decide +kernel
theorem dX6_ones_5 : decode cX6_ones 5 = .ok (.iload_n 3, 1) := by decide +kernel
theorem dX6_ones_6 : decode cX6_ones 6 = .ok (.ishl, 1) := by decide +kernel
theorem dX6_ones_7 : decode cX6_ones 7 = .ok (.iconst 1, 1) := by decide +kernel
theorem dX6_ones_8 : decode cX6_ones 8 = .ok (.isub, 1) := by decide +kernel
theorem dX6_ones_9 : decode cX6_ones 9 = .ok (.iand, 1) := by decide +kernel
theorem dX6_ones_10 : decode cX6_ones 10 = .ok (.ireturn, 1) := by decide +kernel
theorem dX6_valueOf_0 : decode cX6_valueOf 0 = .ok (.lload_n 0, 1) := by decide +kernel
theorem dX6_valueOf_1 : decode cX6_valueOf 1 = .ok (.iload_n 2, 1) := by decide +kernel
theorem dX6_valueOf_2 : decode cX6_valueOf 2 = .ok (.iconst 4, 1) := by decide +kernel
theorem dX6_valueOf_3 : decode cX6_valueOf 3 = .ok (.invokestatic 127, 3) := by decide +kernel
theorem dX6_valueOf_6 : decode cX6_valueOf 6 = .ok (.istore 4, 2) := by decide +kernel
theorem dX6_valueOf_8 : decode cX6_valueOf 8 = .ok (.lload_n 0, 1) := by decide +kernel
theorem dX6_valueOf_9 : decode cX6_valueOf 9 = .ok (.iload_n 2, 1) := by decide +kernel
theorem dX6_valueOf_10 : decode cX6_valueOf 10 = .ok (.iconst 4, 1) := by decide +kernel
theorem dX6_valueOf_11 : decode cX6_valueOf 11 = .ok (.iadd, 1) := by decide +kernel
theorem dX6_valueOf_12 : decode cX6_valueOf 12 = .ok (.iload_n 3, 1) := by decide +kernel
theorem dX6_valueOf_13 : decode cX6_valueOf 13 = .ok (.invokestatic 127, 3) := by decide +kernel
theorem dX6_valueOf_16 : decode cX6_valueOf 16 = .ok (.istore 5, 2) := by decide +kernel
theorem dX6_valueOf_18 : decode cX6_valueOf 18 = .ok (.iload 4, 2) := by decide +kernel
theorem dX6_valueOf_20 : decode cX6_valueOf 20 = .ok (.bipush 9, 2) := by decide +kernel
theorem dX6_valueOf_22 : decode cX6_valueOf 22 = .ok (.if_icmp .gt 10, 3) := by decide +kernel
theorem dX6_valueOf_25 : decode cX6_valueOf 25 = .ok (.iload 5, 2) := by decide +kernel
theorem dX6_valueOf_27 : decode cX6_valueOf 27 = .ok (.bipush 9, 2) := by decide +kernel
theorem dX6_valueOf_29 : decode cX6_valueOf 29 = .ok (.if_icmp .le 9, 3) := by decide +kernel
theorem dX6_valueOf_32 : decode cX6_valueOf 32 = .ok (.sipush 999, 3) := by decide +kernel
theorem dX6_valueOf_35 : decode cX6_valueOf 35 = .ok (.goto 11, 3) := by decide +kernel
theorem dX6_valueOf_38 : decode cX6_valueOf 38 = .ok (.bipush 10, 2) := by decide +kernel
theorem dX6_valueOf_40 : decode cX6_valueOf 40 = .ok (.iload 5, 2) := by decide +kernel
theorem dX6_valueOf_42 : decode cX6_valueOf 42 = .ok (.imul, 1) := by decide +kernel
theorem dX6_valueOf_43 : decode cX6_valueOf 43 = .ok (.iload 4, 2) := by decide +kernel
theorem dX6_valueOf_45 : decode cX6_valueOf 45 = .ok (.iadd, 1) := by decide +kernel
theorem dX6_valueOf_46 : decode cX6_valueOf 46 = .ok (.ireturn, 1) := by decide +kernel
theorem dX6_isOdd_0 : decode cX6_isOdd 0 = .ok (.lload_n 0, 1) := by decide +kernel
theorem dX6_isOdd_1 : decode cX6_isOdd 1 = .ok (.iload_n 2, 1) := by decide +kernel
theorem dX6_isOdd_2 : decode cX6_isOdd 2 = .ok (.iload_n 3, 1) := by decide +kernel
theorem dX6_isOdd_3 : decode cX6_isOdd 3 = .ok (.invokestatic 107, 3) := by decide +kernel
theorem dX6_isOdd_6 : decode cX6_isOdd 6 = .ok (.iconst 2, 1) := by decide +kernel
theorem dX6_isOdd_7 : decode cX6_isOdd 7 = .ok (.irem, 1) := by decide +kernel
theorem dX6_isOdd_8 : decode cX6_isOdd 8 = .ok (.iconst 1, 1) := by decide +kernel
theorem dX6_isOdd_9 : decode cX6_isOdd 9 = .ok (.if_icmp .ne 7, 3) := by decide +kernel
theorem dX6_isOdd_12 : decode cX6_isOdd 12 = .ok (.iconst 1, 1) := by decide +kernel
theorem dX6_isOdd_13 : decode cX6_isOdd 13 = .ok (.goto 4, 3) := by decide +kernel
theorem dX6_isOdd_16 : decode cX6_isOdd 16 = .ok (.iconst 0, 1) := by decide +kernel
theorem dX6_isOdd_17 : decode cX6_isOdd 17 = .ok (.ireturn, 1) := by decide +kernel
theorem dX6_faultOf_0 : decode cX6_faultOf 0 = .ok (.lload_n 3, 1) := by decide +kernel
theorem dX6_faultOf_1 : decode cX6_faultOf 1 = .ok (.ldc2_w 130, 3) := by decide +kernel
theorem dX6_faultOf_4 : decode cX6_faultOf 4 = .ok (.land, 1) := by decide +kernel
theorem dX6_faultOf_5 : decode cX6_faultOf 5 = .ok (.lconst 0, 1) := by decide +kernel
theorem dX6_faultOf_6 : decode cX6_faultOf 6 = .ok (.lcmp, 1) := by decide +kernel
theorem dX6_faultOf_7 : decode cX6_faultOf 7 = .ok (.ifCond .eq 5, 3) := by decide +kernel
theorem dX6_faultOf_10 : decode cX6_faultOf 10 = .ok (.iconst 1, 1) := by decide +kernel
theorem dX6_faultOf_11 : decode cX6_faultOf 11 = .ok (.ireturn, 1) := by decide +kernel
theorem dX6_faultOf_12 : decode cX6_faultOf 12 = .ok (.lload_n 1, 1) := by decide +kernel
theorem dX6_faultOf_13 : decode cX6_faultOf 13 = .ok (.iconst 0, 1) := by decide +kernel
theorem dX6_faultOf_14 : decode cX6_faultOf 14 = .ok (.invokestatic 58, 3) := by decide +kernel
theorem dX6_faultOf_17 : decode cX6_faultOf 17 = .ok (.ifCond .ne 12, 3) := by decide +kernel
theorem dX6_faultOf_20 : decode cX6_faultOf 20 = .ok (.lload_n 1, 1) := by decide +kernel
theorem dX6_faultOf_21 : decode cX6_faultOf 21 = .ok (.bipush 20, 2) := by decide +kernel
theorem dX6_faultOf_23 : decode cX6_faultOf 23 = .ok (.invokestatic 58, 3) := by decide +kernel
theorem dX6_faultOf_26 : decode cX6_faultOf 26 = .ok (.ifCond .ne 5, 3) := by decide +kernel
theorem dX6_faultOf_29 : decode cX6_faultOf 29 = .ok (.iconst 2, 1) := by decide +kernel
theorem dX6_faultOf_30 : decode cX6_faultOf 30 = .ok (.ireturn, 1) := by decide +kernel
theorem dX6_faultOf_31 : decode cX6_faultOf 31 = .ok (.lload_n 1, 1) := by decide +kernel
theorem dX6_faultOf_32 : decode cX6_faultOf 32 = .ok (.bipush 21, 2) := by decide +kernel
theorem dX6_faultOf_34 : decode cX6_faultOf 34 = .ok (.bipush 28, 2) := by decide +kernel
theorem dX6_faultOf_36 : decode cX6_faultOf 36 = .ok (.invokestatic 132, 3) := by decide +kernel
theorem dX6_faultOf_39 : decode cX6_faultOf 39 = .ok (.ifCond .eq 5, 3) := by decide +kernel
theorem dX6_faultOf_42 : decode cX6_faultOf 42 = .ok (.iconst 3, 1) := by decide +kernel
theorem dX6_faultOf_43 : decode cX6_faultOf 43 = .ok (.ireturn, 1) := by decide +kernel
theorem dX6_faultOf_44 : decode cX6_faultOf 44 = .ok (.lload_n 1, 1) := by decide +kernel
theorem dX6_faultOf_45 : decode cX6_faultOf 45 = .ok (.bipush 29, 2) := by decide +kernel
theorem dX6_faultOf_47 : decode cX6_faultOf 47 = .ok (.bipush 35, 2) := by decide +kernel
theorem dX6_faultOf_49 : decode cX6_faultOf 49 = .ok (.invokestatic 132, 3) := by decide +kernel
theorem dX6_faultOf_52 : decode cX6_faultOf 52 = .ok (.ifCond .eq 5, 3) := by decide +kernel
theorem dX6_faultOf_55 : decode cX6_faultOf 55 = .ok (.iconst 4, 1) := by decide +kernel
theorem dX6_faultOf_56 : decode cX6_faultOf 56 = .ok (.ireturn, 1) := by decide +kernel
theorem dX6_faultOf_57 : decode cX6_faultOf 57 = .ok (.lload_n 1, 1) := by decide +kernel
theorem dX6_faultOf_58 : decode cX6_faultOf 58 = .ok (.bipush 36, 2) := by decide +kernel
theorem dX6_faultOf_60 : decode cX6_faultOf 60 = .ok (.bipush 58, 2) := by decide +kernel
theorem dX6_faultOf_62 : decode cX6_faultOf 62 = .ok (.invokestatic 132, 3) := by decide +kernel
theorem dX6_faultOf_65 : decode cX6_faultOf 65 = .ok (.ifCond .eq 5, 3) := by decide +kernel
theorem dX6_faultOf_68 : decode cX6_faultOf 68 = .ok (.iconst 5, 1) := by decide +kernel
theorem dX6_faultOf_69 : decode cX6_faultOf 69 = .ok (.ireturn, 1) := by decide +kernel
theorem dX6_faultOf_70 : decode cX6_faultOf 70 = .ok (.sipush 2000, 3) := by decide +kernel
theorem dX6_faultOf_73 : decode cX6_faultOf 73 = .ok (.lload_n 1, 1) := by decide +kernel
theorem dX6_faultOf_74 : decode cX6_faultOf 74 = .ok (.bipush 50, 2) := by decide +kernel
theorem dX6_faultOf_76 : decode cX6_faultOf 76 = .ok (.iconst 4, 1) := by decide +kernel
theorem dX6_faultOf_77 : decode cX6_faultOf 77 = .ok (.invokestatic 136, 3) := by decide +kernel
theorem dX6_faultOf_80 : decode cX6_faultOf 80 = .ok (.iadd, 1) := by decide +kernel
theorem dX6_faultOf_81 : decode cX6_faultOf 81 = .ok (.istore 5, 2) := by decide +kernel
theorem dX6_faultOf_83 : decode cX6_faultOf 83 = .ok (.lload_n 1, 1) := by decide +kernel
theorem dX6_faultOf_84 : decode cX6_faultOf 84 = .ok (.bipush 45, 2) := by decide +kernel
theorem dX6_faultOf_86 : decode cX6_faultOf 86 = .ok (.iconst 1, 1) := by decide +kernel
theorem dX6_faultOf_87 : decode cX6_faultOf 87 = .ok (.invokestatic 136, 3) := by decide +kernel
theorem dX6_faultOf_90 : decode cX6_faultOf 90 = .ok (.istore 6, 2) := by decide +kernel
theorem dX6_faultOf_92 : decode cX6_faultOf 92 = .ok (.lload_n 1, 1) := by decide +kernel
theorem dX6_faultOf_93 : decode cX6_faultOf 93 = .ok (.bipush 36, 2) := by decide +kernel
theorem dX6_faultOf_95 : decode cX6_faultOf 95 = .ok (.iconst 2, 1) := by decide +kernel
theorem dX6_faultOf_96 : decode cX6_faultOf 96 = .ok (.invokestatic 136, 3) := by decide +kernel
theorem dX6_faultOf_99 : decode cX6_faultOf 99 = .ok (.istore 7, 2) := by decide +kernel
theorem dX6_faultOf_101 : decode cX6_faultOf 101 = .ok (.lload_n 1, 1) := by decide +kernel
theorem dX6_faultOf_102 : decode cX6_faultOf 102 = .ok (.bipush 29, 2) := by decide +kernel
theorem dX6_faultOf_104 : decode cX6_faultOf 104 = .ok (.iconst 2, 1) := by decide +kernel
theorem dX6_faultOf_105 : decode cX6_faultOf 105 = .ok (.invokestatic 136, 3) := by decide +kernel
theorem dX6_faultOf_108 : decode cX6_faultOf 108 = .ok (.istore 8, 2) := by decide +kernel
theorem dX6_faultOf_110 : decode cX6_faultOf 110 = .ok (.lload_n 1, 1) := by decide +kernel
theorem dX6_faultOf_111 : decode cX6_faultOf 111 = .ok (.bipush 21, 2) := by decide +kernel
theorem dX6_faultOf_113 : decode cX6_faultOf 113 = .ok (.iconst 3, 1) := by decide +kernel
theorem dX6_faultOf_114 : decode cX6_faultOf 114 = .ok (.invokestatic 136, 3) := by decide +kernel
theorem dX6_faultOf_117 : decode cX6_faultOf 117 = .ok (.istore 9, 2) := by decide +kernel
theorem dX6_faultOf_119 : decode cX6_faultOf 119 = .ok (.iload 9, 2) := by decide +kernel
theorem dX6_faultOf_121 : decode cX6_faultOf 121 = .ok (.bipush 59, 2) := by decide +kernel
theorem dX6_faultOf_123 : decode cX6_faultOf 123 = .ok (.if_icmp .gt 22, 3) := by decide +kernel
theorem dX6_faultOf_126 : decode cX6_faultOf 126 = .ok (.iload 8, 2) := by decide +kernel
theorem dX6_faultOf_128 : decode cX6_faultOf 128 = .ok (.bipush 23, 2) := by decide +kernel
theorem dX6_faultOf_130 : decode cX6_faultOf 130 = .ok (.if_icmp .gt 15, 3) := by decide +kernel
theorem dX6_faultOf_133 : decode cX6_faultOf 133 = .ok (.iload 5, 2) := by decide +kernel
theorem dX6_faultOf_135 : decode cX6_faultOf 135 = .ok (.iload 6, 2) := by decide +kernel
theorem dX6_faultOf_137 : decode cX6_faultOf 137 = .ok (.iload 7, 2) := by decide +kernel
theorem dX6_faultOf_139 : decode cX6_faultOf 139 = .ok (.invokestatic 95, 3) := by decide +kernel
theorem dX6_faultOf_142 : decode cX6_faultOf 142 = .ok (.ifCond .ne 6, 3) := by decide +kernel
theorem dX6_faultOf_145 : decode cX6_faultOf 145 = .ok (.bipush 6, 2) := by decide +kernel
theorem dX6_faultOf_147 : decode cX6_faultOf 147 = .ok (.ireturn, 1) := by decide +kernel
theorem dX6_faultOf_148 : decode cX6_faultOf 148 = .ok (.aload_n 0, 1) := by decide +kernel
theorem dX6_faultOf_149 : decode cX6_faultOf 149 = .ok (.iload 5, 2) := by decide +kernel
theorem dX6_faultOf_151 : decode cX6_faultOf 151 = .ok (.iload 6, 2) := by decide +kernel
theorem dX6_faultOf_153 : decode cX6_faultOf 153 = .ok (.iload 7, 2) := by decide +kernel
theorem dX6_faultOf_155 : decode cX6_faultOf 155 = .ok (.iload 8, 2) := by decide +kernel
theorem dX6_faultOf_157 : decode cX6_faultOf 157 = .ok (.iload 9, 2) := by decide +kernel
theorem dX6_faultOf_159 : decode cX6_faultOf 159 = .ok (.invokestatic 103, 3) := by decide +kernel
theorem dX6_faultOf_162 : decode cX6_faultOf 162 = .ok (.putfield 139, 3) := by decide +kernel
theorem dX6_faultOf_165 : decode cX6_faultOf 165 = .ok (.lload_n 1, 1) := by decide +kernel
theorem dX6_faultOf_166 : decode cX6_faultOf 166 = .ok (.bipush 42, 2) := by decide +kernel
theorem dX6_faultOf_168 : decode cX6_faultOf 168 = .ok (.iconst 3, 1) := by decide +kernel
theorem dX6_faultOf_169 : decode cX6_faultOf 169 = .ok (.invokestatic 127, 3) := by decide +kernel
theorem dX6_faultOf_172 : decode cX6_faultOf 172 = .ok (.aload_n 0, 1) := by decide +kernel
theorem dX6_faultOf_173 : decode cX6_faultOf 173 = .ok (.getfield 139, 3) := by decide +kernel
theorem dX6_faultOf_176 : decode cX6_faultOf 176 = .ok (.iconst 5, 1) := by decide +kernel
theorem dX6_faultOf_177 : decode cX6_faultOf 177 = .ok (.invokestatic 86, 3) := by decide +kernel
theorem dX6_faultOf_180 : decode cX6_faultOf 180 = .ok (.if_icmp .ne 7, 3) := by decide +kernel
theorem dX6_faultOf_183 : decode cX6_faultOf 183 = .ok (.iconst 0, 1) := by decide +kernel
theorem dX6_faultOf_184 : decode cX6_faultOf 184 = .ok (.goto 5, 3) := by decide +kernel
theorem dX6_faultOf_187 : decode cX6_faultOf 187 = .ok (.bipush 7, 2) := by decide +kernel
theorem dX6_faultOf_189 : decode cX6_faultOf 189 = .ok (.ireturn, 1) := by decide +kernel
theorem dX6_append_0 : decode cX6_append 0 = .ok (.aload_n 0, 1) := by decide +kernel
theorem dX6_append_1 : decode cX6_append 1 = .ok (.aload_n 0, 1) := by decide +kernel
theorem dX6_append_2 : decode cX6_append 2 = .ok (.getfield 142, 3) := by decide +kernel
theorem dX6_append_5 : decode cX6_append 5 = .ok (.bipush 20, 2) := by decide +kernel
theorem dX6_append_7 : decode cX6_append 7 = .ok (.iadd, 1) := by decide +kernel
theorem dX6_append_8 : decode cX6_append 8 = .ok (.sipush 600, 3) := by decide +kernel
theorem dX6_append_11 : decode cX6_append 11 = .ok (.if_icmp .le 7, 3) := by decide +kernel
theorem dX6_append_14 : decode cX6_append 14 = .ok (.iconst 1, 1) := by decide +kernel
theorem dX6_append_15 : decode cX6_append 15 = .ok (.goto 4, 3) := by decide +kernel
theorem dX6_append_18 : decode cX6_append 18 = .ok (.iconst 0, 1) := by decide +kernel
theorem dX6_append_19 : decode cX6_append 19 = .ok (.putfield 55, 3) := by decide +kernel
theorem dX6_append_22 : decode cX6_append 22 = .ok (.aload_n 0, 1) := by decide +kernel
theorem dX6_append_23 : decode cX6_append 23 = .ok (.getfield 55, 3) := by decide +kernel
theorem dX6_append_26 : decode cX6_append 26 = .ok (.ifCond .le 5, 3) := by decide +kernel
theorem dX6_append_29 : decode cX6_append 29 = .ok (.iconst 0, 1) := by decide +kernel
theorem dX6_append_30 : decode cX6_append 30 = .ok (.ireturn, 1) := by decide +kernel
theorem dX6_append_31 : decode cX6_append 31 = .ok (.iconst 0, 1) := by decide +kernel
theorem dX6_append_32 : decode cX6_append 32 = .ok (.istore 6, 2) := by decide +kernel
theorem dX6_append_34 : decode cX6_append 34 = .ok (.iload 6, 2) := by decide +kernel
theorem dX6_append_36 : decode cX6_append 36 = .ok (.bipush 20, 2) := by decide +kernel
theorem dX6_append_38 : decode cX6_append 38 = .ok (.if_icmp .ge 93, 3) := by decide +kernel
theorem dX6_append_41 : decode cX6_append 41 = .ok (.iload 6, 2) := by decide +kernel
theorem dX6_append_43 : decode cX6_append 43 = .ok (.iconst 4, 1) := by decide +kernel
theorem dX6_append_44 : decode cX6_append 44 = .ok (.if_icmp .ge 7, 3) := by decide +kernel
theorem dX6_append_47 : decode cX6_append 47 = .ok (.iload_n 1, 1) := by decide +kernel
theorem dX6_append_48 : decode cX6_append 48 = .ok (.goto 39, 3) := by decide +kernel
theorem dX6_append_51 : decode cX6_append 51 = .ok (.iload 6, 2) := by decide +kernel
theorem dX6_append_53 : decode cX6_append 53 = .ok (.bipush 8, 2) := by decide +kernel
theorem dX6_append_55 : decode cX6_append 55 = .ok (.if_icmp .ge 7, 3) := by decide +kernel
theorem dX6_append_58 : decode cX6_append 58 = .ok (.iload_n 2, 1) := by decide +kernel
theorem dX6_append_59 : decode cX6_append 59 = .ok (.goto 28, 3) := by decide +kernel
theorem dX6_append_62 : decode cX6_append 62 = .ok (.iload 6, 2) := by decide +kernel
theorem dX6_append_64 : decode cX6_append 64 = .ok (.bipush 12, 2) := by decide +kernel
theorem dX6_append_66 : decode cX6_append 66 = .ok (.if_icmp .ge 7, 3) := by decide +kernel
theorem dX6_append_69 : decode cX6_append 69 = .ok (.iload_n 3, 1) := by decide +kernel
theorem dX6_append_70 : decode cX6_append 70 = .ok (.goto 17, 3) := by decide +kernel
theorem dX6_append_73 : decode cX6_append 73 = .ok (.iload 6, 2) := by decide +kernel
theorem dX6_append_75 : decode cX6_append 75 = .ok (.bipush 16, 2) := by decide +kernel
theorem dX6_append_77 : decode cX6_append 77 = .ok (.if_icmp .ge 8, 3) := by decide +kernel
theorem dX6_append_80 : decode cX6_append 80 = .ok (.iload 4, 2) := by decide +kernel
theorem dX6_append_82 : decode cX6_append 82 = .ok (.goto 5, 3) := by decide +kernel
theorem dX6_append_85 : decode cX6_append 85 = .ok (.iload 5, 2) := by decide +kernel
theorem dX6_append_87 : decode cX6_append 87 = .ok (.istore 7, 2) := by decide +kernel
theorem dX6_append_89 : decode cX6_append 89 = .ok (.aload_n 0, 1) := by decide +kernel
theorem dX6_append_90 : decode cX6_append 90 = .ok (.getfield 29, 3) := by decide +kernel
theorem dX6_append_93 : decode cX6_append 93 = .ok (.aload_n 0, 1) := by decide +kernel
theorem dX6_append_94 : decode cX6_append 94 = .ok (.getfield 142, 3) := by decide +kernel
theorem dX6_append_97 : decode cX6_append 97 = .ok (.iload 7, 2) := by decide +kernel
theorem dX6_append_99 : decode cX6_append 99 = .ok (.bipush 24, 2) := by decide +kernel
theorem dX6_append_101 : decode cX6_append 101 = .ok (.bipush 8, 2) := by decide +kernel
theorem dX6_append_103 : decode cX6_append 103 = .ok (.iload 6, 2) := by decide +kernel
theorem dX6_append_105 : decode cX6_append 105 = .ok (.iconst 4, 1) := by decide +kernel
theorem dX6_append_106 : decode cX6_append 106 = .ok (.irem, 1) := by decide +kernel
theorem dX6_append_107 : decode cX6_append 107 = .ok (.imul, 1) := by decide +kernel
theorem dX6_append_108 : decode cX6_append 108 = .ok (.isub, 1) := by decide +kernel
theorem dX6_append_109 : decode cX6_append 109 = .ok (.ishr, 1) := by decide +kernel
theorem dX6_append_110 : decode cX6_append 110 = .ok (.sipush 255, 3) := by decide +kernel
theorem dX6_append_113 : decode cX6_append 113 = .ok (.iand, 1) := by decide +kernel
theorem dX6_append_114 : decode cX6_append 114 = .ok (.iastore, 1) := by decide +kernel
theorem dX6_append_115 : decode cX6_append 115 = .ok (.aload_n 0, 1) := by decide +kernel
theorem dX6_append_116 : decode cX6_append 116 = .ok (.dup, 1) := by decide +kernel
theorem dX6_append_117 : decode cX6_append 117 = .ok (.getfield 142, 3) := by decide +kernel
theorem dX6_append_120 : decode cX6_append 120 = .ok (.iconst 1, 1) := by decide +kernel
theorem dX6_append_121 : decode cX6_append 121 = .ok (.iadd, 1) := by decide +kernel
theorem dX6_append_122 : decode cX6_append 122 = .ok (.putfield 142, 3) := by decide +kernel
theorem dX6_append_125 : decode cX6_append 125 = .ok (.iinc 6 1, 3) := by decide +kernel
theorem dX6_append_128 : decode cX6_append 128 = .ok (.goto (-94), 3) := by decide +kernel
theorem dX6_append_131 : decode cX6_append 131 = .ok (.aload_n 0, 1) := by decide +kernel
theorem dX6_append_132 : decode cX6_append 132 = .ok (.getfield 142, 3) := by decide +kernel
theorem dX6_append_135 : decode cX6_append 135 = .ok (.ireturn, 1) := by decide +kernel
theorem dX6_see_0 : decode cX6_see 0 = .ok (.iload_n 1, 1) := by decide +kernel
theorem dX6_see_1 : decode cX6_see 1 = .ok (.aload_n 0, 1) := by decide +kernel
theorem dX6_see_2 : decode cX6_see 2 = .ok (.getfield 145, 3) := by decide +kernel
theorem dX6_see_5 : decode cX6_see 5 = .ok (.if_icmp .ge 12, 3) := by decide +kernel
theorem dX6_see_8 : decode cX6_see 8 = .ok (.aload_n 0, 1) := by decide +kernel
theorem dX6_see_9 : decode cX6_see 9 = .ok (.getfield 29, 3) := by decide +kernel
theorem dX6_see_12 : decode cX6_see 12 = .ok (.iload_n 1, 1) := by decide +kernel
theorem dX6_see_13 : decode cX6_see 13 = .ok (.iaload, 1) := by decide +kernel
theorem dX6_see_14 : decode cX6_see 14 = .ok (.goto 4, 3) := by decide +kernel
theorem dX6_see_17 : decode cX6_see 17 = .ok (.iconst (-1), 1) := by decide +kernel
theorem dX6_see_18 : decode cX6_see 18 = .ok (.ireturn, 1) := by decide +kernel
theorem dX6_isLetter_0 : decode cX6_isLetter 0 = .ok (.iload_n 0, 1) := by decide +kernel
theorem dX6_isLetter_1 : decode cX6_isLetter 1 = .ok (.i2l, 1) := by decide +kernel
theorem dX6_isLetter_2 : decode cX6_isLetter 2 = .ok (.ldc2_w 148, 3) := by decide +kernel
theorem dX6_isLetter_5 : decode cX6_isLetter 5 = .ok (.ldc2_w 150, 3) := by decide +kernel
theorem dX6_isLetter_8 : decode cX6_isLetter 8 = .ok (.invokestatic 65, 3) := by decide +kernel
theorem dX6_isLetter_11 : decode cX6_isLetter 11 = .ok (.ireturn, 1) := by decide +kernel
def l_X6_begins_2 (N : Nat) : Nat → Int32 → Ob → Option Ob
  | 0, _, _ => none
  | n + 1, x1, u0 => (if (48 : Int32) ≤ x1 then some (oj (oj (oj (oj (oj (oj (oj u0 1 (vp_updL (u0.2.2.2 1) (0 : Int32).toNatClampNeg (100 : Int64))) 1 (vp_updL (vp_updL (u0.2.2.2 1) (0 : Int32).toNatClampNeg (100 : Int64)) (1 : Int32).toNatClampNeg (3 : Int64))) 1 (vp_updL (vp_updL (vp_updL (u0.2.2.2 1) (0 : Int32).toNatClampNeg (100 : Int64)) (1 : Int32).toNatClampNeg (3 : Int64)) (2 : Int32).toNatClampNeg (5 : Int64))) 1 (vp_updL (vp_updL (vp_updL (vp_updL (u0.2.2.2 1) (0 : Int32).toNatClampNeg (100 : Int64)) (1 : Int32).toNatClampNeg (3 : Int64)) (2 : Int32).toNatClampNeg (5 : Int64)) (5 : Int32).toNatClampNeg (-1 : Int64))) 1 (vp_updL (vp_updL (vp_updL (vp_updL (vp_updL (u0.2.2.2 1) (0 : Int32).toNatClampNeg (100 : Int64)) (1 : Int32).toNatClampNeg (3 : Int64)) (2 : Int32).toNatClampNeg (5 : Int64)) (5 : Int32).toNatClampNeg (-1 : Int64)) (6 : Int32).toNatClampNeg (-1 : Int64))) 1 (vp_updL (vp_updL (vp_updL (vp_updL (vp_updL (vp_updL (u0.2.2.2 1) (0 : Int32).toNatClampNeg (100 : Int64)) (1 : Int32).toNatClampNeg (3 : Int64)) (2 : Int32).toNatClampNeg (5 : Int64)) (5 : Int32).toNatClampNeg (-1 : Int64)) (6 : Int32).toNatClampNeg (-1 : Int64)) (7 : Int32).toNatClampNeg (-1 : Int64))) 1 (vp_updL (vp_updL (vp_updL (vp_updL (vp_updL (vp_updL (vp_updL (u0.2.2.2 1) (0 : Int32).toNatClampNeg (100 : Int64)) (1 : Int32).toNatClampNeg (3 : Int64)) (2 : Int32).toNatClampNeg (5 : Int64)) (5 : Int32).toNatClampNeg (-1 : Int64)) (6 : Int32).toNatClampNeg (-1 : Int64)) (7 : Int32).toNatClampNeg (-1 : Int64)) (9 : Int32).toNatClampNeg (-1 : Int64))) else (if x1 < 0 ∨ 48 ≤ x1.toNatClampNeg then none else l_X6_begins_2 N n (x1 + (1 : Int32)) (oj u0 1 (vp_updL (u0.2.2.2 1) x1.toNatClampNeg (0 : Int64)))))
def f_X6_begins (N : Nat) (u0 : Ob) : Option Ob := l_X6_begins_2 N N (0 : Int32) u0
def l_X6_becomes_1_2 (N : Nat) (x2 : Int32) : Nat → Int32 → Ob → Option Ob
  | 0, _, _ => none
  | n + 1, x3, u0 => (if (48 : Int32) ≤ x3 then some u0 else (if (x2 + x3) < 0 ∨ 48 ≤ (x2 + x3).toNatClampNeg then none else (if x3 < 0 ∨ 48 ≤ x3.toNatClampNeg then none else l_X6_becomes_1_2 N x2 n (x3 + (1 : Int32)) (oj u0 0 (vp_updL (u0.2.2.2 0) x3.toNatClampNeg ((u0.2.2.2 1) (x2 + x3).toNatClampNeg))))))
def f_X6_becomes_1 (N : Nat) (x2 : Int32) (u0 : Ob) : Option Ob := l_X6_becomes_1_2 N x2 N (0 : Int32) u0
def f_X6_thrown (N : Nat) (u0 : Ob) : Option Int32 := some (u0.1 7)
def f_X6_isIn (N : Nat) (x0 : Int64) (x2 : Int64) (x4 : Int64) : Option Bool := (if x0 < x2 then some false else (if x4 < x0 then some false else some true))
def f_X6_sizeOf (N : Nat) (x0 : Int64) : Option Int64 := (if (0 : Int64) ≤ x0 then some x0 else some (-x0))
def f_X6_has (N : Nat) (x0 : Int64) (x2 : Int32) : Option Bool := (if ((jushr x0 x2) &&& (1 : Int64)) = (1 : Int64) then some true else some false)
def l_X6_bits_6 (N : Nat) (x0 : Int64) (x2 : Int32) (x3 : Int32) : Nat → Int32 → Int32 → Option Int32
  | 0, _, _ => none
  | n + 1, x4, x5 => (if x3 < x5 then some x4 else ((f_X6_has N x0 x5).bind fun q2 => (if q2 = true then l_X6_bits_6 N x0 x2 x3 n (x4 + (1 : Int32)) (x5 + (1 : Int32)) else l_X6_bits_6 N x0 x2 x3 n (x4 + (0 : Int32)) (x5 + (1 : Int32)))))
def f_X6_bits (N : Nat) (x0 : Int64) (x2 : Int32) (x3 : Int32) : Option Int32 := l_X6_bits_6 N x0 x2 x3 N (0 : Int32) x2
def l_X6_span_5 (N : Nat) (x0 : Int32) (x1 : Int32) : Nat → Int64 → Int32 → Option Int64
  | 0, _, _ => none
  | n + 1, x2, x4 => (if x1 < x4 then some x2 else l_X6_span_5 N x0 x1 n (x2 ||| (jshl (1 : Int64) x4)) (x4 + (1 : Int32)))
def f_X6_span (N : Nat) (x0 : Int32) (x1 : Int32) : Option Int64 := l_X6_span_5 N x0 x1 N (0 : Int64) x0
def l_X6_keeps_51 (N : Nat) : Nat → Int32 → Ob → Option Ob
  | 0, _, _ => none
  | n + 1, x1, u0 => (if (48 : Int32) ≤ x1 then some (oi u0 6 ((u0.1 6) + (1 : Int32))) else (if x1 < 0 ∨ 48 ≤ x1.toNatClampNeg then none else (if (((48 : Int32) * (u0.1 6)) + x1) < 0 ∨ 384 ≤ (((48 : Int32) * (u0.1 6)) + x1).toNatClampNeg then none else l_X6_keeps_51 N n (x1 + (1 : Int32)) (oj u0 3 (vp_updL (u0.2.2.2 3) (((48 : Int32) * (u0.1 6)) + x1).toNatClampNeg ((u0.2.2.2 0) x1.toNatClampNeg))))))
def l_X6_keeps_11 (N : Nat) : Nat → Int32 → Ob → Option Ob
  | 0, _, _ => none
  | n + 1, x1, u0 => (if (336 : Int32) ≤ x1 then l_X6_keeps_51 N N (0 : Int32) (oi u0 6 ((u0.1 6) - (1 : Int32))) else (if (x1 + (48 : Int32)) < 0 ∨ 384 ≤ (x1 + (48 : Int32)).toNatClampNeg then none else (if x1 < 0 ∨ 384 ≤ x1.toNatClampNeg then none else l_X6_keeps_11 N n (x1 + (1 : Int32)) (oj u0 3 (vp_updL (u0.2.2.2 3) x1.toNatClampNeg ((u0.2.2.2 3) (x1 + (48 : Int32)).toNatClampNeg))))))
def f_X6_keeps (N : Nat) (u0 : Ob) : Option Ob := (if (u0.1 6) = (8 : Int32) then l_X6_keeps_11 N N (0 : Int32) u0 else l_X6_keeps_51 N N (0 : Int32) u0)
def l_X6_becomes_3_2 (N : Nat) (x2 : Int32) : Nat → Int32 → Ob → Option Ob
  | 0, _, _ => none
  | n + 1, x3, u0 => (if (48 : Int32) ≤ x3 then some u0 else (if (x2 + x3) < 0 ∨ 384 ≤ (x2 + x3).toNatClampNeg then none else (if x3 < 0 ∨ 48 ≤ x3.toNatClampNeg then none else l_X6_becomes_3_2 N x2 n (x3 + (1 : Int32)) (oj u0 0 (vp_updL (u0.2.2.2 0) x3.toNatClampNeg ((u0.2.2.2 3) (x2 + x3).toNatClampNeg))))))
def f_X6_becomes_3 (N : Nat) (x2 : Int32) (u0 : Ob) : Option Ob := l_X6_becomes_3_2 N x2 N (0 : Int32) u0
def f_X6_undo (N : Nat) (u0 : Ob) : Option (Int32 × Ob) := (if (u0.1 6) = (0 : Int32) then some ((0 : Int32), (oi u0 7 (1 : Int32))) else ((f_X6_becomes_3 N ((48 : Int32) * ((u0.1 6) - (1 : Int32))) (oi (oi u0 7 (0 : Int32)) 6 ((u0.1 6) - (1 : Int32)))).bind fun q3 => some ((q3.1 6), q3)))
def l_X6_save_37 (N : Nat) (x1 : Int32) : Nat → Int32 → Ob → Option (Int32 × Ob)
  | 0, _, _ => none
  | n + 1, x2, u0 => (if (48 : Int32) ≤ x2 then some (((u0.2.2.2 0) (12 : Int32).toNatClampNeg).toInt32, u0) else (if x2 < 0 ∨ 48 ≤ x2.toNatClampNeg then none else (if (((48 : Int32) * x1) + x2) < 0 ∨ 96 ≤ (((48 : Int32) * x1) + x2).toNatClampNeg then none else l_X6_save_37 N x1 n (x2 + (1 : Int32)) (oj u0 4 (vp_updL (u0.2.2.2 4) (((48 : Int32) * x1) + x2).toNatClampNeg ((u0.2.2.2 0) x2.toNatClampNeg))))))
def f_X6_save (N : Nat) (x1 : Int32) (u0 : Ob) : Option (Int32 × Ob) := ((f_X6_isIn N x1.toInt64 (0 : Int64) (1 : Int64)).bind fun q1 => (if q1 = true then (if x1 < 0 ∨ 2 ≤ x1.toNatClampNeg then none else l_X6_save_37 N x1 N (0 : Int32) (oa (oi u0 7 (0 : Int32)) 5 (upd (u0.2.2.1 5) x1.toNatClampNeg (vp_nar .boolean (1 : Int32))))) else some ((0 : Int32), (oi u0 7 (1 : Int32)))))
def l_X6_becomes_4_2 (N : Nat) (x2 : Int32) : Nat → Int32 → Ob → Option Ob
  | 0, _, _ => none
  | n + 1, x3, u0 => (if (48 : Int32) ≤ x3 then some u0 else (if (x2 + x3) < 0 ∨ 96 ≤ (x2 + x3).toNatClampNeg then none else (if x3 < 0 ∨ 48 ≤ x3.toNatClampNeg then none else l_X6_becomes_4_2 N x2 n (x3 + (1 : Int32)) (oj u0 0 (vp_updL (u0.2.2.2 0) x3.toNatClampNeg ((u0.2.2.2 4) (x2 + x3).toNatClampNeg))))))
def f_X6_becomes_4 (N : Nat) (x2 : Int32) (u0 : Ob) : Option Ob := l_X6_becomes_4_2 N x2 N (0 : Int32) u0
def f_X6_restore (N : Nat) (x1 : Int32) (u0 : Ob) : Option (Int32 × Ob) := ((f_X6_isIn N x1.toInt64 (0 : Int64) (1 : Int64)).bind fun q1 => (if q1 = true then (if x1 < 0 ∨ 2 ≤ x1.toNatClampNeg then none else (if ((u0.2.2.1 5) x1.toNatClampNeg) = (0 : Int32) then some ((0 : Int32), (oi u0 7 (2 : Int32))) else ((f_X6_keeps N (oi u0 7 (0 : Int32))).bind fun q8 => ((f_X6_becomes_4 N ((48 : Int32) * x1) q8).bind fun q10 => some (((q10.2.2.2 0) (12 : Int32).toNatClampNeg).toInt32, q10))))) else some ((0 : Int32), (oi u0 7 (1 : Int32)))))
def f_X6_isMinute (N : Nat) (x0 : Int64) : Option Bool := ((f_X6_isIn N x0 (0 : Int64) (52595999 : Int64)).bind fun q1 => some q1)
def f_X6_daysIn (N : Nat) (x0 : Int32) (x1 : Int32) : Option Int32 := (if x1 = (2 : Int32) then (if (x0 - x0 / (4 : Int32) * (4 : Int32)) = (0 : Int32) then some (29 : Int32) else some (28 : Int32)) else (if x1 = (4 : Int32) then some (30 : Int32) else (if x1 = (6 : Int32) then some (30 : Int32) else (if x1 = (9 : Int32) then some (30 : Int32) else (if x1 = (11 : Int32) then some (30 : Int32) else some (31 : Int32))))))
def f_X6_daysOf (N : Nat) (x0 : Int32) : Option Int32 := (if (x0 - x0 / (4 : Int32) * (4 : Int32)) = (0 : Int32) then some (366 : Int32) else some (365 : Int32))
def l_X6_partOf_71 (N : Nat) (x0 : Int32) (x1 : Int32) : Nat → Int32 → Int32 → Int32 → Option Int32
  | 0, _, _, _ => none
  | n + 1, x2, x3, x4 => ((f_X6_daysIn N x3 x4).bind fun q7 => (if x2 < q7 then (if x1 = (0 : Int32) then some x3 else (if x1 = (1 : Int32) then some x4 else some (x2 + (1 : Int32)))) else ((f_X6_daysIn N x3 x4).bind fun q12 => l_X6_partOf_71 N x0 x1 n (x2 - q12) x3 (x4 + (1 : Int32)))))
def l_X6_partOf_47 (N : Nat) (x0 : Int32) (x1 : Int32) : Nat → Int32 → Int32 → Option Int32
  | 0, _, _ => none
  | n + 1, x2, x3 => ((f_X6_daysOf N x3).bind fun q4 => (if x2 < q4 then l_X6_partOf_71 N x0 x1 N x2 x3 (1 : Int32) else ((f_X6_daysOf N x3).bind fun q14 => l_X6_partOf_47 N x0 x1 n (x2 - q14) (x3 + (1 : Int32)))))
def f_X6_partOf (N : Nat) (x0 : Int32) (x1 : Int32) : Option Int32 := (if x1 = (3 : Int32) then some ((x0 / (60 : Int32)) - (x0 / (60 : Int32)) / (24 : Int32) * (24 : Int32)) else (if x1 = (4 : Int32) then some (x0 - x0 / (60 : Int32) * (60 : Int32)) else (if x1 = (5 : Int32) then some ((((x0 / (1440 : Int32)) + (5 : Int32)) - ((x0 / (1440 : Int32)) + (5 : Int32)) / (7 : Int32) * (7 : Int32)) + (1 : Int32)) else l_X6_partOf_47 N x0 x1 N (x0 / (1440 : Int32)) (2000 : Int32))))
def f_X6_part (N : Nat) (x1 : Int32) (x2 : Int32) (u0 : Ob) : Option (Int32 × Ob) := ((f_X6_isMinute N x1.toInt64).bind fun q1 => (if q1 = true then ((f_X6_isIn N x2.toInt64 (0 : Int64) (5 : Int64)).bind fun q5 => (if q5 = true then ((f_X6_partOf N x1 x2).bind fun q10 => some (q10, (oi u0 7 (0 : Int32)))) else some ((0 : Int32), (oi u0 7 (1 : Int32))))) else some ((0 : Int32), (oi u0 7 (1 : Int32)))))
def f_X6_isDay (N : Nat) (x0 : Int32) (x1 : Int32) (x2 : Int32) : Option Bool := ((f_X6_isIn N x0.toInt64 (2000 : Int64) (2099 : Int64)).bind fun q1 => (if q1 = true then ((f_X6_isIn N x1.toInt64 (1 : Int64) (12 : Int64)).bind fun q4 => (if q4 = true then ((f_X6_daysIn N x0 x1).bind fun q7 => ((f_X6_isIn N x2.toInt64 (1 : Int64) q7.toInt64).bind fun q9 => (if q9 = true then some true else some false))) else some false)) else some false))
def l_X6_numberFor_35 (N : Nat) (x0 : Int32) (x1 : Int32) (x2 : Int32) (x3 : Int32) (x4 : Int32) : Nat → Int32 → Int32 → Option Int32
  | 0, _, _ => none
  | n + 1, x5, x6 => (if x1 ≤ x6 then some ((((1440 : Int32) * x5) + ((60 : Int32) * x3)) + x4) else ((f_X6_daysIn N x0 x6).bind fun q3 => l_X6_numberFor_35 N x0 x1 x2 x3 x4 n (x5 + q3) (x6 + (1 : Int32))))
def l_X6_numberFor_10 (N : Nat) (x0 : Int32) (x1 : Int32) (x2 : Int32) (x3 : Int32) (x4 : Int32) : Nat → Int32 → Int32 → Option Int32
  | 0, _, _ => none
  | n + 1, x5, x6 => (if x0 ≤ x6 then l_X6_numberFor_35 N x0 x1 x2 x3 x4 N x5 (1 : Int32) else ((f_X6_daysOf N x6).bind fun q5 => l_X6_numberFor_10 N x0 x1 x2 x3 x4 n (x5 + q5) (x6 + (1 : Int32))))
def f_X6_numberFor (N : Nat) (x0 : Int32) (x1 : Int32) (x2 : Int32) (x3 : Int32) (x4 : Int32) : Option Int32 := l_X6_numberFor_10 N x0 x1 x2 x3 x4 N (x2 - (1 : Int32)) (2000 : Int32)
def f_X6_number (N : Nat) (x1 : Int32) (x2 : Int32) (x3 : Int32) (x4 : Int32) (x5 : Int32) (u0 : Ob) : Option (Int32 × Ob) := ((f_X6_isDay N x1 x2 x3).bind fun q1 => (if q1 = true then ((f_X6_isIn N x4.toInt64 (0 : Int64) (23 : Int64)).bind fun q5 => (if q5 = true then ((f_X6_isIn N x5.toInt64 (0 : Int64) (59 : Int64)).bind fun q9 => (if q9 = true then ((f_X6_numberFor N x1 x2 x3 x4 x5).bind fun q14 => some (q14, (oi u0 7 (0 : Int32)))) else some ((0 : Int32), (oi u0 7 (1 : Int32))))) else some ((0 : Int32), (oi u0 7 (1 : Int32))))) else some ((0 : Int32), (oi u0 7 (1 : Int32)))))
def f_X6_digits (N : Nat) (x0 : Int32) (x1 : Int32) : Option Int64 := some (jshl ((x0 - x0 / (10 : Int32) * (10 : Int32)) ||| ((x0 / (10 : Int32)) <<< ((4 : Int32) &&& 31))).toInt64 x1)
def f_X6_parity (N : Nat) (x0 : Int64) (x2 : Int32) (x3 : Int32) : Option Int64 := ((f_X6_bits N x0 x2 (x3 - (1 : Int32))).bind fun q1 => (if (q1 - q1 / (2 : Int32) * (2 : Int32)) = (1 : Int32) then some (jshl (1 : Int64) x3) else some (0 : Int64)))
def f_X6_codeOf (N : Nat) (x0 : Int32) (x1 : Bool) : Option Int64 := (if x1 = true then ((f_X6_partOf N x0 (4 : Int32)).bind fun q32 => ((f_X6_digits N q32 (21 : Int32)).bind fun q34 => ((f_X6_partOf N x0 (3 : Int32)).bind fun q36 => ((f_X6_digits N q36 (29 : Int32)).bind fun q38 => ((f_X6_partOf N x0 (2 : Int32)).bind fun q40 => ((f_X6_digits N q40 (36 : Int32)).bind fun q42 => ((f_X6_partOf N x0 (5 : Int32)).bind fun q44 => ((f_X6_digits N q44 (42 : Int32)).bind fun q46 => ((f_X6_partOf N x0 (1 : Int32)).bind fun q48 => ((f_X6_digits N q48 (45 : Int32)).bind fun q50 => ((f_X6_partOf N x0 (0 : Int32)).bind fun q52 => ((f_X6_digits N (q52 - (2000 : Int32)) (50 : Int32)).bind fun q54 => ((f_X6_parity N (((1048576 : Int64) ||| (524288 : Int64)) ||| (((((q34 ||| q38) ||| q42) ||| q46) ||| q50) ||| q54)) (21 : Int32) (28 : Int32)).bind fun q56 => ((f_X6_parity N (((1048576 : Int64) ||| (524288 : Int64)) ||| (((((q34 ||| q38) ||| q42) ||| q46) ||| q50) ||| q54)) (29 : Int32) (35 : Int32)).bind fun q58 => ((f_X6_parity N (((1048576 : Int64) ||| (524288 : Int64)) ||| (((((q34 ||| q38) ||| q42) ||| q46) ||| q50) ||| q54)) (36 : Int32) (58 : Int32)).bind fun q60 => some ((((((1048576 : Int64) ||| (524288 : Int64)) ||| (((((q34 ||| q38) ||| q42) ||| q46) ||| q50) ||| q54)) ||| q56) ||| q58) ||| q60)))))))))))))))) else ((f_X6_partOf N x0 (4 : Int32)).bind fun q2 => ((f_X6_digits N q2 (21 : Int32)).bind fun q4 => ((f_X6_partOf N x0 (3 : Int32)).bind fun q6 => ((f_X6_digits N q6 (29 : Int32)).bind fun q8 => ((f_X6_partOf N x0 (2 : Int32)).bind fun q10 => ((f_X6_digits N q10 (36 : Int32)).bind fun q12 => ((f_X6_partOf N x0 (5 : Int32)).bind fun q14 => ((f_X6_digits N q14 (42 : Int32)).bind fun q16 => ((f_X6_partOf N x0 (1 : Int32)).bind fun q18 => ((f_X6_digits N q18 (45 : Int32)).bind fun q20 => ((f_X6_partOf N x0 (0 : Int32)).bind fun q22 => ((f_X6_digits N (q22 - (2000 : Int32)) (50 : Int32)).bind fun q24 => ((f_X6_parity N (((1048576 : Int64) ||| (0 : Int64)) ||| (((((q4 ||| q8) ||| q12) ||| q16) ||| q20) ||| q24)) (21 : Int32) (28 : Int32)).bind fun q26 => ((f_X6_parity N (((1048576 : Int64) ||| (0 : Int64)) ||| (((((q4 ||| q8) ||| q12) ||| q16) ||| q20) ||| q24)) (29 : Int32) (35 : Int32)).bind fun q28 => ((f_X6_parity N (((1048576 : Int64) ||| (0 : Int64)) ||| (((((q4 ||| q8) ||| q12) ||| q16) ||| q20) ||| q24)) (36 : Int32) (58 : Int32)).bind fun q30 => some ((((((1048576 : Int64) ||| (0 : Int64)) ||| (((((q4 ||| q8) ||| q12) ||| q16) ||| q20) ||| q24)) ||| q26) ||| q28) ||| q30)))))))))))))))))
def f_X6_code (N : Nat) (x1 : Int32) (x2 : Bool) (u0 : Ob) : Option (Int64 × Ob) := ((f_X6_isMinute N x1.toInt64).bind fun q1 => (if q1 = true then ((f_X6_codeOf N x1 x2).bind fun q6 => some (q6, (oi u0 7 (0 : Int32)))) else some ((0 : Int64), (oi u0 7 (1 : Int32)))))
def f_X6_ones (N : Nat) (x0 : Int64) (x2 : Int32) (x3 : Int32) : Option Int32 := some ((jushr x0 x2).toInt32 &&& (((1 : Int32) <<< (x3 &&& 31)) - (1 : Int32)))
def f_X6_valueOf (N : Nat) (x0 : Int64) (x2 : Int32) (x3 : Int32) : Option Int32 := ((f_X6_ones N x0 x2 (4 : Int32)).bind fun q1 => ((f_X6_ones N x0 (x2 + (4 : Int32)) x3).bind fun q3 => (if (9 : Int32) < q1 then some (999 : Int32) else (if q3 ≤ (9 : Int32) then some (((10 : Int32) * q3) + q1) else some (999 : Int32)))))
def f_X6_isOdd (N : Nat) (x0 : Int64) (x2 : Int32) (x3 : Int32) : Option Bool := ((f_X6_bits N x0 x2 x3).bind fun q1 => (if (q1 - q1 / (2 : Int32) * (2 : Int32)) = (1 : Int32) then some true else some false))
def f_X6_faultOf (N : Nat) (x1 : Int64) (x3 : Int64) (u0 : Ob) : Option (Int32 × Ob) := (if (x3 &&& (576460752302899201 : Int64)) = (0 : Int64) then ((f_X6_has N x1 (0 : Int32)).bind fun q2 => (if q2 = true then some ((2 : Int32), u0) else ((f_X6_has N x1 (20 : Int32)).bind fun q5 => (if q5 = true then ((f_X6_isOdd N x1 (21 : Int32) (28 : Int32)).bind fun q8 => (if q8 = true then some ((3 : Int32), u0) else ((f_X6_isOdd N x1 (29 : Int32) (35 : Int32)).bind fun q11 => (if q11 = true then some ((4 : Int32), u0) else ((f_X6_isOdd N x1 (36 : Int32) (58 : Int32)).bind fun q14 => (if q14 = true then some ((5 : Int32), u0) else ((f_X6_valueOf N x1 (50 : Int32) (4 : Int32)).bind fun q17 => ((f_X6_valueOf N x1 (45 : Int32) (1 : Int32)).bind fun q19 => ((f_X6_valueOf N x1 (36 : Int32) (2 : Int32)).bind fun q21 => ((f_X6_valueOf N x1 (29 : Int32) (2 : Int32)).bind fun q23 => ((f_X6_valueOf N x1 (21 : Int32) (3 : Int32)).bind fun q25 => (if (59 : Int32) < q25 then some ((6 : Int32), u0) else (if (23 : Int32) < q23 then some ((6 : Int32), u0) else ((f_X6_isDay N ((2000 : Int32) + q17) q19 q21).bind fun q29 => (if q29 = true then ((f_X6_numberFor N ((2000 : Int32) + q17) q19 q21 q23 q25).bind fun q32 => ((f_X6_ones N x1 (42 : Int32) (3 : Int32)).bind fun q34 => ((f_X6_partOf N q32 (5 : Int32)).bind fun q36 => (if q34 = q36 then some ((0 : Int32), (oi u0 8 q32)) else some ((7 : Int32), (oi u0 8 q32)))))) else some ((6 : Int32), u0)))))))))))))))) else some ((2 : Int32), u0))))) else some ((1 : Int32), u0))
def l_X6_append_34 (N : Nat) (x1 : Int32) (x2 : Int32) (x3 : Int32) (x4 : Int32) (x5 : Int32) : Nat → Int32 → Ob → Option (Int32 × Ob)
  | 0, _, _ => none
  | n + 1, x6, u0 => (if (20 : Int32) ≤ x6 then some ((u0.1 10), u0) else (if (4 : Int32) ≤ x6 then (if (8 : Int32) ≤ x6 then (if (12 : Int32) ≤ x6 then (if (16 : Int32) ≤ x6 then (if (u0.1 10) < 0 ∨ 600 ≤ (u0.1 10).toNatClampNeg then none else l_X6_append_34 N x1 x2 x3 x4 x5 n (x6 + (1 : Int32)) (oi (oa u0 9 (upd (u0.2.2.1 9) (u0.1 10).toNatClampNeg ((x5 >>> (((24 : Int32) - ((8 : Int32) * (x6 - x6 / (4 : Int32) * (4 : Int32)))) &&& 31)) &&& (255 : Int32)))) 10 ((u0.1 10) + (1 : Int32)))) else (if (u0.1 10) < 0 ∨ 600 ≤ (u0.1 10).toNatClampNeg then none else l_X6_append_34 N x1 x2 x3 x4 x5 n (x6 + (1 : Int32)) (oi (oa u0 9 (upd (u0.2.2.1 9) (u0.1 10).toNatClampNeg ((x4 >>> (((24 : Int32) - ((8 : Int32) * (x6 - x6 / (4 : Int32) * (4 : Int32)))) &&& 31)) &&& (255 : Int32)))) 10 ((u0.1 10) + (1 : Int32))))) else (if (u0.1 10) < 0 ∨ 600 ≤ (u0.1 10).toNatClampNeg then none else l_X6_append_34 N x1 x2 x3 x4 x5 n (x6 + (1 : Int32)) (oi (oa u0 9 (upd (u0.2.2.1 9) (u0.1 10).toNatClampNeg ((x3 >>> (((24 : Int32) - ((8 : Int32) * (x6 - x6 / (4 : Int32) * (4 : Int32)))) &&& 31)) &&& (255 : Int32)))) 10 ((u0.1 10) + (1 : Int32))))) else (if (u0.1 10) < 0 ∨ 600 ≤ (u0.1 10).toNatClampNeg then none else l_X6_append_34 N x1 x2 x3 x4 x5 n (x6 + (1 : Int32)) (oi (oa u0 9 (upd (u0.2.2.1 9) (u0.1 10).toNatClampNeg ((x2 >>> (((24 : Int32) - ((8 : Int32) * (x6 - x6 / (4 : Int32) * (4 : Int32)))) &&& 31)) &&& (255 : Int32)))) 10 ((u0.1 10) + (1 : Int32))))) else (if (u0.1 10) < 0 ∨ 600 ≤ (u0.1 10).toNatClampNeg then none else l_X6_append_34 N x1 x2 x3 x4 x5 n (x6 + (1 : Int32)) (oi (oa u0 9 (upd (u0.2.2.1 9) (u0.1 10).toNatClampNeg ((x1 >>> (((24 : Int32) - ((8 : Int32) * (x6 - x6 / (4 : Int32) * (4 : Int32)))) &&& 31)) &&& (255 : Int32)))) 10 ((u0.1 10) + (1 : Int32))))))
def f_X6_append (N : Nat) (x1 : Int32) (x2 : Int32) (x3 : Int32) (x4 : Int32) (x5 : Int32) (u0 : Ob) : Option (Int32 × Ob) := (if ((u0.1 10) + (20 : Int32)) ≤ (600 : Int32) then l_X6_append_34 N x1 x2 x3 x4 x5 N (0 : Int32) (oi u0 7 (0 : Int32)) else some ((0 : Int32), (oi u0 7 (1 : Int32))))
def f_X6_see (N : Nat) (x1 : Int32) (u0 : Ob) : Option Int32 := (if (u0.1 11) ≤ x1 then some (-1 : Int32) else (if x1 < 0 ∨ 600 ≤ x1.toNatClampNeg then none else some ((u0.2.2.1 9) x1.toNatClampNeg)))
def f_X6_isLetter (N : Nat) (x0 : Int32) : Option Bool := ((f_X6_isIn N x0.toInt64 (97 : Int64) (122 : Int64)).bind fun q1 => some q1)
theorem kc_X6_begins : Cond.instanceMethod yX6_begins ∈ lw_g ∧ Cond.selects yX6_begins.cls yX6_begins yX6_begins ∈ lw_g ∧ Cond.initialized yX6_begins.cls ∈ lw_g ∧ Cond.code yX6_begins cX6_begins 2 none ∈ lw_g ∧ yX6_begins.cls ≠ "java/lang/invoke/MethodHandle" ∧ yX6_begins.cls ≠ "java/lang/invoke/VarHandle" ∧ (parseMethodDescriptor yX6_begins.desc).map (fun d => d.parameters.length) = some 0 := ⟨kq4_235, kqp_25, kq1_5, kq4_236, by decide +kernel, by decide +kernel, by decide +kernel⟩
theorem kc_X6_becomes_1 : Cond.instanceMethod yX6_becomes ∈ lw_g ∧ Cond.selects yX6_becomes.cls yX6_becomes yX6_becomes ∈ lw_g ∧ Cond.initialized yX6_becomes.cls ∈ lw_g ∧ Cond.code yX6_becomes cX6_becomes 4 none ∈ lw_g ∧ yX6_becomes.cls ≠ "java/lang/invoke/MethodHandle" ∧ yX6_becomes.cls ≠ "java/lang/invoke/VarHandle" ∧ (parseMethodDescriptor yX6_becomes.desc).map (fun d => d.parameters.length) = some 2 := ⟨kq5_3, kqp_26, kq1_5, kq5_4, by decide +kernel, by decide +kernel, by decide +kernel⟩
theorem kc_X6_thrown : Cond.instanceMethod yX6_thrown ∈ lw_g ∧ Cond.selects yX6_thrown.cls yX6_thrown yX6_thrown ∈ lw_g ∧ Cond.initialized yX6_thrown.cls ∈ lw_g ∧ Cond.code yX6_thrown cX6_thrown 1 (some .int) ∈ lw_g ∧ yX6_thrown.cls ≠ "java/lang/invoke/MethodHandle" ∧ yX6_thrown.cls ≠ "java/lang/invoke/VarHandle" ∧ (parseMethodDescriptor yX6_thrown.desc).map (fun d => d.parameters.length) = some 0 := ⟨kq5_73, kq5_74, kq1_5, kq5_75, by decide +kernel, by decide +kernel, by decide +kernel⟩
theorem kc_X6_isIn : Cond.static yX6_isIn ∈ lw_g ∧ Cond.initialized yX6_isIn.cls ∈ lw_g ∧ Cond.code yX6_isIn cX6_isIn 6 (some .boolean) ∈ lw_g ∧ yX6_isIn.cls ≠ "java/lang/invoke/MethodHandle" ∧ yX6_isIn.cls ≠ "java/lang/invoke/VarHandle" ∧ (parseMethodDescriptor yX6_isIn.desc).map (fun d => d.parameters.length) = some 3 := ⟨kq5_85, kq1_5, kq5_86, by decide +kernel, by decide +kernel, by decide +kernel⟩
theorem kc_X6_sizeOf : Cond.static yX6_sizeOf ∈ lw_g ∧ Cond.initialized yX6_sizeOf.cls ∈ lw_g ∧ Cond.code yX6_sizeOf cX6_sizeOf 2 (some .long) ∈ lw_g ∧ yX6_sizeOf.cls ≠ "java/lang/invoke/MethodHandle" ∧ yX6_sizeOf.cls ≠ "java/lang/invoke/VarHandle" ∧ (parseMethodDescriptor yX6_sizeOf.desc).map (fun d => d.parameters.length) = some 1 := ⟨kq6_3, kq1_5, kq6_4, by decide +kernel, by decide +kernel, by decide +kernel⟩
theorem kc_X6_has : Cond.static yX6_has ∈ lw_g ∧ Cond.initialized yX6_has.cls ∈ lw_g ∧ Cond.code yX6_has cX6_has 3 (some .boolean) ∈ lw_g ∧ yX6_has.cls ≠ "java/lang/invoke/MethodHandle" ∧ yX6_has.cls ≠ "java/lang/invoke/VarHandle" ∧ (parseMethodDescriptor yX6_has.desc).map (fun d => d.parameters.length) = some 2 := ⟨kq5_146, kq1_5, kq5_147, by decide +kernel, by decide +kernel, by decide +kernel⟩
theorem kc_X6_bits : Cond.static yX6_bits ∈ lw_g ∧ Cond.initialized yX6_bits.cls ∈ lw_g ∧ Cond.code yX6_bits cX6_bits 6 (some .int) ∈ lw_g ∧ yX6_bits.cls ≠ "java/lang/invoke/MethodHandle" ∧ yX6_bits.cls ≠ "java/lang/invoke/VarHandle" ∧ (parseMethodDescriptor yX6_bits.desc).map (fun d => d.parameters.length) = some 3 := ⟨kq5_143, kq1_5, kq5_144, by decide +kernel, by decide +kernel, by decide +kernel⟩
theorem kc_X6_span : Cond.static yX6_span ∈ lw_g ∧ Cond.initialized yX6_span.cls ∈ lw_g ∧ Cond.code yX6_span cX6_span 5 (some .long) ∈ lw_g ∧ yX6_span.cls ≠ "java/lang/invoke/MethodHandle" ∧ yX6_span.cls ≠ "java/lang/invoke/VarHandle" ∧ (parseMethodDescriptor yX6_span.desc).map (fun d => d.parameters.length) = some 2 := ⟨kq6_149, kq1_5, kq6_150, by decide +kernel, by decide +kernel, by decide +kernel⟩
theorem kc_X6_keeps : Cond.instanceMethod yX6_keeps ∈ lw_g ∧ Cond.selects yX6_keeps.cls yX6_keeps yX6_keeps ∈ lw_g ∧ Cond.initialized yX6_keeps.cls ∈ lw_g ∧ Cond.code yX6_keeps cX6_keeps 2 none ∈ lw_g ∧ yX6_keeps.cls ≠ "java/lang/invoke/MethodHandle" ∧ yX6_keeps.cls ≠ "java/lang/invoke/VarHandle" ∧ (parseMethodDescriptor yX6_keeps.desc).map (fun d => d.parameters.length) = some 0 := ⟨kq5_93, kqp_27, kq1_5, kq5_94, by decide +kernel, by decide +kernel, by decide +kernel⟩
theorem kc_X6_becomes_3 : Cond.instanceMethod yX6_becomes ∈ lw_g ∧ Cond.selects yX6_becomes.cls yX6_becomes yX6_becomes ∈ lw_g ∧ Cond.initialized yX6_becomes.cls ∈ lw_g ∧ Cond.code yX6_becomes cX6_becomes 4 none ∈ lw_g ∧ yX6_becomes.cls ≠ "java/lang/invoke/MethodHandle" ∧ yX6_becomes.cls ≠ "java/lang/invoke/VarHandle" ∧ (parseMethodDescriptor yX6_becomes.desc).map (fun d => d.parameters.length) = some 2 := ⟨kq5_3, kqp_26, kq1_5, kq5_4, by decide +kernel, by decide +kernel, by decide +kernel⟩
theorem kc_X6_undo : Cond.instanceMethod yX6_undo ∈ lw_g ∧ Cond.selects yX6_undo.cls yX6_undo yX6_undo ∈ lw_g ∧ Cond.initialized yX6_undo.cls ∈ lw_g ∧ Cond.code yX6_undo cX6_undo 1 (some .int) ∈ lw_g ∧ yX6_undo.cls ≠ "java/lang/invoke/MethodHandle" ∧ yX6_undo.cls ≠ "java/lang/invoke/VarHandle" ∧ (parseMethodDescriptor yX6_undo.desc).map (fun d => d.parameters.length) = some 0 := ⟨kq5_77, kq5_78, kq1_5, kq5_79, by decide +kernel, by decide +kernel, by decide +kernel⟩
theorem kc_X6_save : Cond.instanceMethod yX6_save ∈ lw_g ∧ Cond.selects yX6_save.cls yX6_save yX6_save ∈ lw_g ∧ Cond.initialized yX6_save.cls ∈ lw_g ∧ Cond.code yX6_save cX6_save 3 (some .int) ∈ lw_g ∧ yX6_save.cls ≠ "java/lang/invoke/MethodHandle" ∧ yX6_save.cls ≠ "java/lang/invoke/VarHandle" ∧ (parseMethodDescriptor yX6_save.desc).map (fun d => d.parameters.length) = some 1 := ⟨kq5_81, kq5_82, kq1_5, kq5_83, by decide +kernel, by decide +kernel, by decide +kernel⟩
theorem kc_X6_becomes_4 : Cond.instanceMethod yX6_becomes ∈ lw_g ∧ Cond.selects yX6_becomes.cls yX6_becomes yX6_becomes ∈ lw_g ∧ Cond.initialized yX6_becomes.cls ∈ lw_g ∧ Cond.code yX6_becomes cX6_becomes 4 none ∈ lw_g ∧ yX6_becomes.cls ≠ "java/lang/invoke/MethodHandle" ∧ yX6_becomes.cls ≠ "java/lang/invoke/VarHandle" ∧ (parseMethodDescriptor yX6_becomes.desc).map (fun d => d.parameters.length) = some 2 := ⟨kq5_3, kqp_26, kq1_5, kq5_4, by decide +kernel, by decide +kernel, by decide +kernel⟩
theorem kc_X6_restore : Cond.instanceMethod yX6_restore ∈ lw_g ∧ Cond.selects yX6_restore.cls yX6_restore yX6_restore ∈ lw_g ∧ Cond.initialized yX6_restore.cls ∈ lw_g ∧ Cond.code yX6_restore cX6_restore 2 (some .int) ∈ lw_g ∧ yX6_restore.cls ≠ "java/lang/invoke/MethodHandle" ∧ yX6_restore.cls ≠ "java/lang/invoke/VarHandle" ∧ (parseMethodDescriptor yX6_restore.desc).map (fun d => d.parameters.length) = some 1 := ⟨kq5_88, kq5_89, kq1_5, kq5_90, by decide +kernel, by decide +kernel, by decide +kernel⟩
theorem kc_X6_isMinute : Cond.static yX6_isMinute ∈ lw_g ∧ Cond.initialized yX6_isMinute.cls ∈ lw_g ∧ Cond.code yX6_isMinute cX6_isMinute 2 (some .boolean) ∈ lw_g ∧ yX6_isMinute.cls ≠ "java/lang/invoke/MethodHandle" ∧ yX6_isMinute.cls ≠ "java/lang/invoke/VarHandle" ∧ (parseMethodDescriptor yX6_isMinute.desc).map (fun d => d.parameters.length) = some 1 := ⟨kq5_100, kq1_5, kq5_101, by decide +kernel, by decide +kernel, by decide +kernel⟩
theorem kc_X6_daysIn : Cond.static yX6_daysIn ∈ lw_g ∧ Cond.initialized yX6_daysIn.cls ∈ lw_g ∧ Cond.code yX6_daysIn cX6_daysIn 2 (some .int) ∈ lw_g ∧ yX6_daysIn.cls ≠ "java/lang/invoke/MethodHandle" ∧ yX6_daysIn.cls ≠ "java/lang/invoke/VarHandle" ∧ (parseMethodDescriptor yX6_daysIn.desc).map (fun d => d.parameters.length) = some 2 := ⟨kq5_110, kq1_5, kq5_111, by decide +kernel, by decide +kernel, by decide +kernel⟩
theorem kc_X6_daysOf : Cond.static yX6_daysOf ∈ lw_g ∧ Cond.initialized yX6_daysOf.cls ∈ lw_g ∧ Cond.code yX6_daysOf cX6_daysOf 1 (some .int) ∈ lw_g ∧ yX6_daysOf.cls ≠ "java/lang/invoke/MethodHandle" ∧ yX6_daysOf.cls ≠ "java/lang/invoke/VarHandle" ∧ (parseMethodDescriptor yX6_daysOf.desc).map (fun d => d.parameters.length) = some 1 := ⟨kq5_107, kq1_5, kq5_108, by decide +kernel, by decide +kernel, by decide +kernel⟩
theorem kc_X6_partOf : Cond.static yX6_partOf ∈ lw_g ∧ Cond.initialized yX6_partOf.cls ∈ lw_g ∧ Cond.code yX6_partOf cX6_partOf 5 (some .int) ∈ lw_g ∧ yX6_partOf.cls ≠ "java/lang/invoke/MethodHandle" ∧ yX6_partOf.cls ≠ "java/lang/invoke/VarHandle" ∧ (parseMethodDescriptor yX6_partOf.desc).map (fun d => d.parameters.length) = some 2 := ⟨kq5_104, kq1_5, kq5_105, by decide +kernel, by decide +kernel, by decide +kernel⟩
theorem kc_X6_part : Cond.instanceMethod yX6_part ∈ lw_g ∧ Cond.selects yX6_part.cls yX6_part yX6_part ∈ lw_g ∧ Cond.initialized yX6_part.cls ∈ lw_g ∧ Cond.code yX6_part cX6_part 3 (some .int) ∈ lw_g ∧ yX6_part.cls ≠ "java/lang/invoke/MethodHandle" ∧ yX6_part.cls ≠ "java/lang/invoke/VarHandle" ∧ (parseMethodDescriptor yX6_part.desc).map (fun d => d.parameters.length) = some 2 := ⟨kq5_96, kq5_97, kq1_5, kq5_98, by decide +kernel, by decide +kernel, by decide +kernel⟩
theorem kc_X6_isDay : Cond.static yX6_isDay ∈ lw_g ∧ Cond.initialized yX6_isDay.cls ∈ lw_g ∧ Cond.code yX6_isDay cX6_isDay 3 (some .boolean) ∈ lw_g ∧ yX6_isDay.cls ≠ "java/lang/invoke/MethodHandle" ∧ yX6_isDay.cls ≠ "java/lang/invoke/VarHandle" ∧ (parseMethodDescriptor yX6_isDay.desc).map (fun d => d.parameters.length) = some 3 := ⟨kq5_117, kq1_5, kq5_118, by decide +kernel, by decide +kernel, by decide +kernel⟩
theorem kc_X6_numberFor : Cond.static yX6_numberFor ∈ lw_g ∧ Cond.initialized yX6_numberFor.cls ∈ lw_g ∧ Cond.code yX6_numberFor cX6_numberFor 7 (some .int) ∈ lw_g ∧ yX6_numberFor.cls ≠ "java/lang/invoke/MethodHandle" ∧ yX6_numberFor.cls ≠ "java/lang/invoke/VarHandle" ∧ (parseMethodDescriptor yX6_numberFor.desc).map (fun d => d.parameters.length) = some 5 := ⟨kq5_125, kq1_5, kq5_126, by decide +kernel, by decide +kernel, by decide +kernel⟩
theorem kc_X6_number : Cond.instanceMethod yX6_number ∈ lw_g ∧ Cond.selects yX6_number.cls yX6_number yX6_number ∈ lw_g ∧ Cond.initialized yX6_number.cls ∈ lw_g ∧ Cond.code yX6_number cX6_number 6 (some .int) ∈ lw_g ∧ yX6_number.cls ≠ "java/lang/invoke/MethodHandle" ∧ yX6_number.cls ≠ "java/lang/invoke/VarHandle" ∧ (parseMethodDescriptor yX6_number.desc).map (fun d => d.parameters.length) = some 5 := ⟨kq5_113, kq5_114, kq1_5, kq5_115, by decide +kernel, by decide +kernel, by decide +kernel⟩
theorem kc_X6_digits : Cond.static yX6_digits ∈ lw_g ∧ Cond.initialized yX6_digits.cls ∈ lw_g ∧ Cond.code yX6_digits cX6_digits 2 (some .long) ∈ lw_g ∧ yX6_digits.cls ≠ "java/lang/invoke/MethodHandle" ∧ yX6_digits.cls ≠ "java/lang/invoke/VarHandle" ∧ (parseMethodDescriptor yX6_digits.desc).map (fun d => d.parameters.length) = some 2 := ⟨kq5_137, kq1_5, kq5_138, by decide +kernel, by decide +kernel, by decide +kernel⟩
theorem kc_X6_parity : Cond.static yX6_parity ∈ lw_g ∧ Cond.initialized yX6_parity.cls ∈ lw_g ∧ Cond.code yX6_parity cX6_parity 4 (some .long) ∈ lw_g ∧ yX6_parity.cls ≠ "java/lang/invoke/MethodHandle" ∧ yX6_parity.cls ≠ "java/lang/invoke/VarHandle" ∧ (parseMethodDescriptor yX6_parity.desc).map (fun d => d.parameters.length) = some 3 := ⟨kq5_140, kq1_5, kq5_141, by decide +kernel, by decide +kernel, by decide +kernel⟩
theorem kc_X6_codeOf : Cond.static yX6_codeOf ∈ lw_g ∧ Cond.initialized yX6_codeOf.cls ∈ lw_g ∧ Cond.code yX6_codeOf cX6_codeOf 4 (some .long) ∈ lw_g ∧ yX6_codeOf.cls ≠ "java/lang/invoke/MethodHandle" ∧ yX6_codeOf.cls ≠ "java/lang/invoke/VarHandle" ∧ (parseMethodDescriptor yX6_codeOf.desc).map (fun d => d.parameters.length) = some 2 := ⟨kq5_132, kq1_5, kq5_133, by decide +kernel, by decide +kernel, by decide +kernel⟩
theorem kc_X6_code : Cond.instanceMethod yX6_code ∈ lw_g ∧ Cond.selects yX6_code.cls yX6_code yX6_code ∈ lw_g ∧ Cond.initialized yX6_code.cls ∈ lw_g ∧ Cond.code yX6_code cX6_code 3 (some .long) ∈ lw_g ∧ yX6_code.cls ≠ "java/lang/invoke/MethodHandle" ∧ yX6_code.cls ≠ "java/lang/invoke/VarHandle" ∧ (parseMethodDescriptor yX6_code.desc).map (fun d => d.parameters.length) = some 2 := ⟨kq5_128, kq5_129, kq1_5, kq5_130, by decide +kernel, by decide +kernel, by decide +kernel⟩
theorem kc_X6_ones : Cond.static yX6_ones ∈ lw_g ∧ Cond.initialized yX6_ones.cls ∈ lw_g ∧ Cond.code yX6_ones cX6_ones 4 (some .int) ∈ lw_g ∧ yX6_ones.cls ≠ "java/lang/invoke/MethodHandle" ∧ yX6_ones.cls ≠ "java/lang/invoke/VarHandle" ∧ (parseMethodDescriptor yX6_ones.desc).map (fun d => d.parameters.length) = some 3 := ⟨kq6_50, kq1_5, kq6_51, by decide +kernel, by decide +kernel, by decide +kernel⟩
theorem kc_X6_valueOf : Cond.static yX6_valueOf ∈ lw_g ∧ Cond.initialized yX6_valueOf.cls ∈ lw_g ∧ Cond.code yX6_valueOf cX6_valueOf 6 (some .int) ∈ lw_g ∧ yX6_valueOf.cls ≠ "java/lang/invoke/MethodHandle" ∧ yX6_valueOf.cls ≠ "java/lang/invoke/VarHandle" ∧ (parseMethodDescriptor yX6_valueOf.desc).map (fun d => d.parameters.length) = some 3 := ⟨kq6_47, kq1_5, kq6_48, by decide +kernel, by decide +kernel, by decide +kernel⟩
theorem kc_X6_isOdd : Cond.static yX6_isOdd ∈ lw_g ∧ Cond.initialized yX6_isOdd.cls ∈ lw_g ∧ Cond.code yX6_isOdd cX6_isOdd 4 (some .boolean) ∈ lw_g ∧ yX6_isOdd.cls ≠ "java/lang/invoke/MethodHandle" ∧ yX6_isOdd.cls ≠ "java/lang/invoke/VarHandle" ∧ (parseMethodDescriptor yX6_isOdd.desc).map (fun d => d.parameters.length) = some 3 := ⟨kq6_44, kq1_5, kq6_45, by decide +kernel, by decide +kernel, by decide +kernel⟩
theorem kc_X6_faultOf : Cond.instanceMethod yX6_faultOf ∈ lw_g ∧ Cond.selects yX6_faultOf.cls yX6_faultOf yX6_faultOf ∈ lw_g ∧ Cond.initialized yX6_faultOf.cls ∈ lw_g ∧ Cond.code yX6_faultOf cX6_faultOf 10 (some .int) ∈ lw_g ∧ yX6_faultOf.cls ≠ "java/lang/invoke/MethodHandle" ∧ yX6_faultOf.cls ≠ "java/lang/invoke/VarHandle" ∧ (parseMethodDescriptor yX6_faultOf.desc).map (fun d => d.parameters.length) = some 2 := ⟨kq6_40, kqp_49, kq1_5, kq6_41, by decide +kernel, by decide +kernel, by decide +kernel⟩
theorem kc_X6_append : Cond.instanceMethod yX6_append ∈ lw_g ∧ Cond.selects yX6_append.cls yX6_append yX6_append ∈ lw_g ∧ Cond.initialized yX6_append.cls ∈ lw_g ∧ Cond.code yX6_append cX6_append 8 (some .int) ∈ lw_g ∧ yX6_append.cls ≠ "java/lang/invoke/MethodHandle" ∧ yX6_append.cls ≠ "java/lang/invoke/VarHandle" ∧ (parseMethodDescriptor yX6_append.desc).map (fun d => d.parameters.length) = some 5 := ⟨kq5_149, kq5_150, kq1_5, kq5_151, by decide +kernel, by decide +kernel, by decide +kernel⟩
theorem kc_X6_see : Cond.instanceMethod yX6_see ∈ lw_g ∧ Cond.selects yX6_see.cls yX6_see yX6_see ∈ lw_g ∧ Cond.initialized yX6_see.cls ∈ lw_g ∧ Cond.code yX6_see cX6_see 2 (some .int) ∈ lw_g ∧ yX6_see.cls ≠ "java/lang/invoke/MethodHandle" ∧ yX6_see.cls ≠ "java/lang/invoke/VarHandle" ∧ (parseMethodDescriptor yX6_see.desc).map (fun d => d.parameters.length) = some 1 := ⟨kq5_162, kqp_29, kq1_5, kq5_163, by decide +kernel, by decide +kernel, by decide +kernel⟩
theorem kc_X6_isLetter : Cond.static yX6_isLetter ∈ lw_g ∧ Cond.initialized yX6_isLetter.cls ∈ lw_g ∧ Cond.code yX6_isLetter cX6_isLetter 1 (some .boolean) ∈ lw_g ∧ yX6_isLetter.cls ≠ "java/lang/invoke/MethodHandle" ∧ yX6_isLetter.cls ≠ "java/lang/invoke/VarHandle" ∧ (parseMethodDescriptor yX6_isLetter.desc).map (fun d => d.parameters.length) = some 1 := ⟨kq5_165, kq1_5, kq5_166, by decide +kernel, by decide +kernel, by decide +kernel⟩
set_option maxRecDepth 100000 in
set_option maxHeartbeats 4000000 in
theorem c_X6_begins {l : Launch} {G : Gp} {sz N : Nat} {h0 : Nat} {a0 : Nat → Nat} {u0 : Ob} {q : Ob} (hf : f_X6_begins N u0 = some q) : Met l yX6_begins (Cond.code yX6_begins cX6_begins 2 none :: lw_g) ({ frames := 0, cells := 0, slots := 0, locals := 0 } : Room) (va_Pc [.ref h0] (pw G (wX6 G h0 a0 u0) sz)) (va_Qv (fun v : Ob => q = v) (bw G (fun v : Ob => (wX6 G h0 a0 v)) (va_A (wX6 G h0 a0 u0) sz)) (va_A (wX6 G h0 a0 u0) sz)) 0 0 (va_A (wX6 G h0 a0 u0) sz) := by
  refine mt (Qc := (fun A => va_Qv (fun v : Ob => q = v) (bw G (fun v : Ob => (wX6 G h0 a0 v)) A) A)) (by decide) (Nat.le_of_ble_eq_true rfl) ?_
  intro p e s m below meth c A ls hx hb hr hlk hml hts hown hA hP hK hD hE hS hl
  have hown : s.vm.findClass RX6 = some m.cls := hown
  have hg : ∀ w ∈ lw_g, w.before ([.ref h0] : List Value).toArray s = true := fun w h => hts w (List.mem_cons_of_mem _ h)
  have hC : CallFix p m c cX6_begins 2 s ([.ref h0] : List Value).toArray (Cond.code yX6_begins cX6_begins 2 none :: lw_g) RX6 := ⟨hx, hb, hml, hown, hts⟩
  have hl : lv_has ls 2 [(0, .ref h0)] := hl
  have lp_2 : ∀ (n : Nat) (x1 : Int32) (u0 : Ob), l_X6_begins_2 N n x1 u0 = some q → ∀ (H : Heap) (locs : List Loc) (ls : Array Slot), va_P (gD G) vwCl (wX6 G h0 a0 u0) H → va_D A (wX6 G h0 a0 u0) → va_S A s.heap H locs → lv_has ls 2 [(0, .ref h0), (1, .int x1)] → W p l e ({ frames := 0, cells := 0, slots := 0, locals := 0 } : Room) s m ([.ref h0] : List Value).toArray below meth c H locs 0 0 (MQ below (va_Qv (fun v : Ob => q = v) (bw G (fun v : Ob => (wX6 G h0 a0 v)) A) A) ([.ref h0] : List Value).toArray s 0 0 A) (F0 m 2 ls []) := by
    intro n
    induction n with
    | zero => intro x1 u0 hf; rw [l_X6_begins_2] at hf; cases hf
    | succ n ih =>
      intro x1 u0 hf H locs ls hP hD hS hl
      rw [l_X6_begins_2] at hf
      refine lv_iload_n hx hb dX6_begins_2 rfl (lv_at hl 1 rfl) ?_
      refine lv_bipush (v := (48 : Int32)) hx hb dX6_begins_3 (by decide) ?_
      refine lv_icmp_ge (tgt := 21) hx hb dX6_begins_5 (by decide) (fun c1 => ?_) (fun c1 => ?_)
      · have hf := tp hf c1
        refine lv_aload_n hx hb dX6_begins_21 rfl (lv_at hl 0 rfl) ?_
        refine va_get (D := gD G) (ci := 4) (v := .ref (a0 1)) (C := RX6) (T := TX6) (N := 22) hx hb hg kl_X6 hown hK hP 0 rfl rfl 1 (by decide) (hg _ kq5_6) (fun _ h9 => h9) rfl dX6_begins_22 ?_
        refine lv_iconst (v := (0 : Int32)) hx hb dX6_begins_25 (by decide) ?_
        refine lv_ldc2 hx hb hown (hg _ kq4_237) dX6_begins_26 ?_
        refine va_last (f := (u0.2.2.2 1)) hx hb hK hP hD hS 2 2 rfl rfl (vin (by decide)) dX6_begins_29 (fun H locs hP hD hS => ?_)
        have hP : va_P (gD G) vwCl (wX6 G h0 a0 (oj u0 1 (vp_updL (u0.2.2.2 1) (0 : Int32).toNatClampNeg (100 : Int64)))) H := hP
        have hD : va_D A (wX6 G h0 a0 (oj u0 1 (vp_updL (u0.2.2.2 1) (0 : Int32).toNatClampNeg (100 : Int64)))) := hD
        refine lv_aload_n hx hb dX6_begins_30 rfl (lv_at hl 0 rfl) ?_
        refine va_get (D := gD G) (ci := 4) (v := .ref (a0 1)) (C := RX6) (T := TX6) (N := 22) hx hb hg kl_X6 hown hK hP 0 rfl rfl 1 (by decide) (hg _ kq5_6) (fun _ h9 => h9) rfl dX6_begins_31 ?_
        refine lv_iconst (v := (1 : Int32)) hx hb dX6_begins_34 (by decide) ?_
        refine lv_ldc2 hx hb hown (hg _ kq4_238) dX6_begins_35 ?_
        refine va_last (f := (vp_updL (u0.2.2.2 1) (0 : Int32).toNatClampNeg (100 : Int64))) hx hb hK hP hD hS 2 2 rfl rfl (vin (by decide)) dX6_begins_38 (fun H locs hP hD hS => ?_)
        have hP : va_P (gD G) vwCl (wX6 G h0 a0 (oj (oj u0 1 (vp_updL (u0.2.2.2 1) (0 : Int32).toNatClampNeg (100 : Int64))) 1 (vp_updL (vp_updL (u0.2.2.2 1) (0 : Int32).toNatClampNeg (100 : Int64)) (1 : Int32).toNatClampNeg (3 : Int64)))) H := hP
        have hD : va_D A (wX6 G h0 a0 (oj (oj u0 1 (vp_updL (u0.2.2.2 1) (0 : Int32).toNatClampNeg (100 : Int64))) 1 (vp_updL (vp_updL (u0.2.2.2 1) (0 : Int32).toNatClampNeg (100 : Int64)) (1 : Int32).toNatClampNeg (3 : Int64)))) := hD
        refine lv_aload_n hx hb dX6_begins_39 rfl (lv_at hl 0 rfl) ?_
        refine va_get (D := gD G) (ci := 4) (v := .ref (a0 1)) (C := RX6) (T := TX6) (N := 22) hx hb hg kl_X6 hown hK hP 0 rfl rfl 1 (by decide) (hg _ kq5_6) (fun _ h9 => h9) rfl dX6_begins_40 ?_
        refine lv_iconst (v := (2 : Int32)) hx hb dX6_begins_43 (by decide) ?_
        refine lv_ldc2 hx hb hown (hg _ kq4_239) dX6_begins_44 ?_
        refine va_last (f := (vp_updL (vp_updL (u0.2.2.2 1) (0 : Int32).toNatClampNeg (100 : Int64)) (1 : Int32).toNatClampNeg (3 : Int64))) hx hb hK hP hD hS 2 2 rfl rfl (vin (by decide)) dX6_begins_47 (fun H locs hP hD hS => ?_)
        have hP : va_P (gD G) vwCl (wX6 G h0 a0 (oj (oj (oj u0 1 (vp_updL (u0.2.2.2 1) (0 : Int32).toNatClampNeg (100 : Int64))) 1 (vp_updL (vp_updL (u0.2.2.2 1) (0 : Int32).toNatClampNeg (100 : Int64)) (1 : Int32).toNatClampNeg (3 : Int64))) 1 (vp_updL (vp_updL (vp_updL (u0.2.2.2 1) (0 : Int32).toNatClampNeg (100 : Int64)) (1 : Int32).toNatClampNeg (3 : Int64)) (2 : Int32).toNatClampNeg (5 : Int64)))) H := hP
        have hD : va_D A (wX6 G h0 a0 (oj (oj (oj u0 1 (vp_updL (u0.2.2.2 1) (0 : Int32).toNatClampNeg (100 : Int64))) 1 (vp_updL (vp_updL (u0.2.2.2 1) (0 : Int32).toNatClampNeg (100 : Int64)) (1 : Int32).toNatClampNeg (3 : Int64))) 1 (vp_updL (vp_updL (vp_updL (u0.2.2.2 1) (0 : Int32).toNatClampNeg (100 : Int64)) (1 : Int32).toNatClampNeg (3 : Int64)) (2 : Int32).toNatClampNeg (5 : Int64)))) := hD
        refine lv_aload_n hx hb dX6_begins_48 rfl (lv_at hl 0 rfl) ?_
        refine va_get (D := gD G) (ci := 4) (v := .ref (a0 1)) (C := RX6) (T := TX6) (N := 22) hx hb hg kl_X6 hown hK hP 0 rfl rfl 1 (by decide) (hg _ kq5_6) (fun _ h9 => h9) rfl dX6_begins_49 ?_
        refine lv_iconst (v := (5 : Int32)) hx hb dX6_begins_52 (by decide) ?_
        refine lv_ldc2 hx hb hown (hg _ kq5_0) dX6_begins_53 ?_
        refine va_last (f := (vp_updL (vp_updL (vp_updL (u0.2.2.2 1) (0 : Int32).toNatClampNeg (100 : Int64)) (1 : Int32).toNatClampNeg (3 : Int64)) (2 : Int32).toNatClampNeg (5 : Int64))) hx hb hK hP hD hS 2 2 rfl rfl (vin (by decide)) dX6_begins_56 (fun H locs hP hD hS => ?_)
        have hP : va_P (gD G) vwCl (wX6 G h0 a0 (oj (oj (oj (oj u0 1 (vp_updL (u0.2.2.2 1) (0 : Int32).toNatClampNeg (100 : Int64))) 1 (vp_updL (vp_updL (u0.2.2.2 1) (0 : Int32).toNatClampNeg (100 : Int64)) (1 : Int32).toNatClampNeg (3 : Int64))) 1 (vp_updL (vp_updL (vp_updL (u0.2.2.2 1) (0 : Int32).toNatClampNeg (100 : Int64)) (1 : Int32).toNatClampNeg (3 : Int64)) (2 : Int32).toNatClampNeg (5 : Int64))) 1 (vp_updL (vp_updL (vp_updL (vp_updL (u0.2.2.2 1) (0 : Int32).toNatClampNeg (100 : Int64)) (1 : Int32).toNatClampNeg (3 : Int64)) (2 : Int32).toNatClampNeg (5 : Int64)) (5 : Int32).toNatClampNeg (-1 : Int64)))) H := hP
        have hD : va_D A (wX6 G h0 a0 (oj (oj (oj (oj u0 1 (vp_updL (u0.2.2.2 1) (0 : Int32).toNatClampNeg (100 : Int64))) 1 (vp_updL (vp_updL (u0.2.2.2 1) (0 : Int32).toNatClampNeg (100 : Int64)) (1 : Int32).toNatClampNeg (3 : Int64))) 1 (vp_updL (vp_updL (vp_updL (u0.2.2.2 1) (0 : Int32).toNatClampNeg (100 : Int64)) (1 : Int32).toNatClampNeg (3 : Int64)) (2 : Int32).toNatClampNeg (5 : Int64))) 1 (vp_updL (vp_updL (vp_updL (vp_updL (u0.2.2.2 1) (0 : Int32).toNatClampNeg (100 : Int64)) (1 : Int32).toNatClampNeg (3 : Int64)) (2 : Int32).toNatClampNeg (5 : Int64)) (5 : Int32).toNatClampNeg (-1 : Int64)))) := hD
        refine lv_aload_n hx hb dX6_begins_57 rfl (lv_at hl 0 rfl) ?_
        refine va_get (D := gD G) (ci := 4) (v := .ref (a0 1)) (C := RX6) (T := TX6) (N := 22) hx hb hg kl_X6 hown hK hP 0 rfl rfl 1 (by decide) (hg _ kq5_6) (fun _ h9 => h9) rfl dX6_begins_58 ?_
        refine lv_bipush (v := (6 : Int32)) hx hb dX6_begins_61 (by decide) ?_
        refine lv_ldc2 hx hb hown (hg _ kq5_0) dX6_begins_63 ?_
        refine va_last (f := (vp_updL (vp_updL (vp_updL (vp_updL (u0.2.2.2 1) (0 : Int32).toNatClampNeg (100 : Int64)) (1 : Int32).toNatClampNeg (3 : Int64)) (2 : Int32).toNatClampNeg (5 : Int64)) (5 : Int32).toNatClampNeg (-1 : Int64))) hx hb hK hP hD hS 2 2 rfl rfl (vin (by decide)) dX6_begins_66 (fun H locs hP hD hS => ?_)
        have hP : va_P (gD G) vwCl (wX6 G h0 a0 (oj (oj (oj (oj (oj u0 1 (vp_updL (u0.2.2.2 1) (0 : Int32).toNatClampNeg (100 : Int64))) 1 (vp_updL (vp_updL (u0.2.2.2 1) (0 : Int32).toNatClampNeg (100 : Int64)) (1 : Int32).toNatClampNeg (3 : Int64))) 1 (vp_updL (vp_updL (vp_updL (u0.2.2.2 1) (0 : Int32).toNatClampNeg (100 : Int64)) (1 : Int32).toNatClampNeg (3 : Int64)) (2 : Int32).toNatClampNeg (5 : Int64))) 1 (vp_updL (vp_updL (vp_updL (vp_updL (u0.2.2.2 1) (0 : Int32).toNatClampNeg (100 : Int64)) (1 : Int32).toNatClampNeg (3 : Int64)) (2 : Int32).toNatClampNeg (5 : Int64)) (5 : Int32).toNatClampNeg (-1 : Int64))) 1 (vp_updL (vp_updL (vp_updL (vp_updL (vp_updL (u0.2.2.2 1) (0 : Int32).toNatClampNeg (100 : Int64)) (1 : Int32).toNatClampNeg (3 : Int64)) (2 : Int32).toNatClampNeg (5 : Int64)) (5 : Int32).toNatClampNeg (-1 : Int64)) (6 : Int32).toNatClampNeg (-1 : Int64)))) H := hP
        have hD : va_D A (wX6 G h0 a0 (oj (oj (oj (oj (oj u0 1 (vp_updL (u0.2.2.2 1) (0 : Int32).toNatClampNeg (100 : Int64))) 1 (vp_updL (vp_updL (u0.2.2.2 1) (0 : Int32).toNatClampNeg (100 : Int64)) (1 : Int32).toNatClampNeg (3 : Int64))) 1 (vp_updL (vp_updL (vp_updL (u0.2.2.2 1) (0 : Int32).toNatClampNeg (100 : Int64)) (1 : Int32).toNatClampNeg (3 : Int64)) (2 : Int32).toNatClampNeg (5 : Int64))) 1 (vp_updL (vp_updL (vp_updL (vp_updL (u0.2.2.2 1) (0 : Int32).toNatClampNeg (100 : Int64)) (1 : Int32).toNatClampNeg (3 : Int64)) (2 : Int32).toNatClampNeg (5 : Int64)) (5 : Int32).toNatClampNeg (-1 : Int64))) 1 (vp_updL (vp_updL (vp_updL (vp_updL (vp_updL (u0.2.2.2 1) (0 : Int32).toNatClampNeg (100 : Int64)) (1 : Int32).toNatClampNeg (3 : Int64)) (2 : Int32).toNatClampNeg (5 : Int64)) (5 : Int32).toNatClampNeg (-1 : Int64)) (6 : Int32).toNatClampNeg (-1 : Int64)))) := hD
        refine lv_aload_n hx hb dX6_begins_67 rfl (lv_at hl 0 rfl) ?_
        refine va_get (D := gD G) (ci := 4) (v := .ref (a0 1)) (C := RX6) (T := TX6) (N := 22) hx hb hg kl_X6 hown hK hP 0 rfl rfl 1 (by decide) (hg _ kq5_6) (fun _ h9 => h9) rfl dX6_begins_68 ?_
        refine lv_bipush (v := (7 : Int32)) hx hb dX6_begins_71 (by decide) ?_
        refine lv_ldc2 hx hb hown (hg _ kq5_0) dX6_begins_73 ?_
        refine va_last (f := (vp_updL (vp_updL (vp_updL (vp_updL (vp_updL (u0.2.2.2 1) (0 : Int32).toNatClampNeg (100 : Int64)) (1 : Int32).toNatClampNeg (3 : Int64)) (2 : Int32).toNatClampNeg (5 : Int64)) (5 : Int32).toNatClampNeg (-1 : Int64)) (6 : Int32).toNatClampNeg (-1 : Int64))) hx hb hK hP hD hS 2 2 rfl rfl (vin (by decide)) dX6_begins_76 (fun H locs hP hD hS => ?_)
        have hP : va_P (gD G) vwCl (wX6 G h0 a0 (oj (oj (oj (oj (oj (oj u0 1 (vp_updL (u0.2.2.2 1) (0 : Int32).toNatClampNeg (100 : Int64))) 1 (vp_updL (vp_updL (u0.2.2.2 1) (0 : Int32).toNatClampNeg (100 : Int64)) (1 : Int32).toNatClampNeg (3 : Int64))) 1 (vp_updL (vp_updL (vp_updL (u0.2.2.2 1) (0 : Int32).toNatClampNeg (100 : Int64)) (1 : Int32).toNatClampNeg (3 : Int64)) (2 : Int32).toNatClampNeg (5 : Int64))) 1 (vp_updL (vp_updL (vp_updL (vp_updL (u0.2.2.2 1) (0 : Int32).toNatClampNeg (100 : Int64)) (1 : Int32).toNatClampNeg (3 : Int64)) (2 : Int32).toNatClampNeg (5 : Int64)) (5 : Int32).toNatClampNeg (-1 : Int64))) 1 (vp_updL (vp_updL (vp_updL (vp_updL (vp_updL (u0.2.2.2 1) (0 : Int32).toNatClampNeg (100 : Int64)) (1 : Int32).toNatClampNeg (3 : Int64)) (2 : Int32).toNatClampNeg (5 : Int64)) (5 : Int32).toNatClampNeg (-1 : Int64)) (6 : Int32).toNatClampNeg (-1 : Int64))) 1 (vp_updL (vp_updL (vp_updL (vp_updL (vp_updL (vp_updL (u0.2.2.2 1) (0 : Int32).toNatClampNeg (100 : Int64)) (1 : Int32).toNatClampNeg (3 : Int64)) (2 : Int32).toNatClampNeg (5 : Int64)) (5 : Int32).toNatClampNeg (-1 : Int64)) (6 : Int32).toNatClampNeg (-1 : Int64)) (7 : Int32).toNatClampNeg (-1 : Int64)))) H := hP
        have hD : va_D A (wX6 G h0 a0 (oj (oj (oj (oj (oj (oj u0 1 (vp_updL (u0.2.2.2 1) (0 : Int32).toNatClampNeg (100 : Int64))) 1 (vp_updL (vp_updL (u0.2.2.2 1) (0 : Int32).toNatClampNeg (100 : Int64)) (1 : Int32).toNatClampNeg (3 : Int64))) 1 (vp_updL (vp_updL (vp_updL (u0.2.2.2 1) (0 : Int32).toNatClampNeg (100 : Int64)) (1 : Int32).toNatClampNeg (3 : Int64)) (2 : Int32).toNatClampNeg (5 : Int64))) 1 (vp_updL (vp_updL (vp_updL (vp_updL (u0.2.2.2 1) (0 : Int32).toNatClampNeg (100 : Int64)) (1 : Int32).toNatClampNeg (3 : Int64)) (2 : Int32).toNatClampNeg (5 : Int64)) (5 : Int32).toNatClampNeg (-1 : Int64))) 1 (vp_updL (vp_updL (vp_updL (vp_updL (vp_updL (u0.2.2.2 1) (0 : Int32).toNatClampNeg (100 : Int64)) (1 : Int32).toNatClampNeg (3 : Int64)) (2 : Int32).toNatClampNeg (5 : Int64)) (5 : Int32).toNatClampNeg (-1 : Int64)) (6 : Int32).toNatClampNeg (-1 : Int64))) 1 (vp_updL (vp_updL (vp_updL (vp_updL (vp_updL (vp_updL (u0.2.2.2 1) (0 : Int32).toNatClampNeg (100 : Int64)) (1 : Int32).toNatClampNeg (3 : Int64)) (2 : Int32).toNatClampNeg (5 : Int64)) (5 : Int32).toNatClampNeg (-1 : Int64)) (6 : Int32).toNatClampNeg (-1 : Int64)) (7 : Int32).toNatClampNeg (-1 : Int64)))) := hD
        refine lv_aload_n hx hb dX6_begins_77 rfl (lv_at hl 0 rfl) ?_
        refine va_get (D := gD G) (ci := 4) (v := .ref (a0 1)) (C := RX6) (T := TX6) (N := 22) hx hb hg kl_X6 hown hK hP 0 rfl rfl 1 (by decide) (hg _ kq5_6) (fun _ h9 => h9) rfl dX6_begins_78 ?_
        refine lv_bipush (v := (9 : Int32)) hx hb dX6_begins_81 (by decide) ?_
        refine lv_ldc2 hx hb hown (hg _ kq5_0) dX6_begins_83 ?_
        refine va_last (f := (vp_updL (vp_updL (vp_updL (vp_updL (vp_updL (vp_updL (u0.2.2.2 1) (0 : Int32).toNatClampNeg (100 : Int64)) (1 : Int32).toNatClampNeg (3 : Int64)) (2 : Int32).toNatClampNeg (5 : Int64)) (5 : Int32).toNatClampNeg (-1 : Int64)) (6 : Int32).toNatClampNeg (-1 : Int64)) (7 : Int32).toNatClampNeg (-1 : Int64))) hx hb hK hP hD hS 2 2 rfl rfl (vin (by decide)) dX6_begins_86 (fun H locs hP hD hS => ?_)
        have hP : va_P (gD G) vwCl (wX6 G h0 a0 (oj (oj (oj (oj (oj (oj (oj u0 1 (vp_updL (u0.2.2.2 1) (0 : Int32).toNatClampNeg (100 : Int64))) 1 (vp_updL (vp_updL (u0.2.2.2 1) (0 : Int32).toNatClampNeg (100 : Int64)) (1 : Int32).toNatClampNeg (3 : Int64))) 1 (vp_updL (vp_updL (vp_updL (u0.2.2.2 1) (0 : Int32).toNatClampNeg (100 : Int64)) (1 : Int32).toNatClampNeg (3 : Int64)) (2 : Int32).toNatClampNeg (5 : Int64))) 1 (vp_updL (vp_updL (vp_updL (vp_updL (u0.2.2.2 1) (0 : Int32).toNatClampNeg (100 : Int64)) (1 : Int32).toNatClampNeg (3 : Int64)) (2 : Int32).toNatClampNeg (5 : Int64)) (5 : Int32).toNatClampNeg (-1 : Int64))) 1 (vp_updL (vp_updL (vp_updL (vp_updL (vp_updL (u0.2.2.2 1) (0 : Int32).toNatClampNeg (100 : Int64)) (1 : Int32).toNatClampNeg (3 : Int64)) (2 : Int32).toNatClampNeg (5 : Int64)) (5 : Int32).toNatClampNeg (-1 : Int64)) (6 : Int32).toNatClampNeg (-1 : Int64))) 1 (vp_updL (vp_updL (vp_updL (vp_updL (vp_updL (vp_updL (u0.2.2.2 1) (0 : Int32).toNatClampNeg (100 : Int64)) (1 : Int32).toNatClampNeg (3 : Int64)) (2 : Int32).toNatClampNeg (5 : Int64)) (5 : Int32).toNatClampNeg (-1 : Int64)) (6 : Int32).toNatClampNeg (-1 : Int64)) (7 : Int32).toNatClampNeg (-1 : Int64))) 1 (vp_updL (vp_updL (vp_updL (vp_updL (vp_updL (vp_updL (vp_updL (u0.2.2.2 1) (0 : Int32).toNatClampNeg (100 : Int64)) (1 : Int32).toNatClampNeg (3 : Int64)) (2 : Int32).toNatClampNeg (5 : Int64)) (5 : Int32).toNatClampNeg (-1 : Int64)) (6 : Int32).toNatClampNeg (-1 : Int64)) (7 : Int32).toNatClampNeg (-1 : Int64)) (9 : Int32).toNatClampNeg (-1 : Int64)))) H := hP
        have hD : va_D A (wX6 G h0 a0 (oj (oj (oj (oj (oj (oj (oj u0 1 (vp_updL (u0.2.2.2 1) (0 : Int32).toNatClampNeg (100 : Int64))) 1 (vp_updL (vp_updL (u0.2.2.2 1) (0 : Int32).toNatClampNeg (100 : Int64)) (1 : Int32).toNatClampNeg (3 : Int64))) 1 (vp_updL (vp_updL (vp_updL (u0.2.2.2 1) (0 : Int32).toNatClampNeg (100 : Int64)) (1 : Int32).toNatClampNeg (3 : Int64)) (2 : Int32).toNatClampNeg (5 : Int64))) 1 (vp_updL (vp_updL (vp_updL (vp_updL (u0.2.2.2 1) (0 : Int32).toNatClampNeg (100 : Int64)) (1 : Int32).toNatClampNeg (3 : Int64)) (2 : Int32).toNatClampNeg (5 : Int64)) (5 : Int32).toNatClampNeg (-1 : Int64))) 1 (vp_updL (vp_updL (vp_updL (vp_updL (vp_updL (u0.2.2.2 1) (0 : Int32).toNatClampNeg (100 : Int64)) (1 : Int32).toNatClampNeg (3 : Int64)) (2 : Int32).toNatClampNeg (5 : Int64)) (5 : Int32).toNatClampNeg (-1 : Int64)) (6 : Int32).toNatClampNeg (-1 : Int64))) 1 (vp_updL (vp_updL (vp_updL (vp_updL (vp_updL (vp_updL (u0.2.2.2 1) (0 : Int32).toNatClampNeg (100 : Int64)) (1 : Int32).toNatClampNeg (3 : Int64)) (2 : Int32).toNatClampNeg (5 : Int64)) (5 : Int32).toNatClampNeg (-1 : Int64)) (6 : Int32).toNatClampNeg (-1 : Int64)) (7 : Int32).toNatClampNeg (-1 : Int64))) 1 (vp_updL (vp_updL (vp_updL (vp_updL (vp_updL (vp_updL (vp_updL (u0.2.2.2 1) (0 : Int32).toNatClampNeg (100 : Int64)) (1 : Int32).toNatClampNeg (3 : Int64)) (2 : Int32).toNatClampNeg (5 : Int64)) (5 : Int32).toNatClampNeg (-1 : Int64)) (6 : Int32).toNatClampNeg (-1 : Int64)) (7 : Int32).toNatClampNeg (-1 : Int64)) (9 : Int32).toNatClampNeg (-1 : Int64)))) := hD
        have hf := Option.some.inj hf
        subst hf
        exact e_v (wf := (fun v : Ob => (wX6 G h0 a0 v))) hx hb hr hlk (oj (oj (oj (oj (oj (oj (oj u0 1 (vp_updL (u0.2.2.2 1) (0 : Int32).toNatClampNeg (100 : Int64))) 1 (vp_updL (vp_updL (u0.2.2.2 1) (0 : Int32).toNatClampNeg (100 : Int64)) (1 : Int32).toNatClampNeg (3 : Int64))) 1 (vp_updL (vp_updL (vp_updL (u0.2.2.2 1) (0 : Int32).toNatClampNeg (100 : Int64)) (1 : Int32).toNatClampNeg (3 : Int64)) (2 : Int32).toNatClampNeg (5 : Int64))) 1 (vp_updL (vp_updL (vp_updL (vp_updL (u0.2.2.2 1) (0 : Int32).toNatClampNeg (100 : Int64)) (1 : Int32).toNatClampNeg (3 : Int64)) (2 : Int32).toNatClampNeg (5 : Int64)) (5 : Int32).toNatClampNeg (-1 : Int64))) 1 (vp_updL (vp_updL (vp_updL (vp_updL (vp_updL (u0.2.2.2 1) (0 : Int32).toNatClampNeg (100 : Int64)) (1 : Int32).toNatClampNeg (3 : Int64)) (2 : Int32).toNatClampNeg (5 : Int64)) (5 : Int32).toNatClampNeg (-1 : Int64)) (6 : Int32).toNatClampNeg (-1 : Int64))) 1 (vp_updL (vp_updL (vp_updL (vp_updL (vp_updL (vp_updL (u0.2.2.2 1) (0 : Int32).toNatClampNeg (100 : Int64)) (1 : Int32).toNatClampNeg (3 : Int64)) (2 : Int32).toNatClampNeg (5 : Int64)) (5 : Int32).toNatClampNeg (-1 : Int64)) (6 : Int32).toNatClampNeg (-1 : Int64)) (7 : Int32).toNatClampNeg (-1 : Int64))) 1 (vp_updL (vp_updL (vp_updL (vp_updL (vp_updL (vp_updL (vp_updL (u0.2.2.2 1) (0 : Int32).toNatClampNeg (100 : Int64)) (1 : Int32).toNatClampNeg (3 : Int64)) (2 : Int32).toNatClampNeg (5 : Int64)) (5 : Int32).toNatClampNeg (-1 : Int64)) (6 : Int32).toNatClampNeg (-1 : Int64)) (7 : Int32).toNatClampNeg (-1 : Int64)) (9 : Int32).toNatClampNeg (-1 : Int64))) rfl hP hK hD hS dX6_begins_87
      · have hf := tn hf c1
        refine lv_aload_n hx hb dX6_begins_8 rfl (lv_at hl 0 rfl) ?_
        refine va_get (D := gD G) (ci := 4) (v := .ref (a0 1)) (C := RX6) (T := TX6) (N := 22) hx hb hg kl_X6 hown hK hP 0 rfl rfl 1 (by decide) (hg _ kq5_6) (fun _ h9 => h9) rfl dX6_begins_9 ?_
        refine lv_iload_n hx hb dX6_begins_12 rfl (lv_at hl 1 rfl) ?_
        refine lv_lconst (v := (0 : Int64)) hx hb dX6_begins_13 (by decide) ?_
        obtain ⟨b2, hf⟩ := tno hf
        refine va_last (f := (u0.2.2.2 1)) hx hb hK hP hD hS 2 2 rfl rfl b2 dX6_begins_14 (fun H locs hP hD hS => ?_)
        have hP : va_P (gD G) vwCl (wX6 G h0 a0 (oj u0 1 (vp_updL (u0.2.2.2 1) x1.toNatClampNeg (0 : Int64)))) H := hP
        have hD : va_D A (wX6 G h0 a0 (oj u0 1 (vp_updL (u0.2.2.2 1) x1.toNatClampNeg (0 : Int64)))) := hD
        refine lv_iinc (v := (x1 + (1 : Int32))) (lv' := [(1, .int (x1 + (1 : Int32))), (0, .ref h0)]) hx hb dX6_begins_15 hl (k := 1) rfl rfl (by decide) rfl (fun ls hl => ?_)
        refine lv_goto (tgt := 2) hx hb dX6_begins_18 (by decide) ?_
        exact ih _ _ hf _ _ _ hP hD hS (lv_sub hl [1, 0] rfl)
  rw [f_X6_begins] at hf
  refine lv_iconst (v := (0 : Int32)) hx hb dX6_begins_0 (by decide) ?_
  refine lv_istore_n (lv' := [(1, .int (0 : Int32)), (0, .ref h0)]) hx hb dX6_begins_1 rfl hl (by decide) rfl (fun ls hl => ?_)
  exact lp_2 N _ _ hf _ _ _ hP hD hS (lv_sub hl [1, 0] rfl)
set_option maxRecDepth 100000 in
set_option maxHeartbeats 4000000 in
theorem c_X6_becomes_1 {l : Launch} {G : Gp} {sz N : Nat} {x2 : Int32} {h0 : Nat} {a0 : Nat → Nat} {u0 : Ob} {q : Ob} (hf : f_X6_becomes_1 N x2 u0 = some q) : Met l yX6_becomes (Cond.code yX6_becomes cX6_becomes 4 none :: lw_g) ({ frames := 0, cells := 0, slots := 0, locals := 0 } : Room) (va_Pc [.ref h0, .ref (a0 1), .int x2] (pw G (wX6 G h0 a0 u0) sz)) (va_Qv (fun v : Ob => q = v) (bw G (fun v : Ob => (wX6 G h0 a0 v)) (va_A (wX6 G h0 a0 u0) sz)) (va_A (wX6 G h0 a0 u0) sz)) 0 0 (va_A (wX6 G h0 a0 u0) sz) := by
  refine mt (Qc := (fun A => va_Qv (fun v : Ob => q = v) (bw G (fun v : Ob => (wX6 G h0 a0 v)) A) A)) (by decide) (Nat.le_of_ble_eq_true rfl) ?_
  intro p e s m below meth c A ls hx hb hr hlk hml hts hown hA hP hK hD hE hS hl
  have hown : s.vm.findClass RX6 = some m.cls := hown
  have hg : ∀ w ∈ lw_g, w.before ([.ref h0, .ref (a0 1), .int x2] : List Value).toArray s = true := fun w h => hts w (List.mem_cons_of_mem _ h)
  have hC : CallFix p m c cX6_becomes 4 s ([.ref h0, .ref (a0 1), .int x2] : List Value).toArray (Cond.code yX6_becomes cX6_becomes 4 none :: lw_g) RX6 := ⟨hx, hb, hml, hown, hts⟩
  have hl : lv_has ls 4 [(0, .ref h0), (1, .ref (a0 1)), (2, .int x2)] := hl
  have lp_2 : ∀ (n : Nat) (x3 : Int32) (u0 : Ob), l_X6_becomes_1_2 N x2 n x3 u0 = some q → ∀ (H : Heap) (locs : List Loc) (ls : Array Slot), va_P (gD G) vwCl (wX6 G h0 a0 u0) H → va_D A (wX6 G h0 a0 u0) → va_S A s.heap H locs → lv_has ls 4 [(0, .ref h0), (1, .ref (a0 1)), (2, .int x2), (3, .int x3)] → W p l e ({ frames := 0, cells := 0, slots := 0, locals := 0 } : Room) s m ([.ref h0, .ref (a0 1), .int x2] : List Value).toArray below meth c H locs 0 0 (MQ below (va_Qv (fun v : Ob => q = v) (bw G (fun v : Ob => (wX6 G h0 a0 v)) A) A) ([.ref h0, .ref (a0 1), .int x2] : List Value).toArray s 0 0 A) (F0 m 2 ls []) := by
    intro n
    induction n with
    | zero => intro x3 u0 hf; rw [l_X6_becomes_1_2] at hf; cases hf
    | succ n ih =>
      intro x3 u0 hf H locs ls hP hD hS hl
      rw [l_X6_becomes_1_2] at hf
      refine lv_iload_n hx hb dX6_becomes_2 rfl (lv_at hl 3 rfl) ?_
      refine lv_bipush (v := (48 : Int32)) hx hb dX6_becomes_3 (by decide) ?_
      refine lv_icmp_ge (tgt := 25) hx hb dX6_becomes_5 (by decide) (fun c1 => ?_) (fun c1 => ?_)
      · have hf := tp hf c1
        have hf := Option.some.inj hf
        subst hf
        exact e_v (wf := (fun v : Ob => (wX6 G h0 a0 v))) hx hb hr hlk u0 rfl hP hK hD hS dX6_becomes_25
      · have hf := tn hf c1
        refine lv_aload_n hx hb dX6_becomes_8 rfl (lv_at hl 0 rfl) ?_
        refine va_get (D := gD G) (ci := 4) (v := .ref (a0 0)) (C := RX6) (T := TX6) (N := 22) hx hb hg kl_X6 hown hK hP 0 rfl rfl 0 (by decide) (hg _ kq5_5) (fun _ h9 => h9) rfl dX6_becomes_9 ?_
        refine lv_iload_n hx hb dX6_becomes_12 rfl (lv_at hl 3 rfl) ?_
        refine lv_aload_n hx hb dX6_becomes_13 rfl (lv_at hl 1 rfl) ?_
        refine lv_iload_n hx hb dX6_becomes_14 rfl (lv_at hl 2 rfl) ?_
        refine lv_iload_n hx hb dX6_becomes_15 rfl (lv_at hl 3 rfl) ?_
        refine lv_iadd hx hb dX6_becomes_16 ?_
        obtain ⟨b2, hf⟩ := tno hf
        refine va_lald (f := (u0.2.2.2 1)) hx hb hK hP 2 2 rfl rfl b2 dX6_becomes_17 ?_
        obtain ⟨b3, hf⟩ := tno hf
        refine va_last (f := (u0.2.2.2 0)) hx hb hK hP hD hS 1 2 rfl rfl b3 dX6_becomes_18 (fun H locs hP hD hS => ?_)
        have hP : va_P (gD G) vwCl (wX6 G h0 a0 (oj u0 0 (vp_updL (u0.2.2.2 0) x3.toNatClampNeg ((u0.2.2.2 1) (x2 + x3).toNatClampNeg)))) H := hP
        have hD : va_D A (wX6 G h0 a0 (oj u0 0 (vp_updL (u0.2.2.2 0) x3.toNatClampNeg ((u0.2.2.2 1) (x2 + x3).toNatClampNeg)))) := hD
        refine lv_iinc (v := (x3 + (1 : Int32))) (lv' := [(3, .int (x3 + (1 : Int32))), (0, .ref h0), (1, .ref (a0 1)), (2, .int x2)]) hx hb dX6_becomes_19 hl (k := 3) rfl rfl (by decide) rfl (fun ls hl => ?_)
        refine lv_goto (tgt := 2) hx hb dX6_becomes_22 (by decide) ?_
        exact ih _ _ hf _ _ _ hP hD hS (lv_sub hl [1, 2, 3, 0] rfl)
  rw [f_X6_becomes_1] at hf
  refine lv_iconst (v := (0 : Int32)) hx hb dX6_becomes_0 (by decide) ?_
  refine lv_istore_n (lv' := [(3, .int (0 : Int32)), (0, .ref h0), (1, .ref (a0 1)), (2, .int x2)]) hx hb dX6_becomes_1 rfl hl (by decide) rfl (fun ls hl => ?_)
  exact lp_2 N _ _ hf _ _ _ hP hD hS (lv_sub hl [1, 2, 3, 0] rfl)
set_option maxRecDepth 100000 in
set_option maxHeartbeats 4000000 in
theorem c_X6_thrown {l : Launch} {G : Gp} {sz N : Nat} {h0 : Nat} {a0 : Nat → Nat} {u0 : Ob} {q : Int32} (hf : f_X6_thrown N u0 = some q) : Met l yX6_thrown (Cond.code yX6_thrown cX6_thrown 1 (some .int) :: lw_g) ({ frames := 0, cells := 0, slots := 0, locals := 0 } : Room) (va_Pc [.ref h0] (pw G (wX6 G h0 a0 u0) sz)) (va_Qi (fun (r : Int32) (v : Ob) => q = r ∧ u0 = v) (bw G (fun v : Ob => (wX6 G h0 a0 v)) (va_A (wX6 G h0 a0 u0) sz)) (va_A (wX6 G h0 a0 u0) sz)) 0 0 (va_A (wX6 G h0 a0 u0) sz) := by
  refine mt (Qc := (fun A => va_Qi (fun (r : Int32) (v : Ob) => q = r ∧ u0 = v) (bw G (fun v : Ob => (wX6 G h0 a0 v)) A) A)) (by decide) (Nat.le_of_ble_eq_true rfl) ?_
  intro p e s m below meth c A ls hx hb hr hlk hml hts hown hA hP hK hD hE hS hl
  have hown : s.vm.findClass RX6 = some m.cls := hown
  have hg : ∀ w ∈ lw_g, w.before ([.ref h0] : List Value).toArray s = true := fun w h => hts w (List.mem_cons_of_mem _ h)
  have hC : CallFix p m c cX6_thrown 1 s ([.ref h0] : List Value).toArray (Cond.code yX6_thrown cX6_thrown 1 (some .int) :: lw_g) RX6 := ⟨hx, hb, hml, hown, hts⟩
  have hl : lv_has ls 1 [(0, .ref h0)] := hl
  rw [f_X6_thrown] at hf
  refine lv_aload_n hx hb dX6_thrown_0 rfl (lv_at hl 0 rfl) ?_
  refine va_get (D := gD G) (ci := 4) (v := .int (u0.1 7)) (C := RX6) (T := TX6) (N := 22) hx hb hg kl_X6 hown hK hP 0 rfl rfl 7 (by decide) (hg _ kq5_12) (fun _ h9 => h9) rfl dX6_thrown_1 ?_
  have hf := Option.some.inj hf
  subst hf
  exact e_i (wf := (fun v : Ob => (wX6 G h0 a0 v))) hx hb hr hlk u0 ⟨rfl, rfl⟩ hP hK hD hS dX6_thrown_4
set_option maxRecDepth 100000 in
set_option maxHeartbeats 4000000 in
theorem c_X6_isIn {l : Launch} {G : Gp} {sz N : Nat} {x0 : Int64} {x2 : Int64} {x4 : Int64} {q : Bool} (hf : f_X6_isIn N x0 x2 x4 = some q) : Met l yX6_isIn (Cond.code yX6_isIn cX6_isIn 6 (some .boolean) :: lw_g) ({ frames := 0, cells := 0, slots := 0, locals := 0 } : Room) (va_Pc [.long x0, .long x2, .long x4] (pw G [] sz)) (va_Qi (fun (r : Int32) (v : Unit) => bI q = r ∧ () = v) (bw G (fun _ : Unit => ([] : va_W)) (va_A [] sz)) (va_A [] sz)) 0 0 (va_A [] sz) := by
  refine mt (Qc := (fun A => va_Qi (fun (r : Int32) (v : Unit) => bI q = r ∧ () = v) (bw G (fun _ : Unit => ([] : va_W)) A) A)) (by decide) (Nat.le_of_ble_eq_true rfl) ?_
  intro p e s m below meth c A ls hx hb hr hlk hml hts hown hA hP hK hD hE hS hl
  have hown : s.vm.findClass RX6 = some m.cls := hown
  have hg : ∀ w ∈ lw_g, w.before ([.long x0, .long x2, .long x4] : List Value).toArray s = true := fun w h => hts w (List.mem_cons_of_mem _ h)
  have hC : CallFix p m c cX6_isIn 6 s ([.long x0, .long x2, .long x4] : List Value).toArray (Cond.code yX6_isIn cX6_isIn 6 (some .boolean) :: lw_g) RX6 := ⟨hx, hb, hml, hown, hts⟩
  have hl : lv_has ls 6 [(0, .long x0), (2, .long x2), (4, .long x4)] := hl
  rw [f_X6_isIn] at hf
  refine lv_lload_n hx hb dX6_isIn_0 rfl (lv_at hl 0 rfl) ?_
  refine lv_lload_n hx hb dX6_isIn_1 rfl (lv_at hl 1 rfl) ?_
  refine lc_lt (tgt := 17) hx hb dX6_isIn_2 dX6_isIn_3 (by decide) (fun c1 => ?_) (fun c1 => ?_)
  · have hf := tp hf c1
    refine lv_iconst (v := (0 : Int32)) hx hb dX6_isIn_17 (by decide) ?_
    have hf := Option.some.inj hf
    subst hf
    exact e_z (wf := (fun _ : Unit => ([] : va_W))) hx hb hr hlk () rfl ⟨rfl, rfl⟩ hP hK hD hS dX6_isIn_18
  · have hf := tn hf c1
    refine lv_lload_n hx hb dX6_isIn_6 rfl (lv_at hl 0 rfl) ?_
    refine lv_lload hx hb dX6_isIn_7 (lv_at hl 2 rfl) ?_
    refine lc_gt (tgt := 17) hx hb dX6_isIn_9 dX6_isIn_10 (by decide) (fun c2 => ?_) (fun c2 => ?_)
    · have hf := tp hf c2
      refine lv_iconst (v := (0 : Int32)) hx hb dX6_isIn_17 (by decide) ?_
      have hf := Option.some.inj hf
      subst hf
      exact e_z (wf := (fun _ : Unit => ([] : va_W))) hx hb hr hlk () rfl ⟨rfl, rfl⟩ hP hK hD hS dX6_isIn_18
    · have hf := tn hf c2
      refine lv_iconst (v := (1 : Int32)) hx hb dX6_isIn_13 (by decide) ?_
      refine lv_goto (tgt := 18) hx hb dX6_isIn_14 (by decide) ?_
      have hf := Option.some.inj hf
      subst hf
      exact e_z (wf := (fun _ : Unit => ([] : va_W))) hx hb hr hlk () rfl ⟨rfl, rfl⟩ hP hK hD hS dX6_isIn_18
set_option maxRecDepth 100000 in
set_option maxHeartbeats 4000000 in
theorem c_X6_sizeOf {l : Launch} {G : Gp} {sz N : Nat} {x0 : Int64} {q : Int64} (hf : f_X6_sizeOf N x0 = some q) : Met l yX6_sizeOf (Cond.code yX6_sizeOf cX6_sizeOf 2 (some .long) :: lw_g) ({ frames := 0, cells := 0, slots := 0, locals := 0 } : Room) (va_Pc [.long x0] (pw G [] sz)) (va_Ql (fun (r : Int64) (v : Unit) => q = r ∧ () = v) (bw G (fun _ : Unit => ([] : va_W)) (va_A [] sz)) (va_A [] sz)) 0 0 (va_A [] sz) := by
  refine mt (Qc := (fun A => va_Ql (fun (r : Int64) (v : Unit) => q = r ∧ () = v) (bw G (fun _ : Unit => ([] : va_W)) A) A)) (by decide) (Nat.le_of_ble_eq_true rfl) ?_
  intro p e s m below meth c A ls hx hb hr hlk hml hts hown hA hP hK hD hE hS hl
  have hown : s.vm.findClass RX6 = some m.cls := hown
  have hg : ∀ w ∈ lw_g, w.before ([.long x0] : List Value).toArray s = true := fun w h => hts w (List.mem_cons_of_mem _ h)
  have hC : CallFix p m c cX6_sizeOf 2 s ([.long x0] : List Value).toArray (Cond.code yX6_sizeOf cX6_sizeOf 2 (some .long) :: lw_g) RX6 := ⟨hx, hb, hml, hown, hts⟩
  have hl : lv_has ls 2 [(0, .long x0)] := hl
  rw [f_X6_sizeOf] at hf
  refine lv_lload_n hx hb dX6_sizeOf_0 rfl (lv_at hl 0 rfl) ?_
  refine lv_lconst (v := (0 : Int64)) hx hb dX6_sizeOf_1 (by decide) ?_
  refine lc_ge (tgt := 11) hx hb dX6_sizeOf_2 dX6_sizeOf_3 (by decide) (fun c1 => ?_) (fun c1 => ?_)
  · have hf := tp hf c1
    refine lv_lload_n hx hb dX6_sizeOf_11 rfl (lv_at hl 0 rfl) ?_
    have hf := Option.some.inj hf
    subst hf
    exact e_l (wf := (fun _ : Unit => ([] : va_W))) hx hb hr hlk () ⟨rfl, rfl⟩ hP hK hD hS dX6_sizeOf_12
  · have hf := tn hf c1
    refine lv_lload_n hx hb dX6_sizeOf_6 rfl (lv_at hl 0 rfl) ?_
    refine lv_lneg hx hb dX6_sizeOf_7 ?_
    refine lv_goto (tgt := 12) hx hb dX6_sizeOf_8 (by decide) ?_
    have hf := Option.some.inj hf
    subst hf
    exact e_l (wf := (fun _ : Unit => ([] : va_W))) hx hb hr hlk () ⟨rfl, rfl⟩ hP hK hD hS dX6_sizeOf_12
set_option maxRecDepth 100000 in
set_option maxHeartbeats 4000000 in
theorem c_X6_has {l : Launch} {G : Gp} {sz N : Nat} {x0 : Int64} {x2 : Int32} {q : Bool} (hf : f_X6_has N x0 x2 = some q) : Met l yX6_has (Cond.code yX6_has cX6_has 3 (some .boolean) :: lw_g) ({ frames := 0, cells := 0, slots := 0, locals := 0 } : Room) (va_Pc [.long x0, .int x2] (pw G [] sz)) (va_Qi (fun (r : Int32) (v : Unit) => bI q = r ∧ () = v) (bw G (fun _ : Unit => ([] : va_W)) (va_A [] sz)) (va_A [] sz)) 0 0 (va_A [] sz) := by
  refine mt (Qc := (fun A => va_Qi (fun (r : Int32) (v : Unit) => bI q = r ∧ () = v) (bw G (fun _ : Unit => ([] : va_W)) A) A)) (by decide) (Nat.le_of_ble_eq_true rfl) ?_
  intro p e s m below meth c A ls hx hb hr hlk hml hts hown hA hP hK hD hE hS hl
  have hown : s.vm.findClass RX6 = some m.cls := hown
  have hg : ∀ w ∈ lw_g, w.before ([.long x0, .int x2] : List Value).toArray s = true := fun w h => hts w (List.mem_cons_of_mem _ h)
  have hC : CallFix p m c cX6_has 3 s ([.long x0, .int x2] : List Value).toArray (Cond.code yX6_has cX6_has 3 (some .boolean) :: lw_g) RX6 := ⟨hx, hb, hml, hown, hts⟩
  have hl : lv_has ls 3 [(0, .long x0), (2, .int x2)] := hl
  rw [f_X6_has] at hf
  refine lv_lload_n hx hb dX6_has_0 rfl (lv_at hl 0 rfl) ?_
  refine lv_iload_n hx hb dX6_has_1 rfl (lv_at hl 1 rfl) ?_
  refine lv_lushr (v := (jushr x0 x2)) hx hb dX6_has_2 rfl ?_
  refine lv_lconst (v := (1 : Int64)) hx hb dX6_has_3 (by decide) ?_
  refine lv_land hx hb dX6_has_4 ?_
  refine lv_lconst (v := (1 : Int64)) hx hb dX6_has_5 (by decide) ?_
  refine lc_ne (tgt := 14) hx hb dX6_has_6 dX6_has_7 (by decide) (fun c1 => ?_) (fun c1 => ?_)
  · have hf := tn hf c1
    refine lv_iconst (v := (0 : Int32)) hx hb dX6_has_14 (by decide) ?_
    have hf := Option.some.inj hf
    subst hf
    exact e_z (wf := (fun _ : Unit => ([] : va_W))) hx hb hr hlk () rfl ⟨rfl, rfl⟩ hP hK hD hS dX6_has_15
  · have hf := tp hf c1
    refine lv_iconst (v := (1 : Int32)) hx hb dX6_has_10 (by decide) ?_
    refine lv_goto (tgt := 15) hx hb dX6_has_11 (by decide) ?_
    have hf := Option.some.inj hf
    subst hf
    exact e_z (wf := (fun _ : Unit => ([] : va_W))) hx hb hr hlk () rfl ⟨rfl, rfl⟩ hP hK hD hS dX6_has_15
set_option maxRecDepth 100000 in
set_option maxHeartbeats 4000000 in
theorem c_X6_bits {l : Launch} {G : Gp} {sz N : Nat} {x0 : Int64} {x2 : Int32} {x3 : Int32} {q : Int32} (hf : f_X6_bits N x0 x2 x3 = some q) : Met l yX6_bits (Cond.code yX6_bits cX6_bits 6 (some .int) :: lw_g) ({ frames := 1, cells := 0, slots := 0, locals := 22 } : Room) (va_Pc [.long x0, .int x2, .int x3] (pw G [] sz)) (va_Qi (fun (r : Int32) (v : Unit) => q = r ∧ () = v) (bw G (fun _ : Unit => ([] : va_W)) (va_A [] sz)) (va_A [] sz)) 0 0 (va_A [] sz) := by
  refine mt (Qc := (fun A => va_Qi (fun (r : Int32) (v : Unit) => q = r ∧ () = v) (bw G (fun _ : Unit => ([] : va_W)) A) A)) (by decide) (Nat.le_of_ble_eq_true rfl) ?_
  intro p e s m below meth c A ls hx hb hr hlk hml hts hown hA hP hK hD hE hS hl
  have hown : s.vm.findClass RX6 = some m.cls := hown
  have hg : ∀ w ∈ lw_g, w.before ([.long x0, .int x2, .int x3] : List Value).toArray s = true := fun w h => hts w (List.mem_cons_of_mem _ h)
  have hC : CallFix p m c cX6_bits 6 s ([.long x0, .int x2, .int x3] : List Value).toArray (Cond.code yX6_bits cX6_bits 6 (some .int) :: lw_g) RX6 := ⟨hx, hb, hml, hown, hts⟩
  have hl : lv_has ls 6 [(0, .long x0), (2, .int x2), (3, .int x3)] := hl
  have lp_6 : ∀ (n : Nat) (x4 : Int32) (x5 : Int32), l_X6_bits_6 N x0 x2 x3 n x4 x5 = some q → ∀ (H : Heap) (locs : List Loc) (ls : Array Slot), va_P (gD G) vwCl [] H → va_D A [] → va_S A s.heap H locs → lv_has ls 6 [(0, .long x0), (2, .int x2), (3, .int x3), (4, .int x4), (5, .int x5)] → W p l e ({ frames := 1, cells := 0, slots := 0, locals := 22 } : Room) s m ([.long x0, .int x2, .int x3] : List Value).toArray below meth c H locs 0 0 (MQ below (va_Qi (fun (r : Int32) (v : Unit) => q = r ∧ () = v) (bw G (fun _ : Unit => ([] : va_W)) A) A) ([.long x0, .int x2, .int x3] : List Value).toArray s 0 0 A) (F0 m 6 ls []) := by
    intro n
    induction n with
    | zero => intro x4 x5 hf; rw [l_X6_bits_6] at hf; cases hf
    | succ n ih =>
      intro x4 x5 hf H locs ls hP hD hS hl
      rw [l_X6_bits_6] at hf
      refine lv_iload hx hb dX6_bits_6 (lv_at hl 4 rfl) ?_
      refine lv_iload_n hx hb dX6_bits_8 rfl (lv_at hl 2 rfl) ?_
      refine lv_icmp_gt (tgt := 37) hx hb dX6_bits_9 (by decide) (fun c1 => ?_) (fun c1 => ?_)
      · have hf := tp hf c1
        refine lv_iload hx hb dX6_bits_37 (lv_at hl 3 rfl) ?_
        have hf := Option.some.inj hf
        subst hf
        exact e_i (wf := (fun _ : Unit => ([] : va_W))) hx hb hr hlk () ⟨rfl, rfl⟩ hP hK hD hS dX6_bits_39
      · have hf := tn hf c1
        refine lv_iload hx hb dX6_bits_12 (lv_at hl 3 rfl) ?_
        refine lv_lload_n hx hb dX6_bits_14 rfl (lv_at hl 0 rfl) ?_
        refine lv_iload hx hb dX6_bits_15 (lv_at hl 4 rfl) ?_
        obtain ⟨q2, e3, hf⟩ := tbd hf
        refine kSi0 (As := [.long x0, .int x5]) (rest := [.int x4]) hC (c_X6_has (G := G) e3) kq5_145 kc_X6_has (by decide) hP hK hD hE hS hA hl.1 (Nat.le_of_ble_eq_true rfl) ⟨Nat.zero_le _, Nat.zero_le _⟩ dX6_bits_17 (fun r9 u9 H locs hw hP hD hS => ?_)
        obtain ⟨rfl, rfl⟩ := hw
        refine bz_eq (tgt := 27) hx hb dX6_bits_20 (by decide) (fun c4 => ?_) (fun c4 => ?_)
        · have hf := tn hf c4
          refine lv_iconst (v := (0 : Int32)) hx hb dX6_bits_27 (by decide) ?_
          refine lv_iadd hx hb dX6_bits_28 ?_
          refine lv_istore (lv' := [(4, .int (x4 + (0 : Int32))), (0, .long x0), (2, .int x2), (3, .int x3), (5, .int x5)]) hx hb dX6_bits_29 hl (by decide) rfl (fun ls hl => ?_)
          refine lv_iinc (v := (x5 + (1 : Int32))) (lv' := [(5, .int (x5 + (1 : Int32))), (4, .int (x4 + (0 : Int32))), (0, .long x0), (2, .int x2), (3, .int x3)]) hx hb dX6_bits_31 hl (k := 4) rfl rfl (by decide) rfl (fun ls hl => ?_)
          refine lv_goto (tgt := 6) hx hb dX6_bits_34 (by decide) ?_
          exact ih _ _ hf _ _ _ hP hD hS (lv_sub hl [2, 3, 4, 1, 0] rfl)
        · have hf := tp hf c4
          refine lv_iconst (v := (1 : Int32)) hx hb dX6_bits_23 (by decide) ?_
          refine lv_goto (tgt := 28) hx hb dX6_bits_24 (by decide) ?_
          refine lv_iadd hx hb dX6_bits_28 ?_
          refine lv_istore (lv' := [(4, .int (x4 + (1 : Int32))), (0, .long x0), (2, .int x2), (3, .int x3), (5, .int x5)]) hx hb dX6_bits_29 hl (by decide) rfl (fun ls hl => ?_)
          refine lv_iinc (v := (x5 + (1 : Int32))) (lv' := [(5, .int (x5 + (1 : Int32))), (4, .int (x4 + (1 : Int32))), (0, .long x0), (2, .int x2), (3, .int x3)]) hx hb dX6_bits_31 hl (k := 4) rfl rfl (by decide) rfl (fun ls hl => ?_)
          refine lv_goto (tgt := 6) hx hb dX6_bits_34 (by decide) ?_
          exact ih _ _ hf _ _ _ hP hD hS (lv_sub hl [2, 3, 4, 1, 0] rfl)
  rw [f_X6_bits] at hf
  refine lv_iconst (v := (0 : Int32)) hx hb dX6_bits_0 (by decide) ?_
  refine lv_istore (lv' := [(4, .int (0 : Int32)), (0, .long x0), (2, .int x2), (3, .int x3)]) hx hb dX6_bits_1 hl (by decide) rfl (fun ls hl => ?_)
  refine lv_iload_n hx hb dX6_bits_3 rfl (lv_at hl 2 rfl) ?_
  refine lv_istore (lv' := [(5, .int x2), (4, .int (0 : Int32)), (0, .long x0), (2, .int x2), (3, .int x3)]) hx hb dX6_bits_4 hl (by decide) rfl (fun ls hl => ?_)
  exact lp_6 N _ _ hf _ _ _ hP hD hS (lv_sub hl [2, 3, 4, 1, 0] rfl)
set_option maxRecDepth 100000 in
set_option maxHeartbeats 4000000 in
theorem c_X6_span {l : Launch} {G : Gp} {sz N : Nat} {x0 : Int32} {x1 : Int32} {q : Int64} (hf : f_X6_span N x0 x1 = some q) : Met l yX6_span (Cond.code yX6_span cX6_span 5 (some .long) :: lw_g) ({ frames := 0, cells := 0, slots := 0, locals := 0 } : Room) (va_Pc [.int x0, .int x1] (pw G [] sz)) (va_Ql (fun (r : Int64) (v : Unit) => q = r ∧ () = v) (bw G (fun _ : Unit => ([] : va_W)) (va_A [] sz)) (va_A [] sz)) 0 0 (va_A [] sz) := by
  refine mt (Qc := (fun A => va_Ql (fun (r : Int64) (v : Unit) => q = r ∧ () = v) (bw G (fun _ : Unit => ([] : va_W)) A) A)) (by decide) (Nat.le_of_ble_eq_true rfl) ?_
  intro p e s m below meth c A ls hx hb hr hlk hml hts hown hA hP hK hD hE hS hl
  have hown : s.vm.findClass RX6 = some m.cls := hown
  have hg : ∀ w ∈ lw_g, w.before ([.int x0, .int x1] : List Value).toArray s = true := fun w h => hts w (List.mem_cons_of_mem _ h)
  have hC : CallFix p m c cX6_span 5 s ([.int x0, .int x1] : List Value).toArray (Cond.code yX6_span cX6_span 5 (some .long) :: lw_g) RX6 := ⟨hx, hb, hml, hown, hts⟩
  have hl : lv_has ls 5 [(0, .int x0), (1, .int x1)] := hl
  have lp_5 : ∀ (n : Nat) (x2 : Int64) (x4 : Int32), l_X6_span_5 N x0 x1 n x2 x4 = some q → ∀ (H : Heap) (locs : List Loc) (ls : Array Slot), va_P (gD G) vwCl [] H → va_D A [] → va_S A s.heap H locs → lv_has ls 5 [(0, .int x0), (1, .int x1), (2, .long x2), (4, .int x4)] → W p l e ({ frames := 0, cells := 0, slots := 0, locals := 0 } : Room) s m ([.int x0, .int x1] : List Value).toArray below meth c H locs 0 0 (MQ below (va_Ql (fun (r : Int64) (v : Unit) => q = r ∧ () = v) (bw G (fun _ : Unit => ([] : va_W)) A) A) ([.int x0, .int x1] : List Value).toArray s 0 0 A) (F0 m 5 ls []) := by
    intro n
    induction n with
    | zero => intro x2 x4 hf; rw [l_X6_span_5] at hf; cases hf
    | succ n ih =>
      intro x2 x4 hf H locs ls hP hD hS hl
      rw [l_X6_span_5] at hf
      refine lv_iload hx hb dX6_span_5 (lv_at hl 3 rfl) ?_
      refine lv_iload_n hx hb dX6_span_7 rfl (lv_at hl 1 rfl) ?_
      refine lv_icmp_gt (tgt := 24) hx hb dX6_span_8 (by decide) (fun c1 => ?_) (fun c1 => ?_)
      · have hf := tp hf c1
        refine lv_lload_n hx hb dX6_span_24 rfl (lv_at hl 2 rfl) ?_
        have hf := Option.some.inj hf
        subst hf
        exact e_l (wf := (fun _ : Unit => ([] : va_W))) hx hb hr hlk () ⟨rfl, rfl⟩ hP hK hD hS dX6_span_25
      · have hf := tn hf c1
        refine lv_lload_n hx hb dX6_span_11 rfl (lv_at hl 2 rfl) ?_
        refine lv_lconst (v := (1 : Int64)) hx hb dX6_span_12 (by decide) ?_
        refine lv_iload hx hb dX6_span_13 (lv_at hl 3 rfl) ?_
        refine lv_lshl (v := (jshl (1 : Int64) x4)) hx hb dX6_span_15 rfl ?_
        refine lv_lor hx hb dX6_span_16 ?_
        refine lv_lstore_n (lv' := [(2, .long (x2 ||| (jshl (1 : Int64) x4))), (0, .int x0), (1, .int x1), (4, .int x4)]) hx hb dX6_span_17 rfl hl (by decide) rfl (fun ls hl => ?_)
        refine lv_iinc (v := (x4 + (1 : Int32))) (lv' := [(4, .int (x4 + (1 : Int32))), (2, .long (x2 ||| (jshl (1 : Int64) x4))), (0, .int x0), (1, .int x1)]) hx hb dX6_span_18 hl (k := 3) rfl rfl (by decide) rfl (fun ls hl => ?_)
        refine lv_goto (tgt := 5) hx hb dX6_span_21 (by decide) ?_
        exact ih _ _ hf _ _ _ hP hD hS (lv_sub hl [2, 3, 1, 0] rfl)
  rw [f_X6_span] at hf
  refine lv_lconst (v := (0 : Int64)) hx hb dX6_span_0 (by decide) ?_
  refine lv_lstore_n (lv' := [(2, .long (0 : Int64)), (0, .int x0), (1, .int x1)]) hx hb dX6_span_1 rfl hl (by decide) rfl (fun ls hl => ?_)
  refine lv_iload_n hx hb dX6_span_2 rfl (lv_at hl 1 rfl) ?_
  refine lv_istore (lv' := [(4, .int x0), (2, .long (0 : Int64)), (0, .int x0), (1, .int x1)]) hx hb dX6_span_3 hl (by decide) rfl (fun ls hl => ?_)
  exact lp_5 N _ _ hf _ _ _ hP hD hS (lv_sub hl [2, 3, 1, 0] rfl)
set_option maxRecDepth 100000 in
set_option maxHeartbeats 4000000 in
theorem c_X6_keeps {l : Launch} {G : Gp} {sz N : Nat} {h0 : Nat} {a0 : Nat → Nat} {u0 : Ob} {q : Ob} (hf : f_X6_keeps N u0 = some q) : Met l yX6_keeps (Cond.code yX6_keeps cX6_keeps 2 none :: lw_g) ({ frames := 0, cells := 0, slots := 0, locals := 0 } : Room) (va_Pc [.ref h0] (pw G (wX6 G h0 a0 u0) sz)) (va_Qv (fun v : Ob => q = v) (bw G (fun v : Ob => (wX6 G h0 a0 v)) (va_A (wX6 G h0 a0 u0) sz)) (va_A (wX6 G h0 a0 u0) sz)) 0 0 (va_A (wX6 G h0 a0 u0) sz) := by
  refine mt (Qc := (fun A => va_Qv (fun v : Ob => q = v) (bw G (fun v : Ob => (wX6 G h0 a0 v)) A) A)) (by decide) (Nat.le_of_ble_eq_true rfl) ?_
  intro p e s m below meth c A ls hx hb hr hlk hml hts hown hA hP hK hD hE hS hl
  have hown : s.vm.findClass RX6 = some m.cls := hown
  have hg : ∀ w ∈ lw_g, w.before ([.ref h0] : List Value).toArray s = true := fun w h => hts w (List.mem_cons_of_mem _ h)
  have hC : CallFix p m c cX6_keeps 2 s ([.ref h0] : List Value).toArray (Cond.code yX6_keeps cX6_keeps 2 none :: lw_g) RX6 := ⟨hx, hb, hml, hown, hts⟩
  have hl : lv_has ls 2 [(0, .ref h0)] := hl
  have lp_51 : ∀ (n : Nat) (x1 : Int32) (u0 : Ob), l_X6_keeps_51 N n x1 u0 = some q → ∀ (H : Heap) (locs : List Loc) (ls : Array Slot), va_P (gD G) vwCl (wX6 G h0 a0 u0) H → va_D A (wX6 G h0 a0 u0) → va_S A s.heap H locs → lv_has ls 2 [(0, .ref h0), (1, .int x1)] → W p l e ({ frames := 0, cells := 0, slots := 0, locals := 0 } : Room) s m ([.ref h0] : List Value).toArray below meth c H locs 0 0 (MQ below (va_Qv (fun v : Ob => q = v) (bw G (fun v : Ob => (wX6 G h0 a0 v)) A) A) ([.ref h0] : List Value).toArray s 0 0 A) (F0 m 51 ls []) := by
    intro n
    induction n with
    | zero => intro x1 u0 hf; rw [l_X6_keeps_51] at hf; cases hf
    | succ n ih =>
      intro x1 u0 hf H locs ls hP hD hS hl
      rw [l_X6_keeps_51] at hf
      refine lv_iload_n hx hb dX6_keeps_51 rfl (lv_at hl 1 rfl) ?_
      refine lv_bipush (v := (48 : Int32)) hx hb dX6_keeps_52 (by decide) ?_
      refine lv_icmp_ge (tgt := 83) hx hb dX6_keeps_54 (by decide) (fun c2 => ?_) (fun c2 => ?_)
      · have hf := tp hf c2
        refine lv_aload_n hx hb dX6_keeps_83 rfl (lv_at hl 0 rfl) ?_
        refine lv_dup hx hb dX6_keeps_84 rfl ?_
        refine va_get (D := gD G) (ci := 4) (v := .int (u0.1 6)) (C := RX6) (T := TX6) (N := 22) hx hb hg kl_X6 hown hK hP 0 rfl rfl 6 (by decide) (hg _ kq5_11) (fun _ h9 => h9) rfl dX6_keeps_85 ?_
        refine lv_iconst (v := (1 : Int32)) hx hb dX6_keeps_88 (by decide) ?_
        refine lv_iadd hx hb dX6_keeps_89 ?_
        refine va_put (D := gD G) (ci := 4) (v := .int ((u0.1 6) + (1 : Int32))) (ty := .int) (C := RX6) (T := TX6) (N := 22) hx hb hg kl_X6 tyX6 tyX6_ok nmX6 hown hK hP hD hS 0 rfl rfl 6 (by decide) (hg _ kq5_11) (fun _ h9 => h9) rfl (by decide +kernel) rfl rfl (Nat.le_of_ble_eq_true rfl) dX6_keeps_90 (fun H locs hP hD hS => ?_)
        have hP : va_P (gD G) vwCl (wX6 G h0 a0 (oi u0 6 ((u0.1 6) + (1 : Int32)))) H := hP
        have hD : va_D A (wX6 G h0 a0 (oi u0 6 ((u0.1 6) + (1 : Int32)))) := hD
        have hf := Option.some.inj hf
        subst hf
        exact e_v (wf := (fun v : Ob => (wX6 G h0 a0 v))) hx hb hr hlk (oi u0 6 ((u0.1 6) + (1 : Int32))) rfl hP hK hD hS dX6_keeps_93
      · have hf := tn hf c2
        refine lv_aload_n hx hb dX6_keeps_57 rfl (lv_at hl 0 rfl) ?_
        refine va_get (D := gD G) (ci := 4) (v := .ref (a0 3)) (C := RX6) (T := TX6) (N := 22) hx hb hg kl_X6 hown hK hP 0 rfl rfl 3 (by decide) (hg _ kq5_8) (fun _ h9 => h9) rfl dX6_keeps_58 ?_
        refine lv_bipush (v := (48 : Int32)) hx hb dX6_keeps_61 (by decide) ?_
        refine lv_aload_n hx hb dX6_keeps_63 rfl (lv_at hl 0 rfl) ?_
        refine va_get (D := gD G) (ci := 4) (v := .int (u0.1 6)) (C := RX6) (T := TX6) (N := 22) hx hb hg kl_X6 hown hK hP 0 rfl rfl 6 (by decide) (hg _ kq5_11) (fun _ h9 => h9) rfl dX6_keeps_64 ?_
        refine lv_imul hx hb dX6_keeps_67 ?_
        refine lv_iload_n hx hb dX6_keeps_68 rfl (lv_at hl 1 rfl) ?_
        refine lv_iadd hx hb dX6_keeps_69 ?_
        refine lv_aload_n hx hb dX6_keeps_70 rfl (lv_at hl 0 rfl) ?_
        refine va_get (D := gD G) (ci := 4) (v := .ref (a0 0)) (C := RX6) (T := TX6) (N := 22) hx hb hg kl_X6 hown hK hP 0 rfl rfl 0 (by decide) (hg _ kq5_5) (fun _ h9 => h9) rfl dX6_keeps_71 ?_
        refine lv_iload_n hx hb dX6_keeps_74 rfl (lv_at hl 1 rfl) ?_
        obtain ⟨b3, hf⟩ := tno hf
        refine va_lald (f := (u0.2.2.2 0)) hx hb hK hP 1 2 rfl rfl b3 dX6_keeps_75 ?_
        obtain ⟨b4, hf⟩ := tno hf
        refine va_last (f := (u0.2.2.2 3)) hx hb hK hP hD hS 4 2 rfl rfl b4 dX6_keeps_76 (fun H locs hP hD hS => ?_)
        have hP : va_P (gD G) vwCl (wX6 G h0 a0 (oj u0 3 (vp_updL (u0.2.2.2 3) (((48 : Int32) * (u0.1 6)) + x1).toNatClampNeg ((u0.2.2.2 0) x1.toNatClampNeg)))) H := hP
        have hD : va_D A (wX6 G h0 a0 (oj u0 3 (vp_updL (u0.2.2.2 3) (((48 : Int32) * (u0.1 6)) + x1).toNatClampNeg ((u0.2.2.2 0) x1.toNatClampNeg)))) := hD
        refine lv_iinc (v := (x1 + (1 : Int32))) (lv' := [(1, .int (x1 + (1 : Int32))), (0, .ref h0)]) hx hb dX6_keeps_77 hl (k := 1) rfl rfl (by decide) rfl (fun ls hl => ?_)
        refine lv_goto (tgt := 51) hx hb dX6_keeps_80 (by decide) ?_
        exact ih _ _ hf _ _ _ hP hD hS (lv_sub hl [1, 0] rfl)
  have lp_11 : ∀ (n : Nat) (x1 : Int32) (u0 : Ob), l_X6_keeps_11 N n x1 u0 = some q → ∀ (H : Heap) (locs : List Loc) (ls : Array Slot), va_P (gD G) vwCl (wX6 G h0 a0 u0) H → va_D A (wX6 G h0 a0 u0) → va_S A s.heap H locs → lv_has ls 2 [(0, .ref h0), (1, .int x1)] → W p l e ({ frames := 0, cells := 0, slots := 0, locals := 0 } : Room) s m ([.ref h0] : List Value).toArray below meth c H locs 0 0 (MQ below (va_Qv (fun v : Ob => q = v) (bw G (fun v : Ob => (wX6 G h0 a0 v)) A) A) ([.ref h0] : List Value).toArray s 0 0 A) (F0 m 11 ls []) := by
    intro n
    induction n with
    | zero => intro x1 u0 hf; rw [l_X6_keeps_11] at hf; cases hf
    | succ n ih =>
      intro x1 u0 hf H locs ls hP hD hS hl
      rw [l_X6_keeps_11] at hf
      refine lv_iload_n hx hb dX6_keeps_11 rfl (lv_at hl 1 rfl) ?_
      refine lv_sipush (v := (336 : Int32)) hx hb dX6_keeps_12 (by decide) ?_
      refine lv_icmp_ge (tgt := 39) hx hb dX6_keeps_15 (by decide) (fun c5 => ?_) (fun c5 => ?_)
      · have hf := tp hf c5
        refine lv_aload_n hx hb dX6_keeps_39 rfl (lv_at hl 0 rfl) ?_
        refine lv_dup hx hb dX6_keeps_40 rfl ?_
        refine va_get (D := gD G) (ci := 4) (v := .int (u0.1 6)) (C := RX6) (T := TX6) (N := 22) hx hb hg kl_X6 hown hK hP 0 rfl rfl 6 (by decide) (hg _ kq5_11) (fun _ h9 => h9) rfl dX6_keeps_41 ?_
        refine lv_iconst (v := (1 : Int32)) hx hb dX6_keeps_44 (by decide) ?_
        refine lv_isub hx hb dX6_keeps_45 ?_
        refine va_put (D := gD G) (ci := 4) (v := .int ((u0.1 6) - (1 : Int32))) (ty := .int) (C := RX6) (T := TX6) (N := 22) hx hb hg kl_X6 tyX6 tyX6_ok nmX6 hown hK hP hD hS 0 rfl rfl 6 (by decide) (hg _ kq5_11) (fun _ h9 => h9) rfl (by decide +kernel) rfl rfl (Nat.le_of_ble_eq_true rfl) dX6_keeps_46 (fun H locs hP hD hS => ?_)
        have hP : va_P (gD G) vwCl (wX6 G h0 a0 (oi u0 6 ((u0.1 6) - (1 : Int32)))) H := hP
        have hD : va_D A (wX6 G h0 a0 (oi u0 6 ((u0.1 6) - (1 : Int32)))) := hD
        refine lv_iconst (v := (0 : Int32)) hx hb dX6_keeps_49 (by decide) ?_
        refine lv_istore_n (lv' := [(1, .int (0 : Int32)), (0, .ref h0)]) hx hb dX6_keeps_50 rfl hl (by decide) rfl (fun ls hl => ?_)
        exact lp_51 N _ _ hf _ _ _ hP hD hS (lv_sub hl [1, 0] rfl)
      · have hf := tn hf c5
        refine lv_aload_n hx hb dX6_keeps_18 rfl (lv_at hl 0 rfl) ?_
        refine va_get (D := gD G) (ci := 4) (v := .ref (a0 3)) (C := RX6) (T := TX6) (N := 22) hx hb hg kl_X6 hown hK hP 0 rfl rfl 3 (by decide) (hg _ kq5_8) (fun _ h9 => h9) rfl dX6_keeps_19 ?_
        refine lv_iload_n hx hb dX6_keeps_22 rfl (lv_at hl 1 rfl) ?_
        refine lv_aload_n hx hb dX6_keeps_23 rfl (lv_at hl 0 rfl) ?_
        refine va_get (D := gD G) (ci := 4) (v := .ref (a0 3)) (C := RX6) (T := TX6) (N := 22) hx hb hg kl_X6 hown hK hP 0 rfl rfl 3 (by decide) (hg _ kq5_8) (fun _ h9 => h9) rfl dX6_keeps_24 ?_
        refine lv_iload_n hx hb dX6_keeps_27 rfl (lv_at hl 1 rfl) ?_
        refine lv_bipush (v := (48 : Int32)) hx hb dX6_keeps_28 (by decide) ?_
        refine lv_iadd hx hb dX6_keeps_30 ?_
        obtain ⟨b6, hf⟩ := tno hf
        refine va_lald (f := (u0.2.2.2 3)) hx hb hK hP 4 2 rfl rfl b6 dX6_keeps_31 ?_
        obtain ⟨b7, hf⟩ := tno hf
        refine va_last (f := (u0.2.2.2 3)) hx hb hK hP hD hS 4 2 rfl rfl b7 dX6_keeps_32 (fun H locs hP hD hS => ?_)
        have hP : va_P (gD G) vwCl (wX6 G h0 a0 (oj u0 3 (vp_updL (u0.2.2.2 3) x1.toNatClampNeg ((u0.2.2.2 3) (x1 + (48 : Int32)).toNatClampNeg)))) H := hP
        have hD : va_D A (wX6 G h0 a0 (oj u0 3 (vp_updL (u0.2.2.2 3) x1.toNatClampNeg ((u0.2.2.2 3) (x1 + (48 : Int32)).toNatClampNeg)))) := hD
        refine lv_iinc (v := (x1 + (1 : Int32))) (lv' := [(1, .int (x1 + (1 : Int32))), (0, .ref h0)]) hx hb dX6_keeps_33 hl (k := 1) rfl rfl (by decide) rfl (fun ls hl => ?_)
        refine lv_goto (tgt := 11) hx hb dX6_keeps_36 (by decide) ?_
        exact ih _ _ hf _ _ _ hP hD hS (lv_sub hl [1, 0] rfl)
  rw [f_X6_keeps] at hf
  refine lv_aload_n hx hb dX6_keeps_0 rfl (lv_at hl 0 rfl) ?_
  refine va_get (D := gD G) (ci := 4) (v := .int (u0.1 6)) (C := RX6) (T := TX6) (N := 22) hx hb hg kl_X6 hown hK hP 0 rfl rfl 6 (by decide) (hg _ kq5_11) (fun _ h9 => h9) rfl dX6_keeps_1 ?_
  refine lv_bipush (v := (8 : Int32)) hx hb dX6_keeps_4 (by decide) ?_
  refine lv_icmp_ne (tgt := 49) hx hb dX6_keeps_6 (by decide) (fun c1 => ?_) (fun c1 => ?_)
  · have hf := tn hf c1
    refine lv_iconst (v := (0 : Int32)) hx hb dX6_keeps_49 (by decide) ?_
    refine lv_istore_n (lv' := [(1, .int (0 : Int32)), (0, .ref h0)]) hx hb dX6_keeps_50 rfl hl (by decide) rfl (fun ls hl => ?_)
    exact lp_51 N _ _ hf _ _ _ hP hD hS (lv_sub hl [1, 0] rfl)
  · have hf := tp hf c1
    refine lv_iconst (v := (0 : Int32)) hx hb dX6_keeps_9 (by decide) ?_
    refine lv_istore_n (lv' := [(1, .int (0 : Int32)), (0, .ref h0)]) hx hb dX6_keeps_10 rfl hl (by decide) rfl (fun ls hl => ?_)
    exact lp_11 N _ _ hf _ _ _ hP hD hS (lv_sub hl [1, 0] rfl)
set_option maxRecDepth 100000 in
set_option maxHeartbeats 4000000 in
theorem c_X6_becomes_3 {l : Launch} {G : Gp} {sz N : Nat} {x2 : Int32} {h0 : Nat} {a0 : Nat → Nat} {u0 : Ob} {q : Ob} (hf : f_X6_becomes_3 N x2 u0 = some q) : Met l yX6_becomes (Cond.code yX6_becomes cX6_becomes 4 none :: lw_g) ({ frames := 0, cells := 0, slots := 0, locals := 0 } : Room) (va_Pc [.ref h0, .ref (a0 3), .int x2] (pw G (wX6 G h0 a0 u0) sz)) (va_Qv (fun v : Ob => q = v) (bw G (fun v : Ob => (wX6 G h0 a0 v)) (va_A (wX6 G h0 a0 u0) sz)) (va_A (wX6 G h0 a0 u0) sz)) 0 0 (va_A (wX6 G h0 a0 u0) sz) := by
  refine mt (Qc := (fun A => va_Qv (fun v : Ob => q = v) (bw G (fun v : Ob => (wX6 G h0 a0 v)) A) A)) (by decide) (Nat.le_of_ble_eq_true rfl) ?_
  intro p e s m below meth c A ls hx hb hr hlk hml hts hown hA hP hK hD hE hS hl
  have hown : s.vm.findClass RX6 = some m.cls := hown
  have hg : ∀ w ∈ lw_g, w.before ([.ref h0, .ref (a0 3), .int x2] : List Value).toArray s = true := fun w h => hts w (List.mem_cons_of_mem _ h)
  have hC : CallFix p m c cX6_becomes 4 s ([.ref h0, .ref (a0 3), .int x2] : List Value).toArray (Cond.code yX6_becomes cX6_becomes 4 none :: lw_g) RX6 := ⟨hx, hb, hml, hown, hts⟩
  have hl : lv_has ls 4 [(0, .ref h0), (1, .ref (a0 3)), (2, .int x2)] := hl
  have lp_2 : ∀ (n : Nat) (x3 : Int32) (u0 : Ob), l_X6_becomes_3_2 N x2 n x3 u0 = some q → ∀ (H : Heap) (locs : List Loc) (ls : Array Slot), va_P (gD G) vwCl (wX6 G h0 a0 u0) H → va_D A (wX6 G h0 a0 u0) → va_S A s.heap H locs → lv_has ls 4 [(0, .ref h0), (1, .ref (a0 3)), (2, .int x2), (3, .int x3)] → W p l e ({ frames := 0, cells := 0, slots := 0, locals := 0 } : Room) s m ([.ref h0, .ref (a0 3), .int x2] : List Value).toArray below meth c H locs 0 0 (MQ below (va_Qv (fun v : Ob => q = v) (bw G (fun v : Ob => (wX6 G h0 a0 v)) A) A) ([.ref h0, .ref (a0 3), .int x2] : List Value).toArray s 0 0 A) (F0 m 2 ls []) := by
    intro n
    induction n with
    | zero => intro x3 u0 hf; rw [l_X6_becomes_3_2] at hf; cases hf
    | succ n ih =>
      intro x3 u0 hf H locs ls hP hD hS hl
      rw [l_X6_becomes_3_2] at hf
      refine lv_iload_n hx hb dX6_becomes_2 rfl (lv_at hl 3 rfl) ?_
      refine lv_bipush (v := (48 : Int32)) hx hb dX6_becomes_3 (by decide) ?_
      refine lv_icmp_ge (tgt := 25) hx hb dX6_becomes_5 (by decide) (fun c1 => ?_) (fun c1 => ?_)
      · have hf := tp hf c1
        have hf := Option.some.inj hf
        subst hf
        exact e_v (wf := (fun v : Ob => (wX6 G h0 a0 v))) hx hb hr hlk u0 rfl hP hK hD hS dX6_becomes_25
      · have hf := tn hf c1
        refine lv_aload_n hx hb dX6_becomes_8 rfl (lv_at hl 0 rfl) ?_
        refine va_get (D := gD G) (ci := 4) (v := .ref (a0 0)) (C := RX6) (T := TX6) (N := 22) hx hb hg kl_X6 hown hK hP 0 rfl rfl 0 (by decide) (hg _ kq5_5) (fun _ h9 => h9) rfl dX6_becomes_9 ?_
        refine lv_iload_n hx hb dX6_becomes_12 rfl (lv_at hl 3 rfl) ?_
        refine lv_aload_n hx hb dX6_becomes_13 rfl (lv_at hl 1 rfl) ?_
        refine lv_iload_n hx hb dX6_becomes_14 rfl (lv_at hl 2 rfl) ?_
        refine lv_iload_n hx hb dX6_becomes_15 rfl (lv_at hl 3 rfl) ?_
        refine lv_iadd hx hb dX6_becomes_16 ?_
        obtain ⟨b2, hf⟩ := tno hf
        refine va_lald (f := (u0.2.2.2 3)) hx hb hK hP 4 2 rfl rfl b2 dX6_becomes_17 ?_
        obtain ⟨b3, hf⟩ := tno hf
        refine va_last (f := (u0.2.2.2 0)) hx hb hK hP hD hS 1 2 rfl rfl b3 dX6_becomes_18 (fun H locs hP hD hS => ?_)
        have hP : va_P (gD G) vwCl (wX6 G h0 a0 (oj u0 0 (vp_updL (u0.2.2.2 0) x3.toNatClampNeg ((u0.2.2.2 3) (x2 + x3).toNatClampNeg)))) H := hP
        have hD : va_D A (wX6 G h0 a0 (oj u0 0 (vp_updL (u0.2.2.2 0) x3.toNatClampNeg ((u0.2.2.2 3) (x2 + x3).toNatClampNeg)))) := hD
        refine lv_iinc (v := (x3 + (1 : Int32))) (lv' := [(3, .int (x3 + (1 : Int32))), (0, .ref h0), (1, .ref (a0 3)), (2, .int x2)]) hx hb dX6_becomes_19 hl (k := 3) rfl rfl (by decide) rfl (fun ls hl => ?_)
        refine lv_goto (tgt := 2) hx hb dX6_becomes_22 (by decide) ?_
        exact ih _ _ hf _ _ _ hP hD hS (lv_sub hl [1, 2, 3, 0] rfl)
  rw [f_X6_becomes_3] at hf
  refine lv_iconst (v := (0 : Int32)) hx hb dX6_becomes_0 (by decide) ?_
  refine lv_istore_n (lv' := [(3, .int (0 : Int32)), (0, .ref h0), (1, .ref (a0 3)), (2, .int x2)]) hx hb dX6_becomes_1 rfl hl (by decide) rfl (fun ls hl => ?_)
  exact lp_2 N _ _ hf _ _ _ hP hD hS (lv_sub hl [1, 2, 3, 0] rfl)
set_option maxRecDepth 100000 in
set_option maxHeartbeats 4000000 in
theorem c_X6_undo {l : Launch} {G : Gp} {sz N : Nat} {h0 : Nat} {a0 : Nat → Nat} {u0 : Ob} {q : Int32 × Ob} (hf : f_X6_undo N u0 = some q) : Met l yX6_undo (Cond.code yX6_undo cX6_undo 1 (some .int) :: lw_g) ({ frames := 1, cells := 0, slots := 0, locals := 23 } : Room) (va_Pc [.ref h0] (pw G (wX6 G h0 a0 u0) sz)) (va_Qi (fun (r : Int32) (v : Ob) => q.1 = r ∧ q.2 = v) (bw G (fun v : Ob => (wX6 G h0 a0 v)) (va_A (wX6 G h0 a0 u0) sz)) (va_A (wX6 G h0 a0 u0) sz)) 0 0 (va_A (wX6 G h0 a0 u0) sz) := by
  refine mt (Qc := (fun A => va_Qi (fun (r : Int32) (v : Ob) => q.1 = r ∧ q.2 = v) (bw G (fun v : Ob => (wX6 G h0 a0 v)) A) A)) (by decide) (Nat.le_of_ble_eq_true rfl) ?_
  intro p e s m below meth c A ls hx hb hr hlk hml hts hown hA hP hK hD hE hS hl
  have hown : s.vm.findClass RX6 = some m.cls := hown
  have hg : ∀ w ∈ lw_g, w.before ([.ref h0] : List Value).toArray s = true := fun w h => hts w (List.mem_cons_of_mem _ h)
  have hC : CallFix p m c cX6_undo 1 s ([.ref h0] : List Value).toArray (Cond.code yX6_undo cX6_undo 1 (some .int) :: lw_g) RX6 := ⟨hx, hb, hml, hown, hts⟩
  have hl : lv_has ls 1 [(0, .ref h0)] := hl
  rw [f_X6_undo] at hf
  refine lv_aload_n hx hb dX6_undo_0 rfl (lv_at hl 0 rfl) ?_
  refine lv_aload_n hx hb dX6_undo_1 rfl (lv_at hl 0 rfl) ?_
  refine va_get (D := gD G) (ci := 4) (v := .int (u0.1 6)) (C := RX6) (T := TX6) (N := 22) hx hb hg kl_X6 hown hK hP 0 rfl rfl 6 (by decide) (hg _ kq5_11) (fun _ h9 => h9) rfl dX6_undo_2 ?_
  refine lv_if_ne (tgt := 12) hx hb dX6_undo_5 (by decide) (fun c1 => ?_) (fun c1 => ?_)
  · have hf := tn hf c1
    refine lv_iconst (v := (0 : Int32)) hx hb dX6_undo_12 (by decide) ?_
    refine va_put (D := gD G) (ci := 4) (v := .int (0 : Int32)) (ty := .int) (C := RX6) (T := TX6) (N := 22) hx hb hg kl_X6 tyX6 tyX6_ok nmX6 hown hK hP hD hS 0 rfl rfl 7 (by decide) (hg _ kq5_12) (fun _ h9 => h9) rfl (by decide +kernel) rfl rfl (Nat.le_of_ble_eq_true rfl) dX6_undo_13 (fun H locs hP hD hS => ?_)
    have hP : va_P (gD G) vwCl (wX6 G h0 a0 (oi u0 7 (0 : Int32))) H := hP
    have hD : va_D A (wX6 G h0 a0 (oi u0 7 (0 : Int32))) := hD
    refine lv_aload_n hx hb dX6_undo_16 rfl (lv_at hl 0 rfl) ?_
    refine va_get (D := gD G) (ci := 4) (v := .int (0 : Int32)) (C := RX6) (T := TX6) (N := 22) hx hb hg kl_X6 hown hK hP 0 rfl rfl 7 (by decide) (hg _ kq5_12) (fun _ h9 => h9) rfl dX6_undo_17 ?_
    refine lv_if_le (tgt := 25) hx hb dX6_undo_20 (by decide) (fun c2 => ?_) (fun c2 => ?_)
    rotate_left
    · exact absurd c2 (by decide)
    refine lv_aload_n hx hb dX6_undo_25 rfl (lv_at hl 0 rfl) ?_
    refine lv_dup hx hb dX6_undo_26 rfl ?_
    refine va_get (D := gD G) (ci := 4) (v := .int (u0.1 6)) (C := RX6) (T := TX6) (N := 22) hx hb hg kl_X6 hown hK hP 0 rfl rfl 6 (by decide) (hg _ kq5_11) (fun _ h9 => h9) rfl dX6_undo_27 ?_
    refine lv_iconst (v := (1 : Int32)) hx hb dX6_undo_30 (by decide) ?_
    refine lv_isub hx hb dX6_undo_31 ?_
    refine va_put (D := gD G) (ci := 4) (v := .int ((u0.1 6) - (1 : Int32))) (ty := .int) (C := RX6) (T := TX6) (N := 22) hx hb hg kl_X6 tyX6 tyX6_ok nmX6 hown hK hP hD hS 0 rfl rfl 6 (by decide) (hg _ kq5_11) (fun _ h9 => h9) rfl (by decide +kernel) rfl rfl (Nat.le_of_ble_eq_true rfl) dX6_undo_32 (fun H locs hP hD hS => ?_)
    have hP : va_P (gD G) vwCl (wX6 G h0 a0 (oi (oi u0 7 (0 : Int32)) 6 ((u0.1 6) - (1 : Int32)))) H := hP
    have hD : va_D A (wX6 G h0 a0 (oi (oi u0 7 (0 : Int32)) 6 ((u0.1 6) - (1 : Int32)))) := hD
    refine lv_aload_n hx hb dX6_undo_35 rfl (lv_at hl 0 rfl) ?_
    refine lv_aload_n hx hb dX6_undo_36 rfl (lv_at hl 0 rfl) ?_
    refine va_get (D := gD G) (ci := 4) (v := .ref (a0 3)) (C := RX6) (T := TX6) (N := 22) hx hb hg kl_X6 hown hK hP 0 rfl rfl 3 (by decide) (hg _ kq5_8) (fun _ h9 => h9) rfl dX6_undo_37 ?_
    refine lv_bipush (v := (48 : Int32)) hx hb dX6_undo_40 (by decide) ?_
    refine lv_aload_n hx hb dX6_undo_42 rfl (lv_at hl 0 rfl) ?_
    refine va_get (D := gD G) (ci := 4) (v := .int ((u0.1 6) - (1 : Int32))) (C := RX6) (T := TX6) (N := 22) hx hb hg kl_X6 hown hK hP 0 rfl rfl 6 (by decide) (hg _ kq5_11) (fun _ h9 => h9) rfl dX6_undo_43 ?_
    refine lv_imul hx hb dX6_undo_46 ?_
    obtain ⟨q3, e4, hf⟩ := tbd hf
    refine kVv1 (As := [.ref (a0 3), .int ((48 : Int32) * ((u0.1 6) - (1 : Int32)))]) (rest := []) hC (c_X6_becomes_3 (G := G) e4) kq5_1 kc_X6_becomes_3 (by decide) 0 (ci := 4) rfl rfl hP hK hD hE hS hA hl.1 (Nat.le_of_ble_eq_true rfl) ⟨Nat.zero_le _, Nat.zero_le _⟩ dX6_undo_47 (fun u9 H locs hw hP hD hS => ?_)
    obtain rfl := hw
    have hP : va_P (gD G) vwCl (wX6 G h0 a0 q3) H := hP
    have hD : va_D A (wX6 G h0 a0 q3) := hD
    refine lv_aload_n hx hb dX6_undo_50 rfl (lv_at hl 0 rfl) ?_
    refine va_get (D := gD G) (ci := 4) (v := .int (q3.1 6)) (C := RX6) (T := TX6) (N := 22) hx hb hg kl_X6 hown hK hP 0 rfl rfl 6 (by decide) (hg _ kq5_11) (fun _ h9 => h9) rfl dX6_undo_51 ?_
    have hf := Option.some.inj hf
    subst hf
    exact e_i (wf := (fun v : Ob => (wX6 G h0 a0 v))) hx hb hr hlk q3 ⟨rfl, rfl⟩ hP hK hD hS dX6_undo_54
  · have hf := tp hf c1
    refine lv_iconst (v := (1 : Int32)) hx hb dX6_undo_8 (by decide) ?_
    refine lv_goto (tgt := 13) hx hb dX6_undo_9 (by decide) ?_
    refine va_put (D := gD G) (ci := 4) (v := .int (1 : Int32)) (ty := .int) (C := RX6) (T := TX6) (N := 22) hx hb hg kl_X6 tyX6 tyX6_ok nmX6 hown hK hP hD hS 0 rfl rfl 7 (by decide) (hg _ kq5_12) (fun _ h9 => h9) rfl (by decide +kernel) rfl rfl (Nat.le_of_ble_eq_true rfl) dX6_undo_13 (fun H locs hP hD hS => ?_)
    have hP : va_P (gD G) vwCl (wX6 G h0 a0 (oi u0 7 (1 : Int32))) H := hP
    have hD : va_D A (wX6 G h0 a0 (oi u0 7 (1 : Int32))) := hD
    refine lv_aload_n hx hb dX6_undo_16 rfl (lv_at hl 0 rfl) ?_
    refine va_get (D := gD G) (ci := 4) (v := .int (1 : Int32)) (C := RX6) (T := TX6) (N := 22) hx hb hg kl_X6 hown hK hP 0 rfl rfl 7 (by decide) (hg _ kq5_12) (fun _ h9 => h9) rfl dX6_undo_17 ?_
    refine lv_if_le (tgt := 25) hx hb dX6_undo_20 (by decide) (fun c5 => ?_) (fun c5 => ?_)
    · exact absurd c5 (by decide)
    refine lv_iconst (v := (0 : Int32)) hx hb dX6_undo_23 (by decide) ?_
    have hf := Option.some.inj hf
    subst hf
    exact e_i (wf := (fun v : Ob => (wX6 G h0 a0 v))) hx hb hr hlk (oi u0 7 (1 : Int32)) ⟨rfl, rfl⟩ hP hK hD hS dX6_undo_24
set_option maxRecDepth 100000 in
set_option maxHeartbeats 4000000 in
theorem c_X6_save {l : Launch} {G : Gp} {sz N : Nat} {x1 : Int32} {h0 : Nat} {a0 : Nat → Nat} {u0 : Ob} {q : Int32 × Ob} (hf : f_X6_save N x1 u0 = some q) : Met l yX6_save (Cond.code yX6_save cX6_save 3 (some .int) :: lw_g) ({ frames := 1, cells := 0, slots := 0, locals := 25 } : Room) (va_Pc [.ref h0, .int x1] (pw G (wX6 G h0 a0 u0) sz)) (va_Qi (fun (r : Int32) (v : Ob) => q.1 = r ∧ q.2 = v) (bw G (fun v : Ob => (wX6 G h0 a0 v)) (va_A (wX6 G h0 a0 u0) sz)) (va_A (wX6 G h0 a0 u0) sz)) 0 0 (va_A (wX6 G h0 a0 u0) sz) := by
  refine mt (Qc := (fun A => va_Qi (fun (r : Int32) (v : Ob) => q.1 = r ∧ q.2 = v) (bw G (fun v : Ob => (wX6 G h0 a0 v)) A) A)) (by decide) (Nat.le_of_ble_eq_true rfl) ?_
  intro p e s m below meth c A ls hx hb hr hlk hml hts hown hA hP hK hD hE hS hl
  have hown : s.vm.findClass RX6 = some m.cls := hown
  have hg : ∀ w ∈ lw_g, w.before ([.ref h0, .int x1] : List Value).toArray s = true := fun w h => hts w (List.mem_cons_of_mem _ h)
  have hC : CallFix p m c cX6_save 3 s ([.ref h0, .int x1] : List Value).toArray (Cond.code yX6_save cX6_save 3 (some .int) :: lw_g) RX6 := ⟨hx, hb, hml, hown, hts⟩
  have hl : lv_has ls 3 [(0, .ref h0), (1, .int x1)] := hl
  have lp_37 : ∀ (n : Nat) (x2 : Int32) (u0 : Ob), l_X6_save_37 N x1 n x2 u0 = some q → ∀ (H : Heap) (locs : List Loc) (ls : Array Slot), va_P (gD G) vwCl (wX6 G h0 a0 u0) H → va_D A (wX6 G h0 a0 u0) → va_S A s.heap H locs → lv_has ls 3 [(0, .ref h0), (1, .int x1), (2, .int x2)] → W p l e ({ frames := 1, cells := 0, slots := 0, locals := 25 } : Room) s m ([.ref h0, .int x1] : List Value).toArray below meth c H locs 0 0 (MQ below (va_Qi (fun (r : Int32) (v : Ob) => q.1 = r ∧ q.2 = v) (bw G (fun v : Ob => (wX6 G h0 a0 v)) A) A) ([.ref h0, .int x1] : List Value).toArray s 0 0 A) (F0 m 37 ls []) := by
    intro n
    induction n with
    | zero => intro x2 u0 hf; rw [l_X6_save_37] at hf; cases hf
    | succ n ih =>
      intro x2 u0 hf H locs ls hP hD hS hl
      rw [l_X6_save_37] at hf
      refine lv_iload_n hx hb dX6_save_37 rfl (lv_at hl 2 rfl) ?_
      refine lv_bipush (v := (48 : Int32)) hx hb dX6_save_38 (by decide) ?_
      refine lv_icmp_ge (tgt := 66) hx hb dX6_save_40 (by decide) (fun c7 => ?_) (fun c7 => ?_)
      · have hf := tp hf c7
        refine lv_aload_n hx hb dX6_save_66 rfl (lv_at hl 0 rfl) ?_
        refine va_get (D := gD G) (ci := 4) (v := .ref (a0 0)) (C := RX6) (T := TX6) (N := 22) hx hb hg kl_X6 hown hK hP 0 rfl rfl 0 (by decide) (hg _ kq5_5) (fun _ h9 => h9) rfl dX6_save_67 ?_
        refine lv_bipush (v := (12 : Int32)) hx hb dX6_save_70 (by decide) ?_
        refine va_lald (f := (u0.2.2.2 0)) hx hb hK hP 1 2 rfl rfl (vin (by decide)) dX6_save_72 ?_
        refine lv_l2i (v := ((u0.2.2.2 0) (12 : Int32).toNatClampNeg).toInt32) hx hb dX6_save_73 rfl ?_
        have hf := Option.some.inj hf
        subst hf
        exact e_i (wf := (fun v : Ob => (wX6 G h0 a0 v))) hx hb hr hlk u0 ⟨rfl, rfl⟩ hP hK hD hS dX6_save_74
      · have hf := tn hf c7
        refine lv_aload_n hx hb dX6_save_43 rfl (lv_at hl 0 rfl) ?_
        refine va_get (D := gD G) (ci := 4) (v := .ref (a0 4)) (C := RX6) (T := TX6) (N := 22) hx hb hg kl_X6 hown hK hP 0 rfl rfl 4 (by decide) (hg _ kq5_9) (fun _ h9 => h9) rfl dX6_save_44 ?_
        refine lv_bipush (v := (48 : Int32)) hx hb dX6_save_47 (by decide) ?_
        refine lv_iload_n hx hb dX6_save_49 rfl (lv_at hl 1 rfl) ?_
        refine lv_imul hx hb dX6_save_50 ?_
        refine lv_iload_n hx hb dX6_save_51 rfl (lv_at hl 2 rfl) ?_
        refine lv_iadd hx hb dX6_save_52 ?_
        refine lv_aload_n hx hb dX6_save_53 rfl (lv_at hl 0 rfl) ?_
        refine va_get (D := gD G) (ci := 4) (v := .ref (a0 0)) (C := RX6) (T := TX6) (N := 22) hx hb hg kl_X6 hown hK hP 0 rfl rfl 0 (by decide) (hg _ kq5_5) (fun _ h9 => h9) rfl dX6_save_54 ?_
        refine lv_iload_n hx hb dX6_save_57 rfl (lv_at hl 2 rfl) ?_
        obtain ⟨b8, hf⟩ := tno hf
        refine va_lald (f := (u0.2.2.2 0)) hx hb hK hP 1 2 rfl rfl b8 dX6_save_58 ?_
        obtain ⟨b9, hf⟩ := tno hf
        refine va_last (f := (u0.2.2.2 4)) hx hb hK hP hD hS 5 2 rfl rfl b9 dX6_save_59 (fun H locs hP hD hS => ?_)
        have hP : va_P (gD G) vwCl (wX6 G h0 a0 (oj u0 4 (vp_updL (u0.2.2.2 4) (((48 : Int32) * x1) + x2).toNatClampNeg ((u0.2.2.2 0) x2.toNatClampNeg)))) H := hP
        have hD : va_D A (wX6 G h0 a0 (oj u0 4 (vp_updL (u0.2.2.2 4) (((48 : Int32) * x1) + x2).toNatClampNeg ((u0.2.2.2 0) x2.toNatClampNeg)))) := hD
        refine lv_iinc (v := (x2 + (1 : Int32))) (lv' := [(2, .int (x2 + (1 : Int32))), (0, .ref h0), (1, .int x1)]) hx hb dX6_save_60 hl (k := 2) rfl rfl (by decide) rfl (fun ls hl => ?_)
        refine lv_goto (tgt := 37) hx hb dX6_save_63 (by decide) ?_
        exact ih _ _ hf _ _ _ hP hD hS (lv_sub hl [1, 2, 0] rfl)
  rw [f_X6_save] at hf
  refine lv_aload_n hx hb dX6_save_0 rfl (lv_at hl 0 rfl) ?_
  refine lv_iload_n hx hb dX6_save_1 rfl (lv_at hl 1 rfl) ?_
  refine lv_i2l (v := x1.toInt64) hx hb dX6_save_2 rfl ?_
  refine lv_lconst (v := (0 : Int64)) hx hb dX6_save_3 (by decide) ?_
  refine lv_lconst (v := (1 : Int64)) hx hb dX6_save_4 (by decide) ?_
  obtain ⟨q1, e2, hf⟩ := tbd hf
  refine kSi0 (As := [.long x1.toInt64, .long (0 : Int64), .long (1 : Int64)]) (rest := [.ref h0]) hC (c_X6_isIn (G := G) e2) kq5_84 kc_X6_isIn (by decide) hP hK hD hE hS hA hl.1 (Nat.le_of_ble_eq_true rfl) ⟨Nat.zero_le _, Nat.zero_le _⟩ dX6_save_5 (fun r9 u9 H locs hw hP hD hS => ?_)
  obtain ⟨rfl, rfl⟩ := hw
  refine bz_eq (tgt := 15) hx hb dX6_save_8 (by decide) (fun c3 => ?_) (fun c3 => ?_)
  · have hf := tn hf c3
    refine lv_iconst (v := (1 : Int32)) hx hb dX6_save_15 (by decide) ?_
    refine va_put (D := gD G) (ci := 4) (v := .int (1 : Int32)) (ty := .int) (C := RX6) (T := TX6) (N := 22) hx hb hg kl_X6 tyX6 tyX6_ok nmX6 hown hK hP hD hS 0 rfl rfl 7 (by decide) (hg _ kq5_12) (fun _ h9 => h9) rfl (by decide +kernel) rfl rfl (Nat.le_of_ble_eq_true rfl) dX6_save_16 (fun H locs hP hD hS => ?_)
    have hP : va_P (gD G) vwCl (wX6 G h0 a0 (oi u0 7 (1 : Int32))) H := hP
    have hD : va_D A (wX6 G h0 a0 (oi u0 7 (1 : Int32))) := hD
    refine lv_aload_n hx hb dX6_save_19 rfl (lv_at hl 0 rfl) ?_
    refine va_get (D := gD G) (ci := 4) (v := .int (1 : Int32)) (C := RX6) (T := TX6) (N := 22) hx hb hg kl_X6 hown hK hP 0 rfl rfl 7 (by decide) (hg _ kq5_12) (fun _ h9 => h9) rfl dX6_save_20 ?_
    refine lv_if_le (tgt := 28) hx hb dX6_save_23 (by decide) (fun c4 => ?_) (fun c4 => ?_)
    · exact absurd c4 (by decide)
    refine lv_iconst (v := (0 : Int32)) hx hb dX6_save_26 (by decide) ?_
    have hf := Option.some.inj hf
    subst hf
    exact e_i (wf := (fun v : Ob => (wX6 G h0 a0 v))) hx hb hr hlk (oi u0 7 (1 : Int32)) ⟨rfl, rfl⟩ hP hK hD hS dX6_save_27
  · have hf := tp hf c3
    refine lv_iconst (v := (0 : Int32)) hx hb dX6_save_11 (by decide) ?_
    refine lv_goto (tgt := 16) hx hb dX6_save_12 (by decide) ?_
    refine va_put (D := gD G) (ci := 4) (v := .int (0 : Int32)) (ty := .int) (C := RX6) (T := TX6) (N := 22) hx hb hg kl_X6 tyX6 tyX6_ok nmX6 hown hK hP hD hS 0 rfl rfl 7 (by decide) (hg _ kq5_12) (fun _ h9 => h9) rfl (by decide +kernel) rfl rfl (Nat.le_of_ble_eq_true rfl) dX6_save_16 (fun H locs hP hD hS => ?_)
    have hP : va_P (gD G) vwCl (wX6 G h0 a0 (oi u0 7 (0 : Int32))) H := hP
    have hD : va_D A (wX6 G h0 a0 (oi u0 7 (0 : Int32))) := hD
    refine lv_aload_n hx hb dX6_save_19 rfl (lv_at hl 0 rfl) ?_
    refine va_get (D := gD G) (ci := 4) (v := .int (0 : Int32)) (C := RX6) (T := TX6) (N := 22) hx hb hg kl_X6 hown hK hP 0 rfl rfl 7 (by decide) (hg _ kq5_12) (fun _ h9 => h9) rfl dX6_save_20 ?_
    refine lv_if_le (tgt := 28) hx hb dX6_save_23 (by decide) (fun c5 => ?_) (fun c5 => ?_)
    rotate_left
    · exact absurd c5 (by decide)
    refine lv_aload_n hx hb dX6_save_28 rfl (lv_at hl 0 rfl) ?_
    refine va_get (D := gD G) (ci := 4) (v := .ref (a0 5)) (C := RX6) (T := TX6) (N := 22) hx hb hg kl_X6 hown hK hP 0 rfl rfl 5 (by decide) (hg _ kq5_10) (fun _ h9 => h9) rfl dX6_save_29 ?_
    refine lv_iload_n hx hb dX6_save_32 rfl (lv_at hl 1 rfl) ?_
    refine lv_iconst (v := (1 : Int32)) hx hb dX6_save_33 (by decide) ?_
    obtain ⟨b6, hf⟩ := tno hf
    refine va_zast (f := (u0.2.2.1 5)) hx hb hK hP hD hS 6 3 rfl rfl b6 dX6_save_34 (fun H locs hP hD hS => ?_)
    have hP : va_P (gD G) vwCl (wX6 G h0 a0 (oa (oi u0 7 (0 : Int32)) 5 (upd (u0.2.2.1 5) x1.toNatClampNeg (vp_nar .boolean (1 : Int32))))) H := hP
    have hD : va_D A (wX6 G h0 a0 (oa (oi u0 7 (0 : Int32)) 5 (upd (u0.2.2.1 5) x1.toNatClampNeg (vp_nar .boolean (1 : Int32))))) := hD
    refine lv_iconst (v := (0 : Int32)) hx hb dX6_save_35 (by decide) ?_
    refine lv_istore_n (lv' := [(2, .int (0 : Int32)), (0, .ref h0), (1, .int x1)]) hx hb dX6_save_36 rfl hl (by decide) rfl (fun ls hl => ?_)
    exact lp_37 N _ _ hf _ _ _ hP hD hS (lv_sub hl [1, 2, 0] rfl)
set_option maxRecDepth 100000 in
set_option maxHeartbeats 4000000 in
theorem c_X6_becomes_4 {l : Launch} {G : Gp} {sz N : Nat} {x2 : Int32} {h0 : Nat} {a0 : Nat → Nat} {u0 : Ob} {q : Ob} (hf : f_X6_becomes_4 N x2 u0 = some q) : Met l yX6_becomes (Cond.code yX6_becomes cX6_becomes 4 none :: lw_g) ({ frames := 0, cells := 0, slots := 0, locals := 0 } : Room) (va_Pc [.ref h0, .ref (a0 4), .int x2] (pw G (wX6 G h0 a0 u0) sz)) (va_Qv (fun v : Ob => q = v) (bw G (fun v : Ob => (wX6 G h0 a0 v)) (va_A (wX6 G h0 a0 u0) sz)) (va_A (wX6 G h0 a0 u0) sz)) 0 0 (va_A (wX6 G h0 a0 u0) sz) := by
  refine mt (Qc := (fun A => va_Qv (fun v : Ob => q = v) (bw G (fun v : Ob => (wX6 G h0 a0 v)) A) A)) (by decide) (Nat.le_of_ble_eq_true rfl) ?_
  intro p e s m below meth c A ls hx hb hr hlk hml hts hown hA hP hK hD hE hS hl
  have hown : s.vm.findClass RX6 = some m.cls := hown
  have hg : ∀ w ∈ lw_g, w.before ([.ref h0, .ref (a0 4), .int x2] : List Value).toArray s = true := fun w h => hts w (List.mem_cons_of_mem _ h)
  have hC : CallFix p m c cX6_becomes 4 s ([.ref h0, .ref (a0 4), .int x2] : List Value).toArray (Cond.code yX6_becomes cX6_becomes 4 none :: lw_g) RX6 := ⟨hx, hb, hml, hown, hts⟩
  have hl : lv_has ls 4 [(0, .ref h0), (1, .ref (a0 4)), (2, .int x2)] := hl
  have lp_2 : ∀ (n : Nat) (x3 : Int32) (u0 : Ob), l_X6_becomes_4_2 N x2 n x3 u0 = some q → ∀ (H : Heap) (locs : List Loc) (ls : Array Slot), va_P (gD G) vwCl (wX6 G h0 a0 u0) H → va_D A (wX6 G h0 a0 u0) → va_S A s.heap H locs → lv_has ls 4 [(0, .ref h0), (1, .ref (a0 4)), (2, .int x2), (3, .int x3)] → W p l e ({ frames := 0, cells := 0, slots := 0, locals := 0 } : Room) s m ([.ref h0, .ref (a0 4), .int x2] : List Value).toArray below meth c H locs 0 0 (MQ below (va_Qv (fun v : Ob => q = v) (bw G (fun v : Ob => (wX6 G h0 a0 v)) A) A) ([.ref h0, .ref (a0 4), .int x2] : List Value).toArray s 0 0 A) (F0 m 2 ls []) := by
    intro n
    induction n with
    | zero => intro x3 u0 hf; rw [l_X6_becomes_4_2] at hf; cases hf
    | succ n ih =>
      intro x3 u0 hf H locs ls hP hD hS hl
      rw [l_X6_becomes_4_2] at hf
      refine lv_iload_n hx hb dX6_becomes_2 rfl (lv_at hl 3 rfl) ?_
      refine lv_bipush (v := (48 : Int32)) hx hb dX6_becomes_3 (by decide) ?_
      refine lv_icmp_ge (tgt := 25) hx hb dX6_becomes_5 (by decide) (fun c1 => ?_) (fun c1 => ?_)
      · have hf := tp hf c1
        have hf := Option.some.inj hf
        subst hf
        exact e_v (wf := (fun v : Ob => (wX6 G h0 a0 v))) hx hb hr hlk u0 rfl hP hK hD hS dX6_becomes_25
      · have hf := tn hf c1
        refine lv_aload_n hx hb dX6_becomes_8 rfl (lv_at hl 0 rfl) ?_
        refine va_get (D := gD G) (ci := 4) (v := .ref (a0 0)) (C := RX6) (T := TX6) (N := 22) hx hb hg kl_X6 hown hK hP 0 rfl rfl 0 (by decide) (hg _ kq5_5) (fun _ h9 => h9) rfl dX6_becomes_9 ?_
        refine lv_iload_n hx hb dX6_becomes_12 rfl (lv_at hl 3 rfl) ?_
        refine lv_aload_n hx hb dX6_becomes_13 rfl (lv_at hl 1 rfl) ?_
        refine lv_iload_n hx hb dX6_becomes_14 rfl (lv_at hl 2 rfl) ?_
        refine lv_iload_n hx hb dX6_becomes_15 rfl (lv_at hl 3 rfl) ?_
        refine lv_iadd hx hb dX6_becomes_16 ?_
        obtain ⟨b2, hf⟩ := tno hf
        refine va_lald (f := (u0.2.2.2 4)) hx hb hK hP 5 2 rfl rfl b2 dX6_becomes_17 ?_
        obtain ⟨b3, hf⟩ := tno hf
        refine va_last (f := (u0.2.2.2 0)) hx hb hK hP hD hS 1 2 rfl rfl b3 dX6_becomes_18 (fun H locs hP hD hS => ?_)
        have hP : va_P (gD G) vwCl (wX6 G h0 a0 (oj u0 0 (vp_updL (u0.2.2.2 0) x3.toNatClampNeg ((u0.2.2.2 4) (x2 + x3).toNatClampNeg)))) H := hP
        have hD : va_D A (wX6 G h0 a0 (oj u0 0 (vp_updL (u0.2.2.2 0) x3.toNatClampNeg ((u0.2.2.2 4) (x2 + x3).toNatClampNeg)))) := hD
        refine lv_iinc (v := (x3 + (1 : Int32))) (lv' := [(3, .int (x3 + (1 : Int32))), (0, .ref h0), (1, .ref (a0 4)), (2, .int x2)]) hx hb dX6_becomes_19 hl (k := 3) rfl rfl (by decide) rfl (fun ls hl => ?_)
        refine lv_goto (tgt := 2) hx hb dX6_becomes_22 (by decide) ?_
        exact ih _ _ hf _ _ _ hP hD hS (lv_sub hl [1, 2, 3, 0] rfl)
  rw [f_X6_becomes_4] at hf
  refine lv_iconst (v := (0 : Int32)) hx hb dX6_becomes_0 (by decide) ?_
  refine lv_istore_n (lv' := [(3, .int (0 : Int32)), (0, .ref h0), (1, .ref (a0 4)), (2, .int x2)]) hx hb dX6_becomes_1 rfl hl (by decide) rfl (fun ls hl => ?_)
  exact lp_2 N _ _ hf _ _ _ hP hD hS (lv_sub hl [1, 2, 3, 0] rfl)
set_option maxRecDepth 100000 in
set_option maxHeartbeats 4000000 in
theorem c_X6_restore {l : Launch} {G : Gp} {sz N : Nat} {x1 : Int32} {h0 : Nat} {a0 : Nat → Nat} {u0 : Ob} {q : Int32 × Ob} (hf : f_X6_restore N x1 u0 = some q) : Met l yX6_restore (Cond.code yX6_restore cX6_restore 2 (some .int) :: lw_g) ({ frames := 1, cells := 0, slots := 0, locals := 25 } : Room) (va_Pc [.ref h0, .int x1] (pw G (wX6 G h0 a0 u0) sz)) (va_Qi (fun (r : Int32) (v : Ob) => q.1 = r ∧ q.2 = v) (bw G (fun v : Ob => (wX6 G h0 a0 v)) (va_A (wX6 G h0 a0 u0) sz)) (va_A (wX6 G h0 a0 u0) sz)) 0 0 (va_A (wX6 G h0 a0 u0) sz) := by
  refine mt (Qc := (fun A => va_Qi (fun (r : Int32) (v : Ob) => q.1 = r ∧ q.2 = v) (bw G (fun v : Ob => (wX6 G h0 a0 v)) A) A)) (by decide) (Nat.le_of_ble_eq_true rfl) ?_
  intro p e s m below meth c A ls hx hb hr hlk hml hts hown hA hP hK hD hE hS hl
  have hown : s.vm.findClass RX6 = some m.cls := hown
  have hg : ∀ w ∈ lw_g, w.before ([.ref h0, .int x1] : List Value).toArray s = true := fun w h => hts w (List.mem_cons_of_mem _ h)
  have hC : CallFix p m c cX6_restore 2 s ([.ref h0, .int x1] : List Value).toArray (Cond.code yX6_restore cX6_restore 2 (some .int) :: lw_g) RX6 := ⟨hx, hb, hml, hown, hts⟩
  have hl : lv_has ls 2 [(0, .ref h0), (1, .int x1)] := hl
  rw [f_X6_restore] at hf
  refine lv_aload_n hx hb dX6_restore_0 rfl (lv_at hl 0 rfl) ?_
  refine lv_iload_n hx hb dX6_restore_1 rfl (lv_at hl 1 rfl) ?_
  refine lv_i2l (v := x1.toInt64) hx hb dX6_restore_2 rfl ?_
  refine lv_lconst (v := (0 : Int64)) hx hb dX6_restore_3 (by decide) ?_
  refine lv_lconst (v := (1 : Int64)) hx hb dX6_restore_4 (by decide) ?_
  obtain ⟨q1, e2, hf⟩ := tbd hf
  refine kSi0 (As := [.long x1.toInt64, .long (0 : Int64), .long (1 : Int64)]) (rest := [.ref h0]) hC (c_X6_isIn (G := G) e2) kq5_84 kc_X6_isIn (by decide) hP hK hD hE hS hA hl.1 (Nat.le_of_ble_eq_true rfl) ⟨Nat.zero_le _, Nat.zero_le _⟩ dX6_restore_5 (fun r9 u9 H locs hw hP hD hS => ?_)
  obtain ⟨rfl, rfl⟩ := hw
  refine bz_ne (tgt := 15) hx hb dX6_restore_8 (by decide) (fun c3 => ?_) (fun c3 => ?_)
  · have hf := tp hf c3
    refine lv_aload_n hx hb dX6_restore_15 rfl (lv_at hl 0 rfl) ?_
    refine va_get (D := gD G) (ci := 4) (v := .ref (a0 5)) (C := RX6) (T := TX6) (N := 22) hx hb hg kl_X6 hown hK hP 0 rfl rfl 5 (by decide) (hg _ kq5_10) (fun _ h9 => h9) rfl dX6_restore_16 ?_
    refine lv_iload_n hx hb dX6_restore_19 rfl (lv_at hl 1 rfl) ?_
    obtain ⟨b4, hf⟩ := tno hf
    refine va_zald (f := (u0.2.2.1 5)) hx hb hK hP 6 3 rfl rfl b4 dX6_restore_20 ?_
    refine lv_if_eq (tgt := 28) hx hb dX6_restore_21 (by decide) (fun c5 => ?_) (fun c5 => ?_)
    · have hf := tp hf c5
      refine lv_iconst (v := (2 : Int32)) hx hb dX6_restore_28 (by decide) ?_
      refine va_put (D := gD G) (ci := 4) (v := .int (2 : Int32)) (ty := .int) (C := RX6) (T := TX6) (N := 22) hx hb hg kl_X6 tyX6 tyX6_ok nmX6 hown hK hP hD hS 0 rfl rfl 7 (by decide) (hg _ kq5_12) (fun _ h9 => h9) rfl (by decide +kernel) rfl rfl (Nat.le_of_ble_eq_true rfl) dX6_restore_29 (fun H locs hP hD hS => ?_)
      have hP : va_P (gD G) vwCl (wX6 G h0 a0 (oi u0 7 (2 : Int32))) H := hP
      have hD : va_D A (wX6 G h0 a0 (oi u0 7 (2 : Int32))) := hD
      refine lv_aload_n hx hb dX6_restore_32 rfl (lv_at hl 0 rfl) ?_
      refine va_get (D := gD G) (ci := 4) (v := .int (2 : Int32)) (C := RX6) (T := TX6) (N := 22) hx hb hg kl_X6 hown hK hP 0 rfl rfl 7 (by decide) (hg _ kq5_12) (fun _ h9 => h9) rfl dX6_restore_33 ?_
      refine lv_if_le (tgt := 41) hx hb dX6_restore_36 (by decide) (fun c6 => ?_) (fun c6 => ?_)
      · exact absurd c6 (by decide)
      refine lv_iconst (v := (0 : Int32)) hx hb dX6_restore_39 (by decide) ?_
      have hf := Option.some.inj hf
      subst hf
      exact e_i (wf := (fun v : Ob => (wX6 G h0 a0 v))) hx hb hr hlk (oi u0 7 (2 : Int32)) ⟨rfl, rfl⟩ hP hK hD hS dX6_restore_40
    · have hf := tn hf c5
      refine lv_iconst (v := (0 : Int32)) hx hb dX6_restore_24 (by decide) ?_
      refine lv_goto (tgt := 29) hx hb dX6_restore_25 (by decide) ?_
      refine va_put (D := gD G) (ci := 4) (v := .int (0 : Int32)) (ty := .int) (C := RX6) (T := TX6) (N := 22) hx hb hg kl_X6 tyX6 tyX6_ok nmX6 hown hK hP hD hS 0 rfl rfl 7 (by decide) (hg _ kq5_12) (fun _ h9 => h9) rfl (by decide +kernel) rfl rfl (Nat.le_of_ble_eq_true rfl) dX6_restore_29 (fun H locs hP hD hS => ?_)
      have hP : va_P (gD G) vwCl (wX6 G h0 a0 (oi u0 7 (0 : Int32))) H := hP
      have hD : va_D A (wX6 G h0 a0 (oi u0 7 (0 : Int32))) := hD
      refine lv_aload_n hx hb dX6_restore_32 rfl (lv_at hl 0 rfl) ?_
      refine va_get (D := gD G) (ci := 4) (v := .int (0 : Int32)) (C := RX6) (T := TX6) (N := 22) hx hb hg kl_X6 hown hK hP 0 rfl rfl 7 (by decide) (hg _ kq5_12) (fun _ h9 => h9) rfl dX6_restore_33 ?_
      refine lv_if_le (tgt := 41) hx hb dX6_restore_36 (by decide) (fun c7 => ?_) (fun c7 => ?_)
      rotate_left
      · exact absurd c7 (by decide)
      refine lv_aload_n hx hb dX6_restore_41 rfl (lv_at hl 0 rfl) ?_
      obtain ⟨q8, e9, hf⟩ := tbd hf
      refine kVv1 (As := []) (rest := []) hC (c_X6_keeps (G := G) e9) kq5_91 kc_X6_keeps (by decide) 0 (ci := 4) rfl rfl hP hK hD hE hS hA hl.1 (Nat.le_of_ble_eq_true rfl) ⟨Nat.zero_le _, Nat.zero_le _⟩ dX6_restore_42 (fun u9 H locs hw hP hD hS => ?_)
      obtain rfl := hw
      have hP : va_P (gD G) vwCl (wX6 G h0 a0 q8) H := hP
      have hD : va_D A (wX6 G h0 a0 q8) := hD
      refine lv_aload_n hx hb dX6_restore_45 rfl (lv_at hl 0 rfl) ?_
      refine lv_aload_n hx hb dX6_restore_46 rfl (lv_at hl 0 rfl) ?_
      refine va_get (D := gD G) (ci := 4) (v := .ref (a0 4)) (C := RX6) (T := TX6) (N := 22) hx hb hg kl_X6 hown hK hP 0 rfl rfl 4 (by decide) (hg _ kq5_9) (fun _ h9 => h9) rfl dX6_restore_47 ?_
      refine lv_bipush (v := (48 : Int32)) hx hb dX6_restore_50 (by decide) ?_
      refine lv_iload_n hx hb dX6_restore_52 rfl (lv_at hl 1 rfl) ?_
      refine lv_imul hx hb dX6_restore_53 ?_
      obtain ⟨q10, e11, hf⟩ := tbd hf
      refine kVv1 (As := [.ref (a0 4), .int ((48 : Int32) * x1)]) (rest := []) hC (c_X6_becomes_4 (G := G) e11) kq5_1 kc_X6_becomes_4 (by decide) 0 (ci := 4) rfl rfl hP hK hD hE hS hA hl.1 (Nat.le_of_ble_eq_true rfl) ⟨Nat.zero_le _, Nat.zero_le _⟩ dX6_restore_54 (fun u9 H locs hw hP hD hS => ?_)
      obtain rfl := hw
      have hP : va_P (gD G) vwCl (wX6 G h0 a0 q10) H := hP
      have hD : va_D A (wX6 G h0 a0 q10) := hD
      refine lv_aload_n hx hb dX6_restore_57 rfl (lv_at hl 0 rfl) ?_
      refine va_get (D := gD G) (ci := 4) (v := .ref (a0 0)) (C := RX6) (T := TX6) (N := 22) hx hb hg kl_X6 hown hK hP 0 rfl rfl 0 (by decide) (hg _ kq5_5) (fun _ h9 => h9) rfl dX6_restore_58 ?_
      refine lv_bipush (v := (12 : Int32)) hx hb dX6_restore_61 (by decide) ?_
      refine va_lald (f := (q10.2.2.2 0)) hx hb hK hP 1 2 rfl rfl (vin (by decide)) dX6_restore_63 ?_
      refine lv_l2i (v := ((q10.2.2.2 0) (12 : Int32).toNatClampNeg).toInt32) hx hb dX6_restore_64 rfl ?_
      have hf := Option.some.inj hf
      subst hf
      exact e_i (wf := (fun v : Ob => (wX6 G h0 a0 v))) hx hb hr hlk q10 ⟨rfl, rfl⟩ hP hK hD hS dX6_restore_65
  · have hf := tn hf c3
    refine lv_iconst (v := (1 : Int32)) hx hb dX6_restore_11 (by decide) ?_
    refine lv_goto (tgt := 29) hx hb dX6_restore_12 (by decide) ?_
    refine va_put (D := gD G) (ci := 4) (v := .int (1 : Int32)) (ty := .int) (C := RX6) (T := TX6) (N := 22) hx hb hg kl_X6 tyX6 tyX6_ok nmX6 hown hK hP hD hS 0 rfl rfl 7 (by decide) (hg _ kq5_12) (fun _ h9 => h9) rfl (by decide +kernel) rfl rfl (Nat.le_of_ble_eq_true rfl) dX6_restore_29 (fun H locs hP hD hS => ?_)
    have hP : va_P (gD G) vwCl (wX6 G h0 a0 (oi u0 7 (1 : Int32))) H := hP
    have hD : va_D A (wX6 G h0 a0 (oi u0 7 (1 : Int32))) := hD
    refine lv_aload_n hx hb dX6_restore_32 rfl (lv_at hl 0 rfl) ?_
    refine va_get (D := gD G) (ci := 4) (v := .int (1 : Int32)) (C := RX6) (T := TX6) (N := 22) hx hb hg kl_X6 hown hK hP 0 rfl rfl 7 (by decide) (hg _ kq5_12) (fun _ h9 => h9) rfl dX6_restore_33 ?_
    refine lv_if_le (tgt := 41) hx hb dX6_restore_36 (by decide) (fun c12 => ?_) (fun c12 => ?_)
    · exact absurd c12 (by decide)
    refine lv_iconst (v := (0 : Int32)) hx hb dX6_restore_39 (by decide) ?_
    have hf := Option.some.inj hf
    subst hf
    exact e_i (wf := (fun v : Ob => (wX6 G h0 a0 v))) hx hb hr hlk (oi u0 7 (1 : Int32)) ⟨rfl, rfl⟩ hP hK hD hS dX6_restore_40
set_option maxRecDepth 100000 in
set_option maxHeartbeats 4000000 in
theorem c_X6_isMinute {l : Launch} {G : Gp} {sz N : Nat} {x0 : Int64} {q : Bool} (hf : f_X6_isMinute N x0 = some q) : Met l yX6_isMinute (Cond.code yX6_isMinute cX6_isMinute 2 (some .boolean) :: lw_g) ({ frames := 1, cells := 0, slots := 0, locals := 25 } : Room) (va_Pc [.long x0] (pw G [] sz)) (va_Qi (fun (r : Int32) (v : Unit) => bI q = r ∧ () = v) (bw G (fun _ : Unit => ([] : va_W)) (va_A [] sz)) (va_A [] sz)) 0 0 (va_A [] sz) := by
  refine mt (Qc := (fun A => va_Qi (fun (r : Int32) (v : Unit) => bI q = r ∧ () = v) (bw G (fun _ : Unit => ([] : va_W)) A) A)) (by decide) (Nat.le_of_ble_eq_true rfl) ?_
  intro p e s m below meth c A ls hx hb hr hlk hml hts hown hA hP hK hD hE hS hl
  have hown : s.vm.findClass RX6 = some m.cls := hown
  have hg : ∀ w ∈ lw_g, w.before ([.long x0] : List Value).toArray s = true := fun w h => hts w (List.mem_cons_of_mem _ h)
  have hC : CallFix p m c cX6_isMinute 2 s ([.long x0] : List Value).toArray (Cond.code yX6_isMinute cX6_isMinute 2 (some .boolean) :: lw_g) RX6 := ⟨hx, hb, hml, hown, hts⟩
  have hl : lv_has ls 2 [(0, .long x0)] := hl
  rw [f_X6_isMinute] at hf
  refine lv_lload_n hx hb dX6_isMinute_0 rfl (lv_at hl 0 rfl) ?_
  refine lv_lconst (v := (0 : Int64)) hx hb dX6_isMinute_1 (by decide) ?_
  refine lv_ldc2 hx hb hown (hg _ kq5_102) dX6_isMinute_2 ?_
  obtain ⟨q1, e2, hf⟩ := tbd hf
  refine kSi0 (As := [.long x0, .long (0 : Int64), .long (52595999 : Int64)]) (rest := []) hC (c_X6_isIn (G := G) e2) kq5_84 kc_X6_isIn (by decide) hP hK hD hE hS hA hl.1 (Nat.le_of_ble_eq_true rfl) ⟨Nat.zero_le _, Nat.zero_le _⟩ dX6_isMinute_5 (fun r9 u9 H locs hw hP hD hS => ?_)
  obtain ⟨rfl, rfl⟩ := hw
  have hf := Option.some.inj hf
  subst hf
  exact e_z (wf := (fun _ : Unit => ([] : va_W))) hx hb hr hlk () (bI_nar _) ⟨rfl, rfl⟩ hP hK hD hS dX6_isMinute_8
set_option maxRecDepth 100000 in
set_option maxHeartbeats 4000000 in
theorem c_X6_daysIn {l : Launch} {G : Gp} {sz N : Nat} {x0 : Int32} {x1 : Int32} {q : Int32} (hf : f_X6_daysIn N x0 x1 = some q) : Met l yX6_daysIn (Cond.code yX6_daysIn cX6_daysIn 2 (some .int) :: lw_g) ({ frames := 0, cells := 0, slots := 0, locals := 0 } : Room) (va_Pc [.int x0, .int x1] (pw G [] sz)) (va_Qi (fun (r : Int32) (v : Unit) => q = r ∧ () = v) (bw G (fun _ : Unit => ([] : va_W)) (va_A [] sz)) (va_A [] sz)) 0 0 (va_A [] sz) := by
  refine mt (Qc := (fun A => va_Qi (fun (r : Int32) (v : Unit) => q = r ∧ () = v) (bw G (fun _ : Unit => ([] : va_W)) A) A)) (by decide) (Nat.le_of_ble_eq_true rfl) ?_
  intro p e s m below meth c A ls hx hb hr hlk hml hts hown hA hP hK hD hE hS hl
  have hown : s.vm.findClass RX6 = some m.cls := hown
  have hg : ∀ w ∈ lw_g, w.before ([.int x0, .int x1] : List Value).toArray s = true := fun w h => hts w (List.mem_cons_of_mem _ h)
  have hC : CallFix p m c cX6_daysIn 2 s ([.int x0, .int x1] : List Value).toArray (Cond.code yX6_daysIn cX6_daysIn 2 (some .int) :: lw_g) RX6 := ⟨hx, hb, hml, hown, hts⟩
  have hl : lv_has ls 2 [(0, .int x0), (1, .int x1)] := hl
  rw [f_X6_daysIn] at hf
  refine lv_iload_n hx hb dX6_daysIn_0 rfl (lv_at hl 1 rfl) ?_
  refine lv_iconst (v := (2 : Int32)) hx hb dX6_daysIn_1 (by decide) ?_
  refine lv_icmp_ne (tgt := 19) hx hb dX6_daysIn_2 (by decide) (fun c1 => ?_) (fun c1 => ?_)
  · have hf := tn hf c1
    refine lv_iload_n hx hb dX6_daysIn_19 rfl (lv_at hl 1 rfl) ?_
    refine lv_iconst (v := (4 : Int32)) hx hb dX6_daysIn_20 (by decide) ?_
    refine lv_icmp_eq (tgt := 42) hx hb dX6_daysIn_21 (by decide) (fun c2 => ?_) (fun c2 => ?_)
    · have hf := tp hf c2
      refine lv_bipush (v := (30 : Int32)) hx hb dX6_daysIn_42 (by decide) ?_
      refine lv_goto (tgt := 49) hx hb dX6_daysIn_44 (by decide) ?_
      have hf := Option.some.inj hf
      subst hf
      exact e_i (wf := (fun _ : Unit => ([] : va_W))) hx hb hr hlk () ⟨rfl, rfl⟩ hP hK hD hS dX6_daysIn_49
    · have hf := tn hf c2
      refine lv_iload_n hx hb dX6_daysIn_24 rfl (lv_at hl 1 rfl) ?_
      refine lv_bipush (v := (6 : Int32)) hx hb dX6_daysIn_25 (by decide) ?_
      refine lv_icmp_eq (tgt := 42) hx hb dX6_daysIn_27 (by decide) (fun c3 => ?_) (fun c3 => ?_)
      · have hf := tp hf c3
        refine lv_bipush (v := (30 : Int32)) hx hb dX6_daysIn_42 (by decide) ?_
        refine lv_goto (tgt := 49) hx hb dX6_daysIn_44 (by decide) ?_
        have hf := Option.some.inj hf
        subst hf
        exact e_i (wf := (fun _ : Unit => ([] : va_W))) hx hb hr hlk () ⟨rfl, rfl⟩ hP hK hD hS dX6_daysIn_49
      · have hf := tn hf c3
        refine lv_iload_n hx hb dX6_daysIn_30 rfl (lv_at hl 1 rfl) ?_
        refine lv_bipush (v := (9 : Int32)) hx hb dX6_daysIn_31 (by decide) ?_
        refine lv_icmp_eq (tgt := 42) hx hb dX6_daysIn_33 (by decide) (fun c4 => ?_) (fun c4 => ?_)
        · have hf := tp hf c4
          refine lv_bipush (v := (30 : Int32)) hx hb dX6_daysIn_42 (by decide) ?_
          refine lv_goto (tgt := 49) hx hb dX6_daysIn_44 (by decide) ?_
          have hf := Option.some.inj hf
          subst hf
          exact e_i (wf := (fun _ : Unit => ([] : va_W))) hx hb hr hlk () ⟨rfl, rfl⟩ hP hK hD hS dX6_daysIn_49
        · have hf := tn hf c4
          refine lv_iload_n hx hb dX6_daysIn_36 rfl (lv_at hl 1 rfl) ?_
          refine lv_bipush (v := (11 : Int32)) hx hb dX6_daysIn_37 (by decide) ?_
          refine lv_icmp_ne (tgt := 47) hx hb dX6_daysIn_39 (by decide) (fun c5 => ?_) (fun c5 => ?_)
          · have hf := tn hf c5
            refine lv_bipush (v := (31 : Int32)) hx hb dX6_daysIn_47 (by decide) ?_
            have hf := Option.some.inj hf
            subst hf
            exact e_i (wf := (fun _ : Unit => ([] : va_W))) hx hb hr hlk () ⟨rfl, rfl⟩ hP hK hD hS dX6_daysIn_49
          · have hf := tp hf c5
            refine lv_bipush (v := (30 : Int32)) hx hb dX6_daysIn_42 (by decide) ?_
            refine lv_goto (tgt := 49) hx hb dX6_daysIn_44 (by decide) ?_
            have hf := Option.some.inj hf
            subst hf
            exact e_i (wf := (fun _ : Unit => ([] : va_W))) hx hb hr hlk () ⟨rfl, rfl⟩ hP hK hD hS dX6_daysIn_49
  · have hf := tp hf c1
    refine lv_iload_n hx hb dX6_daysIn_5 rfl (lv_at hl 0 rfl) ?_
    refine lv_iconst (v := (4 : Int32)) hx hb dX6_daysIn_6 (by decide) ?_
    refine lv_irem hx hb dX6_daysIn_7 (by decide) ?_
    refine lv_if_ne (tgt := 16) hx hb dX6_daysIn_8 (by decide) (fun c6 => ?_) (fun c6 => ?_)
    · have hf := tn hf c6
      refine lv_bipush (v := (28 : Int32)) hx hb dX6_daysIn_16 (by decide) ?_
      have hf := Option.some.inj hf
      subst hf
      exact e_i (wf := (fun _ : Unit => ([] : va_W))) hx hb hr hlk () ⟨rfl, rfl⟩ hP hK hD hS dX6_daysIn_18
    · have hf := tp hf c6
      refine lv_bipush (v := (29 : Int32)) hx hb dX6_daysIn_11 (by decide) ?_
      refine lv_goto (tgt := 18) hx hb dX6_daysIn_13 (by decide) ?_
      have hf := Option.some.inj hf
      subst hf
      exact e_i (wf := (fun _ : Unit => ([] : va_W))) hx hb hr hlk () ⟨rfl, rfl⟩ hP hK hD hS dX6_daysIn_18
set_option maxRecDepth 100000 in
set_option maxHeartbeats 4000000 in
theorem c_X6_daysOf {l : Launch} {G : Gp} {sz N : Nat} {x0 : Int32} {q : Int32} (hf : f_X6_daysOf N x0 = some q) : Met l yX6_daysOf (Cond.code yX6_daysOf cX6_daysOf 1 (some .int) :: lw_g) ({ frames := 0, cells := 0, slots := 0, locals := 0 } : Room) (va_Pc [.int x0] (pw G [] sz)) (va_Qi (fun (r : Int32) (v : Unit) => q = r ∧ () = v) (bw G (fun _ : Unit => ([] : va_W)) (va_A [] sz)) (va_A [] sz)) 0 0 (va_A [] sz) := by
  refine mt (Qc := (fun A => va_Qi (fun (r : Int32) (v : Unit) => q = r ∧ () = v) (bw G (fun _ : Unit => ([] : va_W)) A) A)) (by decide) (Nat.le_of_ble_eq_true rfl) ?_
  intro p e s m below meth c A ls hx hb hr hlk hml hts hown hA hP hK hD hE hS hl
  have hown : s.vm.findClass RX6 = some m.cls := hown
  have hg : ∀ w ∈ lw_g, w.before ([.int x0] : List Value).toArray s = true := fun w h => hts w (List.mem_cons_of_mem _ h)
  have hC : CallFix p m c cX6_daysOf 1 s ([.int x0] : List Value).toArray (Cond.code yX6_daysOf cX6_daysOf 1 (some .int) :: lw_g) RX6 := ⟨hx, hb, hml, hown, hts⟩
  have hl : lv_has ls 1 [(0, .int x0)] := hl
  rw [f_X6_daysOf] at hf
  refine lv_iload_n hx hb dX6_daysOf_0 rfl (lv_at hl 0 rfl) ?_
  refine lv_iconst (v := (4 : Int32)) hx hb dX6_daysOf_1 (by decide) ?_
  refine lv_irem hx hb dX6_daysOf_2 (by decide) ?_
  refine lv_if_ne (tgt := 12) hx hb dX6_daysOf_3 (by decide) (fun c1 => ?_) (fun c1 => ?_)
  · have hf := tn hf c1
    refine lv_sipush (v := (365 : Int32)) hx hb dX6_daysOf_12 (by decide) ?_
    have hf := Option.some.inj hf
    subst hf
    exact e_i (wf := (fun _ : Unit => ([] : va_W))) hx hb hr hlk () ⟨rfl, rfl⟩ hP hK hD hS dX6_daysOf_15
  · have hf := tp hf c1
    refine lv_sipush (v := (366 : Int32)) hx hb dX6_daysOf_6 (by decide) ?_
    refine lv_goto (tgt := 15) hx hb dX6_daysOf_9 (by decide) ?_
    have hf := Option.some.inj hf
    subst hf
    exact e_i (wf := (fun _ : Unit => ([] : va_W))) hx hb hr hlk () ⟨rfl, rfl⟩ hP hK hD hS dX6_daysOf_15
set_option maxRecDepth 100000 in
set_option maxHeartbeats 4000000 in
theorem c_X6_partOf {l : Launch} {G : Gp} {sz N : Nat} {x0 : Int32} {x1 : Int32} {q : Int32} (hf : f_X6_partOf N x0 x1 = some q) : Met l yX6_partOf (Cond.code yX6_partOf cX6_partOf 5 (some .int) :: lw_g) ({ frames := 1, cells := 0, slots := 0, locals := 21 } : Room) (va_Pc [.int x0, .int x1] (pw G [] sz)) (va_Qi (fun (r : Int32) (v : Unit) => q = r ∧ () = v) (bw G (fun _ : Unit => ([] : va_W)) (va_A [] sz)) (va_A [] sz)) 0 0 (va_A [] sz) := by
  refine mt (Qc := (fun A => va_Qi (fun (r : Int32) (v : Unit) => q = r ∧ () = v) (bw G (fun _ : Unit => ([] : va_W)) A) A)) (by decide) (Nat.le_of_ble_eq_true rfl) ?_
  intro p e s m below meth c A ls hx hb hr hlk hml hts hown hA hP hK hD hE hS hl
  have hown : s.vm.findClass RX6 = some m.cls := hown
  have hg : ∀ w ∈ lw_g, w.before ([.int x0, .int x1] : List Value).toArray s = true := fun w h => hts w (List.mem_cons_of_mem _ h)
  have hC : CallFix p m c cX6_partOf 5 s ([.int x0, .int x1] : List Value).toArray (Cond.code yX6_partOf cX6_partOf 5 (some .int) :: lw_g) RX6 := ⟨hx, hb, hml, hown, hts⟩
  have hl : lv_has ls 5 [(0, .int x0), (1, .int x1)] := hl
  have lp_71 : ∀ (n : Nat) (x2 : Int32) (x3 : Int32) (x4 : Int32), l_X6_partOf_71 N x0 x1 n x2 x3 x4 = some q → ∀ (H : Heap) (locs : List Loc) (ls : Array Slot), va_P (gD G) vwCl [] H → va_D A [] → va_S A s.heap H locs → lv_has ls 5 [(0, .int x0), (1, .int x1), (2, .int x2), (3, .int x3), (4, .int x4)] → W p l e ({ frames := 1, cells := 0, slots := 0, locals := 21 } : Room) s m ([.int x0, .int x1] : List Value).toArray below meth c H locs 0 0 (MQ below (va_Qi (fun (r : Int32) (v : Unit) => q = r ∧ () = v) (bw G (fun _ : Unit => ([] : va_W)) A) A) ([.int x0, .int x1] : List Value).toArray s 0 0 A) (F0 m 71 ls []) := by
    intro n
    induction n with
    | zero => intro x2 x3 x4 hf; rw [l_X6_partOf_71] at hf; cases hf
    | succ n ih =>
      intro x2 x3 x4 hf H locs ls hP hD hS hl
      rw [l_X6_partOf_71] at hf
      refine lv_iload_n hx hb dX6_partOf_71 rfl (lv_at hl 2 rfl) ?_
      refine lv_iload_n hx hb dX6_partOf_72 rfl (lv_at hl 3 rfl) ?_
      refine lv_iload hx hb dX6_partOf_73 (lv_at hl 4 rfl) ?_
      obtain ⟨q7, e8, hf⟩ := tbd hf
      refine kSi0 (As := [.int x3, .int x4]) (rest := [.int x2]) hC (c_X6_daysIn (G := G) e8) kq5_109 kc_X6_daysIn (by decide) hP hK hD hE hS hA hl.1 (Nat.le_of_ble_eq_true rfl) ⟨Nat.zero_le _, Nat.zero_le _⟩ dX6_partOf_75 (fun r9 u9 H locs hw hP hD hS => ?_)
      obtain ⟨rfl, rfl⟩ := hw
      refine lv_icmp_lt (tgt := 96) hx hb dX6_partOf_78 (by decide) (fun c9 => ?_) (fun c9 => ?_)
      · have hf := tp hf c9
        refine lv_iload_n hx hb dX6_partOf_96 rfl (lv_at hl 1 rfl) ?_
        refine lv_if_ne (tgt := 104) hx hb dX6_partOf_97 (by decide) (fun c10 => ?_) (fun c10 => ?_)
        · have hf := tn hf c10
          refine lv_iload_n hx hb dX6_partOf_104 rfl (lv_at hl 1 rfl) ?_
          refine lv_iconst (v := (1 : Int32)) hx hb dX6_partOf_105 (by decide) ?_
          refine lv_icmp_ne (tgt := 114) hx hb dX6_partOf_106 (by decide) (fun c11 => ?_) (fun c11 => ?_)
          · have hf := tn hf c11
            refine lv_iload_n hx hb dX6_partOf_114 rfl (lv_at hl 2 rfl) ?_
            refine lv_iconst (v := (1 : Int32)) hx hb dX6_partOf_115 (by decide) ?_
            refine lv_iadd hx hb dX6_partOf_116 ?_
            have hf := Option.some.inj hf
            subst hf
            exact e_i (wf := (fun _ : Unit => ([] : va_W))) hx hb hr hlk () ⟨rfl, rfl⟩ hP hK hD hS dX6_partOf_117
          · have hf := tp hf c11
            refine lv_iload hx hb dX6_partOf_109 (lv_at hl 4 rfl) ?_
            refine lv_goto (tgt := 117) hx hb dX6_partOf_111 (by decide) ?_
            have hf := Option.some.inj hf
            subst hf
            exact e_i (wf := (fun _ : Unit => ([] : va_W))) hx hb hr hlk () ⟨rfl, rfl⟩ hP hK hD hS dX6_partOf_117
        · have hf := tp hf c10
          refine lv_iload_n hx hb dX6_partOf_100 rfl (lv_at hl 3 rfl) ?_
          refine lv_goto (tgt := 117) hx hb dX6_partOf_101 (by decide) ?_
          have hf := Option.some.inj hf
          subst hf
          exact e_i (wf := (fun _ : Unit => ([] : va_W))) hx hb hr hlk () ⟨rfl, rfl⟩ hP hK hD hS dX6_partOf_117
      · have hf := tn hf c9
        refine lv_iload_n hx hb dX6_partOf_81 rfl (lv_at hl 2 rfl) ?_
        refine lv_iload_n hx hb dX6_partOf_82 rfl (lv_at hl 3 rfl) ?_
        refine lv_iload hx hb dX6_partOf_83 (lv_at hl 4 rfl) ?_
        obtain ⟨q12, e13, hf⟩ := tbd hf
        refine kSi0 (As := [.int x3, .int x4]) (rest := [.int x2]) hC (c_X6_daysIn (G := G) e13) kq5_109 kc_X6_daysIn (by decide) hP hK hD hE hS hA hl.1 (Nat.le_of_ble_eq_true rfl) ⟨Nat.zero_le _, Nat.zero_le _⟩ dX6_partOf_85 (fun r9 u9 H locs hw hP hD hS => ?_)
        obtain ⟨rfl, rfl⟩ := hw
        refine lv_isub hx hb dX6_partOf_88 ?_
        refine lv_istore_n (lv' := [(2, .int (x2 - q12)), (0, .int x0), (1, .int x1), (3, .int x3), (4, .int x4)]) hx hb dX6_partOf_89 rfl hl (by decide) rfl (fun ls hl => ?_)
        refine lv_iinc (v := (x4 + (1 : Int32))) (lv' := [(4, .int (x4 + (1 : Int32))), (2, .int (x2 - q12)), (0, .int x0), (1, .int x1), (3, .int x3)]) hx hb dX6_partOf_90 hl (k := 4) rfl rfl (by decide) rfl (fun ls hl => ?_)
        refine lv_goto (tgt := 71) hx hb dX6_partOf_93 (by decide) ?_
        exact ih _ _ _ hf _ _ _ hP hD hS (lv_sub hl [2, 3, 1, 4, 0] rfl)
  have lp_47 : ∀ (n : Nat) (x2 : Int32) (x3 : Int32), l_X6_partOf_47 N x0 x1 n x2 x3 = some q → ∀ (H : Heap) (locs : List Loc) (ls : Array Slot), va_P (gD G) vwCl [] H → va_D A [] → va_S A s.heap H locs → lv_has ls 5 [(0, .int x0), (1, .int x1), (2, .int x2), (3, .int x3)] → W p l e ({ frames := 1, cells := 0, slots := 0, locals := 21 } : Room) s m ([.int x0, .int x1] : List Value).toArray below meth c H locs 0 0 (MQ below (va_Qi (fun (r : Int32) (v : Unit) => q = r ∧ () = v) (bw G (fun _ : Unit => ([] : va_W)) A) A) ([.int x0, .int x1] : List Value).toArray s 0 0 A) (F0 m 47 ls []) := by
    intro n
    induction n with
    | zero => intro x2 x3 hf; rw [l_X6_partOf_47] at hf; cases hf
    | succ n ih =>
      intro x2 x3 hf H locs ls hP hD hS hl
      rw [l_X6_partOf_47] at hf
      refine lv_iload_n hx hb dX6_partOf_47 rfl (lv_at hl 2 rfl) ?_
      refine lv_iload_n hx hb dX6_partOf_48 rfl (lv_at hl 3 rfl) ?_
      obtain ⟨q4, e5, hf⟩ := tbd hf
      refine kSi0 (As := [.int x3]) (rest := [.int x2]) hC (c_X6_daysOf (G := G) e5) kq5_106 kc_X6_daysOf (by decide) hP hK hD hE hS hA hl.1 (Nat.le_of_ble_eq_true rfl) ⟨Nat.zero_le _, Nat.zero_le _⟩ dX6_partOf_49 (fun r9 u9 H locs hw hP hD hS => ?_)
      obtain ⟨rfl, rfl⟩ := hw
      refine lv_icmp_lt (tgt := 68) hx hb dX6_partOf_52 (by decide) (fun c6 => ?_) (fun c6 => ?_)
      · have hf := tp hf c6
        refine lv_iconst (v := (1 : Int32)) hx hb dX6_partOf_68 (by decide) ?_
        refine lv_istore (lv' := [(4, .int (1 : Int32)), (0, .int x0), (1, .int x1), (2, .int x2), (3, .int x3)]) hx hb dX6_partOf_69 hl (by decide) rfl (fun ls hl => ?_)
        exact lp_71 N _ _ _ hf _ _ _ hP hD hS (lv_sub hl [1, 2, 3, 4, 0] rfl)
      · have hf := tn hf c6
        refine lv_iload_n hx hb dX6_partOf_55 rfl (lv_at hl 2 rfl) ?_
        refine lv_iload_n hx hb dX6_partOf_56 rfl (lv_at hl 3 rfl) ?_
        obtain ⟨q14, e15, hf⟩ := tbd hf
        refine kSi0 (As := [.int x3]) (rest := [.int x2]) hC (c_X6_daysOf (G := G) e15) kq5_106 kc_X6_daysOf (by decide) hP hK hD hE hS hA hl.1 (Nat.le_of_ble_eq_true rfl) ⟨Nat.zero_le _, Nat.zero_le _⟩ dX6_partOf_57 (fun r9 u9 H locs hw hP hD hS => ?_)
        obtain ⟨rfl, rfl⟩ := hw
        refine lv_isub hx hb dX6_partOf_60 ?_
        refine lv_istore_n (lv' := [(2, .int (x2 - q14)), (0, .int x0), (1, .int x1), (3, .int x3)]) hx hb dX6_partOf_61 rfl hl (by decide) rfl (fun ls hl => ?_)
        refine lv_iinc (v := (x3 + (1 : Int32))) (lv' := [(3, .int (x3 + (1 : Int32))), (2, .int (x2 - q14)), (0, .int x0), (1, .int x1)]) hx hb dX6_partOf_62 hl (k := 3) rfl rfl (by decide) rfl (fun ls hl => ?_)
        refine lv_goto (tgt := 47) hx hb dX6_partOf_65 (by decide) ?_
        exact ih _ _ hf _ _ _ hP hD hS (lv_sub hl [2, 3, 1, 0] rfl)
  rw [f_X6_partOf] at hf
  refine lv_iload_n hx hb dX6_partOf_0 rfl (lv_at hl 0 rfl) ?_
  refine lv_sipush (v := (1440 : Int32)) hx hb dX6_partOf_1 (by decide) ?_
  refine lv_idiv hx hb dX6_partOf_4 (by decide) ?_
  refine lv_istore_n (lv' := [(2, .int (x0 / (1440 : Int32))), (0, .int x0), (1, .int x1)]) hx hb dX6_partOf_5 rfl hl (by decide) rfl (fun ls hl => ?_)
  refine lv_iload_n hx hb dX6_partOf_6 rfl (lv_at hl 2 rfl) ?_
  refine lv_iconst (v := (3 : Int32)) hx hb dX6_partOf_7 (by decide) ?_
  refine lv_icmp_ne (tgt := 19) hx hb dX6_partOf_8 (by decide) (fun c1 => ?_) (fun c1 => ?_)
  · have hf := tn hf c1
    refine lv_iload_n hx hb dX6_partOf_19 rfl (lv_at hl 2 rfl) ?_
    refine lv_iconst (v := (4 : Int32)) hx hb dX6_partOf_20 (by decide) ?_
    refine lv_icmp_ne (tgt := 29) hx hb dX6_partOf_21 (by decide) (fun c2 => ?_) (fun c2 => ?_)
    · have hf := tn hf c2
      refine lv_iload_n hx hb dX6_partOf_29 rfl (lv_at hl 2 rfl) ?_
      refine lv_iconst (v := (5 : Int32)) hx hb dX6_partOf_30 (by decide) ?_
      refine lv_icmp_ne (tgt := 43) hx hb dX6_partOf_31 (by decide) (fun c3 => ?_) (fun c3 => ?_)
      · have hf := tn hf c3
        refine lv_sipush (v := (2000 : Int32)) hx hb dX6_partOf_43 (by decide) ?_
        refine lv_istore_n (lv' := [(3, .int (2000 : Int32)), (2, .int (x0 / (1440 : Int32))), (0, .int x0), (1, .int x1)]) hx hb dX6_partOf_46 rfl hl (by decide) rfl (fun ls hl => ?_)
        exact lp_47 N _ _ hf _ _ _ hP hD hS (lv_sub hl [2, 3, 1, 0] rfl)
      · have hf := tp hf c3
        refine lv_iload_n hx hb dX6_partOf_34 rfl (lv_at hl 0 rfl) ?_
        refine lv_iconst (v := (5 : Int32)) hx hb dX6_partOf_35 (by decide) ?_
        refine lv_iadd hx hb dX6_partOf_36 ?_
        refine lv_bipush (v := (7 : Int32)) hx hb dX6_partOf_37 (by decide) ?_
        refine lv_irem hx hb dX6_partOf_39 (by decide) ?_
        refine lv_iconst (v := (1 : Int32)) hx hb dX6_partOf_40 (by decide) ?_
        refine lv_iadd hx hb dX6_partOf_41 ?_
        have hf := Option.some.inj hf
        subst hf
        exact e_i (wf := (fun _ : Unit => ([] : va_W))) hx hb hr hlk () ⟨rfl, rfl⟩ hP hK hD hS dX6_partOf_42
    · have hf := tp hf c2
      refine lv_iload_n hx hb dX6_partOf_24 rfl (lv_at hl 1 rfl) ?_
      refine lv_bipush (v := (60 : Int32)) hx hb dX6_partOf_25 (by decide) ?_
      refine lv_irem hx hb dX6_partOf_27 (by decide) ?_
      have hf := Option.some.inj hf
      subst hf
      exact e_i (wf := (fun _ : Unit => ([] : va_W))) hx hb hr hlk () ⟨rfl, rfl⟩ hP hK hD hS dX6_partOf_28
  · have hf := tp hf c1
    refine lv_iload_n hx hb dX6_partOf_11 rfl (lv_at hl 1 rfl) ?_
    refine lv_bipush (v := (60 : Int32)) hx hb dX6_partOf_12 (by decide) ?_
    refine lv_idiv hx hb dX6_partOf_14 (by decide) ?_
    refine lv_bipush (v := (24 : Int32)) hx hb dX6_partOf_15 (by decide) ?_
    refine lv_irem hx hb dX6_partOf_17 (by decide) ?_
    have hf := Option.some.inj hf
    subst hf
    exact e_i (wf := (fun _ : Unit => ([] : va_W))) hx hb hr hlk () ⟨rfl, rfl⟩ hP hK hD hS dX6_partOf_18
set_option maxRecDepth 100000 in
set_option maxHeartbeats 4000000 in
theorem c_X6_part {l : Launch} {G : Gp} {sz N : Nat} {x1 : Int32} {x2 : Int32} {h0 : Nat} {a0 : Nat → Nat} {u0 : Ob} {q : Int32 × Ob} (hf : f_X6_part N x1 x2 u0 = some q) : Met l yX6_part (Cond.code yX6_part cX6_part 3 (some .int) :: lw_g) ({ frames := 2, cells := 0, slots := 0, locals := 46 } : Room) (va_Pc [.ref h0, .int x1, .int x2] (pw G (wX6 G h0 a0 u0) sz)) (va_Qi (fun (r : Int32) (v : Ob) => q.1 = r ∧ q.2 = v) (bw G (fun v : Ob => (wX6 G h0 a0 v)) (va_A (wX6 G h0 a0 u0) sz)) (va_A (wX6 G h0 a0 u0) sz)) 0 0 (va_A (wX6 G h0 a0 u0) sz) := by
  refine mt (Qc := (fun A => va_Qi (fun (r : Int32) (v : Ob) => q.1 = r ∧ q.2 = v) (bw G (fun v : Ob => (wX6 G h0 a0 v)) A) A)) (by decide) (Nat.le_of_ble_eq_true rfl) ?_
  intro p e s m below meth c A ls hx hb hr hlk hml hts hown hA hP hK hD hE hS hl
  have hown : s.vm.findClass RX6 = some m.cls := hown
  have hg : ∀ w ∈ lw_g, w.before ([.ref h0, .int x1, .int x2] : List Value).toArray s = true := fun w h => hts w (List.mem_cons_of_mem _ h)
  have hC : CallFix p m c cX6_part 3 s ([.ref h0, .int x1, .int x2] : List Value).toArray (Cond.code yX6_part cX6_part 3 (some .int) :: lw_g) RX6 := ⟨hx, hb, hml, hown, hts⟩
  have hl : lv_has ls 3 [(0, .ref h0), (1, .int x1), (2, .int x2)] := hl
  rw [f_X6_part] at hf
  refine lv_aload_n hx hb dX6_part_0 rfl (lv_at hl 0 rfl) ?_
  refine lv_iload_n hx hb dX6_part_1 rfl (lv_at hl 1 rfl) ?_
  refine lv_i2l (v := x1.toInt64) hx hb dX6_part_2 rfl ?_
  obtain ⟨q1, e2, hf⟩ := tbd hf
  refine kSi0 (As := [.long x1.toInt64]) (rest := [.ref h0]) hC (c_X6_isMinute (G := G) e2) kq5_99 kc_X6_isMinute (by decide) hP hK hD hE hS hA hl.1 (Nat.le_of_ble_eq_true rfl) ⟨Nat.zero_le _, Nat.zero_le _⟩ dX6_part_3 (fun r9 u9 H locs hw hP hD hS => ?_)
  obtain ⟨rfl, rfl⟩ := hw
  refine bz_eq (tgt := 25) hx hb dX6_part_6 (by decide) (fun c3 => ?_) (fun c3 => ?_)
  · have hf := tn hf c3
    refine lv_iconst (v := (1 : Int32)) hx hb dX6_part_25 (by decide) ?_
    refine va_put (D := gD G) (ci := 4) (v := .int (1 : Int32)) (ty := .int) (C := RX6) (T := TX6) (N := 22) hx hb hg kl_X6 tyX6 tyX6_ok nmX6 hown hK hP hD hS 0 rfl rfl 7 (by decide) (hg _ kq5_12) (fun _ h9 => h9) rfl (by decide +kernel) rfl rfl (Nat.le_of_ble_eq_true rfl) dX6_part_26 (fun H locs hP hD hS => ?_)
    have hP : va_P (gD G) vwCl (wX6 G h0 a0 (oi u0 7 (1 : Int32))) H := hP
    have hD : va_D A (wX6 G h0 a0 (oi u0 7 (1 : Int32))) := hD
    refine lv_aload_n hx hb dX6_part_29 rfl (lv_at hl 0 rfl) ?_
    refine va_get (D := gD G) (ci := 4) (v := .int (1 : Int32)) (C := RX6) (T := TX6) (N := 22) hx hb hg kl_X6 hown hK hP 0 rfl rfl 7 (by decide) (hg _ kq5_12) (fun _ h9 => h9) rfl dX6_part_30 ?_
    refine lv_if_le (tgt := 40) hx hb dX6_part_33 (by decide) (fun c4 => ?_) (fun c4 => ?_)
    · exact absurd c4 (by decide)
    refine lv_iconst (v := (0 : Int32)) hx hb dX6_part_36 (by decide) ?_
    refine lv_goto (tgt := 45) hx hb dX6_part_37 (by decide) ?_
    have hf := Option.some.inj hf
    subst hf
    exact e_i (wf := (fun v : Ob => (wX6 G h0 a0 v))) hx hb hr hlk (oi u0 7 (1 : Int32)) ⟨rfl, rfl⟩ hP hK hD hS dX6_part_45
  · have hf := tp hf c3
    refine lv_iload_n hx hb dX6_part_9 rfl (lv_at hl 2 rfl) ?_
    refine lv_i2l (v := x2.toInt64) hx hb dX6_part_10 rfl ?_
    refine lv_lconst (v := (0 : Int64)) hx hb dX6_part_11 (by decide) ?_
    refine lv_ldc2 hx hb hown (hg _ kq4_239) dX6_part_12 ?_
    obtain ⟨q5, e6, hf⟩ := tbd hf
    refine kSi0 (As := [.long x2.toInt64, .long (0 : Int64), .long (5 : Int64)]) (rest := [.ref h0]) hC (c_X6_isIn (G := G) e6) kq5_84 kc_X6_isIn (by decide) hP hK hD hE hS hA hl.1 (Nat.le_of_ble_eq_true rfl) ⟨Nat.zero_le _, Nat.zero_le _⟩ dX6_part_15 (fun r9 u9 H locs hw hP hD hS => ?_)
    obtain ⟨rfl, rfl⟩ := hw
    refine bz_eq (tgt := 25) hx hb dX6_part_18 (by decide) (fun c7 => ?_) (fun c7 => ?_)
    · have hf := tn hf c7
      refine lv_iconst (v := (1 : Int32)) hx hb dX6_part_25 (by decide) ?_
      refine va_put (D := gD G) (ci := 4) (v := .int (1 : Int32)) (ty := .int) (C := RX6) (T := TX6) (N := 22) hx hb hg kl_X6 tyX6 tyX6_ok nmX6 hown hK hP hD hS 0 rfl rfl 7 (by decide) (hg _ kq5_12) (fun _ h9 => h9) rfl (by decide +kernel) rfl rfl (Nat.le_of_ble_eq_true rfl) dX6_part_26 (fun H locs hP hD hS => ?_)
      have hP : va_P (gD G) vwCl (wX6 G h0 a0 (oi u0 7 (1 : Int32))) H := hP
      have hD : va_D A (wX6 G h0 a0 (oi u0 7 (1 : Int32))) := hD
      refine lv_aload_n hx hb dX6_part_29 rfl (lv_at hl 0 rfl) ?_
      refine va_get (D := gD G) (ci := 4) (v := .int (1 : Int32)) (C := RX6) (T := TX6) (N := 22) hx hb hg kl_X6 hown hK hP 0 rfl rfl 7 (by decide) (hg _ kq5_12) (fun _ h9 => h9) rfl dX6_part_30 ?_
      refine lv_if_le (tgt := 40) hx hb dX6_part_33 (by decide) (fun c8 => ?_) (fun c8 => ?_)
      · exact absurd c8 (by decide)
      refine lv_iconst (v := (0 : Int32)) hx hb dX6_part_36 (by decide) ?_
      refine lv_goto (tgt := 45) hx hb dX6_part_37 (by decide) ?_
      have hf := Option.some.inj hf
      subst hf
      exact e_i (wf := (fun v : Ob => (wX6 G h0 a0 v))) hx hb hr hlk (oi u0 7 (1 : Int32)) ⟨rfl, rfl⟩ hP hK hD hS dX6_part_45
    · have hf := tp hf c7
      refine lv_iconst (v := (0 : Int32)) hx hb dX6_part_21 (by decide) ?_
      refine lv_goto (tgt := 26) hx hb dX6_part_22 (by decide) ?_
      refine va_put (D := gD G) (ci := 4) (v := .int (0 : Int32)) (ty := .int) (C := RX6) (T := TX6) (N := 22) hx hb hg kl_X6 tyX6 tyX6_ok nmX6 hown hK hP hD hS 0 rfl rfl 7 (by decide) (hg _ kq5_12) (fun _ h9 => h9) rfl (by decide +kernel) rfl rfl (Nat.le_of_ble_eq_true rfl) dX6_part_26 (fun H locs hP hD hS => ?_)
      have hP : va_P (gD G) vwCl (wX6 G h0 a0 (oi u0 7 (0 : Int32))) H := hP
      have hD : va_D A (wX6 G h0 a0 (oi u0 7 (0 : Int32))) := hD
      refine lv_aload_n hx hb dX6_part_29 rfl (lv_at hl 0 rfl) ?_
      refine va_get (D := gD G) (ci := 4) (v := .int (0 : Int32)) (C := RX6) (T := TX6) (N := 22) hx hb hg kl_X6 hown hK hP 0 rfl rfl 7 (by decide) (hg _ kq5_12) (fun _ h9 => h9) rfl dX6_part_30 ?_
      refine lv_if_le (tgt := 40) hx hb dX6_part_33 (by decide) (fun c9 => ?_) (fun c9 => ?_)
      rotate_left
      · exact absurd c9 (by decide)
      refine lv_iload_n hx hb dX6_part_40 rfl (lv_at hl 1 rfl) ?_
      refine lv_iload_n hx hb dX6_part_41 rfl (lv_at hl 2 rfl) ?_
      obtain ⟨q10, e11, hf⟩ := tbd hf
      refine kSi0 (As := [.int x1, .int x2]) (rest := []) hC (c_X6_partOf (G := G) e11) kq5_103 kc_X6_partOf (by decide) hP hK hD hE hS hA hl.1 (Nat.le_of_ble_eq_true rfl) ⟨Nat.zero_le _, Nat.zero_le _⟩ dX6_part_42 (fun r9 u9 H locs hw hP hD hS => ?_)
      obtain ⟨rfl, rfl⟩ := hw
      have hf := Option.some.inj hf
      subst hf
      exact e_i (wf := (fun v : Ob => (wX6 G h0 a0 v))) hx hb hr hlk (oi u0 7 (0 : Int32)) ⟨rfl, rfl⟩ hP hK hD hS dX6_part_45
set_option maxRecDepth 100000 in
set_option maxHeartbeats 4000000 in
theorem c_X6_isDay {l : Launch} {G : Gp} {sz N : Nat} {x0 : Int32} {x1 : Int32} {x2 : Int32} {q : Bool} (hf : f_X6_isDay N x0 x1 x2 = some q) : Met l yX6_isDay (Cond.code yX6_isDay cX6_isDay 3 (some .boolean) :: lw_g) ({ frames := 1, cells := 0, slots := 0, locals := 25 } : Room) (va_Pc [.int x0, .int x1, .int x2] (pw G [] sz)) (va_Qi (fun (r : Int32) (v : Unit) => bI q = r ∧ () = v) (bw G (fun _ : Unit => ([] : va_W)) (va_A [] sz)) (va_A [] sz)) 0 0 (va_A [] sz) := by
  refine mt (Qc := (fun A => va_Qi (fun (r : Int32) (v : Unit) => bI q = r ∧ () = v) (bw G (fun _ : Unit => ([] : va_W)) A) A)) (by decide) (Nat.le_of_ble_eq_true rfl) ?_
  intro p e s m below meth c A ls hx hb hr hlk hml hts hown hA hP hK hD hE hS hl
  have hown : s.vm.findClass RX6 = some m.cls := hown
  have hg : ∀ w ∈ lw_g, w.before ([.int x0, .int x1, .int x2] : List Value).toArray s = true := fun w h => hts w (List.mem_cons_of_mem _ h)
  have hC : CallFix p m c cX6_isDay 3 s ([.int x0, .int x1, .int x2] : List Value).toArray (Cond.code yX6_isDay cX6_isDay 3 (some .boolean) :: lw_g) RX6 := ⟨hx, hb, hml, hown, hts⟩
  have hl : lv_has ls 3 [(0, .int x0), (1, .int x1), (2, .int x2)] := hl
  rw [f_X6_isDay] at hf
  refine lv_iload_n hx hb dX6_isDay_0 rfl (lv_at hl 0 rfl) ?_
  refine lv_i2l (v := x0.toInt64) hx hb dX6_isDay_1 rfl ?_
  refine lv_ldc2 hx hb hown (hg _ kq5_119) dX6_isDay_2 ?_
  refine lv_ldc2 hx hb hown (hg _ kq5_120) dX6_isDay_5 ?_
  obtain ⟨q1, e2, hf⟩ := tbd hf
  refine kSi0 (As := [.long x0.toInt64, .long (2000 : Int64), .long (2099 : Int64)]) (rest := []) hC (c_X6_isIn (G := G) e2) kq5_84 kc_X6_isIn (by decide) hP hK hD hE hS hA hl.1 (Nat.le_of_ble_eq_true rfl) ⟨Nat.zero_le _, Nat.zero_le _⟩ dX6_isDay_8 (fun r9 u9 H locs hw hP hD hS => ?_)
  obtain ⟨rfl, rfl⟩ := hw
  refine bz_eq (tgt := 45) hx hb dX6_isDay_11 (by decide) (fun c3 => ?_) (fun c3 => ?_)
  · have hf := tn hf c3
    refine lv_iconst (v := (0 : Int32)) hx hb dX6_isDay_45 (by decide) ?_
    have hf := Option.some.inj hf
    subst hf
    exact e_z (wf := (fun _ : Unit => ([] : va_W))) hx hb hr hlk () rfl ⟨rfl, rfl⟩ hP hK hD hS dX6_isDay_46
  · have hf := tp hf c3
    refine lv_iload_n hx hb dX6_isDay_14 rfl (lv_at hl 1 rfl) ?_
    refine lv_i2l (v := x1.toInt64) hx hb dX6_isDay_15 rfl ?_
    refine lv_lconst (v := (1 : Int64)) hx hb dX6_isDay_16 (by decide) ?_
    refine lv_ldc2 hx hb hown (hg _ kq5_121) dX6_isDay_17 ?_
    obtain ⟨q4, e5, hf⟩ := tbd hf
    refine kSi0 (As := [.long x1.toInt64, .long (1 : Int64), .long (12 : Int64)]) (rest := []) hC (c_X6_isIn (G := G) e5) kq5_84 kc_X6_isIn (by decide) hP hK hD hE hS hA hl.1 (Nat.le_of_ble_eq_true rfl) ⟨Nat.zero_le _, Nat.zero_le _⟩ dX6_isDay_20 (fun r9 u9 H locs hw hP hD hS => ?_)
    obtain ⟨rfl, rfl⟩ := hw
    refine bz_eq (tgt := 45) hx hb dX6_isDay_23 (by decide) (fun c6 => ?_) (fun c6 => ?_)
    · have hf := tn hf c6
      refine lv_iconst (v := (0 : Int32)) hx hb dX6_isDay_45 (by decide) ?_
      have hf := Option.some.inj hf
      subst hf
      exact e_z (wf := (fun _ : Unit => ([] : va_W))) hx hb hr hlk () rfl ⟨rfl, rfl⟩ hP hK hD hS dX6_isDay_46
    · have hf := tp hf c6
      refine lv_iload_n hx hb dX6_isDay_26 rfl (lv_at hl 2 rfl) ?_
      refine lv_i2l (v := x2.toInt64) hx hb dX6_isDay_27 rfl ?_
      refine lv_lconst (v := (1 : Int64)) hx hb dX6_isDay_28 (by decide) ?_
      refine lv_iload_n hx hb dX6_isDay_29 rfl (lv_at hl 0 rfl) ?_
      refine lv_iload_n hx hb dX6_isDay_30 rfl (lv_at hl 1 rfl) ?_
      obtain ⟨q7, e8, hf⟩ := tbd hf
      refine kSi0 (As := [.int x0, .int x1]) (rest := [.long (1 : Int64), .long x2.toInt64]) hC (c_X6_daysIn (G := G) e8) kq5_109 kc_X6_daysIn (by decide) hP hK hD hE hS hA hl.1 (Nat.le_of_ble_eq_true rfl) ⟨Nat.zero_le _, Nat.zero_le _⟩ dX6_isDay_31 (fun r9 u9 H locs hw hP hD hS => ?_)
      obtain ⟨rfl, rfl⟩ := hw
      refine lv_i2l (v := q7.toInt64) hx hb dX6_isDay_34 rfl ?_
      obtain ⟨q9, e10, hf⟩ := tbd hf
      refine kSi0 (As := [.long x2.toInt64, .long (1 : Int64), .long q7.toInt64]) (rest := []) hC (c_X6_isIn (G := G) e10) kq5_84 kc_X6_isIn (by decide) hP hK hD hE hS hA hl.1 (Nat.le_of_ble_eq_true rfl) ⟨Nat.zero_le _, Nat.zero_le _⟩ dX6_isDay_35 (fun r9 u9 H locs hw hP hD hS => ?_)
      obtain ⟨rfl, rfl⟩ := hw
      refine bz_eq (tgt := 45) hx hb dX6_isDay_38 (by decide) (fun c11 => ?_) (fun c11 => ?_)
      · have hf := tn hf c11
        refine lv_iconst (v := (0 : Int32)) hx hb dX6_isDay_45 (by decide) ?_
        have hf := Option.some.inj hf
        subst hf
        exact e_z (wf := (fun _ : Unit => ([] : va_W))) hx hb hr hlk () rfl ⟨rfl, rfl⟩ hP hK hD hS dX6_isDay_46
      · have hf := tp hf c11
        refine lv_iconst (v := (1 : Int32)) hx hb dX6_isDay_41 (by decide) ?_
        refine lv_goto (tgt := 46) hx hb dX6_isDay_42 (by decide) ?_
        have hf := Option.some.inj hf
        subst hf
        exact e_z (wf := (fun _ : Unit => ([] : va_W))) hx hb hr hlk () rfl ⟨rfl, rfl⟩ hP hK hD hS dX6_isDay_46
set_option maxRecDepth 100000 in
set_option maxHeartbeats 4000000 in
theorem c_X6_numberFor {l : Launch} {G : Gp} {sz N : Nat} {x0 : Int32} {x1 : Int32} {x2 : Int32} {x3 : Int32} {x4 : Int32} {q : Int32} (hf : f_X6_numberFor N x0 x1 x2 x3 x4 = some q) : Met l yX6_numberFor (Cond.code yX6_numberFor cX6_numberFor 7 (some .int) :: lw_g) ({ frames := 1, cells := 0, slots := 0, locals := 21 } : Room) (va_Pc [.int x0, .int x1, .int x2, .int x3, .int x4] (pw G [] sz)) (va_Qi (fun (r : Int32) (v : Unit) => q = r ∧ () = v) (bw G (fun _ : Unit => ([] : va_W)) (va_A [] sz)) (va_A [] sz)) 0 0 (va_A [] sz) := by
  refine mt (Qc := (fun A => va_Qi (fun (r : Int32) (v : Unit) => q = r ∧ () = v) (bw G (fun _ : Unit => ([] : va_W)) A) A)) (by decide) (Nat.le_of_ble_eq_true rfl) ?_
  intro p e s m below meth c A ls hx hb hr hlk hml hts hown hA hP hK hD hE hS hl
  have hown : s.vm.findClass RX6 = some m.cls := hown
  have hg : ∀ w ∈ lw_g, w.before ([.int x0, .int x1, .int x2, .int x3, .int x4] : List Value).toArray s = true := fun w h => hts w (List.mem_cons_of_mem _ h)
  have hC : CallFix p m c cX6_numberFor 7 s ([.int x0, .int x1, .int x2, .int x3, .int x4] : List Value).toArray (Cond.code yX6_numberFor cX6_numberFor 7 (some .int) :: lw_g) RX6 := ⟨hx, hb, hml, hown, hts⟩
  have hl : lv_has ls 7 [(0, .int x0), (1, .int x1), (2, .int x2), (3, .int x3), (4, .int x4)] := hl
  have lp_35 : ∀ (n : Nat) (x5 : Int32) (x6 : Int32), l_X6_numberFor_35 N x0 x1 x2 x3 x4 n x5 x6 = some q → ∀ (H : Heap) (locs : List Loc) (ls : Array Slot), va_P (gD G) vwCl [] H → va_D A [] → va_S A s.heap H locs → lv_has ls 7 [(0, .int x0), (1, .int x1), (2, .int x2), (3, .int x3), (4, .int x4), (5, .int x5), (6, .int x6)] → W p l e ({ frames := 1, cells := 0, slots := 0, locals := 21 } : Room) s m ([.int x0, .int x1, .int x2, .int x3, .int x4] : List Value).toArray below meth c H locs 0 0 (MQ below (va_Qi (fun (r : Int32) (v : Unit) => q = r ∧ () = v) (bw G (fun _ : Unit => ([] : va_W)) A) A) ([.int x0, .int x1, .int x2, .int x3, .int x4] : List Value).toArray s 0 0 A) (F0 m 35 ls []) := by
    intro n
    induction n with
    | zero => intro x5 x6 hf; rw [l_X6_numberFor_35] at hf; cases hf
    | succ n ih =>
      intro x5 x6 hf H locs ls hP hD hS hl
      rw [l_X6_numberFor_35] at hf
      refine lv_iload hx hb dX6_numberFor_35 (lv_at hl 6 rfl) ?_
      refine lv_iload_n hx hb dX6_numberFor_37 rfl (lv_at hl 1 rfl) ?_
      refine lv_icmp_ge (tgt := 58) hx hb dX6_numberFor_38 (by decide) (fun c2 => ?_) (fun c2 => ?_)
      · have hf := tp hf c2
        refine lv_sipush (v := (1440 : Int32)) hx hb dX6_numberFor_58 (by decide) ?_
        refine lv_iload hx hb dX6_numberFor_61 (lv_at hl 5 rfl) ?_
        refine lv_imul hx hb dX6_numberFor_63 ?_
        refine lv_bipush (v := (60 : Int32)) hx hb dX6_numberFor_64 (by decide) ?_
        refine lv_iload_n hx hb dX6_numberFor_66 rfl (lv_at hl 3 rfl) ?_
        refine lv_imul hx hb dX6_numberFor_67 ?_
        refine lv_iadd hx hb dX6_numberFor_68 ?_
        refine lv_iload hx hb dX6_numberFor_69 (lv_at hl 4 rfl) ?_
        refine lv_iadd hx hb dX6_numberFor_71 ?_
        have hf := Option.some.inj hf
        subst hf
        exact e_i (wf := (fun _ : Unit => ([] : va_W))) hx hb hr hlk () ⟨rfl, rfl⟩ hP hK hD hS dX6_numberFor_72
      · have hf := tn hf c2
        refine lv_iload hx hb dX6_numberFor_41 (lv_at hl 5 rfl) ?_
        refine lv_iload_n hx hb dX6_numberFor_43 rfl (lv_at hl 0 rfl) ?_
        refine lv_iload hx hb dX6_numberFor_44 (lv_at hl 6 rfl) ?_
        obtain ⟨q3, e4, hf⟩ := tbd hf
        refine kSi0 (As := [.int x0, .int x6]) (rest := [.int x5]) hC (c_X6_daysIn (G := G) e4) kq5_109 kc_X6_daysIn (by decide) hP hK hD hE hS hA hl.1 (Nat.le_of_ble_eq_true rfl) ⟨Nat.zero_le _, Nat.zero_le _⟩ dX6_numberFor_46 (fun r9 u9 H locs hw hP hD hS => ?_)
        obtain ⟨rfl, rfl⟩ := hw
        refine lv_iadd hx hb dX6_numberFor_49 ?_
        refine lv_istore (lv' := [(5, .int (x5 + q3)), (0, .int x0), (1, .int x1), (2, .int x2), (3, .int x3), (4, .int x4), (6, .int x6)]) hx hb dX6_numberFor_50 hl (by decide) rfl (fun ls hl => ?_)
        refine lv_iinc (v := (x6 + (1 : Int32))) (lv' := [(6, .int (x6 + (1 : Int32))), (5, .int (x5 + q3)), (0, .int x0), (1, .int x1), (2, .int x2), (3, .int x3), (4, .int x4)]) hx hb dX6_numberFor_52 hl (k := 6) rfl rfl (by decide) rfl (fun ls hl => ?_)
        refine lv_goto (tgt := 35) hx hb dX6_numberFor_55 (by decide) ?_
        exact ih _ _ hf _ _ _ hP hD hS (lv_sub hl [2, 3, 4, 5, 6, 1, 0] rfl)
  have lp_10 : ∀ (n : Nat) (x5 : Int32) (x6 : Int32), l_X6_numberFor_10 N x0 x1 x2 x3 x4 n x5 x6 = some q → ∀ (H : Heap) (locs : List Loc) (ls : Array Slot), va_P (gD G) vwCl [] H → va_D A [] → va_S A s.heap H locs → lv_has ls 7 [(0, .int x0), (1, .int x1), (2, .int x2), (3, .int x3), (4, .int x4), (5, .int x5), (6, .int x6)] → W p l e ({ frames := 1, cells := 0, slots := 0, locals := 21 } : Room) s m ([.int x0, .int x1, .int x2, .int x3, .int x4] : List Value).toArray below meth c H locs 0 0 (MQ below (va_Qi (fun (r : Int32) (v : Unit) => q = r ∧ () = v) (bw G (fun _ : Unit => ([] : va_W)) A) A) ([.int x0, .int x1, .int x2, .int x3, .int x4] : List Value).toArray s 0 0 A) (F0 m 10 ls []) := by
    intro n
    induction n with
    | zero => intro x5 x6 hf; rw [l_X6_numberFor_10] at hf; cases hf
    | succ n ih =>
      intro x5 x6 hf H locs ls hP hD hS hl
      rw [l_X6_numberFor_10] at hf
      refine lv_iload hx hb dX6_numberFor_10 (lv_at hl 6 rfl) ?_
      refine lv_iload_n hx hb dX6_numberFor_12 rfl (lv_at hl 0 rfl) ?_
      refine lv_icmp_ge (tgt := 32) hx hb dX6_numberFor_13 (by decide) (fun c1 => ?_) (fun c1 => ?_)
      · have hf := tp hf c1
        refine lv_iconst (v := (1 : Int32)) hx hb dX6_numberFor_32 (by decide) ?_
        refine lv_istore (lv' := [(6, .int (1 : Int32)), (0, .int x0), (1, .int x1), (2, .int x2), (3, .int x3), (4, .int x4), (5, .int x5)]) hx hb dX6_numberFor_33 hl (by decide) rfl (fun ls hl => ?_)
        exact lp_35 N _ _ hf _ _ _ hP hD hS (lv_sub hl [1, 2, 3, 4, 5, 6, 0] rfl)
      · have hf := tn hf c1
        refine lv_iload hx hb dX6_numberFor_16 (lv_at hl 5 rfl) ?_
        refine lv_iload hx hb dX6_numberFor_18 (lv_at hl 6 rfl) ?_
        obtain ⟨q5, e6, hf⟩ := tbd hf
        refine kSi0 (As := [.int x6]) (rest := [.int x5]) hC (c_X6_daysOf (G := G) e6) kq5_106 kc_X6_daysOf (by decide) hP hK hD hE hS hA hl.1 (Nat.le_of_ble_eq_true rfl) ⟨Nat.zero_le _, Nat.zero_le _⟩ dX6_numberFor_20 (fun r9 u9 H locs hw hP hD hS => ?_)
        obtain ⟨rfl, rfl⟩ := hw
        refine lv_iadd hx hb dX6_numberFor_23 ?_
        refine lv_istore (lv' := [(5, .int (x5 + q5)), (0, .int x0), (1, .int x1), (2, .int x2), (3, .int x3), (4, .int x4), (6, .int x6)]) hx hb dX6_numberFor_24 hl (by decide) rfl (fun ls hl => ?_)
        refine lv_iinc (v := (x6 + (1 : Int32))) (lv' := [(6, .int (x6 + (1 : Int32))), (5, .int (x5 + q5)), (0, .int x0), (1, .int x1), (2, .int x2), (3, .int x3), (4, .int x4)]) hx hb dX6_numberFor_26 hl (k := 6) rfl rfl (by decide) rfl (fun ls hl => ?_)
        refine lv_goto (tgt := 10) hx hb dX6_numberFor_29 (by decide) ?_
        exact ih _ _ hf _ _ _ hP hD hS (lv_sub hl [2, 3, 4, 5, 6, 1, 0] rfl)
  rw [f_X6_numberFor] at hf
  refine lv_iload_n hx hb dX6_numberFor_0 rfl (lv_at hl 2 rfl) ?_
  refine lv_iconst (v := (1 : Int32)) hx hb dX6_numberFor_1 (by decide) ?_
  refine lv_isub hx hb dX6_numberFor_2 ?_
  refine lv_istore (lv' := [(5, .int (x2 - (1 : Int32))), (0, .int x0), (1, .int x1), (2, .int x2), (3, .int x3), (4, .int x4)]) hx hb dX6_numberFor_3 hl (by decide) rfl (fun ls hl => ?_)
  refine lv_sipush (v := (2000 : Int32)) hx hb dX6_numberFor_5 (by decide) ?_
  refine lv_istore (lv' := [(6, .int (2000 : Int32)), (5, .int (x2 - (1 : Int32))), (0, .int x0), (1, .int x1), (2, .int x2), (3, .int x3), (4, .int x4)]) hx hb dX6_numberFor_8 hl (by decide) rfl (fun ls hl => ?_)
  exact lp_10 N _ _ hf _ _ _ hP hD hS (lv_sub hl [2, 3, 4, 5, 6, 1, 0] rfl)
set_option maxRecDepth 100000 in
set_option maxHeartbeats 4000000 in
theorem c_X6_number {l : Launch} {G : Gp} {sz N : Nat} {x1 : Int32} {x2 : Int32} {x3 : Int32} {x4 : Int32} {x5 : Int32} {h0 : Nat} {a0 : Nat → Nat} {u0 : Ob} {q : Int32 × Ob} (hf : f_X6_number N x1 x2 x3 x4 x5 u0 = some q) : Met l yX6_number (Cond.code yX6_number cX6_number 6 (some .int) :: lw_g) ({ frames := 2, cells := 0, slots := 0, locals := 47 } : Room) (va_Pc [.ref h0, .int x1, .int x2, .int x3, .int x4, .int x5] (pw G (wX6 G h0 a0 u0) sz)) (va_Qi (fun (r : Int32) (v : Ob) => q.1 = r ∧ q.2 = v) (bw G (fun v : Ob => (wX6 G h0 a0 v)) (va_A (wX6 G h0 a0 u0) sz)) (va_A (wX6 G h0 a0 u0) sz)) 0 0 (va_A (wX6 G h0 a0 u0) sz) := by
  refine mt (Qc := (fun A => va_Qi (fun (r : Int32) (v : Ob) => q.1 = r ∧ q.2 = v) (bw G (fun v : Ob => (wX6 G h0 a0 v)) A) A)) (by decide) (Nat.le_of_ble_eq_true rfl) ?_
  intro p e s m below meth c A ls hx hb hr hlk hml hts hown hA hP hK hD hE hS hl
  have hown : s.vm.findClass RX6 = some m.cls := hown
  have hg : ∀ w ∈ lw_g, w.before ([.ref h0, .int x1, .int x2, .int x3, .int x4, .int x5] : List Value).toArray s = true := fun w h => hts w (List.mem_cons_of_mem _ h)
  have hC : CallFix p m c cX6_number 6 s ([.ref h0, .int x1, .int x2, .int x3, .int x4, .int x5] : List Value).toArray (Cond.code yX6_number cX6_number 6 (some .int) :: lw_g) RX6 := ⟨hx, hb, hml, hown, hts⟩
  have hl : lv_has ls 6 [(0, .ref h0), (1, .int x1), (2, .int x2), (3, .int x3), (4, .int x4), (5, .int x5)] := hl
  rw [f_X6_number] at hf
  refine lv_aload_n hx hb dX6_number_0 rfl (lv_at hl 0 rfl) ?_
  refine lv_iload_n hx hb dX6_number_1 rfl (lv_at hl 1 rfl) ?_
  refine lv_iload_n hx hb dX6_number_2 rfl (lv_at hl 2 rfl) ?_
  refine lv_iload_n hx hb dX6_number_3 rfl (lv_at hl 3 rfl) ?_
  obtain ⟨q1, e2, hf⟩ := tbd hf
  refine kSi0 (As := [.int x1, .int x2, .int x3]) (rest := [.ref h0]) hC (c_X6_isDay (G := G) e2) kq5_116 kc_X6_isDay (by decide) hP hK hD hE hS hA hl.1 (Nat.le_of_ble_eq_true rfl) ⟨Nat.zero_le _, Nat.zero_le _⟩ dX6_number_4 (fun r9 u9 H locs hw hP hD hS => ?_)
  obtain ⟨rfl, rfl⟩ := hw
  refine bz_eq (tgt := 40) hx hb dX6_number_7 (by decide) (fun c3 => ?_) (fun c3 => ?_)
  · have hf := tn hf c3
    refine lv_iconst (v := (1 : Int32)) hx hb dX6_number_40 (by decide) ?_
    refine va_put (D := gD G) (ci := 4) (v := .int (1 : Int32)) (ty := .int) (C := RX6) (T := TX6) (N := 22) hx hb hg kl_X6 tyX6 tyX6_ok nmX6 hown hK hP hD hS 0 rfl rfl 7 (by decide) (hg _ kq5_12) (fun _ h9 => h9) rfl (by decide +kernel) rfl rfl (Nat.le_of_ble_eq_true rfl) dX6_number_41 (fun H locs hP hD hS => ?_)
    have hP : va_P (gD G) vwCl (wX6 G h0 a0 (oi u0 7 (1 : Int32))) H := hP
    have hD : va_D A (wX6 G h0 a0 (oi u0 7 (1 : Int32))) := hD
    refine lv_aload_n hx hb dX6_number_44 rfl (lv_at hl 0 rfl) ?_
    refine va_get (D := gD G) (ci := 4) (v := .int (1 : Int32)) (C := RX6) (T := TX6) (N := 22) hx hb hg kl_X6 hown hK hP 0 rfl rfl 7 (by decide) (hg _ kq5_12) (fun _ h9 => h9) rfl dX6_number_45 ?_
    refine lv_if_le (tgt := 55) hx hb dX6_number_48 (by decide) (fun c4 => ?_) (fun c4 => ?_)
    · exact absurd c4 (by decide)
    refine lv_iconst (v := (0 : Int32)) hx hb dX6_number_51 (by decide) ?_
    refine lv_goto (tgt := 65) hx hb dX6_number_52 (by decide) ?_
    have hf := Option.some.inj hf
    subst hf
    exact e_i (wf := (fun v : Ob => (wX6 G h0 a0 v))) hx hb hr hlk (oi u0 7 (1 : Int32)) ⟨rfl, rfl⟩ hP hK hD hS dX6_number_65
  · have hf := tp hf c3
    refine lv_iload hx hb dX6_number_10 (lv_at hl 4 rfl) ?_
    refine lv_i2l (v := x4.toInt64) hx hb dX6_number_12 rfl ?_
    refine lv_lconst (v := (0 : Int64)) hx hb dX6_number_13 (by decide) ?_
    refine lv_ldc2 hx hb hown (hg _ kq5_122) dX6_number_14 ?_
    obtain ⟨q5, e6, hf⟩ := tbd hf
    refine kSi0 (As := [.long x4.toInt64, .long (0 : Int64), .long (23 : Int64)]) (rest := [.ref h0]) hC (c_X6_isIn (G := G) e6) kq5_84 kc_X6_isIn (by decide) hP hK hD hE hS hA hl.1 (Nat.le_of_ble_eq_true rfl) ⟨Nat.zero_le _, Nat.zero_le _⟩ dX6_number_17 (fun r9 u9 H locs hw hP hD hS => ?_)
    obtain ⟨rfl, rfl⟩ := hw
    refine bz_eq (tgt := 40) hx hb dX6_number_20 (by decide) (fun c7 => ?_) (fun c7 => ?_)
    · have hf := tn hf c7
      refine lv_iconst (v := (1 : Int32)) hx hb dX6_number_40 (by decide) ?_
      refine va_put (D := gD G) (ci := 4) (v := .int (1 : Int32)) (ty := .int) (C := RX6) (T := TX6) (N := 22) hx hb hg kl_X6 tyX6 tyX6_ok nmX6 hown hK hP hD hS 0 rfl rfl 7 (by decide) (hg _ kq5_12) (fun _ h9 => h9) rfl (by decide +kernel) rfl rfl (Nat.le_of_ble_eq_true rfl) dX6_number_41 (fun H locs hP hD hS => ?_)
      have hP : va_P (gD G) vwCl (wX6 G h0 a0 (oi u0 7 (1 : Int32))) H := hP
      have hD : va_D A (wX6 G h0 a0 (oi u0 7 (1 : Int32))) := hD
      refine lv_aload_n hx hb dX6_number_44 rfl (lv_at hl 0 rfl) ?_
      refine va_get (D := gD G) (ci := 4) (v := .int (1 : Int32)) (C := RX6) (T := TX6) (N := 22) hx hb hg kl_X6 hown hK hP 0 rfl rfl 7 (by decide) (hg _ kq5_12) (fun _ h9 => h9) rfl dX6_number_45 ?_
      refine lv_if_le (tgt := 55) hx hb dX6_number_48 (by decide) (fun c8 => ?_) (fun c8 => ?_)
      · exact absurd c8 (by decide)
      refine lv_iconst (v := (0 : Int32)) hx hb dX6_number_51 (by decide) ?_
      refine lv_goto (tgt := 65) hx hb dX6_number_52 (by decide) ?_
      have hf := Option.some.inj hf
      subst hf
      exact e_i (wf := (fun v : Ob => (wX6 G h0 a0 v))) hx hb hr hlk (oi u0 7 (1 : Int32)) ⟨rfl, rfl⟩ hP hK hD hS dX6_number_65
    · have hf := tp hf c7
      refine lv_iload hx hb dX6_number_23 (lv_at hl 5 rfl) ?_
      refine lv_i2l (v := x5.toInt64) hx hb dX6_number_25 rfl ?_
      refine lv_lconst (v := (0 : Int64)) hx hb dX6_number_26 (by decide) ?_
      refine lv_ldc2 hx hb hown (hg _ kq5_123) dX6_number_27 ?_
      obtain ⟨q9, e10, hf⟩ := tbd hf
      refine kSi0 (As := [.long x5.toInt64, .long (0 : Int64), .long (59 : Int64)]) (rest := [.ref h0]) hC (c_X6_isIn (G := G) e10) kq5_84 kc_X6_isIn (by decide) hP hK hD hE hS hA hl.1 (Nat.le_of_ble_eq_true rfl) ⟨Nat.zero_le _, Nat.zero_le _⟩ dX6_number_30 (fun r9 u9 H locs hw hP hD hS => ?_)
      obtain ⟨rfl, rfl⟩ := hw
      refine bz_eq (tgt := 40) hx hb dX6_number_33 (by decide) (fun c11 => ?_) (fun c11 => ?_)
      · have hf := tn hf c11
        refine lv_iconst (v := (1 : Int32)) hx hb dX6_number_40 (by decide) ?_
        refine va_put (D := gD G) (ci := 4) (v := .int (1 : Int32)) (ty := .int) (C := RX6) (T := TX6) (N := 22) hx hb hg kl_X6 tyX6 tyX6_ok nmX6 hown hK hP hD hS 0 rfl rfl 7 (by decide) (hg _ kq5_12) (fun _ h9 => h9) rfl (by decide +kernel) rfl rfl (Nat.le_of_ble_eq_true rfl) dX6_number_41 (fun H locs hP hD hS => ?_)
        have hP : va_P (gD G) vwCl (wX6 G h0 a0 (oi u0 7 (1 : Int32))) H := hP
        have hD : va_D A (wX6 G h0 a0 (oi u0 7 (1 : Int32))) := hD
        refine lv_aload_n hx hb dX6_number_44 rfl (lv_at hl 0 rfl) ?_
        refine va_get (D := gD G) (ci := 4) (v := .int (1 : Int32)) (C := RX6) (T := TX6) (N := 22) hx hb hg kl_X6 hown hK hP 0 rfl rfl 7 (by decide) (hg _ kq5_12) (fun _ h9 => h9) rfl dX6_number_45 ?_
        refine lv_if_le (tgt := 55) hx hb dX6_number_48 (by decide) (fun c12 => ?_) (fun c12 => ?_)
        · exact absurd c12 (by decide)
        refine lv_iconst (v := (0 : Int32)) hx hb dX6_number_51 (by decide) ?_
        refine lv_goto (tgt := 65) hx hb dX6_number_52 (by decide) ?_
        have hf := Option.some.inj hf
        subst hf
        exact e_i (wf := (fun v : Ob => (wX6 G h0 a0 v))) hx hb hr hlk (oi u0 7 (1 : Int32)) ⟨rfl, rfl⟩ hP hK hD hS dX6_number_65
      · have hf := tp hf c11
        refine lv_iconst (v := (0 : Int32)) hx hb dX6_number_36 (by decide) ?_
        refine lv_goto (tgt := 41) hx hb dX6_number_37 (by decide) ?_
        refine va_put (D := gD G) (ci := 4) (v := .int (0 : Int32)) (ty := .int) (C := RX6) (T := TX6) (N := 22) hx hb hg kl_X6 tyX6 tyX6_ok nmX6 hown hK hP hD hS 0 rfl rfl 7 (by decide) (hg _ kq5_12) (fun _ h9 => h9) rfl (by decide +kernel) rfl rfl (Nat.le_of_ble_eq_true rfl) dX6_number_41 (fun H locs hP hD hS => ?_)
        have hP : va_P (gD G) vwCl (wX6 G h0 a0 (oi u0 7 (0 : Int32))) H := hP
        have hD : va_D A (wX6 G h0 a0 (oi u0 7 (0 : Int32))) := hD
        refine lv_aload_n hx hb dX6_number_44 rfl (lv_at hl 0 rfl) ?_
        refine va_get (D := gD G) (ci := 4) (v := .int (0 : Int32)) (C := RX6) (T := TX6) (N := 22) hx hb hg kl_X6 hown hK hP 0 rfl rfl 7 (by decide) (hg _ kq5_12) (fun _ h9 => h9) rfl dX6_number_45 ?_
        refine lv_if_le (tgt := 55) hx hb dX6_number_48 (by decide) (fun c13 => ?_) (fun c13 => ?_)
        rotate_left
        · exact absurd c13 (by decide)
        refine lv_iload_n hx hb dX6_number_55 rfl (lv_at hl 1 rfl) ?_
        refine lv_iload_n hx hb dX6_number_56 rfl (lv_at hl 2 rfl) ?_
        refine lv_iload_n hx hb dX6_number_57 rfl (lv_at hl 3 rfl) ?_
        refine lv_iload hx hb dX6_number_58 (lv_at hl 4 rfl) ?_
        refine lv_iload hx hb dX6_number_60 (lv_at hl 5 rfl) ?_
        obtain ⟨q14, e15, hf⟩ := tbd hf
        refine kSi0 (As := [.int x1, .int x2, .int x3, .int x4, .int x5]) (rest := []) hC (c_X6_numberFor (G := G) e15) kq5_124 kc_X6_numberFor (by decide) hP hK hD hE hS hA hl.1 (Nat.le_of_ble_eq_true rfl) ⟨Nat.zero_le _, Nat.zero_le _⟩ dX6_number_62 (fun r9 u9 H locs hw hP hD hS => ?_)
        obtain ⟨rfl, rfl⟩ := hw
        have hf := Option.some.inj hf
        subst hf
        exact e_i (wf := (fun v : Ob => (wX6 G h0 a0 v))) hx hb hr hlk (oi u0 7 (0 : Int32)) ⟨rfl, rfl⟩ hP hK hD hS dX6_number_65
set_option maxRecDepth 100000 in
set_option maxHeartbeats 4000000 in
theorem c_X6_digits {l : Launch} {G : Gp} {sz N : Nat} {x0 : Int32} {x1 : Int32} {q : Int64} (hf : f_X6_digits N x0 x1 = some q) : Met l yX6_digits (Cond.code yX6_digits cX6_digits 2 (some .long) :: lw_g) ({ frames := 0, cells := 0, slots := 0, locals := 0 } : Room) (va_Pc [.int x0, .int x1] (pw G [] sz)) (va_Ql (fun (r : Int64) (v : Unit) => q = r ∧ () = v) (bw G (fun _ : Unit => ([] : va_W)) (va_A [] sz)) (va_A [] sz)) 0 0 (va_A [] sz) := by
  refine mt (Qc := (fun A => va_Ql (fun (r : Int64) (v : Unit) => q = r ∧ () = v) (bw G (fun _ : Unit => ([] : va_W)) A) A)) (by decide) (Nat.le_of_ble_eq_true rfl) ?_
  intro p e s m below meth c A ls hx hb hr hlk hml hts hown hA hP hK hD hE hS hl
  have hown : s.vm.findClass RX6 = some m.cls := hown
  have hg : ∀ w ∈ lw_g, w.before ([.int x0, .int x1] : List Value).toArray s = true := fun w h => hts w (List.mem_cons_of_mem _ h)
  have hC : CallFix p m c cX6_digits 2 s ([.int x0, .int x1] : List Value).toArray (Cond.code yX6_digits cX6_digits 2 (some .long) :: lw_g) RX6 := ⟨hx, hb, hml, hown, hts⟩
  have hl : lv_has ls 2 [(0, .int x0), (1, .int x1)] := hl
  rw [f_X6_digits] at hf
  refine lv_iload_n hx hb dX6_digits_0 rfl (lv_at hl 0 rfl) ?_
  refine lv_bipush (v := (10 : Int32)) hx hb dX6_digits_1 (by decide) ?_
  refine lv_irem hx hb dX6_digits_3 (by decide) ?_
  refine lv_iload_n hx hb dX6_digits_4 rfl (lv_at hl 0 rfl) ?_
  refine lv_bipush (v := (10 : Int32)) hx hb dX6_digits_5 (by decide) ?_
  refine lv_idiv hx hb dX6_digits_7 (by decide) ?_
  refine lv_iconst (v := (4 : Int32)) hx hb dX6_digits_8 (by decide) ?_
  refine lv_ishl hx hb dX6_digits_9 ?_
  refine lv_ior hx hb dX6_digits_10 ?_
  refine lv_i2l (v := ((x0 - x0 / (10 : Int32) * (10 : Int32)) ||| ((x0 / (10 : Int32)) <<< ((4 : Int32) &&& 31))).toInt64) hx hb dX6_digits_11 rfl ?_
  refine lv_iload_n hx hb dX6_digits_12 rfl (lv_at hl 1 rfl) ?_
  refine lv_lshl (v := (jshl ((x0 - x0 / (10 : Int32) * (10 : Int32)) ||| ((x0 / (10 : Int32)) <<< ((4 : Int32) &&& 31))).toInt64 x1)) hx hb dX6_digits_13 rfl ?_
  have hf := Option.some.inj hf
  subst hf
  exact e_l (wf := (fun _ : Unit => ([] : va_W))) hx hb hr hlk () ⟨rfl, rfl⟩ hP hK hD hS dX6_digits_14
set_option maxRecDepth 100000 in
set_option maxHeartbeats 4000000 in
theorem c_X6_parity {l : Launch} {G : Gp} {sz N : Nat} {x0 : Int64} {x2 : Int32} {x3 : Int32} {q : Int64} (hf : f_X6_parity N x0 x2 x3 = some q) : Met l yX6_parity (Cond.code yX6_parity cX6_parity 4 (some .long) :: lw_g) ({ frames := 2, cells := 0, slots := 0, locals := 47 } : Room) (va_Pc [.long x0, .int x2, .int x3] (pw G [] sz)) (va_Ql (fun (r : Int64) (v : Unit) => q = r ∧ () = v) (bw G (fun _ : Unit => ([] : va_W)) (va_A [] sz)) (va_A [] sz)) 0 0 (va_A [] sz) := by
  refine mt (Qc := (fun A => va_Ql (fun (r : Int64) (v : Unit) => q = r ∧ () = v) (bw G (fun _ : Unit => ([] : va_W)) A) A)) (by decide) (Nat.le_of_ble_eq_true rfl) ?_
  intro p e s m below meth c A ls hx hb hr hlk hml hts hown hA hP hK hD hE hS hl
  have hown : s.vm.findClass RX6 = some m.cls := hown
  have hg : ∀ w ∈ lw_g, w.before ([.long x0, .int x2, .int x3] : List Value).toArray s = true := fun w h => hts w (List.mem_cons_of_mem _ h)
  have hC : CallFix p m c cX6_parity 4 s ([.long x0, .int x2, .int x3] : List Value).toArray (Cond.code yX6_parity cX6_parity 4 (some .long) :: lw_g) RX6 := ⟨hx, hb, hml, hown, hts⟩
  have hl : lv_has ls 4 [(0, .long x0), (2, .int x2), (3, .int x3)] := hl
  rw [f_X6_parity] at hf
  refine lv_lload_n hx hb dX6_parity_0 rfl (lv_at hl 0 rfl) ?_
  refine lv_iload_n hx hb dX6_parity_1 rfl (lv_at hl 1 rfl) ?_
  refine lv_iload_n hx hb dX6_parity_2 rfl (lv_at hl 2 rfl) ?_
  refine lv_iconst (v := (1 : Int32)) hx hb dX6_parity_3 (by decide) ?_
  refine lv_isub hx hb dX6_parity_4 ?_
  obtain ⟨q1, e2, hf⟩ := tbd hf
  refine kSi0 (As := [.long x0, .int x2, .int (x3 - (1 : Int32))]) (rest := []) hC (c_X6_bits (G := G) e2) kq5_142 kc_X6_bits (by decide) hP hK hD hE hS hA hl.1 (Nat.le_of_ble_eq_true rfl) ⟨Nat.zero_le _, Nat.zero_le _⟩ dX6_parity_5 (fun r9 u9 H locs hw hP hD hS => ?_)
  obtain ⟨rfl, rfl⟩ := hw
  refine lv_iconst (v := (2 : Int32)) hx hb dX6_parity_8 (by decide) ?_
  refine lv_irem hx hb dX6_parity_9 (by decide) ?_
  refine lv_iconst (v := (1 : Int32)) hx hb dX6_parity_10 (by decide) ?_
  refine lv_icmp_ne (tgt := 20) hx hb dX6_parity_11 (by decide) (fun c3 => ?_) (fun c3 => ?_)
  · have hf := tn hf c3
    refine lv_lconst (v := (0 : Int64)) hx hb dX6_parity_20 (by decide) ?_
    have hf := Option.some.inj hf
    subst hf
    exact e_l (wf := (fun _ : Unit => ([] : va_W))) hx hb hr hlk () ⟨rfl, rfl⟩ hP hK hD hS dX6_parity_21
  · have hf := tp hf c3
    refine lv_lconst (v := (1 : Int64)) hx hb dX6_parity_14 (by decide) ?_
    refine lv_iload_n hx hb dX6_parity_15 rfl (lv_at hl 2 rfl) ?_
    refine lv_lshl (v := (jshl (1 : Int64) x3)) hx hb dX6_parity_16 rfl ?_
    refine lv_goto (tgt := 21) hx hb dX6_parity_17 (by decide) ?_
    have hf := Option.some.inj hf
    subst hf
    exact e_l (wf := (fun _ : Unit => ([] : va_W))) hx hb hr hlk () ⟨rfl, rfl⟩ hP hK hD hS dX6_parity_21
set_option maxRecDepth 100000 in
set_option maxHeartbeats 4000000 in
theorem c_X6_codeOf {l : Launch} {G : Gp} {sz N : Nat} {x0 : Int32} {x1 : Bool} {q : Int64} (hf : f_X6_codeOf N x0 x1 = some q) : Met l yX6_codeOf (Cond.code yX6_codeOf cX6_codeOf 4 (some .long) :: lw_g) ({ frames := 3, cells := 0, slots := 0, locals := 70 } : Room) (va_Pc [.int x0, .int (bI x1)] (pw G [] sz)) (va_Ql (fun (r : Int64) (v : Unit) => q = r ∧ () = v) (bw G (fun _ : Unit => ([] : va_W)) (va_A [] sz)) (va_A [] sz)) 0 0 (va_A [] sz) := by
  refine mt (Qc := (fun A => va_Ql (fun (r : Int64) (v : Unit) => q = r ∧ () = v) (bw G (fun _ : Unit => ([] : va_W)) A) A)) (by decide) (Nat.le_of_ble_eq_true rfl) ?_
  intro p e s m below meth c A ls hx hb hr hlk hml hts hown hA hP hK hD hE hS hl
  have hown : s.vm.findClass RX6 = some m.cls := hown
  have hg : ∀ w ∈ lw_g, w.before ([.int x0, .int (bI x1)] : List Value).toArray s = true := fun w h => hts w (List.mem_cons_of_mem _ h)
  have hC : CallFix p m c cX6_codeOf 4 s ([.int x0, .int (bI x1)] : List Value).toArray (Cond.code yX6_codeOf cX6_codeOf 4 (some .long) :: lw_g) RX6 := ⟨hx, hb, hml, hown, hts⟩
  have hl : lv_has ls 4 [(0, .int x0), (1, .int (bI x1))] := hl
  rw [f_X6_codeOf] at hf
  refine lv_ldc2 hx hb hown (hg _ kq5_134) dX6_codeOf_0 ?_
  refine lv_iload_n hx hb dX6_codeOf_3 rfl (lv_at hl 1 rfl) ?_
  refine bz_eq (tgt := 13) hx hb dX6_codeOf_4 (by decide) (fun c1 => ?_) (fun c1 => ?_)
  · have hf := tn hf c1
    refine lv_lconst (v := (0 : Int64)) hx hb dX6_codeOf_13 (by decide) ?_
    refine lv_lor hx hb dX6_codeOf_14 ?_
    refine lv_lstore_n (lv' := [(2, .long ((1048576 : Int64) ||| (0 : Int64))), (0, .int x0), (1, .int (bI x1))]) hx hb dX6_codeOf_15 rfl hl (by decide) rfl (fun ls hl => ?_)
    refine lv_lload_n hx hb dX6_codeOf_16 rfl (lv_at hl 0 rfl) ?_
    refine lv_iload_n hx hb dX6_codeOf_17 rfl (lv_at hl 1 rfl) ?_
    refine lv_iconst (v := (4 : Int32)) hx hb dX6_codeOf_18 (by decide) ?_
    obtain ⟨q2, e3, hf⟩ := tbd hf
    refine kSi0 (As := [.int x0, .int (4 : Int32)]) (rest := [.long ((1048576 : Int64) ||| (0 : Int64))]) hC (c_X6_partOf (G := G) e3) kq5_103 kc_X6_partOf (by decide) hP hK hD hE hS hA hl.1 (Nat.le_of_ble_eq_true rfl) ⟨Nat.zero_le _, Nat.zero_le _⟩ dX6_codeOf_19 (fun r9 u9 H locs hw hP hD hS => ?_)
    obtain ⟨rfl, rfl⟩ := hw
    refine lv_bipush (v := (21 : Int32)) hx hb dX6_codeOf_22 (by decide) ?_
    obtain ⟨q4, e5, hf⟩ := tbd hf
    refine kSl0 (As := [.int q2, .int (21 : Int32)]) (rest := [.long ((1048576 : Int64) ||| (0 : Int64))]) hC (c_X6_digits (G := G) e5) kq5_136 kc_X6_digits (by decide) hP hK hD hE hS hA hl.1 (Nat.le_of_ble_eq_true rfl) ⟨Nat.zero_le _, Nat.zero_le _⟩ dX6_codeOf_24 (fun r9 u9 H locs hw hP hD hS => ?_)
    obtain ⟨rfl, rfl⟩ := hw
    refine lv_iload_n hx hb dX6_codeOf_27 rfl (lv_at hl 1 rfl) ?_
    refine lv_iconst (v := (3 : Int32)) hx hb dX6_codeOf_28 (by decide) ?_
    obtain ⟨q6, e7, hf⟩ := tbd hf
    refine kSi0 (As := [.int x0, .int (3 : Int32)]) (rest := [.long q4, .long ((1048576 : Int64) ||| (0 : Int64))]) hC (c_X6_partOf (G := G) e7) kq5_103 kc_X6_partOf (by decide) hP hK hD hE hS hA hl.1 (Nat.le_of_ble_eq_true rfl) ⟨Nat.zero_le _, Nat.zero_le _⟩ dX6_codeOf_29 (fun r9 u9 H locs hw hP hD hS => ?_)
    obtain ⟨rfl, rfl⟩ := hw
    refine lv_bipush (v := (29 : Int32)) hx hb dX6_codeOf_32 (by decide) ?_
    obtain ⟨q8, e9, hf⟩ := tbd hf
    refine kSl0 (As := [.int q6, .int (29 : Int32)]) (rest := [.long q4, .long ((1048576 : Int64) ||| (0 : Int64))]) hC (c_X6_digits (G := G) e9) kq5_136 kc_X6_digits (by decide) hP hK hD hE hS hA hl.1 (Nat.le_of_ble_eq_true rfl) ⟨Nat.zero_le _, Nat.zero_le _⟩ dX6_codeOf_34 (fun r9 u9 H locs hw hP hD hS => ?_)
    obtain ⟨rfl, rfl⟩ := hw
    refine lv_lor hx hb dX6_codeOf_37 ?_
    refine lv_iload_n hx hb dX6_codeOf_38 rfl (lv_at hl 1 rfl) ?_
    refine lv_iconst (v := (2 : Int32)) hx hb dX6_codeOf_39 (by decide) ?_
    obtain ⟨q10, e11, hf⟩ := tbd hf
    refine kSi0 (As := [.int x0, .int (2 : Int32)]) (rest := [.long (q4 ||| q8), .long ((1048576 : Int64) ||| (0 : Int64))]) hC (c_X6_partOf (G := G) e11) kq5_103 kc_X6_partOf (by decide) hP hK hD hE hS hA hl.1 (Nat.le_of_ble_eq_true rfl) ⟨Nat.zero_le _, Nat.zero_le _⟩ dX6_codeOf_40 (fun r9 u9 H locs hw hP hD hS => ?_)
    obtain ⟨rfl, rfl⟩ := hw
    refine lv_bipush (v := (36 : Int32)) hx hb dX6_codeOf_43 (by decide) ?_
    obtain ⟨q12, e13, hf⟩ := tbd hf
    refine kSl0 (As := [.int q10, .int (36 : Int32)]) (rest := [.long (q4 ||| q8), .long ((1048576 : Int64) ||| (0 : Int64))]) hC (c_X6_digits (G := G) e13) kq5_136 kc_X6_digits (by decide) hP hK hD hE hS hA hl.1 (Nat.le_of_ble_eq_true rfl) ⟨Nat.zero_le _, Nat.zero_le _⟩ dX6_codeOf_45 (fun r9 u9 H locs hw hP hD hS => ?_)
    obtain ⟨rfl, rfl⟩ := hw
    refine lv_lor hx hb dX6_codeOf_48 ?_
    refine lv_iload_n hx hb dX6_codeOf_49 rfl (lv_at hl 1 rfl) ?_
    refine lv_iconst (v := (5 : Int32)) hx hb dX6_codeOf_50 (by decide) ?_
    obtain ⟨q14, e15, hf⟩ := tbd hf
    refine kSi0 (As := [.int x0, .int (5 : Int32)]) (rest := [.long ((q4 ||| q8) ||| q12), .long ((1048576 : Int64) ||| (0 : Int64))]) hC (c_X6_partOf (G := G) e15) kq5_103 kc_X6_partOf (by decide) hP hK hD hE hS hA hl.1 (Nat.le_of_ble_eq_true rfl) ⟨Nat.zero_le _, Nat.zero_le _⟩ dX6_codeOf_51 (fun r9 u9 H locs hw hP hD hS => ?_)
    obtain ⟨rfl, rfl⟩ := hw
    refine lv_bipush (v := (42 : Int32)) hx hb dX6_codeOf_54 (by decide) ?_
    obtain ⟨q16, e17, hf⟩ := tbd hf
    refine kSl0 (As := [.int q14, .int (42 : Int32)]) (rest := [.long ((q4 ||| q8) ||| q12), .long ((1048576 : Int64) ||| (0 : Int64))]) hC (c_X6_digits (G := G) e17) kq5_136 kc_X6_digits (by decide) hP hK hD hE hS hA hl.1 (Nat.le_of_ble_eq_true rfl) ⟨Nat.zero_le _, Nat.zero_le _⟩ dX6_codeOf_56 (fun r9 u9 H locs hw hP hD hS => ?_)
    obtain ⟨rfl, rfl⟩ := hw
    refine lv_lor hx hb dX6_codeOf_59 ?_
    refine lv_iload_n hx hb dX6_codeOf_60 rfl (lv_at hl 1 rfl) ?_
    refine lv_iconst (v := (1 : Int32)) hx hb dX6_codeOf_61 (by decide) ?_
    obtain ⟨q18, e19, hf⟩ := tbd hf
    refine kSi0 (As := [.int x0, .int (1 : Int32)]) (rest := [.long (((q4 ||| q8) ||| q12) ||| q16), .long ((1048576 : Int64) ||| (0 : Int64))]) hC (c_X6_partOf (G := G) e19) kq5_103 kc_X6_partOf (by decide) hP hK hD hE hS hA hl.1 (Nat.le_of_ble_eq_true rfl) ⟨Nat.zero_le _, Nat.zero_le _⟩ dX6_codeOf_62 (fun r9 u9 H locs hw hP hD hS => ?_)
    obtain ⟨rfl, rfl⟩ := hw
    refine lv_bipush (v := (45 : Int32)) hx hb dX6_codeOf_65 (by decide) ?_
    obtain ⟨q20, e21, hf⟩ := tbd hf
    refine kSl0 (As := [.int q18, .int (45 : Int32)]) (rest := [.long (((q4 ||| q8) ||| q12) ||| q16), .long ((1048576 : Int64) ||| (0 : Int64))]) hC (c_X6_digits (G := G) e21) kq5_136 kc_X6_digits (by decide) hP hK hD hE hS hA hl.1 (Nat.le_of_ble_eq_true rfl) ⟨Nat.zero_le _, Nat.zero_le _⟩ dX6_codeOf_67 (fun r9 u9 H locs hw hP hD hS => ?_)
    obtain ⟨rfl, rfl⟩ := hw
    refine lv_lor hx hb dX6_codeOf_70 ?_
    refine lv_iload_n hx hb dX6_codeOf_71 rfl (lv_at hl 1 rfl) ?_
    refine lv_iconst (v := (0 : Int32)) hx hb dX6_codeOf_72 (by decide) ?_
    obtain ⟨q22, e23, hf⟩ := tbd hf
    refine kSi0 (As := [.int x0, .int (0 : Int32)]) (rest := [.long ((((q4 ||| q8) ||| q12) ||| q16) ||| q20), .long ((1048576 : Int64) ||| (0 : Int64))]) hC (c_X6_partOf (G := G) e23) kq5_103 kc_X6_partOf (by decide) hP hK hD hE hS hA hl.1 (Nat.le_of_ble_eq_true rfl) ⟨Nat.zero_le _, Nat.zero_le _⟩ dX6_codeOf_73 (fun r9 u9 H locs hw hP hD hS => ?_)
    obtain ⟨rfl, rfl⟩ := hw
    refine lv_sipush (v := (2000 : Int32)) hx hb dX6_codeOf_76 (by decide) ?_
    refine lv_isub hx hb dX6_codeOf_79 ?_
    refine lv_bipush (v := (50 : Int32)) hx hb dX6_codeOf_80 (by decide) ?_
    obtain ⟨q24, e25, hf⟩ := tbd hf
    refine kSl0 (As := [.int (q22 - (2000 : Int32)), .int (50 : Int32)]) (rest := [.long ((((q4 ||| q8) ||| q12) ||| q16) ||| q20), .long ((1048576 : Int64) ||| (0 : Int64))]) hC (c_X6_digits (G := G) e25) kq5_136 kc_X6_digits (by decide) hP hK hD hE hS hA hl.1 (Nat.le_of_ble_eq_true rfl) ⟨Nat.zero_le _, Nat.zero_le _⟩ dX6_codeOf_82 (fun r9 u9 H locs hw hP hD hS => ?_)
    obtain ⟨rfl, rfl⟩ := hw
    refine lv_lor hx hb dX6_codeOf_85 ?_
    refine lv_lor hx hb dX6_codeOf_86 ?_
    refine lv_lstore_n (lv' := [(2, .long (((1048576 : Int64) ||| (0 : Int64)) ||| (((((q4 ||| q8) ||| q12) ||| q16) ||| q20) ||| q24))), (0, .int x0), (1, .int (bI x1))]) hx hb dX6_codeOf_87 rfl hl (by decide) rfl (fun ls hl => ?_)
    refine lv_lload_n hx hb dX6_codeOf_88 rfl (lv_at hl 0 rfl) ?_
    refine lv_lload_n hx hb dX6_codeOf_89 rfl (lv_at hl 0 rfl) ?_
    refine lv_bipush (v := (21 : Int32)) hx hb dX6_codeOf_90 (by decide) ?_
    refine lv_bipush (v := (28 : Int32)) hx hb dX6_codeOf_92 (by decide) ?_
    obtain ⟨q26, e27, hf⟩ := tbd hf
    refine kSl0 (As := [.long (((1048576 : Int64) ||| (0 : Int64)) ||| (((((q4 ||| q8) ||| q12) ||| q16) ||| q20) ||| q24)), .int (21 : Int32), .int (28 : Int32)]) (rest := [.long (((1048576 : Int64) ||| (0 : Int64)) ||| (((((q4 ||| q8) ||| q12) ||| q16) ||| q20) ||| q24))]) hC (c_X6_parity (G := G) e27) kq5_139 kc_X6_parity (by decide) hP hK hD hE hS hA hl.1 (Nat.le_of_ble_eq_true rfl) ⟨Nat.zero_le _, Nat.zero_le _⟩ dX6_codeOf_94 (fun r9 u9 H locs hw hP hD hS => ?_)
    obtain ⟨rfl, rfl⟩ := hw
    refine lv_lor hx hb dX6_codeOf_97 ?_
    refine lv_lload_n hx hb dX6_codeOf_98 rfl (lv_at hl 0 rfl) ?_
    refine lv_bipush (v := (29 : Int32)) hx hb dX6_codeOf_99 (by decide) ?_
    refine lv_bipush (v := (35 : Int32)) hx hb dX6_codeOf_101 (by decide) ?_
    obtain ⟨q28, e29, hf⟩ := tbd hf
    refine kSl0 (As := [.long (((1048576 : Int64) ||| (0 : Int64)) ||| (((((q4 ||| q8) ||| q12) ||| q16) ||| q20) ||| q24)), .int (29 : Int32), .int (35 : Int32)]) (rest := [.long ((((1048576 : Int64) ||| (0 : Int64)) ||| (((((q4 ||| q8) ||| q12) ||| q16) ||| q20) ||| q24)) ||| q26)]) hC (c_X6_parity (G := G) e29) kq5_139 kc_X6_parity (by decide) hP hK hD hE hS hA hl.1 (Nat.le_of_ble_eq_true rfl) ⟨Nat.zero_le _, Nat.zero_le _⟩ dX6_codeOf_103 (fun r9 u9 H locs hw hP hD hS => ?_)
    obtain ⟨rfl, rfl⟩ := hw
    refine lv_lor hx hb dX6_codeOf_106 ?_
    refine lv_lload_n hx hb dX6_codeOf_107 rfl (lv_at hl 0 rfl) ?_
    refine lv_bipush (v := (36 : Int32)) hx hb dX6_codeOf_108 (by decide) ?_
    refine lv_bipush (v := (58 : Int32)) hx hb dX6_codeOf_110 (by decide) ?_
    obtain ⟨q30, e31, hf⟩ := tbd hf
    refine kSl0 (As := [.long (((1048576 : Int64) ||| (0 : Int64)) ||| (((((q4 ||| q8) ||| q12) ||| q16) ||| q20) ||| q24)), .int (36 : Int32), .int (58 : Int32)]) (rest := [.long (((((1048576 : Int64) ||| (0 : Int64)) ||| (((((q4 ||| q8) ||| q12) ||| q16) ||| q20) ||| q24)) ||| q26) ||| q28)]) hC (c_X6_parity (G := G) e31) kq5_139 kc_X6_parity (by decide) hP hK hD hE hS hA hl.1 (Nat.le_of_ble_eq_true rfl) ⟨Nat.zero_le _, Nat.zero_le _⟩ dX6_codeOf_112 (fun r9 u9 H locs hw hP hD hS => ?_)
    obtain ⟨rfl, rfl⟩ := hw
    refine lv_lor hx hb dX6_codeOf_115 ?_
    have hf := Option.some.inj hf
    subst hf
    exact e_l (wf := (fun _ : Unit => ([] : va_W))) hx hb hr hlk () ⟨rfl, rfl⟩ hP hK hD hS dX6_codeOf_116
  · have hf := tp hf c1
    refine lv_ldc2 hx hb hown (hg _ kq5_135) dX6_codeOf_7 ?_
    refine lv_goto (tgt := 14) hx hb dX6_codeOf_10 (by decide) ?_
    refine lv_lor hx hb dX6_codeOf_14 ?_
    refine lv_lstore_n (lv' := [(2, .long ((1048576 : Int64) ||| (524288 : Int64))), (0, .int x0), (1, .int (bI x1))]) hx hb dX6_codeOf_15 rfl hl (by decide) rfl (fun ls hl => ?_)
    refine lv_lload_n hx hb dX6_codeOf_16 rfl (lv_at hl 0 rfl) ?_
    refine lv_iload_n hx hb dX6_codeOf_17 rfl (lv_at hl 1 rfl) ?_
    refine lv_iconst (v := (4 : Int32)) hx hb dX6_codeOf_18 (by decide) ?_
    obtain ⟨q32, e33, hf⟩ := tbd hf
    refine kSi0 (As := [.int x0, .int (4 : Int32)]) (rest := [.long ((1048576 : Int64) ||| (524288 : Int64))]) hC (c_X6_partOf (G := G) e33) kq5_103 kc_X6_partOf (by decide) hP hK hD hE hS hA hl.1 (Nat.le_of_ble_eq_true rfl) ⟨Nat.zero_le _, Nat.zero_le _⟩ dX6_codeOf_19 (fun r9 u9 H locs hw hP hD hS => ?_)
    obtain ⟨rfl, rfl⟩ := hw
    refine lv_bipush (v := (21 : Int32)) hx hb dX6_codeOf_22 (by decide) ?_
    obtain ⟨q34, e35, hf⟩ := tbd hf
    refine kSl0 (As := [.int q32, .int (21 : Int32)]) (rest := [.long ((1048576 : Int64) ||| (524288 : Int64))]) hC (c_X6_digits (G := G) e35) kq5_136 kc_X6_digits (by decide) hP hK hD hE hS hA hl.1 (Nat.le_of_ble_eq_true rfl) ⟨Nat.zero_le _, Nat.zero_le _⟩ dX6_codeOf_24 (fun r9 u9 H locs hw hP hD hS => ?_)
    obtain ⟨rfl, rfl⟩ := hw
    refine lv_iload_n hx hb dX6_codeOf_27 rfl (lv_at hl 1 rfl) ?_
    refine lv_iconst (v := (3 : Int32)) hx hb dX6_codeOf_28 (by decide) ?_
    obtain ⟨q36, e37, hf⟩ := tbd hf
    refine kSi0 (As := [.int x0, .int (3 : Int32)]) (rest := [.long q34, .long ((1048576 : Int64) ||| (524288 : Int64))]) hC (c_X6_partOf (G := G) e37) kq5_103 kc_X6_partOf (by decide) hP hK hD hE hS hA hl.1 (Nat.le_of_ble_eq_true rfl) ⟨Nat.zero_le _, Nat.zero_le _⟩ dX6_codeOf_29 (fun r9 u9 H locs hw hP hD hS => ?_)
    obtain ⟨rfl, rfl⟩ := hw
    refine lv_bipush (v := (29 : Int32)) hx hb dX6_codeOf_32 (by decide) ?_
    obtain ⟨q38, e39, hf⟩ := tbd hf
    refine kSl0 (As := [.int q36, .int (29 : Int32)]) (rest := [.long q34, .long ((1048576 : Int64) ||| (524288 : Int64))]) hC (c_X6_digits (G := G) e39) kq5_136 kc_X6_digits (by decide) hP hK hD hE hS hA hl.1 (Nat.le_of_ble_eq_true rfl) ⟨Nat.zero_le _, Nat.zero_le _⟩ dX6_codeOf_34 (fun r9 u9 H locs hw hP hD hS => ?_)
    obtain ⟨rfl, rfl⟩ := hw
    refine lv_lor hx hb dX6_codeOf_37 ?_
    refine lv_iload_n hx hb dX6_codeOf_38 rfl (lv_at hl 1 rfl) ?_
    refine lv_iconst (v := (2 : Int32)) hx hb dX6_codeOf_39 (by decide) ?_
    obtain ⟨q40, e41, hf⟩ := tbd hf
    refine kSi0 (As := [.int x0, .int (2 : Int32)]) (rest := [.long (q34 ||| q38), .long ((1048576 : Int64) ||| (524288 : Int64))]) hC (c_X6_partOf (G := G) e41) kq5_103 kc_X6_partOf (by decide) hP hK hD hE hS hA hl.1 (Nat.le_of_ble_eq_true rfl) ⟨Nat.zero_le _, Nat.zero_le _⟩ dX6_codeOf_40 (fun r9 u9 H locs hw hP hD hS => ?_)
    obtain ⟨rfl, rfl⟩ := hw
    refine lv_bipush (v := (36 : Int32)) hx hb dX6_codeOf_43 (by decide) ?_
    obtain ⟨q42, e43, hf⟩ := tbd hf
    refine kSl0 (As := [.int q40, .int (36 : Int32)]) (rest := [.long (q34 ||| q38), .long ((1048576 : Int64) ||| (524288 : Int64))]) hC (c_X6_digits (G := G) e43) kq5_136 kc_X6_digits (by decide) hP hK hD hE hS hA hl.1 (Nat.le_of_ble_eq_true rfl) ⟨Nat.zero_le _, Nat.zero_le _⟩ dX6_codeOf_45 (fun r9 u9 H locs hw hP hD hS => ?_)
    obtain ⟨rfl, rfl⟩ := hw
    refine lv_lor hx hb dX6_codeOf_48 ?_
    refine lv_iload_n hx hb dX6_codeOf_49 rfl (lv_at hl 1 rfl) ?_
    refine lv_iconst (v := (5 : Int32)) hx hb dX6_codeOf_50 (by decide) ?_
    obtain ⟨q44, e45, hf⟩ := tbd hf
    refine kSi0 (As := [.int x0, .int (5 : Int32)]) (rest := [.long ((q34 ||| q38) ||| q42), .long ((1048576 : Int64) ||| (524288 : Int64))]) hC (c_X6_partOf (G := G) e45) kq5_103 kc_X6_partOf (by decide) hP hK hD hE hS hA hl.1 (Nat.le_of_ble_eq_true rfl) ⟨Nat.zero_le _, Nat.zero_le _⟩ dX6_codeOf_51 (fun r9 u9 H locs hw hP hD hS => ?_)
    obtain ⟨rfl, rfl⟩ := hw
    refine lv_bipush (v := (42 : Int32)) hx hb dX6_codeOf_54 (by decide) ?_
    obtain ⟨q46, e47, hf⟩ := tbd hf
    refine kSl0 (As := [.int q44, .int (42 : Int32)]) (rest := [.long ((q34 ||| q38) ||| q42), .long ((1048576 : Int64) ||| (524288 : Int64))]) hC (c_X6_digits (G := G) e47) kq5_136 kc_X6_digits (by decide) hP hK hD hE hS hA hl.1 (Nat.le_of_ble_eq_true rfl) ⟨Nat.zero_le _, Nat.zero_le _⟩ dX6_codeOf_56 (fun r9 u9 H locs hw hP hD hS => ?_)
    obtain ⟨rfl, rfl⟩ := hw
    refine lv_lor hx hb dX6_codeOf_59 ?_
    refine lv_iload_n hx hb dX6_codeOf_60 rfl (lv_at hl 1 rfl) ?_
    refine lv_iconst (v := (1 : Int32)) hx hb dX6_codeOf_61 (by decide) ?_
    obtain ⟨q48, e49, hf⟩ := tbd hf
    refine kSi0 (As := [.int x0, .int (1 : Int32)]) (rest := [.long (((q34 ||| q38) ||| q42) ||| q46), .long ((1048576 : Int64) ||| (524288 : Int64))]) hC (c_X6_partOf (G := G) e49) kq5_103 kc_X6_partOf (by decide) hP hK hD hE hS hA hl.1 (Nat.le_of_ble_eq_true rfl) ⟨Nat.zero_le _, Nat.zero_le _⟩ dX6_codeOf_62 (fun r9 u9 H locs hw hP hD hS => ?_)
    obtain ⟨rfl, rfl⟩ := hw
    refine lv_bipush (v := (45 : Int32)) hx hb dX6_codeOf_65 (by decide) ?_
    obtain ⟨q50, e51, hf⟩ := tbd hf
    refine kSl0 (As := [.int q48, .int (45 : Int32)]) (rest := [.long (((q34 ||| q38) ||| q42) ||| q46), .long ((1048576 : Int64) ||| (524288 : Int64))]) hC (c_X6_digits (G := G) e51) kq5_136 kc_X6_digits (by decide) hP hK hD hE hS hA hl.1 (Nat.le_of_ble_eq_true rfl) ⟨Nat.zero_le _, Nat.zero_le _⟩ dX6_codeOf_67 (fun r9 u9 H locs hw hP hD hS => ?_)
    obtain ⟨rfl, rfl⟩ := hw
    refine lv_lor hx hb dX6_codeOf_70 ?_
    refine lv_iload_n hx hb dX6_codeOf_71 rfl (lv_at hl 1 rfl) ?_
    refine lv_iconst (v := (0 : Int32)) hx hb dX6_codeOf_72 (by decide) ?_
    obtain ⟨q52, e53, hf⟩ := tbd hf
    refine kSi0 (As := [.int x0, .int (0 : Int32)]) (rest := [.long ((((q34 ||| q38) ||| q42) ||| q46) ||| q50), .long ((1048576 : Int64) ||| (524288 : Int64))]) hC (c_X6_partOf (G := G) e53) kq5_103 kc_X6_partOf (by decide) hP hK hD hE hS hA hl.1 (Nat.le_of_ble_eq_true rfl) ⟨Nat.zero_le _, Nat.zero_le _⟩ dX6_codeOf_73 (fun r9 u9 H locs hw hP hD hS => ?_)
    obtain ⟨rfl, rfl⟩ := hw
    refine lv_sipush (v := (2000 : Int32)) hx hb dX6_codeOf_76 (by decide) ?_
    refine lv_isub hx hb dX6_codeOf_79 ?_
    refine lv_bipush (v := (50 : Int32)) hx hb dX6_codeOf_80 (by decide) ?_
    obtain ⟨q54, e55, hf⟩ := tbd hf
    refine kSl0 (As := [.int (q52 - (2000 : Int32)), .int (50 : Int32)]) (rest := [.long ((((q34 ||| q38) ||| q42) ||| q46) ||| q50), .long ((1048576 : Int64) ||| (524288 : Int64))]) hC (c_X6_digits (G := G) e55) kq5_136 kc_X6_digits (by decide) hP hK hD hE hS hA hl.1 (Nat.le_of_ble_eq_true rfl) ⟨Nat.zero_le _, Nat.zero_le _⟩ dX6_codeOf_82 (fun r9 u9 H locs hw hP hD hS => ?_)
    obtain ⟨rfl, rfl⟩ := hw
    refine lv_lor hx hb dX6_codeOf_85 ?_
    refine lv_lor hx hb dX6_codeOf_86 ?_
    refine lv_lstore_n (lv' := [(2, .long (((1048576 : Int64) ||| (524288 : Int64)) ||| (((((q34 ||| q38) ||| q42) ||| q46) ||| q50) ||| q54))), (0, .int x0), (1, .int (bI x1))]) hx hb dX6_codeOf_87 rfl hl (by decide) rfl (fun ls hl => ?_)
    refine lv_lload_n hx hb dX6_codeOf_88 rfl (lv_at hl 0 rfl) ?_
    refine lv_lload_n hx hb dX6_codeOf_89 rfl (lv_at hl 0 rfl) ?_
    refine lv_bipush (v := (21 : Int32)) hx hb dX6_codeOf_90 (by decide) ?_
    refine lv_bipush (v := (28 : Int32)) hx hb dX6_codeOf_92 (by decide) ?_
    obtain ⟨q56, e57, hf⟩ := tbd hf
    refine kSl0 (As := [.long (((1048576 : Int64) ||| (524288 : Int64)) ||| (((((q34 ||| q38) ||| q42) ||| q46) ||| q50) ||| q54)), .int (21 : Int32), .int (28 : Int32)]) (rest := [.long (((1048576 : Int64) ||| (524288 : Int64)) ||| (((((q34 ||| q38) ||| q42) ||| q46) ||| q50) ||| q54))]) hC (c_X6_parity (G := G) e57) kq5_139 kc_X6_parity (by decide) hP hK hD hE hS hA hl.1 (Nat.le_of_ble_eq_true rfl) ⟨Nat.zero_le _, Nat.zero_le _⟩ dX6_codeOf_94 (fun r9 u9 H locs hw hP hD hS => ?_)
    obtain ⟨rfl, rfl⟩ := hw
    refine lv_lor hx hb dX6_codeOf_97 ?_
    refine lv_lload_n hx hb dX6_codeOf_98 rfl (lv_at hl 0 rfl) ?_
    refine lv_bipush (v := (29 : Int32)) hx hb dX6_codeOf_99 (by decide) ?_
    refine lv_bipush (v := (35 : Int32)) hx hb dX6_codeOf_101 (by decide) ?_
    obtain ⟨q58, e59, hf⟩ := tbd hf
    refine kSl0 (As := [.long (((1048576 : Int64) ||| (524288 : Int64)) ||| (((((q34 ||| q38) ||| q42) ||| q46) ||| q50) ||| q54)), .int (29 : Int32), .int (35 : Int32)]) (rest := [.long ((((1048576 : Int64) ||| (524288 : Int64)) ||| (((((q34 ||| q38) ||| q42) ||| q46) ||| q50) ||| q54)) ||| q56)]) hC (c_X6_parity (G := G) e59) kq5_139 kc_X6_parity (by decide) hP hK hD hE hS hA hl.1 (Nat.le_of_ble_eq_true rfl) ⟨Nat.zero_le _, Nat.zero_le _⟩ dX6_codeOf_103 (fun r9 u9 H locs hw hP hD hS => ?_)
    obtain ⟨rfl, rfl⟩ := hw
    refine lv_lor hx hb dX6_codeOf_106 ?_
    refine lv_lload_n hx hb dX6_codeOf_107 rfl (lv_at hl 0 rfl) ?_
    refine lv_bipush (v := (36 : Int32)) hx hb dX6_codeOf_108 (by decide) ?_
    refine lv_bipush (v := (58 : Int32)) hx hb dX6_codeOf_110 (by decide) ?_
    obtain ⟨q60, e61, hf⟩ := tbd hf
    refine kSl0 (As := [.long (((1048576 : Int64) ||| (524288 : Int64)) ||| (((((q34 ||| q38) ||| q42) ||| q46) ||| q50) ||| q54)), .int (36 : Int32), .int (58 : Int32)]) (rest := [.long (((((1048576 : Int64) ||| (524288 : Int64)) ||| (((((q34 ||| q38) ||| q42) ||| q46) ||| q50) ||| q54)) ||| q56) ||| q58)]) hC (c_X6_parity (G := G) e61) kq5_139 kc_X6_parity (by decide) hP hK hD hE hS hA hl.1 (Nat.le_of_ble_eq_true rfl) ⟨Nat.zero_le _, Nat.zero_le _⟩ dX6_codeOf_112 (fun r9 u9 H locs hw hP hD hS => ?_)
    obtain ⟨rfl, rfl⟩ := hw
    refine lv_lor hx hb dX6_codeOf_115 ?_
    have hf := Option.some.inj hf
    subst hf
    exact e_l (wf := (fun _ : Unit => ([] : va_W))) hx hb hr hlk () ⟨rfl, rfl⟩ hP hK hD hS dX6_codeOf_116
set_option maxRecDepth 100000 in
set_option maxHeartbeats 4000000 in
theorem c_X6_code {l : Launch} {G : Gp} {sz N : Nat} {x1 : Int32} {x2 : Bool} {h0 : Nat} {a0 : Nat → Nat} {u0 : Ob} {q : Int64 × Ob} (hf : f_X6_code N x1 x2 u0 = some q) : Met l yX6_code (Cond.code yX6_code cX6_code 3 (some .long) :: lw_g) ({ frames := 4, cells := 0, slots := 0, locals := 93 } : Room) (va_Pc [.ref h0, .int x1, .int (bI x2)] (pw G (wX6 G h0 a0 u0) sz)) (va_Ql (fun (r : Int64) (v : Ob) => q.1 = r ∧ q.2 = v) (bw G (fun v : Ob => (wX6 G h0 a0 v)) (va_A (wX6 G h0 a0 u0) sz)) (va_A (wX6 G h0 a0 u0) sz)) 0 0 (va_A (wX6 G h0 a0 u0) sz) := by
  refine mt (Qc := (fun A => va_Ql (fun (r : Int64) (v : Ob) => q.1 = r ∧ q.2 = v) (bw G (fun v : Ob => (wX6 G h0 a0 v)) A) A)) (by decide) (Nat.le_of_ble_eq_true rfl) ?_
  intro p e s m below meth c A ls hx hb hr hlk hml hts hown hA hP hK hD hE hS hl
  have hown : s.vm.findClass RX6 = some m.cls := hown
  have hg : ∀ w ∈ lw_g, w.before ([.ref h0, .int x1, .int (bI x2)] : List Value).toArray s = true := fun w h => hts w (List.mem_cons_of_mem _ h)
  have hC : CallFix p m c cX6_code 3 s ([.ref h0, .int x1, .int (bI x2)] : List Value).toArray (Cond.code yX6_code cX6_code 3 (some .long) :: lw_g) RX6 := ⟨hx, hb, hml, hown, hts⟩
  have hl : lv_has ls 3 [(0, .ref h0), (1, .int x1), (2, .int (bI x2))] := hl
  rw [f_X6_code] at hf
  refine lv_aload_n hx hb dX6_code_0 rfl (lv_at hl 0 rfl) ?_
  refine lv_iload_n hx hb dX6_code_1 rfl (lv_at hl 1 rfl) ?_
  refine lv_i2l (v := x1.toInt64) hx hb dX6_code_2 rfl ?_
  obtain ⟨q1, e2, hf⟩ := tbd hf
  refine kSi0 (As := [.long x1.toInt64]) (rest := [.ref h0]) hC (c_X6_isMinute (G := G) e2) kq5_99 kc_X6_isMinute (by decide) hP hK hD hE hS hA hl.1 (Nat.le_of_ble_eq_true rfl) ⟨Nat.zero_le _, Nat.zero_le _⟩ dX6_code_3 (fun r9 u9 H locs hw hP hD hS => ?_)
  obtain ⟨rfl, rfl⟩ := hw
  refine bz_eq (tgt := 13) hx hb dX6_code_6 (by decide) (fun c3 => ?_) (fun c3 => ?_)
  · have hf := tn hf c3
    refine lv_iconst (v := (1 : Int32)) hx hb dX6_code_13 (by decide) ?_
    refine va_put (D := gD G) (ci := 4) (v := .int (1 : Int32)) (ty := .int) (C := RX6) (T := TX6) (N := 22) hx hb hg kl_X6 tyX6 tyX6_ok nmX6 hown hK hP hD hS 0 rfl rfl 7 (by decide) (hg _ kq5_12) (fun _ h9 => h9) rfl (by decide +kernel) rfl rfl (Nat.le_of_ble_eq_true rfl) dX6_code_14 (fun H locs hP hD hS => ?_)
    have hP : va_P (gD G) vwCl (wX6 G h0 a0 (oi u0 7 (1 : Int32))) H := hP
    have hD : va_D A (wX6 G h0 a0 (oi u0 7 (1 : Int32))) := hD
    refine lv_aload_n hx hb dX6_code_17 rfl (lv_at hl 0 rfl) ?_
    refine va_get (D := gD G) (ci := 4) (v := .int (1 : Int32)) (C := RX6) (T := TX6) (N := 22) hx hb hg kl_X6 hown hK hP 0 rfl rfl 7 (by decide) (hg _ kq5_12) (fun _ h9 => h9) rfl dX6_code_18 ?_
    refine lv_if_le (tgt := 28) hx hb dX6_code_21 (by decide) (fun c4 => ?_) (fun c4 => ?_)
    · exact absurd c4 (by decide)
    refine lv_lconst (v := (0 : Int64)) hx hb dX6_code_24 (by decide) ?_
    refine lv_goto (tgt := 33) hx hb dX6_code_25 (by decide) ?_
    have hf := Option.some.inj hf
    subst hf
    exact e_l (wf := (fun v : Ob => (wX6 G h0 a0 v))) hx hb hr hlk (oi u0 7 (1 : Int32)) ⟨rfl, rfl⟩ hP hK hD hS dX6_code_33
  · have hf := tp hf c3
    refine lv_iconst (v := (0 : Int32)) hx hb dX6_code_9 (by decide) ?_
    refine lv_goto (tgt := 14) hx hb dX6_code_10 (by decide) ?_
    refine va_put (D := gD G) (ci := 4) (v := .int (0 : Int32)) (ty := .int) (C := RX6) (T := TX6) (N := 22) hx hb hg kl_X6 tyX6 tyX6_ok nmX6 hown hK hP hD hS 0 rfl rfl 7 (by decide) (hg _ kq5_12) (fun _ h9 => h9) rfl (by decide +kernel) rfl rfl (Nat.le_of_ble_eq_true rfl) dX6_code_14 (fun H locs hP hD hS => ?_)
    have hP : va_P (gD G) vwCl (wX6 G h0 a0 (oi u0 7 (0 : Int32))) H := hP
    have hD : va_D A (wX6 G h0 a0 (oi u0 7 (0 : Int32))) := hD
    refine lv_aload_n hx hb dX6_code_17 rfl (lv_at hl 0 rfl) ?_
    refine va_get (D := gD G) (ci := 4) (v := .int (0 : Int32)) (C := RX6) (T := TX6) (N := 22) hx hb hg kl_X6 hown hK hP 0 rfl rfl 7 (by decide) (hg _ kq5_12) (fun _ h9 => h9) rfl dX6_code_18 ?_
    refine lv_if_le (tgt := 28) hx hb dX6_code_21 (by decide) (fun c5 => ?_) (fun c5 => ?_)
    rotate_left
    · exact absurd c5 (by decide)
    refine lv_iload_n hx hb dX6_code_28 rfl (lv_at hl 1 rfl) ?_
    refine lv_iload_n hx hb dX6_code_29 rfl (lv_at hl 2 rfl) ?_
    obtain ⟨q6, e7, hf⟩ := tbd hf
    refine kSl0 (As := [.int x1, .int (bI x2)]) (rest := []) hC (c_X6_codeOf (G := G) e7) kq5_131 kc_X6_codeOf (by decide) hP hK hD hE hS hA hl.1 (Nat.le_of_ble_eq_true rfl) ⟨Nat.zero_le _, Nat.zero_le _⟩ dX6_code_30 (fun r9 u9 H locs hw hP hD hS => ?_)
    obtain ⟨rfl, rfl⟩ := hw
    have hf := Option.some.inj hf
    subst hf
    exact e_l (wf := (fun v : Ob => (wX6 G h0 a0 v))) hx hb hr hlk (oi u0 7 (0 : Int32)) ⟨rfl, rfl⟩ hP hK hD hS dX6_code_33
set_option maxRecDepth 100000 in
set_option maxHeartbeats 4000000 in
theorem c_X6_ones {l : Launch} {G : Gp} {sz N : Nat} {x0 : Int64} {x2 : Int32} {x3 : Int32} {q : Int32} (hf : f_X6_ones N x0 x2 x3 = some q) : Met l yX6_ones (Cond.code yX6_ones cX6_ones 4 (some .int) :: lw_g) ({ frames := 0, cells := 0, slots := 0, locals := 0 } : Room) (va_Pc [.long x0, .int x2, .int x3] (pw G [] sz)) (va_Qi (fun (r : Int32) (v : Unit) => q = r ∧ () = v) (bw G (fun _ : Unit => ([] : va_W)) (va_A [] sz)) (va_A [] sz)) 0 0 (va_A [] sz) := by
  refine mt (Qc := (fun A => va_Qi (fun (r : Int32) (v : Unit) => q = r ∧ () = v) (bw G (fun _ : Unit => ([] : va_W)) A) A)) (by decide) (Nat.le_of_ble_eq_true rfl) ?_
  intro p e s m below meth c A ls hx hb hr hlk hml hts hown hA hP hK hD hE hS hl
  have hown : s.vm.findClass RX6 = some m.cls := hown
  have hg : ∀ w ∈ lw_g, w.before ([.long x0, .int x2, .int x3] : List Value).toArray s = true := fun w h => hts w (List.mem_cons_of_mem _ h)
  have hC : CallFix p m c cX6_ones 4 s ([.long x0, .int x2, .int x3] : List Value).toArray (Cond.code yX6_ones cX6_ones 4 (some .int) :: lw_g) RX6 := ⟨hx, hb, hml, hown, hts⟩
  have hl : lv_has ls 4 [(0, .long x0), (2, .int x2), (3, .int x3)] := hl
  rw [f_X6_ones] at hf
  refine lv_lload_n hx hb dX6_ones_0 rfl (lv_at hl 0 rfl) ?_
  refine lv_iload_n hx hb dX6_ones_1 rfl (lv_at hl 1 rfl) ?_
  refine lv_lushr (v := (jushr x0 x2)) hx hb dX6_ones_2 rfl ?_
  refine lv_l2i (v := (jushr x0 x2).toInt32) hx hb dX6_ones_3 rfl ?_
  refine lv_iconst (v := (1 : Int32)) hx hb dX6_ones_4 (by decide) ?_
  refine lv_iload_n hx hb dX6_ones_5 rfl (lv_at hl 2 rfl) ?_
  refine lv_ishl hx hb dX6_ones_6 ?_
  refine lv_iconst (v := (1 : Int32)) hx hb dX6_ones_7 (by decide) ?_
  refine lv_isub hx hb dX6_ones_8 ?_
  refine lv_iand hx hb dX6_ones_9 ?_
  have hf := Option.some.inj hf
  subst hf
  exact e_i (wf := (fun _ : Unit => ([] : va_W))) hx hb hr hlk () ⟨rfl, rfl⟩ hP hK hD hS dX6_ones_10
set_option maxRecDepth 100000 in
set_option maxHeartbeats 4000000 in
theorem c_X6_valueOf {l : Launch} {G : Gp} {sz N : Nat} {x0 : Int64} {x2 : Int32} {x3 : Int32} {q : Int32} (hf : f_X6_valueOf N x0 x2 x3 = some q) : Met l yX6_valueOf (Cond.code yX6_valueOf cX6_valueOf 6 (some .int) :: lw_g) ({ frames := 1, cells := 0, slots := 0, locals := 23 } : Room) (va_Pc [.long x0, .int x2, .int x3] (pw G [] sz)) (va_Qi (fun (r : Int32) (v : Unit) => q = r ∧ () = v) (bw G (fun _ : Unit => ([] : va_W)) (va_A [] sz)) (va_A [] sz)) 0 0 (va_A [] sz) := by
  refine mt (Qc := (fun A => va_Qi (fun (r : Int32) (v : Unit) => q = r ∧ () = v) (bw G (fun _ : Unit => ([] : va_W)) A) A)) (by decide) (Nat.le_of_ble_eq_true rfl) ?_
  intro p e s m below meth c A ls hx hb hr hlk hml hts hown hA hP hK hD hE hS hl
  have hown : s.vm.findClass RX6 = some m.cls := hown
  have hg : ∀ w ∈ lw_g, w.before ([.long x0, .int x2, .int x3] : List Value).toArray s = true := fun w h => hts w (List.mem_cons_of_mem _ h)
  have hC : CallFix p m c cX6_valueOf 6 s ([.long x0, .int x2, .int x3] : List Value).toArray (Cond.code yX6_valueOf cX6_valueOf 6 (some .int) :: lw_g) RX6 := ⟨hx, hb, hml, hown, hts⟩
  have hl : lv_has ls 6 [(0, .long x0), (2, .int x2), (3, .int x3)] := hl
  rw [f_X6_valueOf] at hf
  refine lv_lload_n hx hb dX6_valueOf_0 rfl (lv_at hl 0 rfl) ?_
  refine lv_iload_n hx hb dX6_valueOf_1 rfl (lv_at hl 1 rfl) ?_
  refine lv_iconst (v := (4 : Int32)) hx hb dX6_valueOf_2 (by decide) ?_
  obtain ⟨q1, e2, hf⟩ := tbd hf
  refine kSi0 (As := [.long x0, .int x2, .int (4 : Int32)]) (rest := []) hC (c_X6_ones (G := G) e2) kq6_49 kc_X6_ones (by decide) hP hK hD hE hS hA hl.1 (Nat.le_of_ble_eq_true rfl) ⟨Nat.zero_le _, Nat.zero_le _⟩ dX6_valueOf_3 (fun r9 u9 H locs hw hP hD hS => ?_)
  obtain ⟨rfl, rfl⟩ := hw
  refine lv_istore (lv' := [(4, .int q1), (0, .long x0), (2, .int x2), (3, .int x3)]) hx hb dX6_valueOf_6 hl (by decide) rfl (fun ls hl => ?_)
  refine lv_lload_n hx hb dX6_valueOf_8 rfl (lv_at hl 1 rfl) ?_
  refine lv_iload_n hx hb dX6_valueOf_9 rfl (lv_at hl 2 rfl) ?_
  refine lv_iconst (v := (4 : Int32)) hx hb dX6_valueOf_10 (by decide) ?_
  refine lv_iadd hx hb dX6_valueOf_11 ?_
  refine lv_iload_n hx hb dX6_valueOf_12 rfl (lv_at hl 3 rfl) ?_
  obtain ⟨q3, e4, hf⟩ := tbd hf
  refine kSi0 (As := [.long x0, .int (x2 + (4 : Int32)), .int x3]) (rest := []) hC (c_X6_ones (G := G) e4) kq6_49 kc_X6_ones (by decide) hP hK hD hE hS hA hl.1 (Nat.le_of_ble_eq_true rfl) ⟨Nat.zero_le _, Nat.zero_le _⟩ dX6_valueOf_13 (fun r9 u9 H locs hw hP hD hS => ?_)
  obtain ⟨rfl, rfl⟩ := hw
  refine lv_istore (lv' := [(5, .int q3), (4, .int q1), (0, .long x0), (2, .int x2), (3, .int x3)]) hx hb dX6_valueOf_16 hl (by decide) rfl (fun ls hl => ?_)
  refine lv_iload hx hb dX6_valueOf_18 (lv_at hl 1 rfl) ?_
  refine lv_bipush (v := (9 : Int32)) hx hb dX6_valueOf_20 (by decide) ?_
  refine lv_icmp_gt (tgt := 32) hx hb dX6_valueOf_22 (by decide) (fun c5 => ?_) (fun c5 => ?_)
  · have hf := tp hf c5
    refine lv_sipush (v := (999 : Int32)) hx hb dX6_valueOf_32 (by decide) ?_
    refine lv_goto (tgt := 46) hx hb dX6_valueOf_35 (by decide) ?_
    have hf := Option.some.inj hf
    subst hf
    exact e_i (wf := (fun _ : Unit => ([] : va_W))) hx hb hr hlk () ⟨rfl, rfl⟩ hP hK hD hS dX6_valueOf_46
  · have hf := tn hf c5
    refine lv_iload hx hb dX6_valueOf_25 (lv_at hl 0 rfl) ?_
    refine lv_bipush (v := (9 : Int32)) hx hb dX6_valueOf_27 (by decide) ?_
    refine lv_icmp_le (tgt := 38) hx hb dX6_valueOf_29 (by decide) (fun c6 => ?_) (fun c6 => ?_)
    · have hf := tp hf c6
      refine lv_bipush (v := (10 : Int32)) hx hb dX6_valueOf_38 (by decide) ?_
      refine lv_iload hx hb dX6_valueOf_40 (lv_at hl 0 rfl) ?_
      refine lv_imul hx hb dX6_valueOf_42 ?_
      refine lv_iload hx hb dX6_valueOf_43 (lv_at hl 1 rfl) ?_
      refine lv_iadd hx hb dX6_valueOf_45 ?_
      have hf := Option.some.inj hf
      subst hf
      exact e_i (wf := (fun _ : Unit => ([] : va_W))) hx hb hr hlk () ⟨rfl, rfl⟩ hP hK hD hS dX6_valueOf_46
    · have hf := tn hf c6
      refine lv_sipush (v := (999 : Int32)) hx hb dX6_valueOf_32 (by decide) ?_
      refine lv_goto (tgt := 46) hx hb dX6_valueOf_35 (by decide) ?_
      have hf := Option.some.inj hf
      subst hf
      exact e_i (wf := (fun _ : Unit => ([] : va_W))) hx hb hr hlk () ⟨rfl, rfl⟩ hP hK hD hS dX6_valueOf_46
set_option maxRecDepth 100000 in
set_option maxHeartbeats 4000000 in
theorem c_X6_isOdd {l : Launch} {G : Gp} {sz N : Nat} {x0 : Int64} {x2 : Int32} {x3 : Int32} {q : Bool} (hf : f_X6_isOdd N x0 x2 x3 = some q) : Met l yX6_isOdd (Cond.code yX6_isOdd cX6_isOdd 4 (some .boolean) :: lw_g) ({ frames := 2, cells := 0, slots := 0, locals := 47 } : Room) (va_Pc [.long x0, .int x2, .int x3] (pw G [] sz)) (va_Qi (fun (r : Int32) (v : Unit) => bI q = r ∧ () = v) (bw G (fun _ : Unit => ([] : va_W)) (va_A [] sz)) (va_A [] sz)) 0 0 (va_A [] sz) := by
  refine mt (Qc := (fun A => va_Qi (fun (r : Int32) (v : Unit) => bI q = r ∧ () = v) (bw G (fun _ : Unit => ([] : va_W)) A) A)) (by decide) (Nat.le_of_ble_eq_true rfl) ?_
  intro p e s m below meth c A ls hx hb hr hlk hml hts hown hA hP hK hD hE hS hl
  have hown : s.vm.findClass RX6 = some m.cls := hown
  have hg : ∀ w ∈ lw_g, w.before ([.long x0, .int x2, .int x3] : List Value).toArray s = true := fun w h => hts w (List.mem_cons_of_mem _ h)
  have hC : CallFix p m c cX6_isOdd 4 s ([.long x0, .int x2, .int x3] : List Value).toArray (Cond.code yX6_isOdd cX6_isOdd 4 (some .boolean) :: lw_g) RX6 := ⟨hx, hb, hml, hown, hts⟩
  have hl : lv_has ls 4 [(0, .long x0), (2, .int x2), (3, .int x3)] := hl
  rw [f_X6_isOdd] at hf
  refine lv_lload_n hx hb dX6_isOdd_0 rfl (lv_at hl 0 rfl) ?_
  refine lv_iload_n hx hb dX6_isOdd_1 rfl (lv_at hl 1 rfl) ?_
  refine lv_iload_n hx hb dX6_isOdd_2 rfl (lv_at hl 2 rfl) ?_
  obtain ⟨q1, e2, hf⟩ := tbd hf
  refine kSi0 (As := [.long x0, .int x2, .int x3]) (rest := []) hC (c_X6_bits (G := G) e2) kq5_142 kc_X6_bits (by decide) hP hK hD hE hS hA hl.1 (Nat.le_of_ble_eq_true rfl) ⟨Nat.zero_le _, Nat.zero_le _⟩ dX6_isOdd_3 (fun r9 u9 H locs hw hP hD hS => ?_)
  obtain ⟨rfl, rfl⟩ := hw
  refine lv_iconst (v := (2 : Int32)) hx hb dX6_isOdd_6 (by decide) ?_
  refine lv_irem hx hb dX6_isOdd_7 (by decide) ?_
  refine lv_iconst (v := (1 : Int32)) hx hb dX6_isOdd_8 (by decide) ?_
  refine lv_icmp_ne (tgt := 16) hx hb dX6_isOdd_9 (by decide) (fun c3 => ?_) (fun c3 => ?_)
  · have hf := tn hf c3
    refine lv_iconst (v := (0 : Int32)) hx hb dX6_isOdd_16 (by decide) ?_
    have hf := Option.some.inj hf
    subst hf
    exact e_z (wf := (fun _ : Unit => ([] : va_W))) hx hb hr hlk () rfl ⟨rfl, rfl⟩ hP hK hD hS dX6_isOdd_17
  · have hf := tp hf c3
    refine lv_iconst (v := (1 : Int32)) hx hb dX6_isOdd_12 (by decide) ?_
    refine lv_goto (tgt := 17) hx hb dX6_isOdd_13 (by decide) ?_
    have hf := Option.some.inj hf
    subst hf
    exact e_z (wf := (fun _ : Unit => ([] : va_W))) hx hb hr hlk () rfl ⟨rfl, rfl⟩ hP hK hD hS dX6_isOdd_17
set_option maxRecDepth 100000 in
set_option maxHeartbeats 4000000 in
theorem c_X6_faultOf {l : Launch} {G : Gp} {sz N : Nat} {x1 : Int64} {x3 : Int64} {h0 : Nat} {a0 : Nat → Nat} {u0 : Ob} {q : Int32 × Ob} (hf : f_X6_faultOf N x1 x3 u0 = some q) : Met l yX6_faultOf (Cond.code yX6_faultOf cX6_faultOf 10 (some .int) :: lw_g) ({ frames := 3, cells := 0, slots := 0, locals := 70 } : Room) (va_Pc [.ref h0, .long x1, .long x3] (pw G (wX6 G h0 a0 u0) sz)) (va_Qi (fun (r : Int32) (v : Ob) => q.1 = r ∧ q.2 = v) (bw G (fun v : Ob => (wX6 G h0 a0 v)) (va_A (wX6 G h0 a0 u0) sz)) (va_A (wX6 G h0 a0 u0) sz)) 0 0 (va_A (wX6 G h0 a0 u0) sz) := by
  refine mt (Qc := (fun A => va_Qi (fun (r : Int32) (v : Ob) => q.1 = r ∧ q.2 = v) (bw G (fun v : Ob => (wX6 G h0 a0 v)) A) A)) (by decide) (Nat.le_of_ble_eq_true rfl) ?_
  intro p e s m below meth c A ls hx hb hr hlk hml hts hown hA hP hK hD hE hS hl
  have hown : s.vm.findClass RX6 = some m.cls := hown
  have hg : ∀ w ∈ lw_g, w.before ([.ref h0, .long x1, .long x3] : List Value).toArray s = true := fun w h => hts w (List.mem_cons_of_mem _ h)
  have hC : CallFix p m c cX6_faultOf 10 s ([.ref h0, .long x1, .long x3] : List Value).toArray (Cond.code yX6_faultOf cX6_faultOf 10 (some .int) :: lw_g) RX6 := ⟨hx, hb, hml, hown, hts⟩
  have hl : lv_has ls 10 [(0, .ref h0), (1, .long x1), (3, .long x3)] := hl
  rw [f_X6_faultOf] at hf
  refine lv_lload_n hx hb dX6_faultOf_0 rfl (lv_at hl 2 rfl) ?_
  refine lv_ldc2 hx hb hown (hg _ kq6_42) dX6_faultOf_1 ?_
  refine lv_land hx hb dX6_faultOf_4 ?_
  refine lv_lconst (v := (0 : Int64)) hx hb dX6_faultOf_5 (by decide) ?_
  refine lc_eq (tgt := 12) hx hb dX6_faultOf_6 dX6_faultOf_7 (by decide) (fun c1 => ?_) (fun c1 => ?_)
  · have hf := tp hf c1
    refine lv_lload_n hx hb dX6_faultOf_12 rfl (lv_at hl 1 rfl) ?_
    refine lv_iconst (v := (0 : Int32)) hx hb dX6_faultOf_13 (by decide) ?_
    obtain ⟨q2, e3, hf⟩ := tbd hf
    refine kSi0 (As := [.long x1, .int (0 : Int32)]) (rest := []) hC (c_X6_has (G := G) e3) kq5_145 kc_X6_has (by decide) hP hK hD hE hS hA hl.1 (Nat.le_of_ble_eq_true rfl) ⟨Nat.zero_le _, Nat.zero_le _⟩ dX6_faultOf_14 (fun r9 u9 H locs hw hP hD hS => ?_)
    obtain ⟨rfl, rfl⟩ := hw
    refine bz_ne (tgt := 29) hx hb dX6_faultOf_17 (by decide) (fun c4 => ?_) (fun c4 => ?_)
    · have hf := tp hf c4
      refine lv_iconst (v := (2 : Int32)) hx hb dX6_faultOf_29 (by decide) ?_
      have hf := Option.some.inj hf
      subst hf
      exact e_i (wf := (fun v : Ob => (wX6 G h0 a0 v))) hx hb hr hlk u0 ⟨rfl, rfl⟩ hP hK hD hS dX6_faultOf_30
    · have hf := tn hf c4
      refine lv_lload_n hx hb dX6_faultOf_20 rfl (lv_at hl 1 rfl) ?_
      refine lv_bipush (v := (20 : Int32)) hx hb dX6_faultOf_21 (by decide) ?_
      obtain ⟨q5, e6, hf⟩ := tbd hf
      refine kSi0 (As := [.long x1, .int (20 : Int32)]) (rest := []) hC (c_X6_has (G := G) e6) kq5_145 kc_X6_has (by decide) hP hK hD hE hS hA hl.1 (Nat.le_of_ble_eq_true rfl) ⟨Nat.zero_le _, Nat.zero_le _⟩ dX6_faultOf_23 (fun r9 u9 H locs hw hP hD hS => ?_)
      obtain ⟨rfl, rfl⟩ := hw
      refine bz_ne (tgt := 31) hx hb dX6_faultOf_26 (by decide) (fun c7 => ?_) (fun c7 => ?_)
      · have hf := tp hf c7
        refine lv_lload_n hx hb dX6_faultOf_31 rfl (lv_at hl 1 rfl) ?_
        refine lv_bipush (v := (21 : Int32)) hx hb dX6_faultOf_32 (by decide) ?_
        refine lv_bipush (v := (28 : Int32)) hx hb dX6_faultOf_34 (by decide) ?_
        obtain ⟨q8, e9, hf⟩ := tbd hf
        refine kSi0 (As := [.long x1, .int (21 : Int32), .int (28 : Int32)]) (rest := []) hC (c_X6_isOdd (G := G) e9) kq6_43 kc_X6_isOdd (by decide) hP hK hD hE hS hA hl.1 (Nat.le_of_ble_eq_true rfl) ⟨Nat.zero_le _, Nat.zero_le _⟩ dX6_faultOf_36 (fun r9 u9 H locs hw hP hD hS => ?_)
        obtain ⟨rfl, rfl⟩ := hw
        refine bz_eq (tgt := 44) hx hb dX6_faultOf_39 (by decide) (fun c10 => ?_) (fun c10 => ?_)
        · have hf := tn hf c10
          refine lv_lload_n hx hb dX6_faultOf_44 rfl (lv_at hl 1 rfl) ?_
          refine lv_bipush (v := (29 : Int32)) hx hb dX6_faultOf_45 (by decide) ?_
          refine lv_bipush (v := (35 : Int32)) hx hb dX6_faultOf_47 (by decide) ?_
          obtain ⟨q11, e12, hf⟩ := tbd hf
          refine kSi0 (As := [.long x1, .int (29 : Int32), .int (35 : Int32)]) (rest := []) hC (c_X6_isOdd (G := G) e12) kq6_43 kc_X6_isOdd (by decide) hP hK hD hE hS hA hl.1 (Nat.le_of_ble_eq_true rfl) ⟨Nat.zero_le _, Nat.zero_le _⟩ dX6_faultOf_49 (fun r9 u9 H locs hw hP hD hS => ?_)
          obtain ⟨rfl, rfl⟩ := hw
          refine bz_eq (tgt := 57) hx hb dX6_faultOf_52 (by decide) (fun c13 => ?_) (fun c13 => ?_)
          · have hf := tn hf c13
            refine lv_lload_n hx hb dX6_faultOf_57 rfl (lv_at hl 1 rfl) ?_
            refine lv_bipush (v := (36 : Int32)) hx hb dX6_faultOf_58 (by decide) ?_
            refine lv_bipush (v := (58 : Int32)) hx hb dX6_faultOf_60 (by decide) ?_
            obtain ⟨q14, e15, hf⟩ := tbd hf
            refine kSi0 (As := [.long x1, .int (36 : Int32), .int (58 : Int32)]) (rest := []) hC (c_X6_isOdd (G := G) e15) kq6_43 kc_X6_isOdd (by decide) hP hK hD hE hS hA hl.1 (Nat.le_of_ble_eq_true rfl) ⟨Nat.zero_le _, Nat.zero_le _⟩ dX6_faultOf_62 (fun r9 u9 H locs hw hP hD hS => ?_)
            obtain ⟨rfl, rfl⟩ := hw
            refine bz_eq (tgt := 70) hx hb dX6_faultOf_65 (by decide) (fun c16 => ?_) (fun c16 => ?_)
            · have hf := tn hf c16
              refine lv_sipush (v := (2000 : Int32)) hx hb dX6_faultOf_70 (by decide) ?_
              refine lv_lload_n hx hb dX6_faultOf_73 rfl (lv_at hl 1 rfl) ?_
              refine lv_bipush (v := (50 : Int32)) hx hb dX6_faultOf_74 (by decide) ?_
              refine lv_iconst (v := (4 : Int32)) hx hb dX6_faultOf_76 (by decide) ?_
              obtain ⟨q17, e18, hf⟩ := tbd hf
              refine kSi0 (As := [.long x1, .int (50 : Int32), .int (4 : Int32)]) (rest := [.int (2000 : Int32)]) hC (c_X6_valueOf (G := G) e18) kq6_46 kc_X6_valueOf (by decide) hP hK hD hE hS hA hl.1 (Nat.le_of_ble_eq_true rfl) ⟨Nat.zero_le _, Nat.zero_le _⟩ dX6_faultOf_77 (fun r9 u9 H locs hw hP hD hS => ?_)
              obtain ⟨rfl, rfl⟩ := hw
              refine lv_iadd hx hb dX6_faultOf_80 ?_
              refine lv_istore (lv' := [(5, .int ((2000 : Int32) + q17)), (0, .ref h0), (1, .long x1), (3, .long x3)]) hx hb dX6_faultOf_81 hl (by decide) rfl (fun ls hl => ?_)
              refine lv_lload_n hx hb dX6_faultOf_83 rfl (lv_at hl 2 rfl) ?_
              refine lv_bipush (v := (45 : Int32)) hx hb dX6_faultOf_84 (by decide) ?_
              refine lv_iconst (v := (1 : Int32)) hx hb dX6_faultOf_86 (by decide) ?_
              obtain ⟨q19, e20, hf⟩ := tbd hf
              refine kSi0 (As := [.long x1, .int (45 : Int32), .int (1 : Int32)]) (rest := []) hC (c_X6_valueOf (G := G) e20) kq6_46 kc_X6_valueOf (by decide) hP hK hD hE hS hA hl.1 (Nat.le_of_ble_eq_true rfl) ⟨Nat.zero_le _, Nat.zero_le _⟩ dX6_faultOf_87 (fun r9 u9 H locs hw hP hD hS => ?_)
              obtain ⟨rfl, rfl⟩ := hw
              refine lv_istore (lv' := [(6, .int q19), (5, .int ((2000 : Int32) + q17)), (0, .ref h0), (1, .long x1), (3, .long x3)]) hx hb dX6_faultOf_90 hl (by decide) rfl (fun ls hl => ?_)
              refine lv_lload_n hx hb dX6_faultOf_92 rfl (lv_at hl 3 rfl) ?_
              refine lv_bipush (v := (36 : Int32)) hx hb dX6_faultOf_93 (by decide) ?_
              refine lv_iconst (v := (2 : Int32)) hx hb dX6_faultOf_95 (by decide) ?_
              obtain ⟨q21, e22, hf⟩ := tbd hf
              refine kSi0 (As := [.long x1, .int (36 : Int32), .int (2 : Int32)]) (rest := []) hC (c_X6_valueOf (G := G) e22) kq6_46 kc_X6_valueOf (by decide) hP hK hD hE hS hA hl.1 (Nat.le_of_ble_eq_true rfl) ⟨Nat.zero_le _, Nat.zero_le _⟩ dX6_faultOf_96 (fun r9 u9 H locs hw hP hD hS => ?_)
              obtain ⟨rfl, rfl⟩ := hw
              refine lv_istore (lv' := [(7, .int q21), (6, .int q19), (5, .int ((2000 : Int32) + q17)), (0, .ref h0), (1, .long x1), (3, .long x3)]) hx hb dX6_faultOf_99 hl (by decide) rfl (fun ls hl => ?_)
              refine lv_lload_n hx hb dX6_faultOf_101 rfl (lv_at hl 4 rfl) ?_
              refine lv_bipush (v := (29 : Int32)) hx hb dX6_faultOf_102 (by decide) ?_
              refine lv_iconst (v := (2 : Int32)) hx hb dX6_faultOf_104 (by decide) ?_
              obtain ⟨q23, e24, hf⟩ := tbd hf
              refine kSi0 (As := [.long x1, .int (29 : Int32), .int (2 : Int32)]) (rest := []) hC (c_X6_valueOf (G := G) e24) kq6_46 kc_X6_valueOf (by decide) hP hK hD hE hS hA hl.1 (Nat.le_of_ble_eq_true rfl) ⟨Nat.zero_le _, Nat.zero_le _⟩ dX6_faultOf_105 (fun r9 u9 H locs hw hP hD hS => ?_)
              obtain ⟨rfl, rfl⟩ := hw
              refine lv_istore (lv' := [(8, .int q23), (7, .int q21), (6, .int q19), (5, .int ((2000 : Int32) + q17)), (0, .ref h0), (1, .long x1), (3, .long x3)]) hx hb dX6_faultOf_108 hl (by decide) rfl (fun ls hl => ?_)
              refine lv_lload_n hx hb dX6_faultOf_110 rfl (lv_at hl 5 rfl) ?_
              refine lv_bipush (v := (21 : Int32)) hx hb dX6_faultOf_111 (by decide) ?_
              refine lv_iconst (v := (3 : Int32)) hx hb dX6_faultOf_113 (by decide) ?_
              obtain ⟨q25, e26, hf⟩ := tbd hf
              refine kSi0 (As := [.long x1, .int (21 : Int32), .int (3 : Int32)]) (rest := []) hC (c_X6_valueOf (G := G) e26) kq6_46 kc_X6_valueOf (by decide) hP hK hD hE hS hA hl.1 (Nat.le_of_ble_eq_true rfl) ⟨Nat.zero_le _, Nat.zero_le _⟩ dX6_faultOf_114 (fun r9 u9 H locs hw hP hD hS => ?_)
              obtain ⟨rfl, rfl⟩ := hw
              refine lv_istore (lv' := [(9, .int q25), (8, .int q23), (7, .int q21), (6, .int q19), (5, .int ((2000 : Int32) + q17)), (0, .ref h0), (1, .long x1), (3, .long x3)]) hx hb dX6_faultOf_117 hl (by decide) rfl (fun ls hl => ?_)
              refine lv_iload hx hb dX6_faultOf_119 (lv_at hl 0 rfl) ?_
              refine lv_bipush (v := (59 : Int32)) hx hb dX6_faultOf_121 (by decide) ?_
              refine lv_icmp_gt (tgt := 145) hx hb dX6_faultOf_123 (by decide) (fun c27 => ?_) (fun c27 => ?_)
              · have hf := tp hf c27
                refine lv_bipush (v := (6 : Int32)) hx hb dX6_faultOf_145 (by decide) ?_
                have hf := Option.some.inj hf
                subst hf
                exact e_i (wf := (fun v : Ob => (wX6 G h0 a0 v))) hx hb hr hlk u0 ⟨rfl, rfl⟩ hP hK hD hS dX6_faultOf_147
              · have hf := tn hf c27
                refine lv_iload hx hb dX6_faultOf_126 (lv_at hl 1 rfl) ?_
                refine lv_bipush (v := (23 : Int32)) hx hb dX6_faultOf_128 (by decide) ?_
                refine lv_icmp_gt (tgt := 145) hx hb dX6_faultOf_130 (by decide) (fun c28 => ?_) (fun c28 => ?_)
                · have hf := tp hf c28
                  refine lv_bipush (v := (6 : Int32)) hx hb dX6_faultOf_145 (by decide) ?_
                  have hf := Option.some.inj hf
                  subst hf
                  exact e_i (wf := (fun v : Ob => (wX6 G h0 a0 v))) hx hb hr hlk u0 ⟨rfl, rfl⟩ hP hK hD hS dX6_faultOf_147
                · have hf := tn hf c28
                  refine lv_iload hx hb dX6_faultOf_133 (lv_at hl 4 rfl) ?_
                  refine lv_iload hx hb dX6_faultOf_135 (lv_at hl 3 rfl) ?_
                  refine lv_iload hx hb dX6_faultOf_137 (lv_at hl 2 rfl) ?_
                  obtain ⟨q29, e30, hf⟩ := tbd hf
                  refine kSi0 (As := [.int ((2000 : Int32) + q17), .int q19, .int q21]) (rest := []) hC (c_X6_isDay (G := G) e30) kq5_116 kc_X6_isDay (by decide) hP hK hD hE hS hA hl.1 (Nat.le_of_ble_eq_true rfl) ⟨Nat.zero_le _, Nat.zero_le _⟩ dX6_faultOf_139 (fun r9 u9 H locs hw hP hD hS => ?_)
                  obtain ⟨rfl, rfl⟩ := hw
                  refine bz_ne (tgt := 148) hx hb dX6_faultOf_142 (by decide) (fun c31 => ?_) (fun c31 => ?_)
                  · have hf := tp hf c31
                    refine lv_aload_n hx hb dX6_faultOf_148 rfl (lv_at hl 5 rfl) ?_
                    refine lv_iload hx hb dX6_faultOf_149 (lv_at hl 4 rfl) ?_
                    refine lv_iload hx hb dX6_faultOf_151 (lv_at hl 3 rfl) ?_
                    refine lv_iload hx hb dX6_faultOf_153 (lv_at hl 2 rfl) ?_
                    refine lv_iload hx hb dX6_faultOf_155 (lv_at hl 1 rfl) ?_
                    refine lv_iload hx hb dX6_faultOf_157 (lv_at hl 0 rfl) ?_
                    obtain ⟨q32, e33, hf⟩ := tbd hf
                    refine kSi0 (As := [.int ((2000 : Int32) + q17), .int q19, .int q21, .int q23, .int q25]) (rest := [.ref h0]) hC (c_X6_numberFor (G := G) e33) kq5_124 kc_X6_numberFor (by decide) hP hK hD hE hS hA hl.1 (Nat.le_of_ble_eq_true rfl) ⟨Nat.zero_le _, Nat.zero_le _⟩ dX6_faultOf_159 (fun r9 u9 H locs hw hP hD hS => ?_)
                    obtain ⟨rfl, rfl⟩ := hw
                    refine va_put (D := gD G) (ci := 4) (v := .int q32) (ty := .int) (C := RX6) (T := TX6) (N := 22) hx hb hg kl_X6 tyX6 tyX6_ok nmX6 hown hK hP hD hS 0 rfl rfl 8 (by decide) (hg _ kq5_13) (fun _ h9 => h9) rfl (by decide +kernel) rfl rfl (Nat.le_of_ble_eq_true rfl) dX6_faultOf_162 (fun H locs hP hD hS => ?_)
                    have hP : va_P (gD G) vwCl (wX6 G h0 a0 (oi u0 8 q32)) H := hP
                    have hD : va_D A (wX6 G h0 a0 (oi u0 8 q32)) := hD
                    refine lv_lload_n hx hb dX6_faultOf_165 rfl (lv_at hl 6 rfl) ?_
                    refine lv_bipush (v := (42 : Int32)) hx hb dX6_faultOf_166 (by decide) ?_
                    refine lv_iconst (v := (3 : Int32)) hx hb dX6_faultOf_168 (by decide) ?_
                    obtain ⟨q34, e35, hf⟩ := tbd hf
                    refine kSi0 (As := [.long x1, .int (42 : Int32), .int (3 : Int32)]) (rest := []) hC (c_X6_ones (G := G) e35) kq6_49 kc_X6_ones (by decide) hP hK hD hE hS hA hl.1 (Nat.le_of_ble_eq_true rfl) ⟨Nat.zero_le _, Nat.zero_le _⟩ dX6_faultOf_169 (fun r9 u9 H locs hw hP hD hS => ?_)
                    obtain ⟨rfl, rfl⟩ := hw
                    refine lv_aload_n hx hb dX6_faultOf_172 rfl (lv_at hl 5 rfl) ?_
                    refine va_get (D := gD G) (ci := 4) (v := .int q32) (C := RX6) (T := TX6) (N := 22) hx hb hg kl_X6 hown hK hP 0 rfl rfl 8 (by decide) (hg _ kq5_13) (fun _ h9 => h9) rfl dX6_faultOf_173 ?_
                    refine lv_iconst (v := (5 : Int32)) hx hb dX6_faultOf_176 (by decide) ?_
                    obtain ⟨q36, e37, hf⟩ := tbd hf
                    refine kSi0 (As := [.int q32, .int (5 : Int32)]) (rest := [.int q34]) hC (c_X6_partOf (G := G) e37) kq5_103 kc_X6_partOf (by decide) hP hK hD hE hS hA hl.1 (Nat.le_of_ble_eq_true rfl) ⟨Nat.zero_le _, Nat.zero_le _⟩ dX6_faultOf_177 (fun r9 u9 H locs hw hP hD hS => ?_)
                    obtain ⟨rfl, rfl⟩ := hw
                    refine lv_icmp_ne (tgt := 187) hx hb dX6_faultOf_180 (by decide) (fun c38 => ?_) (fun c38 => ?_)
                    · have hf := tn hf c38
                      refine lv_bipush (v := (7 : Int32)) hx hb dX6_faultOf_187 (by decide) ?_
                      have hf := Option.some.inj hf
                      subst hf
                      exact e_i (wf := (fun v : Ob => (wX6 G h0 a0 v))) hx hb hr hlk (oi u0 8 q32) ⟨rfl, rfl⟩ hP hK hD hS dX6_faultOf_189
                    · have hf := tp hf c38
                      refine lv_iconst (v := (0 : Int32)) hx hb dX6_faultOf_183 (by decide) ?_
                      refine lv_goto (tgt := 189) hx hb dX6_faultOf_184 (by decide) ?_
                      have hf := Option.some.inj hf
                      subst hf
                      exact e_i (wf := (fun v : Ob => (wX6 G h0 a0 v))) hx hb hr hlk (oi u0 8 q32) ⟨rfl, rfl⟩ hP hK hD hS dX6_faultOf_189
                  · have hf := tn hf c31
                    refine lv_bipush (v := (6 : Int32)) hx hb dX6_faultOf_145 (by decide) ?_
                    have hf := Option.some.inj hf
                    subst hf
                    exact e_i (wf := (fun v : Ob => (wX6 G h0 a0 v))) hx hb hr hlk u0 ⟨rfl, rfl⟩ hP hK hD hS dX6_faultOf_147
            · have hf := tp hf c16
              refine lv_iconst (v := (5 : Int32)) hx hb dX6_faultOf_68 (by decide) ?_
              have hf := Option.some.inj hf
              subst hf
              exact e_i (wf := (fun v : Ob => (wX6 G h0 a0 v))) hx hb hr hlk u0 ⟨rfl, rfl⟩ hP hK hD hS dX6_faultOf_69
          · have hf := tp hf c13
            refine lv_iconst (v := (4 : Int32)) hx hb dX6_faultOf_55 (by decide) ?_
            have hf := Option.some.inj hf
            subst hf
            exact e_i (wf := (fun v : Ob => (wX6 G h0 a0 v))) hx hb hr hlk u0 ⟨rfl, rfl⟩ hP hK hD hS dX6_faultOf_56
        · have hf := tp hf c10
          refine lv_iconst (v := (3 : Int32)) hx hb dX6_faultOf_42 (by decide) ?_
          have hf := Option.some.inj hf
          subst hf
          exact e_i (wf := (fun v : Ob => (wX6 G h0 a0 v))) hx hb hr hlk u0 ⟨rfl, rfl⟩ hP hK hD hS dX6_faultOf_43
      · have hf := tn hf c7
        refine lv_iconst (v := (2 : Int32)) hx hb dX6_faultOf_29 (by decide) ?_
        have hf := Option.some.inj hf
        subst hf
        exact e_i (wf := (fun v : Ob => (wX6 G h0 a0 v))) hx hb hr hlk u0 ⟨rfl, rfl⟩ hP hK hD hS dX6_faultOf_30
  · have hf := tn hf c1
    refine lv_iconst (v := (1 : Int32)) hx hb dX6_faultOf_10 (by decide) ?_
    have hf := Option.some.inj hf
    subst hf
    exact e_i (wf := (fun v : Ob => (wX6 G h0 a0 v))) hx hb hr hlk u0 ⟨rfl, rfl⟩ hP hK hD hS dX6_faultOf_11
set_option maxRecDepth 100000 in
set_option maxHeartbeats 4000000 in
theorem c_X6_append {l : Launch} {G : Gp} {sz N : Nat} {x1 : Int32} {x2 : Int32} {x3 : Int32} {x4 : Int32} {x5 : Int32} {h0 : Nat} {a0 : Nat → Nat} {u0 : Ob} {q : Int32 × Ob} (hf : f_X6_append N x1 x2 x3 x4 x5 u0 = some q) : Met l yX6_append (Cond.code yX6_append cX6_append 8 (some .int) :: lw_g) ({ frames := 0, cells := 0, slots := 0, locals := 0 } : Room) (va_Pc [.ref h0, .int x1, .int x2, .int x3, .int x4, .int x5] (pw G (wX6 G h0 a0 u0) sz)) (va_Qi (fun (r : Int32) (v : Ob) => q.1 = r ∧ q.2 = v) (bw G (fun v : Ob => (wX6 G h0 a0 v)) (va_A (wX6 G h0 a0 u0) sz)) (va_A (wX6 G h0 a0 u0) sz)) 0 0 (va_A (wX6 G h0 a0 u0) sz) := by
  refine mt (Qc := (fun A => va_Qi (fun (r : Int32) (v : Ob) => q.1 = r ∧ q.2 = v) (bw G (fun v : Ob => (wX6 G h0 a0 v)) A) A)) (by decide) (Nat.le_of_ble_eq_true rfl) ?_
  intro p e s m below meth c A ls hx hb hr hlk hml hts hown hA hP hK hD hE hS hl
  have hown : s.vm.findClass RX6 = some m.cls := hown
  have hg : ∀ w ∈ lw_g, w.before ([.ref h0, .int x1, .int x2, .int x3, .int x4, .int x5] : List Value).toArray s = true := fun w h => hts w (List.mem_cons_of_mem _ h)
  have hC : CallFix p m c cX6_append 8 s ([.ref h0, .int x1, .int x2, .int x3, .int x4, .int x5] : List Value).toArray (Cond.code yX6_append cX6_append 8 (some .int) :: lw_g) RX6 := ⟨hx, hb, hml, hown, hts⟩
  have hl : lv_has ls 8 [(0, .ref h0), (1, .int x1), (2, .int x2), (3, .int x3), (4, .int x4), (5, .int x5)] := hl
  have lp_34 : ∀ (n : Nat) (x6 : Int32) (u0 : Ob), l_X6_append_34 N x1 x2 x3 x4 x5 n x6 u0 = some q → ∀ (H : Heap) (locs : List Loc) (ls : Array Slot), va_P (gD G) vwCl (wX6 G h0 a0 u0) H → va_D A (wX6 G h0 a0 u0) → va_S A s.heap H locs → lv_has ls 8 [(0, .ref h0), (1, .int x1), (2, .int x2), (3, .int x3), (4, .int x4), (5, .int x5), (6, .int x6)] → W p l e ({ frames := 0, cells := 0, slots := 0, locals := 0 } : Room) s m ([.ref h0, .int x1, .int x2, .int x3, .int x4, .int x5] : List Value).toArray below meth c H locs 0 0 (MQ below (va_Qi (fun (r : Int32) (v : Ob) => q.1 = r ∧ q.2 = v) (bw G (fun v : Ob => (wX6 G h0 a0 v)) A) A) ([.ref h0, .int x1, .int x2, .int x3, .int x4, .int x5] : List Value).toArray s 0 0 A) (F0 m 34 ls []) := by
    intro n
    induction n with
    | zero => intro x6 u0 hf; rw [l_X6_append_34] at hf; cases hf
    | succ n ih =>
      intro x6 u0 hf H locs ls hP hD hS hl
      rw [l_X6_append_34] at hf
      refine lv_iload hx hb dX6_append_34 (lv_at hl 6 rfl) ?_
      refine lv_bipush (v := (20 : Int32)) hx hb dX6_append_36 (by decide) ?_
      refine lv_icmp_ge (tgt := 131) hx hb dX6_append_38 (by decide) (fun c3 => ?_) (fun c3 => ?_)
      · have hf := tp hf c3
        refine lv_aload_n hx hb dX6_append_131 rfl (lv_at hl 0 rfl) ?_
        refine va_get (D := gD G) (ci := 4) (v := .int (u0.1 10)) (C := RX6) (T := TX6) (N := 22) hx hb hg kl_X6 hown hK hP 0 rfl rfl 10 (by decide) (hg _ kq5_15) (fun _ h9 => h9) rfl dX6_append_132 ?_
        have hf := Option.some.inj hf
        subst hf
        exact e_i (wf := (fun v : Ob => (wX6 G h0 a0 v))) hx hb hr hlk u0 ⟨rfl, rfl⟩ hP hK hD hS dX6_append_135
      · have hf := tn hf c3
        refine lv_iload hx hb dX6_append_41 (lv_at hl 6 rfl) ?_
        refine lv_iconst (v := (4 : Int32)) hx hb dX6_append_43 (by decide) ?_
        refine lv_icmp_ge (tgt := 51) hx hb dX6_append_44 (by decide) (fun c4 => ?_) (fun c4 => ?_)
        · have hf := tp hf c4
          refine lv_iload hx hb dX6_append_51 (lv_at hl 6 rfl) ?_
          refine lv_bipush (v := (8 : Int32)) hx hb dX6_append_53 (by decide) ?_
          refine lv_icmp_ge (tgt := 62) hx hb dX6_append_55 (by decide) (fun c5 => ?_) (fun c5 => ?_)
          · have hf := tp hf c5
            refine lv_iload hx hb dX6_append_62 (lv_at hl 6 rfl) ?_
            refine lv_bipush (v := (12 : Int32)) hx hb dX6_append_64 (by decide) ?_
            refine lv_icmp_ge (tgt := 73) hx hb dX6_append_66 (by decide) (fun c6 => ?_) (fun c6 => ?_)
            · have hf := tp hf c6
              refine lv_iload hx hb dX6_append_73 (lv_at hl 6 rfl) ?_
              refine lv_bipush (v := (16 : Int32)) hx hb dX6_append_75 (by decide) ?_
              refine lv_icmp_ge (tgt := 85) hx hb dX6_append_77 (by decide) (fun c7 => ?_) (fun c7 => ?_)
              · have hf := tp hf c7
                refine lv_iload hx hb dX6_append_85 (lv_at hl 5 rfl) ?_
                refine lv_istore (lv' := [(7, .int x5), (0, .ref h0), (1, .int x1), (2, .int x2), (3, .int x3), (4, .int x4), (5, .int x5), (6, .int x6)]) hx hb dX6_append_87 hl (by decide) rfl (fun ls hl => ?_)
                refine lv_aload_n hx hb dX6_append_89 rfl (lv_at hl 1 rfl) ?_
                refine va_get (D := gD G) (ci := 4) (v := .ref (a0 9)) (C := RX6) (T := TX6) (N := 22) hx hb hg kl_X6 hown hK hP 0 rfl rfl 9 (by decide) (hg _ kq5_14) (fun _ h9 => h9) rfl dX6_append_90 ?_
                refine lv_aload_n hx hb dX6_append_93 rfl (lv_at hl 1 rfl) ?_
                refine va_get (D := gD G) (ci := 4) (v := .int (u0.1 10)) (C := RX6) (T := TX6) (N := 22) hx hb hg kl_X6 hown hK hP 0 rfl rfl 10 (by decide) (hg _ kq5_15) (fun _ h9 => h9) rfl dX6_append_94 ?_
                refine lv_iload hx hb dX6_append_97 (lv_at hl 0 rfl) ?_
                refine lv_bipush (v := (24 : Int32)) hx hb dX6_append_99 (by decide) ?_
                refine lv_bipush (v := (8 : Int32)) hx hb dX6_append_101 (by decide) ?_
                refine lv_iload hx hb dX6_append_103 (lv_at hl 7 rfl) ?_
                refine lv_iconst (v := (4 : Int32)) hx hb dX6_append_105 (by decide) ?_
                refine lv_irem hx hb dX6_append_106 (by decide) ?_
                refine lv_imul hx hb dX6_append_107 ?_
                refine lv_isub hx hb dX6_append_108 ?_
                refine lv_ishr hx hb dX6_append_109 ?_
                refine lv_sipush (v := (255 : Int32)) hx hb dX6_append_110 (by decide) ?_
                refine lv_iand hx hb dX6_append_113 ?_
                obtain ⟨b8, hf⟩ := tno hf
                refine va_iast (f := (u0.2.2.1 9)) hx hb hK hP hD hS 7 1 rfl rfl b8 dX6_append_114 (fun H locs hP hD hS => ?_)
                have hP : va_P (gD G) vwCl (wX6 G h0 a0 (oa u0 9 (upd (u0.2.2.1 9) (u0.1 10).toNatClampNeg ((x5 >>> (((24 : Int32) - ((8 : Int32) * (x6 - x6 / (4 : Int32) * (4 : Int32)))) &&& 31)) &&& (255 : Int32))))) H := hP
                have hD : va_D A (wX6 G h0 a0 (oa u0 9 (upd (u0.2.2.1 9) (u0.1 10).toNatClampNeg ((x5 >>> (((24 : Int32) - ((8 : Int32) * (x6 - x6 / (4 : Int32) * (4 : Int32)))) &&& 31)) &&& (255 : Int32))))) := hD
                refine lv_aload_n hx hb dX6_append_115 rfl (lv_at hl 1 rfl) ?_
                refine lv_dup hx hb dX6_append_116 rfl ?_
                refine va_get (D := gD G) (ci := 4) (v := .int (u0.1 10)) (C := RX6) (T := TX6) (N := 22) hx hb hg kl_X6 hown hK hP 0 rfl rfl 10 (by decide) (hg _ kq5_15) (fun _ h9 => h9) rfl dX6_append_117 ?_
                refine lv_iconst (v := (1 : Int32)) hx hb dX6_append_120 (by decide) ?_
                refine lv_iadd hx hb dX6_append_121 ?_
                refine va_put (D := gD G) (ci := 4) (v := .int ((u0.1 10) + (1 : Int32))) (ty := .int) (C := RX6) (T := TX6) (N := 22) hx hb hg kl_X6 tyX6 tyX6_ok nmX6 hown hK hP hD hS 0 rfl rfl 10 (by decide) (hg _ kq5_15) (fun _ h9 => h9) rfl (by decide +kernel) rfl rfl (Nat.le_of_ble_eq_true rfl) dX6_append_122 (fun H locs hP hD hS => ?_)
                have hP : va_P (gD G) vwCl (wX6 G h0 a0 (oi (oa u0 9 (upd (u0.2.2.1 9) (u0.1 10).toNatClampNeg ((x5 >>> (((24 : Int32) - ((8 : Int32) * (x6 - x6 / (4 : Int32) * (4 : Int32)))) &&& 31)) &&& (255 : Int32)))) 10 ((u0.1 10) + (1 : Int32)))) H := hP
                have hD : va_D A (wX6 G h0 a0 (oi (oa u0 9 (upd (u0.2.2.1 9) (u0.1 10).toNatClampNeg ((x5 >>> (((24 : Int32) - ((8 : Int32) * (x6 - x6 / (4 : Int32) * (4 : Int32)))) &&& 31)) &&& (255 : Int32)))) 10 ((u0.1 10) + (1 : Int32)))) := hD
                refine lv_iinc (v := (x6 + (1 : Int32))) (lv' := [(6, .int (x6 + (1 : Int32))), (7, .int x5), (0, .ref h0), (1, .int x1), (2, .int x2), (3, .int x3), (4, .int x4), (5, .int x5)]) hx hb dX6_append_125 hl (k := 7) rfl rfl (by decide) rfl (fun ls hl => ?_)
                refine lv_goto (tgt := 34) hx hb dX6_append_128 (by decide) ?_
                exact ih _ _ hf _ _ _ hP hD hS (lv_sub hl [2, 3, 4, 5, 6, 7, 0] rfl)
              · have hf := tn hf c7
                refine lv_iload hx hb dX6_append_80 (lv_at hl 4 rfl) ?_
                refine lv_goto (tgt := 87) hx hb dX6_append_82 (by decide) ?_
                refine lv_istore (lv' := [(7, .int x4), (0, .ref h0), (1, .int x1), (2, .int x2), (3, .int x3), (4, .int x4), (5, .int x5), (6, .int x6)]) hx hb dX6_append_87 hl (by decide) rfl (fun ls hl => ?_)
                refine lv_aload_n hx hb dX6_append_89 rfl (lv_at hl 1 rfl) ?_
                refine va_get (D := gD G) (ci := 4) (v := .ref (a0 9)) (C := RX6) (T := TX6) (N := 22) hx hb hg kl_X6 hown hK hP 0 rfl rfl 9 (by decide) (hg _ kq5_14) (fun _ h9 => h9) rfl dX6_append_90 ?_
                refine lv_aload_n hx hb dX6_append_93 rfl (lv_at hl 1 rfl) ?_
                refine va_get (D := gD G) (ci := 4) (v := .int (u0.1 10)) (C := RX6) (T := TX6) (N := 22) hx hb hg kl_X6 hown hK hP 0 rfl rfl 10 (by decide) (hg _ kq5_15) (fun _ h9 => h9) rfl dX6_append_94 ?_
                refine lv_iload hx hb dX6_append_97 (lv_at hl 0 rfl) ?_
                refine lv_bipush (v := (24 : Int32)) hx hb dX6_append_99 (by decide) ?_
                refine lv_bipush (v := (8 : Int32)) hx hb dX6_append_101 (by decide) ?_
                refine lv_iload hx hb dX6_append_103 (lv_at hl 7 rfl) ?_
                refine lv_iconst (v := (4 : Int32)) hx hb dX6_append_105 (by decide) ?_
                refine lv_irem hx hb dX6_append_106 (by decide) ?_
                refine lv_imul hx hb dX6_append_107 ?_
                refine lv_isub hx hb dX6_append_108 ?_
                refine lv_ishr hx hb dX6_append_109 ?_
                refine lv_sipush (v := (255 : Int32)) hx hb dX6_append_110 (by decide) ?_
                refine lv_iand hx hb dX6_append_113 ?_
                obtain ⟨b9, hf⟩ := tno hf
                refine va_iast (f := (u0.2.2.1 9)) hx hb hK hP hD hS 7 1 rfl rfl b9 dX6_append_114 (fun H locs hP hD hS => ?_)
                have hP : va_P (gD G) vwCl (wX6 G h0 a0 (oa u0 9 (upd (u0.2.2.1 9) (u0.1 10).toNatClampNeg ((x4 >>> (((24 : Int32) - ((8 : Int32) * (x6 - x6 / (4 : Int32) * (4 : Int32)))) &&& 31)) &&& (255 : Int32))))) H := hP
                have hD : va_D A (wX6 G h0 a0 (oa u0 9 (upd (u0.2.2.1 9) (u0.1 10).toNatClampNeg ((x4 >>> (((24 : Int32) - ((8 : Int32) * (x6 - x6 / (4 : Int32) * (4 : Int32)))) &&& 31)) &&& (255 : Int32))))) := hD
                refine lv_aload_n hx hb dX6_append_115 rfl (lv_at hl 1 rfl) ?_
                refine lv_dup hx hb dX6_append_116 rfl ?_
                refine va_get (D := gD G) (ci := 4) (v := .int (u0.1 10)) (C := RX6) (T := TX6) (N := 22) hx hb hg kl_X6 hown hK hP 0 rfl rfl 10 (by decide) (hg _ kq5_15) (fun _ h9 => h9) rfl dX6_append_117 ?_
                refine lv_iconst (v := (1 : Int32)) hx hb dX6_append_120 (by decide) ?_
                refine lv_iadd hx hb dX6_append_121 ?_
                refine va_put (D := gD G) (ci := 4) (v := .int ((u0.1 10) + (1 : Int32))) (ty := .int) (C := RX6) (T := TX6) (N := 22) hx hb hg kl_X6 tyX6 tyX6_ok nmX6 hown hK hP hD hS 0 rfl rfl 10 (by decide) (hg _ kq5_15) (fun _ h9 => h9) rfl (by decide +kernel) rfl rfl (Nat.le_of_ble_eq_true rfl) dX6_append_122 (fun H locs hP hD hS => ?_)
                have hP : va_P (gD G) vwCl (wX6 G h0 a0 (oi (oa u0 9 (upd (u0.2.2.1 9) (u0.1 10).toNatClampNeg ((x4 >>> (((24 : Int32) - ((8 : Int32) * (x6 - x6 / (4 : Int32) * (4 : Int32)))) &&& 31)) &&& (255 : Int32)))) 10 ((u0.1 10) + (1 : Int32)))) H := hP
                have hD : va_D A (wX6 G h0 a0 (oi (oa u0 9 (upd (u0.2.2.1 9) (u0.1 10).toNatClampNeg ((x4 >>> (((24 : Int32) - ((8 : Int32) * (x6 - x6 / (4 : Int32) * (4 : Int32)))) &&& 31)) &&& (255 : Int32)))) 10 ((u0.1 10) + (1 : Int32)))) := hD
                refine lv_iinc (v := (x6 + (1 : Int32))) (lv' := [(6, .int (x6 + (1 : Int32))), (7, .int x4), (0, .ref h0), (1, .int x1), (2, .int x2), (3, .int x3), (4, .int x4), (5, .int x5)]) hx hb dX6_append_125 hl (k := 7) rfl rfl (by decide) rfl (fun ls hl => ?_)
                refine lv_goto (tgt := 34) hx hb dX6_append_128 (by decide) ?_
                exact ih _ _ hf _ _ _ hP hD hS (lv_sub hl [2, 3, 4, 5, 6, 7, 0] rfl)
            · have hf := tn hf c6
              refine lv_iload_n hx hb dX6_append_69 rfl (lv_at hl 3 rfl) ?_
              refine lv_goto (tgt := 87) hx hb dX6_append_70 (by decide) ?_
              refine lv_istore (lv' := [(7, .int x3), (0, .ref h0), (1, .int x1), (2, .int x2), (3, .int x3), (4, .int x4), (5, .int x5), (6, .int x6)]) hx hb dX6_append_87 hl (by decide) rfl (fun ls hl => ?_)
              refine lv_aload_n hx hb dX6_append_89 rfl (lv_at hl 1 rfl) ?_
              refine va_get (D := gD G) (ci := 4) (v := .ref (a0 9)) (C := RX6) (T := TX6) (N := 22) hx hb hg kl_X6 hown hK hP 0 rfl rfl 9 (by decide) (hg _ kq5_14) (fun _ h9 => h9) rfl dX6_append_90 ?_
              refine lv_aload_n hx hb dX6_append_93 rfl (lv_at hl 1 rfl) ?_
              refine va_get (D := gD G) (ci := 4) (v := .int (u0.1 10)) (C := RX6) (T := TX6) (N := 22) hx hb hg kl_X6 hown hK hP 0 rfl rfl 10 (by decide) (hg _ kq5_15) (fun _ h9 => h9) rfl dX6_append_94 ?_
              refine lv_iload hx hb dX6_append_97 (lv_at hl 0 rfl) ?_
              refine lv_bipush (v := (24 : Int32)) hx hb dX6_append_99 (by decide) ?_
              refine lv_bipush (v := (8 : Int32)) hx hb dX6_append_101 (by decide) ?_
              refine lv_iload hx hb dX6_append_103 (lv_at hl 7 rfl) ?_
              refine lv_iconst (v := (4 : Int32)) hx hb dX6_append_105 (by decide) ?_
              refine lv_irem hx hb dX6_append_106 (by decide) ?_
              refine lv_imul hx hb dX6_append_107 ?_
              refine lv_isub hx hb dX6_append_108 ?_
              refine lv_ishr hx hb dX6_append_109 ?_
              refine lv_sipush (v := (255 : Int32)) hx hb dX6_append_110 (by decide) ?_
              refine lv_iand hx hb dX6_append_113 ?_
              obtain ⟨b10, hf⟩ := tno hf
              refine va_iast (f := (u0.2.2.1 9)) hx hb hK hP hD hS 7 1 rfl rfl b10 dX6_append_114 (fun H locs hP hD hS => ?_)
              have hP : va_P (gD G) vwCl (wX6 G h0 a0 (oa u0 9 (upd (u0.2.2.1 9) (u0.1 10).toNatClampNeg ((x3 >>> (((24 : Int32) - ((8 : Int32) * (x6 - x6 / (4 : Int32) * (4 : Int32)))) &&& 31)) &&& (255 : Int32))))) H := hP
              have hD : va_D A (wX6 G h0 a0 (oa u0 9 (upd (u0.2.2.1 9) (u0.1 10).toNatClampNeg ((x3 >>> (((24 : Int32) - ((8 : Int32) * (x6 - x6 / (4 : Int32) * (4 : Int32)))) &&& 31)) &&& (255 : Int32))))) := hD
              refine lv_aload_n hx hb dX6_append_115 rfl (lv_at hl 1 rfl) ?_
              refine lv_dup hx hb dX6_append_116 rfl ?_
              refine va_get (D := gD G) (ci := 4) (v := .int (u0.1 10)) (C := RX6) (T := TX6) (N := 22) hx hb hg kl_X6 hown hK hP 0 rfl rfl 10 (by decide) (hg _ kq5_15) (fun _ h9 => h9) rfl dX6_append_117 ?_
              refine lv_iconst (v := (1 : Int32)) hx hb dX6_append_120 (by decide) ?_
              refine lv_iadd hx hb dX6_append_121 ?_
              refine va_put (D := gD G) (ci := 4) (v := .int ((u0.1 10) + (1 : Int32))) (ty := .int) (C := RX6) (T := TX6) (N := 22) hx hb hg kl_X6 tyX6 tyX6_ok nmX6 hown hK hP hD hS 0 rfl rfl 10 (by decide) (hg _ kq5_15) (fun _ h9 => h9) rfl (by decide +kernel) rfl rfl (Nat.le_of_ble_eq_true rfl) dX6_append_122 (fun H locs hP hD hS => ?_)
              have hP : va_P (gD G) vwCl (wX6 G h0 a0 (oi (oa u0 9 (upd (u0.2.2.1 9) (u0.1 10).toNatClampNeg ((x3 >>> (((24 : Int32) - ((8 : Int32) * (x6 - x6 / (4 : Int32) * (4 : Int32)))) &&& 31)) &&& (255 : Int32)))) 10 ((u0.1 10) + (1 : Int32)))) H := hP
              have hD : va_D A (wX6 G h0 a0 (oi (oa u0 9 (upd (u0.2.2.1 9) (u0.1 10).toNatClampNeg ((x3 >>> (((24 : Int32) - ((8 : Int32) * (x6 - x6 / (4 : Int32) * (4 : Int32)))) &&& 31)) &&& (255 : Int32)))) 10 ((u0.1 10) + (1 : Int32)))) := hD
              refine lv_iinc (v := (x6 + (1 : Int32))) (lv' := [(6, .int (x6 + (1 : Int32))), (7, .int x3), (0, .ref h0), (1, .int x1), (2, .int x2), (3, .int x3), (4, .int x4), (5, .int x5)]) hx hb dX6_append_125 hl (k := 7) rfl rfl (by decide) rfl (fun ls hl => ?_)
              refine lv_goto (tgt := 34) hx hb dX6_append_128 (by decide) ?_
              exact ih _ _ hf _ _ _ hP hD hS (lv_sub hl [2, 3, 4, 5, 6, 7, 0] rfl)
          · have hf := tn hf c5
            refine lv_iload_n hx hb dX6_append_58 rfl (lv_at hl 2 rfl) ?_
            refine lv_goto (tgt := 87) hx hb dX6_append_59 (by decide) ?_
            refine lv_istore (lv' := [(7, .int x2), (0, .ref h0), (1, .int x1), (2, .int x2), (3, .int x3), (4, .int x4), (5, .int x5), (6, .int x6)]) hx hb dX6_append_87 hl (by decide) rfl (fun ls hl => ?_)
            refine lv_aload_n hx hb dX6_append_89 rfl (lv_at hl 1 rfl) ?_
            refine va_get (D := gD G) (ci := 4) (v := .ref (a0 9)) (C := RX6) (T := TX6) (N := 22) hx hb hg kl_X6 hown hK hP 0 rfl rfl 9 (by decide) (hg _ kq5_14) (fun _ h9 => h9) rfl dX6_append_90 ?_
            refine lv_aload_n hx hb dX6_append_93 rfl (lv_at hl 1 rfl) ?_
            refine va_get (D := gD G) (ci := 4) (v := .int (u0.1 10)) (C := RX6) (T := TX6) (N := 22) hx hb hg kl_X6 hown hK hP 0 rfl rfl 10 (by decide) (hg _ kq5_15) (fun _ h9 => h9) rfl dX6_append_94 ?_
            refine lv_iload hx hb dX6_append_97 (lv_at hl 0 rfl) ?_
            refine lv_bipush (v := (24 : Int32)) hx hb dX6_append_99 (by decide) ?_
            refine lv_bipush (v := (8 : Int32)) hx hb dX6_append_101 (by decide) ?_
            refine lv_iload hx hb dX6_append_103 (lv_at hl 7 rfl) ?_
            refine lv_iconst (v := (4 : Int32)) hx hb dX6_append_105 (by decide) ?_
            refine lv_irem hx hb dX6_append_106 (by decide) ?_
            refine lv_imul hx hb dX6_append_107 ?_
            refine lv_isub hx hb dX6_append_108 ?_
            refine lv_ishr hx hb dX6_append_109 ?_
            refine lv_sipush (v := (255 : Int32)) hx hb dX6_append_110 (by decide) ?_
            refine lv_iand hx hb dX6_append_113 ?_
            obtain ⟨b11, hf⟩ := tno hf
            refine va_iast (f := (u0.2.2.1 9)) hx hb hK hP hD hS 7 1 rfl rfl b11 dX6_append_114 (fun H locs hP hD hS => ?_)
            have hP : va_P (gD G) vwCl (wX6 G h0 a0 (oa u0 9 (upd (u0.2.2.1 9) (u0.1 10).toNatClampNeg ((x2 >>> (((24 : Int32) - ((8 : Int32) * (x6 - x6 / (4 : Int32) * (4 : Int32)))) &&& 31)) &&& (255 : Int32))))) H := hP
            have hD : va_D A (wX6 G h0 a0 (oa u0 9 (upd (u0.2.2.1 9) (u0.1 10).toNatClampNeg ((x2 >>> (((24 : Int32) - ((8 : Int32) * (x6 - x6 / (4 : Int32) * (4 : Int32)))) &&& 31)) &&& (255 : Int32))))) := hD
            refine lv_aload_n hx hb dX6_append_115 rfl (lv_at hl 1 rfl) ?_
            refine lv_dup hx hb dX6_append_116 rfl ?_
            refine va_get (D := gD G) (ci := 4) (v := .int (u0.1 10)) (C := RX6) (T := TX6) (N := 22) hx hb hg kl_X6 hown hK hP 0 rfl rfl 10 (by decide) (hg _ kq5_15) (fun _ h9 => h9) rfl dX6_append_117 ?_
            refine lv_iconst (v := (1 : Int32)) hx hb dX6_append_120 (by decide) ?_
            refine lv_iadd hx hb dX6_append_121 ?_
            refine va_put (D := gD G) (ci := 4) (v := .int ((u0.1 10) + (1 : Int32))) (ty := .int) (C := RX6) (T := TX6) (N := 22) hx hb hg kl_X6 tyX6 tyX6_ok nmX6 hown hK hP hD hS 0 rfl rfl 10 (by decide) (hg _ kq5_15) (fun _ h9 => h9) rfl (by decide +kernel) rfl rfl (Nat.le_of_ble_eq_true rfl) dX6_append_122 (fun H locs hP hD hS => ?_)
            have hP : va_P (gD G) vwCl (wX6 G h0 a0 (oi (oa u0 9 (upd (u0.2.2.1 9) (u0.1 10).toNatClampNeg ((x2 >>> (((24 : Int32) - ((8 : Int32) * (x6 - x6 / (4 : Int32) * (4 : Int32)))) &&& 31)) &&& (255 : Int32)))) 10 ((u0.1 10) + (1 : Int32)))) H := hP
            have hD : va_D A (wX6 G h0 a0 (oi (oa u0 9 (upd (u0.2.2.1 9) (u0.1 10).toNatClampNeg ((x2 >>> (((24 : Int32) - ((8 : Int32) * (x6 - x6 / (4 : Int32) * (4 : Int32)))) &&& 31)) &&& (255 : Int32)))) 10 ((u0.1 10) + (1 : Int32)))) := hD
            refine lv_iinc (v := (x6 + (1 : Int32))) (lv' := [(6, .int (x6 + (1 : Int32))), (7, .int x2), (0, .ref h0), (1, .int x1), (2, .int x2), (3, .int x3), (4, .int x4), (5, .int x5)]) hx hb dX6_append_125 hl (k := 7) rfl rfl (by decide) rfl (fun ls hl => ?_)
            refine lv_goto (tgt := 34) hx hb dX6_append_128 (by decide) ?_
            exact ih _ _ hf _ _ _ hP hD hS (lv_sub hl [2, 3, 4, 5, 6, 7, 0] rfl)
        · have hf := tn hf c4
          refine lv_iload_n hx hb dX6_append_47 rfl (lv_at hl 1 rfl) ?_
          refine lv_goto (tgt := 87) hx hb dX6_append_48 (by decide) ?_
          refine lv_istore (lv' := [(7, .int x1), (0, .ref h0), (1, .int x1), (2, .int x2), (3, .int x3), (4, .int x4), (5, .int x5), (6, .int x6)]) hx hb dX6_append_87 hl (by decide) rfl (fun ls hl => ?_)
          refine lv_aload_n hx hb dX6_append_89 rfl (lv_at hl 1 rfl) ?_
          refine va_get (D := gD G) (ci := 4) (v := .ref (a0 9)) (C := RX6) (T := TX6) (N := 22) hx hb hg kl_X6 hown hK hP 0 rfl rfl 9 (by decide) (hg _ kq5_14) (fun _ h9 => h9) rfl dX6_append_90 ?_
          refine lv_aload_n hx hb dX6_append_93 rfl (lv_at hl 1 rfl) ?_
          refine va_get (D := gD G) (ci := 4) (v := .int (u0.1 10)) (C := RX6) (T := TX6) (N := 22) hx hb hg kl_X6 hown hK hP 0 rfl rfl 10 (by decide) (hg _ kq5_15) (fun _ h9 => h9) rfl dX6_append_94 ?_
          refine lv_iload hx hb dX6_append_97 (lv_at hl 0 rfl) ?_
          refine lv_bipush (v := (24 : Int32)) hx hb dX6_append_99 (by decide) ?_
          refine lv_bipush (v := (8 : Int32)) hx hb dX6_append_101 (by decide) ?_
          refine lv_iload hx hb dX6_append_103 (lv_at hl 7 rfl) ?_
          refine lv_iconst (v := (4 : Int32)) hx hb dX6_append_105 (by decide) ?_
          refine lv_irem hx hb dX6_append_106 (by decide) ?_
          refine lv_imul hx hb dX6_append_107 ?_
          refine lv_isub hx hb dX6_append_108 ?_
          refine lv_ishr hx hb dX6_append_109 ?_
          refine lv_sipush (v := (255 : Int32)) hx hb dX6_append_110 (by decide) ?_
          refine lv_iand hx hb dX6_append_113 ?_
          obtain ⟨b12, hf⟩ := tno hf
          refine va_iast (f := (u0.2.2.1 9)) hx hb hK hP hD hS 7 1 rfl rfl b12 dX6_append_114 (fun H locs hP hD hS => ?_)
          have hP : va_P (gD G) vwCl (wX6 G h0 a0 (oa u0 9 (upd (u0.2.2.1 9) (u0.1 10).toNatClampNeg ((x1 >>> (((24 : Int32) - ((8 : Int32) * (x6 - x6 / (4 : Int32) * (4 : Int32)))) &&& 31)) &&& (255 : Int32))))) H := hP
          have hD : va_D A (wX6 G h0 a0 (oa u0 9 (upd (u0.2.2.1 9) (u0.1 10).toNatClampNeg ((x1 >>> (((24 : Int32) - ((8 : Int32) * (x6 - x6 / (4 : Int32) * (4 : Int32)))) &&& 31)) &&& (255 : Int32))))) := hD
          refine lv_aload_n hx hb dX6_append_115 rfl (lv_at hl 1 rfl) ?_
          refine lv_dup hx hb dX6_append_116 rfl ?_
          refine va_get (D := gD G) (ci := 4) (v := .int (u0.1 10)) (C := RX6) (T := TX6) (N := 22) hx hb hg kl_X6 hown hK hP 0 rfl rfl 10 (by decide) (hg _ kq5_15) (fun _ h9 => h9) rfl dX6_append_117 ?_
          refine lv_iconst (v := (1 : Int32)) hx hb dX6_append_120 (by decide) ?_
          refine lv_iadd hx hb dX6_append_121 ?_
          refine va_put (D := gD G) (ci := 4) (v := .int ((u0.1 10) + (1 : Int32))) (ty := .int) (C := RX6) (T := TX6) (N := 22) hx hb hg kl_X6 tyX6 tyX6_ok nmX6 hown hK hP hD hS 0 rfl rfl 10 (by decide) (hg _ kq5_15) (fun _ h9 => h9) rfl (by decide +kernel) rfl rfl (Nat.le_of_ble_eq_true rfl) dX6_append_122 (fun H locs hP hD hS => ?_)
          have hP : va_P (gD G) vwCl (wX6 G h0 a0 (oi (oa u0 9 (upd (u0.2.2.1 9) (u0.1 10).toNatClampNeg ((x1 >>> (((24 : Int32) - ((8 : Int32) * (x6 - x6 / (4 : Int32) * (4 : Int32)))) &&& 31)) &&& (255 : Int32)))) 10 ((u0.1 10) + (1 : Int32)))) H := hP
          have hD : va_D A (wX6 G h0 a0 (oi (oa u0 9 (upd (u0.2.2.1 9) (u0.1 10).toNatClampNeg ((x1 >>> (((24 : Int32) - ((8 : Int32) * (x6 - x6 / (4 : Int32) * (4 : Int32)))) &&& 31)) &&& (255 : Int32)))) 10 ((u0.1 10) + (1 : Int32)))) := hD
          refine lv_iinc (v := (x6 + (1 : Int32))) (lv' := [(6, .int (x6 + (1 : Int32))), (7, .int x1), (0, .ref h0), (1, .int x1), (2, .int x2), (3, .int x3), (4, .int x4), (5, .int x5)]) hx hb dX6_append_125 hl (k := 7) rfl rfl (by decide) rfl (fun ls hl => ?_)
          refine lv_goto (tgt := 34) hx hb dX6_append_128 (by decide) ?_
          exact ih _ _ hf _ _ _ hP hD hS (lv_sub hl [2, 3, 4, 5, 6, 7, 0] rfl)
  rw [f_X6_append] at hf
  refine lv_aload_n hx hb dX6_append_0 rfl (lv_at hl 0 rfl) ?_
  refine lv_aload_n hx hb dX6_append_1 rfl (lv_at hl 0 rfl) ?_
  refine va_get (D := gD G) (ci := 4) (v := .int (u0.1 10)) (C := RX6) (T := TX6) (N := 22) hx hb hg kl_X6 hown hK hP 0 rfl rfl 10 (by decide) (hg _ kq5_15) (fun _ h9 => h9) rfl dX6_append_2 ?_
  refine lv_bipush (v := (20 : Int32)) hx hb dX6_append_5 (by decide) ?_
  refine lv_iadd hx hb dX6_append_7 ?_
  refine lv_sipush (v := (600 : Int32)) hx hb dX6_append_8 (by decide) ?_
  refine lv_icmp_le (tgt := 18) hx hb dX6_append_11 (by decide) (fun c1 => ?_) (fun c1 => ?_)
  · have hf := tp hf c1
    refine lv_iconst (v := (0 : Int32)) hx hb dX6_append_18 (by decide) ?_
    refine va_put (D := gD G) (ci := 4) (v := .int (0 : Int32)) (ty := .int) (C := RX6) (T := TX6) (N := 22) hx hb hg kl_X6 tyX6 tyX6_ok nmX6 hown hK hP hD hS 0 rfl rfl 7 (by decide) (hg _ kq5_12) (fun _ h9 => h9) rfl (by decide +kernel) rfl rfl (Nat.le_of_ble_eq_true rfl) dX6_append_19 (fun H locs hP hD hS => ?_)
    have hP : va_P (gD G) vwCl (wX6 G h0 a0 (oi u0 7 (0 : Int32))) H := hP
    have hD : va_D A (wX6 G h0 a0 (oi u0 7 (0 : Int32))) := hD
    refine lv_aload_n hx hb dX6_append_22 rfl (lv_at hl 0 rfl) ?_
    refine va_get (D := gD G) (ci := 4) (v := .int (0 : Int32)) (C := RX6) (T := TX6) (N := 22) hx hb hg kl_X6 hown hK hP 0 rfl rfl 7 (by decide) (hg _ kq5_12) (fun _ h9 => h9) rfl dX6_append_23 ?_
    refine lv_if_le (tgt := 31) hx hb dX6_append_26 (by decide) (fun c2 => ?_) (fun c2 => ?_)
    rotate_left
    · exact absurd c2 (by decide)
    refine lv_iconst (v := (0 : Int32)) hx hb dX6_append_31 (by decide) ?_
    refine lv_istore (lv' := [(6, .int (0 : Int32)), (0, .ref h0), (1, .int x1), (2, .int x2), (3, .int x3), (4, .int x4), (5, .int x5)]) hx hb dX6_append_32 hl (by decide) rfl (fun ls hl => ?_)
    exact lp_34 N _ _ hf _ _ _ hP hD hS (lv_sub hl [1, 2, 3, 4, 5, 6, 0] rfl)
  · have hf := tn hf c1
    refine lv_iconst (v := (1 : Int32)) hx hb dX6_append_14 (by decide) ?_
    refine lv_goto (tgt := 19) hx hb dX6_append_15 (by decide) ?_
    refine va_put (D := gD G) (ci := 4) (v := .int (1 : Int32)) (ty := .int) (C := RX6) (T := TX6) (N := 22) hx hb hg kl_X6 tyX6 tyX6_ok nmX6 hown hK hP hD hS 0 rfl rfl 7 (by decide) (hg _ kq5_12) (fun _ h9 => h9) rfl (by decide +kernel) rfl rfl (Nat.le_of_ble_eq_true rfl) dX6_append_19 (fun H locs hP hD hS => ?_)
    have hP : va_P (gD G) vwCl (wX6 G h0 a0 (oi u0 7 (1 : Int32))) H := hP
    have hD : va_D A (wX6 G h0 a0 (oi u0 7 (1 : Int32))) := hD
    refine lv_aload_n hx hb dX6_append_22 rfl (lv_at hl 0 rfl) ?_
    refine va_get (D := gD G) (ci := 4) (v := .int (1 : Int32)) (C := RX6) (T := TX6) (N := 22) hx hb hg kl_X6 hown hK hP 0 rfl rfl 7 (by decide) (hg _ kq5_12) (fun _ h9 => h9) rfl dX6_append_23 ?_
    refine lv_if_le (tgt := 31) hx hb dX6_append_26 (by decide) (fun c13 => ?_) (fun c13 => ?_)
    · exact absurd c13 (by decide)
    refine lv_iconst (v := (0 : Int32)) hx hb dX6_append_29 (by decide) ?_
    have hf := Option.some.inj hf
    subst hf
    exact e_i (wf := (fun v : Ob => (wX6 G h0 a0 v))) hx hb hr hlk (oi u0 7 (1 : Int32)) ⟨rfl, rfl⟩ hP hK hD hS dX6_append_30
set_option maxRecDepth 100000 in
set_option maxHeartbeats 4000000 in
theorem c_X6_see {l : Launch} {G : Gp} {sz N : Nat} {x1 : Int32} {h0 : Nat} {a0 : Nat → Nat} {u0 : Ob} {q : Int32} (hf : f_X6_see N x1 u0 = some q) : Met l yX6_see (Cond.code yX6_see cX6_see 2 (some .int) :: lw_g) ({ frames := 0, cells := 0, slots := 0, locals := 0 } : Room) (va_Pc [.ref h0, .int x1] (pw G (wX6 G h0 a0 u0) sz)) (va_Qi (fun (r : Int32) (v : Ob) => q = r ∧ u0 = v) (bw G (fun v : Ob => (wX6 G h0 a0 v)) (va_A (wX6 G h0 a0 u0) sz)) (va_A (wX6 G h0 a0 u0) sz)) 0 0 (va_A (wX6 G h0 a0 u0) sz) := by
  refine mt (Qc := (fun A => va_Qi (fun (r : Int32) (v : Ob) => q = r ∧ u0 = v) (bw G (fun v : Ob => (wX6 G h0 a0 v)) A) A)) (by decide) (Nat.le_of_ble_eq_true rfl) ?_
  intro p e s m below meth c A ls hx hb hr hlk hml hts hown hA hP hK hD hE hS hl
  have hown : s.vm.findClass RX6 = some m.cls := hown
  have hg : ∀ w ∈ lw_g, w.before ([.ref h0, .int x1] : List Value).toArray s = true := fun w h => hts w (List.mem_cons_of_mem _ h)
  have hC : CallFix p m c cX6_see 2 s ([.ref h0, .int x1] : List Value).toArray (Cond.code yX6_see cX6_see 2 (some .int) :: lw_g) RX6 := ⟨hx, hb, hml, hown, hts⟩
  have hl : lv_has ls 2 [(0, .ref h0), (1, .int x1)] := hl
  rw [f_X6_see] at hf
  refine lv_iload_n hx hb dX6_see_0 rfl (lv_at hl 1 rfl) ?_
  refine lv_aload_n hx hb dX6_see_1 rfl (lv_at hl 0 rfl) ?_
  refine va_get (D := gD G) (ci := 4) (v := .int (u0.1 11)) (C := RX6) (T := TX6) (N := 22) hx hb hg kl_X6 hown hK hP 0 rfl rfl 11 (by decide) (hg _ kq5_16) (fun _ h9 => h9) rfl dX6_see_2 ?_
  refine lv_icmp_ge (tgt := 17) hx hb dX6_see_5 (by decide) (fun c1 => ?_) (fun c1 => ?_)
  · have hf := tp hf c1
    refine lv_iconst (v := (-1 : Int32)) hx hb dX6_see_17 (by decide) ?_
    have hf := Option.some.inj hf
    subst hf
    exact e_i (wf := (fun v : Ob => (wX6 G h0 a0 v))) hx hb hr hlk u0 ⟨rfl, rfl⟩ hP hK hD hS dX6_see_18
  · have hf := tn hf c1
    refine lv_aload_n hx hb dX6_see_8 rfl (lv_at hl 0 rfl) ?_
    refine va_get (D := gD G) (ci := 4) (v := .ref (a0 9)) (C := RX6) (T := TX6) (N := 22) hx hb hg kl_X6 hown hK hP 0 rfl rfl 9 (by decide) (hg _ kq5_14) (fun _ h9 => h9) rfl dX6_see_9 ?_
    refine lv_iload_n hx hb dX6_see_12 rfl (lv_at hl 1 rfl) ?_
    obtain ⟨b2, hf⟩ := tno hf
    refine va_iald (f := (u0.2.2.1 9)) hx hb hK hP 7 1 rfl rfl b2 dX6_see_13 ?_
    refine lv_goto (tgt := 18) hx hb dX6_see_14 (by decide) ?_
    have hf := Option.some.inj hf
    subst hf
    exact e_i (wf := (fun v : Ob => (wX6 G h0 a0 v))) hx hb hr hlk u0 ⟨rfl, rfl⟩ hP hK hD hS dX6_see_18
set_option maxRecDepth 100000 in
set_option maxHeartbeats 4000000 in
theorem c_X6_isLetter {l : Launch} {G : Gp} {sz N : Nat} {x0 : Int32} {q : Bool} (hf : f_X6_isLetter N x0 = some q) : Met l yX6_isLetter (Cond.code yX6_isLetter cX6_isLetter 1 (some .boolean) :: lw_g) ({ frames := 1, cells := 0, slots := 0, locals := 25 } : Room) (va_Pc [.int x0] (pw G [] sz)) (va_Qi (fun (r : Int32) (v : Unit) => bI q = r ∧ () = v) (bw G (fun _ : Unit => ([] : va_W)) (va_A [] sz)) (va_A [] sz)) 0 0 (va_A [] sz) := by
  refine mt (Qc := (fun A => va_Qi (fun (r : Int32) (v : Unit) => bI q = r ∧ () = v) (bw G (fun _ : Unit => ([] : va_W)) A) A)) (by decide) (Nat.le_of_ble_eq_true rfl) ?_
  intro p e s m below meth c A ls hx hb hr hlk hml hts hown hA hP hK hD hE hS hl
  have hown : s.vm.findClass RX6 = some m.cls := hown
  have hg : ∀ w ∈ lw_g, w.before ([.int x0] : List Value).toArray s = true := fun w h => hts w (List.mem_cons_of_mem _ h)
  have hC : CallFix p m c cX6_isLetter 1 s ([.int x0] : List Value).toArray (Cond.code yX6_isLetter cX6_isLetter 1 (some .boolean) :: lw_g) RX6 := ⟨hx, hb, hml, hown, hts⟩
  have hl : lv_has ls 1 [(0, .int x0)] := hl
  rw [f_X6_isLetter] at hf
  refine lv_iload_n hx hb dX6_isLetter_0 rfl (lv_at hl 0 rfl) ?_
  refine lv_i2l (v := x0.toInt64) hx hb dX6_isLetter_1 rfl ?_
  refine lv_ldc2 hx hb hown (hg _ kq5_167) dX6_isLetter_2 ?_
  refine lv_ldc2 hx hb hown (hg _ kq5_168) dX6_isLetter_5 ?_
  obtain ⟨q1, e2, hf⟩ := tbd hf
  refine kSi0 (As := [.long x0.toInt64, .long (97 : Int64), .long (122 : Int64)]) (rest := []) hC (c_X6_isIn (G := G) e2) kq5_84 kc_X6_isIn (by decide) hP hK hD hE hS hA hl.1 (Nat.le_of_ble_eq_true rfl) ⟨Nat.zero_le _, Nat.zero_le _⟩ dX6_isLetter_8 (fun r9 u9 H locs hw hP hD hS => ?_)
  obtain ⟨rfl, rfl⟩ := hw
  have hf := Option.some.inj hf
  subst hf
  exact e_z (wf := (fun _ : Unit => ([] : va_W))) hx hb hr hlk () (bI_nar _) ⟨rfl, rfl⟩ hP hK hD hS dX6_isLetter_11
