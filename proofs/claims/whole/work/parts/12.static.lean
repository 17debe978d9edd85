theorem dX1_hasMinute_0 : decode cX1_hasMinute 0 = .ok (.iload_n 0, 1) := by decide +kernel
theorem dX1_hasMinute_1 : decode cX1_hasMinute 1 = .ok (.ifCond .lt 13, 3) := by decide +kernel
theorem dX1_hasMinute_4 : decode cX1_hasMinute 4 = .ok (.iload_n 0, 1) := by decide +kernel
theorem dX1_hasMinute_5 : decode cX1_hasMinute 5 = .ok (.ldc 11, 2) := by decide +kernel
theorem dX1_hasMinute_7 : decode cX1_hasMinute 7 = .ok (.if_icmp .ge 7, 3) := by decide +kernel
theorem dX1_hasMinute_10 : decode cX1_hasMinute 10 = .ok (.iconst 1, 1) := by decide +kernel
theorem dX1_hasMinute_11 : decode cX1_hasMinute 11 = .ok (.goto 4, 3) := by decide +kernel
theorem dX1_hasMinute_14 : decode cX1_hasMinute 14 = .ok (.iconst 0, 1) := by decide +kernel
theorem dX1_hasMinute_15 : decode cX1_hasMinute 15 = .ok (.ireturn, 1) := by decide +kernel
theorem dX1_minuteNumber_0 : decode cX1_minuteNumber 0 = .ok (.sipush 1440, 3) := by decide +kernel
theorem dX1_minuteNumber_3 : decode cX1_minuteNumber 3 = .ok (.iload_n 0, 1) := by decide +kernel
theorem dX1_minuteNumber_4 : decode cX1_minuteNumber 4 = .ok (.imul, 1) := by decide +kernel
theorem dX1_minuteNumber_5 : decode cX1_minuteNumber 5 = .ok (.bipush 60, 2) := by decide +kernel
theorem dX1_minuteNumber_7 : decode cX1_minuteNumber 7 = .ok (.iload_n 1, 1) := by decide +kernel
theorem dX1_minuteNumber_8 : decode cX1_minuteNumber 8 = .ok (.imul, 1) := by decide +kernel
theorem dX1_minuteNumber_9 : decode cX1_minuteNumber 9 = .ok (.iadd, 1) := by decide +kernel
theorem dX1_minuteNumber_10 : decode cX1_minuteNumber 10 = .ok (.iload_n 2, 1) := by decide +kernel
theorem dX1_minuteNumber_11 : decode cX1_minuteNumber 11 = .ok (.iadd, 1) := by decide +kernel
theorem dX1_minuteNumber_12 : decode cX1_minuteNumber 12 = .ok (.ireturn, 1) := by decide +kernel
theorem dX1_dayNumber_0 : decode cX1_dayNumber 0 = .ok (.iload_n 0, 1) := by decide +kernel
theorem dX1_dayNumber_1 : decode cX1_dayNumber 1 = .ok (.ifCond .lt 20, 3) := by decide +kernel
theorem dX1_dayNumber_4 : decode cX1_dayNumber 4 = .ok (.iload_n 0, 1) := by decide +kernel
theorem dX1_dayNumber_5 : decode cX1_dayNumber 5 = .ok (.bipush 99, 2) := by decide +kernel
theorem dX1_dayNumber_7 : decode cX1_dayNumber 7 = .ok (.if_icmp .gt 14, 3) := by decide +kernel
theorem dX1_dayNumber_10 : decode cX1_dayNumber 10 = .ok (.iload_n 1, 1) := by decide +kernel
theorem dX1_dayNumber_11 : decode cX1_dayNumber 11 = .ok (.iconst 1, 1) := by decide +kernel
theorem dX1_dayNumber_12 : decode cX1_dayNumber 12 = .ok (.if_icmp .lt 9, 3) := by decide +kernel
theorem dX1_dayNumber_15 : decode cX1_dayNumber 15 = .ok (.iload_n 1, 1) := by decide +kernel
theorem dX1_dayNumber_16 : decode cX1_dayNumber 16 = .ok (.bipush 12, 2) := by decide +kernel
theorem dX1_dayNumber_18 : decode cX1_dayNumber 18 = .ok (.if_icmp .le 5, 3) := by decide +kernel
theorem dX1_dayNumber_21 : decode cX1_dayNumber 21 = .ok (.iconst (-1), 1) := by decide +kernel
theorem dX1_dayNumber_22 : decode cX1_dayNumber 22 = .ok (.ireturn, 1) := by decide +kernel
theorem dX1_dayNumber_23 : decode cX1_dayNumber 23 = .ok (.iload_n 0, 1) := by decide +kernel
theorem dX1_dayNumber_24 : decode cX1_dayNumber 24 = .ok (.iconst 4, 1) := by decide +kernel
theorem dX1_dayNumber_25 : decode cX1_dayNumber 25 = .ok (.irem, 1) := by decide +kernel
theorem dX1_dayNumber_26 : decode cX1_dayNumber 26 = .ok (.ifCond .ne 7, 3) := by decide +kernel
theorem dX1_dayNumber_29 : decode cX1_dayNumber 29 = .ok (.iconst 1, 1) := by decide +kernel
theorem dX1_dayNumber_30 : decode cX1_dayNumber 30 = .ok (.goto 4, 3) := by decide +kernel
theorem dX1_dayNumber_33 : decode cX1_dayNumber 33 = .ok (.iconst 0, 1) := by decide +kernel
theorem dX1_dayNumber_34 : decode cX1_dayNumber 34 = .ok (.istore_n 3, 1) := by decide +kernel
theorem dX1_dayNumber_35 : decode cX1_dayNumber 35 = .ok (.getstatic 12, 3) := by decide +kernel
theorem dX1_dayNumber_38 : decode cX1_dayNumber 38 = .ok (.iload_n 1, 1) := by decide +kernel
theorem dX1_dayNumber_39 : decode cX1_dayNumber 39 = .ok (.iconst 1, 1) := by decide +kernel
theorem dX1_dayNumber_40 : decode cX1_dayNumber 40 = .ok (.isub, 1) := by decide +kernel
theorem dX1_dayNumber_41 : decode cX1_dayNumber 41 = .ok (.iaload, 1) := by decide +kernel
theorem dX1_dayNumber_42 : decode cX1_dayNumber 42 = .ok (.istore 4, 2) := by decide +kernel
theorem dX1_dayNumber_44 : decode cX1_dayNumber 44 = .ok (.getstatic 12, 3) := by decide +kernel
theorem dX1_dayNumber_47 : decode cX1_dayNumber 47 = .ok (.iload_n 1, 1) := by decide +kernel
theorem dX1_dayNumber_48 : decode cX1_dayNumber 48 = .ok (.iaload, 1) := by decide +kernel
theorem dX1_dayNumber_49 : decode cX1_dayNumber 49 = .ok (.iload 4, 2) := by decide +kernel
theorem dX1_dayNumber_51 : decode cX1_dayNumber 51 = .ok (.isub, 1) := by decide +kernel
theorem dX1_dayNumber_52 : decode cX1_dayNumber 52 = .ok (.istore 5, 2) := by decide +kernel
theorem dX1_dayNumber_54 : decode cX1_dayNumber 54 = .ok (.iload_n 3, 1) := by decide +kernel
theorem dX1_dayNumber_55 : decode cX1_dayNumber 55 = .ok (.ifCond .eq 11, 3) := by decide +kernel
theorem dX1_dayNumber_58 : decode cX1_dayNumber 58 = .ok (.iload_n 1, 1) := by decide +kernel
theorem dX1_dayNumber_59 : decode cX1_dayNumber 59 = .ok (.iconst 2, 1) := by decide +kernel
theorem dX1_dayNumber_60 : decode cX1_dayNumber 60 = .ok (.if_icmp .ne 6, 3) := by decide +kernel
theorem dX1_dayNumber_63 : decode cX1_dayNumber 63 = .ok (.iinc 5 1, 3) := by decide +kernel
theorem dX1_dayNumber_66 : decode cX1_dayNumber 66 = .ok (.iload_n 3, 1) := by decide +kernel
theorem dX1_dayNumber_67 : decode cX1_dayNumber 67 = .ok (.ifCond .eq 11, 3) := by decide +kernel
theorem dX1_dayNumber_70 : decode cX1_dayNumber 70 = .ok (.iload_n 1, 1) := by decide +kernel
theorem dX1_dayNumber_71 : decode cX1_dayNumber 71 = .ok (.iconst 2, 1) := by decide +kernel
theorem dX1_dayNumber_72 : decode cX1_dayNumber 72 = .ok (.if_icmp .le 6, 3) := by decide +kernel
theorem dX1_dayNumber_75 : decode cX1_dayNumber 75 = .ok (.iinc 4 1, 3) := by decide +kernel
theorem dX1_dayNumber_78 : decode cX1_dayNumber 78 = .ok (.iload_n 2, 1) := by decide +kernel
theorem dX1_dayNumber_79 : decode cX1_dayNumber 79 = .ok (.iconst 1, 1) := by decide +kernel
theorem dX1_dayNumber_80 : decode cX1_dayNumber 80 = .ok (.if_icmp .lt 9, 3) := by decide +kernel
theorem dX1_dayNumber_83 : decode cX1_dayNumber 83 = .ok (.iload_n 2, 1) := by decide +kernel
theorem dX1_dayNumber_84 : decode cX1_dayNumber 84 = .ok (.iload 5, 2) := by decide +kernel
theorem dX1_dayNumber_86 : decode cX1_dayNumber 86 = .ok (.if_icmp .le 5, 3) := by decide +kernel
theorem dX1_dayNumber_89 : decode cX1_dayNumber 89 = .ok (.iconst (-1), 1) := by decide +kernel
theorem dX1_dayNumber_90 : decode cX1_dayNumber 90 = .ok (.ireturn, 1) := by decide +kernel
theorem dX1_dayNumber_91 : decode cX1_dayNumber 91 = .ok (.sipush 365, 3) := by decide +kernel
theorem dX1_dayNumber_94 : decode cX1_dayNumber 94 = .ok (.iload_n 0, 1) := by decide +kernel
theorem dX1_dayNumber_95 : decode cX1_dayNumber 95 = .ok (.imul, 1) := by decide +kernel
theorem dX1_dayNumber_96 : decode cX1_dayNumber 96 = .ok (.iload_n 0, 1) := by decide +kernel
theorem dX1_dayNumber_97 : decode cX1_dayNumber 97 = .ok (.iconst 3, 1) := by decide +kernel
theorem dX1_dayNumber_98 : decode cX1_dayNumber 98 = .ok (.iadd, 1) := by decide +kernel
theorem dX1_dayNumber_99 : decode cX1_dayNumber 99 = .ok (.iconst 4, 1) := by decide +kernel
theorem dX1_dayNumber_100 : decode cX1_dayNumber 100 = .ok (.idiv, 1) := by decide +kernel
theorem dX1_dayNumber_101 : decode cX1_dayNumber 101 = .ok (.iadd, 1) := by decide +kernel
theorem dX1_dayNumber_102 : decode cX1_dayNumber 102 = .ok (.iload 4, 2) := by decide +kernel
theorem dX1_dayNumber_104 : decode cX1_dayNumber 104 = .ok (.iadd, 1) := by decide +kernel
theorem dX1_dayNumber_105 : decode cX1_dayNumber 105 = .ok (.iload_n 2, 1) := by decide +kernel
theorem dX1_dayNumber_106 : decode cX1_dayNumber 106 = .ok (.iadd, 1) := by decide +kernel
theorem dX1_dayNumber_107 : decode cX1_dayNumber 107 = .ok (.iconst 1, 1) := by decide +kernel
theorem dX1_dayNumber_108 : decode cX1_dayNumber 108 = .ok (.isub, 1) := by decide +kernel
theorem dX1_dayNumber_109 : decode cX1_dayNumber 109 = .ok (.ireturn, 1) := by decide +kernel
theorem dX1_yearOf_0 : decode cX1_yearOf 0 = .ok (.iload_n 0, 1) := by decide +kernel
theorem dX1_yearOf_1 : decode cX1_yearOf 1 = .ok (.sipush 1461, 3) := by decide +kernel
theorem dX1_yearOf_4 : decode cX1_yearOf 4 = .ok (.irem, 1) := by decide +kernel
theorem dX1_yearOf_5 : decode cX1_yearOf 5 = .ok (.istore_n 1, 1) := by decide +kernel
theorem dX1_yearOf_6 : decode cX1_yearOf 6 = .ok (.iload_n 0, 1) := by decide +kernel
theorem dX1_yearOf_7 : decode cX1_yearOf 7 = .ok (.sipush 1461, 3) := by decide +kernel
theorem dX1_yearOf_10 : decode cX1_yearOf 10 = .ok (.idiv, 1) := by decide +kernel
theorem dX1_yearOf_11 : decode cX1_yearOf 11 = .ok (.iconst 4, 1) := by decide +kernel
theorem dX1_yearOf_12 : decode cX1_yearOf 12 = .ok (.imul, 1) := by decide +kernel
theorem dX1_yearOf_13 : decode cX1_yearOf 13 = .ok (.istore_n 2, 1) := by decide +kernel
theorem dX1_yearOf_14 : decode cX1_yearOf 14 = .ok (.iload_n 1, 1) := by decide +kernel
theorem dX1_yearOf_15 : decode cX1_yearOf 15 = .ok (.sipush 366, 3) := by decide +kernel
theorem dX1_yearOf_18 : decode cX1_yearOf 18 = .ok (.if_icmp .ge 7, 3) := by decide +kernel
theorem dX1_yearOf_21 : decode cX1_yearOf 21 = .ok (.iload_n 2, 1) := by decide +kernel
theorem dX1_yearOf_22 : decode cX1_yearOf 22 = .ok (.goto 16, 3) := by decide +kernel
theorem dX1_yearOf_25 : decode cX1_yearOf 25 = .ok (.iload_n 2, 1) := by decide +kernel
theorem dX1_yearOf_26 : decode cX1_yearOf 26 = .ok (.iconst 1, 1) := by decide +kernel
theorem dX1_yearOf_27 : decode cX1_yearOf 27 = .ok (.iadd, 1) := by decide +kernel
theorem dX1_yearOf_28 : decode cX1_yearOf 28 = .ok (.iload_n 1, 1) := by decide +kernel
theorem dX1_yearOf_29 : decode cX1_yearOf 29 = .ok (.sipush 366, 3) := by decide +kernel
theorem dX1_yearOf_32 : decode cX1_yearOf 32 = .ok (.isub, 1) := by decide +kernel
theorem dX1_yearOf_33 : decode cX1_yearOf 33 = .ok (.sipush 365, 3) := by decide +kernel
theorem dX1_yearOf_36 : decode cX1_yearOf 36 = .ok (.idiv, 1) := by decide +kernel
theorem dX1_yearOf_37 : decode cX1_yearOf 37 = .ok (.iadd, 1) := by decide +kernel
theorem dX1_yearOf_38 : decode cX1_yearOf 38 = .ok (.ireturn, 1) := by decide +kernel
theorem dX1_monthOf_0 : decode cX1_monthOf 0 = .ok (.iload_n 0, 1) := by decide +kernel
theorem dX1_monthOf_1 : decode cX1_monthOf 1 = .ok (.invokestatic 16, 3) := by decide +kernel
theorem dX1_monthOf_4 : decode cX1_monthOf 4 = .ok (.istore_n 1, 1) := by decide +kernel
theorem dX1_monthOf_5 : decode cX1_monthOf 5 = .ok (.iconst 1, 1) := by decide +kernel
theorem dX1_monthOf_6 : decode cX1_monthOf 6 = .ok (.istore_n 2, 1) := by decide +kernel
theorem dX1_monthOf_7 : decode cX1_monthOf 7 = .ok (.iload_n 2, 1) := by decide +kernel
theorem dX1_monthOf_8 : decode cX1_monthOf 8 = .ok (.bipush 12, 2) := by decide +kernel
theorem dX1_monthOf_10 : decode cX1_monthOf 10 = .ok (.if_icmp .ge 21, 3) := by decide +kernel
theorem dX1_monthOf_13 : decode cX1_monthOf 13 = .ok (.iload_n 1, 1) := by decide +kernel
theorem dX1_monthOf_14 : decode cX1_monthOf 14 = .ok (.iload_n 2, 1) := by decide +kernel
theorem dX1_monthOf_15 : decode cX1_monthOf 15 = .ok (.iconst 1, 1) := by decide +kernel
theorem dX1_monthOf_16 : decode cX1_monthOf 16 = .ok (.iadd, 1) := by decide +kernel
theorem dX1_monthOf_17 : decode cX1_monthOf 17 = .ok (.iconst 1, 1) := by decide +kernel
theorem dX1_monthOf_18 : decode cX1_monthOf 18 = .ok (.invokestatic 20, 3) := by decide +kernel
theorem dX1_monthOf_21 : decode cX1_monthOf 21 = .ok (.iload_n 0, 1) := by decide +kernel
theorem dX1_monthOf_22 : decode cX1_monthOf 22 = .ok (.if_icmp .gt 9, 3) := by decide +kernel
theorem dX1_monthOf_25 : decode cX1_monthOf 25 = .ok (.iinc 2 1, 3) := by decide +kernel
theorem dX1_monthOf_28 : decode cX1_monthOf 28 = .ok (.goto (-21), 3) := by decide +kernel
theorem dX1_monthOf_31 : decode cX1_monthOf 31 = .ok (.iload_n 2, 1) := by decide +kernel
theorem dX1_monthOf_32 : decode cX1_monthOf 32 = .ok (.ireturn, 1) := by decide +kernel
theorem dX1_dayOfMonth_0 : decode cX1_dayOfMonth 0 = .ok (.iload_n 0, 1) := by decide +kernel
theorem dX1_dayOfMonth_1 : decode cX1_dayOfMonth 1 = .ok (.iload_n 0, 1) := by decide +kernel
theorem dX1_dayOfMonth_2 : decode cX1_dayOfMonth 2 = .ok (.invokestatic 16, 3) := by decide +kernel
theorem dX1_dayOfMonth_5 : decode cX1_dayOfMonth 5 = .ok (.iload_n 0, 1) := by decide +kernel
theorem dX1_dayOfMonth_6 : decode cX1_dayOfMonth 6 = .ok (.invokestatic 24, 3) := by decide +kernel
theorem dX1_dayOfMonth_9 : decode cX1_dayOfMonth 9 = .ok (.iconst 1, 1) := by decide +kernel
theorem dX1_dayOfMonth_10 : decode cX1_dayOfMonth 10 = .ok (.invokestatic 20, 3) := by decide +kernel
theorem dX1_dayOfMonth_13 : decode cX1_dayOfMonth 13 = .ok (.isub, 1) := by decide +kernel
theorem dX1_dayOfMonth_14 : decode cX1_dayOfMonth 14 = .ok (.iconst 1, 1) := by decide +kernel
theorem dX1_dayOfMonth_15 : decode cX1_dayOfMonth 15 = .ok (.iadd, 1) := by decide +kernel
theorem dX1_dayOfMonth_16 : decode cX1_dayOfMonth 16 = .ok (.ireturn, 1) := by decide +kernel
theorem dX1_weekdayOf_0 : decode cX1_weekdayOf 0 = .ok (.iload_n 0, 1) := by decide +kernel
theorem dX1_weekdayOf_1 : decode cX1_weekdayOf 1 = .ok (.iconst 5, 1) := by decide +kernel
theorem dX1_weekdayOf_2 : decode cX1_weekdayOf 2 = .ok (.iadd, 1) := by decide +kernel
theorem dX1_weekdayOf_3 : decode cX1_weekdayOf 3 = .ok (.bipush 7, 2) := by decide +kernel
theorem dX1_weekdayOf_5 : decode cX1_weekdayOf 5 = .ok (.irem, 1) := by decide +kernel
theorem dX1_weekdayOf_6 : decode cX1_weekdayOf 6 = .ok (.iconst 1, 1) := by decide +kernel
theorem dX1_weekdayOf_7 : decode cX1_weekdayOf 7 = .ok (.iadd, 1) := by decide +kernel
theorem dX1_weekdayOf_8 : decode cX1_weekdayOf 8 = .ok (.ireturn, 1) := by decide +kernel
theorem dX2_twoDigits_0 : decode cX2_twoDigits 0 = .ok (.iload_n 0, 1) := by decide +kernel
theorem dX2_twoDigits_1 : decode cX2_twoDigits 1 = .ok (.bipush 10, 2) := by decide +kernel
theorem dX2_twoDigits_3 : decode cX2_twoDigits 3 = .ok (.idiv, 1) := by decide +kernel
theorem dX2_twoDigits_4 : decode cX2_twoDigits 4 = .ok (.i2l, 1) := by decide +kernel
theorem dX2_twoDigits_5 : decode cX2_twoDigits 5 = .ok (.iconst 4, 1) := by decide +kernel
theorem dX2_twoDigits_6 : decode cX2_twoDigits 6 = .ok (.lshl, 1) := by decide +kernel
theorem dX2_twoDigits_7 : decode cX2_twoDigits 7 = .ok (.iload_n 0, 1) := by decide +kernel
theorem dX2_twoDigits_8 : decode cX2_twoDigits 8 = .ok (.bipush 10, 2) := by decide +kernel
theorem dX2_twoDigits_10 : decode cX2_twoDigits 10 = .ok (.irem, 1) := by decide +kernel
theorem dX2_twoDigits_11 : decode cX2_twoDigits 11 = .ok (.i2l, 1) := by decide +kernel
theorem dX2_twoDigits_12 : decode cX2_twoDigits 12 = .ok (.lor, 1) := by decide +kernel
theorem dX2_twoDigits_13 : decode cX2_twoDigits 13 = .ok (.lreturn, 1) := by decide +kernel
theorem dX2_maskOf_0 : decode cX2_maskOf 0 = .ok (.lconst 1, 1) := by decide +kernel
theorem dX2_maskOf_1 : decode cX2_maskOf 1 = .ok (.getstatic 38, 3) := by decide +kernel
theorem dX2_maskOf_4 : decode cX2_maskOf 4 = .ok (.iload_n 0, 1) := by decide +kernel
theorem dX2_maskOf_5 : decode cX2_maskOf 5 = .ok (.iaload, 1) := by decide +kernel
theorem dX2_maskOf_6 : decode cX2_maskOf 6 = .ok (.iconst 1, 1) := by decide +kernel
theorem dX2_maskOf_7 : decode cX2_maskOf 7 = .ok (.iadd, 1) := by decide +kernel
theorem dX2_maskOf_8 : decode cX2_maskOf 8 = .ok (.lshl, 1) := by decide +kernel
theorem dX2_maskOf_9 : decode cX2_maskOf 9 = .ok (.lconst 1, 1) := by decide +kernel
theorem dX2_maskOf_10 : decode cX2_maskOf 10 = .ok (.getstatic 42, 3) := by decide +kernel
theorem dX2_maskOf_13 : decode cX2_maskOf 13 = .ok (.iload_n 0, 1) := by decide +kernel
theorem dX2_maskOf_14 : decode cX2_maskOf 14 = .ok (.iaload, 1) := by decide +kernel
theorem dX2_maskOf_15 : decode cX2_maskOf 15 = .ok (.lshl, 1) := by decide +kernel
theorem dX2_maskOf_16 : decode cX2_maskOf 16 = .ok (.lsub, 1) := by decide +kernel
theorem dX2_maskOf_17 : decode cX2_maskOf 17 = .ok (.lreturn, 1) := by decide +kernel
theorem dJ13_bitCount_95d88_0 : decode cJ13_bitCount_95d88 0 = .ok (.lload_n 0, 1) := by decide +kernel
theorem dJ13_bitCount_95d88_1 : decode cJ13_bitCount_95d88 1 = .ok (.lload_n 0, 1) := by decide +kernel
theorem dJ13_bitCount_95d88_2 : decode cJ13_bitCount_95d88 2 = .ok (.iconst 1, 1) := by decide +kernel
theorem dJ13_bitCount_95d88_3 : decode cJ13_bitCount_95d88 3 = .ok (.lushr, 1) := by decide +kernel
theorem dJ13_bitCount_95d88_4 : decode cJ13_bitCount_95d88 4 = .ok (.ldc2_w 314, 3) := by decide +kernel
theorem dJ13_bitCount_95d88_7 : decode cJ13_bitCount_95d88 7 = .ok (.land, 1) := by decide +kernel
theorem dJ13_bitCount_95d88_8 : decode cJ13_bitCount_95d88 8 = .ok (.lsub, 1) := by decide +kernel
theorem dJ13_bitCount_95d88_9 : decode cJ13_bitCount_95d88 9 = .ok (.lstore_n 0, 1) := by decide +kernel
theorem dJ13_bitCount_95d88_10 : decode cJ13_bitCount_95d88 10 = .ok (.lload_n 0, 1) := by decide +kernel
theorem dJ13_bitCount_95d88_11 : decode cJ13_bitCount_95d88 11 = .ok (.ldc2_w 316, 3) := by decide +kernel
theorem dJ13_bitCount_95d88_14 : decode cJ13_bitCount_95d88 14 = .ok (.land, 1) := by decide +kernel
theorem dJ13_bitCount_95d88_15 : decode cJ13_bitCount_95d88 15 = .ok (.lload_n 0, 1) := by decide +kernel
theorem dJ13_bitCount_95d88_16 : decode cJ13_bitCount_95d88 16 = .ok (.iconst 2, 1) := by decide +kernel
theorem dJ13_bitCount_95d88_17 : decode cJ13_bitCount_95d88 17 = .ok (.lushr, 1) := by decide +kernel
theorem dJ13_bitCount_95d88_18 : decode cJ13_bitCount_95d88 18 = .ok (.ldc2_w 316, 3) := by decide +kernel
theorem dJ13_bitCount_95d88_21 : decode cJ13_bitCount_95d88 21 = .ok (.land, 1) := by decide +kernel
theorem dJ13_bitCount_95d88_22 : decode cJ13_bitCount_95d88 22 = .ok (.ladd, 1) := by decide +kernel
theorem dJ13_bitCount_95d88_23 : decode cJ13_bitCount_95d88 23 = .ok (.lstore_n 0, 1) := by decide +kernel
theorem dJ13_bitCount_95d88_24 : decode cJ13_bitCount_95d88 24 = .ok (.lload_n 0, 1) := by decide +kernel
theorem dJ13_bitCount_95d88_25 : decode cJ13_bitCount_95d88 25 = .ok (.lload_n 0, 1) := by decide +kernel
theorem dJ13_bitCount_95d88_26 : decode cJ13_bitCount_95d88 26 = .ok (.iconst 4, 1) := by decide +kernel
theorem dJ13_bitCount_95d88_27 : decode cJ13_bitCount_95d88 27 = .ok (.lushr, 1) := by decide +kernel
theorem dJ13_bitCount_95d88_28 : decode cJ13_bitCount_95d88 28 = .ok (.ladd, 1) := by decide +kernel
theorem dJ13_bitCount_95d88_29 : decode cJ13_bitCount_95d88 29 = .ok (.ldc2_w 318, 3) := by decide +kernel
theorem dJ13_bitCount_95d88_32 : decode cJ13_bitCount_95d88 32 = .ok (.land, 1) := by decide +kernel
theorem dJ13_bitCount_95d88_33 : decode cJ13_bitCount_95d88 33 = .ok (.lstore_n 0, 1) := by decide +kernel
theorem dJ13_bitCount_95d88_34 : decode cJ13_bitCount_95d88 34 = .ok (.lload_n 0, 1) := by decide +kernel
theorem dJ13_bitCount_95d88_35 : decode cJ13_bitCount_95d88 35 = .ok (.lload_n 0, 1) := by decide +kernel
theorem dJ13_bitCount_95d88_36 : decode cJ13_bitCount_95d88 36 = .ok (.bipush 8, 2) := by decide +kernel
theorem dJ13_bitCount_95d88_38 : decode cJ13_bitCount_95d88 38 = .ok (.lushr, 1) := by decide +kernel
theorem dJ13_bitCount_95d88_39 : decode cJ13_bitCount_95d88 39 = .ok (.ladd, 1) := by decide +kernel
theorem dJ13_bitCount_95d88_40 : decode cJ13_bitCount_95d88 40 = .ok (.lstore_n 0, 1) := by decide +kernel
theorem dJ13_bitCount_95d88_41 : decode cJ13_bitCount_95d88 41 = .ok (.lload_n 0, 1) := by decide +kernel
theorem dJ13_bitCount_95d88_42 : decode cJ13_bitCount_95d88 42 = .ok (.lload_n 0, 1) := by decide +kernel
theorem dJ13_bitCount_95d88_43 : decode cJ13_bitCount_95d88 43 = .ok (.bipush 16, 2) := by decide +kernel
theorem dJ13_bitCount_95d88_45 : decode cJ13_bitCount_95d88 45 = .ok (.lushr, 1) := by decide +kernel
theorem dJ13_bitCount_95d88_46 : decode cJ13_bitCount_95d88 46 = .ok (.ladd, 1) := by decide +kernel
theorem dJ13_bitCount_95d88_47 : decode cJ13_bitCount_95d88 47 = .ok (.lstore_n 0, 1) := by decide +kernel
theorem dJ13_bitCount_95d88_48 : decode cJ13_bitCount_95d88 48 = .ok (.lload_n 0, 1) := by decide +kernel
theorem dJ13_bitCount_95d88_49 : decode cJ13_bitCount_95d88 49 = .ok (.lload_n 0, 1) := by decide +kernel
theorem dJ13_bitCount_95d88_50 : decode cJ13_bitCount_95d88 50 = .ok (.bipush 32, 2) := by decide +kernel
theorem dJ13_bitCount_95d88_52 : decode cJ13_bitCount_95d88 52 = .ok (.lushr, 1) := by decide +kernel
theorem dJ13_bitCount_95d88_53 : decode cJ13_bitCount_95d88 53 = .ok (.ladd, 1) := by decide +kernel
theorem dJ13_bitCount_95d88_54 : decode cJ13_bitCount_95d88 54 = .ok (.lstore_n 0, 1) := by decide +kernel
theorem dJ13_bitCount_95d88_55 : decode cJ13_bitCount_95d88 55 = .ok (.lload_n 0, 1) := by decide +kernel
theorem dJ13_bitCount_95d88_56 : decode cJ13_bitCount_95d88 56 = .ok (.l2i, 1) := by decide +kernel
theorem dJ13_bitCount_95d88_57 : decode cJ13_bitCount_95d88 57 = .ok (.bipush 127, 2) := by decide +kernel
theorem dJ13_bitCount_95d88_59 : decode cJ13_bitCount_95d88 59 = .ok (.iand, 1) := by decide +kernel
theorem dJ13_bitCount_95d88_60 : decode cJ13_bitCount_95d88 60 = .ok (.ireturn, 1) := by decide +kernel
theorem dX2_isOdd_0 : decode cX2_isOdd 0 = .ok (.lload_n 0, 1) := by decide +kernel
theorem dX2_isOdd_1 : decode cX2_isOdd 1 = .ok (.iload_n 2, 1) := by decide +kernel
theorem dX2_isOdd_2 : decode cX2_isOdd 2 = .ok (.invokestatic 45, 3) := by decide +kernel
theorem dX2_isOdd_5 : decode cX2_isOdd 5 = .ok (.land, 1) := by decide +kernel
theorem dX2_isOdd_6 : decode cX2_isOdd 6 = .ok (.invokestatic 48, 3) := by decide +kernel
theorem dX2_isOdd_9 : decode cX2_isOdd 9 = .ok (.iconst 2, 1) := by decide +kernel
theorem dX2_isOdd_10 : decode cX2_isOdd 10 = .ok (.irem, 1) := by decide +kernel
theorem dX2_isOdd_11 : decode cX2_isOdd 11 = .ok (.ifCond .eq 7, 3) := by decide +kernel
theorem dX2_isOdd_14 : decode cX2_isOdd 14 = .ok (.iconst 1, 1) := by decide +kernel
theorem dX2_isOdd_15 : decode cX2_isOdd 15 = .ok (.goto 4, 3) := by decide +kernel
theorem dX2_isOdd_18 : decode cX2_isOdd 18 = .ok (.iconst 0, 1) := by decide +kernel
theorem dX2_isOdd_19 : decode cX2_isOdd 19 = .ok (.ireturn, 1) := by decide +kernel
theorem dX2_encode_0 : decode cX2_encode 0 = .ok (.iload_n 0, 1) := by decide +kernel
theorem dX2_encode_1 : decode cX2_encode 1 = .ok (.sipush 1440, 3) := by decide +kernel
theorem dX2_encode_4 : decode cX2_encode 4 = .ok (.idiv, 1) := by decide +kernel
theorem dX2_encode_5 : decode cX2_encode 5 = .ok (.istore_n 2, 1) := by decide +kernel
theorem dX2_encode_6 : decode cX2_encode 6 = .ok (.ldc2_w 13, 3) := by decide +kernel
theorem dX2_encode_9 : decode cX2_encode 9 = .ok (.lstore_n 3, 1) := by decide +kernel
theorem dX2_encode_10 : decode cX2_encode 10 = .ok (.iload_n 1, 1) := by decide +kernel
theorem dX2_encode_11 : decode cX2_encode 11 = .ok (.ifCond .eq 9, 3) := by decide +kernel
theorem dX2_encode_14 : decode cX2_encode 14 = .ok (.lload_n 3, 1) := by decide +kernel
theorem dX2_encode_15 : decode cX2_encode 15 = .ok (.ldc2_w 15, 3) := by decide +kernel
theorem dX2_encode_18 : decode cX2_encode 18 = .ok (.lor, 1) := by decide +kernel
theorem dX2_encode_19 : decode cX2_encode 19 = .ok (.lstore_n 3, 1) := by decide +kernel
theorem dX2_encode_20 : decode cX2_encode 20 = .ok (.lload_n 3, 1) := by decide +kernel
theorem dX2_encode_21 : decode cX2_encode 21 = .ok (.iload_n 0, 1) := by decide +kernel
theorem dX2_encode_22 : decode cX2_encode 22 = .ok (.bipush 60, 2) := by decide +kernel
theorem dX2_encode_24 : decode cX2_encode 24 = .ok (.irem, 1) := by decide +kernel
theorem dX2_encode_25 : decode cX2_encode 25 = .ok (.invokestatic 17, 3) := by decide +kernel
theorem dX2_encode_28 : decode cX2_encode 28 = .ok (.bipush 21, 2) := by decide +kernel
theorem dX2_encode_30 : decode cX2_encode 30 = .ok (.lshl, 1) := by decide +kernel
theorem dX2_encode_31 : decode cX2_encode 31 = .ok (.lor, 1) := by decide +kernel
theorem dX2_encode_32 : decode cX2_encode 32 = .ok (.lstore_n 3, 1) := by decide +kernel
theorem dX2_encode_33 : decode cX2_encode 33 = .ok (.lload_n 3, 1) := by decide +kernel
theorem dX2_encode_34 : decode cX2_encode 34 = .ok (.iload_n 0, 1) := by decide +kernel
theorem dX2_encode_35 : decode cX2_encode 35 = .ok (.bipush 60, 2) := by decide +kernel
theorem dX2_encode_37 : decode cX2_encode 37 = .ok (.idiv, 1) := by decide +kernel
theorem dX2_encode_38 : decode cX2_encode 38 = .ok (.bipush 24, 2) := by decide +kernel
theorem dX2_encode_40 : decode cX2_encode 40 = .ok (.irem, 1) := by decide +kernel
theorem dX2_encode_41 : decode cX2_encode 41 = .ok (.invokestatic 17, 3) := by decide +kernel
theorem dX2_encode_44 : decode cX2_encode 44 = .ok (.bipush 29, 2) := by decide +kernel
theorem dX2_encode_46 : decode cX2_encode 46 = .ok (.lshl, 1) := by decide +kernel
theorem dX2_encode_47 : decode cX2_encode 47 = .ok (.lor, 1) := by decide +kernel
theorem dX2_encode_48 : decode cX2_encode 48 = .ok (.lstore_n 3, 1) := by decide +kernel
theorem dX2_encode_49 : decode cX2_encode 49 = .ok (.lload_n 3, 1) := by decide +kernel
theorem dX2_encode_50 : decode cX2_encode 50 = .ok (.iload_n 2, 1) := by decide +kernel
theorem dX2_encode_51 : decode cX2_encode 51 = .ok (.invokestatic 21, 3) := by decide +kernel
theorem dX2_encode_54 : decode cX2_encode 54 = .ok (.invokestatic 17, 3) := by decide +kernel
theorem dX2_encode_57 : decode cX2_encode 57 = .ok (.bipush 36, 2) := by decide +kernel
theorem dX2_encode_59 : decode cX2_encode 59 = .ok (.lshl, 1) := by decide +kernel
theorem dX2_encode_60 : decode cX2_encode 60 = .ok (.lor, 1) := by decide +kernel
theorem dX2_encode_61 : decode cX2_encode 61 = .ok (.lstore_n 3, 1) := by decide +kernel
theorem dX2_encode_62 : decode cX2_encode 62 = .ok (.lload_n 3, 1) := by decide +kernel
theorem dX2_encode_63 : decode cX2_encode 63 = .ok (.iload_n 2, 1) := by decide +kernel
theorem dX2_encode_64 : decode cX2_encode 64 = .ok (.invokestatic 25, 3) := by decide +kernel
theorem dX2_encode_67 : decode cX2_encode 67 = .ok (.i2l, 1) := by decide +kernel
theorem dX2_encode_68 : decode cX2_encode 68 = .ok (.bipush 42, 2) := by decide +kernel
theorem dX2_encode_70 : decode cX2_encode 70 = .ok (.lshl, 1) := by decide +kernel
theorem dX2_encode_71 : decode cX2_encode 71 = .ok (.lor, 1) := by decide +kernel
theorem dX2_encode_72 : decode cX2_encode 72 = .ok (.lstore_n 3, 1) := by decide +kernel
theorem dX2_encode_73 : decode cX2_encode 73 = .ok (.lload_n 3, 1) := by decide +kernel
theorem dX2_encode_74 : decode cX2_encode 74 = .ok (.iload_n 2, 1) := by decide +kernel
theorem dX2_encode_75 : decode cX2_encode 75 = .ok (.invokestatic 28, 3) := by decide +kernel
theorem dX2_encode_78 : decode cX2_encode 78 = .ok (.invokestatic 17, 3) := by decide +kernel
theorem dX2_encode_81 : decode cX2_encode 81 = .ok (.bipush 45, 2) := by decide +kernel
theorem dX2_encode_83 : decode cX2_encode 83 = .ok (.lshl, 1) := by decide +kernel
theorem dX2_encode_84 : decode cX2_encode 84 = .ok (.lor, 1) := by decide +kernel
theorem dX2_encode_85 : decode cX2_encode 85 = .ok (.lstore_n 3, 1) := by decide +kernel
theorem dX2_encode_86 : decode cX2_encode 86 = .ok (.lload_n 3, 1) := by decide +kernel
theorem dX2_encode_87 : decode cX2_encode 87 = .ok (.iload_n 2, 1) := by decide +kernel
theorem dX2_encode_88 : decode cX2_encode 88 = .ok (.invokestatic 31, 3) := by decide +kernel
theorem dX2_encode_91 : decode cX2_encode 91 = .ok (.invokestatic 17, 3) := by decide +kernel
theorem dX2_encode_94 : decode cX2_encode 94 = .ok (.bipush 50, 2) := by decide +kernel
theorem dX2_encode_96 : decode cX2_encode 96 = .ok (.lshl, 1) := by decide +kernel
theorem dX2_encode_97 : decode cX2_encode 97 = .ok (.lor, 1) := by decide +kernel
theorem dX2_encode_98 : decode cX2_encode 98 = .ok (.lstore_n 3, 1) := by decide +kernel
theorem dX2_encode_99 : decode cX2_encode 99 = .ok (.iconst 0, 1) := by decide +kernel
theorem dX2_encode_100 : decode cX2_encode 100 = .ok (.istore 5, 2) := by decide +kernel
theorem dX2_encode_102 : decode cX2_encode 102 = .ok (.iload 5, 2) := by decide +kernel
theorem dX2_encode_104 : decode cX2_encode 104 = .ok (.iconst 3, 1) := by decide +kernel
theorem dX2_encode_105 : decode cX2_encode 105 = .ok (.if_icmp .ge 29, 3) := by decide +kernel
theorem dX2_encode_108 : decode cX2_encode 108 = .ok (.lload_n 3, 1) := by decide +kernel
theorem dX2_encode_109 : decode cX2_encode 109 = .ok (.iload 5, 2) := by decide +kernel
theorem dX2_encode_111 : decode cX2_encode 111 = .ok (.invokestatic 34, 3) := by decide +kernel
theorem dX2_encode_114 : decode cX2_encode 114 = .ok (.ifCond .eq 14, 3) := by decide +kernel
theorem dX2_encode_117 : decode cX2_encode 117 = .ok (.lload_n 3, 1) := by decide +kernel
theorem dX2_encode_118 : decode cX2_encode 118 = .ok (.lconst 1, 1) := by decide +kernel
theorem dX2_encode_119 : decode cX2_encode 119 = .ok (.getstatic 38, 3) := by decide +kernel
theorem dX2_encode_122 : decode cX2_encode 122 = .ok (.iload 5, 2) := by decide +kernel
theorem dX2_encode_124 : decode cX2_encode 124 = .ok (.iaload, 1) := by decide +kernel
theorem dX2_encode_125 : decode cX2_encode 125 = .ok (.lshl, 1) := by decide +kernel
theorem dX2_encode_126 : decode cX2_encode 126 = .ok (.lor, 1) := by decide +kernel
theorem dX2_encode_127 : decode cX2_encode 127 = .ok (.lstore_n 3, 1) := by decide +kernel
theorem dX2_encode_128 : decode cX2_encode 128 = .ok (.iinc 5 1, 3) := by decide +kernel
theorem dX2_encode_131 : decode cX2_encode 131 = .ok (.goto (-29), 3) := by decide +kernel
theorem dX2_encode_134 : decode cX2_encode 134 = .ok (.lload_n 3, 1) := by decide +kernel
theorem dX2_encode_135 : decode cX2_encode 135 = .ok (.lreturn, 1) := by decide +kernel
theorem dX2_bitOf_0 : decode cX2_bitOf 0 = .ok (.lload_n 2, 1) := by decide +kernel
theorem dX2_bitOf_1 : decode cX2_bitOf 1 = .ok (.iload 4, 2) := by decide +kernel
theorem dX2_bitOf_3 : decode cX2_bitOf 3 = .ok (.lushr, 1) := by decide +kernel
theorem dX2_bitOf_4 : decode cX2_bitOf 4 = .ok (.lconst 1, 1) := by decide +kernel
theorem dX2_bitOf_5 : decode cX2_bitOf 5 = .ok (.land, 1) := by decide +kernel
theorem dX2_bitOf_6 : decode cX2_bitOf 6 = .ok (.lconst 0, 1) := by decide +kernel
theorem dX2_bitOf_7 : decode cX2_bitOf 7 = .ok (.lcmp, 1) := by decide +kernel
theorem dX2_bitOf_8 : decode cX2_bitOf 8 = .ok (.ifCond .eq 7, 3) := by decide +kernel
theorem dX2_bitOf_11 : decode cX2_bitOf 11 = .ok (.iconst 2, 1) := by decide +kernel
theorem dX2_bitOf_12 : decode cX2_bitOf 12 = .ok (.goto 10, 3) := by decide +kernel
theorem dX2_bitOf_15 : decode cX2_bitOf 15 = .ok (.lload_n 0, 1) := by decide +kernel
theorem dX2_bitOf_16 : decode cX2_bitOf 16 = .ok (.iload 4, 2) := by decide +kernel
theorem dX2_bitOf_18 : decode cX2_bitOf 18 = .ok (.lushr, 1) := by decide +kernel
theorem dX2_bitOf_19 : decode cX2_bitOf 19 = .ok (.lconst 1, 1) := by decide +kernel
theorem dX2_bitOf_20 : decode cX2_bitOf 20 = .ok (.land, 1) := by decide +kernel
theorem dX2_bitOf_21 : decode cX2_bitOf 21 = .ok (.l2i, 1) := by decide +kernel
theorem dX2_bitOf_22 : decode cX2_bitOf 22 = .ok (.ireturn, 1) := by decide +kernel
theorem dX2_numberAt_0 : decode cX2_numberAt 0 = .ok (.lload_n 0, 1) := by decide +kernel
theorem dX2_numberAt_1 : decode cX2_numberAt 1 = .ok (.iload_n 2, 1) := by decide +kernel
theorem dX2_numberAt_2 : decode cX2_numberAt 2 = .ok (.lushr, 1) := by decide +kernel
theorem dX2_numberAt_3 : decode cX2_numberAt 3 = .ok (.l2i, 1) := by decide +kernel
theorem dX2_numberAt_4 : decode cX2_numberAt 4 = .ok (.bipush 15, 2) := by decide +kernel
theorem dX2_numberAt_6 : decode cX2_numberAt 6 = .ok (.iand, 1) := by decide +kernel
theorem dX2_numberAt_7 : decode cX2_numberAt 7 = .ok (.istore 4, 2) := by decide +kernel
theorem dX2_numberAt_9 : decode cX2_numberAt 9 = .ok (.lload_n 0, 1) := by decide +kernel
theorem dX2_numberAt_10 : decode cX2_numberAt 10 = .ok (.iload_n 2, 1) := by decide +kernel
theorem dX2_numberAt_11 : decode cX2_numberAt 11 = .ok (.iconst 4, 1) := by decide +kernel
theorem dX2_numberAt_12 : decode cX2_numberAt 12 = .ok (.iadd, 1) := by decide +kernel
theorem dX2_numberAt_13 : decode cX2_numberAt 13 = .ok (.lushr, 1) := by decide +kernel
theorem dX2_numberAt_14 : decode cX2_numberAt 14 = .ok (.l2i, 1) := by decide +kernel
theorem dX2_numberAt_15 : decode cX2_numberAt 15 = .ok (.iconst 1, 1) := by decide +kernel
theorem dX2_numberAt_16 : decode cX2_numberAt 16 = .ok (.iload_n 3, 1) := by decide +kernel
theorem dX2_numberAt_17 : decode cX2_numberAt 17 = .ok (.ishl, 1) := by decide +kernel
theorem dX2_numberAt_18 : decode cX2_numberAt 18 = .ok (.iconst 1, 1) := by decide +kernel
theorem dX2_numberAt_19 : decode cX2_numberAt 19 = .ok (.isub, 1) := by decide +kernel
theorem dX2_numberAt_20 : decode cX2_numberAt 20 = .ok (.iand, 1) := by decide +kernel
theorem dX2_numberAt_21 : decode cX2_numberAt 21 = .ok (.istore 5, 2) := by decide +kernel
theorem dX2_numberAt_23 : decode cX2_numberAt 23 = .ok (.iload 4, 2) := by decide +kernel
theorem dX2_numberAt_25 : decode cX2_numberAt 25 = .ok (.bipush 9, 2) := by decide +kernel
theorem dX2_numberAt_27 : decode cX2_numberAt 27 = .ok (.if_icmp .gt 10, 3) := by decide +kernel
theorem dX2_numberAt_30 : decode cX2_numberAt 30 = .ok (.iload 5, 2) := by decide +kernel
theorem dX2_numberAt_32 : decode cX2_numberAt 32 = .ok (.bipush 9, 2) := by decide +kernel
theorem dX2_numberAt_34 : decode cX2_numberAt 34 = .ok (.if_icmp .le 7, 3) := by decide +kernel
theorem dX2_numberAt_37 : decode cX2_numberAt 37 = .ok (.iconst (-1), 1) := by decide +kernel
theorem dX2_numberAt_38 : decode cX2_numberAt 38 = .ok (.goto 11, 3) := by decide +kernel
theorem dX2_numberAt_41 : decode cX2_numberAt 41 = .ok (.bipush 10, 2) := by decide +kernel
theorem dX2_numberAt_43 : decode cX2_numberAt 43 = .ok (.iload 5, 2) := by decide +kernel
theorem dX2_numberAt_45 : decode cX2_numberAt 45 = .ok (.imul, 1) := by decide +kernel
theorem dX2_numberAt_46 : decode cX2_numberAt 46 = .ok (.iload 4, 2) := by decide +kernel
theorem dX2_numberAt_48 : decode cX2_numberAt 48 = .ok (.iadd, 1) := by decide +kernel
theorem dX2_numberAt_49 : decode cX2_numberAt 49 = .ok (.ireturn, 1) := by decide +kernel
theorem dX2_minuteIn_0 : decode cX2_minuteIn 0 = .ok (.lload_n 0, 1) := by decide +kernel
theorem dX2_minuteIn_1 : decode cX2_minuteIn 1 = .ok (.bipush 21, 2) := by decide +kernel
theorem dX2_minuteIn_3 : decode cX2_minuteIn 3 = .ok (.iconst 3, 1) := by decide +kernel
theorem dX2_minuteIn_4 : decode cX2_minuteIn 4 = .ok (.invokestatic 54, 3) := by decide +kernel
theorem dX2_minuteIn_7 : decode cX2_minuteIn 7 = .ok (.istore_n 2, 1) := by decide +kernel
theorem dX2_minuteIn_8 : decode cX2_minuteIn 8 = .ok (.iload_n 2, 1) := by decide +kernel
theorem dX2_minuteIn_9 : decode cX2_minuteIn 9 = .ok (.bipush 59, 2) := by decide +kernel
theorem dX2_minuteIn_11 : decode cX2_minuteIn 11 = .ok (.if_icmp .le 7, 3) := by decide +kernel
theorem dX2_minuteIn_14 : decode cX2_minuteIn 14 = .ok (.iconst (-1), 1) := by decide +kernel
theorem dX2_minuteIn_15 : decode cX2_minuteIn 15 = .ok (.goto 4, 3) := by decide +kernel
theorem dX2_minuteIn_18 : decode cX2_minuteIn 18 = .ok (.iload_n 2, 1) := by decide +kernel
theorem dX2_minuteIn_19 : decode cX2_minuteIn 19 = .ok (.ireturn, 1) := by decide +kernel
theorem dX2_hourIn_0 : decode cX2_hourIn 0 = .ok (.lload_n 0, 1) := by decide +kernel
theorem dX2_hourIn_1 : decode cX2_hourIn 1 = .ok (.bipush 29, 2) := by decide +kernel
theorem dX2_hourIn_3 : decode cX2_hourIn 3 = .ok (.iconst 2, 1) := by decide +kernel
theorem dX2_hourIn_4 : decode cX2_hourIn 4 = .ok (.invokestatic 54, 3) := by decide +kernel
theorem dX2_hourIn_7 : decode cX2_hourIn 7 = .ok (.istore_n 2, 1) := by decide +kernel
theorem dX2_hourIn_8 : decode cX2_hourIn 8 = .ok (.iload_n 2, 1) := by decide +kernel
theorem dX2_hourIn_9 : decode cX2_hourIn 9 = .ok (.bipush 23, 2) := by decide +kernel
theorem dX2_hourIn_11 : decode cX2_hourIn 11 = .ok (.if_icmp .le 7, 3) := by decide +kernel
theorem dX2_hourIn_14 : decode cX2_hourIn 14 = .ok (.iconst (-1), 1) := by decide +kernel
theorem dX2_hourIn_15 : decode cX2_hourIn 15 = .ok (.goto 4, 3) := by decide +kernel
theorem dX2_hourIn_18 : decode cX2_hourIn 18 = .ok (.iload_n 2, 1) := by decide +kernel
theorem dX2_hourIn_19 : decode cX2_hourIn 19 = .ok (.ireturn, 1) := by decide +kernel
theorem dX2_dayIn_0 : decode cX2_dayIn 0 = .ok (.lload_n 0, 1) := by decide +kernel
theorem dX2_dayIn_1 : decode cX2_dayIn 1 = .ok (.bipush 50, 2) := by decide +kernel
theorem dX2_dayIn_3 : decode cX2_dayIn 3 = .ok (.iconst 4, 1) := by decide +kernel
theorem dX2_dayIn_4 : decode cX2_dayIn 4 = .ok (.invokestatic 54, 3) := by decide +kernel
theorem dX2_dayIn_7 : decode cX2_dayIn 7 = .ok (.istore_n 2, 1) := by decide +kernel
theorem dX2_dayIn_8 : decode cX2_dayIn 8 = .ok (.lload_n 0, 1) := by decide +kernel
theorem dX2_dayIn_9 : decode cX2_dayIn 9 = .ok (.bipush 45, 2) := by decide +kernel
theorem dX2_dayIn_11 : decode cX2_dayIn 11 = .ok (.iconst 1, 1) := by decide +kernel
theorem dX2_dayIn_12 : decode cX2_dayIn 12 = .ok (.invokestatic 54, 3) := by decide +kernel
theorem dX2_dayIn_15 : decode cX2_dayIn 15 = .ok (.istore_n 3, 1) := by decide +kernel
theorem dX2_dayIn_16 : decode cX2_dayIn 16 = .ok (.iload_n 2, 1) := by decide +kernel
theorem dX2_dayIn_17 : decode cX2_dayIn 17 = .ok (.iload_n 3, 1) := by decide +kernel
theorem dX2_dayIn_18 : decode cX2_dayIn 18 = .ok (.lload_n 0, 1) := by decide +kernel
theorem dX2_dayIn_19 : decode cX2_dayIn 19 = .ok (.bipush 36, 2) := by decide +kernel
theorem dX2_dayIn_21 : decode cX2_dayIn 21 = .ok (.iconst 2, 1) := by decide +kernel
theorem dX2_dayIn_22 : decode cX2_dayIn 22 = .ok (.invokestatic 54, 3) := by decide +kernel
theorem dX2_dayIn_25 : decode cX2_dayIn 25 = .ok (.invokestatic 58, 3) := by decide +kernel
theorem dX2_dayIn_28 : decode cX2_dayIn 28 = .ok (.ireturn, 1) := by decide +kernel
theorem dX2_hasWeekdayOf_0 : decode cX2_hasWeekdayOf 0 = .ok (.lload_n 0, 1) := by decide +kernel
theorem dX2_hasWeekdayOf_1 : decode cX2_hasWeekdayOf 1 = .ok (.bipush 42, 2) := by decide +kernel
theorem dX2_hasWeekdayOf_3 : decode cX2_hasWeekdayOf 3 = .ok (.lushr, 1) := by decide +kernel
theorem dX2_hasWeekdayOf_4 : decode cX2_hasWeekdayOf 4 = .ok (.l2i, 1) := by decide +kernel
theorem dX2_hasWeekdayOf_5 : decode cX2_hasWeekdayOf 5 = .ok (.bipush 7, 2) := by decide +kernel
theorem dX2_hasWeekdayOf_7 : decode cX2_hasWeekdayOf 7 = .ok (.iand, 1) := by decide +kernel
theorem dX2_hasWeekdayOf_8 : decode cX2_hasWeekdayOf 8 = .ok (.iload_n 2, 1) := by decide +kernel
theorem dX2_hasWeekdayOf_9 : decode cX2_hasWeekdayOf 9 = .ok (.invokestatic 25, 3) := by decide +kernel
theorem dX2_hasWeekdayOf_12 : decode cX2_hasWeekdayOf 12 = .ok (.if_icmp .ne 7, 3) := by decide +kernel
theorem dX2_hasWeekdayOf_15 : decode cX2_hasWeekdayOf 15 = .ok (.iconst 1, 1) := by decide +kernel
theorem dX2_hasWeekdayOf_16 : decode cX2_hasWeekdayOf 16 = .ok (.goto 4, 3) := by decide +kernel
theorem dX2_hasWeekdayOf_19 : decode cX2_hasWeekdayOf 19 = .ok (.iconst 0, 1) := by decide +kernel
theorem dX2_hasWeekdayOf_20 : decode cX2_hasWeekdayOf 20 = .ok (.ireturn, 1) := by decide +kernel
theorem dX2_faultOf_0 : decode cX2_faultOf 0 = .ok (.lload_n 2, 1) := by decide +kernel
theorem dX2_faultOf_1 : decode cX2_faultOf 1 = .ok (.ldc2_w 62, 3) := by decide +kernel
theorem dX2_faultOf_4 : decode cX2_faultOf 4 = .ok (.land, 1) := by decide +kernel
theorem dX2_faultOf_5 : decode cX2_faultOf 5 = .ok (.lconst 0, 1) := by decide +kernel
theorem dX2_faultOf_6 : decode cX2_faultOf 6 = .ok (.lcmp, 1) := by decide +kernel
theorem dX2_faultOf_7 : decode cX2_faultOf 7 = .ok (.ifCond .eq 5, 3) := by decide +kernel
theorem dX2_faultOf_10 : decode cX2_faultOf 10 = .ok (.iconst 1, 1) := by decide +kernel
theorem dX2_faultOf_11 : decode cX2_faultOf 11 = .ok (.ireturn, 1) := by decide +kernel
theorem dX2_faultOf_12 : decode cX2_faultOf 12 = .ok (.lload_n 0, 1) := by decide +kernel
theorem dX2_faultOf_13 : decode cX2_faultOf 13 = .ok (.lconst 1, 1) := by decide +kernel
theorem dX2_faultOf_14 : decode cX2_faultOf 14 = .ok (.land, 1) := by decide +kernel
theorem dX2_faultOf_15 : decode cX2_faultOf 15 = .ok (.lconst 0, 1) := by decide +kernel
theorem dX2_faultOf_16 : decode cX2_faultOf 16 = .ok (.lcmp, 1) := by decide +kernel
theorem dX2_faultOf_17 : decode cX2_faultOf 17 = .ok (.ifCond .ne 14, 3) := by decide +kernel
theorem dX2_faultOf_20 : decode cX2_faultOf 20 = .ok (.lload_n 0, 1) := by decide +kernel
theorem dX2_faultOf_21 : decode cX2_faultOf 21 = .ok (.bipush 20, 2) := by decide +kernel
theorem dX2_faultOf_23 : decode cX2_faultOf 23 = .ok (.lushr, 1) := by decide +kernel
theorem dX2_faultOf_24 : decode cX2_faultOf 24 = .ok (.lconst 1, 1) := by decide +kernel
theorem dX2_faultOf_25 : decode cX2_faultOf 25 = .ok (.land, 1) := by decide +kernel
theorem dX2_faultOf_26 : decode cX2_faultOf 26 = .ok (.lconst 0, 1) := by decide +kernel
theorem dX2_faultOf_27 : decode cX2_faultOf 27 = .ok (.lcmp, 1) := by decide +kernel
theorem dX2_faultOf_28 : decode cX2_faultOf 28 = .ok (.ifCond .ne 5, 3) := by decide +kernel
theorem dX2_faultOf_31 : decode cX2_faultOf 31 = .ok (.iconst 2, 1) := by decide +kernel
theorem dX2_faultOf_32 : decode cX2_faultOf 32 = .ok (.ireturn, 1) := by decide +kernel
theorem dX2_faultOf_33 : decode cX2_faultOf 33 = .ok (.iconst 0, 1) := by decide +kernel
theorem dX2_faultOf_34 : decode cX2_faultOf 34 = .ok (.istore 4, 2) := by decide +kernel
theorem dX2_faultOf_36 : decode cX2_faultOf 36 = .ok (.iload 4, 2) := by decide +kernel
theorem dX2_faultOf_38 : decode cX2_faultOf 38 = .ok (.iconst 3, 1) := by decide +kernel
theorem dX2_faultOf_39 : decode cX2_faultOf 39 = .ok (.if_icmp .ge 23, 3) := by decide +kernel
theorem dX2_faultOf_42 : decode cX2_faultOf 42 = .ok (.lload_n 0, 1) := by decide +kernel
theorem dX2_faultOf_43 : decode cX2_faultOf 43 = .ok (.iload 4, 2) := by decide +kernel
theorem dX2_faultOf_45 : decode cX2_faultOf 45 = .ok (.invokestatic 34, 3) := by decide +kernel
theorem dX2_faultOf_48 : decode cX2_faultOf 48 = .ok (.ifCond .eq 8, 3) := by decide +kernel
theorem dX2_faultOf_51 : decode cX2_faultOf 51 = .ok (.iconst 3, 1) := by decide +kernel
theorem dX2_faultOf_52 : decode cX2_faultOf 52 = .ok (.iload 4, 2) := by decide +kernel
theorem dX2_faultOf_54 : decode cX2_faultOf 54 = .ok (.iadd, 1) := by decide +kernel
theorem dX2_faultOf_55 : decode cX2_faultOf 55 = .ok (.ireturn, 1) := by decide +kernel
theorem dX2_faultOf_56 : decode cX2_faultOf 56 = .ok (.iinc 4 1, 3) := by decide +kernel
theorem dX2_faultOf_59 : decode cX2_faultOf 59 = .ok (.goto (-23), 3) := by decide +kernel
theorem dX2_faultOf_62 : decode cX2_faultOf 62 = .ok (.lload_n 0, 1) := by decide +kernel
theorem dX2_faultOf_63 : decode cX2_faultOf 63 = .ok (.invokestatic 64, 3) := by decide +kernel
theorem dX2_faultOf_66 : decode cX2_faultOf 66 = .ok (.istore 4, 2) := by decide +kernel
theorem dX2_faultOf_68 : decode cX2_faultOf 68 = .ok (.lload_n 0, 1) := by decide +kernel
theorem dX2_faultOf_69 : decode cX2_faultOf 69 = .ok (.invokestatic 67, 3) := by decide +kernel
theorem dX2_faultOf_72 : decode cX2_faultOf 72 = .ok (.iconst (-1), 1) := by decide +kernel
theorem dX2_faultOf_73 : decode cX2_faultOf 73 = .ok (.if_icmp .eq 17, 3) := by decide +kernel
theorem dX2_faultOf_76 : decode cX2_faultOf 76 = .ok (.lload_n 0, 1) := by decide +kernel
theorem dX2_faultOf_77 : decode cX2_faultOf 77 = .ok (.invokestatic 70, 3) := by decide +kernel
theorem dX2_faultOf_80 : decode cX2_faultOf 80 = .ok (.iconst (-1), 1) := by decide +kernel
theorem dX2_faultOf_81 : decode cX2_faultOf 81 = .ok (.if_icmp .eq 9, 3) := by decide +kernel
theorem dX2_faultOf_84 : decode cX2_faultOf 84 = .ok (.iload 4, 2) := by decide +kernel
theorem dX2_faultOf_86 : decode cX2_faultOf 86 = .ok (.iconst (-1), 1) := by decide +kernel
theorem dX2_faultOf_87 : decode cX2_faultOf 87 = .ok (.if_icmp .ne 6, 3) := by decide +kernel
theorem dX2_faultOf_90 : decode cX2_faultOf 90 = .ok (.bipush 6, 2) := by decide +kernel
theorem dX2_faultOf_92 : decode cX2_faultOf 92 = .ok (.ireturn, 1) := by decide +kernel
theorem dX2_faultOf_93 : decode cX2_faultOf 93 = .ok (.lload_n 0, 1) := by decide +kernel
theorem dX2_faultOf_94 : decode cX2_faultOf 94 = .ok (.iload 4, 2) := by decide +kernel
theorem dX2_faultOf_96 : decode cX2_faultOf 96 = .ok (.invokestatic 73, 3) := by decide +kernel
theorem dX2_faultOf_99 : decode cX2_faultOf 99 = .ok (.ifCond .eq 7, 3) := by decide +kernel
theorem dX2_faultOf_102 : decode cX2_faultOf 102 = .ok (.iconst 0, 1) := by decide +kernel
theorem dX2_faultOf_103 : decode cX2_faultOf 103 = .ok (.goto 5, 3) := by decide +kernel
theorem dX2_faultOf_106 : decode cX2_faultOf 106 = .ok (.bipush 7, 2) := by decide +kernel
theorem dX2_faultOf_108 : decode cX2_faultOf 108 = .ok (.ireturn, 1) := by decide +kernel
theorem dX2_fillGaps_0 : decode cX2_fillGaps 0 = .ok (.lload_n 0, 1) := by decide +kernel
theorem dX2_fillGaps_1 : decode cX2_fillGaps 1 = .ok (.lstore 5, 2) := by decide +kernel
theorem dX2_fillGaps_3 : decode cX2_fillGaps 3 = .ok (.iconst 0, 1) := by decide +kernel
theorem dX2_fillGaps_4 : decode cX2_fillGaps 4 = .ok (.istore 7, 2) := by decide +kernel
theorem dX2_fillGaps_6 : decode cX2_fillGaps 6 = .ok (.iconst 0, 1) := by decide +kernel
theorem dX2_fillGaps_7 : decode cX2_fillGaps 7 = .ok (.istore 8, 2) := by decide +kernel
theorem dX2_fillGaps_9 : decode cX2_fillGaps 9 = .ok (.iload 8, 2) := by decide +kernel
theorem dX2_fillGaps_11 : decode cX2_fillGaps 11 = .ok (.bipush 58, 2) := by decide +kernel
theorem dX2_fillGaps_13 : decode cX2_fillGaps 13 = .ok (.if_icmp .gt 39, 3) := by decide +kernel
theorem dX2_fillGaps_16 : decode cX2_fillGaps 16 = .ok (.lload_n 2, 1) := by decide +kernel
theorem dX2_fillGaps_17 : decode cX2_fillGaps 17 = .ok (.iload 8, 2) := by decide +kernel
theorem dX2_fillGaps_19 : decode cX2_fillGaps 19 = .ok (.lushr, 1) := by decide +kernel
theorem dX2_fillGaps_20 : decode cX2_fillGaps 20 = .ok (.lconst 1, 1) := by decide +kernel
theorem dX2_fillGaps_21 : decode cX2_fillGaps 21 = .ok (.land, 1) := by decide +kernel
theorem dX2_fillGaps_22 : decode cX2_fillGaps 22 = .ok (.lconst 0, 1) := by decide +kernel
theorem dX2_fillGaps_23 : decode cX2_fillGaps 23 = .ok (.lcmp, 1) := by decide +kernel
theorem dX2_fillGaps_24 : decode cX2_fillGaps 24 = .ok (.ifCond .eq 22, 3) := by decide +kernel
theorem dX2_fillGaps_27 : decode cX2_fillGaps 27 = .ok (.lload 5, 2) := by decide +kernel
theorem dX2_fillGaps_29 : decode cX2_fillGaps 29 = .ok (.iload 4, 2) := by decide +kernel
theorem dX2_fillGaps_31 : decode cX2_fillGaps 31 = .ok (.iload 7, 2) := by decide +kernel
theorem dX2_fillGaps_33 : decode cX2_fillGaps 33 = .ok (.iushr, 1) := by decide +kernel
theorem dX2_fillGaps_34 : decode cX2_fillGaps 34 = .ok (.iconst 1, 1) := by decide +kernel
theorem dX2_fillGaps_35 : decode cX2_fillGaps 35 = .ok (.iand, 1) := by decide +kernel
theorem dX2_fillGaps_36 : decode cX2_fillGaps 36 = .ok (.i2l, 1) := by decide +kernel
theorem dX2_fillGaps_37 : decode cX2_fillGaps 37 = .ok (.iload 8, 2) := by decide +kernel
theorem dX2_fillGaps_39 : decode cX2_fillGaps 39 = .ok (.lshl, 1) := by decide +kernel
theorem dX2_fillGaps_40 : decode cX2_fillGaps 40 = .ok (.lor, 1) := by decide +kernel
theorem dX2_fillGaps_41 : decode cX2_fillGaps 41 = .ok (.lstore 5, 2) := by decide +kernel
theorem dX2_fillGaps_43 : decode cX2_fillGaps 43 = .ok (.iinc 7 1, 3) := by decide +kernel
theorem dX2_fillGaps_46 : decode cX2_fillGaps 46 = .ok (.iinc 8 1, 3) := by decide +kernel
theorem dX2_fillGaps_49 : decode cX2_fillGaps 49 = .ok (.goto (-40), 3) := by decide +kernel
theorem dX2_fillGaps_52 : decode cX2_fillGaps 52 = .ok (.lload 5, 2) := by decide +kernel
theorem dX2_fillGaps_54 : decode cX2_fillGaps 54 = .ok (.lreturn, 1) := by decide +kernel
theorem dX2_minuteOf_0 : decode cX2_minuteOf 0 = .ok (.lload_n 2, 1) := by decide +kernel
theorem dX2_minuteOf_1 : decode cX2_minuteOf 1 = .ok (.ldc2_w 62, 3) := by decide +kernel
theorem dX2_minuteOf_4 : decode cX2_minuteOf 4 = .ok (.land, 1) := by decide +kernel
theorem dX2_minuteOf_5 : decode cX2_minuteOf 5 = .ok (.lstore 4, 2) := by decide +kernel
theorem dX2_minuteOf_7 : decode cX2_minuteOf 7 = .ok (.lload 4, 2) := by decide +kernel
theorem dX2_minuteOf_9 : decode cX2_minuteOf 9 = .ok (.invokestatic 48, 3) := by decide +kernel
theorem dX2_minuteOf_12 : decode cX2_minuteOf 12 = .ok (.istore 6, 2) := by decide +kernel
theorem dX2_minuteOf_14 : decode cX2_minuteOf 14 = .ok (.iload 6, 2) := by decide +kernel
theorem dX2_minuteOf_16 : decode cX2_minuteOf 16 = .ok (.getstatic 76, 3) := by decide +kernel
theorem dX2_minuteOf_19 : decode cX2_minuteOf 19 = .ok (.iconst 3, 1) := by decide +kernel
theorem dX2_minuteOf_20 : decode cX2_minuteOf 20 = .ok (.iaload, 1) := by decide +kernel
theorem dX2_minuteOf_21 : decode cX2_minuteOf 21 = .ok (.if_icmp .le 5, 3) := by decide +kernel
theorem dX2_minuteOf_24 : decode cX2_minuteOf 24 = .ok (.iconst (-1), 1) := by decide +kernel
theorem dX2_minuteOf_25 : decode cX2_minuteOf 25 = .ok (.ireturn, 1) := by decide +kernel
theorem dX2_minuteOf_26 : decode cX2_minuteOf 26 = .ok (.iconst (-1), 1) := by decide +kernel
theorem dX2_minuteOf_27 : decode cX2_minuteOf 27 = .ok (.istore 7, 2) := by decide +kernel
theorem dX2_minuteOf_29 : decode cX2_minuteOf 29 = .ok (.iconst 0, 1) := by decide +kernel
theorem dX2_minuteOf_30 : decode cX2_minuteOf 30 = .ok (.istore 8, 2) := by decide +kernel
theorem dX2_minuteOf_32 : decode cX2_minuteOf 32 = .ok (.iload 8, 2) := by decide +kernel
theorem dX2_minuteOf_34 : decode cX2_minuteOf 34 = .ok (.iconst 1, 1) := by decide +kernel
theorem dX2_minuteOf_35 : decode cX2_minuteOf 35 = .ok (.iload 6, 2) := by decide +kernel
theorem dX2_minuteOf_37 : decode cX2_minuteOf 37 = .ok (.ishl, 1) := by decide +kernel
theorem dX2_minuteOf_38 : decode cX2_minuteOf 38 = .ok (.if_icmp .ge 56, 3) := by decide +kernel
theorem dX2_minuteOf_41 : decode cX2_minuteOf 41 = .ok (.lload_n 0, 1) := by decide +kernel
theorem dX2_minuteOf_42 : decode cX2_minuteOf 42 = .ok (.lload 4, 2) := by decide +kernel
theorem dX2_minuteOf_44 : decode cX2_minuteOf 44 = .ok (.iload 8, 2) := by decide +kernel
theorem dX2_minuteOf_46 : decode cX2_minuteOf 46 = .ok (.invokestatic 79, 3) := by decide +kernel
theorem dX2_minuteOf_49 : decode cX2_minuteOf 49 = .ok (.lstore 9, 2) := by decide +kernel
theorem dX2_minuteOf_51 : decode cX2_minuteOf 51 = .ok (.lload 9, 2) := by decide +kernel
theorem dX2_minuteOf_53 : decode cX2_minuteOf 53 = .ok (.lconst 0, 1) := by decide +kernel
theorem dX2_minuteOf_54 : decode cX2_minuteOf 54 = .ok (.invokestatic 83, 3) := by decide +kernel
theorem dX2_minuteOf_57 : decode cX2_minuteOf 57 = .ok (.ifCond .ne 31, 3) := by decide +kernel
theorem dX2_minuteOf_60 : decode cX2_minuteOf 60 = .ok (.iload 7, 2) := by decide +kernel
theorem dX2_minuteOf_62 : decode cX2_minuteOf 62 = .ok (.iconst (-1), 1) := by decide +kernel
theorem dX2_minuteOf_63 : decode cX2_minuteOf 63 = .ok (.if_icmp .eq 5, 3) := by decide +kernel
theorem dX2_minuteOf_66 : decode cX2_minuteOf 66 = .ok (.iconst (-1), 1) := by decide +kernel
theorem dX2_minuteOf_67 : decode cX2_minuteOf 67 = .ok (.ireturn, 1) := by decide +kernel
theorem dX2_minuteOf_68 : decode cX2_minuteOf 68 = .ok (.lload 9, 2) := by decide +kernel
theorem dX2_minuteOf_70 : decode cX2_minuteOf 70 = .ok (.invokestatic 64, 3) := by decide +kernel
theorem dX2_minuteOf_73 : decode cX2_minuteOf 73 = .ok (.lload 9, 2) := by decide +kernel
theorem dX2_minuteOf_75 : decode cX2_minuteOf 75 = .ok (.invokestatic 70, 3) := by decide +kernel
theorem dX2_minuteOf_78 : decode cX2_minuteOf 78 = .ok (.lload 9, 2) := by decide +kernel
theorem dX2_minuteOf_80 : decode cX2_minuteOf 80 = .ok (.invokestatic 67, 3) := by decide +kernel
theorem dX2_minuteOf_83 : decode cX2_minuteOf 83 = .ok (.invokestatic 87, 3) := by decide +kernel
theorem dX2_minuteOf_86 : decode cX2_minuteOf 86 = .ok (.istore 7, 2) := by decide +kernel
theorem dX2_minuteOf_88 : decode cX2_minuteOf 88 = .ok (.iinc 8 1, 3) := by decide +kernel
theorem dX2_minuteOf_91 : decode cX2_minuteOf 91 = .ok (.goto (-59), 3) := by decide +kernel
theorem dX2_minuteOf_94 : decode cX2_minuteOf 94 = .ok (.iload 7, 2) := by decide +kernel
theorem dX2_minuteOf_96 : decode cX2_minuteOf 96 = .ok (.ireturn, 1) := by decide +kernel
theorem dX2_blockValue_0 : decode cX2_blockValue 0 = .ok (.lload_n 2, 1) := by decide +kernel
theorem dX2_blockValue_1 : decode cX2_blockValue 1 = .ok (.iload 4, 2) := by decide +kernel
theorem dX2_blockValue_3 : decode cX2_blockValue 3 = .ok (.invokestatic 45, 3) := by decide +kernel
theorem dX2_blockValue_6 : decode cX2_blockValue 6 = .ok (.land, 1) := by decide +kernel
theorem dX2_blockValue_7 : decode cX2_blockValue 7 = .ok (.lconst 0, 1) := by decide +kernel
theorem dX2_blockValue_8 : decode cX2_blockValue 8 = .ok (.lcmp, 1) := by decide +kernel
theorem dX2_blockValue_9 : decode cX2_blockValue 9 = .ok (.ifCond .ne 12, 3) := by decide +kernel
theorem dX2_blockValue_12 : decode cX2_blockValue 12 = .ok (.lload_n 0, 1) := by decide +kernel
theorem dX2_blockValue_13 : decode cX2_blockValue 13 = .ok (.iload 4, 2) := by decide +kernel
theorem dX2_blockValue_15 : decode cX2_blockValue 15 = .ok (.invokestatic 34, 3) := by decide +kernel
theorem dX2_blockValue_18 : decode cX2_blockValue 18 = .ok (.ifCond .eq 5, 3) := by decide +kernel
theorem dX2_blockValue_21 : decode cX2_blockValue 21 = .ok (.iconst (-1), 1) := by decide +kernel
theorem dX2_blockValue_22 : decode cX2_blockValue 22 = .ok (.ireturn, 1) := by decide +kernel
theorem dX2_blockValue_23 : decode cX2_blockValue 23 = .ok (.iload 4, 2) := by decide +kernel
theorem dX2_blockValue_25 : decode cX2_blockValue 25 = .ok (.ifCond .ne 8, 3) := by decide +kernel
theorem dX2_blockValue_28 : decode cX2_blockValue 28 = .ok (.lload_n 0, 1) := by decide +kernel
theorem dX2_blockValue_29 : decode cX2_blockValue 29 = .ok (.invokestatic 67, 3) := by decide +kernel
theorem dX2_blockValue_32 : decode cX2_blockValue 32 = .ok (.ireturn, 1) := by decide +kernel
theorem dX2_blockValue_33 : decode cX2_blockValue 33 = .ok (.iload 4, 2) := by decide +kernel
theorem dX2_blockValue_35 : decode cX2_blockValue 35 = .ok (.iconst 1, 1) := by decide +kernel
theorem dX2_blockValue_36 : decode cX2_blockValue 36 = .ok (.if_icmp .ne 8, 3) := by decide +kernel
theorem dX2_blockValue_39 : decode cX2_blockValue 39 = .ok (.lload_n 0, 1) := by decide +kernel
theorem dX2_blockValue_40 : decode cX2_blockValue 40 = .ok (.invokestatic 70, 3) := by decide +kernel
theorem dX2_blockValue_43 : decode cX2_blockValue 43 = .ok (.ireturn, 1) := by decide +kernel
theorem dX2_blockValue_44 : decode cX2_blockValue 44 = .ok (.lload_n 0, 1) := by decide +kernel
theorem dX2_blockValue_45 : decode cX2_blockValue 45 = .ok (.invokestatic 64, 3) := by decide +kernel
theorem dX2_blockValue_48 : decode cX2_blockValue 48 = .ok (.istore 5, 2) := by decide +kernel
theorem dX2_blockValue_50 : decode cX2_blockValue 50 = .ok (.iload 5, 2) := by decide +kernel
theorem dX2_blockValue_52 : decode cX2_blockValue 52 = .ok (.iconst (-1), 1) := by decide +kernel
theorem dX2_blockValue_53 : decode cX2_blockValue 53 = .ok (.if_icmp .eq 17, 3) := by decide +kernel
theorem dX2_blockValue_56 : decode cX2_blockValue 56 = .ok (.lload_n 0, 1) := by decide +kernel
theorem dX2_blockValue_57 : decode cX2_blockValue 57 = .ok (.iload 5, 2) := by decide +kernel
theorem dX2_blockValue_59 : decode cX2_blockValue 59 = .ok (.invokestatic 73, 3) := by decide +kernel
theorem dX2_blockValue_62 : decode cX2_blockValue 62 = .ok (.ifCond .eq 8, 3) := by decide +kernel
theorem dX2_blockValue_65 : decode cX2_blockValue 65 = .ok (.iload 5, 2) := by decide +kernel
theorem dX2_blockValue_67 : decode cX2_blockValue 67 = .ok (.goto 4, 3) := by decide +kernel
theorem dX2_blockValue_70 : decode cX2_blockValue 70 = .ok (.iconst (-1), 1) := by decide +kernel
theorem dX2_blockValue_71 : decode cX2_blockValue 71 = .ok (.ireturn, 1) := by decide +kernel
theorem dJ3_checkIndex_8e157_0 : decode cJ3_checkIndex_8e157 0 = .ok (.iload_n 0, 1) := by decide +kernel
theorem dJ3_checkIndex_8e157_1 : decode cJ3_checkIndex_8e157 1 = .ok (.ifCond .lt 8, 3) := by decide +kernel
theorem dJ3_checkIndex_8e157_4 : decode cJ3_checkIndex_8e157 4 = .ok (.iload_n 0, 1) := by decide +kernel
theorem dJ3_checkIndex_8e157_5 : decode cJ3_checkIndex_8e157 5 = .ok (.iload_n 1, 1) := by decide +kernel
theorem dJ3_checkIndex_8e157_6 : decode cJ3_checkIndex_8e157 6 = .ok (.if_icmp .lt 10, 3) := by decide +kernel
theorem dJ3_checkIndex_8e157_9 : decode cJ3_checkIndex_8e157 9 = .ok (.aload_n 2, 1) := by decide +kernel
theorem dJ3_checkIndex_8e157_10 : decode cJ3_checkIndex_8e157 10 = .ok (.iload_n 0, 1) := by decide +kernel
theorem dJ3_checkIndex_8e157_11 : decode cJ3_checkIndex_8e157 11 = .ok (.iload_n 1, 1) := by decide +kernel
theorem dJ3_checkIndex_8e157_12 : decode cJ3_checkIndex_8e157 12 = .ok (.invokestatic 95, 3) := by decide +kernel
theorem dJ3_checkIndex_8e157_15 : decode cJ3_checkIndex_8e157 15 = .ok (.athrow, 1) := by decide +kernel
theorem dJ3_checkIndex_8e157_16 : decode cJ3_checkIndex_8e157 16 = .ok (.iload_n 0, 1) := by decide +kernel
theorem dJ3_checkIndex_8e157_17 : decode cJ3_checkIndex_8e157 17 = .ok (.ireturn, 1) := by decide +kernel
theorem dJ0_checkIndex_df160_0 : decode cJ0_checkIndex_df160 0 = .ok (.iload_n 0, 1) := by decide +kernel
theorem dJ0_checkIndex_df160_1 : decode cJ0_checkIndex_df160 1 = .ok (.iload_n 1, 1) := by decide +kernel
theorem dJ0_checkIndex_df160_2 : decode cJ0_checkIndex_df160 2 = .ok (.getstatic 1053, 3) := by decide +kernel
theorem dJ0_checkIndex_df160_5 : decode cJ0_checkIndex_df160 5 = .ok (.invokestatic 1059, 3) := by decide +kernel
theorem dJ0_checkIndex_df160_8 : decode cJ0_checkIndex_df160 8 = .ok (.pop, 1) := by decide +kernel
theorem dJ0_checkIndex_df160_9 : decode cJ0_checkIndex_df160 9 = .ok (.return_, 1) := by decide +kernel
theorem dJ0_coder_7d493_0 : decode cJ0_coder_7d493 0 = .ok (.getstatic 38, 3) := by decide +kernel
theorem dJ0_coder_7d493_3 : decode cJ0_coder_7d493 3 = .ok (.ifCond .eq 10, 3) := by decide +kernel
theorem dJ0_coder_7d493_6 : decode cJ0_coder_7d493 6 = .ok (.aload_n 0, 1) := by decide +kernel
theorem dJ0_coder_7d493_7 : decode cJ0_coder_7d493 7 = .ok (.getfield 15, 3) := by decide +kernel
theorem dJ0_coder_7d493_10 : decode cJ0_coder_7d493 10 = .ok (.goto 4, 3) := by decide +kernel
theorem dJ0_coder_7d493_13 : decode cJ0_coder_7d493 13 = .ok (.iconst 1, 1) := by decide +kernel
theorem dJ0_coder_7d493_14 : decode cJ0_coder_7d493 14 = .ok (.ireturn, 1) := by decide +kernel
theorem dJ0_isLatin1_aae02_0 : decode cJ0_isLatin1_aae02 0 = .ok (.getstatic 38, 3) := by decide +kernel
theorem dJ0_isLatin1_aae02_3 : decode cJ0_isLatin1_aae02 3 = .ok (.ifCond .eq 14, 3) := by decide +kernel
theorem dJ0_isLatin1_aae02_6 : decode cJ0_isLatin1_aae02 6 = .ok (.aload_n 0, 1) := by decide +kernel
theorem dJ0_isLatin1_aae02_7 : decode cJ0_isLatin1_aae02 7 = .ok (.getfield 15, 3) := by decide +kernel
theorem dJ0_isLatin1_aae02_10 : decode cJ0_isLatin1_aae02 10 = .ok (.ifCond .ne 7, 3) := by decide +kernel
theorem dJ0_isLatin1_aae02_13 : decode cJ0_isLatin1_aae02 13 = .ok (.iconst 1, 1) := by decide +kernel
theorem dJ0_isLatin1_aae02_14 : decode cJ0_isLatin1_aae02 14 = .ok (.goto 4, 3) := by decide +kernel
theorem dJ0_isLatin1_aae02_17 : decode cJ0_isLatin1_aae02 17 = .ok (.iconst 0, 1) := by decide +kernel
theorem dJ0_isLatin1_aae02_18 : decode cJ0_isLatin1_aae02 18 = .ok (.ireturn, 1) := by decide +kernel
theorem dJ0_length_8abf5_0 : decode cJ0_length_8abf5 0 = .ok (.aload_n 0, 1) := by decide +kernel
theorem dJ0_length_8abf5_1 : decode cJ0_length_8abf5 1 = .ok (.getfield 9, 3) := by decide +kernel
theorem dJ0_length_8abf5_4 : decode cJ0_length_8abf5 4 = .ok (.arraylength, 1) := by decide +kernel
theorem dJ0_length_8abf5_5 : decode cJ0_length_8abf5 5 = .ok (.aload_n 0, 1) := by decide +kernel
theorem dJ0_length_8abf5_6 : decode cJ0_length_8abf5 6 = .ok (.invokevirtual 335, 3) := by decide +kernel
theorem dJ0_length_8abf5_9 : decode cJ0_length_8abf5 9 = .ok (.ishr, 1) := by decide +kernel
theorem dJ0_length_8abf5_10 : decode cJ0_length_8abf5 10 = .ok (.ireturn, 1) := by decide +kernel
theorem dJ1_charAt_3b067_0 : decode cJ1_charAt_3b067 0 = .ok (.iload_n 1, 1) := by decide +kernel
theorem dJ1_charAt_3b067_1 : decode cJ1_charAt_3b067 1 = .ok (.aload_n 0, 1) := by decide +kernel
theorem dJ1_charAt_3b067_2 : decode cJ1_charAt_3b067 2 = .ok (.arraylength, 1) := by decide +kernel
theorem dJ1_charAt_3b067_3 : decode cJ1_charAt_3b067 3 = .ok (.invokestatic 9, 3) := by decide +kernel
theorem dJ1_charAt_3b067_6 : decode cJ1_charAt_3b067 6 = .ok (.aload_n 0, 1) := by decide +kernel
theorem dJ1_charAt_3b067_7 : decode cJ1_charAt_3b067 7 = .ok (.iload_n 1, 1) := by decide +kernel
theorem dJ1_charAt_3b067_8 : decode cJ1_charAt_3b067 8 = .ok (.baload, 1) := by decide +kernel
theorem dJ1_charAt_3b067_9 : decode cJ1_charAt_3b067 9 = .ok (.sipush 255, 3) := by decide +kernel
theorem dJ1_charAt_3b067_12 : decode cJ1_charAt_3b067 12 = .ok (.iand, 1) := by decide +kernel
theorem dJ1_charAt_3b067_13 : decode cJ1_charAt_3b067 13 = .ok (.i2c, 1) := by decide +kernel
theorem dJ1_charAt_3b067_14 : decode cJ1_charAt_3b067 14 = .ok (.ireturn, 1) := by decide +kernel
theorem dJ0_charAt_5068e_0 : decode cJ0_charAt_5068e 0 = .ok (.aload_n 0, 1) := by decide +kernel
theorem dJ0_charAt_5068e_1 : decode cJ0_charAt_5068e 1 = .ok (.invokevirtual 492, 3) := by decide +kernel
theorem dJ0_charAt_5068e_4 : decode cJ0_charAt_5068e 4 = .ok (.ifCond .eq 12, 3) := by decide +kernel
theorem dJ0_charAt_5068e_7 : decode cJ0_charAt_5068e 7 = .ok (.aload_n 0, 1) := by decide +kernel
theorem dJ0_charAt_5068e_8 : decode cJ0_charAt_5068e 8 = .ok (.getfield 9, 3) := by decide +kernel
theorem dJ0_charAt_5068e_11 : decode cJ0_charAt_5068e 11 = .ok (.iload_n 1, 1) := by decide +kernel
theorem dJ0_charAt_5068e_12 : decode cJ0_charAt_5068e 12 = .ok (.invokestatic 495, 3) := by decide +kernel
theorem dJ0_charAt_5068e_15 : decode cJ0_charAt_5068e 15 = .ok (.ireturn, 1) := by decide +kernel
theorem dJ0_charAt_5068e_16 : decode cJ0_charAt_5068e 16 = .ok (.aload_n 0, 1) := by decide +kernel
theorem dJ0_charAt_5068e_17 : decode cJ0_charAt_5068e 17 = .ok (.getfield 9, 3) := by decide +kernel
theorem dJ0_charAt_5068e_20 : decode cJ0_charAt_5068e 20 = .ok (.iload_n 1, 1) := by decide +kernel
theorem dJ0_charAt_5068e_21 : decode cJ0_charAt_5068e 21 = .ok (.invokestatic 498, 3) := by decide +kernel
theorem dJ0_charAt_5068e_24 : decode cJ0_charAt_5068e 24 = .ok (.ireturn, 1) := by decide +kernel
def f_X1_hasMinute (N : Nat) (x0 : Int32) : Option Bool := (if x0 < (0 : Int32) then some false else (if (52596000 : Int32) ≤ x0 then some false else some true))
def f_X1_minuteNumber (N : Nat) (x0 : Int32) (x1 : Int32) (x2 : Int32) : Option Int32 := some ((((1440 : Int32) * x0) + ((60 : Int32) * x1)) + x2)
def f_X1_dayNumber (N : Nat) (x0 : Int32) (x1 : Int32) (x2 : Int32) : Option Int32 := (if x0 < (0 : Int32) then some (-1 : Int32) else (if (99 : Int32) < x0 then some (-1 : Int32) else (if x1 < (1 : Int32) then some (-1 : Int32) else (if x1 ≤ (12 : Int32) then (if (x0 - x0 / (4 : Int32) * (4 : Int32)) = (0 : Int32) then (if (x1 - (1 : Int32)) < 0 ∨ 13 ≤ (x1 - (1 : Int32)).toNatClampNeg then none else (if x1 < 0 ∨ 13 ≤ x1.toNatClampNeg then none else (if x1 = (2 : Int32) then (if x1 ≤ (2 : Int32) then (if x2 < (1 : Int32) then some (-1 : Int32) else (if x2 ≤ (((aDy x1.toNatClampNeg) - (aDy (x1 - (1 : Int32)).toNatClampNeg)) + (1 : Int32)) then some ((((((365 : Int32) * x0) + ((x0 + (3 : Int32)) / (4 : Int32))) + (aDy (x1 - (1 : Int32)).toNatClampNeg)) + x2) - (1 : Int32)) else some (-1 : Int32))) else (if x2 < (1 : Int32) then some (-1 : Int32) else (if x2 ≤ (((aDy x1.toNatClampNeg) - (aDy (x1 - (1 : Int32)).toNatClampNeg)) + (1 : Int32)) then some ((((((365 : Int32) * x0) + ((x0 + (3 : Int32)) / (4 : Int32))) + ((aDy (x1 - (1 : Int32)).toNatClampNeg) + (1 : Int32))) + x2) - (1 : Int32)) else some (-1 : Int32)))) else (if x1 ≤ (2 : Int32) then (if x2 < (1 : Int32) then some (-1 : Int32) else (if x2 ≤ ((aDy x1.toNatClampNeg) - (aDy (x1 - (1 : Int32)).toNatClampNeg)) then some ((((((365 : Int32) * x0) + ((x0 + (3 : Int32)) / (4 : Int32))) + (aDy (x1 - (1 : Int32)).toNatClampNeg)) + x2) - (1 : Int32)) else some (-1 : Int32))) else (if x2 < (1 : Int32) then some (-1 : Int32) else (if x2 ≤ ((aDy x1.toNatClampNeg) - (aDy (x1 - (1 : Int32)).toNatClampNeg)) then some ((((((365 : Int32) * x0) + ((x0 + (3 : Int32)) / (4 : Int32))) + ((aDy (x1 - (1 : Int32)).toNatClampNeg) + (1 : Int32))) + x2) - (1 : Int32)) else some (-1 : Int32))))))) else (if (x1 - (1 : Int32)) < 0 ∨ 13 ≤ (x1 - (1 : Int32)).toNatClampNeg then none else (if x1 < 0 ∨ 13 ≤ x1.toNatClampNeg then none else (if x2 < (1 : Int32) then some (-1 : Int32) else (if x2 ≤ ((aDy x1.toNatClampNeg) - (aDy (x1 - (1 : Int32)).toNatClampNeg)) then some ((((((365 : Int32) * x0) + ((x0 + (3 : Int32)) / (4 : Int32))) + (aDy (x1 - (1 : Int32)).toNatClampNeg)) + x2) - (1 : Int32)) else some (-1 : Int32)))))) else some (-1 : Int32)))))
def f_X1_yearOf (N : Nat) (x0 : Int32) : Option Int32 := (if (366 : Int32) ≤ (x0 - x0 / (1461 : Int32) * (1461 : Int32)) then some ((((x0 / (1461 : Int32)) * (4 : Int32)) + (1 : Int32)) + (((x0 - x0 / (1461 : Int32) * (1461 : Int32)) - (366 : Int32)) / (365 : Int32))) else some ((x0 / (1461 : Int32)) * (4 : Int32)))
def l_X1_monthOf_7 (N : Nat) (x0 : Int32) : Nat → Int32 → Int32 → Option Int32
  | 0, _, _ => none
  | n + 1, x1, x2 => (if (12 : Int32) ≤ x2 then some x2 else ((f_X1_dayNumber N x1 (x2 + (1 : Int32)) (1 : Int32)).bind fun q4 => (if x0 < q4 then some x2 else l_X1_monthOf_7 N x0 n x1 (x2 + (1 : Int32)))))
def f_X1_monthOf (N : Nat) (x0 : Int32) : Option Int32 := ((f_X1_yearOf N x0).bind fun q1 => l_X1_monthOf_7 N x0 N q1 (1 : Int32))
def f_X1_dayOfMonth (N : Nat) (x0 : Int32) : Option Int32 := ((f_X1_yearOf N x0).bind fun q1 => ((f_X1_monthOf N x0).bind fun q3 => ((f_X1_dayNumber N q1 q3 (1 : Int32)).bind fun q5 => some ((x0 - q5) + (1 : Int32)))))
def f_X1_weekdayOf (N : Nat) (x0 : Int32) : Option Int32 := some (((x0 + (5 : Int32)) - (x0 + (5 : Int32)) / (7 : Int32) * (7 : Int32)) + (1 : Int32))
def f_X2_twoDigits (N : Nat) (x0 : Int32) : Option Int64 := some ((jshl (x0 / (10 : Int32)).toInt64 (4 : Int32)) ||| (x0 - x0 / (10 : Int32) * (10 : Int32)).toInt64)
def f_X2_maskOf (N : Nat) (x0 : Int32) : Option Int64 := (if x0 < 0 ∨ 3 ≤ x0.toNatClampNeg then none else (if x0 < 0 ∨ 3 ≤ x0.toNatClampNeg then none else some ((jshl (1 : Int64) ((aEn x0.toNatClampNeg) + (1 : Int32))) - (jshl (1 : Int64) (aSt x0.toNatClampNeg)))))
def f_J13_bitCount_95d88 (N : Nat) (x0 : Int64) : Option Int32 := some (((((((((x0 - ((jushr x0 (1 : Int32)) &&& (6148914691236517205 : Int64))) &&& (3689348814741910323 : Int64)) + ((jushr (x0 - ((jushr x0 (1 : Int32)) &&& (6148914691236517205 : Int64))) (2 : Int32)) &&& (3689348814741910323 : Int64))) + (jushr (((x0 - ((jushr x0 (1 : Int32)) &&& (6148914691236517205 : Int64))) &&& (3689348814741910323 : Int64)) + ((jushr (x0 - ((jushr x0 (1 : Int32)) &&& (6148914691236517205 : Int64))) (2 : Int32)) &&& (3689348814741910323 : Int64))) (4 : Int32))) &&& (1085102592571150095 : Int64)) + (jushr (((((x0 - ((jushr x0 (1 : Int32)) &&& (6148914691236517205 : Int64))) &&& (3689348814741910323 : Int64)) + ((jushr (x0 - ((jushr x0 (1 : Int32)) &&& (6148914691236517205 : Int64))) (2 : Int32)) &&& (3689348814741910323 : Int64))) + (jushr (((x0 - ((jushr x0 (1 : Int32)) &&& (6148914691236517205 : Int64))) &&& (3689348814741910323 : Int64)) + ((jushr (x0 - ((jushr x0 (1 : Int32)) &&& (6148914691236517205 : Int64))) (2 : Int32)) &&& (3689348814741910323 : Int64))) (4 : Int32))) &&& (1085102592571150095 : Int64)) (8 : Int32))) + (jushr ((((((x0 - ((jushr x0 (1 : Int32)) &&& (6148914691236517205 : Int64))) &&& (3689348814741910323 : Int64)) + ((jushr (x0 - ((jushr x0 (1 : Int32)) &&& (6148914691236517205 : Int64))) (2 : Int32)) &&& (3689348814741910323 : Int64))) + (jushr (((x0 - ((jushr x0 (1 : Int32)) &&& (6148914691236517205 : Int64))) &&& (3689348814741910323 : Int64)) + ((jushr (x0 - ((jushr x0 (1 : Int32)) &&& (6148914691236517205 : Int64))) (2 : Int32)) &&& (3689348814741910323 : Int64))) (4 : Int32))) &&& (1085102592571150095 : Int64)) + (jushr (((((x0 - ((jushr x0 (1 : Int32)) &&& (6148914691236517205 : Int64))) &&& (3689348814741910323 : Int64)) + ((jushr (x0 - ((jushr x0 (1 : Int32)) &&& (6148914691236517205 : Int64))) (2 : Int32)) &&& (3689348814741910323 : Int64))) + (jushr (((x0 - ((jushr x0 (1 : Int32)) &&& (6148914691236517205 : Int64))) &&& (3689348814741910323 : Int64)) + ((jushr (x0 - ((jushr x0 (1 : Int32)) &&& (6148914691236517205 : Int64))) (2 : Int32)) &&& (3689348814741910323 : Int64))) (4 : Int32))) &&& (1085102592571150095 : Int64)) (8 : Int32))) (16 : Int32))) + (jushr (((((((x0 - ((jushr x0 (1 : Int32)) &&& (6148914691236517205 : Int64))) &&& (3689348814741910323 : Int64)) + ((jushr (x0 - ((jushr x0 (1 : Int32)) &&& (6148914691236517205 : Int64))) (2 : Int32)) &&& (3689348814741910323 : Int64))) + (jushr (((x0 - ((jushr x0 (1 : Int32)) &&& (6148914691236517205 : Int64))) &&& (3689348814741910323 : Int64)) + ((jushr (x0 - ((jushr x0 (1 : Int32)) &&& (6148914691236517205 : Int64))) (2 : Int32)) &&& (3689348814741910323 : Int64))) (4 : Int32))) &&& (1085102592571150095 : Int64)) + (jushr (((((x0 - ((jushr x0 (1 : Int32)) &&& (6148914691236517205 : Int64))) &&& (3689348814741910323 : Int64)) + ((jushr (x0 - ((jushr x0 (1 : Int32)) &&& (6148914691236517205 : Int64))) (2 : Int32)) &&& (3689348814741910323 : Int64))) + (jushr (((x0 - ((jushr x0 (1 : Int32)) &&& (6148914691236517205 : Int64))) &&& (3689348814741910323 : Int64)) + ((jushr (x0 - ((jushr x0 (1 : Int32)) &&& (6148914691236517205 : Int64))) (2 : Int32)) &&& (3689348814741910323 : Int64))) (4 : Int32))) &&& (1085102592571150095 : Int64)) (8 : Int32))) + (jushr ((((((x0 - ((jushr x0 (1 : Int32)) &&& (6148914691236517205 : Int64))) &&& (3689348814741910323 : Int64)) + ((jushr (x0 - ((jushr x0 (1 : Int32)) &&& (6148914691236517205 : Int64))) (2 : Int32)) &&& (3689348814741910323 : Int64))) + (jushr (((x0 - ((jushr x0 (1 : Int32)) &&& (6148914691236517205 : Int64))) &&& (3689348814741910323 : Int64)) + ((jushr (x0 - ((jushr x0 (1 : Int32)) &&& (6148914691236517205 : Int64))) (2 : Int32)) &&& (3689348814741910323 : Int64))) (4 : Int32))) &&& (1085102592571150095 : Int64)) + (jushr (((((x0 - ((jushr x0 (1 : Int32)) &&& (6148914691236517205 : Int64))) &&& (3689348814741910323 : Int64)) + ((jushr (x0 - ((jushr x0 (1 : Int32)) &&& (6148914691236517205 : Int64))) (2 : Int32)) &&& (3689348814741910323 : Int64))) + (jushr (((x0 - ((jushr x0 (1 : Int32)) &&& (6148914691236517205 : Int64))) &&& (3689348814741910323 : Int64)) + ((jushr (x0 - ((jushr x0 (1 : Int32)) &&& (6148914691236517205 : Int64))) (2 : Int32)) &&& (3689348814741910323 : Int64))) (4 : Int32))) &&& (1085102592571150095 : Int64)) (8 : Int32))) (16 : Int32))) (32 : Int32))).toInt32 &&& (127 : Int32))
def f_X2_isOdd (N : Nat) (x0 : Int64) (x2 : Int32) : Option Bool := ((f_X2_maskOf N x2).bind fun q1 => ((f_J13_bitCount_95d88 N (x0 &&& q1)).bind fun q3 => (if (q3 - q3 / (2 : Int32) * (2 : Int32)) = (0 : Int32) then some false else some true)))
def l_X2_encode_102 (N : Nat) (x0 : Int32) (x1 : Bool) : Nat → Int32 → Int64 → Int32 → Option Int64
  | 0, _, _, _ => none
  | n + 1, x2, x3, x5 => (if (3 : Int32) ≤ x5 then some x3 else ((f_X2_isOdd N x3 x5).bind fun q21 => (if q21 = true then (if x5 < 0 ∨ 3 ≤ x5.toNatClampNeg then none else l_X2_encode_102 N x0 x1 n x2 (x3 ||| (jshl (1 : Int64) (aEn x5.toNatClampNeg))) (x5 + (1 : Int32))) else l_X2_encode_102 N x0 x1 n x2 x3 (x5 + (1 : Int32)))))
def f_X2_encode (N : Nat) (x0 : Int32) (x1 : Bool) : Option Int64 := (if x1 = true then ((f_X2_twoDigits N (x0 - x0 / (60 : Int32) * (60 : Int32))).bind fun q25 => ((f_X2_twoDigits N ((x0 / (60 : Int32)) - (x0 / (60 : Int32)) / (24 : Int32) * (24 : Int32))).bind fun q27 => ((f_X1_dayOfMonth N (x0 / (1440 : Int32))).bind fun q29 => ((f_X2_twoDigits N q29).bind fun q31 => ((f_X1_weekdayOf N (x0 / (1440 : Int32))).bind fun q33 => ((f_X1_monthOf N (x0 / (1440 : Int32))).bind fun q35 => ((f_X2_twoDigits N q35).bind fun q37 => ((f_X1_yearOf N (x0 / (1440 : Int32))).bind fun q39 => ((f_X2_twoDigits N q39).bind fun q41 => l_X2_encode_102 N x0 x1 N (x0 / (1440 : Int32)) ((((((((1048576 : Int64) ||| (524288 : Int64)) ||| (jshl q25 (21 : Int32))) ||| (jshl q27 (29 : Int32))) ||| (jshl q31 (36 : Int32))) ||| (jshl q33.toInt64 (42 : Int32))) ||| (jshl q37 (45 : Int32))) ||| (jshl q41 (50 : Int32))) (0 : Int32)))))))))) else ((f_X2_twoDigits N (x0 - x0 / (60 : Int32) * (60 : Int32))).bind fun q2 => ((f_X2_twoDigits N ((x0 / (60 : Int32)) - (x0 / (60 : Int32)) / (24 : Int32) * (24 : Int32))).bind fun q4 => ((f_X1_dayOfMonth N (x0 / (1440 : Int32))).bind fun q6 => ((f_X2_twoDigits N q6).bind fun q8 => ((f_X1_weekdayOf N (x0 / (1440 : Int32))).bind fun q10 => ((f_X1_monthOf N (x0 / (1440 : Int32))).bind fun q12 => ((f_X2_twoDigits N q12).bind fun q14 => ((f_X1_yearOf N (x0 / (1440 : Int32))).bind fun q16 => ((f_X2_twoDigits N q16).bind fun q18 => l_X2_encode_102 N x0 x1 N (x0 / (1440 : Int32)) (((((((1048576 : Int64) ||| (jshl q2 (21 : Int32))) ||| (jshl q4 (29 : Int32))) ||| (jshl q8 (36 : Int32))) ||| (jshl q10.toInt64 (42 : Int32))) ||| (jshl q14 (45 : Int32))) ||| (jshl q18 (50 : Int32))) (0 : Int32)))))))))))
def f_X2_bitOf (N : Nat) (x0 : Int64) (x2 : Int64) (x4 : Int32) : Option Int32 := (if ((jushr x2 x4) &&& (1 : Int64)) = (0 : Int64) then some ((jushr x0 x4) &&& (1 : Int64)).toInt32 else some (2 : Int32))
def f_X2_numberAt (N : Nat) (x0 : Int64) (x2 : Int32) (x3 : Int32) : Option Int32 := (if (9 : Int32) < ((jushr x0 x2).toInt32 &&& (15 : Int32)) then some (-1 : Int32) else (if ((jushr x0 (x2 + (4 : Int32))).toInt32 &&& (((1 : Int32) <<< (x3 &&& 31)) - (1 : Int32))) ≤ (9 : Int32) then some (((10 : Int32) * ((jushr x0 (x2 + (4 : Int32))).toInt32 &&& (((1 : Int32) <<< (x3 &&& 31)) - (1 : Int32)))) + ((jushr x0 x2).toInt32 &&& (15 : Int32))) else some (-1 : Int32)))
def f_X2_minuteIn (N : Nat) (x0 : Int64) : Option Int32 := ((f_X2_numberAt N x0 (21 : Int32) (3 : Int32)).bind fun q1 => (if q1 ≤ (59 : Int32) then some q1 else some (-1 : Int32)))
def f_X2_hourIn (N : Nat) (x0 : Int64) : Option Int32 := ((f_X2_numberAt N x0 (29 : Int32) (2 : Int32)).bind fun q1 => (if q1 ≤ (23 : Int32) then some q1 else some (-1 : Int32)))
def f_X2_dayIn (N : Nat) (x0 : Int64) : Option Int32 := ((f_X2_numberAt N x0 (50 : Int32) (4 : Int32)).bind fun q1 => ((f_X2_numberAt N x0 (45 : Int32) (1 : Int32)).bind fun q3 => ((f_X2_numberAt N x0 (36 : Int32) (2 : Int32)).bind fun q5 => ((f_X1_dayNumber N q1 q3 q5).bind fun q7 => some q7))))
def f_X2_hasWeekdayOf (N : Nat) (x0 : Int64) (x2 : Int32) : Option Bool := ((f_X1_weekdayOf N x2).bind fun q1 => (if ((jushr x0 (42 : Int32)).toInt32 &&& (7 : Int32)) = q1 then some true else some false))
def l_X2_faultOf_36 (N : Nat) (x0 : Int64) (x2 : Int64) : Nat → Int32 → Option Int32
  | 0, _ => none
  | n + 1, x4 => (if (3 : Int32) ≤ x4 then ((f_X2_dayIn N x0).bind fun q5 => ((f_X2_minuteIn N x0).bind fun q7 => (if q7 = (-1 : Int32) then some (6 : Int32) else ((f_X2_hourIn N x0).bind fun q10 => (if q10 = (-1 : Int32) then some (6 : Int32) else (if q5 = (-1 : Int32) then some (6 : Int32) else ((f_X2_hasWeekdayOf N x0 q5).bind fun q14 => (if q14 = true then some (0 : Int32) else some (7 : Int32))))))))) else ((f_X2_isOdd N x0 x4).bind fun q17 => (if q17 = true then some ((3 : Int32) + x4) else l_X2_faultOf_36 N x0 x2 n (x4 + (1 : Int32)))))
def f_X2_faultOf (N : Nat) (x0 : Int64) (x2 : Int64) : Option Int32 := (if (x2 &&& (576460752302899201 : Int64)) = (0 : Int64) then (if (x0 &&& (1 : Int64)) = (0 : Int64) then (if ((jushr x0 (20 : Int32)) &&& (1 : Int64)) = (0 : Int64) then some (2 : Int32) else l_X2_faultOf_36 N x0 x2 N (0 : Int32)) else some (2 : Int32)) else some (1 : Int32))
def l_X2_fillGaps_9 (N : Nat) (x0 : Int64) (x2 : Int64) (x4 : Int32) : Nat → Int64 → Int32 → Int32 → Option Int64
  | 0, _, _, _ => none
  | n + 1, x5, x7, x8 => (if (58 : Int32) < x8 then some x5 else (if ((jushr x2 x8) &&& (1 : Int64)) = (0 : Int64) then l_X2_fillGaps_9 N x0 x2 x4 n x5 x7 (x8 + (1 : Int32)) else l_X2_fillGaps_9 N x0 x2 x4 n (x5 ||| (jshl ((iushr x4 x7) &&& (1 : Int32)).toInt64 x8)) (x7 + (1 : Int32)) (x8 + (1 : Int32))))
def f_X2_fillGaps (N : Nat) (x0 : Int64) (x2 : Int64) (x4 : Int32) : Option Int64 := l_X2_fillGaps_9 N x0 x2 x4 N x0 (0 : Int32) (0 : Int32)
def l_X2_minuteOf_32 (N : Nat) (x0 : Int64) (x2 : Int64) : Nat → Int64 → Int32 → Int32 → Int32 → Option Int32
  | 0, _, _, _, _ => none
  | n + 1, x4, x6, x7, x8 => (if ((1 : Int32) <<< (x6 &&& 31)) ≤ x8 then some x7 else ((f_X2_fillGaps N x0 x4 x8).bind fun q5 => ((f_X2_faultOf N q5 (0 : Int64)).bind fun q7 => (if q7 = (0 : Int32) then (if x7 = (-1 : Int32) then ((f_X2_dayIn N q5).bind fun q11 => ((f_X2_hourIn N q5).bind fun q13 => ((f_X2_minuteIn N q5).bind fun q15 => ((f_X1_minuteNumber N q11 q13 q15).bind fun q17 => l_X2_minuteOf_32 N x0 x2 n x4 x6 q17 (x8 + (1 : Int32)))))) else some (-1 : Int32)) else l_X2_minuteOf_32 N x0 x2 n x4 x6 x7 (x8 + (1 : Int32))))))
def f_X2_minuteOf (N : Nat) (x0 : Int64) (x2 : Int64) : Option Int32 := ((f_J13_bitCount_95d88 N (x2 &&& (576460752302899201 : Int64))).bind fun q1 => (if q1 ≤ (aGr (3 : Int32).toNatClampNeg) then l_X2_minuteOf_32 N x0 x2 N (x2 &&& (576460752302899201 : Int64)) q1 (-1 : Int32) (0 : Int32) else some (-1 : Int32)))
def f_X2_blockValue (N : Nat) (x0 : Int64) (x2 : Int64) (x4 : Int32) : Option Int32 := ((f_X2_maskOf N x4).bind fun q1 => (if (x2 &&& q1) = (0 : Int64) then ((f_X2_isOdd N x0 x4).bind fun q4 => (if q4 = true then some (-1 : Int32) else (if x4 = (0 : Int32) then ((f_X2_minuteIn N x0).bind fun q17 => some q17) else (if x4 = (1 : Int32) then ((f_X2_hourIn N x0).bind fun q15 => some q15) else ((f_X2_dayIn N x0).bind fun q9 => (if q9 = (-1 : Int32) then some (-1 : Int32) else ((f_X2_hasWeekdayOf N x0 q9).bind fun q12 => (if q12 = true then some q9 else some (-1 : Int32))))))))) else some (-1 : Int32)))
def f_J3_checkIndex_8e157_n (N : Nat) (x0 : Int32) (x1 : Int32) : Option Int32 := (if x0 < (0 : Int32) then none else (if x0 < x1 then some x0 else none))
def f_J0_checkIndex_df160 (N : Nat) (x0 : Int32) (x1 : Int32) : Option Unit := ((f_J3_checkIndex_8e157_n N x0 x1).bind fun q1 => some ())
def f_J0_coder_7d493 (N : Nat) (i : Nat) : Option Int32 := some (0 : Int32)
def f_J0_isLatin1_aae02 (N : Nat) (i : Nat) : Option Bool := some true
def f_J0_length_8abf5 (N : Nat) (i : Nat) : Option Int32 := ((f_J0_coder_7d493 N i).bind fun q1 => some ((Int32.ofNat (lenS.getD i 0)) >>> (q1 &&& 31)))
def f_J1_charAt_3b067 (N : Nat) (i : Nat) (x1 : Int32) : Option Int32 := ((f_J0_checkIndex_df160 N x1 (Int32.ofNat (lenS.getD i 0))).bind fun q1 => (if x1 < 0 ∨ lenS.getD i 0 ≤ x1.toNatClampNeg then none else some (i2c (((bytS.getD i []).getD x1.toNatClampNeg 0) &&& (255 : Int32)))))
def f_J0_charAt_5068e (N : Nat) (i : Nat) (x1 : Int32) : Option Int32 := ((f_J0_isLatin1_aae02 N i).bind fun q1 => (if q1 = true then ((f_J1_charAt_3b067 N i x1).bind fun q4 => some q4) else none))
theorem kc_X1_hasMinute : Cond.static yX1_hasMinute ∈ lw_g ∧ Cond.initialized yX1_hasMinute.cls ∈ lw_g ∧ Cond.code yX1_hasMinute cX1_hasMinute 1 (some .boolean) ∈ lw_g ∧ yX1_hasMinute.cls ≠ "java/lang/invoke/MethodHandle" ∧ yX1_hasMinute.cls ≠ "java/lang/invoke/VarHandle" ∧ (parseMethodDescriptor yX1_hasMinute.desc).map (fun d => d.parameters.length) = some 1 := ⟨kq3_205, kq1_19, kq3_206, by decide +kernel, by decide +kernel, by decide +kernel⟩
theorem kc_X1_minuteNumber : Cond.static yX1_minuteNumber ∈ lw_g ∧ Cond.initialized yX1_minuteNumber.cls ∈ lw_g ∧ Cond.code yX1_minuteNumber cX1_minuteNumber 3 (some .int) ∈ lw_g ∧ yX1_minuteNumber.cls ≠ "java/lang/invoke/MethodHandle" ∧ yX1_minuteNumber.cls ≠ "java/lang/invoke/VarHandle" ∧ (parseMethodDescriptor yX1_minuteNumber.desc).map (fun d => d.parameters.length) = some 3 := ⟨kq2_71, kq1_19, kq2_72, by decide +kernel, by decide +kernel, by decide +kernel⟩
theorem kc_X1_dayNumber : Cond.static yX1_dayNumber ∈ lw_g ∧ Cond.initialized yX1_dayNumber.cls ∈ lw_g ∧ Cond.code yX1_dayNumber cX1_dayNumber 6 (some .int) ∈ lw_g ∧ yX1_dayNumber.cls ≠ "java/lang/invoke/MethodHandle" ∧ yX1_dayNumber.cls ≠ "java/lang/invoke/VarHandle" ∧ (parseMethodDescriptor yX1_dayNumber.desc).map (fun d => d.parameters.length) = some 3 := ⟨kq2_47, kq1_19, kq2_48, by decide +kernel, by decide +kernel, by decide +kernel⟩
theorem kc_X1_yearOf : Cond.static yX1_yearOf ∈ lw_g ∧ Cond.initialized yX1_yearOf.cls ∈ lw_g ∧ Cond.code yX1_yearOf cX1_yearOf 3 (some .int) ∈ lw_g ∧ yX1_yearOf.cls ≠ "java/lang/invoke/MethodHandle" ∧ yX1_yearOf.cls ≠ "java/lang/invoke/VarHandle" ∧ (parseMethodDescriptor yX1_yearOf.desc).map (fun d => d.parameters.length) = some 1 := ⟨kq3_172, kq1_19, kq3_173, by decide +kernel, by decide +kernel, by decide +kernel⟩
theorem kc_X1_monthOf : Cond.static yX1_monthOf ∈ lw_g ∧ Cond.initialized yX1_monthOf.cls ∈ lw_g ∧ Cond.code yX1_monthOf cX1_monthOf 3 (some .int) ∈ lw_g ∧ yX1_monthOf.cls ≠ "java/lang/invoke/MethodHandle" ∧ yX1_monthOf.cls ≠ "java/lang/invoke/VarHandle" ∧ (parseMethodDescriptor yX1_monthOf.desc).map (fun d => d.parameters.length) = some 1 := ⟨kq3_175, kq1_19, kq3_176, by decide +kernel, by decide +kernel, by decide +kernel⟩
theorem kc_X1_dayOfMonth : Cond.static yX1_dayOfMonth ∈ lw_g ∧ Cond.initialized yX1_dayOfMonth.cls ∈ lw_g ∧ Cond.code yX1_dayOfMonth cX1_dayOfMonth 1 (some .int) ∈ lw_g ∧ yX1_dayOfMonth.cls ≠ "java/lang/invoke/MethodHandle" ∧ yX1_dayOfMonth.cls ≠ "java/lang/invoke/VarHandle" ∧ (parseMethodDescriptor yX1_dayOfMonth.desc).map (fun d => d.parameters.length) = some 1 := ⟨kq3_169, kq1_19, kq3_170, by decide +kernel, by decide +kernel, by decide +kernel⟩
theorem kc_X1_weekdayOf : Cond.static yX1_weekdayOf ∈ lw_g ∧ Cond.initialized yX1_weekdayOf.cls ∈ lw_g ∧ Cond.code yX1_weekdayOf cX1_weekdayOf 1 (some .int) ∈ lw_g ∧ yX1_weekdayOf.cls ≠ "java/lang/invoke/MethodHandle" ∧ yX1_weekdayOf.cls ≠ "java/lang/invoke/VarHandle" ∧ (parseMethodDescriptor yX1_weekdayOf.desc).map (fun d => d.parameters.length) = some 1 := ⟨kq2_55, kq1_19, kq2_56, by decide +kernel, by decide +kernel, by decide +kernel⟩
theorem kc_X2_twoDigits : Cond.static yX2_twoDigits ∈ lw_g ∧ Cond.initialized yX2_twoDigits.cls ∈ lw_g ∧ Cond.code yX2_twoDigits cX2_twoDigits 1 (some .long) ∈ lw_g ∧ yX2_twoDigits.cls ≠ "java/lang/invoke/MethodHandle" ∧ yX2_twoDigits.cls ≠ "java/lang/invoke/VarHandle" ∧ (parseMethodDescriptor yX2_twoDigits.desc).map (fun d => d.parameters.length) = some 1 := ⟨kq3_166, kq1_17, kq3_167, by decide +kernel, by decide +kernel, by decide +kernel⟩
theorem kc_X2_maskOf : Cond.static yX2_maskOf ∈ lw_g ∧ Cond.initialized yX2_maskOf.cls ∈ lw_g ∧ Cond.code yX2_maskOf cX2_maskOf 1 (some .long) ∈ lw_g ∧ yX2_maskOf.cls ≠ "java/lang/invoke/MethodHandle" ∧ yX2_maskOf.cls ≠ "java/lang/invoke/VarHandle" ∧ (parseMethodDescriptor yX2_maskOf.desc).map (fun d => d.parameters.length) = some 1 := ⟨kq2_24, kq1_17, kq2_25, by decide +kernel, by decide +kernel, by decide +kernel⟩
theorem kc_J13_bitCount_95d88 : Cond.static yJ13_bitCount_95d88 ∈ lw_g ∧ Cond.initialized yJ13_bitCount_95d88.cls ∈ lw_g ∧ Cond.code yJ13_bitCount_95d88 cJ13_bitCount_95d88 2 (some .int) ∈ lw_g ∧ yJ13_bitCount_95d88.cls ≠ "java/lang/invoke/MethodHandle" ∧ yJ13_bitCount_95d88.cls ≠ "java/lang/invoke/VarHandle" ∧ (parseMethodDescriptor yJ13_bitCount_95d88.desc).map (fun d => d.parameters.length) = some 1 := ⟨kq1_239, kq1_18, kq2_0, by decide +kernel, by decide +kernel, by decide +kernel⟩
theorem kc_X2_isOdd : Cond.static yX2_isOdd ∈ lw_g ∧ Cond.initialized yX2_isOdd.cls ∈ lw_g ∧ Cond.code yX2_isOdd cX2_isOdd 3 (some .boolean) ∈ lw_g ∧ yX2_isOdd.cls ≠ "java/lang/invoke/MethodHandle" ∧ yX2_isOdd.cls ≠ "java/lang/invoke/VarHandle" ∧ (parseMethodDescriptor yX2_isOdd.desc).map (fun d => d.parameters.length) = some 2 := ⟨kq2_31, kq1_17, kq2_32, by decide +kernel, by decide +kernel, by decide +kernel⟩
theorem kc_X2_encode : Cond.static yX2_encode ∈ lw_g ∧ Cond.initialized yX2_encode.cls ∈ lw_g ∧ Cond.code yX2_encode cX2_encode 6 (some .long) ∈ lw_g ∧ yX2_encode.cls ≠ "java/lang/invoke/MethodHandle" ∧ yX2_encode.cls ≠ "java/lang/invoke/VarHandle" ∧ (parseMethodDescriptor yX2_encode.desc).map (fun d => d.parameters.length) = some 2 := ⟨kq3_161, kq1_17, kq3_162, by decide +kernel, by decide +kernel, by decide +kernel⟩
theorem kc_X2_bitOf : Cond.static yX2_bitOf ∈ lw_g ∧ Cond.initialized yX2_bitOf.cls ∈ lw_g ∧ Cond.code yX2_bitOf cX2_bitOf 5 (some .int) ∈ lw_g ∧ yX2_bitOf.cls ≠ "java/lang/invoke/MethodHandle" ∧ yX2_bitOf.cls ≠ "java/lang/invoke/VarHandle" ∧ (parseMethodDescriptor yX2_bitOf.desc).map (fun d => d.parameters.length) = some 3 := ⟨kq4_38, kq1_17, kq4_39, by decide +kernel, by decide +kernel, by decide +kernel⟩
theorem kc_X2_numberAt : Cond.static yX2_numberAt ∈ lw_g ∧ Cond.initialized yX2_numberAt.cls ∈ lw_g ∧ Cond.code yX2_numberAt cX2_numberAt 6 (some .int) ∈ lw_g ∧ yX2_numberAt.cls ≠ "java/lang/invoke/MethodHandle" ∧ yX2_numberAt.cls ≠ "java/lang/invoke/VarHandle" ∧ (parseMethodDescriptor yX2_numberAt.desc).map (fun d => d.parameters.length) = some 3 := ⟨kq2_38, kq1_17, kq2_39, by decide +kernel, by decide +kernel, by decide +kernel⟩
theorem kc_X2_minuteIn : Cond.static yX2_minuteIn ∈ lw_g ∧ Cond.initialized yX2_minuteIn.cls ∈ lw_g ∧ Cond.code yX2_minuteIn cX2_minuteIn 3 (some .int) ∈ lw_g ∧ yX2_minuteIn.cls ≠ "java/lang/invoke/MethodHandle" ∧ yX2_minuteIn.cls ≠ "java/lang/invoke/VarHandle" ∧ (parseMethodDescriptor yX2_minuteIn.desc).map (fun d => d.parameters.length) = some 1 := ⟨kq2_35, kq1_17, kq2_36, by decide +kernel, by decide +kernel, by decide +kernel⟩
theorem kc_X2_hourIn : Cond.static yX2_hourIn ∈ lw_g ∧ Cond.initialized yX2_hourIn.cls ∈ lw_g ∧ Cond.code yX2_hourIn cX2_hourIn 3 (some .int) ∈ lw_g ∧ yX2_hourIn.cls ≠ "java/lang/invoke/MethodHandle" ∧ yX2_hourIn.cls ≠ "java/lang/invoke/VarHandle" ∧ (parseMethodDescriptor yX2_hourIn.desc).map (fun d => d.parameters.length) = some 1 := ⟨kq2_41, kq1_17, kq2_42, by decide +kernel, by decide +kernel, by decide +kernel⟩
theorem kc_X2_dayIn : Cond.static yX2_dayIn ∈ lw_g ∧ Cond.initialized yX2_dayIn.cls ∈ lw_g ∧ Cond.code yX2_dayIn cX2_dayIn 4 (some .int) ∈ lw_g ∧ yX2_dayIn.cls ≠ "java/lang/invoke/MethodHandle" ∧ yX2_dayIn.cls ≠ "java/lang/invoke/VarHandle" ∧ (parseMethodDescriptor yX2_dayIn.desc).map (fun d => d.parameters.length) = some 1 := ⟨kq2_44, kq1_17, kq2_45, by decide +kernel, by decide +kernel, by decide +kernel⟩
theorem kc_X2_hasWeekdayOf : Cond.static yX2_hasWeekdayOf ∈ lw_g ∧ Cond.initialized yX2_hasWeekdayOf.cls ∈ lw_g ∧ Cond.code yX2_hasWeekdayOf cX2_hasWeekdayOf 3 (some .boolean) ∈ lw_g ∧ yX2_hasWeekdayOf.cls ≠ "java/lang/invoke/MethodHandle" ∧ yX2_hasWeekdayOf.cls ≠ "java/lang/invoke/VarHandle" ∧ (parseMethodDescriptor yX2_hasWeekdayOf.desc).map (fun d => d.parameters.length) = some 2 := ⟨kq2_52, kq1_17, kq2_53, by decide +kernel, by decide +kernel, by decide +kernel⟩
theorem kc_X2_faultOf : Cond.static yX2_faultOf ∈ lw_g ∧ Cond.initialized yX2_faultOf.cls ∈ lw_g ∧ Cond.code yX2_faultOf cX2_faultOf 5 (some .int) ∈ lw_g ∧ yX2_faultOf.cls ≠ "java/lang/invoke/MethodHandle" ∧ yX2_faultOf.cls ≠ "java/lang/invoke/VarHandle" ∧ (parseMethodDescriptor yX2_faultOf.desc).map (fun d => d.parameters.length) = some 2 := ⟨kq3_142, kq1_17, kq3_143, by decide +kernel, by decide +kernel, by decide +kernel⟩
theorem kc_X2_fillGaps : Cond.static yX2_fillGaps ∈ lw_g ∧ Cond.initialized yX2_fillGaps.cls ∈ lw_g ∧ Cond.code yX2_fillGaps cX2_fillGaps 9 (some .long) ∈ lw_g ∧ yX2_fillGaps.cls ≠ "java/lang/invoke/MethodHandle" ∧ yX2_fillGaps.cls ≠ "java/lang/invoke/VarHandle" ∧ (parseMethodDescriptor yX2_fillGaps.desc).map (fun d => d.parameters.length) = some 3 := ⟨kq3_139, kq1_17, kq3_140, by decide +kernel, by decide +kernel, by decide +kernel⟩
theorem kc_X2_minuteOf : Cond.static yX2_minuteOf ∈ lw_g ∧ Cond.initialized yX2_minuteOf.cls ∈ lw_g ∧ Cond.code yX2_minuteOf cX2_minuteOf 11 (some .int) ∈ lw_g ∧ yX2_minuteOf.cls ≠ "java/lang/invoke/MethodHandle" ∧ yX2_minuteOf.cls ≠ "java/lang/invoke/VarHandle" ∧ (parseMethodDescriptor yX2_minuteOf.desc).map (fun d => d.parameters.length) = some 2 := ⟨kq3_134, kq1_17, kq3_135, by decide +kernel, by decide +kernel, by decide +kernel⟩
theorem kc_X2_blockValue : Cond.static yX2_blockValue ∈ lw_g ∧ Cond.initialized yX2_blockValue.cls ∈ lw_g ∧ Cond.code yX2_blockValue cX2_blockValue 6 (some .int) ∈ lw_g ∧ yX2_blockValue.cls ≠ "java/lang/invoke/MethodHandle" ∧ yX2_blockValue.cls ≠ "java/lang/invoke/VarHandle" ∧ (parseMethodDescriptor yX2_blockValue.desc).map (fun d => d.parameters.length) = some 3 := ⟨kq2_21, kq1_17, kq2_22, by decide +kernel, by decide +kernel, by decide +kernel⟩
theorem kc_J3_checkIndex_8e157_n : Cond.static yJ3_checkIndex_8e157 ∈ lw_g ∧ Cond.initialized yJ3_checkIndex_8e157.cls ∈ lw_g ∧ Cond.code yJ3_checkIndex_8e157 cJ3_checkIndex_8e157 3 (some .int) ∈ lw_g ∧ yJ3_checkIndex_8e157.cls ≠ "java/lang/invoke/MethodHandle" ∧ yJ3_checkIndex_8e157.cls ≠ "java/lang/invoke/VarHandle" ∧ (parseMethodDescriptor yJ3_checkIndex_8e157.desc).map (fun d => d.parameters.length) = some 3 := ⟨kq3_26, kq1_15, kq3_27, by decide +kernel, by decide +kernel, by decide +kernel⟩
theorem kc_J3_checkIndex_8e157_r : Cond.static yJ3_checkIndex_8e157 ∈ lw_g ∧ Cond.initialized yJ3_checkIndex_8e157.cls ∈ lw_g ∧ Cond.code yJ3_checkIndex_8e157 cJ3_checkIndex_8e157 3 (some .int) ∈ lw_g ∧ yJ3_checkIndex_8e157.cls ≠ "java/lang/invoke/MethodHandle" ∧ yJ3_checkIndex_8e157.cls ≠ "java/lang/invoke/VarHandle" ∧ (parseMethodDescriptor yJ3_checkIndex_8e157.desc).map (fun d => d.parameters.length) = some 3 := ⟨kq3_26, kq1_15, kq3_27, by decide +kernel, by decide +kernel, by decide +kernel⟩
theorem kc_J0_checkIndex_df160 : Cond.static yJ0_checkIndex_df160 ∈ lw_g ∧ Cond.initialized yJ0_checkIndex_df160.cls ∈ lw_g ∧ Cond.code yJ0_checkIndex_df160 cJ0_checkIndex_df160 2 none ∈ lw_g ∧ yJ0_checkIndex_df160.cls ≠ "java/lang/invoke/MethodHandle" ∧ yJ0_checkIndex_df160.cls ≠ "java/lang/invoke/VarHandle" ∧ (parseMethodDescriptor yJ0_checkIndex_df160.desc).map (fun d => d.parameters.length) = some 2 := ⟨kq3_21, kq1_13, kq3_22, by decide +kernel, by decide +kernel, by decide +kernel⟩
theorem kc_J0_coder_7d493 : Cond.instanceMethod yJ0_coder_7d493 ∈ lw_g ∧ Cond.selects yJ0_coder_7d493.cls yJ0_coder_7d493 yJ0_coder_7d493 ∈ lw_g ∧ Cond.initialized yJ0_coder_7d493.cls ∈ lw_g ∧ Cond.code yJ0_coder_7d493 cJ0_coder_7d493 1 (some .byte) ∈ lw_g ∧ yJ0_coder_7d493.cls ≠ "java/lang/invoke/MethodHandle" ∧ yJ0_coder_7d493.cls ≠ "java/lang/invoke/VarHandle" ∧ (parseMethodDescriptor yJ0_coder_7d493.desc).map (fun d => d.parameters.length) = some 0 := ⟨kq3_4, kq3_5, kq1_13, kq3_6, by decide +kernel, by decide +kernel, by decide +kernel⟩
theorem kc_J0_isLatin1_aae02 : Cond.instanceMethod yJ0_isLatin1_aae02 ∈ lw_g ∧ Cond.selects yJ0_isLatin1_aae02.cls yJ0_isLatin1_aae02 yJ0_isLatin1_aae02 ∈ lw_g ∧ Cond.initialized yJ0_isLatin1_aae02.cls ∈ lw_g ∧ Cond.code yJ0_isLatin1_aae02 cJ0_isLatin1_aae02 1 (some .boolean) ∈ lw_g ∧ yJ0_isLatin1_aae02.cls ≠ "java/lang/invoke/MethodHandle" ∧ yJ0_isLatin1_aae02.cls ≠ "java/lang/invoke/VarHandle" ∧ (parseMethodDescriptor yJ0_isLatin1_aae02.desc).map (fun d => d.parameters.length) = some 0 := ⟨kq3_14, kq3_15, kq1_13, kq3_16, by decide +kernel, by decide +kernel, by decide +kernel⟩
theorem kc_J0_length_8abf5 : Cond.instanceMethod yJ0_length_8abf5 ∈ lw_g ∧ Cond.selects yJ0_length_8abf5.cls yJ0_length_8abf5 yJ0_length_8abf5 ∈ lw_g ∧ Cond.initialized yJ0_length_8abf5.cls ∈ lw_g ∧ Cond.code yJ0_length_8abf5 cJ0_length_8abf5 1 (some .int) ∈ lw_g ∧ yJ0_length_8abf5.cls ≠ "java/lang/invoke/MethodHandle" ∧ yJ0_length_8abf5.cls ≠ "java/lang/invoke/VarHandle" ∧ (parseMethodDescriptor yJ0_length_8abf5.desc).map (fun d => d.parameters.length) = some 0 := ⟨kq3_0, kq3_1, kq1_13, kq3_2, by decide +kernel, by decide +kernel, by decide +kernel⟩
theorem kc_J1_charAt_3b067 : Cond.static yJ1_charAt_3b067 ∈ lw_g ∧ Cond.initialized yJ1_charAt_3b067.cls ∈ lw_g ∧ Cond.code yJ1_charAt_3b067 cJ1_charAt_3b067 2 (some .char) ∈ lw_g ∧ yJ1_charAt_3b067.cls ≠ "java/lang/invoke/MethodHandle" ∧ yJ1_charAt_3b067.cls ≠ "java/lang/invoke/VarHandle" ∧ (parseMethodDescriptor yJ1_charAt_3b067.desc).map (fun d => d.parameters.length) = some 2 := ⟨kq3_18, kq1_14, kq3_19, by decide +kernel, by decide +kernel, by decide +kernel⟩
theorem kc_J0_charAt_5068e : Cond.instanceMethod yJ0_charAt_5068e ∈ lw_g ∧ Cond.selects yJ0_charAt_5068e.cls yJ0_charAt_5068e yJ0_charAt_5068e ∈ lw_g ∧ Cond.initialized yJ0_charAt_5068e.cls ∈ lw_g ∧ Cond.code yJ0_charAt_5068e cJ0_charAt_5068e 2 (some .char) ∈ lw_g ∧ yJ0_charAt_5068e.cls ≠ "java/lang/invoke/MethodHandle" ∧ yJ0_charAt_5068e.cls ≠ "java/lang/invoke/VarHandle" ∧ (parseMethodDescriptor yJ0_charAt_5068e.desc).map (fun d => d.parameters.length) = some 1 := ⟨kq3_10, kq3_11, kq1_13, kq3_12, by decide +kernel, by decide +kernel, by decide +kernel⟩
set_option maxRecDepth 100000 in
set_option maxHeartbeats 4000000 in
theorem c_X1_hasMinute {l : Launch} {G : Gp} {sz N : Nat} {x0 : Int32} {q : Bool} (hf : f_X1_hasMinute N x0 = some q) : Met l yX1_hasMinute (Cond.code yX1_hasMinute cX1_hasMinute 1 (some .boolean) :: lw_g) ({ frames := 0, cells := 0, slots := 0, locals := 0 } : Room) (va_Pc [.int x0] (pw G [] sz)) (va_Qi (fun (r : Int32) (v : Unit) => bI q = r ∧ () = v) (bw G (fun _ : Unit => ([] : va_W)) (va_A [] sz)) (va_A [] sz)) 0 0 (va_A [] sz) := by
  refine mt (Qc := (fun A => va_Qi (fun (r : Int32) (v : Unit) => bI q = r ∧ () = v) (bw G (fun _ : Unit => ([] : va_W)) A) A)) (by decide) (Nat.le_of_ble_eq_true rfl) ?_
  intro p e s m below meth c A ls hx hb hr hlk hml hts hown hA hP hK hD hE hS hl
  have hown : s.vm.findClass RX1 = some m.cls := hown
  have hg : ∀ w ∈ lw_g, w.before ([.int x0] : List Value).toArray s = true := fun w h => hts w (List.mem_cons_of_mem _ h)
  have hC : CallFix p m c cX1_hasMinute 1 s ([.int x0] : List Value).toArray (Cond.code yX1_hasMinute cX1_hasMinute 1 (some .boolean) :: lw_g) RX1 := ⟨hx, hb, hml, hown, hts⟩
  have hl : lv_has ls 1 [(0, .int x0)] := hl
  rw [f_X1_hasMinute] at hf
  refine lv_iload_n hx hb dX1_hasMinute_0 rfl (lv_at hl 0 rfl) ?_
  refine lv_if_lt (tgt := 14) hx hb dX1_hasMinute_1 (by decide) (fun c1 => ?_) (fun c1 => ?_)
  · have hf := tp hf c1
    refine lv_iconst (v := (0 : Int32)) hx hb dX1_hasMinute_14 (by decide) ?_
    have hf := Option.some.inj hf
    subst hf
    exact e_z (wf := (fun _ : Unit => ([] : va_W))) hx hb hr hlk () rfl ⟨rfl, rfl⟩ hP hK hD hS dX1_hasMinute_15
  · have hf := tn hf c1
    refine lv_iload_n hx hb dX1_hasMinute_4 rfl (lv_at hl 0 rfl) ?_
    refine lv_ldc hx hb hown (hg _ kq3_207) dX1_hasMinute_5 ?_
    refine lv_icmp_ge (tgt := 14) hx hb dX1_hasMinute_7 (by decide) (fun c2 => ?_) (fun c2 => ?_)
    · have hf := tp hf c2
      refine lv_iconst (v := (0 : Int32)) hx hb dX1_hasMinute_14 (by decide) ?_
      have hf := Option.some.inj hf
      subst hf
      exact e_z (wf := (fun _ : Unit => ([] : va_W))) hx hb hr hlk () rfl ⟨rfl, rfl⟩ hP hK hD hS dX1_hasMinute_15
    · have hf := tn hf c2
      refine lv_iconst (v := (1 : Int32)) hx hb dX1_hasMinute_10 (by decide) ?_
      refine lv_goto (tgt := 15) hx hb dX1_hasMinute_11 (by decide) ?_
      have hf := Option.some.inj hf
      subst hf
      exact e_z (wf := (fun _ : Unit => ([] : va_W))) hx hb hr hlk () rfl ⟨rfl, rfl⟩ hP hK hD hS dX1_hasMinute_15
set_option maxRecDepth 100000 in
set_option maxHeartbeats 4000000 in
theorem c_X1_minuteNumber {l : Launch} {G : Gp} {sz N : Nat} {x0 : Int32} {x1 : Int32} {x2 : Int32} {q : Int32} (hf : f_X1_minuteNumber N x0 x1 x2 = some q) : Met l yX1_minuteNumber (Cond.code yX1_minuteNumber cX1_minuteNumber 3 (some .int) :: lw_g) ({ frames := 0, cells := 0, slots := 0, locals := 0 } : Room) (va_Pc [.int x0, .int x1, .int x2] (pw G [] sz)) (va_Qi (fun (r : Int32) (v : Unit) => q = r ∧ () = v) (bw G (fun _ : Unit => ([] : va_W)) (va_A [] sz)) (va_A [] sz)) 0 0 (va_A [] sz) := by
  refine mt (Qc := (fun A => va_Qi (fun (r : Int32) (v : Unit) => q = r ∧ () = v) (bw G (fun _ : Unit => ([] : va_W)) A) A)) (by decide) (Nat.le_of_ble_eq_true rfl) ?_
  intro p e s m below meth c A ls hx hb hr hlk hml hts hown hA hP hK hD hE hS hl
  have hown : s.vm.findClass RX1 = some m.cls := hown
  have hg : ∀ w ∈ lw_g, w.before ([.int x0, .int x1, .int x2] : List Value).toArray s = true := fun w h => hts w (List.mem_cons_of_mem _ h)
  have hC : CallFix p m c cX1_minuteNumber 3 s ([.int x0, .int x1, .int x2] : List Value).toArray (Cond.code yX1_minuteNumber cX1_minuteNumber 3 (some .int) :: lw_g) RX1 := ⟨hx, hb, hml, hown, hts⟩
  have hl : lv_has ls 3 [(0, .int x0), (1, .int x1), (2, .int x2)] := hl
  rw [f_X1_minuteNumber] at hf
  refine lv_sipush (v := (1440 : Int32)) hx hb dX1_minuteNumber_0 (by decide) ?_
  refine lv_iload_n hx hb dX1_minuteNumber_3 rfl (lv_at hl 0 rfl) ?_
  refine lv_imul hx hb dX1_minuteNumber_4 ?_
  refine lv_bipush (v := (60 : Int32)) hx hb dX1_minuteNumber_5 (by decide) ?_
  refine lv_iload_n hx hb dX1_minuteNumber_7 rfl (lv_at hl 1 rfl) ?_
  refine lv_imul hx hb dX1_minuteNumber_8 ?_
  refine lv_iadd hx hb dX1_minuteNumber_9 ?_
  refine lv_iload_n hx hb dX1_minuteNumber_10 rfl (lv_at hl 2 rfl) ?_
  refine lv_iadd hx hb dX1_minuteNumber_11 ?_
  have hf := Option.some.inj hf
  subst hf
  exact e_i (wf := (fun _ : Unit => ([] : va_W))) hx hb hr hlk () ⟨rfl, rfl⟩ hP hK hD hS dX1_minuteNumber_12
set_option maxRecDepth 100000 in
set_option maxHeartbeats 4000000 in
theorem c_X1_dayNumber {l : Launch} {G : Gp} {sz N : Nat} {x0 : Int32} {x1 : Int32} {x2 : Int32} {q : Int32} (hf : f_X1_dayNumber N x0 x1 x2 = some q) : Met l yX1_dayNumber (Cond.code yX1_dayNumber cX1_dayNumber 6 (some .int) :: lw_g) ({ frames := 0, cells := 0, slots := 0, locals := 0 } : Room) (va_Pc [.int x0, .int x1, .int x2] (pw G [] sz)) (va_Qi (fun (r : Int32) (v : Unit) => q = r ∧ () = v) (bw G (fun _ : Unit => ([] : va_W)) (va_A [] sz)) (va_A [] sz)) 0 0 (va_A [] sz) := by
  refine mt (Qc := (fun A => va_Qi (fun (r : Int32) (v : Unit) => q = r ∧ () = v) (bw G (fun _ : Unit => ([] : va_W)) A) A)) (by decide) (Nat.le_of_ble_eq_true rfl) ?_
  intro p e s m below meth c A ls hx hb hr hlk hml hts hown hA hP hK hD hE hS hl
  have hown : s.vm.findClass RX1 = some m.cls := hown
  have hg : ∀ w ∈ lw_g, w.before ([.int x0, .int x1, .int x2] : List Value).toArray s = true := fun w h => hts w (List.mem_cons_of_mem _ h)
  have hC : CallFix p m c cX1_dayNumber 6 s ([.int x0, .int x1, .int x2] : List Value).toArray (Cond.code yX1_dayNumber cX1_dayNumber 6 (some .int) :: lw_g) RX1 := ⟨hx, hb, hml, hown, hts⟩
  have hl : lv_has ls 6 [(0, .int x0), (1, .int x1), (2, .int x2)] := hl
  rw [f_X1_dayNumber] at hf
  refine lv_iload_n hx hb dX1_dayNumber_0 rfl (lv_at hl 0 rfl) ?_
  refine lv_if_lt (tgt := 21) hx hb dX1_dayNumber_1 (by decide) (fun c1 => ?_) (fun c1 => ?_)
  · have hf := tp hf c1
    refine lv_iconst (v := (-1 : Int32)) hx hb dX1_dayNumber_21 (by decide) ?_
    have hf := Option.some.inj hf
    subst hf
    exact e_i (wf := (fun _ : Unit => ([] : va_W))) hx hb hr hlk () ⟨rfl, rfl⟩ hP hK hD hS dX1_dayNumber_22
  · have hf := tn hf c1
    refine lv_iload_n hx hb dX1_dayNumber_4 rfl (lv_at hl 0 rfl) ?_
    refine lv_bipush (v := (99 : Int32)) hx hb dX1_dayNumber_5 (by decide) ?_
    refine lv_icmp_gt (tgt := 21) hx hb dX1_dayNumber_7 (by decide) (fun c2 => ?_) (fun c2 => ?_)
    · have hf := tp hf c2
      refine lv_iconst (v := (-1 : Int32)) hx hb dX1_dayNumber_21 (by decide) ?_
      have hf := Option.some.inj hf
      subst hf
      exact e_i (wf := (fun _ : Unit => ([] : va_W))) hx hb hr hlk () ⟨rfl, rfl⟩ hP hK hD hS dX1_dayNumber_22
    · have hf := tn hf c2
      refine lv_iload_n hx hb dX1_dayNumber_10 rfl (lv_at hl 1 rfl) ?_
      refine lv_iconst (v := (1 : Int32)) hx hb dX1_dayNumber_11 (by decide) ?_
      refine lv_icmp_lt (tgt := 21) hx hb dX1_dayNumber_12 (by decide) (fun c3 => ?_) (fun c3 => ?_)
      · have hf := tp hf c3
        refine lv_iconst (v := (-1 : Int32)) hx hb dX1_dayNumber_21 (by decide) ?_
        have hf := Option.some.inj hf
        subst hf
        exact e_i (wf := (fun _ : Unit => ([] : va_W))) hx hb hr hlk () ⟨rfl, rfl⟩ hP hK hD hS dX1_dayNumber_22
      · have hf := tn hf c3
        refine lv_iload_n hx hb dX1_dayNumber_15 rfl (lv_at hl 1 rfl) ?_
        refine lv_bipush (v := (12 : Int32)) hx hb dX1_dayNumber_16 (by decide) ?_
        refine lv_icmp_le (tgt := 23) hx hb dX1_dayNumber_18 (by decide) (fun c4 => ?_) (fun c4 => ?_)
        · have hf := tp hf c4
          refine lv_iload_n hx hb dX1_dayNumber_23 rfl (lv_at hl 0 rfl) ?_
          refine lv_iconst (v := (4 : Int32)) hx hb dX1_dayNumber_24 (by decide) ?_
          refine lv_irem hx hb dX1_dayNumber_25 (by decide) ?_
          refine lv_if_ne (tgt := 33) hx hb dX1_dayNumber_26 (by decide) (fun c5 => ?_) (fun c5 => ?_)
          · have hf := tn hf c5
            refine lv_iconst (v := (0 : Int32)) hx hb dX1_dayNumber_33 (by decide) ?_
            refine lv_istore_n (lv' := [(3, .int (0 : Int32)), (0, .int x0), (1, .int x1), (2, .int x2)]) hx hb dX1_dayNumber_34 rfl hl (by decide) rfl (fun ls hl => ?_)
            refine va_gets hx hb (hE.1.2.2.2.2.1) hS hown (hg _ kq2_49) (fun _ h9 => h9) dX1_dayNumber_35 ?_
            refine lv_iload_n hx hb dX1_dayNumber_38 rfl (lv_at hl 2 rfl) ?_
            refine lv_iconst (v := (1 : Int32)) hx hb dX1_dayNumber_39 (by decide) ?_
            refine lv_isub hx hb dX1_dayNumber_40 ?_
            obtain ⟨b6, hf⟩ := tno hf
            refine va_ti hx hb hE.1.2.2.2.2.2.1 hS b6 (v := .int (aDy (x1 - (1 : Int32)).toNatClampNeg)) rfl dX1_dayNumber_41 ?_
            refine lv_istore (lv' := [(4, .int (aDy (x1 - (1 : Int32)).toNatClampNeg)), (3, .int (0 : Int32)), (0, .int x0), (1, .int x1), (2, .int x2)]) hx hb dX1_dayNumber_42 hl (by decide) rfl (fun ls hl => ?_)
            refine va_gets hx hb (hE.1.2.2.2.2.1) hS hown (hg _ kq2_49) (fun _ h9 => h9) dX1_dayNumber_44 ?_
            refine lv_iload_n hx hb dX1_dayNumber_47 rfl (lv_at hl 3 rfl) ?_
            obtain ⟨b7, hf⟩ := tno hf
            refine va_ti hx hb hE.1.2.2.2.2.2.1 hS b7 (v := .int (aDy x1.toNatClampNeg)) rfl dX1_dayNumber_48 ?_
            refine lv_iload hx hb dX1_dayNumber_49 (lv_at hl 0 rfl) ?_
            refine lv_isub hx hb dX1_dayNumber_51 ?_
            refine lv_istore (lv' := [(5, .int ((aDy x1.toNatClampNeg) - (aDy (x1 - (1 : Int32)).toNatClampNeg))), (4, .int (aDy (x1 - (1 : Int32)).toNatClampNeg)), (3, .int (0 : Int32)), (0, .int x0), (1, .int x1), (2, .int x2)]) hx hb dX1_dayNumber_52 hl (by decide) rfl (fun ls hl => ?_)
            refine lv_iload_n hx hb dX1_dayNumber_54 rfl (lv_at hl 2 rfl) ?_
            refine lv_if_eq (tgt := 66) hx hb dX1_dayNumber_55 (by decide) (fun c8 => ?_) (fun c8 => ?_)
            rotate_left
            · exact absurd c8 (by decide)
            refine lv_iload_n hx hb dX1_dayNumber_66 rfl (lv_at hl 2 rfl) ?_
            refine lv_if_eq (tgt := 78) hx hb dX1_dayNumber_67 (by decide) (fun c9 => ?_) (fun c9 => ?_)
            rotate_left
            · exact absurd c9 (by decide)
            refine lv_iload_n hx hb dX1_dayNumber_78 rfl (lv_at hl 5 rfl) ?_
            refine lv_iconst (v := (1 : Int32)) hx hb dX1_dayNumber_79 (by decide) ?_
            refine lv_icmp_lt (tgt := 89) hx hb dX1_dayNumber_80 (by decide) (fun c10 => ?_) (fun c10 => ?_)
            · have hf := tp hf c10
              refine lv_iconst (v := (-1 : Int32)) hx hb dX1_dayNumber_89 (by decide) ?_
              have hf := Option.some.inj hf
              subst hf
              exact e_i (wf := (fun _ : Unit => ([] : va_W))) hx hb hr hlk () ⟨rfl, rfl⟩ hP hK hD hS dX1_dayNumber_90
            · have hf := tn hf c10
              refine lv_iload_n hx hb dX1_dayNumber_83 rfl (lv_at hl 5 rfl) ?_
              refine lv_iload hx hb dX1_dayNumber_84 (lv_at hl 0 rfl) ?_
              refine lv_icmp_le (tgt := 91) hx hb dX1_dayNumber_86 (by decide) (fun c11 => ?_) (fun c11 => ?_)
              · have hf := tp hf c11
                refine lv_sipush (v := (365 : Int32)) hx hb dX1_dayNumber_91 (by decide) ?_
                refine lv_iload_n hx hb dX1_dayNumber_94 rfl (lv_at hl 3 rfl) ?_
                refine lv_imul hx hb dX1_dayNumber_95 ?_
                refine lv_iload_n hx hb dX1_dayNumber_96 rfl (lv_at hl 3 rfl) ?_
                refine lv_iconst (v := (3 : Int32)) hx hb dX1_dayNumber_97 (by decide) ?_
                refine lv_iadd hx hb dX1_dayNumber_98 ?_
                refine lv_iconst (v := (4 : Int32)) hx hb dX1_dayNumber_99 (by decide) ?_
                refine lv_idiv hx hb dX1_dayNumber_100 (by decide) ?_
                refine lv_iadd hx hb dX1_dayNumber_101 ?_
                refine lv_iload hx hb dX1_dayNumber_102 (lv_at hl 1 rfl) ?_
                refine lv_iadd hx hb dX1_dayNumber_104 ?_
                refine lv_iload_n hx hb dX1_dayNumber_105 rfl (lv_at hl 5 rfl) ?_
                refine lv_iadd hx hb dX1_dayNumber_106 ?_
                refine lv_iconst (v := (1 : Int32)) hx hb dX1_dayNumber_107 (by decide) ?_
                refine lv_isub hx hb dX1_dayNumber_108 ?_
                have hf := Option.some.inj hf
                subst hf
                exact e_i (wf := (fun _ : Unit => ([] : va_W))) hx hb hr hlk () ⟨rfl, rfl⟩ hP hK hD hS dX1_dayNumber_109
              · have hf := tn hf c11
                refine lv_iconst (v := (-1 : Int32)) hx hb dX1_dayNumber_89 (by decide) ?_
                have hf := Option.some.inj hf
                subst hf
                exact e_i (wf := (fun _ : Unit => ([] : va_W))) hx hb hr hlk () ⟨rfl, rfl⟩ hP hK hD hS dX1_dayNumber_90
          · have hf := tp hf c5
            refine lv_iconst (v := (1 : Int32)) hx hb dX1_dayNumber_29 (by decide) ?_
            refine lv_goto (tgt := 34) hx hb dX1_dayNumber_30 (by decide) ?_
            refine lv_istore_n (lv' := [(3, .int (1 : Int32)), (0, .int x0), (1, .int x1), (2, .int x2)]) hx hb dX1_dayNumber_34 rfl hl (by decide) rfl (fun ls hl => ?_)
            refine va_gets hx hb (hE.1.2.2.2.2.1) hS hown (hg _ kq2_49) (fun _ h9 => h9) dX1_dayNumber_35 ?_
            refine lv_iload_n hx hb dX1_dayNumber_38 rfl (lv_at hl 2 rfl) ?_
            refine lv_iconst (v := (1 : Int32)) hx hb dX1_dayNumber_39 (by decide) ?_
            refine lv_isub hx hb dX1_dayNumber_40 ?_
            obtain ⟨b12, hf⟩ := tno hf
            refine va_ti hx hb hE.1.2.2.2.2.2.1 hS b12 (v := .int (aDy (x1 - (1 : Int32)).toNatClampNeg)) rfl dX1_dayNumber_41 ?_
            refine lv_istore (lv' := [(4, .int (aDy (x1 - (1 : Int32)).toNatClampNeg)), (3, .int (1 : Int32)), (0, .int x0), (1, .int x1), (2, .int x2)]) hx hb dX1_dayNumber_42 hl (by decide) rfl (fun ls hl => ?_)
            refine va_gets hx hb (hE.1.2.2.2.2.1) hS hown (hg _ kq2_49) (fun _ h9 => h9) dX1_dayNumber_44 ?_
            refine lv_iload_n hx hb dX1_dayNumber_47 rfl (lv_at hl 3 rfl) ?_
            obtain ⟨b13, hf⟩ := tno hf
            refine va_ti hx hb hE.1.2.2.2.2.2.1 hS b13 (v := .int (aDy x1.toNatClampNeg)) rfl dX1_dayNumber_48 ?_
            refine lv_iload hx hb dX1_dayNumber_49 (lv_at hl 0 rfl) ?_
            refine lv_isub hx hb dX1_dayNumber_51 ?_
            refine lv_istore (lv' := [(5, .int ((aDy x1.toNatClampNeg) - (aDy (x1 - (1 : Int32)).toNatClampNeg))), (4, .int (aDy (x1 - (1 : Int32)).toNatClampNeg)), (3, .int (1 : Int32)), (0, .int x0), (1, .int x1), (2, .int x2)]) hx hb dX1_dayNumber_52 hl (by decide) rfl (fun ls hl => ?_)
            refine lv_iload_n hx hb dX1_dayNumber_54 rfl (lv_at hl 2 rfl) ?_
            refine lv_if_eq (tgt := 66) hx hb dX1_dayNumber_55 (by decide) (fun c14 => ?_) (fun c14 => ?_)
            · exact absurd c14 (by decide)
            refine lv_iload_n hx hb dX1_dayNumber_58 rfl (lv_at hl 4 rfl) ?_
            refine lv_iconst (v := (2 : Int32)) hx hb dX1_dayNumber_59 (by decide) ?_
            refine lv_icmp_ne (tgt := 66) hx hb dX1_dayNumber_60 (by decide) (fun c15 => ?_) (fun c15 => ?_)
            · have hf := tn hf c15
              refine lv_iload_n hx hb dX1_dayNumber_66 rfl (lv_at hl 2 rfl) ?_
              refine lv_if_eq (tgt := 78) hx hb dX1_dayNumber_67 (by decide) (fun c16 => ?_) (fun c16 => ?_)
              · exact absurd c16 (by decide)
              refine lv_iload_n hx hb dX1_dayNumber_70 rfl (lv_at hl 4 rfl) ?_
              refine lv_iconst (v := (2 : Int32)) hx hb dX1_dayNumber_71 (by decide) ?_
              refine lv_icmp_le (tgt := 78) hx hb dX1_dayNumber_72 (by decide) (fun c17 => ?_) (fun c17 => ?_)
              · have hf := tp hf c17
                refine lv_iload_n hx hb dX1_dayNumber_78 rfl (lv_at hl 5 rfl) ?_
                refine lv_iconst (v := (1 : Int32)) hx hb dX1_dayNumber_79 (by decide) ?_
                refine lv_icmp_lt (tgt := 89) hx hb dX1_dayNumber_80 (by decide) (fun c18 => ?_) (fun c18 => ?_)
                · have hf := tp hf c18
                  refine lv_iconst (v := (-1 : Int32)) hx hb dX1_dayNumber_89 (by decide) ?_
                  have hf := Option.some.inj hf
                  subst hf
                  exact e_i (wf := (fun _ : Unit => ([] : va_W))) hx hb hr hlk () ⟨rfl, rfl⟩ hP hK hD hS dX1_dayNumber_90
                · have hf := tn hf c18
                  refine lv_iload_n hx hb dX1_dayNumber_83 rfl (lv_at hl 5 rfl) ?_
                  refine lv_iload hx hb dX1_dayNumber_84 (lv_at hl 0 rfl) ?_
                  refine lv_icmp_le (tgt := 91) hx hb dX1_dayNumber_86 (by decide) (fun c19 => ?_) (fun c19 => ?_)
                  · have hf := tp hf c19
                    refine lv_sipush (v := (365 : Int32)) hx hb dX1_dayNumber_91 (by decide) ?_
                    refine lv_iload_n hx hb dX1_dayNumber_94 rfl (lv_at hl 3 rfl) ?_
                    refine lv_imul hx hb dX1_dayNumber_95 ?_
                    refine lv_iload_n hx hb dX1_dayNumber_96 rfl (lv_at hl 3 rfl) ?_
                    refine lv_iconst (v := (3 : Int32)) hx hb dX1_dayNumber_97 (by decide) ?_
                    refine lv_iadd hx hb dX1_dayNumber_98 ?_
                    refine lv_iconst (v := (4 : Int32)) hx hb dX1_dayNumber_99 (by decide) ?_
                    refine lv_idiv hx hb dX1_dayNumber_100 (by decide) ?_
                    refine lv_iadd hx hb dX1_dayNumber_101 ?_
                    refine lv_iload hx hb dX1_dayNumber_102 (lv_at hl 1 rfl) ?_
                    refine lv_iadd hx hb dX1_dayNumber_104 ?_
                    refine lv_iload_n hx hb dX1_dayNumber_105 rfl (lv_at hl 5 rfl) ?_
                    refine lv_iadd hx hb dX1_dayNumber_106 ?_
                    refine lv_iconst (v := (1 : Int32)) hx hb dX1_dayNumber_107 (by decide) ?_
                    refine lv_isub hx hb dX1_dayNumber_108 ?_
                    have hf := Option.some.inj hf
                    subst hf
                    exact e_i (wf := (fun _ : Unit => ([] : va_W))) hx hb hr hlk () ⟨rfl, rfl⟩ hP hK hD hS dX1_dayNumber_109
                  · have hf := tn hf c19
                    refine lv_iconst (v := (-1 : Int32)) hx hb dX1_dayNumber_89 (by decide) ?_
                    have hf := Option.some.inj hf
                    subst hf
                    exact e_i (wf := (fun _ : Unit => ([] : va_W))) hx hb hr hlk () ⟨rfl, rfl⟩ hP hK hD hS dX1_dayNumber_90
              · have hf := tn hf c17
                refine lv_iinc (v := ((aDy (x1 - (1 : Int32)).toNatClampNeg) + (1 : Int32))) (lv' := [(4, .int ((aDy (x1 - (1 : Int32)).toNatClampNeg) + (1 : Int32))), (5, .int ((aDy x1.toNatClampNeg) - (aDy (x1 - (1 : Int32)).toNatClampNeg))), (3, .int (1 : Int32)), (0, .int x0), (1, .int x1), (2, .int x2)]) hx hb dX1_dayNumber_75 hl (k := 1) rfl rfl (by decide) rfl (fun ls hl => ?_)
                refine lv_iload_n hx hb dX1_dayNumber_78 rfl (lv_at hl 5 rfl) ?_
                refine lv_iconst (v := (1 : Int32)) hx hb dX1_dayNumber_79 (by decide) ?_
                refine lv_icmp_lt (tgt := 89) hx hb dX1_dayNumber_80 (by decide) (fun c20 => ?_) (fun c20 => ?_)
                · have hf := tp hf c20
                  refine lv_iconst (v := (-1 : Int32)) hx hb dX1_dayNumber_89 (by decide) ?_
                  have hf := Option.some.inj hf
                  subst hf
                  exact e_i (wf := (fun _ : Unit => ([] : va_W))) hx hb hr hlk () ⟨rfl, rfl⟩ hP hK hD hS dX1_dayNumber_90
                · have hf := tn hf c20
                  refine lv_iload_n hx hb dX1_dayNumber_83 rfl (lv_at hl 5 rfl) ?_
                  refine lv_iload hx hb dX1_dayNumber_84 (lv_at hl 1 rfl) ?_
                  refine lv_icmp_le (tgt := 91) hx hb dX1_dayNumber_86 (by decide) (fun c21 => ?_) (fun c21 => ?_)
                  · have hf := tp hf c21
                    refine lv_sipush (v := (365 : Int32)) hx hb dX1_dayNumber_91 (by decide) ?_
                    refine lv_iload_n hx hb dX1_dayNumber_94 rfl (lv_at hl 3 rfl) ?_
                    refine lv_imul hx hb dX1_dayNumber_95 ?_
                    refine lv_iload_n hx hb dX1_dayNumber_96 rfl (lv_at hl 3 rfl) ?_
                    refine lv_iconst (v := (3 : Int32)) hx hb dX1_dayNumber_97 (by decide) ?_
                    refine lv_iadd hx hb dX1_dayNumber_98 ?_
                    refine lv_iconst (v := (4 : Int32)) hx hb dX1_dayNumber_99 (by decide) ?_
                    refine lv_idiv hx hb dX1_dayNumber_100 (by decide) ?_
                    refine lv_iadd hx hb dX1_dayNumber_101 ?_
                    refine lv_iload hx hb dX1_dayNumber_102 (lv_at hl 0 rfl) ?_
                    refine lv_iadd hx hb dX1_dayNumber_104 ?_
                    refine lv_iload_n hx hb dX1_dayNumber_105 rfl (lv_at hl 5 rfl) ?_
                    refine lv_iadd hx hb dX1_dayNumber_106 ?_
                    refine lv_iconst (v := (1 : Int32)) hx hb dX1_dayNumber_107 (by decide) ?_
                    refine lv_isub hx hb dX1_dayNumber_108 ?_
                    have hf := Option.some.inj hf
                    subst hf
                    exact e_i (wf := (fun _ : Unit => ([] : va_W))) hx hb hr hlk () ⟨rfl, rfl⟩ hP hK hD hS dX1_dayNumber_109
                  · have hf := tn hf c21
                    refine lv_iconst (v := (-1 : Int32)) hx hb dX1_dayNumber_89 (by decide) ?_
                    have hf := Option.some.inj hf
                    subst hf
                    exact e_i (wf := (fun _ : Unit => ([] : va_W))) hx hb hr hlk () ⟨rfl, rfl⟩ hP hK hD hS dX1_dayNumber_90
            · have hf := tp hf c15
              refine lv_iinc (v := (((aDy x1.toNatClampNeg) - (aDy (x1 - (1 : Int32)).toNatClampNeg)) + (1 : Int32))) (lv' := [(5, .int (((aDy x1.toNatClampNeg) - (aDy (x1 - (1 : Int32)).toNatClampNeg)) + (1 : Int32))), (4, .int (aDy (x1 - (1 : Int32)).toNatClampNeg)), (3, .int (1 : Int32)), (0, .int x0), (1, .int x1), (2, .int x2)]) hx hb dX1_dayNumber_63 hl (k := 0) rfl rfl (by decide) rfl (fun ls hl => ?_)
              refine lv_iload_n hx hb dX1_dayNumber_66 rfl (lv_at hl 2 rfl) ?_
              refine lv_if_eq (tgt := 78) hx hb dX1_dayNumber_67 (by decide) (fun c22 => ?_) (fun c22 => ?_)
              · exact absurd c22 (by decide)
              refine lv_iload_n hx hb dX1_dayNumber_70 rfl (lv_at hl 4 rfl) ?_
              refine lv_iconst (v := (2 : Int32)) hx hb dX1_dayNumber_71 (by decide) ?_
              refine lv_icmp_le (tgt := 78) hx hb dX1_dayNumber_72 (by decide) (fun c23 => ?_) (fun c23 => ?_)
              · have hf := tp hf c23
                refine lv_iload_n hx hb dX1_dayNumber_78 rfl (lv_at hl 5 rfl) ?_
                refine lv_iconst (v := (1 : Int32)) hx hb dX1_dayNumber_79 (by decide) ?_
                refine lv_icmp_lt (tgt := 89) hx hb dX1_dayNumber_80 (by decide) (fun c24 => ?_) (fun c24 => ?_)
                · have hf := tp hf c24
                  refine lv_iconst (v := (-1 : Int32)) hx hb dX1_dayNumber_89 (by decide) ?_
                  have hf := Option.some.inj hf
                  subst hf
                  exact e_i (wf := (fun _ : Unit => ([] : va_W))) hx hb hr hlk () ⟨rfl, rfl⟩ hP hK hD hS dX1_dayNumber_90
                · have hf := tn hf c24
                  refine lv_iload_n hx hb dX1_dayNumber_83 rfl (lv_at hl 5 rfl) ?_
                  refine lv_iload hx hb dX1_dayNumber_84 (lv_at hl 0 rfl) ?_
                  refine lv_icmp_le (tgt := 91) hx hb dX1_dayNumber_86 (by decide) (fun c25 => ?_) (fun c25 => ?_)
                  · have hf := tp hf c25
                    refine lv_sipush (v := (365 : Int32)) hx hb dX1_dayNumber_91 (by decide) ?_
                    refine lv_iload_n hx hb dX1_dayNumber_94 rfl (lv_at hl 3 rfl) ?_
                    refine lv_imul hx hb dX1_dayNumber_95 ?_
                    refine lv_iload_n hx hb dX1_dayNumber_96 rfl (lv_at hl 3 rfl) ?_
                    refine lv_iconst (v := (3 : Int32)) hx hb dX1_dayNumber_97 (by decide) ?_
                    refine lv_iadd hx hb dX1_dayNumber_98 ?_
                    refine lv_iconst (v := (4 : Int32)) hx hb dX1_dayNumber_99 (by decide) ?_
                    refine lv_idiv hx hb dX1_dayNumber_100 (by decide) ?_
                    refine lv_iadd hx hb dX1_dayNumber_101 ?_
                    refine lv_iload hx hb dX1_dayNumber_102 (lv_at hl 1 rfl) ?_
                    refine lv_iadd hx hb dX1_dayNumber_104 ?_
                    refine lv_iload_n hx hb dX1_dayNumber_105 rfl (lv_at hl 5 rfl) ?_
                    refine lv_iadd hx hb dX1_dayNumber_106 ?_
                    refine lv_iconst (v := (1 : Int32)) hx hb dX1_dayNumber_107 (by decide) ?_
                    refine lv_isub hx hb dX1_dayNumber_108 ?_
                    have hf := Option.some.inj hf
                    subst hf
                    exact e_i (wf := (fun _ : Unit => ([] : va_W))) hx hb hr hlk () ⟨rfl, rfl⟩ hP hK hD hS dX1_dayNumber_109
                  · have hf := tn hf c25
                    refine lv_iconst (v := (-1 : Int32)) hx hb dX1_dayNumber_89 (by decide) ?_
                    have hf := Option.some.inj hf
                    subst hf
                    exact e_i (wf := (fun _ : Unit => ([] : va_W))) hx hb hr hlk () ⟨rfl, rfl⟩ hP hK hD hS dX1_dayNumber_90
              · have hf := tn hf c23
                refine lv_iinc (v := ((aDy (x1 - (1 : Int32)).toNatClampNeg) + (1 : Int32))) (lv' := [(4, .int ((aDy (x1 - (1 : Int32)).toNatClampNeg) + (1 : Int32))), (5, .int (((aDy x1.toNatClampNeg) - (aDy (x1 - (1 : Int32)).toNatClampNeg)) + (1 : Int32))), (3, .int (1 : Int32)), (0, .int x0), (1, .int x1), (2, .int x2)]) hx hb dX1_dayNumber_75 hl (k := 1) rfl rfl (by decide) rfl (fun ls hl => ?_)
                refine lv_iload_n hx hb dX1_dayNumber_78 rfl (lv_at hl 5 rfl) ?_
                refine lv_iconst (v := (1 : Int32)) hx hb dX1_dayNumber_79 (by decide) ?_
                refine lv_icmp_lt (tgt := 89) hx hb dX1_dayNumber_80 (by decide) (fun c26 => ?_) (fun c26 => ?_)
                · have hf := tp hf c26
                  refine lv_iconst (v := (-1 : Int32)) hx hb dX1_dayNumber_89 (by decide) ?_
                  have hf := Option.some.inj hf
                  subst hf
                  exact e_i (wf := (fun _ : Unit => ([] : va_W))) hx hb hr hlk () ⟨rfl, rfl⟩ hP hK hD hS dX1_dayNumber_90
                · have hf := tn hf c26
                  refine lv_iload_n hx hb dX1_dayNumber_83 rfl (lv_at hl 5 rfl) ?_
                  refine lv_iload hx hb dX1_dayNumber_84 (lv_at hl 1 rfl) ?_
                  refine lv_icmp_le (tgt := 91) hx hb dX1_dayNumber_86 (by decide) (fun c27 => ?_) (fun c27 => ?_)
                  · have hf := tp hf c27
                    refine lv_sipush (v := (365 : Int32)) hx hb dX1_dayNumber_91 (by decide) ?_
                    refine lv_iload_n hx hb dX1_dayNumber_94 rfl (lv_at hl 3 rfl) ?_
                    refine lv_imul hx hb dX1_dayNumber_95 ?_
                    refine lv_iload_n hx hb dX1_dayNumber_96 rfl (lv_at hl 3 rfl) ?_
                    refine lv_iconst (v := (3 : Int32)) hx hb dX1_dayNumber_97 (by decide) ?_
                    refine lv_iadd hx hb dX1_dayNumber_98 ?_
                    refine lv_iconst (v := (4 : Int32)) hx hb dX1_dayNumber_99 (by decide) ?_
                    refine lv_idiv hx hb dX1_dayNumber_100 (by decide) ?_
                    refine lv_iadd hx hb dX1_dayNumber_101 ?_
                    refine lv_iload hx hb dX1_dayNumber_102 (lv_at hl 0 rfl) ?_
                    refine lv_iadd hx hb dX1_dayNumber_104 ?_
                    refine lv_iload_n hx hb dX1_dayNumber_105 rfl (lv_at hl 5 rfl) ?_
                    refine lv_iadd hx hb dX1_dayNumber_106 ?_
                    refine lv_iconst (v := (1 : Int32)) hx hb dX1_dayNumber_107 (by decide) ?_
                    refine lv_isub hx hb dX1_dayNumber_108 ?_
                    have hf := Option.some.inj hf
                    subst hf
                    exact e_i (wf := (fun _ : Unit => ([] : va_W))) hx hb hr hlk () ⟨rfl, rfl⟩ hP hK hD hS dX1_dayNumber_109
                  · have hf := tn hf c27
                    refine lv_iconst (v := (-1 : Int32)) hx hb dX1_dayNumber_89 (by decide) ?_
                    have hf := Option.some.inj hf
                    subst hf
                    exact e_i (wf := (fun _ : Unit => ([] : va_W))) hx hb hr hlk () ⟨rfl, rfl⟩ hP hK hD hS dX1_dayNumber_90
        · have hf := tn hf c4
          refine lv_iconst (v := (-1 : Int32)) hx hb dX1_dayNumber_21 (by decide) ?_
          have hf := Option.some.inj hf
          subst hf
          exact e_i (wf := (fun _ : Unit => ([] : va_W))) hx hb hr hlk () ⟨rfl, rfl⟩ hP hK hD hS dX1_dayNumber_22
set_option maxRecDepth 100000 in
set_option maxHeartbeats 4000000 in
theorem c_X1_yearOf {l : Launch} {G : Gp} {sz N : Nat} {x0 : Int32} {q : Int32} (hf : f_X1_yearOf N x0 = some q) : Met l yX1_yearOf (Cond.code yX1_yearOf cX1_yearOf 3 (some .int) :: lw_g) ({ frames := 0, cells := 0, slots := 0, locals := 0 } : Room) (va_Pc [.int x0] (pw G [] sz)) (va_Qi (fun (r : Int32) (v : Unit) => q = r ∧ () = v) (bw G (fun _ : Unit => ([] : va_W)) (va_A [] sz)) (va_A [] sz)) 0 0 (va_A [] sz) := by
  refine mt (Qc := (fun A => va_Qi (fun (r : Int32) (v : Unit) => q = r ∧ () = v) (bw G (fun _ : Unit => ([] : va_W)) A) A)) (by decide) (Nat.le_of_ble_eq_true rfl) ?_
  intro p e s m below meth c A ls hx hb hr hlk hml hts hown hA hP hK hD hE hS hl
  have hown : s.vm.findClass RX1 = some m.cls := hown
  have hg : ∀ w ∈ lw_g, w.before ([.int x0] : List Value).toArray s = true := fun w h => hts w (List.mem_cons_of_mem _ h)
  have hC : CallFix p m c cX1_yearOf 3 s ([.int x0] : List Value).toArray (Cond.code yX1_yearOf cX1_yearOf 3 (some .int) :: lw_g) RX1 := ⟨hx, hb, hml, hown, hts⟩
  have hl : lv_has ls 3 [(0, .int x0)] := hl
  rw [f_X1_yearOf] at hf
  refine lv_iload_n hx hb dX1_yearOf_0 rfl (lv_at hl 0 rfl) ?_
  refine lv_sipush (v := (1461 : Int32)) hx hb dX1_yearOf_1 (by decide) ?_
  refine lv_irem hx hb dX1_yearOf_4 (by decide) ?_
  refine lv_istore_n (lv' := [(1, .int (x0 - x0 / (1461 : Int32) * (1461 : Int32))), (0, .int x0)]) hx hb dX1_yearOf_5 rfl hl (by decide) rfl (fun ls hl => ?_)
  refine lv_iload_n hx hb dX1_yearOf_6 rfl (lv_at hl 1 rfl) ?_
  refine lv_sipush (v := (1461 : Int32)) hx hb dX1_yearOf_7 (by decide) ?_
  refine lv_idiv hx hb dX1_yearOf_10 (by decide) ?_
  refine lv_iconst (v := (4 : Int32)) hx hb dX1_yearOf_11 (by decide) ?_
  refine lv_imul hx hb dX1_yearOf_12 ?_
  refine lv_istore_n (lv' := [(2, .int ((x0 / (1461 : Int32)) * (4 : Int32))), (1, .int (x0 - x0 / (1461 : Int32) * (1461 : Int32))), (0, .int x0)]) hx hb dX1_yearOf_13 rfl hl (by decide) rfl (fun ls hl => ?_)
  refine lv_iload_n hx hb dX1_yearOf_14 rfl (lv_at hl 1 rfl) ?_
  refine lv_sipush (v := (366 : Int32)) hx hb dX1_yearOf_15 (by decide) ?_
  refine lv_icmp_ge (tgt := 25) hx hb dX1_yearOf_18 (by decide) (fun c1 => ?_) (fun c1 => ?_)
  · have hf := tp hf c1
    refine lv_iload_n hx hb dX1_yearOf_25 rfl (lv_at hl 0 rfl) ?_
    refine lv_iconst (v := (1 : Int32)) hx hb dX1_yearOf_26 (by decide) ?_
    refine lv_iadd hx hb dX1_yearOf_27 ?_
    refine lv_iload_n hx hb dX1_yearOf_28 rfl (lv_at hl 1 rfl) ?_
    refine lv_sipush (v := (366 : Int32)) hx hb dX1_yearOf_29 (by decide) ?_
    refine lv_isub hx hb dX1_yearOf_32 ?_
    refine lv_sipush (v := (365 : Int32)) hx hb dX1_yearOf_33 (by decide) ?_
    refine lv_idiv hx hb dX1_yearOf_36 (by decide) ?_
    refine lv_iadd hx hb dX1_yearOf_37 ?_
    have hf := Option.some.inj hf
    subst hf
    exact e_i (wf := (fun _ : Unit => ([] : va_W))) hx hb hr hlk () ⟨rfl, rfl⟩ hP hK hD hS dX1_yearOf_38
  · have hf := tn hf c1
    refine lv_iload_n hx hb dX1_yearOf_21 rfl (lv_at hl 0 rfl) ?_
    refine lv_goto (tgt := 38) hx hb dX1_yearOf_22 (by decide) ?_
    have hf := Option.some.inj hf
    subst hf
    exact e_i (wf := (fun _ : Unit => ([] : va_W))) hx hb hr hlk () ⟨rfl, rfl⟩ hP hK hD hS dX1_yearOf_38
set_option maxRecDepth 100000 in
set_option maxHeartbeats 4000000 in
theorem c_X1_monthOf {l : Launch} {G : Gp} {sz N : Nat} {x0 : Int32} {q : Int32} (hf : f_X1_monthOf N x0 = some q) : Met l yX1_monthOf (Cond.code yX1_monthOf cX1_monthOf 3 (some .int) :: lw_g) ({ frames := 1, cells := 0, slots := 0, locals := 25 } : Room) (va_Pc [.int x0] (pw G [] sz)) (va_Qi (fun (r : Int32) (v : Unit) => q = r ∧ () = v) (bw G (fun _ : Unit => ([] : va_W)) (va_A [] sz)) (va_A [] sz)) 0 0 (va_A [] sz) := by
  refine mt (Qc := (fun A => va_Qi (fun (r : Int32) (v : Unit) => q = r ∧ () = v) (bw G (fun _ : Unit => ([] : va_W)) A) A)) (by decide) (Nat.le_of_ble_eq_true rfl) ?_
  intro p e s m below meth c A ls hx hb hr hlk hml hts hown hA hP hK hD hE hS hl
  have hown : s.vm.findClass RX1 = some m.cls := hown
  have hg : ∀ w ∈ lw_g, w.before ([.int x0] : List Value).toArray s = true := fun w h => hts w (List.mem_cons_of_mem _ h)
  have hC : CallFix p m c cX1_monthOf 3 s ([.int x0] : List Value).toArray (Cond.code yX1_monthOf cX1_monthOf 3 (some .int) :: lw_g) RX1 := ⟨hx, hb, hml, hown, hts⟩
  have hl : lv_has ls 3 [(0, .int x0)] := hl
  have lp_7 : ∀ (n : Nat) (x1 : Int32) (x2 : Int32), l_X1_monthOf_7 N x0 n x1 x2 = some q → ∀ (H : Heap) (locs : List Loc) (ls : Array Slot), va_P (gD G) vwCl [] H → va_D A [] → va_S A s.heap H locs → lv_has ls 3 [(0, .int x0), (1, .int x1), (2, .int x2)] → W p l e ({ frames := 1, cells := 0, slots := 0, locals := 25 } : Room) s m ([.int x0] : List Value).toArray below meth c H locs 0 0 (MQ below (va_Qi (fun (r : Int32) (v : Unit) => q = r ∧ () = v) (bw G (fun _ : Unit => ([] : va_W)) A) A) ([.int x0] : List Value).toArray s 0 0 A) (F0 m 7 ls []) := by
    intro n
    induction n with
    | zero => intro x1 x2 hf; rw [l_X1_monthOf_7] at hf; cases hf
    | succ n ih =>
      intro x1 x2 hf H locs ls hP hD hS hl
      rw [l_X1_monthOf_7] at hf
      refine lv_iload_n hx hb dX1_monthOf_7 rfl (lv_at hl 2 rfl) ?_
      refine lv_bipush (v := (12 : Int32)) hx hb dX1_monthOf_8 (by decide) ?_
      refine lv_icmp_ge (tgt := 31) hx hb dX1_monthOf_10 (by decide) (fun c3 => ?_) (fun c3 => ?_)
      · have hf := tp hf c3
        refine lv_iload_n hx hb dX1_monthOf_31 rfl (lv_at hl 2 rfl) ?_
        have hf := Option.some.inj hf
        subst hf
        exact e_i (wf := (fun _ : Unit => ([] : va_W))) hx hb hr hlk () ⟨rfl, rfl⟩ hP hK hD hS dX1_monthOf_32
      · have hf := tn hf c3
        refine lv_iload_n hx hb dX1_monthOf_13 rfl (lv_at hl 1 rfl) ?_
        refine lv_iload_n hx hb dX1_monthOf_14 rfl (lv_at hl 2 rfl) ?_
        refine lv_iconst (v := (1 : Int32)) hx hb dX1_monthOf_15 (by decide) ?_
        refine lv_iadd hx hb dX1_monthOf_16 ?_
        refine lv_iconst (v := (1 : Int32)) hx hb dX1_monthOf_17 (by decide) ?_
        obtain ⟨q4, e5, hf⟩ := tbd hf
        refine kSi0 (As := [.int x1, .int (x2 + (1 : Int32)), .int (1 : Int32)]) (rest := []) hC (c_X1_dayNumber (G := G) e5) kq3_177 kc_X1_dayNumber (by decide) hP hK hD hE hS hA hl.1 (Nat.le_of_ble_eq_true rfl) ⟨Nat.zero_le _, Nat.zero_le _⟩ dX1_monthOf_18 (fun r9 u9 H locs hw hP hD hS => ?_)
        obtain ⟨rfl, rfl⟩ := hw
        refine lv_iload_n hx hb dX1_monthOf_21 rfl (lv_at hl 0 rfl) ?_
        refine lv_icmp_gt (tgt := 31) hx hb dX1_monthOf_22 (by decide) (fun c6 => ?_) (fun c6 => ?_)
        · have hf := tp hf c6
          refine lv_iload_n hx hb dX1_monthOf_31 rfl (lv_at hl 2 rfl) ?_
          have hf := Option.some.inj hf
          subst hf
          exact e_i (wf := (fun _ : Unit => ([] : va_W))) hx hb hr hlk () ⟨rfl, rfl⟩ hP hK hD hS dX1_monthOf_32
        · have hf := tn hf c6
          refine lv_iinc (v := (x2 + (1 : Int32))) (lv' := [(2, .int (x2 + (1 : Int32))), (0, .int x0), (1, .int x1)]) hx hb dX1_monthOf_25 hl (k := 2) rfl rfl (by decide) rfl (fun ls hl => ?_)
          refine lv_goto (tgt := 7) hx hb dX1_monthOf_28 (by decide) ?_
          exact ih _ _ hf _ _ _ hP hD hS (lv_sub hl [1, 2, 0] rfl)
  rw [f_X1_monthOf] at hf
  refine lv_iload_n hx hb dX1_monthOf_0 rfl (lv_at hl 0 rfl) ?_
  obtain ⟨q1, e2, hf⟩ := tbd hf
  refine kSi0 (As := [.int x0]) (rest := []) hC (c_X1_yearOf (G := G) e2) kq3_171 kc_X1_yearOf (by decide) hP hK hD hE hS hA hl.1 (Nat.le_of_ble_eq_true rfl) ⟨Nat.zero_le _, Nat.zero_le _⟩ dX1_monthOf_1 (fun r9 u9 H locs hw hP hD hS => ?_)
  obtain ⟨rfl, rfl⟩ := hw
  refine lv_istore_n (lv' := [(1, .int q1), (0, .int x0)]) hx hb dX1_monthOf_4 rfl hl (by decide) rfl (fun ls hl => ?_)
  refine lv_iconst (v := (1 : Int32)) hx hb dX1_monthOf_5 (by decide) ?_
  refine lv_istore_n (lv' := [(2, .int (1 : Int32)), (1, .int q1), (0, .int x0)]) hx hb dX1_monthOf_6 rfl hl (by decide) rfl (fun ls hl => ?_)
  exact lp_7 N _ _ hf _ _ _ hP hD hS (lv_sub hl [2, 1, 0] rfl)
set_option maxRecDepth 100000 in
set_option maxHeartbeats 4000000 in
theorem c_X1_dayOfMonth {l : Launch} {G : Gp} {sz N : Nat} {x0 : Int32} {q : Int32} (hf : f_X1_dayOfMonth N x0 = some q) : Met l yX1_dayOfMonth (Cond.code yX1_dayOfMonth cX1_dayOfMonth 1 (some .int) :: lw_g) ({ frames := 2, cells := 0, slots := 0, locals := 47 } : Room) (va_Pc [.int x0] (pw G [] sz)) (va_Qi (fun (r : Int32) (v : Unit) => q = r ∧ () = v) (bw G (fun _ : Unit => ([] : va_W)) (va_A [] sz)) (va_A [] sz)) 0 0 (va_A [] sz) := by
  refine mt (Qc := (fun A => va_Qi (fun (r : Int32) (v : Unit) => q = r ∧ () = v) (bw G (fun _ : Unit => ([] : va_W)) A) A)) (by decide) (Nat.le_of_ble_eq_true rfl) ?_
  intro p e s m below meth c A ls hx hb hr hlk hml hts hown hA hP hK hD hE hS hl
  have hown : s.vm.findClass RX1 = some m.cls := hown
  have hg : ∀ w ∈ lw_g, w.before ([.int x0] : List Value).toArray s = true := fun w h => hts w (List.mem_cons_of_mem _ h)
  have hC : CallFix p m c cX1_dayOfMonth 1 s ([.int x0] : List Value).toArray (Cond.code yX1_dayOfMonth cX1_dayOfMonth 1 (some .int) :: lw_g) RX1 := ⟨hx, hb, hml, hown, hts⟩
  have hl : lv_has ls 1 [(0, .int x0)] := hl
  rw [f_X1_dayOfMonth] at hf
  refine lv_iload_n hx hb dX1_dayOfMonth_0 rfl (lv_at hl 0 rfl) ?_
  refine lv_iload_n hx hb dX1_dayOfMonth_1 rfl (lv_at hl 0 rfl) ?_
  obtain ⟨q1, e2, hf⟩ := tbd hf
  refine kSi0 (As := [.int x0]) (rest := [.int x0]) hC (c_X1_yearOf (G := G) e2) kq3_171 kc_X1_yearOf (by decide) hP hK hD hE hS hA hl.1 (Nat.le_of_ble_eq_true rfl) ⟨Nat.zero_le _, Nat.zero_le _⟩ dX1_dayOfMonth_2 (fun r9 u9 H locs hw hP hD hS => ?_)
  obtain ⟨rfl, rfl⟩ := hw
  refine lv_iload_n hx hb dX1_dayOfMonth_5 rfl (lv_at hl 0 rfl) ?_
  obtain ⟨q3, e4, hf⟩ := tbd hf
  refine kSi0 (As := [.int x0]) (rest := [.int q1, .int x0]) hC (c_X1_monthOf (G := G) e4) kq3_174 kc_X1_monthOf (by decide) hP hK hD hE hS hA hl.1 (Nat.le_of_ble_eq_true rfl) ⟨Nat.zero_le _, Nat.zero_le _⟩ dX1_dayOfMonth_6 (fun r9 u9 H locs hw hP hD hS => ?_)
  obtain ⟨rfl, rfl⟩ := hw
  refine lv_iconst (v := (1 : Int32)) hx hb dX1_dayOfMonth_9 (by decide) ?_
  obtain ⟨q5, e6, hf⟩ := tbd hf
  refine kSi0 (As := [.int q1, .int q3, .int (1 : Int32)]) (rest := [.int x0]) hC (c_X1_dayNumber (G := G) e6) kq3_177 kc_X1_dayNumber (by decide) hP hK hD hE hS hA hl.1 (Nat.le_of_ble_eq_true rfl) ⟨Nat.zero_le _, Nat.zero_le _⟩ dX1_dayOfMonth_10 (fun r9 u9 H locs hw hP hD hS => ?_)
  obtain ⟨rfl, rfl⟩ := hw
  refine lv_isub hx hb dX1_dayOfMonth_13 ?_
  refine lv_iconst (v := (1 : Int32)) hx hb dX1_dayOfMonth_14 (by decide) ?_
  refine lv_iadd hx hb dX1_dayOfMonth_15 ?_
  have hf := Option.some.inj hf
  subst hf
  exact e_i (wf := (fun _ : Unit => ([] : va_W))) hx hb hr hlk () ⟨rfl, rfl⟩ hP hK hD hS dX1_dayOfMonth_16
set_option maxRecDepth 100000 in
set_option maxHeartbeats 4000000 in
theorem c_X1_weekdayOf {l : Launch} {G : Gp} {sz N : Nat} {x0 : Int32} {q : Int32} (hf : f_X1_weekdayOf N x0 = some q) : Met l yX1_weekdayOf (Cond.code yX1_weekdayOf cX1_weekdayOf 1 (some .int) :: lw_g) ({ frames := 0, cells := 0, slots := 0, locals := 0 } : Room) (va_Pc [.int x0] (pw G [] sz)) (va_Qi (fun (r : Int32) (v : Unit) => q = r ∧ () = v) (bw G (fun _ : Unit => ([] : va_W)) (va_A [] sz)) (va_A [] sz)) 0 0 (va_A [] sz) := by
  refine mt (Qc := (fun A => va_Qi (fun (r : Int32) (v : Unit) => q = r ∧ () = v) (bw G (fun _ : Unit => ([] : va_W)) A) A)) (by decide) (Nat.le_of_ble_eq_true rfl) ?_
  intro p e s m below meth c A ls hx hb hr hlk hml hts hown hA hP hK hD hE hS hl
  have hown : s.vm.findClass RX1 = some m.cls := hown
  have hg : ∀ w ∈ lw_g, w.before ([.int x0] : List Value).toArray s = true := fun w h => hts w (List.mem_cons_of_mem _ h)
  have hC : CallFix p m c cX1_weekdayOf 1 s ([.int x0] : List Value).toArray (Cond.code yX1_weekdayOf cX1_weekdayOf 1 (some .int) :: lw_g) RX1 := ⟨hx, hb, hml, hown, hts⟩
  have hl : lv_has ls 1 [(0, .int x0)] := hl
  rw [f_X1_weekdayOf] at hf
  refine lv_iload_n hx hb dX1_weekdayOf_0 rfl (lv_at hl 0 rfl) ?_
  refine lv_iconst (v := (5 : Int32)) hx hb dX1_weekdayOf_1 (by decide) ?_
  refine lv_iadd hx hb dX1_weekdayOf_2 ?_
  refine lv_bipush (v := (7 : Int32)) hx hb dX1_weekdayOf_3 (by decide) ?_
  refine lv_irem hx hb dX1_weekdayOf_5 (by decide) ?_
  refine lv_iconst (v := (1 : Int32)) hx hb dX1_weekdayOf_6 (by decide) ?_
  refine lv_iadd hx hb dX1_weekdayOf_7 ?_
  have hf := Option.some.inj hf
  subst hf
  exact e_i (wf := (fun _ : Unit => ([] : va_W))) hx hb hr hlk () ⟨rfl, rfl⟩ hP hK hD hS dX1_weekdayOf_8
set_option maxRecDepth 100000 in
set_option maxHeartbeats 4000000 in
theorem c_X2_twoDigits {l : Launch} {G : Gp} {sz N : Nat} {x0 : Int32} {q : Int64} (hf : f_X2_twoDigits N x0 = some q) : Met l yX2_twoDigits (Cond.code yX2_twoDigits cX2_twoDigits 1 (some .long) :: lw_g) ({ frames := 0, cells := 0, slots := 0, locals := 0 } : Room) (va_Pc [.int x0] (pw G [] sz)) (va_Ql (fun (r : Int64) (v : Unit) => q = r ∧ () = v) (bw G (fun _ : Unit => ([] : va_W)) (va_A [] sz)) (va_A [] sz)) 0 0 (va_A [] sz) := by
  refine mt (Qc := (fun A => va_Ql (fun (r : Int64) (v : Unit) => q = r ∧ () = v) (bw G (fun _ : Unit => ([] : va_W)) A) A)) (by decide) (Nat.le_of_ble_eq_true rfl) ?_
  intro p e s m below meth c A ls hx hb hr hlk hml hts hown hA hP hK hD hE hS hl
  have hown : s.vm.findClass RX2 = some m.cls := hown
  have hg : ∀ w ∈ lw_g, w.before ([.int x0] : List Value).toArray s = true := fun w h => hts w (List.mem_cons_of_mem _ h)
  have hC : CallFix p m c cX2_twoDigits 1 s ([.int x0] : List Value).toArray (Cond.code yX2_twoDigits cX2_twoDigits 1 (some .long) :: lw_g) RX2 := ⟨hx, hb, hml, hown, hts⟩
  have hl : lv_has ls 1 [(0, .int x0)] := hl
  rw [f_X2_twoDigits] at hf
  refine lv_iload_n hx hb dX2_twoDigits_0 rfl (lv_at hl 0 rfl) ?_
  refine lv_bipush (v := (10 : Int32)) hx hb dX2_twoDigits_1 (by decide) ?_
  refine lv_idiv hx hb dX2_twoDigits_3 (by decide) ?_
  refine lv_i2l (v := (x0 / (10 : Int32)).toInt64) hx hb dX2_twoDigits_4 rfl ?_
  refine lv_iconst (v := (4 : Int32)) hx hb dX2_twoDigits_5 (by decide) ?_
  refine lv_lshl (v := (jshl (x0 / (10 : Int32)).toInt64 (4 : Int32))) hx hb dX2_twoDigits_6 rfl ?_
  refine lv_iload_n hx hb dX2_twoDigits_7 rfl (lv_at hl 0 rfl) ?_
  refine lv_bipush (v := (10 : Int32)) hx hb dX2_twoDigits_8 (by decide) ?_
  refine lv_irem hx hb dX2_twoDigits_10 (by decide) ?_
  refine lv_i2l (v := (x0 - x0 / (10 : Int32) * (10 : Int32)).toInt64) hx hb dX2_twoDigits_11 rfl ?_
  refine lv_lor hx hb dX2_twoDigits_12 ?_
  have hf := Option.some.inj hf
  subst hf
  exact e_l (wf := (fun _ : Unit => ([] : va_W))) hx hb hr hlk () ⟨rfl, rfl⟩ hP hK hD hS dX2_twoDigits_13
set_option maxRecDepth 100000 in
set_option maxHeartbeats 4000000 in
theorem c_X2_maskOf {l : Launch} {G : Gp} {sz N : Nat} {x0 : Int32} {q : Int64} (hf : f_X2_maskOf N x0 = some q) : Met l yX2_maskOf (Cond.code yX2_maskOf cX2_maskOf 1 (some .long) :: lw_g) ({ frames := 0, cells := 0, slots := 0, locals := 0 } : Room) (va_Pc [.int x0] (pw G [] sz)) (va_Ql (fun (r : Int64) (v : Unit) => q = r ∧ () = v) (bw G (fun _ : Unit => ([] : va_W)) (va_A [] sz)) (va_A [] sz)) 0 0 (va_A [] sz) := by
  refine mt (Qc := (fun A => va_Ql (fun (r : Int64) (v : Unit) => q = r ∧ () = v) (bw G (fun _ : Unit => ([] : va_W)) A) A)) (by decide) (Nat.le_of_ble_eq_true rfl) ?_
  intro p e s m below meth c A ls hx hb hr hlk hml hts hown hA hP hK hD hE hS hl
  have hown : s.vm.findClass RX2 = some m.cls := hown
  have hg : ∀ w ∈ lw_g, w.before ([.int x0] : List Value).toArray s = true := fun w h => hts w (List.mem_cons_of_mem _ h)
  have hC : CallFix p m c cX2_maskOf 1 s ([.int x0] : List Value).toArray (Cond.code yX2_maskOf cX2_maskOf 1 (some .long) :: lw_g) RX2 := ⟨hx, hb, hml, hown, hts⟩
  have hl : lv_has ls 1 [(0, .int x0)] := hl
  rw [f_X2_maskOf] at hf
  refine lv_lconst (v := (1 : Int64)) hx hb dX2_maskOf_0 (by decide) ?_
  refine va_gets hx hb (hE.1.1) hS hown (hg _ kq2_26) (fun _ h9 => h9) dX2_maskOf_1 ?_
  refine lv_iload_n hx hb dX2_maskOf_4 rfl (lv_at hl 0 rfl) ?_
  obtain ⟨b1, hf⟩ := tno hf
  refine va_ti hx hb hE.1.2.1 hS b1 (v := .int (aEn x0.toNatClampNeg)) rfl dX2_maskOf_5 ?_
  refine lv_iconst (v := (1 : Int32)) hx hb dX2_maskOf_6 (by decide) ?_
  refine lv_iadd hx hb dX2_maskOf_7 ?_
  refine lv_lshl (v := (jshl (1 : Int64) ((aEn x0.toNatClampNeg) + (1 : Int32)))) hx hb dX2_maskOf_8 rfl ?_
  refine lv_lconst (v := (1 : Int64)) hx hb dX2_maskOf_9 (by decide) ?_
  refine va_gets hx hb (hE.1.2.2.1) hS hown (hg _ kq2_28) (fun _ h9 => h9) dX2_maskOf_10 ?_
  refine lv_iload_n hx hb dX2_maskOf_13 rfl (lv_at hl 0 rfl) ?_
  obtain ⟨b2, hf⟩ := tno hf
  refine va_ti hx hb hE.1.2.2.2.1 hS b2 (v := .int (aSt x0.toNatClampNeg)) rfl dX2_maskOf_14 ?_
  refine lv_lshl (v := (jshl (1 : Int64) (aSt x0.toNatClampNeg))) hx hb dX2_maskOf_15 rfl ?_
  refine lv_lsub hx hb dX2_maskOf_16 ?_
  have hf := Option.some.inj hf
  subst hf
  exact e_l (wf := (fun _ : Unit => ([] : va_W))) hx hb hr hlk () ⟨rfl, rfl⟩ hP hK hD hS dX2_maskOf_17
set_option maxRecDepth 100000 in
set_option maxHeartbeats 4000000 in
theorem c_J13_bitCount_95d88 {l : Launch} {G : Gp} {sz N : Nat} {x0 : Int64} {q : Int32} (hf : f_J13_bitCount_95d88 N x0 = some q) : Met l yJ13_bitCount_95d88 (Cond.code yJ13_bitCount_95d88 cJ13_bitCount_95d88 2 (some .int) :: lw_g) ({ frames := 0, cells := 0, slots := 0, locals := 0 } : Room) (va_Pc [.long x0] (pw G [] sz)) (va_Qi (fun (r : Int32) (v : Unit) => q = r ∧ () = v) (bw G (fun _ : Unit => ([] : va_W)) (va_A [] sz)) (va_A [] sz)) 0 0 (va_A [] sz) := by
  refine mt (Qc := (fun A => va_Qi (fun (r : Int32) (v : Unit) => q = r ∧ () = v) (bw G (fun _ : Unit => ([] : va_W)) A) A)) (by decide) (Nat.le_of_ble_eq_true rfl) ?_
  intro p e s m below meth c A ls hx hb hr hlk hml hts hown hA hP hK hD hE hS hl
  have hown : s.vm.findClass RJ13 = some m.cls := hown
  have hg : ∀ w ∈ lw_g, w.before ([.long x0] : List Value).toArray s = true := fun w h => hts w (List.mem_cons_of_mem _ h)
  have hC : CallFix p m c cJ13_bitCount_95d88 2 s ([.long x0] : List Value).toArray (Cond.code yJ13_bitCount_95d88 cJ13_bitCount_95d88 2 (some .int) :: lw_g) RJ13 := ⟨hx, hb, hml, hown, hts⟩
  have hl : lv_has ls 2 [(0, .long x0)] := hl
  rw [f_J13_bitCount_95d88] at hf
  refine lv_lload_n hx hb dJ13_bitCount_95d88_0 rfl (lv_at hl 0 rfl) ?_
  refine lv_lload_n hx hb dJ13_bitCount_95d88_1 rfl (lv_at hl 0 rfl) ?_
  refine lv_iconst (v := (1 : Int32)) hx hb dJ13_bitCount_95d88_2 (by decide) ?_
  refine lv_lushr (v := (jushr x0 (1 : Int32))) hx hb dJ13_bitCount_95d88_3 rfl ?_
  refine lv_ldc2 hx hb hown (hg _ kq2_1) dJ13_bitCount_95d88_4 ?_
  refine lv_land hx hb dJ13_bitCount_95d88_7 ?_
  refine lv_lsub hx hb dJ13_bitCount_95d88_8 ?_
  refine lv_lstore_n (lv' := [(0, .long (x0 - ((jushr x0 (1 : Int32)) &&& (6148914691236517205 : Int64))))]) hx hb dJ13_bitCount_95d88_9 rfl hl (by decide) rfl (fun ls hl => ?_)
  refine lv_lload_n hx hb dJ13_bitCount_95d88_10 rfl (lv_at hl 0 rfl) ?_
  refine lv_ldc2 hx hb hown (hg _ kq2_2) dJ13_bitCount_95d88_11 ?_
  refine lv_land hx hb dJ13_bitCount_95d88_14 ?_
  refine lv_lload_n hx hb dJ13_bitCount_95d88_15 rfl (lv_at hl 0 rfl) ?_
  refine lv_iconst (v := (2 : Int32)) hx hb dJ13_bitCount_95d88_16 (by decide) ?_
  refine lv_lushr (v := (jushr (x0 - ((jushr x0 (1 : Int32)) &&& (6148914691236517205 : Int64))) (2 : Int32))) hx hb dJ13_bitCount_95d88_17 rfl ?_
  refine lv_ldc2 hx hb hown (hg _ kq2_2) dJ13_bitCount_95d88_18 ?_
  refine lv_land hx hb dJ13_bitCount_95d88_21 ?_
  refine lv_ladd hx hb dJ13_bitCount_95d88_22 ?_
  refine lv_lstore_n (lv' := [(0, .long (((x0 - ((jushr x0 (1 : Int32)) &&& (6148914691236517205 : Int64))) &&& (3689348814741910323 : Int64)) + ((jushr (x0 - ((jushr x0 (1 : Int32)) &&& (6148914691236517205 : Int64))) (2 : Int32)) &&& (3689348814741910323 : Int64))))]) hx hb dJ13_bitCount_95d88_23 rfl hl (by decide) rfl (fun ls hl => ?_)
  refine lv_lload_n hx hb dJ13_bitCount_95d88_24 rfl (lv_at hl 0 rfl) ?_
  refine lv_lload_n hx hb dJ13_bitCount_95d88_25 rfl (lv_at hl 0 rfl) ?_
  refine lv_iconst (v := (4 : Int32)) hx hb dJ13_bitCount_95d88_26 (by decide) ?_
  refine lv_lushr (v := (jushr (((x0 - ((jushr x0 (1 : Int32)) &&& (6148914691236517205 : Int64))) &&& (3689348814741910323 : Int64)) + ((jushr (x0 - ((jushr x0 (1 : Int32)) &&& (6148914691236517205 : Int64))) (2 : Int32)) &&& (3689348814741910323 : Int64))) (4 : Int32))) hx hb dJ13_bitCount_95d88_27 rfl ?_
  refine lv_ladd hx hb dJ13_bitCount_95d88_28 ?_
  refine lv_ldc2 hx hb hown (hg _ kq2_3) dJ13_bitCount_95d88_29 ?_
  refine lv_land hx hb dJ13_bitCount_95d88_32 ?_
  refine lv_lstore_n (lv' := [(0, .long (((((x0 - ((jushr x0 (1 : Int32)) &&& (6148914691236517205 : Int64))) &&& (3689348814741910323 : Int64)) + ((jushr (x0 - ((jushr x0 (1 : Int32)) &&& (6148914691236517205 : Int64))) (2 : Int32)) &&& (3689348814741910323 : Int64))) + (jushr (((x0 - ((jushr x0 (1 : Int32)) &&& (6148914691236517205 : Int64))) &&& (3689348814741910323 : Int64)) + ((jushr (x0 - ((jushr x0 (1 : Int32)) &&& (6148914691236517205 : Int64))) (2 : Int32)) &&& (3689348814741910323 : Int64))) (4 : Int32))) &&& (1085102592571150095 : Int64)))]) hx hb dJ13_bitCount_95d88_33 rfl hl (by decide) rfl (fun ls hl => ?_)
  refine lv_lload_n hx hb dJ13_bitCount_95d88_34 rfl (lv_at hl 0 rfl) ?_
  refine lv_lload_n hx hb dJ13_bitCount_95d88_35 rfl (lv_at hl 0 rfl) ?_
  refine lv_bipush (v := (8 : Int32)) hx hb dJ13_bitCount_95d88_36 (by decide) ?_
  refine lv_lushr (v := (jushr (((((x0 - ((jushr x0 (1 : Int32)) &&& (6148914691236517205 : Int64))) &&& (3689348814741910323 : Int64)) + ((jushr (x0 - ((jushr x0 (1 : Int32)) &&& (6148914691236517205 : Int64))) (2 : Int32)) &&& (3689348814741910323 : Int64))) + (jushr (((x0 - ((jushr x0 (1 : Int32)) &&& (6148914691236517205 : Int64))) &&& (3689348814741910323 : Int64)) + ((jushr (x0 - ((jushr x0 (1 : Int32)) &&& (6148914691236517205 : Int64))) (2 : Int32)) &&& (3689348814741910323 : Int64))) (4 : Int32))) &&& (1085102592571150095 : Int64)) (8 : Int32))) hx hb dJ13_bitCount_95d88_38 rfl ?_
  refine lv_ladd hx hb dJ13_bitCount_95d88_39 ?_
  refine lv_lstore_n (lv' := [(0, .long ((((((x0 - ((jushr x0 (1 : Int32)) &&& (6148914691236517205 : Int64))) &&& (3689348814741910323 : Int64)) + ((jushr (x0 - ((jushr x0 (1 : Int32)) &&& (6148914691236517205 : Int64))) (2 : Int32)) &&& (3689348814741910323 : Int64))) + (jushr (((x0 - ((jushr x0 (1 : Int32)) &&& (6148914691236517205 : Int64))) &&& (3689348814741910323 : Int64)) + ((jushr (x0 - ((jushr x0 (1 : Int32)) &&& (6148914691236517205 : Int64))) (2 : Int32)) &&& (3689348814741910323 : Int64))) (4 : Int32))) &&& (1085102592571150095 : Int64)) + (jushr (((((x0 - ((jushr x0 (1 : Int32)) &&& (6148914691236517205 : Int64))) &&& (3689348814741910323 : Int64)) + ((jushr (x0 - ((jushr x0 (1 : Int32)) &&& (6148914691236517205 : Int64))) (2 : Int32)) &&& (3689348814741910323 : Int64))) + (jushr (((x0 - ((jushr x0 (1 : Int32)) &&& (6148914691236517205 : Int64))) &&& (3689348814741910323 : Int64)) + ((jushr (x0 - ((jushr x0 (1 : Int32)) &&& (6148914691236517205 : Int64))) (2 : Int32)) &&& (3689348814741910323 : Int64))) (4 : Int32))) &&& (1085102592571150095 : Int64)) (8 : Int32))))]) hx hb dJ13_bitCount_95d88_40 rfl hl (by decide) rfl (fun ls hl => ?_)
  refine lv_lload_n hx hb dJ13_bitCount_95d88_41 rfl (lv_at hl 0 rfl) ?_
  refine lv_lload_n hx hb dJ13_bitCount_95d88_42 rfl (lv_at hl 0 rfl) ?_
  refine lv_bipush (v := (16 : Int32)) hx hb dJ13_bitCount_95d88_43 (by decide) ?_
  refine lv_lushr (v := (jushr ((((((x0 - ((jushr x0 (1 : Int32)) &&& (6148914691236517205 : Int64))) &&& (3689348814741910323 : Int64)) + ((jushr (x0 - ((jushr x0 (1 : Int32)) &&& (6148914691236517205 : Int64))) (2 : Int32)) &&& (3689348814741910323 : Int64))) + (jushr (((x0 - ((jushr x0 (1 : Int32)) &&& (6148914691236517205 : Int64))) &&& (3689348814741910323 : Int64)) + ((jushr (x0 - ((jushr x0 (1 : Int32)) &&& (6148914691236517205 : Int64))) (2 : Int32)) &&& (3689348814741910323 : Int64))) (4 : Int32))) &&& (1085102592571150095 : Int64)) + (jushr (((((x0 - ((jushr x0 (1 : Int32)) &&& (6148914691236517205 : Int64))) &&& (3689348814741910323 : Int64)) + ((jushr (x0 - ((jushr x0 (1 : Int32)) &&& (6148914691236517205 : Int64))) (2 : Int32)) &&& (3689348814741910323 : Int64))) + (jushr (((x0 - ((jushr x0 (1 : Int32)) &&& (6148914691236517205 : Int64))) &&& (3689348814741910323 : Int64)) + ((jushr (x0 - ((jushr x0 (1 : Int32)) &&& (6148914691236517205 : Int64))) (2 : Int32)) &&& (3689348814741910323 : Int64))) (4 : Int32))) &&& (1085102592571150095 : Int64)) (8 : Int32))) (16 : Int32))) hx hb dJ13_bitCount_95d88_45 rfl ?_
  refine lv_ladd hx hb dJ13_bitCount_95d88_46 ?_
  refine lv_lstore_n (lv' := [(0, .long (((((((x0 - ((jushr x0 (1 : Int32)) &&& (6148914691236517205 : Int64))) &&& (3689348814741910323 : Int64)) + ((jushr (x0 - ((jushr x0 (1 : Int32)) &&& (6148914691236517205 : Int64))) (2 : Int32)) &&& (3689348814741910323 : Int64))) + (jushr (((x0 - ((jushr x0 (1 : Int32)) &&& (6148914691236517205 : Int64))) &&& (3689348814741910323 : Int64)) + ((jushr (x0 - ((jushr x0 (1 : Int32)) &&& (6148914691236517205 : Int64))) (2 : Int32)) &&& (3689348814741910323 : Int64))) (4 : Int32))) &&& (1085102592571150095 : Int64)) + (jushr (((((x0 - ((jushr x0 (1 : Int32)) &&& (6148914691236517205 : Int64))) &&& (3689348814741910323 : Int64)) + ((jushr (x0 - ((jushr x0 (1 : Int32)) &&& (6148914691236517205 : Int64))) (2 : Int32)) &&& (3689348814741910323 : Int64))) + (jushr (((x0 - ((jushr x0 (1 : Int32)) &&& (6148914691236517205 : Int64))) &&& (3689348814741910323 : Int64)) + ((jushr (x0 - ((jushr x0 (1 : Int32)) &&& (6148914691236517205 : Int64))) (2 : Int32)) &&& (3689348814741910323 : Int64))) (4 : Int32))) &&& (1085102592571150095 : Int64)) (8 : Int32))) + (jushr ((((((x0 - ((jushr x0 (1 : Int32)) &&& (6148914691236517205 : Int64))) &&& (3689348814741910323 : Int64)) + ((jushr (x0 - ((jushr x0 (1 : Int32)) &&& (6148914691236517205 : Int64))) (2 : Int32)) &&& (3689348814741910323 : Int64))) + (jushr (((x0 - ((jushr x0 (1 : Int32)) &&& (6148914691236517205 : Int64))) &&& (3689348814741910323 : Int64)) + ((jushr (x0 - ((jushr x0 (1 : Int32)) &&& (6148914691236517205 : Int64))) (2 : Int32)) &&& (3689348814741910323 : Int64))) (4 : Int32))) &&& (1085102592571150095 : Int64)) + (jushr (((((x0 - ((jushr x0 (1 : Int32)) &&& (6148914691236517205 : Int64))) &&& (3689348814741910323 : Int64)) + ((jushr (x0 - ((jushr x0 (1 : Int32)) &&& (6148914691236517205 : Int64))) (2 : Int32)) &&& (3689348814741910323 : Int64))) + (jushr (((x0 - ((jushr x0 (1 : Int32)) &&& (6148914691236517205 : Int64))) &&& (3689348814741910323 : Int64)) + ((jushr (x0 - ((jushr x0 (1 : Int32)) &&& (6148914691236517205 : Int64))) (2 : Int32)) &&& (3689348814741910323 : Int64))) (4 : Int32))) &&& (1085102592571150095 : Int64)) (8 : Int32))) (16 : Int32))))]) hx hb dJ13_bitCount_95d88_47 rfl hl (by decide) rfl (fun ls hl => ?_)
  refine lv_lload_n hx hb dJ13_bitCount_95d88_48 rfl (lv_at hl 0 rfl) ?_
  refine lv_lload_n hx hb dJ13_bitCount_95d88_49 rfl (lv_at hl 0 rfl) ?_
  refine lv_bipush (v := (32 : Int32)) hx hb dJ13_bitCount_95d88_50 (by decide) ?_
  refine lv_lushr (v := (jushr (((((((x0 - ((jushr x0 (1 : Int32)) &&& (6148914691236517205 : Int64))) &&& (3689348814741910323 : Int64)) + ((jushr (x0 - ((jushr x0 (1 : Int32)) &&& (6148914691236517205 : Int64))) (2 : Int32)) &&& (3689348814741910323 : Int64))) + (jushr (((x0 - ((jushr x0 (1 : Int32)) &&& (6148914691236517205 : Int64))) &&& (3689348814741910323 : Int64)) + ((jushr (x0 - ((jushr x0 (1 : Int32)) &&& (6148914691236517205 : Int64))) (2 : Int32)) &&& (3689348814741910323 : Int64))) (4 : Int32))) &&& (1085102592571150095 : Int64)) + (jushr (((((x0 - ((jushr x0 (1 : Int32)) &&& (6148914691236517205 : Int64))) &&& (3689348814741910323 : Int64)) + ((jushr (x0 - ((jushr x0 (1 : Int32)) &&& (6148914691236517205 : Int64))) (2 : Int32)) &&& (3689348814741910323 : Int64))) + (jushr (((x0 - ((jushr x0 (1 : Int32)) &&& (6148914691236517205 : Int64))) &&& (3689348814741910323 : Int64)) + ((jushr (x0 - ((jushr x0 (1 : Int32)) &&& (6148914691236517205 : Int64))) (2 : Int32)) &&& (3689348814741910323 : Int64))) (4 : Int32))) &&& (1085102592571150095 : Int64)) (8 : Int32))) + (jushr ((((((x0 - ((jushr x0 (1 : Int32)) &&& (6148914691236517205 : Int64))) &&& (3689348814741910323 : Int64)) + ((jushr (x0 - ((jushr x0 (1 : Int32)) &&& (6148914691236517205 : Int64))) (2 : Int32)) &&& (3689348814741910323 : Int64))) + (jushr (((x0 - ((jushr x0 (1 : Int32)) &&& (6148914691236517205 : Int64))) &&& (3689348814741910323 : Int64)) + ((jushr (x0 - ((jushr x0 (1 : Int32)) &&& (6148914691236517205 : Int64))) (2 : Int32)) &&& (3689348814741910323 : Int64))) (4 : Int32))) &&& (1085102592571150095 : Int64)) + (jushr (((((x0 - ((jushr x0 (1 : Int32)) &&& (6148914691236517205 : Int64))) &&& (3689348814741910323 : Int64)) + ((jushr (x0 - ((jushr x0 (1 : Int32)) &&& (6148914691236517205 : Int64))) (2 : Int32)) &&& (3689348814741910323 : Int64))) + (jushr (((x0 - ((jushr x0 (1 : Int32)) &&& (6148914691236517205 : Int64))) &&& (3689348814741910323 : Int64)) + ((jushr (x0 - ((jushr x0 (1 : Int32)) &&& (6148914691236517205 : Int64))) (2 : Int32)) &&& (3689348814741910323 : Int64))) (4 : Int32))) &&& (1085102592571150095 : Int64)) (8 : Int32))) (16 : Int32))) (32 : Int32))) hx hb dJ13_bitCount_95d88_52 rfl ?_
  refine lv_ladd hx hb dJ13_bitCount_95d88_53 ?_
  refine lv_lstore_n (lv' := [(0, .long ((((((((x0 - ((jushr x0 (1 : Int32)) &&& (6148914691236517205 : Int64))) &&& (3689348814741910323 : Int64)) + ((jushr (x0 - ((jushr x0 (1 : Int32)) &&& (6148914691236517205 : Int64))) (2 : Int32)) &&& (3689348814741910323 : Int64))) + (jushr (((x0 - ((jushr x0 (1 : Int32)) &&& (6148914691236517205 : Int64))) &&& (3689348814741910323 : Int64)) + ((jushr (x0 - ((jushr x0 (1 : Int32)) &&& (6148914691236517205 : Int64))) (2 : Int32)) &&& (3689348814741910323 : Int64))) (4 : Int32))) &&& (1085102592571150095 : Int64)) + (jushr (((((x0 - ((jushr x0 (1 : Int32)) &&& (6148914691236517205 : Int64))) &&& (3689348814741910323 : Int64)) + ((jushr (x0 - ((jushr x0 (1 : Int32)) &&& (6148914691236517205 : Int64))) (2 : Int32)) &&& (3689348814741910323 : Int64))) + (jushr (((x0 - ((jushr x0 (1 : Int32)) &&& (6148914691236517205 : Int64))) &&& (3689348814741910323 : Int64)) + ((jushr (x0 - ((jushr x0 (1 : Int32)) &&& (6148914691236517205 : Int64))) (2 : Int32)) &&& (3689348814741910323 : Int64))) (4 : Int32))) &&& (1085102592571150095 : Int64)) (8 : Int32))) + (jushr ((((((x0 - ((jushr x0 (1 : Int32)) &&& (6148914691236517205 : Int64))) &&& (3689348814741910323 : Int64)) + ((jushr (x0 - ((jushr x0 (1 : Int32)) &&& (6148914691236517205 : Int64))) (2 : Int32)) &&& (3689348814741910323 : Int64))) + (jushr (((x0 - ((jushr x0 (1 : Int32)) &&& (6148914691236517205 : Int64))) &&& (3689348814741910323 : Int64)) + ((jushr (x0 - ((jushr x0 (1 : Int32)) &&& (6148914691236517205 : Int64))) (2 : Int32)) &&& (3689348814741910323 : Int64))) (4 : Int32))) &&& (1085102592571150095 : Int64)) + (jushr (((((x0 - ((jushr x0 (1 : Int32)) &&& (6148914691236517205 : Int64))) &&& (3689348814741910323 : Int64)) + ((jushr (x0 - ((jushr x0 (1 : Int32)) &&& (6148914691236517205 : Int64))) (2 : Int32)) &&& (3689348814741910323 : Int64))) + (jushr (((x0 - ((jushr x0 (1 : Int32)) &&& (6148914691236517205 : Int64))) &&& (3689348814741910323 : Int64)) + ((jushr (x0 - ((jushr x0 (1 : Int32)) &&& (6148914691236517205 : Int64))) (2 : Int32)) &&& (3689348814741910323 : Int64))) (4 : Int32))) &&& (1085102592571150095 : Int64)) (8 : Int32))) (16 : Int32))) + (jushr (((((((x0 - ((jushr x0 (1 : Int32)) &&& (6148914691236517205 : Int64))) &&& (3689348814741910323 : Int64)) + ((jushr (x0 - ((jushr x0 (1 : Int32)) &&& (6148914691236517205 : Int64))) (2 : Int32)) &&& (3689348814741910323 : Int64))) + (jushr (((x0 - ((jushr x0 (1 : Int32)) &&& (6148914691236517205 : Int64))) &&& (3689348814741910323 : Int64)) + ((jushr (x0 - ((jushr x0 (1 : Int32)) &&& (6148914691236517205 : Int64))) (2 : Int32)) &&& (3689348814741910323 : Int64))) (4 : Int32))) &&& (1085102592571150095 : Int64)) + (jushr (((((x0 - ((jushr x0 (1 : Int32)) &&& (6148914691236517205 : Int64))) &&& (3689348814741910323 : Int64)) + ((jushr (x0 - ((jushr x0 (1 : Int32)) &&& (6148914691236517205 : Int64))) (2 : Int32)) &&& (3689348814741910323 : Int64))) + (jushr (((x0 - ((jushr x0 (1 : Int32)) &&& (6148914691236517205 : Int64))) &&& (3689348814741910323 : Int64)) + ((jushr (x0 - ((jushr x0 (1 : Int32)) &&& (6148914691236517205 : Int64))) (2 : Int32)) &&& (3689348814741910323 : Int64))) (4 : Int32))) &&& (1085102592571150095 : Int64)) (8 : Int32))) + (jushr ((((((x0 - ((jushr x0 (1 : Int32)) &&& (6148914691236517205 : Int64))) &&& (3689348814741910323 : Int64)) + ((jushr (x0 - ((jushr x0 (1 : Int32)) &&& (6148914691236517205 : Int64))) (2 : Int32)) &&& (3689348814741910323 : Int64))) + (jushr (((x0 - ((jushr x0 (1 : Int32)) &&& (6148914691236517205 : Int64))) &&& (3689348814741910323 : Int64)) + ((jushr (x0 - ((jushr x0 (1 : Int32)) &&& (6148914691236517205 : Int64))) (2 : Int32)) &&& (3689348814741910323 : Int64))) (4 : Int32))) &&& (1085102592571150095 : Int64)) + (jushr (((((x0 - ((jushr x0 (1 : Int32)) &&& (6148914691236517205 : Int64))) &&& (3689348814741910323 : Int64)) + ((jushr (x0 - ((jushr x0 (1 : Int32)) &&& (6148914691236517205 : Int64))) (2 : Int32)) &&& (3689348814741910323 : Int64))) + (jushr (((x0 - ((jushr x0 (1 : Int32)) &&& (6148914691236517205 : Int64))) &&& (3689348814741910323 : Int64)) + ((jushr (x0 - ((jushr x0 (1 : Int32)) &&& (6148914691236517205 : Int64))) (2 : Int32)) &&& (3689348814741910323 : Int64))) (4 : Int32))) &&& (1085102592571150095 : Int64)) (8 : Int32))) (16 : Int32))) (32 : Int32))))]) hx hb dJ13_bitCount_95d88_54 rfl hl (by decide) rfl (fun ls hl => ?_)
  refine lv_lload_n hx hb dJ13_bitCount_95d88_55 rfl (lv_at hl 0 rfl) ?_
  refine lv_l2i (v := ((((((((x0 - ((jushr x0 (1 : Int32)) &&& (6148914691236517205 : Int64))) &&& (3689348814741910323 : Int64)) + ((jushr (x0 - ((jushr x0 (1 : Int32)) &&& (6148914691236517205 : Int64))) (2 : Int32)) &&& (3689348814741910323 : Int64))) + (jushr (((x0 - ((jushr x0 (1 : Int32)) &&& (6148914691236517205 : Int64))) &&& (3689348814741910323 : Int64)) + ((jushr (x0 - ((jushr x0 (1 : Int32)) &&& (6148914691236517205 : Int64))) (2 : Int32)) &&& (3689348814741910323 : Int64))) (4 : Int32))) &&& (1085102592571150095 : Int64)) + (jushr (((((x0 - ((jushr x0 (1 : Int32)) &&& (6148914691236517205 : Int64))) &&& (3689348814741910323 : Int64)) + ((jushr (x0 - ((jushr x0 (1 : Int32)) &&& (6148914691236517205 : Int64))) (2 : Int32)) &&& (3689348814741910323 : Int64))) + (jushr (((x0 - ((jushr x0 (1 : Int32)) &&& (6148914691236517205 : Int64))) &&& (3689348814741910323 : Int64)) + ((jushr (x0 - ((jushr x0 (1 : Int32)) &&& (6148914691236517205 : Int64))) (2 : Int32)) &&& (3689348814741910323 : Int64))) (4 : Int32))) &&& (1085102592571150095 : Int64)) (8 : Int32))) + (jushr ((((((x0 - ((jushr x0 (1 : Int32)) &&& (6148914691236517205 : Int64))) &&& (3689348814741910323 : Int64)) + ((jushr (x0 - ((jushr x0 (1 : Int32)) &&& (6148914691236517205 : Int64))) (2 : Int32)) &&& (3689348814741910323 : Int64))) + (jushr (((x0 - ((jushr x0 (1 : Int32)) &&& (6148914691236517205 : Int64))) &&& (3689348814741910323 : Int64)) + ((jushr (x0 - ((jushr x0 (1 : Int32)) &&& (6148914691236517205 : Int64))) (2 : Int32)) &&& (3689348814741910323 : Int64))) (4 : Int32))) &&& (1085102592571150095 : Int64)) + (jushr (((((x0 - ((jushr x0 (1 : Int32)) &&& (6148914691236517205 : Int64))) &&& (3689348814741910323 : Int64)) + ((jushr (x0 - ((jushr x0 (1 : Int32)) &&& (6148914691236517205 : Int64))) (2 : Int32)) &&& (3689348814741910323 : Int64))) + (jushr (((x0 - ((jushr x0 (1 : Int32)) &&& (6148914691236517205 : Int64))) &&& (3689348814741910323 : Int64)) + ((jushr (x0 - ((jushr x0 (1 : Int32)) &&& (6148914691236517205 : Int64))) (2 : Int32)) &&& (3689348814741910323 : Int64))) (4 : Int32))) &&& (1085102592571150095 : Int64)) (8 : Int32))) (16 : Int32))) + (jushr (((((((x0 - ((jushr x0 (1 : Int32)) &&& (6148914691236517205 : Int64))) &&& (3689348814741910323 : Int64)) + ((jushr (x0 - ((jushr x0 (1 : Int32)) &&& (6148914691236517205 : Int64))) (2 : Int32)) &&& (3689348814741910323 : Int64))) + (jushr (((x0 - ((jushr x0 (1 : Int32)) &&& (6148914691236517205 : Int64))) &&& (3689348814741910323 : Int64)) + ((jushr (x0 - ((jushr x0 (1 : Int32)) &&& (6148914691236517205 : Int64))) (2 : Int32)) &&& (3689348814741910323 : Int64))) (4 : Int32))) &&& (1085102592571150095 : Int64)) + (jushr (((((x0 - ((jushr x0 (1 : Int32)) &&& (6148914691236517205 : Int64))) &&& (3689348814741910323 : Int64)) + ((jushr (x0 - ((jushr x0 (1 : Int32)) &&& (6148914691236517205 : Int64))) (2 : Int32)) &&& (3689348814741910323 : Int64))) + (jushr (((x0 - ((jushr x0 (1 : Int32)) &&& (6148914691236517205 : Int64))) &&& (3689348814741910323 : Int64)) + ((jushr (x0 - ((jushr x0 (1 : Int32)) &&& (6148914691236517205 : Int64))) (2 : Int32)) &&& (3689348814741910323 : Int64))) (4 : Int32))) &&& (1085102592571150095 : Int64)) (8 : Int32))) + (jushr ((((((x0 - ((jushr x0 (1 : Int32)) &&& (6148914691236517205 : Int64))) &&& (3689348814741910323 : Int64)) + ((jushr (x0 - ((jushr x0 (1 : Int32)) &&& (6148914691236517205 : Int64))) (2 : Int32)) &&& (3689348814741910323 : Int64))) + (jushr (((x0 - ((jushr x0 (1 : Int32)) &&& (6148914691236517205 : Int64))) &&& (3689348814741910323 : Int64)) + ((jushr (x0 - ((jushr x0 (1 : Int32)) &&& (6148914691236517205 : Int64))) (2 : Int32)) &&& (3689348814741910323 : Int64))) (4 : Int32))) &&& (1085102592571150095 : Int64)) + (jushr (((((x0 - ((jushr x0 (1 : Int32)) &&& (6148914691236517205 : Int64))) &&& (3689348814741910323 : Int64)) + ((jushr (x0 - ((jushr x0 (1 : Int32)) &&& (6148914691236517205 : Int64))) (2 : Int32)) &&& (3689348814741910323 : Int64))) + (jushr (((x0 - ((jushr x0 (1 : Int32)) &&& (6148914691236517205 : Int64))) &&& (3689348814741910323 : Int64)) + ((jushr (x0 - ((jushr x0 (1 : Int32)) &&& (6148914691236517205 : Int64))) (2 : Int32)) &&& (3689348814741910323 : Int64))) (4 : Int32))) &&& (1085102592571150095 : Int64)) (8 : Int32))) (16 : Int32))) (32 : Int32))).toInt32) hx hb dJ13_bitCount_95d88_56 rfl ?_
  refine lv_bipush (v := (127 : Int32)) hx hb dJ13_bitCount_95d88_57 (by decide) ?_
  refine lv_iand hx hb dJ13_bitCount_95d88_59 ?_
  have hf := Option.some.inj hf
  subst hf
  exact e_i (wf := (fun _ : Unit => ([] : va_W))) hx hb hr hlk () ⟨rfl, rfl⟩ hP hK hD hS dJ13_bitCount_95d88_60
set_option maxRecDepth 100000 in
set_option maxHeartbeats 4000000 in
theorem c_X2_isOdd {l : Launch} {G : Gp} {sz N : Nat} {x0 : Int64} {x2 : Int32} {q : Bool} (hf : f_X2_isOdd N x0 x2 = some q) : Met l yX2_isOdd (Cond.code yX2_isOdd cX2_isOdd 3 (some .boolean) :: lw_g) ({ frames := 1, cells := 0, slots := 0, locals := 21 } : Room) (va_Pc [.long x0, .int x2] (pw G [] sz)) (va_Qi (fun (r : Int32) (v : Unit) => bI q = r ∧ () = v) (bw G (fun _ : Unit => ([] : va_W)) (va_A [] sz)) (va_A [] sz)) 0 0 (va_A [] sz) := by
  refine mt (Qc := (fun A => va_Qi (fun (r : Int32) (v : Unit) => bI q = r ∧ () = v) (bw G (fun _ : Unit => ([] : va_W)) A) A)) (by decide) (Nat.le_of_ble_eq_true rfl) ?_
  intro p e s m below meth c A ls hx hb hr hlk hml hts hown hA hP hK hD hE hS hl
  have hown : s.vm.findClass RX2 = some m.cls := hown
  have hg : ∀ w ∈ lw_g, w.before ([.long x0, .int x2] : List Value).toArray s = true := fun w h => hts w (List.mem_cons_of_mem _ h)
  have hC : CallFix p m c cX2_isOdd 3 s ([.long x0, .int x2] : List Value).toArray (Cond.code yX2_isOdd cX2_isOdd 3 (some .boolean) :: lw_g) RX2 := ⟨hx, hb, hml, hown, hts⟩
  have hl : lv_has ls 3 [(0, .long x0), (2, .int x2)] := hl
  rw [f_X2_isOdd] at hf
  refine lv_lload_n hx hb dX2_isOdd_0 rfl (lv_at hl 0 rfl) ?_
  refine lv_iload_n hx hb dX2_isOdd_1 rfl (lv_at hl 1 rfl) ?_
  obtain ⟨q1, e2, hf⟩ := tbd hf
  refine kSl0 (As := [.int x2]) (rest := [.long x0]) hC (c_X2_maskOf (G := G) e2) kq2_23 kc_X2_maskOf (by decide) hP hK hD hE hS hA hl.1 (Nat.le_of_ble_eq_true rfl) ⟨Nat.zero_le _, Nat.zero_le _⟩ dX2_isOdd_2 (fun r9 u9 H locs hw hP hD hS => ?_)
  obtain ⟨rfl, rfl⟩ := hw
  refine lv_land hx hb dX2_isOdd_5 ?_
  obtain ⟨q3, e4, hf⟩ := tbd hf
  refine kSi0 (As := [.long (x0 &&& q1)]) (rest := []) hC (c_J13_bitCount_95d88 (G := G) e4) kq2_33 kc_J13_bitCount_95d88 (by decide) hP hK hD hE hS hA hl.1 (Nat.le_of_ble_eq_true rfl) ⟨Nat.zero_le _, Nat.zero_le _⟩ dX2_isOdd_6 (fun r9 u9 H locs hw hP hD hS => ?_)
  obtain ⟨rfl, rfl⟩ := hw
  refine lv_iconst (v := (2 : Int32)) hx hb dX2_isOdd_9 (by decide) ?_
  refine lv_irem hx hb dX2_isOdd_10 (by decide) ?_
  refine lv_if_eq (tgt := 18) hx hb dX2_isOdd_11 (by decide) (fun c5 => ?_) (fun c5 => ?_)
  · have hf := tp hf c5
    refine lv_iconst (v := (0 : Int32)) hx hb dX2_isOdd_18 (by decide) ?_
    have hf := Option.some.inj hf
    subst hf
    exact e_z (wf := (fun _ : Unit => ([] : va_W))) hx hb hr hlk () rfl ⟨rfl, rfl⟩ hP hK hD hS dX2_isOdd_19
  · have hf := tn hf c5
    refine lv_iconst (v := (1 : Int32)) hx hb dX2_isOdd_14 (by decide) ?_
    refine lv_goto (tgt := 19) hx hb dX2_isOdd_15 (by decide) ?_
    have hf := Option.some.inj hf
    subst hf
    exact e_z (wf := (fun _ : Unit => ([] : va_W))) hx hb hr hlk () rfl ⟨rfl, rfl⟩ hP hK hD hS dX2_isOdd_19
set_option maxRecDepth 100000 in
set_option maxHeartbeats 4000000 in
theorem c_X2_encode {l : Launch} {G : Gp} {sz N : Nat} {x0 : Int32} {x1 : Bool} {q : Int64} (hf : f_X2_encode N x0 x1 = some q) : Met l yX2_encode (Cond.code yX2_encode cX2_encode 6 (some .long) :: lw_g) ({ frames := 3, cells := 0, slots := 0, locals := 67 } : Room) (va_Pc [.int x0, .int (bI x1)] (pw G [] sz)) (va_Ql (fun (r : Int64) (v : Unit) => q = r ∧ () = v) (bw G (fun _ : Unit => ([] : va_W)) (va_A [] sz)) (va_A [] sz)) 0 0 (va_A [] sz) := by
  refine mt (Qc := (fun A => va_Ql (fun (r : Int64) (v : Unit) => q = r ∧ () = v) (bw G (fun _ : Unit => ([] : va_W)) A) A)) (by decide) (Nat.le_of_ble_eq_true rfl) ?_
  intro p e s m below meth c A ls hx hb hr hlk hml hts hown hA hP hK hD hE hS hl
  have hown : s.vm.findClass RX2 = some m.cls := hown
  have hg : ∀ w ∈ lw_g, w.before ([.int x0, .int (bI x1)] : List Value).toArray s = true := fun w h => hts w (List.mem_cons_of_mem _ h)
  have hC : CallFix p m c cX2_encode 6 s ([.int x0, .int (bI x1)] : List Value).toArray (Cond.code yX2_encode cX2_encode 6 (some .long) :: lw_g) RX2 := ⟨hx, hb, hml, hown, hts⟩
  have hl : lv_has ls 6 [(0, .int x0), (1, .int (bI x1))] := hl
  have lp_102 : ∀ (n : Nat) (x2 : Int32) (x3 : Int64) (x5 : Int32), l_X2_encode_102 N x0 x1 n x2 x3 x5 = some q → ∀ (H : Heap) (locs : List Loc) (ls : Array Slot), va_P (gD G) vwCl [] H → va_D A [] → va_S A s.heap H locs → lv_has ls 6 [(0, .int x0), (1, .int (bI x1)), (2, .int x2), (3, .long x3), (5, .int x5)] → W p l e ({ frames := 3, cells := 0, slots := 0, locals := 67 } : Room) s m ([.int x0, .int (bI x1)] : List Value).toArray below meth c H locs 0 0 (MQ below (va_Ql (fun (r : Int64) (v : Unit) => q = r ∧ () = v) (bw G (fun _ : Unit => ([] : va_W)) A) A) ([.int x0, .int (bI x1)] : List Value).toArray s 0 0 A) (F0 m 102 ls []) := by
    intro n
    induction n with
    | zero => intro x2 x3 x5 hf; rw [l_X2_encode_102] at hf; cases hf
    | succ n ih =>
      intro x2 x3 x5 hf H locs ls hP hD hS hl
      rw [l_X2_encode_102] at hf
      refine lv_iload hx hb dX2_encode_102 (lv_at hl 4 rfl) ?_
      refine lv_iconst (v := (3 : Int32)) hx hb dX2_encode_104 (by decide) ?_
      refine lv_icmp_ge (tgt := 134) hx hb dX2_encode_105 (by decide) (fun c20 => ?_) (fun c20 => ?_)
      · have hf := tp hf c20
        refine lv_lload_n hx hb dX2_encode_134 rfl (lv_at hl 3 rfl) ?_
        have hf := Option.some.inj hf
        subst hf
        exact e_l (wf := (fun _ : Unit => ([] : va_W))) hx hb hr hlk () ⟨rfl, rfl⟩ hP hK hD hS dX2_encode_135
      · have hf := tn hf c20
        refine lv_lload_n hx hb dX2_encode_108 rfl (lv_at hl 3 rfl) ?_
        refine lv_iload hx hb dX2_encode_109 (lv_at hl 4 rfl) ?_
        obtain ⟨q21, e22, hf⟩ := tbd hf
        refine kSi0 (As := [.long x3, .int x5]) (rest := []) hC (c_X2_isOdd (G := G) e22) kq2_30 kc_X2_isOdd (by decide) hP hK hD hE hS hA hl.1 (Nat.le_of_ble_eq_true rfl) ⟨Nat.zero_le _, Nat.zero_le _⟩ dX2_encode_111 (fun r9 u9 H locs hw hP hD hS => ?_)
        obtain ⟨rfl, rfl⟩ := hw
        refine bz_eq (tgt := 128) hx hb dX2_encode_114 (by decide) (fun c23 => ?_) (fun c23 => ?_)
        · have hf := tn hf c23
          refine lv_iinc (v := (x5 + (1 : Int32))) (lv' := [(5, .int (x5 + (1 : Int32))), (0, .int x0), (1, .int (bI x1)), (2, .int x2), (3, .long x3)]) hx hb dX2_encode_128 hl (k := 4) rfl rfl (by decide) rfl (fun ls hl => ?_)
          refine lv_goto (tgt := 102) hx hb dX2_encode_131 (by decide) ?_
          exact ih _ _ _ hf _ _ _ hP hD hS (lv_sub hl [1, 2, 3, 4, 0] rfl)
        · have hf := tp hf c23
          refine lv_lload_n hx hb dX2_encode_117 rfl (lv_at hl 3 rfl) ?_
          refine lv_lconst (v := (1 : Int64)) hx hb dX2_encode_118 (by decide) ?_
          refine va_gets hx hb (hE.1.1) hS hown (hg _ kq2_26) (fun _ h9 => h9) dX2_encode_119 ?_
          refine lv_iload hx hb dX2_encode_122 (lv_at hl 4 rfl) ?_
          obtain ⟨b24, hf⟩ := tno hf
          refine va_ti hx hb hE.1.2.1 hS b24 (v := .int (aEn x5.toNatClampNeg)) rfl dX2_encode_124 ?_
          refine lv_lshl (v := (jshl (1 : Int64) (aEn x5.toNatClampNeg))) hx hb dX2_encode_125 rfl ?_
          refine lv_lor hx hb dX2_encode_126 ?_
          refine lv_lstore_n (lv' := [(3, .long (x3 ||| (jshl (1 : Int64) (aEn x5.toNatClampNeg)))), (0, .int x0), (1, .int (bI x1)), (2, .int x2), (5, .int x5)]) hx hb dX2_encode_127 rfl hl (by decide) rfl (fun ls hl => ?_)
          refine lv_iinc (v := (x5 + (1 : Int32))) (lv' := [(5, .int (x5 + (1 : Int32))), (3, .long (x3 ||| (jshl (1 : Int64) (aEn x5.toNatClampNeg)))), (0, .int x0), (1, .int (bI x1)), (2, .int x2)]) hx hb dX2_encode_128 hl (k := 4) rfl rfl (by decide) rfl (fun ls hl => ?_)
          refine lv_goto (tgt := 102) hx hb dX2_encode_131 (by decide) ?_
          exact ih _ _ _ hf _ _ _ hP hD hS (lv_sub hl [2, 3, 4, 1, 0] rfl)
  rw [f_X2_encode] at hf
  refine lv_iload_n hx hb dX2_encode_0 rfl (lv_at hl 0 rfl) ?_
  refine lv_sipush (v := (1440 : Int32)) hx hb dX2_encode_1 (by decide) ?_
  refine lv_idiv hx hb dX2_encode_4 (by decide) ?_
  refine lv_istore_n (lv' := [(2, .int (x0 / (1440 : Int32))), (0, .int x0), (1, .int (bI x1))]) hx hb dX2_encode_5 rfl hl (by decide) rfl (fun ls hl => ?_)
  refine lv_ldc2 hx hb hown (hg _ kq3_163) dX2_encode_6 ?_
  refine lv_lstore_n (lv' := [(3, .long (1048576 : Int64)), (2, .int (x0 / (1440 : Int32))), (0, .int x0), (1, .int (bI x1))]) hx hb dX2_encode_9 rfl hl (by decide) rfl (fun ls hl => ?_)
  refine lv_iload_n hx hb dX2_encode_10 rfl (lv_at hl 3 rfl) ?_
  refine bz_eq (tgt := 20) hx hb dX2_encode_11 (by decide) (fun c1 => ?_) (fun c1 => ?_)
  · have hf := tn hf c1
    refine lv_lload_n hx hb dX2_encode_20 rfl (lv_at hl 0 rfl) ?_
    refine lv_iload_n hx hb dX2_encode_21 rfl (lv_at hl 2 rfl) ?_
    refine lv_bipush (v := (60 : Int32)) hx hb dX2_encode_22 (by decide) ?_
    refine lv_irem hx hb dX2_encode_24 (by decide) ?_
    obtain ⟨q2, e3, hf⟩ := tbd hf
    refine kSl0 (As := [.int (x0 - x0 / (60 : Int32) * (60 : Int32))]) (rest := [.long (1048576 : Int64)]) hC (c_X2_twoDigits (G := G) e3) kq3_165 kc_X2_twoDigits (by decide) hP hK hD hE hS hA hl.1 (Nat.le_of_ble_eq_true rfl) ⟨Nat.zero_le _, Nat.zero_le _⟩ dX2_encode_25 (fun r9 u9 H locs hw hP hD hS => ?_)
    obtain ⟨rfl, rfl⟩ := hw
    refine lv_bipush (v := (21 : Int32)) hx hb dX2_encode_28 (by decide) ?_
    refine lv_lshl (v := (jshl q2 (21 : Int32))) hx hb dX2_encode_30 rfl ?_
    refine lv_lor hx hb dX2_encode_31 ?_
    refine lv_lstore_n (lv' := [(3, .long ((1048576 : Int64) ||| (jshl q2 (21 : Int32)))), (2, .int (x0 / (1440 : Int32))), (0, .int x0), (1, .int (bI x1))]) hx hb dX2_encode_32 rfl hl (by decide) rfl (fun ls hl => ?_)
    refine lv_lload_n hx hb dX2_encode_33 rfl (lv_at hl 0 rfl) ?_
    refine lv_iload_n hx hb dX2_encode_34 rfl (lv_at hl 2 rfl) ?_
    refine lv_bipush (v := (60 : Int32)) hx hb dX2_encode_35 (by decide) ?_
    refine lv_idiv hx hb dX2_encode_37 (by decide) ?_
    refine lv_bipush (v := (24 : Int32)) hx hb dX2_encode_38 (by decide) ?_
    refine lv_irem hx hb dX2_encode_40 (by decide) ?_
    obtain ⟨q4, e5, hf⟩ := tbd hf
    refine kSl0 (As := [.int ((x0 / (60 : Int32)) - (x0 / (60 : Int32)) / (24 : Int32) * (24 : Int32))]) (rest := [.long ((1048576 : Int64) ||| (jshl q2 (21 : Int32)))]) hC (c_X2_twoDigits (G := G) e5) kq3_165 kc_X2_twoDigits (by decide) hP hK hD hE hS hA hl.1 (Nat.le_of_ble_eq_true rfl) ⟨Nat.zero_le _, Nat.zero_le _⟩ dX2_encode_41 (fun r9 u9 H locs hw hP hD hS => ?_)
    obtain ⟨rfl, rfl⟩ := hw
    refine lv_bipush (v := (29 : Int32)) hx hb dX2_encode_44 (by decide) ?_
    refine lv_lshl (v := (jshl q4 (29 : Int32))) hx hb dX2_encode_46 rfl ?_
    refine lv_lor hx hb dX2_encode_47 ?_
    refine lv_lstore_n (lv' := [(3, .long (((1048576 : Int64) ||| (jshl q2 (21 : Int32))) ||| (jshl q4 (29 : Int32)))), (2, .int (x0 / (1440 : Int32))), (0, .int x0), (1, .int (bI x1))]) hx hb dX2_encode_48 rfl hl (by decide) rfl (fun ls hl => ?_)
    refine lv_lload_n hx hb dX2_encode_49 rfl (lv_at hl 0 rfl) ?_
    refine lv_iload_n hx hb dX2_encode_50 rfl (lv_at hl 1 rfl) ?_
    obtain ⟨q6, e7, hf⟩ := tbd hf
    refine kSi0 (As := [.int (x0 / (1440 : Int32))]) (rest := [.long (((1048576 : Int64) ||| (jshl q2 (21 : Int32))) ||| (jshl q4 (29 : Int32)))]) hC (c_X1_dayOfMonth (G := G) e7) kq3_168 kc_X1_dayOfMonth (by decide) hP hK hD hE hS hA hl.1 (Nat.le_of_ble_eq_true rfl) ⟨Nat.zero_le _, Nat.zero_le _⟩ dX2_encode_51 (fun r9 u9 H locs hw hP hD hS => ?_)
    obtain ⟨rfl, rfl⟩ := hw
    obtain ⟨q8, e9, hf⟩ := tbd hf
    refine kSl0 (As := [.int q6]) (rest := [.long (((1048576 : Int64) ||| (jshl q2 (21 : Int32))) ||| (jshl q4 (29 : Int32)))]) hC (c_X2_twoDigits (G := G) e9) kq3_165 kc_X2_twoDigits (by decide) hP hK hD hE hS hA hl.1 (Nat.le_of_ble_eq_true rfl) ⟨Nat.zero_le _, Nat.zero_le _⟩ dX2_encode_54 (fun r9 u9 H locs hw hP hD hS => ?_)
    obtain ⟨rfl, rfl⟩ := hw
    refine lv_bipush (v := (36 : Int32)) hx hb dX2_encode_57 (by decide) ?_
    refine lv_lshl (v := (jshl q8 (36 : Int32))) hx hb dX2_encode_59 rfl ?_
    refine lv_lor hx hb dX2_encode_60 ?_
    refine lv_lstore_n (lv' := [(3, .long ((((1048576 : Int64) ||| (jshl q2 (21 : Int32))) ||| (jshl q4 (29 : Int32))) ||| (jshl q8 (36 : Int32)))), (2, .int (x0 / (1440 : Int32))), (0, .int x0), (1, .int (bI x1))]) hx hb dX2_encode_61 rfl hl (by decide) rfl (fun ls hl => ?_)
    refine lv_lload_n hx hb dX2_encode_62 rfl (lv_at hl 0 rfl) ?_
    refine lv_iload_n hx hb dX2_encode_63 rfl (lv_at hl 1 rfl) ?_
    obtain ⟨q10, e11, hf⟩ := tbd hf
    refine kSi0 (As := [.int (x0 / (1440 : Int32))]) (rest := [.long ((((1048576 : Int64) ||| (jshl q2 (21 : Int32))) ||| (jshl q4 (29 : Int32))) ||| (jshl q8 (36 : Int32)))]) hC (c_X1_weekdayOf (G := G) e11) kq2_54 kc_X1_weekdayOf (by decide) hP hK hD hE hS hA hl.1 (Nat.le_of_ble_eq_true rfl) ⟨Nat.zero_le _, Nat.zero_le _⟩ dX2_encode_64 (fun r9 u9 H locs hw hP hD hS => ?_)
    obtain ⟨rfl, rfl⟩ := hw
    refine lv_i2l (v := q10.toInt64) hx hb dX2_encode_67 rfl ?_
    refine lv_bipush (v := (42 : Int32)) hx hb dX2_encode_68 (by decide) ?_
    refine lv_lshl (v := (jshl q10.toInt64 (42 : Int32))) hx hb dX2_encode_70 rfl ?_
    refine lv_lor hx hb dX2_encode_71 ?_
    refine lv_lstore_n (lv' := [(3, .long (((((1048576 : Int64) ||| (jshl q2 (21 : Int32))) ||| (jshl q4 (29 : Int32))) ||| (jshl q8 (36 : Int32))) ||| (jshl q10.toInt64 (42 : Int32)))), (2, .int (x0 / (1440 : Int32))), (0, .int x0), (1, .int (bI x1))]) hx hb dX2_encode_72 rfl hl (by decide) rfl (fun ls hl => ?_)
    refine lv_lload_n hx hb dX2_encode_73 rfl (lv_at hl 0 rfl) ?_
    refine lv_iload_n hx hb dX2_encode_74 rfl (lv_at hl 1 rfl) ?_
    obtain ⟨q12, e13, hf⟩ := tbd hf
    refine kSi0 (As := [.int (x0 / (1440 : Int32))]) (rest := [.long (((((1048576 : Int64) ||| (jshl q2 (21 : Int32))) ||| (jshl q4 (29 : Int32))) ||| (jshl q8 (36 : Int32))) ||| (jshl q10.toInt64 (42 : Int32)))]) hC (c_X1_monthOf (G := G) e13) kq3_178 kc_X1_monthOf (by decide) hP hK hD hE hS hA hl.1 (Nat.le_of_ble_eq_true rfl) ⟨Nat.zero_le _, Nat.zero_le _⟩ dX2_encode_75 (fun r9 u9 H locs hw hP hD hS => ?_)
    obtain ⟨rfl, rfl⟩ := hw
    obtain ⟨q14, e15, hf⟩ := tbd hf
    refine kSl0 (As := [.int q12]) (rest := [.long (((((1048576 : Int64) ||| (jshl q2 (21 : Int32))) ||| (jshl q4 (29 : Int32))) ||| (jshl q8 (36 : Int32))) ||| (jshl q10.toInt64 (42 : Int32)))]) hC (c_X2_twoDigits (G := G) e15) kq3_165 kc_X2_twoDigits (by decide) hP hK hD hE hS hA hl.1 (Nat.le_of_ble_eq_true rfl) ⟨Nat.zero_le _, Nat.zero_le _⟩ dX2_encode_78 (fun r9 u9 H locs hw hP hD hS => ?_)
    obtain ⟨rfl, rfl⟩ := hw
    refine lv_bipush (v := (45 : Int32)) hx hb dX2_encode_81 (by decide) ?_
    refine lv_lshl (v := (jshl q14 (45 : Int32))) hx hb dX2_encode_83 rfl ?_
    refine lv_lor hx hb dX2_encode_84 ?_
    refine lv_lstore_n (lv' := [(3, .long ((((((1048576 : Int64) ||| (jshl q2 (21 : Int32))) ||| (jshl q4 (29 : Int32))) ||| (jshl q8 (36 : Int32))) ||| (jshl q10.toInt64 (42 : Int32))) ||| (jshl q14 (45 : Int32)))), (2, .int (x0 / (1440 : Int32))), (0, .int x0), (1, .int (bI x1))]) hx hb dX2_encode_85 rfl hl (by decide) rfl (fun ls hl => ?_)
    refine lv_lload_n hx hb dX2_encode_86 rfl (lv_at hl 0 rfl) ?_
    refine lv_iload_n hx hb dX2_encode_87 rfl (lv_at hl 1 rfl) ?_
    obtain ⟨q16, e17, hf⟩ := tbd hf
    refine kSi0 (As := [.int (x0 / (1440 : Int32))]) (rest := [.long ((((((1048576 : Int64) ||| (jshl q2 (21 : Int32))) ||| (jshl q4 (29 : Int32))) ||| (jshl q8 (36 : Int32))) ||| (jshl q10.toInt64 (42 : Int32))) ||| (jshl q14 (45 : Int32)))]) hC (c_X1_yearOf (G := G) e17) kq3_179 kc_X1_yearOf (by decide) hP hK hD hE hS hA hl.1 (Nat.le_of_ble_eq_true rfl) ⟨Nat.zero_le _, Nat.zero_le _⟩ dX2_encode_88 (fun r9 u9 H locs hw hP hD hS => ?_)
    obtain ⟨rfl, rfl⟩ := hw
    obtain ⟨q18, e19, hf⟩ := tbd hf
    refine kSl0 (As := [.int q16]) (rest := [.long ((((((1048576 : Int64) ||| (jshl q2 (21 : Int32))) ||| (jshl q4 (29 : Int32))) ||| (jshl q8 (36 : Int32))) ||| (jshl q10.toInt64 (42 : Int32))) ||| (jshl q14 (45 : Int32)))]) hC (c_X2_twoDigits (G := G) e19) kq3_165 kc_X2_twoDigits (by decide) hP hK hD hE hS hA hl.1 (Nat.le_of_ble_eq_true rfl) ⟨Nat.zero_le _, Nat.zero_le _⟩ dX2_encode_91 (fun r9 u9 H locs hw hP hD hS => ?_)
    obtain ⟨rfl, rfl⟩ := hw
    refine lv_bipush (v := (50 : Int32)) hx hb dX2_encode_94 (by decide) ?_
    refine lv_lshl (v := (jshl q18 (50 : Int32))) hx hb dX2_encode_96 rfl ?_
    refine lv_lor hx hb dX2_encode_97 ?_
    refine lv_lstore_n (lv' := [(3, .long (((((((1048576 : Int64) ||| (jshl q2 (21 : Int32))) ||| (jshl q4 (29 : Int32))) ||| (jshl q8 (36 : Int32))) ||| (jshl q10.toInt64 (42 : Int32))) ||| (jshl q14 (45 : Int32))) ||| (jshl q18 (50 : Int32)))), (2, .int (x0 / (1440 : Int32))), (0, .int x0), (1, .int (bI x1))]) hx hb dX2_encode_98 rfl hl (by decide) rfl (fun ls hl => ?_)
    refine lv_iconst (v := (0 : Int32)) hx hb dX2_encode_99 (by decide) ?_
    refine lv_istore (lv' := [(5, .int (0 : Int32)), (3, .long (((((((1048576 : Int64) ||| (jshl q2 (21 : Int32))) ||| (jshl q4 (29 : Int32))) ||| (jshl q8 (36 : Int32))) ||| (jshl q10.toInt64 (42 : Int32))) ||| (jshl q14 (45 : Int32))) ||| (jshl q18 (50 : Int32)))), (2, .int (x0 / (1440 : Int32))), (0, .int x0), (1, .int (bI x1))]) hx hb dX2_encode_100 hl (by decide) rfl (fun ls hl => ?_)
    exact lp_102 N _ _ _ hf _ _ _ hP hD hS (lv_sub hl [3, 4, 2, 1, 0] rfl)
  · have hf := tp hf c1
    refine lv_lload_n hx hb dX2_encode_14 rfl (lv_at hl 0 rfl) ?_
    refine lv_ldc2 hx hb hown (hg _ kq3_164) dX2_encode_15 ?_
    refine lv_lor hx hb dX2_encode_18 ?_
    refine lv_lstore_n (lv' := [(3, .long ((1048576 : Int64) ||| (524288 : Int64))), (2, .int (x0 / (1440 : Int32))), (0, .int x0), (1, .int (bI x1))]) hx hb dX2_encode_19 rfl hl (by decide) rfl (fun ls hl => ?_)
    refine lv_lload_n hx hb dX2_encode_20 rfl (lv_at hl 0 rfl) ?_
    refine lv_iload_n hx hb dX2_encode_21 rfl (lv_at hl 2 rfl) ?_
    refine lv_bipush (v := (60 : Int32)) hx hb dX2_encode_22 (by decide) ?_
    refine lv_irem hx hb dX2_encode_24 (by decide) ?_
    obtain ⟨q25, e26, hf⟩ := tbd hf
    refine kSl0 (As := [.int (x0 - x0 / (60 : Int32) * (60 : Int32))]) (rest := [.long ((1048576 : Int64) ||| (524288 : Int64))]) hC (c_X2_twoDigits (G := G) e26) kq3_165 kc_X2_twoDigits (by decide) hP hK hD hE hS hA hl.1 (Nat.le_of_ble_eq_true rfl) ⟨Nat.zero_le _, Nat.zero_le _⟩ dX2_encode_25 (fun r9 u9 H locs hw hP hD hS => ?_)
    obtain ⟨rfl, rfl⟩ := hw
    refine lv_bipush (v := (21 : Int32)) hx hb dX2_encode_28 (by decide) ?_
    refine lv_lshl (v := (jshl q25 (21 : Int32))) hx hb dX2_encode_30 rfl ?_
    refine lv_lor hx hb dX2_encode_31 ?_
    refine lv_lstore_n (lv' := [(3, .long (((1048576 : Int64) ||| (524288 : Int64)) ||| (jshl q25 (21 : Int32)))), (2, .int (x0 / (1440 : Int32))), (0, .int x0), (1, .int (bI x1))]) hx hb dX2_encode_32 rfl hl (by decide) rfl (fun ls hl => ?_)
    refine lv_lload_n hx hb dX2_encode_33 rfl (lv_at hl 0 rfl) ?_
    refine lv_iload_n hx hb dX2_encode_34 rfl (lv_at hl 2 rfl) ?_
    refine lv_bipush (v := (60 : Int32)) hx hb dX2_encode_35 (by decide) ?_
    refine lv_idiv hx hb dX2_encode_37 (by decide) ?_
    refine lv_bipush (v := (24 : Int32)) hx hb dX2_encode_38 (by decide) ?_
    refine lv_irem hx hb dX2_encode_40 (by decide) ?_
    obtain ⟨q27, e28, hf⟩ := tbd hf
    refine kSl0 (As := [.int ((x0 / (60 : Int32)) - (x0 / (60 : Int32)) / (24 : Int32) * (24 : Int32))]) (rest := [.long (((1048576 : Int64) ||| (524288 : Int64)) ||| (jshl q25 (21 : Int32)))]) hC (c_X2_twoDigits (G := G) e28) kq3_165 kc_X2_twoDigits (by decide) hP hK hD hE hS hA hl.1 (Nat.le_of_ble_eq_true rfl) ⟨Nat.zero_le _, Nat.zero_le _⟩ dX2_encode_41 (fun r9 u9 H locs hw hP hD hS => ?_)
    obtain ⟨rfl, rfl⟩ := hw
    refine lv_bipush (v := (29 : Int32)) hx hb dX2_encode_44 (by decide) ?_
    refine lv_lshl (v := (jshl q27 (29 : Int32))) hx hb dX2_encode_46 rfl ?_
    refine lv_lor hx hb dX2_encode_47 ?_
    refine lv_lstore_n (lv' := [(3, .long ((((1048576 : Int64) ||| (524288 : Int64)) ||| (jshl q25 (21 : Int32))) ||| (jshl q27 (29 : Int32)))), (2, .int (x0 / (1440 : Int32))), (0, .int x0), (1, .int (bI x1))]) hx hb dX2_encode_48 rfl hl (by decide) rfl (fun ls hl => ?_)
    refine lv_lload_n hx hb dX2_encode_49 rfl (lv_at hl 0 rfl) ?_
    refine lv_iload_n hx hb dX2_encode_50 rfl (lv_at hl 1 rfl) ?_
    obtain ⟨q29, e30, hf⟩ := tbd hf
    refine kSi0 (As := [.int (x0 / (1440 : Int32))]) (rest := [.long ((((1048576 : Int64) ||| (524288 : Int64)) ||| (jshl q25 (21 : Int32))) ||| (jshl q27 (29 : Int32)))]) hC (c_X1_dayOfMonth (G := G) e30) kq3_168 kc_X1_dayOfMonth (by decide) hP hK hD hE hS hA hl.1 (Nat.le_of_ble_eq_true rfl) ⟨Nat.zero_le _, Nat.zero_le _⟩ dX2_encode_51 (fun r9 u9 H locs hw hP hD hS => ?_)
    obtain ⟨rfl, rfl⟩ := hw
    obtain ⟨q31, e32, hf⟩ := tbd hf
    refine kSl0 (As := [.int q29]) (rest := [.long ((((1048576 : Int64) ||| (524288 : Int64)) ||| (jshl q25 (21 : Int32))) ||| (jshl q27 (29 : Int32)))]) hC (c_X2_twoDigits (G := G) e32) kq3_165 kc_X2_twoDigits (by decide) hP hK hD hE hS hA hl.1 (Nat.le_of_ble_eq_true rfl) ⟨Nat.zero_le _, Nat.zero_le _⟩ dX2_encode_54 (fun r9 u9 H locs hw hP hD hS => ?_)
    obtain ⟨rfl, rfl⟩ := hw
    refine lv_bipush (v := (36 : Int32)) hx hb dX2_encode_57 (by decide) ?_
    refine lv_lshl (v := (jshl q31 (36 : Int32))) hx hb dX2_encode_59 rfl ?_
    refine lv_lor hx hb dX2_encode_60 ?_
    refine lv_lstore_n (lv' := [(3, .long (((((1048576 : Int64) ||| (524288 : Int64)) ||| (jshl q25 (21 : Int32))) ||| (jshl q27 (29 : Int32))) ||| (jshl q31 (36 : Int32)))), (2, .int (x0 / (1440 : Int32))), (0, .int x0), (1, .int (bI x1))]) hx hb dX2_encode_61 rfl hl (by decide) rfl (fun ls hl => ?_)
    refine lv_lload_n hx hb dX2_encode_62 rfl (lv_at hl 0 rfl) ?_
    refine lv_iload_n hx hb dX2_encode_63 rfl (lv_at hl 1 rfl) ?_
    obtain ⟨q33, e34, hf⟩ := tbd hf
    refine kSi0 (As := [.int (x0 / (1440 : Int32))]) (rest := [.long (((((1048576 : Int64) ||| (524288 : Int64)) ||| (jshl q25 (21 : Int32))) ||| (jshl q27 (29 : Int32))) ||| (jshl q31 (36 : Int32)))]) hC (c_X1_weekdayOf (G := G) e34) kq2_54 kc_X1_weekdayOf (by decide) hP hK hD hE hS hA hl.1 (Nat.le_of_ble_eq_true rfl) ⟨Nat.zero_le _, Nat.zero_le _⟩ dX2_encode_64 (fun r9 u9 H locs hw hP hD hS => ?_)
    obtain ⟨rfl, rfl⟩ := hw
    refine lv_i2l (v := q33.toInt64) hx hb dX2_encode_67 rfl ?_
    refine lv_bipush (v := (42 : Int32)) hx hb dX2_encode_68 (by decide) ?_
    refine lv_lshl (v := (jshl q33.toInt64 (42 : Int32))) hx hb dX2_encode_70 rfl ?_
    refine lv_lor hx hb dX2_encode_71 ?_
    refine lv_lstore_n (lv' := [(3, .long ((((((1048576 : Int64) ||| (524288 : Int64)) ||| (jshl q25 (21 : Int32))) ||| (jshl q27 (29 : Int32))) ||| (jshl q31 (36 : Int32))) ||| (jshl q33.toInt64 (42 : Int32)))), (2, .int (x0 / (1440 : Int32))), (0, .int x0), (1, .int (bI x1))]) hx hb dX2_encode_72 rfl hl (by decide) rfl (fun ls hl => ?_)
    refine lv_lload_n hx hb dX2_encode_73 rfl (lv_at hl 0 rfl) ?_
    refine lv_iload_n hx hb dX2_encode_74 rfl (lv_at hl 1 rfl) ?_
    obtain ⟨q35, e36, hf⟩ := tbd hf
    refine kSi0 (As := [.int (x0 / (1440 : Int32))]) (rest := [.long ((((((1048576 : Int64) ||| (524288 : Int64)) ||| (jshl q25 (21 : Int32))) ||| (jshl q27 (29 : Int32))) ||| (jshl q31 (36 : Int32))) ||| (jshl q33.toInt64 (42 : Int32)))]) hC (c_X1_monthOf (G := G) e36) kq3_178 kc_X1_monthOf (by decide) hP hK hD hE hS hA hl.1 (Nat.le_of_ble_eq_true rfl) ⟨Nat.zero_le _, Nat.zero_le _⟩ dX2_encode_75 (fun r9 u9 H locs hw hP hD hS => ?_)
    obtain ⟨rfl, rfl⟩ := hw
    obtain ⟨q37, e38, hf⟩ := tbd hf
    refine kSl0 (As := [.int q35]) (rest := [.long ((((((1048576 : Int64) ||| (524288 : Int64)) ||| (jshl q25 (21 : Int32))) ||| (jshl q27 (29 : Int32))) ||| (jshl q31 (36 : Int32))) ||| (jshl q33.toInt64 (42 : Int32)))]) hC (c_X2_twoDigits (G := G) e38) kq3_165 kc_X2_twoDigits (by decide) hP hK hD hE hS hA hl.1 (Nat.le_of_ble_eq_true rfl) ⟨Nat.zero_le _, Nat.zero_le _⟩ dX2_encode_78 (fun r9 u9 H locs hw hP hD hS => ?_)
    obtain ⟨rfl, rfl⟩ := hw
    refine lv_bipush (v := (45 : Int32)) hx hb dX2_encode_81 (by decide) ?_
    refine lv_lshl (v := (jshl q37 (45 : Int32))) hx hb dX2_encode_83 rfl ?_
    refine lv_lor hx hb dX2_encode_84 ?_
    refine lv_lstore_n (lv' := [(3, .long (((((((1048576 : Int64) ||| (524288 : Int64)) ||| (jshl q25 (21 : Int32))) ||| (jshl q27 (29 : Int32))) ||| (jshl q31 (36 : Int32))) ||| (jshl q33.toInt64 (42 : Int32))) ||| (jshl q37 (45 : Int32)))), (2, .int (x0 / (1440 : Int32))), (0, .int x0), (1, .int (bI x1))]) hx hb dX2_encode_85 rfl hl (by decide) rfl (fun ls hl => ?_)
    refine lv_lload_n hx hb dX2_encode_86 rfl (lv_at hl 0 rfl) ?_
    refine lv_iload_n hx hb dX2_encode_87 rfl (lv_at hl 1 rfl) ?_
    obtain ⟨q39, e40, hf⟩ := tbd hf
    refine kSi0 (As := [.int (x0 / (1440 : Int32))]) (rest := [.long (((((((1048576 : Int64) ||| (524288 : Int64)) ||| (jshl q25 (21 : Int32))) ||| (jshl q27 (29 : Int32))) ||| (jshl q31 (36 : Int32))) ||| (jshl q33.toInt64 (42 : Int32))) ||| (jshl q37 (45 : Int32)))]) hC (c_X1_yearOf (G := G) e40) kq3_179 kc_X1_yearOf (by decide) hP hK hD hE hS hA hl.1 (Nat.le_of_ble_eq_true rfl) ⟨Nat.zero_le _, Nat.zero_le _⟩ dX2_encode_88 (fun r9 u9 H locs hw hP hD hS => ?_)
    obtain ⟨rfl, rfl⟩ := hw
    obtain ⟨q41, e42, hf⟩ := tbd hf
    refine kSl0 (As := [.int q39]) (rest := [.long (((((((1048576 : Int64) ||| (524288 : Int64)) ||| (jshl q25 (21 : Int32))) ||| (jshl q27 (29 : Int32))) ||| (jshl q31 (36 : Int32))) ||| (jshl q33.toInt64 (42 : Int32))) ||| (jshl q37 (45 : Int32)))]) hC (c_X2_twoDigits (G := G) e42) kq3_165 kc_X2_twoDigits (by decide) hP hK hD hE hS hA hl.1 (Nat.le_of_ble_eq_true rfl) ⟨Nat.zero_le _, Nat.zero_le _⟩ dX2_encode_91 (fun r9 u9 H locs hw hP hD hS => ?_)
    obtain ⟨rfl, rfl⟩ := hw
    refine lv_bipush (v := (50 : Int32)) hx hb dX2_encode_94 (by decide) ?_
    refine lv_lshl (v := (jshl q41 (50 : Int32))) hx hb dX2_encode_96 rfl ?_
    refine lv_lor hx hb dX2_encode_97 ?_
    refine lv_lstore_n (lv' := [(3, .long ((((((((1048576 : Int64) ||| (524288 : Int64)) ||| (jshl q25 (21 : Int32))) ||| (jshl q27 (29 : Int32))) ||| (jshl q31 (36 : Int32))) ||| (jshl q33.toInt64 (42 : Int32))) ||| (jshl q37 (45 : Int32))) ||| (jshl q41 (50 : Int32)))), (2, .int (x0 / (1440 : Int32))), (0, .int x0), (1, .int (bI x1))]) hx hb dX2_encode_98 rfl hl (by decide) rfl (fun ls hl => ?_)
    refine lv_iconst (v := (0 : Int32)) hx hb dX2_encode_99 (by decide) ?_
    refine lv_istore (lv' := [(5, .int (0 : Int32)), (3, .long ((((((((1048576 : Int64) ||| (524288 : Int64)) ||| (jshl q25 (21 : Int32))) ||| (jshl q27 (29 : Int32))) ||| (jshl q31 (36 : Int32))) ||| (jshl q33.toInt64 (42 : Int32))) ||| (jshl q37 (45 : Int32))) ||| (jshl q41 (50 : Int32)))), (2, .int (x0 / (1440 : Int32))), (0, .int x0), (1, .int (bI x1))]) hx hb dX2_encode_100 hl (by decide) rfl (fun ls hl => ?_)
    exact lp_102 N _ _ _ hf _ _ _ hP hD hS (lv_sub hl [3, 4, 2, 1, 0] rfl)
set_option maxRecDepth 100000 in
set_option maxHeartbeats 4000000 in
theorem c_X2_bitOf {l : Launch} {G : Gp} {sz N : Nat} {x0 : Int64} {x2 : Int64} {x4 : Int32} {q : Int32} (hf : f_X2_bitOf N x0 x2 x4 = some q) : Met l yX2_bitOf (Cond.code yX2_bitOf cX2_bitOf 5 (some .int) :: lw_g) ({ frames := 0, cells := 0, slots := 0, locals := 0 } : Room) (va_Pc [.long x0, .long x2, .int x4] (pw G [] sz)) (va_Qi (fun (r : Int32) (v : Unit) => q = r ∧ () = v) (bw G (fun _ : Unit => ([] : va_W)) (va_A [] sz)) (va_A [] sz)) 0 0 (va_A [] sz) := by
  refine mt (Qc := (fun A => va_Qi (fun (r : Int32) (v : Unit) => q = r ∧ () = v) (bw G (fun _ : Unit => ([] : va_W)) A) A)) (by decide) (Nat.le_of_ble_eq_true rfl) ?_
  intro p e s m below meth c A ls hx hb hr hlk hml hts hown hA hP hK hD hE hS hl
  have hown : s.vm.findClass RX2 = some m.cls := hown
  have hg : ∀ w ∈ lw_g, w.before ([.long x0, .long x2, .int x4] : List Value).toArray s = true := fun w h => hts w (List.mem_cons_of_mem _ h)
  have hC : CallFix p m c cX2_bitOf 5 s ([.long x0, .long x2, .int x4] : List Value).toArray (Cond.code yX2_bitOf cX2_bitOf 5 (some .int) :: lw_g) RX2 := ⟨hx, hb, hml, hown, hts⟩
  have hl : lv_has ls 5 [(0, .long x0), (2, .long x2), (4, .int x4)] := hl
  rw [f_X2_bitOf] at hf
  refine lv_lload_n hx hb dX2_bitOf_0 rfl (lv_at hl 1 rfl) ?_
  refine lv_iload hx hb dX2_bitOf_1 (lv_at hl 2 rfl) ?_
  refine lv_lushr (v := (jushr x2 x4)) hx hb dX2_bitOf_3 rfl ?_
  refine lv_lconst (v := (1 : Int64)) hx hb dX2_bitOf_4 (by decide) ?_
  refine lv_land hx hb dX2_bitOf_5 ?_
  refine lv_lconst (v := (0 : Int64)) hx hb dX2_bitOf_6 (by decide) ?_
  refine lc_eq (tgt := 15) hx hb dX2_bitOf_7 dX2_bitOf_8 (by decide) (fun c1 => ?_) (fun c1 => ?_)
  · have hf := tp hf c1
    refine lv_lload_n hx hb dX2_bitOf_15 rfl (lv_at hl 0 rfl) ?_
    refine lv_iload hx hb dX2_bitOf_16 (lv_at hl 2 rfl) ?_
    refine lv_lushr (v := (jushr x0 x4)) hx hb dX2_bitOf_18 rfl ?_
    refine lv_lconst (v := (1 : Int64)) hx hb dX2_bitOf_19 (by decide) ?_
    refine lv_land hx hb dX2_bitOf_20 ?_
    refine lv_l2i (v := ((jushr x0 x4) &&& (1 : Int64)).toInt32) hx hb dX2_bitOf_21 rfl ?_
    have hf := Option.some.inj hf
    subst hf
    exact e_i (wf := (fun _ : Unit => ([] : va_W))) hx hb hr hlk () ⟨rfl, rfl⟩ hP hK hD hS dX2_bitOf_22
  · have hf := tn hf c1
    refine lv_iconst (v := (2 : Int32)) hx hb dX2_bitOf_11 (by decide) ?_
    refine lv_goto (tgt := 22) hx hb dX2_bitOf_12 (by decide) ?_
    have hf := Option.some.inj hf
    subst hf
    exact e_i (wf := (fun _ : Unit => ([] : va_W))) hx hb hr hlk () ⟨rfl, rfl⟩ hP hK hD hS dX2_bitOf_22
set_option maxRecDepth 100000 in
set_option maxHeartbeats 4000000 in
theorem c_X2_numberAt {l : Launch} {G : Gp} {sz N : Nat} {x0 : Int64} {x2 : Int32} {x3 : Int32} {q : Int32} (hf : f_X2_numberAt N x0 x2 x3 = some q) : Met l yX2_numberAt (Cond.code yX2_numberAt cX2_numberAt 6 (some .int) :: lw_g) ({ frames := 0, cells := 0, slots := 0, locals := 0 } : Room) (va_Pc [.long x0, .int x2, .int x3] (pw G [] sz)) (va_Qi (fun (r : Int32) (v : Unit) => q = r ∧ () = v) (bw G (fun _ : Unit => ([] : va_W)) (va_A [] sz)) (va_A [] sz)) 0 0 (va_A [] sz) := by
  refine mt (Qc := (fun A => va_Qi (fun (r : Int32) (v : Unit) => q = r ∧ () = v) (bw G (fun _ : Unit => ([] : va_W)) A) A)) (by decide) (Nat.le_of_ble_eq_true rfl) ?_
  intro p e s m below meth c A ls hx hb hr hlk hml hts hown hA hP hK hD hE hS hl
  have hown : s.vm.findClass RX2 = some m.cls := hown
  have hg : ∀ w ∈ lw_g, w.before ([.long x0, .int x2, .int x3] : List Value).toArray s = true := fun w h => hts w (List.mem_cons_of_mem _ h)
  have hC : CallFix p m c cX2_numberAt 6 s ([.long x0, .int x2, .int x3] : List Value).toArray (Cond.code yX2_numberAt cX2_numberAt 6 (some .int) :: lw_g) RX2 := ⟨hx, hb, hml, hown, hts⟩
  have hl : lv_has ls 6 [(0, .long x0), (2, .int x2), (3, .int x3)] := hl
  rw [f_X2_numberAt] at hf
  refine lv_lload_n hx hb dX2_numberAt_0 rfl (lv_at hl 0 rfl) ?_
  refine lv_iload_n hx hb dX2_numberAt_1 rfl (lv_at hl 1 rfl) ?_
  refine lv_lushr (v := (jushr x0 x2)) hx hb dX2_numberAt_2 rfl ?_
  refine lv_l2i (v := (jushr x0 x2).toInt32) hx hb dX2_numberAt_3 rfl ?_
  refine lv_bipush (v := (15 : Int32)) hx hb dX2_numberAt_4 (by decide) ?_
  refine lv_iand hx hb dX2_numberAt_6 ?_
  refine lv_istore (lv' := [(4, .int ((jushr x0 x2).toInt32 &&& (15 : Int32))), (0, .long x0), (2, .int x2), (3, .int x3)]) hx hb dX2_numberAt_7 hl (by decide) rfl (fun ls hl => ?_)
  refine lv_lload_n hx hb dX2_numberAt_9 rfl (lv_at hl 1 rfl) ?_
  refine lv_iload_n hx hb dX2_numberAt_10 rfl (lv_at hl 2 rfl) ?_
  refine lv_iconst (v := (4 : Int32)) hx hb dX2_numberAt_11 (by decide) ?_
  refine lv_iadd hx hb dX2_numberAt_12 ?_
  refine lv_lushr (v := (jushr x0 (x2 + (4 : Int32)))) hx hb dX2_numberAt_13 rfl ?_
  refine lv_l2i (v := (jushr x0 (x2 + (4 : Int32))).toInt32) hx hb dX2_numberAt_14 rfl ?_
  refine lv_iconst (v := (1 : Int32)) hx hb dX2_numberAt_15 (by decide) ?_
  refine lv_iload_n hx hb dX2_numberAt_16 rfl (lv_at hl 3 rfl) ?_
  refine lv_ishl hx hb dX2_numberAt_17 ?_
  refine lv_iconst (v := (1 : Int32)) hx hb dX2_numberAt_18 (by decide) ?_
  refine lv_isub hx hb dX2_numberAt_19 ?_
  refine lv_iand hx hb dX2_numberAt_20 ?_
  refine lv_istore (lv' := [(5, .int ((jushr x0 (x2 + (4 : Int32))).toInt32 &&& (((1 : Int32) <<< (x3 &&& 31)) - (1 : Int32)))), (4, .int ((jushr x0 x2).toInt32 &&& (15 : Int32))), (0, .long x0), (2, .int x2), (3, .int x3)]) hx hb dX2_numberAt_21 hl (by decide) rfl (fun ls hl => ?_)
  refine lv_iload hx hb dX2_numberAt_23 (lv_at hl 1 rfl) ?_
  refine lv_bipush (v := (9 : Int32)) hx hb dX2_numberAt_25 (by decide) ?_
  refine lv_icmp_gt (tgt := 37) hx hb dX2_numberAt_27 (by decide) (fun c1 => ?_) (fun c1 => ?_)
  · have hf := tp hf c1
    refine lv_iconst (v := (-1 : Int32)) hx hb dX2_numberAt_37 (by decide) ?_
    refine lv_goto (tgt := 49) hx hb dX2_numberAt_38 (by decide) ?_
    have hf := Option.some.inj hf
    subst hf
    exact e_i (wf := (fun _ : Unit => ([] : va_W))) hx hb hr hlk () ⟨rfl, rfl⟩ hP hK hD hS dX2_numberAt_49
  · have hf := tn hf c1
    refine lv_iload hx hb dX2_numberAt_30 (lv_at hl 0 rfl) ?_
    refine lv_bipush (v := (9 : Int32)) hx hb dX2_numberAt_32 (by decide) ?_
    refine lv_icmp_le (tgt := 41) hx hb dX2_numberAt_34 (by decide) (fun c2 => ?_) (fun c2 => ?_)
    · have hf := tp hf c2
      refine lv_bipush (v := (10 : Int32)) hx hb dX2_numberAt_41 (by decide) ?_
      refine lv_iload hx hb dX2_numberAt_43 (lv_at hl 0 rfl) ?_
      refine lv_imul hx hb dX2_numberAt_45 ?_
      refine lv_iload hx hb dX2_numberAt_46 (lv_at hl 1 rfl) ?_
      refine lv_iadd hx hb dX2_numberAt_48 ?_
      have hf := Option.some.inj hf
      subst hf
      exact e_i (wf := (fun _ : Unit => ([] : va_W))) hx hb hr hlk () ⟨rfl, rfl⟩ hP hK hD hS dX2_numberAt_49
    · have hf := tn hf c2
      refine lv_iconst (v := (-1 : Int32)) hx hb dX2_numberAt_37 (by decide) ?_
      refine lv_goto (tgt := 49) hx hb dX2_numberAt_38 (by decide) ?_
      have hf := Option.some.inj hf
      subst hf
      exact e_i (wf := (fun _ : Unit => ([] : va_W))) hx hb hr hlk () ⟨rfl, rfl⟩ hP hK hD hS dX2_numberAt_49
set_option maxRecDepth 100000 in
set_option maxHeartbeats 4000000 in
theorem c_X2_minuteIn {l : Launch} {G : Gp} {sz N : Nat} {x0 : Int64} {q : Int32} (hf : f_X2_minuteIn N x0 = some q) : Met l yX2_minuteIn (Cond.code yX2_minuteIn cX2_minuteIn 3 (some .int) :: lw_g) ({ frames := 1, cells := 0, slots := 0, locals := 25 } : Room) (va_Pc [.long x0] (pw G [] sz)) (va_Qi (fun (r : Int32) (v : Unit) => q = r ∧ () = v) (bw G (fun _ : Unit => ([] : va_W)) (va_A [] sz)) (va_A [] sz)) 0 0 (va_A [] sz) := by
  refine mt (Qc := (fun A => va_Qi (fun (r : Int32) (v : Unit) => q = r ∧ () = v) (bw G (fun _ : Unit => ([] : va_W)) A) A)) (by decide) (Nat.le_of_ble_eq_true rfl) ?_
  intro p e s m below meth c A ls hx hb hr hlk hml hts hown hA hP hK hD hE hS hl
  have hown : s.vm.findClass RX2 = some m.cls := hown
  have hg : ∀ w ∈ lw_g, w.before ([.long x0] : List Value).toArray s = true := fun w h => hts w (List.mem_cons_of_mem _ h)
  have hC : CallFix p m c cX2_minuteIn 3 s ([.long x0] : List Value).toArray (Cond.code yX2_minuteIn cX2_minuteIn 3 (some .int) :: lw_g) RX2 := ⟨hx, hb, hml, hown, hts⟩
  have hl : lv_has ls 3 [(0, .long x0)] := hl
  rw [f_X2_minuteIn] at hf
  refine lv_lload_n hx hb dX2_minuteIn_0 rfl (lv_at hl 0 rfl) ?_
  refine lv_bipush (v := (21 : Int32)) hx hb dX2_minuteIn_1 (by decide) ?_
  refine lv_iconst (v := (3 : Int32)) hx hb dX2_minuteIn_3 (by decide) ?_
  obtain ⟨q1, e2, hf⟩ := tbd hf
  refine kSi0 (As := [.long x0, .int (21 : Int32), .int (3 : Int32)]) (rest := []) hC (c_X2_numberAt (G := G) e2) kq2_37 kc_X2_numberAt (by decide) hP hK hD hE hS hA hl.1 (Nat.le_of_ble_eq_true rfl) ⟨Nat.zero_le _, Nat.zero_le _⟩ dX2_minuteIn_4 (fun r9 u9 H locs hw hP hD hS => ?_)
  obtain ⟨rfl, rfl⟩ := hw
  refine lv_istore_n (lv' := [(2, .int q1), (0, .long x0)]) hx hb dX2_minuteIn_7 rfl hl (by decide) rfl (fun ls hl => ?_)
  refine lv_iload_n hx hb dX2_minuteIn_8 rfl (lv_at hl 0 rfl) ?_
  refine lv_bipush (v := (59 : Int32)) hx hb dX2_minuteIn_9 (by decide) ?_
  refine lv_icmp_le (tgt := 18) hx hb dX2_minuteIn_11 (by decide) (fun c3 => ?_) (fun c3 => ?_)
  · have hf := tp hf c3
    refine lv_iload_n hx hb dX2_minuteIn_18 rfl (lv_at hl 0 rfl) ?_
    have hf := Option.some.inj hf
    subst hf
    exact e_i (wf := (fun _ : Unit => ([] : va_W))) hx hb hr hlk () ⟨rfl, rfl⟩ hP hK hD hS dX2_minuteIn_19
  · have hf := tn hf c3
    refine lv_iconst (v := (-1 : Int32)) hx hb dX2_minuteIn_14 (by decide) ?_
    refine lv_goto (tgt := 19) hx hb dX2_minuteIn_15 (by decide) ?_
    have hf := Option.some.inj hf
    subst hf
    exact e_i (wf := (fun _ : Unit => ([] : va_W))) hx hb hr hlk () ⟨rfl, rfl⟩ hP hK hD hS dX2_minuteIn_19
set_option maxRecDepth 100000 in
set_option maxHeartbeats 4000000 in
theorem c_X2_hourIn {l : Launch} {G : Gp} {sz N : Nat} {x0 : Int64} {q : Int32} (hf : f_X2_hourIn N x0 = some q) : Met l yX2_hourIn (Cond.code yX2_hourIn cX2_hourIn 3 (some .int) :: lw_g) ({ frames := 1, cells := 0, slots := 0, locals := 25 } : Room) (va_Pc [.long x0] (pw G [] sz)) (va_Qi (fun (r : Int32) (v : Unit) => q = r ∧ () = v) (bw G (fun _ : Unit => ([] : va_W)) (va_A [] sz)) (va_A [] sz)) 0 0 (va_A [] sz) := by
  refine mt (Qc := (fun A => va_Qi (fun (r : Int32) (v : Unit) => q = r ∧ () = v) (bw G (fun _ : Unit => ([] : va_W)) A) A)) (by decide) (Nat.le_of_ble_eq_true rfl) ?_
  intro p e s m below meth c A ls hx hb hr hlk hml hts hown hA hP hK hD hE hS hl
  have hown : s.vm.findClass RX2 = some m.cls := hown
  have hg : ∀ w ∈ lw_g, w.before ([.long x0] : List Value).toArray s = true := fun w h => hts w (List.mem_cons_of_mem _ h)
  have hC : CallFix p m c cX2_hourIn 3 s ([.long x0] : List Value).toArray (Cond.code yX2_hourIn cX2_hourIn 3 (some .int) :: lw_g) RX2 := ⟨hx, hb, hml, hown, hts⟩
  have hl : lv_has ls 3 [(0, .long x0)] := hl
  rw [f_X2_hourIn] at hf
  refine lv_lload_n hx hb dX2_hourIn_0 rfl (lv_at hl 0 rfl) ?_
  refine lv_bipush (v := (29 : Int32)) hx hb dX2_hourIn_1 (by decide) ?_
  refine lv_iconst (v := (2 : Int32)) hx hb dX2_hourIn_3 (by decide) ?_
  obtain ⟨q1, e2, hf⟩ := tbd hf
  refine kSi0 (As := [.long x0, .int (29 : Int32), .int (2 : Int32)]) (rest := []) hC (c_X2_numberAt (G := G) e2) kq2_37 kc_X2_numberAt (by decide) hP hK hD hE hS hA hl.1 (Nat.le_of_ble_eq_true rfl) ⟨Nat.zero_le _, Nat.zero_le _⟩ dX2_hourIn_4 (fun r9 u9 H locs hw hP hD hS => ?_)
  obtain ⟨rfl, rfl⟩ := hw
  refine lv_istore_n (lv' := [(2, .int q1), (0, .long x0)]) hx hb dX2_hourIn_7 rfl hl (by decide) rfl (fun ls hl => ?_)
  refine lv_iload_n hx hb dX2_hourIn_8 rfl (lv_at hl 0 rfl) ?_
  refine lv_bipush (v := (23 : Int32)) hx hb dX2_hourIn_9 (by decide) ?_
  refine lv_icmp_le (tgt := 18) hx hb dX2_hourIn_11 (by decide) (fun c3 => ?_) (fun c3 => ?_)
  · have hf := tp hf c3
    refine lv_iload_n hx hb dX2_hourIn_18 rfl (lv_at hl 0 rfl) ?_
    have hf := Option.some.inj hf
    subst hf
    exact e_i (wf := (fun _ : Unit => ([] : va_W))) hx hb hr hlk () ⟨rfl, rfl⟩ hP hK hD hS dX2_hourIn_19
  · have hf := tn hf c3
    refine lv_iconst (v := (-1 : Int32)) hx hb dX2_hourIn_14 (by decide) ?_
    refine lv_goto (tgt := 19) hx hb dX2_hourIn_15 (by decide) ?_
    have hf := Option.some.inj hf
    subst hf
    exact e_i (wf := (fun _ : Unit => ([] : va_W))) hx hb hr hlk () ⟨rfl, rfl⟩ hP hK hD hS dX2_hourIn_19
set_option maxRecDepth 100000 in
set_option maxHeartbeats 4000000 in
theorem c_X2_dayIn {l : Launch} {G : Gp} {sz N : Nat} {x0 : Int64} {q : Int32} (hf : f_X2_dayIn N x0 = some q) : Met l yX2_dayIn (Cond.code yX2_dayIn cX2_dayIn 4 (some .int) :: lw_g) ({ frames := 1, cells := 0, slots := 0, locals := 25 } : Room) (va_Pc [.long x0] (pw G [] sz)) (va_Qi (fun (r : Int32) (v : Unit) => q = r ∧ () = v) (bw G (fun _ : Unit => ([] : va_W)) (va_A [] sz)) (va_A [] sz)) 0 0 (va_A [] sz) := by
  refine mt (Qc := (fun A => va_Qi (fun (r : Int32) (v : Unit) => q = r ∧ () = v) (bw G (fun _ : Unit => ([] : va_W)) A) A)) (by decide) (Nat.le_of_ble_eq_true rfl) ?_
  intro p e s m below meth c A ls hx hb hr hlk hml hts hown hA hP hK hD hE hS hl
  have hown : s.vm.findClass RX2 = some m.cls := hown
  have hg : ∀ w ∈ lw_g, w.before ([.long x0] : List Value).toArray s = true := fun w h => hts w (List.mem_cons_of_mem _ h)
  have hC : CallFix p m c cX2_dayIn 4 s ([.long x0] : List Value).toArray (Cond.code yX2_dayIn cX2_dayIn 4 (some .int) :: lw_g) RX2 := ⟨hx, hb, hml, hown, hts⟩
  have hl : lv_has ls 4 [(0, .long x0)] := hl
  rw [f_X2_dayIn] at hf
  refine lv_lload_n hx hb dX2_dayIn_0 rfl (lv_at hl 0 rfl) ?_
  refine lv_bipush (v := (50 : Int32)) hx hb dX2_dayIn_1 (by decide) ?_
  refine lv_iconst (v := (4 : Int32)) hx hb dX2_dayIn_3 (by decide) ?_
  obtain ⟨q1, e2, hf⟩ := tbd hf
  refine kSi0 (As := [.long x0, .int (50 : Int32), .int (4 : Int32)]) (rest := []) hC (c_X2_numberAt (G := G) e2) kq2_37 kc_X2_numberAt (by decide) hP hK hD hE hS hA hl.1 (Nat.le_of_ble_eq_true rfl) ⟨Nat.zero_le _, Nat.zero_le _⟩ dX2_dayIn_4 (fun r9 u9 H locs hw hP hD hS => ?_)
  obtain ⟨rfl, rfl⟩ := hw
  refine lv_istore_n (lv' := [(2, .int q1), (0, .long x0)]) hx hb dX2_dayIn_7 rfl hl (by decide) rfl (fun ls hl => ?_)
  refine lv_lload_n hx hb dX2_dayIn_8 rfl (lv_at hl 1 rfl) ?_
  refine lv_bipush (v := (45 : Int32)) hx hb dX2_dayIn_9 (by decide) ?_
  refine lv_iconst (v := (1 : Int32)) hx hb dX2_dayIn_11 (by decide) ?_
  obtain ⟨q3, e4, hf⟩ := tbd hf
  refine kSi0 (As := [.long x0, .int (45 : Int32), .int (1 : Int32)]) (rest := []) hC (c_X2_numberAt (G := G) e4) kq2_37 kc_X2_numberAt (by decide) hP hK hD hE hS hA hl.1 (Nat.le_of_ble_eq_true rfl) ⟨Nat.zero_le _, Nat.zero_le _⟩ dX2_dayIn_12 (fun r9 u9 H locs hw hP hD hS => ?_)
  obtain ⟨rfl, rfl⟩ := hw
  refine lv_istore_n (lv' := [(3, .int q3), (2, .int q1), (0, .long x0)]) hx hb dX2_dayIn_15 rfl hl (by decide) rfl (fun ls hl => ?_)
  refine lv_iload_n hx hb dX2_dayIn_16 rfl (lv_at hl 1 rfl) ?_
  refine lv_iload_n hx hb dX2_dayIn_17 rfl (lv_at hl 0 rfl) ?_
  refine lv_lload_n hx hb dX2_dayIn_18 rfl (lv_at hl 2 rfl) ?_
  refine lv_bipush (v := (36 : Int32)) hx hb dX2_dayIn_19 (by decide) ?_
  refine lv_iconst (v := (2 : Int32)) hx hb dX2_dayIn_21 (by decide) ?_
  obtain ⟨q5, e6, hf⟩ := tbd hf
  refine kSi0 (As := [.long x0, .int (36 : Int32), .int (2 : Int32)]) (rest := [.int q3, .int q1]) hC (c_X2_numberAt (G := G) e6) kq2_37 kc_X2_numberAt (by decide) hP hK hD hE hS hA hl.1 (Nat.le_of_ble_eq_true rfl) ⟨Nat.zero_le _, Nat.zero_le _⟩ dX2_dayIn_22 (fun r9 u9 H locs hw hP hD hS => ?_)
  obtain ⟨rfl, rfl⟩ := hw
  obtain ⟨q7, e8, hf⟩ := tbd hf
  refine kSi0 (As := [.int q1, .int q3, .int q5]) (rest := []) hC (c_X1_dayNumber (G := G) e8) kq2_46 kc_X1_dayNumber (by decide) hP hK hD hE hS hA hl.1 (Nat.le_of_ble_eq_true rfl) ⟨Nat.zero_le _, Nat.zero_le _⟩ dX2_dayIn_25 (fun r9 u9 H locs hw hP hD hS => ?_)
  obtain ⟨rfl, rfl⟩ := hw
  have hf := Option.some.inj hf
  subst hf
  exact e_i (wf := (fun _ : Unit => ([] : va_W))) hx hb hr hlk () ⟨rfl, rfl⟩ hP hK hD hS dX2_dayIn_28
set_option maxRecDepth 100000 in
set_option maxHeartbeats 4000000 in
theorem c_X2_hasWeekdayOf {l : Launch} {G : Gp} {sz N : Nat} {x0 : Int64} {x2 : Int32} {q : Bool} (hf : f_X2_hasWeekdayOf N x0 x2 = some q) : Met l yX2_hasWeekdayOf (Cond.code yX2_hasWeekdayOf cX2_hasWeekdayOf 3 (some .boolean) :: lw_g) ({ frames := 1, cells := 0, slots := 0, locals := 20 } : Room) (va_Pc [.long x0, .int x2] (pw G [] sz)) (va_Qi (fun (r : Int32) (v : Unit) => bI q = r ∧ () = v) (bw G (fun _ : Unit => ([] : va_W)) (va_A [] sz)) (va_A [] sz)) 0 0 (va_A [] sz) := by
  refine mt (Qc := (fun A => va_Qi (fun (r : Int32) (v : Unit) => bI q = r ∧ () = v) (bw G (fun _ : Unit => ([] : va_W)) A) A)) (by decide) (Nat.le_of_ble_eq_true rfl) ?_
  intro p e s m below meth c A ls hx hb hr hlk hml hts hown hA hP hK hD hE hS hl
  have hown : s.vm.findClass RX2 = some m.cls := hown
  have hg : ∀ w ∈ lw_g, w.before ([.long x0, .int x2] : List Value).toArray s = true := fun w h => hts w (List.mem_cons_of_mem _ h)
  have hC : CallFix p m c cX2_hasWeekdayOf 3 s ([.long x0, .int x2] : List Value).toArray (Cond.code yX2_hasWeekdayOf cX2_hasWeekdayOf 3 (some .boolean) :: lw_g) RX2 := ⟨hx, hb, hml, hown, hts⟩
  have hl : lv_has ls 3 [(0, .long x0), (2, .int x2)] := hl
  rw [f_X2_hasWeekdayOf] at hf
  refine lv_lload_n hx hb dX2_hasWeekdayOf_0 rfl (lv_at hl 0 rfl) ?_
  refine lv_bipush (v := (42 : Int32)) hx hb dX2_hasWeekdayOf_1 (by decide) ?_
  refine lv_lushr (v := (jushr x0 (42 : Int32))) hx hb dX2_hasWeekdayOf_3 rfl ?_
  refine lv_l2i (v := (jushr x0 (42 : Int32)).toInt32) hx hb dX2_hasWeekdayOf_4 rfl ?_
  refine lv_bipush (v := (7 : Int32)) hx hb dX2_hasWeekdayOf_5 (by decide) ?_
  refine lv_iand hx hb dX2_hasWeekdayOf_7 ?_
  refine lv_iload_n hx hb dX2_hasWeekdayOf_8 rfl (lv_at hl 1 rfl) ?_
  obtain ⟨q1, e2, hf⟩ := tbd hf
  refine kSi0 (As := [.int x2]) (rest := [.int ((jushr x0 (42 : Int32)).toInt32 &&& (7 : Int32))]) hC (c_X1_weekdayOf (G := G) e2) kq2_54 kc_X1_weekdayOf (by decide) hP hK hD hE hS hA hl.1 (Nat.le_of_ble_eq_true rfl) ⟨Nat.zero_le _, Nat.zero_le _⟩ dX2_hasWeekdayOf_9 (fun r9 u9 H locs hw hP hD hS => ?_)
  obtain ⟨rfl, rfl⟩ := hw
  refine lv_icmp_ne (tgt := 19) hx hb dX2_hasWeekdayOf_12 (by decide) (fun c3 => ?_) (fun c3 => ?_)
  · have hf := tn hf c3
    refine lv_iconst (v := (0 : Int32)) hx hb dX2_hasWeekdayOf_19 (by decide) ?_
    have hf := Option.some.inj hf
    subst hf
    exact e_z (wf := (fun _ : Unit => ([] : va_W))) hx hb hr hlk () rfl ⟨rfl, rfl⟩ hP hK hD hS dX2_hasWeekdayOf_20
  · have hf := tp hf c3
    refine lv_iconst (v := (1 : Int32)) hx hb dX2_hasWeekdayOf_15 (by decide) ?_
    refine lv_goto (tgt := 20) hx hb dX2_hasWeekdayOf_16 (by decide) ?_
    have hf := Option.some.inj hf
    subst hf
    exact e_z (wf := (fun _ : Unit => ([] : va_W))) hx hb hr hlk () rfl ⟨rfl, rfl⟩ hP hK hD hS dX2_hasWeekdayOf_20
set_option maxRecDepth 100000 in
set_option maxHeartbeats 4000000 in
theorem c_X2_faultOf {l : Launch} {G : Gp} {sz N : Nat} {x0 : Int64} {x2 : Int64} {q : Int32} (hf : f_X2_faultOf N x0 x2 = some q) : Met l yX2_faultOf (Cond.code yX2_faultOf cX2_faultOf 5 (some .int) :: lw_g) ({ frames := 2, cells := 0, slots := 0, locals := 48 } : Room) (va_Pc [.long x0, .long x2] (pw G [] sz)) (va_Qi (fun (r : Int32) (v : Unit) => q = r ∧ () = v) (bw G (fun _ : Unit => ([] : va_W)) (va_A [] sz)) (va_A [] sz)) 0 0 (va_A [] sz) := by
  refine mt (Qc := (fun A => va_Qi (fun (r : Int32) (v : Unit) => q = r ∧ () = v) (bw G (fun _ : Unit => ([] : va_W)) A) A)) (by decide) (Nat.le_of_ble_eq_true rfl) ?_
  intro p e s m below meth c A ls hx hb hr hlk hml hts hown hA hP hK hD hE hS hl
  have hown : s.vm.findClass RX2 = some m.cls := hown
  have hg : ∀ w ∈ lw_g, w.before ([.long x0, .long x2] : List Value).toArray s = true := fun w h => hts w (List.mem_cons_of_mem _ h)
  have hC : CallFix p m c cX2_faultOf 5 s ([.long x0, .long x2] : List Value).toArray (Cond.code yX2_faultOf cX2_faultOf 5 (some .int) :: lw_g) RX2 := ⟨hx, hb, hml, hown, hts⟩
  have hl : lv_has ls 5 [(0, .long x0), (2, .long x2)] := hl
  have lp_36 : ∀ (n : Nat) (x4 : Int32), l_X2_faultOf_36 N x0 x2 n x4 = some q → ∀ (H : Heap) (locs : List Loc) (ls : Array Slot), va_P (gD G) vwCl [] H → va_D A [] → va_S A s.heap H locs → lv_has ls 5 [(0, .long x0), (2, .long x2), (4, .int x4)] → W p l e ({ frames := 2, cells := 0, slots := 0, locals := 48 } : Room) s m ([.long x0, .long x2] : List Value).toArray below meth c H locs 0 0 (MQ below (va_Qi (fun (r : Int32) (v : Unit) => q = r ∧ () = v) (bw G (fun _ : Unit => ([] : va_W)) A) A) ([.long x0, .long x2] : List Value).toArray s 0 0 A) (F0 m 36 ls []) := by
    intro n
    induction n with
    | zero => intro x4 hf; rw [l_X2_faultOf_36] at hf; cases hf
    | succ n ih =>
      intro x4 hf H locs ls hP hD hS hl
      rw [l_X2_faultOf_36] at hf
      refine lv_iload hx hb dX2_faultOf_36 (lv_at hl 2 rfl) ?_
      refine lv_iconst (v := (3 : Int32)) hx hb dX2_faultOf_38 (by decide) ?_
      refine lv_icmp_ge (tgt := 62) hx hb dX2_faultOf_39 (by decide) (fun c4 => ?_) (fun c4 => ?_)
      · have hf := tp hf c4
        refine lv_lload_n hx hb dX2_faultOf_62 rfl (lv_at hl 0 rfl) ?_
        obtain ⟨q5, e6, hf⟩ := tbd hf
        refine kSi0 (As := [.long x0]) (rest := []) hC (c_X2_dayIn (G := G) e6) kq2_43 kc_X2_dayIn (by decide) hP hK hD hE hS hA hl.1 (Nat.le_of_ble_eq_true rfl) ⟨Nat.zero_le _, Nat.zero_le _⟩ dX2_faultOf_63 (fun r9 u9 H locs hw hP hD hS => ?_)
        obtain ⟨rfl, rfl⟩ := hw
        refine lv_istore (lv' := [(4, .int q5), (0, .long x0), (2, .long x2)]) hx hb dX2_faultOf_66 hl (by decide) rfl (fun ls hl => ?_)
        refine lv_lload_n hx hb dX2_faultOf_68 rfl (lv_at hl 1 rfl) ?_
        obtain ⟨q7, e8, hf⟩ := tbd hf
        refine kSi0 (As := [.long x0]) (rest := []) hC (c_X2_minuteIn (G := G) e8) kq2_34 kc_X2_minuteIn (by decide) hP hK hD hE hS hA hl.1 (Nat.le_of_ble_eq_true rfl) ⟨Nat.zero_le _, Nat.zero_le _⟩ dX2_faultOf_69 (fun r9 u9 H locs hw hP hD hS => ?_)
        obtain ⟨rfl, rfl⟩ := hw
        refine lv_iconst (v := (-1 : Int32)) hx hb dX2_faultOf_72 (by decide) ?_
        refine lv_icmp_eq (tgt := 90) hx hb dX2_faultOf_73 (by decide) (fun c9 => ?_) (fun c9 => ?_)
        · have hf := tp hf c9
          refine lv_bipush (v := (6 : Int32)) hx hb dX2_faultOf_90 (by decide) ?_
          have hf := Option.some.inj hf
          subst hf
          exact e_i (wf := (fun _ : Unit => ([] : va_W))) hx hb hr hlk () ⟨rfl, rfl⟩ hP hK hD hS dX2_faultOf_92
        · have hf := tn hf c9
          refine lv_lload_n hx hb dX2_faultOf_76 rfl (lv_at hl 1 rfl) ?_
          obtain ⟨q10, e11, hf⟩ := tbd hf
          refine kSi0 (As := [.long x0]) (rest := []) hC (c_X2_hourIn (G := G) e11) kq2_40 kc_X2_hourIn (by decide) hP hK hD hE hS hA hl.1 (Nat.le_of_ble_eq_true rfl) ⟨Nat.zero_le _, Nat.zero_le _⟩ dX2_faultOf_77 (fun r9 u9 H locs hw hP hD hS => ?_)
          obtain ⟨rfl, rfl⟩ := hw
          refine lv_iconst (v := (-1 : Int32)) hx hb dX2_faultOf_80 (by decide) ?_
          refine lv_icmp_eq (tgt := 90) hx hb dX2_faultOf_81 (by decide) (fun c12 => ?_) (fun c12 => ?_)
          · have hf := tp hf c12
            refine lv_bipush (v := (6 : Int32)) hx hb dX2_faultOf_90 (by decide) ?_
            have hf := Option.some.inj hf
            subst hf
            exact e_i (wf := (fun _ : Unit => ([] : va_W))) hx hb hr hlk () ⟨rfl, rfl⟩ hP hK hD hS dX2_faultOf_92
          · have hf := tn hf c12
            refine lv_iload hx hb dX2_faultOf_84 (lv_at hl 0 rfl) ?_
            refine lv_iconst (v := (-1 : Int32)) hx hb dX2_faultOf_86 (by decide) ?_
            refine lv_icmp_ne (tgt := 93) hx hb dX2_faultOf_87 (by decide) (fun c13 => ?_) (fun c13 => ?_)
            · have hf := tn hf c13
              refine lv_lload_n hx hb dX2_faultOf_93 rfl (lv_at hl 1 rfl) ?_
              refine lv_iload hx hb dX2_faultOf_94 (lv_at hl 0 rfl) ?_
              obtain ⟨q14, e15, hf⟩ := tbd hf
              refine kSi0 (As := [.long x0, .int q5]) (rest := []) hC (c_X2_hasWeekdayOf (G := G) e15) kq2_51 kc_X2_hasWeekdayOf (by decide) hP hK hD hE hS hA hl.1 (Nat.le_of_ble_eq_true rfl) ⟨Nat.zero_le _, Nat.zero_le _⟩ dX2_faultOf_96 (fun r9 u9 H locs hw hP hD hS => ?_)
              obtain ⟨rfl, rfl⟩ := hw
              refine bz_eq (tgt := 106) hx hb dX2_faultOf_99 (by decide) (fun c16 => ?_) (fun c16 => ?_)
              · have hf := tn hf c16
                refine lv_bipush (v := (7 : Int32)) hx hb dX2_faultOf_106 (by decide) ?_
                have hf := Option.some.inj hf
                subst hf
                exact e_i (wf := (fun _ : Unit => ([] : va_W))) hx hb hr hlk () ⟨rfl, rfl⟩ hP hK hD hS dX2_faultOf_108
              · have hf := tp hf c16
                refine lv_iconst (v := (0 : Int32)) hx hb dX2_faultOf_102 (by decide) ?_
                refine lv_goto (tgt := 108) hx hb dX2_faultOf_103 (by decide) ?_
                have hf := Option.some.inj hf
                subst hf
                exact e_i (wf := (fun _ : Unit => ([] : va_W))) hx hb hr hlk () ⟨rfl, rfl⟩ hP hK hD hS dX2_faultOf_108
            · have hf := tp hf c13
              refine lv_bipush (v := (6 : Int32)) hx hb dX2_faultOf_90 (by decide) ?_
              have hf := Option.some.inj hf
              subst hf
              exact e_i (wf := (fun _ : Unit => ([] : va_W))) hx hb hr hlk () ⟨rfl, rfl⟩ hP hK hD hS dX2_faultOf_92
      · have hf := tn hf c4
        refine lv_lload_n hx hb dX2_faultOf_42 rfl (lv_at hl 0 rfl) ?_
        refine lv_iload hx hb dX2_faultOf_43 (lv_at hl 2 rfl) ?_
        obtain ⟨q17, e18, hf⟩ := tbd hf
        refine kSi0 (As := [.long x0, .int x4]) (rest := []) hC (c_X2_isOdd (G := G) e18) kq2_30 kc_X2_isOdd (by decide) hP hK hD hE hS hA hl.1 (Nat.le_of_ble_eq_true rfl) ⟨Nat.zero_le _, Nat.zero_le _⟩ dX2_faultOf_45 (fun r9 u9 H locs hw hP hD hS => ?_)
        obtain ⟨rfl, rfl⟩ := hw
        refine bz_eq (tgt := 56) hx hb dX2_faultOf_48 (by decide) (fun c19 => ?_) (fun c19 => ?_)
        · have hf := tn hf c19
          refine lv_iinc (v := (x4 + (1 : Int32))) (lv' := [(4, .int (x4 + (1 : Int32))), (0, .long x0), (2, .long x2)]) hx hb dX2_faultOf_56 hl (k := 2) rfl rfl (by decide) rfl (fun ls hl => ?_)
          refine lv_goto (tgt := 36) hx hb dX2_faultOf_59 (by decide) ?_
          exact ih _ hf _ _ _ hP hD hS (lv_sub hl [1, 2, 0] rfl)
        · have hf := tp hf c19
          refine lv_iconst (v := (3 : Int32)) hx hb dX2_faultOf_51 (by decide) ?_
          refine lv_iload hx hb dX2_faultOf_52 (lv_at hl 2 rfl) ?_
          refine lv_iadd hx hb dX2_faultOf_54 ?_
          have hf := Option.some.inj hf
          subst hf
          exact e_i (wf := (fun _ : Unit => ([] : va_W))) hx hb hr hlk () ⟨rfl, rfl⟩ hP hK hD hS dX2_faultOf_55
  rw [f_X2_faultOf] at hf
  refine lv_lload_n hx hb dX2_faultOf_0 rfl (lv_at hl 1 rfl) ?_
  refine lv_ldc2 hx hb hown (hg _ kq3_136) dX2_faultOf_1 ?_
  refine lv_land hx hb dX2_faultOf_4 ?_
  refine lv_lconst (v := (0 : Int64)) hx hb dX2_faultOf_5 (by decide) ?_
  refine lc_eq (tgt := 12) hx hb dX2_faultOf_6 dX2_faultOf_7 (by decide) (fun c1 => ?_) (fun c1 => ?_)
  · have hf := tp hf c1
    refine lv_lload_n hx hb dX2_faultOf_12 rfl (lv_at hl 0 rfl) ?_
    refine lv_lconst (v := (1 : Int64)) hx hb dX2_faultOf_13 (by decide) ?_
    refine lv_land hx hb dX2_faultOf_14 ?_
    refine lv_lconst (v := (0 : Int64)) hx hb dX2_faultOf_15 (by decide) ?_
    refine lc_ne (tgt := 31) hx hb dX2_faultOf_16 dX2_faultOf_17 (by decide) (fun c2 => ?_) (fun c2 => ?_)
    · have hf := tn hf c2
      refine lv_iconst (v := (2 : Int32)) hx hb dX2_faultOf_31 (by decide) ?_
      have hf := Option.some.inj hf
      subst hf
      exact e_i (wf := (fun _ : Unit => ([] : va_W))) hx hb hr hlk () ⟨rfl, rfl⟩ hP hK hD hS dX2_faultOf_32
    · have hf := tp hf c2
      refine lv_lload_n hx hb dX2_faultOf_20 rfl (lv_at hl 0 rfl) ?_
      refine lv_bipush (v := (20 : Int32)) hx hb dX2_faultOf_21 (by decide) ?_
      refine lv_lushr (v := (jushr x0 (20 : Int32))) hx hb dX2_faultOf_23 rfl ?_
      refine lv_lconst (v := (1 : Int64)) hx hb dX2_faultOf_24 (by decide) ?_
      refine lv_land hx hb dX2_faultOf_25 ?_
      refine lv_lconst (v := (0 : Int64)) hx hb dX2_faultOf_26 (by decide) ?_
      refine lc_ne (tgt := 33) hx hb dX2_faultOf_27 dX2_faultOf_28 (by decide) (fun c3 => ?_) (fun c3 => ?_)
      · have hf := tn hf c3
        refine lv_iconst (v := (0 : Int32)) hx hb dX2_faultOf_33 (by decide) ?_
        refine lv_istore (lv' := [(4, .int (0 : Int32)), (0, .long x0), (2, .long x2)]) hx hb dX2_faultOf_34 hl (by decide) rfl (fun ls hl => ?_)
        exact lp_36 N _ hf _ _ _ hP hD hS (lv_sub hl [1, 2, 0] rfl)
      · have hf := tp hf c3
        refine lv_iconst (v := (2 : Int32)) hx hb dX2_faultOf_31 (by decide) ?_
        have hf := Option.some.inj hf
        subst hf
        exact e_i (wf := (fun _ : Unit => ([] : va_W))) hx hb hr hlk () ⟨rfl, rfl⟩ hP hK hD hS dX2_faultOf_32
  · have hf := tn hf c1
    refine lv_iconst (v := (1 : Int32)) hx hb dX2_faultOf_10 (by decide) ?_
    have hf := Option.some.inj hf
    subst hf
    exact e_i (wf := (fun _ : Unit => ([] : va_W))) hx hb hr hlk () ⟨rfl, rfl⟩ hP hK hD hS dX2_faultOf_11
set_option maxRecDepth 100000 in
set_option maxHeartbeats 4000000 in
theorem c_X2_fillGaps {l : Launch} {G : Gp} {sz N : Nat} {x0 : Int64} {x2 : Int64} {x4 : Int32} {q : Int64} (hf : f_X2_fillGaps N x0 x2 x4 = some q) : Met l yX2_fillGaps (Cond.code yX2_fillGaps cX2_fillGaps 9 (some .long) :: lw_g) ({ frames := 0, cells := 0, slots := 0, locals := 0 } : Room) (va_Pc [.long x0, .long x2, .int x4] (pw G [] sz)) (va_Ql (fun (r : Int64) (v : Unit) => q = r ∧ () = v) (bw G (fun _ : Unit => ([] : va_W)) (va_A [] sz)) (va_A [] sz)) 0 0 (va_A [] sz) := by
  refine mt (Qc := (fun A => va_Ql (fun (r : Int64) (v : Unit) => q = r ∧ () = v) (bw G (fun _ : Unit => ([] : va_W)) A) A)) (by decide) (Nat.le_of_ble_eq_true rfl) ?_
  intro p e s m below meth c A ls hx hb hr hlk hml hts hown hA hP hK hD hE hS hl
  have hown : s.vm.findClass RX2 = some m.cls := hown
  have hg : ∀ w ∈ lw_g, w.before ([.long x0, .long x2, .int x4] : List Value).toArray s = true := fun w h => hts w (List.mem_cons_of_mem _ h)
  have hC : CallFix p m c cX2_fillGaps 9 s ([.long x0, .long x2, .int x4] : List Value).toArray (Cond.code yX2_fillGaps cX2_fillGaps 9 (some .long) :: lw_g) RX2 := ⟨hx, hb, hml, hown, hts⟩
  have hl : lv_has ls 9 [(0, .long x0), (2, .long x2), (4, .int x4)] := hl
  have lp_9 : ∀ (n : Nat) (x5 : Int64) (x7 : Int32) (x8 : Int32), l_X2_fillGaps_9 N x0 x2 x4 n x5 x7 x8 = some q → ∀ (H : Heap) (locs : List Loc) (ls : Array Slot), va_P (gD G) vwCl [] H → va_D A [] → va_S A s.heap H locs → lv_has ls 9 [(0, .long x0), (2, .long x2), (4, .int x4), (5, .long x5), (7, .int x7), (8, .int x8)] → W p l e ({ frames := 0, cells := 0, slots := 0, locals := 0 } : Room) s m ([.long x0, .long x2, .int x4] : List Value).toArray below meth c H locs 0 0 (MQ below (va_Ql (fun (r : Int64) (v : Unit) => q = r ∧ () = v) (bw G (fun _ : Unit => ([] : va_W)) A) A) ([.long x0, .long x2, .int x4] : List Value).toArray s 0 0 A) (F0 m 9 ls []) := by
    intro n
    induction n with
    | zero => intro x5 x7 x8 hf; rw [l_X2_fillGaps_9] at hf; cases hf
    | succ n ih =>
      intro x5 x7 x8 hf H locs ls hP hD hS hl
      rw [l_X2_fillGaps_9] at hf
      refine lv_iload hx hb dX2_fillGaps_9 (lv_at hl 5 rfl) ?_
      refine lv_bipush (v := (58 : Int32)) hx hb dX2_fillGaps_11 (by decide) ?_
      refine lv_icmp_gt (tgt := 52) hx hb dX2_fillGaps_13 (by decide) (fun c1 => ?_) (fun c1 => ?_)
      · have hf := tp hf c1
        refine lv_lload hx hb dX2_fillGaps_52 (lv_at hl 3 rfl) ?_
        have hf := Option.some.inj hf
        subst hf
        exact e_l (wf := (fun _ : Unit => ([] : va_W))) hx hb hr hlk () ⟨rfl, rfl⟩ hP hK hD hS dX2_fillGaps_54
      · have hf := tn hf c1
        refine lv_lload_n hx hb dX2_fillGaps_16 rfl (lv_at hl 1 rfl) ?_
        refine lv_iload hx hb dX2_fillGaps_17 (lv_at hl 5 rfl) ?_
        refine lv_lushr (v := (jushr x2 x8)) hx hb dX2_fillGaps_19 rfl ?_
        refine lv_lconst (v := (1 : Int64)) hx hb dX2_fillGaps_20 (by decide) ?_
        refine lv_land hx hb dX2_fillGaps_21 ?_
        refine lv_lconst (v := (0 : Int64)) hx hb dX2_fillGaps_22 (by decide) ?_
        refine lc_eq (tgt := 46) hx hb dX2_fillGaps_23 dX2_fillGaps_24 (by decide) (fun c2 => ?_) (fun c2 => ?_)
        · have hf := tp hf c2
          refine lv_iinc (v := (x8 + (1 : Int32))) (lv' := [(8, .int (x8 + (1 : Int32))), (0, .long x0), (2, .long x2), (4, .int x4), (5, .long x5), (7, .int x7)]) hx hb dX2_fillGaps_46 hl (k := 5) rfl rfl (by decide) rfl (fun ls hl => ?_)
          refine lv_goto (tgt := 9) hx hb dX2_fillGaps_49 (by decide) ?_
          exact ih _ _ _ hf _ _ _ hP hD hS (lv_sub hl [1, 2, 3, 4, 5, 0] rfl)
        · have hf := tn hf c2
          refine lv_lload hx hb dX2_fillGaps_27 (lv_at hl 3 rfl) ?_
          refine lv_iload hx hb dX2_fillGaps_29 (lv_at hl 2 rfl) ?_
          refine lv_iload hx hb dX2_fillGaps_31 (lv_at hl 4 rfl) ?_
          refine lv_iushr (v := iushr x4 x7) hx hb dX2_fillGaps_33 rfl ?_
          refine lv_iconst (v := (1 : Int32)) hx hb dX2_fillGaps_34 (by decide) ?_
          refine lv_iand hx hb dX2_fillGaps_35 ?_
          refine lv_i2l (v := ((iushr x4 x7) &&& (1 : Int32)).toInt64) hx hb dX2_fillGaps_36 rfl ?_
          refine lv_iload hx hb dX2_fillGaps_37 (lv_at hl 5 rfl) ?_
          refine lv_lshl (v := (jshl ((iushr x4 x7) &&& (1 : Int32)).toInt64 x8)) hx hb dX2_fillGaps_39 rfl ?_
          refine lv_lor hx hb dX2_fillGaps_40 ?_
          refine lv_lstore (lv' := [(5, .long (x5 ||| (jshl ((iushr x4 x7) &&& (1 : Int32)).toInt64 x8))), (0, .long x0), (2, .long x2), (4, .int x4), (7, .int x7), (8, .int x8)]) hx hb dX2_fillGaps_41 hl (by decide) rfl (fun ls hl => ?_)
          refine lv_iinc (v := (x7 + (1 : Int32))) (lv' := [(7, .int (x7 + (1 : Int32))), (5, .long (x5 ||| (jshl ((iushr x4 x7) &&& (1 : Int32)).toInt64 x8))), (0, .long x0), (2, .long x2), (4, .int x4), (8, .int x8)]) hx hb dX2_fillGaps_43 hl (k := 4) rfl rfl (by decide) rfl (fun ls hl => ?_)
          refine lv_iinc (v := (x8 + (1 : Int32))) (lv' := [(8, .int (x8 + (1 : Int32))), (7, .int (x7 + (1 : Int32))), (5, .long (x5 ||| (jshl ((iushr x4 x7) &&& (1 : Int32)).toInt64 x8))), (0, .long x0), (2, .long x2), (4, .int x4)]) hx hb dX2_fillGaps_46 hl (k := 5) rfl rfl (by decide) rfl (fun ls hl => ?_)
          refine lv_goto (tgt := 9) hx hb dX2_fillGaps_49 (by decide) ?_
          exact ih _ _ _ hf _ _ _ hP hD hS (lv_sub hl [3, 4, 5, 2, 1, 0] rfl)
  rw [f_X2_fillGaps] at hf
  refine lv_lload_n hx hb dX2_fillGaps_0 rfl (lv_at hl 0 rfl) ?_
  refine lv_lstore (lv' := [(5, .long x0), (0, .long x0), (2, .long x2), (4, .int x4)]) hx hb dX2_fillGaps_1 hl (by decide) rfl (fun ls hl => ?_)
  refine lv_iconst (v := (0 : Int32)) hx hb dX2_fillGaps_3 (by decide) ?_
  refine lv_istore (lv' := [(7, .int (0 : Int32)), (5, .long x0), (0, .long x0), (2, .long x2), (4, .int x4)]) hx hb dX2_fillGaps_4 hl (by decide) rfl (fun ls hl => ?_)
  refine lv_iconst (v := (0 : Int32)) hx hb dX2_fillGaps_6 (by decide) ?_
  refine lv_istore (lv' := [(8, .int (0 : Int32)), (7, .int (0 : Int32)), (5, .long x0), (0, .long x0), (2, .long x2), (4, .int x4)]) hx hb dX2_fillGaps_7 hl (by decide) rfl (fun ls hl => ?_)
  exact lp_9 N _ _ _ hf _ _ _ hP hD hS (lv_sub hl [3, 4, 5, 2, 1, 0] rfl)
set_option maxRecDepth 100000 in
set_option maxHeartbeats 4000000 in
theorem c_X2_minuteOf {l : Launch} {G : Gp} {sz N : Nat} {x0 : Int64} {x2 : Int64} {q : Int32} (hf : f_X2_minuteOf N x0 x2 = some q) : Met l yX2_minuteOf (Cond.code yX2_minuteOf cX2_minuteOf 11 (some .int) :: lw_g) ({ frames := 3, cells := 0, slots := 0, locals := 72 } : Room) (va_Pc [.long x0, .long x2] (pw G [] sz)) (va_Qi (fun (r : Int32) (v : Unit) => q = r ∧ () = v) (bw G (fun _ : Unit => ([] : va_W)) (va_A [] sz)) (va_A [] sz)) 0 0 (va_A [] sz) := by
  refine mt (Qc := (fun A => va_Qi (fun (r : Int32) (v : Unit) => q = r ∧ () = v) (bw G (fun _ : Unit => ([] : va_W)) A) A)) (by decide) (Nat.le_of_ble_eq_true rfl) ?_
  intro p e s m below meth c A ls hx hb hr hlk hml hts hown hA hP hK hD hE hS hl
  have hown : s.vm.findClass RX2 = some m.cls := hown
  have hg : ∀ w ∈ lw_g, w.before ([.long x0, .long x2] : List Value).toArray s = true := fun w h => hts w (List.mem_cons_of_mem _ h)
  have hC : CallFix p m c cX2_minuteOf 11 s ([.long x0, .long x2] : List Value).toArray (Cond.code yX2_minuteOf cX2_minuteOf 11 (some .int) :: lw_g) RX2 := ⟨hx, hb, hml, hown, hts⟩
  have hl : lv_has ls 11 [(0, .long x0), (2, .long x2)] := hl
  have lp_32 : ∀ (n : Nat) (x4 : Int64) (x6 : Int32) (x7 : Int32) (x8 : Int32), l_X2_minuteOf_32 N x0 x2 n x4 x6 x7 x8 = some q → ∀ (H : Heap) (locs : List Loc) (ls : Array Slot), va_P (gD G) vwCl [] H → va_D A [] → va_S A s.heap H locs → lv_has ls 11 [(0, .long x0), (2, .long x2), (4, .long x4), (6, .int x6), (7, .int x7), (8, .int x8)] → W p l e ({ frames := 3, cells := 0, slots := 0, locals := 72 } : Room) s m ([.long x0, .long x2] : List Value).toArray below meth c H locs 0 0 (MQ below (va_Qi (fun (r : Int32) (v : Unit) => q = r ∧ () = v) (bw G (fun _ : Unit => ([] : va_W)) A) A) ([.long x0, .long x2] : List Value).toArray s 0 0 A) (F0 m 32 ls []) := by
    intro n
    induction n with
    | zero => intro x4 x6 x7 x8 hf; rw [l_X2_minuteOf_32] at hf; cases hf
    | succ n ih =>
      intro x4 x6 x7 x8 hf H locs ls hP hD hS hl
      rw [l_X2_minuteOf_32] at hf
      refine lv_iload hx hb dX2_minuteOf_32 (lv_at hl 5 rfl) ?_
      refine lv_iconst (v := (1 : Int32)) hx hb dX2_minuteOf_34 (by decide) ?_
      refine lv_iload hx hb dX2_minuteOf_35 (lv_at hl 3 rfl) ?_
      refine lv_ishl hx hb dX2_minuteOf_37 ?_
      refine lv_icmp_ge (tgt := 94) hx hb dX2_minuteOf_38 (by decide) (fun c4 => ?_) (fun c4 => ?_)
      · have hf := tp hf c4
        refine lv_iload hx hb dX2_minuteOf_94 (lv_at hl 4 rfl) ?_
        have hf := Option.some.inj hf
        subst hf
        exact e_i (wf := (fun _ : Unit => ([] : va_W))) hx hb hr hlk () ⟨rfl, rfl⟩ hP hK hD hS dX2_minuteOf_96
      · have hf := tn hf c4
        refine lv_lload_n hx hb dX2_minuteOf_41 rfl (lv_at hl 0 rfl) ?_
        refine lv_lload hx hb dX2_minuteOf_42 (lv_at hl 2 rfl) ?_
        refine lv_iload hx hb dX2_minuteOf_44 (lv_at hl 5 rfl) ?_
        obtain ⟨q5, e6, hf⟩ := tbd hf
        refine kSl0 (As := [.long x0, .long x4, .int x8]) (rest := []) hC (c_X2_fillGaps (G := G) e6) kq3_138 kc_X2_fillGaps (by decide) hP hK hD hE hS hA hl.1 (Nat.le_of_ble_eq_true rfl) ⟨Nat.zero_le _, Nat.zero_le _⟩ dX2_minuteOf_46 (fun r9 u9 H locs hw hP hD hS => ?_)
        obtain ⟨rfl, rfl⟩ := hw
        refine lv_lstore (lv' := [(9, .long q5), (0, .long x0), (2, .long x2), (4, .long x4), (6, .int x6), (7, .int x7), (8, .int x8)]) hx hb dX2_minuteOf_49 hl (by decide) rfl (fun ls hl => ?_)
        refine lv_lload hx hb dX2_minuteOf_51 (lv_at hl 0 rfl) ?_
        refine lv_lconst (v := (0 : Int64)) hx hb dX2_minuteOf_53 (by decide) ?_
        obtain ⟨q7, e8, hf⟩ := tbd hf
        refine kSi0 (As := [.long q5, .long (0 : Int64)]) (rest := []) hC (c_X2_faultOf (G := G) e8) kq3_141 kc_X2_faultOf (by decide) hP hK hD hE hS hA hl.1 (Nat.le_of_ble_eq_true rfl) ⟨Nat.zero_le _, Nat.zero_le _⟩ dX2_minuteOf_54 (fun r9 u9 H locs hw hP hD hS => ?_)
        obtain ⟨rfl, rfl⟩ := hw
        refine lv_if_ne (tgt := 88) hx hb dX2_minuteOf_57 (by decide) (fun c9 => ?_) (fun c9 => ?_)
        · have hf := tn hf c9
          refine lv_iinc (v := (x8 + (1 : Int32))) (lv' := [(8, .int (x8 + (1 : Int32))), (9, .long q5), (0, .long x0), (2, .long x2), (4, .long x4), (6, .int x6), (7, .int x7)]) hx hb dX2_minuteOf_88 hl (k := 6) rfl rfl (by decide) rfl (fun ls hl => ?_)
          refine lv_goto (tgt := 32) hx hb dX2_minuteOf_91 (by decide) ?_
          exact ih _ _ _ _ hf _ _ _ hP hD hS (lv_sub hl [2, 3, 4, 5, 6, 0] rfl)
        · have hf := tp hf c9
          refine lv_iload hx hb dX2_minuteOf_60 (lv_at hl 5 rfl) ?_
          refine lv_iconst (v := (-1 : Int32)) hx hb dX2_minuteOf_62 (by decide) ?_
          refine lv_icmp_eq (tgt := 68) hx hb dX2_minuteOf_63 (by decide) (fun c10 => ?_) (fun c10 => ?_)
          · have hf := tp hf c10
            refine lv_lload hx hb dX2_minuteOf_68 (lv_at hl 0 rfl) ?_
            obtain ⟨q11, e12, hf⟩ := tbd hf
            refine kSi0 (As := [.long q5]) (rest := []) hC (c_X2_dayIn (G := G) e12) kq2_43 kc_X2_dayIn (by decide) hP hK hD hE hS hA hl.1 (Nat.le_of_ble_eq_true rfl) ⟨Nat.zero_le _, Nat.zero_le _⟩ dX2_minuteOf_70 (fun r9 u9 H locs hw hP hD hS => ?_)
            obtain ⟨rfl, rfl⟩ := hw
            refine lv_lload hx hb dX2_minuteOf_73 (lv_at hl 0 rfl) ?_
            obtain ⟨q13, e14, hf⟩ := tbd hf
            refine kSi0 (As := [.long q5]) (rest := [.int q11]) hC (c_X2_hourIn (G := G) e14) kq2_40 kc_X2_hourIn (by decide) hP hK hD hE hS hA hl.1 (Nat.le_of_ble_eq_true rfl) ⟨Nat.zero_le _, Nat.zero_le _⟩ dX2_minuteOf_75 (fun r9 u9 H locs hw hP hD hS => ?_)
            obtain ⟨rfl, rfl⟩ := hw
            refine lv_lload hx hb dX2_minuteOf_78 (lv_at hl 0 rfl) ?_
            obtain ⟨q15, e16, hf⟩ := tbd hf
            refine kSi0 (As := [.long q5]) (rest := [.int q13, .int q11]) hC (c_X2_minuteIn (G := G) e16) kq2_34 kc_X2_minuteIn (by decide) hP hK hD hE hS hA hl.1 (Nat.le_of_ble_eq_true rfl) ⟨Nat.zero_le _, Nat.zero_le _⟩ dX2_minuteOf_80 (fun r9 u9 H locs hw hP hD hS => ?_)
            obtain ⟨rfl, rfl⟩ := hw
            obtain ⟨q17, e18, hf⟩ := tbd hf
            refine kSi0 (As := [.int q11, .int q13, .int q15]) (rest := []) hC (c_X1_minuteNumber (G := G) e18) kq3_144 kc_X1_minuteNumber (by decide) hP hK hD hE hS hA hl.1 (Nat.le_of_ble_eq_true rfl) ⟨Nat.zero_le _, Nat.zero_le _⟩ dX2_minuteOf_83 (fun r9 u9 H locs hw hP hD hS => ?_)
            obtain ⟨rfl, rfl⟩ := hw
            refine lv_istore (lv' := [(7, .int q17), (9, .long q5), (0, .long x0), (2, .long x2), (4, .long x4), (6, .int x6), (8, .int x8)]) hx hb dX2_minuteOf_86 hl (by decide) rfl (fun ls hl => ?_)
            refine lv_iinc (v := (x8 + (1 : Int32))) (lv' := [(8, .int (x8 + (1 : Int32))), (7, .int q17), (9, .long q5), (0, .long x0), (2, .long x2), (4, .long x4), (6, .int x6)]) hx hb dX2_minuteOf_88 hl (k := 6) rfl rfl (by decide) rfl (fun ls hl => ?_)
            refine lv_goto (tgt := 32) hx hb dX2_minuteOf_91 (by decide) ?_
            exact ih _ _ _ _ hf _ _ _ hP hD hS (lv_sub hl [3, 4, 5, 6, 1, 0] rfl)
          · have hf := tn hf c10
            refine lv_iconst (v := (-1 : Int32)) hx hb dX2_minuteOf_66 (by decide) ?_
            have hf := Option.some.inj hf
            subst hf
            exact e_i (wf := (fun _ : Unit => ([] : va_W))) hx hb hr hlk () ⟨rfl, rfl⟩ hP hK hD hS dX2_minuteOf_67
  rw [f_X2_minuteOf] at hf
  refine lv_lload_n hx hb dX2_minuteOf_0 rfl (lv_at hl 1 rfl) ?_
  refine lv_ldc2 hx hb hown (hg _ kq3_136) dX2_minuteOf_1 ?_
  refine lv_land hx hb dX2_minuteOf_4 ?_
  refine lv_lstore (lv' := [(4, .long (x2 &&& (576460752302899201 : Int64))), (0, .long x0), (2, .long x2)]) hx hb dX2_minuteOf_5 hl (by decide) rfl (fun ls hl => ?_)
  refine lv_lload hx hb dX2_minuteOf_7 (lv_at hl 0 rfl) ?_
  obtain ⟨q1, e2, hf⟩ := tbd hf
  refine kSi0 (As := [.long (x2 &&& (576460752302899201 : Int64))]) (rest := []) hC (c_J13_bitCount_95d88 (G := G) e2) kq2_33 kc_J13_bitCount_95d88 (by decide) hP hK hD hE hS hA hl.1 (Nat.le_of_ble_eq_true rfl) ⟨Nat.zero_le _, Nat.zero_le _⟩ dX2_minuteOf_9 (fun r9 u9 H locs hw hP hD hS => ?_)
  obtain ⟨rfl, rfl⟩ := hw
  refine lv_istore (lv' := [(6, .int q1), (4, .long (x2 &&& (576460752302899201 : Int64))), (0, .long x0), (2, .long x2)]) hx hb dX2_minuteOf_12 hl (by decide) rfl (fun ls hl => ?_)
  refine lv_iload hx hb dX2_minuteOf_14 (lv_at hl 0 rfl) ?_
  refine va_getsN hx hb (hE.1.2.2.2.2.2.2.2.2.1) hS hown ((hE.2.2.2.2.1 (RX2, 76, "GREATEST_SETTINGS") (by decide +kernel)).use rfl) (fun _ h9 => h9) dX2_minuteOf_16 ?_
  refine lv_iconst (v := (3 : Int32)) hx hb dX2_minuteOf_19 (by decide) ?_
  refine va_ti hx hb hE.1.2.2.2.2.2.2.2.2.2.1 hS (vin (by decide)) (v := .int (aGr (3 : Int32).toNatClampNeg)) rfl dX2_minuteOf_20 ?_
  refine lv_icmp_le (tgt := 26) hx hb dX2_minuteOf_21 (by decide) (fun c3 => ?_) (fun c3 => ?_)
  · have hf := tp hf c3
    refine lv_iconst (v := (-1 : Int32)) hx hb dX2_minuteOf_26 (by decide) ?_
    refine lv_istore (lv' := [(7, .int (-1 : Int32)), (6, .int q1), (4, .long (x2 &&& (576460752302899201 : Int64))), (0, .long x0), (2, .long x2)]) hx hb dX2_minuteOf_27 hl (by decide) rfl (fun ls hl => ?_)
    refine lv_iconst (v := (0 : Int32)) hx hb dX2_minuteOf_29 (by decide) ?_
    refine lv_istore (lv' := [(8, .int (0 : Int32)), (7, .int (-1 : Int32)), (6, .int q1), (4, .long (x2 &&& (576460752302899201 : Int64))), (0, .long x0), (2, .long x2)]) hx hb dX2_minuteOf_30 hl (by decide) rfl (fun ls hl => ?_)
    exact lp_32 N _ _ _ _ hf _ _ _ hP hD hS (lv_sub hl [4, 5, 3, 2, 1, 0] rfl)
  · have hf := tn hf c3
    refine lv_iconst (v := (-1 : Int32)) hx hb dX2_minuteOf_24 (by decide) ?_
    have hf := Option.some.inj hf
    subst hf
    exact e_i (wf := (fun _ : Unit => ([] : va_W))) hx hb hr hlk () ⟨rfl, rfl⟩ hP hK hD hS dX2_minuteOf_25
set_option maxRecDepth 100000 in
set_option maxHeartbeats 4000000 in
theorem c_X2_blockValue {l : Launch} {G : Gp} {sz N : Nat} {x0 : Int64} {x2 : Int64} {x4 : Int32} {q : Int32} (hf : f_X2_blockValue N x0 x2 x4 = some q) : Met l yX2_blockValue (Cond.code yX2_blockValue cX2_blockValue 6 (some .int) :: lw_g) ({ frames := 2, cells := 0, slots := 0, locals := 48 } : Room) (va_Pc [.long x0, .long x2, .int x4] (pw G [] sz)) (va_Qi (fun (r : Int32) (v : Unit) => q = r ∧ () = v) (bw G (fun _ : Unit => ([] : va_W)) (va_A [] sz)) (va_A [] sz)) 0 0 (va_A [] sz) := by
  refine mt (Qc := (fun A => va_Qi (fun (r : Int32) (v : Unit) => q = r ∧ () = v) (bw G (fun _ : Unit => ([] : va_W)) A) A)) (by decide) (Nat.le_of_ble_eq_true rfl) ?_
  intro p e s m below meth c A ls hx hb hr hlk hml hts hown hA hP hK hD hE hS hl
  have hown : s.vm.findClass RX2 = some m.cls := hown
  have hg : ∀ w ∈ lw_g, w.before ([.long x0, .long x2, .int x4] : List Value).toArray s = true := fun w h => hts w (List.mem_cons_of_mem _ h)
  have hC : CallFix p m c cX2_blockValue 6 s ([.long x0, .long x2, .int x4] : List Value).toArray (Cond.code yX2_blockValue cX2_blockValue 6 (some .int) :: lw_g) RX2 := ⟨hx, hb, hml, hown, hts⟩
  have hl : lv_has ls 6 [(0, .long x0), (2, .long x2), (4, .int x4)] := hl
  rw [f_X2_blockValue] at hf
  refine lv_lload_n hx hb dX2_blockValue_0 rfl (lv_at hl 1 rfl) ?_
  refine lv_iload hx hb dX2_blockValue_1 (lv_at hl 2 rfl) ?_
  obtain ⟨q1, e2, hf⟩ := tbd hf
  refine kSl0 (As := [.int x4]) (rest := [.long x2]) hC (c_X2_maskOf (G := G) e2) kq2_23 kc_X2_maskOf (by decide) hP hK hD hE hS hA hl.1 (Nat.le_of_ble_eq_true rfl) ⟨Nat.zero_le _, Nat.zero_le _⟩ dX2_blockValue_3 (fun r9 u9 H locs hw hP hD hS => ?_)
  obtain ⟨rfl, rfl⟩ := hw
  refine lv_land hx hb dX2_blockValue_6 ?_
  refine lv_lconst (v := (0 : Int64)) hx hb dX2_blockValue_7 (by decide) ?_
  refine lc_ne (tgt := 21) hx hb dX2_blockValue_8 dX2_blockValue_9 (by decide) (fun c3 => ?_) (fun c3 => ?_)
  · have hf := tn hf c3
    refine lv_iconst (v := (-1 : Int32)) hx hb dX2_blockValue_21 (by decide) ?_
    have hf := Option.some.inj hf
    subst hf
    exact e_i (wf := (fun _ : Unit => ([] : va_W))) hx hb hr hlk () ⟨rfl, rfl⟩ hP hK hD hS dX2_blockValue_22
  · have hf := tp hf c3
    refine lv_lload_n hx hb dX2_blockValue_12 rfl (lv_at hl 0 rfl) ?_
    refine lv_iload hx hb dX2_blockValue_13 (lv_at hl 2 rfl) ?_
    obtain ⟨q4, e5, hf⟩ := tbd hf
    refine kSi0 (As := [.long x0, .int x4]) (rest := []) hC (c_X2_isOdd (G := G) e5) kq2_30 kc_X2_isOdd (by decide) hP hK hD hE hS hA hl.1 (Nat.le_of_ble_eq_true rfl) ⟨Nat.zero_le _, Nat.zero_le _⟩ dX2_blockValue_15 (fun r9 u9 H locs hw hP hD hS => ?_)
    obtain ⟨rfl, rfl⟩ := hw
    refine bz_eq (tgt := 23) hx hb dX2_blockValue_18 (by decide) (fun c6 => ?_) (fun c6 => ?_)
    · have hf := tn hf c6
      refine lv_iload hx hb dX2_blockValue_23 (lv_at hl 2 rfl) ?_
      refine lv_if_ne (tgt := 33) hx hb dX2_blockValue_25 (by decide) (fun c7 => ?_) (fun c7 => ?_)
      · have hf := tn hf c7
        refine lv_iload hx hb dX2_blockValue_33 (lv_at hl 2 rfl) ?_
        refine lv_iconst (v := (1 : Int32)) hx hb dX2_blockValue_35 (by decide) ?_
        refine lv_icmp_ne (tgt := 44) hx hb dX2_blockValue_36 (by decide) (fun c8 => ?_) (fun c8 => ?_)
        · have hf := tn hf c8
          refine lv_lload_n hx hb dX2_blockValue_44 rfl (lv_at hl 0 rfl) ?_
          obtain ⟨q9, e10, hf⟩ := tbd hf
          refine kSi0 (As := [.long x0]) (rest := []) hC (c_X2_dayIn (G := G) e10) kq2_43 kc_X2_dayIn (by decide) hP hK hD hE hS hA hl.1 (Nat.le_of_ble_eq_true rfl) ⟨Nat.zero_le _, Nat.zero_le _⟩ dX2_blockValue_45 (fun r9 u9 H locs hw hP hD hS => ?_)
          obtain ⟨rfl, rfl⟩ := hw
          refine lv_istore (lv' := [(5, .int q9), (0, .long x0), (2, .long x2), (4, .int x4)]) hx hb dX2_blockValue_48 hl (by decide) rfl (fun ls hl => ?_)
          refine lv_iload hx hb dX2_blockValue_50 (lv_at hl 0 rfl) ?_
          refine lv_iconst (v := (-1 : Int32)) hx hb dX2_blockValue_52 (by decide) ?_
          refine lv_icmp_eq (tgt := 70) hx hb dX2_blockValue_53 (by decide) (fun c11 => ?_) (fun c11 => ?_)
          · have hf := tp hf c11
            refine lv_iconst (v := (-1 : Int32)) hx hb dX2_blockValue_70 (by decide) ?_
            have hf := Option.some.inj hf
            subst hf
            exact e_i (wf := (fun _ : Unit => ([] : va_W))) hx hb hr hlk () ⟨rfl, rfl⟩ hP hK hD hS dX2_blockValue_71
          · have hf := tn hf c11
            refine lv_lload_n hx hb dX2_blockValue_56 rfl (lv_at hl 1 rfl) ?_
            refine lv_iload hx hb dX2_blockValue_57 (lv_at hl 0 rfl) ?_
            obtain ⟨q12, e13, hf⟩ := tbd hf
            refine kSi0 (As := [.long x0, .int q9]) (rest := []) hC (c_X2_hasWeekdayOf (G := G) e13) kq2_51 kc_X2_hasWeekdayOf (by decide) hP hK hD hE hS hA hl.1 (Nat.le_of_ble_eq_true rfl) ⟨Nat.zero_le _, Nat.zero_le _⟩ dX2_blockValue_59 (fun r9 u9 H locs hw hP hD hS => ?_)
            obtain ⟨rfl, rfl⟩ := hw
            refine bz_eq (tgt := 70) hx hb dX2_blockValue_62 (by decide) (fun c14 => ?_) (fun c14 => ?_)
            · have hf := tn hf c14
              refine lv_iconst (v := (-1 : Int32)) hx hb dX2_blockValue_70 (by decide) ?_
              have hf := Option.some.inj hf
              subst hf
              exact e_i (wf := (fun _ : Unit => ([] : va_W))) hx hb hr hlk () ⟨rfl, rfl⟩ hP hK hD hS dX2_blockValue_71
            · have hf := tp hf c14
              refine lv_iload hx hb dX2_blockValue_65 (lv_at hl 0 rfl) ?_
              refine lv_goto (tgt := 71) hx hb dX2_blockValue_67 (by decide) ?_
              have hf := Option.some.inj hf
              subst hf
              exact e_i (wf := (fun _ : Unit => ([] : va_W))) hx hb hr hlk () ⟨rfl, rfl⟩ hP hK hD hS dX2_blockValue_71
        · have hf := tp hf c8
          refine lv_lload_n hx hb dX2_blockValue_39 rfl (lv_at hl 0 rfl) ?_
          obtain ⟨q15, e16, hf⟩ := tbd hf
          refine kSi0 (As := [.long x0]) (rest := []) hC (c_X2_hourIn (G := G) e16) kq2_40 kc_X2_hourIn (by decide) hP hK hD hE hS hA hl.1 (Nat.le_of_ble_eq_true rfl) ⟨Nat.zero_le _, Nat.zero_le _⟩ dX2_blockValue_40 (fun r9 u9 H locs hw hP hD hS => ?_)
          obtain ⟨rfl, rfl⟩ := hw
          have hf := Option.some.inj hf
          subst hf
          exact e_i (wf := (fun _ : Unit => ([] : va_W))) hx hb hr hlk () ⟨rfl, rfl⟩ hP hK hD hS dX2_blockValue_43
      · have hf := tp hf c7
        refine lv_lload_n hx hb dX2_blockValue_28 rfl (lv_at hl 0 rfl) ?_
        obtain ⟨q17, e18, hf⟩ := tbd hf
        refine kSi0 (As := [.long x0]) (rest := []) hC (c_X2_minuteIn (G := G) e18) kq2_34 kc_X2_minuteIn (by decide) hP hK hD hE hS hA hl.1 (Nat.le_of_ble_eq_true rfl) ⟨Nat.zero_le _, Nat.zero_le _⟩ dX2_blockValue_29 (fun r9 u9 H locs hw hP hD hS => ?_)
        obtain ⟨rfl, rfl⟩ := hw
        have hf := Option.some.inj hf
        subst hf
        exact e_i (wf := (fun _ : Unit => ([] : va_W))) hx hb hr hlk () ⟨rfl, rfl⟩ hP hK hD hS dX2_blockValue_32
    · have hf := tp hf c6
      refine lv_iconst (v := (-1 : Int32)) hx hb dX2_blockValue_21 (by decide) ?_
      have hf := Option.some.inj hf
      subst hf
      exact e_i (wf := (fun _ : Unit => ([] : va_W))) hx hb hr hlk () ⟨rfl, rfl⟩ hP hK hD hS dX2_blockValue_22
set_option maxRecDepth 100000 in
set_option maxHeartbeats 4000000 in
theorem c_J3_checkIndex_8e157_n {l : Launch} {G : Gp} {sz N : Nat} {x0 : Int32} {x1 : Int32} {q : Int32} (hf : f_J3_checkIndex_8e157_n N x0 x1 = some q) : Met l yJ3_checkIndex_8e157 (Cond.code yJ3_checkIndex_8e157 cJ3_checkIndex_8e157 3 (some .int) :: lw_g) ({ frames := 0, cells := 0, slots := 0, locals := 0 } : Room) (va_Pc [.int x0, .int x1, .null] (pw G [] sz)) (va_Qi (fun (r : Int32) (v : Unit) => q = r ∧ () = v) (bw G (fun _ : Unit => ([] : va_W)) (va_A [] sz)) (va_A [] sz)) 0 0 (va_A [] sz) := by
  refine mt (Qc := (fun A => va_Qi (fun (r : Int32) (v : Unit) => q = r ∧ () = v) (bw G (fun _ : Unit => ([] : va_W)) A) A)) (by decide) (Nat.le_of_ble_eq_true rfl) ?_
  intro p e s m below meth c A ls hx hb hr hlk hml hts hown hA hP hK hD hE hS hl
  have hown : s.vm.findClass RJ3 = some m.cls := hown
  have hg : ∀ w ∈ lw_g, w.before ([.int x0, .int x1, .null] : List Value).toArray s = true := fun w h => hts w (List.mem_cons_of_mem _ h)
  have hC : CallFix p m c cJ3_checkIndex_8e157 3 s ([.int x0, .int x1, .null] : List Value).toArray (Cond.code yJ3_checkIndex_8e157 cJ3_checkIndex_8e157 3 (some .int) :: lw_g) RJ3 := ⟨hx, hb, hml, hown, hts⟩
  have hl : lv_has ls 3 [(0, .int x0), (1, .int x1), (2, .null)] := hl
  rw [f_J3_checkIndex_8e157_n] at hf
  refine lv_iload_n hx hb dJ3_checkIndex_8e157_0 rfl (lv_at hl 0 rfl) ?_
  refine lv_if_lt (tgt := 9) hx hb dJ3_checkIndex_8e157_1 (by decide) (fun c1 => ?_) (fun c1 => ?_)
  · have hf := tp hf c1
    cases hf
  · have hf := tn hf c1
    refine lv_iload_n hx hb dJ3_checkIndex_8e157_4 rfl (lv_at hl 0 rfl) ?_
    refine lv_iload_n hx hb dJ3_checkIndex_8e157_5 rfl (lv_at hl 1 rfl) ?_
    refine lv_icmp_lt (tgt := 16) hx hb dJ3_checkIndex_8e157_6 (by decide) (fun c2 => ?_) (fun c2 => ?_)
    · have hf := tp hf c2
      refine lv_iload_n hx hb dJ3_checkIndex_8e157_16 rfl (lv_at hl 0 rfl) ?_
      have hf := Option.some.inj hf
      subst hf
      exact e_i (wf := (fun _ : Unit => ([] : va_W))) hx hb hr hlk () ⟨rfl, rfl⟩ hP hK hD hS dJ3_checkIndex_8e157_17
    · have hf := tn hf c2
      cases hf
set_option maxRecDepth 100000 in
set_option maxHeartbeats 4000000 in
theorem c_J3_checkIndex_8e157_r {l : Launch} {G : Gp} {sz N : Nat} {t0 : Nat} {x0 : Int32} {x1 : Int32} {q : Int32} (hf : f_J3_checkIndex_8e157_n N x0 x1 = some q) : Met l yJ3_checkIndex_8e157 (Cond.code yJ3_checkIndex_8e157 cJ3_checkIndex_8e157 3 (some .int) :: lw_g) ({ frames := 0, cells := 0, slots := 0, locals := 0 } : Room) (va_Pc [.int x0, .int x1, .ref t0] (pw G [] sz)) (va_Qi (fun (r : Int32) (v : Unit) => q = r ∧ () = v) (bw G (fun _ : Unit => ([] : va_W)) (va_A [] sz)) (va_A [] sz)) 0 0 (va_A [] sz) := by
  refine mt (Qc := (fun A => va_Qi (fun (r : Int32) (v : Unit) => q = r ∧ () = v) (bw G (fun _ : Unit => ([] : va_W)) A) A)) (by decide) (Nat.le_of_ble_eq_true rfl) ?_
  intro p e s m below meth c A ls hx hb hr hlk hml hts hown hA hP hK hD hE hS hl
  have hown : s.vm.findClass RJ3 = some m.cls := hown
  have hg : ∀ w ∈ lw_g, w.before ([.int x0, .int x1, .ref t0] : List Value).toArray s = true := fun w h => hts w (List.mem_cons_of_mem _ h)
  have hC : CallFix p m c cJ3_checkIndex_8e157 3 s ([.int x0, .int x1, .ref t0] : List Value).toArray (Cond.code yJ3_checkIndex_8e157 cJ3_checkIndex_8e157 3 (some .int) :: lw_g) RJ3 := ⟨hx, hb, hml, hown, hts⟩
  have hl : lv_has ls 3 [(0, .int x0), (1, .int x1), (2, .ref t0)] := hl
  rw [f_J3_checkIndex_8e157_n] at hf
  refine lv_iload_n hx hb dJ3_checkIndex_8e157_0 rfl (lv_at hl 0 rfl) ?_
  refine lv_if_lt (tgt := 9) hx hb dJ3_checkIndex_8e157_1 (by decide) (fun c1 => ?_) (fun c1 => ?_)
  · have hf := tp hf c1
    cases hf
  · have hf := tn hf c1
    refine lv_iload_n hx hb dJ3_checkIndex_8e157_4 rfl (lv_at hl 0 rfl) ?_
    refine lv_iload_n hx hb dJ3_checkIndex_8e157_5 rfl (lv_at hl 1 rfl) ?_
    refine lv_icmp_lt (tgt := 16) hx hb dJ3_checkIndex_8e157_6 (by decide) (fun c2 => ?_) (fun c2 => ?_)
    · have hf := tp hf c2
      refine lv_iload_n hx hb dJ3_checkIndex_8e157_16 rfl (lv_at hl 0 rfl) ?_
      have hf := Option.some.inj hf
      subst hf
      exact e_i (wf := (fun _ : Unit => ([] : va_W))) hx hb hr hlk () ⟨rfl, rfl⟩ hP hK hD hS dJ3_checkIndex_8e157_17
    · have hf := tn hf c2
      cases hf
set_option maxRecDepth 100000 in
set_option maxHeartbeats 4000000 in
theorem c_J0_checkIndex_df160 {l : Launch} {G : Gp} {sz N : Nat} {x0 : Int32} {x1 : Int32} {q : Unit} (hf : f_J0_checkIndex_df160 N x0 x1 = some q) : Met l yJ0_checkIndex_df160 (Cond.code yJ0_checkIndex_df160 cJ0_checkIndex_df160 2 none :: lw_g) ({ frames := 1, cells := 0, slots := 0, locals := 22 } : Room) (va_Pc [.int x0, .int x1] (pw G [] sz)) (va_Qv (fun v : Unit => () = v) (bw G (fun _ : Unit => ([] : va_W)) (va_A [] sz)) (va_A [] sz)) 0 0 (va_A [] sz) := by
  refine mt (Qc := (fun A => va_Qv (fun v : Unit => () = v) (bw G (fun _ : Unit => ([] : va_W)) A) A)) (by decide) (Nat.le_of_ble_eq_true rfl) ?_
  intro p e s m below meth c A ls hx hb hr hlk hml hts hown hA hP hK hD hE hS hl
  have hown : s.vm.findClass RJ0 = some m.cls := hown
  have hg : ∀ w ∈ lw_g, w.before ([.int x0, .int x1] : List Value).toArray s = true := fun w h => hts w (List.mem_cons_of_mem _ h)
  have hC : CallFix p m c cJ0_checkIndex_df160 2 s ([.int x0, .int x1] : List Value).toArray (Cond.code yJ0_checkIndex_df160 cJ0_checkIndex_df160 2 none :: lw_g) RJ0 := ⟨hx, hb, hml, hown, hts⟩
  have hl : lv_has ls 2 [(0, .int x0), (1, .int x1)] := hl
  rw [f_J0_checkIndex_df160] at hf
  refine lv_iload_n hx hb dJ0_checkIndex_df160_0 rfl (lv_at hl 0 rfl) ?_
  refine lv_iload_n hx hb dJ0_checkIndex_df160_1 rfl (lv_at hl 1 rfl) ?_
  rcases hE.1.2.2.2.2.2.2.2.2.2.2.2.2.2.2 with hz | ⟨t0, hz⟩
  · refine va_gets hx hb hz hS hown (hg _ kq3_23) (fun _ h9 => h9) dJ0_checkIndex_df160_2 ?_
    obtain ⟨q1, e2, hf⟩ := tbd hf
    refine kSi0 (As := [.int x0, .int x1, .null]) (rest := []) hC (c_J3_checkIndex_8e157_n (G := G) e2) kq3_25 kc_J3_checkIndex_8e157_n (by decide) hP hK hD hE hS hA hl.1 (Nat.le_of_ble_eq_true rfl) ⟨Nat.zero_le _, Nat.zero_le _⟩ dJ0_checkIndex_df160_5 (fun r9 u9 H locs hw hP hD hS => ?_)
    obtain ⟨rfl, rfl⟩ := hw
    refine lv_pop hx hb dJ0_checkIndex_df160_8 rfl ?_
    have hf := Option.some.inj hf
    subst hf
    exact e_v (wf := (fun _ : Unit => ([] : va_W))) hx hb hr hlk () rfl hP hK hD hS dJ0_checkIndex_df160_9
  · refine va_gets hx hb hz hS hown (hg _ kq3_23) (fun _ h9 => h9) dJ0_checkIndex_df160_2 ?_
    obtain ⟨q1, e2, hf⟩ := tbd hf
    refine kSi0 (As := [.int x0, .int x1, .ref t0]) (rest := []) hC (c_J3_checkIndex_8e157_r (G := G) e2) kq3_25 kc_J3_checkIndex_8e157_n (by decide) hP hK hD hE hS hA hl.1 (Nat.le_of_ble_eq_true rfl) ⟨Nat.zero_le _, Nat.zero_le _⟩ dJ0_checkIndex_df160_5 (fun r9 u9 H locs hw hP hD hS => ?_)
    obtain ⟨rfl, rfl⟩ := hw
    refine lv_pop hx hb dJ0_checkIndex_df160_8 rfl ?_
    have hf := Option.some.inj hf
    subst hf
    exact e_v (wf := (fun _ : Unit => ([] : va_W))) hx hb hr hlk () rfl hP hK hD hS dJ0_checkIndex_df160_9
set_option maxRecDepth 100000 in
set_option maxHeartbeats 4000000 in
theorem c_J0_coder_7d493 {l : Launch} {G : Gp} {sz N : Nat} {i : Nat} {q : Int32} (hi : i < 9) (hf : f_J0_coder_7d493 N i = some q) : Met l yJ0_coder_7d493 (Cond.code yJ0_coder_7d493 cJ0_coder_7d493 1 (some .byte) :: lw_g) ({ frames := 0, cells := 0, slots := 0, locals := 0 } : Room) (va_Pc [.ref (gE G (10 + 2 * i))] (pw G [] sz)) (va_Qi (fun (r : Int32) (v : Unit) => q = r ∧ () = v) (bw G (fun _ : Unit => ([] : va_W)) (va_A [] sz)) (va_A [] sz)) 0 0 (va_A [] sz) := by
  refine mt (Qc := (fun A => va_Qi (fun (r : Int32) (v : Unit) => q = r ∧ () = v) (bw G (fun _ : Unit => ([] : va_W)) A) A)) (by decide) (Nat.le_of_ble_eq_true rfl) ?_
  intro p e s m below meth c A ls hx hb hr hlk hml hts hown hA hP hK hD hE hS hl
  have hown : s.vm.findClass RJ0 = some m.cls := hown
  have hg : ∀ w ∈ lw_g, w.before ([.ref (gE G (10 + 2 * i))] : List Value).toArray s = true := fun w h => hts w (List.mem_cons_of_mem _ h)
  have hC : CallFix p m c cJ0_coder_7d493 1 s ([.ref (gE G (10 + 2 * i))] : List Value).toArray (Cond.code yJ0_coder_7d493 cJ0_coder_7d493 1 (some .byte) :: lw_g) RJ0 := ⟨hx, hb, hml, hown, hts⟩
  have hl : lv_has ls 1 [(0, .ref (gE G (10 + 2 * i)))] := hl
  rw [f_J0_coder_7d493] at hf
  refine va_gets hx hb (hE.1.2.2.2.2.2.2.2.2.2.2.1) hS hown (hg _ kq3_7) (fun _ h9 => h9) dJ0_coder_7d493_0 ?_
  refine lv_if_eq (tgt := 13) hx hb dJ0_coder_7d493_3 (by decide) (fun c1 => ?_) (fun c1 => ?_)
  · exact absurd c1 (by decide)
  refine lv_aload_n hx hb dJ0_coder_7d493_6 rfl (lv_at hl 0 rfl) ?_
  refine vk_getf (o := "java/lang/String") (v := .int (0 : Int32)) hx hb (hE.1.2.2.2.2.2.2.2.2.2.2.2.1.1 _ hi).2.1 hS hown (hg _ kq7_5) (fun _ h9 => h9) dJ0_coder_7d493_7 ?_
  refine lv_goto (tgt := 14) hx hb dJ0_coder_7d493_10 (by decide) ?_
  have hf := Option.some.inj hf
  subst hf
  exact e_z (wf := (fun _ : Unit => ([] : va_W))) hx hb hr hlk () rfl ⟨rfl, rfl⟩ hP hK hD hS dJ0_coder_7d493_14
set_option maxRecDepth 100000 in
set_option maxHeartbeats 4000000 in
theorem c_J0_isLatin1_aae02 {l : Launch} {G : Gp} {sz N : Nat} {i : Nat} {q : Bool} (hi : i < 9) (hf : f_J0_isLatin1_aae02 N i = some q) : Met l yJ0_isLatin1_aae02 (Cond.code yJ0_isLatin1_aae02 cJ0_isLatin1_aae02 1 (some .boolean) :: lw_g) ({ frames := 0, cells := 0, slots := 0, locals := 0 } : Room) (va_Pc [.ref (gE G (10 + 2 * i))] (pw G [] sz)) (va_Qi (fun (r : Int32) (v : Unit) => bI q = r ∧ () = v) (bw G (fun _ : Unit => ([] : va_W)) (va_A [] sz)) (va_A [] sz)) 0 0 (va_A [] sz) := by
  refine mt (Qc := (fun A => va_Qi (fun (r : Int32) (v : Unit) => bI q = r ∧ () = v) (bw G (fun _ : Unit => ([] : va_W)) A) A)) (by decide) (Nat.le_of_ble_eq_true rfl) ?_
  intro p e s m below meth c A ls hx hb hr hlk hml hts hown hA hP hK hD hE hS hl
  have hown : s.vm.findClass RJ0 = some m.cls := hown
  have hg : ∀ w ∈ lw_g, w.before ([.ref (gE G (10 + 2 * i))] : List Value).toArray s = true := fun w h => hts w (List.mem_cons_of_mem _ h)
  have hC : CallFix p m c cJ0_isLatin1_aae02 1 s ([.ref (gE G (10 + 2 * i))] : List Value).toArray (Cond.code yJ0_isLatin1_aae02 cJ0_isLatin1_aae02 1 (some .boolean) :: lw_g) RJ0 := ⟨hx, hb, hml, hown, hts⟩
  have hl : lv_has ls 1 [(0, .ref (gE G (10 + 2 * i)))] := hl
  rw [f_J0_isLatin1_aae02] at hf
  refine va_gets hx hb (hE.1.2.2.2.2.2.2.2.2.2.2.1) hS hown (hg _ kq3_7) (fun _ h9 => h9) dJ0_isLatin1_aae02_0 ?_
  refine lv_if_eq (tgt := 17) hx hb dJ0_isLatin1_aae02_3 (by decide) (fun c1 => ?_) (fun c1 => ?_)
  · exact absurd c1 (by decide)
  refine lv_aload_n hx hb dJ0_isLatin1_aae02_6 rfl (lv_at hl 0 rfl) ?_
  refine vk_getf (o := "java/lang/String") (v := .int (0 : Int32)) hx hb (hE.1.2.2.2.2.2.2.2.2.2.2.2.1.1 _ hi).2.1 hS hown (hg _ kq7_5) (fun _ h9 => h9) dJ0_isLatin1_aae02_7 ?_
  refine lv_if_ne (tgt := 17) hx hb dJ0_isLatin1_aae02_10 (by decide) (fun c2 => ?_) (fun c2 => ?_)
  · exact absurd c2 (by decide)
  refine lv_iconst (v := (1 : Int32)) hx hb dJ0_isLatin1_aae02_13 (by decide) ?_
  refine lv_goto (tgt := 18) hx hb dJ0_isLatin1_aae02_14 (by decide) ?_
  have hf := Option.some.inj hf
  subst hf
  exact e_z (wf := (fun _ : Unit => ([] : va_W))) hx hb hr hlk () rfl ⟨rfl, rfl⟩ hP hK hD hS dJ0_isLatin1_aae02_18
set_option maxRecDepth 100000 in
set_option maxHeartbeats 4000000 in
theorem c_J0_length_8abf5 {l : Launch} {G : Gp} {sz N : Nat} {i : Nat} {q : Int32} (hi : i < 9) (hf : f_J0_length_8abf5 N i = some q) : Met l yJ0_length_8abf5 (Cond.code yJ0_length_8abf5 cJ0_length_8abf5 1 (some .int) :: lw_g) ({ frames := 1, cells := 0, slots := 0, locals := 20 } : Room) (va_Pc [.ref (gE G (10 + 2 * i))] (pw G [] sz)) (va_Qi (fun (r : Int32) (v : Unit) => q = r ∧ () = v) (bw G (fun _ : Unit => ([] : va_W)) (va_A [] sz)) (va_A [] sz)) 0 0 (va_A [] sz) := by
  refine mt (Qc := (fun A => va_Qi (fun (r : Int32) (v : Unit) => q = r ∧ () = v) (bw G (fun _ : Unit => ([] : va_W)) A) A)) (by decide) (Nat.le_of_ble_eq_true rfl) ?_
  intro p e s m below meth c A ls hx hb hr hlk hml hts hown hA hP hK hD hE hS hl
  have hown : s.vm.findClass RJ0 = some m.cls := hown
  have hg : ∀ w ∈ lw_g, w.before ([.ref (gE G (10 + 2 * i))] : List Value).toArray s = true := fun w h => hts w (List.mem_cons_of_mem _ h)
  have hC : CallFix p m c cJ0_length_8abf5 1 s ([.ref (gE G (10 + 2 * i))] : List Value).toArray (Cond.code yJ0_length_8abf5 cJ0_length_8abf5 1 (some .int) :: lw_g) RJ0 := ⟨hx, hb, hml, hown, hts⟩
  have hl : lv_has ls 1 [(0, .ref (gE G (10 + 2 * i)))] := hl
  rw [f_J0_length_8abf5] at hf
  refine lv_aload_n hx hb dJ0_length_8abf5_0 rfl (lv_at hl 0 rfl) ?_
  refine vk_getf (o := "java/lang/String") (v := .ref (gE G (11 + 2 * i))) hx hb (hE.1.2.2.2.2.2.2.2.2.2.2.2.1.1 _ hi).2.2.1 hS hown (hg _ kq7_4) (fun _ h9 => h9) dJ0_length_8abf5_1 ?_
  refine va_tlen hx hb (hE.1.2.2.2.2.2.2.2.2.2.2.2.1.1 _ hi).2.2.2 hS (v := (Int32.ofNat (lenS.getD i 0))) rfl dJ0_length_8abf5_4 ?_
  refine lv_aload_n hx hb dJ0_length_8abf5_5 rfl (lv_at hl 0 rfl) ?_
  obtain ⟨q1, e2, hf⟩ := tbd hf
  refine kTi0 (As := []) (rest := [.int (Int32.ofNat (lenS.getD i 0))]) hC (c_J0_coder_7d493 (G := G) (hi := hi) e2) kq3_3 kc_J0_coder_7d493 (by decide) (vk_recv (adK := fun i => gE G (10 + 2 * i)) (i := i) (hE.1.2.2.2.2.2.2.2.2.2.2.2.1) hi hS) hP hK hD hE hS hA hl.1 (Nat.le_of_ble_eq_true rfl) ⟨Nat.zero_le _, Nat.zero_le _⟩ dJ0_length_8abf5_6 (fun r9 u9 H locs hw hP hD hS => ?_)
  obtain ⟨rfl, rfl⟩ := hw
  refine lv_ishr hx hb dJ0_length_8abf5_9 ?_
  have hf := Option.some.inj hf
  subst hf
  exact e_i (wf := (fun _ : Unit => ([] : va_W))) hx hb hr hlk () ⟨rfl, rfl⟩ hP hK hD hS dJ0_length_8abf5_10
set_option maxRecDepth 100000 in
set_option maxHeartbeats 4000000 in
theorem c_J1_charAt_3b067 {l : Launch} {G : Gp} {sz N : Nat} {i : Nat} {x1 : Int32} {q : Int32} (hi : i < 9) (hf : f_J1_charAt_3b067 N i x1 = some q) : Met l yJ1_charAt_3b067 (Cond.code yJ1_charAt_3b067 cJ1_charAt_3b067 2 (some .char) :: lw_g) ({ frames := 2, cells := 0, slots := 0, locals := 43 } : Room) (va_Pc [.ref (gE G (11 + 2 * i)), .int x1] (pw G [] sz)) (va_Qi (fun (r : Int32) (v : Unit) => q = r ∧ () = v) (bw G (fun _ : Unit => ([] : va_W)) (va_A [] sz)) (va_A [] sz)) 0 0 (va_A [] sz) := by
  refine mt (Qc := (fun A => va_Qi (fun (r : Int32) (v : Unit) => q = r ∧ () = v) (bw G (fun _ : Unit => ([] : va_W)) A) A)) (by decide) (Nat.le_of_ble_eq_true rfl) ?_
  intro p e s m below meth c A ls hx hb hr hlk hml hts hown hA hP hK hD hE hS hl
  have hown : s.vm.findClass RJ1 = some m.cls := hown
  have hg : ∀ w ∈ lw_g, w.before ([.ref (gE G (11 + 2 * i)), .int x1] : List Value).toArray s = true := fun w h => hts w (List.mem_cons_of_mem _ h)
  have hC : CallFix p m c cJ1_charAt_3b067 2 s ([.ref (gE G (11 + 2 * i)), .int x1] : List Value).toArray (Cond.code yJ1_charAt_3b067 cJ1_charAt_3b067 2 (some .char) :: lw_g) RJ1 := ⟨hx, hb, hml, hown, hts⟩
  have hl : lv_has ls 2 [(0, .ref (gE G (11 + 2 * i))), (1, .int x1)] := hl
  rw [f_J1_charAt_3b067] at hf
  refine lv_iload_n hx hb dJ1_charAt_3b067_0 rfl (lv_at hl 1 rfl) ?_
  refine lv_aload_n hx hb dJ1_charAt_3b067_1 rfl (lv_at hl 0 rfl) ?_
  refine va_tlen hx hb (hE.1.2.2.2.2.2.2.2.2.2.2.2.1.1 _ hi).2.2.2 hS (v := (Int32.ofNat (lenS.getD i 0))) rfl dJ1_charAt_3b067_2 ?_
  obtain ⟨q1, e2, hf⟩ := tbd hf
  refine kSv0 (As := [.int x1, .int (Int32.ofNat (lenS.getD i 0))]) (rest := []) hC (c_J0_checkIndex_df160 (G := G) e2) kq3_20 kc_J0_checkIndex_df160 (by decide) hP hK hD hE hS hA hl.1 (Nat.le_of_ble_eq_true rfl) ⟨Nat.zero_le _, Nat.zero_le _⟩ dJ1_charAt_3b067_3 (fun u9 H locs hw hP hD hS => ?_)
  obtain rfl := hw
  refine lv_aload_n hx hb dJ1_charAt_3b067_6 rfl (lv_at hl 0 rfl) ?_
  refine lv_iload_n hx hb dJ1_charAt_3b067_7 rfl (lv_at hl 1 rfl) ?_
  obtain ⟨b3, hf⟩ := tno hf
  refine va_tb hx hb (hE.1.2.2.2.2.2.2.2.2.2.2.2.1.1 _ hi).2.2.2 hS b3 (v := .int ((bytS.getD i []).getD x1.toNatClampNeg 0)) rfl dJ1_charAt_3b067_8 ?_
  refine lv_sipush (v := (255 : Int32)) hx hb dJ1_charAt_3b067_9 (by decide) ?_
  refine lv_iand hx hb dJ1_charAt_3b067_12 ?_
  refine lv_i2c (v := (i2c (((bytS.getD i []).getD x1.toNatClampNeg 0) &&& (255 : Int32)))) hx hb dJ1_charAt_3b067_13 rfl ?_
  have hf := Option.some.inj hf
  subst hf
  exact e_z (wf := (fun _ : Unit => ([] : va_W))) hx hb hr hlk () (nar_c _) ⟨rfl, rfl⟩ hP hK hD hS dJ1_charAt_3b067_14
theorem nar_J1 {N i : Nat} {x : Int32} {q : Int32} (h : f_J1_charAt_3b067 N i x = some q) : narrow .char (.int q) = .int q := by
  unfold f_J1_charAt_3b067 at h
  obtain ⟨_, _, h⟩ := tbd h
  obtain ⟨_, h⟩ := tno h
  have h := Option.some.inj h
  subst h
  exact nar_c _
set_option maxRecDepth 100000 in
set_option maxHeartbeats 4000000 in
theorem c_J0_charAt_5068e {l : Launch} {G : Gp} {sz N : Nat} {i : Nat} {x1 : Int32} {q : Int32} (hi : i < 9) (hf : f_J0_charAt_5068e N i x1 = some q) : Met l yJ0_charAt_5068e (Cond.code yJ0_charAt_5068e cJ0_charAt_5068e 2 (some .char) :: lw_g) ({ frames := 3, cells := 0, slots := 0, locals := 64 } : Room) (va_Pc [.ref (gE G (10 + 2 * i)), .int x1] (pw G [] sz)) (va_Qi (fun (r : Int32) (v : Unit) => q = r ∧ () = v) (bw G (fun _ : Unit => ([] : va_W)) (va_A [] sz)) (va_A [] sz)) 0 0 (va_A [] sz) := by
  refine mt (Qc := (fun A => va_Qi (fun (r : Int32) (v : Unit) => q = r ∧ () = v) (bw G (fun _ : Unit => ([] : va_W)) A) A)) (by decide) (Nat.le_of_ble_eq_true rfl) ?_
  intro p e s m below meth c A ls hx hb hr hlk hml hts hown hA hP hK hD hE hS hl
  have hown : s.vm.findClass RJ0 = some m.cls := hown
  have hg : ∀ w ∈ lw_g, w.before ([.ref (gE G (10 + 2 * i)), .int x1] : List Value).toArray s = true := fun w h => hts w (List.mem_cons_of_mem _ h)
  have hC : CallFix p m c cJ0_charAt_5068e 2 s ([.ref (gE G (10 + 2 * i)), .int x1] : List Value).toArray (Cond.code yJ0_charAt_5068e cJ0_charAt_5068e 2 (some .char) :: lw_g) RJ0 := ⟨hx, hb, hml, hown, hts⟩
  have hl : lv_has ls 2 [(0, .ref (gE G (10 + 2 * i))), (1, .int x1)] := hl
  rw [f_J0_charAt_5068e] at hf
  refine lv_aload_n hx hb dJ0_charAt_5068e_0 rfl (lv_at hl 0 rfl) ?_
  obtain ⟨q1, e2, hf⟩ := tbd hf
  refine kTi0 (As := []) (rest := []) hC (c_J0_isLatin1_aae02 (G := G) (hi := hi) e2) kq3_13 kc_J0_isLatin1_aae02 (by decide) (vk_recv (adK := fun i => gE G (10 + 2 * i)) (i := i) (hE.1.2.2.2.2.2.2.2.2.2.2.2.1) hi hS) hP hK hD hE hS hA hl.1 (Nat.le_of_ble_eq_true rfl) ⟨Nat.zero_le _, Nat.zero_le _⟩ dJ0_charAt_5068e_1 (fun r9 u9 H locs hw hP hD hS => ?_)
  obtain ⟨rfl, rfl⟩ := hw
  refine bz_eq (tgt := 16) hx hb dJ0_charAt_5068e_4 (by decide) (fun c3 => ?_) (fun c3 => ?_)
  · have hf := tn hf c3
    cases hf
  · have hf := tp hf c3
    refine lv_aload_n hx hb dJ0_charAt_5068e_7 rfl (lv_at hl 0 rfl) ?_
    refine vk_getf (o := "java/lang/String") (v := .ref (gE G (11 + 2 * i))) hx hb (hE.1.2.2.2.2.2.2.2.2.2.2.2.1.1 _ hi).2.2.1 hS hown (hg _ kq7_4) (fun _ h9 => h9) dJ0_charAt_5068e_8 ?_
    refine lv_iload_n hx hb dJ0_charAt_5068e_11 rfl (lv_at hl 1 rfl) ?_
    obtain ⟨q4, e5, hf⟩ := tbd hf
    refine kSi0 (As := [.ref (gE G (11 + 2 * i)), .int x1]) (rest := []) hC (c_J1_charAt_3b067 (G := G) (hi := hi) e5) kq3_17 kc_J1_charAt_3b067 (by decide) hP hK hD hE hS hA hl.1 (Nat.le_of_ble_eq_true rfl) ⟨Nat.zero_le _, Nat.zero_le _⟩ dJ0_charAt_5068e_12 (fun r9 u9 H locs hw hP hD hS => ?_)
    obtain ⟨rfl, rfl⟩ := hw
    have hf := Option.some.inj hf
    subst hf
    exact e_z (wf := (fun _ : Unit => ([] : va_W))) hx hb hr hlk () (nar_J1 e5) ⟨rfl, rfl⟩ hP hK hD hS dJ0_charAt_5068e_15
