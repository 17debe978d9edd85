theorem dX5_append_0 : decode cX5_append 0 = .ok (.aload_n 0, 1) := by decide +kernel
theorem dX5_append_1 : decode cX5_append 1 = .ok (.getfield 36, 3) := by decide +kernel
theorem dX5_append_4 : decode cX5_append 4 = .ok (.getfield 44, 3) := by decide +kernel
theorem dX5_append_7 : decode cX5_append 7 = .ok (.bipush 20, 2) := by decide +kernel
theorem dX5_append_9 : decode cX5_append 9 = .ok (.iadd, 1) := by decide +kernel
theorem dX5_append_10 : decode cX5_append 10 = .ok (.sipush 600, 3) := by decide +kernel
theorem dX5_append_13 : decode cX5_append 13 = .ok (.if_icmp .le 13, 3) := by decide +kernel
theorem dX5_append_16 : decode cX5_append 16 = .ok (.new 48, 3) := by decide +kernel
theorem dX5_append_19 : decode cX5_append 19 = .ok (.dup, 1) := by decide +kernel
theorem dX5_append_20 : decode cX5_append 20 = .ok (.ldc 50, 2) := by decide +kernel
theorem dX5_append_22 : decode cX5_append 22 = .ok (.invokespecial 52, 3) := by decide +kernel
theorem dX5_append_25 : decode cX5_append 25 = .ok (.athrow, 1) := by decide +kernel
theorem dX5_append_26 : decode cX5_append 26 = .ok (.aload_n 0, 1) := by decide +kernel
theorem dX5_append_27 : decode cX5_append 27 = .ok (.getfield 36, 3) := by decide +kernel
theorem dX5_append_30 : decode cX5_append 30 = .ok (.iload_n 1, 1) := by decide +kernel
theorem dX5_append_31 : decode cX5_append 31 = .ok (.invokevirtual 55, 3) := by decide +kernel
theorem dX5_append_34 : decode cX5_append 34 = .ok (.aload_n 0, 1) := by decide +kernel
theorem dX5_append_35 : decode cX5_append 35 = .ok (.getfield 36, 3) := by decide +kernel
theorem dX5_append_38 : decode cX5_append 38 = .ok (.iload_n 2, 1) := by decide +kernel
theorem dX5_append_39 : decode cX5_append 39 = .ok (.invokevirtual 55, 3) := by decide +kernel
theorem dX5_append_42 : decode cX5_append 42 = .ok (.aload_n 0, 1) := by decide +kernel
theorem dX5_append_43 : decode cX5_append 43 = .ok (.getfield 36, 3) := by decide +kernel
theorem dX5_append_46 : decode cX5_append 46 = .ok (.iload_n 3, 1) := by decide +kernel
theorem dX5_append_47 : decode cX5_append 47 = .ok (.invokevirtual 55, 3) := by decide +kernel
theorem dX5_append_50 : decode cX5_append 50 = .ok (.aload_n 0, 1) := by decide +kernel
theorem dX5_append_51 : decode cX5_append 51 = .ok (.getfield 36, 3) := by decide +kernel
theorem dX5_append_54 : decode cX5_append 54 = .ok (.iload 4, 2) := by decide +kernel
theorem dX5_append_56 : decode cX5_append 56 = .ok (.invokevirtual 55, 3) := by decide +kernel
theorem dX5_append_59 : decode cX5_append 59 = .ok (.aload_n 0, 1) := by decide +kernel
theorem dX5_append_60 : decode cX5_append 60 = .ok (.getfield 36, 3) := by decide +kernel
theorem dX5_append_63 : decode cX5_append 63 = .ok (.iload 5, 2) := by decide +kernel
theorem dX5_append_65 : decode cX5_append 65 = .ok (.invokevirtual 55, 3) := by decide +kernel
theorem dX5_append_68 : decode cX5_append 68 = .ok (.aload_n 0, 1) := by decide +kernel
theorem dX5_append_69 : decode cX5_append 69 = .ok (.getfield 36, 3) := by decide +kernel
theorem dX5_append_72 : decode cX5_append 72 = .ok (.getfield 44, 3) := by decide +kernel
theorem dX5_append_75 : decode cX5_append 75 = .ok (.ireturn, 1) := by decide +kernel
theorem dX5_remember_0 : decode cX5_remember 0 = .ok (.aload_n 0, 1) := by decide +kernel
theorem dX5_remember_1 : decode cX5_remember 1 = .ok (.getfield 22, 3) := by decide +kernel
theorem dX5_remember_4 : decode cX5_remember 4 = .ok (.aload_n 0, 1) := by decide +kernel
theorem dX5_remember_5 : decode cX5_remember 5 = .ok (.getfield 356, 3) := by decide +kernel
theorem dX5_remember_8 : decode cX5_remember 8 = .ok (.aaload, 1) := by decide +kernel
theorem dX5_remember_9 : decode cX5_remember 9 = .ok (.aload_n 0, 1) := by decide +kernel
theorem dX5_remember_10 : decode cX5_remember 10 = .ok (.getfield 10, 3) := by decide +kernel
theorem dX5_remember_13 : decode cX5_remember 13 = .ok (.invokevirtual 64, 3) := by decide +kernel
theorem dX5_remember_16 : decode cX5_remember 16 = .ok (.aload_n 0, 1) := by decide +kernel
theorem dX5_remember_17 : decode cX5_remember 17 = .ok (.aload_n 0, 1) := by decide +kernel
theorem dX5_remember_18 : decode cX5_remember 18 = .ok (.getfield 356, 3) := by decide +kernel
theorem dX5_remember_21 : decode cX5_remember 21 = .ok (.iconst 1, 1) := by decide +kernel
theorem dX5_remember_22 : decode cX5_remember 22 = .ok (.iadd, 1) := by decide +kernel
theorem dX5_remember_23 : decode cX5_remember 23 = .ok (.bipush 8, 2) := by decide +kernel
theorem dX5_remember_25 : decode cX5_remember 25 = .ok (.irem, 1) := by decide +kernel
theorem dX5_remember_26 : decode cX5_remember 26 = .ok (.putfield 356, 3) := by decide +kernel
theorem dX5_remember_29 : decode cX5_remember 29 = .ok (.aload_n 0, 1) := by decide +kernel
theorem dX5_remember_30 : decode cX5_remember 30 = .ok (.getfield 351, 3) := by decide +kernel
theorem dX5_remember_33 : decode cX5_remember 33 = .ok (.bipush 8, 2) := by decide +kernel
theorem dX5_remember_35 : decode cX5_remember 35 = .ok (.if_icmp .ge 13, 3) := by decide +kernel
theorem dX5_remember_38 : decode cX5_remember 38 = .ok (.aload_n 0, 1) := by decide +kernel
theorem dX5_remember_39 : decode cX5_remember 39 = .ok (.dup, 1) := by decide +kernel
theorem dX5_remember_40 : decode cX5_remember 40 = .ok (.getfield 351, 3) := by decide +kernel
theorem dX5_remember_43 : decode cX5_remember 43 = .ok (.iconst 1, 1) := by decide +kernel
theorem dX5_remember_44 : decode cX5_remember 44 = .ok (.iadd, 1) := by decide +kernel
theorem dX5_remember_45 : decode cX5_remember 45 = .ok (.putfield 351, 3) := by decide +kernel
theorem dX5_remember_48 : decode cX5_remember 48 = .ok (.return_, 1) := by decide +kernel
theorem dX5_load_0 : decode cX5_load 0 = .ok (.iload_n 1, 1) := by decide +kernel
theorem dX5_load_1 : decode cX5_load 1 = .ok (.ifCond .lt 14, 3) := by decide +kernel
theorem dX5_load_4 : decode cX5_load 4 = .ok (.iload_n 1, 1) := by decide +kernel
theorem dX5_load_5 : decode cX5_load 5 = .ok (.aload_n 0, 1) := by decide +kernel
theorem dX5_load_6 : decode cX5_load 6 = .ok (.getfield 36, 3) := by decide +kernel
theorem dX5_load_9 : decode cX5_load 9 = .ok (.getfield 44, 3) := by decide +kernel
theorem dX5_load_12 : decode cX5_load 12 = .ok (.if_icmp .le 13, 3) := by decide +kernel
theorem dX5_load_15 : decode cX5_load 15 = .ok (.new 59, 3) := by decide +kernel
theorem dX5_load_18 : decode cX5_load 18 = .ok (.dup, 1) := by decide +kernel
theorem dX5_load_19 : decode cX5_load 19 = .ok (.ldc 61, 2) := by decide +kernel
theorem dX5_load_21 : decode cX5_load 21 = .ok (.invokespecial 63, 3) := by decide +kernel
theorem dX5_load_24 : decode cX5_load 24 = .ok (.athrow, 1) := by decide +kernel
theorem dX5_load_25 : decode cX5_load 25 = .ok (.aload_n 0, 1) := by decide +kernel
theorem dX5_load_26 : decode cX5_load 26 = .ok (.getfield 19, 3) := by decide +kernel
theorem dX5_load_29 : decode cX5_load 29 = .ok (.aload_n 0, 1) := by decide +kernel
theorem dX5_load_30 : decode cX5_load 30 = .ok (.getfield 16, 3) := by decide +kernel
theorem dX5_load_33 : decode cX5_load 33 = .ok (.invokevirtual 64, 3) := by decide +kernel
theorem dX5_load_36 : decode cX5_load 36 = .ok (.aload_n 0, 1) := by decide +kernel
theorem dX5_load_37 : decode cX5_load 37 = .ok (.getfield 36, 3) := by decide +kernel
theorem dX5_load_40 : decode cX5_load 40 = .ok (.iload_n 1, 1) := by decide +kernel
theorem dX5_load_41 : decode cX5_load 41 = .ok (.invokevirtual 68, 3) := by decide +kernel
theorem dX5_load_44 : decode cX5_load 44 = .ok (.iconst 0, 1) := by decide +kernel
theorem dX5_load_45 : decode cX5_load 45 = .ok (.istore_n 2, 1) := by decide +kernel
theorem dX5_load_46 : decode cX5_load 46 = .ok (.iload_n 2, 1) := by decide +kernel
theorem dX5_load_47 : decode cX5_load 47 = .ok (.iload_n 1, 1) := by decide +kernel
theorem dX5_load_48 : decode cX5_load 48 = .ok (.if_icmp .ge 144, 3) := by decide +kernel
theorem dX5_load_51 : decode cX5_load 51 = .ok (.aload_n 0, 1) := by decide +kernel
theorem dX5_load_52 : decode cX5_load 52 = .ok (.getfield 36, 3) := by decide +kernel
theorem dX5_load_55 : decode cX5_load 55 = .ok (.invokevirtual 71, 3) := by decide +kernel
theorem dX5_load_58 : decode cX5_load 58 = .ok (.ifCond .eq 134, 3) := by decide +kernel
theorem dX5_load_61 : decode cX5_load 61 = .ok (.aload_n 0, 1) := by decide +kernel
theorem dX5_load_62 : decode cX5_load 62 = .ok (.getfield 36, 3) := by decide +kernel
theorem dX5_load_65 : decode cX5_load 65 = .ok (.aload_n 0, 1) := by decide +kernel
theorem dX5_load_66 : decode cX5_load 66 = .ok (.getfield 19, 3) := by decide +kernel
theorem dX5_load_69 : decode cX5_load 69 = .ok (.invokevirtual 75, 3) := by decide +kernel
theorem dX5_load_72 : decode cX5_load 72 = .ok (.aload_n 0, 1) := by decide +kernel
theorem dX5_load_73 : decode cX5_load 73 = .ok (.getfield 36, 3) := by decide +kernel
theorem dX5_load_76 : decode cX5_load 76 = .ok (.getfield 78, 3) := by decide +kernel
theorem dX5_load_79 : decode cX5_load 79 = .ok (.ifCond .eq 6, 3) := by decide +kernel
theorem dX5_load_82 : decode cX5_load 82 = .ok (.goto 110, 3) := by decide +kernel
theorem dX5_load_85 : decode cX5_load 85 = .ok (.aload_n 0, 1) := by decide +kernel
theorem dX5_load_86 : decode cX5_load 86 = .ok (.getfield 36, 3) := by decide +kernel
theorem dX5_load_89 : decode cX5_load 89 = .ok (.getfield 81, 3) := by decide +kernel
theorem dX5_load_92 : decode cX5_load 92 = .ok (.iconst 5, 1) := by decide +kernel
theorem dX5_load_93 : decode cX5_load 93 = .ok (.if_icmp .ne 28, 3) := by decide +kernel
theorem dX5_load_96 : decode cX5_load 96 = .ok (.aload_n 0, 1) := by decide +kernel
theorem dX5_load_97 : decode cX5_load 97 = .ok (.getfield 19, 3) := by decide +kernel
theorem dX5_load_100 : decode cX5_load 100 = .ok (.aload_n 0, 1) := by decide +kernel
theorem dX5_load_101 : decode cX5_load 101 = .ok (.getfield 36, 3) := by decide +kernel
theorem dX5_load_104 : decode cX5_load 104 = .ok (.getfield 84, 3) := by decide +kernel
theorem dX5_load_107 : decode cX5_load 107 = .ok (.aload_n 0, 1) := by decide +kernel
theorem dX5_load_108 : decode cX5_load 108 = .ok (.getfield 36, 3) := by decide +kernel
theorem dX5_load_111 : decode cX5_load 111 = .ok (.getfield 87, 3) := by decide +kernel
theorem dX5_load_114 : decode cX5_load 114 = .ok (.invokevirtual 90, 3) := by decide +kernel
theorem dX5_load_117 : decode cX5_load 117 = .ok (.pop, 1) := by decide +kernel
theorem dX5_load_118 : decode cX5_load 118 = .ok (.goto 68, 3) := by decide +kernel
theorem dX5_load_121 : decode cX5_load 121 = .ok (.aload_n 0, 1) := by decide +kernel
theorem dX5_load_122 : decode cX5_load 122 = .ok (.getfield 36, 3) := by decide +kernel
theorem dX5_load_125 : decode cX5_load 125 = .ok (.getfield 81, 3) := by decide +kernel
theorem dX5_load_128 : decode cX5_load 128 = .ok (.bipush 6, 2) := by decide +kernel
theorem dX5_load_130 : decode cX5_load 130 = .ok (.if_icmp .ne 35, 3) := by decide +kernel
theorem dX5_load_133 : decode cX5_load 133 = .ok (.aload_n 0, 1) := by decide +kernel
theorem dX5_load_134 : decode cX5_load 134 = .ok (.getfield 19, 3) := by decide +kernel
theorem dX5_load_137 : decode cX5_load 137 = .ok (.aload_n 0, 1) := by decide +kernel
theorem dX5_load_138 : decode cX5_load 138 = .ok (.getfield 36, 3) := by decide +kernel
theorem dX5_load_141 : decode cX5_load 141 = .ok (.getfield 84, 3) := by decide +kernel
theorem dX5_load_144 : decode cX5_load 144 = .ok (.aload_n 0, 1) := by decide +kernel
theorem dX5_load_145 : decode cX5_load 145 = .ok (.getfield 36, 3) := by decide +kernel
theorem dX5_load_148 : decode cX5_load 148 = .ok (.getfield 94, 3) := by decide +kernel
theorem dX5_load_151 : decode cX5_load 151 = .ok (.aload_n 0, 1) := by decide +kernel
theorem dX5_load_152 : decode cX5_load 152 = .ok (.getfield 36, 3) := by decide +kernel
theorem dX5_load_155 : decode cX5_load 155 = .ok (.getfield 98, 3) := by decide +kernel
theorem dX5_load_158 : decode cX5_load 158 = .ok (.invokevirtual 102, 3) := by decide +kernel
theorem dX5_load_161 : decode cX5_load 161 = .ok (.pop, 1) := by decide +kernel
theorem dX5_load_162 : decode cX5_load 162 = .ok (.goto 24, 3) := by decide +kernel
theorem dX5_load_165 : decode cX5_load 165 = .ok (.aload_n 0, 1) := by decide +kernel
theorem dX5_load_166 : decode cX5_load 166 = .ok (.getfield 19, 3) := by decide +kernel
theorem dX5_load_169 : decode cX5_load 169 = .ok (.aload_n 0, 1) := by decide +kernel
theorem dX5_load_170 : decode cX5_load 170 = .ok (.getfield 36, 3) := by decide +kernel
theorem dX5_load_173 : decode cX5_load 173 = .ok (.getfield 81, 3) := by decide +kernel
theorem dX5_load_176 : decode cX5_load 176 = .ok (.aload_n 0, 1) := by decide +kernel
theorem dX5_load_177 : decode cX5_load 177 = .ok (.getfield 36, 3) := by decide +kernel
theorem dX5_load_180 : decode cX5_load 180 = .ok (.getfield 84, 3) := by decide +kernel
theorem dX5_load_183 : decode cX5_load 183 = .ok (.invokevirtual 106, 3) := by decide +kernel
theorem dX5_load_186 : decode cX5_load 186 = .ok (.iinc 2 1, 3) := by decide +kernel
theorem dX5_load_189 : decode cX5_load 189 = .ok (.goto (-143), 3) := by decide +kernel
theorem dX5_load_192 : decode cX5_load 192 = .ok (.aload_n 0, 1) := by decide +kernel
theorem dX5_load_193 : decode cX5_load 193 = .ok (.getfield 36, 3) := by decide +kernel
theorem dX5_load_196 : decode cX5_load 196 = .ok (.getfield 78, 3) := by decide +kernel
theorem dX5_load_199 : decode cX5_load 199 = .ok (.ifCond .eq 11, 3) := by decide +kernel
theorem dX5_load_202 : decode cX5_load 202 = .ok (.aload_n 0, 1) := by decide +kernel
theorem dX5_load_203 : decode cX5_load 203 = .ok (.getfield 36, 3) := by decide +kernel
theorem dX5_load_206 : decode cX5_load 206 = .ok (.getfield 78, 3) := by decide +kernel
theorem dX5_load_209 : decode cX5_load 209 = .ok (.ireturn, 1) := by decide +kernel
theorem dX5_load_210 : decode cX5_load 210 = .ok (.aload_n 0, 1) := by decide +kernel
theorem dX5_load_211 : decode cX5_load 211 = .ok (.invokevirtual 110, 3) := by decide +kernel
theorem dX5_load_214 : decode cX5_load 214 = .ok (.aload_n 0, 1) := by decide +kernel
theorem dX5_load_215 : decode cX5_load 215 = .ok (.getfield 10, 3) := by decide +kernel
theorem dX5_load_218 : decode cX5_load 218 = .ok (.aload_n 0, 1) := by decide +kernel
theorem dX5_load_219 : decode cX5_load 219 = .ok (.getfield 19, 3) := by decide +kernel
theorem dX5_load_222 : decode cX5_load 222 = .ok (.invokevirtual 64, 3) := by decide +kernel
theorem dX5_load_225 : decode cX5_load 225 = .ok (.aload_n 0, 1) := by decide +kernel
theorem dX5_load_226 : decode cX5_load 226 = .ok (.getfield 10, 3) := by decide +kernel
theorem dX5_load_229 : decode cX5_load 229 = .ok (.getfield 113, 3) := by decide +kernel
theorem dX5_load_232 : decode cX5_load 232 = .ok (.ireturn, 1) := by decide +kernel
theorem dX5_errorPosition_0 : decode cX5_errorPosition 0 = .ok (.aload_n 0, 1) := by decide +kernel
theorem dX5_errorPosition_1 : decode cX5_errorPosition 1 = .ok (.getfield 36, 3) := by decide +kernel
theorem dX5_errorPosition_4 : decode cX5_errorPosition 4 = .ok (.getfield 116, 3) := by decide +kernel
theorem dX5_errorPosition_7 : decode cX5_errorPosition 7 = .ok (.ireturn, 1) := by decide +kernel
theorem dX5_count_0 : decode cX5_count 0 = .ok (.iload_n 1, 1) := by decide +kernel
theorem dX5_count_1 : decode cX5_count 1 = .ok (.tableswitch 208 0 13 #[71, 79, 87, 95, 103, 126, 134, 144, 154, 164, 174, 184, 192, 200], 71) := by decide +kernel
theorem dX5_count_72 : decode cX5_count 72 = .ok (.aload_n 0, 1) := by decide +kernel
theorem dX5_count_73 : decode cX5_count 73 = .ok (.getfield 10, 3) := by decide +kernel
theorem dX5_count_76 : decode cX5_count 76 = .ok (.getfield 119, 3) := by decide +kernel
theorem dX5_count_79 : decode cX5_count 79 = .ok (.ireturn, 1) := by decide +kernel
theorem dX5_count_80 : decode cX5_count 80 = .ok (.aload_n 0, 1) := by decide +kernel
theorem dX5_count_81 : decode cX5_count 81 = .ok (.getfield 10, 3) := by decide +kernel
theorem dX5_count_84 : decode cX5_count 84 = .ok (.getfield 113, 3) := by decide +kernel
theorem dX5_count_87 : decode cX5_count 87 = .ok (.ireturn, 1) := by decide +kernel
theorem dX5_count_88 : decode cX5_count 88 = .ok (.aload_n 0, 1) := by decide +kernel
theorem dX5_count_89 : decode cX5_count 89 = .ok (.getfield 10, 3) := by decide +kernel
theorem dX5_count_92 : decode cX5_count 92 = .ok (.getfield 122, 3) := by decide +kernel
theorem dX5_count_95 : decode cX5_count 95 = .ok (.ireturn, 1) := by decide +kernel
theorem dX5_count_96 : decode cX5_count 96 = .ok (.aload_n 0, 1) := by decide +kernel
theorem dX5_count_97 : decode cX5_count 97 = .ok (.getfield 10, 3) := by decide +kernel
theorem dX5_count_100 : decode cX5_count 100 = .ok (.getfield 125, 3) := by decide +kernel
theorem dX5_count_103 : decode cX5_count 103 = .ok (.ireturn, 1) := by decide +kernel
theorem dX5_count_104 : decode cX5_count 104 = .ok (.aload_n 0, 1) := by decide +kernel
theorem dX5_count_105 : decode cX5_count 105 = .ok (.getfield 10, 3) := by decide +kernel
theorem dX5_count_108 : decode cX5_count 108 = .ok (.getfield 119, 3) := by decide +kernel
theorem dX5_count_111 : decode cX5_count 111 = .ok (.iconst (-1), 1) := by decide +kernel
theorem dX5_count_112 : decode cX5_count 112 = .ok (.if_icmp .ne 7, 3) := by decide +kernel
theorem dX5_count_115 : decode cX5_count 115 = .ok (.iconst 0, 1) := by decide +kernel
theorem dX5_count_116 : decode cX5_count 116 = .ok (.goto 10, 3) := by decide +kernel
theorem dX5_count_119 : decode cX5_count 119 = .ok (.aload_n 0, 1) := by decide +kernel
theorem dX5_count_120 : decode cX5_count 120 = .ok (.getfield 10, 3) := by decide +kernel
theorem dX5_count_123 : decode cX5_count 123 = .ok (.getfield 128, 3) := by decide +kernel
theorem dX5_count_126 : decode cX5_count 126 = .ok (.ireturn, 1) := by decide +kernel
theorem dX5_count_127 : decode cX5_count 127 = .ok (.aload_n 0, 1) := by decide +kernel
theorem dX5_count_128 : decode cX5_count 128 = .ok (.getfield 10, 3) := by decide +kernel
theorem dX5_count_131 : decode cX5_count 131 = .ok (.getfield 131, 3) := by decide +kernel
theorem dX5_count_134 : decode cX5_count 134 = .ok (.ireturn, 1) := by decide +kernel
theorem dX5_count_135 : decode cX5_count 135 = .ok (.aload_n 0, 1) := by decide +kernel
theorem dX5_count_136 : decode cX5_count 136 = .ok (.getfield 10, 3) := by decide +kernel
theorem dX5_count_139 : decode cX5_count 139 = .ok (.getfield 134, 3) := by decide +kernel
theorem dX5_count_142 : decode cX5_count 142 = .ok (.iconst 0, 1) := by decide +kernel
theorem dX5_count_143 : decode cX5_count 143 = .ok (.iaload, 1) := by decide +kernel
theorem dX5_count_144 : decode cX5_count 144 = .ok (.ireturn, 1) := by decide +kernel
theorem dX5_count_145 : decode cX5_count 145 = .ok (.aload_n 0, 1) := by decide +kernel
theorem dX5_count_146 : decode cX5_count 146 = .ok (.getfield 10, 3) := by decide +kernel
theorem dX5_count_149 : decode cX5_count 149 = .ok (.getfield 134, 3) := by decide +kernel
theorem dX5_count_152 : decode cX5_count 152 = .ok (.iconst 1, 1) := by decide +kernel
theorem dX5_count_153 : decode cX5_count 153 = .ok (.iaload, 1) := by decide +kernel
theorem dX5_count_154 : decode cX5_count 154 = .ok (.ireturn, 1) := by decide +kernel
theorem dX5_count_155 : decode cX5_count 155 = .ok (.aload_n 0, 1) := by decide +kernel
theorem dX5_count_156 : decode cX5_count 156 = .ok (.getfield 10, 3) := by decide +kernel
theorem dX5_count_159 : decode cX5_count 159 = .ok (.getfield 134, 3) := by decide +kernel
theorem dX5_count_162 : decode cX5_count 162 = .ok (.iconst 2, 1) := by decide +kernel
theorem dX5_count_163 : decode cX5_count 163 = .ok (.iaload, 1) := by decide +kernel
theorem dX5_count_164 : decode cX5_count 164 = .ok (.ireturn, 1) := by decide +kernel
theorem dX5_count_165 : decode cX5_count 165 = .ok (.aload_n 0, 1) := by decide +kernel
theorem dX5_count_166 : decode cX5_count 166 = .ok (.getfield 10, 3) := by decide +kernel
theorem dX5_count_169 : decode cX5_count 169 = .ok (.getfield 134, 3) := by decide +kernel
theorem dX5_count_172 : decode cX5_count 172 = .ok (.iconst 3, 1) := by decide +kernel
theorem dX5_count_173 : decode cX5_count 173 = .ok (.iaload, 1) := by decide +kernel
theorem dX5_count_174 : decode cX5_count 174 = .ok (.ireturn, 1) := by decide +kernel
theorem dX5_count_175 : decode cX5_count 175 = .ok (.aload_n 0, 1) := by decide +kernel
theorem dX5_count_176 : decode cX5_count 176 = .ok (.getfield 10, 3) := by decide +kernel
theorem dX5_count_179 : decode cX5_count 179 = .ok (.getfield 134, 3) := by decide +kernel
theorem dX5_count_182 : decode cX5_count 182 = .ok (.iconst 4, 1) := by decide +kernel
theorem dX5_count_183 : decode cX5_count 183 = .ok (.iaload, 1) := by decide +kernel
theorem dX5_count_184 : decode cX5_count 184 = .ok (.ireturn, 1) := by decide +kernel
theorem dX5_count_185 : decode cX5_count 185 = .ok (.aload_n 0, 1) := by decide +kernel
theorem dX5_count_186 : decode cX5_count 186 = .ok (.getfield 10, 3) := by decide +kernel
theorem dX5_count_189 : decode cX5_count 189 = .ok (.getfield 138, 3) := by decide +kernel
theorem dX5_count_192 : decode cX5_count 192 = .ok (.ireturn, 1) := by decide +kernel
theorem dX5_count_193 : decode cX5_count 193 = .ok (.aload_n 0, 1) := by decide +kernel
theorem dX5_count_194 : decode cX5_count 194 = .ok (.getfield 10, 3) := by decide +kernel
theorem dX5_count_197 : decode cX5_count 197 = .ok (.invokevirtual 141, 3) := by decide +kernel
theorem dX5_count_200 : decode cX5_count 200 = .ok (.ireturn, 1) := by decide +kernel
theorem dX5_count_201 : decode cX5_count 201 = .ok (.aload_n 0, 1) := by decide +kernel
theorem dX5_count_202 : decode cX5_count 202 = .ok (.getfield 10, 3) := by decide +kernel
theorem dX5_count_205 : decode cX5_count 205 = .ok (.getfield 145, 3) := by decide +kernel
theorem dX5_count_208 : decode cX5_count 208 = .ok (.ireturn, 1) := by decide +kernel
theorem dX5_count_209 : decode cX5_count 209 = .ok (.new 59, 3) := by decide +kernel
theorem dX5_count_212 : decode cX5_count 212 = .ok (.dup, 1) := by decide +kernel
theorem dX5_count_213 : decode cX5_count 213 = .ok (.ldc 148, 2) := by decide +kernel
theorem dX5_count_215 : decode cX5_count 215 = .ok (.invokespecial 63, 3) := by decide +kernel
theorem dX5_count_218 : decode cX5_count 218 = .ok (.athrow, 1) := by decide +kernel
theorem dX5_part_0 : decode cX5_part 0 = .ok (.iload_n 1, 1) := by decide +kernel
theorem dX5_part_1 : decode cX5_part 1 = .ok (.invokestatic 150, 3) := by decide +kernel
theorem dX5_part_4 : decode cX5_part 4 = .ok (.ifCond .ne 13, 3) := by decide +kernel
theorem dX5_part_7 : decode cX5_part 7 = .ok (.new 59, 3) := by decide +kernel
theorem dX5_part_10 : decode cX5_part 10 = .ok (.dup, 1) := by decide +kernel
theorem dX5_part_11 : decode cX5_part 11 = .ok (.ldc 156, 2) := by decide +kernel
theorem dX5_part_13 : decode cX5_part 13 = .ok (.invokespecial 63, 3) := by decide +kernel
theorem dX5_part_16 : decode cX5_part 16 = .ok (.athrow, 1) := by decide +kernel
theorem dX5_part_17 : decode cX5_part 17 = .ok (.iload_n 1, 1) := by decide +kernel
theorem dX5_part_18 : decode cX5_part 18 = .ok (.sipush 1440, 3) := by decide +kernel
theorem dX5_part_21 : decode cX5_part 21 = .ok (.idiv, 1) := by decide +kernel
theorem dX5_part_22 : decode cX5_part 22 = .ok (.istore_n 3, 1) := by decide +kernel
theorem dX5_part_23 : decode cX5_part 23 = .ok (.iload_n 2, 1) := by decide +kernel
theorem dX5_part_24 : decode cX5_part 24 = .ok (.tableswitch 77 0 5 #[40, 49, 54, 59, 67, 72], 40) := by decide +kernel
theorem dX5_part_64 : decode cX5_part 64 = .ok (.sipush 2000, 3) := by decide +kernel
theorem dX5_part_67 : decode cX5_part 67 = .ok (.iload_n 3, 1) := by decide +kernel
theorem dX5_part_68 : decode cX5_part 68 = .ok (.invokestatic 158, 3) := by decide +kernel
theorem dX5_part_71 : decode cX5_part 71 = .ok (.iadd, 1) := by decide +kernel
theorem dX5_part_72 : decode cX5_part 72 = .ok (.ireturn, 1) := by decide +kernel
theorem dX5_part_73 : decode cX5_part 73 = .ok (.iload_n 3, 1) := by decide +kernel
theorem dX5_part_74 : decode cX5_part 74 = .ok (.invokestatic 162, 3) := by decide +kernel
theorem dX5_part_77 : decode cX5_part 77 = .ok (.ireturn, 1) := by decide +kernel
theorem dX5_part_78 : decode cX5_part 78 = .ok (.iload_n 3, 1) := by decide +kernel
theorem dX5_part_79 : decode cX5_part 79 = .ok (.invokestatic 165, 3) := by decide +kernel
theorem dX5_part_82 : decode cX5_part 82 = .ok (.ireturn, 1) := by decide +kernel
theorem dX5_part_83 : decode cX5_part 83 = .ok (.iload_n 1, 1) := by decide +kernel
theorem dX5_part_84 : decode cX5_part 84 = .ok (.bipush 60, 2) := by decide +kernel
theorem dX5_part_86 : decode cX5_part 86 = .ok (.idiv, 1) := by decide +kernel
theorem dX5_part_87 : decode cX5_part 87 = .ok (.bipush 24, 2) := by decide +kernel
theorem dX5_part_89 : decode cX5_part 89 = .ok (.irem, 1) := by decide +kernel
theorem dX5_part_90 : decode cX5_part 90 = .ok (.ireturn, 1) := by decide +kernel
theorem dX5_part_91 : decode cX5_part 91 = .ok (.iload_n 1, 1) := by decide +kernel
theorem dX5_part_92 : decode cX5_part 92 = .ok (.bipush 60, 2) := by decide +kernel
theorem dX5_part_94 : decode cX5_part 94 = .ok (.irem, 1) := by decide +kernel
theorem dX5_part_95 : decode cX5_part 95 = .ok (.ireturn, 1) := by decide +kernel
theorem dX5_part_96 : decode cX5_part 96 = .ok (.iload_n 3, 1) := by decide +kernel
theorem dX5_part_97 : decode cX5_part 97 = .ok (.invokestatic 168, 3) := by decide +kernel
theorem dX5_part_100 : decode cX5_part 100 = .ok (.ireturn, 1) := by decide +kernel
theorem dX5_part_101 : decode cX5_part 101 = .ok (.new 59, 3) := by decide +kernel
theorem dX5_part_104 : decode cX5_part 104 = .ok (.dup, 1) := by decide +kernel
theorem dX5_part_105 : decode cX5_part 105 = .ok (.ldc 171, 2) := by decide +kernel
theorem dX5_part_107 : decode cX5_part 107 = .ok (.invokespecial 63, 3) := by decide +kernel
theorem dX5_part_110 : decode cX5_part 110 = .ok (.athrow, 1) := by decide +kernel
theorem dX5_number_0 : decode cX5_number 0 = .ok (.iload_n 1, 1) := by decide +kernel
theorem dX5_number_1 : decode cX5_number 1 = .ok (.sipush 2000, 3) := by decide +kernel
theorem dX5_number_4 : decode cX5_number 4 = .ok (.if_icmp .lt 10, 3) := by decide +kernel
theorem dX5_number_7 : decode cX5_number 7 = .ok (.iload_n 1, 1) := by decide +kernel
theorem dX5_number_8 : decode cX5_number 8 = .ok (.sipush 2099, 3) := by decide +kernel
theorem dX5_number_11 : decode cX5_number 11 = .ok (.if_icmp .le 13, 3) := by decide +kernel
theorem dX5_number_14 : decode cX5_number 14 = .ok (.new 59, 3) := by decide +kernel
theorem dX5_number_17 : decode cX5_number 17 = .ok (.dup, 1) := by decide +kernel
theorem dX5_number_18 : decode cX5_number 18 = .ok (.ldc 173, 2) := by decide +kernel
theorem dX5_number_20 : decode cX5_number 20 = .ok (.invokespecial 63, 3) := by decide +kernel
theorem dX5_number_23 : decode cX5_number 23 = .ok (.athrow, 1) := by decide +kernel
theorem dX5_number_24 : decode cX5_number 24 = .ok (.iload_n 1, 1) := by decide +kernel
theorem dX5_number_25 : decode cX5_number 25 = .ok (.sipush 2000, 3) := by decide +kernel
theorem dX5_number_28 : decode cX5_number 28 = .ok (.isub, 1) := by decide +kernel
theorem dX5_number_29 : decode cX5_number 29 = .ok (.iload_n 2, 1) := by decide +kernel
theorem dX5_number_30 : decode cX5_number 30 = .ok (.iload_n 3, 1) := by decide +kernel
theorem dX5_number_31 : decode cX5_number 31 = .ok (.invokestatic 175, 3) := by decide +kernel
theorem dX5_number_34 : decode cX5_number 34 = .ok (.istore 6, 2) := by decide +kernel
theorem dX5_number_36 : decode cX5_number 36 = .ok (.iload 6, 2) := by decide +kernel
theorem dX5_number_38 : decode cX5_number 38 = .ok (.iconst (-1), 1) := by decide +kernel
theorem dX5_number_39 : decode cX5_number 39 = .ok (.if_icmp .ne 13, 3) := by decide +kernel
theorem dX5_number_42 : decode cX5_number 42 = .ok (.new 59, 3) := by decide +kernel
theorem dX5_number_45 : decode cX5_number 45 = .ok (.dup, 1) := by decide +kernel
theorem dX5_number_46 : decode cX5_number 46 = .ok (.ldc 179, 2) := by decide +kernel
theorem dX5_number_48 : decode cX5_number 48 = .ok (.invokespecial 63, 3) := by decide +kernel
theorem dX5_number_51 : decode cX5_number 51 = .ok (.athrow, 1) := by decide +kernel
theorem dX5_number_52 : decode cX5_number 52 = .ok (.iload 4, 2) := by decide +kernel
theorem dX5_number_54 : decode cX5_number 54 = .ok (.ifCond .lt 22, 3) := by decide +kernel
theorem dX5_number_57 : decode cX5_number 57 = .ok (.iload 4, 2) := by decide +kernel
theorem dX5_number_59 : decode cX5_number 59 = .ok (.bipush 23, 2) := by decide +kernel
theorem dX5_number_61 : decode cX5_number 61 = .ok (.if_icmp .gt 15, 3) := by decide +kernel
theorem dX5_number_64 : decode cX5_number 64 = .ok (.iload 5, 2) := by decide +kernel
theorem dX5_number_66 : decode cX5_number 66 = .ok (.ifCond .lt 10, 3) := by decide +kernel
theorem dX5_number_69 : decode cX5_number 69 = .ok (.iload 5, 2) := by decide +kernel
theorem dX5_number_71 : decode cX5_number 71 = .ok (.bipush 59, 2) := by decide +kernel
theorem dX5_number_73 : decode cX5_number 73 = .ok (.if_icmp .le 13, 3) := by decide +kernel
theorem dX5_number_76 : decode cX5_number 76 = .ok (.new 59, 3) := by decide +kernel
theorem dX5_number_79 : decode cX5_number 79 = .ok (.dup, 1) := by decide +kernel
theorem dX5_number_80 : decode cX5_number 80 = .ok (.ldc 181, 2) := by decide +kernel
theorem dX5_number_82 : decode cX5_number 82 = .ok (.invokespecial 63, 3) := by decide +kernel
theorem dX5_number_85 : decode cX5_number 85 = .ok (.athrow, 1) := by decide +kernel
theorem dX5_number_86 : decode cX5_number 86 = .ok (.iload 6, 2) := by decide +kernel
theorem dX5_number_88 : decode cX5_number 88 = .ok (.iload 4, 2) := by decide +kernel
theorem dX5_number_90 : decode cX5_number 90 = .ok (.iload 5, 2) := by decide +kernel
theorem dX5_number_92 : decode cX5_number 92 = .ok (.invokestatic 183, 3) := by decide +kernel
theorem dX5_number_95 : decode cX5_number 95 = .ok (.ireturn, 1) := by decide +kernel
theorem dX5_code_0 : decode cX5_code 0 = .ok (.iload_n 1, 1) := by decide +kernel
theorem dX5_code_1 : decode cX5_code 1 = .ok (.invokestatic 150, 3) := by decide +kernel
theorem dX5_code_4 : decode cX5_code 4 = .ok (.ifCond .ne 13, 3) := by decide +kernel
theorem dX5_code_7 : decode cX5_code 7 = .ok (.new 59, 3) := by decide +kernel
theorem dX5_code_10 : decode cX5_code 10 = .ok (.dup, 1) := by decide +kernel
theorem dX5_code_11 : decode cX5_code 11 = .ok (.ldc 156, 2) := by decide +kernel
theorem dX5_code_13 : decode cX5_code 13 = .ok (.invokespecial 63, 3) := by decide +kernel
theorem dX5_code_16 : decode cX5_code 16 = .ok (.athrow, 1) := by decide +kernel
theorem dX5_code_17 : decode cX5_code 17 = .ok (.iload_n 1, 1) := by decide +kernel
theorem dX5_code_18 : decode cX5_code 18 = .ok (.iload_n 2, 1) := by decide +kernel
theorem dX5_code_19 : decode cX5_code 19 = .ok (.invokestatic 186, 3) := by decide +kernel
theorem dX5_code_22 : decode cX5_code 22 = .ok (.lreturn, 1) := by decide +kernel
theorem dX5_pulse_0 : decode cX5_pulse 0 = .ok (.iload_n 1, 1) := by decide +kernel
theorem dX5_pulse_1 : decode cX5_pulse 1 = .ok (.ifCond .lt 20, 3) := by decide +kernel
theorem dX5_pulse_4 : decode cX5_pulse 4 = .ok (.iload_n 1, 1) := by decide +kernel
theorem dX5_pulse_5 : decode cX5_pulse 5 = .ok (.ldc 192, 2) := by decide +kernel
theorem dX5_pulse_7 : decode cX5_pulse 7 = .ok (.if_icmp .gt 14, 3) := by decide +kernel
theorem dX5_pulse_10 : decode cX5_pulse 10 = .ok (.iload_n 1, 1) := by decide +kernel
theorem dX5_pulse_11 : decode cX5_pulse 11 = .ok (.aload_n 0, 1) := by decide +kernel
theorem dX5_pulse_12 : decode cX5_pulse 12 = .ok (.getfield 10, 3) := by decide +kernel
theorem dX5_pulse_15 : decode cX5_pulse 15 = .ok (.getfield 193, 3) := by decide +kernel
theorem dX5_pulse_18 : decode cX5_pulse 18 = .ok (.if_icmp .gt 13, 3) := by decide +kernel
theorem dX5_pulse_21 : decode cX5_pulse 21 = .ok (.new 59, 3) := by decide +kernel
theorem dX5_pulse_24 : decode cX5_pulse 24 = .ok (.dup, 1) := by decide +kernel
theorem dX5_pulse_25 : decode cX5_pulse 25 = .ok (.ldc 196, 2) := by decide +kernel
theorem dX5_pulse_27 : decode cX5_pulse 27 = .ok (.invokespecial 63, 3) := by decide +kernel
theorem dX5_pulse_30 : decode cX5_pulse 30 = .ok (.athrow, 1) := by decide +kernel
theorem dX5_pulse_31 : decode cX5_pulse 31 = .ok (.iload_n 2, 1) := by decide +kernel
theorem dX5_pulse_32 : decode cX5_pulse 32 = .ok (.ifCond .lt 10, 3) := by decide +kernel
theorem dX5_pulse_35 : decode cX5_pulse 35 = .ok (.iload_n 2, 1) := by decide +kernel
theorem dX5_pulse_36 : decode cX5_pulse 36 = .ok (.sipush 9999, 3) := by decide +kernel
theorem dX5_pulse_39 : decode cX5_pulse 39 = .ok (.if_icmp .le 13, 3) := by decide +kernel
theorem dX5_pulse_42 : decode cX5_pulse 42 = .ok (.new 59, 3) := by decide +kernel
theorem dX5_pulse_45 : decode cX5_pulse 45 = .ok (.dup, 1) := by decide +kernel
theorem dX5_pulse_46 : decode cX5_pulse 46 = .ok (.ldc 198, 2) := by decide +kernel
theorem dX5_pulse_48 : decode cX5_pulse 48 = .ok (.invokespecial 63, 3) := by decide +kernel
theorem dX5_pulse_51 : decode cX5_pulse 51 = .ok (.athrow, 1) := by decide +kernel
theorem dX5_pulse_52 : decode cX5_pulse 52 = .ok (.aload_n 0, 1) := by decide +kernel
theorem dX5_pulse_53 : decode cX5_pulse 53 = .ok (.invokevirtual 110, 3) := by decide +kernel
theorem dX5_pulse_56 : decode cX5_pulse 56 = .ok (.aload_n 0, 1) := by decide +kernel
theorem dX5_pulse_57 : decode cX5_pulse 57 = .ok (.getfield 10, 3) := by decide +kernel
theorem dX5_pulse_60 : decode cX5_pulse 60 = .ok (.iload_n 1, 1) := by decide +kernel
theorem dX5_pulse_61 : decode cX5_pulse 61 = .ok (.iload_n 2, 1) := by decide +kernel
theorem dX5_pulse_62 : decode cX5_pulse 62 = .ok (.invokevirtual 90, 3) := by decide +kernel
theorem dX5_pulse_65 : decode cX5_pulse 65 = .ok (.ireturn, 1) := by decide +kernel
theorem dX5_hear_0 : decode cX5_hear 0 = .ok (.iload_n 1, 1) := by decide +kernel
theorem dX5_hear_1 : decode cX5_hear 1 = .ok (.invokestatic 150, 3) := by decide +kernel
theorem dX5_hear_4 : decode cX5_hear 4 = .ok (.ifCond .ne 13, 3) := by decide +kernel
theorem dX5_hear_7 : decode cX5_hear 7 = .ok (.new 59, 3) := by decide +kernel
theorem dX5_hear_10 : decode cX5_hear 10 = .ok (.dup, 1) := by decide +kernel
theorem dX5_hear_11 : decode cX5_hear 11 = .ok (.ldc 156, 2) := by decide +kernel
theorem dX5_hear_13 : decode cX5_hear 13 = .ok (.invokespecial 63, 3) := by decide +kernel
theorem dX5_hear_16 : decode cX5_hear 16 = .ok (.athrow, 1) := by decide +kernel
theorem dX5_hear_17 : decode cX5_hear 17 = .ok (.aload_n 0, 1) := by decide +kernel
theorem dX5_hear_18 : decode cX5_hear 18 = .ok (.getfield 10, 3) := by decide +kernel
theorem dX5_hear_21 : decode cX5_hear 21 = .ok (.invokevirtual 200, 3) := by decide +kernel
theorem dX5_hear_24 : decode cX5_hear 24 = .ok (.ifCond .ne 13, 3) := by decide +kernel
theorem dX5_hear_27 : decode cX5_hear 27 = .ok (.new 48, 3) := by decide +kernel
theorem dX5_hear_30 : decode cX5_hear 30 = .ok (.dup, 1) := by decide +kernel
theorem dX5_hear_31 : decode cX5_hear 31 = .ok (.ldc 203, 2) := by decide +kernel
theorem dX5_hear_33 : decode cX5_hear 33 = .ok (.invokespecial 52, 3) := by decide +kernel
theorem dX5_hear_36 : decode cX5_hear 36 = .ok (.athrow, 1) := by decide +kernel
theorem dX5_hear_37 : decode cX5_hear 37 = .ok (.aload_n 0, 1) := by decide +kernel
theorem dX5_hear_38 : decode cX5_hear 38 = .ok (.invokevirtual 110, 3) := by decide +kernel
theorem dX5_hear_41 : decode cX5_hear 41 = .ok (.aload_n 0, 1) := by decide +kernel
theorem dX5_hear_42 : decode cX5_hear 42 = .ok (.getfield 10, 3) := by decide +kernel
theorem dX5_hear_45 : decode cX5_hear 45 = .ok (.iload_n 1, 1) := by decide +kernel
theorem dX5_hear_46 : decode cX5_hear 46 = .ok (.iload_n 2, 1) := by decide +kernel
theorem dX5_hear_47 : decode cX5_hear 47 = .ok (.lload_n 3, 1) := by decide +kernel
theorem dX5_hear_48 : decode cX5_hear 48 = .ok (.invokevirtual 102, 3) := by decide +kernel
theorem dX5_hear_51 : decode cX5_hear 51 = .ok (.ireturn, 1) := by decide +kernel
theorem dX5_bit_0 : decode cX5_bit 0 = .ok (.iload_n 1, 1) := by decide +kernel
theorem dX5_bit_1 : decode cX5_bit 1 = .ok (.ifCond .lt 20, 3) := by decide +kernel
theorem dX5_bit_4 : decode cX5_bit 4 = .ok (.iload_n 1, 1) := by decide +kernel
theorem dX5_bit_5 : decode cX5_bit 5 = .ok (.bipush 58, 2) := by decide +kernel
theorem dX5_bit_7 : decode cX5_bit 7 = .ok (.if_icmp .gt 14, 3) := by decide +kernel
theorem dX5_bit_10 : decode cX5_bit 10 = .ok (.iload_n 1, 1) := by decide +kernel
theorem dX5_bit_11 : decode cX5_bit 11 = .ok (.aload_n 0, 1) := by decide +kernel
theorem dX5_bit_12 : decode cX5_bit 12 = .ok (.getfield 10, 3) := by decide +kernel
theorem dX5_bit_15 : decode cX5_bit 15 = .ok (.getfield 119, 3) := by decide +kernel
theorem dX5_bit_18 : decode cX5_bit 18 = .ok (.if_icmp .le 13, 3) := by decide +kernel
theorem dX5_bit_21 : decode cX5_bit 21 = .ok (.new 205, 3) := by decide +kernel
theorem dX5_bit_24 : decode cX5_bit 24 = .ok (.dup, 1) := by decide +kernel
theorem dX5_bit_25 : decode cX5_bit 25 = .ok (.ldc 207, 2) := by decide +kernel
theorem dX5_bit_27 : decode cX5_bit 27 = .ok (.invokespecial 209, 3) := by decide +kernel
theorem dX5_bit_30 : decode cX5_bit 30 = .ok (.athrow, 1) := by decide +kernel
theorem dX5_bit_31 : decode cX5_bit 31 = .ok (.aload_n 0, 1) := by decide +kernel
theorem dX5_bit_32 : decode cX5_bit 32 = .ok (.getfield 10, 3) := by decide +kernel
theorem dX5_bit_35 : decode cX5_bit 35 = .ok (.getfield 210, 3) := by decide +kernel
theorem dX5_bit_38 : decode cX5_bit 38 = .ok (.aload_n 0, 1) := by decide +kernel
theorem dX5_bit_39 : decode cX5_bit 39 = .ok (.getfield 10, 3) := by decide +kernel
theorem dX5_bit_42 : decode cX5_bit 42 = .ok (.getfield 213, 3) := by decide +kernel
theorem dX5_bit_45 : decode cX5_bit 45 = .ok (.iload_n 1, 1) := by decide +kernel
theorem dX5_bit_46 : decode cX5_bit 46 = .ok (.invokestatic 216, 3) := by decide +kernel
theorem dX5_bit_49 : decode cX5_bit 49 = .ok (.ireturn, 1) := by decide +kernel
theorem dX5_frame_0 : decode cX5_frame 0 = .ok (.aload_n 0, 1) := by decide +kernel
theorem dX5_frame_1 : decode cX5_frame 1 = .ok (.getfield 10, 3) := by decide +kernel
theorem dX5_frame_4 : decode cX5_frame 4 = .ok (.iload_n 1, 1) := by decide +kernel
theorem dX5_frame_5 : decode cX5_frame 5 = .ok (.invokevirtual 220, 3) := by decide +kernel
theorem dX5_frame_8 : decode cX5_frame 8 = .ok (.ifCond .ne 13, 3) := by decide +kernel
theorem dX5_frame_11 : decode cX5_frame 11 = .ok (.new 205, 3) := by decide +kernel
theorem dX5_frame_14 : decode cX5_frame 14 = .ok (.dup, 1) := by decide +kernel
theorem dX5_frame_15 : decode cX5_frame 15 = .ok (.ldc 223, 2) := by decide +kernel
theorem dX5_frame_17 : decode cX5_frame 17 = .ok (.invokespecial 209, 3) := by decide +kernel
theorem dX5_frame_20 : decode cX5_frame 20 = .ok (.athrow, 1) := by decide +kernel
theorem dX5_frame_21 : decode cX5_frame 21 = .ok (.aload_n 0, 1) := by decide +kernel
theorem dX5_frame_22 : decode cX5_frame 22 = .ok (.getfield 10, 3) := by decide +kernel
theorem dX5_frame_25 : decode cX5_frame 25 = .ok (.getfield 225, 3) := by decide +kernel
theorem dX5_frame_28 : decode cX5_frame 28 = .ok (.iload_n 1, 1) := by decide +kernel
theorem dX5_frame_29 : decode cX5_frame 29 = .ok (.laload, 1) := by decide +kernel
theorem dX5_frame_30 : decode cX5_frame 30 = .ok (.lstore_n 3, 1) := by decide +kernel
theorem dX5_frame_31 : decode cX5_frame 31 = .ok (.aload_n 0, 1) := by decide +kernel
theorem dX5_frame_32 : decode cX5_frame 32 = .ok (.getfield 10, 3) := by decide +kernel
theorem dX5_frame_35 : decode cX5_frame 35 = .ok (.getfield 229, 3) := by decide +kernel
theorem dX5_frame_38 : decode cX5_frame 38 = .ok (.iload_n 1, 1) := by decide +kernel
theorem dX5_frame_39 : decode cX5_frame 39 = .ok (.laload, 1) := by decide +kernel
theorem dX5_frame_40 : decode cX5_frame 40 = .ok (.lstore 5, 2) := by decide +kernel
theorem dX5_frame_42 : decode cX5_frame 42 = .ok (.iload_n 2, 1) := by decide +kernel
theorem dX5_frame_43 : decode cX5_frame 43 = .ok (.tableswitch 64 0 3 #[29, 39, 46, 55], 29) := by decide +kernel
theorem dX5_frame_72 : decode cX5_frame 72 = .ok (.lload 5, 2) := by decide +kernel
theorem dX5_frame_74 : decode cX5_frame 74 = .ok (.ldc2_w 232, 3) := by decide +kernel
theorem dX5_frame_77 : decode cX5_frame 77 = .ok (.land, 1) := by decide +kernel
theorem dX5_frame_78 : decode cX5_frame 78 = .ok (.invokestatic 234, 3) := by decide +kernel
theorem dX5_frame_81 : decode cX5_frame 81 = .ok (.ireturn, 1) := by decide +kernel
theorem dX5_frame_82 : decode cX5_frame 82 = .ok (.lload_n 3, 1) := by decide +kernel
theorem dX5_frame_83 : decode cX5_frame 83 = .ok (.lload 5, 2) := by decide +kernel
theorem dX5_frame_85 : decode cX5_frame 85 = .ok (.invokestatic 240, 3) := by decide +kernel
theorem dX5_frame_88 : decode cX5_frame 88 = .ok (.ireturn, 1) := by decide +kernel
theorem dX5_frame_89 : decode cX5_frame 89 = .ok (.aload_n 0, 1) := by decide +kernel
theorem dX5_frame_90 : decode cX5_frame 90 = .ok (.getfield 10, 3) := by decide +kernel
theorem dX5_frame_93 : decode cX5_frame 93 = .ok (.iload_n 1, 1) := by decide +kernel
theorem dX5_frame_94 : decode cX5_frame 94 = .ok (.invokevirtual 244, 3) := by decide +kernel
theorem dX5_frame_97 : decode cX5_frame 97 = .ok (.ireturn, 1) := by decide +kernel
theorem dX5_frame_98 : decode cX5_frame 98 = .ok (.lload_n 3, 1) := by decide +kernel
theorem dX5_frame_99 : decode cX5_frame 99 = .ok (.lload 5, 2) := by decide +kernel
theorem dX5_frame_101 : decode cX5_frame 101 = .ok (.bipush 19, 2) := by decide +kernel
theorem dX5_frame_103 : decode cX5_frame 103 = .ok (.invokestatic 216, 3) := by decide +kernel
theorem dX5_frame_106 : decode cX5_frame 106 = .ok (.ireturn, 1) := by decide +kernel
theorem dX5_frame_107 : decode cX5_frame 107 = .ok (.new 59, 3) := by decide +kernel
theorem dX5_frame_110 : decode cX5_frame 110 = .ok (.dup, 1) := by decide +kernel
theorem dX5_frame_111 : decode cX5_frame 111 = .ok (.ldc 247, 2) := by decide +kernel
theorem dX5_frame_113 : decode cX5_frame 113 = .ok (.invokespecial 63, 3) := by decide +kernel
theorem dX5_frame_116 : decode cX5_frame 116 = .ok (.athrow, 1) := by decide +kernel
theorem dX5_frameBit_0 : decode cX5_frameBit 0 = .ok (.aload_n 0, 1) := by decide +kernel
theorem dX5_frameBit_1 : decode cX5_frameBit 1 = .ok (.getfield 10, 3) := by decide +kernel
theorem dX5_frameBit_4 : decode cX5_frameBit 4 = .ok (.iload_n 1, 1) := by decide +kernel
theorem dX5_frameBit_5 : decode cX5_frameBit 5 = .ok (.invokevirtual 220, 3) := by decide +kernel
theorem dX5_frameBit_8 : decode cX5_frameBit 8 = .ok (.ifCond .ne 13, 3) := by decide +kernel
theorem dX5_frameBit_11 : decode cX5_frameBit 11 = .ok (.new 205, 3) := by decide +kernel
theorem dX5_frameBit_14 : decode cX5_frameBit 14 = .ok (.dup, 1) := by decide +kernel
theorem dX5_frameBit_15 : decode cX5_frameBit 15 = .ok (.ldc 223, 2) := by decide +kernel
theorem dX5_frameBit_17 : decode cX5_frameBit 17 = .ok (.invokespecial 209, 3) := by decide +kernel
theorem dX5_frameBit_20 : decode cX5_frameBit 20 = .ok (.athrow, 1) := by decide +kernel
theorem dX5_frameBit_21 : decode cX5_frameBit 21 = .ok (.iload_n 2, 1) := by decide +kernel
theorem dX5_frameBit_22 : decode cX5_frameBit 22 = .ok (.ifCond .lt 9, 3) := by decide +kernel
theorem dX5_frameBit_25 : decode cX5_frameBit 25 = .ok (.iload_n 2, 1) := by decide +kernel
theorem dX5_frameBit_26 : decode cX5_frameBit 26 = .ok (.bipush 58, 2) := by decide +kernel
theorem dX5_frameBit_28 : decode cX5_frameBit 28 = .ok (.if_icmp .le 13, 3) := by decide +kernel
theorem dX5_frameBit_31 : decode cX5_frameBit 31 = .ok (.new 205, 3) := by decide +kernel
theorem dX5_frameBit_34 : decode cX5_frameBit 34 = .ok (.dup, 1) := by decide +kernel
theorem dX5_frameBit_35 : decode cX5_frameBit 35 = .ok (.ldc 249, 2) := by decide +kernel
theorem dX5_frameBit_37 : decode cX5_frameBit 37 = .ok (.invokespecial 209, 3) := by decide +kernel
theorem dX5_frameBit_40 : decode cX5_frameBit 40 = .ok (.athrow, 1) := by decide +kernel
theorem dX5_frameBit_41 : decode cX5_frameBit 41 = .ok (.aload_n 0, 1) := by decide +kernel
theorem dX5_frameBit_42 : decode cX5_frameBit 42 = .ok (.getfield 10, 3) := by decide +kernel
theorem dX5_frameBit_45 : decode cX5_frameBit 45 = .ok (.getfield 225, 3) := by decide +kernel
theorem dX5_frameBit_48 : decode cX5_frameBit 48 = .ok (.iload_n 1, 1) := by decide +kernel
theorem dX5_frameBit_49 : decode cX5_frameBit 49 = .ok (.laload, 1) := by decide +kernel
theorem dX5_frameBit_50 : decode cX5_frameBit 50 = .ok (.aload_n 0, 1) := by decide +kernel
theorem dX5_frameBit_51 : decode cX5_frameBit 51 = .ok (.getfield 10, 3) := by decide +kernel
theorem dX5_frameBit_54 : decode cX5_frameBit 54 = .ok (.getfield 229, 3) := by decide +kernel
theorem dX5_frameBit_57 : decode cX5_frameBit 57 = .ok (.iload_n 1, 1) := by decide +kernel
theorem dX5_frameBit_58 : decode cX5_frameBit 58 = .ok (.laload, 1) := by decide +kernel
theorem dX5_frameBit_59 : decode cX5_frameBit 59 = .ok (.iload_n 2, 1) := by decide +kernel
theorem dX5_frameBit_60 : decode cX5_frameBit 60 = .ok (.invokestatic 216, 3) := by decide +kernel
theorem dX5_frameBit_63 : decode cX5_frameBit 63 = .ok (.ireturn, 1) := by decide +kernel
theorem dX5_votes_0 : decode cX5_votes 0 = .ok (.aload_n 0, 1) := by decide +kernel
theorem dX5_votes_1 : decode cX5_votes 1 = .ok (.getfield 10, 3) := by decide +kernel
theorem dX5_votes_4 : decode cX5_votes 4 = .ok (.invokevirtual 251, 3) := by decide +kernel
theorem dX5_votes_7 : decode cX5_votes 7 = .ok (.aload_n 0, 1) := by decide +kernel
theorem dX5_votes_8 : decode cX5_votes 8 = .ok (.getfield 10, 3) := by decide +kernel
theorem dX5_votes_11 : decode cX5_votes 11 = .ok (.getfield 254, 3) := by decide +kernel
theorem dX5_votes_14 : decode cX5_votes 14 = .ok (.iload_n 1, 1) := by decide +kernel
theorem dX5_votes_15 : decode cX5_votes 15 = .ok (.invokevirtual 258, 3) := by decide +kernel
theorem dX5_votes_18 : decode cX5_votes 18 = .ok (.ireturn, 1) := by decide +kernel
theorem dX5_favourite_0 : decode cX5_favourite 0 = .ok (.aload_n 0, 1) := by decide +kernel
theorem dX5_favourite_1 : decode cX5_favourite 1 = .ok (.getfield 10, 3) := by decide +kernel
theorem dX5_favourite_4 : decode cX5_favourite 4 = .ok (.invokevirtual 251, 3) := by decide +kernel
theorem dX5_favourite_7 : decode cX5_favourite 7 = .ok (.aload_n 0, 1) := by decide +kernel
theorem dX5_favourite_8 : decode cX5_favourite 8 = .ok (.getfield 10, 3) := by decide +kernel
theorem dX5_favourite_11 : decode cX5_favourite 11 = .ok (.getfield 254, 3) := by decide +kernel
theorem dX5_favourite_14 : decode cX5_favourite 14 = .ok (.invokevirtual 263, 3) := by decide +kernel
theorem dX5_favourite_17 : decode cX5_favourite 17 = .ok (.istore_n 1, 1) := by decide +kernel
theorem dX5_favourite_18 : decode cX5_favourite 18 = .ok (.iload_n 1, 1) := by decide +kernel
theorem dX5_favourite_19 : decode cX5_favourite 19 = .ok (.iconst (-1), 1) := by decide +kernel
theorem dX5_favourite_20 : decode cX5_favourite 20 = .ok (.if_icmp .ne 14, 3) := by decide +kernel
theorem dX5_favourite_23 : decode cX5_favourite 23 = .ok (.new 266, 3) := by decide +kernel
theorem dX5_favourite_26 : decode cX5_favourite 26 = .ok (.dup, 1) := by decide +kernel
theorem dX5_favourite_27 : decode cX5_favourite 27 = .ok (.ldc_w 268, 3) := by decide +kernel
theorem dX5_favourite_30 : decode cX5_favourite 30 = .ok (.invokespecial 270, 3) := by decide +kernel
theorem dX5_favourite_33 : decode cX5_favourite 33 = .ok (.athrow, 1) := by decide +kernel
theorem dX5_favourite_34 : decode cX5_favourite 34 = .ok (.iload_n 1, 1) := by decide +kernel
theorem dX5_favourite_35 : decode cX5_favourite 35 = .ok (.ireturn, 1) := by decide +kernel
theorem dX5_block_0 : decode cX5_block 0 = .ok (.aload_n 0, 1) := by decide +kernel
theorem dX5_block_1 : decode cX5_block 1 = .ok (.getfield 10, 3) := by decide +kernel
theorem dX5_block_4 : decode cX5_block 4 = .ok (.iload_n 1, 1) := by decide +kernel
theorem dX5_block_5 : decode cX5_block 5 = .ok (.invokevirtual 220, 3) := by decide +kernel
theorem dX5_block_8 : decode cX5_block 8 = .ok (.ifCond .ne 13, 3) := by decide +kernel
theorem dX5_block_11 : decode cX5_block 11 = .ok (.new 205, 3) := by decide +kernel
theorem dX5_block_14 : decode cX5_block 14 = .ok (.dup, 1) := by decide +kernel
theorem dX5_block_15 : decode cX5_block 15 = .ok (.ldc 223, 2) := by decide +kernel
theorem dX5_block_17 : decode cX5_block 17 = .ok (.invokespecial 209, 3) := by decide +kernel
theorem dX5_block_20 : decode cX5_block 20 = .ok (.athrow, 1) := by decide +kernel
theorem dX5_block_21 : decode cX5_block 21 = .ok (.iload_n 2, 1) := by decide +kernel
theorem dX5_block_22 : decode cX5_block 22 = .ok (.ifCond .lt 8, 3) := by decide +kernel
theorem dX5_block_25 : decode cX5_block 25 = .ok (.iload_n 2, 1) := by decide +kernel
theorem dX5_block_26 : decode cX5_block 26 = .ok (.iconst 3, 1) := by decide +kernel
theorem dX5_block_27 : decode cX5_block 27 = .ok (.if_icmp .lt 14, 3) := by decide +kernel
theorem dX5_block_30 : decode cX5_block 30 = .ok (.new 59, 3) := by decide +kernel
theorem dX5_block_33 : decode cX5_block 33 = .ok (.dup, 1) := by decide +kernel
theorem dX5_block_34 : decode cX5_block 34 = .ok (.ldc_w 271, 3) := by decide +kernel
theorem dX5_block_37 : decode cX5_block 37 = .ok (.invokespecial 63, 3) := by decide +kernel
theorem dX5_block_40 : decode cX5_block 40 = .ok (.athrow, 1) := by decide +kernel
theorem dX5_block_41 : decode cX5_block 41 = .ok (.aload_n 0, 1) := by decide +kernel
theorem dX5_block_42 : decode cX5_block 42 = .ok (.getfield 10, 3) := by decide +kernel
theorem dX5_block_45 : decode cX5_block 45 = .ok (.getfield 225, 3) := by decide +kernel
theorem dX5_block_48 : decode cX5_block 48 = .ok (.iload_n 1, 1) := by decide +kernel
theorem dX5_block_49 : decode cX5_block 49 = .ok (.laload, 1) := by decide +kernel
theorem dX5_block_50 : decode cX5_block 50 = .ok (.aload_n 0, 1) := by decide +kernel
theorem dX5_block_51 : decode cX5_block 51 = .ok (.getfield 10, 3) := by decide +kernel
theorem dX5_block_54 : decode cX5_block 54 = .ok (.getfield 229, 3) := by decide +kernel
theorem dX5_block_57 : decode cX5_block 57 = .ok (.iload_n 1, 1) := by decide +kernel
theorem dX5_block_58 : decode cX5_block 58 = .ok (.laload, 1) := by decide +kernel
theorem dX5_block_59 : decode cX5_block 59 = .ok (.iload_n 2, 1) := by decide +kernel
theorem dX5_block_60 : decode cX5_block 60 = .ok (.invokestatic 273, 3) := by decide +kernel
theorem dX5_block_63 : decode cX5_block 63 = .ok (.ireturn, 1) := by decide +kernel
theorem dX5_assembled_0 : decode cX5_assembled 0 = .ok (.aload_n 0, 1) := by decide +kernel
theorem dX5_assembled_1 : decode cX5_assembled 1 = .ok (.getfield 10, 3) := by decide +kernel
theorem dX5_assembled_4 : decode cX5_assembled 4 = .ok (.invokevirtual 276, 3) := by decide +kernel
theorem dX5_assembled_7 : decode cX5_assembled 7 = .ok (.ireturn, 1) := by decide +kernel
theorem dX5_dissenting_0 : decode cX5_dissenting 0 = .ok (.aload_n 0, 1) := by decide +kernel
theorem dX5_dissenting_1 : decode cX5_dissenting 1 = .ok (.getfield 10, 3) := by decide +kernel
theorem dX5_dissenting_4 : decode cX5_dissenting 4 = .ok (.invokevirtual 276, 3) := by decide +kernel
theorem dX5_dissenting_7 : decode cX5_dissenting 7 = .ok (.istore_n 1, 1) := by decide +kernel
theorem dX5_dissenting_8 : decode cX5_dissenting 8 = .ok (.iload_n 1, 1) := by decide +kernel
theorem dX5_dissenting_9 : decode cX5_dissenting 9 = .ok (.iconst (-1), 1) := by decide +kernel
theorem dX5_dissenting_10 : decode cX5_dissenting 10 = .ok (.if_icmp .ne 14, 3) := by decide +kernel
theorem dX5_dissenting_13 : decode cX5_dissenting 13 = .ok (.new 266, 3) := by decide +kernel
theorem dX5_dissenting_16 : decode cX5_dissenting 16 = .ok (.dup, 1) := by decide +kernel
theorem dX5_dissenting_17 : decode cX5_dissenting 17 = .ok (.ldc_w 279, 3) := by decide +kernel
theorem dX5_dissenting_20 : decode cX5_dissenting 20 = .ok (.invokespecial 270, 3) := by decide +kernel
theorem dX5_dissenting_23 : decode cX5_dissenting 23 = .ok (.athrow, 1) := by decide +kernel
theorem dX5_dissenting_24 : decode cX5_dissenting 24 = .ok (.aload_n 0, 1) := by decide +kernel
theorem dX5_dissenting_25 : decode cX5_dissenting 25 = .ok (.getfield 10, 3) := by decide +kernel
theorem dX5_dissenting_28 : decode cX5_dissenting 28 = .ok (.invokevirtual 251, 3) := by decide +kernel
theorem dX5_dissenting_31 : decode cX5_dissenting 31 = .ok (.aload_n 0, 1) := by decide +kernel
theorem dX5_dissenting_32 : decode cX5_dissenting 32 = .ok (.getfield 10, 3) := by decide +kernel
theorem dX5_dissenting_35 : decode cX5_dissenting 35 = .ok (.getfield 254, 3) := by decide +kernel
theorem dX5_dissenting_38 : decode cX5_dissenting 38 = .ok (.getfield 281, 3) := by decide +kernel
theorem dX5_dissenting_41 : decode cX5_dissenting 41 = .ok (.aload_n 0, 1) := by decide +kernel
theorem dX5_dissenting_42 : decode cX5_dissenting 42 = .ok (.getfield 10, 3) := by decide +kernel
theorem dX5_dissenting_45 : decode cX5_dissenting 45 = .ok (.getfield 254, 3) := by decide +kernel
theorem dX5_dissenting_48 : decode cX5_dissenting 48 = .ok (.iload_n 1, 1) := by decide +kernel
theorem dX5_dissenting_49 : decode cX5_dissenting 49 = .ok (.invokevirtual 258, 3) := by decide +kernel
theorem dX5_dissenting_52 : decode cX5_dissenting 52 = .ok (.isub, 1) := by decide +kernel
theorem dX5_dissenting_53 : decode cX5_dissenting 53 = .ok (.ireturn, 1) := by decide +kernel
theorem dX5_weakest_0 : decode cX5_weakest 0 = .ok (.aload_n 0, 1) := by decide +kernel
theorem dX5_weakest_1 : decode cX5_weakest 1 = .ok (.getfield 10, 3) := by decide +kernel
theorem dX5_weakest_4 : decode cX5_weakest 4 = .ok (.invokevirtual 284, 3) := by decide +kernel
theorem dX5_weakest_7 : decode cX5_weakest 7 = .ok (.ireturn, 1) := by decide +kernel
theorem dX5_fix_0 : decode cX5_fix 0 = .ok (.iload_n 1, 1) := by decide +kernel
theorem dX5_fix_1 : decode cX5_fix 1 = .ok (.ifCond .lt 20, 3) := by decide +kernel
theorem dX5_fix_4 : decode cX5_fix 4 = .ok (.iload_n 1, 1) := by decide +kernel
theorem dX5_fix_5 : decode cX5_fix 5 = .ok (.aload_n 0, 1) := by decide +kernel
theorem dX5_fix_6 : decode cX5_fix 6 = .ok (.getfield 10, 3) := by decide +kernel
theorem dX5_fix_9 : decode cX5_fix 9 = .ok (.getfield 131, 3) := by decide +kernel
theorem dX5_fix_12 : decode cX5_fix 12 = .ok (.if_icmp .ge 9, 3) := by decide +kernel
theorem dX5_fix_15 : decode cX5_fix 15 = .ok (.iload_n 1, 1) := by decide +kernel
theorem dX5_fix_16 : decode cX5_fix 16 = .ok (.bipush 8, 2) := by decide +kernel
theorem dX5_fix_18 : decode cX5_fix 18 = .ok (.if_icmp .lt 14, 3) := by decide +kernel
theorem dX5_fix_21 : decode cX5_fix 21 = .ok (.new 205, 3) := by decide +kernel
theorem dX5_fix_24 : decode cX5_fix 24 = .ok (.dup, 1) := by decide +kernel
theorem dX5_fix_25 : decode cX5_fix 25 = .ok (.ldc_w 287, 3) := by decide +kernel
theorem dX5_fix_28 : decode cX5_fix 28 = .ok (.invokespecial 209, 3) := by decide +kernel
theorem dX5_fix_31 : decode cX5_fix 31 = .ok (.athrow, 1) := by decide +kernel
theorem dX5_fix_32 : decode cX5_fix 32 = .ok (.iload_n 2, 1) := by decide +kernel
theorem dX5_fix_33 : decode cX5_fix 33 = .ok (.ifCond .ne 13, 3) := by decide +kernel
theorem dX5_fix_36 : decode cX5_fix 36 = .ok (.aload_n 0, 1) := by decide +kernel
theorem dX5_fix_37 : decode cX5_fix 37 = .ok (.getfield 10, 3) := by decide +kernel
theorem dX5_fix_40 : decode cX5_fix 40 = .ok (.getfield 289, 3) := by decide +kernel
theorem dX5_fix_43 : decode cX5_fix 43 = .ok (.iload_n 1, 1) := by decide +kernel
theorem dX5_fix_44 : decode cX5_fix 44 = .ok (.iaload, 1) := by decide +kernel
theorem dX5_fix_45 : decode cX5_fix 45 = .ok (.ireturn, 1) := by decide +kernel
theorem dX5_fix_46 : decode cX5_fix 46 = .ok (.iload_n 2, 1) := by decide +kernel
theorem dX5_fix_47 : decode cX5_fix 47 = .ok (.iconst 1, 1) := by decide +kernel
theorem dX5_fix_48 : decode cX5_fix 48 = .ok (.if_icmp .ne 13, 3) := by decide +kernel
theorem dX5_fix_51 : decode cX5_fix 51 = .ok (.aload_n 0, 1) := by decide +kernel
theorem dX5_fix_52 : decode cX5_fix 52 = .ok (.getfield 10, 3) := by decide +kernel
theorem dX5_fix_55 : decode cX5_fix 55 = .ok (.getfield 292, 3) := by decide +kernel
theorem dX5_fix_58 : decode cX5_fix 58 = .ok (.iload_n 1, 1) := by decide +kernel
theorem dX5_fix_59 : decode cX5_fix 59 = .ok (.iaload, 1) := by decide +kernel
theorem dX5_fix_60 : decode cX5_fix 60 = .ok (.ireturn, 1) := by decide +kernel
theorem dX5_fix_61 : decode cX5_fix 61 = .ok (.new 59, 3) := by decide +kernel
theorem dX5_fix_64 : decode cX5_fix 64 = .ok (.dup, 1) := by decide +kernel
theorem dX5_fix_65 : decode cX5_fix 65 = .ok (.ldc_w 295, 3) := by decide +kernel
theorem dX5_fix_68 : decode cX5_fix 68 = .ok (.invokespecial 63, 3) := by decide +kernel
theorem dX5_fix_71 : decode cX5_fix 71 = .ok (.athrow, 1) := by decide +kernel
theorem dX5_clock_0 : decode cX5_clock 0 = .ok (.iload_n 1, 1) := by decide +kernel
theorem dX5_clock_1 : decode cX5_clock 1 = .ok (.ifCond .lt 9, 3) := by decide +kernel
theorem dX5_clock_4 : decode cX5_clock 4 = .ok (.iload_n 1, 1) := by decide +kernel
theorem dX5_clock_5 : decode cX5_clock 5 = .ok (.ldc 192, 2) := by decide +kernel
theorem dX5_clock_7 : decode cX5_clock 7 = .ok (.if_icmp .le 14, 3) := by decide +kernel
theorem dX5_clock_10 : decode cX5_clock 10 = .ok (.new 59, 3) := by decide +kernel
theorem dX5_clock_13 : decode cX5_clock 13 = .ok (.dup, 1) := by decide +kernel
theorem dX5_clock_14 : decode cX5_clock 14 = .ok (.ldc_w 297, 3) := by decide +kernel
theorem dX5_clock_17 : decode cX5_clock 17 = .ok (.invokespecial 63, 3) := by decide +kernel
theorem dX5_clock_20 : decode cX5_clock 20 = .ok (.athrow, 1) := by decide +kernel
theorem dX5_clock_21 : decode cX5_clock 21 = .ok (.aload_n 0, 1) := by decide +kernel
theorem dX5_clock_22 : decode cX5_clock 22 = .ok (.getfield 10, 3) := by decide +kernel
theorem dX5_clock_25 : decode cX5_clock 25 = .ok (.getfield 131, 3) := by decide +kernel
theorem dX5_clock_28 : decode cX5_clock 28 = .ok (.ifCond .eq 16, 3) := by decide +kernel
theorem dX5_clock_31 : decode cX5_clock 31 = .ok (.aload_n 0, 1) := by decide +kernel
theorem dX5_clock_32 : decode cX5_clock 32 = .ok (.getfield 10, 3) := by decide +kernel
theorem dX5_clock_35 : decode cX5_clock 35 = .ok (.getfield 292, 3) := by decide +kernel
theorem dX5_clock_38 : decode cX5_clock 38 = .ok (.iconst 0, 1) := by decide +kernel
theorem dX5_clock_39 : decode cX5_clock 39 = .ok (.iaload, 1) := by decide +kernel
theorem dX5_clock_40 : decode cX5_clock 40 = .ok (.iload_n 1, 1) := by decide +kernel
theorem dX5_clock_41 : decode cX5_clock 41 = .ok (.if_icmp .le 14, 3) := by decide +kernel
theorem dX5_clock_44 : decode cX5_clock 44 = .ok (.new 266, 3) := by decide +kernel
theorem dX5_clock_47 : decode cX5_clock 47 = .ok (.dup, 1) := by decide +kernel
theorem dX5_clock_48 : decode cX5_clock 48 = .ok (.ldc_w 299, 3) := by decide +kernel
theorem dX5_clock_51 : decode cX5_clock 51 = .ok (.invokespecial 270, 3) := by decide +kernel
theorem dX5_clock_54 : decode cX5_clock 54 = .ok (.athrow, 1) := by decide +kernel
theorem dX5_clock_55 : decode cX5_clock 55 = .ok (.iload_n 1, 1) := by decide +kernel
theorem dX5_clock_56 : decode cX5_clock 56 = .ok (.i2l, 1) := by decide +kernel
theorem dX5_clock_57 : decode cX5_clock 57 = .ok (.aload_n 0, 1) := by decide +kernel
theorem dX5_clock_58 : decode cX5_clock 58 = .ok (.getfield 10, 3) := by decide +kernel
theorem dX5_clock_61 : decode cX5_clock 61 = .ok (.getfield 292, 3) := by decide +kernel
theorem dX5_clock_64 : decode cX5_clock 64 = .ok (.iconst 0, 1) := by decide +kernel
theorem dX5_clock_65 : decode cX5_clock 65 = .ok (.iaload, 1) := by decide +kernel
theorem dX5_clock_66 : decode cX5_clock 66 = .ok (.i2l, 1) := by decide +kernel
theorem dX5_clock_67 : decode cX5_clock 67 = .ok (.lsub, 1) := by decide +kernel
theorem dX5_clock_68 : decode cX5_clock 68 = .ok (.lstore_n 2, 1) := by decide +kernel
theorem dX5_clock_69 : decode cX5_clock 69 = .ok (.lload_n 2, 1) := by decide +kernel
theorem dX5_clock_70 : decode cX5_clock 70 = .ok (.aload_n 0, 1) := by decide +kernel
theorem dX5_clock_71 : decode cX5_clock 71 = .ok (.getfield 10, 3) := by decide +kernel
theorem dX5_clock_74 : decode cX5_clock 74 = .ok (.getfield 134, 3) := by decide +kernel
theorem dX5_clock_77 : decode cX5_clock 77 = .ok (.iconst 4, 1) := by decide +kernel
theorem dX5_clock_78 : decode cX5_clock 78 = .ok (.iaload, 1) := by decide +kernel
theorem dX5_clock_79 : decode cX5_clock 79 = .ok (.i2l, 1) := by decide +kernel
theorem dX5_clock_80 : decode cX5_clock 80 = .ok (.lmul, 1) := by decide +kernel
theorem dX5_clock_81 : decode cX5_clock 81 = .ok (.ldc2_w 301, 3) := by decide +kernel
theorem dX5_clock_84 : decode cX5_clock 84 = .ok (.ldiv, 1) := by decide +kernel
theorem dX5_clock_85 : decode cX5_clock 85 = .ok (.lstore 4, 2) := by decide +kernel
theorem dX5_clock_87 : decode cX5_clock 87 = .ok (.ldc2_w 303, 3) := by decide +kernel
theorem dX5_clock_90 : decode cX5_clock 90 = .ok (.aload_n 0, 1) := by decide +kernel
theorem dX5_clock_91 : decode cX5_clock 91 = .ok (.getfield 10, 3) := by decide +kernel
theorem dX5_clock_94 : decode cX5_clock 94 = .ok (.getfield 289, 3) := by decide +kernel
theorem dX5_clock_97 : decode cX5_clock 97 = .ok (.iconst 0, 1) := by decide +kernel
theorem dX5_clock_98 : decode cX5_clock 98 = .ok (.iaload, 1) := by decide +kernel
theorem dX5_clock_99 : decode cX5_clock 99 = .ok (.i2l, 1) := by decide +kernel
theorem dX5_clock_100 : decode cX5_clock 100 = .ok (.lmul, 1) := by decide +kernel
theorem dX5_clock_101 : decode cX5_clock 101 = .ok (.lload_n 2, 1) := by decide +kernel
theorem dX5_clock_102 : decode cX5_clock 102 = .ok (.ladd, 1) := by decide +kernel
theorem dX5_clock_103 : decode cX5_clock 103 = .ok (.lload 4, 2) := by decide +kernel
theorem dX5_clock_105 : decode cX5_clock 105 = .ok (.ladd, 1) := by decide +kernel
theorem dX5_clock_106 : decode cX5_clock 106 = .ok (.lreturn, 1) := by decide +kernel
theorem dX5_estimate_0 : decode cX5_estimate 0 = .ok (.aload_n 0, 1) := by decide +kernel
theorem dX5_estimate_1 : decode cX5_estimate 1 = .ok (.getfield 10, 3) := by decide +kernel
theorem dX5_estimate_4 : decode cX5_estimate 4 = .ok (.getfield 131, 3) := by decide +kernel
theorem dX5_estimate_7 : decode cX5_estimate 7 = .ok (.iconst 2, 1) := by decide +kernel
theorem dX5_estimate_8 : decode cX5_estimate 8 = .ok (.if_icmp .ge 14, 3) := by decide +kernel
theorem dX5_estimate_11 : decode cX5_estimate 11 = .ok (.new 266, 3) := by decide +kernel
theorem dX5_estimate_14 : decode cX5_estimate 14 = .ok (.dup, 1) := by decide +kernel
theorem dX5_estimate_15 : decode cX5_estimate 15 = .ok (.ldc_w 305, 3) := by decide +kernel
theorem dX5_estimate_18 : decode cX5_estimate 18 = .ok (.invokespecial 270, 3) := by decide +kernel
theorem dX5_estimate_21 : decode cX5_estimate 21 = .ok (.athrow, 1) := by decide +kernel
theorem dX5_estimate_22 : decode cX5_estimate 22 = .ok (.aload_n 0, 1) := by decide +kernel
theorem dX5_estimate_23 : decode cX5_estimate 23 = .ok (.getfield 10, 3) := by decide +kernel
theorem dX5_estimate_26 : decode cX5_estimate 26 = .ok (.invokevirtual 320, 3) := by decide +kernel
theorem dX5_estimate_29 : decode cX5_estimate 29 = .ok (.lreturn, 1) := by decide +kernel
theorem dX5_set_0 : decode cX5_set 0 = .ok (.iload_n 1, 1) := by decide +kernel
theorem dX5_set_1 : decode cX5_set 1 = .ok (.ifCond .lt 8, 3) := by decide +kernel
theorem dX5_set_4 : decode cX5_set 4 = .ok (.iload_n 1, 1) := by decide +kernel
theorem dX5_set_5 : decode cX5_set 5 = .ok (.iconst 5, 1) := by decide +kernel
theorem dX5_set_6 : decode cX5_set 6 = .ok (.if_icmp .lt 14, 3) := by decide +kernel
theorem dX5_set_9 : decode cX5_set 9 = .ok (.new 59, 3) := by decide +kernel
theorem dX5_set_12 : decode cX5_set 12 = .ok (.dup, 1) := by decide +kernel
theorem dX5_set_13 : decode cX5_set 13 = .ok (.ldc_w 324, 3) := by decide +kernel
theorem dX5_set_16 : decode cX5_set 16 = .ok (.invokespecial 63, 3) := by decide +kernel
theorem dX5_set_19 : decode cX5_set 19 = .ok (.athrow, 1) := by decide +kernel
theorem dX5_set_20 : decode cX5_set 20 = .ok (.iload_n 2, 1) := by decide +kernel
theorem dX5_set_21 : decode cX5_set 21 = .ok (.getstatic 326, 3) := by decide +kernel
theorem dX5_set_24 : decode cX5_set 24 = .ok (.iload_n 1, 1) := by decide +kernel
theorem dX5_set_25 : decode cX5_set 25 = .ok (.iaload, 1) := by decide +kernel
theorem dX5_set_26 : decode cX5_set 26 = .ok (.if_icmp .lt 12, 3) := by decide +kernel
theorem dX5_set_29 : decode cX5_set 29 = .ok (.iload_n 2, 1) := by decide +kernel
theorem dX5_set_30 : decode cX5_set 30 = .ok (.getstatic 329, 3) := by decide +kernel
theorem dX5_set_33 : decode cX5_set 33 = .ok (.iload_n 1, 1) := by decide +kernel
theorem dX5_set_34 : decode cX5_set 34 = .ok (.iaload, 1) := by decide +kernel
theorem dX5_set_35 : decode cX5_set 35 = .ok (.if_icmp .le 14, 3) := by decide +kernel
theorem dX5_set_38 : decode cX5_set 38 = .ok (.new 59, 3) := by decide +kernel
theorem dX5_set_41 : decode cX5_set 41 = .ok (.dup, 1) := by decide +kernel
theorem dX5_set_42 : decode cX5_set 42 = .ok (.ldc_w 332, 3) := by decide +kernel
theorem dX5_set_45 : decode cX5_set 45 = .ok (.invokespecial 63, 3) := by decide +kernel
theorem dX5_set_48 : decode cX5_set 48 = .ok (.athrow, 1) := by decide +kernel
theorem dX5_set_49 : decode cX5_set 49 = .ok (.aload_n 0, 1) := by decide +kernel
theorem dX5_set_50 : decode cX5_set 50 = .ok (.invokevirtual 110, 3) := by decide +kernel
theorem dX5_set_53 : decode cX5_set 53 = .ok (.aload_n 0, 1) := by decide +kernel
theorem dX5_set_54 : decode cX5_set 54 = .ok (.getfield 10, 3) := by decide +kernel
theorem dX5_set_57 : decode cX5_set 57 = .ok (.getfield 134, 3) := by decide +kernel
theorem dX5_set_60 : decode cX5_set 60 = .ok (.iload_n 1, 1) := by decide +kernel
theorem dX5_set_61 : decode cX5_set 61 = .ok (.iaload, 1) := by decide +kernel
theorem dX5_set_62 : decode cX5_set 62 = .ok (.istore_n 3, 1) := by decide +kernel
theorem dX5_set_63 : decode cX5_set 63 = .ok (.aload_n 0, 1) := by decide +kernel
theorem dX5_set_64 : decode cX5_set 64 = .ok (.getfield 10, 3) := by decide +kernel
theorem dX5_set_67 : decode cX5_set 67 = .ok (.iload_n 1, 1) := by decide +kernel
theorem dX5_set_68 : decode cX5_set 68 = .ok (.iload_n 2, 1) := by decide +kernel
theorem dX5_set_69 : decode cX5_set 69 = .ok (.invokevirtual 106, 3) := by decide +kernel
theorem dX5_set_72 : decode cX5_set 72 = .ok (.iload_n 3, 1) := by decide +kernel
theorem dX5_set_73 : decode cX5_set 73 = .ok (.ireturn, 1) := by decide +kernel
theorem dX5_discipline_0 : decode cX5_discipline 0 = .ok (.aload_n 0, 1) := by decide +kernel
theorem dX5_discipline_1 : decode cX5_discipline 1 = .ok (.getfield 10, 3) := by decide +kernel
theorem dX5_discipline_4 : decode cX5_discipline 4 = .ok (.getfield 131, 3) := by decide +kernel
theorem dX5_discipline_7 : decode cX5_discipline 7 = .ok (.iconst 2, 1) := by decide +kernel
theorem dX5_discipline_8 : decode cX5_discipline 8 = .ok (.if_icmp .ge 14, 3) := by decide +kernel
theorem dX5_discipline_11 : decode cX5_discipline 11 = .ok (.new 266, 3) := by decide +kernel
theorem dX5_discipline_14 : decode cX5_discipline 14 = .ok (.dup, 1) := by decide +kernel
theorem dX5_discipline_15 : decode cX5_discipline 15 = .ok (.ldc_w 305, 3) := by decide +kernel
theorem dX5_discipline_18 : decode cX5_discipline 18 = .ok (.invokespecial 270, 3) := by decide +kernel
theorem dX5_discipline_21 : decode cX5_discipline 21 = .ok (.athrow, 1) := by decide +kernel
theorem dX5_discipline_22 : decode cX5_discipline 22 = .ok (.aload_n 0, 1) := by decide +kernel
theorem dX5_discipline_23 : decode cX5_discipline 23 = .ok (.getfield 10, 3) := by decide +kernel
theorem dX5_discipline_26 : decode cX5_discipline 26 = .ok (.invokevirtual 320, 3) := by decide +kernel
theorem dX5_discipline_29 : decode cX5_discipline 29 = .ok (.lstore_n 1, 1) := by decide +kernel
theorem dX5_discipline_30 : decode cX5_discipline 30 = .ok (.lload_n 1, 1) := by decide +kernel
theorem dX5_discipline_31 : decode cX5_discipline 31 = .ok (.getstatic 326, 3) := by decide +kernel
theorem dX5_discipline_34 : decode cX5_discipline 34 = .ok (.iconst 4, 1) := by decide +kernel
theorem dX5_discipline_35 : decode cX5_discipline 35 = .ok (.iaload, 1) := by decide +kernel
theorem dX5_discipline_36 : decode cX5_discipline 36 = .ok (.i2l, 1) := by decide +kernel
theorem dX5_discipline_37 : decode cX5_discipline 37 = .ok (.lcmp, 1) := by decide +kernel
theorem dX5_discipline_38 : decode cX5_discipline 38 = .ok (.ifCond .lt 14, 3) := by decide +kernel
theorem dX5_discipline_41 : decode cX5_discipline 41 = .ok (.lload_n 1, 1) := by decide +kernel
theorem dX5_discipline_42 : decode cX5_discipline 42 = .ok (.getstatic 329, 3) := by decide +kernel
theorem dX5_discipline_45 : decode cX5_discipline 45 = .ok (.iconst 4, 1) := by decide +kernel
theorem dX5_discipline_46 : decode cX5_discipline 46 = .ok (.iaload, 1) := by decide +kernel
theorem dX5_discipline_47 : decode cX5_discipline 47 = .ok (.i2l, 1) := by decide +kernel
theorem dX5_discipline_48 : decode cX5_discipline 48 = .ok (.lcmp, 1) := by decide +kernel
theorem dX5_discipline_49 : decode cX5_discipline 49 = .ok (.ifCond .le 14, 3) := by decide +kernel
theorem dX5_discipline_52 : decode cX5_discipline 52 = .ok (.new 48, 3) := by decide +kernel
theorem dX5_discipline_55 : decode cX5_discipline 55 = .ok (.dup, 1) := by decide +kernel
theorem dX5_discipline_56 : decode cX5_discipline 56 = .ok (.ldc_w 334, 3) := by decide +kernel
theorem dX5_discipline_59 : decode cX5_discipline 59 = .ok (.invokespecial 52, 3) := by decide +kernel
theorem dX5_discipline_62 : decode cX5_discipline 62 = .ok (.athrow, 1) := by decide +kernel
theorem dX5_discipline_63 : decode cX5_discipline 63 = .ok (.aload_n 0, 1) := by decide +kernel
theorem dX5_discipline_64 : decode cX5_discipline 64 = .ok (.invokevirtual 110, 3) := by decide +kernel
theorem dX5_discipline_67 : decode cX5_discipline 67 = .ok (.aload_n 0, 1) := by decide +kernel
theorem dX5_discipline_68 : decode cX5_discipline 68 = .ok (.getfield 10, 3) := by decide +kernel
theorem dX5_discipline_71 : decode cX5_discipline 71 = .ok (.getfield 134, 3) := by decide +kernel
theorem dX5_discipline_74 : decode cX5_discipline 74 = .ok (.iconst 4, 1) := by decide +kernel
theorem dX5_discipline_75 : decode cX5_discipline 75 = .ok (.iaload, 1) := by decide +kernel
theorem dX5_discipline_76 : decode cX5_discipline 76 = .ok (.istore_n 3, 1) := by decide +kernel
theorem dX5_discipline_77 : decode cX5_discipline 77 = .ok (.aload_n 0, 1) := by decide +kernel
theorem dX5_discipline_78 : decode cX5_discipline 78 = .ok (.getfield 10, 3) := by decide +kernel
theorem dX5_discipline_81 : decode cX5_discipline 81 = .ok (.iconst 4, 1) := by decide +kernel
theorem dX5_discipline_82 : decode cX5_discipline 82 = .ok (.lload_n 1, 1) := by decide +kernel
theorem dX5_discipline_83 : decode cX5_discipline 83 = .ok (.l2i, 1) := by decide +kernel
theorem dX5_discipline_84 : decode cX5_discipline 84 = .ok (.invokevirtual 106, 3) := by decide +kernel
theorem dX5_discipline_87 : decode cX5_discipline 87 = .ok (.iload_n 3, 1) := by decide +kernel
theorem dX5_discipline_88 : decode cX5_discipline 88 = .ok (.ireturn, 1) := by decide +kernel
theorem dX5_forget_0 : decode cX5_forget 0 = .ok (.aload_n 0, 1) := by decide +kernel
theorem dX5_forget_1 : decode cX5_forget 1 = .ok (.invokevirtual 110, 3) := by decide +kernel
theorem dX5_forget_4 : decode cX5_forget 4 = .ok (.aload_n 0, 1) := by decide +kernel
theorem dX5_forget_5 : decode cX5_forget 5 = .ok (.getfield 10, 3) := by decide +kernel
theorem dX5_forget_8 : decode cX5_forget 8 = .ok (.getfield 113, 3) := by decide +kernel
theorem dX5_forget_11 : decode cX5_forget 11 = .ok (.istore_n 1, 1) := by decide +kernel
theorem dX5_forget_12 : decode cX5_forget 12 = .ok (.aload_n 0, 1) := by decide +kernel
theorem dX5_forget_13 : decode cX5_forget 13 = .ok (.getfield 10, 3) := by decide +kernel
theorem dX5_forget_16 : decode cX5_forget 16 = .ok (.invokevirtual 336, 3) := by decide +kernel
theorem dX5_forget_19 : decode cX5_forget 19 = .ok (.iload_n 1, 1) := by decide +kernel
theorem dX5_forget_20 : decode cX5_forget 20 = .ok (.ireturn, 1) := by decide +kernel
theorem dX5_writeSign_0 : decode cX5_writeSign 0 = .ok (.aload_n 0, 1) := by decide +kernel
theorem dX5_writeSign_1 : decode cX5_writeSign 1 = .ok (.getfield 339, 3) := by decide +kernel
theorem dX5_writeSign_4 : decode cX5_writeSign 4 = .ok (.bipush 18, 2) := by decide +kernel
theorem dX5_writeSign_6 : decode cX5_writeSign 6 = .ok (.if_icmp .ge 24, 3) := by decide +kernel
theorem dX5_writeSign_9 : decode cX5_writeSign 9 = .ok (.aload_n 0, 1) := by decide +kernel
theorem dX5_writeSign_10 : decode cX5_writeSign 10 = .ok (.getfield 40, 3) := by decide +kernel
theorem dX5_writeSign_13 : decode cX5_writeSign 13 = .ok (.aload_n 0, 1) := by decide +kernel
theorem dX5_writeSign_14 : decode cX5_writeSign 14 = .ok (.getfield 339, 3) := by decide +kernel
theorem dX5_writeSign_17 : decode cX5_writeSign 17 = .ok (.iload_n 1, 1) := by decide +kernel
theorem dX5_writeSign_18 : decode cX5_writeSign 18 = .ok (.i2b, 1) := by decide +kernel
theorem dX5_writeSign_19 : decode cX5_writeSign 19 = .ok (.bastore, 1) := by decide +kernel
theorem dX5_writeSign_20 : decode cX5_writeSign 20 = .ok (.aload_n 0, 1) := by decide +kernel
theorem dX5_writeSign_21 : decode cX5_writeSign 21 = .ok (.dup, 1) := by decide +kernel
theorem dX5_writeSign_22 : decode cX5_writeSign 22 = .ok (.getfield 339, 3) := by decide +kernel
theorem dX5_writeSign_25 : decode cX5_writeSign 25 = .ok (.iconst 1, 1) := by decide +kernel
theorem dX5_writeSign_26 : decode cX5_writeSign 26 = .ok (.iadd, 1) := by decide +kernel
theorem dX5_writeSign_27 : decode cX5_writeSign 27 = .ok (.putfield 339, 3) := by decide +kernel
theorem dX5_writeSign_30 : decode cX5_writeSign 30 = .ok (.return_, 1) := by decide +kernel
theorem dX5_writeTwoDigits_0 : decode cX5_writeTwoDigits 0 = .ok (.aload_n 0, 1) := by decide +kernel
theorem dX5_writeTwoDigits_1 : decode cX5_writeTwoDigits 1 = .ok (.bipush 48, 2) := by decide +kernel
theorem dX5_writeTwoDigits_3 : decode cX5_writeTwoDigits 3 = .ok (.iload_n 1, 1) := by decide +kernel
theorem dX5_writeTwoDigits_4 : decode cX5_writeTwoDigits 4 = .ok (.bipush 10, 2) := by decide +kernel
theorem dX5_writeTwoDigits_6 : decode cX5_writeTwoDigits 6 = .ok (.idiv, 1) := by decide +kernel
theorem dX5_writeTwoDigits_7 : decode cX5_writeTwoDigits 7 = .ok (.iadd, 1) := by decide +kernel
theorem dX5_writeTwoDigits_8 : decode cX5_writeTwoDigits 8 = .ok (.i2c, 1) := by decide +kernel
theorem dX5_writeTwoDigits_9 : decode cX5_writeTwoDigits 9 = .ok (.invokevirtual 345, 3) := by decide +kernel
theorem dX5_writeTwoDigits_12 : decode cX5_writeTwoDigits 12 = .ok (.aload_n 0, 1) := by decide +kernel
theorem dX5_writeTwoDigits_13 : decode cX5_writeTwoDigits 13 = .ok (.bipush 48, 2) := by decide +kernel
theorem dX5_writeTwoDigits_15 : decode cX5_writeTwoDigits 15 = .ok (.iload_n 1, 1) := by decide +kernel
theorem dX5_writeTwoDigits_16 : decode cX5_writeTwoDigits 16 = .ok (.bipush 10, 2) := by decide +kernel
theorem dX5_writeTwoDigits_18 : decode cX5_writeTwoDigits 18 = .ok (.irem, 1) := by decide +kernel
theorem dX5_writeTwoDigits_19 : decode cX5_writeTwoDigits 19 = .ok (.iadd, 1) := by decide +kernel
theorem dX5_writeTwoDigits_20 : decode cX5_writeTwoDigits 20 = .ok (.i2c, 1) := by decide +kernel
theorem dX5_writeTwoDigits_21 : decode cX5_writeTwoDigits 21 = .ok (.invokevirtual 345, 3) := by decide +kernel
theorem dX5_writeTwoDigits_24 : decode cX5_writeTwoDigits 24 = .ok (.return_, 1) := by decide +kernel
theorem dX5_writeTime_0 : decode cX5_writeTime 0 = .ok (.iload_n 1, 1) := by decide +kernel
theorem dX5_writeTime_1 : decode cX5_writeTime 1 = .ok (.invokestatic 150, 3) := by decide +kernel
theorem dX5_writeTime_4 : decode cX5_writeTime 4 = .ok (.ifCond .ne 13, 3) := by decide +kernel
theorem dX5_writeTime_7 : decode cX5_writeTime 7 = .ok (.new 59, 3) := by decide +kernel
theorem dX5_writeTime_10 : decode cX5_writeTime 10 = .ok (.dup, 1) := by decide +kernel
theorem dX5_writeTime_11 : decode cX5_writeTime 11 = .ok (.ldc 156, 2) := by decide +kernel
theorem dX5_writeTime_13 : decode cX5_writeTime 13 = .ok (.invokespecial 63, 3) := by decide +kernel
theorem dX5_writeTime_16 : decode cX5_writeTime 16 = .ok (.athrow, 1) := by decide +kernel
theorem dX5_writeTime_17 : decode cX5_writeTime 17 = .ok (.iload_n 1, 1) := by decide +kernel
theorem dX5_writeTime_18 : decode cX5_writeTime 18 = .ok (.sipush 1440, 3) := by decide +kernel
theorem dX5_writeTime_21 : decode cX5_writeTime 21 = .ok (.idiv, 1) := by decide +kernel
theorem dX5_writeTime_22 : decode cX5_writeTime 22 = .ok (.istore_n 2, 1) := by decide +kernel
theorem dX5_writeTime_23 : decode cX5_writeTime 23 = .ok (.aload_n 0, 1) := by decide +kernel
theorem dX5_writeTime_24 : decode cX5_writeTime 24 = .ok (.iconst 0, 1) := by decide +kernel
theorem dX5_writeTime_25 : decode cX5_writeTime 25 = .ok (.putfield 339, 3) := by decide +kernel
theorem dX5_writeTime_28 : decode cX5_writeTime 28 = .ok (.aload_n 0, 1) := by decide +kernel
theorem dX5_writeTime_29 : decode cX5_writeTime 29 = .ok (.bipush 20, 2) := by decide +kernel
theorem dX5_writeTime_31 : decode cX5_writeTime 31 = .ok (.invokevirtual 342, 3) := by decide +kernel
theorem dX5_writeTime_34 : decode cX5_writeTime 34 = .ok (.aload_n 0, 1) := by decide +kernel
theorem dX5_writeTime_35 : decode cX5_writeTime 35 = .ok (.iload_n 2, 1) := by decide +kernel
theorem dX5_writeTime_36 : decode cX5_writeTime 36 = .ok (.invokestatic 158, 3) := by decide +kernel
theorem dX5_writeTime_39 : decode cX5_writeTime 39 = .ok (.invokevirtual 342, 3) := by decide +kernel
theorem dX5_writeTime_42 : decode cX5_writeTime 42 = .ok (.aload_n 0, 1) := by decide +kernel
theorem dX5_writeTime_43 : decode cX5_writeTime 43 = .ok (.bipush 45, 2) := by decide +kernel
theorem dX5_writeTime_45 : decode cX5_writeTime 45 = .ok (.invokevirtual 345, 3) := by decide +kernel
theorem dX5_writeTime_48 : decode cX5_writeTime 48 = .ok (.aload_n 0, 1) := by decide +kernel
theorem dX5_writeTime_49 : decode cX5_writeTime 49 = .ok (.iload_n 2, 1) := by decide +kernel
theorem dX5_writeTime_50 : decode cX5_writeTime 50 = .ok (.invokestatic 162, 3) := by decide +kernel
theorem dX5_writeTime_53 : decode cX5_writeTime 53 = .ok (.invokevirtual 342, 3) := by decide +kernel
theorem dX5_writeTime_56 : decode cX5_writeTime 56 = .ok (.aload_n 0, 1) := by decide +kernel
theorem dX5_writeTime_57 : decode cX5_writeTime 57 = .ok (.bipush 45, 2) := by decide +kernel
theorem dX5_writeTime_59 : decode cX5_writeTime 59 = .ok (.invokevirtual 345, 3) := by decide +kernel
theorem dX5_writeTime_62 : decode cX5_writeTime 62 = .ok (.aload_n 0, 1) := by decide +kernel
theorem dX5_writeTime_63 : decode cX5_writeTime 63 = .ok (.iload_n 2, 1) := by decide +kernel
theorem dX5_writeTime_64 : decode cX5_writeTime 64 = .ok (.invokestatic 165, 3) := by decide +kernel
theorem dX5_writeTime_67 : decode cX5_writeTime 67 = .ok (.invokevirtual 342, 3) := by decide +kernel
theorem dX5_writeTime_70 : decode cX5_writeTime 70 = .ok (.aload_n 0, 1) := by decide +kernel
theorem dX5_writeTime_71 : decode cX5_writeTime 71 = .ok (.bipush 32, 2) := by decide +kernel
theorem dX5_writeTime_73 : decode cX5_writeTime 73 = .ok (.invokevirtual 345, 3) := by decide +kernel
theorem dX5_writeTime_76 : decode cX5_writeTime 76 = .ok (.aload_n 0, 1) := by decide +kernel
theorem dX5_writeTime_77 : decode cX5_writeTime 77 = .ok (.iload_n 1, 1) := by decide +kernel
theorem dX5_writeTime_78 : decode cX5_writeTime 78 = .ok (.bipush 60, 2) := by decide +kernel
theorem dX5_writeTime_80 : decode cX5_writeTime 80 = .ok (.idiv, 1) := by decide +kernel
theorem dX5_writeTime_81 : decode cX5_writeTime 81 = .ok (.bipush 24, 2) := by decide +kernel
theorem dX5_writeTime_83 : decode cX5_writeTime 83 = .ok (.irem, 1) := by decide +kernel
theorem dX5_writeTime_84 : decode cX5_writeTime 84 = .ok (.invokevirtual 342, 3) := by decide +kernel
theorem dX5_writeTime_87 : decode cX5_writeTime 87 = .ok (.aload_n 0, 1) := by decide +kernel
theorem dX5_writeTime_88 : decode cX5_writeTime 88 = .ok (.bipush 58, 2) := by decide +kernel
theorem dX5_writeTime_90 : decode cX5_writeTime 90 = .ok (.invokevirtual 345, 3) := by decide +kernel
theorem dX5_writeTime_93 : decode cX5_writeTime 93 = .ok (.aload_n 0, 1) := by decide +kernel
theorem dX5_writeTime_94 : decode cX5_writeTime 94 = .ok (.iload_n 1, 1) := by decide +kernel
theorem dX5_writeTime_95 : decode cX5_writeTime 95 = .ok (.bipush 60, 2) := by decide +kernel
theorem dX5_writeTime_97 : decode cX5_writeTime 97 = .ok (.irem, 1) := by decide +kernel
theorem dX5_writeTime_98 : decode cX5_writeTime 98 = .ok (.invokevirtual 342, 3) := by decide +kernel
theorem dX5_writeTime_101 : decode cX5_writeTime 101 = .ok (.aload_n 0, 1) := by decide +kernel
theorem dX5_writeTime_102 : decode cX5_writeTime 102 = .ok (.bipush 32, 2) := by decide +kernel
theorem dX5_writeTime_104 : decode cX5_writeTime 104 = .ok (.invokevirtual 345, 3) := by decide +kernel
theorem dX5_writeTime_107 : decode cX5_writeTime 107 = .ok (.aload_n 0, 1) := by decide +kernel
theorem dX5_writeTime_108 : decode cX5_writeTime 108 = .ok (.bipush 48, 2) := by decide +kernel
theorem dX5_writeTime_110 : decode cX5_writeTime 110 = .ok (.iload_n 2, 1) := by decide +kernel
theorem dX5_writeTime_111 : decode cX5_writeTime 111 = .ok (.invokestatic 168, 3) := by decide +kernel
theorem dX5_writeTime_114 : decode cX5_writeTime 114 = .ok (.iadd, 1) := by decide +kernel
theorem dX5_writeTime_115 : decode cX5_writeTime 115 = .ok (.i2c, 1) := by decide +kernel
theorem dX5_writeTime_116 : decode cX5_writeTime 116 = .ok (.invokevirtual 345, 3) := by decide +kernel
theorem dX5_writeTime_119 : decode cX5_writeTime 119 = .ok (.aload_n 0, 1) := by decide +kernel
theorem dX5_writeTime_120 : decode cX5_writeTime 120 = .ok (.getfield 339, 3) := by decide +kernel
theorem dX5_writeTime_123 : decode cX5_writeTime 123 = .ok (.ireturn, 1) := by decide +kernel
theorem dX5_writtenByte_0 : decode cX5_writtenByte 0 = .ok (.iload_n 1, 1) := by decide +kernel
theorem dX5_writtenByte_1 : decode cX5_writtenByte 1 = .ok (.ifCond .lt 17, 3) := by decide +kernel
theorem dX5_writtenByte_4 : decode cX5_writtenByte 4 = .ok (.iload_n 1, 1) := by decide +kernel
theorem dX5_writtenByte_5 : decode cX5_writtenByte 5 = .ok (.aload_n 0, 1) := by decide +kernel
theorem dX5_writtenByte_6 : decode cX5_writtenByte 6 = .ok (.getfield 339, 3) := by decide +kernel
theorem dX5_writtenByte_9 : decode cX5_writtenByte 9 = .ok (.if_icmp .ge 9, 3) := by decide +kernel
theorem dX5_writtenByte_12 : decode cX5_writtenByte 12 = .ok (.iload_n 1, 1) := by decide +kernel
theorem dX5_writtenByte_13 : decode cX5_writtenByte 13 = .ok (.bipush 18, 2) := by decide +kernel
theorem dX5_writtenByte_15 : decode cX5_writtenByte 15 = .ok (.if_icmp .lt 14, 3) := by decide +kernel
theorem dX5_writtenByte_18 : decode cX5_writtenByte 18 = .ok (.new 205, 3) := by decide +kernel
theorem dX5_writtenByte_21 : decode cX5_writtenByte 21 = .ok (.dup, 1) := by decide +kernel
theorem dX5_writtenByte_22 : decode cX5_writtenByte 22 = .ok (.ldc_w 349, 3) := by decide +kernel
theorem dX5_writtenByte_25 : decode cX5_writtenByte 25 = .ok (.invokespecial 209, 3) := by decide +kernel
theorem dX5_writtenByte_28 : decode cX5_writtenByte 28 = .ok (.athrow, 1) := by decide +kernel
theorem dX5_writtenByte_29 : decode cX5_writtenByte 29 = .ok (.aload_n 0, 1) := by decide +kernel
theorem dX5_writtenByte_30 : decode cX5_writtenByte 30 = .ok (.getfield 40, 3) := by decide +kernel
theorem dX5_writtenByte_33 : decode cX5_writtenByte 33 = .ok (.iload_n 1, 1) := by decide +kernel
theorem dX5_writtenByte_34 : decode cX5_writtenByte 34 = .ok (.baload, 1) := by decide +kernel
theorem dX5_writtenByte_35 : decode cX5_writtenByte 35 = .ok (.ireturn, 1) := by decide +kernel
theorem dX5_undo_0 : decode cX5_undo 0 = .ok (.aload_n 0, 1) := by decide +kernel
theorem dX5_undo_1 : decode cX5_undo 1 = .ok (.getfield 351, 3) := by decide +kernel
theorem dX5_undo_4 : decode cX5_undo 4 = .ok (.ifCond .ne 14, 3) := by decide +kernel
theorem dX5_undo_7 : decode cX5_undo 7 = .ok (.new 48, 3) := by decide +kernel
theorem dX5_undo_10 : decode cX5_undo 10 = .ok (.dup, 1) := by decide +kernel
theorem dX5_undo_11 : decode cX5_undo 11 = .ok (.ldc_w 354, 3) := by decide +kernel
theorem dX5_undo_14 : decode cX5_undo 14 = .ok (.invokespecial 52, 3) := by decide +kernel
theorem dX5_undo_17 : decode cX5_undo 17 = .ok (.athrow, 1) := by decide +kernel
theorem dX5_undo_18 : decode cX5_undo 18 = .ok (.aload_n 0, 1) := by decide +kernel
theorem dX5_undo_19 : decode cX5_undo 19 = .ok (.dup, 1) := by decide +kernel
theorem dX5_undo_20 : decode cX5_undo 20 = .ok (.getfield 351, 3) := by decide +kernel
theorem dX5_undo_23 : decode cX5_undo 23 = .ok (.iconst 1, 1) := by decide +kernel
theorem dX5_undo_24 : decode cX5_undo 24 = .ok (.isub, 1) := by decide +kernel
theorem dX5_undo_25 : decode cX5_undo 25 = .ok (.putfield 351, 3) := by decide +kernel
theorem dX5_undo_28 : decode cX5_undo 28 = .ok (.aload_n 0, 1) := by decide +kernel
theorem dX5_undo_29 : decode cX5_undo 29 = .ok (.aload_n 0, 1) := by decide +kernel
theorem dX5_undo_30 : decode cX5_undo 30 = .ok (.getfield 356, 3) := by decide +kernel
theorem dX5_undo_33 : decode cX5_undo 33 = .ok (.bipush 8, 2) := by decide +kernel
theorem dX5_undo_35 : decode cX5_undo 35 = .ok (.iadd, 1) := by decide +kernel
theorem dX5_undo_36 : decode cX5_undo 36 = .ok (.iconst 1, 1) := by decide +kernel
theorem dX5_undo_37 : decode cX5_undo 37 = .ok (.isub, 1) := by decide +kernel
theorem dX5_undo_38 : decode cX5_undo 38 = .ok (.bipush 8, 2) := by decide +kernel
theorem dX5_undo_40 : decode cX5_undo 40 = .ok (.irem, 1) := by decide +kernel
theorem dX5_undo_41 : decode cX5_undo 41 = .ok (.putfield 356, 3) := by decide +kernel
theorem dX5_undo_44 : decode cX5_undo 44 = .ok (.aload_n 0, 1) := by decide +kernel
theorem dX5_undo_45 : decode cX5_undo 45 = .ok (.getfield 10, 3) := by decide +kernel
theorem dX5_undo_48 : decode cX5_undo 48 = .ok (.aload_n 0, 1) := by decide +kernel
theorem dX5_undo_49 : decode cX5_undo 49 = .ok (.getfield 22, 3) := by decide +kernel
theorem dX5_undo_52 : decode cX5_undo 52 = .ok (.aload_n 0, 1) := by decide +kernel
theorem dX5_undo_53 : decode cX5_undo 53 = .ok (.getfield 356, 3) := by decide +kernel
theorem dX5_undo_56 : decode cX5_undo 56 = .ok (.aaload, 1) := by decide +kernel
theorem dX5_undo_57 : decode cX5_undo 57 = .ok (.invokevirtual 64, 3) := by decide +kernel
theorem dX5_undo_60 : decode cX5_undo 60 = .ok (.aload_n 0, 1) := by decide +kernel
theorem dX5_undo_61 : decode cX5_undo 61 = .ok (.getfield 351, 3) := by decide +kernel
theorem dX5_undo_64 : decode cX5_undo 64 = .ok (.ireturn, 1) := by decide +kernel
theorem dX5_save_0 : decode cX5_save 0 = .ok (.iload_n 1, 1) := by decide +kernel
theorem dX5_save_1 : decode cX5_save 1 = .ok (.ifCond .lt 8, 3) := by decide +kernel
theorem dX5_save_4 : decode cX5_save 4 = .ok (.iload_n 1, 1) := by decide +kernel
theorem dX5_save_5 : decode cX5_save 5 = .ok (.iconst 2, 1) := by decide +kernel
theorem dX5_save_6 : decode cX5_save 6 = .ok (.if_icmp .lt 14, 3) := by decide +kernel
theorem dX5_save_9 : decode cX5_save 9 = .ok (.new 205, 3) := by decide +kernel
theorem dX5_save_12 : decode cX5_save 12 = .ok (.dup, 1) := by decide +kernel
theorem dX5_save_13 : decode cX5_save 13 = .ok (.ldc_w 359, 3) := by decide +kernel
theorem dX5_save_16 : decode cX5_save 16 = .ok (.invokespecial 209, 3) := by decide +kernel
theorem dX5_save_19 : decode cX5_save 19 = .ok (.athrow, 1) := by decide +kernel
theorem dX5_save_20 : decode cX5_save 20 = .ok (.aload_n 0, 1) := by decide +kernel
theorem dX5_save_21 : decode cX5_save 21 = .ok (.getfield 26, 3) := by decide +kernel
theorem dX5_save_24 : decode cX5_save 24 = .ok (.iload_n 1, 1) := by decide +kernel
theorem dX5_save_25 : decode cX5_save 25 = .ok (.aaload, 1) := by decide +kernel
theorem dX5_save_26 : decode cX5_save 26 = .ok (.aload_n 0, 1) := by decide +kernel
theorem dX5_save_27 : decode cX5_save 27 = .ok (.getfield 10, 3) := by decide +kernel
theorem dX5_save_30 : decode cX5_save 30 = .ok (.invokevirtual 64, 3) := by decide +kernel
theorem dX5_save_33 : decode cX5_save 33 = .ok (.aload_n 0, 1) := by decide +kernel
theorem dX5_save_34 : decode cX5_save 34 = .ok (.getfield 29, 3) := by decide +kernel
theorem dX5_save_37 : decode cX5_save 37 = .ok (.iload_n 1, 1) := by decide +kernel
theorem dX5_save_38 : decode cX5_save 38 = .ok (.iconst 1, 1) := by decide +kernel
theorem dX5_save_39 : decode cX5_save 39 = .ok (.bastore, 1) := by decide +kernel
theorem dX5_save_40 : decode cX5_save 40 = .ok (.aload_n 0, 1) := by decide +kernel
theorem dX5_save_41 : decode cX5_save 41 = .ok (.getfield 10, 3) := by decide +kernel
theorem dX5_save_44 : decode cX5_save 44 = .ok (.getfield 113, 3) := by decide +kernel
theorem dX5_save_47 : decode cX5_save 47 = .ok (.ireturn, 1) := by decide +kernel
theorem dX5_restore_0 : decode cX5_restore 0 = .ok (.iload_n 1, 1) := by decide +kernel
theorem dX5_restore_1 : decode cX5_restore 1 = .ok (.ifCond .lt 8, 3) := by decide +kernel
theorem dX5_restore_4 : decode cX5_restore 4 = .ok (.iload_n 1, 1) := by decide +kernel
theorem dX5_restore_5 : decode cX5_restore 5 = .ok (.iconst 2, 1) := by decide +kernel
theorem dX5_restore_6 : decode cX5_restore 6 = .ok (.if_icmp .lt 14, 3) := by decide +kernel
theorem dX5_restore_9 : decode cX5_restore 9 = .ok (.new 205, 3) := by decide +kernel
theorem dX5_restore_12 : decode cX5_restore 12 = .ok (.dup, 1) := by decide +kernel
theorem dX5_restore_13 : decode cX5_restore 13 = .ok (.ldc_w 359, 3) := by decide +kernel
theorem dX5_restore_16 : decode cX5_restore 16 = .ok (.invokespecial 209, 3) := by decide +kernel
theorem dX5_restore_19 : decode cX5_restore 19 = .ok (.athrow, 1) := by decide +kernel
theorem dX5_restore_20 : decode cX5_restore 20 = .ok (.aload_n 0, 1) := by decide +kernel
theorem dX5_restore_21 : decode cX5_restore 21 = .ok (.getfield 29, 3) := by decide +kernel
theorem dX5_restore_24 : decode cX5_restore 24 = .ok (.iload_n 1, 1) := by decide +kernel
theorem dX5_restore_25 : decode cX5_restore 25 = .ok (.baload, 1) := by decide +kernel
theorem dX5_restore_26 : decode cX5_restore 26 = .ok (.ifCond .ne 14, 3) := by decide +kernel
theorem dX5_restore_29 : decode cX5_restore 29 = .ok (.new 48, 3) := by decide +kernel
theorem dX5_restore_32 : decode cX5_restore 32 = .ok (.dup, 1) := by decide +kernel
theorem dX5_restore_33 : decode cX5_restore 33 = .ok (.ldc_w 361, 3) := by decide +kernel
theorem dX5_restore_36 : decode cX5_restore 36 = .ok (.invokespecial 52, 3) := by decide +kernel
theorem dX5_restore_39 : decode cX5_restore 39 = .ok (.athrow, 1) := by decide +kernel
theorem dX5_restore_40 : decode cX5_restore 40 = .ok (.aload_n 0, 1) := by decide +kernel
theorem dX5_restore_41 : decode cX5_restore 41 = .ok (.invokevirtual 110, 3) := by decide +kernel
theorem dX5_restore_44 : decode cX5_restore 44 = .ok (.aload_n 0, 1) := by decide +kernel
theorem dX5_restore_45 : decode cX5_restore 45 = .ok (.getfield 10, 3) := by decide +kernel
theorem dX5_restore_48 : decode cX5_restore 48 = .ok (.aload_n 0, 1) := by decide +kernel
theorem dX5_restore_49 : decode cX5_restore 49 = .ok (.getfield 26, 3) := by decide +kernel
theorem dX5_restore_52 : decode cX5_restore 52 = .ok (.iload_n 1, 1) := by decide +kernel
theorem dX5_restore_53 : decode cX5_restore 53 = .ok (.aaload, 1) := by decide +kernel
theorem dX5_restore_54 : decode cX5_restore 54 = .ok (.invokevirtual 64, 3) := by decide +kernel
theorem dX5_restore_57 : decode cX5_restore 57 = .ok (.aload_n 0, 1) := by decide +kernel
theorem dX5_restore_58 : decode cX5_restore 58 = .ok (.getfield 10, 3) := by decide +kernel
theorem dX5_restore_61 : decode cX5_restore 61 = .ok (.getfield 113, 3) := by decide +kernel
theorem dX5_restore_64 : decode cX5_restore 64 = .ok (.ireturn, 1) := by decide +kernel
def f_X5_append (N : Nat) (x1 : Int32) (x2 : Int32) (x3 : Int32) (x4 : Int32) (x5 : Int32) (u0 : Ob) (u1 : Ob) (u2 : (Nat → Ob)) (u3 : (Nat → Ob)) : Option ((Nat ⊕ Int32) × Ob × Ob × (Nat → Ob) × (Nat → Ob)) := (if ((u1.1 1) + (20 : Int32)) ≤ (600 : Int32) then ((f_X3_buffer N x1 u1).bind fun q2 => ((f_X3_buffer N x2 q2).bind fun q4 => ((f_X3_buffer N x3 q4).bind fun q6 => ((f_X3_buffer N x4 q6).bind fun q8 => ((f_X3_buffer N x5 q8).bind fun q10 => some (.inr (q10.1 1), (u0, (q10, (u2, u3))))))))) else some (.inl 0, u0, u1, u2, u3))
def f_X5_remember (N : Nat) (u0 : Ob) (u1 : Ob) (u2 : (Nat → Ob)) (u3 : (Nat → Ob)) : Option (Ob × Ob × (Nat → Ob) × (Nat → Ob)) := (if (u0.1 4) < 0 ∨ 8 ≤ (u0.1 4).toNatClampNeg then none else ((f_X4_copyFrom N (u2 (3 + (u0.1 4).toNatClampNeg)) (u2 0)).bind fun q2 => (if (8 : Int32) ≤ (u0.1 5) then some ((oi u0 4 (((u0.1 4) + (1 : Int32)) - ((u0.1 4) + (1 : Int32)) / (8 : Int32) * (8 : Int32))), (u1, ((va_up (va_up u2 (3 + (u0.1 4).toNatClampNeg) q2.1) 0 q2.2), u3))) else some ((oi (oi u0 4 (((u0.1 4) + (1 : Int32)) - ((u0.1 4) + (1 : Int32)) / (8 : Int32) * (8 : Int32))) 5 ((u0.1 5) + (1 : Int32))), (u1, ((va_up (va_up u2 (3 + (u0.1 4).toNatClampNeg) q2.1) 0 q2.2), u3))))))
def l_X5_load_46 (N : Nat) (x1 : Int32) : Nat → Int32 → Ob → Ob → (Nat → Ob) → (Nat → Ob) → Option ((Nat ⊕ Int32) × Ob × Ob × (Nat → Ob) × (Nat → Ob))
  | 0, _, _, _, _, _ => none
  | n + 1, x2, u0, u1, u2, u3 => (if x1 ≤ x2 then (if (u1.1 5) = (0 : Int32) then ((f_X5_remember N u0 u1 u2 u3).bind fun q9 => ((f_X4_copyFrom N (q9.2.2.1 0) (q9.2.2.1 2)).bind fun q11 => some (.inr (q11.1.1 11), (q9.1, (q9.2.1, ((va_up (va_up q9.2.2.1 0 q11.1) 2 q11.2), q9.2.2.2)))))) else some (.inr (u1.1 5), (u0, (u1, (u2, u3))))) else ((f_X3_findStatement N u1).bind fun q13 => (if q13.1 = true then ((f_X3_readStatement N q13.2 (u2 2)).bind fun q21 => (if (q21.1.1 5) = (0 : Int32) then (if (q21.1.1 7) = (5 : Int32) then ((f_X4_takePulse N (q21.1.1 8) (q21.1.1 9) q21.2 (u3 2)).bind fun q34 => l_X5_load_46 N x1 n (x2 + (1 : Int32)) u0 q21.1 (va_up (va_up u2 2 q21.2) 2 q34.2.1) (va_up u3 2 q34.2.2)) else (if (q21.1.1 7) = (6 : Int32) then (if (q21.1.1 10) = (0 : Int32) then ((f_X4_hearMinute N (q21.1.1 8) false (q21.1.2.1 11) q21.2 (u3 2)).bind fun q29 => l_X5_load_46 N x1 n (x2 + (1 : Int32)) u0 q21.1 (va_up (va_up u2 2 q21.2) 2 q29.2.1) (va_up u3 2 q29.2.2)) else (if (q21.1.1 10) = (1 : Int32) then ((f_X4_hearMinute N (q21.1.1 8) true (q21.1.2.1 11) q21.2 (u3 2)).bind fun q32 => l_X5_load_46 N x1 n (x2 + (1 : Int32)) u0 q21.1 (va_up (va_up u2 2 q21.2) 2 q32.2.1) (va_up u3 2 q32.2.2)) else none)) else ((f_X4_change N (q21.1.1 7) (q21.1.1 8) q21.2).bind fun q26 => l_X5_load_46 N x1 n (x2 + (1 : Int32)) u0 q21.1 (va_up (va_up u2 2 q21.2) 2 q26) u3))) else (if (q21.1.1 5) = (0 : Int32) then ((f_X5_remember N u0 q21.1 (va_up u2 2 q21.2) u3).bind fun q37 => ((f_X4_copyFrom N (q37.2.2.1 0) (q37.2.2.1 2)).bind fun q39 => some (.inr (q39.1.1 11), (q37.1, (q37.2.1, ((va_up (va_up q37.2.2.1 0 q39.1) 2 q39.2), q37.2.2.2)))))) else some (.inr (q21.1.1 5), (u0, (q21.1, ((va_up u2 2 q21.2), u3))))))) else (if (q13.2.1 5) = (0 : Int32) then ((f_X5_remember N u0 q13.2 u2 u3).bind fun q17 => ((f_X4_copyFrom N (q17.2.2.1 0) (q17.2.2.1 2)).bind fun q19 => some (.inr (q19.1.1 11), (q17.1, (q17.2.1, ((va_up (va_up q17.2.2.1 0 q19.1) 2 q19.2), q17.2.2.2)))))) else some (.inr (q13.2.1 5), (u0, (q13.2, (u2, u3))))))))
def f_X5_load (N : Nat) (x1 : Int32) (u0 : Ob) (u1 : Ob) (u2 : (Nat → Ob)) (u3 : (Nat → Ob)) : Option ((Nat ⊕ Int32) × Ob × Ob × (Nat → Ob) × (Nat → Ob)) := (if x1 < (0 : Int32) then some (.inl 1, u0, u1, u2, u3) else (if x1 ≤ (u1.1 1) then ((f_X4_copyFrom N (u2 2) (u2 1)).bind fun q3 => ((f_X3_open N x1 u1).bind fun q5 => l_X5_load_46 N x1 N (0 : Int32) u0 q5 (va_up (va_up u2 2 q3.1) 1 q3.2) u3)) else some (.inl 1, u0, u1, u2, u3)))
def f_X5_errorPosition (N : Nat) (u0 : Ob) (u1 : Ob) (u2 : (Nat → Ob)) (u3 : (Nat → Ob)) : Option Int32 := some (u1.1 6)
def f_X5_count (N : Nat) (x1 : Int32) (u0 : Ob) (u1 : Ob) (u2 : (Nat → Ob)) (u3 : (Nat → Ob)) : Option ((Nat ⊕ Int32) × Ob × Ob × (Nat → Ob) × (Nat → Ob)) := (if x1 = (0 : Int32) then some (.inr ((u2 0).1 4), (u0, (u1, (u2, u3)))) else (if x1 = (1 : Int32) then some (.inr ((u2 0).1 11), (u0, (u1, (u2, u3)))) else (if x1 = (2 : Int32) then some (.inr ((u2 0).1 12), (u0, (u1, (u2, u3)))) else (if x1 = (3 : Int32) then some (.inr ((u2 0).1 13), (u0, (u1, (u2, u3)))) else (if x1 = (4 : Int32) then (if ((u2 0).1 4) = (-1 : Int32) then some (.inr (0 : Int32), (u0, (u1, (u2, u3)))) else some (.inr ((u2 0).1 5), (u0, (u1, (u2, u3))))) else (if x1 = (5 : Int32) then some (.inr ((u2 0).1 16), (u0, (u1, (u2, u3)))) else (if x1 = (6 : Int32) then some (.inr (((u2 0).2.2.1 0) (0 : Int32).toNatClampNeg), (u0, (u1, (u2, u3)))) else (if x1 = (7 : Int32) then some (.inr (((u2 0).2.2.1 0) (1 : Int32).toNatClampNeg), (u0, (u1, (u2, u3)))) else (if x1 = (8 : Int32) then some (.inr (((u2 0).2.2.1 0) (2 : Int32).toNatClampNeg), (u0, (u1, (u2, u3)))) else (if x1 = (9 : Int32) then some (.inr (((u2 0).2.2.1 0) (3 : Int32).toNatClampNeg), (u0, (u1, (u2, u3)))) else (if x1 = (10 : Int32) then some (.inr (((u2 0).2.2.1 0) (4 : Int32).toNatClampNeg), (u0, (u1, (u2, u3)))) else (if x1 = (11 : Int32) then some (.inr ((u2 0).1 2), (u0, (u1, (u2, u3)))) else (if x1 = (12 : Int32) then ((f_X4_doubtsSoFar N (u2 0)).bind fun q15 => some (.inr q15, (u0, (u1, (u2, u3))))) else (if x1 = (13 : Int32) then some (.inr ((u2 0).1 3), (u0, (u1, (u2, u3)))) else some (.inl 1, u0, u1, u2, u3)))))))))))))))
def f_X5_part (N : Nat) (x1 : Int32) (x2 : Int32) (u0 : Ob) (u1 : Ob) (u2 : (Nat → Ob)) (u3 : (Nat → Ob)) : Option ((Nat ⊕ Int32) × Ob × Ob × (Nat → Ob) × (Nat → Ob)) := ((f_X1_hasMinute N x1).bind fun q1 => (if q1 = true then (if x2 = (0 : Int32) then ((f_X1_yearOf N (x1 / (1440 : Int32))).bind fun q5 => some (.inr ((2000 : Int32) + q5), (u0, (u1, (u2, u3))))) else (if x2 = (1 : Int32) then ((f_X1_monthOf N (x1 / (1440 : Int32))).bind fun q8 => some (.inr q8, (u0, (u1, (u2, u3))))) else (if x2 = (2 : Int32) then ((f_X1_dayOfMonth N (x1 / (1440 : Int32))).bind fun q11 => some (.inr q11, (u0, (u1, (u2, u3))))) else (if x2 = (3 : Int32) then some (.inr ((x1 / (60 : Int32)) - (x1 / (60 : Int32)) / (24 : Int32) * (24 : Int32)), (u0, (u1, (u2, u3)))) else (if x2 = (4 : Int32) then some (.inr (x1 - x1 / (60 : Int32) * (60 : Int32)), (u0, (u1, (u2, u3)))) else (if x2 = (5 : Int32) then ((f_X1_weekdayOf N (x1 / (1440 : Int32))).bind fun q16 => some (.inr q16, (u0, (u1, (u2, u3))))) else some (.inl 1, u0, u1, u2, u3))))))) else some (.inl 1, u0, u1, u2, u3)))
def f_X5_number (N : Nat) (x1 : Int32) (x2 : Int32) (x3 : Int32) (x4 : Int32) (x5 : Int32) (u0 : Ob) (u1 : Ob) (u2 : (Nat → Ob)) (u3 : (Nat → Ob)) : Option ((Nat ⊕ Int32) × Ob × Ob × (Nat → Ob) × (Nat → Ob)) := (if x1 < (2000 : Int32) then some (.inl 1, u0, u1, u2, u3) else (if x1 ≤ (2099 : Int32) then ((f_X1_dayNumber N (x1 - (2000 : Int32)) x2 x3).bind fun q3 => (if q3 = (-1 : Int32) then some (.inl 1, u0, u1, u2, u3) else (if x4 < (0 : Int32) then some (.inl 1, u0, u1, u2, u3) else (if (23 : Int32) < x4 then some (.inl 1, u0, u1, u2, u3) else (if x5 < (0 : Int32) then some (.inl 1, u0, u1, u2, u3) else (if x5 ≤ (59 : Int32) then ((f_X1_minuteNumber N q3 x4 x5).bind fun q10 => some (.inr q10, (u0, (u1, (u2, u3))))) else some (.inl 1, u0, u1, u2, u3))))))) else some (.inl 1, u0, u1, u2, u3)))
def f_X5_code (N : Nat) (x1 : Int32) (x2 : Bool) (u0 : Ob) (u1 : Ob) (u2 : (Nat → Ob)) (u3 : (Nat → Ob)) : Option ((Nat ⊕ Int64) × Ob × Ob × (Nat → Ob) × (Nat → Ob)) := ((f_X1_hasMinute N x1).bind fun q1 => (if q1 = true then ((f_X2_encode N x1 x2).bind fun q4 => some (.inr q4, (u0, (u1, (u2, u3))))) else some (.inl 1, u0, u1, u2, u3)))
def f_X5_pulse (N : Nat) (x1 : Int32) (x2 : Int32) (u0 : Ob) (u1 : Ob) (u2 : (Nat → Ob)) (u3 : (Nat → Ob)) : Option ((Nat ⊕ Int32) × Ob × Ob × (Nat → Ob) × (Nat → Ob)) := (if x1 < (0 : Int32) then some (.inl 1, u0, u1, u2, u3) else (if (2000000000 : Int32) < x1 then some (.inl 1, u0, u1, u2, u3) else (if ((u2 0).1 1) < x1 then (if x2 < (0 : Int32) then some (.inl 1, u0, u1, u2, u3) else (if x2 ≤ (9999 : Int32) then ((f_X5_remember N u0 u1 u2 u3).bind fun q6 => ((f_X4_takePulse N x1 x2 (q6.2.2.1 0) (q6.2.2.2 0)).bind fun q8 => some (.inr q8.1, (q6.1, (q6.2.1, ((va_up q6.2.2.1 0 q8.2.1), (va_up q6.2.2.2 0 q8.2.2))))))) else some (.inl 1, u0, u1, u2, u3))) else some (.inl 1, u0, u1, u2, u3))))
def f_X5_hear (N : Nat) (x1 : Int32) (x2 : Bool) (x3 : Int64) (u0 : Ob) (u1 : Ob) (u2 : (Nat → Ob)) (u3 : (Nat → Ob)) : Option ((Nat ⊕ Int32) × Ob × Ob × (Nat → Ob) × (Nat → Ob)) := ((f_X1_hasMinute N x1).bind fun q1 => (if q1 = true then ((f_X4_canHear N (u2 0)).bind fun q4 => (if q4 = true then ((f_X5_remember N u0 u1 u2 u3).bind fun q7 => ((f_X4_hearMinute N x1 x2 x3 (q7.2.2.1 0) (q7.2.2.2 0)).bind fun q9 => some (.inr q9.1, (q7.1, (q7.2.1, ((va_up q7.2.2.1 0 q9.2.1), (va_up q7.2.2.2 0 q9.2.2))))))) else some (.inl 0, u0, u1, u2, u3))) else some (.inl 1, u0, u1, u2, u3)))
def f_X5_bit (N : Nat) (x1 : Int32) (u0 : Ob) (u1 : Ob) (u2 : (Nat → Ob)) (u3 : (Nat → Ob)) : Option ((Nat ⊕ Int32) × Ob × Ob × (Nat → Ob) × (Nat → Ob)) := (if x1 < (0 : Int32) then some (.inl 2, u0, u1, u2, u3) else (if (58 : Int32) < x1 then some (.inl 2, u0, u1, u2, u3) else (if x1 ≤ ((u2 0).1 4) then ((f_X2_bitOf N ((u2 0).2.1 6) ((u2 0).2.1 7) x1).bind fun q4 => some (.inr q4, (u0, (u1, (u2, u3))))) else some (.inl 2, u0, u1, u2, u3))))
def f_X5_frame (N : Nat) (x1 : Int32) (x2 : Int32) (u0 : Ob) (u1 : Ob) (u2 : (Nat → Ob)) (u3 : (Nat → Ob)) : Option ((Nat ⊕ Int32) × Ob × Ob × (Nat → Ob) × (Nat → Ob)) := ((f_X4_hasFrame N x1 (u2 0)).bind fun q1 => (if q1 = true then (if x1 < 0 ∨ 8 ≤ x1.toNatClampNeg then none else (if x1 < 0 ∨ 8 ≤ x1.toNatClampNeg then none else (if x2 = (0 : Int32) then ((f_J13_bitCount_95d88 N ((((u2 0).2.2.2 9) x1.toNatClampNeg) &&& (576460752302899201 : Int64))).bind fun q7 => some (.inr q7, (u0, (u1, (u2, u3))))) else (if x2 = (1 : Int32) then ((f_X2_faultOf N (((u2 0).2.2.2 8) x1.toNatClampNeg) (((u2 0).2.2.2 9) x1.toNatClampNeg)).bind fun q10 => some (.inr q10, (u0, (u1, (u2, u3))))) else (if x2 = (2 : Int32) then ((f_X4_minuteToldBy N x1 (u2 0)).bind fun q13 => some (.inr q13, (u0, (u1, (u2, u3))))) else (if x2 = (3 : Int32) then ((f_X2_bitOf N (((u2 0).2.2.2 8) x1.toNatClampNeg) (((u2 0).2.2.2 9) x1.toNatClampNeg) (19 : Int32)).bind fun q16 => some (.inr q16, (u0, (u1, (u2, u3))))) else some (.inl 1, u0, u1, u2, u3))))))) else some (.inl 2, u0, u1, u2, u3)))
def f_X5_frameBit (N : Nat) (x1 : Int32) (x2 : Int32) (u0 : Ob) (u1 : Ob) (u2 : (Nat → Ob)) (u3 : (Nat → Ob)) : Option ((Nat ⊕ Int32) × Ob × Ob × (Nat → Ob) × (Nat → Ob)) := ((f_X4_hasFrame N x1 (u2 0)).bind fun q1 => (if q1 = true then (if x2 < (0 : Int32) then some (.inl 2, u0, u1, u2, u3) else (if x2 ≤ (58 : Int32) then (if x1 < 0 ∨ 8 ≤ x1.toNatClampNeg then none else (if x1 < 0 ∨ 8 ≤ x1.toNatClampNeg then none else ((f_X2_bitOf N (((u2 0).2.2.2 8) x1.toNatClampNeg) (((u2 0).2.2.2 9) x1.toNatClampNeg) x2).bind fun q8 => some (.inr q8, (u0, (u1, (u2, u3))))))) else some (.inl 2, u0, u1, u2, u3))) else some (.inl 2, u0, u1, u2, u3)))
def f_X5_votes (N : Nat) (x1 : Int32) (u0 : Ob) (u1 : Ob) (u2 : (Nat → Ob)) (u3 : (Nat → Ob)) : Option (Int32 × Ob × Ob × (Nat → Ob) × (Nat → Ob)) := ((f_X4_castVotes N (u2 0) (u3 0)).bind fun q1 => ((f_X0_votesFor N x1 q1.2).bind fun q3 => some (q3, (u0, (u1, ((va_up u2 0 q1.1), (va_up u3 0 q1.2)))))))
def f_X5_favourite (N : Nat) (u0 : Ob) (u1 : Ob) (u2 : (Nat → Ob)) (u3 : (Nat → Ob)) : Option ((Nat ⊕ Int32) × Ob × Ob × (Nat → Ob) × (Nat → Ob)) := ((f_X4_castVotes N (u2 0) (u3 0)).bind fun q1 => ((f_X0_leader N q1.2).bind fun q3 => (if q3 = (-1 : Int32) then some (.inl 3, u0, u1, (va_up u2 0 q1.1), (va_up u3 0 q1.2)) else some (.inr q3, (u0, (u1, ((va_up u2 0 q1.1), (va_up u3 0 q1.2))))))))
def f_X5_block (N : Nat) (x1 : Int32) (x2 : Int32) (u0 : Ob) (u1 : Ob) (u2 : (Nat → Ob)) (u3 : (Nat → Ob)) : Option ((Nat ⊕ Int32) × Ob × Ob × (Nat → Ob) × (Nat → Ob)) := ((f_X4_hasFrame N x1 (u2 0)).bind fun q1 => (if q1 = true then (if x2 < (0 : Int32) then some (.inl 1, u0, u1, u2, u3) else (if x2 < (3 : Int32) then (if x1 < 0 ∨ 8 ≤ x1.toNatClampNeg then none else (if x1 < 0 ∨ 8 ≤ x1.toNatClampNeg then none else ((f_X2_blockValue N (((u2 0).2.2.2 8) x1.toNatClampNeg) (((u2 0).2.2.2 9) x1.toNatClampNeg) x2).bind fun q8 => some (.inr q8, (u0, (u1, (u2, u3))))))) else some (.inl 1, u0, u1, u2, u3))) else some (.inl 2, u0, u1, u2, u3)))
def f_X5_assembled (N : Nat) (u0 : Ob) (u1 : Ob) (u2 : (Nat → Ob)) (u3 : (Nat → Ob)) : Option (Int32 × Ob × Ob × (Nat → Ob) × (Nat → Ob)) := ((f_X4_assembledMinute N (u2 0) (u3 0)).bind fun q1 => some (q1.1, (u0, (u1, ((va_up u2 0 q1.2.1), (va_up u3 0 q1.2.2))))))
def f_X5_dissenting (N : Nat) (u0 : Ob) (u1 : Ob) (u2 : (Nat → Ob)) (u3 : (Nat → Ob)) : Option ((Nat ⊕ Int32) × Ob × Ob × (Nat → Ob) × (Nat → Ob)) := ((f_X4_assembledMinute N (u2 0) (u3 0)).bind fun q1 => (if q1.1 = (-1 : Int32) then some (.inl 3, u0, u1, (va_up u2 0 q1.2.1), (va_up u3 0 q1.2.2)) else ((f_X4_castVotes N q1.2.1 q1.2.2).bind fun q4 => ((f_X0_votesFor N q1.1 q4.2).bind fun q6 => some (.inr ((q4.2.1 1) - q6), (u0, (u1, ((va_up (va_up u2 0 q1.2.1) 0 q4.1), (va_up (va_up u3 0 q1.2.2) 0 q4.2)))))))))
def f_X5_weakest (N : Nat) (u0 : Ob) (u1 : Ob) (u2 : (Nat → Ob)) (u3 : (Nat → Ob)) : Option Int32 := ((f_X4_mostDoubtsOfABit N (u2 0)).bind fun q1 => some q1)
def f_X5_fix (N : Nat) (x1 : Int32) (x2 : Int32) (u0 : Ob) (u1 : Ob) (u2 : (Nat → Ob)) (u3 : (Nat → Ob)) : Option ((Nat ⊕ Int32) × Ob × Ob × (Nat → Ob) × (Nat → Ob)) := (if x1 < (0 : Int32) then some (.inl 2, u0, u1, u2, u3) else (if ((u2 0).1 16) ≤ x1 then some (.inl 2, u0, u1, u2, u3) else (if x1 < (8 : Int32) then (if x2 = (0 : Int32) then (if x1 < 0 ∨ 8 ≤ x1.toNatClampNeg then none else some (.inr (((u2 0).2.2.1 14) x1.toNatClampNeg), (u0, (u1, (u2, u3))))) else (if x2 = (1 : Int32) then (if x1 < 0 ∨ 8 ≤ x1.toNatClampNeg then none else some (.inr (((u2 0).2.2.1 15) x1.toNatClampNeg), (u0, (u1, (u2, u3))))) else some (.inl 1, u0, u1, u2, u3))) else some (.inl 2, u0, u1, u2, u3))))
def f_X5_clock (N : Nat) (x1 : Int32) (u0 : Ob) (u1 : Ob) (u2 : (Nat → Ob)) (u3 : (Nat → Ob)) : Option ((Nat ⊕ Int64) × Ob × Ob × (Nat → Ob) × (Nat → Ob)) := (if x1 < (0 : Int32) then some (.inl 1, u0, u1, u2, u3) else (if x1 ≤ (2000000000 : Int32) then (if ((u2 0).1 16) = (0 : Int32) then some (.inl 3, u0, u1, u2, u3) else (if (((u2 0).2.2.1 15) (0 : Int32).toNatClampNeg) ≤ x1 then some (.inr ((((60000 : Int64) * (((u2 0).2.2.1 14) (0 : Int32).toNatClampNeg).toInt64) + (x1.toInt64 - (((u2 0).2.2.1 15) (0 : Int32).toNatClampNeg).toInt64)) + (((x1.toInt64 - (((u2 0).2.2.1 15) (0 : Int32).toNatClampNeg).toInt64) * (((u2 0).2.2.1 0) (4 : Int32).toNatClampNeg).toInt64) / (1000000 : Int64))), (u0, (u1, (u2, u3)))) else some (.inl 3, u0, u1, u2, u3))) else some (.inl 1, u0, u1, u2, u3)))
def f_X5_estimate (N : Nat) (u0 : Ob) (u1 : Ob) (u2 : (Nat → Ob)) (u3 : (Nat → Ob)) : Option ((Nat ⊕ Int64) × Ob × Ob × (Nat → Ob) × (Nat → Ob)) := (if (2 : Int32) ≤ ((u2 0).1 16) then ((f_X4_driftEstimate N (u2 0)).bind fun q2 => some (.inr q2, (u0, (u1, (u2, u3))))) else some (.inl 3, u0, u1, u2, u3))
def f_X5_set (N : Nat) (x1 : Int32) (x2 : Int32) (u0 : Ob) (u1 : Ob) (u2 : (Nat → Ob)) (u3 : (Nat → Ob)) : Option ((Nat ⊕ Int32) × Ob × Ob × (Nat → Ob) × (Nat → Ob)) := (if x1 < (0 : Int32) then some (.inl 1, u0, u1, u2, u3) else (if x1 < (5 : Int32) then (if x1 < 0 ∨ 5 ≤ x1.toNatClampNeg then none else (if x2 < (aLe x1.toNatClampNeg) then some (.inl 1, u0, u1, u2, u3) else (if x1 < 0 ∨ 5 ≤ x1.toNatClampNeg then none else (if x2 ≤ (aGr x1.toNatClampNeg) then ((f_X5_remember N u0 u1 u2 u3).bind fun q7 => (if x1 < 0 ∨ 5 ≤ x1.toNatClampNeg then none else ((f_X4_change N x1 x2 (q7.2.2.1 0)).bind fun q10 => some (.inr (((q7.2.2.1 0).2.2.1 0) x1.toNatClampNeg), (q7.1, (q7.2.1, ((va_up q7.2.2.1 0 q10), q7.2.2.2))))))) else some (.inl 1, u0, u1, u2, u3))))) else some (.inl 1, u0, u1, u2, u3)))
def f_X5_discipline (N : Nat) (u0 : Ob) (u1 : Ob) (u2 : (Nat → Ob)) (u3 : (Nat → Ob)) : Option ((Nat ⊕ Int32) × Ob × Ob × (Nat → Ob) × (Nat → Ob)) := (if (2 : Int32) ≤ ((u2 0).1 16) then ((f_X4_driftEstimate N (u2 0)).bind fun q2 => (if q2 < (aLe (4 : Int32).toNatClampNeg).toInt64 then some (.inl 0, u0, u1, u2, u3) else (if q2 ≤ (aGr (4 : Int32).toNatClampNeg).toInt64 then ((f_X5_remember N u0 u1 u2 u3).bind fun q6 => ((f_X4_change N (4 : Int32) q2.toInt32 (q6.2.2.1 0)).bind fun q8 => some (.inr (((q6.2.2.1 0).2.2.1 0) (4 : Int32).toNatClampNeg), (q6.1, (q6.2.1, ((va_up q6.2.2.1 0 q8), q6.2.2.2)))))) else some (.inl 0, u0, u1, u2, u3)))) else some (.inl 3, u0, u1, u2, u3))
def f_X5_forget (N : Nat) (u0 : Ob) (u1 : Ob) (u2 : (Nat → Ob)) (u3 : (Nat → Ob)) : Option (Int32 × Ob × Ob × (Nat → Ob) × (Nat → Ob)) := ((f_X5_remember N u0 u1 u2 u3).bind fun q1 => ((f_X4_loseStep N (q1.2.2.1 0)).bind fun q3 => some (((q1.2.2.1 0).1 11), (q1.1, (q1.2.1, ((va_up q1.2.2.1 0 q3), q1.2.2.2))))))
def f_X5_writeSign (N : Nat) (x1 : Int32) (u0 : Ob) (u1 : Ob) (u2 : (Nat → Ob)) (u3 : (Nat → Ob)) : Option (Ob × Ob × (Nat → Ob) × (Nat → Ob)) := (if (18 : Int32) ≤ (u0.1 10) then some (u0, (u1, (u2, u3))) else (if (u0.1 10) < 0 ∨ 18 ≤ (u0.1 10).toNatClampNeg then none else some ((oi (oa u0 9 (upd (u0.2.2.1 9) (u0.1 10).toNatClampNeg (vp_nar .byte x1.toInt8.toInt32))) 10 ((u0.1 10) + (1 : Int32))), (u1, (u2, u3)))))
def f_X5_writeTwoDigits (N : Nat) (x1 : Int32) (u0 : Ob) (u1 : Ob) (u2 : (Nat → Ob)) (u3 : (Nat → Ob)) : Option (Ob × Ob × (Nat → Ob) × (Nat → Ob)) := ((f_X5_writeSign N (i2c ((48 : Int32) + (x1 / (10 : Int32)))) u0 u1 u2 u3).bind fun q1 => ((f_X5_writeSign N (i2c ((48 : Int32) + (x1 - x1 / (10 : Int32) * (10 : Int32)))) q1.1 q1.2.1 q1.2.2.1 q1.2.2.2).bind fun q3 => some (q3.1, (q3.2.1, (q3.2.2.1, q3.2.2.2)))))
def f_X5_writeTime (N : Nat) (x1 : Int32) (u0 : Ob) (u1 : Ob) (u2 : (Nat → Ob)) (u3 : (Nat → Ob)) : Option ((Nat ⊕ Int32) × Ob × Ob × (Nat → Ob) × (Nat → Ob)) := ((f_X1_hasMinute N x1).bind fun q1 => (if q1 = true then ((f_X5_writeTwoDigits N (20 : Int32) (oi u0 10 (0 : Int32)) u1 u2 u3).bind fun q4 => ((f_X1_yearOf N (x1 / (1440 : Int32))).bind fun q6 => ((f_X5_writeTwoDigits N q6 q4.1 q4.2.1 q4.2.2.1 q4.2.2.2).bind fun q8 => ((f_X5_writeSign N (45 : Int32) q8.1 q8.2.1 q8.2.2.1 q8.2.2.2).bind fun q10 => ((f_X1_monthOf N (x1 / (1440 : Int32))).bind fun q12 => ((f_X5_writeTwoDigits N q12 q10.1 q10.2.1 q10.2.2.1 q10.2.2.2).bind fun q14 => ((f_X5_writeSign N (45 : Int32) q14.1 q14.2.1 q14.2.2.1 q14.2.2.2).bind fun q16 => ((f_X1_dayOfMonth N (x1 / (1440 : Int32))).bind fun q18 => ((f_X5_writeTwoDigits N q18 q16.1 q16.2.1 q16.2.2.1 q16.2.2.2).bind fun q20 => ((f_X5_writeSign N (32 : Int32) q20.1 q20.2.1 q20.2.2.1 q20.2.2.2).bind fun q22 => ((f_X5_writeTwoDigits N ((x1 / (60 : Int32)) - (x1 / (60 : Int32)) / (24 : Int32) * (24 : Int32)) q22.1 q22.2.1 q22.2.2.1 q22.2.2.2).bind fun q24 => ((f_X5_writeSign N (58 : Int32) q24.1 q24.2.1 q24.2.2.1 q24.2.2.2).bind fun q26 => ((f_X5_writeTwoDigits N (x1 - x1 / (60 : Int32) * (60 : Int32)) q26.1 q26.2.1 q26.2.2.1 q26.2.2.2).bind fun q28 => ((f_X5_writeSign N (32 : Int32) q28.1 q28.2.1 q28.2.2.1 q28.2.2.2).bind fun q30 => ((f_X1_weekdayOf N (x1 / (1440 : Int32))).bind fun q32 => ((f_X5_writeSign N (i2c ((48 : Int32) + q32)) q30.1 q30.2.1 q30.2.2.1 q30.2.2.2).bind fun q34 => some (.inr (q34.1.1 10), (q34.1, (q34.2.1, (q34.2.2.1, q34.2.2.2)))))))))))))))))))) else some (.inl 1, u0, u1, u2, u3)))
def f_X5_writtenByte (N : Nat) (x1 : Int32) (u0 : Ob) (u1 : Ob) (u2 : (Nat → Ob)) (u3 : (Nat → Ob)) : Option ((Nat ⊕ Int32) × Ob × Ob × (Nat → Ob) × (Nat → Ob)) := (if x1 < (0 : Int32) then some (.inl 2, u0, u1, u2, u3) else (if (u0.1 10) ≤ x1 then some (.inl 2, u0, u1, u2, u3) else (if x1 < (18 : Int32) then (if x1 < 0 ∨ 18 ≤ x1.toNatClampNeg then none else some (.inr ((u0.2.2.1 9) x1.toNatClampNeg), (u0, (u1, (u2, u3))))) else some (.inl 2, u0, u1, u2, u3))))
def f_X5_undo (N : Nat) (u0 : Ob) (u1 : Ob) (u2 : (Nat → Ob)) (u3 : (Nat → Ob)) : Option ((Nat ⊕ Int32) × Ob × Ob × (Nat → Ob) × (Nat → Ob)) := (if (u0.1 5) = (0 : Int32) then some (.inl 0, u0, u1, u2, u3) else (if ((((u0.1 4) + (8 : Int32)) - (1 : Int32)) - (((u0.1 4) + (8 : Int32)) - (1 : Int32)) / (8 : Int32) * (8 : Int32)) < 0 ∨ 8 ≤ ((((u0.1 4) + (8 : Int32)) - (1 : Int32)) - (((u0.1 4) + (8 : Int32)) - (1 : Int32)) / (8 : Int32) * (8 : Int32)).toNatClampNeg then none else ((f_X4_copyFrom N (u2 0) (u2 (3 + ((((u0.1 4) + (8 : Int32)) - (1 : Int32)) - (((u0.1 4) + (8 : Int32)) - (1 : Int32)) / (8 : Int32) * (8 : Int32)).toNatClampNeg))).bind fun q3 => some (.inr ((u0.1 5) - (1 : Int32)), ((oi (oi u0 5 ((u0.1 5) - (1 : Int32))) 4 ((((u0.1 4) + (8 : Int32)) - (1 : Int32)) - (((u0.1 4) + (8 : Int32)) - (1 : Int32)) / (8 : Int32) * (8 : Int32))), (u1, ((va_up (va_up u2 0 q3.1) (3 + ((((u0.1 4) + (8 : Int32)) - (1 : Int32)) - (((u0.1 4) + (8 : Int32)) - (1 : Int32)) / (8 : Int32) * (8 : Int32)).toNatClampNeg) q3.2), u3)))))))
def f_X5_save (N : Nat) (x1 : Int32) (u0 : Ob) (u1 : Ob) (u2 : (Nat → Ob)) (u3 : (Nat → Ob)) : Option ((Nat ⊕ Int32) × Ob × Ob × (Nat → Ob) × (Nat → Ob)) := (if x1 < (0 : Int32) then some (.inl 2, u0, u1, u2, u3) else (if x1 < (2 : Int32) then (if x1 < 0 ∨ 2 ≤ x1.toNatClampNeg then none else ((f_X4_copyFrom N (u2 (11 + x1.toNatClampNeg)) (u2 0)).bind fun q4 => (if x1 < 0 ∨ 2 ≤ x1.toNatClampNeg then none else some (.inr (q4.2.1 11), ((oa u0 7 (upd (u0.2.2.1 7) x1.toNatClampNeg (vp_nar .boolean (1 : Int32)))), (u1, ((va_up (va_up u2 (11 + x1.toNatClampNeg) q4.1) 0 q4.2), u3))))))) else some (.inl 2, u0, u1, u2, u3)))
def f_X5_restore (N : Nat) (x1 : Int32) (u0 : Ob) (u1 : Ob) (u2 : (Nat → Ob)) (u3 : (Nat → Ob)) : Option ((Nat ⊕ Int32) × Ob × Ob × (Nat → Ob) × (Nat → Ob)) := (if x1 < (0 : Int32) then some (.inl 2, u0, u1, u2, u3) else (if x1 < (2 : Int32) then (if x1 < 0 ∨ 2 ≤ x1.toNatClampNeg then none else (if ((u0.2.2.1 7) x1.toNatClampNeg) = (0 : Int32) then some (.inl 0, u0, u1, u2, u3) else ((f_X5_remember N u0 u1 u2 u3).bind fun q5 => (if x1 < 0 ∨ 2 ≤ x1.toNatClampNeg then none else ((f_X4_copyFrom N (q5.2.2.1 0) (q5.2.2.1 (11 + x1.toNatClampNeg))).bind fun q8 => some (.inr (((va_up (va_up q5.2.2.1 0 q8.1) (11 + x1.toNatClampNeg) q8.2) 0).1 11), (q5.1, (q5.2.1, ((va_up (va_up q5.2.2.1 0 q8.1) (11 + x1.toNatClampNeg) q8.2), q5.2.2.2))))))))) else some (.inl 2, u0, u1, u2, u3)))
theorem kc_X5_append : Cond.instanceMethod yX5_append ∈ lw_g ∧ Cond.selects yX5_append.cls yX5_append yX5_append ∈ lw_g ∧ Cond.initialized yX5_append.cls ∈ lw_g ∧ Cond.code yX5_append cX5_append 6 (some .int) ∈ lw_g ∧ yX5_append.cls ≠ "java/lang/invoke/MethodHandle" ∧ yX5_append.cls ≠ "java/lang/invoke/VarHandle" ∧ (parseMethodDescriptor yX5_append.desc).map (fun d => d.parameters.length) = some 5 := ⟨kq2_108, kq2_109, kq1_1, kq2_110, by decide +kernel, by decide +kernel, by decide +kernel⟩
theorem kc_X5_remember : Cond.instanceMethod yX5_remember ∈ lw_g ∧ Cond.selects yX5_remember.cls yX5_remember yX5_remember ∈ lw_g ∧ Cond.initialized yX5_remember.cls ∈ lw_g ∧ Cond.code yX5_remember cX5_remember 1 none ∈ lw_g ∧ yX5_remember.cls ≠ "java/lang/invoke/MethodHandle" ∧ yX5_remember.cls ≠ "java/lang/invoke/VarHandle" ∧ (parseMethodDescriptor yX5_remember.desc).map (fun d => d.parameters.length) = some 0 := ⟨kq2_90, kqp_2, kq1_1, kq2_91, by decide +kernel, by decide +kernel, by decide +kernel⟩
theorem kc_X5_load : Cond.instanceMethod yX5_load ∈ lw_g ∧ Cond.selects yX5_load.cls yX5_load yX5_load ∈ lw_g ∧ Cond.initialized yX5_load.cls ∈ lw_g ∧ Cond.code yX5_load cX5_load 3 (some .int) ∈ lw_g ∧ yX5_load.cls ≠ "java/lang/invoke/MethodHandle" ∧ yX5_load.cls ≠ "java/lang/invoke/VarHandle" ∧ (parseMethodDescriptor yX5_load.desc).map (fun d => d.parameters.length) = some 1 := ⟨kq2_188, kq2_189, kq1_1, kq2_190, by decide +kernel, by decide +kernel, by decide +kernel⟩
theorem kc_X5_errorPosition : Cond.instanceMethod yX5_errorPosition ∈ lw_g ∧ Cond.selects yX5_errorPosition.cls yX5_errorPosition yX5_errorPosition ∈ lw_g ∧ Cond.initialized yX5_errorPosition.cls ∈ lw_g ∧ Cond.code yX5_errorPosition cX5_errorPosition 1 (some .int) ∈ lw_g ∧ yX5_errorPosition.cls ≠ "java/lang/invoke/MethodHandle" ∧ yX5_errorPosition.cls ≠ "java/lang/invoke/VarHandle" ∧ (parseMethodDescriptor yX5_errorPosition.desc).map (fun d => d.parameters.length) = some 0 := ⟨kq1_214, kq1_215, kq1_1, kq1_216, by decide +kernel, by decide +kernel, by decide +kernel⟩
theorem kc_X5_count : Cond.instanceMethod yX5_count ∈ lw_g ∧ Cond.selects yX5_count.cls yX5_count yX5_count ∈ lw_g ∧ Cond.initialized yX5_count.cls ∈ lw_g ∧ Cond.code yX5_count cX5_count 2 (some .int) ∈ lw_g ∧ yX5_count.cls ≠ "java/lang/invoke/MethodHandle" ∧ yX5_count.cls ≠ "java/lang/invoke/VarHandle" ∧ (parseMethodDescriptor yX5_count.desc).map (fun d => d.parameters.length) = some 1 := ⟨kq3_189, kq3_190, kq1_1, kq3_191, by decide +kernel, by decide +kernel, by decide +kernel⟩
theorem kc_X5_part : Cond.instanceMethod yX5_part ∈ lw_g ∧ Cond.selects yX5_part.cls yX5_part yX5_part ∈ lw_g ∧ Cond.initialized yX5_part.cls ∈ lw_g ∧ Cond.code yX5_part cX5_part 4 (some .int) ∈ lw_g ∧ yX5_part.cls ≠ "java/lang/invoke/MethodHandle" ∧ yX5_part.cls ≠ "java/lang/invoke/VarHandle" ∧ (parseMethodDescriptor yX5_part.desc).map (fun d => d.parameters.length) = some 2 := ⟨kq3_201, kq3_202, kq1_1, kq3_203, by decide +kernel, by decide +kernel, by decide +kernel⟩
theorem kc_X5_number : Cond.instanceMethod yX5_number ∈ lw_g ∧ Cond.selects yX5_number.cls yX5_number yX5_number ∈ lw_g ∧ Cond.initialized yX5_number.cls ∈ lw_g ∧ Cond.code yX5_number cX5_number 7 (some .int) ∈ lw_g ∧ yX5_number.cls ≠ "java/lang/invoke/MethodHandle" ∧ yX5_number.cls ≠ "java/lang/invoke/VarHandle" ∧ (parseMethodDescriptor yX5_number.desc).map (fun d => d.parameters.length) = some 5 := ⟨kq3_218, kq3_219, kq1_1, kq3_220, by decide +kernel, by decide +kernel, by decide +kernel⟩
theorem kc_X5_code : Cond.instanceMethod yX5_code ∈ lw_g ∧ Cond.selects yX5_code.cls yX5_code yX5_code ∈ lw_g ∧ Cond.initialized yX5_code.cls ∈ lw_g ∧ Cond.code yX5_code cX5_code 3 (some .long) ∈ lw_g ∧ yX5_code.cls ≠ "java/lang/invoke/MethodHandle" ∧ yX5_code.cls ≠ "java/lang/invoke/VarHandle" ∧ (parseMethodDescriptor yX5_code.desc).map (fun d => d.parameters.length) = some 2 := ⟨kq3_230, kq3_231, kq1_1, kq3_232, by decide +kernel, by decide +kernel, by decide +kernel⟩
theorem kc_X5_pulse : Cond.instanceMethod yX5_pulse ∈ lw_g ∧ Cond.selects yX5_pulse.cls yX5_pulse yX5_pulse ∈ lw_g ∧ Cond.initialized yX5_pulse.cls ∈ lw_g ∧ Cond.code yX5_pulse cX5_pulse 3 (some .int) ∈ lw_g ∧ yX5_pulse.cls ≠ "java/lang/invoke/MethodHandle" ∧ yX5_pulse.cls ≠ "java/lang/invoke/VarHandle" ∧ (parseMethodDescriptor yX5_pulse.desc).map (fun d => d.parameters.length) = some 2 := ⟨kq3_238, kq3_239, kq1_1, kq4_0, by decide +kernel, by decide +kernel, by decide +kernel⟩
theorem kc_X5_hear : Cond.instanceMethod yX5_hear ∈ lw_g ∧ Cond.selects yX5_hear.cls yX5_hear yX5_hear ∈ lw_g ∧ Cond.initialized yX5_hear.cls ∈ lw_g ∧ Cond.code yX5_hear cX5_hear 5 (some .int) ∈ lw_g ∧ yX5_hear.cls ≠ "java/lang/invoke/MethodHandle" ∧ yX5_hear.cls ≠ "java/lang/invoke/VarHandle" ∧ (parseMethodDescriptor yX5_hear.desc).map (fun d => d.parameters.length) = some 3 := ⟨kq4_8, kq4_9, kq1_1, kq4_10, by decide +kernel, by decide +kernel, by decide +kernel⟩
theorem kc_X5_bit : Cond.instanceMethod yX5_bit ∈ lw_g ∧ Cond.selects yX5_bit.cls yX5_bit yX5_bit ∈ lw_g ∧ Cond.initialized yX5_bit.cls ∈ lw_g ∧ Cond.code yX5_bit cX5_bit 2 (some .int) ∈ lw_g ∧ yX5_bit.cls ≠ "java/lang/invoke/MethodHandle" ∧ yX5_bit.cls ≠ "java/lang/invoke/VarHandle" ∧ (parseMethodDescriptor yX5_bit.desc).map (fun d => d.parameters.length) = some 1 := ⟨kq4_18, kq4_19, kq1_1, kq4_20, by decide +kernel, by decide +kernel, by decide +kernel⟩
theorem kc_X5_frame : Cond.instanceMethod yX5_frame ∈ lw_g ∧ Cond.selects yX5_frame.cls yX5_frame yX5_frame ∈ lw_g ∧ Cond.initialized yX5_frame.cls ∈ lw_g ∧ Cond.code yX5_frame cX5_frame 7 (some .int) ∈ lw_g ∧ yX5_frame.cls ≠ "java/lang/invoke/MethodHandle" ∧ yX5_frame.cls ≠ "java/lang/invoke/VarHandle" ∧ (parseMethodDescriptor yX5_frame.desc).map (fun d => d.parameters.length) = some 2 := ⟨kq4_44, kq4_45, kq1_1, kq4_46, by decide +kernel, by decide +kernel, by decide +kernel⟩
theorem kc_X5_frameBit : Cond.instanceMethod yX5_frameBit ∈ lw_g ∧ Cond.selects yX5_frameBit.cls yX5_frameBit yX5_frameBit ∈ lw_g ∧ Cond.initialized yX5_frameBit.cls ∈ lw_g ∧ Cond.code yX5_frameBit cX5_frameBit 3 (some .int) ∈ lw_g ∧ yX5_frameBit.cls ≠ "java/lang/invoke/MethodHandle" ∧ yX5_frameBit.cls ≠ "java/lang/invoke/VarHandle" ∧ (parseMethodDescriptor yX5_frameBit.desc).map (fun d => d.parameters.length) = some 2 := ⟨kq4_61, kq4_62, kq1_1, kq4_63, by decide +kernel, by decide +kernel, by decide +kernel⟩
theorem kc_X5_votes : Cond.instanceMethod yX5_votes ∈ lw_g ∧ Cond.selects yX5_votes.cls yX5_votes yX5_votes ∈ lw_g ∧ Cond.initialized yX5_votes.cls ∈ lw_g ∧ Cond.code yX5_votes cX5_votes 2 (some .int) ∈ lw_g ∧ yX5_votes.cls ≠ "java/lang/invoke/MethodHandle" ∧ yX5_votes.cls ≠ "java/lang/invoke/VarHandle" ∧ (parseMethodDescriptor yX5_votes.desc).map (fun d => d.parameters.length) = some 1 := ⟨kq1_218, kq1_219, kq1_1, kq1_220, by decide +kernel, by decide +kernel, by decide +kernel⟩
theorem kc_X5_favourite : Cond.instanceMethod yX5_favourite ∈ lw_g ∧ Cond.selects yX5_favourite.cls yX5_favourite yX5_favourite ∈ lw_g ∧ Cond.initialized yX5_favourite.cls ∈ lw_g ∧ Cond.code yX5_favourite cX5_favourite 2 (some .int) ∈ lw_g ∧ yX5_favourite.cls ≠ "java/lang/invoke/MethodHandle" ∧ yX5_favourite.cls ≠ "java/lang/invoke/VarHandle" ∧ (parseMethodDescriptor yX5_favourite.desc).map (fun d => d.parameters.length) = some 0 := ⟨kq4_70, kq4_71, kq1_1, kq4_72, by decide +kernel, by decide +kernel, by decide +kernel⟩
theorem kc_X5_block : Cond.instanceMethod yX5_block ∈ lw_g ∧ Cond.selects yX5_block.cls yX5_block yX5_block ∈ lw_g ∧ Cond.initialized yX5_block.cls ∈ lw_g ∧ Cond.code yX5_block cX5_block 3 (some .int) ∈ lw_g ∧ yX5_block.cls ≠ "java/lang/invoke/MethodHandle" ∧ yX5_block.cls ≠ "java/lang/invoke/VarHandle" ∧ (parseMethodDescriptor yX5_block.desc).map (fun d => d.parameters.length) = some 2 := ⟨kq4_94, kq4_95, kq1_1, kq4_96, by decide +kernel, by decide +kernel, by decide +kernel⟩
theorem kc_X5_assembled : Cond.instanceMethod yX5_assembled ∈ lw_g ∧ Cond.selects yX5_assembled.cls yX5_assembled yX5_assembled ∈ lw_g ∧ Cond.initialized yX5_assembled.cls ∈ lw_g ∧ Cond.code yX5_assembled cX5_assembled 1 (some .int) ∈ lw_g ∧ yX5_assembled.cls ≠ "java/lang/invoke/MethodHandle" ∧ yX5_assembled.cls ≠ "java/lang/invoke/VarHandle" ∧ (parseMethodDescriptor yX5_assembled.desc).map (fun d => d.parameters.length) = some 0 := ⟨kq2_13, kq2_14, kq1_1, kq2_15, by decide +kernel, by decide +kernel, by decide +kernel⟩
theorem kc_X5_dissenting : Cond.instanceMethod yX5_dissenting ∈ lw_g ∧ Cond.selects yX5_dissenting.cls yX5_dissenting yX5_dissenting ∈ lw_g ∧ Cond.initialized yX5_dissenting.cls ∈ lw_g ∧ Cond.code yX5_dissenting cX5_dissenting 2 (some .int) ∈ lw_g ∧ yX5_dissenting.cls ≠ "java/lang/invoke/MethodHandle" ∧ yX5_dissenting.cls ≠ "java/lang/invoke/VarHandle" ∧ (parseMethodDescriptor yX5_dissenting.desc).map (fun d => d.parameters.length) = some 0 := ⟨kq4_103, kq4_104, kq1_1, kq4_105, by decide +kernel, by decide +kernel, by decide +kernel⟩
theorem kc_X5_weakest : Cond.instanceMethod yX5_weakest ∈ lw_g ∧ Cond.selects yX5_weakest.cls yX5_weakest yX5_weakest ∈ lw_g ∧ Cond.initialized yX5_weakest.cls ∈ lw_g ∧ Cond.code yX5_weakest cX5_weakest 1 (some .int) ∈ lw_g ∧ yX5_weakest.cls ≠ "java/lang/invoke/MethodHandle" ∧ yX5_weakest.cls ≠ "java/lang/invoke/VarHandle" ∧ (parseMethodDescriptor yX5_weakest.desc).map (fun d => d.parameters.length) = some 0 := ⟨kq2_74, kq2_75, kq1_1, kq2_76, by decide +kernel, by decide +kernel, by decide +kernel⟩
theorem kc_X5_fix : Cond.instanceMethod yX5_fix ∈ lw_g ∧ Cond.selects yX5_fix.cls yX5_fix yX5_fix ∈ lw_g ∧ Cond.initialized yX5_fix.cls ∈ lw_g ∧ Cond.code yX5_fix cX5_fix 3 (some .int) ∈ lw_g ∧ yX5_fix.cls ≠ "java/lang/invoke/MethodHandle" ∧ yX5_fix.cls ≠ "java/lang/invoke/VarHandle" ∧ (parseMethodDescriptor yX5_fix.desc).map (fun d => d.parameters.length) = some 2 := ⟨kq4_111, kq4_112, kq1_1, kq4_113, by decide +kernel, by decide +kernel, by decide +kernel⟩
theorem kc_X5_clock : Cond.instanceMethod yX5_clock ∈ lw_g ∧ Cond.selects yX5_clock.cls yX5_clock yX5_clock ∈ lw_g ∧ Cond.initialized yX5_clock.cls ∈ lw_g ∧ Cond.code yX5_clock cX5_clock 6 (some .long) ∈ lw_g ∧ yX5_clock.cls ≠ "java/lang/invoke/MethodHandle" ∧ yX5_clock.cls ≠ "java/lang/invoke/VarHandle" ∧ (parseMethodDescriptor yX5_clock.desc).map (fun d => d.parameters.length) = some 1 := ⟨kq4_120, kq4_121, kq1_1, kq4_122, by decide +kernel, by decide +kernel, by decide +kernel⟩
theorem kc_X5_estimate : Cond.instanceMethod yX5_estimate ∈ lw_g ∧ Cond.selects yX5_estimate.cls yX5_estimate yX5_estimate ∈ lw_g ∧ Cond.initialized yX5_estimate.cls ∈ lw_g ∧ Cond.code yX5_estimate cX5_estimate 1 (some .long) ∈ lw_g ∧ yX5_estimate.cls ≠ "java/lang/invoke/MethodHandle" ∧ yX5_estimate.cls ≠ "java/lang/invoke/VarHandle" ∧ (parseMethodDescriptor yX5_estimate.desc).map (fun d => d.parameters.length) = some 0 := ⟨kq4_151, kq4_152, kq1_1, kq4_153, by decide +kernel, by decide +kernel, by decide +kernel⟩
theorem kc_X5_set : Cond.instanceMethod yX5_set ∈ lw_g ∧ Cond.selects yX5_set.cls yX5_set yX5_set ∈ lw_g ∧ Cond.initialized yX5_set.cls ∈ lw_g ∧ Cond.code yX5_set cX5_set 4 (some .int) ∈ lw_g ∧ yX5_set.cls ≠ "java/lang/invoke/MethodHandle" ∧ yX5_set.cls ≠ "java/lang/invoke/VarHandle" ∧ (parseMethodDescriptor yX5_set.desc).map (fun d => d.parameters.length) = some 2 := ⟨kq4_165, kq4_166, kq1_1, kq4_167, by decide +kernel, by decide +kernel, by decide +kernel⟩
theorem kc_X5_discipline : Cond.instanceMethod yX5_discipline ∈ lw_g ∧ Cond.selects yX5_discipline.cls yX5_discipline yX5_discipline ∈ lw_g ∧ Cond.initialized yX5_discipline.cls ∈ lw_g ∧ Cond.code yX5_discipline cX5_discipline 4 (some .int) ∈ lw_g ∧ yX5_discipline.cls ≠ "java/lang/invoke/MethodHandle" ∧ yX5_discipline.cls ≠ "java/lang/invoke/VarHandle" ∧ (parseMethodDescriptor yX5_discipline.desc).map (fun d => d.parameters.length) = some 0 := ⟨kq4_176, kq4_177, kq1_1, kq4_178, by decide +kernel, by decide +kernel, by decide +kernel⟩
theorem kc_X5_forget : Cond.instanceMethod yX5_forget ∈ lw_g ∧ Cond.selects yX5_forget.cls yX5_forget yX5_forget ∈ lw_g ∧ Cond.initialized yX5_forget.cls ∈ lw_g ∧ Cond.code yX5_forget cX5_forget 2 (some .int) ∈ lw_g ∧ yX5_forget.cls ≠ "java/lang/invoke/MethodHandle" ∧ yX5_forget.cls ≠ "java/lang/invoke/VarHandle" ∧ (parseMethodDescriptor yX5_forget.desc).map (fun d => d.parameters.length) = some 0 := ⟨kq2_85, kq2_86, kq1_1, kq2_87, by decide +kernel, by decide +kernel, by decide +kernel⟩
theorem kc_X5_writeSign : Cond.instanceMethod yX5_writeSign ∈ lw_g ∧ Cond.selects yX5_writeSign.cls yX5_writeSign yX5_writeSign ∈ lw_g ∧ Cond.initialized yX5_writeSign.cls ∈ lw_g ∧ Cond.code yX5_writeSign cX5_writeSign 2 none ∈ lw_g ∧ yX5_writeSign.cls ≠ "java/lang/invoke/MethodHandle" ∧ yX5_writeSign.cls ≠ "java/lang/invoke/VarHandle" ∧ (parseMethodDescriptor yX5_writeSign.desc).map (fun d => d.parameters.length) = some 1 := ⟨kq4_193, kqp_24, kq1_1, kq4_194, by decide +kernel, by decide +kernel, by decide +kernel⟩
theorem kc_X5_writeTwoDigits : Cond.instanceMethod yX5_writeTwoDigits ∈ lw_g ∧ Cond.selects yX5_writeTwoDigits.cls yX5_writeTwoDigits yX5_writeTwoDigits ∈ lw_g ∧ Cond.initialized yX5_writeTwoDigits.cls ∈ lw_g ∧ Cond.code yX5_writeTwoDigits cX5_writeTwoDigits 2 none ∈ lw_g ∧ yX5_writeTwoDigits.cls ≠ "java/lang/invoke/MethodHandle" ∧ yX5_writeTwoDigits.cls ≠ "java/lang/invoke/VarHandle" ∧ (parseMethodDescriptor yX5_writeTwoDigits.desc).map (fun d => d.parameters.length) = some 1 := ⟨kq4_189, kqp_23, kq1_1, kq4_190, by decide +kernel, by decide +kernel, by decide +kernel⟩
theorem kc_X5_writeTime : Cond.instanceMethod yX5_writeTime ∈ lw_g ∧ Cond.selects yX5_writeTime.cls yX5_writeTime yX5_writeTime ∈ lw_g ∧ Cond.initialized yX5_writeTime.cls ∈ lw_g ∧ Cond.code yX5_writeTime cX5_writeTime 3 (some .int) ∈ lw_g ∧ yX5_writeTime.cls ≠ "java/lang/invoke/MethodHandle" ∧ yX5_writeTime.cls ≠ "java/lang/invoke/VarHandle" ∧ (parseMethodDescriptor yX5_writeTime.desc).map (fun d => d.parameters.length) = some 1 := ⟨kq4_184, kq4_185, kq1_1, kq4_186, by decide +kernel, by decide +kernel, by decide +kernel⟩
theorem kc_X5_writtenByte : Cond.instanceMethod yX5_writtenByte ∈ lw_g ∧ Cond.selects yX5_writtenByte.cls yX5_writtenByte yX5_writtenByte ∈ lw_g ∧ Cond.initialized yX5_writtenByte.cls ∈ lw_g ∧ Cond.code yX5_writtenByte cX5_writtenByte 2 (some .int) ∈ lw_g ∧ yX5_writtenByte.cls ≠ "java/lang/invoke/MethodHandle" ∧ yX5_writtenByte.cls ≠ "java/lang/invoke/VarHandle" ∧ (parseMethodDescriptor yX5_writtenByte.desc).map (fun d => d.parameters.length) = some 1 := ⟨kq4_199, kq4_200, kq1_1, kq4_201, by decide +kernel, by decide +kernel, by decide +kernel⟩
theorem kc_X5_undo : Cond.instanceMethod yX5_undo ∈ lw_g ∧ Cond.selects yX5_undo.cls yX5_undo yX5_undo ∈ lw_g ∧ Cond.initialized yX5_undo.cls ∈ lw_g ∧ Cond.code yX5_undo cX5_undo 1 (some .int) ∈ lw_g ∧ yX5_undo.cls ≠ "java/lang/invoke/MethodHandle" ∧ yX5_undo.cls ≠ "java/lang/invoke/VarHandle" ∧ (parseMethodDescriptor yX5_undo.desc).map (fun d => d.parameters.length) = some 0 := ⟨kq4_207, kq4_208, kq1_1, kq4_209, by decide +kernel, by decide +kernel, by decide +kernel⟩
theorem kc_X5_save : Cond.instanceMethod yX5_save ∈ lw_g ∧ Cond.selects yX5_save.cls yX5_save yX5_save ∈ lw_g ∧ Cond.initialized yX5_save.cls ∈ lw_g ∧ Cond.code yX5_save cX5_save 2 (some .int) ∈ lw_g ∧ yX5_save.cls ≠ "java/lang/invoke/MethodHandle" ∧ yX5_save.cls ≠ "java/lang/invoke/VarHandle" ∧ (parseMethodDescriptor yX5_save.desc).map (fun d => d.parameters.length) = some 1 := ⟨kq4_215, kq4_216, kq1_1, kq4_217, by decide +kernel, by decide +kernel, by decide +kernel⟩
theorem kc_X5_restore : Cond.instanceMethod yX5_restore ∈ lw_g ∧ Cond.selects yX5_restore.cls yX5_restore yX5_restore ∈ lw_g ∧ Cond.initialized yX5_restore.cls ∈ lw_g ∧ Cond.code yX5_restore cX5_restore 2 (some .int) ∈ lw_g ∧ yX5_restore.cls ≠ "java/lang/invoke/MethodHandle" ∧ yX5_restore.cls ≠ "java/lang/invoke/VarHandle" ∧ (parseMethodDescriptor yX5_restore.desc).map (fun d => d.parameters.length) = some 1 := ⟨kq4_223, kq4_224, kq1_1, kq4_225, by decide +kernel, by decide +kernel, by decide +kernel⟩
set_option maxRecDepth 100000 in
set_option maxHeartbeats 4000000 in
theorem c_X5_append {l : Launch} (hlf : l.stackTraces = false) {G : Gp} {sz N : Nat} {x1 : Int32} {x2 : Int32} {x3 : Int32} {x4 : Int32} {x5 : Int32} {h0 : Nat} {a0 a1 : Nat → Nat} {ra rb : Nat → Nat → Nat} {u0 u1 : Ob} {u2 u3 : Nat → Ob} {q : (Nat ⊕ Int32) × Ob × Ob × (Nat → Ob) × (Nat → Ob)} (hf : f_X5_append N x1 x2 x3 x4 x5 u0 u1 u2 u3 = some q) : vx_Met l yX5_append (Cond.code yX5_append cX5_append 6 (some .int) :: lw_g) ({ frames := 6, cells := 1, slots := 6, locals := 90 } : Room) (va_Pc [.ref h0, .int x1, .int x2, .int x3, .int x4, .int x5] (pw G (wAll G h0 a0 u0 a1 u1 ra rb u2 u3) sz)) (va_Qi (fun (r : Int32) (v : Ob × Ob × (Nat → Ob) × (Nat → Ob)) => q = (.inr r, v)) (bw G (fun v : Ob × Ob × (Nat → Ob) × (Nat → Ob) => (wAll G h0 a0 v.1 a1 v.2.1 ra rb v.2.2.1 v.2.2.2)) (va_A (wAll G h0 a0 u0 a1 u1 ra rb u2 u3) sz)) (va_A (wAll G h0 a0 u0 a1 u1 ra rb u2 u3) sz)) (XQ (fun z : Nat × (Ob × Ob × (Nat → Ob) × (Nat → Ob)) => q = (.inl z.1, z.2)) G (fun v : Ob × Ob × (Nat → Ob) × (Nat → Ob) => (wAll G h0 a0 v.1 a1 v.2.1 ra rb v.2.2.1 v.2.2.2)) (va_A (wAll G h0 a0 u0 a1 u1 ra rb u2 u3) sz)) 1 6 (va_A (wAll G h0 a0 u0 a1 u1 ra rb u2 u3) sz) := by
  refine mtx (Qc := (fun A => va_Qi (fun (r : Int32) (v : Ob × Ob × (Nat → Ob) × (Nat → Ob)) => q = (.inr r, v)) (bw G (fun v : Ob × Ob × (Nat → Ob) × (Nat → Ob) => (wAll G h0 a0 v.1 a1 v.2.1 ra rb v.2.2.1 v.2.2.2)) A) A)) (XC := fun A => XQ (fun z : Nat × (Ob × Ob × (Nat → Ob) × (Nat → Ob)) => q = (.inl z.1, z.2)) G (fun v : Ob × Ob × (Nat → Ob) × (Nat → Ob) => (wAll G h0 a0 v.1 a1 v.2.1 ra rb v.2.2.1 v.2.2.2)) A) (by decide) (Nat.le_of_ble_eq_true rfl) ?_
  intro p e s m below meth c A ls hx hb hr hlk hml htb hts hown hA hP hK hD hE hS hl
  have hown : s.vm.findClass RX5 = some m.cls := hown
  have hg : ∀ w ∈ lw_g, w.before ([.ref h0, .int x1, .int x2, .int x3, .int x4, .int x5] : List Value).toArray s = true := fun w h => hts w (List.mem_cons_of_mem _ h)
  have hC : CallFix p m c cX5_append 6 s ([.ref h0, .int x1, .int x2, .int x3, .int x4, .int x5] : List Value).toArray (Cond.code yX5_append cX5_append 6 (some .int) :: lw_g) RX5 := ⟨hx, hb, hml, hown, hts⟩
  have hl : lv_has ls 6 [(0, .ref h0), (1, .int x1), (2, .int x2), (3, .int x3), (4, .int x4), (5, .int x5)] := hl
  rw [f_X5_append] at hf
  refine lv_aload_n hx hb dX5_append_0 rfl (lv_at hl 0 rfl) ?_
  refine va_get (D := gD G) (ci := 3) (v := .ref (a0 8)) (C := RX5) (T := TX5) (N := 11) hx hb hg kl_X5 hown hK hP 0 rfl rfl 8 (by decide) (hg _ kq1_187) (fun _ h9 => h9) rfl dX5_append_1 ?_
  refine va_get (D := gD G) (ci := 1) (v := .int (u1.1 1)) (C := RX3) (T := TX3) (N := 12) hx hb hg kl_X3 hown hK hP 5 rfl rfl 1 (by decide) (hg _ kq1_133) (fun _ h9 => h9) rfl dX5_append_4 ?_
  refine lv_bipush (v := (20 : Int32)) hx hb dX5_append_7 (by decide) ?_
  refine lv_iadd hx hb dX5_append_9 ?_
  refine lv_sipush (v := (600 : Int32)) hx hb dX5_append_10 (by decide) ?_
  refine lv_icmp_le (tgt := 26) hx hb dX5_append_13 (by decide) (fun c1 => ?_) (fun c1 => ?_)
  · have hf := tp hf c1
    refine lv_aload_n hx hb dX5_append_26 rfl (lv_at hl 0 rfl) ?_
    refine va_get (D := gD G) (ci := 3) (v := .ref (a0 8)) (C := RX5) (T := TX5) (N := 11) hx hb hg kl_X5 hown hK hP 0 rfl rfl 8 (by decide) (hg _ kq1_187) (fun _ h9 => h9) rfl dX5_append_27 ?_
    refine lv_iload_n hx hb dX5_append_30 rfl (lv_at hl 1 rfl) ?_
    obtain ⟨q2, e3, hf⟩ := tbd hf
    refine kVpv (As := [.int x1]) (rest := []) hC (c_X3_buffer (G := G) e3) kq2_179 kc_X3_buffer (by decide) 0 (ci := 1) rfl rfl hP hK hD hE hS hA pR3 qR3 hl.1 (Nat.le_of_ble_eq_true rfl) ⟨Nat.zero_le _, Nat.zero_le _⟩ dX5_append_31 (fun u9 H locs hw hP hD hS => ?_)
    obtain rfl := hw
    have hP : va_P (gD G) vwCl (wAll G h0 a0 u0 a1 q2 ra rb u2 u3) H := hP
    have hD : va_D A (wAll G h0 a0 u0 a1 q2 ra rb u2 u3) := hD
    refine lv_aload_n hx hb dX5_append_34 rfl (lv_at hl 0 rfl) ?_
    refine va_get (D := gD G) (ci := 3) (v := .ref (a0 8)) (C := RX5) (T := TX5) (N := 11) hx hb hg kl_X5 hown hK hP 0 rfl rfl 8 (by decide) (hg _ kq1_187) (fun _ h9 => h9) rfl dX5_append_35 ?_
    refine lv_iload_n hx hb dX5_append_38 rfl (lv_at hl 2 rfl) ?_
    obtain ⟨q4, e5, hf⟩ := tbd hf
    refine kVpv (As := [.int x2]) (rest := []) hC (c_X3_buffer (G := G) e5) kq2_179 kc_X3_buffer (by decide) 0 (ci := 1) rfl rfl hP hK hD hE hS hA pR3 qR3 hl.1 (Nat.le_of_ble_eq_true rfl) ⟨Nat.zero_le _, Nat.zero_le _⟩ dX5_append_39 (fun u9 H locs hw hP hD hS => ?_)
    obtain rfl := hw
    have hP : va_P (gD G) vwCl (wAll G h0 a0 u0 a1 q4 ra rb u2 u3) H := hP
    have hD : va_D A (wAll G h0 a0 u0 a1 q4 ra rb u2 u3) := hD
    refine lv_aload_n hx hb dX5_append_42 rfl (lv_at hl 0 rfl) ?_
    refine va_get (D := gD G) (ci := 3) (v := .ref (a0 8)) (C := RX5) (T := TX5) (N := 11) hx hb hg kl_X5 hown hK hP 0 rfl rfl 8 (by decide) (hg _ kq1_187) (fun _ h9 => h9) rfl dX5_append_43 ?_
    refine lv_iload_n hx hb dX5_append_46 rfl (lv_at hl 3 rfl) ?_
    obtain ⟨q6, e7, hf⟩ := tbd hf
    refine kVpv (As := [.int x3]) (rest := []) hC (c_X3_buffer (G := G) e7) kq2_179 kc_X3_buffer (by decide) 0 (ci := 1) rfl rfl hP hK hD hE hS hA pR3 qR3 hl.1 (Nat.le_of_ble_eq_true rfl) ⟨Nat.zero_le _, Nat.zero_le _⟩ dX5_append_47 (fun u9 H locs hw hP hD hS => ?_)
    obtain rfl := hw
    have hP : va_P (gD G) vwCl (wAll G h0 a0 u0 a1 q6 ra rb u2 u3) H := hP
    have hD : va_D A (wAll G h0 a0 u0 a1 q6 ra rb u2 u3) := hD
    refine lv_aload_n hx hb dX5_append_50 rfl (lv_at hl 0 rfl) ?_
    refine va_get (D := gD G) (ci := 3) (v := .ref (a0 8)) (C := RX5) (T := TX5) (N := 11) hx hb hg kl_X5 hown hK hP 0 rfl rfl 8 (by decide) (hg _ kq1_187) (fun _ h9 => h9) rfl dX5_append_51 ?_
    refine lv_iload hx hb dX5_append_54 (lv_at hl 4 rfl) ?_
    obtain ⟨q8, e9, hf⟩ := tbd hf
    refine kVpv (As := [.int x4]) (rest := []) hC (c_X3_buffer (G := G) e9) kq2_179 kc_X3_buffer (by decide) 0 (ci := 1) rfl rfl hP hK hD hE hS hA pR3 qR3 hl.1 (Nat.le_of_ble_eq_true rfl) ⟨Nat.zero_le _, Nat.zero_le _⟩ dX5_append_56 (fun u9 H locs hw hP hD hS => ?_)
    obtain rfl := hw
    have hP : va_P (gD G) vwCl (wAll G h0 a0 u0 a1 q8 ra rb u2 u3) H := hP
    have hD : va_D A (wAll G h0 a0 u0 a1 q8 ra rb u2 u3) := hD
    refine lv_aload_n hx hb dX5_append_59 rfl (lv_at hl 0 rfl) ?_
    refine va_get (D := gD G) (ci := 3) (v := .ref (a0 8)) (C := RX5) (T := TX5) (N := 11) hx hb hg kl_X5 hown hK hP 0 rfl rfl 8 (by decide) (hg _ kq1_187) (fun _ h9 => h9) rfl dX5_append_60 ?_
    refine lv_iload hx hb dX5_append_63 (lv_at hl 5 rfl) ?_
    obtain ⟨q10, e11, hf⟩ := tbd hf
    refine kVpv (As := [.int x5]) (rest := []) hC (c_X3_buffer (G := G) e11) kq2_179 kc_X3_buffer (by decide) 0 (ci := 1) rfl rfl hP hK hD hE hS hA pR3 qR3 hl.1 (Nat.le_of_ble_eq_true rfl) ⟨Nat.zero_le _, Nat.zero_le _⟩ dX5_append_65 (fun u9 H locs hw hP hD hS => ?_)
    obtain rfl := hw
    have hP : va_P (gD G) vwCl (wAll G h0 a0 u0 a1 q10 ra rb u2 u3) H := hP
    have hD : va_D A (wAll G h0 a0 u0 a1 q10 ra rb u2 u3) := hD
    refine lv_aload_n hx hb dX5_append_68 rfl (lv_at hl 0 rfl) ?_
    refine va_get (D := gD G) (ci := 3) (v := .ref (a0 8)) (C := RX5) (T := TX5) (N := 11) hx hb hg kl_X5 hown hK hP 0 rfl rfl 8 (by decide) (hg _ kq1_187) (fun _ h9 => h9) rfl dX5_append_69 ?_
    refine va_get (D := gD G) (ci := 1) (v := .int (q10.1 1)) (C := RX3) (T := TX3) (N := 12) hx hb hg kl_X3 hown hK hP 5 rfl rfl 1 (by decide) (hg _ kq1_133) (fun _ h9 => h9) rfl dX5_append_72 ?_
    have hf := Option.some.inj hf
    subst hf
    refine W.widen (k := 1) (n := 6) (Nat.zero_le _) (Nat.zero_le _) ?_
    refine vx_ret ?_
    exact e_i (wf := (fun v : Ob × Ob × (Nat → Ob) × (Nat → Ob) => (wAll G h0 a0 v.1 a1 v.2.1 ra rb v.2.2.1 v.2.2.2))) hx hb hr hlk (u0, (q10, (u2, u3))) rfl hP hK hD hS dX5_append_75
  · have hf := tn hf c1
    have hf := Option.some.inj hf
    subst hf
    exact thS (wf := (fun v : Ob × Ob × (Nat → Ob) × (Nat → Ob) => (wAll G h0 a0 v.1 a1 v.2.1 ra rb v.2.2.1 v.2.2.2))) (E := "java/lang/IllegalStateException") (tx := "the text buffer is full") (u0, (u1, (u2, u3))) hx hb hlf hml hlk htb hown hg (k := 0) rfl kq2_111 kq1_9 (by decide +kernel) atg_52 atn_52 ato_52 (by decide +kernel) hP hK hD hE hS hl.1 rfl (by decide) dX5_append_16 dX5_append_19 dX5_append_20 dX5_append_22 dX5_append_25
set_option maxRecDepth 100000 in
set_option maxHeartbeats 4000000 in
theorem c_X5_remember {l : Launch} {G : Gp} {sz N : Nat} {h0 : Nat} {a0 a1 : Nat → Nat} {ra rb : Nat → Nat → Nat} {u0 u1 : Ob} {u2 u3 : Nat → Ob} {q : Ob × Ob × (Nat → Ob) × (Nat → Ob)} (hf : f_X5_remember N u0 u1 u2 u3 = some q) : Met l yX5_remember (Cond.code yX5_remember cX5_remember 1 none :: lw_g) ({ frames := 2, cells := 0, slots := 0, locals := 39 } : Room) (va_Pc [.ref h0] (pw G (wAll G h0 a0 u0 a1 u1 ra rb u2 u3) sz)) (va_Qv (fun v : Ob × Ob × (Nat → Ob) × (Nat → Ob) => q = v) (bw G (fun v : Ob × Ob × (Nat → Ob) × (Nat → Ob) => (wAll G h0 a0 v.1 a1 v.2.1 ra rb v.2.2.1 v.2.2.2)) (va_A (wAll G h0 a0 u0 a1 u1 ra rb u2 u3) sz)) (va_A (wAll G h0 a0 u0 a1 u1 ra rb u2 u3) sz)) 0 0 (va_A (wAll G h0 a0 u0 a1 u1 ra rb u2 u3) sz) := by
  refine mt (Qc := (fun A => va_Qv (fun v : Ob × Ob × (Nat → Ob) × (Nat → Ob) => q = v) (bw G (fun v : Ob × Ob × (Nat → Ob) × (Nat → Ob) => (wAll G h0 a0 v.1 a1 v.2.1 ra rb v.2.2.1 v.2.2.2)) A) A)) (by decide) (Nat.le_of_ble_eq_true rfl) ?_
  intro p e s m below meth c A ls hx hb hr hlk hml hts hown hA hP hK hD hE hS hl
  have hown : s.vm.findClass RX5 = some m.cls := hown
  have hg : ∀ w ∈ lw_g, w.before ([.ref h0] : List Value).toArray s = true := fun w h => hts w (List.mem_cons_of_mem _ h)
  have hC : CallFix p m c cX5_remember 1 s ([.ref h0] : List Value).toArray (Cond.code yX5_remember cX5_remember 1 none :: lw_g) RX5 := ⟨hx, hb, hml, hown, hts⟩
  have hl : lv_has ls 1 [(0, .ref h0)] := hl
  rw [f_X5_remember] at hf
  refine lv_aload_n hx hb dX5_remember_0 rfl (lv_at hl 0 rfl) ?_
  refine va_get (D := gD G) (ci := 3) (v := .ref (a0 3)) (C := RX5) (T := TX5) (N := 11) hx hb hg kl_X5 hown hK hP 0 rfl rfl 3 (by decide) (hg _ kq1_182) (fun _ h9 => h9) rfl dX5_remember_1 ?_
  refine lv_aload_n hx hb dX5_remember_4 rfl (lv_at hl 0 rfl) ?_
  refine va_get (D := gD G) (ci := 3) (v := .int (u0.1 4)) (C := RX5) (T := TX5) (N := 11) hx hb hg kl_X5 hown hK hP 0 rfl rfl 4 (by decide) (hg _ kq1_183) (fun _ h9 => h9) rfl dX5_remember_5 ?_
  obtain ⟨b1, hf⟩ := tno hf
  have hrb1 : (u0.1 4).toNatClampNeg < 8 := Nat.lt_of_not_le (fun h => b1 (Or.inr h))
  refine va_aldq hx hb hK hP 1 4 rfl rfl b1 dX5_remember_8 ?_
  refine W.eq (g2 := F0 m 9 ls [.ref (a0 (20 + (3 + (u0.1 4).toNatClampNeg)))]) rfl ?_
  refine lv_aload_n hx hb dX5_remember_9 rfl (lv_at hl 0 rfl) ?_
  refine va_get (D := gD G) (ci := 3) (v := .ref (a0 (20 + 0))) (C := RX5) (T := TX5) (N := 11) hx hb hg kl_X5 hown hK hP 0 rfl rfl 0 (by decide) (hg _ kq1_179) (fun _ h9 => h9) rfl dX5_remember_10 ?_
  obtain ⟨q2, e3, hf⟩ := tbd hf
  refine kVpv (As := [.ref (a0 (20 + 0))]) (rest := []) hC (c_X4_copyFrom (G := G) e3) kq2_92 kc_X4_copyFrom (by decide) 0 (ci := 2) rfl rfl hP hK hD hE hS hA (pR44 (i := (3 + (u0.1 4).toNatClampNeg)) (k := 0) (by omega) (by omega) (by omega)) (fun v => qR44 (i := (3 + (u0.1 4).toNatClampNeg)) (k := 0) (by omega) (by omega) (by omega) v.1 v.2) hl.1 (Nat.le_of_ble_eq_true rfl) ⟨Nat.zero_le _, Nat.zero_le _⟩ dX5_remember_13 (fun u9 H locs hw hP hD hS => ?_)
  obtain rfl := hw
  have hP : va_P (gD G) vwCl (wAll G h0 a0 u0 a1 u1 ra rb (va_up (va_up u2 (3 + (u0.1 4).toNatClampNeg) q2.1) 0 q2.2) u3) H := hP
  have hD : va_D A (wAll G h0 a0 u0 a1 u1 ra rb (va_up (va_up u2 (3 + (u0.1 4).toNatClampNeg) q2.1) 0 q2.2) u3) := hD
  refine lv_aload_n hx hb dX5_remember_16 rfl (lv_at hl 0 rfl) ?_
  refine lv_aload_n hx hb dX5_remember_17 rfl (lv_at hl 0 rfl) ?_
  refine va_get (D := gD G) (ci := 3) (v := .int (u0.1 4)) (C := RX5) (T := TX5) (N := 11) hx hb hg kl_X5 hown hK hP 0 rfl rfl 4 (by decide) (hg _ kq1_183) (fun _ h9 => h9) rfl dX5_remember_18 ?_
  refine lv_iconst (v := (1 : Int32)) hx hb dX5_remember_21 (by decide) ?_
  refine lv_iadd hx hb dX5_remember_22 ?_
  refine lv_bipush (v := (8 : Int32)) hx hb dX5_remember_23 (by decide) ?_
  refine lv_irem hx hb dX5_remember_25 (by decide) ?_
  refine va_put (D := gD G) (ci := 3) (v := .int (((u0.1 4) + (1 : Int32)) - ((u0.1 4) + (1 : Int32)) / (8 : Int32) * (8 : Int32))) (ty := .int) (C := RX5) (T := TX5) (N := 11) hx hb hg kl_X5 tyX5 tyX5_ok nmX5 hown hK hP hD hS 0 rfl rfl 4 (by decide) (hg _ kq1_183) (fun _ h9 => h9) rfl (by decide +kernel) rfl rfl (Nat.le_of_ble_eq_true rfl) dX5_remember_26 (fun H locs hP hD hS => ?_)
  have hP : va_P (gD G) vwCl (wAll G h0 a0 (oi u0 4 (((u0.1 4) + (1 : Int32)) - ((u0.1 4) + (1 : Int32)) / (8 : Int32) * (8 : Int32))) a1 u1 ra rb (va_up (va_up u2 (3 + (u0.1 4).toNatClampNeg) q2.1) 0 q2.2) u3) H := hP
  have hD : va_D A (wAll G h0 a0 (oi u0 4 (((u0.1 4) + (1 : Int32)) - ((u0.1 4) + (1 : Int32)) / (8 : Int32) * (8 : Int32))) a1 u1 ra rb (va_up (va_up u2 (3 + (u0.1 4).toNatClampNeg) q2.1) 0 q2.2) u3) := hD
  refine lv_aload_n hx hb dX5_remember_29 rfl (lv_at hl 0 rfl) ?_
  refine va_get (D := gD G) (ci := 3) (v := .int (u0.1 5)) (C := RX5) (T := TX5) (N := 11) hx hb hg kl_X5 hown hK hP 0 rfl rfl 5 (by decide) (hg _ kq1_184) (fun _ h9 => h9) rfl dX5_remember_30 ?_
  refine lv_bipush (v := (8 : Int32)) hx hb dX5_remember_33 (by decide) ?_
  refine lv_icmp_ge (tgt := 48) hx hb dX5_remember_35 (by decide) (fun c4 => ?_) (fun c4 => ?_)
  · have hf := tp hf c4
    have hf := Option.some.inj hf
    subst hf
    exact e_v (wf := (fun v : Ob × Ob × (Nat → Ob) × (Nat → Ob) => (wAll G h0 a0 v.1 a1 v.2.1 ra rb v.2.2.1 v.2.2.2))) hx hb hr hlk ((oi u0 4 (((u0.1 4) + (1 : Int32)) - ((u0.1 4) + (1 : Int32)) / (8 : Int32) * (8 : Int32))), (u1, ((va_up (va_up u2 (3 + (u0.1 4).toNatClampNeg) q2.1) 0 q2.2), u3))) rfl hP hK hD hS dX5_remember_48
  · have hf := tn hf c4
    refine lv_aload_n hx hb dX5_remember_38 rfl (lv_at hl 0 rfl) ?_
    refine lv_dup hx hb dX5_remember_39 rfl ?_
    refine va_get (D := gD G) (ci := 3) (v := .int (u0.1 5)) (C := RX5) (T := TX5) (N := 11) hx hb hg kl_X5 hown hK hP 0 rfl rfl 5 (by decide) (hg _ kq1_184) (fun _ h9 => h9) rfl dX5_remember_40 ?_
    refine lv_iconst (v := (1 : Int32)) hx hb dX5_remember_43 (by decide) ?_
    refine lv_iadd hx hb dX5_remember_44 ?_
    refine va_put (D := gD G) (ci := 3) (v := .int ((u0.1 5) + (1 : Int32))) (ty := .int) (C := RX5) (T := TX5) (N := 11) hx hb hg kl_X5 tyX5 tyX5_ok nmX5 hown hK hP hD hS 0 rfl rfl 5 (by decide) (hg _ kq1_184) (fun _ h9 => h9) rfl (by decide +kernel) rfl rfl (Nat.le_of_ble_eq_true rfl) dX5_remember_45 (fun H locs hP hD hS => ?_)
    have hP : va_P (gD G) vwCl (wAll G h0 a0 (oi (oi u0 4 (((u0.1 4) + (1 : Int32)) - ((u0.1 4) + (1 : Int32)) / (8 : Int32) * (8 : Int32))) 5 ((u0.1 5) + (1 : Int32))) a1 u1 ra rb (va_up (va_up u2 (3 + (u0.1 4).toNatClampNeg) q2.1) 0 q2.2) u3) H := hP
    have hD : va_D A (wAll G h0 a0 (oi (oi u0 4 (((u0.1 4) + (1 : Int32)) - ((u0.1 4) + (1 : Int32)) / (8 : Int32) * (8 : Int32))) 5 ((u0.1 5) + (1 : Int32))) a1 u1 ra rb (va_up (va_up u2 (3 + (u0.1 4).toNatClampNeg) q2.1) 0 q2.2) u3) := hD
    have hf := Option.some.inj hf
    subst hf
    exact e_v (wf := (fun v : Ob × Ob × (Nat → Ob) × (Nat → Ob) => (wAll G h0 a0 v.1 a1 v.2.1 ra rb v.2.2.1 v.2.2.2))) hx hb hr hlk ((oi (oi u0 4 (((u0.1 4) + (1 : Int32)) - ((u0.1 4) + (1 : Int32)) / (8 : Int32) * (8 : Int32))) 5 ((u0.1 5) + (1 : Int32))), (u1, ((va_up (va_up u2 (3 + (u0.1 4).toNatClampNeg) q2.1) 0 q2.2), u3))) rfl hP hK hD hS dX5_remember_48
set_option maxRecDepth 100000 in
set_option maxHeartbeats 4000000 in
theorem c_X5_load {l : Launch} (hlf : l.stackTraces = false) {G : Gp} {sz N : Nat} {x1 : Int32} {h0 : Nat} {a0 a1 : Nat → Nat} {ra rb : Nat → Nat → Nat} {u0 u1 : Ob} {u2 u3 : Nat → Ob} {q : (Nat ⊕ Int32) × Ob × Ob × (Nat → Ob) × (Nat → Ob)} (hf : f_X5_load N x1 u0 u1 u2 u3 = some q) : vx_Met l yX5_load (Cond.code yX5_load cX5_load 3 (some .int) :: lw_g) ({ frames := 7, cells := 1, slots := 6, locals := 179 } : Room) (va_Pc [.ref h0, .int x1] (pw G (wAll G h0 a0 u0 a1 u1 ra rb u2 u3) sz)) (va_Qi (fun (r : Int32) (v : Ob × Ob × (Nat → Ob) × (Nat → Ob)) => q = (.inr r, v)) (bw G (fun v : Ob × Ob × (Nat → Ob) × (Nat → Ob) => (wAll G h0 a0 v.1 a1 v.2.1 ra rb v.2.2.1 v.2.2.2)) (va_A (wAll G h0 a0 u0 a1 u1 ra rb u2 u3) sz)) (va_A (wAll G h0 a0 u0 a1 u1 ra rb u2 u3) sz)) (XQ (fun z : Nat × (Ob × Ob × (Nat → Ob) × (Nat → Ob)) => q = (.inl z.1, z.2)) G (fun v : Ob × Ob × (Nat → Ob) × (Nat → Ob) => (wAll G h0 a0 v.1 a1 v.2.1 ra rb v.2.2.1 v.2.2.2)) (va_A (wAll G h0 a0 u0 a1 u1 ra rb u2 u3) sz)) 1 6 (va_A (wAll G h0 a0 u0 a1 u1 ra rb u2 u3) sz) := by
  refine mtx (Qc := (fun A => va_Qi (fun (r : Int32) (v : Ob × Ob × (Nat → Ob) × (Nat → Ob)) => q = (.inr r, v)) (bw G (fun v : Ob × Ob × (Nat → Ob) × (Nat → Ob) => (wAll G h0 a0 v.1 a1 v.2.1 ra rb v.2.2.1 v.2.2.2)) A) A)) (XC := fun A => XQ (fun z : Nat × (Ob × Ob × (Nat → Ob) × (Nat → Ob)) => q = (.inl z.1, z.2)) G (fun v : Ob × Ob × (Nat → Ob) × (Nat → Ob) => (wAll G h0 a0 v.1 a1 v.2.1 ra rb v.2.2.1 v.2.2.2)) A) (by decide) (Nat.le_of_ble_eq_true rfl) ?_
  intro p e s m below meth c A ls hx hb hr hlk hml htb hts hown hA hP hK hD hE hS hl
  have hown : s.vm.findClass RX5 = some m.cls := hown
  have hg : ∀ w ∈ lw_g, w.before ([.ref h0, .int x1] : List Value).toArray s = true := fun w h => hts w (List.mem_cons_of_mem _ h)
  have hC : CallFix p m c cX5_load 3 s ([.ref h0, .int x1] : List Value).toArray (Cond.code yX5_load cX5_load 3 (some .int) :: lw_g) RX5 := ⟨hx, hb, hml, hown, hts⟩
  have hl : lv_has ls 3 [(0, .ref h0), (1, .int x1)] := hl
  have lp_46 : ∀ (n : Nat) (x2 : Int32) (u0 : Ob) (u1 : Ob) (u2 : (Nat → Ob)) (u3 : (Nat → Ob)), l_X5_load_46 N x1 n x2 u0 u1 u2 u3 = some q → ∀ (H : Heap) (locs : List Loc) (ls : Array Slot), va_P (gD G) vwCl (wAll G h0 a0 u0 a1 u1 ra rb u2 u3) H → va_D A (wAll G h0 a0 u0 a1 u1 ra rb u2 u3) → va_S A s.heap H locs → lv_has ls 3 [(0, .ref h0), (1, .int x1), (2, .int x2)] → W p l e ({ frames := 7, cells := 1, slots := 6, locals := 179 } : Room) s m ([.ref h0, .int x1] : List Value).toArray below meth c H locs 0 0 (vx_MQ below (va_Qi (fun (r : Int32) (v : Ob × Ob × (Nat → Ob) × (Nat → Ob)) => q = (.inr r, v)) (bw G (fun v : Ob × Ob × (Nat → Ob) × (Nat → Ob) => (wAll G h0 a0 v.1 a1 v.2.1 ra rb v.2.2.1 v.2.2.2)) A) A) (XQ (fun z : Nat × (Ob × Ob × (Nat → Ob) × (Nat → Ob)) => q = (.inl z.1, z.2)) G (fun v : Ob × Ob × (Nat → Ob) × (Nat → Ob) => (wAll G h0 a0 v.1 a1 v.2.1 ra rb v.2.2.1 v.2.2.2)) A) ([.ref h0, .int x1] : List Value).toArray s 1 6 A) (F0 m 46 ls []) := by
    intro n
    induction n with
    | zero => intro x2 u0 u1 u2 u3 hf; rw [l_X5_load_46] at hf; cases hf
    | succ n ih =>
      intro x2 u0 u1 u2 u3 hf H locs ls hP hD hS hl
      rw [l_X5_load_46] at hf
      refine lv_iload_n hx hb dX5_load_46 rfl (lv_at hl 2 rfl) ?_
      refine lv_iload_n hx hb dX5_load_47 rfl (lv_at hl 1 rfl) ?_
      refine lv_icmp_ge (tgt := 192) hx hb dX5_load_48 (by decide) (fun c7 => ?_) (fun c7 => ?_)
      · have hf := tp hf c7
        refine lv_aload_n hx hb dX5_load_192 rfl (lv_at hl 0 rfl) ?_
        refine va_get (D := gD G) (ci := 3) (v := .ref (a0 8)) (C := RX5) (T := TX5) (N := 11) hx hb hg kl_X5 hown hK hP 0 rfl rfl 8 (by decide) (hg _ kq1_187) (fun _ h9 => h9) rfl dX5_load_193 ?_
        refine va_get (D := gD G) (ci := 1) (v := .int (u1.1 5)) (C := RX3) (T := TX3) (N := 12) hx hb hg kl_X3 hown hK hP 5 rfl rfl 5 (by decide) (hg _ kq1_139) (fun _ h9 => h9) rfl dX5_load_196 ?_
        refine lv_if_eq (tgt := 210) hx hb dX5_load_199 (by decide) (fun c8 => ?_) (fun c8 => ?_)
        · have hf := tp hf c8
          refine lv_aload_n hx hb dX5_load_210 rfl (lv_at hl 0 rfl) ?_
          obtain ⟨q9, e10, hf⟩ := tbd hf
          refine kVv1 (As := []) (rest := []) hC (c_X5_remember (G := G) e10) kq2_88 kc_X5_remember (by decide) 0 (ci := 3) rfl rfl hP hK hD hE hS hA hl.1 (Nat.le_of_ble_eq_true rfl) ⟨Nat.zero_le _, Nat.zero_le _⟩ dX5_load_211 (fun u9 H locs hw hP hD hS => ?_)
          obtain rfl := hw
          have hP : va_P (gD G) vwCl (wAll G h0 a0 q9.1 a1 q9.2.1 ra rb q9.2.2.1 q9.2.2.2) H := hP
          have hD : va_D A (wAll G h0 a0 q9.1 a1 q9.2.1 ra rb q9.2.2.1 q9.2.2.2) := hD
          refine lv_aload_n hx hb dX5_load_214 rfl (lv_at hl 0 rfl) ?_
          refine va_get (D := gD G) (ci := 3) (v := .ref (a0 (20 + 0))) (C := RX5) (T := TX5) (N := 11) hx hb hg kl_X5 hown hK hP 0 rfl rfl 0 (by decide) (hg _ kq1_179) (fun _ h9 => h9) rfl dX5_load_215 ?_
          refine lv_aload_n hx hb dX5_load_218 rfl (lv_at hl 0 rfl) ?_
          refine va_get (D := gD G) (ci := 3) (v := .ref (a0 (20 + 2))) (C := RX5) (T := TX5) (N := 11) hx hb hg kl_X5 hown hK hP 0 rfl rfl 2 (by decide) (hg _ kq1_181) (fun _ h9 => h9) rfl dX5_load_219 ?_
          obtain ⟨q11, e12, hf⟩ := tbd hf
          refine kVpv (As := [.ref (a0 (20 + 2))]) (rest := []) hC (c_X4_copyFrom (G := G) e12) kq2_92 kc_X4_copyFrom (by decide) 0 (ci := 2) rfl rfl hP hK hD hE hS hA (pR44 (i := 0) (k := 2) (by omega) (by omega) (by omega)) (fun v => qR44 (i := 0) (k := 2) (by omega) (by omega) (by omega) v.1 v.2) hl.1 (Nat.le_of_ble_eq_true rfl) ⟨Nat.zero_le _, Nat.zero_le _⟩ dX5_load_222 (fun u9 H locs hw hP hD hS => ?_)
          obtain rfl := hw
          have hP : va_P (gD G) vwCl (wAll G h0 a0 q9.1 a1 q9.2.1 ra rb (va_up (va_up q9.2.2.1 0 q11.1) 2 q11.2) q9.2.2.2) H := hP
          have hD : va_D A (wAll G h0 a0 q9.1 a1 q9.2.1 ra rb (va_up (va_up q9.2.2.1 0 q11.1) 2 q11.2) q9.2.2.2) := hD
          refine lv_aload_n hx hb dX5_load_225 rfl (lv_at hl 0 rfl) ?_
          refine va_get (D := gD G) (ci := 3) (v := .ref (a0 (20 + 0))) (C := RX5) (T := TX5) (N := 11) hx hb hg kl_X5 hown hK hP 0 rfl rfl 0 (by decide) (hg _ kq1_179) (fun _ h9 => h9) rfl dX5_load_226 ?_
          refine va_get (D := gD G) (ci := 2) (v := .int (q11.1.1 11)) (C := RX4) (T := TX4) (N := 18) hx hb hg kl_X4 hown hK hP 7 rfl rfl 11 (by decide) (hg _ kq1_75) (fun _ h9 => h9) rfl dX5_load_229 ?_
          have hf := Option.some.inj hf
          subst hf
          refine W.widen (k := 1) (n := 6) (Nat.zero_le _) (Nat.zero_le _) ?_
          refine vx_ret ?_
          exact e_i (wf := (fun v : Ob × Ob × (Nat → Ob) × (Nat → Ob) => (wAll G h0 a0 v.1 a1 v.2.1 ra rb v.2.2.1 v.2.2.2))) hx hb hr hlk (q9.1, (q9.2.1, ((va_up (va_up q9.2.2.1 0 q11.1) 2 q11.2), q9.2.2.2))) rfl hP hK hD hS dX5_load_232
        · have hf := tn hf c8
          refine lv_aload_n hx hb dX5_load_202 rfl (lv_at hl 0 rfl) ?_
          refine va_get (D := gD G) (ci := 3) (v := .ref (a0 8)) (C := RX5) (T := TX5) (N := 11) hx hb hg kl_X5 hown hK hP 0 rfl rfl 8 (by decide) (hg _ kq1_187) (fun _ h9 => h9) rfl dX5_load_203 ?_
          refine va_get (D := gD G) (ci := 1) (v := .int (u1.1 5)) (C := RX3) (T := TX3) (N := 12) hx hb hg kl_X3 hown hK hP 5 rfl rfl 5 (by decide) (hg _ kq1_139) (fun _ h9 => h9) rfl dX5_load_206 ?_
          have hf := Option.some.inj hf
          subst hf
          refine W.widen (k := 1) (n := 6) (Nat.zero_le _) (Nat.zero_le _) ?_
          refine vx_ret ?_
          exact e_i (wf := (fun v : Ob × Ob × (Nat → Ob) × (Nat → Ob) => (wAll G h0 a0 v.1 a1 v.2.1 ra rb v.2.2.1 v.2.2.2))) hx hb hr hlk (u0, (u1, (u2, u3))) rfl hP hK hD hS dX5_load_209
      · have hf := tn hf c7
        refine lv_aload_n hx hb dX5_load_51 rfl (lv_at hl 0 rfl) ?_
        refine va_get (D := gD G) (ci := 3) (v := .ref (a0 8)) (C := RX5) (T := TX5) (N := 11) hx hb hg kl_X5 hown hK hP 0 rfl rfl 8 (by decide) (hg _ kq1_187) (fun _ h9 => h9) rfl dX5_load_52 ?_
        obtain ⟨q13, e14, hf⟩ := tbd hf
        refine kVpi (As := []) (rest := []) hC (c_X3_findStatement (G := G) e14) kq2_214 kc_X3_findStatement (by decide) 0 (ci := 1) rfl rfl hP hK hD hE hS hA pR3 qR3 hl.1 (Nat.le_of_ble_eq_true rfl) ⟨Nat.zero_le _, Nat.zero_le _⟩ dX5_load_55 (fun r9 u9 H locs hw hP hD hS => ?_)
        obtain ⟨rfl, rfl⟩ := hw
        have hP : va_P (gD G) vwCl (wAll G h0 a0 u0 a1 q13.2 ra rb u2 u3) H := hP
        have hD : va_D A (wAll G h0 a0 u0 a1 q13.2 ra rb u2 u3) := hD
        refine bz_eq (tgt := 192) hx hb dX5_load_58 (by decide) (fun c15 => ?_) (fun c15 => ?_)
        · have hf := tn hf c15
          refine lv_aload_n hx hb dX5_load_192 rfl (lv_at hl 0 rfl) ?_
          refine va_get (D := gD G) (ci := 3) (v := .ref (a0 8)) (C := RX5) (T := TX5) (N := 11) hx hb hg kl_X5 hown hK hP 0 rfl rfl 8 (by decide) (hg _ kq1_187) (fun _ h9 => h9) rfl dX5_load_193 ?_
          refine va_get (D := gD G) (ci := 1) (v := .int (q13.2.1 5)) (C := RX3) (T := TX3) (N := 12) hx hb hg kl_X3 hown hK hP 5 rfl rfl 5 (by decide) (hg _ kq1_139) (fun _ h9 => h9) rfl dX5_load_196 ?_
          refine lv_if_eq (tgt := 210) hx hb dX5_load_199 (by decide) (fun c16 => ?_) (fun c16 => ?_)
          · have hf := tp hf c16
            refine lv_aload_n hx hb dX5_load_210 rfl (lv_at hl 0 rfl) ?_
            obtain ⟨q17, e18, hf⟩ := tbd hf
            refine kVv1 (As := []) (rest := []) hC (c_X5_remember (G := G) e18) kq2_88 kc_X5_remember (by decide) 0 (ci := 3) rfl rfl hP hK hD hE hS hA hl.1 (Nat.le_of_ble_eq_true rfl) ⟨Nat.zero_le _, Nat.zero_le _⟩ dX5_load_211 (fun u9 H locs hw hP hD hS => ?_)
            obtain rfl := hw
            have hP : va_P (gD G) vwCl (wAll G h0 a0 q17.1 a1 q17.2.1 ra rb q17.2.2.1 q17.2.2.2) H := hP
            have hD : va_D A (wAll G h0 a0 q17.1 a1 q17.2.1 ra rb q17.2.2.1 q17.2.2.2) := hD
            refine lv_aload_n hx hb dX5_load_214 rfl (lv_at hl 0 rfl) ?_
            refine va_get (D := gD G) (ci := 3) (v := .ref (a0 (20 + 0))) (C := RX5) (T := TX5) (N := 11) hx hb hg kl_X5 hown hK hP 0 rfl rfl 0 (by decide) (hg _ kq1_179) (fun _ h9 => h9) rfl dX5_load_215 ?_
            refine lv_aload_n hx hb dX5_load_218 rfl (lv_at hl 0 rfl) ?_
            refine va_get (D := gD G) (ci := 3) (v := .ref (a0 (20 + 2))) (C := RX5) (T := TX5) (N := 11) hx hb hg kl_X5 hown hK hP 0 rfl rfl 2 (by decide) (hg _ kq1_181) (fun _ h9 => h9) rfl dX5_load_219 ?_
            obtain ⟨q19, e20, hf⟩ := tbd hf
            refine kVpv (As := [.ref (a0 (20 + 2))]) (rest := []) hC (c_X4_copyFrom (G := G) e20) kq2_92 kc_X4_copyFrom (by decide) 0 (ci := 2) rfl rfl hP hK hD hE hS hA (pR44 (i := 0) (k := 2) (by omega) (by omega) (by omega)) (fun v => qR44 (i := 0) (k := 2) (by omega) (by omega) (by omega) v.1 v.2) hl.1 (Nat.le_of_ble_eq_true rfl) ⟨Nat.zero_le _, Nat.zero_le _⟩ dX5_load_222 (fun u9 H locs hw hP hD hS => ?_)
            obtain rfl := hw
            have hP : va_P (gD G) vwCl (wAll G h0 a0 q17.1 a1 q17.2.1 ra rb (va_up (va_up q17.2.2.1 0 q19.1) 2 q19.2) q17.2.2.2) H := hP
            have hD : va_D A (wAll G h0 a0 q17.1 a1 q17.2.1 ra rb (va_up (va_up q17.2.2.1 0 q19.1) 2 q19.2) q17.2.2.2) := hD
            refine lv_aload_n hx hb dX5_load_225 rfl (lv_at hl 0 rfl) ?_
            refine va_get (D := gD G) (ci := 3) (v := .ref (a0 (20 + 0))) (C := RX5) (T := TX5) (N := 11) hx hb hg kl_X5 hown hK hP 0 rfl rfl 0 (by decide) (hg _ kq1_179) (fun _ h9 => h9) rfl dX5_load_226 ?_
            refine va_get (D := gD G) (ci := 2) (v := .int (q19.1.1 11)) (C := RX4) (T := TX4) (N := 18) hx hb hg kl_X4 hown hK hP 7 rfl rfl 11 (by decide) (hg _ kq1_75) (fun _ h9 => h9) rfl dX5_load_229 ?_
            have hf := Option.some.inj hf
            subst hf
            refine W.widen (k := 1) (n := 6) (Nat.zero_le _) (Nat.zero_le _) ?_
            refine vx_ret ?_
            exact e_i (wf := (fun v : Ob × Ob × (Nat → Ob) × (Nat → Ob) => (wAll G h0 a0 v.1 a1 v.2.1 ra rb v.2.2.1 v.2.2.2))) hx hb hr hlk (q17.1, (q17.2.1, ((va_up (va_up q17.2.2.1 0 q19.1) 2 q19.2), q17.2.2.2))) rfl hP hK hD hS dX5_load_232
          · have hf := tn hf c16
            refine lv_aload_n hx hb dX5_load_202 rfl (lv_at hl 0 rfl) ?_
            refine va_get (D := gD G) (ci := 3) (v := .ref (a0 8)) (C := RX5) (T := TX5) (N := 11) hx hb hg kl_X5 hown hK hP 0 rfl rfl 8 (by decide) (hg _ kq1_187) (fun _ h9 => h9) rfl dX5_load_203 ?_
            refine va_get (D := gD G) (ci := 1) (v := .int (q13.2.1 5)) (C := RX3) (T := TX3) (N := 12) hx hb hg kl_X3 hown hK hP 5 rfl rfl 5 (by decide) (hg _ kq1_139) (fun _ h9 => h9) rfl dX5_load_206 ?_
            have hf := Option.some.inj hf
            subst hf
            refine W.widen (k := 1) (n := 6) (Nat.zero_le _) (Nat.zero_le _) ?_
            refine vx_ret ?_
            exact e_i (wf := (fun v : Ob × Ob × (Nat → Ob) × (Nat → Ob) => (wAll G h0 a0 v.1 a1 v.2.1 ra rb v.2.2.1 v.2.2.2))) hx hb hr hlk (u0, (q13.2, (u2, u3))) rfl hP hK hD hS dX5_load_209
        · have hf := tp hf c15
          refine lv_aload_n hx hb dX5_load_61 rfl (lv_at hl 0 rfl) ?_
          refine va_get (D := gD G) (ci := 3) (v := .ref (a0 8)) (C := RX5) (T := TX5) (N := 11) hx hb hg kl_X5 hown hK hP 0 rfl rfl 8 (by decide) (hg _ kq1_187) (fun _ h9 => h9) rfl dX5_load_62 ?_
          refine lv_aload_n hx hb dX5_load_65 rfl (lv_at hl 0 rfl) ?_
          refine va_get (D := gD G) (ci := 3) (v := .ref (a0 (20 + 2))) (C := RX5) (T := TX5) (N := 11) hx hb hg kl_X5 hown hK hP 0 rfl rfl 2 (by decide) (hg _ kq1_181) (fun _ h9 => h9) rfl dX5_load_66 ?_
          obtain ⟨q21, e22, hf⟩ := tbd hf
          refine kVpv (As := [.ref (a0 (20 + 2))]) (rest := []) hC (c_X3_readStatement (G := G) e22) kq2_222 kc_X3_readStatement (by decide) 0 (ci := 1) rfl rfl hP hK hD hE hS hA (pR34 (i := 2) (by omega)) (fun v => qR34 (i := 2) (by omega) v.1 v.2) hl.1 (Nat.le_of_ble_eq_true rfl) ⟨Nat.zero_le _, Nat.zero_le _⟩ dX5_load_69 (fun u9 H locs hw hP hD hS => ?_)
          obtain rfl := hw
          have hP : va_P (gD G) vwCl (wAll G h0 a0 u0 a1 q21.1 ra rb (va_up u2 2 q21.2) u3) H := hP
          have hD : va_D A (wAll G h0 a0 u0 a1 q21.1 ra rb (va_up u2 2 q21.2) u3) := hD
          refine lv_aload_n hx hb dX5_load_72 rfl (lv_at hl 0 rfl) ?_
          refine va_get (D := gD G) (ci := 3) (v := .ref (a0 8)) (C := RX5) (T := TX5) (N := 11) hx hb hg kl_X5 hown hK hP 0 rfl rfl 8 (by decide) (hg _ kq1_187) (fun _ h9 => h9) rfl dX5_load_73 ?_
          refine va_get (D := gD G) (ci := 1) (v := .int (q21.1.1 5)) (C := RX3) (T := TX3) (N := 12) hx hb hg kl_X3 hown hK hP 5 rfl rfl 5 (by decide) (hg _ kq1_139) (fun _ h9 => h9) rfl dX5_load_76 ?_
          refine lv_if_eq (tgt := 85) hx hb dX5_load_79 (by decide) (fun c23 => ?_) (fun c23 => ?_)
          · have hf := tp hf c23
            refine lv_aload_n hx hb dX5_load_85 rfl (lv_at hl 0 rfl) ?_
            refine va_get (D := gD G) (ci := 3) (v := .ref (a0 8)) (C := RX5) (T := TX5) (N := 11) hx hb hg kl_X5 hown hK hP 0 rfl rfl 8 (by decide) (hg _ kq1_187) (fun _ h9 => h9) rfl dX5_load_86 ?_
            refine va_get (D := gD G) (ci := 1) (v := .int (q21.1.1 7)) (C := RX3) (T := TX3) (N := 12) hx hb hg kl_X3 hown hK hP 5 rfl rfl 7 (by decide) (hg _ kq1_142) (fun _ h9 => h9) rfl dX5_load_89 ?_
            refine lv_iconst (v := (5 : Int32)) hx hb dX5_load_92 (by decide) ?_
            refine lv_icmp_ne (tgt := 121) hx hb dX5_load_93 (by decide) (fun c24 => ?_) (fun c24 => ?_)
            · have hf := tn hf c24
              refine lv_aload_n hx hb dX5_load_121 rfl (lv_at hl 0 rfl) ?_
              refine va_get (D := gD G) (ci := 3) (v := .ref (a0 8)) (C := RX5) (T := TX5) (N := 11) hx hb hg kl_X5 hown hK hP 0 rfl rfl 8 (by decide) (hg _ kq1_187) (fun _ h9 => h9) rfl dX5_load_122 ?_
              refine va_get (D := gD G) (ci := 1) (v := .int (q21.1.1 7)) (C := RX3) (T := TX3) (N := 12) hx hb hg kl_X3 hown hK hP 5 rfl rfl 7 (by decide) (hg _ kq1_142) (fun _ h9 => h9) rfl dX5_load_125 ?_
              refine lv_bipush (v := (6 : Int32)) hx hb dX5_load_128 (by decide) ?_
              refine lv_icmp_ne (tgt := 165) hx hb dX5_load_130 (by decide) (fun c25 => ?_) (fun c25 => ?_)
              · have hf := tn hf c25
                refine lv_aload_n hx hb dX5_load_165 rfl (lv_at hl 0 rfl) ?_
                refine va_get (D := gD G) (ci := 3) (v := .ref (a0 (20 + 2))) (C := RX5) (T := TX5) (N := 11) hx hb hg kl_X5 hown hK hP 0 rfl rfl 2 (by decide) (hg _ kq1_181) (fun _ h9 => h9) rfl dX5_load_166 ?_
                refine lv_aload_n hx hb dX5_load_169 rfl (lv_at hl 0 rfl) ?_
                refine va_get (D := gD G) (ci := 3) (v := .ref (a0 8)) (C := RX5) (T := TX5) (N := 11) hx hb hg kl_X5 hown hK hP 0 rfl rfl 8 (by decide) (hg _ kq1_187) (fun _ h9 => h9) rfl dX5_load_170 ?_
                refine va_get (D := gD G) (ci := 1) (v := .int (q21.1.1 7)) (C := RX3) (T := TX3) (N := 12) hx hb hg kl_X3 hown hK hP 5 rfl rfl 7 (by decide) (hg _ kq1_142) (fun _ h9 => h9) rfl dX5_load_173 ?_
                refine lv_aload_n hx hb dX5_load_176 rfl (lv_at hl 0 rfl) ?_
                refine va_get (D := gD G) (ci := 3) (v := .ref (a0 8)) (C := RX5) (T := TX5) (N := 11) hx hb hg kl_X5 hown hK hP 0 rfl rfl 8 (by decide) (hg _ kq1_187) (fun _ h9 => h9) rfl dX5_load_177 ?_
                refine va_get (D := gD G) (ci := 1) (v := .int (q21.1.1 8)) (C := RX3) (T := TX3) (N := 12) hx hb hg kl_X3 hown hK hP 5 rfl rfl 8 (by decide) (hg _ kq1_144) (fun _ h9 => h9) rfl dX5_load_180 ?_
                obtain ⟨q26, e27, hf⟩ := tbd hf
                refine kVpv (As := [.int (q21.1.1 7), .int (q21.1.1 8)]) (rest := []) hC (c_X4_change (G := G) e27) kq3_181 kc_X4_change (by decide) 0 (ci := 2) rfl rfl hP hK hD hE hS hA (pR4 (i := 2) (by omega)) (qR4 (i := 2) (by omega)) hl.1 (Nat.le_of_ble_eq_true rfl) ⟨Nat.zero_le _, Nat.zero_le _⟩ dX5_load_183 (fun u9 H locs hw hP hD hS => ?_)
                obtain rfl := hw
                have hP : va_P (gD G) vwCl (wAll G h0 a0 u0 a1 q21.1 ra rb (va_up (va_up u2 2 q21.2) 2 q26) u3) H := hP
                have hD : va_D A (wAll G h0 a0 u0 a1 q21.1 ra rb (va_up (va_up u2 2 q21.2) 2 q26) u3) := hD
                refine lv_iinc (v := (x2 + (1 : Int32))) (lv' := [(2, .int (x2 + (1 : Int32))), (0, .ref h0), (1, .int x1)]) hx hb dX5_load_186 hl (k := 2) rfl rfl (by decide) rfl (fun ls hl => ?_)
                refine lv_goto (tgt := 46) hx hb dX5_load_189 (by decide) ?_
                exact ih _ _ _ _ _ hf _ _ _ hP hD hS (lv_sub hl [1, 2, 0] rfl)
              · have hf := tp hf c25
                refine lv_aload_n hx hb dX5_load_133 rfl (lv_at hl 0 rfl) ?_
                refine va_get (D := gD G) (ci := 3) (v := .ref (a0 (20 + 2))) (C := RX5) (T := TX5) (N := 11) hx hb hg kl_X5 hown hK hP 0 rfl rfl 2 (by decide) (hg _ kq1_181) (fun _ h9 => h9) rfl dX5_load_134 ?_
                refine lv_aload_n hx hb dX5_load_137 rfl (lv_at hl 0 rfl) ?_
                refine va_get (D := gD G) (ci := 3) (v := .ref (a0 8)) (C := RX5) (T := TX5) (N := 11) hx hb hg kl_X5 hown hK hP 0 rfl rfl 8 (by decide) (hg _ kq1_187) (fun _ h9 => h9) rfl dX5_load_138 ?_
                refine va_get (D := gD G) (ci := 1) (v := .int (q21.1.1 8)) (C := RX3) (T := TX3) (N := 12) hx hb hg kl_X3 hown hK hP 5 rfl rfl 8 (by decide) (hg _ kq1_144) (fun _ h9 => h9) rfl dX5_load_141 ?_
                refine lv_aload_n hx hb dX5_load_144 rfl (lv_at hl 0 rfl) ?_
                refine va_get (D := gD G) (ci := 3) (v := .ref (a0 8)) (C := RX5) (T := TX5) (N := 11) hx hb hg kl_X5 hown hK hP 0 rfl rfl 8 (by decide) (hg _ kq1_187) (fun _ h9 => h9) rfl dX5_load_145 ?_
                refine va_get (D := gD G) (ci := 1) (v := .int (q21.1.1 10)) (C := RX3) (T := TX3) (N := 12) hx hb hg kl_X3 hown hK hP 5 rfl rfl 10 (by decide) (hg _ kq1_148) (fun _ h9 => h9) rfl dX5_load_148 ?_
                refine lv_aload_n hx hb dX5_load_151 rfl (lv_at hl 0 rfl) ?_
                refine va_get (D := gD G) (ci := 3) (v := .ref (a0 8)) (C := RX5) (T := TX5) (N := 11) hx hb hg kl_X5 hown hK hP 0 rfl rfl 8 (by decide) (hg _ kq1_187) (fun _ h9 => h9) rfl dX5_load_152 ?_
                refine va_get (D := gD G) (ci := 1) (v := .long (q21.1.2.1 11)) (C := RX3) (T := TX3) (N := 12) hx hb hg kl_X3 hown hK hP 5 rfl rfl 11 (by decide) (hg _ kq1_150) (fun _ h9 => h9) rfl dX5_load_155 ?_
                by_cases c28 : (q21.1.1 10) = (0 : Int32)
                · have hf := tp hf c28
                  refine W.eq (g2 := F0 m 158 ls [.long (q21.1.2.1 11), .int (0 : Int32), .int (q21.1.1 8), .ref (a0 (20 + 2))]) (by rw [c28]) ?_
                  obtain ⟨q29, e30, hf⟩ := tbd hf
                  refine kVpi (As := [.int (q21.1.1 8), .int (bI false), .long (q21.1.2.1 11)]) (rest := []) hC (c_X4_hearMinute (G := G) e30) kq3_156 kc_X4_hearMinute (by decide) 0 (ci := 2) rfl rfl hP hK hD hE hS hA (pR40 (i := 2) (by omega)) (fun v => qR40 (i := 2) (by omega) v.1 v.2) hl.1 (Nat.le_of_ble_eq_true rfl) ⟨Nat.zero_le _, Nat.zero_le _⟩ dX5_load_158 (fun r9 u9 H locs hw hP hD hS => ?_)
                  obtain ⟨rfl, rfl⟩ := hw
                  have hP : va_P (gD G) vwCl (wAll G h0 a0 u0 a1 q21.1 ra rb (va_up (va_up u2 2 q21.2) 2 q29.2.1) (va_up u3 2 q29.2.2)) H := hP
                  have hD : va_D A (wAll G h0 a0 u0 a1 q21.1 ra rb (va_up (va_up u2 2 q21.2) 2 q29.2.1) (va_up u3 2 q29.2.2)) := hD
                  refine lv_pop hx hb dX5_load_161 rfl ?_
                  refine lv_goto (tgt := 186) hx hb dX5_load_162 (by decide) ?_
                  refine lv_iinc (v := (x2 + (1 : Int32))) (lv' := [(2, .int (x2 + (1 : Int32))), (0, .ref h0), (1, .int x1)]) hx hb dX5_load_186 hl (k := 2) rfl rfl (by decide) rfl (fun ls hl => ?_)
                  refine lv_goto (tgt := 46) hx hb dX5_load_189 (by decide) ?_
                  exact ih _ _ _ _ _ hf _ _ _ hP hD hS (lv_sub hl [1, 2, 0] rfl)
                have hf := tn hf c28
                by_cases c31 : (q21.1.1 10) = (1 : Int32)
                · have hf := tp hf c31
                  refine W.eq (g2 := F0 m 158 ls [.long (q21.1.2.1 11), .int (1 : Int32), .int (q21.1.1 8), .ref (a0 (20 + 2))]) (by rw [c31]) ?_
                  obtain ⟨q32, e33, hf⟩ := tbd hf
                  refine kVpi (As := [.int (q21.1.1 8), .int (bI true), .long (q21.1.2.1 11)]) (rest := []) hC (c_X4_hearMinute (G := G) e33) kq3_156 kc_X4_hearMinute (by decide) 0 (ci := 2) rfl rfl hP hK hD hE hS hA (pR40 (i := 2) (by omega)) (fun v => qR40 (i := 2) (by omega) v.1 v.2) hl.1 (Nat.le_of_ble_eq_true rfl) ⟨Nat.zero_le _, Nat.zero_le _⟩ dX5_load_158 (fun r9 u9 H locs hw hP hD hS => ?_)
                  obtain ⟨rfl, rfl⟩ := hw
                  have hP : va_P (gD G) vwCl (wAll G h0 a0 u0 a1 q21.1 ra rb (va_up (va_up u2 2 q21.2) 2 q32.2.1) (va_up u3 2 q32.2.2)) H := hP
                  have hD : va_D A (wAll G h0 a0 u0 a1 q21.1 ra rb (va_up (va_up u2 2 q21.2) 2 q32.2.1) (va_up u3 2 q32.2.2)) := hD
                  refine lv_pop hx hb dX5_load_161 rfl ?_
                  refine lv_goto (tgt := 186) hx hb dX5_load_162 (by decide) ?_
                  refine lv_iinc (v := (x2 + (1 : Int32))) (lv' := [(2, .int (x2 + (1 : Int32))), (0, .ref h0), (1, .int x1)]) hx hb dX5_load_186 hl (k := 2) rfl rfl (by decide) rfl (fun ls hl => ?_)
                  refine lv_goto (tgt := 46) hx hb dX5_load_189 (by decide) ?_
                  exact ih _ _ _ _ _ hf _ _ _ hP hD hS (lv_sub hl [1, 2, 0] rfl)
                have hf := tn hf c31
                cases hf
            · have hf := tp hf c24
              refine lv_aload_n hx hb dX5_load_96 rfl (lv_at hl 0 rfl) ?_
              refine va_get (D := gD G) (ci := 3) (v := .ref (a0 (20 + 2))) (C := RX5) (T := TX5) (N := 11) hx hb hg kl_X5 hown hK hP 0 rfl rfl 2 (by decide) (hg _ kq1_181) (fun _ h9 => h9) rfl dX5_load_97 ?_
              refine lv_aload_n hx hb dX5_load_100 rfl (lv_at hl 0 rfl) ?_
              refine va_get (D := gD G) (ci := 3) (v := .ref (a0 8)) (C := RX5) (T := TX5) (N := 11) hx hb hg kl_X5 hown hK hP 0 rfl rfl 8 (by decide) (hg _ kq1_187) (fun _ h9 => h9) rfl dX5_load_101 ?_
              refine va_get (D := gD G) (ci := 1) (v := .int (q21.1.1 8)) (C := RX3) (T := TX3) (N := 12) hx hb hg kl_X3 hown hK hP 5 rfl rfl 8 (by decide) (hg _ kq1_144) (fun _ h9 => h9) rfl dX5_load_104 ?_
              refine lv_aload_n hx hb dX5_load_107 rfl (lv_at hl 0 rfl) ?_
              refine va_get (D := gD G) (ci := 3) (v := .ref (a0 8)) (C := RX5) (T := TX5) (N := 11) hx hb hg kl_X5 hown hK hP 0 rfl rfl 8 (by decide) (hg _ kq1_187) (fun _ h9 => h9) rfl dX5_load_108 ?_
              refine va_get (D := gD G) (ci := 1) (v := .int (q21.1.1 9)) (C := RX3) (T := TX3) (N := 12) hx hb hg kl_X3 hown hK hP 5 rfl rfl 9 (by decide) (hg _ kq1_146) (fun _ h9 => h9) rfl dX5_load_111 ?_
              obtain ⟨q34, e35, hf⟩ := tbd hf
              refine kVpi (As := [.int (q21.1.1 8), .int (q21.1.1 9)]) (rest := []) hC (c_X4_takePulse (G := G) e35) kq3_101 kc_X4_takePulse (by decide) 0 (ci := 2) rfl rfl hP hK hD hE hS hA (pR40 (i := 2) (by omega)) (fun v => qR40 (i := 2) (by omega) v.1 v.2) hl.1 (Nat.le_of_ble_eq_true rfl) ⟨Nat.zero_le _, Nat.zero_le _⟩ dX5_load_114 (fun r9 u9 H locs hw hP hD hS => ?_)
              obtain ⟨rfl, rfl⟩ := hw
              have hP : va_P (gD G) vwCl (wAll G h0 a0 u0 a1 q21.1 ra rb (va_up (va_up u2 2 q21.2) 2 q34.2.1) (va_up u3 2 q34.2.2)) H := hP
              have hD : va_D A (wAll G h0 a0 u0 a1 q21.1 ra rb (va_up (va_up u2 2 q21.2) 2 q34.2.1) (va_up u3 2 q34.2.2)) := hD
              refine lv_pop hx hb dX5_load_117 rfl ?_
              refine lv_goto (tgt := 186) hx hb dX5_load_118 (by decide) ?_
              refine lv_iinc (v := (x2 + (1 : Int32))) (lv' := [(2, .int (x2 + (1 : Int32))), (0, .ref h0), (1, .int x1)]) hx hb dX5_load_186 hl (k := 2) rfl rfl (by decide) rfl (fun ls hl => ?_)
              refine lv_goto (tgt := 46) hx hb dX5_load_189 (by decide) ?_
              exact ih _ _ _ _ _ hf _ _ _ hP hD hS (lv_sub hl [1, 2, 0] rfl)
          · have hf := tn hf c23
            refine lv_goto (tgt := 192) hx hb dX5_load_82 (by decide) ?_
            refine lv_aload_n hx hb dX5_load_192 rfl (lv_at hl 0 rfl) ?_
            refine va_get (D := gD G) (ci := 3) (v := .ref (a0 8)) (C := RX5) (T := TX5) (N := 11) hx hb hg kl_X5 hown hK hP 0 rfl rfl 8 (by decide) (hg _ kq1_187) (fun _ h9 => h9) rfl dX5_load_193 ?_
            refine va_get (D := gD G) (ci := 1) (v := .int (q21.1.1 5)) (C := RX3) (T := TX3) (N := 12) hx hb hg kl_X3 hown hK hP 5 rfl rfl 5 (by decide) (hg _ kq1_139) (fun _ h9 => h9) rfl dX5_load_196 ?_
            refine lv_if_eq (tgt := 210) hx hb dX5_load_199 (by decide) (fun c36 => ?_) (fun c36 => ?_)
            · have hf := tp hf c36
              refine lv_aload_n hx hb dX5_load_210 rfl (lv_at hl 0 rfl) ?_
              obtain ⟨q37, e38, hf⟩ := tbd hf
              refine kVv1 (As := []) (rest := []) hC (c_X5_remember (G := G) e38) kq2_88 kc_X5_remember (by decide) 0 (ci := 3) rfl rfl hP hK hD hE hS hA hl.1 (Nat.le_of_ble_eq_true rfl) ⟨Nat.zero_le _, Nat.zero_le _⟩ dX5_load_211 (fun u9 H locs hw hP hD hS => ?_)
              obtain rfl := hw
              have hP : va_P (gD G) vwCl (wAll G h0 a0 q37.1 a1 q37.2.1 ra rb q37.2.2.1 q37.2.2.2) H := hP
              have hD : va_D A (wAll G h0 a0 q37.1 a1 q37.2.1 ra rb q37.2.2.1 q37.2.2.2) := hD
              refine lv_aload_n hx hb dX5_load_214 rfl (lv_at hl 0 rfl) ?_
              refine va_get (D := gD G) (ci := 3) (v := .ref (a0 (20 + 0))) (C := RX5) (T := TX5) (N := 11) hx hb hg kl_X5 hown hK hP 0 rfl rfl 0 (by decide) (hg _ kq1_179) (fun _ h9 => h9) rfl dX5_load_215 ?_
              refine lv_aload_n hx hb dX5_load_218 rfl (lv_at hl 0 rfl) ?_
              refine va_get (D := gD G) (ci := 3) (v := .ref (a0 (20 + 2))) (C := RX5) (T := TX5) (N := 11) hx hb hg kl_X5 hown hK hP 0 rfl rfl 2 (by decide) (hg _ kq1_181) (fun _ h9 => h9) rfl dX5_load_219 ?_
              obtain ⟨q39, e40, hf⟩ := tbd hf
              refine kVpv (As := [.ref (a0 (20 + 2))]) (rest := []) hC (c_X4_copyFrom (G := G) e40) kq2_92 kc_X4_copyFrom (by decide) 0 (ci := 2) rfl rfl hP hK hD hE hS hA (pR44 (i := 0) (k := 2) (by omega) (by omega) (by omega)) (fun v => qR44 (i := 0) (k := 2) (by omega) (by omega) (by omega) v.1 v.2) hl.1 (Nat.le_of_ble_eq_true rfl) ⟨Nat.zero_le _, Nat.zero_le _⟩ dX5_load_222 (fun u9 H locs hw hP hD hS => ?_)
              obtain rfl := hw
              have hP : va_P (gD G) vwCl (wAll G h0 a0 q37.1 a1 q37.2.1 ra rb (va_up (va_up q37.2.2.1 0 q39.1) 2 q39.2) q37.2.2.2) H := hP
              have hD : va_D A (wAll G h0 a0 q37.1 a1 q37.2.1 ra rb (va_up (va_up q37.2.2.1 0 q39.1) 2 q39.2) q37.2.2.2) := hD
              refine lv_aload_n hx hb dX5_load_225 rfl (lv_at hl 0 rfl) ?_
              refine va_get (D := gD G) (ci := 3) (v := .ref (a0 (20 + 0))) (C := RX5) (T := TX5) (N := 11) hx hb hg kl_X5 hown hK hP 0 rfl rfl 0 (by decide) (hg _ kq1_179) (fun _ h9 => h9) rfl dX5_load_226 ?_
              refine va_get (D := gD G) (ci := 2) (v := .int (q39.1.1 11)) (C := RX4) (T := TX4) (N := 18) hx hb hg kl_X4 hown hK hP 7 rfl rfl 11 (by decide) (hg _ kq1_75) (fun _ h9 => h9) rfl dX5_load_229 ?_
              have hf := Option.some.inj hf
              subst hf
              refine W.widen (k := 1) (n := 6) (Nat.zero_le _) (Nat.zero_le _) ?_
              refine vx_ret ?_
              exact e_i (wf := (fun v : Ob × Ob × (Nat → Ob) × (Nat → Ob) => (wAll G h0 a0 v.1 a1 v.2.1 ra rb v.2.2.1 v.2.2.2))) hx hb hr hlk (q37.1, (q37.2.1, ((va_up (va_up q37.2.2.1 0 q39.1) 2 q39.2), q37.2.2.2))) rfl hP hK hD hS dX5_load_232
            · have hf := tn hf c36
              refine lv_aload_n hx hb dX5_load_202 rfl (lv_at hl 0 rfl) ?_
              refine va_get (D := gD G) (ci := 3) (v := .ref (a0 8)) (C := RX5) (T := TX5) (N := 11) hx hb hg kl_X5 hown hK hP 0 rfl rfl 8 (by decide) (hg _ kq1_187) (fun _ h9 => h9) rfl dX5_load_203 ?_
              refine va_get (D := gD G) (ci := 1) (v := .int (q21.1.1 5)) (C := RX3) (T := TX3) (N := 12) hx hb hg kl_X3 hown hK hP 5 rfl rfl 5 (by decide) (hg _ kq1_139) (fun _ h9 => h9) rfl dX5_load_206 ?_
              have hf := Option.some.inj hf
              subst hf
              refine W.widen (k := 1) (n := 6) (Nat.zero_le _) (Nat.zero_le _) ?_
              refine vx_ret ?_
              exact e_i (wf := (fun v : Ob × Ob × (Nat → Ob) × (Nat → Ob) => (wAll G h0 a0 v.1 a1 v.2.1 ra rb v.2.2.1 v.2.2.2))) hx hb hr hlk (u0, (q21.1, ((va_up u2 2 q21.2), u3))) rfl hP hK hD hS dX5_load_209
  rw [f_X5_load] at hf
  refine lv_iload_n hx hb dX5_load_0 rfl (lv_at hl 1 rfl) ?_
  refine lv_if_lt (tgt := 15) hx hb dX5_load_1 (by decide) (fun c1 => ?_) (fun c1 => ?_)
  · have hf := tp hf c1
    have hf := Option.some.inj hf
    subst hf
    exact thS (wf := (fun v : Ob × Ob × (Nat → Ob) × (Nat → Ob) => (wAll G h0 a0 v.1 a1 v.2.1 ra rb v.2.2.1 v.2.2.2))) (E := "java/lang/IllegalArgumentException") (tx := "the buffer has no such length") (u0, (u1, (u2, u3))) hx hb hlf hml hlk htb hown hg (k := 1) rfl kq2_191 kq1_10 (by decide +kernel) atg_63 atn_63 ato_63 (by decide +kernel) hP hK hD hE hS hl.1 rfl (by decide) dX5_load_15 dX5_load_18 dX5_load_19 dX5_load_21 dX5_load_24
  · have hf := tn hf c1
    refine lv_iload_n hx hb dX5_load_4 rfl (lv_at hl 1 rfl) ?_
    refine lv_aload_n hx hb dX5_load_5 rfl (lv_at hl 0 rfl) ?_
    refine va_get (D := gD G) (ci := 3) (v := .ref (a0 8)) (C := RX5) (T := TX5) (N := 11) hx hb hg kl_X5 hown hK hP 0 rfl rfl 8 (by decide) (hg _ kq1_187) (fun _ h9 => h9) rfl dX5_load_6 ?_
    refine va_get (D := gD G) (ci := 1) (v := .int (u1.1 1)) (C := RX3) (T := TX3) (N := 12) hx hb hg kl_X3 hown hK hP 5 rfl rfl 1 (by decide) (hg _ kq1_133) (fun _ h9 => h9) rfl dX5_load_9 ?_
    refine lv_icmp_le (tgt := 25) hx hb dX5_load_12 (by decide) (fun c2 => ?_) (fun c2 => ?_)
    · have hf := tp hf c2
      refine lv_aload_n hx hb dX5_load_25 rfl (lv_at hl 0 rfl) ?_
      refine va_get (D := gD G) (ci := 3) (v := .ref (a0 (20 + 2))) (C := RX5) (T := TX5) (N := 11) hx hb hg kl_X5 hown hK hP 0 rfl rfl 2 (by decide) (hg _ kq1_181) (fun _ h9 => h9) rfl dX5_load_26 ?_
      refine lv_aload_n hx hb dX5_load_29 rfl (lv_at hl 0 rfl) ?_
      refine va_get (D := gD G) (ci := 3) (v := .ref (a0 (20 + 1))) (C := RX5) (T := TX5) (N := 11) hx hb hg kl_X5 hown hK hP 0 rfl rfl 1 (by decide) (hg _ kq1_180) (fun _ h9 => h9) rfl dX5_load_30 ?_
      obtain ⟨q3, e4, hf⟩ := tbd hf
      refine kVpv (As := [.ref (a0 (20 + 1))]) (rest := []) hC (c_X4_copyFrom (G := G) e4) kq2_92 kc_X4_copyFrom (by decide) 0 (ci := 2) rfl rfl hP hK hD hE hS hA (pR44 (i := 2) (k := 1) (by omega) (by omega) (by omega)) (fun v => qR44 (i := 2) (k := 1) (by omega) (by omega) (by omega) v.1 v.2) hl.1 (Nat.le_of_ble_eq_true rfl) ⟨Nat.zero_le _, Nat.zero_le _⟩ dX5_load_33 (fun u9 H locs hw hP hD hS => ?_)
      obtain rfl := hw
      have hP : va_P (gD G) vwCl (wAll G h0 a0 u0 a1 u1 ra rb (va_up (va_up u2 2 q3.1) 1 q3.2) u3) H := hP
      have hD : va_D A (wAll G h0 a0 u0 a1 u1 ra rb (va_up (va_up u2 2 q3.1) 1 q3.2) u3) := hD
      refine lv_aload_n hx hb dX5_load_36 rfl (lv_at hl 0 rfl) ?_
      refine va_get (D := gD G) (ci := 3) (v := .ref (a0 8)) (C := RX5) (T := TX5) (N := 11) hx hb hg kl_X5 hown hK hP 0 rfl rfl 8 (by decide) (hg _ kq1_187) (fun _ h9 => h9) rfl dX5_load_37 ?_
      refine lv_iload_n hx hb dX5_load_40 rfl (lv_at hl 1 rfl) ?_
      obtain ⟨q5, e6, hf⟩ := tbd hf
      refine kVpv (As := [.int x1]) (rest := []) hC (c_X3_open (G := G) e6) kq2_207 kc_X3_open (by decide) 0 (ci := 1) rfl rfl hP hK hD hE hS hA pR3 qR3 hl.1 (Nat.le_of_ble_eq_true rfl) ⟨Nat.zero_le _, Nat.zero_le _⟩ dX5_load_41 (fun u9 H locs hw hP hD hS => ?_)
      obtain rfl := hw
      have hP : va_P (gD G) vwCl (wAll G h0 a0 u0 a1 q5 ra rb (va_up (va_up u2 2 q3.1) 1 q3.2) u3) H := hP
      have hD : va_D A (wAll G h0 a0 u0 a1 q5 ra rb (va_up (va_up u2 2 q3.1) 1 q3.2) u3) := hD
      refine lv_iconst (v := (0 : Int32)) hx hb dX5_load_44 (by decide) ?_
      refine lv_istore_n (lv' := [(2, .int (0 : Int32)), (0, .ref h0), (1, .int x1)]) hx hb dX5_load_45 rfl hl (by decide) rfl (fun ls hl => ?_)
      exact lp_46 N _ _ _ _ _ hf _ _ _ hP hD hS (lv_sub hl [1, 2, 0] rfl)
    · have hf := tn hf c2
      have hf := Option.some.inj hf
      subst hf
      exact thS (wf := (fun v : Ob × Ob × (Nat → Ob) × (Nat → Ob) => (wAll G h0 a0 v.1 a1 v.2.1 ra rb v.2.2.1 v.2.2.2))) (E := "java/lang/IllegalArgumentException") (tx := "the buffer has no such length") (u0, (u1, (u2, u3))) hx hb hlf hml hlk htb hown hg (k := 1) rfl kq2_191 kq1_10 (by decide +kernel) atg_63 atn_63 ato_63 (by decide +kernel) hP hK hD hE hS hl.1 rfl (by decide) dX5_load_15 dX5_load_18 dX5_load_19 dX5_load_21 dX5_load_24
set_option maxRecDepth 100000 in
set_option maxHeartbeats 4000000 in
theorem c_X5_errorPosition {l : Launch} {G : Gp} {sz N : Nat} {h0 : Nat} {a0 a1 : Nat → Nat} {ra rb : Nat → Nat → Nat} {u0 u1 : Ob} {u2 u3 : Nat → Ob} {q : Int32} (hf : f_X5_errorPosition N u0 u1 u2 u3 = some q) : Met l yX5_errorPosition (Cond.code yX5_errorPosition cX5_errorPosition 1 (some .int) :: lw_g) ({ frames := 0, cells := 0, slots := 0, locals := 0 } : Room) (va_Pc [.ref h0] (pw G (wAll G h0 a0 u0 a1 u1 ra rb u2 u3) sz)) (va_Qi (fun (r : Int32) (v : Ob × Ob × (Nat → Ob) × (Nat → Ob)) => q = r ∧ (u0, (u1, (u2, u3))) = v) (bw G (fun v : Ob × Ob × (Nat → Ob) × (Nat → Ob) => (wAll G h0 a0 v.1 a1 v.2.1 ra rb v.2.2.1 v.2.2.2)) (va_A (wAll G h0 a0 u0 a1 u1 ra rb u2 u3) sz)) (va_A (wAll G h0 a0 u0 a1 u1 ra rb u2 u3) sz)) 0 0 (va_A (wAll G h0 a0 u0 a1 u1 ra rb u2 u3) sz) := by
  refine mt (Qc := (fun A => va_Qi (fun (r : Int32) (v : Ob × Ob × (Nat → Ob) × (Nat → Ob)) => q = r ∧ (u0, (u1, (u2, u3))) = v) (bw G (fun v : Ob × Ob × (Nat → Ob) × (Nat → Ob) => (wAll G h0 a0 v.1 a1 v.2.1 ra rb v.2.2.1 v.2.2.2)) A) A)) (by decide) (Nat.le_of_ble_eq_true rfl) ?_
  intro p e s m below meth c A ls hx hb hr hlk hml hts hown hA hP hK hD hE hS hl
  have hown : s.vm.findClass RX5 = some m.cls := hown
  have hg : ∀ w ∈ lw_g, w.before ([.ref h0] : List Value).toArray s = true := fun w h => hts w (List.mem_cons_of_mem _ h)
  have hC : CallFix p m c cX5_errorPosition 1 s ([.ref h0] : List Value).toArray (Cond.code yX5_errorPosition cX5_errorPosition 1 (some .int) :: lw_g) RX5 := ⟨hx, hb, hml, hown, hts⟩
  have hl : lv_has ls 1 [(0, .ref h0)] := hl
  rw [f_X5_errorPosition] at hf
  refine lv_aload_n hx hb dX5_errorPosition_0 rfl (lv_at hl 0 rfl) ?_
  refine va_get (D := gD G) (ci := 3) (v := .ref (a0 8)) (C := RX5) (T := TX5) (N := 11) hx hb hg kl_X5 hown hK hP 0 rfl rfl 8 (by decide) (hg _ kq1_187) (fun _ h9 => h9) rfl dX5_errorPosition_1 ?_
  refine va_get (D := gD G) (ci := 1) (v := .int (u1.1 6)) (C := RX3) (T := TX3) (N := 12) hx hb hg kl_X3 hown hK hP 5 rfl rfl 6 (by decide) (hg _ kq1_141) (fun _ h9 => h9) rfl dX5_errorPosition_4 ?_
  have hf := Option.some.inj hf
  subst hf
  exact e_i (wf := (fun v : Ob × Ob × (Nat → Ob) × (Nat → Ob) => (wAll G h0 a0 v.1 a1 v.2.1 ra rb v.2.2.1 v.2.2.2))) hx hb hr hlk (u0, (u1, (u2, u3))) ⟨rfl, rfl⟩ hP hK hD hS dX5_errorPosition_7
set_option maxRecDepth 100000 in
set_option maxHeartbeats 4000000 in
theorem c_X5_count {l : Launch} (hlf : l.stackTraces = false) {G : Gp} {sz N : Nat} {x1 : Int32} {h0 : Nat} {a0 a1 : Nat → Nat} {ra rb : Nat → Nat → Nat} {u0 u1 : Ob} {u2 u3 : Nat → Ob} {q : (Nat ⊕ Int32) × Ob × Ob × (Nat → Ob) × (Nat → Ob)} (hf : f_X5_count N x1 u0 u1 u2 u3 = some q) : vx_Met l yX5_count (Cond.code yX5_count cX5_count 2 (some .int) :: lw_g) ({ frames := 6, cells := 1, slots := 6, locals := 90 } : Room) (va_Pc [.ref h0, .int x1] (pw G (wAll G h0 a0 u0 a1 u1 ra rb u2 u3) sz)) (va_Qi (fun (r : Int32) (v : Ob × Ob × (Nat → Ob) × (Nat → Ob)) => q = (.inr r, v)) (bw G (fun v : Ob × Ob × (Nat → Ob) × (Nat → Ob) => (wAll G h0 a0 v.1 a1 v.2.1 ra rb v.2.2.1 v.2.2.2)) (va_A (wAll G h0 a0 u0 a1 u1 ra rb u2 u3) sz)) (va_A (wAll G h0 a0 u0 a1 u1 ra rb u2 u3) sz)) (XQ (fun z : Nat × (Ob × Ob × (Nat → Ob) × (Nat → Ob)) => q = (.inl z.1, z.2)) G (fun v : Ob × Ob × (Nat → Ob) × (Nat → Ob) => (wAll G h0 a0 v.1 a1 v.2.1 ra rb v.2.2.1 v.2.2.2)) (va_A (wAll G h0 a0 u0 a1 u1 ra rb u2 u3) sz)) 1 6 (va_A (wAll G h0 a0 u0 a1 u1 ra rb u2 u3) sz) := by
  refine mtx (Qc := (fun A => va_Qi (fun (r : Int32) (v : Ob × Ob × (Nat → Ob) × (Nat → Ob)) => q = (.inr r, v)) (bw G (fun v : Ob × Ob × (Nat → Ob) × (Nat → Ob) => (wAll G h0 a0 v.1 a1 v.2.1 ra rb v.2.2.1 v.2.2.2)) A) A)) (XC := fun A => XQ (fun z : Nat × (Ob × Ob × (Nat → Ob) × (Nat → Ob)) => q = (.inl z.1, z.2)) G (fun v : Ob × Ob × (Nat → Ob) × (Nat → Ob) => (wAll G h0 a0 v.1 a1 v.2.1 ra rb v.2.2.1 v.2.2.2)) A) (by decide) (Nat.le_of_ble_eq_true rfl) ?_
  intro p e s m below meth c A ls hx hb hr hlk hml htb hts hown hA hP hK hD hE hS hl
  have hown : s.vm.findClass RX5 = some m.cls := hown
  have hg : ∀ w ∈ lw_g, w.before ([.ref h0, .int x1] : List Value).toArray s = true := fun w h => hts w (List.mem_cons_of_mem _ h)
  have hC : CallFix p m c cX5_count 2 s ([.ref h0, .int x1] : List Value).toArray (Cond.code yX5_count cX5_count 2 (some .int) :: lw_g) RX5 := ⟨hx, hb, hml, hown, hts⟩
  have hl : lv_has ls 2 [(0, .ref h0), (1, .int x1)] := hl
  rw [f_X5_count] at hf
  refine lv_iload_n hx hb dX5_count_0 rfl (lv_at hl 1 rfl) ?_
  by_cases c1 : x1 = (0 : Int32)
  · have hf := tp hf c1
    refine lv_tableIn (off := 71) (tgt := 72) hx hb dX5_count_1 (by rw [c1]; decide) (by rw [c1]; decide) (by rw [c1]; rfl) (by decide) ?_
    refine lv_aload_n hx hb dX5_count_72 rfl (lv_at hl 0 rfl) ?_
    refine va_get (D := gD G) (ci := 3) (v := .ref (a0 (20 + 0))) (C := RX5) (T := TX5) (N := 11) hx hb hg kl_X5 hown hK hP 0 rfl rfl 0 (by decide) (hg _ kq1_179) (fun _ h9 => h9) rfl dX5_count_73 ?_
    refine va_get (D := gD G) (ci := 2) (v := .int ((u2 0).1 4)) (C := RX4) (T := TX4) (N := 18) hx hb hg kl_X4 hown hK hP 7 rfl rfl 4 (by decide) (hg _ kq1_62) (fun _ h9 => h9) rfl dX5_count_76 ?_
    have hf := Option.some.inj hf
    subst hf
    refine W.widen (k := 1) (n := 6) (Nat.zero_le _) (Nat.zero_le _) ?_
    refine vx_ret ?_
    exact e_i (wf := (fun v : Ob × Ob × (Nat → Ob) × (Nat → Ob) => (wAll G h0 a0 v.1 a1 v.2.1 ra rb v.2.2.1 v.2.2.2))) hx hb hr hlk (u0, (u1, (u2, u3))) rfl hP hK hD hS dX5_count_79
  have hf := tn hf c1
  by_cases c2 : x1 = (1 : Int32)
  · have hf := tp hf c2
    refine lv_tableIn (off := 79) (tgt := 80) hx hb dX5_count_1 (by rw [c2]; decide) (by rw [c2]; decide) (by rw [c2]; rfl) (by decide) ?_
    refine lv_aload_n hx hb dX5_count_80 rfl (lv_at hl 0 rfl) ?_
    refine va_get (D := gD G) (ci := 3) (v := .ref (a0 (20 + 0))) (C := RX5) (T := TX5) (N := 11) hx hb hg kl_X5 hown hK hP 0 rfl rfl 0 (by decide) (hg _ kq1_179) (fun _ h9 => h9) rfl dX5_count_81 ?_
    refine va_get (D := gD G) (ci := 2) (v := .int ((u2 0).1 11)) (C := RX4) (T := TX4) (N := 18) hx hb hg kl_X4 hown hK hP 7 rfl rfl 11 (by decide) (hg _ kq1_75) (fun _ h9 => h9) rfl dX5_count_84 ?_
    have hf := Option.some.inj hf
    subst hf
    refine W.widen (k := 1) (n := 6) (Nat.zero_le _) (Nat.zero_le _) ?_
    refine vx_ret ?_
    exact e_i (wf := (fun v : Ob × Ob × (Nat → Ob) × (Nat → Ob) => (wAll G h0 a0 v.1 a1 v.2.1 ra rb v.2.2.1 v.2.2.2))) hx hb hr hlk (u0, (u1, (u2, u3))) rfl hP hK hD hS dX5_count_87
  have hf := tn hf c2
  by_cases c3 : x1 = (2 : Int32)
  · have hf := tp hf c3
    refine lv_tableIn (off := 87) (tgt := 88) hx hb dX5_count_1 (by rw [c3]; decide) (by rw [c3]; decide) (by rw [c3]; rfl) (by decide) ?_
    refine lv_aload_n hx hb dX5_count_88 rfl (lv_at hl 0 rfl) ?_
    refine va_get (D := gD G) (ci := 3) (v := .ref (a0 (20 + 0))) (C := RX5) (T := TX5) (N := 11) hx hb hg kl_X5 hown hK hP 0 rfl rfl 0 (by decide) (hg _ kq1_179) (fun _ h9 => h9) rfl dX5_count_89 ?_
    refine va_get (D := gD G) (ci := 2) (v := .int ((u2 0).1 12)) (C := RX4) (T := TX4) (N := 18) hx hb hg kl_X4 hown hK hP 7 rfl rfl 12 (by decide) (hg _ kq1_77) (fun _ h9 => h9) rfl dX5_count_92 ?_
    have hf := Option.some.inj hf
    subst hf
    refine W.widen (k := 1) (n := 6) (Nat.zero_le _) (Nat.zero_le _) ?_
    refine vx_ret ?_
    exact e_i (wf := (fun v : Ob × Ob × (Nat → Ob) × (Nat → Ob) => (wAll G h0 a0 v.1 a1 v.2.1 ra rb v.2.2.1 v.2.2.2))) hx hb hr hlk (u0, (u1, (u2, u3))) rfl hP hK hD hS dX5_count_95
  have hf := tn hf c3
  by_cases c4 : x1 = (3 : Int32)
  · have hf := tp hf c4
    refine lv_tableIn (off := 95) (tgt := 96) hx hb dX5_count_1 (by rw [c4]; decide) (by rw [c4]; decide) (by rw [c4]; rfl) (by decide) ?_
    refine lv_aload_n hx hb dX5_count_96 rfl (lv_at hl 0 rfl) ?_
    refine va_get (D := gD G) (ci := 3) (v := .ref (a0 (20 + 0))) (C := RX5) (T := TX5) (N := 11) hx hb hg kl_X5 hown hK hP 0 rfl rfl 0 (by decide) (hg _ kq1_179) (fun _ h9 => h9) rfl dX5_count_97 ?_
    refine va_get (D := gD G) (ci := 2) (v := .int ((u2 0).1 13)) (C := RX4) (T := TX4) (N := 18) hx hb hg kl_X4 hown hK hP 7 rfl rfl 13 (by decide) (hg _ kq1_79) (fun _ h9 => h9) rfl dX5_count_100 ?_
    have hf := Option.some.inj hf
    subst hf
    refine W.widen (k := 1) (n := 6) (Nat.zero_le _) (Nat.zero_le _) ?_
    refine vx_ret ?_
    exact e_i (wf := (fun v : Ob × Ob × (Nat → Ob) × (Nat → Ob) => (wAll G h0 a0 v.1 a1 v.2.1 ra rb v.2.2.1 v.2.2.2))) hx hb hr hlk (u0, (u1, (u2, u3))) rfl hP hK hD hS dX5_count_103
  have hf := tn hf c4
  by_cases c5 : x1 = (4 : Int32)
  · have hf := tp hf c5
    refine lv_tableIn (off := 103) (tgt := 104) hx hb dX5_count_1 (by rw [c5]; decide) (by rw [c5]; decide) (by rw [c5]; rfl) (by decide) ?_
    refine lv_aload_n hx hb dX5_count_104 rfl (lv_at hl 0 rfl) ?_
    refine va_get (D := gD G) (ci := 3) (v := .ref (a0 (20 + 0))) (C := RX5) (T := TX5) (N := 11) hx hb hg kl_X5 hown hK hP 0 rfl rfl 0 (by decide) (hg _ kq1_179) (fun _ h9 => h9) rfl dX5_count_105 ?_
    refine va_get (D := gD G) (ci := 2) (v := .int ((u2 0).1 4)) (C := RX4) (T := TX4) (N := 18) hx hb hg kl_X4 hown hK hP 7 rfl rfl 4 (by decide) (hg _ kq1_62) (fun _ h9 => h9) rfl dX5_count_108 ?_
    refine lv_iconst (v := (-1 : Int32)) hx hb dX5_count_111 (by decide) ?_
    refine lv_icmp_ne (tgt := 119) hx hb dX5_count_112 (by decide) (fun c6 => ?_) (fun c6 => ?_)
    · have hf := tn hf c6
      refine lv_aload_n hx hb dX5_count_119 rfl (lv_at hl 0 rfl) ?_
      refine va_get (D := gD G) (ci := 3) (v := .ref (a0 (20 + 0))) (C := RX5) (T := TX5) (N := 11) hx hb hg kl_X5 hown hK hP 0 rfl rfl 0 (by decide) (hg _ kq1_179) (fun _ h9 => h9) rfl dX5_count_120 ?_
      refine va_get (D := gD G) (ci := 2) (v := .int ((u2 0).1 5)) (C := RX4) (T := TX4) (N := 18) hx hb hg kl_X4 hown hK hP 7 rfl rfl 5 (by decide) (hg _ kq1_64) (fun _ h9 => h9) rfl dX5_count_123 ?_
      have hf := Option.some.inj hf
      subst hf
      refine W.widen (k := 1) (n := 6) (Nat.zero_le _) (Nat.zero_le _) ?_
      refine vx_ret ?_
      exact e_i (wf := (fun v : Ob × Ob × (Nat → Ob) × (Nat → Ob) => (wAll G h0 a0 v.1 a1 v.2.1 ra rb v.2.2.1 v.2.2.2))) hx hb hr hlk (u0, (u1, (u2, u3))) rfl hP hK hD hS dX5_count_126
    · have hf := tp hf c6
      refine lv_iconst (v := (0 : Int32)) hx hb dX5_count_115 (by decide) ?_
      refine lv_goto (tgt := 126) hx hb dX5_count_116 (by decide) ?_
      have hf := Option.some.inj hf
      subst hf
      refine W.widen (k := 1) (n := 6) (Nat.zero_le _) (Nat.zero_le _) ?_
      refine vx_ret ?_
      exact e_i (wf := (fun v : Ob × Ob × (Nat → Ob) × (Nat → Ob) => (wAll G h0 a0 v.1 a1 v.2.1 ra rb v.2.2.1 v.2.2.2))) hx hb hr hlk (u0, (u1, (u2, u3))) rfl hP hK hD hS dX5_count_126
  have hf := tn hf c5
  by_cases c7 : x1 = (5 : Int32)
  · have hf := tp hf c7
    refine lv_tableIn (off := 126) (tgt := 127) hx hb dX5_count_1 (by rw [c7]; decide) (by rw [c7]; decide) (by rw [c7]; rfl) (by decide) ?_
    refine lv_aload_n hx hb dX5_count_127 rfl (lv_at hl 0 rfl) ?_
    refine va_get (D := gD G) (ci := 3) (v := .ref (a0 (20 + 0))) (C := RX5) (T := TX5) (N := 11) hx hb hg kl_X5 hown hK hP 0 rfl rfl 0 (by decide) (hg _ kq1_179) (fun _ h9 => h9) rfl dX5_count_128 ?_
    refine va_get (D := gD G) (ci := 2) (v := .int ((u2 0).1 16)) (C := RX4) (T := TX4) (N := 18) hx hb hg kl_X4 hown hK hP 7 rfl rfl 16 (by decide) (hg _ kq1_85) (fun _ h9 => h9) rfl dX5_count_131 ?_
    have hf := Option.some.inj hf
    subst hf
    refine W.widen (k := 1) (n := 6) (Nat.zero_le _) (Nat.zero_le _) ?_
    refine vx_ret ?_
    exact e_i (wf := (fun v : Ob × Ob × (Nat → Ob) × (Nat → Ob) => (wAll G h0 a0 v.1 a1 v.2.1 ra rb v.2.2.1 v.2.2.2))) hx hb hr hlk (u0, (u1, (u2, u3))) rfl hP hK hD hS dX5_count_134
  have hf := tn hf c7
  by_cases c8 : x1 = (6 : Int32)
  · have hf := tp hf c8
    refine lv_tableIn (off := 134) (tgt := 135) hx hb dX5_count_1 (by rw [c8]; decide) (by rw [c8]; decide) (by rw [c8]; rfl) (by decide) ?_
    refine lv_aload_n hx hb dX5_count_135 rfl (lv_at hl 0 rfl) ?_
    refine va_get (D := gD G) (ci := 3) (v := .ref (a0 (20 + 0))) (C := RX5) (T := TX5) (N := 11) hx hb hg kl_X5 hown hK hP 0 rfl rfl 0 (by decide) (hg _ kq1_179) (fun _ h9 => h9) rfl dX5_count_136 ?_
    refine va_get (D := gD G) (ci := 2) (v := .ref (ra 0 0)) (C := RX4) (T := TX4) (N := 18) hx hb hg kl_X4 hown hK hP 7 rfl rfl 0 (by decide) (hg _ kq1_53) (fun _ h9 => h9) rfl dX5_count_139 ?_
    refine lv_iconst (v := (0 : Int32)) hx hb dX5_count_142 (by decide) ?_
    refine va_iald (f := ((u2 0).2.2.1 0)) hx hb hK hP 8 1 rfl rfl (vin (by decide)) dX5_count_143 ?_
    have hf := Option.some.inj hf
    subst hf
    refine W.widen (k := 1) (n := 6) (Nat.zero_le _) (Nat.zero_le _) ?_
    refine vx_ret ?_
    exact e_i (wf := (fun v : Ob × Ob × (Nat → Ob) × (Nat → Ob) => (wAll G h0 a0 v.1 a1 v.2.1 ra rb v.2.2.1 v.2.2.2))) hx hb hr hlk (u0, (u1, (u2, u3))) rfl hP hK hD hS dX5_count_144
  have hf := tn hf c8
  by_cases c9 : x1 = (7 : Int32)
  · have hf := tp hf c9
    refine lv_tableIn (off := 144) (tgt := 145) hx hb dX5_count_1 (by rw [c9]; decide) (by rw [c9]; decide) (by rw [c9]; rfl) (by decide) ?_
    refine lv_aload_n hx hb dX5_count_145 rfl (lv_at hl 0 rfl) ?_
    refine va_get (D := gD G) (ci := 3) (v := .ref (a0 (20 + 0))) (C := RX5) (T := TX5) (N := 11) hx hb hg kl_X5 hown hK hP 0 rfl rfl 0 (by decide) (hg _ kq1_179) (fun _ h9 => h9) rfl dX5_count_146 ?_
    refine va_get (D := gD G) (ci := 2) (v := .ref (ra 0 0)) (C := RX4) (T := TX4) (N := 18) hx hb hg kl_X4 hown hK hP 7 rfl rfl 0 (by decide) (hg _ kq1_53) (fun _ h9 => h9) rfl dX5_count_149 ?_
    refine lv_iconst (v := (1 : Int32)) hx hb dX5_count_152 (by decide) ?_
    refine va_iald (f := ((u2 0).2.2.1 0)) hx hb hK hP 8 1 rfl rfl (vin (by decide)) dX5_count_153 ?_
    have hf := Option.some.inj hf
    subst hf
    refine W.widen (k := 1) (n := 6) (Nat.zero_le _) (Nat.zero_le _) ?_
    refine vx_ret ?_
    exact e_i (wf := (fun v : Ob × Ob × (Nat → Ob) × (Nat → Ob) => (wAll G h0 a0 v.1 a1 v.2.1 ra rb v.2.2.1 v.2.2.2))) hx hb hr hlk (u0, (u1, (u2, u3))) rfl hP hK hD hS dX5_count_154
  have hf := tn hf c9
  by_cases c10 : x1 = (8 : Int32)
  · have hf := tp hf c10
    refine lv_tableIn (off := 154) (tgt := 155) hx hb dX5_count_1 (by rw [c10]; decide) (by rw [c10]; decide) (by rw [c10]; rfl) (by decide) ?_
    refine lv_aload_n hx hb dX5_count_155 rfl (lv_at hl 0 rfl) ?_
    refine va_get (D := gD G) (ci := 3) (v := .ref (a0 (20 + 0))) (C := RX5) (T := TX5) (N := 11) hx hb hg kl_X5 hown hK hP 0 rfl rfl 0 (by decide) (hg _ kq1_179) (fun _ h9 => h9) rfl dX5_count_156 ?_
    refine va_get (D := gD G) (ci := 2) (v := .ref (ra 0 0)) (C := RX4) (T := TX4) (N := 18) hx hb hg kl_X4 hown hK hP 7 rfl rfl 0 (by decide) (hg _ kq1_53) (fun _ h9 => h9) rfl dX5_count_159 ?_
    refine lv_iconst (v := (2 : Int32)) hx hb dX5_count_162 (by decide) ?_
    refine va_iald (f := ((u2 0).2.2.1 0)) hx hb hK hP 8 1 rfl rfl (vin (by decide)) dX5_count_163 ?_
    have hf := Option.some.inj hf
    subst hf
    refine W.widen (k := 1) (n := 6) (Nat.zero_le _) (Nat.zero_le _) ?_
    refine vx_ret ?_
    exact e_i (wf := (fun v : Ob × Ob × (Nat → Ob) × (Nat → Ob) => (wAll G h0 a0 v.1 a1 v.2.1 ra rb v.2.2.1 v.2.2.2))) hx hb hr hlk (u0, (u1, (u2, u3))) rfl hP hK hD hS dX5_count_164
  have hf := tn hf c10
  by_cases c11 : x1 = (9 : Int32)
  · have hf := tp hf c11
    refine lv_tableIn (off := 164) (tgt := 165) hx hb dX5_count_1 (by rw [c11]; decide) (by rw [c11]; decide) (by rw [c11]; rfl) (by decide) ?_
    refine lv_aload_n hx hb dX5_count_165 rfl (lv_at hl 0 rfl) ?_
    refine va_get (D := gD G) (ci := 3) (v := .ref (a0 (20 + 0))) (C := RX5) (T := TX5) (N := 11) hx hb hg kl_X5 hown hK hP 0 rfl rfl 0 (by decide) (hg _ kq1_179) (fun _ h9 => h9) rfl dX5_count_166 ?_
    refine va_get (D := gD G) (ci := 2) (v := .ref (ra 0 0)) (C := RX4) (T := TX4) (N := 18) hx hb hg kl_X4 hown hK hP 7 rfl rfl 0 (by decide) (hg _ kq1_53) (fun _ h9 => h9) rfl dX5_count_169 ?_
    refine lv_iconst (v := (3 : Int32)) hx hb dX5_count_172 (by decide) ?_
    refine va_iald (f := ((u2 0).2.2.1 0)) hx hb hK hP 8 1 rfl rfl (vin (by decide)) dX5_count_173 ?_
    have hf := Option.some.inj hf
    subst hf
    refine W.widen (k := 1) (n := 6) (Nat.zero_le _) (Nat.zero_le _) ?_
    refine vx_ret ?_
    exact e_i (wf := (fun v : Ob × Ob × (Nat → Ob) × (Nat → Ob) => (wAll G h0 a0 v.1 a1 v.2.1 ra rb v.2.2.1 v.2.2.2))) hx hb hr hlk (u0, (u1, (u2, u3))) rfl hP hK hD hS dX5_count_174
  have hf := tn hf c11
  by_cases c12 : x1 = (10 : Int32)
  · have hf := tp hf c12
    refine lv_tableIn (off := 174) (tgt := 175) hx hb dX5_count_1 (by rw [c12]; decide) (by rw [c12]; decide) (by rw [c12]; rfl) (by decide) ?_
    refine lv_aload_n hx hb dX5_count_175 rfl (lv_at hl 0 rfl) ?_
    refine va_get (D := gD G) (ci := 3) (v := .ref (a0 (20 + 0))) (C := RX5) (T := TX5) (N := 11) hx hb hg kl_X5 hown hK hP 0 rfl rfl 0 (by decide) (hg _ kq1_179) (fun _ h9 => h9) rfl dX5_count_176 ?_
    refine va_get (D := gD G) (ci := 2) (v := .ref (ra 0 0)) (C := RX4) (T := TX4) (N := 18) hx hb hg kl_X4 hown hK hP 7 rfl rfl 0 (by decide) (hg _ kq1_53) (fun _ h9 => h9) rfl dX5_count_179 ?_
    refine lv_iconst (v := (4 : Int32)) hx hb dX5_count_182 (by decide) ?_
    refine va_iald (f := ((u2 0).2.2.1 0)) hx hb hK hP 8 1 rfl rfl (vin (by decide)) dX5_count_183 ?_
    have hf := Option.some.inj hf
    subst hf
    refine W.widen (k := 1) (n := 6) (Nat.zero_le _) (Nat.zero_le _) ?_
    refine vx_ret ?_
    exact e_i (wf := (fun v : Ob × Ob × (Nat → Ob) × (Nat → Ob) => (wAll G h0 a0 v.1 a1 v.2.1 ra rb v.2.2.1 v.2.2.2))) hx hb hr hlk (u0, (u1, (u2, u3))) rfl hP hK hD hS dX5_count_184
  have hf := tn hf c12
  by_cases c13 : x1 = (11 : Int32)
  · have hf := tp hf c13
    refine lv_tableIn (off := 184) (tgt := 185) hx hb dX5_count_1 (by rw [c13]; decide) (by rw [c13]; decide) (by rw [c13]; rfl) (by decide) ?_
    refine lv_aload_n hx hb dX5_count_185 rfl (lv_at hl 0 rfl) ?_
    refine va_get (D := gD G) (ci := 3) (v := .ref (a0 (20 + 0))) (C := RX5) (T := TX5) (N := 11) hx hb hg kl_X5 hown hK hP 0 rfl rfl 0 (by decide) (hg _ kq1_179) (fun _ h9 => h9) rfl dX5_count_186 ?_
    refine va_get (D := gD G) (ci := 2) (v := .int ((u2 0).1 2)) (C := RX4) (T := TX4) (N := 18) hx hb hg kl_X4 hown hK hP 7 rfl rfl 2 (by decide) (hg _ kq1_58) (fun _ h9 => h9) rfl dX5_count_189 ?_
    have hf := Option.some.inj hf
    subst hf
    refine W.widen (k := 1) (n := 6) (Nat.zero_le _) (Nat.zero_le _) ?_
    refine vx_ret ?_
    exact e_i (wf := (fun v : Ob × Ob × (Nat → Ob) × (Nat → Ob) => (wAll G h0 a0 v.1 a1 v.2.1 ra rb v.2.2.1 v.2.2.2))) hx hb hr hlk (u0, (u1, (u2, u3))) rfl hP hK hD hS dX5_count_192
  have hf := tn hf c13
  by_cases c14 : x1 = (12 : Int32)
  · have hf := tp hf c14
    refine lv_tableIn (off := 192) (tgt := 193) hx hb dX5_count_1 (by rw [c14]; decide) (by rw [c14]; decide) (by rw [c14]; rfl) (by decide) ?_
    refine lv_aload_n hx hb dX5_count_193 rfl (lv_at hl 0 rfl) ?_
    refine va_get (D := gD G) (ci := 3) (v := .ref (a0 (20 + 0))) (C := RX5) (T := TX5) (N := 11) hx hb hg kl_X5 hown hK hP 0 rfl rfl 0 (by decide) (hg _ kq1_179) (fun _ h9 => h9) rfl dX5_count_194 ?_
    obtain ⟨q15, e16, hf⟩ := tbd hf
    refine kVpi (As := []) (rest := []) hC (c_X4_doubtsSoFar (G := G) e16) kq3_192 kc_X4_doubtsSoFar (by decide) 0 (ci := 2) rfl rfl hP hK hD hE hS hA (pR4 (i := 0) (by omega)) (qR4 (i := 0) (by omega)) hl.1 (Nat.le_of_ble_eq_true rfl) ⟨Nat.zero_le _, Nat.zero_le _⟩ dX5_count_197 (fun r9 u9 H locs hw hP hD hS => ?_)
    obtain ⟨rfl, rfl⟩ := hw
    have hP : va_P (gD G) vwCl (wAll G h0 a0 u0 a1 u1 ra rb u2 u3) H := by simpa only [va_up_id, va_up_up] using hP
    have hD : va_D A (wAll G h0 a0 u0 a1 u1 ra rb u2 u3) := by simpa only [va_up_id, va_up_up] using hD
    have hf := Option.some.inj hf
    subst hf
    refine W.widen (k := 1) (n := 6) (Nat.zero_le _) (Nat.zero_le _) ?_
    refine vx_ret ?_
    exact e_i (wf := (fun v : Ob × Ob × (Nat → Ob) × (Nat → Ob) => (wAll G h0 a0 v.1 a1 v.2.1 ra rb v.2.2.1 v.2.2.2))) hx hb hr hlk (u0, (u1, (u2, u3))) rfl hP hK hD hS dX5_count_200
  have hf := tn hf c14
  by_cases c17 : x1 = (13 : Int32)
  · have hf := tp hf c17
    refine lv_tableIn (off := 200) (tgt := 201) hx hb dX5_count_1 (by rw [c17]; decide) (by rw [c17]; decide) (by rw [c17]; rfl) (by decide) ?_
    refine lv_aload_n hx hb dX5_count_201 rfl (lv_at hl 0 rfl) ?_
    refine va_get (D := gD G) (ci := 3) (v := .ref (a0 (20 + 0))) (C := RX5) (T := TX5) (N := 11) hx hb hg kl_X5 hown hK hP 0 rfl rfl 0 (by decide) (hg _ kq1_179) (fun _ h9 => h9) rfl dX5_count_202 ?_
    refine va_get (D := gD G) (ci := 2) (v := .int ((u2 0).1 3)) (C := RX4) (T := TX4) (N := 18) hx hb hg kl_X4 hown hK hP 7 rfl rfl 3 (by decide) (hg _ kq1_60) (fun _ h9 => h9) rfl dX5_count_205 ?_
    have hf := Option.some.inj hf
    subst hf
    refine W.widen (k := 1) (n := 6) (Nat.zero_le _) (Nat.zero_le _) ?_
    refine vx_ret ?_
    exact e_i (wf := (fun v : Ob × Ob × (Nat → Ob) × (Nat → Ob) => (wAll G h0 a0 v.1 a1 v.2.1 ra rb v.2.2.1 v.2.2.2))) hx hb hr hlk (u0, (u1, (u2, u3))) rfl hP hK hD hS dX5_count_208
  have hf := tn hf c17
  have tc1 := i32ne (z := 0) rfl c1
  have tc2 := i32ne (z := 1) rfl c2
  have tc3 := i32ne (z := 2) rfl c3
  have tc4 := i32ne (z := 3) rfl c4
  have tc5 := i32ne (z := 4) rfl c5
  have tc7 := i32ne (z := 5) rfl c7
  have tc8 := i32ne (z := 6) rfl c8
  have tc9 := i32ne (z := 7) rfl c9
  have tc10 := i32ne (z := 8) rfl c10
  have tc11 := i32ne (z := 9) rfl c11
  have tc12 := i32ne (z := 10) rfl c12
  have tc13 := i32ne (z := 11) rfl c13
  have tc14 := i32ne (z := 12) rfl c14
  have tc17 := i32ne (z := 13) rfl c17
  refine lv_tableOut (tgt := 209) hx hb dX5_count_1 (by omega) (by decide) ?_
  have hf := Option.some.inj hf
  subst hf
  exact thS (wf := (fun v : Ob × Ob × (Nat → Ob) × (Nat → Ob) => (wAll G h0 a0 v.1 a1 v.2.1 ra rb v.2.2.1 v.2.2.2))) (E := "java/lang/IllegalArgumentException") (tx := "no such number of the receiver") (u0, (u1, (u2, u3))) hx hb hlf hml hlk htb hown hg (k := 1) rfl kq2_191 kq1_10 (by decide +kernel) atg_63 atn_63 ato_63 (by decide +kernel) hP hK hD hE hS hl.1 rfl (by decide) dX5_count_209 dX5_count_212 dX5_count_213 dX5_count_215 dX5_count_218
set_option maxRecDepth 100000 in
set_option maxHeartbeats 4000000 in
theorem c_X5_part {l : Launch} (hlf : l.stackTraces = false) {G : Gp} {sz N : Nat} {x1 : Int32} {x2 : Int32} {h0 : Nat} {a0 a1 : Nat → Nat} {ra rb : Nat → Nat → Nat} {u0 u1 : Ob} {u2 u3 : Nat → Ob} {q : (Nat ⊕ Int32) × Ob × Ob × (Nat → Ob) × (Nat → Ob)} (hf : f_X5_part N x1 x2 u0 u1 u2 u3 = some q) : vx_Met l yX5_part (Cond.code yX5_part cX5_part 4 (some .int) :: lw_g) ({ frames := 6, cells := 1, slots := 6, locals := 90 } : Room) (va_Pc [.ref h0, .int x1, .int x2] (pw G (wAll G h0 a0 u0 a1 u1 ra rb u2 u3) sz)) (va_Qi (fun (r : Int32) (v : Ob × Ob × (Nat → Ob) × (Nat → Ob)) => q = (.inr r, v)) (bw G (fun v : Ob × Ob × (Nat → Ob) × (Nat → Ob) => (wAll G h0 a0 v.1 a1 v.2.1 ra rb v.2.2.1 v.2.2.2)) (va_A (wAll G h0 a0 u0 a1 u1 ra rb u2 u3) sz)) (va_A (wAll G h0 a0 u0 a1 u1 ra rb u2 u3) sz)) (XQ (fun z : Nat × (Ob × Ob × (Nat → Ob) × (Nat → Ob)) => q = (.inl z.1, z.2)) G (fun v : Ob × Ob × (Nat → Ob) × (Nat → Ob) => (wAll G h0 a0 v.1 a1 v.2.1 ra rb v.2.2.1 v.2.2.2)) (va_A (wAll G h0 a0 u0 a1 u1 ra rb u2 u3) sz)) 1 6 (va_A (wAll G h0 a0 u0 a1 u1 ra rb u2 u3) sz) := by
  refine mtx (Qc := (fun A => va_Qi (fun (r : Int32) (v : Ob × Ob × (Nat → Ob) × (Nat → Ob)) => q = (.inr r, v)) (bw G (fun v : Ob × Ob × (Nat → Ob) × (Nat → Ob) => (wAll G h0 a0 v.1 a1 v.2.1 ra rb v.2.2.1 v.2.2.2)) A) A)) (XC := fun A => XQ (fun z : Nat × (Ob × Ob × (Nat → Ob) × (Nat → Ob)) => q = (.inl z.1, z.2)) G (fun v : Ob × Ob × (Nat → Ob) × (Nat → Ob) => (wAll G h0 a0 v.1 a1 v.2.1 ra rb v.2.2.1 v.2.2.2)) A) (by decide) (Nat.le_of_ble_eq_true rfl) ?_
  intro p e s m below meth c A ls hx hb hr hlk hml htb hts hown hA hP hK hD hE hS hl
  have hown : s.vm.findClass RX5 = some m.cls := hown
  have hg : ∀ w ∈ lw_g, w.before ([.ref h0, .int x1, .int x2] : List Value).toArray s = true := fun w h => hts w (List.mem_cons_of_mem _ h)
  have hC : CallFix p m c cX5_part 4 s ([.ref h0, .int x1, .int x2] : List Value).toArray (Cond.code yX5_part cX5_part 4 (some .int) :: lw_g) RX5 := ⟨hx, hb, hml, hown, hts⟩
  have hl : lv_has ls 4 [(0, .ref h0), (1, .int x1), (2, .int x2)] := hl
  rw [f_X5_part] at hf
  refine lv_iload_n hx hb dX5_part_0 rfl (lv_at hl 1 rfl) ?_
  obtain ⟨q1, e2, hf⟩ := tbd hf
  refine kSi0 (As := [.int x1]) (rest := []) hC (c_X1_hasMinute (G := G) e2) kq3_204 kc_X1_hasMinute (by decide) hP hK hD hE hS hA hl.1 (Nat.le_of_ble_eq_true rfl) ⟨Nat.zero_le _, Nat.zero_le _⟩ dX5_part_1 (fun r9 u9 H locs hw hP hD hS => ?_)
  obtain ⟨rfl, rfl⟩ := hw
  refine bz_ne (tgt := 17) hx hb dX5_part_4 (by decide) (fun c3 => ?_) (fun c3 => ?_)
  · have hf := tp hf c3
    refine lv_iload_n hx hb dX5_part_17 rfl (lv_at hl 1 rfl) ?_
    refine lv_sipush (v := (1440 : Int32)) hx hb dX5_part_18 (by decide) ?_
    refine lv_idiv hx hb dX5_part_21 (by decide) ?_
    refine lv_istore_n (lv' := [(3, .int (x1 / (1440 : Int32))), (0, .ref h0), (1, .int x1), (2, .int x2)]) hx hb dX5_part_22 rfl hl (by decide) rfl (fun ls hl => ?_)
    refine lv_iload_n hx hb dX5_part_23 rfl (lv_at hl 3 rfl) ?_
    by_cases c4 : x2 = (0 : Int32)
    · have hf := tp hf c4
      refine lv_tableIn (off := 40) (tgt := 64) hx hb dX5_part_24 (by rw [c4]; decide) (by rw [c4]; decide) (by rw [c4]; rfl) (by decide) ?_
      refine lv_sipush (v := (2000 : Int32)) hx hb dX5_part_64 (by decide) ?_
      refine lv_iload_n hx hb dX5_part_67 rfl (lv_at hl 0 rfl) ?_
      obtain ⟨q5, e6, hf⟩ := tbd hf
      refine kSi0 (As := [.int (x1 / (1440 : Int32))]) (rest := [.int (2000 : Int32)]) hC (c_X1_yearOf (G := G) e6) kq3_209 kc_X1_yearOf (by decide) hP hK hD hE hS hA hl.1 (Nat.le_of_ble_eq_true rfl) ⟨Nat.zero_le _, Nat.zero_le _⟩ dX5_part_68 (fun r9 u9 H locs hw hP hD hS => ?_)
      obtain ⟨rfl, rfl⟩ := hw
      refine lv_iadd hx hb dX5_part_71 ?_
      have hf := Option.some.inj hf
      subst hf
      refine W.widen (k := 1) (n := 6) (Nat.zero_le _) (Nat.zero_le _) ?_
      refine vx_ret ?_
      exact e_i (wf := (fun v : Ob × Ob × (Nat → Ob) × (Nat → Ob) => (wAll G h0 a0 v.1 a1 v.2.1 ra rb v.2.2.1 v.2.2.2))) hx hb hr hlk (u0, (u1, (u2, u3))) rfl hP hK hD hS dX5_part_72
    have hf := tn hf c4
    by_cases c7 : x2 = (1 : Int32)
    · have hf := tp hf c7
      refine lv_tableIn (off := 49) (tgt := 73) hx hb dX5_part_24 (by rw [c7]; decide) (by rw [c7]; decide) (by rw [c7]; rfl) (by decide) ?_
      refine lv_iload_n hx hb dX5_part_73 rfl (lv_at hl 0 rfl) ?_
      obtain ⟨q8, e9, hf⟩ := tbd hf
      refine kSi0 (As := [.int (x1 / (1440 : Int32))]) (rest := []) hC (c_X1_monthOf (G := G) e9) kq3_210 kc_X1_monthOf (by decide) hP hK hD hE hS hA hl.1 (Nat.le_of_ble_eq_true rfl) ⟨Nat.zero_le _, Nat.zero_le _⟩ dX5_part_74 (fun r9 u9 H locs hw hP hD hS => ?_)
      obtain ⟨rfl, rfl⟩ := hw
      have hf := Option.some.inj hf
      subst hf
      refine W.widen (k := 1) (n := 6) (Nat.zero_le _) (Nat.zero_le _) ?_
      refine vx_ret ?_
      exact e_i (wf := (fun v : Ob × Ob × (Nat → Ob) × (Nat → Ob) => (wAll G h0 a0 v.1 a1 v.2.1 ra rb v.2.2.1 v.2.2.2))) hx hb hr hlk (u0, (u1, (u2, u3))) rfl hP hK hD hS dX5_part_77
    have hf := tn hf c7
    by_cases c10 : x2 = (2 : Int32)
    · have hf := tp hf c10
      refine lv_tableIn (off := 54) (tgt := 78) hx hb dX5_part_24 (by rw [c10]; decide) (by rw [c10]; decide) (by rw [c10]; rfl) (by decide) ?_
      refine lv_iload_n hx hb dX5_part_78 rfl (lv_at hl 0 rfl) ?_
      obtain ⟨q11, e12, hf⟩ := tbd hf
      refine kSi0 (As := [.int (x1 / (1440 : Int32))]) (rest := []) hC (c_X1_dayOfMonth (G := G) e12) kq3_211 kc_X1_dayOfMonth (by decide) hP hK hD hE hS hA hl.1 (Nat.le_of_ble_eq_true rfl) ⟨Nat.zero_le _, Nat.zero_le _⟩ dX5_part_79 (fun r9 u9 H locs hw hP hD hS => ?_)
      obtain ⟨rfl, rfl⟩ := hw
      have hf := Option.some.inj hf
      subst hf
      refine W.widen (k := 1) (n := 6) (Nat.zero_le _) (Nat.zero_le _) ?_
      refine vx_ret ?_
      exact e_i (wf := (fun v : Ob × Ob × (Nat → Ob) × (Nat → Ob) => (wAll G h0 a0 v.1 a1 v.2.1 ra rb v.2.2.1 v.2.2.2))) hx hb hr hlk (u0, (u1, (u2, u3))) rfl hP hK hD hS dX5_part_82
    have hf := tn hf c10
    by_cases c13 : x2 = (3 : Int32)
    · have hf := tp hf c13
      refine lv_tableIn (off := 59) (tgt := 83) hx hb dX5_part_24 (by rw [c13]; decide) (by rw [c13]; decide) (by rw [c13]; rfl) (by decide) ?_
      refine lv_iload_n hx hb dX5_part_83 rfl (lv_at hl 2 rfl) ?_
      refine lv_bipush (v := (60 : Int32)) hx hb dX5_part_84 (by decide) ?_
      refine lv_idiv hx hb dX5_part_86 (by decide) ?_
      refine lv_bipush (v := (24 : Int32)) hx hb dX5_part_87 (by decide) ?_
      refine lv_irem hx hb dX5_part_89 (by decide) ?_
      have hf := Option.some.inj hf
      subst hf
      refine W.widen (k := 1) (n := 6) (Nat.zero_le _) (Nat.zero_le _) ?_
      refine vx_ret ?_
      exact e_i (wf := (fun v : Ob × Ob × (Nat → Ob) × (Nat → Ob) => (wAll G h0 a0 v.1 a1 v.2.1 ra rb v.2.2.1 v.2.2.2))) hx hb hr hlk (u0, (u1, (u2, u3))) rfl hP hK hD hS dX5_part_90
    have hf := tn hf c13
    by_cases c14 : x2 = (4 : Int32)
    · have hf := tp hf c14
      refine lv_tableIn (off := 67) (tgt := 91) hx hb dX5_part_24 (by rw [c14]; decide) (by rw [c14]; decide) (by rw [c14]; rfl) (by decide) ?_
      refine lv_iload_n hx hb dX5_part_91 rfl (lv_at hl 2 rfl) ?_
      refine lv_bipush (v := (60 : Int32)) hx hb dX5_part_92 (by decide) ?_
      refine lv_irem hx hb dX5_part_94 (by decide) ?_
      have hf := Option.some.inj hf
      subst hf
      refine W.widen (k := 1) (n := 6) (Nat.zero_le _) (Nat.zero_le _) ?_
      refine vx_ret ?_
      exact e_i (wf := (fun v : Ob × Ob × (Nat → Ob) × (Nat → Ob) => (wAll G h0 a0 v.1 a1 v.2.1 ra rb v.2.2.1 v.2.2.2))) hx hb hr hlk (u0, (u1, (u2, u3))) rfl hP hK hD hS dX5_part_95
    have hf := tn hf c14
    by_cases c15 : x2 = (5 : Int32)
    · have hf := tp hf c15
      refine lv_tableIn (off := 72) (tgt := 96) hx hb dX5_part_24 (by rw [c15]; decide) (by rw [c15]; decide) (by rw [c15]; rfl) (by decide) ?_
      refine lv_iload_n hx hb dX5_part_96 rfl (lv_at hl 0 rfl) ?_
      obtain ⟨q16, e17, hf⟩ := tbd hf
      refine kSi0 (As := [.int (x1 / (1440 : Int32))]) (rest := []) hC (c_X1_weekdayOf (G := G) e17) kq3_212 kc_X1_weekdayOf (by decide) hP hK hD hE hS hA hl.1 (Nat.le_of_ble_eq_true rfl) ⟨Nat.zero_le _, Nat.zero_le _⟩ dX5_part_97 (fun r9 u9 H locs hw hP hD hS => ?_)
      obtain ⟨rfl, rfl⟩ := hw
      have hf := Option.some.inj hf
      subst hf
      refine W.widen (k := 1) (n := 6) (Nat.zero_le _) (Nat.zero_le _) ?_
      refine vx_ret ?_
      exact e_i (wf := (fun v : Ob × Ob × (Nat → Ob) × (Nat → Ob) => (wAll G h0 a0 v.1 a1 v.2.1 ra rb v.2.2.1 v.2.2.2))) hx hb hr hlk (u0, (u1, (u2, u3))) rfl hP hK hD hS dX5_part_100
    have hf := tn hf c15
    have tc4 := i32ne (z := 0) rfl c4
    have tc7 := i32ne (z := 1) rfl c7
    have tc10 := i32ne (z := 2) rfl c10
    have tc13 := i32ne (z := 3) rfl c13
    have tc14 := i32ne (z := 4) rfl c14
    have tc15 := i32ne (z := 5) rfl c15
    refine lv_tableOut (tgt := 101) hx hb dX5_part_24 (by omega) (by decide) ?_
    have hf := Option.some.inj hf
    subst hf
    exact thS (wf := (fun v : Ob × Ob × (Nat → Ob) × (Nat → Ob) => (wAll G h0 a0 v.1 a1 v.2.1 ra rb v.2.2.1 v.2.2.2))) (E := "java/lang/IllegalArgumentException") (tx := "no such part") (u0, (u1, (u2, u3))) hx hb hlf hml hlk htb hown hg (k := 1) rfl kq2_191 kq1_10 (by decide +kernel) atg_63 atn_63 ato_63 (by decide +kernel) hP hK hD hE hS hl.1 rfl (by decide) dX5_part_101 dX5_part_104 dX5_part_105 dX5_part_107 dX5_part_110
  · have hf := tn hf c3
    have hf := Option.some.inj hf
    subst hf
    exact thS (wf := (fun v : Ob × Ob × (Nat → Ob) × (Nat → Ob) => (wAll G h0 a0 v.1 a1 v.2.1 ra rb v.2.2.1 v.2.2.2))) (E := "java/lang/IllegalArgumentException") (tx := "no such minute") (u0, (u1, (u2, u3))) hx hb hlf hml hlk htb hown hg (k := 1) rfl kq2_191 kq1_10 (by decide +kernel) atg_63 atn_63 ato_63 (by decide +kernel) hP hK hD hE hS hl.1 rfl (by decide) dX5_part_7 dX5_part_10 dX5_part_11 dX5_part_13 dX5_part_16
set_option maxRecDepth 100000 in
set_option maxHeartbeats 4000000 in
theorem c_X5_number {l : Launch} (hlf : l.stackTraces = false) {G : Gp} {sz N : Nat} {x1 : Int32} {x2 : Int32} {x3 : Int32} {x4 : Int32} {x5 : Int32} {h0 : Nat} {a0 a1 : Nat → Nat} {ra rb : Nat → Nat → Nat} {u0 u1 : Ob} {u2 u3 : Nat → Ob} {q : (Nat ⊕ Int32) × Ob × Ob × (Nat → Ob) × (Nat → Ob)} (hf : f_X5_number N x1 x2 x3 x4 x5 u0 u1 u2 u3 = some q) : vx_Met l yX5_number (Cond.code yX5_number cX5_number 7 (some .int) :: lw_g) ({ frames := 6, cells := 1, slots := 6, locals := 90 } : Room) (va_Pc [.ref h0, .int x1, .int x2, .int x3, .int x4, .int x5] (pw G (wAll G h0 a0 u0 a1 u1 ra rb u2 u3) sz)) (va_Qi (fun (r : Int32) (v : Ob × Ob × (Nat → Ob) × (Nat → Ob)) => q = (.inr r, v)) (bw G (fun v : Ob × Ob × (Nat → Ob) × (Nat → Ob) => (wAll G h0 a0 v.1 a1 v.2.1 ra rb v.2.2.1 v.2.2.2)) (va_A (wAll G h0 a0 u0 a1 u1 ra rb u2 u3) sz)) (va_A (wAll G h0 a0 u0 a1 u1 ra rb u2 u3) sz)) (XQ (fun z : Nat × (Ob × Ob × (Nat → Ob) × (Nat → Ob)) => q = (.inl z.1, z.2)) G (fun v : Ob × Ob × (Nat → Ob) × (Nat → Ob) => (wAll G h0 a0 v.1 a1 v.2.1 ra rb v.2.2.1 v.2.2.2)) (va_A (wAll G h0 a0 u0 a1 u1 ra rb u2 u3) sz)) 1 6 (va_A (wAll G h0 a0 u0 a1 u1 ra rb u2 u3) sz) := by
  refine mtx (Qc := (fun A => va_Qi (fun (r : Int32) (v : Ob × Ob × (Nat → Ob) × (Nat → Ob)) => q = (.inr r, v)) (bw G (fun v : Ob × Ob × (Nat → Ob) × (Nat → Ob) => (wAll G h0 a0 v.1 a1 v.2.1 ra rb v.2.2.1 v.2.2.2)) A) A)) (XC := fun A => XQ (fun z : Nat × (Ob × Ob × (Nat → Ob) × (Nat → Ob)) => q = (.inl z.1, z.2)) G (fun v : Ob × Ob × (Nat → Ob) × (Nat → Ob) => (wAll G h0 a0 v.1 a1 v.2.1 ra rb v.2.2.1 v.2.2.2)) A) (by decide) (Nat.le_of_ble_eq_true rfl) ?_
  intro p e s m below meth c A ls hx hb hr hlk hml htb hts hown hA hP hK hD hE hS hl
  have hown : s.vm.findClass RX5 = some m.cls := hown
  have hg : ∀ w ∈ lw_g, w.before ([.ref h0, .int x1, .int x2, .int x3, .int x4, .int x5] : List Value).toArray s = true := fun w h => hts w (List.mem_cons_of_mem _ h)
  have hC : CallFix p m c cX5_number 7 s ([.ref h0, .int x1, .int x2, .int x3, .int x4, .int x5] : List Value).toArray (Cond.code yX5_number cX5_number 7 (some .int) :: lw_g) RX5 := ⟨hx, hb, hml, hown, hts⟩
  have hl : lv_has ls 7 [(0, .ref h0), (1, .int x1), (2, .int x2), (3, .int x3), (4, .int x4), (5, .int x5)] := hl
  rw [f_X5_number] at hf
  refine lv_iload_n hx hb dX5_number_0 rfl (lv_at hl 1 rfl) ?_
  refine lv_sipush (v := (2000 : Int32)) hx hb dX5_number_1 (by decide) ?_
  refine lv_icmp_lt (tgt := 14) hx hb dX5_number_4 (by decide) (fun c1 => ?_) (fun c1 => ?_)
  · have hf := tp hf c1
    have hf := Option.some.inj hf
    subst hf
    exact thS (wf := (fun v : Ob × Ob × (Nat → Ob) × (Nat → Ob) => (wAll G h0 a0 v.1 a1 v.2.1 ra rb v.2.2.1 v.2.2.2))) (E := "java/lang/IllegalArgumentException") (tx := "no such year") (u0, (u1, (u2, u3))) hx hb hlf hml hlk htb hown hg (k := 1) rfl kq2_191 kq1_10 (by decide +kernel) atg_63 atn_63 ato_63 (by decide +kernel) hP hK hD hE hS hl.1 rfl (by decide) dX5_number_14 dX5_number_17 dX5_number_18 dX5_number_20 dX5_number_23
  · have hf := tn hf c1
    refine lv_iload_n hx hb dX5_number_7 rfl (lv_at hl 1 rfl) ?_
    refine lv_sipush (v := (2099 : Int32)) hx hb dX5_number_8 (by decide) ?_
    refine lv_icmp_le (tgt := 24) hx hb dX5_number_11 (by decide) (fun c2 => ?_) (fun c2 => ?_)
    · have hf := tp hf c2
      refine lv_iload_n hx hb dX5_number_24 rfl (lv_at hl 1 rfl) ?_
      refine lv_sipush (v := (2000 : Int32)) hx hb dX5_number_25 (by decide) ?_
      refine lv_isub hx hb dX5_number_28 ?_
      refine lv_iload_n hx hb dX5_number_29 rfl (lv_at hl 2 rfl) ?_
      refine lv_iload_n hx hb dX5_number_30 rfl (lv_at hl 3 rfl) ?_
      obtain ⟨q3, e4, hf⟩ := tbd hf
      refine kSi0 (As := [.int (x1 - (2000 : Int32)), .int x2, .int x3]) (rest := []) hC (c_X1_dayNumber (G := G) e4) kq3_222 kc_X1_dayNumber (by decide) hP hK hD hE hS hA hl.1 (Nat.le_of_ble_eq_true rfl) ⟨Nat.zero_le _, Nat.zero_le _⟩ dX5_number_31 (fun r9 u9 H locs hw hP hD hS => ?_)
      obtain ⟨rfl, rfl⟩ := hw
      refine lv_istore (lv' := [(6, .int q3), (0, .ref h0), (1, .int x1), (2, .int x2), (3, .int x3), (4, .int x4), (5, .int x5)]) hx hb dX5_number_34 hl (by decide) rfl (fun ls hl => ?_)
      refine lv_iload hx hb dX5_number_36 (lv_at hl 0 rfl) ?_
      refine lv_iconst (v := (-1 : Int32)) hx hb dX5_number_38 (by decide) ?_
      refine lv_icmp_ne (tgt := 52) hx hb dX5_number_39 (by decide) (fun c5 => ?_) (fun c5 => ?_)
      · have hf := tn hf c5
        refine lv_iload hx hb dX5_number_52 (lv_at hl 5 rfl) ?_
        refine lv_if_lt (tgt := 76) hx hb dX5_number_54 (by decide) (fun c6 => ?_) (fun c6 => ?_)
        · have hf := tp hf c6
          have hf := Option.some.inj hf
          subst hf
          exact thS (wf := (fun v : Ob × Ob × (Nat → Ob) × (Nat → Ob) => (wAll G h0 a0 v.1 a1 v.2.1 ra rb v.2.2.1 v.2.2.2))) (E := "java/lang/IllegalArgumentException") (tx := "no such time of the day") (u0, (u1, (u2, u3))) hx hb hlf hml hlk htb hown hg (k := 1) rfl kq2_191 kq1_10 (by decide +kernel) atg_63 atn_63 ato_63 (by decide +kernel) hP hK hD hE hS hl.1 rfl (by decide) dX5_number_76 dX5_number_79 dX5_number_80 dX5_number_82 dX5_number_85
        · have hf := tn hf c6
          refine lv_iload hx hb dX5_number_57 (lv_at hl 5 rfl) ?_
          refine lv_bipush (v := (23 : Int32)) hx hb dX5_number_59 (by decide) ?_
          refine lv_icmp_gt (tgt := 76) hx hb dX5_number_61 (by decide) (fun c7 => ?_) (fun c7 => ?_)
          · have hf := tp hf c7
            have hf := Option.some.inj hf
            subst hf
            exact thS (wf := (fun v : Ob × Ob × (Nat → Ob) × (Nat → Ob) => (wAll G h0 a0 v.1 a1 v.2.1 ra rb v.2.2.1 v.2.2.2))) (E := "java/lang/IllegalArgumentException") (tx := "no such time of the day") (u0, (u1, (u2, u3))) hx hb hlf hml hlk htb hown hg (k := 1) rfl kq2_191 kq1_10 (by decide +kernel) atg_63 atn_63 ato_63 (by decide +kernel) hP hK hD hE hS hl.1 rfl (by decide) dX5_number_76 dX5_number_79 dX5_number_80 dX5_number_82 dX5_number_85
          · have hf := tn hf c7
            refine lv_iload hx hb dX5_number_64 (lv_at hl 6 rfl) ?_
            refine lv_if_lt (tgt := 76) hx hb dX5_number_66 (by decide) (fun c8 => ?_) (fun c8 => ?_)
            · have hf := tp hf c8
              have hf := Option.some.inj hf
              subst hf
              exact thS (wf := (fun v : Ob × Ob × (Nat → Ob) × (Nat → Ob) => (wAll G h0 a0 v.1 a1 v.2.1 ra rb v.2.2.1 v.2.2.2))) (E := "java/lang/IllegalArgumentException") (tx := "no such time of the day") (u0, (u1, (u2, u3))) hx hb hlf hml hlk htb hown hg (k := 1) rfl kq2_191 kq1_10 (by decide +kernel) atg_63 atn_63 ato_63 (by decide +kernel) hP hK hD hE hS hl.1 rfl (by decide) dX5_number_76 dX5_number_79 dX5_number_80 dX5_number_82 dX5_number_85
            · have hf := tn hf c8
              refine lv_iload hx hb dX5_number_69 (lv_at hl 6 rfl) ?_
              refine lv_bipush (v := (59 : Int32)) hx hb dX5_number_71 (by decide) ?_
              refine lv_icmp_le (tgt := 86) hx hb dX5_number_73 (by decide) (fun c9 => ?_) (fun c9 => ?_)
              · have hf := tp hf c9
                refine lv_iload hx hb dX5_number_86 (lv_at hl 0 rfl) ?_
                refine lv_iload hx hb dX5_number_88 (lv_at hl 5 rfl) ?_
                refine lv_iload hx hb dX5_number_90 (lv_at hl 6 rfl) ?_
                obtain ⟨q10, e11, hf⟩ := tbd hf
                refine kSi0 (As := [.int q3, .int x4, .int x5]) (rest := []) hC (c_X1_minuteNumber (G := G) e11) kq3_225 kc_X1_minuteNumber (by decide) hP hK hD hE hS hA hl.1 (Nat.le_of_ble_eq_true rfl) ⟨Nat.zero_le _, Nat.zero_le _⟩ dX5_number_92 (fun r9 u9 H locs hw hP hD hS => ?_)
                obtain ⟨rfl, rfl⟩ := hw
                have hf := Option.some.inj hf
                subst hf
                refine W.widen (k := 1) (n := 6) (Nat.zero_le _) (Nat.zero_le _) ?_
                refine vx_ret ?_
                exact e_i (wf := (fun v : Ob × Ob × (Nat → Ob) × (Nat → Ob) => (wAll G h0 a0 v.1 a1 v.2.1 ra rb v.2.2.1 v.2.2.2))) hx hb hr hlk (u0, (u1, (u2, u3))) rfl hP hK hD hS dX5_number_95
              · have hf := tn hf c9
                have hf := Option.some.inj hf
                subst hf
                exact thS (wf := (fun v : Ob × Ob × (Nat → Ob) × (Nat → Ob) => (wAll G h0 a0 v.1 a1 v.2.1 ra rb v.2.2.1 v.2.2.2))) (E := "java/lang/IllegalArgumentException") (tx := "no such time of the day") (u0, (u1, (u2, u3))) hx hb hlf hml hlk htb hown hg (k := 1) rfl kq2_191 kq1_10 (by decide +kernel) atg_63 atn_63 ato_63 (by decide +kernel) hP hK hD hE hS hl.1 rfl (by decide) dX5_number_76 dX5_number_79 dX5_number_80 dX5_number_82 dX5_number_85
      · have hf := tp hf c5
        have hf := Option.some.inj hf
        subst hf
        exact thS (wf := (fun v : Ob × Ob × (Nat → Ob) × (Nat → Ob) => (wAll G h0 a0 v.1 a1 v.2.1 ra rb v.2.2.1 v.2.2.2))) (E := "java/lang/IllegalArgumentException") (tx := "no such day") (u0, (u1, (u2, u3))) hx hb hlf hml hlk htb hown hg (k := 1) rfl kq2_191 kq1_10 (by decide +kernel) atg_63 atn_63 ato_63 (by decide +kernel) hP hK hD hE hS hl.1 rfl (by decide) dX5_number_42 dX5_number_45 dX5_number_46 dX5_number_48 dX5_number_51
    · have hf := tn hf c2
      have hf := Option.some.inj hf
      subst hf
      exact thS (wf := (fun v : Ob × Ob × (Nat → Ob) × (Nat → Ob) => (wAll G h0 a0 v.1 a1 v.2.1 ra rb v.2.2.1 v.2.2.2))) (E := "java/lang/IllegalArgumentException") (tx := "no such year") (u0, (u1, (u2, u3))) hx hb hlf hml hlk htb hown hg (k := 1) rfl kq2_191 kq1_10 (by decide +kernel) atg_63 atn_63 ato_63 (by decide +kernel) hP hK hD hE hS hl.1 rfl (by decide) dX5_number_14 dX5_number_17 dX5_number_18 dX5_number_20 dX5_number_23
set_option maxRecDepth 100000 in
set_option maxHeartbeats 4000000 in
theorem c_X5_code {l : Launch} (hlf : l.stackTraces = false) {G : Gp} {sz N : Nat} {x1 : Int32} {x2 : Bool} {h0 : Nat} {a0 a1 : Nat → Nat} {ra rb : Nat → Nat → Nat} {u0 u1 : Ob} {u2 u3 : Nat → Ob} {q : (Nat ⊕ Int64) × Ob × Ob × (Nat → Ob) × (Nat → Ob)} (hf : f_X5_code N x1 x2 u0 u1 u2 u3 = some q) : vx_Met l yX5_code (Cond.code yX5_code cX5_code 3 (some .long) :: lw_g) ({ frames := 6, cells := 1, slots := 6, locals := 92 } : Room) (va_Pc [.ref h0, .int x1, .int (bI x2)] (pw G (wAll G h0 a0 u0 a1 u1 ra rb u2 u3) sz)) (va_Ql (fun (r : Int64) (v : Ob × Ob × (Nat → Ob) × (Nat → Ob)) => q = (.inr r, v)) (bw G (fun v : Ob × Ob × (Nat → Ob) × (Nat → Ob) => (wAll G h0 a0 v.1 a1 v.2.1 ra rb v.2.2.1 v.2.2.2)) (va_A (wAll G h0 a0 u0 a1 u1 ra rb u2 u3) sz)) (va_A (wAll G h0 a0 u0 a1 u1 ra rb u2 u3) sz)) (XQ (fun z : Nat × (Ob × Ob × (Nat → Ob) × (Nat → Ob)) => q = (.inl z.1, z.2)) G (fun v : Ob × Ob × (Nat → Ob) × (Nat → Ob) => (wAll G h0 a0 v.1 a1 v.2.1 ra rb v.2.2.1 v.2.2.2)) (va_A (wAll G h0 a0 u0 a1 u1 ra rb u2 u3) sz)) 1 6 (va_A (wAll G h0 a0 u0 a1 u1 ra rb u2 u3) sz) := by
  refine mtx (Qc := (fun A => va_Ql (fun (r : Int64) (v : Ob × Ob × (Nat → Ob) × (Nat → Ob)) => q = (.inr r, v)) (bw G (fun v : Ob × Ob × (Nat → Ob) × (Nat → Ob) => (wAll G h0 a0 v.1 a1 v.2.1 ra rb v.2.2.1 v.2.2.2)) A) A)) (XC := fun A => XQ (fun z : Nat × (Ob × Ob × (Nat → Ob) × (Nat → Ob)) => q = (.inl z.1, z.2)) G (fun v : Ob × Ob × (Nat → Ob) × (Nat → Ob) => (wAll G h0 a0 v.1 a1 v.2.1 ra rb v.2.2.1 v.2.2.2)) A) (by decide) (Nat.le_of_ble_eq_true rfl) ?_
  intro p e s m below meth c A ls hx hb hr hlk hml htb hts hown hA hP hK hD hE hS hl
  have hown : s.vm.findClass RX5 = some m.cls := hown
  have hg : ∀ w ∈ lw_g, w.before ([.ref h0, .int x1, .int (bI x2)] : List Value).toArray s = true := fun w h => hts w (List.mem_cons_of_mem _ h)
  have hC : CallFix p m c cX5_code 3 s ([.ref h0, .int x1, .int (bI x2)] : List Value).toArray (Cond.code yX5_code cX5_code 3 (some .long) :: lw_g) RX5 := ⟨hx, hb, hml, hown, hts⟩
  have hl : lv_has ls 3 [(0, .ref h0), (1, .int x1), (2, .int (bI x2))] := hl
  rw [f_X5_code] at hf
  refine lv_iload_n hx hb dX5_code_0 rfl (lv_at hl 1 rfl) ?_
  obtain ⟨q1, e2, hf⟩ := tbd hf
  refine kSi0 (As := [.int x1]) (rest := []) hC (c_X1_hasMinute (G := G) e2) kq3_204 kc_X1_hasMinute (by decide) hP hK hD hE hS hA hl.1 (Nat.le_of_ble_eq_true rfl) ⟨Nat.zero_le _, Nat.zero_le _⟩ dX5_code_1 (fun r9 u9 H locs hw hP hD hS => ?_)
  obtain ⟨rfl, rfl⟩ := hw
  refine bz_ne (tgt := 17) hx hb dX5_code_4 (by decide) (fun c3 => ?_) (fun c3 => ?_)
  · have hf := tp hf c3
    refine lv_iload_n hx hb dX5_code_17 rfl (lv_at hl 1 rfl) ?_
    refine lv_iload_n hx hb dX5_code_18 rfl (lv_at hl 2 rfl) ?_
    obtain ⟨q4, e5, hf⟩ := tbd hf
    refine kSl0 (As := [.int x1, .int (bI x2)]) (rest := []) hC (c_X2_encode (G := G) e5) kq3_233 kc_X2_encode (by decide) hP hK hD hE hS hA hl.1 (Nat.le_of_ble_eq_true rfl) ⟨Nat.zero_le _, Nat.zero_le _⟩ dX5_code_19 (fun r9 u9 H locs hw hP hD hS => ?_)
    obtain ⟨rfl, rfl⟩ := hw
    have hf := Option.some.inj hf
    subst hf
    refine W.widen (k := 1) (n := 6) (Nat.zero_le _) (Nat.zero_le _) ?_
    refine vx_ret ?_
    exact e_l (wf := (fun v : Ob × Ob × (Nat → Ob) × (Nat → Ob) => (wAll G h0 a0 v.1 a1 v.2.1 ra rb v.2.2.1 v.2.2.2))) hx hb hr hlk (u0, (u1, (u2, u3))) rfl hP hK hD hS dX5_code_22
  · have hf := tn hf c3
    have hf := Option.some.inj hf
    subst hf
    exact thS (wf := (fun v : Ob × Ob × (Nat → Ob) × (Nat → Ob) => (wAll G h0 a0 v.1 a1 v.2.1 ra rb v.2.2.1 v.2.2.2))) (E := "java/lang/IllegalArgumentException") (tx := "no such minute") (u0, (u1, (u2, u3))) hx hb hlf hml hlk htb hown hg (k := 1) rfl kq2_191 kq1_10 (by decide +kernel) atg_63 atn_63 ato_63 (by decide +kernel) hP hK hD hE hS hl.1 rfl (by decide) dX5_code_7 dX5_code_10 dX5_code_11 dX5_code_13 dX5_code_16
set_option maxRecDepth 100000 in
set_option maxHeartbeats 4000000 in
theorem c_X5_pulse {l : Launch} (hlf : l.stackTraces = false) {G : Gp} {sz N : Nat} {x1 : Int32} {x2 : Int32} {h0 : Nat} {a0 a1 : Nat → Nat} {ra rb : Nat → Nat → Nat} {u0 u1 : Ob} {u2 u3 : Nat → Ob} {q : (Nat ⊕ Int32) × Ob × Ob × (Nat → Ob) × (Nat → Ob)} (hf : f_X5_pulse N x1 x2 u0 u1 u2 u3 = some q) : vx_Met l yX5_pulse (Cond.code yX5_pulse cX5_pulse 3 (some .int) :: lw_g) ({ frames := 6, cells := 1, slots := 6, locals := 147 } : Room) (va_Pc [.ref h0, .int x1, .int x2] (pw G (wAll G h0 a0 u0 a1 u1 ra rb u2 u3) sz)) (va_Qi (fun (r : Int32) (v : Ob × Ob × (Nat → Ob) × (Nat → Ob)) => q = (.inr r, v)) (bw G (fun v : Ob × Ob × (Nat → Ob) × (Nat → Ob) => (wAll G h0 a0 v.1 a1 v.2.1 ra rb v.2.2.1 v.2.2.2)) (va_A (wAll G h0 a0 u0 a1 u1 ra rb u2 u3) sz)) (va_A (wAll G h0 a0 u0 a1 u1 ra rb u2 u3) sz)) (XQ (fun z : Nat × (Ob × Ob × (Nat → Ob) × (Nat → Ob)) => q = (.inl z.1, z.2)) G (fun v : Ob × Ob × (Nat → Ob) × (Nat → Ob) => (wAll G h0 a0 v.1 a1 v.2.1 ra rb v.2.2.1 v.2.2.2)) (va_A (wAll G h0 a0 u0 a1 u1 ra rb u2 u3) sz)) 1 6 (va_A (wAll G h0 a0 u0 a1 u1 ra rb u2 u3) sz) := by
  refine mtx (Qc := (fun A => va_Qi (fun (r : Int32) (v : Ob × Ob × (Nat → Ob) × (Nat → Ob)) => q = (.inr r, v)) (bw G (fun v : Ob × Ob × (Nat → Ob) × (Nat → Ob) => (wAll G h0 a0 v.1 a1 v.2.1 ra rb v.2.2.1 v.2.2.2)) A) A)) (XC := fun A => XQ (fun z : Nat × (Ob × Ob × (Nat → Ob) × (Nat → Ob)) => q = (.inl z.1, z.2)) G (fun v : Ob × Ob × (Nat → Ob) × (Nat → Ob) => (wAll G h0 a0 v.1 a1 v.2.1 ra rb v.2.2.1 v.2.2.2)) A) (by decide) (Nat.le_of_ble_eq_true rfl) ?_
  intro p e s m below meth c A ls hx hb hr hlk hml htb hts hown hA hP hK hD hE hS hl
  have hown : s.vm.findClass RX5 = some m.cls := hown
  have hg : ∀ w ∈ lw_g, w.before ([.ref h0, .int x1, .int x2] : List Value).toArray s = true := fun w h => hts w (List.mem_cons_of_mem _ h)
  have hC : CallFix p m c cX5_pulse 3 s ([.ref h0, .int x1, .int x2] : List Value).toArray (Cond.code yX5_pulse cX5_pulse 3 (some .int) :: lw_g) RX5 := ⟨hx, hb, hml, hown, hts⟩
  have hl : lv_has ls 3 [(0, .ref h0), (1, .int x1), (2, .int x2)] := hl
  rw [f_X5_pulse] at hf
  refine lv_iload_n hx hb dX5_pulse_0 rfl (lv_at hl 1 rfl) ?_
  refine lv_if_lt (tgt := 21) hx hb dX5_pulse_1 (by decide) (fun c1 => ?_) (fun c1 => ?_)
  · have hf := tp hf c1
    have hf := Option.some.inj hf
    subst hf
    exact thS (wf := (fun v : Ob × Ob × (Nat → Ob) × (Nat → Ob) => (wAll G h0 a0 v.1 a1 v.2.1 ra rb v.2.2.1 v.2.2.2))) (E := "java/lang/IllegalArgumentException") (tx := "no such time for a pulse") (u0, (u1, (u2, u3))) hx hb hlf hml hlk htb hown hg (k := 1) rfl kq2_191 kq1_10 (by decide +kernel) atg_63 atn_63 ato_63 (by decide +kernel) hP hK hD hE hS hl.1 rfl (by decide) dX5_pulse_21 dX5_pulse_24 dX5_pulse_25 dX5_pulse_27 dX5_pulse_30
  · have hf := tn hf c1
    refine lv_iload_n hx hb dX5_pulse_4 rfl (lv_at hl 1 rfl) ?_
    refine lv_ldc hx hb hown (hg _ kq4_1) dX5_pulse_5 ?_
    refine lv_icmp_gt (tgt := 21) hx hb dX5_pulse_7 (by decide) (fun c2 => ?_) (fun c2 => ?_)
    · have hf := tp hf c2
      have hf := Option.some.inj hf
      subst hf
      exact thS (wf := (fun v : Ob × Ob × (Nat → Ob) × (Nat → Ob) => (wAll G h0 a0 v.1 a1 v.2.1 ra rb v.2.2.1 v.2.2.2))) (E := "java/lang/IllegalArgumentException") (tx := "no such time for a pulse") (u0, (u1, (u2, u3))) hx hb hlf hml hlk htb hown hg (k := 1) rfl kq2_191 kq1_10 (by decide +kernel) atg_63 atn_63 ato_63 (by decide +kernel) hP hK hD hE hS hl.1 rfl (by decide) dX5_pulse_21 dX5_pulse_24 dX5_pulse_25 dX5_pulse_27 dX5_pulse_30
    · have hf := tn hf c2
      refine lv_iload_n hx hb dX5_pulse_10 rfl (lv_at hl 1 rfl) ?_
      refine lv_aload_n hx hb dX5_pulse_11 rfl (lv_at hl 0 rfl) ?_
      refine va_get (D := gD G) (ci := 3) (v := .ref (a0 (20 + 0))) (C := RX5) (T := TX5) (N := 11) hx hb hg kl_X5 hown hK hP 0 rfl rfl 0 (by decide) (hg _ kq1_179) (fun _ h9 => h9) rfl dX5_pulse_12 ?_
      refine va_get (D := gD G) (ci := 2) (v := .int ((u2 0).1 1)) (C := RX4) (T := TX4) (N := 18) hx hb hg kl_X4 hown hK hP 7 rfl rfl 1 (by decide) (hg _ kq1_56) (fun _ h9 => h9) rfl dX5_pulse_15 ?_
      refine lv_icmp_gt (tgt := 31) hx hb dX5_pulse_18 (by decide) (fun c3 => ?_) (fun c3 => ?_)
      · have hf := tp hf c3
        refine lv_iload_n hx hb dX5_pulse_31 rfl (lv_at hl 2 rfl) ?_
        refine lv_if_lt (tgt := 42) hx hb dX5_pulse_32 (by decide) (fun c4 => ?_) (fun c4 => ?_)
        · have hf := tp hf c4
          have hf := Option.some.inj hf
          subst hf
          exact thS (wf := (fun v : Ob × Ob × (Nat → Ob) × (Nat → Ob) => (wAll G h0 a0 v.1 a1 v.2.1 ra rb v.2.2.1 v.2.2.2))) (E := "java/lang/IllegalArgumentException") (tx := "no such length of a pulse") (u0, (u1, (u2, u3))) hx hb hlf hml hlk htb hown hg (k := 1) rfl kq2_191 kq1_10 (by decide +kernel) atg_63 atn_63 ato_63 (by decide +kernel) hP hK hD hE hS hl.1 rfl (by decide) dX5_pulse_42 dX5_pulse_45 dX5_pulse_46 dX5_pulse_48 dX5_pulse_51
        · have hf := tn hf c4
          refine lv_iload_n hx hb dX5_pulse_35 rfl (lv_at hl 2 rfl) ?_
          refine lv_sipush (v := (9999 : Int32)) hx hb dX5_pulse_36 (by decide) ?_
          refine lv_icmp_le (tgt := 52) hx hb dX5_pulse_39 (by decide) (fun c5 => ?_) (fun c5 => ?_)
          · have hf := tp hf c5
            refine lv_aload_n hx hb dX5_pulse_52 rfl (lv_at hl 0 rfl) ?_
            obtain ⟨q6, e7, hf⟩ := tbd hf
            refine kVv1 (As := []) (rest := []) hC (c_X5_remember (G := G) e7) kq2_88 kc_X5_remember (by decide) 0 (ci := 3) rfl rfl hP hK hD hE hS hA hl.1 (Nat.le_of_ble_eq_true rfl) ⟨Nat.zero_le _, Nat.zero_le _⟩ dX5_pulse_53 (fun u9 H locs hw hP hD hS => ?_)
            obtain rfl := hw
            have hP : va_P (gD G) vwCl (wAll G h0 a0 q6.1 a1 q6.2.1 ra rb q6.2.2.1 q6.2.2.2) H := hP
            have hD : va_D A (wAll G h0 a0 q6.1 a1 q6.2.1 ra rb q6.2.2.1 q6.2.2.2) := hD
            refine lv_aload_n hx hb dX5_pulse_56 rfl (lv_at hl 0 rfl) ?_
            refine va_get (D := gD G) (ci := 3) (v := .ref (a0 (20 + 0))) (C := RX5) (T := TX5) (N := 11) hx hb hg kl_X5 hown hK hP 0 rfl rfl 0 (by decide) (hg _ kq1_179) (fun _ h9 => h9) rfl dX5_pulse_57 ?_
            refine lv_iload_n hx hb dX5_pulse_60 rfl (lv_at hl 1 rfl) ?_
            refine lv_iload_n hx hb dX5_pulse_61 rfl (lv_at hl 2 rfl) ?_
            obtain ⟨q8, e9, hf⟩ := tbd hf
            refine kVpi (As := [.int x1, .int x2]) (rest := []) hC (c_X4_takePulse (G := G) e9) kq3_101 kc_X4_takePulse (by decide) 0 (ci := 2) rfl rfl hP hK hD hE hS hA (pR40 (i := 0) (by omega)) (fun v => qR40 (i := 0) (by omega) v.1 v.2) hl.1 (Nat.le_of_ble_eq_true rfl) ⟨Nat.zero_le _, Nat.zero_le _⟩ dX5_pulse_62 (fun r9 u9 H locs hw hP hD hS => ?_)
            obtain ⟨rfl, rfl⟩ := hw
            have hP : va_P (gD G) vwCl (wAll G h0 a0 q6.1 a1 q6.2.1 ra rb (va_up q6.2.2.1 0 q8.2.1) (va_up q6.2.2.2 0 q8.2.2)) H := hP
            have hD : va_D A (wAll G h0 a0 q6.1 a1 q6.2.1 ra rb (va_up q6.2.2.1 0 q8.2.1) (va_up q6.2.2.2 0 q8.2.2)) := hD
            have hf := Option.some.inj hf
            subst hf
            refine W.widen (k := 1) (n := 6) (Nat.zero_le _) (Nat.zero_le _) ?_
            refine vx_ret ?_
            exact e_i (wf := (fun v : Ob × Ob × (Nat → Ob) × (Nat → Ob) => (wAll G h0 a0 v.1 a1 v.2.1 ra rb v.2.2.1 v.2.2.2))) hx hb hr hlk (q6.1, (q6.2.1, ((va_up q6.2.2.1 0 q8.2.1), (va_up q6.2.2.2 0 q8.2.2)))) rfl hP hK hD hS dX5_pulse_65
          · have hf := tn hf c5
            have hf := Option.some.inj hf
            subst hf
            exact thS (wf := (fun v : Ob × Ob × (Nat → Ob) × (Nat → Ob) => (wAll G h0 a0 v.1 a1 v.2.1 ra rb v.2.2.1 v.2.2.2))) (E := "java/lang/IllegalArgumentException") (tx := "no such length of a pulse") (u0, (u1, (u2, u3))) hx hb hlf hml hlk htb hown hg (k := 1) rfl kq2_191 kq1_10 (by decide +kernel) atg_63 atn_63 ato_63 (by decide +kernel) hP hK hD hE hS hl.1 rfl (by decide) dX5_pulse_42 dX5_pulse_45 dX5_pulse_46 dX5_pulse_48 dX5_pulse_51
      · have hf := tn hf c3
        have hf := Option.some.inj hf
        subst hf
        exact thS (wf := (fun v : Ob × Ob × (Nat → Ob) × (Nat → Ob) => (wAll G h0 a0 v.1 a1 v.2.1 ra rb v.2.2.1 v.2.2.2))) (E := "java/lang/IllegalArgumentException") (tx := "no such time for a pulse") (u0, (u1, (u2, u3))) hx hb hlf hml hlk htb hown hg (k := 1) rfl kq2_191 kq1_10 (by decide +kernel) atg_63 atn_63 ato_63 (by decide +kernel) hP hK hD hE hS hl.1 rfl (by decide) dX5_pulse_21 dX5_pulse_24 dX5_pulse_25 dX5_pulse_27 dX5_pulse_30
set_option maxRecDepth 100000 in
set_option maxHeartbeats 4000000 in
theorem c_X5_hear {l : Launch} (hlf : l.stackTraces = false) {G : Gp} {sz N : Nat} {x1 : Int32} {x2 : Bool} {x3 : Int64} {h0 : Nat} {a0 a1 : Nat → Nat} {ra rb : Nat → Nat → Nat} {u0 u1 : Ob} {u2 u3 : Nat → Ob} {q : (Nat ⊕ Int32) × Ob × Ob × (Nat → Ob) × (Nat → Ob)} (hf : f_X5_hear N x1 x2 x3 u0 u1 u2 u3 = some q) : vx_Met l yX5_hear (Cond.code yX5_hear cX5_hear 5 (some .int) :: lw_g) ({ frames := 7, cells := 1, slots := 6, locals := 179 } : Room) (va_Pc [.ref h0, .int x1, .int (bI x2), .long x3] (pw G (wAll G h0 a0 u0 a1 u1 ra rb u2 u3) sz)) (va_Qi (fun (r : Int32) (v : Ob × Ob × (Nat → Ob) × (Nat → Ob)) => q = (.inr r, v)) (bw G (fun v : Ob × Ob × (Nat → Ob) × (Nat → Ob) => (wAll G h0 a0 v.1 a1 v.2.1 ra rb v.2.2.1 v.2.2.2)) (va_A (wAll G h0 a0 u0 a1 u1 ra rb u2 u3) sz)) (va_A (wAll G h0 a0 u0 a1 u1 ra rb u2 u3) sz)) (XQ (fun z : Nat × (Ob × Ob × (Nat → Ob) × (Nat → Ob)) => q = (.inl z.1, z.2)) G (fun v : Ob × Ob × (Nat → Ob) × (Nat → Ob) => (wAll G h0 a0 v.1 a1 v.2.1 ra rb v.2.2.1 v.2.2.2)) (va_A (wAll G h0 a0 u0 a1 u1 ra rb u2 u3) sz)) 1 6 (va_A (wAll G h0 a0 u0 a1 u1 ra rb u2 u3) sz) := by
  refine mtx (Qc := (fun A => va_Qi (fun (r : Int32) (v : Ob × Ob × (Nat → Ob) × (Nat → Ob)) => q = (.inr r, v)) (bw G (fun v : Ob × Ob × (Nat → Ob) × (Nat → Ob) => (wAll G h0 a0 v.1 a1 v.2.1 ra rb v.2.2.1 v.2.2.2)) A) A)) (XC := fun A => XQ (fun z : Nat × (Ob × Ob × (Nat → Ob) × (Nat → Ob)) => q = (.inl z.1, z.2)) G (fun v : Ob × Ob × (Nat → Ob) × (Nat → Ob) => (wAll G h0 a0 v.1 a1 v.2.1 ra rb v.2.2.1 v.2.2.2)) A) (by decide) (Nat.le_of_ble_eq_true rfl) ?_
  intro p e s m below meth c A ls hx hb hr hlk hml htb hts hown hA hP hK hD hE hS hl
  have hown : s.vm.findClass RX5 = some m.cls := hown
  have hg : ∀ w ∈ lw_g, w.before ([.ref h0, .int x1, .int (bI x2), .long x3] : List Value).toArray s = true := fun w h => hts w (List.mem_cons_of_mem _ h)
  have hC : CallFix p m c cX5_hear 5 s ([.ref h0, .int x1, .int (bI x2), .long x3] : List Value).toArray (Cond.code yX5_hear cX5_hear 5 (some .int) :: lw_g) RX5 := ⟨hx, hb, hml, hown, hts⟩
  have hl : lv_has ls 5 [(0, .ref h0), (1, .int x1), (2, .int (bI x2)), (3, .long x3)] := hl
  rw [f_X5_hear] at hf
  refine lv_iload_n hx hb dX5_hear_0 rfl (lv_at hl 1 rfl) ?_
  obtain ⟨q1, e2, hf⟩ := tbd hf
  refine kSi0 (As := [.int x1]) (rest := []) hC (c_X1_hasMinute (G := G) e2) kq3_204 kc_X1_hasMinute (by decide) hP hK hD hE hS hA hl.1 (Nat.le_of_ble_eq_true rfl) ⟨Nat.zero_le _, Nat.zero_le _⟩ dX5_hear_1 (fun r9 u9 H locs hw hP hD hS => ?_)
  obtain ⟨rfl, rfl⟩ := hw
  refine bz_ne (tgt := 17) hx hb dX5_hear_4 (by decide) (fun c3 => ?_) (fun c3 => ?_)
  · have hf := tp hf c3
    refine lv_aload_n hx hb dX5_hear_17 rfl (lv_at hl 0 rfl) ?_
    refine va_get (D := gD G) (ci := 3) (v := .ref (a0 (20 + 0))) (C := RX5) (T := TX5) (N := 11) hx hb hg kl_X5 hown hK hP 0 rfl rfl 0 (by decide) (hg _ kq1_179) (fun _ h9 => h9) rfl dX5_hear_18 ?_
    obtain ⟨q4, e5, hf⟩ := tbd hf
    refine kVpi (As := []) (rest := []) hC (c_X4_canHear (G := G) e5) kq4_11 kc_X4_canHear (by decide) 0 (ci := 2) rfl rfl hP hK hD hE hS hA (pR4 (i := 0) (by omega)) (qR4 (i := 0) (by omega)) hl.1 (Nat.le_of_ble_eq_true rfl) ⟨Nat.zero_le _, Nat.zero_le _⟩ dX5_hear_21 (fun r9 u9 H locs hw hP hD hS => ?_)
    obtain ⟨rfl, rfl⟩ := hw
    have hP : va_P (gD G) vwCl (wAll G h0 a0 u0 a1 u1 ra rb u2 u3) H := by simpa only [va_up_id, va_up_up] using hP
    have hD : va_D A (wAll G h0 a0 u0 a1 u1 ra rb u2 u3) := by simpa only [va_up_id, va_up_up] using hD
    refine bz_ne (tgt := 37) hx hb dX5_hear_24 (by decide) (fun c6 => ?_) (fun c6 => ?_)
    · have hf := tp hf c6
      refine lv_aload_n hx hb dX5_hear_37 rfl (lv_at hl 0 rfl) ?_
      obtain ⟨q7, e8, hf⟩ := tbd hf
      refine kVv1 (As := []) (rest := []) hC (c_X5_remember (G := G) e8) kq2_88 kc_X5_remember (by decide) 0 (ci := 3) rfl rfl hP hK hD hE hS hA hl.1 (Nat.le_of_ble_eq_true rfl) ⟨Nat.zero_le _, Nat.zero_le _⟩ dX5_hear_38 (fun u9 H locs hw hP hD hS => ?_)
      obtain rfl := hw
      have hP : va_P (gD G) vwCl (wAll G h0 a0 q7.1 a1 q7.2.1 ra rb q7.2.2.1 q7.2.2.2) H := hP
      have hD : va_D A (wAll G h0 a0 q7.1 a1 q7.2.1 ra rb q7.2.2.1 q7.2.2.2) := hD
      refine lv_aload_n hx hb dX5_hear_41 rfl (lv_at hl 0 rfl) ?_
      refine va_get (D := gD G) (ci := 3) (v := .ref (a0 (20 + 0))) (C := RX5) (T := TX5) (N := 11) hx hb hg kl_X5 hown hK hP 0 rfl rfl 0 (by decide) (hg _ kq1_179) (fun _ h9 => h9) rfl dX5_hear_42 ?_
      refine lv_iload_n hx hb dX5_hear_45 rfl (lv_at hl 1 rfl) ?_
      refine lv_iload_n hx hb dX5_hear_46 rfl (lv_at hl 2 rfl) ?_
      refine lv_lload_n hx hb dX5_hear_47 rfl (lv_at hl 3 rfl) ?_
      obtain ⟨q9, e10, hf⟩ := tbd hf
      refine kVpi (As := [.int x1, .int (bI x2), .long x3]) (rest := []) hC (c_X4_hearMinute (G := G) e10) kq3_156 kc_X4_hearMinute (by decide) 0 (ci := 2) rfl rfl hP hK hD hE hS hA (pR40 (i := 0) (by omega)) (fun v => qR40 (i := 0) (by omega) v.1 v.2) hl.1 (Nat.le_of_ble_eq_true rfl) ⟨Nat.zero_le _, Nat.zero_le _⟩ dX5_hear_48 (fun r9 u9 H locs hw hP hD hS => ?_)
      obtain ⟨rfl, rfl⟩ := hw
      have hP : va_P (gD G) vwCl (wAll G h0 a0 q7.1 a1 q7.2.1 ra rb (va_up q7.2.2.1 0 q9.2.1) (va_up q7.2.2.2 0 q9.2.2)) H := hP
      have hD : va_D A (wAll G h0 a0 q7.1 a1 q7.2.1 ra rb (va_up q7.2.2.1 0 q9.2.1) (va_up q7.2.2.2 0 q9.2.2)) := hD
      have hf := Option.some.inj hf
      subst hf
      refine W.widen (k := 1) (n := 6) (Nat.zero_le _) (Nat.zero_le _) ?_
      refine vx_ret ?_
      exact e_i (wf := (fun v : Ob × Ob × (Nat → Ob) × (Nat → Ob) => (wAll G h0 a0 v.1 a1 v.2.1 ra rb v.2.2.1 v.2.2.2))) hx hb hr hlk (q7.1, (q7.2.1, ((va_up q7.2.2.1 0 q9.2.1), (va_up q7.2.2.2 0 q9.2.2)))) rfl hP hK hD hS dX5_hear_51
    · have hf := tn hf c6
      have hf := Option.some.inj hf
      subst hf
      exact thS (wf := (fun v : Ob × Ob × (Nat → Ob) × (Nat → Ob) => (wAll G h0 a0 v.1 a1 v.2.1 ra rb v.2.2.1 v.2.2.2))) (E := "java/lang/IllegalStateException") (tx := "the minute would end too late") (u0, (u1, (u2, u3))) hx hb hlf hml hlk htb hown hg (k := 0) rfl kq2_111 kq1_9 (by decide +kernel) atg_52 atn_52 ato_52 (by decide +kernel) hP hK hD hE hS hl.1 rfl (by decide) dX5_hear_27 dX5_hear_30 dX5_hear_31 dX5_hear_33 dX5_hear_36
  · have hf := tn hf c3
    have hf := Option.some.inj hf
    subst hf
    exact thS (wf := (fun v : Ob × Ob × (Nat → Ob) × (Nat → Ob) => (wAll G h0 a0 v.1 a1 v.2.1 ra rb v.2.2.1 v.2.2.2))) (E := "java/lang/IllegalArgumentException") (tx := "no such minute") (u0, (u1, (u2, u3))) hx hb hlf hml hlk htb hown hg (k := 1) rfl kq2_191 kq1_10 (by decide +kernel) atg_63 atn_63 ato_63 (by decide +kernel) hP hK hD hE hS hl.1 rfl (by decide) dX5_hear_7 dX5_hear_10 dX5_hear_11 dX5_hear_13 dX5_hear_16
set_option maxRecDepth 100000 in
set_option maxHeartbeats 4000000 in
theorem c_X5_bit {l : Launch} (hlf : l.stackTraces = false) {G : Gp} {sz N : Nat} {x1 : Int32} {h0 : Nat} {a0 a1 : Nat → Nat} {ra rb : Nat → Nat → Nat} {u0 u1 : Ob} {u2 u3 : Nat → Ob} {q : (Nat ⊕ Int32) × Ob × Ob × (Nat → Ob) × (Nat → Ob)} (hf : f_X5_bit N x1 u0 u1 u2 u3 = some q) : vx_Met l yX5_bit (Cond.code yX5_bit cX5_bit 2 (some .int) :: lw_g) ({ frames := 6, cells := 1, slots := 6, locals := 90 } : Room) (va_Pc [.ref h0, .int x1] (pw G (wAll G h0 a0 u0 a1 u1 ra rb u2 u3) sz)) (va_Qi (fun (r : Int32) (v : Ob × Ob × (Nat → Ob) × (Nat → Ob)) => q = (.inr r, v)) (bw G (fun v : Ob × Ob × (Nat → Ob) × (Nat → Ob) => (wAll G h0 a0 v.1 a1 v.2.1 ra rb v.2.2.1 v.2.2.2)) (va_A (wAll G h0 a0 u0 a1 u1 ra rb u2 u3) sz)) (va_A (wAll G h0 a0 u0 a1 u1 ra rb u2 u3) sz)) (XQ (fun z : Nat × (Ob × Ob × (Nat → Ob) × (Nat → Ob)) => q = (.inl z.1, z.2)) G (fun v : Ob × Ob × (Nat → Ob) × (Nat → Ob) => (wAll G h0 a0 v.1 a1 v.2.1 ra rb v.2.2.1 v.2.2.2)) (va_A (wAll G h0 a0 u0 a1 u1 ra rb u2 u3) sz)) 1 6 (va_A (wAll G h0 a0 u0 a1 u1 ra rb u2 u3) sz) := by
  refine mtx (Qc := (fun A => va_Qi (fun (r : Int32) (v : Ob × Ob × (Nat → Ob) × (Nat → Ob)) => q = (.inr r, v)) (bw G (fun v : Ob × Ob × (Nat → Ob) × (Nat → Ob) => (wAll G h0 a0 v.1 a1 v.2.1 ra rb v.2.2.1 v.2.2.2)) A) A)) (XC := fun A => XQ (fun z : Nat × (Ob × Ob × (Nat → Ob) × (Nat → Ob)) => q = (.inl z.1, z.2)) G (fun v : Ob × Ob × (Nat → Ob) × (Nat → Ob) => (wAll G h0 a0 v.1 a1 v.2.1 ra rb v.2.2.1 v.2.2.2)) A) (by decide) (Nat.le_of_ble_eq_true rfl) ?_
  intro p e s m below meth c A ls hx hb hr hlk hml htb hts hown hA hP hK hD hE hS hl
  have hown : s.vm.findClass RX5 = some m.cls := hown
  have hg : ∀ w ∈ lw_g, w.before ([.ref h0, .int x1] : List Value).toArray s = true := fun w h => hts w (List.mem_cons_of_mem _ h)
  have hC : CallFix p m c cX5_bit 2 s ([.ref h0, .int x1] : List Value).toArray (Cond.code yX5_bit cX5_bit 2 (some .int) :: lw_g) RX5 := ⟨hx, hb, hml, hown, hts⟩
  have hl : lv_has ls 2 [(0, .ref h0), (1, .int x1)] := hl
  rw [f_X5_bit] at hf
  refine lv_iload_n hx hb dX5_bit_0 rfl (lv_at hl 1 rfl) ?_
  refine lv_if_lt (tgt := 21) hx hb dX5_bit_1 (by decide) (fun c1 => ?_) (fun c1 => ?_)
  · have hf := tp hf c1
    have hf := Option.some.inj hf
    subst hf
    exact thS (wf := (fun v : Ob × Ob × (Nat → Ob) × (Nat → Ob) => (wAll G h0 a0 v.1 a1 v.2.1 ra rb v.2.2.1 v.2.2.2))) (E := "java/lang/IndexOutOfBoundsException") (tx := "no such second in the present minute") (u0, (u1, (u2, u3))) hx hb hlf hml hlk htb hown hg (k := 2) rfl kq4_21 kq1_20 (by decide +kernel) atg_209 atn_209 ato_209 (by decide +kernel) hP hK hD hE hS hl.1 rfl (by decide) dX5_bit_21 dX5_bit_24 dX5_bit_25 dX5_bit_27 dX5_bit_30
  · have hf := tn hf c1
    refine lv_iload_n hx hb dX5_bit_4 rfl (lv_at hl 1 rfl) ?_
    refine lv_bipush (v := (58 : Int32)) hx hb dX5_bit_5 (by decide) ?_
    refine lv_icmp_gt (tgt := 21) hx hb dX5_bit_7 (by decide) (fun c2 => ?_) (fun c2 => ?_)
    · have hf := tp hf c2
      have hf := Option.some.inj hf
      subst hf
      exact thS (wf := (fun v : Ob × Ob × (Nat → Ob) × (Nat → Ob) => (wAll G h0 a0 v.1 a1 v.2.1 ra rb v.2.2.1 v.2.2.2))) (E := "java/lang/IndexOutOfBoundsException") (tx := "no such second in the present minute") (u0, (u1, (u2, u3))) hx hb hlf hml hlk htb hown hg (k := 2) rfl kq4_21 kq1_20 (by decide +kernel) atg_209 atn_209 ato_209 (by decide +kernel) hP hK hD hE hS hl.1 rfl (by decide) dX5_bit_21 dX5_bit_24 dX5_bit_25 dX5_bit_27 dX5_bit_30
    · have hf := tn hf c2
      refine lv_iload_n hx hb dX5_bit_10 rfl (lv_at hl 1 rfl) ?_
      refine lv_aload_n hx hb dX5_bit_11 rfl (lv_at hl 0 rfl) ?_
      refine va_get (D := gD G) (ci := 3) (v := .ref (a0 (20 + 0))) (C := RX5) (T := TX5) (N := 11) hx hb hg kl_X5 hown hK hP 0 rfl rfl 0 (by decide) (hg _ kq1_179) (fun _ h9 => h9) rfl dX5_bit_12 ?_
      refine va_get (D := gD G) (ci := 2) (v := .int ((u2 0).1 4)) (C := RX4) (T := TX4) (N := 18) hx hb hg kl_X4 hown hK hP 7 rfl rfl 4 (by decide) (hg _ kq1_62) (fun _ h9 => h9) rfl dX5_bit_15 ?_
      refine lv_icmp_le (tgt := 31) hx hb dX5_bit_18 (by decide) (fun c3 => ?_) (fun c3 => ?_)
      · have hf := tp hf c3
        refine lv_aload_n hx hb dX5_bit_31 rfl (lv_at hl 0 rfl) ?_
        refine va_get (D := gD G) (ci := 3) (v := .ref (a0 (20 + 0))) (C := RX5) (T := TX5) (N := 11) hx hb hg kl_X5 hown hK hP 0 rfl rfl 0 (by decide) (hg _ kq1_179) (fun _ h9 => h9) rfl dX5_bit_32 ?_
        refine va_get (D := gD G) (ci := 2) (v := .long ((u2 0).2.1 6)) (C := RX4) (T := TX4) (N := 18) hx hb hg kl_X4 hown hK hP 7 rfl rfl 6 (by decide) (hg _ kq1_66) (fun _ h9 => h9) rfl dX5_bit_35 ?_
        refine lv_aload_n hx hb dX5_bit_38 rfl (lv_at hl 0 rfl) ?_
        refine va_get (D := gD G) (ci := 3) (v := .ref (a0 (20 + 0))) (C := RX5) (T := TX5) (N := 11) hx hb hg kl_X5 hown hK hP 0 rfl rfl 0 (by decide) (hg _ kq1_179) (fun _ h9 => h9) rfl dX5_bit_39 ?_
        refine va_get (D := gD G) (ci := 2) (v := .long ((u2 0).2.1 7)) (C := RX4) (T := TX4) (N := 18) hx hb hg kl_X4 hown hK hP 7 rfl rfl 7 (by decide) (hg _ kq1_68) (fun _ h9 => h9) rfl dX5_bit_42 ?_
        refine lv_iload_n hx hb dX5_bit_45 rfl (lv_at hl 1 rfl) ?_
        obtain ⟨q4, e5, hf⟩ := tbd hf
        refine kSi0 (As := [.long ((u2 0).2.1 6), .long ((u2 0).2.1 7), .int x1]) (rest := []) hC (c_X2_bitOf (G := G) e5) kq4_37 kc_X2_bitOf (by decide) hP hK hD hE hS hA hl.1 (Nat.le_of_ble_eq_true rfl) ⟨Nat.zero_le _, Nat.zero_le _⟩ dX5_bit_46 (fun r9 u9 H locs hw hP hD hS => ?_)
        obtain ⟨rfl, rfl⟩ := hw
        have hf := Option.some.inj hf
        subst hf
        refine W.widen (k := 1) (n := 6) (Nat.zero_le _) (Nat.zero_le _) ?_
        refine vx_ret ?_
        exact e_i (wf := (fun v : Ob × Ob × (Nat → Ob) × (Nat → Ob) => (wAll G h0 a0 v.1 a1 v.2.1 ra rb v.2.2.1 v.2.2.2))) hx hb hr hlk (u0, (u1, (u2, u3))) rfl hP hK hD hS dX5_bit_49
      · have hf := tn hf c3
        have hf := Option.some.inj hf
        subst hf
        exact thS (wf := (fun v : Ob × Ob × (Nat → Ob) × (Nat → Ob) => (wAll G h0 a0 v.1 a1 v.2.1 ra rb v.2.2.1 v.2.2.2))) (E := "java/lang/IndexOutOfBoundsException") (tx := "no such second in the present minute") (u0, (u1, (u2, u3))) hx hb hlf hml hlk htb hown hg (k := 2) rfl kq4_21 kq1_20 (by decide +kernel) atg_209 atn_209 ato_209 (by decide +kernel) hP hK hD hE hS hl.1 rfl (by decide) dX5_bit_21 dX5_bit_24 dX5_bit_25 dX5_bit_27 dX5_bit_30
set_option maxRecDepth 100000 in
set_option maxHeartbeats 4000000 in
theorem c_X5_frame {l : Launch} (hlf : l.stackTraces = false) {G : Gp} {sz N : Nat} {x1 : Int32} {x2 : Int32} {h0 : Nat} {a0 a1 : Nat → Nat} {ra rb : Nat → Nat → Nat} {u0 u1 : Ob} {u2 u3 : Nat → Ob} {q : (Nat ⊕ Int32) × Ob × Ob × (Nat → Ob) × (Nat → Ob)} (hf : f_X5_frame N x1 x2 u0 u1 u2 u3 = some q) : vx_Met l yX5_frame (Cond.code yX5_frame cX5_frame 7 (some .int) :: lw_g) ({ frames := 6, cells := 1, slots := 6, locals := 90 } : Room) (va_Pc [.ref h0, .int x1, .int x2] (pw G (wAll G h0 a0 u0 a1 u1 ra rb u2 u3) sz)) (va_Qi (fun (r : Int32) (v : Ob × Ob × (Nat → Ob) × (Nat → Ob)) => q = (.inr r, v)) (bw G (fun v : Ob × Ob × (Nat → Ob) × (Nat → Ob) => (wAll G h0 a0 v.1 a1 v.2.1 ra rb v.2.2.1 v.2.2.2)) (va_A (wAll G h0 a0 u0 a1 u1 ra rb u2 u3) sz)) (va_A (wAll G h0 a0 u0 a1 u1 ra rb u2 u3) sz)) (XQ (fun z : Nat × (Ob × Ob × (Nat → Ob) × (Nat → Ob)) => q = (.inl z.1, z.2)) G (fun v : Ob × Ob × (Nat → Ob) × (Nat → Ob) => (wAll G h0 a0 v.1 a1 v.2.1 ra rb v.2.2.1 v.2.2.2)) (va_A (wAll G h0 a0 u0 a1 u1 ra rb u2 u3) sz)) 1 6 (va_A (wAll G h0 a0 u0 a1 u1 ra rb u2 u3) sz) := by
  refine mtx (Qc := (fun A => va_Qi (fun (r : Int32) (v : Ob × Ob × (Nat → Ob) × (Nat → Ob)) => q = (.inr r, v)) (bw G (fun v : Ob × Ob × (Nat → Ob) × (Nat → Ob) => (wAll G h0 a0 v.1 a1 v.2.1 ra rb v.2.2.1 v.2.2.2)) A) A)) (XC := fun A => XQ (fun z : Nat × (Ob × Ob × (Nat → Ob) × (Nat → Ob)) => q = (.inl z.1, z.2)) G (fun v : Ob × Ob × (Nat → Ob) × (Nat → Ob) => (wAll G h0 a0 v.1 a1 v.2.1 ra rb v.2.2.1 v.2.2.2)) A) (by decide) (Nat.le_of_ble_eq_true rfl) ?_
  intro p e s m below meth c A ls hx hb hr hlk hml htb hts hown hA hP hK hD hE hS hl
  have hown : s.vm.findClass RX5 = some m.cls := hown
  have hg : ∀ w ∈ lw_g, w.before ([.ref h0, .int x1, .int x2] : List Value).toArray s = true := fun w h => hts w (List.mem_cons_of_mem _ h)
  have hC : CallFix p m c cX5_frame 7 s ([.ref h0, .int x1, .int x2] : List Value).toArray (Cond.code yX5_frame cX5_frame 7 (some .int) :: lw_g) RX5 := ⟨hx, hb, hml, hown, hts⟩
  have hl : lv_has ls 7 [(0, .ref h0), (1, .int x1), (2, .int x2)] := hl
  rw [f_X5_frame] at hf
  refine lv_aload_n hx hb dX5_frame_0 rfl (lv_at hl 0 rfl) ?_
  refine va_get (D := gD G) (ci := 3) (v := .ref (a0 (20 + 0))) (C := RX5) (T := TX5) (N := 11) hx hb hg kl_X5 hown hK hP 0 rfl rfl 0 (by decide) (hg _ kq1_179) (fun _ h9 => h9) rfl dX5_frame_1 ?_
  refine lv_iload_n hx hb dX5_frame_4 rfl (lv_at hl 1 rfl) ?_
  obtain ⟨q1, e2, hf⟩ := tbd hf
  refine kVpi (As := [.int x1]) (rest := []) hC (c_X4_hasFrame (G := G) e2) kq4_47 kc_X4_hasFrame (by decide) 0 (ci := 2) rfl rfl hP hK hD hE hS hA (pR4 (i := 0) (by omega)) (qR4 (i := 0) (by omega)) hl.1 (Nat.le_of_ble_eq_true rfl) ⟨Nat.zero_le _, Nat.zero_le _⟩ dX5_frame_5 (fun r9 u9 H locs hw hP hD hS => ?_)
  obtain ⟨rfl, rfl⟩ := hw
  have hP : va_P (gD G) vwCl (wAll G h0 a0 u0 a1 u1 ra rb u2 u3) H := by simpa only [va_up_id, va_up_up] using hP
  have hD : va_D A (wAll G h0 a0 u0 a1 u1 ra rb u2 u3) := by simpa only [va_up_id, va_up_up] using hD
  refine bz_ne (tgt := 21) hx hb dX5_frame_8 (by decide) (fun c3 => ?_) (fun c3 => ?_)
  · have hf := tp hf c3
    refine lv_aload_n hx hb dX5_frame_21 rfl (lv_at hl 0 rfl) ?_
    refine va_get (D := gD G) (ci := 3) (v := .ref (a0 (20 + 0))) (C := RX5) (T := TX5) (N := 11) hx hb hg kl_X5 hown hK hP 0 rfl rfl 0 (by decide) (hg _ kq1_179) (fun _ h9 => h9) rfl dX5_frame_22 ?_
    refine va_get (D := gD G) (ci := 2) (v := .ref (ra 0 8)) (C := RX4) (T := TX4) (N := 18) hx hb hg kl_X4 hown hK hP 7 rfl rfl 8 (by decide) (hg _ kq1_70) (fun _ h9 => h9) rfl dX5_frame_25 ?_
    refine lv_iload_n hx hb dX5_frame_28 rfl (lv_at hl 1 rfl) ?_
    obtain ⟨b4, hf⟩ := tno hf
    refine va_lald (f := ((u2 0).2.2.2 8)) hx hb hK hP 9 2 rfl rfl b4 dX5_frame_29 ?_
    refine lv_lstore_n (lv' := [(3, .long (((u2 0).2.2.2 8) x1.toNatClampNeg)), (0, .ref h0), (1, .int x1), (2, .int x2)]) hx hb dX5_frame_30 rfl hl (by decide) rfl (fun ls hl => ?_)
    refine lv_aload_n hx hb dX5_frame_31 rfl (lv_at hl 1 rfl) ?_
    refine va_get (D := gD G) (ci := 3) (v := .ref (a0 (20 + 0))) (C := RX5) (T := TX5) (N := 11) hx hb hg kl_X5 hown hK hP 0 rfl rfl 0 (by decide) (hg _ kq1_179) (fun _ h9 => h9) rfl dX5_frame_32 ?_
    refine va_get (D := gD G) (ci := 2) (v := .ref (ra 0 9)) (C := RX4) (T := TX4) (N := 18) hx hb hg kl_X4 hown hK hP 7 rfl rfl 9 (by decide) (hg _ kq1_72) (fun _ h9 => h9) rfl dX5_frame_35 ?_
    refine lv_iload_n hx hb dX5_frame_38 rfl (lv_at hl 2 rfl) ?_
    obtain ⟨b5, hf⟩ := tno hf
    refine va_lald (f := ((u2 0).2.2.2 9)) hx hb hK hP 10 2 rfl rfl b5 dX5_frame_39 ?_
    refine lv_lstore (lv' := [(5, .long (((u2 0).2.2.2 9) x1.toNatClampNeg)), (3, .long (((u2 0).2.2.2 8) x1.toNatClampNeg)), (0, .ref h0), (1, .int x1), (2, .int x2)]) hx hb dX5_frame_40 hl (by decide) rfl (fun ls hl => ?_)
    refine lv_iload_n hx hb dX5_frame_42 rfl (lv_at hl 4 rfl) ?_
    by_cases c6 : x2 = (0 : Int32)
    · have hf := tp hf c6
      refine lv_tableIn (off := 29) (tgt := 72) hx hb dX5_frame_43 (by rw [c6]; decide) (by rw [c6]; decide) (by rw [c6]; rfl) (by decide) ?_
      refine lv_lload hx hb dX5_frame_72 (lv_at hl 0 rfl) ?_
      refine lv_ldc2 hx hb hown (hg _ kq4_52) dX5_frame_74 ?_
      refine lv_land hx hb dX5_frame_77 ?_
      obtain ⟨q7, e8, hf⟩ := tbd hf
      refine kSi0 (As := [.long ((((u2 0).2.2.2 9) x1.toNatClampNeg) &&& (576460752302899201 : Int64))]) (rest := []) hC (c_J13_bitCount_95d88 (G := G) e8) kq4_53 kc_J13_bitCount_95d88 (by decide) hP hK hD hE hS hA hl.1 (Nat.le_of_ble_eq_true rfl) ⟨Nat.zero_le _, Nat.zero_le _⟩ dX5_frame_78 (fun r9 u9 H locs hw hP hD hS => ?_)
      obtain ⟨rfl, rfl⟩ := hw
      have hf := Option.some.inj hf
      subst hf
      refine W.widen (k := 1) (n := 6) (Nat.zero_le _) (Nat.zero_le _) ?_
      refine vx_ret ?_
      exact e_i (wf := (fun v : Ob × Ob × (Nat → Ob) × (Nat → Ob) => (wAll G h0 a0 v.1 a1 v.2.1 ra rb v.2.2.1 v.2.2.2))) hx hb hr hlk (u0, (u1, (u2, u3))) rfl hP hK hD hS dX5_frame_81
    have hf := tn hf c6
    by_cases c9 : x2 = (1 : Int32)
    · have hf := tp hf c9
      refine lv_tableIn (off := 39) (tgt := 82) hx hb dX5_frame_43 (by rw [c9]; decide) (by rw [c9]; decide) (by rw [c9]; rfl) (by decide) ?_
      refine lv_lload_n hx hb dX5_frame_82 rfl (lv_at hl 1 rfl) ?_
      refine lv_lload hx hb dX5_frame_83 (lv_at hl 0 rfl) ?_
      obtain ⟨q10, e11, hf⟩ := tbd hf
      refine kSi0 (As := [.long (((u2 0).2.2.2 8) x1.toNatClampNeg), .long (((u2 0).2.2.2 9) x1.toNatClampNeg)]) (rest := []) hC (c_X2_faultOf (G := G) e11) kq4_54 kc_X2_faultOf (by decide) hP hK hD hE hS hA hl.1 (Nat.le_of_ble_eq_true rfl) ⟨Nat.zero_le _, Nat.zero_le _⟩ dX5_frame_85 (fun r9 u9 H locs hw hP hD hS => ?_)
      obtain ⟨rfl, rfl⟩ := hw
      have hf := Option.some.inj hf
      subst hf
      refine W.widen (k := 1) (n := 6) (Nat.zero_le _) (Nat.zero_le _) ?_
      refine vx_ret ?_
      exact e_i (wf := (fun v : Ob × Ob × (Nat → Ob) × (Nat → Ob) => (wAll G h0 a0 v.1 a1 v.2.1 ra rb v.2.2.1 v.2.2.2))) hx hb hr hlk (u0, (u1, (u2, u3))) rfl hP hK hD hS dX5_frame_88
    have hf := tn hf c9
    by_cases c12 : x2 = (2 : Int32)
    · have hf := tp hf c12
      refine lv_tableIn (off := 46) (tgt := 89) hx hb dX5_frame_43 (by rw [c12]; decide) (by rw [c12]; decide) (by rw [c12]; rfl) (by decide) ?_
      refine lv_aload_n hx hb dX5_frame_89 rfl (lv_at hl 2 rfl) ?_
      refine va_get (D := gD G) (ci := 3) (v := .ref (a0 (20 + 0))) (C := RX5) (T := TX5) (N := 11) hx hb hg kl_X5 hown hK hP 0 rfl rfl 0 (by decide) (hg _ kq1_179) (fun _ h9 => h9) rfl dX5_frame_90 ?_
      refine lv_iload_n hx hb dX5_frame_93 rfl (lv_at hl 3 rfl) ?_
      obtain ⟨q13, e14, hf⟩ := tbd hf
      refine kVpi (As := [.int x1]) (rest := []) hC (c_X4_minuteToldBy (G := G) e14) kq4_55 kc_X4_minuteToldBy (by decide) 0 (ci := 2) rfl rfl hP hK hD hE hS hA (pR4 (i := 0) (by omega)) (qR4 (i := 0) (by omega)) hl.1 (Nat.le_of_ble_eq_true rfl) ⟨Nat.zero_le _, Nat.zero_le _⟩ dX5_frame_94 (fun r9 u9 H locs hw hP hD hS => ?_)
      obtain ⟨rfl, rfl⟩ := hw
      have hP : va_P (gD G) vwCl (wAll G h0 a0 u0 a1 u1 ra rb u2 u3) H := by simpa only [va_up_id, va_up_up] using hP
      have hD : va_D A (wAll G h0 a0 u0 a1 u1 ra rb u2 u3) := by simpa only [va_up_id, va_up_up] using hD
      have hf := Option.some.inj hf
      subst hf
      refine W.widen (k := 1) (n := 6) (Nat.zero_le _) (Nat.zero_le _) ?_
      refine vx_ret ?_
      exact e_i (wf := (fun v : Ob × Ob × (Nat → Ob) × (Nat → Ob) => (wAll G h0 a0 v.1 a1 v.2.1 ra rb v.2.2.1 v.2.2.2))) hx hb hr hlk (u0, (u1, (u2, u3))) rfl hP hK hD hS dX5_frame_97
    have hf := tn hf c12
    by_cases c15 : x2 = (3 : Int32)
    · have hf := tp hf c15
      refine lv_tableIn (off := 55) (tgt := 98) hx hb dX5_frame_43 (by rw [c15]; decide) (by rw [c15]; decide) (by rw [c15]; rfl) (by decide) ?_
      refine lv_lload_n hx hb dX5_frame_98 rfl (lv_at hl 1 rfl) ?_
      refine lv_lload hx hb dX5_frame_99 (lv_at hl 0 rfl) ?_
      refine lv_bipush (v := (19 : Int32)) hx hb dX5_frame_101 (by decide) ?_
      obtain ⟨q16, e17, hf⟩ := tbd hf
      refine kSi0 (As := [.long (((u2 0).2.2.2 8) x1.toNatClampNeg), .long (((u2 0).2.2.2 9) x1.toNatClampNeg), .int (19 : Int32)]) (rest := []) hC (c_X2_bitOf (G := G) e17) kq4_37 kc_X2_bitOf (by decide) hP hK hD hE hS hA hl.1 (Nat.le_of_ble_eq_true rfl) ⟨Nat.zero_le _, Nat.zero_le _⟩ dX5_frame_103 (fun r9 u9 H locs hw hP hD hS => ?_)
      obtain ⟨rfl, rfl⟩ := hw
      have hf := Option.some.inj hf
      subst hf
      refine W.widen (k := 1) (n := 6) (Nat.zero_le _) (Nat.zero_le _) ?_
      refine vx_ret ?_
      exact e_i (wf := (fun v : Ob × Ob × (Nat → Ob) × (Nat → Ob) => (wAll G h0 a0 v.1 a1 v.2.1 ra rb v.2.2.1 v.2.2.2))) hx hb hr hlk (u0, (u1, (u2, u3))) rfl hP hK hD hS dX5_frame_106
    have hf := tn hf c15
    have tc6 := i32ne (z := 0) rfl c6
    have tc9 := i32ne (z := 1) rfl c9
    have tc12 := i32ne (z := 2) rfl c12
    have tc15 := i32ne (z := 3) rfl c15
    refine lv_tableOut (tgt := 107) hx hb dX5_frame_43 (by omega) (by decide) ?_
    have hf := Option.some.inj hf
    subst hf
    exact thS (wf := (fun v : Ob × Ob × (Nat → Ob) × (Nat → Ob) => (wAll G h0 a0 v.1 a1 v.2.1 ra rb v.2.2.1 v.2.2.2))) (E := "java/lang/IllegalArgumentException") (tx := "no such number of a frame") (u0, (u1, (u2, u3))) hx hb hlf hml hlk htb hown hg (k := 1) rfl kq2_191 kq1_10 (by decide +kernel) atg_63 atn_63 ato_63 (by decide +kernel) hP hK hD hE hS hl.1 rfl (by decide) dX5_frame_107 dX5_frame_110 dX5_frame_111 dX5_frame_113 dX5_frame_116
  · have hf := tn hf c3
    have hf := Option.some.inj hf
    subst hf
    exact thS (wf := (fun v : Ob × Ob × (Nat → Ob) × (Nat → Ob) => (wAll G h0 a0 v.1 a1 v.2.1 ra rb v.2.2.1 v.2.2.2))) (E := "java/lang/IndexOutOfBoundsException") (tx := "no such frame") (u0, (u1, (u2, u3))) hx hb hlf hml hlk htb hown hg (k := 2) rfl kq4_21 kq1_20 (by decide +kernel) atg_209 atn_209 ato_209 (by decide +kernel) hP hK hD hE hS hl.1 rfl (by decide) dX5_frame_11 dX5_frame_14 dX5_frame_15 dX5_frame_17 dX5_frame_20
set_option maxRecDepth 100000 in
set_option maxHeartbeats 4000000 in
theorem c_X5_frameBit {l : Launch} (hlf : l.stackTraces = false) {G : Gp} {sz N : Nat} {x1 : Int32} {x2 : Int32} {h0 : Nat} {a0 a1 : Nat → Nat} {ra rb : Nat → Nat → Nat} {u0 u1 : Ob} {u2 u3 : Nat → Ob} {q : (Nat ⊕ Int32) × Ob × Ob × (Nat → Ob) × (Nat → Ob)} (hf : f_X5_frameBit N x1 x2 u0 u1 u2 u3 = some q) : vx_Met l yX5_frameBit (Cond.code yX5_frameBit cX5_frameBit 3 (some .int) :: lw_g) ({ frames := 6, cells := 1, slots := 6, locals := 90 } : Room) (va_Pc [.ref h0, .int x1, .int x2] (pw G (wAll G h0 a0 u0 a1 u1 ra rb u2 u3) sz)) (va_Qi (fun (r : Int32) (v : Ob × Ob × (Nat → Ob) × (Nat → Ob)) => q = (.inr r, v)) (bw G (fun v : Ob × Ob × (Nat → Ob) × (Nat → Ob) => (wAll G h0 a0 v.1 a1 v.2.1 ra rb v.2.2.1 v.2.2.2)) (va_A (wAll G h0 a0 u0 a1 u1 ra rb u2 u3) sz)) (va_A (wAll G h0 a0 u0 a1 u1 ra rb u2 u3) sz)) (XQ (fun z : Nat × (Ob × Ob × (Nat → Ob) × (Nat → Ob)) => q = (.inl z.1, z.2)) G (fun v : Ob × Ob × (Nat → Ob) × (Nat → Ob) => (wAll G h0 a0 v.1 a1 v.2.1 ra rb v.2.2.1 v.2.2.2)) (va_A (wAll G h0 a0 u0 a1 u1 ra rb u2 u3) sz)) 1 6 (va_A (wAll G h0 a0 u0 a1 u1 ra rb u2 u3) sz) := by
  refine mtx (Qc := (fun A => va_Qi (fun (r : Int32) (v : Ob × Ob × (Nat → Ob) × (Nat → Ob)) => q = (.inr r, v)) (bw G (fun v : Ob × Ob × (Nat → Ob) × (Nat → Ob) => (wAll G h0 a0 v.1 a1 v.2.1 ra rb v.2.2.1 v.2.2.2)) A) A)) (XC := fun A => XQ (fun z : Nat × (Ob × Ob × (Nat → Ob) × (Nat → Ob)) => q = (.inl z.1, z.2)) G (fun v : Ob × Ob × (Nat → Ob) × (Nat → Ob) => (wAll G h0 a0 v.1 a1 v.2.1 ra rb v.2.2.1 v.2.2.2)) A) (by decide) (Nat.le_of_ble_eq_true rfl) ?_
  intro p e s m below meth c A ls hx hb hr hlk hml htb hts hown hA hP hK hD hE hS hl
  have hown : s.vm.findClass RX5 = some m.cls := hown
  have hg : ∀ w ∈ lw_g, w.before ([.ref h0, .int x1, .int x2] : List Value).toArray s = true := fun w h => hts w (List.mem_cons_of_mem _ h)
  have hC : CallFix p m c cX5_frameBit 3 s ([.ref h0, .int x1, .int x2] : List Value).toArray (Cond.code yX5_frameBit cX5_frameBit 3 (some .int) :: lw_g) RX5 := ⟨hx, hb, hml, hown, hts⟩
  have hl : lv_has ls 3 [(0, .ref h0), (1, .int x1), (2, .int x2)] := hl
  rw [f_X5_frameBit] at hf
  refine lv_aload_n hx hb dX5_frameBit_0 rfl (lv_at hl 0 rfl) ?_
  refine va_get (D := gD G) (ci := 3) (v := .ref (a0 (20 + 0))) (C := RX5) (T := TX5) (N := 11) hx hb hg kl_X5 hown hK hP 0 rfl rfl 0 (by decide) (hg _ kq1_179) (fun _ h9 => h9) rfl dX5_frameBit_1 ?_
  refine lv_iload_n hx hb dX5_frameBit_4 rfl (lv_at hl 1 rfl) ?_
  obtain ⟨q1, e2, hf⟩ := tbd hf
  refine kVpi (As := [.int x1]) (rest := []) hC (c_X4_hasFrame (G := G) e2) kq4_47 kc_X4_hasFrame (by decide) 0 (ci := 2) rfl rfl hP hK hD hE hS hA (pR4 (i := 0) (by omega)) (qR4 (i := 0) (by omega)) hl.1 (Nat.le_of_ble_eq_true rfl) ⟨Nat.zero_le _, Nat.zero_le _⟩ dX5_frameBit_5 (fun r9 u9 H locs hw hP hD hS => ?_)
  obtain ⟨rfl, rfl⟩ := hw
  have hP : va_P (gD G) vwCl (wAll G h0 a0 u0 a1 u1 ra rb u2 u3) H := by simpa only [va_up_id, va_up_up] using hP
  have hD : va_D A (wAll G h0 a0 u0 a1 u1 ra rb u2 u3) := by simpa only [va_up_id, va_up_up] using hD
  refine bz_ne (tgt := 21) hx hb dX5_frameBit_8 (by decide) (fun c3 => ?_) (fun c3 => ?_)
  · have hf := tp hf c3
    refine lv_iload_n hx hb dX5_frameBit_21 rfl (lv_at hl 2 rfl) ?_
    refine lv_if_lt (tgt := 31) hx hb dX5_frameBit_22 (by decide) (fun c4 => ?_) (fun c4 => ?_)
    · have hf := tp hf c4
      have hf := Option.some.inj hf
      subst hf
      exact thS (wf := (fun v : Ob × Ob × (Nat → Ob) × (Nat → Ob) => (wAll G h0 a0 v.1 a1 v.2.1 ra rb v.2.2.1 v.2.2.2))) (E := "java/lang/IndexOutOfBoundsException") (tx := "no such second in a frame") (u0, (u1, (u2, u3))) hx hb hlf hml hlk htb hown hg (k := 2) rfl kq4_21 kq1_20 (by decide +kernel) atg_209 atn_209 ato_209 (by decide +kernel) hP hK hD hE hS hl.1 rfl (by decide) dX5_frameBit_31 dX5_frameBit_34 dX5_frameBit_35 dX5_frameBit_37 dX5_frameBit_40
    · have hf := tn hf c4
      refine lv_iload_n hx hb dX5_frameBit_25 rfl (lv_at hl 2 rfl) ?_
      refine lv_bipush (v := (58 : Int32)) hx hb dX5_frameBit_26 (by decide) ?_
      refine lv_icmp_le (tgt := 41) hx hb dX5_frameBit_28 (by decide) (fun c5 => ?_) (fun c5 => ?_)
      · have hf := tp hf c5
        refine lv_aload_n hx hb dX5_frameBit_41 rfl (lv_at hl 0 rfl) ?_
        refine va_get (D := gD G) (ci := 3) (v := .ref (a0 (20 + 0))) (C := RX5) (T := TX5) (N := 11) hx hb hg kl_X5 hown hK hP 0 rfl rfl 0 (by decide) (hg _ kq1_179) (fun _ h9 => h9) rfl dX5_frameBit_42 ?_
        refine va_get (D := gD G) (ci := 2) (v := .ref (ra 0 8)) (C := RX4) (T := TX4) (N := 18) hx hb hg kl_X4 hown hK hP 7 rfl rfl 8 (by decide) (hg _ kq1_70) (fun _ h9 => h9) rfl dX5_frameBit_45 ?_
        refine lv_iload_n hx hb dX5_frameBit_48 rfl (lv_at hl 1 rfl) ?_
        obtain ⟨b6, hf⟩ := tno hf
        refine va_lald (f := ((u2 0).2.2.2 8)) hx hb hK hP 9 2 rfl rfl b6 dX5_frameBit_49 ?_
        refine lv_aload_n hx hb dX5_frameBit_50 rfl (lv_at hl 0 rfl) ?_
        refine va_get (D := gD G) (ci := 3) (v := .ref (a0 (20 + 0))) (C := RX5) (T := TX5) (N := 11) hx hb hg kl_X5 hown hK hP 0 rfl rfl 0 (by decide) (hg _ kq1_179) (fun _ h9 => h9) rfl dX5_frameBit_51 ?_
        refine va_get (D := gD G) (ci := 2) (v := .ref (ra 0 9)) (C := RX4) (T := TX4) (N := 18) hx hb hg kl_X4 hown hK hP 7 rfl rfl 9 (by decide) (hg _ kq1_72) (fun _ h9 => h9) rfl dX5_frameBit_54 ?_
        refine lv_iload_n hx hb dX5_frameBit_57 rfl (lv_at hl 1 rfl) ?_
        obtain ⟨b7, hf⟩ := tno hf
        refine va_lald (f := ((u2 0).2.2.2 9)) hx hb hK hP 10 2 rfl rfl b7 dX5_frameBit_58 ?_
        refine lv_iload_n hx hb dX5_frameBit_59 rfl (lv_at hl 2 rfl) ?_
        obtain ⟨q8, e9, hf⟩ := tbd hf
        refine kSi0 (As := [.long (((u2 0).2.2.2 8) x1.toNatClampNeg), .long (((u2 0).2.2.2 9) x1.toNatClampNeg), .int x2]) (rest := []) hC (c_X2_bitOf (G := G) e9) kq4_37 kc_X2_bitOf (by decide) hP hK hD hE hS hA hl.1 (Nat.le_of_ble_eq_true rfl) ⟨Nat.zero_le _, Nat.zero_le _⟩ dX5_frameBit_60 (fun r9 u9 H locs hw hP hD hS => ?_)
        obtain ⟨rfl, rfl⟩ := hw
        have hf := Option.some.inj hf
        subst hf
        refine W.widen (k := 1) (n := 6) (Nat.zero_le _) (Nat.zero_le _) ?_
        refine vx_ret ?_
        exact e_i (wf := (fun v : Ob × Ob × (Nat → Ob) × (Nat → Ob) => (wAll G h0 a0 v.1 a1 v.2.1 ra rb v.2.2.1 v.2.2.2))) hx hb hr hlk (u0, (u1, (u2, u3))) rfl hP hK hD hS dX5_frameBit_63
      · have hf := tn hf c5
        have hf := Option.some.inj hf
        subst hf
        exact thS (wf := (fun v : Ob × Ob × (Nat → Ob) × (Nat → Ob) => (wAll G h0 a0 v.1 a1 v.2.1 ra rb v.2.2.1 v.2.2.2))) (E := "java/lang/IndexOutOfBoundsException") (tx := "no such second in a frame") (u0, (u1, (u2, u3))) hx hb hlf hml hlk htb hown hg (k := 2) rfl kq4_21 kq1_20 (by decide +kernel) atg_209 atn_209 ato_209 (by decide +kernel) hP hK hD hE hS hl.1 rfl (by decide) dX5_frameBit_31 dX5_frameBit_34 dX5_frameBit_35 dX5_frameBit_37 dX5_frameBit_40
  · have hf := tn hf c3
    have hf := Option.some.inj hf
    subst hf
    exact thS (wf := (fun v : Ob × Ob × (Nat → Ob) × (Nat → Ob) => (wAll G h0 a0 v.1 a1 v.2.1 ra rb v.2.2.1 v.2.2.2))) (E := "java/lang/IndexOutOfBoundsException") (tx := "no such frame") (u0, (u1, (u2, u3))) hx hb hlf hml hlk htb hown hg (k := 2) rfl kq4_21 kq1_20 (by decide +kernel) atg_209 atn_209 ato_209 (by decide +kernel) hP hK hD hE hS hl.1 rfl (by decide) dX5_frameBit_11 dX5_frameBit_14 dX5_frameBit_15 dX5_frameBit_17 dX5_frameBit_20
set_option maxRecDepth 100000 in
set_option maxHeartbeats 4000000 in
theorem c_X5_votes {l : Launch} {G : Gp} {sz N : Nat} {x1 : Int32} {h0 : Nat} {a0 a1 : Nat → Nat} {ra rb : Nat → Nat → Nat} {u0 u1 : Ob} {u2 u3 : Nat → Ob} {q : Int32 × Ob × Ob × (Nat → Ob) × (Nat → Ob)} (hf : f_X5_votes N x1 u0 u1 u2 u3 = some q) : Met l yX5_votes (Cond.code yX5_votes cX5_votes 2 (some .int) :: lw_g) ({ frames := 4, cells := 0, slots := 0, locals := 85 } : Room) (va_Pc [.ref h0, .int x1] (pw G (wAll G h0 a0 u0 a1 u1 ra rb u2 u3) sz)) (va_Qi (fun (r : Int32) (v : Ob × Ob × (Nat → Ob) × (Nat → Ob)) => q.1 = r ∧ q.2 = v) (bw G (fun v : Ob × Ob × (Nat → Ob) × (Nat → Ob) => (wAll G h0 a0 v.1 a1 v.2.1 ra rb v.2.2.1 v.2.2.2)) (va_A (wAll G h0 a0 u0 a1 u1 ra rb u2 u3) sz)) (va_A (wAll G h0 a0 u0 a1 u1 ra rb u2 u3) sz)) 0 0 (va_A (wAll G h0 a0 u0 a1 u1 ra rb u2 u3) sz) := by
  refine mt (Qc := (fun A => va_Qi (fun (r : Int32) (v : Ob × Ob × (Nat → Ob) × (Nat → Ob)) => q.1 = r ∧ q.2 = v) (bw G (fun v : Ob × Ob × (Nat → Ob) × (Nat → Ob) => (wAll G h0 a0 v.1 a1 v.2.1 ra rb v.2.2.1 v.2.2.2)) A) A)) (by decide) (Nat.le_of_ble_eq_true rfl) ?_
  intro p e s m below meth c A ls hx hb hr hlk hml hts hown hA hP hK hD hE hS hl
  have hown : s.vm.findClass RX5 = some m.cls := hown
  have hg : ∀ w ∈ lw_g, w.before ([.ref h0, .int x1] : List Value).toArray s = true := fun w h => hts w (List.mem_cons_of_mem _ h)
  have hC : CallFix p m c cX5_votes 2 s ([.ref h0, .int x1] : List Value).toArray (Cond.code yX5_votes cX5_votes 2 (some .int) :: lw_g) RX5 := ⟨hx, hb, hml, hown, hts⟩
  have hl : lv_has ls 2 [(0, .ref h0), (1, .int x1)] := hl
  rw [f_X5_votes] at hf
  refine lv_aload_n hx hb dX5_votes_0 rfl (lv_at hl 0 rfl) ?_
  refine va_get (D := gD G) (ci := 3) (v := .ref (a0 (20 + 0))) (C := RX5) (T := TX5) (N := 11) hx hb hg kl_X5 hown hK hP 0 rfl rfl 0 (by decide) (hg _ kq1_179) (fun _ h9 => h9) rfl dX5_votes_1 ?_
  obtain ⟨q1, e2, hf⟩ := tbd hf
  refine kVpv (As := []) (rest := []) hC (c_X4_castVotes (G := G) e2) kq1_221 kc_X4_castVotes (by decide) 0 (ci := 2) rfl rfl hP hK hD hE hS hA (pR40 (i := 0) (by omega)) (fun v => qR40 (i := 0) (by omega) v.1 v.2) hl.1 (Nat.le_of_ble_eq_true rfl) ⟨Nat.zero_le _, Nat.zero_le _⟩ dX5_votes_4 (fun u9 H locs hw hP hD hS => ?_)
  obtain rfl := hw
  have hP : va_P (gD G) vwCl (wAll G h0 a0 u0 a1 u1 ra rb (va_up u2 0 q1.1) (va_up u3 0 q1.2)) H := hP
  have hD : va_D A (wAll G h0 a0 u0 a1 u1 ra rb (va_up u2 0 q1.1) (va_up u3 0 q1.2)) := hD
  refine lv_aload_n hx hb dX5_votes_7 rfl (lv_at hl 0 rfl) ?_
  refine va_get (D := gD G) (ci := 3) (v := .ref (a0 (20 + 0))) (C := RX5) (T := TX5) (N := 11) hx hb hg kl_X5 hown hK hP 0 rfl rfl 0 (by decide) (hg _ kq1_179) (fun _ h9 => h9) rfl dX5_votes_8 ?_
  refine va_get (D := gD G) (ci := 2) (v := .ref (ra 0 17)) (C := RX4) (T := TX4) (N := 18) hx hb hg kl_X4 hown hK hP 7 rfl rfl 17 (by decide) (hg _ kq1_87) (fun _ h9 => h9) rfl dX5_votes_11 ?_
  refine lv_iload_n hx hb dX5_votes_14 rfl (lv_at hl 1 rfl) ?_
  obtain ⟨q3, e4, hf⟩ := tbd hf
  refine kVpi (As := [.int x1]) (rest := []) hC (c_X0_votesFor (G := G) e4) kq2_8 kc_X0_votesFor (by decide) 0 (ci := 0) rfl rfl hP hK hD hE hS hA (pR0 (i := 0) (by omega)) (qR0 (i := 0) (by omega)) hl.1 (Nat.le_of_ble_eq_true rfl) ⟨Nat.zero_le _, Nat.zero_le _⟩ dX5_votes_15 (fun r9 u9 H locs hw hP hD hS => ?_)
  obtain ⟨rfl, rfl⟩ := hw
  have hP : va_P (gD G) vwCl (wAll G h0 a0 u0 a1 u1 ra rb (va_up u2 0 q1.1) (va_up u3 0 q1.2)) H := by simpa only [va_up_id, va_up_up] using hP
  have hD : va_D A (wAll G h0 a0 u0 a1 u1 ra rb (va_up u2 0 q1.1) (va_up u3 0 q1.2)) := by simpa only [va_up_id, va_up_up] using hD
  have hf := Option.some.inj hf
  subst hf
  exact e_i (wf := (fun v : Ob × Ob × (Nat → Ob) × (Nat → Ob) => (wAll G h0 a0 v.1 a1 v.2.1 ra rb v.2.2.1 v.2.2.2))) hx hb hr hlk (u0, (u1, ((va_up u2 0 q1.1), (va_up u3 0 q1.2)))) ⟨rfl, rfl⟩ hP hK hD hS dX5_votes_18
set_option maxRecDepth 100000 in
set_option maxHeartbeats 4000000 in
theorem c_X5_favourite {l : Launch} (hlf : l.stackTraces = false) {G : Gp} {sz N : Nat} {h0 : Nat} {a0 a1 : Nat → Nat} {ra rb : Nat → Nat → Nat} {u0 u1 : Ob} {u2 u3 : Nat → Ob} {q : (Nat ⊕ Int32) × Ob × Ob × (Nat → Ob) × (Nat → Ob)} (hf : f_X5_favourite N u0 u1 u2 u3 = some q) : vx_Met l yX5_favourite (Cond.code yX5_favourite cX5_favourite 2 (some .int) :: lw_g) ({ frames := 6, cells := 1, slots := 6, locals := 90 } : Room) (va_Pc [.ref h0] (pw G (wAll G h0 a0 u0 a1 u1 ra rb u2 u3) sz)) (va_Qi (fun (r : Int32) (v : Ob × Ob × (Nat → Ob) × (Nat → Ob)) => q = (.inr r, v)) (bw G (fun v : Ob × Ob × (Nat → Ob) × (Nat → Ob) => (wAll G h0 a0 v.1 a1 v.2.1 ra rb v.2.2.1 v.2.2.2)) (va_A (wAll G h0 a0 u0 a1 u1 ra rb u2 u3) sz)) (va_A (wAll G h0 a0 u0 a1 u1 ra rb u2 u3) sz)) (XQ (fun z : Nat × (Ob × Ob × (Nat → Ob) × (Nat → Ob)) => q = (.inl z.1, z.2)) G (fun v : Ob × Ob × (Nat → Ob) × (Nat → Ob) => (wAll G h0 a0 v.1 a1 v.2.1 ra rb v.2.2.1 v.2.2.2)) (va_A (wAll G h0 a0 u0 a1 u1 ra rb u2 u3) sz)) 1 6 (va_A (wAll G h0 a0 u0 a1 u1 ra rb u2 u3) sz) := by
  refine mtx (Qc := (fun A => va_Qi (fun (r : Int32) (v : Ob × Ob × (Nat → Ob) × (Nat → Ob)) => q = (.inr r, v)) (bw G (fun v : Ob × Ob × (Nat → Ob) × (Nat → Ob) => (wAll G h0 a0 v.1 a1 v.2.1 ra rb v.2.2.1 v.2.2.2)) A) A)) (XC := fun A => XQ (fun z : Nat × (Ob × Ob × (Nat → Ob) × (Nat → Ob)) => q = (.inl z.1, z.2)) G (fun v : Ob × Ob × (Nat → Ob) × (Nat → Ob) => (wAll G h0 a0 v.1 a1 v.2.1 ra rb v.2.2.1 v.2.2.2)) A) (by decide) (Nat.le_of_ble_eq_true rfl) ?_
  intro p e s m below meth c A ls hx hb hr hlk hml htb hts hown hA hP hK hD hE hS hl
  have hown : s.vm.findClass RX5 = some m.cls := hown
  have hg : ∀ w ∈ lw_g, w.before ([.ref h0] : List Value).toArray s = true := fun w h => hts w (List.mem_cons_of_mem _ h)
  have hC : CallFix p m c cX5_favourite 2 s ([.ref h0] : List Value).toArray (Cond.code yX5_favourite cX5_favourite 2 (some .int) :: lw_g) RX5 := ⟨hx, hb, hml, hown, hts⟩
  have hl : lv_has ls 2 [(0, .ref h0)] := hl
  rw [f_X5_favourite] at hf
  refine lv_aload_n hx hb dX5_favourite_0 rfl (lv_at hl 0 rfl) ?_
  refine va_get (D := gD G) (ci := 3) (v := .ref (a0 (20 + 0))) (C := RX5) (T := TX5) (N := 11) hx hb hg kl_X5 hown hK hP 0 rfl rfl 0 (by decide) (hg _ kq1_179) (fun _ h9 => h9) rfl dX5_favourite_1 ?_
  obtain ⟨q1, e2, hf⟩ := tbd hf
  refine kVpv (As := []) (rest := []) hC (c_X4_castVotes (G := G) e2) kq1_221 kc_X4_castVotes (by decide) 0 (ci := 2) rfl rfl hP hK hD hE hS hA (pR40 (i := 0) (by omega)) (fun v => qR40 (i := 0) (by omega) v.1 v.2) hl.1 (Nat.le_of_ble_eq_true rfl) ⟨Nat.zero_le _, Nat.zero_le _⟩ dX5_favourite_4 (fun u9 H locs hw hP hD hS => ?_)
  obtain rfl := hw
  have hP : va_P (gD G) vwCl (wAll G h0 a0 u0 a1 u1 ra rb (va_up u2 0 q1.1) (va_up u3 0 q1.2)) H := hP
  have hD : va_D A (wAll G h0 a0 u0 a1 u1 ra rb (va_up u2 0 q1.1) (va_up u3 0 q1.2)) := hD
  refine lv_aload_n hx hb dX5_favourite_7 rfl (lv_at hl 0 rfl) ?_
  refine va_get (D := gD G) (ci := 3) (v := .ref (a0 (20 + 0))) (C := RX5) (T := TX5) (N := 11) hx hb hg kl_X5 hown hK hP 0 rfl rfl 0 (by decide) (hg _ kq1_179) (fun _ h9 => h9) rfl dX5_favourite_8 ?_
  refine va_get (D := gD G) (ci := 2) (v := .ref (ra 0 17)) (C := RX4) (T := TX4) (N := 18) hx hb hg kl_X4 hown hK hP 7 rfl rfl 17 (by decide) (hg _ kq1_87) (fun _ h9 => h9) rfl dX5_favourite_11 ?_
  obtain ⟨q3, e4, hf⟩ := tbd hf
  refine kVpi (As := []) (rest := []) hC (c_X0_leader (G := G) e4) kq4_73 kc_X0_leader (by decide) 0 (ci := 0) rfl rfl hP hK hD hE hS hA (pR0 (i := 0) (by omega)) (qR0 (i := 0) (by omega)) hl.1 (Nat.le_of_ble_eq_true rfl) ⟨Nat.zero_le _, Nat.zero_le _⟩ dX5_favourite_14 (fun r9 u9 H locs hw hP hD hS => ?_)
  obtain ⟨rfl, rfl⟩ := hw
  have hP : va_P (gD G) vwCl (wAll G h0 a0 u0 a1 u1 ra rb (va_up u2 0 q1.1) (va_up u3 0 q1.2)) H := by simpa only [va_up_id, va_up_up] using hP
  have hD : va_D A (wAll G h0 a0 u0 a1 u1 ra rb (va_up u2 0 q1.1) (va_up u3 0 q1.2)) := by simpa only [va_up_id, va_up_up] using hD
  refine lv_istore_n (lv' := [(1, .int q3), (0, .ref h0)]) hx hb dX5_favourite_17 rfl hl (by decide) rfl (fun ls hl => ?_)
  refine lv_iload_n hx hb dX5_favourite_18 rfl (lv_at hl 0 rfl) ?_
  refine lv_iconst (v := (-1 : Int32)) hx hb dX5_favourite_19 (by decide) ?_
  refine lv_icmp_ne (tgt := 34) hx hb dX5_favourite_20 (by decide) (fun c5 => ?_) (fun c5 => ?_)
  · have hf := tn hf c5
    refine lv_iload_n hx hb dX5_favourite_34 rfl (lv_at hl 0 rfl) ?_
    have hf := Option.some.inj hf
    subst hf
    refine W.widen (k := 1) (n := 6) (Nat.zero_le _) (Nat.zero_le _) ?_
    refine vx_ret ?_
    exact e_i (wf := (fun v : Ob × Ob × (Nat → Ob) × (Nat → Ob) => (wAll G h0 a0 v.1 a1 v.2.1 ra rb v.2.2.1 v.2.2.2))) hx hb hr hlk (u0, (u1, ((va_up u2 0 q1.1), (va_up u3 0 q1.2)))) rfl hP hK hD hS dX5_favourite_35
  · have hf := tp hf c5
    have hf := Option.some.inj hf
    subst hf
    exact thN (wf := (fun v : Ob × Ob × (Nat → Ob) × (Nat → Ob) => (wAll G h0 a0 v.1 a1 v.2.1 ra rb v.2.2.1 v.2.2.2))) (tx := "there are no votes") (u0, (u1, ((va_up u2 0 q1.1), (va_up u3 0 q1.2)))) hx hb hlf hml hlk htb hown hg kq4_74 kq1_21 (by decide +kernel) hP hK hD hE hS hl.1 rfl (by decide) dX5_favourite_23 dX5_favourite_26 dX5_favourite_27 dX5_favourite_30 dX5_favourite_33
set_option maxRecDepth 100000 in
set_option maxHeartbeats 4000000 in
theorem c_X5_block {l : Launch} (hlf : l.stackTraces = false) {G : Gp} {sz N : Nat} {x1 : Int32} {x2 : Int32} {h0 : Nat} {a0 a1 : Nat → Nat} {ra rb : Nat → Nat → Nat} {u0 u1 : Ob} {u2 u3 : Nat → Ob} {q : (Nat ⊕ Int32) × Ob × Ob × (Nat → Ob) × (Nat → Ob)} (hf : f_X5_block N x1 x2 u0 u1 u2 u3 = some q) : vx_Met l yX5_block (Cond.code yX5_block cX5_block 3 (some .int) :: lw_g) ({ frames := 6, cells := 1, slots := 6, locals := 90 } : Room) (va_Pc [.ref h0, .int x1, .int x2] (pw G (wAll G h0 a0 u0 a1 u1 ra rb u2 u3) sz)) (va_Qi (fun (r : Int32) (v : Ob × Ob × (Nat → Ob) × (Nat → Ob)) => q = (.inr r, v)) (bw G (fun v : Ob × Ob × (Nat → Ob) × (Nat → Ob) => (wAll G h0 a0 v.1 a1 v.2.1 ra rb v.2.2.1 v.2.2.2)) (va_A (wAll G h0 a0 u0 a1 u1 ra rb u2 u3) sz)) (va_A (wAll G h0 a0 u0 a1 u1 ra rb u2 u3) sz)) (XQ (fun z : Nat × (Ob × Ob × (Nat → Ob) × (Nat → Ob)) => q = (.inl z.1, z.2)) G (fun v : Ob × Ob × (Nat → Ob) × (Nat → Ob) => (wAll G h0 a0 v.1 a1 v.2.1 ra rb v.2.2.1 v.2.2.2)) (va_A (wAll G h0 a0 u0 a1 u1 ra rb u2 u3) sz)) 1 6 (va_A (wAll G h0 a0 u0 a1 u1 ra rb u2 u3) sz) := by
  refine mtx (Qc := (fun A => va_Qi (fun (r : Int32) (v : Ob × Ob × (Nat → Ob) × (Nat → Ob)) => q = (.inr r, v)) (bw G (fun v : Ob × Ob × (Nat → Ob) × (Nat → Ob) => (wAll G h0 a0 v.1 a1 v.2.1 ra rb v.2.2.1 v.2.2.2)) A) A)) (XC := fun A => XQ (fun z : Nat × (Ob × Ob × (Nat → Ob) × (Nat → Ob)) => q = (.inl z.1, z.2)) G (fun v : Ob × Ob × (Nat → Ob) × (Nat → Ob) => (wAll G h0 a0 v.1 a1 v.2.1 ra rb v.2.2.1 v.2.2.2)) A) (by decide) (Nat.le_of_ble_eq_true rfl) ?_
  intro p e s m below meth c A ls hx hb hr hlk hml htb hts hown hA hP hK hD hE hS hl
  have hown : s.vm.findClass RX5 = some m.cls := hown
  have hg : ∀ w ∈ lw_g, w.before ([.ref h0, .int x1, .int x2] : List Value).toArray s = true := fun w h => hts w (List.mem_cons_of_mem _ h)
  have hC : CallFix p m c cX5_block 3 s ([.ref h0, .int x1, .int x2] : List Value).toArray (Cond.code yX5_block cX5_block 3 (some .int) :: lw_g) RX5 := ⟨hx, hb, hml, hown, hts⟩
  have hl : lv_has ls 3 [(0, .ref h0), (1, .int x1), (2, .int x2)] := hl
  rw [f_X5_block] at hf
  refine lv_aload_n hx hb dX5_block_0 rfl (lv_at hl 0 rfl) ?_
  refine va_get (D := gD G) (ci := 3) (v := .ref (a0 (20 + 0))) (C := RX5) (T := TX5) (N := 11) hx hb hg kl_X5 hown hK hP 0 rfl rfl 0 (by decide) (hg _ kq1_179) (fun _ h9 => h9) rfl dX5_block_1 ?_
  refine lv_iload_n hx hb dX5_block_4 rfl (lv_at hl 1 rfl) ?_
  obtain ⟨q1, e2, hf⟩ := tbd hf
  refine kVpi (As := [.int x1]) (rest := []) hC (c_X4_hasFrame (G := G) e2) kq4_47 kc_X4_hasFrame (by decide) 0 (ci := 2) rfl rfl hP hK hD hE hS hA (pR4 (i := 0) (by omega)) (qR4 (i := 0) (by omega)) hl.1 (Nat.le_of_ble_eq_true rfl) ⟨Nat.zero_le _, Nat.zero_le _⟩ dX5_block_5 (fun r9 u9 H locs hw hP hD hS => ?_)
  obtain ⟨rfl, rfl⟩ := hw
  have hP : va_P (gD G) vwCl (wAll G h0 a0 u0 a1 u1 ra rb u2 u3) H := by simpa only [va_up_id, va_up_up] using hP
  have hD : va_D A (wAll G h0 a0 u0 a1 u1 ra rb u2 u3) := by simpa only [va_up_id, va_up_up] using hD
  refine bz_ne (tgt := 21) hx hb dX5_block_8 (by decide) (fun c3 => ?_) (fun c3 => ?_)
  · have hf := tp hf c3
    refine lv_iload_n hx hb dX5_block_21 rfl (lv_at hl 2 rfl) ?_
    refine lv_if_lt (tgt := 30) hx hb dX5_block_22 (by decide) (fun c4 => ?_) (fun c4 => ?_)
    · have hf := tp hf c4
      have hf := Option.some.inj hf
      subst hf
      exact thW (wf := (fun v : Ob × Ob × (Nat → Ob) × (Nat → Ob) => (wAll G h0 a0 v.1 a1 v.2.1 ra rb v.2.2.1 v.2.2.2))) (E := "java/lang/IllegalArgumentException") (tx := "no such block") (u0, (u1, (u2, u3))) hx hb hlf hml hlk htb hown hg (k := 1) rfl kq2_191 kq1_10 (by decide +kernel) atg_63 atn_63 ato_63 (by decide +kernel) hP hK hD hE hS hl.1 rfl (by decide) dX5_block_30 dX5_block_33 dX5_block_34 dX5_block_37 dX5_block_40
    · have hf := tn hf c4
      refine lv_iload_n hx hb dX5_block_25 rfl (lv_at hl 2 rfl) ?_
      refine lv_iconst (v := (3 : Int32)) hx hb dX5_block_26 (by decide) ?_
      refine lv_icmp_lt (tgt := 41) hx hb dX5_block_27 (by decide) (fun c5 => ?_) (fun c5 => ?_)
      · have hf := tp hf c5
        refine lv_aload_n hx hb dX5_block_41 rfl (lv_at hl 0 rfl) ?_
        refine va_get (D := gD G) (ci := 3) (v := .ref (a0 (20 + 0))) (C := RX5) (T := TX5) (N := 11) hx hb hg kl_X5 hown hK hP 0 rfl rfl 0 (by decide) (hg _ kq1_179) (fun _ h9 => h9) rfl dX5_block_42 ?_
        refine va_get (D := gD G) (ci := 2) (v := .ref (ra 0 8)) (C := RX4) (T := TX4) (N := 18) hx hb hg kl_X4 hown hK hP 7 rfl rfl 8 (by decide) (hg _ kq1_70) (fun _ h9 => h9) rfl dX5_block_45 ?_
        refine lv_iload_n hx hb dX5_block_48 rfl (lv_at hl 1 rfl) ?_
        obtain ⟨b6, hf⟩ := tno hf
        refine va_lald (f := ((u2 0).2.2.2 8)) hx hb hK hP 9 2 rfl rfl b6 dX5_block_49 ?_
        refine lv_aload_n hx hb dX5_block_50 rfl (lv_at hl 0 rfl) ?_
        refine va_get (D := gD G) (ci := 3) (v := .ref (a0 (20 + 0))) (C := RX5) (T := TX5) (N := 11) hx hb hg kl_X5 hown hK hP 0 rfl rfl 0 (by decide) (hg _ kq1_179) (fun _ h9 => h9) rfl dX5_block_51 ?_
        refine va_get (D := gD G) (ci := 2) (v := .ref (ra 0 9)) (C := RX4) (T := TX4) (N := 18) hx hb hg kl_X4 hown hK hP 7 rfl rfl 9 (by decide) (hg _ kq1_72) (fun _ h9 => h9) rfl dX5_block_54 ?_
        refine lv_iload_n hx hb dX5_block_57 rfl (lv_at hl 1 rfl) ?_
        obtain ⟨b7, hf⟩ := tno hf
        refine va_lald (f := ((u2 0).2.2.2 9)) hx hb hK hP 10 2 rfl rfl b7 dX5_block_58 ?_
        refine lv_iload_n hx hb dX5_block_59 rfl (lv_at hl 2 rfl) ?_
        obtain ⟨q8, e9, hf⟩ := tbd hf
        refine kSi0 (As := [.long (((u2 0).2.2.2 8) x1.toNatClampNeg), .long (((u2 0).2.2.2 9) x1.toNatClampNeg), .int x2]) (rest := []) hC (c_X2_blockValue (G := G) e9) kq4_98 kc_X2_blockValue (by decide) hP hK hD hE hS hA hl.1 (Nat.le_of_ble_eq_true rfl) ⟨Nat.zero_le _, Nat.zero_le _⟩ dX5_block_60 (fun r9 u9 H locs hw hP hD hS => ?_)
        obtain ⟨rfl, rfl⟩ := hw
        have hf := Option.some.inj hf
        subst hf
        refine W.widen (k := 1) (n := 6) (Nat.zero_le _) (Nat.zero_le _) ?_
        refine vx_ret ?_
        exact e_i (wf := (fun v : Ob × Ob × (Nat → Ob) × (Nat → Ob) => (wAll G h0 a0 v.1 a1 v.2.1 ra rb v.2.2.1 v.2.2.2))) hx hb hr hlk (u0, (u1, (u2, u3))) rfl hP hK hD hS dX5_block_63
      · have hf := tn hf c5
        have hf := Option.some.inj hf
        subst hf
        exact thW (wf := (fun v : Ob × Ob × (Nat → Ob) × (Nat → Ob) => (wAll G h0 a0 v.1 a1 v.2.1 ra rb v.2.2.1 v.2.2.2))) (E := "java/lang/IllegalArgumentException") (tx := "no such block") (u0, (u1, (u2, u3))) hx hb hlf hml hlk htb hown hg (k := 1) rfl kq2_191 kq1_10 (by decide +kernel) atg_63 atn_63 ato_63 (by decide +kernel) hP hK hD hE hS hl.1 rfl (by decide) dX5_block_30 dX5_block_33 dX5_block_34 dX5_block_37 dX5_block_40
  · have hf := tn hf c3
    have hf := Option.some.inj hf
    subst hf
    exact thS (wf := (fun v : Ob × Ob × (Nat → Ob) × (Nat → Ob) => (wAll G h0 a0 v.1 a1 v.2.1 ra rb v.2.2.1 v.2.2.2))) (E := "java/lang/IndexOutOfBoundsException") (tx := "no such frame") (u0, (u1, (u2, u3))) hx hb hlf hml hlk htb hown hg (k := 2) rfl kq4_21 kq1_20 (by decide +kernel) atg_209 atn_209 ato_209 (by decide +kernel) hP hK hD hE hS hl.1 rfl (by decide) dX5_block_11 dX5_block_14 dX5_block_15 dX5_block_17 dX5_block_20
set_option maxRecDepth 100000 in
set_option maxHeartbeats 4000000 in
theorem c_X5_assembled {l : Launch} {G : Gp} {sz N : Nat} {h0 : Nat} {a0 a1 : Nat → Nat} {ra rb : Nat → Nat → Nat} {u0 u1 : Ob} {u2 u3 : Nat → Ob} {q : Int32 × Ob × Ob × (Nat → Ob) × (Nat → Ob)} (hf : f_X5_assembled N u0 u1 u2 u3 = some q) : Met l yX5_assembled (Cond.code yX5_assembled cX5_assembled 1 (some .int) :: lw_g) ({ frames := 5, cells := 0, slots := 0, locals := 119 } : Room) (va_Pc [.ref h0] (pw G (wAll G h0 a0 u0 a1 u1 ra rb u2 u3) sz)) (va_Qi (fun (r : Int32) (v : Ob × Ob × (Nat → Ob) × (Nat → Ob)) => q.1 = r ∧ q.2 = v) (bw G (fun v : Ob × Ob × (Nat → Ob) × (Nat → Ob) => (wAll G h0 a0 v.1 a1 v.2.1 ra rb v.2.2.1 v.2.2.2)) (va_A (wAll G h0 a0 u0 a1 u1 ra rb u2 u3) sz)) (va_A (wAll G h0 a0 u0 a1 u1 ra rb u2 u3) sz)) 0 0 (va_A (wAll G h0 a0 u0 a1 u1 ra rb u2 u3) sz) := by
  refine mt (Qc := (fun A => va_Qi (fun (r : Int32) (v : Ob × Ob × (Nat → Ob) × (Nat → Ob)) => q.1 = r ∧ q.2 = v) (bw G (fun v : Ob × Ob × (Nat → Ob) × (Nat → Ob) => (wAll G h0 a0 v.1 a1 v.2.1 ra rb v.2.2.1 v.2.2.2)) A) A)) (by decide) (Nat.le_of_ble_eq_true rfl) ?_
  intro p e s m below meth c A ls hx hb hr hlk hml hts hown hA hP hK hD hE hS hl
  have hown : s.vm.findClass RX5 = some m.cls := hown
  have hg : ∀ w ∈ lw_g, w.before ([.ref h0] : List Value).toArray s = true := fun w h => hts w (List.mem_cons_of_mem _ h)
  have hC : CallFix p m c cX5_assembled 1 s ([.ref h0] : List Value).toArray (Cond.code yX5_assembled cX5_assembled 1 (some .int) :: lw_g) RX5 := ⟨hx, hb, hml, hown, hts⟩
  have hl : lv_has ls 1 [(0, .ref h0)] := hl
  rw [f_X5_assembled] at hf
  refine lv_aload_n hx hb dX5_assembled_0 rfl (lv_at hl 0 rfl) ?_
  refine va_get (D := gD G) (ci := 3) (v := .ref (a0 (20 + 0))) (C := RX5) (T := TX5) (N := 11) hx hb hg kl_X5 hown hK hP 0 rfl rfl 0 (by decide) (hg _ kq1_179) (fun _ h9 => h9) rfl dX5_assembled_1 ?_
  obtain ⟨q1, e2, hf⟩ := tbd hf
  refine kVpi (As := []) (rest := []) hC (c_X4_assembledMinute (G := G) e2) kq2_16 kc_X4_assembledMinute (by decide) 0 (ci := 2) rfl rfl hP hK hD hE hS hA (pR40 (i := 0) (by omega)) (fun v => qR40 (i := 0) (by omega) v.1 v.2) hl.1 (Nat.le_of_ble_eq_true rfl) ⟨Nat.zero_le _, Nat.zero_le _⟩ dX5_assembled_4 (fun r9 u9 H locs hw hP hD hS => ?_)
  obtain ⟨rfl, rfl⟩ := hw
  have hP : va_P (gD G) vwCl (wAll G h0 a0 u0 a1 u1 ra rb (va_up u2 0 q1.2.1) (va_up u3 0 q1.2.2)) H := hP
  have hD : va_D A (wAll G h0 a0 u0 a1 u1 ra rb (va_up u2 0 q1.2.1) (va_up u3 0 q1.2.2)) := hD
  have hf := Option.some.inj hf
  subst hf
  exact e_i (wf := (fun v : Ob × Ob × (Nat → Ob) × (Nat → Ob) => (wAll G h0 a0 v.1 a1 v.2.1 ra rb v.2.2.1 v.2.2.2))) hx hb hr hlk (u0, (u1, ((va_up u2 0 q1.2.1), (va_up u3 0 q1.2.2)))) ⟨rfl, rfl⟩ hP hK hD hS dX5_assembled_7
set_option maxRecDepth 100000 in
set_option maxHeartbeats 4000000 in
theorem c_X5_dissenting {l : Launch} (hlf : l.stackTraces = false) {G : Gp} {sz N : Nat} {h0 : Nat} {a0 a1 : Nat → Nat} {ra rb : Nat → Nat → Nat} {u0 u1 : Ob} {u2 u3 : Nat → Ob} {q : (Nat ⊕ Int32) × Ob × Ob × (Nat → Ob) × (Nat → Ob)} (hf : f_X5_dissenting N u0 u1 u2 u3 = some q) : vx_Met l yX5_dissenting (Cond.code yX5_dissenting cX5_dissenting 2 (some .int) :: lw_g) ({ frames := 6, cells := 1, slots := 6, locals := 119 } : Room) (va_Pc [.ref h0] (pw G (wAll G h0 a0 u0 a1 u1 ra rb u2 u3) sz)) (va_Qi (fun (r : Int32) (v : Ob × Ob × (Nat → Ob) × (Nat → Ob)) => q = (.inr r, v)) (bw G (fun v : Ob × Ob × (Nat → Ob) × (Nat → Ob) => (wAll G h0 a0 v.1 a1 v.2.1 ra rb v.2.2.1 v.2.2.2)) (va_A (wAll G h0 a0 u0 a1 u1 ra rb u2 u3) sz)) (va_A (wAll G h0 a0 u0 a1 u1 ra rb u2 u3) sz)) (XQ (fun z : Nat × (Ob × Ob × (Nat → Ob) × (Nat → Ob)) => q = (.inl z.1, z.2)) G (fun v : Ob × Ob × (Nat → Ob) × (Nat → Ob) => (wAll G h0 a0 v.1 a1 v.2.1 ra rb v.2.2.1 v.2.2.2)) (va_A (wAll G h0 a0 u0 a1 u1 ra rb u2 u3) sz)) 1 6 (va_A (wAll G h0 a0 u0 a1 u1 ra rb u2 u3) sz) := by
  refine mtx (Qc := (fun A => va_Qi (fun (r : Int32) (v : Ob × Ob × (Nat → Ob) × (Nat → Ob)) => q = (.inr r, v)) (bw G (fun v : Ob × Ob × (Nat → Ob) × (Nat → Ob) => (wAll G h0 a0 v.1 a1 v.2.1 ra rb v.2.2.1 v.2.2.2)) A) A)) (XC := fun A => XQ (fun z : Nat × (Ob × Ob × (Nat → Ob) × (Nat → Ob)) => q = (.inl z.1, z.2)) G (fun v : Ob × Ob × (Nat → Ob) × (Nat → Ob) => (wAll G h0 a0 v.1 a1 v.2.1 ra rb v.2.2.1 v.2.2.2)) A) (by decide) (Nat.le_of_ble_eq_true rfl) ?_
  intro p e s m below meth c A ls hx hb hr hlk hml htb hts hown hA hP hK hD hE hS hl
  have hown : s.vm.findClass RX5 = some m.cls := hown
  have hg : ∀ w ∈ lw_g, w.before ([.ref h0] : List Value).toArray s = true := fun w h => hts w (List.mem_cons_of_mem _ h)
  have hC : CallFix p m c cX5_dissenting 2 s ([.ref h0] : List Value).toArray (Cond.code yX5_dissenting cX5_dissenting 2 (some .int) :: lw_g) RX5 := ⟨hx, hb, hml, hown, hts⟩
  have hl : lv_has ls 2 [(0, .ref h0)] := hl
  rw [f_X5_dissenting] at hf
  refine lv_aload_n hx hb dX5_dissenting_0 rfl (lv_at hl 0 rfl) ?_
  refine va_get (D := gD G) (ci := 3) (v := .ref (a0 (20 + 0))) (C := RX5) (T := TX5) (N := 11) hx hb hg kl_X5 hown hK hP 0 rfl rfl 0 (by decide) (hg _ kq1_179) (fun _ h9 => h9) rfl dX5_dissenting_1 ?_
  obtain ⟨q1, e2, hf⟩ := tbd hf
  refine kVpi (As := []) (rest := []) hC (c_X4_assembledMinute (G := G) e2) kq2_16 kc_X4_assembledMinute (by decide) 0 (ci := 2) rfl rfl hP hK hD hE hS hA (pR40 (i := 0) (by omega)) (fun v => qR40 (i := 0) (by omega) v.1 v.2) hl.1 (Nat.le_of_ble_eq_true rfl) ⟨Nat.zero_le _, Nat.zero_le _⟩ dX5_dissenting_4 (fun r9 u9 H locs hw hP hD hS => ?_)
  obtain ⟨rfl, rfl⟩ := hw
  have hP : va_P (gD G) vwCl (wAll G h0 a0 u0 a1 u1 ra rb (va_up u2 0 q1.2.1) (va_up u3 0 q1.2.2)) H := hP
  have hD : va_D A (wAll G h0 a0 u0 a1 u1 ra rb (va_up u2 0 q1.2.1) (va_up u3 0 q1.2.2)) := hD
  refine lv_istore_n (lv' := [(1, .int q1.1), (0, .ref h0)]) hx hb dX5_dissenting_7 rfl hl (by decide) rfl (fun ls hl => ?_)
  refine lv_iload_n hx hb dX5_dissenting_8 rfl (lv_at hl 0 rfl) ?_
  refine lv_iconst (v := (-1 : Int32)) hx hb dX5_dissenting_9 (by decide) ?_
  refine lv_icmp_ne (tgt := 24) hx hb dX5_dissenting_10 (by decide) (fun c3 => ?_) (fun c3 => ?_)
  · have hf := tn hf c3
    refine lv_aload_n hx hb dX5_dissenting_24 rfl (lv_at hl 1 rfl) ?_
    refine va_get (D := gD G) (ci := 3) (v := .ref (a0 (20 + 0))) (C := RX5) (T := TX5) (N := 11) hx hb hg kl_X5 hown hK hP 0 rfl rfl 0 (by decide) (hg _ kq1_179) (fun _ h9 => h9) rfl dX5_dissenting_25 ?_
    obtain ⟨q4, e5, hf⟩ := tbd hf
    refine kVpv (As := []) (rest := []) hC (c_X4_castVotes (G := G) e5) kq1_221 kc_X4_castVotes (by decide) 0 (ci := 2) rfl rfl hP hK hD hE hS hA (pR40 (i := 0) (by omega)) (fun v => qR40 (i := 0) (by omega) v.1 v.2) hl.1 (Nat.le_of_ble_eq_true rfl) ⟨Nat.zero_le _, Nat.zero_le _⟩ dX5_dissenting_28 (fun u9 H locs hw hP hD hS => ?_)
    obtain rfl := hw
    have hP : va_P (gD G) vwCl (wAll G h0 a0 u0 a1 u1 ra rb (va_up (va_up u2 0 q1.2.1) 0 q4.1) (va_up (va_up u3 0 q1.2.2) 0 q4.2)) H := hP
    have hD : va_D A (wAll G h0 a0 u0 a1 u1 ra rb (va_up (va_up u2 0 q1.2.1) 0 q4.1) (va_up (va_up u3 0 q1.2.2) 0 q4.2)) := hD
    refine lv_aload_n hx hb dX5_dissenting_31 rfl (lv_at hl 1 rfl) ?_
    refine va_get (D := gD G) (ci := 3) (v := .ref (a0 (20 + 0))) (C := RX5) (T := TX5) (N := 11) hx hb hg kl_X5 hown hK hP 0 rfl rfl 0 (by decide) (hg _ kq1_179) (fun _ h9 => h9) rfl dX5_dissenting_32 ?_
    refine va_get (D := gD G) (ci := 2) (v := .ref (ra 0 17)) (C := RX4) (T := TX4) (N := 18) hx hb hg kl_X4 hown hK hP 7 rfl rfl 17 (by decide) (hg _ kq1_87) (fun _ h9 => h9) rfl dX5_dissenting_35 ?_
    refine va_get (D := gD G) (ci := 0) (v := .int (q4.2.1 1)) (C := RX0) (T := TX0) (N := 2) hx hb hg kl_X0 hown hK hP 14 rfl rfl 1 (by decide) (hg _ kq1_44) (fun _ h9 => h9) rfl dX5_dissenting_38 ?_
    refine lv_aload_n hx hb dX5_dissenting_41 rfl (lv_at hl 1 rfl) ?_
    refine va_get (D := gD G) (ci := 3) (v := .ref (a0 (20 + 0))) (C := RX5) (T := TX5) (N := 11) hx hb hg kl_X5 hown hK hP 0 rfl rfl 0 (by decide) (hg _ kq1_179) (fun _ h9 => h9) rfl dX5_dissenting_42 ?_
    refine va_get (D := gD G) (ci := 2) (v := .ref (ra 0 17)) (C := RX4) (T := TX4) (N := 18) hx hb hg kl_X4 hown hK hP 7 rfl rfl 17 (by decide) (hg _ kq1_87) (fun _ h9 => h9) rfl dX5_dissenting_45 ?_
    refine lv_iload_n hx hb dX5_dissenting_48 rfl (lv_at hl 0 rfl) ?_
    obtain ⟨q6, e7, hf⟩ := tbd hf
    refine kVpi (As := [.int q1.1]) (rest := [.int (q4.2.1 1)]) hC (c_X0_votesFor (G := G) e7) kq2_8 kc_X0_votesFor (by decide) 0 (ci := 0) rfl rfl hP hK hD hE hS hA (pR0 (i := 0) (by omega)) (qR0 (i := 0) (by omega)) hl.1 (Nat.le_of_ble_eq_true rfl) ⟨Nat.zero_le _, Nat.zero_le _⟩ dX5_dissenting_49 (fun r9 u9 H locs hw hP hD hS => ?_)
    obtain ⟨rfl, rfl⟩ := hw
    have hP : va_P (gD G) vwCl (wAll G h0 a0 u0 a1 u1 ra rb (va_up (va_up u2 0 q1.2.1) 0 q4.1) (va_up (va_up u3 0 q1.2.2) 0 q4.2)) H := by simpa only [va_up_id, va_up_up] using hP
    have hD : va_D A (wAll G h0 a0 u0 a1 u1 ra rb (va_up (va_up u2 0 q1.2.1) 0 q4.1) (va_up (va_up u3 0 q1.2.2) 0 q4.2)) := by simpa only [va_up_id, va_up_up] using hD
    refine lv_isub hx hb dX5_dissenting_52 ?_
    have hf := Option.some.inj hf
    subst hf
    refine W.widen (k := 1) (n := 6) (Nat.zero_le _) (Nat.zero_le _) ?_
    refine vx_ret ?_
    exact e_i (wf := (fun v : Ob × Ob × (Nat → Ob) × (Nat → Ob) => (wAll G h0 a0 v.1 a1 v.2.1 ra rb v.2.2.1 v.2.2.2))) hx hb hr hlk (u0, (u1, ((va_up (va_up u2 0 q1.2.1) 0 q4.1), (va_up (va_up u3 0 q1.2.2) 0 q4.2)))) rfl hP hK hD hS dX5_dissenting_53
  · have hf := tp hf c3
    have hf := Option.some.inj hf
    subst hf
    exact thN (wf := (fun v : Ob × Ob × (Nat → Ob) × (Nat → Ob) => (wAll G h0 a0 v.1 a1 v.2.1 ra rb v.2.2.1 v.2.2.2))) (tx := "no time can be assembled") (u0, (u1, ((va_up u2 0 q1.2.1), (va_up u3 0 q1.2.2)))) hx hb hlf hml hlk htb hown hg kq4_74 kq1_21 (by decide +kernel) hP hK hD hE hS hl.1 rfl (by decide) dX5_dissenting_13 dX5_dissenting_16 dX5_dissenting_17 dX5_dissenting_20 dX5_dissenting_23
set_option maxRecDepth 100000 in
set_option maxHeartbeats 4000000 in
theorem c_X5_weakest {l : Launch} {G : Gp} {sz N : Nat} {h0 : Nat} {a0 a1 : Nat → Nat} {ra rb : Nat → Nat → Nat} {u0 u1 : Ob} {u2 u3 : Nat → Ob} {q : Int32} (hf : f_X5_weakest N u0 u1 u2 u3 = some q) : Met l yX5_weakest (Cond.code yX5_weakest cX5_weakest 1 (some .int) :: lw_g) ({ frames := 2, cells := 0, slots := 0, locals := 39 } : Room) (va_Pc [.ref h0] (pw G (wAll G h0 a0 u0 a1 u1 ra rb u2 u3) sz)) (va_Qi (fun (r : Int32) (v : Ob × Ob × (Nat → Ob) × (Nat → Ob)) => q = r ∧ (u0, (u1, (u2, u3))) = v) (bw G (fun v : Ob × Ob × (Nat → Ob) × (Nat → Ob) => (wAll G h0 a0 v.1 a1 v.2.1 ra rb v.2.2.1 v.2.2.2)) (va_A (wAll G h0 a0 u0 a1 u1 ra rb u2 u3) sz)) (va_A (wAll G h0 a0 u0 a1 u1 ra rb u2 u3) sz)) 0 0 (va_A (wAll G h0 a0 u0 a1 u1 ra rb u2 u3) sz) := by
  refine mt (Qc := (fun A => va_Qi (fun (r : Int32) (v : Ob × Ob × (Nat → Ob) × (Nat → Ob)) => q = r ∧ (u0, (u1, (u2, u3))) = v) (bw G (fun v : Ob × Ob × (Nat → Ob) × (Nat → Ob) => (wAll G h0 a0 v.1 a1 v.2.1 ra rb v.2.2.1 v.2.2.2)) A) A)) (by decide) (Nat.le_of_ble_eq_true rfl) ?_
  intro p e s m below meth c A ls hx hb hr hlk hml hts hown hA hP hK hD hE hS hl
  have hown : s.vm.findClass RX5 = some m.cls := hown
  have hg : ∀ w ∈ lw_g, w.before ([.ref h0] : List Value).toArray s = true := fun w h => hts w (List.mem_cons_of_mem _ h)
  have hC : CallFix p m c cX5_weakest 1 s ([.ref h0] : List Value).toArray (Cond.code yX5_weakest cX5_weakest 1 (some .int) :: lw_g) RX5 := ⟨hx, hb, hml, hown, hts⟩
  have hl : lv_has ls 1 [(0, .ref h0)] := hl
  rw [f_X5_weakest] at hf
  refine lv_aload_n hx hb dX5_weakest_0 rfl (lv_at hl 0 rfl) ?_
  refine va_get (D := gD G) (ci := 3) (v := .ref (a0 (20 + 0))) (C := RX5) (T := TX5) (N := 11) hx hb hg kl_X5 hown hK hP 0 rfl rfl 0 (by decide) (hg _ kq1_179) (fun _ h9 => h9) rfl dX5_weakest_1 ?_
  obtain ⟨q1, e2, hf⟩ := tbd hf
  refine kVpi (As := []) (rest := []) hC (c_X4_mostDoubtsOfABit (G := G) e2) kq2_77 kc_X4_mostDoubtsOfABit (by decide) 0 (ci := 2) rfl rfl hP hK hD hE hS hA (pR4 (i := 0) (by omega)) (qR4 (i := 0) (by omega)) hl.1 (Nat.le_of_ble_eq_true rfl) ⟨Nat.zero_le _, Nat.zero_le _⟩ dX5_weakest_4 (fun r9 u9 H locs hw hP hD hS => ?_)
  obtain ⟨rfl, rfl⟩ := hw
  have hP : va_P (gD G) vwCl (wAll G h0 a0 u0 a1 u1 ra rb u2 u3) H := by simpa only [va_up_id, va_up_up] using hP
  have hD : va_D A (wAll G h0 a0 u0 a1 u1 ra rb u2 u3) := by simpa only [va_up_id, va_up_up] using hD
  have hf := Option.some.inj hf
  subst hf
  exact e_i (wf := (fun v : Ob × Ob × (Nat → Ob) × (Nat → Ob) => (wAll G h0 a0 v.1 a1 v.2.1 ra rb v.2.2.1 v.2.2.2))) hx hb hr hlk (u0, (u1, (u2, u3))) ⟨rfl, rfl⟩ hP hK hD hS dX5_weakest_7
set_option maxRecDepth 100000 in
set_option maxHeartbeats 4000000 in
theorem c_X5_fix {l : Launch} (hlf : l.stackTraces = false) {G : Gp} {sz N : Nat} {x1 : Int32} {x2 : Int32} {h0 : Nat} {a0 a1 : Nat → Nat} {ra rb : Nat → Nat → Nat} {u0 u1 : Ob} {u2 u3 : Nat → Ob} {q : (Nat ⊕ Int32) × Ob × Ob × (Nat → Ob) × (Nat → Ob)} (hf : f_X5_fix N x1 x2 u0 u1 u2 u3 = some q) : vx_Met l yX5_fix (Cond.code yX5_fix cX5_fix 3 (some .int) :: lw_g) ({ frames := 6, cells := 1, slots := 6, locals := 90 } : Room) (va_Pc [.ref h0, .int x1, .int x2] (pw G (wAll G h0 a0 u0 a1 u1 ra rb u2 u3) sz)) (va_Qi (fun (r : Int32) (v : Ob × Ob × (Nat → Ob) × (Nat → Ob)) => q = (.inr r, v)) (bw G (fun v : Ob × Ob × (Nat → Ob) × (Nat → Ob) => (wAll G h0 a0 v.1 a1 v.2.1 ra rb v.2.2.1 v.2.2.2)) (va_A (wAll G h0 a0 u0 a1 u1 ra rb u2 u3) sz)) (va_A (wAll G h0 a0 u0 a1 u1 ra rb u2 u3) sz)) (XQ (fun z : Nat × (Ob × Ob × (Nat → Ob) × (Nat → Ob)) => q = (.inl z.1, z.2)) G (fun v : Ob × Ob × (Nat → Ob) × (Nat → Ob) => (wAll G h0 a0 v.1 a1 v.2.1 ra rb v.2.2.1 v.2.2.2)) (va_A (wAll G h0 a0 u0 a1 u1 ra rb u2 u3) sz)) 1 6 (va_A (wAll G h0 a0 u0 a1 u1 ra rb u2 u3) sz) := by
  refine mtx (Qc := (fun A => va_Qi (fun (r : Int32) (v : Ob × Ob × (Nat → Ob) × (Nat → Ob)) => q = (.inr r, v)) (bw G (fun v : Ob × Ob × (Nat → Ob) × (Nat → Ob) => (wAll G h0 a0 v.1 a1 v.2.1 ra rb v.2.2.1 v.2.2.2)) A) A)) (XC := fun A => XQ (fun z : Nat × (Ob × Ob × (Nat → Ob) × (Nat → Ob)) => q = (.inl z.1, z.2)) G (fun v : Ob × Ob × (Nat → Ob) × (Nat → Ob) => (wAll G h0 a0 v.1 a1 v.2.1 ra rb v.2.2.1 v.2.2.2)) A) (by decide) (Nat.le_of_ble_eq_true rfl) ?_
  intro p e s m below meth c A ls hx hb hr hlk hml htb hts hown hA hP hK hD hE hS hl
  have hown : s.vm.findClass RX5 = some m.cls := hown
  have hg : ∀ w ∈ lw_g, w.before ([.ref h0, .int x1, .int x2] : List Value).toArray s = true := fun w h => hts w (List.mem_cons_of_mem _ h)
  have hC : CallFix p m c cX5_fix 3 s ([.ref h0, .int x1, .int x2] : List Value).toArray (Cond.code yX5_fix cX5_fix 3 (some .int) :: lw_g) RX5 := ⟨hx, hb, hml, hown, hts⟩
  have hl : lv_has ls 3 [(0, .ref h0), (1, .int x1), (2, .int x2)] := hl
  rw [f_X5_fix] at hf
  refine lv_iload_n hx hb dX5_fix_0 rfl (lv_at hl 1 rfl) ?_
  refine lv_if_lt (tgt := 21) hx hb dX5_fix_1 (by decide) (fun c1 => ?_) (fun c1 => ?_)
  · have hf := tp hf c1
    have hf := Option.some.inj hf
    subst hf
    exact thW (wf := (fun v : Ob × Ob × (Nat → Ob) × (Nat → Ob) => (wAll G h0 a0 v.1 a1 v.2.1 ra rb v.2.2.1 v.2.2.2))) (E := "java/lang/IndexOutOfBoundsException") (tx := "no such fix") (u0, (u1, (u2, u3))) hx hb hlf hml hlk htb hown hg (k := 2) rfl kq4_21 kq1_20 (by decide +kernel) atg_209 atn_209 ato_209 (by decide +kernel) hP hK hD hE hS hl.1 rfl (by decide) dX5_fix_21 dX5_fix_24 dX5_fix_25 dX5_fix_28 dX5_fix_31
  · have hf := tn hf c1
    refine lv_iload_n hx hb dX5_fix_4 rfl (lv_at hl 1 rfl) ?_
    refine lv_aload_n hx hb dX5_fix_5 rfl (lv_at hl 0 rfl) ?_
    refine va_get (D := gD G) (ci := 3) (v := .ref (a0 (20 + 0))) (C := RX5) (T := TX5) (N := 11) hx hb hg kl_X5 hown hK hP 0 rfl rfl 0 (by decide) (hg _ kq1_179) (fun _ h9 => h9) rfl dX5_fix_6 ?_
    refine va_get (D := gD G) (ci := 2) (v := .int ((u2 0).1 16)) (C := RX4) (T := TX4) (N := 18) hx hb hg kl_X4 hown hK hP 7 rfl rfl 16 (by decide) (hg _ kq1_85) (fun _ h9 => h9) rfl dX5_fix_9 ?_
    refine lv_icmp_ge (tgt := 21) hx hb dX5_fix_12 (by decide) (fun c2 => ?_) (fun c2 => ?_)
    · have hf := tp hf c2
      have hf := Option.some.inj hf
      subst hf
      exact thW (wf := (fun v : Ob × Ob × (Nat → Ob) × (Nat → Ob) => (wAll G h0 a0 v.1 a1 v.2.1 ra rb v.2.2.1 v.2.2.2))) (E := "java/lang/IndexOutOfBoundsException") (tx := "no such fix") (u0, (u1, (u2, u3))) hx hb hlf hml hlk htb hown hg (k := 2) rfl kq4_21 kq1_20 (by decide +kernel) atg_209 atn_209 ato_209 (by decide +kernel) hP hK hD hE hS hl.1 rfl (by decide) dX5_fix_21 dX5_fix_24 dX5_fix_25 dX5_fix_28 dX5_fix_31
    · have hf := tn hf c2
      refine lv_iload_n hx hb dX5_fix_15 rfl (lv_at hl 1 rfl) ?_
      refine lv_bipush (v := (8 : Int32)) hx hb dX5_fix_16 (by decide) ?_
      refine lv_icmp_lt (tgt := 32) hx hb dX5_fix_18 (by decide) (fun c3 => ?_) (fun c3 => ?_)
      · have hf := tp hf c3
        refine lv_iload_n hx hb dX5_fix_32 rfl (lv_at hl 2 rfl) ?_
        refine lv_if_ne (tgt := 46) hx hb dX5_fix_33 (by decide) (fun c4 => ?_) (fun c4 => ?_)
        · have hf := tn hf c4
          refine lv_iload_n hx hb dX5_fix_46 rfl (lv_at hl 2 rfl) ?_
          refine lv_iconst (v := (1 : Int32)) hx hb dX5_fix_47 (by decide) ?_
          refine lv_icmp_ne (tgt := 61) hx hb dX5_fix_48 (by decide) (fun c5 => ?_) (fun c5 => ?_)
          · have hf := tn hf c5
            have hf := Option.some.inj hf
            subst hf
            exact thW (wf := (fun v : Ob × Ob × (Nat → Ob) × (Nat → Ob) => (wAll G h0 a0 v.1 a1 v.2.1 ra rb v.2.2.1 v.2.2.2))) (E := "java/lang/IllegalArgumentException") (tx := "no such part of a fix") (u0, (u1, (u2, u3))) hx hb hlf hml hlk htb hown hg (k := 1) rfl kq2_191 kq1_10 (by decide +kernel) atg_63 atn_63 ato_63 (by decide +kernel) hP hK hD hE hS hl.1 rfl (by decide) dX5_fix_61 dX5_fix_64 dX5_fix_65 dX5_fix_68 dX5_fix_71
          · have hf := tp hf c5
            refine lv_aload_n hx hb dX5_fix_51 rfl (lv_at hl 0 rfl) ?_
            refine va_get (D := gD G) (ci := 3) (v := .ref (a0 (20 + 0))) (C := RX5) (T := TX5) (N := 11) hx hb hg kl_X5 hown hK hP 0 rfl rfl 0 (by decide) (hg _ kq1_179) (fun _ h9 => h9) rfl dX5_fix_52 ?_
            refine va_get (D := gD G) (ci := 2) (v := .ref (ra 0 15)) (C := RX4) (T := TX4) (N := 18) hx hb hg kl_X4 hown hK hP 7 rfl rfl 15 (by decide) (hg _ kq1_83) (fun _ h9 => h9) rfl dX5_fix_55 ?_
            refine lv_iload_n hx hb dX5_fix_58 rfl (lv_at hl 1 rfl) ?_
            obtain ⟨b6, hf⟩ := tno hf
            refine va_iald (f := ((u2 0).2.2.1 15)) hx hb hK hP 13 1 rfl rfl b6 dX5_fix_59 ?_
            have hf := Option.some.inj hf
            subst hf
            refine W.widen (k := 1) (n := 6) (Nat.zero_le _) (Nat.zero_le _) ?_
            refine vx_ret ?_
            exact e_i (wf := (fun v : Ob × Ob × (Nat → Ob) × (Nat → Ob) => (wAll G h0 a0 v.1 a1 v.2.1 ra rb v.2.2.1 v.2.2.2))) hx hb hr hlk (u0, (u1, (u2, u3))) rfl hP hK hD hS dX5_fix_60
        · have hf := tp hf c4
          refine lv_aload_n hx hb dX5_fix_36 rfl (lv_at hl 0 rfl) ?_
          refine va_get (D := gD G) (ci := 3) (v := .ref (a0 (20 + 0))) (C := RX5) (T := TX5) (N := 11) hx hb hg kl_X5 hown hK hP 0 rfl rfl 0 (by decide) (hg _ kq1_179) (fun _ h9 => h9) rfl dX5_fix_37 ?_
          refine va_get (D := gD G) (ci := 2) (v := .ref (ra 0 14)) (C := RX4) (T := TX4) (N := 18) hx hb hg kl_X4 hown hK hP 7 rfl rfl 14 (by decide) (hg _ kq1_81) (fun _ h9 => h9) rfl dX5_fix_40 ?_
          refine lv_iload_n hx hb dX5_fix_43 rfl (lv_at hl 1 rfl) ?_
          obtain ⟨b7, hf⟩ := tno hf
          refine va_iald (f := ((u2 0).2.2.1 14)) hx hb hK hP 12 1 rfl rfl b7 dX5_fix_44 ?_
          have hf := Option.some.inj hf
          subst hf
          refine W.widen (k := 1) (n := 6) (Nat.zero_le _) (Nat.zero_le _) ?_
          refine vx_ret ?_
          exact e_i (wf := (fun v : Ob × Ob × (Nat → Ob) × (Nat → Ob) => (wAll G h0 a0 v.1 a1 v.2.1 ra rb v.2.2.1 v.2.2.2))) hx hb hr hlk (u0, (u1, (u2, u3))) rfl hP hK hD hS dX5_fix_45
      · have hf := tn hf c3
        have hf := Option.some.inj hf
        subst hf
        exact thW (wf := (fun v : Ob × Ob × (Nat → Ob) × (Nat → Ob) => (wAll G h0 a0 v.1 a1 v.2.1 ra rb v.2.2.1 v.2.2.2))) (E := "java/lang/IndexOutOfBoundsException") (tx := "no such fix") (u0, (u1, (u2, u3))) hx hb hlf hml hlk htb hown hg (k := 2) rfl kq4_21 kq1_20 (by decide +kernel) atg_209 atn_209 ato_209 (by decide +kernel) hP hK hD hE hS hl.1 rfl (by decide) dX5_fix_21 dX5_fix_24 dX5_fix_25 dX5_fix_28 dX5_fix_31
set_option maxRecDepth 100000 in
set_option maxHeartbeats 4000000 in
theorem c_X5_clock {l : Launch} (hlf : l.stackTraces = false) {G : Gp} {sz N : Nat} {x1 : Int32} {h0 : Nat} {a0 a1 : Nat → Nat} {ra rb : Nat → Nat → Nat} {u0 u1 : Ob} {u2 u3 : Nat → Ob} {q : (Nat ⊕ Int64) × Ob × Ob × (Nat → Ob) × (Nat → Ob)} (hf : f_X5_clock N x1 u0 u1 u2 u3 = some q) : vx_Met l yX5_clock (Cond.code yX5_clock cX5_clock 6 (some .long) :: lw_g) ({ frames := 6, cells := 1, slots := 6, locals := 90 } : Room) (va_Pc [.ref h0, .int x1] (pw G (wAll G h0 a0 u0 a1 u1 ra rb u2 u3) sz)) (va_Ql (fun (r : Int64) (v : Ob × Ob × (Nat → Ob) × (Nat → Ob)) => q = (.inr r, v)) (bw G (fun v : Ob × Ob × (Nat → Ob) × (Nat → Ob) => (wAll G h0 a0 v.1 a1 v.2.1 ra rb v.2.2.1 v.2.2.2)) (va_A (wAll G h0 a0 u0 a1 u1 ra rb u2 u3) sz)) (va_A (wAll G h0 a0 u0 a1 u1 ra rb u2 u3) sz)) (XQ (fun z : Nat × (Ob × Ob × (Nat → Ob) × (Nat → Ob)) => q = (.inl z.1, z.2)) G (fun v : Ob × Ob × (Nat → Ob) × (Nat → Ob) => (wAll G h0 a0 v.1 a1 v.2.1 ra rb v.2.2.1 v.2.2.2)) (va_A (wAll G h0 a0 u0 a1 u1 ra rb u2 u3) sz)) 1 6 (va_A (wAll G h0 a0 u0 a1 u1 ra rb u2 u3) sz) := by
  refine mtx (Qc := (fun A => va_Ql (fun (r : Int64) (v : Ob × Ob × (Nat → Ob) × (Nat → Ob)) => q = (.inr r, v)) (bw G (fun v : Ob × Ob × (Nat → Ob) × (Nat → Ob) => (wAll G h0 a0 v.1 a1 v.2.1 ra rb v.2.2.1 v.2.2.2)) A) A)) (XC := fun A => XQ (fun z : Nat × (Ob × Ob × (Nat → Ob) × (Nat → Ob)) => q = (.inl z.1, z.2)) G (fun v : Ob × Ob × (Nat → Ob) × (Nat → Ob) => (wAll G h0 a0 v.1 a1 v.2.1 ra rb v.2.2.1 v.2.2.2)) A) (by decide) (Nat.le_of_ble_eq_true rfl) ?_
  intro p e s m below meth c A ls hx hb hr hlk hml htb hts hown hA hP hK hD hE hS hl
  have hown : s.vm.findClass RX5 = some m.cls := hown
  have hg : ∀ w ∈ lw_g, w.before ([.ref h0, .int x1] : List Value).toArray s = true := fun w h => hts w (List.mem_cons_of_mem _ h)
  have hC : CallFix p m c cX5_clock 6 s ([.ref h0, .int x1] : List Value).toArray (Cond.code yX5_clock cX5_clock 6 (some .long) :: lw_g) RX5 := ⟨hx, hb, hml, hown, hts⟩
  have hl : lv_has ls 6 [(0, .ref h0), (1, .int x1)] := hl
  rw [f_X5_clock] at hf
  refine lv_iload_n hx hb dX5_clock_0 rfl (lv_at hl 1 rfl) ?_
  refine lv_if_lt (tgt := 10) hx hb dX5_clock_1 (by decide) (fun c1 => ?_) (fun c1 => ?_)
  · have hf := tp hf c1
    have hf := Option.some.inj hf
    subst hf
    exact thW (wf := (fun v : Ob × Ob × (Nat → Ob) × (Nat → Ob) => (wAll G h0 a0 v.1 a1 v.2.1 ra rb v.2.2.1 v.2.2.2))) (E := "java/lang/IllegalArgumentException") (tx := "no such time") (u0, (u1, (u2, u3))) hx hb hlf hml hlk htb hown hg (k := 1) rfl kq2_191 kq1_10 (by decide +kernel) atg_63 atn_63 ato_63 (by decide +kernel) hP hK hD hE hS hl.1 rfl (by decide) dX5_clock_10 dX5_clock_13 dX5_clock_14 dX5_clock_17 dX5_clock_20
  · have hf := tn hf c1
    refine lv_iload_n hx hb dX5_clock_4 rfl (lv_at hl 1 rfl) ?_
    refine lv_ldc hx hb hown (hg _ kq4_1) dX5_clock_5 ?_
    refine lv_icmp_le (tgt := 21) hx hb dX5_clock_7 (by decide) (fun c2 => ?_) (fun c2 => ?_)
    · have hf := tp hf c2
      refine lv_aload_n hx hb dX5_clock_21 rfl (lv_at hl 0 rfl) ?_
      refine va_get (D := gD G) (ci := 3) (v := .ref (a0 (20 + 0))) (C := RX5) (T := TX5) (N := 11) hx hb hg kl_X5 hown hK hP 0 rfl rfl 0 (by decide) (hg _ kq1_179) (fun _ h9 => h9) rfl dX5_clock_22 ?_
      refine va_get (D := gD G) (ci := 2) (v := .int ((u2 0).1 16)) (C := RX4) (T := TX4) (N := 18) hx hb hg kl_X4 hown hK hP 7 rfl rfl 16 (by decide) (hg _ kq1_85) (fun _ h9 => h9) rfl dX5_clock_25 ?_
      refine lv_if_eq (tgt := 44) hx hb dX5_clock_28 (by decide) (fun c3 => ?_) (fun c3 => ?_)
      · have hf := tp hf c3
        have hf := Option.some.inj hf
        subst hf
        exact thN (wf := (fun v : Ob × Ob × (Nat → Ob) × (Nat → Ob) => (wAll G h0 a0 v.1 a1 v.2.1 ra rb v.2.2.1 v.2.2.2))) (tx := "no fix by that time") (u0, (u1, (u2, u3))) hx hb hlf hml hlk htb hown hg kq4_74 kq1_21 (by decide +kernel) hP hK hD hE hS hl.1 rfl (by decide) dX5_clock_44 dX5_clock_47 dX5_clock_48 dX5_clock_51 dX5_clock_54
      · have hf := tn hf c3
        refine lv_aload_n hx hb dX5_clock_31 rfl (lv_at hl 0 rfl) ?_
        refine va_get (D := gD G) (ci := 3) (v := .ref (a0 (20 + 0))) (C := RX5) (T := TX5) (N := 11) hx hb hg kl_X5 hown hK hP 0 rfl rfl 0 (by decide) (hg _ kq1_179) (fun _ h9 => h9) rfl dX5_clock_32 ?_
        refine va_get (D := gD G) (ci := 2) (v := .ref (ra 0 15)) (C := RX4) (T := TX4) (N := 18) hx hb hg kl_X4 hown hK hP 7 rfl rfl 15 (by decide) (hg _ kq1_83) (fun _ h9 => h9) rfl dX5_clock_35 ?_
        refine lv_iconst (v := (0 : Int32)) hx hb dX5_clock_38 (by decide) ?_
        refine va_iald (f := ((u2 0).2.2.1 15)) hx hb hK hP 13 1 rfl rfl (vin (by decide)) dX5_clock_39 ?_
        refine lv_iload_n hx hb dX5_clock_40 rfl (lv_at hl 1 rfl) ?_
        refine lv_icmp_le (tgt := 55) hx hb dX5_clock_41 (by decide) (fun c4 => ?_) (fun c4 => ?_)
        · have hf := tp hf c4
          refine lv_iload_n hx hb dX5_clock_55 rfl (lv_at hl 1 rfl) ?_
          refine lv_i2l (v := x1.toInt64) hx hb dX5_clock_56 rfl ?_
          refine lv_aload_n hx hb dX5_clock_57 rfl (lv_at hl 0 rfl) ?_
          refine va_get (D := gD G) (ci := 3) (v := .ref (a0 (20 + 0))) (C := RX5) (T := TX5) (N := 11) hx hb hg kl_X5 hown hK hP 0 rfl rfl 0 (by decide) (hg _ kq1_179) (fun _ h9 => h9) rfl dX5_clock_58 ?_
          refine va_get (D := gD G) (ci := 2) (v := .ref (ra 0 15)) (C := RX4) (T := TX4) (N := 18) hx hb hg kl_X4 hown hK hP 7 rfl rfl 15 (by decide) (hg _ kq1_83) (fun _ h9 => h9) rfl dX5_clock_61 ?_
          refine lv_iconst (v := (0 : Int32)) hx hb dX5_clock_64 (by decide) ?_
          refine va_iald (f := ((u2 0).2.2.1 15)) hx hb hK hP 13 1 rfl rfl (vin (by decide)) dX5_clock_65 ?_
          refine lv_i2l (v := (((u2 0).2.2.1 15) (0 : Int32).toNatClampNeg).toInt64) hx hb dX5_clock_66 rfl ?_
          refine lv_lsub hx hb dX5_clock_67 ?_
          refine lv_lstore_n (lv' := [(2, .long (x1.toInt64 - (((u2 0).2.2.1 15) (0 : Int32).toNatClampNeg).toInt64)), (0, .ref h0), (1, .int x1)]) hx hb dX5_clock_68 rfl hl (by decide) rfl (fun ls hl => ?_)
          refine lv_lload_n hx hb dX5_clock_69 rfl (lv_at hl 0 rfl) ?_
          refine lv_aload_n hx hb dX5_clock_70 rfl (lv_at hl 1 rfl) ?_
          refine va_get (D := gD G) (ci := 3) (v := .ref (a0 (20 + 0))) (C := RX5) (T := TX5) (N := 11) hx hb hg kl_X5 hown hK hP 0 rfl rfl 0 (by decide) (hg _ kq1_179) (fun _ h9 => h9) rfl dX5_clock_71 ?_
          refine va_get (D := gD G) (ci := 2) (v := .ref (ra 0 0)) (C := RX4) (T := TX4) (N := 18) hx hb hg kl_X4 hown hK hP 7 rfl rfl 0 (by decide) (hg _ kq1_53) (fun _ h9 => h9) rfl dX5_clock_74 ?_
          refine lv_iconst (v := (4 : Int32)) hx hb dX5_clock_77 (by decide) ?_
          refine va_iald (f := ((u2 0).2.2.1 0)) hx hb hK hP 8 1 rfl rfl (vin (by decide)) dX5_clock_78 ?_
          refine lv_i2l (v := (((u2 0).2.2.1 0) (4 : Int32).toNatClampNeg).toInt64) hx hb dX5_clock_79 rfl ?_
          refine lv_lmul hx hb dX5_clock_80 ?_
          refine lv_ldc2 hx hb hown (hg _ kq4_125) dX5_clock_81 ?_
          refine lv_ldiv hx hb dX5_clock_84 (by decide) ?_
          refine lv_lstore (lv' := [(4, .long (((x1.toInt64 - (((u2 0).2.2.1 15) (0 : Int32).toNatClampNeg).toInt64) * (((u2 0).2.2.1 0) (4 : Int32).toNatClampNeg).toInt64) / (1000000 : Int64))), (2, .long (x1.toInt64 - (((u2 0).2.2.1 15) (0 : Int32).toNatClampNeg).toInt64)), (0, .ref h0), (1, .int x1)]) hx hb dX5_clock_85 hl (by decide) rfl (fun ls hl => ?_)
          refine lv_ldc2 hx hb hown (hg _ kq4_126) dX5_clock_87 ?_
          refine lv_aload_n hx hb dX5_clock_90 rfl (lv_at hl 2 rfl) ?_
          refine va_get (D := gD G) (ci := 3) (v := .ref (a0 (20 + 0))) (C := RX5) (T := TX5) (N := 11) hx hb hg kl_X5 hown hK hP 0 rfl rfl 0 (by decide) (hg _ kq1_179) (fun _ h9 => h9) rfl dX5_clock_91 ?_
          refine va_get (D := gD G) (ci := 2) (v := .ref (ra 0 14)) (C := RX4) (T := TX4) (N := 18) hx hb hg kl_X4 hown hK hP 7 rfl rfl 14 (by decide) (hg _ kq1_81) (fun _ h9 => h9) rfl dX5_clock_94 ?_
          refine lv_iconst (v := (0 : Int32)) hx hb dX5_clock_97 (by decide) ?_
          refine va_iald (f := ((u2 0).2.2.1 14)) hx hb hK hP 12 1 rfl rfl (vin (by decide)) dX5_clock_98 ?_
          refine lv_i2l (v := (((u2 0).2.2.1 14) (0 : Int32).toNatClampNeg).toInt64) hx hb dX5_clock_99 rfl ?_
          refine lv_lmul hx hb dX5_clock_100 ?_
          refine lv_lload_n hx hb dX5_clock_101 rfl (lv_at hl 1 rfl) ?_
          refine lv_ladd hx hb dX5_clock_102 ?_
          refine lv_lload hx hb dX5_clock_103 (lv_at hl 0 rfl) ?_
          refine lv_ladd hx hb dX5_clock_105 ?_
          have hf := Option.some.inj hf
          subst hf
          refine W.widen (k := 1) (n := 6) (Nat.zero_le _) (Nat.zero_le _) ?_
          refine vx_ret ?_
          exact e_l (wf := (fun v : Ob × Ob × (Nat → Ob) × (Nat → Ob) => (wAll G h0 a0 v.1 a1 v.2.1 ra rb v.2.2.1 v.2.2.2))) hx hb hr hlk (u0, (u1, (u2, u3))) rfl hP hK hD hS dX5_clock_106
        · have hf := tn hf c4
          have hf := Option.some.inj hf
          subst hf
          exact thN (wf := (fun v : Ob × Ob × (Nat → Ob) × (Nat → Ob) => (wAll G h0 a0 v.1 a1 v.2.1 ra rb v.2.2.1 v.2.2.2))) (tx := "no fix by that time") (u0, (u1, (u2, u3))) hx hb hlf hml hlk htb hown hg kq4_74 kq1_21 (by decide +kernel) hP hK hD hE hS hl.1 rfl (by decide) dX5_clock_44 dX5_clock_47 dX5_clock_48 dX5_clock_51 dX5_clock_54
    · have hf := tn hf c2
      have hf := Option.some.inj hf
      subst hf
      exact thW (wf := (fun v : Ob × Ob × (Nat → Ob) × (Nat → Ob) => (wAll G h0 a0 v.1 a1 v.2.1 ra rb v.2.2.1 v.2.2.2))) (E := "java/lang/IllegalArgumentException") (tx := "no such time") (u0, (u1, (u2, u3))) hx hb hlf hml hlk htb hown hg (k := 1) rfl kq2_191 kq1_10 (by decide +kernel) atg_63 atn_63 ato_63 (by decide +kernel) hP hK hD hE hS hl.1 rfl (by decide) dX5_clock_10 dX5_clock_13 dX5_clock_14 dX5_clock_17 dX5_clock_20
set_option maxRecDepth 100000 in
set_option maxHeartbeats 4000000 in
theorem c_X5_estimate {l : Launch} (hlf : l.stackTraces = false) {G : Gp} {sz N : Nat} {h0 : Nat} {a0 a1 : Nat → Nat} {ra rb : Nat → Nat → Nat} {u0 u1 : Ob} {u2 u3 : Nat → Ob} {q : (Nat ⊕ Int64) × Ob × Ob × (Nat → Ob) × (Nat → Ob)} (hf : f_X5_estimate N u0 u1 u2 u3 = some q) : vx_Met l yX5_estimate (Cond.code yX5_estimate cX5_estimate 1 (some .long) :: lw_g) ({ frames := 6, cells := 1, slots := 6, locals := 90 } : Room) (va_Pc [.ref h0] (pw G (wAll G h0 a0 u0 a1 u1 ra rb u2 u3) sz)) (va_Ql (fun (r : Int64) (v : Ob × Ob × (Nat → Ob) × (Nat → Ob)) => q = (.inr r, v)) (bw G (fun v : Ob × Ob × (Nat → Ob) × (Nat → Ob) => (wAll G h0 a0 v.1 a1 v.2.1 ra rb v.2.2.1 v.2.2.2)) (va_A (wAll G h0 a0 u0 a1 u1 ra rb u2 u3) sz)) (va_A (wAll G h0 a0 u0 a1 u1 ra rb u2 u3) sz)) (XQ (fun z : Nat × (Ob × Ob × (Nat → Ob) × (Nat → Ob)) => q = (.inl z.1, z.2)) G (fun v : Ob × Ob × (Nat → Ob) × (Nat → Ob) => (wAll G h0 a0 v.1 a1 v.2.1 ra rb v.2.2.1 v.2.2.2)) (va_A (wAll G h0 a0 u0 a1 u1 ra rb u2 u3) sz)) 1 6 (va_A (wAll G h0 a0 u0 a1 u1 ra rb u2 u3) sz) := by
  refine mtx (Qc := (fun A => va_Ql (fun (r : Int64) (v : Ob × Ob × (Nat → Ob) × (Nat → Ob)) => q = (.inr r, v)) (bw G (fun v : Ob × Ob × (Nat → Ob) × (Nat → Ob) => (wAll G h0 a0 v.1 a1 v.2.1 ra rb v.2.2.1 v.2.2.2)) A) A)) (XC := fun A => XQ (fun z : Nat × (Ob × Ob × (Nat → Ob) × (Nat → Ob)) => q = (.inl z.1, z.2)) G (fun v : Ob × Ob × (Nat → Ob) × (Nat → Ob) => (wAll G h0 a0 v.1 a1 v.2.1 ra rb v.2.2.1 v.2.2.2)) A) (by decide) (Nat.le_of_ble_eq_true rfl) ?_
  intro p e s m below meth c A ls hx hb hr hlk hml htb hts hown hA hP hK hD hE hS hl
  have hown : s.vm.findClass RX5 = some m.cls := hown
  have hg : ∀ w ∈ lw_g, w.before ([.ref h0] : List Value).toArray s = true := fun w h => hts w (List.mem_cons_of_mem _ h)
  have hC : CallFix p m c cX5_estimate 1 s ([.ref h0] : List Value).toArray (Cond.code yX5_estimate cX5_estimate 1 (some .long) :: lw_g) RX5 := ⟨hx, hb, hml, hown, hts⟩
  have hl : lv_has ls 1 [(0, .ref h0)] := hl
  rw [f_X5_estimate] at hf
  refine lv_aload_n hx hb dX5_estimate_0 rfl (lv_at hl 0 rfl) ?_
  refine va_get (D := gD G) (ci := 3) (v := .ref (a0 (20 + 0))) (C := RX5) (T := TX5) (N := 11) hx hb hg kl_X5 hown hK hP 0 rfl rfl 0 (by decide) (hg _ kq1_179) (fun _ h9 => h9) rfl dX5_estimate_1 ?_
  refine va_get (D := gD G) (ci := 2) (v := .int ((u2 0).1 16)) (C := RX4) (T := TX4) (N := 18) hx hb hg kl_X4 hown hK hP 7 rfl rfl 16 (by decide) (hg _ kq1_85) (fun _ h9 => h9) rfl dX5_estimate_4 ?_
  refine lv_iconst (v := (2 : Int32)) hx hb dX5_estimate_7 (by decide) ?_
  refine lv_icmp_ge (tgt := 22) hx hb dX5_estimate_8 (by decide) (fun c1 => ?_) (fun c1 => ?_)
  · have hf := tp hf c1
    refine lv_aload_n hx hb dX5_estimate_22 rfl (lv_at hl 0 rfl) ?_
    refine va_get (D := gD G) (ci := 3) (v := .ref (a0 (20 + 0))) (C := RX5) (T := TX5) (N := 11) hx hb hg kl_X5 hown hK hP 0 rfl rfl 0 (by decide) (hg _ kq1_179) (fun _ h9 => h9) rfl dX5_estimate_23 ?_
    obtain ⟨q2, e3, hf⟩ := tbd hf
    refine kVpl (As := []) (rest := []) hC (c_X4_driftEstimate (G := G) e3) kq4_154 kc_X4_driftEstimate (by decide) 0 (ci := 2) rfl rfl hP hK hD hE hS hA (pR4 (i := 0) (by omega)) (qR4 (i := 0) (by omega)) hl.1 (Nat.le_of_ble_eq_true rfl) ⟨Nat.zero_le _, Nat.zero_le _⟩ dX5_estimate_26 (fun r9 u9 H locs hw hP hD hS => ?_)
    obtain ⟨rfl, rfl⟩ := hw
    have hP : va_P (gD G) vwCl (wAll G h0 a0 u0 a1 u1 ra rb u2 u3) H := by simpa only [va_up_id, va_up_up] using hP
    have hD : va_D A (wAll G h0 a0 u0 a1 u1 ra rb u2 u3) := by simpa only [va_up_id, va_up_up] using hD
    have hf := Option.some.inj hf
    subst hf
    refine W.widen (k := 1) (n := 6) (Nat.zero_le _) (Nat.zero_le _) ?_
    refine vx_ret ?_
    exact e_l (wf := (fun v : Ob × Ob × (Nat → Ob) × (Nat → Ob) => (wAll G h0 a0 v.1 a1 v.2.1 ra rb v.2.2.1 v.2.2.2))) hx hb hr hlk (u0, (u1, (u2, u3))) rfl hP hK hD hS dX5_estimate_29
  · have hf := tn hf c1
    have hf := Option.some.inj hf
    subst hf
    exact thN (wf := (fun v : Ob × Ob × (Nat → Ob) × (Nat → Ob) => (wAll G h0 a0 v.1 a1 v.2.1 ra rb v.2.2.1 v.2.2.2))) (tx := "fewer than two fixes") (u0, (u1, (u2, u3))) hx hb hlf hml hlk htb hown hg kq4_74 kq1_21 (by decide +kernel) hP hK hD hE hS hl.1 rfl (by decide) dX5_estimate_11 dX5_estimate_14 dX5_estimate_15 dX5_estimate_18 dX5_estimate_21
set_option maxRecDepth 100000 in
set_option maxHeartbeats 4000000 in
theorem c_X5_set {l : Launch} (hlf : l.stackTraces = false) {G : Gp} {sz N : Nat} {x1 : Int32} {x2 : Int32} {h0 : Nat} {a0 a1 : Nat → Nat} {ra rb : Nat → Nat → Nat} {u0 u1 : Ob} {u2 u3 : Nat → Ob} {q : (Nat ⊕ Int32) × Ob × Ob × (Nat → Ob) × (Nat → Ob)} (hf : f_X5_set N x1 x2 u0 u1 u2 u3 = some q) : vx_Met l yX5_set (Cond.code yX5_set cX5_set 4 (some .int) :: lw_g) ({ frames := 6, cells := 1, slots := 6, locals := 90 } : Room) (va_Pc [.ref h0, .int x1, .int x2] (pw G (wAll G h0 a0 u0 a1 u1 ra rb u2 u3) sz)) (va_Qi (fun (r : Int32) (v : Ob × Ob × (Nat → Ob) × (Nat → Ob)) => q = (.inr r, v)) (bw G (fun v : Ob × Ob × (Nat → Ob) × (Nat → Ob) => (wAll G h0 a0 v.1 a1 v.2.1 ra rb v.2.2.1 v.2.2.2)) (va_A (wAll G h0 a0 u0 a1 u1 ra rb u2 u3) sz)) (va_A (wAll G h0 a0 u0 a1 u1 ra rb u2 u3) sz)) (XQ (fun z : Nat × (Ob × Ob × (Nat → Ob) × (Nat → Ob)) => q = (.inl z.1, z.2)) G (fun v : Ob × Ob × (Nat → Ob) × (Nat → Ob) => (wAll G h0 a0 v.1 a1 v.2.1 ra rb v.2.2.1 v.2.2.2)) (va_A (wAll G h0 a0 u0 a1 u1 ra rb u2 u3) sz)) 1 6 (va_A (wAll G h0 a0 u0 a1 u1 ra rb u2 u3) sz) := by
  refine mtx (Qc := (fun A => va_Qi (fun (r : Int32) (v : Ob × Ob × (Nat → Ob) × (Nat → Ob)) => q = (.inr r, v)) (bw G (fun v : Ob × Ob × (Nat → Ob) × (Nat → Ob) => (wAll G h0 a0 v.1 a1 v.2.1 ra rb v.2.2.1 v.2.2.2)) A) A)) (XC := fun A => XQ (fun z : Nat × (Ob × Ob × (Nat → Ob) × (Nat → Ob)) => q = (.inl z.1, z.2)) G (fun v : Ob × Ob × (Nat → Ob) × (Nat → Ob) => (wAll G h0 a0 v.1 a1 v.2.1 ra rb v.2.2.1 v.2.2.2)) A) (by decide) (Nat.le_of_ble_eq_true rfl) ?_
  intro p e s m below meth c A ls hx hb hr hlk hml htb hts hown hA hP hK hD hE hS hl
  have hown : s.vm.findClass RX5 = some m.cls := hown
  have hg : ∀ w ∈ lw_g, w.before ([.ref h0, .int x1, .int x2] : List Value).toArray s = true := fun w h => hts w (List.mem_cons_of_mem _ h)
  have hC : CallFix p m c cX5_set 4 s ([.ref h0, .int x1, .int x2] : List Value).toArray (Cond.code yX5_set cX5_set 4 (some .int) :: lw_g) RX5 := ⟨hx, hb, hml, hown, hts⟩
  have hl : lv_has ls 4 [(0, .ref h0), (1, .int x1), (2, .int x2)] := hl
  rw [f_X5_set] at hf
  refine lv_iload_n hx hb dX5_set_0 rfl (lv_at hl 1 rfl) ?_
  refine lv_if_lt (tgt := 9) hx hb dX5_set_1 (by decide) (fun c1 => ?_) (fun c1 => ?_)
  · have hf := tp hf c1
    have hf := Option.some.inj hf
    subst hf
    exact thW (wf := (fun v : Ob × Ob × (Nat → Ob) × (Nat → Ob) => (wAll G h0 a0 v.1 a1 v.2.1 ra rb v.2.2.1 v.2.2.2))) (E := "java/lang/IllegalArgumentException") (tx := "no such setting") (u0, (u1, (u2, u3))) hx hb hlf hml hlk htb hown hg (k := 1) rfl kq2_191 kq1_10 (by decide +kernel) atg_63 atn_63 ato_63 (by decide +kernel) hP hK hD hE hS hl.1 rfl (by decide) dX5_set_9 dX5_set_12 dX5_set_13 dX5_set_16 dX5_set_19
  · have hf := tn hf c1
    refine lv_iload_n hx hb dX5_set_4 rfl (lv_at hl 1 rfl) ?_
    refine lv_iconst (v := (5 : Int32)) hx hb dX5_set_5 (by decide) ?_
    refine lv_icmp_lt (tgt := 20) hx hb dX5_set_6 (by decide) (fun c2 => ?_) (fun c2 => ?_)
    · have hf := tp hf c2
      refine lv_iload_n hx hb dX5_set_20 rfl (lv_at hl 2 rfl) ?_
      refine va_gets hx hb (hE.1.2.2.2.2.2.2.1) hS hown (hg _ kq4_169) (fun _ h9 => h9) dX5_set_21 ?_
      refine lv_iload_n hx hb dX5_set_24 rfl (lv_at hl 1 rfl) ?_
      obtain ⟨b3, hf⟩ := tno hf
      refine va_ti hx hb hE.1.2.2.2.2.2.2.2.1 hS b3 (v := .int (aLe x1.toNatClampNeg)) rfl dX5_set_25 ?_
      refine lv_icmp_lt (tgt := 38) hx hb dX5_set_26 (by decide) (fun c4 => ?_) (fun c4 => ?_)
      · have hf := tp hf c4
        have hf := Option.some.inj hf
        subst hf
        exact thW (wf := (fun v : Ob × Ob × (Nat → Ob) × (Nat → Ob) => (wAll G h0 a0 v.1 a1 v.2.1 ra rb v.2.2.1 v.2.2.2))) (E := "java/lang/IllegalArgumentException") (tx := "no such value of the setting") (u0, (u1, (u2, u3))) hx hb hlf hml hlk htb hown hg (k := 1) rfl kq2_191 kq1_10 (by decide +kernel) atg_63 atn_63 ato_63 (by decide +kernel) hP hK hD hE hS hl.1 rfl (by decide) dX5_set_38 dX5_set_41 dX5_set_42 dX5_set_45 dX5_set_48
      · have hf := tn hf c4
        refine lv_iload_n hx hb dX5_set_29 rfl (lv_at hl 2 rfl) ?_
        refine va_gets hx hb (hE.1.2.2.2.2.2.2.2.2.1) hS hown (hg _ kq4_170) (fun _ h9 => h9) dX5_set_30 ?_
        refine lv_iload_n hx hb dX5_set_33 rfl (lv_at hl 1 rfl) ?_
        obtain ⟨b5, hf⟩ := tno hf
        refine va_ti hx hb hE.1.2.2.2.2.2.2.2.2.2.1 hS b5 (v := .int (aGr x1.toNatClampNeg)) rfl dX5_set_34 ?_
        refine lv_icmp_le (tgt := 49) hx hb dX5_set_35 (by decide) (fun c6 => ?_) (fun c6 => ?_)
        · have hf := tp hf c6
          refine lv_aload_n hx hb dX5_set_49 rfl (lv_at hl 0 rfl) ?_
          obtain ⟨q7, e8, hf⟩ := tbd hf
          refine kVv1 (As := []) (rest := []) hC (c_X5_remember (G := G) e8) kq2_88 kc_X5_remember (by decide) 0 (ci := 3) rfl rfl hP hK hD hE hS hA hl.1 (Nat.le_of_ble_eq_true rfl) ⟨Nat.zero_le _, Nat.zero_le _⟩ dX5_set_50 (fun u9 H locs hw hP hD hS => ?_)
          obtain rfl := hw
          have hP : va_P (gD G) vwCl (wAll G h0 a0 q7.1 a1 q7.2.1 ra rb q7.2.2.1 q7.2.2.2) H := hP
          have hD : va_D A (wAll G h0 a0 q7.1 a1 q7.2.1 ra rb q7.2.2.1 q7.2.2.2) := hD
          refine lv_aload_n hx hb dX5_set_53 rfl (lv_at hl 0 rfl) ?_
          refine va_get (D := gD G) (ci := 3) (v := .ref (a0 (20 + 0))) (C := RX5) (T := TX5) (N := 11) hx hb hg kl_X5 hown hK hP 0 rfl rfl 0 (by decide) (hg _ kq1_179) (fun _ h9 => h9) rfl dX5_set_54 ?_
          refine va_get (D := gD G) (ci := 2) (v := .ref (ra 0 0)) (C := RX4) (T := TX4) (N := 18) hx hb hg kl_X4 hown hK hP 7 rfl rfl 0 (by decide) (hg _ kq1_53) (fun _ h9 => h9) rfl dX5_set_57 ?_
          refine lv_iload_n hx hb dX5_set_60 rfl (lv_at hl 1 rfl) ?_
          obtain ⟨b9, hf⟩ := tno hf
          refine va_iald (f := ((q7.2.2.1 0).2.2.1 0)) hx hb hK hP 8 1 rfl rfl b9 dX5_set_61 ?_
          refine lv_istore_n (lv' := [(3, .int (((q7.2.2.1 0).2.2.1 0) x1.toNatClampNeg)), (0, .ref h0), (1, .int x1), (2, .int x2)]) hx hb dX5_set_62 rfl hl (by decide) rfl (fun ls hl => ?_)
          refine lv_aload_n hx hb dX5_set_63 rfl (lv_at hl 1 rfl) ?_
          refine va_get (D := gD G) (ci := 3) (v := .ref (a0 (20 + 0))) (C := RX5) (T := TX5) (N := 11) hx hb hg kl_X5 hown hK hP 0 rfl rfl 0 (by decide) (hg _ kq1_179) (fun _ h9 => h9) rfl dX5_set_64 ?_
          refine lv_iload_n hx hb dX5_set_67 rfl (lv_at hl 2 rfl) ?_
          refine lv_iload_n hx hb dX5_set_68 rfl (lv_at hl 3 rfl) ?_
          obtain ⟨q10, e11, hf⟩ := tbd hf
          refine kVpv (As := [.int x1, .int x2]) (rest := []) hC (c_X4_change (G := G) e11) kq3_181 kc_X4_change (by decide) 0 (ci := 2) rfl rfl hP hK hD hE hS hA (pR4 (i := 0) (by omega)) (qR4 (i := 0) (by omega)) hl.1 (Nat.le_of_ble_eq_true rfl) ⟨Nat.zero_le _, Nat.zero_le _⟩ dX5_set_69 (fun u9 H locs hw hP hD hS => ?_)
          obtain rfl := hw
          have hP : va_P (gD G) vwCl (wAll G h0 a0 q7.1 a1 q7.2.1 ra rb (va_up q7.2.2.1 0 q10) q7.2.2.2) H := hP
          have hD : va_D A (wAll G h0 a0 q7.1 a1 q7.2.1 ra rb (va_up q7.2.2.1 0 q10) q7.2.2.2) := hD
          refine lv_iload_n hx hb dX5_set_72 rfl (lv_at hl 0 rfl) ?_
          have hf := Option.some.inj hf
          subst hf
          refine W.widen (k := 1) (n := 6) (Nat.zero_le _) (Nat.zero_le _) ?_
          refine vx_ret ?_
          exact e_i (wf := (fun v : Ob × Ob × (Nat → Ob) × (Nat → Ob) => (wAll G h0 a0 v.1 a1 v.2.1 ra rb v.2.2.1 v.2.2.2))) hx hb hr hlk (q7.1, (q7.2.1, ((va_up q7.2.2.1 0 q10), q7.2.2.2))) rfl hP hK hD hS dX5_set_73
        · have hf := tn hf c6
          have hf := Option.some.inj hf
          subst hf
          exact thW (wf := (fun v : Ob × Ob × (Nat → Ob) × (Nat → Ob) => (wAll G h0 a0 v.1 a1 v.2.1 ra rb v.2.2.1 v.2.2.2))) (E := "java/lang/IllegalArgumentException") (tx := "no such value of the setting") (u0, (u1, (u2, u3))) hx hb hlf hml hlk htb hown hg (k := 1) rfl kq2_191 kq1_10 (by decide +kernel) atg_63 atn_63 ato_63 (by decide +kernel) hP hK hD hE hS hl.1 rfl (by decide) dX5_set_38 dX5_set_41 dX5_set_42 dX5_set_45 dX5_set_48
    · have hf := tn hf c2
      have hf := Option.some.inj hf
      subst hf
      exact thW (wf := (fun v : Ob × Ob × (Nat → Ob) × (Nat → Ob) => (wAll G h0 a0 v.1 a1 v.2.1 ra rb v.2.2.1 v.2.2.2))) (E := "java/lang/IllegalArgumentException") (tx := "no such setting") (u0, (u1, (u2, u3))) hx hb hlf hml hlk htb hown hg (k := 1) rfl kq2_191 kq1_10 (by decide +kernel) atg_63 atn_63 ato_63 (by decide +kernel) hP hK hD hE hS hl.1 rfl (by decide) dX5_set_9 dX5_set_12 dX5_set_13 dX5_set_16 dX5_set_19
set_option maxRecDepth 100000 in
set_option maxHeartbeats 4000000 in
theorem c_X5_discipline {l : Launch} (hlf : l.stackTraces = false) {G : Gp} {sz N : Nat} {h0 : Nat} {a0 a1 : Nat → Nat} {ra rb : Nat → Nat → Nat} {u0 u1 : Ob} {u2 u3 : Nat → Ob} {q : (Nat ⊕ Int32) × Ob × Ob × (Nat → Ob) × (Nat → Ob)} (hf : f_X5_discipline N u0 u1 u2 u3 = some q) : vx_Met l yX5_discipline (Cond.code yX5_discipline cX5_discipline 4 (some .int) :: lw_g) ({ frames := 6, cells := 1, slots := 6, locals := 90 } : Room) (va_Pc [.ref h0] (pw G (wAll G h0 a0 u0 a1 u1 ra rb u2 u3) sz)) (va_Qi (fun (r : Int32) (v : Ob × Ob × (Nat → Ob) × (Nat → Ob)) => q = (.inr r, v)) (bw G (fun v : Ob × Ob × (Nat → Ob) × (Nat → Ob) => (wAll G h0 a0 v.1 a1 v.2.1 ra rb v.2.2.1 v.2.2.2)) (va_A (wAll G h0 a0 u0 a1 u1 ra rb u2 u3) sz)) (va_A (wAll G h0 a0 u0 a1 u1 ra rb u2 u3) sz)) (XQ (fun z : Nat × (Ob × Ob × (Nat → Ob) × (Nat → Ob)) => q = (.inl z.1, z.2)) G (fun v : Ob × Ob × (Nat → Ob) × (Nat → Ob) => (wAll G h0 a0 v.1 a1 v.2.1 ra rb v.2.2.1 v.2.2.2)) (va_A (wAll G h0 a0 u0 a1 u1 ra rb u2 u3) sz)) 1 6 (va_A (wAll G h0 a0 u0 a1 u1 ra rb u2 u3) sz) := by
  refine mtx (Qc := (fun A => va_Qi (fun (r : Int32) (v : Ob × Ob × (Nat → Ob) × (Nat → Ob)) => q = (.inr r, v)) (bw G (fun v : Ob × Ob × (Nat → Ob) × (Nat → Ob) => (wAll G h0 a0 v.1 a1 v.2.1 ra rb v.2.2.1 v.2.2.2)) A) A)) (XC := fun A => XQ (fun z : Nat × (Ob × Ob × (Nat → Ob) × (Nat → Ob)) => q = (.inl z.1, z.2)) G (fun v : Ob × Ob × (Nat → Ob) × (Nat → Ob) => (wAll G h0 a0 v.1 a1 v.2.1 ra rb v.2.2.1 v.2.2.2)) A) (by decide) (Nat.le_of_ble_eq_true rfl) ?_
  intro p e s m below meth c A ls hx hb hr hlk hml htb hts hown hA hP hK hD hE hS hl
  have hown : s.vm.findClass RX5 = some m.cls := hown
  have hg : ∀ w ∈ lw_g, w.before ([.ref h0] : List Value).toArray s = true := fun w h => hts w (List.mem_cons_of_mem _ h)
  have hC : CallFix p m c cX5_discipline 4 s ([.ref h0] : List Value).toArray (Cond.code yX5_discipline cX5_discipline 4 (some .int) :: lw_g) RX5 := ⟨hx, hb, hml, hown, hts⟩
  have hl : lv_has ls 4 [(0, .ref h0)] := hl
  rw [f_X5_discipline] at hf
  refine lv_aload_n hx hb dX5_discipline_0 rfl (lv_at hl 0 rfl) ?_
  refine va_get (D := gD G) (ci := 3) (v := .ref (a0 (20 + 0))) (C := RX5) (T := TX5) (N := 11) hx hb hg kl_X5 hown hK hP 0 rfl rfl 0 (by decide) (hg _ kq1_179) (fun _ h9 => h9) rfl dX5_discipline_1 ?_
  refine va_get (D := gD G) (ci := 2) (v := .int ((u2 0).1 16)) (C := RX4) (T := TX4) (N := 18) hx hb hg kl_X4 hown hK hP 7 rfl rfl 16 (by decide) (hg _ kq1_85) (fun _ h9 => h9) rfl dX5_discipline_4 ?_
  refine lv_iconst (v := (2 : Int32)) hx hb dX5_discipline_7 (by decide) ?_
  refine lv_icmp_ge (tgt := 22) hx hb dX5_discipline_8 (by decide) (fun c1 => ?_) (fun c1 => ?_)
  · have hf := tp hf c1
    refine lv_aload_n hx hb dX5_discipline_22 rfl (lv_at hl 0 rfl) ?_
    refine va_get (D := gD G) (ci := 3) (v := .ref (a0 (20 + 0))) (C := RX5) (T := TX5) (N := 11) hx hb hg kl_X5 hown hK hP 0 rfl rfl 0 (by decide) (hg _ kq1_179) (fun _ h9 => h9) rfl dX5_discipline_23 ?_
    obtain ⟨q2, e3, hf⟩ := tbd hf
    refine kVpl (As := []) (rest := []) hC (c_X4_driftEstimate (G := G) e3) kq4_154 kc_X4_driftEstimate (by decide) 0 (ci := 2) rfl rfl hP hK hD hE hS hA (pR4 (i := 0) (by omega)) (qR4 (i := 0) (by omega)) hl.1 (Nat.le_of_ble_eq_true rfl) ⟨Nat.zero_le _, Nat.zero_le _⟩ dX5_discipline_26 (fun r9 u9 H locs hw hP hD hS => ?_)
    obtain ⟨rfl, rfl⟩ := hw
    have hP : va_P (gD G) vwCl (wAll G h0 a0 u0 a1 u1 ra rb u2 u3) H := by simpa only [va_up_id, va_up_up] using hP
    have hD : va_D A (wAll G h0 a0 u0 a1 u1 ra rb u2 u3) := by simpa only [va_up_id, va_up_up] using hD
    refine lv_lstore_n (lv' := [(1, .long q2), (0, .ref h0)]) hx hb dX5_discipline_29 rfl hl (by decide) rfl (fun ls hl => ?_)
    refine lv_lload_n hx hb dX5_discipline_30 rfl (lv_at hl 0 rfl) ?_
    refine va_gets hx hb (hE.1.2.2.2.2.2.2.1) hS hown (hg _ kq4_169) (fun _ h9 => h9) dX5_discipline_31 ?_
    refine lv_iconst (v := (4 : Int32)) hx hb dX5_discipline_34 (by decide) ?_
    refine va_ti hx hb hE.1.2.2.2.2.2.2.2.1 hS (vin (by decide)) (v := .int (aLe (4 : Int32).toNatClampNeg)) rfl dX5_discipline_35 ?_
    refine lv_i2l (v := (aLe (4 : Int32).toNatClampNeg).toInt64) hx hb dX5_discipline_36 rfl ?_
    refine lc_lt (tgt := 52) hx hb dX5_discipline_37 dX5_discipline_38 (by decide) (fun c4 => ?_) (fun c4 => ?_)
    · have hf := tp hf c4
      have hf := Option.some.inj hf
      subst hf
      exact thW (wf := (fun v : Ob × Ob × (Nat → Ob) × (Nat → Ob) => (wAll G h0 a0 v.1 a1 v.2.1 ra rb v.2.2.1 v.2.2.2))) (E := "java/lang/IllegalStateException") (tx := "no drift can be as large") (u0, (u1, (u2, u3))) hx hb hlf hml hlk htb hown hg (k := 0) rfl kq2_111 kq1_9 (by decide +kernel) atg_52 atn_52 ato_52 (by decide +kernel) hP hK hD hE hS hl.1 rfl (by decide) dX5_discipline_52 dX5_discipline_55 dX5_discipline_56 dX5_discipline_59 dX5_discipline_62
    · have hf := tn hf c4
      refine lv_lload_n hx hb dX5_discipline_41 rfl (lv_at hl 0 rfl) ?_
      refine va_gets hx hb (hE.1.2.2.2.2.2.2.2.2.1) hS hown (hg _ kq4_170) (fun _ h9 => h9) dX5_discipline_42 ?_
      refine lv_iconst (v := (4 : Int32)) hx hb dX5_discipline_45 (by decide) ?_
      refine va_ti hx hb hE.1.2.2.2.2.2.2.2.2.2.1 hS (vin (by decide)) (v := .int (aGr (4 : Int32).toNatClampNeg)) rfl dX5_discipline_46 ?_
      refine lv_i2l (v := (aGr (4 : Int32).toNatClampNeg).toInt64) hx hb dX5_discipline_47 rfl ?_
      refine lc_le (tgt := 63) hx hb dX5_discipline_48 dX5_discipline_49 (by decide) (fun c5 => ?_) (fun c5 => ?_)
      · have hf := tp hf c5
        refine lv_aload_n hx hb dX5_discipline_63 rfl (lv_at hl 1 rfl) ?_
        obtain ⟨q6, e7, hf⟩ := tbd hf
        refine kVv1 (As := []) (rest := []) hC (c_X5_remember (G := G) e7) kq2_88 kc_X5_remember (by decide) 0 (ci := 3) rfl rfl hP hK hD hE hS hA hl.1 (Nat.le_of_ble_eq_true rfl) ⟨Nat.zero_le _, Nat.zero_le _⟩ dX5_discipline_64 (fun u9 H locs hw hP hD hS => ?_)
        obtain rfl := hw
        have hP : va_P (gD G) vwCl (wAll G h0 a0 q6.1 a1 q6.2.1 ra rb q6.2.2.1 q6.2.2.2) H := hP
        have hD : va_D A (wAll G h0 a0 q6.1 a1 q6.2.1 ra rb q6.2.2.1 q6.2.2.2) := hD
        refine lv_aload_n hx hb dX5_discipline_67 rfl (lv_at hl 1 rfl) ?_
        refine va_get (D := gD G) (ci := 3) (v := .ref (a0 (20 + 0))) (C := RX5) (T := TX5) (N := 11) hx hb hg kl_X5 hown hK hP 0 rfl rfl 0 (by decide) (hg _ kq1_179) (fun _ h9 => h9) rfl dX5_discipline_68 ?_
        refine va_get (D := gD G) (ci := 2) (v := .ref (ra 0 0)) (C := RX4) (T := TX4) (N := 18) hx hb hg kl_X4 hown hK hP 7 rfl rfl 0 (by decide) (hg _ kq1_53) (fun _ h9 => h9) rfl dX5_discipline_71 ?_
        refine lv_iconst (v := (4 : Int32)) hx hb dX5_discipline_74 (by decide) ?_
        refine va_iald (f := ((q6.2.2.1 0).2.2.1 0)) hx hb hK hP 8 1 rfl rfl (vin (by decide)) dX5_discipline_75 ?_
        refine lv_istore_n (lv' := [(3, .int (((q6.2.2.1 0).2.2.1 0) (4 : Int32).toNatClampNeg)), (1, .long q2), (0, .ref h0)]) hx hb dX5_discipline_76 rfl hl (by decide) rfl (fun ls hl => ?_)
        refine lv_aload_n hx hb dX5_discipline_77 rfl (lv_at hl 2 rfl) ?_
        refine va_get (D := gD G) (ci := 3) (v := .ref (a0 (20 + 0))) (C := RX5) (T := TX5) (N := 11) hx hb hg kl_X5 hown hK hP 0 rfl rfl 0 (by decide) (hg _ kq1_179) (fun _ h9 => h9) rfl dX5_discipline_78 ?_
        refine lv_iconst (v := (4 : Int32)) hx hb dX5_discipline_81 (by decide) ?_
        refine lv_lload_n hx hb dX5_discipline_82 rfl (lv_at hl 1 rfl) ?_
        refine lv_l2i (v := q2.toInt32) hx hb dX5_discipline_83 rfl ?_
        obtain ⟨q8, e9, hf⟩ := tbd hf
        refine kVpv (As := [.int (4 : Int32), .int q2.toInt32]) (rest := []) hC (c_X4_change (G := G) e9) kq3_181 kc_X4_change (by decide) 0 (ci := 2) rfl rfl hP hK hD hE hS hA (pR4 (i := 0) (by omega)) (qR4 (i := 0) (by omega)) hl.1 (Nat.le_of_ble_eq_true rfl) ⟨Nat.zero_le _, Nat.zero_le _⟩ dX5_discipline_84 (fun u9 H locs hw hP hD hS => ?_)
        obtain rfl := hw
        have hP : va_P (gD G) vwCl (wAll G h0 a0 q6.1 a1 q6.2.1 ra rb (va_up q6.2.2.1 0 q8) q6.2.2.2) H := hP
        have hD : va_D A (wAll G h0 a0 q6.1 a1 q6.2.1 ra rb (va_up q6.2.2.1 0 q8) q6.2.2.2) := hD
        refine lv_iload_n hx hb dX5_discipline_87 rfl (lv_at hl 0 rfl) ?_
        have hf := Option.some.inj hf
        subst hf
        refine W.widen (k := 1) (n := 6) (Nat.zero_le _) (Nat.zero_le _) ?_
        refine vx_ret ?_
        exact e_i (wf := (fun v : Ob × Ob × (Nat → Ob) × (Nat → Ob) => (wAll G h0 a0 v.1 a1 v.2.1 ra rb v.2.2.1 v.2.2.2))) hx hb hr hlk (q6.1, (q6.2.1, ((va_up q6.2.2.1 0 q8), q6.2.2.2))) rfl hP hK hD hS dX5_discipline_88
      · have hf := tn hf c5
        have hf := Option.some.inj hf
        subst hf
        exact thW (wf := (fun v : Ob × Ob × (Nat → Ob) × (Nat → Ob) => (wAll G h0 a0 v.1 a1 v.2.1 ra rb v.2.2.1 v.2.2.2))) (E := "java/lang/IllegalStateException") (tx := "no drift can be as large") (u0, (u1, (u2, u3))) hx hb hlf hml hlk htb hown hg (k := 0) rfl kq2_111 kq1_9 (by decide +kernel) atg_52 atn_52 ato_52 (by decide +kernel) hP hK hD hE hS hl.1 rfl (by decide) dX5_discipline_52 dX5_discipline_55 dX5_discipline_56 dX5_discipline_59 dX5_discipline_62
  · have hf := tn hf c1
    have hf := Option.some.inj hf
    subst hf
    exact thN (wf := (fun v : Ob × Ob × (Nat → Ob) × (Nat → Ob) => (wAll G h0 a0 v.1 a1 v.2.1 ra rb v.2.2.1 v.2.2.2))) (tx := "fewer than two fixes") (u0, (u1, (u2, u3))) hx hb hlf hml hlk htb hown hg kq4_74 kq1_21 (by decide +kernel) hP hK hD hE hS hl.1 rfl (by decide) dX5_discipline_11 dX5_discipline_14 dX5_discipline_15 dX5_discipline_18 dX5_discipline_21
set_option maxRecDepth 100000 in
set_option maxHeartbeats 4000000 in
theorem c_X5_forget {l : Launch} {G : Gp} {sz N : Nat} {h0 : Nat} {a0 a1 : Nat → Nat} {ra rb : Nat → Nat → Nat} {u0 u1 : Ob} {u2 u3 : Nat → Ob} {q : Int32 × Ob × Ob × (Nat → Ob) × (Nat → Ob)} (hf : f_X5_forget N u0 u1 u2 u3 = some q) : Met l yX5_forget (Cond.code yX5_forget cX5_forget 2 (some .int) :: lw_g) ({ frames := 3, cells := 0, slots := 0, locals := 59 } : Room) (va_Pc [.ref h0] (pw G (wAll G h0 a0 u0 a1 u1 ra rb u2 u3) sz)) (va_Qi (fun (r : Int32) (v : Ob × Ob × (Nat → Ob) × (Nat → Ob)) => q.1 = r ∧ q.2 = v) (bw G (fun v : Ob × Ob × (Nat → Ob) × (Nat → Ob) => (wAll G h0 a0 v.1 a1 v.2.1 ra rb v.2.2.1 v.2.2.2)) (va_A (wAll G h0 a0 u0 a1 u1 ra rb u2 u3) sz)) (va_A (wAll G h0 a0 u0 a1 u1 ra rb u2 u3) sz)) 0 0 (va_A (wAll G h0 a0 u0 a1 u1 ra rb u2 u3) sz) := by
  refine mt (Qc := (fun A => va_Qi (fun (r : Int32) (v : Ob × Ob × (Nat → Ob) × (Nat → Ob)) => q.1 = r ∧ q.2 = v) (bw G (fun v : Ob × Ob × (Nat → Ob) × (Nat → Ob) => (wAll G h0 a0 v.1 a1 v.2.1 ra rb v.2.2.1 v.2.2.2)) A) A)) (by decide) (Nat.le_of_ble_eq_true rfl) ?_
  intro p e s m below meth c A ls hx hb hr hlk hml hts hown hA hP hK hD hE hS hl
  have hown : s.vm.findClass RX5 = some m.cls := hown
  have hg : ∀ w ∈ lw_g, w.before ([.ref h0] : List Value).toArray s = true := fun w h => hts w (List.mem_cons_of_mem _ h)
  have hC : CallFix p m c cX5_forget 2 s ([.ref h0] : List Value).toArray (Cond.code yX5_forget cX5_forget 2 (some .int) :: lw_g) RX5 := ⟨hx, hb, hml, hown, hts⟩
  have hl : lv_has ls 2 [(0, .ref h0)] := hl
  rw [f_X5_forget] at hf
  refine lv_aload_n hx hb dX5_forget_0 rfl (lv_at hl 0 rfl) ?_
  obtain ⟨q1, e2, hf⟩ := tbd hf
  refine kVv1 (As := []) (rest := []) hC (c_X5_remember (G := G) e2) kq2_88 kc_X5_remember (by decide) 0 (ci := 3) rfl rfl hP hK hD hE hS hA hl.1 (Nat.le_of_ble_eq_true rfl) ⟨Nat.zero_le _, Nat.zero_le _⟩ dX5_forget_1 (fun u9 H locs hw hP hD hS => ?_)
  obtain rfl := hw
  have hP : va_P (gD G) vwCl (wAll G h0 a0 q1.1 a1 q1.2.1 ra rb q1.2.2.1 q1.2.2.2) H := hP
  have hD : va_D A (wAll G h0 a0 q1.1 a1 q1.2.1 ra rb q1.2.2.1 q1.2.2.2) := hD
  refine lv_aload_n hx hb dX5_forget_4 rfl (lv_at hl 0 rfl) ?_
  refine va_get (D := gD G) (ci := 3) (v := .ref (a0 (20 + 0))) (C := RX5) (T := TX5) (N := 11) hx hb hg kl_X5 hown hK hP 0 rfl rfl 0 (by decide) (hg _ kq1_179) (fun _ h9 => h9) rfl dX5_forget_5 ?_
  refine va_get (D := gD G) (ci := 2) (v := .int ((q1.2.2.1 0).1 11)) (C := RX4) (T := TX4) (N := 18) hx hb hg kl_X4 hown hK hP 7 rfl rfl 11 (by decide) (hg _ kq1_75) (fun _ h9 => h9) rfl dX5_forget_8 ?_
  refine lv_istore_n (lv' := [(1, .int ((q1.2.2.1 0).1 11)), (0, .ref h0)]) hx hb dX5_forget_11 rfl hl (by decide) rfl (fun ls hl => ?_)
  refine lv_aload_n hx hb dX5_forget_12 rfl (lv_at hl 1 rfl) ?_
  refine va_get (D := gD G) (ci := 3) (v := .ref (a0 (20 + 0))) (C := RX5) (T := TX5) (N := 11) hx hb hg kl_X5 hown hK hP 0 rfl rfl 0 (by decide) (hg _ kq1_179) (fun _ h9 => h9) rfl dX5_forget_13 ?_
  obtain ⟨q3, e4, hf⟩ := tbd hf
  refine kVpv (As := []) (rest := []) hC (c_X4_loseStep (G := G) e4) kq2_99 kc_X4_loseStep (by decide) 0 (ci := 2) rfl rfl hP hK hD hE hS hA (pR4 (i := 0) (by omega)) (qR4 (i := 0) (by omega)) hl.1 (Nat.le_of_ble_eq_true rfl) ⟨Nat.zero_le _, Nat.zero_le _⟩ dX5_forget_16 (fun u9 H locs hw hP hD hS => ?_)
  obtain rfl := hw
  have hP : va_P (gD G) vwCl (wAll G h0 a0 q1.1 a1 q1.2.1 ra rb (va_up q1.2.2.1 0 q3) q1.2.2.2) H := hP
  have hD : va_D A (wAll G h0 a0 q1.1 a1 q1.2.1 ra rb (va_up q1.2.2.1 0 q3) q1.2.2.2) := hD
  refine lv_iload_n hx hb dX5_forget_19 rfl (lv_at hl 0 rfl) ?_
  have hf := Option.some.inj hf
  subst hf
  exact e_i (wf := (fun v : Ob × Ob × (Nat → Ob) × (Nat → Ob) => (wAll G h0 a0 v.1 a1 v.2.1 ra rb v.2.2.1 v.2.2.2))) hx hb hr hlk (q1.1, (q1.2.1, ((va_up q1.2.2.1 0 q3), q1.2.2.2))) ⟨rfl, rfl⟩ hP hK hD hS dX5_forget_20
set_option maxRecDepth 100000 in
set_option maxHeartbeats 4000000 in
theorem c_X5_writeSign {l : Launch} {G : Gp} {sz N : Nat} {x1 : Int32} {h0 : Nat} {a0 a1 : Nat → Nat} {ra rb : Nat → Nat → Nat} {u0 u1 : Ob} {u2 u3 : Nat → Ob} {q : Ob × Ob × (Nat → Ob) × (Nat → Ob)} (hf : f_X5_writeSign N x1 u0 u1 u2 u3 = some q) : Met l yX5_writeSign (Cond.code yX5_writeSign cX5_writeSign 2 none :: lw_g) ({ frames := 0, cells := 0, slots := 0, locals := 0 } : Room) (va_Pc [.ref h0, .int x1] (pw G (wAll G h0 a0 u0 a1 u1 ra rb u2 u3) sz)) (va_Qv (fun v : Ob × Ob × (Nat → Ob) × (Nat → Ob) => q = v) (bw G (fun v : Ob × Ob × (Nat → Ob) × (Nat → Ob) => (wAll G h0 a0 v.1 a1 v.2.1 ra rb v.2.2.1 v.2.2.2)) (va_A (wAll G h0 a0 u0 a1 u1 ra rb u2 u3) sz)) (va_A (wAll G h0 a0 u0 a1 u1 ra rb u2 u3) sz)) 0 0 (va_A (wAll G h0 a0 u0 a1 u1 ra rb u2 u3) sz) := by
  refine mt (Qc := (fun A => va_Qv (fun v : Ob × Ob × (Nat → Ob) × (Nat → Ob) => q = v) (bw G (fun v : Ob × Ob × (Nat → Ob) × (Nat → Ob) => (wAll G h0 a0 v.1 a1 v.2.1 ra rb v.2.2.1 v.2.2.2)) A) A)) (by decide) (Nat.le_of_ble_eq_true rfl) ?_
  intro p e s m below meth c A ls hx hb hr hlk hml hts hown hA hP hK hD hE hS hl
  have hown : s.vm.findClass RX5 = some m.cls := hown
  have hg : ∀ w ∈ lw_g, w.before ([.ref h0, .int x1] : List Value).toArray s = true := fun w h => hts w (List.mem_cons_of_mem _ h)
  have hC : CallFix p m c cX5_writeSign 2 s ([.ref h0, .int x1] : List Value).toArray (Cond.code yX5_writeSign cX5_writeSign 2 none :: lw_g) RX5 := ⟨hx, hb, hml, hown, hts⟩
  have hl : lv_has ls 2 [(0, .ref h0), (1, .int x1)] := hl
  rw [f_X5_writeSign] at hf
  refine lv_aload_n hx hb dX5_writeSign_0 rfl (lv_at hl 0 rfl) ?_
  refine va_get (D := gD G) (ci := 3) (v := .int (u0.1 10)) (C := RX5) (T := TX5) (N := 11) hx hb hg kl_X5 hown hK hP 0 rfl rfl 10 (by decide) (hg _ kq1_189) (fun _ h9 => h9) rfl dX5_writeSign_1 ?_
  refine lv_bipush (v := (18 : Int32)) hx hb dX5_writeSign_4 (by decide) ?_
  refine lv_icmp_ge (tgt := 30) hx hb dX5_writeSign_6 (by decide) (fun c1 => ?_) (fun c1 => ?_)
  · have hf := tp hf c1
    have hf := Option.some.inj hf
    subst hf
    exact e_v (wf := (fun v : Ob × Ob × (Nat → Ob) × (Nat → Ob) => (wAll G h0 a0 v.1 a1 v.2.1 ra rb v.2.2.1 v.2.2.2))) hx hb hr hlk (u0, (u1, (u2, u3))) rfl hP hK hD hS dX5_writeSign_30
  · have hf := tn hf c1
    refine lv_aload_n hx hb dX5_writeSign_9 rfl (lv_at hl 0 rfl) ?_
    refine va_get (D := gD G) (ci := 3) (v := .ref (a0 9)) (C := RX5) (T := TX5) (N := 11) hx hb hg kl_X5 hown hK hP 0 rfl rfl 9 (by decide) (hg _ kq1_188) (fun _ h9 => h9) rfl dX5_writeSign_10 ?_
    refine lv_aload_n hx hb dX5_writeSign_13 rfl (lv_at hl 0 rfl) ?_
    refine va_get (D := gD G) (ci := 3) (v := .int (u0.1 10)) (C := RX5) (T := TX5) (N := 11) hx hb hg kl_X5 hown hK hP 0 rfl rfl 10 (by decide) (hg _ kq1_189) (fun _ h9 => h9) rfl dX5_writeSign_14 ?_
    refine lv_iload_n hx hb dX5_writeSign_17 rfl (lv_at hl 1 rfl) ?_
    refine lv_i2b (v := x1.toInt8.toInt32) hx hb dX5_writeSign_18 rfl ?_
    obtain ⟨b2, hf⟩ := tno hf
    refine va_bast (f := (u0.2.2.1 9)) hx hb hK hP hD hS 4 0 rfl rfl b2 dX5_writeSign_19 (fun H locs hP hD hS => ?_)
    have hP : va_P (gD G) vwCl (wAll G h0 a0 (oa u0 9 (upd (u0.2.2.1 9) (u0.1 10).toNatClampNeg (vp_nar .byte x1.toInt8.toInt32))) a1 u1 ra rb u2 u3) H := hP
    have hD : va_D A (wAll G h0 a0 (oa u0 9 (upd (u0.2.2.1 9) (u0.1 10).toNatClampNeg (vp_nar .byte x1.toInt8.toInt32))) a1 u1 ra rb u2 u3) := hD
    refine lv_aload_n hx hb dX5_writeSign_20 rfl (lv_at hl 0 rfl) ?_
    refine lv_dup hx hb dX5_writeSign_21 rfl ?_
    refine va_get (D := gD G) (ci := 3) (v := .int (u0.1 10)) (C := RX5) (T := TX5) (N := 11) hx hb hg kl_X5 hown hK hP 0 rfl rfl 10 (by decide) (hg _ kq1_189) (fun _ h9 => h9) rfl dX5_writeSign_22 ?_
    refine lv_iconst (v := (1 : Int32)) hx hb dX5_writeSign_25 (by decide) ?_
    refine lv_iadd hx hb dX5_writeSign_26 ?_
    refine va_put (D := gD G) (ci := 3) (v := .int ((u0.1 10) + (1 : Int32))) (ty := .int) (C := RX5) (T := TX5) (N := 11) hx hb hg kl_X5 tyX5 tyX5_ok nmX5 hown hK hP hD hS 0 rfl rfl 10 (by decide) (hg _ kq1_189) (fun _ h9 => h9) rfl (by decide +kernel) rfl rfl (Nat.le_of_ble_eq_true rfl) dX5_writeSign_27 (fun H locs hP hD hS => ?_)
    have hP : va_P (gD G) vwCl (wAll G h0 a0 (oi (oa u0 9 (upd (u0.2.2.1 9) (u0.1 10).toNatClampNeg (vp_nar .byte x1.toInt8.toInt32))) 10 ((u0.1 10) + (1 : Int32))) a1 u1 ra rb u2 u3) H := hP
    have hD : va_D A (wAll G h0 a0 (oi (oa u0 9 (upd (u0.2.2.1 9) (u0.1 10).toNatClampNeg (vp_nar .byte x1.toInt8.toInt32))) 10 ((u0.1 10) + (1 : Int32))) a1 u1 ra rb u2 u3) := hD
    have hf := Option.some.inj hf
    subst hf
    exact e_v (wf := (fun v : Ob × Ob × (Nat → Ob) × (Nat → Ob) => (wAll G h0 a0 v.1 a1 v.2.1 ra rb v.2.2.1 v.2.2.2))) hx hb hr hlk ((oi (oa u0 9 (upd (u0.2.2.1 9) (u0.1 10).toNatClampNeg (vp_nar .byte x1.toInt8.toInt32))) 10 ((u0.1 10) + (1 : Int32))), (u1, (u2, u3))) rfl hP hK hD hS dX5_writeSign_30
set_option maxRecDepth 100000 in
set_option maxHeartbeats 4000000 in
theorem c_X5_writeTwoDigits {l : Launch} {G : Gp} {sz N : Nat} {x1 : Int32} {h0 : Nat} {a0 a1 : Nat → Nat} {ra rb : Nat → Nat → Nat} {u0 u1 : Ob} {u2 u3 : Nat → Ob} {q : Ob × Ob × (Nat → Ob) × (Nat → Ob)} (hf : f_X5_writeTwoDigits N x1 u0 u1 u2 u3 = some q) : Met l yX5_writeTwoDigits (Cond.code yX5_writeTwoDigits cX5_writeTwoDigits 2 none :: lw_g) ({ frames := 1, cells := 0, slots := 0, locals := 21 } : Room) (va_Pc [.ref h0, .int x1] (pw G (wAll G h0 a0 u0 a1 u1 ra rb u2 u3) sz)) (va_Qv (fun v : Ob × Ob × (Nat → Ob) × (Nat → Ob) => q = v) (bw G (fun v : Ob × Ob × (Nat → Ob) × (Nat → Ob) => (wAll G h0 a0 v.1 a1 v.2.1 ra rb v.2.2.1 v.2.2.2)) (va_A (wAll G h0 a0 u0 a1 u1 ra rb u2 u3) sz)) (va_A (wAll G h0 a0 u0 a1 u1 ra rb u2 u3) sz)) 0 0 (va_A (wAll G h0 a0 u0 a1 u1 ra rb u2 u3) sz) := by
  refine mt (Qc := (fun A => va_Qv (fun v : Ob × Ob × (Nat → Ob) × (Nat → Ob) => q = v) (bw G (fun v : Ob × Ob × (Nat → Ob) × (Nat → Ob) => (wAll G h0 a0 v.1 a1 v.2.1 ra rb v.2.2.1 v.2.2.2)) A) A)) (by decide) (Nat.le_of_ble_eq_true rfl) ?_
  intro p e s m below meth c A ls hx hb hr hlk hml hts hown hA hP hK hD hE hS hl
  have hown : s.vm.findClass RX5 = some m.cls := hown
  have hg : ∀ w ∈ lw_g, w.before ([.ref h0, .int x1] : List Value).toArray s = true := fun w h => hts w (List.mem_cons_of_mem _ h)
  have hC : CallFix p m c cX5_writeTwoDigits 2 s ([.ref h0, .int x1] : List Value).toArray (Cond.code yX5_writeTwoDigits cX5_writeTwoDigits 2 none :: lw_g) RX5 := ⟨hx, hb, hml, hown, hts⟩
  have hl : lv_has ls 2 [(0, .ref h0), (1, .int x1)] := hl
  rw [f_X5_writeTwoDigits] at hf
  refine lv_aload_n hx hb dX5_writeTwoDigits_0 rfl (lv_at hl 0 rfl) ?_
  refine lv_bipush (v := (48 : Int32)) hx hb dX5_writeTwoDigits_1 (by decide) ?_
  refine lv_iload_n hx hb dX5_writeTwoDigits_3 rfl (lv_at hl 1 rfl) ?_
  refine lv_bipush (v := (10 : Int32)) hx hb dX5_writeTwoDigits_4 (by decide) ?_
  refine lv_idiv hx hb dX5_writeTwoDigits_6 (by decide) ?_
  refine lv_iadd hx hb dX5_writeTwoDigits_7 ?_
  refine lv_i2c (v := (i2c ((48 : Int32) + (x1 / (10 : Int32))))) hx hb dX5_writeTwoDigits_8 rfl ?_
  obtain ⟨q1, e2, hf⟩ := tbd hf
  refine kVv1 (As := [.int (i2c ((48 : Int32) + (x1 / (10 : Int32))))]) (rest := []) hC (c_X5_writeSign (G := G) e2) kq4_191 kc_X5_writeSign (by decide) 0 (ci := 3) rfl rfl hP hK hD hE hS hA hl.1 (Nat.le_of_ble_eq_true rfl) ⟨Nat.zero_le _, Nat.zero_le _⟩ dX5_writeTwoDigits_9 (fun u9 H locs hw hP hD hS => ?_)
  obtain rfl := hw
  have hP : va_P (gD G) vwCl (wAll G h0 a0 q1.1 a1 q1.2.1 ra rb q1.2.2.1 q1.2.2.2) H := hP
  have hD : va_D A (wAll G h0 a0 q1.1 a1 q1.2.1 ra rb q1.2.2.1 q1.2.2.2) := hD
  refine lv_aload_n hx hb dX5_writeTwoDigits_12 rfl (lv_at hl 0 rfl) ?_
  refine lv_bipush (v := (48 : Int32)) hx hb dX5_writeTwoDigits_13 (by decide) ?_
  refine lv_iload_n hx hb dX5_writeTwoDigits_15 rfl (lv_at hl 1 rfl) ?_
  refine lv_bipush (v := (10 : Int32)) hx hb dX5_writeTwoDigits_16 (by decide) ?_
  refine lv_irem hx hb dX5_writeTwoDigits_18 (by decide) ?_
  refine lv_iadd hx hb dX5_writeTwoDigits_19 ?_
  refine lv_i2c (v := (i2c ((48 : Int32) + (x1 - x1 / (10 : Int32) * (10 : Int32))))) hx hb dX5_writeTwoDigits_20 rfl ?_
  obtain ⟨q3, e4, hf⟩ := tbd hf
  refine kVv1 (As := [.int (i2c ((48 : Int32) + (x1 - x1 / (10 : Int32) * (10 : Int32))))]) (rest := []) hC (c_X5_writeSign (G := G) e4) kq4_191 kc_X5_writeSign (by decide) 0 (ci := 3) rfl rfl hP hK hD hE hS hA hl.1 (Nat.le_of_ble_eq_true rfl) ⟨Nat.zero_le _, Nat.zero_le _⟩ dX5_writeTwoDigits_21 (fun u9 H locs hw hP hD hS => ?_)
  obtain rfl := hw
  have hP : va_P (gD G) vwCl (wAll G h0 a0 q3.1 a1 q3.2.1 ra rb q3.2.2.1 q3.2.2.2) H := hP
  have hD : va_D A (wAll G h0 a0 q3.1 a1 q3.2.1 ra rb q3.2.2.1 q3.2.2.2) := hD
  have hf := Option.some.inj hf
  subst hf
  exact e_v (wf := (fun v : Ob × Ob × (Nat → Ob) × (Nat → Ob) => (wAll G h0 a0 v.1 a1 v.2.1 ra rb v.2.2.1 v.2.2.2))) hx hb hr hlk (q3.1, (q3.2.1, (q3.2.2.1, q3.2.2.2))) rfl hP hK hD hS dX5_writeTwoDigits_24
set_option maxRecDepth 100000 in
set_option maxHeartbeats 4000000 in
theorem c_X5_writeTime {l : Launch} (hlf : l.stackTraces = false) {G : Gp} {sz N : Nat} {x1 : Int32} {h0 : Nat} {a0 a1 : Nat → Nat} {ra rb : Nat → Nat → Nat} {u0 u1 : Ob} {u2 u3 : Nat → Ob} {q : (Nat ⊕ Int32) × Ob × Ob × (Nat → Ob) × (Nat → Ob)} (hf : f_X5_writeTime N x1 u0 u1 u2 u3 = some q) : vx_Met l yX5_writeTime (Cond.code yX5_writeTime cX5_writeTime 3 (some .int) :: lw_g) ({ frames := 6, cells := 1, slots := 6, locals := 90 } : Room) (va_Pc [.ref h0, .int x1] (pw G (wAll G h0 a0 u0 a1 u1 ra rb u2 u3) sz)) (va_Qi (fun (r : Int32) (v : Ob × Ob × (Nat → Ob) × (Nat → Ob)) => q = (.inr r, v)) (bw G (fun v : Ob × Ob × (Nat → Ob) × (Nat → Ob) => (wAll G h0 a0 v.1 a1 v.2.1 ra rb v.2.2.1 v.2.2.2)) (va_A (wAll G h0 a0 u0 a1 u1 ra rb u2 u3) sz)) (va_A (wAll G h0 a0 u0 a1 u1 ra rb u2 u3) sz)) (XQ (fun z : Nat × (Ob × Ob × (Nat → Ob) × (Nat → Ob)) => q = (.inl z.1, z.2)) G (fun v : Ob × Ob × (Nat → Ob) × (Nat → Ob) => (wAll G h0 a0 v.1 a1 v.2.1 ra rb v.2.2.1 v.2.2.2)) (va_A (wAll G h0 a0 u0 a1 u1 ra rb u2 u3) sz)) 1 6 (va_A (wAll G h0 a0 u0 a1 u1 ra rb u2 u3) sz) := by
  refine mtx (Qc := (fun A => va_Qi (fun (r : Int32) (v : Ob × Ob × (Nat → Ob) × (Nat → Ob)) => q = (.inr r, v)) (bw G (fun v : Ob × Ob × (Nat → Ob) × (Nat → Ob) => (wAll G h0 a0 v.1 a1 v.2.1 ra rb v.2.2.1 v.2.2.2)) A) A)) (XC := fun A => XQ (fun z : Nat × (Ob × Ob × (Nat → Ob) × (Nat → Ob)) => q = (.inl z.1, z.2)) G (fun v : Ob × Ob × (Nat → Ob) × (Nat → Ob) => (wAll G h0 a0 v.1 a1 v.2.1 ra rb v.2.2.1 v.2.2.2)) A) (by decide) (Nat.le_of_ble_eq_true rfl) ?_
  intro p e s m below meth c A ls hx hb hr hlk hml htb hts hown hA hP hK hD hE hS hl
  have hown : s.vm.findClass RX5 = some m.cls := hown
  have hg : ∀ w ∈ lw_g, w.before ([.ref h0, .int x1] : List Value).toArray s = true := fun w h => hts w (List.mem_cons_of_mem _ h)
  have hC : CallFix p m c cX5_writeTime 3 s ([.ref h0, .int x1] : List Value).toArray (Cond.code yX5_writeTime cX5_writeTime 3 (some .int) :: lw_g) RX5 := ⟨hx, hb, hml, hown, hts⟩
  have hl : lv_has ls 3 [(0, .ref h0), (1, .int x1)] := hl
  rw [f_X5_writeTime] at hf
  refine lv_iload_n hx hb dX5_writeTime_0 rfl (lv_at hl 1 rfl) ?_
  obtain ⟨q1, e2, hf⟩ := tbd hf
  refine kSi0 (As := [.int x1]) (rest := []) hC (c_X1_hasMinute (G := G) e2) kq3_204 kc_X1_hasMinute (by decide) hP hK hD hE hS hA hl.1 (Nat.le_of_ble_eq_true rfl) ⟨Nat.zero_le _, Nat.zero_le _⟩ dX5_writeTime_1 (fun r9 u9 H locs hw hP hD hS => ?_)
  obtain ⟨rfl, rfl⟩ := hw
  refine bz_ne (tgt := 17) hx hb dX5_writeTime_4 (by decide) (fun c3 => ?_) (fun c3 => ?_)
  · have hf := tp hf c3
    refine lv_iload_n hx hb dX5_writeTime_17 rfl (lv_at hl 1 rfl) ?_
    refine lv_sipush (v := (1440 : Int32)) hx hb dX5_writeTime_18 (by decide) ?_
    refine lv_idiv hx hb dX5_writeTime_21 (by decide) ?_
    refine lv_istore_n (lv' := [(2, .int (x1 / (1440 : Int32))), (0, .ref h0), (1, .int x1)]) hx hb dX5_writeTime_22 rfl hl (by decide) rfl (fun ls hl => ?_)
    refine lv_aload_n hx hb dX5_writeTime_23 rfl (lv_at hl 1 rfl) ?_
    refine lv_iconst (v := (0 : Int32)) hx hb dX5_writeTime_24 (by decide) ?_
    refine va_put (D := gD G) (ci := 3) (v := .int (0 : Int32)) (ty := .int) (C := RX5) (T := TX5) (N := 11) hx hb hg kl_X5 tyX5 tyX5_ok nmX5 hown hK hP hD hS 0 rfl rfl 10 (by decide) (hg _ kq1_189) (fun _ h9 => h9) rfl (by decide +kernel) rfl rfl (Nat.le_of_ble_eq_true rfl) dX5_writeTime_25 (fun H locs hP hD hS => ?_)
    have hP : va_P (gD G) vwCl (wAll G h0 a0 (oi u0 10 (0 : Int32)) a1 u1 ra rb u2 u3) H := hP
    have hD : va_D A (wAll G h0 a0 (oi u0 10 (0 : Int32)) a1 u1 ra rb u2 u3) := hD
    refine lv_aload_n hx hb dX5_writeTime_28 rfl (lv_at hl 1 rfl) ?_
    refine lv_bipush (v := (20 : Int32)) hx hb dX5_writeTime_29 (by decide) ?_
    obtain ⟨q4, e5, hf⟩ := tbd hf
    refine kVv1 (As := [.int (20 : Int32)]) (rest := []) hC (c_X5_writeTwoDigits (G := G) e5) kq4_187 kc_X5_writeTwoDigits (by decide) 0 (ci := 3) rfl rfl hP hK hD hE hS hA hl.1 (Nat.le_of_ble_eq_true rfl) ⟨Nat.zero_le _, Nat.zero_le _⟩ dX5_writeTime_31 (fun u9 H locs hw hP hD hS => ?_)
    obtain rfl := hw
    have hP : va_P (gD G) vwCl (wAll G h0 a0 q4.1 a1 q4.2.1 ra rb q4.2.2.1 q4.2.2.2) H := hP
    have hD : va_D A (wAll G h0 a0 q4.1 a1 q4.2.1 ra rb q4.2.2.1 q4.2.2.2) := hD
    refine lv_aload_n hx hb dX5_writeTime_34 rfl (lv_at hl 1 rfl) ?_
    refine lv_iload_n hx hb dX5_writeTime_35 rfl (lv_at hl 0 rfl) ?_
    obtain ⟨q6, e7, hf⟩ := tbd hf
    refine kSi0 (As := [.int (x1 / (1440 : Int32))]) (rest := [.ref h0]) hC (c_X1_yearOf (G := G) e7) kq3_209 kc_X1_yearOf (by decide) hP hK hD hE hS hA hl.1 (Nat.le_of_ble_eq_true rfl) ⟨Nat.zero_le _, Nat.zero_le _⟩ dX5_writeTime_36 (fun r9 u9 H locs hw hP hD hS => ?_)
    obtain ⟨rfl, rfl⟩ := hw
    obtain ⟨q8, e9, hf⟩ := tbd hf
    refine kVv1 (As := [.int q6]) (rest := []) hC (c_X5_writeTwoDigits (G := G) e9) kq4_187 kc_X5_writeTwoDigits (by decide) 0 (ci := 3) rfl rfl hP hK hD hE hS hA hl.1 (Nat.le_of_ble_eq_true rfl) ⟨Nat.zero_le _, Nat.zero_le _⟩ dX5_writeTime_39 (fun u9 H locs hw hP hD hS => ?_)
    obtain rfl := hw
    have hP : va_P (gD G) vwCl (wAll G h0 a0 q8.1 a1 q8.2.1 ra rb q8.2.2.1 q8.2.2.2) H := hP
    have hD : va_D A (wAll G h0 a0 q8.1 a1 q8.2.1 ra rb q8.2.2.1 q8.2.2.2) := hD
    refine lv_aload_n hx hb dX5_writeTime_42 rfl (lv_at hl 1 rfl) ?_
    refine lv_bipush (v := (45 : Int32)) hx hb dX5_writeTime_43 (by decide) ?_
    obtain ⟨q10, e11, hf⟩ := tbd hf
    refine kVv1 (As := [.int (45 : Int32)]) (rest := []) hC (c_X5_writeSign (G := G) e11) kq4_191 kc_X5_writeSign (by decide) 0 (ci := 3) rfl rfl hP hK hD hE hS hA hl.1 (Nat.le_of_ble_eq_true rfl) ⟨Nat.zero_le _, Nat.zero_le _⟩ dX5_writeTime_45 (fun u9 H locs hw hP hD hS => ?_)
    obtain rfl := hw
    have hP : va_P (gD G) vwCl (wAll G h0 a0 q10.1 a1 q10.2.1 ra rb q10.2.2.1 q10.2.2.2) H := hP
    have hD : va_D A (wAll G h0 a0 q10.1 a1 q10.2.1 ra rb q10.2.2.1 q10.2.2.2) := hD
    refine lv_aload_n hx hb dX5_writeTime_48 rfl (lv_at hl 1 rfl) ?_
    refine lv_iload_n hx hb dX5_writeTime_49 rfl (lv_at hl 0 rfl) ?_
    obtain ⟨q12, e13, hf⟩ := tbd hf
    refine kSi0 (As := [.int (x1 / (1440 : Int32))]) (rest := [.ref h0]) hC (c_X1_monthOf (G := G) e13) kq3_210 kc_X1_monthOf (by decide) hP hK hD hE hS hA hl.1 (Nat.le_of_ble_eq_true rfl) ⟨Nat.zero_le _, Nat.zero_le _⟩ dX5_writeTime_50 (fun r9 u9 H locs hw hP hD hS => ?_)
    obtain ⟨rfl, rfl⟩ := hw
    obtain ⟨q14, e15, hf⟩ := tbd hf
    refine kVv1 (As := [.int q12]) (rest := []) hC (c_X5_writeTwoDigits (G := G) e15) kq4_187 kc_X5_writeTwoDigits (by decide) 0 (ci := 3) rfl rfl hP hK hD hE hS hA hl.1 (Nat.le_of_ble_eq_true rfl) ⟨Nat.zero_le _, Nat.zero_le _⟩ dX5_writeTime_53 (fun u9 H locs hw hP hD hS => ?_)
    obtain rfl := hw
    have hP : va_P (gD G) vwCl (wAll G h0 a0 q14.1 a1 q14.2.1 ra rb q14.2.2.1 q14.2.2.2) H := hP
    have hD : va_D A (wAll G h0 a0 q14.1 a1 q14.2.1 ra rb q14.2.2.1 q14.2.2.2) := hD
    refine lv_aload_n hx hb dX5_writeTime_56 rfl (lv_at hl 1 rfl) ?_
    refine lv_bipush (v := (45 : Int32)) hx hb dX5_writeTime_57 (by decide) ?_
    obtain ⟨q16, e17, hf⟩ := tbd hf
    refine kVv1 (As := [.int (45 : Int32)]) (rest := []) hC (c_X5_writeSign (G := G) e17) kq4_191 kc_X5_writeSign (by decide) 0 (ci := 3) rfl rfl hP hK hD hE hS hA hl.1 (Nat.le_of_ble_eq_true rfl) ⟨Nat.zero_le _, Nat.zero_le _⟩ dX5_writeTime_59 (fun u9 H locs hw hP hD hS => ?_)
    obtain rfl := hw
    have hP : va_P (gD G) vwCl (wAll G h0 a0 q16.1 a1 q16.2.1 ra rb q16.2.2.1 q16.2.2.2) H := hP
    have hD : va_D A (wAll G h0 a0 q16.1 a1 q16.2.1 ra rb q16.2.2.1 q16.2.2.2) := hD
    refine lv_aload_n hx hb dX5_writeTime_62 rfl (lv_at hl 1 rfl) ?_
    refine lv_iload_n hx hb dX5_writeTime_63 rfl (lv_at hl 0 rfl) ?_
    obtain ⟨q18, e19, hf⟩ := tbd hf
    refine kSi0 (As := [.int (x1 / (1440 : Int32))]) (rest := [.ref h0]) hC (c_X1_dayOfMonth (G := G) e19) kq3_211 kc_X1_dayOfMonth (by decide) hP hK hD hE hS hA hl.1 (Nat.le_of_ble_eq_true rfl) ⟨Nat.zero_le _, Nat.zero_le _⟩ dX5_writeTime_64 (fun r9 u9 H locs hw hP hD hS => ?_)
    obtain ⟨rfl, rfl⟩ := hw
    obtain ⟨q20, e21, hf⟩ := tbd hf
    refine kVv1 (As := [.int q18]) (rest := []) hC (c_X5_writeTwoDigits (G := G) e21) kq4_187 kc_X5_writeTwoDigits (by decide) 0 (ci := 3) rfl rfl hP hK hD hE hS hA hl.1 (Nat.le_of_ble_eq_true rfl) ⟨Nat.zero_le _, Nat.zero_le _⟩ dX5_writeTime_67 (fun u9 H locs hw hP hD hS => ?_)
    obtain rfl := hw
    have hP : va_P (gD G) vwCl (wAll G h0 a0 q20.1 a1 q20.2.1 ra rb q20.2.2.1 q20.2.2.2) H := hP
    have hD : va_D A (wAll G h0 a0 q20.1 a1 q20.2.1 ra rb q20.2.2.1 q20.2.2.2) := hD
    refine lv_aload_n hx hb dX5_writeTime_70 rfl (lv_at hl 1 rfl) ?_
    refine lv_bipush (v := (32 : Int32)) hx hb dX5_writeTime_71 (by decide) ?_
    obtain ⟨q22, e23, hf⟩ := tbd hf
    refine kVv1 (As := [.int (32 : Int32)]) (rest := []) hC (c_X5_writeSign (G := G) e23) kq4_191 kc_X5_writeSign (by decide) 0 (ci := 3) rfl rfl hP hK hD hE hS hA hl.1 (Nat.le_of_ble_eq_true rfl) ⟨Nat.zero_le _, Nat.zero_le _⟩ dX5_writeTime_73 (fun u9 H locs hw hP hD hS => ?_)
    obtain rfl := hw
    have hP : va_P (gD G) vwCl (wAll G h0 a0 q22.1 a1 q22.2.1 ra rb q22.2.2.1 q22.2.2.2) H := hP
    have hD : va_D A (wAll G h0 a0 q22.1 a1 q22.2.1 ra rb q22.2.2.1 q22.2.2.2) := hD
    refine lv_aload_n hx hb dX5_writeTime_76 rfl (lv_at hl 1 rfl) ?_
    refine lv_iload_n hx hb dX5_writeTime_77 rfl (lv_at hl 2 rfl) ?_
    refine lv_bipush (v := (60 : Int32)) hx hb dX5_writeTime_78 (by decide) ?_
    refine lv_idiv hx hb dX5_writeTime_80 (by decide) ?_
    refine lv_bipush (v := (24 : Int32)) hx hb dX5_writeTime_81 (by decide) ?_
    refine lv_irem hx hb dX5_writeTime_83 (by decide) ?_
    obtain ⟨q24, e25, hf⟩ := tbd hf
    refine kVv1 (As := [.int ((x1 / (60 : Int32)) - (x1 / (60 : Int32)) / (24 : Int32) * (24 : Int32))]) (rest := []) hC (c_X5_writeTwoDigits (G := G) e25) kq4_187 kc_X5_writeTwoDigits (by decide) 0 (ci := 3) rfl rfl hP hK hD hE hS hA hl.1 (Nat.le_of_ble_eq_true rfl) ⟨Nat.zero_le _, Nat.zero_le _⟩ dX5_writeTime_84 (fun u9 H locs hw hP hD hS => ?_)
    obtain rfl := hw
    have hP : va_P (gD G) vwCl (wAll G h0 a0 q24.1 a1 q24.2.1 ra rb q24.2.2.1 q24.2.2.2) H := hP
    have hD : va_D A (wAll G h0 a0 q24.1 a1 q24.2.1 ra rb q24.2.2.1 q24.2.2.2) := hD
    refine lv_aload_n hx hb dX5_writeTime_87 rfl (lv_at hl 1 rfl) ?_
    refine lv_bipush (v := (58 : Int32)) hx hb dX5_writeTime_88 (by decide) ?_
    obtain ⟨q26, e27, hf⟩ := tbd hf
    refine kVv1 (As := [.int (58 : Int32)]) (rest := []) hC (c_X5_writeSign (G := G) e27) kq4_191 kc_X5_writeSign (by decide) 0 (ci := 3) rfl rfl hP hK hD hE hS hA hl.1 (Nat.le_of_ble_eq_true rfl) ⟨Nat.zero_le _, Nat.zero_le _⟩ dX5_writeTime_90 (fun u9 H locs hw hP hD hS => ?_)
    obtain rfl := hw
    have hP : va_P (gD G) vwCl (wAll G h0 a0 q26.1 a1 q26.2.1 ra rb q26.2.2.1 q26.2.2.2) H := hP
    have hD : va_D A (wAll G h0 a0 q26.1 a1 q26.2.1 ra rb q26.2.2.1 q26.2.2.2) := hD
    refine lv_aload_n hx hb dX5_writeTime_93 rfl (lv_at hl 1 rfl) ?_
    refine lv_iload_n hx hb dX5_writeTime_94 rfl (lv_at hl 2 rfl) ?_
    refine lv_bipush (v := (60 : Int32)) hx hb dX5_writeTime_95 (by decide) ?_
    refine lv_irem hx hb dX5_writeTime_97 (by decide) ?_
    obtain ⟨q28, e29, hf⟩ := tbd hf
    refine kVv1 (As := [.int (x1 - x1 / (60 : Int32) * (60 : Int32))]) (rest := []) hC (c_X5_writeTwoDigits (G := G) e29) kq4_187 kc_X5_writeTwoDigits (by decide) 0 (ci := 3) rfl rfl hP hK hD hE hS hA hl.1 (Nat.le_of_ble_eq_true rfl) ⟨Nat.zero_le _, Nat.zero_le _⟩ dX5_writeTime_98 (fun u9 H locs hw hP hD hS => ?_)
    obtain rfl := hw
    have hP : va_P (gD G) vwCl (wAll G h0 a0 q28.1 a1 q28.2.1 ra rb q28.2.2.1 q28.2.2.2) H := hP
    have hD : va_D A (wAll G h0 a0 q28.1 a1 q28.2.1 ra rb q28.2.2.1 q28.2.2.2) := hD
    refine lv_aload_n hx hb dX5_writeTime_101 rfl (lv_at hl 1 rfl) ?_
    refine lv_bipush (v := (32 : Int32)) hx hb dX5_writeTime_102 (by decide) ?_
    obtain ⟨q30, e31, hf⟩ := tbd hf
    refine kVv1 (As := [.int (32 : Int32)]) (rest := []) hC (c_X5_writeSign (G := G) e31) kq4_191 kc_X5_writeSign (by decide) 0 (ci := 3) rfl rfl hP hK hD hE hS hA hl.1 (Nat.le_of_ble_eq_true rfl) ⟨Nat.zero_le _, Nat.zero_le _⟩ dX5_writeTime_104 (fun u9 H locs hw hP hD hS => ?_)
    obtain rfl := hw
    have hP : va_P (gD G) vwCl (wAll G h0 a0 q30.1 a1 q30.2.1 ra rb q30.2.2.1 q30.2.2.2) H := hP
    have hD : va_D A (wAll G h0 a0 q30.1 a1 q30.2.1 ra rb q30.2.2.1 q30.2.2.2) := hD
    refine lv_aload_n hx hb dX5_writeTime_107 rfl (lv_at hl 1 rfl) ?_
    refine lv_bipush (v := (48 : Int32)) hx hb dX5_writeTime_108 (by decide) ?_
    refine lv_iload_n hx hb dX5_writeTime_110 rfl (lv_at hl 0 rfl) ?_
    obtain ⟨q32, e33, hf⟩ := tbd hf
    refine kSi0 (As := [.int (x1 / (1440 : Int32))]) (rest := [.int (48 : Int32), .ref h0]) hC (c_X1_weekdayOf (G := G) e33) kq3_212 kc_X1_weekdayOf (by decide) hP hK hD hE hS hA hl.1 (Nat.le_of_ble_eq_true rfl) ⟨Nat.zero_le _, Nat.zero_le _⟩ dX5_writeTime_111 (fun r9 u9 H locs hw hP hD hS => ?_)
    obtain ⟨rfl, rfl⟩ := hw
    refine lv_iadd hx hb dX5_writeTime_114 ?_
    refine lv_i2c (v := (i2c ((48 : Int32) + q32))) hx hb dX5_writeTime_115 rfl ?_
    obtain ⟨q34, e35, hf⟩ := tbd hf
    refine kVv1 (As := [.int (i2c ((48 : Int32) + q32))]) (rest := []) hC (c_X5_writeSign (G := G) e35) kq4_191 kc_X5_writeSign (by decide) 0 (ci := 3) rfl rfl hP hK hD hE hS hA hl.1 (Nat.le_of_ble_eq_true rfl) ⟨Nat.zero_le _, Nat.zero_le _⟩ dX5_writeTime_116 (fun u9 H locs hw hP hD hS => ?_)
    obtain rfl := hw
    have hP : va_P (gD G) vwCl (wAll G h0 a0 q34.1 a1 q34.2.1 ra rb q34.2.2.1 q34.2.2.2) H := hP
    have hD : va_D A (wAll G h0 a0 q34.1 a1 q34.2.1 ra rb q34.2.2.1 q34.2.2.2) := hD
    refine lv_aload_n hx hb dX5_writeTime_119 rfl (lv_at hl 1 rfl) ?_
    refine va_get (D := gD G) (ci := 3) (v := .int (q34.1.1 10)) (C := RX5) (T := TX5) (N := 11) hx hb hg kl_X5 hown hK hP 0 rfl rfl 10 (by decide) (hg _ kq1_189) (fun _ h9 => h9) rfl dX5_writeTime_120 ?_
    have hf := Option.some.inj hf
    subst hf
    refine W.widen (k := 1) (n := 6) (Nat.zero_le _) (Nat.zero_le _) ?_
    refine vx_ret ?_
    exact e_i (wf := (fun v : Ob × Ob × (Nat → Ob) × (Nat → Ob) => (wAll G h0 a0 v.1 a1 v.2.1 ra rb v.2.2.1 v.2.2.2))) hx hb hr hlk (q34.1, (q34.2.1, (q34.2.2.1, q34.2.2.2))) rfl hP hK hD hS dX5_writeTime_123
  · have hf := tn hf c3
    have hf := Option.some.inj hf
    subst hf
    exact thS (wf := (fun v : Ob × Ob × (Nat → Ob) × (Nat → Ob) => (wAll G h0 a0 v.1 a1 v.2.1 ra rb v.2.2.1 v.2.2.2))) (E := "java/lang/IllegalArgumentException") (tx := "no such minute") (u0, (u1, (u2, u3))) hx hb hlf hml hlk htb hown hg (k := 1) rfl kq2_191 kq1_10 (by decide +kernel) atg_63 atn_63 ato_63 (by decide +kernel) hP hK hD hE hS hl.1 rfl (by decide) dX5_writeTime_7 dX5_writeTime_10 dX5_writeTime_11 dX5_writeTime_13 dX5_writeTime_16
set_option maxRecDepth 100000 in
set_option maxHeartbeats 4000000 in
theorem c_X5_writtenByte {l : Launch} (hlf : l.stackTraces = false) {G : Gp} {sz N : Nat} {x1 : Int32} {h0 : Nat} {a0 a1 : Nat → Nat} {ra rb : Nat → Nat → Nat} {u0 u1 : Ob} {u2 u3 : Nat → Ob} {q : (Nat ⊕ Int32) × Ob × Ob × (Nat → Ob) × (Nat → Ob)} (hf : f_X5_writtenByte N x1 u0 u1 u2 u3 = some q) : vx_Met l yX5_writtenByte (Cond.code yX5_writtenByte cX5_writtenByte 2 (some .int) :: lw_g) ({ frames := 6, cells := 1, slots := 6, locals := 90 } : Room) (va_Pc [.ref h0, .int x1] (pw G (wAll G h0 a0 u0 a1 u1 ra rb u2 u3) sz)) (va_Qi (fun (r : Int32) (v : Ob × Ob × (Nat → Ob) × (Nat → Ob)) => q = (.inr r, v)) (bw G (fun v : Ob × Ob × (Nat → Ob) × (Nat → Ob) => (wAll G h0 a0 v.1 a1 v.2.1 ra rb v.2.2.1 v.2.2.2)) (va_A (wAll G h0 a0 u0 a1 u1 ra rb u2 u3) sz)) (va_A (wAll G h0 a0 u0 a1 u1 ra rb u2 u3) sz)) (XQ (fun z : Nat × (Ob × Ob × (Nat → Ob) × (Nat → Ob)) => q = (.inl z.1, z.2)) G (fun v : Ob × Ob × (Nat → Ob) × (Nat → Ob) => (wAll G h0 a0 v.1 a1 v.2.1 ra rb v.2.2.1 v.2.2.2)) (va_A (wAll G h0 a0 u0 a1 u1 ra rb u2 u3) sz)) 1 6 (va_A (wAll G h0 a0 u0 a1 u1 ra rb u2 u3) sz) := by
  refine mtx (Qc := (fun A => va_Qi (fun (r : Int32) (v : Ob × Ob × (Nat → Ob) × (Nat → Ob)) => q = (.inr r, v)) (bw G (fun v : Ob × Ob × (Nat → Ob) × (Nat → Ob) => (wAll G h0 a0 v.1 a1 v.2.1 ra rb v.2.2.1 v.2.2.2)) A) A)) (XC := fun A => XQ (fun z : Nat × (Ob × Ob × (Nat → Ob) × (Nat → Ob)) => q = (.inl z.1, z.2)) G (fun v : Ob × Ob × (Nat → Ob) × (Nat → Ob) => (wAll G h0 a0 v.1 a1 v.2.1 ra rb v.2.2.1 v.2.2.2)) A) (by decide) (Nat.le_of_ble_eq_true rfl) ?_
  intro p e s m below meth c A ls hx hb hr hlk hml htb hts hown hA hP hK hD hE hS hl
  have hown : s.vm.findClass RX5 = some m.cls := hown
  have hg : ∀ w ∈ lw_g, w.before ([.ref h0, .int x1] : List Value).toArray s = true := fun w h => hts w (List.mem_cons_of_mem _ h)
  have hC : CallFix p m c cX5_writtenByte 2 s ([.ref h0, .int x1] : List Value).toArray (Cond.code yX5_writtenByte cX5_writtenByte 2 (some .int) :: lw_g) RX5 := ⟨hx, hb, hml, hown, hts⟩
  have hl : lv_has ls 2 [(0, .ref h0), (1, .int x1)] := hl
  rw [f_X5_writtenByte] at hf
  refine lv_iload_n hx hb dX5_writtenByte_0 rfl (lv_at hl 1 rfl) ?_
  refine lv_if_lt (tgt := 18) hx hb dX5_writtenByte_1 (by decide) (fun c1 => ?_) (fun c1 => ?_)
  · have hf := tp hf c1
    have hf := Option.some.inj hf
    subst hf
    exact thW (wf := (fun v : Ob × Ob × (Nat → Ob) × (Nat → Ob) => (wAll G h0 a0 v.1 a1 v.2.1 ra rb v.2.2.1 v.2.2.2))) (E := "java/lang/IndexOutOfBoundsException") (tx := "no such byte") (u0, (u1, (u2, u3))) hx hb hlf hml hlk htb hown hg (k := 2) rfl kq4_21 kq1_20 (by decide +kernel) atg_209 atn_209 ato_209 (by decide +kernel) hP hK hD hE hS hl.1 rfl (by decide) dX5_writtenByte_18 dX5_writtenByte_21 dX5_writtenByte_22 dX5_writtenByte_25 dX5_writtenByte_28
  · have hf := tn hf c1
    refine lv_iload_n hx hb dX5_writtenByte_4 rfl (lv_at hl 1 rfl) ?_
    refine lv_aload_n hx hb dX5_writtenByte_5 rfl (lv_at hl 0 rfl) ?_
    refine va_get (D := gD G) (ci := 3) (v := .int (u0.1 10)) (C := RX5) (T := TX5) (N := 11) hx hb hg kl_X5 hown hK hP 0 rfl rfl 10 (by decide) (hg _ kq1_189) (fun _ h9 => h9) rfl dX5_writtenByte_6 ?_
    refine lv_icmp_ge (tgt := 18) hx hb dX5_writtenByte_9 (by decide) (fun c2 => ?_) (fun c2 => ?_)
    · have hf := tp hf c2
      have hf := Option.some.inj hf
      subst hf
      exact thW (wf := (fun v : Ob × Ob × (Nat → Ob) × (Nat → Ob) => (wAll G h0 a0 v.1 a1 v.2.1 ra rb v.2.2.1 v.2.2.2))) (E := "java/lang/IndexOutOfBoundsException") (tx := "no such byte") (u0, (u1, (u2, u3))) hx hb hlf hml hlk htb hown hg (k := 2) rfl kq4_21 kq1_20 (by decide +kernel) atg_209 atn_209 ato_209 (by decide +kernel) hP hK hD hE hS hl.1 rfl (by decide) dX5_writtenByte_18 dX5_writtenByte_21 dX5_writtenByte_22 dX5_writtenByte_25 dX5_writtenByte_28
    · have hf := tn hf c2
      refine lv_iload_n hx hb dX5_writtenByte_12 rfl (lv_at hl 1 rfl) ?_
      refine lv_bipush (v := (18 : Int32)) hx hb dX5_writtenByte_13 (by decide) ?_
      refine lv_icmp_lt (tgt := 29) hx hb dX5_writtenByte_15 (by decide) (fun c3 => ?_) (fun c3 => ?_)
      · have hf := tp hf c3
        refine lv_aload_n hx hb dX5_writtenByte_29 rfl (lv_at hl 0 rfl) ?_
        refine va_get (D := gD G) (ci := 3) (v := .ref (a0 9)) (C := RX5) (T := TX5) (N := 11) hx hb hg kl_X5 hown hK hP 0 rfl rfl 9 (by decide) (hg _ kq1_188) (fun _ h9 => h9) rfl dX5_writtenByte_30 ?_
        refine lv_iload_n hx hb dX5_writtenByte_33 rfl (lv_at hl 1 rfl) ?_
        obtain ⟨b4, hf⟩ := tno hf
        refine va_bald (f := (u0.2.2.1 9)) hx hb hK hP 4 0 rfl rfl b4 dX5_writtenByte_34 ?_
        have hf := Option.some.inj hf
        subst hf
        refine W.widen (k := 1) (n := 6) (Nat.zero_le _) (Nat.zero_le _) ?_
        refine vx_ret ?_
        exact e_i (wf := (fun v : Ob × Ob × (Nat → Ob) × (Nat → Ob) => (wAll G h0 a0 v.1 a1 v.2.1 ra rb v.2.2.1 v.2.2.2))) hx hb hr hlk (u0, (u1, (u2, u3))) rfl hP hK hD hS dX5_writtenByte_35
      · have hf := tn hf c3
        have hf := Option.some.inj hf
        subst hf
        exact thW (wf := (fun v : Ob × Ob × (Nat → Ob) × (Nat → Ob) => (wAll G h0 a0 v.1 a1 v.2.1 ra rb v.2.2.1 v.2.2.2))) (E := "java/lang/IndexOutOfBoundsException") (tx := "no such byte") (u0, (u1, (u2, u3))) hx hb hlf hml hlk htb hown hg (k := 2) rfl kq4_21 kq1_20 (by decide +kernel) atg_209 atn_209 ato_209 (by decide +kernel) hP hK hD hE hS hl.1 rfl (by decide) dX5_writtenByte_18 dX5_writtenByte_21 dX5_writtenByte_22 dX5_writtenByte_25 dX5_writtenByte_28
set_option maxRecDepth 100000 in
set_option maxHeartbeats 4000000 in
theorem c_X5_undo {l : Launch} (hlf : l.stackTraces = false) {G : Gp} {sz N : Nat} {h0 : Nat} {a0 a1 : Nat → Nat} {ra rb : Nat → Nat → Nat} {u0 u1 : Ob} {u2 u3 : Nat → Ob} {q : (Nat ⊕ Int32) × Ob × Ob × (Nat → Ob) × (Nat → Ob)} (hf : f_X5_undo N u0 u1 u2 u3 = some q) : vx_Met l yX5_undo (Cond.code yX5_undo cX5_undo 1 (some .int) :: lw_g) ({ frames := 6, cells := 1, slots := 6, locals := 90 } : Room) (va_Pc [.ref h0] (pw G (wAll G h0 a0 u0 a1 u1 ra rb u2 u3) sz)) (va_Qi (fun (r : Int32) (v : Ob × Ob × (Nat → Ob) × (Nat → Ob)) => q = (.inr r, v)) (bw G (fun v : Ob × Ob × (Nat → Ob) × (Nat → Ob) => (wAll G h0 a0 v.1 a1 v.2.1 ra rb v.2.2.1 v.2.2.2)) (va_A (wAll G h0 a0 u0 a1 u1 ra rb u2 u3) sz)) (va_A (wAll G h0 a0 u0 a1 u1 ra rb u2 u3) sz)) (XQ (fun z : Nat × (Ob × Ob × (Nat → Ob) × (Nat → Ob)) => q = (.inl z.1, z.2)) G (fun v : Ob × Ob × (Nat → Ob) × (Nat → Ob) => (wAll G h0 a0 v.1 a1 v.2.1 ra rb v.2.2.1 v.2.2.2)) (va_A (wAll G h0 a0 u0 a1 u1 ra rb u2 u3) sz)) 1 6 (va_A (wAll G h0 a0 u0 a1 u1 ra rb u2 u3) sz) := by
  refine mtx (Qc := (fun A => va_Qi (fun (r : Int32) (v : Ob × Ob × (Nat → Ob) × (Nat → Ob)) => q = (.inr r, v)) (bw G (fun v : Ob × Ob × (Nat → Ob) × (Nat → Ob) => (wAll G h0 a0 v.1 a1 v.2.1 ra rb v.2.2.1 v.2.2.2)) A) A)) (XC := fun A => XQ (fun z : Nat × (Ob × Ob × (Nat → Ob) × (Nat → Ob)) => q = (.inl z.1, z.2)) G (fun v : Ob × Ob × (Nat → Ob) × (Nat → Ob) => (wAll G h0 a0 v.1 a1 v.2.1 ra rb v.2.2.1 v.2.2.2)) A) (by decide) (Nat.le_of_ble_eq_true rfl) ?_
  intro p e s m below meth c A ls hx hb hr hlk hml htb hts hown hA hP hK hD hE hS hl
  have hown : s.vm.findClass RX5 = some m.cls := hown
  have hg : ∀ w ∈ lw_g, w.before ([.ref h0] : List Value).toArray s = true := fun w h => hts w (List.mem_cons_of_mem _ h)
  have hC : CallFix p m c cX5_undo 1 s ([.ref h0] : List Value).toArray (Cond.code yX5_undo cX5_undo 1 (some .int) :: lw_g) RX5 := ⟨hx, hb, hml, hown, hts⟩
  have hl : lv_has ls 1 [(0, .ref h0)] := hl
  rw [f_X5_undo] at hf
  refine lv_aload_n hx hb dX5_undo_0 rfl (lv_at hl 0 rfl) ?_
  refine va_get (D := gD G) (ci := 3) (v := .int (u0.1 5)) (C := RX5) (T := TX5) (N := 11) hx hb hg kl_X5 hown hK hP 0 rfl rfl 5 (by decide) (hg _ kq1_184) (fun _ h9 => h9) rfl dX5_undo_1 ?_
  refine lv_if_ne (tgt := 18) hx hb dX5_undo_4 (by decide) (fun c1 => ?_) (fun c1 => ?_)
  · have hf := tn hf c1
    refine lv_aload_n hx hb dX5_undo_18 rfl (lv_at hl 0 rfl) ?_
    refine lv_dup hx hb dX5_undo_19 rfl ?_
    refine va_get (D := gD G) (ci := 3) (v := .int (u0.1 5)) (C := RX5) (T := TX5) (N := 11) hx hb hg kl_X5 hown hK hP 0 rfl rfl 5 (by decide) (hg _ kq1_184) (fun _ h9 => h9) rfl dX5_undo_20 ?_
    refine lv_iconst (v := (1 : Int32)) hx hb dX5_undo_23 (by decide) ?_
    refine lv_isub hx hb dX5_undo_24 ?_
    refine va_put (D := gD G) (ci := 3) (v := .int ((u0.1 5) - (1 : Int32))) (ty := .int) (C := RX5) (T := TX5) (N := 11) hx hb hg kl_X5 tyX5 tyX5_ok nmX5 hown hK hP hD hS 0 rfl rfl 5 (by decide) (hg _ kq1_184) (fun _ h9 => h9) rfl (by decide +kernel) rfl rfl (Nat.le_of_ble_eq_true rfl) dX5_undo_25 (fun H locs hP hD hS => ?_)
    have hP : va_P (gD G) vwCl (wAll G h0 a0 (oi u0 5 ((u0.1 5) - (1 : Int32))) a1 u1 ra rb u2 u3) H := hP
    have hD : va_D A (wAll G h0 a0 (oi u0 5 ((u0.1 5) - (1 : Int32))) a1 u1 ra rb u2 u3) := hD
    refine lv_aload_n hx hb dX5_undo_28 rfl (lv_at hl 0 rfl) ?_
    refine lv_aload_n hx hb dX5_undo_29 rfl (lv_at hl 0 rfl) ?_
    refine va_get (D := gD G) (ci := 3) (v := .int (u0.1 4)) (C := RX5) (T := TX5) (N := 11) hx hb hg kl_X5 hown hK hP 0 rfl rfl 4 (by decide) (hg _ kq1_183) (fun _ h9 => h9) rfl dX5_undo_30 ?_
    refine lv_bipush (v := (8 : Int32)) hx hb dX5_undo_33 (by decide) ?_
    refine lv_iadd hx hb dX5_undo_35 ?_
    refine lv_iconst (v := (1 : Int32)) hx hb dX5_undo_36 (by decide) ?_
    refine lv_isub hx hb dX5_undo_37 ?_
    refine lv_bipush (v := (8 : Int32)) hx hb dX5_undo_38 (by decide) ?_
    refine lv_irem hx hb dX5_undo_40 (by decide) ?_
    refine va_put (D := gD G) (ci := 3) (v := .int ((((u0.1 4) + (8 : Int32)) - (1 : Int32)) - (((u0.1 4) + (8 : Int32)) - (1 : Int32)) / (8 : Int32) * (8 : Int32))) (ty := .int) (C := RX5) (T := TX5) (N := 11) hx hb hg kl_X5 tyX5 tyX5_ok nmX5 hown hK hP hD hS 0 rfl rfl 4 (by decide) (hg _ kq1_183) (fun _ h9 => h9) rfl (by decide +kernel) rfl rfl (Nat.le_of_ble_eq_true rfl) dX5_undo_41 (fun H locs hP hD hS => ?_)
    have hP : va_P (gD G) vwCl (wAll G h0 a0 (oi (oi u0 5 ((u0.1 5) - (1 : Int32))) 4 ((((u0.1 4) + (8 : Int32)) - (1 : Int32)) - (((u0.1 4) + (8 : Int32)) - (1 : Int32)) / (8 : Int32) * (8 : Int32))) a1 u1 ra rb u2 u3) H := hP
    have hD : va_D A (wAll G h0 a0 (oi (oi u0 5 ((u0.1 5) - (1 : Int32))) 4 ((((u0.1 4) + (8 : Int32)) - (1 : Int32)) - (((u0.1 4) + (8 : Int32)) - (1 : Int32)) / (8 : Int32) * (8 : Int32))) a1 u1 ra rb u2 u3) := hD
    refine lv_aload_n hx hb dX5_undo_44 rfl (lv_at hl 0 rfl) ?_
    refine va_get (D := gD G) (ci := 3) (v := .ref (a0 (20 + 0))) (C := RX5) (T := TX5) (N := 11) hx hb hg kl_X5 hown hK hP 0 rfl rfl 0 (by decide) (hg _ kq1_179) (fun _ h9 => h9) rfl dX5_undo_45 ?_
    refine lv_aload_n hx hb dX5_undo_48 rfl (lv_at hl 0 rfl) ?_
    refine va_get (D := gD G) (ci := 3) (v := .ref (a0 3)) (C := RX5) (T := TX5) (N := 11) hx hb hg kl_X5 hown hK hP 0 rfl rfl 3 (by decide) (hg _ kq1_182) (fun _ h9 => h9) rfl dX5_undo_49 ?_
    refine lv_aload_n hx hb dX5_undo_52 rfl (lv_at hl 0 rfl) ?_
    refine va_get (D := gD G) (ci := 3) (v := .int ((((u0.1 4) + (8 : Int32)) - (1 : Int32)) - (((u0.1 4) + (8 : Int32)) - (1 : Int32)) / (8 : Int32) * (8 : Int32))) (C := RX5) (T := TX5) (N := 11) hx hb hg kl_X5 hown hK hP 0 rfl rfl 4 (by decide) (hg _ kq1_183) (fun _ h9 => h9) rfl dX5_undo_53 ?_
    obtain ⟨b2, hf⟩ := tno hf
    have hrb2 : ((((u0.1 4) + (8 : Int32)) - (1 : Int32)) - (((u0.1 4) + (8 : Int32)) - (1 : Int32)) / (8 : Int32) * (8 : Int32)).toNatClampNeg < 8 := Nat.lt_of_not_le (fun h => b2 (Or.inr h))
    refine va_aldq hx hb hK hP 1 4 rfl rfl b2 dX5_undo_56 ?_
    refine W.eq (g2 := F0 m 57 ls [.ref (a0 (20 + (3 + ((((u0.1 4) + (8 : Int32)) - (1 : Int32)) - (((u0.1 4) + (8 : Int32)) - (1 : Int32)) / (8 : Int32) * (8 : Int32)).toNatClampNeg))), .ref (a0 (20 + 0))]) rfl ?_
    obtain ⟨q3, e4, hf⟩ := tbd hf
    refine kVpv (As := [.ref (a0 (20 + (3 + ((((u0.1 4) + (8 : Int32)) - (1 : Int32)) - (((u0.1 4) + (8 : Int32)) - (1 : Int32)) / (8 : Int32) * (8 : Int32)).toNatClampNeg)))]) (rest := []) hC (c_X4_copyFrom (G := G) e4) kq2_92 kc_X4_copyFrom (by decide) 0 (ci := 2) rfl rfl hP hK hD hE hS hA (pR44 (i := 0) (k := (3 + ((((u0.1 4) + (8 : Int32)) - (1 : Int32)) - (((u0.1 4) + (8 : Int32)) - (1 : Int32)) / (8 : Int32) * (8 : Int32)).toNatClampNeg)) (by omega) (by omega) (by omega)) (fun v => qR44 (i := 0) (k := (3 + ((((u0.1 4) + (8 : Int32)) - (1 : Int32)) - (((u0.1 4) + (8 : Int32)) - (1 : Int32)) / (8 : Int32) * (8 : Int32)).toNatClampNeg)) (by omega) (by omega) (by omega) v.1 v.2) hl.1 (Nat.le_of_ble_eq_true rfl) ⟨Nat.zero_le _, Nat.zero_le _⟩ dX5_undo_57 (fun u9 H locs hw hP hD hS => ?_)
    obtain rfl := hw
    have hP : va_P (gD G) vwCl (wAll G h0 a0 (oi (oi u0 5 ((u0.1 5) - (1 : Int32))) 4 ((((u0.1 4) + (8 : Int32)) - (1 : Int32)) - (((u0.1 4) + (8 : Int32)) - (1 : Int32)) / (8 : Int32) * (8 : Int32))) a1 u1 ra rb (va_up (va_up u2 0 q3.1) (3 + ((((u0.1 4) + (8 : Int32)) - (1 : Int32)) - (((u0.1 4) + (8 : Int32)) - (1 : Int32)) / (8 : Int32) * (8 : Int32)).toNatClampNeg) q3.2) u3) H := hP
    have hD : va_D A (wAll G h0 a0 (oi (oi u0 5 ((u0.1 5) - (1 : Int32))) 4 ((((u0.1 4) + (8 : Int32)) - (1 : Int32)) - (((u0.1 4) + (8 : Int32)) - (1 : Int32)) / (8 : Int32) * (8 : Int32))) a1 u1 ra rb (va_up (va_up u2 0 q3.1) (3 + ((((u0.1 4) + (8 : Int32)) - (1 : Int32)) - (((u0.1 4) + (8 : Int32)) - (1 : Int32)) / (8 : Int32) * (8 : Int32)).toNatClampNeg) q3.2) u3) := hD
    refine lv_aload_n hx hb dX5_undo_60 rfl (lv_at hl 0 rfl) ?_
    refine va_get (D := gD G) (ci := 3) (v := .int ((u0.1 5) - (1 : Int32))) (C := RX5) (T := TX5) (N := 11) hx hb hg kl_X5 hown hK hP 0 rfl rfl 5 (by decide) (hg _ kq1_184) (fun _ h9 => h9) rfl dX5_undo_61 ?_
    have hf := Option.some.inj hf
    subst hf
    refine W.widen (k := 1) (n := 6) (Nat.zero_le _) (Nat.zero_le _) ?_
    refine vx_ret ?_
    exact e_i (wf := (fun v : Ob × Ob × (Nat → Ob) × (Nat → Ob) => (wAll G h0 a0 v.1 a1 v.2.1 ra rb v.2.2.1 v.2.2.2))) hx hb hr hlk ((oi (oi u0 5 ((u0.1 5) - (1 : Int32))) 4 ((((u0.1 4) + (8 : Int32)) - (1 : Int32)) - (((u0.1 4) + (8 : Int32)) - (1 : Int32)) / (8 : Int32) * (8 : Int32))), (u1, ((va_up (va_up u2 0 q3.1) (3 + ((((u0.1 4) + (8 : Int32)) - (1 : Int32)) - (((u0.1 4) + (8 : Int32)) - (1 : Int32)) / (8 : Int32) * (8 : Int32)).toNatClampNeg) q3.2), u3))) rfl hP hK hD hS dX5_undo_64
  · have hf := tp hf c1
    have hf := Option.some.inj hf
    subst hf
    exact thW (wf := (fun v : Ob × Ob × (Nat → Ob) × (Nat → Ob) => (wAll G h0 a0 v.1 a1 v.2.1 ra rb v.2.2.1 v.2.2.2))) (E := "java/lang/IllegalStateException") (tx := "there is no change to undo") (u0, (u1, (u2, u3))) hx hb hlf hml hlk htb hown hg (k := 0) rfl kq2_111 kq1_9 (by decide +kernel) atg_52 atn_52 ato_52 (by decide +kernel) hP hK hD hE hS hl.1 rfl (by decide) dX5_undo_7 dX5_undo_10 dX5_undo_11 dX5_undo_14 dX5_undo_17
set_option maxRecDepth 100000 in
set_option maxHeartbeats 4000000 in
theorem c_X5_save {l : Launch} (hlf : l.stackTraces = false) {G : Gp} {sz N : Nat} {x1 : Int32} {h0 : Nat} {a0 a1 : Nat → Nat} {ra rb : Nat → Nat → Nat} {u0 u1 : Ob} {u2 u3 : Nat → Ob} {q : (Nat ⊕ Int32) × Ob × Ob × (Nat → Ob) × (Nat → Ob)} (hf : f_X5_save N x1 u0 u1 u2 u3 = some q) : vx_Met l yX5_save (Cond.code yX5_save cX5_save 2 (some .int) :: lw_g) ({ frames := 6, cells := 1, slots := 6, locals := 90 } : Room) (va_Pc [.ref h0, .int x1] (pw G (wAll G h0 a0 u0 a1 u1 ra rb u2 u3) sz)) (va_Qi (fun (r : Int32) (v : Ob × Ob × (Nat → Ob) × (Nat → Ob)) => q = (.inr r, v)) (bw G (fun v : Ob × Ob × (Nat → Ob) × (Nat → Ob) => (wAll G h0 a0 v.1 a1 v.2.1 ra rb v.2.2.1 v.2.2.2)) (va_A (wAll G h0 a0 u0 a1 u1 ra rb u2 u3) sz)) (va_A (wAll G h0 a0 u0 a1 u1 ra rb u2 u3) sz)) (XQ (fun z : Nat × (Ob × Ob × (Nat → Ob) × (Nat → Ob)) => q = (.inl z.1, z.2)) G (fun v : Ob × Ob × (Nat → Ob) × (Nat → Ob) => (wAll G h0 a0 v.1 a1 v.2.1 ra rb v.2.2.1 v.2.2.2)) (va_A (wAll G h0 a0 u0 a1 u1 ra rb u2 u3) sz)) 1 6 (va_A (wAll G h0 a0 u0 a1 u1 ra rb u2 u3) sz) := by
  refine mtx (Qc := (fun A => va_Qi (fun (r : Int32) (v : Ob × Ob × (Nat → Ob) × (Nat → Ob)) => q = (.inr r, v)) (bw G (fun v : Ob × Ob × (Nat → Ob) × (Nat → Ob) => (wAll G h0 a0 v.1 a1 v.2.1 ra rb v.2.2.1 v.2.2.2)) A) A)) (XC := fun A => XQ (fun z : Nat × (Ob × Ob × (Nat → Ob) × (Nat → Ob)) => q = (.inl z.1, z.2)) G (fun v : Ob × Ob × (Nat → Ob) × (Nat → Ob) => (wAll G h0 a0 v.1 a1 v.2.1 ra rb v.2.2.1 v.2.2.2)) A) (by decide) (Nat.le_of_ble_eq_true rfl) ?_
  intro p e s m below meth c A ls hx hb hr hlk hml htb hts hown hA hP hK hD hE hS hl
  have hown : s.vm.findClass RX5 = some m.cls := hown
  have hg : ∀ w ∈ lw_g, w.before ([.ref h0, .int x1] : List Value).toArray s = true := fun w h => hts w (List.mem_cons_of_mem _ h)
  have hC : CallFix p m c cX5_save 2 s ([.ref h0, .int x1] : List Value).toArray (Cond.code yX5_save cX5_save 2 (some .int) :: lw_g) RX5 := ⟨hx, hb, hml, hown, hts⟩
  have hl : lv_has ls 2 [(0, .ref h0), (1, .int x1)] := hl
  rw [f_X5_save] at hf
  refine lv_iload_n hx hb dX5_save_0 rfl (lv_at hl 1 rfl) ?_
  refine lv_if_lt (tgt := 9) hx hb dX5_save_1 (by decide) (fun c1 => ?_) (fun c1 => ?_)
  · have hf := tp hf c1
    have hf := Option.some.inj hf
    subst hf
    exact thW (wf := (fun v : Ob × Ob × (Nat → Ob) × (Nat → Ob) => (wAll G h0 a0 v.1 a1 v.2.1 ra rb v.2.2.1 v.2.2.2))) (E := "java/lang/IndexOutOfBoundsException") (tx := "no such slot") (u0, (u1, (u2, u3))) hx hb hlf hml hlk htb hown hg (k := 2) rfl kq4_21 kq1_20 (by decide +kernel) atg_209 atn_209 ato_209 (by decide +kernel) hP hK hD hE hS hl.1 rfl (by decide) dX5_save_9 dX5_save_12 dX5_save_13 dX5_save_16 dX5_save_19
  · have hf := tn hf c1
    refine lv_iload_n hx hb dX5_save_4 rfl (lv_at hl 1 rfl) ?_
    refine lv_iconst (v := (2 : Int32)) hx hb dX5_save_5 (by decide) ?_
    refine lv_icmp_lt (tgt := 20) hx hb dX5_save_6 (by decide) (fun c2 => ?_) (fun c2 => ?_)
    · have hf := tp hf c2
      refine lv_aload_n hx hb dX5_save_20 rfl (lv_at hl 0 rfl) ?_
      refine va_get (D := gD G) (ci := 3) (v := .ref (a0 6)) (C := RX5) (T := TX5) (N := 11) hx hb hg kl_X5 hown hK hP 0 rfl rfl 6 (by decide) (hg _ kq1_185) (fun _ h9 => h9) rfl dX5_save_21 ?_
      refine lv_iload_n hx hb dX5_save_24 rfl (lv_at hl 1 rfl) ?_
      obtain ⟨b3, hf⟩ := tno hf
      have hrb3 : x1.toNatClampNeg < 2 := Nat.lt_of_not_le (fun h => b3 (Or.inr h))
      refine va_aldq hx hb hK hP 2 4 rfl rfl b3 dX5_save_25 ?_
      refine W.eq (g2 := F0 m 26 ls [.ref (a0 (20 + (11 + x1.toNatClampNeg)))]) rfl ?_
      refine lv_aload_n hx hb dX5_save_26 rfl (lv_at hl 0 rfl) ?_
      refine va_get (D := gD G) (ci := 3) (v := .ref (a0 (20 + 0))) (C := RX5) (T := TX5) (N := 11) hx hb hg kl_X5 hown hK hP 0 rfl rfl 0 (by decide) (hg _ kq1_179) (fun _ h9 => h9) rfl dX5_save_27 ?_
      obtain ⟨q4, e5, hf⟩ := tbd hf
      refine kVpv (As := [.ref (a0 (20 + 0))]) (rest := []) hC (c_X4_copyFrom (G := G) e5) kq2_92 kc_X4_copyFrom (by decide) 0 (ci := 2) rfl rfl hP hK hD hE hS hA (pR44 (i := (11 + x1.toNatClampNeg)) (k := 0) (by omega) (by omega) (by omega)) (fun v => qR44 (i := (11 + x1.toNatClampNeg)) (k := 0) (by omega) (by omega) (by omega) v.1 v.2) hl.1 (Nat.le_of_ble_eq_true rfl) ⟨Nat.zero_le _, Nat.zero_le _⟩ dX5_save_30 (fun u9 H locs hw hP hD hS => ?_)
      obtain rfl := hw
      have hP : va_P (gD G) vwCl (wAll G h0 a0 u0 a1 u1 ra rb (va_up (va_up u2 (11 + x1.toNatClampNeg) q4.1) 0 q4.2) u3) H := hP
      have hD : va_D A (wAll G h0 a0 u0 a1 u1 ra rb (va_up (va_up u2 (11 + x1.toNatClampNeg) q4.1) 0 q4.2) u3) := hD
      refine lv_aload_n hx hb dX5_save_33 rfl (lv_at hl 0 rfl) ?_
      refine va_get (D := gD G) (ci := 3) (v := .ref (a0 7)) (C := RX5) (T := TX5) (N := 11) hx hb hg kl_X5 hown hK hP 0 rfl rfl 7 (by decide) (hg _ kq1_186) (fun _ h9 => h9) rfl dX5_save_34 ?_
      refine lv_iload_n hx hb dX5_save_37 rfl (lv_at hl 1 rfl) ?_
      refine lv_iconst (v := (1 : Int32)) hx hb dX5_save_38 (by decide) ?_
      obtain ⟨b6, hf⟩ := tno hf
      refine va_zast (f := (u0.2.2.1 7)) hx hb hK hP hD hS 3 3 rfl rfl b6 dX5_save_39 (fun H locs hP hD hS => ?_)
      have hP : va_P (gD G) vwCl (wAll G h0 a0 (oa u0 7 (upd (u0.2.2.1 7) x1.toNatClampNeg (vp_nar .boolean (1 : Int32)))) a1 u1 ra rb (va_up (va_up u2 (11 + x1.toNatClampNeg) q4.1) 0 q4.2) u3) H := hP
      have hD : va_D A (wAll G h0 a0 (oa u0 7 (upd (u0.2.2.1 7) x1.toNatClampNeg (vp_nar .boolean (1 : Int32)))) a1 u1 ra rb (va_up (va_up u2 (11 + x1.toNatClampNeg) q4.1) 0 q4.2) u3) := hD
      refine lv_aload_n hx hb dX5_save_40 rfl (lv_at hl 0 rfl) ?_
      refine va_get (D := gD G) (ci := 3) (v := .ref (a0 (20 + 0))) (C := RX5) (T := TX5) (N := 11) hx hb hg kl_X5 hown hK hP 0 rfl rfl 0 (by decide) (hg _ kq1_179) (fun _ h9 => h9) rfl dX5_save_41 ?_
      refine va_get (D := gD G) (ci := 2) (v := .int (q4.2.1 11)) (C := RX4) (T := TX4) (N := 18) hx hb hg kl_X4 hown hK hP 7 rfl rfl 11 (by decide) (hg _ kq1_75) (fun _ h9 => h9) rfl dX5_save_44 ?_
      have hf := Option.some.inj hf
      subst hf
      refine W.widen (k := 1) (n := 6) (Nat.zero_le _) (Nat.zero_le _) ?_
      refine vx_ret ?_
      exact e_i (wf := (fun v : Ob × Ob × (Nat → Ob) × (Nat → Ob) => (wAll G h0 a0 v.1 a1 v.2.1 ra rb v.2.2.1 v.2.2.2))) hx hb hr hlk ((oa u0 7 (upd (u0.2.2.1 7) x1.toNatClampNeg (vp_nar .boolean (1 : Int32)))), (u1, ((va_up (va_up u2 (11 + x1.toNatClampNeg) q4.1) 0 q4.2), u3))) rfl hP hK hD hS dX5_save_47
    · have hf := tn hf c2
      have hf := Option.some.inj hf
      subst hf
      exact thW (wf := (fun v : Ob × Ob × (Nat → Ob) × (Nat → Ob) => (wAll G h0 a0 v.1 a1 v.2.1 ra rb v.2.2.1 v.2.2.2))) (E := "java/lang/IndexOutOfBoundsException") (tx := "no such slot") (u0, (u1, (u2, u3))) hx hb hlf hml hlk htb hown hg (k := 2) rfl kq4_21 kq1_20 (by decide +kernel) atg_209 atn_209 ato_209 (by decide +kernel) hP hK hD hE hS hl.1 rfl (by decide) dX5_save_9 dX5_save_12 dX5_save_13 dX5_save_16 dX5_save_19
set_option maxRecDepth 100000 in
set_option maxHeartbeats 4000000 in
theorem c_X5_restore {l : Launch} (hlf : l.stackTraces = false) {G : Gp} {sz N : Nat} {x1 : Int32} {h0 : Nat} {a0 a1 : Nat → Nat} {ra rb : Nat → Nat → Nat} {u0 u1 : Ob} {u2 u3 : Nat → Ob} {q : (Nat ⊕ Int32) × Ob × Ob × (Nat → Ob) × (Nat → Ob)} (hf : f_X5_restore N x1 u0 u1 u2 u3 = some q) : vx_Met l yX5_restore (Cond.code yX5_restore cX5_restore 2 (some .int) :: lw_g) ({ frames := 6, cells := 1, slots := 6, locals := 90 } : Room) (va_Pc [.ref h0, .int x1] (pw G (wAll G h0 a0 u0 a1 u1 ra rb u2 u3) sz)) (va_Qi (fun (r : Int32) (v : Ob × Ob × (Nat → Ob) × (Nat → Ob)) => q = (.inr r, v)) (bw G (fun v : Ob × Ob × (Nat → Ob) × (Nat → Ob) => (wAll G h0 a0 v.1 a1 v.2.1 ra rb v.2.2.1 v.2.2.2)) (va_A (wAll G h0 a0 u0 a1 u1 ra rb u2 u3) sz)) (va_A (wAll G h0 a0 u0 a1 u1 ra rb u2 u3) sz)) (XQ (fun z : Nat × (Ob × Ob × (Nat → Ob) × (Nat → Ob)) => q = (.inl z.1, z.2)) G (fun v : Ob × Ob × (Nat → Ob) × (Nat → Ob) => (wAll G h0 a0 v.1 a1 v.2.1 ra rb v.2.2.1 v.2.2.2)) (va_A (wAll G h0 a0 u0 a1 u1 ra rb u2 u3) sz)) 1 6 (va_A (wAll G h0 a0 u0 a1 u1 ra rb u2 u3) sz) := by
  refine mtx (Qc := (fun A => va_Qi (fun (r : Int32) (v : Ob × Ob × (Nat → Ob) × (Nat → Ob)) => q = (.inr r, v)) (bw G (fun v : Ob × Ob × (Nat → Ob) × (Nat → Ob) => (wAll G h0 a0 v.1 a1 v.2.1 ra rb v.2.2.1 v.2.2.2)) A) A)) (XC := fun A => XQ (fun z : Nat × (Ob × Ob × (Nat → Ob) × (Nat → Ob)) => q = (.inl z.1, z.2)) G (fun v : Ob × Ob × (Nat → Ob) × (Nat → Ob) => (wAll G h0 a0 v.1 a1 v.2.1 ra rb v.2.2.1 v.2.2.2)) A) (by decide) (Nat.le_of_ble_eq_true rfl) ?_
  intro p e s m below meth c A ls hx hb hr hlk hml htb hts hown hA hP hK hD hE hS hl
  have hown : s.vm.findClass RX5 = some m.cls := hown
  have hg : ∀ w ∈ lw_g, w.before ([.ref h0, .int x1] : List Value).toArray s = true := fun w h => hts w (List.mem_cons_of_mem _ h)
  have hC : CallFix p m c cX5_restore 2 s ([.ref h0, .int x1] : List Value).toArray (Cond.code yX5_restore cX5_restore 2 (some .int) :: lw_g) RX5 := ⟨hx, hb, hml, hown, hts⟩
  have hl : lv_has ls 2 [(0, .ref h0), (1, .int x1)] := hl
  rw [f_X5_restore] at hf
  refine lv_iload_n hx hb dX5_restore_0 rfl (lv_at hl 1 rfl) ?_
  refine lv_if_lt (tgt := 9) hx hb dX5_restore_1 (by decide) (fun c1 => ?_) (fun c1 => ?_)
  · have hf := tp hf c1
    have hf := Option.some.inj hf
    subst hf
    exact thW (wf := (fun v : Ob × Ob × (Nat → Ob) × (Nat → Ob) => (wAll G h0 a0 v.1 a1 v.2.1 ra rb v.2.2.1 v.2.2.2))) (E := "java/lang/IndexOutOfBoundsException") (tx := "no such slot") (u0, (u1, (u2, u3))) hx hb hlf hml hlk htb hown hg (k := 2) rfl kq4_21 kq1_20 (by decide +kernel) atg_209 atn_209 ato_209 (by decide +kernel) hP hK hD hE hS hl.1 rfl (by decide) dX5_restore_9 dX5_restore_12 dX5_restore_13 dX5_restore_16 dX5_restore_19
  · have hf := tn hf c1
    refine lv_iload_n hx hb dX5_restore_4 rfl (lv_at hl 1 rfl) ?_
    refine lv_iconst (v := (2 : Int32)) hx hb dX5_restore_5 (by decide) ?_
    refine lv_icmp_lt (tgt := 20) hx hb dX5_restore_6 (by decide) (fun c2 => ?_) (fun c2 => ?_)
    · have hf := tp hf c2
      refine lv_aload_n hx hb dX5_restore_20 rfl (lv_at hl 0 rfl) ?_
      refine va_get (D := gD G) (ci := 3) (v := .ref (a0 7)) (C := RX5) (T := TX5) (N := 11) hx hb hg kl_X5 hown hK hP 0 rfl rfl 7 (by decide) (hg _ kq1_186) (fun _ h9 => h9) rfl dX5_restore_21 ?_
      refine lv_iload_n hx hb dX5_restore_24 rfl (lv_at hl 1 rfl) ?_
      obtain ⟨b3, hf⟩ := tno hf
      refine va_zald (f := (u0.2.2.1 7)) hx hb hK hP 3 3 rfl rfl b3 dX5_restore_25 ?_
      refine lv_if_ne (tgt := 40) hx hb dX5_restore_26 (by decide) (fun c4 => ?_) (fun c4 => ?_)
      · have hf := tn hf c4
        refine lv_aload_n hx hb dX5_restore_40 rfl (lv_at hl 0 rfl) ?_
        obtain ⟨q5, e6, hf⟩ := tbd hf
        refine kVv1 (As := []) (rest := []) hC (c_X5_remember (G := G) e6) kq2_88 kc_X5_remember (by decide) 0 (ci := 3) rfl rfl hP hK hD hE hS hA hl.1 (Nat.le_of_ble_eq_true rfl) ⟨Nat.zero_le _, Nat.zero_le _⟩ dX5_restore_41 (fun u9 H locs hw hP hD hS => ?_)
        obtain rfl := hw
        have hP : va_P (gD G) vwCl (wAll G h0 a0 q5.1 a1 q5.2.1 ra rb q5.2.2.1 q5.2.2.2) H := hP
        have hD : va_D A (wAll G h0 a0 q5.1 a1 q5.2.1 ra rb q5.2.2.1 q5.2.2.2) := hD
        refine lv_aload_n hx hb dX5_restore_44 rfl (lv_at hl 0 rfl) ?_
        refine va_get (D := gD G) (ci := 3) (v := .ref (a0 (20 + 0))) (C := RX5) (T := TX5) (N := 11) hx hb hg kl_X5 hown hK hP 0 rfl rfl 0 (by decide) (hg _ kq1_179) (fun _ h9 => h9) rfl dX5_restore_45 ?_
        refine lv_aload_n hx hb dX5_restore_48 rfl (lv_at hl 0 rfl) ?_
        refine va_get (D := gD G) (ci := 3) (v := .ref (a0 6)) (C := RX5) (T := TX5) (N := 11) hx hb hg kl_X5 hown hK hP 0 rfl rfl 6 (by decide) (hg _ kq1_185) (fun _ h9 => h9) rfl dX5_restore_49 ?_
        refine lv_iload_n hx hb dX5_restore_52 rfl (lv_at hl 1 rfl) ?_
        obtain ⟨b7, hf⟩ := tno hf
        have hrb7 : x1.toNatClampNeg < 2 := Nat.lt_of_not_le (fun h => b7 (Or.inr h))
        refine va_aldq hx hb hK hP 2 4 rfl rfl b7 dX5_restore_53 ?_
        refine W.eq (g2 := F0 m 54 ls [.ref (a0 (20 + (11 + x1.toNatClampNeg))), .ref (a0 (20 + 0))]) rfl ?_
        obtain ⟨q8, e9, hf⟩ := tbd hf
        refine kVpv (As := [.ref (a0 (20 + (11 + x1.toNatClampNeg)))]) (rest := []) hC (c_X4_copyFrom (G := G) e9) kq2_92 kc_X4_copyFrom (by decide) 0 (ci := 2) rfl rfl hP hK hD hE hS hA (pR44 (i := 0) (k := (11 + x1.toNatClampNeg)) (by omega) (by omega) (by omega)) (fun v => qR44 (i := 0) (k := (11 + x1.toNatClampNeg)) (by omega) (by omega) (by omega) v.1 v.2) hl.1 (Nat.le_of_ble_eq_true rfl) ⟨Nat.zero_le _, Nat.zero_le _⟩ dX5_restore_54 (fun u9 H locs hw hP hD hS => ?_)
        obtain rfl := hw
        have hP : va_P (gD G) vwCl (wAll G h0 a0 q5.1 a1 q5.2.1 ra rb (va_up (va_up q5.2.2.1 0 q8.1) (11 + x1.toNatClampNeg) q8.2) q5.2.2.2) H := hP
        have hD : va_D A (wAll G h0 a0 q5.1 a1 q5.2.1 ra rb (va_up (va_up q5.2.2.1 0 q8.1) (11 + x1.toNatClampNeg) q8.2) q5.2.2.2) := hD
        refine lv_aload_n hx hb dX5_restore_57 rfl (lv_at hl 0 rfl) ?_
        refine va_get (D := gD G) (ci := 3) (v := .ref (a0 (20 + 0))) (C := RX5) (T := TX5) (N := 11) hx hb hg kl_X5 hown hK hP 0 rfl rfl 0 (by decide) (hg _ kq1_179) (fun _ h9 => h9) rfl dX5_restore_58 ?_
        refine va_get (D := gD G) (ci := 2) (v := .int (((va_up (va_up q5.2.2.1 0 q8.1) (11 + x1.toNatClampNeg) q8.2) 0).1 11)) (C := RX4) (T := TX4) (N := 18) hx hb hg kl_X4 hown hK hP 7 rfl rfl 11 (by decide) (hg _ kq1_75) (fun _ h9 => h9) rfl dX5_restore_61 ?_
        have hf := Option.some.inj hf
        subst hf
        refine W.widen (k := 1) (n := 6) (Nat.zero_le _) (Nat.zero_le _) ?_
        refine vx_ret ?_
        exact e_i (wf := (fun v : Ob × Ob × (Nat → Ob) × (Nat → Ob) => (wAll G h0 a0 v.1 a1 v.2.1 ra rb v.2.2.1 v.2.2.2))) hx hb hr hlk (q5.1, (q5.2.1, ((va_up (va_up q5.2.2.1 0 q8.1) (11 + x1.toNatClampNeg) q8.2), q5.2.2.2))) rfl hP hK hD hS dX5_restore_64
      · have hf := tp hf c4
        have hf := Option.some.inj hf
        subst hf
        exact thW (wf := (fun v : Ob × Ob × (Nat → Ob) × (Nat → Ob) => (wAll G h0 a0 v.1 a1 v.2.1 ra rb v.2.2.1 v.2.2.2))) (E := "java/lang/IllegalStateException") (tx := "nothing was saved there") (u0, (u1, (u2, u3))) hx hb hlf hml hlk htb hown hg (k := 0) rfl kq2_111 kq1_9 (by decide +kernel) atg_52 atn_52 ato_52 (by decide +kernel) hP hK hD hE hS hl.1 rfl (by decide) dX5_restore_29 dX5_restore_32 dX5_restore_33 dX5_restore_36 dX5_restore_39
    · have hf := tn hf c2
      have hf := Option.some.inj hf
      subst hf
      exact thW (wf := (fun v : Ob × Ob × (Nat → Ob) × (Nat → Ob) => (wAll G h0 a0 v.1 a1 v.2.1 ra rb v.2.2.1 v.2.2.2))) (E := "java/lang/IndexOutOfBoundsException") (tx := "no such slot") (u0, (u1, (u2, u3))) hx hb hlf hml hlk htb hown hg (k := 2) rfl kq4_21 kq1_20 (by decide +kernel) atg_209 atn_209 ato_209 (by decide +kernel) hP hK hD hE hS hl.1 rfl (by decide) dX5_restore_9 dX5_restore_12 dX5_restore_13 dX5_restore_16 dX5_restore_19
