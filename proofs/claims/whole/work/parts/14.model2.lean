theorem dX6_isDigit_0 : decode cX6_isDigit 0 = .ok (.iload_n 0, 1) := by decide +kernel
theorem dX6_isDigit_1 : decode cX6_isDigit 1 = .ok (.i2l, 1) := by decide +kernel
theorem dX6_isDigit_2 : decode cX6_isDigit 2 = .ok (.ldc2_w 152, 3) := by decide +kernel
theorem dX6_isDigit_5 : decode cX6_isDigit 5 = .ok (.ldc2_w 154, 3) := by decide +kernel
theorem dX6_isDigit_8 : decode cX6_isDigit 8 = .ok (.invokestatic 65, 3) := by decide +kernel
theorem dX6_isDigit_11 : decode cX6_isDigit 11 = .ok (.ireturn, 1) := by decide +kernel
theorem dX6_next_0 : decode cX6_next 0 = .ok (.aload_n 0, 1) := by decide +kernel
theorem dX6_next_1 : decode cX6_next 1 = .ok (.aload_n 0, 1) := by decide +kernel
theorem dX6_next_2 : decode cX6_next 2 = .ok (.getfield 156, 3) := by decide +kernel
theorem dX6_next_5 : decode cX6_next 5 = .ok (.putfield 159, 3) := by decide +kernel
theorem dX6_next_8 : decode cX6_next 8 = .ok (.aload_n 0, 1) := by decide +kernel
theorem dX6_next_9 : decode cX6_next 9 = .ok (.aload_n 0, 1) := by decide +kernel
theorem dX6_next_10 : decode cX6_next 10 = .ok (.getfield 159, 3) := by decide +kernel
theorem dX6_next_13 : decode cX6_next 13 = .ok (.invokevirtual 162, 3) := by decide +kernel
theorem dX6_next_16 : decode cX6_next 16 = .ok (.bipush 32, 2) := by decide +kernel
theorem dX6_next_18 : decode cX6_next 18 = .ok (.if_icmp .ne 16, 3) := by decide +kernel
theorem dX6_next_21 : decode cX6_next 21 = .ok (.aload_n 0, 1) := by decide +kernel
theorem dX6_next_22 : decode cX6_next 22 = .ok (.dup, 1) := by decide +kernel
theorem dX6_next_23 : decode cX6_next 23 = .ok (.getfield 159, 3) := by decide +kernel
theorem dX6_next_26 : decode cX6_next 26 = .ok (.iconst 1, 1) := by decide +kernel
theorem dX6_next_27 : decode cX6_next 27 = .ok (.iadd, 1) := by decide +kernel
theorem dX6_next_28 : decode cX6_next 28 = .ok (.putfield 159, 3) := by decide +kernel
theorem dX6_next_31 : decode cX6_next 31 = .ok (.goto (-23), 3) := by decide +kernel
theorem dX6_next_34 : decode cX6_next 34 = .ok (.aload_n 0, 1) := by decide +kernel
theorem dX6_next_35 : decode cX6_next 35 = .ok (.aload_n 0, 1) := by decide +kernel
theorem dX6_next_36 : decode cX6_next 36 = .ok (.getfield 159, 3) := by decide +kernel
theorem dX6_next_39 : decode cX6_next 39 = .ok (.putfield 156, 3) := by decide +kernel
theorem dX6_next_42 : decode cX6_next 42 = .ok (.aload_n 0, 1) := by decide +kernel
theorem dX6_next_43 : decode cX6_next 43 = .ok (.getfield 159, 3) := by decide +kernel
theorem dX6_next_46 : decode cX6_next 46 = .ok (.aload_n 0, 1) := by decide +kernel
theorem dX6_next_47 : decode cX6_next 47 = .ok (.getfield 145, 3) := by decide +kernel
theorem dX6_next_50 : decode cX6_next 50 = .ok (.if_icmp .lt 11, 3) := by decide +kernel
theorem dX6_next_53 : decode cX6_next 53 = .ok (.aload_n 0, 1) := by decide +kernel
theorem dX6_next_54 : decode cX6_next 54 = .ok (.iconst 3, 1) := by decide +kernel
theorem dX6_next_55 : decode cX6_next 55 = .ok (.putfield 165, 3) := by decide +kernel
theorem dX6_next_58 : decode cX6_next 58 = .ok (.goto 158, 3) := by decide +kernel
theorem dX6_next_61 : decode cX6_next 61 = .ok (.aload_n 0, 1) := by decide +kernel
theorem dX6_next_62 : decode cX6_next 62 = .ok (.aload_n 0, 1) := by decide +kernel
theorem dX6_next_63 : decode cX6_next 63 = .ok (.getfield 159, 3) := by decide +kernel
theorem dX6_next_66 : decode cX6_next 66 = .ok (.invokevirtual 162, 3) := by decide +kernel
theorem dX6_next_69 : decode cX6_next 69 = .ok (.invokestatic 168, 3) := by decide +kernel
theorem dX6_next_72 : decode cX6_next 72 = .ok (.ifCond .eq 38, 3) := by decide +kernel
theorem dX6_next_75 : decode cX6_next 75 = .ok (.aload_n 0, 1) := by decide +kernel
theorem dX6_next_76 : decode cX6_next 76 = .ok (.aload_n 0, 1) := by decide +kernel
theorem dX6_next_77 : decode cX6_next 77 = .ok (.getfield 156, 3) := by decide +kernel
theorem dX6_next_80 : decode cX6_next 80 = .ok (.invokevirtual 162, 3) := by decide +kernel
theorem dX6_next_83 : decode cX6_next 83 = .ok (.invokestatic 168, 3) := by decide +kernel
theorem dX6_next_86 : decode cX6_next 86 = .ok (.ifCond .eq 16, 3) := by decide +kernel
theorem dX6_next_89 : decode cX6_next 89 = .ok (.aload_n 0, 1) := by decide +kernel
theorem dX6_next_90 : decode cX6_next 90 = .ok (.dup, 1) := by decide +kernel
theorem dX6_next_91 : decode cX6_next 91 = .ok (.getfield 156, 3) := by decide +kernel
theorem dX6_next_94 : decode cX6_next 94 = .ok (.iconst 1, 1) := by decide +kernel
theorem dX6_next_95 : decode cX6_next 95 = .ok (.iadd, 1) := by decide +kernel
theorem dX6_next_96 : decode cX6_next 96 = .ok (.putfield 156, 3) := by decide +kernel
theorem dX6_next_99 : decode cX6_next 99 = .ok (.goto (-24), 3) := by decide +kernel
theorem dX6_next_102 : decode cX6_next 102 = .ok (.aload_n 0, 1) := by decide +kernel
theorem dX6_next_103 : decode cX6_next 103 = .ok (.iconst 0, 1) := by decide +kernel
theorem dX6_next_104 : decode cX6_next 104 = .ok (.putfield 165, 3) := by decide +kernel
theorem dX6_next_107 : decode cX6_next 107 = .ok (.goto 109, 3) := by decide +kernel
theorem dX6_next_110 : decode cX6_next 110 = .ok (.aload_n 0, 1) := by decide +kernel
theorem dX6_next_111 : decode cX6_next 111 = .ok (.aload_n 0, 1) := by decide +kernel
theorem dX6_next_112 : decode cX6_next 112 = .ok (.getfield 159, 3) := by decide +kernel
theorem dX6_next_115 : decode cX6_next 115 = .ok (.invokevirtual 162, 3) := by decide +kernel
theorem dX6_next_118 : decode cX6_next 118 = .ok (.invokestatic 172, 3) := by decide +kernel
theorem dX6_next_121 : decode cX6_next 121 = .ok (.ifCond .eq 80, 3) := by decide +kernel
theorem dX6_next_124 : decode cX6_next 124 = .ok (.aload_n 0, 1) := by decide +kernel
theorem dX6_next_125 : decode cX6_next 125 = .ok (.lconst 0, 1) := by decide +kernel
theorem dX6_next_126 : decode cX6_next 126 = .ok (.putfield 175, 3) := by decide +kernel
theorem dX6_next_129 : decode cX6_next 129 = .ok (.aload_n 0, 1) := by decide +kernel
theorem dX6_next_130 : decode cX6_next 130 = .ok (.aload_n 0, 1) := by decide +kernel
theorem dX6_next_131 : decode cX6_next 131 = .ok (.getfield 156, 3) := by decide +kernel
theorem dX6_next_134 : decode cX6_next 134 = .ok (.invokevirtual 162, 3) := by decide +kernel
theorem dX6_next_137 : decode cX6_next 137 = .ok (.invokestatic 172, 3) := by decide +kernel
theorem dX6_next_140 : decode cX6_next 140 = .ok (.ifCond .eq 53, 3) := by decide +kernel
theorem dX6_next_143 : decode cX6_next 143 = .ok (.aload_n 0, 1) := by decide +kernel
theorem dX6_next_144 : decode cX6_next 144 = .ok (.getfield 175, 3) := by decide +kernel
theorem dX6_next_147 : decode cX6_next 147 = .ok (.ldc2_w 179, 3) := by decide +kernel
theorem dX6_next_150 : decode cX6_next 150 = .ok (.lcmp, 1) := by decide +kernel
theorem dX6_next_151 : decode cX6_next 151 = .ok (.ifCond .ge 29, 3) := by decide +kernel
theorem dX6_next_154 : decode cX6_next 154 = .ok (.aload_n 0, 1) := by decide +kernel
theorem dX6_next_155 : decode cX6_next 155 = .ok (.ldc2_w 181, 3) := by decide +kernel
theorem dX6_next_158 : decode cX6_next 158 = .ok (.aload_n 0, 1) := by decide +kernel
theorem dX6_next_159 : decode cX6_next 159 = .ok (.getfield 175, 3) := by decide +kernel
theorem dX6_next_162 : decode cX6_next 162 = .ok (.lmul, 1) := by decide +kernel
theorem dX6_next_163 : decode cX6_next 163 = .ok (.aload_n 0, 1) := by decide +kernel
theorem dX6_next_164 : decode cX6_next 164 = .ok (.aload_n 0, 1) := by decide +kernel
theorem dX6_next_165 : decode cX6_next 165 = .ok (.getfield 156, 3) := by decide +kernel
theorem dX6_next_168 : decode cX6_next 168 = .ok (.invokevirtual 162, 3) := by decide +kernel
theorem dX6_next_171 : decode cX6_next 171 = .ok (.i2l, 1) := by decide +kernel
theorem dX6_next_172 : decode cX6_next 172 = .ok (.ladd, 1) := by decide +kernel
theorem dX6_next_173 : decode cX6_next 173 = .ok (.ldc2_w 152, 3) := by decide +kernel
theorem dX6_next_176 : decode cX6_next 176 = .ok (.lsub, 1) := by decide +kernel
theorem dX6_next_177 : decode cX6_next 177 = .ok (.putfield 175, 3) := by decide +kernel
theorem dX6_next_180 : decode cX6_next 180 = .ok (.aload_n 0, 1) := by decide +kernel
theorem dX6_next_181 : decode cX6_next 181 = .ok (.dup, 1) := by decide +kernel
theorem dX6_next_182 : decode cX6_next 182 = .ok (.getfield 156, 3) := by decide +kernel
theorem dX6_next_185 : decode cX6_next 185 = .ok (.iconst 1, 1) := by decide +kernel
theorem dX6_next_186 : decode cX6_next 186 = .ok (.iadd, 1) := by decide +kernel
theorem dX6_next_187 : decode cX6_next 187 = .ok (.putfield 156, 3) := by decide +kernel
theorem dX6_next_190 : decode cX6_next 190 = .ok (.goto (-61), 3) := by decide +kernel
theorem dX6_next_193 : decode cX6_next 193 = .ok (.aload_n 0, 1) := by decide +kernel
theorem dX6_next_194 : decode cX6_next 194 = .ok (.iconst 1, 1) := by decide +kernel
theorem dX6_next_195 : decode cX6_next 195 = .ok (.putfield 165, 3) := by decide +kernel
theorem dX6_next_198 : decode cX6_next 198 = .ok (.goto 18, 3) := by decide +kernel
theorem dX6_next_201 : decode cX6_next 201 = .ok (.aload_n 0, 1) := by decide +kernel
theorem dX6_next_202 : decode cX6_next 202 = .ok (.dup, 1) := by decide +kernel
theorem dX6_next_203 : decode cX6_next 203 = .ok (.getfield 156, 3) := by decide +kernel
theorem dX6_next_206 : decode cX6_next 206 = .ok (.iconst 1, 1) := by decide +kernel
theorem dX6_next_207 : decode cX6_next 207 = .ok (.iadd, 1) := by decide +kernel
theorem dX6_next_208 : decode cX6_next 208 = .ok (.putfield 156, 3) := by decide +kernel
theorem dX6_next_211 : decode cX6_next 211 = .ok (.aload_n 0, 1) := by decide +kernel
theorem dX6_next_212 : decode cX6_next 212 = .ok (.iconst 2, 1) := by decide +kernel
theorem dX6_next_213 : decode cX6_next 213 = .ok (.putfield 165, 3) := by decide +kernel
theorem dX6_next_216 : decode cX6_next 216 = .ok (.return_, 1) := by decide +kernel
theorem dX6_isWord_0 : decode cX6_isWord 0 = .ok (.aload_n 0, 1) := by decide +kernel
theorem dX6_isWord_1 : decode cX6_isWord 1 = .ok (.getfield 183, 3) := by decide +kernel
theorem dX6_isWord_4 : decode cX6_isWord 4 = .ok (.ifCond .ne 26, 3) := by decide +kernel
theorem dX6_isWord_7 : decode cX6_isWord 7 = .ok (.aload_n 0, 1) := by decide +kernel
theorem dX6_isWord_8 : decode cX6_isWord 8 = .ok (.getfield 165, 3) := by decide +kernel
theorem dX6_isWord_11 : decode cX6_isWord 11 = .ok (.ifCond .ne 19, 3) := by decide +kernel
theorem dX6_isWord_14 : decode cX6_isWord 14 = .ok (.aload_n 0, 1) := by decide +kernel
theorem dX6_isWord_15 : decode cX6_isWord 15 = .ok (.getfield 156, 3) := by decide +kernel
theorem dX6_isWord_18 : decode cX6_isWord 18 = .ok (.aload_n 0, 1) := by decide +kernel
theorem dX6_isWord_19 : decode cX6_isWord 19 = .ok (.getfield 159, 3) := by decide +kernel
theorem dX6_isWord_22 : decode cX6_isWord 22 = .ok (.isub, 1) := by decide +kernel
theorem dX6_isWord_23 : decode cX6_isWord 23 = .ok (.aload_n 1, 1) := by decide +kernel
theorem dX6_isWord_24 : decode cX6_isWord 24 = .ok (.invokevirtual 186, 3) := by decide +kernel
theorem dX6_isWord_27 : decode cX6_isWord 27 = .ok (.if_icmp .eq 5, 3) := by decide +kernel
theorem dX6_isWord_30 : decode cX6_isWord 30 = .ok (.iconst 0, 1) := by decide +kernel
theorem dX6_isWord_31 : decode cX6_isWord 31 = .ok (.ireturn, 1) := by decide +kernel
theorem dX6_isWord_32 : decode cX6_isWord 32 = .ok (.iconst 0, 1) := by decide +kernel
theorem dX6_isWord_33 : decode cX6_isWord 33 = .ok (.istore_n 2, 1) := by decide +kernel
theorem dX6_isWord_34 : decode cX6_isWord 34 = .ok (.iload_n 2, 1) := by decide +kernel
theorem dX6_isWord_35 : decode cX6_isWord 35 = .ok (.aload_n 1, 1) := by decide +kernel
theorem dX6_isWord_36 : decode cX6_isWord 36 = .ok (.invokevirtual 186, 3) := by decide +kernel
theorem dX6_isWord_39 : decode cX6_isWord 39 = .ok (.if_icmp .ge 30, 3) := by decide +kernel
theorem dX6_isWord_42 : decode cX6_isWord 42 = .ok (.aload_n 0, 1) := by decide +kernel
theorem dX6_isWord_43 : decode cX6_isWord 43 = .ok (.getfield 29, 3) := by decide +kernel
theorem dX6_isWord_46 : decode cX6_isWord 46 = .ok (.aload_n 0, 1) := by decide +kernel
theorem dX6_isWord_47 : decode cX6_isWord 47 = .ok (.getfield 159, 3) := by decide +kernel
theorem dX6_isWord_50 : decode cX6_isWord 50 = .ok (.iload_n 2, 1) := by decide +kernel
theorem dX6_isWord_51 : decode cX6_isWord 51 = .ok (.iadd, 1) := by decide +kernel
theorem dX6_isWord_52 : decode cX6_isWord 52 = .ok (.iaload, 1) := by decide +kernel
theorem dX6_isWord_53 : decode cX6_isWord 53 = .ok (.aload_n 1, 1) := by decide +kernel
theorem dX6_isWord_54 : decode cX6_isWord 54 = .ok (.iload_n 2, 1) := by decide +kernel
theorem dX6_isWord_55 : decode cX6_isWord 55 = .ok (.invokevirtual 192, 3) := by decide +kernel
theorem dX6_isWord_58 : decode cX6_isWord 58 = .ok (.if_icmp .eq 5, 3) := by decide +kernel
theorem dX6_isWord_61 : decode cX6_isWord 61 = .ok (.iconst 0, 1) := by decide +kernel
theorem dX6_isWord_62 : decode cX6_isWord 62 = .ok (.ireturn, 1) := by decide +kernel
theorem dX6_isWord_63 : decode cX6_isWord 63 = .ok (.iinc 2 1, 3) := by decide +kernel
theorem dX6_isWord_66 : decode cX6_isWord 66 = .ok (.goto (-32), 3) := by decide +kernel
theorem dX6_isWord_69 : decode cX6_isWord 69 = .ok (.iconst 1, 1) := by decide +kernel
theorem dX6_isWord_70 : decode cX6_isWord 70 = .ok (.ireturn, 1) := by decide +kernel
theorem dX6_fails_0 : decode cX6_fails 0 = .ok (.aload_n 0, 1) := by decide +kernel
theorem dX6_fails_1 : decode cX6_fails 1 = .ok (.getfield 183, 3) := by decide +kernel
theorem dX6_fails_4 : decode cX6_fails 4 = .ok (.ifCond .eq 4, 3) := by decide +kernel
theorem dX6_fails_7 : decode cX6_fails 7 = .ok (.return_, 1) := by decide +kernel
theorem dX6_fails_8 : decode cX6_fails 8 = .ok (.aload_n 0, 1) := by decide +kernel
theorem dX6_fails_9 : decode cX6_fails 9 = .ok (.iload_n 1, 1) := by decide +kernel
theorem dX6_fails_10 : decode cX6_fails 10 = .ok (.putfield 183, 3) := by decide +kernel
theorem dX6_fails_13 : decode cX6_fails 13 = .ok (.aload_n 0, 1) := by decide +kernel
theorem dX6_fails_14 : decode cX6_fails 14 = .ok (.aload_n 0, 1) := by decide +kernel
theorem dX6_fails_15 : decode cX6_fails 15 = .ok (.getfield 159, 3) := by decide +kernel
theorem dX6_fails_18 : decode cX6_fails 18 = .ok (.putfield 196, 3) := by decide +kernel
theorem dX6_fails_21 : decode cX6_fails 21 = .ok (.return_, 1) := by decide +kernel
theorem dX6_must_0 : decode cX6_must 0 = .ok (.iload_n 1, 1) := by decide +kernel
theorem dX6_must_1 : decode cX6_must 1 = .ok (.ifCond .ne 9, 3) := by decide +kernel
theorem dX6_must_4 : decode cX6_must 4 = .ok (.aload_n 0, 1) := by decide +kernel
theorem dX6_must_5 : decode cX6_must 5 = .ok (.bipush (-2), 2) := by decide +kernel
theorem dX6_must_7 : decode cX6_must 7 = .ok (.invokevirtual 199, 3) := by decide +kernel
theorem dX6_must_10 : decode cX6_must 10 = .ok (.aload_n 0, 1) := by decide +kernel
theorem dX6_must_11 : decode cX6_must 11 = .ok (.getfield 183, 3) := by decide +kernel
theorem dX6_must_14 : decode cX6_must 14 = .ok (.ifCond .ne 7, 3) := by decide +kernel
theorem dX6_must_17 : decode cX6_must 17 = .ok (.aload_n 0, 1) := by decide +kernel
theorem dX6_must_18 : decode cX6_must 18 = .ok (.invokevirtual 203, 3) := by decide +kernel
theorem dX6_must_21 : decode cX6_must 21 = .ok (.return_, 1) := by decide +kernel
theorem dX6_takes_0 : decode cX6_takes 0 = .ok (.aload_n 0, 1) := by decide +kernel
theorem dX6_takes_1 : decode cX6_takes 1 = .ok (.getfield 183, 3) := by decide +kernel
theorem dX6_takes_4 : decode cX6_takes 4 = .ok (.ifCond .ne 20, 3) := by decide +kernel
theorem dX6_takes_7 : decode cX6_takes 7 = .ok (.aload_n 0, 1) := by decide +kernel
theorem dX6_takes_8 : decode cX6_takes 8 = .ok (.getfield 165, 3) := by decide +kernel
theorem dX6_takes_11 : decode cX6_takes 11 = .ok (.iconst 1, 1) := by decide +kernel
theorem dX6_takes_12 : decode cX6_takes 12 = .ok (.if_icmp .eq 12, 3) := by decide +kernel
theorem dX6_takes_15 : decode cX6_takes 15 = .ok (.aload_n 0, 1) := by decide +kernel
theorem dX6_takes_16 : decode cX6_takes 16 = .ok (.bipush (-2), 2) := by decide +kernel
theorem dX6_takes_18 : decode cX6_takes 18 = .ok (.invokevirtual 199, 3) := by decide +kernel
theorem dX6_takes_21 : decode cX6_takes 21 = .ok (.goto 28, 3) := by decide +kernel
theorem dX6_takes_24 : decode cX6_takes 24 = .ok (.aload_n 0, 1) := by decide +kernel
theorem dX6_takes_25 : decode cX6_takes 25 = .ok (.getfield 183, 3) := by decide +kernel
theorem dX6_takes_28 : decode cX6_takes 28 = .ok (.ifCond .ne 21, 3) := by decide +kernel
theorem dX6_takes_31 : decode cX6_takes 31 = .ok (.aload_n 0, 1) := by decide +kernel
theorem dX6_takes_32 : decode cX6_takes 32 = .ok (.getfield 175, 3) := by decide +kernel
theorem dX6_takes_35 : decode cX6_takes 35 = .ok (.lload_n 1, 1) := by decide +kernel
theorem dX6_takes_36 : decode cX6_takes 36 = .ok (.lload_n 3, 1) := by decide +kernel
theorem dX6_takes_37 : decode cX6_takes 37 = .ok (.invokestatic 65, 3) := by decide +kernel
theorem dX6_takes_40 : decode cX6_takes 40 = .ok (.ifCond .ne 9, 3) := by decide +kernel
theorem dX6_takes_43 : decode cX6_takes 43 = .ok (.aload_n 0, 1) := by decide +kernel
theorem dX6_takes_44 : decode cX6_takes 44 = .ok (.bipush (-3), 2) := by decide +kernel
theorem dX6_takes_46 : decode cX6_takes 46 = .ok (.invokevirtual 199, 3) := by decide +kernel
theorem dX6_takes_49 : decode cX6_takes 49 = .ok (.aload_n 0, 1) := by decide +kernel
theorem dX6_takes_50 : decode cX6_takes 50 = .ok (.getfield 183, 3) := by decide +kernel
theorem dX6_takes_53 : decode cX6_takes 53 = .ok (.ifCond .ne 11, 3) := by decide +kernel
theorem dX6_takes_56 : decode cX6_takes 56 = .ok (.aload_n 0, 1) := by decide +kernel
theorem dX6_takes_57 : decode cX6_takes 57 = .ok (.getfield 175, 3) := by decide +kernel
theorem dX6_takes_60 : decode cX6_takes 60 = .ok (.l2i, 1) := by decide +kernel
theorem dX6_takes_61 : decode cX6_takes 61 = .ok (.goto 4, 3) := by decide +kernel
theorem dX6_takes_64 : decode cX6_takes 64 = .ok (.iconst 0, 1) := by decide +kernel
theorem dX6_takes_65 : decode cX6_takes 65 = .ok (.istore 5, 2) := by decide +kernel
theorem dX6_takes_67 : decode cX6_takes 67 = .ok (.aload_n 0, 1) := by decide +kernel
theorem dX6_takes_68 : decode cX6_takes 68 = .ok (.getfield 183, 3) := by decide +kernel
theorem dX6_takes_71 : decode cX6_takes 71 = .ok (.ifCond .ne 7, 3) := by decide +kernel
theorem dX6_takes_74 : decode cX6_takes 74 = .ok (.aload_n 0, 1) := by decide +kernel
theorem dX6_takes_75 : decode cX6_takes 75 = .ok (.invokevirtual 203, 3) := by decide +kernel
theorem dX6_takes_78 : decode cX6_takes 78 = .ok (.iload 5, 2) := by decide +kernel
theorem dX6_takes_80 : decode cX6_takes 80 = .ok (.ireturn, 1) := by decide +kernel
theorem dX6_least_0 : decode cX6_least 0 = .ok (.iload_n 0, 1) := by decide +kernel
theorem dX6_least_1 : decode cX6_least 1 = .ok (.ifCond .ne 8, 3) := by decide +kernel
theorem dX6_least_4 : decode cX6_least 4 = .ok (.bipush 10, 2) := by decide +kernel
theorem dX6_least_6 : decode cX6_least 6 = .ok (.goto 33, 3) := by decide +kernel
theorem dX6_least_9 : decode cX6_least 9 = .ok (.iload_n 0, 1) := by decide +kernel
theorem dX6_least_10 : decode cX6_least 10 = .ok (.iconst 1, 1) := by decide +kernel
theorem dX6_least_11 : decode cX6_least 11 = .ok (.if_icmp .ne 7, 3) := by decide +kernel
theorem dX6_least_14 : decode cX6_least 14 = .ok (.iconst 2, 1) := by decide +kernel
theorem dX6_least_15 : decode cX6_least 15 = .ok (.goto 24, 3) := by decide +kernel
theorem dX6_least_18 : decode cX6_least 18 = .ok (.iload_n 0, 1) := by decide +kernel
theorem dX6_least_19 : decode cX6_least 19 = .ok (.iconst 2, 1) := by decide +kernel
theorem dX6_least_20 : decode cX6_least 20 = .ok (.if_icmp .ne 7, 3) := by decide +kernel
theorem dX6_least_23 : decode cX6_least 23 = .ok (.iconst 3, 1) := by decide +kernel
theorem dX6_least_24 : decode cX6_least 24 = .ok (.goto 15, 3) := by decide +kernel
theorem dX6_least_27 : decode cX6_least 27 = .ok (.iload_n 0, 1) := by decide +kernel
theorem dX6_least_28 : decode cX6_least 28 = .ok (.iconst 3, 1) := by decide +kernel
theorem dX6_least_29 : decode cX6_least 29 = .ok (.if_icmp .ne 7, 3) := by decide +kernel
theorem dX6_least_32 : decode cX6_least 32 = .ok (.iconst 0, 1) := by decide +kernel
theorem dX6_least_33 : decode cX6_least 33 = .ok (.goto 6, 3) := by decide +kernel
theorem dX6_least_36 : decode cX6_least 36 = .ok (.sipush (-500), 3) := by decide +kernel
theorem dX6_least_39 : decode cX6_least 39 = .ok (.ireturn, 1) := by decide +kernel
theorem dX6_most_0 : decode cX6_most 0 = .ok (.iload_n 0, 1) := by decide +kernel
theorem dX6_most_1 : decode cX6_most 1 = .ok (.ifCond .ne 9, 3) := by decide +kernel
theorem dX6_most_4 : decode cX6_most 4 = .ok (.sipush 200, 3) := by decide +kernel
theorem dX6_most_7 : decode cX6_most 7 = .ok (.goto 34, 3) := by decide +kernel
theorem dX6_most_10 : decode cX6_most 10 = .ok (.iload_n 0, 1) := by decide +kernel
theorem dX6_most_11 : decode cX6_most 11 = .ok (.iconst 1, 1) := by decide +kernel
theorem dX6_most_12 : decode cX6_most 12 = .ok (.if_icmp .ne 7, 3) := by decide +kernel
theorem dX6_most_15 : decode cX6_most 15 = .ok (.iconst 5, 1) := by decide +kernel
theorem dX6_most_16 : decode cX6_most 16 = .ok (.goto 25, 3) := by decide +kernel
theorem dX6_most_19 : decode cX6_most 19 = .ok (.iload_n 0, 1) := by decide +kernel
theorem dX6_most_20 : decode cX6_most 20 = .ok (.iconst 2, 1) := by decide +kernel
theorem dX6_most_21 : decode cX6_most 21 = .ok (.if_icmp .ne 8, 3) := by decide +kernel
theorem dX6_most_24 : decode cX6_most 24 = .ok (.bipush 8, 2) := by decide +kernel
theorem dX6_most_26 : decode cX6_most 26 = .ok (.goto 15, 3) := by decide +kernel
theorem dX6_most_29 : decode cX6_most 29 = .ok (.iload_n 0, 1) := by decide +kernel
theorem dX6_most_30 : decode cX6_most 30 = .ok (.iconst 3, 1) := by decide +kernel
theorem dX6_most_31 : decode cX6_most 31 = .ok (.if_icmp .ne 7, 3) := by decide +kernel
theorem dX6_most_34 : decode cX6_most 34 = .ok (.iconst 3, 1) := by decide +kernel
theorem dX6_most_35 : decode cX6_most 35 = .ok (.goto 6, 3) := by decide +kernel
theorem dX6_most_38 : decode cX6_most 38 = .ok (.sipush 500, 3) := by decide +kernel
theorem dX6_most_41 : decode cX6_most 41 = .ok (.ireturn, 1) := by decide +kernel
theorem dX6_settingHere_0 : decode cX6_settingHere 0 = .ok (.aload_n 0, 1) := by decide +kernel
theorem dX6_settingHere_1 : decode cX6_settingHere 1 = .ok (.ldc 206, 2) := by decide +kernel
theorem dX6_settingHere_3 : decode cX6_settingHere 3 = .ok (.invokevirtual 208, 3) := by decide +kernel
theorem dX6_settingHere_6 : decode cX6_settingHere 6 = .ok (.ifCond .eq 7, 3) := by decide +kernel
theorem dX6_settingHere_9 : decode cX6_settingHere 9 = .ok (.iconst 0, 1) := by decide +kernel
theorem dX6_settingHere_10 : decode cX6_settingHere 10 = .ok (.goto 56, 3) := by decide +kernel
theorem dX6_settingHere_13 : decode cX6_settingHere 13 = .ok (.aload_n 0, 1) := by decide +kernel
theorem dX6_settingHere_14 : decode cX6_settingHere 14 = .ok (.ldc 212, 2) := by decide +kernel
theorem dX6_settingHere_16 : decode cX6_settingHere 16 = .ok (.invokevirtual 208, 3) := by decide +kernel
theorem dX6_settingHere_19 : decode cX6_settingHere 19 = .ok (.ifCond .eq 7, 3) := by decide +kernel
theorem dX6_settingHere_22 : decode cX6_settingHere 22 = .ok (.iconst 1, 1) := by decide +kernel
theorem dX6_settingHere_23 : decode cX6_settingHere 23 = .ok (.goto 43, 3) := by decide +kernel
theorem dX6_settingHere_26 : decode cX6_settingHere 26 = .ok (.aload_n 0, 1) := by decide +kernel
theorem dX6_settingHere_27 : decode cX6_settingHere 27 = .ok (.ldc 214, 2) := by decide +kernel
theorem dX6_settingHere_29 : decode cX6_settingHere 29 = .ok (.invokevirtual 208, 3) := by decide +kernel
theorem dX6_settingHere_32 : decode cX6_settingHere 32 = .ok (.ifCond .eq 7, 3) := by decide +kernel
theorem dX6_settingHere_35 : decode cX6_settingHere 35 = .ok (.iconst 2, 1) := by decide +kernel
theorem dX6_settingHere_36 : decode cX6_settingHere 36 = .ok (.goto 30, 3) := by decide +kernel
theorem dX6_settingHere_39 : decode cX6_settingHere 39 = .ok (.aload_n 0, 1) := by decide +kernel
theorem dX6_settingHere_40 : decode cX6_settingHere 40 = .ok (.ldc 216, 2) := by decide +kernel
theorem dX6_settingHere_42 : decode cX6_settingHere 42 = .ok (.invokevirtual 208, 3) := by decide +kernel
theorem dX6_settingHere_45 : decode cX6_settingHere 45 = .ok (.ifCond .eq 7, 3) := by decide +kernel
theorem dX6_settingHere_48 : decode cX6_settingHere 48 = .ok (.iconst 3, 1) := by decide +kernel
theorem dX6_settingHere_49 : decode cX6_settingHere 49 = .ok (.goto 17, 3) := by decide +kernel
theorem dX6_settingHere_52 : decode cX6_settingHere 52 = .ok (.aload_n 0, 1) := by decide +kernel
theorem dX6_settingHere_53 : decode cX6_settingHere 53 = .ok (.ldc 218, 2) := by decide +kernel
theorem dX6_settingHere_55 : decode cX6_settingHere 55 = .ok (.invokevirtual 208, 3) := by decide +kernel
theorem dX6_settingHere_58 : decode cX6_settingHere 58 = .ok (.ifCond .eq 7, 3) := by decide +kernel
theorem dX6_settingHere_61 : decode cX6_settingHere 61 = .ok (.iconst 4, 1) := by decide +kernel
theorem dX6_settingHere_62 : decode cX6_settingHere 62 = .ok (.goto 4, 3) := by decide +kernel
theorem dX6_settingHere_65 : decode cX6_settingHere 65 = .ok (.iconst (-1), 1) := by decide +kernel
theorem dX6_settingHere_66 : decode cX6_settingHere 66 = .ok (.ireturn, 1) := by decide +kernel
theorem dX6_sets_0 : decode cX6_sets 0 = .ok (.aload_n 0, 1) := by decide +kernel
theorem dX6_sets_1 : decode cX6_sets 1 = .ok (.getfield 7, 3) := by decide +kernel
theorem dX6_sets_4 : decode cX6_sets 4 = .ok (.iload_n 1, 1) := by decide +kernel
theorem dX6_sets_5 : decode cX6_sets 5 = .ok (.laload, 1) := by decide +kernel
theorem dX6_sets_6 : decode cX6_sets 6 = .ok (.l2i, 1) := by decide +kernel
theorem dX6_sets_7 : decode cX6_sets 7 = .ok (.istore_n 3, 1) := by decide +kernel
theorem dX6_sets_8 : decode cX6_sets 8 = .ok (.aload_n 0, 1) := by decide +kernel
theorem dX6_sets_9 : decode cX6_sets 9 = .ok (.getfield 7, 3) := by decide +kernel
theorem dX6_sets_12 : decode cX6_sets 12 = .ok (.iload_n 1, 1) := by decide +kernel
theorem dX6_sets_13 : decode cX6_sets 13 = .ok (.iload_n 2, 1) := by decide +kernel
theorem dX6_sets_14 : decode cX6_sets 14 = .ok (.i2l, 1) := by decide +kernel
theorem dX6_sets_15 : decode cX6_sets 15 = .ok (.lastore, 1) := by decide +kernel
theorem dX6_sets_16 : decode cX6_sets 16 = .ok (.aload_n 0, 1) := by decide +kernel
theorem dX6_sets_17 : decode cX6_sets 17 = .ok (.getfield 7, 3) := by decide +kernel
theorem dX6_sets_20 : decode cX6_sets 20 = .ok (.bipush 12, 2) := by decide +kernel
theorem dX6_sets_22 : decode cX6_sets 22 = .ok (.laload, 1) := by decide +kernel
theorem dX6_sets_23 : decode cX6_sets 23 = .ok (.aload_n 0, 1) := by decide +kernel
theorem dX6_sets_24 : decode cX6_sets 24 = .ok (.getfield 7, 3) := by decide +kernel
theorem dX6_sets_27 : decode cX6_sets 27 = .ok (.iconst 2, 1) := by decide +kernel
theorem dX6_sets_28 : decode cX6_sets 28 = .ok (.laload, 1) := by decide +kernel
theorem dX6_sets_29 : decode cX6_sets 29 = .ok (.lcmp, 1) := by decide +kernel
theorem dX6_sets_30 : decode cX6_sets 30 = .ok (.ifCond .le 16, 3) := by decide +kernel
theorem dX6_sets_33 : decode cX6_sets 33 = .ok (.aload_n 0, 1) := by decide +kernel
theorem dX6_sets_34 : decode cX6_sets 34 = .ok (.getfield 7, 3) := by decide +kernel
theorem dX6_sets_37 : decode cX6_sets 37 = .ok (.bipush 12, 2) := by decide +kernel
theorem dX6_sets_39 : decode cX6_sets 39 = .ok (.aload_n 0, 1) := by decide +kernel
theorem dX6_sets_40 : decode cX6_sets 40 = .ok (.getfield 7, 3) := by decide +kernel
theorem dX6_sets_43 : decode cX6_sets 43 = .ok (.iconst 2, 1) := by decide +kernel
theorem dX6_sets_44 : decode cX6_sets 44 = .ok (.laload, 1) := by decide +kernel
theorem dX6_sets_45 : decode cX6_sets 45 = .ok (.lastore, 1) := by decide +kernel
theorem dX6_sets_46 : decode cX6_sets 46 = .ok (.iload_n 3, 1) := by decide +kernel
theorem dX6_sets_47 : decode cX6_sets 47 = .ok (.ireturn, 1) := by decide +kernel
theorem dX6_readsSetting_0 : decode cX6_readsSetting 0 = .ok (.aload_n 0, 1) := by decide +kernel
theorem dX6_readsSetting_1 : decode cX6_readsSetting 1 = .ok (.iconst 1, 1) := by decide +kernel
theorem dX6_readsSetting_2 : decode cX6_readsSetting 2 = .ok (.invokevirtual 220, 3) := by decide +kernel
theorem dX6_readsSetting_5 : decode cX6_readsSetting 5 = .ok (.iload_n 1, 1) := by decide +kernel
theorem dX6_readsSetting_6 : decode cX6_readsSetting 6 = .ok (.iconst 4, 1) := by decide +kernel
theorem dX6_readsSetting_7 : decode cX6_readsSetting 7 = .ok (.if_icmp .ne 35, 3) := by decide +kernel
theorem dX6_readsSetting_10 : decode cX6_readsSetting 10 = .ok (.aload_n 0, 1) := by decide +kernel
theorem dX6_readsSetting_11 : decode cX6_readsSetting 11 = .ok (.getfield 183, 3) := by decide +kernel
theorem dX6_readsSetting_14 : decode cX6_readsSetting 14 = .ok (.ifCond .ne 28, 3) := by decide +kernel
theorem dX6_readsSetting_17 : decode cX6_readsSetting 17 = .ok (.aload_n 0, 1) := by decide +kernel
theorem dX6_readsSetting_18 : decode cX6_readsSetting 18 = .ok (.getfield 165, 3) := by decide +kernel
theorem dX6_readsSetting_21 : decode cX6_readsSetting 21 = .ok (.iconst 2, 1) := by decide +kernel
theorem dX6_readsSetting_22 : decode cX6_readsSetting 22 = .ok (.if_icmp .ne 20, 3) := by decide +kernel
theorem dX6_readsSetting_25 : decode cX6_readsSetting 25 = .ok (.aload_n 0, 1) := by decide +kernel
theorem dX6_readsSetting_26 : decode cX6_readsSetting 26 = .ok (.aload_n 0, 1) := by decide +kernel
theorem dX6_readsSetting_27 : decode cX6_readsSetting 27 = .ok (.getfield 159, 3) := by decide +kernel
theorem dX6_readsSetting_30 : decode cX6_readsSetting 30 = .ok (.invokevirtual 162, 3) := by decide +kernel
theorem dX6_readsSetting_33 : decode cX6_readsSetting 33 = .ok (.bipush 45, 2) := by decide +kernel
theorem dX6_readsSetting_35 : decode cX6_readsSetting 35 = .ok (.if_icmp .ne 7, 3) := by decide +kernel
theorem dX6_readsSetting_38 : decode cX6_readsSetting 38 = .ok (.iconst 1, 1) := by decide +kernel
theorem dX6_readsSetting_39 : decode cX6_readsSetting 39 = .ok (.goto 4, 3) := by decide +kernel
theorem dX6_readsSetting_42 : decode cX6_readsSetting 42 = .ok (.iconst 0, 1) := by decide +kernel
theorem dX6_readsSetting_43 : decode cX6_readsSetting 43 = .ok (.istore_n 2, 1) := by decide +kernel
theorem dX6_readsSetting_44 : decode cX6_readsSetting 44 = .ok (.iload_n 2, 1) := by decide +kernel
theorem dX6_readsSetting_45 : decode cX6_readsSetting 45 = .ok (.ifCond .eq 8, 3) := by decide +kernel
theorem dX6_readsSetting_48 : decode cX6_readsSetting 48 = .ok (.aload_n 0, 1) := by decide +kernel
theorem dX6_readsSetting_49 : decode cX6_readsSetting 49 = .ok (.iconst 1, 1) := by decide +kernel
theorem dX6_readsSetting_50 : decode cX6_readsSetting 50 = .ok (.invokevirtual 220, 3) := by decide +kernel
theorem dX6_readsSetting_53 : decode cX6_readsSetting 53 = .ok (.aload_n 0, 1) := by decide +kernel
theorem dX6_readsSetting_54 : decode cX6_readsSetting 54 = .ok (.iload_n 1, 1) := by decide +kernel
theorem dX6_readsSetting_55 : decode cX6_readsSetting 55 = .ok (.iconst 4, 1) := by decide +kernel
theorem dX6_readsSetting_56 : decode cX6_readsSetting 56 = .ok (.if_icmp .ne 7, 3) := by decide +kernel
theorem dX6_readsSetting_59 : decode cX6_readsSetting 59 = .ok (.lconst 0, 1) := by decide +kernel
theorem dX6_readsSetting_60 : decode cX6_readsSetting 60 = .ok (.goto 8, 3) := by decide +kernel
theorem dX6_readsSetting_63 : decode cX6_readsSetting 63 = .ok (.iload_n 1, 1) := by decide +kernel
theorem dX6_readsSetting_64 : decode cX6_readsSetting 64 = .ok (.invokestatic 224, 3) := by decide +kernel
theorem dX6_readsSetting_67 : decode cX6_readsSetting 67 = .ok (.i2l, 1) := by decide +kernel
theorem dX6_readsSetting_68 : decode cX6_readsSetting 68 = .ok (.iload_n 1, 1) := by decide +kernel
theorem dX6_readsSetting_69 : decode cX6_readsSetting 69 = .ok (.invokestatic 227, 3) := by decide +kernel
theorem dX6_readsSetting_72 : decode cX6_readsSetting 72 = .ok (.i2l, 1) := by decide +kernel
theorem dX6_readsSetting_73 : decode cX6_readsSetting 73 = .ok (.invokevirtual 230, 3) := by decide +kernel
theorem dX6_readsSetting_76 : decode cX6_readsSetting 76 = .ok (.istore_n 3, 1) := by decide +kernel
theorem dX6_readsSetting_77 : decode cX6_readsSetting 77 = .ok (.aload_n 0, 1) := by decide +kernel
theorem dX6_readsSetting_78 : decode cX6_readsSetting 78 = .ok (.getfield 183, 3) := by decide +kernel
theorem dX6_readsSetting_81 : decode cX6_readsSetting 81 = .ok (.ifCond .ne 19, 3) := by decide +kernel
theorem dX6_readsSetting_84 : decode cX6_readsSetting 84 = .ok (.aload_n 0, 1) := by decide +kernel
theorem dX6_readsSetting_85 : decode cX6_readsSetting 85 = .ok (.iload_n 1, 1) := by decide +kernel
theorem dX6_readsSetting_86 : decode cX6_readsSetting 86 = .ok (.iload_n 2, 1) := by decide +kernel
theorem dX6_readsSetting_87 : decode cX6_readsSetting 87 = .ok (.ifCond .eq 8, 3) := by decide +kernel
theorem dX6_readsSetting_90 : decode cX6_readsSetting 90 = .ok (.iload_n 3, 1) := by decide +kernel
theorem dX6_readsSetting_91 : decode cX6_readsSetting 91 = .ok (.ineg, 1) := by decide +kernel
theorem dX6_readsSetting_92 : decode cX6_readsSetting 92 = .ok (.goto 4, 3) := by decide +kernel
theorem dX6_readsSetting_95 : decode cX6_readsSetting 95 = .ok (.iload_n 3, 1) := by decide +kernel
theorem dX6_readsSetting_96 : decode cX6_readsSetting 96 = .ok (.invokevirtual 234, 3) := by decide +kernel
theorem dX6_readsSetting_99 : decode cX6_readsSetting 99 = .ok (.pop, 1) := by decide +kernel
theorem dX6_readsSetting_100 : decode cX6_readsSetting 100 = .ok (.return_, 1) := by decide +kernel
theorem dX6_ignores_0 : decode cX6_ignores 0 = .ok (.aload_n 0, 1) := by decide +kernel
theorem dX6_ignores_1 : decode cX6_ignores 1 = .ok (.getfield 7, 3) := by decide +kernel
theorem dX6_ignores_4 : decode cX6_ignores 4 = .ok (.bipush 11, 2) := by decide +kernel
theorem dX6_ignores_6 : decode cX6_ignores 6 = .ok (.dup2, 1) := by decide +kernel
theorem dX6_ignores_7 : decode cX6_ignores 7 = .ok (.laload, 1) := by decide +kernel
theorem dX6_ignores_8 : decode cX6_ignores 8 = .ok (.lconst 1, 1) := by decide +kernel
theorem dX6_ignores_9 : decode cX6_ignores 9 = .ok (.ladd, 1) := by decide +kernel
theorem dX6_ignores_10 : decode cX6_ignores 10 = .ok (.lastore, 1) := by decide +kernel
theorem dX6_ignores_11 : decode cX6_ignores 11 = .ok (.iconst 0, 1) := by decide +kernel
theorem dX6_ignores_12 : decode cX6_ignores 12 = .ok (.ireturn, 1) := by decide +kernel
theorem dX6_forgets_0 : decode cX6_forgets 0 = .ok (.aload_n 0, 1) := by decide +kernel
theorem dX6_forgets_1 : decode cX6_forgets 1 = .ok (.getfield 7, 3) := by decide +kernel
theorem dX6_forgets_4 : decode cX6_forgets 4 = .ok (.iconst 5, 1) := by decide +kernel
theorem dX6_forgets_5 : decode cX6_forgets 5 = .ok (.ldc2_w 53, 3) := by decide +kernel
theorem dX6_forgets_8 : decode cX6_forgets 8 = .ok (.lastore, 1) := by decide +kernel
theorem dX6_forgets_9 : decode cX6_forgets 9 = .ok (.aload_n 0, 1) := by decide +kernel
theorem dX6_forgets_10 : decode cX6_forgets 10 = .ok (.getfield 7, 3) := by decide +kernel
theorem dX6_forgets_13 : decode cX6_forgets 13 = .ok (.bipush 12, 2) := by decide +kernel
theorem dX6_forgets_15 : decode cX6_forgets 15 = .ok (.lconst 0, 1) := by decide +kernel
theorem dX6_forgets_16 : decode cX6_forgets 16 = .ok (.lastore, 1) := by decide +kernel
theorem dX6_forgets_17 : decode cX6_forgets 17 = .ok (.aload_n 0, 1) := by decide +kernel
theorem dX6_forgets_18 : decode cX6_forgets 18 = .ok (.getfield 7, 3) := by decide +kernel
theorem dX6_forgets_21 : decode cX6_forgets 21 = .ok (.bipush 9, 2) := by decide +kernel
theorem dX6_forgets_23 : decode cX6_forgets 23 = .ok (.ldc2_w 53, 3) := by decide +kernel
theorem dX6_forgets_26 : decode cX6_forgets 26 = .ok (.lastore, 1) := by decide +kernel
theorem dX6_forgets_27 : decode cX6_forgets 27 = .ok (.aload_n 0, 1) := by decide +kernel
theorem dX6_forgets_28 : decode cX6_forgets 28 = .ok (.getfield 7, 3) := by decide +kernel
theorem dX6_forgets_31 : decode cX6_forgets 31 = .ok (.bipush 10, 2) := by decide +kernel
theorem dX6_forgets_33 : decode cX6_forgets 33 = .ok (.lconst 0, 1) := by decide +kernel
theorem dX6_forgets_34 : decode cX6_forgets 34 = .ok (.lastore, 1) := by decide +kernel
theorem dX6_forgets_35 : decode cX6_forgets 35 = .ok (.return_, 1) := by decide +kernel
theorem dX6_lays_0 : decode cX6_lays 0 = .ok (.iload_n 1, 1) := by decide +kernel
theorem dX6_lays_1 : decode cX6_lays 1 = .ok (.bipush 59, 2) := by decide +kernel
theorem dX6_lays_3 : decode cX6_lays 3 = .ok (.if_icmp .lt 4, 3) := by decide +kernel
theorem dX6_lays_6 : decode cX6_lays 6 = .ok (.return_, 1) := by decide +kernel
theorem dX6_lays_7 : decode cX6_lays 7 = .ok (.aload_n 0, 1) := by decide +kernel
theorem dX6_lays_8 : decode cX6_lays 8 = .ok (.getfield 7, 3) := by decide +kernel
theorem dX6_lays_11 : decode cX6_lays 11 = .ok (.bipush 14, 2) := by decide +kernel
theorem dX6_lays_13 : decode cX6_lays 13 = .ok (.aload_n 0, 1) := by decide +kernel
theorem dX6_lays_14 : decode cX6_lays 14 = .ok (.getfield 7, 3) := by decide +kernel
theorem dX6_lays_17 : decode cX6_lays 17 = .ok (.bipush 14, 2) := by decide +kernel
theorem dX6_lays_19 : decode cX6_lays 19 = .ok (.laload, 1) := by decide +kernel
theorem dX6_lays_20 : decode cX6_lays 20 = .ok (.lconst 1, 1) := by decide +kernel
theorem dX6_lays_21 : decode cX6_lays 21 = .ok (.iload_n 1, 1) := by decide +kernel
theorem dX6_lays_22 : decode cX6_lays 22 = .ok (.lshl, 1) := by decide +kernel
theorem dX6_lays_23 : decode cX6_lays 23 = .ok (.ldc2_w 53, 3) := by decide +kernel
theorem dX6_lays_26 : decode cX6_lays 26 = .ok (.lxor, 1) := by decide +kernel
theorem dX6_lays_27 : decode cX6_lays 27 = .ok (.land, 1) := by decide +kernel
theorem dX6_lays_28 : decode cX6_lays 28 = .ok (.iload_n 2, 1) := by decide +kernel
theorem dX6_lays_29 : decode cX6_lays 29 = .ok (.iconst 1, 1) := by decide +kernel
theorem dX6_lays_30 : decode cX6_lays 30 = .ok (.if_icmp .ne 9, 3) := by decide +kernel
theorem dX6_lays_33 : decode cX6_lays 33 = .ok (.lconst 1, 1) := by decide +kernel
theorem dX6_lays_34 : decode cX6_lays 34 = .ok (.iload_n 1, 1) := by decide +kernel
theorem dX6_lays_35 : decode cX6_lays 35 = .ok (.lshl, 1) := by decide +kernel
theorem dX6_lays_36 : decode cX6_lays 36 = .ok (.goto 4, 3) := by decide +kernel
theorem dX6_lays_39 : decode cX6_lays 39 = .ok (.lconst 0, 1) := by decide +kernel
theorem dX6_lays_40 : decode cX6_lays 40 = .ok (.lor, 1) := by decide +kernel
theorem dX6_lays_41 : decode cX6_lays 41 = .ok (.lastore, 1) := by decide +kernel
theorem dX6_lays_42 : decode cX6_lays 42 = .ok (.aload_n 0, 1) := by decide +kernel
theorem dX6_lays_43 : decode cX6_lays 43 = .ok (.getfield 7, 3) := by decide +kernel
theorem dX6_lays_46 : decode cX6_lays 46 = .ok (.bipush 15, 2) := by decide +kernel
theorem dX6_lays_48 : decode cX6_lays 48 = .ok (.aload_n 0, 1) := by decide +kernel
theorem dX6_lays_49 : decode cX6_lays 49 = .ok (.getfield 7, 3) := by decide +kernel
theorem dX6_lays_52 : decode cX6_lays 52 = .ok (.bipush 15, 2) := by decide +kernel
theorem dX6_lays_54 : decode cX6_lays 54 = .ok (.laload, 1) := by decide +kernel
theorem dX6_lays_55 : decode cX6_lays 55 = .ok (.lconst 1, 1) := by decide +kernel
theorem dX6_lays_56 : decode cX6_lays 56 = .ok (.iload_n 1, 1) := by decide +kernel
theorem dX6_lays_57 : decode cX6_lays 57 = .ok (.lshl, 1) := by decide +kernel
theorem dX6_lays_58 : decode cX6_lays 58 = .ok (.ldc2_w 53, 3) := by decide +kernel
theorem dX6_lays_61 : decode cX6_lays 61 = .ok (.lxor, 1) := by decide +kernel
theorem dX6_lays_62 : decode cX6_lays 62 = .ok (.land, 1) := by decide +kernel
theorem dX6_lays_63 : decode cX6_lays 63 = .ok (.iload_n 2, 1) := by decide +kernel
theorem dX6_lays_64 : decode cX6_lays 64 = .ok (.iconst 2, 1) := by decide +kernel
theorem dX6_lays_65 : decode cX6_lays 65 = .ok (.if_icmp .ne 9, 3) := by decide +kernel
theorem dX6_lays_68 : decode cX6_lays 68 = .ok (.lconst 1, 1) := by decide +kernel
theorem dX6_lays_69 : decode cX6_lays 69 = .ok (.iload_n 1, 1) := by decide +kernel
theorem dX6_lays_70 : decode cX6_lays 70 = .ok (.lshl, 1) := by decide +kernel
theorem dX6_lays_71 : decode cX6_lays 71 = .ok (.goto 4, 3) := by decide +kernel
theorem dX6_lays_74 : decode cX6_lays 74 = .ok (.lconst 0, 1) := by decide +kernel
theorem dX6_lays_75 : decode cX6_lays 75 = .ok (.lor, 1) := by decide +kernel
theorem dX6_lays_76 : decode cX6_lays 76 = .ok (.lastore, 1) := by decide +kernel
theorem dX6_lays_77 : decode cX6_lays 77 = .ok (.return_, 1) := by decide +kernel
theorem dX6_beginsMinute_0 : decode cX6_beginsMinute 0 = .ok (.aload_n 0, 1) := by decide +kernel
theorem dX6_beginsMinute_1 : decode cX6_beginsMinute 1 = .ok (.getfield 7, 3) := by decide +kernel
theorem dX6_beginsMinute_4 : decode cX6_beginsMinute 4 = .ok (.bipush 14, 2) := by decide +kernel
theorem dX6_beginsMinute_6 : decode cX6_beginsMinute 6 = .ok (.lconst 0, 1) := by decide +kernel
theorem dX6_beginsMinute_7 : decode cX6_beginsMinute 7 = .ok (.lastore, 1) := by decide +kernel
theorem dX6_beginsMinute_8 : decode cX6_beginsMinute 8 = .ok (.aload_n 0, 1) := by decide +kernel
theorem dX6_beginsMinute_9 : decode cX6_beginsMinute 9 = .ok (.getfield 7, 3) := by decide +kernel
theorem dX6_beginsMinute_12 : decode cX6_beginsMinute 12 = .ok (.bipush 15, 2) := by decide +kernel
theorem dX6_beginsMinute_14 : decode cX6_beginsMinute 14 = .ok (.lconst 0, 1) := by decide +kernel
theorem dX6_beginsMinute_15 : decode cX6_beginsMinute 15 = .ok (.lastore, 1) := by decide +kernel
theorem dX6_beginsMinute_16 : decode cX6_beginsMinute 16 = .ok (.aload_n 0, 1) := by decide +kernel
theorem dX6_beginsMinute_17 : decode cX6_beginsMinute 17 = .ok (.getfield 7, 3) := by decide +kernel
theorem dX6_beginsMinute_20 : decode cX6_beginsMinute 20 = .ok (.bipush 8, 2) := by decide +kernel
theorem dX6_beginsMinute_22 : decode cX6_beginsMinute 22 = .ok (.lload_n 3, 1) := by decide +kernel
theorem dX6_beginsMinute_23 : decode cX6_beginsMinute 23 = .ok (.lastore, 1) := by decide +kernel
theorem dX6_beginsMinute_24 : decode cX6_beginsMinute 24 = .ok (.aload_n 0, 1) := by decide +kernel
theorem dX6_beginsMinute_25 : decode cX6_beginsMinute 25 = .ok (.getfield 7, 3) := by decide +kernel
theorem dX6_beginsMinute_28 : decode cX6_beginsMinute 28 = .ok (.iconst 5, 1) := by decide +kernel
theorem dX6_beginsMinute_29 : decode cX6_beginsMinute 29 = .ok (.iload_n 1, 1) := by decide +kernel
theorem dX6_beginsMinute_30 : decode cX6_beginsMinute 30 = .ok (.i2l, 1) := by decide +kernel
theorem dX6_beginsMinute_31 : decode cX6_beginsMinute 31 = .ok (.lastore, 1) := by decide +kernel
theorem dX6_beginsMinute_32 : decode cX6_beginsMinute 32 = .ok (.iconst 0, 1) := by decide +kernel
theorem dX6_beginsMinute_33 : decode cX6_beginsMinute 33 = .ok (.istore 5, 2) := by decide +kernel
theorem dX6_beginsMinute_35 : decode cX6_beginsMinute 35 = .ok (.iload 5, 2) := by decide +kernel
theorem dX6_beginsMinute_37 : decode cX6_beginsMinute 37 = .ok (.iload_n 1, 1) := by decide +kernel
theorem dX6_beginsMinute_38 : decode cX6_beginsMinute 38 = .ok (.if_icmp .ge 16, 3) := by decide +kernel
theorem dX6_beginsMinute_41 : decode cX6_beginsMinute 41 = .ok (.aload_n 0, 1) := by decide +kernel
theorem dX6_beginsMinute_42 : decode cX6_beginsMinute 42 = .ok (.iload 5, 2) := by decide +kernel
theorem dX6_beginsMinute_44 : decode cX6_beginsMinute 44 = .ok (.iconst 2, 1) := by decide +kernel
theorem dX6_beginsMinute_45 : decode cX6_beginsMinute 45 = .ok (.invokevirtual 278, 3) := by decide +kernel
theorem dX6_beginsMinute_48 : decode cX6_beginsMinute 48 = .ok (.iinc 5 1, 3) := by decide +kernel
theorem dX6_beginsMinute_51 : decode cX6_beginsMinute 51 = .ok (.goto (-16), 3) := by decide +kernel
theorem dX6_beginsMinute_54 : decode cX6_beginsMinute 54 = .ok (.aload_n 0, 1) := by decide +kernel
theorem dX6_beginsMinute_55 : decode cX6_beginsMinute 55 = .ok (.iload_n 1, 1) := by decide +kernel
theorem dX6_beginsMinute_56 : decode cX6_beginsMinute 56 = .ok (.iload_n 2, 1) := by decide +kernel
theorem dX6_beginsMinute_57 : decode cX6_beginsMinute 57 = .ok (.invokevirtual 278, 3) := by decide +kernel
theorem dX6_beginsMinute_60 : decode cX6_beginsMinute 60 = .ok (.return_, 1) := by decide +kernel
theorem dX6_goesTo_0 : decode cX6_goesTo 0 = .ok (.aload_n 0, 1) := by decide +kernel
theorem dX6_goesTo_1 : decode cX6_goesTo 1 = .ok (.getfield 7, 3) := by decide +kernel
theorem dX6_goesTo_4 : decode cX6_goesTo 4 = .ok (.iconst 5, 1) := by decide +kernel
theorem dX6_goesTo_5 : decode cX6_goesTo 5 = .ok (.laload, 1) := by decide +kernel
theorem dX6_goesTo_6 : decode cX6_goesTo 6 = .ok (.l2i, 1) := by decide +kernel
theorem dX6_goesTo_7 : decode cX6_goesTo 7 = .ok (.istore_n 3, 1) := by decide +kernel
theorem dX6_goesTo_8 : decode cX6_goesTo 8 = .ok (.iload_n 3, 1) := by decide +kernel
theorem dX6_goesTo_9 : decode cX6_goesTo 9 = .ok (.iconst 1, 1) := by decide +kernel
theorem dX6_goesTo_10 : decode cX6_goesTo 10 = .ok (.iadd, 1) := by decide +kernel
theorem dX6_goesTo_11 : decode cX6_goesTo 11 = .ok (.istore 4, 2) := by decide +kernel
theorem dX6_goesTo_13 : decode cX6_goesTo 13 = .ok (.iload 4, 2) := by decide +kernel
theorem dX6_goesTo_15 : decode cX6_goesTo 15 = .ok (.iload_n 1, 1) := by decide +kernel
theorem dX6_goesTo_16 : decode cX6_goesTo 16 = .ok (.if_icmp .ge 16, 3) := by decide +kernel
theorem dX6_goesTo_19 : decode cX6_goesTo 19 = .ok (.aload_n 0, 1) := by decide +kernel
theorem dX6_goesTo_20 : decode cX6_goesTo 20 = .ok (.iload 4, 2) := by decide +kernel
theorem dX6_goesTo_22 : decode cX6_goesTo 22 = .ok (.iconst 2, 1) := by decide +kernel
theorem dX6_goesTo_23 : decode cX6_goesTo 23 = .ok (.invokevirtual 278, 3) := by decide +kernel
theorem dX6_goesTo_26 : decode cX6_goesTo 26 = .ok (.iinc 4 1, 3) := by decide +kernel
theorem dX6_goesTo_29 : decode cX6_goesTo 29 = .ok (.goto (-16), 3) := by decide +kernel
theorem dX6_goesTo_32 : decode cX6_goesTo 32 = .ok (.aload_n 0, 1) := by decide +kernel
theorem dX6_goesTo_33 : decode cX6_goesTo 33 = .ok (.iload_n 1, 1) := by decide +kernel
theorem dX6_goesTo_34 : decode cX6_goesTo 34 = .ok (.iload_n 2, 1) := by decide +kernel
theorem dX6_goesTo_35 : decode cX6_goesTo 35 = .ok (.invokevirtual 278, 3) := by decide +kernel
theorem dX6_goesTo_38 : decode cX6_goesTo 38 = .ok (.aload_n 0, 1) := by decide +kernel
theorem dX6_goesTo_39 : decode cX6_goesTo 39 = .ok (.getfield 7, 3) := by decide +kernel
theorem dX6_goesTo_42 : decode cX6_goesTo 42 = .ok (.iconst 5, 1) := by decide +kernel
theorem dX6_goesTo_43 : decode cX6_goesTo 43 = .ok (.iload_n 1, 1) := by decide +kernel
theorem dX6_goesTo_44 : decode cX6_goesTo 44 = .ok (.i2l, 1) := by decide +kernel
theorem dX6_goesTo_45 : decode cX6_goesTo 45 = .ok (.lastore, 1) := by decide +kernel
theorem dX6_goesTo_46 : decode cX6_goesTo 46 = .ok (.iload_n 1, 1) := by decide +kernel
theorem dX6_goesTo_47 : decode cX6_goesTo 47 = .ok (.iload_n 3, 1) := by decide +kernel
theorem dX6_goesTo_48 : decode cX6_goesTo 48 = .ok (.isub, 1) := by decide +kernel
theorem dX6_goesTo_49 : decode cX6_goesTo 49 = .ok (.iconst 1, 1) := by decide +kernel
theorem dX6_goesTo_50 : decode cX6_goesTo 50 = .ok (.if_icmp .le 7, 3) := by decide +kernel
theorem dX6_goesTo_53 : decode cX6_goesTo 53 = .ok (.iconst 2, 1) := by decide +kernel
theorem dX6_goesTo_54 : decode cX6_goesTo 54 = .ok (.goto 4, 3) := by decide +kernel
theorem dX6_goesTo_57 : decode cX6_goesTo 57 = .ok (.iconst 1, 1) := by decide +kernel
theorem dX6_goesTo_58 : decode cX6_goesTo 58 = .ok (.ireturn, 1) := by decide +kernel
theorem dX6_madeBy_0 : decode cX6_madeBy 0 = .ok (.lload_n 0, 1) := by decide +kernel
theorem dX6_madeBy_1 : decode cX6_madeBy 1 = .ok (.lstore 5, 2) := by decide +kernel
theorem dX6_madeBy_3 : decode cX6_madeBy 3 = .ok (.iconst 0, 1) := by decide +kernel
theorem dX6_madeBy_4 : decode cX6_madeBy 4 = .ok (.istore 7, 2) := by decide +kernel
theorem dX6_madeBy_6 : decode cX6_madeBy 6 = .ok (.iconst 0, 1) := by decide +kernel
theorem dX6_madeBy_7 : decode cX6_madeBy 7 = .ok (.istore 8, 2) := by decide +kernel
theorem dX6_madeBy_9 : decode cX6_madeBy 9 = .ok (.iload 8, 2) := by decide +kernel
theorem dX6_madeBy_11 : decode cX6_madeBy 11 = .ok (.bipush 59, 2) := by decide +kernel
theorem dX6_madeBy_13 : decode cX6_madeBy 13 = .ok (.if_icmp .ge 52, 3) := by decide +kernel
theorem dX6_madeBy_16 : decode cX6_madeBy 16 = .ok (.lload_n 2, 1) := by decide +kernel
theorem dX6_madeBy_17 : decode cX6_madeBy 17 = .ok (.ldc2_w 130, 3) := by decide +kernel
theorem dX6_madeBy_20 : decode cX6_madeBy 20 = .ok (.land, 1) := by decide +kernel
theorem dX6_madeBy_21 : decode cX6_madeBy 21 = .ok (.iload 8, 2) := by decide +kernel
theorem dX6_madeBy_23 : decode cX6_madeBy 23 = .ok (.invokestatic 58, 3) := by decide +kernel
theorem dX6_madeBy_26 : decode cX6_madeBy 26 = .ok (.ifCond .ne 6, 3) := by decide +kernel
theorem dX6_madeBy_29 : decode cX6_madeBy 29 = .ok (.goto 30, 3) := by decide +kernel
theorem dX6_madeBy_32 : decode cX6_madeBy 32 = .ok (.lload 5, 2) := by decide +kernel
theorem dX6_madeBy_34 : decode cX6_madeBy 34 = .ok (.iload 4, 2) := by decide +kernel
theorem dX6_madeBy_36 : decode cX6_madeBy 36 = .ok (.i2l, 1) := by decide +kernel
theorem dX6_madeBy_37 : decode cX6_madeBy 37 = .ok (.iload 7, 2) := by decide +kernel
theorem dX6_madeBy_39 : decode cX6_madeBy 39 = .ok (.invokestatic 58, 3) := by decide +kernel
theorem dX6_madeBy_42 : decode cX6_madeBy 42 = .ok (.ifCond .eq 10, 3) := by decide +kernel
theorem dX6_madeBy_45 : decode cX6_madeBy 45 = .ok (.lconst 1, 1) := by decide +kernel
theorem dX6_madeBy_46 : decode cX6_madeBy 46 = .ok (.iload 8, 2) := by decide +kernel
theorem dX6_madeBy_48 : decode cX6_madeBy 48 = .ok (.lshl, 1) := by decide +kernel
theorem dX6_madeBy_49 : decode cX6_madeBy 49 = .ok (.goto 4, 3) := by decide +kernel
theorem dX6_madeBy_52 : decode cX6_madeBy 52 = .ok (.lconst 0, 1) := by decide +kernel
theorem dX6_madeBy_53 : decode cX6_madeBy 53 = .ok (.lor, 1) := by decide +kernel
theorem dX6_madeBy_54 : decode cX6_madeBy 54 = .ok (.lstore 5, 2) := by decide +kernel
theorem dX6_madeBy_56 : decode cX6_madeBy 56 = .ok (.iinc 7 1, 3) := by decide +kernel
theorem dX6_madeBy_59 : decode cX6_madeBy 59 = .ok (.iinc 8 1, 3) := by decide +kernel
theorem dX6_madeBy_62 : decode cX6_madeBy 62 = .ok (.goto (-53), 3) := by decide +kernel
theorem dX6_madeBy_65 : decode cX6_madeBy 65 = .ok (.lload 5, 2) := by decide +kernel
theorem dX6_madeBy_67 : decode cX6_madeBy 67 = .ok (.lreturn, 1) := by decide +kernel
theorem dX6_tells_0 : decode cX6_tells 0 = .ok (.aload_n 0, 1) := by decide +kernel
theorem dX6_tells_1 : decode cX6_tells 1 = .ok (.getfield 7, 3) := by decide +kernel
theorem dX6_tells_4 : decode cX6_tells 4 = .ok (.bipush 16, 2) := by decide +kernel
theorem dX6_tells_6 : decode cX6_tells 6 = .ok (.iconst 2, 1) := by decide +kernel
theorem dX6_tells_7 : decode cX6_tells 7 = .ok (.iload_n 1, 1) := by decide +kernel
theorem dX6_tells_8 : decode cX6_tells 8 = .ok (.imul, 1) := by decide +kernel
theorem dX6_tells_9 : decode cX6_tells 9 = .ok (.iadd, 1) := by decide +kernel
theorem dX6_tells_10 : decode cX6_tells 10 = .ok (.laload, 1) := by decide +kernel
theorem dX6_tells_11 : decode cX6_tells 11 = .ok (.lstore_n 2, 1) := by decide +kernel
theorem dX6_tells_12 : decode cX6_tells 12 = .ok (.aload_n 0, 1) := by decide +kernel
theorem dX6_tells_13 : decode cX6_tells 13 = .ok (.getfield 7, 3) := by decide +kernel
theorem dX6_tells_16 : decode cX6_tells 16 = .ok (.bipush 16, 2) := by decide +kernel
theorem dX6_tells_18 : decode cX6_tells 18 = .ok (.iconst 2, 1) := by decide +kernel
theorem dX6_tells_19 : decode cX6_tells 19 = .ok (.iload_n 1, 1) := by decide +kernel
theorem dX6_tells_20 : decode cX6_tells 20 = .ok (.imul, 1) := by decide +kernel
theorem dX6_tells_21 : decode cX6_tells 21 = .ok (.iadd, 1) := by decide +kernel
theorem dX6_tells_22 : decode cX6_tells 22 = .ok (.iconst 1, 1) := by decide +kernel
theorem dX6_tells_23 : decode cX6_tells 23 = .ok (.iadd, 1) := by decide +kernel
theorem dX6_tells_24 : decode cX6_tells 24 = .ok (.laload, 1) := by decide +kernel
theorem dX6_tells_25 : decode cX6_tells 25 = .ok (.lstore 4, 2) := by decide +kernel
theorem dX6_tells_27 : decode cX6_tells 27 = .ok (.aload_n 0, 1) := by decide +kernel
theorem dX6_tells_28 : decode cX6_tells 28 = .ok (.lload_n 2, 1) := by decide +kernel
theorem dX6_tells_29 : decode cX6_tells 29 = .ok (.putfield 338, 3) := by decide +kernel
theorem dX6_tells_32 : decode cX6_tells 32 = .ok (.aload_n 0, 1) := by decide +kernel
theorem dX6_tells_33 : decode cX6_tells 33 = .ok (.lload_n 2, 1) := by decide +kernel
theorem dX6_tells_34 : decode cX6_tells 34 = .ok (.lload 4, 2) := by decide +kernel
theorem dX6_tells_36 : decode cX6_tells 36 = .ok (.invokevirtual 341, 3) := by decide +kernel
theorem dX6_tells_39 : decode cX6_tells 39 = .ok (.istore 6, 2) := by decide +kernel
theorem dX6_tells_41 : decode cX6_tells 41 = .ok (.iload 6, 2) := by decide +kernel
theorem dX6_tells_43 : decode cX6_tells 43 = .ok (.ifCond .ne 8, 3) := by decide +kernel
theorem dX6_tells_46 : decode cX6_tells 46 = .ok (.aload_n 0, 1) := by decide +kernel
theorem dX6_tells_47 : decode cX6_tells 47 = .ok (.getfield 139, 3) := by decide +kernel
theorem dX6_tells_50 : decode cX6_tells 50 = .ok (.ireturn, 1) := by decide +kernel
theorem dX6_tells_51 : decode cX6_tells 51 = .ok (.lload 4, 2) := by decide +kernel
theorem dX6_tells_53 : decode cX6_tells 53 = .ok (.ldc2_w 130, 3) := by decide +kernel
theorem dX6_tells_56 : decode cX6_tells 56 = .ok (.land, 1) := by decide +kernel
theorem dX6_tells_57 : decode cX6_tells 57 = .ok (.iconst 0, 1) := by decide +kernel
theorem dX6_tells_58 : decode cX6_tells 58 = .ok (.bipush 58, 2) := by decide +kernel
theorem dX6_tells_60 : decode cX6_tells 60 = .ok (.invokestatic 107, 3) := by decide +kernel
theorem dX6_tells_63 : decode cX6_tells 63 = .ok (.istore 7, 2) := by decide +kernel
theorem dX6_tells_65 : decode cX6_tells 65 = .ok (.iload 6, 2) := by decide +kernel
theorem dX6_tells_67 : decode cX6_tells 67 = .ok (.iconst 1, 1) := by decide +kernel
theorem dX6_tells_68 : decode cX6_tells 68 = .ok (.if_icmp .ne 16, 3) := by decide +kernel
theorem dX6_tells_71 : decode cX6_tells 71 = .ok (.iload 7, 2) := by decide +kernel
theorem dX6_tells_73 : decode cX6_tells 73 = .ok (.i2l, 1) := by decide +kernel
theorem dX6_tells_74 : decode cX6_tells 74 = .ok (.aload_n 0, 1) := by decide +kernel
theorem dX6_tells_75 : decode cX6_tells 75 = .ok (.getfield 7, 3) := by decide +kernel
theorem dX6_tells_78 : decode cX6_tells 78 = .ok (.iconst 3, 1) := by decide +kernel
theorem dX6_tells_79 : decode cX6_tells 79 = .ok (.laload, 1) := by decide +kernel
theorem dX6_tells_80 : decode cX6_tells 80 = .ok (.lcmp, 1) := by decide +kernel
theorem dX6_tells_81 : decode cX6_tells 81 = .ok (.ifCond .le 5, 3) := by decide +kernel
theorem dX6_tells_84 : decode cX6_tells 84 = .ok (.iconst (-1), 1) := by decide +kernel
theorem dX6_tells_85 : decode cX6_tells 85 = .ok (.ireturn, 1) := by decide +kernel
theorem dX6_tells_86 : decode cX6_tells 86 = .ok (.iconst 0, 1) := by decide +kernel
theorem dX6_tells_87 : decode cX6_tells 87 = .ok (.istore 8, 2) := by decide +kernel
theorem dX6_tells_89 : decode cX6_tells 89 = .ok (.iconst (-1), 1) := by decide +kernel
theorem dX6_tells_90 : decode cX6_tells 90 = .ok (.istore 9, 2) := by decide +kernel
theorem dX6_tells_92 : decode cX6_tells 92 = .ok (.iconst 0, 1) := by decide +kernel
theorem dX6_tells_93 : decode cX6_tells 93 = .ok (.istore 10, 2) := by decide +kernel
theorem dX6_tells_95 : decode cX6_tells 95 = .ok (.iload 10, 2) := by decide +kernel
theorem dX6_tells_97 : decode cX6_tells 97 = .ok (.iconst 1, 1) := by decide +kernel
theorem dX6_tells_98 : decode cX6_tells 98 = .ok (.iload 7, 2) := by decide +kernel
theorem dX6_tells_100 : decode cX6_tells 100 = .ok (.ishl, 1) := by decide +kernel
theorem dX6_tells_101 : decode cX6_tells 101 = .ok (.if_icmp .ge 49, 3) := by decide +kernel
theorem dX6_tells_104 : decode cX6_tells 104 = .ok (.aload_n 0, 1) := by decide +kernel
theorem dX6_tells_105 : decode cX6_tells 105 = .ok (.lload_n 2, 1) := by decide +kernel
theorem dX6_tells_106 : decode cX6_tells 106 = .ok (.lload 4, 2) := by decide +kernel
theorem dX6_tells_108 : decode cX6_tells 108 = .ok (.iload 10, 2) := by decide +kernel
theorem dX6_tells_110 : decode cX6_tells 110 = .ok (.invokestatic 344, 3) := by decide +kernel
theorem dX6_tells_113 : decode cX6_tells 113 = .ok (.lconst 0, 1) := by decide +kernel
theorem dX6_tells_114 : decode cX6_tells 114 = .ok (.invokevirtual 341, 3) := by decide +kernel
theorem dX6_tells_117 : decode cX6_tells 117 = .ok (.ifCond .eq 6, 3) := by decide +kernel
theorem dX6_tells_120 : decode cX6_tells 120 = .ok (.goto 24, 3) := by decide +kernel
theorem dX6_tells_123 : decode cX6_tells 123 = .ok (.iinc 8 1, 3) := by decide +kernel
theorem dX6_tells_126 : decode cX6_tells 126 = .ok (.aload_n 0, 1) := by decide +kernel
theorem dX6_tells_127 : decode cX6_tells 127 = .ok (.getfield 139, 3) := by decide +kernel
theorem dX6_tells_130 : decode cX6_tells 130 = .ok (.istore 9, 2) := by decide +kernel
theorem dX6_tells_132 : decode cX6_tells 132 = .ok (.aload_n 0, 1) := by decide +kernel
theorem dX6_tells_133 : decode cX6_tells 133 = .ok (.lload_n 2, 1) := by decide +kernel
theorem dX6_tells_134 : decode cX6_tells 134 = .ok (.lload 4, 2) := by decide +kernel
theorem dX6_tells_136 : decode cX6_tells 136 = .ok (.iload 10, 2) := by decide +kernel
theorem dX6_tells_138 : decode cX6_tells 138 = .ok (.invokestatic 344, 3) := by decide +kernel
theorem dX6_tells_141 : decode cX6_tells 141 = .ok (.putfield 338, 3) := by decide +kernel
theorem dX6_tells_144 : decode cX6_tells 144 = .ok (.iinc 10 1, 3) := by decide +kernel
theorem dX6_tells_147 : decode cX6_tells 147 = .ok (.goto (-52), 3) := by decide +kernel
theorem dX6_tells_150 : decode cX6_tells 150 = .ok (.iload 8, 2) := by decide +kernel
theorem dX6_tells_152 : decode cX6_tells 152 = .ok (.iconst 1, 1) := by decide +kernel
theorem dX6_tells_153 : decode cX6_tells 153 = .ok (.if_icmp .ne 8, 3) := by decide +kernel
theorem dX6_tells_156 : decode cX6_tells 156 = .ok (.iload 9, 2) := by decide +kernel
theorem dX6_tells_158 : decode cX6_tells 158 = .ok (.goto 4, 3) := by decide +kernel
theorem dX6_tells_161 : decode cX6_tells 161 = .ok (.iconst (-1), 1) := by decide +kernel
theorem dX6_tells_162 : decode cX6_tells 162 = .ok (.ireturn, 1) := by decide +kernel
theorem dX6_votesFor_0 : decode cX6_votesFor 0 = .ok (.aload_n 0, 1) := by decide +kernel
theorem dX6_votesFor_1 : decode cX6_votesFor 1 = .ok (.iload_n 1, 1) := by decide +kernel
theorem dX6_votesFor_2 : decode cX6_votesFor 2 = .ok (.invokevirtual 348, 3) := by decide +kernel
theorem dX6_votesFor_5 : decode cX6_votesFor 5 = .ok (.istore_n 2, 1) := by decide +kernel
theorem dX6_votesFor_6 : decode cX6_votesFor 6 = .ok (.iload_n 2, 1) := by decide +kernel
theorem dX6_votesFor_7 : decode cX6_votesFor 7 = .ok (.iconst (-1), 1) := by decide +kernel
theorem dX6_votesFor_8 : decode cX6_votesFor 8 = .ok (.if_icmp .ne 7, 3) := by decide +kernel
theorem dX6_votesFor_11 : decode cX6_votesFor 11 = .ok (.iconst (-1), 1) := by decide +kernel
theorem dX6_votesFor_12 : decode cX6_votesFor 12 = .ok (.goto 6, 3) := by decide +kernel
theorem dX6_votesFor_15 : decode cX6_votesFor 15 = .ok (.iload_n 2, 1) := by decide +kernel
theorem dX6_votesFor_16 : decode cX6_votesFor 16 = .ok (.iload_n 1, 1) := by decide +kernel
theorem dX6_votesFor_17 : decode cX6_votesFor 17 = .ok (.iadd, 1) := by decide +kernel
theorem dX6_votesFor_18 : decode cX6_votesFor 18 = .ok (.ireturn, 1) := by decide +kernel
theorem dX6_votesNow_0 : decode cX6_votesNow 0 = .ok (.iconst 0, 1) := by decide +kernel
theorem dX6_votesNow_1 : decode cX6_votesNow 1 = .ok (.istore_n 2, 1) := by decide +kernel
theorem dX6_votesNow_2 : decode cX6_votesNow 2 = .ok (.iconst 0, 1) := by decide +kernel
theorem dX6_votesNow_3 : decode cX6_votesNow 3 = .ok (.istore_n 3, 1) := by decide +kernel
theorem dX6_votesNow_4 : decode cX6_votesNow 4 = .ok (.iload_n 3, 1) := by decide +kernel
theorem dX6_votesNow_5 : decode cX6_votesNow 5 = .ok (.i2l, 1) := by decide +kernel
theorem dX6_votesNow_6 : decode cX6_votesNow 6 = .ok (.aload_n 0, 1) := by decide +kernel
theorem dX6_votesNow_7 : decode cX6_votesNow 7 = .ok (.getfield 7, 3) := by decide +kernel
theorem dX6_votesNow_10 : decode cX6_votesNow 10 = .ok (.bipush 12, 2) := by decide +kernel
theorem dX6_votesNow_12 : decode cX6_votesNow 12 = .ok (.laload, 1) := by decide +kernel
theorem dX6_votesNow_13 : decode cX6_votesNow 13 = .ok (.lcmp, 1) := by decide +kernel
theorem dX6_votesNow_14 : decode cX6_votesNow 14 = .ok (.ifCond .ge 36, 3) := by decide +kernel
theorem dX6_votesNow_17 : decode cX6_votesNow 17 = .ok (.aload_n 0, 1) := by decide +kernel
theorem dX6_votesNow_18 : decode cX6_votesNow 18 = .ok (.iload_n 3, 1) := by decide +kernel
theorem dX6_votesNow_19 : decode cX6_votesNow 19 = .ok (.invokevirtual 351, 3) := by decide +kernel
theorem dX6_votesNow_22 : decode cX6_votesNow 22 = .ok (.istore 4, 2) := by decide +kernel
theorem dX6_votesNow_24 : decode cX6_votesNow 24 = .ok (.iload_n 2, 1) := by decide +kernel
theorem dX6_votesNow_25 : decode cX6_votesNow 25 = .ok (.iload 4, 2) := by decide +kernel
theorem dX6_votesNow_27 : decode cX6_votesNow 27 = .ok (.iconst (-1), 1) := by decide +kernel
theorem dX6_votesNow_28 : decode cX6_votesNow 28 = .ok (.if_icmp .eq 13, 3) := by decide +kernel
theorem dX6_votesNow_31 : decode cX6_votesNow 31 = .ok (.iload 4, 2) := by decide +kernel
theorem dX6_votesNow_33 : decode cX6_votesNow 33 = .ok (.iload_n 1, 1) := by decide +kernel
theorem dX6_votesNow_34 : decode cX6_votesNow 34 = .ok (.if_icmp .ne 7, 3) := by decide +kernel
theorem dX6_votesNow_37 : decode cX6_votesNow 37 = .ok (.iconst 1, 1) := by decide +kernel
theorem dX6_votesNow_38 : decode cX6_votesNow 38 = .ok (.goto 4, 3) := by decide +kernel
theorem dX6_votesNow_41 : decode cX6_votesNow 41 = .ok (.iconst 0, 1) := by decide +kernel
theorem dX6_votesNow_42 : decode cX6_votesNow 42 = .ok (.iadd, 1) := by decide +kernel
theorem dX6_votesNow_43 : decode cX6_votesNow 43 = .ok (.istore_n 2, 1) := by decide +kernel
theorem dX6_votesNow_44 : decode cX6_votesNow 44 = .ok (.iinc 3 1, 3) := by decide +kernel
theorem dX6_votesNow_47 : decode cX6_votesNow 47 = .ok (.goto (-43), 3) := by decide +kernel
theorem dX6_votesNow_50 : decode cX6_votesNow 50 = .ok (.iload_n 2, 1) := by decide +kernel
theorem dX6_votesNow_51 : decode cX6_votesNow 51 = .ok (.ireturn, 1) := by decide +kernel
theorem dX6_countsVotes_0 : decode cX6_countsVotes 0 = .ok (.aload_n 0, 1) := by decide +kernel
theorem dX6_countsVotes_1 : decode cX6_countsVotes 1 = .ok (.getfield 7, 3) := by decide +kernel
theorem dX6_countsVotes_4 : decode cX6_countsVotes 4 = .ok (.bipush 9, 2) := by decide +kernel
theorem dX6_countsVotes_6 : decode cX6_countsVotes 6 = .ok (.ldc2_w 53, 3) := by decide +kernel
theorem dX6_countsVotes_9 : decode cX6_countsVotes 9 = .ok (.lastore, 1) := by decide +kernel
theorem dX6_countsVotes_10 : decode cX6_countsVotes 10 = .ok (.aload_n 0, 1) := by decide +kernel
theorem dX6_countsVotes_11 : decode cX6_countsVotes 11 = .ok (.getfield 7, 3) := by decide +kernel
theorem dX6_countsVotes_14 : decode cX6_countsVotes 14 = .ok (.bipush 10, 2) := by decide +kernel
theorem dX6_countsVotes_16 : decode cX6_countsVotes 16 = .ok (.lconst 0, 1) := by decide +kernel
theorem dX6_countsVotes_17 : decode cX6_countsVotes 17 = .ok (.lastore, 1) := by decide +kernel
theorem dX6_countsVotes_18 : decode cX6_countsVotes 18 = .ok (.iconst 0, 1) := by decide +kernel
theorem dX6_countsVotes_19 : decode cX6_countsVotes 19 = .ok (.istore_n 1, 1) := by decide +kernel
theorem dX6_countsVotes_20 : decode cX6_countsVotes 20 = .ok (.iconst 0, 1) := by decide +kernel
theorem dX6_countsVotes_21 : decode cX6_countsVotes 21 = .ok (.istore_n 2, 1) := by decide +kernel
theorem dX6_countsVotes_22 : decode cX6_countsVotes 22 = .ok (.iload_n 2, 1) := by decide +kernel
theorem dX6_countsVotes_23 : decode cX6_countsVotes 23 = .ok (.i2l, 1) := by decide +kernel
theorem dX6_countsVotes_24 : decode cX6_countsVotes 24 = .ok (.aload_n 0, 1) := by decide +kernel
theorem dX6_countsVotes_25 : decode cX6_countsVotes 25 = .ok (.getfield 7, 3) := by decide +kernel
theorem dX6_countsVotes_28 : decode cX6_countsVotes 28 = .ok (.bipush 12, 2) := by decide +kernel
theorem dX6_countsVotes_30 : decode cX6_countsVotes 30 = .ok (.laload, 1) := by decide +kernel
theorem dX6_countsVotes_31 : decode cX6_countsVotes 31 = .ok (.lcmp, 1) := by decide +kernel
theorem dX6_countsVotes_32 : decode cX6_countsVotes 32 = .ok (.ifCond .ge 118, 3) := by decide +kernel
theorem dX6_countsVotes_35 : decode cX6_countsVotes 35 = .ok (.aload_n 0, 1) := by decide +kernel
theorem dX6_countsVotes_36 : decode cX6_countsVotes 36 = .ok (.iload_n 2, 1) := by decide +kernel
theorem dX6_countsVotes_37 : decode cX6_countsVotes 37 = .ok (.invokevirtual 351, 3) := by decide +kernel
theorem dX6_countsVotes_40 : decode cX6_countsVotes 40 = .ok (.istore_n 3, 1) := by decide +kernel
theorem dX6_countsVotes_41 : decode cX6_countsVotes 41 = .ok (.iload_n 3, 1) := by decide +kernel
theorem dX6_countsVotes_42 : decode cX6_countsVotes 42 = .ok (.iconst (-1), 1) := by decide +kernel
theorem dX6_countsVotes_43 : decode cX6_countsVotes 43 = .ok (.if_icmp .ne 7, 3) := by decide +kernel
theorem dX6_countsVotes_46 : decode cX6_countsVotes 46 = .ok (.iconst 0, 1) := by decide +kernel
theorem dX6_countsVotes_47 : decode cX6_countsVotes 47 = .ok (.goto 8, 3) := by decide +kernel
theorem dX6_countsVotes_50 : decode cX6_countsVotes 50 = .ok (.aload_n 0, 1) := by decide +kernel
theorem dX6_countsVotes_51 : decode cX6_countsVotes 51 = .ok (.iload_n 3, 1) := by decide +kernel
theorem dX6_countsVotes_52 : decode cX6_countsVotes 52 = .ok (.invokevirtual 354, 3) := by decide +kernel
theorem dX6_countsVotes_55 : decode cX6_countsVotes 55 = .ok (.istore 4, 2) := by decide +kernel
theorem dX6_countsVotes_57 : decode cX6_countsVotes 57 = .ok (.iload 4, 2) := by decide +kernel
theorem dX6_countsVotes_59 : decode cX6_countsVotes 59 = .ok (.i2l, 1) := by decide +kernel
theorem dX6_countsVotes_60 : decode cX6_countsVotes 60 = .ok (.aload_n 0, 1) := by decide +kernel
theorem dX6_countsVotes_61 : decode cX6_countsVotes 61 = .ok (.getfield 7, 3) := by decide +kernel
theorem dX6_countsVotes_64 : decode cX6_countsVotes 64 = .ok (.iconst 1, 1) := by decide +kernel
theorem dX6_countsVotes_65 : decode cX6_countsVotes 65 = .ok (.laload, 1) := by decide +kernel
theorem dX6_countsVotes_66 : decode cX6_countsVotes 66 = .ok (.lcmp, 1) := by decide +kernel
theorem dX6_countsVotes_67 : decode cX6_countsVotes 67 = .ok (.ifCond .lt 77, 3) := by decide +kernel
theorem dX6_countsVotes_70 : decode cX6_countsVotes 70 = .ok (.iload 4, 2) := by decide +kernel
theorem dX6_countsVotes_72 : decode cX6_countsVotes 72 = .ok (.iload_n 1, 1) := by decide +kernel
theorem dX6_countsVotes_73 : decode cX6_countsVotes 73 = .ok (.if_icmp .ge 6, 3) := by decide +kernel
theorem dX6_countsVotes_76 : decode cX6_countsVotes 76 = .ok (.goto 68, 3) := by decide +kernel
theorem dX6_countsVotes_79 : decode cX6_countsVotes 79 = .ok (.aload_n 0, 1) := by decide +kernel
theorem dX6_countsVotes_80 : decode cX6_countsVotes 80 = .ok (.getfield 7, 3) := by decide +kernel
theorem dX6_countsVotes_83 : decode cX6_countsVotes 83 = .ok (.bipush 9, 2) := by decide +kernel
theorem dX6_countsVotes_85 : decode cX6_countsVotes 85 = .ok (.iload 4, 2) := by decide +kernel
theorem dX6_countsVotes_87 : decode cX6_countsVotes 87 = .ok (.iload_n 1, 1) := by decide +kernel
theorem dX6_countsVotes_88 : decode cX6_countsVotes 88 = .ok (.if_icmp .gt 16, 3) := by decide +kernel
theorem dX6_countsVotes_91 : decode cX6_countsVotes 91 = .ok (.aload_n 0, 1) := by decide +kernel
theorem dX6_countsVotes_92 : decode cX6_countsVotes 92 = .ok (.getfield 7, 3) := by decide +kernel
theorem dX6_countsVotes_95 : decode cX6_countsVotes 95 = .ok (.bipush 9, 2) := by decide +kernel
theorem dX6_countsVotes_97 : decode cX6_countsVotes 97 = .ok (.laload, 1) := by decide +kernel
theorem dX6_countsVotes_98 : decode cX6_countsVotes 98 = .ok (.iload_n 3, 1) := by decide +kernel
theorem dX6_countsVotes_99 : decode cX6_countsVotes 99 = .ok (.i2l, 1) := by decide +kernel
theorem dX6_countsVotes_100 : decode cX6_countsVotes 100 = .ok (.lcmp, 1) := by decide +kernel
theorem dX6_countsVotes_101 : decode cX6_countsVotes 101 = .ok (.ifCond .ne 8, 3) := by decide +kernel
theorem dX6_countsVotes_104 : decode cX6_countsVotes 104 = .ok (.iload_n 3, 1) := by decide +kernel
theorem dX6_countsVotes_105 : decode cX6_countsVotes 105 = .ok (.i2l, 1) := by decide +kernel
theorem dX6_countsVotes_106 : decode cX6_countsVotes 106 = .ok (.goto 6, 3) := by decide +kernel
theorem dX6_countsVotes_109 : decode cX6_countsVotes 109 = .ok (.ldc2_w 53, 3) := by decide +kernel
theorem dX6_countsVotes_112 : decode cX6_countsVotes 112 = .ok (.lastore, 1) := by decide +kernel
theorem dX6_countsVotes_113 : decode cX6_countsVotes 113 = .ok (.aload_n 0, 1) := by decide +kernel
theorem dX6_countsVotes_114 : decode cX6_countsVotes 114 = .ok (.getfield 7, 3) := by decide +kernel
theorem dX6_countsVotes_117 : decode cX6_countsVotes 117 = .ok (.bipush 10, 2) := by decide +kernel
theorem dX6_countsVotes_119 : decode cX6_countsVotes 119 = .ok (.aload_n 0, 1) := by decide +kernel
theorem dX6_countsVotes_120 : decode cX6_countsVotes 120 = .ok (.getfield 7, 3) := by decide +kernel
theorem dX6_countsVotes_123 : decode cX6_countsVotes 123 = .ok (.bipush 9, 2) := by decide +kernel
theorem dX6_countsVotes_125 : decode cX6_countsVotes 125 = .ok (.laload, 1) := by decide +kernel
theorem dX6_countsVotes_126 : decode cX6_countsVotes 126 = .ok (.ldc2_w 53, 3) := by decide +kernel
theorem dX6_countsVotes_129 : decode cX6_countsVotes 129 = .ok (.lcmp, 1) := by decide +kernel
theorem dX6_countsVotes_130 : decode cX6_countsVotes 130 = .ok (.ifCond .ne 7, 3) := by decide +kernel
theorem dX6_countsVotes_133 : decode cX6_countsVotes 133 = .ok (.lconst 0, 1) := by decide +kernel
theorem dX6_countsVotes_134 : decode cX6_countsVotes 134 = .ok (.goto 6, 3) := by decide +kernel
theorem dX6_countsVotes_137 : decode cX6_countsVotes 137 = .ok (.iload 4, 2) := by decide +kernel
theorem dX6_countsVotes_139 : decode cX6_countsVotes 139 = .ok (.i2l, 1) := by decide +kernel
theorem dX6_countsVotes_140 : decode cX6_countsVotes 140 = .ok (.lastore, 1) := by decide +kernel
theorem dX6_countsVotes_141 : decode cX6_countsVotes 141 = .ok (.iload 4, 2) := by decide +kernel
theorem dX6_countsVotes_143 : decode cX6_countsVotes 143 = .ok (.istore_n 1, 1) := by decide +kernel
theorem dX6_countsVotes_144 : decode cX6_countsVotes 144 = .ok (.iinc 2 1, 3) := by decide +kernel
theorem dX6_countsVotes_147 : decode cX6_countsVotes 147 = .ok (.goto (-125), 3) := by decide +kernel
theorem dX6_countsVotes_150 : decode cX6_countsVotes 150 = .ok (.aload_n 0, 1) := by decide +kernel
theorem dX6_countsVotes_151 : decode cX6_countsVotes 151 = .ok (.getfield 7, 3) := by decide +kernel
theorem dX6_countsVotes_154 : decode cX6_countsVotes 154 = .ok (.bipush 9, 2) := by decide +kernel
theorem dX6_countsVotes_156 : decode cX6_countsVotes 156 = .ok (.laload, 1) := by decide +kernel
theorem dX6_countsVotes_157 : decode cX6_countsVotes 157 = .ok (.ldc2_w 53, 3) := by decide +kernel
theorem dX6_countsVotes_160 : decode cX6_countsVotes 160 = .ok (.lcmp, 1) := by decide +kernel
theorem dX6_countsVotes_161 : decode cX6_countsVotes 161 = .ok (.ifCond .eq 23, 3) := by decide +kernel
theorem dX6_countsVotes_164 : decode cX6_countsVotes 164 = .ok (.aload_n 0, 1) := by decide +kernel
theorem dX6_countsVotes_165 : decode cX6_countsVotes 165 = .ok (.getfield 7, 3) := by decide +kernel
theorem dX6_countsVotes_168 : decode cX6_countsVotes 168 = .ok (.bipush 9, 2) := by decide +kernel
theorem dX6_countsVotes_170 : decode cX6_countsVotes 170 = .ok (.laload, 1) := by decide +kernel
theorem dX6_countsVotes_171 : decode cX6_countsVotes 171 = .ok (.lconst 1, 1) := by decide +kernel
theorem dX6_countsVotes_172 : decode cX6_countsVotes 172 = .ok (.ladd, 1) := by decide +kernel
theorem dX6_countsVotes_173 : decode cX6_countsVotes 173 = .ok (.ldc2_w 293, 3) := by decide +kernel
theorem dX6_countsVotes_176 : decode cX6_countsVotes 176 = .ok (.lrem, 1) := by decide +kernel
theorem dX6_countsVotes_177 : decode cX6_countsVotes 177 = .ok (.ldc2_w 101, 3) := by decide +kernel
theorem dX6_countsVotes_180 : decode cX6_countsVotes 180 = .ok (.lcmp, 1) := by decide +kernel
theorem dX6_countsVotes_181 : decode cX6_countsVotes 181 = .ok (.ifCond .eq 5, 3) := by decide +kernel
theorem dX6_countsVotes_184 : decode cX6_countsVotes 184 = .ok (.iconst 0, 1) := by decide +kernel
theorem dX6_countsVotes_185 : decode cX6_countsVotes 185 = .ok (.ireturn, 1) := by decide +kernel
theorem dX6_countsVotes_186 : decode cX6_countsVotes 186 = .ok (.iconst 0, 1) := by decide +kernel
theorem dX6_countsVotes_187 : decode cX6_countsVotes 187 = .ok (.istore_n 2, 1) := by decide +kernel
theorem dX6_countsVotes_188 : decode cX6_countsVotes 188 = .ok (.iconst 0, 1) := by decide +kernel
theorem dX6_countsVotes_189 : decode cX6_countsVotes 189 = .ok (.istore_n 3, 1) := by decide +kernel
theorem dX6_countsVotes_190 : decode cX6_countsVotes 190 = .ok (.iload_n 3, 1) := by decide +kernel
theorem dX6_countsVotes_191 : decode cX6_countsVotes 191 = .ok (.i2l, 1) := by decide +kernel
theorem dX6_countsVotes_192 : decode cX6_countsVotes 192 = .ok (.aload_n 0, 1) := by decide +kernel
theorem dX6_countsVotes_193 : decode cX6_countsVotes 193 = .ok (.getfield 7, 3) := by decide +kernel
theorem dX6_countsVotes_196 : decode cX6_countsVotes 196 = .ok (.bipush 12, 2) := by decide +kernel
theorem dX6_countsVotes_198 : decode cX6_countsVotes 198 = .ok (.laload, 1) := by decide +kernel
theorem dX6_countsVotes_199 : decode cX6_countsVotes 199 = .ok (.lcmp, 1) := by decide +kernel
theorem dX6_countsVotes_200 : decode cX6_countsVotes 200 = .ok (.ifCond .ge 46, 3) := by decide +kernel
theorem dX6_countsVotes_203 : decode cX6_countsVotes 203 = .ok (.iload_n 2, 1) := by decide +kernel
theorem dX6_countsVotes_204 : decode cX6_countsVotes 204 = .ok (.aload_n 0, 1) := by decide +kernel
theorem dX6_countsVotes_205 : decode cX6_countsVotes 205 = .ok (.iload_n 3, 1) := by decide +kernel
theorem dX6_countsVotes_206 : decode cX6_countsVotes 206 = .ok (.invokevirtual 351, 3) := by decide +kernel
theorem dX6_countsVotes_209 : decode cX6_countsVotes 209 = .ok (.i2l, 1) := by decide +kernel
theorem dX6_countsVotes_210 : decode cX6_countsVotes 210 = .ok (.aload_n 0, 1) := by decide +kernel
theorem dX6_countsVotes_211 : decode cX6_countsVotes 211 = .ok (.getfield 7, 3) := by decide +kernel
theorem dX6_countsVotes_214 : decode cX6_countsVotes 214 = .ok (.bipush 9, 2) := by decide +kernel
theorem dX6_countsVotes_216 : decode cX6_countsVotes 216 = .ok (.laload, 1) := by decide +kernel
theorem dX6_countsVotes_217 : decode cX6_countsVotes 217 = .ok (.lcmp, 1) := by decide +kernel
theorem dX6_countsVotes_218 : decode cX6_countsVotes 218 = .ok (.ifCond .ne 19, 3) := by decide +kernel
theorem dX6_countsVotes_221 : decode cX6_countsVotes 221 = .ok (.aload_n 0, 1) := by decide +kernel
theorem dX6_countsVotes_222 : decode cX6_countsVotes 222 = .ok (.getfield 338, 3) := by decide +kernel
theorem dX6_countsVotes_225 : decode cX6_countsVotes 225 = .ok (.bipush 19, 2) := by decide +kernel
theorem dX6_countsVotes_227 : decode cX6_countsVotes 227 = .ok (.invokestatic 58, 3) := by decide +kernel
theorem dX6_countsVotes_230 : decode cX6_countsVotes 230 = .ok (.ifCond .eq 7, 3) := by decide +kernel
theorem dX6_countsVotes_233 : decode cX6_countsVotes 233 = .ok (.iconst 1, 1) := by decide +kernel
theorem dX6_countsVotes_234 : decode cX6_countsVotes 234 = .ok (.goto 4, 3) := by decide +kernel
theorem dX6_countsVotes_237 : decode cX6_countsVotes 237 = .ok (.iconst 0, 1) := by decide +kernel
theorem dX6_countsVotes_238 : decode cX6_countsVotes 238 = .ok (.iadd, 1) := by decide +kernel
theorem dX6_countsVotes_239 : decode cX6_countsVotes 239 = .ok (.istore_n 2, 1) := by decide +kernel
theorem dX6_countsVotes_240 : decode cX6_countsVotes 240 = .ok (.iinc 3 1, 3) := by decide +kernel
theorem dX6_countsVotes_243 : decode cX6_countsVotes 243 = .ok (.goto (-53), 3) := by decide +kernel
theorem dX6_countsVotes_246 : decode cX6_countsVotes 246 = .ok (.ldc2_w 317, 3) := by decide +kernel
theorem dX6_countsVotes_249 : decode cX6_countsVotes 249 = .ok (.iload_n 2, 1) := by decide +kernel
theorem dX6_countsVotes_250 : decode cX6_countsVotes 250 = .ok (.i2l, 1) := by decide +kernel
theorem dX6_countsVotes_251 : decode cX6_countsVotes 251 = .ok (.lmul, 1) := by decide +kernel
theorem dX6_countsVotes_252 : decode cX6_countsVotes 252 = .ok (.aload_n 0, 1) := by decide +kernel
theorem dX6_countsVotes_253 : decode cX6_countsVotes 253 = .ok (.getfield 7, 3) := by decide +kernel
theorem dX6_countsVotes_256 : decode cX6_countsVotes 256 = .ok (.bipush 10, 2) := by decide +kernel
theorem dX6_countsVotes_258 : decode cX6_countsVotes 258 = .ok (.laload, 1) := by decide +kernel
theorem dX6_countsVotes_259 : decode cX6_countsVotes 259 = .ok (.lcmp, 1) := by decide +kernel
theorem dX6_countsVotes_260 : decode cX6_countsVotes 260 = .ok (.ifCond .lt 7, 3) := by decide +kernel
theorem dX6_countsVotes_263 : decode cX6_countsVotes 263 = .ok (.iconst 1, 1) := by decide +kernel
theorem dX6_countsVotes_264 : decode cX6_countsVotes 264 = .ok (.goto 4, 3) := by decide +kernel
theorem dX6_countsVotes_267 : decode cX6_countsVotes 267 = .ok (.iconst 0, 1) := by decide +kernel
theorem dX6_countsVotes_268 : decode cX6_countsVotes 268 = .ok (.ireturn, 1) := by decide +kernel
theorem dX6_fixes_0 : decode cX6_fixes 0 = .ok (.bipush 15, 2) := by decide +kernel
theorem dX6_fixes_2 : decode cX6_fixes 2 = .ok (.istore 5, 2) := by decide +kernel
theorem dX6_fixes_4 : decode cX6_fixes 4 = .ok (.iload 5, 2) := by decide +kernel
theorem dX6_fixes_6 : decode cX6_fixes 6 = .ok (.iconst 1, 1) := by decide +kernel
theorem dX6_fixes_7 : decode cX6_fixes 7 = .ok (.if_icmp .le 31, 3) := by decide +kernel
theorem dX6_fixes_10 : decode cX6_fixes 10 = .ok (.aload_n 0, 1) := by decide +kernel
theorem dX6_fixes_11 : decode cX6_fixes 11 = .ok (.getfield 7, 3) := by decide +kernel
theorem dX6_fixes_14 : decode cX6_fixes 14 = .ok (.bipush 32, 2) := by decide +kernel
theorem dX6_fixes_16 : decode cX6_fixes 16 = .ok (.iload 5, 2) := by decide +kernel
theorem dX6_fixes_18 : decode cX6_fixes 18 = .ok (.iadd, 1) := by decide +kernel
theorem dX6_fixes_19 : decode cX6_fixes 19 = .ok (.aload_n 0, 1) := by decide +kernel
theorem dX6_fixes_20 : decode cX6_fixes 20 = .ok (.getfield 7, 3) := by decide +kernel
theorem dX6_fixes_23 : decode cX6_fixes 23 = .ok (.bipush 32, 2) := by decide +kernel
theorem dX6_fixes_25 : decode cX6_fixes 25 = .ok (.iload 5, 2) := by decide +kernel
theorem dX6_fixes_27 : decode cX6_fixes 27 = .ok (.iadd, 1) := by decide +kernel
theorem dX6_fixes_28 : decode cX6_fixes 28 = .ok (.iconst 2, 1) := by decide +kernel
theorem dX6_fixes_29 : decode cX6_fixes 29 = .ok (.isub, 1) := by decide +kernel
theorem dX6_fixes_30 : decode cX6_fixes 30 = .ok (.laload, 1) := by decide +kernel
theorem dX6_fixes_31 : decode cX6_fixes 31 = .ok (.lastore, 1) := by decide +kernel
theorem dX6_fixes_32 : decode cX6_fixes 32 = .ok (.iinc 5 (-1), 3) := by decide +kernel
theorem dX6_fixes_35 : decode cX6_fixes 35 = .ok (.goto (-31), 3) := by decide +kernel
theorem dX6_fixes_38 : decode cX6_fixes 38 = .ok (.aload_n 0, 1) := by decide +kernel
theorem dX6_fixes_39 : decode cX6_fixes 39 = .ok (.getfield 7, 3) := by decide +kernel
theorem dX6_fixes_42 : decode cX6_fixes 42 = .ok (.bipush 32, 2) := by decide +kernel
theorem dX6_fixes_44 : decode cX6_fixes 44 = .ok (.lload_n 1, 1) := by decide +kernel
theorem dX6_fixes_45 : decode cX6_fixes 45 = .ok (.lastore, 1) := by decide +kernel
theorem dX6_fixes_46 : decode cX6_fixes 46 = .ok (.aload_n 0, 1) := by decide +kernel
theorem dX6_fixes_47 : decode cX6_fixes 47 = .ok (.getfield 7, 3) := by decide +kernel
theorem dX6_fixes_50 : decode cX6_fixes 50 = .ok (.bipush 33, 2) := by decide +kernel
theorem dX6_fixes_52 : decode cX6_fixes 52 = .ok (.lload_n 3, 1) := by decide +kernel
theorem dX6_fixes_53 : decode cX6_fixes 53 = .ok (.lastore, 1) := by decide +kernel
theorem dX6_fixes_54 : decode cX6_fixes 54 = .ok (.aload_n 0, 1) := by decide +kernel
theorem dX6_fixes_55 : decode cX6_fixes 55 = .ok (.getfield 7, 3) := by decide +kernel
theorem dX6_fixes_58 : decode cX6_fixes 58 = .ok (.bipush 13, 2) := by decide +kernel
theorem dX6_fixes_60 : decode cX6_fixes 60 = .ok (.dup2, 1) := by decide +kernel
theorem dX6_fixes_61 : decode cX6_fixes 61 = .ok (.laload, 1) := by decide +kernel
theorem dX6_fixes_62 : decode cX6_fixes 62 = .ok (.aload_n 0, 1) := by decide +kernel
theorem dX6_fixes_63 : decode cX6_fixes 63 = .ok (.getfield 7, 3) := by decide +kernel
theorem dX6_fixes_66 : decode cX6_fixes 66 = .ok (.bipush 13, 2) := by decide +kernel
theorem dX6_fixes_68 : decode cX6_fixes 68 = .ok (.laload, 1) := by decide +kernel
theorem dX6_fixes_69 : decode cX6_fixes 69 = .ok (.ldc2_w 389, 3) := by decide +kernel
theorem dX6_fixes_72 : decode cX6_fixes 72 = .ok (.lcmp, 1) := by decide +kernel
theorem dX6_fixes_73 : decode cX6_fixes 73 = .ok (.ifCond .ge 7, 3) := by decide +kernel
theorem dX6_fixes_76 : decode cX6_fixes 76 = .ok (.lconst 1, 1) := by decide +kernel
theorem dX6_fixes_77 : decode cX6_fixes 77 = .ok (.goto 4, 3) := by decide +kernel
theorem dX6_fixes_80 : decode cX6_fixes 80 = .ok (.lconst 0, 1) := by decide +kernel
theorem dX6_fixes_81 : decode cX6_fixes 81 = .ok (.ladd, 1) := by decide +kernel
theorem dX6_fixes_82 : decode cX6_fixes 82 = .ok (.lastore, 1) := by decide +kernel
theorem dX6_fixes_83 : decode cX6_fixes 83 = .ok (.return_, 1) := by decide +kernel
theorem dX6_endsMinute_0 : decode cX6_endsMinute 0 = .ok (.aload_n 0, 1) := by decide +kernel
theorem dX6_endsMinute_1 : decode cX6_endsMinute 1 = .ok (.getfield 7, 3) := by decide +kernel
theorem dX6_endsMinute_4 : decode cX6_endsMinute 4 = .ok (.iconst 5, 1) := by decide +kernel
theorem dX6_endsMinute_5 : decode cX6_endsMinute 5 = .ok (.laload, 1) := by decide +kernel
theorem dX6_endsMinute_6 : decode cX6_endsMinute 6 = .ok (.l2i, 1) := by decide +kernel
theorem dX6_endsMinute_7 : decode cX6_endsMinute 7 = .ok (.iconst 1, 1) := by decide +kernel
theorem dX6_endsMinute_8 : decode cX6_endsMinute 8 = .ok (.iadd, 1) := by decide +kernel
theorem dX6_endsMinute_9 : decode cX6_endsMinute 9 = .ok (.istore 5, 2) := by decide +kernel
theorem dX6_endsMinute_11 : decode cX6_endsMinute 11 = .ok (.iload 5, 2) := by decide +kernel
theorem dX6_endsMinute_13 : decode cX6_endsMinute 13 = .ok (.bipush 59, 2) := by decide +kernel
theorem dX6_endsMinute_15 : decode cX6_endsMinute 15 = .ok (.if_icmp .ge 16, 3) := by decide +kernel
theorem dX6_endsMinute_18 : decode cX6_endsMinute 18 = .ok (.aload_n 0, 1) := by decide +kernel
theorem dX6_endsMinute_19 : decode cX6_endsMinute 19 = .ok (.iload 5, 2) := by decide +kernel
theorem dX6_endsMinute_21 : decode cX6_endsMinute 21 = .ok (.iconst 2, 1) := by decide +kernel
theorem dX6_endsMinute_22 : decode cX6_endsMinute 22 = .ok (.invokevirtual 278, 3) := by decide +kernel
theorem dX6_endsMinute_25 : decode cX6_endsMinute 25 = .ok (.iinc 5 1, 3) := by decide +kernel
theorem dX6_endsMinute_28 : decode cX6_endsMinute 28 = .ok (.goto (-17), 3) := by decide +kernel
theorem dX6_endsMinute_31 : decode cX6_endsMinute 31 = .ok (.bipush 15, 2) := by decide +kernel
theorem dX6_endsMinute_33 : decode cX6_endsMinute 33 = .ok (.istore 5, 2) := by decide +kernel
theorem dX6_endsMinute_35 : decode cX6_endsMinute 35 = .ok (.iload 5, 2) := by decide +kernel
theorem dX6_endsMinute_37 : decode cX6_endsMinute 37 = .ok (.iconst 1, 1) := by decide +kernel
theorem dX6_endsMinute_38 : decode cX6_endsMinute 38 = .ok (.if_icmp .le 31, 3) := by decide +kernel
theorem dX6_endsMinute_41 : decode cX6_endsMinute 41 = .ok (.aload_n 0, 1) := by decide +kernel
theorem dX6_endsMinute_42 : decode cX6_endsMinute 42 = .ok (.getfield 7, 3) := by decide +kernel
theorem dX6_endsMinute_45 : decode cX6_endsMinute 45 = .ok (.bipush 16, 2) := by decide +kernel
theorem dX6_endsMinute_47 : decode cX6_endsMinute 47 = .ok (.iload 5, 2) := by decide +kernel
theorem dX6_endsMinute_49 : decode cX6_endsMinute 49 = .ok (.iadd, 1) := by decide +kernel
theorem dX6_endsMinute_50 : decode cX6_endsMinute 50 = .ok (.aload_n 0, 1) := by decide +kernel
theorem dX6_endsMinute_51 : decode cX6_endsMinute 51 = .ok (.getfield 7, 3) := by decide +kernel
theorem dX6_endsMinute_54 : decode cX6_endsMinute 54 = .ok (.bipush 16, 2) := by decide +kernel
theorem dX6_endsMinute_56 : decode cX6_endsMinute 56 = .ok (.iload 5, 2) := by decide +kernel
theorem dX6_endsMinute_58 : decode cX6_endsMinute 58 = .ok (.iadd, 1) := by decide +kernel
theorem dX6_endsMinute_59 : decode cX6_endsMinute 59 = .ok (.iconst 2, 1) := by decide +kernel
theorem dX6_endsMinute_60 : decode cX6_endsMinute 60 = .ok (.isub, 1) := by decide +kernel
theorem dX6_endsMinute_61 : decode cX6_endsMinute 61 = .ok (.laload, 1) := by decide +kernel
theorem dX6_endsMinute_62 : decode cX6_endsMinute 62 = .ok (.lastore, 1) := by decide +kernel
theorem dX6_endsMinute_63 : decode cX6_endsMinute 63 = .ok (.iinc 5 (-1), 3) := by decide +kernel
theorem dX6_endsMinute_66 : decode cX6_endsMinute 66 = .ok (.goto (-31), 3) := by decide +kernel
theorem dX6_endsMinute_69 : decode cX6_endsMinute 69 = .ok (.aload_n 0, 1) := by decide +kernel
theorem dX6_endsMinute_70 : decode cX6_endsMinute 70 = .ok (.getfield 7, 3) := by decide +kernel
theorem dX6_endsMinute_73 : decode cX6_endsMinute 73 = .ok (.bipush 16, 2) := by decide +kernel
theorem dX6_endsMinute_75 : decode cX6_endsMinute 75 = .ok (.aload_n 0, 1) := by decide +kernel
theorem dX6_endsMinute_76 : decode cX6_endsMinute 76 = .ok (.getfield 7, 3) := by decide +kernel
theorem dX6_endsMinute_79 : decode cX6_endsMinute 79 = .ok (.bipush 14, 2) := by decide +kernel
theorem dX6_endsMinute_81 : decode cX6_endsMinute 81 = .ok (.laload, 1) := by decide +kernel
theorem dX6_endsMinute_82 : decode cX6_endsMinute 82 = .ok (.lastore, 1) := by decide +kernel
theorem dX6_endsMinute_83 : decode cX6_endsMinute 83 = .ok (.aload_n 0, 1) := by decide +kernel
theorem dX6_endsMinute_84 : decode cX6_endsMinute 84 = .ok (.getfield 7, 3) := by decide +kernel
theorem dX6_endsMinute_87 : decode cX6_endsMinute 87 = .ok (.bipush 17, 2) := by decide +kernel
theorem dX6_endsMinute_89 : decode cX6_endsMinute 89 = .ok (.aload_n 0, 1) := by decide +kernel
theorem dX6_endsMinute_90 : decode cX6_endsMinute 90 = .ok (.getfield 7, 3) := by decide +kernel
theorem dX6_endsMinute_93 : decode cX6_endsMinute 93 = .ok (.bipush 15, 2) := by decide +kernel
theorem dX6_endsMinute_95 : decode cX6_endsMinute 95 = .ok (.laload, 1) := by decide +kernel
theorem dX6_endsMinute_96 : decode cX6_endsMinute 96 = .ok (.lastore, 1) := by decide +kernel
theorem dX6_endsMinute_97 : decode cX6_endsMinute 97 = .ok (.aload_n 0, 1) := by decide +kernel
theorem dX6_endsMinute_98 : decode cX6_endsMinute 98 = .ok (.getfield 7, 3) := by decide +kernel
theorem dX6_endsMinute_101 : decode cX6_endsMinute 101 = .ok (.bipush 12, 2) := by decide +kernel
theorem dX6_endsMinute_103 : decode cX6_endsMinute 103 = .ok (.aload_n 0, 1) := by decide +kernel
theorem dX6_endsMinute_104 : decode cX6_endsMinute 104 = .ok (.getfield 7, 3) := by decide +kernel
theorem dX6_endsMinute_107 : decode cX6_endsMinute 107 = .ok (.bipush 12, 2) := by decide +kernel
theorem dX6_endsMinute_109 : decode cX6_endsMinute 109 = .ok (.laload, 1) := by decide +kernel
theorem dX6_endsMinute_110 : decode cX6_endsMinute 110 = .ok (.aload_n 0, 1) := by decide +kernel
theorem dX6_endsMinute_111 : decode cX6_endsMinute 111 = .ok (.getfield 7, 3) := by decide +kernel
theorem dX6_endsMinute_114 : decode cX6_endsMinute 114 = .ok (.iconst 2, 1) := by decide +kernel
theorem dX6_endsMinute_115 : decode cX6_endsMinute 115 = .ok (.laload, 1) := by decide +kernel
theorem dX6_endsMinute_116 : decode cX6_endsMinute 116 = .ok (.lcmp, 1) := by decide +kernel
theorem dX6_endsMinute_117 : decode cX6_endsMinute 117 = .ok (.ifCond .ge 15, 3) := by decide +kernel
theorem dX6_endsMinute_120 : decode cX6_endsMinute 120 = .ok (.aload_n 0, 1) := by decide +kernel
theorem dX6_endsMinute_121 : decode cX6_endsMinute 121 = .ok (.getfield 7, 3) := by decide +kernel
theorem dX6_endsMinute_124 : decode cX6_endsMinute 124 = .ok (.bipush 12, 2) := by decide +kernel
theorem dX6_endsMinute_126 : decode cX6_endsMinute 126 = .ok (.laload, 1) := by decide +kernel
theorem dX6_endsMinute_127 : decode cX6_endsMinute 127 = .ok (.lconst 1, 1) := by decide +kernel
theorem dX6_endsMinute_128 : decode cX6_endsMinute 128 = .ok (.ladd, 1) := by decide +kernel
theorem dX6_endsMinute_129 : decode cX6_endsMinute 129 = .ok (.goto 9, 3) := by decide +kernel
theorem dX6_endsMinute_132 : decode cX6_endsMinute 132 = .ok (.aload_n 0, 1) := by decide +kernel
theorem dX6_endsMinute_133 : decode cX6_endsMinute 133 = .ok (.getfield 7, 3) := by decide +kernel
theorem dX6_endsMinute_136 : decode cX6_endsMinute 136 = .ok (.iconst 2, 1) := by decide +kernel
theorem dX6_endsMinute_137 : decode cX6_endsMinute 137 = .ok (.laload, 1) := by decide +kernel
theorem dX6_endsMinute_138 : decode cX6_endsMinute 138 = .ok (.lastore, 1) := by decide +kernel
theorem dX6_endsMinute_139 : decode cX6_endsMinute 139 = .ok (.aload_n 0, 1) := by decide +kernel
theorem dX6_endsMinute_140 : decode cX6_endsMinute 140 = .ok (.invokevirtual 282, 3) := by decide +kernel
theorem dX6_endsMinute_143 : decode cX6_endsMinute 143 = .ok (.istore 5, 2) := by decide +kernel
theorem dX6_endsMinute_145 : decode cX6_endsMinute 145 = .ok (.aload_n 0, 1) := by decide +kernel
theorem dX6_endsMinute_146 : decode cX6_endsMinute 146 = .ok (.getfield 7, 3) := by decide +kernel
theorem dX6_endsMinute_149 : decode cX6_endsMinute 149 = .ok (.bipush 9, 2) := by decide +kernel
theorem dX6_endsMinute_151 : decode cX6_endsMinute 151 = .ok (.laload, 1) := by decide +kernel
theorem dX6_endsMinute_152 : decode cX6_endsMinute 152 = .ok (.ldc2_w 53, 3) := by decide +kernel
theorem dX6_endsMinute_155 : decode cX6_endsMinute 155 = .ok (.lcmp, 1) := by decide +kernel
theorem dX6_endsMinute_156 : decode cX6_endsMinute 156 = .ok (.ifCond .eq 24, 3) := by decide +kernel
theorem dX6_endsMinute_159 : decode cX6_endsMinute 159 = .ok (.aload_n 0, 1) := by decide +kernel
theorem dX6_endsMinute_160 : decode cX6_endsMinute 160 = .ok (.aload_n 0, 1) := by decide +kernel
theorem dX6_endsMinute_161 : decode cX6_endsMinute 161 = .ok (.getfield 7, 3) := by decide +kernel
theorem dX6_endsMinute_164 : decode cX6_endsMinute 164 = .ok (.bipush 9, 2) := by decide +kernel
theorem dX6_endsMinute_166 : decode cX6_endsMinute 166 = .ok (.laload, 1) := by decide +kernel
theorem dX6_endsMinute_167 : decode cX6_endsMinute 167 = .ok (.lconst 1, 1) := by decide +kernel
theorem dX6_endsMinute_168 : decode cX6_endsMinute 168 = .ok (.ladd, 1) := by decide +kernel
theorem dX6_endsMinute_169 : decode cX6_endsMinute 169 = .ok (.lload_n 3, 1) := by decide +kernel
theorem dX6_endsMinute_170 : decode cX6_endsMinute 170 = .ok (.ldc2_w 285, 3) := by decide +kernel
theorem dX6_endsMinute_173 : decode cX6_endsMinute 173 = .ok (.iload_n 1, 1) := by decide +kernel
theorem dX6_endsMinute_174 : decode cX6_endsMinute 174 = .ok (.i2l, 1) := by decide +kernel
theorem dX6_endsMinute_175 : decode cX6_endsMinute 175 = .ok (.lmul, 1) := by decide +kernel
theorem dX6_endsMinute_176 : decode cX6_endsMinute 176 = .ok (.lsub, 1) := by decide +kernel
theorem dX6_endsMinute_177 : decode cX6_endsMinute 177 = .ok (.invokevirtual 287, 3) := by decide +kernel
theorem dX6_endsMinute_180 : decode cX6_endsMinute 180 = .ok (.aload_n 0, 1) := by decide +kernel
theorem dX6_endsMinute_181 : decode cX6_endsMinute 181 = .ok (.iload_n 1, 1) := by decide +kernel
theorem dX6_endsMinute_182 : decode cX6_endsMinute 182 = .ok (.iload_n 2, 1) := by decide +kernel
theorem dX6_endsMinute_183 : decode cX6_endsMinute 183 = .ok (.iload 5, 2) := by decide +kernel
theorem dX6_endsMinute_185 : decode cX6_endsMinute 185 = .ok (.ifCond .eq 9, 3) := by decide +kernel
theorem dX6_endsMinute_188 : decode cX6_endsMinute 188 = .ok (.ldc2_w 291, 3) := by decide +kernel
theorem dX6_endsMinute_191 : decode cX6_endsMinute 191 = .ok (.goto 6, 3) := by decide +kernel
theorem dX6_endsMinute_194 : decode cX6_endsMinute 194 = .ok (.ldc2_w 293, 3) := by decide +kernel
theorem dX6_endsMinute_197 : decode cX6_endsMinute 197 = .ok (.invokevirtual 295, 3) := by decide +kernel
theorem dX6_endsMinute_200 : decode cX6_endsMinute 200 = .ok (.iconst 3, 1) := by decide +kernel
theorem dX6_endsMinute_201 : decode cX6_endsMinute 201 = .ok (.ireturn, 1) := by decide +kernel
theorem dX6_takesPulse_0 : decode cX6_takesPulse 0 = .ok (.aload_n 0, 1) := by decide +kernel
theorem dX6_takesPulse_1 : decode cX6_takesPulse 1 = .ok (.getfield 7, 3) := by decide +kernel
theorem dX6_takesPulse_4 : decode cX6_takesPulse 4 = .ok (.bipush 7, 2) := by decide +kernel
theorem dX6_takesPulse_6 : decode cX6_takesPulse 6 = .ok (.lload_n 1, 1) := by decide +kernel
theorem dX6_takesPulse_7 : decode cX6_takesPulse 7 = .ok (.lastore, 1) := by decide +kernel
theorem dX6_takesPulse_8 : decode cX6_takesPulse 8 = .ok (.iload_n 3, 1) := by decide +kernel
theorem dX6_takesPulse_9 : decode cX6_takesPulse 9 = .ok (.bipush 30, 2) := by decide +kernel
theorem dX6_takesPulse_11 : decode cX6_takesPulse 11 = .ok (.if_icmp .ge 8, 3) := by decide +kernel
theorem dX6_takesPulse_14 : decode cX6_takesPulse 14 = .ok (.aload_n 0, 1) := by decide +kernel
theorem dX6_takesPulse_15 : decode cX6_takesPulse 15 = .ok (.invokevirtual 299, 3) := by decide +kernel
theorem dX6_takesPulse_18 : decode cX6_takesPulse 18 = .ok (.ireturn, 1) := by decide +kernel
theorem dX6_takesPulse_19 : decode cX6_takesPulse 19 = .ok (.iload_n 3, 1) := by decide +kernel
theorem dX6_takesPulse_20 : decode cX6_takesPulse 20 = .ok (.i2l, 1) := by decide +kernel
theorem dX6_takesPulse_21 : decode cX6_takesPulse 21 = .ok (.ldc2_w 293, 3) := by decide +kernel
theorem dX6_takesPulse_24 : decode cX6_takesPulse 24 = .ok (.ldc2_w 302, 3) := by decide +kernel
theorem dX6_takesPulse_27 : decode cX6_takesPulse 27 = .ok (.invokestatic 65, 3) := by decide +kernel
theorem dX6_takesPulse_30 : decode cX6_takesPulse 30 = .ok (.ifCond .eq 7, 3) := by decide +kernel
theorem dX6_takesPulse_33 : decode cX6_takesPulse 33 = .ok (.iconst 0, 1) := by decide +kernel
theorem dX6_takesPulse_34 : decode cX6_takesPulse 34 = .ok (.goto 22, 3) := by decide +kernel
theorem dX6_takesPulse_37 : decode cX6_takesPulse 37 = .ok (.iload_n 3, 1) := by decide +kernel
theorem dX6_takesPulse_38 : decode cX6_takesPulse 38 = .ok (.i2l, 1) := by decide +kernel
theorem dX6_takesPulse_39 : decode cX6_takesPulse 39 = .ok (.ldc2_w 304, 3) := by decide +kernel
theorem dX6_takesPulse_42 : decode cX6_takesPulse 42 = .ok (.ldc2_w 306, 3) := by decide +kernel
theorem dX6_takesPulse_45 : decode cX6_takesPulse 45 = .ok (.invokestatic 65, 3) := by decide +kernel
theorem dX6_takesPulse_48 : decode cX6_takesPulse 48 = .ok (.ifCond .eq 7, 3) := by decide +kernel
theorem dX6_takesPulse_51 : decode cX6_takesPulse 51 = .ok (.iconst 1, 1) := by decide +kernel
theorem dX6_takesPulse_52 : decode cX6_takesPulse 52 = .ok (.goto 4, 3) := by decide +kernel
theorem dX6_takesPulse_55 : decode cX6_takesPulse 55 = .ok (.iconst 2, 1) := by decide +kernel
theorem dX6_takesPulse_56 : decode cX6_takesPulse 56 = .ok (.istore 4, 2) := by decide +kernel
theorem dX6_takesPulse_58 : decode cX6_takesPulse 58 = .ok (.aload_n 0, 1) := by decide +kernel
theorem dX6_takesPulse_59 : decode cX6_takesPulse 59 = .ok (.getfield 7, 3) := by decide +kernel
theorem dX6_takesPulse_62 : decode cX6_takesPulse 62 = .ok (.bipush 6, 2) := by decide +kernel
theorem dX6_takesPulse_64 : decode cX6_takesPulse 64 = .ok (.laload, 1) := by decide +kernel
theorem dX6_takesPulse_65 : decode cX6_takesPulse 65 = .ok (.ldc2_w 53, 3) := by decide +kernel
theorem dX6_takesPulse_68 : decode cX6_takesPulse 68 = .ok (.lcmp, 1) := by decide +kernel
theorem dX6_takesPulse_69 : decode cX6_takesPulse 69 = .ok (.ifCond .ne 13, 3) := by decide +kernel
theorem dX6_takesPulse_72 : decode cX6_takesPulse 72 = .ok (.aload_n 0, 1) := by decide +kernel
theorem dX6_takesPulse_73 : decode cX6_takesPulse 73 = .ok (.getfield 7, 3) := by decide +kernel
theorem dX6_takesPulse_76 : decode cX6_takesPulse 76 = .ok (.bipush 6, 2) := by decide +kernel
theorem dX6_takesPulse_78 : decode cX6_takesPulse 78 = .ok (.lload_n 1, 1) := by decide +kernel
theorem dX6_takesPulse_79 : decode cX6_takesPulse 79 = .ok (.lastore, 1) := by decide +kernel
theorem dX6_takesPulse_80 : decode cX6_takesPulse 80 = .ok (.iconst 1, 1) := by decide +kernel
theorem dX6_takesPulse_81 : decode cX6_takesPulse 81 = .ok (.ireturn, 1) := by decide +kernel
theorem dX6_takesPulse_82 : decode cX6_takesPulse 82 = .ok (.lload_n 1, 1) := by decide +kernel
theorem dX6_takesPulse_83 : decode cX6_takesPulse 83 = .ok (.aload_n 0, 1) := by decide +kernel
theorem dX6_takesPulse_84 : decode cX6_takesPulse 84 = .ok (.getfield 7, 3) := by decide +kernel
theorem dX6_takesPulse_87 : decode cX6_takesPulse 87 = .ok (.bipush 6, 2) := by decide +kernel
theorem dX6_takesPulse_89 : decode cX6_takesPulse 89 = .ok (.laload, 1) := by decide +kernel
theorem dX6_takesPulse_90 : decode cX6_takesPulse 90 = .ok (.lsub, 1) := by decide +kernel
theorem dX6_takesPulse_91 : decode cX6_takesPulse 91 = .ok (.lstore 5, 2) := by decide +kernel
theorem dX6_takesPulse_93 : decode cX6_takesPulse 93 = .ok (.lload 5, 2) := by decide +kernel
theorem dX6_takesPulse_95 : decode cX6_takesPulse 95 = .ok (.ldc2_w 308, 3) := by decide +kernel
theorem dX6_takesPulse_98 : decode cX6_takesPulse 98 = .ok (.ladd, 1) := by decide +kernel
theorem dX6_takesPulse_99 : decode cX6_takesPulse 99 = .ok (.ldc2_w 285, 3) := by decide +kernel
theorem dX6_takesPulse_102 : decode cX6_takesPulse 102 = .ok (.ldiv, 1) := by decide +kernel
theorem dX6_takesPulse_103 : decode cX6_takesPulse 103 = .ok (.lstore 7, 2) := by decide +kernel
theorem dX6_takesPulse_105 : decode cX6_takesPulse 105 = .ok (.lload 7, 2) := by decide +kernel
theorem dX6_takesPulse_107 : decode cX6_takesPulse 107 = .ok (.ldc2_w 181, 3) := by decide +kernel
theorem dX6_takesPulse_110 : decode cX6_takesPulse 110 = .ok (.lcmp, 1) := by decide +kernel
theorem dX6_takesPulse_111 : decode cX6_takesPulse 111 = .ok (.ifCond .gt 37, 3) := by decide +kernel
theorem dX6_takesPulse_114 : decode cX6_takesPulse 114 = .ok (.lload 7, 2) := by decide +kernel
theorem dX6_takesPulse_116 : decode cX6_takesPulse 116 = .ok (.lconst 1, 1) := by decide +kernel
theorem dX6_takesPulse_117 : decode cX6_takesPulse 117 = .ok (.lcmp, 1) := by decide +kernel
theorem dX6_takesPulse_118 : decode cX6_takesPulse 118 = .ok (.ifCond .lt 25, 3) := by decide +kernel
theorem dX6_takesPulse_121 : decode cX6_takesPulse 121 = .ok (.lload 5, 2) := by decide +kernel
theorem dX6_takesPulse_123 : decode cX6_takesPulse 123 = .ok (.ldc2_w 285, 3) := by decide +kernel
theorem dX6_takesPulse_126 : decode cX6_takesPulse 126 = .ok (.lload 7, 2) := by decide +kernel
theorem dX6_takesPulse_128 : decode cX6_takesPulse 128 = .ok (.lmul, 1) := by decide +kernel
theorem dX6_takesPulse_129 : decode cX6_takesPulse 129 = .ok (.lsub, 1) := by decide +kernel
theorem dX6_takesPulse_130 : decode cX6_takesPulse 130 = .ok (.invokestatic 310, 3) := by decide +kernel
theorem dX6_takesPulse_133 : decode cX6_takesPulse 133 = .ok (.aload_n 0, 1) := by decide +kernel
theorem dX6_takesPulse_134 : decode cX6_takesPulse 134 = .ok (.getfield 7, 3) := by decide +kernel
theorem dX6_takesPulse_137 : decode cX6_takesPulse 137 = .ok (.iconst 0, 1) := by decide +kernel
theorem dX6_takesPulse_138 : decode cX6_takesPulse 138 = .ok (.laload, 1) := by decide +kernel
theorem dX6_takesPulse_139 : decode cX6_takesPulse 139 = .ok (.lcmp, 1) := by decide +kernel
theorem dX6_takesPulse_140 : decode cX6_takesPulse 140 = .ok (.ifCond .le 8, 3) := by decide +kernel
theorem dX6_takesPulse_143 : decode cX6_takesPulse 143 = .ok (.aload_n 0, 1) := by decide +kernel
theorem dX6_takesPulse_144 : decode cX6_takesPulse 144 = .ok (.invokevirtual 299, 3) := by decide +kernel
theorem dX6_takesPulse_147 : decode cX6_takesPulse 147 = .ok (.ireturn, 1) := by decide +kernel
theorem dX6_takesPulse_148 : decode cX6_takesPulse 148 = .ok (.aload_n 0, 1) := by decide +kernel
theorem dX6_takesPulse_149 : decode cX6_takesPulse 149 = .ok (.getfield 7, 3) := by decide +kernel
theorem dX6_takesPulse_152 : decode cX6_takesPulse 152 = .ok (.bipush 6, 2) := by decide +kernel
theorem dX6_takesPulse_154 : decode cX6_takesPulse 154 = .ok (.lload_n 1, 1) := by decide +kernel
theorem dX6_takesPulse_155 : decode cX6_takesPulse 155 = .ok (.lastore, 1) := by decide +kernel
theorem dX6_takesPulse_156 : decode cX6_takesPulse 156 = .ok (.aload_n 0, 1) := by decide +kernel
theorem dX6_takesPulse_157 : decode cX6_takesPulse 157 = .ok (.getfield 7, 3) := by decide +kernel
theorem dX6_takesPulse_160 : decode cX6_takesPulse 160 = .ok (.iconst 5, 1) := by decide +kernel
theorem dX6_takesPulse_161 : decode cX6_takesPulse 161 = .ok (.laload, 1) := by decide +kernel
theorem dX6_takesPulse_162 : decode cX6_takesPulse 162 = .ok (.lload 7, 2) := by decide +kernel
theorem dX6_takesPulse_164 : decode cX6_takesPulse 164 = .ok (.ladd, 1) := by decide +kernel
theorem dX6_takesPulse_165 : decode cX6_takesPulse 165 = .ok (.lstore 9, 2) := by decide +kernel
theorem dX6_takesPulse_167 : decode cX6_takesPulse 167 = .ok (.lload 7, 2) := by decide +kernel
theorem dX6_takesPulse_169 : decode cX6_takesPulse 169 = .ok (.ldc2_w 181, 3) := by decide +kernel
theorem dX6_takesPulse_172 : decode cX6_takesPulse 172 = .ok (.lcmp, 1) := by decide +kernel
theorem dX6_takesPulse_173 : decode cX6_takesPulse 173 = .ok (.ifCond .gt 31, 3) := by decide +kernel
theorem dX6_takesPulse_176 : decode cX6_takesPulse 176 = .ok (.aload_n 0, 1) := by decide +kernel
theorem dX6_takesPulse_177 : decode cX6_takesPulse 177 = .ok (.getfield 7, 3) := by decide +kernel
theorem dX6_takesPulse_180 : decode cX6_takesPulse 180 = .ok (.iconst 5, 1) := by decide +kernel
theorem dX6_takesPulse_181 : decode cX6_takesPulse 181 = .ok (.laload, 1) := by decide +kernel
theorem dX6_takesPulse_182 : decode cX6_takesPulse 182 = .ok (.ldc2_w 53, 3) := by decide +kernel
theorem dX6_takesPulse_185 : decode cX6_takesPulse 185 = .ok (.lcmp, 1) := by decide +kernel
theorem dX6_takesPulse_186 : decode cX6_takesPulse 186 = .ok (.ifCond .eq 24, 3) := by decide +kernel
theorem dX6_takesPulse_189 : decode cX6_takesPulse 189 = .ok (.lload 9, 2) := by decide +kernel
theorem dX6_takesPulse_191 : decode cX6_takesPulse 191 = .ok (.aload_n 0, 1) := by decide +kernel
theorem dX6_takesPulse_192 : decode cX6_takesPulse 192 = .ok (.getfield 7, 3) := by decide +kernel
theorem dX6_takesPulse_195 : decode cX6_takesPulse 195 = .ok (.bipush 8, 2) := by decide +kernel
theorem dX6_takesPulse_197 : decode cX6_takesPulse 197 = .ok (.laload, 1) := by decide +kernel
theorem dX6_takesPulse_198 : decode cX6_takesPulse 198 = .ok (.lconst 1, 1) := by decide +kernel
theorem dX6_takesPulse_199 : decode cX6_takesPulse 199 = .ok (.lsub, 1) := by decide +kernel
theorem dX6_takesPulse_200 : decode cX6_takesPulse 200 = .ok (.lcmp, 1) := by decide +kernel
theorem dX6_takesPulse_201 : decode cX6_takesPulse 201 = .ok (.ifCond .ne 9, 3) := by decide +kernel
theorem dX6_takesPulse_204 : decode cX6_takesPulse 204 = .ok (.aload_n 0, 1) := by decide +kernel
theorem dX6_takesPulse_205 : decode cX6_takesPulse 205 = .ok (.invokevirtual 314, 3) := by decide +kernel
theorem dX6_takesPulse_208 : decode cX6_takesPulse 208 = .ok (.iconst 4, 1) := by decide +kernel
theorem dX6_takesPulse_209 : decode cX6_takesPulse 209 = .ok (.ireturn, 1) := by decide +kernel
theorem dX6_takesPulse_210 : decode cX6_takesPulse 210 = .ok (.aload_n 0, 1) := by decide +kernel
theorem dX6_takesPulse_211 : decode cX6_takesPulse 211 = .ok (.getfield 7, 3) := by decide +kernel
theorem dX6_takesPulse_214 : decode cX6_takesPulse 214 = .ok (.iconst 5, 1) := by decide +kernel
theorem dX6_takesPulse_215 : decode cX6_takesPulse 215 = .ok (.laload, 1) := by decide +kernel
theorem dX6_takesPulse_216 : decode cX6_takesPulse 216 = .ok (.ldc2_w 53, 3) := by decide +kernel
theorem dX6_takesPulse_219 : decode cX6_takesPulse 219 = .ok (.lcmp, 1) := by decide +kernel
theorem dX6_takesPulse_220 : decode cX6_takesPulse 220 = .ok (.ifCond .ne 26, 3) := by decide +kernel
theorem dX6_takesPulse_223 : decode cX6_takesPulse 223 = .ok (.lload 7, 2) := by decide +kernel
theorem dX6_takesPulse_225 : decode cX6_takesPulse 225 = .ok (.ldc2_w 317, 3) := by decide +kernel
theorem dX6_takesPulse_228 : decode cX6_takesPulse 228 = .ok (.lcmp, 1) := by decide +kernel
theorem dX6_takesPulse_229 : decode cX6_takesPulse 229 = .ok (.ifCond .eq 5, 3) := by decide +kernel
theorem dX6_takesPulse_232 : decode cX6_takesPulse 232 = .ok (.iconst 1, 1) := by decide +kernel
theorem dX6_takesPulse_233 : decode cX6_takesPulse 233 = .ok (.ireturn, 1) := by decide +kernel
theorem dX6_takesPulse_234 : decode cX6_takesPulse 234 = .ok (.aload_n 0, 1) := by decide +kernel
theorem dX6_takesPulse_235 : decode cX6_takesPulse 235 = .ok (.iconst 0, 1) := by decide +kernel
theorem dX6_takesPulse_236 : decode cX6_takesPulse 236 = .ok (.iload 4, 2) := by decide +kernel
theorem dX6_takesPulse_238 : decode cX6_takesPulse 238 = .ok (.ldc2_w 293, 3) := by decide +kernel
theorem dX6_takesPulse_241 : decode cX6_takesPulse 241 = .ok (.invokevirtual 295, 3) := by decide +kernel
theorem dX6_takesPulse_244 : decode cX6_takesPulse 244 = .ok (.iconst 3, 1) := by decide +kernel
theorem dX6_takesPulse_245 : decode cX6_takesPulse 245 = .ok (.ireturn, 1) := by decide +kernel
theorem dX6_takesPulse_246 : decode cX6_takesPulse 246 = .ok (.lload 9, 2) := by decide +kernel
theorem dX6_takesPulse_248 : decode cX6_takesPulse 248 = .ok (.aload_n 0, 1) := by decide +kernel
theorem dX6_takesPulse_249 : decode cX6_takesPulse 249 = .ok (.getfield 7, 3) := by decide +kernel
theorem dX6_takesPulse_252 : decode cX6_takesPulse 252 = .ok (.bipush 8, 2) := by decide +kernel
theorem dX6_takesPulse_254 : decode cX6_takesPulse 254 = .ok (.laload, 1) := by decide +kernel
theorem dX6_takesPulse_255 : decode cX6_takesPulse 255 = .ok (.lcmp, 1) := by decide +kernel
theorem dX6_takesPulse_256 : decode cX6_takesPulse 256 = .ok (.ifCond .ge 15, 3) := by decide +kernel
theorem dX6_takesPulse_259 : decode cX6_takesPulse 259 = .ok (.aload_n 0, 1) := by decide +kernel
theorem dX6_takesPulse_260 : decode cX6_takesPulse 260 = .ok (.lload 9, 2) := by decide +kernel
theorem dX6_takesPulse_262 : decode cX6_takesPulse 262 = .ok (.l2i, 1) := by decide +kernel
theorem dX6_takesPulse_263 : decode cX6_takesPulse 263 = .ok (.iload 4, 2) := by decide +kernel
theorem dX6_takesPulse_265 : decode cX6_takesPulse 265 = .ok (.invokevirtual 319, 3) := by decide +kernel
theorem dX6_takesPulse_268 : decode cX6_takesPulse 268 = .ok (.goto 21, 3) := by decide +kernel
theorem dX6_takesPulse_271 : decode cX6_takesPulse 271 = .ok (.aload_n 0, 1) := by decide +kernel
theorem dX6_takesPulse_272 : decode cX6_takesPulse 272 = .ok (.lload 9, 2) := by decide +kernel
theorem dX6_takesPulse_274 : decode cX6_takesPulse 274 = .ok (.aload_n 0, 1) := by decide +kernel
theorem dX6_takesPulse_275 : decode cX6_takesPulse 275 = .ok (.getfield 7, 3) := by decide +kernel
theorem dX6_takesPulse_278 : decode cX6_takesPulse 278 = .ok (.bipush 8, 2) := by decide +kernel
theorem dX6_takesPulse_280 : decode cX6_takesPulse 280 = .ok (.laload, 1) := by decide +kernel
theorem dX6_takesPulse_281 : decode cX6_takesPulse 281 = .ok (.lsub, 1) := by decide +kernel
theorem dX6_takesPulse_282 : decode cX6_takesPulse 282 = .ok (.l2i, 1) := by decide +kernel
theorem dX6_takesPulse_283 : decode cX6_takesPulse 283 = .ok (.iload 4, 2) := by decide +kernel
theorem dX6_takesPulse_285 : decode cX6_takesPulse 285 = .ok (.lload_n 1, 1) := by decide +kernel
theorem dX6_takesPulse_286 : decode cX6_takesPulse 286 = .ok (.invokevirtual 322, 3) := by decide +kernel
theorem dX6_takesPulse_289 : decode cX6_takesPulse 289 = .ok (.ireturn, 1) := by decide +kernel
theorem dX6_readsPulse_0 : decode cX6_readsPulse 0 = .ok (.aload_n 0, 1) := by decide +kernel
theorem dX6_readsPulse_1 : decode cX6_readsPulse 1 = .ok (.iconst 1, 1) := by decide +kernel
theorem dX6_readsPulse_2 : decode cX6_readsPulse 2 = .ok (.invokevirtual 220, 3) := by decide +kernel
theorem dX6_readsPulse_5 : decode cX6_readsPulse 5 = .ok (.aload_n 0, 1) := by decide +kernel
theorem dX6_readsPulse_6 : decode cX6_readsPulse 6 = .ok (.aload_n 0, 1) := by decide +kernel
theorem dX6_readsPulse_7 : decode cX6_readsPulse 7 = .ok (.getfield 7, 3) := by decide +kernel
theorem dX6_readsPulse_10 : decode cX6_readsPulse 10 = .ok (.bipush 7, 2) := by decide +kernel
theorem dX6_readsPulse_12 : decode cX6_readsPulse 12 = .ok (.laload, 1) := by decide +kernel
theorem dX6_readsPulse_13 : decode cX6_readsPulse 13 = .ok (.lconst 1, 1) := by decide +kernel
theorem dX6_readsPulse_14 : decode cX6_readsPulse 14 = .ok (.ladd, 1) := by decide +kernel
theorem dX6_readsPulse_15 : decode cX6_readsPulse 15 = .ok (.ldc2_w 237, 3) := by decide +kernel
theorem dX6_readsPulse_18 : decode cX6_readsPulse 18 = .ok (.invokevirtual 230, 3) := by decide +kernel
theorem dX6_readsPulse_21 : decode cX6_readsPulse 21 = .ok (.istore_n 1, 1) := by decide +kernel
theorem dX6_readsPulse_22 : decode cX6_readsPulse 22 = .ok (.aload_n 0, 1) := by decide +kernel
theorem dX6_readsPulse_23 : decode cX6_readsPulse 23 = .ok (.lconst 0, 1) := by decide +kernel
theorem dX6_readsPulse_24 : decode cX6_readsPulse 24 = .ok (.ldc2_w 239, 3) := by decide +kernel
theorem dX6_readsPulse_27 : decode cX6_readsPulse 27 = .ok (.invokevirtual 230, 3) := by decide +kernel
theorem dX6_readsPulse_30 : decode cX6_readsPulse 30 = .ok (.istore_n 2, 1) := by decide +kernel
theorem dX6_readsPulse_31 : decode cX6_readsPulse 31 = .ok (.aload_n 0, 1) := by decide +kernel
theorem dX6_readsPulse_32 : decode cX6_readsPulse 32 = .ok (.getfield 183, 3) := by decide +kernel
theorem dX6_readsPulse_35 : decode cX6_readsPulse 35 = .ok (.ifCond .ne 11, 3) := by decide +kernel
theorem dX6_readsPulse_38 : decode cX6_readsPulse 38 = .ok (.aload_n 0, 1) := by decide +kernel
theorem dX6_readsPulse_39 : decode cX6_readsPulse 39 = .ok (.iload_n 1, 1) := by decide +kernel
theorem dX6_readsPulse_40 : decode cX6_readsPulse 40 = .ok (.i2l, 1) := by decide +kernel
theorem dX6_readsPulse_41 : decode cX6_readsPulse 41 = .ok (.iload_n 2, 1) := by decide +kernel
theorem dX6_readsPulse_42 : decode cX6_readsPulse 42 = .ok (.invokevirtual 241, 3) := by decide +kernel
theorem dX6_readsPulse_45 : decode cX6_readsPulse 45 = .ok (.pop, 1) := by decide +kernel
theorem dX6_readsPulse_46 : decode cX6_readsPulse 46 = .ok (.return_, 1) := by decide +kernel
theorem dX6_beginOfHearing_0 : decode cX6_beginOfHearing 0 = .ok (.aload_n 0, 1) := by decide +kernel
theorem dX6_beginOfHearing_1 : decode cX6_beginOfHearing 1 = .ok (.getfield 7, 3) := by decide +kernel
theorem dX6_beginOfHearing_4 : decode cX6_beginOfHearing 4 = .ok (.bipush 6, 2) := by decide +kernel
theorem dX6_beginOfHearing_6 : decode cX6_beginOfHearing 6 = .ok (.laload, 1) := by decide +kernel
theorem dX6_beginOfHearing_7 : decode cX6_beginOfHearing 7 = .ok (.ldc2_w 53, 3) := by decide +kernel
theorem dX6_beginOfHearing_10 : decode cX6_beginOfHearing 10 = .ok (.lcmp, 1) := by decide +kernel
theorem dX6_beginOfHearing_11 : decode cX6_beginOfHearing 11 = .ok (.ifCond .ne 5, 3) := by decide +kernel
theorem dX6_beginOfHearing_14 : decode cX6_beginOfHearing 14 = .ok (.lconst 0, 1) := by decide +kernel
theorem dX6_beginOfHearing_15 : decode cX6_beginOfHearing 15 = .ok (.lreturn, 1) := by decide +kernel
theorem dX6_beginOfHearing_16 : decode cX6_beginOfHearing 16 = .ok (.aload_n 0, 1) := by decide +kernel
theorem dX6_beginOfHearing_17 : decode cX6_beginOfHearing 17 = .ok (.getfield 7, 3) := by decide +kernel
theorem dX6_beginOfHearing_20 : decode cX6_beginOfHearing 20 = .ok (.bipush 6, 2) := by decide +kernel
theorem dX6_beginOfHearing_22 : decode cX6_beginOfHearing 22 = .ok (.laload, 1) := by decide +kernel
theorem dX6_beginOfHearing_23 : decode cX6_beginOfHearing 23 = .ok (.aload_n 0, 1) := by decide +kernel
theorem dX6_beginOfHearing_24 : decode cX6_beginOfHearing 24 = .ok (.getfield 7, 3) := by decide +kernel
theorem dX6_beginOfHearing_27 : decode cX6_beginOfHearing 27 = .ok (.iconst 5, 1) := by decide +kernel
theorem dX6_beginOfHearing_28 : decode cX6_beginOfHearing 28 = .ok (.laload, 1) := by decide +kernel
theorem dX6_beginOfHearing_29 : decode cX6_beginOfHearing 29 = .ok (.ldc2_w 53, 3) := by decide +kernel
theorem dX6_beginOfHearing_32 : decode cX6_beginOfHearing 32 = .ok (.lcmp, 1) := by decide +kernel
theorem dX6_beginOfHearing_33 : decode cX6_beginOfHearing 33 = .ok (.ifCond .ne 9, 3) := by decide +kernel
theorem dX6_beginOfHearing_36 : decode cX6_beginOfHearing 36 = .ok (.ldc2_w 89, 3) := by decide +kernel
theorem dX6_beginOfHearing_39 : decode cX6_beginOfHearing 39 = .ok (.goto 21, 3) := by decide +kernel
theorem dX6_beginOfHearing_42 : decode cX6_beginOfHearing 42 = .ok (.ldc2_w 285, 3) := by decide +kernel
theorem dX6_beginOfHearing_45 : decode cX6_beginOfHearing 45 = .ok (.aload_n 0, 1) := by decide +kernel
theorem dX6_beginOfHearing_46 : decode cX6_beginOfHearing 46 = .ok (.getfield 7, 3) := by decide +kernel
theorem dX6_beginOfHearing_49 : decode cX6_beginOfHearing 49 = .ok (.bipush 8, 2) := by decide +kernel
theorem dX6_beginOfHearing_51 : decode cX6_beginOfHearing 51 = .ok (.laload, 1) := by decide +kernel
theorem dX6_beginOfHearing_52 : decode cX6_beginOfHearing 52 = .ok (.aload_n 0, 1) := by decide +kernel
theorem dX6_beginOfHearing_53 : decode cX6_beginOfHearing 53 = .ok (.getfield 7, 3) := by decide +kernel
theorem dX6_beginOfHearing_56 : decode cX6_beginOfHearing 56 = .ok (.iconst 5, 1) := by decide +kernel
theorem dX6_beginOfHearing_57 : decode cX6_beginOfHearing 57 = .ok (.laload, 1) := by decide +kernel
theorem dX6_beginOfHearing_58 : decode cX6_beginOfHearing 58 = .ok (.lsub, 1) := by decide +kernel
theorem dX6_beginOfHearing_59 : decode cX6_beginOfHearing 59 = .ok (.lmul, 1) := by decide +kernel
theorem dX6_beginOfHearing_60 : decode cX6_beginOfHearing 60 = .ok (.ladd, 1) := by decide +kernel
theorem dX6_beginOfHearing_61 : decode cX6_beginOfHearing 61 = .ok (.lreturn, 1) := by decide +kernel
theorem dX6_canHear_0 : decode cX6_canHear 0 = .ok (.aload_n 0, 1) := by decide +kernel
theorem dX6_canHear_1 : decode cX6_canHear 1 = .ok (.invokevirtual 326, 3) := by decide +kernel
theorem dX6_canHear_4 : decode cX6_canHear 4 = .ok (.ldc2_w 330, 3) := by decide +kernel
theorem dX6_canHear_7 : decode cX6_canHear 7 = .ok (.ladd, 1) := by decide +kernel
theorem dX6_canHear_8 : decode cX6_canHear 8 = .ok (.ldc2_w 237, 3) := by decide +kernel
theorem dX6_canHear_11 : decode cX6_canHear 11 = .ok (.lcmp, 1) := by decide +kernel
theorem dX6_canHear_12 : decode cX6_canHear 12 = .ok (.ifCond .gt 7, 3) := by decide +kernel
theorem dX6_canHear_15 : decode cX6_canHear 15 = .ok (.iconst 1, 1) := by decide +kernel
theorem dX6_canHear_16 : decode cX6_canHear 16 = .ok (.goto 4, 3) := by decide +kernel
theorem dX6_canHear_19 : decode cX6_canHear 19 = .ok (.iconst 0, 1) := by decide +kernel
theorem dX6_canHear_20 : decode cX6_canHear 20 = .ok (.ireturn, 1) := by decide +kernel
theorem dX6_hears_0 : decode cX6_hears 0 = .ok (.aload_n 0, 1) := by decide +kernel
theorem dX6_hears_1 : decode cX6_hears 1 = .ok (.invokevirtual 326, 3) := by decide +kernel
theorem dX6_hears_4 : decode cX6_hears 4 = .ok (.lstore 5, 2) := by decide +kernel
theorem dX6_hears_6 : decode cX6_hears 6 = .ok (.iload_n 1, 1) := by decide +kernel
theorem dX6_hears_7 : decode cX6_hears 7 = .ok (.iload_n 2, 1) := by decide +kernel
theorem dX6_hears_8 : decode cX6_hears 8 = .ok (.invokestatic 123, 3) := by decide +kernel
theorem dX6_hears_11 : decode cX6_hears 11 = .ok (.lstore 7, 2) := by decide +kernel
theorem dX6_hears_13 : decode cX6_hears 13 = .ok (.iconst 0, 1) := by decide +kernel
theorem dX6_hears_14 : decode cX6_hears 14 = .ok (.istore 9, 2) := by decide +kernel
theorem dX6_hears_16 : decode cX6_hears 16 = .ok (.iconst 0, 1) := by decide +kernel
theorem dX6_hears_17 : decode cX6_hears 17 = .ok (.istore 10, 2) := by decide +kernel
theorem dX6_hears_19 : decode cX6_hears 19 = .ok (.iload 10, 2) := by decide +kernel
theorem dX6_hears_21 : decode cX6_hears 21 = .ok (.bipush 59, 2) := by decide +kernel
theorem dX6_hears_23 : decode cX6_hears 23 = .ok (.if_icmp .ge 87, 3) := by decide +kernel
theorem dX6_hears_26 : decode cX6_hears 26 = .ok (.lload_n 3, 1) := by decide +kernel
theorem dX6_hears_27 : decode cX6_hears 27 = .ok (.iload 10, 2) := by decide +kernel
theorem dX6_hears_29 : decode cX6_hears 29 = .ok (.invokestatic 58, 3) := by decide +kernel
theorem dX6_hears_32 : decode cX6_hears 32 = .ok (.ifCond .ne 72, 3) := by decide +kernel
theorem dX6_hears_35 : decode cX6_hears 35 = .ok (.lload 5, 2) := by decide +kernel
theorem dX6_hears_37 : decode cX6_hears 37 = .ok (.ldc2_w 285, 3) := by decide +kernel
theorem dX6_hears_40 : decode cX6_hears 40 = .ok (.iload 10, 2) := by decide +kernel
theorem dX6_hears_42 : decode cX6_hears 42 = .ok (.i2l, 1) := by decide +kernel
theorem dX6_hears_43 : decode cX6_hears 43 = .ok (.lmul, 1) := by decide +kernel
theorem dX6_hears_44 : decode cX6_hears 44 = .ok (.ladd, 1) := by decide +kernel
theorem dX6_hears_45 : decode cX6_hears 45 = .ok (.aload_n 0, 1) := by decide +kernel
theorem dX6_hears_46 : decode cX6_hears 46 = .ok (.getfield 7, 3) := by decide +kernel
theorem dX6_hears_49 : decode cX6_hears 49 = .ok (.bipush 7, 2) := by decide +kernel
theorem dX6_hears_51 : decode cX6_hears 51 = .ok (.laload, 1) := by decide +kernel
theorem dX6_hears_52 : decode cX6_hears 52 = .ok (.lcmp, 1) := by decide +kernel
theorem dX6_hears_53 : decode cX6_hears 53 = .ok (.ifCond .gt 6, 3) := by decide +kernel
theorem dX6_hears_56 : decode cX6_hears 56 = .ok (.goto 48, 3) := by decide +kernel
theorem dX6_hears_59 : decode cX6_hears 59 = .ok (.iload 9, 2) := by decide +kernel
theorem dX6_hears_61 : decode cX6_hears 61 = .ok (.aload_n 0, 1) := by decide +kernel
theorem dX6_hears_62 : decode cX6_hears 62 = .ok (.lload 5, 2) := by decide +kernel
theorem dX6_hears_64 : decode cX6_hears 64 = .ok (.ldc2_w 285, 3) := by decide +kernel
theorem dX6_hears_67 : decode cX6_hears 67 = .ok (.iload 10, 2) := by decide +kernel
theorem dX6_hears_69 : decode cX6_hears 69 = .ok (.i2l, 1) := by decide +kernel
theorem dX6_hears_70 : decode cX6_hears 70 = .ok (.lmul, 1) := by decide +kernel
theorem dX6_hears_71 : decode cX6_hears 71 = .ok (.ladd, 1) := by decide +kernel
theorem dX6_hears_72 : decode cX6_hears 72 = .ok (.lload 7, 2) := by decide +kernel
theorem dX6_hears_74 : decode cX6_hears 74 = .ok (.iload 10, 2) := by decide +kernel
theorem dX6_hears_76 : decode cX6_hears 76 = .ok (.invokestatic 58, 3) := by decide +kernel
theorem dX6_hears_79 : decode cX6_hears 79 = .ok (.ifCond .eq 9, 3) := by decide +kernel
theorem dX6_hears_82 : decode cX6_hears 82 = .ok (.sipush 200, 3) := by decide +kernel
theorem dX6_hears_85 : decode cX6_hears 85 = .ok (.goto 5, 3) := by decide +kernel
theorem dX6_hears_88 : decode cX6_hears 88 = .ok (.bipush 100, 2) := by decide +kernel
theorem dX6_hears_90 : decode cX6_hears 90 = .ok (.invokevirtual 241, 3) := by decide +kernel
theorem dX6_hears_93 : decode cX6_hears 93 = .ok (.ifCond .ne 7, 3) := by decide +kernel
theorem dX6_hears_96 : decode cX6_hears 96 = .ok (.iconst 0, 1) := by decide +kernel
theorem dX6_hears_97 : decode cX6_hears 97 = .ok (.goto 4, 3) := by decide +kernel
theorem dX6_hears_100 : decode cX6_hears 100 = .ok (.iconst 1, 1) := by decide +kernel
theorem dX6_hears_101 : decode cX6_hears 101 = .ok (.iadd, 1) := by decide +kernel
theorem dX6_hears_102 : decode cX6_hears 102 = .ok (.istore 9, 2) := by decide +kernel
theorem dX6_hears_104 : decode cX6_hears 104 = .ok (.iinc 10 1, 3) := by decide +kernel
theorem dX6_hears_107 : decode cX6_hears 107 = .ok (.goto (-88), 3) := by decide +kernel
theorem dX6_hears_110 : decode cX6_hears 110 = .ok (.iload 9, 2) := by decide +kernel
theorem dX6_hears_112 : decode cX6_hears 112 = .ok (.ireturn, 1) := by decide +kernel
theorem dX6_readsHear_0 : decode cX6_readsHear 0 = .ok (.aload_n 0, 1) := by decide +kernel
theorem dX6_readsHear_1 : decode cX6_readsHear 1 = .ok (.invokevirtual 245, 3) := by decide +kernel
theorem dX6_readsHear_4 : decode cX6_readsHear 4 = .ok (.ifCond .ne 9, 3) := by decide +kernel
theorem dX6_readsHear_7 : decode cX6_readsHear 7 = .ok (.aload_n 0, 1) := by decide +kernel
theorem dX6_readsHear_8 : decode cX6_readsHear 8 = .ok (.bipush (-3), 2) := by decide +kernel
theorem dX6_readsHear_10 : decode cX6_readsHear 10 = .ok (.invokevirtual 199, 3) := by decide +kernel
theorem dX6_readsHear_13 : decode cX6_readsHear 13 = .ok (.aload_n 0, 1) := by decide +kernel
theorem dX6_readsHear_14 : decode cX6_readsHear 14 = .ok (.iconst 1, 1) := by decide +kernel
theorem dX6_readsHear_15 : decode cX6_readsHear 15 = .ok (.invokevirtual 220, 3) := by decide +kernel
theorem dX6_readsHear_18 : decode cX6_readsHear 18 = .ok (.aload_n 0, 1) := by decide +kernel
theorem dX6_readsHear_19 : decode cX6_readsHear 19 = .ok (.lconst 0, 1) := by decide +kernel
theorem dX6_readsHear_20 : decode cX6_readsHear 20 = .ok (.ldc2_w 72, 3) := by decide +kernel
theorem dX6_readsHear_23 : decode cX6_readsHear 23 = .ok (.invokevirtual 230, 3) := by decide +kernel
theorem dX6_readsHear_26 : decode cX6_readsHear 26 = .ok (.istore_n 1, 1) := by decide +kernel
theorem dX6_readsHear_27 : decode cX6_readsHear 27 = .ok (.aload_n 0, 1) := by decide +kernel
theorem dX6_readsHear_28 : decode cX6_readsHear 28 = .ok (.ldc 249, 2) := by decide +kernel
theorem dX6_readsHear_30 : decode cX6_readsHear 30 = .ok (.invokevirtual 208, 3) := by decide +kernel
theorem dX6_readsHear_33 : decode cX6_readsHear 33 = .ok (.istore_n 2, 1) := by decide +kernel
theorem dX6_readsHear_34 : decode cX6_readsHear 34 = .ok (.iload_n 2, 1) := by decide +kernel
theorem dX6_readsHear_35 : decode cX6_readsHear 35 = .ok (.ifCond .eq 8, 3) := by decide +kernel
theorem dX6_readsHear_38 : decode cX6_readsHear 38 = .ok (.aload_n 0, 1) := by decide +kernel
theorem dX6_readsHear_39 : decode cX6_readsHear 39 = .ok (.iconst 1, 1) := by decide +kernel
theorem dX6_readsHear_40 : decode cX6_readsHear 40 = .ok (.invokevirtual 220, 3) := by decide +kernel
theorem dX6_readsHear_43 : decode cX6_readsHear 43 = .ok (.lconst 0, 1) := by decide +kernel
theorem dX6_readsHear_44 : decode cX6_readsHear 44 = .ok (.lstore_n 3, 1) := by decide +kernel
theorem dX6_readsHear_45 : decode cX6_readsHear 45 = .ok (.aload_n 0, 1) := by decide +kernel
theorem dX6_readsHear_46 : decode cX6_readsHear 46 = .ok (.ldc 251, 2) := by decide +kernel
theorem dX6_readsHear_48 : decode cX6_readsHear 48 = .ok (.invokevirtual 208, 3) := by decide +kernel
theorem dX6_readsHear_51 : decode cX6_readsHear 51 = .ok (.ifCond .eq 24, 3) := by decide +kernel
theorem dX6_readsHear_54 : decode cX6_readsHear 54 = .ok (.aload_n 0, 1) := by decide +kernel
theorem dX6_readsHear_55 : decode cX6_readsHear 55 = .ok (.iconst 1, 1) := by decide +kernel
theorem dX6_readsHear_56 : decode cX6_readsHear 56 = .ok (.invokevirtual 220, 3) := by decide +kernel
theorem dX6_readsHear_59 : decode cX6_readsHear 59 = .ok (.lload_n 3, 1) := by decide +kernel
theorem dX6_readsHear_60 : decode cX6_readsHear 60 = .ok (.lconst 1, 1) := by decide +kernel
theorem dX6_readsHear_61 : decode cX6_readsHear 61 = .ok (.aload_n 0, 1) := by decide +kernel
theorem dX6_readsHear_62 : decode cX6_readsHear 62 = .ok (.lconst 0, 1) := by decide +kernel
theorem dX6_readsHear_63 : decode cX6_readsHear 63 = .ok (.ldc2_w 253, 3) := by decide +kernel
theorem dX6_readsHear_66 : decode cX6_readsHear 66 = .ok (.invokevirtual 230, 3) := by decide +kernel
theorem dX6_readsHear_69 : decode cX6_readsHear 69 = .ok (.lshl, 1) := by decide +kernel
theorem dX6_readsHear_70 : decode cX6_readsHear 70 = .ok (.lor, 1) := by decide +kernel
theorem dX6_readsHear_71 : decode cX6_readsHear 71 = .ok (.lstore_n 3, 1) := by decide +kernel
theorem dX6_readsHear_72 : decode cX6_readsHear 72 = .ok (.goto (-27), 3) := by decide +kernel
theorem dX6_readsHear_75 : decode cX6_readsHear 75 = .ok (.aload_n 0, 1) := by decide +kernel
theorem dX6_readsHear_76 : decode cX6_readsHear 76 = .ok (.getfield 183, 3) := by decide +kernel
theorem dX6_readsHear_79 : decode cX6_readsHear 79 = .ok (.ifCond .ne 11, 3) := by decide +kernel
theorem dX6_readsHear_82 : decode cX6_readsHear 82 = .ok (.aload_n 0, 1) := by decide +kernel
theorem dX6_readsHear_83 : decode cX6_readsHear 83 = .ok (.iload_n 1, 1) := by decide +kernel
theorem dX6_readsHear_84 : decode cX6_readsHear 84 = .ok (.iload_n 2, 1) := by decide +kernel
theorem dX6_readsHear_85 : decode cX6_readsHear 85 = .ok (.lload_n 3, 1) := by decide +kernel
theorem dX6_readsHear_86 : decode cX6_readsHear 86 = .ok (.invokevirtual 255, 3) := by decide +kernel
theorem dX6_readsHear_89 : decode cX6_readsHear 89 = .ok (.pop, 1) := by decide +kernel
theorem dX6_readsHear_90 : decode cX6_readsHear 90 = .ok (.return_, 1) := by decide +kernel
theorem dX6_readsStatement_0 : decode cX6_readsStatement 0 = .ok (.aload_n 0, 1) := by decide +kernel
theorem dX6_readsStatement_1 : decode cX6_readsStatement 1 = .ok (.invokevirtual 259, 3) := by decide +kernel
theorem dX6_readsStatement_4 : decode cX6_readsStatement 4 = .ok (.istore_n 1, 1) := by decide +kernel
theorem dX6_readsStatement_5 : decode cX6_readsStatement 5 = .ok (.iload_n 1, 1) := by decide +kernel
theorem dX6_readsStatement_6 : decode cX6_readsStatement 6 = .ok (.iconst (-1), 1) := by decide +kernel
theorem dX6_readsStatement_7 : decode cX6_readsStatement 7 = .ok (.if_icmp .eq 11, 3) := by decide +kernel
theorem dX6_readsStatement_10 : decode cX6_readsStatement 10 = .ok (.aload_n 0, 1) := by decide +kernel
theorem dX6_readsStatement_11 : decode cX6_readsStatement 11 = .ok (.iload_n 1, 1) := by decide +kernel
theorem dX6_readsStatement_12 : decode cX6_readsStatement 12 = .ok (.invokevirtual 262, 3) := by decide +kernel
theorem dX6_readsStatement_15 : decode cX6_readsStatement 15 = .ok (.goto 43, 3) := by decide +kernel
theorem dX6_readsStatement_18 : decode cX6_readsStatement 18 = .ok (.aload_n 0, 1) := by decide +kernel
theorem dX6_readsStatement_19 : decode cX6_readsStatement 19 = .ok (.ldc_w 265, 3) := by decide +kernel
theorem dX6_readsStatement_22 : decode cX6_readsStatement 22 = .ok (.invokevirtual 208, 3) := by decide +kernel
theorem dX6_readsStatement_25 : decode cX6_readsStatement 25 = .ok (.ifCond .eq 10, 3) := by decide +kernel
theorem dX6_readsStatement_28 : decode cX6_readsStatement 28 = .ok (.aload_n 0, 1) := by decide +kernel
theorem dX6_readsStatement_29 : decode cX6_readsStatement 29 = .ok (.invokevirtual 267, 3) := by decide +kernel
theorem dX6_readsStatement_32 : decode cX6_readsStatement 32 = .ok (.goto 26, 3) := by decide +kernel
theorem dX6_readsStatement_35 : decode cX6_readsStatement 35 = .ok (.aload_n 0, 1) := by decide +kernel
theorem dX6_readsStatement_36 : decode cX6_readsStatement 36 = .ok (.ldc_w 270, 3) := by decide +kernel
theorem dX6_readsStatement_39 : decode cX6_readsStatement 39 = .ok (.invokevirtual 208, 3) := by decide +kernel
theorem dX6_readsStatement_42 : decode cX6_readsStatement 42 = .ok (.ifCond .eq 10, 3) := by decide +kernel
theorem dX6_readsStatement_45 : decode cX6_readsStatement 45 = .ok (.aload_n 0, 1) := by decide +kernel
theorem dX6_readsStatement_46 : decode cX6_readsStatement 46 = .ok (.invokevirtual 272, 3) := by decide +kernel
theorem dX6_readsStatement_49 : decode cX6_readsStatement 49 = .ok (.goto 9, 3) := by decide +kernel
theorem dX6_readsStatement_52 : decode cX6_readsStatement 52 = .ok (.aload_n 0, 1) := by decide +kernel
theorem dX6_readsStatement_53 : decode cX6_readsStatement 53 = .ok (.bipush (-2), 2) := by decide +kernel
theorem dX6_readsStatement_55 : decode cX6_readsStatement 55 = .ok (.invokevirtual 199, 3) := by decide +kernel
theorem dX6_readsStatement_58 : decode cX6_readsStatement 58 = .ok (.aload_n 0, 1) := by decide +kernel
theorem dX6_readsStatement_59 : decode cX6_readsStatement 59 = .ok (.aload_n 0, 1) := by decide +kernel
theorem dX6_readsStatement_60 : decode cX6_readsStatement 60 = .ok (.getfield 165, 3) := by decide +kernel
theorem dX6_readsStatement_63 : decode cX6_readsStatement 63 = .ok (.iconst 2, 1) := by decide +kernel
theorem dX6_readsStatement_64 : decode cX6_readsStatement 64 = .ok (.if_icmp .ne 20, 3) := by decide +kernel
theorem dX6_readsStatement_67 : decode cX6_readsStatement 67 = .ok (.aload_n 0, 1) := by decide +kernel
theorem dX6_readsStatement_68 : decode cX6_readsStatement 68 = .ok (.aload_n 0, 1) := by decide +kernel
theorem dX6_readsStatement_69 : decode cX6_readsStatement 69 = .ok (.getfield 159, 3) := by decide +kernel
theorem dX6_readsStatement_72 : decode cX6_readsStatement 72 = .ok (.invokevirtual 162, 3) := by decide +kernel
theorem dX6_readsStatement_75 : decode cX6_readsStatement 75 = .ok (.bipush 59, 2) := by decide +kernel
theorem dX6_readsStatement_77 : decode cX6_readsStatement 77 = .ok (.if_icmp .ne 7, 3) := by decide +kernel
theorem dX6_readsStatement_80 : decode cX6_readsStatement 80 = .ok (.iconst 1, 1) := by decide +kernel
theorem dX6_readsStatement_81 : decode cX6_readsStatement 81 = .ok (.goto 4, 3) := by decide +kernel
theorem dX6_readsStatement_84 : decode cX6_readsStatement 84 = .ok (.iconst 0, 1) := by decide +kernel
theorem dX6_readsStatement_85 : decode cX6_readsStatement 85 = .ok (.invokevirtual 220, 3) := by decide +kernel
theorem dX6_readsStatement_88 : decode cX6_readsStatement 88 = .ok (.return_, 1) := by decide +kernel
theorem dX6_load_0 : decode cX6_load 0 = .ok (.aload_n 0, 1) := by decide +kernel
theorem dX6_load_1 : decode cX6_load 1 = .ok (.iload_n 1, 1) := by decide +kernel
theorem dX6_load_2 : decode cX6_load 2 = .ok (.i2l, 1) := by decide +kernel
theorem dX6_load_3 : decode cX6_load 3 = .ok (.lconst 0, 1) := by decide +kernel
theorem dX6_load_4 : decode cX6_load 4 = .ok (.aload_n 0, 1) := by decide +kernel
theorem dX6_load_5 : decode cX6_load 5 = .ok (.getfield 142, 3) := by decide +kernel
theorem dX6_load_8 : decode cX6_load 8 = .ok (.i2l, 1) := by decide +kernel
theorem dX6_load_9 : decode cX6_load 9 = .ok (.invokestatic 65, 3) := by decide +kernel
theorem dX6_load_12 : decode cX6_load 12 = .ok (.ifCond .eq 7, 3) := by decide +kernel
theorem dX6_load_15 : decode cX6_load 15 = .ok (.iconst 0, 1) := by decide +kernel
theorem dX6_load_16 : decode cX6_load 16 = .ok (.goto 4, 3) := by decide +kernel
theorem dX6_load_19 : decode cX6_load 19 = .ok (.iconst 1, 1) := by decide +kernel
theorem dX6_load_20 : decode cX6_load 20 = .ok (.putfield 55, 3) := by decide +kernel
theorem dX6_load_23 : decode cX6_load 23 = .ok (.aload_n 0, 1) := by decide +kernel
theorem dX6_load_24 : decode cX6_load 24 = .ok (.getfield 55, 3) := by decide +kernel
theorem dX6_load_27 : decode cX6_load 27 = .ok (.ifCond .le 5, 3) := by decide +kernel
theorem dX6_load_30 : decode cX6_load 30 = .ok (.iconst 0, 1) := by decide +kernel
theorem dX6_load_31 : decode cX6_load 31 = .ok (.ireturn, 1) := by decide +kernel
theorem dX6_load_32 : decode cX6_load 32 = .ok (.aload_n 0, 1) := by decide +kernel
theorem dX6_load_33 : decode cX6_load 33 = .ok (.iload_n 1, 1) := by decide +kernel
theorem dX6_load_34 : decode cX6_load 34 = .ok (.putfield 145, 3) := by decide +kernel
theorem dX6_load_37 : decode cX6_load 37 = .ok (.aload_n 0, 1) := by decide +kernel
theorem dX6_load_38 : decode cX6_load 38 = .ok (.iconst 0, 1) := by decide +kernel
theorem dX6_load_39 : decode cX6_load 39 = .ok (.putfield 142, 3) := by decide +kernel
theorem dX6_load_42 : decode cX6_load 42 = .ok (.aload_n 0, 1) := by decide +kernel
theorem dX6_load_43 : decode cX6_load 43 = .ok (.iconst 0, 1) := by decide +kernel
theorem dX6_load_44 : decode cX6_load 44 = .ok (.putfield 156, 3) := by decide +kernel
theorem dX6_load_47 : decode cX6_load 47 = .ok (.aload_n 0, 1) := by decide +kernel
theorem dX6_load_48 : decode cX6_load 48 = .ok (.iconst 0, 1) := by decide +kernel
theorem dX6_load_49 : decode cX6_load 49 = .ok (.putfield 183, 3) := by decide +kernel
theorem dX6_load_52 : decode cX6_load 52 = .ok (.iconst 0, 1) := by decide +kernel
theorem dX6_load_53 : decode cX6_load 53 = .ok (.istore_n 2, 1) := by decide +kernel
theorem dX6_load_54 : decode cX6_load 54 = .ok (.iload_n 2, 1) := by decide +kernel
theorem dX6_load_55 : decode cX6_load 55 = .ok (.bipush 48, 2) := by decide +kernel
theorem dX6_load_57 : decode cX6_load 57 = .ok (.if_icmp .ge 21, 3) := by decide +kernel
theorem dX6_load_60 : decode cX6_load 60 = .ok (.aload_n 0, 1) := by decide +kernel
theorem dX6_load_61 : decode cX6_load 61 = .ok (.getfield 16, 3) := by decide +kernel
theorem dX6_load_64 : decode cX6_load 64 = .ok (.iload_n 2, 1) := by decide +kernel
theorem dX6_load_65 : decode cX6_load 65 = .ok (.aload_n 0, 1) := by decide +kernel
theorem dX6_load_66 : decode cX6_load 66 = .ok (.getfield 7, 3) := by decide +kernel
theorem dX6_load_69 : decode cX6_load 69 = .ok (.iload_n 2, 1) := by decide +kernel
theorem dX6_load_70 : decode cX6_load 70 = .ok (.laload, 1) := by decide +kernel
theorem dX6_load_71 : decode cX6_load 71 = .ok (.lastore, 1) := by decide +kernel
theorem dX6_load_72 : decode cX6_load 72 = .ok (.iinc 2 1, 3) := by decide +kernel
theorem dX6_load_75 : decode cX6_load 75 = .ok (.goto (-21), 3) := by decide +kernel
theorem dX6_load_78 : decode cX6_load 78 = .ok (.aload_n 0, 1) := by decide +kernel
theorem dX6_load_79 : decode cX6_load 79 = .ok (.invokevirtual 40, 3) := by decide +kernel
theorem dX6_load_82 : decode cX6_load 82 = .ok (.aload_n 0, 1) := by decide +kernel
theorem dX6_load_83 : decode cX6_load 83 = .ok (.aload_n 0, 1) := by decide +kernel
theorem dX6_load_84 : decode cX6_load 84 = .ok (.getfield 13, 3) := by decide +kernel
theorem dX6_load_87 : decode cX6_load 87 = .ok (.iconst 0, 1) := by decide +kernel
theorem dX6_load_88 : decode cX6_load 88 = .ok (.invokevirtual 43, 3) := by decide +kernel
theorem dX6_load_91 : decode cX6_load 91 = .ok (.aload_n 0, 1) := by decide +kernel
theorem dX6_load_92 : decode cX6_load 92 = .ok (.invokevirtual 203, 3) := by decide +kernel
theorem dX6_load_95 : decode cX6_load 95 = .ok (.aload_n 0, 1) := by decide +kernel
theorem dX6_load_96 : decode cX6_load 96 = .ok (.getfield 183, 3) := by decide +kernel
theorem dX6_load_99 : decode cX6_load 99 = .ok (.ifCond .ne 18, 3) := by decide +kernel
theorem dX6_load_102 : decode cX6_load 102 = .ok (.aload_n 0, 1) := by decide +kernel
theorem dX6_load_103 : decode cX6_load 103 = .ok (.getfield 165, 3) := by decide +kernel
theorem dX6_load_106 : decode cX6_load 106 = .ok (.iconst 3, 1) := by decide +kernel
theorem dX6_load_107 : decode cX6_load 107 = .ok (.if_icmp .eq 10, 3) := by decide +kernel
theorem dX6_load_110 : decode cX6_load 110 = .ok (.aload_n 0, 1) := by decide +kernel
theorem dX6_load_111 : decode cX6_load 111 = .ok (.invokevirtual 275, 3) := by decide +kernel
theorem dX6_load_114 : decode cX6_load 114 = .ok (.goto (-19), 3) := by decide +kernel
theorem dX6_load_117 : decode cX6_load 117 = .ok (.aload_n 0, 1) := by decide +kernel
theorem dX6_load_118 : decode cX6_load 118 = .ok (.aload_n 0, 1) := by decide +kernel
theorem dX6_load_119 : decode cX6_load 119 = .ok (.getfield 183, 3) := by decide +kernel
theorem dX6_load_122 : decode cX6_load 122 = .ok (.ifCond .ne 7, 3) := by decide +kernel
theorem dX6_load_125 : decode cX6_load 125 = .ok (.iconst (-1), 1) := by decide +kernel
theorem dX6_load_126 : decode cX6_load 126 = .ok (.goto 7, 3) := by decide +kernel
theorem dX6_load_129 : decode cX6_load 129 = .ok (.aload_n 0, 1) := by decide +kernel
theorem dX6_load_130 : decode cX6_load 130 = .ok (.getfield 196, 3) := by decide +kernel
theorem dX6_load_133 : decode cX6_load 133 = .ok (.putfield 33, 3) := by decide +kernel
theorem dX6_load_136 : decode cX6_load 136 = .ok (.iconst 0, 1) := by decide +kernel
theorem dX6_load_137 : decode cX6_load 137 = .ok (.istore_n 2, 1) := by decide +kernel
theorem dX6_load_138 : decode cX6_load 138 = .ok (.iload_n 2, 1) := by decide +kernel
theorem dX6_load_139 : decode cX6_load 139 = .ok (.bipush 48, 2) := by decide +kernel
theorem dX6_load_141 : decode cX6_load 141 = .ok (.if_icmp .ge 21, 3) := by decide +kernel
theorem dX6_load_144 : decode cX6_load 144 = .ok (.aload_n 0, 1) := by decide +kernel
theorem dX6_load_145 : decode cX6_load 145 = .ok (.getfield 13, 3) := by decide +kernel
theorem dX6_load_148 : decode cX6_load 148 = .ok (.iload_n 2, 1) := by decide +kernel
theorem dX6_load_149 : decode cX6_load 149 = .ok (.aload_n 0, 1) := by decide +kernel
theorem dX6_load_150 : decode cX6_load 150 = .ok (.getfield 7, 3) := by decide +kernel
theorem dX6_load_153 : decode cX6_load 153 = .ok (.iload_n 2, 1) := by decide +kernel
theorem dX6_load_154 : decode cX6_load 154 = .ok (.laload, 1) := by decide +kernel
theorem dX6_load_155 : decode cX6_load 155 = .ok (.lastore, 1) := by decide +kernel
theorem dX6_load_156 : decode cX6_load 156 = .ok (.iinc 2 1, 3) := by decide +kernel
theorem dX6_load_159 : decode cX6_load 159 = .ok (.goto (-21), 3) := by decide +kernel
theorem dX6_load_162 : decode cX6_load 162 = .ok (.aload_n 0, 1) := by decide +kernel
theorem dX6_load_163 : decode cX6_load 163 = .ok (.aload_n 0, 1) := by decide +kernel
theorem dX6_load_164 : decode cX6_load 164 = .ok (.getfield 16, 3) := by decide +kernel
theorem dX6_load_167 : decode cX6_load 167 = .ok (.iconst 0, 1) := by decide +kernel
theorem dX6_load_168 : decode cX6_load 168 = .ok (.invokevirtual 43, 3) := by decide +kernel
theorem dX6_load_171 : decode cX6_load 171 = .ok (.aload_n 0, 1) := by decide +kernel
theorem dX6_load_172 : decode cX6_load 172 = .ok (.getfield 183, 3) := by decide +kernel
theorem dX6_load_175 : decode cX6_load 175 = .ok (.ifCond .eq 8, 3) := by decide +kernel
theorem dX6_load_178 : decode cX6_load 178 = .ok (.aload_n 0, 1) := by decide +kernel
theorem dX6_load_179 : decode cX6_load 179 = .ok (.getfield 183, 3) := by decide +kernel
theorem dX6_load_182 : decode cX6_load 182 = .ok (.ireturn, 1) := by decide +kernel
theorem dX6_load_183 : decode cX6_load 183 = .ok (.aload_n 0, 1) := by decide +kernel
theorem dX6_load_184 : decode cX6_load 184 = .ok (.invokevirtual 69, 3) := by decide +kernel
theorem dX6_load_187 : decode cX6_load 187 = .ok (.aload_n 0, 1) := by decide +kernel
theorem dX6_load_188 : decode cX6_load 188 = .ok (.aload_n 0, 1) := by decide +kernel
theorem dX6_load_189 : decode cX6_load 189 = .ok (.getfield 13, 3) := by decide +kernel
theorem dX6_load_192 : decode cX6_load 192 = .ok (.iconst 0, 1) := by decide +kernel
theorem dX6_load_193 : decode cX6_load 193 = .ok (.invokevirtual 43, 3) := by decide +kernel
theorem dX6_load_196 : decode cX6_load 196 = .ok (.aload_n 0, 1) := by decide +kernel
theorem dX6_load_197 : decode cX6_load 197 = .ok (.getfield 7, 3) := by decide +kernel
theorem dX6_load_200 : decode cX6_load 200 = .ok (.bipush 12, 2) := by decide +kernel
theorem dX6_load_202 : decode cX6_load 202 = .ok (.laload, 1) := by decide +kernel
theorem dX6_load_203 : decode cX6_load 203 = .ok (.l2i, 1) := by decide +kernel
theorem dX6_load_204 : decode cX6_load 204 = .ok (.ireturn, 1) := by decide +kernel
theorem dX6_errorPosition_0 : decode cX6_errorPosition 0 = .ok (.aload_n 0, 1) := by decide +kernel
theorem dX6_errorPosition_1 : decode cX6_errorPosition 1 = .ok (.iconst 0, 1) := by decide +kernel
theorem dX6_errorPosition_2 : decode cX6_errorPosition 2 = .ok (.putfield 55, 3) := by decide +kernel
theorem dX6_errorPosition_5 : decode cX6_errorPosition 5 = .ok (.aload_n 0, 1) := by decide +kernel
theorem dX6_errorPosition_6 : decode cX6_errorPosition 6 = .ok (.getfield 33, 3) := by decide +kernel
theorem dX6_errorPosition_9 : decode cX6_errorPosition 9 = .ok (.ireturn, 1) := by decide +kernel
theorem dX6_pulse_0 : decode cX6_pulse 0 = .ok (.aload_n 0, 1) := by decide +kernel
theorem dX6_pulse_1 : decode cX6_pulse 1 = .ok (.iload_n 1, 1) := by decide +kernel
theorem dX6_pulse_2 : decode cX6_pulse 2 = .ok (.i2l, 1) := by decide +kernel
theorem dX6_pulse_3 : decode cX6_pulse 3 = .ok (.lconst 0, 1) := by decide +kernel
theorem dX6_pulse_4 : decode cX6_pulse 4 = .ok (.ldc2_w 237, 3) := by decide +kernel
theorem dX6_pulse_7 : decode cX6_pulse 7 = .ok (.invokestatic 65, 3) := by decide +kernel
theorem dX6_pulse_10 : decode cX6_pulse 10 = .ok (.ifCond .eq 32, 3) := by decide +kernel
theorem dX6_pulse_13 : decode cX6_pulse 13 = .ok (.iload_n 1, 1) := by decide +kernel
theorem dX6_pulse_14 : decode cX6_pulse 14 = .ok (.i2l, 1) := by decide +kernel
theorem dX6_pulse_15 : decode cX6_pulse 15 = .ok (.aload_n 0, 1) := by decide +kernel
theorem dX6_pulse_16 : decode cX6_pulse 16 = .ok (.getfield 7, 3) := by decide +kernel
theorem dX6_pulse_19 : decode cX6_pulse 19 = .ok (.bipush 7, 2) := by decide +kernel
theorem dX6_pulse_21 : decode cX6_pulse 21 = .ok (.laload, 1) := by decide +kernel
theorem dX6_pulse_22 : decode cX6_pulse 22 = .ok (.lcmp, 1) := by decide +kernel
theorem dX6_pulse_23 : decode cX6_pulse 23 = .ok (.ifCond .le 19, 3) := by decide +kernel
theorem dX6_pulse_26 : decode cX6_pulse 26 = .ok (.iload_n 2, 1) := by decide +kernel
theorem dX6_pulse_27 : decode cX6_pulse 27 = .ok (.i2l, 1) := by decide +kernel
theorem dX6_pulse_28 : decode cX6_pulse 28 = .ok (.lconst 0, 1) := by decide +kernel
theorem dX6_pulse_29 : decode cX6_pulse 29 = .ok (.ldc2_w 239, 3) := by decide +kernel
theorem dX6_pulse_32 : decode cX6_pulse 32 = .ok (.invokestatic 65, 3) := by decide +kernel
theorem dX6_pulse_35 : decode cX6_pulse 35 = .ok (.ifCond .eq 7, 3) := by decide +kernel
theorem dX6_pulse_38 : decode cX6_pulse 38 = .ok (.iconst 0, 1) := by decide +kernel
theorem dX6_pulse_39 : decode cX6_pulse 39 = .ok (.goto 4, 3) := by decide +kernel
theorem dX6_pulse_42 : decode cX6_pulse 42 = .ok (.iconst 1, 1) := by decide +kernel
theorem dX6_pulse_43 : decode cX6_pulse 43 = .ok (.putfield 55, 3) := by decide +kernel
theorem dX6_pulse_46 : decode cX6_pulse 46 = .ok (.aload_n 0, 1) := by decide +kernel
theorem dX6_pulse_47 : decode cX6_pulse 47 = .ok (.getfield 55, 3) := by decide +kernel
theorem dX6_pulse_50 : decode cX6_pulse 50 = .ok (.ifCond .le 5, 3) := by decide +kernel
theorem dX6_pulse_53 : decode cX6_pulse 53 = .ok (.iconst 0, 1) := by decide +kernel
theorem dX6_pulse_54 : decode cX6_pulse 54 = .ok (.ireturn, 1) := by decide +kernel
theorem dX6_pulse_55 : decode cX6_pulse 55 = .ok (.aload_n 0, 1) := by decide +kernel
theorem dX6_pulse_56 : decode cX6_pulse 56 = .ok (.invokevirtual 69, 3) := by decide +kernel
theorem dX6_pulse_59 : decode cX6_pulse 59 = .ok (.aload_n 0, 1) := by decide +kernel
theorem dX6_pulse_60 : decode cX6_pulse 60 = .ok (.iload_n 1, 1) := by decide +kernel
theorem dX6_pulse_61 : decode cX6_pulse 61 = .ok (.i2l, 1) := by decide +kernel
theorem dX6_pulse_62 : decode cX6_pulse 62 = .ok (.iload_n 2, 1) := by decide +kernel
theorem dX6_pulse_63 : decode cX6_pulse 63 = .ok (.invokevirtual 241, 3) := by decide +kernel
theorem dX6_pulse_66 : decode cX6_pulse 66 = .ok (.ireturn, 1) := by decide +kernel
def f_X6_isDigit (N : Nat) (x0 : Int32) : Option Bool := ((f_X6_isIn N x0.toInt64 (48 : Int64) (57 : Int64)).bind fun q1 => some q1)
def l_X6_next_129 (N : Nat) : Nat → Ob → Option Ob
  | 0, _ => none
  | n + 1, u0 => ((f_X6_see N (u0.1 13) u0).bind fun q15 => ((f_X6_isDigit N q15).bind fun q17 => (if q17 = true then (if (10000000000 : Int64) ≤ (u0.2.1 18) then l_X6_next_129 N n (oi u0 13 ((u0.1 13) + (1 : Int32))) else ((f_X6_see N (u0.1 13) u0).bind fun q21 => l_X6_next_129 N n (oi (ol u0 18 ((((10 : Int64) * (u0.2.1 18)) + q21.toInt64) - (48 : Int64))) 13 ((u0.1 13) + (1 : Int32))))) else some (oi u0 14 (1 : Int32)))))
def l_X6_next_75 (N : Nat) : Nat → Ob → Option Ob
  | 0, _ => none
  | n + 1, u0 => ((f_X6_see N (u0.1 13) u0).bind fun q23 => ((f_X6_isLetter N q23).bind fun q25 => (if q25 = true then l_X6_next_75 N n (oi u0 13 ((u0.1 13) + (1 : Int32))) else some (oi u0 14 (0 : Int32)))))
def l_X6_next_8 (N : Nat) : Nat → Ob → Option Ob
  | 0, _ => none
  | n + 1, u0 => ((f_X6_see N (u0.1 12) u0).bind fun q1 => (if q1 = (32 : Int32) then l_X6_next_8 N n (oi u0 12 ((u0.1 12) + (1 : Int32))) else (if (u0.1 12) < (u0.1 11) then ((f_X6_see N (u0.1 12) (oi u0 13 (u0.1 12))).bind fun q5 => ((f_X6_isLetter N q5).bind fun q7 => (if q7 = true then l_X6_next_75 N N (oi u0 13 (u0.1 12)) else ((f_X6_see N (u0.1 12) (oi u0 13 (u0.1 12))).bind fun q10 => ((f_X6_isDigit N q10).bind fun q12 => (if q12 = true then l_X6_next_129 N N (ol (oi u0 13 (u0.1 12)) 18 (0 : Int64)) else some (oi (oi (oi u0 13 (u0.1 12)) 13 ((u0.1 12) + (1 : Int32))) 14 (2 : Int32)))))))) else some (oi (oi u0 13 (u0.1 12)) 14 (3 : Int32)))))
def f_X6_next (N : Nat) (u0 : Ob) : Option Ob := l_X6_next_8 N N (oi u0 12 (u0.1 13))
def l_X6_isWord_34 (N : Nat) (i : Nat) : Nat → Int32 → Ob → Option (Bool × Ob)
  | 0, _, _ => none
  | n + 1, x2, u0 => ((f_J0_length_8abf5 N i).bind fun q6 => (if q6 ≤ x2 then some (true, u0) else (if ((u0.1 12) + x2) < 0 ∨ 600 ≤ ((u0.1 12) + x2).toNatClampNeg then none else ((f_J0_charAt_5068e N i x2).bind fun q10 => (if ((u0.2.2.1 9) ((u0.1 12) + x2).toNatClampNeg) = q10 then l_X6_isWord_34 N i n (x2 + (1 : Int32)) u0 else some (false, u0))))))
def f_X6_isWord (N : Nat) (i : Nat) (u0 : Ob) : Option (Bool × Ob) := (if (u0.1 15) = (0 : Int32) then (if (u0.1 14) = (0 : Int32) then ((f_J0_length_8abf5 N i).bind fun q3 => (if ((u0.1 13) - (u0.1 12)) = q3 then l_X6_isWord_34 N i N (0 : Int32) u0 else some (false, u0))) else some (false, u0)) else some (false, u0))
def f_X6_fails (N : Nat) (x1 : Int32) (u0 : Ob) : Option Ob := (if (u0.1 15) = (0 : Int32) then some (oi (oi u0 15 x1) 16 (u0.1 12)) else some u0)
def f_X6_must (N : Nat) (x1 : Bool) (u0 : Ob) : Option Ob := (if x1 = true then (if (u0.1 15) = (0 : Int32) then ((f_X6_next N u0).bind fun q3 => some q3) else some u0) else ((f_X6_fails N (-2 : Int32) u0).bind fun q5 => (if (q5.1 15) = (0 : Int32) then ((f_X6_next N q5).bind fun q8 => some q8) else some q5)))
def f_X6_takes (N : Nat) (x1 : Int64) (x3 : Int64) (u0 : Ob) : Option (Int32 × Ob) := (if (u0.1 15) = (0 : Int32) then (if (u0.1 14) = (1 : Int32) then (if (u0.1 15) = (0 : Int32) then ((f_X6_isIn N (u0.2.1 18) x1 x3).bind fun q38 => (if q38 = true then (if (u0.1 15) = (0 : Int32) then (if (u0.1 15) = (0 : Int32) then ((f_X6_next N u0).bind fun q46 => some ((u0.2.1 18).toInt32, q46)) else some ((u0.2.1 18).toInt32, u0)) else (if (u0.1 15) = (0 : Int32) then ((f_X6_next N u0).bind fun q43 => some ((0 : Int32), q43)) else some ((0 : Int32), u0))) else ((f_X6_fails N (-3 : Int32) u0).bind fun q48 => (if (q48.1 15) = (0 : Int32) then (if (q48.1 15) = (0 : Int32) then ((f_X6_next N q48).bind fun q55 => some ((q48.2.1 18).toInt32, q55)) else some ((q48.2.1 18).toInt32, q48)) else (if (q48.1 15) = (0 : Int32) then ((f_X6_next N q48).bind fun q52 => some ((0 : Int32), q52)) else some ((0 : Int32), q48)))))) else (if (u0.1 15) = (0 : Int32) then (if (u0.1 15) = (0 : Int32) then ((f_X6_next N u0).bind fun q36 => some ((u0.2.1 18).toInt32, q36)) else some ((u0.2.1 18).toInt32, u0)) else (if (u0.1 15) = (0 : Int32) then ((f_X6_next N u0).bind fun q33 => some ((0 : Int32), q33)) else some ((0 : Int32), u0)))) else ((f_X6_fails N (-2 : Int32) u0).bind fun q57 => (if (q57.1 15) = (0 : Int32) then (if (q57.1 15) = (0 : Int32) then ((f_X6_next N q57).bind fun q64 => some ((q57.2.1 18).toInt32, q64)) else some ((q57.2.1 18).toInt32, q57)) else (if (q57.1 15) = (0 : Int32) then ((f_X6_next N q57).bind fun q61 => some ((0 : Int32), q61)) else some ((0 : Int32), q57))))) else (if (u0.1 15) = (0 : Int32) then ((f_X6_isIn N (u0.2.1 18) x1 x3).bind fun q10 => (if q10 = true then (if (u0.1 15) = (0 : Int32) then (if (u0.1 15) = (0 : Int32) then ((f_X6_next N u0).bind fun q18 => some ((u0.2.1 18).toInt32, q18)) else some ((u0.2.1 18).toInt32, u0)) else (if (u0.1 15) = (0 : Int32) then ((f_X6_next N u0).bind fun q15 => some ((0 : Int32), q15)) else some ((0 : Int32), u0))) else ((f_X6_fails N (-3 : Int32) u0).bind fun q20 => (if (q20.1 15) = (0 : Int32) then (if (q20.1 15) = (0 : Int32) then ((f_X6_next N q20).bind fun q27 => some ((q20.2.1 18).toInt32, q27)) else some ((q20.2.1 18).toInt32, q20)) else (if (q20.1 15) = (0 : Int32) then ((f_X6_next N q20).bind fun q24 => some ((0 : Int32), q24)) else some ((0 : Int32), q20)))))) else (if (u0.1 15) = (0 : Int32) then (if (u0.1 15) = (0 : Int32) then ((f_X6_next N u0).bind fun q8 => some ((u0.2.1 18).toInt32, q8)) else some ((u0.2.1 18).toInt32, u0)) else (if (u0.1 15) = (0 : Int32) then ((f_X6_next N u0).bind fun q5 => some ((0 : Int32), q5)) else some ((0 : Int32), u0)))))
def f_X6_least (N : Nat) (x0 : Int32) : Option Int32 := (if x0 = (0 : Int32) then some (10 : Int32) else (if x0 = (1 : Int32) then some (2 : Int32) else (if x0 = (2 : Int32) then some (3 : Int32) else (if x0 = (3 : Int32) then some (0 : Int32) else some (-500 : Int32)))))
def f_X6_most (N : Nat) (x0 : Int32) : Option Int32 := (if x0 = (0 : Int32) then some (200 : Int32) else (if x0 = (1 : Int32) then some (5 : Int32) else (if x0 = (2 : Int32) then some (8 : Int32) else (if x0 = (3 : Int32) then some (3 : Int32) else some (500 : Int32)))))
def f_X6_settingHere (N : Nat) (u0 : Ob) : Option (Int32 × Ob) := ((f_X6_isWord N 0 u0).bind fun q1 => (if q1.1 = true then some ((0 : Int32), q1.2) else ((f_X6_isWord N 1 q1.2).bind fun q4 => (if q4.1 = true then some ((1 : Int32), q4.2) else ((f_X6_isWord N 2 q4.2).bind fun q7 => (if q7.1 = true then some ((2 : Int32), q7.2) else ((f_X6_isWord N 3 q7.2).bind fun q10 => (if q10.1 = true then some ((3 : Int32), q10.2) else ((f_X6_isWord N 4 q10.2).bind fun q13 => (if q13.1 = true then some ((4 : Int32), q13.2) else some ((-1 : Int32), q13.2)))))))))))
def f_X6_sets (N : Nat) (x1 : Int32) (x2 : Int32) (u0 : Ob) : Option (Int32 × Ob) := (if x1 < 0 ∨ 48 ≤ x1.toNatClampNeg then none else (if x1 < 0 ∨ 48 ≤ x1.toNatClampNeg then none else (if ((vp_updL (u0.2.2.2 0) x1.toNatClampNeg x2.toInt64) (12 : Int32).toNatClampNeg) ≤ ((vp_updL (u0.2.2.2 0) x1.toNatClampNeg x2.toInt64) (2 : Int32).toNatClampNeg) then some (((u0.2.2.2 0) x1.toNatClampNeg).toInt32, (oj u0 0 (vp_updL (u0.2.2.2 0) x1.toNatClampNeg x2.toInt64))) else some (((u0.2.2.2 0) x1.toNatClampNeg).toInt32, (oj (oj u0 0 (vp_updL (u0.2.2.2 0) x1.toNatClampNeg x2.toInt64)) 0 (vp_updL (vp_updL (u0.2.2.2 0) x1.toNatClampNeg x2.toInt64) (12 : Int32).toNatClampNeg ((vp_updL (u0.2.2.2 0) x1.toNatClampNeg x2.toInt64) (2 : Int32).toNatClampNeg)))))))
def f_X6_readsSetting (N : Nat) (x1 : Int32) (u0 : Ob) : Option Ob := ((f_X6_must N true u0).bind fun q1 => (if x1 = (4 : Int32) then (if (q1.1 15) = (0 : Int32) then (if (q1.1 14) = (2 : Int32) then ((f_X6_see N (q1.1 12) q1).bind fun q66 => (if q66 = (45 : Int32) then ((f_X6_must N true q1).bind fun q90 => (if x1 = (4 : Int32) then ((f_X6_most N x1).bind fun q103 => ((f_X6_takes N (0 : Int64) q103.toInt64 q90).bind fun q105 => (if (q105.2.1 15) = (0 : Int32) then ((f_X6_sets N x1 (-q105.1) q105.2).bind fun q109 => some q109.2) else some q105.2))) else ((f_X6_least N x1).bind fun q93 => ((f_X6_most N x1).bind fun q95 => ((f_X6_takes N q93.toInt64 q95.toInt64 q90).bind fun q97 => (if (q97.2.1 15) = (0 : Int32) then ((f_X6_sets N x1 (-q97.1) q97.2).bind fun q101 => some q101.2) else some q97.2)))))) else (if x1 = (4 : Int32) then ((f_X6_most N x1).bind fun q81 => ((f_X6_takes N (0 : Int64) q81.toInt64 q1).bind fun q83 => (if (q83.2.1 15) = (0 : Int32) then ((f_X6_sets N x1 q83.1 q83.2).bind fun q87 => some q87.2) else some q83.2))) else ((f_X6_least N x1).bind fun q71 => ((f_X6_most N x1).bind fun q73 => ((f_X6_takes N q71.toInt64 q73.toInt64 q1).bind fun q75 => (if (q75.2.1 15) = (0 : Int32) then ((f_X6_sets N x1 q75.1 q75.2).bind fun q79 => some q79.2) else some q75.2))))))) else (if x1 = (4 : Int32) then ((f_X6_most N x1).bind fun q58 => ((f_X6_takes N (0 : Int64) q58.toInt64 q1).bind fun q60 => (if (q60.2.1 15) = (0 : Int32) then ((f_X6_sets N x1 q60.1 q60.2).bind fun q64 => some q64.2) else some q60.2))) else ((f_X6_least N x1).bind fun q48 => ((f_X6_most N x1).bind fun q50 => ((f_X6_takes N q48.toInt64 q50.toInt64 q1).bind fun q52 => (if (q52.2.1 15) = (0 : Int32) then ((f_X6_sets N x1 q52.1 q52.2).bind fun q56 => some q56.2) else some q52.2)))))) else (if x1 = (4 : Int32) then ((f_X6_most N x1).bind fun q37 => ((f_X6_takes N (0 : Int64) q37.toInt64 q1).bind fun q39 => (if (q39.2.1 15) = (0 : Int32) then ((f_X6_sets N x1 q39.1 q39.2).bind fun q43 => some q43.2) else some q39.2))) else ((f_X6_least N x1).bind fun q27 => ((f_X6_most N x1).bind fun q29 => ((f_X6_takes N q27.toInt64 q29.toInt64 q1).bind fun q31 => (if (q31.2.1 15) = (0 : Int32) then ((f_X6_sets N x1 q31.1 q31.2).bind fun q35 => some q35.2) else some q31.2)))))) else (if x1 = (4 : Int32) then ((f_X6_most N x1).bind fun q16 => ((f_X6_takes N (0 : Int64) q16.toInt64 q1).bind fun q18 => (if (q18.2.1 15) = (0 : Int32) then ((f_X6_sets N x1 q18.1 q18.2).bind fun q22 => some q22.2) else some q18.2))) else ((f_X6_least N x1).bind fun q6 => ((f_X6_most N x1).bind fun q8 => ((f_X6_takes N q6.toInt64 q8.toInt64 q1).bind fun q10 => (if (q10.2.1 15) = (0 : Int32) then ((f_X6_sets N x1 q10.1 q10.2).bind fun q14 => some q14.2) else some q10.2)))))))
def f_X6_ignores (N : Nat) (u0 : Ob) : Option (Int32 × Ob) := some ((0 : Int32), (oj u0 0 (vp_updL (u0.2.2.2 0) (11 : Int32).toNatClampNeg (((u0.2.2.2 0) (11 : Int32).toNatClampNeg) + (1 : Int64)))))
def f_X6_forgets (N : Nat) (u0 : Ob) : Option Ob := some (oj (oj (oj (oj u0 0 (vp_updL (u0.2.2.2 0) (5 : Int32).toNatClampNeg (-1 : Int64))) 0 (vp_updL (vp_updL (u0.2.2.2 0) (5 : Int32).toNatClampNeg (-1 : Int64)) (12 : Int32).toNatClampNeg (0 : Int64))) 0 (vp_updL (vp_updL (vp_updL (u0.2.2.2 0) (5 : Int32).toNatClampNeg (-1 : Int64)) (12 : Int32).toNatClampNeg (0 : Int64)) (9 : Int32).toNatClampNeg (-1 : Int64))) 0 (vp_updL (vp_updL (vp_updL (vp_updL (u0.2.2.2 0) (5 : Int32).toNatClampNeg (-1 : Int64)) (12 : Int32).toNatClampNeg (0 : Int64)) (9 : Int32).toNatClampNeg (-1 : Int64)) (10 : Int32).toNatClampNeg (0 : Int64)))
def f_X6_lays (N : Nat) (x1 : Int32) (x2 : Int32) (u0 : Ob) : Option Ob := (if x1 < (59 : Int32) then (if x2 = (1 : Int32) then (if x2 = (2 : Int32) then some (oj (oj u0 0 (vp_updL (u0.2.2.2 0) (14 : Int32).toNatClampNeg ((((u0.2.2.2 0) (14 : Int32).toNatClampNeg) &&& ((jshl (1 : Int64) x1) ^^^ (-1 : Int64))) ||| (jshl (1 : Int64) x1)))) 0 (vp_updL (vp_updL (u0.2.2.2 0) (14 : Int32).toNatClampNeg ((((u0.2.2.2 0) (14 : Int32).toNatClampNeg) &&& ((jshl (1 : Int64) x1) ^^^ (-1 : Int64))) ||| (jshl (1 : Int64) x1))) (15 : Int32).toNatClampNeg ((((vp_updL (u0.2.2.2 0) (14 : Int32).toNatClampNeg ((((u0.2.2.2 0) (14 : Int32).toNatClampNeg) &&& ((jshl (1 : Int64) x1) ^^^ (-1 : Int64))) ||| (jshl (1 : Int64) x1))) (15 : Int32).toNatClampNeg) &&& ((jshl (1 : Int64) x1) ^^^ (-1 : Int64))) ||| (jshl (1 : Int64) x1)))) else some (oj (oj u0 0 (vp_updL (u0.2.2.2 0) (14 : Int32).toNatClampNeg ((((u0.2.2.2 0) (14 : Int32).toNatClampNeg) &&& ((jshl (1 : Int64) x1) ^^^ (-1 : Int64))) ||| (jshl (1 : Int64) x1)))) 0 (vp_updL (vp_updL (u0.2.2.2 0) (14 : Int32).toNatClampNeg ((((u0.2.2.2 0) (14 : Int32).toNatClampNeg) &&& ((jshl (1 : Int64) x1) ^^^ (-1 : Int64))) ||| (jshl (1 : Int64) x1))) (15 : Int32).toNatClampNeg ((((vp_updL (u0.2.2.2 0) (14 : Int32).toNatClampNeg ((((u0.2.2.2 0) (14 : Int32).toNatClampNeg) &&& ((jshl (1 : Int64) x1) ^^^ (-1 : Int64))) ||| (jshl (1 : Int64) x1))) (15 : Int32).toNatClampNeg) &&& ((jshl (1 : Int64) x1) ^^^ (-1 : Int64))) ||| (0 : Int64))))) else (if x2 = (2 : Int32) then some (oj (oj u0 0 (vp_updL (u0.2.2.2 0) (14 : Int32).toNatClampNeg ((((u0.2.2.2 0) (14 : Int32).toNatClampNeg) &&& ((jshl (1 : Int64) x1) ^^^ (-1 : Int64))) ||| (0 : Int64)))) 0 (vp_updL (vp_updL (u0.2.2.2 0) (14 : Int32).toNatClampNeg ((((u0.2.2.2 0) (14 : Int32).toNatClampNeg) &&& ((jshl (1 : Int64) x1) ^^^ (-1 : Int64))) ||| (0 : Int64))) (15 : Int32).toNatClampNeg ((((vp_updL (u0.2.2.2 0) (14 : Int32).toNatClampNeg ((((u0.2.2.2 0) (14 : Int32).toNatClampNeg) &&& ((jshl (1 : Int64) x1) ^^^ (-1 : Int64))) ||| (0 : Int64))) (15 : Int32).toNatClampNeg) &&& ((jshl (1 : Int64) x1) ^^^ (-1 : Int64))) ||| (jshl (1 : Int64) x1)))) else some (oj (oj u0 0 (vp_updL (u0.2.2.2 0) (14 : Int32).toNatClampNeg ((((u0.2.2.2 0) (14 : Int32).toNatClampNeg) &&& ((jshl (1 : Int64) x1) ^^^ (-1 : Int64))) ||| (0 : Int64)))) 0 (vp_updL (vp_updL (u0.2.2.2 0) (14 : Int32).toNatClampNeg ((((u0.2.2.2 0) (14 : Int32).toNatClampNeg) &&& ((jshl (1 : Int64) x1) ^^^ (-1 : Int64))) ||| (0 : Int64))) (15 : Int32).toNatClampNeg ((((vp_updL (u0.2.2.2 0) (14 : Int32).toNatClampNeg ((((u0.2.2.2 0) (14 : Int32).toNatClampNeg) &&& ((jshl (1 : Int64) x1) ^^^ (-1 : Int64))) ||| (0 : Int64))) (15 : Int32).toNatClampNeg) &&& ((jshl (1 : Int64) x1) ^^^ (-1 : Int64))) ||| (0 : Int64)))))) else some u0)
def l_X6_beginsMinute_35 (N : Nat) (x1 : Int32) (x2 : Int32) (x3 : Int64) : Nat → Int32 → Ob → Option Ob
  | 0, _, _ => none
  | n + 1, x5, u0 => (if x1 ≤ x5 then ((f_X6_lays N x1 x2 u0).bind fun q2 => some q2) else ((f_X6_lays N x5 (2 : Int32) u0).bind fun q4 => l_X6_beginsMinute_35 N x1 x2 x3 n (x5 + (1 : Int32)) q4))
def f_X6_beginsMinute (N : Nat) (x1 : Int32) (x2 : Int32) (x3 : Int64) (u0 : Ob) : Option Ob := l_X6_beginsMinute_35 N x1 x2 x3 N (0 : Int32) (oj (oj (oj (oj u0 0 (vp_updL (u0.2.2.2 0) (14 : Int32).toNatClampNeg (0 : Int64))) 0 (vp_updL (vp_updL (u0.2.2.2 0) (14 : Int32).toNatClampNeg (0 : Int64)) (15 : Int32).toNatClampNeg (0 : Int64))) 0 (vp_updL (vp_updL (vp_updL (u0.2.2.2 0) (14 : Int32).toNatClampNeg (0 : Int64)) (15 : Int32).toNatClampNeg (0 : Int64)) (8 : Int32).toNatClampNeg x3)) 0 (vp_updL (vp_updL (vp_updL (vp_updL (u0.2.2.2 0) (14 : Int32).toNatClampNeg (0 : Int64)) (15 : Int32).toNatClampNeg (0 : Int64)) (8 : Int32).toNatClampNeg x3) (5 : Int32).toNatClampNeg x1.toInt64))
def l_X6_goesTo_13 (N : Nat) (x1 : Int32) (x2 : Int32) : Nat → Int32 → Int32 → Ob → Option (Int32 × Ob)
  | 0, _, _, _ => none
  | n + 1, x3, x4, u0 => (if x1 ≤ x4 then ((f_X6_lays N x1 x2 u0).bind fun q2 => (if (x1 - x3) ≤ (1 : Int32) then some ((1 : Int32), (oj q2 0 (vp_updL (q2.2.2.2 0) (5 : Int32).toNatClampNeg x1.toInt64))) else some ((2 : Int32), (oj q2 0 (vp_updL (q2.2.2.2 0) (5 : Int32).toNatClampNeg x1.toInt64))))) else ((f_X6_lays N x4 (2 : Int32) u0).bind fun q5 => l_X6_goesTo_13 N x1 x2 n x3 (x4 + (1 : Int32)) q5))
def f_X6_goesTo (N : Nat) (x1 : Int32) (x2 : Int32) (u0 : Ob) : Option (Int32 × Ob) := l_X6_goesTo_13 N x1 x2 N ((u0.2.2.2 0) (5 : Int32).toNatClampNeg).toInt32 (((u0.2.2.2 0) (5 : Int32).toNatClampNeg).toInt32 + (1 : Int32)) u0
def l_X6_madeBy_9 (N : Nat) (x0 : Int64) (x2 : Int64) (x4 : Int32) : Nat → Int64 → Int32 → Int32 → Option Int64
  | 0, _, _, _ => none
  | n + 1, x5, x7, x8 => (if (59 : Int32) ≤ x8 then some x5 else ((f_X6_has N (x2 &&& (576460752302899201 : Int64)) x8).bind fun q2 => (if q2 = true then ((f_X6_has N x4.toInt64 x7).bind fun q5 => (if q5 = true then l_X6_madeBy_9 N x0 x2 x4 n (x5 ||| (jshl (1 : Int64) x8)) (x7 + (1 : Int32)) (x8 + (1 : Int32)) else l_X6_madeBy_9 N x0 x2 x4 n (x5 ||| (0 : Int64)) (x7 + (1 : Int32)) (x8 + (1 : Int32)))) else l_X6_madeBy_9 N x0 x2 x4 n x5 x7 (x8 + (1 : Int32)))))
def f_X6_madeBy (N : Nat) (x0 : Int64) (x2 : Int64) (x4 : Int32) : Option Int64 := l_X6_madeBy_9 N x0 x2 x4 N x0 (0 : Int32) (0 : Int32)
def l_X6_tells_95 (N : Nat) (x1 : Int32) : Nat → Int64 → Int64 → Int32 → Int32 → Int32 → Int32 → Int32 → Ob → Option (Int32 × Ob)
  | 0, _, _, _, _, _, _, _, _ => none
  | n + 1, x2, x4, x6, x7, x8, x9, x10, u0 => (if ((1 : Int32) <<< (x7 &&& 31)) ≤ x10 then (if x8 = (1 : Int32) then some (x9, u0) else some ((-1 : Int32), u0)) else ((f_X6_madeBy N x2 x4 x10).bind fun q12 => ((f_X6_faultOf N q12 (0 : Int64) u0).bind fun q14 => (if q14.1 = (0 : Int32) then ((f_X6_madeBy N x2 x4 x10).bind fun q17 => l_X6_tells_95 N x1 n x2 x4 x6 x7 (x8 + (1 : Int32)) (q14.2.1 8) (x10 + (1 : Int32)) (ol q14.2 19 q17)) else l_X6_tells_95 N x1 n x2 x4 x6 x7 x8 x9 (x10 + (1 : Int32)) q14.2))))
def f_X6_tells (N : Nat) (x1 : Int32) (u0 : Ob) : Option (Int32 × Ob) := (if ((16 : Int32) + ((2 : Int32) * x1)) < 0 ∨ 48 ≤ ((16 : Int32) + ((2 : Int32) * x1)).toNatClampNeg then none else (if (((16 : Int32) + ((2 : Int32) * x1)) + (1 : Int32)) < 0 ∨ 48 ≤ (((16 : Int32) + ((2 : Int32) * x1)) + (1 : Int32)).toNatClampNeg then none else ((f_X6_faultOf N ((u0.2.2.2 0) ((16 : Int32) + ((2 : Int32) * x1)).toNatClampNeg) ((u0.2.2.2 0) (((16 : Int32) + ((2 : Int32) * x1)) + (1 : Int32)).toNatClampNeg) (ol u0 19 ((u0.2.2.2 0) ((16 : Int32) + ((2 : Int32) * x1)).toNatClampNeg))).bind fun q3 => (if q3.1 = (0 : Int32) then some ((q3.2.1 8), q3.2) else ((f_X6_bits N (((u0.2.2.2 0) (((16 : Int32) + ((2 : Int32) * x1)) + (1 : Int32)).toNatClampNeg) &&& (576460752302899201 : Int64)) (0 : Int32) (58 : Int32)).bind fun q6 => (if q3.1 = (1 : Int32) then (if q6.toInt64 ≤ ((q3.2.2.2.2 0) (3 : Int32).toNatClampNeg) then l_X6_tells_95 N x1 N ((u0.2.2.2 0) ((16 : Int32) + ((2 : Int32) * x1)).toNatClampNeg) ((u0.2.2.2 0) (((16 : Int32) + ((2 : Int32) * x1)) + (1 : Int32)).toNatClampNeg) q3.1 q6 (0 : Int32) (-1 : Int32) (0 : Int32) q3.2 else some ((-1 : Int32), q3.2)) else some ((-1 : Int32), q3.2)))))))
def f_X6_votesFor (N : Nat) (x1 : Int32) (u0 : Ob) : Option (Int32 × Ob) := ((f_X6_tells N x1 u0).bind fun q1 => (if q1.1 = (-1 : Int32) then some ((-1 : Int32), q1.2) else some ((q1.1 + x1), q1.2)))
def l_X6_votesNow_4 (N : Nat) (x1 : Int32) : Nat → Int32 → Int32 → Ob → Option (Int32 × Ob)
  | 0, _, _, _ => none
  | n + 1, x2, x3, u0 => (if ((u0.2.2.2 0) (12 : Int32).toNatClampNeg) ≤ x3.toInt64 then some (x2, u0) else ((f_X6_votesFor N x3 u0).bind fun q2 => (if q2.1 = (-1 : Int32) then l_X6_votesNow_4 N x1 n (x2 + (0 : Int32)) (x3 + (1 : Int32)) q2.2 else (if q2.1 = x1 then l_X6_votesNow_4 N x1 n (x2 + (1 : Int32)) (x3 + (1 : Int32)) q2.2 else l_X6_votesNow_4 N x1 n (x2 + (0 : Int32)) (x3 + (1 : Int32)) q2.2))))
def f_X6_votesNow (N : Nat) (x1 : Int32) (u0 : Ob) : Option (Int32 × Ob) := l_X6_votesNow_4 N x1 N (0 : Int32) (0 : Int32) u0
def k_X6_countsVotes_238 (N : Nat) (rec : Int32 → Int32 → Int32 → Ob → Option (Bool × Ob)) (x1 : Int32) (x2 : Int32) (x3 : Int32) (s0 : Int32) (u0 : Ob) : Option (Bool × Ob) := rec x1 (x2 + s0) (x3 + (1 : Int32)) u0
def l_X6_countsVotes_190 (N : Nat) : Nat → Int32 → Int32 → Int32 → Ob → Option (Bool × Ob)
  | 0, _, _, _, _ => none
  | n + 1, x1, x2, x3, u0 => (if ((u0.2.2.2 0) (12 : Int32).toNatClampNeg) ≤ x3.toInt64 then (if ((2 : Int64) * x2.toInt64) < ((u0.2.2.2 0) (10 : Int32).toNatClampNeg) then some (false, u0) else some (true, u0)) else ((f_X6_votesFor N x3 u0).bind fun q6 => (if q6.1.toInt64 = ((q6.2.2.2.2 0) (9 : Int32).toNatClampNeg) then ((f_X6_has N (q6.2.2.1 19) (19 : Int32)).bind fun q9 => (if q9 = true then k_X6_countsVotes_238 N (l_X6_countsVotes_190 N n) x1 x2 x3 (1 : Int32) q6.2 else k_X6_countsVotes_238 N (l_X6_countsVotes_190 N n) x1 x2 x3 (0 : Int32) q6.2)) else k_X6_countsVotes_238 N (l_X6_countsVotes_190 N n) x1 x2 x3 (0 : Int32) q6.2)))
def k_X6_countsVotes_144 (N : Nat) (rec : Int32 → Int32 → Ob → Option (Bool × Ob)) (x1 : Int32) (x2 : Int32) (x3 : Int32) (x4 : Int32) (u0 : Ob) : Option (Bool × Ob) := rec x1 (x2 + (1 : Int32)) u0
def k_X6_countsVotes_140 (N : Nat) (rec : Int32 → Int32 → Ob → Option (Bool × Ob)) (x1 : Int32) (x2 : Int32) (x3 : Int32) (x4 : Int32) (s0 : Int64) (u0 : Ob) : Option (Bool × Ob) := k_X6_countsVotes_144 N rec x4 x2 x3 x4 (oj u0 0 (vp_updL (u0.2.2.2 0) (10 : Int32).toNatClampNeg s0))
def k_X6_countsVotes_112 (N : Nat) (rec : Int32 → Int32 → Ob → Option (Bool × Ob)) (x1 : Int32) (x2 : Int32) (x3 : Int32) (x4 : Int32) (s0 : Int64) (u0 : Ob) : Option (Bool × Ob) := (if ((vp_updL (u0.2.2.2 0) (9 : Int32).toNatClampNeg s0) (9 : Int32).toNatClampNeg) = (-1 : Int64) then k_X6_countsVotes_140 N rec x1 x2 x3 x4 (0 : Int64) (oj u0 0 (vp_updL (u0.2.2.2 0) (9 : Int32).toNatClampNeg s0)) else k_X6_countsVotes_140 N rec x1 x2 x3 x4 x4.toInt64 (oj u0 0 (vp_updL (u0.2.2.2 0) (9 : Int32).toNatClampNeg s0)))
def l_X6_countsVotes_22 (N : Nat) : Nat → Int32 → Int32 → Ob → Option (Bool × Ob)
  | 0, _, _, _ => none
  | n + 1, x1, x2, u0 => (if ((u0.2.2.2 0) (12 : Int32).toNatClampNeg) ≤ x2.toInt64 then (if ((u0.2.2.2 0) (9 : Int32).toNatClampNeg) = (-1 : Int64) then some (false, u0) else (if ((((u0.2.2.2 0) (9 : Int32).toNatClampNeg) + (1 : Int64)) - (((u0.2.2.2 0) (9 : Int32).toNatClampNeg) + (1 : Int64)) / (60 : Int64) * (60 : Int64)) = (59 : Int64) then l_X6_countsVotes_190 N N x1 (0 : Int32) (0 : Int32) u0 else some (false, u0))) else ((f_X6_votesFor N x2 u0).bind fun q12 => (if q12.1 = (-1 : Int32) then (if (0 : Int32).toInt64 < ((q12.2.2.2.2 0) (1 : Int32).toNatClampNeg) then k_X6_countsVotes_144 N (l_X6_countsVotes_22 N n) x1 x2 q12.1 (0 : Int32) q12.2 else (if x1 ≤ (0 : Int32) then (if x1 < (0 : Int32) then k_X6_countsVotes_112 N (l_X6_countsVotes_22 N n) x1 x2 q12.1 (0 : Int32) q12.1.toInt64 q12.2 else (if ((q12.2.2.2.2 0) (9 : Int32).toNatClampNeg) = q12.1.toInt64 then k_X6_countsVotes_112 N (l_X6_countsVotes_22 N n) x1 x2 q12.1 (0 : Int32) q12.1.toInt64 q12.2 else k_X6_countsVotes_112 N (l_X6_countsVotes_22 N n) x1 x2 q12.1 (0 : Int32) (-1 : Int64) q12.2)) else k_X6_countsVotes_144 N (l_X6_countsVotes_22 N n) x1 x2 q12.1 (0 : Int32) q12.2)) else ((f_X6_votesNow N q12.1 q12.2).bind fun q15 => (if q15.1.toInt64 < ((q15.2.2.2.2 0) (1 : Int32).toNatClampNeg) then k_X6_countsVotes_144 N (l_X6_countsVotes_22 N n) x1 x2 q12.1 q15.1 q15.2 else (if x1 ≤ q15.1 then (if x1 < q15.1 then k_X6_countsVotes_112 N (l_X6_countsVotes_22 N n) x1 x2 q12.1 q15.1 q12.1.toInt64 q15.2 else (if ((q15.2.2.2.2 0) (9 : Int32).toNatClampNeg) = q12.1.toInt64 then k_X6_countsVotes_112 N (l_X6_countsVotes_22 N n) x1 x2 q12.1 q15.1 q12.1.toInt64 q15.2 else k_X6_countsVotes_112 N (l_X6_countsVotes_22 N n) x1 x2 q12.1 q15.1 (-1 : Int64) q15.2)) else k_X6_countsVotes_144 N (l_X6_countsVotes_22 N n) x1 x2 q12.1 q15.1 q15.2))))))
def f_X6_countsVotes (N : Nat) (u0 : Ob) : Option (Bool × Ob) := l_X6_countsVotes_22 N N (0 : Int32) (0 : Int32) (oj (oj u0 0 (vp_updL (u0.2.2.2 0) (9 : Int32).toNatClampNeg (-1 : Int64))) 0 (vp_updL (vp_updL (u0.2.2.2 0) (9 : Int32).toNatClampNeg (-1 : Int64)) (10 : Int32).toNatClampNeg (0 : Int64)))
def l_X6_fixes_4 (N : Nat) (x1 : Int64) (x3 : Int64) : Nat → Int32 → Ob → Option Ob
  | 0, _, _ => none
  | n + 1, x5, u0 => (if x5 ≤ (1 : Int32) then (if (8 : Int64) ≤ ((vp_updL (vp_updL (u0.2.2.2 0) (32 : Int32).toNatClampNeg x1) (33 : Int32).toNatClampNeg x3) (13 : Int32).toNatClampNeg) then some (oj (oj (oj u0 0 (vp_updL (u0.2.2.2 0) (32 : Int32).toNatClampNeg x1)) 0 (vp_updL (vp_updL (u0.2.2.2 0) (32 : Int32).toNatClampNeg x1) (33 : Int32).toNatClampNeg x3)) 0 (vp_updL (vp_updL (vp_updL (u0.2.2.2 0) (32 : Int32).toNatClampNeg x1) (33 : Int32).toNatClampNeg x3) (13 : Int32).toNatClampNeg (((vp_updL (vp_updL (u0.2.2.2 0) (32 : Int32).toNatClampNeg x1) (33 : Int32).toNatClampNeg x3) (13 : Int32).toNatClampNeg) + (0 : Int64)))) else some (oj (oj (oj u0 0 (vp_updL (u0.2.2.2 0) (32 : Int32).toNatClampNeg x1)) 0 (vp_updL (vp_updL (u0.2.2.2 0) (32 : Int32).toNatClampNeg x1) (33 : Int32).toNatClampNeg x3)) 0 (vp_updL (vp_updL (vp_updL (u0.2.2.2 0) (32 : Int32).toNatClampNeg x1) (33 : Int32).toNatClampNeg x3) (13 : Int32).toNatClampNeg (((vp_updL (vp_updL (u0.2.2.2 0) (32 : Int32).toNatClampNeg x1) (33 : Int32).toNatClampNeg x3) (13 : Int32).toNatClampNeg) + (1 : Int64))))) else (if (((32 : Int32) + x5) - (2 : Int32)) < 0 ∨ 48 ≤ (((32 : Int32) + x5) - (2 : Int32)).toNatClampNeg then none else (if ((32 : Int32) + x5) < 0 ∨ 48 ≤ ((32 : Int32) + x5).toNatClampNeg then none else l_X6_fixes_4 N x1 x3 n (x5 + (-1 : Int32)) (oj u0 0 (vp_updL (u0.2.2.2 0) ((32 : Int32) + x5).toNatClampNeg ((u0.2.2.2 0) (((32 : Int32) + x5) - (2 : Int32)).toNatClampNeg))))))
def f_X6_fixes (N : Nat) (x1 : Int64) (x3 : Int64) (u0 : Ob) : Option Ob := l_X6_fixes_4 N x1 x3 N (15 : Int32) u0
def l_X6_endsMinute_35 (N : Nat) (x1 : Int32) (x2 : Int32) (x3 : Int64) : Nat → Int32 → Ob → Option (Int32 × Ob)
  | 0, _, _ => none
  | n + 1, x5, u0 => (if x5 ≤ (1 : Int32) then (if ((vp_updL (vp_updL (u0.2.2.2 0) (16 : Int32).toNatClampNeg ((u0.2.2.2 0) (14 : Int32).toNatClampNeg)) (17 : Int32).toNatClampNeg ((vp_updL (u0.2.2.2 0) (16 : Int32).toNatClampNeg ((u0.2.2.2 0) (14 : Int32).toNatClampNeg)) (15 : Int32).toNatClampNeg)) (2 : Int32).toNatClampNeg) ≤ ((vp_updL (vp_updL (u0.2.2.2 0) (16 : Int32).toNatClampNeg ((u0.2.2.2 0) (14 : Int32).toNatClampNeg)) (17 : Int32).toNatClampNeg ((vp_updL (u0.2.2.2 0) (16 : Int32).toNatClampNeg ((u0.2.2.2 0) (14 : Int32).toNatClampNeg)) (15 : Int32).toNatClampNeg)) (12 : Int32).toNatClampNeg) then ((f_X6_countsVotes N (oj (oj (oj u0 0 (vp_updL (u0.2.2.2 0) (16 : Int32).toNatClampNeg ((u0.2.2.2 0) (14 : Int32).toNatClampNeg))) 0 (vp_updL (vp_updL (u0.2.2.2 0) (16 : Int32).toNatClampNeg ((u0.2.2.2 0) (14 : Int32).toNatClampNeg)) (17 : Int32).toNatClampNeg ((vp_updL (u0.2.2.2 0) (16 : Int32).toNatClampNeg ((u0.2.2.2 0) (14 : Int32).toNatClampNeg)) (15 : Int32).toNatClampNeg))) 0 (vp_updL (vp_updL (vp_updL (u0.2.2.2 0) (16 : Int32).toNatClampNeg ((u0.2.2.2 0) (14 : Int32).toNatClampNeg)) (17 : Int32).toNatClampNeg ((vp_updL (u0.2.2.2 0) (16 : Int32).toNatClampNeg ((u0.2.2.2 0) (14 : Int32).toNatClampNeg)) (15 : Int32).toNatClampNeg)) (12 : Int32).toNatClampNeg ((vp_updL (vp_updL (u0.2.2.2 0) (16 : Int32).toNatClampNeg ((u0.2.2.2 0) (14 : Int32).toNatClampNeg)) (17 : Int32).toNatClampNeg ((vp_updL (u0.2.2.2 0) (16 : Int32).toNatClampNeg ((u0.2.2.2 0) (14 : Int32).toNatClampNeg)) (15 : Int32).toNatClampNeg)) (2 : Int32).toNatClampNeg)))).bind fun q4 => (if ((q4.2.2.2.2 0) (9 : Int32).toNatClampNeg) = (-1 : Int64) then (if q4.1 = true then ((f_X6_beginsMinute N x1 x2 (61 : Int64) q4.2).bind fun q10 => some ((3 : Int32), q10)) else ((f_X6_beginsMinute N x1 x2 (60 : Int64) q4.2).bind fun q8 => some ((3 : Int32), q8))) else ((f_X6_fixes N (((q4.2.2.2.2 0) (9 : Int32).toNatClampNeg) + (1 : Int64)) (x3 - ((1000 : Int64) * x1.toInt64)) q4.2).bind fun q12 => (if q4.1 = true then ((f_X6_beginsMinute N x1 x2 (61 : Int64) q12).bind fun q17 => some ((3 : Int32), q17)) else ((f_X6_beginsMinute N x1 x2 (60 : Int64) q12).bind fun q15 => some ((3 : Int32), q15)))))) else ((f_X6_countsVotes N (oj (oj (oj u0 0 (vp_updL (u0.2.2.2 0) (16 : Int32).toNatClampNeg ((u0.2.2.2 0) (14 : Int32).toNatClampNeg))) 0 (vp_updL (vp_updL (u0.2.2.2 0) (16 : Int32).toNatClampNeg ((u0.2.2.2 0) (14 : Int32).toNatClampNeg)) (17 : Int32).toNatClampNeg ((vp_updL (u0.2.2.2 0) (16 : Int32).toNatClampNeg ((u0.2.2.2 0) (14 : Int32).toNatClampNeg)) (15 : Int32).toNatClampNeg))) 0 (vp_updL (vp_updL (vp_updL (u0.2.2.2 0) (16 : Int32).toNatClampNeg ((u0.2.2.2 0) (14 : Int32).toNatClampNeg)) (17 : Int32).toNatClampNeg ((vp_updL (u0.2.2.2 0) (16 : Int32).toNatClampNeg ((u0.2.2.2 0) (14 : Int32).toNatClampNeg)) (15 : Int32).toNatClampNeg)) (12 : Int32).toNatClampNeg (((vp_updL (vp_updL (u0.2.2.2 0) (16 : Int32).toNatClampNeg ((u0.2.2.2 0) (14 : Int32).toNatClampNeg)) (17 : Int32).toNatClampNeg ((vp_updL (u0.2.2.2 0) (16 : Int32).toNatClampNeg ((u0.2.2.2 0) (14 : Int32).toNatClampNeg)) (15 : Int32).toNatClampNeg)) (12 : Int32).toNatClampNeg) + (1 : Int64))))).bind fun q19 => (if ((q19.2.2.2.2 0) (9 : Int32).toNatClampNeg) = (-1 : Int64) then (if q19.1 = true then ((f_X6_beginsMinute N x1 x2 (61 : Int64) q19.2).bind fun q25 => some ((3 : Int32), q25)) else ((f_X6_beginsMinute N x1 x2 (60 : Int64) q19.2).bind fun q23 => some ((3 : Int32), q23))) else ((f_X6_fixes N (((q19.2.2.2.2 0) (9 : Int32).toNatClampNeg) + (1 : Int64)) (x3 - ((1000 : Int64) * x1.toInt64)) q19.2).bind fun q27 => (if q19.1 = true then ((f_X6_beginsMinute N x1 x2 (61 : Int64) q27).bind fun q32 => some ((3 : Int32), q32)) else ((f_X6_beginsMinute N x1 x2 (60 : Int64) q27).bind fun q30 => some ((3 : Int32), q30))))))) else (if (((16 : Int32) + x5) - (2 : Int32)) < 0 ∨ 48 ≤ (((16 : Int32) + x5) - (2 : Int32)).toNatClampNeg then none else (if ((16 : Int32) + x5) < 0 ∨ 48 ≤ ((16 : Int32) + x5).toNatClampNeg then none else l_X6_endsMinute_35 N x1 x2 x3 n (x5 + (-1 : Int32)) (oj u0 0 (vp_updL (u0.2.2.2 0) ((16 : Int32) + x5).toNatClampNeg ((u0.2.2.2 0) (((16 : Int32) + x5) - (2 : Int32)).toNatClampNeg))))))
def l_X6_endsMinute_11 (N : Nat) (x1 : Int32) (x2 : Int32) (x3 : Int64) : Nat → Int32 → Ob → Option (Int32 × Ob)
  | 0, _, _ => none
  | n + 1, x5, u0 => (if (59 : Int32) ≤ x5 then l_X6_endsMinute_35 N x1 x2 x3 N (15 : Int32) u0 else ((f_X6_lays N x5 (2 : Int32) u0).bind fun q36 => l_X6_endsMinute_11 N x1 x2 x3 n (x5 + (1 : Int32)) q36))
def f_X6_endsMinute (N : Nat) (x1 : Int32) (x2 : Int32) (x3 : Int64) (u0 : Ob) : Option (Int32 × Ob) := l_X6_endsMinute_11 N x1 x2 x3 N (((u0.2.2.2 0) (5 : Int32).toNatClampNeg).toInt32 + (1 : Int32)) u0
def k_X6_takesPulse_210 (N : Nat) (x1 : Int64) (x3 : Int32) (x4 : Int32) (x5 : Int64) (x7 : Int64) (x9 : Int64) (u0 : Ob) : Option (Int32 × Ob) := (if ((u0.2.2.2 0) (5 : Int32).toNatClampNeg) = (-1 : Int64) then (if x7 = (2 : Int64) then ((f_X6_beginsMinute N (0 : Int32) x4 (60 : Int64) u0).bind fun q21 => some ((3 : Int32), q21)) else some ((1 : Int32), u0)) else (if ((u0.2.2.2 0) (8 : Int32).toNatClampNeg) ≤ x9 then ((f_X6_endsMinute N (x9 - ((u0.2.2.2 0) (8 : Int32).toNatClampNeg)).toInt32 x4 x1 u0).bind fun q16 => some (q16.1, q16.2)) else ((f_X6_goesTo N x9.toInt32 x4 u0).bind fun q18 => some (q18.1, q18.2))))
def k_X6_takesPulse_148 (N : Nat) (x1 : Int64) (x3 : Int32) (x4 : Int32) (x5 : Int64) (x7 : Int64) (u0 : Ob) : Option (Int32 × Ob) := (if (10 : Int64) < x7 then ((f_X6_forgets N (oj u0 0 (vp_updL (u0.2.2.2 0) (6 : Int32).toNatClampNeg x1))).bind fun q11 => some ((4 : Int32), q11)) else (if ((vp_updL (u0.2.2.2 0) (6 : Int32).toNatClampNeg x1) (5 : Int32).toNatClampNeg) = (-1 : Int64) then k_X6_takesPulse_210 N x1 x3 x4 x5 x7 (((vp_updL (u0.2.2.2 0) (6 : Int32).toNatClampNeg x1) (5 : Int32).toNatClampNeg) + x7) (oj u0 0 (vp_updL (u0.2.2.2 0) (6 : Int32).toNatClampNeg x1)) else (if (((vp_updL (u0.2.2.2 0) (6 : Int32).toNatClampNeg x1) (5 : Int32).toNatClampNeg) + x7) = (((vp_updL (u0.2.2.2 0) (6 : Int32).toNatClampNeg x1) (8 : Int32).toNatClampNeg) - (1 : Int64)) then ((f_X6_forgets N (oj u0 0 (vp_updL (u0.2.2.2 0) (6 : Int32).toNatClampNeg x1))).bind fun q24 => some ((4 : Int32), q24)) else k_X6_takesPulse_210 N x1 x3 x4 x5 x7 (((vp_updL (u0.2.2.2 0) (6 : Int32).toNatClampNeg x1) (5 : Int32).toNatClampNeg) + x7) (oj u0 0 (vp_updL (u0.2.2.2 0) (6 : Int32).toNatClampNeg x1)))))
def k_X6_takesPulse_56 (N : Nat) (x1 : Int64) (x3 : Int32) (s0 : Int32) (u0 : Ob) : Option (Int32 × Ob) := (if ((u0.2.2.2 0) (6 : Int32).toNatClampNeg) = (-1 : Int64) then some ((1 : Int32), (oj u0 0 (vp_updL (u0.2.2.2 0) (6 : Int32).toNatClampNeg x1))) else (if (10 : Int64) < (((x1 - ((u0.2.2.2 0) (6 : Int32).toNatClampNeg)) + (500 : Int64)) / (1000 : Int64)) then k_X6_takesPulse_148 N x1 x3 s0 (x1 - ((u0.2.2.2 0) (6 : Int32).toNatClampNeg)) (((x1 - ((u0.2.2.2 0) (6 : Int32).toNatClampNeg)) + (500 : Int64)) / (1000 : Int64)) u0 else (if (((x1 - ((u0.2.2.2 0) (6 : Int32).toNatClampNeg)) + (500 : Int64)) / (1000 : Int64)) < (1 : Int64) then ((f_X6_ignores N u0).bind fun q27 => some (q27.1, q27.2)) else ((f_X6_sizeOf N ((x1 - ((u0.2.2.2 0) (6 : Int32).toNatClampNeg)) - ((1000 : Int64) * (((x1 - ((u0.2.2.2 0) (6 : Int32).toNatClampNeg)) + (500 : Int64)) / (1000 : Int64))))).bind fun q29 => (if q29 ≤ ((u0.2.2.2 0) (0 : Int32).toNatClampNeg) then k_X6_takesPulse_148 N x1 x3 s0 (x1 - ((u0.2.2.2 0) (6 : Int32).toNatClampNeg)) (((x1 - ((u0.2.2.2 0) (6 : Int32).toNatClampNeg)) + (500 : Int64)) / (1000 : Int64)) u0 else ((f_X6_ignores N u0).bind fun q32 => some (q32.1, q32.2)))))))
def f_X6_takesPulse (N : Nat) (x1 : Int64) (x3 : Int32) (u0 : Ob) : Option (Int32 × Ob) := (if (30 : Int32) ≤ x3 then ((f_X6_isIn N x3.toInt64 (60 : Int64) (140 : Int64)).bind fun q2 => (if q2 = true then k_X6_takesPulse_56 N x1 x3 (0 : Int32) (oj u0 0 (vp_updL (u0.2.2.2 0) (7 : Int32).toNatClampNeg x1)) else ((f_X6_isIn N x3.toInt64 (160 : Int64) (240 : Int64)).bind fun q5 => (if q5 = true then k_X6_takesPulse_56 N x1 x3 (1 : Int32) (oj u0 0 (vp_updL (u0.2.2.2 0) (7 : Int32).toNatClampNeg x1)) else k_X6_takesPulse_56 N x1 x3 (2 : Int32) (oj u0 0 (vp_updL (u0.2.2.2 0) (7 : Int32).toNatClampNeg x1)))))) else ((f_X6_ignores N (oj u0 0 (vp_updL (u0.2.2.2 0) (7 : Int32).toNatClampNeg x1))).bind fun q34 => some (q34.1, q34.2)))
def f_X6_readsPulse (N : Nat) (u0 : Ob) : Option Ob := ((f_X6_must N true u0).bind fun q1 => ((f_X6_takes N (((q1.2.2.2 0) (7 : Int32).toNatClampNeg) + (1 : Int64)) (2000000000 : Int64) q1).bind fun q3 => ((f_X6_takes N (0 : Int64) (9999 : Int64) q3.2).bind fun q5 => (if (q5.2.1 15) = (0 : Int32) then ((f_X6_takesPulse N q3.1.toInt64 q5.1 q5.2).bind fun q8 => some q8.2) else some q5.2))))
def f_X6_beginOfHearing (N : Nat) (u0 : Ob) : Option Int64 := (if ((u0.2.2.2 0) (6 : Int32).toNatClampNeg) = (-1 : Int64) then some (0 : Int64) else (if ((u0.2.2.2 0) (5 : Int32).toNatClampNeg) = (-1 : Int64) then some (((u0.2.2.2 0) (6 : Int32).toNatClampNeg) + (2000 : Int64)) else some (((u0.2.2.2 0) (6 : Int32).toNatClampNeg) + ((1000 : Int64) * (((u0.2.2.2 0) (8 : Int32).toNatClampNeg) - ((u0.2.2.2 0) (5 : Int32).toNatClampNeg))))))
def f_X6_canHear (N : Nat) (u0 : Ob) : Option Bool := ((f_X6_beginOfHearing N u0).bind fun q1 => (if (2000000000 : Int64) < (q1 + (58000 : Int64)) then some false else some true))
def l_X6_hears_19 (N : Nat) (x1 : Int32) (x2 : Bool) (x3 : Int64) : Nat → Int64 → Int64 → Int32 → Int32 → Ob → Option (Int32 × Ob)
  | 0, _, _, _, _, _ => none
  | n + 1, x5, x7, x9, x10, u0 => (if (59 : Int32) ≤ x10 then some (x9, u0) else ((f_X6_has N x3 x10).bind fun q6 => (if q6 = true then l_X6_hears_19 N x1 x2 x3 n x5 x7 x9 (x10 + (1 : Int32)) u0 else (if ((u0.2.2.2 0) (7 : Int32).toNatClampNeg) < (x5 + ((1000 : Int64) * x10.toInt64)) then ((f_X6_has N x7 x10).bind fun q10 => (if q10 = true then ((f_X6_takesPulse N (x5 + ((1000 : Int64) * x10.toInt64)) (200 : Int32) u0).bind fun q16 => (if q16.1 = (0 : Int32) then l_X6_hears_19 N x1 x2 x3 n x5 x7 (x9 + (0 : Int32)) (x10 + (1 : Int32)) q16.2 else l_X6_hears_19 N x1 x2 x3 n x5 x7 (x9 + (1 : Int32)) (x10 + (1 : Int32)) q16.2)) else ((f_X6_takesPulse N (x5 + ((1000 : Int64) * x10.toInt64)) (100 : Int32) u0).bind fun q13 => (if q13.1 = (0 : Int32) then l_X6_hears_19 N x1 x2 x3 n x5 x7 (x9 + (0 : Int32)) (x10 + (1 : Int32)) q13.2 else l_X6_hears_19 N x1 x2 x3 n x5 x7 (x9 + (1 : Int32)) (x10 + (1 : Int32)) q13.2)))) else l_X6_hears_19 N x1 x2 x3 n x5 x7 x9 (x10 + (1 : Int32)) u0))))
def f_X6_hears (N : Nat) (x1 : Int32) (x2 : Bool) (x3 : Int64) (u0 : Ob) : Option (Int32 × Ob) := ((f_X6_beginOfHearing N u0).bind fun q1 => ((f_X6_codeOf N x1 x2).bind fun q3 => l_X6_hears_19 N x1 x2 x3 N q1 q3 (0 : Int32) (0 : Int32) u0))
def l_X6_readsHear_45 (N : Nat) : Nat → Int32 → Bool → Int64 → Ob → Option Ob
  | 0, _, _, _, _ => none
  | n + 1, x1, x2, x3, u0 => ((f_X6_isWord N 8 u0).bind fun q11 => (if q11.1 = true then ((f_X6_must N true q11.2).bind fun q17 => ((f_X6_takes N (0 : Int64) (58 : Int64) q17).bind fun q19 => l_X6_readsHear_45 N n x1 x2 (x3 ||| (jshl (1 : Int64) q19.1)) q19.2)) else (if (q11.2.1 15) = (0 : Int32) then ((f_X6_hears N x1 x2 x3 q11.2).bind fun q15 => some q15.2) else some q11.2)))
def f_X6_readsHear (N : Nat) (u0 : Ob) : Option Ob := ((f_X6_canHear N u0).bind fun q1 => (if q1 = true then ((f_X6_must N true u0).bind fun q4 => ((f_X6_takes N (0 : Int64) (52595999 : Int64) q4).bind fun q6 => ((f_X6_isWord N 7 q6.2).bind fun q8 => (if q8.1 = true then ((f_X6_must N true q8.2).bind fun q21 => l_X6_readsHear_45 N N q6.1 q8.1 (0 : Int64) q21) else l_X6_readsHear_45 N N q6.1 q8.1 (0 : Int64) q8.2)))) else ((f_X6_fails N (-3 : Int32) u0).bind fun q23 => ((f_X6_must N true q23).bind fun q25 => ((f_X6_takes N (0 : Int64) (52595999 : Int64) q25).bind fun q27 => ((f_X6_isWord N 7 q27.2).bind fun q29 => (if q29.1 = true then ((f_X6_must N true q29.2).bind fun q32 => l_X6_readsHear_45 N N q27.1 q29.1 (0 : Int64) q32) else l_X6_readsHear_45 N N q27.1 q29.1 (0 : Int64) q29.2)))))))
def f_X6_readsStatement (N : Nat) (u0 : Ob) : Option Ob := ((f_X6_settingHere N u0).bind fun q1 => (if q1.1 = (-1 : Int32) then ((f_X6_isWord N 5 q1.2).bind fun q4 => (if q4.1 = true then ((f_X6_readsPulse N q4.2).bind fun q34 => (if (q34.1 14) = (2 : Int32) then ((f_X6_see N (q34.1 12) q34).bind fun q39 => (if q39 = (59 : Int32) then ((f_X6_must N true q34).bind fun q44 => some q44) else ((f_X6_must N false q34).bind fun q42 => some q42))) else ((f_X6_must N false q34).bind fun q37 => some q37))) else ((f_X6_isWord N 6 q4.2).bind fun q7 => (if q7.1 = true then ((f_X6_readsHear N q7.2).bind fun q22 => (if (q22.1 14) = (2 : Int32) then ((f_X6_see N (q22.1 12) q22).bind fun q27 => (if q27 = (59 : Int32) then ((f_X6_must N true q22).bind fun q32 => some q32) else ((f_X6_must N false q22).bind fun q30 => some q30))) else ((f_X6_must N false q22).bind fun q25 => some q25))) else ((f_X6_fails N (-2 : Int32) q7.2).bind fun q10 => (if (q10.1 14) = (2 : Int32) then ((f_X6_see N (q10.1 12) q10).bind fun q15 => (if q15 = (59 : Int32) then ((f_X6_must N true q10).bind fun q20 => some q20) else ((f_X6_must N false q10).bind fun q18 => some q18))) else ((f_X6_must N false q10).bind fun q13 => some q13))))))) else ((f_X6_readsSetting N q1.1 q1.2).bind fun q46 => (if (q46.1 14) = (2 : Int32) then ((f_X6_see N (q46.1 12) q46).bind fun q51 => (if q51 = (59 : Int32) then ((f_X6_must N true q46).bind fun q56 => some q56) else ((f_X6_must N false q46).bind fun q54 => some q54))) else ((f_X6_must N false q46).bind fun q49 => some q49)))))
def l_X6_becomes_2_2 (N : Nat) (x2 : Int32) : Nat → Int32 → Ob → Option Ob
  | 0, _, _ => none
  | n + 1, x3, u0 => (if (48 : Int32) ≤ x3 then some u0 else (if (x2 + x3) < 0 ∨ 48 ≤ (x2 + x3).toNatClampNeg then none else (if x3 < 0 ∨ 48 ≤ x3.toNatClampNeg then none else l_X6_becomes_2_2 N x2 n (x3 + (1 : Int32)) (oj u0 0 (vp_updL (u0.2.2.2 0) x3.toNatClampNeg ((u0.2.2.2 2) (x2 + x3).toNatClampNeg))))))
def f_X6_becomes_2 (N : Nat) (x2 : Int32) (u0 : Ob) : Option Ob := l_X6_becomes_2_2 N x2 N (0 : Int32) u0
def l_X6_load_138 (N : Nat) (x1 : Int32) : Nat → Int32 → Ob → Option (Int32 × Ob)
  | 0, _, _ => none
  | n + 1, x2, u0 => (if (48 : Int32) ≤ x2 then ((f_X6_becomes_2 N (0 : Int32) u0).bind fun q16 => (if (q16.1 15) = (0 : Int32) then ((f_X6_keeps N q16).bind fun q19 => ((f_X6_becomes_1 N (0 : Int32) q19).bind fun q21 => some (((q21.2.2.2 0) (12 : Int32).toNatClampNeg).toInt32, q21))) else some ((q16.1 15), q16))) else (if x2 < 0 ∨ 48 ≤ x2.toNatClampNeg then none else (if x2 < 0 ∨ 48 ≤ x2.toNatClampNeg then none else l_X6_load_138 N x1 n (x2 + (1 : Int32)) (oj u0 1 (vp_updL (u0.2.2.2 1) x2.toNatClampNeg ((u0.2.2.2 0) x2.toNatClampNeg))))))
def l_X6_load_95 (N : Nat) (x1 : Int32) : Nat → Int32 → Ob → Option (Int32 × Ob)
  | 0, _, _ => none
  | n + 1, x2, u0 => (if (u0.1 15) = (0 : Int32) then (if (u0.1 14) = (3 : Int32) then (if (u0.1 15) = (0 : Int32) then l_X6_load_138 N x1 N (0 : Int32) (oi u0 17 (-1 : Int32)) else l_X6_load_138 N x1 N (0 : Int32) (oi u0 17 (u0.1 16))) else ((f_X6_readsStatement N u0).bind fun q27 => l_X6_load_95 N x1 n x2 q27)) else (if (u0.1 15) = (0 : Int32) then l_X6_load_138 N x1 N (0 : Int32) (oi u0 17 (-1 : Int32)) else l_X6_load_138 N x1 N (0 : Int32) (oi u0 17 (u0.1 16))))
def l_X6_load_54 (N : Nat) (x1 : Int32) : Nat → Int32 → Ob → Option (Int32 × Ob)
  | 0, _, _ => none
  | n + 1, x2, u0 => (if (48 : Int32) ≤ x2 then ((f_X6_begins N u0).bind fun q7 => ((f_X6_becomes_1 N (0 : Int32) q7).bind fun q9 => ((f_X6_next N q9).bind fun q11 => l_X6_load_95 N x1 N x2 q11))) else (if x2 < 0 ∨ 48 ≤ x2.toNatClampNeg then none else (if x2 < 0 ∨ 48 ≤ x2.toNatClampNeg then none else l_X6_load_54 N x1 n (x2 + (1 : Int32)) (oj u0 2 (vp_updL (u0.2.2.2 2) x2.toNatClampNeg ((u0.2.2.2 0) x2.toNatClampNeg))))))
def f_X6_load (N : Nat) (x1 : Int32) (u0 : Ob) : Option (Int32 × Ob) := ((f_X6_isIn N x1.toInt64 (0 : Int64) (u0.1 10).toInt64).bind fun q1 => (if q1 = true then l_X6_load_54 N x1 N (0 : Int32) (oi (oi (oi (oi (oi u0 7 (0 : Int32)) 11 x1) 10 (0 : Int32)) 13 (0 : Int32)) 15 (0 : Int32)) else some ((0 : Int32), (oi u0 7 (1 : Int32)))))
def f_X6_errorPosition (N : Nat) (u0 : Ob) : Option (Int32 × Ob) := some ((u0.1 17), (oi u0 7 (0 : Int32)))
def f_X6_pulse (N : Nat) (x1 : Int32) (x2 : Int32) (u0 : Ob) : Option (Int32 × Ob) := ((f_X6_isIn N x1.toInt64 (0 : Int64) (2000000000 : Int64)).bind fun q1 => (if q1 = true then (if x1.toInt64 ≤ ((u0.2.2.2 0) (7 : Int32).toNatClampNeg) then some ((0 : Int32), (oi u0 7 (1 : Int32))) else ((f_X6_isIn N x2.toInt64 (0 : Int64) (9999 : Int64)).bind fun q7 => (if q7 = true then ((f_X6_keeps N (oi u0 7 (0 : Int32))).bind fun q12 => ((f_X6_takesPulse N x1.toInt64 x2 q12).bind fun q14 => some (q14.1, q14.2))) else some ((0 : Int32), (oi u0 7 (1 : Int32)))))) else some ((0 : Int32), (oi u0 7 (1 : Int32)))))
theorem kc_X6_isDigit : Cond.static yX6_isDigit ∈ lw_g ∧ Cond.initialized yX6_isDigit.cls ∈ lw_g ∧ Cond.code yX6_isDigit cX6_isDigit 1 (some .boolean) ∈ lw_g ∧ yX6_isDigit.cls ≠ "java/lang/invoke/MethodHandle" ∧ yX6_isDigit.cls ≠ "java/lang/invoke/VarHandle" ∧ (parseMethodDescriptor yX6_isDigit.desc).map (fun d => d.parameters.length) = some 1 := ⟨kq5_170, kq1_5, kq5_171, by decide +kernel, by decide +kernel, by decide +kernel⟩
theorem kc_X6_next : Cond.instanceMethod yX6_next ∈ lw_g ∧ Cond.selects yX6_next.cls yX6_next yX6_next ∈ lw_g ∧ Cond.initialized yX6_next.cls ∈ lw_g ∧ Cond.code yX6_next cX6_next 1 none ∈ lw_g ∧ yX6_next.cls ≠ "java/lang/invoke/MethodHandle" ∧ yX6_next.cls ≠ "java/lang/invoke/VarHandle" ∧ (parseMethodDescriptor yX6_next.desc).map (fun d => d.parameters.length) = some 0 := ⟨kq5_158, kqp_28, kq1_5, kq5_159, by decide +kernel, by decide +kernel, by decide +kernel⟩
theorem kc_X6_isWord : Cond.instanceMethod yX6_isWord ∈ lw_g ∧ Cond.selects yX6_isWord.cls yX6_isWord yX6_isWord ∈ lw_g ∧ Cond.initialized yX6_isWord.cls ∈ lw_g ∧ Cond.code yX6_isWord cX6_isWord 3 (some .boolean) ∈ lw_g ∧ yX6_isWord.cls ≠ "java/lang/invoke/MethodHandle" ∧ yX6_isWord.cls ≠ "java/lang/invoke/VarHandle" ∧ (parseMethodDescriptor yX6_isWord.desc).map (fun d => d.parameters.length) = some 1 := ⟨kq5_187, kqp_32, kq1_5, kq5_188, by decide +kernel, by decide +kernel, by decide +kernel⟩
theorem kc_X6_fails : Cond.instanceMethod yX6_fails ∈ lw_g ∧ Cond.selects yX6_fails.cls yX6_fails yX6_fails ∈ lw_g ∧ Cond.initialized yX6_fails.cls ∈ lw_g ∧ Cond.code yX6_fails cX6_fails 2 none ∈ lw_g ∧ yX6_fails.cls ≠ "java/lang/invoke/MethodHandle" ∧ yX6_fails.cls ≠ "java/lang/invoke/VarHandle" ∧ (parseMethodDescriptor yX6_fails.desc).map (fun d => d.parameters.length) = some 1 := ⟨kq5_205, kqp_35, kq1_5, kq5_206, by decide +kernel, by decide +kernel, by decide +kernel⟩
theorem kc_X6_must : Cond.instanceMethod yX6_must ∈ lw_g ∧ Cond.selects yX6_must.cls yX6_must yX6_must ∈ lw_g ∧ Cond.initialized yX6_must.cls ∈ lw_g ∧ Cond.code yX6_must cX6_must 2 none ∈ lw_g ∧ yX6_must.cls ≠ "java/lang/invoke/MethodHandle" ∧ yX6_must.cls ≠ "java/lang/invoke/VarHandle" ∧ (parseMethodDescriptor yX6_must.desc).map (fun d => d.parameters.length) = some 1 := ⟨kq5_201, kqp_34, kq1_5, kq5_202, by decide +kernel, by decide +kernel, by decide +kernel⟩
theorem kc_X6_takes : Cond.instanceMethod yX6_takes ∈ lw_g ∧ Cond.selects yX6_takes.cls yX6_takes yX6_takes ∈ lw_g ∧ Cond.initialized yX6_takes.cls ∈ lw_g ∧ Cond.code yX6_takes cX6_takes 6 (some .int) ∈ lw_g ∧ yX6_takes.cls ≠ "java/lang/invoke/MethodHandle" ∧ yX6_takes.cls ≠ "java/lang/invoke/VarHandle" ∧ (parseMethodDescriptor yX6_takes.desc).map (fun d => d.parameters.length) = some 2 := ⟨kq5_215, kqp_36, kq1_5, kq5_216, by decide +kernel, by decide +kernel, by decide +kernel⟩
theorem kc_X6_least : Cond.static yX6_least ∈ lw_g ∧ Cond.initialized yX6_least.cls ∈ lw_g ∧ Cond.code yX6_least cX6_least 1 (some .int) ∈ lw_g ∧ yX6_least.cls ≠ "java/lang/invoke/MethodHandle" ∧ yX6_least.cls ≠ "java/lang/invoke/VarHandle" ∧ (parseMethodDescriptor yX6_least.desc).map (fun d => d.parameters.length) = some 1 := ⟨kq5_208, kq1_5, kq5_209, by decide +kernel, by decide +kernel, by decide +kernel⟩
theorem kc_X6_most : Cond.static yX6_most ∈ lw_g ∧ Cond.initialized yX6_most.cls ∈ lw_g ∧ Cond.code yX6_most cX6_most 1 (some .int) ∈ lw_g ∧ yX6_most.cls ≠ "java/lang/invoke/MethodHandle" ∧ yX6_most.cls ≠ "java/lang/invoke/VarHandle" ∧ (parseMethodDescriptor yX6_most.desc).map (fun d => d.parameters.length) = some 1 := ⟨kq5_211, kq1_5, kq5_212, by decide +kernel, by decide +kernel, by decide +kernel⟩
theorem kc_X6_settingHere : Cond.instanceMethod yX6_settingHere ∈ lw_g ∧ Cond.selects yX6_settingHere.cls yX6_settingHere yX6_settingHere ∈ lw_g ∧ Cond.initialized yX6_settingHere.cls ∈ lw_g ∧ Cond.code yX6_settingHere cX6_settingHere 1 (some .int) ∈ lw_g ∧ yX6_settingHere.cls ≠ "java/lang/invoke/MethodHandle" ∧ yX6_settingHere.cls ≠ "java/lang/invoke/VarHandle" ∧ (parseMethodDescriptor yX6_settingHere.desc).map (fun d => d.parameters.length) = some 0 := ⟨kq5_182, kqp_31, kq1_5, kq5_183, by decide +kernel, by decide +kernel, by decide +kernel⟩
theorem kc_X6_sets : Cond.instanceMethod yX6_sets ∈ lw_g ∧ Cond.selects yX6_sets.cls yX6_sets yX6_sets ∈ lw_g ∧ Cond.initialized yX6_sets.cls ∈ lw_g ∧ Cond.code yX6_sets cX6_sets 4 (some .int) ∈ lw_g ∧ yX6_sets.cls ≠ "java/lang/invoke/MethodHandle" ∧ yX6_sets.cls ≠ "java/lang/invoke/VarHandle" ∧ (parseMethodDescriptor yX6_sets.desc).map (fun d => d.parameters.length) = some 2 := ⟨kq5_219, kqp_37, kq1_5, kq5_220, by decide +kernel, by decide +kernel, by decide +kernel⟩
theorem kc_X6_readsSetting : Cond.instanceMethod yX6_readsSetting ∈ lw_g ∧ Cond.selects yX6_readsSetting.cls yX6_readsSetting yX6_readsSetting ∈ lw_g ∧ Cond.initialized yX6_readsSetting.cls ∈ lw_g ∧ Cond.code yX6_readsSetting cX6_readsSetting 4 none ∈ lw_g ∧ yX6_readsSetting.cls ≠ "java/lang/invoke/MethodHandle" ∧ yX6_readsSetting.cls ≠ "java/lang/invoke/VarHandle" ∧ (parseMethodDescriptor yX6_readsSetting.desc).map (fun d => d.parameters.length) = some 1 := ⟨kq5_197, kqp_33, kq1_5, kq5_198, by decide +kernel, by decide +kernel, by decide +kernel⟩
theorem kc_X6_ignores : Cond.instanceMethod yX6_ignores ∈ lw_g ∧ Cond.selects yX6_ignores.cls yX6_ignores yX6_ignores ∈ lw_g ∧ Cond.initialized yX6_ignores.cls ∈ lw_g ∧ Cond.code yX6_ignores cX6_ignores 1 (some .int) ∈ lw_g ∧ yX6_ignores.cls ≠ "java/lang/invoke/MethodHandle" ∧ yX6_ignores.cls ≠ "java/lang/invoke/VarHandle" ∧ (parseMethodDescriptor yX6_ignores.desc).map (fun d => d.parameters.length) = some 0 := ⟨kq5_234, kqp_40, kq1_5, kq5_235, by decide +kernel, by decide +kernel, by decide +kernel⟩
theorem kc_X6_forgets : Cond.instanceMethod yX6_forgets ∈ lw_g ∧ Cond.selects yX6_forgets.cls yX6_forgets yX6_forgets ∈ lw_g ∧ Cond.initialized yX6_forgets.cls ∈ lw_g ∧ Cond.code yX6_forgets cX6_forgets 1 none ∈ lw_g ∧ yX6_forgets.cls ≠ "java/lang/invoke/MethodHandle" ∧ yX6_forgets.cls ≠ "java/lang/invoke/VarHandle" ∧ (parseMethodDescriptor yX6_forgets.desc).map (fun d => d.parameters.length) = some 0 := ⟨kq6_7, kqp_41, kq1_5, kq6_8, by decide +kernel, by decide +kernel, by decide +kernel⟩
theorem kc_X6_lays : Cond.instanceMethod yX6_lays ∈ lw_g ∧ Cond.selects yX6_lays.cls yX6_lays yX6_lays ∈ lw_g ∧ Cond.initialized yX6_lays.cls ∈ lw_g ∧ Cond.code yX6_lays cX6_lays 3 none ∈ lw_g ∧ yX6_lays.cls ≠ "java/lang/invoke/MethodHandle" ∧ yX6_lays.cls ≠ "java/lang/invoke/VarHandle" ∧ (parseMethodDescriptor yX6_lays.desc).map (fun d => d.parameters.length) = some 2 := ⟨kq6_16, kqp_43, kq1_5, kq6_17, by decide +kernel, by decide +kernel, by decide +kernel⟩
theorem kc_X6_beginsMinute : Cond.instanceMethod yX6_beginsMinute ∈ lw_g ∧ Cond.selects yX6_beginsMinute.cls yX6_beginsMinute yX6_beginsMinute ∈ lw_g ∧ Cond.initialized yX6_beginsMinute.cls ∈ lw_g ∧ Cond.code yX6_beginsMinute cX6_beginsMinute 6 none ∈ lw_g ∧ yX6_beginsMinute.cls ≠ "java/lang/invoke/MethodHandle" ∧ yX6_beginsMinute.cls ≠ "java/lang/invoke/VarHandle" ∧ (parseMethodDescriptor yX6_beginsMinute.desc).map (fun d => d.parameters.length) = some 3 := ⟨kq6_12, kqp_42, kq1_5, kq6_13, by decide +kernel, by decide +kernel, by decide +kernel⟩
theorem kc_X6_goesTo : Cond.instanceMethod yX6_goesTo ∈ lw_g ∧ Cond.selects yX6_goesTo.cls yX6_goesTo yX6_goesTo ∈ lw_g ∧ Cond.initialized yX6_goesTo.cls ∈ lw_g ∧ Cond.code yX6_goesTo cX6_goesTo 5 (some .int) ∈ lw_g ∧ yX6_goesTo.cls ≠ "java/lang/invoke/MethodHandle" ∧ yX6_goesTo.cls ≠ "java/lang/invoke/VarHandle" ∧ (parseMethodDescriptor yX6_goesTo.desc).map (fun d => d.parameters.length) = some 2 := ⟨kq6_20, kqp_44, kq1_5, kq6_21, by decide +kernel, by decide +kernel, by decide +kernel⟩
theorem kc_X6_madeBy : Cond.static yX6_madeBy ∈ lw_g ∧ Cond.initialized yX6_madeBy.cls ∈ lw_g ∧ Cond.code yX6_madeBy cX6_madeBy 9 (some .long) ∈ lw_g ∧ yX6_madeBy.cls ≠ "java/lang/invoke/MethodHandle" ∧ yX6_madeBy.cls ≠ "java/lang/invoke/VarHandle" ∧ (parseMethodDescriptor yX6_madeBy.desc).map (fun d => d.parameters.length) = some 3 := ⟨kq6_53, kq1_5, kq6_54, by decide +kernel, by decide +kernel, by decide +kernel⟩
theorem kc_X6_tells : Cond.instanceMethod yX6_tells ∈ lw_g ∧ Cond.selects yX6_tells.cls yX6_tells yX6_tells ∈ lw_g ∧ Cond.initialized yX6_tells.cls ∈ lw_g ∧ Cond.code yX6_tells cX6_tells 11 (some .int) ∈ lw_g ∧ yX6_tells.cls ≠ "java/lang/invoke/MethodHandle" ∧ yX6_tells.cls ≠ "java/lang/invoke/VarHandle" ∧ (parseMethodDescriptor yX6_tells.desc).map (fun d => d.parameters.length) = some 1 := ⟨kq6_36, kqp_48, kq1_5, kq6_37, by decide +kernel, by decide +kernel, by decide +kernel⟩
theorem kc_X6_votesFor : Cond.instanceMethod yX6_votesFor ∈ lw_g ∧ Cond.selects yX6_votesFor.cls yX6_votesFor yX6_votesFor ∈ lw_g ∧ Cond.initialized yX6_votesFor.cls ∈ lw_g ∧ Cond.code yX6_votesFor cX6_votesFor 3 (some .int) ∈ lw_g ∧ yX6_votesFor.cls ≠ "java/lang/invoke/MethodHandle" ∧ yX6_votesFor.cls ≠ "java/lang/invoke/VarHandle" ∧ (parseMethodDescriptor yX6_votesFor.desc).map (fun d => d.parameters.length) = some 1 := ⟨kq6_32, kqp_47, kq1_5, kq6_33, by decide +kernel, by decide +kernel, by decide +kernel⟩
theorem kc_X6_votesNow : Cond.instanceMethod yX6_votesNow ∈ lw_g ∧ Cond.selects yX6_votesNow.cls yX6_votesNow yX6_votesNow ∈ lw_g ∧ Cond.initialized yX6_votesNow.cls ∈ lw_g ∧ Cond.code yX6_votesNow cX6_votesNow 5 (some .int) ∈ lw_g ∧ yX6_votesNow.cls ≠ "java/lang/invoke/MethodHandle" ∧ yX6_votesNow.cls ≠ "java/lang/invoke/VarHandle" ∧ (parseMethodDescriptor yX6_votesNow.desc).map (fun d => d.parameters.length) = some 1 := ⟨kq6_57, kqp_50, kq1_5, kq6_58, by decide +kernel, by decide +kernel, by decide +kernel⟩
theorem kc_X6_countsVotes : Cond.instanceMethod yX6_countsVotes ∈ lw_g ∧ Cond.selects yX6_countsVotes.cls yX6_countsVotes yX6_countsVotes ∈ lw_g ∧ Cond.initialized yX6_countsVotes.cls ∈ lw_g ∧ Cond.code yX6_countsVotes cX6_countsVotes 5 (some .boolean) ∈ lw_g ∧ yX6_countsVotes.cls ≠ "java/lang/invoke/MethodHandle" ∧ yX6_countsVotes.cls ≠ "java/lang/invoke/VarHandle" ∧ (parseMethodDescriptor yX6_countsVotes.desc).map (fun d => d.parameters.length) = some 0 := ⟨kq6_28, kqp_46, kq1_5, kq6_29, by decide +kernel, by decide +kernel, by decide +kernel⟩
theorem kc_X6_fixes : Cond.instanceMethod yX6_fixes ∈ lw_g ∧ Cond.selects yX6_fixes.cls yX6_fixes yX6_fixes ∈ lw_g ∧ Cond.initialized yX6_fixes.cls ∈ lw_g ∧ Cond.code yX6_fixes cX6_fixes 6 none ∈ lw_g ∧ yX6_fixes.cls ≠ "java/lang/invoke/MethodHandle" ∧ yX6_fixes.cls ≠ "java/lang/invoke/VarHandle" ∧ (parseMethodDescriptor yX6_fixes.desc).map (fun d => d.parameters.length) = some 2 := ⟨kq6_61, kqp_51, kq1_5, kq6_62, by decide +kernel, by decide +kernel, by decide +kernel⟩
theorem kc_X6_endsMinute : Cond.instanceMethod yX6_endsMinute ∈ lw_g ∧ Cond.selects yX6_endsMinute.cls yX6_endsMinute yX6_endsMinute ∈ lw_g ∧ Cond.initialized yX6_endsMinute.cls ∈ lw_g ∧ Cond.code yX6_endsMinute cX6_endsMinute 6 (some .int) ∈ lw_g ∧ yX6_endsMinute.cls ≠ "java/lang/invoke/MethodHandle" ∧ yX6_endsMinute.cls ≠ "java/lang/invoke/VarHandle" ∧ (parseMethodDescriptor yX6_endsMinute.desc).map (fun d => d.parameters.length) = some 3 := ⟨kq6_24, kqp_45, kq1_5, kq6_25, by decide +kernel, by decide +kernel, by decide +kernel⟩
theorem kc_X6_takesPulse : Cond.instanceMethod yX6_takesPulse ∈ lw_g ∧ Cond.selects yX6_takesPulse.cls yX6_takesPulse yX6_takesPulse ∈ lw_g ∧ Cond.initialized yX6_takesPulse.cls ∈ lw_g ∧ Cond.code yX6_takesPulse cX6_takesPulse 11 (some .int) ∈ lw_g ∧ yX6_takesPulse.cls ≠ "java/lang/invoke/MethodHandle" ∧ yX6_takesPulse.cls ≠ "java/lang/invoke/VarHandle" ∧ (parseMethodDescriptor yX6_takesPulse.desc).map (fun d => d.parameters.length) = some 2 := ⟨kq5_230, kqp_39, kq1_5, kq5_231, by decide +kernel, by decide +kernel, by decide +kernel⟩
theorem kc_X6_readsPulse : Cond.instanceMethod yX6_readsPulse ∈ lw_g ∧ Cond.selects yX6_readsPulse.cls yX6_readsPulse yX6_readsPulse ∈ lw_g ∧ Cond.initialized yX6_readsPulse.cls ∈ lw_g ∧ Cond.code yX6_readsPulse cX6_readsPulse 3 none ∈ lw_g ∧ yX6_readsPulse.cls ≠ "java/lang/invoke/MethodHandle" ∧ yX6_readsPulse.cls ≠ "java/lang/invoke/VarHandle" ∧ (parseMethodDescriptor yX6_readsPulse.desc).map (fun d => d.parameters.length) = some 0 := ⟨kq5_224, kqp_38, kq1_5, kq5_225, by decide +kernel, by decide +kernel, by decide +kernel⟩
theorem kc_X6_beginOfHearing : Cond.instanceMethod yX6_beginOfHearing ∈ lw_g ∧ Cond.selects yX6_beginOfHearing.cls yX6_beginOfHearing yX6_beginOfHearing ∈ lw_g ∧ Cond.initialized yX6_beginOfHearing.cls ∈ lw_g ∧ Cond.code yX6_beginOfHearing cX6_beginOfHearing 1 (some .long) ∈ lw_g ∧ yX6_beginOfHearing.cls ≠ "java/lang/invoke/MethodHandle" ∧ yX6_beginOfHearing.cls ≠ "java/lang/invoke/VarHandle" ∧ (parseMethodDescriptor yX6_beginOfHearing.desc).map (fun d => d.parameters.length) = some 0 := ⟨kq6_76, kqp_54, kq1_5, kq6_77, by decide +kernel, by decide +kernel, by decide +kernel⟩
theorem kc_X6_canHear : Cond.instanceMethod yX6_canHear ∈ lw_g ∧ Cond.selects yX6_canHear.cls yX6_canHear yX6_canHear ∈ lw_g ∧ Cond.initialized yX6_canHear.cls ∈ lw_g ∧ Cond.code yX6_canHear cX6_canHear 1 (some .boolean) ∈ lw_g ∧ yX6_canHear.cls ≠ "java/lang/invoke/MethodHandle" ∧ yX6_canHear.cls ≠ "java/lang/invoke/VarHandle" ∧ (parseMethodDescriptor yX6_canHear.desc).map (fun d => d.parameters.length) = some 0 := ⟨kq6_72, kqp_53, kq1_5, kq6_73, by decide +kernel, by decide +kernel, by decide +kernel⟩
theorem kc_X6_hears : Cond.instanceMethod yX6_hears ∈ lw_g ∧ Cond.selects yX6_hears.cls yX6_hears yX6_hears ∈ lw_g ∧ Cond.initialized yX6_hears.cls ∈ lw_g ∧ Cond.code yX6_hears cX6_hears 11 (some .int) ∈ lw_g ∧ yX6_hears.cls ≠ "java/lang/invoke/MethodHandle" ∧ yX6_hears.cls ≠ "java/lang/invoke/VarHandle" ∧ (parseMethodDescriptor yX6_hears.desc).map (fun d => d.parameters.length) = some 3 := ⟨kq6_84, kqp_55, kq1_5, kq6_85, by decide +kernel, by decide +kernel, by decide +kernel⟩
theorem kc_X6_readsHear : Cond.instanceMethod yX6_readsHear ∈ lw_g ∧ Cond.selects yX6_readsHear.cls yX6_readsHear yX6_readsHear ∈ lw_g ∧ Cond.initialized yX6_readsHear.cls ∈ lw_g ∧ Cond.code yX6_readsHear cX6_readsHear 5 none ∈ lw_g ∧ yX6_readsHear.cls ≠ "java/lang/invoke/MethodHandle" ∧ yX6_readsHear.cls ≠ "java/lang/invoke/VarHandle" ∧ (parseMethodDescriptor yX6_readsHear.desc).map (fun d => d.parameters.length) = some 0 := ⟨kq6_68, kqp_52, kq1_5, kq6_69, by decide +kernel, by decide +kernel, by decide +kernel⟩
theorem kc_X6_readsStatement : Cond.instanceMethod yX6_readsStatement ∈ lw_g ∧ Cond.selects yX6_readsStatement.cls yX6_readsStatement yX6_readsStatement ∈ lw_g ∧ Cond.initialized yX6_readsStatement.cls ∈ lw_g ∧ Cond.code yX6_readsStatement cX6_readsStatement 2 none ∈ lw_g ∧ yX6_readsStatement.cls ≠ "java/lang/invoke/MethodHandle" ∧ yX6_readsStatement.cls ≠ "java/lang/invoke/VarHandle" ∧ (parseMethodDescriptor yX6_readsStatement.desc).map (fun d => d.parameters.length) = some 0 := ⟨kq5_178, kqp_30, kq1_5, kq5_179, by decide +kernel, by decide +kernel, by decide +kernel⟩
theorem kc_X6_becomes_2 : Cond.instanceMethod yX6_becomes ∈ lw_g ∧ Cond.selects yX6_becomes.cls yX6_becomes yX6_becomes ∈ lw_g ∧ Cond.initialized yX6_becomes.cls ∈ lw_g ∧ Cond.code yX6_becomes cX6_becomes 4 none ∈ lw_g ∧ yX6_becomes.cls ≠ "java/lang/invoke/MethodHandle" ∧ yX6_becomes.cls ≠ "java/lang/invoke/VarHandle" ∧ (parseMethodDescriptor yX6_becomes.desc).map (fun d => d.parameters.length) = some 2 := ⟨kq5_3, kqp_26, kq1_5, kq5_4, by decide +kernel, by decide +kernel, by decide +kernel⟩
theorem kc_X6_load : Cond.instanceMethod yX6_load ∈ lw_g ∧ Cond.selects yX6_load.cls yX6_load yX6_load ∈ lw_g ∧ Cond.initialized yX6_load.cls ∈ lw_g ∧ Cond.code yX6_load cX6_load 3 (some .int) ∈ lw_g ∧ yX6_load.cls ≠ "java/lang/invoke/MethodHandle" ∧ yX6_load.cls ≠ "java/lang/invoke/VarHandle" ∧ (parseMethodDescriptor yX6_load.desc).map (fun d => d.parameters.length) = some 1 := ⟨kq5_153, kq5_154, kq1_5, kq5_155, by decide +kernel, by decide +kernel, by decide +kernel⟩
theorem kc_X6_errorPosition : Cond.instanceMethod yX6_errorPosition ∈ lw_g ∧ Cond.selects yX6_errorPosition.cls yX6_errorPosition yX6_errorPosition ∈ lw_g ∧ Cond.initialized yX6_errorPosition.cls ∈ lw_g ∧ Cond.code yX6_errorPosition cX6_errorPosition 1 (some .int) ∈ lw_g ∧ yX6_errorPosition.cls ≠ "java/lang/invoke/MethodHandle" ∧ yX6_errorPosition.cls ≠ "java/lang/invoke/VarHandle" ∧ (parseMethodDescriptor yX6_errorPosition.desc).map (fun d => d.parameters.length) = some 0 := ⟨kq6_87, kq6_88, kq1_5, kq6_89, by decide +kernel, by decide +kernel, by decide +kernel⟩
theorem kc_X6_pulse : Cond.instanceMethod yX6_pulse ∈ lw_g ∧ Cond.selects yX6_pulse.cls yX6_pulse yX6_pulse ∈ lw_g ∧ Cond.initialized yX6_pulse.cls ∈ lw_g ∧ Cond.code yX6_pulse cX6_pulse 3 (some .int) ∈ lw_g ∧ yX6_pulse.cls ≠ "java/lang/invoke/MethodHandle" ∧ yX6_pulse.cls ≠ "java/lang/invoke/VarHandle" ∧ (parseMethodDescriptor yX6_pulse.desc).map (fun d => d.parameters.length) = some 2 := ⟨kq6_91, kq6_92, kq1_5, kq6_93, by decide +kernel, by decide +kernel, by decide +kernel⟩
set_option maxRecDepth 100000 in
set_option maxHeartbeats 4000000 in
theorem c_X6_isDigit {l : Launch} {G : Gp} {sz N : Nat} {x0 : Int32} {q : Bool} (hf : f_X6_isDigit N x0 = some q) : Met l yX6_isDigit (Cond.code yX6_isDigit cX6_isDigit 1 (some .boolean) :: lw_g) ({ frames := 1, cells := 0, slots := 0, locals := 25 } : Room) (va_Pc [.int x0] (pw G [] sz)) (va_Qi (fun (r : Int32) (v : Unit) => bI q = r ∧ () = v) (bw G (fun _ : Unit => ([] : va_W)) (va_A [] sz)) (va_A [] sz)) 0 0 (va_A [] sz) := by
  refine mt (Qc := (fun A => va_Qi (fun (r : Int32) (v : Unit) => bI q = r ∧ () = v) (bw G (fun _ : Unit => ([] : va_W)) A) A)) (by decide) (Nat.le_of_ble_eq_true rfl) ?_
  intro p e s m below meth c A ls hx hb hr hlk hml hts hown hA hP hK hD hE hS hl
  have hown : s.vm.findClass RX6 = some m.cls := hown
  have hg : ∀ w ∈ lw_g, w.before ([.int x0] : List Value).toArray s = true := fun w h => hts w (List.mem_cons_of_mem _ h)
  have hC : CallFix p m c cX6_isDigit 1 s ([.int x0] : List Value).toArray (Cond.code yX6_isDigit cX6_isDigit 1 (some .boolean) :: lw_g) RX6 := ⟨hx, hb, hml, hown, hts⟩
  have hl : lv_has ls 1 [(0, .int x0)] := hl
  rw [f_X6_isDigit] at hf
  refine lv_iload_n hx hb dX6_isDigit_0 rfl (lv_at hl 0 rfl) ?_
  refine lv_i2l (v := x0.toInt64) hx hb dX6_isDigit_1 rfl ?_
  refine lv_ldc2 hx hb hown (hg _ kq5_172) dX6_isDigit_2 ?_
  refine lv_ldc2 hx hb hown (hg _ kq5_173) dX6_isDigit_5 ?_
  obtain ⟨q1, e2, hf⟩ := tbd hf
  refine kSi0 (As := [.long x0.toInt64, .long (48 : Int64), .long (57 : Int64)]) (rest := []) hC (c_X6_isIn (G := G) e2) kq5_84 kc_X6_isIn (by decide) hP hK hD hE hS hA hl.1 (Nat.le_of_ble_eq_true rfl) ⟨Nat.zero_le _, Nat.zero_le _⟩ dX6_isDigit_8 (fun r9 u9 H locs hw hP hD hS => ?_)
  obtain ⟨rfl, rfl⟩ := hw
  have hf := Option.some.inj hf
  subst hf
  exact e_z (wf := (fun _ : Unit => ([] : va_W))) hx hb hr hlk () (bI_nar _) ⟨rfl, rfl⟩ hP hK hD hS dX6_isDigit_11
set_option maxRecDepth 100000 in
set_option maxHeartbeats 4000000 in
theorem c_X6_next {l : Launch} {G : Gp} {sz N : Nat} {h0 : Nat} {a0 : Nat → Nat} {u0 : Ob} {q : Ob} (hf : f_X6_next N u0 = some q) : Met l yX6_next (Cond.code yX6_next cX6_next 1 none :: lw_g) ({ frames := 2, cells := 0, slots := 0, locals := 45 } : Room) (va_Pc [.ref h0] (pw G (wX6 G h0 a0 u0) sz)) (va_Qv (fun v : Ob => q = v) (bw G (fun v : Ob => (wX6 G h0 a0 v)) (va_A (wX6 G h0 a0 u0) sz)) (va_A (wX6 G h0 a0 u0) sz)) 0 0 (va_A (wX6 G h0 a0 u0) sz) := by
  refine mt (Qc := (fun A => va_Qv (fun v : Ob => q = v) (bw G (fun v : Ob => (wX6 G h0 a0 v)) A) A)) (by decide) (Nat.le_of_ble_eq_true rfl) ?_
  intro p e s m below meth c A ls hx hb hr hlk hml hts hown hA hP hK hD hE hS hl
  have hown : s.vm.findClass RX6 = some m.cls := hown
  have hg : ∀ w ∈ lw_g, w.before ([.ref h0] : List Value).toArray s = true := fun w h => hts w (List.mem_cons_of_mem _ h)
  have hC : CallFix p m c cX6_next 1 s ([.ref h0] : List Value).toArray (Cond.code yX6_next cX6_next 1 none :: lw_g) RX6 := ⟨hx, hb, hml, hown, hts⟩
  have hl : lv_has ls 1 [(0, .ref h0)] := hl
  have lp_129 : ∀ (n : Nat) (u0 : Ob), l_X6_next_129 N n u0 = some q → ∀ (H : Heap) (locs : List Loc) (ls : Array Slot), va_P (gD G) vwCl (wX6 G h0 a0 u0) H → va_D A (wX6 G h0 a0 u0) → va_S A s.heap H locs → lv_has ls 1 [(0, .ref h0)] → W p l e ({ frames := 2, cells := 0, slots := 0, locals := 45 } : Room) s m ([.ref h0] : List Value).toArray below meth c H locs 0 0 (MQ below (va_Qv (fun v : Ob => q = v) (bw G (fun v : Ob => (wX6 G h0 a0 v)) A) A) ([.ref h0] : List Value).toArray s 0 0 A) (F0 m 129 ls []) := by
    intro n
    induction n with
    | zero => intro u0 hf; rw [l_X6_next_129] at hf; cases hf
    | succ n ih =>
      intro u0 hf H locs ls hP hD hS hl
      rw [l_X6_next_129] at hf
      refine lv_aload_n hx hb dX6_next_129 rfl (lv_at hl 0 rfl) ?_
      refine lv_aload_n hx hb dX6_next_130 rfl (lv_at hl 0 rfl) ?_
      refine va_get (D := gD G) (ci := 4) (v := .int (u0.1 13)) (C := RX6) (T := TX6) (N := 22) hx hb hg kl_X6 hown hK hP 0 rfl rfl 13 (by decide) (hg _ kq5_18) (fun _ h9 => h9) rfl dX6_next_131 ?_
      obtain ⟨q15, e16, hf⟩ := tbd hf
      refine kVi1 (As := [.int (u0.1 13)]) (rest := []) hC (c_X6_see (G := G) e16) kq5_160 kc_X6_see (by decide) 0 (ci := 4) rfl rfl hP hK hD hE hS hA hl.1 (Nat.le_of_ble_eq_true rfl) ⟨Nat.zero_le _, Nat.zero_le _⟩ dX6_next_134 (fun r9 u9 H locs hw hP hD hS => ?_)
      obtain ⟨rfl, rfl⟩ := hw
      have hP : va_P (gD G) vwCl (wX6 G h0 a0 u0) H := hP
      have hD : va_D A (wX6 G h0 a0 u0) := hD
      obtain ⟨q17, e18, hf⟩ := tbd hf
      refine kSi0 (As := [.int q15]) (rest := []) hC (c_X6_isDigit (G := G) e18) kq5_169 kc_X6_isDigit (by decide) hP hK hD hE hS hA hl.1 (Nat.le_of_ble_eq_true rfl) ⟨Nat.zero_le _, Nat.zero_le _⟩ dX6_next_137 (fun r9 u9 H locs hw hP hD hS => ?_)
      obtain ⟨rfl, rfl⟩ := hw
      refine bz_eq (tgt := 193) hx hb dX6_next_140 (by decide) (fun c19 => ?_) (fun c19 => ?_)
      · have hf := tn hf c19
        refine lv_aload_n hx hb dX6_next_193 rfl (lv_at hl 0 rfl) ?_
        refine lv_iconst (v := (1 : Int32)) hx hb dX6_next_194 (by decide) ?_
        refine va_put (D := gD G) (ci := 4) (v := .int (1 : Int32)) (ty := .int) (C := RX6) (T := TX6) (N := 22) hx hb hg kl_X6 tyX6 tyX6_ok nmX6 hown hK hP hD hS 0 rfl rfl 14 (by decide) (hg _ kq5_19) (fun _ h9 => h9) rfl (by decide +kernel) rfl rfl (Nat.le_of_ble_eq_true rfl) dX6_next_195 (fun H locs hP hD hS => ?_)
        have hP : va_P (gD G) vwCl (wX6 G h0 a0 (oi u0 14 (1 : Int32))) H := hP
        have hD : va_D A (wX6 G h0 a0 (oi u0 14 (1 : Int32))) := hD
        refine lv_goto (tgt := 216) hx hb dX6_next_198 (by decide) ?_
        have hf := Option.some.inj hf
        subst hf
        exact e_v (wf := (fun v : Ob => (wX6 G h0 a0 v))) hx hb hr hlk (oi u0 14 (1 : Int32)) rfl hP hK hD hS dX6_next_216
      · have hf := tp hf c19
        refine lv_aload_n hx hb dX6_next_143 rfl (lv_at hl 0 rfl) ?_
        refine va_get (D := gD G) (ci := 4) (v := .long (u0.2.1 18)) (C := RX6) (T := TX6) (N := 22) hx hb hg kl_X6 hown hK hP 0 rfl rfl 18 (by decide) (hg _ kq5_23) (fun _ h9 => h9) rfl dX6_next_144 ?_
        refine lv_ldc2 hx hb hown (hg _ kq5_174) dX6_next_147 ?_
        refine lc_ge (tgt := 180) hx hb dX6_next_150 dX6_next_151 (by decide) (fun c20 => ?_) (fun c20 => ?_)
        · have hf := tp hf c20
          refine lv_aload_n hx hb dX6_next_180 rfl (lv_at hl 0 rfl) ?_
          refine lv_dup hx hb dX6_next_181 rfl ?_
          refine va_get (D := gD G) (ci := 4) (v := .int (u0.1 13)) (C := RX6) (T := TX6) (N := 22) hx hb hg kl_X6 hown hK hP 0 rfl rfl 13 (by decide) (hg _ kq5_18) (fun _ h9 => h9) rfl dX6_next_182 ?_
          refine lv_iconst (v := (1 : Int32)) hx hb dX6_next_185 (by decide) ?_
          refine lv_iadd hx hb dX6_next_186 ?_
          refine va_put (D := gD G) (ci := 4) (v := .int ((u0.1 13) + (1 : Int32))) (ty := .int) (C := RX6) (T := TX6) (N := 22) hx hb hg kl_X6 tyX6 tyX6_ok nmX6 hown hK hP hD hS 0 rfl rfl 13 (by decide) (hg _ kq5_18) (fun _ h9 => h9) rfl (by decide +kernel) rfl rfl (Nat.le_of_ble_eq_true rfl) dX6_next_187 (fun H locs hP hD hS => ?_)
          have hP : va_P (gD G) vwCl (wX6 G h0 a0 (oi u0 13 ((u0.1 13) + (1 : Int32)))) H := hP
          have hD : va_D A (wX6 G h0 a0 (oi u0 13 ((u0.1 13) + (1 : Int32)))) := hD
          refine lv_goto (tgt := 129) hx hb dX6_next_190 (by decide) ?_
          exact ih _ hf _ _ _ hP hD hS (lv_sub hl [0] rfl)
        · have hf := tn hf c20
          refine lv_aload_n hx hb dX6_next_154 rfl (lv_at hl 0 rfl) ?_
          refine lv_ldc2 hx hb hown (hg _ kq5_175) dX6_next_155 ?_
          refine lv_aload_n hx hb dX6_next_158 rfl (lv_at hl 0 rfl) ?_
          refine va_get (D := gD G) (ci := 4) (v := .long (u0.2.1 18)) (C := RX6) (T := TX6) (N := 22) hx hb hg kl_X6 hown hK hP 0 rfl rfl 18 (by decide) (hg _ kq5_23) (fun _ h9 => h9) rfl dX6_next_159 ?_
          refine lv_lmul hx hb dX6_next_162 ?_
          refine lv_aload_n hx hb dX6_next_163 rfl (lv_at hl 0 rfl) ?_
          refine lv_aload_n hx hb dX6_next_164 rfl (lv_at hl 0 rfl) ?_
          refine va_get (D := gD G) (ci := 4) (v := .int (u0.1 13)) (C := RX6) (T := TX6) (N := 22) hx hb hg kl_X6 hown hK hP 0 rfl rfl 13 (by decide) (hg _ kq5_18) (fun _ h9 => h9) rfl dX6_next_165 ?_
          obtain ⟨q21, e22, hf⟩ := tbd hf
          refine kVi1 (As := [.int (u0.1 13)]) (rest := [.long ((10 : Int64) * (u0.2.1 18)), .ref h0]) hC (c_X6_see (G := G) e22) kq5_160 kc_X6_see (by decide) 0 (ci := 4) rfl rfl hP hK hD hE hS hA hl.1 (Nat.le_of_ble_eq_true rfl) ⟨Nat.zero_le _, Nat.zero_le _⟩ dX6_next_168 (fun r9 u9 H locs hw hP hD hS => ?_)
          obtain ⟨rfl, rfl⟩ := hw
          have hP : va_P (gD G) vwCl (wX6 G h0 a0 u0) H := hP
          have hD : va_D A (wX6 G h0 a0 u0) := hD
          refine lv_i2l (v := q21.toInt64) hx hb dX6_next_171 rfl ?_
          refine lv_ladd hx hb dX6_next_172 ?_
          refine lv_ldc2 hx hb hown (hg _ kq5_172) dX6_next_173 ?_
          refine lv_lsub hx hb dX6_next_176 ?_
          refine va_put (D := gD G) (ci := 4) (v := .long ((((10 : Int64) * (u0.2.1 18)) + q21.toInt64) - (48 : Int64))) (ty := .long) (C := RX6) (T := TX6) (N := 22) hx hb hg kl_X6 tyX6 tyX6_ok nmX6 hown hK hP hD hS 0 rfl rfl 18 (by decide) (hg _ kq5_23) (fun _ h9 => h9) rfl (by decide +kernel) rfl rfl (Nat.le_of_ble_eq_true rfl) dX6_next_177 (fun H locs hP hD hS => ?_)
          have hP : va_P (gD G) vwCl (wX6 G h0 a0 (ol u0 18 ((((10 : Int64) * (u0.2.1 18)) + q21.toInt64) - (48 : Int64)))) H := hP
          have hD : va_D A (wX6 G h0 a0 (ol u0 18 ((((10 : Int64) * (u0.2.1 18)) + q21.toInt64) - (48 : Int64)))) := hD
          refine lv_aload_n hx hb dX6_next_180 rfl (lv_at hl 0 rfl) ?_
          refine lv_dup hx hb dX6_next_181 rfl ?_
          refine va_get (D := gD G) (ci := 4) (v := .int (u0.1 13)) (C := RX6) (T := TX6) (N := 22) hx hb hg kl_X6 hown hK hP 0 rfl rfl 13 (by decide) (hg _ kq5_18) (fun _ h9 => h9) rfl dX6_next_182 ?_
          refine lv_iconst (v := (1 : Int32)) hx hb dX6_next_185 (by decide) ?_
          refine lv_iadd hx hb dX6_next_186 ?_
          refine va_put (D := gD G) (ci := 4) (v := .int ((u0.1 13) + (1 : Int32))) (ty := .int) (C := RX6) (T := TX6) (N := 22) hx hb hg kl_X6 tyX6 tyX6_ok nmX6 hown hK hP hD hS 0 rfl rfl 13 (by decide) (hg _ kq5_18) (fun _ h9 => h9) rfl (by decide +kernel) rfl rfl (Nat.le_of_ble_eq_true rfl) dX6_next_187 (fun H locs hP hD hS => ?_)
          have hP : va_P (gD G) vwCl (wX6 G h0 a0 (oi (ol u0 18 ((((10 : Int64) * (u0.2.1 18)) + q21.toInt64) - (48 : Int64))) 13 ((u0.1 13) + (1 : Int32)))) H := hP
          have hD : va_D A (wX6 G h0 a0 (oi (ol u0 18 ((((10 : Int64) * (u0.2.1 18)) + q21.toInt64) - (48 : Int64))) 13 ((u0.1 13) + (1 : Int32)))) := hD
          refine lv_goto (tgt := 129) hx hb dX6_next_190 (by decide) ?_
          exact ih _ hf _ _ _ hP hD hS (lv_sub hl [0] rfl)
  have lp_75 : ∀ (n : Nat) (u0 : Ob), l_X6_next_75 N n u0 = some q → ∀ (H : Heap) (locs : List Loc) (ls : Array Slot), va_P (gD G) vwCl (wX6 G h0 a0 u0) H → va_D A (wX6 G h0 a0 u0) → va_S A s.heap H locs → lv_has ls 1 [(0, .ref h0)] → W p l e ({ frames := 2, cells := 0, slots := 0, locals := 45 } : Room) s m ([.ref h0] : List Value).toArray below meth c H locs 0 0 (MQ below (va_Qv (fun v : Ob => q = v) (bw G (fun v : Ob => (wX6 G h0 a0 v)) A) A) ([.ref h0] : List Value).toArray s 0 0 A) (F0 m 75 ls []) := by
    intro n
    induction n with
    | zero => intro u0 hf; rw [l_X6_next_75] at hf; cases hf
    | succ n ih =>
      intro u0 hf H locs ls hP hD hS hl
      rw [l_X6_next_75] at hf
      refine lv_aload_n hx hb dX6_next_75 rfl (lv_at hl 0 rfl) ?_
      refine lv_aload_n hx hb dX6_next_76 rfl (lv_at hl 0 rfl) ?_
      refine va_get (D := gD G) (ci := 4) (v := .int (u0.1 13)) (C := RX6) (T := TX6) (N := 22) hx hb hg kl_X6 hown hK hP 0 rfl rfl 13 (by decide) (hg _ kq5_18) (fun _ h9 => h9) rfl dX6_next_77 ?_
      obtain ⟨q23, e24, hf⟩ := tbd hf
      refine kVi1 (As := [.int (u0.1 13)]) (rest := []) hC (c_X6_see (G := G) e24) kq5_160 kc_X6_see (by decide) 0 (ci := 4) rfl rfl hP hK hD hE hS hA hl.1 (Nat.le_of_ble_eq_true rfl) ⟨Nat.zero_le _, Nat.zero_le _⟩ dX6_next_80 (fun r9 u9 H locs hw hP hD hS => ?_)
      obtain ⟨rfl, rfl⟩ := hw
      have hP : va_P (gD G) vwCl (wX6 G h0 a0 u0) H := hP
      have hD : va_D A (wX6 G h0 a0 u0) := hD
      obtain ⟨q25, e26, hf⟩ := tbd hf
      refine kSi0 (As := [.int q23]) (rest := []) hC (c_X6_isLetter (G := G) e26) kq5_164 kc_X6_isLetter (by decide) hP hK hD hE hS hA hl.1 (Nat.le_of_ble_eq_true rfl) ⟨Nat.zero_le _, Nat.zero_le _⟩ dX6_next_83 (fun r9 u9 H locs hw hP hD hS => ?_)
      obtain ⟨rfl, rfl⟩ := hw
      refine bz_eq (tgt := 102) hx hb dX6_next_86 (by decide) (fun c27 => ?_) (fun c27 => ?_)
      · have hf := tn hf c27
        refine lv_aload_n hx hb dX6_next_102 rfl (lv_at hl 0 rfl) ?_
        refine lv_iconst (v := (0 : Int32)) hx hb dX6_next_103 (by decide) ?_
        refine va_put (D := gD G) (ci := 4) (v := .int (0 : Int32)) (ty := .int) (C := RX6) (T := TX6) (N := 22) hx hb hg kl_X6 tyX6 tyX6_ok nmX6 hown hK hP hD hS 0 rfl rfl 14 (by decide) (hg _ kq5_19) (fun _ h9 => h9) rfl (by decide +kernel) rfl rfl (Nat.le_of_ble_eq_true rfl) dX6_next_104 (fun H locs hP hD hS => ?_)
        have hP : va_P (gD G) vwCl (wX6 G h0 a0 (oi u0 14 (0 : Int32))) H := hP
        have hD : va_D A (wX6 G h0 a0 (oi u0 14 (0 : Int32))) := hD
        refine lv_goto (tgt := 216) hx hb dX6_next_107 (by decide) ?_
        have hf := Option.some.inj hf
        subst hf
        exact e_v (wf := (fun v : Ob => (wX6 G h0 a0 v))) hx hb hr hlk (oi u0 14 (0 : Int32)) rfl hP hK hD hS dX6_next_216
      · have hf := tp hf c27
        refine lv_aload_n hx hb dX6_next_89 rfl (lv_at hl 0 rfl) ?_
        refine lv_dup hx hb dX6_next_90 rfl ?_
        refine va_get (D := gD G) (ci := 4) (v := .int (u0.1 13)) (C := RX6) (T := TX6) (N := 22) hx hb hg kl_X6 hown hK hP 0 rfl rfl 13 (by decide) (hg _ kq5_18) (fun _ h9 => h9) rfl dX6_next_91 ?_
        refine lv_iconst (v := (1 : Int32)) hx hb dX6_next_94 (by decide) ?_
        refine lv_iadd hx hb dX6_next_95 ?_
        refine va_put (D := gD G) (ci := 4) (v := .int ((u0.1 13) + (1 : Int32))) (ty := .int) (C := RX6) (T := TX6) (N := 22) hx hb hg kl_X6 tyX6 tyX6_ok nmX6 hown hK hP hD hS 0 rfl rfl 13 (by decide) (hg _ kq5_18) (fun _ h9 => h9) rfl (by decide +kernel) rfl rfl (Nat.le_of_ble_eq_true rfl) dX6_next_96 (fun H locs hP hD hS => ?_)
        have hP : va_P (gD G) vwCl (wX6 G h0 a0 (oi u0 13 ((u0.1 13) + (1 : Int32)))) H := hP
        have hD : va_D A (wX6 G h0 a0 (oi u0 13 ((u0.1 13) + (1 : Int32)))) := hD
        refine lv_goto (tgt := 75) hx hb dX6_next_99 (by decide) ?_
        exact ih _ hf _ _ _ hP hD hS (lv_sub hl [0] rfl)
  have lp_8 : ∀ (n : Nat) (u0 : Ob), l_X6_next_8 N n u0 = some q → ∀ (H : Heap) (locs : List Loc) (ls : Array Slot), va_P (gD G) vwCl (wX6 G h0 a0 u0) H → va_D A (wX6 G h0 a0 u0) → va_S A s.heap H locs → lv_has ls 1 [(0, .ref h0)] → W p l e ({ frames := 2, cells := 0, slots := 0, locals := 45 } : Room) s m ([.ref h0] : List Value).toArray below meth c H locs 0 0 (MQ below (va_Qv (fun v : Ob => q = v) (bw G (fun v : Ob => (wX6 G h0 a0 v)) A) A) ([.ref h0] : List Value).toArray s 0 0 A) (F0 m 8 ls []) := by
    intro n
    induction n with
    | zero => intro u0 hf; rw [l_X6_next_8] at hf; cases hf
    | succ n ih =>
      intro u0 hf H locs ls hP hD hS hl
      rw [l_X6_next_8] at hf
      refine lv_aload_n hx hb dX6_next_8 rfl (lv_at hl 0 rfl) ?_
      refine lv_aload_n hx hb dX6_next_9 rfl (lv_at hl 0 rfl) ?_
      refine va_get (D := gD G) (ci := 4) (v := .int (u0.1 12)) (C := RX6) (T := TX6) (N := 22) hx hb hg kl_X6 hown hK hP 0 rfl rfl 12 (by decide) (hg _ kq5_17) (fun _ h9 => h9) rfl dX6_next_10 ?_
      obtain ⟨q1, e2, hf⟩ := tbd hf
      refine kVi1 (As := [.int (u0.1 12)]) (rest := []) hC (c_X6_see (G := G) e2) kq5_160 kc_X6_see (by decide) 0 (ci := 4) rfl rfl hP hK hD hE hS hA hl.1 (Nat.le_of_ble_eq_true rfl) ⟨Nat.zero_le _, Nat.zero_le _⟩ dX6_next_13 (fun r9 u9 H locs hw hP hD hS => ?_)
      obtain ⟨rfl, rfl⟩ := hw
      have hP : va_P (gD G) vwCl (wX6 G h0 a0 u0) H := hP
      have hD : va_D A (wX6 G h0 a0 u0) := hD
      refine lv_bipush (v := (32 : Int32)) hx hb dX6_next_16 (by decide) ?_
      refine lv_icmp_ne (tgt := 34) hx hb dX6_next_18 (by decide) (fun c3 => ?_) (fun c3 => ?_)
      · have hf := tn hf c3
        refine lv_aload_n hx hb dX6_next_34 rfl (lv_at hl 0 rfl) ?_
        refine lv_aload_n hx hb dX6_next_35 rfl (lv_at hl 0 rfl) ?_
        refine va_get (D := gD G) (ci := 4) (v := .int (u0.1 12)) (C := RX6) (T := TX6) (N := 22) hx hb hg kl_X6 hown hK hP 0 rfl rfl 12 (by decide) (hg _ kq5_17) (fun _ h9 => h9) rfl dX6_next_36 ?_
        refine va_put (D := gD G) (ci := 4) (v := .int (u0.1 12)) (ty := .int) (C := RX6) (T := TX6) (N := 22) hx hb hg kl_X6 tyX6 tyX6_ok nmX6 hown hK hP hD hS 0 rfl rfl 13 (by decide) (hg _ kq5_18) (fun _ h9 => h9) rfl (by decide +kernel) rfl rfl (Nat.le_of_ble_eq_true rfl) dX6_next_39 (fun H locs hP hD hS => ?_)
        have hP : va_P (gD G) vwCl (wX6 G h0 a0 (oi u0 13 (u0.1 12))) H := hP
        have hD : va_D A (wX6 G h0 a0 (oi u0 13 (u0.1 12))) := hD
        refine lv_aload_n hx hb dX6_next_42 rfl (lv_at hl 0 rfl) ?_
        refine va_get (D := gD G) (ci := 4) (v := .int (u0.1 12)) (C := RX6) (T := TX6) (N := 22) hx hb hg kl_X6 hown hK hP 0 rfl rfl 12 (by decide) (hg _ kq5_17) (fun _ h9 => h9) rfl dX6_next_43 ?_
        refine lv_aload_n hx hb dX6_next_46 rfl (lv_at hl 0 rfl) ?_
        refine va_get (D := gD G) (ci := 4) (v := .int (u0.1 11)) (C := RX6) (T := TX6) (N := 22) hx hb hg kl_X6 hown hK hP 0 rfl rfl 11 (by decide) (hg _ kq5_16) (fun _ h9 => h9) rfl dX6_next_47 ?_
        refine lv_icmp_lt (tgt := 61) hx hb dX6_next_50 (by decide) (fun c4 => ?_) (fun c4 => ?_)
        · have hf := tp hf c4
          refine lv_aload_n hx hb dX6_next_61 rfl (lv_at hl 0 rfl) ?_
          refine lv_aload_n hx hb dX6_next_62 rfl (lv_at hl 0 rfl) ?_
          refine va_get (D := gD G) (ci := 4) (v := .int (u0.1 12)) (C := RX6) (T := TX6) (N := 22) hx hb hg kl_X6 hown hK hP 0 rfl rfl 12 (by decide) (hg _ kq5_17) (fun _ h9 => h9) rfl dX6_next_63 ?_
          obtain ⟨q5, e6, hf⟩ := tbd hf
          refine kVi1 (As := [.int (u0.1 12)]) (rest := []) hC (c_X6_see (G := G) e6) kq5_160 kc_X6_see (by decide) 0 (ci := 4) rfl rfl hP hK hD hE hS hA hl.1 (Nat.le_of_ble_eq_true rfl) ⟨Nat.zero_le _, Nat.zero_le _⟩ dX6_next_66 (fun r9 u9 H locs hw hP hD hS => ?_)
          obtain ⟨rfl, rfl⟩ := hw
          have hP : va_P (gD G) vwCl (wX6 G h0 a0 (oi u0 13 (u0.1 12))) H := hP
          have hD : va_D A (wX6 G h0 a0 (oi u0 13 (u0.1 12))) := hD
          obtain ⟨q7, e8, hf⟩ := tbd hf
          refine kSi0 (As := [.int q5]) (rest := []) hC (c_X6_isLetter (G := G) e8) kq5_164 kc_X6_isLetter (by decide) hP hK hD hE hS hA hl.1 (Nat.le_of_ble_eq_true rfl) ⟨Nat.zero_le _, Nat.zero_le _⟩ dX6_next_69 (fun r9 u9 H locs hw hP hD hS => ?_)
          obtain ⟨rfl, rfl⟩ := hw
          refine bz_eq (tgt := 110) hx hb dX6_next_72 (by decide) (fun c9 => ?_) (fun c9 => ?_)
          · have hf := tn hf c9
            refine lv_aload_n hx hb dX6_next_110 rfl (lv_at hl 0 rfl) ?_
            refine lv_aload_n hx hb dX6_next_111 rfl (lv_at hl 0 rfl) ?_
            refine va_get (D := gD G) (ci := 4) (v := .int (u0.1 12)) (C := RX6) (T := TX6) (N := 22) hx hb hg kl_X6 hown hK hP 0 rfl rfl 12 (by decide) (hg _ kq5_17) (fun _ h9 => h9) rfl dX6_next_112 ?_
            obtain ⟨q10, e11, hf⟩ := tbd hf
            refine kVi1 (As := [.int (u0.1 12)]) (rest := []) hC (c_X6_see (G := G) e11) kq5_160 kc_X6_see (by decide) 0 (ci := 4) rfl rfl hP hK hD hE hS hA hl.1 (Nat.le_of_ble_eq_true rfl) ⟨Nat.zero_le _, Nat.zero_le _⟩ dX6_next_115 (fun r9 u9 H locs hw hP hD hS => ?_)
            obtain ⟨rfl, rfl⟩ := hw
            have hP : va_P (gD G) vwCl (wX6 G h0 a0 (oi u0 13 (u0.1 12))) H := hP
            have hD : va_D A (wX6 G h0 a0 (oi u0 13 (u0.1 12))) := hD
            obtain ⟨q12, e13, hf⟩ := tbd hf
            refine kSi0 (As := [.int q10]) (rest := []) hC (c_X6_isDigit (G := G) e13) kq5_169 kc_X6_isDigit (by decide) hP hK hD hE hS hA hl.1 (Nat.le_of_ble_eq_true rfl) ⟨Nat.zero_le _, Nat.zero_le _⟩ dX6_next_118 (fun r9 u9 H locs hw hP hD hS => ?_)
            obtain ⟨rfl, rfl⟩ := hw
            refine bz_eq (tgt := 201) hx hb dX6_next_121 (by decide) (fun c14 => ?_) (fun c14 => ?_)
            · have hf := tn hf c14
              refine lv_aload_n hx hb dX6_next_201 rfl (lv_at hl 0 rfl) ?_
              refine lv_dup hx hb dX6_next_202 rfl ?_
              refine va_get (D := gD G) (ci := 4) (v := .int (u0.1 12)) (C := RX6) (T := TX6) (N := 22) hx hb hg kl_X6 hown hK hP 0 rfl rfl 13 (by decide) (hg _ kq5_18) (fun _ h9 => h9) rfl dX6_next_203 ?_
              refine lv_iconst (v := (1 : Int32)) hx hb dX6_next_206 (by decide) ?_
              refine lv_iadd hx hb dX6_next_207 ?_
              refine va_put (D := gD G) (ci := 4) (v := .int ((u0.1 12) + (1 : Int32))) (ty := .int) (C := RX6) (T := TX6) (N := 22) hx hb hg kl_X6 tyX6 tyX6_ok nmX6 hown hK hP hD hS 0 rfl rfl 13 (by decide) (hg _ kq5_18) (fun _ h9 => h9) rfl (by decide +kernel) rfl rfl (Nat.le_of_ble_eq_true rfl) dX6_next_208 (fun H locs hP hD hS => ?_)
              have hP : va_P (gD G) vwCl (wX6 G h0 a0 (oi (oi u0 13 (u0.1 12)) 13 ((u0.1 12) + (1 : Int32)))) H := hP
              have hD : va_D A (wX6 G h0 a0 (oi (oi u0 13 (u0.1 12)) 13 ((u0.1 12) + (1 : Int32)))) := hD
              refine lv_aload_n hx hb dX6_next_211 rfl (lv_at hl 0 rfl) ?_
              refine lv_iconst (v := (2 : Int32)) hx hb dX6_next_212 (by decide) ?_
              refine va_put (D := gD G) (ci := 4) (v := .int (2 : Int32)) (ty := .int) (C := RX6) (T := TX6) (N := 22) hx hb hg kl_X6 tyX6 tyX6_ok nmX6 hown hK hP hD hS 0 rfl rfl 14 (by decide) (hg _ kq5_19) (fun _ h9 => h9) rfl (by decide +kernel) rfl rfl (Nat.le_of_ble_eq_true rfl) dX6_next_213 (fun H locs hP hD hS => ?_)
              have hP : va_P (gD G) vwCl (wX6 G h0 a0 (oi (oi (oi u0 13 (u0.1 12)) 13 ((u0.1 12) + (1 : Int32))) 14 (2 : Int32))) H := hP
              have hD : va_D A (wX6 G h0 a0 (oi (oi (oi u0 13 (u0.1 12)) 13 ((u0.1 12) + (1 : Int32))) 14 (2 : Int32))) := hD
              have hf := Option.some.inj hf
              subst hf
              exact e_v (wf := (fun v : Ob => (wX6 G h0 a0 v))) hx hb hr hlk (oi (oi (oi u0 13 (u0.1 12)) 13 ((u0.1 12) + (1 : Int32))) 14 (2 : Int32)) rfl hP hK hD hS dX6_next_216
            · have hf := tp hf c14
              refine lv_aload_n hx hb dX6_next_124 rfl (lv_at hl 0 rfl) ?_
              refine lv_lconst (v := (0 : Int64)) hx hb dX6_next_125 (by decide) ?_
              refine va_put (D := gD G) (ci := 4) (v := .long (0 : Int64)) (ty := .long) (C := RX6) (T := TX6) (N := 22) hx hb hg kl_X6 tyX6 tyX6_ok nmX6 hown hK hP hD hS 0 rfl rfl 18 (by decide) (hg _ kq5_23) (fun _ h9 => h9) rfl (by decide +kernel) rfl rfl (Nat.le_of_ble_eq_true rfl) dX6_next_126 (fun H locs hP hD hS => ?_)
              have hP : va_P (gD G) vwCl (wX6 G h0 a0 (ol (oi u0 13 (u0.1 12)) 18 (0 : Int64))) H := hP
              have hD : va_D A (wX6 G h0 a0 (ol (oi u0 13 (u0.1 12)) 18 (0 : Int64))) := hD
              exact lp_129 N _ hf _ _ _ hP hD hS (lv_sub hl [0] rfl)
          · have hf := tp hf c9
            exact lp_75 N _ hf _ _ _ hP hD hS (lv_sub hl [0] rfl)
        · have hf := tn hf c4
          refine lv_aload_n hx hb dX6_next_53 rfl (lv_at hl 0 rfl) ?_
          refine lv_iconst (v := (3 : Int32)) hx hb dX6_next_54 (by decide) ?_
          refine va_put (D := gD G) (ci := 4) (v := .int (3 : Int32)) (ty := .int) (C := RX6) (T := TX6) (N := 22) hx hb hg kl_X6 tyX6 tyX6_ok nmX6 hown hK hP hD hS 0 rfl rfl 14 (by decide) (hg _ kq5_19) (fun _ h9 => h9) rfl (by decide +kernel) rfl rfl (Nat.le_of_ble_eq_true rfl) dX6_next_55 (fun H locs hP hD hS => ?_)
          have hP : va_P (gD G) vwCl (wX6 G h0 a0 (oi (oi u0 13 (u0.1 12)) 14 (3 : Int32))) H := hP
          have hD : va_D A (wX6 G h0 a0 (oi (oi u0 13 (u0.1 12)) 14 (3 : Int32))) := hD
          refine lv_goto (tgt := 216) hx hb dX6_next_58 (by decide) ?_
          have hf := Option.some.inj hf
          subst hf
          exact e_v (wf := (fun v : Ob => (wX6 G h0 a0 v))) hx hb hr hlk (oi (oi u0 13 (u0.1 12)) 14 (3 : Int32)) rfl hP hK hD hS dX6_next_216
      · have hf := tp hf c3
        refine lv_aload_n hx hb dX6_next_21 rfl (lv_at hl 0 rfl) ?_
        refine lv_dup hx hb dX6_next_22 rfl ?_
        refine va_get (D := gD G) (ci := 4) (v := .int (u0.1 12)) (C := RX6) (T := TX6) (N := 22) hx hb hg kl_X6 hown hK hP 0 rfl rfl 12 (by decide) (hg _ kq5_17) (fun _ h9 => h9) rfl dX6_next_23 ?_
        refine lv_iconst (v := (1 : Int32)) hx hb dX6_next_26 (by decide) ?_
        refine lv_iadd hx hb dX6_next_27 ?_
        refine va_put (D := gD G) (ci := 4) (v := .int ((u0.1 12) + (1 : Int32))) (ty := .int) (C := RX6) (T := TX6) (N := 22) hx hb hg kl_X6 tyX6 tyX6_ok nmX6 hown hK hP hD hS 0 rfl rfl 12 (by decide) (hg _ kq5_17) (fun _ h9 => h9) rfl (by decide +kernel) rfl rfl (Nat.le_of_ble_eq_true rfl) dX6_next_28 (fun H locs hP hD hS => ?_)
        have hP : va_P (gD G) vwCl (wX6 G h0 a0 (oi u0 12 ((u0.1 12) + (1 : Int32)))) H := hP
        have hD : va_D A (wX6 G h0 a0 (oi u0 12 ((u0.1 12) + (1 : Int32)))) := hD
        refine lv_goto (tgt := 8) hx hb dX6_next_31 (by decide) ?_
        exact ih _ hf _ _ _ hP hD hS (lv_sub hl [0] rfl)
  rw [f_X6_next] at hf
  refine lv_aload_n hx hb dX6_next_0 rfl (lv_at hl 0 rfl) ?_
  refine lv_aload_n hx hb dX6_next_1 rfl (lv_at hl 0 rfl) ?_
  refine va_get (D := gD G) (ci := 4) (v := .int (u0.1 13)) (C := RX6) (T := TX6) (N := 22) hx hb hg kl_X6 hown hK hP 0 rfl rfl 13 (by decide) (hg _ kq5_18) (fun _ h9 => h9) rfl dX6_next_2 ?_
  refine va_put (D := gD G) (ci := 4) (v := .int (u0.1 13)) (ty := .int) (C := RX6) (T := TX6) (N := 22) hx hb hg kl_X6 tyX6 tyX6_ok nmX6 hown hK hP hD hS 0 rfl rfl 12 (by decide) (hg _ kq5_17) (fun _ h9 => h9) rfl (by decide +kernel) rfl rfl (Nat.le_of_ble_eq_true rfl) dX6_next_5 (fun H locs hP hD hS => ?_)
  have hP : va_P (gD G) vwCl (wX6 G h0 a0 (oi u0 12 (u0.1 13))) H := hP
  have hD : va_D A (wX6 G h0 a0 (oi u0 12 (u0.1 13))) := hD
  exact lp_8 N _ hf _ _ _ hP hD hS (lv_sub hl [0] rfl)
set_option maxRecDepth 100000 in
set_option maxHeartbeats 4000000 in
theorem c_X6_isWord {l : Launch} {G : Gp} {sz N : Nat} {i : Nat} {h0 : Nat} {a0 : Nat → Nat} {u0 : Ob} {q : Bool × Ob} (hi : i < 9) (hf : f_X6_isWord N i u0 = some q) : Met l yX6_isWord (Cond.code yX6_isWord cX6_isWord 3 (some .boolean) :: lw_g) ({ frames := 4, cells := 0, slots := 0, locals := 85 } : Room) (va_Pc [.ref h0, .ref (gE G (10 + 2 * i))] (pw G (wX6 G h0 a0 u0) sz)) (va_Qi (fun (r : Int32) (v : Ob) => bI q.1 = r ∧ q.2 = v) (bw G (fun v : Ob => (wX6 G h0 a0 v)) (va_A (wX6 G h0 a0 u0) sz)) (va_A (wX6 G h0 a0 u0) sz)) 0 0 (va_A (wX6 G h0 a0 u0) sz) := by
  refine mt (Qc := (fun A => va_Qi (fun (r : Int32) (v : Ob) => bI q.1 = r ∧ q.2 = v) (bw G (fun v : Ob => (wX6 G h0 a0 v)) A) A)) (by decide) (Nat.le_of_ble_eq_true rfl) ?_
  intro p e s m below meth c A ls hx hb hr hlk hml hts hown hA hP hK hD hE hS hl
  have hown : s.vm.findClass RX6 = some m.cls := hown
  have hg : ∀ w ∈ lw_g, w.before ([.ref h0, .ref (gE G (10 + 2 * i))] : List Value).toArray s = true := fun w h => hts w (List.mem_cons_of_mem _ h)
  have hC : CallFix p m c cX6_isWord 3 s ([.ref h0, .ref (gE G (10 + 2 * i))] : List Value).toArray (Cond.code yX6_isWord cX6_isWord 3 (some .boolean) :: lw_g) RX6 := ⟨hx, hb, hml, hown, hts⟩
  have hl : lv_has ls 3 [(0, .ref h0), (1, .ref (gE G (10 + 2 * i)))] := hl
  have lp_34 : ∀ (n : Nat) (x2 : Int32) (u0 : Ob), l_X6_isWord_34 N i n x2 u0 = some q → ∀ (H : Heap) (locs : List Loc) (ls : Array Slot), va_P (gD G) vwCl (wX6 G h0 a0 u0) H → va_D A (wX6 G h0 a0 u0) → va_S A s.heap H locs → lv_has ls 3 [(0, .ref h0), (1, .ref (gE G (10 + 2 * i))), (2, .int x2)] → W p l e ({ frames := 4, cells := 0, slots := 0, locals := 85 } : Room) s m ([.ref h0, .ref (gE G (10 + 2 * i))] : List Value).toArray below meth c H locs 0 0 (MQ below (va_Qi (fun (r : Int32) (v : Ob) => bI q.1 = r ∧ q.2 = v) (bw G (fun v : Ob => (wX6 G h0 a0 v)) A) A) ([.ref h0, .ref (gE G (10 + 2 * i))] : List Value).toArray s 0 0 A) (F0 m 34 ls []) := by
    intro n
    induction n with
    | zero => intro x2 u0 hf; rw [l_X6_isWord_34] at hf; cases hf
    | succ n ih =>
      intro x2 u0 hf H locs ls hP hD hS hl
      rw [l_X6_isWord_34] at hf
      refine lv_iload_n hx hb dX6_isWord_34 rfl (lv_at hl 2 rfl) ?_
      refine lv_aload_n hx hb dX6_isWord_35 rfl (lv_at hl 1 rfl) ?_
      obtain ⟨q6, e7, hf⟩ := tbd hf
      refine kTi0 (As := []) (rest := [.int x2]) hC (c_J0_length_8abf5 (G := G) (hi := hi) e7) kq5_189 kc_J0_length_8abf5 (by decide) (vk_recv (adK := fun i => gE G (10 + 2 * i)) (i := i) (hE.1.2.2.2.2.2.2.2.2.2.2.2.1) hi hS) hP hK hD hE hS hA hl.1 (Nat.le_of_ble_eq_true rfl) ⟨Nat.zero_le _, Nat.zero_le _⟩ dX6_isWord_36 (fun r9 u9 H locs hw hP hD hS => ?_)
      obtain ⟨rfl, rfl⟩ := hw
      refine lv_icmp_ge (tgt := 69) hx hb dX6_isWord_39 (by decide) (fun c8 => ?_) (fun c8 => ?_)
      · have hf := tp hf c8
        refine lv_iconst (v := (1 : Int32)) hx hb dX6_isWord_69 (by decide) ?_
        have hf := Option.some.inj hf
        subst hf
        exact e_z (wf := (fun v : Ob => (wX6 G h0 a0 v))) hx hb hr hlk u0 rfl ⟨rfl, rfl⟩ hP hK hD hS dX6_isWord_70
      · have hf := tn hf c8
        refine lv_aload_n hx hb dX6_isWord_42 rfl (lv_at hl 0 rfl) ?_
        refine va_get (D := gD G) (ci := 4) (v := .ref (a0 9)) (C := RX6) (T := TX6) (N := 22) hx hb hg kl_X6 hown hK hP 0 rfl rfl 9 (by decide) (hg _ kq5_14) (fun _ h9 => h9) rfl dX6_isWord_43 ?_
        refine lv_aload_n hx hb dX6_isWord_46 rfl (lv_at hl 0 rfl) ?_
        refine va_get (D := gD G) (ci := 4) (v := .int (u0.1 12)) (C := RX6) (T := TX6) (N := 22) hx hb hg kl_X6 hown hK hP 0 rfl rfl 12 (by decide) (hg _ kq5_17) (fun _ h9 => h9) rfl dX6_isWord_47 ?_
        refine lv_iload_n hx hb dX6_isWord_50 rfl (lv_at hl 2 rfl) ?_
        refine lv_iadd hx hb dX6_isWord_51 ?_
        obtain ⟨b9, hf⟩ := tno hf
        refine va_iald (f := (u0.2.2.1 9)) hx hb hK hP 7 1 rfl rfl b9 dX6_isWord_52 ?_
        refine lv_aload_n hx hb dX6_isWord_53 rfl (lv_at hl 1 rfl) ?_
        refine lv_iload_n hx hb dX6_isWord_54 rfl (lv_at hl 2 rfl) ?_
        obtain ⟨q10, e11, hf⟩ := tbd hf
        refine kTi0 (As := [.int x2]) (rest := [.int ((u0.2.2.1 9) ((u0.1 12) + x2).toNatClampNeg)]) hC (c_J0_charAt_5068e (G := G) (hi := hi) e11) kq5_190 kc_J0_charAt_5068e (by decide) (vk_recv (adK := fun i => gE G (10 + 2 * i)) (i := i) (hE.1.2.2.2.2.2.2.2.2.2.2.2.1) hi hS) hP hK hD hE hS hA hl.1 (Nat.le_of_ble_eq_true rfl) ⟨Nat.zero_le _, Nat.zero_le _⟩ dX6_isWord_55 (fun r9 u9 H locs hw hP hD hS => ?_)
        obtain ⟨rfl, rfl⟩ := hw
        refine lv_icmp_eq (tgt := 63) hx hb dX6_isWord_58 (by decide) (fun c12 => ?_) (fun c12 => ?_)
        · have hf := tp hf c12
          refine lv_iinc (v := (x2 + (1 : Int32))) (lv' := [(2, .int (x2 + (1 : Int32))), (0, .ref h0), (1, .ref (gE G (10 + 2 * i)))]) hx hb dX6_isWord_63 hl (k := 2) rfl rfl (by decide) rfl (fun ls hl => ?_)
          refine lv_goto (tgt := 34) hx hb dX6_isWord_66 (by decide) ?_
          exact ih _ _ hf _ _ _ hP hD hS (lv_sub hl [1, 2, 0] rfl)
        · have hf := tn hf c12
          refine lv_iconst (v := (0 : Int32)) hx hb dX6_isWord_61 (by decide) ?_
          have hf := Option.some.inj hf
          subst hf
          exact e_z (wf := (fun v : Ob => (wX6 G h0 a0 v))) hx hb hr hlk u0 rfl ⟨rfl, rfl⟩ hP hK hD hS dX6_isWord_62
  rw [f_X6_isWord] at hf
  refine lv_aload_n hx hb dX6_isWord_0 rfl (lv_at hl 0 rfl) ?_
  refine va_get (D := gD G) (ci := 4) (v := .int (u0.1 15)) (C := RX6) (T := TX6) (N := 22) hx hb hg kl_X6 hown hK hP 0 rfl rfl 15 (by decide) (hg _ kq5_20) (fun _ h9 => h9) rfl dX6_isWord_1 ?_
  refine lv_if_ne (tgt := 30) hx hb dX6_isWord_4 (by decide) (fun c1 => ?_) (fun c1 => ?_)
  · have hf := tn hf c1
    refine lv_iconst (v := (0 : Int32)) hx hb dX6_isWord_30 (by decide) ?_
    have hf := Option.some.inj hf
    subst hf
    exact e_z (wf := (fun v : Ob => (wX6 G h0 a0 v))) hx hb hr hlk u0 rfl ⟨rfl, rfl⟩ hP hK hD hS dX6_isWord_31
  · have hf := tp hf c1
    refine lv_aload_n hx hb dX6_isWord_7 rfl (lv_at hl 0 rfl) ?_
    refine va_get (D := gD G) (ci := 4) (v := .int (u0.1 14)) (C := RX6) (T := TX6) (N := 22) hx hb hg kl_X6 hown hK hP 0 rfl rfl 14 (by decide) (hg _ kq5_19) (fun _ h9 => h9) rfl dX6_isWord_8 ?_
    refine lv_if_ne (tgt := 30) hx hb dX6_isWord_11 (by decide) (fun c2 => ?_) (fun c2 => ?_)
    · have hf := tn hf c2
      refine lv_iconst (v := (0 : Int32)) hx hb dX6_isWord_30 (by decide) ?_
      have hf := Option.some.inj hf
      subst hf
      exact e_z (wf := (fun v : Ob => (wX6 G h0 a0 v))) hx hb hr hlk u0 rfl ⟨rfl, rfl⟩ hP hK hD hS dX6_isWord_31
    · have hf := tp hf c2
      refine lv_aload_n hx hb dX6_isWord_14 rfl (lv_at hl 0 rfl) ?_
      refine va_get (D := gD G) (ci := 4) (v := .int (u0.1 13)) (C := RX6) (T := TX6) (N := 22) hx hb hg kl_X6 hown hK hP 0 rfl rfl 13 (by decide) (hg _ kq5_18) (fun _ h9 => h9) rfl dX6_isWord_15 ?_
      refine lv_aload_n hx hb dX6_isWord_18 rfl (lv_at hl 0 rfl) ?_
      refine va_get (D := gD G) (ci := 4) (v := .int (u0.1 12)) (C := RX6) (T := TX6) (N := 22) hx hb hg kl_X6 hown hK hP 0 rfl rfl 12 (by decide) (hg _ kq5_17) (fun _ h9 => h9) rfl dX6_isWord_19 ?_
      refine lv_isub hx hb dX6_isWord_22 ?_
      refine lv_aload_n hx hb dX6_isWord_23 rfl (lv_at hl 1 rfl) ?_
      obtain ⟨q3, e4, hf⟩ := tbd hf
      refine kTi0 (As := []) (rest := [.int ((u0.1 13) - (u0.1 12))]) hC (c_J0_length_8abf5 (G := G) (hi := hi) e4) kq5_189 kc_J0_length_8abf5 (by decide) (vk_recv (adK := fun i => gE G (10 + 2 * i)) (i := i) (hE.1.2.2.2.2.2.2.2.2.2.2.2.1) hi hS) hP hK hD hE hS hA hl.1 (Nat.le_of_ble_eq_true rfl) ⟨Nat.zero_le _, Nat.zero_le _⟩ dX6_isWord_24 (fun r9 u9 H locs hw hP hD hS => ?_)
      obtain ⟨rfl, rfl⟩ := hw
      refine lv_icmp_eq (tgt := 32) hx hb dX6_isWord_27 (by decide) (fun c5 => ?_) (fun c5 => ?_)
      · have hf := tp hf c5
        refine lv_iconst (v := (0 : Int32)) hx hb dX6_isWord_32 (by decide) ?_
        refine lv_istore_n (lv' := [(2, .int (0 : Int32)), (0, .ref h0), (1, .ref (gE G (10 + 2 * i)))]) hx hb dX6_isWord_33 rfl hl (by decide) rfl (fun ls hl => ?_)
        exact lp_34 N _ _ hf _ _ _ hP hD hS (lv_sub hl [1, 2, 0] rfl)
      · have hf := tn hf c5
        refine lv_iconst (v := (0 : Int32)) hx hb dX6_isWord_30 (by decide) ?_
        have hf := Option.some.inj hf
        subst hf
        exact e_z (wf := (fun v : Ob => (wX6 G h0 a0 v))) hx hb hr hlk u0 rfl ⟨rfl, rfl⟩ hP hK hD hS dX6_isWord_31
set_option maxRecDepth 100000 in
set_option maxHeartbeats 4000000 in
theorem c_X6_fails {l : Launch} {G : Gp} {sz N : Nat} {x1 : Int32} {h0 : Nat} {a0 : Nat → Nat} {u0 : Ob} {q : Ob} (hf : f_X6_fails N x1 u0 = some q) : Met l yX6_fails (Cond.code yX6_fails cX6_fails 2 none :: lw_g) ({ frames := 0, cells := 0, slots := 0, locals := 0 } : Room) (va_Pc [.ref h0, .int x1] (pw G (wX6 G h0 a0 u0) sz)) (va_Qv (fun v : Ob => q = v) (bw G (fun v : Ob => (wX6 G h0 a0 v)) (va_A (wX6 G h0 a0 u0) sz)) (va_A (wX6 G h0 a0 u0) sz)) 0 0 (va_A (wX6 G h0 a0 u0) sz) := by
  refine mt (Qc := (fun A => va_Qv (fun v : Ob => q = v) (bw G (fun v : Ob => (wX6 G h0 a0 v)) A) A)) (by decide) (Nat.le_of_ble_eq_true rfl) ?_
  intro p e s m below meth c A ls hx hb hr hlk hml hts hown hA hP hK hD hE hS hl
  have hown : s.vm.findClass RX6 = some m.cls := hown
  have hg : ∀ w ∈ lw_g, w.before ([.ref h0, .int x1] : List Value).toArray s = true := fun w h => hts w (List.mem_cons_of_mem _ h)
  have hC : CallFix p m c cX6_fails 2 s ([.ref h0, .int x1] : List Value).toArray (Cond.code yX6_fails cX6_fails 2 none :: lw_g) RX6 := ⟨hx, hb, hml, hown, hts⟩
  have hl : lv_has ls 2 [(0, .ref h0), (1, .int x1)] := hl
  rw [f_X6_fails] at hf
  refine lv_aload_n hx hb dX6_fails_0 rfl (lv_at hl 0 rfl) ?_
  refine va_get (D := gD G) (ci := 4) (v := .int (u0.1 15)) (C := RX6) (T := TX6) (N := 22) hx hb hg kl_X6 hown hK hP 0 rfl rfl 15 (by decide) (hg _ kq5_20) (fun _ h9 => h9) rfl dX6_fails_1 ?_
  refine lv_if_eq (tgt := 8) hx hb dX6_fails_4 (by decide) (fun c1 => ?_) (fun c1 => ?_)
  · have hf := tp hf c1
    refine lv_aload_n hx hb dX6_fails_8 rfl (lv_at hl 0 rfl) ?_
    refine lv_iload_n hx hb dX6_fails_9 rfl (lv_at hl 1 rfl) ?_
    refine va_put (D := gD G) (ci := 4) (v := .int x1) (ty := .int) (C := RX6) (T := TX6) (N := 22) hx hb hg kl_X6 tyX6 tyX6_ok nmX6 hown hK hP hD hS 0 rfl rfl 15 (by decide) (hg _ kq5_20) (fun _ h9 => h9) rfl (by decide +kernel) rfl rfl (Nat.le_of_ble_eq_true rfl) dX6_fails_10 (fun H locs hP hD hS => ?_)
    have hP : va_P (gD G) vwCl (wX6 G h0 a0 (oi u0 15 x1)) H := hP
    have hD : va_D A (wX6 G h0 a0 (oi u0 15 x1)) := hD
    refine lv_aload_n hx hb dX6_fails_13 rfl (lv_at hl 0 rfl) ?_
    refine lv_aload_n hx hb dX6_fails_14 rfl (lv_at hl 0 rfl) ?_
    refine va_get (D := gD G) (ci := 4) (v := .int (u0.1 12)) (C := RX6) (T := TX6) (N := 22) hx hb hg kl_X6 hown hK hP 0 rfl rfl 12 (by decide) (hg _ kq5_17) (fun _ h9 => h9) rfl dX6_fails_15 ?_
    refine va_put (D := gD G) (ci := 4) (v := .int (u0.1 12)) (ty := .int) (C := RX6) (T := TX6) (N := 22) hx hb hg kl_X6 tyX6 tyX6_ok nmX6 hown hK hP hD hS 0 rfl rfl 16 (by decide) (hg _ kq5_21) (fun _ h9 => h9) rfl (by decide +kernel) rfl rfl (Nat.le_of_ble_eq_true rfl) dX6_fails_18 (fun H locs hP hD hS => ?_)
    have hP : va_P (gD G) vwCl (wX6 G h0 a0 (oi (oi u0 15 x1) 16 (u0.1 12))) H := hP
    have hD : va_D A (wX6 G h0 a0 (oi (oi u0 15 x1) 16 (u0.1 12))) := hD
    have hf := Option.some.inj hf
    subst hf
    exact e_v (wf := (fun v : Ob => (wX6 G h0 a0 v))) hx hb hr hlk (oi (oi u0 15 x1) 16 (u0.1 12)) rfl hP hK hD hS dX6_fails_21
  · have hf := tn hf c1
    have hf := Option.some.inj hf
    subst hf
    exact e_v (wf := (fun v : Ob => (wX6 G h0 a0 v))) hx hb hr hlk u0 rfl hP hK hD hS dX6_fails_7
set_option maxRecDepth 100000 in
set_option maxHeartbeats 4000000 in
theorem c_X6_must {l : Launch} {G : Gp} {sz N : Nat} {x1 : Bool} {h0 : Nat} {a0 : Nat → Nat} {u0 : Ob} {q : Ob} (hf : f_X6_must N x1 u0 = some q) : Met l yX6_must (Cond.code yX6_must cX6_must 2 none :: lw_g) ({ frames := 3, cells := 0, slots := 0, locals := 65 } : Room) (va_Pc [.ref h0, .int (bI x1)] (pw G (wX6 G h0 a0 u0) sz)) (va_Qv (fun v : Ob => q = v) (bw G (fun v : Ob => (wX6 G h0 a0 v)) (va_A (wX6 G h0 a0 u0) sz)) (va_A (wX6 G h0 a0 u0) sz)) 0 0 (va_A (wX6 G h0 a0 u0) sz) := by
  refine mt (Qc := (fun A => va_Qv (fun v : Ob => q = v) (bw G (fun v : Ob => (wX6 G h0 a0 v)) A) A)) (by decide) (Nat.le_of_ble_eq_true rfl) ?_
  intro p e s m below meth c A ls hx hb hr hlk hml hts hown hA hP hK hD hE hS hl
  have hown : s.vm.findClass RX6 = some m.cls := hown
  have hg : ∀ w ∈ lw_g, w.before ([.ref h0, .int (bI x1)] : List Value).toArray s = true := fun w h => hts w (List.mem_cons_of_mem _ h)
  have hC : CallFix p m c cX6_must 2 s ([.ref h0, .int (bI x1)] : List Value).toArray (Cond.code yX6_must cX6_must 2 none :: lw_g) RX6 := ⟨hx, hb, hml, hown, hts⟩
  have hl : lv_has ls 2 [(0, .ref h0), (1, .int (bI x1))] := hl
  rw [f_X6_must] at hf
  refine lv_iload_n hx hb dX6_must_0 rfl (lv_at hl 1 rfl) ?_
  refine bz_ne (tgt := 10) hx hb dX6_must_1 (by decide) (fun c1 => ?_) (fun c1 => ?_)
  · have hf := tp hf c1
    refine lv_aload_n hx hb dX6_must_10 rfl (lv_at hl 0 rfl) ?_
    refine va_get (D := gD G) (ci := 4) (v := .int (u0.1 15)) (C := RX6) (T := TX6) (N := 22) hx hb hg kl_X6 hown hK hP 0 rfl rfl 15 (by decide) (hg _ kq5_20) (fun _ h9 => h9) rfl dX6_must_11 ?_
    refine lv_if_ne (tgt := 21) hx hb dX6_must_14 (by decide) (fun c2 => ?_) (fun c2 => ?_)
    · have hf := tn hf c2
      have hf := Option.some.inj hf
      subst hf
      exact e_v (wf := (fun v : Ob => (wX6 G h0 a0 v))) hx hb hr hlk u0 rfl hP hK hD hS dX6_must_21
    · have hf := tp hf c2
      refine lv_aload_n hx hb dX6_must_17 rfl (lv_at hl 0 rfl) ?_
      obtain ⟨q3, e4, hf⟩ := tbd hf
      refine kVv1 (As := []) (rest := []) hC (c_X6_next (G := G) e4) kq5_156 kc_X6_next (by decide) 0 (ci := 4) rfl rfl hP hK hD hE hS hA hl.1 (Nat.le_of_ble_eq_true rfl) ⟨Nat.zero_le _, Nat.zero_le _⟩ dX6_must_18 (fun u9 H locs hw hP hD hS => ?_)
      obtain rfl := hw
      have hP : va_P (gD G) vwCl (wX6 G h0 a0 q3) H := hP
      have hD : va_D A (wX6 G h0 a0 q3) := hD
      have hf := Option.some.inj hf
      subst hf
      exact e_v (wf := (fun v : Ob => (wX6 G h0 a0 v))) hx hb hr hlk q3 rfl hP hK hD hS dX6_must_21
  · have hf := tn hf c1
    refine lv_aload_n hx hb dX6_must_4 rfl (lv_at hl 0 rfl) ?_
    refine lv_bipush (v := (-2 : Int32)) hx hb dX6_must_5 (by decide) ?_
    obtain ⟨q5, e6, hf⟩ := tbd hf
    refine kVv1 (As := [.int (-2 : Int32)]) (rest := []) hC (c_X6_fails (G := G) e6) kq5_203 kc_X6_fails (by decide) 0 (ci := 4) rfl rfl hP hK hD hE hS hA hl.1 (Nat.le_of_ble_eq_true rfl) ⟨Nat.zero_le _, Nat.zero_le _⟩ dX6_must_7 (fun u9 H locs hw hP hD hS => ?_)
    obtain rfl := hw
    have hP : va_P (gD G) vwCl (wX6 G h0 a0 q5) H := hP
    have hD : va_D A (wX6 G h0 a0 q5) := hD
    refine lv_aload_n hx hb dX6_must_10 rfl (lv_at hl 0 rfl) ?_
    refine va_get (D := gD G) (ci := 4) (v := .int (q5.1 15)) (C := RX6) (T := TX6) (N := 22) hx hb hg kl_X6 hown hK hP 0 rfl rfl 15 (by decide) (hg _ kq5_20) (fun _ h9 => h9) rfl dX6_must_11 ?_
    refine lv_if_ne (tgt := 21) hx hb dX6_must_14 (by decide) (fun c7 => ?_) (fun c7 => ?_)
    · have hf := tn hf c7
      have hf := Option.some.inj hf
      subst hf
      exact e_v (wf := (fun v : Ob => (wX6 G h0 a0 v))) hx hb hr hlk q5 rfl hP hK hD hS dX6_must_21
    · have hf := tp hf c7
      refine lv_aload_n hx hb dX6_must_17 rfl (lv_at hl 0 rfl) ?_
      obtain ⟨q8, e9, hf⟩ := tbd hf
      refine kVv1 (As := []) (rest := []) hC (c_X6_next (G := G) e9) kq5_156 kc_X6_next (by decide) 0 (ci := 4) rfl rfl hP hK hD hE hS hA hl.1 (Nat.le_of_ble_eq_true rfl) ⟨Nat.zero_le _, Nat.zero_le _⟩ dX6_must_18 (fun u9 H locs hw hP hD hS => ?_)
      obtain rfl := hw
      have hP : va_P (gD G) vwCl (wX6 G h0 a0 q8) H := hP
      have hD : va_D A (wX6 G h0 a0 q8) := hD
      have hf := Option.some.inj hf
      subst hf
      exact e_v (wf := (fun v : Ob => (wX6 G h0 a0 v))) hx hb hr hlk q8 rfl hP hK hD hS dX6_must_21
set_option maxRecDepth 100000 in
set_option maxHeartbeats 4000000 in
theorem c_X6_takes {l : Launch} {G : Gp} {sz N : Nat} {x1 : Int64} {x3 : Int64} {h0 : Nat} {a0 : Nat → Nat} {u0 : Ob} {q : Int32 × Ob} (hf : f_X6_takes N x1 x3 u0 = some q) : Met l yX6_takes (Cond.code yX6_takes cX6_takes 6 (some .int) :: lw_g) ({ frames := 3, cells := 0, slots := 0, locals := 65 } : Room) (va_Pc [.ref h0, .long x1, .long x3] (pw G (wX6 G h0 a0 u0) sz)) (va_Qi (fun (r : Int32) (v : Ob) => q.1 = r ∧ q.2 = v) (bw G (fun v : Ob => (wX6 G h0 a0 v)) (va_A (wX6 G h0 a0 u0) sz)) (va_A (wX6 G h0 a0 u0) sz)) 0 0 (va_A (wX6 G h0 a0 u0) sz) := by
  refine mt (Qc := (fun A => va_Qi (fun (r : Int32) (v : Ob) => q.1 = r ∧ q.2 = v) (bw G (fun v : Ob => (wX6 G h0 a0 v)) A) A)) (by decide) (Nat.le_of_ble_eq_true rfl) ?_
  intro p e s m below meth c A ls hx hb hr hlk hml hts hown hA hP hK hD hE hS hl
  have hown : s.vm.findClass RX6 = some m.cls := hown
  have hg : ∀ w ∈ lw_g, w.before ([.ref h0, .long x1, .long x3] : List Value).toArray s = true := fun w h => hts w (List.mem_cons_of_mem _ h)
  have hC : CallFix p m c cX6_takes 6 s ([.ref h0, .long x1, .long x3] : List Value).toArray (Cond.code yX6_takes cX6_takes 6 (some .int) :: lw_g) RX6 := ⟨hx, hb, hml, hown, hts⟩
  have hl : lv_has ls 6 [(0, .ref h0), (1, .long x1), (3, .long x3)] := hl
  rw [f_X6_takes] at hf
  refine lv_aload_n hx hb dX6_takes_0 rfl (lv_at hl 0 rfl) ?_
  refine va_get (D := gD G) (ci := 4) (v := .int (u0.1 15)) (C := RX6) (T := TX6) (N := 22) hx hb hg kl_X6 hown hK hP 0 rfl rfl 15 (by decide) (hg _ kq5_20) (fun _ h9 => h9) rfl dX6_takes_1 ?_
  refine lv_if_ne (tgt := 24) hx hb dX6_takes_4 (by decide) (fun c1 => ?_) (fun c1 => ?_)
  · have hf := tn hf c1
    refine lv_aload_n hx hb dX6_takes_24 rfl (lv_at hl 0 rfl) ?_
    refine va_get (D := gD G) (ci := 4) (v := .int (u0.1 15)) (C := RX6) (T := TX6) (N := 22) hx hb hg kl_X6 hown hK hP 0 rfl rfl 15 (by decide) (hg _ kq5_20) (fun _ h9 => h9) rfl dX6_takes_25 ?_
    refine lv_if_ne (tgt := 49) hx hb dX6_takes_28 (by decide) (fun c2 => ?_) (fun c2 => ?_)
    · have hf := tn hf c2
      refine lv_aload_n hx hb dX6_takes_49 rfl (lv_at hl 0 rfl) ?_
      refine va_get (D := gD G) (ci := 4) (v := .int (u0.1 15)) (C := RX6) (T := TX6) (N := 22) hx hb hg kl_X6 hown hK hP 0 rfl rfl 15 (by decide) (hg _ kq5_20) (fun _ h9 => h9) rfl dX6_takes_50 ?_
      refine lv_if_ne (tgt := 64) hx hb dX6_takes_53 (by decide) (fun c3 => ?_) (fun c3 => ?_)
      · have hf := tn hf c3
        refine lv_iconst (v := (0 : Int32)) hx hb dX6_takes_64 (by decide) ?_
        refine lv_istore (lv' := [(5, .int (0 : Int32)), (0, .ref h0), (1, .long x1), (3, .long x3)]) hx hb dX6_takes_65 hl (by decide) rfl (fun ls hl => ?_)
        refine lv_aload_n hx hb dX6_takes_67 rfl (lv_at hl 1 rfl) ?_
        refine va_get (D := gD G) (ci := 4) (v := .int (u0.1 15)) (C := RX6) (T := TX6) (N := 22) hx hb hg kl_X6 hown hK hP 0 rfl rfl 15 (by decide) (hg _ kq5_20) (fun _ h9 => h9) rfl dX6_takes_68 ?_
        refine lv_if_ne (tgt := 78) hx hb dX6_takes_71 (by decide) (fun c4 => ?_) (fun c4 => ?_)
        · have hf := tn hf c4
          refine lv_iload hx hb dX6_takes_78 (lv_at hl 0 rfl) ?_
          have hf := Option.some.inj hf
          subst hf
          exact e_i (wf := (fun v : Ob => (wX6 G h0 a0 v))) hx hb hr hlk u0 ⟨rfl, rfl⟩ hP hK hD hS dX6_takes_80
        · have hf := tp hf c4
          refine lv_aload_n hx hb dX6_takes_74 rfl (lv_at hl 1 rfl) ?_
          obtain ⟨q5, e6, hf⟩ := tbd hf
          refine kVv1 (As := []) (rest := []) hC (c_X6_next (G := G) e6) kq5_156 kc_X6_next (by decide) 0 (ci := 4) rfl rfl hP hK hD hE hS hA hl.1 (Nat.le_of_ble_eq_true rfl) ⟨Nat.zero_le _, Nat.zero_le _⟩ dX6_takes_75 (fun u9 H locs hw hP hD hS => ?_)
          obtain rfl := hw
          have hP : va_P (gD G) vwCl (wX6 G h0 a0 q5) H := hP
          have hD : va_D A (wX6 G h0 a0 q5) := hD
          refine lv_iload hx hb dX6_takes_78 (lv_at hl 0 rfl) ?_
          have hf := Option.some.inj hf
          subst hf
          exact e_i (wf := (fun v : Ob => (wX6 G h0 a0 v))) hx hb hr hlk q5 ⟨rfl, rfl⟩ hP hK hD hS dX6_takes_80
      · have hf := tp hf c3
        refine lv_aload_n hx hb dX6_takes_56 rfl (lv_at hl 0 rfl) ?_
        refine va_get (D := gD G) (ci := 4) (v := .long (u0.2.1 18)) (C := RX6) (T := TX6) (N := 22) hx hb hg kl_X6 hown hK hP 0 rfl rfl 18 (by decide) (hg _ kq5_23) (fun _ h9 => h9) rfl dX6_takes_57 ?_
        refine lv_l2i (v := (u0.2.1 18).toInt32) hx hb dX6_takes_60 rfl ?_
        refine lv_goto (tgt := 65) hx hb dX6_takes_61 (by decide) ?_
        refine lv_istore (lv' := [(5, .int (u0.2.1 18).toInt32), (0, .ref h0), (1, .long x1), (3, .long x3)]) hx hb dX6_takes_65 hl (by decide) rfl (fun ls hl => ?_)
        refine lv_aload_n hx hb dX6_takes_67 rfl (lv_at hl 1 rfl) ?_
        refine va_get (D := gD G) (ci := 4) (v := .int (u0.1 15)) (C := RX6) (T := TX6) (N := 22) hx hb hg kl_X6 hown hK hP 0 rfl rfl 15 (by decide) (hg _ kq5_20) (fun _ h9 => h9) rfl dX6_takes_68 ?_
        refine lv_if_ne (tgt := 78) hx hb dX6_takes_71 (by decide) (fun c7 => ?_) (fun c7 => ?_)
        · have hf := tn hf c7
          refine lv_iload hx hb dX6_takes_78 (lv_at hl 0 rfl) ?_
          have hf := Option.some.inj hf
          subst hf
          exact e_i (wf := (fun v : Ob => (wX6 G h0 a0 v))) hx hb hr hlk u0 ⟨rfl, rfl⟩ hP hK hD hS dX6_takes_80
        · have hf := tp hf c7
          refine lv_aload_n hx hb dX6_takes_74 rfl (lv_at hl 1 rfl) ?_
          obtain ⟨q8, e9, hf⟩ := tbd hf
          refine kVv1 (As := []) (rest := []) hC (c_X6_next (G := G) e9) kq5_156 kc_X6_next (by decide) 0 (ci := 4) rfl rfl hP hK hD hE hS hA hl.1 (Nat.le_of_ble_eq_true rfl) ⟨Nat.zero_le _, Nat.zero_le _⟩ dX6_takes_75 (fun u9 H locs hw hP hD hS => ?_)
          obtain rfl := hw
          have hP : va_P (gD G) vwCl (wX6 G h0 a0 q8) H := hP
          have hD : va_D A (wX6 G h0 a0 q8) := hD
          refine lv_iload hx hb dX6_takes_78 (lv_at hl 0 rfl) ?_
          have hf := Option.some.inj hf
          subst hf
          exact e_i (wf := (fun v : Ob => (wX6 G h0 a0 v))) hx hb hr hlk q8 ⟨rfl, rfl⟩ hP hK hD hS dX6_takes_80
    · have hf := tp hf c2
      refine lv_aload_n hx hb dX6_takes_31 rfl (lv_at hl 0 rfl) ?_
      refine va_get (D := gD G) (ci := 4) (v := .long (u0.2.1 18)) (C := RX6) (T := TX6) (N := 22) hx hb hg kl_X6 hown hK hP 0 rfl rfl 18 (by decide) (hg _ kq5_23) (fun _ h9 => h9) rfl dX6_takes_32 ?_
      refine lv_lload_n hx hb dX6_takes_35 rfl (lv_at hl 1 rfl) ?_
      refine lv_lload_n hx hb dX6_takes_36 rfl (lv_at hl 2 rfl) ?_
      obtain ⟨q10, e11, hf⟩ := tbd hf
      refine kSi0 (As := [.long (u0.2.1 18), .long x1, .long x3]) (rest := []) hC (c_X6_isIn (G := G) e11) kq5_84 kc_X6_isIn (by decide) hP hK hD hE hS hA hl.1 (Nat.le_of_ble_eq_true rfl) ⟨Nat.zero_le _, Nat.zero_le _⟩ dX6_takes_37 (fun r9 u9 H locs hw hP hD hS => ?_)
      obtain ⟨rfl, rfl⟩ := hw
      refine bz_ne (tgt := 49) hx hb dX6_takes_40 (by decide) (fun c12 => ?_) (fun c12 => ?_)
      · have hf := tp hf c12
        refine lv_aload_n hx hb dX6_takes_49 rfl (lv_at hl 0 rfl) ?_
        refine va_get (D := gD G) (ci := 4) (v := .int (u0.1 15)) (C := RX6) (T := TX6) (N := 22) hx hb hg kl_X6 hown hK hP 0 rfl rfl 15 (by decide) (hg _ kq5_20) (fun _ h9 => h9) rfl dX6_takes_50 ?_
        refine lv_if_ne (tgt := 64) hx hb dX6_takes_53 (by decide) (fun c13 => ?_) (fun c13 => ?_)
        · have hf := tn hf c13
          refine lv_iconst (v := (0 : Int32)) hx hb dX6_takes_64 (by decide) ?_
          refine lv_istore (lv' := [(5, .int (0 : Int32)), (0, .ref h0), (1, .long x1), (3, .long x3)]) hx hb dX6_takes_65 hl (by decide) rfl (fun ls hl => ?_)
          refine lv_aload_n hx hb dX6_takes_67 rfl (lv_at hl 1 rfl) ?_
          refine va_get (D := gD G) (ci := 4) (v := .int (u0.1 15)) (C := RX6) (T := TX6) (N := 22) hx hb hg kl_X6 hown hK hP 0 rfl rfl 15 (by decide) (hg _ kq5_20) (fun _ h9 => h9) rfl dX6_takes_68 ?_
          refine lv_if_ne (tgt := 78) hx hb dX6_takes_71 (by decide) (fun c14 => ?_) (fun c14 => ?_)
          · have hf := tn hf c14
            refine lv_iload hx hb dX6_takes_78 (lv_at hl 0 rfl) ?_
            have hf := Option.some.inj hf
            subst hf
            exact e_i (wf := (fun v : Ob => (wX6 G h0 a0 v))) hx hb hr hlk u0 ⟨rfl, rfl⟩ hP hK hD hS dX6_takes_80
          · have hf := tp hf c14
            refine lv_aload_n hx hb dX6_takes_74 rfl (lv_at hl 1 rfl) ?_
            obtain ⟨q15, e16, hf⟩ := tbd hf
            refine kVv1 (As := []) (rest := []) hC (c_X6_next (G := G) e16) kq5_156 kc_X6_next (by decide) 0 (ci := 4) rfl rfl hP hK hD hE hS hA hl.1 (Nat.le_of_ble_eq_true rfl) ⟨Nat.zero_le _, Nat.zero_le _⟩ dX6_takes_75 (fun u9 H locs hw hP hD hS => ?_)
            obtain rfl := hw
            have hP : va_P (gD G) vwCl (wX6 G h0 a0 q15) H := hP
            have hD : va_D A (wX6 G h0 a0 q15) := hD
            refine lv_iload hx hb dX6_takes_78 (lv_at hl 0 rfl) ?_
            have hf := Option.some.inj hf
            subst hf
            exact e_i (wf := (fun v : Ob => (wX6 G h0 a0 v))) hx hb hr hlk q15 ⟨rfl, rfl⟩ hP hK hD hS dX6_takes_80
        · have hf := tp hf c13
          refine lv_aload_n hx hb dX6_takes_56 rfl (lv_at hl 0 rfl) ?_
          refine va_get (D := gD G) (ci := 4) (v := .long (u0.2.1 18)) (C := RX6) (T := TX6) (N := 22) hx hb hg kl_X6 hown hK hP 0 rfl rfl 18 (by decide) (hg _ kq5_23) (fun _ h9 => h9) rfl dX6_takes_57 ?_
          refine lv_l2i (v := (u0.2.1 18).toInt32) hx hb dX6_takes_60 rfl ?_
          refine lv_goto (tgt := 65) hx hb dX6_takes_61 (by decide) ?_
          refine lv_istore (lv' := [(5, .int (u0.2.1 18).toInt32), (0, .ref h0), (1, .long x1), (3, .long x3)]) hx hb dX6_takes_65 hl (by decide) rfl (fun ls hl => ?_)
          refine lv_aload_n hx hb dX6_takes_67 rfl (lv_at hl 1 rfl) ?_
          refine va_get (D := gD G) (ci := 4) (v := .int (u0.1 15)) (C := RX6) (T := TX6) (N := 22) hx hb hg kl_X6 hown hK hP 0 rfl rfl 15 (by decide) (hg _ kq5_20) (fun _ h9 => h9) rfl dX6_takes_68 ?_
          refine lv_if_ne (tgt := 78) hx hb dX6_takes_71 (by decide) (fun c17 => ?_) (fun c17 => ?_)
          · have hf := tn hf c17
            refine lv_iload hx hb dX6_takes_78 (lv_at hl 0 rfl) ?_
            have hf := Option.some.inj hf
            subst hf
            exact e_i (wf := (fun v : Ob => (wX6 G h0 a0 v))) hx hb hr hlk u0 ⟨rfl, rfl⟩ hP hK hD hS dX6_takes_80
          · have hf := tp hf c17
            refine lv_aload_n hx hb dX6_takes_74 rfl (lv_at hl 1 rfl) ?_
            obtain ⟨q18, e19, hf⟩ := tbd hf
            refine kVv1 (As := []) (rest := []) hC (c_X6_next (G := G) e19) kq5_156 kc_X6_next (by decide) 0 (ci := 4) rfl rfl hP hK hD hE hS hA hl.1 (Nat.le_of_ble_eq_true rfl) ⟨Nat.zero_le _, Nat.zero_le _⟩ dX6_takes_75 (fun u9 H locs hw hP hD hS => ?_)
            obtain rfl := hw
            have hP : va_P (gD G) vwCl (wX6 G h0 a0 q18) H := hP
            have hD : va_D A (wX6 G h0 a0 q18) := hD
            refine lv_iload hx hb dX6_takes_78 (lv_at hl 0 rfl) ?_
            have hf := Option.some.inj hf
            subst hf
            exact e_i (wf := (fun v : Ob => (wX6 G h0 a0 v))) hx hb hr hlk q18 ⟨rfl, rfl⟩ hP hK hD hS dX6_takes_80
      · have hf := tn hf c12
        refine lv_aload_n hx hb dX6_takes_43 rfl (lv_at hl 0 rfl) ?_
        refine lv_bipush (v := (-3 : Int32)) hx hb dX6_takes_44 (by decide) ?_
        obtain ⟨q20, e21, hf⟩ := tbd hf
        refine kVv1 (As := [.int (-3 : Int32)]) (rest := []) hC (c_X6_fails (G := G) e21) kq5_203 kc_X6_fails (by decide) 0 (ci := 4) rfl rfl hP hK hD hE hS hA hl.1 (Nat.le_of_ble_eq_true rfl) ⟨Nat.zero_le _, Nat.zero_le _⟩ dX6_takes_46 (fun u9 H locs hw hP hD hS => ?_)
        obtain rfl := hw
        have hP : va_P (gD G) vwCl (wX6 G h0 a0 q20) H := hP
        have hD : va_D A (wX6 G h0 a0 q20) := hD
        refine lv_aload_n hx hb dX6_takes_49 rfl (lv_at hl 0 rfl) ?_
        refine va_get (D := gD G) (ci := 4) (v := .int (q20.1 15)) (C := RX6) (T := TX6) (N := 22) hx hb hg kl_X6 hown hK hP 0 rfl rfl 15 (by decide) (hg _ kq5_20) (fun _ h9 => h9) rfl dX6_takes_50 ?_
        refine lv_if_ne (tgt := 64) hx hb dX6_takes_53 (by decide) (fun c22 => ?_) (fun c22 => ?_)
        · have hf := tn hf c22
          refine lv_iconst (v := (0 : Int32)) hx hb dX6_takes_64 (by decide) ?_
          refine lv_istore (lv' := [(5, .int (0 : Int32)), (0, .ref h0), (1, .long x1), (3, .long x3)]) hx hb dX6_takes_65 hl (by decide) rfl (fun ls hl => ?_)
          refine lv_aload_n hx hb dX6_takes_67 rfl (lv_at hl 1 rfl) ?_
          refine va_get (D := gD G) (ci := 4) (v := .int (q20.1 15)) (C := RX6) (T := TX6) (N := 22) hx hb hg kl_X6 hown hK hP 0 rfl rfl 15 (by decide) (hg _ kq5_20) (fun _ h9 => h9) rfl dX6_takes_68 ?_
          refine lv_if_ne (tgt := 78) hx hb dX6_takes_71 (by decide) (fun c23 => ?_) (fun c23 => ?_)
          · have hf := tn hf c23
            refine lv_iload hx hb dX6_takes_78 (lv_at hl 0 rfl) ?_
            have hf := Option.some.inj hf
            subst hf
            exact e_i (wf := (fun v : Ob => (wX6 G h0 a0 v))) hx hb hr hlk q20 ⟨rfl, rfl⟩ hP hK hD hS dX6_takes_80
          · have hf := tp hf c23
            refine lv_aload_n hx hb dX6_takes_74 rfl (lv_at hl 1 rfl) ?_
            obtain ⟨q24, e25, hf⟩ := tbd hf
            refine kVv1 (As := []) (rest := []) hC (c_X6_next (G := G) e25) kq5_156 kc_X6_next (by decide) 0 (ci := 4) rfl rfl hP hK hD hE hS hA hl.1 (Nat.le_of_ble_eq_true rfl) ⟨Nat.zero_le _, Nat.zero_le _⟩ dX6_takes_75 (fun u9 H locs hw hP hD hS => ?_)
            obtain rfl := hw
            have hP : va_P (gD G) vwCl (wX6 G h0 a0 q24) H := hP
            have hD : va_D A (wX6 G h0 a0 q24) := hD
            refine lv_iload hx hb dX6_takes_78 (lv_at hl 0 rfl) ?_
            have hf := Option.some.inj hf
            subst hf
            exact e_i (wf := (fun v : Ob => (wX6 G h0 a0 v))) hx hb hr hlk q24 ⟨rfl, rfl⟩ hP hK hD hS dX6_takes_80
        · have hf := tp hf c22
          refine lv_aload_n hx hb dX6_takes_56 rfl (lv_at hl 0 rfl) ?_
          refine va_get (D := gD G) (ci := 4) (v := .long (q20.2.1 18)) (C := RX6) (T := TX6) (N := 22) hx hb hg kl_X6 hown hK hP 0 rfl rfl 18 (by decide) (hg _ kq5_23) (fun _ h9 => h9) rfl dX6_takes_57 ?_
          refine lv_l2i (v := (q20.2.1 18).toInt32) hx hb dX6_takes_60 rfl ?_
          refine lv_goto (tgt := 65) hx hb dX6_takes_61 (by decide) ?_
          refine lv_istore (lv' := [(5, .int (q20.2.1 18).toInt32), (0, .ref h0), (1, .long x1), (3, .long x3)]) hx hb dX6_takes_65 hl (by decide) rfl (fun ls hl => ?_)
          refine lv_aload_n hx hb dX6_takes_67 rfl (lv_at hl 1 rfl) ?_
          refine va_get (D := gD G) (ci := 4) (v := .int (q20.1 15)) (C := RX6) (T := TX6) (N := 22) hx hb hg kl_X6 hown hK hP 0 rfl rfl 15 (by decide) (hg _ kq5_20) (fun _ h9 => h9) rfl dX6_takes_68 ?_
          refine lv_if_ne (tgt := 78) hx hb dX6_takes_71 (by decide) (fun c26 => ?_) (fun c26 => ?_)
          · have hf := tn hf c26
            refine lv_iload hx hb dX6_takes_78 (lv_at hl 0 rfl) ?_
            have hf := Option.some.inj hf
            subst hf
            exact e_i (wf := (fun v : Ob => (wX6 G h0 a0 v))) hx hb hr hlk q20 ⟨rfl, rfl⟩ hP hK hD hS dX6_takes_80
          · have hf := tp hf c26
            refine lv_aload_n hx hb dX6_takes_74 rfl (lv_at hl 1 rfl) ?_
            obtain ⟨q27, e28, hf⟩ := tbd hf
            refine kVv1 (As := []) (rest := []) hC (c_X6_next (G := G) e28) kq5_156 kc_X6_next (by decide) 0 (ci := 4) rfl rfl hP hK hD hE hS hA hl.1 (Nat.le_of_ble_eq_true rfl) ⟨Nat.zero_le _, Nat.zero_le _⟩ dX6_takes_75 (fun u9 H locs hw hP hD hS => ?_)
            obtain rfl := hw
            have hP : va_P (gD G) vwCl (wX6 G h0 a0 q27) H := hP
            have hD : va_D A (wX6 G h0 a0 q27) := hD
            refine lv_iload hx hb dX6_takes_78 (lv_at hl 0 rfl) ?_
            have hf := Option.some.inj hf
            subst hf
            exact e_i (wf := (fun v : Ob => (wX6 G h0 a0 v))) hx hb hr hlk q27 ⟨rfl, rfl⟩ hP hK hD hS dX6_takes_80
  · have hf := tp hf c1
    refine lv_aload_n hx hb dX6_takes_7 rfl (lv_at hl 0 rfl) ?_
    refine va_get (D := gD G) (ci := 4) (v := .int (u0.1 14)) (C := RX6) (T := TX6) (N := 22) hx hb hg kl_X6 hown hK hP 0 rfl rfl 14 (by decide) (hg _ kq5_19) (fun _ h9 => h9) rfl dX6_takes_8 ?_
    refine lv_iconst (v := (1 : Int32)) hx hb dX6_takes_11 (by decide) ?_
    refine lv_icmp_eq (tgt := 24) hx hb dX6_takes_12 (by decide) (fun c29 => ?_) (fun c29 => ?_)
    · have hf := tp hf c29
      refine lv_aload_n hx hb dX6_takes_24 rfl (lv_at hl 0 rfl) ?_
      refine va_get (D := gD G) (ci := 4) (v := .int (u0.1 15)) (C := RX6) (T := TX6) (N := 22) hx hb hg kl_X6 hown hK hP 0 rfl rfl 15 (by decide) (hg _ kq5_20) (fun _ h9 => h9) rfl dX6_takes_25 ?_
      refine lv_if_ne (tgt := 49) hx hb dX6_takes_28 (by decide) (fun c30 => ?_) (fun c30 => ?_)
      · have hf := tn hf c30
        refine lv_aload_n hx hb dX6_takes_49 rfl (lv_at hl 0 rfl) ?_
        refine va_get (D := gD G) (ci := 4) (v := .int (u0.1 15)) (C := RX6) (T := TX6) (N := 22) hx hb hg kl_X6 hown hK hP 0 rfl rfl 15 (by decide) (hg _ kq5_20) (fun _ h9 => h9) rfl dX6_takes_50 ?_
        refine lv_if_ne (tgt := 64) hx hb dX6_takes_53 (by decide) (fun c31 => ?_) (fun c31 => ?_)
        · have hf := tn hf c31
          refine lv_iconst (v := (0 : Int32)) hx hb dX6_takes_64 (by decide) ?_
          refine lv_istore (lv' := [(5, .int (0 : Int32)), (0, .ref h0), (1, .long x1), (3, .long x3)]) hx hb dX6_takes_65 hl (by decide) rfl (fun ls hl => ?_)
          refine lv_aload_n hx hb dX6_takes_67 rfl (lv_at hl 1 rfl) ?_
          refine va_get (D := gD G) (ci := 4) (v := .int (u0.1 15)) (C := RX6) (T := TX6) (N := 22) hx hb hg kl_X6 hown hK hP 0 rfl rfl 15 (by decide) (hg _ kq5_20) (fun _ h9 => h9) rfl dX6_takes_68 ?_
          refine lv_if_ne (tgt := 78) hx hb dX6_takes_71 (by decide) (fun c32 => ?_) (fun c32 => ?_)
          · have hf := tn hf c32
            refine lv_iload hx hb dX6_takes_78 (lv_at hl 0 rfl) ?_
            have hf := Option.some.inj hf
            subst hf
            exact e_i (wf := (fun v : Ob => (wX6 G h0 a0 v))) hx hb hr hlk u0 ⟨rfl, rfl⟩ hP hK hD hS dX6_takes_80
          · have hf := tp hf c32
            refine lv_aload_n hx hb dX6_takes_74 rfl (lv_at hl 1 rfl) ?_
            obtain ⟨q33, e34, hf⟩ := tbd hf
            refine kVv1 (As := []) (rest := []) hC (c_X6_next (G := G) e34) kq5_156 kc_X6_next (by decide) 0 (ci := 4) rfl rfl hP hK hD hE hS hA hl.1 (Nat.le_of_ble_eq_true rfl) ⟨Nat.zero_le _, Nat.zero_le _⟩ dX6_takes_75 (fun u9 H locs hw hP hD hS => ?_)
            obtain rfl := hw
            have hP : va_P (gD G) vwCl (wX6 G h0 a0 q33) H := hP
            have hD : va_D A (wX6 G h0 a0 q33) := hD
            refine lv_iload hx hb dX6_takes_78 (lv_at hl 0 rfl) ?_
            have hf := Option.some.inj hf
            subst hf
            exact e_i (wf := (fun v : Ob => (wX6 G h0 a0 v))) hx hb hr hlk q33 ⟨rfl, rfl⟩ hP hK hD hS dX6_takes_80
        · have hf := tp hf c31
          refine lv_aload_n hx hb dX6_takes_56 rfl (lv_at hl 0 rfl) ?_
          refine va_get (D := gD G) (ci := 4) (v := .long (u0.2.1 18)) (C := RX6) (T := TX6) (N := 22) hx hb hg kl_X6 hown hK hP 0 rfl rfl 18 (by decide) (hg _ kq5_23) (fun _ h9 => h9) rfl dX6_takes_57 ?_
          refine lv_l2i (v := (u0.2.1 18).toInt32) hx hb dX6_takes_60 rfl ?_
          refine lv_goto (tgt := 65) hx hb dX6_takes_61 (by decide) ?_
          refine lv_istore (lv' := [(5, .int (u0.2.1 18).toInt32), (0, .ref h0), (1, .long x1), (3, .long x3)]) hx hb dX6_takes_65 hl (by decide) rfl (fun ls hl => ?_)
          refine lv_aload_n hx hb dX6_takes_67 rfl (lv_at hl 1 rfl) ?_
          refine va_get (D := gD G) (ci := 4) (v := .int (u0.1 15)) (C := RX6) (T := TX6) (N := 22) hx hb hg kl_X6 hown hK hP 0 rfl rfl 15 (by decide) (hg _ kq5_20) (fun _ h9 => h9) rfl dX6_takes_68 ?_
          refine lv_if_ne (tgt := 78) hx hb dX6_takes_71 (by decide) (fun c35 => ?_) (fun c35 => ?_)
          · have hf := tn hf c35
            refine lv_iload hx hb dX6_takes_78 (lv_at hl 0 rfl) ?_
            have hf := Option.some.inj hf
            subst hf
            exact e_i (wf := (fun v : Ob => (wX6 G h0 a0 v))) hx hb hr hlk u0 ⟨rfl, rfl⟩ hP hK hD hS dX6_takes_80
          · have hf := tp hf c35
            refine lv_aload_n hx hb dX6_takes_74 rfl (lv_at hl 1 rfl) ?_
            obtain ⟨q36, e37, hf⟩ := tbd hf
            refine kVv1 (As := []) (rest := []) hC (c_X6_next (G := G) e37) kq5_156 kc_X6_next (by decide) 0 (ci := 4) rfl rfl hP hK hD hE hS hA hl.1 (Nat.le_of_ble_eq_true rfl) ⟨Nat.zero_le _, Nat.zero_le _⟩ dX6_takes_75 (fun u9 H locs hw hP hD hS => ?_)
            obtain rfl := hw
            have hP : va_P (gD G) vwCl (wX6 G h0 a0 q36) H := hP
            have hD : va_D A (wX6 G h0 a0 q36) := hD
            refine lv_iload hx hb dX6_takes_78 (lv_at hl 0 rfl) ?_
            have hf := Option.some.inj hf
            subst hf
            exact e_i (wf := (fun v : Ob => (wX6 G h0 a0 v))) hx hb hr hlk q36 ⟨rfl, rfl⟩ hP hK hD hS dX6_takes_80
      · have hf := tp hf c30
        refine lv_aload_n hx hb dX6_takes_31 rfl (lv_at hl 0 rfl) ?_
        refine va_get (D := gD G) (ci := 4) (v := .long (u0.2.1 18)) (C := RX6) (T := TX6) (N := 22) hx hb hg kl_X6 hown hK hP 0 rfl rfl 18 (by decide) (hg _ kq5_23) (fun _ h9 => h9) rfl dX6_takes_32 ?_
        refine lv_lload_n hx hb dX6_takes_35 rfl (lv_at hl 1 rfl) ?_
        refine lv_lload_n hx hb dX6_takes_36 rfl (lv_at hl 2 rfl) ?_
        obtain ⟨q38, e39, hf⟩ := tbd hf
        refine kSi0 (As := [.long (u0.2.1 18), .long x1, .long x3]) (rest := []) hC (c_X6_isIn (G := G) e39) kq5_84 kc_X6_isIn (by decide) hP hK hD hE hS hA hl.1 (Nat.le_of_ble_eq_true rfl) ⟨Nat.zero_le _, Nat.zero_le _⟩ dX6_takes_37 (fun r9 u9 H locs hw hP hD hS => ?_)
        obtain ⟨rfl, rfl⟩ := hw
        refine bz_ne (tgt := 49) hx hb dX6_takes_40 (by decide) (fun c40 => ?_) (fun c40 => ?_)
        · have hf := tp hf c40
          refine lv_aload_n hx hb dX6_takes_49 rfl (lv_at hl 0 rfl) ?_
          refine va_get (D := gD G) (ci := 4) (v := .int (u0.1 15)) (C := RX6) (T := TX6) (N := 22) hx hb hg kl_X6 hown hK hP 0 rfl rfl 15 (by decide) (hg _ kq5_20) (fun _ h9 => h9) rfl dX6_takes_50 ?_
          refine lv_if_ne (tgt := 64) hx hb dX6_takes_53 (by decide) (fun c41 => ?_) (fun c41 => ?_)
          · have hf := tn hf c41
            refine lv_iconst (v := (0 : Int32)) hx hb dX6_takes_64 (by decide) ?_
            refine lv_istore (lv' := [(5, .int (0 : Int32)), (0, .ref h0), (1, .long x1), (3, .long x3)]) hx hb dX6_takes_65 hl (by decide) rfl (fun ls hl => ?_)
            refine lv_aload_n hx hb dX6_takes_67 rfl (lv_at hl 1 rfl) ?_
            refine va_get (D := gD G) (ci := 4) (v := .int (u0.1 15)) (C := RX6) (T := TX6) (N := 22) hx hb hg kl_X6 hown hK hP 0 rfl rfl 15 (by decide) (hg _ kq5_20) (fun _ h9 => h9) rfl dX6_takes_68 ?_
            refine lv_if_ne (tgt := 78) hx hb dX6_takes_71 (by decide) (fun c42 => ?_) (fun c42 => ?_)
            · have hf := tn hf c42
              refine lv_iload hx hb dX6_takes_78 (lv_at hl 0 rfl) ?_
              have hf := Option.some.inj hf
              subst hf
              exact e_i (wf := (fun v : Ob => (wX6 G h0 a0 v))) hx hb hr hlk u0 ⟨rfl, rfl⟩ hP hK hD hS dX6_takes_80
            · have hf := tp hf c42
              refine lv_aload_n hx hb dX6_takes_74 rfl (lv_at hl 1 rfl) ?_
              obtain ⟨q43, e44, hf⟩ := tbd hf
              refine kVv1 (As := []) (rest := []) hC (c_X6_next (G := G) e44) kq5_156 kc_X6_next (by decide) 0 (ci := 4) rfl rfl hP hK hD hE hS hA hl.1 (Nat.le_of_ble_eq_true rfl) ⟨Nat.zero_le _, Nat.zero_le _⟩ dX6_takes_75 (fun u9 H locs hw hP hD hS => ?_)
              obtain rfl := hw
              have hP : va_P (gD G) vwCl (wX6 G h0 a0 q43) H := hP
              have hD : va_D A (wX6 G h0 a0 q43) := hD
              refine lv_iload hx hb dX6_takes_78 (lv_at hl 0 rfl) ?_
              have hf := Option.some.inj hf
              subst hf
              exact e_i (wf := (fun v : Ob => (wX6 G h0 a0 v))) hx hb hr hlk q43 ⟨rfl, rfl⟩ hP hK hD hS dX6_takes_80
          · have hf := tp hf c41
            refine lv_aload_n hx hb dX6_takes_56 rfl (lv_at hl 0 rfl) ?_
            refine va_get (D := gD G) (ci := 4) (v := .long (u0.2.1 18)) (C := RX6) (T := TX6) (N := 22) hx hb hg kl_X6 hown hK hP 0 rfl rfl 18 (by decide) (hg _ kq5_23) (fun _ h9 => h9) rfl dX6_takes_57 ?_
            refine lv_l2i (v := (u0.2.1 18).toInt32) hx hb dX6_takes_60 rfl ?_
            refine lv_goto (tgt := 65) hx hb dX6_takes_61 (by decide) ?_
            refine lv_istore (lv' := [(5, .int (u0.2.1 18).toInt32), (0, .ref h0), (1, .long x1), (3, .long x3)]) hx hb dX6_takes_65 hl (by decide) rfl (fun ls hl => ?_)
            refine lv_aload_n hx hb dX6_takes_67 rfl (lv_at hl 1 rfl) ?_
            refine va_get (D := gD G) (ci := 4) (v := .int (u0.1 15)) (C := RX6) (T := TX6) (N := 22) hx hb hg kl_X6 hown hK hP 0 rfl rfl 15 (by decide) (hg _ kq5_20) (fun _ h9 => h9) rfl dX6_takes_68 ?_
            refine lv_if_ne (tgt := 78) hx hb dX6_takes_71 (by decide) (fun c45 => ?_) (fun c45 => ?_)
            · have hf := tn hf c45
              refine lv_iload hx hb dX6_takes_78 (lv_at hl 0 rfl) ?_
              have hf := Option.some.inj hf
              subst hf
              exact e_i (wf := (fun v : Ob => (wX6 G h0 a0 v))) hx hb hr hlk u0 ⟨rfl, rfl⟩ hP hK hD hS dX6_takes_80
            · have hf := tp hf c45
              refine lv_aload_n hx hb dX6_takes_74 rfl (lv_at hl 1 rfl) ?_
              obtain ⟨q46, e47, hf⟩ := tbd hf
              refine kVv1 (As := []) (rest := []) hC (c_X6_next (G := G) e47) kq5_156 kc_X6_next (by decide) 0 (ci := 4) rfl rfl hP hK hD hE hS hA hl.1 (Nat.le_of_ble_eq_true rfl) ⟨Nat.zero_le _, Nat.zero_le _⟩ dX6_takes_75 (fun u9 H locs hw hP hD hS => ?_)
              obtain rfl := hw
              have hP : va_P (gD G) vwCl (wX6 G h0 a0 q46) H := hP
              have hD : va_D A (wX6 G h0 a0 q46) := hD
              refine lv_iload hx hb dX6_takes_78 (lv_at hl 0 rfl) ?_
              have hf := Option.some.inj hf
              subst hf
              exact e_i (wf := (fun v : Ob => (wX6 G h0 a0 v))) hx hb hr hlk q46 ⟨rfl, rfl⟩ hP hK hD hS dX6_takes_80
        · have hf := tn hf c40
          refine lv_aload_n hx hb dX6_takes_43 rfl (lv_at hl 0 rfl) ?_
          refine lv_bipush (v := (-3 : Int32)) hx hb dX6_takes_44 (by decide) ?_
          obtain ⟨q48, e49, hf⟩ := tbd hf
          refine kVv1 (As := [.int (-3 : Int32)]) (rest := []) hC (c_X6_fails (G := G) e49) kq5_203 kc_X6_fails (by decide) 0 (ci := 4) rfl rfl hP hK hD hE hS hA hl.1 (Nat.le_of_ble_eq_true rfl) ⟨Nat.zero_le _, Nat.zero_le _⟩ dX6_takes_46 (fun u9 H locs hw hP hD hS => ?_)
          obtain rfl := hw
          have hP : va_P (gD G) vwCl (wX6 G h0 a0 q48) H := hP
          have hD : va_D A (wX6 G h0 a0 q48) := hD
          refine lv_aload_n hx hb dX6_takes_49 rfl (lv_at hl 0 rfl) ?_
          refine va_get (D := gD G) (ci := 4) (v := .int (q48.1 15)) (C := RX6) (T := TX6) (N := 22) hx hb hg kl_X6 hown hK hP 0 rfl rfl 15 (by decide) (hg _ kq5_20) (fun _ h9 => h9) rfl dX6_takes_50 ?_
          refine lv_if_ne (tgt := 64) hx hb dX6_takes_53 (by decide) (fun c50 => ?_) (fun c50 => ?_)
          · have hf := tn hf c50
            refine lv_iconst (v := (0 : Int32)) hx hb dX6_takes_64 (by decide) ?_
            refine lv_istore (lv' := [(5, .int (0 : Int32)), (0, .ref h0), (1, .long x1), (3, .long x3)]) hx hb dX6_takes_65 hl (by decide) rfl (fun ls hl => ?_)
            refine lv_aload_n hx hb dX6_takes_67 rfl (lv_at hl 1 rfl) ?_
            refine va_get (D := gD G) (ci := 4) (v := .int (q48.1 15)) (C := RX6) (T := TX6) (N := 22) hx hb hg kl_X6 hown hK hP 0 rfl rfl 15 (by decide) (hg _ kq5_20) (fun _ h9 => h9) rfl dX6_takes_68 ?_
            refine lv_if_ne (tgt := 78) hx hb dX6_takes_71 (by decide) (fun c51 => ?_) (fun c51 => ?_)
            · have hf := tn hf c51
              refine lv_iload hx hb dX6_takes_78 (lv_at hl 0 rfl) ?_
              have hf := Option.some.inj hf
              subst hf
              exact e_i (wf := (fun v : Ob => (wX6 G h0 a0 v))) hx hb hr hlk q48 ⟨rfl, rfl⟩ hP hK hD hS dX6_takes_80
            · have hf := tp hf c51
              refine lv_aload_n hx hb dX6_takes_74 rfl (lv_at hl 1 rfl) ?_
              obtain ⟨q52, e53, hf⟩ := tbd hf
              refine kVv1 (As := []) (rest := []) hC (c_X6_next (G := G) e53) kq5_156 kc_X6_next (by decide) 0 (ci := 4) rfl rfl hP hK hD hE hS hA hl.1 (Nat.le_of_ble_eq_true rfl) ⟨Nat.zero_le _, Nat.zero_le _⟩ dX6_takes_75 (fun u9 H locs hw hP hD hS => ?_)
              obtain rfl := hw
              have hP : va_P (gD G) vwCl (wX6 G h0 a0 q52) H := hP
              have hD : va_D A (wX6 G h0 a0 q52) := hD
              refine lv_iload hx hb dX6_takes_78 (lv_at hl 0 rfl) ?_
              have hf := Option.some.inj hf
              subst hf
              exact e_i (wf := (fun v : Ob => (wX6 G h0 a0 v))) hx hb hr hlk q52 ⟨rfl, rfl⟩ hP hK hD hS dX6_takes_80
          · have hf := tp hf c50
            refine lv_aload_n hx hb dX6_takes_56 rfl (lv_at hl 0 rfl) ?_
            refine va_get (D := gD G) (ci := 4) (v := .long (q48.2.1 18)) (C := RX6) (T := TX6) (N := 22) hx hb hg kl_X6 hown hK hP 0 rfl rfl 18 (by decide) (hg _ kq5_23) (fun _ h9 => h9) rfl dX6_takes_57 ?_
            refine lv_l2i (v := (q48.2.1 18).toInt32) hx hb dX6_takes_60 rfl ?_
            refine lv_goto (tgt := 65) hx hb dX6_takes_61 (by decide) ?_
            refine lv_istore (lv' := [(5, .int (q48.2.1 18).toInt32), (0, .ref h0), (1, .long x1), (3, .long x3)]) hx hb dX6_takes_65 hl (by decide) rfl (fun ls hl => ?_)
            refine lv_aload_n hx hb dX6_takes_67 rfl (lv_at hl 1 rfl) ?_
            refine va_get (D := gD G) (ci := 4) (v := .int (q48.1 15)) (C := RX6) (T := TX6) (N := 22) hx hb hg kl_X6 hown hK hP 0 rfl rfl 15 (by decide) (hg _ kq5_20) (fun _ h9 => h9) rfl dX6_takes_68 ?_
            refine lv_if_ne (tgt := 78) hx hb dX6_takes_71 (by decide) (fun c54 => ?_) (fun c54 => ?_)
            · have hf := tn hf c54
              refine lv_iload hx hb dX6_takes_78 (lv_at hl 0 rfl) ?_
              have hf := Option.some.inj hf
              subst hf
              exact e_i (wf := (fun v : Ob => (wX6 G h0 a0 v))) hx hb hr hlk q48 ⟨rfl, rfl⟩ hP hK hD hS dX6_takes_80
            · have hf := tp hf c54
              refine lv_aload_n hx hb dX6_takes_74 rfl (lv_at hl 1 rfl) ?_
              obtain ⟨q55, e56, hf⟩ := tbd hf
              refine kVv1 (As := []) (rest := []) hC (c_X6_next (G := G) e56) kq5_156 kc_X6_next (by decide) 0 (ci := 4) rfl rfl hP hK hD hE hS hA hl.1 (Nat.le_of_ble_eq_true rfl) ⟨Nat.zero_le _, Nat.zero_le _⟩ dX6_takes_75 (fun u9 H locs hw hP hD hS => ?_)
              obtain rfl := hw
              have hP : va_P (gD G) vwCl (wX6 G h0 a0 q55) H := hP
              have hD : va_D A (wX6 G h0 a0 q55) := hD
              refine lv_iload hx hb dX6_takes_78 (lv_at hl 0 rfl) ?_
              have hf := Option.some.inj hf
              subst hf
              exact e_i (wf := (fun v : Ob => (wX6 G h0 a0 v))) hx hb hr hlk q55 ⟨rfl, rfl⟩ hP hK hD hS dX6_takes_80
    · have hf := tn hf c29
      refine lv_aload_n hx hb dX6_takes_15 rfl (lv_at hl 0 rfl) ?_
      refine lv_bipush (v := (-2 : Int32)) hx hb dX6_takes_16 (by decide) ?_
      obtain ⟨q57, e58, hf⟩ := tbd hf
      refine kVv1 (As := [.int (-2 : Int32)]) (rest := []) hC (c_X6_fails (G := G) e58) kq5_203 kc_X6_fails (by decide) 0 (ci := 4) rfl rfl hP hK hD hE hS hA hl.1 (Nat.le_of_ble_eq_true rfl) ⟨Nat.zero_le _, Nat.zero_le _⟩ dX6_takes_18 (fun u9 H locs hw hP hD hS => ?_)
      obtain rfl := hw
      have hP : va_P (gD G) vwCl (wX6 G h0 a0 q57) H := hP
      have hD : va_D A (wX6 G h0 a0 q57) := hD
      refine lv_goto (tgt := 49) hx hb dX6_takes_21 (by decide) ?_
      refine lv_aload_n hx hb dX6_takes_49 rfl (lv_at hl 0 rfl) ?_
      refine va_get (D := gD G) (ci := 4) (v := .int (q57.1 15)) (C := RX6) (T := TX6) (N := 22) hx hb hg kl_X6 hown hK hP 0 rfl rfl 15 (by decide) (hg _ kq5_20) (fun _ h9 => h9) rfl dX6_takes_50 ?_
      refine lv_if_ne (tgt := 64) hx hb dX6_takes_53 (by decide) (fun c59 => ?_) (fun c59 => ?_)
      · have hf := tn hf c59
        refine lv_iconst (v := (0 : Int32)) hx hb dX6_takes_64 (by decide) ?_
        refine lv_istore (lv' := [(5, .int (0 : Int32)), (0, .ref h0), (1, .long x1), (3, .long x3)]) hx hb dX6_takes_65 hl (by decide) rfl (fun ls hl => ?_)
        refine lv_aload_n hx hb dX6_takes_67 rfl (lv_at hl 1 rfl) ?_
        refine va_get (D := gD G) (ci := 4) (v := .int (q57.1 15)) (C := RX6) (T := TX6) (N := 22) hx hb hg kl_X6 hown hK hP 0 rfl rfl 15 (by decide) (hg _ kq5_20) (fun _ h9 => h9) rfl dX6_takes_68 ?_
        refine lv_if_ne (tgt := 78) hx hb dX6_takes_71 (by decide) (fun c60 => ?_) (fun c60 => ?_)
        · have hf := tn hf c60
          refine lv_iload hx hb dX6_takes_78 (lv_at hl 0 rfl) ?_
          have hf := Option.some.inj hf
          subst hf
          exact e_i (wf := (fun v : Ob => (wX6 G h0 a0 v))) hx hb hr hlk q57 ⟨rfl, rfl⟩ hP hK hD hS dX6_takes_80
        · have hf := tp hf c60
          refine lv_aload_n hx hb dX6_takes_74 rfl (lv_at hl 1 rfl) ?_
          obtain ⟨q61, e62, hf⟩ := tbd hf
          refine kVv1 (As := []) (rest := []) hC (c_X6_next (G := G) e62) kq5_156 kc_X6_next (by decide) 0 (ci := 4) rfl rfl hP hK hD hE hS hA hl.1 (Nat.le_of_ble_eq_true rfl) ⟨Nat.zero_le _, Nat.zero_le _⟩ dX6_takes_75 (fun u9 H locs hw hP hD hS => ?_)
          obtain rfl := hw
          have hP : va_P (gD G) vwCl (wX6 G h0 a0 q61) H := hP
          have hD : va_D A (wX6 G h0 a0 q61) := hD
          refine lv_iload hx hb dX6_takes_78 (lv_at hl 0 rfl) ?_
          have hf := Option.some.inj hf
          subst hf
          exact e_i (wf := (fun v : Ob => (wX6 G h0 a0 v))) hx hb hr hlk q61 ⟨rfl, rfl⟩ hP hK hD hS dX6_takes_80
      · have hf := tp hf c59
        refine lv_aload_n hx hb dX6_takes_56 rfl (lv_at hl 0 rfl) ?_
        refine va_get (D := gD G) (ci := 4) (v := .long (q57.2.1 18)) (C := RX6) (T := TX6) (N := 22) hx hb hg kl_X6 hown hK hP 0 rfl rfl 18 (by decide) (hg _ kq5_23) (fun _ h9 => h9) rfl dX6_takes_57 ?_
        refine lv_l2i (v := (q57.2.1 18).toInt32) hx hb dX6_takes_60 rfl ?_
        refine lv_goto (tgt := 65) hx hb dX6_takes_61 (by decide) ?_
        refine lv_istore (lv' := [(5, .int (q57.2.1 18).toInt32), (0, .ref h0), (1, .long x1), (3, .long x3)]) hx hb dX6_takes_65 hl (by decide) rfl (fun ls hl => ?_)
        refine lv_aload_n hx hb dX6_takes_67 rfl (lv_at hl 1 rfl) ?_
        refine va_get (D := gD G) (ci := 4) (v := .int (q57.1 15)) (C := RX6) (T := TX6) (N := 22) hx hb hg kl_X6 hown hK hP 0 rfl rfl 15 (by decide) (hg _ kq5_20) (fun _ h9 => h9) rfl dX6_takes_68 ?_
        refine lv_if_ne (tgt := 78) hx hb dX6_takes_71 (by decide) (fun c63 => ?_) (fun c63 => ?_)
        · have hf := tn hf c63
          refine lv_iload hx hb dX6_takes_78 (lv_at hl 0 rfl) ?_
          have hf := Option.some.inj hf
          subst hf
          exact e_i (wf := (fun v : Ob => (wX6 G h0 a0 v))) hx hb hr hlk q57 ⟨rfl, rfl⟩ hP hK hD hS dX6_takes_80
        · have hf := tp hf c63
          refine lv_aload_n hx hb dX6_takes_74 rfl (lv_at hl 1 rfl) ?_
          obtain ⟨q64, e65, hf⟩ := tbd hf
          refine kVv1 (As := []) (rest := []) hC (c_X6_next (G := G) e65) kq5_156 kc_X6_next (by decide) 0 (ci := 4) rfl rfl hP hK hD hE hS hA hl.1 (Nat.le_of_ble_eq_true rfl) ⟨Nat.zero_le _, Nat.zero_le _⟩ dX6_takes_75 (fun u9 H locs hw hP hD hS => ?_)
          obtain rfl := hw
          have hP : va_P (gD G) vwCl (wX6 G h0 a0 q64) H := hP
          have hD : va_D A (wX6 G h0 a0 q64) := hD
          refine lv_iload hx hb dX6_takes_78 (lv_at hl 0 rfl) ?_
          have hf := Option.some.inj hf
          subst hf
          exact e_i (wf := (fun v : Ob => (wX6 G h0 a0 v))) hx hb hr hlk q64 ⟨rfl, rfl⟩ hP hK hD hS dX6_takes_80
set_option maxRecDepth 100000 in
set_option maxHeartbeats 4000000 in
theorem c_X6_least {l : Launch} {G : Gp} {sz N : Nat} {x0 : Int32} {q : Int32} (hf : f_X6_least N x0 = some q) : Met l yX6_least (Cond.code yX6_least cX6_least 1 (some .int) :: lw_g) ({ frames := 0, cells := 0, slots := 0, locals := 0 } : Room) (va_Pc [.int x0] (pw G [] sz)) (va_Qi (fun (r : Int32) (v : Unit) => q = r ∧ () = v) (bw G (fun _ : Unit => ([] : va_W)) (va_A [] sz)) (va_A [] sz)) 0 0 (va_A [] sz) := by
  refine mt (Qc := (fun A => va_Qi (fun (r : Int32) (v : Unit) => q = r ∧ () = v) (bw G (fun _ : Unit => ([] : va_W)) A) A)) (by decide) (Nat.le_of_ble_eq_true rfl) ?_
  intro p e s m below meth c A ls hx hb hr hlk hml hts hown hA hP hK hD hE hS hl
  have hown : s.vm.findClass RX6 = some m.cls := hown
  have hg : ∀ w ∈ lw_g, w.before ([.int x0] : List Value).toArray s = true := fun w h => hts w (List.mem_cons_of_mem _ h)
  have hC : CallFix p m c cX6_least 1 s ([.int x0] : List Value).toArray (Cond.code yX6_least cX6_least 1 (some .int) :: lw_g) RX6 := ⟨hx, hb, hml, hown, hts⟩
  have hl : lv_has ls 1 [(0, .int x0)] := hl
  rw [f_X6_least] at hf
  refine lv_iload_n hx hb dX6_least_0 rfl (lv_at hl 0 rfl) ?_
  refine lv_if_ne (tgt := 9) hx hb dX6_least_1 (by decide) (fun c1 => ?_) (fun c1 => ?_)
  · have hf := tn hf c1
    refine lv_iload_n hx hb dX6_least_9 rfl (lv_at hl 0 rfl) ?_
    refine lv_iconst (v := (1 : Int32)) hx hb dX6_least_10 (by decide) ?_
    refine lv_icmp_ne (tgt := 18) hx hb dX6_least_11 (by decide) (fun c2 => ?_) (fun c2 => ?_)
    · have hf := tn hf c2
      refine lv_iload_n hx hb dX6_least_18 rfl (lv_at hl 0 rfl) ?_
      refine lv_iconst (v := (2 : Int32)) hx hb dX6_least_19 (by decide) ?_
      refine lv_icmp_ne (tgt := 27) hx hb dX6_least_20 (by decide) (fun c3 => ?_) (fun c3 => ?_)
      · have hf := tn hf c3
        refine lv_iload_n hx hb dX6_least_27 rfl (lv_at hl 0 rfl) ?_
        refine lv_iconst (v := (3 : Int32)) hx hb dX6_least_28 (by decide) ?_
        refine lv_icmp_ne (tgt := 36) hx hb dX6_least_29 (by decide) (fun c4 => ?_) (fun c4 => ?_)
        · have hf := tn hf c4
          refine lv_sipush (v := (-500 : Int32)) hx hb dX6_least_36 (by decide) ?_
          have hf := Option.some.inj hf
          subst hf
          exact e_i (wf := (fun _ : Unit => ([] : va_W))) hx hb hr hlk () ⟨rfl, rfl⟩ hP hK hD hS dX6_least_39
        · have hf := tp hf c4
          refine lv_iconst (v := (0 : Int32)) hx hb dX6_least_32 (by decide) ?_
          refine lv_goto (tgt := 39) hx hb dX6_least_33 (by decide) ?_
          have hf := Option.some.inj hf
          subst hf
          exact e_i (wf := (fun _ : Unit => ([] : va_W))) hx hb hr hlk () ⟨rfl, rfl⟩ hP hK hD hS dX6_least_39
      · have hf := tp hf c3
        refine lv_iconst (v := (3 : Int32)) hx hb dX6_least_23 (by decide) ?_
        refine lv_goto (tgt := 39) hx hb dX6_least_24 (by decide) ?_
        have hf := Option.some.inj hf
        subst hf
        exact e_i (wf := (fun _ : Unit => ([] : va_W))) hx hb hr hlk () ⟨rfl, rfl⟩ hP hK hD hS dX6_least_39
    · have hf := tp hf c2
      refine lv_iconst (v := (2 : Int32)) hx hb dX6_least_14 (by decide) ?_
      refine lv_goto (tgt := 39) hx hb dX6_least_15 (by decide) ?_
      have hf := Option.some.inj hf
      subst hf
      exact e_i (wf := (fun _ : Unit => ([] : va_W))) hx hb hr hlk () ⟨rfl, rfl⟩ hP hK hD hS dX6_least_39
  · have hf := tp hf c1
    refine lv_bipush (v := (10 : Int32)) hx hb dX6_least_4 (by decide) ?_
    refine lv_goto (tgt := 39) hx hb dX6_least_6 (by decide) ?_
    have hf := Option.some.inj hf
    subst hf
    exact e_i (wf := (fun _ : Unit => ([] : va_W))) hx hb hr hlk () ⟨rfl, rfl⟩ hP hK hD hS dX6_least_39
set_option maxRecDepth 100000 in
set_option maxHeartbeats 4000000 in
theorem c_X6_most {l : Launch} {G : Gp} {sz N : Nat} {x0 : Int32} {q : Int32} (hf : f_X6_most N x0 = some q) : Met l yX6_most (Cond.code yX6_most cX6_most 1 (some .int) :: lw_g) ({ frames := 0, cells := 0, slots := 0, locals := 0 } : Room) (va_Pc [.int x0] (pw G [] sz)) (va_Qi (fun (r : Int32) (v : Unit) => q = r ∧ () = v) (bw G (fun _ : Unit => ([] : va_W)) (va_A [] sz)) (va_A [] sz)) 0 0 (va_A [] sz) := by
  refine mt (Qc := (fun A => va_Qi (fun (r : Int32) (v : Unit) => q = r ∧ () = v) (bw G (fun _ : Unit => ([] : va_W)) A) A)) (by decide) (Nat.le_of_ble_eq_true rfl) ?_
  intro p e s m below meth c A ls hx hb hr hlk hml hts hown hA hP hK hD hE hS hl
  have hown : s.vm.findClass RX6 = some m.cls := hown
  have hg : ∀ w ∈ lw_g, w.before ([.int x0] : List Value).toArray s = true := fun w h => hts w (List.mem_cons_of_mem _ h)
  have hC : CallFix p m c cX6_most 1 s ([.int x0] : List Value).toArray (Cond.code yX6_most cX6_most 1 (some .int) :: lw_g) RX6 := ⟨hx, hb, hml, hown, hts⟩
  have hl : lv_has ls 1 [(0, .int x0)] := hl
  rw [f_X6_most] at hf
  refine lv_iload_n hx hb dX6_most_0 rfl (lv_at hl 0 rfl) ?_
  refine lv_if_ne (tgt := 10) hx hb dX6_most_1 (by decide) (fun c1 => ?_) (fun c1 => ?_)
  · have hf := tn hf c1
    refine lv_iload_n hx hb dX6_most_10 rfl (lv_at hl 0 rfl) ?_
    refine lv_iconst (v := (1 : Int32)) hx hb dX6_most_11 (by decide) ?_
    refine lv_icmp_ne (tgt := 19) hx hb dX6_most_12 (by decide) (fun c2 => ?_) (fun c2 => ?_)
    · have hf := tn hf c2
      refine lv_iload_n hx hb dX6_most_19 rfl (lv_at hl 0 rfl) ?_
      refine lv_iconst (v := (2 : Int32)) hx hb dX6_most_20 (by decide) ?_
      refine lv_icmp_ne (tgt := 29) hx hb dX6_most_21 (by decide) (fun c3 => ?_) (fun c3 => ?_)
      · have hf := tn hf c3
        refine lv_iload_n hx hb dX6_most_29 rfl (lv_at hl 0 rfl) ?_
        refine lv_iconst (v := (3 : Int32)) hx hb dX6_most_30 (by decide) ?_
        refine lv_icmp_ne (tgt := 38) hx hb dX6_most_31 (by decide) (fun c4 => ?_) (fun c4 => ?_)
        · have hf := tn hf c4
          refine lv_sipush (v := (500 : Int32)) hx hb dX6_most_38 (by decide) ?_
          have hf := Option.some.inj hf
          subst hf
          exact e_i (wf := (fun _ : Unit => ([] : va_W))) hx hb hr hlk () ⟨rfl, rfl⟩ hP hK hD hS dX6_most_41
        · have hf := tp hf c4
          refine lv_iconst (v := (3 : Int32)) hx hb dX6_most_34 (by decide) ?_
          refine lv_goto (tgt := 41) hx hb dX6_most_35 (by decide) ?_
          have hf := Option.some.inj hf
          subst hf
          exact e_i (wf := (fun _ : Unit => ([] : va_W))) hx hb hr hlk () ⟨rfl, rfl⟩ hP hK hD hS dX6_most_41
      · have hf := tp hf c3
        refine lv_bipush (v := (8 : Int32)) hx hb dX6_most_24 (by decide) ?_
        refine lv_goto (tgt := 41) hx hb dX6_most_26 (by decide) ?_
        have hf := Option.some.inj hf
        subst hf
        exact e_i (wf := (fun _ : Unit => ([] : va_W))) hx hb hr hlk () ⟨rfl, rfl⟩ hP hK hD hS dX6_most_41
    · have hf := tp hf c2
      refine lv_iconst (v := (5 : Int32)) hx hb dX6_most_15 (by decide) ?_
      refine lv_goto (tgt := 41) hx hb dX6_most_16 (by decide) ?_
      have hf := Option.some.inj hf
      subst hf
      exact e_i (wf := (fun _ : Unit => ([] : va_W))) hx hb hr hlk () ⟨rfl, rfl⟩ hP hK hD hS dX6_most_41
  · have hf := tp hf c1
    refine lv_sipush (v := (200 : Int32)) hx hb dX6_most_4 (by decide) ?_
    refine lv_goto (tgt := 41) hx hb dX6_most_7 (by decide) ?_
    have hf := Option.some.inj hf
    subst hf
    exact e_i (wf := (fun _ : Unit => ([] : va_W))) hx hb hr hlk () ⟨rfl, rfl⟩ hP hK hD hS dX6_most_41
set_option maxRecDepth 100000 in
set_option maxHeartbeats 4000000 in
theorem c_X6_settingHere {l : Launch} {G : Gp} {sz N : Nat} {h0 : Nat} {a0 : Nat → Nat} {u0 : Ob} {q : Int32 × Ob} (hf : f_X6_settingHere N u0 = some q) : Met l yX6_settingHere (Cond.code yX6_settingHere cX6_settingHere 1 (some .int) :: lw_g) ({ frames := 5, cells := 0, slots := 0, locals := 107 } : Room) (va_Pc [.ref h0] (pw G (wX6 G h0 a0 u0) sz)) (va_Qi (fun (r : Int32) (v : Ob) => q.1 = r ∧ q.2 = v) (bw G (fun v : Ob => (wX6 G h0 a0 v)) (va_A (wX6 G h0 a0 u0) sz)) (va_A (wX6 G h0 a0 u0) sz)) 0 0 (va_A (wX6 G h0 a0 u0) sz) := by
  refine mt (Qc := (fun A => va_Qi (fun (r : Int32) (v : Ob) => q.1 = r ∧ q.2 = v) (bw G (fun v : Ob => (wX6 G h0 a0 v)) A) A)) (by decide) (Nat.le_of_ble_eq_true rfl) ?_
  intro p e s m below meth c A ls hx hb hr hlk hml hts hown hA hP hK hD hE hS hl
  have hown : s.vm.findClass RX6 = some m.cls := hown
  have hg : ∀ w ∈ lw_g, w.before ([.ref h0] : List Value).toArray s = true := fun w h => hts w (List.mem_cons_of_mem _ h)
  have hC : CallFix p m c cX6_settingHere 1 s ([.ref h0] : List Value).toArray (Cond.code yX6_settingHere cX6_settingHere 1 (some .int) :: lw_g) RX6 := ⟨hx, hb, hml, hown, hts⟩
  have hl : lv_has ls 1 [(0, .ref h0)] := hl
  rw [f_X6_settingHere] at hf
  refine lv_aload_n hx hb dX6_settingHere_0 rfl (lv_at hl 0 rfl) ?_
  refine va_ldcS (q := gE G (10 + 2 * 0)) hx hb hown (hE.2.1 (RX6, 206, "tolerance", 0) (by decide +kernel)) dX6_settingHere_1 ?_
  obtain ⟨q1, e2, hf⟩ := tbd hf
  refine kVi1 (As := [.ref (gE G (10 + 2 * 0))]) (rest := []) hC (c_X6_isWord (G := G) (hi := by decide) e2) kq5_185 kc_X6_isWord (by decide) 0 (ci := 4) rfl rfl hP hK hD hE hS hA hl.1 (Nat.le_of_ble_eq_true rfl) ⟨Nat.zero_le _, Nat.zero_le _⟩ dX6_settingHere_3 (fun r9 u9 H locs hw hP hD hS => ?_)
  obtain ⟨rfl, rfl⟩ := hw
  have hP : va_P (gD G) vwCl (wX6 G h0 a0 q1.2) H := hP
  have hD : va_D A (wX6 G h0 a0 q1.2) := hD
  refine bz_eq (tgt := 13) hx hb dX6_settingHere_6 (by decide) (fun c3 => ?_) (fun c3 => ?_)
  · have hf := tn hf c3
    refine lv_aload_n hx hb dX6_settingHere_13 rfl (lv_at hl 0 rfl) ?_
    refine va_ldcS (q := gE G (10 + 2 * 1)) hx hb hown (hE.2.1 (RX6, 212, "quorum", 1) (by decide +kernel)) dX6_settingHere_14 ?_
    obtain ⟨q4, e5, hf⟩ := tbd hf
    refine kVi1 (As := [.ref (gE G (10 + 2 * 1))]) (rest := []) hC (c_X6_isWord (G := G) (hi := by decide) e5) kq5_185 kc_X6_isWord (by decide) 0 (ci := 4) rfl rfl hP hK hD hE hS hA hl.1 (Nat.le_of_ble_eq_true rfl) ⟨Nat.zero_le _, Nat.zero_le _⟩ dX6_settingHere_16 (fun r9 u9 H locs hw hP hD hS => ?_)
    obtain ⟨rfl, rfl⟩ := hw
    have hP : va_P (gD G) vwCl (wX6 G h0 a0 q4.2) H := hP
    have hD : va_D A (wX6 G h0 a0 q4.2) := hD
    refine bz_eq (tgt := 26) hx hb dX6_settingHere_19 (by decide) (fun c6 => ?_) (fun c6 => ?_)
    · have hf := tn hf c6
      refine lv_aload_n hx hb dX6_settingHere_26 rfl (lv_at hl 0 rfl) ?_
      refine va_ldcS (q := gE G (10 + 2 * 2)) hx hb hown (hE.2.1 (RX6, 214, "window", 2) (by decide +kernel)) dX6_settingHere_27 ?_
      obtain ⟨q7, e8, hf⟩ := tbd hf
      refine kVi1 (As := [.ref (gE G (10 + 2 * 2))]) (rest := []) hC (c_X6_isWord (G := G) (hi := by decide) e8) kq5_185 kc_X6_isWord (by decide) 0 (ci := 4) rfl rfl hP hK hD hE hS hA hl.1 (Nat.le_of_ble_eq_true rfl) ⟨Nat.zero_le _, Nat.zero_le _⟩ dX6_settingHere_29 (fun r9 u9 H locs hw hP hD hS => ?_)
      obtain ⟨rfl, rfl⟩ := hw
      have hP : va_P (gD G) vwCl (wX6 G h0 a0 q7.2) H := hP
      have hD : va_D A (wX6 G h0 a0 q7.2) := hD
      refine bz_eq (tgt := 39) hx hb dX6_settingHere_32 (by decide) (fun c9 => ?_) (fun c9 => ?_)
      · have hf := tn hf c9
        refine lv_aload_n hx hb dX6_settingHere_39 rfl (lv_at hl 0 rfl) ?_
        refine va_ldcS (q := gE G (10 + 2 * 3)) hx hb hown (hE.2.1 (RX6, 216, "mend", 3) (by decide +kernel)) dX6_settingHere_40 ?_
        obtain ⟨q10, e11, hf⟩ := tbd hf
        refine kVi1 (As := [.ref (gE G (10 + 2 * 3))]) (rest := []) hC (c_X6_isWord (G := G) (hi := by decide) e11) kq5_185 kc_X6_isWord (by decide) 0 (ci := 4) rfl rfl hP hK hD hE hS hA hl.1 (Nat.le_of_ble_eq_true rfl) ⟨Nat.zero_le _, Nat.zero_le _⟩ dX6_settingHere_42 (fun r9 u9 H locs hw hP hD hS => ?_)
        obtain ⟨rfl, rfl⟩ := hw
        have hP : va_P (gD G) vwCl (wX6 G h0 a0 q10.2) H := hP
        have hD : va_D A (wX6 G h0 a0 q10.2) := hD
        refine bz_eq (tgt := 52) hx hb dX6_settingHere_45 (by decide) (fun c12 => ?_) (fun c12 => ?_)
        · have hf := tn hf c12
          refine lv_aload_n hx hb dX6_settingHere_52 rfl (lv_at hl 0 rfl) ?_
          refine va_ldcS (q := gE G (10 + 2 * 4)) hx hb hown (hE.2.1 (RX6, 218, "drift", 4) (by decide +kernel)) dX6_settingHere_53 ?_
          obtain ⟨q13, e14, hf⟩ := tbd hf
          refine kVi1 (As := [.ref (gE G (10 + 2 * 4))]) (rest := []) hC (c_X6_isWord (G := G) (hi := by decide) e14) kq5_185 kc_X6_isWord (by decide) 0 (ci := 4) rfl rfl hP hK hD hE hS hA hl.1 (Nat.le_of_ble_eq_true rfl) ⟨Nat.zero_le _, Nat.zero_le _⟩ dX6_settingHere_55 (fun r9 u9 H locs hw hP hD hS => ?_)
          obtain ⟨rfl, rfl⟩ := hw
          have hP : va_P (gD G) vwCl (wX6 G h0 a0 q13.2) H := hP
          have hD : va_D A (wX6 G h0 a0 q13.2) := hD
          refine bz_eq (tgt := 65) hx hb dX6_settingHere_58 (by decide) (fun c15 => ?_) (fun c15 => ?_)
          · have hf := tn hf c15
            refine lv_iconst (v := (-1 : Int32)) hx hb dX6_settingHere_65 (by decide) ?_
            have hf := Option.some.inj hf
            subst hf
            exact e_i (wf := (fun v : Ob => (wX6 G h0 a0 v))) hx hb hr hlk q13.2 ⟨rfl, rfl⟩ hP hK hD hS dX6_settingHere_66
          · have hf := tp hf c15
            refine lv_iconst (v := (4 : Int32)) hx hb dX6_settingHere_61 (by decide) ?_
            refine lv_goto (tgt := 66) hx hb dX6_settingHere_62 (by decide) ?_
            have hf := Option.some.inj hf
            subst hf
            exact e_i (wf := (fun v : Ob => (wX6 G h0 a0 v))) hx hb hr hlk q13.2 ⟨rfl, rfl⟩ hP hK hD hS dX6_settingHere_66
        · have hf := tp hf c12
          refine lv_iconst (v := (3 : Int32)) hx hb dX6_settingHere_48 (by decide) ?_
          refine lv_goto (tgt := 66) hx hb dX6_settingHere_49 (by decide) ?_
          have hf := Option.some.inj hf
          subst hf
          exact e_i (wf := (fun v : Ob => (wX6 G h0 a0 v))) hx hb hr hlk q10.2 ⟨rfl, rfl⟩ hP hK hD hS dX6_settingHere_66
      · have hf := tp hf c9
        refine lv_iconst (v := (2 : Int32)) hx hb dX6_settingHere_35 (by decide) ?_
        refine lv_goto (tgt := 66) hx hb dX6_settingHere_36 (by decide) ?_
        have hf := Option.some.inj hf
        subst hf
        exact e_i (wf := (fun v : Ob => (wX6 G h0 a0 v))) hx hb hr hlk q7.2 ⟨rfl, rfl⟩ hP hK hD hS dX6_settingHere_66
    · have hf := tp hf c6
      refine lv_iconst (v := (1 : Int32)) hx hb dX6_settingHere_22 (by decide) ?_
      refine lv_goto (tgt := 66) hx hb dX6_settingHere_23 (by decide) ?_
      have hf := Option.some.inj hf
      subst hf
      exact e_i (wf := (fun v : Ob => (wX6 G h0 a0 v))) hx hb hr hlk q4.2 ⟨rfl, rfl⟩ hP hK hD hS dX6_settingHere_66
  · have hf := tp hf c3
    refine lv_iconst (v := (0 : Int32)) hx hb dX6_settingHere_9 (by decide) ?_
    refine lv_goto (tgt := 66) hx hb dX6_settingHere_10 (by decide) ?_
    have hf := Option.some.inj hf
    subst hf
    exact e_i (wf := (fun v : Ob => (wX6 G h0 a0 v))) hx hb hr hlk q1.2 ⟨rfl, rfl⟩ hP hK hD hS dX6_settingHere_66
set_option maxRecDepth 100000 in
set_option maxHeartbeats 4000000 in
theorem c_X6_sets {l : Launch} {G : Gp} {sz N : Nat} {x1 : Int32} {x2 : Int32} {h0 : Nat} {a0 : Nat → Nat} {u0 : Ob} {q : Int32 × Ob} (hf : f_X6_sets N x1 x2 u0 = some q) : Met l yX6_sets (Cond.code yX6_sets cX6_sets 4 (some .int) :: lw_g) ({ frames := 0, cells := 0, slots := 0, locals := 0 } : Room) (va_Pc [.ref h0, .int x1, .int x2] (pw G (wX6 G h0 a0 u0) sz)) (va_Qi (fun (r : Int32) (v : Ob) => q.1 = r ∧ q.2 = v) (bw G (fun v : Ob => (wX6 G h0 a0 v)) (va_A (wX6 G h0 a0 u0) sz)) (va_A (wX6 G h0 a0 u0) sz)) 0 0 (va_A (wX6 G h0 a0 u0) sz) := by
  refine mt (Qc := (fun A => va_Qi (fun (r : Int32) (v : Ob) => q.1 = r ∧ q.2 = v) (bw G (fun v : Ob => (wX6 G h0 a0 v)) A) A)) (by decide) (Nat.le_of_ble_eq_true rfl) ?_
  intro p e s m below meth c A ls hx hb hr hlk hml hts hown hA hP hK hD hE hS hl
  have hown : s.vm.findClass RX6 = some m.cls := hown
  have hg : ∀ w ∈ lw_g, w.before ([.ref h0, .int x1, .int x2] : List Value).toArray s = true := fun w h => hts w (List.mem_cons_of_mem _ h)
  have hC : CallFix p m c cX6_sets 4 s ([.ref h0, .int x1, .int x2] : List Value).toArray (Cond.code yX6_sets cX6_sets 4 (some .int) :: lw_g) RX6 := ⟨hx, hb, hml, hown, hts⟩
  have hl : lv_has ls 4 [(0, .ref h0), (1, .int x1), (2, .int x2)] := hl
  rw [f_X6_sets] at hf
  refine lv_aload_n hx hb dX6_sets_0 rfl (lv_at hl 0 rfl) ?_
  refine va_get (D := gD G) (ci := 4) (v := .ref (a0 0)) (C := RX6) (T := TX6) (N := 22) hx hb hg kl_X6 hown hK hP 0 rfl rfl 0 (by decide) (hg _ kq5_5) (fun _ h9 => h9) rfl dX6_sets_1 ?_
  refine lv_iload_n hx hb dX6_sets_4 rfl (lv_at hl 1 rfl) ?_
  obtain ⟨b1, hf⟩ := tno hf
  refine va_lald (f := (u0.2.2.2 0)) hx hb hK hP 1 2 rfl rfl b1 dX6_sets_5 ?_
  refine lv_l2i (v := ((u0.2.2.2 0) x1.toNatClampNeg).toInt32) hx hb dX6_sets_6 rfl ?_
  refine lv_istore_n (lv' := [(3, .int ((u0.2.2.2 0) x1.toNatClampNeg).toInt32), (0, .ref h0), (1, .int x1), (2, .int x2)]) hx hb dX6_sets_7 rfl hl (by decide) rfl (fun ls hl => ?_)
  refine lv_aload_n hx hb dX6_sets_8 rfl (lv_at hl 1 rfl) ?_
  refine va_get (D := gD G) (ci := 4) (v := .ref (a0 0)) (C := RX6) (T := TX6) (N := 22) hx hb hg kl_X6 hown hK hP 0 rfl rfl 0 (by decide) (hg _ kq5_5) (fun _ h9 => h9) rfl dX6_sets_9 ?_
  refine lv_iload_n hx hb dX6_sets_12 rfl (lv_at hl 2 rfl) ?_
  refine lv_iload_n hx hb dX6_sets_13 rfl (lv_at hl 3 rfl) ?_
  refine lv_i2l (v := x2.toInt64) hx hb dX6_sets_14 rfl ?_
  obtain ⟨b2, hf⟩ := tno hf
  refine va_last (f := (u0.2.2.2 0)) hx hb hK hP hD hS 1 2 rfl rfl b2 dX6_sets_15 (fun H locs hP hD hS => ?_)
  have hP : va_P (gD G) vwCl (wX6 G h0 a0 (oj u0 0 (vp_updL (u0.2.2.2 0) x1.toNatClampNeg x2.toInt64))) H := hP
  have hD : va_D A (wX6 G h0 a0 (oj u0 0 (vp_updL (u0.2.2.2 0) x1.toNatClampNeg x2.toInt64))) := hD
  refine lv_aload_n hx hb dX6_sets_16 rfl (lv_at hl 1 rfl) ?_
  refine va_get (D := gD G) (ci := 4) (v := .ref (a0 0)) (C := RX6) (T := TX6) (N := 22) hx hb hg kl_X6 hown hK hP 0 rfl rfl 0 (by decide) (hg _ kq5_5) (fun _ h9 => h9) rfl dX6_sets_17 ?_
  refine lv_bipush (v := (12 : Int32)) hx hb dX6_sets_20 (by decide) ?_
  refine va_lald (f := (vp_updL (u0.2.2.2 0) x1.toNatClampNeg x2.toInt64)) hx hb hK hP 1 2 rfl rfl (vin (by decide)) dX6_sets_22 ?_
  refine lv_aload_n hx hb dX6_sets_23 rfl (lv_at hl 1 rfl) ?_
  refine va_get (D := gD G) (ci := 4) (v := .ref (a0 0)) (C := RX6) (T := TX6) (N := 22) hx hb hg kl_X6 hown hK hP 0 rfl rfl 0 (by decide) (hg _ kq5_5) (fun _ h9 => h9) rfl dX6_sets_24 ?_
  refine lv_iconst (v := (2 : Int32)) hx hb dX6_sets_27 (by decide) ?_
  refine va_lald (f := (vp_updL (u0.2.2.2 0) x1.toNatClampNeg x2.toInt64)) hx hb hK hP 1 2 rfl rfl (vin (by decide)) dX6_sets_28 ?_
  refine lc_le (tgt := 46) hx hb dX6_sets_29 dX6_sets_30 (by decide) (fun c3 => ?_) (fun c3 => ?_)
  · have hf := tp hf c3
    refine lv_iload_n hx hb dX6_sets_46 rfl (lv_at hl 0 rfl) ?_
    have hf := Option.some.inj hf
    subst hf
    exact e_i (wf := (fun v : Ob => (wX6 G h0 a0 v))) hx hb hr hlk (oj u0 0 (vp_updL (u0.2.2.2 0) x1.toNatClampNeg x2.toInt64)) ⟨rfl, rfl⟩ hP hK hD hS dX6_sets_47
  · have hf := tn hf c3
    refine lv_aload_n hx hb dX6_sets_33 rfl (lv_at hl 1 rfl) ?_
    refine va_get (D := gD G) (ci := 4) (v := .ref (a0 0)) (C := RX6) (T := TX6) (N := 22) hx hb hg kl_X6 hown hK hP 0 rfl rfl 0 (by decide) (hg _ kq5_5) (fun _ h9 => h9) rfl dX6_sets_34 ?_
    refine lv_bipush (v := (12 : Int32)) hx hb dX6_sets_37 (by decide) ?_
    refine lv_aload_n hx hb dX6_sets_39 rfl (lv_at hl 1 rfl) ?_
    refine va_get (D := gD G) (ci := 4) (v := .ref (a0 0)) (C := RX6) (T := TX6) (N := 22) hx hb hg kl_X6 hown hK hP 0 rfl rfl 0 (by decide) (hg _ kq5_5) (fun _ h9 => h9) rfl dX6_sets_40 ?_
    refine lv_iconst (v := (2 : Int32)) hx hb dX6_sets_43 (by decide) ?_
    refine va_lald (f := (vp_updL (u0.2.2.2 0) x1.toNatClampNeg x2.toInt64)) hx hb hK hP 1 2 rfl rfl (vin (by decide)) dX6_sets_44 ?_
    refine va_last (f := (vp_updL (u0.2.2.2 0) x1.toNatClampNeg x2.toInt64)) hx hb hK hP hD hS 1 2 rfl rfl (vin (by decide)) dX6_sets_45 (fun H locs hP hD hS => ?_)
    have hP : va_P (gD G) vwCl (wX6 G h0 a0 (oj (oj u0 0 (vp_updL (u0.2.2.2 0) x1.toNatClampNeg x2.toInt64)) 0 (vp_updL (vp_updL (u0.2.2.2 0) x1.toNatClampNeg x2.toInt64) (12 : Int32).toNatClampNeg ((vp_updL (u0.2.2.2 0) x1.toNatClampNeg x2.toInt64) (2 : Int32).toNatClampNeg)))) H := hP
    have hD : va_D A (wX6 G h0 a0 (oj (oj u0 0 (vp_updL (u0.2.2.2 0) x1.toNatClampNeg x2.toInt64)) 0 (vp_updL (vp_updL (u0.2.2.2 0) x1.toNatClampNeg x2.toInt64) (12 : Int32).toNatClampNeg ((vp_updL (u0.2.2.2 0) x1.toNatClampNeg x2.toInt64) (2 : Int32).toNatClampNeg)))) := hD
    refine lv_iload_n hx hb dX6_sets_46 rfl (lv_at hl 0 rfl) ?_
    have hf := Option.some.inj hf
    subst hf
    exact e_i (wf := (fun v : Ob => (wX6 G h0 a0 v))) hx hb hr hlk (oj (oj u0 0 (vp_updL (u0.2.2.2 0) x1.toNatClampNeg x2.toInt64)) 0 (vp_updL (vp_updL (u0.2.2.2 0) x1.toNatClampNeg x2.toInt64) (12 : Int32).toNatClampNeg ((vp_updL (u0.2.2.2 0) x1.toNatClampNeg x2.toInt64) (2 : Int32).toNatClampNeg))) ⟨rfl, rfl⟩ hP hK hD hS dX6_sets_47
set_option maxRecDepth 100000 in
set_option maxHeartbeats 4000000 in
theorem c_X6_readsSetting {l : Launch} {G : Gp} {sz N : Nat} {x1 : Int32} {h0 : Nat} {a0 : Nat → Nat} {u0 : Ob} {q : Ob} (hf : f_X6_readsSetting N x1 u0 = some q) : Met l yX6_readsSetting (Cond.code yX6_readsSetting cX6_readsSetting 4 none :: lw_g) ({ frames := 4, cells := 0, slots := 0, locals := 90 } : Room) (va_Pc [.ref h0, .int x1] (pw G (wX6 G h0 a0 u0) sz)) (va_Qv (fun v : Ob => q = v) (bw G (fun v : Ob => (wX6 G h0 a0 v)) (va_A (wX6 G h0 a0 u0) sz)) (va_A (wX6 G h0 a0 u0) sz)) 0 0 (va_A (wX6 G h0 a0 u0) sz) := by
  refine mt (Qc := (fun A => va_Qv (fun v : Ob => q = v) (bw G (fun v : Ob => (wX6 G h0 a0 v)) A) A)) (by decide) (Nat.le_of_ble_eq_true rfl) ?_
  intro p e s m below meth c A ls hx hb hr hlk hml hts hown hA hP hK hD hE hS hl
  have hown : s.vm.findClass RX6 = some m.cls := hown
  have hg : ∀ w ∈ lw_g, w.before ([.ref h0, .int x1] : List Value).toArray s = true := fun w h => hts w (List.mem_cons_of_mem _ h)
  have hC : CallFix p m c cX6_readsSetting 4 s ([.ref h0, .int x1] : List Value).toArray (Cond.code yX6_readsSetting cX6_readsSetting 4 none :: lw_g) RX6 := ⟨hx, hb, hml, hown, hts⟩
  have hl : lv_has ls 4 [(0, .ref h0), (1, .int x1)] := hl
  rw [f_X6_readsSetting] at hf
  refine lv_aload_n hx hb dX6_readsSetting_0 rfl (lv_at hl 0 rfl) ?_
  refine lv_iconst (v := (1 : Int32)) hx hb dX6_readsSetting_1 (by decide) ?_
  obtain ⟨q1, e2, hf⟩ := tbd hf
  refine kVv1 (As := [.int (bI true)]) (rest := []) hC (c_X6_must (G := G) e2) kq5_199 kc_X6_must (by decide) 0 (ci := 4) rfl rfl hP hK hD hE hS hA hl.1 (Nat.le_of_ble_eq_true rfl) ⟨Nat.zero_le _, Nat.zero_le _⟩ dX6_readsSetting_2 (fun u9 H locs hw hP hD hS => ?_)
  obtain rfl := hw
  have hP : va_P (gD G) vwCl (wX6 G h0 a0 q1) H := hP
  have hD : va_D A (wX6 G h0 a0 q1) := hD
  refine lv_iload_n hx hb dX6_readsSetting_5 rfl (lv_at hl 1 rfl) ?_
  refine lv_iconst (v := (4 : Int32)) hx hb dX6_readsSetting_6 (by decide) ?_
  refine lv_icmp_ne (tgt := 42) hx hb dX6_readsSetting_7 (by decide) (fun c3 => ?_) (fun c3 => ?_)
  · have hf := tn hf c3
    refine lv_iconst (v := (0 : Int32)) hx hb dX6_readsSetting_42 (by decide) ?_
    refine lv_istore_n (lv' := [(2, .int (0 : Int32)), (0, .ref h0), (1, .int x1)]) hx hb dX6_readsSetting_43 rfl hl (by decide) rfl (fun ls hl => ?_)
    refine lv_iload_n hx hb dX6_readsSetting_44 rfl (lv_at hl 0 rfl) ?_
    refine lv_if_eq (tgt := 53) hx hb dX6_readsSetting_45 (by decide) (fun c4 => ?_) (fun c4 => ?_)
    rotate_left
    · exact absurd c4 (by decide)
    refine lv_aload_n hx hb dX6_readsSetting_53 rfl (lv_at hl 1 rfl) ?_
    refine lv_iload_n hx hb dX6_readsSetting_54 rfl (lv_at hl 2 rfl) ?_
    refine lv_iconst (v := (4 : Int32)) hx hb dX6_readsSetting_55 (by decide) ?_
    refine lv_icmp_ne (tgt := 63) hx hb dX6_readsSetting_56 (by decide) (fun c5 => ?_) (fun c5 => ?_)
    · have hf := tn hf c5
      refine lv_iload_n hx hb dX6_readsSetting_63 rfl (lv_at hl 2 rfl) ?_
      obtain ⟨q6, e7, hf⟩ := tbd hf
      refine kSi0 (As := [.int x1]) (rest := [.ref h0]) hC (c_X6_least (G := G) e7) kq5_207 kc_X6_least (by decide) hP hK hD hE hS hA hl.1 (Nat.le_of_ble_eq_true rfl) ⟨Nat.zero_le _, Nat.zero_le _⟩ dX6_readsSetting_64 (fun r9 u9 H locs hw hP hD hS => ?_)
      obtain ⟨rfl, rfl⟩ := hw
      refine lv_i2l (v := q6.toInt64) hx hb dX6_readsSetting_67 rfl ?_
      refine lv_iload_n hx hb dX6_readsSetting_68 rfl (lv_at hl 2 rfl) ?_
      obtain ⟨q8, e9, hf⟩ := tbd hf
      refine kSi0 (As := [.int x1]) (rest := [.long q6.toInt64, .ref h0]) hC (c_X6_most (G := G) e9) kq5_210 kc_X6_most (by decide) hP hK hD hE hS hA hl.1 (Nat.le_of_ble_eq_true rfl) ⟨Nat.zero_le _, Nat.zero_le _⟩ dX6_readsSetting_69 (fun r9 u9 H locs hw hP hD hS => ?_)
      obtain ⟨rfl, rfl⟩ := hw
      refine lv_i2l (v := q8.toInt64) hx hb dX6_readsSetting_72 rfl ?_
      obtain ⟨q10, e11, hf⟩ := tbd hf
      refine kVi1 (As := [.long q6.toInt64, .long q8.toInt64]) (rest := []) hC (c_X6_takes (G := G) e11) kq5_213 kc_X6_takes (by decide) 0 (ci := 4) rfl rfl hP hK hD hE hS hA hl.1 (Nat.le_of_ble_eq_true rfl) ⟨Nat.zero_le _, Nat.zero_le _⟩ dX6_readsSetting_73 (fun r9 u9 H locs hw hP hD hS => ?_)
      obtain ⟨rfl, rfl⟩ := hw
      have hP : va_P (gD G) vwCl (wX6 G h0 a0 q10.2) H := hP
      have hD : va_D A (wX6 G h0 a0 q10.2) := hD
      refine lv_istore_n (lv' := [(3, .int q10.1), (2, .int (0 : Int32)), (0, .ref h0), (1, .int x1)]) hx hb dX6_readsSetting_76 rfl hl (by decide) rfl (fun ls hl => ?_)
      refine lv_aload_n hx hb dX6_readsSetting_77 rfl (lv_at hl 2 rfl) ?_
      refine va_get (D := gD G) (ci := 4) (v := .int (q10.2.1 15)) (C := RX6) (T := TX6) (N := 22) hx hb hg kl_X6 hown hK hP 0 rfl rfl 15 (by decide) (hg _ kq5_20) (fun _ h9 => h9) rfl dX6_readsSetting_78 ?_
      refine lv_if_ne (tgt := 100) hx hb dX6_readsSetting_81 (by decide) (fun c12 => ?_) (fun c12 => ?_)
      · have hf := tn hf c12
        have hf := Option.some.inj hf
        subst hf
        exact e_v (wf := (fun v : Ob => (wX6 G h0 a0 v))) hx hb hr hlk q10.2 rfl hP hK hD hS dX6_readsSetting_100
      · have hf := tp hf c12
        refine lv_aload_n hx hb dX6_readsSetting_84 rfl (lv_at hl 2 rfl) ?_
        refine lv_iload_n hx hb dX6_readsSetting_85 rfl (lv_at hl 3 rfl) ?_
        refine lv_iload_n hx hb dX6_readsSetting_86 rfl (lv_at hl 1 rfl) ?_
        refine lv_if_eq (tgt := 95) hx hb dX6_readsSetting_87 (by decide) (fun c13 => ?_) (fun c13 => ?_)
        rotate_left
        · exact absurd c13 (by decide)
        refine lv_iload_n hx hb dX6_readsSetting_95 rfl (lv_at hl 0 rfl) ?_
        obtain ⟨q14, e15, hf⟩ := tbd hf
        refine kVi1 (As := [.int x1, .int q10.1]) (rest := []) hC (c_X6_sets (G := G) e15) kq5_217 kc_X6_sets (by decide) 0 (ci := 4) rfl rfl hP hK hD hE hS hA hl.1 (Nat.le_of_ble_eq_true rfl) ⟨Nat.zero_le _, Nat.zero_le _⟩ dX6_readsSetting_96 (fun r9 u9 H locs hw hP hD hS => ?_)
        obtain ⟨rfl, rfl⟩ := hw
        have hP : va_P (gD G) vwCl (wX6 G h0 a0 q14.2) H := hP
        have hD : va_D A (wX6 G h0 a0 q14.2) := hD
        refine lv_pop hx hb dX6_readsSetting_99 rfl ?_
        have hf := Option.some.inj hf
        subst hf
        exact e_v (wf := (fun v : Ob => (wX6 G h0 a0 v))) hx hb hr hlk q14.2 rfl hP hK hD hS dX6_readsSetting_100
    · have hf := tp hf c5
      refine lv_lconst (v := (0 : Int64)) hx hb dX6_readsSetting_59 (by decide) ?_
      refine lv_goto (tgt := 68) hx hb dX6_readsSetting_60 (by decide) ?_
      refine lv_iload_n hx hb dX6_readsSetting_68 rfl (lv_at hl 2 rfl) ?_
      obtain ⟨q16, e17, hf⟩ := tbd hf
      refine kSi0 (As := [.int x1]) (rest := [.long (0 : Int64), .ref h0]) hC (c_X6_most (G := G) e17) kq5_210 kc_X6_most (by decide) hP hK hD hE hS hA hl.1 (Nat.le_of_ble_eq_true rfl) ⟨Nat.zero_le _, Nat.zero_le _⟩ dX6_readsSetting_69 (fun r9 u9 H locs hw hP hD hS => ?_)
      obtain ⟨rfl, rfl⟩ := hw
      refine lv_i2l (v := q16.toInt64) hx hb dX6_readsSetting_72 rfl ?_
      obtain ⟨q18, e19, hf⟩ := tbd hf
      refine kVi1 (As := [.long (0 : Int64), .long q16.toInt64]) (rest := []) hC (c_X6_takes (G := G) e19) kq5_213 kc_X6_takes (by decide) 0 (ci := 4) rfl rfl hP hK hD hE hS hA hl.1 (Nat.le_of_ble_eq_true rfl) ⟨Nat.zero_le _, Nat.zero_le _⟩ dX6_readsSetting_73 (fun r9 u9 H locs hw hP hD hS => ?_)
      obtain ⟨rfl, rfl⟩ := hw
      have hP : va_P (gD G) vwCl (wX6 G h0 a0 q18.2) H := hP
      have hD : va_D A (wX6 G h0 a0 q18.2) := hD
      refine lv_istore_n (lv' := [(3, .int q18.1), (2, .int (0 : Int32)), (0, .ref h0), (1, .int x1)]) hx hb dX6_readsSetting_76 rfl hl (by decide) rfl (fun ls hl => ?_)
      refine lv_aload_n hx hb dX6_readsSetting_77 rfl (lv_at hl 2 rfl) ?_
      refine va_get (D := gD G) (ci := 4) (v := .int (q18.2.1 15)) (C := RX6) (T := TX6) (N := 22) hx hb hg kl_X6 hown hK hP 0 rfl rfl 15 (by decide) (hg _ kq5_20) (fun _ h9 => h9) rfl dX6_readsSetting_78 ?_
      refine lv_if_ne (tgt := 100) hx hb dX6_readsSetting_81 (by decide) (fun c20 => ?_) (fun c20 => ?_)
      · have hf := tn hf c20
        have hf := Option.some.inj hf
        subst hf
        exact e_v (wf := (fun v : Ob => (wX6 G h0 a0 v))) hx hb hr hlk q18.2 rfl hP hK hD hS dX6_readsSetting_100
      · have hf := tp hf c20
        refine lv_aload_n hx hb dX6_readsSetting_84 rfl (lv_at hl 2 rfl) ?_
        refine lv_iload_n hx hb dX6_readsSetting_85 rfl (lv_at hl 3 rfl) ?_
        refine lv_iload_n hx hb dX6_readsSetting_86 rfl (lv_at hl 1 rfl) ?_
        refine lv_if_eq (tgt := 95) hx hb dX6_readsSetting_87 (by decide) (fun c21 => ?_) (fun c21 => ?_)
        rotate_left
        · exact absurd c21 (by decide)
        refine lv_iload_n hx hb dX6_readsSetting_95 rfl (lv_at hl 0 rfl) ?_
        obtain ⟨q22, e23, hf⟩ := tbd hf
        refine kVi1 (As := [.int x1, .int q18.1]) (rest := []) hC (c_X6_sets (G := G) e23) kq5_217 kc_X6_sets (by decide) 0 (ci := 4) rfl rfl hP hK hD hE hS hA hl.1 (Nat.le_of_ble_eq_true rfl) ⟨Nat.zero_le _, Nat.zero_le _⟩ dX6_readsSetting_96 (fun r9 u9 H locs hw hP hD hS => ?_)
        obtain ⟨rfl, rfl⟩ := hw
        have hP : va_P (gD G) vwCl (wX6 G h0 a0 q22.2) H := hP
        have hD : va_D A (wX6 G h0 a0 q22.2) := hD
        refine lv_pop hx hb dX6_readsSetting_99 rfl ?_
        have hf := Option.some.inj hf
        subst hf
        exact e_v (wf := (fun v : Ob => (wX6 G h0 a0 v))) hx hb hr hlk q22.2 rfl hP hK hD hS dX6_readsSetting_100
  · have hf := tp hf c3
    refine lv_aload_n hx hb dX6_readsSetting_10 rfl (lv_at hl 0 rfl) ?_
    refine va_get (D := gD G) (ci := 4) (v := .int (q1.1 15)) (C := RX6) (T := TX6) (N := 22) hx hb hg kl_X6 hown hK hP 0 rfl rfl 15 (by decide) (hg _ kq5_20) (fun _ h9 => h9) rfl dX6_readsSetting_11 ?_
    refine lv_if_ne (tgt := 42) hx hb dX6_readsSetting_14 (by decide) (fun c24 => ?_) (fun c24 => ?_)
    · have hf := tn hf c24
      refine lv_iconst (v := (0 : Int32)) hx hb dX6_readsSetting_42 (by decide) ?_
      refine lv_istore_n (lv' := [(2, .int (0 : Int32)), (0, .ref h0), (1, .int x1)]) hx hb dX6_readsSetting_43 rfl hl (by decide) rfl (fun ls hl => ?_)
      refine lv_iload_n hx hb dX6_readsSetting_44 rfl (lv_at hl 0 rfl) ?_
      refine lv_if_eq (tgt := 53) hx hb dX6_readsSetting_45 (by decide) (fun c25 => ?_) (fun c25 => ?_)
      rotate_left
      · exact absurd c25 (by decide)
      refine lv_aload_n hx hb dX6_readsSetting_53 rfl (lv_at hl 1 rfl) ?_
      refine lv_iload_n hx hb dX6_readsSetting_54 rfl (lv_at hl 2 rfl) ?_
      refine lv_iconst (v := (4 : Int32)) hx hb dX6_readsSetting_55 (by decide) ?_
      refine lv_icmp_ne (tgt := 63) hx hb dX6_readsSetting_56 (by decide) (fun c26 => ?_) (fun c26 => ?_)
      · have hf := tn hf c26
        refine lv_iload_n hx hb dX6_readsSetting_63 rfl (lv_at hl 2 rfl) ?_
        obtain ⟨q27, e28, hf⟩ := tbd hf
        refine kSi0 (As := [.int x1]) (rest := [.ref h0]) hC (c_X6_least (G := G) e28) kq5_207 kc_X6_least (by decide) hP hK hD hE hS hA hl.1 (Nat.le_of_ble_eq_true rfl) ⟨Nat.zero_le _, Nat.zero_le _⟩ dX6_readsSetting_64 (fun r9 u9 H locs hw hP hD hS => ?_)
        obtain ⟨rfl, rfl⟩ := hw
        refine lv_i2l (v := q27.toInt64) hx hb dX6_readsSetting_67 rfl ?_
        refine lv_iload_n hx hb dX6_readsSetting_68 rfl (lv_at hl 2 rfl) ?_
        obtain ⟨q29, e30, hf⟩ := tbd hf
        refine kSi0 (As := [.int x1]) (rest := [.long q27.toInt64, .ref h0]) hC (c_X6_most (G := G) e30) kq5_210 kc_X6_most (by decide) hP hK hD hE hS hA hl.1 (Nat.le_of_ble_eq_true rfl) ⟨Nat.zero_le _, Nat.zero_le _⟩ dX6_readsSetting_69 (fun r9 u9 H locs hw hP hD hS => ?_)
        obtain ⟨rfl, rfl⟩ := hw
        refine lv_i2l (v := q29.toInt64) hx hb dX6_readsSetting_72 rfl ?_
        obtain ⟨q31, e32, hf⟩ := tbd hf
        refine kVi1 (As := [.long q27.toInt64, .long q29.toInt64]) (rest := []) hC (c_X6_takes (G := G) e32) kq5_213 kc_X6_takes (by decide) 0 (ci := 4) rfl rfl hP hK hD hE hS hA hl.1 (Nat.le_of_ble_eq_true rfl) ⟨Nat.zero_le _, Nat.zero_le _⟩ dX6_readsSetting_73 (fun r9 u9 H locs hw hP hD hS => ?_)
        obtain ⟨rfl, rfl⟩ := hw
        have hP : va_P (gD G) vwCl (wX6 G h0 a0 q31.2) H := hP
        have hD : va_D A (wX6 G h0 a0 q31.2) := hD
        refine lv_istore_n (lv' := [(3, .int q31.1), (2, .int (0 : Int32)), (0, .ref h0), (1, .int x1)]) hx hb dX6_readsSetting_76 rfl hl (by decide) rfl (fun ls hl => ?_)
        refine lv_aload_n hx hb dX6_readsSetting_77 rfl (lv_at hl 2 rfl) ?_
        refine va_get (D := gD G) (ci := 4) (v := .int (q31.2.1 15)) (C := RX6) (T := TX6) (N := 22) hx hb hg kl_X6 hown hK hP 0 rfl rfl 15 (by decide) (hg _ kq5_20) (fun _ h9 => h9) rfl dX6_readsSetting_78 ?_
        refine lv_if_ne (tgt := 100) hx hb dX6_readsSetting_81 (by decide) (fun c33 => ?_) (fun c33 => ?_)
        · have hf := tn hf c33
          have hf := Option.some.inj hf
          subst hf
          exact e_v (wf := (fun v : Ob => (wX6 G h0 a0 v))) hx hb hr hlk q31.2 rfl hP hK hD hS dX6_readsSetting_100
        · have hf := tp hf c33
          refine lv_aload_n hx hb dX6_readsSetting_84 rfl (lv_at hl 2 rfl) ?_
          refine lv_iload_n hx hb dX6_readsSetting_85 rfl (lv_at hl 3 rfl) ?_
          refine lv_iload_n hx hb dX6_readsSetting_86 rfl (lv_at hl 1 rfl) ?_
          refine lv_if_eq (tgt := 95) hx hb dX6_readsSetting_87 (by decide) (fun c34 => ?_) (fun c34 => ?_)
          rotate_left
          · exact absurd c34 (by decide)
          refine lv_iload_n hx hb dX6_readsSetting_95 rfl (lv_at hl 0 rfl) ?_
          obtain ⟨q35, e36, hf⟩ := tbd hf
          refine kVi1 (As := [.int x1, .int q31.1]) (rest := []) hC (c_X6_sets (G := G) e36) kq5_217 kc_X6_sets (by decide) 0 (ci := 4) rfl rfl hP hK hD hE hS hA hl.1 (Nat.le_of_ble_eq_true rfl) ⟨Nat.zero_le _, Nat.zero_le _⟩ dX6_readsSetting_96 (fun r9 u9 H locs hw hP hD hS => ?_)
          obtain ⟨rfl, rfl⟩ := hw
          have hP : va_P (gD G) vwCl (wX6 G h0 a0 q35.2) H := hP
          have hD : va_D A (wX6 G h0 a0 q35.2) := hD
          refine lv_pop hx hb dX6_readsSetting_99 rfl ?_
          have hf := Option.some.inj hf
          subst hf
          exact e_v (wf := (fun v : Ob => (wX6 G h0 a0 v))) hx hb hr hlk q35.2 rfl hP hK hD hS dX6_readsSetting_100
      · have hf := tp hf c26
        refine lv_lconst (v := (0 : Int64)) hx hb dX6_readsSetting_59 (by decide) ?_
        refine lv_goto (tgt := 68) hx hb dX6_readsSetting_60 (by decide) ?_
        refine lv_iload_n hx hb dX6_readsSetting_68 rfl (lv_at hl 2 rfl) ?_
        obtain ⟨q37, e38, hf⟩ := tbd hf
        refine kSi0 (As := [.int x1]) (rest := [.long (0 : Int64), .ref h0]) hC (c_X6_most (G := G) e38) kq5_210 kc_X6_most (by decide) hP hK hD hE hS hA hl.1 (Nat.le_of_ble_eq_true rfl) ⟨Nat.zero_le _, Nat.zero_le _⟩ dX6_readsSetting_69 (fun r9 u9 H locs hw hP hD hS => ?_)
        obtain ⟨rfl, rfl⟩ := hw
        refine lv_i2l (v := q37.toInt64) hx hb dX6_readsSetting_72 rfl ?_
        obtain ⟨q39, e40, hf⟩ := tbd hf
        refine kVi1 (As := [.long (0 : Int64), .long q37.toInt64]) (rest := []) hC (c_X6_takes (G := G) e40) kq5_213 kc_X6_takes (by decide) 0 (ci := 4) rfl rfl hP hK hD hE hS hA hl.1 (Nat.le_of_ble_eq_true rfl) ⟨Nat.zero_le _, Nat.zero_le _⟩ dX6_readsSetting_73 (fun r9 u9 H locs hw hP hD hS => ?_)
        obtain ⟨rfl, rfl⟩ := hw
        have hP : va_P (gD G) vwCl (wX6 G h0 a0 q39.2) H := hP
        have hD : va_D A (wX6 G h0 a0 q39.2) := hD
        refine lv_istore_n (lv' := [(3, .int q39.1), (2, .int (0 : Int32)), (0, .ref h0), (1, .int x1)]) hx hb dX6_readsSetting_76 rfl hl (by decide) rfl (fun ls hl => ?_)
        refine lv_aload_n hx hb dX6_readsSetting_77 rfl (lv_at hl 2 rfl) ?_
        refine va_get (D := gD G) (ci := 4) (v := .int (q39.2.1 15)) (C := RX6) (T := TX6) (N := 22) hx hb hg kl_X6 hown hK hP 0 rfl rfl 15 (by decide) (hg _ kq5_20) (fun _ h9 => h9) rfl dX6_readsSetting_78 ?_
        refine lv_if_ne (tgt := 100) hx hb dX6_readsSetting_81 (by decide) (fun c41 => ?_) (fun c41 => ?_)
        · have hf := tn hf c41
          have hf := Option.some.inj hf
          subst hf
          exact e_v (wf := (fun v : Ob => (wX6 G h0 a0 v))) hx hb hr hlk q39.2 rfl hP hK hD hS dX6_readsSetting_100
        · have hf := tp hf c41
          refine lv_aload_n hx hb dX6_readsSetting_84 rfl (lv_at hl 2 rfl) ?_
          refine lv_iload_n hx hb dX6_readsSetting_85 rfl (lv_at hl 3 rfl) ?_
          refine lv_iload_n hx hb dX6_readsSetting_86 rfl (lv_at hl 1 rfl) ?_
          refine lv_if_eq (tgt := 95) hx hb dX6_readsSetting_87 (by decide) (fun c42 => ?_) (fun c42 => ?_)
          rotate_left
          · exact absurd c42 (by decide)
          refine lv_iload_n hx hb dX6_readsSetting_95 rfl (lv_at hl 0 rfl) ?_
          obtain ⟨q43, e44, hf⟩ := tbd hf
          refine kVi1 (As := [.int x1, .int q39.1]) (rest := []) hC (c_X6_sets (G := G) e44) kq5_217 kc_X6_sets (by decide) 0 (ci := 4) rfl rfl hP hK hD hE hS hA hl.1 (Nat.le_of_ble_eq_true rfl) ⟨Nat.zero_le _, Nat.zero_le _⟩ dX6_readsSetting_96 (fun r9 u9 H locs hw hP hD hS => ?_)
          obtain ⟨rfl, rfl⟩ := hw
          have hP : va_P (gD G) vwCl (wX6 G h0 a0 q43.2) H := hP
          have hD : va_D A (wX6 G h0 a0 q43.2) := hD
          refine lv_pop hx hb dX6_readsSetting_99 rfl ?_
          have hf := Option.some.inj hf
          subst hf
          exact e_v (wf := (fun v : Ob => (wX6 G h0 a0 v))) hx hb hr hlk q43.2 rfl hP hK hD hS dX6_readsSetting_100
    · have hf := tp hf c24
      refine lv_aload_n hx hb dX6_readsSetting_17 rfl (lv_at hl 0 rfl) ?_
      refine va_get (D := gD G) (ci := 4) (v := .int (q1.1 14)) (C := RX6) (T := TX6) (N := 22) hx hb hg kl_X6 hown hK hP 0 rfl rfl 14 (by decide) (hg _ kq5_19) (fun _ h9 => h9) rfl dX6_readsSetting_18 ?_
      refine lv_iconst (v := (2 : Int32)) hx hb dX6_readsSetting_21 (by decide) ?_
      refine lv_icmp_ne (tgt := 42) hx hb dX6_readsSetting_22 (by decide) (fun c45 => ?_) (fun c45 => ?_)
      · have hf := tn hf c45
        refine lv_iconst (v := (0 : Int32)) hx hb dX6_readsSetting_42 (by decide) ?_
        refine lv_istore_n (lv' := [(2, .int (0 : Int32)), (0, .ref h0), (1, .int x1)]) hx hb dX6_readsSetting_43 rfl hl (by decide) rfl (fun ls hl => ?_)
        refine lv_iload_n hx hb dX6_readsSetting_44 rfl (lv_at hl 0 rfl) ?_
        refine lv_if_eq (tgt := 53) hx hb dX6_readsSetting_45 (by decide) (fun c46 => ?_) (fun c46 => ?_)
        rotate_left
        · exact absurd c46 (by decide)
        refine lv_aload_n hx hb dX6_readsSetting_53 rfl (lv_at hl 1 rfl) ?_
        refine lv_iload_n hx hb dX6_readsSetting_54 rfl (lv_at hl 2 rfl) ?_
        refine lv_iconst (v := (4 : Int32)) hx hb dX6_readsSetting_55 (by decide) ?_
        refine lv_icmp_ne (tgt := 63) hx hb dX6_readsSetting_56 (by decide) (fun c47 => ?_) (fun c47 => ?_)
        · have hf := tn hf c47
          refine lv_iload_n hx hb dX6_readsSetting_63 rfl (lv_at hl 2 rfl) ?_
          obtain ⟨q48, e49, hf⟩ := tbd hf
          refine kSi0 (As := [.int x1]) (rest := [.ref h0]) hC (c_X6_least (G := G) e49) kq5_207 kc_X6_least (by decide) hP hK hD hE hS hA hl.1 (Nat.le_of_ble_eq_true rfl) ⟨Nat.zero_le _, Nat.zero_le _⟩ dX6_readsSetting_64 (fun r9 u9 H locs hw hP hD hS => ?_)
          obtain ⟨rfl, rfl⟩ := hw
          refine lv_i2l (v := q48.toInt64) hx hb dX6_readsSetting_67 rfl ?_
          refine lv_iload_n hx hb dX6_readsSetting_68 rfl (lv_at hl 2 rfl) ?_
          obtain ⟨q50, e51, hf⟩ := tbd hf
          refine kSi0 (As := [.int x1]) (rest := [.long q48.toInt64, .ref h0]) hC (c_X6_most (G := G) e51) kq5_210 kc_X6_most (by decide) hP hK hD hE hS hA hl.1 (Nat.le_of_ble_eq_true rfl) ⟨Nat.zero_le _, Nat.zero_le _⟩ dX6_readsSetting_69 (fun r9 u9 H locs hw hP hD hS => ?_)
          obtain ⟨rfl, rfl⟩ := hw
          refine lv_i2l (v := q50.toInt64) hx hb dX6_readsSetting_72 rfl ?_
          obtain ⟨q52, e53, hf⟩ := tbd hf
          refine kVi1 (As := [.long q48.toInt64, .long q50.toInt64]) (rest := []) hC (c_X6_takes (G := G) e53) kq5_213 kc_X6_takes (by decide) 0 (ci := 4) rfl rfl hP hK hD hE hS hA hl.1 (Nat.le_of_ble_eq_true rfl) ⟨Nat.zero_le _, Nat.zero_le _⟩ dX6_readsSetting_73 (fun r9 u9 H locs hw hP hD hS => ?_)
          obtain ⟨rfl, rfl⟩ := hw
          have hP : va_P (gD G) vwCl (wX6 G h0 a0 q52.2) H := hP
          have hD : va_D A (wX6 G h0 a0 q52.2) := hD
          refine lv_istore_n (lv' := [(3, .int q52.1), (2, .int (0 : Int32)), (0, .ref h0), (1, .int x1)]) hx hb dX6_readsSetting_76 rfl hl (by decide) rfl (fun ls hl => ?_)
          refine lv_aload_n hx hb dX6_readsSetting_77 rfl (lv_at hl 2 rfl) ?_
          refine va_get (D := gD G) (ci := 4) (v := .int (q52.2.1 15)) (C := RX6) (T := TX6) (N := 22) hx hb hg kl_X6 hown hK hP 0 rfl rfl 15 (by decide) (hg _ kq5_20) (fun _ h9 => h9) rfl dX6_readsSetting_78 ?_
          refine lv_if_ne (tgt := 100) hx hb dX6_readsSetting_81 (by decide) (fun c54 => ?_) (fun c54 => ?_)
          · have hf := tn hf c54
            have hf := Option.some.inj hf
            subst hf
            exact e_v (wf := (fun v : Ob => (wX6 G h0 a0 v))) hx hb hr hlk q52.2 rfl hP hK hD hS dX6_readsSetting_100
          · have hf := tp hf c54
            refine lv_aload_n hx hb dX6_readsSetting_84 rfl (lv_at hl 2 rfl) ?_
            refine lv_iload_n hx hb dX6_readsSetting_85 rfl (lv_at hl 3 rfl) ?_
            refine lv_iload_n hx hb dX6_readsSetting_86 rfl (lv_at hl 1 rfl) ?_
            refine lv_if_eq (tgt := 95) hx hb dX6_readsSetting_87 (by decide) (fun c55 => ?_) (fun c55 => ?_)
            rotate_left
            · exact absurd c55 (by decide)
            refine lv_iload_n hx hb dX6_readsSetting_95 rfl (lv_at hl 0 rfl) ?_
            obtain ⟨q56, e57, hf⟩ := tbd hf
            refine kVi1 (As := [.int x1, .int q52.1]) (rest := []) hC (c_X6_sets (G := G) e57) kq5_217 kc_X6_sets (by decide) 0 (ci := 4) rfl rfl hP hK hD hE hS hA hl.1 (Nat.le_of_ble_eq_true rfl) ⟨Nat.zero_le _, Nat.zero_le _⟩ dX6_readsSetting_96 (fun r9 u9 H locs hw hP hD hS => ?_)
            obtain ⟨rfl, rfl⟩ := hw
            have hP : va_P (gD G) vwCl (wX6 G h0 a0 q56.2) H := hP
            have hD : va_D A (wX6 G h0 a0 q56.2) := hD
            refine lv_pop hx hb dX6_readsSetting_99 rfl ?_
            have hf := Option.some.inj hf
            subst hf
            exact e_v (wf := (fun v : Ob => (wX6 G h0 a0 v))) hx hb hr hlk q56.2 rfl hP hK hD hS dX6_readsSetting_100
        · have hf := tp hf c47
          refine lv_lconst (v := (0 : Int64)) hx hb dX6_readsSetting_59 (by decide) ?_
          refine lv_goto (tgt := 68) hx hb dX6_readsSetting_60 (by decide) ?_
          refine lv_iload_n hx hb dX6_readsSetting_68 rfl (lv_at hl 2 rfl) ?_
          obtain ⟨q58, e59, hf⟩ := tbd hf
          refine kSi0 (As := [.int x1]) (rest := [.long (0 : Int64), .ref h0]) hC (c_X6_most (G := G) e59) kq5_210 kc_X6_most (by decide) hP hK hD hE hS hA hl.1 (Nat.le_of_ble_eq_true rfl) ⟨Nat.zero_le _, Nat.zero_le _⟩ dX6_readsSetting_69 (fun r9 u9 H locs hw hP hD hS => ?_)
          obtain ⟨rfl, rfl⟩ := hw
          refine lv_i2l (v := q58.toInt64) hx hb dX6_readsSetting_72 rfl ?_
          obtain ⟨q60, e61, hf⟩ := tbd hf
          refine kVi1 (As := [.long (0 : Int64), .long q58.toInt64]) (rest := []) hC (c_X6_takes (G := G) e61) kq5_213 kc_X6_takes (by decide) 0 (ci := 4) rfl rfl hP hK hD hE hS hA hl.1 (Nat.le_of_ble_eq_true rfl) ⟨Nat.zero_le _, Nat.zero_le _⟩ dX6_readsSetting_73 (fun r9 u9 H locs hw hP hD hS => ?_)
          obtain ⟨rfl, rfl⟩ := hw
          have hP : va_P (gD G) vwCl (wX6 G h0 a0 q60.2) H := hP
          have hD : va_D A (wX6 G h0 a0 q60.2) := hD
          refine lv_istore_n (lv' := [(3, .int q60.1), (2, .int (0 : Int32)), (0, .ref h0), (1, .int x1)]) hx hb dX6_readsSetting_76 rfl hl (by decide) rfl (fun ls hl => ?_)
          refine lv_aload_n hx hb dX6_readsSetting_77 rfl (lv_at hl 2 rfl) ?_
          refine va_get (D := gD G) (ci := 4) (v := .int (q60.2.1 15)) (C := RX6) (T := TX6) (N := 22) hx hb hg kl_X6 hown hK hP 0 rfl rfl 15 (by decide) (hg _ kq5_20) (fun _ h9 => h9) rfl dX6_readsSetting_78 ?_
          refine lv_if_ne (tgt := 100) hx hb dX6_readsSetting_81 (by decide) (fun c62 => ?_) (fun c62 => ?_)
          · have hf := tn hf c62
            have hf := Option.some.inj hf
            subst hf
            exact e_v (wf := (fun v : Ob => (wX6 G h0 a0 v))) hx hb hr hlk q60.2 rfl hP hK hD hS dX6_readsSetting_100
          · have hf := tp hf c62
            refine lv_aload_n hx hb dX6_readsSetting_84 rfl (lv_at hl 2 rfl) ?_
            refine lv_iload_n hx hb dX6_readsSetting_85 rfl (lv_at hl 3 rfl) ?_
            refine lv_iload_n hx hb dX6_readsSetting_86 rfl (lv_at hl 1 rfl) ?_
            refine lv_if_eq (tgt := 95) hx hb dX6_readsSetting_87 (by decide) (fun c63 => ?_) (fun c63 => ?_)
            rotate_left
            · exact absurd c63 (by decide)
            refine lv_iload_n hx hb dX6_readsSetting_95 rfl (lv_at hl 0 rfl) ?_
            obtain ⟨q64, e65, hf⟩ := tbd hf
            refine kVi1 (As := [.int x1, .int q60.1]) (rest := []) hC (c_X6_sets (G := G) e65) kq5_217 kc_X6_sets (by decide) 0 (ci := 4) rfl rfl hP hK hD hE hS hA hl.1 (Nat.le_of_ble_eq_true rfl) ⟨Nat.zero_le _, Nat.zero_le _⟩ dX6_readsSetting_96 (fun r9 u9 H locs hw hP hD hS => ?_)
            obtain ⟨rfl, rfl⟩ := hw
            have hP : va_P (gD G) vwCl (wX6 G h0 a0 q64.2) H := hP
            have hD : va_D A (wX6 G h0 a0 q64.2) := hD
            refine lv_pop hx hb dX6_readsSetting_99 rfl ?_
            have hf := Option.some.inj hf
            subst hf
            exact e_v (wf := (fun v : Ob => (wX6 G h0 a0 v))) hx hb hr hlk q64.2 rfl hP hK hD hS dX6_readsSetting_100
      · have hf := tp hf c45
        refine lv_aload_n hx hb dX6_readsSetting_25 rfl (lv_at hl 0 rfl) ?_
        refine lv_aload_n hx hb dX6_readsSetting_26 rfl (lv_at hl 0 rfl) ?_
        refine va_get (D := gD G) (ci := 4) (v := .int (q1.1 12)) (C := RX6) (T := TX6) (N := 22) hx hb hg kl_X6 hown hK hP 0 rfl rfl 12 (by decide) (hg _ kq5_17) (fun _ h9 => h9) rfl dX6_readsSetting_27 ?_
        obtain ⟨q66, e67, hf⟩ := tbd hf
        refine kVi1 (As := [.int (q1.1 12)]) (rest := []) hC (c_X6_see (G := G) e67) kq5_160 kc_X6_see (by decide) 0 (ci := 4) rfl rfl hP hK hD hE hS hA hl.1 (Nat.le_of_ble_eq_true rfl) ⟨Nat.zero_le _, Nat.zero_le _⟩ dX6_readsSetting_30 (fun r9 u9 H locs hw hP hD hS => ?_)
        obtain ⟨rfl, rfl⟩ := hw
        have hP : va_P (gD G) vwCl (wX6 G h0 a0 q1) H := hP
        have hD : va_D A (wX6 G h0 a0 q1) := hD
        refine lv_bipush (v := (45 : Int32)) hx hb dX6_readsSetting_33 (by decide) ?_
        refine lv_icmp_ne (tgt := 42) hx hb dX6_readsSetting_35 (by decide) (fun c68 => ?_) (fun c68 => ?_)
        · have hf := tn hf c68
          refine lv_iconst (v := (0 : Int32)) hx hb dX6_readsSetting_42 (by decide) ?_
          refine lv_istore_n (lv' := [(2, .int (0 : Int32)), (0, .ref h0), (1, .int x1)]) hx hb dX6_readsSetting_43 rfl hl (by decide) rfl (fun ls hl => ?_)
          refine lv_iload_n hx hb dX6_readsSetting_44 rfl (lv_at hl 0 rfl) ?_
          refine lv_if_eq (tgt := 53) hx hb dX6_readsSetting_45 (by decide) (fun c69 => ?_) (fun c69 => ?_)
          rotate_left
          · exact absurd c69 (by decide)
          refine lv_aload_n hx hb dX6_readsSetting_53 rfl (lv_at hl 1 rfl) ?_
          refine lv_iload_n hx hb dX6_readsSetting_54 rfl (lv_at hl 2 rfl) ?_
          refine lv_iconst (v := (4 : Int32)) hx hb dX6_readsSetting_55 (by decide) ?_
          refine lv_icmp_ne (tgt := 63) hx hb dX6_readsSetting_56 (by decide) (fun c70 => ?_) (fun c70 => ?_)
          · have hf := tn hf c70
            refine lv_iload_n hx hb dX6_readsSetting_63 rfl (lv_at hl 2 rfl) ?_
            obtain ⟨q71, e72, hf⟩ := tbd hf
            refine kSi0 (As := [.int x1]) (rest := [.ref h0]) hC (c_X6_least (G := G) e72) kq5_207 kc_X6_least (by decide) hP hK hD hE hS hA hl.1 (Nat.le_of_ble_eq_true rfl) ⟨Nat.zero_le _, Nat.zero_le _⟩ dX6_readsSetting_64 (fun r9 u9 H locs hw hP hD hS => ?_)
            obtain ⟨rfl, rfl⟩ := hw
            refine lv_i2l (v := q71.toInt64) hx hb dX6_readsSetting_67 rfl ?_
            refine lv_iload_n hx hb dX6_readsSetting_68 rfl (lv_at hl 2 rfl) ?_
            obtain ⟨q73, e74, hf⟩ := tbd hf
            refine kSi0 (As := [.int x1]) (rest := [.long q71.toInt64, .ref h0]) hC (c_X6_most (G := G) e74) kq5_210 kc_X6_most (by decide) hP hK hD hE hS hA hl.1 (Nat.le_of_ble_eq_true rfl) ⟨Nat.zero_le _, Nat.zero_le _⟩ dX6_readsSetting_69 (fun r9 u9 H locs hw hP hD hS => ?_)
            obtain ⟨rfl, rfl⟩ := hw
            refine lv_i2l (v := q73.toInt64) hx hb dX6_readsSetting_72 rfl ?_
            obtain ⟨q75, e76, hf⟩ := tbd hf
            refine kVi1 (As := [.long q71.toInt64, .long q73.toInt64]) (rest := []) hC (c_X6_takes (G := G) e76) kq5_213 kc_X6_takes (by decide) 0 (ci := 4) rfl rfl hP hK hD hE hS hA hl.1 (Nat.le_of_ble_eq_true rfl) ⟨Nat.zero_le _, Nat.zero_le _⟩ dX6_readsSetting_73 (fun r9 u9 H locs hw hP hD hS => ?_)
            obtain ⟨rfl, rfl⟩ := hw
            have hP : va_P (gD G) vwCl (wX6 G h0 a0 q75.2) H := hP
            have hD : va_D A (wX6 G h0 a0 q75.2) := hD
            refine lv_istore_n (lv' := [(3, .int q75.1), (2, .int (0 : Int32)), (0, .ref h0), (1, .int x1)]) hx hb dX6_readsSetting_76 rfl hl (by decide) rfl (fun ls hl => ?_)
            refine lv_aload_n hx hb dX6_readsSetting_77 rfl (lv_at hl 2 rfl) ?_
            refine va_get (D := gD G) (ci := 4) (v := .int (q75.2.1 15)) (C := RX6) (T := TX6) (N := 22) hx hb hg kl_X6 hown hK hP 0 rfl rfl 15 (by decide) (hg _ kq5_20) (fun _ h9 => h9) rfl dX6_readsSetting_78 ?_
            refine lv_if_ne (tgt := 100) hx hb dX6_readsSetting_81 (by decide) (fun c77 => ?_) (fun c77 => ?_)
            · have hf := tn hf c77
              have hf := Option.some.inj hf
              subst hf
              exact e_v (wf := (fun v : Ob => (wX6 G h0 a0 v))) hx hb hr hlk q75.2 rfl hP hK hD hS dX6_readsSetting_100
            · have hf := tp hf c77
              refine lv_aload_n hx hb dX6_readsSetting_84 rfl (lv_at hl 2 rfl) ?_
              refine lv_iload_n hx hb dX6_readsSetting_85 rfl (lv_at hl 3 rfl) ?_
              refine lv_iload_n hx hb dX6_readsSetting_86 rfl (lv_at hl 1 rfl) ?_
              refine lv_if_eq (tgt := 95) hx hb dX6_readsSetting_87 (by decide) (fun c78 => ?_) (fun c78 => ?_)
              rotate_left
              · exact absurd c78 (by decide)
              refine lv_iload_n hx hb dX6_readsSetting_95 rfl (lv_at hl 0 rfl) ?_
              obtain ⟨q79, e80, hf⟩ := tbd hf
              refine kVi1 (As := [.int x1, .int q75.1]) (rest := []) hC (c_X6_sets (G := G) e80) kq5_217 kc_X6_sets (by decide) 0 (ci := 4) rfl rfl hP hK hD hE hS hA hl.1 (Nat.le_of_ble_eq_true rfl) ⟨Nat.zero_le _, Nat.zero_le _⟩ dX6_readsSetting_96 (fun r9 u9 H locs hw hP hD hS => ?_)
              obtain ⟨rfl, rfl⟩ := hw
              have hP : va_P (gD G) vwCl (wX6 G h0 a0 q79.2) H := hP
              have hD : va_D A (wX6 G h0 a0 q79.2) := hD
              refine lv_pop hx hb dX6_readsSetting_99 rfl ?_
              have hf := Option.some.inj hf
              subst hf
              exact e_v (wf := (fun v : Ob => (wX6 G h0 a0 v))) hx hb hr hlk q79.2 rfl hP hK hD hS dX6_readsSetting_100
          · have hf := tp hf c70
            refine lv_lconst (v := (0 : Int64)) hx hb dX6_readsSetting_59 (by decide) ?_
            refine lv_goto (tgt := 68) hx hb dX6_readsSetting_60 (by decide) ?_
            refine lv_iload_n hx hb dX6_readsSetting_68 rfl (lv_at hl 2 rfl) ?_
            obtain ⟨q81, e82, hf⟩ := tbd hf
            refine kSi0 (As := [.int x1]) (rest := [.long (0 : Int64), .ref h0]) hC (c_X6_most (G := G) e82) kq5_210 kc_X6_most (by decide) hP hK hD hE hS hA hl.1 (Nat.le_of_ble_eq_true rfl) ⟨Nat.zero_le _, Nat.zero_le _⟩ dX6_readsSetting_69 (fun r9 u9 H locs hw hP hD hS => ?_)
            obtain ⟨rfl, rfl⟩ := hw
            refine lv_i2l (v := q81.toInt64) hx hb dX6_readsSetting_72 rfl ?_
            obtain ⟨q83, e84, hf⟩ := tbd hf
            refine kVi1 (As := [.long (0 : Int64), .long q81.toInt64]) (rest := []) hC (c_X6_takes (G := G) e84) kq5_213 kc_X6_takes (by decide) 0 (ci := 4) rfl rfl hP hK hD hE hS hA hl.1 (Nat.le_of_ble_eq_true rfl) ⟨Nat.zero_le _, Nat.zero_le _⟩ dX6_readsSetting_73 (fun r9 u9 H locs hw hP hD hS => ?_)
            obtain ⟨rfl, rfl⟩ := hw
            have hP : va_P (gD G) vwCl (wX6 G h0 a0 q83.2) H := hP
            have hD : va_D A (wX6 G h0 a0 q83.2) := hD
            refine lv_istore_n (lv' := [(3, .int q83.1), (2, .int (0 : Int32)), (0, .ref h0), (1, .int x1)]) hx hb dX6_readsSetting_76 rfl hl (by decide) rfl (fun ls hl => ?_)
            refine lv_aload_n hx hb dX6_readsSetting_77 rfl (lv_at hl 2 rfl) ?_
            refine va_get (D := gD G) (ci := 4) (v := .int (q83.2.1 15)) (C := RX6) (T := TX6) (N := 22) hx hb hg kl_X6 hown hK hP 0 rfl rfl 15 (by decide) (hg _ kq5_20) (fun _ h9 => h9) rfl dX6_readsSetting_78 ?_
            refine lv_if_ne (tgt := 100) hx hb dX6_readsSetting_81 (by decide) (fun c85 => ?_) (fun c85 => ?_)
            · have hf := tn hf c85
              have hf := Option.some.inj hf
              subst hf
              exact e_v (wf := (fun v : Ob => (wX6 G h0 a0 v))) hx hb hr hlk q83.2 rfl hP hK hD hS dX6_readsSetting_100
            · have hf := tp hf c85
              refine lv_aload_n hx hb dX6_readsSetting_84 rfl (lv_at hl 2 rfl) ?_
              refine lv_iload_n hx hb dX6_readsSetting_85 rfl (lv_at hl 3 rfl) ?_
              refine lv_iload_n hx hb dX6_readsSetting_86 rfl (lv_at hl 1 rfl) ?_
              refine lv_if_eq (tgt := 95) hx hb dX6_readsSetting_87 (by decide) (fun c86 => ?_) (fun c86 => ?_)
              rotate_left
              · exact absurd c86 (by decide)
              refine lv_iload_n hx hb dX6_readsSetting_95 rfl (lv_at hl 0 rfl) ?_
              obtain ⟨q87, e88, hf⟩ := tbd hf
              refine kVi1 (As := [.int x1, .int q83.1]) (rest := []) hC (c_X6_sets (G := G) e88) kq5_217 kc_X6_sets (by decide) 0 (ci := 4) rfl rfl hP hK hD hE hS hA hl.1 (Nat.le_of_ble_eq_true rfl) ⟨Nat.zero_le _, Nat.zero_le _⟩ dX6_readsSetting_96 (fun r9 u9 H locs hw hP hD hS => ?_)
              obtain ⟨rfl, rfl⟩ := hw
              have hP : va_P (gD G) vwCl (wX6 G h0 a0 q87.2) H := hP
              have hD : va_D A (wX6 G h0 a0 q87.2) := hD
              refine lv_pop hx hb dX6_readsSetting_99 rfl ?_
              have hf := Option.some.inj hf
              subst hf
              exact e_v (wf := (fun v : Ob => (wX6 G h0 a0 v))) hx hb hr hlk q87.2 rfl hP hK hD hS dX6_readsSetting_100
        · have hf := tp hf c68
          refine lv_iconst (v := (1 : Int32)) hx hb dX6_readsSetting_38 (by decide) ?_
          refine lv_goto (tgt := 43) hx hb dX6_readsSetting_39 (by decide) ?_
          refine lv_istore_n (lv' := [(2, .int (1 : Int32)), (0, .ref h0), (1, .int x1)]) hx hb dX6_readsSetting_43 rfl hl (by decide) rfl (fun ls hl => ?_)
          refine lv_iload_n hx hb dX6_readsSetting_44 rfl (lv_at hl 0 rfl) ?_
          refine lv_if_eq (tgt := 53) hx hb dX6_readsSetting_45 (by decide) (fun c89 => ?_) (fun c89 => ?_)
          · exact absurd c89 (by decide)
          refine lv_aload_n hx hb dX6_readsSetting_48 rfl (lv_at hl 1 rfl) ?_
          refine lv_iconst (v := (1 : Int32)) hx hb dX6_readsSetting_49 (by decide) ?_
          obtain ⟨q90, e91, hf⟩ := tbd hf
          refine kVv1 (As := [.int (bI true)]) (rest := []) hC (c_X6_must (G := G) e91) kq5_199 kc_X6_must (by decide) 0 (ci := 4) rfl rfl hP hK hD hE hS hA hl.1 (Nat.le_of_ble_eq_true rfl) ⟨Nat.zero_le _, Nat.zero_le _⟩ dX6_readsSetting_50 (fun u9 H locs hw hP hD hS => ?_)
          obtain rfl := hw
          have hP : va_P (gD G) vwCl (wX6 G h0 a0 q90) H := hP
          have hD : va_D A (wX6 G h0 a0 q90) := hD
          refine lv_aload_n hx hb dX6_readsSetting_53 rfl (lv_at hl 1 rfl) ?_
          refine lv_iload_n hx hb dX6_readsSetting_54 rfl (lv_at hl 2 rfl) ?_
          refine lv_iconst (v := (4 : Int32)) hx hb dX6_readsSetting_55 (by decide) ?_
          refine lv_icmp_ne (tgt := 63) hx hb dX6_readsSetting_56 (by decide) (fun c92 => ?_) (fun c92 => ?_)
          · have hf := tn hf c92
            refine lv_iload_n hx hb dX6_readsSetting_63 rfl (lv_at hl 2 rfl) ?_
            obtain ⟨q93, e94, hf⟩ := tbd hf
            refine kSi0 (As := [.int x1]) (rest := [.ref h0]) hC (c_X6_least (G := G) e94) kq5_207 kc_X6_least (by decide) hP hK hD hE hS hA hl.1 (Nat.le_of_ble_eq_true rfl) ⟨Nat.zero_le _, Nat.zero_le _⟩ dX6_readsSetting_64 (fun r9 u9 H locs hw hP hD hS => ?_)
            obtain ⟨rfl, rfl⟩ := hw
            refine lv_i2l (v := q93.toInt64) hx hb dX6_readsSetting_67 rfl ?_
            refine lv_iload_n hx hb dX6_readsSetting_68 rfl (lv_at hl 2 rfl) ?_
            obtain ⟨q95, e96, hf⟩ := tbd hf
            refine kSi0 (As := [.int x1]) (rest := [.long q93.toInt64, .ref h0]) hC (c_X6_most (G := G) e96) kq5_210 kc_X6_most (by decide) hP hK hD hE hS hA hl.1 (Nat.le_of_ble_eq_true rfl) ⟨Nat.zero_le _, Nat.zero_le _⟩ dX6_readsSetting_69 (fun r9 u9 H locs hw hP hD hS => ?_)
            obtain ⟨rfl, rfl⟩ := hw
            refine lv_i2l (v := q95.toInt64) hx hb dX6_readsSetting_72 rfl ?_
            obtain ⟨q97, e98, hf⟩ := tbd hf
            refine kVi1 (As := [.long q93.toInt64, .long q95.toInt64]) (rest := []) hC (c_X6_takes (G := G) e98) kq5_213 kc_X6_takes (by decide) 0 (ci := 4) rfl rfl hP hK hD hE hS hA hl.1 (Nat.le_of_ble_eq_true rfl) ⟨Nat.zero_le _, Nat.zero_le _⟩ dX6_readsSetting_73 (fun r9 u9 H locs hw hP hD hS => ?_)
            obtain ⟨rfl, rfl⟩ := hw
            have hP : va_P (gD G) vwCl (wX6 G h0 a0 q97.2) H := hP
            have hD : va_D A (wX6 G h0 a0 q97.2) := hD
            refine lv_istore_n (lv' := [(3, .int q97.1), (2, .int (1 : Int32)), (0, .ref h0), (1, .int x1)]) hx hb dX6_readsSetting_76 rfl hl (by decide) rfl (fun ls hl => ?_)
            refine lv_aload_n hx hb dX6_readsSetting_77 rfl (lv_at hl 2 rfl) ?_
            refine va_get (D := gD G) (ci := 4) (v := .int (q97.2.1 15)) (C := RX6) (T := TX6) (N := 22) hx hb hg kl_X6 hown hK hP 0 rfl rfl 15 (by decide) (hg _ kq5_20) (fun _ h9 => h9) rfl dX6_readsSetting_78 ?_
            refine lv_if_ne (tgt := 100) hx hb dX6_readsSetting_81 (by decide) (fun c99 => ?_) (fun c99 => ?_)
            · have hf := tn hf c99
              have hf := Option.some.inj hf
              subst hf
              exact e_v (wf := (fun v : Ob => (wX6 G h0 a0 v))) hx hb hr hlk q97.2 rfl hP hK hD hS dX6_readsSetting_100
            · have hf := tp hf c99
              refine lv_aload_n hx hb dX6_readsSetting_84 rfl (lv_at hl 2 rfl) ?_
              refine lv_iload_n hx hb dX6_readsSetting_85 rfl (lv_at hl 3 rfl) ?_
              refine lv_iload_n hx hb dX6_readsSetting_86 rfl (lv_at hl 1 rfl) ?_
              refine lv_if_eq (tgt := 95) hx hb dX6_readsSetting_87 (by decide) (fun c100 => ?_) (fun c100 => ?_)
              · exact absurd c100 (by decide)
              refine lv_iload_n hx hb dX6_readsSetting_90 rfl (lv_at hl 0 rfl) ?_
              refine lv_ineg hx hb dX6_readsSetting_91 ?_
              refine lv_goto (tgt := 96) hx hb dX6_readsSetting_92 (by decide) ?_
              obtain ⟨q101, e102, hf⟩ := tbd hf
              refine kVi1 (As := [.int x1, .int (-q97.1)]) (rest := []) hC (c_X6_sets (G := G) e102) kq5_217 kc_X6_sets (by decide) 0 (ci := 4) rfl rfl hP hK hD hE hS hA hl.1 (Nat.le_of_ble_eq_true rfl) ⟨Nat.zero_le _, Nat.zero_le _⟩ dX6_readsSetting_96 (fun r9 u9 H locs hw hP hD hS => ?_)
              obtain ⟨rfl, rfl⟩ := hw
              have hP : va_P (gD G) vwCl (wX6 G h0 a0 q101.2) H := hP
              have hD : va_D A (wX6 G h0 a0 q101.2) := hD
              refine lv_pop hx hb dX6_readsSetting_99 rfl ?_
              have hf := Option.some.inj hf
              subst hf
              exact e_v (wf := (fun v : Ob => (wX6 G h0 a0 v))) hx hb hr hlk q101.2 rfl hP hK hD hS dX6_readsSetting_100
          · have hf := tp hf c92
            refine lv_lconst (v := (0 : Int64)) hx hb dX6_readsSetting_59 (by decide) ?_
            refine lv_goto (tgt := 68) hx hb dX6_readsSetting_60 (by decide) ?_
            refine lv_iload_n hx hb dX6_readsSetting_68 rfl (lv_at hl 2 rfl) ?_
            obtain ⟨q103, e104, hf⟩ := tbd hf
            refine kSi0 (As := [.int x1]) (rest := [.long (0 : Int64), .ref h0]) hC (c_X6_most (G := G) e104) kq5_210 kc_X6_most (by decide) hP hK hD hE hS hA hl.1 (Nat.le_of_ble_eq_true rfl) ⟨Nat.zero_le _, Nat.zero_le _⟩ dX6_readsSetting_69 (fun r9 u9 H locs hw hP hD hS => ?_)
            obtain ⟨rfl, rfl⟩ := hw
            refine lv_i2l (v := q103.toInt64) hx hb dX6_readsSetting_72 rfl ?_
            obtain ⟨q105, e106, hf⟩ := tbd hf
            refine kVi1 (As := [.long (0 : Int64), .long q103.toInt64]) (rest := []) hC (c_X6_takes (G := G) e106) kq5_213 kc_X6_takes (by decide) 0 (ci := 4) rfl rfl hP hK hD hE hS hA hl.1 (Nat.le_of_ble_eq_true rfl) ⟨Nat.zero_le _, Nat.zero_le _⟩ dX6_readsSetting_73 (fun r9 u9 H locs hw hP hD hS => ?_)
            obtain ⟨rfl, rfl⟩ := hw
            have hP : va_P (gD G) vwCl (wX6 G h0 a0 q105.2) H := hP
            have hD : va_D A (wX6 G h0 a0 q105.2) := hD
            refine lv_istore_n (lv' := [(3, .int q105.1), (2, .int (1 : Int32)), (0, .ref h0), (1, .int x1)]) hx hb dX6_readsSetting_76 rfl hl (by decide) rfl (fun ls hl => ?_)
            refine lv_aload_n hx hb dX6_readsSetting_77 rfl (lv_at hl 2 rfl) ?_
            refine va_get (D := gD G) (ci := 4) (v := .int (q105.2.1 15)) (C := RX6) (T := TX6) (N := 22) hx hb hg kl_X6 hown hK hP 0 rfl rfl 15 (by decide) (hg _ kq5_20) (fun _ h9 => h9) rfl dX6_readsSetting_78 ?_
            refine lv_if_ne (tgt := 100) hx hb dX6_readsSetting_81 (by decide) (fun c107 => ?_) (fun c107 => ?_)
            · have hf := tn hf c107
              have hf := Option.some.inj hf
              subst hf
              exact e_v (wf := (fun v : Ob => (wX6 G h0 a0 v))) hx hb hr hlk q105.2 rfl hP hK hD hS dX6_readsSetting_100
            · have hf := tp hf c107
              refine lv_aload_n hx hb dX6_readsSetting_84 rfl (lv_at hl 2 rfl) ?_
              refine lv_iload_n hx hb dX6_readsSetting_85 rfl (lv_at hl 3 rfl) ?_
              refine lv_iload_n hx hb dX6_readsSetting_86 rfl (lv_at hl 1 rfl) ?_
              refine lv_if_eq (tgt := 95) hx hb dX6_readsSetting_87 (by decide) (fun c108 => ?_) (fun c108 => ?_)
              · exact absurd c108 (by decide)
              refine lv_iload_n hx hb dX6_readsSetting_90 rfl (lv_at hl 0 rfl) ?_
              refine lv_ineg hx hb dX6_readsSetting_91 ?_
              refine lv_goto (tgt := 96) hx hb dX6_readsSetting_92 (by decide) ?_
              obtain ⟨q109, e110, hf⟩ := tbd hf
              refine kVi1 (As := [.int x1, .int (-q105.1)]) (rest := []) hC (c_X6_sets (G := G) e110) kq5_217 kc_X6_sets (by decide) 0 (ci := 4) rfl rfl hP hK hD hE hS hA hl.1 (Nat.le_of_ble_eq_true rfl) ⟨Nat.zero_le _, Nat.zero_le _⟩ dX6_readsSetting_96 (fun r9 u9 H locs hw hP hD hS => ?_)
              obtain ⟨rfl, rfl⟩ := hw
              have hP : va_P (gD G) vwCl (wX6 G h0 a0 q109.2) H := hP
              have hD : va_D A (wX6 G h0 a0 q109.2) := hD
              refine lv_pop hx hb dX6_readsSetting_99 rfl ?_
              have hf := Option.some.inj hf
              subst hf
              exact e_v (wf := (fun v : Ob => (wX6 G h0 a0 v))) hx hb hr hlk q109.2 rfl hP hK hD hS dX6_readsSetting_100
set_option maxRecDepth 100000 in
set_option maxHeartbeats 4000000 in
theorem c_X6_ignores {l : Launch} {G : Gp} {sz N : Nat} {h0 : Nat} {a0 : Nat → Nat} {u0 : Ob} {q : Int32 × Ob} (hf : f_X6_ignores N u0 = some q) : Met l yX6_ignores (Cond.code yX6_ignores cX6_ignores 1 (some .int) :: lw_g) ({ frames := 0, cells := 0, slots := 0, locals := 0 } : Room) (va_Pc [.ref h0] (pw G (wX6 G h0 a0 u0) sz)) (va_Qi (fun (r : Int32) (v : Ob) => q.1 = r ∧ q.2 = v) (bw G (fun v : Ob => (wX6 G h0 a0 v)) (va_A (wX6 G h0 a0 u0) sz)) (va_A (wX6 G h0 a0 u0) sz)) 0 0 (va_A (wX6 G h0 a0 u0) sz) := by
  refine mt (Qc := (fun A => va_Qi (fun (r : Int32) (v : Ob) => q.1 = r ∧ q.2 = v) (bw G (fun v : Ob => (wX6 G h0 a0 v)) A) A)) (by decide) (Nat.le_of_ble_eq_true rfl) ?_
  intro p e s m below meth c A ls hx hb hr hlk hml hts hown hA hP hK hD hE hS hl
  have hown : s.vm.findClass RX6 = some m.cls := hown
  have hg : ∀ w ∈ lw_g, w.before ([.ref h0] : List Value).toArray s = true := fun w h => hts w (List.mem_cons_of_mem _ h)
  have hC : CallFix p m c cX6_ignores 1 s ([.ref h0] : List Value).toArray (Cond.code yX6_ignores cX6_ignores 1 (some .int) :: lw_g) RX6 := ⟨hx, hb, hml, hown, hts⟩
  have hl : lv_has ls 1 [(0, .ref h0)] := hl
  rw [f_X6_ignores] at hf
  refine lv_aload_n hx hb dX6_ignores_0 rfl (lv_at hl 0 rfl) ?_
  refine va_get (D := gD G) (ci := 4) (v := .ref (a0 0)) (C := RX6) (T := TX6) (N := 22) hx hb hg kl_X6 hown hK hP 0 rfl rfl 0 (by decide) (hg _ kq5_5) (fun _ h9 => h9) rfl dX6_ignores_1 ?_
  refine lv_bipush (v := (11 : Int32)) hx hb dX6_ignores_4 (by decide) ?_
  refine lv_dup2_11 hx hb dX6_ignores_6 rfl rfl ?_
  refine va_lald (f := (u0.2.2.2 0)) hx hb hK hP 1 2 rfl rfl (vin (by decide)) dX6_ignores_7 ?_
  refine lv_lconst (v := (1 : Int64)) hx hb dX6_ignores_8 (by decide) ?_
  refine lv_ladd hx hb dX6_ignores_9 ?_
  refine va_last (f := (u0.2.2.2 0)) hx hb hK hP hD hS 1 2 rfl rfl (vin (by decide)) dX6_ignores_10 (fun H locs hP hD hS => ?_)
  have hP : va_P (gD G) vwCl (wX6 G h0 a0 (oj u0 0 (vp_updL (u0.2.2.2 0) (11 : Int32).toNatClampNeg (((u0.2.2.2 0) (11 : Int32).toNatClampNeg) + (1 : Int64))))) H := hP
  have hD : va_D A (wX6 G h0 a0 (oj u0 0 (vp_updL (u0.2.2.2 0) (11 : Int32).toNatClampNeg (((u0.2.2.2 0) (11 : Int32).toNatClampNeg) + (1 : Int64))))) := hD
  refine lv_iconst (v := (0 : Int32)) hx hb dX6_ignores_11 (by decide) ?_
  have hf := Option.some.inj hf
  subst hf
  exact e_i (wf := (fun v : Ob => (wX6 G h0 a0 v))) hx hb hr hlk (oj u0 0 (vp_updL (u0.2.2.2 0) (11 : Int32).toNatClampNeg (((u0.2.2.2 0) (11 : Int32).toNatClampNeg) + (1 : Int64)))) ⟨rfl, rfl⟩ hP hK hD hS dX6_ignores_12
set_option maxRecDepth 100000 in
set_option maxHeartbeats 4000000 in
theorem c_X6_forgets {l : Launch} {G : Gp} {sz N : Nat} {h0 : Nat} {a0 : Nat → Nat} {u0 : Ob} {q : Ob} (hf : f_X6_forgets N u0 = some q) : Met l yX6_forgets (Cond.code yX6_forgets cX6_forgets 1 none :: lw_g) ({ frames := 0, cells := 0, slots := 0, locals := 0 } : Room) (va_Pc [.ref h0] (pw G (wX6 G h0 a0 u0) sz)) (va_Qv (fun v : Ob => q = v) (bw G (fun v : Ob => (wX6 G h0 a0 v)) (va_A (wX6 G h0 a0 u0) sz)) (va_A (wX6 G h0 a0 u0) sz)) 0 0 (va_A (wX6 G h0 a0 u0) sz) := by
  refine mt (Qc := (fun A => va_Qv (fun v : Ob => q = v) (bw G (fun v : Ob => (wX6 G h0 a0 v)) A) A)) (by decide) (Nat.le_of_ble_eq_true rfl) ?_
  intro p e s m below meth c A ls hx hb hr hlk hml hts hown hA hP hK hD hE hS hl
  have hown : s.vm.findClass RX6 = some m.cls := hown
  have hg : ∀ w ∈ lw_g, w.before ([.ref h0] : List Value).toArray s = true := fun w h => hts w (List.mem_cons_of_mem _ h)
  have hC : CallFix p m c cX6_forgets 1 s ([.ref h0] : List Value).toArray (Cond.code yX6_forgets cX6_forgets 1 none :: lw_g) RX6 := ⟨hx, hb, hml, hown, hts⟩
  have hl : lv_has ls 1 [(0, .ref h0)] := hl
  rw [f_X6_forgets] at hf
  refine lv_aload_n hx hb dX6_forgets_0 rfl (lv_at hl 0 rfl) ?_
  refine va_get (D := gD G) (ci := 4) (v := .ref (a0 0)) (C := RX6) (T := TX6) (N := 22) hx hb hg kl_X6 hown hK hP 0 rfl rfl 0 (by decide) (hg _ kq5_5) (fun _ h9 => h9) rfl dX6_forgets_1 ?_
  refine lv_iconst (v := (5 : Int32)) hx hb dX6_forgets_4 (by decide) ?_
  refine lv_ldc2 hx hb hown (hg _ kq5_0) dX6_forgets_5 ?_
  refine va_last (f := (u0.2.2.2 0)) hx hb hK hP hD hS 1 2 rfl rfl (vin (by decide)) dX6_forgets_8 (fun H locs hP hD hS => ?_)
  have hP : va_P (gD G) vwCl (wX6 G h0 a0 (oj u0 0 (vp_updL (u0.2.2.2 0) (5 : Int32).toNatClampNeg (-1 : Int64)))) H := hP
  have hD : va_D A (wX6 G h0 a0 (oj u0 0 (vp_updL (u0.2.2.2 0) (5 : Int32).toNatClampNeg (-1 : Int64)))) := hD
  refine lv_aload_n hx hb dX6_forgets_9 rfl (lv_at hl 0 rfl) ?_
  refine va_get (D := gD G) (ci := 4) (v := .ref (a0 0)) (C := RX6) (T := TX6) (N := 22) hx hb hg kl_X6 hown hK hP 0 rfl rfl 0 (by decide) (hg _ kq5_5) (fun _ h9 => h9) rfl dX6_forgets_10 ?_
  refine lv_bipush (v := (12 : Int32)) hx hb dX6_forgets_13 (by decide) ?_
  refine lv_lconst (v := (0 : Int64)) hx hb dX6_forgets_15 (by decide) ?_
  refine va_last (f := (vp_updL (u0.2.2.2 0) (5 : Int32).toNatClampNeg (-1 : Int64))) hx hb hK hP hD hS 1 2 rfl rfl (vin (by decide)) dX6_forgets_16 (fun H locs hP hD hS => ?_)
  have hP : va_P (gD G) vwCl (wX6 G h0 a0 (oj (oj u0 0 (vp_updL (u0.2.2.2 0) (5 : Int32).toNatClampNeg (-1 : Int64))) 0 (vp_updL (vp_updL (u0.2.2.2 0) (5 : Int32).toNatClampNeg (-1 : Int64)) (12 : Int32).toNatClampNeg (0 : Int64)))) H := hP
  have hD : va_D A (wX6 G h0 a0 (oj (oj u0 0 (vp_updL (u0.2.2.2 0) (5 : Int32).toNatClampNeg (-1 : Int64))) 0 (vp_updL (vp_updL (u0.2.2.2 0) (5 : Int32).toNatClampNeg (-1 : Int64)) (12 : Int32).toNatClampNeg (0 : Int64)))) := hD
  refine lv_aload_n hx hb dX6_forgets_17 rfl (lv_at hl 0 rfl) ?_
  refine va_get (D := gD G) (ci := 4) (v := .ref (a0 0)) (C := RX6) (T := TX6) (N := 22) hx hb hg kl_X6 hown hK hP 0 rfl rfl 0 (by decide) (hg _ kq5_5) (fun _ h9 => h9) rfl dX6_forgets_18 ?_
  refine lv_bipush (v := (9 : Int32)) hx hb dX6_forgets_21 (by decide) ?_
  refine lv_ldc2 hx hb hown (hg _ kq5_0) dX6_forgets_23 ?_
  refine va_last (f := (vp_updL (vp_updL (u0.2.2.2 0) (5 : Int32).toNatClampNeg (-1 : Int64)) (12 : Int32).toNatClampNeg (0 : Int64))) hx hb hK hP hD hS 1 2 rfl rfl (vin (by decide)) dX6_forgets_26 (fun H locs hP hD hS => ?_)
  have hP : va_P (gD G) vwCl (wX6 G h0 a0 (oj (oj (oj u0 0 (vp_updL (u0.2.2.2 0) (5 : Int32).toNatClampNeg (-1 : Int64))) 0 (vp_updL (vp_updL (u0.2.2.2 0) (5 : Int32).toNatClampNeg (-1 : Int64)) (12 : Int32).toNatClampNeg (0 : Int64))) 0 (vp_updL (vp_updL (vp_updL (u0.2.2.2 0) (5 : Int32).toNatClampNeg (-1 : Int64)) (12 : Int32).toNatClampNeg (0 : Int64)) (9 : Int32).toNatClampNeg (-1 : Int64)))) H := hP
  have hD : va_D A (wX6 G h0 a0 (oj (oj (oj u0 0 (vp_updL (u0.2.2.2 0) (5 : Int32).toNatClampNeg (-1 : Int64))) 0 (vp_updL (vp_updL (u0.2.2.2 0) (5 : Int32).toNatClampNeg (-1 : Int64)) (12 : Int32).toNatClampNeg (0 : Int64))) 0 (vp_updL (vp_updL (vp_updL (u0.2.2.2 0) (5 : Int32).toNatClampNeg (-1 : Int64)) (12 : Int32).toNatClampNeg (0 : Int64)) (9 : Int32).toNatClampNeg (-1 : Int64)))) := hD
  refine lv_aload_n hx hb dX6_forgets_27 rfl (lv_at hl 0 rfl) ?_
  refine va_get (D := gD G) (ci := 4) (v := .ref (a0 0)) (C := RX6) (T := TX6) (N := 22) hx hb hg kl_X6 hown hK hP 0 rfl rfl 0 (by decide) (hg _ kq5_5) (fun _ h9 => h9) rfl dX6_forgets_28 ?_
  refine lv_bipush (v := (10 : Int32)) hx hb dX6_forgets_31 (by decide) ?_
  refine lv_lconst (v := (0 : Int64)) hx hb dX6_forgets_33 (by decide) ?_
  refine va_last (f := (vp_updL (vp_updL (vp_updL (u0.2.2.2 0) (5 : Int32).toNatClampNeg (-1 : Int64)) (12 : Int32).toNatClampNeg (0 : Int64)) (9 : Int32).toNatClampNeg (-1 : Int64))) hx hb hK hP hD hS 1 2 rfl rfl (vin (by decide)) dX6_forgets_34 (fun H locs hP hD hS => ?_)
  have hP : va_P (gD G) vwCl (wX6 G h0 a0 (oj (oj (oj (oj u0 0 (vp_updL (u0.2.2.2 0) (5 : Int32).toNatClampNeg (-1 : Int64))) 0 (vp_updL (vp_updL (u0.2.2.2 0) (5 : Int32).toNatClampNeg (-1 : Int64)) (12 : Int32).toNatClampNeg (0 : Int64))) 0 (vp_updL (vp_updL (vp_updL (u0.2.2.2 0) (5 : Int32).toNatClampNeg (-1 : Int64)) (12 : Int32).toNatClampNeg (0 : Int64)) (9 : Int32).toNatClampNeg (-1 : Int64))) 0 (vp_updL (vp_updL (vp_updL (vp_updL (u0.2.2.2 0) (5 : Int32).toNatClampNeg (-1 : Int64)) (12 : Int32).toNatClampNeg (0 : Int64)) (9 : Int32).toNatClampNeg (-1 : Int64)) (10 : Int32).toNatClampNeg (0 : Int64)))) H := hP
  have hD : va_D A (wX6 G h0 a0 (oj (oj (oj (oj u0 0 (vp_updL (u0.2.2.2 0) (5 : Int32).toNatClampNeg (-1 : Int64))) 0 (vp_updL (vp_updL (u0.2.2.2 0) (5 : Int32).toNatClampNeg (-1 : Int64)) (12 : Int32).toNatClampNeg (0 : Int64))) 0 (vp_updL (vp_updL (vp_updL (u0.2.2.2 0) (5 : Int32).toNatClampNeg (-1 : Int64)) (12 : Int32).toNatClampNeg (0 : Int64)) (9 : Int32).toNatClampNeg (-1 : Int64))) 0 (vp_updL (vp_updL (vp_updL (vp_updL (u0.2.2.2 0) (5 : Int32).toNatClampNeg (-1 : Int64)) (12 : Int32).toNatClampNeg (0 : Int64)) (9 : Int32).toNatClampNeg (-1 : Int64)) (10 : Int32).toNatClampNeg (0 : Int64)))) := hD
  have hf := Option.some.inj hf
  subst hf
  exact e_v (wf := (fun v : Ob => (wX6 G h0 a0 v))) hx hb hr hlk (oj (oj (oj (oj u0 0 (vp_updL (u0.2.2.2 0) (5 : Int32).toNatClampNeg (-1 : Int64))) 0 (vp_updL (vp_updL (u0.2.2.2 0) (5 : Int32).toNatClampNeg (-1 : Int64)) (12 : Int32).toNatClampNeg (0 : Int64))) 0 (vp_updL (vp_updL (vp_updL (u0.2.2.2 0) (5 : Int32).toNatClampNeg (-1 : Int64)) (12 : Int32).toNatClampNeg (0 : Int64)) (9 : Int32).toNatClampNeg (-1 : Int64))) 0 (vp_updL (vp_updL (vp_updL (vp_updL (u0.2.2.2 0) (5 : Int32).toNatClampNeg (-1 : Int64)) (12 : Int32).toNatClampNeg (0 : Int64)) (9 : Int32).toNatClampNeg (-1 : Int64)) (10 : Int32).toNatClampNeg (0 : Int64))) rfl hP hK hD hS dX6_forgets_35
set_option maxRecDepth 100000 in
set_option maxHeartbeats 4000000 in
theorem c_X6_lays {l : Launch} {G : Gp} {sz N : Nat} {x1 : Int32} {x2 : Int32} {h0 : Nat} {a0 : Nat → Nat} {u0 : Ob} {q : Ob} (hf : f_X6_lays N x1 x2 u0 = some q) : Met l yX6_lays (Cond.code yX6_lays cX6_lays 3 none :: lw_g) ({ frames := 0, cells := 0, slots := 0, locals := 0 } : Room) (va_Pc [.ref h0, .int x1, .int x2] (pw G (wX6 G h0 a0 u0) sz)) (va_Qv (fun v : Ob => q = v) (bw G (fun v : Ob => (wX6 G h0 a0 v)) (va_A (wX6 G h0 a0 u0) sz)) (va_A (wX6 G h0 a0 u0) sz)) 0 0 (va_A (wX6 G h0 a0 u0) sz) := by
  refine mt (Qc := (fun A => va_Qv (fun v : Ob => q = v) (bw G (fun v : Ob => (wX6 G h0 a0 v)) A) A)) (by decide) (Nat.le_of_ble_eq_true rfl) ?_
  intro p e s m below meth c A ls hx hb hr hlk hml hts hown hA hP hK hD hE hS hl
  have hown : s.vm.findClass RX6 = some m.cls := hown
  have hg : ∀ w ∈ lw_g, w.before ([.ref h0, .int x1, .int x2] : List Value).toArray s = true := fun w h => hts w (List.mem_cons_of_mem _ h)
  have hC : CallFix p m c cX6_lays 3 s ([.ref h0, .int x1, .int x2] : List Value).toArray (Cond.code yX6_lays cX6_lays 3 none :: lw_g) RX6 := ⟨hx, hb, hml, hown, hts⟩
  have hl : lv_has ls 3 [(0, .ref h0), (1, .int x1), (2, .int x2)] := hl
  rw [f_X6_lays] at hf
  refine lv_iload_n hx hb dX6_lays_0 rfl (lv_at hl 1 rfl) ?_
  refine lv_bipush (v := (59 : Int32)) hx hb dX6_lays_1 (by decide) ?_
  refine lv_icmp_lt (tgt := 7) hx hb dX6_lays_3 (by decide) (fun c1 => ?_) (fun c1 => ?_)
  · have hf := tp hf c1
    refine lv_aload_n hx hb dX6_lays_7 rfl (lv_at hl 0 rfl) ?_
    refine va_get (D := gD G) (ci := 4) (v := .ref (a0 0)) (C := RX6) (T := TX6) (N := 22) hx hb hg kl_X6 hown hK hP 0 rfl rfl 0 (by decide) (hg _ kq5_5) (fun _ h9 => h9) rfl dX6_lays_8 ?_
    refine lv_bipush (v := (14 : Int32)) hx hb dX6_lays_11 (by decide) ?_
    refine lv_aload_n hx hb dX6_lays_13 rfl (lv_at hl 0 rfl) ?_
    refine va_get (D := gD G) (ci := 4) (v := .ref (a0 0)) (C := RX6) (T := TX6) (N := 22) hx hb hg kl_X6 hown hK hP 0 rfl rfl 0 (by decide) (hg _ kq5_5) (fun _ h9 => h9) rfl dX6_lays_14 ?_
    refine lv_bipush (v := (14 : Int32)) hx hb dX6_lays_17 (by decide) ?_
    refine va_lald (f := (u0.2.2.2 0)) hx hb hK hP 1 2 rfl rfl (vin (by decide)) dX6_lays_19 ?_
    refine lv_lconst (v := (1 : Int64)) hx hb dX6_lays_20 (by decide) ?_
    refine lv_iload_n hx hb dX6_lays_21 rfl (lv_at hl 1 rfl) ?_
    refine lv_lshl (v := (jshl (1 : Int64) x1)) hx hb dX6_lays_22 rfl ?_
    refine lv_ldc2 hx hb hown (hg _ kq5_0) dX6_lays_23 ?_
    refine lv_lxor hx hb dX6_lays_26 ?_
    refine lv_land hx hb dX6_lays_27 ?_
    refine lv_iload_n hx hb dX6_lays_28 rfl (lv_at hl 2 rfl) ?_
    refine lv_iconst (v := (1 : Int32)) hx hb dX6_lays_29 (by decide) ?_
    refine lv_icmp_ne (tgt := 39) hx hb dX6_lays_30 (by decide) (fun c2 => ?_) (fun c2 => ?_)
    · have hf := tn hf c2
      refine lv_lconst (v := (0 : Int64)) hx hb dX6_lays_39 (by decide) ?_
      refine lv_lor hx hb dX6_lays_40 ?_
      refine va_last (f := (u0.2.2.2 0)) hx hb hK hP hD hS 1 2 rfl rfl (vin (by decide)) dX6_lays_41 (fun H locs hP hD hS => ?_)
      have hP : va_P (gD G) vwCl (wX6 G h0 a0 (oj u0 0 (vp_updL (u0.2.2.2 0) (14 : Int32).toNatClampNeg ((((u0.2.2.2 0) (14 : Int32).toNatClampNeg) &&& ((jshl (1 : Int64) x1) ^^^ (-1 : Int64))) ||| (0 : Int64))))) H := hP
      have hD : va_D A (wX6 G h0 a0 (oj u0 0 (vp_updL (u0.2.2.2 0) (14 : Int32).toNatClampNeg ((((u0.2.2.2 0) (14 : Int32).toNatClampNeg) &&& ((jshl (1 : Int64) x1) ^^^ (-1 : Int64))) ||| (0 : Int64))))) := hD
      refine lv_aload_n hx hb dX6_lays_42 rfl (lv_at hl 0 rfl) ?_
      refine va_get (D := gD G) (ci := 4) (v := .ref (a0 0)) (C := RX6) (T := TX6) (N := 22) hx hb hg kl_X6 hown hK hP 0 rfl rfl 0 (by decide) (hg _ kq5_5) (fun _ h9 => h9) rfl dX6_lays_43 ?_
      refine lv_bipush (v := (15 : Int32)) hx hb dX6_lays_46 (by decide) ?_
      refine lv_aload_n hx hb dX6_lays_48 rfl (lv_at hl 0 rfl) ?_
      refine va_get (D := gD G) (ci := 4) (v := .ref (a0 0)) (C := RX6) (T := TX6) (N := 22) hx hb hg kl_X6 hown hK hP 0 rfl rfl 0 (by decide) (hg _ kq5_5) (fun _ h9 => h9) rfl dX6_lays_49 ?_
      refine lv_bipush (v := (15 : Int32)) hx hb dX6_lays_52 (by decide) ?_
      refine va_lald (f := (vp_updL (u0.2.2.2 0) (14 : Int32).toNatClampNeg ((((u0.2.2.2 0) (14 : Int32).toNatClampNeg) &&& ((jshl (1 : Int64) x1) ^^^ (-1 : Int64))) ||| (0 : Int64)))) hx hb hK hP 1 2 rfl rfl (vin (by decide)) dX6_lays_54 ?_
      refine lv_lconst (v := (1 : Int64)) hx hb dX6_lays_55 (by decide) ?_
      refine lv_iload_n hx hb dX6_lays_56 rfl (lv_at hl 1 rfl) ?_
      refine lv_lshl (v := (jshl (1 : Int64) x1)) hx hb dX6_lays_57 rfl ?_
      refine lv_ldc2 hx hb hown (hg _ kq5_0) dX6_lays_58 ?_
      refine lv_lxor hx hb dX6_lays_61 ?_
      refine lv_land hx hb dX6_lays_62 ?_
      refine lv_iload_n hx hb dX6_lays_63 rfl (lv_at hl 2 rfl) ?_
      refine lv_iconst (v := (2 : Int32)) hx hb dX6_lays_64 (by decide) ?_
      refine lv_icmp_ne (tgt := 74) hx hb dX6_lays_65 (by decide) (fun c3 => ?_) (fun c3 => ?_)
      · have hf := tn hf c3
        refine lv_lconst (v := (0 : Int64)) hx hb dX6_lays_74 (by decide) ?_
        refine lv_lor hx hb dX6_lays_75 ?_
        refine va_last (f := (vp_updL (u0.2.2.2 0) (14 : Int32).toNatClampNeg ((((u0.2.2.2 0) (14 : Int32).toNatClampNeg) &&& ((jshl (1 : Int64) x1) ^^^ (-1 : Int64))) ||| (0 : Int64)))) hx hb hK hP hD hS 1 2 rfl rfl (vin (by decide)) dX6_lays_76 (fun H locs hP hD hS => ?_)
        have hP : va_P (gD G) vwCl (wX6 G h0 a0 (oj (oj u0 0 (vp_updL (u0.2.2.2 0) (14 : Int32).toNatClampNeg ((((u0.2.2.2 0) (14 : Int32).toNatClampNeg) &&& ((jshl (1 : Int64) x1) ^^^ (-1 : Int64))) ||| (0 : Int64)))) 0 (vp_updL (vp_updL (u0.2.2.2 0) (14 : Int32).toNatClampNeg ((((u0.2.2.2 0) (14 : Int32).toNatClampNeg) &&& ((jshl (1 : Int64) x1) ^^^ (-1 : Int64))) ||| (0 : Int64))) (15 : Int32).toNatClampNeg ((((vp_updL (u0.2.2.2 0) (14 : Int32).toNatClampNeg ((((u0.2.2.2 0) (14 : Int32).toNatClampNeg) &&& ((jshl (1 : Int64) x1) ^^^ (-1 : Int64))) ||| (0 : Int64))) (15 : Int32).toNatClampNeg) &&& ((jshl (1 : Int64) x1) ^^^ (-1 : Int64))) ||| (0 : Int64))))) H := hP
        have hD : va_D A (wX6 G h0 a0 (oj (oj u0 0 (vp_updL (u0.2.2.2 0) (14 : Int32).toNatClampNeg ((((u0.2.2.2 0) (14 : Int32).toNatClampNeg) &&& ((jshl (1 : Int64) x1) ^^^ (-1 : Int64))) ||| (0 : Int64)))) 0 (vp_updL (vp_updL (u0.2.2.2 0) (14 : Int32).toNatClampNeg ((((u0.2.2.2 0) (14 : Int32).toNatClampNeg) &&& ((jshl (1 : Int64) x1) ^^^ (-1 : Int64))) ||| (0 : Int64))) (15 : Int32).toNatClampNeg ((((vp_updL (u0.2.2.2 0) (14 : Int32).toNatClampNeg ((((u0.2.2.2 0) (14 : Int32).toNatClampNeg) &&& ((jshl (1 : Int64) x1) ^^^ (-1 : Int64))) ||| (0 : Int64))) (15 : Int32).toNatClampNeg) &&& ((jshl (1 : Int64) x1) ^^^ (-1 : Int64))) ||| (0 : Int64))))) := hD
        have hf := Option.some.inj hf
        subst hf
        exact e_v (wf := (fun v : Ob => (wX6 G h0 a0 v))) hx hb hr hlk (oj (oj u0 0 (vp_updL (u0.2.2.2 0) (14 : Int32).toNatClampNeg ((((u0.2.2.2 0) (14 : Int32).toNatClampNeg) &&& ((jshl (1 : Int64) x1) ^^^ (-1 : Int64))) ||| (0 : Int64)))) 0 (vp_updL (vp_updL (u0.2.2.2 0) (14 : Int32).toNatClampNeg ((((u0.2.2.2 0) (14 : Int32).toNatClampNeg) &&& ((jshl (1 : Int64) x1) ^^^ (-1 : Int64))) ||| (0 : Int64))) (15 : Int32).toNatClampNeg ((((vp_updL (u0.2.2.2 0) (14 : Int32).toNatClampNeg ((((u0.2.2.2 0) (14 : Int32).toNatClampNeg) &&& ((jshl (1 : Int64) x1) ^^^ (-1 : Int64))) ||| (0 : Int64))) (15 : Int32).toNatClampNeg) &&& ((jshl (1 : Int64) x1) ^^^ (-1 : Int64))) ||| (0 : Int64)))) rfl hP hK hD hS dX6_lays_77
      · have hf := tp hf c3
        refine lv_lconst (v := (1 : Int64)) hx hb dX6_lays_68 (by decide) ?_
        refine lv_iload_n hx hb dX6_lays_69 rfl (lv_at hl 1 rfl) ?_
        refine lv_lshl (v := (jshl (1 : Int64) x1)) hx hb dX6_lays_70 rfl ?_
        refine lv_goto (tgt := 75) hx hb dX6_lays_71 (by decide) ?_
        refine lv_lor hx hb dX6_lays_75 ?_
        refine va_last (f := (vp_updL (u0.2.2.2 0) (14 : Int32).toNatClampNeg ((((u0.2.2.2 0) (14 : Int32).toNatClampNeg) &&& ((jshl (1 : Int64) x1) ^^^ (-1 : Int64))) ||| (0 : Int64)))) hx hb hK hP hD hS 1 2 rfl rfl (vin (by decide)) dX6_lays_76 (fun H locs hP hD hS => ?_)
        have hP : va_P (gD G) vwCl (wX6 G h0 a0 (oj (oj u0 0 (vp_updL (u0.2.2.2 0) (14 : Int32).toNatClampNeg ((((u0.2.2.2 0) (14 : Int32).toNatClampNeg) &&& ((jshl (1 : Int64) x1) ^^^ (-1 : Int64))) ||| (0 : Int64)))) 0 (vp_updL (vp_updL (u0.2.2.2 0) (14 : Int32).toNatClampNeg ((((u0.2.2.2 0) (14 : Int32).toNatClampNeg) &&& ((jshl (1 : Int64) x1) ^^^ (-1 : Int64))) ||| (0 : Int64))) (15 : Int32).toNatClampNeg ((((vp_updL (u0.2.2.2 0) (14 : Int32).toNatClampNeg ((((u0.2.2.2 0) (14 : Int32).toNatClampNeg) &&& ((jshl (1 : Int64) x1) ^^^ (-1 : Int64))) ||| (0 : Int64))) (15 : Int32).toNatClampNeg) &&& ((jshl (1 : Int64) x1) ^^^ (-1 : Int64))) ||| (jshl (1 : Int64) x1))))) H := hP
        have hD : va_D A (wX6 G h0 a0 (oj (oj u0 0 (vp_updL (u0.2.2.2 0) (14 : Int32).toNatClampNeg ((((u0.2.2.2 0) (14 : Int32).toNatClampNeg) &&& ((jshl (1 : Int64) x1) ^^^ (-1 : Int64))) ||| (0 : Int64)))) 0 (vp_updL (vp_updL (u0.2.2.2 0) (14 : Int32).toNatClampNeg ((((u0.2.2.2 0) (14 : Int32).toNatClampNeg) &&& ((jshl (1 : Int64) x1) ^^^ (-1 : Int64))) ||| (0 : Int64))) (15 : Int32).toNatClampNeg ((((vp_updL (u0.2.2.2 0) (14 : Int32).toNatClampNeg ((((u0.2.2.2 0) (14 : Int32).toNatClampNeg) &&& ((jshl (1 : Int64) x1) ^^^ (-1 : Int64))) ||| (0 : Int64))) (15 : Int32).toNatClampNeg) &&& ((jshl (1 : Int64) x1) ^^^ (-1 : Int64))) ||| (jshl (1 : Int64) x1))))) := hD
        have hf := Option.some.inj hf
        subst hf
        exact e_v (wf := (fun v : Ob => (wX6 G h0 a0 v))) hx hb hr hlk (oj (oj u0 0 (vp_updL (u0.2.2.2 0) (14 : Int32).toNatClampNeg ((((u0.2.2.2 0) (14 : Int32).toNatClampNeg) &&& ((jshl (1 : Int64) x1) ^^^ (-1 : Int64))) ||| (0 : Int64)))) 0 (vp_updL (vp_updL (u0.2.2.2 0) (14 : Int32).toNatClampNeg ((((u0.2.2.2 0) (14 : Int32).toNatClampNeg) &&& ((jshl (1 : Int64) x1) ^^^ (-1 : Int64))) ||| (0 : Int64))) (15 : Int32).toNatClampNeg ((((vp_updL (u0.2.2.2 0) (14 : Int32).toNatClampNeg ((((u0.2.2.2 0) (14 : Int32).toNatClampNeg) &&& ((jshl (1 : Int64) x1) ^^^ (-1 : Int64))) ||| (0 : Int64))) (15 : Int32).toNatClampNeg) &&& ((jshl (1 : Int64) x1) ^^^ (-1 : Int64))) ||| (jshl (1 : Int64) x1)))) rfl hP hK hD hS dX6_lays_77
    · have hf := tp hf c2
      refine lv_lconst (v := (1 : Int64)) hx hb dX6_lays_33 (by decide) ?_
      refine lv_iload_n hx hb dX6_lays_34 rfl (lv_at hl 1 rfl) ?_
      refine lv_lshl (v := (jshl (1 : Int64) x1)) hx hb dX6_lays_35 rfl ?_
      refine lv_goto (tgt := 40) hx hb dX6_lays_36 (by decide) ?_
      refine lv_lor hx hb dX6_lays_40 ?_
      refine va_last (f := (u0.2.2.2 0)) hx hb hK hP hD hS 1 2 rfl rfl (vin (by decide)) dX6_lays_41 (fun H locs hP hD hS => ?_)
      have hP : va_P (gD G) vwCl (wX6 G h0 a0 (oj u0 0 (vp_updL (u0.2.2.2 0) (14 : Int32).toNatClampNeg ((((u0.2.2.2 0) (14 : Int32).toNatClampNeg) &&& ((jshl (1 : Int64) x1) ^^^ (-1 : Int64))) ||| (jshl (1 : Int64) x1))))) H := hP
      have hD : va_D A (wX6 G h0 a0 (oj u0 0 (vp_updL (u0.2.2.2 0) (14 : Int32).toNatClampNeg ((((u0.2.2.2 0) (14 : Int32).toNatClampNeg) &&& ((jshl (1 : Int64) x1) ^^^ (-1 : Int64))) ||| (jshl (1 : Int64) x1))))) := hD
      refine lv_aload_n hx hb dX6_lays_42 rfl (lv_at hl 0 rfl) ?_
      refine va_get (D := gD G) (ci := 4) (v := .ref (a0 0)) (C := RX6) (T := TX6) (N := 22) hx hb hg kl_X6 hown hK hP 0 rfl rfl 0 (by decide) (hg _ kq5_5) (fun _ h9 => h9) rfl dX6_lays_43 ?_
      refine lv_bipush (v := (15 : Int32)) hx hb dX6_lays_46 (by decide) ?_
      refine lv_aload_n hx hb dX6_lays_48 rfl (lv_at hl 0 rfl) ?_
      refine va_get (D := gD G) (ci := 4) (v := .ref (a0 0)) (C := RX6) (T := TX6) (N := 22) hx hb hg kl_X6 hown hK hP 0 rfl rfl 0 (by decide) (hg _ kq5_5) (fun _ h9 => h9) rfl dX6_lays_49 ?_
      refine lv_bipush (v := (15 : Int32)) hx hb dX6_lays_52 (by decide) ?_
      refine va_lald (f := (vp_updL (u0.2.2.2 0) (14 : Int32).toNatClampNeg ((((u0.2.2.2 0) (14 : Int32).toNatClampNeg) &&& ((jshl (1 : Int64) x1) ^^^ (-1 : Int64))) ||| (jshl (1 : Int64) x1)))) hx hb hK hP 1 2 rfl rfl (vin (by decide)) dX6_lays_54 ?_
      refine lv_lconst (v := (1 : Int64)) hx hb dX6_lays_55 (by decide) ?_
      refine lv_iload_n hx hb dX6_lays_56 rfl (lv_at hl 1 rfl) ?_
      refine lv_lshl (v := (jshl (1 : Int64) x1)) hx hb dX6_lays_57 rfl ?_
      refine lv_ldc2 hx hb hown (hg _ kq5_0) dX6_lays_58 ?_
      refine lv_lxor hx hb dX6_lays_61 ?_
      refine lv_land hx hb dX6_lays_62 ?_
      refine lv_iload_n hx hb dX6_lays_63 rfl (lv_at hl 2 rfl) ?_
      refine lv_iconst (v := (2 : Int32)) hx hb dX6_lays_64 (by decide) ?_
      refine lv_icmp_ne (tgt := 74) hx hb dX6_lays_65 (by decide) (fun c4 => ?_) (fun c4 => ?_)
      · have hf := tn hf c4
        refine lv_lconst (v := (0 : Int64)) hx hb dX6_lays_74 (by decide) ?_
        refine lv_lor hx hb dX6_lays_75 ?_
        refine va_last (f := (vp_updL (u0.2.2.2 0) (14 : Int32).toNatClampNeg ((((u0.2.2.2 0) (14 : Int32).toNatClampNeg) &&& ((jshl (1 : Int64) x1) ^^^ (-1 : Int64))) ||| (jshl (1 : Int64) x1)))) hx hb hK hP hD hS 1 2 rfl rfl (vin (by decide)) dX6_lays_76 (fun H locs hP hD hS => ?_)
        have hP : va_P (gD G) vwCl (wX6 G h0 a0 (oj (oj u0 0 (vp_updL (u0.2.2.2 0) (14 : Int32).toNatClampNeg ((((u0.2.2.2 0) (14 : Int32).toNatClampNeg) &&& ((jshl (1 : Int64) x1) ^^^ (-1 : Int64))) ||| (jshl (1 : Int64) x1)))) 0 (vp_updL (vp_updL (u0.2.2.2 0) (14 : Int32).toNatClampNeg ((((u0.2.2.2 0) (14 : Int32).toNatClampNeg) &&& ((jshl (1 : Int64) x1) ^^^ (-1 : Int64))) ||| (jshl (1 : Int64) x1))) (15 : Int32).toNatClampNeg ((((vp_updL (u0.2.2.2 0) (14 : Int32).toNatClampNeg ((((u0.2.2.2 0) (14 : Int32).toNatClampNeg) &&& ((jshl (1 : Int64) x1) ^^^ (-1 : Int64))) ||| (jshl (1 : Int64) x1))) (15 : Int32).toNatClampNeg) &&& ((jshl (1 : Int64) x1) ^^^ (-1 : Int64))) ||| (0 : Int64))))) H := hP
        have hD : va_D A (wX6 G h0 a0 (oj (oj u0 0 (vp_updL (u0.2.2.2 0) (14 : Int32).toNatClampNeg ((((u0.2.2.2 0) (14 : Int32).toNatClampNeg) &&& ((jshl (1 : Int64) x1) ^^^ (-1 : Int64))) ||| (jshl (1 : Int64) x1)))) 0 (vp_updL (vp_updL (u0.2.2.2 0) (14 : Int32).toNatClampNeg ((((u0.2.2.2 0) (14 : Int32).toNatClampNeg) &&& ((jshl (1 : Int64) x1) ^^^ (-1 : Int64))) ||| (jshl (1 : Int64) x1))) (15 : Int32).toNatClampNeg ((((vp_updL (u0.2.2.2 0) (14 : Int32).toNatClampNeg ((((u0.2.2.2 0) (14 : Int32).toNatClampNeg) &&& ((jshl (1 : Int64) x1) ^^^ (-1 : Int64))) ||| (jshl (1 : Int64) x1))) (15 : Int32).toNatClampNeg) &&& ((jshl (1 : Int64) x1) ^^^ (-1 : Int64))) ||| (0 : Int64))))) := hD
        have hf := Option.some.inj hf
        subst hf
        exact e_v (wf := (fun v : Ob => (wX6 G h0 a0 v))) hx hb hr hlk (oj (oj u0 0 (vp_updL (u0.2.2.2 0) (14 : Int32).toNatClampNeg ((((u0.2.2.2 0) (14 : Int32).toNatClampNeg) &&& ((jshl (1 : Int64) x1) ^^^ (-1 : Int64))) ||| (jshl (1 : Int64) x1)))) 0 (vp_updL (vp_updL (u0.2.2.2 0) (14 : Int32).toNatClampNeg ((((u0.2.2.2 0) (14 : Int32).toNatClampNeg) &&& ((jshl (1 : Int64) x1) ^^^ (-1 : Int64))) ||| (jshl (1 : Int64) x1))) (15 : Int32).toNatClampNeg ((((vp_updL (u0.2.2.2 0) (14 : Int32).toNatClampNeg ((((u0.2.2.2 0) (14 : Int32).toNatClampNeg) &&& ((jshl (1 : Int64) x1) ^^^ (-1 : Int64))) ||| (jshl (1 : Int64) x1))) (15 : Int32).toNatClampNeg) &&& ((jshl (1 : Int64) x1) ^^^ (-1 : Int64))) ||| (0 : Int64)))) rfl hP hK hD hS dX6_lays_77
      · have hf := tp hf c4
        refine lv_lconst (v := (1 : Int64)) hx hb dX6_lays_68 (by decide) ?_
        refine lv_iload_n hx hb dX6_lays_69 rfl (lv_at hl 1 rfl) ?_
        refine lv_lshl (v := (jshl (1 : Int64) x1)) hx hb dX6_lays_70 rfl ?_
        refine lv_goto (tgt := 75) hx hb dX6_lays_71 (by decide) ?_
        refine lv_lor hx hb dX6_lays_75 ?_
        refine va_last (f := (vp_updL (u0.2.2.2 0) (14 : Int32).toNatClampNeg ((((u0.2.2.2 0) (14 : Int32).toNatClampNeg) &&& ((jshl (1 : Int64) x1) ^^^ (-1 : Int64))) ||| (jshl (1 : Int64) x1)))) hx hb hK hP hD hS 1 2 rfl rfl (vin (by decide)) dX6_lays_76 (fun H locs hP hD hS => ?_)
        have hP : va_P (gD G) vwCl (wX6 G h0 a0 (oj (oj u0 0 (vp_updL (u0.2.2.2 0) (14 : Int32).toNatClampNeg ((((u0.2.2.2 0) (14 : Int32).toNatClampNeg) &&& ((jshl (1 : Int64) x1) ^^^ (-1 : Int64))) ||| (jshl (1 : Int64) x1)))) 0 (vp_updL (vp_updL (u0.2.2.2 0) (14 : Int32).toNatClampNeg ((((u0.2.2.2 0) (14 : Int32).toNatClampNeg) &&& ((jshl (1 : Int64) x1) ^^^ (-1 : Int64))) ||| (jshl (1 : Int64) x1))) (15 : Int32).toNatClampNeg ((((vp_updL (u0.2.2.2 0) (14 : Int32).toNatClampNeg ((((u0.2.2.2 0) (14 : Int32).toNatClampNeg) &&& ((jshl (1 : Int64) x1) ^^^ (-1 : Int64))) ||| (jshl (1 : Int64) x1))) (15 : Int32).toNatClampNeg) &&& ((jshl (1 : Int64) x1) ^^^ (-1 : Int64))) ||| (jshl (1 : Int64) x1))))) H := hP
        have hD : va_D A (wX6 G h0 a0 (oj (oj u0 0 (vp_updL (u0.2.2.2 0) (14 : Int32).toNatClampNeg ((((u0.2.2.2 0) (14 : Int32).toNatClampNeg) &&& ((jshl (1 : Int64) x1) ^^^ (-1 : Int64))) ||| (jshl (1 : Int64) x1)))) 0 (vp_updL (vp_updL (u0.2.2.2 0) (14 : Int32).toNatClampNeg ((((u0.2.2.2 0) (14 : Int32).toNatClampNeg) &&& ((jshl (1 : Int64) x1) ^^^ (-1 : Int64))) ||| (jshl (1 : Int64) x1))) (15 : Int32).toNatClampNeg ((((vp_updL (u0.2.2.2 0) (14 : Int32).toNatClampNeg ((((u0.2.2.2 0) (14 : Int32).toNatClampNeg) &&& ((jshl (1 : Int64) x1) ^^^ (-1 : Int64))) ||| (jshl (1 : Int64) x1))) (15 : Int32).toNatClampNeg) &&& ((jshl (1 : Int64) x1) ^^^ (-1 : Int64))) ||| (jshl (1 : Int64) x1))))) := hD
        have hf := Option.some.inj hf
        subst hf
        exact e_v (wf := (fun v : Ob => (wX6 G h0 a0 v))) hx hb hr hlk (oj (oj u0 0 (vp_updL (u0.2.2.2 0) (14 : Int32).toNatClampNeg ((((u0.2.2.2 0) (14 : Int32).toNatClampNeg) &&& ((jshl (1 : Int64) x1) ^^^ (-1 : Int64))) ||| (jshl (1 : Int64) x1)))) 0 (vp_updL (vp_updL (u0.2.2.2 0) (14 : Int32).toNatClampNeg ((((u0.2.2.2 0) (14 : Int32).toNatClampNeg) &&& ((jshl (1 : Int64) x1) ^^^ (-1 : Int64))) ||| (jshl (1 : Int64) x1))) (15 : Int32).toNatClampNeg ((((vp_updL (u0.2.2.2 0) (14 : Int32).toNatClampNeg ((((u0.2.2.2 0) (14 : Int32).toNatClampNeg) &&& ((jshl (1 : Int64) x1) ^^^ (-1 : Int64))) ||| (jshl (1 : Int64) x1))) (15 : Int32).toNatClampNeg) &&& ((jshl (1 : Int64) x1) ^^^ (-1 : Int64))) ||| (jshl (1 : Int64) x1)))) rfl hP hK hD hS dX6_lays_77
  · have hf := tn hf c1
    have hf := Option.some.inj hf
    subst hf
    exact e_v (wf := (fun v : Ob => (wX6 G h0 a0 v))) hx hb hr hlk u0 rfl hP hK hD hS dX6_lays_6
set_option maxRecDepth 100000 in
set_option maxHeartbeats 4000000 in
theorem c_X6_beginsMinute {l : Launch} {G : Gp} {sz N : Nat} {x1 : Int32} {x2 : Int32} {x3 : Int64} {h0 : Nat} {a0 : Nat → Nat} {u0 : Ob} {q : Ob} (hf : f_X6_beginsMinute N x1 x2 x3 u0 = some q) : Met l yX6_beginsMinute (Cond.code yX6_beginsMinute cX6_beginsMinute 6 none :: lw_g) ({ frames := 1, cells := 0, slots := 0, locals := 22 } : Room) (va_Pc [.ref h0, .int x1, .int x2, .long x3] (pw G (wX6 G h0 a0 u0) sz)) (va_Qv (fun v : Ob => q = v) (bw G (fun v : Ob => (wX6 G h0 a0 v)) (va_A (wX6 G h0 a0 u0) sz)) (va_A (wX6 G h0 a0 u0) sz)) 0 0 (va_A (wX6 G h0 a0 u0) sz) := by
  refine mt (Qc := (fun A => va_Qv (fun v : Ob => q = v) (bw G (fun v : Ob => (wX6 G h0 a0 v)) A) A)) (by decide) (Nat.le_of_ble_eq_true rfl) ?_
  intro p e s m below meth c A ls hx hb hr hlk hml hts hown hA hP hK hD hE hS hl
  have hown : s.vm.findClass RX6 = some m.cls := hown
  have hg : ∀ w ∈ lw_g, w.before ([.ref h0, .int x1, .int x2, .long x3] : List Value).toArray s = true := fun w h => hts w (List.mem_cons_of_mem _ h)
  have hC : CallFix p m c cX6_beginsMinute 6 s ([.ref h0, .int x1, .int x2, .long x3] : List Value).toArray (Cond.code yX6_beginsMinute cX6_beginsMinute 6 none :: lw_g) RX6 := ⟨hx, hb, hml, hown, hts⟩
  have hl : lv_has ls 6 [(0, .ref h0), (1, .int x1), (2, .int x2), (3, .long x3)] := hl
  have lp_35 : ∀ (n : Nat) (x5 : Int32) (u0 : Ob), l_X6_beginsMinute_35 N x1 x2 x3 n x5 u0 = some q → ∀ (H : Heap) (locs : List Loc) (ls : Array Slot), va_P (gD G) vwCl (wX6 G h0 a0 u0) H → va_D A (wX6 G h0 a0 u0) → va_S A s.heap H locs → lv_has ls 6 [(0, .ref h0), (1, .int x1), (2, .int x2), (3, .long x3), (5, .int x5)] → W p l e ({ frames := 1, cells := 0, slots := 0, locals := 22 } : Room) s m ([.ref h0, .int x1, .int x2, .long x3] : List Value).toArray below meth c H locs 0 0 (MQ below (va_Qv (fun v : Ob => q = v) (bw G (fun v : Ob => (wX6 G h0 a0 v)) A) A) ([.ref h0, .int x1, .int x2, .long x3] : List Value).toArray s 0 0 A) (F0 m 35 ls []) := by
    intro n
    induction n with
    | zero => intro x5 u0 hf; rw [l_X6_beginsMinute_35] at hf; cases hf
    | succ n ih =>
      intro x5 u0 hf H locs ls hP hD hS hl
      rw [l_X6_beginsMinute_35] at hf
      refine lv_iload hx hb dX6_beginsMinute_35 (lv_at hl 4 rfl) ?_
      refine lv_iload_n hx hb dX6_beginsMinute_37 rfl (lv_at hl 1 rfl) ?_
      refine lv_icmp_ge (tgt := 54) hx hb dX6_beginsMinute_38 (by decide) (fun c1 => ?_) (fun c1 => ?_)
      · have hf := tp hf c1
        refine lv_aload_n hx hb dX6_beginsMinute_54 rfl (lv_at hl 0 rfl) ?_
        refine lv_iload_n hx hb dX6_beginsMinute_55 rfl (lv_at hl 1 rfl) ?_
        refine lv_iload_n hx hb dX6_beginsMinute_56 rfl (lv_at hl 2 rfl) ?_
        obtain ⟨q2, e3, hf⟩ := tbd hf
        refine kVv1 (As := [.int x1, .int x2]) (rest := []) hC (c_X6_lays (G := G) e3) kq6_14 kc_X6_lays (by decide) 0 (ci := 4) rfl rfl hP hK hD hE hS hA hl.1 (Nat.le_of_ble_eq_true rfl) ⟨Nat.zero_le _, Nat.zero_le _⟩ dX6_beginsMinute_57 (fun u9 H locs hw hP hD hS => ?_)
        obtain rfl := hw
        have hP : va_P (gD G) vwCl (wX6 G h0 a0 q2) H := hP
        have hD : va_D A (wX6 G h0 a0 q2) := hD
        have hf := Option.some.inj hf
        subst hf
        exact e_v (wf := (fun v : Ob => (wX6 G h0 a0 v))) hx hb hr hlk q2 rfl hP hK hD hS dX6_beginsMinute_60
      · have hf := tn hf c1
        refine lv_aload_n hx hb dX6_beginsMinute_41 rfl (lv_at hl 0 rfl) ?_
        refine lv_iload hx hb dX6_beginsMinute_42 (lv_at hl 4 rfl) ?_
        refine lv_iconst (v := (2 : Int32)) hx hb dX6_beginsMinute_44 (by decide) ?_
        obtain ⟨q4, e5, hf⟩ := tbd hf
        refine kVv1 (As := [.int x5, .int (2 : Int32)]) (rest := []) hC (c_X6_lays (G := G) e5) kq6_14 kc_X6_lays (by decide) 0 (ci := 4) rfl rfl hP hK hD hE hS hA hl.1 (Nat.le_of_ble_eq_true rfl) ⟨Nat.zero_le _, Nat.zero_le _⟩ dX6_beginsMinute_45 (fun u9 H locs hw hP hD hS => ?_)
        obtain rfl := hw
        have hP : va_P (gD G) vwCl (wX6 G h0 a0 q4) H := hP
        have hD : va_D A (wX6 G h0 a0 q4) := hD
        refine lv_iinc (v := (x5 + (1 : Int32))) (lv' := [(5, .int (x5 + (1 : Int32))), (0, .ref h0), (1, .int x1), (2, .int x2), (3, .long x3)]) hx hb dX6_beginsMinute_48 hl (k := 4) rfl rfl (by decide) rfl (fun ls hl => ?_)
        refine lv_goto (tgt := 35) hx hb dX6_beginsMinute_51 (by decide) ?_
        exact ih _ _ hf _ _ _ hP hD hS (lv_sub hl [1, 2, 3, 4, 0] rfl)
  rw [f_X6_beginsMinute] at hf
  refine lv_aload_n hx hb dX6_beginsMinute_0 rfl (lv_at hl 0 rfl) ?_
  refine va_get (D := gD G) (ci := 4) (v := .ref (a0 0)) (C := RX6) (T := TX6) (N := 22) hx hb hg kl_X6 hown hK hP 0 rfl rfl 0 (by decide) (hg _ kq5_5) (fun _ h9 => h9) rfl dX6_beginsMinute_1 ?_
  refine lv_bipush (v := (14 : Int32)) hx hb dX6_beginsMinute_4 (by decide) ?_
  refine lv_lconst (v := (0 : Int64)) hx hb dX6_beginsMinute_6 (by decide) ?_
  refine va_last (f := (u0.2.2.2 0)) hx hb hK hP hD hS 1 2 rfl rfl (vin (by decide)) dX6_beginsMinute_7 (fun H locs hP hD hS => ?_)
  have hP : va_P (gD G) vwCl (wX6 G h0 a0 (oj u0 0 (vp_updL (u0.2.2.2 0) (14 : Int32).toNatClampNeg (0 : Int64)))) H := hP
  have hD : va_D A (wX6 G h0 a0 (oj u0 0 (vp_updL (u0.2.2.2 0) (14 : Int32).toNatClampNeg (0 : Int64)))) := hD
  refine lv_aload_n hx hb dX6_beginsMinute_8 rfl (lv_at hl 0 rfl) ?_
  refine va_get (D := gD G) (ci := 4) (v := .ref (a0 0)) (C := RX6) (T := TX6) (N := 22) hx hb hg kl_X6 hown hK hP 0 rfl rfl 0 (by decide) (hg _ kq5_5) (fun _ h9 => h9) rfl dX6_beginsMinute_9 ?_
  refine lv_bipush (v := (15 : Int32)) hx hb dX6_beginsMinute_12 (by decide) ?_
  refine lv_lconst (v := (0 : Int64)) hx hb dX6_beginsMinute_14 (by decide) ?_
  refine va_last (f := (vp_updL (u0.2.2.2 0) (14 : Int32).toNatClampNeg (0 : Int64))) hx hb hK hP hD hS 1 2 rfl rfl (vin (by decide)) dX6_beginsMinute_15 (fun H locs hP hD hS => ?_)
  have hP : va_P (gD G) vwCl (wX6 G h0 a0 (oj (oj u0 0 (vp_updL (u0.2.2.2 0) (14 : Int32).toNatClampNeg (0 : Int64))) 0 (vp_updL (vp_updL (u0.2.2.2 0) (14 : Int32).toNatClampNeg (0 : Int64)) (15 : Int32).toNatClampNeg (0 : Int64)))) H := hP
  have hD : va_D A (wX6 G h0 a0 (oj (oj u0 0 (vp_updL (u0.2.2.2 0) (14 : Int32).toNatClampNeg (0 : Int64))) 0 (vp_updL (vp_updL (u0.2.2.2 0) (14 : Int32).toNatClampNeg (0 : Int64)) (15 : Int32).toNatClampNeg (0 : Int64)))) := hD
  refine lv_aload_n hx hb dX6_beginsMinute_16 rfl (lv_at hl 0 rfl) ?_
  refine va_get (D := gD G) (ci := 4) (v := .ref (a0 0)) (C := RX6) (T := TX6) (N := 22) hx hb hg kl_X6 hown hK hP 0 rfl rfl 0 (by decide) (hg _ kq5_5) (fun _ h9 => h9) rfl dX6_beginsMinute_17 ?_
  refine lv_bipush (v := (8 : Int32)) hx hb dX6_beginsMinute_20 (by decide) ?_
  refine lv_lload_n hx hb dX6_beginsMinute_22 rfl (lv_at hl 3 rfl) ?_
  refine va_last (f := (vp_updL (vp_updL (u0.2.2.2 0) (14 : Int32).toNatClampNeg (0 : Int64)) (15 : Int32).toNatClampNeg (0 : Int64))) hx hb hK hP hD hS 1 2 rfl rfl (vin (by decide)) dX6_beginsMinute_23 (fun H locs hP hD hS => ?_)
  have hP : va_P (gD G) vwCl (wX6 G h0 a0 (oj (oj (oj u0 0 (vp_updL (u0.2.2.2 0) (14 : Int32).toNatClampNeg (0 : Int64))) 0 (vp_updL (vp_updL (u0.2.2.2 0) (14 : Int32).toNatClampNeg (0 : Int64)) (15 : Int32).toNatClampNeg (0 : Int64))) 0 (vp_updL (vp_updL (vp_updL (u0.2.2.2 0) (14 : Int32).toNatClampNeg (0 : Int64)) (15 : Int32).toNatClampNeg (0 : Int64)) (8 : Int32).toNatClampNeg x3))) H := hP
  have hD : va_D A (wX6 G h0 a0 (oj (oj (oj u0 0 (vp_updL (u0.2.2.2 0) (14 : Int32).toNatClampNeg (0 : Int64))) 0 (vp_updL (vp_updL (u0.2.2.2 0) (14 : Int32).toNatClampNeg (0 : Int64)) (15 : Int32).toNatClampNeg (0 : Int64))) 0 (vp_updL (vp_updL (vp_updL (u0.2.2.2 0) (14 : Int32).toNatClampNeg (0 : Int64)) (15 : Int32).toNatClampNeg (0 : Int64)) (8 : Int32).toNatClampNeg x3))) := hD
  refine lv_aload_n hx hb dX6_beginsMinute_24 rfl (lv_at hl 0 rfl) ?_
  refine va_get (D := gD G) (ci := 4) (v := .ref (a0 0)) (C := RX6) (T := TX6) (N := 22) hx hb hg kl_X6 hown hK hP 0 rfl rfl 0 (by decide) (hg _ kq5_5) (fun _ h9 => h9) rfl dX6_beginsMinute_25 ?_
  refine lv_iconst (v := (5 : Int32)) hx hb dX6_beginsMinute_28 (by decide) ?_
  refine lv_iload_n hx hb dX6_beginsMinute_29 rfl (lv_at hl 1 rfl) ?_
  refine lv_i2l (v := x1.toInt64) hx hb dX6_beginsMinute_30 rfl ?_
  refine va_last (f := (vp_updL (vp_updL (vp_updL (u0.2.2.2 0) (14 : Int32).toNatClampNeg (0 : Int64)) (15 : Int32).toNatClampNeg (0 : Int64)) (8 : Int32).toNatClampNeg x3)) hx hb hK hP hD hS 1 2 rfl rfl (vin (by decide)) dX6_beginsMinute_31 (fun H locs hP hD hS => ?_)
  have hP : va_P (gD G) vwCl (wX6 G h0 a0 (oj (oj (oj (oj u0 0 (vp_updL (u0.2.2.2 0) (14 : Int32).toNatClampNeg (0 : Int64))) 0 (vp_updL (vp_updL (u0.2.2.2 0) (14 : Int32).toNatClampNeg (0 : Int64)) (15 : Int32).toNatClampNeg (0 : Int64))) 0 (vp_updL (vp_updL (vp_updL (u0.2.2.2 0) (14 : Int32).toNatClampNeg (0 : Int64)) (15 : Int32).toNatClampNeg (0 : Int64)) (8 : Int32).toNatClampNeg x3)) 0 (vp_updL (vp_updL (vp_updL (vp_updL (u0.2.2.2 0) (14 : Int32).toNatClampNeg (0 : Int64)) (15 : Int32).toNatClampNeg (0 : Int64)) (8 : Int32).toNatClampNeg x3) (5 : Int32).toNatClampNeg x1.toInt64))) H := hP
  have hD : va_D A (wX6 G h0 a0 (oj (oj (oj (oj u0 0 (vp_updL (u0.2.2.2 0) (14 : Int32).toNatClampNeg (0 : Int64))) 0 (vp_updL (vp_updL (u0.2.2.2 0) (14 : Int32).toNatClampNeg (0 : Int64)) (15 : Int32).toNatClampNeg (0 : Int64))) 0 (vp_updL (vp_updL (vp_updL (u0.2.2.2 0) (14 : Int32).toNatClampNeg (0 : Int64)) (15 : Int32).toNatClampNeg (0 : Int64)) (8 : Int32).toNatClampNeg x3)) 0 (vp_updL (vp_updL (vp_updL (vp_updL (u0.2.2.2 0) (14 : Int32).toNatClampNeg (0 : Int64)) (15 : Int32).toNatClampNeg (0 : Int64)) (8 : Int32).toNatClampNeg x3) (5 : Int32).toNatClampNeg x1.toInt64))) := hD
  refine lv_iconst (v := (0 : Int32)) hx hb dX6_beginsMinute_32 (by decide) ?_
  refine lv_istore (lv' := [(5, .int (0 : Int32)), (0, .ref h0), (1, .int x1), (2, .int x2), (3, .long x3)]) hx hb dX6_beginsMinute_33 hl (by decide) rfl (fun ls hl => ?_)
  exact lp_35 N _ _ hf _ _ _ hP hD hS (lv_sub hl [1, 2, 3, 4, 0] rfl)
set_option maxRecDepth 100000 in
set_option maxHeartbeats 4000000 in
theorem c_X6_goesTo {l : Launch} {G : Gp} {sz N : Nat} {x1 : Int32} {x2 : Int32} {h0 : Nat} {a0 : Nat → Nat} {u0 : Ob} {q : Int32 × Ob} (hf : f_X6_goesTo N x1 x2 u0 = some q) : Met l yX6_goesTo (Cond.code yX6_goesTo cX6_goesTo 5 (some .int) :: lw_g) ({ frames := 1, cells := 0, slots := 0, locals := 22 } : Room) (va_Pc [.ref h0, .int x1, .int x2] (pw G (wX6 G h0 a0 u0) sz)) (va_Qi (fun (r : Int32) (v : Ob) => q.1 = r ∧ q.2 = v) (bw G (fun v : Ob => (wX6 G h0 a0 v)) (va_A (wX6 G h0 a0 u0) sz)) (va_A (wX6 G h0 a0 u0) sz)) 0 0 (va_A (wX6 G h0 a0 u0) sz) := by
  refine mt (Qc := (fun A => va_Qi (fun (r : Int32) (v : Ob) => q.1 = r ∧ q.2 = v) (bw G (fun v : Ob => (wX6 G h0 a0 v)) A) A)) (by decide) (Nat.le_of_ble_eq_true rfl) ?_
  intro p e s m below meth c A ls hx hb hr hlk hml hts hown hA hP hK hD hE hS hl
  have hown : s.vm.findClass RX6 = some m.cls := hown
  have hg : ∀ w ∈ lw_g, w.before ([.ref h0, .int x1, .int x2] : List Value).toArray s = true := fun w h => hts w (List.mem_cons_of_mem _ h)
  have hC : CallFix p m c cX6_goesTo 5 s ([.ref h0, .int x1, .int x2] : List Value).toArray (Cond.code yX6_goesTo cX6_goesTo 5 (some .int) :: lw_g) RX6 := ⟨hx, hb, hml, hown, hts⟩
  have hl : lv_has ls 5 [(0, .ref h0), (1, .int x1), (2, .int x2)] := hl
  have lp_13 : ∀ (n : Nat) (x3 : Int32) (x4 : Int32) (u0 : Ob), l_X6_goesTo_13 N x1 x2 n x3 x4 u0 = some q → ∀ (H : Heap) (locs : List Loc) (ls : Array Slot), va_P (gD G) vwCl (wX6 G h0 a0 u0) H → va_D A (wX6 G h0 a0 u0) → va_S A s.heap H locs → lv_has ls 5 [(0, .ref h0), (1, .int x1), (2, .int x2), (3, .int x3), (4, .int x4)] → W p l e ({ frames := 1, cells := 0, slots := 0, locals := 22 } : Room) s m ([.ref h0, .int x1, .int x2] : List Value).toArray below meth c H locs 0 0 (MQ below (va_Qi (fun (r : Int32) (v : Ob) => q.1 = r ∧ q.2 = v) (bw G (fun v : Ob => (wX6 G h0 a0 v)) A) A) ([.ref h0, .int x1, .int x2] : List Value).toArray s 0 0 A) (F0 m 13 ls []) := by
    intro n
    induction n with
    | zero => intro x3 x4 u0 hf; rw [l_X6_goesTo_13] at hf; cases hf
    | succ n ih =>
      intro x3 x4 u0 hf H locs ls hP hD hS hl
      rw [l_X6_goesTo_13] at hf
      refine lv_iload hx hb dX6_goesTo_13 (lv_at hl 4 rfl) ?_
      refine lv_iload_n hx hb dX6_goesTo_15 rfl (lv_at hl 1 rfl) ?_
      refine lv_icmp_ge (tgt := 32) hx hb dX6_goesTo_16 (by decide) (fun c1 => ?_) (fun c1 => ?_)
      · have hf := tp hf c1
        refine lv_aload_n hx hb dX6_goesTo_32 rfl (lv_at hl 0 rfl) ?_
        refine lv_iload_n hx hb dX6_goesTo_33 rfl (lv_at hl 1 rfl) ?_
        refine lv_iload_n hx hb dX6_goesTo_34 rfl (lv_at hl 2 rfl) ?_
        obtain ⟨q2, e3, hf⟩ := tbd hf
        refine kVv1 (As := [.int x1, .int x2]) (rest := []) hC (c_X6_lays (G := G) e3) kq6_14 kc_X6_lays (by decide) 0 (ci := 4) rfl rfl hP hK hD hE hS hA hl.1 (Nat.le_of_ble_eq_true rfl) ⟨Nat.zero_le _, Nat.zero_le _⟩ dX6_goesTo_35 (fun u9 H locs hw hP hD hS => ?_)
        obtain rfl := hw
        have hP : va_P (gD G) vwCl (wX6 G h0 a0 q2) H := hP
        have hD : va_D A (wX6 G h0 a0 q2) := hD
        refine lv_aload_n hx hb dX6_goesTo_38 rfl (lv_at hl 0 rfl) ?_
        refine va_get (D := gD G) (ci := 4) (v := .ref (a0 0)) (C := RX6) (T := TX6) (N := 22) hx hb hg kl_X6 hown hK hP 0 rfl rfl 0 (by decide) (hg _ kq5_5) (fun _ h9 => h9) rfl dX6_goesTo_39 ?_
        refine lv_iconst (v := (5 : Int32)) hx hb dX6_goesTo_42 (by decide) ?_
        refine lv_iload_n hx hb dX6_goesTo_43 rfl (lv_at hl 1 rfl) ?_
        refine lv_i2l (v := x1.toInt64) hx hb dX6_goesTo_44 rfl ?_
        refine va_last (f := (q2.2.2.2 0)) hx hb hK hP hD hS 1 2 rfl rfl (vin (by decide)) dX6_goesTo_45 (fun H locs hP hD hS => ?_)
        have hP : va_P (gD G) vwCl (wX6 G h0 a0 (oj q2 0 (vp_updL (q2.2.2.2 0) (5 : Int32).toNatClampNeg x1.toInt64))) H := hP
        have hD : va_D A (wX6 G h0 a0 (oj q2 0 (vp_updL (q2.2.2.2 0) (5 : Int32).toNatClampNeg x1.toInt64))) := hD
        refine lv_iload_n hx hb dX6_goesTo_46 rfl (lv_at hl 1 rfl) ?_
        refine lv_iload_n hx hb dX6_goesTo_47 rfl (lv_at hl 3 rfl) ?_
        refine lv_isub hx hb dX6_goesTo_48 ?_
        refine lv_iconst (v := (1 : Int32)) hx hb dX6_goesTo_49 (by decide) ?_
        refine lv_icmp_le (tgt := 57) hx hb dX6_goesTo_50 (by decide) (fun c4 => ?_) (fun c4 => ?_)
        · have hf := tp hf c4
          refine lv_iconst (v := (1 : Int32)) hx hb dX6_goesTo_57 (by decide) ?_
          have hf := Option.some.inj hf
          subst hf
          exact e_i (wf := (fun v : Ob => (wX6 G h0 a0 v))) hx hb hr hlk (oj q2 0 (vp_updL (q2.2.2.2 0) (5 : Int32).toNatClampNeg x1.toInt64)) ⟨rfl, rfl⟩ hP hK hD hS dX6_goesTo_58
        · have hf := tn hf c4
          refine lv_iconst (v := (2 : Int32)) hx hb dX6_goesTo_53 (by decide) ?_
          refine lv_goto (tgt := 58) hx hb dX6_goesTo_54 (by decide) ?_
          have hf := Option.some.inj hf
          subst hf
          exact e_i (wf := (fun v : Ob => (wX6 G h0 a0 v))) hx hb hr hlk (oj q2 0 (vp_updL (q2.2.2.2 0) (5 : Int32).toNatClampNeg x1.toInt64)) ⟨rfl, rfl⟩ hP hK hD hS dX6_goesTo_58
      · have hf := tn hf c1
        refine lv_aload_n hx hb dX6_goesTo_19 rfl (lv_at hl 0 rfl) ?_
        refine lv_iload hx hb dX6_goesTo_20 (lv_at hl 4 rfl) ?_
        refine lv_iconst (v := (2 : Int32)) hx hb dX6_goesTo_22 (by decide) ?_
        obtain ⟨q5, e6, hf⟩ := tbd hf
        refine kVv1 (As := [.int x4, .int (2 : Int32)]) (rest := []) hC (c_X6_lays (G := G) e6) kq6_14 kc_X6_lays (by decide) 0 (ci := 4) rfl rfl hP hK hD hE hS hA hl.1 (Nat.le_of_ble_eq_true rfl) ⟨Nat.zero_le _, Nat.zero_le _⟩ dX6_goesTo_23 (fun u9 H locs hw hP hD hS => ?_)
        obtain rfl := hw
        have hP : va_P (gD G) vwCl (wX6 G h0 a0 q5) H := hP
        have hD : va_D A (wX6 G h0 a0 q5) := hD
        refine lv_iinc (v := (x4 + (1 : Int32))) (lv' := [(4, .int (x4 + (1 : Int32))), (0, .ref h0), (1, .int x1), (2, .int x2), (3, .int x3)]) hx hb dX6_goesTo_26 hl (k := 4) rfl rfl (by decide) rfl (fun ls hl => ?_)
        refine lv_goto (tgt := 13) hx hb dX6_goesTo_29 (by decide) ?_
        exact ih _ _ _ hf _ _ _ hP hD hS (lv_sub hl [1, 2, 3, 4, 0] rfl)
  rw [f_X6_goesTo] at hf
  refine lv_aload_n hx hb dX6_goesTo_0 rfl (lv_at hl 0 rfl) ?_
  refine va_get (D := gD G) (ci := 4) (v := .ref (a0 0)) (C := RX6) (T := TX6) (N := 22) hx hb hg kl_X6 hown hK hP 0 rfl rfl 0 (by decide) (hg _ kq5_5) (fun _ h9 => h9) rfl dX6_goesTo_1 ?_
  refine lv_iconst (v := (5 : Int32)) hx hb dX6_goesTo_4 (by decide) ?_
  refine va_lald (f := (u0.2.2.2 0)) hx hb hK hP 1 2 rfl rfl (vin (by decide)) dX6_goesTo_5 ?_
  refine lv_l2i (v := ((u0.2.2.2 0) (5 : Int32).toNatClampNeg).toInt32) hx hb dX6_goesTo_6 rfl ?_
  refine lv_istore_n (lv' := [(3, .int ((u0.2.2.2 0) (5 : Int32).toNatClampNeg).toInt32), (0, .ref h0), (1, .int x1), (2, .int x2)]) hx hb dX6_goesTo_7 rfl hl (by decide) rfl (fun ls hl => ?_)
  refine lv_iload_n hx hb dX6_goesTo_8 rfl (lv_at hl 0 rfl) ?_
  refine lv_iconst (v := (1 : Int32)) hx hb dX6_goesTo_9 (by decide) ?_
  refine lv_iadd hx hb dX6_goesTo_10 ?_
  refine lv_istore (lv' := [(4, .int (((u0.2.2.2 0) (5 : Int32).toNatClampNeg).toInt32 + (1 : Int32))), (3, .int ((u0.2.2.2 0) (5 : Int32).toNatClampNeg).toInt32), (0, .ref h0), (1, .int x1), (2, .int x2)]) hx hb dX6_goesTo_11 hl (by decide) rfl (fun ls hl => ?_)
  exact lp_13 N _ _ _ hf _ _ _ hP hD hS (lv_sub hl [2, 3, 4, 1, 0] rfl)
set_option maxRecDepth 100000 in
set_option maxHeartbeats 4000000 in
theorem c_X6_madeBy {l : Launch} {G : Gp} {sz N : Nat} {x0 : Int64} {x2 : Int64} {x4 : Int32} {q : Int64} (hf : f_X6_madeBy N x0 x2 x4 = some q) : Met l yX6_madeBy (Cond.code yX6_madeBy cX6_madeBy 9 (some .long) :: lw_g) ({ frames := 1, cells := 0, slots := 0, locals := 22 } : Room) (va_Pc [.long x0, .long x2, .int x4] (pw G [] sz)) (va_Ql (fun (r : Int64) (v : Unit) => q = r ∧ () = v) (bw G (fun _ : Unit => ([] : va_W)) (va_A [] sz)) (va_A [] sz)) 0 0 (va_A [] sz) := by
  refine mt (Qc := (fun A => va_Ql (fun (r : Int64) (v : Unit) => q = r ∧ () = v) (bw G (fun _ : Unit => ([] : va_W)) A) A)) (by decide) (Nat.le_of_ble_eq_true rfl) ?_
  intro p e s m below meth c A ls hx hb hr hlk hml hts hown hA hP hK hD hE hS hl
  have hown : s.vm.findClass RX6 = some m.cls := hown
  have hg : ∀ w ∈ lw_g, w.before ([.long x0, .long x2, .int x4] : List Value).toArray s = true := fun w h => hts w (List.mem_cons_of_mem _ h)
  have hC : CallFix p m c cX6_madeBy 9 s ([.long x0, .long x2, .int x4] : List Value).toArray (Cond.code yX6_madeBy cX6_madeBy 9 (some .long) :: lw_g) RX6 := ⟨hx, hb, hml, hown, hts⟩
  have hl : lv_has ls 9 [(0, .long x0), (2, .long x2), (4, .int x4)] := hl
  have lp_9 : ∀ (n : Nat) (x5 : Int64) (x7 : Int32) (x8 : Int32), l_X6_madeBy_9 N x0 x2 x4 n x5 x7 x8 = some q → ∀ (H : Heap) (locs : List Loc) (ls : Array Slot), va_P (gD G) vwCl [] H → va_D A [] → va_S A s.heap H locs → lv_has ls 9 [(0, .long x0), (2, .long x2), (4, .int x4), (5, .long x5), (7, .int x7), (8, .int x8)] → W p l e ({ frames := 1, cells := 0, slots := 0, locals := 22 } : Room) s m ([.long x0, .long x2, .int x4] : List Value).toArray below meth c H locs 0 0 (MQ below (va_Ql (fun (r : Int64) (v : Unit) => q = r ∧ () = v) (bw G (fun _ : Unit => ([] : va_W)) A) A) ([.long x0, .long x2, .int x4] : List Value).toArray s 0 0 A) (F0 m 9 ls []) := by
    intro n
    induction n with
    | zero => intro x5 x7 x8 hf; rw [l_X6_madeBy_9] at hf; cases hf
    | succ n ih =>
      intro x5 x7 x8 hf H locs ls hP hD hS hl
      rw [l_X6_madeBy_9] at hf
      refine lv_iload hx hb dX6_madeBy_9 (lv_at hl 5 rfl) ?_
      refine lv_bipush (v := (59 : Int32)) hx hb dX6_madeBy_11 (by decide) ?_
      refine lv_icmp_ge (tgt := 65) hx hb dX6_madeBy_13 (by decide) (fun c1 => ?_) (fun c1 => ?_)
      · have hf := tp hf c1
        refine lv_lload hx hb dX6_madeBy_65 (lv_at hl 3 rfl) ?_
        have hf := Option.some.inj hf
        subst hf
        exact e_l (wf := (fun _ : Unit => ([] : va_W))) hx hb hr hlk () ⟨rfl, rfl⟩ hP hK hD hS dX6_madeBy_67
      · have hf := tn hf c1
        refine lv_lload_n hx hb dX6_madeBy_16 rfl (lv_at hl 1 rfl) ?_
        refine lv_ldc2 hx hb hown (hg _ kq6_42) dX6_madeBy_17 ?_
        refine lv_land hx hb dX6_madeBy_20 ?_
        refine lv_iload hx hb dX6_madeBy_21 (lv_at hl 5 rfl) ?_
        obtain ⟨q2, e3, hf⟩ := tbd hf
        refine kSi0 (As := [.long (x2 &&& (576460752302899201 : Int64)), .int x8]) (rest := []) hC (c_X6_has (G := G) e3) kq5_145 kc_X6_has (by decide) hP hK hD hE hS hA hl.1 (Nat.le_of_ble_eq_true rfl) ⟨Nat.zero_le _, Nat.zero_le _⟩ dX6_madeBy_23 (fun r9 u9 H locs hw hP hD hS => ?_)
        obtain ⟨rfl, rfl⟩ := hw
        refine bz_ne (tgt := 32) hx hb dX6_madeBy_26 (by decide) (fun c4 => ?_) (fun c4 => ?_)
        · have hf := tp hf c4
          refine lv_lload hx hb dX6_madeBy_32 (lv_at hl 3 rfl) ?_
          refine lv_iload hx hb dX6_madeBy_34 (lv_at hl 2 rfl) ?_
          refine lv_i2l (v := x4.toInt64) hx hb dX6_madeBy_36 rfl ?_
          refine lv_iload hx hb dX6_madeBy_37 (lv_at hl 4 rfl) ?_
          obtain ⟨q5, e6, hf⟩ := tbd hf
          refine kSi0 (As := [.long x4.toInt64, .int x7]) (rest := [.long x5]) hC (c_X6_has (G := G) e6) kq5_145 kc_X6_has (by decide) hP hK hD hE hS hA hl.1 (Nat.le_of_ble_eq_true rfl) ⟨Nat.zero_le _, Nat.zero_le _⟩ dX6_madeBy_39 (fun r9 u9 H locs hw hP hD hS => ?_)
          obtain ⟨rfl, rfl⟩ := hw
          refine bz_eq (tgt := 52) hx hb dX6_madeBy_42 (by decide) (fun c7 => ?_) (fun c7 => ?_)
          · have hf := tn hf c7
            refine lv_lconst (v := (0 : Int64)) hx hb dX6_madeBy_52 (by decide) ?_
            refine lv_lor hx hb dX6_madeBy_53 ?_
            refine lv_lstore (lv' := [(5, .long (x5 ||| (0 : Int64))), (0, .long x0), (2, .long x2), (4, .int x4), (7, .int x7), (8, .int x8)]) hx hb dX6_madeBy_54 hl (by decide) rfl (fun ls hl => ?_)
            refine lv_iinc (v := (x7 + (1 : Int32))) (lv' := [(7, .int (x7 + (1 : Int32))), (5, .long (x5 ||| (0 : Int64))), (0, .long x0), (2, .long x2), (4, .int x4), (8, .int x8)]) hx hb dX6_madeBy_56 hl (k := 4) rfl rfl (by decide) rfl (fun ls hl => ?_)
            refine lv_iinc (v := (x8 + (1 : Int32))) (lv' := [(8, .int (x8 + (1 : Int32))), (7, .int (x7 + (1 : Int32))), (5, .long (x5 ||| (0 : Int64))), (0, .long x0), (2, .long x2), (4, .int x4)]) hx hb dX6_madeBy_59 hl (k := 5) rfl rfl (by decide) rfl (fun ls hl => ?_)
            refine lv_goto (tgt := 9) hx hb dX6_madeBy_62 (by decide) ?_
            exact ih _ _ _ hf _ _ _ hP hD hS (lv_sub hl [3, 4, 5, 2, 1, 0] rfl)
          · have hf := tp hf c7
            refine lv_lconst (v := (1 : Int64)) hx hb dX6_madeBy_45 (by decide) ?_
            refine lv_iload hx hb dX6_madeBy_46 (lv_at hl 5 rfl) ?_
            refine lv_lshl (v := (jshl (1 : Int64) x8)) hx hb dX6_madeBy_48 rfl ?_
            refine lv_goto (tgt := 53) hx hb dX6_madeBy_49 (by decide) ?_
            refine lv_lor hx hb dX6_madeBy_53 ?_
            refine lv_lstore (lv' := [(5, .long (x5 ||| (jshl (1 : Int64) x8))), (0, .long x0), (2, .long x2), (4, .int x4), (7, .int x7), (8, .int x8)]) hx hb dX6_madeBy_54 hl (by decide) rfl (fun ls hl => ?_)
            refine lv_iinc (v := (x7 + (1 : Int32))) (lv' := [(7, .int (x7 + (1 : Int32))), (5, .long (x5 ||| (jshl (1 : Int64) x8))), (0, .long x0), (2, .long x2), (4, .int x4), (8, .int x8)]) hx hb dX6_madeBy_56 hl (k := 4) rfl rfl (by decide) rfl (fun ls hl => ?_)
            refine lv_iinc (v := (x8 + (1 : Int32))) (lv' := [(8, .int (x8 + (1 : Int32))), (7, .int (x7 + (1 : Int32))), (5, .long (x5 ||| (jshl (1 : Int64) x8))), (0, .long x0), (2, .long x2), (4, .int x4)]) hx hb dX6_madeBy_59 hl (k := 5) rfl rfl (by decide) rfl (fun ls hl => ?_)
            refine lv_goto (tgt := 9) hx hb dX6_madeBy_62 (by decide) ?_
            exact ih _ _ _ hf _ _ _ hP hD hS (lv_sub hl [3, 4, 5, 2, 1, 0] rfl)
        · have hf := tn hf c4
          refine lv_goto (tgt := 59) hx hb dX6_madeBy_29 (by decide) ?_
          refine lv_iinc (v := (x8 + (1 : Int32))) (lv' := [(8, .int (x8 + (1 : Int32))), (0, .long x0), (2, .long x2), (4, .int x4), (5, .long x5), (7, .int x7)]) hx hb dX6_madeBy_59 hl (k := 5) rfl rfl (by decide) rfl (fun ls hl => ?_)
          refine lv_goto (tgt := 9) hx hb dX6_madeBy_62 (by decide) ?_
          exact ih _ _ _ hf _ _ _ hP hD hS (lv_sub hl [1, 2, 3, 4, 5, 0] rfl)
  rw [f_X6_madeBy] at hf
  refine lv_lload_n hx hb dX6_madeBy_0 rfl (lv_at hl 0 rfl) ?_
  refine lv_lstore (lv' := [(5, .long x0), (0, .long x0), (2, .long x2), (4, .int x4)]) hx hb dX6_madeBy_1 hl (by decide) rfl (fun ls hl => ?_)
  refine lv_iconst (v := (0 : Int32)) hx hb dX6_madeBy_3 (by decide) ?_
  refine lv_istore (lv' := [(7, .int (0 : Int32)), (5, .long x0), (0, .long x0), (2, .long x2), (4, .int x4)]) hx hb dX6_madeBy_4 hl (by decide) rfl (fun ls hl => ?_)
  refine lv_iconst (v := (0 : Int32)) hx hb dX6_madeBy_6 (by decide) ?_
  refine lv_istore (lv' := [(8, .int (0 : Int32)), (7, .int (0 : Int32)), (5, .long x0), (0, .long x0), (2, .long x2), (4, .int x4)]) hx hb dX6_madeBy_7 hl (by decide) rfl (fun ls hl => ?_)
  exact lp_9 N _ _ _ hf _ _ _ hP hD hS (lv_sub hl [3, 4, 5, 2, 1, 0] rfl)
set_option maxRecDepth 100000 in
set_option maxHeartbeats 4000000 in
theorem c_X6_tells {l : Launch} {G : Gp} {sz N : Nat} {x1 : Int32} {h0 : Nat} {a0 : Nat → Nat} {u0 : Ob} {q : Int32 × Ob} (hf : f_X6_tells N x1 u0 = some q) : Met l yX6_tells (Cond.code yX6_tells cX6_tells 11 (some .int) :: lw_g) ({ frames := 4, cells := 0, slots := 0, locals := 99 } : Room) (va_Pc [.ref h0, .int x1] (pw G (wX6 G h0 a0 u0) sz)) (va_Qi (fun (r : Int32) (v : Ob) => q.1 = r ∧ q.2 = v) (bw G (fun v : Ob => (wX6 G h0 a0 v)) (va_A (wX6 G h0 a0 u0) sz)) (va_A (wX6 G h0 a0 u0) sz)) 0 0 (va_A (wX6 G h0 a0 u0) sz) := by
  refine mt (Qc := (fun A => va_Qi (fun (r : Int32) (v : Ob) => q.1 = r ∧ q.2 = v) (bw G (fun v : Ob => (wX6 G h0 a0 v)) A) A)) (by decide) (Nat.le_of_ble_eq_true rfl) ?_
  intro p e s m below meth c A ls hx hb hr hlk hml hts hown hA hP hK hD hE hS hl
  have hown : s.vm.findClass RX6 = some m.cls := hown
  have hg : ∀ w ∈ lw_g, w.before ([.ref h0, .int x1] : List Value).toArray s = true := fun w h => hts w (List.mem_cons_of_mem _ h)
  have hC : CallFix p m c cX6_tells 11 s ([.ref h0, .int x1] : List Value).toArray (Cond.code yX6_tells cX6_tells 11 (some .int) :: lw_g) RX6 := ⟨hx, hb, hml, hown, hts⟩
  have hl : lv_has ls 11 [(0, .ref h0), (1, .int x1)] := hl
  have lp_95 : ∀ (n : Nat) (x2 : Int64) (x4 : Int64) (x6 : Int32) (x7 : Int32) (x8 : Int32) (x9 : Int32) (x10 : Int32) (u0 : Ob), l_X6_tells_95 N x1 n x2 x4 x6 x7 x8 x9 x10 u0 = some q → ∀ (H : Heap) (locs : List Loc) (ls : Array Slot), va_P (gD G) vwCl (wX6 G h0 a0 u0) H → va_D A (wX6 G h0 a0 u0) → va_S A s.heap H locs → lv_has ls 11 [(0, .ref h0), (1, .int x1), (2, .long x2), (4, .long x4), (6, .int x6), (7, .int x7), (8, .int x8), (9, .int x9), (10, .int x10)] → W p l e ({ frames := 4, cells := 0, slots := 0, locals := 99 } : Room) s m ([.ref h0, .int x1] : List Value).toArray below meth c H locs 0 0 (MQ below (va_Qi (fun (r : Int32) (v : Ob) => q.1 = r ∧ q.2 = v) (bw G (fun v : Ob => (wX6 G h0 a0 v)) A) A) ([.ref h0, .int x1] : List Value).toArray s 0 0 A) (F0 m 95 ls []) := by
    intro n
    induction n with
    | zero => intro x2 x4 x6 x7 x8 x9 x10 u0 hf; rw [l_X6_tells_95] at hf; cases hf
    | succ n ih =>
      intro x2 x4 x6 x7 x8 x9 x10 u0 hf H locs ls hP hD hS hl
      rw [l_X6_tells_95] at hf
      refine lv_iload hx hb dX6_tells_95 (lv_at hl 8 rfl) ?_
      refine lv_iconst (v := (1 : Int32)) hx hb dX6_tells_97 (by decide) ?_
      refine lv_iload hx hb dX6_tells_98 (lv_at hl 5 rfl) ?_
      refine lv_ishl hx hb dX6_tells_100 ?_
      refine lv_icmp_ge (tgt := 150) hx hb dX6_tells_101 (by decide) (fun c10 => ?_) (fun c10 => ?_)
      · have hf := tp hf c10
        refine lv_iload hx hb dX6_tells_150 (lv_at hl 6 rfl) ?_
        refine lv_iconst (v := (1 : Int32)) hx hb dX6_tells_152 (by decide) ?_
        refine lv_icmp_ne (tgt := 161) hx hb dX6_tells_153 (by decide) (fun c11 => ?_) (fun c11 => ?_)
        · have hf := tn hf c11
          refine lv_iconst (v := (-1 : Int32)) hx hb dX6_tells_161 (by decide) ?_
          have hf := Option.some.inj hf
          subst hf
          exact e_i (wf := (fun v : Ob => (wX6 G h0 a0 v))) hx hb hr hlk u0 ⟨rfl, rfl⟩ hP hK hD hS dX6_tells_162
        · have hf := tp hf c11
          refine lv_iload hx hb dX6_tells_156 (lv_at hl 7 rfl) ?_
          refine lv_goto (tgt := 162) hx hb dX6_tells_158 (by decide) ?_
          have hf := Option.some.inj hf
          subst hf
          exact e_i (wf := (fun v : Ob => (wX6 G h0 a0 v))) hx hb hr hlk u0 ⟨rfl, rfl⟩ hP hK hD hS dX6_tells_162
      · have hf := tn hf c10
        refine lv_aload_n hx hb dX6_tells_104 rfl (lv_at hl 0 rfl) ?_
        refine lv_lload_n hx hb dX6_tells_105 rfl (lv_at hl 2 rfl) ?_
        refine lv_lload hx hb dX6_tells_106 (lv_at hl 3 rfl) ?_
        refine lv_iload hx hb dX6_tells_108 (lv_at hl 8 rfl) ?_
        obtain ⟨q12, e13, hf⟩ := tbd hf
        refine kSl0 (As := [.long x2, .long x4, .int x10]) (rest := [.ref h0]) hC (c_X6_madeBy (G := G) e13) kq6_52 kc_X6_madeBy (by decide) hP hK hD hE hS hA hl.1 (Nat.le_of_ble_eq_true rfl) ⟨Nat.zero_le _, Nat.zero_le _⟩ dX6_tells_110 (fun r9 u9 H locs hw hP hD hS => ?_)
        obtain ⟨rfl, rfl⟩ := hw
        refine lv_lconst (v := (0 : Int64)) hx hb dX6_tells_113 (by decide) ?_
        obtain ⟨q14, e15, hf⟩ := tbd hf
        refine kVi1 (As := [.long q12, .long (0 : Int64)]) (rest := []) hC (c_X6_faultOf (G := G) e15) kq6_38 kc_X6_faultOf (by decide) 0 (ci := 4) rfl rfl hP hK hD hE hS hA hl.1 (Nat.le_of_ble_eq_true rfl) ⟨Nat.zero_le _, Nat.zero_le _⟩ dX6_tells_114 (fun r9 u9 H locs hw hP hD hS => ?_)
        obtain ⟨rfl, rfl⟩ := hw
        have hP : va_P (gD G) vwCl (wX6 G h0 a0 q14.2) H := hP
        have hD : va_D A (wX6 G h0 a0 q14.2) := hD
        refine lv_if_eq (tgt := 123) hx hb dX6_tells_117 (by decide) (fun c16 => ?_) (fun c16 => ?_)
        · have hf := tp hf c16
          refine lv_iinc (v := (x8 + (1 : Int32))) (lv' := [(8, .int (x8 + (1 : Int32))), (0, .ref h0), (1, .int x1), (2, .long x2), (4, .long x4), (6, .int x6), (7, .int x7), (9, .int x9), (10, .int x10)]) hx hb dX6_tells_123 hl (k := 6) rfl rfl (by decide) rfl (fun ls hl => ?_)
          refine lv_aload_n hx hb dX6_tells_126 rfl (lv_at hl 1 rfl) ?_
          refine va_get (D := gD G) (ci := 4) (v := .int (q14.2.1 8)) (C := RX6) (T := TX6) (N := 22) hx hb hg kl_X6 hown hK hP 0 rfl rfl 8 (by decide) (hg _ kq5_13) (fun _ h9 => h9) rfl dX6_tells_127 ?_
          refine lv_istore (lv' := [(9, .int (q14.2.1 8)), (8, .int (x8 + (1 : Int32))), (0, .ref h0), (1, .int x1), (2, .long x2), (4, .long x4), (6, .int x6), (7, .int x7), (10, .int x10)]) hx hb dX6_tells_130 hl (by decide) rfl (fun ls hl => ?_)
          refine lv_aload_n hx hb dX6_tells_132 rfl (lv_at hl 2 rfl) ?_
          refine lv_lload_n hx hb dX6_tells_133 rfl (lv_at hl 4 rfl) ?_
          refine lv_lload hx hb dX6_tells_134 (lv_at hl 5 rfl) ?_
          refine lv_iload hx hb dX6_tells_136 (lv_at hl 8 rfl) ?_
          obtain ⟨q17, e18, hf⟩ := tbd hf
          refine kSl0 (As := [.long x2, .long x4, .int x10]) (rest := [.ref h0]) hC (c_X6_madeBy (G := G) e18) kq6_52 kc_X6_madeBy (by decide) hP hK hD hE hS hA hl.1 (Nat.le_of_ble_eq_true rfl) ⟨Nat.zero_le _, Nat.zero_le _⟩ dX6_tells_138 (fun r9 u9 H locs hw hP hD hS => ?_)
          obtain ⟨rfl, rfl⟩ := hw
          refine va_put (D := gD G) (ci := 4) (v := .long q17) (ty := .long) (C := RX6) (T := TX6) (N := 22) hx hb hg kl_X6 tyX6 tyX6_ok nmX6 hown hK hP hD hS 0 rfl rfl 19 (by decide) (hg _ kq5_24) (fun _ h9 => h9) rfl (by decide +kernel) rfl rfl (Nat.le_of_ble_eq_true rfl) dX6_tells_141 (fun H locs hP hD hS => ?_)
          have hP : va_P (gD G) vwCl (wX6 G h0 a0 (ol q14.2 19 q17)) H := hP
          have hD : va_D A (wX6 G h0 a0 (ol q14.2 19 q17)) := hD
          refine lv_iinc (v := (x10 + (1 : Int32))) (lv' := [(10, .int (x10 + (1 : Int32))), (9, .int (q14.2.1 8)), (8, .int (x8 + (1 : Int32))), (0, .ref h0), (1, .int x1), (2, .long x2), (4, .long x4), (6, .int x6), (7, .int x7)]) hx hb dX6_tells_144 hl (k := 8) rfl rfl (by decide) rfl (fun ls hl => ?_)
          refine lv_goto (tgt := 95) hx hb dX6_tells_147 (by decide) ?_
          exact ih _ _ _ _ _ _ _ _ hf _ _ _ hP hD hS (lv_sub hl [3, 4, 5, 6, 7, 8, 2, 1, 0] rfl)
        · have hf := tn hf c16
          refine lv_goto (tgt := 144) hx hb dX6_tells_120 (by decide) ?_
          refine lv_iinc (v := (x10 + (1 : Int32))) (lv' := [(10, .int (x10 + (1 : Int32))), (0, .ref h0), (1, .int x1), (2, .long x2), (4, .long x4), (6, .int x6), (7, .int x7), (8, .int x8), (9, .int x9)]) hx hb dX6_tells_144 hl (k := 8) rfl rfl (by decide) rfl (fun ls hl => ?_)
          refine lv_goto (tgt := 95) hx hb dX6_tells_147 (by decide) ?_
          exact ih _ _ _ _ _ _ _ _ hf _ _ _ hP hD hS (lv_sub hl [1, 2, 3, 4, 5, 6, 7, 8, 0] rfl)
  rw [f_X6_tells] at hf
  refine lv_aload_n hx hb dX6_tells_0 rfl (lv_at hl 0 rfl) ?_
  refine va_get (D := gD G) (ci := 4) (v := .ref (a0 0)) (C := RX6) (T := TX6) (N := 22) hx hb hg kl_X6 hown hK hP 0 rfl rfl 0 (by decide) (hg _ kq5_5) (fun _ h9 => h9) rfl dX6_tells_1 ?_
  refine lv_bipush (v := (16 : Int32)) hx hb dX6_tells_4 (by decide) ?_
  refine lv_iconst (v := (2 : Int32)) hx hb dX6_tells_6 (by decide) ?_
  refine lv_iload_n hx hb dX6_tells_7 rfl (lv_at hl 1 rfl) ?_
  refine lv_imul hx hb dX6_tells_8 ?_
  refine lv_iadd hx hb dX6_tells_9 ?_
  obtain ⟨b1, hf⟩ := tno hf
  refine va_lald (f := (u0.2.2.2 0)) hx hb hK hP 1 2 rfl rfl b1 dX6_tells_10 ?_
  refine lv_lstore_n (lv' := [(2, .long ((u0.2.2.2 0) ((16 : Int32) + ((2 : Int32) * x1)).toNatClampNeg)), (0, .ref h0), (1, .int x1)]) hx hb dX6_tells_11 rfl hl (by decide) rfl (fun ls hl => ?_)
  refine lv_aload_n hx hb dX6_tells_12 rfl (lv_at hl 1 rfl) ?_
  refine va_get (D := gD G) (ci := 4) (v := .ref (a0 0)) (C := RX6) (T := TX6) (N := 22) hx hb hg kl_X6 hown hK hP 0 rfl rfl 0 (by decide) (hg _ kq5_5) (fun _ h9 => h9) rfl dX6_tells_13 ?_
  refine lv_bipush (v := (16 : Int32)) hx hb dX6_tells_16 (by decide) ?_
  refine lv_iconst (v := (2 : Int32)) hx hb dX6_tells_18 (by decide) ?_
  refine lv_iload_n hx hb dX6_tells_19 rfl (lv_at hl 2 rfl) ?_
  refine lv_imul hx hb dX6_tells_20 ?_
  refine lv_iadd hx hb dX6_tells_21 ?_
  refine lv_iconst (v := (1 : Int32)) hx hb dX6_tells_22 (by decide) ?_
  refine lv_iadd hx hb dX6_tells_23 ?_
  obtain ⟨b2, hf⟩ := tno hf
  refine va_lald (f := (u0.2.2.2 0)) hx hb hK hP 1 2 rfl rfl b2 dX6_tells_24 ?_
  refine lv_lstore (lv' := [(4, .long ((u0.2.2.2 0) (((16 : Int32) + ((2 : Int32) * x1)) + (1 : Int32)).toNatClampNeg)), (2, .long ((u0.2.2.2 0) ((16 : Int32) + ((2 : Int32) * x1)).toNatClampNeg)), (0, .ref h0), (1, .int x1)]) hx hb dX6_tells_25 hl (by decide) rfl (fun ls hl => ?_)
  refine lv_aload_n hx hb dX6_tells_27 rfl (lv_at hl 2 rfl) ?_
  refine lv_lload_n hx hb dX6_tells_28 rfl (lv_at hl 1 rfl) ?_
  refine va_put (D := gD G) (ci := 4) (v := .long ((u0.2.2.2 0) ((16 : Int32) + ((2 : Int32) * x1)).toNatClampNeg)) (ty := .long) (C := RX6) (T := TX6) (N := 22) hx hb hg kl_X6 tyX6 tyX6_ok nmX6 hown hK hP hD hS 0 rfl rfl 19 (by decide) (hg _ kq5_24) (fun _ h9 => h9) rfl (by decide +kernel) rfl rfl (Nat.le_of_ble_eq_true rfl) dX6_tells_29 (fun H locs hP hD hS => ?_)
  have hP : va_P (gD G) vwCl (wX6 G h0 a0 (ol u0 19 ((u0.2.2.2 0) ((16 : Int32) + ((2 : Int32) * x1)).toNatClampNeg))) H := hP
  have hD : va_D A (wX6 G h0 a0 (ol u0 19 ((u0.2.2.2 0) ((16 : Int32) + ((2 : Int32) * x1)).toNatClampNeg))) := hD
  refine lv_aload_n hx hb dX6_tells_32 rfl (lv_at hl 2 rfl) ?_
  refine lv_lload_n hx hb dX6_tells_33 rfl (lv_at hl 1 rfl) ?_
  refine lv_lload hx hb dX6_tells_34 (lv_at hl 0 rfl) ?_
  obtain ⟨q3, e4, hf⟩ := tbd hf
  refine kVi1 (As := [.long ((u0.2.2.2 0) ((16 : Int32) + ((2 : Int32) * x1)).toNatClampNeg), .long ((u0.2.2.2 0) (((16 : Int32) + ((2 : Int32) * x1)) + (1 : Int32)).toNatClampNeg)]) (rest := []) hC (c_X6_faultOf (G := G) e4) kq6_38 kc_X6_faultOf (by decide) 0 (ci := 4) rfl rfl hP hK hD hE hS hA hl.1 (Nat.le_of_ble_eq_true rfl) ⟨Nat.zero_le _, Nat.zero_le _⟩ dX6_tells_36 (fun r9 u9 H locs hw hP hD hS => ?_)
  obtain ⟨rfl, rfl⟩ := hw
  have hP : va_P (gD G) vwCl (wX6 G h0 a0 q3.2) H := hP
  have hD : va_D A (wX6 G h0 a0 q3.2) := hD
  refine lv_istore (lv' := [(6, .int q3.1), (4, .long ((u0.2.2.2 0) (((16 : Int32) + ((2 : Int32) * x1)) + (1 : Int32)).toNatClampNeg)), (2, .long ((u0.2.2.2 0) ((16 : Int32) + ((2 : Int32) * x1)).toNatClampNeg)), (0, .ref h0), (1, .int x1)]) hx hb dX6_tells_39 hl (by decide) rfl (fun ls hl => ?_)
  refine lv_iload hx hb dX6_tells_41 (lv_at hl 0 rfl) ?_
  refine lv_if_ne (tgt := 51) hx hb dX6_tells_43 (by decide) (fun c5 => ?_) (fun c5 => ?_)
  · have hf := tn hf c5
    refine lv_lload hx hb dX6_tells_51 (lv_at hl 1 rfl) ?_
    refine lv_ldc2 hx hb hown (hg _ kq6_42) dX6_tells_53 ?_
    refine lv_land hx hb dX6_tells_56 ?_
    refine lv_iconst (v := (0 : Int32)) hx hb dX6_tells_57 (by decide) ?_
    refine lv_bipush (v := (58 : Int32)) hx hb dX6_tells_58 (by decide) ?_
    obtain ⟨q6, e7, hf⟩ := tbd hf
    refine kSi0 (As := [.long (((u0.2.2.2 0) (((16 : Int32) + ((2 : Int32) * x1)) + (1 : Int32)).toNatClampNeg) &&& (576460752302899201 : Int64)), .int (0 : Int32), .int (58 : Int32)]) (rest := []) hC (c_X6_bits (G := G) e7) kq5_142 kc_X6_bits (by decide) hP hK hD hE hS hA hl.1 (Nat.le_of_ble_eq_true rfl) ⟨Nat.zero_le _, Nat.zero_le _⟩ dX6_tells_60 (fun r9 u9 H locs hw hP hD hS => ?_)
    obtain ⟨rfl, rfl⟩ := hw
    refine lv_istore (lv' := [(7, .int q6), (6, .int q3.1), (4, .long ((u0.2.2.2 0) (((16 : Int32) + ((2 : Int32) * x1)) + (1 : Int32)).toNatClampNeg)), (2, .long ((u0.2.2.2 0) ((16 : Int32) + ((2 : Int32) * x1)).toNatClampNeg)), (0, .ref h0), (1, .int x1)]) hx hb dX6_tells_63 hl (by decide) rfl (fun ls hl => ?_)
    refine lv_iload hx hb dX6_tells_65 (lv_at hl 1 rfl) ?_
    refine lv_iconst (v := (1 : Int32)) hx hb dX6_tells_67 (by decide) ?_
    refine lv_icmp_ne (tgt := 84) hx hb dX6_tells_68 (by decide) (fun c8 => ?_) (fun c8 => ?_)
    · have hf := tn hf c8
      refine lv_iconst (v := (-1 : Int32)) hx hb dX6_tells_84 (by decide) ?_
      have hf := Option.some.inj hf
      subst hf
      exact e_i (wf := (fun v : Ob => (wX6 G h0 a0 v))) hx hb hr hlk q3.2 ⟨rfl, rfl⟩ hP hK hD hS dX6_tells_85
    · have hf := tp hf c8
      refine lv_iload hx hb dX6_tells_71 (lv_at hl 0 rfl) ?_
      refine lv_i2l (v := q6.toInt64) hx hb dX6_tells_73 rfl ?_
      refine lv_aload_n hx hb dX6_tells_74 rfl (lv_at hl 4 rfl) ?_
      refine va_get (D := gD G) (ci := 4) (v := .ref (a0 0)) (C := RX6) (T := TX6) (N := 22) hx hb hg kl_X6 hown hK hP 0 rfl rfl 0 (by decide) (hg _ kq5_5) (fun _ h9 => h9) rfl dX6_tells_75 ?_
      refine lv_iconst (v := (3 : Int32)) hx hb dX6_tells_78 (by decide) ?_
      refine va_lald (f := (q3.2.2.2.2 0)) hx hb hK hP 1 2 rfl rfl (vin (by decide)) dX6_tells_79 ?_
      refine lc_le (tgt := 86) hx hb dX6_tells_80 dX6_tells_81 (by decide) (fun c9 => ?_) (fun c9 => ?_)
      · have hf := tp hf c9
        refine lv_iconst (v := (0 : Int32)) hx hb dX6_tells_86 (by decide) ?_
        refine lv_istore (lv' := [(8, .int (0 : Int32)), (7, .int q6), (6, .int q3.1), (4, .long ((u0.2.2.2 0) (((16 : Int32) + ((2 : Int32) * x1)) + (1 : Int32)).toNatClampNeg)), (2, .long ((u0.2.2.2 0) ((16 : Int32) + ((2 : Int32) * x1)).toNatClampNeg)), (0, .ref h0), (1, .int x1)]) hx hb dX6_tells_87 hl (by decide) rfl (fun ls hl => ?_)
        refine lv_iconst (v := (-1 : Int32)) hx hb dX6_tells_89 (by decide) ?_
        refine lv_istore (lv' := [(9, .int (-1 : Int32)), (8, .int (0 : Int32)), (7, .int q6), (6, .int q3.1), (4, .long ((u0.2.2.2 0) (((16 : Int32) + ((2 : Int32) * x1)) + (1 : Int32)).toNatClampNeg)), (2, .long ((u0.2.2.2 0) ((16 : Int32) + ((2 : Int32) * x1)).toNatClampNeg)), (0, .ref h0), (1, .int x1)]) hx hb dX6_tells_90 hl (by decide) rfl (fun ls hl => ?_)
        refine lv_iconst (v := (0 : Int32)) hx hb dX6_tells_92 (by decide) ?_
        refine lv_istore (lv' := [(10, .int (0 : Int32)), (9, .int (-1 : Int32)), (8, .int (0 : Int32)), (7, .int q6), (6, .int q3.1), (4, .long ((u0.2.2.2 0) (((16 : Int32) + ((2 : Int32) * x1)) + (1 : Int32)).toNatClampNeg)), (2, .long ((u0.2.2.2 0) ((16 : Int32) + ((2 : Int32) * x1)).toNatClampNeg)), (0, .ref h0), (1, .int x1)]) hx hb dX6_tells_93 hl (by decide) rfl (fun ls hl => ?_)
        exact lp_95 N _ _ _ _ _ _ _ _ hf _ _ _ hP hD hS (lv_sub hl [7, 8, 6, 5, 4, 3, 2, 1, 0] rfl)
      · have hf := tn hf c9
        refine lv_iconst (v := (-1 : Int32)) hx hb dX6_tells_84 (by decide) ?_
        have hf := Option.some.inj hf
        subst hf
        exact e_i (wf := (fun v : Ob => (wX6 G h0 a0 v))) hx hb hr hlk q3.2 ⟨rfl, rfl⟩ hP hK hD hS dX6_tells_85
  · have hf := tp hf c5
    refine lv_aload_n hx hb dX6_tells_46 rfl (lv_at hl 3 rfl) ?_
    refine va_get (D := gD G) (ci := 4) (v := .int (q3.2.1 8)) (C := RX6) (T := TX6) (N := 22) hx hb hg kl_X6 hown hK hP 0 rfl rfl 8 (by decide) (hg _ kq5_13) (fun _ h9 => h9) rfl dX6_tells_47 ?_
    have hf := Option.some.inj hf
    subst hf
    exact e_i (wf := (fun v : Ob => (wX6 G h0 a0 v))) hx hb hr hlk q3.2 ⟨rfl, rfl⟩ hP hK hD hS dX6_tells_50
set_option maxRecDepth 100000 in
set_option maxHeartbeats 4000000 in
theorem c_X6_votesFor {l : Launch} {G : Gp} {sz N : Nat} {x1 : Int32} {h0 : Nat} {a0 : Nat → Nat} {u0 : Ob} {q : Int32 × Ob} (hf : f_X6_votesFor N x1 u0 = some q) : Met l yX6_votesFor (Cond.code yX6_votesFor cX6_votesFor 3 (some .int) :: lw_g) ({ frames := 5, cells := 0, slots := 0, locals := 129 } : Room) (va_Pc [.ref h0, .int x1] (pw G (wX6 G h0 a0 u0) sz)) (va_Qi (fun (r : Int32) (v : Ob) => q.1 = r ∧ q.2 = v) (bw G (fun v : Ob => (wX6 G h0 a0 v)) (va_A (wX6 G h0 a0 u0) sz)) (va_A (wX6 G h0 a0 u0) sz)) 0 0 (va_A (wX6 G h0 a0 u0) sz) := by
  refine mt (Qc := (fun A => va_Qi (fun (r : Int32) (v : Ob) => q.1 = r ∧ q.2 = v) (bw G (fun v : Ob => (wX6 G h0 a0 v)) A) A)) (by decide) (Nat.le_of_ble_eq_true rfl) ?_
  intro p e s m below meth c A ls hx hb hr hlk hml hts hown hA hP hK hD hE hS hl
  have hown : s.vm.findClass RX6 = some m.cls := hown
  have hg : ∀ w ∈ lw_g, w.before ([.ref h0, .int x1] : List Value).toArray s = true := fun w h => hts w (List.mem_cons_of_mem _ h)
  have hC : CallFix p m c cX6_votesFor 3 s ([.ref h0, .int x1] : List Value).toArray (Cond.code yX6_votesFor cX6_votesFor 3 (some .int) :: lw_g) RX6 := ⟨hx, hb, hml, hown, hts⟩
  have hl : lv_has ls 3 [(0, .ref h0), (1, .int x1)] := hl
  rw [f_X6_votesFor] at hf
  refine lv_aload_n hx hb dX6_votesFor_0 rfl (lv_at hl 0 rfl) ?_
  refine lv_iload_n hx hb dX6_votesFor_1 rfl (lv_at hl 1 rfl) ?_
  obtain ⟨q1, e2, hf⟩ := tbd hf
  refine kVi1 (As := [.int x1]) (rest := []) hC (c_X6_tells (G := G) e2) kq6_34 kc_X6_tells (by decide) 0 (ci := 4) rfl rfl hP hK hD hE hS hA hl.1 (Nat.le_of_ble_eq_true rfl) ⟨Nat.zero_le _, Nat.zero_le _⟩ dX6_votesFor_2 (fun r9 u9 H locs hw hP hD hS => ?_)
  obtain ⟨rfl, rfl⟩ := hw
  have hP : va_P (gD G) vwCl (wX6 G h0 a0 q1.2) H := hP
  have hD : va_D A (wX6 G h0 a0 q1.2) := hD
  refine lv_istore_n (lv' := [(2, .int q1.1), (0, .ref h0), (1, .int x1)]) hx hb dX6_votesFor_5 rfl hl (by decide) rfl (fun ls hl => ?_)
  refine lv_iload_n hx hb dX6_votesFor_6 rfl (lv_at hl 0 rfl) ?_
  refine lv_iconst (v := (-1 : Int32)) hx hb dX6_votesFor_7 (by decide) ?_
  refine lv_icmp_ne (tgt := 15) hx hb dX6_votesFor_8 (by decide) (fun c3 => ?_) (fun c3 => ?_)
  · have hf := tn hf c3
    refine lv_iload_n hx hb dX6_votesFor_15 rfl (lv_at hl 0 rfl) ?_
    refine lv_iload_n hx hb dX6_votesFor_16 rfl (lv_at hl 2 rfl) ?_
    refine lv_iadd hx hb dX6_votesFor_17 ?_
    have hf := Option.some.inj hf
    subst hf
    exact e_i (wf := (fun v : Ob => (wX6 G h0 a0 v))) hx hb hr hlk q1.2 ⟨rfl, rfl⟩ hP hK hD hS dX6_votesFor_18
  · have hf := tp hf c3
    refine lv_iconst (v := (-1 : Int32)) hx hb dX6_votesFor_11 (by decide) ?_
    refine lv_goto (tgt := 18) hx hb dX6_votesFor_12 (by decide) ?_
    have hf := Option.some.inj hf
    subst hf
    exact e_i (wf := (fun v : Ob => (wX6 G h0 a0 v))) hx hb hr hlk q1.2 ⟨rfl, rfl⟩ hP hK hD hS dX6_votesFor_18
set_option maxRecDepth 100000 in
set_option maxHeartbeats 4000000 in
theorem c_X6_votesNow {l : Launch} {G : Gp} {sz N : Nat} {x1 : Int32} {h0 : Nat} {a0 : Nat → Nat} {u0 : Ob} {q : Int32 × Ob} (hf : f_X6_votesNow N x1 u0 = some q) : Met l yX6_votesNow (Cond.code yX6_votesNow cX6_votesNow 5 (some .int) :: lw_g) ({ frames := 6, cells := 0, slots := 0, locals := 151 } : Room) (va_Pc [.ref h0, .int x1] (pw G (wX6 G h0 a0 u0) sz)) (va_Qi (fun (r : Int32) (v : Ob) => q.1 = r ∧ q.2 = v) (bw G (fun v : Ob => (wX6 G h0 a0 v)) (va_A (wX6 G h0 a0 u0) sz)) (va_A (wX6 G h0 a0 u0) sz)) 0 0 (va_A (wX6 G h0 a0 u0) sz) := by
  refine mt (Qc := (fun A => va_Qi (fun (r : Int32) (v : Ob) => q.1 = r ∧ q.2 = v) (bw G (fun v : Ob => (wX6 G h0 a0 v)) A) A)) (by decide) (Nat.le_of_ble_eq_true rfl) ?_
  intro p e s m below meth c A ls hx hb hr hlk hml hts hown hA hP hK hD hE hS hl
  have hown : s.vm.findClass RX6 = some m.cls := hown
  have hg : ∀ w ∈ lw_g, w.before ([.ref h0, .int x1] : List Value).toArray s = true := fun w h => hts w (List.mem_cons_of_mem _ h)
  have hC : CallFix p m c cX6_votesNow 5 s ([.ref h0, .int x1] : List Value).toArray (Cond.code yX6_votesNow cX6_votesNow 5 (some .int) :: lw_g) RX6 := ⟨hx, hb, hml, hown, hts⟩
  have hl : lv_has ls 5 [(0, .ref h0), (1, .int x1)] := hl
  have lp_4 : ∀ (n : Nat) (x2 : Int32) (x3 : Int32) (u0 : Ob), l_X6_votesNow_4 N x1 n x2 x3 u0 = some q → ∀ (H : Heap) (locs : List Loc) (ls : Array Slot), va_P (gD G) vwCl (wX6 G h0 a0 u0) H → va_D A (wX6 G h0 a0 u0) → va_S A s.heap H locs → lv_has ls 5 [(0, .ref h0), (1, .int x1), (2, .int x2), (3, .int x3)] → W p l e ({ frames := 6, cells := 0, slots := 0, locals := 151 } : Room) s m ([.ref h0, .int x1] : List Value).toArray below meth c H locs 0 0 (MQ below (va_Qi (fun (r : Int32) (v : Ob) => q.1 = r ∧ q.2 = v) (bw G (fun v : Ob => (wX6 G h0 a0 v)) A) A) ([.ref h0, .int x1] : List Value).toArray s 0 0 A) (F0 m 4 ls []) := by
    intro n
    induction n with
    | zero => intro x2 x3 u0 hf; rw [l_X6_votesNow_4] at hf; cases hf
    | succ n ih =>
      intro x2 x3 u0 hf H locs ls hP hD hS hl
      rw [l_X6_votesNow_4] at hf
      refine lv_iload_n hx hb dX6_votesNow_4 rfl (lv_at hl 3 rfl) ?_
      refine lv_i2l (v := x3.toInt64) hx hb dX6_votesNow_5 rfl ?_
      refine lv_aload_n hx hb dX6_votesNow_6 rfl (lv_at hl 0 rfl) ?_
      refine va_get (D := gD G) (ci := 4) (v := .ref (a0 0)) (C := RX6) (T := TX6) (N := 22) hx hb hg kl_X6 hown hK hP 0 rfl rfl 0 (by decide) (hg _ kq5_5) (fun _ h9 => h9) rfl dX6_votesNow_7 ?_
      refine lv_bipush (v := (12 : Int32)) hx hb dX6_votesNow_10 (by decide) ?_
      refine va_lald (f := (u0.2.2.2 0)) hx hb hK hP 1 2 rfl rfl (vin (by decide)) dX6_votesNow_12 ?_
      refine lc_ge (tgt := 50) hx hb dX6_votesNow_13 dX6_votesNow_14 (by decide) (fun c1 => ?_) (fun c1 => ?_)
      · have hf := tp hf c1
        refine lv_iload_n hx hb dX6_votesNow_50 rfl (lv_at hl 2 rfl) ?_
        have hf := Option.some.inj hf
        subst hf
        exact e_i (wf := (fun v : Ob => (wX6 G h0 a0 v))) hx hb hr hlk u0 ⟨rfl, rfl⟩ hP hK hD hS dX6_votesNow_51
      · have hf := tn hf c1
        refine lv_aload_n hx hb dX6_votesNow_17 rfl (lv_at hl 0 rfl) ?_
        refine lv_iload_n hx hb dX6_votesNow_18 rfl (lv_at hl 3 rfl) ?_
        obtain ⟨q2, e3, hf⟩ := tbd hf
        refine kVi1 (As := [.int x3]) (rest := []) hC (c_X6_votesFor (G := G) e3) kq6_30 kc_X6_votesFor (by decide) 0 (ci := 4) rfl rfl hP hK hD hE hS hA hl.1 (Nat.le_of_ble_eq_true rfl) ⟨Nat.zero_le _, Nat.zero_le _⟩ dX6_votesNow_19 (fun r9 u9 H locs hw hP hD hS => ?_)
        obtain ⟨rfl, rfl⟩ := hw
        have hP : va_P (gD G) vwCl (wX6 G h0 a0 q2.2) H := hP
        have hD : va_D A (wX6 G h0 a0 q2.2) := hD
        refine lv_istore (lv' := [(4, .int q2.1), (0, .ref h0), (1, .int x1), (2, .int x2), (3, .int x3)]) hx hb dX6_votesNow_22 hl (by decide) rfl (fun ls hl => ?_)
        refine lv_iload_n hx hb dX6_votesNow_24 rfl (lv_at hl 3 rfl) ?_
        refine lv_iload hx hb dX6_votesNow_25 (lv_at hl 0 rfl) ?_
        refine lv_iconst (v := (-1 : Int32)) hx hb dX6_votesNow_27 (by decide) ?_
        refine lv_icmp_eq (tgt := 41) hx hb dX6_votesNow_28 (by decide) (fun c4 => ?_) (fun c4 => ?_)
        · have hf := tp hf c4
          refine lv_iconst (v := (0 : Int32)) hx hb dX6_votesNow_41 (by decide) ?_
          refine lv_iadd hx hb dX6_votesNow_42 ?_
          refine lv_istore_n (lv' := [(2, .int (x2 + (0 : Int32))), (4, .int q2.1), (0, .ref h0), (1, .int x1), (3, .int x3)]) hx hb dX6_votesNow_43 rfl hl (by decide) rfl (fun ls hl => ?_)
          refine lv_iinc (v := (x3 + (1 : Int32))) (lv' := [(3, .int (x3 + (1 : Int32))), (2, .int (x2 + (0 : Int32))), (4, .int q2.1), (0, .ref h0), (1, .int x1)]) hx hb dX6_votesNow_44 hl (k := 4) rfl rfl (by decide) rfl (fun ls hl => ?_)
          refine lv_goto (tgt := 4) hx hb dX6_votesNow_47 (by decide) ?_
          exact ih _ _ _ hf _ _ _ hP hD hS (lv_sub hl [3, 4, 1, 0] rfl)
        · have hf := tn hf c4
          refine lv_iload hx hb dX6_votesNow_31 (lv_at hl 0 rfl) ?_
          refine lv_iload_n hx hb dX6_votesNow_33 rfl (lv_at hl 2 rfl) ?_
          refine lv_icmp_ne (tgt := 41) hx hb dX6_votesNow_34 (by decide) (fun c5 => ?_) (fun c5 => ?_)
          · have hf := tn hf c5
            refine lv_iconst (v := (0 : Int32)) hx hb dX6_votesNow_41 (by decide) ?_
            refine lv_iadd hx hb dX6_votesNow_42 ?_
            refine lv_istore_n (lv' := [(2, .int (x2 + (0 : Int32))), (4, .int q2.1), (0, .ref h0), (1, .int x1), (3, .int x3)]) hx hb dX6_votesNow_43 rfl hl (by decide) rfl (fun ls hl => ?_)
            refine lv_iinc (v := (x3 + (1 : Int32))) (lv' := [(3, .int (x3 + (1 : Int32))), (2, .int (x2 + (0 : Int32))), (4, .int q2.1), (0, .ref h0), (1, .int x1)]) hx hb dX6_votesNow_44 hl (k := 4) rfl rfl (by decide) rfl (fun ls hl => ?_)
            refine lv_goto (tgt := 4) hx hb dX6_votesNow_47 (by decide) ?_
            exact ih _ _ _ hf _ _ _ hP hD hS (lv_sub hl [3, 4, 1, 0] rfl)
          · have hf := tp hf c5
            refine lv_iconst (v := (1 : Int32)) hx hb dX6_votesNow_37 (by decide) ?_
            refine lv_goto (tgt := 42) hx hb dX6_votesNow_38 (by decide) ?_
            refine lv_iadd hx hb dX6_votesNow_42 ?_
            refine lv_istore_n (lv' := [(2, .int (x2 + (1 : Int32))), (4, .int q2.1), (0, .ref h0), (1, .int x1), (3, .int x3)]) hx hb dX6_votesNow_43 rfl hl (by decide) rfl (fun ls hl => ?_)
            refine lv_iinc (v := (x3 + (1 : Int32))) (lv' := [(3, .int (x3 + (1 : Int32))), (2, .int (x2 + (1 : Int32))), (4, .int q2.1), (0, .ref h0), (1, .int x1)]) hx hb dX6_votesNow_44 hl (k := 4) rfl rfl (by decide) rfl (fun ls hl => ?_)
            refine lv_goto (tgt := 4) hx hb dX6_votesNow_47 (by decide) ?_
            exact ih _ _ _ hf _ _ _ hP hD hS (lv_sub hl [3, 4, 1, 0] rfl)
  rw [f_X6_votesNow] at hf
  refine lv_iconst (v := (0 : Int32)) hx hb dX6_votesNow_0 (by decide) ?_
  refine lv_istore_n (lv' := [(2, .int (0 : Int32)), (0, .ref h0), (1, .int x1)]) hx hb dX6_votesNow_1 rfl hl (by decide) rfl (fun ls hl => ?_)
  refine lv_iconst (v := (0 : Int32)) hx hb dX6_votesNow_2 (by decide) ?_
  refine lv_istore_n (lv' := [(3, .int (0 : Int32)), (2, .int (0 : Int32)), (0, .ref h0), (1, .int x1)]) hx hb dX6_votesNow_3 rfl hl (by decide) rfl (fun ls hl => ?_)
  exact lp_4 N _ _ _ hf _ _ _ hP hD hS (lv_sub hl [2, 3, 1, 0] rfl)
set_option maxRecDepth 100000 in
set_option maxHeartbeats 4000000 in
theorem c_X6_countsVotes {l : Launch} {G : Gp} {sz N : Nat} {h0 : Nat} {a0 : Nat → Nat} {u0 : Ob} {q : Bool × Ob} (hf : f_X6_countsVotes N u0 = some q) : Met l yX6_countsVotes (Cond.code yX6_countsVotes cX6_countsVotes 5 (some .boolean) :: lw_g) ({ frames := 7, cells := 0, slots := 0, locals := 175 } : Room) (va_Pc [.ref h0] (pw G (wX6 G h0 a0 u0) sz)) (va_Qi (fun (r : Int32) (v : Ob) => bI q.1 = r ∧ q.2 = v) (bw G (fun v : Ob => (wX6 G h0 a0 v)) (va_A (wX6 G h0 a0 u0) sz)) (va_A (wX6 G h0 a0 u0) sz)) 0 0 (va_A (wX6 G h0 a0 u0) sz) := by
  refine mt (Qc := (fun A => va_Qi (fun (r : Int32) (v : Ob) => bI q.1 = r ∧ q.2 = v) (bw G (fun v : Ob => (wX6 G h0 a0 v)) A) A)) (by decide) (Nat.le_of_ble_eq_true rfl) ?_
  intro p e s m below meth c A ls hx hb hr hlk hml hts hown hA hP hK hD hE hS hl
  have hown : s.vm.findClass RX6 = some m.cls := hown
  have hg : ∀ w ∈ lw_g, w.before ([.ref h0] : List Value).toArray s = true := fun w h => hts w (List.mem_cons_of_mem _ h)
  have hC : CallFix p m c cX6_countsVotes 5 s ([.ref h0] : List Value).toArray (Cond.code yX6_countsVotes cX6_countsVotes 5 (some .boolean) :: lw_g) RX6 := ⟨hx, hb, hml, hown, hts⟩
  have hl : lv_has ls 5 [(0, .ref h0)] := hl
  have lp_190 : ∀ (n : Nat) (x1 : Int32) (x2 : Int32) (x3 : Int32) (u0 : Ob), l_X6_countsVotes_190 N n x1 x2 x3 u0 = some q → ∀ (H : Heap) (locs : List Loc) (ls : Array Slot), va_P (gD G) vwCl (wX6 G h0 a0 u0) H → va_D A (wX6 G h0 a0 u0) → va_S A s.heap H locs → lv_has ls 5 [(0, .ref h0), (1, .int x1), (2, .int x2), (3, .int x3)] → W p l e ({ frames := 7, cells := 0, slots := 0, locals := 175 } : Room) s m ([.ref h0] : List Value).toArray below meth c H locs 0 0 (MQ below (va_Qi (fun (r : Int32) (v : Ob) => bI q.1 = r ∧ q.2 = v) (bw G (fun v : Ob => (wX6 G h0 a0 v)) A) A) ([.ref h0] : List Value).toArray s 0 0 A) (F0 m 190 ls []) := by
    intro n
    induction n with
    | zero => intro x1 x2 x3 u0 hf; rw [l_X6_countsVotes_190] at hf; cases hf
    | succ n ih =>
      intro x1 x2 x3 u0 hf H locs ls hP hD hS hl
      have jn_238 : ∀ (x1 : Int32) (x2 : Int32) (x3 : Int32) (s0 : Int32) (u0 : Ob), k_X6_countsVotes_238 N (l_X6_countsVotes_190 N n) x1 x2 x3 s0 u0 = some q → ∀ (H : Heap) (locs : List Loc) (ls : Array Slot), va_P (gD G) vwCl (wX6 G h0 a0 u0) H → va_D A (wX6 G h0 a0 u0) → va_S A s.heap H locs → lv_has ls 5 [(0, .ref h0), (1, .int x1), (2, .int x2), (3, .int x3)] → W p l e ({ frames := 7, cells := 0, slots := 0, locals := 175 } : Room) s m ([.ref h0] : List Value).toArray below meth c H locs 0 0 (MQ below (va_Qi (fun (r : Int32) (v : Ob) => bI q.1 = r ∧ q.2 = v) (bw G (fun v : Ob => (wX6 G h0 a0 v)) A) A) ([.ref h0] : List Value).toArray s 0 0 A) (F0 m 238 ls [.int s0, .int x2]) := by
        intro x1 x2 x3 s0 u0 hf H locs ls hP hD hS hl
        rw [k_X6_countsVotes_238] at hf
        refine lv_iadd hx hb dX6_countsVotes_238 ?_
        refine lv_istore_n (lv' := [(2, .int (x2 + s0)), (0, .ref h0), (1, .int x1), (3, .int x3)]) hx hb dX6_countsVotes_239 rfl hl (by decide) rfl (fun ls hl => ?_)
        refine lv_iinc (v := (x3 + (1 : Int32))) (lv' := [(3, .int (x3 + (1 : Int32))), (2, .int (x2 + s0)), (0, .ref h0), (1, .int x1)]) hx hb dX6_countsVotes_240 hl (k := 3) rfl rfl (by decide) rfl (fun ls hl => ?_)
        refine lv_goto (tgt := 190) hx hb dX6_countsVotes_243 (by decide) ?_
        exact ih _ _ _ _ hf _ _ _ hP hD hS (lv_sub hl [2, 3, 1, 0] rfl)
      rw [l_X6_countsVotes_190] at hf
      refine lv_iload_n hx hb dX6_countsVotes_190 rfl (lv_at hl 3 rfl) ?_
      refine lv_i2l (v := x3.toInt64) hx hb dX6_countsVotes_191 rfl ?_
      refine lv_aload_n hx hb dX6_countsVotes_192 rfl (lv_at hl 0 rfl) ?_
      refine va_get (D := gD G) (ci := 4) (v := .ref (a0 0)) (C := RX6) (T := TX6) (N := 22) hx hb hg kl_X6 hown hK hP 0 rfl rfl 0 (by decide) (hg _ kq5_5) (fun _ h9 => h9) rfl dX6_countsVotes_193 ?_
      refine lv_bipush (v := (12 : Int32)) hx hb dX6_countsVotes_196 (by decide) ?_
      refine va_lald (f := (u0.2.2.2 0)) hx hb hK hP 1 2 rfl rfl (vin (by decide)) dX6_countsVotes_198 ?_
      refine lc_ge (tgt := 246) hx hb dX6_countsVotes_199 dX6_countsVotes_200 (by decide) (fun c4 => ?_) (fun c4 => ?_)
      · have hf := tp hf c4
        refine lv_ldc2 hx hb hown (hg _ kq6_9) dX6_countsVotes_246 ?_
        refine lv_iload_n hx hb dX6_countsVotes_249 rfl (lv_at hl 2 rfl) ?_
        refine lv_i2l (v := x2.toInt64) hx hb dX6_countsVotes_250 rfl ?_
        refine lv_lmul hx hb dX6_countsVotes_251 ?_
        refine lv_aload_n hx hb dX6_countsVotes_252 rfl (lv_at hl 0 rfl) ?_
        refine va_get (D := gD G) (ci := 4) (v := .ref (a0 0)) (C := RX6) (T := TX6) (N := 22) hx hb hg kl_X6 hown hK hP 0 rfl rfl 0 (by decide) (hg _ kq5_5) (fun _ h9 => h9) rfl dX6_countsVotes_253 ?_
        refine lv_bipush (v := (10 : Int32)) hx hb dX6_countsVotes_256 (by decide) ?_
        refine va_lald (f := (u0.2.2.2 0)) hx hb hK hP 1 2 rfl rfl (vin (by decide)) dX6_countsVotes_258 ?_
        refine lc_lt (tgt := 267) hx hb dX6_countsVotes_259 dX6_countsVotes_260 (by decide) (fun c5 => ?_) (fun c5 => ?_)
        · have hf := tp hf c5
          refine lv_iconst (v := (0 : Int32)) hx hb dX6_countsVotes_267 (by decide) ?_
          have hf := Option.some.inj hf
          subst hf
          exact e_z (wf := (fun v : Ob => (wX6 G h0 a0 v))) hx hb hr hlk u0 rfl ⟨rfl, rfl⟩ hP hK hD hS dX6_countsVotes_268
        · have hf := tn hf c5
          refine lv_iconst (v := (1 : Int32)) hx hb dX6_countsVotes_263 (by decide) ?_
          refine lv_goto (tgt := 268) hx hb dX6_countsVotes_264 (by decide) ?_
          have hf := Option.some.inj hf
          subst hf
          exact e_z (wf := (fun v : Ob => (wX6 G h0 a0 v))) hx hb hr hlk u0 rfl ⟨rfl, rfl⟩ hP hK hD hS dX6_countsVotes_268
      · have hf := tn hf c4
        refine lv_iload_n hx hb dX6_countsVotes_203 rfl (lv_at hl 2 rfl) ?_
        refine lv_aload_n hx hb dX6_countsVotes_204 rfl (lv_at hl 0 rfl) ?_
        refine lv_iload_n hx hb dX6_countsVotes_205 rfl (lv_at hl 3 rfl) ?_
        obtain ⟨q6, e7, hf⟩ := tbd hf
        refine kVi1 (As := [.int x3]) (rest := [.int x2]) hC (c_X6_votesFor (G := G) e7) kq6_30 kc_X6_votesFor (by decide) 0 (ci := 4) rfl rfl hP hK hD hE hS hA hl.1 (Nat.le_of_ble_eq_true rfl) ⟨Nat.zero_le _, Nat.zero_le _⟩ dX6_countsVotes_206 (fun r9 u9 H locs hw hP hD hS => ?_)
        obtain ⟨rfl, rfl⟩ := hw
        have hP : va_P (gD G) vwCl (wX6 G h0 a0 q6.2) H := hP
        have hD : va_D A (wX6 G h0 a0 q6.2) := hD
        refine lv_i2l (v := q6.1.toInt64) hx hb dX6_countsVotes_209 rfl ?_
        refine lv_aload_n hx hb dX6_countsVotes_210 rfl (lv_at hl 0 rfl) ?_
        refine va_get (D := gD G) (ci := 4) (v := .ref (a0 0)) (C := RX6) (T := TX6) (N := 22) hx hb hg kl_X6 hown hK hP 0 rfl rfl 0 (by decide) (hg _ kq5_5) (fun _ h9 => h9) rfl dX6_countsVotes_211 ?_
        refine lv_bipush (v := (9 : Int32)) hx hb dX6_countsVotes_214 (by decide) ?_
        refine va_lald (f := (q6.2.2.2.2 0)) hx hb hK hP 1 2 rfl rfl (vin (by decide)) dX6_countsVotes_216 ?_
        refine lc_ne (tgt := 237) hx hb dX6_countsVotes_217 dX6_countsVotes_218 (by decide) (fun c8 => ?_) (fun c8 => ?_)
        · have hf := tn hf c8
          refine lv_iconst (v := (0 : Int32)) hx hb dX6_countsVotes_237 (by decide) ?_
          exact jn_238 _ _ _ _ _ hf _ _ _ hP hD hS (lv_sub hl [0, 1, 2, 3] rfl)
        · have hf := tp hf c8
          refine lv_aload_n hx hb dX6_countsVotes_221 rfl (lv_at hl 0 rfl) ?_
          refine va_get (D := gD G) (ci := 4) (v := .long (q6.2.2.1 19)) (C := RX6) (T := TX6) (N := 22) hx hb hg kl_X6 hown hK hP 0 rfl rfl 19 (by decide) (hg _ kq5_24) (fun _ h9 => h9) rfl dX6_countsVotes_222 ?_
          refine lv_bipush (v := (19 : Int32)) hx hb dX6_countsVotes_225 (by decide) ?_
          obtain ⟨q9, e10, hf⟩ := tbd hf
          refine kSi0 (As := [.long (q6.2.2.1 19), .int (19 : Int32)]) (rest := [.int x2]) hC (c_X6_has (G := G) e10) kq5_145 kc_X6_has (by decide) hP hK hD hE hS hA hl.1 (Nat.le_of_ble_eq_true rfl) ⟨Nat.zero_le _, Nat.zero_le _⟩ dX6_countsVotes_227 (fun r9 u9 H locs hw hP hD hS => ?_)
          obtain ⟨rfl, rfl⟩ := hw
          refine bz_eq (tgt := 237) hx hb dX6_countsVotes_230 (by decide) (fun c11 => ?_) (fun c11 => ?_)
          · have hf := tn hf c11
            refine lv_iconst (v := (0 : Int32)) hx hb dX6_countsVotes_237 (by decide) ?_
            exact jn_238 _ _ _ _ _ hf _ _ _ hP hD hS (lv_sub hl [0, 1, 2, 3] rfl)
          · have hf := tp hf c11
            refine lv_iconst (v := (1 : Int32)) hx hb dX6_countsVotes_233 (by decide) ?_
            refine lv_goto (tgt := 238) hx hb dX6_countsVotes_234 (by decide) ?_
            exact jn_238 _ _ _ _ _ hf _ _ _ hP hD hS (lv_sub hl [0, 1, 2, 3] rfl)
  have lp_22 : ∀ (n : Nat) (x1 : Int32) (x2 : Int32) (u0 : Ob), l_X6_countsVotes_22 N n x1 x2 u0 = some q → ∀ (H : Heap) (locs : List Loc) (ls : Array Slot), va_P (gD G) vwCl (wX6 G h0 a0 u0) H → va_D A (wX6 G h0 a0 u0) → va_S A s.heap H locs → lv_has ls 5 [(0, .ref h0), (1, .int x1), (2, .int x2)] → W p l e ({ frames := 7, cells := 0, slots := 0, locals := 175 } : Room) s m ([.ref h0] : List Value).toArray below meth c H locs 0 0 (MQ below (va_Qi (fun (r : Int32) (v : Ob) => bI q.1 = r ∧ q.2 = v) (bw G (fun v : Ob => (wX6 G h0 a0 v)) A) A) ([.ref h0] : List Value).toArray s 0 0 A) (F0 m 22 ls []) := by
    intro n
    induction n with
    | zero => intro x1 x2 u0 hf; rw [l_X6_countsVotes_22] at hf; cases hf
    | succ n ih =>
      intro x1 x2 u0 hf H locs ls hP hD hS hl
      have jn_144 : ∀ (x1 : Int32) (x2 : Int32) (x3 : Int32) (x4 : Int32) (u0 : Ob), k_X6_countsVotes_144 N (l_X6_countsVotes_22 N n) x1 x2 x3 x4 u0 = some q → ∀ (H : Heap) (locs : List Loc) (ls : Array Slot), va_P (gD G) vwCl (wX6 G h0 a0 u0) H → va_D A (wX6 G h0 a0 u0) → va_S A s.heap H locs → lv_has ls 5 [(0, .ref h0), (1, .int x1), (2, .int x2), (3, .int x3), (4, .int x4)] → W p l e ({ frames := 7, cells := 0, slots := 0, locals := 175 } : Room) s m ([.ref h0] : List Value).toArray below meth c H locs 0 0 (MQ below (va_Qi (fun (r : Int32) (v : Ob) => bI q.1 = r ∧ q.2 = v) (bw G (fun v : Ob => (wX6 G h0 a0 v)) A) A) ([.ref h0] : List Value).toArray s 0 0 A) (F0 m 144 ls []) := by
        intro x1 x2 x3 x4 u0 hf H locs ls hP hD hS hl
        rw [k_X6_countsVotes_144] at hf
        refine lv_iinc (v := (x2 + (1 : Int32))) (lv' := [(2, .int (x2 + (1 : Int32))), (0, .ref h0), (1, .int x1), (3, .int x3), (4, .int x4)]) hx hb dX6_countsVotes_144 hl (k := 2) rfl rfl (by decide) rfl (fun ls hl => ?_)
        refine lv_goto (tgt := 22) hx hb dX6_countsVotes_147 (by decide) ?_
        exact ih _ _ _ hf _ _ _ hP hD hS (lv_sub hl [1, 2, 0] rfl)
      have jn_140 : ∀ (x1 : Int32) (x2 : Int32) (x3 : Int32) (x4 : Int32) (s0 : Int64) (u0 : Ob), k_X6_countsVotes_140 N (l_X6_countsVotes_22 N n) x1 x2 x3 x4 s0 u0 = some q → ∀ (H : Heap) (locs : List Loc) (ls : Array Slot), va_P (gD G) vwCl (wX6 G h0 a0 u0) H → va_D A (wX6 G h0 a0 u0) → va_S A s.heap H locs → lv_has ls 5 [(0, .ref h0), (1, .int x1), (2, .int x2), (3, .int x3), (4, .int x4)] → W p l e ({ frames := 7, cells := 0, slots := 0, locals := 175 } : Room) s m ([.ref h0] : List Value).toArray below meth c H locs 0 0 (MQ below (va_Qi (fun (r : Int32) (v : Ob) => bI q.1 = r ∧ q.2 = v) (bw G (fun v : Ob => (wX6 G h0 a0 v)) A) A) ([.ref h0] : List Value).toArray s 0 0 A) (F0 m 140 ls [.long s0, .int (10 : Int32), .ref (a0 0)]) := by
        intro x1 x2 x3 x4 s0 u0 hf H locs ls hP hD hS hl
        rw [k_X6_countsVotes_140] at hf
        refine va_last (f := (u0.2.2.2 0)) hx hb hK hP hD hS 1 2 rfl rfl (vin (by decide)) dX6_countsVotes_140 (fun H locs hP hD hS => ?_)
        have hP : va_P (gD G) vwCl (wX6 G h0 a0 (oj u0 0 (vp_updL (u0.2.2.2 0) (10 : Int32).toNatClampNeg s0))) H := hP
        have hD : va_D A (wX6 G h0 a0 (oj u0 0 (vp_updL (u0.2.2.2 0) (10 : Int32).toNatClampNeg s0))) := hD
        refine lv_iload hx hb dX6_countsVotes_141 (lv_at hl 4 rfl) ?_
        refine lv_istore_n (lv' := [(1, .int x4), (0, .ref h0), (2, .int x2), (3, .int x3), (4, .int x4)]) hx hb dX6_countsVotes_143 rfl hl (by decide) rfl (fun ls hl => ?_)
        exact jn_144 _ _ _ _ _ hf _ _ _ hP hD hS (lv_sub hl [1, 0, 2, 3, 4] rfl)
      have jn_112 : ∀ (x1 : Int32) (x2 : Int32) (x3 : Int32) (x4 : Int32) (s0 : Int64) (u0 : Ob), k_X6_countsVotes_112 N (l_X6_countsVotes_22 N n) x1 x2 x3 x4 s0 u0 = some q → ∀ (H : Heap) (locs : List Loc) (ls : Array Slot), va_P (gD G) vwCl (wX6 G h0 a0 u0) H → va_D A (wX6 G h0 a0 u0) → va_S A s.heap H locs → lv_has ls 5 [(0, .ref h0), (1, .int x1), (2, .int x2), (3, .int x3), (4, .int x4)] → W p l e ({ frames := 7, cells := 0, slots := 0, locals := 175 } : Room) s m ([.ref h0] : List Value).toArray below meth c H locs 0 0 (MQ below (va_Qi (fun (r : Int32) (v : Ob) => bI q.1 = r ∧ q.2 = v) (bw G (fun v : Ob => (wX6 G h0 a0 v)) A) A) ([.ref h0] : List Value).toArray s 0 0 A) (F0 m 112 ls [.long s0, .int (9 : Int32), .ref (a0 0)]) := by
        intro x1 x2 x3 x4 s0 u0 hf H locs ls hP hD hS hl
        rw [k_X6_countsVotes_112] at hf
        refine va_last (f := (u0.2.2.2 0)) hx hb hK hP hD hS 1 2 rfl rfl (vin (by decide)) dX6_countsVotes_112 (fun H locs hP hD hS => ?_)
        have hP : va_P (gD G) vwCl (wX6 G h0 a0 (oj u0 0 (vp_updL (u0.2.2.2 0) (9 : Int32).toNatClampNeg s0))) H := hP
        have hD : va_D A (wX6 G h0 a0 (oj u0 0 (vp_updL (u0.2.2.2 0) (9 : Int32).toNatClampNeg s0))) := hD
        refine lv_aload_n hx hb dX6_countsVotes_113 rfl (lv_at hl 0 rfl) ?_
        refine va_get (D := gD G) (ci := 4) (v := .ref (a0 0)) (C := RX6) (T := TX6) (N := 22) hx hb hg kl_X6 hown hK hP 0 rfl rfl 0 (by decide) (hg _ kq5_5) (fun _ h9 => h9) rfl dX6_countsVotes_114 ?_
        refine lv_bipush (v := (10 : Int32)) hx hb dX6_countsVotes_117 (by decide) ?_
        refine lv_aload_n hx hb dX6_countsVotes_119 rfl (lv_at hl 0 rfl) ?_
        refine va_get (D := gD G) (ci := 4) (v := .ref (a0 0)) (C := RX6) (T := TX6) (N := 22) hx hb hg kl_X6 hown hK hP 0 rfl rfl 0 (by decide) (hg _ kq5_5) (fun _ h9 => h9) rfl dX6_countsVotes_120 ?_
        refine lv_bipush (v := (9 : Int32)) hx hb dX6_countsVotes_123 (by decide) ?_
        refine va_lald (f := (vp_updL (u0.2.2.2 0) (9 : Int32).toNatClampNeg s0)) hx hb hK hP 1 2 rfl rfl (vin (by decide)) dX6_countsVotes_125 ?_
        refine lv_ldc2 hx hb hown (hg _ kq5_0) dX6_countsVotes_126 ?_
        refine lc_ne (tgt := 137) hx hb dX6_countsVotes_129 dX6_countsVotes_130 (by decide) (fun c20 => ?_) (fun c20 => ?_)
        · have hf := tn hf c20
          refine lv_iload hx hb dX6_countsVotes_137 (lv_at hl 4 rfl) ?_
          refine lv_i2l (v := x4.toInt64) hx hb dX6_countsVotes_139 rfl ?_
          exact jn_140 _ _ _ _ _ _ hf _ _ _ hP hD hS (lv_sub hl [0, 1, 2, 3, 4] rfl)
        · have hf := tp hf c20
          refine lv_lconst (v := (0 : Int64)) hx hb dX6_countsVotes_133 (by decide) ?_
          refine lv_goto (tgt := 140) hx hb dX6_countsVotes_134 (by decide) ?_
          exact jn_140 _ _ _ _ _ _ hf _ _ _ hP hD hS (lv_sub hl [0, 1, 2, 3, 4] rfl)
      rw [l_X6_countsVotes_22] at hf
      refine lv_iload_n hx hb dX6_countsVotes_22 rfl (lv_at hl 2 rfl) ?_
      refine lv_i2l (v := x2.toInt64) hx hb dX6_countsVotes_23 rfl ?_
      refine lv_aload_n hx hb dX6_countsVotes_24 rfl (lv_at hl 0 rfl) ?_
      refine va_get (D := gD G) (ci := 4) (v := .ref (a0 0)) (C := RX6) (T := TX6) (N := 22) hx hb hg kl_X6 hown hK hP 0 rfl rfl 0 (by decide) (hg _ kq5_5) (fun _ h9 => h9) rfl dX6_countsVotes_25 ?_
      refine lv_bipush (v := (12 : Int32)) hx hb dX6_countsVotes_28 (by decide) ?_
      refine va_lald (f := (u0.2.2.2 0)) hx hb hK hP 1 2 rfl rfl (vin (by decide)) dX6_countsVotes_30 ?_
      refine lc_ge (tgt := 150) hx hb dX6_countsVotes_31 dX6_countsVotes_32 (by decide) (fun c1 => ?_) (fun c1 => ?_)
      · have hf := tp hf c1
        refine lv_aload_n hx hb dX6_countsVotes_150 rfl (lv_at hl 0 rfl) ?_
        refine va_get (D := gD G) (ci := 4) (v := .ref (a0 0)) (C := RX6) (T := TX6) (N := 22) hx hb hg kl_X6 hown hK hP 0 rfl rfl 0 (by decide) (hg _ kq5_5) (fun _ h9 => h9) rfl dX6_countsVotes_151 ?_
        refine lv_bipush (v := (9 : Int32)) hx hb dX6_countsVotes_154 (by decide) ?_
        refine va_lald (f := (u0.2.2.2 0)) hx hb hK hP 1 2 rfl rfl (vin (by decide)) dX6_countsVotes_156 ?_
        refine lv_ldc2 hx hb hown (hg _ kq5_0) dX6_countsVotes_157 ?_
        refine lc_eq (tgt := 184) hx hb dX6_countsVotes_160 dX6_countsVotes_161 (by decide) (fun c2 => ?_) (fun c2 => ?_)
        · have hf := tp hf c2
          refine lv_iconst (v := (0 : Int32)) hx hb dX6_countsVotes_184 (by decide) ?_
          have hf := Option.some.inj hf
          subst hf
          exact e_z (wf := (fun v : Ob => (wX6 G h0 a0 v))) hx hb hr hlk u0 rfl ⟨rfl, rfl⟩ hP hK hD hS dX6_countsVotes_185
        · have hf := tn hf c2
          refine lv_aload_n hx hb dX6_countsVotes_164 rfl (lv_at hl 0 rfl) ?_
          refine va_get (D := gD G) (ci := 4) (v := .ref (a0 0)) (C := RX6) (T := TX6) (N := 22) hx hb hg kl_X6 hown hK hP 0 rfl rfl 0 (by decide) (hg _ kq5_5) (fun _ h9 => h9) rfl dX6_countsVotes_165 ?_
          refine lv_bipush (v := (9 : Int32)) hx hb dX6_countsVotes_168 (by decide) ?_
          refine va_lald (f := (u0.2.2.2 0)) hx hb hK hP 1 2 rfl rfl (vin (by decide)) dX6_countsVotes_170 ?_
          refine lv_lconst (v := (1 : Int64)) hx hb dX6_countsVotes_171 (by decide) ?_
          refine lv_ladd hx hb dX6_countsVotes_172 ?_
          refine lv_ldc2 hx hb hown (hg _ kq5_236) dX6_countsVotes_173 ?_
          refine lv_lrem hx hb dX6_countsVotes_176 (by decide) ?_
          refine lv_ldc2 hx hb hown (hg _ kq5_123) dX6_countsVotes_177 ?_
          refine lc_eq (tgt := 186) hx hb dX6_countsVotes_180 dX6_countsVotes_181 (by decide) (fun c3 => ?_) (fun c3 => ?_)
          · have hf := tp hf c3
            refine lv_iconst (v := (0 : Int32)) hx hb dX6_countsVotes_186 (by decide) ?_
            refine lv_istore_n (lv' := [(2, .int (0 : Int32)), (0, .ref h0), (1, .int x1)]) hx hb dX6_countsVotes_187 rfl hl (by decide) rfl (fun ls hl => ?_)
            refine lv_iconst (v := (0 : Int32)) hx hb dX6_countsVotes_188 (by decide) ?_
            refine lv_istore_n (lv' := [(3, .int (0 : Int32)), (2, .int (0 : Int32)), (0, .ref h0), (1, .int x1)]) hx hb dX6_countsVotes_189 rfl hl (by decide) rfl (fun ls hl => ?_)
            exact lp_190 N _ _ _ _ hf _ _ _ hP hD hS (lv_sub hl [2, 3, 1, 0] rfl)
          · have hf := tn hf c3
            refine lv_iconst (v := (0 : Int32)) hx hb dX6_countsVotes_184 (by decide) ?_
            have hf := Option.some.inj hf
            subst hf
            exact e_z (wf := (fun v : Ob => (wX6 G h0 a0 v))) hx hb hr hlk u0 rfl ⟨rfl, rfl⟩ hP hK hD hS dX6_countsVotes_185
      · have hf := tn hf c1
        refine lv_aload_n hx hb dX6_countsVotes_35 rfl (lv_at hl 0 rfl) ?_
        refine lv_iload_n hx hb dX6_countsVotes_36 rfl (lv_at hl 2 rfl) ?_
        obtain ⟨q12, e13, hf⟩ := tbd hf
        refine kVi1 (As := [.int x2]) (rest := []) hC (c_X6_votesFor (G := G) e13) kq6_30 kc_X6_votesFor (by decide) 0 (ci := 4) rfl rfl hP hK hD hE hS hA hl.1 (Nat.le_of_ble_eq_true rfl) ⟨Nat.zero_le _, Nat.zero_le _⟩ dX6_countsVotes_37 (fun r9 u9 H locs hw hP hD hS => ?_)
        obtain ⟨rfl, rfl⟩ := hw
        have hP : va_P (gD G) vwCl (wX6 G h0 a0 q12.2) H := hP
        have hD : va_D A (wX6 G h0 a0 q12.2) := hD
        refine lv_istore_n (lv' := [(3, .int q12.1), (0, .ref h0), (1, .int x1), (2, .int x2)]) hx hb dX6_countsVotes_40 rfl hl (by decide) rfl (fun ls hl => ?_)
        refine lv_iload_n hx hb dX6_countsVotes_41 rfl (lv_at hl 0 rfl) ?_
        refine lv_iconst (v := (-1 : Int32)) hx hb dX6_countsVotes_42 (by decide) ?_
        refine lv_icmp_ne (tgt := 50) hx hb dX6_countsVotes_43 (by decide) (fun c14 => ?_) (fun c14 => ?_)
        · have hf := tn hf c14
          refine lv_aload_n hx hb dX6_countsVotes_50 rfl (lv_at hl 1 rfl) ?_
          refine lv_iload_n hx hb dX6_countsVotes_51 rfl (lv_at hl 0 rfl) ?_
          obtain ⟨q15, e16, hf⟩ := tbd hf
          refine kVi1 (As := [.int q12.1]) (rest := []) hC (c_X6_votesNow (G := G) e16) kq6_55 kc_X6_votesNow (by decide) 0 (ci := 4) rfl rfl hP hK hD hE hS hA hl.1 (Nat.le_of_ble_eq_true rfl) ⟨Nat.zero_le _, Nat.zero_le _⟩ dX6_countsVotes_52 (fun r9 u9 H locs hw hP hD hS => ?_)
          obtain ⟨rfl, rfl⟩ := hw
          have hP : va_P (gD G) vwCl (wX6 G h0 a0 q15.2) H := hP
          have hD : va_D A (wX6 G h0 a0 q15.2) := hD
          refine lv_istore (lv' := [(4, .int q15.1), (3, .int q12.1), (0, .ref h0), (1, .int x1), (2, .int x2)]) hx hb dX6_countsVotes_55 hl (by decide) rfl (fun ls hl => ?_)
          refine lv_iload hx hb dX6_countsVotes_57 (lv_at hl 0 rfl) ?_
          refine lv_i2l (v := q15.1.toInt64) hx hb dX6_countsVotes_59 rfl ?_
          refine lv_aload_n hx hb dX6_countsVotes_60 rfl (lv_at hl 2 rfl) ?_
          refine va_get (D := gD G) (ci := 4) (v := .ref (a0 0)) (C := RX6) (T := TX6) (N := 22) hx hb hg kl_X6 hown hK hP 0 rfl rfl 0 (by decide) (hg _ kq5_5) (fun _ h9 => h9) rfl dX6_countsVotes_61 ?_
          refine lv_iconst (v := (1 : Int32)) hx hb dX6_countsVotes_64 (by decide) ?_
          refine va_lald (f := (q15.2.2.2.2 0)) hx hb hK hP 1 2 rfl rfl (vin (by decide)) dX6_countsVotes_65 ?_
          refine lc_lt (tgt := 144) hx hb dX6_countsVotes_66 dX6_countsVotes_67 (by decide) (fun c17 => ?_) (fun c17 => ?_)
          · have hf := tp hf c17
            exact jn_144 _ _ _ _ _ hf _ _ _ hP hD hS (lv_sub hl [2, 3, 4, 1, 0] rfl)
          · have hf := tn hf c17
            refine lv_iload hx hb dX6_countsVotes_70 (lv_at hl 0 rfl) ?_
            refine lv_iload_n hx hb dX6_countsVotes_72 rfl (lv_at hl 3 rfl) ?_
            refine lv_icmp_ge (tgt := 79) hx hb dX6_countsVotes_73 (by decide) (fun c18 => ?_) (fun c18 => ?_)
            · have hf := tp hf c18
              refine lv_aload_n hx hb dX6_countsVotes_79 rfl (lv_at hl 2 rfl) ?_
              refine va_get (D := gD G) (ci := 4) (v := .ref (a0 0)) (C := RX6) (T := TX6) (N := 22) hx hb hg kl_X6 hown hK hP 0 rfl rfl 0 (by decide) (hg _ kq5_5) (fun _ h9 => h9) rfl dX6_countsVotes_80 ?_
              refine lv_bipush (v := (9 : Int32)) hx hb dX6_countsVotes_83 (by decide) ?_
              refine lv_iload hx hb dX6_countsVotes_85 (lv_at hl 0 rfl) ?_
              refine lv_iload_n hx hb dX6_countsVotes_87 rfl (lv_at hl 3 rfl) ?_
              refine lv_icmp_gt (tgt := 104) hx hb dX6_countsVotes_88 (by decide) (fun c19 => ?_) (fun c19 => ?_)
              · have hf := tp hf c19
                refine lv_iload_n hx hb dX6_countsVotes_104 rfl (lv_at hl 1 rfl) ?_
                refine lv_i2l (v := q12.1.toInt64) hx hb dX6_countsVotes_105 rfl ?_
                refine lv_goto (tgt := 112) hx hb dX6_countsVotes_106 (by decide) ?_
                exact jn_112 _ _ _ _ _ _ hf _ _ _ hP hD hS (lv_sub hl [2, 3, 4, 1, 0] rfl)
              · have hf := tn hf c19
                refine lv_aload_n hx hb dX6_countsVotes_91 rfl (lv_at hl 2 rfl) ?_
                refine va_get (D := gD G) (ci := 4) (v := .ref (a0 0)) (C := RX6) (T := TX6) (N := 22) hx hb hg kl_X6 hown hK hP 0 rfl rfl 0 (by decide) (hg _ kq5_5) (fun _ h9 => h9) rfl dX6_countsVotes_92 ?_
                refine lv_bipush (v := (9 : Int32)) hx hb dX6_countsVotes_95 (by decide) ?_
                refine va_lald (f := (q15.2.2.2.2 0)) hx hb hK hP 1 2 rfl rfl (vin (by decide)) dX6_countsVotes_97 ?_
                refine lv_iload_n hx hb dX6_countsVotes_98 rfl (lv_at hl 1 rfl) ?_
                refine lv_i2l (v := q12.1.toInt64) hx hb dX6_countsVotes_99 rfl ?_
                refine lc_ne (tgt := 109) hx hb dX6_countsVotes_100 dX6_countsVotes_101 (by decide) (fun c21 => ?_) (fun c21 => ?_)
                · have hf := tn hf c21
                  refine lv_ldc2 hx hb hown (hg _ kq5_0) dX6_countsVotes_109 ?_
                  exact jn_112 _ _ _ _ _ _ hf _ _ _ hP hD hS (lv_sub hl [2, 3, 4, 1, 0] rfl)
                · have hf := tp hf c21
                  refine lv_iload_n hx hb dX6_countsVotes_104 rfl (lv_at hl 1 rfl) ?_
                  refine lv_i2l (v := q12.1.toInt64) hx hb dX6_countsVotes_105 rfl ?_
                  refine lv_goto (tgt := 112) hx hb dX6_countsVotes_106 (by decide) ?_
                  exact jn_112 _ _ _ _ _ _ hf _ _ _ hP hD hS (lv_sub hl [2, 3, 4, 1, 0] rfl)
            · have hf := tn hf c18
              refine lv_goto (tgt := 144) hx hb dX6_countsVotes_76 (by decide) ?_
              exact jn_144 _ _ _ _ _ hf _ _ _ hP hD hS (lv_sub hl [2, 3, 4, 1, 0] rfl)
        · have hf := tp hf c14
          refine lv_iconst (v := (0 : Int32)) hx hb dX6_countsVotes_46 (by decide) ?_
          refine lv_goto (tgt := 55) hx hb dX6_countsVotes_47 (by decide) ?_
          refine lv_istore (lv' := [(4, .int (0 : Int32)), (3, .int q12.1), (0, .ref h0), (1, .int x1), (2, .int x2)]) hx hb dX6_countsVotes_55 hl (by decide) rfl (fun ls hl => ?_)
          refine lv_iload hx hb dX6_countsVotes_57 (lv_at hl 0 rfl) ?_
          refine lv_i2l (v := (0 : Int32).toInt64) hx hb dX6_countsVotes_59 rfl ?_
          refine lv_aload_n hx hb dX6_countsVotes_60 rfl (lv_at hl 2 rfl) ?_
          refine va_get (D := gD G) (ci := 4) (v := .ref (a0 0)) (C := RX6) (T := TX6) (N := 22) hx hb hg kl_X6 hown hK hP 0 rfl rfl 0 (by decide) (hg _ kq5_5) (fun _ h9 => h9) rfl dX6_countsVotes_61 ?_
          refine lv_iconst (v := (1 : Int32)) hx hb dX6_countsVotes_64 (by decide) ?_
          refine va_lald (f := (q12.2.2.2.2 0)) hx hb hK hP 1 2 rfl rfl (vin (by decide)) dX6_countsVotes_65 ?_
          refine lc_lt (tgt := 144) hx hb dX6_countsVotes_66 dX6_countsVotes_67 (by decide) (fun c22 => ?_) (fun c22 => ?_)
          · have hf := tp hf c22
            exact jn_144 _ _ _ _ _ hf _ _ _ hP hD hS (lv_sub hl [2, 3, 4, 1, 0] rfl)
          · have hf := tn hf c22
            refine lv_iload hx hb dX6_countsVotes_70 (lv_at hl 0 rfl) ?_
            refine lv_iload_n hx hb dX6_countsVotes_72 rfl (lv_at hl 3 rfl) ?_
            refine lv_icmp_ge (tgt := 79) hx hb dX6_countsVotes_73 (by decide) (fun c23 => ?_) (fun c23 => ?_)
            · have hf := tp hf c23
              refine lv_aload_n hx hb dX6_countsVotes_79 rfl (lv_at hl 2 rfl) ?_
              refine va_get (D := gD G) (ci := 4) (v := .ref (a0 0)) (C := RX6) (T := TX6) (N := 22) hx hb hg kl_X6 hown hK hP 0 rfl rfl 0 (by decide) (hg _ kq5_5) (fun _ h9 => h9) rfl dX6_countsVotes_80 ?_
              refine lv_bipush (v := (9 : Int32)) hx hb dX6_countsVotes_83 (by decide) ?_
              refine lv_iload hx hb dX6_countsVotes_85 (lv_at hl 0 rfl) ?_
              refine lv_iload_n hx hb dX6_countsVotes_87 rfl (lv_at hl 3 rfl) ?_
              refine lv_icmp_gt (tgt := 104) hx hb dX6_countsVotes_88 (by decide) (fun c24 => ?_) (fun c24 => ?_)
              · have hf := tp hf c24
                refine lv_iload_n hx hb dX6_countsVotes_104 rfl (lv_at hl 1 rfl) ?_
                refine lv_i2l (v := q12.1.toInt64) hx hb dX6_countsVotes_105 rfl ?_
                refine lv_goto (tgt := 112) hx hb dX6_countsVotes_106 (by decide) ?_
                exact jn_112 _ _ _ _ _ _ hf _ _ _ hP hD hS (lv_sub hl [2, 3, 4, 1, 0] rfl)
              · have hf := tn hf c24
                refine lv_aload_n hx hb dX6_countsVotes_91 rfl (lv_at hl 2 rfl) ?_
                refine va_get (D := gD G) (ci := 4) (v := .ref (a0 0)) (C := RX6) (T := TX6) (N := 22) hx hb hg kl_X6 hown hK hP 0 rfl rfl 0 (by decide) (hg _ kq5_5) (fun _ h9 => h9) rfl dX6_countsVotes_92 ?_
                refine lv_bipush (v := (9 : Int32)) hx hb dX6_countsVotes_95 (by decide) ?_
                refine va_lald (f := (q12.2.2.2.2 0)) hx hb hK hP 1 2 rfl rfl (vin (by decide)) dX6_countsVotes_97 ?_
                refine lv_iload_n hx hb dX6_countsVotes_98 rfl (lv_at hl 1 rfl) ?_
                refine lv_i2l (v := q12.1.toInt64) hx hb dX6_countsVotes_99 rfl ?_
                refine lc_ne (tgt := 109) hx hb dX6_countsVotes_100 dX6_countsVotes_101 (by decide) (fun c25 => ?_) (fun c25 => ?_)
                · have hf := tn hf c25
                  refine lv_ldc2 hx hb hown (hg _ kq5_0) dX6_countsVotes_109 ?_
                  exact jn_112 _ _ _ _ _ _ hf _ _ _ hP hD hS (lv_sub hl [2, 3, 4, 1, 0] rfl)
                · have hf := tp hf c25
                  refine lv_iload_n hx hb dX6_countsVotes_104 rfl (lv_at hl 1 rfl) ?_
                  refine lv_i2l (v := q12.1.toInt64) hx hb dX6_countsVotes_105 rfl ?_
                  refine lv_goto (tgt := 112) hx hb dX6_countsVotes_106 (by decide) ?_
                  exact jn_112 _ _ _ _ _ _ hf _ _ _ hP hD hS (lv_sub hl [2, 3, 4, 1, 0] rfl)
            · have hf := tn hf c23
              refine lv_goto (tgt := 144) hx hb dX6_countsVotes_76 (by decide) ?_
              exact jn_144 _ _ _ _ _ hf _ _ _ hP hD hS (lv_sub hl [2, 3, 4, 1, 0] rfl)
  rw [f_X6_countsVotes] at hf
  refine lv_aload_n hx hb dX6_countsVotes_0 rfl (lv_at hl 0 rfl) ?_
  refine va_get (D := gD G) (ci := 4) (v := .ref (a0 0)) (C := RX6) (T := TX6) (N := 22) hx hb hg kl_X6 hown hK hP 0 rfl rfl 0 (by decide) (hg _ kq5_5) (fun _ h9 => h9) rfl dX6_countsVotes_1 ?_
  refine lv_bipush (v := (9 : Int32)) hx hb dX6_countsVotes_4 (by decide) ?_
  refine lv_ldc2 hx hb hown (hg _ kq5_0) dX6_countsVotes_6 ?_
  refine va_last (f := (u0.2.2.2 0)) hx hb hK hP hD hS 1 2 rfl rfl (vin (by decide)) dX6_countsVotes_9 (fun H locs hP hD hS => ?_)
  have hP : va_P (gD G) vwCl (wX6 G h0 a0 (oj u0 0 (vp_updL (u0.2.2.2 0) (9 : Int32).toNatClampNeg (-1 : Int64)))) H := hP
  have hD : va_D A (wX6 G h0 a0 (oj u0 0 (vp_updL (u0.2.2.2 0) (9 : Int32).toNatClampNeg (-1 : Int64)))) := hD
  refine lv_aload_n hx hb dX6_countsVotes_10 rfl (lv_at hl 0 rfl) ?_
  refine va_get (D := gD G) (ci := 4) (v := .ref (a0 0)) (C := RX6) (T := TX6) (N := 22) hx hb hg kl_X6 hown hK hP 0 rfl rfl 0 (by decide) (hg _ kq5_5) (fun _ h9 => h9) rfl dX6_countsVotes_11 ?_
  refine lv_bipush (v := (10 : Int32)) hx hb dX6_countsVotes_14 (by decide) ?_
  refine lv_lconst (v := (0 : Int64)) hx hb dX6_countsVotes_16 (by decide) ?_
  refine va_last (f := (vp_updL (u0.2.2.2 0) (9 : Int32).toNatClampNeg (-1 : Int64))) hx hb hK hP hD hS 1 2 rfl rfl (vin (by decide)) dX6_countsVotes_17 (fun H locs hP hD hS => ?_)
  have hP : va_P (gD G) vwCl (wX6 G h0 a0 (oj (oj u0 0 (vp_updL (u0.2.2.2 0) (9 : Int32).toNatClampNeg (-1 : Int64))) 0 (vp_updL (vp_updL (u0.2.2.2 0) (9 : Int32).toNatClampNeg (-1 : Int64)) (10 : Int32).toNatClampNeg (0 : Int64)))) H := hP
  have hD : va_D A (wX6 G h0 a0 (oj (oj u0 0 (vp_updL (u0.2.2.2 0) (9 : Int32).toNatClampNeg (-1 : Int64))) 0 (vp_updL (vp_updL (u0.2.2.2 0) (9 : Int32).toNatClampNeg (-1 : Int64)) (10 : Int32).toNatClampNeg (0 : Int64)))) := hD
  refine lv_iconst (v := (0 : Int32)) hx hb dX6_countsVotes_18 (by decide) ?_
  refine lv_istore_n (lv' := [(1, .int (0 : Int32)), (0, .ref h0)]) hx hb dX6_countsVotes_19 rfl hl (by decide) rfl (fun ls hl => ?_)
  refine lv_iconst (v := (0 : Int32)) hx hb dX6_countsVotes_20 (by decide) ?_
  refine lv_istore_n (lv' := [(2, .int (0 : Int32)), (1, .int (0 : Int32)), (0, .ref h0)]) hx hb dX6_countsVotes_21 rfl hl (by decide) rfl (fun ls hl => ?_)
  exact lp_22 N _ _ _ hf _ _ _ hP hD hS (lv_sub hl [2, 1, 0] rfl)
set_option maxRecDepth 100000 in
set_option maxHeartbeats 4000000 in
theorem c_X6_fixes {l : Launch} {G : Gp} {sz N : Nat} {x1 : Int64} {x3 : Int64} {h0 : Nat} {a0 : Nat → Nat} {u0 : Ob} {q : Ob} (hf : f_X6_fixes N x1 x3 u0 = some q) : Met l yX6_fixes (Cond.code yX6_fixes cX6_fixes 6 none :: lw_g) ({ frames := 0, cells := 0, slots := 0, locals := 0 } : Room) (va_Pc [.ref h0, .long x1, .long x3] (pw G (wX6 G h0 a0 u0) sz)) (va_Qv (fun v : Ob => q = v) (bw G (fun v : Ob => (wX6 G h0 a0 v)) (va_A (wX6 G h0 a0 u0) sz)) (va_A (wX6 G h0 a0 u0) sz)) 0 0 (va_A (wX6 G h0 a0 u0) sz) := by
  refine mt (Qc := (fun A => va_Qv (fun v : Ob => q = v) (bw G (fun v : Ob => (wX6 G h0 a0 v)) A) A)) (by decide) (Nat.le_of_ble_eq_true rfl) ?_
  intro p e s m below meth c A ls hx hb hr hlk hml hts hown hA hP hK hD hE hS hl
  have hown : s.vm.findClass RX6 = some m.cls := hown
  have hg : ∀ w ∈ lw_g, w.before ([.ref h0, .long x1, .long x3] : List Value).toArray s = true := fun w h => hts w (List.mem_cons_of_mem _ h)
  have hC : CallFix p m c cX6_fixes 6 s ([.ref h0, .long x1, .long x3] : List Value).toArray (Cond.code yX6_fixes cX6_fixes 6 none :: lw_g) RX6 := ⟨hx, hb, hml, hown, hts⟩
  have hl : lv_has ls 6 [(0, .ref h0), (1, .long x1), (3, .long x3)] := hl
  have lp_4 : ∀ (n : Nat) (x5 : Int32) (u0 : Ob), l_X6_fixes_4 N x1 x3 n x5 u0 = some q → ∀ (H : Heap) (locs : List Loc) (ls : Array Slot), va_P (gD G) vwCl (wX6 G h0 a0 u0) H → va_D A (wX6 G h0 a0 u0) → va_S A s.heap H locs → lv_has ls 6 [(0, .ref h0), (1, .long x1), (3, .long x3), (5, .int x5)] → W p l e ({ frames := 0, cells := 0, slots := 0, locals := 0 } : Room) s m ([.ref h0, .long x1, .long x3] : List Value).toArray below meth c H locs 0 0 (MQ below (va_Qv (fun v : Ob => q = v) (bw G (fun v : Ob => (wX6 G h0 a0 v)) A) A) ([.ref h0, .long x1, .long x3] : List Value).toArray s 0 0 A) (F0 m 4 ls []) := by
    intro n
    induction n with
    | zero => intro x5 u0 hf; rw [l_X6_fixes_4] at hf; cases hf
    | succ n ih =>
      intro x5 u0 hf H locs ls hP hD hS hl
      rw [l_X6_fixes_4] at hf
      refine lv_iload hx hb dX6_fixes_4 (lv_at hl 3 rfl) ?_
      refine lv_iconst (v := (1 : Int32)) hx hb dX6_fixes_6 (by decide) ?_
      refine lv_icmp_le (tgt := 38) hx hb dX6_fixes_7 (by decide) (fun c1 => ?_) (fun c1 => ?_)
      · have hf := tp hf c1
        refine lv_aload_n hx hb dX6_fixes_38 rfl (lv_at hl 0 rfl) ?_
        refine va_get (D := gD G) (ci := 4) (v := .ref (a0 0)) (C := RX6) (T := TX6) (N := 22) hx hb hg kl_X6 hown hK hP 0 rfl rfl 0 (by decide) (hg _ kq5_5) (fun _ h9 => h9) rfl dX6_fixes_39 ?_
        refine lv_bipush (v := (32 : Int32)) hx hb dX6_fixes_42 (by decide) ?_
        refine lv_lload_n hx hb dX6_fixes_44 rfl (lv_at hl 1 rfl) ?_
        refine va_last (f := (u0.2.2.2 0)) hx hb hK hP hD hS 1 2 rfl rfl (vin (by decide)) dX6_fixes_45 (fun H locs hP hD hS => ?_)
        have hP : va_P (gD G) vwCl (wX6 G h0 a0 (oj u0 0 (vp_updL (u0.2.2.2 0) (32 : Int32).toNatClampNeg x1))) H := hP
        have hD : va_D A (wX6 G h0 a0 (oj u0 0 (vp_updL (u0.2.2.2 0) (32 : Int32).toNatClampNeg x1))) := hD
        refine lv_aload_n hx hb dX6_fixes_46 rfl (lv_at hl 0 rfl) ?_
        refine va_get (D := gD G) (ci := 4) (v := .ref (a0 0)) (C := RX6) (T := TX6) (N := 22) hx hb hg kl_X6 hown hK hP 0 rfl rfl 0 (by decide) (hg _ kq5_5) (fun _ h9 => h9) rfl dX6_fixes_47 ?_
        refine lv_bipush (v := (33 : Int32)) hx hb dX6_fixes_50 (by decide) ?_
        refine lv_lload_n hx hb dX6_fixes_52 rfl (lv_at hl 2 rfl) ?_
        refine va_last (f := (vp_updL (u0.2.2.2 0) (32 : Int32).toNatClampNeg x1)) hx hb hK hP hD hS 1 2 rfl rfl (vin (by decide)) dX6_fixes_53 (fun H locs hP hD hS => ?_)
        have hP : va_P (gD G) vwCl (wX6 G h0 a0 (oj (oj u0 0 (vp_updL (u0.2.2.2 0) (32 : Int32).toNatClampNeg x1)) 0 (vp_updL (vp_updL (u0.2.2.2 0) (32 : Int32).toNatClampNeg x1) (33 : Int32).toNatClampNeg x3))) H := hP
        have hD : va_D A (wX6 G h0 a0 (oj (oj u0 0 (vp_updL (u0.2.2.2 0) (32 : Int32).toNatClampNeg x1)) 0 (vp_updL (vp_updL (u0.2.2.2 0) (32 : Int32).toNatClampNeg x1) (33 : Int32).toNatClampNeg x3))) := hD
        refine lv_aload_n hx hb dX6_fixes_54 rfl (lv_at hl 0 rfl) ?_
        refine va_get (D := gD G) (ci := 4) (v := .ref (a0 0)) (C := RX6) (T := TX6) (N := 22) hx hb hg kl_X6 hown hK hP 0 rfl rfl 0 (by decide) (hg _ kq5_5) (fun _ h9 => h9) rfl dX6_fixes_55 ?_
        refine lv_bipush (v := (13 : Int32)) hx hb dX6_fixes_58 (by decide) ?_
        refine lv_dup2_11 hx hb dX6_fixes_60 rfl rfl ?_
        refine va_lald (f := (vp_updL (vp_updL (u0.2.2.2 0) (32 : Int32).toNatClampNeg x1) (33 : Int32).toNatClampNeg x3)) hx hb hK hP 1 2 rfl rfl (vin (by decide)) dX6_fixes_61 ?_
        refine lv_aload_n hx hb dX6_fixes_62 rfl (lv_at hl 0 rfl) ?_
        refine va_get (D := gD G) (ci := 4) (v := .ref (a0 0)) (C := RX6) (T := TX6) (N := 22) hx hb hg kl_X6 hown hK hP 0 rfl rfl 0 (by decide) (hg _ kq5_5) (fun _ h9 => h9) rfl dX6_fixes_63 ?_
        refine lv_bipush (v := (13 : Int32)) hx hb dX6_fixes_66 (by decide) ?_
        refine va_lald (f := (vp_updL (vp_updL (u0.2.2.2 0) (32 : Int32).toNatClampNeg x1) (33 : Int32).toNatClampNeg x3)) hx hb hK hP 1 2 rfl rfl (vin (by decide)) dX6_fixes_68 ?_
        refine lv_ldc2 hx hb hown (hg _ kq6_63) dX6_fixes_69 ?_
        refine lc_ge (tgt := 80) hx hb dX6_fixes_72 dX6_fixes_73 (by decide) (fun c2 => ?_) (fun c2 => ?_)
        · have hf := tp hf c2
          refine lv_lconst (v := (0 : Int64)) hx hb dX6_fixes_80 (by decide) ?_
          refine lv_ladd hx hb dX6_fixes_81 ?_
          refine va_last (f := (vp_updL (vp_updL (u0.2.2.2 0) (32 : Int32).toNatClampNeg x1) (33 : Int32).toNatClampNeg x3)) hx hb hK hP hD hS 1 2 rfl rfl (vin (by decide)) dX6_fixes_82 (fun H locs hP hD hS => ?_)
          have hP : va_P (gD G) vwCl (wX6 G h0 a0 (oj (oj (oj u0 0 (vp_updL (u0.2.2.2 0) (32 : Int32).toNatClampNeg x1)) 0 (vp_updL (vp_updL (u0.2.2.2 0) (32 : Int32).toNatClampNeg x1) (33 : Int32).toNatClampNeg x3)) 0 (vp_updL (vp_updL (vp_updL (u0.2.2.2 0) (32 : Int32).toNatClampNeg x1) (33 : Int32).toNatClampNeg x3) (13 : Int32).toNatClampNeg (((vp_updL (vp_updL (u0.2.2.2 0) (32 : Int32).toNatClampNeg x1) (33 : Int32).toNatClampNeg x3) (13 : Int32).toNatClampNeg) + (0 : Int64))))) H := hP
          have hD : va_D A (wX6 G h0 a0 (oj (oj (oj u0 0 (vp_updL (u0.2.2.2 0) (32 : Int32).toNatClampNeg x1)) 0 (vp_updL (vp_updL (u0.2.2.2 0) (32 : Int32).toNatClampNeg x1) (33 : Int32).toNatClampNeg x3)) 0 (vp_updL (vp_updL (vp_updL (u0.2.2.2 0) (32 : Int32).toNatClampNeg x1) (33 : Int32).toNatClampNeg x3) (13 : Int32).toNatClampNeg (((vp_updL (vp_updL (u0.2.2.2 0) (32 : Int32).toNatClampNeg x1) (33 : Int32).toNatClampNeg x3) (13 : Int32).toNatClampNeg) + (0 : Int64))))) := hD
          have hf := Option.some.inj hf
          subst hf
          exact e_v (wf := (fun v : Ob => (wX6 G h0 a0 v))) hx hb hr hlk (oj (oj (oj u0 0 (vp_updL (u0.2.2.2 0) (32 : Int32).toNatClampNeg x1)) 0 (vp_updL (vp_updL (u0.2.2.2 0) (32 : Int32).toNatClampNeg x1) (33 : Int32).toNatClampNeg x3)) 0 (vp_updL (vp_updL (vp_updL (u0.2.2.2 0) (32 : Int32).toNatClampNeg x1) (33 : Int32).toNatClampNeg x3) (13 : Int32).toNatClampNeg (((vp_updL (vp_updL (u0.2.2.2 0) (32 : Int32).toNatClampNeg x1) (33 : Int32).toNatClampNeg x3) (13 : Int32).toNatClampNeg) + (0 : Int64)))) rfl hP hK hD hS dX6_fixes_83
        · have hf := tn hf c2
          refine lv_lconst (v := (1 : Int64)) hx hb dX6_fixes_76 (by decide) ?_
          refine lv_goto (tgt := 81) hx hb dX6_fixes_77 (by decide) ?_
          refine lv_ladd hx hb dX6_fixes_81 ?_
          refine va_last (f := (vp_updL (vp_updL (u0.2.2.2 0) (32 : Int32).toNatClampNeg x1) (33 : Int32).toNatClampNeg x3)) hx hb hK hP hD hS 1 2 rfl rfl (vin (by decide)) dX6_fixes_82 (fun H locs hP hD hS => ?_)
          have hP : va_P (gD G) vwCl (wX6 G h0 a0 (oj (oj (oj u0 0 (vp_updL (u0.2.2.2 0) (32 : Int32).toNatClampNeg x1)) 0 (vp_updL (vp_updL (u0.2.2.2 0) (32 : Int32).toNatClampNeg x1) (33 : Int32).toNatClampNeg x3)) 0 (vp_updL (vp_updL (vp_updL (u0.2.2.2 0) (32 : Int32).toNatClampNeg x1) (33 : Int32).toNatClampNeg x3) (13 : Int32).toNatClampNeg (((vp_updL (vp_updL (u0.2.2.2 0) (32 : Int32).toNatClampNeg x1) (33 : Int32).toNatClampNeg x3) (13 : Int32).toNatClampNeg) + (1 : Int64))))) H := hP
          have hD : va_D A (wX6 G h0 a0 (oj (oj (oj u0 0 (vp_updL (u0.2.2.2 0) (32 : Int32).toNatClampNeg x1)) 0 (vp_updL (vp_updL (u0.2.2.2 0) (32 : Int32).toNatClampNeg x1) (33 : Int32).toNatClampNeg x3)) 0 (vp_updL (vp_updL (vp_updL (u0.2.2.2 0) (32 : Int32).toNatClampNeg x1) (33 : Int32).toNatClampNeg x3) (13 : Int32).toNatClampNeg (((vp_updL (vp_updL (u0.2.2.2 0) (32 : Int32).toNatClampNeg x1) (33 : Int32).toNatClampNeg x3) (13 : Int32).toNatClampNeg) + (1 : Int64))))) := hD
          have hf := Option.some.inj hf
          subst hf
          exact e_v (wf := (fun v : Ob => (wX6 G h0 a0 v))) hx hb hr hlk (oj (oj (oj u0 0 (vp_updL (u0.2.2.2 0) (32 : Int32).toNatClampNeg x1)) 0 (vp_updL (vp_updL (u0.2.2.2 0) (32 : Int32).toNatClampNeg x1) (33 : Int32).toNatClampNeg x3)) 0 (vp_updL (vp_updL (vp_updL (u0.2.2.2 0) (32 : Int32).toNatClampNeg x1) (33 : Int32).toNatClampNeg x3) (13 : Int32).toNatClampNeg (((vp_updL (vp_updL (u0.2.2.2 0) (32 : Int32).toNatClampNeg x1) (33 : Int32).toNatClampNeg x3) (13 : Int32).toNatClampNeg) + (1 : Int64)))) rfl hP hK hD hS dX6_fixes_83
      · have hf := tn hf c1
        refine lv_aload_n hx hb dX6_fixes_10 rfl (lv_at hl 0 rfl) ?_
        refine va_get (D := gD G) (ci := 4) (v := .ref (a0 0)) (C := RX6) (T := TX6) (N := 22) hx hb hg kl_X6 hown hK hP 0 rfl rfl 0 (by decide) (hg _ kq5_5) (fun _ h9 => h9) rfl dX6_fixes_11 ?_
        refine lv_bipush (v := (32 : Int32)) hx hb dX6_fixes_14 (by decide) ?_
        refine lv_iload hx hb dX6_fixes_16 (lv_at hl 3 rfl) ?_
        refine lv_iadd hx hb dX6_fixes_18 ?_
        refine lv_aload_n hx hb dX6_fixes_19 rfl (lv_at hl 0 rfl) ?_
        refine va_get (D := gD G) (ci := 4) (v := .ref (a0 0)) (C := RX6) (T := TX6) (N := 22) hx hb hg kl_X6 hown hK hP 0 rfl rfl 0 (by decide) (hg _ kq5_5) (fun _ h9 => h9) rfl dX6_fixes_20 ?_
        refine lv_bipush (v := (32 : Int32)) hx hb dX6_fixes_23 (by decide) ?_
        refine lv_iload hx hb dX6_fixes_25 (lv_at hl 3 rfl) ?_
        refine lv_iadd hx hb dX6_fixes_27 ?_
        refine lv_iconst (v := (2 : Int32)) hx hb dX6_fixes_28 (by decide) ?_
        refine lv_isub hx hb dX6_fixes_29 ?_
        obtain ⟨b3, hf⟩ := tno hf
        refine va_lald (f := (u0.2.2.2 0)) hx hb hK hP 1 2 rfl rfl b3 dX6_fixes_30 ?_
        obtain ⟨b4, hf⟩ := tno hf
        refine va_last (f := (u0.2.2.2 0)) hx hb hK hP hD hS 1 2 rfl rfl b4 dX6_fixes_31 (fun H locs hP hD hS => ?_)
        have hP : va_P (gD G) vwCl (wX6 G h0 a0 (oj u0 0 (vp_updL (u0.2.2.2 0) ((32 : Int32) + x5).toNatClampNeg ((u0.2.2.2 0) (((32 : Int32) + x5) - (2 : Int32)).toNatClampNeg)))) H := hP
        have hD : va_D A (wX6 G h0 a0 (oj u0 0 (vp_updL (u0.2.2.2 0) ((32 : Int32) + x5).toNatClampNeg ((u0.2.2.2 0) (((32 : Int32) + x5) - (2 : Int32)).toNatClampNeg)))) := hD
        refine lv_iinc (v := (x5 + (-1 : Int32))) (lv' := [(5, .int (x5 + (-1 : Int32))), (0, .ref h0), (1, .long x1), (3, .long x3)]) hx hb dX6_fixes_32 hl (k := 3) rfl rfl (by decide) rfl (fun ls hl => ?_)
        refine lv_goto (tgt := 4) hx hb dX6_fixes_35 (by decide) ?_
        exact ih _ _ hf _ _ _ hP hD hS (lv_sub hl [1, 2, 3, 0] rfl)
  rw [f_X6_fixes] at hf
  refine lv_bipush (v := (15 : Int32)) hx hb dX6_fixes_0 (by decide) ?_
  refine lv_istore (lv' := [(5, .int (15 : Int32)), (0, .ref h0), (1, .long x1), (3, .long x3)]) hx hb dX6_fixes_2 hl (by decide) rfl (fun ls hl => ?_)
  exact lp_4 N _ _ hf _ _ _ hP hD hS (lv_sub hl [1, 2, 3, 0] rfl)
set_option maxRecDepth 100000 in
set_option maxHeartbeats 4000000 in
theorem c_X6_endsMinute {l : Launch} {G : Gp} {sz N : Nat} {x1 : Int32} {x2 : Int32} {x3 : Int64} {h0 : Nat} {a0 : Nat → Nat} {u0 : Ob} {q : Int32 × Ob} (hf : f_X6_endsMinute N x1 x2 x3 u0 = some q) : Met l yX6_endsMinute (Cond.code yX6_endsMinute cX6_endsMinute 6 (some .int) :: lw_g) ({ frames := 8, cells := 0, slots := 0, locals := 199 } : Room) (va_Pc [.ref h0, .int x1, .int x2, .long x3] (pw G (wX6 G h0 a0 u0) sz)) (va_Qi (fun (r : Int32) (v : Ob) => q.1 = r ∧ q.2 = v) (bw G (fun v : Ob => (wX6 G h0 a0 v)) (va_A (wX6 G h0 a0 u0) sz)) (va_A (wX6 G h0 a0 u0) sz)) 0 0 (va_A (wX6 G h0 a0 u0) sz) := by
  refine mt (Qc := (fun A => va_Qi (fun (r : Int32) (v : Ob) => q.1 = r ∧ q.2 = v) (bw G (fun v : Ob => (wX6 G h0 a0 v)) A) A)) (by decide) (Nat.le_of_ble_eq_true rfl) ?_
  intro p e s m below meth c A ls hx hb hr hlk hml hts hown hA hP hK hD hE hS hl
  have hown : s.vm.findClass RX6 = some m.cls := hown
  have hg : ∀ w ∈ lw_g, w.before ([.ref h0, .int x1, .int x2, .long x3] : List Value).toArray s = true := fun w h => hts w (List.mem_cons_of_mem _ h)
  have hC : CallFix p m c cX6_endsMinute 6 s ([.ref h0, .int x1, .int x2, .long x3] : List Value).toArray (Cond.code yX6_endsMinute cX6_endsMinute 6 (some .int) :: lw_g) RX6 := ⟨hx, hb, hml, hown, hts⟩
  have hl : lv_has ls 6 [(0, .ref h0), (1, .int x1), (2, .int x2), (3, .long x3)] := hl
  have lp_35 : ∀ (n : Nat) (x5 : Int32) (u0 : Ob), l_X6_endsMinute_35 N x1 x2 x3 n x5 u0 = some q → ∀ (H : Heap) (locs : List Loc) (ls : Array Slot), va_P (gD G) vwCl (wX6 G h0 a0 u0) H → va_D A (wX6 G h0 a0 u0) → va_S A s.heap H locs → lv_has ls 6 [(0, .ref h0), (1, .int x1), (2, .int x2), (3, .long x3), (5, .int x5)] → W p l e ({ frames := 8, cells := 0, slots := 0, locals := 199 } : Room) s m ([.ref h0, .int x1, .int x2, .long x3] : List Value).toArray below meth c H locs 0 0 (MQ below (va_Qi (fun (r : Int32) (v : Ob) => q.1 = r ∧ q.2 = v) (bw G (fun v : Ob => (wX6 G h0 a0 v)) A) A) ([.ref h0, .int x1, .int x2, .long x3] : List Value).toArray s 0 0 A) (F0 m 35 ls []) := by
    intro n
    induction n with
    | zero => intro x5 u0 hf; rw [l_X6_endsMinute_35] at hf; cases hf
    | succ n ih =>
      intro x5 u0 hf H locs ls hP hD hS hl
      rw [l_X6_endsMinute_35] at hf
      refine lv_iload hx hb dX6_endsMinute_35 (lv_at hl 4 rfl) ?_
      refine lv_iconst (v := (1 : Int32)) hx hb dX6_endsMinute_37 (by decide) ?_
      refine lv_icmp_le (tgt := 69) hx hb dX6_endsMinute_38 (by decide) (fun c2 => ?_) (fun c2 => ?_)
      · have hf := tp hf c2
        refine lv_aload_n hx hb dX6_endsMinute_69 rfl (lv_at hl 0 rfl) ?_
        refine va_get (D := gD G) (ci := 4) (v := .ref (a0 0)) (C := RX6) (T := TX6) (N := 22) hx hb hg kl_X6 hown hK hP 0 rfl rfl 0 (by decide) (hg _ kq5_5) (fun _ h9 => h9) rfl dX6_endsMinute_70 ?_
        refine lv_bipush (v := (16 : Int32)) hx hb dX6_endsMinute_73 (by decide) ?_
        refine lv_aload_n hx hb dX6_endsMinute_75 rfl (lv_at hl 0 rfl) ?_
        refine va_get (D := gD G) (ci := 4) (v := .ref (a0 0)) (C := RX6) (T := TX6) (N := 22) hx hb hg kl_X6 hown hK hP 0 rfl rfl 0 (by decide) (hg _ kq5_5) (fun _ h9 => h9) rfl dX6_endsMinute_76 ?_
        refine lv_bipush (v := (14 : Int32)) hx hb dX6_endsMinute_79 (by decide) ?_
        refine va_lald (f := (u0.2.2.2 0)) hx hb hK hP 1 2 rfl rfl (vin (by decide)) dX6_endsMinute_81 ?_
        refine va_last (f := (u0.2.2.2 0)) hx hb hK hP hD hS 1 2 rfl rfl (vin (by decide)) dX6_endsMinute_82 (fun H locs hP hD hS => ?_)
        have hP : va_P (gD G) vwCl (wX6 G h0 a0 (oj u0 0 (vp_updL (u0.2.2.2 0) (16 : Int32).toNatClampNeg ((u0.2.2.2 0) (14 : Int32).toNatClampNeg)))) H := hP
        have hD : va_D A (wX6 G h0 a0 (oj u0 0 (vp_updL (u0.2.2.2 0) (16 : Int32).toNatClampNeg ((u0.2.2.2 0) (14 : Int32).toNatClampNeg)))) := hD
        refine lv_aload_n hx hb dX6_endsMinute_83 rfl (lv_at hl 0 rfl) ?_
        refine va_get (D := gD G) (ci := 4) (v := .ref (a0 0)) (C := RX6) (T := TX6) (N := 22) hx hb hg kl_X6 hown hK hP 0 rfl rfl 0 (by decide) (hg _ kq5_5) (fun _ h9 => h9) rfl dX6_endsMinute_84 ?_
        refine lv_bipush (v := (17 : Int32)) hx hb dX6_endsMinute_87 (by decide) ?_
        refine lv_aload_n hx hb dX6_endsMinute_89 rfl (lv_at hl 0 rfl) ?_
        refine va_get (D := gD G) (ci := 4) (v := .ref (a0 0)) (C := RX6) (T := TX6) (N := 22) hx hb hg kl_X6 hown hK hP 0 rfl rfl 0 (by decide) (hg _ kq5_5) (fun _ h9 => h9) rfl dX6_endsMinute_90 ?_
        refine lv_bipush (v := (15 : Int32)) hx hb dX6_endsMinute_93 (by decide) ?_
        refine va_lald (f := (vp_updL (u0.2.2.2 0) (16 : Int32).toNatClampNeg ((u0.2.2.2 0) (14 : Int32).toNatClampNeg))) hx hb hK hP 1 2 rfl rfl (vin (by decide)) dX6_endsMinute_95 ?_
        refine va_last (f := (vp_updL (u0.2.2.2 0) (16 : Int32).toNatClampNeg ((u0.2.2.2 0) (14 : Int32).toNatClampNeg))) hx hb hK hP hD hS 1 2 rfl rfl (vin (by decide)) dX6_endsMinute_96 (fun H locs hP hD hS => ?_)
        have hP : va_P (gD G) vwCl (wX6 G h0 a0 (oj (oj u0 0 (vp_updL (u0.2.2.2 0) (16 : Int32).toNatClampNeg ((u0.2.2.2 0) (14 : Int32).toNatClampNeg))) 0 (vp_updL (vp_updL (u0.2.2.2 0) (16 : Int32).toNatClampNeg ((u0.2.2.2 0) (14 : Int32).toNatClampNeg)) (17 : Int32).toNatClampNeg ((vp_updL (u0.2.2.2 0) (16 : Int32).toNatClampNeg ((u0.2.2.2 0) (14 : Int32).toNatClampNeg)) (15 : Int32).toNatClampNeg)))) H := hP
        have hD : va_D A (wX6 G h0 a0 (oj (oj u0 0 (vp_updL (u0.2.2.2 0) (16 : Int32).toNatClampNeg ((u0.2.2.2 0) (14 : Int32).toNatClampNeg))) 0 (vp_updL (vp_updL (u0.2.2.2 0) (16 : Int32).toNatClampNeg ((u0.2.2.2 0) (14 : Int32).toNatClampNeg)) (17 : Int32).toNatClampNeg ((vp_updL (u0.2.2.2 0) (16 : Int32).toNatClampNeg ((u0.2.2.2 0) (14 : Int32).toNatClampNeg)) (15 : Int32).toNatClampNeg)))) := hD
        refine lv_aload_n hx hb dX6_endsMinute_97 rfl (lv_at hl 0 rfl) ?_
        refine va_get (D := gD G) (ci := 4) (v := .ref (a0 0)) (C := RX6) (T := TX6) (N := 22) hx hb hg kl_X6 hown hK hP 0 rfl rfl 0 (by decide) (hg _ kq5_5) (fun _ h9 => h9) rfl dX6_endsMinute_98 ?_
        refine lv_bipush (v := (12 : Int32)) hx hb dX6_endsMinute_101 (by decide) ?_
        refine lv_aload_n hx hb dX6_endsMinute_103 rfl (lv_at hl 0 rfl) ?_
        refine va_get (D := gD G) (ci := 4) (v := .ref (a0 0)) (C := RX6) (T := TX6) (N := 22) hx hb hg kl_X6 hown hK hP 0 rfl rfl 0 (by decide) (hg _ kq5_5) (fun _ h9 => h9) rfl dX6_endsMinute_104 ?_
        refine lv_bipush (v := (12 : Int32)) hx hb dX6_endsMinute_107 (by decide) ?_
        refine va_lald (f := (vp_updL (vp_updL (u0.2.2.2 0) (16 : Int32).toNatClampNeg ((u0.2.2.2 0) (14 : Int32).toNatClampNeg)) (17 : Int32).toNatClampNeg ((vp_updL (u0.2.2.2 0) (16 : Int32).toNatClampNeg ((u0.2.2.2 0) (14 : Int32).toNatClampNeg)) (15 : Int32).toNatClampNeg))) hx hb hK hP 1 2 rfl rfl (vin (by decide)) dX6_endsMinute_109 ?_
        refine lv_aload_n hx hb dX6_endsMinute_110 rfl (lv_at hl 0 rfl) ?_
        refine va_get (D := gD G) (ci := 4) (v := .ref (a0 0)) (C := RX6) (T := TX6) (N := 22) hx hb hg kl_X6 hown hK hP 0 rfl rfl 0 (by decide) (hg _ kq5_5) (fun _ h9 => h9) rfl dX6_endsMinute_111 ?_
        refine lv_iconst (v := (2 : Int32)) hx hb dX6_endsMinute_114 (by decide) ?_
        refine va_lald (f := (vp_updL (vp_updL (u0.2.2.2 0) (16 : Int32).toNatClampNeg ((u0.2.2.2 0) (14 : Int32).toNatClampNeg)) (17 : Int32).toNatClampNeg ((vp_updL (u0.2.2.2 0) (16 : Int32).toNatClampNeg ((u0.2.2.2 0) (14 : Int32).toNatClampNeg)) (15 : Int32).toNatClampNeg))) hx hb hK hP 1 2 rfl rfl (vin (by decide)) dX6_endsMinute_115 ?_
        refine lc_ge (tgt := 132) hx hb dX6_endsMinute_116 dX6_endsMinute_117 (by decide) (fun c3 => ?_) (fun c3 => ?_)
        · have hf := tp hf c3
          refine lv_aload_n hx hb dX6_endsMinute_132 rfl (lv_at hl 0 rfl) ?_
          refine va_get (D := gD G) (ci := 4) (v := .ref (a0 0)) (C := RX6) (T := TX6) (N := 22) hx hb hg kl_X6 hown hK hP 0 rfl rfl 0 (by decide) (hg _ kq5_5) (fun _ h9 => h9) rfl dX6_endsMinute_133 ?_
          refine lv_iconst (v := (2 : Int32)) hx hb dX6_endsMinute_136 (by decide) ?_
          refine va_lald (f := (vp_updL (vp_updL (u0.2.2.2 0) (16 : Int32).toNatClampNeg ((u0.2.2.2 0) (14 : Int32).toNatClampNeg)) (17 : Int32).toNatClampNeg ((vp_updL (u0.2.2.2 0) (16 : Int32).toNatClampNeg ((u0.2.2.2 0) (14 : Int32).toNatClampNeg)) (15 : Int32).toNatClampNeg))) hx hb hK hP 1 2 rfl rfl (vin (by decide)) dX6_endsMinute_137 ?_
          refine va_last (f := (vp_updL (vp_updL (u0.2.2.2 0) (16 : Int32).toNatClampNeg ((u0.2.2.2 0) (14 : Int32).toNatClampNeg)) (17 : Int32).toNatClampNeg ((vp_updL (u0.2.2.2 0) (16 : Int32).toNatClampNeg ((u0.2.2.2 0) (14 : Int32).toNatClampNeg)) (15 : Int32).toNatClampNeg))) hx hb hK hP hD hS 1 2 rfl rfl (vin (by decide)) dX6_endsMinute_138 (fun H locs hP hD hS => ?_)
          have hP : va_P (gD G) vwCl (wX6 G h0 a0 (oj (oj (oj u0 0 (vp_updL (u0.2.2.2 0) (16 : Int32).toNatClampNeg ((u0.2.2.2 0) (14 : Int32).toNatClampNeg))) 0 (vp_updL (vp_updL (u0.2.2.2 0) (16 : Int32).toNatClampNeg ((u0.2.2.2 0) (14 : Int32).toNatClampNeg)) (17 : Int32).toNatClampNeg ((vp_updL (u0.2.2.2 0) (16 : Int32).toNatClampNeg ((u0.2.2.2 0) (14 : Int32).toNatClampNeg)) (15 : Int32).toNatClampNeg))) 0 (vp_updL (vp_updL (vp_updL (u0.2.2.2 0) (16 : Int32).toNatClampNeg ((u0.2.2.2 0) (14 : Int32).toNatClampNeg)) (17 : Int32).toNatClampNeg ((vp_updL (u0.2.2.2 0) (16 : Int32).toNatClampNeg ((u0.2.2.2 0) (14 : Int32).toNatClampNeg)) (15 : Int32).toNatClampNeg)) (12 : Int32).toNatClampNeg ((vp_updL (vp_updL (u0.2.2.2 0) (16 : Int32).toNatClampNeg ((u0.2.2.2 0) (14 : Int32).toNatClampNeg)) (17 : Int32).toNatClampNeg ((vp_updL (u0.2.2.2 0) (16 : Int32).toNatClampNeg ((u0.2.2.2 0) (14 : Int32).toNatClampNeg)) (15 : Int32).toNatClampNeg)) (2 : Int32).toNatClampNeg)))) H := hP
          have hD : va_D A (wX6 G h0 a0 (oj (oj (oj u0 0 (vp_updL (u0.2.2.2 0) (16 : Int32).toNatClampNeg ((u0.2.2.2 0) (14 : Int32).toNatClampNeg))) 0 (vp_updL (vp_updL (u0.2.2.2 0) (16 : Int32).toNatClampNeg ((u0.2.2.2 0) (14 : Int32).toNatClampNeg)) (17 : Int32).toNatClampNeg ((vp_updL (u0.2.2.2 0) (16 : Int32).toNatClampNeg ((u0.2.2.2 0) (14 : Int32).toNatClampNeg)) (15 : Int32).toNatClampNeg))) 0 (vp_updL (vp_updL (vp_updL (u0.2.2.2 0) (16 : Int32).toNatClampNeg ((u0.2.2.2 0) (14 : Int32).toNatClampNeg)) (17 : Int32).toNatClampNeg ((vp_updL (u0.2.2.2 0) (16 : Int32).toNatClampNeg ((u0.2.2.2 0) (14 : Int32).toNatClampNeg)) (15 : Int32).toNatClampNeg)) (12 : Int32).toNatClampNeg ((vp_updL (vp_updL (u0.2.2.2 0) (16 : Int32).toNatClampNeg ((u0.2.2.2 0) (14 : Int32).toNatClampNeg)) (17 : Int32).toNatClampNeg ((vp_updL (u0.2.2.2 0) (16 : Int32).toNatClampNeg ((u0.2.2.2 0) (14 : Int32).toNatClampNeg)) (15 : Int32).toNatClampNeg)) (2 : Int32).toNatClampNeg)))) := hD
          refine lv_aload_n hx hb dX6_endsMinute_139 rfl (lv_at hl 0 rfl) ?_
          obtain ⟨q4, e5, hf⟩ := tbd hf
          refine kVi1 (As := []) (rest := []) hC (c_X6_countsVotes (G := G) e5) kq6_26 kc_X6_countsVotes (by decide) 0 (ci := 4) rfl rfl hP hK hD hE hS hA hl.1 (Nat.le_of_ble_eq_true rfl) ⟨Nat.zero_le _, Nat.zero_le _⟩ dX6_endsMinute_140 (fun r9 u9 H locs hw hP hD hS => ?_)
          obtain ⟨rfl, rfl⟩ := hw
          have hP : va_P (gD G) vwCl (wX6 G h0 a0 q4.2) H := hP
          have hD : va_D A (wX6 G h0 a0 q4.2) := hD
          refine lv_istore (lv' := [(5, .int (bI q4.1)), (0, .ref h0), (1, .int x1), (2, .int x2), (3, .long x3)]) hx hb dX6_endsMinute_143 hl (by decide) rfl (fun ls hl => ?_)
          refine lv_aload_n hx hb dX6_endsMinute_145 rfl (lv_at hl 1 rfl) ?_
          refine va_get (D := gD G) (ci := 4) (v := .ref (a0 0)) (C := RX6) (T := TX6) (N := 22) hx hb hg kl_X6 hown hK hP 0 rfl rfl 0 (by decide) (hg _ kq5_5) (fun _ h9 => h9) rfl dX6_endsMinute_146 ?_
          refine lv_bipush (v := (9 : Int32)) hx hb dX6_endsMinute_149 (by decide) ?_
          refine va_lald (f := (q4.2.2.2.2 0)) hx hb hK hP 1 2 rfl rfl (vin (by decide)) dX6_endsMinute_151 ?_
          refine lv_ldc2 hx hb hown (hg _ kq5_0) dX6_endsMinute_152 ?_
          refine lc_eq (tgt := 180) hx hb dX6_endsMinute_155 dX6_endsMinute_156 (by decide) (fun c6 => ?_) (fun c6 => ?_)
          · have hf := tp hf c6
            refine lv_aload_n hx hb dX6_endsMinute_180 rfl (lv_at hl 1 rfl) ?_
            refine lv_iload_n hx hb dX6_endsMinute_181 rfl (lv_at hl 2 rfl) ?_
            refine lv_iload_n hx hb dX6_endsMinute_182 rfl (lv_at hl 3 rfl) ?_
            refine lv_iload hx hb dX6_endsMinute_183 (lv_at hl 0 rfl) ?_
            refine bz_eq (tgt := 194) hx hb dX6_endsMinute_185 (by decide) (fun c7 => ?_) (fun c7 => ?_)
            · have hf := tn hf c7
              refine lv_ldc2 hx hb hown (hg _ kq5_236) dX6_endsMinute_194 ?_
              obtain ⟨q8, e9, hf⟩ := tbd hf
              refine kVv1 (As := [.int x1, .int x2, .long (60 : Int64)]) (rest := []) hC (c_X6_beginsMinute (G := G) e9) kq6_10 kc_X6_beginsMinute (by decide) 0 (ci := 4) rfl rfl hP hK hD hE hS hA hl.1 (Nat.le_of_ble_eq_true rfl) ⟨Nat.zero_le _, Nat.zero_le _⟩ dX6_endsMinute_197 (fun u9 H locs hw hP hD hS => ?_)
              obtain rfl := hw
              have hP : va_P (gD G) vwCl (wX6 G h0 a0 q8) H := hP
              have hD : va_D A (wX6 G h0 a0 q8) := hD
              refine lv_iconst (v := (3 : Int32)) hx hb dX6_endsMinute_200 (by decide) ?_
              have hf := Option.some.inj hf
              subst hf
              exact e_i (wf := (fun v : Ob => (wX6 G h0 a0 v))) hx hb hr hlk q8 ⟨rfl, rfl⟩ hP hK hD hS dX6_endsMinute_201
            · have hf := tp hf c7
              refine lv_ldc2 hx hb hown (hg _ kq6_64) dX6_endsMinute_188 ?_
              refine lv_goto (tgt := 197) hx hb dX6_endsMinute_191 (by decide) ?_
              obtain ⟨q10, e11, hf⟩ := tbd hf
              refine kVv1 (As := [.int x1, .int x2, .long (61 : Int64)]) (rest := []) hC (c_X6_beginsMinute (G := G) e11) kq6_10 kc_X6_beginsMinute (by decide) 0 (ci := 4) rfl rfl hP hK hD hE hS hA hl.1 (Nat.le_of_ble_eq_true rfl) ⟨Nat.zero_le _, Nat.zero_le _⟩ dX6_endsMinute_197 (fun u9 H locs hw hP hD hS => ?_)
              obtain rfl := hw
              have hP : va_P (gD G) vwCl (wX6 G h0 a0 q10) H := hP
              have hD : va_D A (wX6 G h0 a0 q10) := hD
              refine lv_iconst (v := (3 : Int32)) hx hb dX6_endsMinute_200 (by decide) ?_
              have hf := Option.some.inj hf
              subst hf
              exact e_i (wf := (fun v : Ob => (wX6 G h0 a0 v))) hx hb hr hlk q10 ⟨rfl, rfl⟩ hP hK hD hS dX6_endsMinute_201
          · have hf := tn hf c6
            refine lv_aload_n hx hb dX6_endsMinute_159 rfl (lv_at hl 1 rfl) ?_
            refine lv_aload_n hx hb dX6_endsMinute_160 rfl (lv_at hl 1 rfl) ?_
            refine va_get (D := gD G) (ci := 4) (v := .ref (a0 0)) (C := RX6) (T := TX6) (N := 22) hx hb hg kl_X6 hown hK hP 0 rfl rfl 0 (by decide) (hg _ kq5_5) (fun _ h9 => h9) rfl dX6_endsMinute_161 ?_
            refine lv_bipush (v := (9 : Int32)) hx hb dX6_endsMinute_164 (by decide) ?_
            refine va_lald (f := (q4.2.2.2.2 0)) hx hb hK hP 1 2 rfl rfl (vin (by decide)) dX6_endsMinute_166 ?_
            refine lv_lconst (v := (1 : Int64)) hx hb dX6_endsMinute_167 (by decide) ?_
            refine lv_ladd hx hb dX6_endsMinute_168 ?_
            refine lv_lload_n hx hb dX6_endsMinute_169 rfl (lv_at hl 4 rfl) ?_
            refine lv_ldc2 hx hb hown (hg _ kq6_1) dX6_endsMinute_170 ?_
            refine lv_iload_n hx hb dX6_endsMinute_173 rfl (lv_at hl 2 rfl) ?_
            refine lv_i2l (v := x1.toInt64) hx hb dX6_endsMinute_174 rfl ?_
            refine lv_lmul hx hb dX6_endsMinute_175 ?_
            refine lv_lsub hx hb dX6_endsMinute_176 ?_
            obtain ⟨q12, e13, hf⟩ := tbd hf
            refine kVv1 (As := [.long (((q4.2.2.2.2 0) (9 : Int32).toNatClampNeg) + (1 : Int64)), .long (x3 - ((1000 : Int64) * x1.toInt64))]) (rest := []) hC (c_X6_fixes (G := G) e13) kq6_59 kc_X6_fixes (by decide) 0 (ci := 4) rfl rfl hP hK hD hE hS hA hl.1 (Nat.le_of_ble_eq_true rfl) ⟨Nat.zero_le _, Nat.zero_le _⟩ dX6_endsMinute_177 (fun u9 H locs hw hP hD hS => ?_)
            obtain rfl := hw
            have hP : va_P (gD G) vwCl (wX6 G h0 a0 q12) H := hP
            have hD : va_D A (wX6 G h0 a0 q12) := hD
            refine lv_aload_n hx hb dX6_endsMinute_180 rfl (lv_at hl 1 rfl) ?_
            refine lv_iload_n hx hb dX6_endsMinute_181 rfl (lv_at hl 2 rfl) ?_
            refine lv_iload_n hx hb dX6_endsMinute_182 rfl (lv_at hl 3 rfl) ?_
            refine lv_iload hx hb dX6_endsMinute_183 (lv_at hl 0 rfl) ?_
            refine bz_eq (tgt := 194) hx hb dX6_endsMinute_185 (by decide) (fun c14 => ?_) (fun c14 => ?_)
            · have hf := tn hf c14
              refine lv_ldc2 hx hb hown (hg _ kq5_236) dX6_endsMinute_194 ?_
              obtain ⟨q15, e16, hf⟩ := tbd hf
              refine kVv1 (As := [.int x1, .int x2, .long (60 : Int64)]) (rest := []) hC (c_X6_beginsMinute (G := G) e16) kq6_10 kc_X6_beginsMinute (by decide) 0 (ci := 4) rfl rfl hP hK hD hE hS hA hl.1 (Nat.le_of_ble_eq_true rfl) ⟨Nat.zero_le _, Nat.zero_le _⟩ dX6_endsMinute_197 (fun u9 H locs hw hP hD hS => ?_)
              obtain rfl := hw
              have hP : va_P (gD G) vwCl (wX6 G h0 a0 q15) H := hP
              have hD : va_D A (wX6 G h0 a0 q15) := hD
              refine lv_iconst (v := (3 : Int32)) hx hb dX6_endsMinute_200 (by decide) ?_
              have hf := Option.some.inj hf
              subst hf
              exact e_i (wf := (fun v : Ob => (wX6 G h0 a0 v))) hx hb hr hlk q15 ⟨rfl, rfl⟩ hP hK hD hS dX6_endsMinute_201
            · have hf := tp hf c14
              refine lv_ldc2 hx hb hown (hg _ kq6_64) dX6_endsMinute_188 ?_
              refine lv_goto (tgt := 197) hx hb dX6_endsMinute_191 (by decide) ?_
              obtain ⟨q17, e18, hf⟩ := tbd hf
              refine kVv1 (As := [.int x1, .int x2, .long (61 : Int64)]) (rest := []) hC (c_X6_beginsMinute (G := G) e18) kq6_10 kc_X6_beginsMinute (by decide) 0 (ci := 4) rfl rfl hP hK hD hE hS hA hl.1 (Nat.le_of_ble_eq_true rfl) ⟨Nat.zero_le _, Nat.zero_le _⟩ dX6_endsMinute_197 (fun u9 H locs hw hP hD hS => ?_)
              obtain rfl := hw
              have hP : va_P (gD G) vwCl (wX6 G h0 a0 q17) H := hP
              have hD : va_D A (wX6 G h0 a0 q17) := hD
              refine lv_iconst (v := (3 : Int32)) hx hb dX6_endsMinute_200 (by decide) ?_
              have hf := Option.some.inj hf
              subst hf
              exact e_i (wf := (fun v : Ob => (wX6 G h0 a0 v))) hx hb hr hlk q17 ⟨rfl, rfl⟩ hP hK hD hS dX6_endsMinute_201
        · have hf := tn hf c3
          refine lv_aload_n hx hb dX6_endsMinute_120 rfl (lv_at hl 0 rfl) ?_
          refine va_get (D := gD G) (ci := 4) (v := .ref (a0 0)) (C := RX6) (T := TX6) (N := 22) hx hb hg kl_X6 hown hK hP 0 rfl rfl 0 (by decide) (hg _ kq5_5) (fun _ h9 => h9) rfl dX6_endsMinute_121 ?_
          refine lv_bipush (v := (12 : Int32)) hx hb dX6_endsMinute_124 (by decide) ?_
          refine va_lald (f := (vp_updL (vp_updL (u0.2.2.2 0) (16 : Int32).toNatClampNeg ((u0.2.2.2 0) (14 : Int32).toNatClampNeg)) (17 : Int32).toNatClampNeg ((vp_updL (u0.2.2.2 0) (16 : Int32).toNatClampNeg ((u0.2.2.2 0) (14 : Int32).toNatClampNeg)) (15 : Int32).toNatClampNeg))) hx hb hK hP 1 2 rfl rfl (vin (by decide)) dX6_endsMinute_126 ?_
          refine lv_lconst (v := (1 : Int64)) hx hb dX6_endsMinute_127 (by decide) ?_
          refine lv_ladd hx hb dX6_endsMinute_128 ?_
          refine lv_goto (tgt := 138) hx hb dX6_endsMinute_129 (by decide) ?_
          refine va_last (f := (vp_updL (vp_updL (u0.2.2.2 0) (16 : Int32).toNatClampNeg ((u0.2.2.2 0) (14 : Int32).toNatClampNeg)) (17 : Int32).toNatClampNeg ((vp_updL (u0.2.2.2 0) (16 : Int32).toNatClampNeg ((u0.2.2.2 0) (14 : Int32).toNatClampNeg)) (15 : Int32).toNatClampNeg))) hx hb hK hP hD hS 1 2 rfl rfl (vin (by decide)) dX6_endsMinute_138 (fun H locs hP hD hS => ?_)
          have hP : va_P (gD G) vwCl (wX6 G h0 a0 (oj (oj (oj u0 0 (vp_updL (u0.2.2.2 0) (16 : Int32).toNatClampNeg ((u0.2.2.2 0) (14 : Int32).toNatClampNeg))) 0 (vp_updL (vp_updL (u0.2.2.2 0) (16 : Int32).toNatClampNeg ((u0.2.2.2 0) (14 : Int32).toNatClampNeg)) (17 : Int32).toNatClampNeg ((vp_updL (u0.2.2.2 0) (16 : Int32).toNatClampNeg ((u0.2.2.2 0) (14 : Int32).toNatClampNeg)) (15 : Int32).toNatClampNeg))) 0 (vp_updL (vp_updL (vp_updL (u0.2.2.2 0) (16 : Int32).toNatClampNeg ((u0.2.2.2 0) (14 : Int32).toNatClampNeg)) (17 : Int32).toNatClampNeg ((vp_updL (u0.2.2.2 0) (16 : Int32).toNatClampNeg ((u0.2.2.2 0) (14 : Int32).toNatClampNeg)) (15 : Int32).toNatClampNeg)) (12 : Int32).toNatClampNeg (((vp_updL (vp_updL (u0.2.2.2 0) (16 : Int32).toNatClampNeg ((u0.2.2.2 0) (14 : Int32).toNatClampNeg)) (17 : Int32).toNatClampNeg ((vp_updL (u0.2.2.2 0) (16 : Int32).toNatClampNeg ((u0.2.2.2 0) (14 : Int32).toNatClampNeg)) (15 : Int32).toNatClampNeg)) (12 : Int32).toNatClampNeg) + (1 : Int64))))) H := hP
          have hD : va_D A (wX6 G h0 a0 (oj (oj (oj u0 0 (vp_updL (u0.2.2.2 0) (16 : Int32).toNatClampNeg ((u0.2.2.2 0) (14 : Int32).toNatClampNeg))) 0 (vp_updL (vp_updL (u0.2.2.2 0) (16 : Int32).toNatClampNeg ((u0.2.2.2 0) (14 : Int32).toNatClampNeg)) (17 : Int32).toNatClampNeg ((vp_updL (u0.2.2.2 0) (16 : Int32).toNatClampNeg ((u0.2.2.2 0) (14 : Int32).toNatClampNeg)) (15 : Int32).toNatClampNeg))) 0 (vp_updL (vp_updL (vp_updL (u0.2.2.2 0) (16 : Int32).toNatClampNeg ((u0.2.2.2 0) (14 : Int32).toNatClampNeg)) (17 : Int32).toNatClampNeg ((vp_updL (u0.2.2.2 0) (16 : Int32).toNatClampNeg ((u0.2.2.2 0) (14 : Int32).toNatClampNeg)) (15 : Int32).toNatClampNeg)) (12 : Int32).toNatClampNeg (((vp_updL (vp_updL (u0.2.2.2 0) (16 : Int32).toNatClampNeg ((u0.2.2.2 0) (14 : Int32).toNatClampNeg)) (17 : Int32).toNatClampNeg ((vp_updL (u0.2.2.2 0) (16 : Int32).toNatClampNeg ((u0.2.2.2 0) (14 : Int32).toNatClampNeg)) (15 : Int32).toNatClampNeg)) (12 : Int32).toNatClampNeg) + (1 : Int64))))) := hD
          refine lv_aload_n hx hb dX6_endsMinute_139 rfl (lv_at hl 0 rfl) ?_
          obtain ⟨q19, e20, hf⟩ := tbd hf
          refine kVi1 (As := []) (rest := []) hC (c_X6_countsVotes (G := G) e20) kq6_26 kc_X6_countsVotes (by decide) 0 (ci := 4) rfl rfl hP hK hD hE hS hA hl.1 (Nat.le_of_ble_eq_true rfl) ⟨Nat.zero_le _, Nat.zero_le _⟩ dX6_endsMinute_140 (fun r9 u9 H locs hw hP hD hS => ?_)
          obtain ⟨rfl, rfl⟩ := hw
          have hP : va_P (gD G) vwCl (wX6 G h0 a0 q19.2) H := hP
          have hD : va_D A (wX6 G h0 a0 q19.2) := hD
          refine lv_istore (lv' := [(5, .int (bI q19.1)), (0, .ref h0), (1, .int x1), (2, .int x2), (3, .long x3)]) hx hb dX6_endsMinute_143 hl (by decide) rfl (fun ls hl => ?_)
          refine lv_aload_n hx hb dX6_endsMinute_145 rfl (lv_at hl 1 rfl) ?_
          refine va_get (D := gD G) (ci := 4) (v := .ref (a0 0)) (C := RX6) (T := TX6) (N := 22) hx hb hg kl_X6 hown hK hP 0 rfl rfl 0 (by decide) (hg _ kq5_5) (fun _ h9 => h9) rfl dX6_endsMinute_146 ?_
          refine lv_bipush (v := (9 : Int32)) hx hb dX6_endsMinute_149 (by decide) ?_
          refine va_lald (f := (q19.2.2.2.2 0)) hx hb hK hP 1 2 rfl rfl (vin (by decide)) dX6_endsMinute_151 ?_
          refine lv_ldc2 hx hb hown (hg _ kq5_0) dX6_endsMinute_152 ?_
          refine lc_eq (tgt := 180) hx hb dX6_endsMinute_155 dX6_endsMinute_156 (by decide) (fun c21 => ?_) (fun c21 => ?_)
          · have hf := tp hf c21
            refine lv_aload_n hx hb dX6_endsMinute_180 rfl (lv_at hl 1 rfl) ?_
            refine lv_iload_n hx hb dX6_endsMinute_181 rfl (lv_at hl 2 rfl) ?_
            refine lv_iload_n hx hb dX6_endsMinute_182 rfl (lv_at hl 3 rfl) ?_
            refine lv_iload hx hb dX6_endsMinute_183 (lv_at hl 0 rfl) ?_
            refine bz_eq (tgt := 194) hx hb dX6_endsMinute_185 (by decide) (fun c22 => ?_) (fun c22 => ?_)
            · have hf := tn hf c22
              refine lv_ldc2 hx hb hown (hg _ kq5_236) dX6_endsMinute_194 ?_
              obtain ⟨q23, e24, hf⟩ := tbd hf
              refine kVv1 (As := [.int x1, .int x2, .long (60 : Int64)]) (rest := []) hC (c_X6_beginsMinute (G := G) e24) kq6_10 kc_X6_beginsMinute (by decide) 0 (ci := 4) rfl rfl hP hK hD hE hS hA hl.1 (Nat.le_of_ble_eq_true rfl) ⟨Nat.zero_le _, Nat.zero_le _⟩ dX6_endsMinute_197 (fun u9 H locs hw hP hD hS => ?_)
              obtain rfl := hw
              have hP : va_P (gD G) vwCl (wX6 G h0 a0 q23) H := hP
              have hD : va_D A (wX6 G h0 a0 q23) := hD
              refine lv_iconst (v := (3 : Int32)) hx hb dX6_endsMinute_200 (by decide) ?_
              have hf := Option.some.inj hf
              subst hf
              exact e_i (wf := (fun v : Ob => (wX6 G h0 a0 v))) hx hb hr hlk q23 ⟨rfl, rfl⟩ hP hK hD hS dX6_endsMinute_201
            · have hf := tp hf c22
              refine lv_ldc2 hx hb hown (hg _ kq6_64) dX6_endsMinute_188 ?_
              refine lv_goto (tgt := 197) hx hb dX6_endsMinute_191 (by decide) ?_
              obtain ⟨q25, e26, hf⟩ := tbd hf
              refine kVv1 (As := [.int x1, .int x2, .long (61 : Int64)]) (rest := []) hC (c_X6_beginsMinute (G := G) e26) kq6_10 kc_X6_beginsMinute (by decide) 0 (ci := 4) rfl rfl hP hK hD hE hS hA hl.1 (Nat.le_of_ble_eq_true rfl) ⟨Nat.zero_le _, Nat.zero_le _⟩ dX6_endsMinute_197 (fun u9 H locs hw hP hD hS => ?_)
              obtain rfl := hw
              have hP : va_P (gD G) vwCl (wX6 G h0 a0 q25) H := hP
              have hD : va_D A (wX6 G h0 a0 q25) := hD
              refine lv_iconst (v := (3 : Int32)) hx hb dX6_endsMinute_200 (by decide) ?_
              have hf := Option.some.inj hf
              subst hf
              exact e_i (wf := (fun v : Ob => (wX6 G h0 a0 v))) hx hb hr hlk q25 ⟨rfl, rfl⟩ hP hK hD hS dX6_endsMinute_201
          · have hf := tn hf c21
            refine lv_aload_n hx hb dX6_endsMinute_159 rfl (lv_at hl 1 rfl) ?_
            refine lv_aload_n hx hb dX6_endsMinute_160 rfl (lv_at hl 1 rfl) ?_
            refine va_get (D := gD G) (ci := 4) (v := .ref (a0 0)) (C := RX6) (T := TX6) (N := 22) hx hb hg kl_X6 hown hK hP 0 rfl rfl 0 (by decide) (hg _ kq5_5) (fun _ h9 => h9) rfl dX6_endsMinute_161 ?_
            refine lv_bipush (v := (9 : Int32)) hx hb dX6_endsMinute_164 (by decide) ?_
            refine va_lald (f := (q19.2.2.2.2 0)) hx hb hK hP 1 2 rfl rfl (vin (by decide)) dX6_endsMinute_166 ?_
            refine lv_lconst (v := (1 : Int64)) hx hb dX6_endsMinute_167 (by decide) ?_
            refine lv_ladd hx hb dX6_endsMinute_168 ?_
            refine lv_lload_n hx hb dX6_endsMinute_169 rfl (lv_at hl 4 rfl) ?_
            refine lv_ldc2 hx hb hown (hg _ kq6_1) dX6_endsMinute_170 ?_
            refine lv_iload_n hx hb dX6_endsMinute_173 rfl (lv_at hl 2 rfl) ?_
            refine lv_i2l (v := x1.toInt64) hx hb dX6_endsMinute_174 rfl ?_
            refine lv_lmul hx hb dX6_endsMinute_175 ?_
            refine lv_lsub hx hb dX6_endsMinute_176 ?_
            obtain ⟨q27, e28, hf⟩ := tbd hf
            refine kVv1 (As := [.long (((q19.2.2.2.2 0) (9 : Int32).toNatClampNeg) + (1 : Int64)), .long (x3 - ((1000 : Int64) * x1.toInt64))]) (rest := []) hC (c_X6_fixes (G := G) e28) kq6_59 kc_X6_fixes (by decide) 0 (ci := 4) rfl rfl hP hK hD hE hS hA hl.1 (Nat.le_of_ble_eq_true rfl) ⟨Nat.zero_le _, Nat.zero_le _⟩ dX6_endsMinute_177 (fun u9 H locs hw hP hD hS => ?_)
            obtain rfl := hw
            have hP : va_P (gD G) vwCl (wX6 G h0 a0 q27) H := hP
            have hD : va_D A (wX6 G h0 a0 q27) := hD
            refine lv_aload_n hx hb dX6_endsMinute_180 rfl (lv_at hl 1 rfl) ?_
            refine lv_iload_n hx hb dX6_endsMinute_181 rfl (lv_at hl 2 rfl) ?_
            refine lv_iload_n hx hb dX6_endsMinute_182 rfl (lv_at hl 3 rfl) ?_
            refine lv_iload hx hb dX6_endsMinute_183 (lv_at hl 0 rfl) ?_
            refine bz_eq (tgt := 194) hx hb dX6_endsMinute_185 (by decide) (fun c29 => ?_) (fun c29 => ?_)
            · have hf := tn hf c29
              refine lv_ldc2 hx hb hown (hg _ kq5_236) dX6_endsMinute_194 ?_
              obtain ⟨q30, e31, hf⟩ := tbd hf
              refine kVv1 (As := [.int x1, .int x2, .long (60 : Int64)]) (rest := []) hC (c_X6_beginsMinute (G := G) e31) kq6_10 kc_X6_beginsMinute (by decide) 0 (ci := 4) rfl rfl hP hK hD hE hS hA hl.1 (Nat.le_of_ble_eq_true rfl) ⟨Nat.zero_le _, Nat.zero_le _⟩ dX6_endsMinute_197 (fun u9 H locs hw hP hD hS => ?_)
              obtain rfl := hw
              have hP : va_P (gD G) vwCl (wX6 G h0 a0 q30) H := hP
              have hD : va_D A (wX6 G h0 a0 q30) := hD
              refine lv_iconst (v := (3 : Int32)) hx hb dX6_endsMinute_200 (by decide) ?_
              have hf := Option.some.inj hf
              subst hf
              exact e_i (wf := (fun v : Ob => (wX6 G h0 a0 v))) hx hb hr hlk q30 ⟨rfl, rfl⟩ hP hK hD hS dX6_endsMinute_201
            · have hf := tp hf c29
              refine lv_ldc2 hx hb hown (hg _ kq6_64) dX6_endsMinute_188 ?_
              refine lv_goto (tgt := 197) hx hb dX6_endsMinute_191 (by decide) ?_
              obtain ⟨q32, e33, hf⟩ := tbd hf
              refine kVv1 (As := [.int x1, .int x2, .long (61 : Int64)]) (rest := []) hC (c_X6_beginsMinute (G := G) e33) kq6_10 kc_X6_beginsMinute (by decide) 0 (ci := 4) rfl rfl hP hK hD hE hS hA hl.1 (Nat.le_of_ble_eq_true rfl) ⟨Nat.zero_le _, Nat.zero_le _⟩ dX6_endsMinute_197 (fun u9 H locs hw hP hD hS => ?_)
              obtain rfl := hw
              have hP : va_P (gD G) vwCl (wX6 G h0 a0 q32) H := hP
              have hD : va_D A (wX6 G h0 a0 q32) := hD
              refine lv_iconst (v := (3 : Int32)) hx hb dX6_endsMinute_200 (by decide) ?_
              have hf := Option.some.inj hf
              subst hf
              exact e_i (wf := (fun v : Ob => (wX6 G h0 a0 v))) hx hb hr hlk q32 ⟨rfl, rfl⟩ hP hK hD hS dX6_endsMinute_201
      · have hf := tn hf c2
        refine lv_aload_n hx hb dX6_endsMinute_41 rfl (lv_at hl 0 rfl) ?_
        refine va_get (D := gD G) (ci := 4) (v := .ref (a0 0)) (C := RX6) (T := TX6) (N := 22) hx hb hg kl_X6 hown hK hP 0 rfl rfl 0 (by decide) (hg _ kq5_5) (fun _ h9 => h9) rfl dX6_endsMinute_42 ?_
        refine lv_bipush (v := (16 : Int32)) hx hb dX6_endsMinute_45 (by decide) ?_
        refine lv_iload hx hb dX6_endsMinute_47 (lv_at hl 4 rfl) ?_
        refine lv_iadd hx hb dX6_endsMinute_49 ?_
        refine lv_aload_n hx hb dX6_endsMinute_50 rfl (lv_at hl 0 rfl) ?_
        refine va_get (D := gD G) (ci := 4) (v := .ref (a0 0)) (C := RX6) (T := TX6) (N := 22) hx hb hg kl_X6 hown hK hP 0 rfl rfl 0 (by decide) (hg _ kq5_5) (fun _ h9 => h9) rfl dX6_endsMinute_51 ?_
        refine lv_bipush (v := (16 : Int32)) hx hb dX6_endsMinute_54 (by decide) ?_
        refine lv_iload hx hb dX6_endsMinute_56 (lv_at hl 4 rfl) ?_
        refine lv_iadd hx hb dX6_endsMinute_58 ?_
        refine lv_iconst (v := (2 : Int32)) hx hb dX6_endsMinute_59 (by decide) ?_
        refine lv_isub hx hb dX6_endsMinute_60 ?_
        obtain ⟨b34, hf⟩ := tno hf
        refine va_lald (f := (u0.2.2.2 0)) hx hb hK hP 1 2 rfl rfl b34 dX6_endsMinute_61 ?_
        obtain ⟨b35, hf⟩ := tno hf
        refine va_last (f := (u0.2.2.2 0)) hx hb hK hP hD hS 1 2 rfl rfl b35 dX6_endsMinute_62 (fun H locs hP hD hS => ?_)
        have hP : va_P (gD G) vwCl (wX6 G h0 a0 (oj u0 0 (vp_updL (u0.2.2.2 0) ((16 : Int32) + x5).toNatClampNeg ((u0.2.2.2 0) (((16 : Int32) + x5) - (2 : Int32)).toNatClampNeg)))) H := hP
        have hD : va_D A (wX6 G h0 a0 (oj u0 0 (vp_updL (u0.2.2.2 0) ((16 : Int32) + x5).toNatClampNeg ((u0.2.2.2 0) (((16 : Int32) + x5) - (2 : Int32)).toNatClampNeg)))) := hD
        refine lv_iinc (v := (x5 + (-1 : Int32))) (lv' := [(5, .int (x5 + (-1 : Int32))), (0, .ref h0), (1, .int x1), (2, .int x2), (3, .long x3)]) hx hb dX6_endsMinute_63 hl (k := 4) rfl rfl (by decide) rfl (fun ls hl => ?_)
        refine lv_goto (tgt := 35) hx hb dX6_endsMinute_66 (by decide) ?_
        exact ih _ _ hf _ _ _ hP hD hS (lv_sub hl [1, 2, 3, 4, 0] rfl)
  have lp_11 : ∀ (n : Nat) (x5 : Int32) (u0 : Ob), l_X6_endsMinute_11 N x1 x2 x3 n x5 u0 = some q → ∀ (H : Heap) (locs : List Loc) (ls : Array Slot), va_P (gD G) vwCl (wX6 G h0 a0 u0) H → va_D A (wX6 G h0 a0 u0) → va_S A s.heap H locs → lv_has ls 6 [(0, .ref h0), (1, .int x1), (2, .int x2), (3, .long x3), (5, .int x5)] → W p l e ({ frames := 8, cells := 0, slots := 0, locals := 199 } : Room) s m ([.ref h0, .int x1, .int x2, .long x3] : List Value).toArray below meth c H locs 0 0 (MQ below (va_Qi (fun (r : Int32) (v : Ob) => q.1 = r ∧ q.2 = v) (bw G (fun v : Ob => (wX6 G h0 a0 v)) A) A) ([.ref h0, .int x1, .int x2, .long x3] : List Value).toArray s 0 0 A) (F0 m 11 ls []) := by
    intro n
    induction n with
    | zero => intro x5 u0 hf; rw [l_X6_endsMinute_11] at hf; cases hf
    | succ n ih =>
      intro x5 u0 hf H locs ls hP hD hS hl
      rw [l_X6_endsMinute_11] at hf
      refine lv_iload hx hb dX6_endsMinute_11 (lv_at hl 4 rfl) ?_
      refine lv_bipush (v := (59 : Int32)) hx hb dX6_endsMinute_13 (by decide) ?_
      refine lv_icmp_ge (tgt := 31) hx hb dX6_endsMinute_15 (by decide) (fun c1 => ?_) (fun c1 => ?_)
      · have hf := tp hf c1
        refine lv_bipush (v := (15 : Int32)) hx hb dX6_endsMinute_31 (by decide) ?_
        refine lv_istore (lv' := [(5, .int (15 : Int32)), (0, .ref h0), (1, .int x1), (2, .int x2), (3, .long x3)]) hx hb dX6_endsMinute_33 hl (by decide) rfl (fun ls hl => ?_)
        exact lp_35 N _ _ hf _ _ _ hP hD hS (lv_sub hl [1, 2, 3, 4, 0] rfl)
      · have hf := tn hf c1
        refine lv_aload_n hx hb dX6_endsMinute_18 rfl (lv_at hl 0 rfl) ?_
        refine lv_iload hx hb dX6_endsMinute_19 (lv_at hl 4 rfl) ?_
        refine lv_iconst (v := (2 : Int32)) hx hb dX6_endsMinute_21 (by decide) ?_
        obtain ⟨q36, e37, hf⟩ := tbd hf
        refine kVv1 (As := [.int x5, .int (2 : Int32)]) (rest := []) hC (c_X6_lays (G := G) e37) kq6_14 kc_X6_lays (by decide) 0 (ci := 4) rfl rfl hP hK hD hE hS hA hl.1 (Nat.le_of_ble_eq_true rfl) ⟨Nat.zero_le _, Nat.zero_le _⟩ dX6_endsMinute_22 (fun u9 H locs hw hP hD hS => ?_)
        obtain rfl := hw
        have hP : va_P (gD G) vwCl (wX6 G h0 a0 q36) H := hP
        have hD : va_D A (wX6 G h0 a0 q36) := hD
        refine lv_iinc (v := (x5 + (1 : Int32))) (lv' := [(5, .int (x5 + (1 : Int32))), (0, .ref h0), (1, .int x1), (2, .int x2), (3, .long x3)]) hx hb dX6_endsMinute_25 hl (k := 4) rfl rfl (by decide) rfl (fun ls hl => ?_)
        refine lv_goto (tgt := 11) hx hb dX6_endsMinute_28 (by decide) ?_
        exact ih _ _ hf _ _ _ hP hD hS (lv_sub hl [1, 2, 3, 4, 0] rfl)
  rw [f_X6_endsMinute] at hf
  refine lv_aload_n hx hb dX6_endsMinute_0 rfl (lv_at hl 0 rfl) ?_
  refine va_get (D := gD G) (ci := 4) (v := .ref (a0 0)) (C := RX6) (T := TX6) (N := 22) hx hb hg kl_X6 hown hK hP 0 rfl rfl 0 (by decide) (hg _ kq5_5) (fun _ h9 => h9) rfl dX6_endsMinute_1 ?_
  refine lv_iconst (v := (5 : Int32)) hx hb dX6_endsMinute_4 (by decide) ?_
  refine va_lald (f := (u0.2.2.2 0)) hx hb hK hP 1 2 rfl rfl (vin (by decide)) dX6_endsMinute_5 ?_
  refine lv_l2i (v := ((u0.2.2.2 0) (5 : Int32).toNatClampNeg).toInt32) hx hb dX6_endsMinute_6 rfl ?_
  refine lv_iconst (v := (1 : Int32)) hx hb dX6_endsMinute_7 (by decide) ?_
  refine lv_iadd hx hb dX6_endsMinute_8 ?_
  refine lv_istore (lv' := [(5, .int (((u0.2.2.2 0) (5 : Int32).toNatClampNeg).toInt32 + (1 : Int32))), (0, .ref h0), (1, .int x1), (2, .int x2), (3, .long x3)]) hx hb dX6_endsMinute_9 hl (by decide) rfl (fun ls hl => ?_)
  exact lp_11 N _ _ hf _ _ _ hP hD hS (lv_sub hl [1, 2, 3, 4, 0] rfl)
set_option maxRecDepth 100000 in
set_option maxHeartbeats 4000000 in
theorem c_X6_takesPulse {l : Launch} {G : Gp} {sz N : Nat} {x1 : Int64} {x3 : Int32} {h0 : Nat} {a0 : Nat → Nat} {u0 : Ob} {q : Int32 × Ob} (hf : f_X6_takesPulse N x1 x3 u0 = some q) : Met l yX6_takesPulse (Cond.code yX6_takesPulse cX6_takesPulse 11 (some .int) :: lw_g) ({ frames := 9, cells := 0, slots := 0, locals := 224 } : Room) (va_Pc [.ref h0, .long x1, .int x3] (pw G (wX6 G h0 a0 u0) sz)) (va_Qi (fun (r : Int32) (v : Ob) => q.1 = r ∧ q.2 = v) (bw G (fun v : Ob => (wX6 G h0 a0 v)) (va_A (wX6 G h0 a0 u0) sz)) (va_A (wX6 G h0 a0 u0) sz)) 0 0 (va_A (wX6 G h0 a0 u0) sz) := by
  refine mt (Qc := (fun A => va_Qi (fun (r : Int32) (v : Ob) => q.1 = r ∧ q.2 = v) (bw G (fun v : Ob => (wX6 G h0 a0 v)) A) A)) (by decide) (Nat.le_of_ble_eq_true rfl) ?_
  intro p e s m below meth c A ls hx hb hr hlk hml hts hown hA hP hK hD hE hS hl
  have hown : s.vm.findClass RX6 = some m.cls := hown
  have hg : ∀ w ∈ lw_g, w.before ([.ref h0, .long x1, .int x3] : List Value).toArray s = true := fun w h => hts w (List.mem_cons_of_mem _ h)
  have hC : CallFix p m c cX6_takesPulse 11 s ([.ref h0, .long x1, .int x3] : List Value).toArray (Cond.code yX6_takesPulse cX6_takesPulse 11 (some .int) :: lw_g) RX6 := ⟨hx, hb, hml, hown, hts⟩
  have hl : lv_has ls 11 [(0, .ref h0), (1, .long x1), (3, .int x3)] := hl
  have jn_210 : ∀ (x4 : Int32) (x5 : Int64) (x7 : Int64) (x9 : Int64) (u0 : Ob), k_X6_takesPulse_210 N x1 x3 x4 x5 x7 x9 u0 = some q → ∀ (H : Heap) (locs : List Loc) (ls : Array Slot), va_P (gD G) vwCl (wX6 G h0 a0 u0) H → va_D A (wX6 G h0 a0 u0) → va_S A s.heap H locs → lv_has ls 11 [(0, .ref h0), (1, .long x1), (3, .int x3), (4, .int x4), (5, .long x5), (7, .long x7), (9, .long x9)] → W p l e ({ frames := 9, cells := 0, slots := 0, locals := 224 } : Room) s m ([.ref h0, .long x1, .int x3] : List Value).toArray below meth c H locs 0 0 (MQ below (va_Qi (fun (r : Int32) (v : Ob) => q.1 = r ∧ q.2 = v) (bw G (fun v : Ob => (wX6 G h0 a0 v)) A) A) ([.ref h0, .long x1, .int x3] : List Value).toArray s 0 0 A) (F0 m 210 ls []) := by
    intro x4 x5 x7 x9 u0 hf H locs ls hP hD hS hl
    rw [k_X6_takesPulse_210] at hf
    refine lv_aload_n hx hb dX6_takesPulse_210 rfl (lv_at hl 0 rfl) ?_
    refine va_get (D := gD G) (ci := 4) (v := .ref (a0 0)) (C := RX6) (T := TX6) (N := 22) hx hb hg kl_X6 hown hK hP 0 rfl rfl 0 (by decide) (hg _ kq5_5) (fun _ h9 => h9) rfl dX6_takesPulse_211 ?_
    refine lv_iconst (v := (5 : Int32)) hx hb dX6_takesPulse_214 (by decide) ?_
    refine va_lald (f := (u0.2.2.2 0)) hx hb hK hP 1 2 rfl rfl (vin (by decide)) dX6_takesPulse_215 ?_
    refine lv_ldc2 hx hb hown (hg _ kq5_0) dX6_takesPulse_216 ?_
    refine lc_ne (tgt := 246) hx hb dX6_takesPulse_219 dX6_takesPulse_220 (by decide) (fun c14 => ?_) (fun c14 => ?_)
    · have hf := tn hf c14
      refine lv_lload hx hb dX6_takesPulse_246 (lv_at hl 6 rfl) ?_
      refine lv_aload_n hx hb dX6_takesPulse_248 rfl (lv_at hl 0 rfl) ?_
      refine va_get (D := gD G) (ci := 4) (v := .ref (a0 0)) (C := RX6) (T := TX6) (N := 22) hx hb hg kl_X6 hown hK hP 0 rfl rfl 0 (by decide) (hg _ kq5_5) (fun _ h9 => h9) rfl dX6_takesPulse_249 ?_
      refine lv_bipush (v := (8 : Int32)) hx hb dX6_takesPulse_252 (by decide) ?_
      refine va_lald (f := (u0.2.2.2 0)) hx hb hK hP 1 2 rfl rfl (vin (by decide)) dX6_takesPulse_254 ?_
      refine lc_ge (tgt := 271) hx hb dX6_takesPulse_255 dX6_takesPulse_256 (by decide) (fun c15 => ?_) (fun c15 => ?_)
      · have hf := tp hf c15
        refine lv_aload_n hx hb dX6_takesPulse_271 rfl (lv_at hl 0 rfl) ?_
        refine lv_lload hx hb dX6_takesPulse_272 (lv_at hl 6 rfl) ?_
        refine lv_aload_n hx hb dX6_takesPulse_274 rfl (lv_at hl 0 rfl) ?_
        refine va_get (D := gD G) (ci := 4) (v := .ref (a0 0)) (C := RX6) (T := TX6) (N := 22) hx hb hg kl_X6 hown hK hP 0 rfl rfl 0 (by decide) (hg _ kq5_5) (fun _ h9 => h9) rfl dX6_takesPulse_275 ?_
        refine lv_bipush (v := (8 : Int32)) hx hb dX6_takesPulse_278 (by decide) ?_
        refine va_lald (f := (u0.2.2.2 0)) hx hb hK hP 1 2 rfl rfl (vin (by decide)) dX6_takesPulse_280 ?_
        refine lv_lsub hx hb dX6_takesPulse_281 ?_
        refine lv_l2i (v := (x9 - ((u0.2.2.2 0) (8 : Int32).toNatClampNeg)).toInt32) hx hb dX6_takesPulse_282 rfl ?_
        refine lv_iload hx hb dX6_takesPulse_283 (lv_at hl 3 rfl) ?_
        refine lv_lload_n hx hb dX6_takesPulse_285 rfl (lv_at hl 1 rfl) ?_
        obtain ⟨q16, e17, hf⟩ := tbd hf
        refine kVi1 (As := [.int (x9 - ((u0.2.2.2 0) (8 : Int32).toNatClampNeg)).toInt32, .int x4, .long x1]) (rest := []) hC (c_X6_endsMinute (G := G) e17) kq6_22 kc_X6_endsMinute (by decide) 0 (ci := 4) rfl rfl hP hK hD hE hS hA hl.1 (Nat.le_of_ble_eq_true rfl) ⟨Nat.zero_le _, Nat.zero_le _⟩ dX6_takesPulse_286 (fun r9 u9 H locs hw hP hD hS => ?_)
        obtain ⟨rfl, rfl⟩ := hw
        have hP : va_P (gD G) vwCl (wX6 G h0 a0 q16.2) H := hP
        have hD : va_D A (wX6 G h0 a0 q16.2) := hD
        have hf := Option.some.inj hf
        subst hf
        exact e_i (wf := (fun v : Ob => (wX6 G h0 a0 v))) hx hb hr hlk q16.2 ⟨rfl, rfl⟩ hP hK hD hS dX6_takesPulse_289
      · have hf := tn hf c15
        refine lv_aload_n hx hb dX6_takesPulse_259 rfl (lv_at hl 0 rfl) ?_
        refine lv_lload hx hb dX6_takesPulse_260 (lv_at hl 6 rfl) ?_
        refine lv_l2i (v := x9.toInt32) hx hb dX6_takesPulse_262 rfl ?_
        refine lv_iload hx hb dX6_takesPulse_263 (lv_at hl 3 rfl) ?_
        obtain ⟨q18, e19, hf⟩ := tbd hf
        refine kVi1 (As := [.int x9.toInt32, .int x4]) (rest := []) hC (c_X6_goesTo (G := G) e19) kq6_18 kc_X6_goesTo (by decide) 0 (ci := 4) rfl rfl hP hK hD hE hS hA hl.1 (Nat.le_of_ble_eq_true rfl) ⟨Nat.zero_le _, Nat.zero_le _⟩ dX6_takesPulse_265 (fun r9 u9 H locs hw hP hD hS => ?_)
        obtain ⟨rfl, rfl⟩ := hw
        have hP : va_P (gD G) vwCl (wX6 G h0 a0 q18.2) H := hP
        have hD : va_D A (wX6 G h0 a0 q18.2) := hD
        refine lv_goto (tgt := 289) hx hb dX6_takesPulse_268 (by decide) ?_
        have hf := Option.some.inj hf
        subst hf
        exact e_i (wf := (fun v : Ob => (wX6 G h0 a0 v))) hx hb hr hlk q18.2 ⟨rfl, rfl⟩ hP hK hD hS dX6_takesPulse_289
    · have hf := tp hf c14
      refine lv_lload hx hb dX6_takesPulse_223 (lv_at hl 5 rfl) ?_
      refine lv_ldc2 hx hb hown (hg _ kq6_9) dX6_takesPulse_225 ?_
      refine lc_eq (tgt := 234) hx hb dX6_takesPulse_228 dX6_takesPulse_229 (by decide) (fun c20 => ?_) (fun c20 => ?_)
      · have hf := tp hf c20
        refine lv_aload_n hx hb dX6_takesPulse_234 rfl (lv_at hl 0 rfl) ?_
        refine lv_iconst (v := (0 : Int32)) hx hb dX6_takesPulse_235 (by decide) ?_
        refine lv_iload hx hb dX6_takesPulse_236 (lv_at hl 3 rfl) ?_
        refine lv_ldc2 hx hb hown (hg _ kq5_236) dX6_takesPulse_238 ?_
        obtain ⟨q21, e22, hf⟩ := tbd hf
        refine kVv1 (As := [.int (0 : Int32), .int x4, .long (60 : Int64)]) (rest := []) hC (c_X6_beginsMinute (G := G) e22) kq6_10 kc_X6_beginsMinute (by decide) 0 (ci := 4) rfl rfl hP hK hD hE hS hA hl.1 (Nat.le_of_ble_eq_true rfl) ⟨Nat.zero_le _, Nat.zero_le _⟩ dX6_takesPulse_241 (fun u9 H locs hw hP hD hS => ?_)
        obtain rfl := hw
        have hP : va_P (gD G) vwCl (wX6 G h0 a0 q21) H := hP
        have hD : va_D A (wX6 G h0 a0 q21) := hD
        refine lv_iconst (v := (3 : Int32)) hx hb dX6_takesPulse_244 (by decide) ?_
        have hf := Option.some.inj hf
        subst hf
        exact e_i (wf := (fun v : Ob => (wX6 G h0 a0 v))) hx hb hr hlk q21 ⟨rfl, rfl⟩ hP hK hD hS dX6_takesPulse_245
      · have hf := tn hf c20
        refine lv_iconst (v := (1 : Int32)) hx hb dX6_takesPulse_232 (by decide) ?_
        have hf := Option.some.inj hf
        subst hf
        exact e_i (wf := (fun v : Ob => (wX6 G h0 a0 v))) hx hb hr hlk u0 ⟨rfl, rfl⟩ hP hK hD hS dX6_takesPulse_233
  have jn_148 : ∀ (x4 : Int32) (x5 : Int64) (x7 : Int64) (u0 : Ob), k_X6_takesPulse_148 N x1 x3 x4 x5 x7 u0 = some q → ∀ (H : Heap) (locs : List Loc) (ls : Array Slot), va_P (gD G) vwCl (wX6 G h0 a0 u0) H → va_D A (wX6 G h0 a0 u0) → va_S A s.heap H locs → lv_has ls 11 [(0, .ref h0), (1, .long x1), (3, .int x3), (4, .int x4), (5, .long x5), (7, .long x7)] → W p l e ({ frames := 9, cells := 0, slots := 0, locals := 224 } : Room) s m ([.ref h0, .long x1, .int x3] : List Value).toArray below meth c H locs 0 0 (MQ below (va_Qi (fun (r : Int32) (v : Ob) => q.1 = r ∧ q.2 = v) (bw G (fun v : Ob => (wX6 G h0 a0 v)) A) A) ([.ref h0, .long x1, .int x3] : List Value).toArray s 0 0 A) (F0 m 148 ls []) := by
    intro x4 x5 x7 u0 hf H locs ls hP hD hS hl
    rw [k_X6_takesPulse_148] at hf
    refine lv_aload_n hx hb dX6_takesPulse_148 rfl (lv_at hl 0 rfl) ?_
    refine va_get (D := gD G) (ci := 4) (v := .ref (a0 0)) (C := RX6) (T := TX6) (N := 22) hx hb hg kl_X6 hown hK hP 0 rfl rfl 0 (by decide) (hg _ kq5_5) (fun _ h9 => h9) rfl dX6_takesPulse_149 ?_
    refine lv_bipush (v := (6 : Int32)) hx hb dX6_takesPulse_152 (by decide) ?_
    refine lv_lload_n hx hb dX6_takesPulse_154 rfl (lv_at hl 1 rfl) ?_
    refine va_last (f := (u0.2.2.2 0)) hx hb hK hP hD hS 1 2 rfl rfl (vin (by decide)) dX6_takesPulse_155 (fun H locs hP hD hS => ?_)
    have hP : va_P (gD G) vwCl (wX6 G h0 a0 (oj u0 0 (vp_updL (u0.2.2.2 0) (6 : Int32).toNatClampNeg x1))) H := hP
    have hD : va_D A (wX6 G h0 a0 (oj u0 0 (vp_updL (u0.2.2.2 0) (6 : Int32).toNatClampNeg x1))) := hD
    refine lv_aload_n hx hb dX6_takesPulse_156 rfl (lv_at hl 0 rfl) ?_
    refine va_get (D := gD G) (ci := 4) (v := .ref (a0 0)) (C := RX6) (T := TX6) (N := 22) hx hb hg kl_X6 hown hK hP 0 rfl rfl 0 (by decide) (hg _ kq5_5) (fun _ h9 => h9) rfl dX6_takesPulse_157 ?_
    refine lv_iconst (v := (5 : Int32)) hx hb dX6_takesPulse_160 (by decide) ?_
    refine va_lald (f := (vp_updL (u0.2.2.2 0) (6 : Int32).toNatClampNeg x1)) hx hb hK hP 1 2 rfl rfl (vin (by decide)) dX6_takesPulse_161 ?_
    refine lv_lload hx hb dX6_takesPulse_162 (lv_at hl 5 rfl) ?_
    refine lv_ladd hx hb dX6_takesPulse_164 ?_
    refine lv_lstore (lv' := [(9, .long (((vp_updL (u0.2.2.2 0) (6 : Int32).toNatClampNeg x1) (5 : Int32).toNatClampNeg) + x7)), (0, .ref h0), (1, .long x1), (3, .int x3), (4, .int x4), (5, .long x5), (7, .long x7)]) hx hb dX6_takesPulse_165 hl (by decide) rfl (fun ls hl => ?_)
    refine lv_lload hx hb dX6_takesPulse_167 (lv_at hl 6 rfl) ?_
    refine lv_ldc2 hx hb hown (hg _ kq5_175) dX6_takesPulse_169 ?_
    refine lc_gt (tgt := 204) hx hb dX6_takesPulse_172 dX6_takesPulse_173 (by decide) (fun c10 => ?_) (fun c10 => ?_)
    · have hf := tp hf c10
      refine lv_aload_n hx hb dX6_takesPulse_204 rfl (lv_at hl 1 rfl) ?_
      obtain ⟨q11, e12, hf⟩ := tbd hf
      refine kVv1 (As := []) (rest := []) hC (c_X6_forgets (G := G) e12) kq6_5 kc_X6_forgets (by decide) 0 (ci := 4) rfl rfl hP hK hD hE hS hA hl.1 (Nat.le_of_ble_eq_true rfl) ⟨Nat.zero_le _, Nat.zero_le _⟩ dX6_takesPulse_205 (fun u9 H locs hw hP hD hS => ?_)
      obtain rfl := hw
      have hP : va_P (gD G) vwCl (wX6 G h0 a0 q11) H := hP
      have hD : va_D A (wX6 G h0 a0 q11) := hD
      refine lv_iconst (v := (4 : Int32)) hx hb dX6_takesPulse_208 (by decide) ?_
      have hf := Option.some.inj hf
      subst hf
      exact e_i (wf := (fun v : Ob => (wX6 G h0 a0 v))) hx hb hr hlk q11 ⟨rfl, rfl⟩ hP hK hD hS dX6_takesPulse_209
    · have hf := tn hf c10
      refine lv_aload_n hx hb dX6_takesPulse_176 rfl (lv_at hl 1 rfl) ?_
      refine va_get (D := gD G) (ci := 4) (v := .ref (a0 0)) (C := RX6) (T := TX6) (N := 22) hx hb hg kl_X6 hown hK hP 0 rfl rfl 0 (by decide) (hg _ kq5_5) (fun _ h9 => h9) rfl dX6_takesPulse_177 ?_
      refine lv_iconst (v := (5 : Int32)) hx hb dX6_takesPulse_180 (by decide) ?_
      refine va_lald (f := (vp_updL (u0.2.2.2 0) (6 : Int32).toNatClampNeg x1)) hx hb hK hP 1 2 rfl rfl (vin (by decide)) dX6_takesPulse_181 ?_
      refine lv_ldc2 hx hb hown (hg _ kq5_0) dX6_takesPulse_182 ?_
      refine lc_eq (tgt := 210) hx hb dX6_takesPulse_185 dX6_takesPulse_186 (by decide) (fun c13 => ?_) (fun c13 => ?_)
      · have hf := tp hf c13
        exact jn_210 _ _ _ _ _ hf _ _ _ hP hD hS (lv_sub hl [1, 2, 3, 4, 5, 6, 0] rfl)
      · have hf := tn hf c13
        refine lv_lload hx hb dX6_takesPulse_189 (lv_at hl 0 rfl) ?_
        refine lv_aload_n hx hb dX6_takesPulse_191 rfl (lv_at hl 1 rfl) ?_
        refine va_get (D := gD G) (ci := 4) (v := .ref (a0 0)) (C := RX6) (T := TX6) (N := 22) hx hb hg kl_X6 hown hK hP 0 rfl rfl 0 (by decide) (hg _ kq5_5) (fun _ h9 => h9) rfl dX6_takesPulse_192 ?_
        refine lv_bipush (v := (8 : Int32)) hx hb dX6_takesPulse_195 (by decide) ?_
        refine va_lald (f := (vp_updL (u0.2.2.2 0) (6 : Int32).toNatClampNeg x1)) hx hb hK hP 1 2 rfl rfl (vin (by decide)) dX6_takesPulse_197 ?_
        refine lv_lconst (v := (1 : Int64)) hx hb dX6_takesPulse_198 (by decide) ?_
        refine lv_lsub hx hb dX6_takesPulse_199 ?_
        refine lc_ne (tgt := 210) hx hb dX6_takesPulse_200 dX6_takesPulse_201 (by decide) (fun c23 => ?_) (fun c23 => ?_)
        · have hf := tn hf c23
          exact jn_210 _ _ _ _ _ hf _ _ _ hP hD hS (lv_sub hl [1, 2, 3, 4, 5, 6, 0] rfl)
        · have hf := tp hf c23
          refine lv_aload_n hx hb dX6_takesPulse_204 rfl (lv_at hl 1 rfl) ?_
          obtain ⟨q24, e25, hf⟩ := tbd hf
          refine kVv1 (As := []) (rest := []) hC (c_X6_forgets (G := G) e25) kq6_5 kc_X6_forgets (by decide) 0 (ci := 4) rfl rfl hP hK hD hE hS hA hl.1 (Nat.le_of_ble_eq_true rfl) ⟨Nat.zero_le _, Nat.zero_le _⟩ dX6_takesPulse_205 (fun u9 H locs hw hP hD hS => ?_)
          obtain rfl := hw
          have hP : va_P (gD G) vwCl (wX6 G h0 a0 q24) H := hP
          have hD : va_D A (wX6 G h0 a0 q24) := hD
          refine lv_iconst (v := (4 : Int32)) hx hb dX6_takesPulse_208 (by decide) ?_
          have hf := Option.some.inj hf
          subst hf
          exact e_i (wf := (fun v : Ob => (wX6 G h0 a0 v))) hx hb hr hlk q24 ⟨rfl, rfl⟩ hP hK hD hS dX6_takesPulse_209
  have jn_56 : ∀ (s0 : Int32) (u0 : Ob), k_X6_takesPulse_56 N x1 x3 s0 u0 = some q → ∀ (H : Heap) (locs : List Loc) (ls : Array Slot), va_P (gD G) vwCl (wX6 G h0 a0 u0) H → va_D A (wX6 G h0 a0 u0) → va_S A s.heap H locs → lv_has ls 11 [(0, .ref h0), (1, .long x1), (3, .int x3)] → W p l e ({ frames := 9, cells := 0, slots := 0, locals := 224 } : Room) s m ([.ref h0, .long x1, .int x3] : List Value).toArray below meth c H locs 0 0 (MQ below (va_Qi (fun (r : Int32) (v : Ob) => q.1 = r ∧ q.2 = v) (bw G (fun v : Ob => (wX6 G h0 a0 v)) A) A) ([.ref h0, .long x1, .int x3] : List Value).toArray s 0 0 A) (F0 m 56 ls [.int s0]) := by
    intro s0 u0 hf H locs ls hP hD hS hl
    rw [k_X6_takesPulse_56] at hf
    refine lv_istore (lv' := [(4, .int s0), (0, .ref h0), (1, .long x1), (3, .int x3)]) hx hb dX6_takesPulse_56 hl (by decide) rfl (fun ls hl => ?_)
    refine lv_aload_n hx hb dX6_takesPulse_58 rfl (lv_at hl 1 rfl) ?_
    refine va_get (D := gD G) (ci := 4) (v := .ref (a0 0)) (C := RX6) (T := TX6) (N := 22) hx hb hg kl_X6 hown hK hP 0 rfl rfl 0 (by decide) (hg _ kq5_5) (fun _ h9 => h9) rfl dX6_takesPulse_59 ?_
    refine lv_bipush (v := (6 : Int32)) hx hb dX6_takesPulse_62 (by decide) ?_
    refine va_lald (f := (u0.2.2.2 0)) hx hb hK hP 1 2 rfl rfl (vin (by decide)) dX6_takesPulse_64 ?_
    refine lv_ldc2 hx hb hown (hg _ kq5_0) dX6_takesPulse_65 ?_
    refine lc_ne (tgt := 82) hx hb dX6_takesPulse_68 dX6_takesPulse_69 (by decide) (fun c8 => ?_) (fun c8 => ?_)
    · have hf := tn hf c8
      refine lv_lload_n hx hb dX6_takesPulse_82 rfl (lv_at hl 2 rfl) ?_
      refine lv_aload_n hx hb dX6_takesPulse_83 rfl (lv_at hl 1 rfl) ?_
      refine va_get (D := gD G) (ci := 4) (v := .ref (a0 0)) (C := RX6) (T := TX6) (N := 22) hx hb hg kl_X6 hown hK hP 0 rfl rfl 0 (by decide) (hg _ kq5_5) (fun _ h9 => h9) rfl dX6_takesPulse_84 ?_
      refine lv_bipush (v := (6 : Int32)) hx hb dX6_takesPulse_87 (by decide) ?_
      refine va_lald (f := (u0.2.2.2 0)) hx hb hK hP 1 2 rfl rfl (vin (by decide)) dX6_takesPulse_89 ?_
      refine lv_lsub hx hb dX6_takesPulse_90 ?_
      refine lv_lstore (lv' := [(5, .long (x1 - ((u0.2.2.2 0) (6 : Int32).toNatClampNeg))), (4, .int s0), (0, .ref h0), (1, .long x1), (3, .int x3)]) hx hb dX6_takesPulse_91 hl (by decide) rfl (fun ls hl => ?_)
      refine lv_lload hx hb dX6_takesPulse_93 (lv_at hl 0 rfl) ?_
      refine lv_ldc2 hx hb hown (hg _ kq6_0) dX6_takesPulse_95 ?_
      refine lv_ladd hx hb dX6_takesPulse_98 ?_
      refine lv_ldc2 hx hb hown (hg _ kq6_1) dX6_takesPulse_99 ?_
      refine lv_ldiv hx hb dX6_takesPulse_102 (by decide) ?_
      refine lv_lstore (lv' := [(7, .long (((x1 - ((u0.2.2.2 0) (6 : Int32).toNatClampNeg)) + (500 : Int64)) / (1000 : Int64))), (5, .long (x1 - ((u0.2.2.2 0) (6 : Int32).toNatClampNeg))), (4, .int s0), (0, .ref h0), (1, .long x1), (3, .int x3)]) hx hb dX6_takesPulse_103 hl (by decide) rfl (fun ls hl => ?_)
      refine lv_lload hx hb dX6_takesPulse_105 (lv_at hl 0 rfl) ?_
      refine lv_ldc2 hx hb hown (hg _ kq5_175) dX6_takesPulse_107 ?_
      refine lc_gt (tgt := 148) hx hb dX6_takesPulse_110 dX6_takesPulse_111 (by decide) (fun c9 => ?_) (fun c9 => ?_)
      · have hf := tp hf c9
        exact jn_148 _ _ _ _ hf _ _ _ hP hD hS (lv_sub hl [3, 4, 5, 2, 1, 0] rfl)
      · have hf := tn hf c9
        refine lv_lload hx hb dX6_takesPulse_114 (lv_at hl 0 rfl) ?_
        refine lv_lconst (v := (1 : Int64)) hx hb dX6_takesPulse_116 (by decide) ?_
        refine lc_lt (tgt := 143) hx hb dX6_takesPulse_117 dX6_takesPulse_118 (by decide) (fun c26 => ?_) (fun c26 => ?_)
        · have hf := tp hf c26
          refine lv_aload_n hx hb dX6_takesPulse_143 rfl (lv_at hl 3 rfl) ?_
          obtain ⟨q27, e28, hf⟩ := tbd hf
          refine kVi1 (As := []) (rest := []) hC (c_X6_ignores (G := G) e28) kq5_232 kc_X6_ignores (by decide) 0 (ci := 4) rfl rfl hP hK hD hE hS hA hl.1 (Nat.le_of_ble_eq_true rfl) ⟨Nat.zero_le _, Nat.zero_le _⟩ dX6_takesPulse_144 (fun r9 u9 H locs hw hP hD hS => ?_)
          obtain ⟨rfl, rfl⟩ := hw
          have hP : va_P (gD G) vwCl (wX6 G h0 a0 q27.2) H := hP
          have hD : va_D A (wX6 G h0 a0 q27.2) := hD
          have hf := Option.some.inj hf
          subst hf
          exact e_i (wf := (fun v : Ob => (wX6 G h0 a0 v))) hx hb hr hlk q27.2 ⟨rfl, rfl⟩ hP hK hD hS dX6_takesPulse_147
        · have hf := tn hf c26
          refine lv_lload hx hb dX6_takesPulse_121 (lv_at hl 1 rfl) ?_
          refine lv_ldc2 hx hb hown (hg _ kq6_1) dX6_takesPulse_123 ?_
          refine lv_lload hx hb dX6_takesPulse_126 (lv_at hl 0 rfl) ?_
          refine lv_lmul hx hb dX6_takesPulse_128 ?_
          refine lv_lsub hx hb dX6_takesPulse_129 ?_
          obtain ⟨q29, e30, hf⟩ := tbd hf
          refine kSl0 (As := [.long ((x1 - ((u0.2.2.2 0) (6 : Int32).toNatClampNeg)) - ((1000 : Int64) * (((x1 - ((u0.2.2.2 0) (6 : Int32).toNatClampNeg)) + (500 : Int64)) / (1000 : Int64))))]) (rest := []) hC (c_X6_sizeOf (G := G) e30) kq6_2 kc_X6_sizeOf (by decide) hP hK hD hE hS hA hl.1 (Nat.le_of_ble_eq_true rfl) ⟨Nat.zero_le _, Nat.zero_le _⟩ dX6_takesPulse_130 (fun r9 u9 H locs hw hP hD hS => ?_)
          obtain ⟨rfl, rfl⟩ := hw
          refine lv_aload_n hx hb dX6_takesPulse_133 rfl (lv_at hl 3 rfl) ?_
          refine va_get (D := gD G) (ci := 4) (v := .ref (a0 0)) (C := RX6) (T := TX6) (N := 22) hx hb hg kl_X6 hown hK hP 0 rfl rfl 0 (by decide) (hg _ kq5_5) (fun _ h9 => h9) rfl dX6_takesPulse_134 ?_
          refine lv_iconst (v := (0 : Int32)) hx hb dX6_takesPulse_137 (by decide) ?_
          refine va_lald (f := (u0.2.2.2 0)) hx hb hK hP 1 2 rfl rfl (vin (by decide)) dX6_takesPulse_138 ?_
          refine lc_le (tgt := 148) hx hb dX6_takesPulse_139 dX6_takesPulse_140 (by decide) (fun c31 => ?_) (fun c31 => ?_)
          · have hf := tp hf c31
            exact jn_148 _ _ _ _ hf _ _ _ hP hD hS (lv_sub hl [3, 4, 5, 2, 1, 0] rfl)
          · have hf := tn hf c31
            refine lv_aload_n hx hb dX6_takesPulse_143 rfl (lv_at hl 3 rfl) ?_
            obtain ⟨q32, e33, hf⟩ := tbd hf
            refine kVi1 (As := []) (rest := []) hC (c_X6_ignores (G := G) e33) kq5_232 kc_X6_ignores (by decide) 0 (ci := 4) rfl rfl hP hK hD hE hS hA hl.1 (Nat.le_of_ble_eq_true rfl) ⟨Nat.zero_le _, Nat.zero_le _⟩ dX6_takesPulse_144 (fun r9 u9 H locs hw hP hD hS => ?_)
            obtain ⟨rfl, rfl⟩ := hw
            have hP : va_P (gD G) vwCl (wX6 G h0 a0 q32.2) H := hP
            have hD : va_D A (wX6 G h0 a0 q32.2) := hD
            have hf := Option.some.inj hf
            subst hf
            exact e_i (wf := (fun v : Ob => (wX6 G h0 a0 v))) hx hb hr hlk q32.2 ⟨rfl, rfl⟩ hP hK hD hS dX6_takesPulse_147
    · have hf := tp hf c8
      refine lv_aload_n hx hb dX6_takesPulse_72 rfl (lv_at hl 1 rfl) ?_
      refine va_get (D := gD G) (ci := 4) (v := .ref (a0 0)) (C := RX6) (T := TX6) (N := 22) hx hb hg kl_X6 hown hK hP 0 rfl rfl 0 (by decide) (hg _ kq5_5) (fun _ h9 => h9) rfl dX6_takesPulse_73 ?_
      refine lv_bipush (v := (6 : Int32)) hx hb dX6_takesPulse_76 (by decide) ?_
      refine lv_lload_n hx hb dX6_takesPulse_78 rfl (lv_at hl 2 rfl) ?_
      refine va_last (f := (u0.2.2.2 0)) hx hb hK hP hD hS 1 2 rfl rfl (vin (by decide)) dX6_takesPulse_79 (fun H locs hP hD hS => ?_)
      have hP : va_P (gD G) vwCl (wX6 G h0 a0 (oj u0 0 (vp_updL (u0.2.2.2 0) (6 : Int32).toNatClampNeg x1))) H := hP
      have hD : va_D A (wX6 G h0 a0 (oj u0 0 (vp_updL (u0.2.2.2 0) (6 : Int32).toNatClampNeg x1))) := hD
      refine lv_iconst (v := (1 : Int32)) hx hb dX6_takesPulse_80 (by decide) ?_
      have hf := Option.some.inj hf
      subst hf
      exact e_i (wf := (fun v : Ob => (wX6 G h0 a0 v))) hx hb hr hlk (oj u0 0 (vp_updL (u0.2.2.2 0) (6 : Int32).toNatClampNeg x1)) ⟨rfl, rfl⟩ hP hK hD hS dX6_takesPulse_81
  rw [f_X6_takesPulse] at hf
  refine lv_aload_n hx hb dX6_takesPulse_0 rfl (lv_at hl 0 rfl) ?_
  refine va_get (D := gD G) (ci := 4) (v := .ref (a0 0)) (C := RX6) (T := TX6) (N := 22) hx hb hg kl_X6 hown hK hP 0 rfl rfl 0 (by decide) (hg _ kq5_5) (fun _ h9 => h9) rfl dX6_takesPulse_1 ?_
  refine lv_bipush (v := (7 : Int32)) hx hb dX6_takesPulse_4 (by decide) ?_
  refine lv_lload_n hx hb dX6_takesPulse_6 rfl (lv_at hl 1 rfl) ?_
  refine va_last (f := (u0.2.2.2 0)) hx hb hK hP hD hS 1 2 rfl rfl (vin (by decide)) dX6_takesPulse_7 (fun H locs hP hD hS => ?_)
  have hP : va_P (gD G) vwCl (wX6 G h0 a0 (oj u0 0 (vp_updL (u0.2.2.2 0) (7 : Int32).toNatClampNeg x1))) H := hP
  have hD : va_D A (wX6 G h0 a0 (oj u0 0 (vp_updL (u0.2.2.2 0) (7 : Int32).toNatClampNeg x1))) := hD
  refine lv_iload_n hx hb dX6_takesPulse_8 rfl (lv_at hl 2 rfl) ?_
  refine lv_bipush (v := (30 : Int32)) hx hb dX6_takesPulse_9 (by decide) ?_
  refine lv_icmp_ge (tgt := 19) hx hb dX6_takesPulse_11 (by decide) (fun c1 => ?_) (fun c1 => ?_)
  · have hf := tp hf c1
    refine lv_iload_n hx hb dX6_takesPulse_19 rfl (lv_at hl 2 rfl) ?_
    refine lv_i2l (v := x3.toInt64) hx hb dX6_takesPulse_20 rfl ?_
    refine lv_ldc2 hx hb hown (hg _ kq5_236) dX6_takesPulse_21 ?_
    refine lv_ldc2 hx hb hown (hg _ kq5_237) dX6_takesPulse_24 ?_
    obtain ⟨q2, e3, hf⟩ := tbd hf
    refine kSi0 (As := [.long x3.toInt64, .long (60 : Int64), .long (140 : Int64)]) (rest := []) hC (c_X6_isIn (G := G) e3) kq5_84 kc_X6_isIn (by decide) hP hK hD hE hS hA hl.1 (Nat.le_of_ble_eq_true rfl) ⟨Nat.zero_le _, Nat.zero_le _⟩ dX6_takesPulse_27 (fun r9 u9 H locs hw hP hD hS => ?_)
    obtain ⟨rfl, rfl⟩ := hw
    refine bz_eq (tgt := 37) hx hb dX6_takesPulse_30 (by decide) (fun c4 => ?_) (fun c4 => ?_)
    · have hf := tn hf c4
      refine lv_iload_n hx hb dX6_takesPulse_37 rfl (lv_at hl 2 rfl) ?_
      refine lv_i2l (v := x3.toInt64) hx hb dX6_takesPulse_38 rfl ?_
      refine lv_ldc2 hx hb hown (hg _ kq5_238) dX6_takesPulse_39 ?_
      refine lv_ldc2 hx hb hown (hg _ kq5_239) dX6_takesPulse_42 ?_
      obtain ⟨q5, e6, hf⟩ := tbd hf
      refine kSi0 (As := [.long x3.toInt64, .long (160 : Int64), .long (240 : Int64)]) (rest := []) hC (c_X6_isIn (G := G) e6) kq5_84 kc_X6_isIn (by decide) hP hK hD hE hS hA hl.1 (Nat.le_of_ble_eq_true rfl) ⟨Nat.zero_le _, Nat.zero_le _⟩ dX6_takesPulse_45 (fun r9 u9 H locs hw hP hD hS => ?_)
      obtain ⟨rfl, rfl⟩ := hw
      refine bz_eq (tgt := 55) hx hb dX6_takesPulse_48 (by decide) (fun c7 => ?_) (fun c7 => ?_)
      · have hf := tn hf c7
        refine lv_iconst (v := (2 : Int32)) hx hb dX6_takesPulse_55 (by decide) ?_
        exact jn_56 _ _ hf _ _ _ hP hD hS (lv_sub hl [0, 1, 2] rfl)
      · have hf := tp hf c7
        refine lv_iconst (v := (1 : Int32)) hx hb dX6_takesPulse_51 (by decide) ?_
        refine lv_goto (tgt := 56) hx hb dX6_takesPulse_52 (by decide) ?_
        exact jn_56 _ _ hf _ _ _ hP hD hS (lv_sub hl [0, 1, 2] rfl)
    · have hf := tp hf c4
      refine lv_iconst (v := (0 : Int32)) hx hb dX6_takesPulse_33 (by decide) ?_
      refine lv_goto (tgt := 56) hx hb dX6_takesPulse_34 (by decide) ?_
      exact jn_56 _ _ hf _ _ _ hP hD hS (lv_sub hl [0, 1, 2] rfl)
  · have hf := tn hf c1
    refine lv_aload_n hx hb dX6_takesPulse_14 rfl (lv_at hl 0 rfl) ?_
    obtain ⟨q34, e35, hf⟩ := tbd hf
    refine kVi1 (As := []) (rest := []) hC (c_X6_ignores (G := G) e35) kq5_232 kc_X6_ignores (by decide) 0 (ci := 4) rfl rfl hP hK hD hE hS hA hl.1 (Nat.le_of_ble_eq_true rfl) ⟨Nat.zero_le _, Nat.zero_le _⟩ dX6_takesPulse_15 (fun r9 u9 H locs hw hP hD hS => ?_)
    obtain ⟨rfl, rfl⟩ := hw
    have hP : va_P (gD G) vwCl (wX6 G h0 a0 q34.2) H := hP
    have hD : va_D A (wX6 G h0 a0 q34.2) := hD
    have hf := Option.some.inj hf
    subst hf
    exact e_i (wf := (fun v : Ob => (wX6 G h0 a0 v))) hx hb hr hlk q34.2 ⟨rfl, rfl⟩ hP hK hD hS dX6_takesPulse_18
set_option maxRecDepth 100000 in
set_option maxHeartbeats 4000000 in
theorem c_X6_readsPulse {l : Launch} {G : Gp} {sz N : Nat} {h0 : Nat} {a0 : Nat → Nat} {u0 : Ob} {q : Ob} (hf : f_X6_readsPulse N u0 = some q) : Met l yX6_readsPulse (Cond.code yX6_readsPulse cX6_readsPulse 3 none :: lw_g) ({ frames := 10, cells := 0, slots := 0, locals := 254 } : Room) (va_Pc [.ref h0] (pw G (wX6 G h0 a0 u0) sz)) (va_Qv (fun v : Ob => q = v) (bw G (fun v : Ob => (wX6 G h0 a0 v)) (va_A (wX6 G h0 a0 u0) sz)) (va_A (wX6 G h0 a0 u0) sz)) 0 0 (va_A (wX6 G h0 a0 u0) sz) := by
  refine mt (Qc := (fun A => va_Qv (fun v : Ob => q = v) (bw G (fun v : Ob => (wX6 G h0 a0 v)) A) A)) (by decide) (Nat.le_of_ble_eq_true rfl) ?_
  intro p e s m below meth c A ls hx hb hr hlk hml hts hown hA hP hK hD hE hS hl
  have hown : s.vm.findClass RX6 = some m.cls := hown
  have hg : ∀ w ∈ lw_g, w.before ([.ref h0] : List Value).toArray s = true := fun w h => hts w (List.mem_cons_of_mem _ h)
  have hC : CallFix p m c cX6_readsPulse 3 s ([.ref h0] : List Value).toArray (Cond.code yX6_readsPulse cX6_readsPulse 3 none :: lw_g) RX6 := ⟨hx, hb, hml, hown, hts⟩
  have hl : lv_has ls 3 [(0, .ref h0)] := hl
  rw [f_X6_readsPulse] at hf
  refine lv_aload_n hx hb dX6_readsPulse_0 rfl (lv_at hl 0 rfl) ?_
  refine lv_iconst (v := (1 : Int32)) hx hb dX6_readsPulse_1 (by decide) ?_
  obtain ⟨q1, e2, hf⟩ := tbd hf
  refine kVv1 (As := [.int (bI true)]) (rest := []) hC (c_X6_must (G := G) e2) kq5_199 kc_X6_must (by decide) 0 (ci := 4) rfl rfl hP hK hD hE hS hA hl.1 (Nat.le_of_ble_eq_true rfl) ⟨Nat.zero_le _, Nat.zero_le _⟩ dX6_readsPulse_2 (fun u9 H locs hw hP hD hS => ?_)
  obtain rfl := hw
  have hP : va_P (gD G) vwCl (wX6 G h0 a0 q1) H := hP
  have hD : va_D A (wX6 G h0 a0 q1) := hD
  refine lv_aload_n hx hb dX6_readsPulse_5 rfl (lv_at hl 0 rfl) ?_
  refine lv_aload_n hx hb dX6_readsPulse_6 rfl (lv_at hl 0 rfl) ?_
  refine va_get (D := gD G) (ci := 4) (v := .ref (a0 0)) (C := RX6) (T := TX6) (N := 22) hx hb hg kl_X6 hown hK hP 0 rfl rfl 0 (by decide) (hg _ kq5_5) (fun _ h9 => h9) rfl dX6_readsPulse_7 ?_
  refine lv_bipush (v := (7 : Int32)) hx hb dX6_readsPulse_10 (by decide) ?_
  refine va_lald (f := (q1.2.2.2 0)) hx hb hK hP 1 2 rfl rfl (vin (by decide)) dX6_readsPulse_12 ?_
  refine lv_lconst (v := (1 : Int64)) hx hb dX6_readsPulse_13 (by decide) ?_
  refine lv_ladd hx hb dX6_readsPulse_14 ?_
  refine lv_ldc2 hx hb hown (hg _ kq5_226) dX6_readsPulse_15 ?_
  obtain ⟨q3, e4, hf⟩ := tbd hf
  refine kVi1 (As := [.long (((q1.2.2.2 0) (7 : Int32).toNatClampNeg) + (1 : Int64)), .long (2000000000 : Int64)]) (rest := []) hC (c_X6_takes (G := G) e4) kq5_213 kc_X6_takes (by decide) 0 (ci := 4) rfl rfl hP hK hD hE hS hA hl.1 (Nat.le_of_ble_eq_true rfl) ⟨Nat.zero_le _, Nat.zero_le _⟩ dX6_readsPulse_18 (fun r9 u9 H locs hw hP hD hS => ?_)
  obtain ⟨rfl, rfl⟩ := hw
  have hP : va_P (gD G) vwCl (wX6 G h0 a0 q3.2) H := hP
  have hD : va_D A (wX6 G h0 a0 q3.2) := hD
  refine lv_istore_n (lv' := [(1, .int q3.1), (0, .ref h0)]) hx hb dX6_readsPulse_21 rfl hl (by decide) rfl (fun ls hl => ?_)
  refine lv_aload_n hx hb dX6_readsPulse_22 rfl (lv_at hl 1 rfl) ?_
  refine lv_lconst (v := (0 : Int64)) hx hb dX6_readsPulse_23 (by decide) ?_
  refine lv_ldc2 hx hb hown (hg _ kq5_227) dX6_readsPulse_24 ?_
  obtain ⟨q5, e6, hf⟩ := tbd hf
  refine kVi1 (As := [.long (0 : Int64), .long (9999 : Int64)]) (rest := []) hC (c_X6_takes (G := G) e6) kq5_213 kc_X6_takes (by decide) 0 (ci := 4) rfl rfl hP hK hD hE hS hA hl.1 (Nat.le_of_ble_eq_true rfl) ⟨Nat.zero_le _, Nat.zero_le _⟩ dX6_readsPulse_27 (fun r9 u9 H locs hw hP hD hS => ?_)
  obtain ⟨rfl, rfl⟩ := hw
  have hP : va_P (gD G) vwCl (wX6 G h0 a0 q5.2) H := hP
  have hD : va_D A (wX6 G h0 a0 q5.2) := hD
  refine lv_istore_n (lv' := [(2, .int q5.1), (1, .int q3.1), (0, .ref h0)]) hx hb dX6_readsPulse_30 rfl hl (by decide) rfl (fun ls hl => ?_)
  refine lv_aload_n hx hb dX6_readsPulse_31 rfl (lv_at hl 2 rfl) ?_
  refine va_get (D := gD G) (ci := 4) (v := .int (q5.2.1 15)) (C := RX6) (T := TX6) (N := 22) hx hb hg kl_X6 hown hK hP 0 rfl rfl 15 (by decide) (hg _ kq5_20) (fun _ h9 => h9) rfl dX6_readsPulse_32 ?_
  refine lv_if_ne (tgt := 46) hx hb dX6_readsPulse_35 (by decide) (fun c7 => ?_) (fun c7 => ?_)
  · have hf := tn hf c7
    have hf := Option.some.inj hf
    subst hf
    exact e_v (wf := (fun v : Ob => (wX6 G h0 a0 v))) hx hb hr hlk q5.2 rfl hP hK hD hS dX6_readsPulse_46
  · have hf := tp hf c7
    refine lv_aload_n hx hb dX6_readsPulse_38 rfl (lv_at hl 2 rfl) ?_
    refine lv_iload_n hx hb dX6_readsPulse_39 rfl (lv_at hl 1 rfl) ?_
    refine lv_i2l (v := q3.1.toInt64) hx hb dX6_readsPulse_40 rfl ?_
    refine lv_iload_n hx hb dX6_readsPulse_41 rfl (lv_at hl 0 rfl) ?_
    obtain ⟨q8, e9, hf⟩ := tbd hf
    refine kVi1 (As := [.long q3.1.toInt64, .int q5.1]) (rest := []) hC (c_X6_takesPulse (G := G) e9) kq5_228 kc_X6_takesPulse (by decide) 0 (ci := 4) rfl rfl hP hK hD hE hS hA hl.1 (Nat.le_of_ble_eq_true rfl) ⟨Nat.zero_le _, Nat.zero_le _⟩ dX6_readsPulse_42 (fun r9 u9 H locs hw hP hD hS => ?_)
    obtain ⟨rfl, rfl⟩ := hw
    have hP : va_P (gD G) vwCl (wX6 G h0 a0 q8.2) H := hP
    have hD : va_D A (wX6 G h0 a0 q8.2) := hD
    refine lv_pop hx hb dX6_readsPulse_45 rfl ?_
    have hf := Option.some.inj hf
    subst hf
    exact e_v (wf := (fun v : Ob => (wX6 G h0 a0 v))) hx hb hr hlk q8.2 rfl hP hK hD hS dX6_readsPulse_46
set_option maxRecDepth 100000 in
set_option maxHeartbeats 4000000 in
theorem c_X6_beginOfHearing {l : Launch} {G : Gp} {sz N : Nat} {h0 : Nat} {a0 : Nat → Nat} {u0 : Ob} {q : Int64} (hf : f_X6_beginOfHearing N u0 = some q) : Met l yX6_beginOfHearing (Cond.code yX6_beginOfHearing cX6_beginOfHearing 1 (some .long) :: lw_g) ({ frames := 0, cells := 0, slots := 0, locals := 0 } : Room) (va_Pc [.ref h0] (pw G (wX6 G h0 a0 u0) sz)) (va_Ql (fun (r : Int64) (v : Ob) => q = r ∧ u0 = v) (bw G (fun v : Ob => (wX6 G h0 a0 v)) (va_A (wX6 G h0 a0 u0) sz)) (va_A (wX6 G h0 a0 u0) sz)) 0 0 (va_A (wX6 G h0 a0 u0) sz) := by
  refine mt (Qc := (fun A => va_Ql (fun (r : Int64) (v : Ob) => q = r ∧ u0 = v) (bw G (fun v : Ob => (wX6 G h0 a0 v)) A) A)) (by decide) (Nat.le_of_ble_eq_true rfl) ?_
  intro p e s m below meth c A ls hx hb hr hlk hml hts hown hA hP hK hD hE hS hl
  have hown : s.vm.findClass RX6 = some m.cls := hown
  have hg : ∀ w ∈ lw_g, w.before ([.ref h0] : List Value).toArray s = true := fun w h => hts w (List.mem_cons_of_mem _ h)
  have hC : CallFix p m c cX6_beginOfHearing 1 s ([.ref h0] : List Value).toArray (Cond.code yX6_beginOfHearing cX6_beginOfHearing 1 (some .long) :: lw_g) RX6 := ⟨hx, hb, hml, hown, hts⟩
  have hl : lv_has ls 1 [(0, .ref h0)] := hl
  rw [f_X6_beginOfHearing] at hf
  refine lv_aload_n hx hb dX6_beginOfHearing_0 rfl (lv_at hl 0 rfl) ?_
  refine va_get (D := gD G) (ci := 4) (v := .ref (a0 0)) (C := RX6) (T := TX6) (N := 22) hx hb hg kl_X6 hown hK hP 0 rfl rfl 0 (by decide) (hg _ kq5_5) (fun _ h9 => h9) rfl dX6_beginOfHearing_1 ?_
  refine lv_bipush (v := (6 : Int32)) hx hb dX6_beginOfHearing_4 (by decide) ?_
  refine va_lald (f := (u0.2.2.2 0)) hx hb hK hP 1 2 rfl rfl (vin (by decide)) dX6_beginOfHearing_6 ?_
  refine lv_ldc2 hx hb hown (hg _ kq5_0) dX6_beginOfHearing_7 ?_
  refine lc_ne (tgt := 16) hx hb dX6_beginOfHearing_10 dX6_beginOfHearing_11 (by decide) (fun c1 => ?_) (fun c1 => ?_)
  · have hf := tn hf c1
    refine lv_aload_n hx hb dX6_beginOfHearing_16 rfl (lv_at hl 0 rfl) ?_
    refine va_get (D := gD G) (ci := 4) (v := .ref (a0 0)) (C := RX6) (T := TX6) (N := 22) hx hb hg kl_X6 hown hK hP 0 rfl rfl 0 (by decide) (hg _ kq5_5) (fun _ h9 => h9) rfl dX6_beginOfHearing_17 ?_
    refine lv_bipush (v := (6 : Int32)) hx hb dX6_beginOfHearing_20 (by decide) ?_
    refine va_lald (f := (u0.2.2.2 0)) hx hb hK hP 1 2 rfl rfl (vin (by decide)) dX6_beginOfHearing_22 ?_
    refine lv_aload_n hx hb dX6_beginOfHearing_23 rfl (lv_at hl 0 rfl) ?_
    refine va_get (D := gD G) (ci := 4) (v := .ref (a0 0)) (C := RX6) (T := TX6) (N := 22) hx hb hg kl_X6 hown hK hP 0 rfl rfl 0 (by decide) (hg _ kq5_5) (fun _ h9 => h9) rfl dX6_beginOfHearing_24 ?_
    refine lv_iconst (v := (5 : Int32)) hx hb dX6_beginOfHearing_27 (by decide) ?_
    refine va_lald (f := (u0.2.2.2 0)) hx hb hK hP 1 2 rfl rfl (vin (by decide)) dX6_beginOfHearing_28 ?_
    refine lv_ldc2 hx hb hown (hg _ kq5_0) dX6_beginOfHearing_29 ?_
    refine lc_ne (tgt := 42) hx hb dX6_beginOfHearing_32 dX6_beginOfHearing_33 (by decide) (fun c2 => ?_) (fun c2 => ?_)
    · have hf := tn hf c2
      refine lv_ldc2 hx hb hown (hg _ kq6_1) dX6_beginOfHearing_42 ?_
      refine lv_aload_n hx hb dX6_beginOfHearing_45 rfl (lv_at hl 0 rfl) ?_
      refine va_get (D := gD G) (ci := 4) (v := .ref (a0 0)) (C := RX6) (T := TX6) (N := 22) hx hb hg kl_X6 hown hK hP 0 rfl rfl 0 (by decide) (hg _ kq5_5) (fun _ h9 => h9) rfl dX6_beginOfHearing_46 ?_
      refine lv_bipush (v := (8 : Int32)) hx hb dX6_beginOfHearing_49 (by decide) ?_
      refine va_lald (f := (u0.2.2.2 0)) hx hb hK hP 1 2 rfl rfl (vin (by decide)) dX6_beginOfHearing_51 ?_
      refine lv_aload_n hx hb dX6_beginOfHearing_52 rfl (lv_at hl 0 rfl) ?_
      refine va_get (D := gD G) (ci := 4) (v := .ref (a0 0)) (C := RX6) (T := TX6) (N := 22) hx hb hg kl_X6 hown hK hP 0 rfl rfl 0 (by decide) (hg _ kq5_5) (fun _ h9 => h9) rfl dX6_beginOfHearing_53 ?_
      refine lv_iconst (v := (5 : Int32)) hx hb dX6_beginOfHearing_56 (by decide) ?_
      refine va_lald (f := (u0.2.2.2 0)) hx hb hK hP 1 2 rfl rfl (vin (by decide)) dX6_beginOfHearing_57 ?_
      refine lv_lsub hx hb dX6_beginOfHearing_58 ?_
      refine lv_lmul hx hb dX6_beginOfHearing_59 ?_
      refine lv_ladd hx hb dX6_beginOfHearing_60 ?_
      have hf := Option.some.inj hf
      subst hf
      exact e_l (wf := (fun v : Ob => (wX6 G h0 a0 v))) hx hb hr hlk u0 ⟨rfl, rfl⟩ hP hK hD hS dX6_beginOfHearing_61
    · have hf := tp hf c2
      refine lv_ldc2 hx hb hown (hg _ kq5_119) dX6_beginOfHearing_36 ?_
      refine lv_goto (tgt := 60) hx hb dX6_beginOfHearing_39 (by decide) ?_
      refine lv_ladd hx hb dX6_beginOfHearing_60 ?_
      have hf := Option.some.inj hf
      subst hf
      exact e_l (wf := (fun v : Ob => (wX6 G h0 a0 v))) hx hb hr hlk u0 ⟨rfl, rfl⟩ hP hK hD hS dX6_beginOfHearing_61
  · have hf := tp hf c1
    refine lv_lconst (v := (0 : Int64)) hx hb dX6_beginOfHearing_14 (by decide) ?_
    have hf := Option.some.inj hf
    subst hf
    exact e_l (wf := (fun v : Ob => (wX6 G h0 a0 v))) hx hb hr hlk u0 ⟨rfl, rfl⟩ hP hK hD hS dX6_beginOfHearing_15
set_option maxRecDepth 100000 in
set_option maxHeartbeats 4000000 in
theorem c_X6_canHear {l : Launch} {G : Gp} {sz N : Nat} {h0 : Nat} {a0 : Nat → Nat} {u0 : Ob} {q : Bool} (hf : f_X6_canHear N u0 = some q) : Met l yX6_canHear (Cond.code yX6_canHear cX6_canHear 1 (some .boolean) :: lw_g) ({ frames := 1, cells := 0, slots := 0, locals := 20 } : Room) (va_Pc [.ref h0] (pw G (wX6 G h0 a0 u0) sz)) (va_Qi (fun (r : Int32) (v : Ob) => bI q = r ∧ u0 = v) (bw G (fun v : Ob => (wX6 G h0 a0 v)) (va_A (wX6 G h0 a0 u0) sz)) (va_A (wX6 G h0 a0 u0) sz)) 0 0 (va_A (wX6 G h0 a0 u0) sz) := by
  refine mt (Qc := (fun A => va_Qi (fun (r : Int32) (v : Ob) => bI q = r ∧ u0 = v) (bw G (fun v : Ob => (wX6 G h0 a0 v)) A) A)) (by decide) (Nat.le_of_ble_eq_true rfl) ?_
  intro p e s m below meth c A ls hx hb hr hlk hml hts hown hA hP hK hD hE hS hl
  have hown : s.vm.findClass RX6 = some m.cls := hown
  have hg : ∀ w ∈ lw_g, w.before ([.ref h0] : List Value).toArray s = true := fun w h => hts w (List.mem_cons_of_mem _ h)
  have hC : CallFix p m c cX6_canHear 1 s ([.ref h0] : List Value).toArray (Cond.code yX6_canHear cX6_canHear 1 (some .boolean) :: lw_g) RX6 := ⟨hx, hb, hml, hown, hts⟩
  have hl : lv_has ls 1 [(0, .ref h0)] := hl
  rw [f_X6_canHear] at hf
  refine lv_aload_n hx hb dX6_canHear_0 rfl (lv_at hl 0 rfl) ?_
  obtain ⟨q1, e2, hf⟩ := tbd hf
  refine kVl1 (As := []) (rest := []) hC (c_X6_beginOfHearing (G := G) e2) kq6_74 kc_X6_beginOfHearing (by decide) 0 (ci := 4) rfl rfl hP hK hD hE hS hA hl.1 (Nat.le_of_ble_eq_true rfl) ⟨Nat.zero_le _, Nat.zero_le _⟩ dX6_canHear_1 (fun r9 u9 H locs hw hP hD hS => ?_)
  obtain ⟨rfl, rfl⟩ := hw
  have hP : va_P (gD G) vwCl (wX6 G h0 a0 u0) H := hP
  have hD : va_D A (wX6 G h0 a0 u0) := hD
  refine lv_ldc2 hx hb hown (hg _ kq6_78) dX6_canHear_4 ?_
  refine lv_ladd hx hb dX6_canHear_7 ?_
  refine lv_ldc2 hx hb hown (hg _ kq5_226) dX6_canHear_8 ?_
  refine lc_gt (tgt := 19) hx hb dX6_canHear_11 dX6_canHear_12 (by decide) (fun c3 => ?_) (fun c3 => ?_)
  · have hf := tp hf c3
    refine lv_iconst (v := (0 : Int32)) hx hb dX6_canHear_19 (by decide) ?_
    have hf := Option.some.inj hf
    subst hf
    exact e_z (wf := (fun v : Ob => (wX6 G h0 a0 v))) hx hb hr hlk u0 rfl ⟨rfl, rfl⟩ hP hK hD hS dX6_canHear_20
  · have hf := tn hf c3
    refine lv_iconst (v := (1 : Int32)) hx hb dX6_canHear_15 (by decide) ?_
    refine lv_goto (tgt := 20) hx hb dX6_canHear_16 (by decide) ?_
    have hf := Option.some.inj hf
    subst hf
    exact e_z (wf := (fun v : Ob => (wX6 G h0 a0 v))) hx hb hr hlk u0 rfl ⟨rfl, rfl⟩ hP hK hD hS dX6_canHear_20
set_option maxRecDepth 100000 in
set_option maxHeartbeats 4000000 in
theorem c_X6_hears {l : Launch} {G : Gp} {sz N : Nat} {x1 : Int32} {x2 : Bool} {x3 : Int64} {h0 : Nat} {a0 : Nat → Nat} {u0 : Ob} {q : Int32 × Ob} (hf : f_X6_hears N x1 x2 x3 u0 = some q) : Met l yX6_hears (Cond.code yX6_hears cX6_hears 11 (some .int) :: lw_g) ({ frames := 10, cells := 0, slots := 0, locals := 254 } : Room) (va_Pc [.ref h0, .int x1, .int (bI x2), .long x3] (pw G (wX6 G h0 a0 u0) sz)) (va_Qi (fun (r : Int32) (v : Ob) => q.1 = r ∧ q.2 = v) (bw G (fun v : Ob => (wX6 G h0 a0 v)) (va_A (wX6 G h0 a0 u0) sz)) (va_A (wX6 G h0 a0 u0) sz)) 0 0 (va_A (wX6 G h0 a0 u0) sz) := by
  refine mt (Qc := (fun A => va_Qi (fun (r : Int32) (v : Ob) => q.1 = r ∧ q.2 = v) (bw G (fun v : Ob => (wX6 G h0 a0 v)) A) A)) (by decide) (Nat.le_of_ble_eq_true rfl) ?_
  intro p e s m below meth c A ls hx hb hr hlk hml hts hown hA hP hK hD hE hS hl
  have hown : s.vm.findClass RX6 = some m.cls := hown
  have hg : ∀ w ∈ lw_g, w.before ([.ref h0, .int x1, .int (bI x2), .long x3] : List Value).toArray s = true := fun w h => hts w (List.mem_cons_of_mem _ h)
  have hC : CallFix p m c cX6_hears 11 s ([.ref h0, .int x1, .int (bI x2), .long x3] : List Value).toArray (Cond.code yX6_hears cX6_hears 11 (some .int) :: lw_g) RX6 := ⟨hx, hb, hml, hown, hts⟩
  have hl : lv_has ls 11 [(0, .ref h0), (1, .int x1), (2, .int (bI x2)), (3, .long x3)] := hl
  have lp_19 : ∀ (n : Nat) (x5 : Int64) (x7 : Int64) (x9 : Int32) (x10 : Int32) (u0 : Ob), l_X6_hears_19 N x1 x2 x3 n x5 x7 x9 x10 u0 = some q → ∀ (H : Heap) (locs : List Loc) (ls : Array Slot), va_P (gD G) vwCl (wX6 G h0 a0 u0) H → va_D A (wX6 G h0 a0 u0) → va_S A s.heap H locs → lv_has ls 11 [(0, .ref h0), (1, .int x1), (2, .int (bI x2)), (3, .long x3), (5, .long x5), (7, .long x7), (9, .int x9), (10, .int x10)] → W p l e ({ frames := 10, cells := 0, slots := 0, locals := 254 } : Room) s m ([.ref h0, .int x1, .int (bI x2), .long x3] : List Value).toArray below meth c H locs 0 0 (MQ below (va_Qi (fun (r : Int32) (v : Ob) => q.1 = r ∧ q.2 = v) (bw G (fun v : Ob => (wX6 G h0 a0 v)) A) A) ([.ref h0, .int x1, .int (bI x2), .long x3] : List Value).toArray s 0 0 A) (F0 m 19 ls []) := by
    intro n
    induction n with
    | zero => intro x5 x7 x9 x10 u0 hf; rw [l_X6_hears_19] at hf; cases hf
    | succ n ih =>
      intro x5 x7 x9 x10 u0 hf H locs ls hP hD hS hl
      rw [l_X6_hears_19] at hf
      refine lv_iload hx hb dX6_hears_19 (lv_at hl 7 rfl) ?_
      refine lv_bipush (v := (59 : Int32)) hx hb dX6_hears_21 (by decide) ?_
      refine lv_icmp_ge (tgt := 110) hx hb dX6_hears_23 (by decide) (fun c5 => ?_) (fun c5 => ?_)
      · have hf := tp hf c5
        refine lv_iload hx hb dX6_hears_110 (lv_at hl 6 rfl) ?_
        have hf := Option.some.inj hf
        subst hf
        exact e_i (wf := (fun v : Ob => (wX6 G h0 a0 v))) hx hb hr hlk u0 ⟨rfl, rfl⟩ hP hK hD hS dX6_hears_112
      · have hf := tn hf c5
        refine lv_lload_n hx hb dX6_hears_26 rfl (lv_at hl 3 rfl) ?_
        refine lv_iload hx hb dX6_hears_27 (lv_at hl 7 rfl) ?_
        obtain ⟨q6, e7, hf⟩ := tbd hf
        refine kSi0 (As := [.long x3, .int x10]) (rest := []) hC (c_X6_has (G := G) e7) kq5_145 kc_X6_has (by decide) hP hK hD hE hS hA hl.1 (Nat.le_of_ble_eq_true rfl) ⟨Nat.zero_le _, Nat.zero_le _⟩ dX6_hears_29 (fun r9 u9 H locs hw hP hD hS => ?_)
        obtain ⟨rfl, rfl⟩ := hw
        refine bz_ne (tgt := 104) hx hb dX6_hears_32 (by decide) (fun c8 => ?_) (fun c8 => ?_)
        · have hf := tp hf c8
          refine lv_iinc (v := (x10 + (1 : Int32))) (lv' := [(10, .int (x10 + (1 : Int32))), (0, .ref h0), (1, .int x1), (2, .int (bI x2)), (3, .long x3), (5, .long x5), (7, .long x7), (9, .int x9)]) hx hb dX6_hears_104 hl (k := 7) rfl rfl (by decide) rfl (fun ls hl => ?_)
          refine lv_goto (tgt := 19) hx hb dX6_hears_107 (by decide) ?_
          exact ih _ _ _ _ _ hf _ _ _ hP hD hS (lv_sub hl [1, 2, 3, 4, 5, 6, 7, 0] rfl)
        · have hf := tn hf c8
          refine lv_lload hx hb dX6_hears_35 (lv_at hl 4 rfl) ?_
          refine lv_ldc2 hx hb hown (hg _ kq6_1) dX6_hears_37 ?_
          refine lv_iload hx hb dX6_hears_40 (lv_at hl 7 rfl) ?_
          refine lv_i2l (v := x10.toInt64) hx hb dX6_hears_42 rfl ?_
          refine lv_lmul hx hb dX6_hears_43 ?_
          refine lv_ladd hx hb dX6_hears_44 ?_
          refine lv_aload_n hx hb dX6_hears_45 rfl (lv_at hl 0 rfl) ?_
          refine va_get (D := gD G) (ci := 4) (v := .ref (a0 0)) (C := RX6) (T := TX6) (N := 22) hx hb hg kl_X6 hown hK hP 0 rfl rfl 0 (by decide) (hg _ kq5_5) (fun _ h9 => h9) rfl dX6_hears_46 ?_
          refine lv_bipush (v := (7 : Int32)) hx hb dX6_hears_49 (by decide) ?_
          refine va_lald (f := (u0.2.2.2 0)) hx hb hK hP 1 2 rfl rfl (vin (by decide)) dX6_hears_51 ?_
          refine lc_gt (tgt := 59) hx hb dX6_hears_52 dX6_hears_53 (by decide) (fun c9 => ?_) (fun c9 => ?_)
          · have hf := tp hf c9
            refine lv_iload hx hb dX6_hears_59 (lv_at hl 6 rfl) ?_
            refine lv_aload_n hx hb dX6_hears_61 rfl (lv_at hl 0 rfl) ?_
            refine lv_lload hx hb dX6_hears_62 (lv_at hl 4 rfl) ?_
            refine lv_ldc2 hx hb hown (hg _ kq6_1) dX6_hears_64 ?_
            refine lv_iload hx hb dX6_hears_67 (lv_at hl 7 rfl) ?_
            refine lv_i2l (v := x10.toInt64) hx hb dX6_hears_69 rfl ?_
            refine lv_lmul hx hb dX6_hears_70 ?_
            refine lv_ladd hx hb dX6_hears_71 ?_
            refine lv_lload hx hb dX6_hears_72 (lv_at hl 5 rfl) ?_
            refine lv_iload hx hb dX6_hears_74 (lv_at hl 7 rfl) ?_
            obtain ⟨q10, e11, hf⟩ := tbd hf
            refine kSi0 (As := [.long x7, .int x10]) (rest := [.long (x5 + ((1000 : Int64) * x10.toInt64)), .ref h0, .int x9]) hC (c_X6_has (G := G) e11) kq5_145 kc_X6_has (by decide) hP hK hD hE hS hA hl.1 (Nat.le_of_ble_eq_true rfl) ⟨Nat.zero_le _, Nat.zero_le _⟩ dX6_hears_76 (fun r9 u9 H locs hw hP hD hS => ?_)
            obtain ⟨rfl, rfl⟩ := hw
            refine bz_eq (tgt := 88) hx hb dX6_hears_79 (by decide) (fun c12 => ?_) (fun c12 => ?_)
            · have hf := tn hf c12
              refine lv_bipush (v := (100 : Int32)) hx hb dX6_hears_88 (by decide) ?_
              obtain ⟨q13, e14, hf⟩ := tbd hf
              refine kVi1 (As := [.long (x5 + ((1000 : Int64) * x10.toInt64)), .int (100 : Int32)]) (rest := [.int x9]) hC (c_X6_takesPulse (G := G) e14) kq5_228 kc_X6_takesPulse (by decide) 0 (ci := 4) rfl rfl hP hK hD hE hS hA hl.1 (Nat.le_of_ble_eq_true rfl) ⟨Nat.zero_le _, Nat.zero_le _⟩ dX6_hears_90 (fun r9 u9 H locs hw hP hD hS => ?_)
              obtain ⟨rfl, rfl⟩ := hw
              have hP : va_P (gD G) vwCl (wX6 G h0 a0 q13.2) H := hP
              have hD : va_D A (wX6 G h0 a0 q13.2) := hD
              refine lv_if_ne (tgt := 100) hx hb dX6_hears_93 (by decide) (fun c15 => ?_) (fun c15 => ?_)
              · have hf := tn hf c15
                refine lv_iconst (v := (1 : Int32)) hx hb dX6_hears_100 (by decide) ?_
                refine lv_iadd hx hb dX6_hears_101 ?_
                refine lv_istore (lv' := [(9, .int (x9 + (1 : Int32))), (0, .ref h0), (1, .int x1), (2, .int (bI x2)), (3, .long x3), (5, .long x5), (7, .long x7), (10, .int x10)]) hx hb dX6_hears_102 hl (by decide) rfl (fun ls hl => ?_)
                refine lv_iinc (v := (x10 + (1 : Int32))) (lv' := [(10, .int (x10 + (1 : Int32))), (9, .int (x9 + (1 : Int32))), (0, .ref h0), (1, .int x1), (2, .int (bI x2)), (3, .long x3), (5, .long x5), (7, .long x7)]) hx hb dX6_hears_104 hl (k := 7) rfl rfl (by decide) rfl (fun ls hl => ?_)
                refine lv_goto (tgt := 19) hx hb dX6_hears_107 (by decide) ?_
                exact ih _ _ _ _ _ hf _ _ _ hP hD hS (lv_sub hl [2, 3, 4, 5, 6, 7, 1, 0] rfl)
              · have hf := tp hf c15
                refine lv_iconst (v := (0 : Int32)) hx hb dX6_hears_96 (by decide) ?_
                refine lv_goto (tgt := 101) hx hb dX6_hears_97 (by decide) ?_
                refine lv_iadd hx hb dX6_hears_101 ?_
                refine lv_istore (lv' := [(9, .int (x9 + (0 : Int32))), (0, .ref h0), (1, .int x1), (2, .int (bI x2)), (3, .long x3), (5, .long x5), (7, .long x7), (10, .int x10)]) hx hb dX6_hears_102 hl (by decide) rfl (fun ls hl => ?_)
                refine lv_iinc (v := (x10 + (1 : Int32))) (lv' := [(10, .int (x10 + (1 : Int32))), (9, .int (x9 + (0 : Int32))), (0, .ref h0), (1, .int x1), (2, .int (bI x2)), (3, .long x3), (5, .long x5), (7, .long x7)]) hx hb dX6_hears_104 hl (k := 7) rfl rfl (by decide) rfl (fun ls hl => ?_)
                refine lv_goto (tgt := 19) hx hb dX6_hears_107 (by decide) ?_
                exact ih _ _ _ _ _ hf _ _ _ hP hD hS (lv_sub hl [2, 3, 4, 5, 6, 7, 1, 0] rfl)
            · have hf := tp hf c12
              refine lv_sipush (v := (200 : Int32)) hx hb dX6_hears_82 (by decide) ?_
              refine lv_goto (tgt := 90) hx hb dX6_hears_85 (by decide) ?_
              obtain ⟨q16, e17, hf⟩ := tbd hf
              refine kVi1 (As := [.long (x5 + ((1000 : Int64) * x10.toInt64)), .int (200 : Int32)]) (rest := [.int x9]) hC (c_X6_takesPulse (G := G) e17) kq5_228 kc_X6_takesPulse (by decide) 0 (ci := 4) rfl rfl hP hK hD hE hS hA hl.1 (Nat.le_of_ble_eq_true rfl) ⟨Nat.zero_le _, Nat.zero_le _⟩ dX6_hears_90 (fun r9 u9 H locs hw hP hD hS => ?_)
              obtain ⟨rfl, rfl⟩ := hw
              have hP : va_P (gD G) vwCl (wX6 G h0 a0 q16.2) H := hP
              have hD : va_D A (wX6 G h0 a0 q16.2) := hD
              refine lv_if_ne (tgt := 100) hx hb dX6_hears_93 (by decide) (fun c18 => ?_) (fun c18 => ?_)
              · have hf := tn hf c18
                refine lv_iconst (v := (1 : Int32)) hx hb dX6_hears_100 (by decide) ?_
                refine lv_iadd hx hb dX6_hears_101 ?_
                refine lv_istore (lv' := [(9, .int (x9 + (1 : Int32))), (0, .ref h0), (1, .int x1), (2, .int (bI x2)), (3, .long x3), (5, .long x5), (7, .long x7), (10, .int x10)]) hx hb dX6_hears_102 hl (by decide) rfl (fun ls hl => ?_)
                refine lv_iinc (v := (x10 + (1 : Int32))) (lv' := [(10, .int (x10 + (1 : Int32))), (9, .int (x9 + (1 : Int32))), (0, .ref h0), (1, .int x1), (2, .int (bI x2)), (3, .long x3), (5, .long x5), (7, .long x7)]) hx hb dX6_hears_104 hl (k := 7) rfl rfl (by decide) rfl (fun ls hl => ?_)
                refine lv_goto (tgt := 19) hx hb dX6_hears_107 (by decide) ?_
                exact ih _ _ _ _ _ hf _ _ _ hP hD hS (lv_sub hl [2, 3, 4, 5, 6, 7, 1, 0] rfl)
              · have hf := tp hf c18
                refine lv_iconst (v := (0 : Int32)) hx hb dX6_hears_96 (by decide) ?_
                refine lv_goto (tgt := 101) hx hb dX6_hears_97 (by decide) ?_
                refine lv_iadd hx hb dX6_hears_101 ?_
                refine lv_istore (lv' := [(9, .int (x9 + (0 : Int32))), (0, .ref h0), (1, .int x1), (2, .int (bI x2)), (3, .long x3), (5, .long x5), (7, .long x7), (10, .int x10)]) hx hb dX6_hears_102 hl (by decide) rfl (fun ls hl => ?_)
                refine lv_iinc (v := (x10 + (1 : Int32))) (lv' := [(10, .int (x10 + (1 : Int32))), (9, .int (x9 + (0 : Int32))), (0, .ref h0), (1, .int x1), (2, .int (bI x2)), (3, .long x3), (5, .long x5), (7, .long x7)]) hx hb dX6_hears_104 hl (k := 7) rfl rfl (by decide) rfl (fun ls hl => ?_)
                refine lv_goto (tgt := 19) hx hb dX6_hears_107 (by decide) ?_
                exact ih _ _ _ _ _ hf _ _ _ hP hD hS (lv_sub hl [2, 3, 4, 5, 6, 7, 1, 0] rfl)
          · have hf := tn hf c9
            refine lv_goto (tgt := 104) hx hb dX6_hears_56 (by decide) ?_
            refine lv_iinc (v := (x10 + (1 : Int32))) (lv' := [(10, .int (x10 + (1 : Int32))), (0, .ref h0), (1, .int x1), (2, .int (bI x2)), (3, .long x3), (5, .long x5), (7, .long x7), (9, .int x9)]) hx hb dX6_hears_104 hl (k := 7) rfl rfl (by decide) rfl (fun ls hl => ?_)
            refine lv_goto (tgt := 19) hx hb dX6_hears_107 (by decide) ?_
            exact ih _ _ _ _ _ hf _ _ _ hP hD hS (lv_sub hl [1, 2, 3, 4, 5, 6, 7, 0] rfl)
  rw [f_X6_hears] at hf
  refine lv_aload_n hx hb dX6_hears_0 rfl (lv_at hl 0 rfl) ?_
  obtain ⟨q1, e2, hf⟩ := tbd hf
  refine kVl1 (As := []) (rest := []) hC (c_X6_beginOfHearing (G := G) e2) kq6_74 kc_X6_beginOfHearing (by decide) 0 (ci := 4) rfl rfl hP hK hD hE hS hA hl.1 (Nat.le_of_ble_eq_true rfl) ⟨Nat.zero_le _, Nat.zero_le _⟩ dX6_hears_1 (fun r9 u9 H locs hw hP hD hS => ?_)
  obtain ⟨rfl, rfl⟩ := hw
  have hP : va_P (gD G) vwCl (wX6 G h0 a0 u0) H := hP
  have hD : va_D A (wX6 G h0 a0 u0) := hD
  refine lv_lstore (lv' := [(5, .long q1), (0, .ref h0), (1, .int x1), (2, .int (bI x2)), (3, .long x3)]) hx hb dX6_hears_4 hl (by decide) rfl (fun ls hl => ?_)
  refine lv_iload_n hx hb dX6_hears_6 rfl (lv_at hl 2 rfl) ?_
  refine lv_iload_n hx hb dX6_hears_7 rfl (lv_at hl 3 rfl) ?_
  obtain ⟨q3, e4, hf⟩ := tbd hf
  refine kSl0 (As := [.int x1, .int (bI x2)]) (rest := []) hC (c_X6_codeOf (G := G) e4) kq5_131 kc_X6_codeOf (by decide) hP hK hD hE hS hA hl.1 (Nat.le_of_ble_eq_true rfl) ⟨Nat.zero_le _, Nat.zero_le _⟩ dX6_hears_8 (fun r9 u9 H locs hw hP hD hS => ?_)
  obtain ⟨rfl, rfl⟩ := hw
  refine lv_lstore (lv' := [(7, .long q3), (5, .long q1), (0, .ref h0), (1, .int x1), (2, .int (bI x2)), (3, .long x3)]) hx hb dX6_hears_11 hl (by decide) rfl (fun ls hl => ?_)
  refine lv_iconst (v := (0 : Int32)) hx hb dX6_hears_13 (by decide) ?_
  refine lv_istore (lv' := [(9, .int (0 : Int32)), (7, .long q3), (5, .long q1), (0, .ref h0), (1, .int x1), (2, .int (bI x2)), (3, .long x3)]) hx hb dX6_hears_14 hl (by decide) rfl (fun ls hl => ?_)
  refine lv_iconst (v := (0 : Int32)) hx hb dX6_hears_16 (by decide) ?_
  refine lv_istore (lv' := [(10, .int (0 : Int32)), (9, .int (0 : Int32)), (7, .long q3), (5, .long q1), (0, .ref h0), (1, .int x1), (2, .int (bI x2)), (3, .long x3)]) hx hb dX6_hears_17 hl (by decide) rfl (fun ls hl => ?_)
  exact lp_19 N _ _ _ _ _ hf _ _ _ hP hD hS (lv_sub hl [4, 5, 6, 7, 3, 2, 1, 0] rfl)
set_option maxRecDepth 100000 in
set_option maxHeartbeats 4000000 in
theorem c_X6_readsHear {l : Launch} {G : Gp} {sz N : Nat} {h0 : Nat} {a0 : Nat → Nat} {u0 : Ob} {q : Ob} (hf : f_X6_readsHear N u0 = some q) : Met l yX6_readsHear (Cond.code yX6_readsHear cX6_readsHear 5 none :: lw_g) ({ frames := 11, cells := 0, slots := 0, locals := 284 } : Room) (va_Pc [.ref h0] (pw G (wX6 G h0 a0 u0) sz)) (va_Qv (fun v : Ob => q = v) (bw G (fun v : Ob => (wX6 G h0 a0 v)) (va_A (wX6 G h0 a0 u0) sz)) (va_A (wX6 G h0 a0 u0) sz)) 0 0 (va_A (wX6 G h0 a0 u0) sz) := by
  refine mt (Qc := (fun A => va_Qv (fun v : Ob => q = v) (bw G (fun v : Ob => (wX6 G h0 a0 v)) A) A)) (by decide) (Nat.le_of_ble_eq_true rfl) ?_
  intro p e s m below meth c A ls hx hb hr hlk hml hts hown hA hP hK hD hE hS hl
  have hown : s.vm.findClass RX6 = some m.cls := hown
  have hg : ∀ w ∈ lw_g, w.before ([.ref h0] : List Value).toArray s = true := fun w h => hts w (List.mem_cons_of_mem _ h)
  have hC : CallFix p m c cX6_readsHear 5 s ([.ref h0] : List Value).toArray (Cond.code yX6_readsHear cX6_readsHear 5 none :: lw_g) RX6 := ⟨hx, hb, hml, hown, hts⟩
  have hl : lv_has ls 5 [(0, .ref h0)] := hl
  have lp_45 : ∀ (n : Nat) (x1 : Int32) (x2 : Bool) (x3 : Int64) (u0 : Ob), l_X6_readsHear_45 N n x1 x2 x3 u0 = some q → ∀ (H : Heap) (locs : List Loc) (ls : Array Slot), va_P (gD G) vwCl (wX6 G h0 a0 u0) H → va_D A (wX6 G h0 a0 u0) → va_S A s.heap H locs → lv_has ls 5 [(0, .ref h0), (1, .int x1), (2, .int (bI x2)), (3, .long x3)] → W p l e ({ frames := 11, cells := 0, slots := 0, locals := 284 } : Room) s m ([.ref h0] : List Value).toArray below meth c H locs 0 0 (MQ below (va_Qv (fun v : Ob => q = v) (bw G (fun v : Ob => (wX6 G h0 a0 v)) A) A) ([.ref h0] : List Value).toArray s 0 0 A) (F0 m 45 ls []) := by
    intro n
    induction n with
    | zero => intro x1 x2 x3 u0 hf; rw [l_X6_readsHear_45] at hf; cases hf
    | succ n ih =>
      intro x1 x2 x3 u0 hf H locs ls hP hD hS hl
      rw [l_X6_readsHear_45] at hf
      refine lv_aload_n hx hb dX6_readsHear_45 rfl (lv_at hl 0 rfl) ?_
      refine va_ldcS (q := gE G (10 + 2 * 8)) hx hb hown (hE.2.1 (RX6, 251, "lose", 8) (by decide +kernel)) dX6_readsHear_46 ?_
      obtain ⟨q11, e12, hf⟩ := tbd hf
      refine kVi1 (As := [.ref (gE G (10 + 2 * 8))]) (rest := []) hC (c_X6_isWord (G := G) (hi := by decide) e12) kq5_185 kc_X6_isWord (by decide) 0 (ci := 4) rfl rfl hP hK hD hE hS hA hl.1 (Nat.le_of_ble_eq_true rfl) ⟨Nat.zero_le _, Nat.zero_le _⟩ dX6_readsHear_48 (fun r9 u9 H locs hw hP hD hS => ?_)
      obtain ⟨rfl, rfl⟩ := hw
      have hP : va_P (gD G) vwCl (wX6 G h0 a0 q11.2) H := hP
      have hD : va_D A (wX6 G h0 a0 q11.2) := hD
      refine bz_eq (tgt := 75) hx hb dX6_readsHear_51 (by decide) (fun c13 => ?_) (fun c13 => ?_)
      · have hf := tn hf c13
        refine lv_aload_n hx hb dX6_readsHear_75 rfl (lv_at hl 0 rfl) ?_
        refine va_get (D := gD G) (ci := 4) (v := .int (q11.2.1 15)) (C := RX6) (T := TX6) (N := 22) hx hb hg kl_X6 hown hK hP 0 rfl rfl 15 (by decide) (hg _ kq5_20) (fun _ h9 => h9) rfl dX6_readsHear_76 ?_
        refine lv_if_ne (tgt := 90) hx hb dX6_readsHear_79 (by decide) (fun c14 => ?_) (fun c14 => ?_)
        · have hf := tn hf c14
          have hf := Option.some.inj hf
          subst hf
          exact e_v (wf := (fun v : Ob => (wX6 G h0 a0 v))) hx hb hr hlk q11.2 rfl hP hK hD hS dX6_readsHear_90
        · have hf := tp hf c14
          refine lv_aload_n hx hb dX6_readsHear_82 rfl (lv_at hl 0 rfl) ?_
          refine lv_iload_n hx hb dX6_readsHear_83 rfl (lv_at hl 1 rfl) ?_
          refine lv_iload_n hx hb dX6_readsHear_84 rfl (lv_at hl 2 rfl) ?_
          refine lv_lload_n hx hb dX6_readsHear_85 rfl (lv_at hl 3 rfl) ?_
          obtain ⟨q15, e16, hf⟩ := tbd hf
          refine kVi1 (As := [.int x1, .int (bI x2), .long x3]) (rest := []) hC (c_X6_hears (G := G) e16) kq6_82 kc_X6_hears (by decide) 0 (ci := 4) rfl rfl hP hK hD hE hS hA hl.1 (Nat.le_of_ble_eq_true rfl) ⟨Nat.zero_le _, Nat.zero_le _⟩ dX6_readsHear_86 (fun r9 u9 H locs hw hP hD hS => ?_)
          obtain ⟨rfl, rfl⟩ := hw
          have hP : va_P (gD G) vwCl (wX6 G h0 a0 q15.2) H := hP
          have hD : va_D A (wX6 G h0 a0 q15.2) := hD
          refine lv_pop hx hb dX6_readsHear_89 rfl ?_
          have hf := Option.some.inj hf
          subst hf
          exact e_v (wf := (fun v : Ob => (wX6 G h0 a0 v))) hx hb hr hlk q15.2 rfl hP hK hD hS dX6_readsHear_90
      · have hf := tp hf c13
        refine lv_aload_n hx hb dX6_readsHear_54 rfl (lv_at hl 0 rfl) ?_
        refine lv_iconst (v := (1 : Int32)) hx hb dX6_readsHear_55 (by decide) ?_
        obtain ⟨q17, e18, hf⟩ := tbd hf
        refine kVv1 (As := [.int (bI true)]) (rest := []) hC (c_X6_must (G := G) e18) kq5_199 kc_X6_must (by decide) 0 (ci := 4) rfl rfl hP hK hD hE hS hA hl.1 (Nat.le_of_ble_eq_true rfl) ⟨Nat.zero_le _, Nat.zero_le _⟩ dX6_readsHear_56 (fun u9 H locs hw hP hD hS => ?_)
        obtain rfl := hw
        have hP : va_P (gD G) vwCl (wX6 G h0 a0 q17) H := hP
        have hD : va_D A (wX6 G h0 a0 q17) := hD
        refine lv_lload_n hx hb dX6_readsHear_59 rfl (lv_at hl 3 rfl) ?_
        refine lv_lconst (v := (1 : Int64)) hx hb dX6_readsHear_60 (by decide) ?_
        refine lv_aload_n hx hb dX6_readsHear_61 rfl (lv_at hl 0 rfl) ?_
        refine lv_lconst (v := (0 : Int64)) hx hb dX6_readsHear_62 (by decide) ?_
        refine lv_ldc2 hx hb hown (hg _ kq6_81) dX6_readsHear_63 ?_
        obtain ⟨q19, e20, hf⟩ := tbd hf
        refine kVi1 (As := [.long (0 : Int64), .long (58 : Int64)]) (rest := [.long (1 : Int64), .long x3]) hC (c_X6_takes (G := G) e20) kq5_213 kc_X6_takes (by decide) 0 (ci := 4) rfl rfl hP hK hD hE hS hA hl.1 (Nat.le_of_ble_eq_true rfl) ⟨Nat.zero_le _, Nat.zero_le _⟩ dX6_readsHear_66 (fun r9 u9 H locs hw hP hD hS => ?_)
        obtain ⟨rfl, rfl⟩ := hw
        have hP : va_P (gD G) vwCl (wX6 G h0 a0 q19.2) H := hP
        have hD : va_D A (wX6 G h0 a0 q19.2) := hD
        refine lv_lshl (v := (jshl (1 : Int64) q19.1)) hx hb dX6_readsHear_69 rfl ?_
        refine lv_lor hx hb dX6_readsHear_70 ?_
        refine lv_lstore_n (lv' := [(3, .long (x3 ||| (jshl (1 : Int64) q19.1))), (0, .ref h0), (1, .int x1), (2, .int (bI x2))]) hx hb dX6_readsHear_71 rfl hl (by decide) rfl (fun ls hl => ?_)
        refine lv_goto (tgt := 45) hx hb dX6_readsHear_72 (by decide) ?_
        exact ih _ _ _ _ hf _ _ _ hP hD hS (lv_sub hl [1, 2, 3, 0] rfl)
  rw [f_X6_readsHear] at hf
  refine lv_aload_n hx hb dX6_readsHear_0 rfl (lv_at hl 0 rfl) ?_
  obtain ⟨q1, e2, hf⟩ := tbd hf
  refine kVi1 (As := []) (rest := []) hC (c_X6_canHear (G := G) e2) kq6_70 kc_X6_canHear (by decide) 0 (ci := 4) rfl rfl hP hK hD hE hS hA hl.1 (Nat.le_of_ble_eq_true rfl) ⟨Nat.zero_le _, Nat.zero_le _⟩ dX6_readsHear_1 (fun r9 u9 H locs hw hP hD hS => ?_)
  obtain ⟨rfl, rfl⟩ := hw
  have hP : va_P (gD G) vwCl (wX6 G h0 a0 u0) H := hP
  have hD : va_D A (wX6 G h0 a0 u0) := hD
  refine bz_ne (tgt := 13) hx hb dX6_readsHear_4 (by decide) (fun c3 => ?_) (fun c3 => ?_)
  · have hf := tp hf c3
    refine lv_aload_n hx hb dX6_readsHear_13 rfl (lv_at hl 0 rfl) ?_
    refine lv_iconst (v := (1 : Int32)) hx hb dX6_readsHear_14 (by decide) ?_
    obtain ⟨q4, e5, hf⟩ := tbd hf
    refine kVv1 (As := [.int (bI true)]) (rest := []) hC (c_X6_must (G := G) e5) kq5_199 kc_X6_must (by decide) 0 (ci := 4) rfl rfl hP hK hD hE hS hA hl.1 (Nat.le_of_ble_eq_true rfl) ⟨Nat.zero_le _, Nat.zero_le _⟩ dX6_readsHear_15 (fun u9 H locs hw hP hD hS => ?_)
    obtain rfl := hw
    have hP : va_P (gD G) vwCl (wX6 G h0 a0 q4) H := hP
    have hD : va_D A (wX6 G h0 a0 q4) := hD
    refine lv_aload_n hx hb dX6_readsHear_18 rfl (lv_at hl 0 rfl) ?_
    refine lv_lconst (v := (0 : Int64)) hx hb dX6_readsHear_19 (by decide) ?_
    refine lv_ldc2 hx hb hown (hg _ kq5_102) dX6_readsHear_20 ?_
    obtain ⟨q6, e7, hf⟩ := tbd hf
    refine kVi1 (As := [.long (0 : Int64), .long (52595999 : Int64)]) (rest := []) hC (c_X6_takes (G := G) e7) kq5_213 kc_X6_takes (by decide) 0 (ci := 4) rfl rfl hP hK hD hE hS hA hl.1 (Nat.le_of_ble_eq_true rfl) ⟨Nat.zero_le _, Nat.zero_le _⟩ dX6_readsHear_23 (fun r9 u9 H locs hw hP hD hS => ?_)
    obtain ⟨rfl, rfl⟩ := hw
    have hP : va_P (gD G) vwCl (wX6 G h0 a0 q6.2) H := hP
    have hD : va_D A (wX6 G h0 a0 q6.2) := hD
    refine lv_istore_n (lv' := [(1, .int q6.1), (0, .ref h0)]) hx hb dX6_readsHear_26 rfl hl (by decide) rfl (fun ls hl => ?_)
    refine lv_aload_n hx hb dX6_readsHear_27 rfl (lv_at hl 1 rfl) ?_
    refine va_ldcS (q := gE G (10 + 2 * 7)) hx hb hown (hE.2.1 (RX6, 249, "leap", 7) (by decide +kernel)) dX6_readsHear_28 ?_
    obtain ⟨q8, e9, hf⟩ := tbd hf
    refine kVi1 (As := [.ref (gE G (10 + 2 * 7))]) (rest := []) hC (c_X6_isWord (G := G) (hi := by decide) e9) kq5_185 kc_X6_isWord (by decide) 0 (ci := 4) rfl rfl hP hK hD hE hS hA hl.1 (Nat.le_of_ble_eq_true rfl) ⟨Nat.zero_le _, Nat.zero_le _⟩ dX6_readsHear_30 (fun r9 u9 H locs hw hP hD hS => ?_)
    obtain ⟨rfl, rfl⟩ := hw
    have hP : va_P (gD G) vwCl (wX6 G h0 a0 q8.2) H := hP
    have hD : va_D A (wX6 G h0 a0 q8.2) := hD
    refine lv_istore_n (lv' := [(2, .int (bI q8.1)), (1, .int q6.1), (0, .ref h0)]) hx hb dX6_readsHear_33 rfl hl (by decide) rfl (fun ls hl => ?_)
    refine lv_iload_n hx hb dX6_readsHear_34 rfl (lv_at hl 0 rfl) ?_
    refine bz_eq (tgt := 43) hx hb dX6_readsHear_35 (by decide) (fun c10 => ?_) (fun c10 => ?_)
    · have hf := tn hf c10
      refine lv_lconst (v := (0 : Int64)) hx hb dX6_readsHear_43 (by decide) ?_
      refine lv_lstore_n (lv' := [(3, .long (0 : Int64)), (2, .int (bI q8.1)), (1, .int q6.1), (0, .ref h0)]) hx hb dX6_readsHear_44 rfl hl (by decide) rfl (fun ls hl => ?_)
      exact lp_45 N _ _ _ _ hf _ _ _ hP hD hS (lv_sub hl [3, 2, 1, 0] rfl)
    · have hf := tp hf c10
      refine lv_aload_n hx hb dX6_readsHear_38 rfl (lv_at hl 2 rfl) ?_
      refine lv_iconst (v := (1 : Int32)) hx hb dX6_readsHear_39 (by decide) ?_
      obtain ⟨q21, e22, hf⟩ := tbd hf
      refine kVv1 (As := [.int (bI true)]) (rest := []) hC (c_X6_must (G := G) e22) kq5_199 kc_X6_must (by decide) 0 (ci := 4) rfl rfl hP hK hD hE hS hA hl.1 (Nat.le_of_ble_eq_true rfl) ⟨Nat.zero_le _, Nat.zero_le _⟩ dX6_readsHear_40 (fun u9 H locs hw hP hD hS => ?_)
      obtain rfl := hw
      have hP : va_P (gD G) vwCl (wX6 G h0 a0 q21) H := hP
      have hD : va_D A (wX6 G h0 a0 q21) := hD
      refine lv_lconst (v := (0 : Int64)) hx hb dX6_readsHear_43 (by decide) ?_
      refine lv_lstore_n (lv' := [(3, .long (0 : Int64)), (2, .int (bI q8.1)), (1, .int q6.1), (0, .ref h0)]) hx hb dX6_readsHear_44 rfl hl (by decide) rfl (fun ls hl => ?_)
      exact lp_45 N _ _ _ _ hf _ _ _ hP hD hS (lv_sub hl [3, 2, 1, 0] rfl)
  · have hf := tn hf c3
    refine lv_aload_n hx hb dX6_readsHear_7 rfl (lv_at hl 0 rfl) ?_
    refine lv_bipush (v := (-3 : Int32)) hx hb dX6_readsHear_8 (by decide) ?_
    obtain ⟨q23, e24, hf⟩ := tbd hf
    refine kVv1 (As := [.int (-3 : Int32)]) (rest := []) hC (c_X6_fails (G := G) e24) kq5_203 kc_X6_fails (by decide) 0 (ci := 4) rfl rfl hP hK hD hE hS hA hl.1 (Nat.le_of_ble_eq_true rfl) ⟨Nat.zero_le _, Nat.zero_le _⟩ dX6_readsHear_10 (fun u9 H locs hw hP hD hS => ?_)
    obtain rfl := hw
    have hP : va_P (gD G) vwCl (wX6 G h0 a0 q23) H := hP
    have hD : va_D A (wX6 G h0 a0 q23) := hD
    refine lv_aload_n hx hb dX6_readsHear_13 rfl (lv_at hl 0 rfl) ?_
    refine lv_iconst (v := (1 : Int32)) hx hb dX6_readsHear_14 (by decide) ?_
    obtain ⟨q25, e26, hf⟩ := tbd hf
    refine kVv1 (As := [.int (bI true)]) (rest := []) hC (c_X6_must (G := G) e26) kq5_199 kc_X6_must (by decide) 0 (ci := 4) rfl rfl hP hK hD hE hS hA hl.1 (Nat.le_of_ble_eq_true rfl) ⟨Nat.zero_le _, Nat.zero_le _⟩ dX6_readsHear_15 (fun u9 H locs hw hP hD hS => ?_)
    obtain rfl := hw
    have hP : va_P (gD G) vwCl (wX6 G h0 a0 q25) H := hP
    have hD : va_D A (wX6 G h0 a0 q25) := hD
    refine lv_aload_n hx hb dX6_readsHear_18 rfl (lv_at hl 0 rfl) ?_
    refine lv_lconst (v := (0 : Int64)) hx hb dX6_readsHear_19 (by decide) ?_
    refine lv_ldc2 hx hb hown (hg _ kq5_102) dX6_readsHear_20 ?_
    obtain ⟨q27, e28, hf⟩ := tbd hf
    refine kVi1 (As := [.long (0 : Int64), .long (52595999 : Int64)]) (rest := []) hC (c_X6_takes (G := G) e28) kq5_213 kc_X6_takes (by decide) 0 (ci := 4) rfl rfl hP hK hD hE hS hA hl.1 (Nat.le_of_ble_eq_true rfl) ⟨Nat.zero_le _, Nat.zero_le _⟩ dX6_readsHear_23 (fun r9 u9 H locs hw hP hD hS => ?_)
    obtain ⟨rfl, rfl⟩ := hw
    have hP : va_P (gD G) vwCl (wX6 G h0 a0 q27.2) H := hP
    have hD : va_D A (wX6 G h0 a0 q27.2) := hD
    refine lv_istore_n (lv' := [(1, .int q27.1), (0, .ref h0)]) hx hb dX6_readsHear_26 rfl hl (by decide) rfl (fun ls hl => ?_)
    refine lv_aload_n hx hb dX6_readsHear_27 rfl (lv_at hl 1 rfl) ?_
    refine va_ldcS (q := gE G (10 + 2 * 7)) hx hb hown (hE.2.1 (RX6, 249, "leap", 7) (by decide +kernel)) dX6_readsHear_28 ?_
    obtain ⟨q29, e30, hf⟩ := tbd hf
    refine kVi1 (As := [.ref (gE G (10 + 2 * 7))]) (rest := []) hC (c_X6_isWord (G := G) (hi := by decide) e30) kq5_185 kc_X6_isWord (by decide) 0 (ci := 4) rfl rfl hP hK hD hE hS hA hl.1 (Nat.le_of_ble_eq_true rfl) ⟨Nat.zero_le _, Nat.zero_le _⟩ dX6_readsHear_30 (fun r9 u9 H locs hw hP hD hS => ?_)
    obtain ⟨rfl, rfl⟩ := hw
    have hP : va_P (gD G) vwCl (wX6 G h0 a0 q29.2) H := hP
    have hD : va_D A (wX6 G h0 a0 q29.2) := hD
    refine lv_istore_n (lv' := [(2, .int (bI q29.1)), (1, .int q27.1), (0, .ref h0)]) hx hb dX6_readsHear_33 rfl hl (by decide) rfl (fun ls hl => ?_)
    refine lv_iload_n hx hb dX6_readsHear_34 rfl (lv_at hl 0 rfl) ?_
    refine bz_eq (tgt := 43) hx hb dX6_readsHear_35 (by decide) (fun c31 => ?_) (fun c31 => ?_)
    · have hf := tn hf c31
      refine lv_lconst (v := (0 : Int64)) hx hb dX6_readsHear_43 (by decide) ?_
      refine lv_lstore_n (lv' := [(3, .long (0 : Int64)), (2, .int (bI q29.1)), (1, .int q27.1), (0, .ref h0)]) hx hb dX6_readsHear_44 rfl hl (by decide) rfl (fun ls hl => ?_)
      exact lp_45 N _ _ _ _ hf _ _ _ hP hD hS (lv_sub hl [3, 2, 1, 0] rfl)
    · have hf := tp hf c31
      refine lv_aload_n hx hb dX6_readsHear_38 rfl (lv_at hl 2 rfl) ?_
      refine lv_iconst (v := (1 : Int32)) hx hb dX6_readsHear_39 (by decide) ?_
      obtain ⟨q32, e33, hf⟩ := tbd hf
      refine kVv1 (As := [.int (bI true)]) (rest := []) hC (c_X6_must (G := G) e33) kq5_199 kc_X6_must (by decide) 0 (ci := 4) rfl rfl hP hK hD hE hS hA hl.1 (Nat.le_of_ble_eq_true rfl) ⟨Nat.zero_le _, Nat.zero_le _⟩ dX6_readsHear_40 (fun u9 H locs hw hP hD hS => ?_)
      obtain rfl := hw
      have hP : va_P (gD G) vwCl (wX6 G h0 a0 q32) H := hP
      have hD : va_D A (wX6 G h0 a0 q32) := hD
      refine lv_lconst (v := (0 : Int64)) hx hb dX6_readsHear_43 (by decide) ?_
      refine lv_lstore_n (lv' := [(3, .long (0 : Int64)), (2, .int (bI q29.1)), (1, .int q27.1), (0, .ref h0)]) hx hb dX6_readsHear_44 rfl hl (by decide) rfl (fun ls hl => ?_)
      exact lp_45 N _ _ _ _ hf _ _ _ hP hD hS (lv_sub hl [3, 2, 1, 0] rfl)
set_option maxRecDepth 100000 in
set_option maxHeartbeats 4000000 in
theorem c_X6_readsStatement {l : Launch} {G : Gp} {sz N : Nat} {h0 : Nat} {a0 : Nat → Nat} {u0 : Ob} {q : Ob} (hf : f_X6_readsStatement N u0 = some q) : Met l yX6_readsStatement (Cond.code yX6_readsStatement cX6_readsStatement 2 none :: lw_g) ({ frames := 12, cells := 0, slots := 0, locals := 308 } : Room) (va_Pc [.ref h0] (pw G (wX6 G h0 a0 u0) sz)) (va_Qv (fun v : Ob => q = v) (bw G (fun v : Ob => (wX6 G h0 a0 v)) (va_A (wX6 G h0 a0 u0) sz)) (va_A (wX6 G h0 a0 u0) sz)) 0 0 (va_A (wX6 G h0 a0 u0) sz) := by
  refine mt (Qc := (fun A => va_Qv (fun v : Ob => q = v) (bw G (fun v : Ob => (wX6 G h0 a0 v)) A) A)) (by decide) (Nat.le_of_ble_eq_true rfl) ?_
  intro p e s m below meth c A ls hx hb hr hlk hml hts hown hA hP hK hD hE hS hl
  have hown : s.vm.findClass RX6 = some m.cls := hown
  have hg : ∀ w ∈ lw_g, w.before ([.ref h0] : List Value).toArray s = true := fun w h => hts w (List.mem_cons_of_mem _ h)
  have hC : CallFix p m c cX6_readsStatement 2 s ([.ref h0] : List Value).toArray (Cond.code yX6_readsStatement cX6_readsStatement 2 none :: lw_g) RX6 := ⟨hx, hb, hml, hown, hts⟩
  have hl : lv_has ls 2 [(0, .ref h0)] := hl
  rw [f_X6_readsStatement] at hf
  refine lv_aload_n hx hb dX6_readsStatement_0 rfl (lv_at hl 0 rfl) ?_
  obtain ⟨q1, e2, hf⟩ := tbd hf
  refine kVi1 (As := []) (rest := []) hC (c_X6_settingHere (G := G) e2) kq5_180 kc_X6_settingHere (by decide) 0 (ci := 4) rfl rfl hP hK hD hE hS hA hl.1 (Nat.le_of_ble_eq_true rfl) ⟨Nat.zero_le _, Nat.zero_le _⟩ dX6_readsStatement_1 (fun r9 u9 H locs hw hP hD hS => ?_)
  obtain ⟨rfl, rfl⟩ := hw
  have hP : va_P (gD G) vwCl (wX6 G h0 a0 q1.2) H := hP
  have hD : va_D A (wX6 G h0 a0 q1.2) := hD
  refine lv_istore_n (lv' := [(1, .int q1.1), (0, .ref h0)]) hx hb dX6_readsStatement_4 rfl hl (by decide) rfl (fun ls hl => ?_)
  refine lv_iload_n hx hb dX6_readsStatement_5 rfl (lv_at hl 0 rfl) ?_
  refine lv_iconst (v := (-1 : Int32)) hx hb dX6_readsStatement_6 (by decide) ?_
  refine lv_icmp_eq (tgt := 18) hx hb dX6_readsStatement_7 (by decide) (fun c3 => ?_) (fun c3 => ?_)
  · have hf := tp hf c3
    refine lv_aload_n hx hb dX6_readsStatement_18 rfl (lv_at hl 1 rfl) ?_
    refine va_ldcSW (q := gE G (10 + 2 * 5)) hx hb hown (hE.2.1 (RX6, 265, "pulse", 5) (by decide +kernel)) dX6_readsStatement_19 ?_
    obtain ⟨q4, e5, hf⟩ := tbd hf
    refine kVi1 (As := [.ref (gE G (10 + 2 * 5))]) (rest := []) hC (c_X6_isWord (G := G) (hi := by decide) e5) kq5_185 kc_X6_isWord (by decide) 0 (ci := 4) rfl rfl hP hK hD hE hS hA hl.1 (Nat.le_of_ble_eq_true rfl) ⟨Nat.zero_le _, Nat.zero_le _⟩ dX6_readsStatement_22 (fun r9 u9 H locs hw hP hD hS => ?_)
    obtain ⟨rfl, rfl⟩ := hw
    have hP : va_P (gD G) vwCl (wX6 G h0 a0 q4.2) H := hP
    have hD : va_D A (wX6 G h0 a0 q4.2) := hD
    refine bz_eq (tgt := 35) hx hb dX6_readsStatement_25 (by decide) (fun c6 => ?_) (fun c6 => ?_)
    · have hf := tn hf c6
      refine lv_aload_n hx hb dX6_readsStatement_35 rfl (lv_at hl 1 rfl) ?_
      refine va_ldcSW (q := gE G (10 + 2 * 6)) hx hb hown (hE.2.1 (RX6, 270, "hear", 6) (by decide +kernel)) dX6_readsStatement_36 ?_
      obtain ⟨q7, e8, hf⟩ := tbd hf
      refine kVi1 (As := [.ref (gE G (10 + 2 * 6))]) (rest := []) hC (c_X6_isWord (G := G) (hi := by decide) e8) kq5_185 kc_X6_isWord (by decide) 0 (ci := 4) rfl rfl hP hK hD hE hS hA hl.1 (Nat.le_of_ble_eq_true rfl) ⟨Nat.zero_le _, Nat.zero_le _⟩ dX6_readsStatement_39 (fun r9 u9 H locs hw hP hD hS => ?_)
      obtain ⟨rfl, rfl⟩ := hw
      have hP : va_P (gD G) vwCl (wX6 G h0 a0 q7.2) H := hP
      have hD : va_D A (wX6 G h0 a0 q7.2) := hD
      refine bz_eq (tgt := 52) hx hb dX6_readsStatement_42 (by decide) (fun c9 => ?_) (fun c9 => ?_)
      · have hf := tn hf c9
        refine lv_aload_n hx hb dX6_readsStatement_52 rfl (lv_at hl 1 rfl) ?_
        refine lv_bipush (v := (-2 : Int32)) hx hb dX6_readsStatement_53 (by decide) ?_
        obtain ⟨q10, e11, hf⟩ := tbd hf
        refine kVv1 (As := [.int (-2 : Int32)]) (rest := []) hC (c_X6_fails (G := G) e11) kq5_203 kc_X6_fails (by decide) 0 (ci := 4) rfl rfl hP hK hD hE hS hA hl.1 (Nat.le_of_ble_eq_true rfl) ⟨Nat.zero_le _, Nat.zero_le _⟩ dX6_readsStatement_55 (fun u9 H locs hw hP hD hS => ?_)
        obtain rfl := hw
        have hP : va_P (gD G) vwCl (wX6 G h0 a0 q10) H := hP
        have hD : va_D A (wX6 G h0 a0 q10) := hD
        refine lv_aload_n hx hb dX6_readsStatement_58 rfl (lv_at hl 1 rfl) ?_
        refine lv_aload_n hx hb dX6_readsStatement_59 rfl (lv_at hl 1 rfl) ?_
        refine va_get (D := gD G) (ci := 4) (v := .int (q10.1 14)) (C := RX6) (T := TX6) (N := 22) hx hb hg kl_X6 hown hK hP 0 rfl rfl 14 (by decide) (hg _ kq5_19) (fun _ h9 => h9) rfl dX6_readsStatement_60 ?_
        refine lv_iconst (v := (2 : Int32)) hx hb dX6_readsStatement_63 (by decide) ?_
        refine lv_icmp_ne (tgt := 84) hx hb dX6_readsStatement_64 (by decide) (fun c12 => ?_) (fun c12 => ?_)
        · have hf := tn hf c12
          refine lv_iconst (v := (0 : Int32)) hx hb dX6_readsStatement_84 (by decide) ?_
          obtain ⟨q13, e14, hf⟩ := tbd hf
          refine kVv1 (As := [.int (bI false)]) (rest := []) hC (c_X6_must (G := G) e14) kq5_199 kc_X6_must (by decide) 0 (ci := 4) rfl rfl hP hK hD hE hS hA hl.1 (Nat.le_of_ble_eq_true rfl) ⟨Nat.zero_le _, Nat.zero_le _⟩ dX6_readsStatement_85 (fun u9 H locs hw hP hD hS => ?_)
          obtain rfl := hw
          have hP : va_P (gD G) vwCl (wX6 G h0 a0 q13) H := hP
          have hD : va_D A (wX6 G h0 a0 q13) := hD
          have hf := Option.some.inj hf
          subst hf
          exact e_v (wf := (fun v : Ob => (wX6 G h0 a0 v))) hx hb hr hlk q13 rfl hP hK hD hS dX6_readsStatement_88
        · have hf := tp hf c12
          refine lv_aload_n hx hb dX6_readsStatement_67 rfl (lv_at hl 1 rfl) ?_
          refine lv_aload_n hx hb dX6_readsStatement_68 rfl (lv_at hl 1 rfl) ?_
          refine va_get (D := gD G) (ci := 4) (v := .int (q10.1 12)) (C := RX6) (T := TX6) (N := 22) hx hb hg kl_X6 hown hK hP 0 rfl rfl 12 (by decide) (hg _ kq5_17) (fun _ h9 => h9) rfl dX6_readsStatement_69 ?_
          obtain ⟨q15, e16, hf⟩ := tbd hf
          refine kVi1 (As := [.int (q10.1 12)]) (rest := [.ref h0]) hC (c_X6_see (G := G) e16) kq5_160 kc_X6_see (by decide) 0 (ci := 4) rfl rfl hP hK hD hE hS hA hl.1 (Nat.le_of_ble_eq_true rfl) ⟨Nat.zero_le _, Nat.zero_le _⟩ dX6_readsStatement_72 (fun r9 u9 H locs hw hP hD hS => ?_)
          obtain ⟨rfl, rfl⟩ := hw
          have hP : va_P (gD G) vwCl (wX6 G h0 a0 q10) H := hP
          have hD : va_D A (wX6 G h0 a0 q10) := hD
          refine lv_bipush (v := (59 : Int32)) hx hb dX6_readsStatement_75 (by decide) ?_
          refine lv_icmp_ne (tgt := 84) hx hb dX6_readsStatement_77 (by decide) (fun c17 => ?_) (fun c17 => ?_)
          · have hf := tn hf c17
            refine lv_iconst (v := (0 : Int32)) hx hb dX6_readsStatement_84 (by decide) ?_
            obtain ⟨q18, e19, hf⟩ := tbd hf
            refine kVv1 (As := [.int (bI false)]) (rest := []) hC (c_X6_must (G := G) e19) kq5_199 kc_X6_must (by decide) 0 (ci := 4) rfl rfl hP hK hD hE hS hA hl.1 (Nat.le_of_ble_eq_true rfl) ⟨Nat.zero_le _, Nat.zero_le _⟩ dX6_readsStatement_85 (fun u9 H locs hw hP hD hS => ?_)
            obtain rfl := hw
            have hP : va_P (gD G) vwCl (wX6 G h0 a0 q18) H := hP
            have hD : va_D A (wX6 G h0 a0 q18) := hD
            have hf := Option.some.inj hf
            subst hf
            exact e_v (wf := (fun v : Ob => (wX6 G h0 a0 v))) hx hb hr hlk q18 rfl hP hK hD hS dX6_readsStatement_88
          · have hf := tp hf c17
            refine lv_iconst (v := (1 : Int32)) hx hb dX6_readsStatement_80 (by decide) ?_
            refine lv_goto (tgt := 85) hx hb dX6_readsStatement_81 (by decide) ?_
            obtain ⟨q20, e21, hf⟩ := tbd hf
            refine kVv1 (As := [.int (bI true)]) (rest := []) hC (c_X6_must (G := G) e21) kq5_199 kc_X6_must (by decide) 0 (ci := 4) rfl rfl hP hK hD hE hS hA hl.1 (Nat.le_of_ble_eq_true rfl) ⟨Nat.zero_le _, Nat.zero_le _⟩ dX6_readsStatement_85 (fun u9 H locs hw hP hD hS => ?_)
            obtain rfl := hw
            have hP : va_P (gD G) vwCl (wX6 G h0 a0 q20) H := hP
            have hD : va_D A (wX6 G h0 a0 q20) := hD
            have hf := Option.some.inj hf
            subst hf
            exact e_v (wf := (fun v : Ob => (wX6 G h0 a0 v))) hx hb hr hlk q20 rfl hP hK hD hS dX6_readsStatement_88
      · have hf := tp hf c9
        refine lv_aload_n hx hb dX6_readsStatement_45 rfl (lv_at hl 1 rfl) ?_
        obtain ⟨q22, e23, hf⟩ := tbd hf
        refine kVv1 (As := []) (rest := []) hC (c_X6_readsHear (G := G) e23) kq6_66 kc_X6_readsHear (by decide) 0 (ci := 4) rfl rfl hP hK hD hE hS hA hl.1 (Nat.le_of_ble_eq_true rfl) ⟨Nat.zero_le _, Nat.zero_le _⟩ dX6_readsStatement_46 (fun u9 H locs hw hP hD hS => ?_)
        obtain rfl := hw
        have hP : va_P (gD G) vwCl (wX6 G h0 a0 q22) H := hP
        have hD : va_D A (wX6 G h0 a0 q22) := hD
        refine lv_goto (tgt := 58) hx hb dX6_readsStatement_49 (by decide) ?_
        refine lv_aload_n hx hb dX6_readsStatement_58 rfl (lv_at hl 1 rfl) ?_
        refine lv_aload_n hx hb dX6_readsStatement_59 rfl (lv_at hl 1 rfl) ?_
        refine va_get (D := gD G) (ci := 4) (v := .int (q22.1 14)) (C := RX6) (T := TX6) (N := 22) hx hb hg kl_X6 hown hK hP 0 rfl rfl 14 (by decide) (hg _ kq5_19) (fun _ h9 => h9) rfl dX6_readsStatement_60 ?_
        refine lv_iconst (v := (2 : Int32)) hx hb dX6_readsStatement_63 (by decide) ?_
        refine lv_icmp_ne (tgt := 84) hx hb dX6_readsStatement_64 (by decide) (fun c24 => ?_) (fun c24 => ?_)
        · have hf := tn hf c24
          refine lv_iconst (v := (0 : Int32)) hx hb dX6_readsStatement_84 (by decide) ?_
          obtain ⟨q25, e26, hf⟩ := tbd hf
          refine kVv1 (As := [.int (bI false)]) (rest := []) hC (c_X6_must (G := G) e26) kq5_199 kc_X6_must (by decide) 0 (ci := 4) rfl rfl hP hK hD hE hS hA hl.1 (Nat.le_of_ble_eq_true rfl) ⟨Nat.zero_le _, Nat.zero_le _⟩ dX6_readsStatement_85 (fun u9 H locs hw hP hD hS => ?_)
          obtain rfl := hw
          have hP : va_P (gD G) vwCl (wX6 G h0 a0 q25) H := hP
          have hD : va_D A (wX6 G h0 a0 q25) := hD
          have hf := Option.some.inj hf
          subst hf
          exact e_v (wf := (fun v : Ob => (wX6 G h0 a0 v))) hx hb hr hlk q25 rfl hP hK hD hS dX6_readsStatement_88
        · have hf := tp hf c24
          refine lv_aload_n hx hb dX6_readsStatement_67 rfl (lv_at hl 1 rfl) ?_
          refine lv_aload_n hx hb dX6_readsStatement_68 rfl (lv_at hl 1 rfl) ?_
          refine va_get (D := gD G) (ci := 4) (v := .int (q22.1 12)) (C := RX6) (T := TX6) (N := 22) hx hb hg kl_X6 hown hK hP 0 rfl rfl 12 (by decide) (hg _ kq5_17) (fun _ h9 => h9) rfl dX6_readsStatement_69 ?_
          obtain ⟨q27, e28, hf⟩ := tbd hf
          refine kVi1 (As := [.int (q22.1 12)]) (rest := [.ref h0]) hC (c_X6_see (G := G) e28) kq5_160 kc_X6_see (by decide) 0 (ci := 4) rfl rfl hP hK hD hE hS hA hl.1 (Nat.le_of_ble_eq_true rfl) ⟨Nat.zero_le _, Nat.zero_le _⟩ dX6_readsStatement_72 (fun r9 u9 H locs hw hP hD hS => ?_)
          obtain ⟨rfl, rfl⟩ := hw
          have hP : va_P (gD G) vwCl (wX6 G h0 a0 q22) H := hP
          have hD : va_D A (wX6 G h0 a0 q22) := hD
          refine lv_bipush (v := (59 : Int32)) hx hb dX6_readsStatement_75 (by decide) ?_
          refine lv_icmp_ne (tgt := 84) hx hb dX6_readsStatement_77 (by decide) (fun c29 => ?_) (fun c29 => ?_)
          · have hf := tn hf c29
            refine lv_iconst (v := (0 : Int32)) hx hb dX6_readsStatement_84 (by decide) ?_
            obtain ⟨q30, e31, hf⟩ := tbd hf
            refine kVv1 (As := [.int (bI false)]) (rest := []) hC (c_X6_must (G := G) e31) kq5_199 kc_X6_must (by decide) 0 (ci := 4) rfl rfl hP hK hD hE hS hA hl.1 (Nat.le_of_ble_eq_true rfl) ⟨Nat.zero_le _, Nat.zero_le _⟩ dX6_readsStatement_85 (fun u9 H locs hw hP hD hS => ?_)
            obtain rfl := hw
            have hP : va_P (gD G) vwCl (wX6 G h0 a0 q30) H := hP
            have hD : va_D A (wX6 G h0 a0 q30) := hD
            have hf := Option.some.inj hf
            subst hf
            exact e_v (wf := (fun v : Ob => (wX6 G h0 a0 v))) hx hb hr hlk q30 rfl hP hK hD hS dX6_readsStatement_88
          · have hf := tp hf c29
            refine lv_iconst (v := (1 : Int32)) hx hb dX6_readsStatement_80 (by decide) ?_
            refine lv_goto (tgt := 85) hx hb dX6_readsStatement_81 (by decide) ?_
            obtain ⟨q32, e33, hf⟩ := tbd hf
            refine kVv1 (As := [.int (bI true)]) (rest := []) hC (c_X6_must (G := G) e33) kq5_199 kc_X6_must (by decide) 0 (ci := 4) rfl rfl hP hK hD hE hS hA hl.1 (Nat.le_of_ble_eq_true rfl) ⟨Nat.zero_le _, Nat.zero_le _⟩ dX6_readsStatement_85 (fun u9 H locs hw hP hD hS => ?_)
            obtain rfl := hw
            have hP : va_P (gD G) vwCl (wX6 G h0 a0 q32) H := hP
            have hD : va_D A (wX6 G h0 a0 q32) := hD
            have hf := Option.some.inj hf
            subst hf
            exact e_v (wf := (fun v : Ob => (wX6 G h0 a0 v))) hx hb hr hlk q32 rfl hP hK hD hS dX6_readsStatement_88
    · have hf := tp hf c6
      refine lv_aload_n hx hb dX6_readsStatement_28 rfl (lv_at hl 1 rfl) ?_
      obtain ⟨q34, e35, hf⟩ := tbd hf
      refine kVv1 (As := []) (rest := []) hC (c_X6_readsPulse (G := G) e35) kq5_222 kc_X6_readsPulse (by decide) 0 (ci := 4) rfl rfl hP hK hD hE hS hA hl.1 (Nat.le_of_ble_eq_true rfl) ⟨Nat.zero_le _, Nat.zero_le _⟩ dX6_readsStatement_29 (fun u9 H locs hw hP hD hS => ?_)
      obtain rfl := hw
      have hP : va_P (gD G) vwCl (wX6 G h0 a0 q34) H := hP
      have hD : va_D A (wX6 G h0 a0 q34) := hD
      refine lv_goto (tgt := 58) hx hb dX6_readsStatement_32 (by decide) ?_
      refine lv_aload_n hx hb dX6_readsStatement_58 rfl (lv_at hl 1 rfl) ?_
      refine lv_aload_n hx hb dX6_readsStatement_59 rfl (lv_at hl 1 rfl) ?_
      refine va_get (D := gD G) (ci := 4) (v := .int (q34.1 14)) (C := RX6) (T := TX6) (N := 22) hx hb hg kl_X6 hown hK hP 0 rfl rfl 14 (by decide) (hg _ kq5_19) (fun _ h9 => h9) rfl dX6_readsStatement_60 ?_
      refine lv_iconst (v := (2 : Int32)) hx hb dX6_readsStatement_63 (by decide) ?_
      refine lv_icmp_ne (tgt := 84) hx hb dX6_readsStatement_64 (by decide) (fun c36 => ?_) (fun c36 => ?_)
      · have hf := tn hf c36
        refine lv_iconst (v := (0 : Int32)) hx hb dX6_readsStatement_84 (by decide) ?_
        obtain ⟨q37, e38, hf⟩ := tbd hf
        refine kVv1 (As := [.int (bI false)]) (rest := []) hC (c_X6_must (G := G) e38) kq5_199 kc_X6_must (by decide) 0 (ci := 4) rfl rfl hP hK hD hE hS hA hl.1 (Nat.le_of_ble_eq_true rfl) ⟨Nat.zero_le _, Nat.zero_le _⟩ dX6_readsStatement_85 (fun u9 H locs hw hP hD hS => ?_)
        obtain rfl := hw
        have hP : va_P (gD G) vwCl (wX6 G h0 a0 q37) H := hP
        have hD : va_D A (wX6 G h0 a0 q37) := hD
        have hf := Option.some.inj hf
        subst hf
        exact e_v (wf := (fun v : Ob => (wX6 G h0 a0 v))) hx hb hr hlk q37 rfl hP hK hD hS dX6_readsStatement_88
      · have hf := tp hf c36
        refine lv_aload_n hx hb dX6_readsStatement_67 rfl (lv_at hl 1 rfl) ?_
        refine lv_aload_n hx hb dX6_readsStatement_68 rfl (lv_at hl 1 rfl) ?_
        refine va_get (D := gD G) (ci := 4) (v := .int (q34.1 12)) (C := RX6) (T := TX6) (N := 22) hx hb hg kl_X6 hown hK hP 0 rfl rfl 12 (by decide) (hg _ kq5_17) (fun _ h9 => h9) rfl dX6_readsStatement_69 ?_
        obtain ⟨q39, e40, hf⟩ := tbd hf
        refine kVi1 (As := [.int (q34.1 12)]) (rest := [.ref h0]) hC (c_X6_see (G := G) e40) kq5_160 kc_X6_see (by decide) 0 (ci := 4) rfl rfl hP hK hD hE hS hA hl.1 (Nat.le_of_ble_eq_true rfl) ⟨Nat.zero_le _, Nat.zero_le _⟩ dX6_readsStatement_72 (fun r9 u9 H locs hw hP hD hS => ?_)
        obtain ⟨rfl, rfl⟩ := hw
        have hP : va_P (gD G) vwCl (wX6 G h0 a0 q34) H := hP
        have hD : va_D A (wX6 G h0 a0 q34) := hD
        refine lv_bipush (v := (59 : Int32)) hx hb dX6_readsStatement_75 (by decide) ?_
        refine lv_icmp_ne (tgt := 84) hx hb dX6_readsStatement_77 (by decide) (fun c41 => ?_) (fun c41 => ?_)
        · have hf := tn hf c41
          refine lv_iconst (v := (0 : Int32)) hx hb dX6_readsStatement_84 (by decide) ?_
          obtain ⟨q42, e43, hf⟩ := tbd hf
          refine kVv1 (As := [.int (bI false)]) (rest := []) hC (c_X6_must (G := G) e43) kq5_199 kc_X6_must (by decide) 0 (ci := 4) rfl rfl hP hK hD hE hS hA hl.1 (Nat.le_of_ble_eq_true rfl) ⟨Nat.zero_le _, Nat.zero_le _⟩ dX6_readsStatement_85 (fun u9 H locs hw hP hD hS => ?_)
          obtain rfl := hw
          have hP : va_P (gD G) vwCl (wX6 G h0 a0 q42) H := hP
          have hD : va_D A (wX6 G h0 a0 q42) := hD
          have hf := Option.some.inj hf
          subst hf
          exact e_v (wf := (fun v : Ob => (wX6 G h0 a0 v))) hx hb hr hlk q42 rfl hP hK hD hS dX6_readsStatement_88
        · have hf := tp hf c41
          refine lv_iconst (v := (1 : Int32)) hx hb dX6_readsStatement_80 (by decide) ?_
          refine lv_goto (tgt := 85) hx hb dX6_readsStatement_81 (by decide) ?_
          obtain ⟨q44, e45, hf⟩ := tbd hf
          refine kVv1 (As := [.int (bI true)]) (rest := []) hC (c_X6_must (G := G) e45) kq5_199 kc_X6_must (by decide) 0 (ci := 4) rfl rfl hP hK hD hE hS hA hl.1 (Nat.le_of_ble_eq_true rfl) ⟨Nat.zero_le _, Nat.zero_le _⟩ dX6_readsStatement_85 (fun u9 H locs hw hP hD hS => ?_)
          obtain rfl := hw
          have hP : va_P (gD G) vwCl (wX6 G h0 a0 q44) H := hP
          have hD : va_D A (wX6 G h0 a0 q44) := hD
          have hf := Option.some.inj hf
          subst hf
          exact e_v (wf := (fun v : Ob => (wX6 G h0 a0 v))) hx hb hr hlk q44 rfl hP hK hD hS dX6_readsStatement_88
  · have hf := tn hf c3
    refine lv_aload_n hx hb dX6_readsStatement_10 rfl (lv_at hl 1 rfl) ?_
    refine lv_iload_n hx hb dX6_readsStatement_11 rfl (lv_at hl 0 rfl) ?_
    obtain ⟨q46, e47, hf⟩ := tbd hf
    refine kVv1 (As := [.int q1.1]) (rest := []) hC (c_X6_readsSetting (G := G) e47) kq5_195 kc_X6_readsSetting (by decide) 0 (ci := 4) rfl rfl hP hK hD hE hS hA hl.1 (Nat.le_of_ble_eq_true rfl) ⟨Nat.zero_le _, Nat.zero_le _⟩ dX6_readsStatement_12 (fun u9 H locs hw hP hD hS => ?_)
    obtain rfl := hw
    have hP : va_P (gD G) vwCl (wX6 G h0 a0 q46) H := hP
    have hD : va_D A (wX6 G h0 a0 q46) := hD
    refine lv_goto (tgt := 58) hx hb dX6_readsStatement_15 (by decide) ?_
    refine lv_aload_n hx hb dX6_readsStatement_58 rfl (lv_at hl 1 rfl) ?_
    refine lv_aload_n hx hb dX6_readsStatement_59 rfl (lv_at hl 1 rfl) ?_
    refine va_get (D := gD G) (ci := 4) (v := .int (q46.1 14)) (C := RX6) (T := TX6) (N := 22) hx hb hg kl_X6 hown hK hP 0 rfl rfl 14 (by decide) (hg _ kq5_19) (fun _ h9 => h9) rfl dX6_readsStatement_60 ?_
    refine lv_iconst (v := (2 : Int32)) hx hb dX6_readsStatement_63 (by decide) ?_
    refine lv_icmp_ne (tgt := 84) hx hb dX6_readsStatement_64 (by decide) (fun c48 => ?_) (fun c48 => ?_)
    · have hf := tn hf c48
      refine lv_iconst (v := (0 : Int32)) hx hb dX6_readsStatement_84 (by decide) ?_
      obtain ⟨q49, e50, hf⟩ := tbd hf
      refine kVv1 (As := [.int (bI false)]) (rest := []) hC (c_X6_must (G := G) e50) kq5_199 kc_X6_must (by decide) 0 (ci := 4) rfl rfl hP hK hD hE hS hA hl.1 (Nat.le_of_ble_eq_true rfl) ⟨Nat.zero_le _, Nat.zero_le _⟩ dX6_readsStatement_85 (fun u9 H locs hw hP hD hS => ?_)
      obtain rfl := hw
      have hP : va_P (gD G) vwCl (wX6 G h0 a0 q49) H := hP
      have hD : va_D A (wX6 G h0 a0 q49) := hD
      have hf := Option.some.inj hf
      subst hf
      exact e_v (wf := (fun v : Ob => (wX6 G h0 a0 v))) hx hb hr hlk q49 rfl hP hK hD hS dX6_readsStatement_88
    · have hf := tp hf c48
      refine lv_aload_n hx hb dX6_readsStatement_67 rfl (lv_at hl 1 rfl) ?_
      refine lv_aload_n hx hb dX6_readsStatement_68 rfl (lv_at hl 1 rfl) ?_
      refine va_get (D := gD G) (ci := 4) (v := .int (q46.1 12)) (C := RX6) (T := TX6) (N := 22) hx hb hg kl_X6 hown hK hP 0 rfl rfl 12 (by decide) (hg _ kq5_17) (fun _ h9 => h9) rfl dX6_readsStatement_69 ?_
      obtain ⟨q51, e52, hf⟩ := tbd hf
      refine kVi1 (As := [.int (q46.1 12)]) (rest := [.ref h0]) hC (c_X6_see (G := G) e52) kq5_160 kc_X6_see (by decide) 0 (ci := 4) rfl rfl hP hK hD hE hS hA hl.1 (Nat.le_of_ble_eq_true rfl) ⟨Nat.zero_le _, Nat.zero_le _⟩ dX6_readsStatement_72 (fun r9 u9 H locs hw hP hD hS => ?_)
      obtain ⟨rfl, rfl⟩ := hw
      have hP : va_P (gD G) vwCl (wX6 G h0 a0 q46) H := hP
      have hD : va_D A (wX6 G h0 a0 q46) := hD
      refine lv_bipush (v := (59 : Int32)) hx hb dX6_readsStatement_75 (by decide) ?_
      refine lv_icmp_ne (tgt := 84) hx hb dX6_readsStatement_77 (by decide) (fun c53 => ?_) (fun c53 => ?_)
      · have hf := tn hf c53
        refine lv_iconst (v := (0 : Int32)) hx hb dX6_readsStatement_84 (by decide) ?_
        obtain ⟨q54, e55, hf⟩ := tbd hf
        refine kVv1 (As := [.int (bI false)]) (rest := []) hC (c_X6_must (G := G) e55) kq5_199 kc_X6_must (by decide) 0 (ci := 4) rfl rfl hP hK hD hE hS hA hl.1 (Nat.le_of_ble_eq_true rfl) ⟨Nat.zero_le _, Nat.zero_le _⟩ dX6_readsStatement_85 (fun u9 H locs hw hP hD hS => ?_)
        obtain rfl := hw
        have hP : va_P (gD G) vwCl (wX6 G h0 a0 q54) H := hP
        have hD : va_D A (wX6 G h0 a0 q54) := hD
        have hf := Option.some.inj hf
        subst hf
        exact e_v (wf := (fun v : Ob => (wX6 G h0 a0 v))) hx hb hr hlk q54 rfl hP hK hD hS dX6_readsStatement_88
      · have hf := tp hf c53
        refine lv_iconst (v := (1 : Int32)) hx hb dX6_readsStatement_80 (by decide) ?_
        refine lv_goto (tgt := 85) hx hb dX6_readsStatement_81 (by decide) ?_
        obtain ⟨q56, e57, hf⟩ := tbd hf
        refine kVv1 (As := [.int (bI true)]) (rest := []) hC (c_X6_must (G := G) e57) kq5_199 kc_X6_must (by decide) 0 (ci := 4) rfl rfl hP hK hD hE hS hA hl.1 (Nat.le_of_ble_eq_true rfl) ⟨Nat.zero_le _, Nat.zero_le _⟩ dX6_readsStatement_85 (fun u9 H locs hw hP hD hS => ?_)
        obtain rfl := hw
        have hP : va_P (gD G) vwCl (wX6 G h0 a0 q56) H := hP
        have hD : va_D A (wX6 G h0 a0 q56) := hD
        have hf := Option.some.inj hf
        subst hf
        exact e_v (wf := (fun v : Ob => (wX6 G h0 a0 v))) hx hb hr hlk q56 rfl hP hK hD hS dX6_readsStatement_88
set_option maxRecDepth 100000 in
set_option maxHeartbeats 4000000 in
theorem c_X6_becomes_2 {l : Launch} {G : Gp} {sz N : Nat} {x2 : Int32} {h0 : Nat} {a0 : Nat → Nat} {u0 : Ob} {q : Ob} (hf : f_X6_becomes_2 N x2 u0 = some q) : Met l yX6_becomes (Cond.code yX6_becomes cX6_becomes 4 none :: lw_g) ({ frames := 0, cells := 0, slots := 0, locals := 0 } : Room) (va_Pc [.ref h0, .ref (a0 2), .int x2] (pw G (wX6 G h0 a0 u0) sz)) (va_Qv (fun v : Ob => q = v) (bw G (fun v : Ob => (wX6 G h0 a0 v)) (va_A (wX6 G h0 a0 u0) sz)) (va_A (wX6 G h0 a0 u0) sz)) 0 0 (va_A (wX6 G h0 a0 u0) sz) := by
  refine mt (Qc := (fun A => va_Qv (fun v : Ob => q = v) (bw G (fun v : Ob => (wX6 G h0 a0 v)) A) A)) (by decide) (Nat.le_of_ble_eq_true rfl) ?_
  intro p e s m below meth c A ls hx hb hr hlk hml hts hown hA hP hK hD hE hS hl
  have hown : s.vm.findClass RX6 = some m.cls := hown
  have hg : ∀ w ∈ lw_g, w.before ([.ref h0, .ref (a0 2), .int x2] : List Value).toArray s = true := fun w h => hts w (List.mem_cons_of_mem _ h)
  have hC : CallFix p m c cX6_becomes 4 s ([.ref h0, .ref (a0 2), .int x2] : List Value).toArray (Cond.code yX6_becomes cX6_becomes 4 none :: lw_g) RX6 := ⟨hx, hb, hml, hown, hts⟩
  have hl : lv_has ls 4 [(0, .ref h0), (1, .ref (a0 2)), (2, .int x2)] := hl
  have lp_2 : ∀ (n : Nat) (x3 : Int32) (u0 : Ob), l_X6_becomes_2_2 N x2 n x3 u0 = some q → ∀ (H : Heap) (locs : List Loc) (ls : Array Slot), va_P (gD G) vwCl (wX6 G h0 a0 u0) H → va_D A (wX6 G h0 a0 u0) → va_S A s.heap H locs → lv_has ls 4 [(0, .ref h0), (1, .ref (a0 2)), (2, .int x2), (3, .int x3)] → W p l e ({ frames := 0, cells := 0, slots := 0, locals := 0 } : Room) s m ([.ref h0, .ref (a0 2), .int x2] : List Value).toArray below meth c H locs 0 0 (MQ below (va_Qv (fun v : Ob => q = v) (bw G (fun v : Ob => (wX6 G h0 a0 v)) A) A) ([.ref h0, .ref (a0 2), .int x2] : List Value).toArray s 0 0 A) (F0 m 2 ls []) := by
    intro n
    induction n with
    | zero => intro x3 u0 hf; rw [l_X6_becomes_2_2] at hf; cases hf
    | succ n ih =>
      intro x3 u0 hf H locs ls hP hD hS hl
      rw [l_X6_becomes_2_2] at hf
      refine lv_iload_n hx hb dX6_becomes_2 rfl (lv_at hl 3 rfl) ?_
      refine lv_bipush (v := (48 : Int32)) hx hb dX6_becomes_3 (by decide) ?_
      refine lv_icmp_ge (tgt := 25) hx hb dX6_becomes_5 (by decide) (fun c1 => ?_) (fun c1 => ?_)
      · have hf := tp hf c1
        have hf := Option.some.inj hf
        subst hf
        exact e_v (wf := (fun v : Ob => (wX6 G h0 a0 v))) hx hb hr hlk u0 rfl hP hK hD hS dX6_becomes_25
      · have hf := tn hf c1
        refine lv_aload_n hx hb dX6_becomes_8 rfl (lv_at hl 0 rfl) ?_
        refine va_get (D := gD G) (ci := 4) (v := .ref (a0 0)) (C := RX6) (T := TX6) (N := 22) hx hb hg kl_X6 hown hK hP 0 rfl rfl 0 (by decide) (hg _ kq5_5) (fun _ h9 => h9) rfl dX6_becomes_9 ?_
        refine lv_iload_n hx hb dX6_becomes_12 rfl (lv_at hl 3 rfl) ?_
        refine lv_aload_n hx hb dX6_becomes_13 rfl (lv_at hl 1 rfl) ?_
        refine lv_iload_n hx hb dX6_becomes_14 rfl (lv_at hl 2 rfl) ?_
        refine lv_iload_n hx hb dX6_becomes_15 rfl (lv_at hl 3 rfl) ?_
        refine lv_iadd hx hb dX6_becomes_16 ?_
        obtain ⟨b2, hf⟩ := tno hf
        refine va_lald (f := (u0.2.2.2 2)) hx hb hK hP 3 2 rfl rfl b2 dX6_becomes_17 ?_
        obtain ⟨b3, hf⟩ := tno hf
        refine va_last (f := (u0.2.2.2 0)) hx hb hK hP hD hS 1 2 rfl rfl b3 dX6_becomes_18 (fun H locs hP hD hS => ?_)
        have hP : va_P (gD G) vwCl (wX6 G h0 a0 (oj u0 0 (vp_updL (u0.2.2.2 0) x3.toNatClampNeg ((u0.2.2.2 2) (x2 + x3).toNatClampNeg)))) H := hP
        have hD : va_D A (wX6 G h0 a0 (oj u0 0 (vp_updL (u0.2.2.2 0) x3.toNatClampNeg ((u0.2.2.2 2) (x2 + x3).toNatClampNeg)))) := hD
        refine lv_iinc (v := (x3 + (1 : Int32))) (lv' := [(3, .int (x3 + (1 : Int32))), (0, .ref h0), (1, .ref (a0 2)), (2, .int x2)]) hx hb dX6_becomes_19 hl (k := 3) rfl rfl (by decide) rfl (fun ls hl => ?_)
        refine lv_goto (tgt := 2) hx hb dX6_becomes_22 (by decide) ?_
        exact ih _ _ hf _ _ _ hP hD hS (lv_sub hl [1, 2, 3, 0] rfl)
  rw [f_X6_becomes_2] at hf
  refine lv_iconst (v := (0 : Int32)) hx hb dX6_becomes_0 (by decide) ?_
  refine lv_istore_n (lv' := [(3, .int (0 : Int32)), (0, .ref h0), (1, .ref (a0 2)), (2, .int x2)]) hx hb dX6_becomes_1 rfl hl (by decide) rfl (fun ls hl => ?_)
  exact lp_2 N _ _ hf _ _ _ hP hD hS (lv_sub hl [1, 2, 3, 0] rfl)
set_option maxRecDepth 100000 in
set_option maxHeartbeats 4000000 in
theorem c_X6_load {l : Launch} {G : Gp} {sz N : Nat} {x1 : Int32} {h0 : Nat} {a0 : Nat → Nat} {u0 : Ob} {q : Int32 × Ob} (hf : f_X6_load N x1 u0 = some q) : Met l yX6_load (Cond.code yX6_load cX6_load 3 (some .int) :: lw_g) ({ frames := 13, cells := 0, slots := 0, locals := 329 } : Room) (va_Pc [.ref h0, .int x1] (pw G (wX6 G h0 a0 u0) sz)) (va_Qi (fun (r : Int32) (v : Ob) => q.1 = r ∧ q.2 = v) (bw G (fun v : Ob => (wX6 G h0 a0 v)) (va_A (wX6 G h0 a0 u0) sz)) (va_A (wX6 G h0 a0 u0) sz)) 0 0 (va_A (wX6 G h0 a0 u0) sz) := by
  refine mt (Qc := (fun A => va_Qi (fun (r : Int32) (v : Ob) => q.1 = r ∧ q.2 = v) (bw G (fun v : Ob => (wX6 G h0 a0 v)) A) A)) (by decide) (Nat.le_of_ble_eq_true rfl) ?_
  intro p e s m below meth c A ls hx hb hr hlk hml hts hown hA hP hK hD hE hS hl
  have hown : s.vm.findClass RX6 = some m.cls := hown
  have hg : ∀ w ∈ lw_g, w.before ([.ref h0, .int x1] : List Value).toArray s = true := fun w h => hts w (List.mem_cons_of_mem _ h)
  have hC : CallFix p m c cX6_load 3 s ([.ref h0, .int x1] : List Value).toArray (Cond.code yX6_load cX6_load 3 (some .int) :: lw_g) RX6 := ⟨hx, hb, hml, hown, hts⟩
  have hl : lv_has ls 3 [(0, .ref h0), (1, .int x1)] := hl
  have lp_138 : ∀ (n : Nat) (x2 : Int32) (u0 : Ob), l_X6_load_138 N x1 n x2 u0 = some q → ∀ (H : Heap) (locs : List Loc) (ls : Array Slot), va_P (gD G) vwCl (wX6 G h0 a0 u0) H → va_D A (wX6 G h0 a0 u0) → va_S A s.heap H locs → lv_has ls 3 [(0, .ref h0), (1, .int x1), (2, .int x2)] → W p l e ({ frames := 13, cells := 0, slots := 0, locals := 329 } : Room) s m ([.ref h0, .int x1] : List Value).toArray below meth c H locs 0 0 (MQ below (va_Qi (fun (r : Int32) (v : Ob) => q.1 = r ∧ q.2 = v) (bw G (fun v : Ob => (wX6 G h0 a0 v)) A) A) ([.ref h0, .int x1] : List Value).toArray s 0 0 A) (F0 m 138 ls []) := by
    intro n
    induction n with
    | zero => intro x2 u0 hf; rw [l_X6_load_138] at hf; cases hf
    | succ n ih =>
      intro x2 u0 hf H locs ls hP hD hS hl
      rw [l_X6_load_138] at hf
      refine lv_iload_n hx hb dX6_load_138 rfl (lv_at hl 2 rfl) ?_
      refine lv_bipush (v := (48 : Int32)) hx hb dX6_load_139 (by decide) ?_
      refine lv_icmp_ge (tgt := 162) hx hb dX6_load_141 (by decide) (fun c15 => ?_) (fun c15 => ?_)
      · have hf := tp hf c15
        refine lv_aload_n hx hb dX6_load_162 rfl (lv_at hl 0 rfl) ?_
        refine lv_aload_n hx hb dX6_load_163 rfl (lv_at hl 0 rfl) ?_
        refine va_get (D := gD G) (ci := 4) (v := .ref (a0 2)) (C := RX6) (T := TX6) (N := 22) hx hb hg kl_X6 hown hK hP 0 rfl rfl 2 (by decide) (hg _ kq5_7) (fun _ h9 => h9) rfl dX6_load_164 ?_
        refine lv_iconst (v := (0 : Int32)) hx hb dX6_load_167 (by decide) ?_
        obtain ⟨q16, e17, hf⟩ := tbd hf
        refine kVv1 (As := [.ref (a0 2), .int (0 : Int32)]) (rest := []) hC (c_X6_becomes_2 (G := G) e17) kq5_1 kc_X6_becomes_2 (by decide) 0 (ci := 4) rfl rfl hP hK hD hE hS hA hl.1 (Nat.le_of_ble_eq_true rfl) ⟨Nat.zero_le _, Nat.zero_le _⟩ dX6_load_168 (fun u9 H locs hw hP hD hS => ?_)
        obtain rfl := hw
        have hP : va_P (gD G) vwCl (wX6 G h0 a0 q16) H := hP
        have hD : va_D A (wX6 G h0 a0 q16) := hD
        refine lv_aload_n hx hb dX6_load_171 rfl (lv_at hl 0 rfl) ?_
        refine va_get (D := gD G) (ci := 4) (v := .int (q16.1 15)) (C := RX6) (T := TX6) (N := 22) hx hb hg kl_X6 hown hK hP 0 rfl rfl 15 (by decide) (hg _ kq5_20) (fun _ h9 => h9) rfl dX6_load_172 ?_
        refine lv_if_eq (tgt := 183) hx hb dX6_load_175 (by decide) (fun c18 => ?_) (fun c18 => ?_)
        · have hf := tp hf c18
          refine lv_aload_n hx hb dX6_load_183 rfl (lv_at hl 0 rfl) ?_
          obtain ⟨q19, e20, hf⟩ := tbd hf
          refine kVv1 (As := []) (rest := []) hC (c_X6_keeps (G := G) e20) kq5_91 kc_X6_keeps (by decide) 0 (ci := 4) rfl rfl hP hK hD hE hS hA hl.1 (Nat.le_of_ble_eq_true rfl) ⟨Nat.zero_le _, Nat.zero_le _⟩ dX6_load_184 (fun u9 H locs hw hP hD hS => ?_)
          obtain rfl := hw
          have hP : va_P (gD G) vwCl (wX6 G h0 a0 q19) H := hP
          have hD : va_D A (wX6 G h0 a0 q19) := hD
          refine lv_aload_n hx hb dX6_load_187 rfl (lv_at hl 0 rfl) ?_
          refine lv_aload_n hx hb dX6_load_188 rfl (lv_at hl 0 rfl) ?_
          refine va_get (D := gD G) (ci := 4) (v := .ref (a0 1)) (C := RX6) (T := TX6) (N := 22) hx hb hg kl_X6 hown hK hP 0 rfl rfl 1 (by decide) (hg _ kq5_6) (fun _ h9 => h9) rfl dX6_load_189 ?_
          refine lv_iconst (v := (0 : Int32)) hx hb dX6_load_192 (by decide) ?_
          obtain ⟨q21, e22, hf⟩ := tbd hf
          refine kVv1 (As := [.ref (a0 1), .int (0 : Int32)]) (rest := []) hC (c_X6_becomes_1 (G := G) e22) kq5_1 kc_X6_becomes_1 (by decide) 0 (ci := 4) rfl rfl hP hK hD hE hS hA hl.1 (Nat.le_of_ble_eq_true rfl) ⟨Nat.zero_le _, Nat.zero_le _⟩ dX6_load_193 (fun u9 H locs hw hP hD hS => ?_)
          obtain rfl := hw
          have hP : va_P (gD G) vwCl (wX6 G h0 a0 q21) H := hP
          have hD : va_D A (wX6 G h0 a0 q21) := hD
          refine lv_aload_n hx hb dX6_load_196 rfl (lv_at hl 0 rfl) ?_
          refine va_get (D := gD G) (ci := 4) (v := .ref (a0 0)) (C := RX6) (T := TX6) (N := 22) hx hb hg kl_X6 hown hK hP 0 rfl rfl 0 (by decide) (hg _ kq5_5) (fun _ h9 => h9) rfl dX6_load_197 ?_
          refine lv_bipush (v := (12 : Int32)) hx hb dX6_load_200 (by decide) ?_
          refine va_lald (f := (q21.2.2.2 0)) hx hb hK hP 1 2 rfl rfl (vin (by decide)) dX6_load_202 ?_
          refine lv_l2i (v := ((q21.2.2.2 0) (12 : Int32).toNatClampNeg).toInt32) hx hb dX6_load_203 rfl ?_
          have hf := Option.some.inj hf
          subst hf
          exact e_i (wf := (fun v : Ob => (wX6 G h0 a0 v))) hx hb hr hlk q21 ⟨rfl, rfl⟩ hP hK hD hS dX6_load_204
        · have hf := tn hf c18
          refine lv_aload_n hx hb dX6_load_178 rfl (lv_at hl 0 rfl) ?_
          refine va_get (D := gD G) (ci := 4) (v := .int (q16.1 15)) (C := RX6) (T := TX6) (N := 22) hx hb hg kl_X6 hown hK hP 0 rfl rfl 15 (by decide) (hg _ kq5_20) (fun _ h9 => h9) rfl dX6_load_179 ?_
          have hf := Option.some.inj hf
          subst hf
          exact e_i (wf := (fun v : Ob => (wX6 G h0 a0 v))) hx hb hr hlk q16 ⟨rfl, rfl⟩ hP hK hD hS dX6_load_182
      · have hf := tn hf c15
        refine lv_aload_n hx hb dX6_load_144 rfl (lv_at hl 0 rfl) ?_
        refine va_get (D := gD G) (ci := 4) (v := .ref (a0 1)) (C := RX6) (T := TX6) (N := 22) hx hb hg kl_X6 hown hK hP 0 rfl rfl 1 (by decide) (hg _ kq5_6) (fun _ h9 => h9) rfl dX6_load_145 ?_
        refine lv_iload_n hx hb dX6_load_148 rfl (lv_at hl 2 rfl) ?_
        refine lv_aload_n hx hb dX6_load_149 rfl (lv_at hl 0 rfl) ?_
        refine va_get (D := gD G) (ci := 4) (v := .ref (a0 0)) (C := RX6) (T := TX6) (N := 22) hx hb hg kl_X6 hown hK hP 0 rfl rfl 0 (by decide) (hg _ kq5_5) (fun _ h9 => h9) rfl dX6_load_150 ?_
        refine lv_iload_n hx hb dX6_load_153 rfl (lv_at hl 2 rfl) ?_
        obtain ⟨b23, hf⟩ := tno hf
        refine va_lald (f := (u0.2.2.2 0)) hx hb hK hP 1 2 rfl rfl b23 dX6_load_154 ?_
        obtain ⟨b24, hf⟩ := tno hf
        refine va_last (f := (u0.2.2.2 1)) hx hb hK hP hD hS 2 2 rfl rfl b24 dX6_load_155 (fun H locs hP hD hS => ?_)
        have hP : va_P (gD G) vwCl (wX6 G h0 a0 (oj u0 1 (vp_updL (u0.2.2.2 1) x2.toNatClampNeg ((u0.2.2.2 0) x2.toNatClampNeg)))) H := hP
        have hD : va_D A (wX6 G h0 a0 (oj u0 1 (vp_updL (u0.2.2.2 1) x2.toNatClampNeg ((u0.2.2.2 0) x2.toNatClampNeg)))) := hD
        refine lv_iinc (v := (x2 + (1 : Int32))) (lv' := [(2, .int (x2 + (1 : Int32))), (0, .ref h0), (1, .int x1)]) hx hb dX6_load_156 hl (k := 2) rfl rfl (by decide) rfl (fun ls hl => ?_)
        refine lv_goto (tgt := 138) hx hb dX6_load_159 (by decide) ?_
        exact ih _ _ hf _ _ _ hP hD hS (lv_sub hl [1, 2, 0] rfl)
  have lp_95 : ∀ (n : Nat) (x2 : Int32) (u0 : Ob), l_X6_load_95 N x1 n x2 u0 = some q → ∀ (H : Heap) (locs : List Loc) (ls : Array Slot), va_P (gD G) vwCl (wX6 G h0 a0 u0) H → va_D A (wX6 G h0 a0 u0) → va_S A s.heap H locs → lv_has ls 3 [(0, .ref h0), (1, .int x1), (2, .int x2)] → W p l e ({ frames := 13, cells := 0, slots := 0, locals := 329 } : Room) s m ([.ref h0, .int x1] : List Value).toArray below meth c H locs 0 0 (MQ below (va_Qi (fun (r : Int32) (v : Ob) => q.1 = r ∧ q.2 = v) (bw G (fun v : Ob => (wX6 G h0 a0 v)) A) A) ([.ref h0, .int x1] : List Value).toArray s 0 0 A) (F0 m 95 ls []) := by
    intro n
    induction n with
    | zero => intro x2 u0 hf; rw [l_X6_load_95] at hf; cases hf
    | succ n ih =>
      intro x2 u0 hf H locs ls hP hD hS hl
      rw [l_X6_load_95] at hf
      refine lv_aload_n hx hb dX6_load_95 rfl (lv_at hl 0 rfl) ?_
      refine va_get (D := gD G) (ci := 4) (v := .int (u0.1 15)) (C := RX6) (T := TX6) (N := 22) hx hb hg kl_X6 hown hK hP 0 rfl rfl 15 (by decide) (hg _ kq5_20) (fun _ h9 => h9) rfl dX6_load_96 ?_
      refine lv_if_ne (tgt := 117) hx hb dX6_load_99 (by decide) (fun c13 => ?_) (fun c13 => ?_)
      · have hf := tn hf c13
        refine lv_aload_n hx hb dX6_load_117 rfl (lv_at hl 0 rfl) ?_
        refine lv_aload_n hx hb dX6_load_118 rfl (lv_at hl 0 rfl) ?_
        refine va_get (D := gD G) (ci := 4) (v := .int (u0.1 15)) (C := RX6) (T := TX6) (N := 22) hx hb hg kl_X6 hown hK hP 0 rfl rfl 15 (by decide) (hg _ kq5_20) (fun _ h9 => h9) rfl dX6_load_119 ?_
        refine lv_if_ne (tgt := 129) hx hb dX6_load_122 (by decide) (fun c14 => ?_) (fun c14 => ?_)
        · have hf := tn hf c14
          refine lv_aload_n hx hb dX6_load_129 rfl (lv_at hl 0 rfl) ?_
          refine va_get (D := gD G) (ci := 4) (v := .int (u0.1 16)) (C := RX6) (T := TX6) (N := 22) hx hb hg kl_X6 hown hK hP 0 rfl rfl 16 (by decide) (hg _ kq5_21) (fun _ h9 => h9) rfl dX6_load_130 ?_
          refine va_put (D := gD G) (ci := 4) (v := .int (u0.1 16)) (ty := .int) (C := RX6) (T := TX6) (N := 22) hx hb hg kl_X6 tyX6 tyX6_ok nmX6 hown hK hP hD hS 0 rfl rfl 17 (by decide) (hg _ kq5_22) (fun _ h9 => h9) rfl (by decide +kernel) rfl rfl (Nat.le_of_ble_eq_true rfl) dX6_load_133 (fun H locs hP hD hS => ?_)
          have hP : va_P (gD G) vwCl (wX6 G h0 a0 (oi u0 17 (u0.1 16))) H := hP
          have hD : va_D A (wX6 G h0 a0 (oi u0 17 (u0.1 16))) := hD
          refine lv_iconst (v := (0 : Int32)) hx hb dX6_load_136 (by decide) ?_
          refine lv_istore_n (lv' := [(2, .int (0 : Int32)), (0, .ref h0), (1, .int x1)]) hx hb dX6_load_137 rfl hl (by decide) rfl (fun ls hl => ?_)
          exact lp_138 N _ _ hf _ _ _ hP hD hS (lv_sub hl [1, 2, 0] rfl)
        · have hf := tp hf c14
          refine lv_iconst (v := (-1 : Int32)) hx hb dX6_load_125 (by decide) ?_
          refine lv_goto (tgt := 133) hx hb dX6_load_126 (by decide) ?_
          refine va_put (D := gD G) (ci := 4) (v := .int (-1 : Int32)) (ty := .int) (C := RX6) (T := TX6) (N := 22) hx hb hg kl_X6 tyX6 tyX6_ok nmX6 hown hK hP hD hS 0 rfl rfl 17 (by decide) (hg _ kq5_22) (fun _ h9 => h9) rfl (by decide +kernel) rfl rfl (Nat.le_of_ble_eq_true rfl) dX6_load_133 (fun H locs hP hD hS => ?_)
          have hP : va_P (gD G) vwCl (wX6 G h0 a0 (oi u0 17 (-1 : Int32))) H := hP
          have hD : va_D A (wX6 G h0 a0 (oi u0 17 (-1 : Int32))) := hD
          refine lv_iconst (v := (0 : Int32)) hx hb dX6_load_136 (by decide) ?_
          refine lv_istore_n (lv' := [(2, .int (0 : Int32)), (0, .ref h0), (1, .int x1)]) hx hb dX6_load_137 rfl hl (by decide) rfl (fun ls hl => ?_)
          exact lp_138 N _ _ hf _ _ _ hP hD hS (lv_sub hl [1, 2, 0] rfl)
      · have hf := tp hf c13
        refine lv_aload_n hx hb dX6_load_102 rfl (lv_at hl 0 rfl) ?_
        refine va_get (D := gD G) (ci := 4) (v := .int (u0.1 14)) (C := RX6) (T := TX6) (N := 22) hx hb hg kl_X6 hown hK hP 0 rfl rfl 14 (by decide) (hg _ kq5_19) (fun _ h9 => h9) rfl dX6_load_103 ?_
        refine lv_iconst (v := (3 : Int32)) hx hb dX6_load_106 (by decide) ?_
        refine lv_icmp_eq (tgt := 117) hx hb dX6_load_107 (by decide) (fun c25 => ?_) (fun c25 => ?_)
        · have hf := tp hf c25
          refine lv_aload_n hx hb dX6_load_117 rfl (lv_at hl 0 rfl) ?_
          refine lv_aload_n hx hb dX6_load_118 rfl (lv_at hl 0 rfl) ?_
          refine va_get (D := gD G) (ci := 4) (v := .int (u0.1 15)) (C := RX6) (T := TX6) (N := 22) hx hb hg kl_X6 hown hK hP 0 rfl rfl 15 (by decide) (hg _ kq5_20) (fun _ h9 => h9) rfl dX6_load_119 ?_
          refine lv_if_ne (tgt := 129) hx hb dX6_load_122 (by decide) (fun c26 => ?_) (fun c26 => ?_)
          · have hf := tn hf c26
            refine lv_aload_n hx hb dX6_load_129 rfl (lv_at hl 0 rfl) ?_
            refine va_get (D := gD G) (ci := 4) (v := .int (u0.1 16)) (C := RX6) (T := TX6) (N := 22) hx hb hg kl_X6 hown hK hP 0 rfl rfl 16 (by decide) (hg _ kq5_21) (fun _ h9 => h9) rfl dX6_load_130 ?_
            refine va_put (D := gD G) (ci := 4) (v := .int (u0.1 16)) (ty := .int) (C := RX6) (T := TX6) (N := 22) hx hb hg kl_X6 tyX6 tyX6_ok nmX6 hown hK hP hD hS 0 rfl rfl 17 (by decide) (hg _ kq5_22) (fun _ h9 => h9) rfl (by decide +kernel) rfl rfl (Nat.le_of_ble_eq_true rfl) dX6_load_133 (fun H locs hP hD hS => ?_)
            have hP : va_P (gD G) vwCl (wX6 G h0 a0 (oi u0 17 (u0.1 16))) H := hP
            have hD : va_D A (wX6 G h0 a0 (oi u0 17 (u0.1 16))) := hD
            refine lv_iconst (v := (0 : Int32)) hx hb dX6_load_136 (by decide) ?_
            refine lv_istore_n (lv' := [(2, .int (0 : Int32)), (0, .ref h0), (1, .int x1)]) hx hb dX6_load_137 rfl hl (by decide) rfl (fun ls hl => ?_)
            exact lp_138 N _ _ hf _ _ _ hP hD hS (lv_sub hl [1, 2, 0] rfl)
          · have hf := tp hf c26
            refine lv_iconst (v := (-1 : Int32)) hx hb dX6_load_125 (by decide) ?_
            refine lv_goto (tgt := 133) hx hb dX6_load_126 (by decide) ?_
            refine va_put (D := gD G) (ci := 4) (v := .int (-1 : Int32)) (ty := .int) (C := RX6) (T := TX6) (N := 22) hx hb hg kl_X6 tyX6 tyX6_ok nmX6 hown hK hP hD hS 0 rfl rfl 17 (by decide) (hg _ kq5_22) (fun _ h9 => h9) rfl (by decide +kernel) rfl rfl (Nat.le_of_ble_eq_true rfl) dX6_load_133 (fun H locs hP hD hS => ?_)
            have hP : va_P (gD G) vwCl (wX6 G h0 a0 (oi u0 17 (-1 : Int32))) H := hP
            have hD : va_D A (wX6 G h0 a0 (oi u0 17 (-1 : Int32))) := hD
            refine lv_iconst (v := (0 : Int32)) hx hb dX6_load_136 (by decide) ?_
            refine lv_istore_n (lv' := [(2, .int (0 : Int32)), (0, .ref h0), (1, .int x1)]) hx hb dX6_load_137 rfl hl (by decide) rfl (fun ls hl => ?_)
            exact lp_138 N _ _ hf _ _ _ hP hD hS (lv_sub hl [1, 2, 0] rfl)
        · have hf := tn hf c25
          refine lv_aload_n hx hb dX6_load_110 rfl (lv_at hl 0 rfl) ?_
          obtain ⟨q27, e28, hf⟩ := tbd hf
          refine kVv1 (As := []) (rest := []) hC (c_X6_readsStatement (G := G) e28) kq5_176 kc_X6_readsStatement (by decide) 0 (ci := 4) rfl rfl hP hK hD hE hS hA hl.1 (Nat.le_of_ble_eq_true rfl) ⟨Nat.zero_le _, Nat.zero_le _⟩ dX6_load_111 (fun u9 H locs hw hP hD hS => ?_)
          obtain rfl := hw
          have hP : va_P (gD G) vwCl (wX6 G h0 a0 q27) H := hP
          have hD : va_D A (wX6 G h0 a0 q27) := hD
          refine lv_goto (tgt := 95) hx hb dX6_load_114 (by decide) ?_
          exact ih _ _ hf _ _ _ hP hD hS (lv_sub hl [0, 1, 2] rfl)
  have lp_54 : ∀ (n : Nat) (x2 : Int32) (u0 : Ob), l_X6_load_54 N x1 n x2 u0 = some q → ∀ (H : Heap) (locs : List Loc) (ls : Array Slot), va_P (gD G) vwCl (wX6 G h0 a0 u0) H → va_D A (wX6 G h0 a0 u0) → va_S A s.heap H locs → lv_has ls 3 [(0, .ref h0), (1, .int x1), (2, .int x2)] → W p l e ({ frames := 13, cells := 0, slots := 0, locals := 329 } : Room) s m ([.ref h0, .int x1] : List Value).toArray below meth c H locs 0 0 (MQ below (va_Qi (fun (r : Int32) (v : Ob) => q.1 = r ∧ q.2 = v) (bw G (fun v : Ob => (wX6 G h0 a0 v)) A) A) ([.ref h0, .int x1] : List Value).toArray s 0 0 A) (F0 m 54 ls []) := by
    intro n
    induction n with
    | zero => intro x2 u0 hf; rw [l_X6_load_54] at hf; cases hf
    | succ n ih =>
      intro x2 u0 hf H locs ls hP hD hS hl
      rw [l_X6_load_54] at hf
      refine lv_iload_n hx hb dX6_load_54 rfl (lv_at hl 2 rfl) ?_
      refine lv_bipush (v := (48 : Int32)) hx hb dX6_load_55 (by decide) ?_
      refine lv_icmp_ge (tgt := 78) hx hb dX6_load_57 (by decide) (fun c6 => ?_) (fun c6 => ?_)
      · have hf := tp hf c6
        refine lv_aload_n hx hb dX6_load_78 rfl (lv_at hl 0 rfl) ?_
        obtain ⟨q7, e8, hf⟩ := tbd hf
        refine kVv1 (As := []) (rest := []) hC (c_X6_begins (G := G) e8) kq4_233 kc_X6_begins (by decide) 0 (ci := 4) rfl rfl hP hK hD hE hS hA hl.1 (Nat.le_of_ble_eq_true rfl) ⟨Nat.zero_le _, Nat.zero_le _⟩ dX6_load_79 (fun u9 H locs hw hP hD hS => ?_)
        obtain rfl := hw
        have hP : va_P (gD G) vwCl (wX6 G h0 a0 q7) H := hP
        have hD : va_D A (wX6 G h0 a0 q7) := hD
        refine lv_aload_n hx hb dX6_load_82 rfl (lv_at hl 0 rfl) ?_
        refine lv_aload_n hx hb dX6_load_83 rfl (lv_at hl 0 rfl) ?_
        refine va_get (D := gD G) (ci := 4) (v := .ref (a0 1)) (C := RX6) (T := TX6) (N := 22) hx hb hg kl_X6 hown hK hP 0 rfl rfl 1 (by decide) (hg _ kq5_6) (fun _ h9 => h9) rfl dX6_load_84 ?_
        refine lv_iconst (v := (0 : Int32)) hx hb dX6_load_87 (by decide) ?_
        obtain ⟨q9, e10, hf⟩ := tbd hf
        refine kVv1 (As := [.ref (a0 1), .int (0 : Int32)]) (rest := []) hC (c_X6_becomes_1 (G := G) e10) kq5_1 kc_X6_becomes_1 (by decide) 0 (ci := 4) rfl rfl hP hK hD hE hS hA hl.1 (Nat.le_of_ble_eq_true rfl) ⟨Nat.zero_le _, Nat.zero_le _⟩ dX6_load_88 (fun u9 H locs hw hP hD hS => ?_)
        obtain rfl := hw
        have hP : va_P (gD G) vwCl (wX6 G h0 a0 q9) H := hP
        have hD : va_D A (wX6 G h0 a0 q9) := hD
        refine lv_aload_n hx hb dX6_load_91 rfl (lv_at hl 0 rfl) ?_
        obtain ⟨q11, e12, hf⟩ := tbd hf
        refine kVv1 (As := []) (rest := []) hC (c_X6_next (G := G) e12) kq5_156 kc_X6_next (by decide) 0 (ci := 4) rfl rfl hP hK hD hE hS hA hl.1 (Nat.le_of_ble_eq_true rfl) ⟨Nat.zero_le _, Nat.zero_le _⟩ dX6_load_92 (fun u9 H locs hw hP hD hS => ?_)
        obtain rfl := hw
        have hP : va_P (gD G) vwCl (wX6 G h0 a0 q11) H := hP
        have hD : va_D A (wX6 G h0 a0 q11) := hD
        exact lp_95 N _ _ hf _ _ _ hP hD hS (lv_sub hl [0, 1, 2] rfl)
      · have hf := tn hf c6
        refine lv_aload_n hx hb dX6_load_60 rfl (lv_at hl 0 rfl) ?_
        refine va_get (D := gD G) (ci := 4) (v := .ref (a0 2)) (C := RX6) (T := TX6) (N := 22) hx hb hg kl_X6 hown hK hP 0 rfl rfl 2 (by decide) (hg _ kq5_7) (fun _ h9 => h9) rfl dX6_load_61 ?_
        refine lv_iload_n hx hb dX6_load_64 rfl (lv_at hl 2 rfl) ?_
        refine lv_aload_n hx hb dX6_load_65 rfl (lv_at hl 0 rfl) ?_
        refine va_get (D := gD G) (ci := 4) (v := .ref (a0 0)) (C := RX6) (T := TX6) (N := 22) hx hb hg kl_X6 hown hK hP 0 rfl rfl 0 (by decide) (hg _ kq5_5) (fun _ h9 => h9) rfl dX6_load_66 ?_
        refine lv_iload_n hx hb dX6_load_69 rfl (lv_at hl 2 rfl) ?_
        obtain ⟨b29, hf⟩ := tno hf
        refine va_lald (f := (u0.2.2.2 0)) hx hb hK hP 1 2 rfl rfl b29 dX6_load_70 ?_
        obtain ⟨b30, hf⟩ := tno hf
        refine va_last (f := (u0.2.2.2 2)) hx hb hK hP hD hS 3 2 rfl rfl b30 dX6_load_71 (fun H locs hP hD hS => ?_)
        have hP : va_P (gD G) vwCl (wX6 G h0 a0 (oj u0 2 (vp_updL (u0.2.2.2 2) x2.toNatClampNeg ((u0.2.2.2 0) x2.toNatClampNeg)))) H := hP
        have hD : va_D A (wX6 G h0 a0 (oj u0 2 (vp_updL (u0.2.2.2 2) x2.toNatClampNeg ((u0.2.2.2 0) x2.toNatClampNeg)))) := hD
        refine lv_iinc (v := (x2 + (1 : Int32))) (lv' := [(2, .int (x2 + (1 : Int32))), (0, .ref h0), (1, .int x1)]) hx hb dX6_load_72 hl (k := 2) rfl rfl (by decide) rfl (fun ls hl => ?_)
        refine lv_goto (tgt := 54) hx hb dX6_load_75 (by decide) ?_
        exact ih _ _ hf _ _ _ hP hD hS (lv_sub hl [1, 2, 0] rfl)
  rw [f_X6_load] at hf
  refine lv_aload_n hx hb dX6_load_0 rfl (lv_at hl 0 rfl) ?_
  refine lv_iload_n hx hb dX6_load_1 rfl (lv_at hl 1 rfl) ?_
  refine lv_i2l (v := x1.toInt64) hx hb dX6_load_2 rfl ?_
  refine lv_lconst (v := (0 : Int64)) hx hb dX6_load_3 (by decide) ?_
  refine lv_aload_n hx hb dX6_load_4 rfl (lv_at hl 0 rfl) ?_
  refine va_get (D := gD G) (ci := 4) (v := .int (u0.1 10)) (C := RX6) (T := TX6) (N := 22) hx hb hg kl_X6 hown hK hP 0 rfl rfl 10 (by decide) (hg _ kq5_15) (fun _ h9 => h9) rfl dX6_load_5 ?_
  refine lv_i2l (v := (u0.1 10).toInt64) hx hb dX6_load_8 rfl ?_
  obtain ⟨q1, e2, hf⟩ := tbd hf
  refine kSi0 (As := [.long x1.toInt64, .long (0 : Int64), .long (u0.1 10).toInt64]) (rest := [.ref h0]) hC (c_X6_isIn (G := G) e2) kq5_84 kc_X6_isIn (by decide) hP hK hD hE hS hA hl.1 (Nat.le_of_ble_eq_true rfl) ⟨Nat.zero_le _, Nat.zero_le _⟩ dX6_load_9 (fun r9 u9 H locs hw hP hD hS => ?_)
  obtain ⟨rfl, rfl⟩ := hw
  refine bz_eq (tgt := 19) hx hb dX6_load_12 (by decide) (fun c3 => ?_) (fun c3 => ?_)
  · have hf := tn hf c3
    refine lv_iconst (v := (1 : Int32)) hx hb dX6_load_19 (by decide) ?_
    refine va_put (D := gD G) (ci := 4) (v := .int (1 : Int32)) (ty := .int) (C := RX6) (T := TX6) (N := 22) hx hb hg kl_X6 tyX6 tyX6_ok nmX6 hown hK hP hD hS 0 rfl rfl 7 (by decide) (hg _ kq5_12) (fun _ h9 => h9) rfl (by decide +kernel) rfl rfl (Nat.le_of_ble_eq_true rfl) dX6_load_20 (fun H locs hP hD hS => ?_)
    have hP : va_P (gD G) vwCl (wX6 G h0 a0 (oi u0 7 (1 : Int32))) H := hP
    have hD : va_D A (wX6 G h0 a0 (oi u0 7 (1 : Int32))) := hD
    refine lv_aload_n hx hb dX6_load_23 rfl (lv_at hl 0 rfl) ?_
    refine va_get (D := gD G) (ci := 4) (v := .int (1 : Int32)) (C := RX6) (T := TX6) (N := 22) hx hb hg kl_X6 hown hK hP 0 rfl rfl 7 (by decide) (hg _ kq5_12) (fun _ h9 => h9) rfl dX6_load_24 ?_
    refine lv_if_le (tgt := 32) hx hb dX6_load_27 (by decide) (fun c4 => ?_) (fun c4 => ?_)
    · exact absurd c4 (by decide)
    refine lv_iconst (v := (0 : Int32)) hx hb dX6_load_30 (by decide) ?_
    have hf := Option.some.inj hf
    subst hf
    exact e_i (wf := (fun v : Ob => (wX6 G h0 a0 v))) hx hb hr hlk (oi u0 7 (1 : Int32)) ⟨rfl, rfl⟩ hP hK hD hS dX6_load_31
  · have hf := tp hf c3
    refine lv_iconst (v := (0 : Int32)) hx hb dX6_load_15 (by decide) ?_
    refine lv_goto (tgt := 20) hx hb dX6_load_16 (by decide) ?_
    refine va_put (D := gD G) (ci := 4) (v := .int (0 : Int32)) (ty := .int) (C := RX6) (T := TX6) (N := 22) hx hb hg kl_X6 tyX6 tyX6_ok nmX6 hown hK hP hD hS 0 rfl rfl 7 (by decide) (hg _ kq5_12) (fun _ h9 => h9) rfl (by decide +kernel) rfl rfl (Nat.le_of_ble_eq_true rfl) dX6_load_20 (fun H locs hP hD hS => ?_)
    have hP : va_P (gD G) vwCl (wX6 G h0 a0 (oi u0 7 (0 : Int32))) H := hP
    have hD : va_D A (wX6 G h0 a0 (oi u0 7 (0 : Int32))) := hD
    refine lv_aload_n hx hb dX6_load_23 rfl (lv_at hl 0 rfl) ?_
    refine va_get (D := gD G) (ci := 4) (v := .int (0 : Int32)) (C := RX6) (T := TX6) (N := 22) hx hb hg kl_X6 hown hK hP 0 rfl rfl 7 (by decide) (hg _ kq5_12) (fun _ h9 => h9) rfl dX6_load_24 ?_
    refine lv_if_le (tgt := 32) hx hb dX6_load_27 (by decide) (fun c5 => ?_) (fun c5 => ?_)
    rotate_left
    · exact absurd c5 (by decide)
    refine lv_aload_n hx hb dX6_load_32 rfl (lv_at hl 0 rfl) ?_
    refine lv_iload_n hx hb dX6_load_33 rfl (lv_at hl 1 rfl) ?_
    refine va_put (D := gD G) (ci := 4) (v := .int x1) (ty := .int) (C := RX6) (T := TX6) (N := 22) hx hb hg kl_X6 tyX6 tyX6_ok nmX6 hown hK hP hD hS 0 rfl rfl 11 (by decide) (hg _ kq5_16) (fun _ h9 => h9) rfl (by decide +kernel) rfl rfl (Nat.le_of_ble_eq_true rfl) dX6_load_34 (fun H locs hP hD hS => ?_)
    have hP : va_P (gD G) vwCl (wX6 G h0 a0 (oi (oi u0 7 (0 : Int32)) 11 x1)) H := hP
    have hD : va_D A (wX6 G h0 a0 (oi (oi u0 7 (0 : Int32)) 11 x1)) := hD
    refine lv_aload_n hx hb dX6_load_37 rfl (lv_at hl 0 rfl) ?_
    refine lv_iconst (v := (0 : Int32)) hx hb dX6_load_38 (by decide) ?_
    refine va_put (D := gD G) (ci := 4) (v := .int (0 : Int32)) (ty := .int) (C := RX6) (T := TX6) (N := 22) hx hb hg kl_X6 tyX6 tyX6_ok nmX6 hown hK hP hD hS 0 rfl rfl 10 (by decide) (hg _ kq5_15) (fun _ h9 => h9) rfl (by decide +kernel) rfl rfl (Nat.le_of_ble_eq_true rfl) dX6_load_39 (fun H locs hP hD hS => ?_)
    have hP : va_P (gD G) vwCl (wX6 G h0 a0 (oi (oi (oi u0 7 (0 : Int32)) 11 x1) 10 (0 : Int32))) H := hP
    have hD : va_D A (wX6 G h0 a0 (oi (oi (oi u0 7 (0 : Int32)) 11 x1) 10 (0 : Int32))) := hD
    refine lv_aload_n hx hb dX6_load_42 rfl (lv_at hl 0 rfl) ?_
    refine lv_iconst (v := (0 : Int32)) hx hb dX6_load_43 (by decide) ?_
    refine va_put (D := gD G) (ci := 4) (v := .int (0 : Int32)) (ty := .int) (C := RX6) (T := TX6) (N := 22) hx hb hg kl_X6 tyX6 tyX6_ok nmX6 hown hK hP hD hS 0 rfl rfl 13 (by decide) (hg _ kq5_18) (fun _ h9 => h9) rfl (by decide +kernel) rfl rfl (Nat.le_of_ble_eq_true rfl) dX6_load_44 (fun H locs hP hD hS => ?_)
    have hP : va_P (gD G) vwCl (wX6 G h0 a0 (oi (oi (oi (oi u0 7 (0 : Int32)) 11 x1) 10 (0 : Int32)) 13 (0 : Int32))) H := hP
    have hD : va_D A (wX6 G h0 a0 (oi (oi (oi (oi u0 7 (0 : Int32)) 11 x1) 10 (0 : Int32)) 13 (0 : Int32))) := hD
    refine lv_aload_n hx hb dX6_load_47 rfl (lv_at hl 0 rfl) ?_
    refine lv_iconst (v := (0 : Int32)) hx hb dX6_load_48 (by decide) ?_
    refine va_put (D := gD G) (ci := 4) (v := .int (0 : Int32)) (ty := .int) (C := RX6) (T := TX6) (N := 22) hx hb hg kl_X6 tyX6 tyX6_ok nmX6 hown hK hP hD hS 0 rfl rfl 15 (by decide) (hg _ kq5_20) (fun _ h9 => h9) rfl (by decide +kernel) rfl rfl (Nat.le_of_ble_eq_true rfl) dX6_load_49 (fun H locs hP hD hS => ?_)
    have hP : va_P (gD G) vwCl (wX6 G h0 a0 (oi (oi (oi (oi (oi u0 7 (0 : Int32)) 11 x1) 10 (0 : Int32)) 13 (0 : Int32)) 15 (0 : Int32))) H := hP
    have hD : va_D A (wX6 G h0 a0 (oi (oi (oi (oi (oi u0 7 (0 : Int32)) 11 x1) 10 (0 : Int32)) 13 (0 : Int32)) 15 (0 : Int32))) := hD
    refine lv_iconst (v := (0 : Int32)) hx hb dX6_load_52 (by decide) ?_
    refine lv_istore_n (lv' := [(2, .int (0 : Int32)), (0, .ref h0), (1, .int x1)]) hx hb dX6_load_53 rfl hl (by decide) rfl (fun ls hl => ?_)
    exact lp_54 N _ _ hf _ _ _ hP hD hS (lv_sub hl [1, 2, 0] rfl)
set_option maxRecDepth 100000 in
set_option maxHeartbeats 4000000 in
theorem c_X6_errorPosition {l : Launch} {G : Gp} {sz N : Nat} {h0 : Nat} {a0 : Nat → Nat} {u0 : Ob} {q : Int32 × Ob} (hf : f_X6_errorPosition N u0 = some q) : Met l yX6_errorPosition (Cond.code yX6_errorPosition cX6_errorPosition 1 (some .int) :: lw_g) ({ frames := 0, cells := 0, slots := 0, locals := 0 } : Room) (va_Pc [.ref h0] (pw G (wX6 G h0 a0 u0) sz)) (va_Qi (fun (r : Int32) (v : Ob) => q.1 = r ∧ q.2 = v) (bw G (fun v : Ob => (wX6 G h0 a0 v)) (va_A (wX6 G h0 a0 u0) sz)) (va_A (wX6 G h0 a0 u0) sz)) 0 0 (va_A (wX6 G h0 a0 u0) sz) := by
  refine mt (Qc := (fun A => va_Qi (fun (r : Int32) (v : Ob) => q.1 = r ∧ q.2 = v) (bw G (fun v : Ob => (wX6 G h0 a0 v)) A) A)) (by decide) (Nat.le_of_ble_eq_true rfl) ?_
  intro p e s m below meth c A ls hx hb hr hlk hml hts hown hA hP hK hD hE hS hl
  have hown : s.vm.findClass RX6 = some m.cls := hown
  have hg : ∀ w ∈ lw_g, w.before ([.ref h0] : List Value).toArray s = true := fun w h => hts w (List.mem_cons_of_mem _ h)
  have hC : CallFix p m c cX6_errorPosition 1 s ([.ref h0] : List Value).toArray (Cond.code yX6_errorPosition cX6_errorPosition 1 (some .int) :: lw_g) RX6 := ⟨hx, hb, hml, hown, hts⟩
  have hl : lv_has ls 1 [(0, .ref h0)] := hl
  rw [f_X6_errorPosition] at hf
  refine lv_aload_n hx hb dX6_errorPosition_0 rfl (lv_at hl 0 rfl) ?_
  refine lv_iconst (v := (0 : Int32)) hx hb dX6_errorPosition_1 (by decide) ?_
  refine va_put (D := gD G) (ci := 4) (v := .int (0 : Int32)) (ty := .int) (C := RX6) (T := TX6) (N := 22) hx hb hg kl_X6 tyX6 tyX6_ok nmX6 hown hK hP hD hS 0 rfl rfl 7 (by decide) (hg _ kq5_12) (fun _ h9 => h9) rfl (by decide +kernel) rfl rfl (Nat.le_of_ble_eq_true rfl) dX6_errorPosition_2 (fun H locs hP hD hS => ?_)
  have hP : va_P (gD G) vwCl (wX6 G h0 a0 (oi u0 7 (0 : Int32))) H := hP
  have hD : va_D A (wX6 G h0 a0 (oi u0 7 (0 : Int32))) := hD
  refine lv_aload_n hx hb dX6_errorPosition_5 rfl (lv_at hl 0 rfl) ?_
  refine va_get (D := gD G) (ci := 4) (v := .int (u0.1 17)) (C := RX6) (T := TX6) (N := 22) hx hb hg kl_X6 hown hK hP 0 rfl rfl 17 (by decide) (hg _ kq5_22) (fun _ h9 => h9) rfl dX6_errorPosition_6 ?_
  have hf := Option.some.inj hf
  subst hf
  exact e_i (wf := (fun v : Ob => (wX6 G h0 a0 v))) hx hb hr hlk (oi u0 7 (0 : Int32)) ⟨rfl, rfl⟩ hP hK hD hS dX6_errorPosition_9
set_option maxRecDepth 100000 in
set_option maxHeartbeats 4000000 in
theorem c_X6_pulse {l : Launch} {G : Gp} {sz N : Nat} {x1 : Int32} {x2 : Int32} {h0 : Nat} {a0 : Nat → Nat} {u0 : Ob} {q : Int32 × Ob} (hf : f_X6_pulse N x1 x2 u0 = some q) : Met l yX6_pulse (Cond.code yX6_pulse cX6_pulse 3 (some .int) :: lw_g) ({ frames := 10, cells := 0, slots := 0, locals := 254 } : Room) (va_Pc [.ref h0, .int x1, .int x2] (pw G (wX6 G h0 a0 u0) sz)) (va_Qi (fun (r : Int32) (v : Ob) => q.1 = r ∧ q.2 = v) (bw G (fun v : Ob => (wX6 G h0 a0 v)) (va_A (wX6 G h0 a0 u0) sz)) (va_A (wX6 G h0 a0 u0) sz)) 0 0 (va_A (wX6 G h0 a0 u0) sz) := by
  refine mt (Qc := (fun A => va_Qi (fun (r : Int32) (v : Ob) => q.1 = r ∧ q.2 = v) (bw G (fun v : Ob => (wX6 G h0 a0 v)) A) A)) (by decide) (Nat.le_of_ble_eq_true rfl) ?_
  intro p e s m below meth c A ls hx hb hr hlk hml hts hown hA hP hK hD hE hS hl
  have hown : s.vm.findClass RX6 = some m.cls := hown
  have hg : ∀ w ∈ lw_g, w.before ([.ref h0, .int x1, .int x2] : List Value).toArray s = true := fun w h => hts w (List.mem_cons_of_mem _ h)
  have hC : CallFix p m c cX6_pulse 3 s ([.ref h0, .int x1, .int x2] : List Value).toArray (Cond.code yX6_pulse cX6_pulse 3 (some .int) :: lw_g) RX6 := ⟨hx, hb, hml, hown, hts⟩
  have hl : lv_has ls 3 [(0, .ref h0), (1, .int x1), (2, .int x2)] := hl
  rw [f_X6_pulse] at hf
  refine lv_aload_n hx hb dX6_pulse_0 rfl (lv_at hl 0 rfl) ?_
  refine lv_iload_n hx hb dX6_pulse_1 rfl (lv_at hl 1 rfl) ?_
  refine lv_i2l (v := x1.toInt64) hx hb dX6_pulse_2 rfl ?_
  refine lv_lconst (v := (0 : Int64)) hx hb dX6_pulse_3 (by decide) ?_
  refine lv_ldc2 hx hb hown (hg _ kq5_226) dX6_pulse_4 ?_
  obtain ⟨q1, e2, hf⟩ := tbd hf
  refine kSi0 (As := [.long x1.toInt64, .long (0 : Int64), .long (2000000000 : Int64)]) (rest := [.ref h0]) hC (c_X6_isIn (G := G) e2) kq5_84 kc_X6_isIn (by decide) hP hK hD hE hS hA hl.1 (Nat.le_of_ble_eq_true rfl) ⟨Nat.zero_le _, Nat.zero_le _⟩ dX6_pulse_7 (fun r9 u9 H locs hw hP hD hS => ?_)
  obtain ⟨rfl, rfl⟩ := hw
  refine bz_eq (tgt := 42) hx hb dX6_pulse_10 (by decide) (fun c3 => ?_) (fun c3 => ?_)
  · have hf := tn hf c3
    refine lv_iconst (v := (1 : Int32)) hx hb dX6_pulse_42 (by decide) ?_
    refine va_put (D := gD G) (ci := 4) (v := .int (1 : Int32)) (ty := .int) (C := RX6) (T := TX6) (N := 22) hx hb hg kl_X6 tyX6 tyX6_ok nmX6 hown hK hP hD hS 0 rfl rfl 7 (by decide) (hg _ kq5_12) (fun _ h9 => h9) rfl (by decide +kernel) rfl rfl (Nat.le_of_ble_eq_true rfl) dX6_pulse_43 (fun H locs hP hD hS => ?_)
    have hP : va_P (gD G) vwCl (wX6 G h0 a0 (oi u0 7 (1 : Int32))) H := hP
    have hD : va_D A (wX6 G h0 a0 (oi u0 7 (1 : Int32))) := hD
    refine lv_aload_n hx hb dX6_pulse_46 rfl (lv_at hl 0 rfl) ?_
    refine va_get (D := gD G) (ci := 4) (v := .int (1 : Int32)) (C := RX6) (T := TX6) (N := 22) hx hb hg kl_X6 hown hK hP 0 rfl rfl 7 (by decide) (hg _ kq5_12) (fun _ h9 => h9) rfl dX6_pulse_47 ?_
    refine lv_if_le (tgt := 55) hx hb dX6_pulse_50 (by decide) (fun c4 => ?_) (fun c4 => ?_)
    · exact absurd c4 (by decide)
    refine lv_iconst (v := (0 : Int32)) hx hb dX6_pulse_53 (by decide) ?_
    have hf := Option.some.inj hf
    subst hf
    exact e_i (wf := (fun v : Ob => (wX6 G h0 a0 v))) hx hb hr hlk (oi u0 7 (1 : Int32)) ⟨rfl, rfl⟩ hP hK hD hS dX6_pulse_54
  · have hf := tp hf c3
    refine lv_iload_n hx hb dX6_pulse_13 rfl (lv_at hl 1 rfl) ?_
    refine lv_i2l (v := x1.toInt64) hx hb dX6_pulse_14 rfl ?_
    refine lv_aload_n hx hb dX6_pulse_15 rfl (lv_at hl 0 rfl) ?_
    refine va_get (D := gD G) (ci := 4) (v := .ref (a0 0)) (C := RX6) (T := TX6) (N := 22) hx hb hg kl_X6 hown hK hP 0 rfl rfl 0 (by decide) (hg _ kq5_5) (fun _ h9 => h9) rfl dX6_pulse_16 ?_
    refine lv_bipush (v := (7 : Int32)) hx hb dX6_pulse_19 (by decide) ?_
    refine va_lald (f := (u0.2.2.2 0)) hx hb hK hP 1 2 rfl rfl (vin (by decide)) dX6_pulse_21 ?_
    refine lc_le (tgt := 42) hx hb dX6_pulse_22 dX6_pulse_23 (by decide) (fun c5 => ?_) (fun c5 => ?_)
    · have hf := tp hf c5
      refine lv_iconst (v := (1 : Int32)) hx hb dX6_pulse_42 (by decide) ?_
      refine va_put (D := gD G) (ci := 4) (v := .int (1 : Int32)) (ty := .int) (C := RX6) (T := TX6) (N := 22) hx hb hg kl_X6 tyX6 tyX6_ok nmX6 hown hK hP hD hS 0 rfl rfl 7 (by decide) (hg _ kq5_12) (fun _ h9 => h9) rfl (by decide +kernel) rfl rfl (Nat.le_of_ble_eq_true rfl) dX6_pulse_43 (fun H locs hP hD hS => ?_)
      have hP : va_P (gD G) vwCl (wX6 G h0 a0 (oi u0 7 (1 : Int32))) H := hP
      have hD : va_D A (wX6 G h0 a0 (oi u0 7 (1 : Int32))) := hD
      refine lv_aload_n hx hb dX6_pulse_46 rfl (lv_at hl 0 rfl) ?_
      refine va_get (D := gD G) (ci := 4) (v := .int (1 : Int32)) (C := RX6) (T := TX6) (N := 22) hx hb hg kl_X6 hown hK hP 0 rfl rfl 7 (by decide) (hg _ kq5_12) (fun _ h9 => h9) rfl dX6_pulse_47 ?_
      refine lv_if_le (tgt := 55) hx hb dX6_pulse_50 (by decide) (fun c6 => ?_) (fun c6 => ?_)
      · exact absurd c6 (by decide)
      refine lv_iconst (v := (0 : Int32)) hx hb dX6_pulse_53 (by decide) ?_
      have hf := Option.some.inj hf
      subst hf
      exact e_i (wf := (fun v : Ob => (wX6 G h0 a0 v))) hx hb hr hlk (oi u0 7 (1 : Int32)) ⟨rfl, rfl⟩ hP hK hD hS dX6_pulse_54
    · have hf := tn hf c5
      refine lv_iload_n hx hb dX6_pulse_26 rfl (lv_at hl 2 rfl) ?_
      refine lv_i2l (v := x2.toInt64) hx hb dX6_pulse_27 rfl ?_
      refine lv_lconst (v := (0 : Int64)) hx hb dX6_pulse_28 (by decide) ?_
      refine lv_ldc2 hx hb hown (hg _ kq5_227) dX6_pulse_29 ?_
      obtain ⟨q7, e8, hf⟩ := tbd hf
      refine kSi0 (As := [.long x2.toInt64, .long (0 : Int64), .long (9999 : Int64)]) (rest := [.ref h0]) hC (c_X6_isIn (G := G) e8) kq5_84 kc_X6_isIn (by decide) hP hK hD hE hS hA hl.1 (Nat.le_of_ble_eq_true rfl) ⟨Nat.zero_le _, Nat.zero_le _⟩ dX6_pulse_32 (fun r9 u9 H locs hw hP hD hS => ?_)
      obtain ⟨rfl, rfl⟩ := hw
      refine bz_eq (tgt := 42) hx hb dX6_pulse_35 (by decide) (fun c9 => ?_) (fun c9 => ?_)
      · have hf := tn hf c9
        refine lv_iconst (v := (1 : Int32)) hx hb dX6_pulse_42 (by decide) ?_
        refine va_put (D := gD G) (ci := 4) (v := .int (1 : Int32)) (ty := .int) (C := RX6) (T := TX6) (N := 22) hx hb hg kl_X6 tyX6 tyX6_ok nmX6 hown hK hP hD hS 0 rfl rfl 7 (by decide) (hg _ kq5_12) (fun _ h9 => h9) rfl (by decide +kernel) rfl rfl (Nat.le_of_ble_eq_true rfl) dX6_pulse_43 (fun H locs hP hD hS => ?_)
        have hP : va_P (gD G) vwCl (wX6 G h0 a0 (oi u0 7 (1 : Int32))) H := hP
        have hD : va_D A (wX6 G h0 a0 (oi u0 7 (1 : Int32))) := hD
        refine lv_aload_n hx hb dX6_pulse_46 rfl (lv_at hl 0 rfl) ?_
        refine va_get (D := gD G) (ci := 4) (v := .int (1 : Int32)) (C := RX6) (T := TX6) (N := 22) hx hb hg kl_X6 hown hK hP 0 rfl rfl 7 (by decide) (hg _ kq5_12) (fun _ h9 => h9) rfl dX6_pulse_47 ?_
        refine lv_if_le (tgt := 55) hx hb dX6_pulse_50 (by decide) (fun c10 => ?_) (fun c10 => ?_)
        · exact absurd c10 (by decide)
        refine lv_iconst (v := (0 : Int32)) hx hb dX6_pulse_53 (by decide) ?_
        have hf := Option.some.inj hf
        subst hf
        exact e_i (wf := (fun v : Ob => (wX6 G h0 a0 v))) hx hb hr hlk (oi u0 7 (1 : Int32)) ⟨rfl, rfl⟩ hP hK hD hS dX6_pulse_54
      · have hf := tp hf c9
        refine lv_iconst (v := (0 : Int32)) hx hb dX6_pulse_38 (by decide) ?_
        refine lv_goto (tgt := 43) hx hb dX6_pulse_39 (by decide) ?_
        refine va_put (D := gD G) (ci := 4) (v := .int (0 : Int32)) (ty := .int) (C := RX6) (T := TX6) (N := 22) hx hb hg kl_X6 tyX6 tyX6_ok nmX6 hown hK hP hD hS 0 rfl rfl 7 (by decide) (hg _ kq5_12) (fun _ h9 => h9) rfl (by decide +kernel) rfl rfl (Nat.le_of_ble_eq_true rfl) dX6_pulse_43 (fun H locs hP hD hS => ?_)
        have hP : va_P (gD G) vwCl (wX6 G h0 a0 (oi u0 7 (0 : Int32))) H := hP
        have hD : va_D A (wX6 G h0 a0 (oi u0 7 (0 : Int32))) := hD
        refine lv_aload_n hx hb dX6_pulse_46 rfl (lv_at hl 0 rfl) ?_
        refine va_get (D := gD G) (ci := 4) (v := .int (0 : Int32)) (C := RX6) (T := TX6) (N := 22) hx hb hg kl_X6 hown hK hP 0 rfl rfl 7 (by decide) (hg _ kq5_12) (fun _ h9 => h9) rfl dX6_pulse_47 ?_
        refine lv_if_le (tgt := 55) hx hb dX6_pulse_50 (by decide) (fun c11 => ?_) (fun c11 => ?_)
        rotate_left
        · exact absurd c11 (by decide)
        refine lv_aload_n hx hb dX6_pulse_55 rfl (lv_at hl 0 rfl) ?_
        obtain ⟨q12, e13, hf⟩ := tbd hf
        refine kVv1 (As := []) (rest := []) hC (c_X6_keeps (G := G) e13) kq5_91 kc_X6_keeps (by decide) 0 (ci := 4) rfl rfl hP hK hD hE hS hA hl.1 (Nat.le_of_ble_eq_true rfl) ⟨Nat.zero_le _, Nat.zero_le _⟩ dX6_pulse_56 (fun u9 H locs hw hP hD hS => ?_)
        obtain rfl := hw
        have hP : va_P (gD G) vwCl (wX6 G h0 a0 q12) H := hP
        have hD : va_D A (wX6 G h0 a0 q12) := hD
        refine lv_aload_n hx hb dX6_pulse_59 rfl (lv_at hl 0 rfl) ?_
        refine lv_iload_n hx hb dX6_pulse_60 rfl (lv_at hl 1 rfl) ?_
        refine lv_i2l (v := x1.toInt64) hx hb dX6_pulse_61 rfl ?_
        refine lv_iload_n hx hb dX6_pulse_62 rfl (lv_at hl 2 rfl) ?_
        obtain ⟨q14, e15, hf⟩ := tbd hf
        refine kVi1 (As := [.long x1.toInt64, .int x2]) (rest := []) hC (c_X6_takesPulse (G := G) e15) kq5_228 kc_X6_takesPulse (by decide) 0 (ci := 4) rfl rfl hP hK hD hE hS hA hl.1 (Nat.le_of_ble_eq_true rfl) ⟨Nat.zero_le _, Nat.zero_le _⟩ dX6_pulse_63 (fun r9 u9 H locs hw hP hD hS => ?_)
        obtain ⟨rfl, rfl⟩ := hw
        have hP : va_P (gD G) vwCl (wX6 G h0 a0 q14.2) H := hP
        have hD : va_D A (wX6 G h0 a0 q14.2) := hD
        have hf := Option.some.inj hf
        subst hf
        exact e_i (wf := (fun v : Ob => (wX6 G h0 a0 v))) hx hb hr hlk q14.2 ⟨rfl, rfl⟩ hP hK hD hS dX6_pulse_66
