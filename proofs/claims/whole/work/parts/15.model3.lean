theorem dX6_hear_0 : decode cX6_hear 0 = .ok (.aload_n 0, 1) := by decide +kernel
theorem dX6_hear_1 : decode cX6_hear 1 = .ok (.iload_n 1, 1) := by decide +kernel
theorem dX6_hear_2 : decode cX6_hear 2 = .ok (.i2l, 1) := by decide +kernel
theorem dX6_hear_3 : decode cX6_hear 3 = .ok (.invokestatic 82, 3) := by decide +kernel
theorem dX6_hear_6 : decode cX6_hear 6 = .ok (.ifCond .ne 7, 3) := by decide +kernel
theorem dX6_hear_9 : decode cX6_hear 9 = .ok (.iconst 1, 1) := by decide +kernel
theorem dX6_hear_10 : decode cX6_hear 10 = .ok (.goto 15, 3) := by decide +kernel
theorem dX6_hear_13 : decode cX6_hear 13 = .ok (.aload_n 0, 1) := by decide +kernel
theorem dX6_hear_14 : decode cX6_hear 14 = .ok (.invokevirtual 245, 3) := by decide +kernel
theorem dX6_hear_17 : decode cX6_hear 17 = .ok (.ifCond .eq 7, 3) := by decide +kernel
theorem dX6_hear_20 : decode cX6_hear 20 = .ok (.iconst 0, 1) := by decide +kernel
theorem dX6_hear_21 : decode cX6_hear 21 = .ok (.goto 4, 3) := by decide +kernel
theorem dX6_hear_24 : decode cX6_hear 24 = .ok (.iconst 2, 1) := by decide +kernel
theorem dX6_hear_25 : decode cX6_hear 25 = .ok (.putfield 55, 3) := by decide +kernel
theorem dX6_hear_28 : decode cX6_hear 28 = .ok (.aload_n 0, 1) := by decide +kernel
theorem dX6_hear_29 : decode cX6_hear 29 = .ok (.getfield 55, 3) := by decide +kernel
theorem dX6_hear_32 : decode cX6_hear 32 = .ok (.ifCond .le 5, 3) := by decide +kernel
theorem dX6_hear_35 : decode cX6_hear 35 = .ok (.iconst 0, 1) := by decide +kernel
theorem dX6_hear_36 : decode cX6_hear 36 = .ok (.ireturn, 1) := by decide +kernel
theorem dX6_hear_37 : decode cX6_hear 37 = .ok (.aload_n 0, 1) := by decide +kernel
theorem dX6_hear_38 : decode cX6_hear 38 = .ok (.invokevirtual 69, 3) := by decide +kernel
theorem dX6_hear_41 : decode cX6_hear 41 = .ok (.aload_n 0, 1) := by decide +kernel
theorem dX6_hear_42 : decode cX6_hear 42 = .ok (.iload_n 1, 1) := by decide +kernel
theorem dX6_hear_43 : decode cX6_hear 43 = .ok (.iload_n 2, 1) := by decide +kernel
theorem dX6_hear_44 : decode cX6_hear 44 = .ok (.lload_n 3, 1) := by decide +kernel
theorem dX6_hear_45 : decode cX6_hear 45 = .ok (.invokevirtual 255, 3) := by decide +kernel
theorem dX6_hear_48 : decode cX6_hear 48 = .ok (.ireturn, 1) := by decide +kernel
theorem dX6_bitOf_0 : decode cX6_bitOf 0 = .ok (.lload_n 2, 1) := by decide +kernel
theorem dX6_bitOf_1 : decode cX6_bitOf 1 = .ok (.iload 4, 2) := by decide +kernel
theorem dX6_bitOf_3 : decode cX6_bitOf 3 = .ok (.invokestatic 58, 3) := by decide +kernel
theorem dX6_bitOf_6 : decode cX6_bitOf 6 = .ok (.ifCond .eq 7, 3) := by decide +kernel
theorem dX6_bitOf_9 : decode cX6_bitOf 9 = .ok (.iconst 2, 1) := by decide +kernel
theorem dX6_bitOf_10 : decode cX6_bitOf 10 = .ok (.goto 17, 3) := by decide +kernel
theorem dX6_bitOf_13 : decode cX6_bitOf 13 = .ok (.lload_n 0, 1) := by decide +kernel
theorem dX6_bitOf_14 : decode cX6_bitOf 14 = .ok (.iload 4, 2) := by decide +kernel
theorem dX6_bitOf_16 : decode cX6_bitOf 16 = .ok (.invokestatic 58, 3) := by decide +kernel
theorem dX6_bitOf_19 : decode cX6_bitOf 19 = .ok (.ifCond .eq 7, 3) := by decide +kernel
theorem dX6_bitOf_22 : decode cX6_bitOf 22 = .ok (.iconst 1, 1) := by decide +kernel
theorem dX6_bitOf_23 : decode cX6_bitOf 23 = .ok (.goto 4, 3) := by decide +kernel
theorem dX6_bitOf_26 : decode cX6_bitOf 26 = .ok (.iconst 0, 1) := by decide +kernel
theorem dX6_bitOf_27 : decode cX6_bitOf 27 = .ok (.ireturn, 1) := by decide +kernel
theorem dX6_bit_0 : decode cX6_bit 0 = .ok (.aload_n 0, 1) := by decide +kernel
theorem dX6_bit_1 : decode cX6_bit 1 = .ok (.iload_n 1, 1) := by decide +kernel
theorem dX6_bit_2 : decode cX6_bit 2 = .ok (.i2l, 1) := by decide +kernel
theorem dX6_bit_3 : decode cX6_bit 3 = .ok (.lconst 0, 1) := by decide +kernel
theorem dX6_bit_4 : decode cX6_bit 4 = .ok (.aload_n 0, 1) := by decide +kernel
theorem dX6_bit_5 : decode cX6_bit 5 = .ok (.getfield 7, 3) := by decide +kernel
theorem dX6_bit_8 : decode cX6_bit 8 = .ok (.iconst 5, 1) := by decide +kernel
theorem dX6_bit_9 : decode cX6_bit 9 = .ok (.laload, 1) := by decide +kernel
theorem dX6_bit_10 : decode cX6_bit 10 = .ok (.invokestatic 65, 3) := by decide +kernel
theorem dX6_bit_13 : decode cX6_bit 13 = .ok (.ifCond .eq 13, 3) := by decide +kernel
theorem dX6_bit_16 : decode cX6_bit 16 = .ok (.iload_n 1, 1) := by decide +kernel
theorem dX6_bit_17 : decode cX6_bit 17 = .ok (.bipush 59, 2) := by decide +kernel
theorem dX6_bit_19 : decode cX6_bit 19 = .ok (.if_icmp .ge 7, 3) := by decide +kernel
theorem dX6_bit_22 : decode cX6_bit 22 = .ok (.iconst 0, 1) := by decide +kernel
theorem dX6_bit_23 : decode cX6_bit 23 = .ok (.goto 4, 3) := by decide +kernel
theorem dX6_bit_26 : decode cX6_bit 26 = .ok (.iconst 1, 1) := by decide +kernel
theorem dX6_bit_27 : decode cX6_bit 27 = .ok (.putfield 55, 3) := by decide +kernel
theorem dX6_bit_30 : decode cX6_bit 30 = .ok (.aload_n 0, 1) := by decide +kernel
theorem dX6_bit_31 : decode cX6_bit 31 = .ok (.getfield 55, 3) := by decide +kernel
theorem dX6_bit_34 : decode cX6_bit 34 = .ok (.ifCond .le 7, 3) := by decide +kernel
theorem dX6_bit_37 : decode cX6_bit 37 = .ok (.iconst 0, 1) := by decide +kernel
theorem dX6_bit_38 : decode cX6_bit 38 = .ok (.goto 21, 3) := by decide +kernel
theorem dX6_bit_41 : decode cX6_bit 41 = .ok (.aload_n 0, 1) := by decide +kernel
theorem dX6_bit_42 : decode cX6_bit 42 = .ok (.getfield 7, 3) := by decide +kernel
theorem dX6_bit_45 : decode cX6_bit 45 = .ok (.bipush 14, 2) := by decide +kernel
theorem dX6_bit_47 : decode cX6_bit 47 = .ok (.laload, 1) := by decide +kernel
theorem dX6_bit_48 : decode cX6_bit 48 = .ok (.aload_n 0, 1) := by decide +kernel
theorem dX6_bit_49 : decode cX6_bit 49 = .ok (.getfield 7, 3) := by decide +kernel
theorem dX6_bit_52 : decode cX6_bit 52 = .ok (.bipush 15, 2) := by decide +kernel
theorem dX6_bit_54 : decode cX6_bit 54 = .ok (.laload, 1) := by decide +kernel
theorem dX6_bit_55 : decode cX6_bit 55 = .ok (.iload_n 1, 1) := by decide +kernel
theorem dX6_bit_56 : decode cX6_bit 56 = .ok (.invokestatic 332, 3) := by decide +kernel
theorem dX6_bit_59 : decode cX6_bit 59 = .ok (.ireturn, 1) := by decide +kernel
theorem dX6_count_0 : decode cX6_count 0 = .ok (.aload_n 0, 1) := by decide +kernel
theorem dX6_count_1 : decode cX6_count 1 = .ok (.iload_n 1, 1) := by decide +kernel
theorem dX6_count_2 : decode cX6_count 2 = .ok (.i2l, 1) := by decide +kernel
theorem dX6_count_3 : decode cX6_count 3 = .ok (.lconst 0, 1) := by decide +kernel
theorem dX6_count_4 : decode cX6_count 4 = .ok (.ldc2_w 336, 3) := by decide +kernel
theorem dX6_count_7 : decode cX6_count 7 = .ok (.invokestatic 65, 3) := by decide +kernel
theorem dX6_count_10 : decode cX6_count 10 = .ok (.ifCond .eq 7, 3) := by decide +kernel
theorem dX6_count_13 : decode cX6_count 13 = .ok (.iconst 0, 1) := by decide +kernel
theorem dX6_count_14 : decode cX6_count 14 = .ok (.goto 4, 3) := by decide +kernel
theorem dX6_count_17 : decode cX6_count 17 = .ok (.iconst 1, 1) := by decide +kernel
theorem dX6_count_18 : decode cX6_count 18 = .ok (.putfield 55, 3) := by decide +kernel
theorem dX6_count_21 : decode cX6_count 21 = .ok (.aload_n 0, 1) := by decide +kernel
theorem dX6_count_22 : decode cX6_count 22 = .ok (.getfield 55, 3) := by decide +kernel
theorem dX6_count_25 : decode cX6_count 25 = .ok (.ifCond .le 5, 3) := by decide +kernel
theorem dX6_count_28 : decode cX6_count 28 = .ok (.iconst 0, 1) := by decide +kernel
theorem dX6_count_29 : decode cX6_count 29 = .ok (.ireturn, 1) := by decide +kernel
theorem dX6_count_30 : decode cX6_count 30 = .ok (.iload_n 1, 1) := by decide +kernel
theorem dX6_count_31 : decode cX6_count 31 = .ok (.tableswitch 188 0 13 #[69, 77, 86, 95, 104, 130, 188, 188, 188, 188, 188, 139, 148, 179], 69) := by decide +kernel
theorem dX6_count_100 : decode cX6_count 100 = .ok (.aload_n 0, 1) := by decide +kernel
theorem dX6_count_101 : decode cX6_count 101 = .ok (.getfield 7, 3) := by decide +kernel
theorem dX6_count_104 : decode cX6_count 104 = .ok (.iconst 5, 1) := by decide +kernel
theorem dX6_count_105 : decode cX6_count 105 = .ok (.laload, 1) := by decide +kernel
theorem dX6_count_106 : decode cX6_count 106 = .ok (.l2i, 1) := by decide +kernel
theorem dX6_count_107 : decode cX6_count 107 = .ok (.ireturn, 1) := by decide +kernel
theorem dX6_count_108 : decode cX6_count 108 = .ok (.aload_n 0, 1) := by decide +kernel
theorem dX6_count_109 : decode cX6_count 109 = .ok (.getfield 7, 3) := by decide +kernel
theorem dX6_count_112 : decode cX6_count 112 = .ok (.bipush 12, 2) := by decide +kernel
theorem dX6_count_114 : decode cX6_count 114 = .ok (.laload, 1) := by decide +kernel
theorem dX6_count_115 : decode cX6_count 115 = .ok (.l2i, 1) := by decide +kernel
theorem dX6_count_116 : decode cX6_count 116 = .ok (.ireturn, 1) := by decide +kernel
theorem dX6_count_117 : decode cX6_count 117 = .ok (.aload_n 0, 1) := by decide +kernel
theorem dX6_count_118 : decode cX6_count 118 = .ok (.getfield 7, 3) := by decide +kernel
theorem dX6_count_121 : decode cX6_count 121 = .ok (.bipush 9, 2) := by decide +kernel
theorem dX6_count_123 : decode cX6_count 123 = .ok (.laload, 1) := by decide +kernel
theorem dX6_count_124 : decode cX6_count 124 = .ok (.l2i, 1) := by decide +kernel
theorem dX6_count_125 : decode cX6_count 125 = .ok (.ireturn, 1) := by decide +kernel
theorem dX6_count_126 : decode cX6_count 126 = .ok (.aload_n 0, 1) := by decide +kernel
theorem dX6_count_127 : decode cX6_count 127 = .ok (.getfield 7, 3) := by decide +kernel
theorem dX6_count_130 : decode cX6_count 130 = .ok (.bipush 10, 2) := by decide +kernel
theorem dX6_count_132 : decode cX6_count 132 = .ok (.laload, 1) := by decide +kernel
theorem dX6_count_133 : decode cX6_count 133 = .ok (.l2i, 1) := by decide +kernel
theorem dX6_count_134 : decode cX6_count 134 = .ok (.ireturn, 1) := by decide +kernel
theorem dX6_count_135 : decode cX6_count 135 = .ok (.aload_n 0, 1) := by decide +kernel
theorem dX6_count_136 : decode cX6_count 136 = .ok (.getfield 7, 3) := by decide +kernel
theorem dX6_count_139 : decode cX6_count 139 = .ok (.iconst 5, 1) := by decide +kernel
theorem dX6_count_140 : decode cX6_count 140 = .ok (.laload, 1) := by decide +kernel
theorem dX6_count_141 : decode cX6_count 141 = .ok (.ldc2_w 53, 3) := by decide +kernel
theorem dX6_count_144 : decode cX6_count 144 = .ok (.lcmp, 1) := by decide +kernel
theorem dX6_count_145 : decode cX6_count 145 = .ok (.ifCond .ne 7, 3) := by decide +kernel
theorem dX6_count_148 : decode cX6_count 148 = .ok (.iconst 0, 1) := by decide +kernel
theorem dX6_count_149 : decode cX6_count 149 = .ok (.goto 11, 3) := by decide +kernel
theorem dX6_count_152 : decode cX6_count 152 = .ok (.aload_n 0, 1) := by decide +kernel
theorem dX6_count_153 : decode cX6_count 153 = .ok (.getfield 7, 3) := by decide +kernel
theorem dX6_count_156 : decode cX6_count 156 = .ok (.bipush 8, 2) := by decide +kernel
theorem dX6_count_158 : decode cX6_count 158 = .ok (.laload, 1) := by decide +kernel
theorem dX6_count_159 : decode cX6_count 159 = .ok (.l2i, 1) := by decide +kernel
theorem dX6_count_160 : decode cX6_count 160 = .ok (.ireturn, 1) := by decide +kernel
theorem dX6_count_161 : decode cX6_count 161 = .ok (.aload_n 0, 1) := by decide +kernel
theorem dX6_count_162 : decode cX6_count 162 = .ok (.getfield 7, 3) := by decide +kernel
theorem dX6_count_165 : decode cX6_count 165 = .ok (.bipush 13, 2) := by decide +kernel
theorem dX6_count_167 : decode cX6_count 167 = .ok (.laload, 1) := by decide +kernel
theorem dX6_count_168 : decode cX6_count 168 = .ok (.l2i, 1) := by decide +kernel
theorem dX6_count_169 : decode cX6_count 169 = .ok (.ireturn, 1) := by decide +kernel
theorem dX6_count_170 : decode cX6_count 170 = .ok (.aload_n 0, 1) := by decide +kernel
theorem dX6_count_171 : decode cX6_count 171 = .ok (.getfield 7, 3) := by decide +kernel
theorem dX6_count_174 : decode cX6_count 174 = .ok (.bipush 6, 2) := by decide +kernel
theorem dX6_count_176 : decode cX6_count 176 = .ok (.laload, 1) := by decide +kernel
theorem dX6_count_177 : decode cX6_count 177 = .ok (.l2i, 1) := by decide +kernel
theorem dX6_count_178 : decode cX6_count 178 = .ok (.ireturn, 1) := by decide +kernel
theorem dX6_count_179 : decode cX6_count 179 = .ok (.aload_n 0, 1) := by decide +kernel
theorem dX6_count_180 : decode cX6_count 180 = .ok (.getfield 7, 3) := by decide +kernel
theorem dX6_count_183 : decode cX6_count 183 = .ok (.iconst 5, 1) := by decide +kernel
theorem dX6_count_184 : decode cX6_count 184 = .ok (.laload, 1) := by decide +kernel
theorem dX6_count_185 : decode cX6_count 185 = .ok (.ldc2_w 53, 3) := by decide +kernel
theorem dX6_count_188 : decode cX6_count 188 = .ok (.lcmp, 1) := by decide +kernel
theorem dX6_count_189 : decode cX6_count 189 = .ok (.ifCond .ne 7, 3) := by decide +kernel
theorem dX6_count_192 : decode cX6_count 192 = .ok (.iconst 0, 1) := by decide +kernel
theorem dX6_count_193 : decode cX6_count 193 = .ok (.goto 16, 3) := by decide +kernel
theorem dX6_count_196 : decode cX6_count 196 = .ok (.aload_n 0, 1) := by decide +kernel
theorem dX6_count_197 : decode cX6_count 197 = .ok (.getfield 7, 3) := by decide +kernel
theorem dX6_count_200 : decode cX6_count 200 = .ok (.bipush 15, 2) := by decide +kernel
theorem dX6_count_202 : decode cX6_count 202 = .ok (.laload, 1) := by decide +kernel
theorem dX6_count_203 : decode cX6_count 203 = .ok (.iconst 0, 1) := by decide +kernel
theorem dX6_count_204 : decode cX6_count 204 = .ok (.bipush 58, 2) := by decide +kernel
theorem dX6_count_206 : decode cX6_count 206 = .ok (.invokestatic 107, 3) := by decide +kernel
theorem dX6_count_209 : decode cX6_count 209 = .ok (.ireturn, 1) := by decide +kernel
theorem dX6_count_210 : decode cX6_count 210 = .ok (.aload_n 0, 1) := by decide +kernel
theorem dX6_count_211 : decode cX6_count 211 = .ok (.getfield 7, 3) := by decide +kernel
theorem dX6_count_214 : decode cX6_count 214 = .ok (.bipush 11, 2) := by decide +kernel
theorem dX6_count_216 : decode cX6_count 216 = .ok (.laload, 1) := by decide +kernel
theorem dX6_count_217 : decode cX6_count 217 = .ok (.l2i, 1) := by decide +kernel
theorem dX6_count_218 : decode cX6_count 218 = .ok (.ireturn, 1) := by decide +kernel
theorem dX6_count_219 : decode cX6_count 219 = .ok (.aload_n 0, 1) := by decide +kernel
theorem dX6_count_220 : decode cX6_count 220 = .ok (.getfield 7, 3) := by decide +kernel
theorem dX6_count_223 : decode cX6_count 223 = .ok (.iload_n 1, 1) := by decide +kernel
theorem dX6_count_224 : decode cX6_count 224 = .ok (.bipush 6, 2) := by decide +kernel
theorem dX6_count_226 : decode cX6_count 226 = .ok (.isub, 1) := by decide +kernel
theorem dX6_count_227 : decode cX6_count 227 = .ok (.laload, 1) := by decide +kernel
theorem dX6_count_228 : decode cX6_count 228 = .ok (.l2i, 1) := by decide +kernel
theorem dX6_count_229 : decode cX6_count 229 = .ok (.ireturn, 1) := by decide +kernel
theorem dX6_isFrame_0 : decode cX6_isFrame 0 = .ok (.iload_n 1, 1) := by decide +kernel
theorem dX6_isFrame_1 : decode cX6_isFrame 1 = .ok (.i2l, 1) := by decide +kernel
theorem dX6_isFrame_2 : decode cX6_isFrame 2 = .ok (.lconst 0, 1) := by decide +kernel
theorem dX6_isFrame_3 : decode cX6_isFrame 3 = .ok (.aload_n 0, 1) := by decide +kernel
theorem dX6_isFrame_4 : decode cX6_isFrame 4 = .ok (.getfield 7, 3) := by decide +kernel
theorem dX6_isFrame_7 : decode cX6_isFrame 7 = .ok (.bipush 12, 2) := by decide +kernel
theorem dX6_isFrame_9 : decode cX6_isFrame 9 = .ok (.laload, 1) := by decide +kernel
theorem dX6_isFrame_10 : decode cX6_isFrame 10 = .ok (.lconst 1, 1) := by decide +kernel
theorem dX6_isFrame_11 : decode cX6_isFrame 11 = .ok (.lsub, 1) := by decide +kernel
theorem dX6_isFrame_12 : decode cX6_isFrame 12 = .ok (.invokestatic 65, 3) := by decide +kernel
theorem dX6_isFrame_15 : decode cX6_isFrame 15 = .ok (.ireturn, 1) := by decide +kernel
theorem dX6_frame_0 : decode cX6_frame 0 = .ok (.aload_n 0, 1) := by decide +kernel
theorem dX6_frame_1 : decode cX6_frame 1 = .ok (.aload_n 0, 1) := by decide +kernel
theorem dX6_frame_2 : decode cX6_frame 2 = .ok (.iload_n 1, 1) := by decide +kernel
theorem dX6_frame_3 : decode cX6_frame 3 = .ok (.invokevirtual 357, 3) := by decide +kernel
theorem dX6_frame_6 : decode cX6_frame 6 = .ok (.ifCond .ne 7, 3) := by decide +kernel
theorem dX6_frame_9 : decode cX6_frame 9 = .ok (.iconst 1, 1) := by decide +kernel
theorem dX6_frame_10 : decode cX6_frame 10 = .ok (.goto 20, 3) := by decide +kernel
theorem dX6_frame_13 : decode cX6_frame 13 = .ok (.iload_n 2, 1) := by decide +kernel
theorem dX6_frame_14 : decode cX6_frame 14 = .ok (.i2l, 1) := by decide +kernel
theorem dX6_frame_15 : decode cX6_frame 15 = .ok (.lconst 0, 1) := by decide +kernel
theorem dX6_frame_16 : decode cX6_frame 16 = .ok (.ldc2_w 49, 3) := by decide +kernel
theorem dX6_frame_19 : decode cX6_frame 19 = .ok (.invokestatic 65, 3) := by decide +kernel
theorem dX6_frame_22 : decode cX6_frame 22 = .ok (.ifCond .eq 7, 3) := by decide +kernel
theorem dX6_frame_25 : decode cX6_frame 25 = .ok (.iconst 0, 1) := by decide +kernel
theorem dX6_frame_26 : decode cX6_frame 26 = .ok (.goto 4, 3) := by decide +kernel
theorem dX6_frame_29 : decode cX6_frame 29 = .ok (.iconst 2, 1) := by decide +kernel
theorem dX6_frame_30 : decode cX6_frame 30 = .ok (.putfield 55, 3) := by decide +kernel
theorem dX6_frame_33 : decode cX6_frame 33 = .ok (.aload_n 0, 1) := by decide +kernel
theorem dX6_frame_34 : decode cX6_frame 34 = .ok (.getfield 55, 3) := by decide +kernel
theorem dX6_frame_37 : decode cX6_frame 37 = .ok (.ifCond .le 5, 3) := by decide +kernel
theorem dX6_frame_40 : decode cX6_frame 40 = .ok (.iconst 0, 1) := by decide +kernel
theorem dX6_frame_41 : decode cX6_frame 41 = .ok (.ireturn, 1) := by decide +kernel
theorem dX6_frame_42 : decode cX6_frame 42 = .ok (.aload_n 0, 1) := by decide +kernel
theorem dX6_frame_43 : decode cX6_frame 43 = .ok (.getfield 7, 3) := by decide +kernel
theorem dX6_frame_46 : decode cX6_frame 46 = .ok (.bipush 16, 2) := by decide +kernel
theorem dX6_frame_48 : decode cX6_frame 48 = .ok (.iconst 2, 1) := by decide +kernel
theorem dX6_frame_49 : decode cX6_frame 49 = .ok (.iload_n 1, 1) := by decide +kernel
theorem dX6_frame_50 : decode cX6_frame 50 = .ok (.imul, 1) := by decide +kernel
theorem dX6_frame_51 : decode cX6_frame 51 = .ok (.iadd, 1) := by decide +kernel
theorem dX6_frame_52 : decode cX6_frame 52 = .ok (.laload, 1) := by decide +kernel
theorem dX6_frame_53 : decode cX6_frame 53 = .ok (.lstore_n 3, 1) := by decide +kernel
theorem dX6_frame_54 : decode cX6_frame 54 = .ok (.aload_n 0, 1) := by decide +kernel
theorem dX6_frame_55 : decode cX6_frame 55 = .ok (.getfield 7, 3) := by decide +kernel
theorem dX6_frame_58 : decode cX6_frame 58 = .ok (.bipush 16, 2) := by decide +kernel
theorem dX6_frame_60 : decode cX6_frame 60 = .ok (.iconst 2, 1) := by decide +kernel
theorem dX6_frame_61 : decode cX6_frame 61 = .ok (.iload_n 1, 1) := by decide +kernel
theorem dX6_frame_62 : decode cX6_frame 62 = .ok (.imul, 1) := by decide +kernel
theorem dX6_frame_63 : decode cX6_frame 63 = .ok (.iadd, 1) := by decide +kernel
theorem dX6_frame_64 : decode cX6_frame 64 = .ok (.iconst 1, 1) := by decide +kernel
theorem dX6_frame_65 : decode cX6_frame 65 = .ok (.iadd, 1) := by decide +kernel
theorem dX6_frame_66 : decode cX6_frame 66 = .ok (.laload, 1) := by decide +kernel
theorem dX6_frame_67 : decode cX6_frame 67 = .ok (.lstore 5, 2) := by decide +kernel
theorem dX6_frame_69 : decode cX6_frame 69 = .ok (.iload_n 2, 1) := by decide +kernel
theorem dX6_frame_70 : decode cX6_frame 70 = .ok (.ifCond .ne 18, 3) := by decide +kernel
theorem dX6_frame_73 : decode cX6_frame 73 = .ok (.lload 5, 2) := by decide +kernel
theorem dX6_frame_75 : decode cX6_frame 75 = .ok (.ldc2_w 130, 3) := by decide +kernel
theorem dX6_frame_78 : decode cX6_frame 78 = .ok (.land, 1) := by decide +kernel
theorem dX6_frame_79 : decode cX6_frame 79 = .ok (.iconst 0, 1) := by decide +kernel
theorem dX6_frame_80 : decode cX6_frame 80 = .ok (.bipush 58, 2) := by decide +kernel
theorem dX6_frame_82 : decode cX6_frame 82 = .ok (.invokestatic 107, 3) := by decide +kernel
theorem dX6_frame_85 : decode cX6_frame 85 = .ok (.goto 39, 3) := by decide +kernel
theorem dX6_frame_88 : decode cX6_frame 88 = .ok (.iload_n 2, 1) := by decide +kernel
theorem dX6_frame_89 : decode cX6_frame 89 = .ok (.iconst 1, 1) := by decide +kernel
theorem dX6_frame_90 : decode cX6_frame 90 = .ok (.if_icmp .ne 13, 3) := by decide +kernel
theorem dX6_frame_93 : decode cX6_frame 93 = .ok (.aload_n 0, 1) := by decide +kernel
theorem dX6_frame_94 : decode cX6_frame 94 = .ok (.lload_n 3, 1) := by decide +kernel
theorem dX6_frame_95 : decode cX6_frame 95 = .ok (.lload 5, 2) := by decide +kernel
theorem dX6_frame_97 : decode cX6_frame 97 = .ok (.invokevirtual 341, 3) := by decide +kernel
theorem dX6_frame_100 : decode cX6_frame 100 = .ok (.goto 24, 3) := by decide +kernel
theorem dX6_frame_103 : decode cX6_frame 103 = .ok (.iload_n 2, 1) := by decide +kernel
theorem dX6_frame_104 : decode cX6_frame 104 = .ok (.iconst 2, 1) := by decide +kernel
theorem dX6_frame_105 : decode cX6_frame 105 = .ok (.if_icmp .ne 11, 3) := by decide +kernel
theorem dX6_frame_108 : decode cX6_frame 108 = .ok (.aload_n 0, 1) := by decide +kernel
theorem dX6_frame_109 : decode cX6_frame 109 = .ok (.iload_n 1, 1) := by decide +kernel
theorem dX6_frame_110 : decode cX6_frame 110 = .ok (.invokevirtual 348, 3) := by decide +kernel
theorem dX6_frame_113 : decode cX6_frame 113 = .ok (.goto 11, 3) := by decide +kernel
theorem dX6_frame_116 : decode cX6_frame 116 = .ok (.lload_n 3, 1) := by decide +kernel
theorem dX6_frame_117 : decode cX6_frame 117 = .ok (.lload 5, 2) := by decide +kernel
theorem dX6_frame_119 : decode cX6_frame 119 = .ok (.bipush 19, 2) := by decide +kernel
theorem dX6_frame_121 : decode cX6_frame 121 = .ok (.invokestatic 332, 3) := by decide +kernel
theorem dX6_frame_124 : decode cX6_frame 124 = .ok (.ireturn, 1) := by decide +kernel
theorem dX6_frameBit_0 : decode cX6_frameBit 0 = .ok (.aload_n 0, 1) := by decide +kernel
theorem dX6_frameBit_1 : decode cX6_frameBit 1 = .ok (.aload_n 0, 1) := by decide +kernel
theorem dX6_frameBit_2 : decode cX6_frameBit 2 = .ok (.iload_n 1, 1) := by decide +kernel
theorem dX6_frameBit_3 : decode cX6_frameBit 3 = .ok (.invokevirtual 357, 3) := by decide +kernel
theorem dX6_frameBit_6 : decode cX6_frameBit 6 = .ok (.ifCond .eq 19, 3) := by decide +kernel
theorem dX6_frameBit_9 : decode cX6_frameBit 9 = .ok (.iload_n 2, 1) := by decide +kernel
theorem dX6_frameBit_10 : decode cX6_frameBit 10 = .ok (.i2l, 1) := by decide +kernel
theorem dX6_frameBit_11 : decode cX6_frameBit 11 = .ok (.lconst 0, 1) := by decide +kernel
theorem dX6_frameBit_12 : decode cX6_frameBit 12 = .ok (.ldc2_w 253, 3) := by decide +kernel
theorem dX6_frameBit_15 : decode cX6_frameBit 15 = .ok (.invokestatic 65, 3) := by decide +kernel
theorem dX6_frameBit_18 : decode cX6_frameBit 18 = .ok (.ifCond .eq 7, 3) := by decide +kernel
theorem dX6_frameBit_21 : decode cX6_frameBit 21 = .ok (.iconst 0, 1) := by decide +kernel
theorem dX6_frameBit_22 : decode cX6_frameBit 22 = .ok (.goto 4, 3) := by decide +kernel
theorem dX6_frameBit_25 : decode cX6_frameBit 25 = .ok (.iconst 1, 1) := by decide +kernel
theorem dX6_frameBit_26 : decode cX6_frameBit 26 = .ok (.putfield 55, 3) := by decide +kernel
theorem dX6_frameBit_29 : decode cX6_frameBit 29 = .ok (.aload_n 0, 1) := by decide +kernel
theorem dX6_frameBit_30 : decode cX6_frameBit 30 = .ok (.getfield 55, 3) := by decide +kernel
theorem dX6_frameBit_33 : decode cX6_frameBit 33 = .ok (.ifCond .le 7, 3) := by decide +kernel
theorem dX6_frameBit_36 : decode cX6_frameBit 36 = .ok (.iconst 0, 1) := by decide +kernel
theorem dX6_frameBit_37 : decode cX6_frameBit 37 = .ok (.goto 31, 3) := by decide +kernel
theorem dX6_frameBit_40 : decode cX6_frameBit 40 = .ok (.aload_n 0, 1) := by decide +kernel
theorem dX6_frameBit_41 : decode cX6_frameBit 41 = .ok (.getfield 7, 3) := by decide +kernel
theorem dX6_frameBit_44 : decode cX6_frameBit 44 = .ok (.bipush 16, 2) := by decide +kernel
theorem dX6_frameBit_46 : decode cX6_frameBit 46 = .ok (.iconst 2, 1) := by decide +kernel
theorem dX6_frameBit_47 : decode cX6_frameBit 47 = .ok (.iload_n 1, 1) := by decide +kernel
theorem dX6_frameBit_48 : decode cX6_frameBit 48 = .ok (.imul, 1) := by decide +kernel
theorem dX6_frameBit_49 : decode cX6_frameBit 49 = .ok (.iadd, 1) := by decide +kernel
theorem dX6_frameBit_50 : decode cX6_frameBit 50 = .ok (.laload, 1) := by decide +kernel
theorem dX6_frameBit_51 : decode cX6_frameBit 51 = .ok (.aload_n 0, 1) := by decide +kernel
theorem dX6_frameBit_52 : decode cX6_frameBit 52 = .ok (.getfield 7, 3) := by decide +kernel
theorem dX6_frameBit_55 : decode cX6_frameBit 55 = .ok (.bipush 16, 2) := by decide +kernel
theorem dX6_frameBit_57 : decode cX6_frameBit 57 = .ok (.iconst 2, 1) := by decide +kernel
theorem dX6_frameBit_58 : decode cX6_frameBit 58 = .ok (.iload_n 1, 1) := by decide +kernel
theorem dX6_frameBit_59 : decode cX6_frameBit 59 = .ok (.imul, 1) := by decide +kernel
theorem dX6_frameBit_60 : decode cX6_frameBit 60 = .ok (.iadd, 1) := by decide +kernel
theorem dX6_frameBit_61 : decode cX6_frameBit 61 = .ok (.iconst 1, 1) := by decide +kernel
theorem dX6_frameBit_62 : decode cX6_frameBit 62 = .ok (.iadd, 1) := by decide +kernel
theorem dX6_frameBit_63 : decode cX6_frameBit 63 = .ok (.laload, 1) := by decide +kernel
theorem dX6_frameBit_64 : decode cX6_frameBit 64 = .ok (.iload_n 2, 1) := by decide +kernel
theorem dX6_frameBit_65 : decode cX6_frameBit 65 = .ok (.invokestatic 332, 3) := by decide +kernel
theorem dX6_frameBit_68 : decode cX6_frameBit 68 = .ok (.ireturn, 1) := by decide +kernel
theorem dX6_votes_0 : decode cX6_votes 0 = .ok (.aload_n 0, 1) := by decide +kernel
theorem dX6_votes_1 : decode cX6_votes 1 = .ok (.iconst 0, 1) := by decide +kernel
theorem dX6_votes_2 : decode cX6_votes 2 = .ok (.putfield 55, 3) := by decide +kernel
theorem dX6_votes_5 : decode cX6_votes 5 = .ok (.aload_n 0, 1) := by decide +kernel
theorem dX6_votes_6 : decode cX6_votes 6 = .ok (.iload_n 1, 1) := by decide +kernel
theorem dX6_votes_7 : decode cX6_votes 7 = .ok (.invokevirtual 354, 3) := by decide +kernel
theorem dX6_votes_10 : decode cX6_votes 10 = .ok (.ireturn, 1) := by decide +kernel
theorem dX6_favourite_0 : decode cX6_favourite 0 = .ok (.iconst (-1), 1) := by decide +kernel
theorem dX6_favourite_1 : decode cX6_favourite 1 = .ok (.istore_n 1, 1) := by decide +kernel
theorem dX6_favourite_2 : decode cX6_favourite 2 = .ok (.iconst 0, 1) := by decide +kernel
theorem dX6_favourite_3 : decode cX6_favourite 3 = .ok (.istore_n 2, 1) := by decide +kernel
theorem dX6_favourite_4 : decode cX6_favourite 4 = .ok (.iload_n 2, 1) := by decide +kernel
theorem dX6_favourite_5 : decode cX6_favourite 5 = .ok (.i2l, 1) := by decide +kernel
theorem dX6_favourite_6 : decode cX6_favourite 6 = .ok (.aload_n 0, 1) := by decide +kernel
theorem dX6_favourite_7 : decode cX6_favourite 7 = .ok (.getfield 7, 3) := by decide +kernel
theorem dX6_favourite_10 : decode cX6_favourite 10 = .ok (.bipush 12, 2) := by decide +kernel
theorem dX6_favourite_12 : decode cX6_favourite 12 = .ok (.laload, 1) := by decide +kernel
theorem dX6_favourite_13 : decode cX6_favourite 13 = .ok (.lcmp, 1) := by decide +kernel
theorem dX6_favourite_14 : decode cX6_favourite 14 = .ok (.ifCond .ge 66, 3) := by decide +kernel
theorem dX6_favourite_17 : decode cX6_favourite 17 = .ok (.aload_n 0, 1) := by decide +kernel
theorem dX6_favourite_18 : decode cX6_favourite 18 = .ok (.iload_n 2, 1) := by decide +kernel
theorem dX6_favourite_19 : decode cX6_favourite 19 = .ok (.invokevirtual 351, 3) := by decide +kernel
theorem dX6_favourite_22 : decode cX6_favourite 22 = .ok (.istore_n 3, 1) := by decide +kernel
theorem dX6_favourite_23 : decode cX6_favourite 23 = .ok (.iload_n 3, 1) := by decide +kernel
theorem dX6_favourite_24 : decode cX6_favourite 24 = .ok (.iconst (-1), 1) := by decide +kernel
theorem dX6_favourite_25 : decode cX6_favourite 25 = .ok (.if_icmp .ne 6, 3) := by decide +kernel
theorem dX6_favourite_28 : decode cX6_favourite 28 = .ok (.goto 46, 3) := by decide +kernel
theorem dX6_favourite_31 : decode cX6_favourite 31 = .ok (.iload_n 1, 1) := by decide +kernel
theorem dX6_favourite_32 : decode cX6_favourite 32 = .ok (.iconst (-1), 1) := by decide +kernel
theorem dX6_favourite_33 : decode cX6_favourite 33 = .ok (.if_icmp .ne 7, 3) := by decide +kernel
theorem dX6_favourite_36 : decode cX6_favourite 36 = .ok (.iconst 1, 1) := by decide +kernel
theorem dX6_favourite_37 : decode cX6_favourite 37 = .ok (.goto 14, 3) := by decide +kernel
theorem dX6_favourite_40 : decode cX6_favourite 40 = .ok (.aload_n 0, 1) := by decide +kernel
theorem dX6_favourite_41 : decode cX6_favourite 41 = .ok (.iload_n 3, 1) := by decide +kernel
theorem dX6_favourite_42 : decode cX6_favourite 42 = .ok (.invokevirtual 354, 3) := by decide +kernel
theorem dX6_favourite_45 : decode cX6_favourite 45 = .ok (.aload_n 0, 1) := by decide +kernel
theorem dX6_favourite_46 : decode cX6_favourite 46 = .ok (.iload_n 1, 1) := by decide +kernel
theorem dX6_favourite_47 : decode cX6_favourite 47 = .ok (.invokevirtual 354, 3) := by decide +kernel
theorem dX6_favourite_50 : decode cX6_favourite 50 = .ok (.isub, 1) := by decide +kernel
theorem dX6_favourite_51 : decode cX6_favourite 51 = .ok (.istore 4, 2) := by decide +kernel
theorem dX6_favourite_53 : decode cX6_favourite 53 = .ok (.iload 4, 2) := by decide +kernel
theorem dX6_favourite_55 : decode cX6_favourite 55 = .ok (.ifCond .gt 13, 3) := by decide +kernel
theorem dX6_favourite_58 : decode cX6_favourite 58 = .ok (.iload 4, 2) := by decide +kernel
theorem dX6_favourite_60 : decode cX6_favourite 60 = .ok (.ifCond .ne 12, 3) := by decide +kernel
theorem dX6_favourite_63 : decode cX6_favourite 63 = .ok (.iload_n 3, 1) := by decide +kernel
theorem dX6_favourite_64 : decode cX6_favourite 64 = .ok (.iload_n 1, 1) := by decide +kernel
theorem dX6_favourite_65 : decode cX6_favourite 65 = .ok (.if_icmp .ge 7, 3) := by decide +kernel
theorem dX6_favourite_68 : decode cX6_favourite 68 = .ok (.iload_n 3, 1) := by decide +kernel
theorem dX6_favourite_69 : decode cX6_favourite 69 = .ok (.goto 4, 3) := by decide +kernel
theorem dX6_favourite_72 : decode cX6_favourite 72 = .ok (.iload_n 1, 1) := by decide +kernel
theorem dX6_favourite_73 : decode cX6_favourite 73 = .ok (.istore_n 1, 1) := by decide +kernel
theorem dX6_favourite_74 : decode cX6_favourite 74 = .ok (.iinc 2 1, 3) := by decide +kernel
theorem dX6_favourite_77 : decode cX6_favourite 77 = .ok (.goto (-73), 3) := by decide +kernel
theorem dX6_favourite_80 : decode cX6_favourite 80 = .ok (.aload_n 0, 1) := by decide +kernel
theorem dX6_favourite_81 : decode cX6_favourite 81 = .ok (.iload_n 1, 1) := by decide +kernel
theorem dX6_favourite_82 : decode cX6_favourite 82 = .ok (.iconst (-1), 1) := by decide +kernel
theorem dX6_favourite_83 : decode cX6_favourite 83 = .ok (.if_icmp .ne 7, 3) := by decide +kernel
theorem dX6_favourite_86 : decode cX6_favourite 86 = .ok (.iconst 1, 1) := by decide +kernel
theorem dX6_favourite_87 : decode cX6_favourite 87 = .ok (.goto 4, 3) := by decide +kernel
theorem dX6_favourite_90 : decode cX6_favourite 90 = .ok (.iconst 0, 1) := by decide +kernel
theorem dX6_favourite_91 : decode cX6_favourite 91 = .ok (.putfield 55, 3) := by decide +kernel
theorem dX6_favourite_94 : decode cX6_favourite 94 = .ok (.aload_n 0, 1) := by decide +kernel
theorem dX6_favourite_95 : decode cX6_favourite 95 = .ok (.getfield 55, 3) := by decide +kernel
theorem dX6_favourite_98 : decode cX6_favourite 98 = .ok (.ifCond .le 7, 3) := by decide +kernel
theorem dX6_favourite_101 : decode cX6_favourite 101 = .ok (.iconst 0, 1) := by decide +kernel
theorem dX6_favourite_102 : decode cX6_favourite 102 = .ok (.goto 4, 3) := by decide +kernel
theorem dX6_favourite_105 : decode cX6_favourite 105 = .ok (.iload_n 1, 1) := by decide +kernel
theorem dX6_favourite_106 : decode cX6_favourite 106 = .ok (.ireturn, 1) := by decide +kernel
theorem dX6_weakest_0 : decode cX6_weakest 0 = .ok (.aload_n 0, 1) := by decide +kernel
theorem dX6_weakest_1 : decode cX6_weakest 1 = .ok (.iconst 0, 1) := by decide +kernel
theorem dX6_weakest_2 : decode cX6_weakest 2 = .ok (.putfield 55, 3) := by decide +kernel
theorem dX6_weakest_5 : decode cX6_weakest 5 = .ok (.iconst 0, 1) := by decide +kernel
theorem dX6_weakest_6 : decode cX6_weakest 6 = .ok (.istore_n 1, 1) := by decide +kernel
theorem dX6_weakest_7 : decode cX6_weakest 7 = .ok (.iconst 0, 1) := by decide +kernel
theorem dX6_weakest_8 : decode cX6_weakest 8 = .ok (.istore_n 2, 1) := by decide +kernel
theorem dX6_weakest_9 : decode cX6_weakest 9 = .ok (.iload_n 2, 1) := by decide +kernel
theorem dX6_weakest_10 : decode cX6_weakest 10 = .ok (.bipush 59, 2) := by decide +kernel
theorem dX6_weakest_12 : decode cX6_weakest 12 = .ok (.if_icmp .ge 84, 3) := by decide +kernel
theorem dX6_weakest_15 : decode cX6_weakest 15 = .ok (.iconst 0, 1) := by decide +kernel
theorem dX6_weakest_16 : decode cX6_weakest 16 = .ok (.istore_n 3, 1) := by decide +kernel
theorem dX6_weakest_17 : decode cX6_weakest 17 = .ok (.iconst 0, 1) := by decide +kernel
theorem dX6_weakest_18 : decode cX6_weakest 18 = .ok (.istore 4, 2) := by decide +kernel
theorem dX6_weakest_20 : decode cX6_weakest 20 = .ok (.iload 4, 2) := by decide +kernel
theorem dX6_weakest_22 : decode cX6_weakest 22 = .ok (.i2l, 1) := by decide +kernel
theorem dX6_weakest_23 : decode cX6_weakest 23 = .ok (.aload_n 0, 1) := by decide +kernel
theorem dX6_weakest_24 : decode cX6_weakest 24 = .ok (.getfield 7, 3) := by decide +kernel
theorem dX6_weakest_27 : decode cX6_weakest 27 = .ok (.bipush 12, 2) := by decide +kernel
theorem dX6_weakest_29 : decode cX6_weakest 29 = .ok (.laload, 1) := by decide +kernel
theorem dX6_weakest_30 : decode cX6_weakest 30 = .ok (.lcmp, 1) := by decide +kernel
theorem dX6_weakest_31 : decode cX6_weakest 31 = .ok (.ifCond .ge 48, 3) := by decide +kernel
theorem dX6_weakest_34 : decode cX6_weakest 34 = .ok (.ldc2_w 130, 3) := by decide +kernel
theorem dX6_weakest_37 : decode cX6_weakest 37 = .ok (.iload_n 2, 1) := by decide +kernel
theorem dX6_weakest_38 : decode cX6_weakest 38 = .ok (.invokestatic 58, 3) := by decide +kernel
theorem dX6_weakest_41 : decode cX6_weakest 41 = .ok (.ifCond .eq 38, 3) := by decide +kernel
theorem dX6_weakest_44 : decode cX6_weakest 44 = .ok (.iload_n 3, 1) := by decide +kernel
theorem dX6_weakest_45 : decode cX6_weakest 45 = .ok (.aload_n 0, 1) := by decide +kernel
theorem dX6_weakest_46 : decode cX6_weakest 46 = .ok (.getfield 7, 3) := by decide +kernel
theorem dX6_weakest_49 : decode cX6_weakest 49 = .ok (.bipush 16, 2) := by decide +kernel
theorem dX6_weakest_51 : decode cX6_weakest 51 = .ok (.iconst 2, 1) := by decide +kernel
theorem dX6_weakest_52 : decode cX6_weakest 52 = .ok (.iload 4, 2) := by decide +kernel
theorem dX6_weakest_54 : decode cX6_weakest 54 = .ok (.imul, 1) := by decide +kernel
theorem dX6_weakest_55 : decode cX6_weakest 55 = .ok (.iadd, 1) := by decide +kernel
theorem dX6_weakest_56 : decode cX6_weakest 56 = .ok (.iconst 1, 1) := by decide +kernel
theorem dX6_weakest_57 : decode cX6_weakest 57 = .ok (.iadd, 1) := by decide +kernel
theorem dX6_weakest_58 : decode cX6_weakest 58 = .ok (.laload, 1) := by decide +kernel
theorem dX6_weakest_59 : decode cX6_weakest 59 = .ok (.iload_n 2, 1) := by decide +kernel
theorem dX6_weakest_60 : decode cX6_weakest 60 = .ok (.invokestatic 58, 3) := by decide +kernel
theorem dX6_weakest_63 : decode cX6_weakest 63 = .ok (.ifCond .eq 7, 3) := by decide +kernel
theorem dX6_weakest_66 : decode cX6_weakest 66 = .ok (.iconst 1, 1) := by decide +kernel
theorem dX6_weakest_67 : decode cX6_weakest 67 = .ok (.goto 4, 3) := by decide +kernel
theorem dX6_weakest_70 : decode cX6_weakest 70 = .ok (.iconst 0, 1) := by decide +kernel
theorem dX6_weakest_71 : decode cX6_weakest 71 = .ok (.iadd, 1) := by decide +kernel
theorem dX6_weakest_72 : decode cX6_weakest 72 = .ok (.istore_n 3, 1) := by decide +kernel
theorem dX6_weakest_73 : decode cX6_weakest 73 = .ok (.iinc 4 1, 3) := by decide +kernel
theorem dX6_weakest_76 : decode cX6_weakest 76 = .ok (.goto (-56), 3) := by decide +kernel
theorem dX6_weakest_79 : decode cX6_weakest 79 = .ok (.iload_n 3, 1) := by decide +kernel
theorem dX6_weakest_80 : decode cX6_weakest 80 = .ok (.iload_n 1, 1) := by decide +kernel
theorem dX6_weakest_81 : decode cX6_weakest 81 = .ok (.if_icmp .le 7, 3) := by decide +kernel
theorem dX6_weakest_84 : decode cX6_weakest 84 = .ok (.iload_n 3, 1) := by decide +kernel
theorem dX6_weakest_85 : decode cX6_weakest 85 = .ok (.goto 4, 3) := by decide +kernel
theorem dX6_weakest_88 : decode cX6_weakest 88 = .ok (.iload_n 1, 1) := by decide +kernel
theorem dX6_weakest_89 : decode cX6_weakest 89 = .ok (.istore_n 1, 1) := by decide +kernel
theorem dX6_weakest_90 : decode cX6_weakest 90 = .ok (.iinc 2 1, 3) := by decide +kernel
theorem dX6_weakest_93 : decode cX6_weakest 93 = .ok (.goto (-84), 3) := by decide +kernel
theorem dX6_weakest_96 : decode cX6_weakest 96 = .ok (.iload_n 1, 1) := by decide +kernel
theorem dX6_weakest_97 : decode cX6_weakest 97 = .ok (.ireturn, 1) := by decide +kernel
theorem dX6_firstOf_0 : decode cX6_firstOf 0 = .ok (.iload_n 0, 1) := by decide +kernel
theorem dX6_firstOf_1 : decode cX6_firstOf 1 = .ok (.ifCond .ne 8, 3) := by decide +kernel
theorem dX6_firstOf_4 : decode cX6_firstOf 4 = .ok (.bipush 21, 2) := by decide +kernel
theorem dX6_firstOf_6 : decode cX6_firstOf 6 = .ok (.goto 15, 3) := by decide +kernel
theorem dX6_firstOf_9 : decode cX6_firstOf 9 = .ok (.iload_n 0, 1) := by decide +kernel
theorem dX6_firstOf_10 : decode cX6_firstOf 10 = .ok (.iconst 1, 1) := by decide +kernel
theorem dX6_firstOf_11 : decode cX6_firstOf 11 = .ok (.if_icmp .ne 8, 3) := by decide +kernel
theorem dX6_firstOf_14 : decode cX6_firstOf 14 = .ok (.bipush 29, 2) := by decide +kernel
theorem dX6_firstOf_16 : decode cX6_firstOf 16 = .ok (.goto 5, 3) := by decide +kernel
theorem dX6_firstOf_19 : decode cX6_firstOf 19 = .ok (.bipush 36, 2) := by decide +kernel
theorem dX6_firstOf_21 : decode cX6_firstOf 21 = .ok (.ireturn, 1) := by decide +kernel
theorem dX6_lastOf_0 : decode cX6_lastOf 0 = .ok (.iload_n 0, 1) := by decide +kernel
theorem dX6_lastOf_1 : decode cX6_lastOf 1 = .ok (.ifCond .ne 8, 3) := by decide +kernel
theorem dX6_lastOf_4 : decode cX6_lastOf 4 = .ok (.bipush 28, 2) := by decide +kernel
theorem dX6_lastOf_6 : decode cX6_lastOf 6 = .ok (.goto 15, 3) := by decide +kernel
theorem dX6_lastOf_9 : decode cX6_lastOf 9 = .ok (.iload_n 0, 1) := by decide +kernel
theorem dX6_lastOf_10 : decode cX6_lastOf 10 = .ok (.iconst 1, 1) := by decide +kernel
theorem dX6_lastOf_11 : decode cX6_lastOf 11 = .ok (.if_icmp .ne 8, 3) := by decide +kernel
theorem dX6_lastOf_14 : decode cX6_lastOf 14 = .ok (.bipush 35, 2) := by decide +kernel
theorem dX6_lastOf_16 : decode cX6_lastOf 16 = .ok (.goto 5, 3) := by decide +kernel
theorem dX6_lastOf_19 : decode cX6_lastOf 19 = .ok (.bipush 58, 2) := by decide +kernel
theorem dX6_lastOf_21 : decode cX6_lastOf 21 = .ok (.ireturn, 1) := by decide +kernel
theorem dX6_daysBy_0 : decode cX6_daysBy 0 = .ok (.sipush 2000, 3) := by decide +kernel
theorem dX6_daysBy_3 : decode cX6_daysBy 3 = .ok (.lload_n 0, 1) := by decide +kernel
theorem dX6_daysBy_4 : decode cX6_daysBy 4 = .ok (.bipush 50, 2) := by decide +kernel
theorem dX6_daysBy_6 : decode cX6_daysBy 6 = .ok (.iconst 4, 1) := by decide +kernel
theorem dX6_daysBy_7 : decode cX6_daysBy 7 = .ok (.invokestatic 136, 3) := by decide +kernel
theorem dX6_daysBy_10 : decode cX6_daysBy 10 = .ok (.iadd, 1) := by decide +kernel
theorem dX6_daysBy_11 : decode cX6_daysBy 11 = .ok (.istore_n 2, 1) := by decide +kernel
theorem dX6_daysBy_12 : decode cX6_daysBy 12 = .ok (.lload_n 0, 1) := by decide +kernel
theorem dX6_daysBy_13 : decode cX6_daysBy 13 = .ok (.bipush 45, 2) := by decide +kernel
theorem dX6_daysBy_15 : decode cX6_daysBy 15 = .ok (.iconst 1, 1) := by decide +kernel
theorem dX6_daysBy_16 : decode cX6_daysBy 16 = .ok (.invokestatic 136, 3) := by decide +kernel
theorem dX6_daysBy_19 : decode cX6_daysBy 19 = .ok (.istore_n 3, 1) := by decide +kernel
theorem dX6_daysBy_20 : decode cX6_daysBy 20 = .ok (.lload_n 0, 1) := by decide +kernel
theorem dX6_daysBy_21 : decode cX6_daysBy 21 = .ok (.bipush 36, 2) := by decide +kernel
theorem dX6_daysBy_23 : decode cX6_daysBy 23 = .ok (.iconst 2, 1) := by decide +kernel
theorem dX6_daysBy_24 : decode cX6_daysBy 24 = .ok (.invokestatic 136, 3) := by decide +kernel
theorem dX6_daysBy_27 : decode cX6_daysBy 27 = .ok (.istore 4, 2) := by decide +kernel
theorem dX6_daysBy_29 : decode cX6_daysBy 29 = .ok (.iload_n 2, 1) := by decide +kernel
theorem dX6_daysBy_30 : decode cX6_daysBy 30 = .ok (.iload_n 3, 1) := by decide +kernel
theorem dX6_daysBy_31 : decode cX6_daysBy 31 = .ok (.iload 4, 2) := by decide +kernel
theorem dX6_daysBy_33 : decode cX6_daysBy 33 = .ok (.invokestatic 95, 3) := by decide +kernel
theorem dX6_daysBy_36 : decode cX6_daysBy 36 = .ok (.ifCond .ne 5, 3) := by decide +kernel
theorem dX6_daysBy_39 : decode cX6_daysBy 39 = .ok (.iconst (-1), 1) := by decide +kernel
theorem dX6_daysBy_40 : decode cX6_daysBy 40 = .ok (.ireturn, 1) := by decide +kernel
theorem dX6_daysBy_41 : decode cX6_daysBy 41 = .ok (.iload_n 2, 1) := by decide +kernel
theorem dX6_daysBy_42 : decode cX6_daysBy 42 = .ok (.iload_n 3, 1) := by decide +kernel
theorem dX6_daysBy_43 : decode cX6_daysBy 43 = .ok (.iload 4, 2) := by decide +kernel
theorem dX6_daysBy_45 : decode cX6_daysBy 45 = .ok (.iconst 0, 1) := by decide +kernel
theorem dX6_daysBy_46 : decode cX6_daysBy 46 = .ok (.iconst 0, 1) := by decide +kernel
theorem dX6_daysBy_47 : decode cX6_daysBy 47 = .ok (.invokestatic 103, 3) := by decide +kernel
theorem dX6_daysBy_50 : decode cX6_daysBy 50 = .ok (.istore 5, 2) := by decide +kernel
theorem dX6_daysBy_52 : decode cX6_daysBy 52 = .ok (.lload_n 0, 1) := by decide +kernel
theorem dX6_daysBy_53 : decode cX6_daysBy 53 = .ok (.bipush 42, 2) := by decide +kernel
theorem dX6_daysBy_55 : decode cX6_daysBy 55 = .ok (.iconst 3, 1) := by decide +kernel
theorem dX6_daysBy_56 : decode cX6_daysBy 56 = .ok (.invokestatic 127, 3) := by decide +kernel
theorem dX6_daysBy_59 : decode cX6_daysBy 59 = .ok (.iload 5, 2) := by decide +kernel
theorem dX6_daysBy_61 : decode cX6_daysBy 61 = .ok (.iconst 5, 1) := by decide +kernel
theorem dX6_daysBy_62 : decode cX6_daysBy 62 = .ok (.invokestatic 86, 3) := by decide +kernel
theorem dX6_daysBy_65 : decode cX6_daysBy 65 = .ok (.if_icmp .ne 12, 3) := by decide +kernel
theorem dX6_daysBy_68 : decode cX6_daysBy 68 = .ok (.iload 5, 2) := by decide +kernel
theorem dX6_daysBy_70 : decode cX6_daysBy 70 = .ok (.sipush 1440, 3) := by decide +kernel
theorem dX6_daysBy_73 : decode cX6_daysBy 73 = .ok (.idiv, 1) := by decide +kernel
theorem dX6_daysBy_74 : decode cX6_daysBy 74 = .ok (.goto 4, 3) := by decide +kernel
theorem dX6_daysBy_77 : decode cX6_daysBy 77 = .ok (.iconst (-1), 1) := by decide +kernel
theorem dX6_daysBy_78 : decode cX6_daysBy 78 = .ok (.ireturn, 1) := by decide +kernel
theorem dX6_blockOf_0 : decode cX6_blockOf 0 = .ok (.aload_n 0, 1) := by decide +kernel
theorem dX6_blockOf_1 : decode cX6_blockOf 1 = .ok (.getfield 7, 3) := by decide +kernel
theorem dX6_blockOf_4 : decode cX6_blockOf 4 = .ok (.bipush 16, 2) := by decide +kernel
theorem dX6_blockOf_6 : decode cX6_blockOf 6 = .ok (.iconst 2, 1) := by decide +kernel
theorem dX6_blockOf_7 : decode cX6_blockOf 7 = .ok (.iload_n 1, 1) := by decide +kernel
theorem dX6_blockOf_8 : decode cX6_blockOf 8 = .ok (.imul, 1) := by decide +kernel
theorem dX6_blockOf_9 : decode cX6_blockOf 9 = .ok (.iadd, 1) := by decide +kernel
theorem dX6_blockOf_10 : decode cX6_blockOf 10 = .ok (.laload, 1) := by decide +kernel
theorem dX6_blockOf_11 : decode cX6_blockOf 11 = .ok (.lstore_n 3, 1) := by decide +kernel
theorem dX6_blockOf_12 : decode cX6_blockOf 12 = .ok (.iload_n 2, 1) := by decide +kernel
theorem dX6_blockOf_13 : decode cX6_blockOf 13 = .ok (.invokestatic 360, 3) := by decide +kernel
theorem dX6_blockOf_16 : decode cX6_blockOf 16 = .ok (.iload_n 2, 1) := by decide +kernel
theorem dX6_blockOf_17 : decode cX6_blockOf 17 = .ok (.invokestatic 363, 3) := by decide +kernel
theorem dX6_blockOf_20 : decode cX6_blockOf 20 = .ok (.invokestatic 366, 3) := by decide +kernel
theorem dX6_blockOf_23 : decode cX6_blockOf 23 = .ok (.lstore 5, 2) := by decide +kernel
theorem dX6_blockOf_25 : decode cX6_blockOf 25 = .ok (.aload_n 0, 1) := by decide +kernel
theorem dX6_blockOf_26 : decode cX6_blockOf 26 = .ok (.getfield 7, 3) := by decide +kernel
theorem dX6_blockOf_29 : decode cX6_blockOf 29 = .ok (.bipush 16, 2) := by decide +kernel
theorem dX6_blockOf_31 : decode cX6_blockOf 31 = .ok (.iconst 2, 1) := by decide +kernel
theorem dX6_blockOf_32 : decode cX6_blockOf 32 = .ok (.iload_n 1, 1) := by decide +kernel
theorem dX6_blockOf_33 : decode cX6_blockOf 33 = .ok (.imul, 1) := by decide +kernel
theorem dX6_blockOf_34 : decode cX6_blockOf 34 = .ok (.iadd, 1) := by decide +kernel
theorem dX6_blockOf_35 : decode cX6_blockOf 35 = .ok (.iconst 1, 1) := by decide +kernel
theorem dX6_blockOf_36 : decode cX6_blockOf 36 = .ok (.iadd, 1) := by decide +kernel
theorem dX6_blockOf_37 : decode cX6_blockOf 37 = .ok (.laload, 1) := by decide +kernel
theorem dX6_blockOf_38 : decode cX6_blockOf 38 = .ok (.lload 5, 2) := by decide +kernel
theorem dX6_blockOf_40 : decode cX6_blockOf 40 = .ok (.land, 1) := by decide +kernel
theorem dX6_blockOf_41 : decode cX6_blockOf 41 = .ok (.lconst 0, 1) := by decide +kernel
theorem dX6_blockOf_42 : decode cX6_blockOf 42 = .ok (.lcmp, 1) := by decide +kernel
theorem dX6_blockOf_43 : decode cX6_blockOf 43 = .ok (.ifCond .ne 18, 3) := by decide +kernel
theorem dX6_blockOf_46 : decode cX6_blockOf 46 = .ok (.lload_n 3, 1) := by decide +kernel
theorem dX6_blockOf_47 : decode cX6_blockOf 47 = .ok (.iload_n 2, 1) := by decide +kernel
theorem dX6_blockOf_48 : decode cX6_blockOf 48 = .ok (.invokestatic 360, 3) := by decide +kernel
theorem dX6_blockOf_51 : decode cX6_blockOf 51 = .ok (.iload_n 2, 1) := by decide +kernel
theorem dX6_blockOf_52 : decode cX6_blockOf 52 = .ok (.invokestatic 363, 3) := by decide +kernel
theorem dX6_blockOf_55 : decode cX6_blockOf 55 = .ok (.invokestatic 132, 3) := by decide +kernel
theorem dX6_blockOf_58 : decode cX6_blockOf 58 = .ok (.ifCond .eq 5, 3) := by decide +kernel
theorem dX6_blockOf_61 : decode cX6_blockOf 61 = .ok (.iconst (-1), 1) := by decide +kernel
theorem dX6_blockOf_62 : decode cX6_blockOf 62 = .ok (.ireturn, 1) := by decide +kernel
theorem dX6_blockOf_63 : decode cX6_blockOf 63 = .ok (.iload_n 2, 1) := by decide +kernel
theorem dX6_blockOf_64 : decode cX6_blockOf 64 = .ok (.iconst 2, 1) := by decide +kernel
theorem dX6_blockOf_65 : decode cX6_blockOf 65 = .ok (.if_icmp .ne 8, 3) := by decide +kernel
theorem dX6_blockOf_68 : decode cX6_blockOf 68 = .ok (.lload_n 3, 1) := by decide +kernel
theorem dX6_blockOf_69 : decode cX6_blockOf 69 = .ok (.invokestatic 369, 3) := by decide +kernel
theorem dX6_blockOf_72 : decode cX6_blockOf 72 = .ok (.ireturn, 1) := by decide +kernel
theorem dX6_blockOf_73 : decode cX6_blockOf 73 = .ok (.iload_n 2, 1) := by decide +kernel
theorem dX6_blockOf_74 : decode cX6_blockOf 74 = .ok (.ifCond .ne 13, 3) := by decide +kernel
theorem dX6_blockOf_77 : decode cX6_blockOf 77 = .ok (.lload_n 3, 1) := by decide +kernel
theorem dX6_blockOf_78 : decode cX6_blockOf 78 = .ok (.bipush 21, 2) := by decide +kernel
theorem dX6_blockOf_80 : decode cX6_blockOf 80 = .ok (.iconst 3, 1) := by decide +kernel
theorem dX6_blockOf_81 : decode cX6_blockOf 81 = .ok (.invokestatic 136, 3) := by decide +kernel
theorem dX6_blockOf_84 : decode cX6_blockOf 84 = .ok (.goto 10, 3) := by decide +kernel
theorem dX6_blockOf_87 : decode cX6_blockOf 87 = .ok (.lload_n 3, 1) := by decide +kernel
theorem dX6_blockOf_88 : decode cX6_blockOf 88 = .ok (.bipush 29, 2) := by decide +kernel
theorem dX6_blockOf_90 : decode cX6_blockOf 90 = .ok (.iconst 2, 1) := by decide +kernel
theorem dX6_blockOf_91 : decode cX6_blockOf 91 = .ok (.invokestatic 136, 3) := by decide +kernel
theorem dX6_blockOf_94 : decode cX6_blockOf 94 = .ok (.istore 7, 2) := by decide +kernel
theorem dX6_blockOf_96 : decode cX6_blockOf 96 = .ok (.iload 7, 2) := by decide +kernel
theorem dX6_blockOf_98 : decode cX6_blockOf 98 = .ok (.iload_n 2, 1) := by decide +kernel
theorem dX6_blockOf_99 : decode cX6_blockOf 99 = .ok (.ifCond .ne 8, 3) := by decide +kernel
theorem dX6_blockOf_102 : decode cX6_blockOf 102 = .ok (.bipush 59, 2) := by decide +kernel
theorem dX6_blockOf_104 : decode cX6_blockOf 104 = .ok (.goto 5, 3) := by decide +kernel
theorem dX6_blockOf_107 : decode cX6_blockOf 107 = .ok (.bipush 23, 2) := by decide +kernel
theorem dX6_blockOf_109 : decode cX6_blockOf 109 = .ok (.if_icmp .le 7, 3) := by decide +kernel
theorem dX6_blockOf_112 : decode cX6_blockOf 112 = .ok (.iconst (-1), 1) := by decide +kernel
theorem dX6_blockOf_113 : decode cX6_blockOf 113 = .ok (.goto 5, 3) := by decide +kernel
theorem dX6_blockOf_116 : decode cX6_blockOf 116 = .ok (.iload 7, 2) := by decide +kernel
theorem dX6_blockOf_118 : decode cX6_blockOf 118 = .ok (.ireturn, 1) := by decide +kernel
theorem dX6_block_0 : decode cX6_block 0 = .ok (.aload_n 0, 1) := by decide +kernel
theorem dX6_block_1 : decode cX6_block 1 = .ok (.aload_n 0, 1) := by decide +kernel
theorem dX6_block_2 : decode cX6_block 2 = .ok (.iload_n 1, 1) := by decide +kernel
theorem dX6_block_3 : decode cX6_block 3 = .ok (.invokevirtual 357, 3) := by decide +kernel
theorem dX6_block_6 : decode cX6_block 6 = .ok (.ifCond .ne 7, 3) := by decide +kernel
theorem dX6_block_9 : decode cX6_block 9 = .ok (.iconst 1, 1) := by decide +kernel
theorem dX6_block_10 : decode cX6_block 10 = .ok (.goto 20, 3) := by decide +kernel
theorem dX6_block_13 : decode cX6_block 13 = .ok (.iload_n 2, 1) := by decide +kernel
theorem dX6_block_14 : decode cX6_block 14 = .ok (.i2l, 1) := by decide +kernel
theorem dX6_block_15 : decode cX6_block 15 = .ok (.lconst 0, 1) := by decide +kernel
theorem dX6_block_16 : decode cX6_block 16 = .ok (.ldc2_w 317, 3) := by decide +kernel
theorem dX6_block_19 : decode cX6_block 19 = .ok (.invokestatic 65, 3) := by decide +kernel
theorem dX6_block_22 : decode cX6_block 22 = .ok (.ifCond .eq 7, 3) := by decide +kernel
theorem dX6_block_25 : decode cX6_block 25 = .ok (.iconst 0, 1) := by decide +kernel
theorem dX6_block_26 : decode cX6_block 26 = .ok (.goto 4, 3) := by decide +kernel
theorem dX6_block_29 : decode cX6_block 29 = .ok (.iconst 2, 1) := by decide +kernel
theorem dX6_block_30 : decode cX6_block 30 = .ok (.putfield 55, 3) := by decide +kernel
theorem dX6_block_33 : decode cX6_block 33 = .ok (.aload_n 0, 1) := by decide +kernel
theorem dX6_block_34 : decode cX6_block 34 = .ok (.getfield 55, 3) := by decide +kernel
theorem dX6_block_37 : decode cX6_block 37 = .ok (.ifCond .le 7, 3) := by decide +kernel
theorem dX6_block_40 : decode cX6_block 40 = .ok (.iconst 0, 1) := by decide +kernel
theorem dX6_block_41 : decode cX6_block 41 = .ok (.goto 9, 3) := by decide +kernel
theorem dX6_block_44 : decode cX6_block 44 = .ok (.aload_n 0, 1) := by decide +kernel
theorem dX6_block_45 : decode cX6_block 45 = .ok (.iload_n 1, 1) := by decide +kernel
theorem dX6_block_46 : decode cX6_block 46 = .ok (.iload_n 2, 1) := by decide +kernel
theorem dX6_block_47 : decode cX6_block 47 = .ok (.invokevirtual 373, 3) := by decide +kernel
theorem dX6_block_50 : decode cX6_block 50 = .ok (.ireturn, 1) := by decide +kernel
theorem dX6_blockVote_0 : decode cX6_blockVote 0 = .ok (.aload_n 0, 1) := by decide +kernel
theorem dX6_blockVote_1 : decode cX6_blockVote 1 = .ok (.iload_n 1, 1) := by decide +kernel
theorem dX6_blockVote_2 : decode cX6_blockVote 2 = .ok (.iload_n 2, 1) := by decide +kernel
theorem dX6_blockVote_3 : decode cX6_blockVote 3 = .ok (.invokevirtual 373, 3) := by decide +kernel
theorem dX6_blockVote_6 : decode cX6_blockVote 6 = .ok (.istore 4, 2) := by decide +kernel
theorem dX6_blockVote_8 : decode cX6_blockVote 8 = .ok (.iload 4, 2) := by decide +kernel
theorem dX6_blockVote_10 : decode cX6_blockVote 10 = .ok (.iconst (-1), 1) := by decide +kernel
theorem dX6_blockVote_11 : decode cX6_blockVote 11 = .ok (.if_icmp .eq 12, 3) := by decide +kernel
theorem dX6_blockVote_14 : decode cX6_blockVote 14 = .ok (.iload_n 2, 1) := by decide +kernel
theorem dX6_blockVote_15 : decode cX6_blockVote 15 = .ok (.ifCond .le 10, 3) := by decide +kernel
theorem dX6_blockVote_18 : decode cX6_blockVote 18 = .ok (.iload_n 1, 1) := by decide +kernel
theorem dX6_blockVote_19 : decode cX6_blockVote 19 = .ok (.iload_n 3, 1) := by decide +kernel
theorem dX6_blockVote_20 : decode cX6_blockVote 20 = .ok (.if_icmp .le 5, 3) := by decide +kernel
theorem dX6_blockVote_23 : decode cX6_blockVote 23 = .ok (.iconst (-1), 1) := by decide +kernel
theorem dX6_blockVote_24 : decode cX6_blockVote 24 = .ok (.ireturn, 1) := by decide +kernel
theorem dX6_blockVote_25 : decode cX6_blockVote 25 = .ok (.iload_n 2, 1) := by decide +kernel
theorem dX6_blockVote_26 : decode cX6_blockVote 26 = .ok (.ifCond .ne 13, 3) := by decide +kernel
theorem dX6_blockVote_29 : decode cX6_blockVote 29 = .ok (.iload 4, 2) := by decide +kernel
theorem dX6_blockVote_31 : decode cX6_blockVote 31 = .ok (.iload_n 1, 1) := by decide +kernel
theorem dX6_blockVote_32 : decode cX6_blockVote 32 = .ok (.iadd, 1) := by decide +kernel
theorem dX6_blockVote_33 : decode cX6_blockVote 33 = .ok (.bipush 60, 2) := by decide +kernel
theorem dX6_blockVote_35 : decode cX6_blockVote 35 = .ok (.irem, 1) := by decide +kernel
theorem dX6_blockVote_36 : decode cX6_blockVote 36 = .ok (.goto 5, 3) := by decide +kernel
theorem dX6_blockVote_39 : decode cX6_blockVote 39 = .ok (.iload 4, 2) := by decide +kernel
theorem dX6_blockVote_41 : decode cX6_blockVote 41 = .ok (.ireturn, 1) := by decide +kernel
theorem dX6_blockVotes_0 : decode cX6_blockVotes 0 = .ok (.iconst 0, 1) := by decide +kernel
theorem dX6_blockVotes_1 : decode cX6_blockVotes 1 = .ok (.istore 4, 2) := by decide +kernel
theorem dX6_blockVotes_3 : decode cX6_blockVotes 3 = .ok (.iconst 0, 1) := by decide +kernel
theorem dX6_blockVotes_4 : decode cX6_blockVotes 4 = .ok (.istore 5, 2) := by decide +kernel
theorem dX6_blockVotes_6 : decode cX6_blockVotes 6 = .ok (.iload 5, 2) := by decide +kernel
theorem dX6_blockVotes_8 : decode cX6_blockVotes 8 = .ok (.i2l, 1) := by decide +kernel
theorem dX6_blockVotes_9 : decode cX6_blockVotes 9 = .ok (.aload_n 0, 1) := by decide +kernel
theorem dX6_blockVotes_10 : decode cX6_blockVotes 10 = .ok (.getfield 7, 3) := by decide +kernel
theorem dX6_blockVotes_13 : decode cX6_blockVotes 13 = .ok (.bipush 12, 2) := by decide +kernel
theorem dX6_blockVotes_15 : decode cX6_blockVotes 15 = .ok (.laload, 1) := by decide +kernel
theorem dX6_blockVotes_16 : decode cX6_blockVotes 16 = .ok (.lcmp, 1) := by decide +kernel
theorem dX6_blockVotes_17 : decode cX6_blockVotes 17 = .ok (.ifCond .ge 31, 3) := by decide +kernel
theorem dX6_blockVotes_20 : decode cX6_blockVotes 20 = .ok (.iload 4, 2) := by decide +kernel
theorem dX6_blockVotes_22 : decode cX6_blockVotes 22 = .ok (.aload_n 0, 1) := by decide +kernel
theorem dX6_blockVotes_23 : decode cX6_blockVotes 23 = .ok (.iload 5, 2) := by decide +kernel
theorem dX6_blockVotes_25 : decode cX6_blockVotes 25 = .ok (.iload_n 2, 1) := by decide +kernel
theorem dX6_blockVotes_26 : decode cX6_blockVotes 26 = .ok (.iload_n 3, 1) := by decide +kernel
theorem dX6_blockVotes_27 : decode cX6_blockVotes 27 = .ok (.invokevirtual 376, 3) := by decide +kernel
theorem dX6_blockVotes_30 : decode cX6_blockVotes 30 = .ok (.iload_n 1, 1) := by decide +kernel
theorem dX6_blockVotes_31 : decode cX6_blockVotes 31 = .ok (.if_icmp .ne 7, 3) := by decide +kernel
theorem dX6_blockVotes_34 : decode cX6_blockVotes 34 = .ok (.iconst 1, 1) := by decide +kernel
theorem dX6_blockVotes_35 : decode cX6_blockVotes 35 = .ok (.goto 4, 3) := by decide +kernel
theorem dX6_blockVotes_38 : decode cX6_blockVotes 38 = .ok (.iconst 0, 1) := by decide +kernel
theorem dX6_blockVotes_39 : decode cX6_blockVotes 39 = .ok (.iadd, 1) := by decide +kernel
theorem dX6_blockVotes_40 : decode cX6_blockVotes 40 = .ok (.istore 4, 2) := by decide +kernel
theorem dX6_blockVotes_42 : decode cX6_blockVotes 42 = .ok (.iinc 5 1, 3) := by decide +kernel
theorem dX6_blockVotes_45 : decode cX6_blockVotes 45 = .ok (.goto (-39), 3) := by decide +kernel
theorem dX6_blockVotes_48 : decode cX6_blockVotes 48 = .ok (.iload 4, 2) := by decide +kernel
theorem dX6_blockVotes_50 : decode cX6_blockVotes 50 = .ok (.ireturn, 1) := by decide +kernel
theorem dX6_chosenBy_0 : decode cX6_chosenBy 0 = .ok (.iconst (-1), 1) := by decide +kernel
theorem dX6_chosenBy_1 : decode cX6_chosenBy 1 = .ok (.istore_n 3, 1) := by decide +kernel
theorem dX6_chosenBy_2 : decode cX6_chosenBy 2 = .ok (.aload_n 0, 1) := by decide +kernel
theorem dX6_chosenBy_3 : decode cX6_chosenBy 3 = .ok (.getfield 7, 3) := by decide +kernel
theorem dX6_chosenBy_6 : decode cX6_chosenBy 6 = .ok (.iconst 1, 1) := by decide +kernel
theorem dX6_chosenBy_7 : decode cX6_chosenBy 7 = .ok (.laload, 1) := by decide +kernel
theorem dX6_chosenBy_8 : decode cX6_chosenBy 8 = .ok (.l2i, 1) := by decide +kernel
theorem dX6_chosenBy_9 : decode cX6_chosenBy 9 = .ok (.iconst 1, 1) := by decide +kernel
theorem dX6_chosenBy_10 : decode cX6_chosenBy 10 = .ok (.isub, 1) := by decide +kernel
theorem dX6_chosenBy_11 : decode cX6_chosenBy 11 = .ok (.istore 4, 2) := by decide +kernel
theorem dX6_chosenBy_13 : decode cX6_chosenBy 13 = .ok (.iconst 0, 1) := by decide +kernel
theorem dX6_chosenBy_14 : decode cX6_chosenBy 14 = .ok (.istore 5, 2) := by decide +kernel
theorem dX6_chosenBy_16 : decode cX6_chosenBy 16 = .ok (.iload 5, 2) := by decide +kernel
theorem dX6_chosenBy_18 : decode cX6_chosenBy 18 = .ok (.i2l, 1) := by decide +kernel
theorem dX6_chosenBy_19 : decode cX6_chosenBy 19 = .ok (.aload_n 0, 1) := by decide +kernel
theorem dX6_chosenBy_20 : decode cX6_chosenBy 20 = .ok (.getfield 7, 3) := by decide +kernel
theorem dX6_chosenBy_23 : decode cX6_chosenBy 23 = .ok (.bipush 12, 2) := by decide +kernel
theorem dX6_chosenBy_25 : decode cX6_chosenBy 25 = .ok (.laload, 1) := by decide +kernel
theorem dX6_chosenBy_26 : decode cX6_chosenBy 26 = .ok (.lcmp, 1) := by decide +kernel
theorem dX6_chosenBy_27 : decode cX6_chosenBy 27 = .ok (.ifCond .ge 86, 3) := by decide +kernel
theorem dX6_chosenBy_30 : decode cX6_chosenBy 30 = .ok (.aload_n 0, 1) := by decide +kernel
theorem dX6_chosenBy_31 : decode cX6_chosenBy 31 = .ok (.iload 5, 2) := by decide +kernel
theorem dX6_chosenBy_33 : decode cX6_chosenBy 33 = .ok (.iload_n 1, 1) := by decide +kernel
theorem dX6_chosenBy_34 : decode cX6_chosenBy 34 = .ok (.iload_n 2, 1) := by decide +kernel
theorem dX6_chosenBy_35 : decode cX6_chosenBy 35 = .ok (.invokevirtual 376, 3) := by decide +kernel
theorem dX6_chosenBy_38 : decode cX6_chosenBy 38 = .ok (.istore 6, 2) := by decide +kernel
theorem dX6_chosenBy_40 : decode cX6_chosenBy 40 = .ok (.iload 6, 2) := by decide +kernel
theorem dX6_chosenBy_42 : decode cX6_chosenBy 42 = .ok (.iconst (-1), 1) := by decide +kernel
theorem dX6_chosenBy_43 : decode cX6_chosenBy 43 = .ok (.if_icmp .ne 7, 3) := by decide +kernel
theorem dX6_chosenBy_46 : decode cX6_chosenBy 46 = .ok (.iconst 0, 1) := by decide +kernel
theorem dX6_chosenBy_47 : decode cX6_chosenBy 47 = .ok (.goto 11, 3) := by decide +kernel
theorem dX6_chosenBy_50 : decode cX6_chosenBy 50 = .ok (.aload_n 0, 1) := by decide +kernel
theorem dX6_chosenBy_51 : decode cX6_chosenBy 51 = .ok (.iload 6, 2) := by decide +kernel
theorem dX6_chosenBy_53 : decode cX6_chosenBy 53 = .ok (.iload_n 1, 1) := by decide +kernel
theorem dX6_chosenBy_54 : decode cX6_chosenBy 54 = .ok (.iload_n 2, 1) := by decide +kernel
theorem dX6_chosenBy_55 : decode cX6_chosenBy 55 = .ok (.invokevirtual 380, 3) := by decide +kernel
theorem dX6_chosenBy_58 : decode cX6_chosenBy 58 = .ok (.istore 7, 2) := by decide +kernel
theorem dX6_chosenBy_60 : decode cX6_chosenBy 60 = .ok (.iload 7, 2) := by decide +kernel
theorem dX6_chosenBy_62 : decode cX6_chosenBy 62 = .ok (.i2l, 1) := by decide +kernel
theorem dX6_chosenBy_63 : decode cX6_chosenBy 63 = .ok (.aload_n 0, 1) := by decide +kernel
theorem dX6_chosenBy_64 : decode cX6_chosenBy 64 = .ok (.getfield 7, 3) := by decide +kernel
theorem dX6_chosenBy_67 : decode cX6_chosenBy 67 = .ok (.iconst 1, 1) := by decide +kernel
theorem dX6_chosenBy_68 : decode cX6_chosenBy 68 = .ok (.laload, 1) := by decide +kernel
theorem dX6_chosenBy_69 : decode cX6_chosenBy 69 = .ok (.lcmp, 1) := by decide +kernel
theorem dX6_chosenBy_70 : decode cX6_chosenBy 70 = .ok (.ifCond .lt 37, 3) := by decide +kernel
theorem dX6_chosenBy_73 : decode cX6_chosenBy 73 = .ok (.iload 7, 2) := by decide +kernel
theorem dX6_chosenBy_75 : decode cX6_chosenBy 75 = .ok (.iload 4, 2) := by decide +kernel
theorem dX6_chosenBy_77 : decode cX6_chosenBy 77 = .ok (.if_icmp .lt 30, 3) := by decide +kernel
theorem dX6_chosenBy_80 : decode cX6_chosenBy 80 = .ok (.iload 6, 2) := by decide +kernel
theorem dX6_chosenBy_82 : decode cX6_chosenBy 82 = .ok (.iload_n 3, 1) := by decide +kernel
theorem dX6_chosenBy_83 : decode cX6_chosenBy 83 = .ok (.if_icmp .ne 6, 3) := by decide +kernel
theorem dX6_chosenBy_86 : decode cX6_chosenBy 86 = .ok (.goto 21, 3) := by decide +kernel
theorem dX6_chosenBy_89 : decode cX6_chosenBy 89 = .ok (.iload 7, 2) := by decide +kernel
theorem dX6_chosenBy_91 : decode cX6_chosenBy 91 = .ok (.iload 4, 2) := by decide +kernel
theorem dX6_chosenBy_93 : decode cX6_chosenBy 93 = .ok (.if_icmp .le 8, 3) := by decide +kernel
theorem dX6_chosenBy_96 : decode cX6_chosenBy 96 = .ok (.iload 6, 2) := by decide +kernel
theorem dX6_chosenBy_98 : decode cX6_chosenBy 98 = .ok (.goto 4, 3) := by decide +kernel
theorem dX6_chosenBy_101 : decode cX6_chosenBy 101 = .ok (.iconst (-1), 1) := by decide +kernel
theorem dX6_chosenBy_102 : decode cX6_chosenBy 102 = .ok (.istore_n 3, 1) := by decide +kernel
theorem dX6_chosenBy_103 : decode cX6_chosenBy 103 = .ok (.iload 7, 2) := by decide +kernel
theorem dX6_chosenBy_105 : decode cX6_chosenBy 105 = .ok (.istore 4, 2) := by decide +kernel
theorem dX6_chosenBy_107 : decode cX6_chosenBy 107 = .ok (.iinc 5 1, 3) := by decide +kernel
theorem dX6_chosenBy_110 : decode cX6_chosenBy 110 = .ok (.goto (-94), 3) := by decide +kernel
theorem dX6_chosenBy_113 : decode cX6_chosenBy 113 = .ok (.iload_n 3, 1) := by decide +kernel
theorem dX6_chosenBy_114 : decode cX6_chosenBy 114 = .ok (.ireturn, 1) := by decide +kernel
theorem dX6_assembledNow_0 : decode cX6_assembledNow 0 = .ok (.aload_n 0, 1) := by decide +kernel
theorem dX6_assembledNow_1 : decode cX6_assembledNow 1 = .ok (.iconst 0, 1) := by decide +kernel
theorem dX6_assembledNow_2 : decode cX6_assembledNow 2 = .ok (.iconst 0, 1) := by decide +kernel
theorem dX6_assembledNow_3 : decode cX6_assembledNow 3 = .ok (.invokevirtual 383, 3) := by decide +kernel
theorem dX6_assembledNow_6 : decode cX6_assembledNow 6 = .ok (.istore_n 1, 1) := by decide +kernel
theorem dX6_assembledNow_7 : decode cX6_assembledNow 7 = .ok (.iload_n 1, 1) := by decide +kernel
theorem dX6_assembledNow_8 : decode cX6_assembledNow 8 = .ok (.iconst (-1), 1) := by decide +kernel
theorem dX6_assembledNow_9 : decode cX6_assembledNow 9 = .ok (.if_icmp .ne 5, 3) := by decide +kernel
theorem dX6_assembledNow_12 : decode cX6_assembledNow 12 = .ok (.iconst (-1), 1) := by decide +kernel
theorem dX6_assembledNow_13 : decode cX6_assembledNow 13 = .ok (.ireturn, 1) := by decide +kernel
theorem dX6_assembledNow_14 : decode cX6_assembledNow 14 = .ok (.aload_n 0, 1) := by decide +kernel
theorem dX6_assembledNow_15 : decode cX6_assembledNow 15 = .ok (.iconst 1, 1) := by decide +kernel
theorem dX6_assembledNow_16 : decode cX6_assembledNow 16 = .ok (.iload_n 1, 1) := by decide +kernel
theorem dX6_assembledNow_17 : decode cX6_assembledNow 17 = .ok (.invokevirtual 383, 3) := by decide +kernel
theorem dX6_assembledNow_20 : decode cX6_assembledNow 20 = .ok (.istore_n 2, 1) := by decide +kernel
theorem dX6_assembledNow_21 : decode cX6_assembledNow 21 = .ok (.aload_n 0, 1) := by decide +kernel
theorem dX6_assembledNow_22 : decode cX6_assembledNow 22 = .ok (.iconst 2, 1) := by decide +kernel
theorem dX6_assembledNow_23 : decode cX6_assembledNow 23 = .ok (.iload_n 1, 1) := by decide +kernel
theorem dX6_assembledNow_24 : decode cX6_assembledNow 24 = .ok (.invokevirtual 383, 3) := by decide +kernel
theorem dX6_assembledNow_27 : decode cX6_assembledNow 27 = .ok (.istore_n 3, 1) := by decide +kernel
theorem dX6_assembledNow_28 : decode cX6_assembledNow 28 = .ok (.iload_n 2, 1) := by decide +kernel
theorem dX6_assembledNow_29 : decode cX6_assembledNow 29 = .ok (.iconst (-1), 1) := by decide +kernel
theorem dX6_assembledNow_30 : decode cX6_assembledNow 30 = .ok (.if_icmp .eq 8, 3) := by decide +kernel
theorem dX6_assembledNow_33 : decode cX6_assembledNow 33 = .ok (.iload_n 3, 1) := by decide +kernel
theorem dX6_assembledNow_34 : decode cX6_assembledNow 34 = .ok (.iconst (-1), 1) := by decide +kernel
theorem dX6_assembledNow_35 : decode cX6_assembledNow 35 = .ok (.if_icmp .ne 7, 3) := by decide +kernel
theorem dX6_assembledNow_38 : decode cX6_assembledNow 38 = .ok (.iconst (-1), 1) := by decide +kernel
theorem dX6_assembledNow_39 : decode cX6_assembledNow 39 = .ok (.goto 15, 3) := by decide +kernel
theorem dX6_assembledNow_42 : decode cX6_assembledNow 42 = .ok (.sipush 1440, 3) := by decide +kernel
theorem dX6_assembledNow_45 : decode cX6_assembledNow 45 = .ok (.iload_n 3, 1) := by decide +kernel
theorem dX6_assembledNow_46 : decode cX6_assembledNow 46 = .ok (.imul, 1) := by decide +kernel
theorem dX6_assembledNow_47 : decode cX6_assembledNow 47 = .ok (.bipush 60, 2) := by decide +kernel
theorem dX6_assembledNow_49 : decode cX6_assembledNow 49 = .ok (.iload_n 2, 1) := by decide +kernel
theorem dX6_assembledNow_50 : decode cX6_assembledNow 50 = .ok (.imul, 1) := by decide +kernel
theorem dX6_assembledNow_51 : decode cX6_assembledNow 51 = .ok (.iadd, 1) := by decide +kernel
theorem dX6_assembledNow_52 : decode cX6_assembledNow 52 = .ok (.iload_n 1, 1) := by decide +kernel
theorem dX6_assembledNow_53 : decode cX6_assembledNow 53 = .ok (.iadd, 1) := by decide +kernel
theorem dX6_assembledNow_54 : decode cX6_assembledNow 54 = .ok (.ireturn, 1) := by decide +kernel
theorem dX6_assembled_0 : decode cX6_assembled 0 = .ok (.aload_n 0, 1) := by decide +kernel
theorem dX6_assembled_1 : decode cX6_assembled 1 = .ok (.iconst 0, 1) := by decide +kernel
theorem dX6_assembled_2 : decode cX6_assembled 2 = .ok (.putfield 55, 3) := by decide +kernel
theorem dX6_assembled_5 : decode cX6_assembled 5 = .ok (.aload_n 0, 1) := by decide +kernel
theorem dX6_assembled_6 : decode cX6_assembled 6 = .ok (.invokevirtual 386, 3) := by decide +kernel
theorem dX6_assembled_9 : decode cX6_assembled 9 = .ok (.ireturn, 1) := by decide +kernel
theorem dX6_dissenting_0 : decode cX6_dissenting 0 = .ok (.aload_n 0, 1) := by decide +kernel
theorem dX6_dissenting_1 : decode cX6_dissenting 1 = .ok (.invokevirtual 386, 3) := by decide +kernel
theorem dX6_dissenting_4 : decode cX6_dissenting 4 = .ok (.istore_n 1, 1) := by decide +kernel
theorem dX6_dissenting_5 : decode cX6_dissenting 5 = .ok (.aload_n 0, 1) := by decide +kernel
theorem dX6_dissenting_6 : decode cX6_dissenting 6 = .ok (.iload_n 1, 1) := by decide +kernel
theorem dX6_dissenting_7 : decode cX6_dissenting 7 = .ok (.iconst (-1), 1) := by decide +kernel
theorem dX6_dissenting_8 : decode cX6_dissenting 8 = .ok (.if_icmp .ne 7, 3) := by decide +kernel
theorem dX6_dissenting_11 : decode cX6_dissenting 11 = .ok (.iconst 1, 1) := by decide +kernel
theorem dX6_dissenting_12 : decode cX6_dissenting 12 = .ok (.goto 4, 3) := by decide +kernel
theorem dX6_dissenting_15 : decode cX6_dissenting 15 = .ok (.iconst 0, 1) := by decide +kernel
theorem dX6_dissenting_16 : decode cX6_dissenting 16 = .ok (.putfield 55, 3) := by decide +kernel
theorem dX6_dissenting_19 : decode cX6_dissenting 19 = .ok (.iconst 0, 1) := by decide +kernel
theorem dX6_dissenting_20 : decode cX6_dissenting 20 = .ok (.istore_n 2, 1) := by decide +kernel
theorem dX6_dissenting_21 : decode cX6_dissenting 21 = .ok (.iconst 0, 1) := by decide +kernel
theorem dX6_dissenting_22 : decode cX6_dissenting 22 = .ok (.istore_n 3, 1) := by decide +kernel
theorem dX6_dissenting_23 : decode cX6_dissenting 23 = .ok (.iload_n 3, 1) := by decide +kernel
theorem dX6_dissenting_24 : decode cX6_dissenting 24 = .ok (.i2l, 1) := by decide +kernel
theorem dX6_dissenting_25 : decode cX6_dissenting 25 = .ok (.aload_n 0, 1) := by decide +kernel
theorem dX6_dissenting_26 : decode cX6_dissenting 26 = .ok (.getfield 7, 3) := by decide +kernel
theorem dX6_dissenting_29 : decode cX6_dissenting 29 = .ok (.bipush 12, 2) := by decide +kernel
theorem dX6_dissenting_31 : decode cX6_dissenting 31 = .ok (.laload, 1) := by decide +kernel
theorem dX6_dissenting_32 : decode cX6_dissenting 32 = .ok (.lcmp, 1) := by decide +kernel
theorem dX6_dissenting_33 : decode cX6_dissenting 33 = .ok (.ifCond .ge 43, 3) := by decide +kernel
theorem dX6_dissenting_36 : decode cX6_dissenting 36 = .ok (.aload_n 0, 1) := by decide +kernel
theorem dX6_dissenting_37 : decode cX6_dissenting 37 = .ok (.getfield 55, 3) := by decide +kernel
theorem dX6_dissenting_40 : decode cX6_dissenting 40 = .ok (.ifCond .ne 36, 3) := by decide +kernel
theorem dX6_dissenting_43 : decode cX6_dissenting 43 = .ok (.aload_n 0, 1) := by decide +kernel
theorem dX6_dissenting_44 : decode cX6_dissenting 44 = .ok (.iload_n 3, 1) := by decide +kernel
theorem dX6_dissenting_45 : decode cX6_dissenting 45 = .ok (.invokevirtual 351, 3) := by decide +kernel
theorem dX6_dissenting_48 : decode cX6_dissenting 48 = .ok (.istore 4, 2) := by decide +kernel
theorem dX6_dissenting_50 : decode cX6_dissenting 50 = .ok (.iload_n 2, 1) := by decide +kernel
theorem dX6_dissenting_51 : decode cX6_dissenting 51 = .ok (.iload 4, 2) := by decide +kernel
theorem dX6_dissenting_53 : decode cX6_dissenting 53 = .ok (.iconst (-1), 1) := by decide +kernel
theorem dX6_dissenting_54 : decode cX6_dissenting 54 = .ok (.if_icmp .eq 13, 3) := by decide +kernel
theorem dX6_dissenting_57 : decode cX6_dissenting 57 = .ok (.iload 4, 2) := by decide +kernel
theorem dX6_dissenting_59 : decode cX6_dissenting 59 = .ok (.iload_n 1, 1) := by decide +kernel
theorem dX6_dissenting_60 : decode cX6_dissenting 60 = .ok (.if_icmp .eq 7, 3) := by decide +kernel
theorem dX6_dissenting_63 : decode cX6_dissenting 63 = .ok (.iconst 1, 1) := by decide +kernel
theorem dX6_dissenting_64 : decode cX6_dissenting 64 = .ok (.goto 4, 3) := by decide +kernel
theorem dX6_dissenting_67 : decode cX6_dissenting 67 = .ok (.iconst 0, 1) := by decide +kernel
theorem dX6_dissenting_68 : decode cX6_dissenting 68 = .ok (.iadd, 1) := by decide +kernel
theorem dX6_dissenting_69 : decode cX6_dissenting 69 = .ok (.istore_n 2, 1) := by decide +kernel
theorem dX6_dissenting_70 : decode cX6_dissenting 70 = .ok (.iinc 3 1, 3) := by decide +kernel
theorem dX6_dissenting_73 : decode cX6_dissenting 73 = .ok (.goto (-50), 3) := by decide +kernel
theorem dX6_dissenting_76 : decode cX6_dissenting 76 = .ok (.iload_n 2, 1) := by decide +kernel
theorem dX6_dissenting_77 : decode cX6_dissenting 77 = .ok (.ireturn, 1) := by decide +kernel
theorem dX6_fix_0 : decode cX6_fix 0 = .ok (.aload_n 0, 1) := by decide +kernel
theorem dX6_fix_1 : decode cX6_fix 1 = .ok (.iload_n 1, 1) := by decide +kernel
theorem dX6_fix_2 : decode cX6_fix 2 = .ok (.i2l, 1) := by decide +kernel
theorem dX6_fix_3 : decode cX6_fix 3 = .ok (.lconst 0, 1) := by decide +kernel
theorem dX6_fix_4 : decode cX6_fix 4 = .ok (.aload_n 0, 1) := by decide +kernel
theorem dX6_fix_5 : decode cX6_fix 5 = .ok (.getfield 7, 3) := by decide +kernel
theorem dX6_fix_8 : decode cX6_fix 8 = .ok (.bipush 13, 2) := by decide +kernel
theorem dX6_fix_10 : decode cX6_fix 10 = .ok (.laload, 1) := by decide +kernel
theorem dX6_fix_11 : decode cX6_fix 11 = .ok (.lconst 1, 1) := by decide +kernel
theorem dX6_fix_12 : decode cX6_fix 12 = .ok (.lsub, 1) := by decide +kernel
theorem dX6_fix_13 : decode cX6_fix 13 = .ok (.invokestatic 65, 3) := by decide +kernel
theorem dX6_fix_16 : decode cX6_fix 16 = .ok (.ifCond .ne 7, 3) := by decide +kernel
theorem dX6_fix_19 : decode cX6_fix 19 = .ok (.iconst 1, 1) := by decide +kernel
theorem dX6_fix_20 : decode cX6_fix 20 = .ok (.goto 18, 3) := by decide +kernel
theorem dX6_fix_23 : decode cX6_fix 23 = .ok (.iload_n 2, 1) := by decide +kernel
theorem dX6_fix_24 : decode cX6_fix 24 = .ok (.i2l, 1) := by decide +kernel
theorem dX6_fix_25 : decode cX6_fix 25 = .ok (.lconst 0, 1) := by decide +kernel
theorem dX6_fix_26 : decode cX6_fix 26 = .ok (.lconst 1, 1) := by decide +kernel
theorem dX6_fix_27 : decode cX6_fix 27 = .ok (.invokestatic 65, 3) := by decide +kernel
theorem dX6_fix_30 : decode cX6_fix 30 = .ok (.ifCond .eq 7, 3) := by decide +kernel
theorem dX6_fix_33 : decode cX6_fix 33 = .ok (.iconst 0, 1) := by decide +kernel
theorem dX6_fix_34 : decode cX6_fix 34 = .ok (.goto 4, 3) := by decide +kernel
theorem dX6_fix_37 : decode cX6_fix 37 = .ok (.iconst 2, 1) := by decide +kernel
theorem dX6_fix_38 : decode cX6_fix 38 = .ok (.putfield 55, 3) := by decide +kernel
theorem dX6_fix_41 : decode cX6_fix 41 = .ok (.aload_n 0, 1) := by decide +kernel
theorem dX6_fix_42 : decode cX6_fix 42 = .ok (.getfield 55, 3) := by decide +kernel
theorem dX6_fix_45 : decode cX6_fix 45 = .ok (.ifCond .le 7, 3) := by decide +kernel
theorem dX6_fix_48 : decode cX6_fix 48 = .ok (.iconst 0, 1) := by decide +kernel
theorem dX6_fix_49 : decode cX6_fix 49 = .ok (.goto 17, 3) := by decide +kernel
theorem dX6_fix_52 : decode cX6_fix 52 = .ok (.aload_n 0, 1) := by decide +kernel
theorem dX6_fix_53 : decode cX6_fix 53 = .ok (.getfield 7, 3) := by decide +kernel
theorem dX6_fix_56 : decode cX6_fix 56 = .ok (.bipush 32, 2) := by decide +kernel
theorem dX6_fix_58 : decode cX6_fix 58 = .ok (.iconst 2, 1) := by decide +kernel
theorem dX6_fix_59 : decode cX6_fix 59 = .ok (.iload_n 1, 1) := by decide +kernel
theorem dX6_fix_60 : decode cX6_fix 60 = .ok (.imul, 1) := by decide +kernel
theorem dX6_fix_61 : decode cX6_fix 61 = .ok (.iadd, 1) := by decide +kernel
theorem dX6_fix_62 : decode cX6_fix 62 = .ok (.iload_n 2, 1) := by decide +kernel
theorem dX6_fix_63 : decode cX6_fix 63 = .ok (.iadd, 1) := by decide +kernel
theorem dX6_fix_64 : decode cX6_fix 64 = .ok (.laload, 1) := by decide +kernel
theorem dX6_fix_65 : decode cX6_fix 65 = .ok (.l2i, 1) := by decide +kernel
theorem dX6_fix_66 : decode cX6_fix 66 = .ok (.ireturn, 1) := by decide +kernel
theorem dX6_clock_0 : decode cX6_clock 0 = .ok (.aload_n 0, 1) := by decide +kernel
theorem dX6_clock_1 : decode cX6_clock 1 = .ok (.iload_n 1, 1) := by decide +kernel
theorem dX6_clock_2 : decode cX6_clock 2 = .ok (.i2l, 1) := by decide +kernel
theorem dX6_clock_3 : decode cX6_clock 3 = .ok (.lconst 0, 1) := by decide +kernel
theorem dX6_clock_4 : decode cX6_clock 4 = .ok (.ldc2_w 237, 3) := by decide +kernel
theorem dX6_clock_7 : decode cX6_clock 7 = .ok (.invokestatic 65, 3) := by decide +kernel
theorem dX6_clock_10 : decode cX6_clock 10 = .ok (.ifCond .ne 7, 3) := by decide +kernel
theorem dX6_clock_13 : decode cX6_clock 13 = .ok (.iconst 1, 1) := by decide +kernel
theorem dX6_clock_14 : decode cX6_clock 14 = .ok (.goto 33, 3) := by decide +kernel
theorem dX6_clock_17 : decode cX6_clock 17 = .ok (.aload_n 0, 1) := by decide +kernel
theorem dX6_clock_18 : decode cX6_clock 18 = .ok (.getfield 7, 3) := by decide +kernel
theorem dX6_clock_21 : decode cX6_clock 21 = .ok (.bipush 13, 2) := by decide +kernel
theorem dX6_clock_23 : decode cX6_clock 23 = .ok (.laload, 1) := by decide +kernel
theorem dX6_clock_24 : decode cX6_clock 24 = .ok (.lconst 0, 1) := by decide +kernel
theorem dX6_clock_25 : decode cX6_clock 25 = .ok (.lcmp, 1) := by decide +kernel
theorem dX6_clock_26 : decode cX6_clock 26 = .ok (.ifCond .eq 16, 3) := by decide +kernel
theorem dX6_clock_29 : decode cX6_clock 29 = .ok (.aload_n 0, 1) := by decide +kernel
theorem dX6_clock_30 : decode cX6_clock 30 = .ok (.getfield 7, 3) := by decide +kernel
theorem dX6_clock_33 : decode cX6_clock 33 = .ok (.bipush 33, 2) := by decide +kernel
theorem dX6_clock_35 : decode cX6_clock 35 = .ok (.laload, 1) := by decide +kernel
theorem dX6_clock_36 : decode cX6_clock 36 = .ok (.iload_n 1, 1) := by decide +kernel
theorem dX6_clock_37 : decode cX6_clock 37 = .ok (.i2l, 1) := by decide +kernel
theorem dX6_clock_38 : decode cX6_clock 38 = .ok (.lcmp, 1) := by decide +kernel
theorem dX6_clock_39 : decode cX6_clock 39 = .ok (.ifCond .le 7, 3) := by decide +kernel
theorem dX6_clock_42 : decode cX6_clock 42 = .ok (.iconst 2, 1) := by decide +kernel
theorem dX6_clock_43 : decode cX6_clock 43 = .ok (.goto 4, 3) := by decide +kernel
theorem dX6_clock_46 : decode cX6_clock 46 = .ok (.iconst 0, 1) := by decide +kernel
theorem dX6_clock_47 : decode cX6_clock 47 = .ok (.putfield 55, 3) := by decide +kernel
theorem dX6_clock_50 : decode cX6_clock 50 = .ok (.aload_n 0, 1) := by decide +kernel
theorem dX6_clock_51 : decode cX6_clock 51 = .ok (.getfield 55, 3) := by decide +kernel
theorem dX6_clock_54 : decode cX6_clock 54 = .ok (.ifCond .le 5, 3) := by decide +kernel
theorem dX6_clock_57 : decode cX6_clock 57 = .ok (.lconst 0, 1) := by decide +kernel
theorem dX6_clock_58 : decode cX6_clock 58 = .ok (.lreturn, 1) := by decide +kernel
theorem dX6_clock_59 : decode cX6_clock 59 = .ok (.iload_n 1, 1) := by decide +kernel
theorem dX6_clock_60 : decode cX6_clock 60 = .ok (.i2l, 1) := by decide +kernel
theorem dX6_clock_61 : decode cX6_clock 61 = .ok (.aload_n 0, 1) := by decide +kernel
theorem dX6_clock_62 : decode cX6_clock 62 = .ok (.getfield 7, 3) := by decide +kernel
theorem dX6_clock_65 : decode cX6_clock 65 = .ok (.bipush 33, 2) := by decide +kernel
theorem dX6_clock_67 : decode cX6_clock 67 = .ok (.laload, 1) := by decide +kernel
theorem dX6_clock_68 : decode cX6_clock 68 = .ok (.lsub, 1) := by decide +kernel
theorem dX6_clock_69 : decode cX6_clock 69 = .ok (.lstore_n 2, 1) := by decide +kernel
theorem dX6_clock_70 : decode cX6_clock 70 = .ok (.ldc2_w 391, 3) := by decide +kernel
theorem dX6_clock_73 : decode cX6_clock 73 = .ok (.aload_n 0, 1) := by decide +kernel
theorem dX6_clock_74 : decode cX6_clock 74 = .ok (.getfield 7, 3) := by decide +kernel
theorem dX6_clock_77 : decode cX6_clock 77 = .ok (.bipush 32, 2) := by decide +kernel
theorem dX6_clock_79 : decode cX6_clock 79 = .ok (.laload, 1) := by decide +kernel
theorem dX6_clock_80 : decode cX6_clock 80 = .ok (.lmul, 1) := by decide +kernel
theorem dX6_clock_81 : decode cX6_clock 81 = .ok (.lload_n 2, 1) := by decide +kernel
theorem dX6_clock_82 : decode cX6_clock 82 = .ok (.ladd, 1) := by decide +kernel
theorem dX6_clock_83 : decode cX6_clock 83 = .ok (.lload_n 2, 1) := by decide +kernel
theorem dX6_clock_84 : decode cX6_clock 84 = .ok (.aload_n 0, 1) := by decide +kernel
theorem dX6_clock_85 : decode cX6_clock 85 = .ok (.getfield 7, 3) := by decide +kernel
theorem dX6_clock_88 : decode cX6_clock 88 = .ok (.iconst 4, 1) := by decide +kernel
theorem dX6_clock_89 : decode cX6_clock 89 = .ok (.laload, 1) := by decide +kernel
theorem dX6_clock_90 : decode cX6_clock 90 = .ok (.lmul, 1) := by decide +kernel
theorem dX6_clock_91 : decode cX6_clock 91 = .ok (.ldc2_w 393, 3) := by decide +kernel
theorem dX6_clock_94 : decode cX6_clock 94 = .ok (.ldiv, 1) := by decide +kernel
theorem dX6_clock_95 : decode cX6_clock 95 = .ok (.ladd, 1) := by decide +kernel
theorem dX6_clock_96 : decode cX6_clock 96 = .ok (.lreturn, 1) := by decide +kernel
theorem dX6_estimated_0 : decode cX6_estimated 0 = .ok (.ldc2_w 391, 3) := by decide +kernel
theorem dX6_estimated_3 : decode cX6_estimated 3 = .ok (.aload_n 0, 1) := by decide +kernel
theorem dX6_estimated_4 : decode cX6_estimated 4 = .ok (.getfield 7, 3) := by decide +kernel
theorem dX6_estimated_7 : decode cX6_estimated 7 = .ok (.bipush 32, 2) := by decide +kernel
theorem dX6_estimated_9 : decode cX6_estimated 9 = .ok (.laload, 1) := by decide +kernel
theorem dX6_estimated_10 : decode cX6_estimated 10 = .ok (.aload_n 0, 1) := by decide +kernel
theorem dX6_estimated_11 : decode cX6_estimated 11 = .ok (.getfield 7, 3) := by decide +kernel
theorem dX6_estimated_14 : decode cX6_estimated 14 = .ok (.bipush 34, 2) := by decide +kernel
theorem dX6_estimated_16 : decode cX6_estimated 16 = .ok (.laload, 1) := by decide +kernel
theorem dX6_estimated_17 : decode cX6_estimated 17 = .ok (.lsub, 1) := by decide +kernel
theorem dX6_estimated_18 : decode cX6_estimated 18 = .ok (.lmul, 1) := by decide +kernel
theorem dX6_estimated_19 : decode cX6_estimated 19 = .ok (.lstore_n 1, 1) := by decide +kernel
theorem dX6_estimated_20 : decode cX6_estimated 20 = .ok (.aload_n 0, 1) := by decide +kernel
theorem dX6_estimated_21 : decode cX6_estimated 21 = .ok (.getfield 7, 3) := by decide +kernel
theorem dX6_estimated_24 : decode cX6_estimated 24 = .ok (.bipush 33, 2) := by decide +kernel
theorem dX6_estimated_26 : decode cX6_estimated 26 = .ok (.laload, 1) := by decide +kernel
theorem dX6_estimated_27 : decode cX6_estimated 27 = .ok (.aload_n 0, 1) := by decide +kernel
theorem dX6_estimated_28 : decode cX6_estimated 28 = .ok (.getfield 7, 3) := by decide +kernel
theorem dX6_estimated_31 : decode cX6_estimated 31 = .ok (.bipush 35, 2) := by decide +kernel
theorem dX6_estimated_33 : decode cX6_estimated 33 = .ok (.laload, 1) := by decide +kernel
theorem dX6_estimated_34 : decode cX6_estimated 34 = .ok (.lsub, 1) := by decide +kernel
theorem dX6_estimated_35 : decode cX6_estimated 35 = .ok (.lstore_n 3, 1) := by decide +kernel
theorem dX6_estimated_36 : decode cX6_estimated 36 = .ok (.lload_n 1, 1) := by decide +kernel
theorem dX6_estimated_37 : decode cX6_estimated 37 = .ok (.lload_n 3, 1) := by decide +kernel
theorem dX6_estimated_38 : decode cX6_estimated 38 = .ok (.lsub, 1) := by decide +kernel
theorem dX6_estimated_39 : decode cX6_estimated 39 = .ok (.ldc2_w 393, 3) := by decide +kernel
theorem dX6_estimated_42 : decode cX6_estimated 42 = .ok (.lmul, 1) := by decide +kernel
theorem dX6_estimated_43 : decode cX6_estimated 43 = .ok (.lload_n 3, 1) := by decide +kernel
theorem dX6_estimated_44 : decode cX6_estimated 44 = .ok (.ldiv, 1) := by decide +kernel
theorem dX6_estimated_45 : decode cX6_estimated 45 = .ok (.lreturn, 1) := by decide +kernel
theorem dX6_estimate_0 : decode cX6_estimate 0 = .ok (.aload_n 0, 1) := by decide +kernel
theorem dX6_estimate_1 : decode cX6_estimate 1 = .ok (.aload_n 0, 1) := by decide +kernel
theorem dX6_estimate_2 : decode cX6_estimate 2 = .ok (.getfield 7, 3) := by decide +kernel
theorem dX6_estimate_5 : decode cX6_estimate 5 = .ok (.bipush 13, 2) := by decide +kernel
theorem dX6_estimate_7 : decode cX6_estimate 7 = .ok (.laload, 1) := by decide +kernel
theorem dX6_estimate_8 : decode cX6_estimate 8 = .ok (.ldc2_w 317, 3) := by decide +kernel
theorem dX6_estimate_11 : decode cX6_estimate 11 = .ok (.lcmp, 1) := by decide +kernel
theorem dX6_estimate_12 : decode cX6_estimate 12 = .ok (.ifCond .ge 7, 3) := by decide +kernel
theorem dX6_estimate_15 : decode cX6_estimate 15 = .ok (.iconst 1, 1) := by decide +kernel
theorem dX6_estimate_16 : decode cX6_estimate 16 = .ok (.goto 4, 3) := by decide +kernel
theorem dX6_estimate_19 : decode cX6_estimate 19 = .ok (.iconst 0, 1) := by decide +kernel
theorem dX6_estimate_20 : decode cX6_estimate 20 = .ok (.putfield 55, 3) := by decide +kernel
theorem dX6_estimate_23 : decode cX6_estimate 23 = .ok (.aload_n 0, 1) := by decide +kernel
theorem dX6_estimate_24 : decode cX6_estimate 24 = .ok (.getfield 55, 3) := by decide +kernel
theorem dX6_estimate_27 : decode cX6_estimate 27 = .ok (.ifCond .le 7, 3) := by decide +kernel
theorem dX6_estimate_30 : decode cX6_estimate 30 = .ok (.lconst 0, 1) := by decide +kernel
theorem dX6_estimate_31 : decode cX6_estimate 31 = .ok (.goto 7, 3) := by decide +kernel
theorem dX6_estimate_34 : decode cX6_estimate 34 = .ok (.aload_n 0, 1) := by decide +kernel
theorem dX6_estimate_35 : decode cX6_estimate 35 = .ok (.invokevirtual 395, 3) := by decide +kernel
theorem dX6_estimate_38 : decode cX6_estimate 38 = .ok (.lreturn, 1) := by decide +kernel
theorem dX6_set_0 : decode cX6_set 0 = .ok (.aload_n 0, 1) := by decide +kernel
theorem dX6_set_1 : decode cX6_set 1 = .ok (.iload_n 1, 1) := by decide +kernel
theorem dX6_set_2 : decode cX6_set 2 = .ok (.i2l, 1) := by decide +kernel
theorem dX6_set_3 : decode cX6_set 3 = .ok (.lconst 0, 1) := by decide +kernel
theorem dX6_set_4 : decode cX6_set 4 = .ok (.ldc2_w 398, 3) := by decide +kernel
theorem dX6_set_7 : decode cX6_set 7 = .ok (.invokestatic 65, 3) := by decide +kernel
theorem dX6_set_10 : decode cX6_set 10 = .ok (.ifCond .eq 25, 3) := by decide +kernel
theorem dX6_set_13 : decode cX6_set 13 = .ok (.iload_n 2, 1) := by decide +kernel
theorem dX6_set_14 : decode cX6_set 14 = .ok (.i2l, 1) := by decide +kernel
theorem dX6_set_15 : decode cX6_set 15 = .ok (.iload_n 1, 1) := by decide +kernel
theorem dX6_set_16 : decode cX6_set 16 = .ok (.invokestatic 224, 3) := by decide +kernel
theorem dX6_set_19 : decode cX6_set 19 = .ok (.i2l, 1) := by decide +kernel
theorem dX6_set_20 : decode cX6_set 20 = .ok (.iload_n 1, 1) := by decide +kernel
theorem dX6_set_21 : decode cX6_set 21 = .ok (.invokestatic 227, 3) := by decide +kernel
theorem dX6_set_24 : decode cX6_set 24 = .ok (.i2l, 1) := by decide +kernel
theorem dX6_set_25 : decode cX6_set 25 = .ok (.invokestatic 65, 3) := by decide +kernel
theorem dX6_set_28 : decode cX6_set 28 = .ok (.ifCond .eq 7, 3) := by decide +kernel
theorem dX6_set_31 : decode cX6_set 31 = .ok (.iconst 0, 1) := by decide +kernel
theorem dX6_set_32 : decode cX6_set 32 = .ok (.goto 4, 3) := by decide +kernel
theorem dX6_set_35 : decode cX6_set 35 = .ok (.iconst 1, 1) := by decide +kernel
theorem dX6_set_36 : decode cX6_set 36 = .ok (.putfield 55, 3) := by decide +kernel
theorem dX6_set_39 : decode cX6_set 39 = .ok (.aload_n 0, 1) := by decide +kernel
theorem dX6_set_40 : decode cX6_set 40 = .ok (.getfield 55, 3) := by decide +kernel
theorem dX6_set_43 : decode cX6_set 43 = .ok (.ifCond .le 5, 3) := by decide +kernel
theorem dX6_set_46 : decode cX6_set 46 = .ok (.iconst 0, 1) := by decide +kernel
theorem dX6_set_47 : decode cX6_set 47 = .ok (.ireturn, 1) := by decide +kernel
theorem dX6_set_48 : decode cX6_set 48 = .ok (.aload_n 0, 1) := by decide +kernel
theorem dX6_set_49 : decode cX6_set 49 = .ok (.invokevirtual 69, 3) := by decide +kernel
theorem dX6_set_52 : decode cX6_set 52 = .ok (.aload_n 0, 1) := by decide +kernel
theorem dX6_set_53 : decode cX6_set 53 = .ok (.iload_n 1, 1) := by decide +kernel
theorem dX6_set_54 : decode cX6_set 54 = .ok (.iload_n 2, 1) := by decide +kernel
theorem dX6_set_55 : decode cX6_set 55 = .ok (.invokevirtual 234, 3) := by decide +kernel
theorem dX6_set_58 : decode cX6_set 58 = .ok (.ireturn, 1) := by decide +kernel
theorem dX6_discipline_0 : decode cX6_discipline 0 = .ok (.aload_n 0, 1) := by decide +kernel
theorem dX6_discipline_1 : decode cX6_discipline 1 = .ok (.aload_n 0, 1) := by decide +kernel
theorem dX6_discipline_2 : decode cX6_discipline 2 = .ok (.getfield 7, 3) := by decide +kernel
theorem dX6_discipline_5 : decode cX6_discipline 5 = .ok (.bipush 13, 2) := by decide +kernel
theorem dX6_discipline_7 : decode cX6_discipline 7 = .ok (.laload, 1) := by decide +kernel
theorem dX6_discipline_8 : decode cX6_discipline 8 = .ok (.ldc2_w 317, 3) := by decide +kernel
theorem dX6_discipline_11 : decode cX6_discipline 11 = .ok (.lcmp, 1) := by decide +kernel
theorem dX6_discipline_12 : decode cX6_discipline 12 = .ok (.ifCond .ge 7, 3) := by decide +kernel
theorem dX6_discipline_15 : decode cX6_discipline 15 = .ok (.iconst 1, 1) := by decide +kernel
theorem dX6_discipline_16 : decode cX6_discipline 16 = .ok (.goto 24, 3) := by decide +kernel
theorem dX6_discipline_19 : decode cX6_discipline 19 = .ok (.aload_n 0, 1) := by decide +kernel
theorem dX6_discipline_20 : decode cX6_discipline 20 = .ok (.invokevirtual 395, 3) := by decide +kernel
theorem dX6_discipline_23 : decode cX6_discipline 23 = .ok (.ldc2_w 400, 3) := by decide +kernel
theorem dX6_discipline_26 : decode cX6_discipline 26 = .ok (.ldc2_w 308, 3) := by decide +kernel
theorem dX6_discipline_29 : decode cX6_discipline 29 = .ok (.invokestatic 65, 3) := by decide +kernel
theorem dX6_discipline_32 : decode cX6_discipline 32 = .ok (.ifCond .eq 7, 3) := by decide +kernel
theorem dX6_discipline_35 : decode cX6_discipline 35 = .ok (.iconst 0, 1) := by decide +kernel
theorem dX6_discipline_36 : decode cX6_discipline 36 = .ok (.goto 4, 3) := by decide +kernel
theorem dX6_discipline_39 : decode cX6_discipline 39 = .ok (.iconst 2, 1) := by decide +kernel
theorem dX6_discipline_40 : decode cX6_discipline 40 = .ok (.putfield 55, 3) := by decide +kernel
theorem dX6_discipline_43 : decode cX6_discipline 43 = .ok (.aload_n 0, 1) := by decide +kernel
theorem dX6_discipline_44 : decode cX6_discipline 44 = .ok (.getfield 55, 3) := by decide +kernel
theorem dX6_discipline_47 : decode cX6_discipline 47 = .ok (.ifCond .le 5, 3) := by decide +kernel
theorem dX6_discipline_50 : decode cX6_discipline 50 = .ok (.iconst 0, 1) := by decide +kernel
theorem dX6_discipline_51 : decode cX6_discipline 51 = .ok (.ireturn, 1) := by decide +kernel
theorem dX6_discipline_52 : decode cX6_discipline 52 = .ok (.aload_n 0, 1) := by decide +kernel
theorem dX6_discipline_53 : decode cX6_discipline 53 = .ok (.invokevirtual 69, 3) := by decide +kernel
theorem dX6_discipline_56 : decode cX6_discipline 56 = .ok (.aload_n 0, 1) := by decide +kernel
theorem dX6_discipline_57 : decode cX6_discipline 57 = .ok (.iconst 4, 1) := by decide +kernel
theorem dX6_discipline_58 : decode cX6_discipline 58 = .ok (.aload_n 0, 1) := by decide +kernel
theorem dX6_discipline_59 : decode cX6_discipline 59 = .ok (.invokevirtual 395, 3) := by decide +kernel
theorem dX6_discipline_62 : decode cX6_discipline 62 = .ok (.l2i, 1) := by decide +kernel
theorem dX6_discipline_63 : decode cX6_discipline 63 = .ok (.invokevirtual 234, 3) := by decide +kernel
theorem dX6_discipline_66 : decode cX6_discipline 66 = .ok (.ireturn, 1) := by decide +kernel
theorem dX6_forget_0 : decode cX6_forget 0 = .ok (.aload_n 0, 1) := by decide +kernel
theorem dX6_forget_1 : decode cX6_forget 1 = .ok (.iconst 0, 1) := by decide +kernel
theorem dX6_forget_2 : decode cX6_forget 2 = .ok (.putfield 55, 3) := by decide +kernel
theorem dX6_forget_5 : decode cX6_forget 5 = .ok (.aload_n 0, 1) := by decide +kernel
theorem dX6_forget_6 : decode cX6_forget 6 = .ok (.invokevirtual 69, 3) := by decide +kernel
theorem dX6_forget_9 : decode cX6_forget 9 = .ok (.aload_n 0, 1) := by decide +kernel
theorem dX6_forget_10 : decode cX6_forget 10 = .ok (.getfield 7, 3) := by decide +kernel
theorem dX6_forget_13 : decode cX6_forget 13 = .ok (.bipush 12, 2) := by decide +kernel
theorem dX6_forget_15 : decode cX6_forget 15 = .ok (.laload, 1) := by decide +kernel
theorem dX6_forget_16 : decode cX6_forget 16 = .ok (.l2i, 1) := by decide +kernel
theorem dX6_forget_17 : decode cX6_forget 17 = .ok (.istore_n 1, 1) := by decide +kernel
theorem dX6_forget_18 : decode cX6_forget 18 = .ok (.aload_n 0, 1) := by decide +kernel
theorem dX6_forget_19 : decode cX6_forget 19 = .ok (.invokevirtual 314, 3) := by decide +kernel
theorem dX6_forget_22 : decode cX6_forget 22 = .ok (.iload_n 1, 1) := by decide +kernel
theorem dX6_forget_23 : decode cX6_forget 23 = .ok (.ireturn, 1) := by decide +kernel
theorem dX6_says_0 : decode cX6_says 0 = .ok (.aload_n 0, 1) := by decide +kernel
theorem dX6_says_1 : decode cX6_says 1 = .ok (.getfield 37, 3) := by decide +kernel
theorem dX6_says_4 : decode cX6_says 4 = .ok (.aload_n 0, 1) := by decide +kernel
theorem dX6_says_5 : decode cX6_says 5 = .ok (.getfield 402, 3) := by decide +kernel
theorem dX6_says_8 : decode cX6_says 8 = .ok (.iload_n 1, 1) := by decide +kernel
theorem dX6_says_9 : decode cX6_says 9 = .ok (.iastore, 1) := by decide +kernel
theorem dX6_says_10 : decode cX6_says 10 = .ok (.aload_n 0, 1) := by decide +kernel
theorem dX6_says_11 : decode cX6_says 11 = .ok (.dup, 1) := by decide +kernel
theorem dX6_says_12 : decode cX6_says 12 = .ok (.getfield 402, 3) := by decide +kernel
theorem dX6_says_15 : decode cX6_says 15 = .ok (.iconst 1, 1) := by decide +kernel
theorem dX6_says_16 : decode cX6_says 16 = .ok (.iadd, 1) := by decide +kernel
theorem dX6_says_17 : decode cX6_says 17 = .ok (.putfield 402, 3) := by decide +kernel
theorem dX6_says_20 : decode cX6_says 20 = .ok (.return_, 1) := by decide +kernel
theorem dX6_saysTwo_0 : decode cX6_saysTwo 0 = .ok (.aload_n 0, 1) := by decide +kernel
theorem dX6_saysTwo_1 : decode cX6_saysTwo 1 = .ok (.bipush 48, 2) := by decide +kernel
theorem dX6_saysTwo_3 : decode cX6_saysTwo 3 = .ok (.iload_n 1, 1) := by decide +kernel
theorem dX6_saysTwo_4 : decode cX6_saysTwo 4 = .ok (.bipush 10, 2) := by decide +kernel
theorem dX6_saysTwo_6 : decode cX6_saysTwo 6 = .ok (.idiv, 1) := by decide +kernel
theorem dX6_saysTwo_7 : decode cX6_saysTwo 7 = .ok (.iadd, 1) := by decide +kernel
theorem dX6_saysTwo_8 : decode cX6_saysTwo 8 = .ok (.invokevirtual 405, 3) := by decide +kernel
theorem dX6_saysTwo_11 : decode cX6_saysTwo 11 = .ok (.aload_n 0, 1) := by decide +kernel
theorem dX6_saysTwo_12 : decode cX6_saysTwo 12 = .ok (.bipush 48, 2) := by decide +kernel
theorem dX6_saysTwo_14 : decode cX6_saysTwo 14 = .ok (.iload_n 1, 1) := by decide +kernel
theorem dX6_saysTwo_15 : decode cX6_saysTwo 15 = .ok (.bipush 10, 2) := by decide +kernel
theorem dX6_saysTwo_17 : decode cX6_saysTwo 17 = .ok (.irem, 1) := by decide +kernel
theorem dX6_saysTwo_18 : decode cX6_saysTwo 18 = .ok (.iadd, 1) := by decide +kernel
theorem dX6_saysTwo_19 : decode cX6_saysTwo 19 = .ok (.invokevirtual 405, 3) := by decide +kernel
theorem dX6_saysTwo_22 : decode cX6_saysTwo 22 = .ok (.return_, 1) := by decide +kernel
theorem dX6_writeTime_0 : decode cX6_writeTime 0 = .ok (.aload_n 0, 1) := by decide +kernel
theorem dX6_writeTime_1 : decode cX6_writeTime 1 = .ok (.iload_n 1, 1) := by decide +kernel
theorem dX6_writeTime_2 : decode cX6_writeTime 2 = .ok (.i2l, 1) := by decide +kernel
theorem dX6_writeTime_3 : decode cX6_writeTime 3 = .ok (.invokestatic 82, 3) := by decide +kernel
theorem dX6_writeTime_6 : decode cX6_writeTime 6 = .ok (.ifCond .eq 7, 3) := by decide +kernel
theorem dX6_writeTime_9 : decode cX6_writeTime 9 = .ok (.iconst 0, 1) := by decide +kernel
theorem dX6_writeTime_10 : decode cX6_writeTime 10 = .ok (.goto 4, 3) := by decide +kernel
theorem dX6_writeTime_13 : decode cX6_writeTime 13 = .ok (.iconst 1, 1) := by decide +kernel
theorem dX6_writeTime_14 : decode cX6_writeTime 14 = .ok (.putfield 55, 3) := by decide +kernel
theorem dX6_writeTime_17 : decode cX6_writeTime 17 = .ok (.aload_n 0, 1) := by decide +kernel
theorem dX6_writeTime_18 : decode cX6_writeTime 18 = .ok (.getfield 55, 3) := by decide +kernel
theorem dX6_writeTime_21 : decode cX6_writeTime 21 = .ok (.ifCond .le 5, 3) := by decide +kernel
theorem dX6_writeTime_24 : decode cX6_writeTime 24 = .ok (.iconst 0, 1) := by decide +kernel
theorem dX6_writeTime_25 : decode cX6_writeTime 25 = .ok (.ireturn, 1) := by decide +kernel
theorem dX6_writeTime_26 : decode cX6_writeTime 26 = .ok (.aload_n 0, 1) := by decide +kernel
theorem dX6_writeTime_27 : decode cX6_writeTime 27 = .ok (.iconst 0, 1) := by decide +kernel
theorem dX6_writeTime_28 : decode cX6_writeTime 28 = .ok (.putfield 402, 3) := by decide +kernel
theorem dX6_writeTime_31 : decode cX6_writeTime 31 = .ok (.aload_n 0, 1) := by decide +kernel
theorem dX6_writeTime_32 : decode cX6_writeTime 32 = .ok (.iload_n 1, 1) := by decide +kernel
theorem dX6_writeTime_33 : decode cX6_writeTime 33 = .ok (.iconst 0, 1) := by decide +kernel
theorem dX6_writeTime_34 : decode cX6_writeTime 34 = .ok (.invokestatic 86, 3) := by decide +kernel
theorem dX6_writeTime_37 : decode cX6_writeTime 37 = .ok (.bipush 100, 2) := by decide +kernel
theorem dX6_writeTime_39 : decode cX6_writeTime 39 = .ok (.idiv, 1) := by decide +kernel
theorem dX6_writeTime_40 : decode cX6_writeTime 40 = .ok (.invokevirtual 408, 3) := by decide +kernel
theorem dX6_writeTime_43 : decode cX6_writeTime 43 = .ok (.aload_n 0, 1) := by decide +kernel
theorem dX6_writeTime_44 : decode cX6_writeTime 44 = .ok (.iload_n 1, 1) := by decide +kernel
theorem dX6_writeTime_45 : decode cX6_writeTime 45 = .ok (.iconst 0, 1) := by decide +kernel
theorem dX6_writeTime_46 : decode cX6_writeTime 46 = .ok (.invokestatic 86, 3) := by decide +kernel
theorem dX6_writeTime_49 : decode cX6_writeTime 49 = .ok (.bipush 100, 2) := by decide +kernel
theorem dX6_writeTime_51 : decode cX6_writeTime 51 = .ok (.irem, 1) := by decide +kernel
theorem dX6_writeTime_52 : decode cX6_writeTime 52 = .ok (.invokevirtual 408, 3) := by decide +kernel
theorem dX6_writeTime_55 : decode cX6_writeTime 55 = .ok (.aload_n 0, 1) := by decide +kernel
theorem dX6_writeTime_56 : decode cX6_writeTime 56 = .ok (.bipush 45, 2) := by decide +kernel
theorem dX6_writeTime_58 : decode cX6_writeTime 58 = .ok (.invokevirtual 405, 3) := by decide +kernel
theorem dX6_writeTime_61 : decode cX6_writeTime 61 = .ok (.aload_n 0, 1) := by decide +kernel
theorem dX6_writeTime_62 : decode cX6_writeTime 62 = .ok (.iload_n 1, 1) := by decide +kernel
theorem dX6_writeTime_63 : decode cX6_writeTime 63 = .ok (.iconst 1, 1) := by decide +kernel
theorem dX6_writeTime_64 : decode cX6_writeTime 64 = .ok (.invokestatic 86, 3) := by decide +kernel
theorem dX6_writeTime_67 : decode cX6_writeTime 67 = .ok (.invokevirtual 408, 3) := by decide +kernel
theorem dX6_writeTime_70 : decode cX6_writeTime 70 = .ok (.aload_n 0, 1) := by decide +kernel
theorem dX6_writeTime_71 : decode cX6_writeTime 71 = .ok (.bipush 45, 2) := by decide +kernel
theorem dX6_writeTime_73 : decode cX6_writeTime 73 = .ok (.invokevirtual 405, 3) := by decide +kernel
theorem dX6_writeTime_76 : decode cX6_writeTime 76 = .ok (.aload_n 0, 1) := by decide +kernel
theorem dX6_writeTime_77 : decode cX6_writeTime 77 = .ok (.iload_n 1, 1) := by decide +kernel
theorem dX6_writeTime_78 : decode cX6_writeTime 78 = .ok (.iconst 2, 1) := by decide +kernel
theorem dX6_writeTime_79 : decode cX6_writeTime 79 = .ok (.invokestatic 86, 3) := by decide +kernel
theorem dX6_writeTime_82 : decode cX6_writeTime 82 = .ok (.invokevirtual 408, 3) := by decide +kernel
theorem dX6_writeTime_85 : decode cX6_writeTime 85 = .ok (.aload_n 0, 1) := by decide +kernel
theorem dX6_writeTime_86 : decode cX6_writeTime 86 = .ok (.bipush 32, 2) := by decide +kernel
theorem dX6_writeTime_88 : decode cX6_writeTime 88 = .ok (.invokevirtual 405, 3) := by decide +kernel
theorem dX6_writeTime_91 : decode cX6_writeTime 91 = .ok (.aload_n 0, 1) := by decide +kernel
theorem dX6_writeTime_92 : decode cX6_writeTime 92 = .ok (.iload_n 1, 1) := by decide +kernel
theorem dX6_writeTime_93 : decode cX6_writeTime 93 = .ok (.iconst 3, 1) := by decide +kernel
theorem dX6_writeTime_94 : decode cX6_writeTime 94 = .ok (.invokestatic 86, 3) := by decide +kernel
theorem dX6_writeTime_97 : decode cX6_writeTime 97 = .ok (.invokevirtual 408, 3) := by decide +kernel
theorem dX6_writeTime_100 : decode cX6_writeTime 100 = .ok (.aload_n 0, 1) := by decide +kernel
theorem dX6_writeTime_101 : decode cX6_writeTime 101 = .ok (.bipush 58, 2) := by decide +kernel
theorem dX6_writeTime_103 : decode cX6_writeTime 103 = .ok (.invokevirtual 405, 3) := by decide +kernel
theorem dX6_writeTime_106 : decode cX6_writeTime 106 = .ok (.aload_n 0, 1) := by decide +kernel
theorem dX6_writeTime_107 : decode cX6_writeTime 107 = .ok (.iload_n 1, 1) := by decide +kernel
theorem dX6_writeTime_108 : decode cX6_writeTime 108 = .ok (.iconst 4, 1) := by decide +kernel
theorem dX6_writeTime_109 : decode cX6_writeTime 109 = .ok (.invokestatic 86, 3) := by decide +kernel
theorem dX6_writeTime_112 : decode cX6_writeTime 112 = .ok (.invokevirtual 408, 3) := by decide +kernel
theorem dX6_writeTime_115 : decode cX6_writeTime 115 = .ok (.aload_n 0, 1) := by decide +kernel
theorem dX6_writeTime_116 : decode cX6_writeTime 116 = .ok (.bipush 32, 2) := by decide +kernel
theorem dX6_writeTime_118 : decode cX6_writeTime 118 = .ok (.invokevirtual 405, 3) := by decide +kernel
theorem dX6_writeTime_121 : decode cX6_writeTime 121 = .ok (.aload_n 0, 1) := by decide +kernel
theorem dX6_writeTime_122 : decode cX6_writeTime 122 = .ok (.bipush 48, 2) := by decide +kernel
theorem dX6_writeTime_124 : decode cX6_writeTime 124 = .ok (.iload_n 1, 1) := by decide +kernel
theorem dX6_writeTime_125 : decode cX6_writeTime 125 = .ok (.iconst 5, 1) := by decide +kernel
theorem dX6_writeTime_126 : decode cX6_writeTime 126 = .ok (.invokestatic 86, 3) := by decide +kernel
theorem dX6_writeTime_129 : decode cX6_writeTime 129 = .ok (.iadd, 1) := by decide +kernel
theorem dX6_writeTime_130 : decode cX6_writeTime 130 = .ok (.invokevirtual 405, 3) := by decide +kernel
theorem dX6_writeTime_133 : decode cX6_writeTime 133 = .ok (.aload_n 0, 1) := by decide +kernel
theorem dX6_writeTime_134 : decode cX6_writeTime 134 = .ok (.getfield 402, 3) := by decide +kernel
theorem dX6_writeTime_137 : decode cX6_writeTime 137 = .ok (.ireturn, 1) := by decide +kernel
theorem dX6_writtenByte_0 : decode cX6_writtenByte 0 = .ok (.aload_n 0, 1) := by decide +kernel
theorem dX6_writtenByte_1 : decode cX6_writtenByte 1 = .ok (.iload_n 1, 1) := by decide +kernel
theorem dX6_writtenByte_2 : decode cX6_writtenByte 2 = .ok (.i2l, 1) := by decide +kernel
theorem dX6_writtenByte_3 : decode cX6_writtenByte 3 = .ok (.lconst 0, 1) := by decide +kernel
theorem dX6_writtenByte_4 : decode cX6_writtenByte 4 = .ok (.aload_n 0, 1) := by decide +kernel
theorem dX6_writtenByte_5 : decode cX6_writtenByte 5 = .ok (.getfield 402, 3) := by decide +kernel
theorem dX6_writtenByte_8 : decode cX6_writtenByte 8 = .ok (.iconst 1, 1) := by decide +kernel
theorem dX6_writtenByte_9 : decode cX6_writtenByte 9 = .ok (.isub, 1) := by decide +kernel
theorem dX6_writtenByte_10 : decode cX6_writtenByte 10 = .ok (.i2l, 1) := by decide +kernel
theorem dX6_writtenByte_11 : decode cX6_writtenByte 11 = .ok (.invokestatic 65, 3) := by decide +kernel
theorem dX6_writtenByte_14 : decode cX6_writtenByte 14 = .ok (.ifCond .eq 7, 3) := by decide +kernel
theorem dX6_writtenByte_17 : decode cX6_writtenByte 17 = .ok (.iconst 0, 1) := by decide +kernel
theorem dX6_writtenByte_18 : decode cX6_writtenByte 18 = .ok (.goto 4, 3) := by decide +kernel
theorem dX6_writtenByte_21 : decode cX6_writtenByte 21 = .ok (.iconst 1, 1) := by decide +kernel
theorem dX6_writtenByte_22 : decode cX6_writtenByte 22 = .ok (.putfield 55, 3) := by decide +kernel
theorem dX6_writtenByte_25 : decode cX6_writtenByte 25 = .ok (.aload_n 0, 1) := by decide +kernel
theorem dX6_writtenByte_26 : decode cX6_writtenByte 26 = .ok (.getfield 55, 3) := by decide +kernel
theorem dX6_writtenByte_29 : decode cX6_writtenByte 29 = .ok (.ifCond .le 7, 3) := by decide +kernel
theorem dX6_writtenByte_32 : decode cX6_writtenByte 32 = .ok (.iconst 0, 1) := by decide +kernel
theorem dX6_writtenByte_33 : decode cX6_writtenByte 33 = .ok (.goto 9, 3) := by decide +kernel
theorem dX6_writtenByte_36 : decode cX6_writtenByte 36 = .ok (.aload_n 0, 1) := by decide +kernel
theorem dX6_writtenByte_37 : decode cX6_writtenByte 37 = .ok (.getfield 37, 3) := by decide +kernel
theorem dX6_writtenByte_40 : decode cX6_writtenByte 40 = .ok (.iload_n 1, 1) := by decide +kernel
theorem dX6_writtenByte_41 : decode cX6_writtenByte 41 = .ok (.iaload, 1) := by decide +kernel
theorem dX6_writtenByte_42 : decode cX6_writtenByte 42 = .ok (.ireturn, 1) := by decide +kernel
def f_X6_hear (N : Nat) (x1 : Int32) (x2 : Bool) (x3 : Int64) (u0 : Ob) : Option (Int32 × Ob) := ((f_X6_isMinute N x1.toInt64).bind fun q1 => (if q1 = true then ((f_X6_canHear N u0).bind fun q4 => (if q4 = true then ((f_X6_keeps N (oi u0 7 (0 : Int32))).bind fun q9 => ((f_X6_hears N x1 x2 x3 q9).bind fun q11 => some (q11.1, q11.2))) else some ((0 : Int32), (oi u0 7 (2 : Int32))))) else some ((0 : Int32), (oi u0 7 (1 : Int32)))))
def f_X6_bitOf (N : Nat) (x0 : Int64) (x2 : Int64) (x4 : Int32) : Option Int32 := ((f_X6_has N x2 x4).bind fun q1 => (if q1 = true then some (2 : Int32) else ((f_X6_has N x0 x4).bind fun q4 => (if q4 = true then some (1 : Int32) else some (0 : Int32)))))
def f_X6_bit (N : Nat) (x1 : Int32) (u0 : Ob) : Option (Int32 × Ob) := ((f_X6_isIn N x1.toInt64 (0 : Int64) ((u0.2.2.2 0) (5 : Int32).toNatClampNeg)).bind fun q1 => (if q1 = true then (if (59 : Int32) ≤ x1 then some ((0 : Int32), (oi u0 7 (1 : Int32))) else ((f_X6_bitOf N ((u0.2.2.2 0) (14 : Int32).toNatClampNeg) ((u0.2.2.2 0) (15 : Int32).toNatClampNeg) x1).bind fun q8 => some (q8, (oi u0 7 (0 : Int32))))) else some ((0 : Int32), (oi u0 7 (1 : Int32)))))
def f_X6_count (N : Nat) (x1 : Int32) (u0 : Ob) : Option (Int32 × Ob) := ((f_X6_isIn N x1.toInt64 (0 : Int64) (13 : Int64)).bind fun q1 => (if q1 = true then (if x1 = (0 : Int32) then some (((u0.2.2.2 0) (5 : Int32).toNatClampNeg).toInt32, (oi u0 7 (0 : Int32))) else (if x1 = (1 : Int32) then some (((u0.2.2.2 0) (12 : Int32).toNatClampNeg).toInt32, (oi u0 7 (0 : Int32))) else (if x1 = (2 : Int32) then some (((u0.2.2.2 0) (9 : Int32).toNatClampNeg).toInt32, (oi u0 7 (0 : Int32))) else (if x1 = (3 : Int32) then some (((u0.2.2.2 0) (10 : Int32).toNatClampNeg).toInt32, (oi u0 7 (0 : Int32))) else (if x1 = (4 : Int32) then (if ((u0.2.2.2 0) (5 : Int32).toNatClampNeg) = (-1 : Int64) then some ((0 : Int32), (oi u0 7 (0 : Int32))) else some (((u0.2.2.2 0) (8 : Int32).toNatClampNeg).toInt32, (oi u0 7 (0 : Int32)))) else (if x1 = (5 : Int32) then some (((u0.2.2.2 0) (13 : Int32).toNatClampNeg).toInt32, (oi u0 7 (0 : Int32))) else (if x1 = (6 : Int32) then (if (x1 - (6 : Int32)) < 0 ∨ 48 ≤ (x1 - (6 : Int32)).toNatClampNeg then none else some (((u0.2.2.2 0) (x1 - (6 : Int32)).toNatClampNeg).toInt32, (oi u0 7 (0 : Int32)))) else (if x1 = (7 : Int32) then (if (x1 - (6 : Int32)) < 0 ∨ 48 ≤ (x1 - (6 : Int32)).toNatClampNeg then none else some (((u0.2.2.2 0) (x1 - (6 : Int32)).toNatClampNeg).toInt32, (oi u0 7 (0 : Int32)))) else (if x1 = (8 : Int32) then (if (x1 - (6 : Int32)) < 0 ∨ 48 ≤ (x1 - (6 : Int32)).toNatClampNeg then none else some (((u0.2.2.2 0) (x1 - (6 : Int32)).toNatClampNeg).toInt32, (oi u0 7 (0 : Int32)))) else (if x1 = (9 : Int32) then (if (x1 - (6 : Int32)) < 0 ∨ 48 ≤ (x1 - (6 : Int32)).toNatClampNeg then none else some (((u0.2.2.2 0) (x1 - (6 : Int32)).toNatClampNeg).toInt32, (oi u0 7 (0 : Int32)))) else (if x1 = (10 : Int32) then (if (x1 - (6 : Int32)) < 0 ∨ 48 ≤ (x1 - (6 : Int32)).toNatClampNeg then none else some (((u0.2.2.2 0) (x1 - (6 : Int32)).toNatClampNeg).toInt32, (oi u0 7 (0 : Int32)))) else (if x1 = (11 : Int32) then some (((u0.2.2.2 0) (6 : Int32).toNatClampNeg).toInt32, (oi u0 7 (0 : Int32))) else (if x1 = (12 : Int32) then (if ((u0.2.2.2 0) (5 : Int32).toNatClampNeg) = (-1 : Int64) then some ((0 : Int32), (oi u0 7 (0 : Int32))) else ((f_X6_bits N ((u0.2.2.2 0) (15 : Int32).toNatClampNeg) (0 : Int32) (58 : Int32)).bind fun q26 => some (q26, (oi u0 7 (0 : Int32))))) else (if x1 = (13 : Int32) then some (((u0.2.2.2 0) (11 : Int32).toNatClampNeg).toInt32, (oi u0 7 (0 : Int32))) else (if (x1 - (6 : Int32)) < 0 ∨ 48 ≤ (x1 - (6 : Int32)).toNatClampNeg then none else some (((u0.2.2.2 0) (x1 - (6 : Int32)).toNatClampNeg).toInt32, (oi u0 7 (0 : Int32)))))))))))))))))) else some ((0 : Int32), (oi u0 7 (1 : Int32)))))
def f_X6_isFrame (N : Nat) (x1 : Int32) (u0 : Ob) : Option Bool := ((f_X6_isIn N x1.toInt64 (0 : Int64) (((u0.2.2.2 0) (12 : Int32).toNatClampNeg) - (1 : Int64))).bind fun q1 => some q1)
def f_X6_frame (N : Nat) (x1 : Int32) (x2 : Int32) (u0 : Ob) : Option (Int32 × Ob) := ((f_X6_isFrame N x1 u0).bind fun q1 => (if q1 = true then ((f_X6_isIn N x2.toInt64 (0 : Int64) (3 : Int64)).bind fun q4 => (if q4 = true then (if ((16 : Int32) + ((2 : Int32) * x1)) < 0 ∨ 48 ≤ ((16 : Int32) + ((2 : Int32) * x1)).toNatClampNeg then none else (if (((16 : Int32) + ((2 : Int32) * x1)) + (1 : Int32)) < 0 ∨ 48 ≤ (((16 : Int32) + ((2 : Int32) * x1)) + (1 : Int32)).toNatClampNeg then none else (if x2 = (0 : Int32) then ((f_X6_bits N (((u0.2.2.2 0) (((16 : Int32) + ((2 : Int32) * x1)) + (1 : Int32)).toNatClampNeg) &&& (576460752302899201 : Int64)) (0 : Int32) (58 : Int32)).bind fun q20 => some (q20, (oi u0 7 (0 : Int32)))) else (if x2 = (1 : Int32) then ((f_X6_faultOf N ((u0.2.2.2 0) ((16 : Int32) + ((2 : Int32) * x1)).toNatClampNeg) ((u0.2.2.2 0) (((16 : Int32) + ((2 : Int32) * x1)) + (1 : Int32)).toNatClampNeg) (oi u0 7 (0 : Int32))).bind fun q18 => some (q18.1, q18.2)) else (if x2 = (2 : Int32) then ((f_X6_tells N x1 (oi u0 7 (0 : Int32))).bind fun q16 => some (q16.1, q16.2)) else ((f_X6_bitOf N ((u0.2.2.2 0) ((16 : Int32) + ((2 : Int32) * x1)).toNatClampNeg) ((u0.2.2.2 0) (((16 : Int32) + ((2 : Int32) * x1)) + (1 : Int32)).toNatClampNeg) (19 : Int32)).bind fun q14 => some (q14, (oi u0 7 (0 : Int32))))))))) else some ((0 : Int32), (oi u0 7 (2 : Int32))))) else some ((0 : Int32), (oi u0 7 (1 : Int32)))))
def f_X6_frameBit (N : Nat) (x1 : Int32) (x2 : Int32) (u0 : Ob) : Option (Int32 × Ob) := ((f_X6_isFrame N x1 u0).bind fun q1 => (if q1 = true then ((f_X6_isIn N x2.toInt64 (0 : Int64) (58 : Int64)).bind fun q5 => (if q5 = true then (if ((16 : Int32) + ((2 : Int32) * x1)) < 0 ∨ 48 ≤ ((16 : Int32) + ((2 : Int32) * x1)).toNatClampNeg then none else (if (((16 : Int32) + ((2 : Int32) * x1)) + (1 : Int32)) < 0 ∨ 48 ≤ (((16 : Int32) + ((2 : Int32) * x1)) + (1 : Int32)).toNatClampNeg then none else ((f_X6_bitOf N ((u0.2.2.2 0) ((16 : Int32) + ((2 : Int32) * x1)).toNatClampNeg) ((u0.2.2.2 0) (((16 : Int32) + ((2 : Int32) * x1)) + (1 : Int32)).toNatClampNeg) x2).bind fun q12 => some (q12, (oi u0 7 (0 : Int32)))))) else some ((0 : Int32), (oi u0 7 (1 : Int32))))) else some ((0 : Int32), (oi u0 7 (1 : Int32)))))
def f_X6_votes (N : Nat) (x1 : Int32) (u0 : Ob) : Option (Int32 × Ob) := ((f_X6_votesNow N x1 (oi u0 7 (0 : Int32))).bind fun q1 => some (q1.1, q1.2))
def l_X6_favourite_4 (N : Nat) : Nat → Int32 → Int32 → Ob → Option (Int32 × Ob)
  | 0, _, _, _ => none
  | n + 1, x1, x2, u0 => (if ((u0.2.2.2 0) (12 : Int32).toNatClampNeg) ≤ x2.toInt64 then (if x1 = (-1 : Int32) then some ((0 : Int32), (oi u0 7 (1 : Int32))) else some (x1, (oi u0 7 (0 : Int32)))) else ((f_X6_votesFor N x2 u0).bind fun q5 => (if q5.1 = (-1 : Int32) then l_X6_favourite_4 N n x1 (x2 + (1 : Int32)) q5.2 else (if x1 = (-1 : Int32) then l_X6_favourite_4 N n q5.1 (x2 + (1 : Int32)) q5.2 else ((f_X6_votesNow N q5.1 q5.2).bind fun q9 => ((f_X6_votesNow N x1 q9.2).bind fun q11 => (if (0 : Int32) < (q9.1 - q11.1) then l_X6_favourite_4 N n q5.1 (x2 + (1 : Int32)) q11.2 else (if (q9.1 - q11.1) = (0 : Int32) then (if x1 ≤ q5.1 then l_X6_favourite_4 N n x1 (x2 + (1 : Int32)) q11.2 else l_X6_favourite_4 N n q5.1 (x2 + (1 : Int32)) q11.2) else l_X6_favourite_4 N n x1 (x2 + (1 : Int32)) q11.2))))))))
def f_X6_favourite (N : Nat) (u0 : Ob) : Option (Int32 × Ob) := l_X6_favourite_4 N N (-1 : Int32) (0 : Int32) u0
def l_X6_weakest_20 (N : Nat) : Nat → Int32 → Int32 → Int32 → Int32 → Ob → Option (Int32 × Int32 × Int32 × Int32 × Ob)
  | 0, _, _, _, _, _ => none
  | n + 1, x1, x2, x3, x4, u0 => (if ((u0.2.2.2 0) (12 : Int32).toNatClampNeg) ≤ x4.toInt64 then some (x1, x2, x3, x4, u0) else ((f_X6_has N (576460752302899201 : Int64) x2).bind fun q3 => (if q3 = true then (if (((16 : Int32) + ((2 : Int32) * x4)) + (1 : Int32)) < 0 ∨ 48 ≤ (((16 : Int32) + ((2 : Int32) * x4)) + (1 : Int32)).toNatClampNeg then none else ((f_X6_has N ((u0.2.2.2 0) (((16 : Int32) + ((2 : Int32) * x4)) + (1 : Int32)).toNatClampNeg) x2).bind fun q7 => (if q7 = true then l_X6_weakest_20 N n x1 x2 (x3 + (1 : Int32)) (x4 + (1 : Int32)) u0 else l_X6_weakest_20 N n x1 x2 (x3 + (0 : Int32)) (x4 + (1 : Int32)) u0))) else some (x1, x2, x3, x4, u0))))
def l_X6_weakest_9 (N : Nat) : Nat → Int32 → Int32 → Ob → Option (Int32 × Ob)
  | 0, _, _, _ => none
  | n + 1, x1, x2, u0 => (if (59 : Int32) ≤ x2 then some (x1, u0) else ((l_X6_weakest_20 N N x1 x2 (0 : Int32) (0 : Int32) u0).bind fun w10 => (if w10.2.2.1 ≤ w10.1 then l_X6_weakest_9 N n w10.1 (w10.2.1 + (1 : Int32)) w10.2.2.2.2 else l_X6_weakest_9 N n w10.2.2.1 (w10.2.1 + (1 : Int32)) w10.2.2.2.2)))
def f_X6_weakest (N : Nat) (u0 : Ob) : Option (Int32 × Ob) := l_X6_weakest_9 N N (0 : Int32) (0 : Int32) (oi u0 7 (0 : Int32))
def f_X6_firstOf (N : Nat) (x0 : Int32) : Option Int32 := (if x0 = (0 : Int32) then some (21 : Int32) else (if x0 = (1 : Int32) then some (29 : Int32) else some (36 : Int32)))
def f_X6_lastOf (N : Nat) (x0 : Int32) : Option Int32 := (if x0 = (0 : Int32) then some (28 : Int32) else (if x0 = (1 : Int32) then some (35 : Int32) else some (58 : Int32)))
def f_X6_daysBy (N : Nat) (x0 : Int64) : Option Int32 := ((f_X6_valueOf N x0 (50 : Int32) (4 : Int32)).bind fun q1 => ((f_X6_valueOf N x0 (45 : Int32) (1 : Int32)).bind fun q3 => ((f_X6_valueOf N x0 (36 : Int32) (2 : Int32)).bind fun q5 => ((f_X6_isDay N ((2000 : Int32) + q1) q3 q5).bind fun q7 => (if q7 = true then ((f_X6_numberFor N ((2000 : Int32) + q1) q3 q5 (0 : Int32) (0 : Int32)).bind fun q10 => ((f_X6_ones N x0 (42 : Int32) (3 : Int32)).bind fun q12 => ((f_X6_partOf N q10 (5 : Int32)).bind fun q14 => (if q12 = q14 then some (q10 / (1440 : Int32)) else some (-1 : Int32))))) else some (-1 : Int32))))))
def f_X6_blockOf (N : Nat) (x1 : Int32) (x2 : Int32) (u0 : Ob) : Option Int32 := (if ((16 : Int32) + ((2 : Int32) * x1)) < 0 ∨ 48 ≤ ((16 : Int32) + ((2 : Int32) * x1)).toNatClampNeg then none else ((f_X6_firstOf N x2).bind fun q2 => ((f_X6_lastOf N x2).bind fun q4 => ((f_X6_span N q2 q4).bind fun q6 => (if (((16 : Int32) + ((2 : Int32) * x1)) + (1 : Int32)) < 0 ∨ 48 ≤ (((16 : Int32) + ((2 : Int32) * x1)) + (1 : Int32)).toNatClampNeg then none else (if (((u0.2.2.2 0) (((16 : Int32) + ((2 : Int32) * x1)) + (1 : Int32)).toNatClampNeg) &&& q6) = (0 : Int64) then ((f_X6_firstOf N x2).bind fun q10 => ((f_X6_lastOf N x2).bind fun q12 => ((f_X6_isOdd N ((u0.2.2.2 0) ((16 : Int32) + ((2 : Int32) * x1)).toNatClampNeg) q10 q12).bind fun q14 => (if q14 = true then some (-1 : Int32) else (if x2 = (2 : Int32) then ((f_X6_daysBy N ((u0.2.2.2 0) ((16 : Int32) + ((2 : Int32) * x1)).toNatClampNeg)).bind fun q29 => some q29) else (if x2 = (0 : Int32) then ((f_X6_valueOf N ((u0.2.2.2 0) ((16 : Int32) + ((2 : Int32) * x1)).toNatClampNeg) (21 : Int32) (3 : Int32)).bind fun q24 => (if x2 = (0 : Int32) then (if q24 ≤ (59 : Int32) then some q24 else some (-1 : Int32)) else (if q24 ≤ (23 : Int32) then some q24 else some (-1 : Int32)))) else ((f_X6_valueOf N ((u0.2.2.2 0) ((16 : Int32) + ((2 : Int32) * x1)).toNatClampNeg) (29 : Int32) (2 : Int32)).bind fun q19 => (if x2 = (0 : Int32) then (if q19 ≤ (59 : Int32) then some q19 else some (-1 : Int32)) else (if q19 ≤ (23 : Int32) then some q19 else some (-1 : Int32)))))))))) else some (-1 : Int32)))))))
def f_X6_block (N : Nat) (x1 : Int32) (x2 : Int32) (u0 : Ob) : Option (Int32 × Ob) := ((f_X6_isFrame N x1 u0).bind fun q1 => (if q1 = true then ((f_X6_isIn N x2.toInt64 (0 : Int64) (2 : Int64)).bind fun q4 => (if q4 = true then ((f_X6_blockOf N x1 x2 (oi u0 7 (0 : Int32))).bind fun q9 => some (q9, (oi u0 7 (0 : Int32)))) else some ((0 : Int32), (oi u0 7 (2 : Int32))))) else some ((0 : Int32), (oi u0 7 (1 : Int32)))))
def f_X6_blockVote (N : Nat) (x1 : Int32) (x2 : Int32) (x3 : Int32) (u0 : Ob) : Option Int32 := ((f_X6_blockOf N x1 x2 u0).bind fun q1 => (if q1 = (-1 : Int32) then some (-1 : Int32) else (if x2 ≤ (0 : Int32) then (if x2 = (0 : Int32) then some ((q1 + x1) - (q1 + x1) / (60 : Int32) * (60 : Int32)) else some q1) else (if x1 ≤ x3 then (if x2 = (0 : Int32) then some ((q1 + x1) - (q1 + x1) / (60 : Int32) * (60 : Int32)) else some q1) else some (-1 : Int32)))))
def l_X6_blockVotes_6 (N : Nat) (x1 : Int32) (x2 : Int32) (x3 : Int32) (u0 : Ob) : Nat → Int32 → Int32 → Option Int32
  | 0, _, _ => none
  | n + 1, x4, x5 => (if ((u0.2.2.2 0) (12 : Int32).toNatClampNeg) ≤ x5.toInt64 then some x4 else ((f_X6_blockVote N x5 x2 x3 u0).bind fun q2 => (if q2 = x1 then l_X6_blockVotes_6 N x1 x2 x3 u0 n (x4 + (1 : Int32)) (x5 + (1 : Int32)) else l_X6_blockVotes_6 N x1 x2 x3 u0 n (x4 + (0 : Int32)) (x5 + (1 : Int32)))))
def f_X6_blockVotes (N : Nat) (x1 : Int32) (x2 : Int32) (x3 : Int32) (u0 : Ob) : Option Int32 := l_X6_blockVotes_6 N x1 x2 x3 u0 N (0 : Int32) (0 : Int32)
def l_X6_chosenBy_16 (N : Nat) (x1 : Int32) (x2 : Int32) (u0 : Ob) : Nat → Int32 → Int32 → Int32 → Option Int32
  | 0, _, _, _ => none
  | n + 1, x3, x4, x5 => (if ((u0.2.2.2 0) (12 : Int32).toNatClampNeg) ≤ x5.toInt64 then some x3 else ((f_X6_blockVote N x5 x1 x2 u0).bind fun q2 => (if q2 = (-1 : Int32) then (if (0 : Int32).toInt64 < ((u0.2.2.2 0) (1 : Int32).toNatClampNeg) then l_X6_chosenBy_16 N x1 x2 u0 n x3 x4 (x5 + (1 : Int32)) else (if (0 : Int32) < x4 then l_X6_chosenBy_16 N x1 x2 u0 n x3 x4 (x5 + (1 : Int32)) else (if q2 = x3 then l_X6_chosenBy_16 N x1 x2 u0 n x3 x4 (x5 + (1 : Int32)) else (if (0 : Int32) ≤ x4 then l_X6_chosenBy_16 N x1 x2 u0 n (-1 : Int32) (0 : Int32) (x5 + (1 : Int32)) else l_X6_chosenBy_16 N x1 x2 u0 n q2 (0 : Int32) (x5 + (1 : Int32)))))) else ((f_X6_blockVotes N q2 x1 x2 u0).bind fun q5 => (if q5.toInt64 < ((u0.2.2.2 0) (1 : Int32).toNatClampNeg) then l_X6_chosenBy_16 N x1 x2 u0 n x3 x4 (x5 + (1 : Int32)) else (if q5 < x4 then l_X6_chosenBy_16 N x1 x2 u0 n x3 x4 (x5 + (1 : Int32)) else (if q2 = x3 then l_X6_chosenBy_16 N x1 x2 u0 n x3 x4 (x5 + (1 : Int32)) else (if q5 ≤ x4 then l_X6_chosenBy_16 N x1 x2 u0 n (-1 : Int32) q5 (x5 + (1 : Int32)) else l_X6_chosenBy_16 N x1 x2 u0 n q2 q5 (x5 + (1 : Int32))))))))))
def f_X6_chosenBy (N : Nat) (x1 : Int32) (x2 : Int32) (u0 : Ob) : Option Int32 := l_X6_chosenBy_16 N x1 x2 u0 N (-1 : Int32) (((u0.2.2.2 0) (1 : Int32).toNatClampNeg).toInt32 - (1 : Int32)) (0 : Int32)
def f_X6_assembledNow (N : Nat) (u0 : Ob) : Option Int32 := ((f_X6_chosenBy N (0 : Int32) (0 : Int32) u0).bind fun q1 => (if q1 = (-1 : Int32) then some (-1 : Int32) else ((f_X6_chosenBy N (1 : Int32) q1 u0).bind fun q4 => ((f_X6_chosenBy N (2 : Int32) q1 u0).bind fun q6 => (if q4 = (-1 : Int32) then some (-1 : Int32) else (if q6 = (-1 : Int32) then some (-1 : Int32) else some ((((1440 : Int32) * q6) + ((60 : Int32) * q4)) + q1)))))))
def f_X6_assembled (N : Nat) (u0 : Ob) : Option (Int32 × Ob) := ((f_X6_assembledNow N (oi u0 7 (0 : Int32))).bind fun q1 => some (q1, (oi u0 7 (0 : Int32))))
def l_X6_dissenting_23 (N : Nat) : Nat → Int32 → Int32 → Int32 → Ob → Option (Int32 × Ob)
  | 0, _, _, _, _ => none
  | n + 1, x1, x2, x3, u0 => (if ((u0.2.2.2 0) (12 : Int32).toNatClampNeg) ≤ x3.toInt64 then some (x2, u0) else (if (u0.1 7) = (0 : Int32) then ((f_X6_votesFor N x3 u0).bind fun q6 => (if q6.1 = (-1 : Int32) then l_X6_dissenting_23 N n x1 (x2 + (0 : Int32)) (x3 + (1 : Int32)) q6.2 else (if q6.1 = x1 then l_X6_dissenting_23 N n x1 (x2 + (0 : Int32)) (x3 + (1 : Int32)) q6.2 else l_X6_dissenting_23 N n x1 (x2 + (1 : Int32)) (x3 + (1 : Int32)) q6.2))) else some (x2, u0)))
def f_X6_dissenting (N : Nat) (u0 : Ob) : Option (Int32 × Ob) := ((f_X6_assembledNow N u0).bind fun q1 => (if q1 = (-1 : Int32) then l_X6_dissenting_23 N N q1 (0 : Int32) (0 : Int32) (oi u0 7 (1 : Int32)) else l_X6_dissenting_23 N N q1 (0 : Int32) (0 : Int32) (oi u0 7 (0 : Int32))))
def f_X6_fix (N : Nat) (x1 : Int32) (x2 : Int32) (u0 : Ob) : Option (Int32 × Ob) := ((f_X6_isIn N x1.toInt64 (0 : Int64) (((u0.2.2.2 0) (13 : Int32).toNatClampNeg) - (1 : Int64))).bind fun q1 => (if q1 = true then ((f_X6_isIn N x2.toInt64 (0 : Int64) (1 : Int64)).bind fun q4 => (if q4 = true then (if (((32 : Int32) + ((2 : Int32) * x1)) + x2) < 0 ∨ 48 ≤ (((32 : Int32) + ((2 : Int32) * x1)) + x2).toNatClampNeg then none else some (((u0.2.2.2 0) (((32 : Int32) + ((2 : Int32) * x1)) + x2).toNatClampNeg).toInt32, (oi u0 7 (0 : Int32)))) else some ((0 : Int32), (oi u0 7 (2 : Int32))))) else some ((0 : Int32), (oi u0 7 (1 : Int32)))))
def f_X6_clock (N : Nat) (x1 : Int32) (u0 : Ob) : Option (Int64 × Ob) := ((f_X6_isIn N x1.toInt64 (0 : Int64) (2000000000 : Int64)).bind fun q1 => (if q1 = true then (if ((u0.2.2.2 0) (13 : Int32).toNatClampNeg) = (0 : Int64) then some ((0 : Int64), (oi u0 7 (2 : Int32))) else (if ((u0.2.2.2 0) (33 : Int32).toNatClampNeg) ≤ x1.toInt64 then some (((((60000 : Int64) * ((u0.2.2.2 0) (32 : Int32).toNatClampNeg)) + (x1.toInt64 - ((u0.2.2.2 0) (33 : Int32).toNatClampNeg))) + (((x1.toInt64 - ((u0.2.2.2 0) (33 : Int32).toNatClampNeg)) * ((u0.2.2.2 0) (4 : Int32).toNatClampNeg)) / (1000000 : Int64))), (oi u0 7 (0 : Int32))) else some ((0 : Int64), (oi u0 7 (2 : Int32))))) else some ((0 : Int64), (oi u0 7 (1 : Int32)))))
def f_X6_estimated (N : Nat) (u0 : Ob) : Option Int64 := (if (((u0.2.2.2 0) (33 : Int32).toNatClampNeg) - ((u0.2.2.2 0) (35 : Int32).toNatClampNeg)) = 0 then none else some (((((60000 : Int64) * (((u0.2.2.2 0) (32 : Int32).toNatClampNeg) - ((u0.2.2.2 0) (34 : Int32).toNatClampNeg))) - (((u0.2.2.2 0) (33 : Int32).toNatClampNeg) - ((u0.2.2.2 0) (35 : Int32).toNatClampNeg))) * (1000000 : Int64)) / (((u0.2.2.2 0) (33 : Int32).toNatClampNeg) - ((u0.2.2.2 0) (35 : Int32).toNatClampNeg))))
def f_X6_estimate (N : Nat) (u0 : Ob) : Option (Int64 × Ob) := (if (2 : Int64) ≤ ((u0.2.2.2 0) (13 : Int32).toNatClampNeg) then ((f_X6_estimated N (oi u0 7 (0 : Int32))).bind fun q3 => some (q3, (oi u0 7 (0 : Int32)))) else some ((0 : Int64), (oi u0 7 (1 : Int32))))
def f_X6_set (N : Nat) (x1 : Int32) (x2 : Int32) (u0 : Ob) : Option (Int32 × Ob) := ((f_X6_isIn N x1.toInt64 (0 : Int64) (4 : Int64)).bind fun q1 => (if q1 = true then ((f_X6_least N x1).bind fun q5 => ((f_X6_most N x1).bind fun q7 => ((f_X6_isIn N x2.toInt64 q5.toInt64 q7.toInt64).bind fun q9 => (if q9 = true then ((f_X6_keeps N (oi u0 7 (0 : Int32))).bind fun q14 => ((f_X6_sets N x1 x2 q14).bind fun q16 => some (q16.1, q16.2))) else some ((0 : Int32), (oi u0 7 (1 : Int32))))))) else some ((0 : Int32), (oi u0 7 (1 : Int32)))))
def f_X6_discipline (N : Nat) (u0 : Ob) : Option (Int32 × Ob) := (if (2 : Int64) ≤ ((u0.2.2.2 0) (13 : Int32).toNatClampNeg) then ((f_X6_estimated N u0).bind fun q2 => ((f_X6_isIn N q2 (-500 : Int64) (500 : Int64)).bind fun q4 => (if q4 = true then ((f_X6_keeps N (oi u0 7 (0 : Int32))).bind fun q9 => ((f_X6_estimated N q9).bind fun q11 => ((f_X6_sets N (4 : Int32) q11.toInt32 q9).bind fun q13 => some (q13.1, q13.2)))) else some ((0 : Int32), (oi u0 7 (2 : Int32)))))) else some ((0 : Int32), (oi u0 7 (1 : Int32))))
def f_X6_forget (N : Nat) (u0 : Ob) : Option (Int32 × Ob) := ((f_X6_keeps N (oi u0 7 (0 : Int32))).bind fun q1 => ((f_X6_forgets N q1).bind fun q3 => some (((q1.2.2.2 0) (12 : Int32).toNatClampNeg).toInt32, q3)))
def f_X6_says (N : Nat) (x1 : Int32) (u0 : Ob) : Option Ob := (if (u0.1 21) < 0 ∨ 20 ≤ (u0.1 21).toNatClampNeg then none else some (oi (oa u0 20 (upd (u0.2.2.1 20) (u0.1 21).toNatClampNeg x1)) 21 ((u0.1 21) + (1 : Int32))))
def f_X6_saysTwo (N : Nat) (x1 : Int32) (u0 : Ob) : Option Ob := ((f_X6_says N ((48 : Int32) + (x1 / (10 : Int32))) u0).bind fun q1 => ((f_X6_says N ((48 : Int32) + (x1 - x1 / (10 : Int32) * (10 : Int32))) q1).bind fun q3 => some q3))
def f_X6_writeTime (N : Nat) (x1 : Int32) (u0 : Ob) : Option (Int32 × Ob) := ((f_X6_isMinute N x1.toInt64).bind fun q1 => (if q1 = true then ((f_X6_partOf N x1 (0 : Int32)).bind fun q6 => ((f_X6_saysTwo N (q6 / (100 : Int32)) (oi (oi u0 7 (0 : Int32)) 21 (0 : Int32))).bind fun q8 => ((f_X6_partOf N x1 (0 : Int32)).bind fun q10 => ((f_X6_saysTwo N (q10 - q10 / (100 : Int32) * (100 : Int32)) q8).bind fun q12 => ((f_X6_says N (45 : Int32) q12).bind fun q14 => ((f_X6_partOf N x1 (1 : Int32)).bind fun q16 => ((f_X6_saysTwo N q16 q14).bind fun q18 => ((f_X6_says N (45 : Int32) q18).bind fun q20 => ((f_X6_partOf N x1 (2 : Int32)).bind fun q22 => ((f_X6_saysTwo N q22 q20).bind fun q24 => ((f_X6_says N (32 : Int32) q24).bind fun q26 => ((f_X6_partOf N x1 (3 : Int32)).bind fun q28 => ((f_X6_saysTwo N q28 q26).bind fun q30 => ((f_X6_says N (58 : Int32) q30).bind fun q32 => ((f_X6_partOf N x1 (4 : Int32)).bind fun q34 => ((f_X6_saysTwo N q34 q32).bind fun q36 => ((f_X6_says N (32 : Int32) q36).bind fun q38 => ((f_X6_partOf N x1 (5 : Int32)).bind fun q40 => ((f_X6_says N ((48 : Int32) + q40) q38).bind fun q42 => some ((q42.1 21), q42)))))))))))))))))))) else some ((0 : Int32), (oi u0 7 (1 : Int32)))))
def f_X6_writtenByte (N : Nat) (x1 : Int32) (u0 : Ob) : Option (Int32 × Ob) := ((f_X6_isIn N x1.toInt64 (0 : Int64) ((u0.1 21) - (1 : Int32)).toInt64).bind fun q1 => (if q1 = true then (if x1 < 0 ∨ 20 ≤ x1.toNatClampNeg then none else some (((u0.2.2.1 20) x1.toNatClampNeg), (oi u0 7 (0 : Int32)))) else some ((0 : Int32), (oi u0 7 (1 : Int32)))))
theorem kc_X6_hear : Cond.instanceMethod yX6_hear ∈ lw_g ∧ Cond.selects yX6_hear.cls yX6_hear yX6_hear ∈ lw_g ∧ Cond.initialized yX6_hear.cls ∈ lw_g ∧ Cond.code yX6_hear cX6_hear 5 (some .int) ∈ lw_g ∧ yX6_hear.cls ≠ "java/lang/invoke/MethodHandle" ∧ yX6_hear.cls ≠ "java/lang/invoke/VarHandle" ∧ (parseMethodDescriptor yX6_hear.desc).map (fun d => d.parameters.length) = some 3 := ⟨kq6_95, kq6_96, kq1_5, kq6_97, by decide +kernel, by decide +kernel, by decide +kernel⟩
theorem kc_X6_bitOf : Cond.static yX6_bitOf ∈ lw_g ∧ Cond.initialized yX6_bitOf.cls ∈ lw_g ∧ Cond.code yX6_bitOf cX6_bitOf 5 (some .int) ∈ lw_g ∧ yX6_bitOf.cls ≠ "java/lang/invoke/MethodHandle" ∧ yX6_bitOf.cls ≠ "java/lang/invoke/VarHandle" ∧ (parseMethodDescriptor yX6_bitOf.desc).map (fun d => d.parameters.length) = some 3 := ⟨kq6_103, kq1_5, kq6_104, by decide +kernel, by decide +kernel, by decide +kernel⟩
theorem kc_X6_bit : Cond.instanceMethod yX6_bit ∈ lw_g ∧ Cond.selects yX6_bit.cls yX6_bit yX6_bit ∈ lw_g ∧ Cond.initialized yX6_bit.cls ∈ lw_g ∧ Cond.code yX6_bit cX6_bit 2 (some .int) ∈ lw_g ∧ yX6_bit.cls ≠ "java/lang/invoke/MethodHandle" ∧ yX6_bit.cls ≠ "java/lang/invoke/VarHandle" ∧ (parseMethodDescriptor yX6_bit.desc).map (fun d => d.parameters.length) = some 1 := ⟨kq6_99, kq6_100, kq1_5, kq6_101, by decide +kernel, by decide +kernel, by decide +kernel⟩
theorem kc_X6_count : Cond.instanceMethod yX6_count ∈ lw_g ∧ Cond.selects yX6_count.cls yX6_count yX6_count ∈ lw_g ∧ Cond.initialized yX6_count.cls ∈ lw_g ∧ Cond.code yX6_count cX6_count 2 (some .int) ∈ lw_g ∧ yX6_count.cls ≠ "java/lang/invoke/MethodHandle" ∧ yX6_count.cls ≠ "java/lang/invoke/VarHandle" ∧ (parseMethodDescriptor yX6_count.desc).map (fun d => d.parameters.length) = some 1 := ⟨kq6_106, kq6_107, kq1_5, kq6_108, by decide +kernel, by decide +kernel, by decide +kernel⟩
theorem kc_X6_isFrame : Cond.instanceMethod yX6_isFrame ∈ lw_g ∧ Cond.selects yX6_isFrame.cls yX6_isFrame yX6_isFrame ∈ lw_g ∧ Cond.initialized yX6_isFrame.cls ∈ lw_g ∧ Cond.code yX6_isFrame cX6_isFrame 2 (some .boolean) ∈ lw_g ∧ yX6_isFrame.cls ≠ "java/lang/invoke/MethodHandle" ∧ yX6_isFrame.cls ≠ "java/lang/invoke/VarHandle" ∧ (parseMethodDescriptor yX6_isFrame.desc).map (fun d => d.parameters.length) = some 1 := ⟨kq6_116, kqp_56, kq1_5, kq6_117, by decide +kernel, by decide +kernel, by decide +kernel⟩
theorem kc_X6_frame : Cond.instanceMethod yX6_frame ∈ lw_g ∧ Cond.selects yX6_frame.cls yX6_frame yX6_frame ∈ lw_g ∧ Cond.initialized yX6_frame.cls ∈ lw_g ∧ Cond.code yX6_frame cX6_frame 7 (some .int) ∈ lw_g ∧ yX6_frame.cls ≠ "java/lang/invoke/MethodHandle" ∧ yX6_frame.cls ≠ "java/lang/invoke/VarHandle" ∧ (parseMethodDescriptor yX6_frame.desc).map (fun d => d.parameters.length) = some 2 := ⟨kq6_111, kq6_112, kq1_5, kq6_113, by decide +kernel, by decide +kernel, by decide +kernel⟩
theorem kc_X6_frameBit : Cond.instanceMethod yX6_frameBit ∈ lw_g ∧ Cond.selects yX6_frameBit.cls yX6_frameBit yX6_frameBit ∈ lw_g ∧ Cond.initialized yX6_frameBit.cls ∈ lw_g ∧ Cond.code yX6_frameBit cX6_frameBit 3 (some .int) ∈ lw_g ∧ yX6_frameBit.cls ≠ "java/lang/invoke/MethodHandle" ∧ yX6_frameBit.cls ≠ "java/lang/invoke/VarHandle" ∧ (parseMethodDescriptor yX6_frameBit.desc).map (fun d => d.parameters.length) = some 2 := ⟨kq6_119, kq6_120, kq1_5, kq6_121, by decide +kernel, by decide +kernel, by decide +kernel⟩
theorem kc_X6_votes : Cond.instanceMethod yX6_votes ∈ lw_g ∧ Cond.selects yX6_votes.cls yX6_votes yX6_votes ∈ lw_g ∧ Cond.initialized yX6_votes.cls ∈ lw_g ∧ Cond.code yX6_votes cX6_votes 2 (some .int) ∈ lw_g ∧ yX6_votes.cls ≠ "java/lang/invoke/MethodHandle" ∧ yX6_votes.cls ≠ "java/lang/invoke/VarHandle" ∧ (parseMethodDescriptor yX6_votes.desc).map (fun d => d.parameters.length) = some 1 := ⟨kq6_123, kq6_124, kq1_5, kq6_125, by decide +kernel, by decide +kernel, by decide +kernel⟩
theorem kc_X6_favourite : Cond.instanceMethod yX6_favourite ∈ lw_g ∧ Cond.selects yX6_favourite.cls yX6_favourite yX6_favourite ∈ lw_g ∧ Cond.initialized yX6_favourite.cls ∈ lw_g ∧ Cond.code yX6_favourite cX6_favourite 5 (some .int) ∈ lw_g ∧ yX6_favourite.cls ≠ "java/lang/invoke/MethodHandle" ∧ yX6_favourite.cls ≠ "java/lang/invoke/VarHandle" ∧ (parseMethodDescriptor yX6_favourite.desc).map (fun d => d.parameters.length) = some 0 := ⟨kq6_127, kq6_128, kq1_5, kq6_129, by decide +kernel, by decide +kernel, by decide +kernel⟩
theorem kc_X6_weakest : Cond.instanceMethod yX6_weakest ∈ lw_g ∧ Cond.selects yX6_weakest.cls yX6_weakest yX6_weakest ∈ lw_g ∧ Cond.initialized yX6_weakest.cls ∈ lw_g ∧ Cond.code yX6_weakest cX6_weakest 5 (some .int) ∈ lw_g ∧ yX6_weakest.cls ≠ "java/lang/invoke/MethodHandle" ∧ yX6_weakest.cls ≠ "java/lang/invoke/VarHandle" ∧ (parseMethodDescriptor yX6_weakest.desc).map (fun d => d.parameters.length) = some 0 := ⟨kq6_131, kq6_132, kq1_5, kq6_133, by decide +kernel, by decide +kernel, by decide +kernel⟩
theorem kc_X6_firstOf : Cond.static yX6_firstOf ∈ lw_g ∧ Cond.initialized yX6_firstOf.cls ∈ lw_g ∧ Cond.code yX6_firstOf cX6_firstOf 1 (some .int) ∈ lw_g ∧ yX6_firstOf.cls ≠ "java/lang/invoke/MethodHandle" ∧ yX6_firstOf.cls ≠ "java/lang/invoke/VarHandle" ∧ (parseMethodDescriptor yX6_firstOf.desc).map (fun d => d.parameters.length) = some 1 := ⟨kq6_143, kq1_5, kq6_144, by decide +kernel, by decide +kernel, by decide +kernel⟩
theorem kc_X6_lastOf : Cond.static yX6_lastOf ∈ lw_g ∧ Cond.initialized yX6_lastOf.cls ∈ lw_g ∧ Cond.code yX6_lastOf cX6_lastOf 1 (some .int) ∈ lw_g ∧ yX6_lastOf.cls ≠ "java/lang/invoke/MethodHandle" ∧ yX6_lastOf.cls ≠ "java/lang/invoke/VarHandle" ∧ (parseMethodDescriptor yX6_lastOf.desc).map (fun d => d.parameters.length) = some 1 := ⟨kq6_146, kq1_5, kq6_147, by decide +kernel, by decide +kernel, by decide +kernel⟩
theorem kc_X6_daysBy : Cond.static yX6_daysBy ∈ lw_g ∧ Cond.initialized yX6_daysBy.cls ∈ lw_g ∧ Cond.code yX6_daysBy cX6_daysBy 6 (some .int) ∈ lw_g ∧ yX6_daysBy.cls ≠ "java/lang/invoke/MethodHandle" ∧ yX6_daysBy.cls ≠ "java/lang/invoke/VarHandle" ∧ (parseMethodDescriptor yX6_daysBy.desc).map (fun d => d.parameters.length) = some 1 := ⟨kq6_152, kq1_5, kq6_153, by decide +kernel, by decide +kernel, by decide +kernel⟩
theorem kc_X6_blockOf : Cond.instanceMethod yX6_blockOf ∈ lw_g ∧ Cond.selects yX6_blockOf.cls yX6_blockOf yX6_blockOf ∈ lw_g ∧ Cond.initialized yX6_blockOf.cls ∈ lw_g ∧ Cond.code yX6_blockOf cX6_blockOf 8 (some .int) ∈ lw_g ∧ yX6_blockOf.cls ≠ "java/lang/invoke/MethodHandle" ∧ yX6_blockOf.cls ≠ "java/lang/invoke/VarHandle" ∧ (parseMethodDescriptor yX6_blockOf.desc).map (fun d => d.parameters.length) = some 2 := ⟨kq6_140, kqp_57, kq1_5, kq6_141, by decide +kernel, by decide +kernel, by decide +kernel⟩
theorem kc_X6_block : Cond.instanceMethod yX6_block ∈ lw_g ∧ Cond.selects yX6_block.cls yX6_block yX6_block ∈ lw_g ∧ Cond.initialized yX6_block.cls ∈ lw_g ∧ Cond.code yX6_block cX6_block 3 (some .int) ∈ lw_g ∧ yX6_block.cls ≠ "java/lang/invoke/MethodHandle" ∧ yX6_block.cls ≠ "java/lang/invoke/VarHandle" ∧ (parseMethodDescriptor yX6_block.desc).map (fun d => d.parameters.length) = some 2 := ⟨kq6_135, kq6_136, kq1_5, kq6_137, by decide +kernel, by decide +kernel, by decide +kernel⟩
theorem kc_X6_blockVote : Cond.instanceMethod yX6_blockVote ∈ lw_g ∧ Cond.selects yX6_blockVote.cls yX6_blockVote yX6_blockVote ∈ lw_g ∧ Cond.initialized yX6_blockVote.cls ∈ lw_g ∧ Cond.code yX6_blockVote cX6_blockVote 5 (some .int) ∈ lw_g ∧ yX6_blockVote.cls ≠ "java/lang/invoke/MethodHandle" ∧ yX6_blockVote.cls ≠ "java/lang/invoke/VarHandle" ∧ (parseMethodDescriptor yX6_blockVote.desc).map (fun d => d.parameters.length) = some 3 := ⟨kq6_168, kqp_60, kq1_5, kq6_169, by decide +kernel, by decide +kernel, by decide +kernel⟩
theorem kc_X6_blockVotes : Cond.instanceMethod yX6_blockVotes ∈ lw_g ∧ Cond.selects yX6_blockVotes.cls yX6_blockVotes yX6_blockVotes ∈ lw_g ∧ Cond.initialized yX6_blockVotes.cls ∈ lw_g ∧ Cond.code yX6_blockVotes cX6_blockVotes 6 (some .int) ∈ lw_g ∧ yX6_blockVotes.cls ≠ "java/lang/invoke/MethodHandle" ∧ yX6_blockVotes.cls ≠ "java/lang/invoke/VarHandle" ∧ (parseMethodDescriptor yX6_blockVotes.desc).map (fun d => d.parameters.length) = some 3 := ⟨kq6_172, kqp_61, kq1_5, kq6_173, by decide +kernel, by decide +kernel, by decide +kernel⟩
theorem kc_X6_chosenBy : Cond.instanceMethod yX6_chosenBy ∈ lw_g ∧ Cond.selects yX6_chosenBy.cls yX6_chosenBy yX6_chosenBy ∈ lw_g ∧ Cond.initialized yX6_chosenBy.cls ∈ lw_g ∧ Cond.code yX6_chosenBy cX6_chosenBy 8 (some .int) ∈ lw_g ∧ yX6_chosenBy.cls ≠ "java/lang/invoke/MethodHandle" ∧ yX6_chosenBy.cls ≠ "java/lang/invoke/VarHandle" ∧ (parseMethodDescriptor yX6_chosenBy.desc).map (fun d => d.parameters.length) = some 2 := ⟨kq6_164, kqp_59, kq1_5, kq6_165, by decide +kernel, by decide +kernel, by decide +kernel⟩
theorem kc_X6_assembledNow : Cond.instanceMethod yX6_assembledNow ∈ lw_g ∧ Cond.selects yX6_assembledNow.cls yX6_assembledNow yX6_assembledNow ∈ lw_g ∧ Cond.initialized yX6_assembledNow.cls ∈ lw_g ∧ Cond.code yX6_assembledNow cX6_assembledNow 4 (some .int) ∈ lw_g ∧ yX6_assembledNow.cls ≠ "java/lang/invoke/MethodHandle" ∧ yX6_assembledNow.cls ≠ "java/lang/invoke/VarHandle" ∧ (parseMethodDescriptor yX6_assembledNow.desc).map (fun d => d.parameters.length) = some 0 := ⟨kq6_160, kqp_58, kq1_5, kq6_161, by decide +kernel, by decide +kernel, by decide +kernel⟩
theorem kc_X6_assembled : Cond.instanceMethod yX6_assembled ∈ lw_g ∧ Cond.selects yX6_assembled.cls yX6_assembled yX6_assembled ∈ lw_g ∧ Cond.initialized yX6_assembled.cls ∈ lw_g ∧ Cond.code yX6_assembled cX6_assembled 1 (some .int) ∈ lw_g ∧ yX6_assembled.cls ≠ "java/lang/invoke/MethodHandle" ∧ yX6_assembled.cls ≠ "java/lang/invoke/VarHandle" ∧ (parseMethodDescriptor yX6_assembled.desc).map (fun d => d.parameters.length) = some 0 := ⟨kq6_155, kq6_156, kq1_5, kq6_157, by decide +kernel, by decide +kernel, by decide +kernel⟩
theorem kc_X6_dissenting : Cond.instanceMethod yX6_dissenting ∈ lw_g ∧ Cond.selects yX6_dissenting.cls yX6_dissenting yX6_dissenting ∈ lw_g ∧ Cond.initialized yX6_dissenting.cls ∈ lw_g ∧ Cond.code yX6_dissenting cX6_dissenting 5 (some .int) ∈ lw_g ∧ yX6_dissenting.cls ≠ "java/lang/invoke/MethodHandle" ∧ yX6_dissenting.cls ≠ "java/lang/invoke/VarHandle" ∧ (parseMethodDescriptor yX6_dissenting.desc).map (fun d => d.parameters.length) = some 0 := ⟨kq6_175, kq6_176, kq1_5, kq6_177, by decide +kernel, by decide +kernel, by decide +kernel⟩
theorem kc_X6_fix : Cond.instanceMethod yX6_fix ∈ lw_g ∧ Cond.selects yX6_fix.cls yX6_fix yX6_fix ∈ lw_g ∧ Cond.initialized yX6_fix.cls ∈ lw_g ∧ Cond.code yX6_fix cX6_fix 3 (some .int) ∈ lw_g ∧ yX6_fix.cls ≠ "java/lang/invoke/MethodHandle" ∧ yX6_fix.cls ≠ "java/lang/invoke/VarHandle" ∧ (parseMethodDescriptor yX6_fix.desc).map (fun d => d.parameters.length) = some 2 := ⟨kq6_179, kq6_180, kq1_5, kq6_181, by decide +kernel, by decide +kernel, by decide +kernel⟩
theorem kc_X6_clock : Cond.instanceMethod yX6_clock ∈ lw_g ∧ Cond.selects yX6_clock.cls yX6_clock yX6_clock ∈ lw_g ∧ Cond.initialized yX6_clock.cls ∈ lw_g ∧ Cond.code yX6_clock cX6_clock 4 (some .long) ∈ lw_g ∧ yX6_clock.cls ≠ "java/lang/invoke/MethodHandle" ∧ yX6_clock.cls ≠ "java/lang/invoke/VarHandle" ∧ (parseMethodDescriptor yX6_clock.desc).map (fun d => d.parameters.length) = some 1 := ⟨kq6_183, kq6_184, kq1_5, kq6_185, by decide +kernel, by decide +kernel, by decide +kernel⟩
theorem kc_X6_estimated : Cond.instanceMethod yX6_estimated ∈ lw_g ∧ Cond.selects yX6_estimated.cls yX6_estimated yX6_estimated ∈ lw_g ∧ Cond.initialized yX6_estimated.cls ∈ lw_g ∧ Cond.code yX6_estimated cX6_estimated 5 (some .long) ∈ lw_g ∧ yX6_estimated.cls ≠ "java/lang/invoke/MethodHandle" ∧ yX6_estimated.cls ≠ "java/lang/invoke/VarHandle" ∧ (parseMethodDescriptor yX6_estimated.desc).map (fun d => d.parameters.length) = some 0 := ⟨kq6_198, kqp_62, kq1_5, kq6_199, by decide +kernel, by decide +kernel, by decide +kernel⟩
theorem kc_X6_estimate : Cond.instanceMethod yX6_estimate ∈ lw_g ∧ Cond.selects yX6_estimate.cls yX6_estimate yX6_estimate ∈ lw_g ∧ Cond.initialized yX6_estimate.cls ∈ lw_g ∧ Cond.code yX6_estimate cX6_estimate 1 (some .long) ∈ lw_g ∧ yX6_estimate.cls ≠ "java/lang/invoke/MethodHandle" ∧ yX6_estimate.cls ≠ "java/lang/invoke/VarHandle" ∧ (parseMethodDescriptor yX6_estimate.desc).map (fun d => d.parameters.length) = some 0 := ⟨kq6_193, kq6_194, kq1_5, kq6_195, by decide +kernel, by decide +kernel, by decide +kernel⟩
theorem kc_X6_set : Cond.instanceMethod yX6_set ∈ lw_g ∧ Cond.selects yX6_set.cls yX6_set yX6_set ∈ lw_g ∧ Cond.initialized yX6_set.cls ∈ lw_g ∧ Cond.code yX6_set cX6_set 3 (some .int) ∈ lw_g ∧ yX6_set.cls ≠ "java/lang/invoke/MethodHandle" ∧ yX6_set.cls ≠ "java/lang/invoke/VarHandle" ∧ (parseMethodDescriptor yX6_set.desc).map (fun d => d.parameters.length) = some 2 := ⟨kq6_201, kq6_202, kq1_5, kq6_203, by decide +kernel, by decide +kernel, by decide +kernel⟩
theorem kc_X6_discipline : Cond.instanceMethod yX6_discipline ∈ lw_g ∧ Cond.selects yX6_discipline.cls yX6_discipline yX6_discipline ∈ lw_g ∧ Cond.initialized yX6_discipline.cls ∈ lw_g ∧ Cond.code yX6_discipline cX6_discipline 1 (some .int) ∈ lw_g ∧ yX6_discipline.cls ≠ "java/lang/invoke/MethodHandle" ∧ yX6_discipline.cls ≠ "java/lang/invoke/VarHandle" ∧ (parseMethodDescriptor yX6_discipline.desc).map (fun d => d.parameters.length) = some 0 := ⟨kq6_206, kq6_207, kq1_5, kq6_208, by decide +kernel, by decide +kernel, by decide +kernel⟩
theorem kc_X6_forget : Cond.instanceMethod yX6_forget ∈ lw_g ∧ Cond.selects yX6_forget.cls yX6_forget yX6_forget ∈ lw_g ∧ Cond.initialized yX6_forget.cls ∈ lw_g ∧ Cond.code yX6_forget cX6_forget 2 (some .int) ∈ lw_g ∧ yX6_forget.cls ≠ "java/lang/invoke/MethodHandle" ∧ yX6_forget.cls ≠ "java/lang/invoke/VarHandle" ∧ (parseMethodDescriptor yX6_forget.desc).map (fun d => d.parameters.length) = some 0 := ⟨kq6_211, kq6_212, kq1_5, kq6_213, by decide +kernel, by decide +kernel, by decide +kernel⟩
theorem kc_X6_says : Cond.instanceMethod yX6_says ∈ lw_g ∧ Cond.selects yX6_says.cls yX6_says yX6_says ∈ lw_g ∧ Cond.initialized yX6_says.cls ∈ lw_g ∧ Cond.code yX6_says cX6_says 2 none ∈ lw_g ∧ yX6_says.cls ≠ "java/lang/invoke/MethodHandle" ∧ yX6_says.cls ≠ "java/lang/invoke/VarHandle" ∧ (parseMethodDescriptor yX6_says.desc).map (fun d => d.parameters.length) = some 1 := ⟨kq6_224, kqp_64, kq1_5, kq6_225, by decide +kernel, by decide +kernel, by decide +kernel⟩
theorem kc_X6_saysTwo : Cond.instanceMethod yX6_saysTwo ∈ lw_g ∧ Cond.selects yX6_saysTwo.cls yX6_saysTwo yX6_saysTwo ∈ lw_g ∧ Cond.initialized yX6_saysTwo.cls ∈ lw_g ∧ Cond.code yX6_saysTwo cX6_saysTwo 2 none ∈ lw_g ∧ yX6_saysTwo.cls ≠ "java/lang/invoke/MethodHandle" ∧ yX6_saysTwo.cls ≠ "java/lang/invoke/VarHandle" ∧ (parseMethodDescriptor yX6_saysTwo.desc).map (fun d => d.parameters.length) = some 1 := ⟨kq6_220, kqp_63, kq1_5, kq6_221, by decide +kernel, by decide +kernel, by decide +kernel⟩
theorem kc_X6_writeTime : Cond.instanceMethod yX6_writeTime ∈ lw_g ∧ Cond.selects yX6_writeTime.cls yX6_writeTime yX6_writeTime ∈ lw_g ∧ Cond.initialized yX6_writeTime.cls ∈ lw_g ∧ Cond.code yX6_writeTime cX6_writeTime 2 (some .int) ∈ lw_g ∧ yX6_writeTime.cls ≠ "java/lang/invoke/MethodHandle" ∧ yX6_writeTime.cls ≠ "java/lang/invoke/VarHandle" ∧ (parseMethodDescriptor yX6_writeTime.desc).map (fun d => d.parameters.length) = some 1 := ⟨kq6_215, kq6_216, kq1_5, kq6_217, by decide +kernel, by decide +kernel, by decide +kernel⟩
theorem kc_X6_writtenByte : Cond.instanceMethod yX6_writtenByte ∈ lw_g ∧ Cond.selects yX6_writtenByte.cls yX6_writtenByte yX6_writtenByte ∈ lw_g ∧ Cond.initialized yX6_writtenByte.cls ∈ lw_g ∧ Cond.code yX6_writtenByte cX6_writtenByte 2 (some .int) ∈ lw_g ∧ yX6_writtenByte.cls ≠ "java/lang/invoke/MethodHandle" ∧ yX6_writtenByte.cls ≠ "java/lang/invoke/VarHandle" ∧ (parseMethodDescriptor yX6_writtenByte.desc).map (fun d => d.parameters.length) = some 1 := ⟨kq6_227, kq6_228, kq1_5, kq6_229, by decide +kernel, by decide +kernel, by decide +kernel⟩
set_option maxRecDepth 100000 in
set_option maxHeartbeats 4000000 in
theorem c_X6_hear {l : Launch} {G : Gp} {sz N : Nat} {x1 : Int32} {x2 : Bool} {x3 : Int64} {h0 : Nat} {a0 : Nat → Nat} {u0 : Ob} {q : Int32 × Ob} (hf : f_X6_hear N x1 x2 x3 u0 = some q) : Met l yX6_hear (Cond.code yX6_hear cX6_hear 5 (some .int) :: lw_g) ({ frames := 11, cells := 0, slots := 0, locals := 284 } : Room) (va_Pc [.ref h0, .int x1, .int (bI x2), .long x3] (pw G (wX6 G h0 a0 u0) sz)) (va_Qi (fun (r : Int32) (v : Ob) => q.1 = r ∧ q.2 = v) (bw G (fun v : Ob => (wX6 G h0 a0 v)) (va_A (wX6 G h0 a0 u0) sz)) (va_A (wX6 G h0 a0 u0) sz)) 0 0 (va_A (wX6 G h0 a0 u0) sz) := by
  refine mt (Qc := (fun A => va_Qi (fun (r : Int32) (v : Ob) => q.1 = r ∧ q.2 = v) (bw G (fun v : Ob => (wX6 G h0 a0 v)) A) A)) (by decide) (Nat.le_of_ble_eq_true rfl) ?_
  intro p e s m below meth c A ls hx hb hr hlk hml hts hown hA hP hK hD hE hS hl
  have hown : s.vm.findClass RX6 = some m.cls := hown
  have hg : ∀ w ∈ lw_g, w.before ([.ref h0, .int x1, .int (bI x2), .long x3] : List Value).toArray s = true := fun w h => hts w (List.mem_cons_of_mem _ h)
  have hC : CallFix p m c cX6_hear 5 s ([.ref h0, .int x1, .int (bI x2), .long x3] : List Value).toArray (Cond.code yX6_hear cX6_hear 5 (some .int) :: lw_g) RX6 := ⟨hx, hb, hml, hown, hts⟩
  have hl : lv_has ls 5 [(0, .ref h0), (1, .int x1), (2, .int (bI x2)), (3, .long x3)] := hl
  rw [f_X6_hear] at hf
  refine lv_aload_n hx hb dX6_hear_0 rfl (lv_at hl 0 rfl) ?_
  refine lv_iload_n hx hb dX6_hear_1 rfl (lv_at hl 1 rfl) ?_
  refine lv_i2l (v := x1.toInt64) hx hb dX6_hear_2 rfl ?_
  obtain ⟨q1, e2, hf⟩ := tbd hf
  refine kSi0 (As := [.long x1.toInt64]) (rest := [.ref h0]) hC (c_X6_isMinute (G := G) e2) kq5_99 kc_X6_isMinute (by decide) hP hK hD hE hS hA hl.1 (Nat.le_of_ble_eq_true rfl) ⟨Nat.zero_le _, Nat.zero_le _⟩ dX6_hear_3 (fun r9 u9 H locs hw hP hD hS => ?_)
  obtain ⟨rfl, rfl⟩ := hw
  refine bz_ne (tgt := 13) hx hb dX6_hear_6 (by decide) (fun c3 => ?_) (fun c3 => ?_)
  · have hf := tp hf c3
    refine lv_aload_n hx hb dX6_hear_13 rfl (lv_at hl 0 rfl) ?_
    obtain ⟨q4, e5, hf⟩ := tbd hf
    refine kVi1 (As := []) (rest := [.ref h0]) hC (c_X6_canHear (G := G) e5) kq6_70 kc_X6_canHear (by decide) 0 (ci := 4) rfl rfl hP hK hD hE hS hA hl.1 (Nat.le_of_ble_eq_true rfl) ⟨Nat.zero_le _, Nat.zero_le _⟩ dX6_hear_14 (fun r9 u9 H locs hw hP hD hS => ?_)
    obtain ⟨rfl, rfl⟩ := hw
    have hP : va_P (gD G) vwCl (wX6 G h0 a0 u0) H := hP
    have hD : va_D A (wX6 G h0 a0 u0) := hD
    refine bz_eq (tgt := 24) hx hb dX6_hear_17 (by decide) (fun c6 => ?_) (fun c6 => ?_)
    · have hf := tn hf c6
      refine lv_iconst (v := (2 : Int32)) hx hb dX6_hear_24 (by decide) ?_
      refine va_put (D := gD G) (ci := 4) (v := .int (2 : Int32)) (ty := .int) (C := RX6) (T := TX6) (N := 22) hx hb hg kl_X6 tyX6 tyX6_ok nmX6 hown hK hP hD hS 0 rfl rfl 7 (by decide) (hg _ kq5_12) (fun _ h9 => h9) rfl (by decide +kernel) rfl rfl (Nat.le_of_ble_eq_true rfl) dX6_hear_25 (fun H locs hP hD hS => ?_)
      have hP : va_P (gD G) vwCl (wX6 G h0 a0 (oi u0 7 (2 : Int32))) H := hP
      have hD : va_D A (wX6 G h0 a0 (oi u0 7 (2 : Int32))) := hD
      refine lv_aload_n hx hb dX6_hear_28 rfl (lv_at hl 0 rfl) ?_
      refine va_get (D := gD G) (ci := 4) (v := .int (2 : Int32)) (C := RX6) (T := TX6) (N := 22) hx hb hg kl_X6 hown hK hP 0 rfl rfl 7 (by decide) (hg _ kq5_12) (fun _ h9 => h9) rfl dX6_hear_29 ?_
      refine lv_if_le (tgt := 37) hx hb dX6_hear_32 (by decide) (fun c7 => ?_) (fun c7 => ?_)
      · exact absurd c7 (by decide)
      refine lv_iconst (v := (0 : Int32)) hx hb dX6_hear_35 (by decide) ?_
      have hf := Option.some.inj hf
      subst hf
      exact e_i (wf := (fun v : Ob => (wX6 G h0 a0 v))) hx hb hr hlk (oi u0 7 (2 : Int32)) ⟨rfl, rfl⟩ hP hK hD hS dX6_hear_36
    · have hf := tp hf c6
      refine lv_iconst (v := (0 : Int32)) hx hb dX6_hear_20 (by decide) ?_
      refine lv_goto (tgt := 25) hx hb dX6_hear_21 (by decide) ?_
      refine va_put (D := gD G) (ci := 4) (v := .int (0 : Int32)) (ty := .int) (C := RX6) (T := TX6) (N := 22) hx hb hg kl_X6 tyX6 tyX6_ok nmX6 hown hK hP hD hS 0 rfl rfl 7 (by decide) (hg _ kq5_12) (fun _ h9 => h9) rfl (by decide +kernel) rfl rfl (Nat.le_of_ble_eq_true rfl) dX6_hear_25 (fun H locs hP hD hS => ?_)
      have hP : va_P (gD G) vwCl (wX6 G h0 a0 (oi u0 7 (0 : Int32))) H := hP
      have hD : va_D A (wX6 G h0 a0 (oi u0 7 (0 : Int32))) := hD
      refine lv_aload_n hx hb dX6_hear_28 rfl (lv_at hl 0 rfl) ?_
      refine va_get (D := gD G) (ci := 4) (v := .int (0 : Int32)) (C := RX6) (T := TX6) (N := 22) hx hb hg kl_X6 hown hK hP 0 rfl rfl 7 (by decide) (hg _ kq5_12) (fun _ h9 => h9) rfl dX6_hear_29 ?_
      refine lv_if_le (tgt := 37) hx hb dX6_hear_32 (by decide) (fun c8 => ?_) (fun c8 => ?_)
      rotate_left
      · exact absurd c8 (by decide)
      refine lv_aload_n hx hb dX6_hear_37 rfl (lv_at hl 0 rfl) ?_
      obtain ⟨q9, e10, hf⟩ := tbd hf
      refine kVv1 (As := []) (rest := []) hC (c_X6_keeps (G := G) e10) kq5_91 kc_X6_keeps (by decide) 0 (ci := 4) rfl rfl hP hK hD hE hS hA hl.1 (Nat.le_of_ble_eq_true rfl) ⟨Nat.zero_le _, Nat.zero_le _⟩ dX6_hear_38 (fun u9 H locs hw hP hD hS => ?_)
      obtain rfl := hw
      have hP : va_P (gD G) vwCl (wX6 G h0 a0 q9) H := hP
      have hD : va_D A (wX6 G h0 a0 q9) := hD
      refine lv_aload_n hx hb dX6_hear_41 rfl (lv_at hl 0 rfl) ?_
      refine lv_iload_n hx hb dX6_hear_42 rfl (lv_at hl 1 rfl) ?_
      refine lv_iload_n hx hb dX6_hear_43 rfl (lv_at hl 2 rfl) ?_
      refine lv_lload_n hx hb dX6_hear_44 rfl (lv_at hl 3 rfl) ?_
      obtain ⟨q11, e12, hf⟩ := tbd hf
      refine kVi1 (As := [.int x1, .int (bI x2), .long x3]) (rest := []) hC (c_X6_hears (G := G) e12) kq6_82 kc_X6_hears (by decide) 0 (ci := 4) rfl rfl hP hK hD hE hS hA hl.1 (Nat.le_of_ble_eq_true rfl) ⟨Nat.zero_le _, Nat.zero_le _⟩ dX6_hear_45 (fun r9 u9 H locs hw hP hD hS => ?_)
      obtain ⟨rfl, rfl⟩ := hw
      have hP : va_P (gD G) vwCl (wX6 G h0 a0 q11.2) H := hP
      have hD : va_D A (wX6 G h0 a0 q11.2) := hD
      have hf := Option.some.inj hf
      subst hf
      exact e_i (wf := (fun v : Ob => (wX6 G h0 a0 v))) hx hb hr hlk q11.2 ⟨rfl, rfl⟩ hP hK hD hS dX6_hear_48
  · have hf := tn hf c3
    refine lv_iconst (v := (1 : Int32)) hx hb dX6_hear_9 (by decide) ?_
    refine lv_goto (tgt := 25) hx hb dX6_hear_10 (by decide) ?_
    refine va_put (D := gD G) (ci := 4) (v := .int (1 : Int32)) (ty := .int) (C := RX6) (T := TX6) (N := 22) hx hb hg kl_X6 tyX6 tyX6_ok nmX6 hown hK hP hD hS 0 rfl rfl 7 (by decide) (hg _ kq5_12) (fun _ h9 => h9) rfl (by decide +kernel) rfl rfl (Nat.le_of_ble_eq_true rfl) dX6_hear_25 (fun H locs hP hD hS => ?_)
    have hP : va_P (gD G) vwCl (wX6 G h0 a0 (oi u0 7 (1 : Int32))) H := hP
    have hD : va_D A (wX6 G h0 a0 (oi u0 7 (1 : Int32))) := hD
    refine lv_aload_n hx hb dX6_hear_28 rfl (lv_at hl 0 rfl) ?_
    refine va_get (D := gD G) (ci := 4) (v := .int (1 : Int32)) (C := RX6) (T := TX6) (N := 22) hx hb hg kl_X6 hown hK hP 0 rfl rfl 7 (by decide) (hg _ kq5_12) (fun _ h9 => h9) rfl dX6_hear_29 ?_
    refine lv_if_le (tgt := 37) hx hb dX6_hear_32 (by decide) (fun c13 => ?_) (fun c13 => ?_)
    · exact absurd c13 (by decide)
    refine lv_iconst (v := (0 : Int32)) hx hb dX6_hear_35 (by decide) ?_
    have hf := Option.some.inj hf
    subst hf
    exact e_i (wf := (fun v : Ob => (wX6 G h0 a0 v))) hx hb hr hlk (oi u0 7 (1 : Int32)) ⟨rfl, rfl⟩ hP hK hD hS dX6_hear_36
set_option maxRecDepth 100000 in
set_option maxHeartbeats 4000000 in
theorem c_X6_bitOf {l : Launch} {G : Gp} {sz N : Nat} {x0 : Int64} {x2 : Int64} {x4 : Int32} {q : Int32} (hf : f_X6_bitOf N x0 x2 x4 = some q) : Met l yX6_bitOf (Cond.code yX6_bitOf cX6_bitOf 5 (some .int) :: lw_g) ({ frames := 1, cells := 0, slots := 0, locals := 22 } : Room) (va_Pc [.long x0, .long x2, .int x4] (pw G [] sz)) (va_Qi (fun (r : Int32) (v : Unit) => q = r ∧ () = v) (bw G (fun _ : Unit => ([] : va_W)) (va_A [] sz)) (va_A [] sz)) 0 0 (va_A [] sz) := by
  refine mt (Qc := (fun A => va_Qi (fun (r : Int32) (v : Unit) => q = r ∧ () = v) (bw G (fun _ : Unit => ([] : va_W)) A) A)) (by decide) (Nat.le_of_ble_eq_true rfl) ?_
  intro p e s m below meth c A ls hx hb hr hlk hml hts hown hA hP hK hD hE hS hl
  have hown : s.vm.findClass RX6 = some m.cls := hown
  have hg : ∀ w ∈ lw_g, w.before ([.long x0, .long x2, .int x4] : List Value).toArray s = true := fun w h => hts w (List.mem_cons_of_mem _ h)
  have hC : CallFix p m c cX6_bitOf 5 s ([.long x0, .long x2, .int x4] : List Value).toArray (Cond.code yX6_bitOf cX6_bitOf 5 (some .int) :: lw_g) RX6 := ⟨hx, hb, hml, hown, hts⟩
  have hl : lv_has ls 5 [(0, .long x0), (2, .long x2), (4, .int x4)] := hl
  rw [f_X6_bitOf] at hf
  refine lv_lload_n hx hb dX6_bitOf_0 rfl (lv_at hl 1 rfl) ?_
  refine lv_iload hx hb dX6_bitOf_1 (lv_at hl 2 rfl) ?_
  obtain ⟨q1, e2, hf⟩ := tbd hf
  refine kSi0 (As := [.long x2, .int x4]) (rest := []) hC (c_X6_has (G := G) e2) kq5_145 kc_X6_has (by decide) hP hK hD hE hS hA hl.1 (Nat.le_of_ble_eq_true rfl) ⟨Nat.zero_le _, Nat.zero_le _⟩ dX6_bitOf_3 (fun r9 u9 H locs hw hP hD hS => ?_)
  obtain ⟨rfl, rfl⟩ := hw
  refine bz_eq (tgt := 13) hx hb dX6_bitOf_6 (by decide) (fun c3 => ?_) (fun c3 => ?_)
  · have hf := tn hf c3
    refine lv_lload_n hx hb dX6_bitOf_13 rfl (lv_at hl 0 rfl) ?_
    refine lv_iload hx hb dX6_bitOf_14 (lv_at hl 2 rfl) ?_
    obtain ⟨q4, e5, hf⟩ := tbd hf
    refine kSi0 (As := [.long x0, .int x4]) (rest := []) hC (c_X6_has (G := G) e5) kq5_145 kc_X6_has (by decide) hP hK hD hE hS hA hl.1 (Nat.le_of_ble_eq_true rfl) ⟨Nat.zero_le _, Nat.zero_le _⟩ dX6_bitOf_16 (fun r9 u9 H locs hw hP hD hS => ?_)
    obtain ⟨rfl, rfl⟩ := hw
    refine bz_eq (tgt := 26) hx hb dX6_bitOf_19 (by decide) (fun c6 => ?_) (fun c6 => ?_)
    · have hf := tn hf c6
      refine lv_iconst (v := (0 : Int32)) hx hb dX6_bitOf_26 (by decide) ?_
      have hf := Option.some.inj hf
      subst hf
      exact e_i (wf := (fun _ : Unit => ([] : va_W))) hx hb hr hlk () ⟨rfl, rfl⟩ hP hK hD hS dX6_bitOf_27
    · have hf := tp hf c6
      refine lv_iconst (v := (1 : Int32)) hx hb dX6_bitOf_22 (by decide) ?_
      refine lv_goto (tgt := 27) hx hb dX6_bitOf_23 (by decide) ?_
      have hf := Option.some.inj hf
      subst hf
      exact e_i (wf := (fun _ : Unit => ([] : va_W))) hx hb hr hlk () ⟨rfl, rfl⟩ hP hK hD hS dX6_bitOf_27
  · have hf := tp hf c3
    refine lv_iconst (v := (2 : Int32)) hx hb dX6_bitOf_9 (by decide) ?_
    refine lv_goto (tgt := 27) hx hb dX6_bitOf_10 (by decide) ?_
    have hf := Option.some.inj hf
    subst hf
    exact e_i (wf := (fun _ : Unit => ([] : va_W))) hx hb hr hlk () ⟨rfl, rfl⟩ hP hK hD hS dX6_bitOf_27
set_option maxRecDepth 100000 in
set_option maxHeartbeats 4000000 in
theorem c_X6_bit {l : Launch} {G : Gp} {sz N : Nat} {x1 : Int32} {h0 : Nat} {a0 : Nat → Nat} {u0 : Ob} {q : Int32 × Ob} (hf : f_X6_bit N x1 u0 = some q) : Met l yX6_bit (Cond.code yX6_bit cX6_bit 2 (some .int) :: lw_g) ({ frames := 2, cells := 0, slots := 0, locals := 46 } : Room) (va_Pc [.ref h0, .int x1] (pw G (wX6 G h0 a0 u0) sz)) (va_Qi (fun (r : Int32) (v : Ob) => q.1 = r ∧ q.2 = v) (bw G (fun v : Ob => (wX6 G h0 a0 v)) (va_A (wX6 G h0 a0 u0) sz)) (va_A (wX6 G h0 a0 u0) sz)) 0 0 (va_A (wX6 G h0 a0 u0) sz) := by
  refine mt (Qc := (fun A => va_Qi (fun (r : Int32) (v : Ob) => q.1 = r ∧ q.2 = v) (bw G (fun v : Ob => (wX6 G h0 a0 v)) A) A)) (by decide) (Nat.le_of_ble_eq_true rfl) ?_
  intro p e s m below meth c A ls hx hb hr hlk hml hts hown hA hP hK hD hE hS hl
  have hown : s.vm.findClass RX6 = some m.cls := hown
  have hg : ∀ w ∈ lw_g, w.before ([.ref h0, .int x1] : List Value).toArray s = true := fun w h => hts w (List.mem_cons_of_mem _ h)
  have hC : CallFix p m c cX6_bit 2 s ([.ref h0, .int x1] : List Value).toArray (Cond.code yX6_bit cX6_bit 2 (some .int) :: lw_g) RX6 := ⟨hx, hb, hml, hown, hts⟩
  have hl : lv_has ls 2 [(0, .ref h0), (1, .int x1)] := hl
  rw [f_X6_bit] at hf
  refine lv_aload_n hx hb dX6_bit_0 rfl (lv_at hl 0 rfl) ?_
  refine lv_iload_n hx hb dX6_bit_1 rfl (lv_at hl 1 rfl) ?_
  refine lv_i2l (v := x1.toInt64) hx hb dX6_bit_2 rfl ?_
  refine lv_lconst (v := (0 : Int64)) hx hb dX6_bit_3 (by decide) ?_
  refine lv_aload_n hx hb dX6_bit_4 rfl (lv_at hl 0 rfl) ?_
  refine va_get (D := gD G) (ci := 4) (v := .ref (a0 0)) (C := RX6) (T := TX6) (N := 22) hx hb hg kl_X6 hown hK hP 0 rfl rfl 0 (by decide) (hg _ kq5_5) (fun _ h9 => h9) rfl dX6_bit_5 ?_
  refine lv_iconst (v := (5 : Int32)) hx hb dX6_bit_8 (by decide) ?_
  refine va_lald (f := (u0.2.2.2 0)) hx hb hK hP 1 2 rfl rfl (vin (by decide)) dX6_bit_9 ?_
  obtain ⟨q1, e2, hf⟩ := tbd hf
  refine kSi0 (As := [.long x1.toInt64, .long (0 : Int64), .long ((u0.2.2.2 0) (5 : Int32).toNatClampNeg)]) (rest := [.ref h0]) hC (c_X6_isIn (G := G) e2) kq5_84 kc_X6_isIn (by decide) hP hK hD hE hS hA hl.1 (Nat.le_of_ble_eq_true rfl) ⟨Nat.zero_le _, Nat.zero_le _⟩ dX6_bit_10 (fun r9 u9 H locs hw hP hD hS => ?_)
  obtain ⟨rfl, rfl⟩ := hw
  refine bz_eq (tgt := 26) hx hb dX6_bit_13 (by decide) (fun c3 => ?_) (fun c3 => ?_)
  · have hf := tn hf c3
    refine lv_iconst (v := (1 : Int32)) hx hb dX6_bit_26 (by decide) ?_
    refine va_put (D := gD G) (ci := 4) (v := .int (1 : Int32)) (ty := .int) (C := RX6) (T := TX6) (N := 22) hx hb hg kl_X6 tyX6 tyX6_ok nmX6 hown hK hP hD hS 0 rfl rfl 7 (by decide) (hg _ kq5_12) (fun _ h9 => h9) rfl (by decide +kernel) rfl rfl (Nat.le_of_ble_eq_true rfl) dX6_bit_27 (fun H locs hP hD hS => ?_)
    have hP : va_P (gD G) vwCl (wX6 G h0 a0 (oi u0 7 (1 : Int32))) H := hP
    have hD : va_D A (wX6 G h0 a0 (oi u0 7 (1 : Int32))) := hD
    refine lv_aload_n hx hb dX6_bit_30 rfl (lv_at hl 0 rfl) ?_
    refine va_get (D := gD G) (ci := 4) (v := .int (1 : Int32)) (C := RX6) (T := TX6) (N := 22) hx hb hg kl_X6 hown hK hP 0 rfl rfl 7 (by decide) (hg _ kq5_12) (fun _ h9 => h9) rfl dX6_bit_31 ?_
    refine lv_if_le (tgt := 41) hx hb dX6_bit_34 (by decide) (fun c4 => ?_) (fun c4 => ?_)
    · exact absurd c4 (by decide)
    refine lv_iconst (v := (0 : Int32)) hx hb dX6_bit_37 (by decide) ?_
    refine lv_goto (tgt := 59) hx hb dX6_bit_38 (by decide) ?_
    have hf := Option.some.inj hf
    subst hf
    exact e_i (wf := (fun v : Ob => (wX6 G h0 a0 v))) hx hb hr hlk (oi u0 7 (1 : Int32)) ⟨rfl, rfl⟩ hP hK hD hS dX6_bit_59
  · have hf := tp hf c3
    refine lv_iload_n hx hb dX6_bit_16 rfl (lv_at hl 1 rfl) ?_
    refine lv_bipush (v := (59 : Int32)) hx hb dX6_bit_17 (by decide) ?_
    refine lv_icmp_ge (tgt := 26) hx hb dX6_bit_19 (by decide) (fun c5 => ?_) (fun c5 => ?_)
    · have hf := tp hf c5
      refine lv_iconst (v := (1 : Int32)) hx hb dX6_bit_26 (by decide) ?_
      refine va_put (D := gD G) (ci := 4) (v := .int (1 : Int32)) (ty := .int) (C := RX6) (T := TX6) (N := 22) hx hb hg kl_X6 tyX6 tyX6_ok nmX6 hown hK hP hD hS 0 rfl rfl 7 (by decide) (hg _ kq5_12) (fun _ h9 => h9) rfl (by decide +kernel) rfl rfl (Nat.le_of_ble_eq_true rfl) dX6_bit_27 (fun H locs hP hD hS => ?_)
      have hP : va_P (gD G) vwCl (wX6 G h0 a0 (oi u0 7 (1 : Int32))) H := hP
      have hD : va_D A (wX6 G h0 a0 (oi u0 7 (1 : Int32))) := hD
      refine lv_aload_n hx hb dX6_bit_30 rfl (lv_at hl 0 rfl) ?_
      refine va_get (D := gD G) (ci := 4) (v := .int (1 : Int32)) (C := RX6) (T := TX6) (N := 22) hx hb hg kl_X6 hown hK hP 0 rfl rfl 7 (by decide) (hg _ kq5_12) (fun _ h9 => h9) rfl dX6_bit_31 ?_
      refine lv_if_le (tgt := 41) hx hb dX6_bit_34 (by decide) (fun c6 => ?_) (fun c6 => ?_)
      · exact absurd c6 (by decide)
      refine lv_iconst (v := (0 : Int32)) hx hb dX6_bit_37 (by decide) ?_
      refine lv_goto (tgt := 59) hx hb dX6_bit_38 (by decide) ?_
      have hf := Option.some.inj hf
      subst hf
      exact e_i (wf := (fun v : Ob => (wX6 G h0 a0 v))) hx hb hr hlk (oi u0 7 (1 : Int32)) ⟨rfl, rfl⟩ hP hK hD hS dX6_bit_59
    · have hf := tn hf c5
      refine lv_iconst (v := (0 : Int32)) hx hb dX6_bit_22 (by decide) ?_
      refine lv_goto (tgt := 27) hx hb dX6_bit_23 (by decide) ?_
      refine va_put (D := gD G) (ci := 4) (v := .int (0 : Int32)) (ty := .int) (C := RX6) (T := TX6) (N := 22) hx hb hg kl_X6 tyX6 tyX6_ok nmX6 hown hK hP hD hS 0 rfl rfl 7 (by decide) (hg _ kq5_12) (fun _ h9 => h9) rfl (by decide +kernel) rfl rfl (Nat.le_of_ble_eq_true rfl) dX6_bit_27 (fun H locs hP hD hS => ?_)
      have hP : va_P (gD G) vwCl (wX6 G h0 a0 (oi u0 7 (0 : Int32))) H := hP
      have hD : va_D A (wX6 G h0 a0 (oi u0 7 (0 : Int32))) := hD
      refine lv_aload_n hx hb dX6_bit_30 rfl (lv_at hl 0 rfl) ?_
      refine va_get (D := gD G) (ci := 4) (v := .int (0 : Int32)) (C := RX6) (T := TX6) (N := 22) hx hb hg kl_X6 hown hK hP 0 rfl rfl 7 (by decide) (hg _ kq5_12) (fun _ h9 => h9) rfl dX6_bit_31 ?_
      refine lv_if_le (tgt := 41) hx hb dX6_bit_34 (by decide) (fun c7 => ?_) (fun c7 => ?_)
      rotate_left
      · exact absurd c7 (by decide)
      refine lv_aload_n hx hb dX6_bit_41 rfl (lv_at hl 0 rfl) ?_
      refine va_get (D := gD G) (ci := 4) (v := .ref (a0 0)) (C := RX6) (T := TX6) (N := 22) hx hb hg kl_X6 hown hK hP 0 rfl rfl 0 (by decide) (hg _ kq5_5) (fun _ h9 => h9) rfl dX6_bit_42 ?_
      refine lv_bipush (v := (14 : Int32)) hx hb dX6_bit_45 (by decide) ?_
      refine va_lald (f := (u0.2.2.2 0)) hx hb hK hP 1 2 rfl rfl (vin (by decide)) dX6_bit_47 ?_
      refine lv_aload_n hx hb dX6_bit_48 rfl (lv_at hl 0 rfl) ?_
      refine va_get (D := gD G) (ci := 4) (v := .ref (a0 0)) (C := RX6) (T := TX6) (N := 22) hx hb hg kl_X6 hown hK hP 0 rfl rfl 0 (by decide) (hg _ kq5_5) (fun _ h9 => h9) rfl dX6_bit_49 ?_
      refine lv_bipush (v := (15 : Int32)) hx hb dX6_bit_52 (by decide) ?_
      refine va_lald (f := (u0.2.2.2 0)) hx hb hK hP 1 2 rfl rfl (vin (by decide)) dX6_bit_54 ?_
      refine lv_iload_n hx hb dX6_bit_55 rfl (lv_at hl 1 rfl) ?_
      obtain ⟨q8, e9, hf⟩ := tbd hf
      refine kSi0 (As := [.long ((u0.2.2.2 0) (14 : Int32).toNatClampNeg), .long ((u0.2.2.2 0) (15 : Int32).toNatClampNeg), .int x1]) (rest := []) hC (c_X6_bitOf (G := G) e9) kq6_102 kc_X6_bitOf (by decide) hP hK hD hE hS hA hl.1 (Nat.le_of_ble_eq_true rfl) ⟨Nat.zero_le _, Nat.zero_le _⟩ dX6_bit_56 (fun r9 u9 H locs hw hP hD hS => ?_)
      obtain ⟨rfl, rfl⟩ := hw
      have hf := Option.some.inj hf
      subst hf
      exact e_i (wf := (fun v : Ob => (wX6 G h0 a0 v))) hx hb hr hlk (oi u0 7 (0 : Int32)) ⟨rfl, rfl⟩ hP hK hD hS dX6_bit_59
set_option maxRecDepth 100000 in
set_option maxHeartbeats 4000000 in
theorem c_X6_count {l : Launch} {G : Gp} {sz N : Nat} {x1 : Int32} {h0 : Nat} {a0 : Nat → Nat} {u0 : Ob} {q : Int32 × Ob} (hf : f_X6_count N x1 u0 = some q) : Met l yX6_count (Cond.code yX6_count cX6_count 2 (some .int) :: lw_g) ({ frames := 2, cells := 0, slots := 0, locals := 47 } : Room) (va_Pc [.ref h0, .int x1] (pw G (wX6 G h0 a0 u0) sz)) (va_Qi (fun (r : Int32) (v : Ob) => q.1 = r ∧ q.2 = v) (bw G (fun v : Ob => (wX6 G h0 a0 v)) (va_A (wX6 G h0 a0 u0) sz)) (va_A (wX6 G h0 a0 u0) sz)) 0 0 (va_A (wX6 G h0 a0 u0) sz) := by
  refine mt (Qc := (fun A => va_Qi (fun (r : Int32) (v : Ob) => q.1 = r ∧ q.2 = v) (bw G (fun v : Ob => (wX6 G h0 a0 v)) A) A)) (by decide) (Nat.le_of_ble_eq_true rfl) ?_
  intro p e s m below meth c A ls hx hb hr hlk hml hts hown hA hP hK hD hE hS hl
  have hown : s.vm.findClass RX6 = some m.cls := hown
  have hg : ∀ w ∈ lw_g, w.before ([.ref h0, .int x1] : List Value).toArray s = true := fun w h => hts w (List.mem_cons_of_mem _ h)
  have hC : CallFix p m c cX6_count 2 s ([.ref h0, .int x1] : List Value).toArray (Cond.code yX6_count cX6_count 2 (some .int) :: lw_g) RX6 := ⟨hx, hb, hml, hown, hts⟩
  have hl : lv_has ls 2 [(0, .ref h0), (1, .int x1)] := hl
  rw [f_X6_count] at hf
  refine lv_aload_n hx hb dX6_count_0 rfl (lv_at hl 0 rfl) ?_
  refine lv_iload_n hx hb dX6_count_1 rfl (lv_at hl 1 rfl) ?_
  refine lv_i2l (v := x1.toInt64) hx hb dX6_count_2 rfl ?_
  refine lv_lconst (v := (0 : Int64)) hx hb dX6_count_3 (by decide) ?_
  refine lv_ldc2 hx hb hown (hg _ kq6_109) dX6_count_4 ?_
  obtain ⟨q1, e2, hf⟩ := tbd hf
  refine kSi0 (As := [.long x1.toInt64, .long (0 : Int64), .long (13 : Int64)]) (rest := [.ref h0]) hC (c_X6_isIn (G := G) e2) kq5_84 kc_X6_isIn (by decide) hP hK hD hE hS hA hl.1 (Nat.le_of_ble_eq_true rfl) ⟨Nat.zero_le _, Nat.zero_le _⟩ dX6_count_7 (fun r9 u9 H locs hw hP hD hS => ?_)
  obtain ⟨rfl, rfl⟩ := hw
  refine bz_eq (tgt := 17) hx hb dX6_count_10 (by decide) (fun c3 => ?_) (fun c3 => ?_)
  · have hf := tn hf c3
    refine lv_iconst (v := (1 : Int32)) hx hb dX6_count_17 (by decide) ?_
    refine va_put (D := gD G) (ci := 4) (v := .int (1 : Int32)) (ty := .int) (C := RX6) (T := TX6) (N := 22) hx hb hg kl_X6 tyX6 tyX6_ok nmX6 hown hK hP hD hS 0 rfl rfl 7 (by decide) (hg _ kq5_12) (fun _ h9 => h9) rfl (by decide +kernel) rfl rfl (Nat.le_of_ble_eq_true rfl) dX6_count_18 (fun H locs hP hD hS => ?_)
    have hP : va_P (gD G) vwCl (wX6 G h0 a0 (oi u0 7 (1 : Int32))) H := hP
    have hD : va_D A (wX6 G h0 a0 (oi u0 7 (1 : Int32))) := hD
    refine lv_aload_n hx hb dX6_count_21 rfl (lv_at hl 0 rfl) ?_
    refine va_get (D := gD G) (ci := 4) (v := .int (1 : Int32)) (C := RX6) (T := TX6) (N := 22) hx hb hg kl_X6 hown hK hP 0 rfl rfl 7 (by decide) (hg _ kq5_12) (fun _ h9 => h9) rfl dX6_count_22 ?_
    refine lv_if_le (tgt := 30) hx hb dX6_count_25 (by decide) (fun c4 => ?_) (fun c4 => ?_)
    · exact absurd c4 (by decide)
    refine lv_iconst (v := (0 : Int32)) hx hb dX6_count_28 (by decide) ?_
    have hf := Option.some.inj hf
    subst hf
    exact e_i (wf := (fun v : Ob => (wX6 G h0 a0 v))) hx hb hr hlk (oi u0 7 (1 : Int32)) ⟨rfl, rfl⟩ hP hK hD hS dX6_count_29
  · have hf := tp hf c3
    refine lv_iconst (v := (0 : Int32)) hx hb dX6_count_13 (by decide) ?_
    refine lv_goto (tgt := 18) hx hb dX6_count_14 (by decide) ?_
    refine va_put (D := gD G) (ci := 4) (v := .int (0 : Int32)) (ty := .int) (C := RX6) (T := TX6) (N := 22) hx hb hg kl_X6 tyX6 tyX6_ok nmX6 hown hK hP hD hS 0 rfl rfl 7 (by decide) (hg _ kq5_12) (fun _ h9 => h9) rfl (by decide +kernel) rfl rfl (Nat.le_of_ble_eq_true rfl) dX6_count_18 (fun H locs hP hD hS => ?_)
    have hP : va_P (gD G) vwCl (wX6 G h0 a0 (oi u0 7 (0 : Int32))) H := hP
    have hD : va_D A (wX6 G h0 a0 (oi u0 7 (0 : Int32))) := hD
    refine lv_aload_n hx hb dX6_count_21 rfl (lv_at hl 0 rfl) ?_
    refine va_get (D := gD G) (ci := 4) (v := .int (0 : Int32)) (C := RX6) (T := TX6) (N := 22) hx hb hg kl_X6 hown hK hP 0 rfl rfl 7 (by decide) (hg _ kq5_12) (fun _ h9 => h9) rfl dX6_count_22 ?_
    refine lv_if_le (tgt := 30) hx hb dX6_count_25 (by decide) (fun c5 => ?_) (fun c5 => ?_)
    rotate_left
    · exact absurd c5 (by decide)
    refine lv_iload_n hx hb dX6_count_30 rfl (lv_at hl 1 rfl) ?_
    by_cases c6 : x1 = (0 : Int32)
    · have hf := tp hf c6
      refine lv_tableIn (off := 69) (tgt := 100) hx hb dX6_count_31 (by rw [c6]; decide) (by rw [c6]; decide) (by rw [c6]; rfl) (by decide) ?_
      refine lv_aload_n hx hb dX6_count_100 rfl (lv_at hl 0 rfl) ?_
      refine va_get (D := gD G) (ci := 4) (v := .ref (a0 0)) (C := RX6) (T := TX6) (N := 22) hx hb hg kl_X6 hown hK hP 0 rfl rfl 0 (by decide) (hg _ kq5_5) (fun _ h9 => h9) rfl dX6_count_101 ?_
      refine lv_iconst (v := (5 : Int32)) hx hb dX6_count_104 (by decide) ?_
      refine va_lald (f := (u0.2.2.2 0)) hx hb hK hP 1 2 rfl rfl (vin (by decide)) dX6_count_105 ?_
      refine lv_l2i (v := ((u0.2.2.2 0) (5 : Int32).toNatClampNeg).toInt32) hx hb dX6_count_106 rfl ?_
      have hf := Option.some.inj hf
      subst hf
      exact e_i (wf := (fun v : Ob => (wX6 G h0 a0 v))) hx hb hr hlk (oi u0 7 (0 : Int32)) ⟨rfl, rfl⟩ hP hK hD hS dX6_count_107
    have hf := tn hf c6
    by_cases c7 : x1 = (1 : Int32)
    · have hf := tp hf c7
      refine lv_tableIn (off := 77) (tgt := 108) hx hb dX6_count_31 (by rw [c7]; decide) (by rw [c7]; decide) (by rw [c7]; rfl) (by decide) ?_
      refine lv_aload_n hx hb dX6_count_108 rfl (lv_at hl 0 rfl) ?_
      refine va_get (D := gD G) (ci := 4) (v := .ref (a0 0)) (C := RX6) (T := TX6) (N := 22) hx hb hg kl_X6 hown hK hP 0 rfl rfl 0 (by decide) (hg _ kq5_5) (fun _ h9 => h9) rfl dX6_count_109 ?_
      refine lv_bipush (v := (12 : Int32)) hx hb dX6_count_112 (by decide) ?_
      refine va_lald (f := (u0.2.2.2 0)) hx hb hK hP 1 2 rfl rfl (vin (by decide)) dX6_count_114 ?_
      refine lv_l2i (v := ((u0.2.2.2 0) (12 : Int32).toNatClampNeg).toInt32) hx hb dX6_count_115 rfl ?_
      have hf := Option.some.inj hf
      subst hf
      exact e_i (wf := (fun v : Ob => (wX6 G h0 a0 v))) hx hb hr hlk (oi u0 7 (0 : Int32)) ⟨rfl, rfl⟩ hP hK hD hS dX6_count_116
    have hf := tn hf c7
    by_cases c8 : x1 = (2 : Int32)
    · have hf := tp hf c8
      refine lv_tableIn (off := 86) (tgt := 117) hx hb dX6_count_31 (by rw [c8]; decide) (by rw [c8]; decide) (by rw [c8]; rfl) (by decide) ?_
      refine lv_aload_n hx hb dX6_count_117 rfl (lv_at hl 0 rfl) ?_
      refine va_get (D := gD G) (ci := 4) (v := .ref (a0 0)) (C := RX6) (T := TX6) (N := 22) hx hb hg kl_X6 hown hK hP 0 rfl rfl 0 (by decide) (hg _ kq5_5) (fun _ h9 => h9) rfl dX6_count_118 ?_
      refine lv_bipush (v := (9 : Int32)) hx hb dX6_count_121 (by decide) ?_
      refine va_lald (f := (u0.2.2.2 0)) hx hb hK hP 1 2 rfl rfl (vin (by decide)) dX6_count_123 ?_
      refine lv_l2i (v := ((u0.2.2.2 0) (9 : Int32).toNatClampNeg).toInt32) hx hb dX6_count_124 rfl ?_
      have hf := Option.some.inj hf
      subst hf
      exact e_i (wf := (fun v : Ob => (wX6 G h0 a0 v))) hx hb hr hlk (oi u0 7 (0 : Int32)) ⟨rfl, rfl⟩ hP hK hD hS dX6_count_125
    have hf := tn hf c8
    by_cases c9 : x1 = (3 : Int32)
    · have hf := tp hf c9
      refine lv_tableIn (off := 95) (tgt := 126) hx hb dX6_count_31 (by rw [c9]; decide) (by rw [c9]; decide) (by rw [c9]; rfl) (by decide) ?_
      refine lv_aload_n hx hb dX6_count_126 rfl (lv_at hl 0 rfl) ?_
      refine va_get (D := gD G) (ci := 4) (v := .ref (a0 0)) (C := RX6) (T := TX6) (N := 22) hx hb hg kl_X6 hown hK hP 0 rfl rfl 0 (by decide) (hg _ kq5_5) (fun _ h9 => h9) rfl dX6_count_127 ?_
      refine lv_bipush (v := (10 : Int32)) hx hb dX6_count_130 (by decide) ?_
      refine va_lald (f := (u0.2.2.2 0)) hx hb hK hP 1 2 rfl rfl (vin (by decide)) dX6_count_132 ?_
      refine lv_l2i (v := ((u0.2.2.2 0) (10 : Int32).toNatClampNeg).toInt32) hx hb dX6_count_133 rfl ?_
      have hf := Option.some.inj hf
      subst hf
      exact e_i (wf := (fun v : Ob => (wX6 G h0 a0 v))) hx hb hr hlk (oi u0 7 (0 : Int32)) ⟨rfl, rfl⟩ hP hK hD hS dX6_count_134
    have hf := tn hf c9
    by_cases c10 : x1 = (4 : Int32)
    · have hf := tp hf c10
      refine lv_tableIn (off := 104) (tgt := 135) hx hb dX6_count_31 (by rw [c10]; decide) (by rw [c10]; decide) (by rw [c10]; rfl) (by decide) ?_
      refine lv_aload_n hx hb dX6_count_135 rfl (lv_at hl 0 rfl) ?_
      refine va_get (D := gD G) (ci := 4) (v := .ref (a0 0)) (C := RX6) (T := TX6) (N := 22) hx hb hg kl_X6 hown hK hP 0 rfl rfl 0 (by decide) (hg _ kq5_5) (fun _ h9 => h9) rfl dX6_count_136 ?_
      refine lv_iconst (v := (5 : Int32)) hx hb dX6_count_139 (by decide) ?_
      refine va_lald (f := (u0.2.2.2 0)) hx hb hK hP 1 2 rfl rfl (vin (by decide)) dX6_count_140 ?_
      refine lv_ldc2 hx hb hown (hg _ kq5_0) dX6_count_141 ?_
      refine lc_ne (tgt := 152) hx hb dX6_count_144 dX6_count_145 (by decide) (fun c11 => ?_) (fun c11 => ?_)
      · have hf := tn hf c11
        refine lv_aload_n hx hb dX6_count_152 rfl (lv_at hl 0 rfl) ?_
        refine va_get (D := gD G) (ci := 4) (v := .ref (a0 0)) (C := RX6) (T := TX6) (N := 22) hx hb hg kl_X6 hown hK hP 0 rfl rfl 0 (by decide) (hg _ kq5_5) (fun _ h9 => h9) rfl dX6_count_153 ?_
        refine lv_bipush (v := (8 : Int32)) hx hb dX6_count_156 (by decide) ?_
        refine va_lald (f := (u0.2.2.2 0)) hx hb hK hP 1 2 rfl rfl (vin (by decide)) dX6_count_158 ?_
        refine lv_l2i (v := ((u0.2.2.2 0) (8 : Int32).toNatClampNeg).toInt32) hx hb dX6_count_159 rfl ?_
        have hf := Option.some.inj hf
        subst hf
        exact e_i (wf := (fun v : Ob => (wX6 G h0 a0 v))) hx hb hr hlk (oi u0 7 (0 : Int32)) ⟨rfl, rfl⟩ hP hK hD hS dX6_count_160
      · have hf := tp hf c11
        refine lv_iconst (v := (0 : Int32)) hx hb dX6_count_148 (by decide) ?_
        refine lv_goto (tgt := 160) hx hb dX6_count_149 (by decide) ?_
        have hf := Option.some.inj hf
        subst hf
        exact e_i (wf := (fun v : Ob => (wX6 G h0 a0 v))) hx hb hr hlk (oi u0 7 (0 : Int32)) ⟨rfl, rfl⟩ hP hK hD hS dX6_count_160
    have hf := tn hf c10
    by_cases c12 : x1 = (5 : Int32)
    · have hf := tp hf c12
      refine lv_tableIn (off := 130) (tgt := 161) hx hb dX6_count_31 (by rw [c12]; decide) (by rw [c12]; decide) (by rw [c12]; rfl) (by decide) ?_
      refine lv_aload_n hx hb dX6_count_161 rfl (lv_at hl 0 rfl) ?_
      refine va_get (D := gD G) (ci := 4) (v := .ref (a0 0)) (C := RX6) (T := TX6) (N := 22) hx hb hg kl_X6 hown hK hP 0 rfl rfl 0 (by decide) (hg _ kq5_5) (fun _ h9 => h9) rfl dX6_count_162 ?_
      refine lv_bipush (v := (13 : Int32)) hx hb dX6_count_165 (by decide) ?_
      refine va_lald (f := (u0.2.2.2 0)) hx hb hK hP 1 2 rfl rfl (vin (by decide)) dX6_count_167 ?_
      refine lv_l2i (v := ((u0.2.2.2 0) (13 : Int32).toNatClampNeg).toInt32) hx hb dX6_count_168 rfl ?_
      have hf := Option.some.inj hf
      subst hf
      exact e_i (wf := (fun v : Ob => (wX6 G h0 a0 v))) hx hb hr hlk (oi u0 7 (0 : Int32)) ⟨rfl, rfl⟩ hP hK hD hS dX6_count_169
    have hf := tn hf c12
    by_cases c13 : x1 = (6 : Int32)
    · have hf := tp hf c13
      refine lv_tableIn (off := 188) (tgt := 219) hx hb dX6_count_31 (by rw [c13]; decide) (by rw [c13]; decide) (by rw [c13]; rfl) (by decide) ?_
      refine lv_aload_n hx hb dX6_count_219 rfl (lv_at hl 0 rfl) ?_
      refine va_get (D := gD G) (ci := 4) (v := .ref (a0 0)) (C := RX6) (T := TX6) (N := 22) hx hb hg kl_X6 hown hK hP 0 rfl rfl 0 (by decide) (hg _ kq5_5) (fun _ h9 => h9) rfl dX6_count_220 ?_
      refine lv_iload_n hx hb dX6_count_223 rfl (lv_at hl 1 rfl) ?_
      refine lv_bipush (v := (6 : Int32)) hx hb dX6_count_224 (by decide) ?_
      refine lv_isub hx hb dX6_count_226 ?_
      obtain ⟨b14, hf⟩ := tno hf
      refine va_lald (f := (u0.2.2.2 0)) hx hb hK hP 1 2 rfl rfl b14 dX6_count_227 ?_
      refine lv_l2i (v := ((u0.2.2.2 0) (x1 - (6 : Int32)).toNatClampNeg).toInt32) hx hb dX6_count_228 rfl ?_
      have hf := Option.some.inj hf
      subst hf
      exact e_i (wf := (fun v : Ob => (wX6 G h0 a0 v))) hx hb hr hlk (oi u0 7 (0 : Int32)) ⟨rfl, rfl⟩ hP hK hD hS dX6_count_229
    have hf := tn hf c13
    by_cases c15 : x1 = (7 : Int32)
    · have hf := tp hf c15
      refine lv_tableIn (off := 188) (tgt := 219) hx hb dX6_count_31 (by rw [c15]; decide) (by rw [c15]; decide) (by rw [c15]; rfl) (by decide) ?_
      refine lv_aload_n hx hb dX6_count_219 rfl (lv_at hl 0 rfl) ?_
      refine va_get (D := gD G) (ci := 4) (v := .ref (a0 0)) (C := RX6) (T := TX6) (N := 22) hx hb hg kl_X6 hown hK hP 0 rfl rfl 0 (by decide) (hg _ kq5_5) (fun _ h9 => h9) rfl dX6_count_220 ?_
      refine lv_iload_n hx hb dX6_count_223 rfl (lv_at hl 1 rfl) ?_
      refine lv_bipush (v := (6 : Int32)) hx hb dX6_count_224 (by decide) ?_
      refine lv_isub hx hb dX6_count_226 ?_
      obtain ⟨b16, hf⟩ := tno hf
      refine va_lald (f := (u0.2.2.2 0)) hx hb hK hP 1 2 rfl rfl b16 dX6_count_227 ?_
      refine lv_l2i (v := ((u0.2.2.2 0) (x1 - (6 : Int32)).toNatClampNeg).toInt32) hx hb dX6_count_228 rfl ?_
      have hf := Option.some.inj hf
      subst hf
      exact e_i (wf := (fun v : Ob => (wX6 G h0 a0 v))) hx hb hr hlk (oi u0 7 (0 : Int32)) ⟨rfl, rfl⟩ hP hK hD hS dX6_count_229
    have hf := tn hf c15
    by_cases c17 : x1 = (8 : Int32)
    · have hf := tp hf c17
      refine lv_tableIn (off := 188) (tgt := 219) hx hb dX6_count_31 (by rw [c17]; decide) (by rw [c17]; decide) (by rw [c17]; rfl) (by decide) ?_
      refine lv_aload_n hx hb dX6_count_219 rfl (lv_at hl 0 rfl) ?_
      refine va_get (D := gD G) (ci := 4) (v := .ref (a0 0)) (C := RX6) (T := TX6) (N := 22) hx hb hg kl_X6 hown hK hP 0 rfl rfl 0 (by decide) (hg _ kq5_5) (fun _ h9 => h9) rfl dX6_count_220 ?_
      refine lv_iload_n hx hb dX6_count_223 rfl (lv_at hl 1 rfl) ?_
      refine lv_bipush (v := (6 : Int32)) hx hb dX6_count_224 (by decide) ?_
      refine lv_isub hx hb dX6_count_226 ?_
      obtain ⟨b18, hf⟩ := tno hf
      refine va_lald (f := (u0.2.2.2 0)) hx hb hK hP 1 2 rfl rfl b18 dX6_count_227 ?_
      refine lv_l2i (v := ((u0.2.2.2 0) (x1 - (6 : Int32)).toNatClampNeg).toInt32) hx hb dX6_count_228 rfl ?_
      have hf := Option.some.inj hf
      subst hf
      exact e_i (wf := (fun v : Ob => (wX6 G h0 a0 v))) hx hb hr hlk (oi u0 7 (0 : Int32)) ⟨rfl, rfl⟩ hP hK hD hS dX6_count_229
    have hf := tn hf c17
    by_cases c19 : x1 = (9 : Int32)
    · have hf := tp hf c19
      refine lv_tableIn (off := 188) (tgt := 219) hx hb dX6_count_31 (by rw [c19]; decide) (by rw [c19]; decide) (by rw [c19]; rfl) (by decide) ?_
      refine lv_aload_n hx hb dX6_count_219 rfl (lv_at hl 0 rfl) ?_
      refine va_get (D := gD G) (ci := 4) (v := .ref (a0 0)) (C := RX6) (T := TX6) (N := 22) hx hb hg kl_X6 hown hK hP 0 rfl rfl 0 (by decide) (hg _ kq5_5) (fun _ h9 => h9) rfl dX6_count_220 ?_
      refine lv_iload_n hx hb dX6_count_223 rfl (lv_at hl 1 rfl) ?_
      refine lv_bipush (v := (6 : Int32)) hx hb dX6_count_224 (by decide) ?_
      refine lv_isub hx hb dX6_count_226 ?_
      obtain ⟨b20, hf⟩ := tno hf
      refine va_lald (f := (u0.2.2.2 0)) hx hb hK hP 1 2 rfl rfl b20 dX6_count_227 ?_
      refine lv_l2i (v := ((u0.2.2.2 0) (x1 - (6 : Int32)).toNatClampNeg).toInt32) hx hb dX6_count_228 rfl ?_
      have hf := Option.some.inj hf
      subst hf
      exact e_i (wf := (fun v : Ob => (wX6 G h0 a0 v))) hx hb hr hlk (oi u0 7 (0 : Int32)) ⟨rfl, rfl⟩ hP hK hD hS dX6_count_229
    have hf := tn hf c19
    by_cases c21 : x1 = (10 : Int32)
    · have hf := tp hf c21
      refine lv_tableIn (off := 188) (tgt := 219) hx hb dX6_count_31 (by rw [c21]; decide) (by rw [c21]; decide) (by rw [c21]; rfl) (by decide) ?_
      refine lv_aload_n hx hb dX6_count_219 rfl (lv_at hl 0 rfl) ?_
      refine va_get (D := gD G) (ci := 4) (v := .ref (a0 0)) (C := RX6) (T := TX6) (N := 22) hx hb hg kl_X6 hown hK hP 0 rfl rfl 0 (by decide) (hg _ kq5_5) (fun _ h9 => h9) rfl dX6_count_220 ?_
      refine lv_iload_n hx hb dX6_count_223 rfl (lv_at hl 1 rfl) ?_
      refine lv_bipush (v := (6 : Int32)) hx hb dX6_count_224 (by decide) ?_
      refine lv_isub hx hb dX6_count_226 ?_
      obtain ⟨b22, hf⟩ := tno hf
      refine va_lald (f := (u0.2.2.2 0)) hx hb hK hP 1 2 rfl rfl b22 dX6_count_227 ?_
      refine lv_l2i (v := ((u0.2.2.2 0) (x1 - (6 : Int32)).toNatClampNeg).toInt32) hx hb dX6_count_228 rfl ?_
      have hf := Option.some.inj hf
      subst hf
      exact e_i (wf := (fun v : Ob => (wX6 G h0 a0 v))) hx hb hr hlk (oi u0 7 (0 : Int32)) ⟨rfl, rfl⟩ hP hK hD hS dX6_count_229
    have hf := tn hf c21
    by_cases c23 : x1 = (11 : Int32)
    · have hf := tp hf c23
      refine lv_tableIn (off := 139) (tgt := 170) hx hb dX6_count_31 (by rw [c23]; decide) (by rw [c23]; decide) (by rw [c23]; rfl) (by decide) ?_
      refine lv_aload_n hx hb dX6_count_170 rfl (lv_at hl 0 rfl) ?_
      refine va_get (D := gD G) (ci := 4) (v := .ref (a0 0)) (C := RX6) (T := TX6) (N := 22) hx hb hg kl_X6 hown hK hP 0 rfl rfl 0 (by decide) (hg _ kq5_5) (fun _ h9 => h9) rfl dX6_count_171 ?_
      refine lv_bipush (v := (6 : Int32)) hx hb dX6_count_174 (by decide) ?_
      refine va_lald (f := (u0.2.2.2 0)) hx hb hK hP 1 2 rfl rfl (vin (by decide)) dX6_count_176 ?_
      refine lv_l2i (v := ((u0.2.2.2 0) (6 : Int32).toNatClampNeg).toInt32) hx hb dX6_count_177 rfl ?_
      have hf := Option.some.inj hf
      subst hf
      exact e_i (wf := (fun v : Ob => (wX6 G h0 a0 v))) hx hb hr hlk (oi u0 7 (0 : Int32)) ⟨rfl, rfl⟩ hP hK hD hS dX6_count_178
    have hf := tn hf c23
    by_cases c24 : x1 = (12 : Int32)
    · have hf := tp hf c24
      refine lv_tableIn (off := 148) (tgt := 179) hx hb dX6_count_31 (by rw [c24]; decide) (by rw [c24]; decide) (by rw [c24]; rfl) (by decide) ?_
      refine lv_aload_n hx hb dX6_count_179 rfl (lv_at hl 0 rfl) ?_
      refine va_get (D := gD G) (ci := 4) (v := .ref (a0 0)) (C := RX6) (T := TX6) (N := 22) hx hb hg kl_X6 hown hK hP 0 rfl rfl 0 (by decide) (hg _ kq5_5) (fun _ h9 => h9) rfl dX6_count_180 ?_
      refine lv_iconst (v := (5 : Int32)) hx hb dX6_count_183 (by decide) ?_
      refine va_lald (f := (u0.2.2.2 0)) hx hb hK hP 1 2 rfl rfl (vin (by decide)) dX6_count_184 ?_
      refine lv_ldc2 hx hb hown (hg _ kq5_0) dX6_count_185 ?_
      refine lc_ne (tgt := 196) hx hb dX6_count_188 dX6_count_189 (by decide) (fun c25 => ?_) (fun c25 => ?_)
      · have hf := tn hf c25
        refine lv_aload_n hx hb dX6_count_196 rfl (lv_at hl 0 rfl) ?_
        refine va_get (D := gD G) (ci := 4) (v := .ref (a0 0)) (C := RX6) (T := TX6) (N := 22) hx hb hg kl_X6 hown hK hP 0 rfl rfl 0 (by decide) (hg _ kq5_5) (fun _ h9 => h9) rfl dX6_count_197 ?_
        refine lv_bipush (v := (15 : Int32)) hx hb dX6_count_200 (by decide) ?_
        refine va_lald (f := (u0.2.2.2 0)) hx hb hK hP 1 2 rfl rfl (vin (by decide)) dX6_count_202 ?_
        refine lv_iconst (v := (0 : Int32)) hx hb dX6_count_203 (by decide) ?_
        refine lv_bipush (v := (58 : Int32)) hx hb dX6_count_204 (by decide) ?_
        obtain ⟨q26, e27, hf⟩ := tbd hf
        refine kSi0 (As := [.long ((u0.2.2.2 0) (15 : Int32).toNatClampNeg), .int (0 : Int32), .int (58 : Int32)]) (rest := []) hC (c_X6_bits (G := G) e27) kq5_142 kc_X6_bits (by decide) hP hK hD hE hS hA hl.1 (Nat.le_of_ble_eq_true rfl) ⟨Nat.zero_le _, Nat.zero_le _⟩ dX6_count_206 (fun r9 u9 H locs hw hP hD hS => ?_)
        obtain ⟨rfl, rfl⟩ := hw
        have hf := Option.some.inj hf
        subst hf
        exact e_i (wf := (fun v : Ob => (wX6 G h0 a0 v))) hx hb hr hlk (oi u0 7 (0 : Int32)) ⟨rfl, rfl⟩ hP hK hD hS dX6_count_209
      · have hf := tp hf c25
        refine lv_iconst (v := (0 : Int32)) hx hb dX6_count_192 (by decide) ?_
        refine lv_goto (tgt := 209) hx hb dX6_count_193 (by decide) ?_
        have hf := Option.some.inj hf
        subst hf
        exact e_i (wf := (fun v : Ob => (wX6 G h0 a0 v))) hx hb hr hlk (oi u0 7 (0 : Int32)) ⟨rfl, rfl⟩ hP hK hD hS dX6_count_209
    have hf := tn hf c24
    by_cases c28 : x1 = (13 : Int32)
    · have hf := tp hf c28
      refine lv_tableIn (off := 179) (tgt := 210) hx hb dX6_count_31 (by rw [c28]; decide) (by rw [c28]; decide) (by rw [c28]; rfl) (by decide) ?_
      refine lv_aload_n hx hb dX6_count_210 rfl (lv_at hl 0 rfl) ?_
      refine va_get (D := gD G) (ci := 4) (v := .ref (a0 0)) (C := RX6) (T := TX6) (N := 22) hx hb hg kl_X6 hown hK hP 0 rfl rfl 0 (by decide) (hg _ kq5_5) (fun _ h9 => h9) rfl dX6_count_211 ?_
      refine lv_bipush (v := (11 : Int32)) hx hb dX6_count_214 (by decide) ?_
      refine va_lald (f := (u0.2.2.2 0)) hx hb hK hP 1 2 rfl rfl (vin (by decide)) dX6_count_216 ?_
      refine lv_l2i (v := ((u0.2.2.2 0) (11 : Int32).toNatClampNeg).toInt32) hx hb dX6_count_217 rfl ?_
      have hf := Option.some.inj hf
      subst hf
      exact e_i (wf := (fun v : Ob => (wX6 G h0 a0 v))) hx hb hr hlk (oi u0 7 (0 : Int32)) ⟨rfl, rfl⟩ hP hK hD hS dX6_count_218
    have hf := tn hf c28
    have tc6 := i32ne (z := 0) rfl c6
    have tc7 := i32ne (z := 1) rfl c7
    have tc8 := i32ne (z := 2) rfl c8
    have tc9 := i32ne (z := 3) rfl c9
    have tc10 := i32ne (z := 4) rfl c10
    have tc12 := i32ne (z := 5) rfl c12
    have tc13 := i32ne (z := 6) rfl c13
    have tc15 := i32ne (z := 7) rfl c15
    have tc17 := i32ne (z := 8) rfl c17
    have tc19 := i32ne (z := 9) rfl c19
    have tc21 := i32ne (z := 10) rfl c21
    have tc23 := i32ne (z := 11) rfl c23
    have tc24 := i32ne (z := 12) rfl c24
    have tc28 := i32ne (z := 13) rfl c28
    refine lv_tableOut (tgt := 219) hx hb dX6_count_31 (by omega) (by decide) ?_
    refine lv_aload_n hx hb dX6_count_219 rfl (lv_at hl 0 rfl) ?_
    refine va_get (D := gD G) (ci := 4) (v := .ref (a0 0)) (C := RX6) (T := TX6) (N := 22) hx hb hg kl_X6 hown hK hP 0 rfl rfl 0 (by decide) (hg _ kq5_5) (fun _ h9 => h9) rfl dX6_count_220 ?_
    refine lv_iload_n hx hb dX6_count_223 rfl (lv_at hl 1 rfl) ?_
    refine lv_bipush (v := (6 : Int32)) hx hb dX6_count_224 (by decide) ?_
    refine lv_isub hx hb dX6_count_226 ?_
    obtain ⟨b29, hf⟩ := tno hf
    refine va_lald (f := (u0.2.2.2 0)) hx hb hK hP 1 2 rfl rfl b29 dX6_count_227 ?_
    refine lv_l2i (v := ((u0.2.2.2 0) (x1 - (6 : Int32)).toNatClampNeg).toInt32) hx hb dX6_count_228 rfl ?_
    have hf := Option.some.inj hf
    subst hf
    exact e_i (wf := (fun v : Ob => (wX6 G h0 a0 v))) hx hb hr hlk (oi u0 7 (0 : Int32)) ⟨rfl, rfl⟩ hP hK hD hS dX6_count_229
set_option maxRecDepth 100000 in
set_option maxHeartbeats 4000000 in
theorem c_X6_isFrame {l : Launch} {G : Gp} {sz N : Nat} {x1 : Int32} {h0 : Nat} {a0 : Nat → Nat} {u0 : Ob} {q : Bool} (hf : f_X6_isFrame N x1 u0 = some q) : Met l yX6_isFrame (Cond.code yX6_isFrame cX6_isFrame 2 (some .boolean) :: lw_g) ({ frames := 1, cells := 0, slots := 0, locals := 25 } : Room) (va_Pc [.ref h0, .int x1] (pw G (wX6 G h0 a0 u0) sz)) (va_Qi (fun (r : Int32) (v : Ob) => bI q = r ∧ u0 = v) (bw G (fun v : Ob => (wX6 G h0 a0 v)) (va_A (wX6 G h0 a0 u0) sz)) (va_A (wX6 G h0 a0 u0) sz)) 0 0 (va_A (wX6 G h0 a0 u0) sz) := by
  refine mt (Qc := (fun A => va_Qi (fun (r : Int32) (v : Ob) => bI q = r ∧ u0 = v) (bw G (fun v : Ob => (wX6 G h0 a0 v)) A) A)) (by decide) (Nat.le_of_ble_eq_true rfl) ?_
  intro p e s m below meth c A ls hx hb hr hlk hml hts hown hA hP hK hD hE hS hl
  have hown : s.vm.findClass RX6 = some m.cls := hown
  have hg : ∀ w ∈ lw_g, w.before ([.ref h0, .int x1] : List Value).toArray s = true := fun w h => hts w (List.mem_cons_of_mem _ h)
  have hC : CallFix p m c cX6_isFrame 2 s ([.ref h0, .int x1] : List Value).toArray (Cond.code yX6_isFrame cX6_isFrame 2 (some .boolean) :: lw_g) RX6 := ⟨hx, hb, hml, hown, hts⟩
  have hl : lv_has ls 2 [(0, .ref h0), (1, .int x1)] := hl
  rw [f_X6_isFrame] at hf
  refine lv_iload_n hx hb dX6_isFrame_0 rfl (lv_at hl 1 rfl) ?_
  refine lv_i2l (v := x1.toInt64) hx hb dX6_isFrame_1 rfl ?_
  refine lv_lconst (v := (0 : Int64)) hx hb dX6_isFrame_2 (by decide) ?_
  refine lv_aload_n hx hb dX6_isFrame_3 rfl (lv_at hl 0 rfl) ?_
  refine va_get (D := gD G) (ci := 4) (v := .ref (a0 0)) (C := RX6) (T := TX6) (N := 22) hx hb hg kl_X6 hown hK hP 0 rfl rfl 0 (by decide) (hg _ kq5_5) (fun _ h9 => h9) rfl dX6_isFrame_4 ?_
  refine lv_bipush (v := (12 : Int32)) hx hb dX6_isFrame_7 (by decide) ?_
  refine va_lald (f := (u0.2.2.2 0)) hx hb hK hP 1 2 rfl rfl (vin (by decide)) dX6_isFrame_9 ?_
  refine lv_lconst (v := (1 : Int64)) hx hb dX6_isFrame_10 (by decide) ?_
  refine lv_lsub hx hb dX6_isFrame_11 ?_
  obtain ⟨q1, e2, hf⟩ := tbd hf
  refine kSi0 (As := [.long x1.toInt64, .long (0 : Int64), .long (((u0.2.2.2 0) (12 : Int32).toNatClampNeg) - (1 : Int64))]) (rest := []) hC (c_X6_isIn (G := G) e2) kq5_84 kc_X6_isIn (by decide) hP hK hD hE hS hA hl.1 (Nat.le_of_ble_eq_true rfl) ⟨Nat.zero_le _, Nat.zero_le _⟩ dX6_isFrame_12 (fun r9 u9 H locs hw hP hD hS => ?_)
  obtain ⟨rfl, rfl⟩ := hw
  have hf := Option.some.inj hf
  subst hf
  exact e_z (wf := (fun v : Ob => (wX6 G h0 a0 v))) hx hb hr hlk u0 (bI_nar _) ⟨rfl, rfl⟩ hP hK hD hS dX6_isFrame_15
set_option maxRecDepth 100000 in
set_option maxHeartbeats 4000000 in
theorem c_X6_frame {l : Launch} {G : Gp} {sz N : Nat} {x1 : Int32} {x2 : Int32} {h0 : Nat} {a0 : Nat → Nat} {u0 : Ob} {q : Int32 × Ob} (hf : f_X6_frame N x1 x2 u0 = some q) : Met l yX6_frame (Cond.code yX6_frame cX6_frame 7 (some .int) :: lw_g) ({ frames := 5, cells := 0, slots := 0, locals := 129 } : Room) (va_Pc [.ref h0, .int x1, .int x2] (pw G (wX6 G h0 a0 u0) sz)) (va_Qi (fun (r : Int32) (v : Ob) => q.1 = r ∧ q.2 = v) (bw G (fun v : Ob => (wX6 G h0 a0 v)) (va_A (wX6 G h0 a0 u0) sz)) (va_A (wX6 G h0 a0 u0) sz)) 0 0 (va_A (wX6 G h0 a0 u0) sz) := by
  refine mt (Qc := (fun A => va_Qi (fun (r : Int32) (v : Ob) => q.1 = r ∧ q.2 = v) (bw G (fun v : Ob => (wX6 G h0 a0 v)) A) A)) (by decide) (Nat.le_of_ble_eq_true rfl) ?_
  intro p e s m below meth c A ls hx hb hr hlk hml hts hown hA hP hK hD hE hS hl
  have hown : s.vm.findClass RX6 = some m.cls := hown
  have hg : ∀ w ∈ lw_g, w.before ([.ref h0, .int x1, .int x2] : List Value).toArray s = true := fun w h => hts w (List.mem_cons_of_mem _ h)
  have hC : CallFix p m c cX6_frame 7 s ([.ref h0, .int x1, .int x2] : List Value).toArray (Cond.code yX6_frame cX6_frame 7 (some .int) :: lw_g) RX6 := ⟨hx, hb, hml, hown, hts⟩
  have hl : lv_has ls 7 [(0, .ref h0), (1, .int x1), (2, .int x2)] := hl
  rw [f_X6_frame] at hf
  refine lv_aload_n hx hb dX6_frame_0 rfl (lv_at hl 0 rfl) ?_
  refine lv_aload_n hx hb dX6_frame_1 rfl (lv_at hl 0 rfl) ?_
  refine lv_iload_n hx hb dX6_frame_2 rfl (lv_at hl 1 rfl) ?_
  obtain ⟨q1, e2, hf⟩ := tbd hf
  refine kVi1 (As := [.int x1]) (rest := [.ref h0]) hC (c_X6_isFrame (G := G) e2) kq6_114 kc_X6_isFrame (by decide) 0 (ci := 4) rfl rfl hP hK hD hE hS hA hl.1 (Nat.le_of_ble_eq_true rfl) ⟨Nat.zero_le _, Nat.zero_le _⟩ dX6_frame_3 (fun r9 u9 H locs hw hP hD hS => ?_)
  obtain ⟨rfl, rfl⟩ := hw
  have hP : va_P (gD G) vwCl (wX6 G h0 a0 u0) H := hP
  have hD : va_D A (wX6 G h0 a0 u0) := hD
  refine bz_ne (tgt := 13) hx hb dX6_frame_6 (by decide) (fun c3 => ?_) (fun c3 => ?_)
  · have hf := tp hf c3
    refine lv_iload_n hx hb dX6_frame_13 rfl (lv_at hl 2 rfl) ?_
    refine lv_i2l (v := x2.toInt64) hx hb dX6_frame_14 rfl ?_
    refine lv_lconst (v := (0 : Int64)) hx hb dX6_frame_15 (by decide) ?_
    refine lv_ldc2 hx hb hown (hg _ kq4_238) dX6_frame_16 ?_
    obtain ⟨q4, e5, hf⟩ := tbd hf
    refine kSi0 (As := [.long x2.toInt64, .long (0 : Int64), .long (3 : Int64)]) (rest := [.ref h0]) hC (c_X6_isIn (G := G) e5) kq5_84 kc_X6_isIn (by decide) hP hK hD hE hS hA hl.1 (Nat.le_of_ble_eq_true rfl) ⟨Nat.zero_le _, Nat.zero_le _⟩ dX6_frame_19 (fun r9 u9 H locs hw hP hD hS => ?_)
    obtain ⟨rfl, rfl⟩ := hw
    refine bz_eq (tgt := 29) hx hb dX6_frame_22 (by decide) (fun c6 => ?_) (fun c6 => ?_)
    · have hf := tn hf c6
      refine lv_iconst (v := (2 : Int32)) hx hb dX6_frame_29 (by decide) ?_
      refine va_put (D := gD G) (ci := 4) (v := .int (2 : Int32)) (ty := .int) (C := RX6) (T := TX6) (N := 22) hx hb hg kl_X6 tyX6 tyX6_ok nmX6 hown hK hP hD hS 0 rfl rfl 7 (by decide) (hg _ kq5_12) (fun _ h9 => h9) rfl (by decide +kernel) rfl rfl (Nat.le_of_ble_eq_true rfl) dX6_frame_30 (fun H locs hP hD hS => ?_)
      have hP : va_P (gD G) vwCl (wX6 G h0 a0 (oi u0 7 (2 : Int32))) H := hP
      have hD : va_D A (wX6 G h0 a0 (oi u0 7 (2 : Int32))) := hD
      refine lv_aload_n hx hb dX6_frame_33 rfl (lv_at hl 0 rfl) ?_
      refine va_get (D := gD G) (ci := 4) (v := .int (2 : Int32)) (C := RX6) (T := TX6) (N := 22) hx hb hg kl_X6 hown hK hP 0 rfl rfl 7 (by decide) (hg _ kq5_12) (fun _ h9 => h9) rfl dX6_frame_34 ?_
      refine lv_if_le (tgt := 42) hx hb dX6_frame_37 (by decide) (fun c7 => ?_) (fun c7 => ?_)
      · exact absurd c7 (by decide)
      refine lv_iconst (v := (0 : Int32)) hx hb dX6_frame_40 (by decide) ?_
      have hf := Option.some.inj hf
      subst hf
      exact e_i (wf := (fun v : Ob => (wX6 G h0 a0 v))) hx hb hr hlk (oi u0 7 (2 : Int32)) ⟨rfl, rfl⟩ hP hK hD hS dX6_frame_41
    · have hf := tp hf c6
      refine lv_iconst (v := (0 : Int32)) hx hb dX6_frame_25 (by decide) ?_
      refine lv_goto (tgt := 30) hx hb dX6_frame_26 (by decide) ?_
      refine va_put (D := gD G) (ci := 4) (v := .int (0 : Int32)) (ty := .int) (C := RX6) (T := TX6) (N := 22) hx hb hg kl_X6 tyX6 tyX6_ok nmX6 hown hK hP hD hS 0 rfl rfl 7 (by decide) (hg _ kq5_12) (fun _ h9 => h9) rfl (by decide +kernel) rfl rfl (Nat.le_of_ble_eq_true rfl) dX6_frame_30 (fun H locs hP hD hS => ?_)
      have hP : va_P (gD G) vwCl (wX6 G h0 a0 (oi u0 7 (0 : Int32))) H := hP
      have hD : va_D A (wX6 G h0 a0 (oi u0 7 (0 : Int32))) := hD
      refine lv_aload_n hx hb dX6_frame_33 rfl (lv_at hl 0 rfl) ?_
      refine va_get (D := gD G) (ci := 4) (v := .int (0 : Int32)) (C := RX6) (T := TX6) (N := 22) hx hb hg kl_X6 hown hK hP 0 rfl rfl 7 (by decide) (hg _ kq5_12) (fun _ h9 => h9) rfl dX6_frame_34 ?_
      refine lv_if_le (tgt := 42) hx hb dX6_frame_37 (by decide) (fun c8 => ?_) (fun c8 => ?_)
      rotate_left
      · exact absurd c8 (by decide)
      refine lv_aload_n hx hb dX6_frame_42 rfl (lv_at hl 0 rfl) ?_
      refine va_get (D := gD G) (ci := 4) (v := .ref (a0 0)) (C := RX6) (T := TX6) (N := 22) hx hb hg kl_X6 hown hK hP 0 rfl rfl 0 (by decide) (hg _ kq5_5) (fun _ h9 => h9) rfl dX6_frame_43 ?_
      refine lv_bipush (v := (16 : Int32)) hx hb dX6_frame_46 (by decide) ?_
      refine lv_iconst (v := (2 : Int32)) hx hb dX6_frame_48 (by decide) ?_
      refine lv_iload_n hx hb dX6_frame_49 rfl (lv_at hl 1 rfl) ?_
      refine lv_imul hx hb dX6_frame_50 ?_
      refine lv_iadd hx hb dX6_frame_51 ?_
      obtain ⟨b9, hf⟩ := tno hf
      refine va_lald (f := (u0.2.2.2 0)) hx hb hK hP 1 2 rfl rfl b9 dX6_frame_52 ?_
      refine lv_lstore_n (lv' := [(3, .long ((u0.2.2.2 0) ((16 : Int32) + ((2 : Int32) * x1)).toNatClampNeg)), (0, .ref h0), (1, .int x1), (2, .int x2)]) hx hb dX6_frame_53 rfl hl (by decide) rfl (fun ls hl => ?_)
      refine lv_aload_n hx hb dX6_frame_54 rfl (lv_at hl 1 rfl) ?_
      refine va_get (D := gD G) (ci := 4) (v := .ref (a0 0)) (C := RX6) (T := TX6) (N := 22) hx hb hg kl_X6 hown hK hP 0 rfl rfl 0 (by decide) (hg _ kq5_5) (fun _ h9 => h9) rfl dX6_frame_55 ?_
      refine lv_bipush (v := (16 : Int32)) hx hb dX6_frame_58 (by decide) ?_
      refine lv_iconst (v := (2 : Int32)) hx hb dX6_frame_60 (by decide) ?_
      refine lv_iload_n hx hb dX6_frame_61 rfl (lv_at hl 2 rfl) ?_
      refine lv_imul hx hb dX6_frame_62 ?_
      refine lv_iadd hx hb dX6_frame_63 ?_
      refine lv_iconst (v := (1 : Int32)) hx hb dX6_frame_64 (by decide) ?_
      refine lv_iadd hx hb dX6_frame_65 ?_
      obtain ⟨b10, hf⟩ := tno hf
      refine va_lald (f := (u0.2.2.2 0)) hx hb hK hP 1 2 rfl rfl b10 dX6_frame_66 ?_
      refine lv_lstore (lv' := [(5, .long ((u0.2.2.2 0) (((16 : Int32) + ((2 : Int32) * x1)) + (1 : Int32)).toNatClampNeg)), (3, .long ((u0.2.2.2 0) ((16 : Int32) + ((2 : Int32) * x1)).toNatClampNeg)), (0, .ref h0), (1, .int x1), (2, .int x2)]) hx hb dX6_frame_67 hl (by decide) rfl (fun ls hl => ?_)
      refine lv_iload_n hx hb dX6_frame_69 rfl (lv_at hl 4 rfl) ?_
      refine lv_if_ne (tgt := 88) hx hb dX6_frame_70 (by decide) (fun c11 => ?_) (fun c11 => ?_)
      · have hf := tn hf c11
        refine lv_iload_n hx hb dX6_frame_88 rfl (lv_at hl 4 rfl) ?_
        refine lv_iconst (v := (1 : Int32)) hx hb dX6_frame_89 (by decide) ?_
        refine lv_icmp_ne (tgt := 103) hx hb dX6_frame_90 (by decide) (fun c12 => ?_) (fun c12 => ?_)
        · have hf := tn hf c12
          refine lv_iload_n hx hb dX6_frame_103 rfl (lv_at hl 4 rfl) ?_
          refine lv_iconst (v := (2 : Int32)) hx hb dX6_frame_104 (by decide) ?_
          refine lv_icmp_ne (tgt := 116) hx hb dX6_frame_105 (by decide) (fun c13 => ?_) (fun c13 => ?_)
          · have hf := tn hf c13
            refine lv_lload_n hx hb dX6_frame_116 rfl (lv_at hl 1 rfl) ?_
            refine lv_lload hx hb dX6_frame_117 (lv_at hl 0 rfl) ?_
            refine lv_bipush (v := (19 : Int32)) hx hb dX6_frame_119 (by decide) ?_
            obtain ⟨q14, e15, hf⟩ := tbd hf
            refine kSi0 (As := [.long ((u0.2.2.2 0) ((16 : Int32) + ((2 : Int32) * x1)).toNatClampNeg), .long ((u0.2.2.2 0) (((16 : Int32) + ((2 : Int32) * x1)) + (1 : Int32)).toNatClampNeg), .int (19 : Int32)]) (rest := []) hC (c_X6_bitOf (G := G) e15) kq6_102 kc_X6_bitOf (by decide) hP hK hD hE hS hA hl.1 (Nat.le_of_ble_eq_true rfl) ⟨Nat.zero_le _, Nat.zero_le _⟩ dX6_frame_121 (fun r9 u9 H locs hw hP hD hS => ?_)
            obtain ⟨rfl, rfl⟩ := hw
            have hf := Option.some.inj hf
            subst hf
            exact e_i (wf := (fun v : Ob => (wX6 G h0 a0 v))) hx hb hr hlk (oi u0 7 (0 : Int32)) ⟨rfl, rfl⟩ hP hK hD hS dX6_frame_124
          · have hf := tp hf c13
            refine lv_aload_n hx hb dX6_frame_108 rfl (lv_at hl 2 rfl) ?_
            refine lv_iload_n hx hb dX6_frame_109 rfl (lv_at hl 3 rfl) ?_
            obtain ⟨q16, e17, hf⟩ := tbd hf
            refine kVi1 (As := [.int x1]) (rest := []) hC (c_X6_tells (G := G) e17) kq6_34 kc_X6_tells (by decide) 0 (ci := 4) rfl rfl hP hK hD hE hS hA hl.1 (Nat.le_of_ble_eq_true rfl) ⟨Nat.zero_le _, Nat.zero_le _⟩ dX6_frame_110 (fun r9 u9 H locs hw hP hD hS => ?_)
            obtain ⟨rfl, rfl⟩ := hw
            have hP : va_P (gD G) vwCl (wX6 G h0 a0 q16.2) H := hP
            have hD : va_D A (wX6 G h0 a0 q16.2) := hD
            refine lv_goto (tgt := 124) hx hb dX6_frame_113 (by decide) ?_
            have hf := Option.some.inj hf
            subst hf
            exact e_i (wf := (fun v : Ob => (wX6 G h0 a0 v))) hx hb hr hlk q16.2 ⟨rfl, rfl⟩ hP hK hD hS dX6_frame_124
        · have hf := tp hf c12
          refine lv_aload_n hx hb dX6_frame_93 rfl (lv_at hl 2 rfl) ?_
          refine lv_lload_n hx hb dX6_frame_94 rfl (lv_at hl 1 rfl) ?_
          refine lv_lload hx hb dX6_frame_95 (lv_at hl 0 rfl) ?_
          obtain ⟨q18, e19, hf⟩ := tbd hf
          refine kVi1 (As := [.long ((u0.2.2.2 0) ((16 : Int32) + ((2 : Int32) * x1)).toNatClampNeg), .long ((u0.2.2.2 0) (((16 : Int32) + ((2 : Int32) * x1)) + (1 : Int32)).toNatClampNeg)]) (rest := []) hC (c_X6_faultOf (G := G) e19) kq6_38 kc_X6_faultOf (by decide) 0 (ci := 4) rfl rfl hP hK hD hE hS hA hl.1 (Nat.le_of_ble_eq_true rfl) ⟨Nat.zero_le _, Nat.zero_le _⟩ dX6_frame_97 (fun r9 u9 H locs hw hP hD hS => ?_)
          obtain ⟨rfl, rfl⟩ := hw
          have hP : va_P (gD G) vwCl (wX6 G h0 a0 q18.2) H := hP
          have hD : va_D A (wX6 G h0 a0 q18.2) := hD
          refine lv_goto (tgt := 124) hx hb dX6_frame_100 (by decide) ?_
          have hf := Option.some.inj hf
          subst hf
          exact e_i (wf := (fun v : Ob => (wX6 G h0 a0 v))) hx hb hr hlk q18.2 ⟨rfl, rfl⟩ hP hK hD hS dX6_frame_124
      · have hf := tp hf c11
        refine lv_lload hx hb dX6_frame_73 (lv_at hl 0 rfl) ?_
        refine lv_ldc2 hx hb hown (hg _ kq6_42) dX6_frame_75 ?_
        refine lv_land hx hb dX6_frame_78 ?_
        refine lv_iconst (v := (0 : Int32)) hx hb dX6_frame_79 (by decide) ?_
        refine lv_bipush (v := (58 : Int32)) hx hb dX6_frame_80 (by decide) ?_
        obtain ⟨q20, e21, hf⟩ := tbd hf
        refine kSi0 (As := [.long (((u0.2.2.2 0) (((16 : Int32) + ((2 : Int32) * x1)) + (1 : Int32)).toNatClampNeg) &&& (576460752302899201 : Int64)), .int (0 : Int32), .int (58 : Int32)]) (rest := []) hC (c_X6_bits (G := G) e21) kq5_142 kc_X6_bits (by decide) hP hK hD hE hS hA hl.1 (Nat.le_of_ble_eq_true rfl) ⟨Nat.zero_le _, Nat.zero_le _⟩ dX6_frame_82 (fun r9 u9 H locs hw hP hD hS => ?_)
        obtain ⟨rfl, rfl⟩ := hw
        refine lv_goto (tgt := 124) hx hb dX6_frame_85 (by decide) ?_
        have hf := Option.some.inj hf
        subst hf
        exact e_i (wf := (fun v : Ob => (wX6 G h0 a0 v))) hx hb hr hlk (oi u0 7 (0 : Int32)) ⟨rfl, rfl⟩ hP hK hD hS dX6_frame_124
  · have hf := tn hf c3
    refine lv_iconst (v := (1 : Int32)) hx hb dX6_frame_9 (by decide) ?_
    refine lv_goto (tgt := 30) hx hb dX6_frame_10 (by decide) ?_
    refine va_put (D := gD G) (ci := 4) (v := .int (1 : Int32)) (ty := .int) (C := RX6) (T := TX6) (N := 22) hx hb hg kl_X6 tyX6 tyX6_ok nmX6 hown hK hP hD hS 0 rfl rfl 7 (by decide) (hg _ kq5_12) (fun _ h9 => h9) rfl (by decide +kernel) rfl rfl (Nat.le_of_ble_eq_true rfl) dX6_frame_30 (fun H locs hP hD hS => ?_)
    have hP : va_P (gD G) vwCl (wX6 G h0 a0 (oi u0 7 (1 : Int32))) H := hP
    have hD : va_D A (wX6 G h0 a0 (oi u0 7 (1 : Int32))) := hD
    refine lv_aload_n hx hb dX6_frame_33 rfl (lv_at hl 0 rfl) ?_
    refine va_get (D := gD G) (ci := 4) (v := .int (1 : Int32)) (C := RX6) (T := TX6) (N := 22) hx hb hg kl_X6 hown hK hP 0 rfl rfl 7 (by decide) (hg _ kq5_12) (fun _ h9 => h9) rfl dX6_frame_34 ?_
    refine lv_if_le (tgt := 42) hx hb dX6_frame_37 (by decide) (fun c22 => ?_) (fun c22 => ?_)
    · exact absurd c22 (by decide)
    refine lv_iconst (v := (0 : Int32)) hx hb dX6_frame_40 (by decide) ?_
    have hf := Option.some.inj hf
    subst hf
    exact e_i (wf := (fun v : Ob => (wX6 G h0 a0 v))) hx hb hr hlk (oi u0 7 (1 : Int32)) ⟨rfl, rfl⟩ hP hK hD hS dX6_frame_41
set_option maxRecDepth 100000 in
set_option maxHeartbeats 4000000 in
theorem c_X6_frameBit {l : Launch} {G : Gp} {sz N : Nat} {x1 : Int32} {x2 : Int32} {h0 : Nat} {a0 : Nat → Nat} {u0 : Ob} {q : Int32 × Ob} (hf : f_X6_frameBit N x1 x2 u0 = some q) : Met l yX6_frameBit (Cond.code yX6_frameBit cX6_frameBit 3 (some .int) :: lw_g) ({ frames := 2, cells := 0, slots := 0, locals := 46 } : Room) (va_Pc [.ref h0, .int x1, .int x2] (pw G (wX6 G h0 a0 u0) sz)) (va_Qi (fun (r : Int32) (v : Ob) => q.1 = r ∧ q.2 = v) (bw G (fun v : Ob => (wX6 G h0 a0 v)) (va_A (wX6 G h0 a0 u0) sz)) (va_A (wX6 G h0 a0 u0) sz)) 0 0 (va_A (wX6 G h0 a0 u0) sz) := by
  refine mt (Qc := (fun A => va_Qi (fun (r : Int32) (v : Ob) => q.1 = r ∧ q.2 = v) (bw G (fun v : Ob => (wX6 G h0 a0 v)) A) A)) (by decide) (Nat.le_of_ble_eq_true rfl) ?_
  intro p e s m below meth c A ls hx hb hr hlk hml hts hown hA hP hK hD hE hS hl
  have hown : s.vm.findClass RX6 = some m.cls := hown
  have hg : ∀ w ∈ lw_g, w.before ([.ref h0, .int x1, .int x2] : List Value).toArray s = true := fun w h => hts w (List.mem_cons_of_mem _ h)
  have hC : CallFix p m c cX6_frameBit 3 s ([.ref h0, .int x1, .int x2] : List Value).toArray (Cond.code yX6_frameBit cX6_frameBit 3 (some .int) :: lw_g) RX6 := ⟨hx, hb, hml, hown, hts⟩
  have hl : lv_has ls 3 [(0, .ref h0), (1, .int x1), (2, .int x2)] := hl
  rw [f_X6_frameBit] at hf
  refine lv_aload_n hx hb dX6_frameBit_0 rfl (lv_at hl 0 rfl) ?_
  refine lv_aload_n hx hb dX6_frameBit_1 rfl (lv_at hl 0 rfl) ?_
  refine lv_iload_n hx hb dX6_frameBit_2 rfl (lv_at hl 1 rfl) ?_
  obtain ⟨q1, e2, hf⟩ := tbd hf
  refine kVi1 (As := [.int x1]) (rest := [.ref h0]) hC (c_X6_isFrame (G := G) e2) kq6_114 kc_X6_isFrame (by decide) 0 (ci := 4) rfl rfl hP hK hD hE hS hA hl.1 (Nat.le_of_ble_eq_true rfl) ⟨Nat.zero_le _, Nat.zero_le _⟩ dX6_frameBit_3 (fun r9 u9 H locs hw hP hD hS => ?_)
  obtain ⟨rfl, rfl⟩ := hw
  have hP : va_P (gD G) vwCl (wX6 G h0 a0 u0) H := hP
  have hD : va_D A (wX6 G h0 a0 u0) := hD
  refine bz_eq (tgt := 25) hx hb dX6_frameBit_6 (by decide) (fun c3 => ?_) (fun c3 => ?_)
  · have hf := tn hf c3
    refine lv_iconst (v := (1 : Int32)) hx hb dX6_frameBit_25 (by decide) ?_
    refine va_put (D := gD G) (ci := 4) (v := .int (1 : Int32)) (ty := .int) (C := RX6) (T := TX6) (N := 22) hx hb hg kl_X6 tyX6 tyX6_ok nmX6 hown hK hP hD hS 0 rfl rfl 7 (by decide) (hg _ kq5_12) (fun _ h9 => h9) rfl (by decide +kernel) rfl rfl (Nat.le_of_ble_eq_true rfl) dX6_frameBit_26 (fun H locs hP hD hS => ?_)
    have hP : va_P (gD G) vwCl (wX6 G h0 a0 (oi u0 7 (1 : Int32))) H := hP
    have hD : va_D A (wX6 G h0 a0 (oi u0 7 (1 : Int32))) := hD
    refine lv_aload_n hx hb dX6_frameBit_29 rfl (lv_at hl 0 rfl) ?_
    refine va_get (D := gD G) (ci := 4) (v := .int (1 : Int32)) (C := RX6) (T := TX6) (N := 22) hx hb hg kl_X6 hown hK hP 0 rfl rfl 7 (by decide) (hg _ kq5_12) (fun _ h9 => h9) rfl dX6_frameBit_30 ?_
    refine lv_if_le (tgt := 40) hx hb dX6_frameBit_33 (by decide) (fun c4 => ?_) (fun c4 => ?_)
    · exact absurd c4 (by decide)
    refine lv_iconst (v := (0 : Int32)) hx hb dX6_frameBit_36 (by decide) ?_
    refine lv_goto (tgt := 68) hx hb dX6_frameBit_37 (by decide) ?_
    have hf := Option.some.inj hf
    subst hf
    exact e_i (wf := (fun v : Ob => (wX6 G h0 a0 v))) hx hb hr hlk (oi u0 7 (1 : Int32)) ⟨rfl, rfl⟩ hP hK hD hS dX6_frameBit_68
  · have hf := tp hf c3
    refine lv_iload_n hx hb dX6_frameBit_9 rfl (lv_at hl 2 rfl) ?_
    refine lv_i2l (v := x2.toInt64) hx hb dX6_frameBit_10 rfl ?_
    refine lv_lconst (v := (0 : Int64)) hx hb dX6_frameBit_11 (by decide) ?_
    refine lv_ldc2 hx hb hown (hg _ kq6_81) dX6_frameBit_12 ?_
    obtain ⟨q5, e6, hf⟩ := tbd hf
    refine kSi0 (As := [.long x2.toInt64, .long (0 : Int64), .long (58 : Int64)]) (rest := [.ref h0]) hC (c_X6_isIn (G := G) e6) kq5_84 kc_X6_isIn (by decide) hP hK hD hE hS hA hl.1 (Nat.le_of_ble_eq_true rfl) ⟨Nat.zero_le _, Nat.zero_le _⟩ dX6_frameBit_15 (fun r9 u9 H locs hw hP hD hS => ?_)
    obtain ⟨rfl, rfl⟩ := hw
    refine bz_eq (tgt := 25) hx hb dX6_frameBit_18 (by decide) (fun c7 => ?_) (fun c7 => ?_)
    · have hf := tn hf c7
      refine lv_iconst (v := (1 : Int32)) hx hb dX6_frameBit_25 (by decide) ?_
      refine va_put (D := gD G) (ci := 4) (v := .int (1 : Int32)) (ty := .int) (C := RX6) (T := TX6) (N := 22) hx hb hg kl_X6 tyX6 tyX6_ok nmX6 hown hK hP hD hS 0 rfl rfl 7 (by decide) (hg _ kq5_12) (fun _ h9 => h9) rfl (by decide +kernel) rfl rfl (Nat.le_of_ble_eq_true rfl) dX6_frameBit_26 (fun H locs hP hD hS => ?_)
      have hP : va_P (gD G) vwCl (wX6 G h0 a0 (oi u0 7 (1 : Int32))) H := hP
      have hD : va_D A (wX6 G h0 a0 (oi u0 7 (1 : Int32))) := hD
      refine lv_aload_n hx hb dX6_frameBit_29 rfl (lv_at hl 0 rfl) ?_
      refine va_get (D := gD G) (ci := 4) (v := .int (1 : Int32)) (C := RX6) (T := TX6) (N := 22) hx hb hg kl_X6 hown hK hP 0 rfl rfl 7 (by decide) (hg _ kq5_12) (fun _ h9 => h9) rfl dX6_frameBit_30 ?_
      refine lv_if_le (tgt := 40) hx hb dX6_frameBit_33 (by decide) (fun c8 => ?_) (fun c8 => ?_)
      · exact absurd c8 (by decide)
      refine lv_iconst (v := (0 : Int32)) hx hb dX6_frameBit_36 (by decide) ?_
      refine lv_goto (tgt := 68) hx hb dX6_frameBit_37 (by decide) ?_
      have hf := Option.some.inj hf
      subst hf
      exact e_i (wf := (fun v : Ob => (wX6 G h0 a0 v))) hx hb hr hlk (oi u0 7 (1 : Int32)) ⟨rfl, rfl⟩ hP hK hD hS dX6_frameBit_68
    · have hf := tp hf c7
      refine lv_iconst (v := (0 : Int32)) hx hb dX6_frameBit_21 (by decide) ?_
      refine lv_goto (tgt := 26) hx hb dX6_frameBit_22 (by decide) ?_
      refine va_put (D := gD G) (ci := 4) (v := .int (0 : Int32)) (ty := .int) (C := RX6) (T := TX6) (N := 22) hx hb hg kl_X6 tyX6 tyX6_ok nmX6 hown hK hP hD hS 0 rfl rfl 7 (by decide) (hg _ kq5_12) (fun _ h9 => h9) rfl (by decide +kernel) rfl rfl (Nat.le_of_ble_eq_true rfl) dX6_frameBit_26 (fun H locs hP hD hS => ?_)
      have hP : va_P (gD G) vwCl (wX6 G h0 a0 (oi u0 7 (0 : Int32))) H := hP
      have hD : va_D A (wX6 G h0 a0 (oi u0 7 (0 : Int32))) := hD
      refine lv_aload_n hx hb dX6_frameBit_29 rfl (lv_at hl 0 rfl) ?_
      refine va_get (D := gD G) (ci := 4) (v := .int (0 : Int32)) (C := RX6) (T := TX6) (N := 22) hx hb hg kl_X6 hown hK hP 0 rfl rfl 7 (by decide) (hg _ kq5_12) (fun _ h9 => h9) rfl dX6_frameBit_30 ?_
      refine lv_if_le (tgt := 40) hx hb dX6_frameBit_33 (by decide) (fun c9 => ?_) (fun c9 => ?_)
      rotate_left
      · exact absurd c9 (by decide)
      refine lv_aload_n hx hb dX6_frameBit_40 rfl (lv_at hl 0 rfl) ?_
      refine va_get (D := gD G) (ci := 4) (v := .ref (a0 0)) (C := RX6) (T := TX6) (N := 22) hx hb hg kl_X6 hown hK hP 0 rfl rfl 0 (by decide) (hg _ kq5_5) (fun _ h9 => h9) rfl dX6_frameBit_41 ?_
      refine lv_bipush (v := (16 : Int32)) hx hb dX6_frameBit_44 (by decide) ?_
      refine lv_iconst (v := (2 : Int32)) hx hb dX6_frameBit_46 (by decide) ?_
      refine lv_iload_n hx hb dX6_frameBit_47 rfl (lv_at hl 1 rfl) ?_
      refine lv_imul hx hb dX6_frameBit_48 ?_
      refine lv_iadd hx hb dX6_frameBit_49 ?_
      obtain ⟨b10, hf⟩ := tno hf
      refine va_lald (f := (u0.2.2.2 0)) hx hb hK hP 1 2 rfl rfl b10 dX6_frameBit_50 ?_
      refine lv_aload_n hx hb dX6_frameBit_51 rfl (lv_at hl 0 rfl) ?_
      refine va_get (D := gD G) (ci := 4) (v := .ref (a0 0)) (C := RX6) (T := TX6) (N := 22) hx hb hg kl_X6 hown hK hP 0 rfl rfl 0 (by decide) (hg _ kq5_5) (fun _ h9 => h9) rfl dX6_frameBit_52 ?_
      refine lv_bipush (v := (16 : Int32)) hx hb dX6_frameBit_55 (by decide) ?_
      refine lv_iconst (v := (2 : Int32)) hx hb dX6_frameBit_57 (by decide) ?_
      refine lv_iload_n hx hb dX6_frameBit_58 rfl (lv_at hl 1 rfl) ?_
      refine lv_imul hx hb dX6_frameBit_59 ?_
      refine lv_iadd hx hb dX6_frameBit_60 ?_
      refine lv_iconst (v := (1 : Int32)) hx hb dX6_frameBit_61 (by decide) ?_
      refine lv_iadd hx hb dX6_frameBit_62 ?_
      obtain ⟨b11, hf⟩ := tno hf
      refine va_lald (f := (u0.2.2.2 0)) hx hb hK hP 1 2 rfl rfl b11 dX6_frameBit_63 ?_
      refine lv_iload_n hx hb dX6_frameBit_64 rfl (lv_at hl 2 rfl) ?_
      obtain ⟨q12, e13, hf⟩ := tbd hf
      refine kSi0 (As := [.long ((u0.2.2.2 0) ((16 : Int32) + ((2 : Int32) * x1)).toNatClampNeg), .long ((u0.2.2.2 0) (((16 : Int32) + ((2 : Int32) * x1)) + (1 : Int32)).toNatClampNeg), .int x2]) (rest := []) hC (c_X6_bitOf (G := G) e13) kq6_102 kc_X6_bitOf (by decide) hP hK hD hE hS hA hl.1 (Nat.le_of_ble_eq_true rfl) ⟨Nat.zero_le _, Nat.zero_le _⟩ dX6_frameBit_65 (fun r9 u9 H locs hw hP hD hS => ?_)
      obtain ⟨rfl, rfl⟩ := hw
      have hf := Option.some.inj hf
      subst hf
      exact e_i (wf := (fun v : Ob => (wX6 G h0 a0 v))) hx hb hr hlk (oi u0 7 (0 : Int32)) ⟨rfl, rfl⟩ hP hK hD hS dX6_frameBit_68
set_option maxRecDepth 100000 in
set_option maxHeartbeats 4000000 in
theorem c_X6_votes {l : Launch} {G : Gp} {sz N : Nat} {x1 : Int32} {h0 : Nat} {a0 : Nat → Nat} {u0 : Ob} {q : Int32 × Ob} (hf : f_X6_votes N x1 u0 = some q) : Met l yX6_votes (Cond.code yX6_votes cX6_votes 2 (some .int) :: lw_g) ({ frames := 7, cells := 0, slots := 0, locals := 175 } : Room) (va_Pc [.ref h0, .int x1] (pw G (wX6 G h0 a0 u0) sz)) (va_Qi (fun (r : Int32) (v : Ob) => q.1 = r ∧ q.2 = v) (bw G (fun v : Ob => (wX6 G h0 a0 v)) (va_A (wX6 G h0 a0 u0) sz)) (va_A (wX6 G h0 a0 u0) sz)) 0 0 (va_A (wX6 G h0 a0 u0) sz) := by
  refine mt (Qc := (fun A => va_Qi (fun (r : Int32) (v : Ob) => q.1 = r ∧ q.2 = v) (bw G (fun v : Ob => (wX6 G h0 a0 v)) A) A)) (by decide) (Nat.le_of_ble_eq_true rfl) ?_
  intro p e s m below meth c A ls hx hb hr hlk hml hts hown hA hP hK hD hE hS hl
  have hown : s.vm.findClass RX6 = some m.cls := hown
  have hg : ∀ w ∈ lw_g, w.before ([.ref h0, .int x1] : List Value).toArray s = true := fun w h => hts w (List.mem_cons_of_mem _ h)
  have hC : CallFix p m c cX6_votes 2 s ([.ref h0, .int x1] : List Value).toArray (Cond.code yX6_votes cX6_votes 2 (some .int) :: lw_g) RX6 := ⟨hx, hb, hml, hown, hts⟩
  have hl : lv_has ls 2 [(0, .ref h0), (1, .int x1)] := hl
  rw [f_X6_votes] at hf
  refine lv_aload_n hx hb dX6_votes_0 rfl (lv_at hl 0 rfl) ?_
  refine lv_iconst (v := (0 : Int32)) hx hb dX6_votes_1 (by decide) ?_
  refine va_put (D := gD G) (ci := 4) (v := .int (0 : Int32)) (ty := .int) (C := RX6) (T := TX6) (N := 22) hx hb hg kl_X6 tyX6 tyX6_ok nmX6 hown hK hP hD hS 0 rfl rfl 7 (by decide) (hg _ kq5_12) (fun _ h9 => h9) rfl (by decide +kernel) rfl rfl (Nat.le_of_ble_eq_true rfl) dX6_votes_2 (fun H locs hP hD hS => ?_)
  have hP : va_P (gD G) vwCl (wX6 G h0 a0 (oi u0 7 (0 : Int32))) H := hP
  have hD : va_D A (wX6 G h0 a0 (oi u0 7 (0 : Int32))) := hD
  refine lv_aload_n hx hb dX6_votes_5 rfl (lv_at hl 0 rfl) ?_
  refine lv_iload_n hx hb dX6_votes_6 rfl (lv_at hl 1 rfl) ?_
  obtain ⟨q1, e2, hf⟩ := tbd hf
  refine kVi1 (As := [.int x1]) (rest := []) hC (c_X6_votesNow (G := G) e2) kq6_55 kc_X6_votesNow (by decide) 0 (ci := 4) rfl rfl hP hK hD hE hS hA hl.1 (Nat.le_of_ble_eq_true rfl) ⟨Nat.zero_le _, Nat.zero_le _⟩ dX6_votes_7 (fun r9 u9 H locs hw hP hD hS => ?_)
  obtain ⟨rfl, rfl⟩ := hw
  have hP : va_P (gD G) vwCl (wX6 G h0 a0 q1.2) H := hP
  have hD : va_D A (wX6 G h0 a0 q1.2) := hD
  have hf := Option.some.inj hf
  subst hf
  exact e_i (wf := (fun v : Ob => (wX6 G h0 a0 v))) hx hb hr hlk q1.2 ⟨rfl, rfl⟩ hP hK hD hS dX6_votes_10
set_option maxRecDepth 100000 in
set_option maxHeartbeats 4000000 in
theorem c_X6_favourite {l : Launch} {G : Gp} {sz N : Nat} {h0 : Nat} {a0 : Nat → Nat} {u0 : Ob} {q : Int32 × Ob} (hf : f_X6_favourite N u0 = some q) : Met l yX6_favourite (Cond.code yX6_favourite cX6_favourite 5 (some .int) :: lw_g) ({ frames := 7, cells := 0, slots := 0, locals := 175 } : Room) (va_Pc [.ref h0] (pw G (wX6 G h0 a0 u0) sz)) (va_Qi (fun (r : Int32) (v : Ob) => q.1 = r ∧ q.2 = v) (bw G (fun v : Ob => (wX6 G h0 a0 v)) (va_A (wX6 G h0 a0 u0) sz)) (va_A (wX6 G h0 a0 u0) sz)) 0 0 (va_A (wX6 G h0 a0 u0) sz) := by
  refine mt (Qc := (fun A => va_Qi (fun (r : Int32) (v : Ob) => q.1 = r ∧ q.2 = v) (bw G (fun v : Ob => (wX6 G h0 a0 v)) A) A)) (by decide) (Nat.le_of_ble_eq_true rfl) ?_
  intro p e s m below meth c A ls hx hb hr hlk hml hts hown hA hP hK hD hE hS hl
  have hown : s.vm.findClass RX6 = some m.cls := hown
  have hg : ∀ w ∈ lw_g, w.before ([.ref h0] : List Value).toArray s = true := fun w h => hts w (List.mem_cons_of_mem _ h)
  have hC : CallFix p m c cX6_favourite 5 s ([.ref h0] : List Value).toArray (Cond.code yX6_favourite cX6_favourite 5 (some .int) :: lw_g) RX6 := ⟨hx, hb, hml, hown, hts⟩
  have hl : lv_has ls 5 [(0, .ref h0)] := hl
  have lp_4 : ∀ (n : Nat) (x1 : Int32) (x2 : Int32) (u0 : Ob), l_X6_favourite_4 N n x1 x2 u0 = some q → ∀ (H : Heap) (locs : List Loc) (ls : Array Slot), va_P (gD G) vwCl (wX6 G h0 a0 u0) H → va_D A (wX6 G h0 a0 u0) → va_S A s.heap H locs → lv_has ls 5 [(0, .ref h0), (1, .int x1), (2, .int x2)] → W p l e ({ frames := 7, cells := 0, slots := 0, locals := 175 } : Room) s m ([.ref h0] : List Value).toArray below meth c H locs 0 0 (MQ below (va_Qi (fun (r : Int32) (v : Ob) => q.1 = r ∧ q.2 = v) (bw G (fun v : Ob => (wX6 G h0 a0 v)) A) A) ([.ref h0] : List Value).toArray s 0 0 A) (F0 m 4 ls []) := by
    intro n
    induction n with
    | zero => intro x1 x2 u0 hf; rw [l_X6_favourite_4] at hf; cases hf
    | succ n ih =>
      intro x1 x2 u0 hf H locs ls hP hD hS hl
      rw [l_X6_favourite_4] at hf
      refine lv_iload_n hx hb dX6_favourite_4 rfl (lv_at hl 2 rfl) ?_
      refine lv_i2l (v := x2.toInt64) hx hb dX6_favourite_5 rfl ?_
      refine lv_aload_n hx hb dX6_favourite_6 rfl (lv_at hl 0 rfl) ?_
      refine va_get (D := gD G) (ci := 4) (v := .ref (a0 0)) (C := RX6) (T := TX6) (N := 22) hx hb hg kl_X6 hown hK hP 0 rfl rfl 0 (by decide) (hg _ kq5_5) (fun _ h9 => h9) rfl dX6_favourite_7 ?_
      refine lv_bipush (v := (12 : Int32)) hx hb dX6_favourite_10 (by decide) ?_
      refine va_lald (f := (u0.2.2.2 0)) hx hb hK hP 1 2 rfl rfl (vin (by decide)) dX6_favourite_12 ?_
      refine lc_ge (tgt := 80) hx hb dX6_favourite_13 dX6_favourite_14 (by decide) (fun c1 => ?_) (fun c1 => ?_)
      · have hf := tp hf c1
        refine lv_aload_n hx hb dX6_favourite_80 rfl (lv_at hl 0 rfl) ?_
        refine lv_iload_n hx hb dX6_favourite_81 rfl (lv_at hl 1 rfl) ?_
        refine lv_iconst (v := (-1 : Int32)) hx hb dX6_favourite_82 (by decide) ?_
        refine lv_icmp_ne (tgt := 90) hx hb dX6_favourite_83 (by decide) (fun c2 => ?_) (fun c2 => ?_)
        · have hf := tn hf c2
          refine lv_iconst (v := (0 : Int32)) hx hb dX6_favourite_90 (by decide) ?_
          refine va_put (D := gD G) (ci := 4) (v := .int (0 : Int32)) (ty := .int) (C := RX6) (T := TX6) (N := 22) hx hb hg kl_X6 tyX6 tyX6_ok nmX6 hown hK hP hD hS 0 rfl rfl 7 (by decide) (hg _ kq5_12) (fun _ h9 => h9) rfl (by decide +kernel) rfl rfl (Nat.le_of_ble_eq_true rfl) dX6_favourite_91 (fun H locs hP hD hS => ?_)
          have hP : va_P (gD G) vwCl (wX6 G h0 a0 (oi u0 7 (0 : Int32))) H := hP
          have hD : va_D A (wX6 G h0 a0 (oi u0 7 (0 : Int32))) := hD
          refine lv_aload_n hx hb dX6_favourite_94 rfl (lv_at hl 0 rfl) ?_
          refine va_get (D := gD G) (ci := 4) (v := .int (0 : Int32)) (C := RX6) (T := TX6) (N := 22) hx hb hg kl_X6 hown hK hP 0 rfl rfl 7 (by decide) (hg _ kq5_12) (fun _ h9 => h9) rfl dX6_favourite_95 ?_
          refine lv_if_le (tgt := 105) hx hb dX6_favourite_98 (by decide) (fun c3 => ?_) (fun c3 => ?_)
          rotate_left
          · exact absurd c3 (by decide)
          refine lv_iload_n hx hb dX6_favourite_105 rfl (lv_at hl 1 rfl) ?_
          have hf := Option.some.inj hf
          subst hf
          exact e_i (wf := (fun v : Ob => (wX6 G h0 a0 v))) hx hb hr hlk (oi u0 7 (0 : Int32)) ⟨rfl, rfl⟩ hP hK hD hS dX6_favourite_106
        · have hf := tp hf c2
          refine lv_iconst (v := (1 : Int32)) hx hb dX6_favourite_86 (by decide) ?_
          refine lv_goto (tgt := 91) hx hb dX6_favourite_87 (by decide) ?_
          refine va_put (D := gD G) (ci := 4) (v := .int (1 : Int32)) (ty := .int) (C := RX6) (T := TX6) (N := 22) hx hb hg kl_X6 tyX6 tyX6_ok nmX6 hown hK hP hD hS 0 rfl rfl 7 (by decide) (hg _ kq5_12) (fun _ h9 => h9) rfl (by decide +kernel) rfl rfl (Nat.le_of_ble_eq_true rfl) dX6_favourite_91 (fun H locs hP hD hS => ?_)
          have hP : va_P (gD G) vwCl (wX6 G h0 a0 (oi u0 7 (1 : Int32))) H := hP
          have hD : va_D A (wX6 G h0 a0 (oi u0 7 (1 : Int32))) := hD
          refine lv_aload_n hx hb dX6_favourite_94 rfl (lv_at hl 0 rfl) ?_
          refine va_get (D := gD G) (ci := 4) (v := .int (1 : Int32)) (C := RX6) (T := TX6) (N := 22) hx hb hg kl_X6 hown hK hP 0 rfl rfl 7 (by decide) (hg _ kq5_12) (fun _ h9 => h9) rfl dX6_favourite_95 ?_
          refine lv_if_le (tgt := 105) hx hb dX6_favourite_98 (by decide) (fun c4 => ?_) (fun c4 => ?_)
          · exact absurd c4 (by decide)
          refine lv_iconst (v := (0 : Int32)) hx hb dX6_favourite_101 (by decide) ?_
          refine lv_goto (tgt := 106) hx hb dX6_favourite_102 (by decide) ?_
          have hf := Option.some.inj hf
          subst hf
          exact e_i (wf := (fun v : Ob => (wX6 G h0 a0 v))) hx hb hr hlk (oi u0 7 (1 : Int32)) ⟨rfl, rfl⟩ hP hK hD hS dX6_favourite_106
      · have hf := tn hf c1
        refine lv_aload_n hx hb dX6_favourite_17 rfl (lv_at hl 0 rfl) ?_
        refine lv_iload_n hx hb dX6_favourite_18 rfl (lv_at hl 2 rfl) ?_
        obtain ⟨q5, e6, hf⟩ := tbd hf
        refine kVi1 (As := [.int x2]) (rest := []) hC (c_X6_votesFor (G := G) e6) kq6_30 kc_X6_votesFor (by decide) 0 (ci := 4) rfl rfl hP hK hD hE hS hA hl.1 (Nat.le_of_ble_eq_true rfl) ⟨Nat.zero_le _, Nat.zero_le _⟩ dX6_favourite_19 (fun r9 u9 H locs hw hP hD hS => ?_)
        obtain ⟨rfl, rfl⟩ := hw
        have hP : va_P (gD G) vwCl (wX6 G h0 a0 q5.2) H := hP
        have hD : va_D A (wX6 G h0 a0 q5.2) := hD
        refine lv_istore_n (lv' := [(3, .int q5.1), (0, .ref h0), (1, .int x1), (2, .int x2)]) hx hb dX6_favourite_22 rfl hl (by decide) rfl (fun ls hl => ?_)
        refine lv_iload_n hx hb dX6_favourite_23 rfl (lv_at hl 0 rfl) ?_
        refine lv_iconst (v := (-1 : Int32)) hx hb dX6_favourite_24 (by decide) ?_
        refine lv_icmp_ne (tgt := 31) hx hb dX6_favourite_25 (by decide) (fun c7 => ?_) (fun c7 => ?_)
        · have hf := tn hf c7
          refine lv_iload_n hx hb dX6_favourite_31 rfl (lv_at hl 2 rfl) ?_
          refine lv_iconst (v := (-1 : Int32)) hx hb dX6_favourite_32 (by decide) ?_
          refine lv_icmp_ne (tgt := 40) hx hb dX6_favourite_33 (by decide) (fun c8 => ?_) (fun c8 => ?_)
          · have hf := tn hf c8
            refine lv_aload_n hx hb dX6_favourite_40 rfl (lv_at hl 1 rfl) ?_
            refine lv_iload_n hx hb dX6_favourite_41 rfl (lv_at hl 0 rfl) ?_
            obtain ⟨q9, e10, hf⟩ := tbd hf
            refine kVi1 (As := [.int q5.1]) (rest := []) hC (c_X6_votesNow (G := G) e10) kq6_55 kc_X6_votesNow (by decide) 0 (ci := 4) rfl rfl hP hK hD hE hS hA hl.1 (Nat.le_of_ble_eq_true rfl) ⟨Nat.zero_le _, Nat.zero_le _⟩ dX6_favourite_42 (fun r9 u9 H locs hw hP hD hS => ?_)
            obtain ⟨rfl, rfl⟩ := hw
            have hP : va_P (gD G) vwCl (wX6 G h0 a0 q9.2) H := hP
            have hD : va_D A (wX6 G h0 a0 q9.2) := hD
            refine lv_aload_n hx hb dX6_favourite_45 rfl (lv_at hl 1 rfl) ?_
            refine lv_iload_n hx hb dX6_favourite_46 rfl (lv_at hl 2 rfl) ?_
            obtain ⟨q11, e12, hf⟩ := tbd hf
            refine kVi1 (As := [.int x1]) (rest := [.int q9.1]) hC (c_X6_votesNow (G := G) e12) kq6_55 kc_X6_votesNow (by decide) 0 (ci := 4) rfl rfl hP hK hD hE hS hA hl.1 (Nat.le_of_ble_eq_true rfl) ⟨Nat.zero_le _, Nat.zero_le _⟩ dX6_favourite_47 (fun r9 u9 H locs hw hP hD hS => ?_)
            obtain ⟨rfl, rfl⟩ := hw
            have hP : va_P (gD G) vwCl (wX6 G h0 a0 q11.2) H := hP
            have hD : va_D A (wX6 G h0 a0 q11.2) := hD
            refine lv_isub hx hb dX6_favourite_50 ?_
            refine lv_istore (lv' := [(4, .int (q9.1 - q11.1)), (3, .int q5.1), (0, .ref h0), (1, .int x1), (2, .int x2)]) hx hb dX6_favourite_51 hl (by decide) rfl (fun ls hl => ?_)
            refine lv_iload hx hb dX6_favourite_53 (lv_at hl 0 rfl) ?_
            refine lv_if_gt (tgt := 68) hx hb dX6_favourite_55 (by decide) (fun c13 => ?_) (fun c13 => ?_)
            · have hf := tp hf c13
              refine lv_iload_n hx hb dX6_favourite_68 rfl (lv_at hl 1 rfl) ?_
              refine lv_goto (tgt := 73) hx hb dX6_favourite_69 (by decide) ?_
              refine lv_istore_n (lv' := [(1, .int q5.1), (4, .int (q9.1 - q11.1)), (3, .int q5.1), (0, .ref h0), (2, .int x2)]) hx hb dX6_favourite_73 rfl hl (by decide) rfl (fun ls hl => ?_)
              refine lv_iinc (v := (x2 + (1 : Int32))) (lv' := [(2, .int (x2 + (1 : Int32))), (1, .int q5.1), (4, .int (q9.1 - q11.1)), (3, .int q5.1), (0, .ref h0)]) hx hb dX6_favourite_74 hl (k := 4) rfl rfl (by decide) rfl (fun ls hl => ?_)
              refine lv_goto (tgt := 4) hx hb dX6_favourite_77 (by decide) ?_
              exact ih _ _ _ hf _ _ _ hP hD hS (lv_sub hl [4, 1, 0] rfl)
            · have hf := tn hf c13
              refine lv_iload hx hb dX6_favourite_58 (lv_at hl 0 rfl) ?_
              refine lv_if_ne (tgt := 72) hx hb dX6_favourite_60 (by decide) (fun c14 => ?_) (fun c14 => ?_)
              · have hf := tn hf c14
                refine lv_iload_n hx hb dX6_favourite_72 rfl (lv_at hl 3 rfl) ?_
                refine lv_istore_n (lv' := [(1, .int x1), (4, .int (q9.1 - q11.1)), (3, .int q5.1), (0, .ref h0), (2, .int x2)]) hx hb dX6_favourite_73 rfl hl (by decide) rfl (fun ls hl => ?_)
                refine lv_iinc (v := (x2 + (1 : Int32))) (lv' := [(2, .int (x2 + (1 : Int32))), (1, .int x1), (4, .int (q9.1 - q11.1)), (3, .int q5.1), (0, .ref h0)]) hx hb dX6_favourite_74 hl (k := 4) rfl rfl (by decide) rfl (fun ls hl => ?_)
                refine lv_goto (tgt := 4) hx hb dX6_favourite_77 (by decide) ?_
                exact ih _ _ _ hf _ _ _ hP hD hS (lv_sub hl [4, 1, 0] rfl)
              · have hf := tp hf c14
                refine lv_iload_n hx hb dX6_favourite_63 rfl (lv_at hl 1 rfl) ?_
                refine lv_iload_n hx hb dX6_favourite_64 rfl (lv_at hl 3 rfl) ?_
                refine lv_icmp_ge (tgt := 72) hx hb dX6_favourite_65 (by decide) (fun c15 => ?_) (fun c15 => ?_)
                · have hf := tp hf c15
                  refine lv_iload_n hx hb dX6_favourite_72 rfl (lv_at hl 3 rfl) ?_
                  refine lv_istore_n (lv' := [(1, .int x1), (4, .int (q9.1 - q11.1)), (3, .int q5.1), (0, .ref h0), (2, .int x2)]) hx hb dX6_favourite_73 rfl hl (by decide) rfl (fun ls hl => ?_)
                  refine lv_iinc (v := (x2 + (1 : Int32))) (lv' := [(2, .int (x2 + (1 : Int32))), (1, .int x1), (4, .int (q9.1 - q11.1)), (3, .int q5.1), (0, .ref h0)]) hx hb dX6_favourite_74 hl (k := 4) rfl rfl (by decide) rfl (fun ls hl => ?_)
                  refine lv_goto (tgt := 4) hx hb dX6_favourite_77 (by decide) ?_
                  exact ih _ _ _ hf _ _ _ hP hD hS (lv_sub hl [4, 1, 0] rfl)
                · have hf := tn hf c15
                  refine lv_iload_n hx hb dX6_favourite_68 rfl (lv_at hl 1 rfl) ?_
                  refine lv_goto (tgt := 73) hx hb dX6_favourite_69 (by decide) ?_
                  refine lv_istore_n (lv' := [(1, .int q5.1), (4, .int (q9.1 - q11.1)), (3, .int q5.1), (0, .ref h0), (2, .int x2)]) hx hb dX6_favourite_73 rfl hl (by decide) rfl (fun ls hl => ?_)
                  refine lv_iinc (v := (x2 + (1 : Int32))) (lv' := [(2, .int (x2 + (1 : Int32))), (1, .int q5.1), (4, .int (q9.1 - q11.1)), (3, .int q5.1), (0, .ref h0)]) hx hb dX6_favourite_74 hl (k := 4) rfl rfl (by decide) rfl (fun ls hl => ?_)
                  refine lv_goto (tgt := 4) hx hb dX6_favourite_77 (by decide) ?_
                  exact ih _ _ _ hf _ _ _ hP hD hS (lv_sub hl [4, 1, 0] rfl)
          · have hf := tp hf c8
            refine lv_iconst (v := (1 : Int32)) hx hb dX6_favourite_36 (by decide) ?_
            refine lv_goto (tgt := 51) hx hb dX6_favourite_37 (by decide) ?_
            refine lv_istore (lv' := [(4, .int (1 : Int32)), (3, .int q5.1), (0, .ref h0), (1, .int x1), (2, .int x2)]) hx hb dX6_favourite_51 hl (by decide) rfl (fun ls hl => ?_)
            refine lv_iload hx hb dX6_favourite_53 (lv_at hl 0 rfl) ?_
            refine lv_if_gt (tgt := 68) hx hb dX6_favourite_55 (by decide) (fun c16 => ?_) (fun c16 => ?_)
            rotate_left
            · exact absurd c16 (by decide)
            refine lv_iload_n hx hb dX6_favourite_68 rfl (lv_at hl 1 rfl) ?_
            refine lv_goto (tgt := 73) hx hb dX6_favourite_69 (by decide) ?_
            refine lv_istore_n (lv' := [(1, .int q5.1), (4, .int (1 : Int32)), (3, .int q5.1), (0, .ref h0), (2, .int x2)]) hx hb dX6_favourite_73 rfl hl (by decide) rfl (fun ls hl => ?_)
            refine lv_iinc (v := (x2 + (1 : Int32))) (lv' := [(2, .int (x2 + (1 : Int32))), (1, .int q5.1), (4, .int (1 : Int32)), (3, .int q5.1), (0, .ref h0)]) hx hb dX6_favourite_74 hl (k := 4) rfl rfl (by decide) rfl (fun ls hl => ?_)
            refine lv_goto (tgt := 4) hx hb dX6_favourite_77 (by decide) ?_
            exact ih _ _ _ hf _ _ _ hP hD hS (lv_sub hl [4, 1, 0] rfl)
        · have hf := tp hf c7
          refine lv_goto (tgt := 74) hx hb dX6_favourite_28 (by decide) ?_
          refine lv_iinc (v := (x2 + (1 : Int32))) (lv' := [(2, .int (x2 + (1 : Int32))), (3, .int q5.1), (0, .ref h0), (1, .int x1)]) hx hb dX6_favourite_74 hl (k := 3) rfl rfl (by decide) rfl (fun ls hl => ?_)
          refine lv_goto (tgt := 4) hx hb dX6_favourite_77 (by decide) ?_
          exact ih _ _ _ hf _ _ _ hP hD hS (lv_sub hl [2, 3, 0] rfl)
  rw [f_X6_favourite] at hf
  refine lv_iconst (v := (-1 : Int32)) hx hb dX6_favourite_0 (by decide) ?_
  refine lv_istore_n (lv' := [(1, .int (-1 : Int32)), (0, .ref h0)]) hx hb dX6_favourite_1 rfl hl (by decide) rfl (fun ls hl => ?_)
  refine lv_iconst (v := (0 : Int32)) hx hb dX6_favourite_2 (by decide) ?_
  refine lv_istore_n (lv' := [(2, .int (0 : Int32)), (1, .int (-1 : Int32)), (0, .ref h0)]) hx hb dX6_favourite_3 rfl hl (by decide) rfl (fun ls hl => ?_)
  exact lp_4 N _ _ _ hf _ _ _ hP hD hS (lv_sub hl [2, 1, 0] rfl)
set_option maxRecDepth 100000 in
set_option maxHeartbeats 4000000 in
theorem c_X6_weakest {l : Launch} {G : Gp} {sz N : Nat} {h0 : Nat} {a0 : Nat → Nat} {u0 : Ob} {q : Int32 × Ob} (hf : f_X6_weakest N u0 = some q) : Met l yX6_weakest (Cond.code yX6_weakest cX6_weakest 5 (some .int) :: lw_g) ({ frames := 1, cells := 0, slots := 0, locals := 22 } : Room) (va_Pc [.ref h0] (pw G (wX6 G h0 a0 u0) sz)) (va_Qi (fun (r : Int32) (v : Ob) => q.1 = r ∧ q.2 = v) (bw G (fun v : Ob => (wX6 G h0 a0 v)) (va_A (wX6 G h0 a0 u0) sz)) (va_A (wX6 G h0 a0 u0) sz)) 0 0 (va_A (wX6 G h0 a0 u0) sz) := by
  refine mt (Qc := (fun A => va_Qi (fun (r : Int32) (v : Ob) => q.1 = r ∧ q.2 = v) (bw G (fun v : Ob => (wX6 G h0 a0 v)) A) A)) (by decide) (Nat.le_of_ble_eq_true rfl) ?_
  intro p e s m below meth c A ls hx hb hr hlk hml hts hown hA hP hK hD hE hS hl
  have hown : s.vm.findClass RX6 = some m.cls := hown
  have hg : ∀ w ∈ lw_g, w.before ([.ref h0] : List Value).toArray s = true := fun w h => hts w (List.mem_cons_of_mem _ h)
  have hC : CallFix p m c cX6_weakest 5 s ([.ref h0] : List Value).toArray (Cond.code yX6_weakest cX6_weakest 5 (some .int) :: lw_g) RX6 := ⟨hx, hb, hml, hown, hts⟩
  have hl : lv_has ls 5 [(0, .ref h0)] := hl
  have li_20 : ∀ (n : Nat) (x1 : Int32) (x2 : Int32) (x3 : Int32) (x4 : Int32) (u0 : Ob) (w : Int32 × Int32 × Int32 × Int32 × Ob), l_X6_weakest_20 N n x1 x2 x3 x4 u0 = some w → (∀ (H : Heap) (locs : List Loc) (ls : Array Slot), va_P (gD G) vwCl (wX6 G h0 a0 w.2.2.2.2) H → va_D A (wX6 G h0 a0 w.2.2.2.2) → va_S A s.heap H locs → lv_has ls 5 [(0, .ref h0), (1, .int w.1), (2, .int w.2.1), (3, .int w.2.2.1), (4, .int w.2.2.2.1)] → W p l e ({ frames := 1, cells := 0, slots := 0, locals := 22 } : Room) s m ([.ref h0] : List Value).toArray below meth c H locs 0 0 (MQ below (va_Qi (fun (r : Int32) (v : Ob) => q.1 = r ∧ q.2 = v) (bw G (fun v : Ob => (wX6 G h0 a0 v)) A) A) ([.ref h0] : List Value).toArray s 0 0 A) (F0 m 79 ls [])) → ∀ (H : Heap) (locs : List Loc) (ls : Array Slot), va_P (gD G) vwCl (wX6 G h0 a0 u0) H → va_D A (wX6 G h0 a0 u0) → va_S A s.heap H locs → lv_has ls 5 [(0, .ref h0), (1, .int x1), (2, .int x2), (3, .int x3), (4, .int x4)] → W p l e ({ frames := 1, cells := 0, slots := 0, locals := 22 } : Room) s m ([.ref h0] : List Value).toArray below meth c H locs 0 0 (MQ below (va_Qi (fun (r : Int32) (v : Ob) => q.1 = r ∧ q.2 = v) (bw G (fun v : Ob => (wX6 G h0 a0 v)) A) A) ([.ref h0] : List Value).toArray s 0 0 A) (F0 m 20 ls []) := by
    intro n
    induction n with
    | zero => intro x1 x2 x3 x4 u0 w hf; rw [l_X6_weakest_20] at hf; cases hf
    | succ n ih =>
      intro x1 x2 x3 x4 u0 w hf kk H locs ls hP hD hS hl
      rw [l_X6_weakest_20] at hf
      refine lv_iload hx hb dX6_weakest_20 (lv_at hl 4 rfl) ?_
      refine lv_i2l (v := x4.toInt64) hx hb dX6_weakest_22 rfl ?_
      refine lv_aload_n hx hb dX6_weakest_23 rfl (lv_at hl 0 rfl) ?_
      refine va_get (D := gD G) (ci := 4) (v := .ref (a0 0)) (C := RX6) (T := TX6) (N := 22) hx hb hg kl_X6 hown hK hP 0 rfl rfl 0 (by decide) (hg _ kq5_5) (fun _ h9 => h9) rfl dX6_weakest_24 ?_
      refine lv_bipush (v := (12 : Int32)) hx hb dX6_weakest_27 (by decide) ?_
      refine va_lald (f := (u0.2.2.2 0)) hx hb hK hP 1 2 rfl rfl (vin (by decide)) dX6_weakest_29 ?_
      refine lc_ge (tgt := 79) hx hb dX6_weakest_30 dX6_weakest_31 (by decide) (fun c2 => ?_) (fun c2 => ?_)
      · have hf := tp hf c2
        have hf := Option.some.inj hf
        subst hf
        exact kk _ _ _ hP hD hS (lv_sub hl [0, 1, 2, 3, 4] rfl)
      · have hf := tn hf c2
        refine lv_ldc2 hx hb hown (hg _ kq6_42) dX6_weakest_34 ?_
        refine lv_iload_n hx hb dX6_weakest_37 rfl (lv_at hl 2 rfl) ?_
        obtain ⟨q3, e4, hf⟩ := tbd hf
        refine kSi0 (As := [.long (576460752302899201 : Int64), .int x2]) (rest := []) hC (c_X6_has (G := G) e4) kq5_145 kc_X6_has (by decide) hP hK hD hE hS hA hl.1 (Nat.le_of_ble_eq_true rfl) ⟨Nat.zero_le _, Nat.zero_le _⟩ dX6_weakest_38 (fun r9 u9 H locs hw hP hD hS => ?_)
        obtain ⟨rfl, rfl⟩ := hw
        refine bz_eq (tgt := 79) hx hb dX6_weakest_41 (by decide) (fun c5 => ?_) (fun c5 => ?_)
        · have hf := tn hf c5
          have hf := Option.some.inj hf
          subst hf
          exact kk _ _ _ hP hD hS (lv_sub hl [0, 1, 2, 3, 4] rfl)
        · have hf := tp hf c5
          refine lv_iload_n hx hb dX6_weakest_44 rfl (lv_at hl 3 rfl) ?_
          refine lv_aload_n hx hb dX6_weakest_45 rfl (lv_at hl 0 rfl) ?_
          refine va_get (D := gD G) (ci := 4) (v := .ref (a0 0)) (C := RX6) (T := TX6) (N := 22) hx hb hg kl_X6 hown hK hP 0 rfl rfl 0 (by decide) (hg _ kq5_5) (fun _ h9 => h9) rfl dX6_weakest_46 ?_
          refine lv_bipush (v := (16 : Int32)) hx hb dX6_weakest_49 (by decide) ?_
          refine lv_iconst (v := (2 : Int32)) hx hb dX6_weakest_51 (by decide) ?_
          refine lv_iload hx hb dX6_weakest_52 (lv_at hl 4 rfl) ?_
          refine lv_imul hx hb dX6_weakest_54 ?_
          refine lv_iadd hx hb dX6_weakest_55 ?_
          refine lv_iconst (v := (1 : Int32)) hx hb dX6_weakest_56 (by decide) ?_
          refine lv_iadd hx hb dX6_weakest_57 ?_
          obtain ⟨b6, hf⟩ := tno hf
          refine va_lald (f := (u0.2.2.2 0)) hx hb hK hP 1 2 rfl rfl b6 dX6_weakest_58 ?_
          refine lv_iload_n hx hb dX6_weakest_59 rfl (lv_at hl 2 rfl) ?_
          obtain ⟨q7, e8, hf⟩ := tbd hf
          refine kSi0 (As := [.long ((u0.2.2.2 0) (((16 : Int32) + ((2 : Int32) * x4)) + (1 : Int32)).toNatClampNeg), .int x2]) (rest := [.int x3]) hC (c_X6_has (G := G) e8) kq5_145 kc_X6_has (by decide) hP hK hD hE hS hA hl.1 (Nat.le_of_ble_eq_true rfl) ⟨Nat.zero_le _, Nat.zero_le _⟩ dX6_weakest_60 (fun r9 u9 H locs hw hP hD hS => ?_)
          obtain ⟨rfl, rfl⟩ := hw
          refine bz_eq (tgt := 70) hx hb dX6_weakest_63 (by decide) (fun c9 => ?_) (fun c9 => ?_)
          · have hf := tn hf c9
            refine lv_iconst (v := (0 : Int32)) hx hb dX6_weakest_70 (by decide) ?_
            refine lv_iadd hx hb dX6_weakest_71 ?_
            refine lv_istore_n (lv' := [(3, .int (x3 + (0 : Int32))), (0, .ref h0), (1, .int x1), (2, .int x2), (4, .int x4)]) hx hb dX6_weakest_72 rfl hl (by decide) rfl (fun ls hl => ?_)
            refine lv_iinc (v := (x4 + (1 : Int32))) (lv' := [(4, .int (x4 + (1 : Int32))), (3, .int (x3 + (0 : Int32))), (0, .ref h0), (1, .int x1), (2, .int x2)]) hx hb dX6_weakest_73 hl (k := 4) rfl rfl (by decide) rfl (fun ls hl => ?_)
            refine lv_goto (tgt := 20) hx hb dX6_weakest_76 (by decide) ?_
            exact ih _ _ _ _ _ w hf kk _ _ _ hP hD hS (lv_sub hl [2, 3, 4, 1, 0] rfl)
          · have hf := tp hf c9
            refine lv_iconst (v := (1 : Int32)) hx hb dX6_weakest_66 (by decide) ?_
            refine lv_goto (tgt := 71) hx hb dX6_weakest_67 (by decide) ?_
            refine lv_iadd hx hb dX6_weakest_71 ?_
            refine lv_istore_n (lv' := [(3, .int (x3 + (1 : Int32))), (0, .ref h0), (1, .int x1), (2, .int x2), (4, .int x4)]) hx hb dX6_weakest_72 rfl hl (by decide) rfl (fun ls hl => ?_)
            refine lv_iinc (v := (x4 + (1 : Int32))) (lv' := [(4, .int (x4 + (1 : Int32))), (3, .int (x3 + (1 : Int32))), (0, .ref h0), (1, .int x1), (2, .int x2)]) hx hb dX6_weakest_73 hl (k := 4) rfl rfl (by decide) rfl (fun ls hl => ?_)
            refine lv_goto (tgt := 20) hx hb dX6_weakest_76 (by decide) ?_
            exact ih _ _ _ _ _ w hf kk _ _ _ hP hD hS (lv_sub hl [2, 3, 4, 1, 0] rfl)
  have lp_9 : ∀ (n : Nat) (x1 : Int32) (x2 : Int32) (u0 : Ob), l_X6_weakest_9 N n x1 x2 u0 = some q → ∀ (H : Heap) (locs : List Loc) (ls : Array Slot), va_P (gD G) vwCl (wX6 G h0 a0 u0) H → va_D A (wX6 G h0 a0 u0) → va_S A s.heap H locs → lv_has ls 5 [(0, .ref h0), (1, .int x1), (2, .int x2)] → W p l e ({ frames := 1, cells := 0, slots := 0, locals := 22 } : Room) s m ([.ref h0] : List Value).toArray below meth c H locs 0 0 (MQ below (va_Qi (fun (r : Int32) (v : Ob) => q.1 = r ∧ q.2 = v) (bw G (fun v : Ob => (wX6 G h0 a0 v)) A) A) ([.ref h0] : List Value).toArray s 0 0 A) (F0 m 9 ls []) := by
    intro n
    induction n with
    | zero => intro x1 x2 u0 hf; rw [l_X6_weakest_9] at hf; cases hf
    | succ n ih =>
      intro x1 x2 u0 hf H locs ls hP hD hS hl
      rw [l_X6_weakest_9] at hf
      refine lv_iload_n hx hb dX6_weakest_9 rfl (lv_at hl 2 rfl) ?_
      refine lv_bipush (v := (59 : Int32)) hx hb dX6_weakest_10 (by decide) ?_
      refine lv_icmp_ge (tgt := 96) hx hb dX6_weakest_12 (by decide) (fun c1 => ?_) (fun c1 => ?_)
      · have hf := tp hf c1
        refine lv_iload_n hx hb dX6_weakest_96 rfl (lv_at hl 1 rfl) ?_
        have hf := Option.some.inj hf
        subst hf
        exact e_i (wf := (fun v : Ob => (wX6 G h0 a0 v))) hx hb hr hlk u0 ⟨rfl, rfl⟩ hP hK hD hS dX6_weakest_97
      · have hf := tn hf c1
        refine lv_iconst (v := (0 : Int32)) hx hb dX6_weakest_15 (by decide) ?_
        refine lv_istore_n (lv' := [(3, .int (0 : Int32)), (0, .ref h0), (1, .int x1), (2, .int x2)]) hx hb dX6_weakest_16 rfl hl (by decide) rfl (fun ls hl => ?_)
        refine lv_iconst (v := (0 : Int32)) hx hb dX6_weakest_17 (by decide) ?_
        refine lv_istore (lv' := [(4, .int (0 : Int32)), (3, .int (0 : Int32)), (0, .ref h0), (1, .int x1), (2, .int x2)]) hx hb dX6_weakest_18 hl (by decide) rfl (fun ls hl => ?_)
        obtain ⟨w10, e11, hf⟩ := tbd hf
        refine li_20 N _ _ _ _ _ w10 e11 (fun H locs ls hP hD hS hl => ?_) _ _ _ hP hD hS (lv_sub hl [2, 3, 4, 1, 0] rfl)
        refine lv_iload_n hx hb dX6_weakest_79 rfl (lv_at hl 3 rfl) ?_
        refine lv_iload_n hx hb dX6_weakest_80 rfl (lv_at hl 1 rfl) ?_
        refine lv_icmp_le (tgt := 88) hx hb dX6_weakest_81 (by decide) (fun c12 => ?_) (fun c12 => ?_)
        · have hf := tp hf c12
          refine lv_iload_n hx hb dX6_weakest_88 rfl (lv_at hl 1 rfl) ?_
          refine lv_istore_n (lv' := [(1, .int w10.1), (0, .ref h0), (2, .int w10.2.1), (3, .int w10.2.2.1), (4, .int w10.2.2.2.1)]) hx hb dX6_weakest_89 rfl hl (by decide) rfl (fun ls hl => ?_)
          refine lv_iinc (v := (w10.2.1 + (1 : Int32))) (lv' := [(2, .int (w10.2.1 + (1 : Int32))), (1, .int w10.1), (0, .ref h0), (3, .int w10.2.2.1), (4, .int w10.2.2.2.1)]) hx hb dX6_weakest_90 hl (k := 2) rfl rfl (by decide) rfl (fun ls hl => ?_)
          refine lv_goto (tgt := 9) hx hb dX6_weakest_93 (by decide) ?_
          exact ih _ _ _ hf _ _ _ hP hD hS (lv_sub hl [2, 1, 0] rfl)
        · have hf := tn hf c12
          refine lv_iload_n hx hb dX6_weakest_84 rfl (lv_at hl 3 rfl) ?_
          refine lv_goto (tgt := 89) hx hb dX6_weakest_85 (by decide) ?_
          refine lv_istore_n (lv' := [(1, .int w10.2.2.1), (0, .ref h0), (2, .int w10.2.1), (3, .int w10.2.2.1), (4, .int w10.2.2.2.1)]) hx hb dX6_weakest_89 rfl hl (by decide) rfl (fun ls hl => ?_)
          refine lv_iinc (v := (w10.2.1 + (1 : Int32))) (lv' := [(2, .int (w10.2.1 + (1 : Int32))), (1, .int w10.2.2.1), (0, .ref h0), (3, .int w10.2.2.1), (4, .int w10.2.2.2.1)]) hx hb dX6_weakest_90 hl (k := 2) rfl rfl (by decide) rfl (fun ls hl => ?_)
          refine lv_goto (tgt := 9) hx hb dX6_weakest_93 (by decide) ?_
          exact ih _ _ _ hf _ _ _ hP hD hS (lv_sub hl [2, 1, 0] rfl)
  rw [f_X6_weakest] at hf
  refine lv_aload_n hx hb dX6_weakest_0 rfl (lv_at hl 0 rfl) ?_
  refine lv_iconst (v := (0 : Int32)) hx hb dX6_weakest_1 (by decide) ?_
  refine va_put (D := gD G) (ci := 4) (v := .int (0 : Int32)) (ty := .int) (C := RX6) (T := TX6) (N := 22) hx hb hg kl_X6 tyX6 tyX6_ok nmX6 hown hK hP hD hS 0 rfl rfl 7 (by decide) (hg _ kq5_12) (fun _ h9 => h9) rfl (by decide +kernel) rfl rfl (Nat.le_of_ble_eq_true rfl) dX6_weakest_2 (fun H locs hP hD hS => ?_)
  have hP : va_P (gD G) vwCl (wX6 G h0 a0 (oi u0 7 (0 : Int32))) H := hP
  have hD : va_D A (wX6 G h0 a0 (oi u0 7 (0 : Int32))) := hD
  refine lv_iconst (v := (0 : Int32)) hx hb dX6_weakest_5 (by decide) ?_
  refine lv_istore_n (lv' := [(1, .int (0 : Int32)), (0, .ref h0)]) hx hb dX6_weakest_6 rfl hl (by decide) rfl (fun ls hl => ?_)
  refine lv_iconst (v := (0 : Int32)) hx hb dX6_weakest_7 (by decide) ?_
  refine lv_istore_n (lv' := [(2, .int (0 : Int32)), (1, .int (0 : Int32)), (0, .ref h0)]) hx hb dX6_weakest_8 rfl hl (by decide) rfl (fun ls hl => ?_)
  exact lp_9 N _ _ _ hf _ _ _ hP hD hS (lv_sub hl [2, 1, 0] rfl)
set_option maxRecDepth 100000 in
set_option maxHeartbeats 4000000 in
theorem c_X6_firstOf {l : Launch} {G : Gp} {sz N : Nat} {x0 : Int32} {q : Int32} (hf : f_X6_firstOf N x0 = some q) : Met l yX6_firstOf (Cond.code yX6_firstOf cX6_firstOf 1 (some .int) :: lw_g) ({ frames := 0, cells := 0, slots := 0, locals := 0 } : Room) (va_Pc [.int x0] (pw G [] sz)) (va_Qi (fun (r : Int32) (v : Unit) => q = r ∧ () = v) (bw G (fun _ : Unit => ([] : va_W)) (va_A [] sz)) (va_A [] sz)) 0 0 (va_A [] sz) := by
  refine mt (Qc := (fun A => va_Qi (fun (r : Int32) (v : Unit) => q = r ∧ () = v) (bw G (fun _ : Unit => ([] : va_W)) A) A)) (by decide) (Nat.le_of_ble_eq_true rfl) ?_
  intro p e s m below meth c A ls hx hb hr hlk hml hts hown hA hP hK hD hE hS hl
  have hown : s.vm.findClass RX6 = some m.cls := hown
  have hg : ∀ w ∈ lw_g, w.before ([.int x0] : List Value).toArray s = true := fun w h => hts w (List.mem_cons_of_mem _ h)
  have hC : CallFix p m c cX6_firstOf 1 s ([.int x0] : List Value).toArray (Cond.code yX6_firstOf cX6_firstOf 1 (some .int) :: lw_g) RX6 := ⟨hx, hb, hml, hown, hts⟩
  have hl : lv_has ls 1 [(0, .int x0)] := hl
  rw [f_X6_firstOf] at hf
  refine lv_iload_n hx hb dX6_firstOf_0 rfl (lv_at hl 0 rfl) ?_
  refine lv_if_ne (tgt := 9) hx hb dX6_firstOf_1 (by decide) (fun c1 => ?_) (fun c1 => ?_)
  · have hf := tn hf c1
    refine lv_iload_n hx hb dX6_firstOf_9 rfl (lv_at hl 0 rfl) ?_
    refine lv_iconst (v := (1 : Int32)) hx hb dX6_firstOf_10 (by decide) ?_
    refine lv_icmp_ne (tgt := 19) hx hb dX6_firstOf_11 (by decide) (fun c2 => ?_) (fun c2 => ?_)
    · have hf := tn hf c2
      refine lv_bipush (v := (36 : Int32)) hx hb dX6_firstOf_19 (by decide) ?_
      have hf := Option.some.inj hf
      subst hf
      exact e_i (wf := (fun _ : Unit => ([] : va_W))) hx hb hr hlk () ⟨rfl, rfl⟩ hP hK hD hS dX6_firstOf_21
    · have hf := tp hf c2
      refine lv_bipush (v := (29 : Int32)) hx hb dX6_firstOf_14 (by decide) ?_
      refine lv_goto (tgt := 21) hx hb dX6_firstOf_16 (by decide) ?_
      have hf := Option.some.inj hf
      subst hf
      exact e_i (wf := (fun _ : Unit => ([] : va_W))) hx hb hr hlk () ⟨rfl, rfl⟩ hP hK hD hS dX6_firstOf_21
  · have hf := tp hf c1
    refine lv_bipush (v := (21 : Int32)) hx hb dX6_firstOf_4 (by decide) ?_
    refine lv_goto (tgt := 21) hx hb dX6_firstOf_6 (by decide) ?_
    have hf := Option.some.inj hf
    subst hf
    exact e_i (wf := (fun _ : Unit => ([] : va_W))) hx hb hr hlk () ⟨rfl, rfl⟩ hP hK hD hS dX6_firstOf_21
set_option maxRecDepth 100000 in
set_option maxHeartbeats 4000000 in
theorem c_X6_lastOf {l : Launch} {G : Gp} {sz N : Nat} {x0 : Int32} {q : Int32} (hf : f_X6_lastOf N x0 = some q) : Met l yX6_lastOf (Cond.code yX6_lastOf cX6_lastOf 1 (some .int) :: lw_g) ({ frames := 0, cells := 0, slots := 0, locals := 0 } : Room) (va_Pc [.int x0] (pw G [] sz)) (va_Qi (fun (r : Int32) (v : Unit) => q = r ∧ () = v) (bw G (fun _ : Unit => ([] : va_W)) (va_A [] sz)) (va_A [] sz)) 0 0 (va_A [] sz) := by
  refine mt (Qc := (fun A => va_Qi (fun (r : Int32) (v : Unit) => q = r ∧ () = v) (bw G (fun _ : Unit => ([] : va_W)) A) A)) (by decide) (Nat.le_of_ble_eq_true rfl) ?_
  intro p e s m below meth c A ls hx hb hr hlk hml hts hown hA hP hK hD hE hS hl
  have hown : s.vm.findClass RX6 = some m.cls := hown
  have hg : ∀ w ∈ lw_g, w.before ([.int x0] : List Value).toArray s = true := fun w h => hts w (List.mem_cons_of_mem _ h)
  have hC : CallFix p m c cX6_lastOf 1 s ([.int x0] : List Value).toArray (Cond.code yX6_lastOf cX6_lastOf 1 (some .int) :: lw_g) RX6 := ⟨hx, hb, hml, hown, hts⟩
  have hl : lv_has ls 1 [(0, .int x0)] := hl
  rw [f_X6_lastOf] at hf
  refine lv_iload_n hx hb dX6_lastOf_0 rfl (lv_at hl 0 rfl) ?_
  refine lv_if_ne (tgt := 9) hx hb dX6_lastOf_1 (by decide) (fun c1 => ?_) (fun c1 => ?_)
  · have hf := tn hf c1
    refine lv_iload_n hx hb dX6_lastOf_9 rfl (lv_at hl 0 rfl) ?_
    refine lv_iconst (v := (1 : Int32)) hx hb dX6_lastOf_10 (by decide) ?_
    refine lv_icmp_ne (tgt := 19) hx hb dX6_lastOf_11 (by decide) (fun c2 => ?_) (fun c2 => ?_)
    · have hf := tn hf c2
      refine lv_bipush (v := (58 : Int32)) hx hb dX6_lastOf_19 (by decide) ?_
      have hf := Option.some.inj hf
      subst hf
      exact e_i (wf := (fun _ : Unit => ([] : va_W))) hx hb hr hlk () ⟨rfl, rfl⟩ hP hK hD hS dX6_lastOf_21
    · have hf := tp hf c2
      refine lv_bipush (v := (35 : Int32)) hx hb dX6_lastOf_14 (by decide) ?_
      refine lv_goto (tgt := 21) hx hb dX6_lastOf_16 (by decide) ?_
      have hf := Option.some.inj hf
      subst hf
      exact e_i (wf := (fun _ : Unit => ([] : va_W))) hx hb hr hlk () ⟨rfl, rfl⟩ hP hK hD hS dX6_lastOf_21
  · have hf := tp hf c1
    refine lv_bipush (v := (28 : Int32)) hx hb dX6_lastOf_4 (by decide) ?_
    refine lv_goto (tgt := 21) hx hb dX6_lastOf_6 (by decide) ?_
    have hf := Option.some.inj hf
    subst hf
    exact e_i (wf := (fun _ : Unit => ([] : va_W))) hx hb hr hlk () ⟨rfl, rfl⟩ hP hK hD hS dX6_lastOf_21
set_option maxRecDepth 100000 in
set_option maxHeartbeats 4000000 in
theorem c_X6_daysBy {l : Launch} {G : Gp} {sz N : Nat} {x0 : Int64} {q : Int32} (hf : f_X6_daysBy N x0 = some q) : Met l yX6_daysBy (Cond.code yX6_daysBy cX6_daysBy 6 (some .int) :: lw_g) ({ frames := 2, cells := 0, slots := 0, locals := 48 } : Room) (va_Pc [.long x0] (pw G [] sz)) (va_Qi (fun (r : Int32) (v : Unit) => q = r ∧ () = v) (bw G (fun _ : Unit => ([] : va_W)) (va_A [] sz)) (va_A [] sz)) 0 0 (va_A [] sz) := by
  refine mt (Qc := (fun A => va_Qi (fun (r : Int32) (v : Unit) => q = r ∧ () = v) (bw G (fun _ : Unit => ([] : va_W)) A) A)) (by decide) (Nat.le_of_ble_eq_true rfl) ?_
  intro p e s m below meth c A ls hx hb hr hlk hml hts hown hA hP hK hD hE hS hl
  have hown : s.vm.findClass RX6 = some m.cls := hown
  have hg : ∀ w ∈ lw_g, w.before ([.long x0] : List Value).toArray s = true := fun w h => hts w (List.mem_cons_of_mem _ h)
  have hC : CallFix p m c cX6_daysBy 6 s ([.long x0] : List Value).toArray (Cond.code yX6_daysBy cX6_daysBy 6 (some .int) :: lw_g) RX6 := ⟨hx, hb, hml, hown, hts⟩
  have hl : lv_has ls 6 [(0, .long x0)] := hl
  rw [f_X6_daysBy] at hf
  refine lv_sipush (v := (2000 : Int32)) hx hb dX6_daysBy_0 (by decide) ?_
  refine lv_lload_n hx hb dX6_daysBy_3 rfl (lv_at hl 0 rfl) ?_
  refine lv_bipush (v := (50 : Int32)) hx hb dX6_daysBy_4 (by decide) ?_
  refine lv_iconst (v := (4 : Int32)) hx hb dX6_daysBy_6 (by decide) ?_
  obtain ⟨q1, e2, hf⟩ := tbd hf
  refine kSi0 (As := [.long x0, .int (50 : Int32), .int (4 : Int32)]) (rest := [.int (2000 : Int32)]) hC (c_X6_valueOf (G := G) e2) kq6_46 kc_X6_valueOf (by decide) hP hK hD hE hS hA hl.1 (Nat.le_of_ble_eq_true rfl) ⟨Nat.zero_le _, Nat.zero_le _⟩ dX6_daysBy_7 (fun r9 u9 H locs hw hP hD hS => ?_)
  obtain ⟨rfl, rfl⟩ := hw
  refine lv_iadd hx hb dX6_daysBy_10 ?_
  refine lv_istore_n (lv' := [(2, .int ((2000 : Int32) + q1)), (0, .long x0)]) hx hb dX6_daysBy_11 rfl hl (by decide) rfl (fun ls hl => ?_)
  refine lv_lload_n hx hb dX6_daysBy_12 rfl (lv_at hl 1 rfl) ?_
  refine lv_bipush (v := (45 : Int32)) hx hb dX6_daysBy_13 (by decide) ?_
  refine lv_iconst (v := (1 : Int32)) hx hb dX6_daysBy_15 (by decide) ?_
  obtain ⟨q3, e4, hf⟩ := tbd hf
  refine kSi0 (As := [.long x0, .int (45 : Int32), .int (1 : Int32)]) (rest := []) hC (c_X6_valueOf (G := G) e4) kq6_46 kc_X6_valueOf (by decide) hP hK hD hE hS hA hl.1 (Nat.le_of_ble_eq_true rfl) ⟨Nat.zero_le _, Nat.zero_le _⟩ dX6_daysBy_16 (fun r9 u9 H locs hw hP hD hS => ?_)
  obtain ⟨rfl, rfl⟩ := hw
  refine lv_istore_n (lv' := [(3, .int q3), (2, .int ((2000 : Int32) + q1)), (0, .long x0)]) hx hb dX6_daysBy_19 rfl hl (by decide) rfl (fun ls hl => ?_)
  refine lv_lload_n hx hb dX6_daysBy_20 rfl (lv_at hl 2 rfl) ?_
  refine lv_bipush (v := (36 : Int32)) hx hb dX6_daysBy_21 (by decide) ?_
  refine lv_iconst (v := (2 : Int32)) hx hb dX6_daysBy_23 (by decide) ?_
  obtain ⟨q5, e6, hf⟩ := tbd hf
  refine kSi0 (As := [.long x0, .int (36 : Int32), .int (2 : Int32)]) (rest := []) hC (c_X6_valueOf (G := G) e6) kq6_46 kc_X6_valueOf (by decide) hP hK hD hE hS hA hl.1 (Nat.le_of_ble_eq_true rfl) ⟨Nat.zero_le _, Nat.zero_le _⟩ dX6_daysBy_24 (fun r9 u9 H locs hw hP hD hS => ?_)
  obtain ⟨rfl, rfl⟩ := hw
  refine lv_istore (lv' := [(4, .int q5), (3, .int q3), (2, .int ((2000 : Int32) + q1)), (0, .long x0)]) hx hb dX6_daysBy_27 hl (by decide) rfl (fun ls hl => ?_)
  refine lv_iload_n hx hb dX6_daysBy_29 rfl (lv_at hl 2 rfl) ?_
  refine lv_iload_n hx hb dX6_daysBy_30 rfl (lv_at hl 1 rfl) ?_
  refine lv_iload hx hb dX6_daysBy_31 (lv_at hl 0 rfl) ?_
  obtain ⟨q7, e8, hf⟩ := tbd hf
  refine kSi0 (As := [.int ((2000 : Int32) + q1), .int q3, .int q5]) (rest := []) hC (c_X6_isDay (G := G) e8) kq5_116 kc_X6_isDay (by decide) hP hK hD hE hS hA hl.1 (Nat.le_of_ble_eq_true rfl) ⟨Nat.zero_le _, Nat.zero_le _⟩ dX6_daysBy_33 (fun r9 u9 H locs hw hP hD hS => ?_)
  obtain ⟨rfl, rfl⟩ := hw
  refine bz_ne (tgt := 41) hx hb dX6_daysBy_36 (by decide) (fun c9 => ?_) (fun c9 => ?_)
  · have hf := tp hf c9
    refine lv_iload_n hx hb dX6_daysBy_41 rfl (lv_at hl 2 rfl) ?_
    refine lv_iload_n hx hb dX6_daysBy_42 rfl (lv_at hl 1 rfl) ?_
    refine lv_iload hx hb dX6_daysBy_43 (lv_at hl 0 rfl) ?_
    refine lv_iconst (v := (0 : Int32)) hx hb dX6_daysBy_45 (by decide) ?_
    refine lv_iconst (v := (0 : Int32)) hx hb dX6_daysBy_46 (by decide) ?_
    obtain ⟨q10, e11, hf⟩ := tbd hf
    refine kSi0 (As := [.int ((2000 : Int32) + q1), .int q3, .int q5, .int (0 : Int32), .int (0 : Int32)]) (rest := []) hC (c_X6_numberFor (G := G) e11) kq5_124 kc_X6_numberFor (by decide) hP hK hD hE hS hA hl.1 (Nat.le_of_ble_eq_true rfl) ⟨Nat.zero_le _, Nat.zero_le _⟩ dX6_daysBy_47 (fun r9 u9 H locs hw hP hD hS => ?_)
    obtain ⟨rfl, rfl⟩ := hw
    refine lv_istore (lv' := [(5, .int q10), (4, .int q5), (3, .int q3), (2, .int ((2000 : Int32) + q1)), (0, .long x0)]) hx hb dX6_daysBy_50 hl (by decide) rfl (fun ls hl => ?_)
    refine lv_lload_n hx hb dX6_daysBy_52 rfl (lv_at hl 4 rfl) ?_
    refine lv_bipush (v := (42 : Int32)) hx hb dX6_daysBy_53 (by decide) ?_
    refine lv_iconst (v := (3 : Int32)) hx hb dX6_daysBy_55 (by decide) ?_
    obtain ⟨q12, e13, hf⟩ := tbd hf
    refine kSi0 (As := [.long x0, .int (42 : Int32), .int (3 : Int32)]) (rest := []) hC (c_X6_ones (G := G) e13) kq6_49 kc_X6_ones (by decide) hP hK hD hE hS hA hl.1 (Nat.le_of_ble_eq_true rfl) ⟨Nat.zero_le _, Nat.zero_le _⟩ dX6_daysBy_56 (fun r9 u9 H locs hw hP hD hS => ?_)
    obtain ⟨rfl, rfl⟩ := hw
    refine lv_iload hx hb dX6_daysBy_59 (lv_at hl 0 rfl) ?_
    refine lv_iconst (v := (5 : Int32)) hx hb dX6_daysBy_61 (by decide) ?_
    obtain ⟨q14, e15, hf⟩ := tbd hf
    refine kSi0 (As := [.int q10, .int (5 : Int32)]) (rest := [.int q12]) hC (c_X6_partOf (G := G) e15) kq5_103 kc_X6_partOf (by decide) hP hK hD hE hS hA hl.1 (Nat.le_of_ble_eq_true rfl) ⟨Nat.zero_le _, Nat.zero_le _⟩ dX6_daysBy_62 (fun r9 u9 H locs hw hP hD hS => ?_)
    obtain ⟨rfl, rfl⟩ := hw
    refine lv_icmp_ne (tgt := 77) hx hb dX6_daysBy_65 (by decide) (fun c16 => ?_) (fun c16 => ?_)
    · have hf := tn hf c16
      refine lv_iconst (v := (-1 : Int32)) hx hb dX6_daysBy_77 (by decide) ?_
      have hf := Option.some.inj hf
      subst hf
      exact e_i (wf := (fun _ : Unit => ([] : va_W))) hx hb hr hlk () ⟨rfl, rfl⟩ hP hK hD hS dX6_daysBy_78
    · have hf := tp hf c16
      refine lv_iload hx hb dX6_daysBy_68 (lv_at hl 0 rfl) ?_
      refine lv_sipush (v := (1440 : Int32)) hx hb dX6_daysBy_70 (by decide) ?_
      refine lv_idiv hx hb dX6_daysBy_73 (by decide) ?_
      refine lv_goto (tgt := 78) hx hb dX6_daysBy_74 (by decide) ?_
      have hf := Option.some.inj hf
      subst hf
      exact e_i (wf := (fun _ : Unit => ([] : va_W))) hx hb hr hlk () ⟨rfl, rfl⟩ hP hK hD hS dX6_daysBy_78
  · have hf := tn hf c9
    refine lv_iconst (v := (-1 : Int32)) hx hb dX6_daysBy_39 (by decide) ?_
    have hf := Option.some.inj hf
    subst hf
    exact e_i (wf := (fun _ : Unit => ([] : va_W))) hx hb hr hlk () ⟨rfl, rfl⟩ hP hK hD hS dX6_daysBy_40
set_option maxRecDepth 100000 in
set_option maxHeartbeats 4000000 in
theorem c_X6_blockOf {l : Launch} {G : Gp} {sz N : Nat} {x1 : Int32} {x2 : Int32} {h0 : Nat} {a0 : Nat → Nat} {u0 : Ob} {q : Int32} (hf : f_X6_blockOf N x1 x2 u0 = some q) : Met l yX6_blockOf (Cond.code yX6_blockOf cX6_blockOf 8 (some .int) :: lw_g) ({ frames := 3, cells := 0, slots := 0, locals := 73 } : Room) (va_Pc [.ref h0, .int x1, .int x2] (pw G (wX6 G h0 a0 u0) sz)) (va_Qi (fun (r : Int32) (v : Ob) => q = r ∧ u0 = v) (bw G (fun v : Ob => (wX6 G h0 a0 v)) (va_A (wX6 G h0 a0 u0) sz)) (va_A (wX6 G h0 a0 u0) sz)) 0 0 (va_A (wX6 G h0 a0 u0) sz) := by
  refine mt (Qc := (fun A => va_Qi (fun (r : Int32) (v : Ob) => q = r ∧ u0 = v) (bw G (fun v : Ob => (wX6 G h0 a0 v)) A) A)) (by decide) (Nat.le_of_ble_eq_true rfl) ?_
  intro p e s m below meth c A ls hx hb hr hlk hml hts hown hA hP hK hD hE hS hl
  have hown : s.vm.findClass RX6 = some m.cls := hown
  have hg : ∀ w ∈ lw_g, w.before ([.ref h0, .int x1, .int x2] : List Value).toArray s = true := fun w h => hts w (List.mem_cons_of_mem _ h)
  have hC : CallFix p m c cX6_blockOf 8 s ([.ref h0, .int x1, .int x2] : List Value).toArray (Cond.code yX6_blockOf cX6_blockOf 8 (some .int) :: lw_g) RX6 := ⟨hx, hb, hml, hown, hts⟩
  have hl : lv_has ls 8 [(0, .ref h0), (1, .int x1), (2, .int x2)] := hl
  rw [f_X6_blockOf] at hf
  refine lv_aload_n hx hb dX6_blockOf_0 rfl (lv_at hl 0 rfl) ?_
  refine va_get (D := gD G) (ci := 4) (v := .ref (a0 0)) (C := RX6) (T := TX6) (N := 22) hx hb hg kl_X6 hown hK hP 0 rfl rfl 0 (by decide) (hg _ kq5_5) (fun _ h9 => h9) rfl dX6_blockOf_1 ?_
  refine lv_bipush (v := (16 : Int32)) hx hb dX6_blockOf_4 (by decide) ?_
  refine lv_iconst (v := (2 : Int32)) hx hb dX6_blockOf_6 (by decide) ?_
  refine lv_iload_n hx hb dX6_blockOf_7 rfl (lv_at hl 1 rfl) ?_
  refine lv_imul hx hb dX6_blockOf_8 ?_
  refine lv_iadd hx hb dX6_blockOf_9 ?_
  obtain ⟨b1, hf⟩ := tno hf
  refine va_lald (f := (u0.2.2.2 0)) hx hb hK hP 1 2 rfl rfl b1 dX6_blockOf_10 ?_
  refine lv_lstore_n (lv' := [(3, .long ((u0.2.2.2 0) ((16 : Int32) + ((2 : Int32) * x1)).toNatClampNeg)), (0, .ref h0), (1, .int x1), (2, .int x2)]) hx hb dX6_blockOf_11 rfl hl (by decide) rfl (fun ls hl => ?_)
  refine lv_iload_n hx hb dX6_blockOf_12 rfl (lv_at hl 3 rfl) ?_
  obtain ⟨q2, e3, hf⟩ := tbd hf
  refine kSi0 (As := [.int x2]) (rest := []) hC (c_X6_firstOf (G := G) e3) kq6_142 kc_X6_firstOf (by decide) hP hK hD hE hS hA hl.1 (Nat.le_of_ble_eq_true rfl) ⟨Nat.zero_le _, Nat.zero_le _⟩ dX6_blockOf_13 (fun r9 u9 H locs hw hP hD hS => ?_)
  obtain ⟨rfl, rfl⟩ := hw
  refine lv_iload_n hx hb dX6_blockOf_16 rfl (lv_at hl 3 rfl) ?_
  obtain ⟨q4, e5, hf⟩ := tbd hf
  refine kSi0 (As := [.int x2]) (rest := [.int q2]) hC (c_X6_lastOf (G := G) e5) kq6_145 kc_X6_lastOf (by decide) hP hK hD hE hS hA hl.1 (Nat.le_of_ble_eq_true rfl) ⟨Nat.zero_le _, Nat.zero_le _⟩ dX6_blockOf_17 (fun r9 u9 H locs hw hP hD hS => ?_)
  obtain ⟨rfl, rfl⟩ := hw
  obtain ⟨q6, e7, hf⟩ := tbd hf
  refine kSl0 (As := [.int q2, .int q4]) (rest := []) hC (c_X6_span (G := G) e7) kq6_148 kc_X6_span (by decide) hP hK hD hE hS hA hl.1 (Nat.le_of_ble_eq_true rfl) ⟨Nat.zero_le _, Nat.zero_le _⟩ dX6_blockOf_20 (fun r9 u9 H locs hw hP hD hS => ?_)
  obtain ⟨rfl, rfl⟩ := hw
  refine lv_lstore (lv' := [(5, .long q6), (3, .long ((u0.2.2.2 0) ((16 : Int32) + ((2 : Int32) * x1)).toNatClampNeg)), (0, .ref h0), (1, .int x1), (2, .int x2)]) hx hb dX6_blockOf_23 hl (by decide) rfl (fun ls hl => ?_)
  refine lv_aload_n hx hb dX6_blockOf_25 rfl (lv_at hl 2 rfl) ?_
  refine va_get (D := gD G) (ci := 4) (v := .ref (a0 0)) (C := RX6) (T := TX6) (N := 22) hx hb hg kl_X6 hown hK hP 0 rfl rfl 0 (by decide) (hg _ kq5_5) (fun _ h9 => h9) rfl dX6_blockOf_26 ?_
  refine lv_bipush (v := (16 : Int32)) hx hb dX6_blockOf_29 (by decide) ?_
  refine lv_iconst (v := (2 : Int32)) hx hb dX6_blockOf_31 (by decide) ?_
  refine lv_iload_n hx hb dX6_blockOf_32 rfl (lv_at hl 3 rfl) ?_
  refine lv_imul hx hb dX6_blockOf_33 ?_
  refine lv_iadd hx hb dX6_blockOf_34 ?_
  refine lv_iconst (v := (1 : Int32)) hx hb dX6_blockOf_35 (by decide) ?_
  refine lv_iadd hx hb dX6_blockOf_36 ?_
  obtain ⟨b8, hf⟩ := tno hf
  refine va_lald (f := (u0.2.2.2 0)) hx hb hK hP 1 2 rfl rfl b8 dX6_blockOf_37 ?_
  refine lv_lload hx hb dX6_blockOf_38 (lv_at hl 0 rfl) ?_
  refine lv_land hx hb dX6_blockOf_40 ?_
  refine lv_lconst (v := (0 : Int64)) hx hb dX6_blockOf_41 (by decide) ?_
  refine lc_ne (tgt := 61) hx hb dX6_blockOf_42 dX6_blockOf_43 (by decide) (fun c9 => ?_) (fun c9 => ?_)
  · have hf := tn hf c9
    refine lv_iconst (v := (-1 : Int32)) hx hb dX6_blockOf_61 (by decide) ?_
    have hf := Option.some.inj hf
    subst hf
    exact e_i (wf := (fun v : Ob => (wX6 G h0 a0 v))) hx hb hr hlk u0 ⟨rfl, rfl⟩ hP hK hD hS dX6_blockOf_62
  · have hf := tp hf c9
    refine lv_lload_n hx hb dX6_blockOf_46 rfl (lv_at hl 1 rfl) ?_
    refine lv_iload_n hx hb dX6_blockOf_47 rfl (lv_at hl 4 rfl) ?_
    obtain ⟨q10, e11, hf⟩ := tbd hf
    refine kSi0 (As := [.int x2]) (rest := [.long ((u0.2.2.2 0) ((16 : Int32) + ((2 : Int32) * x1)).toNatClampNeg)]) hC (c_X6_firstOf (G := G) e11) kq6_142 kc_X6_firstOf (by decide) hP hK hD hE hS hA hl.1 (Nat.le_of_ble_eq_true rfl) ⟨Nat.zero_le _, Nat.zero_le _⟩ dX6_blockOf_48 (fun r9 u9 H locs hw hP hD hS => ?_)
    obtain ⟨rfl, rfl⟩ := hw
    refine lv_iload_n hx hb dX6_blockOf_51 rfl (lv_at hl 4 rfl) ?_
    obtain ⟨q12, e13, hf⟩ := tbd hf
    refine kSi0 (As := [.int x2]) (rest := [.int q10, .long ((u0.2.2.2 0) ((16 : Int32) + ((2 : Int32) * x1)).toNatClampNeg)]) hC (c_X6_lastOf (G := G) e13) kq6_145 kc_X6_lastOf (by decide) hP hK hD hE hS hA hl.1 (Nat.le_of_ble_eq_true rfl) ⟨Nat.zero_le _, Nat.zero_le _⟩ dX6_blockOf_52 (fun r9 u9 H locs hw hP hD hS => ?_)
    obtain ⟨rfl, rfl⟩ := hw
    obtain ⟨q14, e15, hf⟩ := tbd hf
    refine kSi0 (As := [.long ((u0.2.2.2 0) ((16 : Int32) + ((2 : Int32) * x1)).toNatClampNeg), .int q10, .int q12]) (rest := []) hC (c_X6_isOdd (G := G) e15) kq6_43 kc_X6_isOdd (by decide) hP hK hD hE hS hA hl.1 (Nat.le_of_ble_eq_true rfl) ⟨Nat.zero_le _, Nat.zero_le _⟩ dX6_blockOf_55 (fun r9 u9 H locs hw hP hD hS => ?_)
    obtain ⟨rfl, rfl⟩ := hw
    refine bz_eq (tgt := 63) hx hb dX6_blockOf_58 (by decide) (fun c16 => ?_) (fun c16 => ?_)
    · have hf := tn hf c16
      refine lv_iload_n hx hb dX6_blockOf_63 rfl (lv_at hl 4 rfl) ?_
      refine lv_iconst (v := (2 : Int32)) hx hb dX6_blockOf_64 (by decide) ?_
      refine lv_icmp_ne (tgt := 73) hx hb dX6_blockOf_65 (by decide) (fun c17 => ?_) (fun c17 => ?_)
      · have hf := tn hf c17
        refine lv_iload_n hx hb dX6_blockOf_73 rfl (lv_at hl 4 rfl) ?_
        refine lv_if_ne (tgt := 87) hx hb dX6_blockOf_74 (by decide) (fun c18 => ?_) (fun c18 => ?_)
        · have hf := tn hf c18
          refine lv_lload_n hx hb dX6_blockOf_87 rfl (lv_at hl 1 rfl) ?_
          refine lv_bipush (v := (29 : Int32)) hx hb dX6_blockOf_88 (by decide) ?_
          refine lv_iconst (v := (2 : Int32)) hx hb dX6_blockOf_90 (by decide) ?_
          obtain ⟨q19, e20, hf⟩ := tbd hf
          refine kSi0 (As := [.long ((u0.2.2.2 0) ((16 : Int32) + ((2 : Int32) * x1)).toNatClampNeg), .int (29 : Int32), .int (2 : Int32)]) (rest := []) hC (c_X6_valueOf (G := G) e20) kq6_46 kc_X6_valueOf (by decide) hP hK hD hE hS hA hl.1 (Nat.le_of_ble_eq_true rfl) ⟨Nat.zero_le _, Nat.zero_le _⟩ dX6_blockOf_91 (fun r9 u9 H locs hw hP hD hS => ?_)
          obtain ⟨rfl, rfl⟩ := hw
          refine lv_istore (lv' := [(7, .int q19), (5, .long q6), (3, .long ((u0.2.2.2 0) ((16 : Int32) + ((2 : Int32) * x1)).toNatClampNeg)), (0, .ref h0), (1, .int x1), (2, .int x2)]) hx hb dX6_blockOf_94 hl (by decide) rfl (fun ls hl => ?_)
          refine lv_iload hx hb dX6_blockOf_96 (lv_at hl 0 rfl) ?_
          refine lv_iload_n hx hb dX6_blockOf_98 rfl (lv_at hl 5 rfl) ?_
          refine lv_if_ne (tgt := 107) hx hb dX6_blockOf_99 (by decide) (fun c21 => ?_) (fun c21 => ?_)
          · have hf := tn hf c21
            refine lv_bipush (v := (23 : Int32)) hx hb dX6_blockOf_107 (by decide) ?_
            refine lv_icmp_le (tgt := 116) hx hb dX6_blockOf_109 (by decide) (fun c22 => ?_) (fun c22 => ?_)
            · have hf := tp hf c22
              refine lv_iload hx hb dX6_blockOf_116 (lv_at hl 0 rfl) ?_
              have hf := Option.some.inj hf
              subst hf
              exact e_i (wf := (fun v : Ob => (wX6 G h0 a0 v))) hx hb hr hlk u0 ⟨rfl, rfl⟩ hP hK hD hS dX6_blockOf_118
            · have hf := tn hf c22
              refine lv_iconst (v := (-1 : Int32)) hx hb dX6_blockOf_112 (by decide) ?_
              refine lv_goto (tgt := 118) hx hb dX6_blockOf_113 (by decide) ?_
              have hf := Option.some.inj hf
              subst hf
              exact e_i (wf := (fun v : Ob => (wX6 G h0 a0 v))) hx hb hr hlk u0 ⟨rfl, rfl⟩ hP hK hD hS dX6_blockOf_118
          · have hf := tp hf c21
            refine lv_bipush (v := (59 : Int32)) hx hb dX6_blockOf_102 (by decide) ?_
            refine lv_goto (tgt := 109) hx hb dX6_blockOf_104 (by decide) ?_
            refine lv_icmp_le (tgt := 116) hx hb dX6_blockOf_109 (by decide) (fun c23 => ?_) (fun c23 => ?_)
            · have hf := tp hf c23
              refine lv_iload hx hb dX6_blockOf_116 (lv_at hl 0 rfl) ?_
              have hf := Option.some.inj hf
              subst hf
              exact e_i (wf := (fun v : Ob => (wX6 G h0 a0 v))) hx hb hr hlk u0 ⟨rfl, rfl⟩ hP hK hD hS dX6_blockOf_118
            · have hf := tn hf c23
              refine lv_iconst (v := (-1 : Int32)) hx hb dX6_blockOf_112 (by decide) ?_
              refine lv_goto (tgt := 118) hx hb dX6_blockOf_113 (by decide) ?_
              have hf := Option.some.inj hf
              subst hf
              exact e_i (wf := (fun v : Ob => (wX6 G h0 a0 v))) hx hb hr hlk u0 ⟨rfl, rfl⟩ hP hK hD hS dX6_blockOf_118
        · have hf := tp hf c18
          refine lv_lload_n hx hb dX6_blockOf_77 rfl (lv_at hl 1 rfl) ?_
          refine lv_bipush (v := (21 : Int32)) hx hb dX6_blockOf_78 (by decide) ?_
          refine lv_iconst (v := (3 : Int32)) hx hb dX6_blockOf_80 (by decide) ?_
          obtain ⟨q24, e25, hf⟩ := tbd hf
          refine kSi0 (As := [.long ((u0.2.2.2 0) ((16 : Int32) + ((2 : Int32) * x1)).toNatClampNeg), .int (21 : Int32), .int (3 : Int32)]) (rest := []) hC (c_X6_valueOf (G := G) e25) kq6_46 kc_X6_valueOf (by decide) hP hK hD hE hS hA hl.1 (Nat.le_of_ble_eq_true rfl) ⟨Nat.zero_le _, Nat.zero_le _⟩ dX6_blockOf_81 (fun r9 u9 H locs hw hP hD hS => ?_)
          obtain ⟨rfl, rfl⟩ := hw
          refine lv_goto (tgt := 94) hx hb dX6_blockOf_84 (by decide) ?_
          refine lv_istore (lv' := [(7, .int q24), (5, .long q6), (3, .long ((u0.2.2.2 0) ((16 : Int32) + ((2 : Int32) * x1)).toNatClampNeg)), (0, .ref h0), (1, .int x1), (2, .int x2)]) hx hb dX6_blockOf_94 hl (by decide) rfl (fun ls hl => ?_)
          refine lv_iload hx hb dX6_blockOf_96 (lv_at hl 0 rfl) ?_
          refine lv_iload_n hx hb dX6_blockOf_98 rfl (lv_at hl 5 rfl) ?_
          refine lv_if_ne (tgt := 107) hx hb dX6_blockOf_99 (by decide) (fun c26 => ?_) (fun c26 => ?_)
          · have hf := tn hf c26
            refine lv_bipush (v := (23 : Int32)) hx hb dX6_blockOf_107 (by decide) ?_
            refine lv_icmp_le (tgt := 116) hx hb dX6_blockOf_109 (by decide) (fun c27 => ?_) (fun c27 => ?_)
            · have hf := tp hf c27
              refine lv_iload hx hb dX6_blockOf_116 (lv_at hl 0 rfl) ?_
              have hf := Option.some.inj hf
              subst hf
              exact e_i (wf := (fun v : Ob => (wX6 G h0 a0 v))) hx hb hr hlk u0 ⟨rfl, rfl⟩ hP hK hD hS dX6_blockOf_118
            · have hf := tn hf c27
              refine lv_iconst (v := (-1 : Int32)) hx hb dX6_blockOf_112 (by decide) ?_
              refine lv_goto (tgt := 118) hx hb dX6_blockOf_113 (by decide) ?_
              have hf := Option.some.inj hf
              subst hf
              exact e_i (wf := (fun v : Ob => (wX6 G h0 a0 v))) hx hb hr hlk u0 ⟨rfl, rfl⟩ hP hK hD hS dX6_blockOf_118
          · have hf := tp hf c26
            refine lv_bipush (v := (59 : Int32)) hx hb dX6_blockOf_102 (by decide) ?_
            refine lv_goto (tgt := 109) hx hb dX6_blockOf_104 (by decide) ?_
            refine lv_icmp_le (tgt := 116) hx hb dX6_blockOf_109 (by decide) (fun c28 => ?_) (fun c28 => ?_)
            · have hf := tp hf c28
              refine lv_iload hx hb dX6_blockOf_116 (lv_at hl 0 rfl) ?_
              have hf := Option.some.inj hf
              subst hf
              exact e_i (wf := (fun v : Ob => (wX6 G h0 a0 v))) hx hb hr hlk u0 ⟨rfl, rfl⟩ hP hK hD hS dX6_blockOf_118
            · have hf := tn hf c28
              refine lv_iconst (v := (-1 : Int32)) hx hb dX6_blockOf_112 (by decide) ?_
              refine lv_goto (tgt := 118) hx hb dX6_blockOf_113 (by decide) ?_
              have hf := Option.some.inj hf
              subst hf
              exact e_i (wf := (fun v : Ob => (wX6 G h0 a0 v))) hx hb hr hlk u0 ⟨rfl, rfl⟩ hP hK hD hS dX6_blockOf_118
      · have hf := tp hf c17
        refine lv_lload_n hx hb dX6_blockOf_68 rfl (lv_at hl 1 rfl) ?_
        obtain ⟨q29, e30, hf⟩ := tbd hf
        refine kSi0 (As := [.long ((u0.2.2.2 0) ((16 : Int32) + ((2 : Int32) * x1)).toNatClampNeg)]) (rest := []) hC (c_X6_daysBy (G := G) e30) kq6_151 kc_X6_daysBy (by decide) hP hK hD hE hS hA hl.1 (Nat.le_of_ble_eq_true rfl) ⟨Nat.zero_le _, Nat.zero_le _⟩ dX6_blockOf_69 (fun r9 u9 H locs hw hP hD hS => ?_)
        obtain ⟨rfl, rfl⟩ := hw
        have hf := Option.some.inj hf
        subst hf
        exact e_i (wf := (fun v : Ob => (wX6 G h0 a0 v))) hx hb hr hlk u0 ⟨rfl, rfl⟩ hP hK hD hS dX6_blockOf_72
    · have hf := tp hf c16
      refine lv_iconst (v := (-1 : Int32)) hx hb dX6_blockOf_61 (by decide) ?_
      have hf := Option.some.inj hf
      subst hf
      exact e_i (wf := (fun v : Ob => (wX6 G h0 a0 v))) hx hb hr hlk u0 ⟨rfl, rfl⟩ hP hK hD hS dX6_blockOf_62
set_option maxRecDepth 100000 in
set_option maxHeartbeats 4000000 in
theorem c_X6_block {l : Launch} {G : Gp} {sz N : Nat} {x1 : Int32} {x2 : Int32} {h0 : Nat} {a0 : Nat → Nat} {u0 : Ob} {q : Int32 × Ob} (hf : f_X6_block N x1 x2 u0 = some q) : Met l yX6_block (Cond.code yX6_block cX6_block 3 (some .int) :: lw_g) ({ frames := 4, cells := 0, slots := 0, locals := 100 } : Room) (va_Pc [.ref h0, .int x1, .int x2] (pw G (wX6 G h0 a0 u0) sz)) (va_Qi (fun (r : Int32) (v : Ob) => q.1 = r ∧ q.2 = v) (bw G (fun v : Ob => (wX6 G h0 a0 v)) (va_A (wX6 G h0 a0 u0) sz)) (va_A (wX6 G h0 a0 u0) sz)) 0 0 (va_A (wX6 G h0 a0 u0) sz) := by
  refine mt (Qc := (fun A => va_Qi (fun (r : Int32) (v : Ob) => q.1 = r ∧ q.2 = v) (bw G (fun v : Ob => (wX6 G h0 a0 v)) A) A)) (by decide) (Nat.le_of_ble_eq_true rfl) ?_
  intro p e s m below meth c A ls hx hb hr hlk hml hts hown hA hP hK hD hE hS hl
  have hown : s.vm.findClass RX6 = some m.cls := hown
  have hg : ∀ w ∈ lw_g, w.before ([.ref h0, .int x1, .int x2] : List Value).toArray s = true := fun w h => hts w (List.mem_cons_of_mem _ h)
  have hC : CallFix p m c cX6_block 3 s ([.ref h0, .int x1, .int x2] : List Value).toArray (Cond.code yX6_block cX6_block 3 (some .int) :: lw_g) RX6 := ⟨hx, hb, hml, hown, hts⟩
  have hl : lv_has ls 3 [(0, .ref h0), (1, .int x1), (2, .int x2)] := hl
  rw [f_X6_block] at hf
  refine lv_aload_n hx hb dX6_block_0 rfl (lv_at hl 0 rfl) ?_
  refine lv_aload_n hx hb dX6_block_1 rfl (lv_at hl 0 rfl) ?_
  refine lv_iload_n hx hb dX6_block_2 rfl (lv_at hl 1 rfl) ?_
  obtain ⟨q1, e2, hf⟩ := tbd hf
  refine kVi1 (As := [.int x1]) (rest := [.ref h0]) hC (c_X6_isFrame (G := G) e2) kq6_114 kc_X6_isFrame (by decide) 0 (ci := 4) rfl rfl hP hK hD hE hS hA hl.1 (Nat.le_of_ble_eq_true rfl) ⟨Nat.zero_le _, Nat.zero_le _⟩ dX6_block_3 (fun r9 u9 H locs hw hP hD hS => ?_)
  obtain ⟨rfl, rfl⟩ := hw
  have hP : va_P (gD G) vwCl (wX6 G h0 a0 u0) H := hP
  have hD : va_D A (wX6 G h0 a0 u0) := hD
  refine bz_ne (tgt := 13) hx hb dX6_block_6 (by decide) (fun c3 => ?_) (fun c3 => ?_)
  · have hf := tp hf c3
    refine lv_iload_n hx hb dX6_block_13 rfl (lv_at hl 2 rfl) ?_
    refine lv_i2l (v := x2.toInt64) hx hb dX6_block_14 rfl ?_
    refine lv_lconst (v := (0 : Int64)) hx hb dX6_block_15 (by decide) ?_
    refine lv_ldc2 hx hb hown (hg _ kq6_9) dX6_block_16 ?_
    obtain ⟨q4, e5, hf⟩ := tbd hf
    refine kSi0 (As := [.long x2.toInt64, .long (0 : Int64), .long (2 : Int64)]) (rest := [.ref h0]) hC (c_X6_isIn (G := G) e5) kq5_84 kc_X6_isIn (by decide) hP hK hD hE hS hA hl.1 (Nat.le_of_ble_eq_true rfl) ⟨Nat.zero_le _, Nat.zero_le _⟩ dX6_block_19 (fun r9 u9 H locs hw hP hD hS => ?_)
    obtain ⟨rfl, rfl⟩ := hw
    refine bz_eq (tgt := 29) hx hb dX6_block_22 (by decide) (fun c6 => ?_) (fun c6 => ?_)
    · have hf := tn hf c6
      refine lv_iconst (v := (2 : Int32)) hx hb dX6_block_29 (by decide) ?_
      refine va_put (D := gD G) (ci := 4) (v := .int (2 : Int32)) (ty := .int) (C := RX6) (T := TX6) (N := 22) hx hb hg kl_X6 tyX6 tyX6_ok nmX6 hown hK hP hD hS 0 rfl rfl 7 (by decide) (hg _ kq5_12) (fun _ h9 => h9) rfl (by decide +kernel) rfl rfl (Nat.le_of_ble_eq_true rfl) dX6_block_30 (fun H locs hP hD hS => ?_)
      have hP : va_P (gD G) vwCl (wX6 G h0 a0 (oi u0 7 (2 : Int32))) H := hP
      have hD : va_D A (wX6 G h0 a0 (oi u0 7 (2 : Int32))) := hD
      refine lv_aload_n hx hb dX6_block_33 rfl (lv_at hl 0 rfl) ?_
      refine va_get (D := gD G) (ci := 4) (v := .int (2 : Int32)) (C := RX6) (T := TX6) (N := 22) hx hb hg kl_X6 hown hK hP 0 rfl rfl 7 (by decide) (hg _ kq5_12) (fun _ h9 => h9) rfl dX6_block_34 ?_
      refine lv_if_le (tgt := 44) hx hb dX6_block_37 (by decide) (fun c7 => ?_) (fun c7 => ?_)
      · exact absurd c7 (by decide)
      refine lv_iconst (v := (0 : Int32)) hx hb dX6_block_40 (by decide) ?_
      refine lv_goto (tgt := 50) hx hb dX6_block_41 (by decide) ?_
      have hf := Option.some.inj hf
      subst hf
      exact e_i (wf := (fun v : Ob => (wX6 G h0 a0 v))) hx hb hr hlk (oi u0 7 (2 : Int32)) ⟨rfl, rfl⟩ hP hK hD hS dX6_block_50
    · have hf := tp hf c6
      refine lv_iconst (v := (0 : Int32)) hx hb dX6_block_25 (by decide) ?_
      refine lv_goto (tgt := 30) hx hb dX6_block_26 (by decide) ?_
      refine va_put (D := gD G) (ci := 4) (v := .int (0 : Int32)) (ty := .int) (C := RX6) (T := TX6) (N := 22) hx hb hg kl_X6 tyX6 tyX6_ok nmX6 hown hK hP hD hS 0 rfl rfl 7 (by decide) (hg _ kq5_12) (fun _ h9 => h9) rfl (by decide +kernel) rfl rfl (Nat.le_of_ble_eq_true rfl) dX6_block_30 (fun H locs hP hD hS => ?_)
      have hP : va_P (gD G) vwCl (wX6 G h0 a0 (oi u0 7 (0 : Int32))) H := hP
      have hD : va_D A (wX6 G h0 a0 (oi u0 7 (0 : Int32))) := hD
      refine lv_aload_n hx hb dX6_block_33 rfl (lv_at hl 0 rfl) ?_
      refine va_get (D := gD G) (ci := 4) (v := .int (0 : Int32)) (C := RX6) (T := TX6) (N := 22) hx hb hg kl_X6 hown hK hP 0 rfl rfl 7 (by decide) (hg _ kq5_12) (fun _ h9 => h9) rfl dX6_block_34 ?_
      refine lv_if_le (tgt := 44) hx hb dX6_block_37 (by decide) (fun c8 => ?_) (fun c8 => ?_)
      rotate_left
      · exact absurd c8 (by decide)
      refine lv_aload_n hx hb dX6_block_44 rfl (lv_at hl 0 rfl) ?_
      refine lv_iload_n hx hb dX6_block_45 rfl (lv_at hl 1 rfl) ?_
      refine lv_iload_n hx hb dX6_block_46 rfl (lv_at hl 2 rfl) ?_
      obtain ⟨q9, e10, hf⟩ := tbd hf
      refine kVi1 (As := [.int x1, .int x2]) (rest := []) hC (c_X6_blockOf (G := G) e10) kq6_138 kc_X6_blockOf (by decide) 0 (ci := 4) rfl rfl hP hK hD hE hS hA hl.1 (Nat.le_of_ble_eq_true rfl) ⟨Nat.zero_le _, Nat.zero_le _⟩ dX6_block_47 (fun r9 u9 H locs hw hP hD hS => ?_)
      obtain ⟨rfl, rfl⟩ := hw
      have hP : va_P (gD G) vwCl (wX6 G h0 a0 (oi u0 7 (0 : Int32))) H := hP
      have hD : va_D A (wX6 G h0 a0 (oi u0 7 (0 : Int32))) := hD
      have hf := Option.some.inj hf
      subst hf
      exact e_i (wf := (fun v : Ob => (wX6 G h0 a0 v))) hx hb hr hlk (oi u0 7 (0 : Int32)) ⟨rfl, rfl⟩ hP hK hD hS dX6_block_50
  · have hf := tn hf c3
    refine lv_iconst (v := (1 : Int32)) hx hb dX6_block_9 (by decide) ?_
    refine lv_goto (tgt := 30) hx hb dX6_block_10 (by decide) ?_
    refine va_put (D := gD G) (ci := 4) (v := .int (1 : Int32)) (ty := .int) (C := RX6) (T := TX6) (N := 22) hx hb hg kl_X6 tyX6 tyX6_ok nmX6 hown hK hP hD hS 0 rfl rfl 7 (by decide) (hg _ kq5_12) (fun _ h9 => h9) rfl (by decide +kernel) rfl rfl (Nat.le_of_ble_eq_true rfl) dX6_block_30 (fun H locs hP hD hS => ?_)
    have hP : va_P (gD G) vwCl (wX6 G h0 a0 (oi u0 7 (1 : Int32))) H := hP
    have hD : va_D A (wX6 G h0 a0 (oi u0 7 (1 : Int32))) := hD
    refine lv_aload_n hx hb dX6_block_33 rfl (lv_at hl 0 rfl) ?_
    refine va_get (D := gD G) (ci := 4) (v := .int (1 : Int32)) (C := RX6) (T := TX6) (N := 22) hx hb hg kl_X6 hown hK hP 0 rfl rfl 7 (by decide) (hg _ kq5_12) (fun _ h9 => h9) rfl dX6_block_34 ?_
    refine lv_if_le (tgt := 44) hx hb dX6_block_37 (by decide) (fun c11 => ?_) (fun c11 => ?_)
    · exact absurd c11 (by decide)
    refine lv_iconst (v := (0 : Int32)) hx hb dX6_block_40 (by decide) ?_
    refine lv_goto (tgt := 50) hx hb dX6_block_41 (by decide) ?_
    have hf := Option.some.inj hf
    subst hf
    exact e_i (wf := (fun v : Ob => (wX6 G h0 a0 v))) hx hb hr hlk (oi u0 7 (1 : Int32)) ⟨rfl, rfl⟩ hP hK hD hS dX6_block_50
set_option maxRecDepth 100000 in
set_option maxHeartbeats 4000000 in
theorem c_X6_blockVote {l : Launch} {G : Gp} {sz N : Nat} {x1 : Int32} {x2 : Int32} {x3 : Int32} {h0 : Nat} {a0 : Nat → Nat} {u0 : Ob} {q : Int32} (hf : f_X6_blockVote N x1 x2 x3 u0 = some q) : Met l yX6_blockVote (Cond.code yX6_blockVote cX6_blockVote 5 (some .int) :: lw_g) ({ frames := 4, cells := 0, slots := 0, locals := 100 } : Room) (va_Pc [.ref h0, .int x1, .int x2, .int x3] (pw G (wX6 G h0 a0 u0) sz)) (va_Qi (fun (r : Int32) (v : Ob) => q = r ∧ u0 = v) (bw G (fun v : Ob => (wX6 G h0 a0 v)) (va_A (wX6 G h0 a0 u0) sz)) (va_A (wX6 G h0 a0 u0) sz)) 0 0 (va_A (wX6 G h0 a0 u0) sz) := by
  refine mt (Qc := (fun A => va_Qi (fun (r : Int32) (v : Ob) => q = r ∧ u0 = v) (bw G (fun v : Ob => (wX6 G h0 a0 v)) A) A)) (by decide) (Nat.le_of_ble_eq_true rfl) ?_
  intro p e s m below meth c A ls hx hb hr hlk hml hts hown hA hP hK hD hE hS hl
  have hown : s.vm.findClass RX6 = some m.cls := hown
  have hg : ∀ w ∈ lw_g, w.before ([.ref h0, .int x1, .int x2, .int x3] : List Value).toArray s = true := fun w h => hts w (List.mem_cons_of_mem _ h)
  have hC : CallFix p m c cX6_blockVote 5 s ([.ref h0, .int x1, .int x2, .int x3] : List Value).toArray (Cond.code yX6_blockVote cX6_blockVote 5 (some .int) :: lw_g) RX6 := ⟨hx, hb, hml, hown, hts⟩
  have hl : lv_has ls 5 [(0, .ref h0), (1, .int x1), (2, .int x2), (3, .int x3)] := hl
  rw [f_X6_blockVote] at hf
  refine lv_aload_n hx hb dX6_blockVote_0 rfl (lv_at hl 0 rfl) ?_
  refine lv_iload_n hx hb dX6_blockVote_1 rfl (lv_at hl 1 rfl) ?_
  refine lv_iload_n hx hb dX6_blockVote_2 rfl (lv_at hl 2 rfl) ?_
  obtain ⟨q1, e2, hf⟩ := tbd hf
  refine kVi1 (As := [.int x1, .int x2]) (rest := []) hC (c_X6_blockOf (G := G) e2) kq6_138 kc_X6_blockOf (by decide) 0 (ci := 4) rfl rfl hP hK hD hE hS hA hl.1 (Nat.le_of_ble_eq_true rfl) ⟨Nat.zero_le _, Nat.zero_le _⟩ dX6_blockVote_3 (fun r9 u9 H locs hw hP hD hS => ?_)
  obtain ⟨rfl, rfl⟩ := hw
  have hP : va_P (gD G) vwCl (wX6 G h0 a0 u0) H := hP
  have hD : va_D A (wX6 G h0 a0 u0) := hD
  refine lv_istore (lv' := [(4, .int q1), (0, .ref h0), (1, .int x1), (2, .int x2), (3, .int x3)]) hx hb dX6_blockVote_6 hl (by decide) rfl (fun ls hl => ?_)
  refine lv_iload hx hb dX6_blockVote_8 (lv_at hl 0 rfl) ?_
  refine lv_iconst (v := (-1 : Int32)) hx hb dX6_blockVote_10 (by decide) ?_
  refine lv_icmp_eq (tgt := 23) hx hb dX6_blockVote_11 (by decide) (fun c3 => ?_) (fun c3 => ?_)
  · have hf := tp hf c3
    refine lv_iconst (v := (-1 : Int32)) hx hb dX6_blockVote_23 (by decide) ?_
    have hf := Option.some.inj hf
    subst hf
    exact e_i (wf := (fun v : Ob => (wX6 G h0 a0 v))) hx hb hr hlk u0 ⟨rfl, rfl⟩ hP hK hD hS dX6_blockVote_24
  · have hf := tn hf c3
    refine lv_iload_n hx hb dX6_blockVote_14 rfl (lv_at hl 3 rfl) ?_
    refine lv_if_le (tgt := 25) hx hb dX6_blockVote_15 (by decide) (fun c4 => ?_) (fun c4 => ?_)
    · have hf := tp hf c4
      refine lv_iload_n hx hb dX6_blockVote_25 rfl (lv_at hl 3 rfl) ?_
      refine lv_if_ne (tgt := 39) hx hb dX6_blockVote_26 (by decide) (fun c5 => ?_) (fun c5 => ?_)
      · have hf := tn hf c5
        refine lv_iload hx hb dX6_blockVote_39 (lv_at hl 0 rfl) ?_
        have hf := Option.some.inj hf
        subst hf
        exact e_i (wf := (fun v : Ob => (wX6 G h0 a0 v))) hx hb hr hlk u0 ⟨rfl, rfl⟩ hP hK hD hS dX6_blockVote_41
      · have hf := tp hf c5
        refine lv_iload hx hb dX6_blockVote_29 (lv_at hl 0 rfl) ?_
        refine lv_iload_n hx hb dX6_blockVote_31 rfl (lv_at hl 2 rfl) ?_
        refine lv_iadd hx hb dX6_blockVote_32 ?_
        refine lv_bipush (v := (60 : Int32)) hx hb dX6_blockVote_33 (by decide) ?_
        refine lv_irem hx hb dX6_blockVote_35 (by decide) ?_
        refine lv_goto (tgt := 41) hx hb dX6_blockVote_36 (by decide) ?_
        have hf := Option.some.inj hf
        subst hf
        exact e_i (wf := (fun v : Ob => (wX6 G h0 a0 v))) hx hb hr hlk u0 ⟨rfl, rfl⟩ hP hK hD hS dX6_blockVote_41
    · have hf := tn hf c4
      refine lv_iload_n hx hb dX6_blockVote_18 rfl (lv_at hl 2 rfl) ?_
      refine lv_iload_n hx hb dX6_blockVote_19 rfl (lv_at hl 4 rfl) ?_
      refine lv_icmp_le (tgt := 25) hx hb dX6_blockVote_20 (by decide) (fun c6 => ?_) (fun c6 => ?_)
      · have hf := tp hf c6
        refine lv_iload_n hx hb dX6_blockVote_25 rfl (lv_at hl 3 rfl) ?_
        refine lv_if_ne (tgt := 39) hx hb dX6_blockVote_26 (by decide) (fun c7 => ?_) (fun c7 => ?_)
        · have hf := tn hf c7
          refine lv_iload hx hb dX6_blockVote_39 (lv_at hl 0 rfl) ?_
          have hf := Option.some.inj hf
          subst hf
          exact e_i (wf := (fun v : Ob => (wX6 G h0 a0 v))) hx hb hr hlk u0 ⟨rfl, rfl⟩ hP hK hD hS dX6_blockVote_41
        · have hf := tp hf c7
          refine lv_iload hx hb dX6_blockVote_29 (lv_at hl 0 rfl) ?_
          refine lv_iload_n hx hb dX6_blockVote_31 rfl (lv_at hl 2 rfl) ?_
          refine lv_iadd hx hb dX6_blockVote_32 ?_
          refine lv_bipush (v := (60 : Int32)) hx hb dX6_blockVote_33 (by decide) ?_
          refine lv_irem hx hb dX6_blockVote_35 (by decide) ?_
          refine lv_goto (tgt := 41) hx hb dX6_blockVote_36 (by decide) ?_
          have hf := Option.some.inj hf
          subst hf
          exact e_i (wf := (fun v : Ob => (wX6 G h0 a0 v))) hx hb hr hlk u0 ⟨rfl, rfl⟩ hP hK hD hS dX6_blockVote_41
      · have hf := tn hf c6
        refine lv_iconst (v := (-1 : Int32)) hx hb dX6_blockVote_23 (by decide) ?_
        have hf := Option.some.inj hf
        subst hf
        exact e_i (wf := (fun v : Ob => (wX6 G h0 a0 v))) hx hb hr hlk u0 ⟨rfl, rfl⟩ hP hK hD hS dX6_blockVote_24
set_option maxRecDepth 100000 in
set_option maxHeartbeats 4000000 in
theorem c_X6_blockVotes {l : Launch} {G : Gp} {sz N : Nat} {x1 : Int32} {x2 : Int32} {x3 : Int32} {h0 : Nat} {a0 : Nat → Nat} {u0 : Ob} {q : Int32} (hf : f_X6_blockVotes N x1 x2 x3 u0 = some q) : Met l yX6_blockVotes (Cond.code yX6_blockVotes cX6_blockVotes 6 (some .int) :: lw_g) ({ frames := 5, cells := 0, slots := 0, locals := 124 } : Room) (va_Pc [.ref h0, .int x1, .int x2, .int x3] (pw G (wX6 G h0 a0 u0) sz)) (va_Qi (fun (r : Int32) (v : Ob) => q = r ∧ u0 = v) (bw G (fun v : Ob => (wX6 G h0 a0 v)) (va_A (wX6 G h0 a0 u0) sz)) (va_A (wX6 G h0 a0 u0) sz)) 0 0 (va_A (wX6 G h0 a0 u0) sz) := by
  refine mt (Qc := (fun A => va_Qi (fun (r : Int32) (v : Ob) => q = r ∧ u0 = v) (bw G (fun v : Ob => (wX6 G h0 a0 v)) A) A)) (by decide) (Nat.le_of_ble_eq_true rfl) ?_
  intro p e s m below meth c A ls hx hb hr hlk hml hts hown hA hP hK hD hE hS hl
  have hown : s.vm.findClass RX6 = some m.cls := hown
  have hg : ∀ w ∈ lw_g, w.before ([.ref h0, .int x1, .int x2, .int x3] : List Value).toArray s = true := fun w h => hts w (List.mem_cons_of_mem _ h)
  have hC : CallFix p m c cX6_blockVotes 6 s ([.ref h0, .int x1, .int x2, .int x3] : List Value).toArray (Cond.code yX6_blockVotes cX6_blockVotes 6 (some .int) :: lw_g) RX6 := ⟨hx, hb, hml, hown, hts⟩
  have hl : lv_has ls 6 [(0, .ref h0), (1, .int x1), (2, .int x2), (3, .int x3)] := hl
  have lp_6 : ∀ (n : Nat) (x4 : Int32) (x5 : Int32), l_X6_blockVotes_6 N x1 x2 x3 u0 n x4 x5 = some q → ∀ (H : Heap) (locs : List Loc) (ls : Array Slot), va_P (gD G) vwCl (wX6 G h0 a0 u0) H → va_D A (wX6 G h0 a0 u0) → va_S A s.heap H locs → lv_has ls 6 [(0, .ref h0), (1, .int x1), (2, .int x2), (3, .int x3), (4, .int x4), (5, .int x5)] → W p l e ({ frames := 5, cells := 0, slots := 0, locals := 124 } : Room) s m ([.ref h0, .int x1, .int x2, .int x3] : List Value).toArray below meth c H locs 0 0 (MQ below (va_Qi (fun (r : Int32) (v : Ob) => q = r ∧ u0 = v) (bw G (fun v : Ob => (wX6 G h0 a0 v)) A) A) ([.ref h0, .int x1, .int x2, .int x3] : List Value).toArray s 0 0 A) (F0 m 6 ls []) := by
    intro n
    induction n with
    | zero => intro x4 x5 hf; rw [l_X6_blockVotes_6] at hf; cases hf
    | succ n ih =>
      intro x4 x5 hf H locs ls hP hD hS hl
      rw [l_X6_blockVotes_6] at hf
      refine lv_iload hx hb dX6_blockVotes_6 (lv_at hl 5 rfl) ?_
      refine lv_i2l (v := x5.toInt64) hx hb dX6_blockVotes_8 rfl ?_
      refine lv_aload_n hx hb dX6_blockVotes_9 rfl (lv_at hl 0 rfl) ?_
      refine va_get (D := gD G) (ci := 4) (v := .ref (a0 0)) (C := RX6) (T := TX6) (N := 22) hx hb hg kl_X6 hown hK hP 0 rfl rfl 0 (by decide) (hg _ kq5_5) (fun _ h9 => h9) rfl dX6_blockVotes_10 ?_
      refine lv_bipush (v := (12 : Int32)) hx hb dX6_blockVotes_13 (by decide) ?_
      refine va_lald (f := (u0.2.2.2 0)) hx hb hK hP 1 2 rfl rfl (vin (by decide)) dX6_blockVotes_15 ?_
      refine lc_ge (tgt := 48) hx hb dX6_blockVotes_16 dX6_blockVotes_17 (by decide) (fun c1 => ?_) (fun c1 => ?_)
      · have hf := tp hf c1
        refine lv_iload hx hb dX6_blockVotes_48 (lv_at hl 4 rfl) ?_
        have hf := Option.some.inj hf
        subst hf
        exact e_i (wf := (fun v : Ob => (wX6 G h0 a0 v))) hx hb hr hlk u0 ⟨rfl, rfl⟩ hP hK hD hS dX6_blockVotes_50
      · have hf := tn hf c1
        refine lv_iload hx hb dX6_blockVotes_20 (lv_at hl 4 rfl) ?_
        refine lv_aload_n hx hb dX6_blockVotes_22 rfl (lv_at hl 0 rfl) ?_
        refine lv_iload hx hb dX6_blockVotes_23 (lv_at hl 5 rfl) ?_
        refine lv_iload_n hx hb dX6_blockVotes_25 rfl (lv_at hl 2 rfl) ?_
        refine lv_iload_n hx hb dX6_blockVotes_26 rfl (lv_at hl 3 rfl) ?_
        obtain ⟨q2, e3, hf⟩ := tbd hf
        refine kVi1 (As := [.int x5, .int x2, .int x3]) (rest := [.int x4]) hC (c_X6_blockVote (G := G) e3) kq6_166 kc_X6_blockVote (by decide) 0 (ci := 4) rfl rfl hP hK hD hE hS hA hl.1 (Nat.le_of_ble_eq_true rfl) ⟨Nat.zero_le _, Nat.zero_le _⟩ dX6_blockVotes_27 (fun r9 u9 H locs hw hP hD hS => ?_)
        obtain ⟨rfl, rfl⟩ := hw
        have hP : va_P (gD G) vwCl (wX6 G h0 a0 u0) H := hP
        have hD : va_D A (wX6 G h0 a0 u0) := hD
        refine lv_iload_n hx hb dX6_blockVotes_30 rfl (lv_at hl 1 rfl) ?_
        refine lv_icmp_ne (tgt := 38) hx hb dX6_blockVotes_31 (by decide) (fun c4 => ?_) (fun c4 => ?_)
        · have hf := tn hf c4
          refine lv_iconst (v := (0 : Int32)) hx hb dX6_blockVotes_38 (by decide) ?_
          refine lv_iadd hx hb dX6_blockVotes_39 ?_
          refine lv_istore (lv' := [(4, .int (x4 + (0 : Int32))), (0, .ref h0), (1, .int x1), (2, .int x2), (3, .int x3), (5, .int x5)]) hx hb dX6_blockVotes_40 hl (by decide) rfl (fun ls hl => ?_)
          refine lv_iinc (v := (x5 + (1 : Int32))) (lv' := [(5, .int (x5 + (1 : Int32))), (4, .int (x4 + (0 : Int32))), (0, .ref h0), (1, .int x1), (2, .int x2), (3, .int x3)]) hx hb dX6_blockVotes_42 hl (k := 5) rfl rfl (by decide) rfl (fun ls hl => ?_)
          refine lv_goto (tgt := 6) hx hb dX6_blockVotes_45 (by decide) ?_
          exact ih _ _ hf _ _ _ hP hD hS (lv_sub hl [2, 3, 4, 5, 1, 0] rfl)
        · have hf := tp hf c4
          refine lv_iconst (v := (1 : Int32)) hx hb dX6_blockVotes_34 (by decide) ?_
          refine lv_goto (tgt := 39) hx hb dX6_blockVotes_35 (by decide) ?_
          refine lv_iadd hx hb dX6_blockVotes_39 ?_
          refine lv_istore (lv' := [(4, .int (x4 + (1 : Int32))), (0, .ref h0), (1, .int x1), (2, .int x2), (3, .int x3), (5, .int x5)]) hx hb dX6_blockVotes_40 hl (by decide) rfl (fun ls hl => ?_)
          refine lv_iinc (v := (x5 + (1 : Int32))) (lv' := [(5, .int (x5 + (1 : Int32))), (4, .int (x4 + (1 : Int32))), (0, .ref h0), (1, .int x1), (2, .int x2), (3, .int x3)]) hx hb dX6_blockVotes_42 hl (k := 5) rfl rfl (by decide) rfl (fun ls hl => ?_)
          refine lv_goto (tgt := 6) hx hb dX6_blockVotes_45 (by decide) ?_
          exact ih _ _ hf _ _ _ hP hD hS (lv_sub hl [2, 3, 4, 5, 1, 0] rfl)
  rw [f_X6_blockVotes] at hf
  refine lv_iconst (v := (0 : Int32)) hx hb dX6_blockVotes_0 (by decide) ?_
  refine lv_istore (lv' := [(4, .int (0 : Int32)), (0, .ref h0), (1, .int x1), (2, .int x2), (3, .int x3)]) hx hb dX6_blockVotes_1 hl (by decide) rfl (fun ls hl => ?_)
  refine lv_iconst (v := (0 : Int32)) hx hb dX6_blockVotes_3 (by decide) ?_
  refine lv_istore (lv' := [(5, .int (0 : Int32)), (4, .int (0 : Int32)), (0, .ref h0), (1, .int x1), (2, .int x2), (3, .int x3)]) hx hb dX6_blockVotes_4 hl (by decide) rfl (fun ls hl => ?_)
  exact lp_6 N _ _ hf _ _ _ hP hD hS (lv_sub hl [2, 3, 4, 5, 1, 0] rfl)
set_option maxRecDepth 100000 in
set_option maxHeartbeats 4000000 in
theorem c_X6_chosenBy {l : Launch} {G : Gp} {sz N : Nat} {x1 : Int32} {x2 : Int32} {h0 : Nat} {a0 : Nat → Nat} {u0 : Ob} {q : Int32} (hf : f_X6_chosenBy N x1 x2 u0 = some q) : Met l yX6_chosenBy (Cond.code yX6_chosenBy cX6_chosenBy 8 (some .int) :: lw_g) ({ frames := 6, cells := 0, slots := 0, locals := 149 } : Room) (va_Pc [.ref h0, .int x1, .int x2] (pw G (wX6 G h0 a0 u0) sz)) (va_Qi (fun (r : Int32) (v : Ob) => q = r ∧ u0 = v) (bw G (fun v : Ob => (wX6 G h0 a0 v)) (va_A (wX6 G h0 a0 u0) sz)) (va_A (wX6 G h0 a0 u0) sz)) 0 0 (va_A (wX6 G h0 a0 u0) sz) := by
  refine mt (Qc := (fun A => va_Qi (fun (r : Int32) (v : Ob) => q = r ∧ u0 = v) (bw G (fun v : Ob => (wX6 G h0 a0 v)) A) A)) (by decide) (Nat.le_of_ble_eq_true rfl) ?_
  intro p e s m below meth c A ls hx hb hr hlk hml hts hown hA hP hK hD hE hS hl
  have hown : s.vm.findClass RX6 = some m.cls := hown
  have hg : ∀ w ∈ lw_g, w.before ([.ref h0, .int x1, .int x2] : List Value).toArray s = true := fun w h => hts w (List.mem_cons_of_mem _ h)
  have hC : CallFix p m c cX6_chosenBy 8 s ([.ref h0, .int x1, .int x2] : List Value).toArray (Cond.code yX6_chosenBy cX6_chosenBy 8 (some .int) :: lw_g) RX6 := ⟨hx, hb, hml, hown, hts⟩
  have hl : lv_has ls 8 [(0, .ref h0), (1, .int x1), (2, .int x2)] := hl
  have lp_16 : ∀ (n : Nat) (x3 : Int32) (x4 : Int32) (x5 : Int32), l_X6_chosenBy_16 N x1 x2 u0 n x3 x4 x5 = some q → ∀ (H : Heap) (locs : List Loc) (ls : Array Slot), va_P (gD G) vwCl (wX6 G h0 a0 u0) H → va_D A (wX6 G h0 a0 u0) → va_S A s.heap H locs → lv_has ls 8 [(0, .ref h0), (1, .int x1), (2, .int x2), (3, .int x3), (4, .int x4), (5, .int x5)] → W p l e ({ frames := 6, cells := 0, slots := 0, locals := 149 } : Room) s m ([.ref h0, .int x1, .int x2] : List Value).toArray below meth c H locs 0 0 (MQ below (va_Qi (fun (r : Int32) (v : Ob) => q = r ∧ u0 = v) (bw G (fun v : Ob => (wX6 G h0 a0 v)) A) A) ([.ref h0, .int x1, .int x2] : List Value).toArray s 0 0 A) (F0 m 16 ls []) := by
    intro n
    induction n with
    | zero => intro x3 x4 x5 hf; rw [l_X6_chosenBy_16] at hf; cases hf
    | succ n ih =>
      intro x3 x4 x5 hf H locs ls hP hD hS hl
      rw [l_X6_chosenBy_16] at hf
      refine lv_iload hx hb dX6_chosenBy_16 (lv_at hl 5 rfl) ?_
      refine lv_i2l (v := x5.toInt64) hx hb dX6_chosenBy_18 rfl ?_
      refine lv_aload_n hx hb dX6_chosenBy_19 rfl (lv_at hl 0 rfl) ?_
      refine va_get (D := gD G) (ci := 4) (v := .ref (a0 0)) (C := RX6) (T := TX6) (N := 22) hx hb hg kl_X6 hown hK hP 0 rfl rfl 0 (by decide) (hg _ kq5_5) (fun _ h9 => h9) rfl dX6_chosenBy_20 ?_
      refine lv_bipush (v := (12 : Int32)) hx hb dX6_chosenBy_23 (by decide) ?_
      refine va_lald (f := (u0.2.2.2 0)) hx hb hK hP 1 2 rfl rfl (vin (by decide)) dX6_chosenBy_25 ?_
      refine lc_ge (tgt := 113) hx hb dX6_chosenBy_26 dX6_chosenBy_27 (by decide) (fun c1 => ?_) (fun c1 => ?_)
      · have hf := tp hf c1
        refine lv_iload_n hx hb dX6_chosenBy_113 rfl (lv_at hl 3 rfl) ?_
        have hf := Option.some.inj hf
        subst hf
        exact e_i (wf := (fun v : Ob => (wX6 G h0 a0 v))) hx hb hr hlk u0 ⟨rfl, rfl⟩ hP hK hD hS dX6_chosenBy_114
      · have hf := tn hf c1
        refine lv_aload_n hx hb dX6_chosenBy_30 rfl (lv_at hl 0 rfl) ?_
        refine lv_iload hx hb dX6_chosenBy_31 (lv_at hl 5 rfl) ?_
        refine lv_iload_n hx hb dX6_chosenBy_33 rfl (lv_at hl 1 rfl) ?_
        refine lv_iload_n hx hb dX6_chosenBy_34 rfl (lv_at hl 2 rfl) ?_
        obtain ⟨q2, e3, hf⟩ := tbd hf
        refine kVi1 (As := [.int x5, .int x1, .int x2]) (rest := []) hC (c_X6_blockVote (G := G) e3) kq6_166 kc_X6_blockVote (by decide) 0 (ci := 4) rfl rfl hP hK hD hE hS hA hl.1 (Nat.le_of_ble_eq_true rfl) ⟨Nat.zero_le _, Nat.zero_le _⟩ dX6_chosenBy_35 (fun r9 u9 H locs hw hP hD hS => ?_)
        obtain ⟨rfl, rfl⟩ := hw
        have hP : va_P (gD G) vwCl (wX6 G h0 a0 u0) H := hP
        have hD : va_D A (wX6 G h0 a0 u0) := hD
        refine lv_istore (lv' := [(6, .int q2), (0, .ref h0), (1, .int x1), (2, .int x2), (3, .int x3), (4, .int x4), (5, .int x5)]) hx hb dX6_chosenBy_38 hl (by decide) rfl (fun ls hl => ?_)
        refine lv_iload hx hb dX6_chosenBy_40 (lv_at hl 0 rfl) ?_
        refine lv_iconst (v := (-1 : Int32)) hx hb dX6_chosenBy_42 (by decide) ?_
        refine lv_icmp_ne (tgt := 50) hx hb dX6_chosenBy_43 (by decide) (fun c4 => ?_) (fun c4 => ?_)
        · have hf := tn hf c4
          refine lv_aload_n hx hb dX6_chosenBy_50 rfl (lv_at hl 1 rfl) ?_
          refine lv_iload hx hb dX6_chosenBy_51 (lv_at hl 0 rfl) ?_
          refine lv_iload_n hx hb dX6_chosenBy_53 rfl (lv_at hl 2 rfl) ?_
          refine lv_iload_n hx hb dX6_chosenBy_54 rfl (lv_at hl 3 rfl) ?_
          obtain ⟨q5, e6, hf⟩ := tbd hf
          refine kVi1 (As := [.int q2, .int x1, .int x2]) (rest := []) hC (c_X6_blockVotes (G := G) e6) kq6_170 kc_X6_blockVotes (by decide) 0 (ci := 4) rfl rfl hP hK hD hE hS hA hl.1 (Nat.le_of_ble_eq_true rfl) ⟨Nat.zero_le _, Nat.zero_le _⟩ dX6_chosenBy_55 (fun r9 u9 H locs hw hP hD hS => ?_)
          obtain ⟨rfl, rfl⟩ := hw
          have hP : va_P (gD G) vwCl (wX6 G h0 a0 u0) H := hP
          have hD : va_D A (wX6 G h0 a0 u0) := hD
          refine lv_istore (lv' := [(7, .int q5), (6, .int q2), (0, .ref h0), (1, .int x1), (2, .int x2), (3, .int x3), (4, .int x4), (5, .int x5)]) hx hb dX6_chosenBy_58 hl (by decide) rfl (fun ls hl => ?_)
          refine lv_iload hx hb dX6_chosenBy_60 (lv_at hl 0 rfl) ?_
          refine lv_i2l (v := q5.toInt64) hx hb dX6_chosenBy_62 rfl ?_
          refine lv_aload_n hx hb dX6_chosenBy_63 rfl (lv_at hl 2 rfl) ?_
          refine va_get (D := gD G) (ci := 4) (v := .ref (a0 0)) (C := RX6) (T := TX6) (N := 22) hx hb hg kl_X6 hown hK hP 0 rfl rfl 0 (by decide) (hg _ kq5_5) (fun _ h9 => h9) rfl dX6_chosenBy_64 ?_
          refine lv_iconst (v := (1 : Int32)) hx hb dX6_chosenBy_67 (by decide) ?_
          refine va_lald (f := (u0.2.2.2 0)) hx hb hK hP 1 2 rfl rfl (vin (by decide)) dX6_chosenBy_68 ?_
          refine lc_lt (tgt := 107) hx hb dX6_chosenBy_69 dX6_chosenBy_70 (by decide) (fun c7 => ?_) (fun c7 => ?_)
          · have hf := tp hf c7
            refine lv_iinc (v := (x5 + (1 : Int32))) (lv' := [(5, .int (x5 + (1 : Int32))), (7, .int q5), (6, .int q2), (0, .ref h0), (1, .int x1), (2, .int x2), (3, .int x3), (4, .int x4)]) hx hb dX6_chosenBy_107 hl (k := 7) rfl rfl (by decide) rfl (fun ls hl => ?_)
            refine lv_goto (tgt := 16) hx hb dX6_chosenBy_110 (by decide) ?_
            exact ih _ _ _ hf _ _ _ hP hD hS (lv_sub hl [3, 4, 5, 6, 7, 0] rfl)
          · have hf := tn hf c7
            refine lv_iload hx hb dX6_chosenBy_73 (lv_at hl 0 rfl) ?_
            refine lv_iload hx hb dX6_chosenBy_75 (lv_at hl 6 rfl) ?_
            refine lv_icmp_lt (tgt := 107) hx hb dX6_chosenBy_77 (by decide) (fun c8 => ?_) (fun c8 => ?_)
            · have hf := tp hf c8
              refine lv_iinc (v := (x5 + (1 : Int32))) (lv' := [(5, .int (x5 + (1 : Int32))), (7, .int q5), (6, .int q2), (0, .ref h0), (1, .int x1), (2, .int x2), (3, .int x3), (4, .int x4)]) hx hb dX6_chosenBy_107 hl (k := 7) rfl rfl (by decide) rfl (fun ls hl => ?_)
              refine lv_goto (tgt := 16) hx hb dX6_chosenBy_110 (by decide) ?_
              exact ih _ _ _ hf _ _ _ hP hD hS (lv_sub hl [3, 4, 5, 6, 7, 0] rfl)
            · have hf := tn hf c8
              refine lv_iload hx hb dX6_chosenBy_80 (lv_at hl 1 rfl) ?_
              refine lv_iload_n hx hb dX6_chosenBy_82 rfl (lv_at hl 5 rfl) ?_
              refine lv_icmp_ne (tgt := 89) hx hb dX6_chosenBy_83 (by decide) (fun c9 => ?_) (fun c9 => ?_)
              · have hf := tn hf c9
                refine lv_iload hx hb dX6_chosenBy_89 (lv_at hl 0 rfl) ?_
                refine lv_iload hx hb dX6_chosenBy_91 (lv_at hl 6 rfl) ?_
                refine lv_icmp_le (tgt := 101) hx hb dX6_chosenBy_93 (by decide) (fun c10 => ?_) (fun c10 => ?_)
                · have hf := tp hf c10
                  refine lv_iconst (v := (-1 : Int32)) hx hb dX6_chosenBy_101 (by decide) ?_
                  refine lv_istore_n (lv' := [(3, .int (-1 : Int32)), (7, .int q5), (6, .int q2), (0, .ref h0), (1, .int x1), (2, .int x2), (4, .int x4), (5, .int x5)]) hx hb dX6_chosenBy_102 rfl hl (by decide) rfl (fun ls hl => ?_)
                  refine lv_iload hx hb dX6_chosenBy_103 (lv_at hl 1 rfl) ?_
                  refine lv_istore (lv' := [(4, .int q5), (3, .int (-1 : Int32)), (7, .int q5), (6, .int q2), (0, .ref h0), (1, .int x1), (2, .int x2), (5, .int x5)]) hx hb dX6_chosenBy_105 hl (by decide) rfl (fun ls hl => ?_)
                  refine lv_iinc (v := (x5 + (1 : Int32))) (lv' := [(5, .int (x5 + (1 : Int32))), (4, .int q5), (3, .int (-1 : Int32)), (7, .int q5), (6, .int q2), (0, .ref h0), (1, .int x1), (2, .int x2)]) hx hb dX6_chosenBy_107 hl (k := 7) rfl rfl (by decide) rfl (fun ls hl => ?_)
                  refine lv_goto (tgt := 16) hx hb dX6_chosenBy_110 (by decide) ?_
                  exact ih _ _ _ hf _ _ _ hP hD hS (lv_sub hl [5, 6, 7, 2, 1, 0] rfl)
                · have hf := tn hf c10
                  refine lv_iload hx hb dX6_chosenBy_96 (lv_at hl 1 rfl) ?_
                  refine lv_goto (tgt := 102) hx hb dX6_chosenBy_98 (by decide) ?_
                  refine lv_istore_n (lv' := [(3, .int q2), (7, .int q5), (6, .int q2), (0, .ref h0), (1, .int x1), (2, .int x2), (4, .int x4), (5, .int x5)]) hx hb dX6_chosenBy_102 rfl hl (by decide) rfl (fun ls hl => ?_)
                  refine lv_iload hx hb dX6_chosenBy_103 (lv_at hl 1 rfl) ?_
                  refine lv_istore (lv' := [(4, .int q5), (3, .int q2), (7, .int q5), (6, .int q2), (0, .ref h0), (1, .int x1), (2, .int x2), (5, .int x5)]) hx hb dX6_chosenBy_105 hl (by decide) rfl (fun ls hl => ?_)
                  refine lv_iinc (v := (x5 + (1 : Int32))) (lv' := [(5, .int (x5 + (1 : Int32))), (4, .int q5), (3, .int q2), (7, .int q5), (6, .int q2), (0, .ref h0), (1, .int x1), (2, .int x2)]) hx hb dX6_chosenBy_107 hl (k := 7) rfl rfl (by decide) rfl (fun ls hl => ?_)
                  refine lv_goto (tgt := 16) hx hb dX6_chosenBy_110 (by decide) ?_
                  exact ih _ _ _ hf _ _ _ hP hD hS (lv_sub hl [5, 6, 7, 2, 1, 0] rfl)
              · have hf := tp hf c9
                refine lv_goto (tgt := 107) hx hb dX6_chosenBy_86 (by decide) ?_
                refine lv_iinc (v := (x5 + (1 : Int32))) (lv' := [(5, .int (x5 + (1 : Int32))), (7, .int q5), (6, .int q2), (0, .ref h0), (1, .int x1), (2, .int x2), (3, .int x3), (4, .int x4)]) hx hb dX6_chosenBy_107 hl (k := 7) rfl rfl (by decide) rfl (fun ls hl => ?_)
                refine lv_goto (tgt := 16) hx hb dX6_chosenBy_110 (by decide) ?_
                exact ih _ _ _ hf _ _ _ hP hD hS (lv_sub hl [3, 4, 5, 6, 7, 0] rfl)
        · have hf := tp hf c4
          refine lv_iconst (v := (0 : Int32)) hx hb dX6_chosenBy_46 (by decide) ?_
          refine lv_goto (tgt := 58) hx hb dX6_chosenBy_47 (by decide) ?_
          refine lv_istore (lv' := [(7, .int (0 : Int32)), (6, .int q2), (0, .ref h0), (1, .int x1), (2, .int x2), (3, .int x3), (4, .int x4), (5, .int x5)]) hx hb dX6_chosenBy_58 hl (by decide) rfl (fun ls hl => ?_)
          refine lv_iload hx hb dX6_chosenBy_60 (lv_at hl 0 rfl) ?_
          refine lv_i2l (v := (0 : Int32).toInt64) hx hb dX6_chosenBy_62 rfl ?_
          refine lv_aload_n hx hb dX6_chosenBy_63 rfl (lv_at hl 2 rfl) ?_
          refine va_get (D := gD G) (ci := 4) (v := .ref (a0 0)) (C := RX6) (T := TX6) (N := 22) hx hb hg kl_X6 hown hK hP 0 rfl rfl 0 (by decide) (hg _ kq5_5) (fun _ h9 => h9) rfl dX6_chosenBy_64 ?_
          refine lv_iconst (v := (1 : Int32)) hx hb dX6_chosenBy_67 (by decide) ?_
          refine va_lald (f := (u0.2.2.2 0)) hx hb hK hP 1 2 rfl rfl (vin (by decide)) dX6_chosenBy_68 ?_
          refine lc_lt (tgt := 107) hx hb dX6_chosenBy_69 dX6_chosenBy_70 (by decide) (fun c11 => ?_) (fun c11 => ?_)
          · have hf := tp hf c11
            refine lv_iinc (v := (x5 + (1 : Int32))) (lv' := [(5, .int (x5 + (1 : Int32))), (7, .int (0 : Int32)), (6, .int q2), (0, .ref h0), (1, .int x1), (2, .int x2), (3, .int x3), (4, .int x4)]) hx hb dX6_chosenBy_107 hl (k := 7) rfl rfl (by decide) rfl (fun ls hl => ?_)
            refine lv_goto (tgt := 16) hx hb dX6_chosenBy_110 (by decide) ?_
            exact ih _ _ _ hf _ _ _ hP hD hS (lv_sub hl [3, 4, 5, 6, 7, 0] rfl)
          · have hf := tn hf c11
            refine lv_iload hx hb dX6_chosenBy_73 (lv_at hl 0 rfl) ?_
            refine lv_iload hx hb dX6_chosenBy_75 (lv_at hl 6 rfl) ?_
            refine lv_icmp_lt (tgt := 107) hx hb dX6_chosenBy_77 (by decide) (fun c12 => ?_) (fun c12 => ?_)
            · have hf := tp hf c12
              refine lv_iinc (v := (x5 + (1 : Int32))) (lv' := [(5, .int (x5 + (1 : Int32))), (7, .int (0 : Int32)), (6, .int q2), (0, .ref h0), (1, .int x1), (2, .int x2), (3, .int x3), (4, .int x4)]) hx hb dX6_chosenBy_107 hl (k := 7) rfl rfl (by decide) rfl (fun ls hl => ?_)
              refine lv_goto (tgt := 16) hx hb dX6_chosenBy_110 (by decide) ?_
              exact ih _ _ _ hf _ _ _ hP hD hS (lv_sub hl [3, 4, 5, 6, 7, 0] rfl)
            · have hf := tn hf c12
              refine lv_iload hx hb dX6_chosenBy_80 (lv_at hl 1 rfl) ?_
              refine lv_iload_n hx hb dX6_chosenBy_82 rfl (lv_at hl 5 rfl) ?_
              refine lv_icmp_ne (tgt := 89) hx hb dX6_chosenBy_83 (by decide) (fun c13 => ?_) (fun c13 => ?_)
              · have hf := tn hf c13
                refine lv_iload hx hb dX6_chosenBy_89 (lv_at hl 0 rfl) ?_
                refine lv_iload hx hb dX6_chosenBy_91 (lv_at hl 6 rfl) ?_
                refine lv_icmp_le (tgt := 101) hx hb dX6_chosenBy_93 (by decide) (fun c14 => ?_) (fun c14 => ?_)
                · have hf := tp hf c14
                  refine lv_iconst (v := (-1 : Int32)) hx hb dX6_chosenBy_101 (by decide) ?_
                  refine lv_istore_n (lv' := [(3, .int (-1 : Int32)), (7, .int (0 : Int32)), (6, .int q2), (0, .ref h0), (1, .int x1), (2, .int x2), (4, .int x4), (5, .int x5)]) hx hb dX6_chosenBy_102 rfl hl (by decide) rfl (fun ls hl => ?_)
                  refine lv_iload hx hb dX6_chosenBy_103 (lv_at hl 1 rfl) ?_
                  refine lv_istore (lv' := [(4, .int (0 : Int32)), (3, .int (-1 : Int32)), (7, .int (0 : Int32)), (6, .int q2), (0, .ref h0), (1, .int x1), (2, .int x2), (5, .int x5)]) hx hb dX6_chosenBy_105 hl (by decide) rfl (fun ls hl => ?_)
                  refine lv_iinc (v := (x5 + (1 : Int32))) (lv' := [(5, .int (x5 + (1 : Int32))), (4, .int (0 : Int32)), (3, .int (-1 : Int32)), (7, .int (0 : Int32)), (6, .int q2), (0, .ref h0), (1, .int x1), (2, .int x2)]) hx hb dX6_chosenBy_107 hl (k := 7) rfl rfl (by decide) rfl (fun ls hl => ?_)
                  refine lv_goto (tgt := 16) hx hb dX6_chosenBy_110 (by decide) ?_
                  exact ih _ _ _ hf _ _ _ hP hD hS (lv_sub hl [5, 6, 7, 2, 1, 0] rfl)
                · have hf := tn hf c14
                  refine lv_iload hx hb dX6_chosenBy_96 (lv_at hl 1 rfl) ?_
                  refine lv_goto (tgt := 102) hx hb dX6_chosenBy_98 (by decide) ?_
                  refine lv_istore_n (lv' := [(3, .int q2), (7, .int (0 : Int32)), (6, .int q2), (0, .ref h0), (1, .int x1), (2, .int x2), (4, .int x4), (5, .int x5)]) hx hb dX6_chosenBy_102 rfl hl (by decide) rfl (fun ls hl => ?_)
                  refine lv_iload hx hb dX6_chosenBy_103 (lv_at hl 1 rfl) ?_
                  refine lv_istore (lv' := [(4, .int (0 : Int32)), (3, .int q2), (7, .int (0 : Int32)), (6, .int q2), (0, .ref h0), (1, .int x1), (2, .int x2), (5, .int x5)]) hx hb dX6_chosenBy_105 hl (by decide) rfl (fun ls hl => ?_)
                  refine lv_iinc (v := (x5 + (1 : Int32))) (lv' := [(5, .int (x5 + (1 : Int32))), (4, .int (0 : Int32)), (3, .int q2), (7, .int (0 : Int32)), (6, .int q2), (0, .ref h0), (1, .int x1), (2, .int x2)]) hx hb dX6_chosenBy_107 hl (k := 7) rfl rfl (by decide) rfl (fun ls hl => ?_)
                  refine lv_goto (tgt := 16) hx hb dX6_chosenBy_110 (by decide) ?_
                  exact ih _ _ _ hf _ _ _ hP hD hS (lv_sub hl [5, 6, 7, 2, 1, 0] rfl)
              · have hf := tp hf c13
                refine lv_goto (tgt := 107) hx hb dX6_chosenBy_86 (by decide) ?_
                refine lv_iinc (v := (x5 + (1 : Int32))) (lv' := [(5, .int (x5 + (1 : Int32))), (7, .int (0 : Int32)), (6, .int q2), (0, .ref h0), (1, .int x1), (2, .int x2), (3, .int x3), (4, .int x4)]) hx hb dX6_chosenBy_107 hl (k := 7) rfl rfl (by decide) rfl (fun ls hl => ?_)
                refine lv_goto (tgt := 16) hx hb dX6_chosenBy_110 (by decide) ?_
                exact ih _ _ _ hf _ _ _ hP hD hS (lv_sub hl [3, 4, 5, 6, 7, 0] rfl)
  rw [f_X6_chosenBy] at hf
  refine lv_iconst (v := (-1 : Int32)) hx hb dX6_chosenBy_0 (by decide) ?_
  refine lv_istore_n (lv' := [(3, .int (-1 : Int32)), (0, .ref h0), (1, .int x1), (2, .int x2)]) hx hb dX6_chosenBy_1 rfl hl (by decide) rfl (fun ls hl => ?_)
  refine lv_aload_n hx hb dX6_chosenBy_2 rfl (lv_at hl 1 rfl) ?_
  refine va_get (D := gD G) (ci := 4) (v := .ref (a0 0)) (C := RX6) (T := TX6) (N := 22) hx hb hg kl_X6 hown hK hP 0 rfl rfl 0 (by decide) (hg _ kq5_5) (fun _ h9 => h9) rfl dX6_chosenBy_3 ?_
  refine lv_iconst (v := (1 : Int32)) hx hb dX6_chosenBy_6 (by decide) ?_
  refine va_lald (f := (u0.2.2.2 0)) hx hb hK hP 1 2 rfl rfl (vin (by decide)) dX6_chosenBy_7 ?_
  refine lv_l2i (v := ((u0.2.2.2 0) (1 : Int32).toNatClampNeg).toInt32) hx hb dX6_chosenBy_8 rfl ?_
  refine lv_iconst (v := (1 : Int32)) hx hb dX6_chosenBy_9 (by decide) ?_
  refine lv_isub hx hb dX6_chosenBy_10 ?_
  refine lv_istore (lv' := [(4, .int (((u0.2.2.2 0) (1 : Int32).toNatClampNeg).toInt32 - (1 : Int32))), (3, .int (-1 : Int32)), (0, .ref h0), (1, .int x1), (2, .int x2)]) hx hb dX6_chosenBy_11 hl (by decide) rfl (fun ls hl => ?_)
  refine lv_iconst (v := (0 : Int32)) hx hb dX6_chosenBy_13 (by decide) ?_
  refine lv_istore (lv' := [(5, .int (0 : Int32)), (4, .int (((u0.2.2.2 0) (1 : Int32).toNatClampNeg).toInt32 - (1 : Int32))), (3, .int (-1 : Int32)), (0, .ref h0), (1, .int x1), (2, .int x2)]) hx hb dX6_chosenBy_14 hl (by decide) rfl (fun ls hl => ?_)
  exact lp_16 N _ _ _ hf _ _ _ hP hD hS (lv_sub hl [3, 4, 5, 2, 1, 0] rfl)
set_option maxRecDepth 100000 in
set_option maxHeartbeats 4000000 in
theorem c_X6_assembledNow {l : Launch} {G : Gp} {sz N : Nat} {h0 : Nat} {a0 : Nat → Nat} {u0 : Ob} {q : Int32} (hf : f_X6_assembledNow N u0 = some q) : Met l yX6_assembledNow (Cond.code yX6_assembledNow cX6_assembledNow 4 (some .int) :: lw_g) ({ frames := 7, cells := 0, slots := 0, locals := 176 } : Room) (va_Pc [.ref h0] (pw G (wX6 G h0 a0 u0) sz)) (va_Qi (fun (r : Int32) (v : Ob) => q = r ∧ u0 = v) (bw G (fun v : Ob => (wX6 G h0 a0 v)) (va_A (wX6 G h0 a0 u0) sz)) (va_A (wX6 G h0 a0 u0) sz)) 0 0 (va_A (wX6 G h0 a0 u0) sz) := by
  refine mt (Qc := (fun A => va_Qi (fun (r : Int32) (v : Ob) => q = r ∧ u0 = v) (bw G (fun v : Ob => (wX6 G h0 a0 v)) A) A)) (by decide) (Nat.le_of_ble_eq_true rfl) ?_
  intro p e s m below meth c A ls hx hb hr hlk hml hts hown hA hP hK hD hE hS hl
  have hown : s.vm.findClass RX6 = some m.cls := hown
  have hg : ∀ w ∈ lw_g, w.before ([.ref h0] : List Value).toArray s = true := fun w h => hts w (List.mem_cons_of_mem _ h)
  have hC : CallFix p m c cX6_assembledNow 4 s ([.ref h0] : List Value).toArray (Cond.code yX6_assembledNow cX6_assembledNow 4 (some .int) :: lw_g) RX6 := ⟨hx, hb, hml, hown, hts⟩
  have hl : lv_has ls 4 [(0, .ref h0)] := hl
  rw [f_X6_assembledNow] at hf
  refine lv_aload_n hx hb dX6_assembledNow_0 rfl (lv_at hl 0 rfl) ?_
  refine lv_iconst (v := (0 : Int32)) hx hb dX6_assembledNow_1 (by decide) ?_
  refine lv_iconst (v := (0 : Int32)) hx hb dX6_assembledNow_2 (by decide) ?_
  obtain ⟨q1, e2, hf⟩ := tbd hf
  refine kVi1 (As := [.int (0 : Int32), .int (0 : Int32)]) (rest := []) hC (c_X6_chosenBy (G := G) e2) kq6_162 kc_X6_chosenBy (by decide) 0 (ci := 4) rfl rfl hP hK hD hE hS hA hl.1 (Nat.le_of_ble_eq_true rfl) ⟨Nat.zero_le _, Nat.zero_le _⟩ dX6_assembledNow_3 (fun r9 u9 H locs hw hP hD hS => ?_)
  obtain ⟨rfl, rfl⟩ := hw
  have hP : va_P (gD G) vwCl (wX6 G h0 a0 u0) H := hP
  have hD : va_D A (wX6 G h0 a0 u0) := hD
  refine lv_istore_n (lv' := [(1, .int q1), (0, .ref h0)]) hx hb dX6_assembledNow_6 rfl hl (by decide) rfl (fun ls hl => ?_)
  refine lv_iload_n hx hb dX6_assembledNow_7 rfl (lv_at hl 0 rfl) ?_
  refine lv_iconst (v := (-1 : Int32)) hx hb dX6_assembledNow_8 (by decide) ?_
  refine lv_icmp_ne (tgt := 14) hx hb dX6_assembledNow_9 (by decide) (fun c3 => ?_) (fun c3 => ?_)
  · have hf := tn hf c3
    refine lv_aload_n hx hb dX6_assembledNow_14 rfl (lv_at hl 1 rfl) ?_
    refine lv_iconst (v := (1 : Int32)) hx hb dX6_assembledNow_15 (by decide) ?_
    refine lv_iload_n hx hb dX6_assembledNow_16 rfl (lv_at hl 0 rfl) ?_
    obtain ⟨q4, e5, hf⟩ := tbd hf
    refine kVi1 (As := [.int (1 : Int32), .int q1]) (rest := []) hC (c_X6_chosenBy (G := G) e5) kq6_162 kc_X6_chosenBy (by decide) 0 (ci := 4) rfl rfl hP hK hD hE hS hA hl.1 (Nat.le_of_ble_eq_true rfl) ⟨Nat.zero_le _, Nat.zero_le _⟩ dX6_assembledNow_17 (fun r9 u9 H locs hw hP hD hS => ?_)
    obtain ⟨rfl, rfl⟩ := hw
    have hP : va_P (gD G) vwCl (wX6 G h0 a0 u0) H := hP
    have hD : va_D A (wX6 G h0 a0 u0) := hD
    refine lv_istore_n (lv' := [(2, .int q4), (1, .int q1), (0, .ref h0)]) hx hb dX6_assembledNow_20 rfl hl (by decide) rfl (fun ls hl => ?_)
    refine lv_aload_n hx hb dX6_assembledNow_21 rfl (lv_at hl 2 rfl) ?_
    refine lv_iconst (v := (2 : Int32)) hx hb dX6_assembledNow_22 (by decide) ?_
    refine lv_iload_n hx hb dX6_assembledNow_23 rfl (lv_at hl 1 rfl) ?_
    obtain ⟨q6, e7, hf⟩ := tbd hf
    refine kVi1 (As := [.int (2 : Int32), .int q1]) (rest := []) hC (c_X6_chosenBy (G := G) e7) kq6_162 kc_X6_chosenBy (by decide) 0 (ci := 4) rfl rfl hP hK hD hE hS hA hl.1 (Nat.le_of_ble_eq_true rfl) ⟨Nat.zero_le _, Nat.zero_le _⟩ dX6_assembledNow_24 (fun r9 u9 H locs hw hP hD hS => ?_)
    obtain ⟨rfl, rfl⟩ := hw
    have hP : va_P (gD G) vwCl (wX6 G h0 a0 u0) H := hP
    have hD : va_D A (wX6 G h0 a0 u0) := hD
    refine lv_istore_n (lv' := [(3, .int q6), (2, .int q4), (1, .int q1), (0, .ref h0)]) hx hb dX6_assembledNow_27 rfl hl (by decide) rfl (fun ls hl => ?_)
    refine lv_iload_n hx hb dX6_assembledNow_28 rfl (lv_at hl 1 rfl) ?_
    refine lv_iconst (v := (-1 : Int32)) hx hb dX6_assembledNow_29 (by decide) ?_
    refine lv_icmp_eq (tgt := 38) hx hb dX6_assembledNow_30 (by decide) (fun c8 => ?_) (fun c8 => ?_)
    · have hf := tp hf c8
      refine lv_iconst (v := (-1 : Int32)) hx hb dX6_assembledNow_38 (by decide) ?_
      refine lv_goto (tgt := 54) hx hb dX6_assembledNow_39 (by decide) ?_
      have hf := Option.some.inj hf
      subst hf
      exact e_i (wf := (fun v : Ob => (wX6 G h0 a0 v))) hx hb hr hlk u0 ⟨rfl, rfl⟩ hP hK hD hS dX6_assembledNow_54
    · have hf := tn hf c8
      refine lv_iload_n hx hb dX6_assembledNow_33 rfl (lv_at hl 0 rfl) ?_
      refine lv_iconst (v := (-1 : Int32)) hx hb dX6_assembledNow_34 (by decide) ?_
      refine lv_icmp_ne (tgt := 42) hx hb dX6_assembledNow_35 (by decide) (fun c9 => ?_) (fun c9 => ?_)
      · have hf := tn hf c9
        refine lv_sipush (v := (1440 : Int32)) hx hb dX6_assembledNow_42 (by decide) ?_
        refine lv_iload_n hx hb dX6_assembledNow_45 rfl (lv_at hl 0 rfl) ?_
        refine lv_imul hx hb dX6_assembledNow_46 ?_
        refine lv_bipush (v := (60 : Int32)) hx hb dX6_assembledNow_47 (by decide) ?_
        refine lv_iload_n hx hb dX6_assembledNow_49 rfl (lv_at hl 1 rfl) ?_
        refine lv_imul hx hb dX6_assembledNow_50 ?_
        refine lv_iadd hx hb dX6_assembledNow_51 ?_
        refine lv_iload_n hx hb dX6_assembledNow_52 rfl (lv_at hl 2 rfl) ?_
        refine lv_iadd hx hb dX6_assembledNow_53 ?_
        have hf := Option.some.inj hf
        subst hf
        exact e_i (wf := (fun v : Ob => (wX6 G h0 a0 v))) hx hb hr hlk u0 ⟨rfl, rfl⟩ hP hK hD hS dX6_assembledNow_54
      · have hf := tp hf c9
        refine lv_iconst (v := (-1 : Int32)) hx hb dX6_assembledNow_38 (by decide) ?_
        refine lv_goto (tgt := 54) hx hb dX6_assembledNow_39 (by decide) ?_
        have hf := Option.some.inj hf
        subst hf
        exact e_i (wf := (fun v : Ob => (wX6 G h0 a0 v))) hx hb hr hlk u0 ⟨rfl, rfl⟩ hP hK hD hS dX6_assembledNow_54
  · have hf := tp hf c3
    refine lv_iconst (v := (-1 : Int32)) hx hb dX6_assembledNow_12 (by decide) ?_
    have hf := Option.some.inj hf
    subst hf
    exact e_i (wf := (fun v : Ob => (wX6 G h0 a0 v))) hx hb hr hlk u0 ⟨rfl, rfl⟩ hP hK hD hS dX6_assembledNow_13
set_option maxRecDepth 100000 in
set_option maxHeartbeats 4000000 in
theorem c_X6_assembled {l : Launch} {G : Gp} {sz N : Nat} {h0 : Nat} {a0 : Nat → Nat} {u0 : Ob} {q : Int32 × Ob} (hf : f_X6_assembled N u0 = some q) : Met l yX6_assembled (Cond.code yX6_assembled cX6_assembled 1 (some .int) :: lw_g) ({ frames := 8, cells := 0, slots := 0, locals := 199 } : Room) (va_Pc [.ref h0] (pw G (wX6 G h0 a0 u0) sz)) (va_Qi (fun (r : Int32) (v : Ob) => q.1 = r ∧ q.2 = v) (bw G (fun v : Ob => (wX6 G h0 a0 v)) (va_A (wX6 G h0 a0 u0) sz)) (va_A (wX6 G h0 a0 u0) sz)) 0 0 (va_A (wX6 G h0 a0 u0) sz) := by
  refine mt (Qc := (fun A => va_Qi (fun (r : Int32) (v : Ob) => q.1 = r ∧ q.2 = v) (bw G (fun v : Ob => (wX6 G h0 a0 v)) A) A)) (by decide) (Nat.le_of_ble_eq_true rfl) ?_
  intro p e s m below meth c A ls hx hb hr hlk hml hts hown hA hP hK hD hE hS hl
  have hown : s.vm.findClass RX6 = some m.cls := hown
  have hg : ∀ w ∈ lw_g, w.before ([.ref h0] : List Value).toArray s = true := fun w h => hts w (List.mem_cons_of_mem _ h)
  have hC : CallFix p m c cX6_assembled 1 s ([.ref h0] : List Value).toArray (Cond.code yX6_assembled cX6_assembled 1 (some .int) :: lw_g) RX6 := ⟨hx, hb, hml, hown, hts⟩
  have hl : lv_has ls 1 [(0, .ref h0)] := hl
  rw [f_X6_assembled] at hf
  refine lv_aload_n hx hb dX6_assembled_0 rfl (lv_at hl 0 rfl) ?_
  refine lv_iconst (v := (0 : Int32)) hx hb dX6_assembled_1 (by decide) ?_
  refine va_put (D := gD G) (ci := 4) (v := .int (0 : Int32)) (ty := .int) (C := RX6) (T := TX6) (N := 22) hx hb hg kl_X6 tyX6 tyX6_ok nmX6 hown hK hP hD hS 0 rfl rfl 7 (by decide) (hg _ kq5_12) (fun _ h9 => h9) rfl (by decide +kernel) rfl rfl (Nat.le_of_ble_eq_true rfl) dX6_assembled_2 (fun H locs hP hD hS => ?_)
  have hP : va_P (gD G) vwCl (wX6 G h0 a0 (oi u0 7 (0 : Int32))) H := hP
  have hD : va_D A (wX6 G h0 a0 (oi u0 7 (0 : Int32))) := hD
  refine lv_aload_n hx hb dX6_assembled_5 rfl (lv_at hl 0 rfl) ?_
  obtain ⟨q1, e2, hf⟩ := tbd hf
  refine kVi1 (As := []) (rest := []) hC (c_X6_assembledNow (G := G) e2) kq6_158 kc_X6_assembledNow (by decide) 0 (ci := 4) rfl rfl hP hK hD hE hS hA hl.1 (Nat.le_of_ble_eq_true rfl) ⟨Nat.zero_le _, Nat.zero_le _⟩ dX6_assembled_6 (fun r9 u9 H locs hw hP hD hS => ?_)
  obtain ⟨rfl, rfl⟩ := hw
  have hP : va_P (gD G) vwCl (wX6 G h0 a0 (oi u0 7 (0 : Int32))) H := hP
  have hD : va_D A (wX6 G h0 a0 (oi u0 7 (0 : Int32))) := hD
  have hf := Option.some.inj hf
  subst hf
  exact e_i (wf := (fun v : Ob => (wX6 G h0 a0 v))) hx hb hr hlk (oi u0 7 (0 : Int32)) ⟨rfl, rfl⟩ hP hK hD hS dX6_assembled_9
set_option maxRecDepth 100000 in
set_option maxHeartbeats 4000000 in
theorem c_X6_dissenting {l : Launch} {G : Gp} {sz N : Nat} {h0 : Nat} {a0 : Nat → Nat} {u0 : Ob} {q : Int32 × Ob} (hf : f_X6_dissenting N u0 = some q) : Met l yX6_dissenting (Cond.code yX6_dissenting cX6_dissenting 5 (some .int) :: lw_g) ({ frames := 8, cells := 0, slots := 0, locals := 199 } : Room) (va_Pc [.ref h0] (pw G (wX6 G h0 a0 u0) sz)) (va_Qi (fun (r : Int32) (v : Ob) => q.1 = r ∧ q.2 = v) (bw G (fun v : Ob => (wX6 G h0 a0 v)) (va_A (wX6 G h0 a0 u0) sz)) (va_A (wX6 G h0 a0 u0) sz)) 0 0 (va_A (wX6 G h0 a0 u0) sz) := by
  refine mt (Qc := (fun A => va_Qi (fun (r : Int32) (v : Ob) => q.1 = r ∧ q.2 = v) (bw G (fun v : Ob => (wX6 G h0 a0 v)) A) A)) (by decide) (Nat.le_of_ble_eq_true rfl) ?_
  intro p e s m below meth c A ls hx hb hr hlk hml hts hown hA hP hK hD hE hS hl
  have hown : s.vm.findClass RX6 = some m.cls := hown
  have hg : ∀ w ∈ lw_g, w.before ([.ref h0] : List Value).toArray s = true := fun w h => hts w (List.mem_cons_of_mem _ h)
  have hC : CallFix p m c cX6_dissenting 5 s ([.ref h0] : List Value).toArray (Cond.code yX6_dissenting cX6_dissenting 5 (some .int) :: lw_g) RX6 := ⟨hx, hb, hml, hown, hts⟩
  have hl : lv_has ls 5 [(0, .ref h0)] := hl
  have lp_23 : ∀ (n : Nat) (x1 : Int32) (x2 : Int32) (x3 : Int32) (u0 : Ob), l_X6_dissenting_23 N n x1 x2 x3 u0 = some q → ∀ (H : Heap) (locs : List Loc) (ls : Array Slot), va_P (gD G) vwCl (wX6 G h0 a0 u0) H → va_D A (wX6 G h0 a0 u0) → va_S A s.heap H locs → lv_has ls 5 [(0, .ref h0), (1, .int x1), (2, .int x2), (3, .int x3)] → W p l e ({ frames := 8, cells := 0, slots := 0, locals := 199 } : Room) s m ([.ref h0] : List Value).toArray below meth c H locs 0 0 (MQ below (va_Qi (fun (r : Int32) (v : Ob) => q.1 = r ∧ q.2 = v) (bw G (fun v : Ob => (wX6 G h0 a0 v)) A) A) ([.ref h0] : List Value).toArray s 0 0 A) (F0 m 23 ls []) := by
    intro n
    induction n with
    | zero => intro x1 x2 x3 u0 hf; rw [l_X6_dissenting_23] at hf; cases hf
    | succ n ih =>
      intro x1 x2 x3 u0 hf H locs ls hP hD hS hl
      rw [l_X6_dissenting_23] at hf
      refine lv_iload_n hx hb dX6_dissenting_23 rfl (lv_at hl 3 rfl) ?_
      refine lv_i2l (v := x3.toInt64) hx hb dX6_dissenting_24 rfl ?_
      refine lv_aload_n hx hb dX6_dissenting_25 rfl (lv_at hl 0 rfl) ?_
      refine va_get (D := gD G) (ci := 4) (v := .ref (a0 0)) (C := RX6) (T := TX6) (N := 22) hx hb hg kl_X6 hown hK hP 0 rfl rfl 0 (by decide) (hg _ kq5_5) (fun _ h9 => h9) rfl dX6_dissenting_26 ?_
      refine lv_bipush (v := (12 : Int32)) hx hb dX6_dissenting_29 (by decide) ?_
      refine va_lald (f := (u0.2.2.2 0)) hx hb hK hP 1 2 rfl rfl (vin (by decide)) dX6_dissenting_31 ?_
      refine lc_ge (tgt := 76) hx hb dX6_dissenting_32 dX6_dissenting_33 (by decide) (fun c4 => ?_) (fun c4 => ?_)
      · have hf := tp hf c4
        refine lv_iload_n hx hb dX6_dissenting_76 rfl (lv_at hl 2 rfl) ?_
        have hf := Option.some.inj hf
        subst hf
        exact e_i (wf := (fun v : Ob => (wX6 G h0 a0 v))) hx hb hr hlk u0 ⟨rfl, rfl⟩ hP hK hD hS dX6_dissenting_77
      · have hf := tn hf c4
        refine lv_aload_n hx hb dX6_dissenting_36 rfl (lv_at hl 0 rfl) ?_
        refine va_get (D := gD G) (ci := 4) (v := .int (u0.1 7)) (C := RX6) (T := TX6) (N := 22) hx hb hg kl_X6 hown hK hP 0 rfl rfl 7 (by decide) (hg _ kq5_12) (fun _ h9 => h9) rfl dX6_dissenting_37 ?_
        refine lv_if_ne (tgt := 76) hx hb dX6_dissenting_40 (by decide) (fun c5 => ?_) (fun c5 => ?_)
        · have hf := tn hf c5
          refine lv_iload_n hx hb dX6_dissenting_76 rfl (lv_at hl 2 rfl) ?_
          have hf := Option.some.inj hf
          subst hf
          exact e_i (wf := (fun v : Ob => (wX6 G h0 a0 v))) hx hb hr hlk u0 ⟨rfl, rfl⟩ hP hK hD hS dX6_dissenting_77
        · have hf := tp hf c5
          refine lv_aload_n hx hb dX6_dissenting_43 rfl (lv_at hl 0 rfl) ?_
          refine lv_iload_n hx hb dX6_dissenting_44 rfl (lv_at hl 3 rfl) ?_
          obtain ⟨q6, e7, hf⟩ := tbd hf
          refine kVi1 (As := [.int x3]) (rest := []) hC (c_X6_votesFor (G := G) e7) kq6_30 kc_X6_votesFor (by decide) 0 (ci := 4) rfl rfl hP hK hD hE hS hA hl.1 (Nat.le_of_ble_eq_true rfl) ⟨Nat.zero_le _, Nat.zero_le _⟩ dX6_dissenting_45 (fun r9 u9 H locs hw hP hD hS => ?_)
          obtain ⟨rfl, rfl⟩ := hw
          have hP : va_P (gD G) vwCl (wX6 G h0 a0 q6.2) H := hP
          have hD : va_D A (wX6 G h0 a0 q6.2) := hD
          refine lv_istore (lv' := [(4, .int q6.1), (0, .ref h0), (1, .int x1), (2, .int x2), (3, .int x3)]) hx hb dX6_dissenting_48 hl (by decide) rfl (fun ls hl => ?_)
          refine lv_iload_n hx hb dX6_dissenting_50 rfl (lv_at hl 3 rfl) ?_
          refine lv_iload hx hb dX6_dissenting_51 (lv_at hl 0 rfl) ?_
          refine lv_iconst (v := (-1 : Int32)) hx hb dX6_dissenting_53 (by decide) ?_
          refine lv_icmp_eq (tgt := 67) hx hb dX6_dissenting_54 (by decide) (fun c8 => ?_) (fun c8 => ?_)
          · have hf := tp hf c8
            refine lv_iconst (v := (0 : Int32)) hx hb dX6_dissenting_67 (by decide) ?_
            refine lv_iadd hx hb dX6_dissenting_68 ?_
            refine lv_istore_n (lv' := [(2, .int (x2 + (0 : Int32))), (4, .int q6.1), (0, .ref h0), (1, .int x1), (3, .int x3)]) hx hb dX6_dissenting_69 rfl hl (by decide) rfl (fun ls hl => ?_)
            refine lv_iinc (v := (x3 + (1 : Int32))) (lv' := [(3, .int (x3 + (1 : Int32))), (2, .int (x2 + (0 : Int32))), (4, .int q6.1), (0, .ref h0), (1, .int x1)]) hx hb dX6_dissenting_70 hl (k := 4) rfl rfl (by decide) rfl (fun ls hl => ?_)
            refine lv_goto (tgt := 23) hx hb dX6_dissenting_73 (by decide) ?_
            exact ih _ _ _ _ hf _ _ _ hP hD hS (lv_sub hl [3, 4, 1, 0] rfl)
          · have hf := tn hf c8
            refine lv_iload hx hb dX6_dissenting_57 (lv_at hl 0 rfl) ?_
            refine lv_iload_n hx hb dX6_dissenting_59 rfl (lv_at hl 2 rfl) ?_
            refine lv_icmp_eq (tgt := 67) hx hb dX6_dissenting_60 (by decide) (fun c9 => ?_) (fun c9 => ?_)
            · have hf := tp hf c9
              refine lv_iconst (v := (0 : Int32)) hx hb dX6_dissenting_67 (by decide) ?_
              refine lv_iadd hx hb dX6_dissenting_68 ?_
              refine lv_istore_n (lv' := [(2, .int (x2 + (0 : Int32))), (4, .int q6.1), (0, .ref h0), (1, .int x1), (3, .int x3)]) hx hb dX6_dissenting_69 rfl hl (by decide) rfl (fun ls hl => ?_)
              refine lv_iinc (v := (x3 + (1 : Int32))) (lv' := [(3, .int (x3 + (1 : Int32))), (2, .int (x2 + (0 : Int32))), (4, .int q6.1), (0, .ref h0), (1, .int x1)]) hx hb dX6_dissenting_70 hl (k := 4) rfl rfl (by decide) rfl (fun ls hl => ?_)
              refine lv_goto (tgt := 23) hx hb dX6_dissenting_73 (by decide) ?_
              exact ih _ _ _ _ hf _ _ _ hP hD hS (lv_sub hl [3, 4, 1, 0] rfl)
            · have hf := tn hf c9
              refine lv_iconst (v := (1 : Int32)) hx hb dX6_dissenting_63 (by decide) ?_
              refine lv_goto (tgt := 68) hx hb dX6_dissenting_64 (by decide) ?_
              refine lv_iadd hx hb dX6_dissenting_68 ?_
              refine lv_istore_n (lv' := [(2, .int (x2 + (1 : Int32))), (4, .int q6.1), (0, .ref h0), (1, .int x1), (3, .int x3)]) hx hb dX6_dissenting_69 rfl hl (by decide) rfl (fun ls hl => ?_)
              refine lv_iinc (v := (x3 + (1 : Int32))) (lv' := [(3, .int (x3 + (1 : Int32))), (2, .int (x2 + (1 : Int32))), (4, .int q6.1), (0, .ref h0), (1, .int x1)]) hx hb dX6_dissenting_70 hl (k := 4) rfl rfl (by decide) rfl (fun ls hl => ?_)
              refine lv_goto (tgt := 23) hx hb dX6_dissenting_73 (by decide) ?_
              exact ih _ _ _ _ hf _ _ _ hP hD hS (lv_sub hl [3, 4, 1, 0] rfl)
  rw [f_X6_dissenting] at hf
  refine lv_aload_n hx hb dX6_dissenting_0 rfl (lv_at hl 0 rfl) ?_
  obtain ⟨q1, e2, hf⟩ := tbd hf
  refine kVi1 (As := []) (rest := []) hC (c_X6_assembledNow (G := G) e2) kq6_158 kc_X6_assembledNow (by decide) 0 (ci := 4) rfl rfl hP hK hD hE hS hA hl.1 (Nat.le_of_ble_eq_true rfl) ⟨Nat.zero_le _, Nat.zero_le _⟩ dX6_dissenting_1 (fun r9 u9 H locs hw hP hD hS => ?_)
  obtain ⟨rfl, rfl⟩ := hw
  have hP : va_P (gD G) vwCl (wX6 G h0 a0 u0) H := hP
  have hD : va_D A (wX6 G h0 a0 u0) := hD
  refine lv_istore_n (lv' := [(1, .int q1), (0, .ref h0)]) hx hb dX6_dissenting_4 rfl hl (by decide) rfl (fun ls hl => ?_)
  refine lv_aload_n hx hb dX6_dissenting_5 rfl (lv_at hl 1 rfl) ?_
  refine lv_iload_n hx hb dX6_dissenting_6 rfl (lv_at hl 0 rfl) ?_
  refine lv_iconst (v := (-1 : Int32)) hx hb dX6_dissenting_7 (by decide) ?_
  refine lv_icmp_ne (tgt := 15) hx hb dX6_dissenting_8 (by decide) (fun c3 => ?_) (fun c3 => ?_)
  · have hf := tn hf c3
    refine lv_iconst (v := (0 : Int32)) hx hb dX6_dissenting_15 (by decide) ?_
    refine va_put (D := gD G) (ci := 4) (v := .int (0 : Int32)) (ty := .int) (C := RX6) (T := TX6) (N := 22) hx hb hg kl_X6 tyX6 tyX6_ok nmX6 hown hK hP hD hS 0 rfl rfl 7 (by decide) (hg _ kq5_12) (fun _ h9 => h9) rfl (by decide +kernel) rfl rfl (Nat.le_of_ble_eq_true rfl) dX6_dissenting_16 (fun H locs hP hD hS => ?_)
    have hP : va_P (gD G) vwCl (wX6 G h0 a0 (oi u0 7 (0 : Int32))) H := hP
    have hD : va_D A (wX6 G h0 a0 (oi u0 7 (0 : Int32))) := hD
    refine lv_iconst (v := (0 : Int32)) hx hb dX6_dissenting_19 (by decide) ?_
    refine lv_istore_n (lv' := [(2, .int (0 : Int32)), (1, .int q1), (0, .ref h0)]) hx hb dX6_dissenting_20 rfl hl (by decide) rfl (fun ls hl => ?_)
    refine lv_iconst (v := (0 : Int32)) hx hb dX6_dissenting_21 (by decide) ?_
    refine lv_istore_n (lv' := [(3, .int (0 : Int32)), (2, .int (0 : Int32)), (1, .int q1), (0, .ref h0)]) hx hb dX6_dissenting_22 rfl hl (by decide) rfl (fun ls hl => ?_)
    exact lp_23 N _ _ _ _ hf _ _ _ hP hD hS (lv_sub hl [3, 2, 1, 0] rfl)
  · have hf := tp hf c3
    refine lv_iconst (v := (1 : Int32)) hx hb dX6_dissenting_11 (by decide) ?_
    refine lv_goto (tgt := 16) hx hb dX6_dissenting_12 (by decide) ?_
    refine va_put (D := gD G) (ci := 4) (v := .int (1 : Int32)) (ty := .int) (C := RX6) (T := TX6) (N := 22) hx hb hg kl_X6 tyX6 tyX6_ok nmX6 hown hK hP hD hS 0 rfl rfl 7 (by decide) (hg _ kq5_12) (fun _ h9 => h9) rfl (by decide +kernel) rfl rfl (Nat.le_of_ble_eq_true rfl) dX6_dissenting_16 (fun H locs hP hD hS => ?_)
    have hP : va_P (gD G) vwCl (wX6 G h0 a0 (oi u0 7 (1 : Int32))) H := hP
    have hD : va_D A (wX6 G h0 a0 (oi u0 7 (1 : Int32))) := hD
    refine lv_iconst (v := (0 : Int32)) hx hb dX6_dissenting_19 (by decide) ?_
    refine lv_istore_n (lv' := [(2, .int (0 : Int32)), (1, .int q1), (0, .ref h0)]) hx hb dX6_dissenting_20 rfl hl (by decide) rfl (fun ls hl => ?_)
    refine lv_iconst (v := (0 : Int32)) hx hb dX6_dissenting_21 (by decide) ?_
    refine lv_istore_n (lv' := [(3, .int (0 : Int32)), (2, .int (0 : Int32)), (1, .int q1), (0, .ref h0)]) hx hb dX6_dissenting_22 rfl hl (by decide) rfl (fun ls hl => ?_)
    exact lp_23 N _ _ _ _ hf _ _ _ hP hD hS (lv_sub hl [3, 2, 1, 0] rfl)
set_option maxRecDepth 100000 in
set_option maxHeartbeats 4000000 in
theorem c_X6_fix {l : Launch} {G : Gp} {sz N : Nat} {x1 : Int32} {x2 : Int32} {h0 : Nat} {a0 : Nat → Nat} {u0 : Ob} {q : Int32 × Ob} (hf : f_X6_fix N x1 x2 u0 = some q) : Met l yX6_fix (Cond.code yX6_fix cX6_fix 3 (some .int) :: lw_g) ({ frames := 1, cells := 0, slots := 0, locals := 25 } : Room) (va_Pc [.ref h0, .int x1, .int x2] (pw G (wX6 G h0 a0 u0) sz)) (va_Qi (fun (r : Int32) (v : Ob) => q.1 = r ∧ q.2 = v) (bw G (fun v : Ob => (wX6 G h0 a0 v)) (va_A (wX6 G h0 a0 u0) sz)) (va_A (wX6 G h0 a0 u0) sz)) 0 0 (va_A (wX6 G h0 a0 u0) sz) := by
  refine mt (Qc := (fun A => va_Qi (fun (r : Int32) (v : Ob) => q.1 = r ∧ q.2 = v) (bw G (fun v : Ob => (wX6 G h0 a0 v)) A) A)) (by decide) (Nat.le_of_ble_eq_true rfl) ?_
  intro p e s m below meth c A ls hx hb hr hlk hml hts hown hA hP hK hD hE hS hl
  have hown : s.vm.findClass RX6 = some m.cls := hown
  have hg : ∀ w ∈ lw_g, w.before ([.ref h0, .int x1, .int x2] : List Value).toArray s = true := fun w h => hts w (List.mem_cons_of_mem _ h)
  have hC : CallFix p m c cX6_fix 3 s ([.ref h0, .int x1, .int x2] : List Value).toArray (Cond.code yX6_fix cX6_fix 3 (some .int) :: lw_g) RX6 := ⟨hx, hb, hml, hown, hts⟩
  have hl : lv_has ls 3 [(0, .ref h0), (1, .int x1), (2, .int x2)] := hl
  rw [f_X6_fix] at hf
  refine lv_aload_n hx hb dX6_fix_0 rfl (lv_at hl 0 rfl) ?_
  refine lv_iload_n hx hb dX6_fix_1 rfl (lv_at hl 1 rfl) ?_
  refine lv_i2l (v := x1.toInt64) hx hb dX6_fix_2 rfl ?_
  refine lv_lconst (v := (0 : Int64)) hx hb dX6_fix_3 (by decide) ?_
  refine lv_aload_n hx hb dX6_fix_4 rfl (lv_at hl 0 rfl) ?_
  refine va_get (D := gD G) (ci := 4) (v := .ref (a0 0)) (C := RX6) (T := TX6) (N := 22) hx hb hg kl_X6 hown hK hP 0 rfl rfl 0 (by decide) (hg _ kq5_5) (fun _ h9 => h9) rfl dX6_fix_5 ?_
  refine lv_bipush (v := (13 : Int32)) hx hb dX6_fix_8 (by decide) ?_
  refine va_lald (f := (u0.2.2.2 0)) hx hb hK hP 1 2 rfl rfl (vin (by decide)) dX6_fix_10 ?_
  refine lv_lconst (v := (1 : Int64)) hx hb dX6_fix_11 (by decide) ?_
  refine lv_lsub hx hb dX6_fix_12 ?_
  obtain ⟨q1, e2, hf⟩ := tbd hf
  refine kSi0 (As := [.long x1.toInt64, .long (0 : Int64), .long (((u0.2.2.2 0) (13 : Int32).toNatClampNeg) - (1 : Int64))]) (rest := [.ref h0]) hC (c_X6_isIn (G := G) e2) kq5_84 kc_X6_isIn (by decide) hP hK hD hE hS hA hl.1 (Nat.le_of_ble_eq_true rfl) ⟨Nat.zero_le _, Nat.zero_le _⟩ dX6_fix_13 (fun r9 u9 H locs hw hP hD hS => ?_)
  obtain ⟨rfl, rfl⟩ := hw
  refine bz_ne (tgt := 23) hx hb dX6_fix_16 (by decide) (fun c3 => ?_) (fun c3 => ?_)
  · have hf := tp hf c3
    refine lv_iload_n hx hb dX6_fix_23 rfl (lv_at hl 2 rfl) ?_
    refine lv_i2l (v := x2.toInt64) hx hb dX6_fix_24 rfl ?_
    refine lv_lconst (v := (0 : Int64)) hx hb dX6_fix_25 (by decide) ?_
    refine lv_lconst (v := (1 : Int64)) hx hb dX6_fix_26 (by decide) ?_
    obtain ⟨q4, e5, hf⟩ := tbd hf
    refine kSi0 (As := [.long x2.toInt64, .long (0 : Int64), .long (1 : Int64)]) (rest := [.ref h0]) hC (c_X6_isIn (G := G) e5) kq5_84 kc_X6_isIn (by decide) hP hK hD hE hS hA hl.1 (Nat.le_of_ble_eq_true rfl) ⟨Nat.zero_le _, Nat.zero_le _⟩ dX6_fix_27 (fun r9 u9 H locs hw hP hD hS => ?_)
    obtain ⟨rfl, rfl⟩ := hw
    refine bz_eq (tgt := 37) hx hb dX6_fix_30 (by decide) (fun c6 => ?_) (fun c6 => ?_)
    · have hf := tn hf c6
      refine lv_iconst (v := (2 : Int32)) hx hb dX6_fix_37 (by decide) ?_
      refine va_put (D := gD G) (ci := 4) (v := .int (2 : Int32)) (ty := .int) (C := RX6) (T := TX6) (N := 22) hx hb hg kl_X6 tyX6 tyX6_ok nmX6 hown hK hP hD hS 0 rfl rfl 7 (by decide) (hg _ kq5_12) (fun _ h9 => h9) rfl (by decide +kernel) rfl rfl (Nat.le_of_ble_eq_true rfl) dX6_fix_38 (fun H locs hP hD hS => ?_)
      have hP : va_P (gD G) vwCl (wX6 G h0 a0 (oi u0 7 (2 : Int32))) H := hP
      have hD : va_D A (wX6 G h0 a0 (oi u0 7 (2 : Int32))) := hD
      refine lv_aload_n hx hb dX6_fix_41 rfl (lv_at hl 0 rfl) ?_
      refine va_get (D := gD G) (ci := 4) (v := .int (2 : Int32)) (C := RX6) (T := TX6) (N := 22) hx hb hg kl_X6 hown hK hP 0 rfl rfl 7 (by decide) (hg _ kq5_12) (fun _ h9 => h9) rfl dX6_fix_42 ?_
      refine lv_if_le (tgt := 52) hx hb dX6_fix_45 (by decide) (fun c7 => ?_) (fun c7 => ?_)
      · exact absurd c7 (by decide)
      refine lv_iconst (v := (0 : Int32)) hx hb dX6_fix_48 (by decide) ?_
      refine lv_goto (tgt := 66) hx hb dX6_fix_49 (by decide) ?_
      have hf := Option.some.inj hf
      subst hf
      exact e_i (wf := (fun v : Ob => (wX6 G h0 a0 v))) hx hb hr hlk (oi u0 7 (2 : Int32)) ⟨rfl, rfl⟩ hP hK hD hS dX6_fix_66
    · have hf := tp hf c6
      refine lv_iconst (v := (0 : Int32)) hx hb dX6_fix_33 (by decide) ?_
      refine lv_goto (tgt := 38) hx hb dX6_fix_34 (by decide) ?_
      refine va_put (D := gD G) (ci := 4) (v := .int (0 : Int32)) (ty := .int) (C := RX6) (T := TX6) (N := 22) hx hb hg kl_X6 tyX6 tyX6_ok nmX6 hown hK hP hD hS 0 rfl rfl 7 (by decide) (hg _ kq5_12) (fun _ h9 => h9) rfl (by decide +kernel) rfl rfl (Nat.le_of_ble_eq_true rfl) dX6_fix_38 (fun H locs hP hD hS => ?_)
      have hP : va_P (gD G) vwCl (wX6 G h0 a0 (oi u0 7 (0 : Int32))) H := hP
      have hD : va_D A (wX6 G h0 a0 (oi u0 7 (0 : Int32))) := hD
      refine lv_aload_n hx hb dX6_fix_41 rfl (lv_at hl 0 rfl) ?_
      refine va_get (D := gD G) (ci := 4) (v := .int (0 : Int32)) (C := RX6) (T := TX6) (N := 22) hx hb hg kl_X6 hown hK hP 0 rfl rfl 7 (by decide) (hg _ kq5_12) (fun _ h9 => h9) rfl dX6_fix_42 ?_
      refine lv_if_le (tgt := 52) hx hb dX6_fix_45 (by decide) (fun c8 => ?_) (fun c8 => ?_)
      rotate_left
      · exact absurd c8 (by decide)
      refine lv_aload_n hx hb dX6_fix_52 rfl (lv_at hl 0 rfl) ?_
      refine va_get (D := gD G) (ci := 4) (v := .ref (a0 0)) (C := RX6) (T := TX6) (N := 22) hx hb hg kl_X6 hown hK hP 0 rfl rfl 0 (by decide) (hg _ kq5_5) (fun _ h9 => h9) rfl dX6_fix_53 ?_
      refine lv_bipush (v := (32 : Int32)) hx hb dX6_fix_56 (by decide) ?_
      refine lv_iconst (v := (2 : Int32)) hx hb dX6_fix_58 (by decide) ?_
      refine lv_iload_n hx hb dX6_fix_59 rfl (lv_at hl 1 rfl) ?_
      refine lv_imul hx hb dX6_fix_60 ?_
      refine lv_iadd hx hb dX6_fix_61 ?_
      refine lv_iload_n hx hb dX6_fix_62 rfl (lv_at hl 2 rfl) ?_
      refine lv_iadd hx hb dX6_fix_63 ?_
      obtain ⟨b9, hf⟩ := tno hf
      refine va_lald (f := (u0.2.2.2 0)) hx hb hK hP 1 2 rfl rfl b9 dX6_fix_64 ?_
      refine lv_l2i (v := ((u0.2.2.2 0) (((32 : Int32) + ((2 : Int32) * x1)) + x2).toNatClampNeg).toInt32) hx hb dX6_fix_65 rfl ?_
      have hf := Option.some.inj hf
      subst hf
      exact e_i (wf := (fun v : Ob => (wX6 G h0 a0 v))) hx hb hr hlk (oi u0 7 (0 : Int32)) ⟨rfl, rfl⟩ hP hK hD hS dX6_fix_66
  · have hf := tn hf c3
    refine lv_iconst (v := (1 : Int32)) hx hb dX6_fix_19 (by decide) ?_
    refine lv_goto (tgt := 38) hx hb dX6_fix_20 (by decide) ?_
    refine va_put (D := gD G) (ci := 4) (v := .int (1 : Int32)) (ty := .int) (C := RX6) (T := TX6) (N := 22) hx hb hg kl_X6 tyX6 tyX6_ok nmX6 hown hK hP hD hS 0 rfl rfl 7 (by decide) (hg _ kq5_12) (fun _ h9 => h9) rfl (by decide +kernel) rfl rfl (Nat.le_of_ble_eq_true rfl) dX6_fix_38 (fun H locs hP hD hS => ?_)
    have hP : va_P (gD G) vwCl (wX6 G h0 a0 (oi u0 7 (1 : Int32))) H := hP
    have hD : va_D A (wX6 G h0 a0 (oi u0 7 (1 : Int32))) := hD
    refine lv_aload_n hx hb dX6_fix_41 rfl (lv_at hl 0 rfl) ?_
    refine va_get (D := gD G) (ci := 4) (v := .int (1 : Int32)) (C := RX6) (T := TX6) (N := 22) hx hb hg kl_X6 hown hK hP 0 rfl rfl 7 (by decide) (hg _ kq5_12) (fun _ h9 => h9) rfl dX6_fix_42 ?_
    refine lv_if_le (tgt := 52) hx hb dX6_fix_45 (by decide) (fun c10 => ?_) (fun c10 => ?_)
    · exact absurd c10 (by decide)
    refine lv_iconst (v := (0 : Int32)) hx hb dX6_fix_48 (by decide) ?_
    refine lv_goto (tgt := 66) hx hb dX6_fix_49 (by decide) ?_
    have hf := Option.some.inj hf
    subst hf
    exact e_i (wf := (fun v : Ob => (wX6 G h0 a0 v))) hx hb hr hlk (oi u0 7 (1 : Int32)) ⟨rfl, rfl⟩ hP hK hD hS dX6_fix_66
set_option maxRecDepth 100000 in
set_option maxHeartbeats 4000000 in
theorem c_X6_clock {l : Launch} {G : Gp} {sz N : Nat} {x1 : Int32} {h0 : Nat} {a0 : Nat → Nat} {u0 : Ob} {q : Int64 × Ob} (hf : f_X6_clock N x1 u0 = some q) : Met l yX6_clock (Cond.code yX6_clock cX6_clock 4 (some .long) :: lw_g) ({ frames := 1, cells := 0, slots := 0, locals := 25 } : Room) (va_Pc [.ref h0, .int x1] (pw G (wX6 G h0 a0 u0) sz)) (va_Ql (fun (r : Int64) (v : Ob) => q.1 = r ∧ q.2 = v) (bw G (fun v : Ob => (wX6 G h0 a0 v)) (va_A (wX6 G h0 a0 u0) sz)) (va_A (wX6 G h0 a0 u0) sz)) 0 0 (va_A (wX6 G h0 a0 u0) sz) := by
  refine mt (Qc := (fun A => va_Ql (fun (r : Int64) (v : Ob) => q.1 = r ∧ q.2 = v) (bw G (fun v : Ob => (wX6 G h0 a0 v)) A) A)) (by decide) (Nat.le_of_ble_eq_true rfl) ?_
  intro p e s m below meth c A ls hx hb hr hlk hml hts hown hA hP hK hD hE hS hl
  have hown : s.vm.findClass RX6 = some m.cls := hown
  have hg : ∀ w ∈ lw_g, w.before ([.ref h0, .int x1] : List Value).toArray s = true := fun w h => hts w (List.mem_cons_of_mem _ h)
  have hC : CallFix p m c cX6_clock 4 s ([.ref h0, .int x1] : List Value).toArray (Cond.code yX6_clock cX6_clock 4 (some .long) :: lw_g) RX6 := ⟨hx, hb, hml, hown, hts⟩
  have hl : lv_has ls 4 [(0, .ref h0), (1, .int x1)] := hl
  rw [f_X6_clock] at hf
  refine lv_aload_n hx hb dX6_clock_0 rfl (lv_at hl 0 rfl) ?_
  refine lv_iload_n hx hb dX6_clock_1 rfl (lv_at hl 1 rfl) ?_
  refine lv_i2l (v := x1.toInt64) hx hb dX6_clock_2 rfl ?_
  refine lv_lconst (v := (0 : Int64)) hx hb dX6_clock_3 (by decide) ?_
  refine lv_ldc2 hx hb hown (hg _ kq5_226) dX6_clock_4 ?_
  obtain ⟨q1, e2, hf⟩ := tbd hf
  refine kSi0 (As := [.long x1.toInt64, .long (0 : Int64), .long (2000000000 : Int64)]) (rest := [.ref h0]) hC (c_X6_isIn (G := G) e2) kq5_84 kc_X6_isIn (by decide) hP hK hD hE hS hA hl.1 (Nat.le_of_ble_eq_true rfl) ⟨Nat.zero_le _, Nat.zero_le _⟩ dX6_clock_7 (fun r9 u9 H locs hw hP hD hS => ?_)
  obtain ⟨rfl, rfl⟩ := hw
  refine bz_ne (tgt := 17) hx hb dX6_clock_10 (by decide) (fun c3 => ?_) (fun c3 => ?_)
  · have hf := tp hf c3
    refine lv_aload_n hx hb dX6_clock_17 rfl (lv_at hl 0 rfl) ?_
    refine va_get (D := gD G) (ci := 4) (v := .ref (a0 0)) (C := RX6) (T := TX6) (N := 22) hx hb hg kl_X6 hown hK hP 0 rfl rfl 0 (by decide) (hg _ kq5_5) (fun _ h9 => h9) rfl dX6_clock_18 ?_
    refine lv_bipush (v := (13 : Int32)) hx hb dX6_clock_21 (by decide) ?_
    refine va_lald (f := (u0.2.2.2 0)) hx hb hK hP 1 2 rfl rfl (vin (by decide)) dX6_clock_23 ?_
    refine lv_lconst (v := (0 : Int64)) hx hb dX6_clock_24 (by decide) ?_
    refine lc_eq (tgt := 42) hx hb dX6_clock_25 dX6_clock_26 (by decide) (fun c4 => ?_) (fun c4 => ?_)
    · have hf := tp hf c4
      refine lv_iconst (v := (2 : Int32)) hx hb dX6_clock_42 (by decide) ?_
      refine lv_goto (tgt := 47) hx hb dX6_clock_43 (by decide) ?_
      refine va_put (D := gD G) (ci := 4) (v := .int (2 : Int32)) (ty := .int) (C := RX6) (T := TX6) (N := 22) hx hb hg kl_X6 tyX6 tyX6_ok nmX6 hown hK hP hD hS 0 rfl rfl 7 (by decide) (hg _ kq5_12) (fun _ h9 => h9) rfl (by decide +kernel) rfl rfl (Nat.le_of_ble_eq_true rfl) dX6_clock_47 (fun H locs hP hD hS => ?_)
      have hP : va_P (gD G) vwCl (wX6 G h0 a0 (oi u0 7 (2 : Int32))) H := hP
      have hD : va_D A (wX6 G h0 a0 (oi u0 7 (2 : Int32))) := hD
      refine lv_aload_n hx hb dX6_clock_50 rfl (lv_at hl 0 rfl) ?_
      refine va_get (D := gD G) (ci := 4) (v := .int (2 : Int32)) (C := RX6) (T := TX6) (N := 22) hx hb hg kl_X6 hown hK hP 0 rfl rfl 7 (by decide) (hg _ kq5_12) (fun _ h9 => h9) rfl dX6_clock_51 ?_
      refine lv_if_le (tgt := 59) hx hb dX6_clock_54 (by decide) (fun c5 => ?_) (fun c5 => ?_)
      · exact absurd c5 (by decide)
      refine lv_lconst (v := (0 : Int64)) hx hb dX6_clock_57 (by decide) ?_
      have hf := Option.some.inj hf
      subst hf
      exact e_l (wf := (fun v : Ob => (wX6 G h0 a0 v))) hx hb hr hlk (oi u0 7 (2 : Int32)) ⟨rfl, rfl⟩ hP hK hD hS dX6_clock_58
    · have hf := tn hf c4
      refine lv_aload_n hx hb dX6_clock_29 rfl (lv_at hl 0 rfl) ?_
      refine va_get (D := gD G) (ci := 4) (v := .ref (a0 0)) (C := RX6) (T := TX6) (N := 22) hx hb hg kl_X6 hown hK hP 0 rfl rfl 0 (by decide) (hg _ kq5_5) (fun _ h9 => h9) rfl dX6_clock_30 ?_
      refine lv_bipush (v := (33 : Int32)) hx hb dX6_clock_33 (by decide) ?_
      refine va_lald (f := (u0.2.2.2 0)) hx hb hK hP 1 2 rfl rfl (vin (by decide)) dX6_clock_35 ?_
      refine lv_iload_n hx hb dX6_clock_36 rfl (lv_at hl 1 rfl) ?_
      refine lv_i2l (v := x1.toInt64) hx hb dX6_clock_37 rfl ?_
      refine lc_le (tgt := 46) hx hb dX6_clock_38 dX6_clock_39 (by decide) (fun c6 => ?_) (fun c6 => ?_)
      · have hf := tp hf c6
        refine lv_iconst (v := (0 : Int32)) hx hb dX6_clock_46 (by decide) ?_
        refine va_put (D := gD G) (ci := 4) (v := .int (0 : Int32)) (ty := .int) (C := RX6) (T := TX6) (N := 22) hx hb hg kl_X6 tyX6 tyX6_ok nmX6 hown hK hP hD hS 0 rfl rfl 7 (by decide) (hg _ kq5_12) (fun _ h9 => h9) rfl (by decide +kernel) rfl rfl (Nat.le_of_ble_eq_true rfl) dX6_clock_47 (fun H locs hP hD hS => ?_)
        have hP : va_P (gD G) vwCl (wX6 G h0 a0 (oi u0 7 (0 : Int32))) H := hP
        have hD : va_D A (wX6 G h0 a0 (oi u0 7 (0 : Int32))) := hD
        refine lv_aload_n hx hb dX6_clock_50 rfl (lv_at hl 0 rfl) ?_
        refine va_get (D := gD G) (ci := 4) (v := .int (0 : Int32)) (C := RX6) (T := TX6) (N := 22) hx hb hg kl_X6 hown hK hP 0 rfl rfl 7 (by decide) (hg _ kq5_12) (fun _ h9 => h9) rfl dX6_clock_51 ?_
        refine lv_if_le (tgt := 59) hx hb dX6_clock_54 (by decide) (fun c7 => ?_) (fun c7 => ?_)
        rotate_left
        · exact absurd c7 (by decide)
        refine lv_iload_n hx hb dX6_clock_59 rfl (lv_at hl 1 rfl) ?_
        refine lv_i2l (v := x1.toInt64) hx hb dX6_clock_60 rfl ?_
        refine lv_aload_n hx hb dX6_clock_61 rfl (lv_at hl 0 rfl) ?_
        refine va_get (D := gD G) (ci := 4) (v := .ref (a0 0)) (C := RX6) (T := TX6) (N := 22) hx hb hg kl_X6 hown hK hP 0 rfl rfl 0 (by decide) (hg _ kq5_5) (fun _ h9 => h9) rfl dX6_clock_62 ?_
        refine lv_bipush (v := (33 : Int32)) hx hb dX6_clock_65 (by decide) ?_
        refine va_lald (f := (u0.2.2.2 0)) hx hb hK hP 1 2 rfl rfl (vin (by decide)) dX6_clock_67 ?_
        refine lv_lsub hx hb dX6_clock_68 ?_
        refine lv_lstore_n (lv' := [(2, .long (x1.toInt64 - ((u0.2.2.2 0) (33 : Int32).toNatClampNeg))), (0, .ref h0), (1, .int x1)]) hx hb dX6_clock_69 rfl hl (by decide) rfl (fun ls hl => ?_)
        refine lv_ldc2 hx hb hown (hg _ kq6_186) dX6_clock_70 ?_
        refine lv_aload_n hx hb dX6_clock_73 rfl (lv_at hl 1 rfl) ?_
        refine va_get (D := gD G) (ci := 4) (v := .ref (a0 0)) (C := RX6) (T := TX6) (N := 22) hx hb hg kl_X6 hown hK hP 0 rfl rfl 0 (by decide) (hg _ kq5_5) (fun _ h9 => h9) rfl dX6_clock_74 ?_
        refine lv_bipush (v := (32 : Int32)) hx hb dX6_clock_77 (by decide) ?_
        refine va_lald (f := (u0.2.2.2 0)) hx hb hK hP 1 2 rfl rfl (vin (by decide)) dX6_clock_79 ?_
        refine lv_lmul hx hb dX6_clock_80 ?_
        refine lv_lload_n hx hb dX6_clock_81 rfl (lv_at hl 0 rfl) ?_
        refine lv_ladd hx hb dX6_clock_82 ?_
        refine lv_lload_n hx hb dX6_clock_83 rfl (lv_at hl 0 rfl) ?_
        refine lv_aload_n hx hb dX6_clock_84 rfl (lv_at hl 1 rfl) ?_
        refine va_get (D := gD G) (ci := 4) (v := .ref (a0 0)) (C := RX6) (T := TX6) (N := 22) hx hb hg kl_X6 hown hK hP 0 rfl rfl 0 (by decide) (hg _ kq5_5) (fun _ h9 => h9) rfl dX6_clock_85 ?_
        refine lv_iconst (v := (4 : Int32)) hx hb dX6_clock_88 (by decide) ?_
        refine va_lald (f := (u0.2.2.2 0)) hx hb hK hP 1 2 rfl rfl (vin (by decide)) dX6_clock_89 ?_
        refine lv_lmul hx hb dX6_clock_90 ?_
        refine lv_ldc2 hx hb hown (hg _ kq6_187) dX6_clock_91 ?_
        refine lv_ldiv hx hb dX6_clock_94 (by decide) ?_
        refine lv_ladd hx hb dX6_clock_95 ?_
        have hf := Option.some.inj hf
        subst hf
        exact e_l (wf := (fun v : Ob => (wX6 G h0 a0 v))) hx hb hr hlk (oi u0 7 (0 : Int32)) ⟨rfl, rfl⟩ hP hK hD hS dX6_clock_96
      · have hf := tn hf c6
        refine lv_iconst (v := (2 : Int32)) hx hb dX6_clock_42 (by decide) ?_
        refine lv_goto (tgt := 47) hx hb dX6_clock_43 (by decide) ?_
        refine va_put (D := gD G) (ci := 4) (v := .int (2 : Int32)) (ty := .int) (C := RX6) (T := TX6) (N := 22) hx hb hg kl_X6 tyX6 tyX6_ok nmX6 hown hK hP hD hS 0 rfl rfl 7 (by decide) (hg _ kq5_12) (fun _ h9 => h9) rfl (by decide +kernel) rfl rfl (Nat.le_of_ble_eq_true rfl) dX6_clock_47 (fun H locs hP hD hS => ?_)
        have hP : va_P (gD G) vwCl (wX6 G h0 a0 (oi u0 7 (2 : Int32))) H := hP
        have hD : va_D A (wX6 G h0 a0 (oi u0 7 (2 : Int32))) := hD
        refine lv_aload_n hx hb dX6_clock_50 rfl (lv_at hl 0 rfl) ?_
        refine va_get (D := gD G) (ci := 4) (v := .int (2 : Int32)) (C := RX6) (T := TX6) (N := 22) hx hb hg kl_X6 hown hK hP 0 rfl rfl 7 (by decide) (hg _ kq5_12) (fun _ h9 => h9) rfl dX6_clock_51 ?_
        refine lv_if_le (tgt := 59) hx hb dX6_clock_54 (by decide) (fun c8 => ?_) (fun c8 => ?_)
        · exact absurd c8 (by decide)
        refine lv_lconst (v := (0 : Int64)) hx hb dX6_clock_57 (by decide) ?_
        have hf := Option.some.inj hf
        subst hf
        exact e_l (wf := (fun v : Ob => (wX6 G h0 a0 v))) hx hb hr hlk (oi u0 7 (2 : Int32)) ⟨rfl, rfl⟩ hP hK hD hS dX6_clock_58
  · have hf := tn hf c3
    refine lv_iconst (v := (1 : Int32)) hx hb dX6_clock_13 (by decide) ?_
    refine lv_goto (tgt := 47) hx hb dX6_clock_14 (by decide) ?_
    refine va_put (D := gD G) (ci := 4) (v := .int (1 : Int32)) (ty := .int) (C := RX6) (T := TX6) (N := 22) hx hb hg kl_X6 tyX6 tyX6_ok nmX6 hown hK hP hD hS 0 rfl rfl 7 (by decide) (hg _ kq5_12) (fun _ h9 => h9) rfl (by decide +kernel) rfl rfl (Nat.le_of_ble_eq_true rfl) dX6_clock_47 (fun H locs hP hD hS => ?_)
    have hP : va_P (gD G) vwCl (wX6 G h0 a0 (oi u0 7 (1 : Int32))) H := hP
    have hD : va_D A (wX6 G h0 a0 (oi u0 7 (1 : Int32))) := hD
    refine lv_aload_n hx hb dX6_clock_50 rfl (lv_at hl 0 rfl) ?_
    refine va_get (D := gD G) (ci := 4) (v := .int (1 : Int32)) (C := RX6) (T := TX6) (N := 22) hx hb hg kl_X6 hown hK hP 0 rfl rfl 7 (by decide) (hg _ kq5_12) (fun _ h9 => h9) rfl dX6_clock_51 ?_
    refine lv_if_le (tgt := 59) hx hb dX6_clock_54 (by decide) (fun c9 => ?_) (fun c9 => ?_)
    · exact absurd c9 (by decide)
    refine lv_lconst (v := (0 : Int64)) hx hb dX6_clock_57 (by decide) ?_
    have hf := Option.some.inj hf
    subst hf
    exact e_l (wf := (fun v : Ob => (wX6 G h0 a0 v))) hx hb hr hlk (oi u0 7 (1 : Int32)) ⟨rfl, rfl⟩ hP hK hD hS dX6_clock_58
set_option maxRecDepth 100000 in
set_option maxHeartbeats 4000000 in
theorem c_X6_estimated {l : Launch} {G : Gp} {sz N : Nat} {h0 : Nat} {a0 : Nat → Nat} {u0 : Ob} {q : Int64} (hf : f_X6_estimated N u0 = some q) : Met l yX6_estimated (Cond.code yX6_estimated cX6_estimated 5 (some .long) :: lw_g) ({ frames := 0, cells := 0, slots := 0, locals := 0 } : Room) (va_Pc [.ref h0] (pw G (wX6 G h0 a0 u0) sz)) (va_Ql (fun (r : Int64) (v : Ob) => q = r ∧ u0 = v) (bw G (fun v : Ob => (wX6 G h0 a0 v)) (va_A (wX6 G h0 a0 u0) sz)) (va_A (wX6 G h0 a0 u0) sz)) 0 0 (va_A (wX6 G h0 a0 u0) sz) := by
  refine mt (Qc := (fun A => va_Ql (fun (r : Int64) (v : Ob) => q = r ∧ u0 = v) (bw G (fun v : Ob => (wX6 G h0 a0 v)) A) A)) (by decide) (Nat.le_of_ble_eq_true rfl) ?_
  intro p e s m below meth c A ls hx hb hr hlk hml hts hown hA hP hK hD hE hS hl
  have hown : s.vm.findClass RX6 = some m.cls := hown
  have hg : ∀ w ∈ lw_g, w.before ([.ref h0] : List Value).toArray s = true := fun w h => hts w (List.mem_cons_of_mem _ h)
  have hC : CallFix p m c cX6_estimated 5 s ([.ref h0] : List Value).toArray (Cond.code yX6_estimated cX6_estimated 5 (some .long) :: lw_g) RX6 := ⟨hx, hb, hml, hown, hts⟩
  have hl : lv_has ls 5 [(0, .ref h0)] := hl
  rw [f_X6_estimated] at hf
  refine lv_ldc2 hx hb hown (hg _ kq6_186) dX6_estimated_0 ?_
  refine lv_aload_n hx hb dX6_estimated_3 rfl (lv_at hl 0 rfl) ?_
  refine va_get (D := gD G) (ci := 4) (v := .ref (a0 0)) (C := RX6) (T := TX6) (N := 22) hx hb hg kl_X6 hown hK hP 0 rfl rfl 0 (by decide) (hg _ kq5_5) (fun _ h9 => h9) rfl dX6_estimated_4 ?_
  refine lv_bipush (v := (32 : Int32)) hx hb dX6_estimated_7 (by decide) ?_
  refine va_lald (f := (u0.2.2.2 0)) hx hb hK hP 1 2 rfl rfl (vin (by decide)) dX6_estimated_9 ?_
  refine lv_aload_n hx hb dX6_estimated_10 rfl (lv_at hl 0 rfl) ?_
  refine va_get (D := gD G) (ci := 4) (v := .ref (a0 0)) (C := RX6) (T := TX6) (N := 22) hx hb hg kl_X6 hown hK hP 0 rfl rfl 0 (by decide) (hg _ kq5_5) (fun _ h9 => h9) rfl dX6_estimated_11 ?_
  refine lv_bipush (v := (34 : Int32)) hx hb dX6_estimated_14 (by decide) ?_
  refine va_lald (f := (u0.2.2.2 0)) hx hb hK hP 1 2 rfl rfl (vin (by decide)) dX6_estimated_16 ?_
  refine lv_lsub hx hb dX6_estimated_17 ?_
  refine lv_lmul hx hb dX6_estimated_18 ?_
  refine lv_lstore_n (lv' := [(1, .long ((60000 : Int64) * (((u0.2.2.2 0) (32 : Int32).toNatClampNeg) - ((u0.2.2.2 0) (34 : Int32).toNatClampNeg)))), (0, .ref h0)]) hx hb dX6_estimated_19 rfl hl (by decide) rfl (fun ls hl => ?_)
  refine lv_aload_n hx hb dX6_estimated_20 rfl (lv_at hl 1 rfl) ?_
  refine va_get (D := gD G) (ci := 4) (v := .ref (a0 0)) (C := RX6) (T := TX6) (N := 22) hx hb hg kl_X6 hown hK hP 0 rfl rfl 0 (by decide) (hg _ kq5_5) (fun _ h9 => h9) rfl dX6_estimated_21 ?_
  refine lv_bipush (v := (33 : Int32)) hx hb dX6_estimated_24 (by decide) ?_
  refine va_lald (f := (u0.2.2.2 0)) hx hb hK hP 1 2 rfl rfl (vin (by decide)) dX6_estimated_26 ?_
  refine lv_aload_n hx hb dX6_estimated_27 rfl (lv_at hl 1 rfl) ?_
  refine va_get (D := gD G) (ci := 4) (v := .ref (a0 0)) (C := RX6) (T := TX6) (N := 22) hx hb hg kl_X6 hown hK hP 0 rfl rfl 0 (by decide) (hg _ kq5_5) (fun _ h9 => h9) rfl dX6_estimated_28 ?_
  refine lv_bipush (v := (35 : Int32)) hx hb dX6_estimated_31 (by decide) ?_
  refine va_lald (f := (u0.2.2.2 0)) hx hb hK hP 1 2 rfl rfl (vin (by decide)) dX6_estimated_33 ?_
  refine lv_lsub hx hb dX6_estimated_34 ?_
  refine lv_lstore_n (lv' := [(3, .long (((u0.2.2.2 0) (33 : Int32).toNatClampNeg) - ((u0.2.2.2 0) (35 : Int32).toNatClampNeg))), (1, .long ((60000 : Int64) * (((u0.2.2.2 0) (32 : Int32).toNatClampNeg) - ((u0.2.2.2 0) (34 : Int32).toNatClampNeg)))), (0, .ref h0)]) hx hb dX6_estimated_35 rfl hl (by decide) rfl (fun ls hl => ?_)
  refine lv_lload_n hx hb dX6_estimated_36 rfl (lv_at hl 1 rfl) ?_
  refine lv_lload_n hx hb dX6_estimated_37 rfl (lv_at hl 0 rfl) ?_
  refine lv_lsub hx hb dX6_estimated_38 ?_
  refine lv_ldc2 hx hb hown (hg _ kq6_187) dX6_estimated_39 ?_
  refine lv_lmul hx hb dX6_estimated_42 ?_
  refine lv_lload_n hx hb dX6_estimated_43 rfl (lv_at hl 0 rfl) ?_
  obtain ⟨b1, hf⟩ := tno hf
  refine lv_ldiv hx hb dX6_estimated_44 b1 ?_
  have hf := Option.some.inj hf
  subst hf
  exact e_l (wf := (fun v : Ob => (wX6 G h0 a0 v))) hx hb hr hlk u0 ⟨rfl, rfl⟩ hP hK hD hS dX6_estimated_45
set_option maxRecDepth 100000 in
set_option maxHeartbeats 4000000 in
theorem c_X6_estimate {l : Launch} {G : Gp} {sz N : Nat} {h0 : Nat} {a0 : Nat → Nat} {u0 : Ob} {q : Int64 × Ob} (hf : f_X6_estimate N u0 = some q) : Met l yX6_estimate (Cond.code yX6_estimate cX6_estimate 1 (some .long) :: lw_g) ({ frames := 1, cells := 0, slots := 0, locals := 24 } : Room) (va_Pc [.ref h0] (pw G (wX6 G h0 a0 u0) sz)) (va_Ql (fun (r : Int64) (v : Ob) => q.1 = r ∧ q.2 = v) (bw G (fun v : Ob => (wX6 G h0 a0 v)) (va_A (wX6 G h0 a0 u0) sz)) (va_A (wX6 G h0 a0 u0) sz)) 0 0 (va_A (wX6 G h0 a0 u0) sz) := by
  refine mt (Qc := (fun A => va_Ql (fun (r : Int64) (v : Ob) => q.1 = r ∧ q.2 = v) (bw G (fun v : Ob => (wX6 G h0 a0 v)) A) A)) (by decide) (Nat.le_of_ble_eq_true rfl) ?_
  intro p e s m below meth c A ls hx hb hr hlk hml hts hown hA hP hK hD hE hS hl
  have hown : s.vm.findClass RX6 = some m.cls := hown
  have hg : ∀ w ∈ lw_g, w.before ([.ref h0] : List Value).toArray s = true := fun w h => hts w (List.mem_cons_of_mem _ h)
  have hC : CallFix p m c cX6_estimate 1 s ([.ref h0] : List Value).toArray (Cond.code yX6_estimate cX6_estimate 1 (some .long) :: lw_g) RX6 := ⟨hx, hb, hml, hown, hts⟩
  have hl : lv_has ls 1 [(0, .ref h0)] := hl
  rw [f_X6_estimate] at hf
  refine lv_aload_n hx hb dX6_estimate_0 rfl (lv_at hl 0 rfl) ?_
  refine lv_aload_n hx hb dX6_estimate_1 rfl (lv_at hl 0 rfl) ?_
  refine va_get (D := gD G) (ci := 4) (v := .ref (a0 0)) (C := RX6) (T := TX6) (N := 22) hx hb hg kl_X6 hown hK hP 0 rfl rfl 0 (by decide) (hg _ kq5_5) (fun _ h9 => h9) rfl dX6_estimate_2 ?_
  refine lv_bipush (v := (13 : Int32)) hx hb dX6_estimate_5 (by decide) ?_
  refine va_lald (f := (u0.2.2.2 0)) hx hb hK hP 1 2 rfl rfl (vin (by decide)) dX6_estimate_7 ?_
  refine lv_ldc2 hx hb hown (hg _ kq6_9) dX6_estimate_8 ?_
  refine lc_ge (tgt := 19) hx hb dX6_estimate_11 dX6_estimate_12 (by decide) (fun c1 => ?_) (fun c1 => ?_)
  · have hf := tp hf c1
    refine lv_iconst (v := (0 : Int32)) hx hb dX6_estimate_19 (by decide) ?_
    refine va_put (D := gD G) (ci := 4) (v := .int (0 : Int32)) (ty := .int) (C := RX6) (T := TX6) (N := 22) hx hb hg kl_X6 tyX6 tyX6_ok nmX6 hown hK hP hD hS 0 rfl rfl 7 (by decide) (hg _ kq5_12) (fun _ h9 => h9) rfl (by decide +kernel) rfl rfl (Nat.le_of_ble_eq_true rfl) dX6_estimate_20 (fun H locs hP hD hS => ?_)
    have hP : va_P (gD G) vwCl (wX6 G h0 a0 (oi u0 7 (0 : Int32))) H := hP
    have hD : va_D A (wX6 G h0 a0 (oi u0 7 (0 : Int32))) := hD
    refine lv_aload_n hx hb dX6_estimate_23 rfl (lv_at hl 0 rfl) ?_
    refine va_get (D := gD G) (ci := 4) (v := .int (0 : Int32)) (C := RX6) (T := TX6) (N := 22) hx hb hg kl_X6 hown hK hP 0 rfl rfl 7 (by decide) (hg _ kq5_12) (fun _ h9 => h9) rfl dX6_estimate_24 ?_
    refine lv_if_le (tgt := 34) hx hb dX6_estimate_27 (by decide) (fun c2 => ?_) (fun c2 => ?_)
    rotate_left
    · exact absurd c2 (by decide)
    refine lv_aload_n hx hb dX6_estimate_34 rfl (lv_at hl 0 rfl) ?_
    obtain ⟨q3, e4, hf⟩ := tbd hf
    refine kVl1 (As := []) (rest := []) hC (c_X6_estimated (G := G) e4) kq6_196 kc_X6_estimated (by decide) 0 (ci := 4) rfl rfl hP hK hD hE hS hA hl.1 (Nat.le_of_ble_eq_true rfl) ⟨Nat.zero_le _, Nat.zero_le _⟩ dX6_estimate_35 (fun r9 u9 H locs hw hP hD hS => ?_)
    obtain ⟨rfl, rfl⟩ := hw
    have hP : va_P (gD G) vwCl (wX6 G h0 a0 (oi u0 7 (0 : Int32))) H := hP
    have hD : va_D A (wX6 G h0 a0 (oi u0 7 (0 : Int32))) := hD
    have hf := Option.some.inj hf
    subst hf
    exact e_l (wf := (fun v : Ob => (wX6 G h0 a0 v))) hx hb hr hlk (oi u0 7 (0 : Int32)) ⟨rfl, rfl⟩ hP hK hD hS dX6_estimate_38
  · have hf := tn hf c1
    refine lv_iconst (v := (1 : Int32)) hx hb dX6_estimate_15 (by decide) ?_
    refine lv_goto (tgt := 20) hx hb dX6_estimate_16 (by decide) ?_
    refine va_put (D := gD G) (ci := 4) (v := .int (1 : Int32)) (ty := .int) (C := RX6) (T := TX6) (N := 22) hx hb hg kl_X6 tyX6 tyX6_ok nmX6 hown hK hP hD hS 0 rfl rfl 7 (by decide) (hg _ kq5_12) (fun _ h9 => h9) rfl (by decide +kernel) rfl rfl (Nat.le_of_ble_eq_true rfl) dX6_estimate_20 (fun H locs hP hD hS => ?_)
    have hP : va_P (gD G) vwCl (wX6 G h0 a0 (oi u0 7 (1 : Int32))) H := hP
    have hD : va_D A (wX6 G h0 a0 (oi u0 7 (1 : Int32))) := hD
    refine lv_aload_n hx hb dX6_estimate_23 rfl (lv_at hl 0 rfl) ?_
    refine va_get (D := gD G) (ci := 4) (v := .int (1 : Int32)) (C := RX6) (T := TX6) (N := 22) hx hb hg kl_X6 hown hK hP 0 rfl rfl 7 (by decide) (hg _ kq5_12) (fun _ h9 => h9) rfl dX6_estimate_24 ?_
    refine lv_if_le (tgt := 34) hx hb dX6_estimate_27 (by decide) (fun c5 => ?_) (fun c5 => ?_)
    · exact absurd c5 (by decide)
    refine lv_lconst (v := (0 : Int64)) hx hb dX6_estimate_30 (by decide) ?_
    refine lv_goto (tgt := 38) hx hb dX6_estimate_31 (by decide) ?_
    have hf := Option.some.inj hf
    subst hf
    exact e_l (wf := (fun v : Ob => (wX6 G h0 a0 v))) hx hb hr hlk (oi u0 7 (1 : Int32)) ⟨rfl, rfl⟩ hP hK hD hS dX6_estimate_38
set_option maxRecDepth 100000 in
set_option maxHeartbeats 4000000 in
theorem c_X6_set {l : Launch} {G : Gp} {sz N : Nat} {x1 : Int32} {x2 : Int32} {h0 : Nat} {a0 : Nat → Nat} {u0 : Ob} {q : Int32 × Ob} (hf : f_X6_set N x1 x2 u0 = some q) : Met l yX6_set (Cond.code yX6_set cX6_set 3 (some .int) :: lw_g) ({ frames := 1, cells := 0, slots := 0, locals := 25 } : Room) (va_Pc [.ref h0, .int x1, .int x2] (pw G (wX6 G h0 a0 u0) sz)) (va_Qi (fun (r : Int32) (v : Ob) => q.1 = r ∧ q.2 = v) (bw G (fun v : Ob => (wX6 G h0 a0 v)) (va_A (wX6 G h0 a0 u0) sz)) (va_A (wX6 G h0 a0 u0) sz)) 0 0 (va_A (wX6 G h0 a0 u0) sz) := by
  refine mt (Qc := (fun A => va_Qi (fun (r : Int32) (v : Ob) => q.1 = r ∧ q.2 = v) (bw G (fun v : Ob => (wX6 G h0 a0 v)) A) A)) (by decide) (Nat.le_of_ble_eq_true rfl) ?_
  intro p e s m below meth c A ls hx hb hr hlk hml hts hown hA hP hK hD hE hS hl
  have hown : s.vm.findClass RX6 = some m.cls := hown
  have hg : ∀ w ∈ lw_g, w.before ([.ref h0, .int x1, .int x2] : List Value).toArray s = true := fun w h => hts w (List.mem_cons_of_mem _ h)
  have hC : CallFix p m c cX6_set 3 s ([.ref h0, .int x1, .int x2] : List Value).toArray (Cond.code yX6_set cX6_set 3 (some .int) :: lw_g) RX6 := ⟨hx, hb, hml, hown, hts⟩
  have hl : lv_has ls 3 [(0, .ref h0), (1, .int x1), (2, .int x2)] := hl
  rw [f_X6_set] at hf
  refine lv_aload_n hx hb dX6_set_0 rfl (lv_at hl 0 rfl) ?_
  refine lv_iload_n hx hb dX6_set_1 rfl (lv_at hl 1 rfl) ?_
  refine lv_i2l (v := x1.toInt64) hx hb dX6_set_2 rfl ?_
  refine lv_lconst (v := (0 : Int64)) hx hb dX6_set_3 (by decide) ?_
  refine lv_ldc2 hx hb hown (hg _ kq6_204) dX6_set_4 ?_
  obtain ⟨q1, e2, hf⟩ := tbd hf
  refine kSi0 (As := [.long x1.toInt64, .long (0 : Int64), .long (4 : Int64)]) (rest := [.ref h0]) hC (c_X6_isIn (G := G) e2) kq5_84 kc_X6_isIn (by decide) hP hK hD hE hS hA hl.1 (Nat.le_of_ble_eq_true rfl) ⟨Nat.zero_le _, Nat.zero_le _⟩ dX6_set_7 (fun r9 u9 H locs hw hP hD hS => ?_)
  obtain ⟨rfl, rfl⟩ := hw
  refine bz_eq (tgt := 35) hx hb dX6_set_10 (by decide) (fun c3 => ?_) (fun c3 => ?_)
  · have hf := tn hf c3
    refine lv_iconst (v := (1 : Int32)) hx hb dX6_set_35 (by decide) ?_
    refine va_put (D := gD G) (ci := 4) (v := .int (1 : Int32)) (ty := .int) (C := RX6) (T := TX6) (N := 22) hx hb hg kl_X6 tyX6 tyX6_ok nmX6 hown hK hP hD hS 0 rfl rfl 7 (by decide) (hg _ kq5_12) (fun _ h9 => h9) rfl (by decide +kernel) rfl rfl (Nat.le_of_ble_eq_true rfl) dX6_set_36 (fun H locs hP hD hS => ?_)
    have hP : va_P (gD G) vwCl (wX6 G h0 a0 (oi u0 7 (1 : Int32))) H := hP
    have hD : va_D A (wX6 G h0 a0 (oi u0 7 (1 : Int32))) := hD
    refine lv_aload_n hx hb dX6_set_39 rfl (lv_at hl 0 rfl) ?_
    refine va_get (D := gD G) (ci := 4) (v := .int (1 : Int32)) (C := RX6) (T := TX6) (N := 22) hx hb hg kl_X6 hown hK hP 0 rfl rfl 7 (by decide) (hg _ kq5_12) (fun _ h9 => h9) rfl dX6_set_40 ?_
    refine lv_if_le (tgt := 48) hx hb dX6_set_43 (by decide) (fun c4 => ?_) (fun c4 => ?_)
    · exact absurd c4 (by decide)
    refine lv_iconst (v := (0 : Int32)) hx hb dX6_set_46 (by decide) ?_
    have hf := Option.some.inj hf
    subst hf
    exact e_i (wf := (fun v : Ob => (wX6 G h0 a0 v))) hx hb hr hlk (oi u0 7 (1 : Int32)) ⟨rfl, rfl⟩ hP hK hD hS dX6_set_47
  · have hf := tp hf c3
    refine lv_iload_n hx hb dX6_set_13 rfl (lv_at hl 2 rfl) ?_
    refine lv_i2l (v := x2.toInt64) hx hb dX6_set_14 rfl ?_
    refine lv_iload_n hx hb dX6_set_15 rfl (lv_at hl 1 rfl) ?_
    obtain ⟨q5, e6, hf⟩ := tbd hf
    refine kSi0 (As := [.int x1]) (rest := [.long x2.toInt64, .ref h0]) hC (c_X6_least (G := G) e6) kq5_207 kc_X6_least (by decide) hP hK hD hE hS hA hl.1 (Nat.le_of_ble_eq_true rfl) ⟨Nat.zero_le _, Nat.zero_le _⟩ dX6_set_16 (fun r9 u9 H locs hw hP hD hS => ?_)
    obtain ⟨rfl, rfl⟩ := hw
    refine lv_i2l (v := q5.toInt64) hx hb dX6_set_19 rfl ?_
    refine lv_iload_n hx hb dX6_set_20 rfl (lv_at hl 1 rfl) ?_
    obtain ⟨q7, e8, hf⟩ := tbd hf
    refine kSi0 (As := [.int x1]) (rest := [.long q5.toInt64, .long x2.toInt64, .ref h0]) hC (c_X6_most (G := G) e8) kq5_210 kc_X6_most (by decide) hP hK hD hE hS hA hl.1 (Nat.le_of_ble_eq_true rfl) ⟨Nat.zero_le _, Nat.zero_le _⟩ dX6_set_21 (fun r9 u9 H locs hw hP hD hS => ?_)
    obtain ⟨rfl, rfl⟩ := hw
    refine lv_i2l (v := q7.toInt64) hx hb dX6_set_24 rfl ?_
    obtain ⟨q9, e10, hf⟩ := tbd hf
    refine kSi0 (As := [.long x2.toInt64, .long q5.toInt64, .long q7.toInt64]) (rest := [.ref h0]) hC (c_X6_isIn (G := G) e10) kq5_84 kc_X6_isIn (by decide) hP hK hD hE hS hA hl.1 (Nat.le_of_ble_eq_true rfl) ⟨Nat.zero_le _, Nat.zero_le _⟩ dX6_set_25 (fun r9 u9 H locs hw hP hD hS => ?_)
    obtain ⟨rfl, rfl⟩ := hw
    refine bz_eq (tgt := 35) hx hb dX6_set_28 (by decide) (fun c11 => ?_) (fun c11 => ?_)
    · have hf := tn hf c11
      refine lv_iconst (v := (1 : Int32)) hx hb dX6_set_35 (by decide) ?_
      refine va_put (D := gD G) (ci := 4) (v := .int (1 : Int32)) (ty := .int) (C := RX6) (T := TX6) (N := 22) hx hb hg kl_X6 tyX6 tyX6_ok nmX6 hown hK hP hD hS 0 rfl rfl 7 (by decide) (hg _ kq5_12) (fun _ h9 => h9) rfl (by decide +kernel) rfl rfl (Nat.le_of_ble_eq_true rfl) dX6_set_36 (fun H locs hP hD hS => ?_)
      have hP : va_P (gD G) vwCl (wX6 G h0 a0 (oi u0 7 (1 : Int32))) H := hP
      have hD : va_D A (wX6 G h0 a0 (oi u0 7 (1 : Int32))) := hD
      refine lv_aload_n hx hb dX6_set_39 rfl (lv_at hl 0 rfl) ?_
      refine va_get (D := gD G) (ci := 4) (v := .int (1 : Int32)) (C := RX6) (T := TX6) (N := 22) hx hb hg kl_X6 hown hK hP 0 rfl rfl 7 (by decide) (hg _ kq5_12) (fun _ h9 => h9) rfl dX6_set_40 ?_
      refine lv_if_le (tgt := 48) hx hb dX6_set_43 (by decide) (fun c12 => ?_) (fun c12 => ?_)
      · exact absurd c12 (by decide)
      refine lv_iconst (v := (0 : Int32)) hx hb dX6_set_46 (by decide) ?_
      have hf := Option.some.inj hf
      subst hf
      exact e_i (wf := (fun v : Ob => (wX6 G h0 a0 v))) hx hb hr hlk (oi u0 7 (1 : Int32)) ⟨rfl, rfl⟩ hP hK hD hS dX6_set_47
    · have hf := tp hf c11
      refine lv_iconst (v := (0 : Int32)) hx hb dX6_set_31 (by decide) ?_
      refine lv_goto (tgt := 36) hx hb dX6_set_32 (by decide) ?_
      refine va_put (D := gD G) (ci := 4) (v := .int (0 : Int32)) (ty := .int) (C := RX6) (T := TX6) (N := 22) hx hb hg kl_X6 tyX6 tyX6_ok nmX6 hown hK hP hD hS 0 rfl rfl 7 (by decide) (hg _ kq5_12) (fun _ h9 => h9) rfl (by decide +kernel) rfl rfl (Nat.le_of_ble_eq_true rfl) dX6_set_36 (fun H locs hP hD hS => ?_)
      have hP : va_P (gD G) vwCl (wX6 G h0 a0 (oi u0 7 (0 : Int32))) H := hP
      have hD : va_D A (wX6 G h0 a0 (oi u0 7 (0 : Int32))) := hD
      refine lv_aload_n hx hb dX6_set_39 rfl (lv_at hl 0 rfl) ?_
      refine va_get (D := gD G) (ci := 4) (v := .int (0 : Int32)) (C := RX6) (T := TX6) (N := 22) hx hb hg kl_X6 hown hK hP 0 rfl rfl 7 (by decide) (hg _ kq5_12) (fun _ h9 => h9) rfl dX6_set_40 ?_
      refine lv_if_le (tgt := 48) hx hb dX6_set_43 (by decide) (fun c13 => ?_) (fun c13 => ?_)
      rotate_left
      · exact absurd c13 (by decide)
      refine lv_aload_n hx hb dX6_set_48 rfl (lv_at hl 0 rfl) ?_
      obtain ⟨q14, e15, hf⟩ := tbd hf
      refine kVv1 (As := []) (rest := []) hC (c_X6_keeps (G := G) e15) kq5_91 kc_X6_keeps (by decide) 0 (ci := 4) rfl rfl hP hK hD hE hS hA hl.1 (Nat.le_of_ble_eq_true rfl) ⟨Nat.zero_le _, Nat.zero_le _⟩ dX6_set_49 (fun u9 H locs hw hP hD hS => ?_)
      obtain rfl := hw
      have hP : va_P (gD G) vwCl (wX6 G h0 a0 q14) H := hP
      have hD : va_D A (wX6 G h0 a0 q14) := hD
      refine lv_aload_n hx hb dX6_set_52 rfl (lv_at hl 0 rfl) ?_
      refine lv_iload_n hx hb dX6_set_53 rfl (lv_at hl 1 rfl) ?_
      refine lv_iload_n hx hb dX6_set_54 rfl (lv_at hl 2 rfl) ?_
      obtain ⟨q16, e17, hf⟩ := tbd hf
      refine kVi1 (As := [.int x1, .int x2]) (rest := []) hC (c_X6_sets (G := G) e17) kq5_217 kc_X6_sets (by decide) 0 (ci := 4) rfl rfl hP hK hD hE hS hA hl.1 (Nat.le_of_ble_eq_true rfl) ⟨Nat.zero_le _, Nat.zero_le _⟩ dX6_set_55 (fun r9 u9 H locs hw hP hD hS => ?_)
      obtain ⟨rfl, rfl⟩ := hw
      have hP : va_P (gD G) vwCl (wX6 G h0 a0 q16.2) H := hP
      have hD : va_D A (wX6 G h0 a0 q16.2) := hD
      have hf := Option.some.inj hf
      subst hf
      exact e_i (wf := (fun v : Ob => (wX6 G h0 a0 v))) hx hb hr hlk q16.2 ⟨rfl, rfl⟩ hP hK hD hS dX6_set_58
set_option maxRecDepth 100000 in
set_option maxHeartbeats 4000000 in
theorem c_X6_discipline {l : Launch} {G : Gp} {sz N : Nat} {h0 : Nat} {a0 : Nat → Nat} {u0 : Ob} {q : Int32 × Ob} (hf : f_X6_discipline N u0 = some q) : Met l yX6_discipline (Cond.code yX6_discipline cX6_discipline 1 (some .int) :: lw_g) ({ frames := 1, cells := 0, slots := 0, locals := 25 } : Room) (va_Pc [.ref h0] (pw G (wX6 G h0 a0 u0) sz)) (va_Qi (fun (r : Int32) (v : Ob) => q.1 = r ∧ q.2 = v) (bw G (fun v : Ob => (wX6 G h0 a0 v)) (va_A (wX6 G h0 a0 u0) sz)) (va_A (wX6 G h0 a0 u0) sz)) 0 0 (va_A (wX6 G h0 a0 u0) sz) := by
  refine mt (Qc := (fun A => va_Qi (fun (r : Int32) (v : Ob) => q.1 = r ∧ q.2 = v) (bw G (fun v : Ob => (wX6 G h0 a0 v)) A) A)) (by decide) (Nat.le_of_ble_eq_true rfl) ?_
  intro p e s m below meth c A ls hx hb hr hlk hml hts hown hA hP hK hD hE hS hl
  have hown : s.vm.findClass RX6 = some m.cls := hown
  have hg : ∀ w ∈ lw_g, w.before ([.ref h0] : List Value).toArray s = true := fun w h => hts w (List.mem_cons_of_mem _ h)
  have hC : CallFix p m c cX6_discipline 1 s ([.ref h0] : List Value).toArray (Cond.code yX6_discipline cX6_discipline 1 (some .int) :: lw_g) RX6 := ⟨hx, hb, hml, hown, hts⟩
  have hl : lv_has ls 1 [(0, .ref h0)] := hl
  rw [f_X6_discipline] at hf
  refine lv_aload_n hx hb dX6_discipline_0 rfl (lv_at hl 0 rfl) ?_
  refine lv_aload_n hx hb dX6_discipline_1 rfl (lv_at hl 0 rfl) ?_
  refine va_get (D := gD G) (ci := 4) (v := .ref (a0 0)) (C := RX6) (T := TX6) (N := 22) hx hb hg kl_X6 hown hK hP 0 rfl rfl 0 (by decide) (hg _ kq5_5) (fun _ h9 => h9) rfl dX6_discipline_2 ?_
  refine lv_bipush (v := (13 : Int32)) hx hb dX6_discipline_5 (by decide) ?_
  refine va_lald (f := (u0.2.2.2 0)) hx hb hK hP 1 2 rfl rfl (vin (by decide)) dX6_discipline_7 ?_
  refine lv_ldc2 hx hb hown (hg _ kq6_9) dX6_discipline_8 ?_
  refine lc_ge (tgt := 19) hx hb dX6_discipline_11 dX6_discipline_12 (by decide) (fun c1 => ?_) (fun c1 => ?_)
  · have hf := tp hf c1
    refine lv_aload_n hx hb dX6_discipline_19 rfl (lv_at hl 0 rfl) ?_
    obtain ⟨q2, e3, hf⟩ := tbd hf
    refine kVl1 (As := []) (rest := [.ref h0]) hC (c_X6_estimated (G := G) e3) kq6_196 kc_X6_estimated (by decide) 0 (ci := 4) rfl rfl hP hK hD hE hS hA hl.1 (Nat.le_of_ble_eq_true rfl) ⟨Nat.zero_le _, Nat.zero_le _⟩ dX6_discipline_20 (fun r9 u9 H locs hw hP hD hS => ?_)
    obtain ⟨rfl, rfl⟩ := hw
    have hP : va_P (gD G) vwCl (wX6 G h0 a0 u0) H := hP
    have hD : va_D A (wX6 G h0 a0 u0) := hD
    refine lv_ldc2 hx hb hown (hg _ kq6_209) dX6_discipline_23 ?_
    refine lv_ldc2 hx hb hown (hg _ kq6_0) dX6_discipline_26 ?_
    obtain ⟨q4, e5, hf⟩ := tbd hf
    refine kSi0 (As := [.long q2, .long (-500 : Int64), .long (500 : Int64)]) (rest := [.ref h0]) hC (c_X6_isIn (G := G) e5) kq5_84 kc_X6_isIn (by decide) hP hK hD hE hS hA hl.1 (Nat.le_of_ble_eq_true rfl) ⟨Nat.zero_le _, Nat.zero_le _⟩ dX6_discipline_29 (fun r9 u9 H locs hw hP hD hS => ?_)
    obtain ⟨rfl, rfl⟩ := hw
    refine bz_eq (tgt := 39) hx hb dX6_discipline_32 (by decide) (fun c6 => ?_) (fun c6 => ?_)
    · have hf := tn hf c6
      refine lv_iconst (v := (2 : Int32)) hx hb dX6_discipline_39 (by decide) ?_
      refine va_put (D := gD G) (ci := 4) (v := .int (2 : Int32)) (ty := .int) (C := RX6) (T := TX6) (N := 22) hx hb hg kl_X6 tyX6 tyX6_ok nmX6 hown hK hP hD hS 0 rfl rfl 7 (by decide) (hg _ kq5_12) (fun _ h9 => h9) rfl (by decide +kernel) rfl rfl (Nat.le_of_ble_eq_true rfl) dX6_discipline_40 (fun H locs hP hD hS => ?_)
      have hP : va_P (gD G) vwCl (wX6 G h0 a0 (oi u0 7 (2 : Int32))) H := hP
      have hD : va_D A (wX6 G h0 a0 (oi u0 7 (2 : Int32))) := hD
      refine lv_aload_n hx hb dX6_discipline_43 rfl (lv_at hl 0 rfl) ?_
      refine va_get (D := gD G) (ci := 4) (v := .int (2 : Int32)) (C := RX6) (T := TX6) (N := 22) hx hb hg kl_X6 hown hK hP 0 rfl rfl 7 (by decide) (hg _ kq5_12) (fun _ h9 => h9) rfl dX6_discipline_44 ?_
      refine lv_if_le (tgt := 52) hx hb dX6_discipline_47 (by decide) (fun c7 => ?_) (fun c7 => ?_)
      · exact absurd c7 (by decide)
      refine lv_iconst (v := (0 : Int32)) hx hb dX6_discipline_50 (by decide) ?_
      have hf := Option.some.inj hf
      subst hf
      exact e_i (wf := (fun v : Ob => (wX6 G h0 a0 v))) hx hb hr hlk (oi u0 7 (2 : Int32)) ⟨rfl, rfl⟩ hP hK hD hS dX6_discipline_51
    · have hf := tp hf c6
      refine lv_iconst (v := (0 : Int32)) hx hb dX6_discipline_35 (by decide) ?_
      refine lv_goto (tgt := 40) hx hb dX6_discipline_36 (by decide) ?_
      refine va_put (D := gD G) (ci := 4) (v := .int (0 : Int32)) (ty := .int) (C := RX6) (T := TX6) (N := 22) hx hb hg kl_X6 tyX6 tyX6_ok nmX6 hown hK hP hD hS 0 rfl rfl 7 (by decide) (hg _ kq5_12) (fun _ h9 => h9) rfl (by decide +kernel) rfl rfl (Nat.le_of_ble_eq_true rfl) dX6_discipline_40 (fun H locs hP hD hS => ?_)
      have hP : va_P (gD G) vwCl (wX6 G h0 a0 (oi u0 7 (0 : Int32))) H := hP
      have hD : va_D A (wX6 G h0 a0 (oi u0 7 (0 : Int32))) := hD
      refine lv_aload_n hx hb dX6_discipline_43 rfl (lv_at hl 0 rfl) ?_
      refine va_get (D := gD G) (ci := 4) (v := .int (0 : Int32)) (C := RX6) (T := TX6) (N := 22) hx hb hg kl_X6 hown hK hP 0 rfl rfl 7 (by decide) (hg _ kq5_12) (fun _ h9 => h9) rfl dX6_discipline_44 ?_
      refine lv_if_le (tgt := 52) hx hb dX6_discipline_47 (by decide) (fun c8 => ?_) (fun c8 => ?_)
      rotate_left
      · exact absurd c8 (by decide)
      refine lv_aload_n hx hb dX6_discipline_52 rfl (lv_at hl 0 rfl) ?_
      obtain ⟨q9, e10, hf⟩ := tbd hf
      refine kVv1 (As := []) (rest := []) hC (c_X6_keeps (G := G) e10) kq5_91 kc_X6_keeps (by decide) 0 (ci := 4) rfl rfl hP hK hD hE hS hA hl.1 (Nat.le_of_ble_eq_true rfl) ⟨Nat.zero_le _, Nat.zero_le _⟩ dX6_discipline_53 (fun u9 H locs hw hP hD hS => ?_)
      obtain rfl := hw
      have hP : va_P (gD G) vwCl (wX6 G h0 a0 q9) H := hP
      have hD : va_D A (wX6 G h0 a0 q9) := hD
      refine lv_aload_n hx hb dX6_discipline_56 rfl (lv_at hl 0 rfl) ?_
      refine lv_iconst (v := (4 : Int32)) hx hb dX6_discipline_57 (by decide) ?_
      refine lv_aload_n hx hb dX6_discipline_58 rfl (lv_at hl 0 rfl) ?_
      obtain ⟨q11, e12, hf⟩ := tbd hf
      refine kVl1 (As := []) (rest := [.int (4 : Int32), .ref h0]) hC (c_X6_estimated (G := G) e12) kq6_196 kc_X6_estimated (by decide) 0 (ci := 4) rfl rfl hP hK hD hE hS hA hl.1 (Nat.le_of_ble_eq_true rfl) ⟨Nat.zero_le _, Nat.zero_le _⟩ dX6_discipline_59 (fun r9 u9 H locs hw hP hD hS => ?_)
      obtain ⟨rfl, rfl⟩ := hw
      have hP : va_P (gD G) vwCl (wX6 G h0 a0 q9) H := hP
      have hD : va_D A (wX6 G h0 a0 q9) := hD
      refine lv_l2i (v := q11.toInt32) hx hb dX6_discipline_62 rfl ?_
      obtain ⟨q13, e14, hf⟩ := tbd hf
      refine kVi1 (As := [.int (4 : Int32), .int q11.toInt32]) (rest := []) hC (c_X6_sets (G := G) e14) kq5_217 kc_X6_sets (by decide) 0 (ci := 4) rfl rfl hP hK hD hE hS hA hl.1 (Nat.le_of_ble_eq_true rfl) ⟨Nat.zero_le _, Nat.zero_le _⟩ dX6_discipline_63 (fun r9 u9 H locs hw hP hD hS => ?_)
      obtain ⟨rfl, rfl⟩ := hw
      have hP : va_P (gD G) vwCl (wX6 G h0 a0 q13.2) H := hP
      have hD : va_D A (wX6 G h0 a0 q13.2) := hD
      have hf := Option.some.inj hf
      subst hf
      exact e_i (wf := (fun v : Ob => (wX6 G h0 a0 v))) hx hb hr hlk q13.2 ⟨rfl, rfl⟩ hP hK hD hS dX6_discipline_66
  · have hf := tn hf c1
    refine lv_iconst (v := (1 : Int32)) hx hb dX6_discipline_15 (by decide) ?_
    refine lv_goto (tgt := 40) hx hb dX6_discipline_16 (by decide) ?_
    refine va_put (D := gD G) (ci := 4) (v := .int (1 : Int32)) (ty := .int) (C := RX6) (T := TX6) (N := 22) hx hb hg kl_X6 tyX6 tyX6_ok nmX6 hown hK hP hD hS 0 rfl rfl 7 (by decide) (hg _ kq5_12) (fun _ h9 => h9) rfl (by decide +kernel) rfl rfl (Nat.le_of_ble_eq_true rfl) dX6_discipline_40 (fun H locs hP hD hS => ?_)
    have hP : va_P (gD G) vwCl (wX6 G h0 a0 (oi u0 7 (1 : Int32))) H := hP
    have hD : va_D A (wX6 G h0 a0 (oi u0 7 (1 : Int32))) := hD
    refine lv_aload_n hx hb dX6_discipline_43 rfl (lv_at hl 0 rfl) ?_
    refine va_get (D := gD G) (ci := 4) (v := .int (1 : Int32)) (C := RX6) (T := TX6) (N := 22) hx hb hg kl_X6 hown hK hP 0 rfl rfl 7 (by decide) (hg _ kq5_12) (fun _ h9 => h9) rfl dX6_discipline_44 ?_
    refine lv_if_le (tgt := 52) hx hb dX6_discipline_47 (by decide) (fun c15 => ?_) (fun c15 => ?_)
    · exact absurd c15 (by decide)
    refine lv_iconst (v := (0 : Int32)) hx hb dX6_discipline_50 (by decide) ?_
    have hf := Option.some.inj hf
    subst hf
    exact e_i (wf := (fun v : Ob => (wX6 G h0 a0 v))) hx hb hr hlk (oi u0 7 (1 : Int32)) ⟨rfl, rfl⟩ hP hK hD hS dX6_discipline_51
set_option maxRecDepth 100000 in
set_option maxHeartbeats 4000000 in
theorem c_X6_forget {l : Launch} {G : Gp} {sz N : Nat} {h0 : Nat} {a0 : Nat → Nat} {u0 : Ob} {q : Int32 × Ob} (hf : f_X6_forget N u0 = some q) : Met l yX6_forget (Cond.code yX6_forget cX6_forget 2 (some .int) :: lw_g) ({ frames := 1, cells := 0, slots := 0, locals := 21 } : Room) (va_Pc [.ref h0] (pw G (wX6 G h0 a0 u0) sz)) (va_Qi (fun (r : Int32) (v : Ob) => q.1 = r ∧ q.2 = v) (bw G (fun v : Ob => (wX6 G h0 a0 v)) (va_A (wX6 G h0 a0 u0) sz)) (va_A (wX6 G h0 a0 u0) sz)) 0 0 (va_A (wX6 G h0 a0 u0) sz) := by
  refine mt (Qc := (fun A => va_Qi (fun (r : Int32) (v : Ob) => q.1 = r ∧ q.2 = v) (bw G (fun v : Ob => (wX6 G h0 a0 v)) A) A)) (by decide) (Nat.le_of_ble_eq_true rfl) ?_
  intro p e s m below meth c A ls hx hb hr hlk hml hts hown hA hP hK hD hE hS hl
  have hown : s.vm.findClass RX6 = some m.cls := hown
  have hg : ∀ w ∈ lw_g, w.before ([.ref h0] : List Value).toArray s = true := fun w h => hts w (List.mem_cons_of_mem _ h)
  have hC : CallFix p m c cX6_forget 2 s ([.ref h0] : List Value).toArray (Cond.code yX6_forget cX6_forget 2 (some .int) :: lw_g) RX6 := ⟨hx, hb, hml, hown, hts⟩
  have hl : lv_has ls 2 [(0, .ref h0)] := hl
  rw [f_X6_forget] at hf
  refine lv_aload_n hx hb dX6_forget_0 rfl (lv_at hl 0 rfl) ?_
  refine lv_iconst (v := (0 : Int32)) hx hb dX6_forget_1 (by decide) ?_
  refine va_put (D := gD G) (ci := 4) (v := .int (0 : Int32)) (ty := .int) (C := RX6) (T := TX6) (N := 22) hx hb hg kl_X6 tyX6 tyX6_ok nmX6 hown hK hP hD hS 0 rfl rfl 7 (by decide) (hg _ kq5_12) (fun _ h9 => h9) rfl (by decide +kernel) rfl rfl (Nat.le_of_ble_eq_true rfl) dX6_forget_2 (fun H locs hP hD hS => ?_)
  have hP : va_P (gD G) vwCl (wX6 G h0 a0 (oi u0 7 (0 : Int32))) H := hP
  have hD : va_D A (wX6 G h0 a0 (oi u0 7 (0 : Int32))) := hD
  refine lv_aload_n hx hb dX6_forget_5 rfl (lv_at hl 0 rfl) ?_
  obtain ⟨q1, e2, hf⟩ := tbd hf
  refine kVv1 (As := []) (rest := []) hC (c_X6_keeps (G := G) e2) kq5_91 kc_X6_keeps (by decide) 0 (ci := 4) rfl rfl hP hK hD hE hS hA hl.1 (Nat.le_of_ble_eq_true rfl) ⟨Nat.zero_le _, Nat.zero_le _⟩ dX6_forget_6 (fun u9 H locs hw hP hD hS => ?_)
  obtain rfl := hw
  have hP : va_P (gD G) vwCl (wX6 G h0 a0 q1) H := hP
  have hD : va_D A (wX6 G h0 a0 q1) := hD
  refine lv_aload_n hx hb dX6_forget_9 rfl (lv_at hl 0 rfl) ?_
  refine va_get (D := gD G) (ci := 4) (v := .ref (a0 0)) (C := RX6) (T := TX6) (N := 22) hx hb hg kl_X6 hown hK hP 0 rfl rfl 0 (by decide) (hg _ kq5_5) (fun _ h9 => h9) rfl dX6_forget_10 ?_
  refine lv_bipush (v := (12 : Int32)) hx hb dX6_forget_13 (by decide) ?_
  refine va_lald (f := (q1.2.2.2 0)) hx hb hK hP 1 2 rfl rfl (vin (by decide)) dX6_forget_15 ?_
  refine lv_l2i (v := ((q1.2.2.2 0) (12 : Int32).toNatClampNeg).toInt32) hx hb dX6_forget_16 rfl ?_
  refine lv_istore_n (lv' := [(1, .int ((q1.2.2.2 0) (12 : Int32).toNatClampNeg).toInt32), (0, .ref h0)]) hx hb dX6_forget_17 rfl hl (by decide) rfl (fun ls hl => ?_)
  refine lv_aload_n hx hb dX6_forget_18 rfl (lv_at hl 1 rfl) ?_
  obtain ⟨q3, e4, hf⟩ := tbd hf
  refine kVv1 (As := []) (rest := []) hC (c_X6_forgets (G := G) e4) kq6_5 kc_X6_forgets (by decide) 0 (ci := 4) rfl rfl hP hK hD hE hS hA hl.1 (Nat.le_of_ble_eq_true rfl) ⟨Nat.zero_le _, Nat.zero_le _⟩ dX6_forget_19 (fun u9 H locs hw hP hD hS => ?_)
  obtain rfl := hw
  have hP : va_P (gD G) vwCl (wX6 G h0 a0 q3) H := hP
  have hD : va_D A (wX6 G h0 a0 q3) := hD
  refine lv_iload_n hx hb dX6_forget_22 rfl (lv_at hl 0 rfl) ?_
  have hf := Option.some.inj hf
  subst hf
  exact e_i (wf := (fun v : Ob => (wX6 G h0 a0 v))) hx hb hr hlk q3 ⟨rfl, rfl⟩ hP hK hD hS dX6_forget_23
set_option maxRecDepth 100000 in
set_option maxHeartbeats 4000000 in
theorem c_X6_says {l : Launch} {G : Gp} {sz N : Nat} {x1 : Int32} {h0 : Nat} {a0 : Nat → Nat} {u0 : Ob} {q : Ob} (hf : f_X6_says N x1 u0 = some q) : Met l yX6_says (Cond.code yX6_says cX6_says 2 none :: lw_g) ({ frames := 0, cells := 0, slots := 0, locals := 0 } : Room) (va_Pc [.ref h0, .int x1] (pw G (wX6 G h0 a0 u0) sz)) (va_Qv (fun v : Ob => q = v) (bw G (fun v : Ob => (wX6 G h0 a0 v)) (va_A (wX6 G h0 a0 u0) sz)) (va_A (wX6 G h0 a0 u0) sz)) 0 0 (va_A (wX6 G h0 a0 u0) sz) := by
  refine mt (Qc := (fun A => va_Qv (fun v : Ob => q = v) (bw G (fun v : Ob => (wX6 G h0 a0 v)) A) A)) (by decide) (Nat.le_of_ble_eq_true rfl) ?_
  intro p e s m below meth c A ls hx hb hr hlk hml hts hown hA hP hK hD hE hS hl
  have hown : s.vm.findClass RX6 = some m.cls := hown
  have hg : ∀ w ∈ lw_g, w.before ([.ref h0, .int x1] : List Value).toArray s = true := fun w h => hts w (List.mem_cons_of_mem _ h)
  have hC : CallFix p m c cX6_says 2 s ([.ref h0, .int x1] : List Value).toArray (Cond.code yX6_says cX6_says 2 none :: lw_g) RX6 := ⟨hx, hb, hml, hown, hts⟩
  have hl : lv_has ls 2 [(0, .ref h0), (1, .int x1)] := hl
  rw [f_X6_says] at hf
  refine lv_aload_n hx hb dX6_says_0 rfl (lv_at hl 0 rfl) ?_
  refine va_get (D := gD G) (ci := 4) (v := .ref (a0 20)) (C := RX6) (T := TX6) (N := 22) hx hb hg kl_X6 hown hK hP 0 rfl rfl 20 (by decide) (hg _ kq5_25) (fun _ h9 => h9) rfl dX6_says_1 ?_
  refine lv_aload_n hx hb dX6_says_4 rfl (lv_at hl 0 rfl) ?_
  refine va_get (D := gD G) (ci := 4) (v := .int (u0.1 21)) (C := RX6) (T := TX6) (N := 22) hx hb hg kl_X6 hown hK hP 0 rfl rfl 21 (by decide) (hg _ kq5_26) (fun _ h9 => h9) rfl dX6_says_5 ?_
  refine lv_iload_n hx hb dX6_says_8 rfl (lv_at hl 1 rfl) ?_
  obtain ⟨b1, hf⟩ := tno hf
  refine va_iast (f := (u0.2.2.1 20)) hx hb hK hP hD hS 8 1 rfl rfl b1 dX6_says_9 (fun H locs hP hD hS => ?_)
  have hP : va_P (gD G) vwCl (wX6 G h0 a0 (oa u0 20 (upd (u0.2.2.1 20) (u0.1 21).toNatClampNeg x1))) H := hP
  have hD : va_D A (wX6 G h0 a0 (oa u0 20 (upd (u0.2.2.1 20) (u0.1 21).toNatClampNeg x1))) := hD
  refine lv_aload_n hx hb dX6_says_10 rfl (lv_at hl 0 rfl) ?_
  refine lv_dup hx hb dX6_says_11 rfl ?_
  refine va_get (D := gD G) (ci := 4) (v := .int (u0.1 21)) (C := RX6) (T := TX6) (N := 22) hx hb hg kl_X6 hown hK hP 0 rfl rfl 21 (by decide) (hg _ kq5_26) (fun _ h9 => h9) rfl dX6_says_12 ?_
  refine lv_iconst (v := (1 : Int32)) hx hb dX6_says_15 (by decide) ?_
  refine lv_iadd hx hb dX6_says_16 ?_
  refine va_put (D := gD G) (ci := 4) (v := .int ((u0.1 21) + (1 : Int32))) (ty := .int) (C := RX6) (T := TX6) (N := 22) hx hb hg kl_X6 tyX6 tyX6_ok nmX6 hown hK hP hD hS 0 rfl rfl 21 (by decide) (hg _ kq5_26) (fun _ h9 => h9) rfl (by decide +kernel) rfl rfl (Nat.le_of_ble_eq_true rfl) dX6_says_17 (fun H locs hP hD hS => ?_)
  have hP : va_P (gD G) vwCl (wX6 G h0 a0 (oi (oa u0 20 (upd (u0.2.2.1 20) (u0.1 21).toNatClampNeg x1)) 21 ((u0.1 21) + (1 : Int32)))) H := hP
  have hD : va_D A (wX6 G h0 a0 (oi (oa u0 20 (upd (u0.2.2.1 20) (u0.1 21).toNatClampNeg x1)) 21 ((u0.1 21) + (1 : Int32)))) := hD
  have hf := Option.some.inj hf
  subst hf
  exact e_v (wf := (fun v : Ob => (wX6 G h0 a0 v))) hx hb hr hlk (oi (oa u0 20 (upd (u0.2.2.1 20) (u0.1 21).toNatClampNeg x1)) 21 ((u0.1 21) + (1 : Int32))) rfl hP hK hD hS dX6_says_20
set_option maxRecDepth 100000 in
set_option maxHeartbeats 4000000 in
theorem c_X6_saysTwo {l : Launch} {G : Gp} {sz N : Nat} {x1 : Int32} {h0 : Nat} {a0 : Nat → Nat} {u0 : Ob} {q : Ob} (hf : f_X6_saysTwo N x1 u0 = some q) : Met l yX6_saysTwo (Cond.code yX6_saysTwo cX6_saysTwo 2 none :: lw_g) ({ frames := 1, cells := 0, slots := 0, locals := 21 } : Room) (va_Pc [.ref h0, .int x1] (pw G (wX6 G h0 a0 u0) sz)) (va_Qv (fun v : Ob => q = v) (bw G (fun v : Ob => (wX6 G h0 a0 v)) (va_A (wX6 G h0 a0 u0) sz)) (va_A (wX6 G h0 a0 u0) sz)) 0 0 (va_A (wX6 G h0 a0 u0) sz) := by
  refine mt (Qc := (fun A => va_Qv (fun v : Ob => q = v) (bw G (fun v : Ob => (wX6 G h0 a0 v)) A) A)) (by decide) (Nat.le_of_ble_eq_true rfl) ?_
  intro p e s m below meth c A ls hx hb hr hlk hml hts hown hA hP hK hD hE hS hl
  have hown : s.vm.findClass RX6 = some m.cls := hown
  have hg : ∀ w ∈ lw_g, w.before ([.ref h0, .int x1] : List Value).toArray s = true := fun w h => hts w (List.mem_cons_of_mem _ h)
  have hC : CallFix p m c cX6_saysTwo 2 s ([.ref h0, .int x1] : List Value).toArray (Cond.code yX6_saysTwo cX6_saysTwo 2 none :: lw_g) RX6 := ⟨hx, hb, hml, hown, hts⟩
  have hl : lv_has ls 2 [(0, .ref h0), (1, .int x1)] := hl
  rw [f_X6_saysTwo] at hf
  refine lv_aload_n hx hb dX6_saysTwo_0 rfl (lv_at hl 0 rfl) ?_
  refine lv_bipush (v := (48 : Int32)) hx hb dX6_saysTwo_1 (by decide) ?_
  refine lv_iload_n hx hb dX6_saysTwo_3 rfl (lv_at hl 1 rfl) ?_
  refine lv_bipush (v := (10 : Int32)) hx hb dX6_saysTwo_4 (by decide) ?_
  refine lv_idiv hx hb dX6_saysTwo_6 (by decide) ?_
  refine lv_iadd hx hb dX6_saysTwo_7 ?_
  obtain ⟨q1, e2, hf⟩ := tbd hf
  refine kVv1 (As := [.int ((48 : Int32) + (x1 / (10 : Int32)))]) (rest := []) hC (c_X6_says (G := G) e2) kq6_222 kc_X6_says (by decide) 0 (ci := 4) rfl rfl hP hK hD hE hS hA hl.1 (Nat.le_of_ble_eq_true rfl) ⟨Nat.zero_le _, Nat.zero_le _⟩ dX6_saysTwo_8 (fun u9 H locs hw hP hD hS => ?_)
  obtain rfl := hw
  have hP : va_P (gD G) vwCl (wX6 G h0 a0 q1) H := hP
  have hD : va_D A (wX6 G h0 a0 q1) := hD
  refine lv_aload_n hx hb dX6_saysTwo_11 rfl (lv_at hl 0 rfl) ?_
  refine lv_bipush (v := (48 : Int32)) hx hb dX6_saysTwo_12 (by decide) ?_
  refine lv_iload_n hx hb dX6_saysTwo_14 rfl (lv_at hl 1 rfl) ?_
  refine lv_bipush (v := (10 : Int32)) hx hb dX6_saysTwo_15 (by decide) ?_
  refine lv_irem hx hb dX6_saysTwo_17 (by decide) ?_
  refine lv_iadd hx hb dX6_saysTwo_18 ?_
  obtain ⟨q3, e4, hf⟩ := tbd hf
  refine kVv1 (As := [.int ((48 : Int32) + (x1 - x1 / (10 : Int32) * (10 : Int32)))]) (rest := []) hC (c_X6_says (G := G) e4) kq6_222 kc_X6_says (by decide) 0 (ci := 4) rfl rfl hP hK hD hE hS hA hl.1 (Nat.le_of_ble_eq_true rfl) ⟨Nat.zero_le _, Nat.zero_le _⟩ dX6_saysTwo_19 (fun u9 H locs hw hP hD hS => ?_)
  obtain rfl := hw
  have hP : va_P (gD G) vwCl (wX6 G h0 a0 q3) H := hP
  have hD : va_D A (wX6 G h0 a0 q3) := hD
  have hf := Option.some.inj hf
  subst hf
  exact e_v (wf := (fun v : Ob => (wX6 G h0 a0 v))) hx hb hr hlk q3 rfl hP hK hD hS dX6_saysTwo_22
set_option maxRecDepth 100000 in
set_option maxHeartbeats 4000000 in
theorem c_X6_writeTime {l : Launch} {G : Gp} {sz N : Nat} {x1 : Int32} {h0 : Nat} {a0 : Nat → Nat} {u0 : Ob} {q : Int32 × Ob} (hf : f_X6_writeTime N x1 u0 = some q) : Met l yX6_writeTime (Cond.code yX6_writeTime cX6_writeTime 2 (some .int) :: lw_g) ({ frames := 2, cells := 0, slots := 0, locals := 46 } : Room) (va_Pc [.ref h0, .int x1] (pw G (wX6 G h0 a0 u0) sz)) (va_Qi (fun (r : Int32) (v : Ob) => q.1 = r ∧ q.2 = v) (bw G (fun v : Ob => (wX6 G h0 a0 v)) (va_A (wX6 G h0 a0 u0) sz)) (va_A (wX6 G h0 a0 u0) sz)) 0 0 (va_A (wX6 G h0 a0 u0) sz) := by
  refine mt (Qc := (fun A => va_Qi (fun (r : Int32) (v : Ob) => q.1 = r ∧ q.2 = v) (bw G (fun v : Ob => (wX6 G h0 a0 v)) A) A)) (by decide) (Nat.le_of_ble_eq_true rfl) ?_
  intro p e s m below meth c A ls hx hb hr hlk hml hts hown hA hP hK hD hE hS hl
  have hown : s.vm.findClass RX6 = some m.cls := hown
  have hg : ∀ w ∈ lw_g, w.before ([.ref h0, .int x1] : List Value).toArray s = true := fun w h => hts w (List.mem_cons_of_mem _ h)
  have hC : CallFix p m c cX6_writeTime 2 s ([.ref h0, .int x1] : List Value).toArray (Cond.code yX6_writeTime cX6_writeTime 2 (some .int) :: lw_g) RX6 := ⟨hx, hb, hml, hown, hts⟩
  have hl : lv_has ls 2 [(0, .ref h0), (1, .int x1)] := hl
  rw [f_X6_writeTime] at hf
  refine lv_aload_n hx hb dX6_writeTime_0 rfl (lv_at hl 0 rfl) ?_
  refine lv_iload_n hx hb dX6_writeTime_1 rfl (lv_at hl 1 rfl) ?_
  refine lv_i2l (v := x1.toInt64) hx hb dX6_writeTime_2 rfl ?_
  obtain ⟨q1, e2, hf⟩ := tbd hf
  refine kSi0 (As := [.long x1.toInt64]) (rest := [.ref h0]) hC (c_X6_isMinute (G := G) e2) kq5_99 kc_X6_isMinute (by decide) hP hK hD hE hS hA hl.1 (Nat.le_of_ble_eq_true rfl) ⟨Nat.zero_le _, Nat.zero_le _⟩ dX6_writeTime_3 (fun r9 u9 H locs hw hP hD hS => ?_)
  obtain ⟨rfl, rfl⟩ := hw
  refine bz_eq (tgt := 13) hx hb dX6_writeTime_6 (by decide) (fun c3 => ?_) (fun c3 => ?_)
  · have hf := tn hf c3
    refine lv_iconst (v := (1 : Int32)) hx hb dX6_writeTime_13 (by decide) ?_
    refine va_put (D := gD G) (ci := 4) (v := .int (1 : Int32)) (ty := .int) (C := RX6) (T := TX6) (N := 22) hx hb hg kl_X6 tyX6 tyX6_ok nmX6 hown hK hP hD hS 0 rfl rfl 7 (by decide) (hg _ kq5_12) (fun _ h9 => h9) rfl (by decide +kernel) rfl rfl (Nat.le_of_ble_eq_true rfl) dX6_writeTime_14 (fun H locs hP hD hS => ?_)
    have hP : va_P (gD G) vwCl (wX6 G h0 a0 (oi u0 7 (1 : Int32))) H := hP
    have hD : va_D A (wX6 G h0 a0 (oi u0 7 (1 : Int32))) := hD
    refine lv_aload_n hx hb dX6_writeTime_17 rfl (lv_at hl 0 rfl) ?_
    refine va_get (D := gD G) (ci := 4) (v := .int (1 : Int32)) (C := RX6) (T := TX6) (N := 22) hx hb hg kl_X6 hown hK hP 0 rfl rfl 7 (by decide) (hg _ kq5_12) (fun _ h9 => h9) rfl dX6_writeTime_18 ?_
    refine lv_if_le (tgt := 26) hx hb dX6_writeTime_21 (by decide) (fun c4 => ?_) (fun c4 => ?_)
    · exact absurd c4 (by decide)
    refine lv_iconst (v := (0 : Int32)) hx hb dX6_writeTime_24 (by decide) ?_
    have hf := Option.some.inj hf
    subst hf
    exact e_i (wf := (fun v : Ob => (wX6 G h0 a0 v))) hx hb hr hlk (oi u0 7 (1 : Int32)) ⟨rfl, rfl⟩ hP hK hD hS dX6_writeTime_25
  · have hf := tp hf c3
    refine lv_iconst (v := (0 : Int32)) hx hb dX6_writeTime_9 (by decide) ?_
    refine lv_goto (tgt := 14) hx hb dX6_writeTime_10 (by decide) ?_
    refine va_put (D := gD G) (ci := 4) (v := .int (0 : Int32)) (ty := .int) (C := RX6) (T := TX6) (N := 22) hx hb hg kl_X6 tyX6 tyX6_ok nmX6 hown hK hP hD hS 0 rfl rfl 7 (by decide) (hg _ kq5_12) (fun _ h9 => h9) rfl (by decide +kernel) rfl rfl (Nat.le_of_ble_eq_true rfl) dX6_writeTime_14 (fun H locs hP hD hS => ?_)
    have hP : va_P (gD G) vwCl (wX6 G h0 a0 (oi u0 7 (0 : Int32))) H := hP
    have hD : va_D A (wX6 G h0 a0 (oi u0 7 (0 : Int32))) := hD
    refine lv_aload_n hx hb dX6_writeTime_17 rfl (lv_at hl 0 rfl) ?_
    refine va_get (D := gD G) (ci := 4) (v := .int (0 : Int32)) (C := RX6) (T := TX6) (N := 22) hx hb hg kl_X6 hown hK hP 0 rfl rfl 7 (by decide) (hg _ kq5_12) (fun _ h9 => h9) rfl dX6_writeTime_18 ?_
    refine lv_if_le (tgt := 26) hx hb dX6_writeTime_21 (by decide) (fun c5 => ?_) (fun c5 => ?_)
    rotate_left
    · exact absurd c5 (by decide)
    refine lv_aload_n hx hb dX6_writeTime_26 rfl (lv_at hl 0 rfl) ?_
    refine lv_iconst (v := (0 : Int32)) hx hb dX6_writeTime_27 (by decide) ?_
    refine va_put (D := gD G) (ci := 4) (v := .int (0 : Int32)) (ty := .int) (C := RX6) (T := TX6) (N := 22) hx hb hg kl_X6 tyX6 tyX6_ok nmX6 hown hK hP hD hS 0 rfl rfl 21 (by decide) (hg _ kq5_26) (fun _ h9 => h9) rfl (by decide +kernel) rfl rfl (Nat.le_of_ble_eq_true rfl) dX6_writeTime_28 (fun H locs hP hD hS => ?_)
    have hP : va_P (gD G) vwCl (wX6 G h0 a0 (oi (oi u0 7 (0 : Int32)) 21 (0 : Int32))) H := hP
    have hD : va_D A (wX6 G h0 a0 (oi (oi u0 7 (0 : Int32)) 21 (0 : Int32))) := hD
    refine lv_aload_n hx hb dX6_writeTime_31 rfl (lv_at hl 0 rfl) ?_
    refine lv_iload_n hx hb dX6_writeTime_32 rfl (lv_at hl 1 rfl) ?_
    refine lv_iconst (v := (0 : Int32)) hx hb dX6_writeTime_33 (by decide) ?_
    obtain ⟨q6, e7, hf⟩ := tbd hf
    refine kSi0 (As := [.int x1, .int (0 : Int32)]) (rest := [.ref h0]) hC (c_X6_partOf (G := G) e7) kq5_103 kc_X6_partOf (by decide) hP hK hD hE hS hA hl.1 (Nat.le_of_ble_eq_true rfl) ⟨Nat.zero_le _, Nat.zero_le _⟩ dX6_writeTime_34 (fun r9 u9 H locs hw hP hD hS => ?_)
    obtain ⟨rfl, rfl⟩ := hw
    refine lv_bipush (v := (100 : Int32)) hx hb dX6_writeTime_37 (by decide) ?_
    refine lv_idiv hx hb dX6_writeTime_39 (by decide) ?_
    obtain ⟨q8, e9, hf⟩ := tbd hf
    refine kVv1 (As := [.int (q6 / (100 : Int32))]) (rest := []) hC (c_X6_saysTwo (G := G) e9) kq6_218 kc_X6_saysTwo (by decide) 0 (ci := 4) rfl rfl hP hK hD hE hS hA hl.1 (Nat.le_of_ble_eq_true rfl) ⟨Nat.zero_le _, Nat.zero_le _⟩ dX6_writeTime_40 (fun u9 H locs hw hP hD hS => ?_)
    obtain rfl := hw
    have hP : va_P (gD G) vwCl (wX6 G h0 a0 q8) H := hP
    have hD : va_D A (wX6 G h0 a0 q8) := hD
    refine lv_aload_n hx hb dX6_writeTime_43 rfl (lv_at hl 0 rfl) ?_
    refine lv_iload_n hx hb dX6_writeTime_44 rfl (lv_at hl 1 rfl) ?_
    refine lv_iconst (v := (0 : Int32)) hx hb dX6_writeTime_45 (by decide) ?_
    obtain ⟨q10, e11, hf⟩ := tbd hf
    refine kSi0 (As := [.int x1, .int (0 : Int32)]) (rest := [.ref h0]) hC (c_X6_partOf (G := G) e11) kq5_103 kc_X6_partOf (by decide) hP hK hD hE hS hA hl.1 (Nat.le_of_ble_eq_true rfl) ⟨Nat.zero_le _, Nat.zero_le _⟩ dX6_writeTime_46 (fun r9 u9 H locs hw hP hD hS => ?_)
    obtain ⟨rfl, rfl⟩ := hw
    refine lv_bipush (v := (100 : Int32)) hx hb dX6_writeTime_49 (by decide) ?_
    refine lv_irem hx hb dX6_writeTime_51 (by decide) ?_
    obtain ⟨q12, e13, hf⟩ := tbd hf
    refine kVv1 (As := [.int (q10 - q10 / (100 : Int32) * (100 : Int32))]) (rest := []) hC (c_X6_saysTwo (G := G) e13) kq6_218 kc_X6_saysTwo (by decide) 0 (ci := 4) rfl rfl hP hK hD hE hS hA hl.1 (Nat.le_of_ble_eq_true rfl) ⟨Nat.zero_le _, Nat.zero_le _⟩ dX6_writeTime_52 (fun u9 H locs hw hP hD hS => ?_)
    obtain rfl := hw
    have hP : va_P (gD G) vwCl (wX6 G h0 a0 q12) H := hP
    have hD : va_D A (wX6 G h0 a0 q12) := hD
    refine lv_aload_n hx hb dX6_writeTime_55 rfl (lv_at hl 0 rfl) ?_
    refine lv_bipush (v := (45 : Int32)) hx hb dX6_writeTime_56 (by decide) ?_
    obtain ⟨q14, e15, hf⟩ := tbd hf
    refine kVv1 (As := [.int (45 : Int32)]) (rest := []) hC (c_X6_says (G := G) e15) kq6_222 kc_X6_says (by decide) 0 (ci := 4) rfl rfl hP hK hD hE hS hA hl.1 (Nat.le_of_ble_eq_true rfl) ⟨Nat.zero_le _, Nat.zero_le _⟩ dX6_writeTime_58 (fun u9 H locs hw hP hD hS => ?_)
    obtain rfl := hw
    have hP : va_P (gD G) vwCl (wX6 G h0 a0 q14) H := hP
    have hD : va_D A (wX6 G h0 a0 q14) := hD
    refine lv_aload_n hx hb dX6_writeTime_61 rfl (lv_at hl 0 rfl) ?_
    refine lv_iload_n hx hb dX6_writeTime_62 rfl (lv_at hl 1 rfl) ?_
    refine lv_iconst (v := (1 : Int32)) hx hb dX6_writeTime_63 (by decide) ?_
    obtain ⟨q16, e17, hf⟩ := tbd hf
    refine kSi0 (As := [.int x1, .int (1 : Int32)]) (rest := [.ref h0]) hC (c_X6_partOf (G := G) e17) kq5_103 kc_X6_partOf (by decide) hP hK hD hE hS hA hl.1 (Nat.le_of_ble_eq_true rfl) ⟨Nat.zero_le _, Nat.zero_le _⟩ dX6_writeTime_64 (fun r9 u9 H locs hw hP hD hS => ?_)
    obtain ⟨rfl, rfl⟩ := hw
    obtain ⟨q18, e19, hf⟩ := tbd hf
    refine kVv1 (As := [.int q16]) (rest := []) hC (c_X6_saysTwo (G := G) e19) kq6_218 kc_X6_saysTwo (by decide) 0 (ci := 4) rfl rfl hP hK hD hE hS hA hl.1 (Nat.le_of_ble_eq_true rfl) ⟨Nat.zero_le _, Nat.zero_le _⟩ dX6_writeTime_67 (fun u9 H locs hw hP hD hS => ?_)
    obtain rfl := hw
    have hP : va_P (gD G) vwCl (wX6 G h0 a0 q18) H := hP
    have hD : va_D A (wX6 G h0 a0 q18) := hD
    refine lv_aload_n hx hb dX6_writeTime_70 rfl (lv_at hl 0 rfl) ?_
    refine lv_bipush (v := (45 : Int32)) hx hb dX6_writeTime_71 (by decide) ?_
    obtain ⟨q20, e21, hf⟩ := tbd hf
    refine kVv1 (As := [.int (45 : Int32)]) (rest := []) hC (c_X6_says (G := G) e21) kq6_222 kc_X6_says (by decide) 0 (ci := 4) rfl rfl hP hK hD hE hS hA hl.1 (Nat.le_of_ble_eq_true rfl) ⟨Nat.zero_le _, Nat.zero_le _⟩ dX6_writeTime_73 (fun u9 H locs hw hP hD hS => ?_)
    obtain rfl := hw
    have hP : va_P (gD G) vwCl (wX6 G h0 a0 q20) H := hP
    have hD : va_D A (wX6 G h0 a0 q20) := hD
    refine lv_aload_n hx hb dX6_writeTime_76 rfl (lv_at hl 0 rfl) ?_
    refine lv_iload_n hx hb dX6_writeTime_77 rfl (lv_at hl 1 rfl) ?_
    refine lv_iconst (v := (2 : Int32)) hx hb dX6_writeTime_78 (by decide) ?_
    obtain ⟨q22, e23, hf⟩ := tbd hf
    refine kSi0 (As := [.int x1, .int (2 : Int32)]) (rest := [.ref h0]) hC (c_X6_partOf (G := G) e23) kq5_103 kc_X6_partOf (by decide) hP hK hD hE hS hA hl.1 (Nat.le_of_ble_eq_true rfl) ⟨Nat.zero_le _, Nat.zero_le _⟩ dX6_writeTime_79 (fun r9 u9 H locs hw hP hD hS => ?_)
    obtain ⟨rfl, rfl⟩ := hw
    obtain ⟨q24, e25, hf⟩ := tbd hf
    refine kVv1 (As := [.int q22]) (rest := []) hC (c_X6_saysTwo (G := G) e25) kq6_218 kc_X6_saysTwo (by decide) 0 (ci := 4) rfl rfl hP hK hD hE hS hA hl.1 (Nat.le_of_ble_eq_true rfl) ⟨Nat.zero_le _, Nat.zero_le _⟩ dX6_writeTime_82 (fun u9 H locs hw hP hD hS => ?_)
    obtain rfl := hw
    have hP : va_P (gD G) vwCl (wX6 G h0 a0 q24) H := hP
    have hD : va_D A (wX6 G h0 a0 q24) := hD
    refine lv_aload_n hx hb dX6_writeTime_85 rfl (lv_at hl 0 rfl) ?_
    refine lv_bipush (v := (32 : Int32)) hx hb dX6_writeTime_86 (by decide) ?_
    obtain ⟨q26, e27, hf⟩ := tbd hf
    refine kVv1 (As := [.int (32 : Int32)]) (rest := []) hC (c_X6_says (G := G) e27) kq6_222 kc_X6_says (by decide) 0 (ci := 4) rfl rfl hP hK hD hE hS hA hl.1 (Nat.le_of_ble_eq_true rfl) ⟨Nat.zero_le _, Nat.zero_le _⟩ dX6_writeTime_88 (fun u9 H locs hw hP hD hS => ?_)
    obtain rfl := hw
    have hP : va_P (gD G) vwCl (wX6 G h0 a0 q26) H := hP
    have hD : va_D A (wX6 G h0 a0 q26) := hD
    refine lv_aload_n hx hb dX6_writeTime_91 rfl (lv_at hl 0 rfl) ?_
    refine lv_iload_n hx hb dX6_writeTime_92 rfl (lv_at hl 1 rfl) ?_
    refine lv_iconst (v := (3 : Int32)) hx hb dX6_writeTime_93 (by decide) ?_
    obtain ⟨q28, e29, hf⟩ := tbd hf
    refine kSi0 (As := [.int x1, .int (3 : Int32)]) (rest := [.ref h0]) hC (c_X6_partOf (G := G) e29) kq5_103 kc_X6_partOf (by decide) hP hK hD hE hS hA hl.1 (Nat.le_of_ble_eq_true rfl) ⟨Nat.zero_le _, Nat.zero_le _⟩ dX6_writeTime_94 (fun r9 u9 H locs hw hP hD hS => ?_)
    obtain ⟨rfl, rfl⟩ := hw
    obtain ⟨q30, e31, hf⟩ := tbd hf
    refine kVv1 (As := [.int q28]) (rest := []) hC (c_X6_saysTwo (G := G) e31) kq6_218 kc_X6_saysTwo (by decide) 0 (ci := 4) rfl rfl hP hK hD hE hS hA hl.1 (Nat.le_of_ble_eq_true rfl) ⟨Nat.zero_le _, Nat.zero_le _⟩ dX6_writeTime_97 (fun u9 H locs hw hP hD hS => ?_)
    obtain rfl := hw
    have hP : va_P (gD G) vwCl (wX6 G h0 a0 q30) H := hP
    have hD : va_D A (wX6 G h0 a0 q30) := hD
    refine lv_aload_n hx hb dX6_writeTime_100 rfl (lv_at hl 0 rfl) ?_
    refine lv_bipush (v := (58 : Int32)) hx hb dX6_writeTime_101 (by decide) ?_
    obtain ⟨q32, e33, hf⟩ := tbd hf
    refine kVv1 (As := [.int (58 : Int32)]) (rest := []) hC (c_X6_says (G := G) e33) kq6_222 kc_X6_says (by decide) 0 (ci := 4) rfl rfl hP hK hD hE hS hA hl.1 (Nat.le_of_ble_eq_true rfl) ⟨Nat.zero_le _, Nat.zero_le _⟩ dX6_writeTime_103 (fun u9 H locs hw hP hD hS => ?_)
    obtain rfl := hw
    have hP : va_P (gD G) vwCl (wX6 G h0 a0 q32) H := hP
    have hD : va_D A (wX6 G h0 a0 q32) := hD
    refine lv_aload_n hx hb dX6_writeTime_106 rfl (lv_at hl 0 rfl) ?_
    refine lv_iload_n hx hb dX6_writeTime_107 rfl (lv_at hl 1 rfl) ?_
    refine lv_iconst (v := (4 : Int32)) hx hb dX6_writeTime_108 (by decide) ?_
    obtain ⟨q34, e35, hf⟩ := tbd hf
    refine kSi0 (As := [.int x1, .int (4 : Int32)]) (rest := [.ref h0]) hC (c_X6_partOf (G := G) e35) kq5_103 kc_X6_partOf (by decide) hP hK hD hE hS hA hl.1 (Nat.le_of_ble_eq_true rfl) ⟨Nat.zero_le _, Nat.zero_le _⟩ dX6_writeTime_109 (fun r9 u9 H locs hw hP hD hS => ?_)
    obtain ⟨rfl, rfl⟩ := hw
    obtain ⟨q36, e37, hf⟩ := tbd hf
    refine kVv1 (As := [.int q34]) (rest := []) hC (c_X6_saysTwo (G := G) e37) kq6_218 kc_X6_saysTwo (by decide) 0 (ci := 4) rfl rfl hP hK hD hE hS hA hl.1 (Nat.le_of_ble_eq_true rfl) ⟨Nat.zero_le _, Nat.zero_le _⟩ dX6_writeTime_112 (fun u9 H locs hw hP hD hS => ?_)
    obtain rfl := hw
    have hP : va_P (gD G) vwCl (wX6 G h0 a0 q36) H := hP
    have hD : va_D A (wX6 G h0 a0 q36) := hD
    refine lv_aload_n hx hb dX6_writeTime_115 rfl (lv_at hl 0 rfl) ?_
    refine lv_bipush (v := (32 : Int32)) hx hb dX6_writeTime_116 (by decide) ?_
    obtain ⟨q38, e39, hf⟩ := tbd hf
    refine kVv1 (As := [.int (32 : Int32)]) (rest := []) hC (c_X6_says (G := G) e39) kq6_222 kc_X6_says (by decide) 0 (ci := 4) rfl rfl hP hK hD hE hS hA hl.1 (Nat.le_of_ble_eq_true rfl) ⟨Nat.zero_le _, Nat.zero_le _⟩ dX6_writeTime_118 (fun u9 H locs hw hP hD hS => ?_)
    obtain rfl := hw
    have hP : va_P (gD G) vwCl (wX6 G h0 a0 q38) H := hP
    have hD : va_D A (wX6 G h0 a0 q38) := hD
    refine lv_aload_n hx hb dX6_writeTime_121 rfl (lv_at hl 0 rfl) ?_
    refine lv_bipush (v := (48 : Int32)) hx hb dX6_writeTime_122 (by decide) ?_
    refine lv_iload_n hx hb dX6_writeTime_124 rfl (lv_at hl 1 rfl) ?_
    refine lv_iconst (v := (5 : Int32)) hx hb dX6_writeTime_125 (by decide) ?_
    obtain ⟨q40, e41, hf⟩ := tbd hf
    refine kSi0 (As := [.int x1, .int (5 : Int32)]) (rest := [.int (48 : Int32), .ref h0]) hC (c_X6_partOf (G := G) e41) kq5_103 kc_X6_partOf (by decide) hP hK hD hE hS hA hl.1 (Nat.le_of_ble_eq_true rfl) ⟨Nat.zero_le _, Nat.zero_le _⟩ dX6_writeTime_126 (fun r9 u9 H locs hw hP hD hS => ?_)
    obtain ⟨rfl, rfl⟩ := hw
    refine lv_iadd hx hb dX6_writeTime_129 ?_
    obtain ⟨q42, e43, hf⟩ := tbd hf
    refine kVv1 (As := [.int ((48 : Int32) + q40)]) (rest := []) hC (c_X6_says (G := G) e43) kq6_222 kc_X6_says (by decide) 0 (ci := 4) rfl rfl hP hK hD hE hS hA hl.1 (Nat.le_of_ble_eq_true rfl) ⟨Nat.zero_le _, Nat.zero_le _⟩ dX6_writeTime_130 (fun u9 H locs hw hP hD hS => ?_)
    obtain rfl := hw
    have hP : va_P (gD G) vwCl (wX6 G h0 a0 q42) H := hP
    have hD : va_D A (wX6 G h0 a0 q42) := hD
    refine lv_aload_n hx hb dX6_writeTime_133 rfl (lv_at hl 0 rfl) ?_
    refine va_get (D := gD G) (ci := 4) (v := .int (q42.1 21)) (C := RX6) (T := TX6) (N := 22) hx hb hg kl_X6 hown hK hP 0 rfl rfl 21 (by decide) (hg _ kq5_26) (fun _ h9 => h9) rfl dX6_writeTime_134 ?_
    have hf := Option.some.inj hf
    subst hf
    exact e_i (wf := (fun v : Ob => (wX6 G h0 a0 v))) hx hb hr hlk q42 ⟨rfl, rfl⟩ hP hK hD hS dX6_writeTime_137
set_option maxRecDepth 100000 in
set_option maxHeartbeats 4000000 in
theorem c_X6_writtenByte {l : Launch} {G : Gp} {sz N : Nat} {x1 : Int32} {h0 : Nat} {a0 : Nat → Nat} {u0 : Ob} {q : Int32 × Ob} (hf : f_X6_writtenByte N x1 u0 = some q) : Met l yX6_writtenByte (Cond.code yX6_writtenByte cX6_writtenByte 2 (some .int) :: lw_g) ({ frames := 1, cells := 0, slots := 0, locals := 25 } : Room) (va_Pc [.ref h0, .int x1] (pw G (wX6 G h0 a0 u0) sz)) (va_Qi (fun (r : Int32) (v : Ob) => q.1 = r ∧ q.2 = v) (bw G (fun v : Ob => (wX6 G h0 a0 v)) (va_A (wX6 G h0 a0 u0) sz)) (va_A (wX6 G h0 a0 u0) sz)) 0 0 (va_A (wX6 G h0 a0 u0) sz) := by
  refine mt (Qc := (fun A => va_Qi (fun (r : Int32) (v : Ob) => q.1 = r ∧ q.2 = v) (bw G (fun v : Ob => (wX6 G h0 a0 v)) A) A)) (by decide) (Nat.le_of_ble_eq_true rfl) ?_
  intro p e s m below meth c A ls hx hb hr hlk hml hts hown hA hP hK hD hE hS hl
  have hown : s.vm.findClass RX6 = some m.cls := hown
  have hg : ∀ w ∈ lw_g, w.before ([.ref h0, .int x1] : List Value).toArray s = true := fun w h => hts w (List.mem_cons_of_mem _ h)
  have hC : CallFix p m c cX6_writtenByte 2 s ([.ref h0, .int x1] : List Value).toArray (Cond.code yX6_writtenByte cX6_writtenByte 2 (some .int) :: lw_g) RX6 := ⟨hx, hb, hml, hown, hts⟩
  have hl : lv_has ls 2 [(0, .ref h0), (1, .int x1)] := hl
  rw [f_X6_writtenByte] at hf
  refine lv_aload_n hx hb dX6_writtenByte_0 rfl (lv_at hl 0 rfl) ?_
  refine lv_iload_n hx hb dX6_writtenByte_1 rfl (lv_at hl 1 rfl) ?_
  refine lv_i2l (v := x1.toInt64) hx hb dX6_writtenByte_2 rfl ?_
  refine lv_lconst (v := (0 : Int64)) hx hb dX6_writtenByte_3 (by decide) ?_
  refine lv_aload_n hx hb dX6_writtenByte_4 rfl (lv_at hl 0 rfl) ?_
  refine va_get (D := gD G) (ci := 4) (v := .int (u0.1 21)) (C := RX6) (T := TX6) (N := 22) hx hb hg kl_X6 hown hK hP 0 rfl rfl 21 (by decide) (hg _ kq5_26) (fun _ h9 => h9) rfl dX6_writtenByte_5 ?_
  refine lv_iconst (v := (1 : Int32)) hx hb dX6_writtenByte_8 (by decide) ?_
  refine lv_isub hx hb dX6_writtenByte_9 ?_
  refine lv_i2l (v := ((u0.1 21) - (1 : Int32)).toInt64) hx hb dX6_writtenByte_10 rfl ?_
  obtain ⟨q1, e2, hf⟩ := tbd hf
  refine kSi0 (As := [.long x1.toInt64, .long (0 : Int64), .long ((u0.1 21) - (1 : Int32)).toInt64]) (rest := [.ref h0]) hC (c_X6_isIn (G := G) e2) kq5_84 kc_X6_isIn (by decide) hP hK hD hE hS hA hl.1 (Nat.le_of_ble_eq_true rfl) ⟨Nat.zero_le _, Nat.zero_le _⟩ dX6_writtenByte_11 (fun r9 u9 H locs hw hP hD hS => ?_)
  obtain ⟨rfl, rfl⟩ := hw
  refine bz_eq (tgt := 21) hx hb dX6_writtenByte_14 (by decide) (fun c3 => ?_) (fun c3 => ?_)
  · have hf := tn hf c3
    refine lv_iconst (v := (1 : Int32)) hx hb dX6_writtenByte_21 (by decide) ?_
    refine va_put (D := gD G) (ci := 4) (v := .int (1 : Int32)) (ty := .int) (C := RX6) (T := TX6) (N := 22) hx hb hg kl_X6 tyX6 tyX6_ok nmX6 hown hK hP hD hS 0 rfl rfl 7 (by decide) (hg _ kq5_12) (fun _ h9 => h9) rfl (by decide +kernel) rfl rfl (Nat.le_of_ble_eq_true rfl) dX6_writtenByte_22 (fun H locs hP hD hS => ?_)
    have hP : va_P (gD G) vwCl (wX6 G h0 a0 (oi u0 7 (1 : Int32))) H := hP
    have hD : va_D A (wX6 G h0 a0 (oi u0 7 (1 : Int32))) := hD
    refine lv_aload_n hx hb dX6_writtenByte_25 rfl (lv_at hl 0 rfl) ?_
    refine va_get (D := gD G) (ci := 4) (v := .int (1 : Int32)) (C := RX6) (T := TX6) (N := 22) hx hb hg kl_X6 hown hK hP 0 rfl rfl 7 (by decide) (hg _ kq5_12) (fun _ h9 => h9) rfl dX6_writtenByte_26 ?_
    refine lv_if_le (tgt := 36) hx hb dX6_writtenByte_29 (by decide) (fun c4 => ?_) (fun c4 => ?_)
    · exact absurd c4 (by decide)
    refine lv_iconst (v := (0 : Int32)) hx hb dX6_writtenByte_32 (by decide) ?_
    refine lv_goto (tgt := 42) hx hb dX6_writtenByte_33 (by decide) ?_
    have hf := Option.some.inj hf
    subst hf
    exact e_i (wf := (fun v : Ob => (wX6 G h0 a0 v))) hx hb hr hlk (oi u0 7 (1 : Int32)) ⟨rfl, rfl⟩ hP hK hD hS dX6_writtenByte_42
  · have hf := tp hf c3
    refine lv_iconst (v := (0 : Int32)) hx hb dX6_writtenByte_17 (by decide) ?_
    refine lv_goto (tgt := 22) hx hb dX6_writtenByte_18 (by decide) ?_
    refine va_put (D := gD G) (ci := 4) (v := .int (0 : Int32)) (ty := .int) (C := RX6) (T := TX6) (N := 22) hx hb hg kl_X6 tyX6 tyX6_ok nmX6 hown hK hP hD hS 0 rfl rfl 7 (by decide) (hg _ kq5_12) (fun _ h9 => h9) rfl (by decide +kernel) rfl rfl (Nat.le_of_ble_eq_true rfl) dX6_writtenByte_22 (fun H locs hP hD hS => ?_)
    have hP : va_P (gD G) vwCl (wX6 G h0 a0 (oi u0 7 (0 : Int32))) H := hP
    have hD : va_D A (wX6 G h0 a0 (oi u0 7 (0 : Int32))) := hD
    refine lv_aload_n hx hb dX6_writtenByte_25 rfl (lv_at hl 0 rfl) ?_
    refine va_get (D := gD G) (ci := 4) (v := .int (0 : Int32)) (C := RX6) (T := TX6) (N := 22) hx hb hg kl_X6 hown hK hP 0 rfl rfl 7 (by decide) (hg _ kq5_12) (fun _ h9 => h9) rfl dX6_writtenByte_26 ?_
    refine lv_if_le (tgt := 36) hx hb dX6_writtenByte_29 (by decide) (fun c5 => ?_) (fun c5 => ?_)
    rotate_left
    · exact absurd c5 (by decide)
    refine lv_aload_n hx hb dX6_writtenByte_36 rfl (lv_at hl 0 rfl) ?_
    refine va_get (D := gD G) (ci := 4) (v := .ref (a0 20)) (C := RX6) (T := TX6) (N := 22) hx hb hg kl_X6 hown hK hP 0 rfl rfl 20 (by decide) (hg _ kq5_25) (fun _ h9 => h9) rfl dX6_writtenByte_37 ?_
    refine lv_iload_n hx hb dX6_writtenByte_40 rfl (lv_at hl 1 rfl) ?_
    obtain ⟨b6, hf⟩ := tno hf
    refine va_iald (f := (u0.2.2.1 20)) hx hb hK hP 8 1 rfl rfl b6 dX6_writtenByte_41 ?_
    have hf := Option.some.inj hf
    subst hf
    exact e_i (wf := (fun v : Ob => (wX6 G h0 a0 v))) hx hb hr hlk (oi u0 7 (0 : Int32)) ⟨rfl, rfl⟩ hP hK hD hS dX6_writtenByte_42
