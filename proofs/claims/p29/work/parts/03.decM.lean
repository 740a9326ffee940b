theorem dX12_init_0 : decode cX12_init 0 = .ok (.aload_n 0, 1) := by decide +kernel
theorem dX12_init_1 : decode cX12_init 1 = .ok (.invokespecial 1, 3) := by decide +kernel
theorem dX12_init_4 : decode cX12_init 4 = .ok (.aload_n 0, 1) := by decide +kernel
theorem dX12_init_5 : decode cX12_init 5 = .ok (.bipush 6, 2) := by decide +kernel
theorem dX12_init_7 : decode cX12_init 7 = .ok (.newarray .int, 2) := by decide +kernel
theorem dX12_init_9 : decode cX12_init 9 = .ok (.putfield 7, 3) := by decide +kernel
theorem dX12_init_12 : decode cX12_init 12 = .ok (.aload_n 0, 1) := by decide +kernel
theorem dX12_init_13 : decode cX12_init 13 = .ok (.bipush 6, 2) := by decide +kernel
theorem dX12_init_15 : decode cX12_init 15 = .ok (.newarray .int, 2) := by decide +kernel
theorem dX12_init_17 : decode cX12_init 17 = .ok (.putfield 13, 3) := by decide +kernel
theorem dX12_init_20 : decode cX12_init 20 = .ok (.aload_n 0, 1) := by decide +kernel
theorem dX12_init_21 : decode cX12_init 21 = .ok (.bipush 6, 2) := by decide +kernel
theorem dX12_init_23 : decode cX12_init 23 = .ok (.newarray .int, 2) := by decide +kernel
theorem dX12_init_25 : decode cX12_init 25 = .ok (.putfield 16, 3) := by decide +kernel
theorem dX12_init_28 : decode cX12_init 28 = .ok (.aload_n 0, 1) := by decide +kernel
theorem dX12_init_29 : decode cX12_init 29 = .ok (.bipush 36, 2) := by decide +kernel
theorem dX12_init_31 : decode cX12_init 31 = .ok (.newarray .int, 2) := by decide +kernel
theorem dX12_init_33 : decode cX12_init 33 = .ok (.putfield 19, 3) := by decide +kernel
theorem dX12_init_36 : decode cX12_init 36 = .ok (.aload_n 0, 1) := by decide +kernel
theorem dX12_init_37 : decode cX12_init 37 = .ok (.iconst 3, 1) := by decide +kernel
theorem dX12_init_38 : decode cX12_init 38 = .ok (.newarray .int, 2) := by decide +kernel
theorem dX12_init_40 : decode cX12_init 40 = .ok (.putfield 22, 3) := by decide +kernel
theorem dX12_init_43 : decode cX12_init 43 = .ok (.aload_n 0, 1) := by decide +kernel
theorem dX12_init_44 : decode cX12_init 44 = .ok (.bipush 8, 2) := by decide +kernel
theorem dX12_init_46 : decode cX12_init 46 = .ok (.putfield 25, 3) := by decide +kernel
theorem dX12_init_49 : decode cX12_init 49 = .ok (.aload_n 0, 1) := by decide +kernel
theorem dX12_init_50 : decode cX12_init 50 = .ok (.bipush 101, 2) := by decide +kernel
theorem dX12_init_52 : decode cX12_init 52 = .ok (.newarray .int, 2) := by decide +kernel
theorem dX12_init_54 : decode cX12_init 54 = .ok (.putfield 29, 3) := by decide +kernel
theorem dX12_init_57 : decode cX12_init 57 = .ok (.aload_n 0, 1) := by decide +kernel
theorem dX12_init_58 : decode cX12_init 58 = .ok (.sipush 200, 3) := by decide +kernel
theorem dX12_init_61 : decode cX12_init 61 = .ok (.newarray .int, 2) := by decide +kernel
theorem dX12_init_63 : decode cX12_init 63 = .ok (.putfield 32, 3) := by decide +kernel
theorem dX12_init_66 : decode cX12_init 66 = .ok (.aload_n 0, 1) := by decide +kernel
theorem dX12_init_67 : decode cX12_init 67 = .ok (.bipush 6, 2) := by decide +kernel
theorem dX12_init_69 : decode cX12_init 69 = .ok (.newarray .int, 2) := by decide +kernel
theorem dX12_init_71 : decode cX12_init 71 = .ok (.putfield 35, 3) := by decide +kernel
theorem dX12_init_74 : decode cX12_init 74 = .ok (.aload_n 0, 1) := by decide +kernel
theorem dX12_init_75 : decode cX12_init 75 = .ok (.bipush 6, 2) := by decide +kernel
theorem dX12_init_77 : decode cX12_init 77 = .ok (.newarray .int, 2) := by decide +kernel
theorem dX12_init_79 : decode cX12_init 79 = .ok (.putfield 38, 3) := by decide +kernel
theorem dX12_init_82 : decode cX12_init 82 = .ok (.aload_n 0, 1) := by decide +kernel
theorem dX12_init_83 : decode cX12_init 83 = .ok (.bipush 6, 2) := by decide +kernel
theorem dX12_init_85 : decode cX12_init 85 = .ok (.newarray .int, 2) := by decide +kernel
theorem dX12_init_87 : decode cX12_init 87 = .ok (.putfield 41, 3) := by decide +kernel
theorem dX12_init_90 : decode cX12_init 90 = .ok (.aload_n 0, 1) := by decide +kernel
theorem dX12_init_91 : decode cX12_init 91 = .ok (.bipush 36, 2) := by decide +kernel
theorem dX12_init_93 : decode cX12_init 93 = .ok (.newarray .int, 2) := by decide +kernel
theorem dX12_init_95 : decode cX12_init 95 = .ok (.putfield 44, 3) := by decide +kernel
theorem dX12_init_98 : decode cX12_init 98 = .ok (.aload_n 0, 1) := by decide +kernel
theorem dX12_init_99 : decode cX12_init 99 = .ok (.iconst 3, 1) := by decide +kernel
theorem dX12_init_100 : decode cX12_init 100 = .ok (.newarray .int, 2) := by decide +kernel
theorem dX12_init_102 : decode cX12_init 102 = .ok (.putfield 47, 3) := by decide +kernel
theorem dX12_init_105 : decode cX12_init 105 = .ok (.aload_n 0, 1) := by decide +kernel
theorem dX12_init_106 : decode cX12_init 106 = .ok (.sipush 808, 3) := by decide +kernel
theorem dX12_init_109 : decode cX12_init 109 = .ok (.newarray .int, 2) := by decide +kernel
theorem dX12_init_111 : decode cX12_init 111 = .ok (.putfield 50, 3) := by decide +kernel
theorem dX12_init_114 : decode cX12_init 114 = .ok (.aload_n 0, 1) := by decide +kernel
theorem dX12_init_115 : decode cX12_init 115 = .ok (.sipush 202, 3) := by decide +kernel
theorem dX12_init_118 : decode cX12_init 118 = .ok (.newarray .int, 2) := by decide +kernel
theorem dX12_init_120 : decode cX12_init 120 = .ok (.putfield 53, 3) := by decide +kernel
theorem dX12_init_123 : decode cX12_init 123 = .ok (.aload_n 0, 1) := by decide +kernel
theorem dX12_init_124 : decode cX12_init 124 = .ok (.iconst 2, 1) := by decide +kernel
theorem dX12_init_125 : decode cX12_init 125 = .ok (.newarray .boolean, 2) := by decide +kernel
theorem dX12_init_127 : decode cX12_init 127 = .ok (.putfield 56, 3) := by decide +kernel
theorem dX12_init_130 : decode cX12_init 130 = .ok (.aload_n 0, 1) := by decide +kernel
theorem dX12_init_131 : decode cX12_init 131 = .ok (.bipush 6, 2) := by decide +kernel
theorem dX12_init_133 : decode cX12_init 133 = .ok (.newarray .int, 2) := by decide +kernel
theorem dX12_init_135 : decode cX12_init 135 = .ok (.putfield 60, 3) := by decide +kernel
theorem dX12_init_138 : decode cX12_init 138 = .ok (.aload_n 0, 1) := by decide +kernel
theorem dX12_init_139 : decode cX12_init 139 = .ok (.bipush 101, 2) := by decide +kernel
theorem dX12_init_141 : decode cX12_init 141 = .ok (.newarray .int, 2) := by decide +kernel
theorem dX12_init_143 : decode cX12_init 143 = .ok (.putfield 63, 3) := by decide +kernel
theorem dX12_init_146 : decode cX12_init 146 = .ok (.aload_n 0, 1) := by decide +kernel
theorem dX12_init_147 : decode cX12_init 147 = .ok (.bipush 7, 2) := by decide +kernel
theorem dX12_init_149 : decode cX12_init 149 = .ok (.newarray .int, 2) := by decide +kernel
theorem dX12_init_151 : decode cX12_init 151 = .ok (.putfield 66, 3) := by decide +kernel
theorem dX12_init_154 : decode cX12_init 154 = .ok (.aload_n 0, 1) := by decide +kernel
theorem dX12_init_155 : decode cX12_init 155 = .ok (.bipush 18, 2) := by decide +kernel
theorem dX12_init_157 : decode cX12_init 157 = .ok (.newarray .int, 2) := by decide +kernel
theorem dX12_init_159 : decode cX12_init 159 = .ok (.putfield 69, 3) := by decide +kernel
theorem dX12_init_162 : decode cX12_init 162 = .ok (.aload_n 0, 1) := by decide +kernel
theorem dX12_init_163 : decode cX12_init 163 = .ok (.bipush 6, 2) := by decide +kernel
theorem dX12_init_165 : decode cX12_init 165 = .ok (.newarray .int, 2) := by decide +kernel
theorem dX12_init_167 : decode cX12_init 167 = .ok (.putfield 72, 3) := by decide +kernel
theorem dX12_init_170 : decode cX12_init 170 = .ok (.aload_n 0, 1) := by decide +kernel
theorem dX12_init_171 : decode cX12_init 171 = .ok (.bipush 6, 2) := by decide +kernel
theorem dX12_init_173 : decode cX12_init 173 = .ok (.newarray .int, 2) := by decide +kernel
theorem dX12_init_175 : decode cX12_init 175 = .ok (.putfield 75, 3) := by decide +kernel
theorem dX12_init_178 : decode cX12_init 178 = .ok (.aload_n 0, 1) := by decide +kernel
theorem dX12_init_179 : decode cX12_init 179 = .ok (.bipush 6, 2) := by decide +kernel
theorem dX12_init_181 : decode cX12_init 181 = .ok (.newarray .int, 2) := by decide +kernel
theorem dX12_init_183 : decode cX12_init 183 = .ok (.putfield 78, 3) := by decide +kernel
theorem dX12_init_186 : decode cX12_init 186 = .ok (.aload_n 0, 1) := by decide +kernel
theorem dX12_init_187 : decode cX12_init 187 = .ok (.iconst 3, 1) := by decide +kernel
theorem dX12_init_188 : decode cX12_init 188 = .ok (.newarray .boolean, 2) := by decide +kernel
theorem dX12_init_190 : decode cX12_init 190 = .ok (.putfield 81, 3) := by decide +kernel
theorem dX12_init_193 : decode cX12_init 193 = .ok (.aload_n 0, 1) := by decide +kernel
theorem dX12_init_194 : decode cX12_init 194 = .ok (.iconst 3, 1) := by decide +kernel
theorem dX12_init_195 : decode cX12_init 195 = .ok (.newarray .int, 2) := by decide +kernel
theorem dX12_init_197 : decode cX12_init 197 = .ok (.putfield 84, 3) := by decide +kernel
theorem dX12_init_200 : decode cX12_init 200 = .ok (.aload_n 0, 1) := by decide +kernel
theorem dX12_init_201 : decode cX12_init 201 = .ok (.iconst 3, 1) := by decide +kernel
theorem dX12_init_202 : decode cX12_init 202 = .ok (.newarray .int, 2) := by decide +kernel
theorem dX12_init_204 : decode cX12_init 204 = .ok (.putfield 87, 3) := by decide +kernel
theorem dX12_init_207 : decode cX12_init 207 = .ok (.aload_n 0, 1) := by decide +kernel
theorem dX12_init_208 : decode cX12_init 208 = .ok (.bipush 48, 2) := by decide +kernel
theorem dX12_init_210 : decode cX12_init 210 = .ok (.newarray .int, 2) := by decide +kernel
theorem dX12_init_212 : decode cX12_init 212 = .ok (.putfield 90, 3) := by decide +kernel
theorem dX12_init_215 : decode cX12_init 215 = .ok (.aload_n 0, 1) := by decide +kernel
theorem dX12_init_216 : decode cX12_init 216 = .ok (.bipush 16, 2) := by decide +kernel
theorem dX12_init_218 : decode cX12_init 218 = .ok (.newarray .int, 2) := by decide +kernel
theorem dX12_init_220 : decode cX12_init 220 = .ok (.putfield 93, 3) := by decide +kernel
theorem dX12_init_223 : decode cX12_init 223 = .ok (.iconst 0, 1) := by decide +kernel
theorem dX12_init_224 : decode cX12_init 224 = .ok (.istore_n 1, 1) := by decide +kernel
theorem dX12_init_225 : decode cX12_init 225 = .ok (.iload_n 1, 1) := by decide +kernel
theorem dX12_init_226 : decode cX12_init 226 = .ok (.iconst 3, 1) := by decide +kernel
theorem dX12_init_227 : decode cX12_init 227 = .ok (.if_icmp .ge 19, 3) := by decide +kernel
theorem dX12_init_230 : decode cX12_init 230 = .ok (.aload_n 0, 1) := by decide +kernel
theorem dX12_init_231 : decode cX12_init 231 = .ok (.getfield 29, 3) := by decide +kernel
theorem dX12_init_234 : decode cX12_init 234 = .ok (.bipush 54, 2) := by decide +kernel
theorem dX12_init_236 : decode cX12_init 236 = .ok (.iload_n 1, 1) := by decide +kernel
theorem dX12_init_237 : decode cX12_init 237 = .ok (.iadd, 1) := by decide +kernel
theorem dX12_init_238 : decode cX12_init 238 = .ok (.iconst (-1), 1) := by decide +kernel
theorem dX12_init_239 : decode cX12_init 239 = .ok (.iastore, 1) := by decide +kernel
theorem dX12_init_240 : decode cX12_init 240 = .ok (.iinc 1 1, 3) := by decide +kernel
theorem dX12_init_243 : decode cX12_init 243 = .ok (.goto (-18), 3) := by decide +kernel
theorem dX12_init_246 : decode cX12_init 246 = .ok (.return_, 1) := by decide +kernel
theorem dX12_in_0 : decode cX12_in 0 = .ok (.lload_n 0, 1) := by decide +kernel
theorem dX12_in_1 : decode cX12_in 1 = .ok (.lload_n 2, 1) := by decide +kernel
theorem dX12_in_2 : decode cX12_in 2 = .ok (.lcmp, 1) := by decide +kernel
theorem dX12_in_3 : decode cX12_in 3 = .ok (.ifCond .lt 14, 3) := by decide +kernel
theorem dX12_in_6 : decode cX12_in 6 = .ok (.lload_n 0, 1) := by decide +kernel
theorem dX12_in_7 : decode cX12_in 7 = .ok (.lload 4, 2) := by decide +kernel
theorem dX12_in_9 : decode cX12_in 9 = .ok (.lcmp, 1) := by decide +kernel
theorem dX12_in_10 : decode cX12_in 10 = .ok (.ifCond .gt 7, 3) := by decide +kernel
theorem dX12_in_13 : decode cX12_in 13 = .ok (.iconst 1, 1) := by decide +kernel
theorem dX12_in_14 : decode cX12_in 14 = .ok (.goto 4, 3) := by decide +kernel
theorem dX12_in_17 : decode cX12_in 17 = .ok (.iconst 0, 1) := by decide +kernel
theorem dX12_in_18 : decode cX12_in 18 = .ok (.ireturn, 1) := by decide +kernel
theorem dX12_isBit_0 : decode cX12_isBit 0 = .ok (.iload_n 0, 1) := by decide +kernel
theorem dX12_isBit_1 : decode cX12_isBit 1 = .ok (.iload_n 1, 1) := by decide +kernel
theorem dX12_isBit_2 : decode cX12_isBit 2 = .ok (.ishr, 1) := by decide +kernel
theorem dX12_isBit_3 : decode cX12_isBit 3 = .ok (.iconst 1, 1) := by decide +kernel
theorem dX12_isBit_4 : decode cX12_isBit 4 = .ok (.iand, 1) := by decide +kernel
theorem dX12_isBit_5 : decode cX12_isBit 5 = .ok (.iconst 1, 1) := by decide +kernel
theorem dX12_isBit_6 : decode cX12_isBit 6 = .ok (.if_icmp .ne 7, 3) := by decide +kernel
theorem dX12_isBit_9 : decode cX12_isBit 9 = .ok (.iconst 1, 1) := by decide +kernel
theorem dX12_isBit_10 : decode cX12_isBit 10 = .ok (.goto 4, 3) := by decide +kernel
theorem dX12_isBit_13 : decode cX12_isBit 13 = .ok (.iconst 0, 1) := by decide +kernel
theorem dX12_isBit_14 : decode cX12_isBit 14 = .ok (.ireturn, 1) := by decide +kernel
theorem dX12_bits_0 : decode cX12_bits 0 = .ok (.iconst 0, 1) := by decide +kernel
theorem dX12_bits_1 : decode cX12_bits 1 = .ok (.istore_n 1, 1) := by decide +kernel
theorem dX12_bits_2 : decode cX12_bits 2 = .ok (.iconst 0, 1) := by decide +kernel
theorem dX12_bits_3 : decode cX12_bits 3 = .ok (.istore_n 2, 1) := by decide +kernel
theorem dX12_bits_4 : decode cX12_bits 4 = .ok (.iload_n 2, 1) := by decide +kernel
theorem dX12_bits_5 : decode cX12_bits 5 = .ok (.bipush 8, 2) := by decide +kernel
theorem dX12_bits_7 : decode cX12_bits 7 = .ok (.if_icmp .ge 17, 3) := by decide +kernel
theorem dX12_bits_10 : decode cX12_bits 10 = .ok (.iload_n 1, 1) := by decide +kernel
theorem dX12_bits_11 : decode cX12_bits 11 = .ok (.iload_n 0, 1) := by decide +kernel
theorem dX12_bits_12 : decode cX12_bits 12 = .ok (.iload_n 2, 1) := by decide +kernel
theorem dX12_bits_13 : decode cX12_bits 13 = .ok (.ishr, 1) := by decide +kernel
theorem dX12_bits_14 : decode cX12_bits 14 = .ok (.iconst 1, 1) := by decide +kernel
theorem dX12_bits_15 : decode cX12_bits 15 = .ok (.iand, 1) := by decide +kernel
theorem dX12_bits_16 : decode cX12_bits 16 = .ok (.iadd, 1) := by decide +kernel
theorem dX12_bits_17 : decode cX12_bits 17 = .ok (.istore_n 1, 1) := by decide +kernel
theorem dX12_bits_18 : decode cX12_bits 18 = .ok (.iinc 2 1, 3) := by decide +kernel
theorem dX12_bits_21 : decode cX12_bits 21 = .ok (.goto (-17), 3) := by decide +kernel
theorem dX12_bits_24 : decode cX12_bits 24 = .ok (.iload_n 1, 1) := by decide +kernel
theorem dX12_bits_25 : decode cX12_bits 25 = .ok (.ireturn, 1) := by decide +kernel
theorem dX12_isCloud_0 : decode cX12_isCloud 0 = .ok (.iload_n 1, 1) := by decide +kernel
theorem dX12_isCloud_1 : decode cX12_isCloud 1 = .ok (.i2l, 1) := by decide +kernel
theorem dX12_isCloud_2 : decode cX12_isCloud 2 = .ok (.lconst 0, 1) := by decide +kernel
theorem dX12_isCloud_3 : decode cX12_isCloud 3 = .ok (.aload_n 0, 1) := by decide +kernel
theorem dX12_isCloud_4 : decode cX12_isCloud 4 = .ok (.getfield 96, 3) := by decide +kernel
theorem dX12_isCloud_7 : decode cX12_isCloud 7 = .ok (.iconst 1, 1) := by decide +kernel
theorem dX12_isCloud_8 : decode cX12_isCloud 8 = .ok (.isub, 1) := by decide +kernel
theorem dX12_isCloud_9 : decode cX12_isCloud 9 = .ok (.i2l, 1) := by decide +kernel
theorem dX12_isCloud_10 : decode cX12_isCloud 10 = .ok (.invokestatic 99, 3) := by decide +kernel
theorem dX12_isCloud_13 : decode cX12_isCloud 13 = .ok (.ireturn, 1) := by decide +kernel
theorem dX12_isWasher_0 : decode cX12_isWasher 0 = .ok (.iload_n 1, 1) := by decide +kernel
theorem dX12_isWasher_1 : decode cX12_isWasher 1 = .ok (.i2l, 1) := by decide +kernel
theorem dX12_isWasher_2 : decode cX12_isWasher 2 = .ok (.lconst 0, 1) := by decide +kernel
theorem dX12_isWasher_3 : decode cX12_isWasher 3 = .ok (.aload_n 0, 1) := by decide +kernel
theorem dX12_isWasher_4 : decode cX12_isWasher 4 = .ok (.getfield 103, 3) := by decide +kernel
theorem dX12_isWasher_7 : decode cX12_isWasher 7 = .ok (.iconst 1, 1) := by decide +kernel
theorem dX12_isWasher_8 : decode cX12_isWasher 8 = .ok (.isub, 1) := by decide +kernel
theorem dX12_isWasher_9 : decode cX12_isWasher 9 = .ok (.i2l, 1) := by decide +kernel
theorem dX12_isWasher_10 : decode cX12_isWasher 10 = .ok (.invokestatic 99, 3) := by decide +kernel
theorem dX12_isWasher_13 : decode cX12_isWasher 13 = .ok (.ireturn, 1) := by decide +kernel
theorem dX12_rubsBy_0 : decode cX12_rubsBy 0 = .ok (.iload_n 0, 1) := by decide +kernel
theorem dX12_rubsBy_1 : decode cX12_rubsBy 1 = .ok (.lookupswitch 42 #[(1, 27), (3, 40)], 27) := by decide +kernel
theorem dX12_rubsBy_28 : decode cX12_rubsBy 28 = .ok (.iload_n 1, 1) := by decide +kernel
theorem dX12_rubsBy_29 : decode cX12_rubsBy 29 = .ok (.iconst 1, 1) := by decide +kernel
theorem dX12_rubsBy_30 : decode cX12_rubsBy 30 = .ok (.if_icmp .le 9, 3) := by decide +kernel
theorem dX12_rubsBy_33 : decode cX12_rubsBy 33 = .ok (.iload_n 1, 1) := by decide +kernel
theorem dX12_rubsBy_34 : decode cX12_rubsBy 34 = .ok (.iconst 1, 1) := by decide +kernel
theorem dX12_rubsBy_35 : decode cX12_rubsBy 35 = .ok (.isub, 1) := by decide +kernel
theorem dX12_rubsBy_36 : decode cX12_rubsBy 36 = .ok (.goto 4, 3) := by decide +kernel
theorem dX12_rubsBy_39 : decode cX12_rubsBy 39 = .ok (.iconst 1, 1) := by decide +kernel
theorem dX12_rubsBy_40 : decode cX12_rubsBy 40 = .ok (.ireturn, 1) := by decide +kernel
theorem dX12_rubsBy_41 : decode cX12_rubsBy 41 = .ok (.iconst 1, 1) := by decide +kernel
theorem dX12_rubsBy_42 : decode cX12_rubsBy 42 = .ok (.ireturn, 1) := by decide +kernel
theorem dX12_rubsBy_43 : decode cX12_rubsBy 43 = .ok (.iload_n 1, 1) := by decide +kernel
theorem dX12_rubsBy_44 : decode cX12_rubsBy 44 = .ok (.ireturn, 1) := by decide +kernel
theorem dX12_shrinksBy_0 : decode cX12_shrinksBy 0 = .ok (.iload_n 0, 1) := by decide +kernel
theorem dX12_shrinksBy_1 : decode cX12_shrinksBy 1 = .ok (.iconst 2, 1) := by decide +kernel
theorem dX12_shrinksBy_2 : decode cX12_shrinksBy 2 = .ok (.if_icmp .ne 7, 3) := by decide +kernel
theorem dX12_shrinksBy_5 : decode cX12_shrinksBy 5 = .ok (.iconst 2, 1) := by decide +kernel
theorem dX12_shrinksBy_6 : decode cX12_shrinksBy 6 = .ok (.goto 13, 3) := by decide +kernel
theorem dX12_shrinksBy_9 : decode cX12_shrinksBy 9 = .ok (.iload_n 0, 1) := by decide +kernel
theorem dX12_shrinksBy_10 : decode cX12_shrinksBy 10 = .ok (.iconst 3, 1) := by decide +kernel
theorem dX12_shrinksBy_11 : decode cX12_shrinksBy 11 = .ok (.if_icmp .ne 7, 3) := by decide +kernel
theorem dX12_shrinksBy_14 : decode cX12_shrinksBy 14 = .ok (.iconst 0, 1) := by decide +kernel
theorem dX12_shrinksBy_15 : decode cX12_shrinksBy 15 = .ok (.goto 4, 3) := by decide +kernel
theorem dX12_shrinksBy_18 : decode cX12_shrinksBy 18 = .ok (.iconst 1, 1) := by decide +kernel
theorem dX12_shrinksBy_19 : decode cX12_shrinksBy 19 = .ok (.ireturn, 1) := by decide +kernel
theorem dX12_driesBy_0 : decode cX12_driesBy 0 = .ok (.iload_n 0, 1) := by decide +kernel
theorem dX12_driesBy_1 : decode cX12_driesBy 1 = .ok (.ifCond .ne 7, 3) := by decide +kernel
theorem dX12_driesBy_4 : decode cX12_driesBy 4 = .ok (.iconst 2, 1) := by decide +kernel
theorem dX12_driesBy_5 : decode cX12_driesBy 5 = .ok (.goto 22, 3) := by decide +kernel
theorem dX12_driesBy_8 : decode cX12_driesBy 8 = .ok (.iload_n 0, 1) := by decide +kernel
theorem dX12_driesBy_9 : decode cX12_driesBy 9 = .ok (.iconst 1, 1) := by decide +kernel
theorem dX12_driesBy_10 : decode cX12_driesBy 10 = .ok (.if_icmp .ne 7, 3) := by decide +kernel
theorem dX12_driesBy_13 : decode cX12_driesBy 13 = .ok (.iconst 3, 1) := by decide +kernel
theorem dX12_driesBy_14 : decode cX12_driesBy 14 = .ok (.goto 13, 3) := by decide +kernel
theorem dX12_driesBy_17 : decode cX12_driesBy 17 = .ok (.iload_n 0, 1) := by decide +kernel
theorem dX12_driesBy_18 : decode cX12_driesBy 18 = .ok (.iconst 2, 1) := by decide +kernel
theorem dX12_driesBy_19 : decode cX12_driesBy 19 = .ok (.if_icmp .ne 7, 3) := by decide +kernel
theorem dX12_driesBy_22 : decode cX12_driesBy 22 = .ok (.iconst 1, 1) := by decide +kernel
theorem dX12_driesBy_23 : decode cX12_driesBy 23 = .ok (.goto 4, 3) := by decide +kernel
theorem dX12_driesBy_26 : decode cX12_driesBy 26 = .ok (.iconst 4, 1) := by decide +kernel
theorem dX12_driesBy_27 : decode cX12_driesBy 27 = .ok (.ireturn, 1) := by decide +kernel
theorem dX12_write_0 : decode cX12_write 0 = .ok (.iload_n 1, 1) := by decide +kernel
theorem dX12_write_1 : decode cX12_write 1 = .ok (.i2l, 1) := by decide +kernel
theorem dX12_write_2 : decode cX12_write 2 = .ok (.lconst 0, 1) := by decide +kernel
theorem dX12_write_3 : decode cX12_write 3 = .ok (.ldc2_w 106, 3) := by decide +kernel
theorem dX12_write_6 : decode cX12_write 6 = .ok (.invokestatic 99, 3) := by decide +kernel
theorem dX12_write_9 : decode cX12_write 9 = .ok (.ifCond .ne 6, 3) := by decide +kernel
theorem dX12_write_12 : decode cX12_write 12 = .ok (.bipush (-3), 2) := by decide +kernel
theorem dX12_write_14 : decode cX12_write 14 = .ok (.ireturn, 1) := by decide +kernel
theorem dX12_write_15 : decode cX12_write 15 = .ok (.aload_n 0, 1) := by decide +kernel
theorem dX12_write_16 : decode cX12_write 16 = .ok (.getfield 108, 3) := by decide +kernel
theorem dX12_write_19 : decode cX12_write 19 = .ok (.sipush 200, 3) := by decide +kernel
theorem dX12_write_22 : decode cX12_write 22 = .ok (.if_icmp .ne 6, 3) := by decide +kernel
theorem dX12_write_25 : decode cX12_write 25 = .ok (.bipush (-5), 2) := by decide +kernel
theorem dX12_write_27 : decode cX12_write 27 = .ok (.ireturn, 1) := by decide +kernel
theorem dX12_write_28 : decode cX12_write 28 = .ok (.aload_n 0, 1) := by decide +kernel
theorem dX12_write_29 : decode cX12_write 29 = .ok (.getfield 32, 3) := by decide +kernel
theorem dX12_write_32 : decode cX12_write 32 = .ok (.aload_n 0, 1) := by decide +kernel
theorem dX12_write_33 : decode cX12_write 33 = .ok (.getfield 108, 3) := by decide +kernel
theorem dX12_write_36 : decode cX12_write 36 = .ok (.iload_n 1, 1) := by decide +kernel
theorem dX12_write_37 : decode cX12_write 37 = .ok (.iastore, 1) := by decide +kernel
theorem dX12_write_38 : decode cX12_write 38 = .ok (.aload_n 0, 1) := by decide +kernel
theorem dX12_write_39 : decode cX12_write 39 = .ok (.dup, 1) := by decide +kernel
theorem dX12_write_40 : decode cX12_write 40 = .ok (.getfield 108, 3) := by decide +kernel
theorem dX12_write_43 : decode cX12_write 43 = .ok (.iconst 1, 1) := by decide +kernel
theorem dX12_write_44 : decode cX12_write 44 = .ok (.iadd, 1) := by decide +kernel
theorem dX12_write_45 : decode cX12_write 45 = .ok (.putfield 108, 3) := by decide +kernel
theorem dX12_write_48 : decode cX12_write 48 = .ok (.aload_n 0, 1) := by decide +kernel
theorem dX12_write_49 : decode cX12_write 49 = .ok (.getfield 108, 3) := by decide +kernel
theorem dX12_write_52 : decode cX12_write 52 = .ok (.ireturn, 1) := by decide +kernel
theorem dX12_erase_0 : decode cX12_erase 0 = .ok (.aload_n 0, 1) := by decide +kernel
theorem dX12_erase_1 : decode cX12_erase 1 = .ok (.getfield 108, 3) := by decide +kernel
theorem dX12_erase_4 : decode cX12_erase 4 = .ok (.istore_n 1, 1) := by decide +kernel
theorem dX12_erase_5 : decode cX12_erase 5 = .ok (.aload_n 0, 1) := by decide +kernel
theorem dX12_erase_6 : decode cX12_erase 6 = .ok (.iconst 0, 1) := by decide +kernel
theorem dX12_erase_7 : decode cX12_erase 7 = .ok (.putfield 108, 3) := by decide +kernel
theorem dX12_erase_10 : decode cX12_erase 10 = .ok (.iload_n 1, 1) := by decide +kernel
theorem dX12_erase_11 : decode cX12_erase 11 = .ok (.ireturn, 1) := by decide +kernel
theorem dX12_isSmall_0 : decode cX12_isSmall 0 = .ok (.iload_n 1, 1) := by decide +kernel
theorem dX12_isSmall_1 : decode cX12_isSmall 1 = .ok (.aload_n 0, 1) := by decide +kernel
theorem dX12_isSmall_2 : decode cX12_isSmall 2 = .ok (.getfield 108, 3) := by decide +kernel
theorem dX12_isSmall_5 : decode cX12_isSmall 5 = .ok (.if_icmp .ge 26, 3) := by decide +kernel
theorem dX12_isSmall_8 : decode cX12_isSmall 8 = .ok (.aload_n 0, 1) := by decide +kernel
theorem dX12_isSmall_9 : decode cX12_isSmall 9 = .ok (.getfield 32, 3) := by decide +kernel
theorem dX12_isSmall_12 : decode cX12_isSmall 12 = .ok (.iload_n 1, 1) := by decide +kernel
theorem dX12_isSmall_13 : decode cX12_isSmall 13 = .ok (.iaload, 1) := by decide +kernel
theorem dX12_isSmall_14 : decode cX12_isSmall 14 = .ok (.i2l, 1) := by decide +kernel
theorem dX12_isSmall_15 : decode cX12_isSmall 15 = .ok (.ldc2_w 111, 3) := by decide +kernel
theorem dX12_isSmall_18 : decode cX12_isSmall 18 = .ok (.ldc2_w 113, 3) := by decide +kernel
theorem dX12_isSmall_21 : decode cX12_isSmall 21 = .ok (.invokestatic 99, 3) := by decide +kernel
theorem dX12_isSmall_24 : decode cX12_isSmall 24 = .ok (.ifCond .eq 7, 3) := by decide +kernel
theorem dX12_isSmall_27 : decode cX12_isSmall 27 = .ok (.iconst 1, 1) := by decide +kernel
theorem dX12_isSmall_28 : decode cX12_isSmall 28 = .ok (.goto 4, 3) := by decide +kernel
theorem dX12_isSmall_31 : decode cX12_isSmall 31 = .ok (.iconst 0, 1) := by decide +kernel
theorem dX12_isSmall_32 : decode cX12_isSmall 32 = .ok (.ireturn, 1) := by decide +kernel
theorem dX12_isDigit_0 : decode cX12_isDigit 0 = .ok (.iload_n 1, 1) := by decide +kernel
theorem dX12_isDigit_1 : decode cX12_isDigit 1 = .ok (.aload_n 0, 1) := by decide +kernel
theorem dX12_isDigit_2 : decode cX12_isDigit 2 = .ok (.getfield 108, 3) := by decide +kernel
theorem dX12_isDigit_5 : decode cX12_isDigit 5 = .ok (.if_icmp .ge 26, 3) := by decide +kernel
theorem dX12_isDigit_8 : decode cX12_isDigit 8 = .ok (.aload_n 0, 1) := by decide +kernel
theorem dX12_isDigit_9 : decode cX12_isDigit 9 = .ok (.getfield 32, 3) := by decide +kernel
theorem dX12_isDigit_12 : decode cX12_isDigit 12 = .ok (.iload_n 1, 1) := by decide +kernel
theorem dX12_isDigit_13 : decode cX12_isDigit 13 = .ok (.iaload, 1) := by decide +kernel
theorem dX12_isDigit_14 : decode cX12_isDigit 14 = .ok (.i2l, 1) := by decide +kernel
theorem dX12_isDigit_15 : decode cX12_isDigit 15 = .ok (.ldc2_w 115, 3) := by decide +kernel
theorem dX12_isDigit_18 : decode cX12_isDigit 18 = .ok (.ldc2_w 117, 3) := by decide +kernel
theorem dX12_isDigit_21 : decode cX12_isDigit 21 = .ok (.invokestatic 99, 3) := by decide +kernel
theorem dX12_isDigit_24 : decode cX12_isDigit 24 = .ok (.ifCond .eq 7, 3) := by decide +kernel
theorem dX12_isDigit_27 : decode cX12_isDigit 27 = .ok (.iconst 1, 1) := by decide +kernel
theorem dX12_isDigit_28 : decode cX12_isDigit 28 = .ok (.goto 4, 3) := by decide +kernel
theorem dX12_isDigit_31 : decode cX12_isDigit 31 = .ok (.iconst 0, 1) := by decide +kernel
theorem dX12_isDigit_32 : decode cX12_isDigit 32 = .ok (.ireturn, 1) := by decide +kernel
theorem dX12_next_0 : decode cX12_next 0 = .ok (.aload_n 0, 1) := by decide +kernel
theorem dX12_next_1 : decode cX12_next 1 = .ok (.getfield 119, 3) := by decide +kernel
theorem dX12_next_4 : decode cX12_next 4 = .ok (.aload_n 0, 1) := by decide +kernel
theorem dX12_next_5 : decode cX12_next 5 = .ok (.getfield 108, 3) := by decide +kernel
theorem dX12_next_8 : decode cX12_next 8 = .ok (.if_icmp .ge 30, 3) := by decide +kernel
theorem dX12_next_11 : decode cX12_next 11 = .ok (.aload_n 0, 1) := by decide +kernel
theorem dX12_next_12 : decode cX12_next 12 = .ok (.getfield 32, 3) := by decide +kernel
theorem dX12_next_15 : decode cX12_next 15 = .ok (.aload_n 0, 1) := by decide +kernel
theorem dX12_next_16 : decode cX12_next 16 = .ok (.getfield 119, 3) := by decide +kernel
theorem dX12_next_19 : decode cX12_next 19 = .ok (.iaload, 1) := by decide +kernel
theorem dX12_next_20 : decode cX12_next 20 = .ok (.bipush 32, 2) := by decide +kernel
theorem dX12_next_22 : decode cX12_next 22 = .ok (.if_icmp .ne 16, 3) := by decide +kernel
theorem dX12_next_25 : decode cX12_next 25 = .ok (.aload_n 0, 1) := by decide +kernel
theorem dX12_next_26 : decode cX12_next 26 = .ok (.dup, 1) := by decide +kernel
theorem dX12_next_27 : decode cX12_next 27 = .ok (.getfield 119, 3) := by decide +kernel
theorem dX12_next_30 : decode cX12_next 30 = .ok (.iconst 1, 1) := by decide +kernel
theorem dX12_next_31 : decode cX12_next 31 = .ok (.iadd, 1) := by decide +kernel
theorem dX12_next_32 : decode cX12_next 32 = .ok (.putfield 119, 3) := by decide +kernel
theorem dX12_next_35 : decode cX12_next 35 = .ok (.goto (-35), 3) := by decide +kernel
theorem dX12_next_38 : decode cX12_next 38 = .ok (.aload_n 0, 1) := by decide +kernel
theorem dX12_next_39 : decode cX12_next 39 = .ok (.aload_n 0, 1) := by decide +kernel
theorem dX12_next_40 : decode cX12_next 40 = .ok (.getfield 119, 3) := by decide +kernel
theorem dX12_next_43 : decode cX12_next 43 = .ok (.putfield 122, 3) := by decide +kernel
theorem dX12_next_46 : decode cX12_next 46 = .ok (.aload_n 0, 1) := by decide +kernel
theorem dX12_next_47 : decode cX12_next 47 = .ok (.aload_n 0, 1) := by decide +kernel
theorem dX12_next_48 : decode cX12_next 48 = .ok (.getfield 119, 3) := by decide +kernel
theorem dX12_next_51 : decode cX12_next 51 = .ok (.iconst 1, 1) := by decide +kernel
theorem dX12_next_52 : decode cX12_next 52 = .ok (.iadd, 1) := by decide +kernel
theorem dX12_next_53 : decode cX12_next 53 = .ok (.putfield 125, 3) := by decide +kernel
theorem dX12_next_56 : decode cX12_next 56 = .ok (.aload_n 0, 1) := by decide +kernel
theorem dX12_next_57 : decode cX12_next 57 = .ok (.aload_n 0, 1) := by decide +kernel
theorem dX12_next_58 : decode cX12_next 58 = .ok (.getfield 119, 3) := by decide +kernel
theorem dX12_next_61 : decode cX12_next 61 = .ok (.aload_n 0, 1) := by decide +kernel
theorem dX12_next_62 : decode cX12_next 62 = .ok (.getfield 108, 3) := by decide +kernel
theorem dX12_next_65 : decode cX12_next 65 = .ok (.if_icmp .ne 7, 3) := by decide +kernel
theorem dX12_next_68 : decode cX12_next 68 = .ok (.iconst 0, 1) := by decide +kernel
theorem dX12_next_69 : decode cX12_next 69 = .ok (.goto 34, 3) := by decide +kernel
theorem dX12_next_72 : decode cX12_next 72 = .ok (.aload_n 0, 1) := by decide +kernel
theorem dX12_next_73 : decode cX12_next 73 = .ok (.aload_n 0, 1) := by decide +kernel
theorem dX12_next_74 : decode cX12_next 74 = .ok (.getfield 119, 3) := by decide +kernel
theorem dX12_next_77 : decode cX12_next 77 = .ok (.invokevirtual 128, 3) := by decide +kernel
theorem dX12_next_80 : decode cX12_next 80 = .ok (.ifCond .eq 7, 3) := by decide +kernel
theorem dX12_next_83 : decode cX12_next 83 = .ok (.iconst 1, 1) := by decide +kernel
theorem dX12_next_84 : decode cX12_next 84 = .ok (.goto 19, 3) := by decide +kernel
theorem dX12_next_87 : decode cX12_next 87 = .ok (.aload_n 0, 1) := by decide +kernel
theorem dX12_next_88 : decode cX12_next 88 = .ok (.aload_n 0, 1) := by decide +kernel
theorem dX12_next_89 : decode cX12_next 89 = .ok (.getfield 119, 3) := by decide +kernel
theorem dX12_next_92 : decode cX12_next 92 = .ok (.invokevirtual 132, 3) := by decide +kernel
theorem dX12_next_95 : decode cX12_next 95 = .ok (.ifCond .eq 7, 3) := by decide +kernel
theorem dX12_next_98 : decode cX12_next 98 = .ok (.iconst 2, 1) := by decide +kernel
theorem dX12_next_99 : decode cX12_next 99 = .ok (.goto 4, 3) := by decide +kernel
theorem dX12_next_102 : decode cX12_next 102 = .ok (.iconst 3, 1) := by decide +kernel
theorem dX12_next_103 : decode cX12_next 103 = .ok (.putfield 135, 3) := by decide +kernel
theorem dX12_next_106 : decode cX12_next 106 = .ok (.aload_n 0, 1) := by decide +kernel
theorem dX12_next_107 : decode cX12_next 107 = .ok (.getfield 135, 3) := by decide +kernel
theorem dX12_next_110 : decode cX12_next 110 = .ok (.iconst 1, 1) := by decide +kernel
theorem dX12_next_111 : decode cX12_next 111 = .ok (.if_icmp .ne 14, 3) := by decide +kernel
theorem dX12_next_114 : decode cX12_next 114 = .ok (.aload_n 0, 1) := by decide +kernel
theorem dX12_next_115 : decode cX12_next 115 = .ok (.aload_n 0, 1) := by decide +kernel
theorem dX12_next_116 : decode cX12_next 116 = .ok (.getfield 125, 3) := by decide +kernel
theorem dX12_next_119 : decode cX12_next 119 = .ok (.invokevirtual 128, 3) := by decide +kernel
theorem dX12_next_122 : decode cX12_next 122 = .ok (.ifCond .ne 22, 3) := by decide +kernel
theorem dX12_next_125 : decode cX12_next 125 = .ok (.aload_n 0, 1) := by decide +kernel
theorem dX12_next_126 : decode cX12_next 126 = .ok (.getfield 135, 3) := by decide +kernel
theorem dX12_next_129 : decode cX12_next 129 = .ok (.iconst 2, 1) := by decide +kernel
theorem dX12_next_130 : decode cX12_next 130 = .ok (.if_icmp .ne 27, 3) := by decide +kernel
theorem dX12_next_133 : decode cX12_next 133 = .ok (.aload_n 0, 1) := by decide +kernel
theorem dX12_next_134 : decode cX12_next 134 = .ok (.aload_n 0, 1) := by decide +kernel
theorem dX12_next_135 : decode cX12_next 135 = .ok (.getfield 125, 3) := by decide +kernel
theorem dX12_next_138 : decode cX12_next 138 = .ok (.invokevirtual 132, 3) := by decide +kernel
theorem dX12_next_141 : decode cX12_next 141 = .ok (.ifCond .eq 16, 3) := by decide +kernel
theorem dX12_next_144 : decode cX12_next 144 = .ok (.aload_n 0, 1) := by decide +kernel
theorem dX12_next_145 : decode cX12_next 145 = .ok (.dup, 1) := by decide +kernel
theorem dX12_next_146 : decode cX12_next 146 = .ok (.getfield 125, 3) := by decide +kernel
theorem dX12_next_149 : decode cX12_next 149 = .ok (.iconst 1, 1) := by decide +kernel
theorem dX12_next_150 : decode cX12_next 150 = .ok (.iadd, 1) := by decide +kernel
theorem dX12_next_151 : decode cX12_next 151 = .ok (.putfield 125, 3) := by decide +kernel
theorem dX12_next_154 : decode cX12_next 154 = .ok (.goto (-48), 3) := by decide +kernel
theorem dX12_next_157 : decode cX12_next 157 = .ok (.aload_n 0, 1) := by decide +kernel
theorem dX12_next_158 : decode cX12_next 158 = .ok (.iconst 0, 1) := by decide +kernel
theorem dX12_next_159 : decode cX12_next 159 = .ok (.putfield 138, 3) := by decide +kernel
theorem dX12_next_162 : decode cX12_next 162 = .ok (.aload_n 0, 1) := by decide +kernel
theorem dX12_next_163 : decode cX12_next 163 = .ok (.getfield 122, 3) := by decide +kernel
theorem dX12_next_166 : decode cX12_next 166 = .ok (.istore_n 1, 1) := by decide +kernel
theorem dX12_next_167 : decode cX12_next 167 = .ok (.iload_n 1, 1) := by decide +kernel
theorem dX12_next_168 : decode cX12_next 168 = .ok (.aload_n 0, 1) := by decide +kernel
theorem dX12_next_169 : decode cX12_next 169 = .ok (.getfield 125, 3) := by decide +kernel
theorem dX12_next_172 : decode cX12_next 172 = .ok (.if_icmp .ge 57, 3) := by decide +kernel
theorem dX12_next_175 : decode cX12_next 175 = .ok (.aload_n 0, 1) := by decide +kernel
theorem dX12_next_176 : decode cX12_next 176 = .ok (.getfield 135, 3) := by decide +kernel
theorem dX12_next_179 : decode cX12_next 179 = .ok (.iconst 2, 1) := by decide +kernel
theorem dX12_next_180 : decode cX12_next 180 = .ok (.if_icmp .ne 49, 3) := by decide +kernel
theorem dX12_next_183 : decode cX12_next 183 = .ok (.aload_n 0, 1) := by decide +kernel
theorem dX12_next_184 : decode cX12_next 184 = .ok (.aload_n 0, 1) := by decide +kernel
theorem dX12_next_185 : decode cX12_next 185 = .ok (.getfield 125, 3) := by decide +kernel
theorem dX12_next_188 : decode cX12_next 188 = .ok (.aload_n 0, 1) := by decide +kernel
theorem dX12_next_189 : decode cX12_next 189 = .ok (.getfield 122, 3) := by decide +kernel
theorem dX12_next_192 : decode cX12_next 192 = .ok (.isub, 1) := by decide +kernel
theorem dX12_next_193 : decode cX12_next 193 = .ok (.iconst 2, 1) := by decide +kernel
theorem dX12_next_194 : decode cX12_next 194 = .ok (.if_icmp .le 9, 3) := by decide +kernel
theorem dX12_next_197 : decode cX12_next 197 = .ok (.sipush 1000, 3) := by decide +kernel
theorem dX12_next_200 : decode cX12_next 200 = .ok (.goto 20, 3) := by decide +kernel
theorem dX12_next_203 : decode cX12_next 203 = .ok (.bipush 10, 2) := by decide +kernel
theorem dX12_next_205 : decode cX12_next 205 = .ok (.aload_n 0, 1) := by decide +kernel
theorem dX12_next_206 : decode cX12_next 206 = .ok (.getfield 138, 3) := by decide +kernel
theorem dX12_next_209 : decode cX12_next 209 = .ok (.imul, 1) := by decide +kernel
theorem dX12_next_210 : decode cX12_next 210 = .ok (.aload_n 0, 1) := by decide +kernel
theorem dX12_next_211 : decode cX12_next 211 = .ok (.getfield 32, 3) := by decide +kernel
theorem dX12_next_214 : decode cX12_next 214 = .ok (.iload_n 1, 1) := by decide +kernel
theorem dX12_next_215 : decode cX12_next 215 = .ok (.iaload, 1) := by decide +kernel
theorem dX12_next_216 : decode cX12_next 216 = .ok (.iadd, 1) := by decide +kernel
theorem dX12_next_217 : decode cX12_next 217 = .ok (.bipush 48, 2) := by decide +kernel
theorem dX12_next_219 : decode cX12_next 219 = .ok (.isub, 1) := by decide +kernel
theorem dX12_next_220 : decode cX12_next 220 = .ok (.putfield 138, 3) := by decide +kernel
theorem dX12_next_223 : decode cX12_next 223 = .ok (.iinc 1 1, 3) := by decide +kernel
theorem dX12_next_226 : decode cX12_next 226 = .ok (.goto (-59), 3) := by decide +kernel
theorem dX12_next_229 : decode cX12_next 229 = .ok (.aload_n 0, 1) := by decide +kernel
theorem dX12_next_230 : decode cX12_next 230 = .ok (.aload_n 0, 1) := by decide +kernel
theorem dX12_next_231 : decode cX12_next 231 = .ok (.getfield 135, 3) := by decide +kernel
theorem dX12_next_234 : decode cX12_next 234 = .ok (.ifCond .ne 10, 3) := by decide +kernel
theorem dX12_next_237 : decode cX12_next 237 = .ok (.aload_n 0, 1) := by decide +kernel
theorem dX12_next_238 : decode cX12_next 238 = .ok (.getfield 119, 3) := by decide +kernel
theorem dX12_next_241 : decode cX12_next 241 = .ok (.goto 7, 3) := by decide +kernel
theorem dX12_next_244 : decode cX12_next 244 = .ok (.aload_n 0, 1) := by decide +kernel
theorem dX12_next_245 : decode cX12_next 245 = .ok (.getfield 125, 3) := by decide +kernel
theorem dX12_next_248 : decode cX12_next 248 = .ok (.putfield 119, 3) := by decide +kernel
theorem dX12_next_251 : decode cX12_next 251 = .ok (.return_, 1) := by decide +kernel
theorem dX12_wordNow_0 : decode cX12_wordNow 0 = .ok (.lconst 0, 1) := by decide +kernel
theorem dX12_wordNow_1 : decode cX12_wordNow 1 = .ok (.lstore_n 1, 1) := by decide +kernel
theorem dX12_wordNow_2 : decode cX12_wordNow 2 = .ok (.aload_n 0, 1) := by decide +kernel
theorem dX12_wordNow_3 : decode cX12_wordNow 3 = .ok (.getfield 122, 3) := by decide +kernel
theorem dX12_wordNow_6 : decode cX12_wordNow 6 = .ok (.istore_n 3, 1) := by decide +kernel
theorem dX12_wordNow_7 : decode cX12_wordNow 7 = .ok (.iload_n 3, 1) := by decide +kernel
theorem dX12_wordNow_8 : decode cX12_wordNow 8 = .ok (.aload_n 0, 1) := by decide +kernel
theorem dX12_wordNow_9 : decode cX12_wordNow 9 = .ok (.getfield 125, 3) := by decide +kernel
theorem dX12_wordNow_12 : decode cX12_wordNow 12 = .ok (.if_icmp .ge 49, 3) := by decide +kernel
theorem dX12_wordNow_15 : decode cX12_wordNow 15 = .ok (.aload_n 0, 1) := by decide +kernel
theorem dX12_wordNow_16 : decode cX12_wordNow 16 = .ok (.getfield 135, 3) := by decide +kernel
theorem dX12_wordNow_19 : decode cX12_wordNow 19 = .ok (.iconst 1, 1) := by decide +kernel
theorem dX12_wordNow_20 : decode cX12_wordNow 20 = .ok (.if_icmp .ne 41, 3) := by decide +kernel
theorem dX12_wordNow_23 : decode cX12_wordNow 23 = .ok (.lload_n 1, 1) := by decide +kernel
theorem dX12_wordNow_24 : decode cX12_wordNow 24 = .ok (.ldc2_w 141, 3) := by decide +kernel
theorem dX12_wordNow_27 : decode cX12_wordNow 27 = .ok (.lcmp, 1) := by decide +kernel
theorem dX12_wordNow_28 : decode cX12_wordNow 28 = .ok (.ifCond .le 7, 3) := by decide +kernel
theorem dX12_wordNow_31 : decode cX12_wordNow 31 = .ok (.lload_n 1, 1) := by decide +kernel
theorem dX12_wordNow_32 : decode cX12_wordNow 32 = .ok (.goto 22, 3) := by decide +kernel
theorem dX12_wordNow_35 : decode cX12_wordNow 35 = .ok (.ldc2_w 143, 3) := by decide +kernel
theorem dX12_wordNow_38 : decode cX12_wordNow 38 = .ok (.lload_n 1, 1) := by decide +kernel
theorem dX12_wordNow_39 : decode cX12_wordNow 39 = .ok (.lmul, 1) := by decide +kernel
theorem dX12_wordNow_40 : decode cX12_wordNow 40 = .ok (.aload_n 0, 1) := by decide +kernel
theorem dX12_wordNow_41 : decode cX12_wordNow 41 = .ok (.getfield 32, 3) := by decide +kernel
theorem dX12_wordNow_44 : decode cX12_wordNow 44 = .ok (.iload_n 3, 1) := by decide +kernel
theorem dX12_wordNow_45 : decode cX12_wordNow 45 = .ok (.iaload, 1) := by decide +kernel
theorem dX12_wordNow_46 : decode cX12_wordNow 46 = .ok (.i2l, 1) := by decide +kernel
theorem dX12_wordNow_47 : decode cX12_wordNow 47 = .ok (.ladd, 1) := by decide +kernel
theorem dX12_wordNow_48 : decode cX12_wordNow 48 = .ok (.ldc2_w 111, 3) := by decide +kernel
theorem dX12_wordNow_51 : decode cX12_wordNow 51 = .ok (.lsub, 1) := by decide +kernel
theorem dX12_wordNow_52 : decode cX12_wordNow 52 = .ok (.lconst 1, 1) := by decide +kernel
theorem dX12_wordNow_53 : decode cX12_wordNow 53 = .ok (.ladd, 1) := by decide +kernel
theorem dX12_wordNow_54 : decode cX12_wordNow 54 = .ok (.lstore_n 1, 1) := by decide +kernel
theorem dX12_wordNow_55 : decode cX12_wordNow 55 = .ok (.iinc 3 1, 3) := by decide +kernel
theorem dX12_wordNow_58 : decode cX12_wordNow 58 = .ok (.goto (-51), 3) := by decide +kernel
theorem dX12_wordNow_61 : decode cX12_wordNow 61 = .ok (.lload_n 1, 1) := by decide +kernel
theorem dX12_wordNow_62 : decode cX12_wordNow 62 = .ok (.lreturn, 1) := by decide +kernel
theorem dX12_readAsTold_0 : decode cX12_readAsTold 0 = .ok (.aload_n 0, 1) := by decide +kernel
theorem dX12_readAsTold_1 : decode cX12_readAsTold 1 = .ok (.aload_n 0, 1) := by decide +kernel
theorem dX12_readAsTold_2 : decode cX12_readAsTold 2 = .ok (.getfield 96, 3) := by decide +kernel
theorem dX12_readAsTold_5 : decode cX12_readAsTold 5 = .ok (.putfield 145, 3) := by decide +kernel
theorem dX12_readAsTold_8 : decode cX12_readAsTold 8 = .ok (.aload_n 0, 1) := by decide +kernel
theorem dX12_readAsTold_9 : decode cX12_readAsTold 9 = .ok (.aload_n 0, 1) := by decide +kernel
theorem dX12_readAsTold_10 : decode cX12_readAsTold 10 = .ok (.getfield 103, 3) := by decide +kernel
theorem dX12_readAsTold_13 : decode cX12_readAsTold 13 = .ok (.putfield 148, 3) := by decide +kernel
theorem dX12_readAsTold_16 : decode cX12_readAsTold 16 = .ok (.aload_n 0, 1) := by decide +kernel
theorem dX12_readAsTold_17 : decode cX12_readAsTold 17 = .ok (.aload_n 0, 1) := by decide +kernel
theorem dX12_readAsTold_18 : decode cX12_readAsTold 18 = .ok (.getfield 151, 3) := by decide +kernel
theorem dX12_readAsTold_21 : decode cX12_readAsTold 21 = .ok (.putfield 154, 3) := by decide +kernel
theorem dX12_readAsTold_24 : decode cX12_readAsTold 24 = .ok (.aload_n 0, 1) := by decide +kernel
theorem dX12_readAsTold_25 : decode cX12_readAsTold 25 = .ok (.aload_n 0, 1) := by decide +kernel
theorem dX12_readAsTold_26 : decode cX12_readAsTold 26 = .ok (.getfield 25, 3) := by decide +kernel
theorem dX12_readAsTold_29 : decode cX12_readAsTold 29 = .ok (.putfield 157, 3) := by decide +kernel
theorem dX12_readAsTold_32 : decode cX12_readAsTold 32 = .ok (.aload_n 0, 1) := by decide +kernel
theorem dX12_readAsTold_33 : decode cX12_readAsTold 33 = .ok (.iconst 0, 1) := by decide +kernel
theorem dX12_readAsTold_34 : decode cX12_readAsTold 34 = .ok (.putfield 160, 3) := by decide +kernel
theorem dX12_readAsTold_37 : decode cX12_readAsTold 37 = .ok (.iconst 0, 1) := by decide +kernel
theorem dX12_readAsTold_38 : decode cX12_readAsTold 38 = .ok (.istore_n 1, 1) := by decide +kernel
theorem dX12_readAsTold_39 : decode cX12_readAsTold 39 = .ok (.iload_n 1, 1) := by decide +kernel
theorem dX12_readAsTold_40 : decode cX12_readAsTold 40 = .ok (.bipush 6, 2) := by decide +kernel
theorem dX12_readAsTold_42 : decode cX12_readAsTold 42 = .ok (.if_icmp .ge 45, 3) := by decide +kernel
theorem dX12_readAsTold_45 : decode cX12_readAsTold 45 = .ok (.aload_n 0, 1) := by decide +kernel
theorem dX12_readAsTold_46 : decode cX12_readAsTold 46 = .ok (.getfield 35, 3) := by decide +kernel
theorem dX12_readAsTold_49 : decode cX12_readAsTold 49 = .ok (.iload_n 1, 1) := by decide +kernel
theorem dX12_readAsTold_50 : decode cX12_readAsTold 50 = .ok (.aload_n 0, 1) := by decide +kernel
theorem dX12_readAsTold_51 : decode cX12_readAsTold 51 = .ok (.getfield 7, 3) := by decide +kernel
theorem dX12_readAsTold_54 : decode cX12_readAsTold 54 = .ok (.iload_n 1, 1) := by decide +kernel
theorem dX12_readAsTold_55 : decode cX12_readAsTold 55 = .ok (.iaload, 1) := by decide +kernel
theorem dX12_readAsTold_56 : decode cX12_readAsTold 56 = .ok (.iastore, 1) := by decide +kernel
theorem dX12_readAsTold_57 : decode cX12_readAsTold 57 = .ok (.aload_n 0, 1) := by decide +kernel
theorem dX12_readAsTold_58 : decode cX12_readAsTold 58 = .ok (.getfield 38, 3) := by decide +kernel
theorem dX12_readAsTold_61 : decode cX12_readAsTold 61 = .ok (.iload_n 1, 1) := by decide +kernel
theorem dX12_readAsTold_62 : decode cX12_readAsTold 62 = .ok (.aload_n 0, 1) := by decide +kernel
theorem dX12_readAsTold_63 : decode cX12_readAsTold 63 = .ok (.getfield 13, 3) := by decide +kernel
theorem dX12_readAsTold_66 : decode cX12_readAsTold 66 = .ok (.iload_n 1, 1) := by decide +kernel
theorem dX12_readAsTold_67 : decode cX12_readAsTold 67 = .ok (.iaload, 1) := by decide +kernel
theorem dX12_readAsTold_68 : decode cX12_readAsTold 68 = .ok (.iastore, 1) := by decide +kernel
theorem dX12_readAsTold_69 : decode cX12_readAsTold 69 = .ok (.aload_n 0, 1) := by decide +kernel
theorem dX12_readAsTold_70 : decode cX12_readAsTold 70 = .ok (.getfield 41, 3) := by decide +kernel
theorem dX12_readAsTold_73 : decode cX12_readAsTold 73 = .ok (.iload_n 1, 1) := by decide +kernel
theorem dX12_readAsTold_74 : decode cX12_readAsTold 74 = .ok (.aload_n 0, 1) := by decide +kernel
theorem dX12_readAsTold_75 : decode cX12_readAsTold 75 = .ok (.getfield 16, 3) := by decide +kernel
theorem dX12_readAsTold_78 : decode cX12_readAsTold 78 = .ok (.iload_n 1, 1) := by decide +kernel
theorem dX12_readAsTold_79 : decode cX12_readAsTold 79 = .ok (.iaload, 1) := by decide +kernel
theorem dX12_readAsTold_80 : decode cX12_readAsTold 80 = .ok (.iastore, 1) := by decide +kernel
theorem dX12_readAsTold_81 : decode cX12_readAsTold 81 = .ok (.iinc 1 1, 3) := by decide +kernel
theorem dX12_readAsTold_84 : decode cX12_readAsTold 84 = .ok (.goto (-45), 3) := by decide +kernel
theorem dX12_readAsTold_87 : decode cX12_readAsTold 87 = .ok (.iconst 0, 1) := by decide +kernel
theorem dX12_readAsTold_88 : decode cX12_readAsTold 88 = .ok (.istore_n 1, 1) := by decide +kernel
theorem dX12_readAsTold_89 : decode cX12_readAsTold 89 = .ok (.iload_n 1, 1) := by decide +kernel
theorem dX12_readAsTold_90 : decode cX12_readAsTold 90 = .ok (.bipush 36, 2) := by decide +kernel
theorem dX12_readAsTold_92 : decode cX12_readAsTold 92 = .ok (.if_icmp .ge 21, 3) := by decide +kernel
theorem dX12_readAsTold_95 : decode cX12_readAsTold 95 = .ok (.aload_n 0, 1) := by decide +kernel
theorem dX12_readAsTold_96 : decode cX12_readAsTold 96 = .ok (.getfield 44, 3) := by decide +kernel
theorem dX12_readAsTold_99 : decode cX12_readAsTold 99 = .ok (.iload_n 1, 1) := by decide +kernel
theorem dX12_readAsTold_100 : decode cX12_readAsTold 100 = .ok (.aload_n 0, 1) := by decide +kernel
theorem dX12_readAsTold_101 : decode cX12_readAsTold 101 = .ok (.getfield 19, 3) := by decide +kernel
theorem dX12_readAsTold_104 : decode cX12_readAsTold 104 = .ok (.iload_n 1, 1) := by decide +kernel
theorem dX12_readAsTold_105 : decode cX12_readAsTold 105 = .ok (.iaload, 1) := by decide +kernel
theorem dX12_readAsTold_106 : decode cX12_readAsTold 106 = .ok (.iastore, 1) := by decide +kernel
theorem dX12_readAsTold_107 : decode cX12_readAsTold 107 = .ok (.iinc 1 1, 3) := by decide +kernel
theorem dX12_readAsTold_110 : decode cX12_readAsTold 110 = .ok (.goto (-21), 3) := by decide +kernel
theorem dX12_readAsTold_113 : decode cX12_readAsTold 113 = .ok (.iconst 0, 1) := by decide +kernel
theorem dX12_readAsTold_114 : decode cX12_readAsTold 114 = .ok (.istore_n 1, 1) := by decide +kernel
theorem dX12_readAsTold_115 : decode cX12_readAsTold 115 = .ok (.iload_n 1, 1) := by decide +kernel
theorem dX12_readAsTold_116 : decode cX12_readAsTold 116 = .ok (.iconst 3, 1) := by decide +kernel
theorem dX12_readAsTold_117 : decode cX12_readAsTold 117 = .ok (.if_icmp .ge 21, 3) := by decide +kernel
theorem dX12_readAsTold_120 : decode cX12_readAsTold 120 = .ok (.aload_n 0, 1) := by decide +kernel
theorem dX12_readAsTold_121 : decode cX12_readAsTold 121 = .ok (.getfield 47, 3) := by decide +kernel
theorem dX12_readAsTold_124 : decode cX12_readAsTold 124 = .ok (.iload_n 1, 1) := by decide +kernel
theorem dX12_readAsTold_125 : decode cX12_readAsTold 125 = .ok (.aload_n 0, 1) := by decide +kernel
theorem dX12_readAsTold_126 : decode cX12_readAsTold 126 = .ok (.getfield 22, 3) := by decide +kernel
theorem dX12_readAsTold_129 : decode cX12_readAsTold 129 = .ok (.iload_n 1, 1) := by decide +kernel
theorem dX12_readAsTold_130 : decode cX12_readAsTold 130 = .ok (.iaload, 1) := by decide +kernel
theorem dX12_readAsTold_131 : decode cX12_readAsTold 131 = .ok (.iastore, 1) := by decide +kernel
theorem dX12_readAsTold_132 : decode cX12_readAsTold 132 = .ok (.iinc 1 1, 3) := by decide +kernel
theorem dX12_readAsTold_135 : decode cX12_readAsTold 135 = .ok (.goto (-20), 3) := by decide +kernel
theorem dX12_readAsTold_138 : decode cX12_readAsTold 138 = .ok (.return_, 1) := by decide +kernel
theorem dX12_takes0_0 : decode cX12_takes0 0 = .ok (.aload_n 0, 1) := by decide +kernel
theorem dX12_takes0_1 : decode cX12_takes0 1 = .ok (.invokevirtual 163, 3) := by decide +kernel
theorem dX12_takes0_4 : decode cX12_takes0 4 = .ok (.aload_n 0, 1) := by decide +kernel
theorem dX12_takes0_5 : decode cX12_takes0 5 = .ok (.getfield 135, 3) := by decide +kernel
theorem dX12_takes0_8 : decode cX12_takes0 8 = .ok (.iconst 2, 1) := by decide +kernel
theorem dX12_takes0_9 : decode cX12_takes0 9 = .ok (.if_icmp .ne 22, 3) := by decide +kernel
theorem dX12_takes0_12 : decode cX12_takes0 12 = .ok (.aload_n 0, 1) := by decide +kernel
theorem dX12_takes0_13 : decode cX12_takes0 13 = .ok (.getfield 138, 3) := by decide +kernel
theorem dX12_takes0_16 : decode cX12_takes0 16 = .ok (.i2l, 1) := by decide +kernel
theorem dX12_takes0_17 : decode cX12_takes0 17 = .ok (.iload_n 1, 1) := by decide +kernel
theorem dX12_takes0_18 : decode cX12_takes0 18 = .ok (.i2l, 1) := by decide +kernel
theorem dX12_takes0_19 : decode cX12_takes0 19 = .ok (.iload_n 2, 1) := by decide +kernel
theorem dX12_takes0_20 : decode cX12_takes0 20 = .ok (.i2l, 1) := by decide +kernel
theorem dX12_takes0_21 : decode cX12_takes0 21 = .ok (.invokestatic 99, 3) := by decide +kernel
theorem dX12_takes0_24 : decode cX12_takes0 24 = .ok (.ifCond .eq 7, 3) := by decide +kernel
theorem dX12_takes0_27 : decode cX12_takes0 27 = .ok (.iconst 1, 1) := by decide +kernel
theorem dX12_takes0_28 : decode cX12_takes0 28 = .ok (.goto 4, 3) := by decide +kernel
theorem dX12_takes0_31 : decode cX12_takes0 31 = .ok (.iconst 0, 1) := by decide +kernel
theorem dX12_takes0_32 : decode cX12_takes0 32 = .ok (.ireturn, 1) := by decide +kernel
theorem dX12_readsCloud_0 : decode cX12_readsCloud 0 = .ok (.aload_n 0, 1) := by decide +kernel
theorem dX12_readsCloud_1 : decode cX12_readsCloud 1 = .ok (.getfield 145, 3) := by decide +kernel
theorem dX12_readsCloud_4 : decode cX12_readsCloud 4 = .ok (.istore_n 2, 1) := by decide +kernel
theorem dX12_readsCloud_5 : decode cX12_readsCloud 5 = .ok (.iload_n 2, 1) := by decide +kernel
theorem dX12_readsCloud_6 : decode cX12_readsCloud 6 = .ok (.bipush 6, 2) := by decide +kernel
theorem dX12_readsCloud_8 : decode cX12_readsCloud 8 = .ok (.if_icmp .eq 13, 3) := by decide +kernel
theorem dX12_readsCloud_11 : decode cX12_readsCloud 11 = .ok (.aload_n 0, 1) := by decide +kernel
theorem dX12_readsCloud_12 : decode cX12_readsCloud 12 = .ok (.iconst 1, 1) := by decide +kernel
theorem dX12_readsCloud_13 : decode cX12_readsCloud 13 = .ok (.bipush 99, 2) := by decide +kernel
theorem dX12_readsCloud_15 : decode cX12_readsCloud 15 = .ok (.invokevirtual 166, 3) := by decide +kernel
theorem dX12_readsCloud_18 : decode cX12_readsCloud 18 = .ok (.ifCond .ne 5, 3) := by decide +kernel
theorem dX12_readsCloud_21 : decode cX12_readsCloud 21 = .ok (.iconst 0, 1) := by decide +kernel
theorem dX12_readsCloud_22 : decode cX12_readsCloud 22 = .ok (.ireturn, 1) := by decide +kernel
theorem dX12_readsCloud_23 : decode cX12_readsCloud 23 = .ok (.aload_n 0, 1) := by decide +kernel
theorem dX12_readsCloud_24 : decode cX12_readsCloud 24 = .ok (.getfield 138, 3) := by decide +kernel
theorem dX12_readsCloud_27 : decode cX12_readsCloud 27 = .ok (.istore_n 3, 1) := by decide +kernel
theorem dX12_readsCloud_28 : decode cX12_readsCloud 28 = .ok (.aload_n 0, 1) := by decide +kernel
theorem dX12_readsCloud_29 : decode cX12_readsCloud 29 = .ok (.iconst 0, 1) := by decide +kernel
theorem dX12_readsCloud_30 : decode cX12_readsCloud 30 = .ok (.bipush 99, 2) := by decide +kernel
theorem dX12_readsCloud_32 : decode cX12_readsCloud 32 = .ok (.invokevirtual 166, 3) := by decide +kernel
theorem dX12_readsCloud_35 : decode cX12_readsCloud 35 = .ok (.ifCond .ne 5, 3) := by decide +kernel
theorem dX12_readsCloud_38 : decode cX12_readsCloud 38 = .ok (.iconst 0, 1) := by decide +kernel
theorem dX12_readsCloud_39 : decode cX12_readsCloud 39 = .ok (.ireturn, 1) := by decide +kernel
theorem dX12_readsCloud_40 : decode cX12_readsCloud 40 = .ok (.aload_n 0, 1) := by decide +kernel
theorem dX12_readsCloud_41 : decode cX12_readsCloud 41 = .ok (.getfield 35, 3) := by decide +kernel
theorem dX12_readsCloud_44 : decode cX12_readsCloud 44 = .ok (.iload_n 2, 1) := by decide +kernel
theorem dX12_readsCloud_45 : decode cX12_readsCloud 45 = .ok (.iload_n 1, 1) := by decide +kernel
theorem dX12_readsCloud_46 : decode cX12_readsCloud 46 = .ok (.iastore, 1) := by decide +kernel
theorem dX12_readsCloud_47 : decode cX12_readsCloud 47 = .ok (.aload_n 0, 1) := by decide +kernel
theorem dX12_readsCloud_48 : decode cX12_readsCloud 48 = .ok (.getfield 38, 3) := by decide +kernel
theorem dX12_readsCloud_51 : decode cX12_readsCloud 51 = .ok (.iload_n 2, 1) := by decide +kernel
theorem dX12_readsCloud_52 : decode cX12_readsCloud 52 = .ok (.iload_n 3, 1) := by decide +kernel
theorem dX12_readsCloud_53 : decode cX12_readsCloud 53 = .ok (.iastore, 1) := by decide +kernel
theorem dX12_readsCloud_54 : decode cX12_readsCloud 54 = .ok (.aload_n 0, 1) := by decide +kernel
theorem dX12_readsCloud_55 : decode cX12_readsCloud 55 = .ok (.getfield 41, 3) := by decide +kernel
theorem dX12_readsCloud_58 : decode cX12_readsCloud 58 = .ok (.iload_n 2, 1) := by decide +kernel
theorem dX12_readsCloud_59 : decode cX12_readsCloud 59 = .ok (.aload_n 0, 1) := by decide +kernel
theorem dX12_readsCloud_60 : decode cX12_readsCloud 60 = .ok (.getfield 138, 3) := by decide +kernel
theorem dX12_readsCloud_63 : decode cX12_readsCloud 63 = .ok (.iastore, 1) := by decide +kernel
theorem dX12_readsCloud_64 : decode cX12_readsCloud 64 = .ok (.iconst 0, 1) := by decide +kernel
theorem dX12_readsCloud_65 : decode cX12_readsCloud 65 = .ok (.istore 4, 2) := by decide +kernel
theorem dX12_readsCloud_67 : decode cX12_readsCloud 67 = .ok (.iload 4, 2) := by decide +kernel
theorem dX12_readsCloud_69 : decode cX12_readsCloud 69 = .ok (.bipush 6, 2) := by decide +kernel
theorem dX12_readsCloud_71 : decode cX12_readsCloud 71 = .ok (.if_icmp .ge 22, 3) := by decide +kernel
theorem dX12_readsCloud_74 : decode cX12_readsCloud 74 = .ok (.aload_n 0, 1) := by decide +kernel
theorem dX12_readsCloud_75 : decode cX12_readsCloud 75 = .ok (.getfield 44, 3) := by decide +kernel
theorem dX12_readsCloud_78 : decode cX12_readsCloud 78 = .ok (.bipush 6, 2) := by decide +kernel
theorem dX12_readsCloud_80 : decode cX12_readsCloud 80 = .ok (.iload_n 2, 1) := by decide +kernel
theorem dX12_readsCloud_81 : decode cX12_readsCloud 81 = .ok (.imul, 1) := by decide +kernel
theorem dX12_readsCloud_82 : decode cX12_readsCloud 82 = .ok (.iload 4, 2) := by decide +kernel
theorem dX12_readsCloud_84 : decode cX12_readsCloud 84 = .ok (.iadd, 1) := by decide +kernel
theorem dX12_readsCloud_85 : decode cX12_readsCloud 85 = .ok (.iconst 0, 1) := by decide +kernel
theorem dX12_readsCloud_86 : decode cX12_readsCloud 86 = .ok (.iastore, 1) := by decide +kernel
theorem dX12_readsCloud_87 : decode cX12_readsCloud 87 = .ok (.iinc 4 1, 3) := by decide +kernel
theorem dX12_readsCloud_90 : decode cX12_readsCloud 90 = .ok (.goto (-23), 3) := by decide +kernel
theorem dX12_readsCloud_93 : decode cX12_readsCloud 93 = .ok (.aload_n 0, 1) := by decide +kernel
theorem dX12_readsCloud_94 : decode cX12_readsCloud 94 = .ok (.dup, 1) := by decide +kernel
theorem dX12_readsCloud_95 : decode cX12_readsCloud 95 = .ok (.getfield 145, 3) := by decide +kernel
theorem dX12_readsCloud_98 : decode cX12_readsCloud 98 = .ok (.iconst 1, 1) := by decide +kernel
theorem dX12_readsCloud_99 : decode cX12_readsCloud 99 = .ok (.iadd, 1) := by decide +kernel
theorem dX12_readsCloud_100 : decode cX12_readsCloud 100 = .ok (.putfield 145, 3) := by decide +kernel
theorem dX12_readsCloud_103 : decode cX12_readsCloud 103 = .ok (.iconst 1, 1) := by decide +kernel
theorem dX12_readsCloud_104 : decode cX12_readsCloud 104 = .ok (.ireturn, 1) := by decide +kernel
theorem dX12_readsStain_0 : decode cX12_readsStain 0 = .ok (.aload_n 0, 1) := by decide +kernel
theorem dX12_readsStain_1 : decode cX12_readsStain 1 = .ok (.iconst 0, 1) := by decide +kernel
theorem dX12_readsStain_2 : decode cX12_readsStain 2 = .ok (.aload_n 0, 1) := by decide +kernel
theorem dX12_readsStain_3 : decode cX12_readsStain 3 = .ok (.getfield 145, 3) := by decide +kernel
theorem dX12_readsStain_6 : decode cX12_readsStain 6 = .ok (.iconst 1, 1) := by decide +kernel
theorem dX12_readsStain_7 : decode cX12_readsStain 7 = .ok (.isub, 1) := by decide +kernel
theorem dX12_readsStain_8 : decode cX12_readsStain 8 = .ok (.invokevirtual 166, 3) := by decide +kernel
theorem dX12_readsStain_11 : decode cX12_readsStain 11 = .ok (.ifCond .ne 5, 3) := by decide +kernel
theorem dX12_readsStain_14 : decode cX12_readsStain 14 = .ok (.iconst 0, 1) := by decide +kernel
theorem dX12_readsStain_15 : decode cX12_readsStain 15 = .ok (.ireturn, 1) := by decide +kernel
theorem dX12_readsStain_16 : decode cX12_readsStain 16 = .ok (.aload_n 0, 1) := by decide +kernel
theorem dX12_readsStain_17 : decode cX12_readsStain 17 = .ok (.getfield 138, 3) := by decide +kernel
theorem dX12_readsStain_20 : decode cX12_readsStain 20 = .ok (.istore_n 1, 1) := by decide +kernel
theorem dX12_readsStain_21 : decode cX12_readsStain 21 = .ok (.aload_n 0, 1) := by decide +kernel
theorem dX12_readsStain_22 : decode cX12_readsStain 22 = .ok (.iconst 0, 1) := by decide +kernel
theorem dX12_readsStain_23 : decode cX12_readsStain 23 = .ok (.iconst 5, 1) := by decide +kernel
theorem dX12_readsStain_24 : decode cX12_readsStain 24 = .ok (.invokevirtual 166, 3) := by decide +kernel
theorem dX12_readsStain_27 : decode cX12_readsStain 27 = .ok (.ifCond .ne 5, 3) := by decide +kernel
theorem dX12_readsStain_30 : decode cX12_readsStain 30 = .ok (.iconst 0, 1) := by decide +kernel
theorem dX12_readsStain_31 : decode cX12_readsStain 31 = .ok (.ireturn, 1) := by decide +kernel
theorem dX12_readsStain_32 : decode cX12_readsStain 32 = .ok (.aload_n 0, 1) := by decide +kernel
theorem dX12_readsStain_33 : decode cX12_readsStain 33 = .ok (.getfield 138, 3) := by decide +kernel
theorem dX12_readsStain_36 : decode cX12_readsStain 36 = .ok (.istore_n 2, 1) := by decide +kernel
theorem dX12_readsStain_37 : decode cX12_readsStain 37 = .ok (.aload_n 0, 1) := by decide +kernel
theorem dX12_readsStain_38 : decode cX12_readsStain 38 = .ok (.iconst 0, 1) := by decide +kernel
theorem dX12_readsStain_39 : decode cX12_readsStain 39 = .ok (.bipush 9, 2) := by decide +kernel
theorem dX12_readsStain_41 : decode cX12_readsStain 41 = .ok (.invokevirtual 166, 3) := by decide +kernel
theorem dX12_readsStain_44 : decode cX12_readsStain 44 = .ok (.istore_n 3, 1) := by decide +kernel
theorem dX12_readsStain_45 : decode cX12_readsStain 45 = .ok (.aload_n 0, 1) := by decide +kernel
theorem dX12_readsStain_46 : decode cX12_readsStain 46 = .ok (.getfield 44, 3) := by decide +kernel
theorem dX12_readsStain_49 : decode cX12_readsStain 49 = .ok (.bipush 6, 2) := by decide +kernel
theorem dX12_readsStain_51 : decode cX12_readsStain 51 = .ok (.iload_n 1, 1) := by decide +kernel
theorem dX12_readsStain_52 : decode cX12_readsStain 52 = .ok (.imul, 1) := by decide +kernel
theorem dX12_readsStain_53 : decode cX12_readsStain 53 = .ok (.iload_n 2, 1) := by decide +kernel
theorem dX12_readsStain_54 : decode cX12_readsStain 54 = .ok (.iadd, 1) := by decide +kernel
theorem dX12_readsStain_55 : decode cX12_readsStain 55 = .ok (.iload_n 3, 1) := by decide +kernel
theorem dX12_readsStain_56 : decode cX12_readsStain 56 = .ok (.ifCond .eq 10, 3) := by decide +kernel
theorem dX12_readsStain_59 : decode cX12_readsStain 59 = .ok (.aload_n 0, 1) := by decide +kernel
theorem dX12_readsStain_60 : decode cX12_readsStain 60 = .ok (.getfield 138, 3) := by decide +kernel
theorem dX12_readsStain_63 : decode cX12_readsStain 63 = .ok (.goto 4, 3) := by decide +kernel
theorem dX12_readsStain_66 : decode cX12_readsStain 66 = .ok (.iconst 0, 1) := by decide +kernel
theorem dX12_readsStain_67 : decode cX12_readsStain 67 = .ok (.iastore, 1) := by decide +kernel
theorem dX12_readsStain_68 : decode cX12_readsStain 68 = .ok (.iload_n 3, 1) := by decide +kernel
theorem dX12_readsStain_69 : decode cX12_readsStain 69 = .ok (.ireturn, 1) := by decide +kernel
theorem dX12_readsWasher_0 : decode cX12_readsWasher 0 = .ok (.aload_n 0, 1) := by decide +kernel
theorem dX12_readsWasher_1 : decode cX12_readsWasher 1 = .ok (.getfield 148, 3) := by decide +kernel
theorem dX12_readsWasher_4 : decode cX12_readsWasher 4 = .ok (.iconst 3, 1) := by decide +kernel
theorem dX12_readsWasher_5 : decode cX12_readsWasher 5 = .ok (.if_icmp .eq 12, 3) := by decide +kernel
theorem dX12_readsWasher_8 : decode cX12_readsWasher 8 = .ok (.aload_n 0, 1) := by decide +kernel
theorem dX12_readsWasher_9 : decode cX12_readsWasher 9 = .ok (.iconst 1, 1) := by decide +kernel
theorem dX12_readsWasher_10 : decode cX12_readsWasher 10 = .ok (.iconst 3, 1) := by decide +kernel
theorem dX12_readsWasher_11 : decode cX12_readsWasher 11 = .ok (.invokevirtual 166, 3) := by decide +kernel
theorem dX12_readsWasher_14 : decode cX12_readsWasher 14 = .ok (.ifCond .ne 5, 3) := by decide +kernel
theorem dX12_readsWasher_17 : decode cX12_readsWasher 17 = .ok (.iconst 0, 1) := by decide +kernel
theorem dX12_readsWasher_18 : decode cX12_readsWasher 18 = .ok (.ireturn, 1) := by decide +kernel
theorem dX12_readsWasher_19 : decode cX12_readsWasher 19 = .ok (.aload_n 0, 1) := by decide +kernel
theorem dX12_readsWasher_20 : decode cX12_readsWasher 20 = .ok (.getfield 47, 3) := by decide +kernel
theorem dX12_readsWasher_23 : decode cX12_readsWasher 23 = .ok (.aload_n 0, 1) := by decide +kernel
theorem dX12_readsWasher_24 : decode cX12_readsWasher 24 = .ok (.getfield 148, 3) := by decide +kernel
theorem dX12_readsWasher_27 : decode cX12_readsWasher 27 = .ok (.aload_n 0, 1) := by decide +kernel
theorem dX12_readsWasher_28 : decode cX12_readsWasher 28 = .ok (.getfield 138, 3) := by decide +kernel
theorem dX12_readsWasher_31 : decode cX12_readsWasher 31 = .ok (.iastore, 1) := by decide +kernel
theorem dX12_readsWasher_32 : decode cX12_readsWasher 32 = .ok (.aload_n 0, 1) := by decide +kernel
theorem dX12_readsWasher_33 : decode cX12_readsWasher 33 = .ok (.dup, 1) := by decide +kernel
theorem dX12_readsWasher_34 : decode cX12_readsWasher 34 = .ok (.getfield 148, 3) := by decide +kernel
theorem dX12_readsWasher_37 : decode cX12_readsWasher 37 = .ok (.iconst 1, 1) := by decide +kernel
theorem dX12_readsWasher_38 : decode cX12_readsWasher 38 = .ok (.iadd, 1) := by decide +kernel
theorem dX12_readsWasher_39 : decode cX12_readsWasher 39 = .ok (.putfield 148, 3) := by decide +kernel
theorem dX12_readsWasher_42 : decode cX12_readsWasher 42 = .ok (.iconst 1, 1) := by decide +kernel
theorem dX12_readsWasher_43 : decode cX12_readsWasher 43 = .ok (.ireturn, 1) := by decide +kernel
theorem dX12_readsSummer_0 : decode cX12_readsSummer 0 = .ok (.aload_n 0, 1) := by decide +kernel
theorem dX12_readsSummer_1 : decode cX12_readsSummer 1 = .ok (.iconst 0, 1) := by decide +kernel
theorem dX12_readsSummer_2 : decode cX12_readsSummer 2 = .ok (.putfield 145, 3) := by decide +kernel
theorem dX12_readsSummer_5 : decode cX12_readsSummer 5 = .ok (.aload_n 0, 1) := by decide +kernel
theorem dX12_readsSummer_6 : decode cX12_readsSummer 6 = .ok (.iconst 0, 1) := by decide +kernel
theorem dX12_readsSummer_7 : decode cX12_readsSummer 7 = .ok (.putfield 148, 3) := by decide +kernel
theorem dX12_readsSummer_10 : decode cX12_readsSummer 10 = .ok (.aload_n 0, 1) := by decide +kernel
theorem dX12_readsSummer_11 : decode cX12_readsSummer 11 = .ok (.iconst 0, 1) := by decide +kernel
theorem dX12_readsSummer_12 : decode cX12_readsSummer 12 = .ok (.putfield 154, 3) := by decide +kernel
theorem dX12_readsSummer_15 : decode cX12_readsSummer 15 = .ok (.aload_n 0, 1) := by decide +kernel
theorem dX12_readsSummer_16 : decode cX12_readsSummer 16 = .ok (.bipush 8, 2) := by decide +kernel
theorem dX12_readsSummer_18 : decode cX12_readsSummer 18 = .ok (.putfield 157, 3) := by decide +kernel
theorem dX12_readsSummer_21 : decode cX12_readsSummer 21 = .ok (.iconst 1, 1) := by decide +kernel
theorem dX12_readsSummer_22 : decode cX12_readsSummer 22 = .ok (.ireturn, 1) := by decide +kernel
theorem dX12_readsSoap_0 : decode cX12_readsSoap 0 = .ok (.aload_n 0, 1) := by decide +kernel
theorem dX12_readsSoap_1 : decode cX12_readsSoap 1 = .ok (.iconst 0, 1) := by decide +kernel
theorem dX12_readsSoap_2 : decode cX12_readsSoap 2 = .ok (.bipush 99, 2) := by decide +kernel
theorem dX12_readsSoap_4 : decode cX12_readsSoap 4 = .ok (.invokevirtual 166, 3) := by decide +kernel
theorem dX12_readsSoap_7 : decode cX12_readsSoap 7 = .ok (.istore_n 1, 1) := by decide +kernel
theorem dX12_readsSoap_8 : decode cX12_readsSoap 8 = .ok (.aload_n 0, 1) := by decide +kernel
theorem dX12_readsSoap_9 : decode cX12_readsSoap 9 = .ok (.aload_n 0, 1) := by decide +kernel
theorem dX12_readsSoap_10 : decode cX12_readsSoap 10 = .ok (.getfield 138, 3) := by decide +kernel
theorem dX12_readsSoap_13 : decode cX12_readsSoap 13 = .ok (.putfield 154, 3) := by decide +kernel
theorem dX12_readsSoap_16 : decode cX12_readsSoap 16 = .ok (.iload_n 1, 1) := by decide +kernel
theorem dX12_readsSoap_17 : decode cX12_readsSoap 17 = .ok (.ireturn, 1) := by decide +kernel
theorem dX12_readsEye_0 : decode cX12_readsEye 0 = .ok (.aload_n 0, 1) := by decide +kernel
theorem dX12_readsEye_1 : decode cX12_readsEye 1 = .ok (.iconst 1, 1) := by decide +kernel
theorem dX12_readsEye_2 : decode cX12_readsEye 2 = .ok (.bipush 99, 2) := by decide +kernel
theorem dX12_readsEye_4 : decode cX12_readsEye 4 = .ok (.invokevirtual 166, 3) := by decide +kernel
theorem dX12_readsEye_7 : decode cX12_readsEye 7 = .ok (.istore_n 1, 1) := by decide +kernel
theorem dX12_readsEye_8 : decode cX12_readsEye 8 = .ok (.aload_n 0, 1) := by decide +kernel
theorem dX12_readsEye_9 : decode cX12_readsEye 9 = .ok (.aload_n 0, 1) := by decide +kernel
theorem dX12_readsEye_10 : decode cX12_readsEye 10 = .ok (.getfield 138, 3) := by decide +kernel
theorem dX12_readsEye_13 : decode cX12_readsEye 13 = .ok (.putfield 157, 3) := by decide +kernel
theorem dX12_readsEye_16 : decode cX12_readsEye 16 = .ok (.iload_n 1, 1) := by decide +kernel
theorem dX12_readsEye_17 : decode cX12_readsEye 17 = .ok (.ireturn, 1) := by decide +kernel
theorem dX12_readsClause_0 : decode cX12_readsClause 0 = .ok (.aload_n 0, 1) := by decide +kernel
theorem dX12_readsClause_1 : decode cX12_readsClause 1 = .ok (.invokevirtual 170, 3) := by decide +kernel
theorem dX12_readsClause_4 : decode cX12_readsClause 4 = .ok (.lstore_n 1, 1) := by decide +kernel
theorem dX12_readsClause_5 : decode cX12_readsClause 5 = .ok (.lload_n 1, 1) := by decide +kernel
theorem dX12_readsClause_6 : decode cX12_readsClause 6 = .ok (.ldc2_w 174, 3) := by decide +kernel
theorem dX12_readsClause_9 : decode cX12_readsClause 9 = .ok (.lcmp, 1) := by decide +kernel
theorem dX12_readsClause_10 : decode cX12_readsClause 10 = .ok (.ifCond .eq 27, 3) := by decide +kernel
theorem dX12_readsClause_13 : decode cX12_readsClause 13 = .ok (.lload_n 1, 1) := by decide +kernel
theorem dX12_readsClause_14 : decode cX12_readsClause 14 = .ok (.ldc2_w 176, 3) := by decide +kernel
theorem dX12_readsClause_17 : decode cX12_readsClause 17 = .ok (.lcmp, 1) := by decide +kernel
theorem dX12_readsClause_18 : decode cX12_readsClause 18 = .ok (.ifCond .eq 19, 3) := by decide +kernel
theorem dX12_readsClause_21 : decode cX12_readsClause 21 = .ok (.lload_n 1, 1) := by decide +kernel
theorem dX12_readsClause_22 : decode cX12_readsClause 22 = .ok (.ldc2_w 178, 3) := by decide +kernel
theorem dX12_readsClause_25 : decode cX12_readsClause 25 = .ok (.lcmp, 1) := by decide +kernel
theorem dX12_readsClause_26 : decode cX12_readsClause 26 = .ok (.ifCond .eq 11, 3) := by decide +kernel
theorem dX12_readsClause_29 : decode cX12_readsClause 29 = .ok (.lload_n 1, 1) := by decide +kernel
theorem dX12_readsClause_30 : decode cX12_readsClause 30 = .ok (.ldc2_w 180, 3) := by decide +kernel
theorem dX12_readsClause_33 : decode cX12_readsClause 33 = .ok (.lcmp, 1) := by decide +kernel
theorem dX12_readsClause_34 : decode cX12_readsClause 34 = .ok (.ifCond .ne 45, 3) := by decide +kernel
theorem dX12_readsClause_37 : decode cX12_readsClause 37 = .ok (.aload_n 0, 1) := by decide +kernel
theorem dX12_readsClause_38 : decode cX12_readsClause 38 = .ok (.lload_n 1, 1) := by decide +kernel
theorem dX12_readsClause_39 : decode cX12_readsClause 39 = .ok (.ldc2_w 174, 3) := by decide +kernel
theorem dX12_readsClause_42 : decode cX12_readsClause 42 = .ok (.lcmp, 1) := by decide +kernel
theorem dX12_readsClause_43 : decode cX12_readsClause 43 = .ok (.ifCond .ne 7, 3) := by decide +kernel
theorem dX12_readsClause_46 : decode cX12_readsClause 46 = .ok (.iconst 0, 1) := by decide +kernel
theorem dX12_readsClause_47 : decode cX12_readsClause 47 = .ok (.goto 28, 3) := by decide +kernel
theorem dX12_readsClause_50 : decode cX12_readsClause 50 = .ok (.lload_n 1, 1) := by decide +kernel
theorem dX12_readsClause_51 : decode cX12_readsClause 51 = .ok (.ldc2_w 176, 3) := by decide +kernel
theorem dX12_readsClause_54 : decode cX12_readsClause 54 = .ok (.lcmp, 1) := by decide +kernel
theorem dX12_readsClause_55 : decode cX12_readsClause 55 = .ok (.ifCond .ne 7, 3) := by decide +kernel
theorem dX12_readsClause_58 : decode cX12_readsClause 58 = .ok (.iconst 1, 1) := by decide +kernel
theorem dX12_readsClause_59 : decode cX12_readsClause 59 = .ok (.goto 16, 3) := by decide +kernel
theorem dX12_readsClause_62 : decode cX12_readsClause 62 = .ok (.lload_n 1, 1) := by decide +kernel
theorem dX12_readsClause_63 : decode cX12_readsClause 63 = .ok (.ldc2_w 178, 3) := by decide +kernel
theorem dX12_readsClause_66 : decode cX12_readsClause 66 = .ok (.lcmp, 1) := by decide +kernel
theorem dX12_readsClause_67 : decode cX12_readsClause 67 = .ok (.ifCond .ne 7, 3) := by decide +kernel
theorem dX12_readsClause_70 : decode cX12_readsClause 70 = .ok (.iconst 2, 1) := by decide +kernel
theorem dX12_readsClause_71 : decode cX12_readsClause 71 = .ok (.goto 4, 3) := by decide +kernel
theorem dX12_readsClause_74 : decode cX12_readsClause 74 = .ok (.iconst 3, 1) := by decide +kernel
theorem dX12_readsClause_75 : decode cX12_readsClause 75 = .ok (.invokevirtual 182, 3) := by decide +kernel
theorem dX12_readsClause_78 : decode cX12_readsClause 78 = .ok (.ireturn, 1) := by decide +kernel
theorem dX12_readsClause_79 : decode cX12_readsClause 79 = .ok (.lload_n 1, 1) := by decide +kernel
theorem dX12_readsClause_80 : decode cX12_readsClause 80 = .ok (.ldc2_w 185, 3) := by decide +kernel
theorem dX12_readsClause_83 : decode cX12_readsClause 83 = .ok (.lcmp, 1) := by decide +kernel
theorem dX12_readsClause_84 : decode cX12_readsClause 84 = .ok (.ifCond .ne 8, 3) := by decide +kernel
theorem dX12_readsClause_87 : decode cX12_readsClause 87 = .ok (.aload_n 0, 1) := by decide +kernel
theorem dX12_readsClause_88 : decode cX12_readsClause 88 = .ok (.invokevirtual 187, 3) := by decide +kernel
theorem dX12_readsClause_91 : decode cX12_readsClause 91 = .ok (.ireturn, 1) := by decide +kernel
theorem dX12_readsClause_92 : decode cX12_readsClause 92 = .ok (.lload_n 1, 1) := by decide +kernel
theorem dX12_readsClause_93 : decode cX12_readsClause 93 = .ok (.ldc2_w 191, 3) := by decide +kernel
theorem dX12_readsClause_96 : decode cX12_readsClause 96 = .ok (.lcmp, 1) := by decide +kernel
theorem dX12_readsClause_97 : decode cX12_readsClause 97 = .ok (.ifCond .ne 8, 3) := by decide +kernel
theorem dX12_readsClause_100 : decode cX12_readsClause 100 = .ok (.aload_n 0, 1) := by decide +kernel
theorem dX12_readsClause_101 : decode cX12_readsClause 101 = .ok (.invokevirtual 193, 3) := by decide +kernel
theorem dX12_readsClause_104 : decode cX12_readsClause 104 = .ok (.ireturn, 1) := by decide +kernel
theorem dX12_readsClause_105 : decode cX12_readsClause 105 = .ok (.lload_n 1, 1) := by decide +kernel
theorem dX12_readsClause_106 : decode cX12_readsClause 106 = .ok (.ldc2_w 196, 3) := by decide +kernel
theorem dX12_readsClause_109 : decode cX12_readsClause 109 = .ok (.lcmp, 1) := by decide +kernel
theorem dX12_readsClause_110 : decode cX12_readsClause 110 = .ok (.ifCond .ne 8, 3) := by decide +kernel
theorem dX12_readsClause_113 : decode cX12_readsClause 113 = .ok (.aload_n 0, 1) := by decide +kernel
theorem dX12_readsClause_114 : decode cX12_readsClause 114 = .ok (.invokevirtual 198, 3) := by decide +kernel
theorem dX12_readsClause_117 : decode cX12_readsClause 117 = .ok (.ireturn, 1) := by decide +kernel
theorem dX12_readsClause_118 : decode cX12_readsClause 118 = .ok (.lload_n 1, 1) := by decide +kernel
theorem dX12_readsClause_119 : decode cX12_readsClause 119 = .ok (.ldc2_w 201, 3) := by decide +kernel
theorem dX12_readsClause_122 : decode cX12_readsClause 122 = .ok (.lcmp, 1) := by decide +kernel
theorem dX12_readsClause_123 : decode cX12_readsClause 123 = .ok (.ifCond .ne 10, 3) := by decide +kernel
theorem dX12_readsClause_126 : decode cX12_readsClause 126 = .ok (.aload_n 0, 1) := by decide +kernel
theorem dX12_readsClause_127 : decode cX12_readsClause 127 = .ok (.invokevirtual 203, 3) := by decide +kernel
theorem dX12_readsClause_130 : decode cX12_readsClause 130 = .ok (.goto 23, 3) := by decide +kernel
theorem dX12_readsClause_133 : decode cX12_readsClause 133 = .ok (.lload_n 1, 1) := by decide +kernel
theorem dX12_readsClause_134 : decode cX12_readsClause 134 = .ok (.ldc2_w 206, 3) := by decide +kernel
theorem dX12_readsClause_137 : decode cX12_readsClause 137 = .ok (.lcmp, 1) := by decide +kernel
theorem dX12_readsClause_138 : decode cX12_readsClause 138 = .ok (.ifCond .ne 14, 3) := by decide +kernel
theorem dX12_readsClause_141 : decode cX12_readsClause 141 = .ok (.aload_n 0, 1) := by decide +kernel
theorem dX12_readsClause_142 : decode cX12_readsClause 142 = .ok (.invokevirtual 208, 3) := by decide +kernel
theorem dX12_readsClause_145 : decode cX12_readsClause 145 = .ok (.ifCond .eq 7, 3) := by decide +kernel
theorem dX12_readsClause_148 : decode cX12_readsClause 148 = .ok (.iconst 1, 1) := by decide +kernel
theorem dX12_readsClause_149 : decode cX12_readsClause 149 = .ok (.goto 4, 3) := by decide +kernel
theorem dX12_readsClause_152 : decode cX12_readsClause 152 = .ok (.iconst 0, 1) := by decide +kernel
theorem dX12_readsClause_153 : decode cX12_readsClause 153 = .ok (.ireturn, 1) := by decide +kernel
theorem dX12_readsAll_0 : decode cX12_readsAll 0 = .ok (.aload_n 0, 1) := by decide +kernel
theorem dX12_readsAll_1 : decode cX12_readsAll 1 = .ok (.invokevirtual 211, 3) := by decide +kernel
theorem dX12_readsAll_4 : decode cX12_readsAll 4 = .ok (.aload_n 0, 1) := by decide +kernel
theorem dX12_readsAll_5 : decode cX12_readsAll 5 = .ok (.iconst 0, 1) := by decide +kernel
theorem dX12_readsAll_6 : decode cX12_readsAll 6 = .ok (.putfield 119, 3) := by decide +kernel
theorem dX12_readsAll_9 : decode cX12_readsAll 9 = .ok (.aload_n 0, 1) := by decide +kernel
theorem dX12_readsAll_10 : decode cX12_readsAll 10 = .ok (.invokevirtual 163, 3) := by decide +kernel
theorem dX12_readsAll_13 : decode cX12_readsAll 13 = .ok (.iconst 1, 1) := by decide +kernel
theorem dX12_readsAll_14 : decode cX12_readsAll 14 = .ok (.istore_n 1, 1) := by decide +kernel
theorem dX12_readsAll_15 : decode cX12_readsAll 15 = .ok (.iconst 1, 1) := by decide +kernel
theorem dX12_readsAll_16 : decode cX12_readsAll 16 = .ok (.istore_n 2, 1) := by decide +kernel
theorem dX12_readsAll_17 : decode cX12_readsAll 17 = .ok (.iload_n 1, 1) := by decide +kernel
theorem dX12_readsAll_18 : decode cX12_readsAll 18 = .ok (.ifCond .eq 115, 3) := by decide +kernel
theorem dX12_readsAll_21 : decode cX12_readsAll 21 = .ok (.iload_n 2, 1) := by decide +kernel
theorem dX12_readsAll_22 : decode cX12_readsAll 22 = .ok (.ifCond .eq 111, 3) := by decide +kernel
theorem dX12_readsAll_25 : decode cX12_readsAll 25 = .ok (.aload_n 0, 1) := by decide +kernel
theorem dX12_readsAll_26 : decode cX12_readsAll 26 = .ok (.getfield 135, 3) := by decide +kernel
theorem dX12_readsAll_29 : decode cX12_readsAll 29 = .ok (.iconst 1, 1) := by decide +kernel
theorem dX12_readsAll_30 : decode cX12_readsAll 30 = .ok (.if_icmp .ne 14, 3) := by decide +kernel
theorem dX12_readsAll_33 : decode cX12_readsAll 33 = .ok (.aload_n 0, 1) := by decide +kernel
theorem dX12_readsAll_34 : decode cX12_readsAll 34 = .ok (.invokevirtual 214, 3) := by decide +kernel
theorem dX12_readsAll_37 : decode cX12_readsAll 37 = .ok (.ifCond .eq 7, 3) := by decide +kernel
theorem dX12_readsAll_40 : decode cX12_readsAll 40 = .ok (.iconst 1, 1) := by decide +kernel
theorem dX12_readsAll_41 : decode cX12_readsAll 41 = .ok (.goto 4, 3) := by decide +kernel
theorem dX12_readsAll_44 : decode cX12_readsAll 44 = .ok (.iconst 0, 1) := by decide +kernel
theorem dX12_readsAll_45 : decode cX12_readsAll 45 = .ok (.istore_n 1, 1) := by decide +kernel
theorem dX12_readsAll_46 : decode cX12_readsAll 46 = .ok (.iload_n 1, 1) := by decide +kernel
theorem dX12_readsAll_47 : decode cX12_readsAll 47 = .ok (.ifCond .eq (-30), 3) := by decide +kernel
theorem dX12_readsAll_50 : decode cX12_readsAll 50 = .ok (.aload_n 0, 1) := by decide +kernel
theorem dX12_readsAll_51 : decode cX12_readsAll 51 = .ok (.dup, 1) := by decide +kernel
theorem dX12_readsAll_52 : decode cX12_readsAll 52 = .ok (.getfield 160, 3) := by decide +kernel
theorem dX12_readsAll_55 : decode cX12_readsAll 55 = .ok (.iconst 1, 1) := by decide +kernel
theorem dX12_readsAll_56 : decode cX12_readsAll 56 = .ok (.iadd, 1) := by decide +kernel
theorem dX12_readsAll_57 : decode cX12_readsAll 57 = .ok (.putfield 160, 3) := by decide +kernel
theorem dX12_readsAll_60 : decode cX12_readsAll 60 = .ok (.aload_n 0, 1) := by decide +kernel
theorem dX12_readsAll_61 : decode cX12_readsAll 61 = .ok (.invokevirtual 163, 3) := by decide +kernel
theorem dX12_readsAll_64 : decode cX12_readsAll 64 = .ok (.aload_n 0, 1) := by decide +kernel
theorem dX12_readsAll_65 : decode cX12_readsAll 65 = .ok (.getfield 135, 3) := by decide +kernel
theorem dX12_readsAll_68 : decode cX12_readsAll 68 = .ok (.ifCond .eq 7, 3) := by decide +kernel
theorem dX12_readsAll_71 : decode cX12_readsAll 71 = .ok (.iconst 1, 1) := by decide +kernel
theorem dX12_readsAll_72 : decode cX12_readsAll 72 = .ok (.goto 4, 3) := by decide +kernel
theorem dX12_readsAll_75 : decode cX12_readsAll 75 = .ok (.iconst 0, 1) := by decide +kernel
theorem dX12_readsAll_76 : decode cX12_readsAll 76 = .ok (.istore_n 2, 1) := by decide +kernel
theorem dX12_readsAll_77 : decode cX12_readsAll 77 = .ok (.iload_n 2, 1) := by decide +kernel
theorem dX12_readsAll_78 : decode cX12_readsAll 78 = .ok (.ifCond .eq 34, 3) := by decide +kernel
theorem dX12_readsAll_81 : decode cX12_readsAll 81 = .ok (.aload_n 0, 1) := by decide +kernel
theorem dX12_readsAll_82 : decode cX12_readsAll 82 = .ok (.getfield 135, 3) := by decide +kernel
theorem dX12_readsAll_85 : decode cX12_readsAll 85 = .ok (.iconst 3, 1) := by decide +kernel
theorem dX12_readsAll_86 : decode cX12_readsAll 86 = .ok (.if_icmp .ne 30, 3) := by decide +kernel
theorem dX12_readsAll_89 : decode cX12_readsAll 89 = .ok (.aload_n 0, 1) := by decide +kernel
theorem dX12_readsAll_90 : decode cX12_readsAll 90 = .ok (.getfield 32, 3) := by decide +kernel
theorem dX12_readsAll_93 : decode cX12_readsAll 93 = .ok (.aload_n 0, 1) := by decide +kernel
theorem dX12_readsAll_94 : decode cX12_readsAll 94 = .ok (.getfield 122, 3) := by decide +kernel
theorem dX12_readsAll_97 : decode cX12_readsAll 97 = .ok (.iaload, 1) := by decide +kernel
theorem dX12_readsAll_98 : decode cX12_readsAll 98 = .ok (.bipush 59, 2) := by decide +kernel
theorem dX12_readsAll_100 : decode cX12_readsAll 100 = .ok (.if_icmp .ne 16, 3) := by decide +kernel
theorem dX12_readsAll_103 : decode cX12_readsAll 103 = .ok (.aload_n 0, 1) := by decide +kernel
theorem dX12_readsAll_104 : decode cX12_readsAll 104 = .ok (.getfield 160, 3) := by decide +kernel
theorem dX12_readsAll_107 : decode cX12_readsAll 107 = .ok (.bipush 20, 2) := by decide +kernel
theorem dX12_readsAll_109 : decode cX12_readsAll 109 = .ok (.if_icmp .ge 7, 3) := by decide +kernel
theorem dX12_readsAll_112 : decode cX12_readsAll 112 = .ok (.iconst 1, 1) := by decide +kernel
theorem dX12_readsAll_113 : decode cX12_readsAll 113 = .ok (.goto 4, 3) := by decide +kernel
theorem dX12_readsAll_116 : decode cX12_readsAll 116 = .ok (.iconst 0, 1) := by decide +kernel
theorem dX12_readsAll_117 : decode cX12_readsAll 117 = .ok (.istore_n 1, 1) := by decide +kernel
theorem dX12_readsAll_118 : decode cX12_readsAll 118 = .ok (.iload_n 1, 1) := by decide +kernel
theorem dX12_readsAll_119 : decode cX12_readsAll 119 = .ok (.ifCond .eq (-102), 3) := by decide +kernel
theorem dX12_readsAll_122 : decode cX12_readsAll 122 = .ok (.iload_n 2, 1) := by decide +kernel
theorem dX12_readsAll_123 : decode cX12_readsAll 123 = .ok (.ifCond .eq (-106), 3) := by decide +kernel
theorem dX12_readsAll_126 : decode cX12_readsAll 126 = .ok (.aload_n 0, 1) := by decide +kernel
theorem dX12_readsAll_127 : decode cX12_readsAll 127 = .ok (.invokevirtual 163, 3) := by decide +kernel
theorem dX12_readsAll_130 : decode cX12_readsAll 130 = .ok (.goto (-113), 3) := by decide +kernel
theorem dX12_readsAll_133 : decode cX12_readsAll 133 = .ok (.iload_n 1, 1) := by decide +kernel
theorem dX12_readsAll_134 : decode cX12_readsAll 134 = .ok (.ireturn, 1) := by decide +kernel
theorem dX12_fault_0 : decode cX12_fault 0 = .ok (.aload_n 0, 1) := by decide +kernel
theorem dX12_fault_1 : decode cX12_fault 1 = .ok (.invokevirtual 217, 3) := by decide +kernel
theorem dX12_fault_4 : decode cX12_fault 4 = .ok (.ifCond .eq 7, 3) := by decide +kernel
theorem dX12_fault_7 : decode cX12_fault 7 = .ok (.iconst (-1), 1) := by decide +kernel
theorem dX12_fault_8 : decode cX12_fault 8 = .ok (.goto 7, 3) := by decide +kernel
theorem dX12_fault_11 : decode cX12_fault 11 = .ok (.aload_n 0, 1) := by decide +kernel
theorem dX12_fault_12 : decode cX12_fault 12 = .ok (.getfield 122, 3) := by decide +kernel
theorem dX12_fault_15 : decode cX12_fault 15 = .ok (.ireturn, 1) := by decide +kernel
theorem dX12_begin_0 : decode cX12_begin 0 = .ok (.iconst 0, 1) := by decide +kernel
theorem dX12_begin_1 : decode cX12_begin 1 = .ok (.istore_n 1, 1) := by decide +kernel
theorem dX12_begin_2 : decode cX12_begin 2 = .ok (.iload_n 1, 1) := by decide +kernel
theorem dX12_begin_3 : decode cX12_begin 3 = .ok (.bipush 101, 2) := by decide +kernel
theorem dX12_begin_5 : decode cX12_begin 5 = .ok (.if_icmp .ge 16, 3) := by decide +kernel
theorem dX12_begin_8 : decode cX12_begin 8 = .ok (.aload_n 0, 1) := by decide +kernel
theorem dX12_begin_9 : decode cX12_begin 9 = .ok (.getfield 29, 3) := by decide +kernel
theorem dX12_begin_12 : decode cX12_begin 12 = .ok (.iload_n 1, 1) := by decide +kernel
theorem dX12_begin_13 : decode cX12_begin 13 = .ok (.iconst 0, 1) := by decide +kernel
theorem dX12_begin_14 : decode cX12_begin 14 = .ok (.iastore, 1) := by decide +kernel
theorem dX12_begin_15 : decode cX12_begin 15 = .ok (.iinc 1 1, 3) := by decide +kernel
theorem dX12_begin_18 : decode cX12_begin 18 = .ok (.goto (-16), 3) := by decide +kernel
theorem dX12_begin_21 : decode cX12_begin 21 = .ok (.iconst 0, 1) := by decide +kernel
theorem dX12_begin_22 : decode cX12_begin 22 = .ok (.istore_n 1, 1) := by decide +kernel
theorem dX12_begin_23 : decode cX12_begin 23 = .ok (.iload_n 1, 1) := by decide +kernel
theorem dX12_begin_24 : decode cX12_begin 24 = .ok (.aload_n 0, 1) := by decide +kernel
theorem dX12_begin_25 : decode cX12_begin 25 = .ok (.getfield 96, 3) := by decide +kernel
theorem dX12_begin_28 : decode cX12_begin 28 = .ok (.if_icmp .ge 23, 3) := by decide +kernel
theorem dX12_begin_31 : decode cX12_begin 31 = .ok (.aload_n 0, 1) := by decide +kernel
theorem dX12_begin_32 : decode cX12_begin 32 = .ok (.getfield 29, 3) := by decide +kernel
theorem dX12_begin_35 : decode cX12_begin 35 = .ok (.iconst 0, 1) := by decide +kernel
theorem dX12_begin_36 : decode cX12_begin 36 = .ok (.iload_n 1, 1) := by decide +kernel
theorem dX12_begin_37 : decode cX12_begin 37 = .ok (.iadd, 1) := by decide +kernel
theorem dX12_begin_38 : decode cX12_begin 38 = .ok (.aload_n 0, 1) := by decide +kernel
theorem dX12_begin_39 : decode cX12_begin 39 = .ok (.getfield 13, 3) := by decide +kernel
theorem dX12_begin_42 : decode cX12_begin 42 = .ok (.iload_n 1, 1) := by decide +kernel
theorem dX12_begin_43 : decode cX12_begin 43 = .ok (.iaload, 1) := by decide +kernel
theorem dX12_begin_44 : decode cX12_begin 44 = .ok (.iastore, 1) := by decide +kernel
theorem dX12_begin_45 : decode cX12_begin 45 = .ok (.iinc 1 1, 3) := by decide +kernel
theorem dX12_begin_48 : decode cX12_begin 48 = .ok (.goto (-25), 3) := by decide +kernel
theorem dX12_begin_51 : decode cX12_begin 51 = .ok (.iconst 0, 1) := by decide +kernel
theorem dX12_begin_52 : decode cX12_begin 52 = .ok (.istore_n 1, 1) := by decide +kernel
theorem dX12_begin_53 : decode cX12_begin 53 = .ok (.iload_n 1, 1) := by decide +kernel
theorem dX12_begin_54 : decode cX12_begin 54 = .ok (.bipush 6, 2) := by decide +kernel
theorem dX12_begin_56 : decode cX12_begin 56 = .ok (.aload_n 0, 1) := by decide +kernel
theorem dX12_begin_57 : decode cX12_begin 57 = .ok (.getfield 96, 3) := by decide +kernel
theorem dX12_begin_60 : decode cX12_begin 60 = .ok (.imul, 1) := by decide +kernel
theorem dX12_begin_61 : decode cX12_begin 61 = .ok (.if_icmp .ge 24, 3) := by decide +kernel
theorem dX12_begin_64 : decode cX12_begin 64 = .ok (.aload_n 0, 1) := by decide +kernel
theorem dX12_begin_65 : decode cX12_begin 65 = .ok (.getfield 29, 3) := by decide +kernel
theorem dX12_begin_68 : decode cX12_begin 68 = .ok (.bipush 18, 2) := by decide +kernel
theorem dX12_begin_70 : decode cX12_begin 70 = .ok (.iload_n 1, 1) := by decide +kernel
theorem dX12_begin_71 : decode cX12_begin 71 = .ok (.iadd, 1) := by decide +kernel
theorem dX12_begin_72 : decode cX12_begin 72 = .ok (.aload_n 0, 1) := by decide +kernel
theorem dX12_begin_73 : decode cX12_begin 73 = .ok (.getfield 19, 3) := by decide +kernel
theorem dX12_begin_76 : decode cX12_begin 76 = .ok (.iload_n 1, 1) := by decide +kernel
theorem dX12_begin_77 : decode cX12_begin 77 = .ok (.iaload, 1) := by decide +kernel
theorem dX12_begin_78 : decode cX12_begin 78 = .ok (.iastore, 1) := by decide +kernel
theorem dX12_begin_79 : decode cX12_begin 79 = .ok (.iinc 1 1, 3) := by decide +kernel
theorem dX12_begin_82 : decode cX12_begin 82 = .ok (.goto (-29), 3) := by decide +kernel
theorem dX12_begin_85 : decode cX12_begin 85 = .ok (.iconst 0, 1) := by decide +kernel
theorem dX12_begin_86 : decode cX12_begin 86 = .ok (.istore_n 1, 1) := by decide +kernel
theorem dX12_begin_87 : decode cX12_begin 87 = .ok (.iload_n 1, 1) := by decide +kernel
theorem dX12_begin_88 : decode cX12_begin 88 = .ok (.iconst 3, 1) := by decide +kernel
theorem dX12_begin_89 : decode cX12_begin 89 = .ok (.if_icmp .ge 19, 3) := by decide +kernel
theorem dX12_begin_92 : decode cX12_begin 92 = .ok (.aload_n 0, 1) := by decide +kernel
theorem dX12_begin_93 : decode cX12_begin 93 = .ok (.getfield 29, 3) := by decide +kernel
theorem dX12_begin_96 : decode cX12_begin 96 = .ok (.bipush 54, 2) := by decide +kernel
theorem dX12_begin_98 : decode cX12_begin 98 = .ok (.iload_n 1, 1) := by decide +kernel
theorem dX12_begin_99 : decode cX12_begin 99 = .ok (.iadd, 1) := by decide +kernel
theorem dX12_begin_100 : decode cX12_begin 100 = .ok (.iconst (-1), 1) := by decide +kernel
theorem dX12_begin_101 : decode cX12_begin 101 = .ok (.iastore, 1) := by decide +kernel
theorem dX12_begin_102 : decode cX12_begin 102 = .ok (.iinc 1 1, 3) := by decide +kernel
theorem dX12_begin_105 : decode cX12_begin 105 = .ok (.goto (-18), 3) := by decide +kernel
theorem dX12_begin_108 : decode cX12_begin 108 = .ok (.aload_n 0, 1) := by decide +kernel
theorem dX12_begin_109 : decode cX12_begin 109 = .ok (.getfield 29, 3) := by decide +kernel
theorem dX12_begin_112 : decode cX12_begin 112 = .ok (.bipush 57, 2) := by decide +kernel
theorem dX12_begin_114 : decode cX12_begin 114 = .ok (.aload_n 0, 1) := by decide +kernel
theorem dX12_begin_115 : decode cX12_begin 115 = .ok (.getfield 151, 3) := by decide +kernel
theorem dX12_begin_118 : decode cX12_begin 118 = .ok (.iastore, 1) := by decide +kernel
theorem dX12_begin_119 : decode cX12_begin 119 = .ok (.iconst 0, 1) := by decide +kernel
theorem dX12_begin_120 : decode cX12_begin 120 = .ok (.istore_n 1, 1) := by decide +kernel
theorem dX12_begin_121 : decode cX12_begin 121 = .ok (.iload_n 1, 1) := by decide +kernel
theorem dX12_begin_122 : decode cX12_begin 122 = .ok (.iconst 3, 1) := by decide +kernel
theorem dX12_begin_123 : decode cX12_begin 123 = .ok (.if_icmp .ge 16, 3) := by decide +kernel
theorem dX12_begin_126 : decode cX12_begin 126 = .ok (.aload_n 0, 1) := by decide +kernel
theorem dX12_begin_127 : decode cX12_begin 127 = .ok (.getfield 81, 3) := by decide +kernel
theorem dX12_begin_130 : decode cX12_begin 130 = .ok (.iload_n 1, 1) := by decide +kernel
theorem dX12_begin_131 : decode cX12_begin 131 = .ok (.iconst 0, 1) := by decide +kernel
theorem dX12_begin_132 : decode cX12_begin 132 = .ok (.bastore, 1) := by decide +kernel
theorem dX12_begin_133 : decode cX12_begin 133 = .ok (.iinc 1 1, 3) := by decide +kernel
theorem dX12_begin_136 : decode cX12_begin 136 = .ok (.goto (-15), 3) := by decide +kernel
theorem dX12_begin_139 : decode cX12_begin 139 = .ok (.aload_n 0, 1) := by decide +kernel
theorem dX12_begin_140 : decode cX12_begin 140 = .ok (.iconst 0, 1) := by decide +kernel
theorem dX12_begin_141 : decode cX12_begin 141 = .ok (.putfield 220, 3) := by decide +kernel
theorem dX12_begin_144 : decode cX12_begin 144 = .ok (.aload_n 0, 1) := by decide +kernel
theorem dX12_begin_145 : decode cX12_begin 145 = .ok (.iconst 0, 1) := by decide +kernel
theorem dX12_begin_146 : decode cX12_begin 146 = .ok (.putfield 223, 3) := by decide +kernel
theorem dX12_begin_149 : decode cX12_begin 149 = .ok (.aload_n 0, 1) := by decide +kernel
theorem dX12_begin_150 : decode cX12_begin 150 = .ok (.getfield 56, 3) := by decide +kernel
theorem dX12_begin_153 : decode cX12_begin 153 = .ok (.iconst 0, 1) := by decide +kernel
theorem dX12_begin_154 : decode cX12_begin 154 = .ok (.iconst 0, 1) := by decide +kernel
theorem dX12_begin_155 : decode cX12_begin 155 = .ok (.bastore, 1) := by decide +kernel
theorem dX12_begin_156 : decode cX12_begin 156 = .ok (.aload_n 0, 1) := by decide +kernel
theorem dX12_begin_157 : decode cX12_begin 157 = .ok (.getfield 56, 3) := by decide +kernel
theorem dX12_begin_160 : decode cX12_begin 160 = .ok (.iconst 1, 1) := by decide +kernel
theorem dX12_begin_161 : decode cX12_begin 161 = .ok (.iconst 0, 1) := by decide +kernel
theorem dX12_begin_162 : decode cX12_begin 162 = .ok (.bastore, 1) := by decide +kernel
theorem dX12_begin_163 : decode cX12_begin 163 = .ok (.return_, 1) := by decide +kernel
theorem dX12_summer_0 : decode cX12_summer 0 = .ok (.aload_n 0, 1) := by decide +kernel
theorem dX12_summer_1 : decode cX12_summer 1 = .ok (.invokevirtual 217, 3) := by decide +kernel
theorem dX12_summer_4 : decode cX12_summer 4 = .ok (.ifCond .ne 6, 3) := by decide +kernel
theorem dX12_summer_7 : decode cX12_summer 7 = .ok (.bipush (-4), 2) := by decide +kernel
theorem dX12_summer_9 : decode cX12_summer 9 = .ok (.ireturn, 1) := by decide +kernel
theorem dX12_summer_10 : decode cX12_summer 10 = .ok (.aload_n 0, 1) := by decide +kernel
theorem dX12_summer_11 : decode cX12_summer 11 = .ok (.aload_n 0, 1) := by decide +kernel
theorem dX12_summer_12 : decode cX12_summer 12 = .ok (.getfield 145, 3) := by decide +kernel
theorem dX12_summer_15 : decode cX12_summer 15 = .ok (.putfield 96, 3) := by decide +kernel
theorem dX12_summer_18 : decode cX12_summer 18 = .ok (.aload_n 0, 1) := by decide +kernel
theorem dX12_summer_19 : decode cX12_summer 19 = .ok (.aload_n 0, 1) := by decide +kernel
theorem dX12_summer_20 : decode cX12_summer 20 = .ok (.getfield 148, 3) := by decide +kernel
theorem dX12_summer_23 : decode cX12_summer 23 = .ok (.putfield 103, 3) := by decide +kernel
theorem dX12_summer_26 : decode cX12_summer 26 = .ok (.aload_n 0, 1) := by decide +kernel
theorem dX12_summer_27 : decode cX12_summer 27 = .ok (.aload_n 0, 1) := by decide +kernel
theorem dX12_summer_28 : decode cX12_summer 28 = .ok (.getfield 154, 3) := by decide +kernel
theorem dX12_summer_31 : decode cX12_summer 31 = .ok (.putfield 151, 3) := by decide +kernel
theorem dX12_summer_34 : decode cX12_summer 34 = .ok (.aload_n 0, 1) := by decide +kernel
theorem dX12_summer_35 : decode cX12_summer 35 = .ok (.aload_n 0, 1) := by decide +kernel
theorem dX12_summer_36 : decode cX12_summer 36 = .ok (.getfield 157, 3) := by decide +kernel
theorem dX12_summer_39 : decode cX12_summer 39 = .ok (.putfield 25, 3) := by decide +kernel
theorem dX12_summer_42 : decode cX12_summer 42 = .ok (.iconst 0, 1) := by decide +kernel
theorem dX12_summer_43 : decode cX12_summer 43 = .ok (.istore_n 1, 1) := by decide +kernel
theorem dX12_summer_44 : decode cX12_summer 44 = .ok (.iload_n 1, 1) := by decide +kernel
theorem dX12_summer_45 : decode cX12_summer 45 = .ok (.bipush 6, 2) := by decide +kernel
theorem dX12_summer_47 : decode cX12_summer 47 = .ok (.if_icmp .ge 45, 3) := by decide +kernel
theorem dX12_summer_50 : decode cX12_summer 50 = .ok (.aload_n 0, 1) := by decide +kernel
theorem dX12_summer_51 : decode cX12_summer 51 = .ok (.getfield 7, 3) := by decide +kernel
theorem dX12_summer_54 : decode cX12_summer 54 = .ok (.iload_n 1, 1) := by decide +kernel
theorem dX12_summer_55 : decode cX12_summer 55 = .ok (.aload_n 0, 1) := by decide +kernel
theorem dX12_summer_56 : decode cX12_summer 56 = .ok (.getfield 35, 3) := by decide +kernel
theorem dX12_summer_59 : decode cX12_summer 59 = .ok (.iload_n 1, 1) := by decide +kernel
theorem dX12_summer_60 : decode cX12_summer 60 = .ok (.iaload, 1) := by decide +kernel
theorem dX12_summer_61 : decode cX12_summer 61 = .ok (.iastore, 1) := by decide +kernel
theorem dX12_summer_62 : decode cX12_summer 62 = .ok (.aload_n 0, 1) := by decide +kernel
theorem dX12_summer_63 : decode cX12_summer 63 = .ok (.getfield 13, 3) := by decide +kernel
theorem dX12_summer_66 : decode cX12_summer 66 = .ok (.iload_n 1, 1) := by decide +kernel
theorem dX12_summer_67 : decode cX12_summer 67 = .ok (.aload_n 0, 1) := by decide +kernel
theorem dX12_summer_68 : decode cX12_summer 68 = .ok (.getfield 38, 3) := by decide +kernel
theorem dX12_summer_71 : decode cX12_summer 71 = .ok (.iload_n 1, 1) := by decide +kernel
theorem dX12_summer_72 : decode cX12_summer 72 = .ok (.iaload, 1) := by decide +kernel
theorem dX12_summer_73 : decode cX12_summer 73 = .ok (.iastore, 1) := by decide +kernel
theorem dX12_summer_74 : decode cX12_summer 74 = .ok (.aload_n 0, 1) := by decide +kernel
theorem dX12_summer_75 : decode cX12_summer 75 = .ok (.getfield 16, 3) := by decide +kernel
theorem dX12_summer_78 : decode cX12_summer 78 = .ok (.iload_n 1, 1) := by decide +kernel
theorem dX12_summer_79 : decode cX12_summer 79 = .ok (.aload_n 0, 1) := by decide +kernel
theorem dX12_summer_80 : decode cX12_summer 80 = .ok (.getfield 41, 3) := by decide +kernel
theorem dX12_summer_83 : decode cX12_summer 83 = .ok (.iload_n 1, 1) := by decide +kernel
theorem dX12_summer_84 : decode cX12_summer 84 = .ok (.iaload, 1) := by decide +kernel
theorem dX12_summer_85 : decode cX12_summer 85 = .ok (.iastore, 1) := by decide +kernel
theorem dX12_summer_86 : decode cX12_summer 86 = .ok (.iinc 1 1, 3) := by decide +kernel
theorem dX12_summer_89 : decode cX12_summer 89 = .ok (.goto (-45), 3) := by decide +kernel
theorem dX12_summer_92 : decode cX12_summer 92 = .ok (.iconst 0, 1) := by decide +kernel
theorem dX12_summer_93 : decode cX12_summer 93 = .ok (.istore_n 1, 1) := by decide +kernel
theorem dX12_summer_94 : decode cX12_summer 94 = .ok (.iload_n 1, 1) := by decide +kernel
theorem dX12_summer_95 : decode cX12_summer 95 = .ok (.bipush 36, 2) := by decide +kernel
theorem dX12_summer_97 : decode cX12_summer 97 = .ok (.if_icmp .ge 21, 3) := by decide +kernel
theorem dX12_summer_100 : decode cX12_summer 100 = .ok (.aload_n 0, 1) := by decide +kernel
theorem dX12_summer_101 : decode cX12_summer 101 = .ok (.getfield 19, 3) := by decide +kernel
theorem dX12_summer_104 : decode cX12_summer 104 = .ok (.iload_n 1, 1) := by decide +kernel
theorem dX12_summer_105 : decode cX12_summer 105 = .ok (.aload_n 0, 1) := by decide +kernel
theorem dX12_summer_106 : decode cX12_summer 106 = .ok (.getfield 44, 3) := by decide +kernel
theorem dX12_summer_109 : decode cX12_summer 109 = .ok (.iload_n 1, 1) := by decide +kernel
theorem dX12_summer_110 : decode cX12_summer 110 = .ok (.iaload, 1) := by decide +kernel
theorem dX12_summer_111 : decode cX12_summer 111 = .ok (.iastore, 1) := by decide +kernel
theorem dX12_summer_112 : decode cX12_summer 112 = .ok (.iinc 1 1, 3) := by decide +kernel
theorem dX12_summer_115 : decode cX12_summer 115 = .ok (.goto (-21), 3) := by decide +kernel
theorem dX12_summer_118 : decode cX12_summer 118 = .ok (.iconst 0, 1) := by decide +kernel
theorem dX12_summer_119 : decode cX12_summer 119 = .ok (.istore_n 1, 1) := by decide +kernel
theorem dX12_summer_120 : decode cX12_summer 120 = .ok (.iload_n 1, 1) := by decide +kernel
theorem dX12_summer_121 : decode cX12_summer 121 = .ok (.iconst 3, 1) := by decide +kernel
theorem dX12_summer_122 : decode cX12_summer 122 = .ok (.if_icmp .ge 21, 3) := by decide +kernel
theorem dX12_summer_125 : decode cX12_summer 125 = .ok (.aload_n 0, 1) := by decide +kernel
theorem dX12_summer_126 : decode cX12_summer 126 = .ok (.getfield 22, 3) := by decide +kernel
theorem dX12_summer_129 : decode cX12_summer 129 = .ok (.iload_n 1, 1) := by decide +kernel
theorem dX12_summer_130 : decode cX12_summer 130 = .ok (.aload_n 0, 1) := by decide +kernel
theorem dX12_summer_131 : decode cX12_summer 131 = .ok (.getfield 47, 3) := by decide +kernel
theorem dX12_summer_134 : decode cX12_summer 134 = .ok (.iload_n 1, 1) := by decide +kernel
theorem dX12_summer_135 : decode cX12_summer 135 = .ok (.iaload, 1) := by decide +kernel
theorem dX12_summer_136 : decode cX12_summer 136 = .ok (.iastore, 1) := by decide +kernel
theorem dX12_summer_137 : decode cX12_summer 137 = .ok (.iinc 1 1, 3) := by decide +kernel
theorem dX12_summer_140 : decode cX12_summer 140 = .ok (.goto (-20), 3) := by decide +kernel
theorem dX12_summer_143 : decode cX12_summer 143 = .ok (.aload_n 0, 1) := by decide +kernel
theorem dX12_summer_144 : decode cX12_summer 144 = .ok (.iconst 0, 1) := by decide +kernel
theorem dX12_summer_145 : decode cX12_summer 145 = .ok (.putfield 108, 3) := by decide +kernel
theorem dX12_summer_148 : decode cX12_summer 148 = .ok (.aload_n 0, 1) := by decide +kernel
theorem dX12_summer_149 : decode cX12_summer 149 = .ok (.invokevirtual 226, 3) := by decide +kernel
theorem dX12_summer_152 : decode cX12_summer 152 = .ok (.aload_n 0, 1) := by decide +kernel
theorem dX12_summer_153 : decode cX12_summer 153 = .ok (.getfield 160, 3) := by decide +kernel
theorem dX12_summer_156 : decode cX12_summer 156 = .ok (.ireturn, 1) := by decide +kernel
theorem dX12_isClean_0 : decode cX12_isClean 0 = .ok (.iconst 1, 1) := by decide +kernel
theorem dX12_isClean_1 : decode cX12_isClean 1 = .ok (.istore_n 2, 1) := by decide +kernel
theorem dX12_isClean_2 : decode cX12_isClean 2 = .ok (.iconst 0, 1) := by decide +kernel
theorem dX12_isClean_3 : decode cX12_isClean 3 = .ok (.istore_n 3, 1) := by decide +kernel
theorem dX12_isClean_4 : decode cX12_isClean 4 = .ok (.iload_n 3, 1) := by decide +kernel
theorem dX12_isClean_5 : decode cX12_isClean 5 = .ok (.bipush 6, 2) := by decide +kernel
theorem dX12_isClean_7 : decode cX12_isClean 7 = .ok (.if_icmp .ge 36, 3) := by decide +kernel
theorem dX12_isClean_10 : decode cX12_isClean 10 = .ok (.iload_n 2, 1) := by decide +kernel
theorem dX12_isClean_11 : decode cX12_isClean 11 = .ok (.ifCond .eq 24, 3) := by decide +kernel
theorem dX12_isClean_14 : decode cX12_isClean 14 = .ok (.aload_n 0, 1) := by decide +kernel
theorem dX12_isClean_15 : decode cX12_isClean 15 = .ok (.getfield 29, 3) := by decide +kernel
theorem dX12_isClean_18 : decode cX12_isClean 18 = .ok (.bipush 18, 2) := by decide +kernel
theorem dX12_isClean_20 : decode cX12_isClean 20 = .ok (.bipush 6, 2) := by decide +kernel
theorem dX12_isClean_22 : decode cX12_isClean 22 = .ok (.iload_n 1, 1) := by decide +kernel
theorem dX12_isClean_23 : decode cX12_isClean 23 = .ok (.imul, 1) := by decide +kernel
theorem dX12_isClean_24 : decode cX12_isClean 24 = .ok (.iadd, 1) := by decide +kernel
theorem dX12_isClean_25 : decode cX12_isClean 25 = .ok (.iload_n 3, 1) := by decide +kernel
theorem dX12_isClean_26 : decode cX12_isClean 26 = .ok (.iadd, 1) := by decide +kernel
theorem dX12_isClean_27 : decode cX12_isClean 27 = .ok (.iaload, 1) := by decide +kernel
theorem dX12_isClean_28 : decode cX12_isClean 28 = .ok (.ifCond .ne 7, 3) := by decide +kernel
theorem dX12_isClean_31 : decode cX12_isClean 31 = .ok (.iconst 1, 1) := by decide +kernel
theorem dX12_isClean_32 : decode cX12_isClean 32 = .ok (.goto 4, 3) := by decide +kernel
theorem dX12_isClean_35 : decode cX12_isClean 35 = .ok (.iconst 0, 1) := by decide +kernel
theorem dX12_isClean_36 : decode cX12_isClean 36 = .ok (.istore_n 2, 1) := by decide +kernel
theorem dX12_isClean_37 : decode cX12_isClean 37 = .ok (.iinc 3 1, 3) := by decide +kernel
theorem dX12_isClean_40 : decode cX12_isClean 40 = .ok (.goto (-36), 3) := by decide +kernel
theorem dX12_isClean_43 : decode cX12_isClean 43 = .ok (.iload_n 2, 1) := by decide +kernel
theorem dX12_isClean_44 : decode cX12_isClean 44 = .ok (.ireturn, 1) := by decide +kernel
theorem dX12_isDry_0 : decode cX12_isDry 0 = .ok (.aload_n 0, 1) := by decide +kernel
theorem dX12_isDry_1 : decode cX12_isDry 1 = .ok (.getfield 29, 3) := by decide +kernel
theorem dX12_isDry_4 : decode cX12_isDry 4 = .ok (.bipush 6, 2) := by decide +kernel
theorem dX12_isDry_6 : decode cX12_isDry 6 = .ok (.iload_n 1, 1) := by decide +kernel
theorem dX12_isDry_7 : decode cX12_isDry 7 = .ok (.iadd, 1) := by decide +kernel
theorem dX12_isDry_8 : decode cX12_isDry 8 = .ok (.iaload, 1) := by decide +kernel
theorem dX12_isDry_9 : decode cX12_isDry 9 = .ok (.iconst 2, 1) := by decide +kernel
theorem dX12_isDry_10 : decode cX12_isDry 10 = .ok (.if_icmp .ne 28, 3) := by decide +kernel
theorem dX12_isDry_13 : decode cX12_isDry 13 = .ok (.aload_n 0, 1) := by decide +kernel
theorem dX12_isDry_14 : decode cX12_isDry 14 = .ok (.getfield 29, 3) := by decide +kernel
theorem dX12_isDry_17 : decode cX12_isDry 17 = .ok (.bipush 12, 2) := by decide +kernel
theorem dX12_isDry_19 : decode cX12_isDry 19 = .ok (.iload_n 1, 1) := by decide +kernel
theorem dX12_isDry_20 : decode cX12_isDry 20 = .ok (.iadd, 1) := by decide +kernel
theorem dX12_isDry_21 : decode cX12_isDry 21 = .ok (.iaload, 1) := by decide +kernel
theorem dX12_isDry_22 : decode cX12_isDry 22 = .ok (.aload_n 0, 1) := by decide +kernel
theorem dX12_isDry_23 : decode cX12_isDry 23 = .ok (.getfield 7, 3) := by decide +kernel
theorem dX12_isDry_26 : decode cX12_isDry 26 = .ok (.iload_n 1, 1) := by decide +kernel
theorem dX12_isDry_27 : decode cX12_isDry 27 = .ok (.iaload, 1) := by decide +kernel
theorem dX12_isDry_28 : decode cX12_isDry 28 = .ok (.invokestatic 229, 3) := by decide +kernel
theorem dX12_isDry_31 : decode cX12_isDry 31 = .ok (.if_icmp .lt 7, 3) := by decide +kernel
theorem dX12_isDry_34 : decode cX12_isDry 34 = .ok (.iconst 1, 1) := by decide +kernel
theorem dX12_isDry_35 : decode cX12_isDry 35 = .ok (.goto 4, 3) := by decide +kernel
theorem dX12_isDry_38 : decode cX12_isDry 38 = .ok (.iconst 0, 1) := by decide +kernel
theorem dX12_isDry_39 : decode cX12_isDry 39 = .ok (.ireturn, 1) := by decide +kernel
theorem dX12_whoHas_0 : decode cX12_whoHas 0 = .ok (.iconst (-1), 1) := by decide +kernel
theorem dX12_whoHas_1 : decode cX12_whoHas 1 = .ok (.istore_n 2, 1) := by decide +kernel
theorem dX12_whoHas_2 : decode cX12_whoHas 2 = .ok (.iconst 0, 1) := by decide +kernel
theorem dX12_whoHas_3 : decode cX12_whoHas 3 = .ok (.istore_n 3, 1) := by decide +kernel
theorem dX12_whoHas_4 : decode cX12_whoHas 4 = .ok (.iload_n 3, 1) := by decide +kernel
theorem dX12_whoHas_5 : decode cX12_whoHas 5 = .ok (.aload_n 0, 1) := by decide +kernel
theorem dX12_whoHas_6 : decode cX12_whoHas 6 = .ok (.getfield 103, 3) := by decide +kernel
theorem dX12_whoHas_9 : decode cX12_whoHas 9 = .ok (.if_icmp .ge 28, 3) := by decide +kernel
theorem dX12_whoHas_12 : decode cX12_whoHas 12 = .ok (.aload_n 0, 1) := by decide +kernel
theorem dX12_whoHas_13 : decode cX12_whoHas 13 = .ok (.getfield 29, 3) := by decide +kernel
theorem dX12_whoHas_16 : decode cX12_whoHas 16 = .ok (.bipush 54, 2) := by decide +kernel
theorem dX12_whoHas_18 : decode cX12_whoHas 18 = .ok (.iload_n 3, 1) := by decide +kernel
theorem dX12_whoHas_19 : decode cX12_whoHas 19 = .ok (.iadd, 1) := by decide +kernel
theorem dX12_whoHas_20 : decode cX12_whoHas 20 = .ok (.iaload, 1) := by decide +kernel
theorem dX12_whoHas_21 : decode cX12_whoHas 21 = .ok (.iload_n 1, 1) := by decide +kernel
theorem dX12_whoHas_22 : decode cX12_whoHas 22 = .ok (.if_icmp .ne 7, 3) := by decide +kernel
theorem dX12_whoHas_25 : decode cX12_whoHas 25 = .ok (.iload_n 3, 1) := by decide +kernel
theorem dX12_whoHas_26 : decode cX12_whoHas 26 = .ok (.goto 4, 3) := by decide +kernel
theorem dX12_whoHas_29 : decode cX12_whoHas 29 = .ok (.iload_n 2, 1) := by decide +kernel
theorem dX12_whoHas_30 : decode cX12_whoHas 30 = .ok (.istore_n 2, 1) := by decide +kernel
theorem dX12_whoHas_31 : decode cX12_whoHas 31 = .ok (.iinc 3 1, 3) := by decide +kernel
theorem dX12_whoHas_34 : decode cX12_whoHas 34 = .ok (.goto (-30), 3) := by decide +kernel
theorem dX12_whoHas_37 : decode cX12_whoHas 37 = .ok (.iload_n 2, 1) := by decide +kernel
theorem dX12_whoHas_38 : decode cX12_whoHas 38 = .ok (.ireturn, 1) := by decide +kernel
theorem dX12_cloud_0 : decode cX12_cloud 0 = .ok (.aload_n 0, 1) := by decide +kernel
theorem dX12_cloud_1 : decode cX12_cloud 1 = .ok (.iload_n 1, 1) := by decide +kernel
theorem dX12_cloud_2 : decode cX12_cloud 2 = .ok (.invokevirtual 233, 3) := by decide +kernel
theorem dX12_cloud_5 : decode cX12_cloud 5 = .ok (.ifCond .ne 6, 3) := by decide +kernel
theorem dX12_cloud_8 : decode cX12_cloud 8 = .ok (.bipush (-2), 2) := by decide +kernel
theorem dX12_cloud_10 : decode cX12_cloud 10 = .ok (.ireturn, 1) := by decide +kernel
theorem dX12_cloud_11 : decode cX12_cloud 11 = .ok (.iload_n 2, 1) := by decide +kernel
theorem dX12_cloud_12 : decode cX12_cloud 12 = .ok (.tableswitch 142 0 7 #[48, 55, 64, 71, 81, 87, 114, 128], 48) := by decide +kernel
theorem dX12_cloud_60 : decode cX12_cloud 60 = .ok (.aload_n 0, 1) := by decide +kernel
theorem dX12_cloud_61 : decode cX12_cloud 61 = .ok (.getfield 7, 3) := by decide +kernel
theorem dX12_cloud_64 : decode cX12_cloud 64 = .ok (.iload_n 1, 1) := by decide +kernel
theorem dX12_cloud_65 : decode cX12_cloud 65 = .ok (.iaload, 1) := by decide +kernel
theorem dX12_cloud_66 : decode cX12_cloud 66 = .ok (.ireturn, 1) := by decide +kernel
theorem dX12_cloud_67 : decode cX12_cloud 67 = .ok (.aload_n 0, 1) := by decide +kernel
theorem dX12_cloud_68 : decode cX12_cloud 68 = .ok (.getfield 29, 3) := by decide +kernel
theorem dX12_cloud_71 : decode cX12_cloud 71 = .ok (.iconst 0, 1) := by decide +kernel
theorem dX12_cloud_72 : decode cX12_cloud 72 = .ok (.iload_n 1, 1) := by decide +kernel
theorem dX12_cloud_73 : decode cX12_cloud 73 = .ok (.iadd, 1) := by decide +kernel
theorem dX12_cloud_74 : decode cX12_cloud 74 = .ok (.iaload, 1) := by decide +kernel
theorem dX12_cloud_75 : decode cX12_cloud 75 = .ok (.ireturn, 1) := by decide +kernel
theorem dX12_cloud_76 : decode cX12_cloud 76 = .ok (.aload_n 0, 1) := by decide +kernel
theorem dX12_cloud_77 : decode cX12_cloud 77 = .ok (.getfield 16, 3) := by decide +kernel
theorem dX12_cloud_80 : decode cX12_cloud 80 = .ok (.iload_n 1, 1) := by decide +kernel
theorem dX12_cloud_81 : decode cX12_cloud 81 = .ok (.iaload, 1) := by decide +kernel
theorem dX12_cloud_82 : decode cX12_cloud 82 = .ok (.ireturn, 1) := by decide +kernel
theorem dX12_cloud_83 : decode cX12_cloud 83 = .ok (.aload_n 0, 1) := by decide +kernel
theorem dX12_cloud_84 : decode cX12_cloud 84 = .ok (.getfield 29, 3) := by decide +kernel
theorem dX12_cloud_87 : decode cX12_cloud 87 = .ok (.bipush 6, 2) := by decide +kernel
theorem dX12_cloud_89 : decode cX12_cloud 89 = .ok (.iload_n 1, 1) := by decide +kernel
theorem dX12_cloud_90 : decode cX12_cloud 90 = .ok (.iadd, 1) := by decide +kernel
theorem dX12_cloud_91 : decode cX12_cloud 91 = .ok (.iaload, 1) := by decide +kernel
theorem dX12_cloud_92 : decode cX12_cloud 92 = .ok (.ireturn, 1) := by decide +kernel
theorem dX12_cloud_93 : decode cX12_cloud 93 = .ok (.aload_n 0, 1) := by decide +kernel
theorem dX12_cloud_94 : decode cX12_cloud 94 = .ok (.iload_n 1, 1) := by decide +kernel
theorem dX12_cloud_95 : decode cX12_cloud 95 = .ok (.invokevirtual 236, 3) := by decide +kernel
theorem dX12_cloud_98 : decode cX12_cloud 98 = .ok (.ireturn, 1) := by decide +kernel
theorem dX12_cloud_99 : decode cX12_cloud 99 = .ok (.aload_n 0, 1) := by decide +kernel
theorem dX12_cloud_100 : decode cX12_cloud 100 = .ok (.getfield 29, 3) := by decide +kernel
theorem dX12_cloud_103 : decode cX12_cloud 103 = .ok (.bipush 6, 2) := by decide +kernel
theorem dX12_cloud_105 : decode cX12_cloud 105 = .ok (.iload_n 1, 1) := by decide +kernel
theorem dX12_cloud_106 : decode cX12_cloud 106 = .ok (.iadd, 1) := by decide +kernel
theorem dX12_cloud_107 : decode cX12_cloud 107 = .ok (.iaload, 1) := by decide +kernel
theorem dX12_cloud_108 : decode cX12_cloud 108 = .ok (.iconst 2, 1) := by decide +kernel
theorem dX12_cloud_109 : decode cX12_cloud 109 = .ok (.if_icmp .ne 15, 3) := by decide +kernel
theorem dX12_cloud_112 : decode cX12_cloud 112 = .ok (.aload_n 0, 1) := by decide +kernel
theorem dX12_cloud_113 : decode cX12_cloud 113 = .ok (.getfield 29, 3) := by decide +kernel
theorem dX12_cloud_116 : decode cX12_cloud 116 = .ok (.bipush 12, 2) := by decide +kernel
theorem dX12_cloud_118 : decode cX12_cloud 118 = .ok (.iload_n 1, 1) := by decide +kernel
theorem dX12_cloud_119 : decode cX12_cloud 119 = .ok (.iadd, 1) := by decide +kernel
theorem dX12_cloud_120 : decode cX12_cloud 120 = .ok (.iaload, 1) := by decide +kernel
theorem dX12_cloud_121 : decode cX12_cloud 121 = .ok (.goto 4, 3) := by decide +kernel
theorem dX12_cloud_124 : decode cX12_cloud 124 = .ok (.iconst 0, 1) := by decide +kernel
theorem dX12_cloud_125 : decode cX12_cloud 125 = .ok (.ireturn, 1) := by decide +kernel
theorem dX12_cloud_126 : decode cX12_cloud 126 = .ok (.aload_n 0, 1) := by decide +kernel
theorem dX12_cloud_127 : decode cX12_cloud 127 = .ok (.iload_n 1, 1) := by decide +kernel
theorem dX12_cloud_128 : decode cX12_cloud 128 = .ok (.invokevirtual 239, 3) := by decide +kernel
theorem dX12_cloud_131 : decode cX12_cloud 131 = .ok (.ifCond .eq 7, 3) := by decide +kernel
theorem dX12_cloud_134 : decode cX12_cloud 134 = .ok (.iconst 1, 1) := by decide +kernel
theorem dX12_cloud_135 : decode cX12_cloud 135 = .ok (.goto 4, 3) := by decide +kernel
theorem dX12_cloud_138 : decode cX12_cloud 138 = .ok (.iconst 0, 1) := by decide +kernel
theorem dX12_cloud_139 : decode cX12_cloud 139 = .ok (.ireturn, 1) := by decide +kernel
theorem dX12_cloud_140 : decode cX12_cloud 140 = .ok (.aload_n 0, 1) := by decide +kernel
theorem dX12_cloud_141 : decode cX12_cloud 141 = .ok (.iload_n 1, 1) := by decide +kernel
theorem dX12_cloud_142 : decode cX12_cloud 142 = .ok (.invokevirtual 242, 3) := by decide +kernel
theorem dX12_cloud_145 : decode cX12_cloud 145 = .ok (.ifCond .eq 7, 3) := by decide +kernel
theorem dX12_cloud_148 : decode cX12_cloud 148 = .ok (.iconst 1, 1) := by decide +kernel
theorem dX12_cloud_149 : decode cX12_cloud 149 = .ok (.goto 4, 3) := by decide +kernel
theorem dX12_cloud_152 : decode cX12_cloud 152 = .ok (.iconst 0, 1) := by decide +kernel
theorem dX12_cloud_153 : decode cX12_cloud 153 = .ok (.ireturn, 1) := by decide +kernel
theorem dX12_cloud_154 : decode cX12_cloud 154 = .ok (.bipush (-3), 2) := by decide +kernel
theorem dX12_cloud_156 : decode cX12_cloud 156 = .ok (.ireturn, 1) := by decide +kernel
theorem dX12_deep_0 : decode cX12_deep 0 = .ok (.aload_n 0, 1) := by decide +kernel
theorem dX12_deep_1 : decode cX12_deep 1 = .ok (.iload_n 1, 1) := by decide +kernel
theorem dX12_deep_2 : decode cX12_deep 2 = .ok (.invokevirtual 233, 3) := by decide +kernel
theorem dX12_deep_5 : decode cX12_deep 5 = .ok (.ifCond .eq 32, 3) := by decide +kernel
theorem dX12_deep_8 : decode cX12_deep 8 = .ok (.iload_n 2, 1) := by decide +kernel
theorem dX12_deep_9 : decode cX12_deep 9 = .ok (.i2l, 1) := by decide +kernel
theorem dX12_deep_10 : decode cX12_deep 10 = .ok (.lconst 0, 1) := by decide +kernel
theorem dX12_deep_11 : decode cX12_deep 11 = .ok (.ldc2_w 245, 3) := by decide +kernel
theorem dX12_deep_14 : decode cX12_deep 14 = .ok (.invokestatic 99, 3) := by decide +kernel
theorem dX12_deep_17 : decode cX12_deep 17 = .ok (.ifCond .eq 20, 3) := by decide +kernel
theorem dX12_deep_20 : decode cX12_deep 20 = .ok (.aload_n 0, 1) := by decide +kernel
theorem dX12_deep_21 : decode cX12_deep 21 = .ok (.getfield 29, 3) := by decide +kernel
theorem dX12_deep_24 : decode cX12_deep 24 = .ok (.bipush 18, 2) := by decide +kernel
theorem dX12_deep_26 : decode cX12_deep 26 = .ok (.bipush 6, 2) := by decide +kernel
theorem dX12_deep_28 : decode cX12_deep 28 = .ok (.iload_n 1, 1) := by decide +kernel
theorem dX12_deep_29 : decode cX12_deep 29 = .ok (.imul, 1) := by decide +kernel
theorem dX12_deep_30 : decode cX12_deep 30 = .ok (.iadd, 1) := by decide +kernel
theorem dX12_deep_31 : decode cX12_deep 31 = .ok (.iload_n 2, 1) := by decide +kernel
theorem dX12_deep_32 : decode cX12_deep 32 = .ok (.iadd, 1) := by decide +kernel
theorem dX12_deep_33 : decode cX12_deep 33 = .ok (.iaload, 1) := by decide +kernel
theorem dX12_deep_34 : decode cX12_deep 34 = .ok (.goto 5, 3) := by decide +kernel
theorem dX12_deep_37 : decode cX12_deep 37 = .ok (.bipush (-2), 2) := by decide +kernel
theorem dX12_deep_39 : decode cX12_deep 39 = .ok (.ireturn, 1) := by decide +kernel
theorem dX12_washer_0 : decode cX12_washer 0 = .ok (.aload_n 0, 1) := by decide +kernel
theorem dX12_washer_1 : decode cX12_washer 1 = .ok (.iload_n 1, 1) := by decide +kernel
theorem dX12_washer_2 : decode cX12_washer 2 = .ok (.invokevirtual 247, 3) := by decide +kernel
theorem dX12_washer_5 : decode cX12_washer 5 = .ok (.ifCond .ne 6, 3) := by decide +kernel
theorem dX12_washer_8 : decode cX12_washer 8 = .ok (.bipush (-2), 2) := by decide +kernel
theorem dX12_washer_10 : decode cX12_washer 10 = .ok (.ireturn, 1) := by decide +kernel
theorem dX12_washer_11 : decode cX12_washer 11 = .ok (.iload_n 2, 1) := by decide +kernel
theorem dX12_washer_12 : decode cX12_washer 12 = .ok (.ifCond .ne 12, 3) := by decide +kernel
theorem dX12_washer_15 : decode cX12_washer 15 = .ok (.aload_n 0, 1) := by decide +kernel
theorem dX12_washer_16 : decode cX12_washer 16 = .ok (.getfield 22, 3) := by decide +kernel
theorem dX12_washer_19 : decode cX12_washer 19 = .ok (.iload_n 1, 1) := by decide +kernel
theorem dX12_washer_20 : decode cX12_washer 20 = .ok (.iaload, 1) := by decide +kernel
theorem dX12_washer_21 : decode cX12_washer 21 = .ok (.goto 22, 3) := by decide +kernel
theorem dX12_washer_24 : decode cX12_washer 24 = .ok (.iload_n 2, 1) := by decide +kernel
theorem dX12_washer_25 : decode cX12_washer 25 = .ok (.iconst 1, 1) := by decide +kernel
theorem dX12_washer_26 : decode cX12_washer 26 = .ok (.if_icmp .ne 15, 3) := by decide +kernel
theorem dX12_washer_29 : decode cX12_washer 29 = .ok (.aload_n 0, 1) := by decide +kernel
theorem dX12_washer_30 : decode cX12_washer 30 = .ok (.getfield 29, 3) := by decide +kernel
theorem dX12_washer_33 : decode cX12_washer 33 = .ok (.bipush 54, 2) := by decide +kernel
theorem dX12_washer_35 : decode cX12_washer 35 = .ok (.iload_n 1, 1) := by decide +kernel
theorem dX12_washer_36 : decode cX12_washer 36 = .ok (.iadd, 1) := by decide +kernel
theorem dX12_washer_37 : decode cX12_washer 37 = .ok (.iaload, 1) := by decide +kernel
theorem dX12_washer_38 : decode cX12_washer 38 = .ok (.goto 5, 3) := by decide +kernel
theorem dX12_washer_41 : decode cX12_washer 41 = .ok (.bipush (-3), 2) := by decide +kernel
theorem dX12_washer_43 : decode cX12_washer 43 = .ok (.ireturn, 1) := by decide +kernel
theorem dX12_water_0 : decode cX12_water 0 = .ok (.iload_n 1, 1) := by decide +kernel
theorem dX12_water_1 : decode cX12_water 1 = .ok (.i2l, 1) := by decide +kernel
theorem dX12_water_2 : decode cX12_water 2 = .ok (.lconst 0, 1) := by decide +kernel
theorem dX12_water_3 : decode cX12_water 3 = .ok (.ldc2_w 250, 3) := by decide +kernel
theorem dX12_water_6 : decode cX12_water 6 = .ok (.invokestatic 99, 3) := by decide +kernel
theorem dX12_water_9 : decode cX12_water 9 = .ok (.ifCond .eq 32, 3) := by decide +kernel
theorem dX12_water_12 : decode cX12_water 12 = .ok (.iload_n 2, 1) := by decide +kernel
theorem dX12_water_13 : decode cX12_water 13 = .ok (.i2l, 1) := by decide +kernel
theorem dX12_water_14 : decode cX12_water 14 = .ok (.lconst 0, 1) := by decide +kernel
theorem dX12_water_15 : decode cX12_water 15 = .ok (.ldc2_w 245, 3) := by decide +kernel
theorem dX12_water_18 : decode cX12_water 18 = .ok (.invokestatic 99, 3) := by decide +kernel
theorem dX12_water_21 : decode cX12_water 21 = .ok (.ifCond .eq 20, 3) := by decide +kernel
theorem dX12_water_24 : decode cX12_water 24 = .ok (.aload_n 0, 1) := by decide +kernel
theorem dX12_water_25 : decode cX12_water 25 = .ok (.getfield 29, 3) := by decide +kernel
theorem dX12_water_28 : decode cX12_water 28 = .ok (.bipush 59, 2) := by decide +kernel
theorem dX12_water_30 : decode cX12_water 30 = .ok (.bipush 6, 2) := by decide +kernel
theorem dX12_water_32 : decode cX12_water 32 = .ok (.iload_n 1, 1) := by decide +kernel
theorem dX12_water_33 : decode cX12_water 33 = .ok (.imul, 1) := by decide +kernel
theorem dX12_water_34 : decode cX12_water 34 = .ok (.iadd, 1) := by decide +kernel
theorem dX12_water_35 : decode cX12_water 35 = .ok (.iload_n 2, 1) := by decide +kernel
theorem dX12_water_36 : decode cX12_water 36 = .ok (.iadd, 1) := by decide +kernel
theorem dX12_water_37 : decode cX12_water 37 = .ok (.iaload, 1) := by decide +kernel
theorem dX12_water_38 : decode cX12_water 38 = .ok (.goto 5, 3) := by decide +kernel
theorem dX12_water_41 : decode cX12_water 41 = .ok (.bipush (-2), 2) := by decide +kernel
theorem dX12_water_43 : decode cX12_water 43 = .ok (.ireturn, 1) := by decide +kernel
theorem dX12_as_0 : decode cX12_as 0 = .ok (.aload_n 0, 1) := by decide +kernel
theorem dX12_as_1 : decode cX12_as 1 = .ok (.iload_n 1, 1) := by decide +kernel
theorem dX12_as_2 : decode cX12_as 2 = .ok (.invokevirtual 233, 3) := by decide +kernel
theorem dX12_as_5 : decode cX12_as 5 = .ok (.ifCond .ne 6, 3) := by decide +kernel
theorem dX12_as_8 : decode cX12_as 8 = .ok (.bipush (-2), 2) := by decide +kernel
theorem dX12_as_10 : decode cX12_as 10 = .ok (.ireturn, 1) := by decide +kernel
theorem dX12_as_11 : decode cX12_as 11 = .ok (.iload_n 2, 1) := by decide +kernel
theorem dX12_as_12 : decode cX12_as 12 = .ok (.i2l, 1) := by decide +kernel
theorem dX12_as_13 : decode cX12_as 13 = .ok (.lconst 0, 1) := by decide +kernel
theorem dX12_as_14 : decode cX12_as 14 = .ok (.ldc2_w 252, 3) := by decide +kernel
theorem dX12_as_17 : decode cX12_as 17 = .ok (.invokestatic 99, 3) := by decide +kernel
theorem dX12_as_20 : decode cX12_as 20 = .ok (.ifCond .ne 6, 3) := by decide +kernel
theorem dX12_as_23 : decode cX12_as 23 = .ok (.bipush (-3), 2) := by decide +kernel
theorem dX12_as_25 : decode cX12_as 25 = .ok (.ireturn, 1) := by decide +kernel
theorem dX12_as_26 : decode cX12_as 26 = .ok (.aload_n 0, 1) := by decide +kernel
theorem dX12_as_27 : decode cX12_as 27 = .ok (.getfield 7, 3) := by decide +kernel
theorem dX12_as_30 : decode cX12_as 30 = .ok (.iload_n 1, 1) := by decide +kernel
theorem dX12_as_31 : decode cX12_as 31 = .ok (.iaload, 1) := by decide +kernel
theorem dX12_as_32 : decode cX12_as 32 = .ok (.istore_n 3, 1) := by decide +kernel
theorem dX12_as_33 : decode cX12_as 33 = .ok (.iload_n 2, 1) := by decide +kernel
theorem dX12_as_34 : decode cX12_as 34 = .ok (.ifCond .eq 20, 3) := by decide +kernel
theorem dX12_as_37 : decode cX12_as 37 = .ok (.iload_n 2, 1) := by decide +kernel
theorem dX12_as_38 : decode cX12_as 38 = .ok (.iload_n 3, 1) := by decide +kernel
theorem dX12_as_39 : decode cX12_as 39 = .ok (.iconst 1, 1) := by decide +kernel
theorem dX12_as_40 : decode cX12_as 40 = .ok (.iadd, 1) := by decide +kernel
theorem dX12_as_41 : decode cX12_as 41 = .ok (.if_icmp .eq 13, 3) := by decide +kernel
theorem dX12_as_44 : decode cX12_as 44 = .ok (.iload_n 2, 1) := by decide +kernel
theorem dX12_as_45 : decode cX12_as 45 = .ok (.iconst 1, 1) := by decide +kernel
theorem dX12_as_46 : decode cX12_as 46 = .ok (.if_icmp .ne 12, 3) := by decide +kernel
theorem dX12_as_49 : decode cX12_as 49 = .ok (.iload_n 3, 1) := by decide +kernel
theorem dX12_as_50 : decode cX12_as 50 = .ok (.iconst 3, 1) := by decide +kernel
theorem dX12_as_51 : decode cX12_as 51 = .ok (.if_icmp .ge 7, 3) := by decide +kernel
theorem dX12_as_54 : decode cX12_as 54 = .ok (.iconst 1, 1) := by decide +kernel
theorem dX12_as_55 : decode cX12_as 55 = .ok (.goto 4, 3) := by decide +kernel
theorem dX12_as_58 : decode cX12_as 58 = .ok (.iconst 0, 1) := by decide +kernel
theorem dX12_as_59 : decode cX12_as 59 = .ok (.istore 4, 2) := by decide +kernel
theorem dX12_as_61 : decode cX12_as 61 = .ok (.iload 4, 2) := by decide +kernel
theorem dX12_as_63 : decode cX12_as 63 = .ok (.ifCond .eq 11, 3) := by decide +kernel
theorem dX12_as_66 : decode cX12_as 66 = .ok (.iload_n 3, 1) := by decide +kernel
theorem dX12_as_67 : decode cX12_as 67 = .ok (.iconst 3, 1) := by decide +kernel
theorem dX12_as_68 : decode cX12_as 68 = .ok (.invokestatic 254, 3) := by decide +kernel
theorem dX12_as_71 : decode cX12_as 71 = .ok (.goto 5, 3) := by decide +kernel
theorem dX12_as_74 : decode cX12_as 74 = .ok (.bipush (-4), 2) := by decide +kernel
theorem dX12_as_76 : decode cX12_as 76 = .ok (.ireturn, 1) := by decide +kernel
theorem dX12_deepest_0 : decode cX12_deepest 0 = .ok (.iconst (-1), 1) := by decide +kernel
theorem dX12_deepest_1 : decode cX12_deepest 1 = .ok (.istore_n 3, 1) := by decide +kernel
theorem dX12_deepest_2 : decode cX12_deepest 2 = .ok (.iconst 0, 1) := by decide +kernel
theorem dX12_deepest_3 : decode cX12_deepest 3 = .ok (.istore 4, 2) := by decide +kernel
theorem dX12_deepest_5 : decode cX12_deepest 5 = .ok (.iconst 0, 1) := by decide +kernel
theorem dX12_deepest_6 : decode cX12_deepest 6 = .ok (.istore 5, 2) := by decide +kernel
theorem dX12_deepest_8 : decode cX12_deepest 8 = .ok (.iload 5, 2) := by decide +kernel
theorem dX12_deepest_10 : decode cX12_deepest 10 = .ok (.bipush 6, 2) := by decide +kernel
theorem dX12_deepest_12 : decode cX12_deepest 12 = .ok (.if_icmp .ge 87, 3) := by decide +kernel
theorem dX12_deepest_15 : decode cX12_deepest 15 = .ok (.iload 5, 2) := by decide +kernel
theorem dX12_deepest_17 : decode cX12_deepest 17 = .ok (.iconst 5, 1) := by decide +kernel
theorem dX12_deepest_18 : decode cX12_deepest 18 = .ok (.if_icmp .ne 7, 3) := by decide +kernel
theorem dX12_deepest_21 : decode cX12_deepest 21 = .ok (.iload_n 2, 1) := by decide +kernel
theorem dX12_deepest_22 : decode cX12_deepest 22 = .ok (.ifCond .eq 7, 3) := by decide +kernel
theorem dX12_deepest_25 : decode cX12_deepest 25 = .ok (.iconst 1, 1) := by decide +kernel
theorem dX12_deepest_26 : decode cX12_deepest 26 = .ok (.goto 4, 3) := by decide +kernel
theorem dX12_deepest_29 : decode cX12_deepest 29 = .ok (.iconst 0, 1) := by decide +kernel
theorem dX12_deepest_30 : decode cX12_deepest 30 = .ok (.istore 6, 2) := by decide +kernel
theorem dX12_deepest_32 : decode cX12_deepest 32 = .ok (.iload 6, 2) := by decide +kernel
theorem dX12_deepest_34 : decode cX12_deepest 34 = .ok (.ifCond .eq 22, 3) := by decide +kernel
theorem dX12_deepest_37 : decode cX12_deepest 37 = .ok (.aload_n 0, 1) := by decide +kernel
theorem dX12_deepest_38 : decode cX12_deepest 38 = .ok (.getfield 29, 3) := by decide +kernel
theorem dX12_deepest_41 : decode cX12_deepest 41 = .ok (.iload_n 1, 1) := by decide +kernel
theorem dX12_deepest_42 : decode cX12_deepest 42 = .ok (.iload 5, 2) := by decide +kernel
theorem dX12_deepest_44 : decode cX12_deepest 44 = .ok (.iadd, 1) := by decide +kernel
theorem dX12_deepest_45 : decode cX12_deepest 45 = .ok (.iaload, 1) := by decide +kernel
theorem dX12_deepest_46 : decode cX12_deepest 46 = .ok (.iload 4, 2) := by decide +kernel
theorem dX12_deepest_48 : decode cX12_deepest 48 = .ok (.if_icmp .le 8, 3) := by decide +kernel
theorem dX12_deepest_51 : decode cX12_deepest 51 = .ok (.iload 5, 2) := by decide +kernel
theorem dX12_deepest_53 : decode cX12_deepest 53 = .ok (.goto 4, 3) := by decide +kernel
theorem dX12_deepest_56 : decode cX12_deepest 56 = .ok (.iload_n 3, 1) := by decide +kernel
theorem dX12_deepest_57 : decode cX12_deepest 57 = .ok (.istore_n 3, 1) := by decide +kernel
theorem dX12_deepest_58 : decode cX12_deepest 58 = .ok (.iload 6, 2) := by decide +kernel
theorem dX12_deepest_60 : decode cX12_deepest 60 = .ok (.ifCond .eq 29, 3) := by decide +kernel
theorem dX12_deepest_63 : decode cX12_deepest 63 = .ok (.aload_n 0, 1) := by decide +kernel
theorem dX12_deepest_64 : decode cX12_deepest 64 = .ok (.getfield 29, 3) := by decide +kernel
theorem dX12_deepest_67 : decode cX12_deepest 67 = .ok (.iload_n 1, 1) := by decide +kernel
theorem dX12_deepest_68 : decode cX12_deepest 68 = .ok (.iload 5, 2) := by decide +kernel
theorem dX12_deepest_70 : decode cX12_deepest 70 = .ok (.iadd, 1) := by decide +kernel
theorem dX12_deepest_71 : decode cX12_deepest 71 = .ok (.iaload, 1) := by decide +kernel
theorem dX12_deepest_72 : decode cX12_deepest 72 = .ok (.iload 4, 2) := by decide +kernel
theorem dX12_deepest_74 : decode cX12_deepest 74 = .ok (.if_icmp .le 15, 3) := by decide +kernel
theorem dX12_deepest_77 : decode cX12_deepest 77 = .ok (.aload_n 0, 1) := by decide +kernel
theorem dX12_deepest_78 : decode cX12_deepest 78 = .ok (.getfield 29, 3) := by decide +kernel
theorem dX12_deepest_81 : decode cX12_deepest 81 = .ok (.iload_n 1, 1) := by decide +kernel
theorem dX12_deepest_82 : decode cX12_deepest 82 = .ok (.iload 5, 2) := by decide +kernel
theorem dX12_deepest_84 : decode cX12_deepest 84 = .ok (.iadd, 1) := by decide +kernel
theorem dX12_deepest_85 : decode cX12_deepest 85 = .ok (.iaload, 1) := by decide +kernel
theorem dX12_deepest_86 : decode cX12_deepest 86 = .ok (.goto 5, 3) := by decide +kernel
theorem dX12_deepest_89 : decode cX12_deepest 89 = .ok (.iload 4, 2) := by decide +kernel
theorem dX12_deepest_91 : decode cX12_deepest 91 = .ok (.istore 4, 2) := by decide +kernel
theorem dX12_deepest_93 : decode cX12_deepest 93 = .ok (.iinc 5 1, 3) := by decide +kernel
theorem dX12_deepest_96 : decode cX12_deepest 96 = .ok (.goto (-88), 3) := by decide +kernel
theorem dX12_deepest_99 : decode cX12_deepest 99 = .ok (.iload_n 3, 1) := by decide +kernel
theorem dX12_deepest_100 : decode cX12_deepest 100 = .ok (.ireturn, 1) := by decide +kernel
theorem dX12_rub_0 : decode cX12_rub 0 = .ok (.aload_n 0, 1) := by decide +kernel
theorem dX12_rub_1 : decode cX12_rub 1 = .ok (.bipush 18, 2) := by decide +kernel
theorem dX12_rub_3 : decode cX12_rub 3 = .ok (.bipush 6, 2) := by decide +kernel
theorem dX12_rub_5 : decode cX12_rub 5 = .ok (.iload_n 1, 1) := by decide +kernel
theorem dX12_rub_6 : decode cX12_rub 6 = .ok (.imul, 1) := by decide +kernel
theorem dX12_rub_7 : decode cX12_rub 7 = .ok (.iadd, 1) := by decide +kernel
theorem dX12_rub_8 : decode cX12_rub 8 = .ok (.aload_n 0, 1) := by decide +kernel
theorem dX12_rub_9 : decode cX12_rub 9 = .ok (.getfield 29, 3) := by decide +kernel
theorem dX12_rub_12 : decode cX12_rub 12 = .ok (.bipush 57, 2) := by decide +kernel
theorem dX12_rub_14 : decode cX12_rub 14 = .ok (.iaload, 1) := by decide +kernel
theorem dX12_rub_15 : decode cX12_rub 15 = .ok (.ifCond .le 7, 3) := by decide +kernel
theorem dX12_rub_18 : decode cX12_rub 18 = .ok (.iconst 1, 1) := by decide +kernel
theorem dX12_rub_19 : decode cX12_rub 19 = .ok (.goto 4, 3) := by decide +kernel
theorem dX12_rub_22 : decode cX12_rub 22 = .ok (.iconst 0, 1) := by decide +kernel
theorem dX12_rub_23 : decode cX12_rub 23 = .ok (.invokevirtual 258, 3) := by decide +kernel
theorem dX12_rub_26 : decode cX12_rub 26 = .ok (.istore_n 2, 1) := by decide +kernel
theorem dX12_rub_27 : decode cX12_rub 27 = .ok (.iload_n 2, 1) := by decide +kernel
theorem dX12_rub_28 : decode cX12_rub 28 = .ok (.ifCond .lt 55, 3) := by decide +kernel
theorem dX12_rub_31 : decode cX12_rub 31 = .ok (.aload_n 0, 1) := by decide +kernel
theorem dX12_rub_32 : decode cX12_rub 32 = .ok (.getfield 29, 3) := by decide +kernel
theorem dX12_rub_35 : decode cX12_rub 35 = .ok (.bipush 18, 2) := by decide +kernel
theorem dX12_rub_37 : decode cX12_rub 37 = .ok (.bipush 6, 2) := by decide +kernel
theorem dX12_rub_39 : decode cX12_rub 39 = .ok (.iload_n 1, 1) := by decide +kernel
theorem dX12_rub_40 : decode cX12_rub 40 = .ok (.imul, 1) := by decide +kernel
theorem dX12_rub_41 : decode cX12_rub 41 = .ok (.iadd, 1) := by decide +kernel
theorem dX12_rub_42 : decode cX12_rub 42 = .ok (.iload_n 2, 1) := by decide +kernel
theorem dX12_rub_43 : decode cX12_rub 43 = .ok (.iadd, 1) := by decide +kernel
theorem dX12_rub_44 : decode cX12_rub 44 = .ok (.dup2, 1) := by decide +kernel
theorem dX12_rub_45 : decode cX12_rub 45 = .ok (.iaload, 1) := by decide +kernel
theorem dX12_rub_46 : decode cX12_rub 46 = .ok (.iconst 1, 1) := by decide +kernel
theorem dX12_rub_47 : decode cX12_rub 47 = .ok (.isub, 1) := by decide +kernel
theorem dX12_rub_48 : decode cX12_rub 48 = .ok (.iastore, 1) := by decide +kernel
theorem dX12_rub_49 : decode cX12_rub 49 = .ok (.aload_n 0, 1) := by decide +kernel
theorem dX12_rub_50 : decode cX12_rub 50 = .ok (.getfield 29, 3) := by decide +kernel
theorem dX12_rub_53 : decode cX12_rub 53 = .ok (.bipush 57, 2) := by decide +kernel
theorem dX12_rub_55 : decode cX12_rub 55 = .ok (.dup2, 1) := by decide +kernel
theorem dX12_rub_56 : decode cX12_rub 56 = .ok (.iaload, 1) := by decide +kernel
theorem dX12_rub_57 : decode cX12_rub 57 = .ok (.iload_n 2, 1) := by decide +kernel
theorem dX12_rub_58 : decode cX12_rub 58 = .ok (.iconst 5, 1) := by decide +kernel
theorem dX12_rub_59 : decode cX12_rub 59 = .ok (.if_icmp .ne 7, 3) := by decide +kernel
theorem dX12_rub_62 : decode cX12_rub 62 = .ok (.iconst 1, 1) := by decide +kernel
theorem dX12_rub_63 : decode cX12_rub 63 = .ok (.goto 4, 3) := by decide +kernel
theorem dX12_rub_66 : decode cX12_rub 66 = .ok (.iconst 0, 1) := by decide +kernel
theorem dX12_rub_67 : decode cX12_rub 67 = .ok (.isub, 1) := by decide +kernel
theorem dX12_rub_68 : decode cX12_rub 68 = .ok (.iastore, 1) := by decide +kernel
theorem dX12_rub_69 : decode cX12_rub 69 = .ok (.aload_n 0, 1) := by decide +kernel
theorem dX12_rub_70 : decode cX12_rub 70 = .ok (.getfield 29, 3) := by decide +kernel
theorem dX12_rub_73 : decode cX12_rub 73 = .ok (.bipush 59, 2) := by decide +kernel
theorem dX12_rub_75 : decode cX12_rub 75 = .ok (.iload_n 2, 1) := by decide +kernel
theorem dX12_rub_76 : decode cX12_rub 76 = .ok (.iadd, 1) := by decide +kernel
theorem dX12_rub_77 : decode cX12_rub 77 = .ok (.dup2, 1) := by decide +kernel
theorem dX12_rub_78 : decode cX12_rub 78 = .ok (.iaload, 1) := by decide +kernel
theorem dX12_rub_79 : decode cX12_rub 79 = .ok (.bipush 64, 2) := by decide +kernel
theorem dX12_rub_81 : decode cX12_rub 81 = .ok (.iadd, 1) := by decide +kernel
theorem dX12_rub_82 : decode cX12_rub 82 = .ok (.iastore, 1) := by decide +kernel
theorem dX12_rub_83 : decode cX12_rub 83 = .ok (.return_, 1) := by decide +kernel
theorem dX12_work_0 : decode cX12_work 0 = .ok (.aload_n 0, 1) := by decide +kernel
theorem dX12_work_1 : decode cX12_work 1 = .ok (.getfield 7, 3) := by decide +kernel
theorem dX12_work_4 : decode cX12_work 4 = .ok (.iload_n 2, 1) := by decide +kernel
theorem dX12_work_5 : decode cX12_work 5 = .ok (.iaload, 1) := by decide +kernel
theorem dX12_work_6 : decode cX12_work 6 = .ok (.aload_n 0, 1) := by decide +kernel
theorem dX12_work_7 : decode cX12_work 7 = .ok (.getfield 22, 3) := by decide +kernel
theorem dX12_work_10 : decode cX12_work 10 = .ok (.iload_n 1, 1) := by decide +kernel
theorem dX12_work_11 : decode cX12_work 11 = .ok (.iaload, 1) := by decide +kernel
theorem dX12_work_12 : decode cX12_work 12 = .ok (.invokestatic 254, 3) := by decide +kernel
theorem dX12_work_15 : decode cX12_work 15 = .ok (.istore_n 3, 1) := by decide +kernel
theorem dX12_work_16 : decode cX12_work 16 = .ok (.iconst 0, 1) := by decide +kernel
theorem dX12_work_17 : decode cX12_work 17 = .ok (.istore 4, 2) := by decide +kernel
theorem dX12_work_19 : decode cX12_work 19 = .ok (.iload 4, 2) := by decide +kernel
theorem dX12_work_21 : decode cX12_work 21 = .ok (.iload_n 3, 1) := by decide +kernel
theorem dX12_work_22 : decode cX12_work 22 = .ok (.if_icmp .ge 14, 3) := by decide +kernel
theorem dX12_work_25 : decode cX12_work 25 = .ok (.aload_n 0, 1) := by decide +kernel
theorem dX12_work_26 : decode cX12_work 26 = .ok (.iload_n 2, 1) := by decide +kernel
theorem dX12_work_27 : decode cX12_work 27 = .ok (.invokevirtual 262, 3) := by decide +kernel
theorem dX12_work_30 : decode cX12_work 30 = .ok (.iinc 4 1, 3) := by decide +kernel
theorem dX12_work_33 : decode cX12_work 33 = .ok (.goto (-14), 3) := by decide +kernel
theorem dX12_work_36 : decode cX12_work 36 = .ok (.aload_n 0, 1) := by decide +kernel
theorem dX12_work_37 : decode cX12_work 37 = .ok (.getfield 29, 3) := by decide +kernel
theorem dX12_work_40 : decode cX12_work 40 = .ok (.iconst 0, 1) := by decide +kernel
theorem dX12_work_41 : decode cX12_work 41 = .ok (.iload_n 2, 1) := by decide +kernel
theorem dX12_work_42 : decode cX12_work 42 = .ok (.iadd, 1) := by decide +kernel
theorem dX12_work_43 : decode cX12_work 43 = .ok (.iaload, 1) := by decide +kernel
theorem dX12_work_44 : decode cX12_work 44 = .ok (.aload_n 0, 1) := by decide +kernel
theorem dX12_work_45 : decode cX12_work 45 = .ok (.getfield 7, 3) := by decide +kernel
theorem dX12_work_48 : decode cX12_work 48 = .ok (.iload_n 2, 1) := by decide +kernel
theorem dX12_work_49 : decode cX12_work 49 = .ok (.iaload, 1) := by decide +kernel
theorem dX12_work_50 : decode cX12_work 50 = .ok (.invokestatic 266, 3) := by decide +kernel
theorem dX12_work_53 : decode cX12_work 53 = .ok (.isub, 1) := by decide +kernel
theorem dX12_work_54 : decode cX12_work 54 = .ok (.istore 4, 2) := by decide +kernel
theorem dX12_work_56 : decode cX12_work 56 = .ok (.aload_n 0, 1) := by decide +kernel
theorem dX12_work_57 : decode cX12_work 57 = .ok (.getfield 29, 3) := by decide +kernel
theorem dX12_work_60 : decode cX12_work 60 = .ok (.iconst 0, 1) := by decide +kernel
theorem dX12_work_61 : decode cX12_work 61 = .ok (.iload_n 2, 1) := by decide +kernel
theorem dX12_work_62 : decode cX12_work 62 = .ok (.iadd, 1) := by decide +kernel
theorem dX12_work_63 : decode cX12_work 63 = .ok (.iload 4, 2) := by decide +kernel
theorem dX12_work_65 : decode cX12_work 65 = .ok (.ifCond .le 8, 3) := by decide +kernel
theorem dX12_work_68 : decode cX12_work 68 = .ok (.iload 4, 2) := by decide +kernel
theorem dX12_work_70 : decode cX12_work 70 = .ok (.goto 4, 3) := by decide +kernel
theorem dX12_work_73 : decode cX12_work 73 = .ok (.iconst 0, 1) := by decide +kernel
theorem dX12_work_74 : decode cX12_work 74 = .ok (.iastore, 1) := by decide +kernel
theorem dX12_work_75 : decode cX12_work 75 = .ok (.iload 4, 2) := by decide +kernel
theorem dX12_work_77 : decode cX12_work 77 = .ok (.ifCond .gt 23, 3) := by decide +kernel
theorem dX12_work_80 : decode cX12_work 80 = .ok (.aload_n 0, 1) := by decide +kernel
theorem dX12_work_81 : decode cX12_work 81 = .ok (.getfield 29, 3) := by decide +kernel
theorem dX12_work_84 : decode cX12_work 84 = .ok (.bipush 6, 2) := by decide +kernel
theorem dX12_work_86 : decode cX12_work 86 = .ok (.iload_n 2, 1) := by decide +kernel
theorem dX12_work_87 : decode cX12_work 87 = .ok (.iadd, 1) := by decide +kernel
theorem dX12_work_88 : decode cX12_work 88 = .ok (.iconst 4, 1) := by decide +kernel
theorem dX12_work_89 : decode cX12_work 89 = .ok (.iastore, 1) := by decide +kernel
theorem dX12_work_90 : decode cX12_work 90 = .ok (.aload_n 0, 1) := by decide +kernel
theorem dX12_work_91 : decode cX12_work 91 = .ok (.getfield 29, 3) := by decide +kernel
theorem dX12_work_94 : decode cX12_work 94 = .ok (.bipush 54, 2) := by decide +kernel
theorem dX12_work_96 : decode cX12_work 96 = .ok (.iload_n 1, 1) := by decide +kernel
theorem dX12_work_97 : decode cX12_work 97 = .ok (.iadd, 1) := by decide +kernel
theorem dX12_work_98 : decode cX12_work 98 = .ok (.iconst (-1), 1) := by decide +kernel
theorem dX12_work_99 : decode cX12_work 99 = .ok (.iastore, 1) := by decide +kernel
theorem dX12_work_100 : decode cX12_work 100 = .ok (.return_, 1) := by decide +kernel
theorem dX12_pass_0 : decode cX12_pass 0 = .ok (.bipush 6, 2) := by decide +kernel
theorem dX12_pass_2 : decode cX12_pass 2 = .ok (.istore_n 1, 1) := by decide +kernel
theorem dX12_pass_3 : decode cX12_pass 3 = .ok (.iload_n 1, 1) := by decide +kernel
theorem dX12_pass_4 : decode cX12_pass 4 = .ok (.ifCond .lt 63, 3) := by decide +kernel
theorem dX12_pass_7 : decode cX12_pass 7 = .ok (.iconst 0, 1) := by decide +kernel
theorem dX12_pass_8 : decode cX12_pass 8 = .ok (.istore_n 2, 1) := by decide +kernel
theorem dX12_pass_9 : decode cX12_pass 9 = .ok (.iload_n 2, 1) := by decide +kernel
theorem dX12_pass_10 : decode cX12_pass 10 = .ok (.bipush 6, 2) := by decide +kernel
theorem dX12_pass_12 : decode cX12_pass 12 = .ok (.if_icmp .ge 49, 3) := by decide +kernel
theorem dX12_pass_15 : decode cX12_pass 15 = .ok (.aload_n 0, 1) := by decide +kernel
theorem dX12_pass_16 : decode cX12_pass 16 = .ok (.getfield 29, 3) := by decide +kernel
theorem dX12_pass_19 : decode cX12_pass 19 = .ok (.bipush 59, 2) := by decide +kernel
theorem dX12_pass_21 : decode cX12_pass 21 = .ok (.bipush 6, 2) := by decide +kernel
theorem dX12_pass_23 : decode cX12_pass 23 = .ok (.iload_n 1, 1) := by decide +kernel
theorem dX12_pass_24 : decode cX12_pass 24 = .ok (.imul, 1) := by decide +kernel
theorem dX12_pass_25 : decode cX12_pass 25 = .ok (.iadd, 1) := by decide +kernel
theorem dX12_pass_26 : decode cX12_pass 26 = .ok (.iload_n 2, 1) := by decide +kernel
theorem dX12_pass_27 : decode cX12_pass 27 = .ok (.iadd, 1) := by decide +kernel
theorem dX12_pass_28 : decode cX12_pass 28 = .ok (.iload_n 1, 1) := by decide +kernel
theorem dX12_pass_29 : decode cX12_pass 29 = .ok (.ifCond .ne 7, 3) := by decide +kernel
theorem dX12_pass_32 : decode cX12_pass 32 = .ok (.iconst 0, 1) := by decide +kernel
theorem dX12_pass_33 : decode cX12_pass 33 = .ok (.goto 21, 3) := by decide +kernel
theorem dX12_pass_36 : decode cX12_pass 36 = .ok (.aload_n 0, 1) := by decide +kernel
theorem dX12_pass_37 : decode cX12_pass 37 = .ok (.getfield 29, 3) := by decide +kernel
theorem dX12_pass_40 : decode cX12_pass 40 = .ok (.bipush 59, 2) := by decide +kernel
theorem dX12_pass_42 : decode cX12_pass 42 = .ok (.bipush 6, 2) := by decide +kernel
theorem dX12_pass_44 : decode cX12_pass 44 = .ok (.iload_n 1, 1) := by decide +kernel
theorem dX12_pass_45 : decode cX12_pass 45 = .ok (.iconst 1, 1) := by decide +kernel
theorem dX12_pass_46 : decode cX12_pass 46 = .ok (.isub, 1) := by decide +kernel
theorem dX12_pass_47 : decode cX12_pass 47 = .ok (.imul, 1) := by decide +kernel
theorem dX12_pass_48 : decode cX12_pass 48 = .ok (.iadd, 1) := by decide +kernel
theorem dX12_pass_49 : decode cX12_pass 49 = .ok (.iload_n 2, 1) := by decide +kernel
theorem dX12_pass_50 : decode cX12_pass 50 = .ok (.iadd, 1) := by decide +kernel
theorem dX12_pass_51 : decode cX12_pass 51 = .ok (.iaload, 1) := by decide +kernel
theorem dX12_pass_52 : decode cX12_pass 52 = .ok (.iconst 2, 1) := by decide +kernel
theorem dX12_pass_53 : decode cX12_pass 53 = .ok (.idiv, 1) := by decide +kernel
theorem dX12_pass_54 : decode cX12_pass 54 = .ok (.iastore, 1) := by decide +kernel
theorem dX12_pass_55 : decode cX12_pass 55 = .ok (.iinc 2 1, 3) := by decide +kernel
theorem dX12_pass_58 : decode cX12_pass 58 = .ok (.goto (-49), 3) := by decide +kernel
theorem dX12_pass_61 : decode cX12_pass 61 = .ok (.iinc 1 (-1), 3) := by decide +kernel
theorem dX12_pass_64 : decode cX12_pass 64 = .ok (.goto (-61), 3) := by decide +kernel
theorem dX12_pass_67 : decode cX12_pass 67 = .ok (.iconst 0, 1) := by decide +kernel
theorem dX12_pass_68 : decode cX12_pass 68 = .ok (.istore_n 1, 1) := by decide +kernel
theorem dX12_pass_69 : decode cX12_pass 69 = .ok (.iload_n 1, 1) := by decide +kernel
theorem dX12_pass_70 : decode cX12_pass 70 = .ok (.aload_n 0, 1) := by decide +kernel
theorem dX12_pass_71 : decode cX12_pass 71 = .ok (.getfield 103, 3) := by decide +kernel
theorem dX12_pass_74 : decode cX12_pass 74 = .ok (.if_icmp .ge 35, 3) := by decide +kernel
theorem dX12_pass_77 : decode cX12_pass 77 = .ok (.aload_n 0, 1) := by decide +kernel
theorem dX12_pass_78 : decode cX12_pass 78 = .ok (.getfield 29, 3) := by decide +kernel
theorem dX12_pass_81 : decode cX12_pass 81 = .ok (.bipush 54, 2) := by decide +kernel
theorem dX12_pass_83 : decode cX12_pass 83 = .ok (.iload_n 1, 1) := by decide +kernel
theorem dX12_pass_84 : decode cX12_pass 84 = .ok (.iadd, 1) := by decide +kernel
theorem dX12_pass_85 : decode cX12_pass 85 = .ok (.iaload, 1) := by decide +kernel
theorem dX12_pass_86 : decode cX12_pass 86 = .ok (.ifCond .lt 17, 3) := by decide +kernel
theorem dX12_pass_89 : decode cX12_pass 89 = .ok (.aload_n 0, 1) := by decide +kernel
theorem dX12_pass_90 : decode cX12_pass 90 = .ok (.iload_n 1, 1) := by decide +kernel
theorem dX12_pass_91 : decode cX12_pass 91 = .ok (.aload_n 0, 1) := by decide +kernel
theorem dX12_pass_92 : decode cX12_pass 92 = .ok (.getfield 29, 3) := by decide +kernel
theorem dX12_pass_95 : decode cX12_pass 95 = .ok (.bipush 54, 2) := by decide +kernel
theorem dX12_pass_97 : decode cX12_pass 97 = .ok (.iload_n 1, 1) := by decide +kernel
theorem dX12_pass_98 : decode cX12_pass 98 = .ok (.iadd, 1) := by decide +kernel
theorem dX12_pass_99 : decode cX12_pass 99 = .ok (.iaload, 1) := by decide +kernel
theorem dX12_pass_100 : decode cX12_pass 100 = .ok (.invokevirtual 269, 3) := by decide +kernel
theorem dX12_pass_103 : decode cX12_pass 103 = .ok (.iinc 1 1, 3) := by decide +kernel
theorem dX12_pass_106 : decode cX12_pass 106 = .ok (.goto (-37), 3) := by decide +kernel
theorem dX12_pass_109 : decode cX12_pass 109 = .ok (.iconst 0, 1) := by decide +kernel
theorem dX12_pass_110 : decode cX12_pass 110 = .ok (.istore_n 1, 1) := by decide +kernel
theorem dX12_pass_111 : decode cX12_pass 111 = .ok (.iload_n 1, 1) := by decide +kernel
theorem dX12_pass_112 : decode cX12_pass 112 = .ok (.aload_n 0, 1) := by decide +kernel
theorem dX12_pass_113 : decode cX12_pass 113 = .ok (.getfield 96, 3) := by decide +kernel
theorem dX12_pass_116 : decode cX12_pass 116 = .ok (.if_icmp .ge 39, 3) := by decide +kernel
theorem dX12_pass_119 : decode cX12_pass 119 = .ok (.aload_n 0, 1) := by decide +kernel
theorem dX12_pass_120 : decode cX12_pass 120 = .ok (.getfield 29, 3) := by decide +kernel
theorem dX12_pass_123 : decode cX12_pass 123 = .ok (.bipush 12, 2) := by decide +kernel
theorem dX12_pass_125 : decode cX12_pass 125 = .ok (.iload_n 1, 1) := by decide +kernel
theorem dX12_pass_126 : decode cX12_pass 126 = .ok (.iadd, 1) := by decide +kernel
theorem dX12_pass_127 : decode cX12_pass 127 = .ok (.dup2, 1) := by decide +kernel
theorem dX12_pass_128 : decode cX12_pass 128 = .ok (.iaload, 1) := by decide +kernel
theorem dX12_pass_129 : decode cX12_pass 129 = .ok (.aload_n 0, 1) := by decide +kernel
theorem dX12_pass_130 : decode cX12_pass 130 = .ok (.getfield 29, 3) := by decide +kernel
theorem dX12_pass_133 : decode cX12_pass 133 = .ok (.bipush 6, 2) := by decide +kernel
theorem dX12_pass_135 : decode cX12_pass 135 = .ok (.iload_n 1, 1) := by decide +kernel
theorem dX12_pass_136 : decode cX12_pass 136 = .ok (.iadd, 1) := by decide +kernel
theorem dX12_pass_137 : decode cX12_pass 137 = .ok (.iaload, 1) := by decide +kernel
theorem dX12_pass_138 : decode cX12_pass 138 = .ok (.iconst 2, 1) := by decide +kernel
theorem dX12_pass_139 : decode cX12_pass 139 = .ok (.if_icmp .ne 7, 3) := by decide +kernel
theorem dX12_pass_142 : decode cX12_pass 142 = .ok (.iconst 1, 1) := by decide +kernel
theorem dX12_pass_143 : decode cX12_pass 143 = .ok (.goto 4, 3) := by decide +kernel
theorem dX12_pass_146 : decode cX12_pass 146 = .ok (.iconst 0, 1) := by decide +kernel
theorem dX12_pass_147 : decode cX12_pass 147 = .ok (.iadd, 1) := by decide +kernel
theorem dX12_pass_148 : decode cX12_pass 148 = .ok (.iastore, 1) := by decide +kernel
theorem dX12_pass_149 : decode cX12_pass 149 = .ok (.iinc 1 1, 3) := by decide +kernel
theorem dX12_pass_152 : decode cX12_pass 152 = .ok (.goto (-41), 3) := by decide +kernel
theorem dX12_pass_155 : decode cX12_pass 155 = .ok (.aload_n 0, 1) := by decide +kernel
theorem dX12_pass_156 : decode cX12_pass 156 = .ok (.getfield 29, 3) := by decide +kernel
theorem dX12_pass_159 : decode cX12_pass 159 = .ok (.bipush 58, 2) := by decide +kernel
theorem dX12_pass_161 : decode cX12_pass 161 = .ok (.dup2, 1) := by decide +kernel
theorem dX12_pass_162 : decode cX12_pass 162 = .ok (.iaload, 1) := by decide +kernel
theorem dX12_pass_163 : decode cX12_pass 163 = .ok (.iconst 1, 1) := by decide +kernel
theorem dX12_pass_164 : decode cX12_pass 164 = .ok (.iadd, 1) := by decide +kernel
theorem dX12_pass_165 : decode cX12_pass 165 = .ok (.iastore, 1) := by decide +kernel
theorem dX12_pass_166 : decode cX12_pass 166 = .ok (.return_, 1) := by decide +kernel
theorem dX12_remember_0 : decode cX12_remember 0 = .ok (.aload_n 0, 1) := by decide +kernel
theorem dX12_remember_1 : decode cX12_remember 1 = .ok (.getfield 223, 3) := by decide +kernel
theorem dX12_remember_4 : decode cX12_remember 4 = .ok (.bipush 8, 2) := by decide +kernel
theorem dX12_remember_6 : decode cX12_remember 6 = .ok (.if_icmp .ne 44, 3) := by decide +kernel
theorem dX12_remember_9 : decode cX12_remember 9 = .ok (.bipush 101, 2) := by decide +kernel
theorem dX12_remember_11 : decode cX12_remember 11 = .ok (.istore_n 1, 1) := by decide +kernel
theorem dX12_remember_12 : decode cX12_remember 12 = .ok (.iload_n 1, 1) := by decide +kernel
theorem dX12_remember_13 : decode cX12_remember 13 = .ok (.sipush 808, 3) := by decide +kernel
theorem dX12_remember_16 : decode cX12_remember 16 = .ok (.if_icmp .ge 24, 3) := by decide +kernel
theorem dX12_remember_19 : decode cX12_remember 19 = .ok (.aload_n 0, 1) := by decide +kernel
theorem dX12_remember_20 : decode cX12_remember 20 = .ok (.getfield 50, 3) := by decide +kernel
theorem dX12_remember_23 : decode cX12_remember 23 = .ok (.iload_n 1, 1) := by decide +kernel
theorem dX12_remember_24 : decode cX12_remember 24 = .ok (.bipush 101, 2) := by decide +kernel
theorem dX12_remember_26 : decode cX12_remember 26 = .ok (.isub, 1) := by decide +kernel
theorem dX12_remember_27 : decode cX12_remember 27 = .ok (.aload_n 0, 1) := by decide +kernel
theorem dX12_remember_28 : decode cX12_remember 28 = .ok (.getfield 50, 3) := by decide +kernel
theorem dX12_remember_31 : decode cX12_remember 31 = .ok (.iload_n 1, 1) := by decide +kernel
theorem dX12_remember_32 : decode cX12_remember 32 = .ok (.iaload, 1) := by decide +kernel
theorem dX12_remember_33 : decode cX12_remember 33 = .ok (.iastore, 1) := by decide +kernel
theorem dX12_remember_34 : decode cX12_remember 34 = .ok (.iinc 1 1, 3) := by decide +kernel
theorem dX12_remember_37 : decode cX12_remember 37 = .ok (.goto (-25), 3) := by decide +kernel
theorem dX12_remember_40 : decode cX12_remember 40 = .ok (.aload_n 0, 1) := by decide +kernel
theorem dX12_remember_41 : decode cX12_remember 41 = .ok (.dup, 1) := by decide +kernel
theorem dX12_remember_42 : decode cX12_remember 42 = .ok (.getfield 223, 3) := by decide +kernel
theorem dX12_remember_45 : decode cX12_remember 45 = .ok (.iconst 1, 1) := by decide +kernel
theorem dX12_remember_46 : decode cX12_remember 46 = .ok (.isub, 1) := by decide +kernel
theorem dX12_remember_47 : decode cX12_remember 47 = .ok (.putfield 223, 3) := by decide +kernel
theorem dX12_remember_50 : decode cX12_remember 50 = .ok (.iconst 0, 1) := by decide +kernel
theorem dX12_remember_51 : decode cX12_remember 51 = .ok (.istore_n 1, 1) := by decide +kernel
theorem dX12_remember_52 : decode cX12_remember 52 = .ok (.iload_n 1, 1) := by decide +kernel
theorem dX12_remember_53 : decode cX12_remember 53 = .ok (.bipush 101, 2) := by decide +kernel
theorem dX12_remember_55 : decode cX12_remember 55 = .ok (.if_icmp .ge 29, 3) := by decide +kernel
theorem dX12_remember_58 : decode cX12_remember 58 = .ok (.aload_n 0, 1) := by decide +kernel
theorem dX12_remember_59 : decode cX12_remember 59 = .ok (.getfield 50, 3) := by decide +kernel
theorem dX12_remember_62 : decode cX12_remember 62 = .ok (.bipush 101, 2) := by decide +kernel
theorem dX12_remember_64 : decode cX12_remember 64 = .ok (.aload_n 0, 1) := by decide +kernel
theorem dX12_remember_65 : decode cX12_remember 65 = .ok (.getfield 223, 3) := by decide +kernel
theorem dX12_remember_68 : decode cX12_remember 68 = .ok (.imul, 1) := by decide +kernel
theorem dX12_remember_69 : decode cX12_remember 69 = .ok (.iload_n 1, 1) := by decide +kernel
theorem dX12_remember_70 : decode cX12_remember 70 = .ok (.iadd, 1) := by decide +kernel
theorem dX12_remember_71 : decode cX12_remember 71 = .ok (.aload_n 0, 1) := by decide +kernel
theorem dX12_remember_72 : decode cX12_remember 72 = .ok (.getfield 29, 3) := by decide +kernel
theorem dX12_remember_75 : decode cX12_remember 75 = .ok (.iload_n 1, 1) := by decide +kernel
theorem dX12_remember_76 : decode cX12_remember 76 = .ok (.iaload, 1) := by decide +kernel
theorem dX12_remember_77 : decode cX12_remember 77 = .ok (.iastore, 1) := by decide +kernel
theorem dX12_remember_78 : decode cX12_remember 78 = .ok (.iinc 1 1, 3) := by decide +kernel
theorem dX12_remember_81 : decode cX12_remember 81 = .ok (.goto (-29), 3) := by decide +kernel
theorem dX12_remember_84 : decode cX12_remember 84 = .ok (.aload_n 0, 1) := by decide +kernel
theorem dX12_remember_85 : decode cX12_remember 85 = .ok (.dup, 1) := by decide +kernel
theorem dX12_remember_86 : decode cX12_remember 86 = .ok (.getfield 223, 3) := by decide +kernel
theorem dX12_remember_89 : decode cX12_remember 89 = .ok (.iconst 1, 1) := by decide +kernel
theorem dX12_remember_90 : decode cX12_remember 90 = .ok (.iadd, 1) := by decide +kernel
theorem dX12_remember_91 : decode cX12_remember 91 = .ok (.putfield 223, 3) := by decide +kernel
theorem dX12_remember_94 : decode cX12_remember 94 = .ok (.return_, 1) := by decide +kernel
theorem dX12_allDeep_0 : decode cX12_allDeep 0 = .ok (.iconst 0, 1) := by decide +kernel
theorem dX12_allDeep_1 : decode cX12_allDeep 1 = .ok (.istore_n 2, 1) := by decide +kernel
theorem dX12_allDeep_2 : decode cX12_allDeep 2 = .ok (.iconst 0, 1) := by decide +kernel
theorem dX12_allDeep_3 : decode cX12_allDeep 3 = .ok (.istore_n 3, 1) := by decide +kernel
theorem dX12_allDeep_4 : decode cX12_allDeep 4 = .ok (.iload_n 3, 1) := by decide +kernel
theorem dX12_allDeep_5 : decode cX12_allDeep 5 = .ok (.bipush 6, 2) := by decide +kernel
theorem dX12_allDeep_7 : decode cX12_allDeep 7 = .ok (.if_icmp .ge 26, 3) := by decide +kernel
theorem dX12_allDeep_10 : decode cX12_allDeep 10 = .ok (.iload_n 2, 1) := by decide +kernel
theorem dX12_allDeep_11 : decode cX12_allDeep 11 = .ok (.aload_n 0, 1) := by decide +kernel
theorem dX12_allDeep_12 : decode cX12_allDeep 12 = .ok (.getfield 29, 3) := by decide +kernel
theorem dX12_allDeep_15 : decode cX12_allDeep 15 = .ok (.bipush 18, 2) := by decide +kernel
theorem dX12_allDeep_17 : decode cX12_allDeep 17 = .ok (.bipush 6, 2) := by decide +kernel
theorem dX12_allDeep_19 : decode cX12_allDeep 19 = .ok (.iload_n 1, 1) := by decide +kernel
theorem dX12_allDeep_20 : decode cX12_allDeep 20 = .ok (.imul, 1) := by decide +kernel
theorem dX12_allDeep_21 : decode cX12_allDeep 21 = .ok (.iadd, 1) := by decide +kernel
theorem dX12_allDeep_22 : decode cX12_allDeep 22 = .ok (.iload_n 3, 1) := by decide +kernel
theorem dX12_allDeep_23 : decode cX12_allDeep 23 = .ok (.iadd, 1) := by decide +kernel
theorem dX12_allDeep_24 : decode cX12_allDeep 24 = .ok (.iaload, 1) := by decide +kernel
theorem dX12_allDeep_25 : decode cX12_allDeep 25 = .ok (.iadd, 1) := by decide +kernel
theorem dX12_allDeep_26 : decode cX12_allDeep 26 = .ok (.istore_n 2, 1) := by decide +kernel
theorem dX12_allDeep_27 : decode cX12_allDeep 27 = .ok (.iinc 3 1, 3) := by decide +kernel
theorem dX12_allDeep_30 : decode cX12_allDeep 30 = .ok (.goto (-26), 3) := by decide +kernel
theorem dX12_allDeep_33 : decode cX12_allDeep 33 = .ok (.iload_n 2, 1) := by decide +kernel
theorem dX12_allDeep_34 : decode cX12_allDeep 34 = .ok (.ireturn, 1) := by decide +kernel
theorem dX12_wash_0 : decode cX12_wash 0 = .ok (.aload_n 0, 1) := by decide +kernel
theorem dX12_wash_1 : decode cX12_wash 1 = .ok (.iload_n 1, 1) := by decide +kernel
theorem dX12_wash_2 : decode cX12_wash 2 = .ok (.invokevirtual 247, 3) := by decide +kernel
theorem dX12_wash_5 : decode cX12_wash 5 = .ok (.ifCond .eq 11, 3) := by decide +kernel
theorem dX12_wash_8 : decode cX12_wash 8 = .ok (.aload_n 0, 1) := by decide +kernel
theorem dX12_wash_9 : decode cX12_wash 9 = .ok (.iload_n 2, 1) := by decide +kernel
theorem dX12_wash_10 : decode cX12_wash 10 = .ok (.invokevirtual 233, 3) := by decide +kernel
theorem dX12_wash_13 : decode cX12_wash 13 = .ok (.ifCond .ne 6, 3) := by decide +kernel
theorem dX12_wash_16 : decode cX12_wash 16 = .ok (.bipush (-2), 2) := by decide +kernel
theorem dX12_wash_18 : decode cX12_wash 18 = .ok (.ireturn, 1) := by decide +kernel
theorem dX12_wash_19 : decode cX12_wash 19 = .ok (.aload_n 0, 1) := by decide +kernel
theorem dX12_wash_20 : decode cX12_wash 20 = .ok (.getfield 29, 3) := by decide +kernel
theorem dX12_wash_23 : decode cX12_wash 23 = .ok (.bipush 6, 2) := by decide +kernel
theorem dX12_wash_25 : decode cX12_wash 25 = .ok (.iload_n 2, 1) := by decide +kernel
theorem dX12_wash_26 : decode cX12_wash 26 = .ok (.iadd, 1) := by decide +kernel
theorem dX12_wash_27 : decode cX12_wash 27 = .ok (.iaload, 1) := by decide +kernel
theorem dX12_wash_28 : decode cX12_wash 28 = .ok (.ifCond .ne 15, 3) := by decide +kernel
theorem dX12_wash_31 : decode cX12_wash 31 = .ok (.aload_n 0, 1) := by decide +kernel
theorem dX12_wash_32 : decode cX12_wash 32 = .ok (.getfield 29, 3) := by decide +kernel
theorem dX12_wash_35 : decode cX12_wash 35 = .ok (.bipush 54, 2) := by decide +kernel
theorem dX12_wash_37 : decode cX12_wash 37 = .ok (.iload_n 1, 1) := by decide +kernel
theorem dX12_wash_38 : decode cX12_wash 38 = .ok (.iadd, 1) := by decide +kernel
theorem dX12_wash_39 : decode cX12_wash 39 = .ok (.iaload, 1) := by decide +kernel
theorem dX12_wash_40 : decode cX12_wash 40 = .ok (.ifCond .lt 6, 3) := by decide +kernel
theorem dX12_wash_43 : decode cX12_wash 43 = .ok (.bipush (-4), 2) := by decide +kernel
theorem dX12_wash_45 : decode cX12_wash 45 = .ok (.ireturn, 1) := by decide +kernel
theorem dX12_wash_46 : decode cX12_wash 46 = .ok (.aload_n 0, 1) := by decide +kernel
theorem dX12_wash_47 : decode cX12_wash 47 = .ok (.invokevirtual 273, 3) := by decide +kernel
theorem dX12_wash_50 : decode cX12_wash 50 = .ok (.aload_n 0, 1) := by decide +kernel
theorem dX12_wash_51 : decode cX12_wash 51 = .ok (.getfield 29, 3) := by decide +kernel
theorem dX12_wash_54 : decode cX12_wash 54 = .ok (.bipush 6, 2) := by decide +kernel
theorem dX12_wash_56 : decode cX12_wash 56 = .ok (.iload_n 2, 1) := by decide +kernel
theorem dX12_wash_57 : decode cX12_wash 57 = .ok (.iadd, 1) := by decide +kernel
theorem dX12_wash_58 : decode cX12_wash 58 = .ok (.iconst 1, 1) := by decide +kernel
theorem dX12_wash_59 : decode cX12_wash 59 = .ok (.iastore, 1) := by decide +kernel
theorem dX12_wash_60 : decode cX12_wash 60 = .ok (.aload_n 0, 1) := by decide +kernel
theorem dX12_wash_61 : decode cX12_wash 61 = .ok (.getfield 29, 3) := by decide +kernel
theorem dX12_wash_64 : decode cX12_wash 64 = .ok (.bipush 54, 2) := by decide +kernel
theorem dX12_wash_66 : decode cX12_wash 66 = .ok (.iload_n 1, 1) := by decide +kernel
theorem dX12_wash_67 : decode cX12_wash 67 = .ok (.iadd, 1) := by decide +kernel
theorem dX12_wash_68 : decode cX12_wash 68 = .ok (.iload_n 2, 1) := by decide +kernel
theorem dX12_wash_69 : decode cX12_wash 69 = .ok (.iastore, 1) := by decide +kernel
theorem dX12_wash_70 : decode cX12_wash 70 = .ok (.aload_n 0, 1) := by decide +kernel
theorem dX12_wash_71 : decode cX12_wash 71 = .ok (.iload_n 2, 1) := by decide +kernel
theorem dX12_wash_72 : decode cX12_wash 72 = .ok (.invokevirtual 276, 3) := by decide +kernel
theorem dX12_wash_75 : decode cX12_wash 75 = .ok (.ireturn, 1) := by decide +kernel
theorem dX12_hang_0 : decode cX12_hang 0 = .ok (.aload_n 0, 1) := by decide +kernel
theorem dX12_hang_1 : decode cX12_hang 1 = .ok (.iload_n 1, 1) := by decide +kernel
theorem dX12_hang_2 : decode cX12_hang 2 = .ok (.invokevirtual 247, 3) := by decide +kernel
theorem dX12_hang_5 : decode cX12_hang 5 = .ok (.ifCond .ne 6, 3) := by decide +kernel
theorem dX12_hang_8 : decode cX12_hang 8 = .ok (.bipush (-2), 2) := by decide +kernel
theorem dX12_hang_10 : decode cX12_hang 10 = .ok (.ireturn, 1) := by decide +kernel
theorem dX12_hang_11 : decode cX12_hang 11 = .ok (.aload_n 0, 1) := by decide +kernel
theorem dX12_hang_12 : decode cX12_hang 12 = .ok (.getfield 29, 3) := by decide +kernel
theorem dX12_hang_15 : decode cX12_hang 15 = .ok (.bipush 54, 2) := by decide +kernel
theorem dX12_hang_17 : decode cX12_hang 17 = .ok (.iload_n 1, 1) := by decide +kernel
theorem dX12_hang_18 : decode cX12_hang 18 = .ok (.iadd, 1) := by decide +kernel
theorem dX12_hang_19 : decode cX12_hang 19 = .ok (.iaload, 1) := by decide +kernel
theorem dX12_hang_20 : decode cX12_hang 20 = .ok (.istore_n 2, 1) := by decide +kernel
theorem dX12_hang_21 : decode cX12_hang 21 = .ok (.iload_n 2, 1) := by decide +kernel
theorem dX12_hang_22 : decode cX12_hang 22 = .ok (.ifCond .ge 6, 3) := by decide +kernel
theorem dX12_hang_25 : decode cX12_hang 25 = .ok (.bipush (-4), 2) := by decide +kernel
theorem dX12_hang_27 : decode cX12_hang 27 = .ok (.ireturn, 1) := by decide +kernel
theorem dX12_hang_28 : decode cX12_hang 28 = .ok (.aload_n 0, 1) := by decide +kernel
theorem dX12_hang_29 : decode cX12_hang 29 = .ok (.invokevirtual 273, 3) := by decide +kernel
theorem dX12_hang_32 : decode cX12_hang 32 = .ok (.aload_n 0, 1) := by decide +kernel
theorem dX12_hang_33 : decode cX12_hang 33 = .ok (.getfield 29, 3) := by decide +kernel
theorem dX12_hang_36 : decode cX12_hang 36 = .ok (.bipush 54, 2) := by decide +kernel
theorem dX12_hang_38 : decode cX12_hang 38 = .ok (.iload_n 1, 1) := by decide +kernel
theorem dX12_hang_39 : decode cX12_hang 39 = .ok (.iadd, 1) := by decide +kernel
theorem dX12_hang_40 : decode cX12_hang 40 = .ok (.iconst (-1), 1) := by decide +kernel
theorem dX12_hang_41 : decode cX12_hang 41 = .ok (.iastore, 1) := by decide +kernel
theorem dX12_hang_42 : decode cX12_hang 42 = .ok (.aload_n 0, 1) := by decide +kernel
theorem dX12_hang_43 : decode cX12_hang 43 = .ok (.getfield 29, 3) := by decide +kernel
theorem dX12_hang_46 : decode cX12_hang 46 = .ok (.bipush 6, 2) := by decide +kernel
theorem dX12_hang_48 : decode cX12_hang 48 = .ok (.iload_n 2, 1) := by decide +kernel
theorem dX12_hang_49 : decode cX12_hang 49 = .ok (.iadd, 1) := by decide +kernel
theorem dX12_hang_50 : decode cX12_hang 50 = .ok (.iconst 2, 1) := by decide +kernel
theorem dX12_hang_51 : decode cX12_hang 51 = .ok (.iastore, 1) := by decide +kernel
theorem dX12_hang_52 : decode cX12_hang 52 = .ok (.aload_n 0, 1) := by decide +kernel
theorem dX12_hang_53 : decode cX12_hang 53 = .ok (.getfield 29, 3) := by decide +kernel
theorem dX12_hang_56 : decode cX12_hang 56 = .ok (.bipush 12, 2) := by decide +kernel
theorem dX12_hang_58 : decode cX12_hang 58 = .ok (.iload_n 2, 1) := by decide +kernel
theorem dX12_hang_59 : decode cX12_hang 59 = .ok (.iadd, 1) := by decide +kernel
theorem dX12_hang_60 : decode cX12_hang 60 = .ok (.iconst 0, 1) := by decide +kernel
theorem dX12_hang_61 : decode cX12_hang 61 = .ok (.iastore, 1) := by decide +kernel
theorem dX12_hang_62 : decode cX12_hang 62 = .ok (.iload_n 2, 1) := by decide +kernel
theorem dX12_hang_63 : decode cX12_hang 63 = .ok (.ireturn, 1) := by decide +kernel
theorem dX12_again_0 : decode cX12_again 0 = .ok (.aload_n 0, 1) := by decide +kernel
theorem dX12_again_1 : decode cX12_again 1 = .ok (.iload_n 1, 1) := by decide +kernel
theorem dX12_again_2 : decode cX12_again 2 = .ok (.invokevirtual 233, 3) := by decide +kernel
theorem dX12_again_5 : decode cX12_again 5 = .ok (.ifCond .ne 6, 3) := by decide +kernel
theorem dX12_again_8 : decode cX12_again 8 = .ok (.bipush (-2), 2) := by decide +kernel
theorem dX12_again_10 : decode cX12_again 10 = .ok (.ireturn, 1) := by decide +kernel
theorem dX12_again_11 : decode cX12_again 11 = .ok (.aload_n 0, 1) := by decide +kernel
theorem dX12_again_12 : decode cX12_again 12 = .ok (.getfield 29, 3) := by decide +kernel
theorem dX12_again_15 : decode cX12_again 15 = .ok (.bipush 6, 2) := by decide +kernel
theorem dX12_again_17 : decode cX12_again 17 = .ok (.iload_n 1, 1) := by decide +kernel
theorem dX12_again_18 : decode cX12_again 18 = .ok (.iadd, 1) := by decide +kernel
theorem dX12_again_19 : decode cX12_again 19 = .ok (.iaload, 1) := by decide +kernel
theorem dX12_again_20 : decode cX12_again 20 = .ok (.iconst 2, 1) := by decide +kernel
theorem dX12_again_21 : decode cX12_again 21 = .ok (.if_icmp .eq 6, 3) := by decide +kernel
theorem dX12_again_24 : decode cX12_again 24 = .ok (.bipush (-4), 2) := by decide +kernel
theorem dX12_again_26 : decode cX12_again 26 = .ok (.ireturn, 1) := by decide +kernel
theorem dX12_again_27 : decode cX12_again 27 = .ok (.aload_n 0, 1) := by decide +kernel
theorem dX12_again_28 : decode cX12_again 28 = .ok (.invokevirtual 273, 3) := by decide +kernel
theorem dX12_again_31 : decode cX12_again 31 = .ok (.aload_n 0, 1) := by decide +kernel
theorem dX12_again_32 : decode cX12_again 32 = .ok (.getfield 29, 3) := by decide +kernel
theorem dX12_again_35 : decode cX12_again 35 = .ok (.bipush 6, 2) := by decide +kernel
theorem dX12_again_37 : decode cX12_again 37 = .ok (.iload_n 1, 1) := by decide +kernel
theorem dX12_again_38 : decode cX12_again 38 = .ok (.iadd, 1) := by decide +kernel
theorem dX12_again_39 : decode cX12_again 39 = .ok (.iconst 0, 1) := by decide +kernel
theorem dX12_again_40 : decode cX12_again 40 = .ok (.iastore, 1) := by decide +kernel
theorem dX12_again_41 : decode cX12_again 41 = .ok (.aload_n 0, 1) := by decide +kernel
theorem dX12_again_42 : decode cX12_again 42 = .ok (.getfield 29, 3) := by decide +kernel
theorem dX12_again_45 : decode cX12_again 45 = .ok (.bipush 12, 2) := by decide +kernel
theorem dX12_again_47 : decode cX12_again 47 = .ok (.iload_n 1, 1) := by decide +kernel
theorem dX12_again_48 : decode cX12_again 48 = .ok (.iadd, 1) := by decide +kernel
theorem dX12_again_49 : decode cX12_again 49 = .ok (.iaload, 1) := by decide +kernel
theorem dX12_again_50 : decode cX12_again 50 = .ok (.istore_n 2, 1) := by decide +kernel
theorem dX12_again_51 : decode cX12_again 51 = .ok (.aload_n 0, 1) := by decide +kernel
theorem dX12_again_52 : decode cX12_again 52 = .ok (.getfield 29, 3) := by decide +kernel
theorem dX12_again_55 : decode cX12_again 55 = .ok (.bipush 12, 2) := by decide +kernel
theorem dX12_again_57 : decode cX12_again 57 = .ok (.iload_n 1, 1) := by decide +kernel
theorem dX12_again_58 : decode cX12_again 58 = .ok (.iadd, 1) := by decide +kernel
theorem dX12_again_59 : decode cX12_again 59 = .ok (.iconst 0, 1) := by decide +kernel
theorem dX12_again_60 : decode cX12_again 60 = .ok (.iastore, 1) := by decide +kernel
theorem dX12_again_61 : decode cX12_again 61 = .ok (.iload_n 2, 1) := by decide +kernel
theorem dX12_again_62 : decode cX12_again 62 = .ok (.ireturn, 1) := by decide +kernel
theorem dX12_send_0 : decode cX12_send 0 = .ok (.aload_n 0, 1) := by decide +kernel
theorem dX12_send_1 : decode cX12_send 1 = .ok (.iload_n 1, 1) := by decide +kernel
theorem dX12_send_2 : decode cX12_send 2 = .ok (.invokevirtual 233, 3) := by decide +kernel
theorem dX12_send_5 : decode cX12_send 5 = .ok (.ifCond .ne 6, 3) := by decide +kernel
theorem dX12_send_8 : decode cX12_send 8 = .ok (.bipush (-2), 2) := by decide +kernel
theorem dX12_send_10 : decode cX12_send 10 = .ok (.ireturn, 1) := by decide +kernel
theorem dX12_send_11 : decode cX12_send 11 = .ok (.aload_n 0, 1) := by decide +kernel
theorem dX12_send_12 : decode cX12_send 12 = .ok (.iload_n 1, 1) := by decide +kernel
theorem dX12_send_13 : decode cX12_send 13 = .ok (.invokevirtual 239, 3) := by decide +kernel
theorem dX12_send_16 : decode cX12_send 16 = .ok (.ifCond .eq 11, 3) := by decide +kernel
theorem dX12_send_19 : decode cX12_send 19 = .ok (.aload_n 0, 1) := by decide +kernel
theorem dX12_send_20 : decode cX12_send 20 = .ok (.iload_n 1, 1) := by decide +kernel
theorem dX12_send_21 : decode cX12_send 21 = .ok (.invokevirtual 242, 3) := by decide +kernel
theorem dX12_send_24 : decode cX12_send 24 = .ok (.ifCond .ne 6, 3) := by decide +kernel
theorem dX12_send_27 : decode cX12_send 27 = .ok (.bipush (-4), 2) := by decide +kernel
theorem dX12_send_29 : decode cX12_send 29 = .ok (.ireturn, 1) := by decide +kernel
theorem dX12_send_30 : decode cX12_send 30 = .ok (.aload_n 0, 1) := by decide +kernel
theorem dX12_send_31 : decode cX12_send 31 = .ok (.invokevirtual 273, 3) := by decide +kernel
theorem dX12_send_34 : decode cX12_send 34 = .ok (.aload_n 0, 1) := by decide +kernel
theorem dX12_send_35 : decode cX12_send 35 = .ok (.getfield 29, 3) := by decide +kernel
theorem dX12_send_38 : decode cX12_send 38 = .ok (.bipush 6, 2) := by decide +kernel
theorem dX12_send_40 : decode cX12_send 40 = .ok (.iload_n 1, 1) := by decide +kernel
theorem dX12_send_41 : decode cX12_send 41 = .ok (.iadd, 1) := by decide +kernel
theorem dX12_send_42 : decode cX12_send 42 = .ok (.iconst 3, 1) := by decide +kernel
theorem dX12_send_43 : decode cX12_send 43 = .ok (.iastore, 1) := by decide +kernel
theorem dX12_send_44 : decode cX12_send 44 = .ok (.aload_n 0, 1) := by decide +kernel
theorem dX12_send_45 : decode cX12_send 45 = .ok (.getfield 29, 3) := by decide +kernel
theorem dX12_send_48 : decode cX12_send 48 = .ok (.bipush 58, 2) := by decide +kernel
theorem dX12_send_50 : decode cX12_send 50 = .ok (.iaload, 1) := by decide +kernel
theorem dX12_send_51 : decode cX12_send 51 = .ok (.aload_n 0, 1) := by decide +kernel
theorem dX12_send_52 : decode cX12_send 52 = .ok (.getfield 16, 3) := by decide +kernel
theorem dX12_send_55 : decode cX12_send 55 = .ok (.iload_n 1, 1) := by decide +kernel
theorem dX12_send_56 : decode cX12_send 56 = .ok (.iaload, 1) := by decide +kernel
theorem dX12_send_57 : decode cX12_send 57 = .ok (.if_icmp .le 20, 3) := by decide +kernel
theorem dX12_send_60 : decode cX12_send 60 = .ok (.aload_n 0, 1) := by decide +kernel
theorem dX12_send_61 : decode cX12_send 61 = .ok (.getfield 29, 3) := by decide +kernel
theorem dX12_send_64 : decode cX12_send 64 = .ok (.bipush 58, 2) := by decide +kernel
theorem dX12_send_66 : decode cX12_send 66 = .ok (.iaload, 1) := by decide +kernel
theorem dX12_send_67 : decode cX12_send 67 = .ok (.aload_n 0, 1) := by decide +kernel
theorem dX12_send_68 : decode cX12_send 68 = .ok (.getfield 16, 3) := by decide +kernel
theorem dX12_send_71 : decode cX12_send 71 = .ok (.iload_n 1, 1) := by decide +kernel
theorem dX12_send_72 : decode cX12_send 72 = .ok (.iaload, 1) := by decide +kernel
theorem dX12_send_73 : decode cX12_send 73 = .ok (.isub, 1) := by decide +kernel
theorem dX12_send_74 : decode cX12_send 74 = .ok (.goto 4, 3) := by decide +kernel
theorem dX12_send_77 : decode cX12_send 77 = .ok (.iconst 0, 1) := by decide +kernel
theorem dX12_send_78 : decode cX12_send 78 = .ok (.ireturn, 1) := by decide +kernel
theorem dX12_soap_0 : decode cX12_soap 0 = .ok (.iload_n 1, 1) := by decide +kernel
theorem dX12_soap_1 : decode cX12_soap 1 = .ok (.i2l, 1) := by decide +kernel
theorem dX12_soap_2 : decode cX12_soap 2 = .ok (.lconst 1, 1) := by decide +kernel
theorem dX12_soap_3 : decode cX12_soap 3 = .ok (.ldc2_w 279, 3) := by decide +kernel
theorem dX12_soap_6 : decode cX12_soap 6 = .ok (.invokestatic 99, 3) := by decide +kernel
theorem dX12_soap_9 : decode cX12_soap 9 = .ok (.ifCond .ne 6, 3) := by decide +kernel
theorem dX12_soap_12 : decode cX12_soap 12 = .ok (.bipush (-3), 2) := by decide +kernel
theorem dX12_soap_14 : decode cX12_soap 14 = .ok (.ireturn, 1) := by decide +kernel
theorem dX12_soap_15 : decode cX12_soap 15 = .ok (.aload_n 0, 1) := by decide +kernel
theorem dX12_soap_16 : decode cX12_soap 16 = .ok (.getfield 29, 3) := by decide +kernel
theorem dX12_soap_19 : decode cX12_soap 19 = .ok (.bipush 57, 2) := by decide +kernel
theorem dX12_soap_21 : decode cX12_soap 21 = .ok (.iaload, 1) := by decide +kernel
theorem dX12_soap_22 : decode cX12_soap 22 = .ok (.iload_n 1, 1) := by decide +kernel
theorem dX12_soap_23 : decode cX12_soap 23 = .ok (.iadd, 1) := by decide +kernel
theorem dX12_soap_24 : decode cX12_soap 24 = .ok (.bipush 99, 2) := by decide +kernel
theorem dX12_soap_26 : decode cX12_soap 26 = .ok (.if_icmp .le 6, 3) := by decide +kernel
theorem dX12_soap_29 : decode cX12_soap 29 = .ok (.bipush (-5), 2) := by decide +kernel
theorem dX12_soap_31 : decode cX12_soap 31 = .ok (.ireturn, 1) := by decide +kernel
theorem dX12_soap_32 : decode cX12_soap 32 = .ok (.aload_n 0, 1) := by decide +kernel
theorem dX12_soap_33 : decode cX12_soap 33 = .ok (.invokevirtual 273, 3) := by decide +kernel
theorem dX12_soap_36 : decode cX12_soap 36 = .ok (.aload_n 0, 1) := by decide +kernel
theorem dX12_soap_37 : decode cX12_soap 37 = .ok (.getfield 29, 3) := by decide +kernel
theorem dX12_soap_40 : decode cX12_soap 40 = .ok (.bipush 57, 2) := by decide +kernel
theorem dX12_soap_42 : decode cX12_soap 42 = .ok (.dup2, 1) := by decide +kernel
theorem dX12_soap_43 : decode cX12_soap 43 = .ok (.iaload, 1) := by decide +kernel
theorem dX12_soap_44 : decode cX12_soap 44 = .ok (.iload_n 1, 1) := by decide +kernel
theorem dX12_soap_45 : decode cX12_soap 45 = .ok (.iadd, 1) := by decide +kernel
theorem dX12_soap_46 : decode cX12_soap 46 = .ok (.iastore, 1) := by decide +kernel
theorem dX12_soap_47 : decode cX12_soap 47 = .ok (.aload_n 0, 1) := by decide +kernel
theorem dX12_soap_48 : decode cX12_soap 48 = .ok (.getfield 29, 3) := by decide +kernel
theorem dX12_soap_51 : decode cX12_soap 51 = .ok (.bipush 57, 2) := by decide +kernel
theorem dX12_soap_53 : decode cX12_soap 53 = .ok (.iaload, 1) := by decide +kernel
theorem dX12_soap_54 : decode cX12_soap 54 = .ok (.ireturn, 1) := by decide +kernel
theorem dX12_hour_0 : decode cX12_hour 0 = .ok (.iload_n 1, 1) := by decide +kernel
theorem dX12_hour_1 : decode cX12_hour 1 = .ok (.i2l, 1) := by decide +kernel
theorem dX12_hour_2 : decode cX12_hour 2 = .ok (.lconst 1, 1) := by decide +kernel
theorem dX12_hour_3 : decode cX12_hour 3 = .ok (.ldc2_w 281, 3) := by decide +kernel
theorem dX12_hour_6 : decode cX12_hour 6 = .ok (.invokestatic 99, 3) := by decide +kernel
theorem dX12_hour_9 : decode cX12_hour 9 = .ok (.ifCond .ne 6, 3) := by decide +kernel
theorem dX12_hour_12 : decode cX12_hour 12 = .ok (.bipush (-3), 2) := by decide +kernel
theorem dX12_hour_14 : decode cX12_hour 14 = .ok (.ireturn, 1) := by decide +kernel
theorem dX12_hour_15 : decode cX12_hour 15 = .ok (.aload_n 0, 1) := by decide +kernel
theorem dX12_hour_16 : decode cX12_hour 16 = .ok (.getfield 29, 3) := by decide +kernel
theorem dX12_hour_19 : decode cX12_hour 19 = .ok (.bipush 58, 2) := by decide +kernel
theorem dX12_hour_21 : decode cX12_hour 21 = .ok (.iaload, 1) := by decide +kernel
theorem dX12_hour_22 : decode cX12_hour 22 = .ok (.iload_n 1, 1) := by decide +kernel
theorem dX12_hour_23 : decode cX12_hour 23 = .ok (.iadd, 1) := by decide +kernel
theorem dX12_hour_24 : decode cX12_hour 24 = .ok (.sipush 999, 3) := by decide +kernel
theorem dX12_hour_27 : decode cX12_hour 27 = .ok (.if_icmp .le 6, 3) := by decide +kernel
theorem dX12_hour_30 : decode cX12_hour 30 = .ok (.bipush (-5), 2) := by decide +kernel
theorem dX12_hour_32 : decode cX12_hour 32 = .ok (.ireturn, 1) := by decide +kernel
theorem dX12_hour_33 : decode cX12_hour 33 = .ok (.aload_n 0, 1) := by decide +kernel
theorem dX12_hour_34 : decode cX12_hour 34 = .ok (.invokevirtual 273, 3) := by decide +kernel
theorem dX12_hour_37 : decode cX12_hour 37 = .ok (.iconst 0, 1) := by decide +kernel
theorem dX12_hour_38 : decode cX12_hour 38 = .ok (.istore_n 2, 1) := by decide +kernel
theorem dX12_hour_39 : decode cX12_hour 39 = .ok (.iload_n 2, 1) := by decide +kernel
theorem dX12_hour_40 : decode cX12_hour 40 = .ok (.iload_n 1, 1) := by decide +kernel
theorem dX12_hour_41 : decode cX12_hour 41 = .ok (.if_icmp .ge 13, 3) := by decide +kernel
theorem dX12_hour_44 : decode cX12_hour 44 = .ok (.aload_n 0, 1) := by decide +kernel
theorem dX12_hour_45 : decode cX12_hour 45 = .ok (.invokevirtual 283, 3) := by decide +kernel
theorem dX12_hour_48 : decode cX12_hour 48 = .ok (.iinc 2 1, 3) := by decide +kernel
theorem dX12_hour_51 : decode cX12_hour 51 = .ok (.goto (-12), 3) := by decide +kernel
theorem dX12_hour_54 : decode cX12_hour 54 = .ok (.aload_n 0, 1) := by decide +kernel
theorem dX12_hour_55 : decode cX12_hour 55 = .ok (.getfield 29, 3) := by decide +kernel
theorem dX12_hour_58 : decode cX12_hour 58 = .ok (.bipush 58, 2) := by decide +kernel
theorem dX12_hour_60 : decode cX12_hour 60 = .ok (.iaload, 1) := by decide +kernel
theorem dX12_hour_61 : decode cX12_hour 61 = .ok (.ireturn, 1) := by decide +kernel
theorem dX12_undo_0 : decode cX12_undo 0 = .ok (.aload_n 0, 1) := by decide +kernel
theorem dX12_undo_1 : decode cX12_undo 1 = .ok (.getfield 223, 3) := by decide +kernel
theorem dX12_undo_4 : decode cX12_undo 4 = .ok (.ifCond .ne 6, 3) := by decide +kernel
theorem dX12_undo_7 : decode cX12_undo 7 = .ok (.bipush (-4), 2) := by decide +kernel
theorem dX12_undo_9 : decode cX12_undo 9 = .ok (.ireturn, 1) := by decide +kernel
theorem dX12_undo_10 : decode cX12_undo 10 = .ok (.aload_n 0, 1) := by decide +kernel
theorem dX12_undo_11 : decode cX12_undo 11 = .ok (.dup, 1) := by decide +kernel
theorem dX12_undo_12 : decode cX12_undo 12 = .ok (.getfield 223, 3) := by decide +kernel
theorem dX12_undo_15 : decode cX12_undo 15 = .ok (.iconst 1, 1) := by decide +kernel
theorem dX12_undo_16 : decode cX12_undo 16 = .ok (.isub, 1) := by decide +kernel
theorem dX12_undo_17 : decode cX12_undo 17 = .ok (.putfield 223, 3) := by decide +kernel
theorem dX12_undo_20 : decode cX12_undo 20 = .ok (.iconst 0, 1) := by decide +kernel
theorem dX12_undo_21 : decode cX12_undo 21 = .ok (.istore_n 1, 1) := by decide +kernel
theorem dX12_undo_22 : decode cX12_undo 22 = .ok (.iload_n 1, 1) := by decide +kernel
theorem dX12_undo_23 : decode cX12_undo 23 = .ok (.bipush 101, 2) := by decide +kernel
theorem dX12_undo_25 : decode cX12_undo 25 = .ok (.if_icmp .ge 29, 3) := by decide +kernel
theorem dX12_undo_28 : decode cX12_undo 28 = .ok (.aload_n 0, 1) := by decide +kernel
theorem dX12_undo_29 : decode cX12_undo 29 = .ok (.getfield 29, 3) := by decide +kernel
theorem dX12_undo_32 : decode cX12_undo 32 = .ok (.iload_n 1, 1) := by decide +kernel
theorem dX12_undo_33 : decode cX12_undo 33 = .ok (.aload_n 0, 1) := by decide +kernel
theorem dX12_undo_34 : decode cX12_undo 34 = .ok (.getfield 50, 3) := by decide +kernel
theorem dX12_undo_37 : decode cX12_undo 37 = .ok (.bipush 101, 2) := by decide +kernel
theorem dX12_undo_39 : decode cX12_undo 39 = .ok (.aload_n 0, 1) := by decide +kernel
theorem dX12_undo_40 : decode cX12_undo 40 = .ok (.getfield 223, 3) := by decide +kernel
theorem dX12_undo_43 : decode cX12_undo 43 = .ok (.imul, 1) := by decide +kernel
theorem dX12_undo_44 : decode cX12_undo 44 = .ok (.iload_n 1, 1) := by decide +kernel
theorem dX12_undo_45 : decode cX12_undo 45 = .ok (.iadd, 1) := by decide +kernel
theorem dX12_undo_46 : decode cX12_undo 46 = .ok (.iaload, 1) := by decide +kernel
theorem dX12_undo_47 : decode cX12_undo 47 = .ok (.iastore, 1) := by decide +kernel
theorem dX12_undo_48 : decode cX12_undo 48 = .ok (.iinc 1 1, 3) := by decide +kernel
theorem dX12_undo_51 : decode cX12_undo 51 = .ok (.goto (-29), 3) := by decide +kernel
theorem dX12_undo_54 : decode cX12_undo 54 = .ok (.aload_n 0, 1) := by decide +kernel
theorem dX12_undo_55 : decode cX12_undo 55 = .ok (.getfield 223, 3) := by decide +kernel
theorem dX12_undo_58 : decode cX12_undo 58 = .ok (.ireturn, 1) := by decide +kernel
theorem dX12_keep_0 : decode cX12_keep 0 = .ok (.iload_n 1, 1) := by decide +kernel
theorem dX12_keep_1 : decode cX12_keep 1 = .ok (.i2l, 1) := by decide +kernel
theorem dX12_keep_2 : decode cX12_keep 2 = .ok (.lconst 0, 1) := by decide +kernel
theorem dX12_keep_3 : decode cX12_keep 3 = .ok (.lconst 1, 1) := by decide +kernel
theorem dX12_keep_4 : decode cX12_keep 4 = .ok (.invokestatic 99, 3) := by decide +kernel
theorem dX12_keep_7 : decode cX12_keep 7 = .ok (.ifCond .ne 6, 3) := by decide +kernel
theorem dX12_keep_10 : decode cX12_keep 10 = .ok (.bipush (-2), 2) := by decide +kernel
theorem dX12_keep_12 : decode cX12_keep 12 = .ok (.ireturn, 1) := by decide +kernel
theorem dX12_keep_13 : decode cX12_keep 13 = .ok (.iconst 0, 1) := by decide +kernel
theorem dX12_keep_14 : decode cX12_keep 14 = .ok (.istore_n 2, 1) := by decide +kernel
theorem dX12_keep_15 : decode cX12_keep 15 = .ok (.iload_n 2, 1) := by decide +kernel
theorem dX12_keep_16 : decode cX12_keep 16 = .ok (.bipush 101, 2) := by decide +kernel
theorem dX12_keep_18 : decode cX12_keep 18 = .ok (.if_icmp .ge 26, 3) := by decide +kernel
theorem dX12_keep_21 : decode cX12_keep 21 = .ok (.aload_n 0, 1) := by decide +kernel
theorem dX12_keep_22 : decode cX12_keep 22 = .ok (.getfield 53, 3) := by decide +kernel
theorem dX12_keep_25 : decode cX12_keep 25 = .ok (.bipush 101, 2) := by decide +kernel
theorem dX12_keep_27 : decode cX12_keep 27 = .ok (.iload_n 1, 1) := by decide +kernel
theorem dX12_keep_28 : decode cX12_keep 28 = .ok (.imul, 1) := by decide +kernel
theorem dX12_keep_29 : decode cX12_keep 29 = .ok (.iload_n 2, 1) := by decide +kernel
theorem dX12_keep_30 : decode cX12_keep 30 = .ok (.iadd, 1) := by decide +kernel
theorem dX12_keep_31 : decode cX12_keep 31 = .ok (.aload_n 0, 1) := by decide +kernel
theorem dX12_keep_32 : decode cX12_keep 32 = .ok (.getfield 29, 3) := by decide +kernel
theorem dX12_keep_35 : decode cX12_keep 35 = .ok (.iload_n 2, 1) := by decide +kernel
theorem dX12_keep_36 : decode cX12_keep 36 = .ok (.iaload, 1) := by decide +kernel
theorem dX12_keep_37 : decode cX12_keep 37 = .ok (.iastore, 1) := by decide +kernel
theorem dX12_keep_38 : decode cX12_keep 38 = .ok (.iinc 2 1, 3) := by decide +kernel
theorem dX12_keep_41 : decode cX12_keep 41 = .ok (.goto (-26), 3) := by decide +kernel
theorem dX12_keep_44 : decode cX12_keep 44 = .ok (.aload_n 0, 1) := by decide +kernel
theorem dX12_keep_45 : decode cX12_keep 45 = .ok (.getfield 56, 3) := by decide +kernel
theorem dX12_keep_48 : decode cX12_keep 48 = .ok (.iload_n 1, 1) := by decide +kernel
theorem dX12_keep_49 : decode cX12_keep 49 = .ok (.iconst 1, 1) := by decide +kernel
theorem dX12_keep_50 : decode cX12_keep 50 = .ok (.bastore, 1) := by decide +kernel
theorem dX12_keep_51 : decode cX12_keep 51 = .ok (.aload_n 0, 1) := by decide +kernel
theorem dX12_keep_52 : decode cX12_keep 52 = .ok (.getfield 29, 3) := by decide +kernel
theorem dX12_keep_55 : decode cX12_keep 55 = .ok (.bipush 58, 2) := by decide +kernel
theorem dX12_keep_57 : decode cX12_keep 57 = .ok (.iaload, 1) := by decide +kernel
theorem dX12_keep_58 : decode cX12_keep 58 = .ok (.ireturn, 1) := by decide +kernel
theorem dX12_back_0 : decode cX12_back 0 = .ok (.iload_n 1, 1) := by decide +kernel
theorem dX12_back_1 : decode cX12_back 1 = .ok (.i2l, 1) := by decide +kernel
theorem dX12_back_2 : decode cX12_back 2 = .ok (.lconst 0, 1) := by decide +kernel
theorem dX12_back_3 : decode cX12_back 3 = .ok (.lconst 1, 1) := by decide +kernel
theorem dX12_back_4 : decode cX12_back 4 = .ok (.invokestatic 99, 3) := by decide +kernel
theorem dX12_back_7 : decode cX12_back 7 = .ok (.ifCond .ne 6, 3) := by decide +kernel
theorem dX12_back_10 : decode cX12_back 10 = .ok (.bipush (-2), 2) := by decide +kernel
theorem dX12_back_12 : decode cX12_back 12 = .ok (.ireturn, 1) := by decide +kernel
theorem dX12_back_13 : decode cX12_back 13 = .ok (.aload_n 0, 1) := by decide +kernel
theorem dX12_back_14 : decode cX12_back 14 = .ok (.getfield 56, 3) := by decide +kernel
theorem dX12_back_17 : decode cX12_back 17 = .ok (.iload_n 1, 1) := by decide +kernel
theorem dX12_back_18 : decode cX12_back 18 = .ok (.baload, 1) := by decide +kernel
theorem dX12_back_19 : decode cX12_back 19 = .ok (.ifCond .ne 6, 3) := by decide +kernel
theorem dX12_back_22 : decode cX12_back 22 = .ok (.bipush (-4), 2) := by decide +kernel
theorem dX12_back_24 : decode cX12_back 24 = .ok (.ireturn, 1) := by decide +kernel
theorem dX12_back_25 : decode cX12_back 25 = .ok (.iconst 0, 1) := by decide +kernel
theorem dX12_back_26 : decode cX12_back 26 = .ok (.istore_n 2, 1) := by decide +kernel
theorem dX12_back_27 : decode cX12_back 27 = .ok (.iload_n 2, 1) := by decide +kernel
theorem dX12_back_28 : decode cX12_back 28 = .ok (.bipush 101, 2) := by decide +kernel
theorem dX12_back_30 : decode cX12_back 30 = .ok (.if_icmp .ge 26, 3) := by decide +kernel
theorem dX12_back_33 : decode cX12_back 33 = .ok (.aload_n 0, 1) := by decide +kernel
theorem dX12_back_34 : decode cX12_back 34 = .ok (.getfield 29, 3) := by decide +kernel
theorem dX12_back_37 : decode cX12_back 37 = .ok (.iload_n 2, 1) := by decide +kernel
theorem dX12_back_38 : decode cX12_back 38 = .ok (.aload_n 0, 1) := by decide +kernel
theorem dX12_back_39 : decode cX12_back 39 = .ok (.getfield 53, 3) := by decide +kernel
theorem dX12_back_42 : decode cX12_back 42 = .ok (.bipush 101, 2) := by decide +kernel
theorem dX12_back_44 : decode cX12_back 44 = .ok (.iload_n 1, 1) := by decide +kernel
theorem dX12_back_45 : decode cX12_back 45 = .ok (.imul, 1) := by decide +kernel
theorem dX12_back_46 : decode cX12_back 46 = .ok (.iload_n 2, 1) := by decide +kernel
theorem dX12_back_47 : decode cX12_back 47 = .ok (.iadd, 1) := by decide +kernel
theorem dX12_back_48 : decode cX12_back 48 = .ok (.iaload, 1) := by decide +kernel
theorem dX12_back_49 : decode cX12_back 49 = .ok (.iastore, 1) := by decide +kernel
theorem dX12_back_50 : decode cX12_back 50 = .ok (.iinc 2 1, 3) := by decide +kernel
theorem dX12_back_53 : decode cX12_back 53 = .ok (.goto (-26), 3) := by decide +kernel
theorem dX12_back_56 : decode cX12_back 56 = .ok (.aload_n 0, 1) := by decide +kernel
theorem dX12_back_57 : decode cX12_back 57 = .ok (.iconst 0, 1) := by decide +kernel
theorem dX12_back_58 : decode cX12_back 58 = .ok (.putfield 223, 3) := by decide +kernel
theorem dX12_back_61 : decode cX12_back 61 = .ok (.aload_n 0, 1) := by decide +kernel
theorem dX12_back_62 : decode cX12_back 62 = .ok (.getfield 29, 3) := by decide +kernel
theorem dX12_back_65 : decode cX12_back 65 = .ok (.bipush 58, 2) := by decide +kernel
theorem dX12_back_67 : decode cX12_back 67 = .ok (.iaload, 1) := by decide +kernel
theorem dX12_back_68 : decode cX12_back 68 = .ok (.ireturn, 1) := by decide +kernel
theorem dX12_takesOne_0 : decode cX12_takesOne 0 = .ok (.iconst (-1), 1) := by decide +kernel
theorem dX12_takesOne_1 : decode cX12_takesOne 1 = .ok (.istore_n 1, 1) := by decide +kernel
theorem dX12_takesOne_2 : decode cX12_takesOne 2 = .ok (.iconst 0, 1) := by decide +kernel
theorem dX12_takesOne_3 : decode cX12_takesOne 3 = .ok (.istore_n 2, 1) := by decide +kernel
theorem dX12_takesOne_4 : decode cX12_takesOne 4 = .ok (.iconst 0, 1) := by decide +kernel
theorem dX12_takesOne_5 : decode cX12_takesOne 5 = .ok (.istore_n 3, 1) := by decide +kernel
theorem dX12_takesOne_6 : decode cX12_takesOne 6 = .ok (.iload_n 3, 1) := by decide +kernel
theorem dX12_takesOne_7 : decode cX12_takesOne 7 = .ok (.bipush 6, 2) := by decide +kernel
theorem dX12_takesOne_9 : decode cX12_takesOne 9 = .ok (.if_icmp .ge 46, 3) := by decide +kernel
theorem dX12_takesOne_12 : decode cX12_takesOne 12 = .ok (.aload_n 0, 1) := by decide +kernel
theorem dX12_takesOne_13 : decode cX12_takesOne 13 = .ok (.getfield 60, 3) := by decide +kernel
theorem dX12_takesOne_16 : decode cX12_takesOne 16 = .ok (.iload_n 3, 1) := by decide +kernel
theorem dX12_takesOne_17 : decode cX12_takesOne 17 = .ok (.iaload, 1) := by decide +kernel
theorem dX12_takesOne_18 : decode cX12_takesOne 18 = .ok (.iload_n 2, 1) := by decide +kernel
theorem dX12_takesOne_19 : decode cX12_takesOne 19 = .ok (.if_icmp .le 7, 3) := by decide +kernel
theorem dX12_takesOne_22 : decode cX12_takesOne 22 = .ok (.iload_n 3, 1) := by decide +kernel
theorem dX12_takesOne_23 : decode cX12_takesOne 23 = .ok (.goto 4, 3) := by decide +kernel
theorem dX12_takesOne_26 : decode cX12_takesOne 26 = .ok (.iload_n 1, 1) := by decide +kernel
theorem dX12_takesOne_27 : decode cX12_takesOne 27 = .ok (.istore_n 1, 1) := by decide +kernel
theorem dX12_takesOne_28 : decode cX12_takesOne 28 = .ok (.aload_n 0, 1) := by decide +kernel
theorem dX12_takesOne_29 : decode cX12_takesOne 29 = .ok (.getfield 60, 3) := by decide +kernel
theorem dX12_takesOne_32 : decode cX12_takesOne 32 = .ok (.iload_n 3, 1) := by decide +kernel
theorem dX12_takesOne_33 : decode cX12_takesOne 33 = .ok (.iaload, 1) := by decide +kernel
theorem dX12_takesOne_34 : decode cX12_takesOne 34 = .ok (.iload_n 2, 1) := by decide +kernel
theorem dX12_takesOne_35 : decode cX12_takesOne 35 = .ok (.if_icmp .le 12, 3) := by decide +kernel
theorem dX12_takesOne_38 : decode cX12_takesOne 38 = .ok (.aload_n 0, 1) := by decide +kernel
theorem dX12_takesOne_39 : decode cX12_takesOne 39 = .ok (.getfield 60, 3) := by decide +kernel
theorem dX12_takesOne_42 : decode cX12_takesOne 42 = .ok (.iload_n 3, 1) := by decide +kernel
theorem dX12_takesOne_43 : decode cX12_takesOne 43 = .ok (.iaload, 1) := by decide +kernel
theorem dX12_takesOne_44 : decode cX12_takesOne 44 = .ok (.goto 4, 3) := by decide +kernel
theorem dX12_takesOne_47 : decode cX12_takesOne 47 = .ok (.iload_n 2, 1) := by decide +kernel
theorem dX12_takesOne_48 : decode cX12_takesOne 48 = .ok (.istore_n 2, 1) := by decide +kernel
theorem dX12_takesOne_49 : decode cX12_takesOne 49 = .ok (.iinc 3 1, 3) := by decide +kernel
theorem dX12_takesOne_52 : decode cX12_takesOne 52 = .ok (.goto (-46), 3) := by decide +kernel
theorem dX12_takesOne_55 : decode cX12_takesOne 55 = .ok (.iload_n 1, 1) := by decide +kernel
theorem dX12_takesOne_56 : decode cX12_takesOne 56 = .ok (.ifCond .lt 13, 3) := by decide +kernel
theorem dX12_takesOne_59 : decode cX12_takesOne 59 = .ok (.aload_n 0, 1) := by decide +kernel
theorem dX12_takesOne_60 : decode cX12_takesOne 60 = .ok (.getfield 60, 3) := by decide +kernel
theorem dX12_takesOne_63 : decode cX12_takesOne 63 = .ok (.iload_n 1, 1) := by decide +kernel
theorem dX12_takesOne_64 : decode cX12_takesOne 64 = .ok (.dup2, 1) := by decide +kernel
theorem dX12_takesOne_65 : decode cX12_takesOne 65 = .ok (.iaload, 1) := by decide +kernel
theorem dX12_takesOne_66 : decode cX12_takesOne 66 = .ok (.iconst 1, 1) := by decide +kernel
theorem dX12_takesOne_67 : decode cX12_takesOne 67 = .ok (.isub, 1) := by decide +kernel
theorem dX12_takesOne_68 : decode cX12_takesOne 68 = .ok (.iastore, 1) := by decide +kernel
theorem dX12_takesOne_69 : decode cX12_takesOne 69 = .ok (.iload_n 1, 1) := by decide +kernel
theorem dX12_takesOne_70 : decode cX12_takesOne 70 = .ok (.ifCond .lt 7, 3) := by decide +kernel
theorem dX12_takesOne_73 : decode cX12_takesOne 73 = .ok (.iconst 1, 1) := by decide +kernel
theorem dX12_takesOne_74 : decode cX12_takesOne 74 = .ok (.goto 4, 3) := by decide +kernel
theorem dX12_takesOne_77 : decode cX12_takesOne 77 = .ok (.iconst 0, 1) := by decide +kernel
theorem dX12_takesOne_78 : decode cX12_takesOne 78 = .ok (.ireturn, 1) := by decide +kernel
theorem dX12_areOff_0 : decode cX12_areOff 0 = .ok (.iconst 0, 1) := by decide +kernel
theorem dX12_areOff_1 : decode cX12_areOff 1 = .ok (.istore_n 1, 1) := by decide +kernel
theorem dX12_areOff_2 : decode cX12_areOff 2 = .ok (.iconst 0, 1) := by decide +kernel
theorem dX12_areOff_3 : decode cX12_areOff 3 = .ok (.istore_n 2, 1) := by decide +kernel
theorem dX12_areOff_4 : decode cX12_areOff 4 = .ok (.iload_n 2, 1) := by decide +kernel
theorem dX12_areOff_5 : decode cX12_areOff 5 = .ok (.bipush 6, 2) := by decide +kernel
theorem dX12_areOff_7 : decode cX12_areOff 7 = .ok (.if_icmp .ge 18, 3) := by decide +kernel
theorem dX12_areOff_10 : decode cX12_areOff 10 = .ok (.iload_n 1, 1) := by decide +kernel
theorem dX12_areOff_11 : decode cX12_areOff 11 = .ok (.aload_n 0, 1) := by decide +kernel
theorem dX12_areOff_12 : decode cX12_areOff 12 = .ok (.getfield 60, 3) := by decide +kernel
theorem dX12_areOff_15 : decode cX12_areOff 15 = .ok (.iload_n 2, 1) := by decide +kernel
theorem dX12_areOff_16 : decode cX12_areOff 16 = .ok (.iaload, 1) := by decide +kernel
theorem dX12_areOff_17 : decode cX12_areOff 17 = .ok (.iadd, 1) := by decide +kernel
theorem dX12_areOff_18 : decode cX12_areOff 18 = .ok (.istore_n 1, 1) := by decide +kernel
theorem dX12_areOff_19 : decode cX12_areOff 19 = .ok (.iinc 2 1, 3) := by decide +kernel
theorem dX12_areOff_22 : decode cX12_areOff 22 = .ok (.goto (-18), 3) := by decide +kernel
theorem dX12_areOff_25 : decode cX12_areOff 25 = .ok (.iload_n 1, 1) := by decide +kernel
theorem dX12_areOff_26 : decode cX12_areOff 26 = .ok (.ifCond .ne 7, 3) := by decide +kernel
theorem dX12_areOff_29 : decode cX12_areOff 29 = .ok (.iconst 1, 1) := by decide +kernel
theorem dX12_areOff_30 : decode cX12_areOff 30 = .ok (.goto 4, 3) := by decide +kernel
theorem dX12_areOff_33 : decode cX12_areOff 33 = .ok (.iconst 0, 1) := by decide +kernel
theorem dX12_areOff_34 : decode cX12_areOff 34 = .ok (.ireturn, 1) := by decide +kernel
theorem dX12_takesBy_0 : decode cX12_takesBy 0 = .ok (.aload_n 0, 1) := by decide +kernel
theorem dX12_takesBy_1 : decode cX12_takesBy 1 = .ok (.getfield 29, 3) := by decide +kernel
theorem dX12_takesBy_4 : decode cX12_takesBy 4 = .ok (.bipush 6, 2) := by decide +kernel
theorem dX12_takesBy_6 : decode cX12_takesBy 6 = .ok (.iload_n 1, 1) := by decide +kernel
theorem dX12_takesBy_7 : decode cX12_takesBy 7 = .ok (.iadd, 1) := by decide +kernel
theorem dX12_takesBy_8 : decode cX12_takesBy 8 = .ok (.iaload, 1) := by decide +kernel
theorem dX12_takesBy_9 : decode cX12_takesBy 9 = .ok (.iconst 3, 1) := by decide +kernel
theorem dX12_takesBy_10 : decode cX12_takesBy 10 = .ok (.if_icmp .lt 5, 3) := by decide +kernel
theorem dX12_takesBy_13 : decode cX12_takesBy 13 = .ok (.iconst (-1), 1) := by decide +kernel
theorem dX12_takesBy_14 : decode cX12_takesBy 14 = .ok (.ireturn, 1) := by decide +kernel
theorem dX12_takesBy_15 : decode cX12_takesBy 15 = .ok (.iconst 0, 1) := by decide +kernel
theorem dX12_takesBy_16 : decode cX12_takesBy 16 = .ok (.istore 4, 2) := by decide +kernel
theorem dX12_takesBy_18 : decode cX12_takesBy 18 = .ok (.iload 4, 2) := by decide +kernel
theorem dX12_takesBy_20 : decode cX12_takesBy 20 = .ok (.bipush 6, 2) := by decide +kernel
theorem dX12_takesBy_22 : decode cX12_takesBy 22 = .ok (.if_icmp .ge 31, 3) := by decide +kernel
theorem dX12_takesBy_25 : decode cX12_takesBy 25 = .ok (.aload_n 0, 1) := by decide +kernel
theorem dX12_takesBy_26 : decode cX12_takesBy 26 = .ok (.getfield 60, 3) := by decide +kernel
theorem dX12_takesBy_29 : decode cX12_takesBy 29 = .ok (.iload 4, 2) := by decide +kernel
theorem dX12_takesBy_31 : decode cX12_takesBy 31 = .ok (.aload_n 0, 1) := by decide +kernel
theorem dX12_takesBy_32 : decode cX12_takesBy 32 = .ok (.getfield 29, 3) := by decide +kernel
theorem dX12_takesBy_35 : decode cX12_takesBy 35 = .ok (.bipush 18, 2) := by decide +kernel
theorem dX12_takesBy_37 : decode cX12_takesBy 37 = .ok (.bipush 6, 2) := by decide +kernel
theorem dX12_takesBy_39 : decode cX12_takesBy 39 = .ok (.iload_n 1, 1) := by decide +kernel
theorem dX12_takesBy_40 : decode cX12_takesBy 40 = .ok (.imul, 1) := by decide +kernel
theorem dX12_takesBy_41 : decode cX12_takesBy 41 = .ok (.iadd, 1) := by decide +kernel
theorem dX12_takesBy_42 : decode cX12_takesBy 42 = .ok (.iload 4, 2) := by decide +kernel
theorem dX12_takesBy_44 : decode cX12_takesBy 44 = .ok (.iadd, 1) := by decide +kernel
theorem dX12_takesBy_45 : decode cX12_takesBy 45 = .ok (.iaload, 1) := by decide +kernel
theorem dX12_takesBy_46 : decode cX12_takesBy 46 = .ok (.iastore, 1) := by decide +kernel
theorem dX12_takesBy_47 : decode cX12_takesBy 47 = .ok (.iinc 4 1, 3) := by decide +kernel
theorem dX12_takesBy_50 : decode cX12_takesBy 50 = .ok (.goto (-32), 3) := by decide +kernel
theorem dX12_takesBy_53 : decode cX12_takesBy 53 = .ok (.aload_n 0, 1) := by decide +kernel
theorem dX12_takesBy_54 : decode cX12_takesBy 54 = .ok (.getfield 29, 3) := by decide +kernel
theorem dX12_takesBy_57 : decode cX12_takesBy 57 = .ok (.iconst 0, 1) := by decide +kernel
theorem dX12_takesBy_58 : decode cX12_takesBy 58 = .ok (.iload_n 1, 1) := by decide +kernel
theorem dX12_takesBy_59 : decode cX12_takesBy 59 = .ok (.iadd, 1) := by decide +kernel
theorem dX12_takesBy_60 : decode cX12_takesBy 60 = .ok (.iaload, 1) := by decide +kernel
theorem dX12_takesBy_61 : decode cX12_takesBy 61 = .ok (.istore 4, 2) := by decide +kernel
theorem dX12_takesBy_63 : decode cX12_takesBy 63 = .ok (.iconst 0, 1) := by decide +kernel
theorem dX12_takesBy_64 : decode cX12_takesBy 64 = .ok (.istore 5, 2) := by decide +kernel
theorem dX12_takesBy_66 : decode cX12_takesBy 66 = .ok (.iload 5, 2) := by decide +kernel
theorem dX12_takesBy_68 : decode cX12_takesBy 68 = .ok (.bipush 61, 2) := by decide +kernel
theorem dX12_takesBy_70 : decode cX12_takesBy 70 = .ok (.if_icmp .ge 64, 3) := by decide +kernel
theorem dX12_takesBy_73 : decode cX12_takesBy 73 = .ok (.aload_n 0, 1) := by decide +kernel
theorem dX12_takesBy_74 : decode cX12_takesBy 74 = .ok (.invokevirtual 286, 3) := by decide +kernel
theorem dX12_takesBy_77 : decode cX12_takesBy 77 = .ok (.ifCond .eq 6, 3) := by decide +kernel
theorem dX12_takesBy_80 : decode cX12_takesBy 80 = .ok (.iload 5, 2) := by decide +kernel
theorem dX12_takesBy_82 : decode cX12_takesBy 82 = .ok (.ireturn, 1) := by decide +kernel
theorem dX12_takesBy_83 : decode cX12_takesBy 83 = .ok (.iload_n 2, 1) := by decide +kernel
theorem dX12_takesBy_84 : decode cX12_takesBy 84 = .ok (.iload_n 3, 1) := by decide +kernel
theorem dX12_takesBy_85 : decode cX12_takesBy 85 = .ok (.invokestatic 254, 3) := by decide +kernel
theorem dX12_takesBy_88 : decode cX12_takesBy 88 = .ok (.istore 6, 2) := by decide +kernel
theorem dX12_takesBy_90 : decode cX12_takesBy 90 = .ok (.iconst 0, 1) := by decide +kernel
theorem dX12_takesBy_91 : decode cX12_takesBy 91 = .ok (.istore 7, 2) := by decide +kernel
theorem dX12_takesBy_93 : decode cX12_takesBy 93 = .ok (.iload 7, 2) := by decide +kernel
theorem dX12_takesBy_95 : decode cX12_takesBy 95 = .ok (.iload 6, 2) := by decide +kernel
theorem dX12_takesBy_97 : decode cX12_takesBy 97 = .ok (.if_icmp .ge 15, 3) := by decide +kernel
theorem dX12_takesBy_100 : decode cX12_takesBy 100 = .ok (.aload_n 0, 1) := by decide +kernel
theorem dX12_takesBy_101 : decode cX12_takesBy 101 = .ok (.invokevirtual 289, 3) := by decide +kernel
theorem dX12_takesBy_104 : decode cX12_takesBy 104 = .ok (.istore 8, 2) := by decide +kernel
theorem dX12_takesBy_106 : decode cX12_takesBy 106 = .ok (.iinc 7 1, 3) := by decide +kernel
theorem dX12_takesBy_109 : decode cX12_takesBy 109 = .ok (.goto (-16), 3) := by decide +kernel
theorem dX12_takesBy_112 : decode cX12_takesBy 112 = .ok (.iload 4, 2) := by decide +kernel
theorem dX12_takesBy_114 : decode cX12_takesBy 114 = .ok (.iload_n 2, 1) := by decide +kernel
theorem dX12_takesBy_115 : decode cX12_takesBy 115 = .ok (.invokestatic 266, 3) := by decide +kernel
theorem dX12_takesBy_118 : decode cX12_takesBy 118 = .ok (.isub, 1) := by decide +kernel
theorem dX12_takesBy_119 : decode cX12_takesBy 119 = .ok (.istore 4, 2) := by decide +kernel
theorem dX12_takesBy_121 : decode cX12_takesBy 121 = .ok (.iload 4, 2) := by decide +kernel
theorem dX12_takesBy_123 : decode cX12_takesBy 123 = .ok (.ifCond .gt 5, 3) := by decide +kernel
theorem dX12_takesBy_126 : decode cX12_takesBy 126 = .ok (.iconst (-1), 1) := by decide +kernel
theorem dX12_takesBy_127 : decode cX12_takesBy 127 = .ok (.ireturn, 1) := by decide +kernel
theorem dX12_takesBy_128 : decode cX12_takesBy 128 = .ok (.iinc 5 1, 3) := by decide +kernel
theorem dX12_takesBy_131 : decode cX12_takesBy 131 = .ok (.goto (-65), 3) := by decide +kernel
theorem dX12_takesBy_134 : decode cX12_takesBy 134 = .ok (.iconst (-1), 1) := by decide +kernel
theorem dX12_takesBy_135 : decode cX12_takesBy 135 = .ok (.ireturn, 1) := by decide +kernel
theorem dX12_takes_0 : decode cX12_takes 0 = .ok (.aload_n 0, 1) := by decide +kernel
theorem dX12_takes_1 : decode cX12_takes 1 = .ok (.iload_n 1, 1) := by decide +kernel
theorem dX12_takes_2 : decode cX12_takes 2 = .ok (.invokevirtual 233, 3) := by decide +kernel
theorem dX12_takes_5 : decode cX12_takes 5 = .ok (.ifCond .ne 6, 3) := by decide +kernel
theorem dX12_takes_8 : decode cX12_takes 8 = .ok (.bipush (-2), 2) := by decide +kernel
theorem dX12_takes_10 : decode cX12_takes 10 = .ok (.ireturn, 1) := by decide +kernel
theorem dX12_takes_11 : decode cX12_takes 11 = .ok (.iload_n 2, 1) := by decide +kernel
theorem dX12_takes_12 : decode cX12_takes 12 = .ok (.i2l, 1) := by decide +kernel
theorem dX12_takes_13 : decode cX12_takes 13 = .ok (.lconst 1, 1) := by decide +kernel
theorem dX12_takes_14 : decode cX12_takes 14 = .ok (.ldc2_w 292, 3) := by decide +kernel
theorem dX12_takes_17 : decode cX12_takes 17 = .ok (.invokestatic 99, 3) := by decide +kernel
theorem dX12_takes_20 : decode cX12_takes 20 = .ok (.ifCond .eq 18, 3) := by decide +kernel
theorem dX12_takes_23 : decode cX12_takes 23 = .ok (.aload_n 0, 1) := by decide +kernel
theorem dX12_takes_24 : decode cX12_takes 24 = .ok (.iload_n 1, 1) := by decide +kernel
theorem dX12_takes_25 : decode cX12_takes 25 = .ok (.aload_n 0, 1) := by decide +kernel
theorem dX12_takes_26 : decode cX12_takes 26 = .ok (.getfield 7, 3) := by decide +kernel
theorem dX12_takes_29 : decode cX12_takes 29 = .ok (.iload_n 1, 1) := by decide +kernel
theorem dX12_takes_30 : decode cX12_takes 30 = .ok (.iaload, 1) := by decide +kernel
theorem dX12_takes_31 : decode cX12_takes 31 = .ok (.iload_n 2, 1) := by decide +kernel
theorem dX12_takes_32 : decode cX12_takes 32 = .ok (.invokevirtual 294, 3) := by decide +kernel
theorem dX12_takes_35 : decode cX12_takes 35 = .ok (.goto 5, 3) := by decide +kernel
theorem dX12_takes_38 : decode cX12_takes 38 = .ok (.bipush (-3), 2) := by decide +kernel
theorem dX12_takes_40 : decode cX12_takes 40 = .ok (.ireturn, 1) := by decide +kernel
theorem dX12_copyRow_0 : decode cX12_copyRow 0 = .ok (.iconst 0, 1) := by decide +kernel
theorem dX12_copyRow_1 : decode cX12_copyRow 1 = .ok (.istore_n 3, 1) := by decide +kernel
theorem dX12_copyRow_2 : decode cX12_copyRow 2 = .ok (.iload_n 3, 1) := by decide +kernel
theorem dX12_copyRow_3 : decode cX12_copyRow 3 = .ok (.bipush 101, 2) := by decide +kernel
theorem dX12_copyRow_5 : decode cX12_copyRow 5 = .ok (.if_icmp .ge 15, 3) := by decide +kernel
theorem dX12_copyRow_8 : decode cX12_copyRow 8 = .ok (.aload_n 2, 1) := by decide +kernel
theorem dX12_copyRow_9 : decode cX12_copyRow 9 = .ok (.iload_n 3, 1) := by decide +kernel
theorem dX12_copyRow_10 : decode cX12_copyRow 10 = .ok (.aload_n 1, 1) := by decide +kernel
theorem dX12_copyRow_11 : decode cX12_copyRow 11 = .ok (.iload_n 3, 1) := by decide +kernel
theorem dX12_copyRow_12 : decode cX12_copyRow 12 = .ok (.iaload, 1) := by decide +kernel
theorem dX12_copyRow_13 : decode cX12_copyRow 13 = .ok (.iastore, 1) := by decide +kernel
theorem dX12_copyRow_14 : decode cX12_copyRow 14 = .ok (.iinc 3 1, 3) := by decide +kernel
theorem dX12_copyRow_17 : decode cX12_copyRow 17 = .ok (.goto (-15), 3) := by decide +kernel
theorem dX12_copyRow_20 : decode cX12_copyRow 20 = .ok (.return_, 1) := by decide +kernel
theorem dX12_readAt_0 : decode cX12_readAt 0 = .ok (.iconst 0, 1) := by decide +kernel
theorem dX12_readAt_1 : decode cX12_readAt 1 = .ok (.istore_n 2, 1) := by decide +kernel
theorem dX12_readAt_2 : decode cX12_readAt 2 = .ok (.iconst 0, 1) := by decide +kernel
theorem dX12_readAt_3 : decode cX12_readAt 3 = .ok (.istore_n 3, 1) := by decide +kernel
theorem dX12_readAt_4 : decode cX12_readAt 4 = .ok (.iload_n 3, 1) := by decide +kernel
theorem dX12_readAt_5 : decode cX12_readAt 5 = .ok (.bipush 6, 2) := by decide +kernel
theorem dX12_readAt_7 : decode cX12_readAt 7 = .ok (.if_icmp .ge 40, 3) := by decide +kernel
theorem dX12_readAt_10 : decode cX12_readAt 10 = .ok (.iload_n 2, 1) := by decide +kernel
theorem dX12_readAt_11 : decode cX12_readAt 11 = .ok (.aload_n 0, 1) := by decide +kernel
theorem dX12_readAt_12 : decode cX12_readAt 12 = .ok (.getfield 29, 3) := by decide +kernel
theorem dX12_readAt_15 : decode cX12_readAt 15 = .ok (.bipush 59, 2) := by decide +kernel
theorem dX12_readAt_17 : decode cX12_readAt 17 = .ok (.bipush 6, 2) := by decide +kernel
theorem dX12_readAt_19 : decode cX12_readAt 19 = .ok (.iload_n 1, 1) := by decide +kernel
theorem dX12_readAt_20 : decode cX12_readAt 20 = .ok (.imul, 1) := by decide +kernel
theorem dX12_readAt_21 : decode cX12_readAt 21 = .ok (.iadd, 1) := by decide +kernel
theorem dX12_readAt_22 : decode cX12_readAt 22 = .ok (.iload_n 3, 1) := by decide +kernel
theorem dX12_readAt_23 : decode cX12_readAt 23 = .ok (.iadd, 1) := by decide +kernel
theorem dX12_readAt_24 : decode cX12_readAt 24 = .ok (.iaload, 1) := by decide +kernel
theorem dX12_readAt_25 : decode cX12_readAt 25 = .ok (.aload_n 0, 1) := by decide +kernel
theorem dX12_readAt_26 : decode cX12_readAt 26 = .ok (.getfield 25, 3) := by decide +kernel
theorem dX12_readAt_29 : decode cX12_readAt 29 = .ok (.if_icmp .lt 9, 3) := by decide +kernel
theorem dX12_readAt_32 : decode cX12_readAt 32 = .ok (.iconst 1, 1) := by decide +kernel
theorem dX12_readAt_33 : decode cX12_readAt 33 = .ok (.iload_n 3, 1) := by decide +kernel
theorem dX12_readAt_34 : decode cX12_readAt 34 = .ok (.ishl, 1) := by decide +kernel
theorem dX12_readAt_35 : decode cX12_readAt 35 = .ok (.goto 4, 3) := by decide +kernel
theorem dX12_readAt_38 : decode cX12_readAt 38 = .ok (.iconst 0, 1) := by decide +kernel
theorem dX12_readAt_39 : decode cX12_readAt 39 = .ok (.ior, 1) := by decide +kernel
theorem dX12_readAt_40 : decode cX12_readAt 40 = .ok (.istore_n 2, 1) := by decide +kernel
theorem dX12_readAt_41 : decode cX12_readAt 41 = .ok (.iinc 3 1, 3) := by decide +kernel
theorem dX12_readAt_44 : decode cX12_readAt 44 = .ok (.goto (-40), 3) := by decide +kernel
theorem dX12_readAt_47 : decode cX12_readAt 47 = .ok (.iload_n 2, 1) := by decide +kernel
theorem dX12_readAt_48 : decode cX12_readAt 48 = .ok (.ireturn, 1) := by decide +kernel
theorem dX12_later_0 : decode cX12_later 0 = .ok (.iload_n 1, 1) := by decide +kernel
theorem dX12_later_1 : decode cX12_later 1 = .ok (.i2l, 1) := by decide +kernel
theorem dX12_later_2 : decode cX12_later 2 = .ok (.lconst 0, 1) := by decide +kernel
theorem dX12_later_3 : decode cX12_later 3 = .ok (.ldc2_w 250, 3) := by decide +kernel
theorem dX12_later_6 : decode cX12_later 6 = .ok (.invokestatic 99, 3) := by decide +kernel
theorem dX12_later_9 : decode cX12_later 9 = .ok (.ifCond .ne 6, 3) := by decide +kernel
theorem dX12_later_12 : decode cX12_later 12 = .ok (.bipush (-2), 2) := by decide +kernel
theorem dX12_later_14 : decode cX12_later 14 = .ok (.ireturn, 1) := by decide +kernel
theorem dX12_later_15 : decode cX12_later 15 = .ok (.iload_n 2, 1) := by decide +kernel
theorem dX12_later_16 : decode cX12_later 16 = .ok (.i2l, 1) := by decide +kernel
theorem dX12_later_17 : decode cX12_later 17 = .ok (.lconst 0, 1) := by decide +kernel
theorem dX12_later_18 : decode cX12_later 18 = .ok (.ldc2_w 279, 3) := by decide +kernel
theorem dX12_later_21 : decode cX12_later 21 = .ok (.invokestatic 99, 3) := by decide +kernel
theorem dX12_later_24 : decode cX12_later 24 = .ok (.ifCond .ne 6, 3) := by decide +kernel
theorem dX12_later_27 : decode cX12_later 27 = .ok (.bipush (-3), 2) := by decide +kernel
theorem dX12_later_29 : decode cX12_later 29 = .ok (.ireturn, 1) := by decide +kernel
theorem dX12_later_30 : decode cX12_later 30 = .ok (.aload_n 0, 1) := by decide +kernel
theorem dX12_later_31 : decode cX12_later 31 = .ok (.aload_n 0, 1) := by decide +kernel
theorem dX12_later_32 : decode cX12_later 32 = .ok (.getfield 29, 3) := by decide +kernel
theorem dX12_later_35 : decode cX12_later 35 = .ok (.aload_n 0, 1) := by decide +kernel
theorem dX12_later_36 : decode cX12_later 36 = .ok (.getfield 63, 3) := by decide +kernel
theorem dX12_later_39 : decode cX12_later 39 = .ok (.invokevirtual 298, 3) := by decide +kernel
theorem dX12_later_42 : decode cX12_later 42 = .ok (.iconst 0, 1) := by decide +kernel
theorem dX12_later_43 : decode cX12_later 43 = .ok (.istore_n 3, 1) := by decide +kernel
theorem dX12_later_44 : decode cX12_later 44 = .ok (.iload_n 3, 1) := by decide +kernel
theorem dX12_later_45 : decode cX12_later 45 = .ok (.iload_n 2, 1) := by decide +kernel
theorem dX12_later_46 : decode cX12_later 46 = .ok (.if_icmp .ge 13, 3) := by decide +kernel
theorem dX12_later_49 : decode cX12_later 49 = .ok (.aload_n 0, 1) := by decide +kernel
theorem dX12_later_50 : decode cX12_later 50 = .ok (.invokevirtual 283, 3) := by decide +kernel
theorem dX12_later_53 : decode cX12_later 53 = .ok (.iinc 3 1, 3) := by decide +kernel
theorem dX12_later_56 : decode cX12_later 56 = .ok (.goto (-12), 3) := by decide +kernel
theorem dX12_later_59 : decode cX12_later 59 = .ok (.aload_n 0, 1) := by decide +kernel
theorem dX12_later_60 : decode cX12_later 60 = .ok (.iload_n 1, 1) := by decide +kernel
theorem dX12_later_61 : decode cX12_later 61 = .ok (.invokevirtual 302, 3) := by decide +kernel
theorem dX12_later_64 : decode cX12_later 64 = .ok (.istore_n 3, 1) := by decide +kernel
theorem dX12_later_65 : decode cX12_later 65 = .ok (.aload_n 0, 1) := by decide +kernel
theorem dX12_later_66 : decode cX12_later 66 = .ok (.aload_n 0, 1) := by decide +kernel
theorem dX12_later_67 : decode cX12_later 67 = .ok (.getfield 63, 3) := by decide +kernel
theorem dX12_later_70 : decode cX12_later 70 = .ok (.aload_n 0, 1) := by decide +kernel
theorem dX12_later_71 : decode cX12_later 71 = .ok (.getfield 29, 3) := by decide +kernel
theorem dX12_later_74 : decode cX12_later 74 = .ok (.invokevirtual 298, 3) := by decide +kernel
theorem dX12_later_77 : decode cX12_later 77 = .ok (.iload_n 3, 1) := by decide +kernel
theorem dX12_later_78 : decode cX12_later 78 = .ok (.ireturn, 1) := by decide +kernel
theorem dX12_readBy_0 : decode cX12_readBy 0 = .ok (.iconst 0, 1) := by decide +kernel
theorem dX12_readBy_1 : decode cX12_readBy 1 = .ok (.istore_n 2, 1) := by decide +kernel
theorem dX12_readBy_2 : decode cX12_readBy 2 = .ok (.iconst 0, 1) := by decide +kernel
theorem dX12_readBy_3 : decode cX12_readBy 3 = .ok (.istore_n 3, 1) := by decide +kernel
theorem dX12_readBy_4 : decode cX12_readBy 4 = .ok (.iload_n 3, 1) := by decide +kernel
theorem dX12_readBy_5 : decode cX12_readBy 5 = .ok (.bipush 7, 2) := by decide +kernel
theorem dX12_readBy_7 : decode cX12_readBy 7 = .ok (.if_icmp .ge 30, 3) := by decide +kernel
theorem dX12_readBy_10 : decode cX12_readBy 10 = .ok (.iload_n 2, 1) := by decide +kernel
theorem dX12_readBy_11 : decode cX12_readBy 11 = .ok (.iload_n 1, 1) := by decide +kernel
theorem dX12_readBy_12 : decode cX12_readBy 12 = .ok (.iload_n 3, 1) := by decide +kernel
theorem dX12_readBy_13 : decode cX12_readBy 13 = .ok (.invokestatic 305, 3) := by decide +kernel
theorem dX12_readBy_16 : decode cX12_readBy 16 = .ok (.ifCond .eq 12, 3) := by decide +kernel
theorem dX12_readBy_19 : decode cX12_readBy 19 = .ok (.aload_n 0, 1) := by decide +kernel
theorem dX12_readBy_20 : decode cX12_readBy 20 = .ok (.getfield 66, 3) := by decide +kernel
theorem dX12_readBy_23 : decode cX12_readBy 23 = .ok (.iload_n 3, 1) := by decide +kernel
theorem dX12_readBy_24 : decode cX12_readBy 24 = .ok (.iaload, 1) := by decide +kernel
theorem dX12_readBy_25 : decode cX12_readBy 25 = .ok (.goto 4, 3) := by decide +kernel
theorem dX12_readBy_28 : decode cX12_readBy 28 = .ok (.iconst 0, 1) := by decide +kernel
theorem dX12_readBy_29 : decode cX12_readBy 29 = .ok (.ior, 1) := by decide +kernel
theorem dX12_readBy_30 : decode cX12_readBy 30 = .ok (.istore_n 2, 1) := by decide +kernel
theorem dX12_readBy_31 : decode cX12_readBy 31 = .ok (.iinc 3 1, 3) := by decide +kernel
theorem dX12_readBy_34 : decode cX12_readBy 34 = .ok (.goto (-30), 3) := by decide +kernel
theorem dX12_readBy_37 : decode cX12_readBy 37 = .ok (.iload_n 2, 1) := by decide +kernel
theorem dX12_readBy_38 : decode cX12_readBy 38 = .ok (.ireturn, 1) := by decide +kernel
theorem dX12_stands_0 : decode cX12_stands 0 = .ok (.iload_n 1, 1) := by decide +kernel
theorem dX12_stands_1 : decode cX12_stands 1 = .ok (.i2l, 1) := by decide +kernel
theorem dX12_stands_2 : decode cX12_stands 2 = .ok (.lconst 0, 1) := by decide +kernel
theorem dX12_stands_3 : decode cX12_stands 3 = .ok (.ldc2_w 308, 3) := by decide +kernel
theorem dX12_stands_6 : decode cX12_stands 6 = .ok (.invokestatic 99, 3) := by decide +kernel
theorem dX12_stands_9 : decode cX12_stands 9 = .ok (.ifCond .ne 6, 3) := by decide +kernel
theorem dX12_stands_12 : decode cX12_stands 12 = .ok (.bipush (-2), 2) := by decide +kernel
theorem dX12_stands_14 : decode cX12_stands 14 = .ok (.ireturn, 1) := by decide +kernel
theorem dX12_stands_15 : decode cX12_stands 15 = .ok (.iload_n 2, 1) := by decide +kernel
theorem dX12_stands_16 : decode cX12_stands 16 = .ok (.i2l, 1) := by decide +kernel
theorem dX12_stands_17 : decode cX12_stands 17 = .ok (.lconst 0, 1) := by decide +kernel
theorem dX12_stands_18 : decode cX12_stands 18 = .ok (.ldc2_w 279, 3) := by decide +kernel
theorem dX12_stands_21 : decode cX12_stands 21 = .ok (.invokestatic 99, 3) := by decide +kernel
theorem dX12_stands_24 : decode cX12_stands 24 = .ok (.ifCond .ne 6, 3) := by decide +kernel
theorem dX12_stands_27 : decode cX12_stands 27 = .ok (.bipush (-3), 2) := by decide +kernel
theorem dX12_stands_29 : decode cX12_stands 29 = .ok (.ireturn, 1) := by decide +kernel
theorem dX12_stands_30 : decode cX12_stands 30 = .ok (.aload_n 0, 1) := by decide +kernel
theorem dX12_stands_31 : decode cX12_stands 31 = .ok (.aload_n 0, 1) := by decide +kernel
theorem dX12_stands_32 : decode cX12_stands 32 = .ok (.getfield 29, 3) := by decide +kernel
theorem dX12_stands_35 : decode cX12_stands 35 = .ok (.aload_n 0, 1) := by decide +kernel
theorem dX12_stands_36 : decode cX12_stands 36 = .ok (.getfield 63, 3) := by decide +kernel
theorem dX12_stands_39 : decode cX12_stands 39 = .ok (.invokevirtual 298, 3) := by decide +kernel
theorem dX12_stands_42 : decode cX12_stands 42 = .ok (.iconst 0, 1) := by decide +kernel
theorem dX12_stands_43 : decode cX12_stands 43 = .ok (.istore_n 3, 1) := by decide +kernel
theorem dX12_stands_44 : decode cX12_stands 44 = .ok (.iload_n 3, 1) := by decide +kernel
theorem dX12_stands_45 : decode cX12_stands 45 = .ok (.bipush 7, 2) := by decide +kernel
theorem dX12_stands_47 : decode cX12_stands 47 = .ok (.if_icmp .ge 20, 3) := by decide +kernel
theorem dX12_stands_50 : decode cX12_stands 50 = .ok (.aload_n 0, 1) := by decide +kernel
theorem dX12_stands_51 : decode cX12_stands 51 = .ok (.getfield 66, 3) := by decide +kernel
theorem dX12_stands_54 : decode cX12_stands 54 = .ok (.iload_n 3, 1) := by decide +kernel
theorem dX12_stands_55 : decode cX12_stands 55 = .ok (.aload_n 0, 1) := by decide +kernel
theorem dX12_stands_56 : decode cX12_stands 56 = .ok (.iload_n 3, 1) := by decide +kernel
theorem dX12_stands_57 : decode cX12_stands 57 = .ok (.invokevirtual 302, 3) := by decide +kernel
theorem dX12_stands_60 : decode cX12_stands 60 = .ok (.iastore, 1) := by decide +kernel
theorem dX12_stands_61 : decode cX12_stands 61 = .ok (.iinc 3 1, 3) := by decide +kernel
theorem dX12_stands_64 : decode cX12_stands 64 = .ok (.goto (-20), 3) := by decide +kernel
theorem dX12_stands_67 : decode cX12_stands 67 = .ok (.iconst 0, 1) := by decide +kernel
theorem dX12_stands_68 : decode cX12_stands 68 = .ok (.istore_n 3, 1) := by decide +kernel
theorem dX12_stands_69 : decode cX12_stands 69 = .ok (.iload_n 3, 1) := by decide +kernel
theorem dX12_stands_70 : decode cX12_stands 70 = .ok (.iload_n 2, 1) := by decide +kernel
theorem dX12_stands_71 : decode cX12_stands 71 = .ok (.if_icmp .ge 45, 3) := by decide +kernel
theorem dX12_stands_74 : decode cX12_stands 74 = .ok (.aload_n 0, 1) := by decide +kernel
theorem dX12_stands_75 : decode cX12_stands 75 = .ok (.invokevirtual 283, 3) := by decide +kernel
theorem dX12_stands_78 : decode cX12_stands 78 = .ok (.iconst 0, 1) := by decide +kernel
theorem dX12_stands_79 : decode cX12_stands 79 = .ok (.istore 4, 2) := by decide +kernel
theorem dX12_stands_81 : decode cX12_stands 81 = .ok (.iload 4, 2) := by decide +kernel
theorem dX12_stands_83 : decode cX12_stands 83 = .ok (.bipush 7, 2) := by decide +kernel
theorem dX12_stands_85 : decode cX12_stands 85 = .ok (.if_icmp .ge 25, 3) := by decide +kernel
theorem dX12_stands_88 : decode cX12_stands 88 = .ok (.aload_n 0, 1) := by decide +kernel
theorem dX12_stands_89 : decode cX12_stands 89 = .ok (.getfield 66, 3) := by decide +kernel
theorem dX12_stands_92 : decode cX12_stands 92 = .ok (.iload 4, 2) := by decide +kernel
theorem dX12_stands_94 : decode cX12_stands 94 = .ok (.dup2, 1) := by decide +kernel
theorem dX12_stands_95 : decode cX12_stands 95 = .ok (.iaload, 1) := by decide +kernel
theorem dX12_stands_96 : decode cX12_stands 96 = .ok (.aload_n 0, 1) := by decide +kernel
theorem dX12_stands_97 : decode cX12_stands 97 = .ok (.iload 4, 2) := by decide +kernel
theorem dX12_stands_99 : decode cX12_stands 99 = .ok (.invokevirtual 302, 3) := by decide +kernel
theorem dX12_stands_102 : decode cX12_stands 102 = .ok (.ior, 1) := by decide +kernel
theorem dX12_stands_103 : decode cX12_stands 103 = .ok (.iastore, 1) := by decide +kernel
theorem dX12_stands_104 : decode cX12_stands 104 = .ok (.iinc 4 1, 3) := by decide +kernel
theorem dX12_stands_107 : decode cX12_stands 107 = .ok (.goto (-26), 3) := by decide +kernel
theorem dX12_stands_110 : decode cX12_stands 110 = .ok (.iinc 3 1, 3) := by decide +kernel
theorem dX12_stands_113 : decode cX12_stands 113 = .ok (.goto (-44), 3) := by decide +kernel
theorem dX12_stands_116 : decode cX12_stands 116 = .ok (.aload_n 0, 1) := by decide +kernel
theorem dX12_stands_117 : decode cX12_stands 117 = .ok (.aload_n 0, 1) := by decide +kernel
theorem dX12_stands_118 : decode cX12_stands 118 = .ok (.getfield 63, 3) := by decide +kernel
theorem dX12_stands_121 : decode cX12_stands 121 = .ok (.aload_n 0, 1) := by decide +kernel
theorem dX12_stands_122 : decode cX12_stands 122 = .ok (.getfield 29, 3) := by decide +kernel
theorem dX12_stands_125 : decode cX12_stands 125 = .ok (.invokevirtual 298, 3) := by decide +kernel
theorem dX12_stands_128 : decode cX12_stands 128 = .ok (.iconst (-1), 1) := by decide +kernel
theorem dX12_stands_129 : decode cX12_stands 129 = .ok (.istore_n 3, 1) := by decide +kernel
theorem dX12_stands_130 : decode cX12_stands 130 = .ok (.iconst 0, 1) := by decide +kernel
theorem dX12_stands_131 : decode cX12_stands 131 = .ok (.istore 4, 2) := by decide +kernel
theorem dX12_stands_133 : decode cX12_stands 133 = .ok (.iload 4, 2) := by decide +kernel
theorem dX12_stands_135 : decode cX12_stands 135 = .ok (.sipush 128, 3) := by decide +kernel
theorem dX12_stands_138 : decode cX12_stands 138 = .ok (.if_icmp .ge 56, 3) := by decide +kernel
theorem dX12_stands_141 : decode cX12_stands 141 = .ok (.iload_n 3, 1) := by decide +kernel
theorem dX12_stands_142 : decode cX12_stands 142 = .ok (.ifCond .lt 15, 3) := by decide +kernel
theorem dX12_stands_145 : decode cX12_stands 145 = .ok (.iload 4, 2) := by decide +kernel
theorem dX12_stands_147 : decode cX12_stands 147 = .ok (.invokestatic 310, 3) := by decide +kernel
theorem dX12_stands_150 : decode cX12_stands 150 = .ok (.iload_n 3, 1) := by decide +kernel
theorem dX12_stands_151 : decode cX12_stands 151 = .ok (.invokestatic 310, 3) := by decide +kernel
theorem dX12_stands_154 : decode cX12_stands 154 = .ok (.if_icmp .ge 7, 3) := by decide +kernel
theorem dX12_stands_157 : decode cX12_stands 157 = .ok (.iconst 1, 1) := by decide +kernel
theorem dX12_stands_158 : decode cX12_stands 158 = .ok (.goto 4, 3) := by decide +kernel
theorem dX12_stands_161 : decode cX12_stands 161 = .ok (.iconst 0, 1) := by decide +kernel
theorem dX12_stands_162 : decode cX12_stands 162 = .ok (.istore 5, 2) := by decide +kernel
theorem dX12_stands_164 : decode cX12_stands 164 = .ok (.iload 5, 2) := by decide +kernel
theorem dX12_stands_166 : decode cX12_stands 166 = .ok (.ifCond .eq 20, 3) := by decide +kernel
theorem dX12_stands_169 : decode cX12_stands 169 = .ok (.aload_n 0, 1) := by decide +kernel
theorem dX12_stands_170 : decode cX12_stands 170 = .ok (.iload 4, 2) := by decide +kernel
theorem dX12_stands_172 : decode cX12_stands 172 = .ok (.invokevirtual 313, 3) := by decide +kernel
theorem dX12_stands_175 : decode cX12_stands 175 = .ok (.iload_n 1, 1) := by decide +kernel
theorem dX12_stands_176 : decode cX12_stands 176 = .ok (.iand, 1) := by decide +kernel
theorem dX12_stands_177 : decode cX12_stands 177 = .ok (.iload_n 1, 1) := by decide +kernel
theorem dX12_stands_178 : decode cX12_stands 178 = .ok (.if_icmp .ne 8, 3) := by decide +kernel
theorem dX12_stands_181 : decode cX12_stands 181 = .ok (.iload 4, 2) := by decide +kernel
theorem dX12_stands_183 : decode cX12_stands 183 = .ok (.goto 4, 3) := by decide +kernel
theorem dX12_stands_186 : decode cX12_stands 186 = .ok (.iload_n 3, 1) := by decide +kernel
theorem dX12_stands_187 : decode cX12_stands 187 = .ok (.istore_n 3, 1) := by decide +kernel
theorem dX12_stands_188 : decode cX12_stands 188 = .ok (.iinc 4 1, 3) := by decide +kernel
theorem dX12_stands_191 : decode cX12_stands 191 = .ok (.goto (-58), 3) := by decide +kernel
theorem dX12_stands_194 : decode cX12_stands 194 = .ok (.iload_n 3, 1) := by decide +kernel
theorem dX12_stands_195 : decode cX12_stands 195 = .ok (.ireturn, 1) := by decide +kernel
theorem dX12_base_0 : decode cX12_base 0 = .ok (.aload_n 0, 1) := by decide +kernel
theorem dX12_base_1 : decode cX12_base 1 = .ok (.getfield 103, 3) := by decide +kernel
theorem dX12_base_4 : decode cX12_base 4 = .ok (.iconst 1, 1) := by decide +kernel
theorem dX12_base_5 : decode cX12_base 5 = .ok (.iadd, 1) := by decide +kernel
theorem dX12_base_6 : decode cX12_base 6 = .ok (.ireturn, 1) := by decide +kernel
theorem dX12_whoOf_0 : decode cX12_whoOf 0 = .ok (.iload_n 1, 1) := by decide +kernel
theorem dX12_whoOf_1 : decode cX12_whoOf 1 = .ok (.istore_n 3, 1) := by decide +kernel
theorem dX12_whoOf_2 : decode cX12_whoOf 2 = .ok (.aload_n 0, 1) := by decide +kernel
theorem dX12_whoOf_3 : decode cX12_whoOf 3 = .ok (.getfield 96, 3) := by decide +kernel
theorem dX12_whoOf_6 : decode cX12_whoOf 6 = .ok (.iconst 1, 1) := by decide +kernel
theorem dX12_whoOf_7 : decode cX12_whoOf 7 = .ok (.isub, 1) := by decide +kernel
theorem dX12_whoOf_8 : decode cX12_whoOf 8 = .ok (.istore 4, 2) := by decide +kernel
theorem dX12_whoOf_10 : decode cX12_whoOf 10 = .ok (.iload 4, 2) := by decide +kernel
theorem dX12_whoOf_12 : decode cX12_whoOf 12 = .ok (.iload_n 2, 1) := by decide +kernel
theorem dX12_whoOf_13 : decode cX12_whoOf 13 = .ok (.if_icmp .le 16, 3) := by decide +kernel
theorem dX12_whoOf_16 : decode cX12_whoOf 16 = .ok (.iload_n 3, 1) := by decide +kernel
theorem dX12_whoOf_17 : decode cX12_whoOf 17 = .ok (.aload_n 0, 1) := by decide +kernel
theorem dX12_whoOf_18 : decode cX12_whoOf 18 = .ok (.invokevirtual 316, 3) := by decide +kernel
theorem dX12_whoOf_21 : decode cX12_whoOf 21 = .ok (.idiv, 1) := by decide +kernel
theorem dX12_whoOf_22 : decode cX12_whoOf 22 = .ok (.istore_n 3, 1) := by decide +kernel
theorem dX12_whoOf_23 : decode cX12_whoOf 23 = .ok (.iinc 4 (-1), 3) := by decide +kernel
theorem dX12_whoOf_26 : decode cX12_whoOf 26 = .ok (.goto (-16), 3) := by decide +kernel
theorem dX12_whoOf_29 : decode cX12_whoOf 29 = .ok (.iload_n 3, 1) := by decide +kernel
theorem dX12_whoOf_30 : decode cX12_whoOf 30 = .ok (.aload_n 0, 1) := by decide +kernel
theorem dX12_whoOf_31 : decode cX12_whoOf 31 = .ok (.invokevirtual 316, 3) := by decide +kernel
theorem dX12_whoOf_34 : decode cX12_whoOf 34 = .ok (.irem, 1) := by decide +kernel
theorem dX12_whoOf_35 : decode cX12_whoOf 35 = .ok (.ireturn, 1) := by decide +kernel
theorem dX12_isInTime_0 : decode cX12_isInTime 0 = .ok (.iconst 0, 1) := by decide +kernel
theorem dX12_isInTime_1 : decode cX12_isInTime 1 = .ok (.istore_n 3, 1) := by decide +kernel
theorem dX12_isInTime_2 : decode cX12_isInTime 2 = .ok (.aload_n 0, 1) := by decide +kernel
theorem dX12_isInTime_3 : decode cX12_isInTime 3 = .ok (.getfield 29, 3) := by decide +kernel
theorem dX12_isInTime_6 : decode cX12_isInTime 6 = .ok (.bipush 58, 2) := by decide +kernel
theorem dX12_isInTime_8 : decode cX12_isInTime 8 = .ok (.iaload, 1) := by decide +kernel
theorem dX12_isInTime_9 : decode cX12_isInTime 9 = .ok (.istore 4, 2) := by decide +kernel
theorem dX12_isInTime_11 : decode cX12_isInTime 11 = .ok (.iconst 0, 1) := by decide +kernel
theorem dX12_isInTime_12 : decode cX12_isInTime 12 = .ok (.istore 5, 2) := by decide +kernel
theorem dX12_isInTime_14 : decode cX12_isInTime 14 = .ok (.iload 5, 2) := by decide +kernel
theorem dX12_isInTime_16 : decode cX12_isInTime 16 = .ok (.aload_n 0, 1) := by decide +kernel
theorem dX12_isInTime_17 : decode cX12_isInTime 17 = .ok (.getfield 96, 3) := by decide +kernel
theorem dX12_isInTime_20 : decode cX12_isInTime 20 = .ok (.if_icmp .ge 145, 3) := by decide +kernel
theorem dX12_isInTime_23 : decode cX12_isInTime 23 = .ok (.iconst (-1), 1) := by decide +kernel
theorem dX12_isInTime_24 : decode cX12_isInTime 24 = .ok (.istore 6, 2) := by decide +kernel
theorem dX12_isInTime_26 : decode cX12_isInTime 26 = .ok (.iconst 0, 1) := by decide +kernel
theorem dX12_isInTime_27 : decode cX12_isInTime 27 = .ok (.istore 7, 2) := by decide +kernel
theorem dX12_isInTime_29 : decode cX12_isInTime 29 = .ok (.iload 7, 2) := by decide +kernel
theorem dX12_isInTime_31 : decode cX12_isInTime 31 = .ok (.aload_n 0, 1) := by decide +kernel
theorem dX12_isInTime_32 : decode cX12_isInTime 32 = .ok (.getfield 96, 3) := by decide +kernel
theorem dX12_isInTime_35 : decode cX12_isInTime 35 = .ok (.if_icmp .ge 72, 3) := by decide +kernel
theorem dX12_isInTime_38 : decode cX12_isInTime 38 = .ok (.aload_n 0, 1) := by decide +kernel
theorem dX12_isInTime_39 : decode cX12_isInTime 39 = .ok (.iload_n 1, 1) := by decide +kernel
theorem dX12_isInTime_40 : decode cX12_isInTime 40 = .ok (.iload 7, 2) := by decide +kernel
theorem dX12_isInTime_42 : decode cX12_isInTime 42 = .ok (.invokevirtual 320, 3) := by decide +kernel
theorem dX12_isInTime_45 : decode cX12_isInTime 45 = .ok (.iload_n 2, 1) := by decide +kernel
theorem dX12_isInTime_46 : decode cX12_isInTime 46 = .ok (.if_icmp .ne 16, 3) := by decide +kernel
theorem dX12_isInTime_49 : decode cX12_isInTime 49 = .ok (.iload_n 3, 1) := by decide +kernel
theorem dX12_isInTime_50 : decode cX12_isInTime 50 = .ok (.iload 7, 2) := by decide +kernel
theorem dX12_isInTime_52 : decode cX12_isInTime 52 = .ok (.invokestatic 305, 3) := by decide +kernel
theorem dX12_isInTime_55 : decode cX12_isInTime 55 = .ok (.ifCond .ne 7, 3) := by decide +kernel
theorem dX12_isInTime_58 : decode cX12_isInTime 58 = .ok (.iconst 1, 1) := by decide +kernel
theorem dX12_isInTime_59 : decode cX12_isInTime 59 = .ok (.goto 4, 3) := by decide +kernel
theorem dX12_isInTime_62 : decode cX12_isInTime 62 = .ok (.iconst 0, 1) := by decide +kernel
theorem dX12_isInTime_63 : decode cX12_isInTime 63 = .ok (.istore 8, 2) := by decide +kernel
theorem dX12_isInTime_65 : decode cX12_isInTime 65 = .ok (.iload 8, 2) := by decide +kernel
theorem dX12_isInTime_67 : decode cX12_isInTime 67 = .ok (.ifCond .eq 30, 3) := by decide +kernel
theorem dX12_isInTime_70 : decode cX12_isInTime 70 = .ok (.iload 6, 2) := by decide +kernel
theorem dX12_isInTime_72 : decode cX12_isInTime 72 = .ok (.ifCond .lt 20, 3) := by decide +kernel
theorem dX12_isInTime_75 : decode cX12_isInTime 75 = .ok (.aload_n 0, 1) := by decide +kernel
theorem dX12_isInTime_76 : decode cX12_isInTime 76 = .ok (.getfield 16, 3) := by decide +kernel
theorem dX12_isInTime_79 : decode cX12_isInTime 79 = .ok (.iload 7, 2) := by decide +kernel
theorem dX12_isInTime_81 : decode cX12_isInTime 81 = .ok (.iaload, 1) := by decide +kernel
theorem dX12_isInTime_82 : decode cX12_isInTime 82 = .ok (.aload_n 0, 1) := by decide +kernel
theorem dX12_isInTime_83 : decode cX12_isInTime 83 = .ok (.getfield 16, 3) := by decide +kernel
theorem dX12_isInTime_86 : decode cX12_isInTime 86 = .ok (.iload 6, 2) := by decide +kernel
theorem dX12_isInTime_88 : decode cX12_isInTime 88 = .ok (.iaload, 1) := by decide +kernel
theorem dX12_isInTime_89 : decode cX12_isInTime 89 = .ok (.if_icmp .ge 8, 3) := by decide +kernel
theorem dX12_isInTime_92 : decode cX12_isInTime 92 = .ok (.iload 7, 2) := by decide +kernel
theorem dX12_isInTime_94 : decode cX12_isInTime 94 = .ok (.goto 5, 3) := by decide +kernel
theorem dX12_isInTime_97 : decode cX12_isInTime 97 = .ok (.iload 6, 2) := by decide +kernel
theorem dX12_isInTime_99 : decode cX12_isInTime 99 = .ok (.istore 6, 2) := by decide +kernel
theorem dX12_isInTime_101 : decode cX12_isInTime 101 = .ok (.iinc 7 1, 3) := by decide +kernel
theorem dX12_isInTime_104 : decode cX12_isInTime 104 = .ok (.goto (-75), 3) := by decide +kernel
theorem dX12_isInTime_107 : decode cX12_isInTime 107 = .ok (.iload 6, 2) := by decide +kernel
theorem dX12_isInTime_109 : decode cX12_isInTime 109 = .ok (.ifCond .lt 50, 3) := by decide +kernel
theorem dX12_isInTime_112 : decode cX12_isInTime 112 = .ok (.aload_n 0, 1) := by decide +kernel
theorem dX12_isInTime_113 : decode cX12_isInTime 113 = .ok (.getfield 69, 3) := by decide +kernel
theorem dX12_isInTime_116 : decode cX12_isInTime 116 = .ok (.bipush 6, 2) := by decide +kernel
theorem dX12_isInTime_118 : decode cX12_isInTime 118 = .ok (.iload_n 2, 1) := by decide +kernel
theorem dX12_isInTime_119 : decode cX12_isInTime 119 = .ok (.imul, 1) := by decide +kernel
theorem dX12_isInTime_120 : decode cX12_isInTime 120 = .ok (.iload 6, 2) := by decide +kernel
theorem dX12_isInTime_122 : decode cX12_isInTime 122 = .ok (.iadd, 1) := by decide +kernel
theorem dX12_isInTime_123 : decode cX12_isInTime 123 = .ok (.iaload, 1) := by decide +kernel
theorem dX12_isInTime_124 : decode cX12_isInTime 124 = .ok (.istore 7, 2) := by decide +kernel
theorem dX12_isInTime_126 : decode cX12_isInTime 126 = .ok (.iload 4, 2) := by decide +kernel
theorem dX12_isInTime_128 : decode cX12_isInTime 128 = .ok (.iload 7, 2) := by decide +kernel
theorem dX12_isInTime_130 : decode cX12_isInTime 130 = .ok (.iadd, 1) := by decide +kernel
theorem dX12_isInTime_131 : decode cX12_isInTime 131 = .ok (.istore 4, 2) := by decide +kernel
theorem dX12_isInTime_133 : decode cX12_isInTime 133 = .ok (.iload 7, 2) := by decide +kernel
theorem dX12_isInTime_135 : decode cX12_isInTime 135 = .ok (.ifCond .lt 15, 3) := by decide +kernel
theorem dX12_isInTime_138 : decode cX12_isInTime 138 = .ok (.iload 4, 2) := by decide +kernel
theorem dX12_isInTime_140 : decode cX12_isInTime 140 = .ok (.aload_n 0, 1) := by decide +kernel
theorem dX12_isInTime_141 : decode cX12_isInTime 141 = .ok (.getfield 16, 3) := by decide +kernel
theorem dX12_isInTime_144 : decode cX12_isInTime 144 = .ok (.iload 6, 2) := by decide +kernel
theorem dX12_isInTime_146 : decode cX12_isInTime 146 = .ok (.iaload, 1) := by decide +kernel
theorem dX12_isInTime_147 : decode cX12_isInTime 147 = .ok (.if_icmp .le 5, 3) := by decide +kernel
theorem dX12_isInTime_150 : decode cX12_isInTime 150 = .ok (.iconst 0, 1) := by decide +kernel
theorem dX12_isInTime_151 : decode cX12_isInTime 151 = .ok (.ireturn, 1) := by decide +kernel
theorem dX12_isInTime_152 : decode cX12_isInTime 152 = .ok (.iload_n 3, 1) := by decide +kernel
theorem dX12_isInTime_153 : decode cX12_isInTime 153 = .ok (.iconst 1, 1) := by decide +kernel
theorem dX12_isInTime_154 : decode cX12_isInTime 154 = .ok (.iload 6, 2) := by decide +kernel
theorem dX12_isInTime_156 : decode cX12_isInTime 156 = .ok (.ishl, 1) := by decide +kernel
theorem dX12_isInTime_157 : decode cX12_isInTime 157 = .ok (.ior, 1) := by decide +kernel
theorem dX12_isInTime_158 : decode cX12_isInTime 158 = .ok (.istore_n 3, 1) := by decide +kernel
theorem dX12_isInTime_159 : decode cX12_isInTime 159 = .ok (.iinc 5 1, 3) := by decide +kernel
theorem dX12_isInTime_162 : decode cX12_isInTime 162 = .ok (.goto (-148), 3) := by decide +kernel
theorem dX12_isInTime_165 : decode cX12_isInTime 165 = .ok (.iconst 1, 1) := by decide +kernel
theorem dX12_isInTime_166 : decode cX12_isInTime 166 = .ok (.ireturn, 1) := by decide +kernel
theorem dX12_washedBy_0 : decode cX12_washedBy 0 = .ok (.iconst 0, 1) := by decide +kernel
theorem dX12_washedBy_1 : decode cX12_washedBy 1 = .ok (.istore_n 2, 1) := by decide +kernel
theorem dX12_washedBy_2 : decode cX12_washedBy 2 = .ok (.iconst 0, 1) := by decide +kernel
theorem dX12_washedBy_3 : decode cX12_washedBy 3 = .ok (.istore_n 3, 1) := by decide +kernel
theorem dX12_washedBy_4 : decode cX12_washedBy 4 = .ok (.iload_n 3, 1) := by decide +kernel
theorem dX12_washedBy_5 : decode cX12_washedBy 5 = .ok (.aload_n 0, 1) := by decide +kernel
theorem dX12_washedBy_6 : decode cX12_washedBy 6 = .ok (.getfield 96, 3) := by decide +kernel
theorem dX12_washedBy_9 : decode cX12_washedBy 9 = .ok (.if_icmp .ge 61, 3) := by decide +kernel
theorem dX12_washedBy_12 : decode cX12_washedBy 12 = .ok (.aload_n 0, 1) := by decide +kernel
theorem dX12_washedBy_13 : decode cX12_washedBy 13 = .ok (.iload_n 1, 1) := by decide +kernel
theorem dX12_washedBy_14 : decode cX12_washedBy 14 = .ok (.iload_n 3, 1) := by decide +kernel
theorem dX12_washedBy_15 : decode cX12_washedBy 15 = .ok (.invokevirtual 320, 3) := by decide +kernel
theorem dX12_washedBy_18 : decode cX12_washedBy 18 = .ok (.aload_n 0, 1) := by decide +kernel
theorem dX12_washedBy_19 : decode cX12_washedBy 19 = .ok (.getfield 103, 3) := by decide +kernel
theorem dX12_washedBy_22 : decode cX12_washedBy 22 = .ok (.if_icmp .ne 7, 3) := by decide +kernel
theorem dX12_washedBy_25 : decode cX12_washedBy 25 = .ok (.iconst 1, 1) := by decide +kernel
theorem dX12_washedBy_26 : decode cX12_washedBy 26 = .ok (.goto 4, 3) := by decide +kernel
theorem dX12_washedBy_29 : decode cX12_washedBy 29 = .ok (.iconst 0, 1) := by decide +kernel
theorem dX12_washedBy_30 : decode cX12_washedBy 30 = .ok (.istore 4, 2) := by decide +kernel
theorem dX12_washedBy_32 : decode cX12_washedBy 32 = .ok (.iload 4, 2) := by decide +kernel
theorem dX12_washedBy_34 : decode cX12_washedBy 34 = .ok (.ifCond .ne 17, 3) := by decide +kernel
theorem dX12_washedBy_37 : decode cX12_washedBy 37 = .ok (.aload_n 0, 1) := by decide +kernel
theorem dX12_washedBy_38 : decode cX12_washedBy 38 = .ok (.getfield 29, 3) := by decide +kernel
theorem dX12_washedBy_41 : decode cX12_washedBy 41 = .ok (.bipush 6, 2) := by decide +kernel
theorem dX12_washedBy_43 : decode cX12_washedBy 43 = .ok (.iload_n 3, 1) := by decide +kernel
theorem dX12_washedBy_44 : decode cX12_washedBy 44 = .ok (.iadd, 1) := by decide +kernel
theorem dX12_washedBy_45 : decode cX12_washedBy 45 = .ok (.iaload, 1) := by decide +kernel
theorem dX12_washedBy_46 : decode cX12_washedBy 46 = .ok (.ifCond .eq 5, 3) := by decide +kernel
theorem dX12_washedBy_49 : decode cX12_washedBy 49 = .ok (.iconst (-1), 1) := by decide +kernel
theorem dX12_washedBy_50 : decode cX12_washedBy 50 = .ok (.ireturn, 1) := by decide +kernel
theorem dX12_washedBy_51 : decode cX12_washedBy 51 = .ok (.iload_n 2, 1) := by decide +kernel
theorem dX12_washedBy_52 : decode cX12_washedBy 52 = .ok (.iload 4, 2) := by decide +kernel
theorem dX12_washedBy_54 : decode cX12_washedBy 54 = .ok (.ifCond .eq 7, 3) := by decide +kernel
theorem dX12_washedBy_57 : decode cX12_washedBy 57 = .ok (.iconst 0, 1) := by decide +kernel
theorem dX12_washedBy_58 : decode cX12_washedBy 58 = .ok (.goto 4, 3) := by decide +kernel
theorem dX12_washedBy_61 : decode cX12_washedBy 61 = .ok (.iconst 1, 1) := by decide +kernel
theorem dX12_washedBy_62 : decode cX12_washedBy 62 = .ok (.iadd, 1) := by decide +kernel
theorem dX12_washedBy_63 : decode cX12_washedBy 63 = .ok (.istore_n 2, 1) := by decide +kernel
theorem dX12_washedBy_64 : decode cX12_washedBy 64 = .ok (.iinc 3 1, 3) := by decide +kernel
theorem dX12_washedBy_67 : decode cX12_washedBy 67 = .ok (.goto (-63), 3) := by decide +kernel
theorem dX12_washedBy_70 : decode cX12_washedBy 70 = .ok (.iconst 0, 1) := by decide +kernel
theorem dX12_washedBy_71 : decode cX12_washedBy 71 = .ok (.istore_n 3, 1) := by decide +kernel
theorem dX12_washedBy_72 : decode cX12_washedBy 72 = .ok (.iload_n 3, 1) := by decide +kernel
theorem dX12_washedBy_73 : decode cX12_washedBy 73 = .ok (.aload_n 0, 1) := by decide +kernel
theorem dX12_washedBy_74 : decode cX12_washedBy 74 = .ok (.getfield 103, 3) := by decide +kernel
theorem dX12_washedBy_77 : decode cX12_washedBy 77 = .ok (.if_icmp .ge 20, 3) := by decide +kernel
theorem dX12_washedBy_80 : decode cX12_washedBy 80 = .ok (.aload_n 0, 1) := by decide +kernel
theorem dX12_washedBy_81 : decode cX12_washedBy 81 = .ok (.iload_n 1, 1) := by decide +kernel
theorem dX12_washedBy_82 : decode cX12_washedBy 82 = .ok (.iload_n 3, 1) := by decide +kernel
theorem dX12_washedBy_83 : decode cX12_washedBy 83 = .ok (.invokevirtual 323, 3) := by decide +kernel
theorem dX12_washedBy_86 : decode cX12_washedBy 86 = .ok (.ifCond .ne 5, 3) := by decide +kernel
theorem dX12_washedBy_89 : decode cX12_washedBy 89 = .ok (.iconst (-1), 1) := by decide +kernel
theorem dX12_washedBy_90 : decode cX12_washedBy 90 = .ok (.ireturn, 1) := by decide +kernel
theorem dX12_washedBy_91 : decode cX12_washedBy 91 = .ok (.iinc 3 1, 3) := by decide +kernel
theorem dX12_washedBy_94 : decode cX12_washedBy 94 = .ok (.goto (-22), 3) := by decide +kernel
theorem dX12_washedBy_97 : decode cX12_washedBy 97 = .ok (.iload_n 2, 1) := by decide +kernel
theorem dX12_washedBy_98 : decode cX12_washedBy 98 = .ok (.ireturn, 1) := by decide +kernel
theorem dX12_bestWay_0 : decode cX12_bestWay 0 = .ok (.iconst 0, 1) := by decide +kernel
theorem dX12_bestWay_1 : decode cX12_bestWay 1 = .ok (.istore_n 1, 1) := by decide +kernel
theorem dX12_bestWay_2 : decode cX12_bestWay 2 = .ok (.iload_n 1, 1) := by decide +kernel
theorem dX12_bestWay_3 : decode cX12_bestWay 3 = .ok (.aload_n 0, 1) := by decide +kernel
theorem dX12_bestWay_4 : decode cX12_bestWay 4 = .ok (.getfield 103, 3) := by decide +kernel
theorem dX12_bestWay_7 : decode cX12_bestWay 7 = .ok (.if_icmp .ge 53, 3) := by decide +kernel
theorem dX12_bestWay_10 : decode cX12_bestWay 10 = .ok (.iconst 0, 1) := by decide +kernel
theorem dX12_bestWay_11 : decode cX12_bestWay 11 = .ok (.istore_n 2, 1) := by decide +kernel
theorem dX12_bestWay_12 : decode cX12_bestWay 12 = .ok (.iload_n 2, 1) := by decide +kernel
theorem dX12_bestWay_13 : decode cX12_bestWay 13 = .ok (.aload_n 0, 1) := by decide +kernel
theorem dX12_bestWay_14 : decode cX12_bestWay 14 = .ok (.getfield 96, 3) := by decide +kernel
theorem dX12_bestWay_17 : decode cX12_bestWay 17 = .ok (.if_icmp .ge 37, 3) := by decide +kernel
theorem dX12_bestWay_20 : decode cX12_bestWay 20 = .ok (.aload_n 0, 1) := by decide +kernel
theorem dX12_bestWay_21 : decode cX12_bestWay 21 = .ok (.getfield 69, 3) := by decide +kernel
theorem dX12_bestWay_24 : decode cX12_bestWay 24 = .ok (.bipush 6, 2) := by decide +kernel
theorem dX12_bestWay_26 : decode cX12_bestWay 26 = .ok (.iload_n 1, 1) := by decide +kernel
theorem dX12_bestWay_27 : decode cX12_bestWay 27 = .ok (.imul, 1) := by decide +kernel
theorem dX12_bestWay_28 : decode cX12_bestWay 28 = .ok (.iload_n 2, 1) := by decide +kernel
theorem dX12_bestWay_29 : decode cX12_bestWay 29 = .ok (.iadd, 1) := by decide +kernel
theorem dX12_bestWay_30 : decode cX12_bestWay 30 = .ok (.aload_n 0, 1) := by decide +kernel
theorem dX12_bestWay_31 : decode cX12_bestWay 31 = .ok (.iload_n 2, 1) := by decide +kernel
theorem dX12_bestWay_32 : decode cX12_bestWay 32 = .ok (.aload_n 0, 1) := by decide +kernel
theorem dX12_bestWay_33 : decode cX12_bestWay 33 = .ok (.getfield 7, 3) := by decide +kernel
theorem dX12_bestWay_36 : decode cX12_bestWay 36 = .ok (.iload_n 2, 1) := by decide +kernel
theorem dX12_bestWay_37 : decode cX12_bestWay 37 = .ok (.iaload, 1) := by decide +kernel
theorem dX12_bestWay_38 : decode cX12_bestWay 38 = .ok (.aload_n 0, 1) := by decide +kernel
theorem dX12_bestWay_39 : decode cX12_bestWay 39 = .ok (.getfield 22, 3) := by decide +kernel
theorem dX12_bestWay_42 : decode cX12_bestWay 42 = .ok (.iload_n 1, 1) := by decide +kernel
theorem dX12_bestWay_43 : decode cX12_bestWay 43 = .ok (.iaload, 1) := by decide +kernel
theorem dX12_bestWay_44 : decode cX12_bestWay 44 = .ok (.invokevirtual 294, 3) := by decide +kernel
theorem dX12_bestWay_47 : decode cX12_bestWay 47 = .ok (.iastore, 1) := by decide +kernel
theorem dX12_bestWay_48 : decode cX12_bestWay 48 = .ok (.iinc 2 1, 3) := by decide +kernel
theorem dX12_bestWay_51 : decode cX12_bestWay 51 = .ok (.goto (-39), 3) := by decide +kernel
theorem dX12_bestWay_54 : decode cX12_bestWay 54 = .ok (.iinc 1 1, 3) := by decide +kernel
theorem dX12_bestWay_57 : decode cX12_bestWay 57 = .ok (.goto (-55), 3) := by decide +kernel
theorem dX12_bestWay_60 : decode cX12_bestWay 60 = .ok (.iconst 1, 1) := by decide +kernel
theorem dX12_bestWay_61 : decode cX12_bestWay 61 = .ok (.istore_n 1, 1) := by decide +kernel
theorem dX12_bestWay_62 : decode cX12_bestWay 62 = .ok (.iconst 0, 1) := by decide +kernel
theorem dX12_bestWay_63 : decode cX12_bestWay 63 = .ok (.istore_n 2, 1) := by decide +kernel
theorem dX12_bestWay_64 : decode cX12_bestWay 64 = .ok (.iload_n 2, 1) := by decide +kernel
theorem dX12_bestWay_65 : decode cX12_bestWay 65 = .ok (.aload_n 0, 1) := by decide +kernel
theorem dX12_bestWay_66 : decode cX12_bestWay 66 = .ok (.getfield 96, 3) := by decide +kernel
theorem dX12_bestWay_69 : decode cX12_bestWay 69 = .ok (.if_icmp .ge 16, 3) := by decide +kernel
theorem dX12_bestWay_72 : decode cX12_bestWay 72 = .ok (.iload_n 1, 1) := by decide +kernel
theorem dX12_bestWay_73 : decode cX12_bestWay 73 = .ok (.aload_n 0, 1) := by decide +kernel
theorem dX12_bestWay_74 : decode cX12_bestWay 74 = .ok (.invokevirtual 316, 3) := by decide +kernel
theorem dX12_bestWay_77 : decode cX12_bestWay 77 = .ok (.imul, 1) := by decide +kernel
theorem dX12_bestWay_78 : decode cX12_bestWay 78 = .ok (.istore_n 1, 1) := by decide +kernel
theorem dX12_bestWay_79 : decode cX12_bestWay 79 = .ok (.iinc 2 1, 3) := by decide +kernel
theorem dX12_bestWay_82 : decode cX12_bestWay 82 = .ok (.goto (-18), 3) := by decide +kernel
theorem dX12_bestWay_85 : decode cX12_bestWay 85 = .ok (.iconst (-1), 1) := by decide +kernel
theorem dX12_bestWay_86 : decode cX12_bestWay 86 = .ok (.istore_n 2, 1) := by decide +kernel
theorem dX12_bestWay_87 : decode cX12_bestWay 87 = .ok (.iconst (-1), 1) := by decide +kernel
theorem dX12_bestWay_88 : decode cX12_bestWay 88 = .ok (.istore_n 3, 1) := by decide +kernel
theorem dX12_bestWay_89 : decode cX12_bestWay 89 = .ok (.iconst 0, 1) := by decide +kernel
theorem dX12_bestWay_90 : decode cX12_bestWay 90 = .ok (.istore 4, 2) := by decide +kernel
theorem dX12_bestWay_92 : decode cX12_bestWay 92 = .ok (.iload 4, 2) := by decide +kernel
theorem dX12_bestWay_94 : decode cX12_bestWay 94 = .ok (.iload_n 1, 1) := by decide +kernel
theorem dX12_bestWay_95 : decode cX12_bestWay 95 = .ok (.if_icmp .ge 43, 3) := by decide +kernel
theorem dX12_bestWay_98 : decode cX12_bestWay 98 = .ok (.aload_n 0, 1) := by decide +kernel
theorem dX12_bestWay_99 : decode cX12_bestWay 99 = .ok (.iload 4, 2) := by decide +kernel
theorem dX12_bestWay_101 : decode cX12_bestWay 101 = .ok (.invokevirtual 326, 3) := by decide +kernel
theorem dX12_bestWay_104 : decode cX12_bestWay 104 = .ok (.istore 5, 2) := by decide +kernel
theorem dX12_bestWay_106 : decode cX12_bestWay 106 = .ok (.iload 5, 2) := by decide +kernel
theorem dX12_bestWay_108 : decode cX12_bestWay 108 = .ok (.iload_n 3, 1) := by decide +kernel
theorem dX12_bestWay_109 : decode cX12_bestWay 109 = .ok (.if_icmp .le 8, 3) := by decide +kernel
theorem dX12_bestWay_112 : decode cX12_bestWay 112 = .ok (.iload 4, 2) := by decide +kernel
theorem dX12_bestWay_114 : decode cX12_bestWay 114 = .ok (.goto 4, 3) := by decide +kernel
theorem dX12_bestWay_117 : decode cX12_bestWay 117 = .ok (.iload_n 2, 1) := by decide +kernel
theorem dX12_bestWay_118 : decode cX12_bestWay 118 = .ok (.istore_n 2, 1) := by decide +kernel
theorem dX12_bestWay_119 : decode cX12_bestWay 119 = .ok (.iload 5, 2) := by decide +kernel
theorem dX12_bestWay_121 : decode cX12_bestWay 121 = .ok (.iload_n 3, 1) := by decide +kernel
theorem dX12_bestWay_122 : decode cX12_bestWay 122 = .ok (.if_icmp .le 8, 3) := by decide +kernel
theorem dX12_bestWay_125 : decode cX12_bestWay 125 = .ok (.iload 5, 2) := by decide +kernel
theorem dX12_bestWay_127 : decode cX12_bestWay 127 = .ok (.goto 4, 3) := by decide +kernel
theorem dX12_bestWay_130 : decode cX12_bestWay 130 = .ok (.iload_n 3, 1) := by decide +kernel
theorem dX12_bestWay_131 : decode cX12_bestWay 131 = .ok (.istore_n 3, 1) := by decide +kernel
theorem dX12_bestWay_132 : decode cX12_bestWay 132 = .ok (.iinc 4 1, 3) := by decide +kernel
theorem dX12_bestWay_135 : decode cX12_bestWay 135 = .ok (.goto (-43), 3) := by decide +kernel
theorem dX12_bestWay_138 : decode cX12_bestWay 138 = .ok (.iload_n 2, 1) := by decide +kernel
theorem dX12_bestWay_139 : decode cX12_bestWay 139 = .ok (.ireturn, 1) := by decide +kernel
theorem dX12_plan_0 : decode cX12_plan 0 = .ok (.iload_n 1, 1) := by decide +kernel
theorem dX12_plan_1 : decode cX12_plan 1 = .ok (.iconst (-1), 1) := by decide +kernel
theorem dX12_plan_2 : decode cX12_plan 2 = .ok (.if_icmp .eq 14, 3) := by decide +kernel
theorem dX12_plan_5 : decode cX12_plan 5 = .ok (.aload_n 0, 1) := by decide +kernel
theorem dX12_plan_6 : decode cX12_plan 6 = .ok (.iload_n 1, 1) := by decide +kernel
theorem dX12_plan_7 : decode cX12_plan 7 = .ok (.invokevirtual 233, 3) := by decide +kernel
theorem dX12_plan_10 : decode cX12_plan 10 = .ok (.ifCond .ne 6, 3) := by decide +kernel
theorem dX12_plan_13 : decode cX12_plan 13 = .ok (.bipush (-2), 2) := by decide +kernel
theorem dX12_plan_15 : decode cX12_plan 15 = .ok (.ireturn, 1) := by decide +kernel
theorem dX12_plan_16 : decode cX12_plan 16 = .ok (.aload_n 0, 1) := by decide +kernel
theorem dX12_plan_17 : decode cX12_plan 17 = .ok (.invokevirtual 329, 3) := by decide +kernel
theorem dX12_plan_20 : decode cX12_plan 20 = .ok (.istore_n 2, 1) := by decide +kernel
theorem dX12_plan_21 : decode cX12_plan 21 = .ok (.iload_n 1, 1) := by decide +kernel
theorem dX12_plan_22 : decode cX12_plan 22 = .ok (.iconst (-1), 1) := by decide +kernel
theorem dX12_plan_23 : decode cX12_plan 23 = .ok (.if_icmp .ne 9, 3) := by decide +kernel
theorem dX12_plan_26 : decode cX12_plan 26 = .ok (.aload_n 0, 1) := by decide +kernel
theorem dX12_plan_27 : decode cX12_plan 27 = .ok (.iload_n 2, 1) := by decide +kernel
theorem dX12_plan_28 : decode cX12_plan 28 = .ok (.invokevirtual 326, 3) := by decide +kernel
theorem dX12_plan_31 : decode cX12_plan 31 = .ok (.ireturn, 1) := by decide +kernel
theorem dX12_plan_32 : decode cX12_plan 32 = .ok (.aload_n 0, 1) := by decide +kernel
theorem dX12_plan_33 : decode cX12_plan 33 = .ok (.iload_n 2, 1) := by decide +kernel
theorem dX12_plan_34 : decode cX12_plan 34 = .ok (.iload_n 1, 1) := by decide +kernel
theorem dX12_plan_35 : decode cX12_plan 35 = .ok (.invokevirtual 320, 3) := by decide +kernel
theorem dX12_plan_38 : decode cX12_plan 38 = .ok (.istore_n 3, 1) := by decide +kernel
theorem dX12_plan_39 : decode cX12_plan 39 = .ok (.iload_n 3, 1) := by decide +kernel
theorem dX12_plan_40 : decode cX12_plan 40 = .ok (.aload_n 0, 1) := by decide +kernel
theorem dX12_plan_41 : decode cX12_plan 41 = .ok (.getfield 103, 3) := by decide +kernel
theorem dX12_plan_44 : decode cX12_plan 44 = .ok (.if_icmp .ne 7, 3) := by decide +kernel
theorem dX12_plan_47 : decode cX12_plan 47 = .ok (.iconst (-1), 1) := by decide +kernel
theorem dX12_plan_48 : decode cX12_plan 48 = .ok (.goto 4, 3) := by decide +kernel
theorem dX12_plan_51 : decode cX12_plan 51 = .ok (.iload_n 3, 1) := by decide +kernel
theorem dX12_plan_52 : decode cX12_plan 52 = .ok (.ireturn, 1) := by decide +kernel
theorem dX12_needed_0 : decode cX12_needed 0 = .ok (.iload_n 1, 1) := by decide +kernel
theorem dX12_needed_1 : decode cX12_needed 1 = .ok (.i2l, 1) := by decide +kernel
theorem dX12_needed_2 : decode cX12_needed 2 = .ok (.lconst 0, 1) := by decide +kernel
theorem dX12_needed_3 : decode cX12_needed 3 = .ok (.iconst 1, 1) := by decide +kernel
theorem dX12_needed_4 : decode cX12_needed 4 = .ok (.aload_n 0, 1) := by decide +kernel
theorem dX12_needed_5 : decode cX12_needed 5 = .ok (.getfield 96, 3) := by decide +kernel
theorem dX12_needed_8 : decode cX12_needed 8 = .ok (.ishl, 1) := by decide +kernel
theorem dX12_needed_9 : decode cX12_needed 9 = .ok (.iconst 1, 1) := by decide +kernel
theorem dX12_needed_10 : decode cX12_needed 10 = .ok (.isub, 1) := by decide +kernel
theorem dX12_needed_11 : decode cX12_needed 11 = .ok (.i2l, 1) := by decide +kernel
theorem dX12_needed_12 : decode cX12_needed 12 = .ok (.invokestatic 99, 3) := by decide +kernel
theorem dX12_needed_15 : decode cX12_needed 15 = .ok (.ifCond .ne 6, 3) := by decide +kernel
theorem dX12_needed_18 : decode cX12_needed 18 = .ok (.bipush (-2), 2) := by decide +kernel
theorem dX12_needed_20 : decode cX12_needed 20 = .ok (.ireturn, 1) := by decide +kernel
theorem dX12_needed_21 : decode cX12_needed 21 = .ok (.iconst 0, 1) := by decide +kernel
theorem dX12_needed_22 : decode cX12_needed 22 = .ok (.istore_n 2, 1) := by decide +kernel
theorem dX12_needed_23 : decode cX12_needed 23 = .ok (.iconst 0, 1) := by decide +kernel
theorem dX12_needed_24 : decode cX12_needed 24 = .ok (.istore_n 3, 1) := by decide +kernel
theorem dX12_needed_25 : decode cX12_needed 25 = .ok (.iload_n 3, 1) := by decide +kernel
theorem dX12_needed_26 : decode cX12_needed 26 = .ok (.aload_n 0, 1) := by decide +kernel
theorem dX12_needed_27 : decode cX12_needed 27 = .ok (.getfield 96, 3) := by decide +kernel
theorem dX12_needed_30 : decode cX12_needed 30 = .ok (.if_icmp .ge 38, 3) := by decide +kernel
theorem dX12_needed_33 : decode cX12_needed 33 = .ok (.iload_n 2, 1) := by decide +kernel
theorem dX12_needed_34 : decode cX12_needed 34 = .ok (.iload_n 1, 1) := by decide +kernel
theorem dX12_needed_35 : decode cX12_needed 35 = .ok (.iload_n 3, 1) := by decide +kernel
theorem dX12_needed_36 : decode cX12_needed 36 = .ok (.invokestatic 305, 3) := by decide +kernel
theorem dX12_needed_39 : decode cX12_needed 39 = .ok (.ifCond .eq 20, 3) := by decide +kernel
theorem dX12_needed_42 : decode cX12_needed 42 = .ok (.aload_n 0, 1) := by decide +kernel
theorem dX12_needed_43 : decode cX12_needed 43 = .ok (.getfield 29, 3) := by decide +kernel
theorem dX12_needed_46 : decode cX12_needed 46 = .ok (.bipush 18, 2) := by decide +kernel
theorem dX12_needed_48 : decode cX12_needed 48 = .ok (.bipush 6, 2) := by decide +kernel
theorem dX12_needed_50 : decode cX12_needed 50 = .ok (.iload_n 3, 1) := by decide +kernel
theorem dX12_needed_51 : decode cX12_needed 51 = .ok (.imul, 1) := by decide +kernel
theorem dX12_needed_52 : decode cX12_needed 52 = .ok (.iadd, 1) := by decide +kernel
theorem dX12_needed_53 : decode cX12_needed 53 = .ok (.iconst 5, 1) := by decide +kernel
theorem dX12_needed_54 : decode cX12_needed 54 = .ok (.iadd, 1) := by decide +kernel
theorem dX12_needed_55 : decode cX12_needed 55 = .ok (.iaload, 1) := by decide +kernel
theorem dX12_needed_56 : decode cX12_needed 56 = .ok (.goto 4, 3) := by decide +kernel
theorem dX12_needed_59 : decode cX12_needed 59 = .ok (.iconst 0, 1) := by decide +kernel
theorem dX12_needed_60 : decode cX12_needed 60 = .ok (.iadd, 1) := by decide +kernel
theorem dX12_needed_61 : decode cX12_needed 61 = .ok (.istore_n 2, 1) := by decide +kernel
theorem dX12_needed_62 : decode cX12_needed 62 = .ok (.iinc 3 1, 3) := by decide +kernel
theorem dX12_needed_65 : decode cX12_needed 65 = .ok (.goto (-40), 3) := by decide +kernel
theorem dX12_needed_68 : decode cX12_needed 68 = .ok (.iload_n 2, 1) := by decide +kernel
theorem dX12_needed_69 : decode cX12_needed 69 = .ok (.ireturn, 1) := by decide +kernel
theorem dX12_seen_0 : decode cX12_seen 0 = .ok (.aload_n 0, 1) := by decide +kernel
theorem dX12_seen_1 : decode cX12_seen 1 = .ok (.iload_n 1, 1) := by decide +kernel
theorem dX12_seen_2 : decode cX12_seen 2 = .ok (.invokevirtual 233, 3) := by decide +kernel
theorem dX12_seen_5 : decode cX12_seen 5 = .ok (.ifCond .ne 6, 3) := by decide +kernel
theorem dX12_seen_8 : decode cX12_seen 8 = .ok (.bipush (-2), 2) := by decide +kernel
theorem dX12_seen_10 : decode cX12_seen 10 = .ok (.ireturn, 1) := by decide +kernel
theorem dX12_seen_11 : decode cX12_seen 11 = .ok (.iload_n 2, 1) := by decide +kernel
theorem dX12_seen_12 : decode cX12_seen 12 = .ok (.i2l, 1) := by decide +kernel
theorem dX12_seen_13 : decode cX12_seen 13 = .ok (.lconst 1, 1) := by decide +kernel
theorem dX12_seen_14 : decode cX12_seen 14 = .ok (.ldc2_w 292, 3) := by decide +kernel
theorem dX12_seen_17 : decode cX12_seen 17 = .ok (.invokestatic 99, 3) := by decide +kernel
theorem dX12_seen_20 : decode cX12_seen 20 = .ok (.ifCond .eq 15, 3) := by decide +kernel
theorem dX12_seen_23 : decode cX12_seen 23 = .ok (.iload_n 3, 1) := by decide +kernel
theorem dX12_seen_24 : decode cX12_seen 24 = .ok (.i2l, 1) := by decide +kernel
theorem dX12_seen_25 : decode cX12_seen 25 = .ok (.lconst 0, 1) := by decide +kernel
theorem dX12_seen_26 : decode cX12_seen 26 = .ok (.ldc2_w 332, 3) := by decide +kernel
theorem dX12_seen_29 : decode cX12_seen 29 = .ok (.invokestatic 99, 3) := by decide +kernel
theorem dX12_seen_32 : decode cX12_seen 32 = .ok (.ifCond .ne 6, 3) := by decide +kernel
theorem dX12_seen_35 : decode cX12_seen 35 = .ok (.bipush (-3), 2) := by decide +kernel
theorem dX12_seen_37 : decode cX12_seen 37 = .ok (.ireturn, 1) := by decide +kernel
theorem dX12_seen_38 : decode cX12_seen 38 = .ok (.aload_n 0, 1) := by decide +kernel
theorem dX12_seen_39 : decode cX12_seen 39 = .ok (.getfield 220, 3) := by decide +kernel
theorem dX12_seen_42 : decode cX12_seen 42 = .ok (.bipush 6, 2) := by decide +kernel
theorem dX12_seen_44 : decode cX12_seen 44 = .ok (.if_icmp .ne 6, 3) := by decide +kernel
theorem dX12_seen_47 : decode cX12_seen 47 = .ok (.bipush (-5), 2) := by decide +kernel
theorem dX12_seen_49 : decode cX12_seen 49 = .ok (.ireturn, 1) := by decide +kernel
theorem dX12_seen_50 : decode cX12_seen 50 = .ok (.aload_n 0, 1) := by decide +kernel
theorem dX12_seen_51 : decode cX12_seen 51 = .ok (.getfield 72, 3) := by decide +kernel
theorem dX12_seen_54 : decode cX12_seen 54 = .ok (.aload_n 0, 1) := by decide +kernel
theorem dX12_seen_55 : decode cX12_seen 55 = .ok (.getfield 220, 3) := by decide +kernel
theorem dX12_seen_58 : decode cX12_seen 58 = .ok (.iload_n 1, 1) := by decide +kernel
theorem dX12_seen_59 : decode cX12_seen 59 = .ok (.iastore, 1) := by decide +kernel
theorem dX12_seen_60 : decode cX12_seen 60 = .ok (.aload_n 0, 1) := by decide +kernel
theorem dX12_seen_61 : decode cX12_seen 61 = .ok (.getfield 75, 3) := by decide +kernel
theorem dX12_seen_64 : decode cX12_seen 64 = .ok (.aload_n 0, 1) := by decide +kernel
theorem dX12_seen_65 : decode cX12_seen 65 = .ok (.getfield 220, 3) := by decide +kernel
theorem dX12_seen_68 : decode cX12_seen 68 = .ok (.iload_n 2, 1) := by decide +kernel
theorem dX12_seen_69 : decode cX12_seen 69 = .ok (.iastore, 1) := by decide +kernel
theorem dX12_seen_70 : decode cX12_seen 70 = .ok (.aload_n 0, 1) := by decide +kernel
theorem dX12_seen_71 : decode cX12_seen 71 = .ok (.getfield 78, 3) := by decide +kernel
theorem dX12_seen_74 : decode cX12_seen 74 = .ok (.aload_n 0, 1) := by decide +kernel
theorem dX12_seen_75 : decode cX12_seen 75 = .ok (.getfield 220, 3) := by decide +kernel
theorem dX12_seen_78 : decode cX12_seen 78 = .ok (.iload_n 3, 1) := by decide +kernel
theorem dX12_seen_79 : decode cX12_seen 79 = .ok (.iastore, 1) := by decide +kernel
theorem dX12_seen_80 : decode cX12_seen 80 = .ok (.aload_n 0, 1) := by decide +kernel
theorem dX12_seen_81 : decode cX12_seen 81 = .ok (.dup, 1) := by decide +kernel
theorem dX12_seen_82 : decode cX12_seen 82 = .ok (.getfield 220, 3) := by decide +kernel
theorem dX12_seen_85 : decode cX12_seen 85 = .ok (.iconst 1, 1) := by decide +kernel
theorem dX12_seen_86 : decode cX12_seen 86 = .ok (.iadd, 1) := by decide +kernel
theorem dX12_seen_87 : decode cX12_seen 87 = .ok (.putfield 220, 3) := by decide +kernel
theorem dX12_seen_90 : decode cX12_seen 90 = .ok (.aload_n 0, 1) := by decide +kernel
theorem dX12_seen_91 : decode cX12_seen 91 = .ok (.getfield 220, 3) := by decide +kernel
theorem dX12_seen_94 : decode cX12_seen 94 = .ok (.ireturn, 1) := by decide +kernel
theorem dX12_forget_0 : decode cX12_forget 0 = .ok (.aload_n 0, 1) := by decide +kernel
theorem dX12_forget_1 : decode cX12_forget 1 = .ok (.getfield 220, 3) := by decide +kernel
theorem dX12_forget_4 : decode cX12_forget 4 = .ok (.istore_n 1, 1) := by decide +kernel
theorem dX12_forget_5 : decode cX12_forget 5 = .ok (.aload_n 0, 1) := by decide +kernel
theorem dX12_forget_6 : decode cX12_forget 6 = .ok (.iconst 0, 1) := by decide +kernel
theorem dX12_forget_7 : decode cX12_forget 7 = .ok (.putfield 220, 3) := by decide +kernel
theorem dX12_forget_10 : decode cX12_forget 10 = .ok (.iload_n 1, 1) := by decide +kernel
theorem dX12_forget_11 : decode cX12_forget 11 = .ok (.ireturn, 1) := by decide +kernel
theorem dX12_kinds_0 : decode cX12_kinds 0 = .ok (.aload_n 0, 1) := by decide +kernel
theorem dX12_kinds_1 : decode cX12_kinds 1 = .ok (.iload_n 1, 1) := by decide +kernel
theorem dX12_kinds_2 : decode cX12_kinds 2 = .ok (.invokevirtual 233, 3) := by decide +kernel
theorem dX12_kinds_5 : decode cX12_kinds 5 = .ok (.ifCond .ne 6, 3) := by decide +kernel
theorem dX12_kinds_8 : decode cX12_kinds 8 = .ok (.bipush (-2), 2) := by decide +kernel
theorem dX12_kinds_10 : decode cX12_kinds 10 = .ok (.ireturn, 1) := by decide +kernel
theorem dX12_kinds_11 : decode cX12_kinds 11 = .ok (.iconst 0, 1) := by decide +kernel
theorem dX12_kinds_12 : decode cX12_kinds 12 = .ok (.istore_n 2, 1) := by decide +kernel
theorem dX12_kinds_13 : decode cX12_kinds 13 = .ok (.iconst 0, 1) := by decide +kernel
theorem dX12_kinds_14 : decode cX12_kinds 14 = .ok (.istore_n 3, 1) := by decide +kernel
theorem dX12_kinds_15 : decode cX12_kinds 15 = .ok (.iload_n 3, 1) := by decide +kernel
theorem dX12_kinds_16 : decode cX12_kinds 16 = .ok (.iconst 4, 1) := by decide +kernel
theorem dX12_kinds_17 : decode cX12_kinds 17 = .ok (.if_icmp .ge 105, 3) := by decide +kernel
theorem dX12_kinds_20 : decode cX12_kinds 20 = .ok (.iconst 1, 1) := by decide +kernel
theorem dX12_kinds_21 : decode cX12_kinds 21 = .ok (.istore 4, 2) := by decide +kernel
theorem dX12_kinds_23 : decode cX12_kinds 23 = .ok (.iconst 0, 1) := by decide +kernel
theorem dX12_kinds_24 : decode cX12_kinds 24 = .ok (.istore 5, 2) := by decide +kernel
theorem dX12_kinds_26 : decode cX12_kinds 26 = .ok (.iload 5, 2) := by decide +kernel
theorem dX12_kinds_28 : decode cX12_kinds 28 = .ok (.aload_n 0, 1) := by decide +kernel
theorem dX12_kinds_29 : decode cX12_kinds 29 = .ok (.getfield 220, 3) := by decide +kernel
theorem dX12_kinds_32 : decode cX12_kinds 32 = .ok (.if_icmp .ge 69, 3) := by decide +kernel
theorem dX12_kinds_35 : decode cX12_kinds 35 = .ok (.aload_n 0, 1) := by decide +kernel
theorem dX12_kinds_36 : decode cX12_kinds 36 = .ok (.iload_n 1, 1) := by decide +kernel
theorem dX12_kinds_37 : decode cX12_kinds 37 = .ok (.iload_n 3, 1) := by decide +kernel
theorem dX12_kinds_38 : decode cX12_kinds 38 = .ok (.aload_n 0, 1) := by decide +kernel
theorem dX12_kinds_39 : decode cX12_kinds 39 = .ok (.getfield 75, 3) := by decide +kernel
theorem dX12_kinds_42 : decode cX12_kinds 42 = .ok (.iload 5, 2) := by decide +kernel
theorem dX12_kinds_44 : decode cX12_kinds 44 = .ok (.iaload, 1) := by decide +kernel
theorem dX12_kinds_45 : decode cX12_kinds 45 = .ok (.invokevirtual 294, 3) := by decide +kernel
theorem dX12_kinds_48 : decode cX12_kinds 48 = .ok (.istore 6, 2) := by decide +kernel
theorem dX12_kinds_50 : decode cX12_kinds 50 = .ok (.iload 4, 2) := by decide +kernel
theorem dX12_kinds_52 : decode cX12_kinds 52 = .ok (.ifCond .eq 40, 3) := by decide +kernel
theorem dX12_kinds_55 : decode cX12_kinds 55 = .ok (.aload_n 0, 1) := by decide +kernel
theorem dX12_kinds_56 : decode cX12_kinds 56 = .ok (.getfield 72, 3) := by decide +kernel
theorem dX12_kinds_59 : decode cX12_kinds 59 = .ok (.iload 5, 2) := by decide +kernel
theorem dX12_kinds_61 : decode cX12_kinds 61 = .ok (.iaload, 1) := by decide +kernel
theorem dX12_kinds_62 : decode cX12_kinds 62 = .ok (.iload_n 1, 1) := by decide +kernel
theorem dX12_kinds_63 : decode cX12_kinds 63 = .ok (.if_icmp .ne 25, 3) := by decide +kernel
theorem dX12_kinds_66 : decode cX12_kinds 66 = .ok (.aload_n 0, 1) := by decide +kernel
theorem dX12_kinds_67 : decode cX12_kinds 67 = .ok (.getfield 78, 3) := by decide +kernel
theorem dX12_kinds_70 : decode cX12_kinds 70 = .ok (.iload 5, 2) := by decide +kernel
theorem dX12_kinds_72 : decode cX12_kinds 72 = .ok (.iaload, 1) := by decide +kernel
theorem dX12_kinds_73 : decode cX12_kinds 73 = .ok (.iload 6, 2) := by decide +kernel
theorem dX12_kinds_75 : decode cX12_kinds 75 = .ok (.ifCond .ge 8, 3) := by decide +kernel
theorem dX12_kinds_78 : decode cX12_kinds 78 = .ok (.bipush 60, 2) := by decide +kernel
theorem dX12_kinds_80 : decode cX12_kinds 80 = .ok (.goto 5, 3) := by decide +kernel
theorem dX12_kinds_83 : decode cX12_kinds 83 = .ok (.iload 6, 2) := by decide +kernel
theorem dX12_kinds_85 : decode cX12_kinds 85 = .ok (.if_icmp .ne 7, 3) := by decide +kernel
theorem dX12_kinds_88 : decode cX12_kinds 88 = .ok (.iconst 1, 1) := by decide +kernel
theorem dX12_kinds_89 : decode cX12_kinds 89 = .ok (.goto 4, 3) := by decide +kernel
theorem dX12_kinds_92 : decode cX12_kinds 92 = .ok (.iconst 0, 1) := by decide +kernel
theorem dX12_kinds_93 : decode cX12_kinds 93 = .ok (.istore 4, 2) := by decide +kernel
theorem dX12_kinds_95 : decode cX12_kinds 95 = .ok (.iinc 5 1, 3) := by decide +kernel
theorem dX12_kinds_98 : decode cX12_kinds 98 = .ok (.goto (-72), 3) := by decide +kernel
theorem dX12_kinds_101 : decode cX12_kinds 101 = .ok (.iload_n 2, 1) := by decide +kernel
theorem dX12_kinds_102 : decode cX12_kinds 102 = .ok (.iload 4, 2) := by decide +kernel
theorem dX12_kinds_104 : decode cX12_kinds 104 = .ok (.ifCond .eq 9, 3) := by decide +kernel
theorem dX12_kinds_107 : decode cX12_kinds 107 = .ok (.iconst 1, 1) := by decide +kernel
theorem dX12_kinds_108 : decode cX12_kinds 108 = .ok (.iload_n 3, 1) := by decide +kernel
theorem dX12_kinds_109 : decode cX12_kinds 109 = .ok (.ishl, 1) := by decide +kernel
theorem dX12_kinds_110 : decode cX12_kinds 110 = .ok (.goto 4, 3) := by decide +kernel
theorem dX12_kinds_113 : decode cX12_kinds 113 = .ok (.iconst 0, 1) := by decide +kernel
theorem dX12_kinds_114 : decode cX12_kinds 114 = .ok (.ior, 1) := by decide +kernel
theorem dX12_kinds_115 : decode cX12_kinds 115 = .ok (.istore_n 2, 1) := by decide +kernel
theorem dX12_kinds_116 : decode cX12_kinds 116 = .ok (.iinc 3 1, 3) := by decide +kernel
theorem dX12_kinds_119 : decode cX12_kinds 119 = .ok (.goto (-104), 3) := by decide +kernel
theorem dX12_kinds_122 : decode cX12_kinds 122 = .ok (.iload_n 2, 1) := by decide +kernel
theorem dX12_kinds_123 : decode cX12_kinds 123 = .ok (.ireturn, 1) := by decide +kernel
theorem dX12_common_0 : decode cX12_common 0 = .ok (.lload_n 0, 1) := by decide +kernel
theorem dX12_common_1 : decode cX12_common 1 = .ok (.lstore 4, 2) := by decide +kernel
theorem dX12_common_3 : decode cX12_common 3 = .ok (.lload_n 2, 1) := by decide +kernel
theorem dX12_common_4 : decode cX12_common 4 = .ok (.lstore 6, 2) := by decide +kernel
theorem dX12_common_6 : decode cX12_common 6 = .ok (.lload 6, 2) := by decide +kernel
theorem dX12_common_8 : decode cX12_common 8 = .ok (.lconst 0, 1) := by decide +kernel
theorem dX12_common_9 : decode cX12_common 9 = .ok (.lcmp, 1) := by decide +kernel
theorem dX12_common_10 : decode cX12_common 10 = .ok (.ifCond .le 21, 3) := by decide +kernel
theorem dX12_common_13 : decode cX12_common 13 = .ok (.lload 4, 2) := by decide +kernel
theorem dX12_common_15 : decode cX12_common 15 = .ok (.lload 6, 2) := by decide +kernel
theorem dX12_common_17 : decode cX12_common 17 = .ok (.lrem, 1) := by decide +kernel
theorem dX12_common_18 : decode cX12_common 18 = .ok (.lstore 8, 2) := by decide +kernel
theorem dX12_common_20 : decode cX12_common 20 = .ok (.lload 6, 2) := by decide +kernel
theorem dX12_common_22 : decode cX12_common 22 = .ok (.lstore 4, 2) := by decide +kernel
theorem dX12_common_24 : decode cX12_common 24 = .ok (.lload 8, 2) := by decide +kernel
theorem dX12_common_26 : decode cX12_common 26 = .ok (.lstore 6, 2) := by decide +kernel
theorem dX12_common_28 : decode cX12_common 28 = .ok (.goto (-22), 3) := by decide +kernel
theorem dX12_common_31 : decode cX12_common 31 = .ok (.lload 4, 2) := by decide +kernel
theorem dX12_common_33 : decode cX12_common 33 = .ok (.lreturn, 1) := by decide +kernel
theorem dX12_over_0 : decode cX12_over 0 = .ok (.lconst 1, 1) := by decide +kernel
theorem dX12_over_1 : decode cX12_over 1 = .ok (.lstore_n 2, 1) := by decide +kernel
theorem dX12_over_2 : decode cX12_over 2 = .ok (.iconst 1, 1) := by decide +kernel
theorem dX12_over_3 : decode cX12_over 3 = .ok (.istore 4, 2) := by decide +kernel
theorem dX12_over_5 : decode cX12_over 5 = .ok (.iload 4, 2) := by decide +kernel
theorem dX12_over_7 : decode cX12_over 7 = .ok (.iload_n 1, 1) := by decide +kernel
theorem dX12_over_8 : decode cX12_over 8 = .ok (.if_icmp .gt 23, 3) := by decide +kernel
theorem dX12_over_11 : decode cX12_over 11 = .ok (.lload_n 2, 1) := by decide +kernel
theorem dX12_over_12 : decode cX12_over 12 = .ok (.iload_n 0, 1) := by decide +kernel
theorem dX12_over_13 : decode cX12_over 13 = .ok (.iload_n 1, 1) := by decide +kernel
theorem dX12_over_14 : decode cX12_over 14 = .ok (.isub, 1) := by decide +kernel
theorem dX12_over_15 : decode cX12_over 15 = .ok (.iload 4, 2) := by decide +kernel
theorem dX12_over_17 : decode cX12_over 17 = .ok (.iadd, 1) := by decide +kernel
theorem dX12_over_18 : decode cX12_over 18 = .ok (.i2l, 1) := by decide +kernel
theorem dX12_over_19 : decode cX12_over 19 = .ok (.lmul, 1) := by decide +kernel
theorem dX12_over_20 : decode cX12_over 20 = .ok (.iload 4, 2) := by decide +kernel
theorem dX12_over_22 : decode cX12_over 22 = .ok (.i2l, 1) := by decide +kernel
theorem dX12_over_23 : decode cX12_over 23 = .ok (.ldiv, 1) := by decide +kernel
theorem dX12_over_24 : decode cX12_over 24 = .ok (.lstore_n 2, 1) := by decide +kernel
theorem dX12_over_25 : decode cX12_over 25 = .ok (.iinc 4 1, 3) := by decide +kernel
theorem dX12_over_28 : decode cX12_over 28 = .ok (.goto (-23), 3) := by decide +kernel
theorem dX12_over_31 : decode cX12_over 31 = .ok (.lload_n 2, 1) := by decide +kernel
theorem dX12_over_32 : decode cX12_over 32 = .ok (.lreturn, 1) := by decide +kernel
theorem dX12_power_0 : decode cX12_power 0 = .ok (.lconst 1, 1) := by decide +kernel
theorem dX12_power_1 : decode cX12_power 1 = .ok (.lstore_n 3, 1) := by decide +kernel
theorem dX12_power_2 : decode cX12_power 2 = .ok (.iconst 0, 1) := by decide +kernel
theorem dX12_power_3 : decode cX12_power 3 = .ok (.istore 5, 2) := by decide +kernel
theorem dX12_power_5 : decode cX12_power 5 = .ok (.iload 5, 2) := by decide +kernel
theorem dX12_power_7 : decode cX12_power 7 = .ok (.iload_n 2, 1) := by decide +kernel
theorem dX12_power_8 : decode cX12_power 8 = .ok (.if_icmp .ge 13, 3) := by decide +kernel
theorem dX12_power_11 : decode cX12_power 11 = .ok (.lload_n 3, 1) := by decide +kernel
theorem dX12_power_12 : decode cX12_power 12 = .ok (.lload_n 0, 1) := by decide +kernel
theorem dX12_power_13 : decode cX12_power 13 = .ok (.lmul, 1) := by decide +kernel
theorem dX12_power_14 : decode cX12_power 14 = .ok (.lstore_n 3, 1) := by decide +kernel
theorem dX12_power_15 : decode cX12_power 15 = .ok (.iinc 5 1, 3) := by decide +kernel
theorem dX12_power_18 : decode cX12_power 18 = .ok (.goto (-13), 3) := by decide +kernel
theorem dX12_power_21 : decode cX12_power 21 = .ok (.lload_n 3, 1) := by decide +kernel
theorem dX12_power_22 : decode cX12_power 22 = .ok (.lreturn, 1) := by decide +kernel
theorem dX12_lightning_0 : decode cX12_lightning 0 = .ok (.iload_n 1, 1) := by decide +kernel
theorem dX12_lightning_1 : decode cX12_lightning 1 = .ok (.i2l, 1) := by decide +kernel
theorem dX12_lightning_2 : decode cX12_lightning 2 = .ok (.lconst 0, 1) := by decide +kernel
theorem dX12_lightning_3 : decode cX12_lightning 3 = .ok (.ldc2_w 334, 3) := by decide +kernel
theorem dX12_lightning_6 : decode cX12_lightning 6 = .ok (.invokestatic 99, 3) := by decide +kernel
theorem dX12_lightning_9 : decode cX12_lightning 9 = .ok (.ifCond .eq 38, 3) := by decide +kernel
theorem dX12_lightning_12 : decode cX12_lightning 12 = .ok (.iload_n 2, 1) := by decide +kernel
theorem dX12_lightning_13 : decode cX12_lightning 13 = .ok (.i2l, 1) := by decide +kernel
theorem dX12_lightning_14 : decode cX12_lightning 14 = .ok (.lconst 0, 1) := by decide +kernel
theorem dX12_lightning_15 : decode cX12_lightning 15 = .ok (.ldc2_w 336, 3) := by decide +kernel
theorem dX12_lightning_18 : decode cX12_lightning 18 = .ok (.invokestatic 99, 3) := by decide +kernel
theorem dX12_lightning_21 : decode cX12_lightning 21 = .ok (.ifCond .eq 26, 3) := by decide +kernel
theorem dX12_lightning_24 : decode cX12_lightning 24 = .ok (.iload_n 3, 1) := by decide +kernel
theorem dX12_lightning_25 : decode cX12_lightning 25 = .ok (.i2l, 1) := by decide +kernel
theorem dX12_lightning_26 : decode cX12_lightning 26 = .ok (.lconst 0, 1) := by decide +kernel
theorem dX12_lightning_27 : decode cX12_lightning 27 = .ok (.ldc2_w 338, 3) := by decide +kernel
theorem dX12_lightning_30 : decode cX12_lightning 30 = .ok (.invokestatic 99, 3) := by decide +kernel
theorem dX12_lightning_33 : decode cX12_lightning 33 = .ok (.ifCond .eq 14, 3) := by decide +kernel
theorem dX12_lightning_36 : decode cX12_lightning 36 = .ok (.iload 4, 2) := by decide +kernel
theorem dX12_lightning_38 : decode cX12_lightning 38 = .ok (.i2l, 1) := by decide +kernel
theorem dX12_lightning_39 : decode cX12_lightning 39 = .ok (.lconst 0, 1) := by decide +kernel
theorem dX12_lightning_40 : decode cX12_lightning 40 = .ok (.lconst 1, 1) := by decide +kernel
theorem dX12_lightning_41 : decode cX12_lightning 41 = .ok (.invokestatic 99, 3) := by decide +kernel
theorem dX12_lightning_44 : decode cX12_lightning 44 = .ok (.ifCond .ne 6, 3) := by decide +kernel
theorem dX12_lightning_47 : decode cX12_lightning 47 = .ok (.bipush (-3), 2) := by decide +kernel
theorem dX12_lightning_49 : decode cX12_lightning 49 = .ok (.ireturn, 1) := by decide +kernel
theorem dX12_lightning_50 : decode cX12_lightning 50 = .ok (.lconst 0, 1) := by decide +kernel
theorem dX12_lightning_51 : decode cX12_lightning 51 = .ok (.lstore 5, 2) := by decide +kernel
theorem dX12_lightning_53 : decode cX12_lightning 53 = .ok (.iload_n 3, 1) := by decide +kernel
theorem dX12_lightning_54 : decode cX12_lightning 54 = .ok (.istore 7, 2) := by decide +kernel
theorem dX12_lightning_56 : decode cX12_lightning 56 = .ok (.iload 7, 2) := by decide +kernel
theorem dX12_lightning_58 : decode cX12_lightning 58 = .ok (.iload_n 1, 1) := by decide +kernel
theorem dX12_lightning_59 : decode cX12_lightning 59 = .ok (.if_icmp .gt 41, 3) := by decide +kernel
theorem dX12_lightning_62 : decode cX12_lightning 62 = .ok (.lload 5, 2) := by decide +kernel
theorem dX12_lightning_64 : decode cX12_lightning 64 = .ok (.iload_n 1, 1) := by decide +kernel
theorem dX12_lightning_65 : decode cX12_lightning 65 = .ok (.iload 7, 2) := by decide +kernel
theorem dX12_lightning_67 : decode cX12_lightning 67 = .ok (.invokestatic 340, 3) := by decide +kernel
theorem dX12_lightning_70 : decode cX12_lightning 70 = .ok (.bipush 10, 2) := by decide +kernel
theorem dX12_lightning_72 : decode cX12_lightning 72 = .ok (.iload_n 2, 1) := by decide +kernel
theorem dX12_lightning_73 : decode cX12_lightning 73 = .ok (.isub, 1) := by decide +kernel
theorem dX12_lightning_74 : decode cX12_lightning 74 = .ok (.i2l, 1) := by decide +kernel
theorem dX12_lightning_75 : decode cX12_lightning 75 = .ok (.iload 7, 2) := by decide +kernel
theorem dX12_lightning_77 : decode cX12_lightning 77 = .ok (.invokestatic 344, 3) := by decide +kernel
theorem dX12_lightning_80 : decode cX12_lightning 80 = .ok (.lmul, 1) := by decide +kernel
theorem dX12_lightning_81 : decode cX12_lightning 81 = .ok (.iload_n 2, 1) := by decide +kernel
theorem dX12_lightning_82 : decode cX12_lightning 82 = .ok (.i2l, 1) := by decide +kernel
theorem dX12_lightning_83 : decode cX12_lightning 83 = .ok (.iload_n 1, 1) := by decide +kernel
theorem dX12_lightning_84 : decode cX12_lightning 84 = .ok (.iload 7, 2) := by decide +kernel
theorem dX12_lightning_86 : decode cX12_lightning 86 = .ok (.isub, 1) := by decide +kernel
theorem dX12_lightning_87 : decode cX12_lightning 87 = .ok (.invokestatic 344, 3) := by decide +kernel
theorem dX12_lightning_90 : decode cX12_lightning 90 = .ok (.lmul, 1) := by decide +kernel
theorem dX12_lightning_91 : decode cX12_lightning 91 = .ok (.ladd, 1) := by decide +kernel
theorem dX12_lightning_92 : decode cX12_lightning 92 = .ok (.lstore 5, 2) := by decide +kernel
theorem dX12_lightning_94 : decode cX12_lightning 94 = .ok (.iinc 7 1, 3) := by decide +kernel
theorem dX12_lightning_97 : decode cX12_lightning 97 = .ok (.goto (-41), 3) := by decide +kernel
theorem dX12_lightning_100 : decode cX12_lightning 100 = .ok (.ldc2_w 336, 3) := by decide +kernel
theorem dX12_lightning_103 : decode cX12_lightning 103 = .ok (.iload_n 1, 1) := by decide +kernel
theorem dX12_lightning_104 : decode cX12_lightning 104 = .ok (.invokestatic 344, 3) := by decide +kernel
theorem dX12_lightning_107 : decode cX12_lightning 107 = .ok (.lstore 7, 2) := by decide +kernel
theorem dX12_lightning_109 : decode cX12_lightning 109 = .ok (.lload 7, 2) := by decide +kernel
theorem dX12_lightning_111 : decode cX12_lightning 111 = .ok (.lload 5, 2) := by decide +kernel
theorem dX12_lightning_113 : decode cX12_lightning 113 = .ok (.invokestatic 348, 3) := by decide +kernel
theorem dX12_lightning_116 : decode cX12_lightning 116 = .ok (.lstore 9, 2) := by decide +kernel
theorem dX12_lightning_118 : decode cX12_lightning 118 = .ok (.iload 4, 2) := by decide +kernel
theorem dX12_lightning_120 : decode cX12_lightning 120 = .ok (.ifCond .ne 11, 3) := by decide +kernel
theorem dX12_lightning_123 : decode cX12_lightning 123 = .ok (.lload 5, 2) := by decide +kernel
theorem dX12_lightning_125 : decode cX12_lightning 125 = .ok (.lload 9, 2) := by decide +kernel
theorem dX12_lightning_127 : decode cX12_lightning 127 = .ok (.ldiv, 1) := by decide +kernel
theorem dX12_lightning_128 : decode cX12_lightning 128 = .ok (.goto 8, 3) := by decide +kernel
theorem dX12_lightning_131 : decode cX12_lightning 131 = .ok (.lload 7, 2) := by decide +kernel
theorem dX12_lightning_133 : decode cX12_lightning 133 = .ok (.lload 9, 2) := by decide +kernel
theorem dX12_lightning_135 : decode cX12_lightning 135 = .ok (.ldiv, 1) := by decide +kernel
theorem dX12_lightning_136 : decode cX12_lightning 136 = .ok (.l2i, 1) := by decide +kernel
theorem dX12_lightning_137 : decode cX12_lightning 137 = .ok (.ireturn, 1) := by decide +kernel
theorem dX12_isRow_0 : decode cX12_isRow 0 = .ok (.iload_n 0, 1) := by decide +kernel
theorem dX12_isRow_1 : decode cX12_isRow 1 = .ok (.i2l, 1) := by decide +kernel
theorem dX12_isRow_2 : decode cX12_isRow 2 = .ok (.lconst 0, 1) := by decide +kernel
theorem dX12_isRow_3 : decode cX12_isRow 3 = .ok (.ldc2_w 352, 3) := by decide +kernel
theorem dX12_isRow_6 : decode cX12_isRow 6 = .ok (.invokestatic 99, 3) := by decide +kernel
theorem dX12_isRow_9 : decode cX12_isRow 9 = .ok (.ireturn, 1) := by decide +kernel
theorem dX12_line_0 : decode cX12_line 0 = .ok (.iload_n 1, 1) := by decide +kernel
theorem dX12_line_1 : decode cX12_line 1 = .ok (.invokestatic 354, 3) := by decide +kernel
theorem dX12_line_4 : decode cX12_line 4 = .ok (.ifCond .ne 6, 3) := by decide +kernel
theorem dX12_line_7 : decode cX12_line 7 = .ok (.bipush (-2), 2) := by decide +kernel
theorem dX12_line_9 : decode cX12_line 9 = .ok (.ireturn, 1) := by decide +kernel
theorem dX12_line_10 : decode cX12_line 10 = .ok (.iload_n 2, 1) := by decide +kernel
theorem dX12_line_11 : decode cX12_line 11 = .ok (.i2l, 1) := by decide +kernel
theorem dX12_line_12 : decode cX12_line 12 = .ok (.lconst 0, 1) := by decide +kernel
theorem dX12_line_13 : decode cX12_line 13 = .ok (.ldc2_w 352, 3) := by decide +kernel
theorem dX12_line_16 : decode cX12_line 16 = .ok (.invokestatic 99, 3) := by decide +kernel
theorem dX12_line_19 : decode cX12_line 19 = .ok (.ifCond .eq 9, 3) := by decide +kernel
theorem dX12_line_22 : decode cX12_line 22 = .ok (.iload_n 3, 1) := by decide +kernel
theorem dX12_line_23 : decode cX12_line 23 = .ok (.bipush 16, 2) := by decide +kernel
theorem dX12_line_25 : decode cX12_line 25 = .ok (.if_icmp .le 6, 3) := by decide +kernel
theorem dX12_line_28 : decode cX12_line 28 = .ok (.bipush (-3), 2) := by decide +kernel
theorem dX12_line_30 : decode cX12_line 30 = .ok (.ireturn, 1) := by decide +kernel
theorem dX12_line_31 : decode cX12_line 31 = .ok (.iload_n 3, 1) := by decide +kernel
theorem dX12_line_32 : decode cX12_line 32 = .ok (.ifCond .ge 6, 3) := by decide +kernel
theorem dX12_line_35 : decode cX12_line 35 = .ok (.bipush (-16), 2) := by decide +kernel
theorem dX12_line_37 : decode cX12_line 37 = .ok (.ireturn, 1) := by decide +kernel
theorem dX12_line_38 : decode cX12_line 38 = .ok (.aload_n 0, 1) := by decide +kernel
theorem dX12_line_39 : decode cX12_line 39 = .ok (.getfield 81, 3) := by decide +kernel
theorem dX12_line_42 : decode cX12_line 42 = .ok (.iload_n 1, 1) := by decide +kernel
theorem dX12_line_43 : decode cX12_line 43 = .ok (.iconst 1, 1) := by decide +kernel
theorem dX12_line_44 : decode cX12_line 44 = .ok (.bastore, 1) := by decide +kernel
theorem dX12_line_45 : decode cX12_line 45 = .ok (.aload_n 0, 1) := by decide +kernel
theorem dX12_line_46 : decode cX12_line 46 = .ok (.getfield 84, 3) := by decide +kernel
theorem dX12_line_49 : decode cX12_line 49 = .ok (.iload_n 1, 1) := by decide +kernel
theorem dX12_line_50 : decode cX12_line 50 = .ok (.iload_n 2, 1) := by decide +kernel
theorem dX12_line_51 : decode cX12_line 51 = .ok (.iastore, 1) := by decide +kernel
theorem dX12_line_52 : decode cX12_line 52 = .ok (.aload_n 0, 1) := by decide +kernel
theorem dX12_line_53 : decode cX12_line 53 = .ok (.getfield 87, 3) := by decide +kernel
theorem dX12_line_56 : decode cX12_line 56 = .ok (.iload_n 1, 1) := by decide +kernel
theorem dX12_line_57 : decode cX12_line 57 = .ok (.iload_n 3, 1) := by decide +kernel
theorem dX12_line_58 : decode cX12_line 58 = .ok (.iastore, 1) := by decide +kernel
theorem dX12_line_59 : decode cX12_line 59 = .ok (.iconst 0, 1) := by decide +kernel
theorem dX12_line_60 : decode cX12_line 60 = .ok (.istore 4, 2) := by decide +kernel
theorem dX12_line_62 : decode cX12_line 62 = .ok (.iload 4, 2) := by decide +kernel
theorem dX12_line_64 : decode cX12_line 64 = .ok (.iload_n 3, 1) := by decide +kernel
theorem dX12_line_65 : decode cX12_line 65 = .ok (.if_icmp .ge 22, 3) := by decide +kernel
theorem dX12_line_68 : decode cX12_line 68 = .ok (.aload_n 0, 1) := by decide +kernel
theorem dX12_line_69 : decode cX12_line 69 = .ok (.getfield 90, 3) := by decide +kernel
theorem dX12_line_72 : decode cX12_line 72 = .ok (.bipush 16, 2) := by decide +kernel
theorem dX12_line_74 : decode cX12_line 74 = .ok (.iload_n 1, 1) := by decide +kernel
theorem dX12_line_75 : decode cX12_line 75 = .ok (.imul, 1) := by decide +kernel
theorem dX12_line_76 : decode cX12_line 76 = .ok (.iload 4, 2) := by decide +kernel
theorem dX12_line_78 : decode cX12_line 78 = .ok (.iadd, 1) := by decide +kernel
theorem dX12_line_79 : decode cX12_line 79 = .ok (.iconst 0, 1) := by decide +kernel
theorem dX12_line_80 : decode cX12_line 80 = .ok (.iastore, 1) := by decide +kernel
theorem dX12_line_81 : decode cX12_line 81 = .ok (.iinc 4 1, 3) := by decide +kernel
theorem dX12_line_84 : decode cX12_line 84 = .ok (.goto (-22), 3) := by decide +kernel
theorem dX12_line_87 : decode cX12_line 87 = .ok (.iload_n 3, 1) := by decide +kernel
theorem dX12_line_88 : decode cX12_line 88 = .ok (.ireturn, 1) := by decide +kernel
theorem dX12_holds_0 : decode cX12_holds 0 = .ok (.iload_n 2, 1) := by decide +kernel
theorem dX12_holds_1 : decode cX12_holds 1 = .ok (.ifCond .eq 42, 3) := by decide +kernel
theorem dX12_holds_4 : decode cX12_holds 4 = .ok (.aload_n 0, 1) := by decide +kernel
theorem dX12_holds_5 : decode cX12_holds 5 = .ok (.getfield 84, 3) := by decide +kernel
theorem dX12_holds_8 : decode cX12_holds 8 = .ok (.iload_n 1, 1) := by decide +kernel
theorem dX12_holds_9 : decode cX12_holds 9 = .ok (.iaload, 1) := by decide +kernel
theorem dX12_holds_10 : decode cX12_holds 10 = .ok (.ifCond .eq 33, 3) := by decide +kernel
theorem dX12_holds_13 : decode cX12_holds 13 = .ok (.aload_n 0, 1) := by decide +kernel
theorem dX12_holds_14 : decode cX12_holds 14 = .ok (.getfield 84, 3) := by decide +kernel
theorem dX12_holds_17 : decode cX12_holds 17 = .ok (.iload_n 1, 1) := by decide +kernel
theorem dX12_holds_18 : decode cX12_holds 18 = .ok (.iaload, 1) := by decide +kernel
theorem dX12_holds_19 : decode cX12_holds 19 = .ok (.iconst 1, 1) := by decide +kernel
theorem dX12_holds_20 : decode cX12_holds 20 = .ok (.if_icmp .ne 7, 3) := by decide +kernel
theorem dX12_holds_23 : decode cX12_holds 23 = .ok (.iconst 1, 1) := by decide +kernel
theorem dX12_holds_24 : decode cX12_holds 24 = .ok (.goto 4, 3) := by decide +kernel
theorem dX12_holds_27 : decode cX12_holds 27 = .ok (.iconst 0, 1) := by decide +kernel
theorem dX12_holds_28 : decode cX12_holds 28 = .ok (.iload_n 2, 1) := by decide +kernel
theorem dX12_holds_29 : decode cX12_holds 29 = .ok (.sipush 1000, 3) := by decide +kernel
theorem dX12_holds_32 : decode cX12_holds 32 = .ok (.if_icmp .ge 7, 3) := by decide +kernel
theorem dX12_holds_35 : decode cX12_holds 35 = .ok (.iconst 1, 1) := by decide +kernel
theorem dX12_holds_36 : decode cX12_holds 36 = .ok (.goto 4, 3) := by decide +kernel
theorem dX12_holds_39 : decode cX12_holds 39 = .ok (.iconst 0, 1) := by decide +kernel
theorem dX12_holds_40 : decode cX12_holds 40 = .ok (.if_icmp .ne 7, 3) := by decide +kernel
theorem dX12_holds_43 : decode cX12_holds 43 = .ok (.iconst 1, 1) := by decide +kernel
theorem dX12_holds_44 : decode cX12_holds 44 = .ok (.goto 4, 3) := by decide +kernel
theorem dX12_holds_47 : decode cX12_holds 47 = .ok (.iconst 0, 1) := by decide +kernel
theorem dX12_holds_48 : decode cX12_holds 48 = .ok (.ireturn, 1) := by decide +kernel
theorem dX12_pin_0 : decode cX12_pin 0 = .ok (.iload_n 1, 1) := by decide +kernel
theorem dX12_pin_1 : decode cX12_pin 1 = .ok (.invokestatic 354, 3) := by decide +kernel
theorem dX12_pin_4 : decode cX12_pin 4 = .ok (.ifCond .eq 16, 3) := by decide +kernel
theorem dX12_pin_7 : decode cX12_pin 7 = .ok (.iload_n 3, 1) := by decide +kernel
theorem dX12_pin_8 : decode cX12_pin 8 = .ok (.ifCond .ne 15, 3) := by decide +kernel
theorem dX12_pin_11 : decode cX12_pin 11 = .ok (.aload_n 0, 1) := by decide +kernel
theorem dX12_pin_12 : decode cX12_pin 12 = .ok (.iload 4, 2) := by decide +kernel
theorem dX12_pin_14 : decode cX12_pin 14 = .ok (.invokevirtual 233, 3) := by decide +kernel
theorem dX12_pin_17 : decode cX12_pin 17 = .ok (.ifCond .ne 6, 3) := by decide +kernel
theorem dX12_pin_20 : decode cX12_pin 20 = .ok (.bipush (-2), 2) := by decide +kernel
theorem dX12_pin_22 : decode cX12_pin 22 = .ok (.ireturn, 1) := by decide +kernel
theorem dX12_pin_23 : decode cX12_pin 23 = .ok (.iload_n 3, 1) := by decide +kernel
theorem dX12_pin_24 : decode cX12_pin 24 = .ok (.i2l, 1) := by decide +kernel
theorem dX12_pin_25 : decode cX12_pin 25 = .ok (.lconst 0, 1) := by decide +kernel
theorem dX12_pin_26 : decode cX12_pin 26 = .ok (.ldc2_w 352, 3) := by decide +kernel
theorem dX12_pin_29 : decode cX12_pin 29 = .ok (.invokestatic 99, 3) := by decide +kernel
theorem dX12_pin_32 : decode cX12_pin 32 = .ok (.ifCond .eq 23, 3) := by decide +kernel
theorem dX12_pin_35 : decode cX12_pin 35 = .ok (.iload_n 3, 1) := by decide +kernel
theorem dX12_pin_36 : decode cX12_pin 36 = .ok (.iconst 1, 1) := by decide +kernel
theorem dX12_pin_37 : decode cX12_pin 37 = .ok (.if_icmp .ne 21, 3) := by decide +kernel
theorem dX12_pin_40 : decode cX12_pin 40 = .ok (.iload 4, 2) := by decide +kernel
theorem dX12_pin_42 : decode cX12_pin 42 = .ok (.i2l, 1) := by decide +kernel
theorem dX12_pin_43 : decode cX12_pin 43 = .ok (.ldc2_w 357, 3) := by decide +kernel
theorem dX12_pin_46 : decode cX12_pin 46 = .ok (.ldc2_w 359, 3) := by decide +kernel
theorem dX12_pin_49 : decode cX12_pin 49 = .ok (.invokestatic 99, 3) := by decide +kernel
theorem dX12_pin_52 : decode cX12_pin 52 = .ok (.ifCond .ne 6, 3) := by decide +kernel
theorem dX12_pin_55 : decode cX12_pin 55 = .ok (.bipush (-3), 2) := by decide +kernel
theorem dX12_pin_57 : decode cX12_pin 57 = .ok (.ireturn, 1) := by decide +kernel
theorem dX12_pin_58 : decode cX12_pin 58 = .ok (.aload_n 0, 1) := by decide +kernel
theorem dX12_pin_59 : decode cX12_pin 59 = .ok (.getfield 81, 3) := by decide +kernel
theorem dX12_pin_62 : decode cX12_pin 62 = .ok (.iload_n 1, 1) := by decide +kernel
theorem dX12_pin_63 : decode cX12_pin 63 = .ok (.baload, 1) := by decide +kernel
theorem dX12_pin_64 : decode cX12_pin 64 = .ok (.ifCond .ne 6, 3) := by decide +kernel
theorem dX12_pin_67 : decode cX12_pin 67 = .ok (.bipush (-11), 2) := by decide +kernel
theorem dX12_pin_69 : decode cX12_pin 69 = .ok (.ireturn, 1) := by decide +kernel
theorem dX12_pin_70 : decode cX12_pin 70 = .ok (.iload_n 2, 1) := by decide +kernel
theorem dX12_pin_71 : decode cX12_pin 71 = .ok (.i2l, 1) := by decide +kernel
theorem dX12_pin_72 : decode cX12_pin 72 = .ok (.lconst 0, 1) := by decide +kernel
theorem dX12_pin_73 : decode cX12_pin 73 = .ok (.aload_n 0, 1) := by decide +kernel
theorem dX12_pin_74 : decode cX12_pin 74 = .ok (.getfield 87, 3) := by decide +kernel
theorem dX12_pin_77 : decode cX12_pin 77 = .ok (.iload_n 1, 1) := by decide +kernel
theorem dX12_pin_78 : decode cX12_pin 78 = .ok (.iaload, 1) := by decide +kernel
theorem dX12_pin_79 : decode cX12_pin 79 = .ok (.iconst 1, 1) := by decide +kernel
theorem dX12_pin_80 : decode cX12_pin 80 = .ok (.isub, 1) := by decide +kernel
theorem dX12_pin_81 : decode cX12_pin 81 = .ok (.i2l, 1) := by decide +kernel
theorem dX12_pin_82 : decode cX12_pin 82 = .ok (.invokestatic 99, 3) := by decide +kernel
theorem dX12_pin_85 : decode cX12_pin 85 = .ok (.ifCond .ne 6, 3) := by decide +kernel
theorem dX12_pin_88 : decode cX12_pin 88 = .ok (.bipush (-12), 2) := by decide +kernel
theorem dX12_pin_90 : decode cX12_pin 90 = .ok (.ireturn, 1) := by decide +kernel
theorem dX12_pin_91 : decode cX12_pin 91 = .ok (.iload_n 3, 1) := by decide +kernel
theorem dX12_pin_92 : decode cX12_pin 92 = .ok (.ifCond .ne 10, 3) := by decide +kernel
theorem dX12_pin_95 : decode cX12_pin 95 = .ok (.iload 4, 2) := by decide +kernel
theorem dX12_pin_97 : decode cX12_pin 97 = .ok (.iconst 1, 1) := by decide +kernel
theorem dX12_pin_98 : decode cX12_pin 98 = .ok (.iadd, 1) := by decide +kernel
theorem dX12_pin_99 : decode cX12_pin 99 = .ok (.goto 18, 3) := by decide +kernel
theorem dX12_pin_102 : decode cX12_pin 102 = .ok (.iload_n 3, 1) := by decide +kernel
theorem dX12_pin_103 : decode cX12_pin 103 = .ok (.iconst 1, 1) := by decide +kernel
theorem dX12_pin_104 : decode cX12_pin 104 = .ok (.if_icmp .ne 12, 3) := by decide +kernel
theorem dX12_pin_107 : decode cX12_pin 107 = .ok (.iload 4, 2) := by decide +kernel
theorem dX12_pin_109 : decode cX12_pin 109 = .ok (.sipush 3000, 3) := by decide +kernel
theorem dX12_pin_112 : decode cX12_pin 112 = .ok (.iadd, 1) := by decide +kernel
theorem dX12_pin_113 : decode cX12_pin 113 = .ok (.goto 4, 3) := by decide +kernel
theorem dX12_pin_116 : decode cX12_pin 116 = .ok (.iconst 0, 1) := by decide +kernel
theorem dX12_pin_117 : decode cX12_pin 117 = .ok (.istore 5, 2) := by decide +kernel
theorem dX12_pin_119 : decode cX12_pin 119 = .ok (.aload_n 0, 1) := by decide +kernel
theorem dX12_pin_120 : decode cX12_pin 120 = .ok (.iload_n 1, 1) := by decide +kernel
theorem dX12_pin_121 : decode cX12_pin 121 = .ok (.iload 5, 2) := by decide +kernel
theorem dX12_pin_123 : decode cX12_pin 123 = .ok (.invokevirtual 361, 3) := by decide +kernel
theorem dX12_pin_126 : decode cX12_pin 126 = .ok (.ifCond .ne 6, 3) := by decide +kernel
theorem dX12_pin_129 : decode cX12_pin 129 = .ok (.bipush (-13), 2) := by decide +kernel
theorem dX12_pin_131 : decode cX12_pin 131 = .ok (.ireturn, 1) := by decide +kernel
theorem dX12_pin_132 : decode cX12_pin 132 = .ok (.aload_n 0, 1) := by decide +kernel
theorem dX12_pin_133 : decode cX12_pin 133 = .ok (.getfield 90, 3) := by decide +kernel
theorem dX12_pin_136 : decode cX12_pin 136 = .ok (.bipush 16, 2) := by decide +kernel
theorem dX12_pin_138 : decode cX12_pin 138 = .ok (.iload_n 1, 1) := by decide +kernel
theorem dX12_pin_139 : decode cX12_pin 139 = .ok (.imul, 1) := by decide +kernel
theorem dX12_pin_140 : decode cX12_pin 140 = .ok (.iload_n 2, 1) := by decide +kernel
theorem dX12_pin_141 : decode cX12_pin 141 = .ok (.iadd, 1) := by decide +kernel
theorem dX12_pin_142 : decode cX12_pin 142 = .ok (.iload 5, 2) := by decide +kernel
theorem dX12_pin_144 : decode cX12_pin 144 = .ok (.iastore, 1) := by decide +kernel
theorem dX12_pin_145 : decode cX12_pin 145 = .ok (.iconst 1, 1) := by decide +kernel
theorem dX12_pin_146 : decode cX12_pin 146 = .ok (.ireturn, 1) := by decide +kernel
theorem dX12_peg_0 : decode cX12_peg 0 = .ok (.iload_n 1, 1) := by decide +kernel
theorem dX12_peg_1 : decode cX12_peg 1 = .ok (.invokestatic 354, 3) := by decide +kernel
theorem dX12_peg_4 : decode cX12_peg 4 = .ok (.ifCond .ne 6, 3) := by decide +kernel
theorem dX12_peg_7 : decode cX12_peg 7 = .ok (.bipush (-2), 2) := by decide +kernel
theorem dX12_peg_9 : decode cX12_peg 9 = .ok (.ireturn, 1) := by decide +kernel
theorem dX12_peg_10 : decode cX12_peg 10 = .ok (.iload_n 3, 1) := by decide +kernel
theorem dX12_peg_11 : decode cX12_peg 11 = .ok (.i2l, 1) := by decide +kernel
theorem dX12_peg_12 : decode cX12_peg 12 = .ok (.lconst 0, 1) := by decide +kernel
theorem dX12_peg_13 : decode cX12_peg 13 = .ok (.ldc2_w 352, 3) := by decide +kernel
theorem dX12_peg_16 : decode cX12_peg 16 = .ok (.invokestatic 99, 3) := by decide +kernel
theorem dX12_peg_19 : decode cX12_peg 19 = .ok (.ifCond .ne 6, 3) := by decide +kernel
theorem dX12_peg_22 : decode cX12_peg 22 = .ok (.bipush (-3), 2) := by decide +kernel
theorem dX12_peg_24 : decode cX12_peg 24 = .ok (.ireturn, 1) := by decide +kernel
theorem dX12_peg_25 : decode cX12_peg 25 = .ok (.aload_n 0, 1) := by decide +kernel
theorem dX12_peg_26 : decode cX12_peg 26 = .ok (.getfield 81, 3) := by decide +kernel
theorem dX12_peg_29 : decode cX12_peg 29 = .ok (.iload_n 1, 1) := by decide +kernel
theorem dX12_peg_30 : decode cX12_peg 30 = .ok (.baload, 1) := by decide +kernel
theorem dX12_peg_31 : decode cX12_peg 31 = .ok (.ifCond .ne 6, 3) := by decide +kernel
theorem dX12_peg_34 : decode cX12_peg 34 = .ok (.bipush (-11), 2) := by decide +kernel
theorem dX12_peg_36 : decode cX12_peg 36 = .ok (.ireturn, 1) := by decide +kernel
theorem dX12_peg_37 : decode cX12_peg 37 = .ok (.iload_n 2, 1) := by decide +kernel
theorem dX12_peg_38 : decode cX12_peg 38 = .ok (.i2l, 1) := by decide +kernel
theorem dX12_peg_39 : decode cX12_peg 39 = .ok (.lconst 0, 1) := by decide +kernel
theorem dX12_peg_40 : decode cX12_peg 40 = .ok (.aload_n 0, 1) := by decide +kernel
theorem dX12_peg_41 : decode cX12_peg 41 = .ok (.getfield 87, 3) := by decide +kernel
theorem dX12_peg_44 : decode cX12_peg 44 = .ok (.iload_n 1, 1) := by decide +kernel
theorem dX12_peg_45 : decode cX12_peg 45 = .ok (.iaload, 1) := by decide +kernel
theorem dX12_peg_46 : decode cX12_peg 46 = .ok (.iconst 1, 1) := by decide +kernel
theorem dX12_peg_47 : decode cX12_peg 47 = .ok (.isub, 1) := by decide +kernel
theorem dX12_peg_48 : decode cX12_peg 48 = .ok (.i2l, 1) := by decide +kernel
theorem dX12_peg_49 : decode cX12_peg 49 = .ok (.invokestatic 99, 3) := by decide +kernel
theorem dX12_peg_52 : decode cX12_peg 52 = .ok (.ifCond .ne 6, 3) := by decide +kernel
theorem dX12_peg_55 : decode cX12_peg 55 = .ok (.bipush (-12), 2) := by decide +kernel
theorem dX12_peg_57 : decode cX12_peg 57 = .ok (.ireturn, 1) := by decide +kernel
theorem dX12_peg_58 : decode cX12_peg 58 = .ok (.aload_n 0, 1) := by decide +kernel
theorem dX12_peg_59 : decode cX12_peg 59 = .ok (.getfield 90, 3) := by decide +kernel
theorem dX12_peg_62 : decode cX12_peg 62 = .ok (.bipush 16, 2) := by decide +kernel
theorem dX12_peg_64 : decode cX12_peg 64 = .ok (.iload_n 1, 1) := by decide +kernel
theorem dX12_peg_65 : decode cX12_peg 65 = .ok (.imul, 1) := by decide +kernel
theorem dX12_peg_66 : decode cX12_peg 66 = .ok (.iload_n 2, 1) := by decide +kernel
theorem dX12_peg_67 : decode cX12_peg 67 = .ok (.iadd, 1) := by decide +kernel
theorem dX12_peg_68 : decode cX12_peg 68 = .ok (.iaload, 1) := by decide +kernel
theorem dX12_peg_69 : decode cX12_peg 69 = .ok (.istore 4, 2) := by decide +kernel
theorem dX12_peg_71 : decode cX12_peg 71 = .ok (.iload 4, 2) := by decide +kernel
theorem dX12_peg_73 : decode cX12_peg 73 = .ok (.ifCond .ne 6, 3) := by decide +kernel
theorem dX12_peg_76 : decode cX12_peg 76 = .ok (.bipush (-15), 2) := by decide +kernel
theorem dX12_peg_78 : decode cX12_peg 78 = .ok (.ireturn, 1) := by decide +kernel
theorem dX12_peg_79 : decode cX12_peg 79 = .ok (.iload 4, 2) := by decide +kernel
theorem dX12_peg_81 : decode cX12_peg 81 = .ok (.sipush 1000, 3) := by decide +kernel
theorem dX12_peg_84 : decode cX12_peg 84 = .ok (.if_icmp .lt 7, 3) := by decide +kernel
theorem dX12_peg_87 : decode cX12_peg 87 = .ok (.iconst 1, 1) := by decide +kernel
theorem dX12_peg_88 : decode cX12_peg 88 = .ok (.goto 4, 3) := by decide +kernel
theorem dX12_peg_91 : decode cX12_peg 91 = .ok (.iconst 0, 1) := by decide +kernel
theorem dX12_peg_92 : decode cX12_peg 92 = .ok (.istore 5, 2) := by decide +kernel
theorem dX12_peg_94 : decode cX12_peg 94 = .ok (.iload_n 3, 1) := by decide +kernel
theorem dX12_peg_95 : decode cX12_peg 95 = .ok (.iconst 2, 1) := by decide +kernel
theorem dX12_peg_96 : decode cX12_peg 96 = .ok (.if_icmp .ne 14, 3) := by decide +kernel
theorem dX12_peg_99 : decode cX12_peg 99 = .ok (.iload 5, 2) := by decide +kernel
theorem dX12_peg_101 : decode cX12_peg 101 = .ok (.ifCond .eq 7, 3) := by decide +kernel
theorem dX12_peg_104 : decode cX12_peg 104 = .ok (.iconst 2, 1) := by decide +kernel
theorem dX12_peg_105 : decode cX12_peg 105 = .ok (.goto 4, 3) := by decide +kernel
theorem dX12_peg_108 : decode cX12_peg 108 = .ok (.iconst 1, 1) := by decide +kernel
theorem dX12_peg_109 : decode cX12_peg 109 = .ok (.ireturn, 1) := by decide +kernel
theorem dX12_peg_110 : decode cX12_peg 110 = .ok (.iload 5, 2) := by decide +kernel
theorem dX12_peg_112 : decode cX12_peg 112 = .ok (.iload_n 3, 1) := by decide +kernel
theorem dX12_peg_113 : decode cX12_peg 113 = .ok (.iconst 1, 1) := by decide +kernel
theorem dX12_peg_114 : decode cX12_peg 114 = .ok (.if_icmp .ne 7, 3) := by decide +kernel
theorem dX12_peg_117 : decode cX12_peg 117 = .ok (.iconst 1, 1) := by decide +kernel
theorem dX12_peg_118 : decode cX12_peg 118 = .ok (.goto 4, 3) := by decide +kernel
theorem dX12_peg_121 : decode cX12_peg 121 = .ok (.iconst 0, 1) := by decide +kernel
theorem dX12_peg_122 : decode cX12_peg 122 = .ok (.if_icmp .eq 8, 3) := by decide +kernel
theorem dX12_peg_125 : decode cX12_peg 125 = .ok (.bipush (-14), 2) := by decide +kernel
theorem dX12_peg_127 : decode cX12_peg 127 = .ok (.goto 25, 3) := by decide +kernel
theorem dX12_peg_130 : decode cX12_peg 130 = .ok (.iload 5, 2) := by decide +kernel
theorem dX12_peg_132 : decode cX12_peg 132 = .ok (.ifCond .eq 16, 3) := by decide +kernel
theorem dX12_peg_135 : decode cX12_peg 135 = .ok (.iload 4, 2) := by decide +kernel
theorem dX12_peg_137 : decode cX12_peg 137 = .ok (.sipush 3000, 3) := by decide +kernel
theorem dX12_peg_140 : decode cX12_peg 140 = .ok (.isub, 1) := by decide +kernel
theorem dX12_peg_141 : decode cX12_peg 141 = .ok (.sipush 5000, 3) := by decide +kernel
theorem dX12_peg_144 : decode cX12_peg 144 = .ok (.iadd, 1) := by decide +kernel
theorem dX12_peg_145 : decode cX12_peg 145 = .ok (.goto 7, 3) := by decide +kernel
theorem dX12_peg_148 : decode cX12_peg 148 = .ok (.iload 4, 2) := by decide +kernel
theorem dX12_peg_150 : decode cX12_peg 150 = .ok (.iconst 1, 1) := by decide +kernel
theorem dX12_peg_151 : decode cX12_peg 151 = .ok (.isub, 1) := by decide +kernel
theorem dX12_peg_152 : decode cX12_peg 152 = .ok (.ireturn, 1) := by decide +kernel
theorem dX12_move_0 : decode cX12_move 0 = .ok (.iload_n 1, 1) := by decide +kernel
theorem dX12_move_1 : decode cX12_move 1 = .ok (.invokestatic 354, 3) := by decide +kernel
theorem dX12_move_4 : decode cX12_move 4 = .ok (.ifCond .eq 10, 3) := by decide +kernel
theorem dX12_move_7 : decode cX12_move 7 = .ok (.iload_n 3, 1) := by decide +kernel
theorem dX12_move_8 : decode cX12_move 8 = .ok (.invokestatic 354, 3) := by decide +kernel
theorem dX12_move_11 : decode cX12_move 11 = .ok (.ifCond .ne 6, 3) := by decide +kernel
theorem dX12_move_14 : decode cX12_move 14 = .ok (.bipush (-2), 2) := by decide +kernel
theorem dX12_move_16 : decode cX12_move 16 = .ok (.ireturn, 1) := by decide +kernel
theorem dX12_move_17 : decode cX12_move 17 = .ok (.aload_n 0, 1) := by decide +kernel
theorem dX12_move_18 : decode cX12_move 18 = .ok (.getfield 81, 3) := by decide +kernel
theorem dX12_move_21 : decode cX12_move 21 = .ok (.iload_n 1, 1) := by decide +kernel
theorem dX12_move_22 : decode cX12_move 22 = .ok (.baload, 1) := by decide +kernel
theorem dX12_move_23 : decode cX12_move 23 = .ok (.ifCond .eq 12, 3) := by decide +kernel
theorem dX12_move_26 : decode cX12_move 26 = .ok (.aload_n 0, 1) := by decide +kernel
theorem dX12_move_27 : decode cX12_move 27 = .ok (.getfield 81, 3) := by decide +kernel
theorem dX12_move_30 : decode cX12_move 30 = .ok (.iload_n 3, 1) := by decide +kernel
theorem dX12_move_31 : decode cX12_move 31 = .ok (.baload, 1) := by decide +kernel
theorem dX12_move_32 : decode cX12_move 32 = .ok (.ifCond .ne 6, 3) := by decide +kernel
theorem dX12_move_35 : decode cX12_move 35 = .ok (.bipush (-11), 2) := by decide +kernel
theorem dX12_move_37 : decode cX12_move 37 = .ok (.ireturn, 1) := by decide +kernel
theorem dX12_move_38 : decode cX12_move 38 = .ok (.iload_n 2, 1) := by decide +kernel
theorem dX12_move_39 : decode cX12_move 39 = .ok (.ifCond .lt 48, 3) := by decide +kernel
theorem dX12_move_42 : decode cX12_move 42 = .ok (.iload 4, 2) := by decide +kernel
theorem dX12_move_44 : decode cX12_move 44 = .ok (.ifCond .lt 43, 3) := by decide +kernel
theorem dX12_move_47 : decode cX12_move 47 = .ok (.iload 5, 2) := by decide +kernel
theorem dX12_move_49 : decode cX12_move 49 = .ok (.ifCond .lt 38, 3) := by decide +kernel
theorem dX12_move_52 : decode cX12_move 52 = .ok (.iload_n 2, 1) := by decide +kernel
theorem dX12_move_53 : decode cX12_move 53 = .ok (.i2l, 1) := by decide +kernel
theorem dX12_move_54 : decode cX12_move 54 = .ok (.iload 5, 2) := by decide +kernel
theorem dX12_move_56 : decode cX12_move 56 = .ok (.i2l, 1) := by decide +kernel
theorem dX12_move_57 : decode cX12_move 57 = .ok (.ladd, 1) := by decide +kernel
theorem dX12_move_58 : decode cX12_move 58 = .ok (.aload_n 0, 1) := by decide +kernel
theorem dX12_move_59 : decode cX12_move 59 = .ok (.getfield 87, 3) := by decide +kernel
theorem dX12_move_62 : decode cX12_move 62 = .ok (.iload_n 1, 1) := by decide +kernel
theorem dX12_move_63 : decode cX12_move 63 = .ok (.iaload, 1) := by decide +kernel
theorem dX12_move_64 : decode cX12_move 64 = .ok (.i2l, 1) := by decide +kernel
theorem dX12_move_65 : decode cX12_move 65 = .ok (.lcmp, 1) := by decide +kernel
theorem dX12_move_66 : decode cX12_move 66 = .ok (.ifCond .gt 21, 3) := by decide +kernel
theorem dX12_move_69 : decode cX12_move 69 = .ok (.iload 4, 2) := by decide +kernel
theorem dX12_move_71 : decode cX12_move 71 = .ok (.i2l, 1) := by decide +kernel
theorem dX12_move_72 : decode cX12_move 72 = .ok (.iload 5, 2) := by decide +kernel
theorem dX12_move_74 : decode cX12_move 74 = .ok (.i2l, 1) := by decide +kernel
theorem dX12_move_75 : decode cX12_move 75 = .ok (.ladd, 1) := by decide +kernel
theorem dX12_move_76 : decode cX12_move 76 = .ok (.aload_n 0, 1) := by decide +kernel
theorem dX12_move_77 : decode cX12_move 77 = .ok (.getfield 87, 3) := by decide +kernel
theorem dX12_move_80 : decode cX12_move 80 = .ok (.iload_n 3, 1) := by decide +kernel
theorem dX12_move_81 : decode cX12_move 81 = .ok (.iaload, 1) := by decide +kernel
theorem dX12_move_82 : decode cX12_move 82 = .ok (.i2l, 1) := by decide +kernel
theorem dX12_move_83 : decode cX12_move 83 = .ok (.lcmp, 1) := by decide +kernel
theorem dX12_move_84 : decode cX12_move 84 = .ok (.ifCond .le 6, 3) := by decide +kernel
theorem dX12_move_87 : decode cX12_move 87 = .ok (.bipush (-12), 2) := by decide +kernel
theorem dX12_move_89 : decode cX12_move 89 = .ok (.ireturn, 1) := by decide +kernel
theorem dX12_move_90 : decode cX12_move 90 = .ok (.iconst 0, 1) := by decide +kernel
theorem dX12_move_91 : decode cX12_move 91 = .ok (.istore 6, 2) := by decide +kernel
theorem dX12_move_93 : decode cX12_move 93 = .ok (.iload 6, 2) := by decide +kernel
theorem dX12_move_95 : decode cX12_move 95 = .ok (.iload 5, 2) := by decide +kernel
theorem dX12_move_97 : decode cX12_move 97 = .ok (.if_icmp .ge 30, 3) := by decide +kernel
theorem dX12_move_100 : decode cX12_move 100 = .ok (.aload_n 0, 1) := by decide +kernel
theorem dX12_move_101 : decode cX12_move 101 = .ok (.getfield 93, 3) := by decide +kernel
theorem dX12_move_104 : decode cX12_move 104 = .ok (.iload 6, 2) := by decide +kernel
theorem dX12_move_106 : decode cX12_move 106 = .ok (.aload_n 0, 1) := by decide +kernel
theorem dX12_move_107 : decode cX12_move 107 = .ok (.getfield 90, 3) := by decide +kernel
theorem dX12_move_110 : decode cX12_move 110 = .ok (.bipush 16, 2) := by decide +kernel
theorem dX12_move_112 : decode cX12_move 112 = .ok (.iload_n 1, 1) := by decide +kernel
theorem dX12_move_113 : decode cX12_move 113 = .ok (.imul, 1) := by decide +kernel
theorem dX12_move_114 : decode cX12_move 114 = .ok (.iload_n 2, 1) := by decide +kernel
theorem dX12_move_115 : decode cX12_move 115 = .ok (.iadd, 1) := by decide +kernel
theorem dX12_move_116 : decode cX12_move 116 = .ok (.iload 6, 2) := by decide +kernel
theorem dX12_move_118 : decode cX12_move 118 = .ok (.iadd, 1) := by decide +kernel
theorem dX12_move_119 : decode cX12_move 119 = .ok (.iaload, 1) := by decide +kernel
theorem dX12_move_120 : decode cX12_move 120 = .ok (.iastore, 1) := by decide +kernel
theorem dX12_move_121 : decode cX12_move 121 = .ok (.iinc 6 1, 3) := by decide +kernel
theorem dX12_move_124 : decode cX12_move 124 = .ok (.goto (-31), 3) := by decide +kernel
theorem dX12_move_127 : decode cX12_move 127 = .ok (.iconst 0, 1) := by decide +kernel
theorem dX12_move_128 : decode cX12_move 128 = .ok (.istore 6, 2) := by decide +kernel
theorem dX12_move_130 : decode cX12_move 130 = .ok (.iload 6, 2) := by decide +kernel
theorem dX12_move_132 : decode cX12_move 132 = .ok (.iload 5, 2) := by decide +kernel
theorem dX12_move_134 : decode cX12_move 134 = .ok (.if_icmp .ge 49, 3) := by decide +kernel
theorem dX12_move_137 : decode cX12_move 137 = .ok (.aload_n 0, 1) := by decide +kernel
theorem dX12_move_138 : decode cX12_move 138 = .ok (.iload_n 3, 1) := by decide +kernel
theorem dX12_move_139 : decode cX12_move 139 = .ok (.aload_n 0, 1) := by decide +kernel
theorem dX12_move_140 : decode cX12_move 140 = .ok (.getfield 93, 3) := by decide +kernel
theorem dX12_move_143 : decode cX12_move 143 = .ok (.iload 6, 2) := by decide +kernel
theorem dX12_move_145 : decode cX12_move 145 = .ok (.iaload, 1) := by decide +kernel
theorem dX12_move_146 : decode cX12_move 146 = .ok (.invokevirtual 361, 3) := by decide +kernel
theorem dX12_move_149 : decode cX12_move 149 = .ok (.ifCond .ne 6, 3) := by decide +kernel
theorem dX12_move_152 : decode cX12_move 152 = .ok (.bipush (-13), 2) := by decide +kernel
theorem dX12_move_154 : decode cX12_move 154 = .ok (.ireturn, 1) := by decide +kernel
theorem dX12_move_155 : decode cX12_move 155 = .ok (.aload_n 0, 1) := by decide +kernel
theorem dX12_move_156 : decode cX12_move 156 = .ok (.getfield 90, 3) := by decide +kernel
theorem dX12_move_159 : decode cX12_move 159 = .ok (.bipush 16, 2) := by decide +kernel
theorem dX12_move_161 : decode cX12_move 161 = .ok (.iload_n 3, 1) := by decide +kernel
theorem dX12_move_162 : decode cX12_move 162 = .ok (.imul, 1) := by decide +kernel
theorem dX12_move_163 : decode cX12_move 163 = .ok (.iload 4, 2) := by decide +kernel
theorem dX12_move_165 : decode cX12_move 165 = .ok (.iadd, 1) := by decide +kernel
theorem dX12_move_166 : decode cX12_move 166 = .ok (.iload 6, 2) := by decide +kernel
theorem dX12_move_168 : decode cX12_move 168 = .ok (.iadd, 1) := by decide +kernel
theorem dX12_move_169 : decode cX12_move 169 = .ok (.aload_n 0, 1) := by decide +kernel
theorem dX12_move_170 : decode cX12_move 170 = .ok (.getfield 93, 3) := by decide +kernel
theorem dX12_move_173 : decode cX12_move 173 = .ok (.iload 6, 2) := by decide +kernel
theorem dX12_move_175 : decode cX12_move 175 = .ok (.iaload, 1) := by decide +kernel
theorem dX12_move_176 : decode cX12_move 176 = .ok (.iastore, 1) := by decide +kernel
theorem dX12_move_177 : decode cX12_move 177 = .ok (.iinc 6 1, 3) := by decide +kernel
theorem dX12_move_180 : decode cX12_move 180 = .ok (.goto (-50), 3) := by decide +kernel
theorem dX12_move_183 : decode cX12_move 183 = .ok (.iload 5, 2) := by decide +kernel
theorem dX12_move_185 : decode cX12_move 185 = .ok (.ireturn, 1) := by decide +kernel
theorem dX12_drop_0 : decode cX12_drop 0 = .ok (.iload_n 1, 1) := by decide +kernel
theorem dX12_drop_1 : decode cX12_drop 1 = .ok (.invokestatic 354, 3) := by decide +kernel
theorem dX12_drop_4 : decode cX12_drop 4 = .ok (.ifCond .ne 6, 3) := by decide +kernel
theorem dX12_drop_7 : decode cX12_drop 7 = .ok (.bipush (-2), 2) := by decide +kernel
theorem dX12_drop_9 : decode cX12_drop 9 = .ok (.ireturn, 1) := by decide +kernel
theorem dX12_drop_10 : decode cX12_drop 10 = .ok (.aload_n 0, 1) := by decide +kernel
theorem dX12_drop_11 : decode cX12_drop 11 = .ok (.getfield 81, 3) := by decide +kernel
theorem dX12_drop_14 : decode cX12_drop 14 = .ok (.iload_n 1, 1) := by decide +kernel
theorem dX12_drop_15 : decode cX12_drop 15 = .ok (.baload, 1) := by decide +kernel
theorem dX12_drop_16 : decode cX12_drop 16 = .ok (.ifCond .ne 6, 3) := by decide +kernel
theorem dX12_drop_19 : decode cX12_drop 19 = .ok (.bipush (-11), 2) := by decide +kernel
theorem dX12_drop_21 : decode cX12_drop 21 = .ok (.ireturn, 1) := by decide +kernel
theorem dX12_drop_22 : decode cX12_drop 22 = .ok (.iconst 0, 1) := by decide +kernel
theorem dX12_drop_23 : decode cX12_drop 23 = .ok (.istore_n 2, 1) := by decide +kernel
theorem dX12_drop_24 : decode cX12_drop 24 = .ok (.iconst 0, 1) := by decide +kernel
theorem dX12_drop_25 : decode cX12_drop 25 = .ok (.istore_n 3, 1) := by decide +kernel
theorem dX12_drop_26 : decode cX12_drop 26 = .ok (.iload_n 3, 1) := by decide +kernel
theorem dX12_drop_27 : decode cX12_drop 27 = .ok (.aload_n 0, 1) := by decide +kernel
theorem dX12_drop_28 : decode cX12_drop 28 = .ok (.getfield 87, 3) := by decide +kernel
theorem dX12_drop_31 : decode cX12_drop 31 = .ok (.iload_n 1, 1) := by decide +kernel
theorem dX12_drop_32 : decode cX12_drop 32 = .ok (.iaload, 1) := by decide +kernel
theorem dX12_drop_33 : decode cX12_drop 33 = .ok (.if_icmp .ge 31, 3) := by decide +kernel
theorem dX12_drop_36 : decode cX12_drop 36 = .ok (.iload_n 2, 1) := by decide +kernel
theorem dX12_drop_37 : decode cX12_drop 37 = .ok (.aload_n 0, 1) := by decide +kernel
theorem dX12_drop_38 : decode cX12_drop 38 = .ok (.getfield 90, 3) := by decide +kernel
theorem dX12_drop_41 : decode cX12_drop 41 = .ok (.bipush 16, 2) := by decide +kernel
theorem dX12_drop_43 : decode cX12_drop 43 = .ok (.iload_n 1, 1) := by decide +kernel
theorem dX12_drop_44 : decode cX12_drop 44 = .ok (.imul, 1) := by decide +kernel
theorem dX12_drop_45 : decode cX12_drop 45 = .ok (.iload_n 3, 1) := by decide +kernel
theorem dX12_drop_46 : decode cX12_drop 46 = .ok (.iadd, 1) := by decide +kernel
theorem dX12_drop_47 : decode cX12_drop 47 = .ok (.iaload, 1) := by decide +kernel
theorem dX12_drop_48 : decode cX12_drop 48 = .ok (.ifCond .eq 7, 3) := by decide +kernel
theorem dX12_drop_51 : decode cX12_drop 51 = .ok (.iconst 1, 1) := by decide +kernel
theorem dX12_drop_52 : decode cX12_drop 52 = .ok (.goto 4, 3) := by decide +kernel
theorem dX12_drop_55 : decode cX12_drop 55 = .ok (.iconst 0, 1) := by decide +kernel
theorem dX12_drop_56 : decode cX12_drop 56 = .ok (.iadd, 1) := by decide +kernel
theorem dX12_drop_57 : decode cX12_drop 57 = .ok (.istore_n 2, 1) := by decide +kernel
theorem dX12_drop_58 : decode cX12_drop 58 = .ok (.iinc 3 1, 3) := by decide +kernel
theorem dX12_drop_61 : decode cX12_drop 61 = .ok (.goto (-35), 3) := by decide +kernel
theorem dX12_drop_64 : decode cX12_drop 64 = .ok (.aload_n 0, 1) := by decide +kernel
theorem dX12_drop_65 : decode cX12_drop 65 = .ok (.getfield 81, 3) := by decide +kernel
theorem dX12_drop_68 : decode cX12_drop 68 = .ok (.iload_n 1, 1) := by decide +kernel
theorem dX12_drop_69 : decode cX12_drop 69 = .ok (.iconst 0, 1) := by decide +kernel
theorem dX12_drop_70 : decode cX12_drop 70 = .ok (.bastore, 1) := by decide +kernel
theorem dX12_drop_71 : decode cX12_drop 71 = .ok (.iload_n 2, 1) := by decide +kernel
theorem dX12_drop_72 : decode cX12_drop 72 = .ok (.ireturn, 1) := by decide +kernel
theorem dX12_sum_0 : decode cX12_sum 0 = .ok (.iload_n 1, 1) := by decide +kernel
theorem dX12_sum_1 : decode cX12_sum 1 = .ok (.invokestatic 354, 3) := by decide +kernel
theorem dX12_sum_4 : decode cX12_sum 4 = .ok (.ifCond .ne 6, 3) := by decide +kernel
theorem dX12_sum_7 : decode cX12_sum 7 = .ok (.bipush (-2), 2) := by decide +kernel
theorem dX12_sum_9 : decode cX12_sum 9 = .ok (.ireturn, 1) := by decide +kernel
theorem dX12_sum_10 : decode cX12_sum 10 = .ok (.aload_n 0, 1) := by decide +kernel
theorem dX12_sum_11 : decode cX12_sum 11 = .ok (.getfield 81, 3) := by decide +kernel
theorem dX12_sum_14 : decode cX12_sum 14 = .ok (.iload_n 1, 1) := by decide +kernel
theorem dX12_sum_15 : decode cX12_sum 15 = .ok (.baload, 1) := by decide +kernel
theorem dX12_sum_16 : decode cX12_sum 16 = .ok (.ifCond .ne 6, 3) := by decide +kernel
theorem dX12_sum_19 : decode cX12_sum 19 = .ok (.bipush (-11), 2) := by decide +kernel
theorem dX12_sum_21 : decode cX12_sum 21 = .ok (.ireturn, 1) := by decide +kernel
theorem dX12_sum_22 : decode cX12_sum 22 = .ok (.ldc_w 364, 3) := by decide +kernel
theorem dX12_sum_25 : decode cX12_sum 25 = .ok (.istore_n 2, 1) := by decide +kernel
theorem dX12_sum_26 : decode cX12_sum 26 = .ok (.iconst 0, 1) := by decide +kernel
theorem dX12_sum_27 : decode cX12_sum 27 = .ok (.istore_n 3, 1) := by decide +kernel
theorem dX12_sum_28 : decode cX12_sum 28 = .ok (.iload_n 3, 1) := by decide +kernel
theorem dX12_sum_29 : decode cX12_sum 29 = .ok (.aload_n 0, 1) := by decide +kernel
theorem dX12_sum_30 : decode cX12_sum 30 = .ok (.getfield 87, 3) := by decide +kernel
theorem dX12_sum_33 : decode cX12_sum 33 = .ok (.iload_n 1, 1) := by decide +kernel
theorem dX12_sum_34 : decode cX12_sum 34 = .ok (.iaload, 1) := by decide +kernel
theorem dX12_sum_35 : decode cX12_sum 35 = .ok (.if_icmp .ge 59, 3) := by decide +kernel
theorem dX12_sum_38 : decode cX12_sum 38 = .ok (.aload_n 0, 1) := by decide +kernel
theorem dX12_sum_39 : decode cX12_sum 39 = .ok (.getfield 90, 3) := by decide +kernel
theorem dX12_sum_42 : decode cX12_sum 42 = .ok (.bipush 16, 2) := by decide +kernel
theorem dX12_sum_44 : decode cX12_sum 44 = .ok (.iload_n 1, 1) := by decide +kernel
theorem dX12_sum_45 : decode cX12_sum 45 = .ok (.imul, 1) := by decide +kernel
theorem dX12_sum_46 : decode cX12_sum 46 = .ok (.iload_n 3, 1) := by decide +kernel
theorem dX12_sum_47 : decode cX12_sum 47 = .ok (.iadd, 1) := by decide +kernel
theorem dX12_sum_48 : decode cX12_sum 48 = .ok (.iaload, 1) := by decide +kernel
theorem dX12_sum_49 : decode cX12_sum 49 = .ok (.istore 4, 2) := by decide +kernel
theorem dX12_sum_51 : decode cX12_sum 51 = .ok (.iload_n 2, 1) := by decide +kernel
theorem dX12_sum_52 : decode cX12_sum 52 = .ok (.iload 4, 2) := by decide +kernel
theorem dX12_sum_54 : decode cX12_sum 54 = .ok (.ifCond .ne 7, 3) := by decide +kernel
theorem dX12_sum_57 : decode cX12_sum 57 = .ok (.iconst 0, 1) := by decide +kernel
theorem dX12_sum_58 : decode cX12_sum 58 = .ok (.goto 28, 3) := by decide +kernel
theorem dX12_sum_61 : decode cX12_sum 61 = .ok (.iload 4, 2) := by decide +kernel
theorem dX12_sum_63 : decode cX12_sum 63 = .ok (.sipush 1000, 3) := by decide +kernel
theorem dX12_sum_66 : decode cX12_sum 66 = .ok (.if_icmp .lt 12, 3) := by decide +kernel
theorem dX12_sum_69 : decode cX12_sum 69 = .ok (.iload 4, 2) := by decide +kernel
theorem dX12_sum_71 : decode cX12_sum 71 = .ok (.sipush 3000, 3) := by decide +kernel
theorem dX12_sum_74 : decode cX12_sum 74 = .ok (.isub, 1) := by decide +kernel
theorem dX12_sum_75 : decode cX12_sum 75 = .ok (.goto 11, 3) := by decide +kernel
theorem dX12_sum_78 : decode cX12_sum 78 = .ok (.aload_n 0, 1) := by decide +kernel
theorem dX12_sum_79 : decode cX12_sum 79 = .ok (.iload 4, 2) := by decide +kernel
theorem dX12_sum_81 : decode cX12_sum 81 = .ok (.iconst 1, 1) := by decide +kernel
theorem dX12_sum_82 : decode cX12_sum 82 = .ok (.isub, 1) := by decide +kernel
theorem dX12_sum_83 : decode cX12_sum 83 = .ok (.invokevirtual 276, 3) := by decide +kernel
theorem dX12_sum_86 : decode cX12_sum 86 = .ok (.iadd, 1) := by decide +kernel
theorem dX12_sum_87 : decode cX12_sum 87 = .ok (.istore_n 2, 1) := by decide +kernel
theorem dX12_sum_88 : decode cX12_sum 88 = .ok (.iinc 3 1, 3) := by decide +kernel
theorem dX12_sum_91 : decode cX12_sum 91 = .ok (.goto (-63), 3) := by decide +kernel
theorem dX12_sum_94 : decode cX12_sum 94 = .ok (.iload_n 2, 1) := by decide +kernel
theorem dX12_sum_95 : decode cX12_sum 95 = .ok (.ireturn, 1) := by decide +kernel
theorem dX12_cloudsAt_0 : decode cX12_cloudsAt 0 = .ok (.iconst 0, 1) := by decide +kernel
theorem dX12_cloudsAt_1 : decode cX12_cloudsAt 1 = .ok (.istore_n 2, 1) := by decide +kernel
theorem dX12_cloudsAt_2 : decode cX12_cloudsAt 2 = .ok (.iconst 0, 1) := by decide +kernel
theorem dX12_cloudsAt_3 : decode cX12_cloudsAt 3 = .ok (.istore_n 3, 1) := by decide +kernel
theorem dX12_cloudsAt_4 : decode cX12_cloudsAt 4 = .ok (.iload_n 3, 1) := by decide +kernel
theorem dX12_cloudsAt_5 : decode cX12_cloudsAt 5 = .ok (.aload_n 0, 1) := by decide +kernel
theorem dX12_cloudsAt_6 : decode cX12_cloudsAt 6 = .ok (.getfield 96, 3) := by decide +kernel
theorem dX12_cloudsAt_9 : decode cX12_cloudsAt 9 = .ok (.if_icmp .ge 32, 3) := by decide +kernel
theorem dX12_cloudsAt_12 : decode cX12_cloudsAt 12 = .ok (.iload_n 2, 1) := by decide +kernel
theorem dX12_cloudsAt_13 : decode cX12_cloudsAt 13 = .ok (.aload_n 0, 1) := by decide +kernel
theorem dX12_cloudsAt_14 : decode cX12_cloudsAt 14 = .ok (.getfield 29, 3) := by decide +kernel
theorem dX12_cloudsAt_17 : decode cX12_cloudsAt 17 = .ok (.bipush 6, 2) := by decide +kernel
theorem dX12_cloudsAt_19 : decode cX12_cloudsAt 19 = .ok (.iload_n 3, 1) := by decide +kernel
theorem dX12_cloudsAt_20 : decode cX12_cloudsAt 20 = .ok (.iadd, 1) := by decide +kernel
theorem dX12_cloudsAt_21 : decode cX12_cloudsAt 21 = .ok (.iaload, 1) := by decide +kernel
theorem dX12_cloudsAt_22 : decode cX12_cloudsAt 22 = .ok (.iload_n 1, 1) := by decide +kernel
theorem dX12_cloudsAt_23 : decode cX12_cloudsAt 23 = .ok (.if_icmp .ne 9, 3) := by decide +kernel
theorem dX12_cloudsAt_26 : decode cX12_cloudsAt 26 = .ok (.iconst 1, 1) := by decide +kernel
theorem dX12_cloudsAt_27 : decode cX12_cloudsAt 27 = .ok (.iload_n 3, 1) := by decide +kernel
theorem dX12_cloudsAt_28 : decode cX12_cloudsAt 28 = .ok (.ishl, 1) := by decide +kernel
theorem dX12_cloudsAt_29 : decode cX12_cloudsAt 29 = .ok (.goto 4, 3) := by decide +kernel
theorem dX12_cloudsAt_32 : decode cX12_cloudsAt 32 = .ok (.iconst 0, 1) := by decide +kernel
theorem dX12_cloudsAt_33 : decode cX12_cloudsAt 33 = .ok (.ior, 1) := by decide +kernel
theorem dX12_cloudsAt_34 : decode cX12_cloudsAt 34 = .ok (.istore_n 2, 1) := by decide +kernel
theorem dX12_cloudsAt_35 : decode cX12_cloudsAt 35 = .ok (.iinc 3 1, 3) := by decide +kernel
theorem dX12_cloudsAt_38 : decode cX12_cloudsAt 38 = .ok (.goto (-34), 3) := by decide +kernel
theorem dX12_cloudsAt_41 : decode cX12_cloudsAt 41 = .ok (.iload_n 2, 1) := by decide +kernel
theorem dX12_cloudsAt_42 : decode cX12_cloudsAt 42 = .ok (.ireturn, 1) := by decide +kernel
theorem dX12_linesThere_0 : decode cX12_linesThere 0 = .ok (.iconst 0, 1) := by decide +kernel
theorem dX12_linesThere_1 : decode cX12_linesThere 1 = .ok (.istore_n 1, 1) := by decide +kernel
theorem dX12_linesThere_2 : decode cX12_linesThere 2 = .ok (.iconst 0, 1) := by decide +kernel
theorem dX12_linesThere_3 : decode cX12_linesThere 3 = .ok (.istore_n 2, 1) := by decide +kernel
theorem dX12_linesThere_4 : decode cX12_linesThere 4 = .ok (.iload_n 2, 1) := by decide +kernel
theorem dX12_linesThere_5 : decode cX12_linesThere 5 = .ok (.iconst 3, 1) := by decide +kernel
theorem dX12_linesThere_6 : decode cX12_linesThere 6 = .ok (.if_icmp .ge 26, 3) := by decide +kernel
theorem dX12_linesThere_9 : decode cX12_linesThere 9 = .ok (.iload_n 1, 1) := by decide +kernel
theorem dX12_linesThere_10 : decode cX12_linesThere 10 = .ok (.aload_n 0, 1) := by decide +kernel
theorem dX12_linesThere_11 : decode cX12_linesThere 11 = .ok (.getfield 81, 3) := by decide +kernel
theorem dX12_linesThere_14 : decode cX12_linesThere 14 = .ok (.iload_n 2, 1) := by decide +kernel
theorem dX12_linesThere_15 : decode cX12_linesThere 15 = .ok (.baload, 1) := by decide +kernel
theorem dX12_linesThere_16 : decode cX12_linesThere 16 = .ok (.ifCond .eq 7, 3) := by decide +kernel
theorem dX12_linesThere_19 : decode cX12_linesThere 19 = .ok (.iconst 1, 1) := by decide +kernel
theorem dX12_linesThere_20 : decode cX12_linesThere 20 = .ok (.goto 4, 3) := by decide +kernel
theorem dX12_linesThere_23 : decode cX12_linesThere 23 = .ok (.iconst 0, 1) := by decide +kernel
theorem dX12_linesThere_24 : decode cX12_linesThere 24 = .ok (.iadd, 1) := by decide +kernel
theorem dX12_linesThere_25 : decode cX12_linesThere 25 = .ok (.istore_n 1, 1) := by decide +kernel
theorem dX12_linesThere_26 : decode cX12_linesThere 26 = .ok (.iinc 2 1, 3) := by decide +kernel
theorem dX12_linesThere_29 : decode cX12_linesThere 29 = .ok (.goto (-25), 3) := by decide +kernel
theorem dX12_linesThere_32 : decode cX12_linesThere 32 = .ok (.iload_n 1, 1) := by decide +kernel
theorem dX12_linesThere_33 : decode cX12_linesThere 33 = .ok (.ireturn, 1) := by decide +kernel
theorem dX12_allWater_0 : decode cX12_allWater 0 = .ok (.iconst 0, 1) := by decide +kernel
theorem dX12_allWater_1 : decode cX12_allWater 1 = .ok (.istore_n 1, 1) := by decide +kernel
theorem dX12_allWater_2 : decode cX12_allWater 2 = .ok (.iconst 0, 1) := by decide +kernel
theorem dX12_allWater_3 : decode cX12_allWater 3 = .ok (.istore_n 2, 1) := by decide +kernel
theorem dX12_allWater_4 : decode cX12_allWater 4 = .ok (.iload_n 2, 1) := by decide +kernel
theorem dX12_allWater_5 : decode cX12_allWater 5 = .ok (.bipush 42, 2) := by decide +kernel
theorem dX12_allWater_7 : decode cX12_allWater 7 = .ok (.if_icmp .ge 21, 3) := by decide +kernel
theorem dX12_allWater_10 : decode cX12_allWater 10 = .ok (.iload_n 1, 1) := by decide +kernel
theorem dX12_allWater_11 : decode cX12_allWater 11 = .ok (.aload_n 0, 1) := by decide +kernel
theorem dX12_allWater_12 : decode cX12_allWater 12 = .ok (.getfield 29, 3) := by decide +kernel
theorem dX12_allWater_15 : decode cX12_allWater 15 = .ok (.bipush 59, 2) := by decide +kernel
theorem dX12_allWater_17 : decode cX12_allWater 17 = .ok (.iload_n 2, 1) := by decide +kernel
theorem dX12_allWater_18 : decode cX12_allWater 18 = .ok (.iadd, 1) := by decide +kernel
theorem dX12_allWater_19 : decode cX12_allWater 19 = .ok (.iaload, 1) := by decide +kernel
theorem dX12_allWater_20 : decode cX12_allWater 20 = .ok (.iadd, 1) := by decide +kernel
theorem dX12_allWater_21 : decode cX12_allWater 21 = .ok (.istore_n 1, 1) := by decide +kernel
theorem dX12_allWater_22 : decode cX12_allWater 22 = .ok (.iinc 2 1, 3) := by decide +kernel
theorem dX12_allWater_25 : decode cX12_allWater 25 = .ok (.goto (-21), 3) := by decide +kernel
theorem dX12_allWater_28 : decode cX12_allWater 28 = .ok (.iload_n 1, 1) := by decide +kernel
theorem dX12_allWater_29 : decode cX12_allWater 29 = .ok (.ireturn, 1) := by decide +kernel
theorem dX12_count_0 : decode cX12_count 0 = .ok (.iload_n 1, 1) := by decide +kernel
theorem dX12_count_1 : decode cX12_count 1 = .ok (.tableswitch 151 0 13 #[71, 76, 81, 89, 97, 103, 109, 115, 121, 126, 131, 136, 141, 146], 71) := by decide +kernel
theorem dX12_count_72 : decode cX12_count 72 = .ok (.aload_n 0, 1) := by decide +kernel
theorem dX12_count_73 : decode cX12_count 73 = .ok (.getfield 96, 3) := by decide +kernel
theorem dX12_count_76 : decode cX12_count 76 = .ok (.ireturn, 1) := by decide +kernel
theorem dX12_count_77 : decode cX12_count 77 = .ok (.aload_n 0, 1) := by decide +kernel
theorem dX12_count_78 : decode cX12_count 78 = .ok (.getfield 103, 3) := by decide +kernel
theorem dX12_count_81 : decode cX12_count 81 = .ok (.ireturn, 1) := by decide +kernel
theorem dX12_count_82 : decode cX12_count 82 = .ok (.aload_n 0, 1) := by decide +kernel
theorem dX12_count_83 : decode cX12_count 83 = .ok (.getfield 29, 3) := by decide +kernel
theorem dX12_count_86 : decode cX12_count 86 = .ok (.bipush 57, 2) := by decide +kernel
theorem dX12_count_88 : decode cX12_count 88 = .ok (.iaload, 1) := by decide +kernel
theorem dX12_count_89 : decode cX12_count 89 = .ok (.ireturn, 1) := by decide +kernel
theorem dX12_count_90 : decode cX12_count 90 = .ok (.aload_n 0, 1) := by decide +kernel
theorem dX12_count_91 : decode cX12_count 91 = .ok (.getfield 29, 3) := by decide +kernel
theorem dX12_count_94 : decode cX12_count 94 = .ok (.bipush 58, 2) := by decide +kernel
theorem dX12_count_96 : decode cX12_count 96 = .ok (.iaload, 1) := by decide +kernel
theorem dX12_count_97 : decode cX12_count 97 = .ok (.ireturn, 1) := by decide +kernel
theorem dX12_count_98 : decode cX12_count 98 = .ok (.aload_n 0, 1) := by decide +kernel
theorem dX12_count_99 : decode cX12_count 99 = .ok (.iconst 0, 1) := by decide +kernel
theorem dX12_count_100 : decode cX12_count 100 = .ok (.invokevirtual 365, 3) := by decide +kernel
theorem dX12_count_103 : decode cX12_count 103 = .ok (.ireturn, 1) := by decide +kernel
theorem dX12_count_104 : decode cX12_count 104 = .ok (.aload_n 0, 1) := by decide +kernel
theorem dX12_count_105 : decode cX12_count 105 = .ok (.iconst 2, 1) := by decide +kernel
theorem dX12_count_106 : decode cX12_count 106 = .ok (.invokevirtual 365, 3) := by decide +kernel
theorem dX12_count_109 : decode cX12_count 109 = .ok (.ireturn, 1) := by decide +kernel
theorem dX12_count_110 : decode cX12_count 110 = .ok (.aload_n 0, 1) := by decide +kernel
theorem dX12_count_111 : decode cX12_count 111 = .ok (.iconst 3, 1) := by decide +kernel
theorem dX12_count_112 : decode cX12_count 112 = .ok (.invokevirtual 365, 3) := by decide +kernel
theorem dX12_count_115 : decode cX12_count 115 = .ok (.ireturn, 1) := by decide +kernel
theorem dX12_count_116 : decode cX12_count 116 = .ok (.aload_n 0, 1) := by decide +kernel
theorem dX12_count_117 : decode cX12_count 117 = .ok (.iconst 4, 1) := by decide +kernel
theorem dX12_count_118 : decode cX12_count 118 = .ok (.invokevirtual 365, 3) := by decide +kernel
theorem dX12_count_121 : decode cX12_count 121 = .ok (.ireturn, 1) := by decide +kernel
theorem dX12_count_122 : decode cX12_count 122 = .ok (.aload_n 0, 1) := by decide +kernel
theorem dX12_count_123 : decode cX12_count 123 = .ok (.getfield 220, 3) := by decide +kernel
theorem dX12_count_126 : decode cX12_count 126 = .ok (.ireturn, 1) := by decide +kernel
theorem dX12_count_127 : decode cX12_count 127 = .ok (.aload_n 0, 1) := by decide +kernel
theorem dX12_count_128 : decode cX12_count 128 = .ok (.invokevirtual 368, 3) := by decide +kernel
theorem dX12_count_131 : decode cX12_count 131 = .ok (.ireturn, 1) := by decide +kernel
theorem dX12_count_132 : decode cX12_count 132 = .ok (.aload_n 0, 1) := by decide +kernel
theorem dX12_count_133 : decode cX12_count 133 = .ok (.getfield 223, 3) := by decide +kernel
theorem dX12_count_136 : decode cX12_count 136 = .ok (.ireturn, 1) := by decide +kernel
theorem dX12_count_137 : decode cX12_count 137 = .ok (.aload_n 0, 1) := by decide +kernel
theorem dX12_count_138 : decode cX12_count 138 = .ok (.getfield 108, 3) := by decide +kernel
theorem dX12_count_141 : decode cX12_count 141 = .ok (.ireturn, 1) := by decide +kernel
theorem dX12_count_142 : decode cX12_count 142 = .ok (.aload_n 0, 1) := by decide +kernel
theorem dX12_count_143 : decode cX12_count 143 = .ok (.getfield 25, 3) := by decide +kernel
theorem dX12_count_146 : decode cX12_count 146 = .ok (.ireturn, 1) := by decide +kernel
theorem dX12_count_147 : decode cX12_count 147 = .ok (.aload_n 0, 1) := by decide +kernel
theorem dX12_count_148 : decode cX12_count 148 = .ok (.invokevirtual 371, 3) := by decide +kernel
theorem dX12_count_151 : decode cX12_count 151 = .ok (.ireturn, 1) := by decide +kernel
theorem dX12_count_152 : decode cX12_count 152 = .ok (.bipush (-3), 2) := by decide +kernel
theorem dX12_count_154 : decode cX12_count 154 = .ok (.ireturn, 1) := by decide +kernel
