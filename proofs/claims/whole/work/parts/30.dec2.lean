theorem dMO_init_0 : decode cMO_init 0 = .ok (.aload_n 0, 1) := by decide +kernel
theorem dMO_init_1 : decode cMO_init 1 = .ok (.invokespecial 1, 3) := by decide +kernel
theorem dMO_init_4 : decode cMO_init 4 = .ok (.aload_n 0, 1) := by decide +kernel
theorem dMO_init_5 : decode cMO_init 5 = .ok (.sipush 4608, 3) := by decide +kernel
theorem dMO_init_8 : decode cMO_init 8 = .ok (.newarray .long, 2) := by decide +kernel
theorem dMO_init_10 : decode cMO_init 10 = .ok (.putfield 7, 3) := by decide +kernel
theorem dMO_init_13 : decode cMO_init 13 = .ok (.aload_n 0, 1) := by decide +kernel
theorem dMO_init_14 : decode cMO_init 14 = .ok (.sipush 512, 3) := by decide +kernel
theorem dMO_init_17 : decode cMO_init 17 = .ok (.newarray .long, 2) := by decide +kernel
theorem dMO_init_19 : decode cMO_init 19 = .ok (.putfield 13, 3) := by decide +kernel
theorem dMO_init_22 : decode cMO_init 22 = .ok (.aload_n 0, 1) := by decide +kernel
theorem dMO_init_23 : decode cMO_init 23 = .ok (.iconst 2, 1) := by decide +kernel
theorem dMO_init_24 : decode cMO_init 24 = .ok (.newarray .int, 2) := by decide +kernel
theorem dMO_init_26 : decode cMO_init 26 = .ok (.putfield 16, 3) := by decide +kernel
theorem dMO_init_29 : decode cMO_init 29 = .ok (.aload_n 0, 1) := by decide +kernel
theorem dMO_init_30 : decode cMO_init 30 = .ok (.iconst 2, 1) := by decide +kernel
theorem dMO_init_31 : decode cMO_init 31 = .ok (.newarray .int, 2) := by decide +kernel
theorem dMO_init_33 : decode cMO_init 33 = .ok (.putfield 20, 3) := by decide +kernel
theorem dMO_init_36 : decode cMO_init 36 = .ok (.aload_n 0, 1) := by decide +kernel
theorem dMO_init_37 : decode cMO_init 37 = .ok (.sipush 512, 3) := by decide +kernel
theorem dMO_init_40 : decode cMO_init 40 = .ok (.newarray .long, 2) := by decide +kernel
theorem dMO_init_42 : decode cMO_init 42 = .ok (.putfield 23, 3) := by decide +kernel
theorem dMO_init_45 : decode cMO_init 45 = .ok (.aload_n 0, 1) := by decide +kernel
theorem dMO_init_46 : decode cMO_init 46 = .ok (.iconst 2, 1) := by decide +kernel
theorem dMO_init_47 : decode cMO_init 47 = .ok (.newarray .int, 2) := by decide +kernel
theorem dMO_init_49 : decode cMO_init 49 = .ok (.putfield 26, 3) := by decide +kernel
theorem dMO_init_52 : decode cMO_init 52 = .ok (.aload_n 0, 1) := by decide +kernel
theorem dMO_init_53 : decode cMO_init 53 = .ok (.iconst 2, 1) := by decide +kernel
theorem dMO_init_54 : decode cMO_init 54 = .ok (.newarray .int, 2) := by decide +kernel
theorem dMO_init_56 : decode cMO_init 56 = .ok (.putfield 29, 3) := by decide +kernel
theorem dMO_init_59 : decode cMO_init 59 = .ok (.aload_n 0, 1) := by decide +kernel
theorem dMO_init_60 : decode cMO_init 60 = .ok (.iconst 2, 1) := by decide +kernel
theorem dMO_init_61 : decode cMO_init 61 = .ok (.newarray .long, 2) := by decide +kernel
theorem dMO_init_63 : decode cMO_init 63 = .ok (.putfield 32, 3) := by decide +kernel
theorem dMO_init_66 : decode cMO_init 66 = .ok (.aload_n 0, 1) := by decide +kernel
theorem dMO_init_67 : decode cMO_init 67 = .ok (.sipush 320, 3) := by decide +kernel
theorem dMO_init_70 : decode cMO_init 70 = .ok (.newarray .int, 2) := by decide +kernel
theorem dMO_init_72 : decode cMO_init 72 = .ok (.putfield 35, 3) := by decide +kernel
theorem dMO_init_75 : decode cMO_init 75 = .ok (.aload_n 0, 1) := by decide +kernel
theorem dMO_init_76 : decode cMO_init 76 = .ok (.iconst 2, 1) := by decide +kernel
theorem dMO_init_77 : decode cMO_init 77 = .ok (.newarray .boolean, 2) := by decide +kernel
theorem dMO_init_79 : decode cMO_init 79 = .ok (.dup, 1) := by decide +kernel
theorem dMO_init_80 : decode cMO_init 80 = .ok (.iconst 0, 1) := by decide +kernel
theorem dMO_init_81 : decode cMO_init 81 = .ok (.iconst 1, 1) := by decide +kernel
theorem dMO_init_82 : decode cMO_init 82 = .ok (.bastore, 1) := by decide +kernel
theorem dMO_init_83 : decode cMO_init 83 = .ok (.dup, 1) := by decide +kernel
theorem dMO_init_84 : decode cMO_init 84 = .ok (.iconst 1, 1) := by decide +kernel
theorem dMO_init_85 : decode cMO_init 85 = .ok (.iconst 1, 1) := by decide +kernel
theorem dMO_init_86 : decode cMO_init 86 = .ok (.bastore, 1) := by decide +kernel
theorem dMO_init_87 : decode cMO_init 87 = .ok (.putfield 38, 3) := by decide +kernel
theorem dMO_init_90 : decode cMO_init 90 = .ok (.aload_n 0, 1) := by decide +kernel
theorem dMO_init_91 : decode cMO_init 91 = .ok (.sipush 512, 3) := by decide +kernel
theorem dMO_init_94 : decode cMO_init 94 = .ok (.newarray .boolean, 2) := by decide +kernel
theorem dMO_init_96 : decode cMO_init 96 = .ok (.putfield 42, 3) := by decide +kernel
theorem dMO_init_99 : decode cMO_init 99 = .ok (.aload_n 0, 1) := by decide +kernel
theorem dMO_init_100 : decode cMO_init 100 = .ok (.sipush 512, 3) := by decide +kernel
theorem dMO_init_103 : decode cMO_init 103 = .ok (.newarray .long, 2) := by decide +kernel
theorem dMO_init_105 : decode cMO_init 105 = .ok (.putfield 45, 3) := by decide +kernel
theorem dMO_init_108 : decode cMO_init 108 = .ok (.aload_n 0, 1) := by decide +kernel
theorem dMO_init_109 : decode cMO_init 109 = .ok (.sipush 256, 3) := by decide +kernel
theorem dMO_init_112 : decode cMO_init 112 = .ok (.newarray .int, 2) := by decide +kernel
theorem dMO_init_114 : decode cMO_init 114 = .ok (.putfield 48, 3) := by decide +kernel
theorem dMO_init_117 : decode cMO_init 117 = .ok (.aload_n 0, 1) := by decide +kernel
theorem dMO_init_118 : decode cMO_init 118 = .ok (.sipush 256, 3) := by decide +kernel
theorem dMO_init_121 : decode cMO_init 121 = .ok (.newarray .int, 2) := by decide +kernel
theorem dMO_init_123 : decode cMO_init 123 = .ok (.putfield 51, 3) := by decide +kernel
theorem dMO_init_126 : decode cMO_init 126 = .ok (.aload_n 0, 1) := by decide +kernel
theorem dMO_init_127 : decode cMO_init 127 = .ok (.sipush 352, 3) := by decide +kernel
theorem dMO_init_130 : decode cMO_init 130 = .ok (.newarray .int, 2) := by decide +kernel
theorem dMO_init_132 : decode cMO_init 132 = .ok (.putfield 54, 3) := by decide +kernel
theorem dMO_init_135 : decode cMO_init 135 = .ok (.aload_n 0, 1) := by decide +kernel
theorem dMO_init_136 : decode cMO_init 136 = .ok (.bipush 16, 2) := by decide +kernel
theorem dMO_init_138 : decode cMO_init 138 = .ok (.newarray .int, 2) := by decide +kernel
theorem dMO_init_140 : decode cMO_init 140 = .ok (.putfield 57, 3) := by decide +kernel
theorem dMO_init_143 : decode cMO_init 143 = .ok (.aload_n 0, 1) := by decide +kernel
theorem dMO_init_144 : decode cMO_init 144 = .ok (.bipush 16, 2) := by decide +kernel
theorem dMO_init_146 : decode cMO_init 146 = .ok (.newarray .int, 2) := by decide +kernel
theorem dMO_init_148 : decode cMO_init 148 = .ok (.putfield 60, 3) := by decide +kernel
theorem dMO_init_151 : decode cMO_init 151 = .ok (.aload_n 0, 1) := by decide +kernel
theorem dMO_init_152 : decode cMO_init 152 = .ok (.iconst 2, 1) := by decide +kernel
theorem dMO_init_153 : decode cMO_init 153 = .ok (.newarray .long, 2) := by decide +kernel
theorem dMO_init_155 : decode cMO_init 155 = .ok (.putfield 63, 3) := by decide +kernel
theorem dMO_init_158 : decode cMO_init 158 = .ok (.aload_n 0, 1) := by decide +kernel
theorem dMO_init_159 : decode cMO_init 159 = .ok (.iconst 2, 1) := by decide +kernel
theorem dMO_init_160 : decode cMO_init 160 = .ok (.newarray .long, 2) := by decide +kernel
theorem dMO_init_162 : decode cMO_init 162 = .ok (.putfield 66, 3) := by decide +kernel
theorem dMO_init_165 : decode cMO_init 165 = .ok (.aload_n 0, 1) := by decide +kernel
theorem dMO_init_166 : decode cMO_init 166 = .ok (.iconst 2, 1) := by decide +kernel
theorem dMO_init_167 : decode cMO_init 167 = .ok (.newarray .boolean, 2) := by decide +kernel
theorem dMO_init_169 : decode cMO_init 169 = .ok (.putfield 69, 3) := by decide +kernel
theorem dMO_init_172 : decode cMO_init 172 = .ok (.iconst 0, 1) := by decide +kernel
theorem dMO_init_173 : decode cMO_init 173 = .ok (.istore_n 1, 1) := by decide +kernel
theorem dMO_init_174 : decode cMO_init 174 = .ok (.iload_n 1, 1) := by decide +kernel
theorem dMO_init_175 : decode cMO_init 175 = .ok (.sipush 256, 3) := by decide +kernel
theorem dMO_init_178 : decode cMO_init 178 = .ok (.if_icmp .ge 33, 3) := by decide +kernel
theorem dMO_init_181 : decode cMO_init 181 = .ok (.aload_n 0, 1) := by decide +kernel
theorem dMO_init_182 : decode cMO_init 182 = .ok (.getfield 51, 3) := by decide +kernel
theorem dMO_init_185 : decode cMO_init 185 = .ok (.iload_n 1, 1) := by decide +kernel
theorem dMO_init_186 : decode cMO_init 186 = .ok (.iload_n 1, 1) := by decide +kernel
theorem dMO_init_187 : decode cMO_init 187 = .ok (.iconst 2, 1) := by decide +kernel
theorem dMO_init_188 : decode cMO_init 188 = .ok (.invokestatic 72, 3) := by decide +kernel
theorem dMO_init_191 : decode cMO_init 191 = .ok (.iastore, 1) := by decide +kernel
theorem dMO_init_192 : decode cMO_init 192 = .ok (.aload_n 0, 1) := by decide +kernel
theorem dMO_init_193 : decode cMO_init 193 = .ok (.getfield 48, 3) := by decide +kernel
theorem dMO_init_196 : decode cMO_init 196 = .ok (.iload_n 1, 1) := by decide +kernel
theorem dMO_init_197 : decode cMO_init 197 = .ok (.iload_n 1, 1) := by decide +kernel
theorem dMO_init_198 : decode cMO_init 198 = .ok (.invokestatic 76, 3) := by decide +kernel
theorem dMO_init_201 : decode cMO_init 201 = .ok (.invokestatic 80, 3) := by decide +kernel
theorem dMO_init_204 : decode cMO_init 204 = .ok (.iastore, 1) := by decide +kernel
theorem dMO_init_205 : decode cMO_init 205 = .ok (.iinc 1 1, 3) := by decide +kernel
theorem dMO_init_208 : decode cMO_init 208 = .ok (.goto (-34), 3) := by decide +kernel
theorem dMO_init_211 : decode cMO_init 211 = .ok (.iconst 0, 1) := by decide +kernel
theorem dMO_init_212 : decode cMO_init 212 = .ok (.istore_n 1, 1) := by decide +kernel
theorem dMO_init_213 : decode cMO_init 213 = .ok (.iload_n 1, 1) := by decide +kernel
theorem dMO_init_214 : decode cMO_init 214 = .ok (.bipush 16, 2) := by decide +kernel
theorem dMO_init_216 : decode cMO_init 216 = .ok (.if_icmp .ge 41, 3) := by decide +kernel
theorem dMO_init_219 : decode cMO_init 219 = .ok (.aload_n 0, 1) := by decide +kernel
theorem dMO_init_220 : decode cMO_init 220 = .ok (.getfield 54, 3) := by decide +kernel
theorem dMO_init_223 : decode cMO_init 223 = .ok (.iload_n 1, 1) := by decide +kernel
theorem dMO_init_224 : decode cMO_init 224 = .ok (.bipush 16, 2) := by decide +kernel
theorem dMO_init_226 : decode cMO_init 226 = .ok (.iload_n 1, 1) := by decide +kernel
theorem dMO_init_227 : decode cMO_init 227 = .ok (.imul, 1) := by decide +kernel
theorem dMO_init_228 : decode cMO_init 228 = .ok (.iconst 1, 1) := by decide +kernel
theorem dMO_init_229 : decode cMO_init 229 = .ok (.iadd, 1) := by decide +kernel
theorem dMO_init_230 : decode cMO_init 230 = .ok (.iastore, 1) := by decide +kernel
theorem dMO_init_231 : decode cMO_init 231 = .ok (.aload_n 0, 1) := by decide +kernel
theorem dMO_init_232 : decode cMO_init 232 = .ok (.getfield 54, 3) := by decide +kernel
theorem dMO_init_235 : decode cMO_init 235 = .ok (.sipush 176, 3) := by decide +kernel
theorem dMO_init_238 : decode cMO_init 238 = .ok (.iload_n 1, 1) := by decide +kernel
theorem dMO_init_239 : decode cMO_init 239 = .ok (.iadd, 1) := by decide +kernel
theorem dMO_init_240 : decode cMO_init 240 = .ok (.bipush 15, 2) := by decide +kernel
theorem dMO_init_242 : decode cMO_init 242 = .ok (.iload_n 1, 1) := by decide +kernel
theorem dMO_init_243 : decode cMO_init 243 = .ok (.imul, 1) := by decide +kernel
theorem dMO_init_244 : decode cMO_init 244 = .ok (.iconst 2, 1) := by decide +kernel
theorem dMO_init_245 : decode cMO_init 245 = .ok (.iadd, 1) := by decide +kernel
theorem dMO_init_246 : decode cMO_init 246 = .ok (.sipush 255, 3) := by decide +kernel
theorem dMO_init_249 : decode cMO_init 249 = .ok (.iand, 1) := by decide +kernel
theorem dMO_init_250 : decode cMO_init 250 = .ok (.iastore, 1) := by decide +kernel
theorem dMO_init_251 : decode cMO_init 251 = .ok (.iinc 1 1, 3) := by decide +kernel
theorem dMO_init_254 : decode cMO_init 254 = .ok (.goto (-41), 3) := by decide +kernel
theorem dMO_init_257 : decode cMO_init 257 = .ok (.aload_n 0, 1) := by decide +kernel
theorem dMO_init_258 : decode cMO_init 258 = .ok (.iconst 0, 1) := by decide +kernel
theorem dMO_init_259 : decode cMO_init 259 = .ok (.invokevirtual 83, 3) := by decide +kernel
theorem dMO_init_262 : decode cMO_init 262 = .ok (.aload_n 0, 1) := by decide +kernel
theorem dMO_init_263 : decode cMO_init 263 = .ok (.sipush 176, 3) := by decide +kernel
theorem dMO_init_266 : decode cMO_init 266 = .ok (.invokevirtual 83, 3) := by decide +kernel
theorem dMO_init_269 : decode cMO_init 269 = .ok (.return_, 1) := by decide +kernel
theorem dMO_product_0 : decode cMO_product 0 = .ok (.iconst 0, 1) := by decide +kernel
theorem dMO_product_1 : decode cMO_product 1 = .ok (.istore_n 2, 1) := by decide +kernel
theorem dMO_product_2 : decode cMO_product 2 = .ok (.iload_n 0, 1) := by decide +kernel
theorem dMO_product_3 : decode cMO_product 3 = .ok (.istore_n 3, 1) := by decide +kernel
theorem dMO_product_4 : decode cMO_product 4 = .ok (.iconst 0, 1) := by decide +kernel
theorem dMO_product_5 : decode cMO_product 5 = .ok (.istore 4, 2) := by decide +kernel
theorem dMO_product_7 : decode cMO_product 7 = .ok (.iload 4, 2) := by decide +kernel
theorem dMO_product_9 : decode cMO_product 9 = .ok (.bipush 8, 2) := by decide +kernel
theorem dMO_product_11 : decode cMO_product 11 = .ok (.if_icmp .ge 48, 3) := by decide +kernel
theorem dMO_product_14 : decode cMO_product 14 = .ok (.iload_n 1, 1) := by decide +kernel
theorem dMO_product_15 : decode cMO_product 15 = .ok (.iload 4, 2) := by decide +kernel
theorem dMO_product_17 : decode cMO_product 17 = .ok (.ishr, 1) := by decide +kernel
theorem dMO_product_18 : decode cMO_product 18 = .ok (.iconst 1, 1) := by decide +kernel
theorem dMO_product_19 : decode cMO_product 19 = .ok (.iand, 1) := by decide +kernel
theorem dMO_product_20 : decode cMO_product 20 = .ok (.iconst 1, 1) := by decide +kernel
theorem dMO_product_21 : decode cMO_product 21 = .ok (.if_icmp .ne 9, 3) := by decide +kernel
theorem dMO_product_24 : decode cMO_product 24 = .ok (.iload_n 2, 1) := by decide +kernel
theorem dMO_product_25 : decode cMO_product 25 = .ok (.iload_n 3, 1) := by decide +kernel
theorem dMO_product_26 : decode cMO_product 26 = .ok (.ixor, 1) := by decide +kernel
theorem dMO_product_27 : decode cMO_product 27 = .ok (.goto 4, 3) := by decide +kernel
theorem dMO_product_30 : decode cMO_product 30 = .ok (.iload_n 2, 1) := by decide +kernel
theorem dMO_product_31 : decode cMO_product 31 = .ok (.istore_n 2, 1) := by decide +kernel
theorem dMO_product_32 : decode cMO_product 32 = .ok (.iload_n 3, 1) := by decide +kernel
theorem dMO_product_33 : decode cMO_product 33 = .ok (.sipush 128, 3) := by decide +kernel
theorem dMO_product_36 : decode cMO_product 36 = .ok (.if_icmp .ge 9, 3) := by decide +kernel
theorem dMO_product_39 : decode cMO_product 39 = .ok (.iconst 2, 1) := by decide +kernel
theorem dMO_product_40 : decode cMO_product 40 = .ok (.iload_n 3, 1) := by decide +kernel
theorem dMO_product_41 : decode cMO_product 41 = .ok (.imul, 1) := by decide +kernel
theorem dMO_product_42 : decode cMO_product 42 = .ok (.goto 10, 3) := by decide +kernel
theorem dMO_product_45 : decode cMO_product 45 = .ok (.iconst 2, 1) := by decide +kernel
theorem dMO_product_46 : decode cMO_product 46 = .ok (.iload_n 3, 1) := by decide +kernel
theorem dMO_product_47 : decode cMO_product 47 = .ok (.imul, 1) := by decide +kernel
theorem dMO_product_48 : decode cMO_product 48 = .ok (.sipush 283, 3) := by decide +kernel
theorem dMO_product_51 : decode cMO_product 51 = .ok (.ixor, 1) := by decide +kernel
theorem dMO_product_52 : decode cMO_product 52 = .ok (.istore_n 3, 1) := by decide +kernel
theorem dMO_product_53 : decode cMO_product 53 = .ok (.iinc 4 1, 3) := by decide +kernel
theorem dMO_product_56 : decode cMO_product 56 = .ok (.goto (-49), 3) := by decide +kernel
theorem dMO_product_59 : decode cMO_product 59 = .ok (.iload_n 2, 1) := by decide +kernel
theorem dMO_product_60 : decode cMO_product 60 = .ok (.ireturn, 1) := by decide +kernel
theorem dMO_inverse_0 : decode cMO_inverse 0 = .ok (.iconst 0, 1) := by decide +kernel
theorem dMO_inverse_1 : decode cMO_inverse 1 = .ok (.istore_n 1, 1) := by decide +kernel
theorem dMO_inverse_2 : decode cMO_inverse 2 = .ok (.iconst 1, 1) := by decide +kernel
theorem dMO_inverse_3 : decode cMO_inverse 3 = .ok (.istore_n 2, 1) := by decide +kernel
theorem dMO_inverse_4 : decode cMO_inverse 4 = .ok (.iload_n 2, 1) := by decide +kernel
theorem dMO_inverse_5 : decode cMO_inverse 5 = .ok (.sipush 256, 3) := by decide +kernel
theorem dMO_inverse_8 : decode cMO_inverse 8 = .ok (.if_icmp .ge 24, 3) := by decide +kernel
theorem dMO_inverse_11 : decode cMO_inverse 11 = .ok (.iload_n 0, 1) := by decide +kernel
theorem dMO_inverse_12 : decode cMO_inverse 12 = .ok (.iload_n 2, 1) := by decide +kernel
theorem dMO_inverse_13 : decode cMO_inverse 13 = .ok (.invokestatic 72, 3) := by decide +kernel
theorem dMO_inverse_16 : decode cMO_inverse 16 = .ok (.iconst 1, 1) := by decide +kernel
theorem dMO_inverse_17 : decode cMO_inverse 17 = .ok (.if_icmp .ne 7, 3) := by decide +kernel
theorem dMO_inverse_20 : decode cMO_inverse 20 = .ok (.iload_n 2, 1) := by decide +kernel
theorem dMO_inverse_21 : decode cMO_inverse 21 = .ok (.goto 4, 3) := by decide +kernel
theorem dMO_inverse_24 : decode cMO_inverse 24 = .ok (.iload_n 1, 1) := by decide +kernel
theorem dMO_inverse_25 : decode cMO_inverse 25 = .ok (.istore_n 1, 1) := by decide +kernel
theorem dMO_inverse_26 : decode cMO_inverse 26 = .ok (.iinc 2 1, 3) := by decide +kernel
theorem dMO_inverse_29 : decode cMO_inverse 29 = .ok (.goto (-25), 3) := by decide +kernel
theorem dMO_inverse_32 : decode cMO_inverse 32 = .ok (.iload_n 1, 1) := by decide +kernel
theorem dMO_inverse_33 : decode cMO_inverse 33 = .ok (.ireturn, 1) := by decide +kernel
theorem dMO_spread_0 : decode cMO_spread 0 = .ok (.iconst 0, 1) := by decide +kernel
theorem dMO_spread_1 : decode cMO_spread 1 = .ok (.istore_n 1, 1) := by decide +kernel
theorem dMO_spread_2 : decode cMO_spread 2 = .ok (.iconst 0, 1) := by decide +kernel
theorem dMO_spread_3 : decode cMO_spread 3 = .ok (.istore_n 2, 1) := by decide +kernel
theorem dMO_spread_4 : decode cMO_spread 4 = .ok (.iload_n 2, 1) := by decide +kernel
theorem dMO_spread_5 : decode cMO_spread 5 = .ok (.bipush 8, 2) := by decide +kernel
theorem dMO_spread_7 : decode cMO_spread 7 = .ok (.if_icmp .ge 62, 3) := by decide +kernel
theorem dMO_spread_10 : decode cMO_spread 10 = .ok (.bipush 99, 2) := by decide +kernel
theorem dMO_spread_12 : decode cMO_spread 12 = .ok (.iload_n 2, 1) := by decide +kernel
theorem dMO_spread_13 : decode cMO_spread 13 = .ok (.ishr, 1) := by decide +kernel
theorem dMO_spread_14 : decode cMO_spread 14 = .ok (.iconst 1, 1) := by decide +kernel
theorem dMO_spread_15 : decode cMO_spread 15 = .ok (.iand, 1) := by decide +kernel
theorem dMO_spread_16 : decode cMO_spread 16 = .ok (.istore_n 3, 1) := by decide +kernel
theorem dMO_spread_17 : decode cMO_spread 17 = .ok (.iconst 0, 1) := by decide +kernel
theorem dMO_spread_18 : decode cMO_spread 18 = .ok (.istore 4, 2) := by decide +kernel
theorem dMO_spread_20 : decode cMO_spread 20 = .ok (.iload 4, 2) := by decide +kernel
theorem dMO_spread_22 : decode cMO_spread 22 = .ok (.iconst 5, 1) := by decide +kernel
theorem dMO_spread_23 : decode cMO_spread 23 = .ok (.if_icmp .ge 34, 3) := by decide +kernel
theorem dMO_spread_26 : decode cMO_spread 26 = .ok (.iload_n 3, 1) := by decide +kernel
theorem dMO_spread_27 : decode cMO_spread 27 = .ok (.iload_n 0, 1) := by decide +kernel
theorem dMO_spread_28 : decode cMO_spread 28 = .ok (.iload 4, 2) := by decide +kernel
theorem dMO_spread_30 : decode cMO_spread 30 = .ok (.ifCond .ne 7, 3) := by decide +kernel
theorem dMO_spread_33 : decode cMO_spread 33 = .ok (.iload_n 2, 1) := by decide +kernel
theorem dMO_spread_34 : decode cMO_spread 34 = .ok (.goto 12, 3) := by decide +kernel
theorem dMO_spread_37 : decode cMO_spread 37 = .ok (.iload_n 2, 1) := by decide +kernel
theorem dMO_spread_38 : decode cMO_spread 38 = .ok (.iconst 3, 1) := by decide +kernel
theorem dMO_spread_39 : decode cMO_spread 39 = .ok (.iadd, 1) := by decide +kernel
theorem dMO_spread_40 : decode cMO_spread 40 = .ok (.iload 4, 2) := by decide +kernel
theorem dMO_spread_42 : decode cMO_spread 42 = .ok (.iadd, 1) := by decide +kernel
theorem dMO_spread_43 : decode cMO_spread 43 = .ok (.bipush 8, 2) := by decide +kernel
theorem dMO_spread_45 : decode cMO_spread 45 = .ok (.irem, 1) := by decide +kernel
theorem dMO_spread_46 : decode cMO_spread 46 = .ok (.ishr, 1) := by decide +kernel
theorem dMO_spread_47 : decode cMO_spread 47 = .ok (.iconst 1, 1) := by decide +kernel
theorem dMO_spread_48 : decode cMO_spread 48 = .ok (.iand, 1) := by decide +kernel
theorem dMO_spread_49 : decode cMO_spread 49 = .ok (.ixor, 1) := by decide +kernel
theorem dMO_spread_50 : decode cMO_spread 50 = .ok (.istore_n 3, 1) := by decide +kernel
theorem dMO_spread_51 : decode cMO_spread 51 = .ok (.iinc 4 1, 3) := by decide +kernel
theorem dMO_spread_54 : decode cMO_spread 54 = .ok (.goto (-34), 3) := by decide +kernel
theorem dMO_spread_57 : decode cMO_spread 57 = .ok (.iload_n 1, 1) := by decide +kernel
theorem dMO_spread_58 : decode cMO_spread 58 = .ok (.iload_n 3, 1) := by decide +kernel
theorem dMO_spread_59 : decode cMO_spread 59 = .ok (.iload_n 2, 1) := by decide +kernel
theorem dMO_spread_60 : decode cMO_spread 60 = .ok (.ishl, 1) := by decide +kernel
theorem dMO_spread_61 : decode cMO_spread 61 = .ok (.ior, 1) := by decide +kernel
theorem dMO_spread_62 : decode cMO_spread 62 = .ok (.istore_n 1, 1) := by decide +kernel
theorem dMO_spread_63 : decode cMO_spread 63 = .ok (.iinc 2 1, 3) := by decide +kernel
theorem dMO_spread_66 : decode cMO_spread 66 = .ok (.goto (-62), 3) := by decide +kernel
theorem dMO_spread_69 : decode cMO_spread 69 = .ok (.iload_n 1, 1) := by decide +kernel
theorem dMO_spread_70 : decode cMO_spread 70 = .ok (.ireturn, 1) := by decide +kernel
theorem dMO_roundKeys_0 : decode cMO_roundKeys 0 = .ok (.iconst 1, 1) := by decide +kernel
theorem dMO_roundKeys_1 : decode cMO_roundKeys 1 = .ok (.istore_n 2, 1) := by decide +kernel
theorem dMO_roundKeys_2 : decode cMO_roundKeys 2 = .ok (.iconst 4, 1) := by decide +kernel
theorem dMO_roundKeys_3 : decode cMO_roundKeys 3 = .ok (.istore_n 3, 1) := by decide +kernel
theorem dMO_roundKeys_4 : decode cMO_roundKeys 4 = .ok (.iload_n 3, 1) := by decide +kernel
theorem dMO_roundKeys_5 : decode cMO_roundKeys 5 = .ok (.bipush 44, 2) := by decide +kernel
theorem dMO_roundKeys_7 : decode cMO_roundKeys 7 = .ok (.if_icmp .ge 128, 3) := by decide +kernel
theorem dMO_roundKeys_10 : decode cMO_roundKeys 10 = .ok (.iload_n 1, 1) := by decide +kernel
theorem dMO_roundKeys_11 : decode cMO_roundKeys 11 = .ok (.iconst 4, 1) := by decide +kernel
theorem dMO_roundKeys_12 : decode cMO_roundKeys 12 = .ok (.iload_n 3, 1) := by decide +kernel
theorem dMO_roundKeys_13 : decode cMO_roundKeys 13 = .ok (.imul, 1) := by decide +kernel
theorem dMO_roundKeys_14 : decode cMO_roundKeys 14 = .ok (.iadd, 1) := by decide +kernel
theorem dMO_roundKeys_15 : decode cMO_roundKeys 15 = .ok (.istore 4, 2) := by decide +kernel
theorem dMO_roundKeys_17 : decode cMO_roundKeys 17 = .ok (.iconst 0, 1) := by decide +kernel
theorem dMO_roundKeys_18 : decode cMO_roundKeys 18 = .ok (.istore 5, 2) := by decide +kernel
theorem dMO_roundKeys_20 : decode cMO_roundKeys 20 = .ok (.iload 5, 2) := by decide +kernel
theorem dMO_roundKeys_22 : decode cMO_roundKeys 22 = .ok (.iconst 4, 1) := by decide +kernel
theorem dMO_roundKeys_23 : decode cMO_roundKeys 23 = .ok (.if_icmp .ge 79, 3) := by decide +kernel
theorem dMO_roundKeys_26 : decode cMO_roundKeys 26 = .ok (.iload_n 3, 1) := by decide +kernel
theorem dMO_roundKeys_27 : decode cMO_roundKeys 27 = .ok (.iconst 4, 1) := by decide +kernel
theorem dMO_roundKeys_28 : decode cMO_roundKeys 28 = .ok (.irem, 1) := by decide +kernel
theorem dMO_roundKeys_29 : decode cMO_roundKeys 29 = .ok (.ifCond .ne 27, 3) := by decide +kernel
theorem dMO_roundKeys_32 : decode cMO_roundKeys 32 = .ok (.aload_n 0, 1) := by decide +kernel
theorem dMO_roundKeys_33 : decode cMO_roundKeys 33 = .ok (.getfield 48, 3) := by decide +kernel
theorem dMO_roundKeys_36 : decode cMO_roundKeys 36 = .ok (.aload_n 0, 1) := by decide +kernel
theorem dMO_roundKeys_37 : decode cMO_roundKeys 37 = .ok (.getfield 54, 3) := by decide +kernel
theorem dMO_roundKeys_40 : decode cMO_roundKeys 40 = .ok (.iload 4, 2) := by decide +kernel
theorem dMO_roundKeys_42 : decode cMO_roundKeys 42 = .ok (.iconst 4, 1) := by decide +kernel
theorem dMO_roundKeys_43 : decode cMO_roundKeys 43 = .ok (.isub, 1) := by decide +kernel
theorem dMO_roundKeys_44 : decode cMO_roundKeys 44 = .ok (.iload 5, 2) := by decide +kernel
theorem dMO_roundKeys_46 : decode cMO_roundKeys 46 = .ok (.iconst 1, 1) := by decide +kernel
theorem dMO_roundKeys_47 : decode cMO_roundKeys 47 = .ok (.iadd, 1) := by decide +kernel
theorem dMO_roundKeys_48 : decode cMO_roundKeys 48 = .ok (.iconst 4, 1) := by decide +kernel
theorem dMO_roundKeys_49 : decode cMO_roundKeys 49 = .ok (.irem, 1) := by decide +kernel
theorem dMO_roundKeys_50 : decode cMO_roundKeys 50 = .ok (.iadd, 1) := by decide +kernel
theorem dMO_roundKeys_51 : decode cMO_roundKeys 51 = .ok (.iaload, 1) := by decide +kernel
theorem dMO_roundKeys_52 : decode cMO_roundKeys 52 = .ok (.iaload, 1) := by decide +kernel
theorem dMO_roundKeys_53 : decode cMO_roundKeys 53 = .ok (.goto 15, 3) := by decide +kernel
theorem dMO_roundKeys_56 : decode cMO_roundKeys 56 = .ok (.aload_n 0, 1) := by decide +kernel
theorem dMO_roundKeys_57 : decode cMO_roundKeys 57 = .ok (.getfield 54, 3) := by decide +kernel
theorem dMO_roundKeys_60 : decode cMO_roundKeys 60 = .ok (.iload 4, 2) := by decide +kernel
theorem dMO_roundKeys_62 : decode cMO_roundKeys 62 = .ok (.iconst 4, 1) := by decide +kernel
theorem dMO_roundKeys_63 : decode cMO_roundKeys 63 = .ok (.isub, 1) := by decide +kernel
theorem dMO_roundKeys_64 : decode cMO_roundKeys 64 = .ok (.iload 5, 2) := by decide +kernel
theorem dMO_roundKeys_66 : decode cMO_roundKeys 66 = .ok (.iadd, 1) := by decide +kernel
theorem dMO_roundKeys_67 : decode cMO_roundKeys 67 = .ok (.iaload, 1) := by decide +kernel
theorem dMO_roundKeys_68 : decode cMO_roundKeys 68 = .ok (.istore 6, 2) := by decide +kernel
theorem dMO_roundKeys_70 : decode cMO_roundKeys 70 = .ok (.aload_n 0, 1) := by decide +kernel
theorem dMO_roundKeys_71 : decode cMO_roundKeys 71 = .ok (.getfield 54, 3) := by decide +kernel
theorem dMO_roundKeys_74 : decode cMO_roundKeys 74 = .ok (.iload 4, 2) := by decide +kernel
theorem dMO_roundKeys_76 : decode cMO_roundKeys 76 = .ok (.iload 5, 2) := by decide +kernel
theorem dMO_roundKeys_78 : decode cMO_roundKeys 78 = .ok (.iadd, 1) := by decide +kernel
theorem dMO_roundKeys_79 : decode cMO_roundKeys 79 = .ok (.aload_n 0, 1) := by decide +kernel
theorem dMO_roundKeys_80 : decode cMO_roundKeys 80 = .ok (.getfield 54, 3) := by decide +kernel
theorem dMO_roundKeys_83 : decode cMO_roundKeys 83 = .ok (.iload 4, 2) := by decide +kernel
theorem dMO_roundKeys_85 : decode cMO_roundKeys 85 = .ok (.bipush 16, 2) := by decide +kernel
theorem dMO_roundKeys_87 : decode cMO_roundKeys 87 = .ok (.isub, 1) := by decide +kernel
theorem dMO_roundKeys_88 : decode cMO_roundKeys 88 = .ok (.iload 5, 2) := by decide +kernel
theorem dMO_roundKeys_90 : decode cMO_roundKeys 90 = .ok (.iadd, 1) := by decide +kernel
theorem dMO_roundKeys_91 : decode cMO_roundKeys 91 = .ok (.iaload, 1) := by decide +kernel
theorem dMO_roundKeys_92 : decode cMO_roundKeys 92 = .ok (.iload 6, 2) := by decide +kernel
theorem dMO_roundKeys_94 : decode cMO_roundKeys 94 = .ok (.ixor, 1) := by decide +kernel
theorem dMO_roundKeys_95 : decode cMO_roundKeys 95 = .ok (.iastore, 1) := by decide +kernel
theorem dMO_roundKeys_96 : decode cMO_roundKeys 96 = .ok (.iinc 5 1, 3) := by decide +kernel
theorem dMO_roundKeys_99 : decode cMO_roundKeys 99 = .ok (.goto (-79), 3) := by decide +kernel
theorem dMO_roundKeys_102 : decode cMO_roundKeys 102 = .ok (.iload_n 3, 1) := by decide +kernel
theorem dMO_roundKeys_103 : decode cMO_roundKeys 103 = .ok (.iconst 4, 1) := by decide +kernel
theorem dMO_roundKeys_104 : decode cMO_roundKeys 104 = .ok (.irem, 1) := by decide +kernel
theorem dMO_roundKeys_105 : decode cMO_roundKeys 105 = .ok (.ifCond .eq 6, 3) := by decide +kernel
theorem dMO_roundKeys_108 : decode cMO_roundKeys 108 = .ok (.goto 21, 3) := by decide +kernel
theorem dMO_roundKeys_111 : decode cMO_roundKeys 111 = .ok (.aload_n 0, 1) := by decide +kernel
theorem dMO_roundKeys_112 : decode cMO_roundKeys 112 = .ok (.getfield 54, 3) := by decide +kernel
theorem dMO_roundKeys_115 : decode cMO_roundKeys 115 = .ok (.iload 4, 2) := by decide +kernel
theorem dMO_roundKeys_117 : decode cMO_roundKeys 117 = .ok (.dup2, 1) := by decide +kernel
theorem dMO_roundKeys_118 : decode cMO_roundKeys 118 = .ok (.iaload, 1) := by decide +kernel
theorem dMO_roundKeys_119 : decode cMO_roundKeys 119 = .ok (.iload_n 2, 1) := by decide +kernel
theorem dMO_roundKeys_120 : decode cMO_roundKeys 120 = .ok (.ixor, 1) := by decide +kernel
theorem dMO_roundKeys_121 : decode cMO_roundKeys 121 = .ok (.iastore, 1) := by decide +kernel
theorem dMO_roundKeys_122 : decode cMO_roundKeys 122 = .ok (.aload_n 0, 1) := by decide +kernel
theorem dMO_roundKeys_123 : decode cMO_roundKeys 123 = .ok (.getfield 51, 3) := by decide +kernel
theorem dMO_roundKeys_126 : decode cMO_roundKeys 126 = .ok (.iload_n 2, 1) := by decide +kernel
theorem dMO_roundKeys_127 : decode cMO_roundKeys 127 = .ok (.iaload, 1) := by decide +kernel
theorem dMO_roundKeys_128 : decode cMO_roundKeys 128 = .ok (.istore_n 2, 1) := by decide +kernel
theorem dMO_roundKeys_129 : decode cMO_roundKeys 129 = .ok (.iinc 3 1, 3) := by decide +kernel
theorem dMO_roundKeys_132 : decode cMO_roundKeys 132 = .ok (.goto (-128), 3) := by decide +kernel
theorem dMO_roundKeys_135 : decode cMO_roundKeys 135 = .ok (.return_, 1) := by decide +kernel
theorem dMO_thrown_0 : decode cMO_thrown 0 = .ok (.aload_n 0, 1) := by decide +kernel
theorem dMO_thrown_1 : decode cMO_thrown 1 = .ok (.getfield 87, 3) := by decide +kernel
theorem dMO_thrown_4 : decode cMO_thrown 4 = .ok (.ireturn, 1) := by decide +kernel
theorem dMO_makeKeys_0 : decode cMO_makeKeys 0 = .ok (.aload_n 0, 1) := by decide +kernel
theorem dMO_makeKeys_1 : decode cMO_makeKeys 1 = .ok (.iload_n 1, 1) := by decide +kernel
theorem dMO_makeKeys_2 : decode cMO_makeKeys 2 = .ok (.ifCond .lt 10, 3) := by decide +kernel
theorem dMO_makeKeys_5 : decode cMO_makeKeys 5 = .ok (.iload_n 1, 1) := by decide +kernel
theorem dMO_makeKeys_6 : decode cMO_makeKeys 6 = .ok (.sipush 256, 3) := by decide +kernel
theorem dMO_makeKeys_9 : decode cMO_makeKeys 9 = .ok (.if_icmp .lt 7, 3) := by decide +kernel
theorem dMO_makeKeys_12 : decode cMO_makeKeys 12 = .ok (.iconst 1, 1) := by decide +kernel
theorem dMO_makeKeys_13 : decode cMO_makeKeys 13 = .ok (.goto 4, 3) := by decide +kernel
theorem dMO_makeKeys_16 : decode cMO_makeKeys 16 = .ok (.iconst 0, 1) := by decide +kernel
theorem dMO_makeKeys_17 : decode cMO_makeKeys 17 = .ok (.putfield 87, 3) := by decide +kernel
theorem dMO_makeKeys_20 : decode cMO_makeKeys 20 = .ok (.aload_n 0, 1) := by decide +kernel
theorem dMO_makeKeys_21 : decode cMO_makeKeys 21 = .ok (.getfield 87, 3) := by decide +kernel
theorem dMO_makeKeys_24 : decode cMO_makeKeys 24 = .ok (.ifCond .le 4, 3) := by decide +kernel
theorem dMO_makeKeys_27 : decode cMO_makeKeys 27 = .ok (.return_, 1) := by decide +kernel
theorem dMO_makeKeys_28 : decode cMO_makeKeys 28 = .ok (.aload_n 0, 1) := by decide +kernel
theorem dMO_makeKeys_29 : decode cMO_makeKeys 29 = .ok (.getfield 63, 3) := by decide +kernel
theorem dMO_makeKeys_32 : decode cMO_makeKeys 32 = .ok (.iconst 0, 1) := by decide +kernel
theorem dMO_makeKeys_33 : decode cMO_makeKeys 33 = .ok (.lload_n 2, 1) := by decide +kernel
theorem dMO_makeKeys_34 : decode cMO_makeKeys 34 = .ok (.lastore, 1) := by decide +kernel
theorem dMO_makeKeys_35 : decode cMO_makeKeys 35 = .ok (.aload_n 0, 1) := by decide +kernel
theorem dMO_makeKeys_36 : decode cMO_makeKeys 36 = .ok (.getfield 66, 3) := by decide +kernel
theorem dMO_makeKeys_39 : decode cMO_makeKeys 39 = .ok (.iconst 0, 1) := by decide +kernel
theorem dMO_makeKeys_40 : decode cMO_makeKeys 40 = .ok (.lload 4, 2) := by decide +kernel
theorem dMO_makeKeys_42 : decode cMO_makeKeys 42 = .ok (.lastore, 1) := by decide +kernel
theorem dMO_makeKeys_43 : decode cMO_makeKeys 43 = .ok (.aload_n 0, 1) := by decide +kernel
theorem dMO_makeKeys_44 : decode cMO_makeKeys 44 = .ok (.getfield 63, 3) := by decide +kernel
theorem dMO_makeKeys_47 : decode cMO_makeKeys 47 = .ok (.iconst 1, 1) := by decide +kernel
theorem dMO_makeKeys_48 : decode cMO_makeKeys 48 = .ok (.lload 6, 2) := by decide +kernel
theorem dMO_makeKeys_50 : decode cMO_makeKeys 50 = .ok (.lastore, 1) := by decide +kernel
theorem dMO_makeKeys_51 : decode cMO_makeKeys 51 = .ok (.aload_n 0, 1) := by decide +kernel
theorem dMO_makeKeys_52 : decode cMO_makeKeys 52 = .ok (.getfield 66, 3) := by decide +kernel
theorem dMO_makeKeys_55 : decode cMO_makeKeys 55 = .ok (.iconst 1, 1) := by decide +kernel
theorem dMO_makeKeys_56 : decode cMO_makeKeys 56 = .ok (.lload 8, 2) := by decide +kernel
theorem dMO_makeKeys_58 : decode cMO_makeKeys 58 = .ok (.lastore, 1) := by decide +kernel
theorem dMO_makeKeys_59 : decode cMO_makeKeys 59 = .ok (.iconst 0, 1) := by decide +kernel
theorem dMO_makeKeys_60 : decode cMO_makeKeys 60 = .ok (.istore 12, 2) := by decide +kernel
theorem dMO_makeKeys_62 : decode cMO_makeKeys 62 = .ok (.iload 12, 2) := by decide +kernel
theorem dMO_makeKeys_64 : decode cMO_makeKeys 64 = .ok (.iconst 2, 1) := by decide +kernel
theorem dMO_makeKeys_65 : decode cMO_makeKeys 65 = .ok (.if_icmp .ge 72, 3) := by decide +kernel
theorem dMO_makeKeys_68 : decode cMO_makeKeys 68 = .ok (.aload_n 0, 1) := by decide +kernel
theorem dMO_makeKeys_69 : decode cMO_makeKeys 69 = .ok (.sipush 160, 3) := by decide +kernel
theorem dMO_makeKeys_72 : decode cMO_makeKeys 72 = .ok (.iload 12, 2) := by decide +kernel
theorem dMO_makeKeys_74 : decode cMO_makeKeys 74 = .ok (.imul, 1) := by decide +kernel
theorem dMO_makeKeys_75 : decode cMO_makeKeys 75 = .ok (.aload_n 0, 1) := by decide +kernel
theorem dMO_makeKeys_76 : decode cMO_makeKeys 76 = .ok (.getfield 63, 3) := by decide +kernel
theorem dMO_makeKeys_79 : decode cMO_makeKeys 79 = .ok (.iload 12, 2) := by decide +kernel
theorem dMO_makeKeys_81 : decode cMO_makeKeys 81 = .ok (.laload, 1) := by decide +kernel
theorem dMO_makeKeys_82 : decode cMO_makeKeys 82 = .ok (.invokevirtual 146, 3) := by decide +kernel
theorem dMO_makeKeys_85 : decode cMO_makeKeys 85 = .ok (.aload_n 0, 1) := by decide +kernel
theorem dMO_makeKeys_86 : decode cMO_makeKeys 86 = .ok (.sipush 160, 3) := by decide +kernel
theorem dMO_makeKeys_89 : decode cMO_makeKeys 89 = .ok (.iload 12, 2) := by decide +kernel
theorem dMO_makeKeys_91 : decode cMO_makeKeys 91 = .ok (.imul, 1) := by decide +kernel
theorem dMO_makeKeys_92 : decode cMO_makeKeys 92 = .ok (.bipush 8, 2) := by decide +kernel
theorem dMO_makeKeys_94 : decode cMO_makeKeys 94 = .ok (.iadd, 1) := by decide +kernel
theorem dMO_makeKeys_95 : decode cMO_makeKeys 95 = .ok (.aload_n 0, 1) := by decide +kernel
theorem dMO_makeKeys_96 : decode cMO_makeKeys 96 = .ok (.getfield 66, 3) := by decide +kernel
theorem dMO_makeKeys_99 : decode cMO_makeKeys 99 = .ok (.iload 12, 2) := by decide +kernel
theorem dMO_makeKeys_101 : decode cMO_makeKeys 101 = .ok (.laload, 1) := by decide +kernel
theorem dMO_makeKeys_102 : decode cMO_makeKeys 102 = .ok (.invokevirtual 146, 3) := by decide +kernel
theorem dMO_makeKeys_105 : decode cMO_makeKeys 105 = .ok (.aload_n 0, 1) := by decide +kernel
theorem dMO_makeKeys_106 : decode cMO_makeKeys 106 = .ok (.getfield 69, 3) := by decide +kernel
theorem dMO_makeKeys_109 : decode cMO_makeKeys 109 = .ok (.iload 12, 2) := by decide +kernel
theorem dMO_makeKeys_111 : decode cMO_makeKeys 111 = .ok (.iload 12, 2) := by decide +kernel
theorem dMO_makeKeys_113 : decode cMO_makeKeys 113 = .ok (.iconst 1, 1) := by decide +kernel
theorem dMO_makeKeys_114 : decode cMO_makeKeys 114 = .ok (.if_icmp .ne 7, 3) := by decide +kernel
theorem dMO_makeKeys_117 : decode cMO_makeKeys 117 = .ok (.iconst 1, 1) := by decide +kernel
theorem dMO_makeKeys_118 : decode cMO_makeKeys 118 = .ok (.goto 4, 3) := by decide +kernel
theorem dMO_makeKeys_121 : decode cMO_makeKeys 121 = .ok (.iconst 0, 1) := by decide +kernel
theorem dMO_makeKeys_122 : decode cMO_makeKeys 122 = .ok (.bastore, 1) := by decide +kernel
theorem dMO_makeKeys_123 : decode cMO_makeKeys 123 = .ok (.aload_n 0, 1) := by decide +kernel
theorem dMO_makeKeys_124 : decode cMO_makeKeys 124 = .ok (.getfield 38, 3) := by decide +kernel
theorem dMO_makeKeys_127 : decode cMO_makeKeys 127 = .ok (.iload 12, 2) := by decide +kernel
theorem dMO_makeKeys_129 : decode cMO_makeKeys 129 = .ok (.iconst 1, 1) := by decide +kernel
theorem dMO_makeKeys_130 : decode cMO_makeKeys 130 = .ok (.bastore, 1) := by decide +kernel
theorem dMO_makeKeys_131 : decode cMO_makeKeys 131 = .ok (.iinc 12 1, 3) := by decide +kernel
theorem dMO_makeKeys_134 : decode cMO_makeKeys 134 = .ok (.goto (-72), 3) := by decide +kernel
theorem dMO_makeKeys_137 : decode cMO_makeKeys 137 = .ok (.iconst 0, 1) := by decide +kernel
theorem dMO_makeKeys_138 : decode cMO_makeKeys 138 = .ok (.istore 12, 2) := by decide +kernel
theorem dMO_makeKeys_140 : decode cMO_makeKeys 140 = .ok (.iload 12, 2) := by decide +kernel
theorem dMO_makeKeys_142 : decode cMO_makeKeys 142 = .ok (.bipush 8, 2) := by decide +kernel
theorem dMO_makeKeys_144 : decode cMO_makeKeys 144 = .ok (.if_icmp .ge 24, 3) := by decide +kernel
theorem dMO_makeKeys_147 : decode cMO_makeKeys 147 = .ok (.aload_n 0, 1) := by decide +kernel
theorem dMO_makeKeys_148 : decode cMO_makeKeys 148 = .ok (.iload 12, 2) := by decide +kernel
theorem dMO_makeKeys_150 : decode cMO_makeKeys 150 = .ok (.iload_n 1, 1) := by decide +kernel
theorem dMO_makeKeys_151 : decode cMO_makeKeys 151 = .ok (.bipush 7, 2) := by decide +kernel
theorem dMO_makeKeys_153 : decode cMO_makeKeys 153 = .ok (.iload 12, 2) := by decide +kernel
theorem dMO_makeKeys_155 : decode cMO_makeKeys 155 = .ok (.isub, 1) := by decide +kernel
theorem dMO_makeKeys_156 : decode cMO_makeKeys 156 = .ok (.ishr, 1) := by decide +kernel
theorem dMO_makeKeys_157 : decode cMO_makeKeys 157 = .ok (.iconst 1, 1) := by decide +kernel
theorem dMO_makeKeys_158 : decode cMO_makeKeys 158 = .ok (.iand, 1) := by decide +kernel
theorem dMO_makeKeys_159 : decode cMO_makeKeys 159 = .ok (.invokevirtual 150, 3) := by decide +kernel
theorem dMO_makeKeys_162 : decode cMO_makeKeys 162 = .ok (.iinc 12 1, 3) := by decide +kernel
theorem dMO_makeKeys_165 : decode cMO_makeKeys 165 = .ok (.goto (-25), 3) := by decide +kernel
theorem dMO_makeKeys_168 : decode cMO_makeKeys 168 = .ok (.iconst 0, 1) := by decide +kernel
theorem dMO_makeKeys_169 : decode cMO_makeKeys 169 = .ok (.istore 12, 2) := by decide +kernel
theorem dMO_makeKeys_171 : decode cMO_makeKeys 171 = .ok (.iload 12, 2) := by decide +kernel
theorem dMO_makeKeys_173 : decode cMO_makeKeys 173 = .ok (.iconst 2, 1) := by decide +kernel
theorem dMO_makeKeys_174 : decode cMO_makeKeys 174 = .ok (.if_icmp .ge 39, 3) := by decide +kernel
theorem dMO_makeKeys_177 : decode cMO_makeKeys 177 = .ok (.aload_n 0, 1) := by decide +kernel
theorem dMO_makeKeys_178 : decode cMO_makeKeys 178 = .ok (.sipush 160, 3) := by decide +kernel
theorem dMO_makeKeys_181 : decode cMO_makeKeys 181 = .ok (.iload 12, 2) := by decide +kernel
theorem dMO_makeKeys_183 : decode cMO_makeKeys 183 = .ok (.imul, 1) := by decide +kernel
theorem dMO_makeKeys_184 : decode cMO_makeKeys 184 = .ok (.sipush 152, 3) := by decide +kernel
theorem dMO_makeKeys_187 : decode cMO_makeKeys 187 = .ok (.iadd, 1) := by decide +kernel
theorem dMO_makeKeys_188 : decode cMO_makeKeys 188 = .ok (.lload 10, 2) := by decide +kernel
theorem dMO_makeKeys_190 : decode cMO_makeKeys 190 = .ok (.aload_n 0, 1) := by decide +kernel
theorem dMO_makeKeys_191 : decode cMO_makeKeys 191 = .ok (.getfield 63, 3) := by decide +kernel
theorem dMO_makeKeys_194 : decode cMO_makeKeys 194 = .ok (.iconst 0, 1) := by decide +kernel
theorem dMO_makeKeys_195 : decode cMO_makeKeys 195 = .ok (.laload, 1) := by decide +kernel
theorem dMO_makeKeys_196 : decode cMO_makeKeys 196 = .ok (.lxor, 1) := by decide +kernel
theorem dMO_makeKeys_197 : decode cMO_makeKeys 197 = .ok (.aload_n 0, 1) := by decide +kernel
theorem dMO_makeKeys_198 : decode cMO_makeKeys 198 = .ok (.getfield 63, 3) := by decide +kernel
theorem dMO_makeKeys_201 : decode cMO_makeKeys 201 = .ok (.iconst 1, 1) := by decide +kernel
theorem dMO_makeKeys_202 : decode cMO_makeKeys 202 = .ok (.laload, 1) := by decide +kernel
theorem dMO_makeKeys_203 : decode cMO_makeKeys 203 = .ok (.lxor, 1) := by decide +kernel
theorem dMO_makeKeys_204 : decode cMO_makeKeys 204 = .ok (.invokevirtual 146, 3) := by decide +kernel
theorem dMO_makeKeys_207 : decode cMO_makeKeys 207 = .ok (.iinc 12 1, 3) := by decide +kernel
theorem dMO_makeKeys_210 : decode cMO_makeKeys 210 = .ok (.goto (-39), 3) := by decide +kernel
theorem dMO_makeKeys_213 : decode cMO_makeKeys 213 = .ok (.return_, 1) := by decide +kernel
theorem dMO_setNumber_0 : decode cMO_setNumber 0 = .ok (.iconst 0, 1) := by decide +kernel
theorem dMO_setNumber_1 : decode cMO_setNumber 1 = .ok (.istore 4, 2) := by decide +kernel
theorem dMO_setNumber_3 : decode cMO_setNumber 3 = .ok (.iload 4, 2) := by decide +kernel
theorem dMO_setNumber_5 : decode cMO_setNumber 5 = .ok (.bipush 8, 2) := by decide +kernel
theorem dMO_setNumber_7 : decode cMO_setNumber 7 = .ok (.if_icmp .ge 33, 3) := by decide +kernel
theorem dMO_setNumber_10 : decode cMO_setNumber 10 = .ok (.aload_n 0, 1) := by decide +kernel
theorem dMO_setNumber_11 : decode cMO_setNumber 11 = .ok (.getfield 35, 3) := by decide +kernel
theorem dMO_setNumber_14 : decode cMO_setNumber 14 = .ok (.iload_n 1, 1) := by decide +kernel
theorem dMO_setNumber_15 : decode cMO_setNumber 15 = .ok (.iload 4, 2) := by decide +kernel
theorem dMO_setNumber_17 : decode cMO_setNumber 17 = .ok (.iadd, 1) := by decide +kernel
theorem dMO_setNumber_18 : decode cMO_setNumber 18 = .ok (.lload_n 2, 1) := by decide +kernel
theorem dMO_setNumber_19 : decode cMO_setNumber 19 = .ok (.bipush 56, 2) := by decide +kernel
theorem dMO_setNumber_21 : decode cMO_setNumber 21 = .ok (.bipush 8, 2) := by decide +kernel
theorem dMO_setNumber_23 : decode cMO_setNumber 23 = .ok (.iload 4, 2) := by decide +kernel
theorem dMO_setNumber_25 : decode cMO_setNumber 25 = .ok (.imul, 1) := by decide +kernel
theorem dMO_setNumber_26 : decode cMO_setNumber 26 = .ok (.isub, 1) := by decide +kernel
theorem dMO_setNumber_27 : decode cMO_setNumber 27 = .ok (.lshr, 1) := by decide +kernel
theorem dMO_setNumber_28 : decode cMO_setNumber 28 = .ok (.ldc2_w 91, 3) := by decide +kernel
theorem dMO_setNumber_31 : decode cMO_setNumber 31 = .ok (.land, 1) := by decide +kernel
theorem dMO_setNumber_32 : decode cMO_setNumber 32 = .ok (.l2i, 1) := by decide +kernel
theorem dMO_setNumber_33 : decode cMO_setNumber 33 = .ok (.iastore, 1) := by decide +kernel
theorem dMO_setNumber_34 : decode cMO_setNumber 34 = .ok (.iinc 4 1, 3) := by decide +kernel
theorem dMO_setNumber_37 : decode cMO_setNumber 37 = .ok (.goto (-34), 3) := by decide +kernel
theorem dMO_setNumber_40 : decode cMO_setNumber 40 = .ok (.return_, 1) := by decide +kernel
theorem dMO_level_0 : decode cMO_level 0 = .ok (.aload_n 0, 1) := by decide +kernel
theorem dMO_level_1 : decode cMO_level 1 = .ok (.aload_n 0, 1) := by decide +kernel
theorem dMO_level_2 : decode cMO_level 2 = .ok (.getfield 63, 3) := by decide +kernel
theorem dMO_level_5 : decode cMO_level 5 = .ok (.iconst 0, 1) := by decide +kernel
theorem dMO_level_6 : decode cMO_level 6 = .ok (.laload, 1) := by decide +kernel
theorem dMO_level_7 : decode cMO_level 7 = .ok (.aload_n 0, 1) := by decide +kernel
theorem dMO_level_8 : decode cMO_level 8 = .ok (.getfield 66, 3) := by decide +kernel
theorem dMO_level_11 : decode cMO_level 11 = .ok (.iconst 0, 1) := by decide +kernel
theorem dMO_level_12 : decode cMO_level 12 = .ok (.laload, 1) := by decide +kernel
theorem dMO_level_13 : decode cMO_level 13 = .ok (.iconst 1, 1) := by decide +kernel
theorem dMO_level_14 : decode cMO_level 14 = .ok (.iload_n 2, 1) := by decide +kernel
theorem dMO_level_15 : decode cMO_level 15 = .ok (.isub, 1) := by decide +kernel
theorem dMO_level_16 : decode cMO_level 16 = .ok (.invokevirtual 135, 3) := by decide +kernel
theorem dMO_level_19 : decode cMO_level 19 = .ok (.aload_n 0, 1) := by decide +kernel
theorem dMO_level_20 : decode cMO_level 20 = .ok (.getfield 110, 3) := by decide +kernel
theorem dMO_level_23 : decode cMO_level 23 = .ok (.lstore_n 3, 1) := by decide +kernel
theorem dMO_level_24 : decode cMO_level 24 = .ok (.aload_n 0, 1) := by decide +kernel
theorem dMO_level_25 : decode cMO_level 25 = .ok (.getfield 120, 3) := by decide +kernel
theorem dMO_level_28 : decode cMO_level 28 = .ok (.lstore 5, 2) := by decide +kernel
theorem dMO_level_30 : decode cMO_level 30 = .ok (.aload_n 0, 1) := by decide +kernel
theorem dMO_level_31 : decode cMO_level 31 = .ok (.getfield 114, 3) := by decide +kernel
theorem dMO_level_34 : decode cMO_level 34 = .ok (.istore 7, 2) := by decide +kernel
theorem dMO_level_36 : decode cMO_level 36 = .ok (.aload_n 0, 1) := by decide +kernel
theorem dMO_level_37 : decode cMO_level 37 = .ok (.aload_n 0, 1) := by decide +kernel
theorem dMO_level_38 : decode cMO_level 38 = .ok (.getfield 63, 3) := by decide +kernel
theorem dMO_level_41 : decode cMO_level 41 = .ok (.iconst 1, 1) := by decide +kernel
theorem dMO_level_42 : decode cMO_level 42 = .ok (.laload, 1) := by decide +kernel
theorem dMO_level_43 : decode cMO_level 43 = .ok (.aload_n 0, 1) := by decide +kernel
theorem dMO_level_44 : decode cMO_level 44 = .ok (.getfield 66, 3) := by decide +kernel
theorem dMO_level_47 : decode cMO_level 47 = .ok (.iconst 1, 1) := by decide +kernel
theorem dMO_level_48 : decode cMO_level 48 = .ok (.laload, 1) := by decide +kernel
theorem dMO_level_49 : decode cMO_level 49 = .ok (.iconst 1, 1) := by decide +kernel
theorem dMO_level_50 : decode cMO_level 50 = .ok (.iload_n 2, 1) := by decide +kernel
theorem dMO_level_51 : decode cMO_level 51 = .ok (.isub, 1) := by decide +kernel
theorem dMO_level_52 : decode cMO_level 52 = .ok (.invokevirtual 135, 3) := by decide +kernel
theorem dMO_level_55 : decode cMO_level 55 = .ok (.lload_n 3, 1) := by decide +kernel
theorem dMO_level_56 : decode cMO_level 56 = .ok (.aload_n 0, 1) := by decide +kernel
theorem dMO_level_57 : decode cMO_level 57 = .ok (.getfield 110, 3) := by decide +kernel
theorem dMO_level_60 : decode cMO_level 60 = .ok (.lxor, 1) := by decide +kernel
theorem dMO_level_61 : decode cMO_level 61 = .ok (.lstore_n 3, 1) := by decide +kernel
theorem dMO_level_62 : decode cMO_level 62 = .ok (.lload 5, 2) := by decide +kernel
theorem dMO_level_64 : decode cMO_level 64 = .ok (.aload_n 0, 1) := by decide +kernel
theorem dMO_level_65 : decode cMO_level 65 = .ok (.getfield 120, 3) := by decide +kernel
theorem dMO_level_68 : decode cMO_level 68 = .ok (.lxor, 1) := by decide +kernel
theorem dMO_level_69 : decode cMO_level 69 = .ok (.lstore 5, 2) := by decide +kernel
theorem dMO_level_71 : decode cMO_level 71 = .ok (.iload 7, 2) := by decide +kernel
theorem dMO_level_73 : decode cMO_level 73 = .ok (.aload_n 0, 1) := by decide +kernel
theorem dMO_level_74 : decode cMO_level 74 = .ok (.getfield 114, 3) := by decide +kernel
theorem dMO_level_77 : decode cMO_level 77 = .ok (.if_icmp .eq 7, 3) := by decide +kernel
theorem dMO_level_80 : decode cMO_level 80 = .ok (.iconst 1, 1) := by decide +kernel
theorem dMO_level_81 : decode cMO_level 81 = .ok (.goto 4, 3) := by decide +kernel
theorem dMO_level_84 : decode cMO_level 84 = .ok (.iconst 0, 1) := by decide +kernel
theorem dMO_level_85 : decode cMO_level 85 = .ok (.istore 7, 2) := by decide +kernel
theorem dMO_level_87 : decode cMO_level 87 = .ok (.iconst 1, 1) := by decide +kernel
theorem dMO_level_88 : decode cMO_level 88 = .ok (.istore 8, 2) := by decide +kernel
theorem dMO_level_90 : decode cMO_level 90 = .ok (.iconst 0, 1) := by decide +kernel
theorem dMO_level_91 : decode cMO_level 91 = .ok (.istore 9, 2) := by decide +kernel
theorem dMO_level_93 : decode cMO_level 93 = .ok (.iload 9, 2) := by decide +kernel
theorem dMO_level_95 : decode cMO_level 95 = .ok (.iconst 2, 1) := by decide +kernel
theorem dMO_level_96 : decode cMO_level 96 = .ok (.if_icmp .ge 44, 3) := by decide +kernel
theorem dMO_level_99 : decode cMO_level 99 = .ok (.aload_n 0, 1) := by decide +kernel
theorem dMO_level_100 : decode cMO_level 100 = .ok (.aload_n 0, 1) := by decide +kernel
theorem dMO_level_101 : decode cMO_level 101 = .ok (.getfield 63, 3) := by decide +kernel
theorem dMO_level_104 : decode cMO_level 104 = .ok (.iload 9, 2) := by decide +kernel
theorem dMO_level_106 : decode cMO_level 106 = .ok (.laload, 1) := by decide +kernel
theorem dMO_level_107 : decode cMO_level 107 = .ok (.aload_n 0, 1) := by decide +kernel
theorem dMO_level_108 : decode cMO_level 108 = .ok (.getfield 66, 3) := by decide +kernel
theorem dMO_level_111 : decode cMO_level 111 = .ok (.iload 9, 2) := by decide +kernel
theorem dMO_level_113 : decode cMO_level 113 = .ok (.laload, 1) := by decide +kernel
theorem dMO_level_114 : decode cMO_level 114 = .ok (.iload_n 2, 1) := by decide +kernel
theorem dMO_level_115 : decode cMO_level 115 = .ok (.invokevirtual 135, 3) := by decide +kernel
theorem dMO_level_118 : decode cMO_level 118 = .ok (.iload 8, 2) := by decide +kernel
theorem dMO_level_120 : decode cMO_level 120 = .ok (.aload_n 0, 1) := by decide +kernel
theorem dMO_level_121 : decode cMO_level 121 = .ok (.getfield 114, 3) := by decide +kernel
theorem dMO_level_124 : decode cMO_level 124 = .ok (.if_icmp .eq 7, 3) := by decide +kernel
theorem dMO_level_127 : decode cMO_level 127 = .ok (.iconst 1, 1) := by decide +kernel
theorem dMO_level_128 : decode cMO_level 128 = .ok (.goto 4, 3) := by decide +kernel
theorem dMO_level_131 : decode cMO_level 131 = .ok (.iconst 0, 1) := by decide +kernel
theorem dMO_level_132 : decode cMO_level 132 = .ok (.istore 8, 2) := by decide +kernel
theorem dMO_level_134 : decode cMO_level 134 = .ok (.iinc 9 1, 3) := by decide +kernel
theorem dMO_level_137 : decode cMO_level 137 = .ok (.goto (-44), 3) := by decide +kernel
theorem dMO_level_140 : decode cMO_level 140 = .ok (.iconst 0, 1) := by decide +kernel
theorem dMO_level_141 : decode cMO_level 141 = .ok (.istore 9, 2) := by decide +kernel
theorem dMO_level_143 : decode cMO_level 143 = .ok (.iload 9, 2) := by decide +kernel
theorem dMO_level_145 : decode cMO_level 145 = .ok (.iconst 2, 1) := by decide +kernel
theorem dMO_level_146 : decode cMO_level 146 = .ok (.if_icmp .ge 128, 3) := by decide +kernel
theorem dMO_level_149 : decode cMO_level 149 = .ok (.aload_n 0, 1) := by decide +kernel
theorem dMO_level_150 : decode cMO_level 150 = .ok (.aload_n 0, 1) := by decide +kernel
theorem dMO_level_151 : decode cMO_level 151 = .ok (.getfield 63, 3) := by decide +kernel
theorem dMO_level_154 : decode cMO_level 154 = .ok (.iload 9, 2) := by decide +kernel
theorem dMO_level_156 : decode cMO_level 156 = .ok (.laload, 1) := by decide +kernel
theorem dMO_level_157 : decode cMO_level 157 = .ok (.aload_n 0, 1) := by decide +kernel
theorem dMO_level_158 : decode cMO_level 158 = .ok (.getfield 66, 3) := by decide +kernel
theorem dMO_level_161 : decode cMO_level 161 = .ok (.iload 9, 2) := by decide +kernel
theorem dMO_level_163 : decode cMO_level 163 = .ok (.laload, 1) := by decide +kernel
theorem dMO_level_164 : decode cMO_level 164 = .ok (.iload_n 2, 1) := by decide +kernel
theorem dMO_level_165 : decode cMO_level 165 = .ok (.invokevirtual 135, 3) := by decide +kernel
theorem dMO_level_168 : decode cMO_level 168 = .ok (.aload_n 0, 1) := by decide +kernel
theorem dMO_level_169 : decode cMO_level 169 = .ok (.getfield 63, 3) := by decide +kernel
theorem dMO_level_172 : decode cMO_level 172 = .ok (.iload 9, 2) := by decide +kernel
theorem dMO_level_174 : decode cMO_level 174 = .ok (.aload_n 0, 1) := by decide +kernel
theorem dMO_level_175 : decode cMO_level 175 = .ok (.getfield 69, 3) := by decide +kernel
theorem dMO_level_178 : decode cMO_level 178 = .ok (.iload 9, 2) := by decide +kernel
theorem dMO_level_180 : decode cMO_level 180 = .ok (.baload, 1) := by decide +kernel
theorem dMO_level_181 : decode cMO_level 181 = .ok (.ifCond .eq 12, 3) := by decide +kernel
theorem dMO_level_184 : decode cMO_level 184 = .ok (.aload_n 0, 1) := by decide +kernel
theorem dMO_level_185 : decode cMO_level 185 = .ok (.getfield 110, 3) := by decide +kernel
theorem dMO_level_188 : decode cMO_level 188 = .ok (.lload_n 3, 1) := by decide +kernel
theorem dMO_level_189 : decode cMO_level 189 = .ok (.lxor, 1) := by decide +kernel
theorem dMO_level_190 : decode cMO_level 190 = .ok (.goto 7, 3) := by decide +kernel
theorem dMO_level_193 : decode cMO_level 193 = .ok (.aload_n 0, 1) := by decide +kernel
theorem dMO_level_194 : decode cMO_level 194 = .ok (.getfield 110, 3) := by decide +kernel
theorem dMO_level_197 : decode cMO_level 197 = .ok (.lastore, 1) := by decide +kernel
theorem dMO_level_198 : decode cMO_level 198 = .ok (.aload_n 0, 1) := by decide +kernel
theorem dMO_level_199 : decode cMO_level 199 = .ok (.getfield 66, 3) := by decide +kernel
theorem dMO_level_202 : decode cMO_level 202 = .ok (.iload 9, 2) := by decide +kernel
theorem dMO_level_204 : decode cMO_level 204 = .ok (.aload_n 0, 1) := by decide +kernel
theorem dMO_level_205 : decode cMO_level 205 = .ok (.getfield 69, 3) := by decide +kernel
theorem dMO_level_208 : decode cMO_level 208 = .ok (.iload 9, 2) := by decide +kernel
theorem dMO_level_210 : decode cMO_level 210 = .ok (.baload, 1) := by decide +kernel
theorem dMO_level_211 : decode cMO_level 211 = .ok (.ifCond .eq 13, 3) := by decide +kernel
theorem dMO_level_214 : decode cMO_level 214 = .ok (.aload_n 0, 1) := by decide +kernel
theorem dMO_level_215 : decode cMO_level 215 = .ok (.getfield 120, 3) := by decide +kernel
theorem dMO_level_218 : decode cMO_level 218 = .ok (.lload 5, 2) := by decide +kernel
theorem dMO_level_220 : decode cMO_level 220 = .ok (.lxor, 1) := by decide +kernel
theorem dMO_level_221 : decode cMO_level 221 = .ok (.goto 7, 3) := by decide +kernel
theorem dMO_level_224 : decode cMO_level 224 = .ok (.aload_n 0, 1) := by decide +kernel
theorem dMO_level_225 : decode cMO_level 225 = .ok (.getfield 120, 3) := by decide +kernel
theorem dMO_level_228 : decode cMO_level 228 = .ok (.lastore, 1) := by decide +kernel
theorem dMO_level_229 : decode cMO_level 229 = .ok (.aload_n 0, 1) := by decide +kernel
theorem dMO_level_230 : decode cMO_level 230 = .ok (.getfield 69, 3) := by decide +kernel
theorem dMO_level_233 : decode cMO_level 233 = .ok (.iload 9, 2) := by decide +kernel
theorem dMO_level_235 : decode cMO_level 235 = .ok (.aload_n 0, 1) := by decide +kernel
theorem dMO_level_236 : decode cMO_level 236 = .ok (.getfield 114, 3) := by decide +kernel
theorem dMO_level_239 : decode cMO_level 239 = .ok (.aload_n 0, 1) := by decide +kernel
theorem dMO_level_240 : decode cMO_level 240 = .ok (.getfield 69, 3) := by decide +kernel
theorem dMO_level_243 : decode cMO_level 243 = .ok (.iload 9, 2) := by decide +kernel
theorem dMO_level_245 : decode cMO_level 245 = .ok (.baload, 1) := by decide +kernel
theorem dMO_level_246 : decode cMO_level 246 = .ok (.ifCond .eq 12, 3) := by decide +kernel
theorem dMO_level_249 : decode cMO_level 249 = .ok (.iload 8, 2) := by decide +kernel
theorem dMO_level_251 : decode cMO_level 251 = .ok (.ifCond .eq 7, 3) := by decide +kernel
theorem dMO_level_254 : decode cMO_level 254 = .ok (.iconst 1, 1) := by decide +kernel
theorem dMO_level_255 : decode cMO_level 255 = .ok (.goto 4, 3) := by decide +kernel
theorem dMO_level_258 : decode cMO_level 258 = .ok (.iconst 0, 1) := by decide +kernel
theorem dMO_level_259 : decode cMO_level 259 = .ok (.if_icmp .eq 7, 3) := by decide +kernel
theorem dMO_level_262 : decode cMO_level 262 = .ok (.iconst 1, 1) := by decide +kernel
theorem dMO_level_263 : decode cMO_level 263 = .ok (.goto 4, 3) := by decide +kernel
theorem dMO_level_266 : decode cMO_level 266 = .ok (.iconst 0, 1) := by decide +kernel
theorem dMO_level_267 : decode cMO_level 267 = .ok (.bastore, 1) := by decide +kernel
theorem dMO_level_268 : decode cMO_level 268 = .ok (.iinc 9 1, 3) := by decide +kernel
theorem dMO_level_271 : decode cMO_level 271 = .ok (.goto (-128), 3) := by decide +kernel
theorem dMO_level_274 : decode cMO_level 274 = .ok (.iconst 0, 1) := by decide +kernel
theorem dMO_level_275 : decode cMO_level 275 = .ok (.istore 9, 2) := by decide +kernel
theorem dMO_level_277 : decode cMO_level 277 = .ok (.iload 9, 2) := by decide +kernel
theorem dMO_level_279 : decode cMO_level 279 = .ok (.iconst 2, 1) := by decide +kernel
theorem dMO_level_280 : decode cMO_level 280 = .ok (.if_icmp .ge 80, 3) := by decide +kernel
theorem dMO_level_283 : decode cMO_level 283 = .ok (.sipush 160, 3) := by decide +kernel
theorem dMO_level_286 : decode cMO_level 286 = .ok (.iload 9, 2) := by decide +kernel
theorem dMO_level_288 : decode cMO_level 288 = .ok (.imul, 1) := by decide +kernel
theorem dMO_level_289 : decode cMO_level 289 = .ok (.bipush 16, 2) := by decide +kernel
theorem dMO_level_291 : decode cMO_level 291 = .ok (.iadd, 1) := by decide +kernel
theorem dMO_level_292 : decode cMO_level 292 = .ok (.bipush 17, 2) := by decide +kernel
theorem dMO_level_294 : decode cMO_level 294 = .ok (.iload_n 1, 1) := by decide +kernel
theorem dMO_level_295 : decode cMO_level 295 = .ok (.imul, 1) := by decide +kernel
theorem dMO_level_296 : decode cMO_level 296 = .ok (.iadd, 1) := by decide +kernel
theorem dMO_level_297 : decode cMO_level 297 = .ok (.istore 10, 2) := by decide +kernel
theorem dMO_level_299 : decode cMO_level 299 = .ok (.aload_n 0, 1) := by decide +kernel
theorem dMO_level_300 : decode cMO_level 300 = .ok (.iload 10, 2) := by decide +kernel
theorem dMO_level_302 : decode cMO_level 302 = .ok (.lload_n 3, 1) := by decide +kernel
theorem dMO_level_303 : decode cMO_level 303 = .ok (.invokevirtual 146, 3) := by decide +kernel
theorem dMO_level_306 : decode cMO_level 306 = .ok (.aload_n 0, 1) := by decide +kernel
theorem dMO_level_307 : decode cMO_level 307 = .ok (.iload 10, 2) := by decide +kernel
theorem dMO_level_309 : decode cMO_level 309 = .ok (.bipush 8, 2) := by decide +kernel
theorem dMO_level_311 : decode cMO_level 311 = .ok (.iadd, 1) := by decide +kernel
theorem dMO_level_312 : decode cMO_level 312 = .ok (.lload 5, 2) := by decide +kernel
theorem dMO_level_314 : decode cMO_level 314 = .ok (.invokevirtual 146, 3) := by decide +kernel
theorem dMO_level_317 : decode cMO_level 317 = .ok (.aload_n 0, 1) := by decide +kernel
theorem dMO_level_318 : decode cMO_level 318 = .ok (.getfield 35, 3) := by decide +kernel
theorem dMO_level_321 : decode cMO_level 321 = .ok (.iload 10, 2) := by decide +kernel
theorem dMO_level_323 : decode cMO_level 323 = .ok (.bipush 16, 2) := by decide +kernel
theorem dMO_level_325 : decode cMO_level 325 = .ok (.iadd, 1) := by decide +kernel
theorem dMO_level_326 : decode cMO_level 326 = .ok (.iload 8, 2) := by decide +kernel
theorem dMO_level_328 : decode cMO_level 328 = .ok (.ifCond .eq 9, 3) := by decide +kernel
theorem dMO_level_331 : decode cMO_level 331 = .ok (.iconst 1, 1) := by decide +kernel
theorem dMO_level_332 : decode cMO_level 332 = .ok (.iload_n 2, 1) := by decide +kernel
theorem dMO_level_333 : decode cMO_level 333 = .ok (.ishl, 1) := by decide +kernel
theorem dMO_level_334 : decode cMO_level 334 = .ok (.goto 4, 3) := by decide +kernel
theorem dMO_level_337 : decode cMO_level 337 = .ok (.iconst 0, 1) := by decide +kernel
theorem dMO_level_338 : decode cMO_level 338 = .ok (.iload 7, 2) := by decide +kernel
theorem dMO_level_340 : decode cMO_level 340 = .ok (.ifCond .eq 11, 3) := by decide +kernel
theorem dMO_level_343 : decode cMO_level 343 = .ok (.iconst 1, 1) := by decide +kernel
theorem dMO_level_344 : decode cMO_level 344 = .ok (.iconst 1, 1) := by decide +kernel
theorem dMO_level_345 : decode cMO_level 345 = .ok (.iload_n 2, 1) := by decide +kernel
theorem dMO_level_346 : decode cMO_level 346 = .ok (.isub, 1) := by decide +kernel
theorem dMO_level_347 : decode cMO_level 347 = .ok (.ishl, 1) := by decide +kernel
theorem dMO_level_348 : decode cMO_level 348 = .ok (.goto 4, 3) := by decide +kernel
theorem dMO_level_351 : decode cMO_level 351 = .ok (.iconst 0, 1) := by decide +kernel
theorem dMO_level_352 : decode cMO_level 352 = .ok (.ior, 1) := by decide +kernel
theorem dMO_level_353 : decode cMO_level 353 = .ok (.iastore, 1) := by decide +kernel
theorem dMO_level_354 : decode cMO_level 354 = .ok (.iinc 9 1, 3) := by decide +kernel
theorem dMO_level_357 : decode cMO_level 357 = .ok (.goto (-80), 3) := by decide +kernel
theorem dMO_level_360 : decode cMO_level 360 = .ok (.return_, 1) := by decide +kernel
theorem dMO_half_0 : decode cMO_half 0 = .ok (.aload_n 0, 1) := by decide +kernel
theorem dMO_half_1 : decode cMO_half 1 = .ok (.iload 5, 2) := by decide +kernel
theorem dMO_half_3 : decode cMO_half 3 = .ok (.lload_n 1, 1) := by decide +kernel
theorem dMO_half_4 : decode cMO_half 4 = .ok (.lload_n 3, 1) := by decide +kernel
theorem dMO_half_5 : decode cMO_half 5 = .ok (.invokevirtual 102, 3) := by decide +kernel
theorem dMO_half_8 : decode cMO_half 8 = .ok (.aload_n 0, 1) := by decide +kernel
theorem dMO_half_9 : decode cMO_half 9 = .ok (.lload_n 1, 1) := by decide +kernel
theorem dMO_half_10 : decode cMO_half 10 = .ok (.aload_n 0, 1) := by decide +kernel
theorem dMO_half_11 : decode cMO_half 11 = .ok (.iconst 0, 1) := by decide +kernel
theorem dMO_half_12 : decode cMO_half 12 = .ok (.invokevirtual 106, 3) := by decide +kernel
theorem dMO_half_15 : decode cMO_half 15 = .ok (.lxor, 1) := by decide +kernel
theorem dMO_half_16 : decode cMO_half 16 = .ok (.putfield 110, 3) := by decide +kernel
theorem dMO_half_19 : decode cMO_half 19 = .ok (.lload_n 3, 1) := by decide +kernel
theorem dMO_half_20 : decode cMO_half 20 = .ok (.aload_n 0, 1) := by decide +kernel
theorem dMO_half_21 : decode cMO_half 21 = .ok (.bipush 8, 2) := by decide +kernel
theorem dMO_half_23 : decode cMO_half 23 = .ok (.invokevirtual 106, 3) := by decide +kernel
theorem dMO_half_26 : decode cMO_half 26 = .ok (.lxor, 1) := by decide +kernel
theorem dMO_half_27 : decode cMO_half 27 = .ok (.lstore 6, 2) := by decide +kernel
theorem dMO_half_29 : decode cMO_half 29 = .ok (.aload_n 0, 1) := by decide +kernel
theorem dMO_half_30 : decode cMO_half 30 = .ok (.lload 6, 2) := by decide +kernel
theorem dMO_half_32 : decode cMO_half 32 = .ok (.lconst 1, 1) := by decide +kernel
theorem dMO_half_33 : decode cMO_half 33 = .ok (.land, 1) := by decide +kernel
theorem dMO_half_34 : decode cMO_half 34 = .ok (.lconst 1, 1) := by decide +kernel
theorem dMO_half_35 : decode cMO_half 35 = .ok (.lcmp, 1) := by decide +kernel
theorem dMO_half_36 : decode cMO_half 36 = .ok (.ifCond .ne 7, 3) := by decide +kernel
theorem dMO_half_39 : decode cMO_half 39 = .ok (.iconst 1, 1) := by decide +kernel
theorem dMO_half_40 : decode cMO_half 40 = .ok (.goto 4, 3) := by decide +kernel
theorem dMO_half_43 : decode cMO_half 43 = .ok (.iconst 0, 1) := by decide +kernel
theorem dMO_half_44 : decode cMO_half 44 = .ok (.putfield 114, 3) := by decide +kernel
theorem dMO_half_47 : decode cMO_half 47 = .ok (.aload_n 0, 1) := by decide +kernel
theorem dMO_half_48 : decode cMO_half 48 = .ok (.lload 6, 2) := by decide +kernel
theorem dMO_half_50 : decode cMO_half 50 = .ok (.ldc2_w 118, 3) := by decide +kernel
theorem dMO_half_53 : decode cMO_half 53 = .ok (.land, 1) := by decide +kernel
theorem dMO_half_54 : decode cMO_half 54 = .ok (.putfield 120, 3) := by decide +kernel
theorem dMO_half_57 : decode cMO_half 57 = .ok (.return_, 1) := by decide +kernel
theorem dMO_encipher_0 : decode cMO_encipher 0 = .ok (.iconst 0, 1) := by decide +kernel
theorem dMO_encipher_1 : decode cMO_encipher 1 = .ok (.istore 6, 2) := by decide +kernel
theorem dMO_encipher_3 : decode cMO_encipher 3 = .ok (.iload 6, 2) := by decide +kernel
theorem dMO_encipher_5 : decode cMO_encipher 5 = .ok (.bipush 8, 2) := by decide +kernel
theorem dMO_encipher_7 : decode cMO_encipher 7 = .ok (.if_icmp .ge 57, 3) := by decide +kernel
theorem dMO_encipher_10 : decode cMO_encipher 10 = .ok (.aload_n 0, 1) := by decide +kernel
theorem dMO_encipher_11 : decode cMO_encipher 11 = .ok (.getfield 57, 3) := by decide +kernel
theorem dMO_encipher_14 : decode cMO_encipher 14 = .ok (.iload 6, 2) := by decide +kernel
theorem dMO_encipher_16 : decode cMO_encipher 16 = .ok (.lload_n 2, 1) := by decide +kernel
theorem dMO_encipher_17 : decode cMO_encipher 17 = .ok (.bipush 56, 2) := by decide +kernel
theorem dMO_encipher_19 : decode cMO_encipher 19 = .ok (.bipush 8, 2) := by decide +kernel
theorem dMO_encipher_21 : decode cMO_encipher 21 = .ok (.iload 6, 2) := by decide +kernel
theorem dMO_encipher_23 : decode cMO_encipher 23 = .ok (.imul, 1) := by decide +kernel
theorem dMO_encipher_24 : decode cMO_encipher 24 = .ok (.isub, 1) := by decide +kernel
theorem dMO_encipher_25 : decode cMO_encipher 25 = .ok (.lshr, 1) := by decide +kernel
theorem dMO_encipher_26 : decode cMO_encipher 26 = .ok (.ldc2_w 91, 3) := by decide +kernel
theorem dMO_encipher_29 : decode cMO_encipher 29 = .ok (.land, 1) := by decide +kernel
theorem dMO_encipher_30 : decode cMO_encipher 30 = .ok (.l2i, 1) := by decide +kernel
theorem dMO_encipher_31 : decode cMO_encipher 31 = .ok (.iastore, 1) := by decide +kernel
theorem dMO_encipher_32 : decode cMO_encipher 32 = .ok (.aload_n 0, 1) := by decide +kernel
theorem dMO_encipher_33 : decode cMO_encipher 33 = .ok (.getfield 57, 3) := by decide +kernel
theorem dMO_encipher_36 : decode cMO_encipher 36 = .ok (.bipush 8, 2) := by decide +kernel
theorem dMO_encipher_38 : decode cMO_encipher 38 = .ok (.iload 6, 2) := by decide +kernel
theorem dMO_encipher_40 : decode cMO_encipher 40 = .ok (.iadd, 1) := by decide +kernel
theorem dMO_encipher_41 : decode cMO_encipher 41 = .ok (.lload 4, 2) := by decide +kernel
theorem dMO_encipher_43 : decode cMO_encipher 43 = .ok (.bipush 56, 2) := by decide +kernel
theorem dMO_encipher_45 : decode cMO_encipher 45 = .ok (.bipush 8, 2) := by decide +kernel
theorem dMO_encipher_47 : decode cMO_encipher 47 = .ok (.iload 6, 2) := by decide +kernel
theorem dMO_encipher_49 : decode cMO_encipher 49 = .ok (.imul, 1) := by decide +kernel
theorem dMO_encipher_50 : decode cMO_encipher 50 = .ok (.isub, 1) := by decide +kernel
theorem dMO_encipher_51 : decode cMO_encipher 51 = .ok (.lshr, 1) := by decide +kernel
theorem dMO_encipher_52 : decode cMO_encipher 52 = .ok (.ldc2_w 91, 3) := by decide +kernel
theorem dMO_encipher_55 : decode cMO_encipher 55 = .ok (.land, 1) := by decide +kernel
theorem dMO_encipher_56 : decode cMO_encipher 56 = .ok (.l2i, 1) := by decide +kernel
theorem dMO_encipher_57 : decode cMO_encipher 57 = .ok (.iastore, 1) := by decide +kernel
theorem dMO_encipher_58 : decode cMO_encipher 58 = .ok (.iinc 6 1, 3) := by decide +kernel
theorem dMO_encipher_61 : decode cMO_encipher 61 = .ok (.goto (-58), 3) := by decide +kernel
theorem dMO_encipher_64 : decode cMO_encipher 64 = .ok (.aload_n 0, 1) := by decide +kernel
theorem dMO_encipher_65 : decode cMO_encipher 65 = .ok (.sipush 176, 3) := by decide +kernel
theorem dMO_encipher_68 : decode cMO_encipher 68 = .ok (.iload_n 1, 1) := by decide +kernel
theorem dMO_encipher_69 : decode cMO_encipher 69 = .ok (.imul, 1) := by decide +kernel
theorem dMO_encipher_70 : decode cMO_encipher 70 = .ok (.invokevirtual 93, 3) := by decide +kernel
theorem dMO_encipher_73 : decode cMO_encipher 73 = .ok (.iconst 1, 1) := by decide +kernel
theorem dMO_encipher_74 : decode cMO_encipher 74 = .ok (.istore 6, 2) := by decide +kernel
theorem dMO_encipher_76 : decode cMO_encipher 76 = .ok (.iload 6, 2) := by decide +kernel
theorem dMO_encipher_78 : decode cMO_encipher 78 = .ok (.bipush 10, 2) := by decide +kernel
theorem dMO_encipher_80 : decode cMO_encipher 80 = .ok (.if_icmp .gt 39, 3) := by decide +kernel
theorem dMO_encipher_83 : decode cMO_encipher 83 = .ok (.aload_n 0, 1) := by decide +kernel
theorem dMO_encipher_84 : decode cMO_encipher 84 = .ok (.invokevirtual 96, 3) := by decide +kernel
theorem dMO_encipher_87 : decode cMO_encipher 87 = .ok (.iload 6, 2) := by decide +kernel
theorem dMO_encipher_89 : decode cMO_encipher 89 = .ok (.bipush 10, 2) := by decide +kernel
theorem dMO_encipher_91 : decode cMO_encipher 91 = .ok (.if_icmp .ge 7, 3) := by decide +kernel
theorem dMO_encipher_94 : decode cMO_encipher 94 = .ok (.aload_n 0, 1) := by decide +kernel
theorem dMO_encipher_95 : decode cMO_encipher 95 = .ok (.invokevirtual 99, 3) := by decide +kernel
theorem dMO_encipher_98 : decode cMO_encipher 98 = .ok (.aload_n 0, 1) := by decide +kernel
theorem dMO_encipher_99 : decode cMO_encipher 99 = .ok (.sipush 176, 3) := by decide +kernel
theorem dMO_encipher_102 : decode cMO_encipher 102 = .ok (.iload_n 1, 1) := by decide +kernel
theorem dMO_encipher_103 : decode cMO_encipher 103 = .ok (.imul, 1) := by decide +kernel
theorem dMO_encipher_104 : decode cMO_encipher 104 = .ok (.bipush 16, 2) := by decide +kernel
theorem dMO_encipher_106 : decode cMO_encipher 106 = .ok (.iload 6, 2) := by decide +kernel
theorem dMO_encipher_108 : decode cMO_encipher 108 = .ok (.imul, 1) := by decide +kernel
theorem dMO_encipher_109 : decode cMO_encipher 109 = .ok (.iadd, 1) := by decide +kernel
theorem dMO_encipher_110 : decode cMO_encipher 110 = .ok (.invokevirtual 93, 3) := by decide +kernel
theorem dMO_encipher_113 : decode cMO_encipher 113 = .ok (.iinc 6 1, 3) := by decide +kernel
theorem dMO_encipher_116 : decode cMO_encipher 116 = .ok (.goto (-40), 3) := by decide +kernel
theorem dMO_encipher_119 : decode cMO_encipher 119 = .ok (.return_, 1) := by decide +kernel
theorem dMO_addWords_0 : decode cMO_addWords 0 = .ok (.iconst 0, 1) := by decide +kernel
theorem dMO_addWords_1 : decode cMO_addWords 1 = .ok (.istore_n 2, 1) := by decide +kernel
theorem dMO_addWords_2 : decode cMO_addWords 2 = .ok (.iload_n 2, 1) := by decide +kernel
theorem dMO_addWords_3 : decode cMO_addWords 3 = .ok (.bipush 16, 2) := by decide +kernel
theorem dMO_addWords_5 : decode cMO_addWords 5 = .ok (.if_icmp .ge 26, 3) := by decide +kernel
theorem dMO_addWords_8 : decode cMO_addWords 8 = .ok (.aload_n 0, 1) := by decide +kernel
theorem dMO_addWords_9 : decode cMO_addWords 9 = .ok (.getfield 57, 3) := by decide +kernel
theorem dMO_addWords_12 : decode cMO_addWords 12 = .ok (.iload_n 2, 1) := by decide +kernel
theorem dMO_addWords_13 : decode cMO_addWords 13 = .ok (.dup2, 1) := by decide +kernel
theorem dMO_addWords_14 : decode cMO_addWords 14 = .ok (.iaload, 1) := by decide +kernel
theorem dMO_addWords_15 : decode cMO_addWords 15 = .ok (.aload_n 0, 1) := by decide +kernel
theorem dMO_addWords_16 : decode cMO_addWords 16 = .ok (.getfield 54, 3) := by decide +kernel
theorem dMO_addWords_19 : decode cMO_addWords 19 = .ok (.iload_n 1, 1) := by decide +kernel
theorem dMO_addWords_20 : decode cMO_addWords 20 = .ok (.iload_n 2, 1) := by decide +kernel
theorem dMO_addWords_21 : decode cMO_addWords 21 = .ok (.iadd, 1) := by decide +kernel
theorem dMO_addWords_22 : decode cMO_addWords 22 = .ok (.iaload, 1) := by decide +kernel
theorem dMO_addWords_23 : decode cMO_addWords 23 = .ok (.ixor, 1) := by decide +kernel
theorem dMO_addWords_24 : decode cMO_addWords 24 = .ok (.iastore, 1) := by decide +kernel
theorem dMO_addWords_25 : decode cMO_addWords 25 = .ok (.iinc 2 1, 3) := by decide +kernel
theorem dMO_addWords_28 : decode cMO_addWords 28 = .ok (.goto (-26), 3) := by decide +kernel
theorem dMO_addWords_31 : decode cMO_addWords 31 = .ok (.return_, 1) := by decide +kernel
theorem dMO_substitute_0 : decode cMO_substitute 0 = .ok (.iconst 0, 1) := by decide +kernel
theorem dMO_substitute_1 : decode cMO_substitute 1 = .ok (.istore_n 1, 1) := by decide +kernel
theorem dMO_substitute_2 : decode cMO_substitute 2 = .ok (.iload_n 1, 1) := by decide +kernel
theorem dMO_substitute_3 : decode cMO_substitute 3 = .ok (.iconst 4, 1) := by decide +kernel
theorem dMO_substitute_4 : decode cMO_substitute 4 = .ok (.if_icmp .ge 51, 3) := by decide +kernel
theorem dMO_substitute_7 : decode cMO_substitute 7 = .ok (.iconst 0, 1) := by decide +kernel
theorem dMO_substitute_8 : decode cMO_substitute 8 = .ok (.istore_n 2, 1) := by decide +kernel
theorem dMO_substitute_9 : decode cMO_substitute 9 = .ok (.iload_n 2, 1) := by decide +kernel
theorem dMO_substitute_10 : decode cMO_substitute 10 = .ok (.iconst 4, 1) := by decide +kernel
theorem dMO_substitute_11 : decode cMO_substitute 11 = .ok (.if_icmp .ge 38, 3) := by decide +kernel
theorem dMO_substitute_14 : decode cMO_substitute 14 = .ok (.aload_n 0, 1) := by decide +kernel
theorem dMO_substitute_15 : decode cMO_substitute 15 = .ok (.getfield 60, 3) := by decide +kernel
theorem dMO_substitute_18 : decode cMO_substitute 18 = .ok (.iconst 4, 1) := by decide +kernel
theorem dMO_substitute_19 : decode cMO_substitute 19 = .ok (.iload_n 1, 1) := by decide +kernel
theorem dMO_substitute_20 : decode cMO_substitute 20 = .ok (.imul, 1) := by decide +kernel
theorem dMO_substitute_21 : decode cMO_substitute 21 = .ok (.iload_n 2, 1) := by decide +kernel
theorem dMO_substitute_22 : decode cMO_substitute 22 = .ok (.iadd, 1) := by decide +kernel
theorem dMO_substitute_23 : decode cMO_substitute 23 = .ok (.aload_n 0, 1) := by decide +kernel
theorem dMO_substitute_24 : decode cMO_substitute 24 = .ok (.getfield 48, 3) := by decide +kernel
theorem dMO_substitute_27 : decode cMO_substitute 27 = .ok (.aload_n 0, 1) := by decide +kernel
theorem dMO_substitute_28 : decode cMO_substitute 28 = .ok (.getfield 57, 3) := by decide +kernel
theorem dMO_substitute_31 : decode cMO_substitute 31 = .ok (.iconst 4, 1) := by decide +kernel
theorem dMO_substitute_32 : decode cMO_substitute 32 = .ok (.iload_n 1, 1) := by decide +kernel
theorem dMO_substitute_33 : decode cMO_substitute 33 = .ok (.iload_n 2, 1) := by decide +kernel
theorem dMO_substitute_34 : decode cMO_substitute 34 = .ok (.iadd, 1) := by decide +kernel
theorem dMO_substitute_35 : decode cMO_substitute 35 = .ok (.iconst 4, 1) := by decide +kernel
theorem dMO_substitute_36 : decode cMO_substitute 36 = .ok (.irem, 1) := by decide +kernel
theorem dMO_substitute_37 : decode cMO_substitute 37 = .ok (.imul, 1) := by decide +kernel
theorem dMO_substitute_38 : decode cMO_substitute 38 = .ok (.iload_n 2, 1) := by decide +kernel
theorem dMO_substitute_39 : decode cMO_substitute 39 = .ok (.iadd, 1) := by decide +kernel
theorem dMO_substitute_40 : decode cMO_substitute 40 = .ok (.iaload, 1) := by decide +kernel
theorem dMO_substitute_41 : decode cMO_substitute 41 = .ok (.iaload, 1) := by decide +kernel
theorem dMO_substitute_42 : decode cMO_substitute 42 = .ok (.iastore, 1) := by decide +kernel
theorem dMO_substitute_43 : decode cMO_substitute 43 = .ok (.iinc 2 1, 3) := by decide +kernel
theorem dMO_substitute_46 : decode cMO_substitute 46 = .ok (.goto (-37), 3) := by decide +kernel
theorem dMO_substitute_49 : decode cMO_substitute 49 = .ok (.iinc 1 1, 3) := by decide +kernel
theorem dMO_substitute_52 : decode cMO_substitute 52 = .ok (.goto (-50), 3) := by decide +kernel
theorem dMO_substitute_55 : decode cMO_substitute 55 = .ok (.iconst 0, 1) := by decide +kernel
theorem dMO_substitute_56 : decode cMO_substitute 56 = .ok (.istore_n 1, 1) := by decide +kernel
theorem dMO_substitute_57 : decode cMO_substitute 57 = .ok (.iload_n 1, 1) := by decide +kernel
theorem dMO_substitute_58 : decode cMO_substitute 58 = .ok (.bipush 16, 2) := by decide +kernel
theorem dMO_substitute_60 : decode cMO_substitute 60 = .ok (.if_icmp .ge 21, 3) := by decide +kernel
theorem dMO_substitute_63 : decode cMO_substitute 63 = .ok (.aload_n 0, 1) := by decide +kernel
theorem dMO_substitute_64 : decode cMO_substitute 64 = .ok (.getfield 57, 3) := by decide +kernel
theorem dMO_substitute_67 : decode cMO_substitute 67 = .ok (.iload_n 1, 1) := by decide +kernel
theorem dMO_substitute_68 : decode cMO_substitute 68 = .ok (.aload_n 0, 1) := by decide +kernel
theorem dMO_substitute_69 : decode cMO_substitute 69 = .ok (.getfield 60, 3) := by decide +kernel
theorem dMO_substitute_72 : decode cMO_substitute 72 = .ok (.iload_n 1, 1) := by decide +kernel
theorem dMO_substitute_73 : decode cMO_substitute 73 = .ok (.iaload, 1) := by decide +kernel
theorem dMO_substitute_74 : decode cMO_substitute 74 = .ok (.iastore, 1) := by decide +kernel
theorem dMO_substitute_75 : decode cMO_substitute 75 = .ok (.iinc 1 1, 3) := by decide +kernel
theorem dMO_substitute_78 : decode cMO_substitute 78 = .ok (.goto (-21), 3) := by decide +kernel
theorem dMO_substitute_81 : decode cMO_substitute 81 = .ok (.return_, 1) := by decide +kernel
theorem dMO_columns_0 : decode cMO_columns 0 = .ok (.iconst 0, 1) := by decide +kernel
theorem dMO_columns_1 : decode cMO_columns 1 = .ok (.istore_n 1, 1) := by decide +kernel
theorem dMO_columns_2 : decode cMO_columns 2 = .ok (.iload_n 1, 1) := by decide +kernel
theorem dMO_columns_3 : decode cMO_columns 3 = .ok (.bipush 16, 2) := by decide +kernel
theorem dMO_columns_5 : decode cMO_columns 5 = .ok (.if_icmp .ge 80, 3) := by decide +kernel
theorem dMO_columns_8 : decode cMO_columns 8 = .ok (.iload_n 1, 1) := by decide +kernel
theorem dMO_columns_9 : decode cMO_columns 9 = .ok (.iconst 4, 1) := by decide +kernel
theorem dMO_columns_10 : decode cMO_columns 10 = .ok (.idiv, 1) := by decide +kernel
theorem dMO_columns_11 : decode cMO_columns 11 = .ok (.iconst 4, 1) := by decide +kernel
theorem dMO_columns_12 : decode cMO_columns 12 = .ok (.imul, 1) := by decide +kernel
theorem dMO_columns_13 : decode cMO_columns 13 = .ok (.istore_n 2, 1) := by decide +kernel
theorem dMO_columns_14 : decode cMO_columns 14 = .ok (.aload_n 0, 1) := by decide +kernel
theorem dMO_columns_15 : decode cMO_columns 15 = .ok (.getfield 57, 3) := by decide +kernel
theorem dMO_columns_18 : decode cMO_columns 18 = .ok (.iload_n 2, 1) := by decide +kernel
theorem dMO_columns_19 : decode cMO_columns 19 = .ok (.iload_n 1, 1) := by decide +kernel
theorem dMO_columns_20 : decode cMO_columns 20 = .ok (.iconst 1, 1) := by decide +kernel
theorem dMO_columns_21 : decode cMO_columns 21 = .ok (.iadd, 1) := by decide +kernel
theorem dMO_columns_22 : decode cMO_columns 22 = .ok (.iconst 4, 1) := by decide +kernel
theorem dMO_columns_23 : decode cMO_columns 23 = .ok (.irem, 1) := by decide +kernel
theorem dMO_columns_24 : decode cMO_columns 24 = .ok (.iadd, 1) := by decide +kernel
theorem dMO_columns_25 : decode cMO_columns 25 = .ok (.iaload, 1) := by decide +kernel
theorem dMO_columns_26 : decode cMO_columns 26 = .ok (.istore_n 3, 1) := by decide +kernel
theorem dMO_columns_27 : decode cMO_columns 27 = .ok (.aload_n 0, 1) := by decide +kernel
theorem dMO_columns_28 : decode cMO_columns 28 = .ok (.getfield 60, 3) := by decide +kernel
theorem dMO_columns_31 : decode cMO_columns 31 = .ok (.iload_n 1, 1) := by decide +kernel
theorem dMO_columns_32 : decode cMO_columns 32 = .ok (.aload_n 0, 1) := by decide +kernel
theorem dMO_columns_33 : decode cMO_columns 33 = .ok (.getfield 51, 3) := by decide +kernel
theorem dMO_columns_36 : decode cMO_columns 36 = .ok (.aload_n 0, 1) := by decide +kernel
theorem dMO_columns_37 : decode cMO_columns 37 = .ok (.getfield 57, 3) := by decide +kernel
theorem dMO_columns_40 : decode cMO_columns 40 = .ok (.iload_n 1, 1) := by decide +kernel
theorem dMO_columns_41 : decode cMO_columns 41 = .ok (.iaload, 1) := by decide +kernel
theorem dMO_columns_42 : decode cMO_columns 42 = .ok (.iaload, 1) := by decide +kernel
theorem dMO_columns_43 : decode cMO_columns 43 = .ok (.aload_n 0, 1) := by decide +kernel
theorem dMO_columns_44 : decode cMO_columns 44 = .ok (.getfield 51, 3) := by decide +kernel
theorem dMO_columns_47 : decode cMO_columns 47 = .ok (.iload_n 3, 1) := by decide +kernel
theorem dMO_columns_48 : decode cMO_columns 48 = .ok (.iaload, 1) := by decide +kernel
theorem dMO_columns_49 : decode cMO_columns 49 = .ok (.ixor, 1) := by decide +kernel
theorem dMO_columns_50 : decode cMO_columns 50 = .ok (.iload_n 3, 1) := by decide +kernel
theorem dMO_columns_51 : decode cMO_columns 51 = .ok (.ixor, 1) := by decide +kernel
theorem dMO_columns_52 : decode cMO_columns 52 = .ok (.aload_n 0, 1) := by decide +kernel
theorem dMO_columns_53 : decode cMO_columns 53 = .ok (.getfield 57, 3) := by decide +kernel
theorem dMO_columns_56 : decode cMO_columns 56 = .ok (.iload_n 2, 1) := by decide +kernel
theorem dMO_columns_57 : decode cMO_columns 57 = .ok (.iload_n 1, 1) := by decide +kernel
theorem dMO_columns_58 : decode cMO_columns 58 = .ok (.iconst 2, 1) := by decide +kernel
theorem dMO_columns_59 : decode cMO_columns 59 = .ok (.iadd, 1) := by decide +kernel
theorem dMO_columns_60 : decode cMO_columns 60 = .ok (.iconst 4, 1) := by decide +kernel
theorem dMO_columns_61 : decode cMO_columns 61 = .ok (.irem, 1) := by decide +kernel
theorem dMO_columns_62 : decode cMO_columns 62 = .ok (.iadd, 1) := by decide +kernel
theorem dMO_columns_63 : decode cMO_columns 63 = .ok (.iaload, 1) := by decide +kernel
theorem dMO_columns_64 : decode cMO_columns 64 = .ok (.ixor, 1) := by decide +kernel
theorem dMO_columns_65 : decode cMO_columns 65 = .ok (.aload_n 0, 1) := by decide +kernel
theorem dMO_columns_66 : decode cMO_columns 66 = .ok (.getfield 57, 3) := by decide +kernel
theorem dMO_columns_69 : decode cMO_columns 69 = .ok (.iload_n 2, 1) := by decide +kernel
theorem dMO_columns_70 : decode cMO_columns 70 = .ok (.iload_n 1, 1) := by decide +kernel
theorem dMO_columns_71 : decode cMO_columns 71 = .ok (.iconst 3, 1) := by decide +kernel
theorem dMO_columns_72 : decode cMO_columns 72 = .ok (.iadd, 1) := by decide +kernel
theorem dMO_columns_73 : decode cMO_columns 73 = .ok (.iconst 4, 1) := by decide +kernel
theorem dMO_columns_74 : decode cMO_columns 74 = .ok (.irem, 1) := by decide +kernel
theorem dMO_columns_75 : decode cMO_columns 75 = .ok (.iadd, 1) := by decide +kernel
theorem dMO_columns_76 : decode cMO_columns 76 = .ok (.iaload, 1) := by decide +kernel
theorem dMO_columns_77 : decode cMO_columns 77 = .ok (.ixor, 1) := by decide +kernel
theorem dMO_columns_78 : decode cMO_columns 78 = .ok (.iastore, 1) := by decide +kernel
theorem dMO_columns_79 : decode cMO_columns 79 = .ok (.iinc 1 1, 3) := by decide +kernel
theorem dMO_columns_82 : decode cMO_columns 82 = .ok (.goto (-80), 3) := by decide +kernel
theorem dMO_columns_85 : decode cMO_columns 85 = .ok (.iconst 0, 1) := by decide +kernel
theorem dMO_columns_86 : decode cMO_columns 86 = .ok (.istore_n 1, 1) := by decide +kernel
theorem dMO_columns_87 : decode cMO_columns 87 = .ok (.iload_n 1, 1) := by decide +kernel
theorem dMO_columns_88 : decode cMO_columns 88 = .ok (.bipush 16, 2) := by decide +kernel
theorem dMO_columns_90 : decode cMO_columns 90 = .ok (.if_icmp .ge 21, 3) := by decide +kernel
theorem dMO_columns_93 : decode cMO_columns 93 = .ok (.aload_n 0, 1) := by decide +kernel
theorem dMO_columns_94 : decode cMO_columns 94 = .ok (.getfield 57, 3) := by decide +kernel
theorem dMO_columns_97 : decode cMO_columns 97 = .ok (.iload_n 1, 1) := by decide +kernel
theorem dMO_columns_98 : decode cMO_columns 98 = .ok (.aload_n 0, 1) := by decide +kernel
theorem dMO_columns_99 : decode cMO_columns 99 = .ok (.getfield 60, 3) := by decide +kernel
theorem dMO_columns_102 : decode cMO_columns 102 = .ok (.iload_n 1, 1) := by decide +kernel
theorem dMO_columns_103 : decode cMO_columns 103 = .ok (.iaload, 1) := by decide +kernel
theorem dMO_columns_104 : decode cMO_columns 104 = .ok (.iastore, 1) := by decide +kernel
theorem dMO_columns_105 : decode cMO_columns 105 = .ok (.iinc 1 1, 3) := by decide +kernel
theorem dMO_columns_108 : decode cMO_columns 108 = .ok (.goto (-21), 3) := by decide +kernel
theorem dMO_columns_111 : decode cMO_columns 111 = .ok (.return_, 1) := by decide +kernel
theorem dMO_blockHalf_0 : decode cMO_blockHalf 0 = .ok (.lconst 0, 1) := by decide +kernel
theorem dMO_blockHalf_1 : decode cMO_blockHalf 1 = .ok (.lstore_n 2, 1) := by decide +kernel
theorem dMO_blockHalf_2 : decode cMO_blockHalf 2 = .ok (.iconst 0, 1) := by decide +kernel
theorem dMO_blockHalf_3 : decode cMO_blockHalf 3 = .ok (.istore 4, 2) := by decide +kernel
theorem dMO_blockHalf_5 : decode cMO_blockHalf 5 = .ok (.iload 4, 2) := by decide +kernel
theorem dMO_blockHalf_7 : decode cMO_blockHalf 7 = .ok (.bipush 8, 2) := by decide +kernel
theorem dMO_blockHalf_9 : decode cMO_blockHalf 9 = .ok (.if_icmp .ge 25, 3) := by decide +kernel
theorem dMO_blockHalf_12 : decode cMO_blockHalf 12 = .ok (.lload_n 2, 1) := by decide +kernel
theorem dMO_blockHalf_13 : decode cMO_blockHalf 13 = .ok (.bipush 8, 2) := by decide +kernel
theorem dMO_blockHalf_15 : decode cMO_blockHalf 15 = .ok (.lshl, 1) := by decide +kernel
theorem dMO_blockHalf_16 : decode cMO_blockHalf 16 = .ok (.aload_n 0, 1) := by decide +kernel
theorem dMO_blockHalf_17 : decode cMO_blockHalf 17 = .ok (.getfield 57, 3) := by decide +kernel
theorem dMO_blockHalf_20 : decode cMO_blockHalf 20 = .ok (.iload_n 1, 1) := by decide +kernel
theorem dMO_blockHalf_21 : decode cMO_blockHalf 21 = .ok (.iload 4, 2) := by decide +kernel
theorem dMO_blockHalf_23 : decode cMO_blockHalf 23 = .ok (.iadd, 1) := by decide +kernel
theorem dMO_blockHalf_24 : decode cMO_blockHalf 24 = .ok (.iaload, 1) := by decide +kernel
theorem dMO_blockHalf_25 : decode cMO_blockHalf 25 = .ok (.i2l, 1) := by decide +kernel
theorem dMO_blockHalf_26 : decode cMO_blockHalf 26 = .ok (.lor, 1) := by decide +kernel
theorem dMO_blockHalf_27 : decode cMO_blockHalf 27 = .ok (.lstore_n 2, 1) := by decide +kernel
theorem dMO_blockHalf_28 : decode cMO_blockHalf 28 = .ok (.iinc 4 1, 3) := by decide +kernel
theorem dMO_blockHalf_31 : decode cMO_blockHalf 31 = .ok (.goto (-26), 3) := by decide +kernel
theorem dMO_blockHalf_34 : decode cMO_blockHalf 34 = .ok (.lload_n 2, 1) := by decide +kernel
theorem dMO_blockHalf_35 : decode cMO_blockHalf 35 = .ok (.lreturn, 1) := by decide +kernel
theorem dMO_keyByte_0 : decode cMO_keyByte 0 = .ok (.aload_n 0, 1) := by decide +kernel
theorem dMO_keyByte_1 : decode cMO_keyByte 1 = .ok (.iload_n 1, 1) := by decide +kernel
theorem dMO_keyByte_2 : decode cMO_keyByte 2 = .ok (.iload_n 2, 1) := by decide +kernel
theorem dMO_keyByte_3 : decode cMO_keyByte 3 = .ok (.invokestatic 153, 3) := by decide +kernel
theorem dMO_keyByte_6 : decode cMO_keyByte 6 = .ok (.ifCond .eq 7, 3) := by decide +kernel
theorem dMO_keyByte_9 : decode cMO_keyByte 9 = .ok (.iconst 0, 1) := by decide +kernel
theorem dMO_keyByte_10 : decode cMO_keyByte 10 = .ok (.goto 4, 3) := by decide +kernel
theorem dMO_keyByte_13 : decode cMO_keyByte 13 = .ok (.iconst 1, 1) := by decide +kernel
theorem dMO_keyByte_14 : decode cMO_keyByte 14 = .ok (.putfield 87, 3) := by decide +kernel
theorem dMO_keyByte_17 : decode cMO_keyByte 17 = .ok (.aload_n 0, 1) := by decide +kernel
theorem dMO_keyByte_18 : decode cMO_keyByte 18 = .ok (.getfield 87, 3) := by decide +kernel
theorem dMO_keyByte_21 : decode cMO_keyByte 21 = .ok (.ifCond .le 7, 3) := by decide +kernel
theorem dMO_keyByte_24 : decode cMO_keyByte 24 = .ok (.iconst 0, 1) := by decide +kernel
theorem dMO_keyByte_25 : decode cMO_keyByte 25 = .ok (.goto 15, 3) := by decide +kernel
theorem dMO_keyByte_28 : decode cMO_keyByte 28 = .ok (.aload_n 0, 1) := by decide +kernel
theorem dMO_keyByte_29 : decode cMO_keyByte 29 = .ok (.getfield 35, 3) := by decide +kernel
theorem dMO_keyByte_32 : decode cMO_keyByte 32 = .ok (.sipush 160, 3) := by decide +kernel
theorem dMO_keyByte_35 : decode cMO_keyByte 35 = .ok (.iload_n 1, 1) := by decide +kernel
theorem dMO_keyByte_36 : decode cMO_keyByte 36 = .ok (.imul, 1) := by decide +kernel
theorem dMO_keyByte_37 : decode cMO_keyByte 37 = .ok (.iload_n 2, 1) := by decide +kernel
theorem dMO_keyByte_38 : decode cMO_keyByte 38 = .ok (.iadd, 1) := by decide +kernel
theorem dMO_keyByte_39 : decode cMO_keyByte 39 = .ok (.iaload, 1) := by decide +kernel
theorem dMO_keyByte_40 : decode cMO_keyByte 40 = .ok (.ireturn, 1) := by decide +kernel
theorem dMO_isByte_0 : decode cMO_isByte 0 = .ok (.iload_n 0, 1) := by decide +kernel
theorem dMO_isByte_1 : decode cMO_isByte 1 = .ok (.ifCond .lt 23, 3) := by decide +kernel
theorem dMO_isByte_4 : decode cMO_isByte 4 = .ok (.iload_n 0, 1) := by decide +kernel
theorem dMO_isByte_5 : decode cMO_isByte 5 = .ok (.iconst 2, 1) := by decide +kernel
theorem dMO_isByte_6 : decode cMO_isByte 6 = .ok (.if_icmp .ge 18, 3) := by decide +kernel
theorem dMO_isByte_9 : decode cMO_isByte 9 = .ok (.iload_n 1, 1) := by decide +kernel
theorem dMO_isByte_10 : decode cMO_isByte 10 = .ok (.ifCond .lt 14, 3) := by decide +kernel
theorem dMO_isByte_13 : decode cMO_isByte 13 = .ok (.iload_n 1, 1) := by decide +kernel
theorem dMO_isByte_14 : decode cMO_isByte 14 = .ok (.sipush 160, 3) := by decide +kernel
theorem dMO_isByte_17 : decode cMO_isByte 17 = .ok (.if_icmp .ge 7, 3) := by decide +kernel
theorem dMO_isByte_20 : decode cMO_isByte 20 = .ok (.iconst 1, 1) := by decide +kernel
theorem dMO_isByte_21 : decode cMO_isByte 21 = .ok (.goto 4, 3) := by decide +kernel
theorem dMO_isByte_24 : decode cMO_isByte 24 = .ok (.iconst 0, 1) := by decide +kernel
theorem dMO_isByte_25 : decode cMO_isByte 25 = .ok (.ireturn, 1) := by decide +kernel
theorem dMO_setKeyByte_0 : decode cMO_setKeyByte 0 = .ok (.aload_n 0, 1) := by decide +kernel
theorem dMO_setKeyByte_1 : decode cMO_setKeyByte 1 = .ok (.iload_n 1, 1) := by decide +kernel
theorem dMO_setKeyByte_2 : decode cMO_setKeyByte 2 = .ok (.iload_n 2, 1) := by decide +kernel
theorem dMO_setKeyByte_3 : decode cMO_setKeyByte 3 = .ok (.invokestatic 153, 3) := by decide +kernel
theorem dMO_setKeyByte_6 : decode cMO_setKeyByte 6 = .ok (.ifCond .eq 7, 3) := by decide +kernel
theorem dMO_setKeyByte_9 : decode cMO_setKeyByte 9 = .ok (.iconst 0, 1) := by decide +kernel
theorem dMO_setKeyByte_10 : decode cMO_setKeyByte 10 = .ok (.goto 4, 3) := by decide +kernel
theorem dMO_setKeyByte_13 : decode cMO_setKeyByte 13 = .ok (.iconst 1, 1) := by decide +kernel
theorem dMO_setKeyByte_14 : decode cMO_setKeyByte 14 = .ok (.putfield 87, 3) := by decide +kernel
theorem dMO_setKeyByte_17 : decode cMO_setKeyByte 17 = .ok (.aload_n 0, 1) := by decide +kernel
theorem dMO_setKeyByte_18 : decode cMO_setKeyByte 18 = .ok (.getfield 87, 3) := by decide +kernel
theorem dMO_setKeyByte_21 : decode cMO_setKeyByte 21 = .ok (.ifCond .le 4, 3) := by decide +kernel
theorem dMO_setKeyByte_24 : decode cMO_setKeyByte 24 = .ok (.return_, 1) := by decide +kernel
theorem dMO_setKeyByte_25 : decode cMO_setKeyByte 25 = .ok (.aload_n 0, 1) := by decide +kernel
theorem dMO_setKeyByte_26 : decode cMO_setKeyByte 26 = .ok (.getfield 35, 3) := by decide +kernel
theorem dMO_setKeyByte_29 : decode cMO_setKeyByte 29 = .ok (.sipush 160, 3) := by decide +kernel
theorem dMO_setKeyByte_32 : decode cMO_setKeyByte 32 = .ok (.iload_n 1, 1) := by decide +kernel
theorem dMO_setKeyByte_33 : decode cMO_setKeyByte 33 = .ok (.imul, 1) := by decide +kernel
theorem dMO_setKeyByte_34 : decode cMO_setKeyByte 34 = .ok (.iload_n 2, 1) := by decide +kernel
theorem dMO_setKeyByte_35 : decode cMO_setKeyByte 35 = .ok (.iadd, 1) := by decide +kernel
theorem dMO_setKeyByte_36 : decode cMO_setKeyByte 36 = .ok (.iload_n 3, 1) := by decide +kernel
theorem dMO_setKeyByte_37 : decode cMO_setKeyByte 37 = .ok (.sipush 255, 3) := by decide +kernel
theorem dMO_setKeyByte_40 : decode cMO_setKeyByte 40 = .ok (.iand, 1) := by decide +kernel
theorem dMO_setKeyByte_41 : decode cMO_setKeyByte 41 = .ok (.iastore, 1) := by decide +kernel
theorem dMO_setKeyByte_42 : decode cMO_setKeyByte 42 = .ok (.aload_n 0, 1) := by decide +kernel
theorem dMO_setKeyByte_43 : decode cMO_setKeyByte 43 = .ok (.getfield 38, 3) := by decide +kernel
theorem dMO_setKeyByte_46 : decode cMO_setKeyByte 46 = .ok (.iload_n 1, 1) := by decide +kernel
theorem dMO_setKeyByte_47 : decode cMO_setKeyByte 47 = .ok (.iconst 1, 1) := by decide +kernel
theorem dMO_setKeyByte_48 : decode cMO_setKeyByte 48 = .ok (.bastore, 1) := by decide +kernel
theorem dMO_setKeyByte_49 : decode cMO_setKeyByte 49 = .ok (.return_, 1) := by decide +kernel
theorem dMO_choice_0 : decode cMO_choice 0 = .ok (.aload_n 0, 1) := by decide +kernel
theorem dMO_choice_1 : decode cMO_choice 1 = .ok (.aload_n 0, 1) := by decide +kernel
theorem dMO_choice_2 : decode cMO_choice 2 = .ok (.iload_n 1, 1) := by decide +kernel
theorem dMO_choice_3 : decode cMO_choice 3 = .ok (.iload_n 2, 1) := by decide +kernel
theorem dMO_choice_4 : decode cMO_choice 4 = .ok (.invokevirtual 161, 3) := by decide +kernel
theorem dMO_choice_7 : decode cMO_choice 7 = .ok (.putfield 87, 3) := by decide +kernel
theorem dMO_choice_10 : decode cMO_choice 10 = .ok (.aload_n 0, 1) := by decide +kernel
theorem dMO_choice_11 : decode cMO_choice 11 = .ok (.getfield 87, 3) := by decide +kernel
theorem dMO_choice_14 : decode cMO_choice 14 = .ok (.ifCond .le 5, 3) := by decide +kernel
theorem dMO_choice_17 : decode cMO_choice 17 = .ok (.iconst 0, 1) := by decide +kernel
theorem dMO_choice_18 : decode cMO_choice 18 = .ok (.ireturn, 1) := by decide +kernel
theorem dMO_choice_19 : decode cMO_choice 19 = .ok (.aload_n 0, 1) := by decide +kernel
theorem dMO_choice_20 : decode cMO_choice 20 = .ok (.iload_n 1, 1) := by decide +kernel
theorem dMO_choice_21 : decode cMO_choice 21 = .ok (.iload_n 2, 1) := by decide +kernel
theorem dMO_choice_22 : decode cMO_choice 22 = .ok (.invokevirtual 139, 3) := by decide +kernel
theorem dMO_choice_25 : decode cMO_choice 25 = .ok (.aload_n 0, 1) := by decide +kernel
theorem dMO_choice_26 : decode cMO_choice 26 = .ok (.getfield 132, 3) := by decide +kernel
theorem dMO_choice_29 : decode cMO_choice 29 = .ok (.ireturn, 1) := by decide +kernel
theorem dMO_keyFault_0 : decode cMO_keyFault 0 = .ok (.iload_n 1, 1) := by decide +kernel
theorem dMO_keyFault_1 : decode cMO_keyFault 1 = .ok (.ifCond .lt 19, 3) := by decide +kernel
theorem dMO_keyFault_4 : decode cMO_keyFault 4 = .ok (.iload_n 1, 1) := by decide +kernel
theorem dMO_keyFault_5 : decode cMO_keyFault 5 = .ok (.iconst 1, 1) := by decide +kernel
theorem dMO_keyFault_6 : decode cMO_keyFault 6 = .ok (.if_icmp .gt 14, 3) := by decide +kernel
theorem dMO_keyFault_9 : decode cMO_keyFault 9 = .ok (.iload_n 2, 1) := by decide +kernel
theorem dMO_keyFault_10 : decode cMO_keyFault 10 = .ok (.ifCond .lt 10, 3) := by decide +kernel
theorem dMO_keyFault_13 : decode cMO_keyFault 13 = .ok (.iload_n 2, 1) := by decide +kernel
theorem dMO_keyFault_14 : decode cMO_keyFault 14 = .ok (.sipush 256, 3) := by decide +kernel
theorem dMO_keyFault_17 : decode cMO_keyFault 17 = .ok (.if_icmp .lt 5, 3) := by decide +kernel
theorem dMO_keyFault_20 : decode cMO_keyFault 20 = .ok (.iconst 1, 1) := by decide +kernel
theorem dMO_keyFault_21 : decode cMO_keyFault 21 = .ok (.ireturn, 1) := by decide +kernel
theorem dMO_keyFault_22 : decode cMO_keyFault 22 = .ok (.aload_n 0, 1) := by decide +kernel
theorem dMO_keyFault_23 : decode cMO_keyFault 23 = .ok (.iload_n 1, 1) := by decide +kernel
theorem dMO_keyFault_24 : decode cMO_keyFault 24 = .ok (.invokevirtual 157, 3) := by decide +kernel
theorem dMO_keyFault_27 : decode cMO_keyFault 27 = .ok (.ifCond .eq 7, 3) := by decide +kernel
theorem dMO_keyFault_30 : decode cMO_keyFault 30 = .ok (.iconst 0, 1) := by decide +kernel
theorem dMO_keyFault_31 : decode cMO_keyFault 31 = .ok (.goto 4, 3) := by decide +kernel
theorem dMO_keyFault_34 : decode cMO_keyFault 34 = .ok (.iconst 2, 1) := by decide +kernel
theorem dMO_keyFault_35 : decode cMO_keyFault 35 = .ok (.ireturn, 1) := by decide +kernel
theorem dMO_isGood_0 : decode cMO_isGood 0 = .ok (.iconst 1, 1) := by decide +kernel
theorem dMO_isGood_1 : decode cMO_isGood 1 = .ok (.istore_n 2, 1) := by decide +kernel
theorem dMO_isGood_2 : decode cMO_isGood 2 = .ok (.iconst 0, 1) := by decide +kernel
theorem dMO_isGood_3 : decode cMO_isGood 3 = .ok (.istore_n 3, 1) := by decide +kernel
theorem dMO_isGood_4 : decode cMO_isGood 4 = .ok (.iload_n 3, 1) := by decide +kernel
theorem dMO_isGood_5 : decode cMO_isGood 5 = .ok (.bipush 8, 2) := by decide +kernel
theorem dMO_isGood_7 : decode cMO_isGood 7 = .ok (.if_icmp .ge 63, 3) := by decide +kernel
theorem dMO_isGood_10 : decode cMO_isGood 10 = .ok (.sipush 160, 3) := by decide +kernel
theorem dMO_isGood_13 : decode cMO_isGood 13 = .ok (.iload_n 1, 1) := by decide +kernel
theorem dMO_isGood_14 : decode cMO_isGood 14 = .ok (.imul, 1) := by decide +kernel
theorem dMO_isGood_15 : decode cMO_isGood 15 = .ok (.bipush 16, 2) := by decide +kernel
theorem dMO_isGood_17 : decode cMO_isGood 17 = .ok (.iadd, 1) := by decide +kernel
theorem dMO_isGood_18 : decode cMO_isGood 18 = .ok (.bipush 17, 2) := by decide +kernel
theorem dMO_isGood_20 : decode cMO_isGood 20 = .ok (.iload_n 3, 1) := by decide +kernel
theorem dMO_isGood_21 : decode cMO_isGood 21 = .ok (.imul, 1) := by decide +kernel
theorem dMO_isGood_22 : decode cMO_isGood 22 = .ok (.iadd, 1) := by decide +kernel
theorem dMO_isGood_23 : decode cMO_isGood 23 = .ok (.istore 4, 2) := by decide +kernel
theorem dMO_isGood_25 : decode cMO_isGood 25 = .ok (.iload_n 2, 1) := by decide +kernel
theorem dMO_isGood_26 : decode cMO_isGood 26 = .ok (.ifCond .eq 36, 3) := by decide +kernel
theorem dMO_isGood_29 : decode cMO_isGood 29 = .ok (.aload_n 0, 1) := by decide +kernel
theorem dMO_isGood_30 : decode cMO_isGood 30 = .ok (.getfield 35, 3) := by decide +kernel
theorem dMO_isGood_33 : decode cMO_isGood 33 = .ok (.iload 4, 2) := by decide +kernel
theorem dMO_isGood_35 : decode cMO_isGood 35 = .ok (.bipush 16, 2) := by decide +kernel
theorem dMO_isGood_37 : decode cMO_isGood 37 = .ok (.iadd, 1) := by decide +kernel
theorem dMO_isGood_38 : decode cMO_isGood 38 = .ok (.iaload, 1) := by decide +kernel
theorem dMO_isGood_39 : decode cMO_isGood 39 = .ok (.iconst 4, 1) := by decide +kernel
theorem dMO_isGood_40 : decode cMO_isGood 40 = .ok (.if_icmp .ge 22, 3) := by decide +kernel
theorem dMO_isGood_43 : decode cMO_isGood 43 = .ok (.aload_n 0, 1) := by decide +kernel
theorem dMO_isGood_44 : decode cMO_isGood 44 = .ok (.getfield 35, 3) := by decide +kernel
theorem dMO_isGood_47 : decode cMO_isGood 47 = .ok (.iload 4, 2) := by decide +kernel
theorem dMO_isGood_49 : decode cMO_isGood 49 = .ok (.bipush 15, 2) := by decide +kernel
theorem dMO_isGood_51 : decode cMO_isGood 51 = .ok (.iadd, 1) := by decide +kernel
theorem dMO_isGood_52 : decode cMO_isGood 52 = .ok (.iaload, 1) := by decide +kernel
theorem dMO_isGood_53 : decode cMO_isGood 53 = .ok (.iconst 2, 1) := by decide +kernel
theorem dMO_isGood_54 : decode cMO_isGood 54 = .ok (.irem, 1) := by decide +kernel
theorem dMO_isGood_55 : decode cMO_isGood 55 = .ok (.ifCond .ne 7, 3) := by decide +kernel
theorem dMO_isGood_58 : decode cMO_isGood 58 = .ok (.iconst 1, 1) := by decide +kernel
theorem dMO_isGood_59 : decode cMO_isGood 59 = .ok (.goto 4, 3) := by decide +kernel
theorem dMO_isGood_62 : decode cMO_isGood 62 = .ok (.iconst 0, 1) := by decide +kernel
theorem dMO_isGood_63 : decode cMO_isGood 63 = .ok (.istore_n 2, 1) := by decide +kernel
theorem dMO_isGood_64 : decode cMO_isGood 64 = .ok (.iinc 3 1, 3) := by decide +kernel
theorem dMO_isGood_67 : decode cMO_isGood 67 = .ok (.goto (-63), 3) := by decide +kernel
theorem dMO_isGood_70 : decode cMO_isGood 70 = .ok (.iload_n 2, 1) := by decide +kernel
theorem dMO_isGood_71 : decode cMO_isGood 71 = .ok (.ireturn, 1) := by decide +kernel
theorem dMO_walk_0 : decode cMO_walk 0 = .ok (.sipush 160, 3) := by decide +kernel
theorem dMO_walk_3 : decode cMO_walk 3 = .ok (.iload_n 1, 1) := by decide +kernel
theorem dMO_walk_4 : decode cMO_walk 4 = .ok (.imul, 1) := by decide +kernel
theorem dMO_walk_5 : decode cMO_walk 5 = .ok (.istore_n 3, 1) := by decide +kernel
theorem dMO_walk_6 : decode cMO_walk 6 = .ok (.aload_n 0, 1) := by decide +kernel
theorem dMO_walk_7 : decode cMO_walk 7 = .ok (.aload_n 0, 1) := by decide +kernel
theorem dMO_walk_8 : decode cMO_walk 8 = .ok (.iload_n 3, 1) := by decide +kernel
theorem dMO_walk_9 : decode cMO_walk 9 = .ok (.invokevirtual 123, 3) := by decide +kernel
theorem dMO_walk_12 : decode cMO_walk 12 = .ok (.putfield 126, 3) := by decide +kernel
theorem dMO_walk_15 : decode cMO_walk 15 = .ok (.aload_n 0, 1) := by decide +kernel
theorem dMO_walk_16 : decode cMO_walk 16 = .ok (.aload_n 0, 1) := by decide +kernel
theorem dMO_walk_17 : decode cMO_walk 17 = .ok (.iload_n 3, 1) := by decide +kernel
theorem dMO_walk_18 : decode cMO_walk 18 = .ok (.bipush 8, 2) := by decide +kernel
theorem dMO_walk_20 : decode cMO_walk 20 = .ok (.iadd, 1) := by decide +kernel
theorem dMO_walk_21 : decode cMO_walk 21 = .ok (.invokevirtual 123, 3) := by decide +kernel
theorem dMO_walk_24 : decode cMO_walk 24 = .ok (.putfield 129, 3) := by decide +kernel
theorem dMO_walk_27 : decode cMO_walk 27 = .ok (.aload_n 0, 1) := by decide +kernel
theorem dMO_walk_28 : decode cMO_walk 28 = .ok (.iload_n 1, 1) := by decide +kernel
theorem dMO_walk_29 : decode cMO_walk 29 = .ok (.iconst 1, 1) := by decide +kernel
theorem dMO_walk_30 : decode cMO_walk 30 = .ok (.if_icmp .ne 7, 3) := by decide +kernel
theorem dMO_walk_33 : decode cMO_walk 33 = .ok (.iconst 1, 1) := by decide +kernel
theorem dMO_walk_34 : decode cMO_walk 34 = .ok (.goto 4, 3) := by decide +kernel
theorem dMO_walk_37 : decode cMO_walk 37 = .ok (.iconst 0, 1) := by decide +kernel
theorem dMO_walk_38 : decode cMO_walk 38 = .ok (.putfield 132, 3) := by decide +kernel
theorem dMO_walk_41 : decode cMO_walk 41 = .ok (.iconst 0, 1) := by decide +kernel
theorem dMO_walk_42 : decode cMO_walk 42 = .ok (.istore 4, 2) := by decide +kernel
theorem dMO_walk_44 : decode cMO_walk 44 = .ok (.iload 4, 2) := by decide +kernel
theorem dMO_walk_46 : decode cMO_walk 46 = .ok (.bipush 8, 2) := by decide +kernel
theorem dMO_walk_48 : decode cMO_walk 48 = .ok (.if_icmp .ge 166, 3) := by decide +kernel
theorem dMO_walk_51 : decode cMO_walk 51 = .ok (.iload_n 2, 1) := by decide +kernel
theorem dMO_walk_52 : decode cMO_walk 52 = .ok (.bipush 7, 2) := by decide +kernel
theorem dMO_walk_54 : decode cMO_walk 54 = .ok (.iload 4, 2) := by decide +kernel
theorem dMO_walk_56 : decode cMO_walk 56 = .ok (.isub, 1) := by decide +kernel
theorem dMO_walk_57 : decode cMO_walk 57 = .ok (.ishr, 1) := by decide +kernel
theorem dMO_walk_58 : decode cMO_walk 58 = .ok (.iconst 1, 1) := by decide +kernel
theorem dMO_walk_59 : decode cMO_walk 59 = .ok (.iand, 1) := by decide +kernel
theorem dMO_walk_60 : decode cMO_walk 60 = .ok (.istore 5, 2) := by decide +kernel
theorem dMO_walk_62 : decode cMO_walk 62 = .ok (.iload_n 3, 1) := by decide +kernel
theorem dMO_walk_63 : decode cMO_walk 63 = .ok (.bipush 16, 2) := by decide +kernel
theorem dMO_walk_65 : decode cMO_walk 65 = .ok (.iadd, 1) := by decide +kernel
theorem dMO_walk_66 : decode cMO_walk 66 = .ok (.bipush 17, 2) := by decide +kernel
theorem dMO_walk_68 : decode cMO_walk 68 = .ok (.iload 4, 2) := by decide +kernel
theorem dMO_walk_70 : decode cMO_walk 70 = .ok (.imul, 1) := by decide +kernel
theorem dMO_walk_71 : decode cMO_walk 71 = .ok (.iadd, 1) := by decide +kernel
theorem dMO_walk_72 : decode cMO_walk 72 = .ok (.istore 6, 2) := by decide +kernel
theorem dMO_walk_74 : decode cMO_walk 74 = .ok (.aload_n 0, 1) := by decide +kernel
theorem dMO_walk_75 : decode cMO_walk 75 = .ok (.aload_n 0, 1) := by decide +kernel
theorem dMO_walk_76 : decode cMO_walk 76 = .ok (.getfield 126, 3) := by decide +kernel
theorem dMO_walk_79 : decode cMO_walk 79 = .ok (.aload_n 0, 1) := by decide +kernel
theorem dMO_walk_80 : decode cMO_walk 80 = .ok (.getfield 129, 3) := by decide +kernel
theorem dMO_walk_83 : decode cMO_walk 83 = .ok (.iload 5, 2) := by decide +kernel
theorem dMO_walk_85 : decode cMO_walk 85 = .ok (.invokevirtual 135, 3) := by decide +kernel
theorem dMO_walk_88 : decode cMO_walk 88 = .ok (.aload_n 0, 1) := by decide +kernel
theorem dMO_walk_89 : decode cMO_walk 89 = .ok (.getfield 35, 3) := by decide +kernel
theorem dMO_walk_92 : decode cMO_walk 92 = .ok (.iload 6, 2) := by decide +kernel
theorem dMO_walk_94 : decode cMO_walk 94 = .ok (.bipush 16, 2) := by decide +kernel
theorem dMO_walk_96 : decode cMO_walk 96 = .ok (.iadd, 1) := by decide +kernel
theorem dMO_walk_97 : decode cMO_walk 97 = .ok (.iaload, 1) := by decide +kernel
theorem dMO_walk_98 : decode cMO_walk 98 = .ok (.iload 5, 2) := by decide +kernel
theorem dMO_walk_100 : decode cMO_walk 100 = .ok (.ishr, 1) := by decide +kernel
theorem dMO_walk_101 : decode cMO_walk 101 = .ok (.iconst 1, 1) := by decide +kernel
theorem dMO_walk_102 : decode cMO_walk 102 = .ok (.iand, 1) := by decide +kernel
theorem dMO_walk_103 : decode cMO_walk 103 = .ok (.iconst 1, 1) := by decide +kernel
theorem dMO_walk_104 : decode cMO_walk 104 = .ok (.if_icmp .ne 7, 3) := by decide +kernel
theorem dMO_walk_107 : decode cMO_walk 107 = .ok (.iconst 1, 1) := by decide +kernel
theorem dMO_walk_108 : decode cMO_walk 108 = .ok (.goto 4, 3) := by decide +kernel
theorem dMO_walk_111 : decode cMO_walk 111 = .ok (.iconst 0, 1) := by decide +kernel
theorem dMO_walk_112 : decode cMO_walk 112 = .ok (.istore 7, 2) := by decide +kernel
theorem dMO_walk_114 : decode cMO_walk 114 = .ok (.aload_n 0, 1) := by decide +kernel
theorem dMO_walk_115 : decode cMO_walk 115 = .ok (.aload_n 0, 1) := by decide +kernel
theorem dMO_walk_116 : decode cMO_walk 116 = .ok (.getfield 132, 3) := by decide +kernel
theorem dMO_walk_119 : decode cMO_walk 119 = .ok (.ifCond .eq 17, 3) := by decide +kernel
theorem dMO_walk_122 : decode cMO_walk 122 = .ok (.aload_n 0, 1) := by decide +kernel
theorem dMO_walk_123 : decode cMO_walk 123 = .ok (.getfield 110, 3) := by decide +kernel
theorem dMO_walk_126 : decode cMO_walk 126 = .ok (.aload_n 0, 1) := by decide +kernel
theorem dMO_walk_127 : decode cMO_walk 127 = .ok (.iload 6, 2) := by decide +kernel
theorem dMO_walk_129 : decode cMO_walk 129 = .ok (.invokevirtual 123, 3) := by decide +kernel
theorem dMO_walk_132 : decode cMO_walk 132 = .ok (.lxor, 1) := by decide +kernel
theorem dMO_walk_133 : decode cMO_walk 133 = .ok (.goto 7, 3) := by decide +kernel
theorem dMO_walk_136 : decode cMO_walk 136 = .ok (.aload_n 0, 1) := by decide +kernel
theorem dMO_walk_137 : decode cMO_walk 137 = .ok (.getfield 110, 3) := by decide +kernel
theorem dMO_walk_140 : decode cMO_walk 140 = .ok (.putfield 126, 3) := by decide +kernel
theorem dMO_walk_143 : decode cMO_walk 143 = .ok (.aload_n 0, 1) := by decide +kernel
theorem dMO_walk_144 : decode cMO_walk 144 = .ok (.aload_n 0, 1) := by decide +kernel
theorem dMO_walk_145 : decode cMO_walk 145 = .ok (.getfield 132, 3) := by decide +kernel
theorem dMO_walk_148 : decode cMO_walk 148 = .ok (.ifCond .eq 20, 3) := by decide +kernel
theorem dMO_walk_151 : decode cMO_walk 151 = .ok (.aload_n 0, 1) := by decide +kernel
theorem dMO_walk_152 : decode cMO_walk 152 = .ok (.getfield 120, 3) := by decide +kernel
theorem dMO_walk_155 : decode cMO_walk 155 = .ok (.aload_n 0, 1) := by decide +kernel
theorem dMO_walk_156 : decode cMO_walk 156 = .ok (.iload 6, 2) := by decide +kernel
theorem dMO_walk_158 : decode cMO_walk 158 = .ok (.bipush 8, 2) := by decide +kernel
theorem dMO_walk_160 : decode cMO_walk 160 = .ok (.iadd, 1) := by decide +kernel
theorem dMO_walk_161 : decode cMO_walk 161 = .ok (.invokevirtual 123, 3) := by decide +kernel
theorem dMO_walk_164 : decode cMO_walk 164 = .ok (.lxor, 1) := by decide +kernel
theorem dMO_walk_165 : decode cMO_walk 165 = .ok (.goto 7, 3) := by decide +kernel
theorem dMO_walk_168 : decode cMO_walk 168 = .ok (.aload_n 0, 1) := by decide +kernel
theorem dMO_walk_169 : decode cMO_walk 169 = .ok (.getfield 120, 3) := by decide +kernel
theorem dMO_walk_172 : decode cMO_walk 172 = .ok (.putfield 129, 3) := by decide +kernel
theorem dMO_walk_175 : decode cMO_walk 175 = .ok (.aload_n 0, 1) := by decide +kernel
theorem dMO_walk_176 : decode cMO_walk 176 = .ok (.aload_n 0, 1) := by decide +kernel
theorem dMO_walk_177 : decode cMO_walk 177 = .ok (.getfield 114, 3) := by decide +kernel
theorem dMO_walk_180 : decode cMO_walk 180 = .ok (.aload_n 0, 1) := by decide +kernel
theorem dMO_walk_181 : decode cMO_walk 181 = .ok (.getfield 132, 3) := by decide +kernel
theorem dMO_walk_184 : decode cMO_walk 184 = .ok (.ifCond .eq 12, 3) := by decide +kernel
theorem dMO_walk_187 : decode cMO_walk 187 = .ok (.iload 7, 2) := by decide +kernel
theorem dMO_walk_189 : decode cMO_walk 189 = .ok (.ifCond .eq 7, 3) := by decide +kernel
theorem dMO_walk_192 : decode cMO_walk 192 = .ok (.iconst 1, 1) := by decide +kernel
theorem dMO_walk_193 : decode cMO_walk 193 = .ok (.goto 4, 3) := by decide +kernel
theorem dMO_walk_196 : decode cMO_walk 196 = .ok (.iconst 0, 1) := by decide +kernel
theorem dMO_walk_197 : decode cMO_walk 197 = .ok (.if_icmp .eq 7, 3) := by decide +kernel
theorem dMO_walk_200 : decode cMO_walk 200 = .ok (.iconst 1, 1) := by decide +kernel
theorem dMO_walk_201 : decode cMO_walk 201 = .ok (.goto 4, 3) := by decide +kernel
theorem dMO_walk_204 : decode cMO_walk 204 = .ok (.iconst 0, 1) := by decide +kernel
theorem dMO_walk_205 : decode cMO_walk 205 = .ok (.putfield 132, 3) := by decide +kernel
theorem dMO_walk_208 : decode cMO_walk 208 = .ok (.iinc 4 1, 3) := by decide +kernel
theorem dMO_walk_211 : decode cMO_walk 211 = .ok (.goto (-167), 3) := by decide +kernel
theorem dMO_walk_214 : decode cMO_walk 214 = .ok (.return_, 1) := by decide +kernel
theorem dMO_number_0 : decode cMO_number 0 = .ok (.lconst 0, 1) := by decide +kernel
theorem dMO_number_1 : decode cMO_number 1 = .ok (.lstore_n 2, 1) := by decide +kernel
theorem dMO_number_2 : decode cMO_number 2 = .ok (.iconst 0, 1) := by decide +kernel
theorem dMO_number_3 : decode cMO_number 3 = .ok (.istore 4, 2) := by decide +kernel
theorem dMO_number_5 : decode cMO_number 5 = .ok (.iload 4, 2) := by decide +kernel
theorem dMO_number_7 : decode cMO_number 7 = .ok (.bipush 8, 2) := by decide +kernel
theorem dMO_number_9 : decode cMO_number 9 = .ok (.if_icmp .ge 25, 3) := by decide +kernel
theorem dMO_number_12 : decode cMO_number 12 = .ok (.lload_n 2, 1) := by decide +kernel
theorem dMO_number_13 : decode cMO_number 13 = .ok (.bipush 8, 2) := by decide +kernel
theorem dMO_number_15 : decode cMO_number 15 = .ok (.lshl, 1) := by decide +kernel
theorem dMO_number_16 : decode cMO_number 16 = .ok (.aload_n 0, 1) := by decide +kernel
theorem dMO_number_17 : decode cMO_number 17 = .ok (.getfield 35, 3) := by decide +kernel
theorem dMO_number_20 : decode cMO_number 20 = .ok (.iload_n 1, 1) := by decide +kernel
theorem dMO_number_21 : decode cMO_number 21 = .ok (.iload 4, 2) := by decide +kernel
theorem dMO_number_23 : decode cMO_number 23 = .ok (.iadd, 1) := by decide +kernel
theorem dMO_number_24 : decode cMO_number 24 = .ok (.iaload, 1) := by decide +kernel
theorem dMO_number_25 : decode cMO_number 25 = .ok (.i2l, 1) := by decide +kernel
theorem dMO_number_26 : decode cMO_number 26 = .ok (.lor, 1) := by decide +kernel
theorem dMO_number_27 : decode cMO_number 27 = .ok (.lstore_n 2, 1) := by decide +kernel
theorem dMO_number_28 : decode cMO_number 28 = .ok (.iinc 4 1, 3) := by decide +kernel
theorem dMO_number_31 : decode cMO_number 31 = .ok (.goto (-26), 3) := by decide +kernel
theorem dMO_number_34 : decode cMO_number 34 = .ok (.lload_n 2, 1) := by decide +kernel
theorem dMO_number_35 : decode cMO_number 35 = .ok (.lreturn, 1) := by decide +kernel
theorem dMO_share_0 : decode cMO_share 0 = .ok (.aload_n 0, 1) := by decide +kernel
theorem dMO_share_1 : decode cMO_share 1 = .ok (.aload_n 0, 1) := by decide +kernel
theorem dMO_share_2 : decode cMO_share 2 = .ok (.iload_n 1, 1) := by decide +kernel
theorem dMO_share_3 : decode cMO_share 3 = .ok (.iload_n 2, 1) := by decide +kernel
theorem dMO_share_4 : decode cMO_share 4 = .ok (.invokevirtual 161, 3) := by decide +kernel
theorem dMO_share_7 : decode cMO_share 7 = .ok (.putfield 87, 3) := by decide +kernel
theorem dMO_share_10 : decode cMO_share 10 = .ok (.aload_n 0, 1) := by decide +kernel
theorem dMO_share_11 : decode cMO_share 11 = .ok (.getfield 87, 3) := by decide +kernel
theorem dMO_share_14 : decode cMO_share 14 = .ok (.ifCond .le 5, 3) := by decide +kernel
theorem dMO_share_17 : decode cMO_share 17 = .ok (.lconst 0, 1) := by decide +kernel
theorem dMO_share_18 : decode cMO_share 18 = .ok (.lreturn, 1) := by decide +kernel
theorem dMO_share_19 : decode cMO_share 19 = .ok (.aload_n 0, 1) := by decide +kernel
theorem dMO_share_20 : decode cMO_share 20 = .ok (.iload_n 1, 1) := by decide +kernel
theorem dMO_share_21 : decode cMO_share 21 = .ok (.iload_n 2, 1) := by decide +kernel
theorem dMO_share_22 : decode cMO_share 22 = .ok (.invokevirtual 139, 3) := by decide +kernel
theorem dMO_share_25 : decode cMO_share 25 = .ok (.aload_n 0, 1) := by decide +kernel
theorem dMO_share_26 : decode cMO_share 26 = .ok (.iload_n 1, 1) := by decide +kernel
theorem dMO_share_27 : decode cMO_share 27 = .ok (.invokevirtual 143, 3) := by decide +kernel
theorem dMO_share_30 : decode cMO_share 30 = .ok (.lreturn, 1) := by decide +kernel
theorem dMO_shareHere_0 : decode cMO_shareHere 0 = .ok (.aload_n 0, 1) := by decide +kernel
theorem dMO_shareHere_1 : decode cMO_shareHere 1 = .ok (.getfield 132, 3) := by decide +kernel
theorem dMO_shareHere_4 : decode cMO_shareHere 4 = .ok (.ifCond .eq 24, 3) := by decide +kernel
theorem dMO_shareHere_7 : decode cMO_shareHere 7 = .ok (.aload_n 0, 1) := by decide +kernel
theorem dMO_shareHere_8 : decode cMO_shareHere 8 = .ok (.getfield 126, 3) := by decide +kernel
theorem dMO_shareHere_11 : decode cMO_shareHere 11 = .ok (.aload_n 0, 1) := by decide +kernel
theorem dMO_shareHere_12 : decode cMO_shareHere 12 = .ok (.sipush 160, 3) := by decide +kernel
theorem dMO_shareHere_15 : decode cMO_shareHere 15 = .ok (.iload_n 1, 1) := by decide +kernel
theorem dMO_shareHere_16 : decode cMO_shareHere 16 = .ok (.imul, 1) := by decide +kernel
theorem dMO_shareHere_17 : decode cMO_shareHere 17 = .ok (.sipush 152, 3) := by decide +kernel
theorem dMO_shareHere_20 : decode cMO_shareHere 20 = .ok (.iadd, 1) := by decide +kernel
theorem dMO_shareHere_21 : decode cMO_shareHere 21 = .ok (.invokevirtual 123, 3) := by decide +kernel
theorem dMO_shareHere_24 : decode cMO_shareHere 24 = .ok (.lxor, 1) := by decide +kernel
theorem dMO_shareHere_25 : decode cMO_shareHere 25 = .ok (.goto 7, 3) := by decide +kernel
theorem dMO_shareHere_28 : decode cMO_shareHere 28 = .ok (.aload_n 0, 1) := by decide +kernel
theorem dMO_shareHere_29 : decode cMO_shareHere 29 = .ok (.getfield 126, 3) := by decide +kernel
theorem dMO_shareHere_32 : decode cMO_shareHere 32 = .ok (.lreturn, 1) := by decide +kernel
theorem dMO_put_0 : decode cMO_put 0 = .ok (.aload_n 0, 1) := by decide +kernel
theorem dMO_put_1 : decode cMO_put 1 = .ok (.iload_n 1, 1) := by decide +kernel
theorem dMO_put_2 : decode cMO_put 2 = .ok (.invokestatic 164, 3) := by decide +kernel
theorem dMO_put_5 : decode cMO_put 5 = .ok (.ifCond .eq 14, 3) := by decide +kernel
theorem dMO_put_8 : decode cMO_put 8 = .ok (.iload_n 2, 1) := by decide +kernel
theorem dMO_put_9 : decode cMO_put 9 = .ok (.invokestatic 167, 3) := by decide +kernel
theorem dMO_put_12 : decode cMO_put 12 = .ok (.ifCond .eq 7, 3) := by decide +kernel
theorem dMO_put_15 : decode cMO_put 15 = .ok (.iconst 0, 1) := by decide +kernel
theorem dMO_put_16 : decode cMO_put 16 = .ok (.goto 4, 3) := by decide +kernel
theorem dMO_put_19 : decode cMO_put 19 = .ok (.iconst 1, 1) := by decide +kernel
theorem dMO_put_20 : decode cMO_put 20 = .ok (.putfield 87, 3) := by decide +kernel
theorem dMO_put_23 : decode cMO_put 23 = .ok (.aload_n 0, 1) := by decide +kernel
theorem dMO_put_24 : decode cMO_put 24 = .ok (.getfield 87, 3) := by decide +kernel
theorem dMO_put_27 : decode cMO_put 27 = .ok (.ifCond .ne 16, 3) := by decide +kernel
theorem dMO_put_30 : decode cMO_put 30 = .ok (.aload_n 0, 1) := by decide +kernel
theorem dMO_put_31 : decode cMO_put 31 = .ok (.getfield 13, 3) := by decide +kernel
theorem dMO_put_34 : decode cMO_put 34 = .ok (.sipush 256, 3) := by decide +kernel
theorem dMO_put_37 : decode cMO_put 37 = .ok (.iload_n 1, 1) := by decide +kernel
theorem dMO_put_38 : decode cMO_put 38 = .ok (.imul, 1) := by decide +kernel
theorem dMO_put_39 : decode cMO_put 39 = .ok (.iload_n 2, 1) := by decide +kernel
theorem dMO_put_40 : decode cMO_put 40 = .ok (.iadd, 1) := by decide +kernel
theorem dMO_put_41 : decode cMO_put 41 = .ok (.lload_n 3, 1) := by decide +kernel
theorem dMO_put_42 : decode cMO_put 42 = .ok (.lastore, 1) := by decide +kernel
theorem dMO_put_43 : decode cMO_put 43 = .ok (.return_, 1) := by decide +kernel
theorem dMO_isServer_0 : decode cMO_isServer 0 = .ok (.iload_n 0, 1) := by decide +kernel
theorem dMO_isServer_1 : decode cMO_isServer 1 = .ok (.ifCond .eq 8, 3) := by decide +kernel
theorem dMO_isServer_4 : decode cMO_isServer 4 = .ok (.iload_n 0, 1) := by decide +kernel
theorem dMO_isServer_5 : decode cMO_isServer 5 = .ok (.iconst 1, 1) := by decide +kernel
theorem dMO_isServer_6 : decode cMO_isServer 6 = .ok (.if_icmp .ne 7, 3) := by decide +kernel
theorem dMO_isServer_9 : decode cMO_isServer 9 = .ok (.iconst 1, 1) := by decide +kernel
theorem dMO_isServer_10 : decode cMO_isServer 10 = .ok (.goto 4, 3) := by decide +kernel
theorem dMO_isServer_13 : decode cMO_isServer 13 = .ok (.iconst 0, 1) := by decide +kernel
theorem dMO_isServer_14 : decode cMO_isServer 14 = .ok (.ireturn, 1) := by decide +kernel
theorem dMO_isPlace_0 : decode cMO_isPlace 0 = .ok (.iload_n 0, 1) := by decide +kernel
theorem dMO_isPlace_1 : decode cMO_isPlace 1 = .ok (.ifCond .lt 14, 3) := by decide +kernel
theorem dMO_isPlace_4 : decode cMO_isPlace 4 = .ok (.iload_n 0, 1) := by decide +kernel
theorem dMO_isPlace_5 : decode cMO_isPlace 5 = .ok (.sipush 256, 3) := by decide +kernel
theorem dMO_isPlace_8 : decode cMO_isPlace 8 = .ok (.if_icmp .ge 7, 3) := by decide +kernel
theorem dMO_isPlace_11 : decode cMO_isPlace 11 = .ok (.iconst 1, 1) := by decide +kernel
theorem dMO_isPlace_12 : decode cMO_isPlace 12 = .ok (.goto 4, 3) := by decide +kernel
theorem dMO_isPlace_15 : decode cMO_isPlace 15 = .ok (.iconst 0, 1) := by decide +kernel
theorem dMO_isPlace_16 : decode cMO_isPlace 16 = .ok (.ireturn, 1) := by decide +kernel
theorem dMO_close_0 : decode cMO_close 0 = .ok (.aload_n 0, 1) := by decide +kernel
theorem dMO_close_1 : decode cMO_close 1 = .ok (.iload_n 1, 1) := by decide +kernel
theorem dMO_close_2 : decode cMO_close 2 = .ok (.invokestatic 164, 3) := by decide +kernel
theorem dMO_close_5 : decode cMO_close 5 = .ok (.ifCond .eq 7, 3) := by decide +kernel
theorem dMO_close_8 : decode cMO_close 8 = .ok (.iconst 0, 1) := by decide +kernel
theorem dMO_close_9 : decode cMO_close 9 = .ok (.goto 4, 3) := by decide +kernel
theorem dMO_close_12 : decode cMO_close 12 = .ok (.iconst 1, 1) := by decide +kernel
theorem dMO_close_13 : decode cMO_close 13 = .ok (.putfield 87, 3) := by decide +kernel
theorem dMO_close_16 : decode cMO_close 16 = .ok (.aload_n 0, 1) := by decide +kernel
theorem dMO_close_17 : decode cMO_close 17 = .ok (.getfield 87, 3) := by decide +kernel
theorem dMO_close_20 : decode cMO_close 20 = .ok (.ifCond .le 5, 3) := by decide +kernel
theorem dMO_close_23 : decode cMO_close 23 = .ok (.iconst 0, 1) := by decide +kernel
theorem dMO_close_24 : decode cMO_close 24 = .ok (.ireturn, 1) := by decide +kernel
theorem dMO_close_25 : decode cMO_close 25 = .ok (.aload_n 0, 1) := by decide +kernel
theorem dMO_close_26 : decode cMO_close 26 = .ok (.getfield 20, 3) := by decide +kernel
theorem dMO_close_29 : decode cMO_close 29 = .ok (.iload_n 1, 1) := by decide +kernel
theorem dMO_close_30 : decode cMO_close 30 = .ok (.aload_n 0, 1) := by decide +kernel
theorem dMO_close_31 : decode cMO_close 31 = .ok (.iload_n 1, 1) := by decide +kernel
theorem dMO_close_32 : decode cMO_close 32 = .ok (.invokevirtual 173, 3) := by decide +kernel
theorem dMO_close_35 : decode cMO_close 35 = .ok (.iastore, 1) := by decide +kernel
theorem dMO_close_36 : decode cMO_close 36 = .ok (.aload_n 0, 1) := by decide +kernel
theorem dMO_close_37 : decode cMO_close 37 = .ok (.getfield 16, 3) := by decide +kernel
theorem dMO_close_40 : decode cMO_close 40 = .ok (.iload_n 1, 1) := by decide +kernel
theorem dMO_close_41 : decode cMO_close 41 = .ok (.dup2, 1) := by decide +kernel
theorem dMO_close_42 : decode cMO_close 42 = .ok (.iaload, 1) := by decide +kernel
theorem dMO_close_43 : decode cMO_close 43 = .ok (.iconst 1, 1) := by decide +kernel
theorem dMO_close_44 : decode cMO_close 44 = .ok (.iadd, 1) := by decide +kernel
theorem dMO_close_45 : decode cMO_close 45 = .ok (.iastore, 1) := by decide +kernel
theorem dMO_close_46 : decode cMO_close 46 = .ok (.aload_n 0, 1) := by decide +kernel
theorem dMO_close_47 : decode cMO_close 47 = .ok (.iload_n 1, 1) := by decide +kernel
theorem dMO_close_48 : decode cMO_close 48 = .ok (.aload_n 0, 1) := by decide +kernel
theorem dMO_close_49 : decode cMO_close 49 = .ok (.getfield 16, 3) := by decide +kernel
theorem dMO_close_52 : decode cMO_close 52 = .ok (.iload_n 1, 1) := by decide +kernel
theorem dMO_close_53 : decode cMO_close 53 = .ok (.iaload, 1) := by decide +kernel
theorem dMO_close_54 : decode cMO_close 54 = .ok (.invokevirtual 170, 3) := by decide +kernel
theorem dMO_close_57 : decode cMO_close 57 = .ok (.istore_n 2, 1) := by decide +kernel
theorem dMO_close_58 : decode cMO_close 58 = .ok (.iconst 0, 1) := by decide +kernel
theorem dMO_close_59 : decode cMO_close 59 = .ok (.istore_n 3, 1) := by decide +kernel
theorem dMO_close_60 : decode cMO_close 60 = .ok (.iload_n 3, 1) := by decide +kernel
theorem dMO_close_61 : decode cMO_close 61 = .ok (.sipush 256, 3) := by decide +kernel
theorem dMO_close_64 : decode cMO_close 64 = .ok (.if_icmp .ge 29, 3) := by decide +kernel
theorem dMO_close_67 : decode cMO_close 67 = .ok (.aload_n 0, 1) := by decide +kernel
theorem dMO_close_68 : decode cMO_close 68 = .ok (.getfield 7, 3) := by decide +kernel
theorem dMO_close_71 : decode cMO_close 71 = .ok (.iload_n 2, 1) := by decide +kernel
theorem dMO_close_72 : decode cMO_close 72 = .ok (.iload_n 3, 1) := by decide +kernel
theorem dMO_close_73 : decode cMO_close 73 = .ok (.iadd, 1) := by decide +kernel
theorem dMO_close_74 : decode cMO_close 74 = .ok (.aload_n 0, 1) := by decide +kernel
theorem dMO_close_75 : decode cMO_close 75 = .ok (.getfield 13, 3) := by decide +kernel
theorem dMO_close_78 : decode cMO_close 78 = .ok (.sipush 256, 3) := by decide +kernel
theorem dMO_close_81 : decode cMO_close 81 = .ok (.iload_n 1, 1) := by decide +kernel
theorem dMO_close_82 : decode cMO_close 82 = .ok (.imul, 1) := by decide +kernel
theorem dMO_close_83 : decode cMO_close 83 = .ok (.iload_n 3, 1) := by decide +kernel
theorem dMO_close_84 : decode cMO_close 84 = .ok (.iadd, 1) := by decide +kernel
theorem dMO_close_85 : decode cMO_close 85 = .ok (.laload, 1) := by decide +kernel
theorem dMO_close_86 : decode cMO_close 86 = .ok (.lastore, 1) := by decide +kernel
theorem dMO_close_87 : decode cMO_close 87 = .ok (.iinc 3 1, 3) := by decide +kernel
theorem dMO_close_90 : decode cMO_close 90 = .ok (.goto (-30), 3) := by decide +kernel
theorem dMO_close_93 : decode cMO_close 93 = .ok (.aload_n 0, 1) := by decide +kernel
theorem dMO_close_94 : decode cMO_close 94 = .ok (.getfield 16, 3) := by decide +kernel
theorem dMO_close_97 : decode cMO_close 97 = .ok (.iload_n 1, 1) := by decide +kernel
theorem dMO_close_98 : decode cMO_close 98 = .ok (.iaload, 1) := by decide +kernel
theorem dMO_close_99 : decode cMO_close 99 = .ok (.ireturn, 1) := by decide +kernel
theorem dMO_others_0 : decode cMO_others 0 = .ok (.aload_n 0, 1) := by decide +kernel
theorem dMO_others_1 : decode cMO_others 1 = .ok (.iload_n 1, 1) := by decide +kernel
theorem dMO_others_2 : decode cMO_others 2 = .ok (.aload_n 0, 1) := by decide +kernel
theorem dMO_others_3 : decode cMO_others 3 = .ok (.getfield 16, 3) := by decide +kernel
theorem dMO_others_6 : decode cMO_others 6 = .ok (.iload_n 1, 1) := by decide +kernel
theorem dMO_others_7 : decode cMO_others 7 = .ok (.iaload, 1) := by decide +kernel
theorem dMO_others_8 : decode cMO_others 8 = .ok (.invokevirtual 170, 3) := by decide +kernel
theorem dMO_others_11 : decode cMO_others 11 = .ok (.istore_n 2, 1) := by decide +kernel
theorem dMO_others_12 : decode cMO_others 12 = .ok (.iconst 0, 1) := by decide +kernel
theorem dMO_others_13 : decode cMO_others 13 = .ok (.istore_n 3, 1) := by decide +kernel
theorem dMO_others_14 : decode cMO_others 14 = .ok (.iconst 0, 1) := by decide +kernel
theorem dMO_others_15 : decode cMO_others 15 = .ok (.istore 4, 2) := by decide +kernel
theorem dMO_others_17 : decode cMO_others 17 = .ok (.iload 4, 2) := by decide +kernel
theorem dMO_others_19 : decode cMO_others 19 = .ok (.sipush 256, 3) := by decide +kernel
theorem dMO_others_22 : decode cMO_others 22 = .ok (.if_icmp .ge 43, 3) := by decide +kernel
theorem dMO_others_25 : decode cMO_others 25 = .ok (.iload_n 3, 1) := by decide +kernel
theorem dMO_others_26 : decode cMO_others 26 = .ok (.aload_n 0, 1) := by decide +kernel
theorem dMO_others_27 : decode cMO_others 27 = .ok (.getfield 13, 3) := by decide +kernel
theorem dMO_others_30 : decode cMO_others 30 = .ok (.sipush 256, 3) := by decide +kernel
theorem dMO_others_33 : decode cMO_others 33 = .ok (.iload_n 1, 1) := by decide +kernel
theorem dMO_others_34 : decode cMO_others 34 = .ok (.imul, 1) := by decide +kernel
theorem dMO_others_35 : decode cMO_others 35 = .ok (.iload 4, 2) := by decide +kernel
theorem dMO_others_37 : decode cMO_others 37 = .ok (.iadd, 1) := by decide +kernel
theorem dMO_others_38 : decode cMO_others 38 = .ok (.laload, 1) := by decide +kernel
theorem dMO_others_39 : decode cMO_others 39 = .ok (.aload_n 0, 1) := by decide +kernel
theorem dMO_others_40 : decode cMO_others 40 = .ok (.getfield 7, 3) := by decide +kernel
theorem dMO_others_43 : decode cMO_others 43 = .ok (.iload_n 2, 1) := by decide +kernel
theorem dMO_others_44 : decode cMO_others 44 = .ok (.iload 4, 2) := by decide +kernel
theorem dMO_others_46 : decode cMO_others 46 = .ok (.iadd, 1) := by decide +kernel
theorem dMO_others_47 : decode cMO_others 47 = .ok (.laload, 1) := by decide +kernel
theorem dMO_others_48 : decode cMO_others 48 = .ok (.lcmp, 1) := by decide +kernel
theorem dMO_others_49 : decode cMO_others 49 = .ok (.ifCond .eq 7, 3) := by decide +kernel
theorem dMO_others_52 : decode cMO_others 52 = .ok (.iconst 1, 1) := by decide +kernel
theorem dMO_others_53 : decode cMO_others 53 = .ok (.goto 4, 3) := by decide +kernel
theorem dMO_others_56 : decode cMO_others 56 = .ok (.iconst 0, 1) := by decide +kernel
theorem dMO_others_57 : decode cMO_others 57 = .ok (.iadd, 1) := by decide +kernel
theorem dMO_others_58 : decode cMO_others 58 = .ok (.istore_n 3, 1) := by decide +kernel
theorem dMO_others_59 : decode cMO_others 59 = .ok (.iinc 4 1, 3) := by decide +kernel
theorem dMO_others_62 : decode cMO_others 62 = .ok (.goto (-45), 3) := by decide +kernel
theorem dMO_others_65 : decode cMO_others 65 = .ok (.iload_n 3, 1) := by decide +kernel
theorem dMO_others_66 : decode cMO_others 66 = .ok (.ireturn, 1) := by decide +kernel
theorem dMO_base_0 : decode cMO_base 0 = .ok (.sipush 256, 3) := by decide +kernel
theorem dMO_base_3 : decode cMO_base 3 = .ok (.bipush 9, 2) := by decide +kernel
theorem dMO_base_5 : decode cMO_base 5 = .ok (.iload_n 1, 1) := by decide +kernel
theorem dMO_base_6 : decode cMO_base 6 = .ok (.imul, 1) := by decide +kernel
theorem dMO_base_7 : decode cMO_base 7 = .ok (.iload_n 2, 1) := by decide +kernel
theorem dMO_base_8 : decode cMO_base 8 = .ok (.bipush 9, 2) := by decide +kernel
theorem dMO_base_10 : decode cMO_base 10 = .ok (.irem, 1) := by decide +kernel
theorem dMO_base_11 : decode cMO_base 11 = .ok (.iadd, 1) := by decide +kernel
theorem dMO_base_12 : decode cMO_base 12 = .ok (.imul, 1) := by decide +kernel
theorem dMO_base_13 : decode cMO_base 13 = .ok (.ireturn, 1) := by decide +kernel
theorem dMO_query_0 : decode cMO_query 0 = .ok (.aload_n 0, 1) := by decide +kernel
theorem dMO_query_1 : decode cMO_query 1 = .ok (.iload_n 1, 1) := by decide +kernel
theorem dMO_query_2 : decode cMO_query 2 = .ok (.invokestatic 164, 3) := by decide +kernel
theorem dMO_query_5 : decode cMO_query 5 = .ok (.ifCond .ne 7, 3) := by decide +kernel
theorem dMO_query_8 : decode cMO_query 8 = .ok (.iconst 1, 1) := by decide +kernel
theorem dMO_query_9 : decode cMO_query 9 = .ok (.goto 25, 3) := by decide +kernel
theorem dMO_query_12 : decode cMO_query 12 = .ok (.aload_n 0, 1) := by decide +kernel
theorem dMO_query_13 : decode cMO_query 13 = .ok (.iload_n 1, 1) := by decide +kernel
theorem dMO_query_14 : decode cMO_query 14 = .ok (.iload_n 2, 1) := by decide +kernel
theorem dMO_query_15 : decode cMO_query 15 = .ok (.invokevirtual 176, 3) := by decide +kernel
theorem dMO_query_18 : decode cMO_query 18 = .ok (.ifCond .eq 11, 3) := by decide +kernel
theorem dMO_query_21 : decode cMO_query 21 = .ok (.aload_n 0, 1) := by decide +kernel
theorem dMO_query_22 : decode cMO_query 22 = .ok (.iload_n 1, 1) := by decide +kernel
theorem dMO_query_23 : decode cMO_query 23 = .ok (.invokevirtual 157, 3) := by decide +kernel
theorem dMO_query_26 : decode cMO_query 26 = .ok (.ifCond .ne 7, 3) := by decide +kernel
theorem dMO_query_29 : decode cMO_query 29 = .ok (.iconst 2, 1) := by decide +kernel
theorem dMO_query_30 : decode cMO_query 30 = .ok (.goto 4, 3) := by decide +kernel
theorem dMO_query_33 : decode cMO_query 33 = .ok (.iconst 0, 1) := by decide +kernel
theorem dMO_query_34 : decode cMO_query 34 = .ok (.putfield 87, 3) := by decide +kernel
theorem dMO_query_37 : decode cMO_query 37 = .ok (.aload_n 0, 1) := by decide +kernel
theorem dMO_query_38 : decode cMO_query 38 = .ok (.getfield 87, 3) := by decide +kernel
theorem dMO_query_41 : decode cMO_query 41 = .ok (.ifCond .le 5, 3) := by decide +kernel
theorem dMO_query_44 : decode cMO_query 44 = .ok (.lconst 0, 1) := by decide +kernel
theorem dMO_query_45 : decode cMO_query 45 = .ok (.lreturn, 1) := by decide +kernel
theorem dMO_query_46 : decode cMO_query 46 = .ok (.aload_n 0, 1) := by decide +kernel
theorem dMO_query_47 : decode cMO_query 47 = .ok (.iload_n 1, 1) := by decide +kernel
theorem dMO_query_48 : decode cMO_query 48 = .ok (.invokevirtual 179, 3) := by decide +kernel
theorem dMO_query_51 : decode cMO_query 51 = .ok (.aload_n 0, 1) := by decide +kernel
theorem dMO_query_52 : decode cMO_query 52 = .ok (.iload_n 1, 1) := by decide +kernel
theorem dMO_query_53 : decode cMO_query 53 = .ok (.iload_n 2, 1) := by decide +kernel
theorem dMO_query_54 : decode cMO_query 54 = .ok (.invokevirtual 170, 3) := by decide +kernel
theorem dMO_query_57 : decode cMO_query 57 = .ok (.istore_n 3, 1) := by decide +kernel
theorem dMO_query_58 : decode cMO_query 58 = .ok (.lconst 0, 1) := by decide +kernel
theorem dMO_query_59 : decode cMO_query 59 = .ok (.lstore 4, 2) := by decide +kernel
theorem dMO_query_61 : decode cMO_query 61 = .ok (.iconst 0, 1) := by decide +kernel
theorem dMO_query_62 : decode cMO_query 62 = .ok (.istore 6, 2) := by decide +kernel
theorem dMO_query_64 : decode cMO_query 64 = .ok (.iload 6, 2) := by decide +kernel
theorem dMO_query_66 : decode cMO_query 66 = .ok (.sipush 256, 3) := by decide +kernel
theorem dMO_query_69 : decode cMO_query 69 = .ok (.if_icmp .ge 44, 3) := by decide +kernel
theorem dMO_query_72 : decode cMO_query 72 = .ok (.aload_n 0, 1) := by decide +kernel
theorem dMO_query_73 : decode cMO_query 73 = .ok (.getfield 42, 3) := by decide +kernel
theorem dMO_query_76 : decode cMO_query 76 = .ok (.sipush 256, 3) := by decide +kernel
theorem dMO_query_79 : decode cMO_query 79 = .ok (.iload_n 1, 1) := by decide +kernel
theorem dMO_query_80 : decode cMO_query 80 = .ok (.imul, 1) := by decide +kernel
theorem dMO_query_81 : decode cMO_query 81 = .ok (.iload 6, 2) := by decide +kernel
theorem dMO_query_83 : decode cMO_query 83 = .ok (.iadd, 1) := by decide +kernel
theorem dMO_query_84 : decode cMO_query 84 = .ok (.baload, 1) := by decide +kernel
theorem dMO_query_85 : decode cMO_query 85 = .ok (.ifCond .eq 18, 3) := by decide +kernel
theorem dMO_query_88 : decode cMO_query 88 = .ok (.lload 4, 2) := by decide +kernel
theorem dMO_query_90 : decode cMO_query 90 = .ok (.aload_n 0, 1) := by decide +kernel
theorem dMO_query_91 : decode cMO_query 91 = .ok (.getfield 7, 3) := by decide +kernel
theorem dMO_query_94 : decode cMO_query 94 = .ok (.iload_n 3, 1) := by decide +kernel
theorem dMO_query_95 : decode cMO_query 95 = .ok (.iload 6, 2) := by decide +kernel
theorem dMO_query_97 : decode cMO_query 97 = .ok (.iadd, 1) := by decide +kernel
theorem dMO_query_98 : decode cMO_query 98 = .ok (.laload, 1) := by decide +kernel
theorem dMO_query_99 : decode cMO_query 99 = .ok (.lxor, 1) := by decide +kernel
theorem dMO_query_100 : decode cMO_query 100 = .ok (.goto 5, 3) := by decide +kernel
theorem dMO_query_103 : decode cMO_query 103 = .ok (.lload 4, 2) := by decide +kernel
theorem dMO_query_105 : decode cMO_query 105 = .ok (.lstore 4, 2) := by decide +kernel
theorem dMO_query_107 : decode cMO_query 107 = .ok (.iinc 6 1, 3) := by decide +kernel
theorem dMO_query_110 : decode cMO_query 110 = .ok (.goto (-46), 3) := by decide +kernel
theorem dMO_query_113 : decode cMO_query 113 = .ok (.aload_n 0, 1) := by decide +kernel
theorem dMO_query_114 : decode cMO_query 114 = .ok (.getfield 32, 3) := by decide +kernel
theorem dMO_query_117 : decode cMO_query 117 = .ok (.iload_n 1, 1) := by decide +kernel
theorem dMO_query_118 : decode cMO_query 118 = .ok (.lload 4, 2) := by decide +kernel
theorem dMO_query_120 : decode cMO_query 120 = .ok (.lastore, 1) := by decide +kernel
theorem dMO_query_121 : decode cMO_query 121 = .ok (.aload_n 0, 1) := by decide +kernel
theorem dMO_query_122 : decode cMO_query 122 = .ok (.getfield 29, 3) := by decide +kernel
theorem dMO_query_125 : decode cMO_query 125 = .ok (.iload_n 1, 1) := by decide +kernel
theorem dMO_query_126 : decode cMO_query 126 = .ok (.dup2, 1) := by decide +kernel
theorem dMO_query_127 : decode cMO_query 127 = .ok (.iaload, 1) := by decide +kernel
theorem dMO_query_128 : decode cMO_query 128 = .ok (.iconst 1, 1) := by decide +kernel
theorem dMO_query_129 : decode cMO_query 129 = .ok (.iadd, 1) := by decide +kernel
theorem dMO_query_130 : decode cMO_query 130 = .ok (.iastore, 1) := by decide +kernel
theorem dMO_query_131 : decode cMO_query 131 = .ok (.lload 4, 2) := by decide +kernel
theorem dMO_query_133 : decode cMO_query 133 = .ok (.lreturn, 1) := by decide +kernel
theorem dMO_isHeld_0 : decode cMO_isHeld 0 = .ok (.iload_n 2, 1) := by decide +kernel
theorem dMO_isHeld_1 : decode cMO_isHeld 1 = .ok (.ifCond .lt 30, 3) := by decide +kernel
theorem dMO_isHeld_4 : decode cMO_isHeld 4 = .ok (.iload_n 2, 1) := by decide +kernel
theorem dMO_isHeld_5 : decode cMO_isHeld 5 = .ok (.aload_n 0, 1) := by decide +kernel
theorem dMO_isHeld_6 : decode cMO_isHeld 6 = .ok (.getfield 16, 3) := by decide +kernel
theorem dMO_isHeld_9 : decode cMO_isHeld 9 = .ok (.iload_n 1, 1) := by decide +kernel
theorem dMO_isHeld_10 : decode cMO_isHeld 10 = .ok (.iaload, 1) := by decide +kernel
theorem dMO_isHeld_11 : decode cMO_isHeld 11 = .ok (.if_icmp .gt 20, 3) := by decide +kernel
theorem dMO_isHeld_14 : decode cMO_isHeld 14 = .ok (.aload_n 0, 1) := by decide +kernel
theorem dMO_isHeld_15 : decode cMO_isHeld 15 = .ok (.getfield 16, 3) := by decide +kernel
theorem dMO_isHeld_18 : decode cMO_isHeld 18 = .ok (.iload_n 1, 1) := by decide +kernel
theorem dMO_isHeld_19 : decode cMO_isHeld 19 = .ok (.iaload, 1) := by decide +kernel
theorem dMO_isHeld_20 : decode cMO_isHeld 20 = .ok (.iload_n 2, 1) := by decide +kernel
theorem dMO_isHeld_21 : decode cMO_isHeld 21 = .ok (.isub, 1) := by decide +kernel
theorem dMO_isHeld_22 : decode cMO_isHeld 22 = .ok (.bipush 9, 2) := by decide +kernel
theorem dMO_isHeld_24 : decode cMO_isHeld 24 = .ok (.if_icmp .ge 7, 3) := by decide +kernel
theorem dMO_isHeld_27 : decode cMO_isHeld 27 = .ok (.iconst 1, 1) := by decide +kernel
theorem dMO_isHeld_28 : decode cMO_isHeld 28 = .ok (.goto 4, 3) := by decide +kernel
theorem dMO_isHeld_31 : decode cMO_isHeld 31 = .ok (.iconst 0, 1) := by decide +kernel
theorem dMO_isHeld_32 : decode cMO_isHeld 32 = .ok (.ireturn, 1) := by decide +kernel
theorem dMO_spreadOut_0 : decode cMO_spreadOut 0 = .ok (.aload_n 0, 1) := by decide +kernel
theorem dMO_spreadOut_1 : decode cMO_spreadOut 1 = .ok (.getfield 38, 3) := by decide +kernel
theorem dMO_spreadOut_4 : decode cMO_spreadOut 4 = .ok (.iload_n 1, 1) := by decide +kernel
theorem dMO_spreadOut_5 : decode cMO_spreadOut 5 = .ok (.baload, 1) := by decide +kernel
theorem dMO_spreadOut_6 : decode cMO_spreadOut 6 = .ok (.ifCond .ne 4, 3) := by decide +kernel
theorem dMO_spreadOut_9 : decode cMO_spreadOut 9 = .ok (.return_, 1) := by decide +kernel
theorem dMO_spreadOut_10 : decode cMO_spreadOut 10 = .ok (.iconst 0, 1) := by decide +kernel
theorem dMO_spreadOut_11 : decode cMO_spreadOut 11 = .ok (.istore_n 2, 1) := by decide +kernel
theorem dMO_spreadOut_12 : decode cMO_spreadOut 12 = .ok (.iload_n 2, 1) := by decide +kernel
theorem dMO_spreadOut_13 : decode cMO_spreadOut 13 = .ok (.sipush 256, 3) := by decide +kernel
theorem dMO_spreadOut_16 : decode cMO_spreadOut 16 = .ok (.if_icmp .ge 48, 3) := by decide +kernel
theorem dMO_spreadOut_19 : decode cMO_spreadOut 19 = .ok (.aload_n 0, 1) := by decide +kernel
theorem dMO_spreadOut_20 : decode cMO_spreadOut 20 = .ok (.iload_n 1, 1) := by decide +kernel
theorem dMO_spreadOut_21 : decode cMO_spreadOut 21 = .ok (.iload_n 2, 1) := by decide +kernel
theorem dMO_spreadOut_22 : decode cMO_spreadOut 22 = .ok (.invokevirtual 139, 3) := by decide +kernel
theorem dMO_spreadOut_25 : decode cMO_spreadOut 25 = .ok (.aload_n 0, 1) := by decide +kernel
theorem dMO_spreadOut_26 : decode cMO_spreadOut 26 = .ok (.getfield 42, 3) := by decide +kernel
theorem dMO_spreadOut_29 : decode cMO_spreadOut 29 = .ok (.sipush 256, 3) := by decide +kernel
theorem dMO_spreadOut_32 : decode cMO_spreadOut 32 = .ok (.iload_n 1, 1) := by decide +kernel
theorem dMO_spreadOut_33 : decode cMO_spreadOut 33 = .ok (.imul, 1) := by decide +kernel
theorem dMO_spreadOut_34 : decode cMO_spreadOut 34 = .ok (.iload_n 2, 1) := by decide +kernel
theorem dMO_spreadOut_35 : decode cMO_spreadOut 35 = .ok (.iadd, 1) := by decide +kernel
theorem dMO_spreadOut_36 : decode cMO_spreadOut 36 = .ok (.aload_n 0, 1) := by decide +kernel
theorem dMO_spreadOut_37 : decode cMO_spreadOut 37 = .ok (.getfield 132, 3) := by decide +kernel
theorem dMO_spreadOut_40 : decode cMO_spreadOut 40 = .ok (.bastore, 1) := by decide +kernel
theorem dMO_spreadOut_41 : decode cMO_spreadOut 41 = .ok (.aload_n 0, 1) := by decide +kernel
theorem dMO_spreadOut_42 : decode cMO_spreadOut 42 = .ok (.getfield 45, 3) := by decide +kernel
theorem dMO_spreadOut_45 : decode cMO_spreadOut 45 = .ok (.sipush 256, 3) := by decide +kernel
theorem dMO_spreadOut_48 : decode cMO_spreadOut 48 = .ok (.iload_n 1, 1) := by decide +kernel
theorem dMO_spreadOut_49 : decode cMO_spreadOut 49 = .ok (.imul, 1) := by decide +kernel
theorem dMO_spreadOut_50 : decode cMO_spreadOut 50 = .ok (.iload_n 2, 1) := by decide +kernel
theorem dMO_spreadOut_51 : decode cMO_spreadOut 51 = .ok (.iadd, 1) := by decide +kernel
theorem dMO_spreadOut_52 : decode cMO_spreadOut 52 = .ok (.aload_n 0, 1) := by decide +kernel
theorem dMO_spreadOut_53 : decode cMO_spreadOut 53 = .ok (.iload_n 1, 1) := by decide +kernel
theorem dMO_spreadOut_54 : decode cMO_spreadOut 54 = .ok (.invokevirtual 143, 3) := by decide +kernel
theorem dMO_spreadOut_57 : decode cMO_spreadOut 57 = .ok (.lastore, 1) := by decide +kernel
theorem dMO_spreadOut_58 : decode cMO_spreadOut 58 = .ok (.iinc 2 1, 3) := by decide +kernel
theorem dMO_spreadOut_61 : decode cMO_spreadOut 61 = .ok (.goto (-49), 3) := by decide +kernel
theorem dMO_spreadOut_64 : decode cMO_spreadOut 64 = .ok (.aload_n 0, 1) := by decide +kernel
theorem dMO_spreadOut_65 : decode cMO_spreadOut 65 = .ok (.getfield 38, 3) := by decide +kernel
theorem dMO_spreadOut_68 : decode cMO_spreadOut 68 = .ok (.iload_n 1, 1) := by decide +kernel
theorem dMO_spreadOut_69 : decode cMO_spreadOut 69 = .ok (.iconst 0, 1) := by decide +kernel
theorem dMO_spreadOut_70 : decode cMO_spreadOut 70 = .ok (.bastore, 1) := by decide +kernel
theorem dMO_spreadOut_71 : decode cMO_spreadOut 71 = .ok (.return_, 1) := by decide +kernel
theorem dMO_combine_0 : decode cMO_combine 0 = .ok (.aload_n 0, 1) := by decide +kernel
theorem dMO_combine_1 : decode cMO_combine 1 = .ok (.iconst 0, 1) := by decide +kernel
theorem dMO_combine_2 : decode cMO_combine 2 = .ok (.putfield 87, 3) := by decide +kernel
theorem dMO_combine_5 : decode cMO_combine 5 = .ok (.aload_n 0, 1) := by decide +kernel
theorem dMO_combine_6 : decode cMO_combine 6 = .ok (.getfield 32, 3) := by decide +kernel
theorem dMO_combine_9 : decode cMO_combine 9 = .ok (.iconst 0, 1) := by decide +kernel
theorem dMO_combine_10 : decode cMO_combine 10 = .ok (.laload, 1) := by decide +kernel
theorem dMO_combine_11 : decode cMO_combine 11 = .ok (.aload_n 0, 1) := by decide +kernel
theorem dMO_combine_12 : decode cMO_combine 12 = .ok (.getfield 32, 3) := by decide +kernel
theorem dMO_combine_15 : decode cMO_combine 15 = .ok (.iconst 1, 1) := by decide +kernel
theorem dMO_combine_16 : decode cMO_combine 16 = .ok (.laload, 1) := by decide +kernel
theorem dMO_combine_17 : decode cMO_combine 17 = .ok (.lxor, 1) := by decide +kernel
theorem dMO_combine_18 : decode cMO_combine 18 = .ok (.lreturn, 1) := by decide +kernel
theorem dMO_deposit_0 : decode cMO_deposit 0 = .ok (.aload_n 0, 1) := by decide +kernel
theorem dMO_deposit_1 : decode cMO_deposit 1 = .ok (.iload_n 1, 1) := by decide +kernel
theorem dMO_deposit_2 : decode cMO_deposit 2 = .ok (.invokestatic 164, 3) := by decide +kernel
theorem dMO_deposit_5 : decode cMO_deposit 5 = .ok (.ifCond .ne 7, 3) := by decide +kernel
theorem dMO_deposit_8 : decode cMO_deposit 8 = .ok (.iconst 1, 1) := by decide +kernel
theorem dMO_deposit_9 : decode cMO_deposit 9 = .ok (.goto 16, 3) := by decide +kernel
theorem dMO_deposit_12 : decode cMO_deposit 12 = .ok (.aload_n 0, 1) := by decide +kernel
theorem dMO_deposit_13 : decode cMO_deposit 13 = .ok (.iload_n 1, 1) := by decide +kernel
theorem dMO_deposit_14 : decode cMO_deposit 14 = .ok (.invokevirtual 157, 3) := by decide +kernel
theorem dMO_deposit_17 : decode cMO_deposit 17 = .ok (.ifCond .ne 7, 3) := by decide +kernel
theorem dMO_deposit_20 : decode cMO_deposit 20 = .ok (.iconst 2, 1) := by decide +kernel
theorem dMO_deposit_21 : decode cMO_deposit 21 = .ok (.goto 4, 3) := by decide +kernel
theorem dMO_deposit_24 : decode cMO_deposit 24 = .ok (.iconst 0, 1) := by decide +kernel
theorem dMO_deposit_25 : decode cMO_deposit 25 = .ok (.putfield 87, 3) := by decide +kernel
theorem dMO_deposit_28 : decode cMO_deposit 28 = .ok (.aload_n 0, 1) := by decide +kernel
theorem dMO_deposit_29 : decode cMO_deposit 29 = .ok (.getfield 87, 3) := by decide +kernel
theorem dMO_deposit_32 : decode cMO_deposit 32 = .ok (.ifCond .le 4, 3) := by decide +kernel
theorem dMO_deposit_35 : decode cMO_deposit 35 = .ok (.return_, 1) := by decide +kernel
theorem dMO_deposit_36 : decode cMO_deposit 36 = .ok (.aload_n 0, 1) := by decide +kernel
theorem dMO_deposit_37 : decode cMO_deposit 37 = .ok (.iload_n 1, 1) := by decide +kernel
theorem dMO_deposit_38 : decode cMO_deposit 38 = .ok (.invokevirtual 179, 3) := by decide +kernel
theorem dMO_deposit_41 : decode cMO_deposit 41 = .ok (.iconst 0, 1) := by decide +kernel
theorem dMO_deposit_42 : decode cMO_deposit 42 = .ok (.istore_n 2, 1) := by decide +kernel
theorem dMO_deposit_43 : decode cMO_deposit 43 = .ok (.iload_n 2, 1) := by decide +kernel
theorem dMO_deposit_44 : decode cMO_deposit 44 = .ok (.sipush 256, 3) := by decide +kernel
theorem dMO_deposit_47 : decode cMO_deposit 47 = .ok (.if_icmp .ge 36, 3) := by decide +kernel
theorem dMO_deposit_50 : decode cMO_deposit 50 = .ok (.aload_n 0, 1) := by decide +kernel
theorem dMO_deposit_51 : decode cMO_deposit 51 = .ok (.getfield 23, 3) := by decide +kernel
theorem dMO_deposit_54 : decode cMO_deposit 54 = .ok (.sipush 256, 3) := by decide +kernel
theorem dMO_deposit_57 : decode cMO_deposit 57 = .ok (.iload_n 1, 1) := by decide +kernel
theorem dMO_deposit_58 : decode cMO_deposit 58 = .ok (.imul, 1) := by decide +kernel
theorem dMO_deposit_59 : decode cMO_deposit 59 = .ok (.iload_n 2, 1) := by decide +kernel
theorem dMO_deposit_60 : decode cMO_deposit 60 = .ok (.iadd, 1) := by decide +kernel
theorem dMO_deposit_61 : decode cMO_deposit 61 = .ok (.dup2, 1) := by decide +kernel
theorem dMO_deposit_62 : decode cMO_deposit 62 = .ok (.laload, 1) := by decide +kernel
theorem dMO_deposit_63 : decode cMO_deposit 63 = .ok (.aload_n 0, 1) := by decide +kernel
theorem dMO_deposit_64 : decode cMO_deposit 64 = .ok (.getfield 45, 3) := by decide +kernel
theorem dMO_deposit_67 : decode cMO_deposit 67 = .ok (.sipush 256, 3) := by decide +kernel
theorem dMO_deposit_70 : decode cMO_deposit 70 = .ok (.iload_n 1, 1) := by decide +kernel
theorem dMO_deposit_71 : decode cMO_deposit 71 = .ok (.imul, 1) := by decide +kernel
theorem dMO_deposit_72 : decode cMO_deposit 72 = .ok (.iload_n 2, 1) := by decide +kernel
theorem dMO_deposit_73 : decode cMO_deposit 73 = .ok (.iadd, 1) := by decide +kernel
theorem dMO_deposit_74 : decode cMO_deposit 74 = .ok (.laload, 1) := by decide +kernel
theorem dMO_deposit_75 : decode cMO_deposit 75 = .ok (.lxor, 1) := by decide +kernel
theorem dMO_deposit_76 : decode cMO_deposit 76 = .ok (.lastore, 1) := by decide +kernel
theorem dMO_deposit_77 : decode cMO_deposit 77 = .ok (.iinc 2 1, 3) := by decide +kernel
theorem dMO_deposit_80 : decode cMO_deposit 80 = .ok (.goto (-37), 3) := by decide +kernel
theorem dMO_deposit_83 : decode cMO_deposit 83 = .ok (.aload_n 0, 1) := by decide +kernel
theorem dMO_deposit_84 : decode cMO_deposit 84 = .ok (.getfield 26, 3) := by decide +kernel
theorem dMO_deposit_87 : decode cMO_deposit 87 = .ok (.iload_n 1, 1) := by decide +kernel
theorem dMO_deposit_88 : decode cMO_deposit 88 = .ok (.dup2, 1) := by decide +kernel
theorem dMO_deposit_89 : decode cMO_deposit 89 = .ok (.iaload, 1) := by decide +kernel
theorem dMO_deposit_90 : decode cMO_deposit 90 = .ok (.iconst 1, 1) := by decide +kernel
theorem dMO_deposit_91 : decode cMO_deposit 91 = .ok (.iadd, 1) := by decide +kernel
theorem dMO_deposit_92 : decode cMO_deposit 92 = .ok (.iastore, 1) := by decide +kernel
theorem dMO_deposit_93 : decode cMO_deposit 93 = .ok (.return_, 1) := by decide +kernel
theorem dMO_mailbox_0 : decode cMO_mailbox 0 = .ok (.aload_n 0, 1) := by decide +kernel
theorem dMO_mailbox_1 : decode cMO_mailbox 1 = .ok (.iload_n 1, 1) := by decide +kernel
theorem dMO_mailbox_2 : decode cMO_mailbox 2 = .ok (.ifCond .lt 19, 3) := by decide +kernel
theorem dMO_mailbox_5 : decode cMO_mailbox 5 = .ok (.iload_n 1, 1) := by decide +kernel
theorem dMO_mailbox_6 : decode cMO_mailbox 6 = .ok (.iconst 3, 1) := by decide +kernel
theorem dMO_mailbox_7 : decode cMO_mailbox 7 = .ok (.if_icmp .ge 14, 3) := by decide +kernel
theorem dMO_mailbox_10 : decode cMO_mailbox 10 = .ok (.iload_n 2, 1) := by decide +kernel
theorem dMO_mailbox_11 : decode cMO_mailbox 11 = .ok (.invokestatic 167, 3) := by decide +kernel
theorem dMO_mailbox_14 : decode cMO_mailbox 14 = .ok (.ifCond .eq 7, 3) := by decide +kernel
theorem dMO_mailbox_17 : decode cMO_mailbox 17 = .ok (.iconst 0, 1) := by decide +kernel
theorem dMO_mailbox_18 : decode cMO_mailbox 18 = .ok (.goto 4, 3) := by decide +kernel
theorem dMO_mailbox_21 : decode cMO_mailbox 21 = .ok (.iconst 1, 1) := by decide +kernel
theorem dMO_mailbox_22 : decode cMO_mailbox 22 = .ok (.putfield 87, 3) := by decide +kernel
theorem dMO_mailbox_25 : decode cMO_mailbox 25 = .ok (.aload_n 0, 1) := by decide +kernel
theorem dMO_mailbox_26 : decode cMO_mailbox 26 = .ok (.getfield 87, 3) := by decide +kernel
theorem dMO_mailbox_29 : decode cMO_mailbox 29 = .ok (.ifCond .le 5, 3) := by decide +kernel
theorem dMO_mailbox_32 : decode cMO_mailbox 32 = .ok (.lconst 0, 1) := by decide +kernel
theorem dMO_mailbox_33 : decode cMO_mailbox 33 = .ok (.lreturn, 1) := by decide +kernel
theorem dMO_mailbox_34 : decode cMO_mailbox 34 = .ok (.iload_n 1, 1) := by decide +kernel
theorem dMO_mailbox_35 : decode cMO_mailbox 35 = .ok (.iconst 2, 1) := by decide +kernel
theorem dMO_mailbox_36 : decode cMO_mailbox 36 = .ok (.if_icmp .ge 18, 3) := by decide +kernel
theorem dMO_mailbox_39 : decode cMO_mailbox 39 = .ok (.aload_n 0, 1) := by decide +kernel
theorem dMO_mailbox_40 : decode cMO_mailbox 40 = .ok (.getfield 23, 3) := by decide +kernel
theorem dMO_mailbox_43 : decode cMO_mailbox 43 = .ok (.sipush 256, 3) := by decide +kernel
theorem dMO_mailbox_46 : decode cMO_mailbox 46 = .ok (.iload_n 1, 1) := by decide +kernel
theorem dMO_mailbox_47 : decode cMO_mailbox 47 = .ok (.imul, 1) := by decide +kernel
theorem dMO_mailbox_48 : decode cMO_mailbox 48 = .ok (.iload_n 2, 1) := by decide +kernel
theorem dMO_mailbox_49 : decode cMO_mailbox 49 = .ok (.iadd, 1) := by decide +kernel
theorem dMO_mailbox_50 : decode cMO_mailbox 50 = .ok (.laload, 1) := by decide +kernel
theorem dMO_mailbox_51 : decode cMO_mailbox 51 = .ok (.goto 20, 3) := by decide +kernel
theorem dMO_mailbox_54 : decode cMO_mailbox 54 = .ok (.aload_n 0, 1) := by decide +kernel
theorem dMO_mailbox_55 : decode cMO_mailbox 55 = .ok (.getfield 23, 3) := by decide +kernel
theorem dMO_mailbox_58 : decode cMO_mailbox 58 = .ok (.iload_n 2, 1) := by decide +kernel
theorem dMO_mailbox_59 : decode cMO_mailbox 59 = .ok (.laload, 1) := by decide +kernel
theorem dMO_mailbox_60 : decode cMO_mailbox 60 = .ok (.aload_n 0, 1) := by decide +kernel
theorem dMO_mailbox_61 : decode cMO_mailbox 61 = .ok (.getfield 23, 3) := by decide +kernel
theorem dMO_mailbox_64 : decode cMO_mailbox 64 = .ok (.sipush 256, 3) := by decide +kernel
theorem dMO_mailbox_67 : decode cMO_mailbox 67 = .ok (.iload_n 2, 1) := by decide +kernel
theorem dMO_mailbox_68 : decode cMO_mailbox 68 = .ok (.iadd, 1) := by decide +kernel
theorem dMO_mailbox_69 : decode cMO_mailbox 69 = .ok (.laload, 1) := by decide +kernel
theorem dMO_mailbox_70 : decode cMO_mailbox 70 = .ok (.lxor, 1) := by decide +kernel
theorem dMO_mailbox_71 : decode cMO_mailbox 71 = .ok (.lreturn, 1) := by decide +kernel
theorem dMO_record_0 : decode cMO_record 0 = .ok (.aload_n 0, 1) := by decide +kernel
theorem dMO_record_1 : decode cMO_record 1 = .ok (.iload_n 1, 1) := by decide +kernel
theorem dMO_record_2 : decode cMO_record 2 = .ok (.invokestatic 164, 3) := by decide +kernel
theorem dMO_record_5 : decode cMO_record 5 = .ok (.ifCond .eq 10, 3) := by decide +kernel
theorem dMO_record_8 : decode cMO_record 8 = .ok (.iload_n 3, 1) := by decide +kernel
theorem dMO_record_9 : decode cMO_record 9 = .ok (.invokestatic 167, 3) := by decide +kernel
theorem dMO_record_12 : decode cMO_record 12 = .ok (.ifCond .ne 7, 3) := by decide +kernel
theorem dMO_record_15 : decode cMO_record 15 = .ok (.iconst 1, 1) := by decide +kernel
theorem dMO_record_16 : decode cMO_record 16 = .ok (.goto 17, 3) := by decide +kernel
theorem dMO_record_19 : decode cMO_record 19 = .ok (.aload_n 0, 1) := by decide +kernel
theorem dMO_record_20 : decode cMO_record 20 = .ok (.iload_n 1, 1) := by decide +kernel
theorem dMO_record_21 : decode cMO_record 21 = .ok (.iload_n 2, 1) := by decide +kernel
theorem dMO_record_22 : decode cMO_record 22 = .ok (.invokevirtual 176, 3) := by decide +kernel
theorem dMO_record_25 : decode cMO_record 25 = .ok (.ifCond .eq 7, 3) := by decide +kernel
theorem dMO_record_28 : decode cMO_record 28 = .ok (.iconst 0, 1) := by decide +kernel
theorem dMO_record_29 : decode cMO_record 29 = .ok (.goto 4, 3) := by decide +kernel
theorem dMO_record_32 : decode cMO_record 32 = .ok (.iconst 2, 1) := by decide +kernel
theorem dMO_record_33 : decode cMO_record 33 = .ok (.putfield 87, 3) := by decide +kernel
theorem dMO_record_36 : decode cMO_record 36 = .ok (.aload_n 0, 1) := by decide +kernel
theorem dMO_record_37 : decode cMO_record 37 = .ok (.getfield 87, 3) := by decide +kernel
theorem dMO_record_40 : decode cMO_record 40 = .ok (.ifCond .le 7, 3) := by decide +kernel
theorem dMO_record_43 : decode cMO_record 43 = .ok (.lconst 0, 1) := by decide +kernel
theorem dMO_record_44 : decode cMO_record 44 = .ok (.goto 16, 3) := by decide +kernel
theorem dMO_record_47 : decode cMO_record 47 = .ok (.aload_n 0, 1) := by decide +kernel
theorem dMO_record_48 : decode cMO_record 48 = .ok (.getfield 7, 3) := by decide +kernel
theorem dMO_record_51 : decode cMO_record 51 = .ok (.aload_n 0, 1) := by decide +kernel
theorem dMO_record_52 : decode cMO_record 52 = .ok (.iload_n 1, 1) := by decide +kernel
theorem dMO_record_53 : decode cMO_record 53 = .ok (.iload_n 2, 1) := by decide +kernel
theorem dMO_record_54 : decode cMO_record 54 = .ok (.invokevirtual 170, 3) := by decide +kernel
theorem dMO_record_57 : decode cMO_record 57 = .ok (.iload_n 3, 1) := by decide +kernel
theorem dMO_record_58 : decode cMO_record 58 = .ok (.iadd, 1) := by decide +kernel
theorem dMO_record_59 : decode cMO_record 59 = .ok (.laload, 1) := by decide +kernel
theorem dMO_record_60 : decode cMO_record 60 = .ok (.lreturn, 1) := by decide +kernel
theorem dMO_digest_0 : decode cMO_digest 0 = .ok (.aload_n 0, 1) := by decide +kernel
theorem dMO_digest_1 : decode cMO_digest 1 = .ok (.iload_n 1, 1) := by decide +kernel
theorem dMO_digest_2 : decode cMO_digest 2 = .ok (.invokestatic 164, 3) := by decide +kernel
theorem dMO_digest_5 : decode cMO_digest 5 = .ok (.ifCond .ne 7, 3) := by decide +kernel
theorem dMO_digest_8 : decode cMO_digest 8 = .ok (.iconst 1, 1) := by decide +kernel
theorem dMO_digest_9 : decode cMO_digest 9 = .ok (.goto 17, 3) := by decide +kernel
theorem dMO_digest_12 : decode cMO_digest 12 = .ok (.aload_n 0, 1) := by decide +kernel
theorem dMO_digest_13 : decode cMO_digest 13 = .ok (.iload_n 1, 1) := by decide +kernel
theorem dMO_digest_14 : decode cMO_digest 14 = .ok (.iload_n 2, 1) := by decide +kernel
theorem dMO_digest_15 : decode cMO_digest 15 = .ok (.invokevirtual 176, 3) := by decide +kernel
theorem dMO_digest_18 : decode cMO_digest 18 = .ok (.ifCond .eq 7, 3) := by decide +kernel
theorem dMO_digest_21 : decode cMO_digest 21 = .ok (.iconst 0, 1) := by decide +kernel
theorem dMO_digest_22 : decode cMO_digest 22 = .ok (.goto 4, 3) := by decide +kernel
theorem dMO_digest_25 : decode cMO_digest 25 = .ok (.iconst 2, 1) := by decide +kernel
theorem dMO_digest_26 : decode cMO_digest 26 = .ok (.putfield 87, 3) := by decide +kernel
theorem dMO_digest_29 : decode cMO_digest 29 = .ok (.aload_n 0, 1) := by decide +kernel
theorem dMO_digest_30 : decode cMO_digest 30 = .ok (.getfield 87, 3) := by decide +kernel
theorem dMO_digest_33 : decode cMO_digest 33 = .ok (.ifCond .le 5, 3) := by decide +kernel
theorem dMO_digest_36 : decode cMO_digest 36 = .ok (.lconst 0, 1) := by decide +kernel
theorem dMO_digest_37 : decode cMO_digest 37 = .ok (.lreturn, 1) := by decide +kernel
theorem dMO_digest_38 : decode cMO_digest 38 = .ok (.aload_n 0, 1) := by decide +kernel
theorem dMO_digest_39 : decode cMO_digest 39 = .ok (.iload_n 1, 1) := by decide +kernel
theorem dMO_digest_40 : decode cMO_digest 40 = .ok (.iload_n 2, 1) := by decide +kernel
theorem dMO_digest_41 : decode cMO_digest 41 = .ok (.invokevirtual 170, 3) := by decide +kernel
theorem dMO_digest_44 : decode cMO_digest 44 = .ok (.istore_n 3, 1) := by decide +kernel
theorem dMO_digest_45 : decode cMO_digest 45 = .ok (.lconst 0, 1) := by decide +kernel
theorem dMO_digest_46 : decode cMO_digest 46 = .ok (.lstore 4, 2) := by decide +kernel
theorem dMO_digest_48 : decode cMO_digest 48 = .ok (.sipush 255, 3) := by decide +kernel
theorem dMO_digest_51 : decode cMO_digest 51 = .ok (.istore 6, 2) := by decide +kernel
theorem dMO_digest_53 : decode cMO_digest 53 = .ok (.iload 6, 2) := by decide +kernel
theorem dMO_digest_55 : decode cMO_digest 55 = .ok (.ifCond .lt 48, 3) := by decide +kernel
theorem dMO_digest_58 : decode cMO_digest 58 = .ok (.lload 4, 2) := by decide +kernel
theorem dMO_digest_60 : decode cMO_digest 60 = .ok (.aload_n 0, 1) := by decide +kernel
theorem dMO_digest_61 : decode cMO_digest 61 = .ok (.getfield 7, 3) := by decide +kernel
theorem dMO_digest_64 : decode cMO_digest 64 = .ok (.iload_n 3, 1) := by decide +kernel
theorem dMO_digest_65 : decode cMO_digest 65 = .ok (.iload 6, 2) := by decide +kernel
theorem dMO_digest_67 : decode cMO_digest 67 = .ok (.iadd, 1) := by decide +kernel
theorem dMO_digest_68 : decode cMO_digest 68 = .ok (.laload, 1) := by decide +kernel
theorem dMO_digest_69 : decode cMO_digest 69 = .ok (.ldc2_w 190, 3) := by decide +kernel
theorem dMO_digest_72 : decode cMO_digest 72 = .ok (.land, 1) := by decide +kernel
theorem dMO_digest_73 : decode cMO_digest 73 = .ok (.invokestatic 192, 3) := by decide +kernel
theorem dMO_digest_76 : decode cMO_digest 76 = .ok (.lstore 4, 2) := by decide +kernel
theorem dMO_digest_78 : decode cMO_digest 78 = .ok (.lload 4, 2) := by decide +kernel
theorem dMO_digest_80 : decode cMO_digest 80 = .ok (.aload_n 0, 1) := by decide +kernel
theorem dMO_digest_81 : decode cMO_digest 81 = .ok (.getfield 7, 3) := by decide +kernel
theorem dMO_digest_84 : decode cMO_digest 84 = .ok (.iload_n 3, 1) := by decide +kernel
theorem dMO_digest_85 : decode cMO_digest 85 = .ok (.iload 6, 2) := by decide +kernel
theorem dMO_digest_87 : decode cMO_digest 87 = .ok (.iadd, 1) := by decide +kernel
theorem dMO_digest_88 : decode cMO_digest 88 = .ok (.laload, 1) := by decide +kernel
theorem dMO_digest_89 : decode cMO_digest 89 = .ok (.bipush 32, 2) := by decide +kernel
theorem dMO_digest_91 : decode cMO_digest 91 = .ok (.lushr, 1) := by decide +kernel
theorem dMO_digest_92 : decode cMO_digest 92 = .ok (.invokestatic 192, 3) := by decide +kernel
theorem dMO_digest_95 : decode cMO_digest 95 = .ok (.lstore 4, 2) := by decide +kernel
theorem dMO_digest_97 : decode cMO_digest 97 = .ok (.iinc 6 (-1), 3) := by decide +kernel
theorem dMO_digest_100 : decode cMO_digest 100 = .ok (.goto (-47), 3) := by decide +kernel
theorem dMO_digest_103 : decode cMO_digest 103 = .ok (.lload 4, 2) := by decide +kernel
theorem dMO_digest_105 : decode cMO_digest 105 = .ok (.lreturn, 1) := by decide +kernel
theorem dMO_further_0 : decode cMO_further 0 = .ok (.lload_n 0, 1) := by decide +kernel
theorem dMO_further_1 : decode cMO_further 1 = .ok (.bipush 31, 2) := by decide +kernel
theorem dMO_further_3 : decode cMO_further 3 = .ok (.lshr, 1) := by decide +kernel
theorem dMO_further_4 : decode cMO_further 4 = .ok (.ldc2_w 182, 3) := by decide +kernel
theorem dMO_further_7 : decode cMO_further 7 = .ok (.lmul, 1) := by decide +kernel
theorem dMO_further_8 : decode cMO_further 8 = .ok (.lstore 4, 2) := by decide +kernel
theorem dMO_further_10 : decode cMO_further 10 = .ok (.lload_n 0, 1) := by decide +kernel
theorem dMO_further_11 : decode cMO_further 11 = .ok (.ldc2_w 184, 3) := by decide +kernel
theorem dMO_further_14 : decode cMO_further 14 = .ok (.land, 1) := by decide +kernel
theorem dMO_further_15 : decode cMO_further 15 = .ok (.ldc2_w 182, 3) := by decide +kernel
theorem dMO_further_18 : decode cMO_further 18 = .ok (.lmul, 1) := by decide +kernel
theorem dMO_further_19 : decode cMO_further 19 = .ok (.lstore 6, 2) := by decide +kernel
theorem dMO_further_21 : decode cMO_further 21 = .ok (.lload 4, 2) := by decide +kernel
theorem dMO_further_23 : decode cMO_further 23 = .ok (.bipush 30, 2) := by decide +kernel
theorem dMO_further_25 : decode cMO_further 25 = .ok (.lshr, 1) := by decide +kernel
theorem dMO_further_26 : decode cMO_further 26 = .ok (.lload 4, 2) := by decide +kernel
theorem dMO_further_28 : decode cMO_further 28 = .ok (.ldc2_w 186, 3) := by decide +kernel
theorem dMO_further_31 : decode cMO_further 31 = .ok (.land, 1) := by decide +kernel
theorem dMO_further_32 : decode cMO_further 32 = .ok (.bipush 31, 2) := by decide +kernel
theorem dMO_further_34 : decode cMO_further 34 = .ok (.lshl, 1) := by decide +kernel
theorem dMO_further_35 : decode cMO_further 35 = .ok (.ladd, 1) := by decide +kernel
theorem dMO_further_36 : decode cMO_further 36 = .ok (.lload 6, 2) := by decide +kernel
theorem dMO_further_38 : decode cMO_further 38 = .ok (.ladd, 1) := by decide +kernel
theorem dMO_further_39 : decode cMO_further 39 = .ok (.lload_n 2, 1) := by decide +kernel
theorem dMO_further_40 : decode cMO_further 40 = .ok (.ladd, 1) := by decide +kernel
theorem dMO_further_41 : decode cMO_further 41 = .ok (.lstore 8, 2) := by decide +kernel
theorem dMO_further_43 : decode cMO_further 43 = .ok (.lload 8, 2) := by decide +kernel
theorem dMO_further_45 : decode cMO_further 45 = .ok (.bipush 61, 2) := by decide +kernel
theorem dMO_further_47 : decode cMO_further 47 = .ok (.lshr, 1) := by decide +kernel
theorem dMO_further_48 : decode cMO_further 48 = .ok (.lload 8, 2) := by decide +kernel
theorem dMO_further_50 : decode cMO_further 50 = .ok (.ldc2_w 188, 3) := by decide +kernel
theorem dMO_further_53 : decode cMO_further 53 = .ok (.land, 1) := by decide +kernel
theorem dMO_further_54 : decode cMO_further 54 = .ok (.ladd, 1) := by decide +kernel
theorem dMO_further_55 : decode cMO_further 55 = .ok (.lstore 8, 2) := by decide +kernel
theorem dMO_further_57 : decode cMO_further 57 = .ok (.lload 8, 2) := by decide +kernel
theorem dMO_further_59 : decode cMO_further 59 = .ok (.ldc2_w 188, 3) := by decide +kernel
theorem dMO_further_62 : decode cMO_further 62 = .ok (.lcmp, 1) := by decide +kernel
theorem dMO_further_63 : decode cMO_further 63 = .ok (.ifCond .lt 12, 3) := by decide +kernel
theorem dMO_further_66 : decode cMO_further 66 = .ok (.lload 8, 2) := by decide +kernel
theorem dMO_further_68 : decode cMO_further 68 = .ok (.ldc2_w 188, 3) := by decide +kernel
theorem dMO_further_71 : decode cMO_further 71 = .ok (.lsub, 1) := by decide +kernel
theorem dMO_further_72 : decode cMO_further 72 = .ok (.goto 5, 3) := by decide +kernel
theorem dMO_further_75 : decode cMO_further 75 = .ok (.lload 8, 2) := by decide +kernel
theorem dMO_further_77 : decode cMO_further 77 = .ok (.lreturn, 1) := by decide +kernel
theorem dMO_cipher_0 : decode cMO_cipher 0 = .ok (.aload_n 0, 1) := by decide +kernel
theorem dMO_cipher_1 : decode cMO_cipher 1 = .ok (.iload_n 1, 1) := by decide +kernel
theorem dMO_cipher_2 : decode cMO_cipher 2 = .ok (.invokestatic 164, 3) := by decide +kernel
theorem dMO_cipher_5 : decode cMO_cipher 5 = .ok (.ifCond .eq 7, 3) := by decide +kernel
theorem dMO_cipher_8 : decode cMO_cipher 8 = .ok (.iconst 0, 1) := by decide +kernel
theorem dMO_cipher_9 : decode cMO_cipher 9 = .ok (.goto 4, 3) := by decide +kernel
theorem dMO_cipher_12 : decode cMO_cipher 12 = .ok (.iconst 1, 1) := by decide +kernel
theorem dMO_cipher_13 : decode cMO_cipher 13 = .ok (.putfield 87, 3) := by decide +kernel
theorem dMO_cipher_16 : decode cMO_cipher 16 = .ok (.aload_n 0, 1) := by decide +kernel
theorem dMO_cipher_17 : decode cMO_cipher 17 = .ok (.getfield 87, 3) := by decide +kernel
theorem dMO_cipher_20 : decode cMO_cipher 20 = .ok (.ifCond .le 5, 3) := by decide +kernel
theorem dMO_cipher_23 : decode cMO_cipher 23 = .ok (.lconst 0, 1) := by decide +kernel
theorem dMO_cipher_24 : decode cMO_cipher 24 = .ok (.lreturn, 1) := by decide +kernel
theorem dMO_cipher_25 : decode cMO_cipher 25 = .ok (.aload_n 0, 1) := by decide +kernel
theorem dMO_cipher_26 : decode cMO_cipher 26 = .ok (.iload_n 1, 1) := by decide +kernel
theorem dMO_cipher_27 : decode cMO_cipher 27 = .ok (.lload_n 2, 1) := by decide +kernel
theorem dMO_cipher_28 : decode cMO_cipher 28 = .ok (.lload 4, 2) := by decide +kernel
theorem dMO_cipher_30 : decode cMO_cipher 30 = .ok (.invokevirtual 102, 3) := by decide +kernel
theorem dMO_cipher_33 : decode cMO_cipher 33 = .ok (.aload_n 0, 1) := by decide +kernel
theorem dMO_cipher_34 : decode cMO_cipher 34 = .ok (.iload 6, 2) := by decide +kernel
theorem dMO_cipher_36 : decode cMO_cipher 36 = .ok (.ifCond .eq 7, 3) := by decide +kernel
theorem dMO_cipher_39 : decode cMO_cipher 39 = .ok (.iconst 0, 1) := by decide +kernel
theorem dMO_cipher_40 : decode cMO_cipher 40 = .ok (.goto 5, 3) := by decide +kernel
theorem dMO_cipher_43 : decode cMO_cipher 43 = .ok (.bipush 8, 2) := by decide +kernel
theorem dMO_cipher_45 : decode cMO_cipher 45 = .ok (.invokevirtual 106, 3) := by decide +kernel
theorem dMO_cipher_48 : decode cMO_cipher 48 = .ok (.lreturn, 1) := by decide +kernel
theorem dMO_count_0 : decode cMO_count 0 = .ok (.aload_n 0, 1) := by decide +kernel
theorem dMO_count_1 : decode cMO_count 1 = .ok (.iconst 0, 1) := by decide +kernel
theorem dMO_count_2 : decode cMO_count 2 = .ok (.putfield 87, 3) := by decide +kernel
theorem dMO_count_5 : decode cMO_count 5 = .ok (.iload_n 1, 1) := by decide +kernel
theorem dMO_count_6 : decode cMO_count 6 = .ok (.invokestatic 164, 3) := by decide +kernel
theorem dMO_count_9 : decode cMO_count 9 = .ok (.ifCond .ne 5, 3) := by decide +kernel
theorem dMO_count_12 : decode cMO_count 12 = .ok (.iconst (-1), 1) := by decide +kernel
theorem dMO_count_13 : decode cMO_count 13 = .ok (.ireturn, 1) := by decide +kernel
theorem dMO_count_14 : decode cMO_count 14 = .ok (.iload_n 2, 1) := by decide +kernel
theorem dMO_count_15 : decode cMO_count 15 = .ok (.tableswitch 126 0 7 #[45, 52, 79, 85, 92, 99, 106, 120], 45) := by decide +kernel
theorem dMO_count_60 : decode cMO_count 60 = .ok (.aload_n 0, 1) := by decide +kernel
theorem dMO_count_61 : decode cMO_count 61 = .ok (.getfield 16, 3) := by decide +kernel
theorem dMO_count_64 : decode cMO_count 64 = .ok (.iload_n 1, 1) := by decide +kernel
theorem dMO_count_65 : decode cMO_count 65 = .ok (.iaload, 1) := by decide +kernel
theorem dMO_count_66 : decode cMO_count 66 = .ok (.ireturn, 1) := by decide +kernel
theorem dMO_count_67 : decode cMO_count 67 = .ok (.aload_n 0, 1) := by decide +kernel
theorem dMO_count_68 : decode cMO_count 68 = .ok (.getfield 16, 3) := by decide +kernel
theorem dMO_count_71 : decode cMO_count 71 = .ok (.iload_n 1, 1) := by decide +kernel
theorem dMO_count_72 : decode cMO_count 72 = .ok (.iaload, 1) := by decide +kernel
theorem dMO_count_73 : decode cMO_count 73 = .ok (.bipush 9, 2) := by decide +kernel
theorem dMO_count_75 : decode cMO_count 75 = .ok (.if_icmp .ge 7, 3) := by decide +kernel
theorem dMO_count_78 : decode cMO_count 78 = .ok (.iconst 0, 1) := by decide +kernel
theorem dMO_count_79 : decode cMO_count 79 = .ok (.goto 14, 3) := by decide +kernel
theorem dMO_count_82 : decode cMO_count 82 = .ok (.aload_n 0, 1) := by decide +kernel
theorem dMO_count_83 : decode cMO_count 83 = .ok (.getfield 16, 3) := by decide +kernel
theorem dMO_count_86 : decode cMO_count 86 = .ok (.iload_n 1, 1) := by decide +kernel
theorem dMO_count_87 : decode cMO_count 87 = .ok (.iaload, 1) := by decide +kernel
theorem dMO_count_88 : decode cMO_count 88 = .ok (.bipush 9, 2) := by decide +kernel
theorem dMO_count_90 : decode cMO_count 90 = .ok (.isub, 1) := by decide +kernel
theorem dMO_count_91 : decode cMO_count 91 = .ok (.iconst 1, 1) := by decide +kernel
theorem dMO_count_92 : decode cMO_count 92 = .ok (.iadd, 1) := by decide +kernel
theorem dMO_count_93 : decode cMO_count 93 = .ok (.ireturn, 1) := by decide +kernel
theorem dMO_count_94 : decode cMO_count 94 = .ok (.aload_n 0, 1) := by decide +kernel
theorem dMO_count_95 : decode cMO_count 95 = .ok (.iload_n 1, 1) := by decide +kernel
theorem dMO_count_96 : decode cMO_count 96 = .ok (.invokevirtual 173, 3) := by decide +kernel
theorem dMO_count_99 : decode cMO_count 99 = .ok (.ireturn, 1) := by decide +kernel
theorem dMO_count_100 : decode cMO_count 100 = .ok (.aload_n 0, 1) := by decide +kernel
theorem dMO_count_101 : decode cMO_count 101 = .ok (.getfield 20, 3) := by decide +kernel
theorem dMO_count_104 : decode cMO_count 104 = .ok (.iload_n 1, 1) := by decide +kernel
theorem dMO_count_105 : decode cMO_count 105 = .ok (.iaload, 1) := by decide +kernel
theorem dMO_count_106 : decode cMO_count 106 = .ok (.ireturn, 1) := by decide +kernel
theorem dMO_count_107 : decode cMO_count 107 = .ok (.aload_n 0, 1) := by decide +kernel
theorem dMO_count_108 : decode cMO_count 108 = .ok (.getfield 26, 3) := by decide +kernel
theorem dMO_count_111 : decode cMO_count 111 = .ok (.iload_n 1, 1) := by decide +kernel
theorem dMO_count_112 : decode cMO_count 112 = .ok (.iaload, 1) := by decide +kernel
theorem dMO_count_113 : decode cMO_count 113 = .ok (.ireturn, 1) := by decide +kernel
theorem dMO_count_114 : decode cMO_count 114 = .ok (.aload_n 0, 1) := by decide +kernel
theorem dMO_count_115 : decode cMO_count 115 = .ok (.getfield 29, 3) := by decide +kernel
theorem dMO_count_118 : decode cMO_count 118 = .ok (.iload_n 1, 1) := by decide +kernel
theorem dMO_count_119 : decode cMO_count 119 = .ok (.iaload, 1) := by decide +kernel
theorem dMO_count_120 : decode cMO_count 120 = .ok (.ireturn, 1) := by decide +kernel
theorem dMO_count_121 : decode cMO_count 121 = .ok (.aload_n 0, 1) := by decide +kernel
theorem dMO_count_122 : decode cMO_count 122 = .ok (.iload_n 1, 1) := by decide +kernel
theorem dMO_count_123 : decode cMO_count 123 = .ok (.invokevirtual 157, 3) := by decide +kernel
theorem dMO_count_126 : decode cMO_count 126 = .ok (.ifCond .eq 7, 3) := by decide +kernel
theorem dMO_count_129 : decode cMO_count 129 = .ok (.iconst 1, 1) := by decide +kernel
theorem dMO_count_130 : decode cMO_count 130 = .ok (.goto 4, 3) := by decide +kernel
theorem dMO_count_133 : decode cMO_count 133 = .ok (.iconst 0, 1) := by decide +kernel
theorem dMO_count_134 : decode cMO_count 134 = .ok (.ireturn, 1) := by decide +kernel
theorem dMO_count_135 : decode cMO_count 135 = .ok (.aload_n 0, 1) := by decide +kernel
theorem dMO_count_136 : decode cMO_count 136 = .ok (.iload_n 1, 1) := by decide +kernel
theorem dMO_count_137 : decode cMO_count 137 = .ok (.invokevirtual 196, 3) := by decide +kernel
theorem dMO_count_140 : decode cMO_count 140 = .ok (.ireturn, 1) := by decide +kernel
theorem dMO_count_141 : decode cMO_count 141 = .ok (.iconst (-1), 1) := by decide +kernel
theorem dMO_count_142 : decode cMO_count 142 = .ok (.ireturn, 1) := by decide +kernel
theorem dMO_chosen_0 : decode cMO_chosen 0 = .ok (.aload_n 0, 1) := by decide +kernel
theorem dMO_chosen_1 : decode cMO_chosen 1 = .ok (.iload_n 1, 1) := by decide +kernel
theorem dMO_chosen_2 : decode cMO_chosen 2 = .ok (.invokevirtual 157, 3) := by decide +kernel
theorem dMO_chosen_5 : decode cMO_chosen 5 = .ok (.ifCond .ne 5, 3) := by decide +kernel
theorem dMO_chosen_8 : decode cMO_chosen 8 = .ok (.iconst (-1), 1) := by decide +kernel
theorem dMO_chosen_9 : decode cMO_chosen 9 = .ok (.ireturn, 1) := by decide +kernel
theorem dMO_chosen_10 : decode cMO_chosen 10 = .ok (.aload_n 0, 1) := by decide +kernel
theorem dMO_chosen_11 : decode cMO_chosen 11 = .ok (.iload_n 1, 1) := by decide +kernel
theorem dMO_chosen_12 : decode cMO_chosen 12 = .ok (.invokevirtual 179, 3) := by decide +kernel
theorem dMO_chosen_15 : decode cMO_chosen 15 = .ok (.iconst 0, 1) := by decide +kernel
theorem dMO_chosen_16 : decode cMO_chosen 16 = .ok (.istore_n 2, 1) := by decide +kernel
theorem dMO_chosen_17 : decode cMO_chosen 17 = .ok (.iconst 0, 1) := by decide +kernel
theorem dMO_chosen_18 : decode cMO_chosen 18 = .ok (.istore_n 3, 1) := by decide +kernel
theorem dMO_chosen_19 : decode cMO_chosen 19 = .ok (.iload_n 3, 1) := by decide +kernel
theorem dMO_chosen_20 : decode cMO_chosen 20 = .ok (.sipush 256, 3) := by decide +kernel
theorem dMO_chosen_23 : decode cMO_chosen 23 = .ok (.if_icmp .ge 32, 3) := by decide +kernel
theorem dMO_chosen_26 : decode cMO_chosen 26 = .ok (.iload_n 2, 1) := by decide +kernel
theorem dMO_chosen_27 : decode cMO_chosen 27 = .ok (.aload_n 0, 1) := by decide +kernel
theorem dMO_chosen_28 : decode cMO_chosen 28 = .ok (.getfield 42, 3) := by decide +kernel
theorem dMO_chosen_31 : decode cMO_chosen 31 = .ok (.sipush 256, 3) := by decide +kernel
theorem dMO_chosen_34 : decode cMO_chosen 34 = .ok (.iload_n 1, 1) := by decide +kernel
theorem dMO_chosen_35 : decode cMO_chosen 35 = .ok (.imul, 1) := by decide +kernel
theorem dMO_chosen_36 : decode cMO_chosen 36 = .ok (.iload_n 3, 1) := by decide +kernel
theorem dMO_chosen_37 : decode cMO_chosen 37 = .ok (.iadd, 1) := by decide +kernel
theorem dMO_chosen_38 : decode cMO_chosen 38 = .ok (.baload, 1) := by decide +kernel
theorem dMO_chosen_39 : decode cMO_chosen 39 = .ok (.ifCond .eq 7, 3) := by decide +kernel
theorem dMO_chosen_42 : decode cMO_chosen 42 = .ok (.iconst 1, 1) := by decide +kernel
theorem dMO_chosen_43 : decode cMO_chosen 43 = .ok (.goto 4, 3) := by decide +kernel
theorem dMO_chosen_46 : decode cMO_chosen 46 = .ok (.iconst 0, 1) := by decide +kernel
theorem dMO_chosen_47 : decode cMO_chosen 47 = .ok (.iadd, 1) := by decide +kernel
theorem dMO_chosen_48 : decode cMO_chosen 48 = .ok (.istore_n 2, 1) := by decide +kernel
theorem dMO_chosen_49 : decode cMO_chosen 49 = .ok (.iinc 3 1, 3) := by decide +kernel
theorem dMO_chosen_52 : decode cMO_chosen 52 = .ok (.goto (-33), 3) := by decide +kernel
theorem dMO_chosen_55 : decode cMO_chosen 55 = .ok (.iload_n 2, 1) := by decide +kernel
theorem dMO_chosen_56 : decode cMO_chosen 56 = .ok (.ireturn, 1) := by decide +kernel
theorem dLW_put_0 : decode cLW_put 0 = .ok (.aload_n 0, 1) := by decide +kernel
theorem dLW_put_1 : decode cLW_put 1 = .ok (.iload_n 1, 1) := by decide +kernel
theorem dLW_put_2 : decode cLW_put 2 = .ok (.iload_n 2, 1) := by decide +kernel
theorem dLW_put_3 : decode cLW_put 3 = .ok (.lload_n 3, 1) := by decide +kernel
theorem dLW_put_4 : decode cLW_put 4 = .ok (.invokevirtual 7, 3) := by decide +kernel
theorem dLW_put_7 : decode cLW_put 7 = .ok (.goto 7, 3) := by decide +kernel
theorem dLW_put_10 : decode cLW_put 10 = .ok (.astore 5, 2) := by decide +kernel
theorem dLW_put_12 : decode cLW_put 12 = .ok (.iconst 1, 1) := by decide +kernel
theorem dLW_put_13 : decode cLW_put 13 = .ok (.ireturn, 1) := by decide +kernel
theorem dLW_put_14 : decode cLW_put 14 = .ok (.iconst 0, 1) := by decide +kernel
theorem dLW_put_15 : decode cLW_put 15 = .ok (.ireturn, 1) := by decide +kernel
theorem dLW_close_0 : decode cLW_close 0 = .ok (.aload_n 2, 1) := by decide +kernel
theorem dLW_close_1 : decode cLW_close 1 = .ok (.iconst 0, 1) := by decide +kernel
theorem dLW_close_2 : decode cLW_close 2 = .ok (.aload_n 0, 1) := by decide +kernel
theorem dLW_close_3 : decode cLW_close 3 = .ok (.iload_n 1, 1) := by decide +kernel
theorem dLW_close_4 : decode cLW_close 4 = .ok (.invokevirtual 15, 3) := by decide +kernel
theorem dLW_close_7 : decode cLW_close 7 = .ok (.i2l, 1) := by decide +kernel
theorem dLW_close_8 : decode cLW_close 8 = .ok (.lastore, 1) := by decide +kernel
theorem dLW_close_9 : decode cLW_close 9 = .ok (.goto 6, 3) := by decide +kernel
theorem dLW_close_12 : decode cLW_close 12 = .ok (.astore_n 3, 1) := by decide +kernel
theorem dLW_close_13 : decode cLW_close 13 = .ok (.iconst 1, 1) := by decide +kernel
theorem dLW_close_14 : decode cLW_close 14 = .ok (.ireturn, 1) := by decide +kernel
theorem dLW_close_15 : decode cLW_close 15 = .ok (.iconst 0, 1) := by decide +kernel
theorem dLW_close_16 : decode cLW_close 16 = .ok (.ireturn, 1) := by decide +kernel
theorem dLW_makeKeys_0 : decode cLW_makeKeys 0 = .ok (.aload_n 0, 1) := by decide +kernel
theorem dLW_makeKeys_1 : decode cLW_makeKeys 1 = .ok (.iload_n 1, 1) := by decide +kernel
theorem dLW_makeKeys_2 : decode cLW_makeKeys 2 = .ok (.lload_n 2, 1) := by decide +kernel
theorem dLW_makeKeys_3 : decode cLW_makeKeys 3 = .ok (.lload 4, 2) := by decide +kernel
theorem dLW_makeKeys_5 : decode cLW_makeKeys 5 = .ok (.lload 6, 2) := by decide +kernel
theorem dLW_makeKeys_7 : decode cLW_makeKeys 7 = .ok (.lload 8, 2) := by decide +kernel
theorem dLW_makeKeys_9 : decode cLW_makeKeys 9 = .ok (.lload 10, 2) := by decide +kernel
theorem dLW_makeKeys_11 : decode cLW_makeKeys 11 = .ok (.invokevirtual 19, 3) := by decide +kernel
theorem dLW_makeKeys_14 : decode cLW_makeKeys 14 = .ok (.goto 7, 3) := by decide +kernel
theorem dLW_makeKeys_17 : decode cLW_makeKeys 17 = .ok (.astore 12, 2) := by decide +kernel
theorem dLW_makeKeys_19 : decode cLW_makeKeys 19 = .ok (.iconst 1, 1) := by decide +kernel
theorem dLW_makeKeys_20 : decode cLW_makeKeys 20 = .ok (.ireturn, 1) := by decide +kernel
theorem dLW_makeKeys_21 : decode cLW_makeKeys 21 = .ok (.iconst 0, 1) := by decide +kernel
theorem dLW_makeKeys_22 : decode cLW_makeKeys 22 = .ok (.ireturn, 1) := by decide +kernel
theorem dLW_keyByte_0 : decode cLW_keyByte 0 = .ok (.aload_n 3, 1) := by decide +kernel
theorem dLW_keyByte_1 : decode cLW_keyByte 1 = .ok (.iconst 0, 1) := by decide +kernel
theorem dLW_keyByte_2 : decode cLW_keyByte 2 = .ok (.aload_n 0, 1) := by decide +kernel
theorem dLW_keyByte_3 : decode cLW_keyByte 3 = .ok (.iload_n 1, 1) := by decide +kernel
theorem dLW_keyByte_4 : decode cLW_keyByte 4 = .ok (.iload_n 2, 1) := by decide +kernel
theorem dLW_keyByte_5 : decode cLW_keyByte 5 = .ok (.invokevirtual 23, 3) := by decide +kernel
theorem dLW_keyByte_8 : decode cLW_keyByte 8 = .ok (.i2l, 1) := by decide +kernel
theorem dLW_keyByte_9 : decode cLW_keyByte 9 = .ok (.lastore, 1) := by decide +kernel
theorem dLW_keyByte_10 : decode cLW_keyByte 10 = .ok (.goto 7, 3) := by decide +kernel
theorem dLW_keyByte_13 : decode cLW_keyByte 13 = .ok (.astore 4, 2) := by decide +kernel
theorem dLW_keyByte_15 : decode cLW_keyByte 15 = .ok (.iconst 1, 1) := by decide +kernel
theorem dLW_keyByte_16 : decode cLW_keyByte 16 = .ok (.ireturn, 1) := by decide +kernel
theorem dLW_keyByte_17 : decode cLW_keyByte 17 = .ok (.iconst 0, 1) := by decide +kernel
theorem dLW_keyByte_18 : decode cLW_keyByte 18 = .ok (.ireturn, 1) := by decide +kernel
theorem dLW_setKeyByte_0 : decode cLW_setKeyByte 0 = .ok (.aload_n 0, 1) := by decide +kernel
theorem dLW_setKeyByte_1 : decode cLW_setKeyByte 1 = .ok (.iload_n 1, 1) := by decide +kernel
theorem dLW_setKeyByte_2 : decode cLW_setKeyByte 2 = .ok (.iload_n 2, 1) := by decide +kernel
theorem dLW_setKeyByte_3 : decode cLW_setKeyByte 3 = .ok (.iload_n 3, 1) := by decide +kernel
theorem dLW_setKeyByte_4 : decode cLW_setKeyByte 4 = .ok (.invokevirtual 29, 3) := by decide +kernel
theorem dLW_setKeyByte_7 : decode cLW_setKeyByte 7 = .ok (.goto 7, 3) := by decide +kernel
theorem dLW_setKeyByte_10 : decode cLW_setKeyByte 10 = .ok (.astore 4, 2) := by decide +kernel
theorem dLW_setKeyByte_12 : decode cLW_setKeyByte 12 = .ok (.iconst 1, 1) := by decide +kernel
theorem dLW_setKeyByte_13 : decode cLW_setKeyByte 13 = .ok (.ireturn, 1) := by decide +kernel
theorem dLW_setKeyByte_14 : decode cLW_setKeyByte 14 = .ok (.iconst 0, 1) := by decide +kernel
theorem dLW_setKeyByte_15 : decode cLW_setKeyByte 15 = .ok (.ireturn, 1) := by decide +kernel
theorem dLW_choice_0 : decode cLW_choice 0 = .ok (.aload_n 3, 1) := by decide +kernel
theorem dLW_choice_1 : decode cLW_choice 1 = .ok (.iconst 0, 1) := by decide +kernel
theorem dLW_choice_2 : decode cLW_choice 2 = .ok (.aload_n 0, 1) := by decide +kernel
theorem dLW_choice_3 : decode cLW_choice 3 = .ok (.iload_n 1, 1) := by decide +kernel
theorem dLW_choice_4 : decode cLW_choice 4 = .ok (.iload_n 2, 1) := by decide +kernel
theorem dLW_choice_5 : decode cLW_choice 5 = .ok (.invokevirtual 33, 3) := by decide +kernel
theorem dLW_choice_8 : decode cLW_choice 8 = .ok (.ifCond .eq 7, 3) := by decide +kernel
theorem dLW_choice_11 : decode cLW_choice 11 = .ok (.lconst 1, 1) := by decide +kernel
theorem dLW_choice_12 : decode cLW_choice 12 = .ok (.goto 4, 3) := by decide +kernel
theorem dLW_choice_15 : decode cLW_choice 15 = .ok (.lconst 0, 1) := by decide +kernel
theorem dLW_choice_16 : decode cLW_choice 16 = .ok (.lastore, 1) := by decide +kernel
theorem dLW_choice_17 : decode cLW_choice 17 = .ok (.goto 11, 3) := by decide +kernel
theorem dLW_choice_20 : decode cLW_choice 20 = .ok (.astore 4, 2) := by decide +kernel
theorem dLW_choice_22 : decode cLW_choice 22 = .ok (.iconst 1, 1) := by decide +kernel
theorem dLW_choice_23 : decode cLW_choice 23 = .ok (.ireturn, 1) := by decide +kernel
theorem dLW_choice_24 : decode cLW_choice 24 = .ok (.astore 4, 2) := by decide +kernel
theorem dLW_choice_26 : decode cLW_choice 26 = .ok (.iconst 2, 1) := by decide +kernel
theorem dLW_choice_27 : decode cLW_choice 27 = .ok (.ireturn, 1) := by decide +kernel
theorem dLW_choice_28 : decode cLW_choice 28 = .ok (.iconst 0, 1) := by decide +kernel
theorem dLW_choice_29 : decode cLW_choice 29 = .ok (.ireturn, 1) := by decide +kernel
theorem dLW_share_0 : decode cLW_share 0 = .ok (.aload_n 3, 1) := by decide +kernel
theorem dLW_share_1 : decode cLW_share 1 = .ok (.iconst 0, 1) := by decide +kernel
theorem dLW_share_2 : decode cLW_share 2 = .ok (.aload_n 0, 1) := by decide +kernel
theorem dLW_share_3 : decode cLW_share 3 = .ok (.iload_n 1, 1) := by decide +kernel
theorem dLW_share_4 : decode cLW_share 4 = .ok (.iload_n 2, 1) := by decide +kernel
theorem dLW_share_5 : decode cLW_share 5 = .ok (.invokevirtual 39, 3) := by decide +kernel
theorem dLW_share_8 : decode cLW_share 8 = .ok (.lastore, 1) := by decide +kernel
theorem dLW_share_9 : decode cLW_share 9 = .ok (.goto 11, 3) := by decide +kernel
theorem dLW_share_12 : decode cLW_share 12 = .ok (.astore 4, 2) := by decide +kernel
theorem dLW_share_14 : decode cLW_share 14 = .ok (.iconst 1, 1) := by decide +kernel
theorem dLW_share_15 : decode cLW_share 15 = .ok (.ireturn, 1) := by decide +kernel
theorem dLW_share_16 : decode cLW_share 16 = .ok (.astore 4, 2) := by decide +kernel
theorem dLW_share_18 : decode cLW_share 18 = .ok (.iconst 2, 1) := by decide +kernel
theorem dLW_share_19 : decode cLW_share 19 = .ok (.ireturn, 1) := by decide +kernel
theorem dLW_share_20 : decode cLW_share 20 = .ok (.iconst 0, 1) := by decide +kernel
theorem dLW_share_21 : decode cLW_share 21 = .ok (.ireturn, 1) := by decide +kernel
theorem dLW_query_0 : decode cLW_query 0 = .ok (.aload_n 3, 1) := by decide +kernel
theorem dLW_query_1 : decode cLW_query 1 = .ok (.iconst 0, 1) := by decide +kernel
theorem dLW_query_2 : decode cLW_query 2 = .ok (.aload_n 0, 1) := by decide +kernel
theorem dLW_query_3 : decode cLW_query 3 = .ok (.iload_n 1, 1) := by decide +kernel
theorem dLW_query_4 : decode cLW_query 4 = .ok (.iload_n 2, 1) := by decide +kernel
theorem dLW_query_5 : decode cLW_query 5 = .ok (.invokevirtual 43, 3) := by decide +kernel
theorem dLW_query_8 : decode cLW_query 8 = .ok (.lastore, 1) := by decide +kernel
theorem dLW_query_9 : decode cLW_query 9 = .ok (.goto 11, 3) := by decide +kernel
theorem dLW_query_12 : decode cLW_query 12 = .ok (.astore 4, 2) := by decide +kernel
theorem dLW_query_14 : decode cLW_query 14 = .ok (.iconst 1, 1) := by decide +kernel
theorem dLW_query_15 : decode cLW_query 15 = .ok (.ireturn, 1) := by decide +kernel
theorem dLW_query_16 : decode cLW_query 16 = .ok (.astore 4, 2) := by decide +kernel
theorem dLW_query_18 : decode cLW_query 18 = .ok (.iconst 2, 1) := by decide +kernel
theorem dLW_query_19 : decode cLW_query 19 = .ok (.ireturn, 1) := by decide +kernel
theorem dLW_query_20 : decode cLW_query 20 = .ok (.iconst 0, 1) := by decide +kernel
theorem dLW_query_21 : decode cLW_query 21 = .ok (.ireturn, 1) := by decide +kernel
theorem dLW_deposit_0 : decode cLW_deposit 0 = .ok (.aload_n 0, 1) := by decide +kernel
theorem dLW_deposit_1 : decode cLW_deposit 1 = .ok (.iload_n 1, 1) := by decide +kernel
theorem dLW_deposit_2 : decode cLW_deposit 2 = .ok (.invokevirtual 46, 3) := by decide +kernel
theorem dLW_deposit_5 : decode cLW_deposit 5 = .ok (.goto 9, 3) := by decide +kernel
theorem dLW_deposit_8 : decode cLW_deposit 8 = .ok (.astore_n 2, 1) := by decide +kernel
theorem dLW_deposit_9 : decode cLW_deposit 9 = .ok (.iconst 1, 1) := by decide +kernel
theorem dLW_deposit_10 : decode cLW_deposit 10 = .ok (.ireturn, 1) := by decide +kernel
theorem dLW_deposit_11 : decode cLW_deposit 11 = .ok (.astore_n 2, 1) := by decide +kernel
theorem dLW_deposit_12 : decode cLW_deposit 12 = .ok (.iconst 2, 1) := by decide +kernel
theorem dLW_deposit_13 : decode cLW_deposit 13 = .ok (.ireturn, 1) := by decide +kernel
theorem dLW_deposit_14 : decode cLW_deposit 14 = .ok (.iconst 0, 1) := by decide +kernel
theorem dLW_deposit_15 : decode cLW_deposit 15 = .ok (.ireturn, 1) := by decide +kernel
theorem dLW_mailbox_0 : decode cLW_mailbox 0 = .ok (.aload_n 3, 1) := by decide +kernel
theorem dLW_mailbox_1 : decode cLW_mailbox 1 = .ok (.iconst 0, 1) := by decide +kernel
theorem dLW_mailbox_2 : decode cLW_mailbox 2 = .ok (.aload_n 0, 1) := by decide +kernel
theorem dLW_mailbox_3 : decode cLW_mailbox 3 = .ok (.iload_n 1, 1) := by decide +kernel
theorem dLW_mailbox_4 : decode cLW_mailbox 4 = .ok (.iload_n 2, 1) := by decide +kernel
theorem dLW_mailbox_5 : decode cLW_mailbox 5 = .ok (.invokevirtual 50, 3) := by decide +kernel
theorem dLW_mailbox_8 : decode cLW_mailbox 8 = .ok (.lastore, 1) := by decide +kernel
theorem dLW_mailbox_9 : decode cLW_mailbox 9 = .ok (.goto 7, 3) := by decide +kernel
theorem dLW_mailbox_12 : decode cLW_mailbox 12 = .ok (.astore 4, 2) := by decide +kernel
theorem dLW_mailbox_14 : decode cLW_mailbox 14 = .ok (.iconst 1, 1) := by decide +kernel
theorem dLW_mailbox_15 : decode cLW_mailbox 15 = .ok (.ireturn, 1) := by decide +kernel
theorem dLW_mailbox_16 : decode cLW_mailbox 16 = .ok (.iconst 0, 1) := by decide +kernel
theorem dLW_mailbox_17 : decode cLW_mailbox 17 = .ok (.ireturn, 1) := by decide +kernel
theorem dLW_record_0 : decode cLW_record 0 = .ok (.aload 4, 2) := by decide +kernel
theorem dLW_record_2 : decode cLW_record 2 = .ok (.iconst 0, 1) := by decide +kernel
theorem dLW_record_3 : decode cLW_record 3 = .ok (.aload_n 0, 1) := by decide +kernel
theorem dLW_record_4 : decode cLW_record 4 = .ok (.iload_n 1, 1) := by decide +kernel
theorem dLW_record_5 : decode cLW_record 5 = .ok (.iload_n 2, 1) := by decide +kernel
theorem dLW_record_6 : decode cLW_record 6 = .ok (.iload_n 3, 1) := by decide +kernel
theorem dLW_record_7 : decode cLW_record 7 = .ok (.invokevirtual 53, 3) := by decide +kernel
theorem dLW_record_10 : decode cLW_record 10 = .ok (.lastore, 1) := by decide +kernel
theorem dLW_record_11 : decode cLW_record 11 = .ok (.goto 11, 3) := by decide +kernel
theorem dLW_record_14 : decode cLW_record 14 = .ok (.astore 5, 2) := by decide +kernel
theorem dLW_record_16 : decode cLW_record 16 = .ok (.iconst 1, 1) := by decide +kernel
theorem dLW_record_17 : decode cLW_record 17 = .ok (.ireturn, 1) := by decide +kernel
theorem dLW_record_18 : decode cLW_record 18 = .ok (.astore 5, 2) := by decide +kernel
theorem dLW_record_20 : decode cLW_record 20 = .ok (.iconst 2, 1) := by decide +kernel
theorem dLW_record_21 : decode cLW_record 21 = .ok (.ireturn, 1) := by decide +kernel
theorem dLW_record_22 : decode cLW_record 22 = .ok (.iconst 0, 1) := by decide +kernel
theorem dLW_record_23 : decode cLW_record 23 = .ok (.ireturn, 1) := by decide +kernel
theorem dLW_digest_0 : decode cLW_digest 0 = .ok (.aload_n 3, 1) := by decide +kernel
theorem dLW_digest_1 : decode cLW_digest 1 = .ok (.iconst 0, 1) := by decide +kernel
theorem dLW_digest_2 : decode cLW_digest 2 = .ok (.aload_n 0, 1) := by decide +kernel
theorem dLW_digest_3 : decode cLW_digest 3 = .ok (.iload_n 1, 1) := by decide +kernel
theorem dLW_digest_4 : decode cLW_digest 4 = .ok (.iload_n 2, 1) := by decide +kernel
theorem dLW_digest_5 : decode cLW_digest 5 = .ok (.invokevirtual 57, 3) := by decide +kernel
theorem dLW_digest_8 : decode cLW_digest 8 = .ok (.lastore, 1) := by decide +kernel
theorem dLW_digest_9 : decode cLW_digest 9 = .ok (.goto 11, 3) := by decide +kernel
theorem dLW_digest_12 : decode cLW_digest 12 = .ok (.astore 4, 2) := by decide +kernel
theorem dLW_digest_14 : decode cLW_digest 14 = .ok (.iconst 1, 1) := by decide +kernel
theorem dLW_digest_15 : decode cLW_digest 15 = .ok (.ireturn, 1) := by decide +kernel
theorem dLW_digest_16 : decode cLW_digest 16 = .ok (.astore 4, 2) := by decide +kernel
theorem dLW_digest_18 : decode cLW_digest 18 = .ok (.iconst 2, 1) := by decide +kernel
theorem dLW_digest_19 : decode cLW_digest 19 = .ok (.ireturn, 1) := by decide +kernel
theorem dLW_digest_20 : decode cLW_digest 20 = .ok (.iconst 0, 1) := by decide +kernel
theorem dLW_digest_21 : decode cLW_digest 21 = .ok (.ireturn, 1) := by decide +kernel
theorem dLW_cipher_0 : decode cLW_cipher 0 = .ok (.aload 7, 2) := by decide +kernel
theorem dLW_cipher_2 : decode cLW_cipher 2 = .ok (.iconst 0, 1) := by decide +kernel
theorem dLW_cipher_3 : decode cLW_cipher 3 = .ok (.aload_n 0, 1) := by decide +kernel
theorem dLW_cipher_4 : decode cLW_cipher 4 = .ok (.iload_n 1, 1) := by decide +kernel
theorem dLW_cipher_5 : decode cLW_cipher 5 = .ok (.lload_n 2, 1) := by decide +kernel
theorem dLW_cipher_6 : decode cLW_cipher 6 = .ok (.lload 4, 2) := by decide +kernel
theorem dLW_cipher_8 : decode cLW_cipher 8 = .ok (.iload 6, 2) := by decide +kernel
theorem dLW_cipher_10 : decode cLW_cipher 10 = .ok (.invokevirtual 60, 3) := by decide +kernel
theorem dLW_cipher_13 : decode cLW_cipher 13 = .ok (.lastore, 1) := by decide +kernel
theorem dLW_cipher_14 : decode cLW_cipher 14 = .ok (.goto 7, 3) := by decide +kernel
theorem dLW_cipher_17 : decode cLW_cipher 17 = .ok (.astore 8, 2) := by decide +kernel
theorem dLW_cipher_19 : decode cLW_cipher 19 = .ok (.iconst 1, 1) := by decide +kernel
theorem dLW_cipher_20 : decode cLW_cipher 20 = .ok (.ireturn, 1) := by decide +kernel
theorem dLW_cipher_21 : decode cLW_cipher 21 = .ok (.iconst 0, 1) := by decide +kernel
theorem dLW_cipher_22 : decode cLW_cipher 22 = .ok (.ireturn, 1) := by decide +kernel
