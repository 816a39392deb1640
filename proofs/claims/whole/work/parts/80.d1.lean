/-! law: decode rows -/
theorem dLW_law_0 : decode cLW_law 0 = .ok (.new 8, 3) := by decide +kernel
theorem dLW_law_3 : decode cLW_law 3 = .ok (.dup, 1) := by decide +kernel
theorem dLW_law_4 : decode cLW_law 4 = .ok (.invokespecial 64, 3) := by decide +kernel
theorem dLW_law_7 : decode cLW_law 7 = .ok (.astore_n 1, 1) := by decide +kernel
theorem dLW_law_8 : decode cLW_law 8 = .ok (.new 65, 3) := by decide +kernel
theorem dLW_law_11 : decode cLW_law 11 = .ok (.dup, 1) := by decide +kernel
theorem dLW_law_12 : decode cLW_law 12 = .ok (.invokespecial 67, 3) := by decide +kernel
theorem dLW_law_15 : decode cLW_law 15 = .ok (.astore_n 2, 1) := by decide +kernel
theorem dLW_law_16 : decode cLW_law 16 = .ok (.iconst 1, 1) := by decide +kernel
theorem dLW_law_17 : decode cLW_law 17 = .ok (.newarray .long, 2) := by decide +kernel
theorem dLW_law_19 : decode cLW_law 19 = .ok (.astore_n 3, 1) := by decide +kernel
theorem dLW_law_20 : decode cLW_law 20 = .ok (.iconst 0, 1) := by decide +kernel
theorem dLW_law_21 : decode cLW_law 21 = .ok (.istore 4, 2) := by decide +kernel
theorem dLW_law_23 : decode cLW_law 23 = .ok (.iload 4, 2) := by decide +kernel
theorem dLW_law_25 : decode cLW_law 25 = .ok (.aload_n 0, 1) := by decide +kernel
theorem dLW_law_26 : decode cLW_law 26 = .ok (.arraylength, 1) := by decide +kernel
theorem dLW_law_27 : decode cLW_law 27 = .ok (.bipush 12, 2) := by decide +kernel
theorem dLW_law_29 : decode cLW_law 29 = .ok (.isub, 1) := by decide +kernel
theorem dLW_law_30 : decode cLW_law 30 = .ok (.if_icmp .gt 1318, 3) := by decide +kernel
theorem dLW_law_33 : decode cLW_law 33 = .ok (.aload_n 0, 1) := by decide +kernel
theorem dLW_law_34 : decode cLW_law 34 = .ok (.iload 4, 2) := by decide +kernel
theorem dLW_law_36 : decode cLW_law 36 = .ok (.iaload, 1) := by decide +kernel
theorem dLW_law_37 : decode cLW_law 37 = .ok (.bipush 15, 2) := by decide +kernel
theorem dLW_law_39 : decode cLW_law 39 = .ok (.iand, 1) := by decide +kernel
theorem dLW_law_40 : decode cLW_law 40 = .ok (.tableswitch 1302 0 14 #[76, 168, 224, 492, 560, 620, 695, 762, 829, 843, 879, 946, 1025, 1092, 1265], 76) := by decide +kernel
theorem dLW_law_116 : decode cLW_law 116 = .ok (.aload_n 1, 1) := by decide +kernel
theorem dLW_law_117 : decode cLW_law 117 = .ok (.aload_n 0, 1) := by decide +kernel
theorem dLW_law_118 : decode cLW_law 118 = .ok (.iload 4, 2) := by decide +kernel
theorem dLW_law_120 : decode cLW_law 120 = .ok (.iconst 1, 1) := by decide +kernel
theorem dLW_law_121 : decode cLW_law 121 = .ok (.iadd, 1) := by decide +kernel
theorem dLW_law_122 : decode cLW_law 122 = .ok (.iaload, 1) := by decide +kernel
theorem dLW_law_123 : decode cLW_law 123 = .ok (.aload_n 0, 1) := by decide +kernel
theorem dLW_law_124 : decode cLW_law 124 = .ok (.iload 4, 2) := by decide +kernel
theorem dLW_law_126 : decode cLW_law 126 = .ok (.iconst 2, 1) := by decide +kernel
theorem dLW_law_127 : decode cLW_law 127 = .ok (.iadd, 1) := by decide +kernel
theorem dLW_law_128 : decode cLW_law 128 = .ok (.iaload, 1) := by decide +kernel
theorem dLW_law_129 : decode cLW_law 129 = .ok (.aload_n 0, 1) := by decide +kernel
theorem dLW_law_130 : decode cLW_law 130 = .ok (.iload 4, 2) := by decide +kernel
theorem dLW_law_132 : decode cLW_law 132 = .ok (.iconst 3, 1) := by decide +kernel
theorem dLW_law_133 : decode cLW_law 133 = .ok (.iadd, 1) := by decide +kernel
theorem dLW_law_134 : decode cLW_law 134 = .ok (.iaload, 1) := by decide +kernel
theorem dLW_law_135 : decode cLW_law 135 = .ok (.i2l, 1) := by decide +kernel
theorem dLW_law_136 : decode cLW_law 136 = .ok (.bipush 32, 2) := by decide +kernel
theorem dLW_law_138 : decode cLW_law 138 = .ok (.lshl, 1) := by decide +kernel
theorem dLW_law_139 : decode cLW_law 139 = .ok (.aload_n 0, 1) := by decide +kernel
theorem dLW_law_140 : decode cLW_law 140 = .ok (.iload 4, 2) := by decide +kernel
theorem dLW_law_142 : decode cLW_law 142 = .ok (.iconst 4, 1) := by decide +kernel
theorem dLW_law_143 : decode cLW_law 143 = .ok (.iadd, 1) := by decide +kernel
theorem dLW_law_144 : decode cLW_law 144 = .ok (.iaload, 1) := by decide +kernel
theorem dLW_law_145 : decode cLW_law 145 = .ok (.i2l, 1) := by decide +kernel
theorem dLW_law_146 : decode cLW_law 146 = .ok (.ldc2_w 68, 3) := by decide +kernel
theorem dLW_law_149 : decode cLW_law 149 = .ok (.land, 1) := by decide +kernel
theorem dLW_law_150 : decode cLW_law 150 = .ok (.lor, 1) := by decide +kernel
theorem dLW_law_151 : decode cLW_law 151 = .ok (.invokestatic 70, 3) := by decide +kernel
theorem dLW_law_154 : decode cLW_law 154 = .ok (.istore 5, 2) := by decide +kernel
theorem dLW_law_156 : decode cLW_law 156 = .ok (.aload_n 2, 1) := by decide +kernel
theorem dLW_law_157 : decode cLW_law 157 = .ok (.aload_n 0, 1) := by decide +kernel
theorem dLW_law_158 : decode cLW_law 158 = .ok (.iload 4, 2) := by decide +kernel
theorem dLW_law_160 : decode cLW_law 160 = .ok (.iconst 1, 1) := by decide +kernel
theorem dLW_law_161 : decode cLW_law 161 = .ok (.iadd, 1) := by decide +kernel
theorem dLW_law_162 : decode cLW_law 162 = .ok (.iaload, 1) := by decide +kernel
theorem dLW_law_163 : decode cLW_law 163 = .ok (.aload_n 0, 1) := by decide +kernel
theorem dLW_law_164 : decode cLW_law 164 = .ok (.iload 4, 2) := by decide +kernel
theorem dLW_law_166 : decode cLW_law 166 = .ok (.iconst 2, 1) := by decide +kernel
theorem dLW_law_167 : decode cLW_law 167 = .ok (.iadd, 1) := by decide +kernel
theorem dLW_law_168 : decode cLW_law 168 = .ok (.iaload, 1) := by decide +kernel
theorem dLW_law_169 : decode cLW_law 169 = .ok (.aload_n 0, 1) := by decide +kernel
theorem dLW_law_170 : decode cLW_law 170 = .ok (.iload 4, 2) := by decide +kernel
theorem dLW_law_172 : decode cLW_law 172 = .ok (.iconst 3, 1) := by decide +kernel
theorem dLW_law_173 : decode cLW_law 173 = .ok (.iadd, 1) := by decide +kernel
theorem dLW_law_174 : decode cLW_law 174 = .ok (.iaload, 1) := by decide +kernel
theorem dLW_law_175 : decode cLW_law 175 = .ok (.i2l, 1) := by decide +kernel
theorem dLW_law_176 : decode cLW_law 176 = .ok (.bipush 32, 2) := by decide +kernel
theorem dLW_law_178 : decode cLW_law 178 = .ok (.lshl, 1) := by decide +kernel
theorem dLW_law_179 : decode cLW_law 179 = .ok (.aload_n 0, 1) := by decide +kernel
theorem dLW_law_180 : decode cLW_law 180 = .ok (.iload 4, 2) := by decide +kernel
theorem dLW_law_182 : decode cLW_law 182 = .ok (.iconst 4, 1) := by decide +kernel
theorem dLW_law_183 : decode cLW_law 183 = .ok (.iadd, 1) := by decide +kernel
theorem dLW_law_184 : decode cLW_law 184 = .ok (.iaload, 1) := by decide +kernel
theorem dLW_law_185 : decode cLW_law 185 = .ok (.i2l, 1) := by decide +kernel
theorem dLW_law_186 : decode cLW_law 186 = .ok (.ldc2_w 68, 3) := by decide +kernel
theorem dLW_law_189 : decode cLW_law 189 = .ok (.land, 1) := by decide +kernel
theorem dLW_law_190 : decode cLW_law 190 = .ok (.lor, 1) := by decide +kernel
theorem dLW_law_191 : decode cLW_law 191 = .ok (.invokevirtual 75, 3) := by decide +kernel
theorem dLW_law_194 : decode cLW_law 194 = .ok (.aload_n 2, 1) := by decide +kernel
theorem dLW_law_195 : decode cLW_law 195 = .ok (.invokevirtual 76, 3) := by decide +kernel
theorem dLW_law_198 : decode cLW_law 198 = .ok (.iload 5, 2) := by decide +kernel
theorem dLW_law_200 : decode cLW_law 200 = .ok (.if_icmp .eq 5, 3) := by decide +kernel
theorem dLW_law_203 : decode cLW_law 203 = .ok (.iconst 0, 1) := by decide +kernel
theorem dLW_law_204 : decode cLW_law 204 = .ok (.ireturn, 1) := by decide +kernel
theorem dLW_law_205 : decode cLW_law 205 = .ok (.goto 1137, 3) := by decide +kernel
theorem dLW_law_208 : decode cLW_law 208 = .ok (.aload_n 1, 1) := by decide +kernel
theorem dLW_law_209 : decode cLW_law 209 = .ok (.aload_n 0, 1) := by decide +kernel
theorem dLW_law_210 : decode cLW_law 210 = .ok (.iload 4, 2) := by decide +kernel
theorem dLW_law_212 : decode cLW_law 212 = .ok (.iconst 1, 1) := by decide +kernel
theorem dLW_law_213 : decode cLW_law 213 = .ok (.iadd, 1) := by decide +kernel
