theorem d_w_law_0 : decode code 0 = .ok (.new 8, 3) := by decide +kernel
theorem d_w_law_3 : decode code 3 = .ok (.dup, 1) := by decide +kernel
theorem d_w_law_4 : decode code 4 = .ok (.invokespecial 77, 3) := by decide +kernel
theorem d_w_law_7 : decode code 7 = .ok (.astore_n 1, 1) := by decide +kernel
theorem d_w_law_8 : decode code 8 = .ok (.new 78, 3) := by decide +kernel
theorem d_w_law_11 : decode code 11 = .ok (.dup, 1) := by decide +kernel
theorem d_w_law_12 : decode code 12 = .ok (.invokespecial 80, 3) := by decide +kernel
theorem d_w_law_15 : decode code 15 = .ok (.astore_n 2, 1) := by decide +kernel
theorem d_w_law_16 : decode code 16 = .ok (.iconst 1, 1) := by decide +kernel
theorem d_w_law_17 : decode code 17 = .ok (.newarray .long, 2) := by decide +kernel
theorem d_w_law_19 : decode code 19 = .ok (.astore_n 3, 1) := by decide +kernel
theorem d_w_law_20 : decode code 20 = .ok (.iconst 0, 1) := by decide +kernel
theorem d_w_law_21 : decode code 21 = .ok (.istore 4, 2) := by decide +kernel
theorem d_w_law_23 : decode code 23 = .ok (.iload 4, 2) := by decide +kernel
theorem d_w_law_25 : decode code 25 = .ok (.aload_n 0, 1) := by decide +kernel
theorem d_w_law_26 : decode code 26 = .ok (.arraylength, 1) := by decide +kernel
theorem d_w_law_27 : decode code 27 = .ok (.iconst 5, 1) := by decide +kernel
theorem d_w_law_28 : decode code 28 = .ok (.isub, 1) := by decide +kernel
theorem d_w_law_29 : decode code 29 = .ok (.if_icmp .gt 1160, 3) := by decide +kernel
theorem d_w_law_32 : decode code 32 = .ok (.aload_n 0, 1) := by decide +kernel
theorem d_w_law_33 : decode code 33 = .ok (.iload 4, 2) := by decide +kernel
theorem d_w_law_35 : decode code 35 = .ok (.iaload, 1) := by decide +kernel
theorem d_w_law_36 : decode code 36 = .ok (.bipush 31, 2) := by decide +kernel
theorem d_w_law_38 : decode code 38 = .ok (.iand, 1) := by decide +kernel
theorem d_w_law_39 : decode code 39 = .ok (.tableswitch 1144 0 17 #[85, 129, 221, 257, 293, 329, 377, 445, 501, 557, 624, 691, 770, 837, 904, 984, 1052, 1119], 85) := by decide +kernel
theorem d_w_law_124 : decode code 124 = .ok (.aload_n 1, 1) := by decide +kernel
theorem d_w_law_125 : decode code 125 = .ok (.aload_n 3, 1) := by decide +kernel
theorem d_w_law_126 : decode code 126 = .ok (.invokestatic 81, 3) := by decide +kernel
theorem d_w_law_129 : decode code 129 = .ok (.istore 5, 2) := by decide +kernel
theorem d_w_law_131 : decode code 131 = .ok (.aload_n 2, 1) := by decide +kernel
theorem d_w_law_132 : decode code 132 = .ok (.invokevirtual 86, 3) := by decide +kernel
theorem d_w_law_135 : decode code 135 = .ok (.istore 6, 2) := by decide +kernel
theorem d_w_law_137 : decode code 137 = .ok (.aload_n 2, 1) := by decide +kernel
theorem d_w_law_138 : decode code 138 = .ok (.invokevirtual 87, 3) := by decide +kernel
theorem d_w_law_141 : decode code 141 = .ok (.iload 5, 2) := by decide +kernel
theorem d_w_law_143 : decode code 143 = .ok (.if_icmp .eq 5, 3) := by decide +kernel
theorem d_w_law_146 : decode code 146 = .ok (.iconst 0, 1) := by decide +kernel
theorem d_w_law_147 : decode code 147 = .ok (.ireturn, 1) := by decide +kernel
theorem d_w_law_148 : decode code 148 = .ok (.iload 5, 2) := by decide +kernel
theorem d_w_law_150 : decode code 150 = .ok (.ifCond .ne 15, 3) := by decide +kernel
theorem d_w_law_153 : decode code 153 = .ok (.aload_n 3, 1) := by decide +kernel
theorem d_w_law_154 : decode code 154 = .ok (.iconst 0, 1) := by decide +kernel
theorem d_w_law_155 : decode code 155 = .ok (.laload, 1) := by decide +kernel
theorem d_w_law_156 : decode code 156 = .ok (.iload 6, 2) := by decide +kernel
theorem d_w_law_158 : decode code 158 = .ok (.i2l, 1) := by decide +kernel
theorem d_w_law_159 : decode code 159 = .ok (.lcmp, 1) := by decide +kernel
theorem d_w_law_160 : decode code 160 = .ok (.ifCond .eq 5, 3) := by decide +kernel
theorem d_w_law_163 : decode code 163 = .ok (.iconst 0, 1) := by decide +kernel
theorem d_w_law_164 : decode code 164 = .ok (.ireturn, 1) := by decide +kernel
theorem d_w_law_165 : decode code 165 = .ok (.goto 1018, 3) := by decide +kernel
theorem d_w_law_168 : decode code 168 = .ok (.aload_n 1, 1) := by decide +kernel
theorem d_w_law_169 : decode code 169 = .ok (.aload_n 0, 1) := by decide +kernel
theorem d_w_law_170 : decode code 170 = .ok (.iload 4, 2) := by decide +kernel
theorem d_w_law_172 : decode code 172 = .ok (.iconst 1, 1) := by decide +kernel
theorem d_w_law_173 : decode code 173 = .ok (.iadd, 1) := by decide +kernel
theorem d_w_law_174 : decode code 174 = .ok (.iaload, 1) := by decide +kernel
theorem d_w_law_175 : decode code 175 = .ok (.aload_n 0, 1) := by decide +kernel
theorem d_w_law_176 : decode code 176 = .ok (.iload 4, 2) := by decide +kernel
theorem d_w_law_178 : decode code 178 = .ok (.iconst 2, 1) := by decide +kernel
theorem d_w_law_179 : decode code 179 = .ok (.iadd, 1) := by decide +kernel
theorem d_w_law_180 : decode code 180 = .ok (.iaload, 1) := by decide +kernel
theorem d_w_law_181 : decode code 181 = .ok (.aload_n 0, 1) := by decide +kernel
theorem d_w_law_182 : decode code 182 = .ok (.iload 4, 2) := by decide +kernel
theorem d_w_law_184 : decode code 184 = .ok (.iconst 3, 1) := by decide +kernel
theorem d_w_law_185 : decode code 185 = .ok (.iadd, 1) := by decide +kernel
theorem d_w_law_186 : decode code 186 = .ok (.iaload, 1) := by decide +kernel
theorem d_w_law_187 : decode code 187 = .ok (.aload_n 0, 1) := by decide +kernel
theorem d_w_law_188 : decode code 188 = .ok (.iload 4, 2) := by decide +kernel
theorem d_w_law_190 : decode code 190 = .ok (.iconst 4, 1) := by decide +kernel
theorem d_w_law_191 : decode code 191 = .ok (.iadd, 1) := by decide +kernel
theorem d_w_law_192 : decode code 192 = .ok (.iaload, 1) := by decide +kernel
theorem d_w_law_193 : decode code 193 = .ok (.aload_n 3, 1) := by decide +kernel
theorem d_w_law_194 : decode code 194 = .ok (.invokestatic 90, 3) := by decide +kernel
theorem d_w_law_197 : decode code 197 = .ok (.istore 5, 2) := by decide +kernel
theorem d_w_law_199 : decode code 199 = .ok (.aload_n 2, 1) := by decide +kernel
theorem d_w_law_200 : decode code 200 = .ok (.aload_n 0, 1) := by decide +kernel
theorem d_w_law_201 : decode code 201 = .ok (.iload 4, 2) := by decide +kernel
theorem d_w_law_203 : decode code 203 = .ok (.iconst 1, 1) := by decide +kernel
theorem d_w_law_204 : decode code 204 = .ok (.iadd, 1) := by decide +kernel
theorem d_w_law_205 : decode code 205 = .ok (.iaload, 1) := by decide +kernel
theorem d_w_law_206 : decode code 206 = .ok (.aload_n 0, 1) := by decide +kernel
theorem d_w_law_207 : decode code 207 = .ok (.iload 4, 2) := by decide +kernel
theorem d_w_law_209 : decode code 209 = .ok (.iconst 2, 1) := by decide +kernel
theorem d_w_law_210 : decode code 210 = .ok (.iadd, 1) := by decide +kernel
theorem d_w_law_211 : decode code 211 = .ok (.iaload, 1) := by decide +kernel
theorem d_w_law_212 : decode code 212 = .ok (.aload_n 0, 1) := by decide +kernel
theorem d_w_law_213 : decode code 213 = .ok (.iload 4, 2) := by decide +kernel
theorem d_w_law_215 : decode code 215 = .ok (.iconst 3, 1) := by decide +kernel
theorem d_w_law_216 : decode code 216 = .ok (.iadd, 1) := by decide +kernel
theorem d_w_law_217 : decode code 217 = .ok (.iaload, 1) := by decide +kernel
theorem d_w_law_218 : decode code 218 = .ok (.aload_n 0, 1) := by decide +kernel
theorem d_w_law_219 : decode code 219 = .ok (.iload 4, 2) := by decide +kernel
theorem d_w_law_221 : decode code 221 = .ok (.iconst 4, 1) := by decide +kernel
theorem d_w_law_222 : decode code 222 = .ok (.iadd, 1) := by decide +kernel
theorem d_w_law_223 : decode code 223 = .ok (.iaload, 1) := by decide +kernel
theorem d_w_law_224 : decode code 224 = .ok (.invokevirtual 93, 3) := by decide +kernel
theorem d_w_law_227 : decode code 227 = .ok (.istore 6, 2) := by decide +kernel
theorem d_w_law_229 : decode code 229 = .ok (.aload_n 2, 1) := by decide +kernel
theorem d_w_law_230 : decode code 230 = .ok (.invokevirtual 87, 3) := by decide +kernel
theorem d_w_law_233 : decode code 233 = .ok (.iload 5, 2) := by decide +kernel
theorem d_w_law_235 : decode code 235 = .ok (.if_icmp .eq 5, 3) := by decide +kernel
theorem d_w_law_238 : decode code 238 = .ok (.iconst 0, 1) := by decide +kernel
theorem d_w_law_239 : decode code 239 = .ok (.ireturn, 1) := by decide +kernel
theorem d_w_law_240 : decode code 240 = .ok (.iload 5, 2) := by decide +kernel
theorem d_w_law_242 : decode code 242 = .ok (.ifCond .ne 15, 3) := by decide +kernel
theorem d_w_law_245 : decode code 245 = .ok (.aload_n 3, 1) := by decide +kernel
theorem d_w_law_246 : decode code 246 = .ok (.iconst 0, 1) := by decide +kernel
theorem d_w_law_247 : decode code 247 = .ok (.laload, 1) := by decide +kernel
theorem d_w_law_248 : decode code 248 = .ok (.iload 6, 2) := by decide +kernel
theorem d_w_law_250 : decode code 250 = .ok (.i2l, 1) := by decide +kernel
theorem d_w_law_251 : decode code 251 = .ok (.lcmp, 1) := by decide +kernel
theorem d_w_law_252 : decode code 252 = .ok (.ifCond .eq 5, 3) := by decide +kernel
theorem d_w_law_255 : decode code 255 = .ok (.iconst 0, 1) := by decide +kernel
theorem d_w_law_256 : decode code 256 = .ok (.ireturn, 1) := by decide +kernel
theorem d_w_law_257 : decode code 257 = .ok (.goto 926, 3) := by decide +kernel
theorem d_w_law_260 : decode code 260 = .ok (.aload_n 1, 1) := by decide +kernel
theorem d_w_law_261 : decode code 261 = .ok (.aload_n 0, 1) := by decide +kernel
theorem d_w_law_262 : decode code 262 = .ok (.iload 4, 2) := by decide +kernel
theorem d_w_law_264 : decode code 264 = .ok (.iconst 1, 1) := by decide +kernel
theorem d_w_law_265 : decode code 265 = .ok (.iadd, 1) := by decide +kernel
