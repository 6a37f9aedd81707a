theorem d_W_look_0 : decode (iC M_W_look) 0 = .ok (.aload_n 2, 1) := by decide +kernel
theorem d_W_look_1 : decode (iC M_W_look) 1 = .ok (.iconst 0, 1) := by decide +kernel
theorem d_W_look_2 : decode (iC M_W_look) 2 = .ok (.aload_n 0, 1) := by decide +kernel
theorem d_W_look_3 : decode (iC M_W_look) 3 = .ok (.iload_n 1, 1) := by decide +kernel
theorem d_W_look_4 : decode (iC M_W_look) 4 = .ok (.invokevirtual 7, 3) := by decide +kernel
theorem d_W_look_7 : decode (iC M_W_look) 7 = .ok (.i2l, 1) := by decide +kernel
theorem d_W_look_8 : decode (iC M_W_look) 8 = .ok (.lastore, 1) := by decide +kernel
theorem d_W_look_9 : decode (iC M_W_look) 9 = .ok (.goto 6, 3) := by decide +kernel
theorem d_W_look_12 : decode (iC M_W_look) 12 = .ok (.astore_n 3, 1) := by decide +kernel
theorem d_W_look_13 : decode (iC M_W_look) 13 = .ok (.iconst 1, 1) := by decide +kernel
theorem d_W_look_14 : decode (iC M_W_look) 14 = .ok (.ireturn, 1) := by decide +kernel
theorem d_W_look_15 : decode (iC M_W_look) 15 = .ok (.iconst 0, 1) := by decide +kernel
theorem d_W_look_16 : decode (iC M_W_look) 16 = .ok (.ireturn, 1) := by decide +kernel
theorem d_W_shown_0 : decode (iC M_W_shown) 0 = .ok (.aload_n 3, 1) := by decide +kernel
theorem d_W_shown_1 : decode (iC M_W_shown) 1 = .ok (.iconst 0, 1) := by decide +kernel
theorem d_W_shown_2 : decode (iC M_W_shown) 2 = .ok (.aload_n 0, 1) := by decide +kernel
theorem d_W_shown_3 : decode (iC M_W_shown) 3 = .ok (.iload_n 1, 1) := by decide +kernel
theorem d_W_shown_4 : decode (iC M_W_shown) 4 = .ok (.iload_n 2, 1) := by decide +kernel
theorem d_W_shown_5 : decode (iC M_W_shown) 5 = .ok (.invokevirtual 15, 3) := by decide +kernel
theorem d_W_shown_8 : decode (iC M_W_shown) 8 = .ok (.i2l, 1) := by decide +kernel
theorem d_W_shown_9 : decode (iC M_W_shown) 9 = .ok (.lastore, 1) := by decide +kernel
theorem d_W_shown_10 : decode (iC M_W_shown) 10 = .ok (.goto 7, 3) := by decide +kernel
theorem d_W_shown_13 : decode (iC M_W_shown) 13 = .ok (.astore 4, 2) := by decide +kernel
theorem d_W_shown_15 : decode (iC M_W_shown) 15 = .ok (.iconst 1, 1) := by decide +kernel
theorem d_W_shown_16 : decode (iC M_W_shown) 16 = .ok (.ireturn, 1) := by decide +kernel
theorem d_W_shown_17 : decode (iC M_W_shown) 17 = .ok (.iconst 0, 1) := by decide +kernel
theorem d_W_shown_18 : decode (iC M_W_shown) 18 = .ok (.ireturn, 1) := by decide +kernel
theorem d_W_law_0 : decode (iC M_W_law) 0 = .ok (.new 8, 3) := by decide +kernel
theorem d_W_law_3 : decode (iC M_W_law) 3 = .ok (.dup, 1) := by decide +kernel
theorem d_W_law_4 : decode (iC M_W_law) 4 = .ok (.invokespecial 19, 3) := by decide +kernel
theorem d_W_law_7 : decode (iC M_W_law) 7 = .ok (.astore_n 1, 1) := by decide +kernel
theorem d_W_law_8 : decode (iC M_W_law) 8 = .ok (.new 20, 3) := by decide +kernel
theorem d_W_law_11 : decode (iC M_W_law) 11 = .ok (.dup, 1) := by decide +kernel
theorem d_W_law_12 : decode (iC M_W_law) 12 = .ok (.invokespecial 22, 3) := by decide +kernel
theorem d_W_law_15 : decode (iC M_W_law) 15 = .ok (.astore_n 2, 1) := by decide +kernel
theorem d_W_law_16 : decode (iC M_W_law) 16 = .ok (.iconst 1, 1) := by decide +kernel
theorem d_W_law_17 : decode (iC M_W_law) 17 = .ok (.newarray .long, 2) := by decide +kernel
theorem d_W_law_19 : decode (iC M_W_law) 19 = .ok (.astore_n 3, 1) := by decide +kernel
theorem d_W_law_20 : decode (iC M_W_law) 20 = .ok (.iconst 0, 1) := by decide +kernel
theorem d_W_law_21 : decode (iC M_W_law) 21 = .ok (.istore 4, 2) := by decide +kernel
theorem d_W_law_23 : decode (iC M_W_law) 23 = .ok (.iload 4, 2) := by decide +kernel
theorem d_W_law_25 : decode (iC M_W_law) 25 = .ok (.aload_n 0, 1) := by decide +kernel
theorem d_W_law_26 : decode (iC M_W_law) 26 = .ok (.arraylength, 1) := by decide +kernel
theorem d_W_law_27 : decode (iC M_W_law) 27 = .ok (.bipush 6, 2) := by decide +kernel
theorem d_W_law_29 : decode (iC M_W_law) 29 = .ok (.isub, 1) := by decide +kernel
theorem d_W_law_30 : decode (iC M_W_law) 30 = .ok (.if_icmp .gt 451, 3) := by decide +kernel
theorem d_W_law_33 : decode (iC M_W_law) 33 = .ok (.aload_n 0, 1) := by decide +kernel
theorem d_W_law_34 : decode (iC M_W_law) 34 = .ok (.iload 4, 2) := by decide +kernel
theorem d_W_law_36 : decode (iC M_W_law) 36 = .ok (.iaload, 1) := by decide +kernel
theorem d_W_law_37 : decode (iC M_W_law) 37 = .ok (.bipush 15, 2) := by decide +kernel
theorem d_W_law_39 : decode (iC M_W_law) 39 = .ok (.iand, 1) := by decide +kernel
theorem d_W_law_40 : decode (iC M_W_law) 40 = .ok (.tableswitch 435 0 8 #[52, 125, 150, 187, 200, 213, 269, 337, 398], 52) := by decide +kernel
theorem d_W_law_92 : decode (iC M_W_law) 92 = .ok (.aload_n 1, 1) := by decide +kernel
theorem d_W_law_93 : decode (iC M_W_law) 93 = .ok (.aload_n 0, 1) := by decide +kernel
theorem d_W_law_94 : decode (iC M_W_law) 94 = .ok (.iload 4, 2) := by decide +kernel
theorem d_W_law_96 : decode (iC M_W_law) 96 = .ok (.iconst 1, 1) := by decide +kernel
theorem d_W_law_97 : decode (iC M_W_law) 97 = .ok (.iadd, 1) := by decide +kernel
theorem d_W_law_98 : decode (iC M_W_law) 98 = .ok (.iaload, 1) := by decide +kernel
theorem d_W_law_99 : decode (iC M_W_law) 99 = .ok (.aload_n 0, 1) := by decide +kernel
theorem d_W_law_100 : decode (iC M_W_law) 100 = .ok (.iload 4, 2) := by decide +kernel
theorem d_W_law_102 : decode (iC M_W_law) 102 = .ok (.iconst 2, 1) := by decide +kernel
theorem d_W_law_103 : decode (iC M_W_law) 103 = .ok (.iadd, 1) := by decide +kernel
theorem d_W_law_104 : decode (iC M_W_law) 104 = .ok (.iaload, 1) := by decide +kernel
theorem d_W_law_105 : decode (iC M_W_law) 105 = .ok (.aload_n 0, 1) := by decide +kernel
theorem d_W_law_106 : decode (iC M_W_law) 106 = .ok (.iload 4, 2) := by decide +kernel
theorem d_W_law_108 : decode (iC M_W_law) 108 = .ok (.iconst 3, 1) := by decide +kernel
theorem d_W_law_109 : decode (iC M_W_law) 109 = .ok (.iadd, 1) := by decide +kernel
theorem d_W_law_110 : decode (iC M_W_law) 110 = .ok (.iaload, 1) := by decide +kernel
theorem d_W_law_111 : decode (iC M_W_law) 111 = .ok (.aload_n 0, 1) := by decide +kernel
theorem d_W_law_112 : decode (iC M_W_law) 112 = .ok (.iload 4, 2) := by decide +kernel
theorem d_W_law_114 : decode (iC M_W_law) 114 = .ok (.iconst 4, 1) := by decide +kernel
theorem d_W_law_115 : decode (iC M_W_law) 115 = .ok (.iadd, 1) := by decide +kernel
theorem d_W_law_116 : decode (iC M_W_law) 116 = .ok (.iaload, 1) := by decide +kernel
theorem d_W_law_117 : decode (iC M_W_law) 117 = .ok (.aload_n 0, 1) := by decide +kernel
theorem d_W_law_118 : decode (iC M_W_law) 118 = .ok (.iload 4, 2) := by decide +kernel
theorem d_W_law_120 : decode (iC M_W_law) 120 = .ok (.iconst 5, 1) := by decide +kernel
theorem d_W_law_121 : decode (iC M_W_law) 121 = .ok (.iadd, 1) := by decide +kernel
theorem d_W_law_122 : decode (iC M_W_law) 122 = .ok (.iaload, 1) := by decide +kernel
theorem d_W_law_123 : decode (iC M_W_law) 123 = .ok (.invokevirtual 23, 3) := by decide +kernel
theorem d_W_law_126 : decode (iC M_W_law) 126 = .ok (.aload_n 2, 1) := by decide +kernel
theorem d_W_law_127 : decode (iC M_W_law) 127 = .ok (.aload_n 0, 1) := by decide +kernel
theorem d_W_law_128 : decode (iC M_W_law) 128 = .ok (.iload 4, 2) := by decide +kernel
theorem d_W_law_130 : decode (iC M_W_law) 130 = .ok (.iconst 1, 1) := by decide +kernel
theorem d_W_law_131 : decode (iC M_W_law) 131 = .ok (.iadd, 1) := by decide +kernel
theorem d_W_law_132 : decode (iC M_W_law) 132 = .ok (.iaload, 1) := by decide +kernel
theorem d_W_law_133 : decode (iC M_W_law) 133 = .ok (.aload_n 0, 1) := by decide +kernel
theorem d_W_law_134 : decode (iC M_W_law) 134 = .ok (.iload 4, 2) := by decide +kernel
theorem d_W_law_136 : decode (iC M_W_law) 136 = .ok (.iconst 2, 1) := by decide +kernel
theorem d_W_law_137 : decode (iC M_W_law) 137 = .ok (.iadd, 1) := by decide +kernel
theorem d_W_law_138 : decode (iC M_W_law) 138 = .ok (.iaload, 1) := by decide +kernel
theorem d_W_law_139 : decode (iC M_W_law) 139 = .ok (.aload_n 0, 1) := by decide +kernel
theorem d_W_law_140 : decode (iC M_W_law) 140 = .ok (.iload 4, 2) := by decide +kernel
theorem d_W_law_142 : decode (iC M_W_law) 142 = .ok (.iconst 3, 1) := by decide +kernel
theorem d_W_law_143 : decode (iC M_W_law) 143 = .ok (.iadd, 1) := by decide +kernel
theorem d_W_law_144 : decode (iC M_W_law) 144 = .ok (.iaload, 1) := by decide +kernel
theorem d_W_law_145 : decode (iC M_W_law) 145 = .ok (.aload_n 0, 1) := by decide +kernel
theorem d_W_law_146 : decode (iC M_W_law) 146 = .ok (.iload 4, 2) := by decide +kernel
theorem d_W_law_148 : decode (iC M_W_law) 148 = .ok (.iconst 4, 1) := by decide +kernel
theorem d_W_law_149 : decode (iC M_W_law) 149 = .ok (.iadd, 1) := by decide +kernel
theorem d_W_law_150 : decode (iC M_W_law) 150 = .ok (.iaload, 1) := by decide +kernel
theorem d_W_law_151 : decode (iC M_W_law) 151 = .ok (.aload_n 0, 1) := by decide +kernel
theorem d_W_law_152 : decode (iC M_W_law) 152 = .ok (.iload 4, 2) := by decide +kernel
theorem d_W_law_154 : decode (iC M_W_law) 154 = .ok (.iconst 5, 1) := by decide +kernel
theorem d_W_law_155 : decode (iC M_W_law) 155 = .ok (.iadd, 1) := by decide +kernel
theorem d_W_law_156 : decode (iC M_W_law) 156 = .ok (.iaload, 1) := by decide +kernel
theorem d_W_law_157 : decode (iC M_W_law) 157 = .ok (.invokevirtual 27, 3) := by decide +kernel
theorem d_W_law_160 : decode (iC M_W_law) 160 = .ok (.if_icmp .eq 315, 3) := by decide +kernel
theorem d_W_law_163 : decode (iC M_W_law) 163 = .ok (.iconst 0, 1) := by decide +kernel
theorem d_W_law_164 : decode (iC M_W_law) 164 = .ok (.ireturn, 1) := by decide +kernel
theorem d_W_law_165 : decode (iC M_W_law) 165 = .ok (.aload_n 1, 1) := by decide +kernel
theorem d_W_law_166 : decode (iC M_W_law) 166 = .ok (.aload_n 0, 1) := by decide +kernel
theorem d_W_law_167 : decode (iC M_W_law) 167 = .ok (.iload 4, 2) := by decide +kernel
theorem d_W_law_169 : decode (iC M_W_law) 169 = .ok (.iconst 1, 1) := by decide +kernel
theorem d_W_law_170 : decode (iC M_W_law) 170 = .ok (.iadd, 1) := by decide +kernel
theorem d_W_law_171 : decode (iC M_W_law) 171 = .ok (.iaload, 1) := by decide +kernel
theorem d_W_law_172 : decode (iC M_W_law) 172 = .ok (.invokevirtual 28, 3) := by decide +kernel
theorem d_W_law_175 : decode (iC M_W_law) 175 = .ok (.aload_n 2, 1) := by decide +kernel
theorem d_W_law_176 : decode (iC M_W_law) 176 = .ok (.aload_n 0, 1) := by decide +kernel
theorem d_W_law_177 : decode (iC M_W_law) 177 = .ok (.iload 4, 2) := by decide +kernel
theorem d_W_law_179 : decode (iC M_W_law) 179 = .ok (.iconst 1, 1) := by decide +kernel
theorem d_W_law_180 : decode (iC M_W_law) 180 = .ok (.iadd, 1) := by decide +kernel
theorem d_W_law_181 : decode (iC M_W_law) 181 = .ok (.iaload, 1) := by decide +kernel
theorem d_W_law_182 : decode (iC M_W_law) 182 = .ok (.invokevirtual 32, 3) := by decide +kernel
theorem d_W_law_185 : decode (iC M_W_law) 185 = .ok (.if_icmp .eq 290, 3) := by decide +kernel
theorem d_W_law_188 : decode (iC M_W_law) 188 = .ok (.iconst 0, 1) := by decide +kernel
theorem d_W_law_189 : decode (iC M_W_law) 189 = .ok (.ireturn, 1) := by decide +kernel
theorem d_W_law_190 : decode (iC M_W_law) 190 = .ok (.aload_n 1, 1) := by decide +kernel
theorem d_W_law_191 : decode (iC M_W_law) 191 = .ok (.aload_n 0, 1) := by decide +kernel
theorem d_W_law_192 : decode (iC M_W_law) 192 = .ok (.iload 4, 2) := by decide +kernel
theorem d_W_law_194 : decode (iC M_W_law) 194 = .ok (.iconst 1, 1) := by decide +kernel
theorem d_W_law_195 : decode (iC M_W_law) 195 = .ok (.iadd, 1) := by decide +kernel
theorem d_W_law_196 : decode (iC M_W_law) 196 = .ok (.iaload, 1) := by decide +kernel
theorem d_W_law_197 : decode (iC M_W_law) 197 = .ok (.aload_n 0, 1) := by decide +kernel
theorem d_W_law_198 : decode (iC M_W_law) 198 = .ok (.iload 4, 2) := by decide +kernel
theorem d_W_law_200 : decode (iC M_W_law) 200 = .ok (.iconst 2, 1) := by decide +kernel
theorem d_W_law_201 : decode (iC M_W_law) 201 = .ok (.iadd, 1) := by decide +kernel
theorem d_W_law_202 : decode (iC M_W_law) 202 = .ok (.iaload, 1) := by decide +kernel
theorem d_W_law_203 : decode (iC M_W_law) 203 = .ok (.invokevirtual 33, 3) := by decide +kernel
theorem d_W_law_206 : decode (iC M_W_law) 206 = .ok (.aload_n 2, 1) := by decide +kernel
theorem d_W_law_207 : decode (iC M_W_law) 207 = .ok (.aload_n 0, 1) := by decide +kernel
theorem d_W_law_208 : decode (iC M_W_law) 208 = .ok (.iload 4, 2) := by decide +kernel
theorem d_W_law_210 : decode (iC M_W_law) 210 = .ok (.iconst 1, 1) := by decide +kernel
theorem d_W_law_211 : decode (iC M_W_law) 211 = .ok (.iadd, 1) := by decide +kernel
theorem d_W_law_212 : decode (iC M_W_law) 212 = .ok (.iaload, 1) := by decide +kernel
theorem d_W_law_213 : decode (iC M_W_law) 213 = .ok (.aload_n 0, 1) := by decide +kernel
theorem d_W_law_214 : decode (iC M_W_law) 214 = .ok (.iload 4, 2) := by decide +kernel
theorem d_W_law_216 : decode (iC M_W_law) 216 = .ok (.iconst 2, 1) := by decide +kernel
theorem d_W_law_217 : decode (iC M_W_law) 217 = .ok (.iadd, 1) := by decide +kernel
theorem d_W_law_218 : decode (iC M_W_law) 218 = .ok (.iaload, 1) := by decide +kernel
theorem d_W_law_219 : decode (iC M_W_law) 219 = .ok (.invokevirtual 36, 3) := by decide +kernel
theorem d_W_law_222 : decode (iC M_W_law) 222 = .ok (.if_icmp .eq 253, 3) := by decide +kernel
theorem d_W_law_225 : decode (iC M_W_law) 225 = .ok (.iconst 0, 1) := by decide +kernel
theorem d_W_law_226 : decode (iC M_W_law) 226 = .ok (.ireturn, 1) := by decide +kernel
theorem d_W_law_227 : decode (iC M_W_law) 227 = .ok (.aload_n 1, 1) := by decide +kernel
theorem d_W_law_228 : decode (iC M_W_law) 228 = .ok (.invokevirtual 37, 3) := by decide +kernel
theorem d_W_law_231 : decode (iC M_W_law) 231 = .ok (.aload_n 2, 1) := by decide +kernel
theorem d_W_law_232 : decode (iC M_W_law) 232 = .ok (.invokevirtual 41, 3) := by decide +kernel
theorem d_W_law_235 : decode (iC M_W_law) 235 = .ok (.if_icmp .eq 240, 3) := by decide +kernel
theorem d_W_law_238 : decode (iC M_W_law) 238 = .ok (.iconst 0, 1) := by decide +kernel
theorem d_W_law_239 : decode (iC M_W_law) 239 = .ok (.ireturn, 1) := by decide +kernel
theorem d_W_law_240 : decode (iC M_W_law) 240 = .ok (.aload_n 1, 1) := by decide +kernel
theorem d_W_law_241 : decode (iC M_W_law) 241 = .ok (.invokevirtual 42, 3) := by decide +kernel
theorem d_W_law_244 : decode (iC M_W_law) 244 = .ok (.aload_n 2, 1) := by decide +kernel
theorem d_W_law_245 : decode (iC M_W_law) 245 = .ok (.invokevirtual 45, 3) := by decide +kernel
theorem d_W_law_248 : decode (iC M_W_law) 248 = .ok (.if_icmp .eq 227, 3) := by decide +kernel
theorem d_W_law_251 : decode (iC M_W_law) 251 = .ok (.iconst 0, 1) := by decide +kernel
theorem d_W_law_252 : decode (iC M_W_law) 252 = .ok (.ireturn, 1) := by decide +kernel
theorem d_W_law_253 : decode (iC M_W_law) 253 = .ok (.aload_n 1, 1) := by decide +kernel
theorem d_W_law_254 : decode (iC M_W_law) 254 = .ok (.aload_n 0, 1) := by decide +kernel
theorem d_W_law_255 : decode (iC M_W_law) 255 = .ok (.iload 4, 2) := by decide +kernel
theorem d_W_law_257 : decode (iC M_W_law) 257 = .ok (.iconst 1, 1) := by decide +kernel
theorem d_W_law_258 : decode (iC M_W_law) 258 = .ok (.iadd, 1) := by decide +kernel
theorem d_W_law_259 : decode (iC M_W_law) 259 = .ok (.iaload, 1) := by decide +kernel
theorem d_W_law_260 : decode (iC M_W_law) 260 = .ok (.aload_n 3, 1) := by decide +kernel
theorem d_W_law_261 : decode (iC M_W_law) 261 = .ok (.invokestatic 46, 3) := by decide +kernel
theorem d_W_law_264 : decode (iC M_W_law) 264 = .ok (.istore 5, 2) := by decide +kernel
theorem d_W_law_266 : decode (iC M_W_law) 266 = .ok (.aload_n 2, 1) := by decide +kernel
theorem d_W_law_267 : decode (iC M_W_law) 267 = .ok (.aload_n 0, 1) := by decide +kernel
theorem d_W_law_268 : decode (iC M_W_law) 268 = .ok (.iload 4, 2) := by decide +kernel
theorem d_W_law_270 : decode (iC M_W_law) 270 = .ok (.iconst 1, 1) := by decide +kernel
theorem d_W_law_271 : decode (iC M_W_law) 271 = .ok (.iadd, 1) := by decide +kernel
theorem d_W_law_272 : decode (iC M_W_law) 272 = .ok (.iaload, 1) := by decide +kernel
theorem d_W_law_273 : decode (iC M_W_law) 273 = .ok (.invokevirtual 51, 3) := by decide +kernel
theorem d_W_law_276 : decode (iC M_W_law) 276 = .ok (.istore 6, 2) := by decide +kernel
theorem d_W_law_278 : decode (iC M_W_law) 278 = .ok (.aload_n 2, 1) := by decide +kernel
theorem d_W_law_279 : decode (iC M_W_law) 279 = .ok (.invokevirtual 52, 3) := by decide +kernel
theorem d_W_law_282 : decode (iC M_W_law) 282 = .ok (.iload 5, 2) := by decide +kernel
theorem d_W_law_284 : decode (iC M_W_law) 284 = .ok (.if_icmp .eq 5, 3) := by decide +kernel
theorem d_W_law_287 : decode (iC M_W_law) 287 = .ok (.iconst 0, 1) := by decide +kernel
theorem d_W_law_288 : decode (iC M_W_law) 288 = .ok (.ireturn, 1) := by decide +kernel
theorem d_W_law_289 : decode (iC M_W_law) 289 = .ok (.iload 5, 2) := by decide +kernel
theorem d_W_law_291 : decode (iC M_W_law) 291 = .ok (.ifCond .ne 15, 3) := by decide +kernel
theorem d_W_law_294 : decode (iC M_W_law) 294 = .ok (.aload_n 3, 1) := by decide +kernel
theorem d_W_law_295 : decode (iC M_W_law) 295 = .ok (.iconst 0, 1) := by decide +kernel
theorem d_W_law_296 : decode (iC M_W_law) 296 = .ok (.laload, 1) := by decide +kernel
theorem d_W_law_297 : decode (iC M_W_law) 297 = .ok (.iload 6, 2) := by decide +kernel
theorem d_W_law_299 : decode (iC M_W_law) 299 = .ok (.i2l, 1) := by decide +kernel
theorem d_W_law_300 : decode (iC M_W_law) 300 = .ok (.lcmp, 1) := by decide +kernel
theorem d_W_law_301 : decode (iC M_W_law) 301 = .ok (.ifCond .eq 5, 3) := by decide +kernel
theorem d_W_law_304 : decode (iC M_W_law) 304 = .ok (.iconst 0, 1) := by decide +kernel
theorem d_W_law_305 : decode (iC M_W_law) 305 = .ok (.ireturn, 1) := by decide +kernel
theorem d_W_law_306 : decode (iC M_W_law) 306 = .ok (.goto 169, 3) := by decide +kernel
theorem d_W_law_309 : decode (iC M_W_law) 309 = .ok (.aload_n 1, 1) := by decide +kernel
theorem d_W_law_310 : decode (iC M_W_law) 310 = .ok (.aload_n 0, 1) := by decide +kernel
theorem d_W_law_311 : decode (iC M_W_law) 311 = .ok (.iload 4, 2) := by decide +kernel
theorem d_W_law_313 : decode (iC M_W_law) 313 = .ok (.iconst 1, 1) := by decide +kernel
theorem d_W_law_314 : decode (iC M_W_law) 314 = .ok (.iadd, 1) := by decide +kernel
theorem d_W_law_315 : decode (iC M_W_law) 315 = .ok (.iaload, 1) := by decide +kernel
theorem d_W_law_316 : decode (iC M_W_law) 316 = .ok (.aload_n 0, 1) := by decide +kernel
theorem d_W_law_317 : decode (iC M_W_law) 317 = .ok (.iload 4, 2) := by decide +kernel
theorem d_W_law_319 : decode (iC M_W_law) 319 = .ok (.iconst 2, 1) := by decide +kernel
theorem d_W_law_320 : decode (iC M_W_law) 320 = .ok (.iadd, 1) := by decide +kernel
theorem d_W_law_321 : decode (iC M_W_law) 321 = .ok (.iaload, 1) := by decide +kernel
theorem d_W_law_322 : decode (iC M_W_law) 322 = .ok (.aload_n 3, 1) := by decide +kernel
theorem d_W_law_323 : decode (iC M_W_law) 323 = .ok (.invokestatic 55, 3) := by decide +kernel
theorem d_W_law_326 : decode (iC M_W_law) 326 = .ok (.istore 5, 2) := by decide +kernel
theorem d_W_law_328 : decode (iC M_W_law) 328 = .ok (.aload_n 2, 1) := by decide +kernel
theorem d_W_law_329 : decode (iC M_W_law) 329 = .ok (.aload_n 0, 1) := by decide +kernel
theorem d_W_law_330 : decode (iC M_W_law) 330 = .ok (.iload 4, 2) := by decide +kernel
theorem d_W_law_332 : decode (iC M_W_law) 332 = .ok (.iconst 1, 1) := by decide +kernel
theorem d_W_law_333 : decode (iC M_W_law) 333 = .ok (.iadd, 1) := by decide +kernel
theorem d_W_law_334 : decode (iC M_W_law) 334 = .ok (.iaload, 1) := by decide +kernel
theorem d_W_law_335 : decode (iC M_W_law) 335 = .ok (.aload_n 0, 1) := by decide +kernel
theorem d_W_law_336 : decode (iC M_W_law) 336 = .ok (.iload 4, 2) := by decide +kernel
theorem d_W_law_338 : decode (iC M_W_law) 338 = .ok (.iconst 2, 1) := by decide +kernel
theorem d_W_law_339 : decode (iC M_W_law) 339 = .ok (.iadd, 1) := by decide +kernel
theorem d_W_law_340 : decode (iC M_W_law) 340 = .ok (.iaload, 1) := by decide +kernel
theorem d_W_law_341 : decode (iC M_W_law) 341 = .ok (.invokevirtual 58, 3) := by decide +kernel
theorem d_W_law_344 : decode (iC M_W_law) 344 = .ok (.istore 6, 2) := by decide +kernel
theorem d_W_law_346 : decode (iC M_W_law) 346 = .ok (.aload_n 2, 1) := by decide +kernel
theorem d_W_law_347 : decode (iC M_W_law) 347 = .ok (.invokevirtual 52, 3) := by decide +kernel
theorem d_W_law_350 : decode (iC M_W_law) 350 = .ok (.iload 5, 2) := by decide +kernel
theorem d_W_law_352 : decode (iC M_W_law) 352 = .ok (.if_icmp .eq 5, 3) := by decide +kernel
theorem d_W_law_355 : decode (iC M_W_law) 355 = .ok (.iconst 0, 1) := by decide +kernel
theorem d_W_law_356 : decode (iC M_W_law) 356 = .ok (.ireturn, 1) := by decide +kernel
theorem d_W_law_357 : decode (iC M_W_law) 357 = .ok (.iload 5, 2) := by decide +kernel
theorem d_W_law_359 : decode (iC M_W_law) 359 = .ok (.ifCond .ne 15, 3) := by decide +kernel
theorem d_W_law_362 : decode (iC M_W_law) 362 = .ok (.aload_n 3, 1) := by decide +kernel
theorem d_W_law_363 : decode (iC M_W_law) 363 = .ok (.iconst 0, 1) := by decide +kernel
theorem d_W_law_364 : decode (iC M_W_law) 364 = .ok (.laload, 1) := by decide +kernel
theorem d_W_law_365 : decode (iC M_W_law) 365 = .ok (.iload 6, 2) := by decide +kernel
theorem d_W_law_367 : decode (iC M_W_law) 367 = .ok (.i2l, 1) := by decide +kernel
theorem d_W_law_368 : decode (iC M_W_law) 368 = .ok (.lcmp, 1) := by decide +kernel
theorem d_W_law_369 : decode (iC M_W_law) 369 = .ok (.ifCond .eq 5, 3) := by decide +kernel
theorem d_W_law_372 : decode (iC M_W_law) 372 = .ok (.iconst 0, 1) := by decide +kernel
theorem d_W_law_373 : decode (iC M_W_law) 373 = .ok (.ireturn, 1) := by decide +kernel
theorem d_W_law_374 : decode (iC M_W_law) 374 = .ok (.goto 101, 3) := by decide +kernel
theorem d_W_law_377 : decode (iC M_W_law) 377 = .ok (.aload_n 1, 1) := by decide +kernel
theorem d_W_law_378 : decode (iC M_W_law) 378 = .ok (.aload_n 0, 1) := by decide +kernel
theorem d_W_law_379 : decode (iC M_W_law) 379 = .ok (.iload 4, 2) := by decide +kernel
theorem d_W_law_381 : decode (iC M_W_law) 381 = .ok (.iconst 1, 1) := by decide +kernel
theorem d_W_law_382 : decode (iC M_W_law) 382 = .ok (.iadd, 1) := by decide +kernel
theorem d_W_law_383 : decode (iC M_W_law) 383 = .ok (.iaload, 1) := by decide +kernel
theorem d_W_law_384 : decode (iC M_W_law) 384 = .ok (.aload_n 0, 1) := by decide +kernel
theorem d_W_law_385 : decode (iC M_W_law) 385 = .ok (.iload 4, 2) := by decide +kernel
theorem d_W_law_387 : decode (iC M_W_law) 387 = .ok (.iconst 2, 1) := by decide +kernel
theorem d_W_law_388 : decode (iC M_W_law) 388 = .ok (.iadd, 1) := by decide +kernel
theorem d_W_law_389 : decode (iC M_W_law) 389 = .ok (.iaload, 1) := by decide +kernel
theorem d_W_law_390 : decode (iC M_W_law) 390 = .ok (.aload_n 0, 1) := by decide +kernel
theorem d_W_law_391 : decode (iC M_W_law) 391 = .ok (.iload 4, 2) := by decide +kernel
theorem d_W_law_393 : decode (iC M_W_law) 393 = .ok (.iconst 3, 1) := by decide +kernel
theorem d_W_law_394 : decode (iC M_W_law) 394 = .ok (.iadd, 1) := by decide +kernel
theorem d_W_law_395 : decode (iC M_W_law) 395 = .ok (.iaload, 1) := by decide +kernel
theorem d_W_law_396 : decode (iC M_W_law) 396 = .ok (.aload_n 0, 1) := by decide +kernel
theorem d_W_law_397 : decode (iC M_W_law) 397 = .ok (.iload 4, 2) := by decide +kernel
theorem d_W_law_399 : decode (iC M_W_law) 399 = .ok (.iconst 4, 1) := by decide +kernel
theorem d_W_law_400 : decode (iC M_W_law) 400 = .ok (.iadd, 1) := by decide +kernel
theorem d_W_law_401 : decode (iC M_W_law) 401 = .ok (.iaload, 1) := by decide +kernel
theorem d_W_law_402 : decode (iC M_W_law) 402 = .ok (.invokevirtual 59, 3) := by decide +kernel
theorem d_W_law_405 : decode (iC M_W_law) 405 = .ok (.aload_n 2, 1) := by decide +kernel
theorem d_W_law_406 : decode (iC M_W_law) 406 = .ok (.aload_n 0, 1) := by decide +kernel
theorem d_W_law_407 : decode (iC M_W_law) 407 = .ok (.iload 4, 2) := by decide +kernel
theorem d_W_law_409 : decode (iC M_W_law) 409 = .ok (.iconst 1, 1) := by decide +kernel
theorem d_W_law_410 : decode (iC M_W_law) 410 = .ok (.iadd, 1) := by decide +kernel
theorem d_W_law_411 : decode (iC M_W_law) 411 = .ok (.iaload, 1) := by decide +kernel
theorem d_W_law_412 : decode (iC M_W_law) 412 = .ok (.aload_n 0, 1) := by decide +kernel
theorem d_W_law_413 : decode (iC M_W_law) 413 = .ok (.iload 4, 2) := by decide +kernel
theorem d_W_law_415 : decode (iC M_W_law) 415 = .ok (.iconst 2, 1) := by decide +kernel
theorem d_W_law_416 : decode (iC M_W_law) 416 = .ok (.iadd, 1) := by decide +kernel
theorem d_W_law_417 : decode (iC M_W_law) 417 = .ok (.iaload, 1) := by decide +kernel
theorem d_W_law_418 : decode (iC M_W_law) 418 = .ok (.aload_n 0, 1) := by decide +kernel
theorem d_W_law_419 : decode (iC M_W_law) 419 = .ok (.iload 4, 2) := by decide +kernel
theorem d_W_law_421 : decode (iC M_W_law) 421 = .ok (.iconst 3, 1) := by decide +kernel
theorem d_W_law_422 : decode (iC M_W_law) 422 = .ok (.iadd, 1) := by decide +kernel
theorem d_W_law_423 : decode (iC M_W_law) 423 = .ok (.iaload, 1) := by decide +kernel
theorem d_W_law_424 : decode (iC M_W_law) 424 = .ok (.aload_n 0, 1) := by decide +kernel
theorem d_W_law_425 : decode (iC M_W_law) 425 = .ok (.iload 4, 2) := by decide +kernel
theorem d_W_law_427 : decode (iC M_W_law) 427 = .ok (.iconst 4, 1) := by decide +kernel
theorem d_W_law_428 : decode (iC M_W_law) 428 = .ok (.iadd, 1) := by decide +kernel
theorem d_W_law_429 : decode (iC M_W_law) 429 = .ok (.iaload, 1) := by decide +kernel
theorem d_W_law_430 : decode (iC M_W_law) 430 = .ok (.invokevirtual 63, 3) := by decide +kernel
theorem d_W_law_433 : decode (iC M_W_law) 433 = .ok (.if_icmp .eq 42, 3) := by decide +kernel
theorem d_W_law_436 : decode (iC M_W_law) 436 = .ok (.iconst 0, 1) := by decide +kernel
theorem d_W_law_437 : decode (iC M_W_law) 437 = .ok (.ireturn, 1) := by decide +kernel
theorem d_W_law_438 : decode (iC M_W_law) 438 = .ok (.aload_n 1, 1) := by decide +kernel
theorem d_W_law_439 : decode (iC M_W_law) 439 = .ok (.aload_n 0, 1) := by decide +kernel
theorem d_W_law_440 : decode (iC M_W_law) 440 = .ok (.iload 4, 2) := by decide +kernel
theorem d_W_law_442 : decode (iC M_W_law) 442 = .ok (.iconst 1, 1) := by decide +kernel
theorem d_W_law_443 : decode (iC M_W_law) 443 = .ok (.iadd, 1) := by decide +kernel
theorem d_W_law_444 : decode (iC M_W_law) 444 = .ok (.iaload, 1) := by decide +kernel
theorem d_W_law_445 : decode (iC M_W_law) 445 = .ok (.aload_n 0, 1) := by decide +kernel
theorem d_W_law_446 : decode (iC M_W_law) 446 = .ok (.iload 4, 2) := by decide +kernel
theorem d_W_law_448 : decode (iC M_W_law) 448 = .ok (.iconst 2, 1) := by decide +kernel
theorem d_W_law_449 : decode (iC M_W_law) 449 = .ok (.iadd, 1) := by decide +kernel
theorem d_W_law_450 : decode (iC M_W_law) 450 = .ok (.iaload, 1) := by decide +kernel
theorem d_W_law_451 : decode (iC M_W_law) 451 = .ok (.invokevirtual 64, 3) := by decide +kernel
theorem d_W_law_454 : decode (iC M_W_law) 454 = .ok (.aload_n 2, 1) := by decide +kernel
theorem d_W_law_455 : decode (iC M_W_law) 455 = .ok (.aload_n 0, 1) := by decide +kernel
theorem d_W_law_456 : decode (iC M_W_law) 456 = .ok (.iload 4, 2) := by decide +kernel
theorem d_W_law_458 : decode (iC M_W_law) 458 = .ok (.iconst 1, 1) := by decide +kernel
theorem d_W_law_459 : decode (iC M_W_law) 459 = .ok (.iadd, 1) := by decide +kernel
theorem d_W_law_460 : decode (iC M_W_law) 460 = .ok (.iaload, 1) := by decide +kernel
theorem d_W_law_461 : decode (iC M_W_law) 461 = .ok (.aload_n 0, 1) := by decide +kernel
theorem d_W_law_462 : decode (iC M_W_law) 462 = .ok (.iload 4, 2) := by decide +kernel
theorem d_W_law_464 : decode (iC M_W_law) 464 = .ok (.iconst 2, 1) := by decide +kernel
theorem d_W_law_465 : decode (iC M_W_law) 465 = .ok (.iadd, 1) := by decide +kernel
theorem d_W_law_466 : decode (iC M_W_law) 466 = .ok (.iaload, 1) := by decide +kernel
theorem d_W_law_467 : decode (iC M_W_law) 467 = .ok (.invokevirtual 67, 3) := by decide +kernel
theorem d_W_law_470 : decode (iC M_W_law) 470 = .ok (.if_icmp .eq 5, 3) := by decide +kernel
theorem d_W_law_473 : decode (iC M_W_law) 473 = .ok (.iconst 0, 1) := by decide +kernel
theorem d_W_law_474 : decode (iC M_W_law) 474 = .ok (.ireturn, 1) := by decide +kernel
theorem d_W_law_475 : decode (iC M_W_law) 475 = .ok (.iinc 4 6, 3) := by decide +kernel
theorem d_W_law_478 : decode (iC M_W_law) 478 = .ok (.goto (-455), 3) := by decide +kernel
theorem d_W_law_481 : decode (iC M_W_law) 481 = .ok (.iconst 1, 1) := by decide +kernel
theorem d_W_law_482 : decode (iC M_W_law) 482 = .ok (.ireturn, 1) := by decide +kernel
