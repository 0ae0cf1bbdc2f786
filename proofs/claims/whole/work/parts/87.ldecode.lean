abbrev b_l_law : ByteArray := code
theorem d_l_law_0 : decode b_l_law 0 = .ok (.new 8, 3) := by decide +kernel
theorem d_l_law_3 : decode b_l_law 3 = .ok (.dup, 1) := by decide +kernel
theorem d_l_law_4 : decode b_l_law 4 = .ok (.invokespecial 31, 3) := by decide +kernel
theorem d_l_law_7 : decode b_l_law 7 = .ok (.astore_n 1, 1) := by decide +kernel
theorem d_l_law_8 : decode b_l_law 8 = .ok (.new 32, 3) := by decide +kernel
theorem d_l_law_11 : decode b_l_law 11 = .ok (.dup, 1) := by decide +kernel
theorem d_l_law_12 : decode b_l_law 12 = .ok (.invokespecial 34, 3) := by decide +kernel
theorem d_l_law_15 : decode b_l_law 15 = .ok (.astore_n 2, 1) := by decide +kernel
theorem d_l_law_16 : decode b_l_law 16 = .ok (.iconst 1, 1) := by decide +kernel
theorem d_l_law_17 : decode b_l_law 17 = .ok (.newarray .long, 2) := by decide +kernel
theorem d_l_law_19 : decode b_l_law 19 = .ok (.astore_n 3, 1) := by decide +kernel
theorem d_l_law_20 : decode b_l_law 20 = .ok (.iconst 0, 1) := by decide +kernel
theorem d_l_law_21 : decode b_l_law 21 = .ok (.istore 4, 2) := by decide +kernel
theorem d_l_law_23 : decode b_l_law 23 = .ok (.iload 4, 2) := by decide +kernel
theorem d_l_law_25 : decode b_l_law 25 = .ok (.aload_n 0, 1) := by decide +kernel
theorem d_l_law_26 : decode b_l_law 26 = .ok (.arraylength, 1) := by decide +kernel
theorem d_l_law_27 : decode b_l_law 27 = .ok (.bipush 6, 2) := by decide +kernel
theorem d_l_law_29 : decode b_l_law 29 = .ok (.isub, 1) := by decide +kernel
theorem d_l_law_30 : decode b_l_law 30 = .ok (.if_icmp .gt 291, 3) := by decide +kernel
theorem d_l_law_33 : decode b_l_law 33 = .ok (.aload_n 0, 1) := by decide +kernel
theorem d_l_law_34 : decode b_l_law 34 = .ok (.iload 4, 2) := by decide +kernel
theorem d_l_law_36 : decode b_l_law 36 = .ok (.iaload, 1) := by decide +kernel
theorem d_l_law_37 : decode b_l_law 37 = .ok (.iconst 3, 1) := by decide +kernel
theorem d_l_law_38 : decode b_l_law 38 = .ok (.iand, 1) := by decide +kernel
theorem d_l_law_68 : decode b_l_law 68 = .ok (.aload_n 1, 1) := by decide +kernel
theorem d_l_law_69 : decode b_l_law 69 = .ok (.aload_n 0, 1) := by decide +kernel
theorem d_l_law_70 : decode b_l_law 70 = .ok (.iload 4, 2) := by decide +kernel
theorem d_l_law_72 : decode b_l_law 72 = .ok (.iconst 1, 1) := by decide +kernel
theorem d_l_law_73 : decode b_l_law 73 = .ok (.iadd, 1) := by decide +kernel
theorem d_l_law_74 : decode b_l_law 74 = .ok (.iaload, 1) := by decide +kernel
theorem d_l_law_75 : decode b_l_law 75 = .ok (.aload_n 0, 1) := by decide +kernel
theorem d_l_law_76 : decode b_l_law 76 = .ok (.iload 4, 2) := by decide +kernel
theorem d_l_law_78 : decode b_l_law 78 = .ok (.iconst 2, 1) := by decide +kernel
theorem d_l_law_79 : decode b_l_law 79 = .ok (.iadd, 1) := by decide +kernel
theorem d_l_law_80 : decode b_l_law 80 = .ok (.iaload, 1) := by decide +kernel
theorem d_l_law_81 : decode b_l_law 81 = .ok (.aload_n 0, 1) := by decide +kernel
theorem d_l_law_82 : decode b_l_law 82 = .ok (.iload 4, 2) := by decide +kernel
theorem d_l_law_84 : decode b_l_law 84 = .ok (.iconst 3, 1) := by decide +kernel
theorem d_l_law_85 : decode b_l_law 85 = .ok (.iadd, 1) := by decide +kernel
theorem d_l_law_86 : decode b_l_law 86 = .ok (.iaload, 1) := by decide +kernel
theorem d_l_law_87 : decode b_l_law 87 = .ok (.aload_n 0, 1) := by decide +kernel
theorem d_l_law_88 : decode b_l_law 88 = .ok (.iload 4, 2) := by decide +kernel
theorem d_l_law_90 : decode b_l_law 90 = .ok (.iconst 4, 1) := by decide +kernel
theorem d_l_law_91 : decode b_l_law 91 = .ok (.iadd, 1) := by decide +kernel
theorem d_l_law_92 : decode b_l_law 92 = .ok (.iaload, 1) := by decide +kernel
theorem d_l_law_93 : decode b_l_law 93 = .ok (.aload_n 0, 1) := by decide +kernel
theorem d_l_law_94 : decode b_l_law 94 = .ok (.iload 4, 2) := by decide +kernel
theorem d_l_law_96 : decode b_l_law 96 = .ok (.iconst 5, 1) := by decide +kernel
theorem d_l_law_97 : decode b_l_law 97 = .ok (.iadd, 1) := by decide +kernel
theorem d_l_law_98 : decode b_l_law 98 = .ok (.iaload, 1) := by decide +kernel
theorem d_l_law_99 : decode b_l_law 99 = .ok (.aload_n 3, 1) := by decide +kernel
theorem d_l_law_100 : decode b_l_law 100 = .ok (.invokestatic 35, 3) := by decide +kernel
theorem d_l_law_103 : decode b_l_law 103 = .ok (.istore 5, 2) := by decide +kernel
theorem d_l_law_105 : decode b_l_law 105 = .ok (.aload_n 2, 1) := by decide +kernel
theorem d_l_law_106 : decode b_l_law 106 = .ok (.aload_n 0, 1) := by decide +kernel
theorem d_l_law_107 : decode b_l_law 107 = .ok (.iload 4, 2) := by decide +kernel
theorem d_l_law_109 : decode b_l_law 109 = .ok (.iconst 1, 1) := by decide +kernel
theorem d_l_law_110 : decode b_l_law 110 = .ok (.iadd, 1) := by decide +kernel
theorem d_l_law_111 : decode b_l_law 111 = .ok (.iaload, 1) := by decide +kernel
theorem d_l_law_112 : decode b_l_law 112 = .ok (.aload_n 0, 1) := by decide +kernel
theorem d_l_law_113 : decode b_l_law 113 = .ok (.iload 4, 2) := by decide +kernel
theorem d_l_law_115 : decode b_l_law 115 = .ok (.iconst 2, 1) := by decide +kernel
theorem d_l_law_116 : decode b_l_law 116 = .ok (.iadd, 1) := by decide +kernel
theorem d_l_law_117 : decode b_l_law 117 = .ok (.iaload, 1) := by decide +kernel
theorem d_l_law_118 : decode b_l_law 118 = .ok (.aload_n 0, 1) := by decide +kernel
theorem d_l_law_119 : decode b_l_law 119 = .ok (.iload 4, 2) := by decide +kernel
theorem d_l_law_121 : decode b_l_law 121 = .ok (.iconst 3, 1) := by decide +kernel
theorem d_l_law_122 : decode b_l_law 122 = .ok (.iadd, 1) := by decide +kernel
theorem d_l_law_123 : decode b_l_law 123 = .ok (.iaload, 1) := by decide +kernel
theorem d_l_law_124 : decode b_l_law 124 = .ok (.aload_n 0, 1) := by decide +kernel
theorem d_l_law_125 : decode b_l_law 125 = .ok (.iload 4, 2) := by decide +kernel
theorem d_l_law_127 : decode b_l_law 127 = .ok (.iconst 4, 1) := by decide +kernel
theorem d_l_law_128 : decode b_l_law 128 = .ok (.iadd, 1) := by decide +kernel
theorem d_l_law_129 : decode b_l_law 129 = .ok (.iaload, 1) := by decide +kernel
theorem d_l_law_130 : decode b_l_law 130 = .ok (.aload_n 0, 1) := by decide +kernel
theorem d_l_law_131 : decode b_l_law 131 = .ok (.iload 4, 2) := by decide +kernel
theorem d_l_law_133 : decode b_l_law 133 = .ok (.iconst 5, 1) := by decide +kernel
theorem d_l_law_134 : decode b_l_law 134 = .ok (.iadd, 1) := by decide +kernel
theorem d_l_law_135 : decode b_l_law 135 = .ok (.iaload, 1) := by decide +kernel
theorem d_l_law_136 : decode b_l_law 136 = .ok (.invokevirtual 40, 3) := by decide +kernel
theorem d_l_law_139 : decode b_l_law 139 = .ok (.istore 6, 2) := by decide +kernel
theorem d_l_law_141 : decode b_l_law 141 = .ok (.aload_n 2, 1) := by decide +kernel
theorem d_l_law_142 : decode b_l_law 142 = .ok (.invokevirtual 41, 3) := by decide +kernel
theorem d_l_law_145 : decode b_l_law 145 = .ok (.iload 5, 2) := by decide +kernel
theorem d_l_law_147 : decode b_l_law 147 = .ok (.if_icmp .eq 5, 3) := by decide +kernel
theorem d_l_law_150 : decode b_l_law 150 = .ok (.iconst 0, 1) := by decide +kernel
theorem d_l_law_151 : decode b_l_law 151 = .ok (.ireturn, 1) := by decide +kernel
theorem d_l_law_152 : decode b_l_law 152 = .ok (.iload 5, 2) := by decide +kernel
theorem d_l_law_154 : decode b_l_law 154 = .ok (.ifCond .ne 15, 3) := by decide +kernel
theorem d_l_law_157 : decode b_l_law 157 = .ok (.aload_n 3, 1) := by decide +kernel
theorem d_l_law_158 : decode b_l_law 158 = .ok (.iconst 0, 1) := by decide +kernel
theorem d_l_law_159 : decode b_l_law 159 = .ok (.laload, 1) := by decide +kernel
theorem d_l_law_160 : decode b_l_law 160 = .ok (.iload 6, 2) := by decide +kernel
theorem d_l_law_162 : decode b_l_law 162 = .ok (.i2l, 1) := by decide +kernel
theorem d_l_law_163 : decode b_l_law 163 = .ok (.lcmp, 1) := by decide +kernel
theorem d_l_law_164 : decode b_l_law 164 = .ok (.ifCond .eq 5, 3) := by decide +kernel
theorem d_l_law_167 : decode b_l_law 167 = .ok (.iconst 0, 1) := by decide +kernel
theorem d_l_law_168 : decode b_l_law 168 = .ok (.ireturn, 1) := by decide +kernel
theorem d_l_law_169 : decode b_l_law 169 = .ok (.goto 146, 3) := by decide +kernel
theorem d_l_law_172 : decode b_l_law 172 = .ok (.aload_n 1, 1) := by decide +kernel
theorem d_l_law_173 : decode b_l_law 173 = .ok (.aload_n 0, 1) := by decide +kernel
theorem d_l_law_174 : decode b_l_law 174 = .ok (.iload 4, 2) := by decide +kernel
theorem d_l_law_176 : decode b_l_law 176 = .ok (.iconst 1, 1) := by decide +kernel
theorem d_l_law_177 : decode b_l_law 177 = .ok (.iadd, 1) := by decide +kernel
theorem d_l_law_178 : decode b_l_law 178 = .ok (.iaload, 1) := by decide +kernel
theorem d_l_law_179 : decode b_l_law 179 = .ok (.aload_n 3, 1) := by decide +kernel
theorem d_l_law_180 : decode b_l_law 180 = .ok (.invokestatic 44, 3) := by decide +kernel
theorem d_l_law_183 : decode b_l_law 183 = .ok (.istore 5, 2) := by decide +kernel
theorem d_l_law_185 : decode b_l_law 185 = .ok (.aload_n 2, 1) := by decide +kernel
theorem d_l_law_186 : decode b_l_law 186 = .ok (.aload_n 0, 1) := by decide +kernel
theorem d_l_law_187 : decode b_l_law 187 = .ok (.iload 4, 2) := by decide +kernel
theorem d_l_law_189 : decode b_l_law 189 = .ok (.iconst 1, 1) := by decide +kernel
theorem d_l_law_190 : decode b_l_law 190 = .ok (.iadd, 1) := by decide +kernel
theorem d_l_law_191 : decode b_l_law 191 = .ok (.iaload, 1) := by decide +kernel
theorem d_l_law_192 : decode b_l_law 192 = .ok (.invokevirtual 47, 3) := by decide +kernel
theorem d_l_law_195 : decode b_l_law 195 = .ok (.istore 6, 2) := by decide +kernel
theorem d_l_law_197 : decode b_l_law 197 = .ok (.aload_n 2, 1) := by decide +kernel
theorem d_l_law_198 : decode b_l_law 198 = .ok (.invokevirtual 41, 3) := by decide +kernel
theorem d_l_law_201 : decode b_l_law 201 = .ok (.iload 5, 2) := by decide +kernel
theorem d_l_law_203 : decode b_l_law 203 = .ok (.if_icmp .eq 5, 3) := by decide +kernel
theorem d_l_law_206 : decode b_l_law 206 = .ok (.iconst 0, 1) := by decide +kernel
theorem d_l_law_207 : decode b_l_law 207 = .ok (.ireturn, 1) := by decide +kernel
theorem d_l_law_208 : decode b_l_law 208 = .ok (.iload 5, 2) := by decide +kernel
theorem d_l_law_210 : decode b_l_law 210 = .ok (.ifCond .ne 15, 3) := by decide +kernel
theorem d_l_law_213 : decode b_l_law 213 = .ok (.aload_n 3, 1) := by decide +kernel
theorem d_l_law_214 : decode b_l_law 214 = .ok (.iconst 0, 1) := by decide +kernel
theorem d_l_law_215 : decode b_l_law 215 = .ok (.laload, 1) := by decide +kernel
theorem d_l_law_216 : decode b_l_law 216 = .ok (.iload 6, 2) := by decide +kernel
theorem d_l_law_218 : decode b_l_law 218 = .ok (.i2l, 1) := by decide +kernel
theorem d_l_law_219 : decode b_l_law 219 = .ok (.lcmp, 1) := by decide +kernel
theorem d_l_law_220 : decode b_l_law 220 = .ok (.ifCond .eq 5, 3) := by decide +kernel
theorem d_l_law_223 : decode b_l_law 223 = .ok (.iconst 0, 1) := by decide +kernel
theorem d_l_law_224 : decode b_l_law 224 = .ok (.ireturn, 1) := by decide +kernel
theorem d_l_law_225 : decode b_l_law 225 = .ok (.goto 90, 3) := by decide +kernel
theorem d_l_law_228 : decode b_l_law 228 = .ok (.aload_n 1, 1) := by decide +kernel
theorem d_l_law_229 : decode b_l_law 229 = .ok (.aload_n 3, 1) := by decide +kernel
theorem d_l_law_230 : decode b_l_law 230 = .ok (.invokestatic 48, 3) := by decide +kernel
theorem d_l_law_233 : decode b_l_law 233 = .ok (.istore 5, 2) := by decide +kernel
theorem d_l_law_235 : decode b_l_law 235 = .ok (.aload_n 2, 1) := by decide +kernel
theorem d_l_law_236 : decode b_l_law 236 = .ok (.invokevirtual 51, 3) := by decide +kernel
theorem d_l_law_239 : decode b_l_law 239 = .ok (.lstore 6, 2) := by decide +kernel
theorem d_l_law_241 : decode b_l_law 241 = .ok (.aload_n 2, 1) := by decide +kernel
theorem d_l_law_242 : decode b_l_law 242 = .ok (.invokevirtual 41, 3) := by decide +kernel
theorem d_l_law_245 : decode b_l_law 245 = .ok (.iload 5, 2) := by decide +kernel
theorem d_l_law_247 : decode b_l_law 247 = .ok (.if_icmp .eq 5, 3) := by decide +kernel
theorem d_l_law_250 : decode b_l_law 250 = .ok (.iconst 0, 1) := by decide +kernel
theorem d_l_law_251 : decode b_l_law 251 = .ok (.ireturn, 1) := by decide +kernel
theorem d_l_law_252 : decode b_l_law 252 = .ok (.iload 5, 2) := by decide +kernel
theorem d_l_law_254 : decode b_l_law 254 = .ok (.ifCond .ne 14, 3) := by decide +kernel
theorem d_l_law_257 : decode b_l_law 257 = .ok (.aload_n 3, 1) := by decide +kernel
theorem d_l_law_258 : decode b_l_law 258 = .ok (.iconst 0, 1) := by decide +kernel
theorem d_l_law_259 : decode b_l_law 259 = .ok (.laload, 1) := by decide +kernel
theorem d_l_law_260 : decode b_l_law 260 = .ok (.lload 6, 2) := by decide +kernel
theorem d_l_law_262 : decode b_l_law 262 = .ok (.lcmp, 1) := by decide +kernel
theorem d_l_law_263 : decode b_l_law 263 = .ok (.ifCond .eq 5, 3) := by decide +kernel
theorem d_l_law_266 : decode b_l_law 266 = .ok (.iconst 0, 1) := by decide +kernel
theorem d_l_law_267 : decode b_l_law 267 = .ok (.ireturn, 1) := by decide +kernel
theorem d_l_law_268 : decode b_l_law 268 = .ok (.goto 47, 3) := by decide +kernel
theorem d_l_law_271 : decode b_l_law 271 = .ok (.aload_n 1, 1) := by decide +kernel
theorem d_l_law_272 : decode b_l_law 272 = .ok (.aload_n 3, 1) := by decide +kernel
theorem d_l_law_273 : decode b_l_law 273 = .ok (.invokestatic 52, 3) := by decide +kernel
theorem d_l_law_276 : decode b_l_law 276 = .ok (.istore 5, 2) := by decide +kernel
theorem d_l_law_278 : decode b_l_law 278 = .ok (.aload_n 2, 1) := by decide +kernel
theorem d_l_law_279 : decode b_l_law 279 = .ok (.invokevirtual 54, 3) := by decide +kernel
theorem d_l_law_282 : decode b_l_law 282 = .ok (.istore 6, 2) := by decide +kernel
theorem d_l_law_284 : decode b_l_law 284 = .ok (.aload_n 2, 1) := by decide +kernel
theorem d_l_law_285 : decode b_l_law 285 = .ok (.invokevirtual 41, 3) := by decide +kernel
theorem d_l_law_288 : decode b_l_law 288 = .ok (.iload 5, 2) := by decide +kernel
theorem d_l_law_290 : decode b_l_law 290 = .ok (.if_icmp .eq 5, 3) := by decide +kernel
theorem d_l_law_293 : decode b_l_law 293 = .ok (.iconst 0, 1) := by decide +kernel
theorem d_l_law_294 : decode b_l_law 294 = .ok (.ireturn, 1) := by decide +kernel
theorem d_l_law_295 : decode b_l_law 295 = .ok (.iload 5, 2) := by decide +kernel
theorem d_l_law_297 : decode b_l_law 297 = .ok (.ifCond .ne 15, 3) := by decide +kernel
theorem d_l_law_300 : decode b_l_law 300 = .ok (.aload_n 3, 1) := by decide +kernel
theorem d_l_law_301 : decode b_l_law 301 = .ok (.iconst 0, 1) := by decide +kernel
theorem d_l_law_302 : decode b_l_law 302 = .ok (.laload, 1) := by decide +kernel
theorem d_l_law_303 : decode b_l_law 303 = .ok (.iload 6, 2) := by decide +kernel
theorem d_l_law_305 : decode b_l_law 305 = .ok (.i2l, 1) := by decide +kernel
theorem d_l_law_306 : decode b_l_law 306 = .ok (.lcmp, 1) := by decide +kernel
theorem d_l_law_307 : decode b_l_law 307 = .ok (.ifCond .eq 5, 3) := by decide +kernel
theorem d_l_law_310 : decode b_l_law 310 = .ok (.iconst 0, 1) := by decide +kernel
theorem d_l_law_311 : decode b_l_law 311 = .ok (.ireturn, 1) := by decide +kernel
theorem d_l_law_312 : decode b_l_law 312 = .ok (.goto 3, 3) := by decide +kernel
theorem d_l_law_315 : decode b_l_law 315 = .ok (.iinc 4 6, 3) := by decide +kernel
theorem d_l_law_318 : decode b_l_law 318 = .ok (.goto (-295), 3) := by decide +kernel
theorem d_l_law_321 : decode b_l_law 321 = .ok (.iconst 1, 1) := by decide +kernel
theorem d_l_law_322 : decode b_l_law 322 = .ok (.ireturn, 1) := by decide +kernel
