abbrev b_Law_law : ByteArray := code
theorem d_Law_law_0 : decode b_Law_law 0 = .ok (.new 8, 3) := by decide +kernel
theorem d_Law_law_3 : decode b_Law_law 3 = .ok (.dup, 1) := by decide +kernel
theorem d_Law_law_4 : decode b_Law_law 4 = .ok (.invokespecial 35, 3) := by decide +kernel
theorem d_Law_law_7 : decode b_Law_law 7 = .ok (.astore_n 1, 1) := by decide +kernel
theorem d_Law_law_8 : decode b_Law_law 8 = .ok (.new 36, 3) := by decide +kernel
theorem d_Law_law_11 : decode b_Law_law 11 = .ok (.dup, 1) := by decide +kernel
theorem d_Law_law_12 : decode b_Law_law 12 = .ok (.invokespecial 38, 3) := by decide +kernel
theorem d_Law_law_15 : decode b_Law_law 15 = .ok (.astore_n 2, 1) := by decide +kernel
theorem d_Law_law_16 : decode b_Law_law 16 = .ok (.iconst 1, 1) := by decide +kernel
theorem d_Law_law_17 : decode b_Law_law 17 = .ok (.newarray .long, 2) := by decide +kernel
theorem d_Law_law_19 : decode b_Law_law 19 = .ok (.astore_n 3, 1) := by decide +kernel
theorem d_Law_law_20 : decode b_Law_law 20 = .ok (.iconst 0, 1) := by decide +kernel
theorem d_Law_law_21 : decode b_Law_law 21 = .ok (.istore 4, 2) := by decide +kernel
theorem d_Law_law_23 : decode b_Law_law 23 = .ok (.iload 4, 2) := by decide +kernel
theorem d_Law_law_25 : decode b_Law_law 25 = .ok (.aload_n 0, 1) := by decide +kernel
theorem d_Law_law_26 : decode b_Law_law 26 = .ok (.arraylength, 1) := by decide +kernel
theorem d_Law_law_27 : decode b_Law_law 27 = .ok (.iconst 5, 1) := by decide +kernel
theorem d_Law_law_28 : decode b_Law_law 28 = .ok (.isub, 1) := by decide +kernel
theorem d_Law_law_29 : decode b_Law_law 29 = .ok (.if_icmp .gt 516, 3) := by decide +kernel
theorem d_Law_law_32 : decode b_Law_law 32 = .ok (.aload_n 0, 1) := by decide +kernel
theorem d_Law_law_33 : decode b_Law_law 33 = .ok (.iload 4, 2) := by decide +kernel
theorem d_Law_law_35 : decode b_Law_law 35 = .ok (.iaload, 1) := by decide +kernel
theorem d_Law_law_36 : decode b_Law_law 36 = .ok (.bipush 15, 2) := by decide +kernel
theorem d_Law_law_38 : decode b_Law_law 38 = .ok (.iand, 1) := by decide +kernel
theorem d_Law_law_39 : decode b_Law_law 39 = .ok (.tableswitch 500 0 8 #[49, 181, 225, 269, 325, 338, 351, 419, 475], 49) := by decide +kernel
theorem d_Law_law_88 : decode b_Law_law 88 = .ok (.aload_n 1, 1) := by decide +kernel
theorem d_Law_law_89 : decode b_Law_law 89 = .ok (.aload_n 0, 1) := by decide +kernel
theorem d_Law_law_90 : decode b_Law_law 90 = .ok (.iload 4, 2) := by decide +kernel
theorem d_Law_law_92 : decode b_Law_law 92 = .ok (.iconst 1, 1) := by decide +kernel
theorem d_Law_law_93 : decode b_Law_law 93 = .ok (.iadd, 1) := by decide +kernel
theorem d_Law_law_94 : decode b_Law_law 94 = .ok (.iaload, 1) := by decide +kernel
theorem d_Law_law_95 : decode b_Law_law 95 = .ok (.i2l, 1) := by decide +kernel
theorem d_Law_law_96 : decode b_Law_law 96 = .ok (.bipush 32, 2) := by decide +kernel
theorem d_Law_law_98 : decode b_Law_law 98 = .ok (.lshl, 1) := by decide +kernel
theorem d_Law_law_99 : decode b_Law_law 99 = .ok (.aload_n 0, 1) := by decide +kernel
theorem d_Law_law_100 : decode b_Law_law 100 = .ok (.iload 4, 2) := by decide +kernel
theorem d_Law_law_102 : decode b_Law_law 102 = .ok (.iconst 2, 1) := by decide +kernel
theorem d_Law_law_103 : decode b_Law_law 103 = .ok (.iadd, 1) := by decide +kernel
theorem d_Law_law_104 : decode b_Law_law 104 = .ok (.iaload, 1) := by decide +kernel
theorem d_Law_law_105 : decode b_Law_law 105 = .ok (.i2l, 1) := by decide +kernel
theorem d_Law_law_106 : decode b_Law_law 106 = .ok (.ldc2_w 39, 3) := by decide +kernel
theorem d_Law_law_109 : decode b_Law_law 109 = .ok (.land, 1) := by decide +kernel
theorem d_Law_law_110 : decode b_Law_law 110 = .ok (.lor, 1) := by decide +kernel
theorem d_Law_law_111 : decode b_Law_law 111 = .ok (.aload_n 0, 1) := by decide +kernel
theorem d_Law_law_112 : decode b_Law_law 112 = .ok (.iload 4, 2) := by decide +kernel
theorem d_Law_law_114 : decode b_Law_law 114 = .ok (.iconst 3, 1) := by decide +kernel
theorem d_Law_law_115 : decode b_Law_law 115 = .ok (.iadd, 1) := by decide +kernel
theorem d_Law_law_116 : decode b_Law_law 116 = .ok (.iaload, 1) := by decide +kernel
theorem d_Law_law_117 : decode b_Law_law 117 = .ok (.i2l, 1) := by decide +kernel
theorem d_Law_law_118 : decode b_Law_law 118 = .ok (.bipush 32, 2) := by decide +kernel
theorem d_Law_law_120 : decode b_Law_law 120 = .ok (.lshl, 1) := by decide +kernel
theorem d_Law_law_121 : decode b_Law_law 121 = .ok (.aload_n 0, 1) := by decide +kernel
theorem d_Law_law_122 : decode b_Law_law 122 = .ok (.iload 4, 2) := by decide +kernel
theorem d_Law_law_124 : decode b_Law_law 124 = .ok (.iconst 4, 1) := by decide +kernel
theorem d_Law_law_125 : decode b_Law_law 125 = .ok (.iadd, 1) := by decide +kernel
theorem d_Law_law_126 : decode b_Law_law 126 = .ok (.iaload, 1) := by decide +kernel
theorem d_Law_law_127 : decode b_Law_law 127 = .ok (.i2l, 1) := by decide +kernel
theorem d_Law_law_128 : decode b_Law_law 128 = .ok (.ldc2_w 39, 3) := by decide +kernel
theorem d_Law_law_131 : decode b_Law_law 131 = .ok (.land, 1) := by decide +kernel
theorem d_Law_law_132 : decode b_Law_law 132 = .ok (.lor, 1) := by decide +kernel
theorem d_Law_law_133 : decode b_Law_law 133 = .ok (.aload_n 3, 1) := by decide +kernel
theorem d_Law_law_134 : decode b_Law_law 134 = .ok (.invokestatic 41, 3) := by decide +kernel
theorem d_Law_law_137 : decode b_Law_law 137 = .ok (.istore 5, 2) := by decide +kernel
theorem d_Law_law_139 : decode b_Law_law 139 = .ok (.aload_n 2, 1) := by decide +kernel
theorem d_Law_law_140 : decode b_Law_law 140 = .ok (.aload_n 0, 1) := by decide +kernel
theorem d_Law_law_141 : decode b_Law_law 141 = .ok (.iload 4, 2) := by decide +kernel
theorem d_Law_law_143 : decode b_Law_law 143 = .ok (.iconst 1, 1) := by decide +kernel
theorem d_Law_law_144 : decode b_Law_law 144 = .ok (.iadd, 1) := by decide +kernel
theorem d_Law_law_145 : decode b_Law_law 145 = .ok (.iaload, 1) := by decide +kernel
theorem d_Law_law_146 : decode b_Law_law 146 = .ok (.i2l, 1) := by decide +kernel
theorem d_Law_law_147 : decode b_Law_law 147 = .ok (.bipush 32, 2) := by decide +kernel
theorem d_Law_law_149 : decode b_Law_law 149 = .ok (.lshl, 1) := by decide +kernel
theorem d_Law_law_150 : decode b_Law_law 150 = .ok (.aload_n 0, 1) := by decide +kernel
theorem d_Law_law_151 : decode b_Law_law 151 = .ok (.iload 4, 2) := by decide +kernel
theorem d_Law_law_153 : decode b_Law_law 153 = .ok (.iconst 2, 1) := by decide +kernel
theorem d_Law_law_154 : decode b_Law_law 154 = .ok (.iadd, 1) := by decide +kernel
theorem d_Law_law_155 : decode b_Law_law 155 = .ok (.iaload, 1) := by decide +kernel
theorem d_Law_law_156 : decode b_Law_law 156 = .ok (.i2l, 1) := by decide +kernel
theorem d_Law_law_157 : decode b_Law_law 157 = .ok (.ldc2_w 39, 3) := by decide +kernel
theorem d_Law_law_160 : decode b_Law_law 160 = .ok (.land, 1) := by decide +kernel
theorem d_Law_law_161 : decode b_Law_law 161 = .ok (.lor, 1) := by decide +kernel
theorem d_Law_law_162 : decode b_Law_law 162 = .ok (.aload_n 0, 1) := by decide +kernel
theorem d_Law_law_163 : decode b_Law_law 163 = .ok (.iload 4, 2) := by decide +kernel
theorem d_Law_law_165 : decode b_Law_law 165 = .ok (.iconst 3, 1) := by decide +kernel
theorem d_Law_law_166 : decode b_Law_law 166 = .ok (.iadd, 1) := by decide +kernel
theorem d_Law_law_167 : decode b_Law_law 167 = .ok (.iaload, 1) := by decide +kernel
theorem d_Law_law_168 : decode b_Law_law 168 = .ok (.i2l, 1) := by decide +kernel
theorem d_Law_law_169 : decode b_Law_law 169 = .ok (.bipush 32, 2) := by decide +kernel
theorem d_Law_law_171 : decode b_Law_law 171 = .ok (.lshl, 1) := by decide +kernel
theorem d_Law_law_172 : decode b_Law_law 172 = .ok (.aload_n 0, 1) := by decide +kernel
theorem d_Law_law_173 : decode b_Law_law 173 = .ok (.iload 4, 2) := by decide +kernel
theorem d_Law_law_175 : decode b_Law_law 175 = .ok (.iconst 4, 1) := by decide +kernel
theorem d_Law_law_176 : decode b_Law_law 176 = .ok (.iadd, 1) := by decide +kernel
theorem d_Law_law_177 : decode b_Law_law 177 = .ok (.iaload, 1) := by decide +kernel
theorem d_Law_law_178 : decode b_Law_law 178 = .ok (.i2l, 1) := by decide +kernel
theorem d_Law_law_179 : decode b_Law_law 179 = .ok (.ldc2_w 39, 3) := by decide +kernel
theorem d_Law_law_182 : decode b_Law_law 182 = .ok (.land, 1) := by decide +kernel
theorem d_Law_law_183 : decode b_Law_law 183 = .ok (.lor, 1) := by decide +kernel
theorem d_Law_law_184 : decode b_Law_law 184 = .ok (.invokevirtual 46, 3) := by decide +kernel
theorem d_Law_law_187 : decode b_Law_law 187 = .ok (.istore 6, 2) := by decide +kernel
theorem d_Law_law_189 : decode b_Law_law 189 = .ok (.aload_n 2, 1) := by decide +kernel
theorem d_Law_law_190 : decode b_Law_law 190 = .ok (.invokevirtual 47, 3) := by decide +kernel
theorem d_Law_law_193 : decode b_Law_law 193 = .ok (.iload 5, 2) := by decide +kernel
theorem d_Law_law_195 : decode b_Law_law 195 = .ok (.if_icmp .eq 5, 3) := by decide +kernel
theorem d_Law_law_198 : decode b_Law_law 198 = .ok (.iconst 0, 1) := by decide +kernel
theorem d_Law_law_199 : decode b_Law_law 199 = .ok (.ireturn, 1) := by decide +kernel
theorem d_Law_law_200 : decode b_Law_law 200 = .ok (.iload 5, 2) := by decide +kernel
theorem d_Law_law_202 : decode b_Law_law 202 = .ok (.ifCond .ne 15, 3) := by decide +kernel
theorem d_Law_law_205 : decode b_Law_law 205 = .ok (.aload_n 3, 1) := by decide +kernel
theorem d_Law_law_206 : decode b_Law_law 206 = .ok (.iconst 0, 1) := by decide +kernel
theorem d_Law_law_207 : decode b_Law_law 207 = .ok (.laload, 1) := by decide +kernel
theorem d_Law_law_208 : decode b_Law_law 208 = .ok (.iload 6, 2) := by decide +kernel
theorem d_Law_law_210 : decode b_Law_law 210 = .ok (.i2l, 1) := by decide +kernel
theorem d_Law_law_211 : decode b_Law_law 211 = .ok (.lcmp, 1) := by decide +kernel
theorem d_Law_law_212 : decode b_Law_law 212 = .ok (.ifCond .eq 5, 3) := by decide +kernel
theorem d_Law_law_215 : decode b_Law_law 215 = .ok (.iconst 0, 1) := by decide +kernel
theorem d_Law_law_216 : decode b_Law_law 216 = .ok (.ireturn, 1) := by decide +kernel
theorem d_Law_law_217 : decode b_Law_law 217 = .ok (.goto 322, 3) := by decide +kernel
theorem d_Law_law_220 : decode b_Law_law 220 = .ok (.aload_n 1, 1) := by decide +kernel
theorem d_Law_law_221 : decode b_Law_law 221 = .ok (.aload_n 3, 1) := by decide +kernel
theorem d_Law_law_222 : decode b_Law_law 222 = .ok (.invokestatic 50, 3) := by decide +kernel
theorem d_Law_law_225 : decode b_Law_law 225 = .ok (.istore 5, 2) := by decide +kernel
theorem d_Law_law_227 : decode b_Law_law 227 = .ok (.aload_n 2, 1) := by decide +kernel
theorem d_Law_law_228 : decode b_Law_law 228 = .ok (.invokevirtual 53, 3) := by decide +kernel
theorem d_Law_law_231 : decode b_Law_law 231 = .ok (.istore 6, 2) := by decide +kernel
theorem d_Law_law_233 : decode b_Law_law 233 = .ok (.aload_n 2, 1) := by decide +kernel
theorem d_Law_law_234 : decode b_Law_law 234 = .ok (.invokevirtual 47, 3) := by decide +kernel
theorem d_Law_law_237 : decode b_Law_law 237 = .ok (.iload 5, 2) := by decide +kernel
theorem d_Law_law_239 : decode b_Law_law 239 = .ok (.if_icmp .eq 5, 3) := by decide +kernel
theorem d_Law_law_242 : decode b_Law_law 242 = .ok (.iconst 0, 1) := by decide +kernel
theorem d_Law_law_243 : decode b_Law_law 243 = .ok (.ireturn, 1) := by decide +kernel
theorem d_Law_law_244 : decode b_Law_law 244 = .ok (.iload 5, 2) := by decide +kernel
theorem d_Law_law_246 : decode b_Law_law 246 = .ok (.ifCond .ne 15, 3) := by decide +kernel
theorem d_Law_law_249 : decode b_Law_law 249 = .ok (.aload_n 3, 1) := by decide +kernel
theorem d_Law_law_250 : decode b_Law_law 250 = .ok (.iconst 0, 1) := by decide +kernel
theorem d_Law_law_251 : decode b_Law_law 251 = .ok (.laload, 1) := by decide +kernel
theorem d_Law_law_252 : decode b_Law_law 252 = .ok (.iload 6, 2) := by decide +kernel
theorem d_Law_law_254 : decode b_Law_law 254 = .ok (.i2l, 1) := by decide +kernel
theorem d_Law_law_255 : decode b_Law_law 255 = .ok (.lcmp, 1) := by decide +kernel
theorem d_Law_law_256 : decode b_Law_law 256 = .ok (.ifCond .eq 5, 3) := by decide +kernel
theorem d_Law_law_259 : decode b_Law_law 259 = .ok (.iconst 0, 1) := by decide +kernel
theorem d_Law_law_260 : decode b_Law_law 260 = .ok (.ireturn, 1) := by decide +kernel
theorem d_Law_law_261 : decode b_Law_law 261 = .ok (.goto 278, 3) := by decide +kernel
theorem d_Law_law_264 : decode b_Law_law 264 = .ok (.aload_n 1, 1) := by decide +kernel
theorem d_Law_law_265 : decode b_Law_law 265 = .ok (.aload_n 3, 1) := by decide +kernel
theorem d_Law_law_266 : decode b_Law_law 266 = .ok (.invokestatic 54, 3) := by decide +kernel
theorem d_Law_law_269 : decode b_Law_law 269 = .ok (.istore 5, 2) := by decide +kernel
theorem d_Law_law_271 : decode b_Law_law 271 = .ok (.aload_n 2, 1) := by decide +kernel
theorem d_Law_law_272 : decode b_Law_law 272 = .ok (.invokevirtual 56, 3) := by decide +kernel
theorem d_Law_law_275 : decode b_Law_law 275 = .ok (.istore 6, 2) := by decide +kernel
theorem d_Law_law_277 : decode b_Law_law 277 = .ok (.aload_n 2, 1) := by decide +kernel
theorem d_Law_law_278 : decode b_Law_law 278 = .ok (.invokevirtual 47, 3) := by decide +kernel
theorem d_Law_law_281 : decode b_Law_law 281 = .ok (.iload 5, 2) := by decide +kernel
theorem d_Law_law_283 : decode b_Law_law 283 = .ok (.if_icmp .eq 5, 3) := by decide +kernel
theorem d_Law_law_286 : decode b_Law_law 286 = .ok (.iconst 0, 1) := by decide +kernel
theorem d_Law_law_287 : decode b_Law_law 287 = .ok (.ireturn, 1) := by decide +kernel
theorem d_Law_law_288 : decode b_Law_law 288 = .ok (.iload 5, 2) := by decide +kernel
theorem d_Law_law_290 : decode b_Law_law 290 = .ok (.ifCond .ne 15, 3) := by decide +kernel
theorem d_Law_law_293 : decode b_Law_law 293 = .ok (.aload_n 3, 1) := by decide +kernel
theorem d_Law_law_294 : decode b_Law_law 294 = .ok (.iconst 0, 1) := by decide +kernel
theorem d_Law_law_295 : decode b_Law_law 295 = .ok (.laload, 1) := by decide +kernel
theorem d_Law_law_296 : decode b_Law_law 296 = .ok (.iload 6, 2) := by decide +kernel
theorem d_Law_law_298 : decode b_Law_law 298 = .ok (.i2l, 1) := by decide +kernel
theorem d_Law_law_299 : decode b_Law_law 299 = .ok (.lcmp, 1) := by decide +kernel
theorem d_Law_law_300 : decode b_Law_law 300 = .ok (.ifCond .eq 5, 3) := by decide +kernel
theorem d_Law_law_303 : decode b_Law_law 303 = .ok (.iconst 0, 1) := by decide +kernel
theorem d_Law_law_304 : decode b_Law_law 304 = .ok (.ireturn, 1) := by decide +kernel
theorem d_Law_law_305 : decode b_Law_law 305 = .ok (.goto 234, 3) := by decide +kernel
theorem d_Law_law_308 : decode b_Law_law 308 = .ok (.aload_n 1, 1) := by decide +kernel
theorem d_Law_law_309 : decode b_Law_law 309 = .ok (.aload_n 0, 1) := by decide +kernel
theorem d_Law_law_310 : decode b_Law_law 310 = .ok (.iload 4, 2) := by decide +kernel
theorem d_Law_law_312 : decode b_Law_law 312 = .ok (.iconst 1, 1) := by decide +kernel
theorem d_Law_law_313 : decode b_Law_law 313 = .ok (.iadd, 1) := by decide +kernel
theorem d_Law_law_314 : decode b_Law_law 314 = .ok (.iaload, 1) := by decide +kernel
theorem d_Law_law_315 : decode b_Law_law 315 = .ok (.aload_n 3, 1) := by decide +kernel
theorem d_Law_law_316 : decode b_Law_law 316 = .ok (.invokestatic 57, 3) := by decide +kernel
theorem d_Law_law_319 : decode b_Law_law 319 = .ok (.istore 5, 2) := by decide +kernel
theorem d_Law_law_321 : decode b_Law_law 321 = .ok (.aload_n 2, 1) := by decide +kernel
theorem d_Law_law_322 : decode b_Law_law 322 = .ok (.aload_n 0, 1) := by decide +kernel
theorem d_Law_law_323 : decode b_Law_law 323 = .ok (.iload 4, 2) := by decide +kernel
theorem d_Law_law_325 : decode b_Law_law 325 = .ok (.iconst 1, 1) := by decide +kernel
theorem d_Law_law_326 : decode b_Law_law 326 = .ok (.iadd, 1) := by decide +kernel
theorem d_Law_law_327 : decode b_Law_law 327 = .ok (.iaload, 1) := by decide +kernel
theorem d_Law_law_328 : decode b_Law_law 328 = .ok (.invokevirtual 60, 3) := by decide +kernel
theorem d_Law_law_331 : decode b_Law_law 331 = .ok (.istore 6, 2) := by decide +kernel
theorem d_Law_law_333 : decode b_Law_law 333 = .ok (.aload_n 2, 1) := by decide +kernel
theorem d_Law_law_334 : decode b_Law_law 334 = .ok (.invokevirtual 47, 3) := by decide +kernel
theorem d_Law_law_337 : decode b_Law_law 337 = .ok (.iload 5, 2) := by decide +kernel
theorem d_Law_law_339 : decode b_Law_law 339 = .ok (.if_icmp .eq 5, 3) := by decide +kernel
theorem d_Law_law_342 : decode b_Law_law 342 = .ok (.iconst 0, 1) := by decide +kernel
theorem d_Law_law_343 : decode b_Law_law 343 = .ok (.ireturn, 1) := by decide +kernel
theorem d_Law_law_344 : decode b_Law_law 344 = .ok (.iload 5, 2) := by decide +kernel
theorem d_Law_law_346 : decode b_Law_law 346 = .ok (.ifCond .ne 15, 3) := by decide +kernel
theorem d_Law_law_349 : decode b_Law_law 349 = .ok (.aload_n 3, 1) := by decide +kernel
theorem d_Law_law_350 : decode b_Law_law 350 = .ok (.iconst 0, 1) := by decide +kernel
theorem d_Law_law_351 : decode b_Law_law 351 = .ok (.laload, 1) := by decide +kernel
theorem d_Law_law_352 : decode b_Law_law 352 = .ok (.iload 6, 2) := by decide +kernel
theorem d_Law_law_354 : decode b_Law_law 354 = .ok (.i2l, 1) := by decide +kernel
theorem d_Law_law_355 : decode b_Law_law 355 = .ok (.lcmp, 1) := by decide +kernel
theorem d_Law_law_356 : decode b_Law_law 356 = .ok (.ifCond .eq 5, 3) := by decide +kernel
theorem d_Law_law_359 : decode b_Law_law 359 = .ok (.iconst 0, 1) := by decide +kernel
theorem d_Law_law_360 : decode b_Law_law 360 = .ok (.ireturn, 1) := by decide +kernel
theorem d_Law_law_361 : decode b_Law_law 361 = .ok (.goto 178, 3) := by decide +kernel
theorem d_Law_law_364 : decode b_Law_law 364 = .ok (.aload_n 1, 1) := by decide +kernel
theorem d_Law_law_365 : decode b_Law_law 365 = .ok (.invokevirtual 61, 3) := by decide +kernel
theorem d_Law_law_368 : decode b_Law_law 368 = .ok (.aload_n 2, 1) := by decide +kernel
theorem d_Law_law_369 : decode b_Law_law 369 = .ok (.invokevirtual 64, 3) := by decide +kernel
theorem d_Law_law_372 : decode b_Law_law 372 = .ok (.if_icmp .eq 167, 3) := by decide +kernel
theorem d_Law_law_375 : decode b_Law_law 375 = .ok (.iconst 0, 1) := by decide +kernel
theorem d_Law_law_376 : decode b_Law_law 376 = .ok (.ireturn, 1) := by decide +kernel
theorem d_Law_law_377 : decode b_Law_law 377 = .ok (.aload_n 1, 1) := by decide +kernel
theorem d_Law_law_378 : decode b_Law_law 378 = .ok (.invokevirtual 65, 3) := by decide +kernel
theorem d_Law_law_381 : decode b_Law_law 381 = .ok (.aload_n 2, 1) := by decide +kernel
theorem d_Law_law_382 : decode b_Law_law 382 = .ok (.invokevirtual 68, 3) := by decide +kernel
theorem d_Law_law_385 : decode b_Law_law 385 = .ok (.if_icmp .eq 154, 3) := by decide +kernel
theorem d_Law_law_388 : decode b_Law_law 388 = .ok (.iconst 0, 1) := by decide +kernel
theorem d_Law_law_389 : decode b_Law_law 389 = .ok (.ireturn, 1) := by decide +kernel
theorem d_Law_law_390 : decode b_Law_law 390 = .ok (.aload_n 1, 1) := by decide +kernel
theorem d_Law_law_391 : decode b_Law_law 391 = .ok (.aload_n 0, 1) := by decide +kernel
theorem d_Law_law_392 : decode b_Law_law 392 = .ok (.iload 4, 2) := by decide +kernel
theorem d_Law_law_394 : decode b_Law_law 394 = .ok (.iconst 1, 1) := by decide +kernel
theorem d_Law_law_395 : decode b_Law_law 395 = .ok (.iadd, 1) := by decide +kernel
theorem d_Law_law_396 : decode b_Law_law 396 = .ok (.iaload, 1) := by decide +kernel
theorem d_Law_law_397 : decode b_Law_law 397 = .ok (.aload_n 0, 1) := by decide +kernel
theorem d_Law_law_398 : decode b_Law_law 398 = .ok (.iload 4, 2) := by decide +kernel
theorem d_Law_law_400 : decode b_Law_law 400 = .ok (.iconst 2, 1) := by decide +kernel
theorem d_Law_law_401 : decode b_Law_law 401 = .ok (.iadd, 1) := by decide +kernel
theorem d_Law_law_402 : decode b_Law_law 402 = .ok (.iaload, 1) := by decide +kernel
theorem d_Law_law_403 : decode b_Law_law 403 = .ok (.aload_n 3, 1) := by decide +kernel
theorem d_Law_law_404 : decode b_Law_law 404 = .ok (.invokestatic 69, 3) := by decide +kernel
theorem d_Law_law_407 : decode b_Law_law 407 = .ok (.istore 5, 2) := by decide +kernel
theorem d_Law_law_409 : decode b_Law_law 409 = .ok (.aload_n 2, 1) := by decide +kernel
theorem d_Law_law_410 : decode b_Law_law 410 = .ok (.aload_n 0, 1) := by decide +kernel
theorem d_Law_law_411 : decode b_Law_law 411 = .ok (.iload 4, 2) := by decide +kernel
theorem d_Law_law_413 : decode b_Law_law 413 = .ok (.iconst 1, 1) := by decide +kernel
theorem d_Law_law_414 : decode b_Law_law 414 = .ok (.iadd, 1) := by decide +kernel
theorem d_Law_law_415 : decode b_Law_law 415 = .ok (.iaload, 1) := by decide +kernel
theorem d_Law_law_416 : decode b_Law_law 416 = .ok (.aload_n 0, 1) := by decide +kernel
theorem d_Law_law_417 : decode b_Law_law 417 = .ok (.iload 4, 2) := by decide +kernel
theorem d_Law_law_419 : decode b_Law_law 419 = .ok (.iconst 2, 1) := by decide +kernel
theorem d_Law_law_420 : decode b_Law_law 420 = .ok (.iadd, 1) := by decide +kernel
theorem d_Law_law_421 : decode b_Law_law 421 = .ok (.iaload, 1) := by decide +kernel
theorem d_Law_law_422 : decode b_Law_law 422 = .ok (.invokevirtual 72, 3) := by decide +kernel
theorem d_Law_law_425 : decode b_Law_law 425 = .ok (.istore 6, 2) := by decide +kernel
theorem d_Law_law_427 : decode b_Law_law 427 = .ok (.aload_n 2, 1) := by decide +kernel
theorem d_Law_law_428 : decode b_Law_law 428 = .ok (.invokevirtual 47, 3) := by decide +kernel
theorem d_Law_law_431 : decode b_Law_law 431 = .ok (.iload 5, 2) := by decide +kernel
theorem d_Law_law_433 : decode b_Law_law 433 = .ok (.if_icmp .eq 5, 3) := by decide +kernel
theorem d_Law_law_436 : decode b_Law_law 436 = .ok (.iconst 0, 1) := by decide +kernel
theorem d_Law_law_437 : decode b_Law_law 437 = .ok (.ireturn, 1) := by decide +kernel
theorem d_Law_law_438 : decode b_Law_law 438 = .ok (.iload 5, 2) := by decide +kernel
theorem d_Law_law_440 : decode b_Law_law 440 = .ok (.ifCond .ne 15, 3) := by decide +kernel
theorem d_Law_law_443 : decode b_Law_law 443 = .ok (.aload_n 3, 1) := by decide +kernel
theorem d_Law_law_444 : decode b_Law_law 444 = .ok (.iconst 0, 1) := by decide +kernel
theorem d_Law_law_445 : decode b_Law_law 445 = .ok (.laload, 1) := by decide +kernel
theorem d_Law_law_446 : decode b_Law_law 446 = .ok (.iload 6, 2) := by decide +kernel
theorem d_Law_law_448 : decode b_Law_law 448 = .ok (.i2l, 1) := by decide +kernel
theorem d_Law_law_449 : decode b_Law_law 449 = .ok (.lcmp, 1) := by decide +kernel
theorem d_Law_law_450 : decode b_Law_law 450 = .ok (.ifCond .eq 5, 3) := by decide +kernel
theorem d_Law_law_453 : decode b_Law_law 453 = .ok (.iconst 0, 1) := by decide +kernel
theorem d_Law_law_454 : decode b_Law_law 454 = .ok (.ireturn, 1) := by decide +kernel
theorem d_Law_law_455 : decode b_Law_law 455 = .ok (.goto 84, 3) := by decide +kernel
theorem d_Law_law_458 : decode b_Law_law 458 = .ok (.aload_n 1, 1) := by decide +kernel
theorem d_Law_law_459 : decode b_Law_law 459 = .ok (.aload_n 0, 1) := by decide +kernel
theorem d_Law_law_460 : decode b_Law_law 460 = .ok (.iload 4, 2) := by decide +kernel
theorem d_Law_law_462 : decode b_Law_law 462 = .ok (.iconst 1, 1) := by decide +kernel
theorem d_Law_law_463 : decode b_Law_law 463 = .ok (.iadd, 1) := by decide +kernel
theorem d_Law_law_464 : decode b_Law_law 464 = .ok (.iaload, 1) := by decide +kernel
theorem d_Law_law_465 : decode b_Law_law 465 = .ok (.aload_n 3, 1) := by decide +kernel
theorem d_Law_law_466 : decode b_Law_law 466 = .ok (.invokestatic 73, 3) := by decide +kernel
theorem d_Law_law_469 : decode b_Law_law 469 = .ok (.istore 5, 2) := by decide +kernel
theorem d_Law_law_471 : decode b_Law_law 471 = .ok (.aload_n 2, 1) := by decide +kernel
theorem d_Law_law_472 : decode b_Law_law 472 = .ok (.aload_n 0, 1) := by decide +kernel
theorem d_Law_law_473 : decode b_Law_law 473 = .ok (.iload 4, 2) := by decide +kernel
theorem d_Law_law_475 : decode b_Law_law 475 = .ok (.iconst 1, 1) := by decide +kernel
theorem d_Law_law_476 : decode b_Law_law 476 = .ok (.iadd, 1) := by decide +kernel
theorem d_Law_law_477 : decode b_Law_law 477 = .ok (.iaload, 1) := by decide +kernel
theorem d_Law_law_478 : decode b_Law_law 478 = .ok (.invokevirtual 75, 3) := by decide +kernel
theorem d_Law_law_481 : decode b_Law_law 481 = .ok (.istore 6, 2) := by decide +kernel
theorem d_Law_law_483 : decode b_Law_law 483 = .ok (.aload_n 2, 1) := by decide +kernel
theorem d_Law_law_484 : decode b_Law_law 484 = .ok (.invokevirtual 47, 3) := by decide +kernel
theorem d_Law_law_487 : decode b_Law_law 487 = .ok (.iload 5, 2) := by decide +kernel
theorem d_Law_law_489 : decode b_Law_law 489 = .ok (.if_icmp .eq 5, 3) := by decide +kernel
theorem d_Law_law_492 : decode b_Law_law 492 = .ok (.iconst 0, 1) := by decide +kernel
theorem d_Law_law_493 : decode b_Law_law 493 = .ok (.ireturn, 1) := by decide +kernel
theorem d_Law_law_494 : decode b_Law_law 494 = .ok (.iload 5, 2) := by decide +kernel
theorem d_Law_law_496 : decode b_Law_law 496 = .ok (.ifCond .ne 15, 3) := by decide +kernel
theorem d_Law_law_499 : decode b_Law_law 499 = .ok (.aload_n 3, 1) := by decide +kernel
theorem d_Law_law_500 : decode b_Law_law 500 = .ok (.iconst 0, 1) := by decide +kernel
theorem d_Law_law_501 : decode b_Law_law 501 = .ok (.laload, 1) := by decide +kernel
theorem d_Law_law_502 : decode b_Law_law 502 = .ok (.iload 6, 2) := by decide +kernel
theorem d_Law_law_504 : decode b_Law_law 504 = .ok (.i2l, 1) := by decide +kernel
theorem d_Law_law_505 : decode b_Law_law 505 = .ok (.lcmp, 1) := by decide +kernel
theorem d_Law_law_506 : decode b_Law_law 506 = .ok (.ifCond .eq 5, 3) := by decide +kernel
theorem d_Law_law_509 : decode b_Law_law 509 = .ok (.iconst 0, 1) := by decide +kernel
theorem d_Law_law_510 : decode b_Law_law 510 = .ok (.ireturn, 1) := by decide +kernel
theorem d_Law_law_511 : decode b_Law_law 511 = .ok (.goto 28, 3) := by decide +kernel
theorem d_Law_law_514 : decode b_Law_law 514 = .ok (.aload_n 1, 1) := by decide +kernel
theorem d_Law_law_515 : decode b_Law_law 515 = .ok (.aload_n 0, 1) := by decide +kernel
theorem d_Law_law_516 : decode b_Law_law 516 = .ok (.iload 4, 2) := by decide +kernel
theorem d_Law_law_518 : decode b_Law_law 518 = .ok (.iconst 1, 1) := by decide +kernel
theorem d_Law_law_519 : decode b_Law_law 519 = .ok (.iadd, 1) := by decide +kernel
theorem d_Law_law_520 : decode b_Law_law 520 = .ok (.iaload, 1) := by decide +kernel
theorem d_Law_law_521 : decode b_Law_law 521 = .ok (.invokevirtual 76, 3) := by decide +kernel
theorem d_Law_law_524 : decode b_Law_law 524 = .ok (.aload_n 2, 1) := by decide +kernel
theorem d_Law_law_525 : decode b_Law_law 525 = .ok (.aload_n 0, 1) := by decide +kernel
theorem d_Law_law_526 : decode b_Law_law 526 = .ok (.iload 4, 2) := by decide +kernel
theorem d_Law_law_528 : decode b_Law_law 528 = .ok (.iconst 1, 1) := by decide +kernel
theorem d_Law_law_529 : decode b_Law_law 529 = .ok (.iadd, 1) := by decide +kernel
theorem d_Law_law_530 : decode b_Law_law 530 = .ok (.iaload, 1) := by decide +kernel
theorem d_Law_law_531 : decode b_Law_law 531 = .ok (.invokevirtual 79, 3) := by decide +kernel
theorem d_Law_law_534 : decode b_Law_law 534 = .ok (.if_icmp .eq 5, 3) := by decide +kernel
theorem d_Law_law_537 : decode b_Law_law 537 = .ok (.iconst 0, 1) := by decide +kernel
theorem d_Law_law_538 : decode b_Law_law 538 = .ok (.ireturn, 1) := by decide +kernel
theorem d_Law_law_539 : decode b_Law_law 539 = .ok (.iinc 4 5, 3) := by decide +kernel
theorem d_Law_law_542 : decode b_Law_law 542 = .ok (.goto (-519), 3) := by decide +kernel
theorem d_Law_law_545 : decode b_Law_law 545 = .ok (.iconst 1, 1) := by decide +kernel
theorem d_Law_law_546 : decode b_Law_law 546 = .ok (.ireturn, 1) := by decide +kernel
