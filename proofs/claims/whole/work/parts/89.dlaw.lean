/-! the law: its instructions, its calls -/
def R_law : String := "DiagramMovesLaw"
theorem d_law_0 : decode code 0 = .ok (.new 7, 3) := by decide +kernel
theorem d_law_3 : decode code 3 = .ok (.dup, 1) := by decide +kernel
theorem d_law_4 : decode code 4 = .ok (.invokespecial 9, 3) := by decide +kernel
theorem d_law_7 : decode code 7 = .ok (.astore_n 1, 1) := by decide +kernel
theorem d_law_8 : decode code 8 = .ok (.new 10, 3) := by decide +kernel
theorem d_law_11 : decode code 11 = .ok (.dup, 1) := by decide +kernel
theorem d_law_12 : decode code 12 = .ok (.invokespecial 12, 3) := by decide +kernel
theorem d_law_15 : decode code 15 = .ok (.astore_n 2, 1) := by decide +kernel
theorem d_law_16 : decode code 16 = .ok (.iconst 0, 1) := by decide +kernel
theorem d_law_17 : decode code 17 = .ok (.istore_n 3, 1) := by decide +kernel
theorem d_law_18 : decode code 18 = .ok (.iload_n 3, 1) := by decide +kernel
theorem d_law_19 : decode code 19 = .ok (.aload_n 0, 1) := by decide +kernel
theorem d_law_20 : decode code 20 = .ok (.arraylength, 1) := by decide +kernel
theorem d_law_21 : decode code 21 = .ok (.bipush 6, 2) := by decide +kernel
theorem d_law_23 : decode code 23 = .ok (.isub, 1) := by decide +kernel
theorem d_law_24 : decode code 24 = .ok (.if_icmp .gt 501, 3) := by decide +kernel
theorem d_law_27 : decode code 27 = .ok (.aload_n 0, 1) := by decide +kernel
theorem d_law_28 : decode code 28 = .ok (.iload_n 3, 1) := by decide +kernel
theorem d_law_29 : decode code 29 = .ok (.iaload, 1) := by decide +kernel
theorem d_law_30 : decode code 30 = .ok (.bipush 15, 2) := by decide +kernel
theorem d_law_32 : decode code 32 = .ok (.iand, 1) := by decide +kernel
theorem d_law_33 : decode code 33 = .ok (.tableswitch 486 0 10 #[59, 122, 145, 168, 201, 234, 257, 280, 303, 362, 473], 59) := by decide +kernel
theorem d_law_92 : decode code 92 = .ok (.aload_n 1, 1) := by decide +kernel
theorem d_law_93 : decode code 93 = .ok (.aload_n 0, 1) := by decide +kernel
theorem d_law_94 : decode code 94 = .ok (.iload_n 3, 1) := by decide +kernel
theorem d_law_95 : decode code 95 = .ok (.iconst 1, 1) := by decide +kernel
theorem d_law_96 : decode code 96 = .ok (.iadd, 1) := by decide +kernel
theorem d_law_97 : decode code 97 = .ok (.iaload, 1) := by decide +kernel
theorem d_law_98 : decode code 98 = .ok (.aload_n 0, 1) := by decide +kernel
theorem d_law_99 : decode code 99 = .ok (.iload_n 3, 1) := by decide +kernel
theorem d_law_100 : decode code 100 = .ok (.iconst 2, 1) := by decide +kernel
theorem d_law_101 : decode code 101 = .ok (.iadd, 1) := by decide +kernel
theorem d_law_102 : decode code 102 = .ok (.iaload, 1) := by decide +kernel
theorem d_law_103 : decode code 103 = .ok (.aload_n 0, 1) := by decide +kernel
theorem d_law_104 : decode code 104 = .ok (.iload_n 3, 1) := by decide +kernel
theorem d_law_105 : decode code 105 = .ok (.iconst 3, 1) := by decide +kernel
theorem d_law_106 : decode code 106 = .ok (.iadd, 1) := by decide +kernel
theorem d_law_107 : decode code 107 = .ok (.iaload, 1) := by decide +kernel
theorem d_law_108 : decode code 108 = .ok (.aload_n 0, 1) := by decide +kernel
theorem d_law_109 : decode code 109 = .ok (.iload_n 3, 1) := by decide +kernel
theorem d_law_110 : decode code 110 = .ok (.iconst 4, 1) := by decide +kernel
theorem d_law_111 : decode code 111 = .ok (.iadd, 1) := by decide +kernel
theorem d_law_112 : decode code 112 = .ok (.iaload, 1) := by decide +kernel
theorem d_law_113 : decode code 113 = .ok (.aload_n 0, 1) := by decide +kernel
theorem d_law_114 : decode code 114 = .ok (.iload_n 3, 1) := by decide +kernel
theorem d_law_115 : decode code 115 = .ok (.iconst 5, 1) := by decide +kernel
theorem d_law_116 : decode code 116 = .ok (.iadd, 1) := by decide +kernel
theorem d_law_117 : decode code 117 = .ok (.iaload, 1) := by decide +kernel
theorem d_law_118 : decode code 118 = .ok (.invokevirtual 13, 3) := by decide +kernel
theorem d_law_121 : decode code 121 = .ok (.aload_n 2, 1) := by decide +kernel
theorem d_law_122 : decode code 122 = .ok (.aload_n 0, 1) := by decide +kernel
theorem d_law_123 : decode code 123 = .ok (.iload_n 3, 1) := by decide +kernel
theorem d_law_124 : decode code 124 = .ok (.iconst 1, 1) := by decide +kernel
theorem d_law_125 : decode code 125 = .ok (.iadd, 1) := by decide +kernel
theorem d_law_126 : decode code 126 = .ok (.iaload, 1) := by decide +kernel
theorem d_law_127 : decode code 127 = .ok (.aload_n 0, 1) := by decide +kernel
theorem d_law_128 : decode code 128 = .ok (.iload_n 3, 1) := by decide +kernel
theorem d_law_129 : decode code 129 = .ok (.iconst 2, 1) := by decide +kernel
theorem d_law_130 : decode code 130 = .ok (.iadd, 1) := by decide +kernel
theorem d_law_131 : decode code 131 = .ok (.iaload, 1) := by decide +kernel
theorem d_law_132 : decode code 132 = .ok (.aload_n 0, 1) := by decide +kernel
theorem d_law_133 : decode code 133 = .ok (.iload_n 3, 1) := by decide +kernel
theorem d_law_134 : decode code 134 = .ok (.iconst 3, 1) := by decide +kernel
theorem d_law_135 : decode code 135 = .ok (.iadd, 1) := by decide +kernel
theorem d_law_136 : decode code 136 = .ok (.iaload, 1) := by decide +kernel
theorem d_law_137 : decode code 137 = .ok (.aload_n 0, 1) := by decide +kernel
theorem d_law_138 : decode code 138 = .ok (.iload_n 3, 1) := by decide +kernel
theorem d_law_139 : decode code 139 = .ok (.iconst 4, 1) := by decide +kernel
theorem d_law_140 : decode code 140 = .ok (.iadd, 1) := by decide +kernel
theorem d_law_141 : decode code 141 = .ok (.iaload, 1) := by decide +kernel
theorem d_law_142 : decode code 142 = .ok (.aload_n 0, 1) := by decide +kernel
theorem d_law_143 : decode code 143 = .ok (.iload_n 3, 1) := by decide +kernel
theorem d_law_144 : decode code 144 = .ok (.iconst 5, 1) := by decide +kernel
theorem d_law_145 : decode code 145 = .ok (.iadd, 1) := by decide +kernel
theorem d_law_146 : decode code 146 = .ok (.iaload, 1) := by decide +kernel
theorem d_law_147 : decode code 147 = .ok (.invokevirtual 17, 3) := by decide +kernel
theorem d_law_150 : decode code 150 = .ok (.if_icmp .eq 369, 3) := by decide +kernel
theorem d_law_153 : decode code 153 = .ok (.iconst 0, 1) := by decide +kernel
theorem d_law_154 : decode code 154 = .ok (.ireturn, 1) := by decide +kernel
theorem d_law_155 : decode code 155 = .ok (.aload_n 1, 1) := by decide +kernel
theorem d_law_156 : decode code 156 = .ok (.aload_n 0, 1) := by decide +kernel
theorem d_law_157 : decode code 157 = .ok (.iload_n 3, 1) := by decide +kernel
theorem d_law_158 : decode code 158 = .ok (.iconst 1, 1) := by decide +kernel
theorem d_law_159 : decode code 159 = .ok (.iadd, 1) := by decide +kernel
theorem d_law_160 : decode code 160 = .ok (.iaload, 1) := by decide +kernel
theorem d_law_161 : decode code 161 = .ok (.invokevirtual 18, 3) := by decide +kernel
theorem d_law_164 : decode code 164 = .ok (.aload_n 2, 1) := by decide +kernel
theorem d_law_165 : decode code 165 = .ok (.aload_n 0, 1) := by decide +kernel
theorem d_law_166 : decode code 166 = .ok (.iload_n 3, 1) := by decide +kernel
theorem d_law_167 : decode code 167 = .ok (.iconst 1, 1) := by decide +kernel
theorem d_law_168 : decode code 168 = .ok (.iadd, 1) := by decide +kernel
theorem d_law_169 : decode code 169 = .ok (.iaload, 1) := by decide +kernel
theorem d_law_170 : decode code 170 = .ok (.invokevirtual 22, 3) := by decide +kernel
theorem d_law_173 : decode code 173 = .ok (.if_icmp .eq 346, 3) := by decide +kernel
theorem d_law_176 : decode code 176 = .ok (.iconst 0, 1) := by decide +kernel
theorem d_law_177 : decode code 177 = .ok (.ireturn, 1) := by decide +kernel
theorem d_law_178 : decode code 178 = .ok (.aload_n 1, 1) := by decide +kernel
theorem d_law_179 : decode code 179 = .ok (.aload_n 0, 1) := by decide +kernel
theorem d_law_180 : decode code 180 = .ok (.iload_n 3, 1) := by decide +kernel
theorem d_law_181 : decode code 181 = .ok (.iconst 1, 1) := by decide +kernel
theorem d_law_182 : decode code 182 = .ok (.iadd, 1) := by decide +kernel
theorem d_law_183 : decode code 183 = .ok (.iaload, 1) := by decide +kernel
theorem d_law_184 : decode code 184 = .ok (.invokevirtual 23, 3) := by decide +kernel
theorem d_law_187 : decode code 187 = .ok (.aload_n 2, 1) := by decide +kernel
theorem d_law_188 : decode code 188 = .ok (.aload_n 0, 1) := by decide +kernel
theorem d_law_189 : decode code 189 = .ok (.iload_n 3, 1) := by decide +kernel
theorem d_law_190 : decode code 190 = .ok (.iconst 1, 1) := by decide +kernel
theorem d_law_191 : decode code 191 = .ok (.iadd, 1) := by decide +kernel
theorem d_law_192 : decode code 192 = .ok (.iaload, 1) := by decide +kernel
theorem d_law_193 : decode code 193 = .ok (.invokevirtual 26, 3) := by decide +kernel
theorem d_law_196 : decode code 196 = .ok (.if_icmp .eq 323, 3) := by decide +kernel
theorem d_law_199 : decode code 199 = .ok (.iconst 0, 1) := by decide +kernel
theorem d_law_200 : decode code 200 = .ok (.ireturn, 1) := by decide +kernel
theorem d_law_201 : decode code 201 = .ok (.aload_n 1, 1) := by decide +kernel
theorem d_law_202 : decode code 202 = .ok (.aload_n 0, 1) := by decide +kernel
theorem d_law_203 : decode code 203 = .ok (.iload_n 3, 1) := by decide +kernel
theorem d_law_204 : decode code 204 = .ok (.iconst 1, 1) := by decide +kernel
theorem d_law_205 : decode code 205 = .ok (.iadd, 1) := by decide +kernel
theorem d_law_206 : decode code 206 = .ok (.iaload, 1) := by decide +kernel
theorem d_law_207 : decode code 207 = .ok (.aload_n 0, 1) := by decide +kernel
theorem d_law_208 : decode code 208 = .ok (.iload_n 3, 1) := by decide +kernel
theorem d_law_209 : decode code 209 = .ok (.iconst 2, 1) := by decide +kernel
theorem d_law_210 : decode code 210 = .ok (.iadd, 1) := by decide +kernel
theorem d_law_211 : decode code 211 = .ok (.iaload, 1) := by decide +kernel
theorem d_law_212 : decode code 212 = .ok (.invokevirtual 27, 3) := by decide +kernel
theorem d_law_215 : decode code 215 = .ok (.aload_n 2, 1) := by decide +kernel
theorem d_law_216 : decode code 216 = .ok (.aload_n 0, 1) := by decide +kernel
theorem d_law_217 : decode code 217 = .ok (.iload_n 3, 1) := by decide +kernel
theorem d_law_218 : decode code 218 = .ok (.iconst 1, 1) := by decide +kernel
theorem d_law_219 : decode code 219 = .ok (.iadd, 1) := by decide +kernel
theorem d_law_220 : decode code 220 = .ok (.iaload, 1) := by decide +kernel
theorem d_law_221 : decode code 221 = .ok (.aload_n 0, 1) := by decide +kernel
theorem d_law_222 : decode code 222 = .ok (.iload_n 3, 1) := by decide +kernel
theorem d_law_223 : decode code 223 = .ok (.iconst 2, 1) := by decide +kernel
theorem d_law_224 : decode code 224 = .ok (.iadd, 1) := by decide +kernel
theorem d_law_225 : decode code 225 = .ok (.iaload, 1) := by decide +kernel
theorem d_law_226 : decode code 226 = .ok (.invokevirtual 31, 3) := by decide +kernel
theorem d_law_229 : decode code 229 = .ok (.if_icmp .eq 290, 3) := by decide +kernel
theorem d_law_232 : decode code 232 = .ok (.iconst 0, 1) := by decide +kernel
theorem d_law_233 : decode code 233 = .ok (.ireturn, 1) := by decide +kernel
theorem d_law_234 : decode code 234 = .ok (.aload_n 1, 1) := by decide +kernel
theorem d_law_235 : decode code 235 = .ok (.aload_n 0, 1) := by decide +kernel
theorem d_law_236 : decode code 236 = .ok (.iload_n 3, 1) := by decide +kernel
theorem d_law_237 : decode code 237 = .ok (.iconst 1, 1) := by decide +kernel
theorem d_law_238 : decode code 238 = .ok (.iadd, 1) := by decide +kernel
theorem d_law_239 : decode code 239 = .ok (.iaload, 1) := by decide +kernel
theorem d_law_240 : decode code 240 = .ok (.aload_n 0, 1) := by decide +kernel
theorem d_law_241 : decode code 241 = .ok (.iload_n 3, 1) := by decide +kernel
theorem d_law_242 : decode code 242 = .ok (.iconst 2, 1) := by decide +kernel
theorem d_law_243 : decode code 243 = .ok (.iadd, 1) := by decide +kernel
theorem d_law_244 : decode code 244 = .ok (.iaload, 1) := by decide +kernel
theorem d_law_245 : decode code 245 = .ok (.invokevirtual 32, 3) := by decide +kernel
theorem d_law_248 : decode code 248 = .ok (.aload_n 2, 1) := by decide +kernel
theorem d_law_249 : decode code 249 = .ok (.aload_n 0, 1) := by decide +kernel
theorem d_law_250 : decode code 250 = .ok (.iload_n 3, 1) := by decide +kernel
theorem d_law_251 : decode code 251 = .ok (.iconst 1, 1) := by decide +kernel
theorem d_law_252 : decode code 252 = .ok (.iadd, 1) := by decide +kernel
theorem d_law_253 : decode code 253 = .ok (.iaload, 1) := by decide +kernel
theorem d_law_254 : decode code 254 = .ok (.aload_n 0, 1) := by decide +kernel
theorem d_law_255 : decode code 255 = .ok (.iload_n 3, 1) := by decide +kernel
theorem d_law_256 : decode code 256 = .ok (.iconst 2, 1) := by decide +kernel
theorem d_law_257 : decode code 257 = .ok (.iadd, 1) := by decide +kernel
theorem d_law_258 : decode code 258 = .ok (.iaload, 1) := by decide +kernel
theorem d_law_259 : decode code 259 = .ok (.invokevirtual 35, 3) := by decide +kernel
theorem d_law_262 : decode code 262 = .ok (.if_icmp .eq 257, 3) := by decide +kernel
theorem d_law_265 : decode code 265 = .ok (.iconst 0, 1) := by decide +kernel
theorem d_law_266 : decode code 266 = .ok (.ireturn, 1) := by decide +kernel
theorem d_law_267 : decode code 267 = .ok (.aload_n 1, 1) := by decide +kernel
theorem d_law_268 : decode code 268 = .ok (.aload_n 0, 1) := by decide +kernel
theorem d_law_269 : decode code 269 = .ok (.iload_n 3, 1) := by decide +kernel
theorem d_law_270 : decode code 270 = .ok (.iconst 1, 1) := by decide +kernel
theorem d_law_271 : decode code 271 = .ok (.iadd, 1) := by decide +kernel
theorem d_law_272 : decode code 272 = .ok (.iaload, 1) := by decide +kernel
theorem d_law_273 : decode code 273 = .ok (.invokevirtual 36, 3) := by decide +kernel
theorem d_law_276 : decode code 276 = .ok (.aload_n 2, 1) := by decide +kernel
theorem d_law_277 : decode code 277 = .ok (.aload_n 0, 1) := by decide +kernel
theorem d_law_278 : decode code 278 = .ok (.iload_n 3, 1) := by decide +kernel
theorem d_law_279 : decode code 279 = .ok (.iconst 1, 1) := by decide +kernel
theorem d_law_280 : decode code 280 = .ok (.iadd, 1) := by decide +kernel
theorem d_law_281 : decode code 281 = .ok (.iaload, 1) := by decide +kernel
theorem d_law_282 : decode code 282 = .ok (.invokevirtual 39, 3) := by decide +kernel
theorem d_law_285 : decode code 285 = .ok (.if_icmp .eq 234, 3) := by decide +kernel
theorem d_law_288 : decode code 288 = .ok (.iconst 0, 1) := by decide +kernel
theorem d_law_289 : decode code 289 = .ok (.ireturn, 1) := by decide +kernel
theorem d_law_290 : decode code 290 = .ok (.aload_n 1, 1) := by decide +kernel
theorem d_law_291 : decode code 291 = .ok (.aload_n 0, 1) := by decide +kernel
theorem d_law_292 : decode code 292 = .ok (.iload_n 3, 1) := by decide +kernel
theorem d_law_293 : decode code 293 = .ok (.iconst 1, 1) := by decide +kernel
theorem d_law_294 : decode code 294 = .ok (.iadd, 1) := by decide +kernel
theorem d_law_295 : decode code 295 = .ok (.iaload, 1) := by decide +kernel
theorem d_law_296 : decode code 296 = .ok (.invokevirtual 40, 3) := by decide +kernel
theorem d_law_299 : decode code 299 = .ok (.aload_n 2, 1) := by decide +kernel
theorem d_law_300 : decode code 300 = .ok (.aload_n 0, 1) := by decide +kernel
theorem d_law_301 : decode code 301 = .ok (.iload_n 3, 1) := by decide +kernel
theorem d_law_302 : decode code 302 = .ok (.iconst 1, 1) := by decide +kernel
theorem d_law_303 : decode code 303 = .ok (.iadd, 1) := by decide +kernel
theorem d_law_304 : decode code 304 = .ok (.iaload, 1) := by decide +kernel
theorem d_law_305 : decode code 305 = .ok (.invokevirtual 43, 3) := by decide +kernel
theorem d_law_308 : decode code 308 = .ok (.if_icmp .eq 211, 3) := by decide +kernel
theorem d_law_311 : decode code 311 = .ok (.iconst 0, 1) := by decide +kernel
theorem d_law_312 : decode code 312 = .ok (.ireturn, 1) := by decide +kernel
theorem d_law_313 : decode code 313 = .ok (.aload_n 1, 1) := by decide +kernel
theorem d_law_314 : decode code 314 = .ok (.aload_n 0, 1) := by decide +kernel
theorem d_law_315 : decode code 315 = .ok (.iload_n 3, 1) := by decide +kernel
theorem d_law_316 : decode code 316 = .ok (.iconst 1, 1) := by decide +kernel
theorem d_law_317 : decode code 317 = .ok (.iadd, 1) := by decide +kernel
theorem d_law_318 : decode code 318 = .ok (.iaload, 1) := by decide +kernel
theorem d_law_319 : decode code 319 = .ok (.invokevirtual 44, 3) := by decide +kernel
theorem d_law_322 : decode code 322 = .ok (.aload_n 2, 1) := by decide +kernel
theorem d_law_323 : decode code 323 = .ok (.aload_n 0, 1) := by decide +kernel
theorem d_law_324 : decode code 324 = .ok (.iload_n 3, 1) := by decide +kernel
theorem d_law_325 : decode code 325 = .ok (.iconst 1, 1) := by decide +kernel
theorem d_law_326 : decode code 326 = .ok (.iadd, 1) := by decide +kernel
theorem d_law_327 : decode code 327 = .ok (.iaload, 1) := by decide +kernel
theorem d_law_328 : decode code 328 = .ok (.invokevirtual 48, 3) := by decide +kernel
theorem d_law_331 : decode code 331 = .ok (.if_icmp .eq 188, 3) := by decide +kernel
theorem d_law_334 : decode code 334 = .ok (.iconst 0, 1) := by decide +kernel
theorem d_law_335 : decode code 335 = .ok (.ireturn, 1) := by decide +kernel
theorem d_law_336 : decode code 336 = .ok (.aload_n 1, 1) := by decide +kernel
theorem d_law_337 : decode code 337 = .ok (.aload_n 0, 1) := by decide +kernel
theorem d_law_338 : decode code 338 = .ok (.iload_n 3, 1) := by decide +kernel
theorem d_law_339 : decode code 339 = .ok (.iconst 1, 1) := by decide +kernel
theorem d_law_340 : decode code 340 = .ok (.iadd, 1) := by decide +kernel
theorem d_law_341 : decode code 341 = .ok (.iaload, 1) := by decide +kernel
theorem d_law_342 : decode code 342 = .ok (.aload_n 0, 1) := by decide +kernel
theorem d_law_343 : decode code 343 = .ok (.iload_n 3, 1) := by decide +kernel
theorem d_law_344 : decode code 344 = .ok (.iconst 2, 1) := by decide +kernel
theorem d_law_345 : decode code 345 = .ok (.iadd, 1) := by decide +kernel
theorem d_law_346 : decode code 346 = .ok (.iaload, 1) := by decide +kernel
theorem d_law_347 : decode code 347 = .ok (.aload_n 0, 1) := by decide +kernel
theorem d_law_348 : decode code 348 = .ok (.iload_n 3, 1) := by decide +kernel
theorem d_law_349 : decode code 349 = .ok (.iconst 3, 1) := by decide +kernel
theorem d_law_350 : decode code 350 = .ok (.iadd, 1) := by decide +kernel
theorem d_law_351 : decode code 351 = .ok (.iaload, 1) := by decide +kernel
theorem d_law_352 : decode code 352 = .ok (.ifCond .eq 7, 3) := by decide +kernel
theorem d_law_355 : decode code 355 = .ok (.iconst 1, 1) := by decide +kernel
theorem d_law_356 : decode code 356 = .ok (.goto 4, 3) := by decide +kernel
theorem d_law_359 : decode code 359 = .ok (.iconst 0, 1) := by decide +kernel
theorem d_law_360 : decode code 360 = .ok (.invokevirtual 49, 3) := by decide +kernel
theorem d_law_363 : decode code 363 = .ok (.aload_n 2, 1) := by decide +kernel
theorem d_law_364 : decode code 364 = .ok (.aload_n 0, 1) := by decide +kernel
theorem d_law_365 : decode code 365 = .ok (.iload_n 3, 1) := by decide +kernel
theorem d_law_366 : decode code 366 = .ok (.iconst 1, 1) := by decide +kernel
theorem d_law_367 : decode code 367 = .ok (.iadd, 1) := by decide +kernel
theorem d_law_368 : decode code 368 = .ok (.iaload, 1) := by decide +kernel
theorem d_law_369 : decode code 369 = .ok (.aload_n 0, 1) := by decide +kernel
theorem d_law_370 : decode code 370 = .ok (.iload_n 3, 1) := by decide +kernel
theorem d_law_371 : decode code 371 = .ok (.iconst 2, 1) := by decide +kernel
theorem d_law_372 : decode code 372 = .ok (.iadd, 1) := by decide +kernel
theorem d_law_373 : decode code 373 = .ok (.iaload, 1) := by decide +kernel
theorem d_law_374 : decode code 374 = .ok (.aload_n 0, 1) := by decide +kernel
theorem d_law_375 : decode code 375 = .ok (.iload_n 3, 1) := by decide +kernel
theorem d_law_376 : decode code 376 = .ok (.iconst 3, 1) := by decide +kernel
theorem d_law_377 : decode code 377 = .ok (.iadd, 1) := by decide +kernel
theorem d_law_378 : decode code 378 = .ok (.iaload, 1) := by decide +kernel
theorem d_law_379 : decode code 379 = .ok (.ifCond .eq 7, 3) := by decide +kernel
theorem d_law_382 : decode code 382 = .ok (.iconst 1, 1) := by decide +kernel
theorem d_law_383 : decode code 383 = .ok (.goto 4, 3) := by decide +kernel
theorem d_law_386 : decode code 386 = .ok (.iconst 0, 1) := by decide +kernel
theorem d_law_387 : decode code 387 = .ok (.invokevirtual 53, 3) := by decide +kernel
theorem d_law_390 : decode code 390 = .ok (.if_icmp .eq 129, 3) := by decide +kernel
theorem d_law_393 : decode code 393 = .ok (.iconst 0, 1) := by decide +kernel
theorem d_law_394 : decode code 394 = .ok (.ireturn, 1) := by decide +kernel
theorem d_law_395 : decode code 395 = .ok (.aload_n 1, 1) := by decide +kernel
theorem d_law_396 : decode code 396 = .ok (.aload_n 0, 1) := by decide +kernel
theorem d_law_397 : decode code 397 = .ok (.iload_n 3, 1) := by decide +kernel
theorem d_law_398 : decode code 398 = .ok (.iconst 1, 1) := by decide +kernel
theorem d_law_399 : decode code 399 = .ok (.iadd, 1) := by decide +kernel
theorem d_law_400 : decode code 400 = .ok (.iaload, 1) := by decide +kernel
theorem d_law_401 : decode code 401 = .ok (.aload_n 0, 1) := by decide +kernel
theorem d_law_402 : decode code 402 = .ok (.iload_n 3, 1) := by decide +kernel
theorem d_law_403 : decode code 403 = .ok (.iconst 2, 1) := by decide +kernel
theorem d_law_404 : decode code 404 = .ok (.iadd, 1) := by decide +kernel
theorem d_law_405 : decode code 405 = .ok (.iaload, 1) := by decide +kernel
theorem d_law_406 : decode code 406 = .ok (.ifCond .eq 7, 3) := by decide +kernel
theorem d_law_409 : decode code 409 = .ok (.iconst 1, 1) := by decide +kernel
theorem d_law_410 : decode code 410 = .ok (.goto 4, 3) := by decide +kernel
theorem d_law_413 : decode code 413 = .ok (.iconst 0, 1) := by decide +kernel
theorem d_law_414 : decode code 414 = .ok (.aload_n 0, 1) := by decide +kernel
theorem d_law_415 : decode code 415 = .ok (.iload_n 3, 1) := by decide +kernel
theorem d_law_416 : decode code 416 = .ok (.iconst 3, 1) := by decide +kernel
theorem d_law_417 : decode code 417 = .ok (.iadd, 1) := by decide +kernel
theorem d_law_418 : decode code 418 = .ok (.iaload, 1) := by decide +kernel
theorem d_law_419 : decode code 419 = .ok (.aload_n 0, 1) := by decide +kernel
theorem d_law_420 : decode code 420 = .ok (.iload_n 3, 1) := by decide +kernel
theorem d_law_421 : decode code 421 = .ok (.iconst 4, 1) := by decide +kernel
theorem d_law_422 : decode code 422 = .ok (.iadd, 1) := by decide +kernel
theorem d_law_423 : decode code 423 = .ok (.iaload, 1) := by decide +kernel
theorem d_law_424 : decode code 424 = .ok (.ifCond .eq 7, 3) := by decide +kernel
theorem d_law_427 : decode code 427 = .ok (.iconst 1, 1) := by decide +kernel
theorem d_law_428 : decode code 428 = .ok (.goto 4, 3) := by decide +kernel
theorem d_law_431 : decode code 431 = .ok (.iconst 0, 1) := by decide +kernel
theorem d_law_432 : decode code 432 = .ok (.aload_n 0, 1) := by decide +kernel
theorem d_law_433 : decode code 433 = .ok (.iload_n 3, 1) := by decide +kernel
theorem d_law_434 : decode code 434 = .ok (.iconst 5, 1) := by decide +kernel
theorem d_law_435 : decode code 435 = .ok (.iadd, 1) := by decide +kernel
theorem d_law_436 : decode code 436 = .ok (.iaload, 1) := by decide +kernel
theorem d_law_437 : decode code 437 = .ok (.ifCond .eq 7, 3) := by decide +kernel
theorem d_law_440 : decode code 440 = .ok (.iconst 1, 1) := by decide +kernel
theorem d_law_441 : decode code 441 = .ok (.goto 4, 3) := by decide +kernel
theorem d_law_444 : decode code 444 = .ok (.iconst 0, 1) := by decide +kernel
theorem d_law_445 : decode code 445 = .ok (.invokevirtual 54, 3) := by decide +kernel
theorem d_law_448 : decode code 448 = .ok (.aload_n 2, 1) := by decide +kernel
theorem d_law_449 : decode code 449 = .ok (.aload_n 0, 1) := by decide +kernel
theorem d_law_450 : decode code 450 = .ok (.iload_n 3, 1) := by decide +kernel
theorem d_law_451 : decode code 451 = .ok (.iconst 1, 1) := by decide +kernel
theorem d_law_452 : decode code 452 = .ok (.iadd, 1) := by decide +kernel
theorem d_law_453 : decode code 453 = .ok (.iaload, 1) := by decide +kernel
theorem d_law_454 : decode code 454 = .ok (.aload_n 0, 1) := by decide +kernel
theorem d_law_455 : decode code 455 = .ok (.iload_n 3, 1) := by decide +kernel
theorem d_law_456 : decode code 456 = .ok (.iconst 2, 1) := by decide +kernel
theorem d_law_457 : decode code 457 = .ok (.iadd, 1) := by decide +kernel
theorem d_law_458 : decode code 458 = .ok (.iaload, 1) := by decide +kernel
theorem d_law_459 : decode code 459 = .ok (.ifCond .eq 7, 3) := by decide +kernel
theorem d_law_462 : decode code 462 = .ok (.iconst 1, 1) := by decide +kernel
theorem d_law_463 : decode code 463 = .ok (.goto 4, 3) := by decide +kernel
theorem d_law_466 : decode code 466 = .ok (.iconst 0, 1) := by decide +kernel
theorem d_law_467 : decode code 467 = .ok (.aload_n 0, 1) := by decide +kernel
theorem d_law_468 : decode code 468 = .ok (.iload_n 3, 1) := by decide +kernel
theorem d_law_469 : decode code 469 = .ok (.iconst 3, 1) := by decide +kernel
theorem d_law_470 : decode code 470 = .ok (.iadd, 1) := by decide +kernel
theorem d_law_471 : decode code 471 = .ok (.iaload, 1) := by decide +kernel
theorem d_law_472 : decode code 472 = .ok (.aload_n 0, 1) := by decide +kernel
theorem d_law_473 : decode code 473 = .ok (.iload_n 3, 1) := by decide +kernel
theorem d_law_474 : decode code 474 = .ok (.iconst 4, 1) := by decide +kernel
theorem d_law_475 : decode code 475 = .ok (.iadd, 1) := by decide +kernel
theorem d_law_476 : decode code 476 = .ok (.iaload, 1) := by decide +kernel
theorem d_law_477 : decode code 477 = .ok (.ifCond .eq 7, 3) := by decide +kernel
theorem d_law_480 : decode code 480 = .ok (.iconst 1, 1) := by decide +kernel
theorem d_law_481 : decode code 481 = .ok (.goto 4, 3) := by decide +kernel
theorem d_law_484 : decode code 484 = .ok (.iconst 0, 1) := by decide +kernel
theorem d_law_485 : decode code 485 = .ok (.aload_n 0, 1) := by decide +kernel
theorem d_law_486 : decode code 486 = .ok (.iload_n 3, 1) := by decide +kernel
theorem d_law_487 : decode code 487 = .ok (.iconst 5, 1) := by decide +kernel
theorem d_law_488 : decode code 488 = .ok (.iadd, 1) := by decide +kernel
theorem d_law_489 : decode code 489 = .ok (.iaload, 1) := by decide +kernel
theorem d_law_490 : decode code 490 = .ok (.ifCond .eq 7, 3) := by decide +kernel
theorem d_law_493 : decode code 493 = .ok (.iconst 1, 1) := by decide +kernel
theorem d_law_494 : decode code 494 = .ok (.goto 4, 3) := by decide +kernel
theorem d_law_497 : decode code 497 = .ok (.iconst 0, 1) := by decide +kernel
theorem d_law_498 : decode code 498 = .ok (.invokevirtual 58, 3) := by decide +kernel
theorem d_law_501 : decode code 501 = .ok (.if_icmp .eq 18, 3) := by decide +kernel
theorem d_law_504 : decode code 504 = .ok (.iconst 0, 1) := by decide +kernel
theorem d_law_505 : decode code 505 = .ok (.ireturn, 1) := by decide +kernel
theorem d_law_506 : decode code 506 = .ok (.aload_n 1, 1) := by decide +kernel
theorem d_law_507 : decode code 507 = .ok (.invokevirtual 59, 3) := by decide +kernel
theorem d_law_510 : decode code 510 = .ok (.aload_n 2, 1) := by decide +kernel
theorem d_law_511 : decode code 511 = .ok (.invokevirtual 63, 3) := by decide +kernel
theorem d_law_514 : decode code 514 = .ok (.if_icmp .eq 5, 3) := by decide +kernel
theorem d_law_517 : decode code 517 = .ok (.iconst 0, 1) := by decide +kernel
theorem d_law_518 : decode code 518 = .ok (.ireturn, 1) := by decide +kernel
theorem d_law_519 : decode code 519 = .ok (.iinc 3 6, 3) := by decide +kernel
theorem d_law_522 : decode code 522 = .ok (.goto (-504), 3) := by decide +kernel
theorem d_law_525 : decode code 525 = .ok (.iconst 1, 1) := by decide +kernel
theorem d_law_526 : decode code 526 = .ok (.ireturn, 1) := by decide +kernel
theorem c_law_9 : zCI R_law 9 y_Mov_init 0 := ⟨⟨zt_of (List.mem_append_left _ (List.mem_of_getElem? (i := 1) rfl)) rfl, by decide +kernel, by decide +kernel, by decide +kernel⟩, Or.inl (zt_of (List.mem_append_left _ (List.mem_of_getElem? (i := 15) rfl)) rfl), zt_of (List.mem_append_left _ (List.mem_of_getElem? (i := 16) rfl)) rfl, rfl⟩
theorem c_law_12 : zCI R_law 12 y_Mod_init 0 := ⟨⟨zt_of (List.mem_append_left _ (List.mem_of_getElem? (i := 7) rfl)) rfl, by decide +kernel, by decide +kernel, by decide +kernel⟩, Or.inl (zt_of (List.mem_append_right _ (List.mem_append_left _ (List.mem_of_getElem? (i := 215) rfl))) rfl), zt_of (List.mem_append_right _ (List.mem_append_left _ (List.mem_of_getElem? (i := 216) rfl))) rfl, rfl⟩
theorem c_law_13 : zCV R_law 13 y_Mov_crossing 0 5 := ⟨⟨zt_of (List.mem_append_left _ (List.mem_of_getElem? (i := 1) rfl)) rfl, by decide +kernel, by decide +kernel, by decide +kernel⟩, zt_of (List.mem_append_left _ (List.mem_of_getElem? (i := 160) rfl)) rfl, zt_of (List.mem_append_left _ (List.mem_of_getElem? (i := 161) rfl)) rfl, zt_of (List.mem_append_left _ (List.mem_of_getElem? (i := 162) rfl)) rfl, rfl⟩
theorem c_law_17 : zCV R_law 17 y_Mod_crossing 7 5 := ⟨⟨zt_of (List.mem_append_left _ (List.mem_of_getElem? (i := 7) rfl)) rfl, by decide +kernel, by decide +kernel, by decide +kernel⟩, zt_of (List.mem_append_right _ (List.mem_append_right _ (List.mem_of_getElem? (i := 54) rfl))) rfl, zt_of (List.mem_append_right _ (List.mem_append_right _ (List.mem_of_getElem? (i := 55) rfl))) rfl, zt_of (List.mem_append_right _ (List.mem_append_right _ (List.mem_of_getElem? (i := 56) rfl))) rfl, rfl⟩
theorem c_law_18 : zCV R_law 18 y_Mov_check 0 1 := ⟨⟨zt_of (List.mem_append_left _ (List.mem_of_getElem? (i := 1) rfl)) rfl, by decide +kernel, by decide +kernel, by decide +kernel⟩, zt_of (List.mem_append_left _ (List.mem_of_getElem? (i := 179) rfl)) rfl, zt_of (List.mem_append_left _ (List.mem_of_getElem? (i := 180) rfl)) rfl, zt_of (List.mem_append_left _ (List.mem_of_getElem? (i := 181) rfl)) rfl, rfl⟩
theorem c_law_22 : zCV R_law 22 y_Mod_check 7 1 := ⟨⟨zt_of (List.mem_append_left _ (List.mem_of_getElem? (i := 7) rfl)) rfl, by decide +kernel, by decide +kernel, by decide +kernel⟩, zt_of (List.mem_append_right _ (List.mem_append_right _ (List.mem_of_getElem? (i := 58) rfl))) rfl, zt_of (List.mem_append_right _ (List.mem_append_right _ (List.mem_of_getElem? (i := 59) rfl))) rfl, zt_of (List.mem_append_right _ (List.mem_append_right _ (List.mem_of_getElem? (i := 60) rfl))) rfl, rfl⟩
theorem c_law_23 : zCV R_law 23 y_Mov_many 0 1 := ⟨⟨zt_of (List.mem_append_left _ (List.mem_of_getElem? (i := 1) rfl)) rfl, by decide +kernel, by decide +kernel, by decide +kernel⟩, zt_of (List.mem_append_right _ (List.mem_append_left _ (List.mem_of_getElem? (i := 21) rfl))) rfl, zt_of (List.mem_append_right _ (List.mem_append_left _ (List.mem_of_getElem? (i := 22) rfl))) rfl, zt_of (List.mem_append_right _ (List.mem_append_left _ (List.mem_of_getElem? (i := 23) rfl))) rfl, rfl⟩
theorem c_law_26 : zCV R_law 26 y_Mod_many 7 1 := ⟨⟨zt_of (List.mem_append_left _ (List.mem_of_getElem? (i := 7) rfl)) rfl, by decide +kernel, by decide +kernel, by decide +kernel⟩, zt_of (List.mem_append_right _ (List.mem_append_right _ (List.mem_of_getElem? (i := 114) rfl))) rfl, zt_of (List.mem_append_right _ (List.mem_append_right _ (List.mem_of_getElem? (i := 115) rfl))) rfl, zt_of (List.mem_append_right _ (List.mem_append_right _ (List.mem_of_getElem? (i := 116) rfl))) rfl, rfl⟩
theorem c_law_27 : zCV R_law 27 y_Mov_look 0 2 := ⟨⟨zt_of (List.mem_append_left _ (List.mem_of_getElem? (i := 1) rfl)) rfl, by decide +kernel, by decide +kernel, by decide +kernel⟩, zt_of (List.mem_append_right _ (List.mem_append_left _ (List.mem_of_getElem? (i := 33) rfl))) rfl, zt_of (List.mem_append_right _ (List.mem_append_left _ (List.mem_of_getElem? (i := 34) rfl))) rfl, zt_of (List.mem_append_right _ (List.mem_append_left _ (List.mem_of_getElem? (i := 35) rfl))) rfl, rfl⟩
theorem c_law_31 : zCV R_law 31 y_Mod_look 7 2 := ⟨⟨zt_of (List.mem_append_left _ (List.mem_of_getElem? (i := 7) rfl)) rfl, by decide +kernel, by decide +kernel, by decide +kernel⟩, zt_of (List.mem_append_right _ (List.mem_append_right _ (List.mem_of_getElem? (i := 153) rfl))) rfl, zt_of (List.mem_append_right _ (List.mem_append_right _ (List.mem_of_getElem? (i := 154) rfl))) rfl, zt_of (List.mem_append_right _ (List.mem_append_right _ (List.mem_of_getElem? (i := 155) rfl))) rfl, rfl⟩
theorem c_law_32 : zCV R_law 32 y_Mov_face 0 2 := ⟨⟨zt_of (List.mem_append_left _ (List.mem_of_getElem? (i := 1) rfl)) rfl, by decide +kernel, by decide +kernel, by decide +kernel⟩, zt_of (List.mem_append_right _ (List.mem_append_left _ (List.mem_of_getElem? (i := 37) rfl))) rfl, zt_of (List.mem_append_right _ (List.mem_append_left _ (List.mem_of_getElem? (i := 38) rfl))) rfl, zt_of (List.mem_append_right _ (List.mem_append_left _ (List.mem_of_getElem? (i := 39) rfl))) rfl, rfl⟩
theorem c_law_35 : zCV R_law 35 y_Mod_face 7 2 := ⟨⟨zt_of (List.mem_append_left _ (List.mem_of_getElem? (i := 7) rfl)) rfl, by decide +kernel, by decide +kernel, by decide +kernel⟩, zt_of (List.mem_append_right _ (List.mem_append_right _ (List.mem_of_getElem? (i := 157) rfl))) rfl, zt_of (List.mem_append_right _ (List.mem_append_right _ (List.mem_of_getElem? (i := 158) rfl))) rfl, zt_of (List.mem_append_right _ (List.mem_append_right _ (List.mem_of_getElem? (i := 159) rfl))) rfl, rfl⟩
theorem c_law_36 : zCV R_law 36 y_Mov_pattern 0 1 := ⟨⟨zt_of (List.mem_append_left _ (List.mem_of_getElem? (i := 1) rfl)) rfl, by decide +kernel, by decide +kernel, by decide +kernel⟩, zt_of (List.mem_append_right _ (List.mem_append_left _ (List.mem_of_getElem? (i := 57) rfl))) rfl, zt_of (List.mem_append_right _ (List.mem_append_left _ (List.mem_of_getElem? (i := 58) rfl))) rfl, zt_of (List.mem_append_right _ (List.mem_append_left _ (List.mem_of_getElem? (i := 59) rfl))) rfl, rfl⟩
theorem c_law_39 : zCV R_law 39 y_Mod_pattern 7 1 := ⟨⟨zt_of (List.mem_append_left _ (List.mem_of_getElem? (i := 7) rfl)) rfl, by decide +kernel, by decide +kernel, by decide +kernel⟩, zt_of (List.mem_append_right _ (List.mem_append_right _ (List.mem_of_getElem? (i := 165) rfl))) rfl, zt_of (List.mem_append_right _ (List.mem_append_right _ (List.mem_of_getElem? (i := 166) rfl))) rfl, zt_of (List.mem_append_right _ (List.mem_append_right _ (List.mem_of_getElem? (i := 167) rfl))) rfl, rfl⟩
theorem c_law_40 : zCV R_law 40 y_Mov_undo 0 1 := ⟨⟨zt_of (List.mem_append_left _ (List.mem_of_getElem? (i := 1) rfl)) rfl, by decide +kernel, by decide +kernel, by decide +kernel⟩, zt_of (List.mem_append_right _ (List.mem_append_left _ (List.mem_of_getElem? (i := 90) rfl))) rfl, zt_of (List.mem_append_right _ (List.mem_append_left _ (List.mem_of_getElem? (i := 91) rfl))) rfl, zt_of (List.mem_append_right _ (List.mem_append_left _ (List.mem_of_getElem? (i := 92) rfl))) rfl, rfl⟩
theorem c_law_43 : zCV R_law 43 y_Mod_undo 7 1 := ⟨⟨zt_of (List.mem_append_left _ (List.mem_of_getElem? (i := 7) rfl)) rfl, by decide +kernel, by decide +kernel, by decide +kernel⟩, zt_of (List.mem_append_right _ (List.mem_append_right _ (List.mem_of_getElem? (i := 180) rfl))) rfl, zt_of (List.mem_append_right _ (List.mem_append_right _ (List.mem_of_getElem? (i := 181) rfl))) rfl, zt_of (List.mem_append_right _ (List.mem_append_right _ (List.mem_of_getElem? (i := 182) rfl))) rfl, rfl⟩
theorem c_law_44 : zCV R_law 44 y_Mov_slide 0 1 := ⟨⟨zt_of (List.mem_append_left _ (List.mem_of_getElem? (i := 1) rfl)) rfl, by decide +kernel, by decide +kernel, by decide +kernel⟩, zt_of (List.mem_append_right _ (List.mem_append_left _ (List.mem_of_getElem? (i := 124) rfl))) rfl, zt_of (List.mem_append_right _ (List.mem_append_left _ (List.mem_of_getElem? (i := 125) rfl))) rfl, zt_of (List.mem_append_right _ (List.mem_append_left _ (List.mem_of_getElem? (i := 126) rfl))) rfl, rfl⟩
theorem c_law_48 : zCV R_law 48 y_Mod_slide 7 1 := ⟨⟨zt_of (List.mem_append_left _ (List.mem_of_getElem? (i := 7) rfl)) rfl, by decide +kernel, by decide +kernel, by decide +kernel⟩, zt_of (List.mem_append_right _ (List.mem_append_right _ (List.mem_of_getElem? (i := 202) rfl))) rfl, zt_of (List.mem_append_right _ (List.mem_append_right _ (List.mem_of_getElem? (i := 203) rfl))) rfl, zt_of (List.mem_append_right _ (List.mem_append_right _ (List.mem_of_getElem? (i := 204) rfl))) rfl, rfl⟩
theorem c_law_49 : zCV R_law 49 y_Mov_twist 0 3 := ⟨⟨zt_of (List.mem_append_left _ (List.mem_of_getElem? (i := 1) rfl)) rfl, by decide +kernel, by decide +kernel, by decide +kernel⟩, zt_of (List.mem_append_right _ (List.mem_append_left _ (List.mem_of_getElem? (i := 137) rfl))) rfl, zt_of (List.mem_append_right _ (List.mem_append_left _ (List.mem_of_getElem? (i := 138) rfl))) rfl, zt_of (List.mem_append_right _ (List.mem_append_left _ (List.mem_of_getElem? (i := 139) rfl))) rfl, rfl⟩
theorem c_law_53 : zCV R_law 53 y_Mod_twist 7 3 := ⟨⟨zt_of (List.mem_append_left _ (List.mem_of_getElem? (i := 7) rfl)) rfl, by decide +kernel, by decide +kernel, by decide +kernel⟩, zt_of (List.mem_append_right _ (List.mem_append_right _ (List.mem_of_getElem? (i := 206) rfl))) rfl, zt_of (List.mem_append_right _ (List.mem_append_right _ (List.mem_of_getElem? (i := 207) rfl))) rfl, zt_of (List.mem_append_right _ (List.mem_append_right _ (List.mem_of_getElem? (i := 208) rfl))) rfl, rfl⟩
theorem c_law_54 : zCV R_law 54 y_Mov_push 0 5 := ⟨⟨zt_of (List.mem_append_left _ (List.mem_of_getElem? (i := 1) rfl)) rfl, by decide +kernel, by decide +kernel, by decide +kernel⟩, zt_of (List.mem_append_right _ (List.mem_append_left _ (List.mem_of_getElem? (i := 192) rfl))) rfl, zt_of (List.mem_append_right _ (List.mem_append_left _ (List.mem_of_getElem? (i := 193) rfl))) rfl, zt_of (List.mem_append_right _ (List.mem_append_left _ (List.mem_of_getElem? (i := 194) rfl))) rfl, rfl⟩
theorem c_law_58 : zCV R_law 58 y_Mod_push 7 5 := ⟨⟨zt_of (List.mem_append_left _ (List.mem_of_getElem? (i := 7) rfl)) rfl, by decide +kernel, by decide +kernel, by decide +kernel⟩, zt_of (List.mem_append_right _ (List.mem_append_right _ (List.mem_of_getElem? (i := 214) rfl))) rfl, zt_of (List.mem_append_right _ (List.mem_append_right _ (List.mem_of_getElem? (i := 215) rfl))) rfl, zt_of (List.mem_append_right _ (List.mem_append_right _ (List.mem_of_getElem? (i := 216) rfl))) rfl, rfl⟩
theorem c_law_59 : zCV R_law 59 y_Mov_simplify 0 0 := ⟨⟨zt_of (List.mem_append_left _ (List.mem_of_getElem? (i := 1) rfl)) rfl, by decide +kernel, by decide +kernel, by decide +kernel⟩, zt_of (List.mem_append_right _ (List.mem_append_left _ (List.mem_of_getElem? (i := 205) rfl))) rfl, zt_of (List.mem_append_right _ (List.mem_append_left _ (List.mem_of_getElem? (i := 206) rfl))) rfl, zt_of (List.mem_append_right _ (List.mem_append_left _ (List.mem_of_getElem? (i := 207) rfl))) rfl, rfl⟩
theorem c_law_63 : zCV R_law 63 y_Mod_simplify 7 0 := ⟨⟨zt_of (List.mem_append_left _ (List.mem_of_getElem? (i := 7) rfl)) rfl, by decide +kernel, by decide +kernel, by decide +kernel⟩, zt_of (List.mem_append_right _ (List.mem_append_right _ (List.mem_of_getElem? (i := 197) rfl))) rfl, zt_of (List.mem_append_right _ (List.mem_append_right _ (List.mem_of_getElem? (i := 198) rfl))) rfl, zt_of (List.mem_append_right _ (List.mem_append_right _ (List.mem_of_getElem? (i := 199) rfl))) rfl, rfl⟩
theorem w_law_7 : Cond.classLink R_law 7 R_Mov ∈ zt := z_cl_Law_7
theorem w_law_10 : Cond.classLink R_law 10 R_Mod ∈ zt := z_cl_Law_10
