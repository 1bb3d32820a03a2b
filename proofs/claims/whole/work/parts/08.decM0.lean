theorem dX10_init_0 : decode cX10_init 0 = .ok (.aload_n 0, 1) := by decide +kernel
theorem dX10_init_1 : decode cX10_init 1 = .ok (.invokespecial 7, 3) := by decide +kernel
theorem dX10_init_4 : decode cX10_init 4 = .ok (.aload_n 0, 1) := by decide +kernel
theorem dX10_init_5 : decode cX10_init 5 = .ok (.sipush 226, 3) := by decide +kernel
theorem dX10_init_8 : decode cX10_init 8 = .ok (.newarray .int, 2) := by decide +kernel
theorem dX10_init_10 : decode cX10_init 10 = .ok (.putfield 13, 3) := by decide +kernel
theorem dX10_init_13 : decode cX10_init 13 = .ok (.aload_n 0, 1) := by decide +kernel
theorem dX10_init_14 : decode cX10_init 14 = .ok (.sipush 226, 3) := by decide +kernel
theorem dX10_init_17 : decode cX10_init 17 = .ok (.newarray .int, 2) := by decide +kernel
theorem dX10_init_19 : decode cX10_init 19 = .ok (.putfield 17, 3) := by decide +kernel
theorem dX10_init_22 : decode cX10_init 22 = .ok (.aload_n 0, 1) := by decide +kernel
theorem dX10_init_23 : decode cX10_init 23 = .ok (.sipush 2712, 3) := by decide +kernel
theorem dX10_init_26 : decode cX10_init 26 = .ok (.newarray .int, 2) := by decide +kernel
theorem dX10_init_28 : decode cX10_init 28 = .ok (.putfield 20, 3) := by decide +kernel
theorem dX10_init_31 : decode cX10_init 31 = .ok (.aload_n 0, 1) := by decide +kernel
theorem dX10_init_32 : decode cX10_init 32 = .ok (.bipush 24, 2) := by decide +kernel
theorem dX10_init_34 : decode cX10_init 34 = .ok (.newarray .int, 2) := by decide +kernel
theorem dX10_init_36 : decode cX10_init 36 = .ok (.putfield 23, 3) := by decide +kernel
theorem dX10_init_39 : decode cX10_init 39 = .ok (.aload_n 0, 1) := by decide +kernel
theorem dX10_init_40 : decode cX10_init 40 = .ok (.bipush 6, 2) := by decide +kernel
theorem dX10_init_42 : decode cX10_init 42 = .ok (.newarray .int, 2) := by decide +kernel
theorem dX10_init_44 : decode cX10_init 44 = .ok (.putfield 26, 3) := by decide +kernel
theorem dX10_init_47 : decode cX10_init 47 = .ok (.aload_n 0, 1) := by decide +kernel
theorem dX10_init_48 : decode cX10_init 48 = .ok (.bipush 7, 2) := by decide +kernel
theorem dX10_init_50 : decode cX10_init 50 = .ok (.newarray .long, 2) := by decide +kernel
theorem dX10_init_52 : decode cX10_init 52 = .ok (.putfield 29, 3) := by decide +kernel
theorem dX10_init_55 : decode cX10_init 55 = .ok (.aload_n 0, 1) := by decide +kernel
theorem dX10_init_56 : decode cX10_init 56 = .ok (.sipush 420, 3) := by decide +kernel
theorem dX10_init_59 : decode cX10_init 59 = .ok (.newarray .long, 2) := by decide +kernel
theorem dX10_init_61 : decode cX10_init 61 = .ok (.putfield 33, 3) := by decide +kernel
theorem dX10_init_64 : decode cX10_init 64 = .ok (.aload_n 0, 1) := by decide +kernel
theorem dX10_init_65 : decode cX10_init 65 = .ok (.sipush 420, 3) := by decide +kernel
theorem dX10_init_68 : decode cX10_init 68 = .ok (.newarray .long, 2) := by decide +kernel
theorem dX10_init_70 : decode cX10_init 70 = .ok (.putfield 36, 3) := by decide +kernel
theorem dX10_init_73 : decode cX10_init 73 = .ok (.aload_n 0, 1) := by decide +kernel
theorem dX10_init_74 : decode cX10_init 74 = .ok (.bipush 6, 2) := by decide +kernel
theorem dX10_init_76 : decode cX10_init 76 = .ok (.newarray .int, 2) := by decide +kernel
theorem dX10_init_78 : decode cX10_init 78 = .ok (.putfield 39, 3) := by decide +kernel
theorem dX10_init_81 : decode cX10_init 81 = .ok (.aload_n 0, 1) := by decide +kernel
theorem dX10_init_82 : decode cX10_init 82 = .ok (.bipush 6, 2) := by decide +kernel
theorem dX10_init_84 : decode cX10_init 84 = .ok (.newarray .int, 2) := by decide +kernel
theorem dX10_init_86 : decode cX10_init 86 = .ok (.putfield 42, 3) := by decide +kernel
theorem dX10_init_89 : decode cX10_init 89 = .ok (.aload_n 0, 1) := by decide +kernel
theorem dX10_init_90 : decode cX10_init 90 = .ok (.bipush 6, 2) := by decide +kernel
theorem dX10_init_92 : decode cX10_init 92 = .ok (.newarray .int, 2) := by decide +kernel
theorem dX10_init_94 : decode cX10_init 94 = .ok (.putfield 45, 3) := by decide +kernel
theorem dX10_init_97 : decode cX10_init 97 = .ok (.aload_n 0, 1) := by decide +kernel
theorem dX10_init_98 : decode cX10_init 98 = .ok (.sipush 2520, 3) := by decide +kernel
theorem dX10_init_101 : decode cX10_init 101 = .ok (.newarray .int, 2) := by decide +kernel
theorem dX10_init_103 : decode cX10_init 103 = .ok (.putfield 48, 3) := by decide +kernel
theorem dX10_init_106 : decode cX10_init 106 = .ok (.aload_n 0, 1) := by decide +kernel
theorem dX10_init_107 : decode cX10_init 107 = .ok (.sipush 840, 3) := by decide +kernel
theorem dX10_init_110 : decode cX10_init 110 = .ok (.newarray .int, 2) := by decide +kernel
theorem dX10_init_112 : decode cX10_init 112 = .ok (.putfield 51, 3) := by decide +kernel
theorem dX10_init_115 : decode cX10_init 115 = .ok (.aload_n 0, 1) := by decide +kernel
theorem dX10_init_116 : decode cX10_init 116 = .ok (.sipush 840, 3) := by decide +kernel
theorem dX10_init_119 : decode cX10_init 119 = .ok (.newarray .int, 2) := by decide +kernel
theorem dX10_init_121 : decode cX10_init 121 = .ok (.putfield 54, 3) := by decide +kernel
theorem dX10_init_124 : decode cX10_init 124 = .ok (.aload_n 0, 1) := by decide +kernel
theorem dX10_init_125 : decode cX10_init 125 = .ok (.sipush 1300, 3) := by decide +kernel
theorem dX10_init_128 : decode cX10_init 128 = .ok (.newarray .int, 2) := by decide +kernel
theorem dX10_init_130 : decode cX10_init 130 = .ok (.putfield 57, 3) := by decide +kernel
theorem dX10_init_133 : decode cX10_init 133 = .ok (.aload_n 0, 1) := by decide +kernel
theorem dX10_init_134 : decode cX10_init 134 = .ok (.sipush 1300, 3) := by decide +kernel
theorem dX10_init_137 : decode cX10_init 137 = .ok (.newarray .int, 2) := by decide +kernel
theorem dX10_init_139 : decode cX10_init 139 = .ok (.putfield 60, 3) := by decide +kernel
theorem dX10_init_142 : decode cX10_init 142 = .ok (.aload_n 0, 1) := by decide +kernel
theorem dX10_init_143 : decode cX10_init 143 = .ok (.sipush 1300, 3) := by decide +kernel
theorem dX10_init_146 : decode cX10_init 146 = .ok (.newarray .int, 2) := by decide +kernel
theorem dX10_init_148 : decode cX10_init 148 = .ok (.putfield 63, 3) := by decide +kernel
theorem dX10_init_151 : decode cX10_init 151 = .ok (.aload_n 0, 1) := by decide +kernel
theorem dX10_init_152 : decode cX10_init 152 = .ok (.sipush 1300, 3) := by decide +kernel
theorem dX10_init_155 : decode cX10_init 155 = .ok (.newarray .boolean, 2) := by decide +kernel
theorem dX10_init_157 : decode cX10_init 157 = .ok (.putfield 66, 3) := by decide +kernel
theorem dX10_init_160 : decode cX10_init 160 = .ok (.aload_n 0, 1) := by decide +kernel
theorem dX10_init_161 : decode cX10_init 161 = .ok (.iconst 3, 1) := by decide +kernel
theorem dX10_init_162 : decode cX10_init 162 = .ok (.newarray .int, 2) := by decide +kernel
theorem dX10_init_164 : decode cX10_init 164 = .ok (.putfield 70, 3) := by decide +kernel
theorem dX10_init_167 : decode cX10_init 167 = .ok (.aload_n 0, 1) := by decide +kernel
theorem dX10_init_168 : decode cX10_init 168 = .ok (.sipush 2000, 3) := by decide +kernel
theorem dX10_init_171 : decode cX10_init 171 = .ok (.newarray .int, 2) := by decide +kernel
theorem dX10_init_173 : decode cX10_init 173 = .ok (.putfield 73, 3) := by decide +kernel
theorem dX10_init_176 : decode cX10_init 176 = .ok (.aload_n 0, 1) := by decide +kernel
theorem dX10_init_177 : decode cX10_init 177 = .ok (.sipush 400, 3) := by decide +kernel
theorem dX10_init_180 : decode cX10_init 180 = .ok (.newarray .int, 2) := by decide +kernel
theorem dX10_init_182 : decode cX10_init 182 = .ok (.putfield 76, 3) := by decide +kernel
theorem dX10_init_185 : decode cX10_init 185 = .ok (.aload_n 0, 1) := by decide +kernel
theorem dX10_init_186 : decode cX10_init 186 = .ok (.bipush 50, 2) := by decide +kernel
theorem dX10_init_188 : decode cX10_init 188 = .ok (.newarray .byte, 2) := by decide +kernel
theorem dX10_init_190 : decode cX10_init 190 = .ok (.dup, 1) := by decide +kernel
theorem dX10_init_191 : decode cX10_init 191 = .ok (.iconst 0, 1) := by decide +kernel
theorem dX10_init_192 : decode cX10_init 192 = .ok (.bipush 99, 2) := by decide +kernel
theorem dX10_init_194 : decode cX10_init 194 = .ok (.bastore, 1) := by decide +kernel
theorem dX10_init_195 : decode cX10_init 195 = .ok (.dup, 1) := by decide +kernel
theorem dX10_init_196 : decode cX10_init 196 = .ok (.iconst 1, 1) := by decide +kernel
theorem dX10_init_197 : decode cX10_init 197 = .ok (.bipush 111, 2) := by decide +kernel
theorem dX10_init_199 : decode cX10_init 199 = .ok (.bastore, 1) := by decide +kernel
theorem dX10_init_200 : decode cX10_init 200 = .ok (.dup, 1) := by decide +kernel
theorem dX10_init_201 : decode cX10_init 201 = .ok (.iconst 2, 1) := by decide +kernel
theorem dX10_init_202 : decode cX10_init 202 = .ok (.bipush 108, 2) := by decide +kernel
theorem dX10_init_204 : decode cX10_init 204 = .ok (.bastore, 1) := by decide +kernel
theorem dX10_init_205 : decode cX10_init 205 = .ok (.dup, 1) := by decide +kernel
theorem dX10_init_206 : decode cX10_init 206 = .ok (.iconst 3, 1) := by decide +kernel
theorem dX10_init_207 : decode cX10_init 207 = .ok (.bipush 117, 2) := by decide +kernel
theorem dX10_init_209 : decode cX10_init 209 = .ok (.bastore, 1) := by decide +kernel
theorem dX10_init_210 : decode cX10_init 210 = .ok (.dup, 1) := by decide +kernel
theorem dX10_init_211 : decode cX10_init 211 = .ok (.iconst 4, 1) := by decide +kernel
theorem dX10_init_212 : decode cX10_init 212 = .ok (.bipush 109, 2) := by decide +kernel
theorem dX10_init_214 : decode cX10_init 214 = .ok (.bastore, 1) := by decide +kernel
theorem dX10_init_215 : decode cX10_init 215 = .ok (.dup, 1) := by decide +kernel
theorem dX10_init_216 : decode cX10_init 216 = .ok (.iconst 5, 1) := by decide +kernel
theorem dX10_init_217 : decode cX10_init 217 = .ok (.bipush 110, 2) := by decide +kernel
theorem dX10_init_219 : decode cX10_init 219 = .ok (.bastore, 1) := by decide +kernel
theorem dX10_init_220 : decode cX10_init 220 = .ok (.dup, 1) := by decide +kernel
theorem dX10_init_221 : decode cX10_init 221 = .ok (.bipush 6, 2) := by decide +kernel
theorem dX10_init_223 : decode cX10_init 223 = .ok (.iconst 0, 1) := by decide +kernel
theorem dX10_init_224 : decode cX10_init 224 = .ok (.bastore, 1) := by decide +kernel
theorem dX10_init_225 : decode cX10_init 225 = .ok (.dup, 1) := by decide +kernel
theorem dX10_init_226 : decode cX10_init 226 = .ok (.bipush 7, 2) := by decide +kernel
theorem dX10_init_228 : decode cX10_init 228 = .ok (.bipush 114, 2) := by decide +kernel
theorem dX10_init_230 : decode cX10_init 230 = .ok (.bastore, 1) := by decide +kernel
theorem dX10_init_231 : decode cX10_init 231 = .ok (.dup, 1) := by decide +kernel
theorem dX10_init_232 : decode cX10_init 232 = .ok (.bipush 8, 2) := by decide +kernel
theorem dX10_init_234 : decode cX10_init 234 = .ok (.bipush 111, 2) := by decide +kernel
theorem dX10_init_236 : decode cX10_init 236 = .ok (.bastore, 1) := by decide +kernel
theorem dX10_init_237 : decode cX10_init 237 = .ok (.dup, 1) := by decide +kernel
theorem dX10_init_238 : decode cX10_init 238 = .ok (.bipush 9, 2) := by decide +kernel
theorem dX10_init_240 : decode cX10_init 240 = .ok (.bipush 119, 2) := by decide +kernel
theorem dX10_init_242 : decode cX10_init 242 = .ok (.bastore, 1) := by decide +kernel
theorem dX10_init_243 : decode cX10_init 243 = .ok (.dup, 1) := by decide +kernel
theorem dX10_init_244 : decode cX10_init 244 = .ok (.bipush 10, 2) := by decide +kernel
theorem dX10_init_246 : decode cX10_init 246 = .ok (.iconst 0, 1) := by decide +kernel
theorem dX10_init_247 : decode cX10_init 247 = .ok (.bastore, 1) := by decide +kernel
theorem dX10_init_248 : decode cX10_init 248 = .ok (.dup, 1) := by decide +kernel
theorem dX10_init_249 : decode cX10_init 249 = .ok (.bipush 11, 2) := by decide +kernel
theorem dX10_init_251 : decode cX10_init 251 = .ok (.bipush 112, 2) := by decide +kernel
theorem dX10_init_253 : decode cX10_init 253 = .ok (.bastore, 1) := by decide +kernel
theorem dX10_init_254 : decode cX10_init 254 = .ok (.dup, 1) := by decide +kernel
theorem dX10_init_255 : decode cX10_init 255 = .ok (.bipush 12, 2) := by decide +kernel
theorem dX10_init_257 : decode cX10_init 257 = .ok (.bipush 117, 2) := by decide +kernel
theorem dX10_init_259 : decode cX10_init 259 = .ok (.bastore, 1) := by decide +kernel
theorem dX10_init_260 : decode cX10_init 260 = .ok (.dup, 1) := by decide +kernel
theorem dX10_init_261 : decode cX10_init 261 = .ok (.bipush 13, 2) := by decide +kernel
theorem dX10_init_263 : decode cX10_init 263 = .ok (.bipush 116, 2) := by decide +kernel
theorem dX10_init_265 : decode cX10_init 265 = .ok (.bastore, 1) := by decide +kernel
theorem dX10_init_266 : decode cX10_init 266 = .ok (.dup, 1) := by decide +kernel
theorem dX10_init_267 : decode cX10_init 267 = .ok (.bipush 14, 2) := by decide +kernel
theorem dX10_init_269 : decode cX10_init 269 = .ok (.iconst 0, 1) := by decide +kernel
theorem dX10_init_270 : decode cX10_init 270 = .ok (.bastore, 1) := by decide +kernel
theorem dX10_init_271 : decode cX10_init 271 = .ok (.dup, 1) := by decide +kernel
theorem dX10_init_272 : decode cX10_init 272 = .ok (.bipush 15, 2) := by decide +kernel
theorem dX10_init_274 : decode cX10_init 274 = .ok (.bipush 116, 2) := by decide +kernel
theorem dX10_init_276 : decode cX10_init 276 = .ok (.bastore, 1) := by decide +kernel
theorem dX10_init_277 : decode cX10_init 277 = .ok (.dup, 1) := by decide +kernel
theorem dX10_init_278 : decode cX10_init 278 = .ok (.bipush 16, 2) := by decide +kernel
theorem dX10_init_280 : decode cX10_init 280 = .ok (.bipush 97, 2) := by decide +kernel
theorem dX10_init_282 : decode cX10_init 282 = .ok (.bastore, 1) := by decide +kernel
theorem dX10_init_283 : decode cX10_init 283 = .ok (.dup, 1) := by decide +kernel
theorem dX10_init_284 : decode cX10_init 284 = .ok (.bipush 17, 2) := by decide +kernel
theorem dX10_init_286 : decode cX10_init 286 = .ok (.bipush 107, 2) := by decide +kernel
theorem dX10_init_288 : decode cX10_init 288 = .ok (.bastore, 1) := by decide +kernel
theorem dX10_init_289 : decode cX10_init 289 = .ok (.dup, 1) := by decide +kernel
theorem dX10_init_290 : decode cX10_init 290 = .ok (.bipush 18, 2) := by decide +kernel
theorem dX10_init_292 : decode cX10_init 292 = .ok (.bipush 101, 2) := by decide +kernel
theorem dX10_init_294 : decode cX10_init 294 = .ok (.bastore, 1) := by decide +kernel
theorem dX10_init_295 : decode cX10_init 295 = .ok (.dup, 1) := by decide +kernel
theorem dX10_init_296 : decode cX10_init 296 = .ok (.bipush 19, 2) := by decide +kernel
theorem dX10_init_298 : decode cX10_init 298 = .ok (.iconst 0, 1) := by decide +kernel
theorem dX10_init_299 : decode cX10_init 299 = .ok (.bastore, 1) := by decide +kernel
theorem dX10_init_300 : decode cX10_init 300 = .ok (.dup, 1) := by decide +kernel
theorem dX10_init_301 : decode cX10_init 301 = .ok (.bipush 20, 2) := by decide +kernel
theorem dX10_init_303 : decode cX10_init 303 = .ok (.bipush 99, 2) := by decide +kernel
theorem dX10_init_305 : decode cX10_init 305 = .ok (.bastore, 1) := by decide +kernel
theorem dX10_init_306 : decode cX10_init 306 = .ok (.dup, 1) := by decide +kernel
theorem dX10_init_307 : decode cX10_init 307 = .ok (.bipush 21, 2) := by decide +kernel
theorem dX10_init_309 : decode cX10_init 309 = .ok (.bipush 97, 2) := by decide +kernel
theorem dX10_init_311 : decode cX10_init 311 = .ok (.bastore, 1) := by decide +kernel
theorem dX10_init_312 : decode cX10_init 312 = .ok (.dup, 1) := by decide +kernel
theorem dX10_init_313 : decode cX10_init 313 = .ok (.bipush 22, 2) := by decide +kernel
theorem dX10_init_315 : decode cX10_init 315 = .ok (.bipush 114, 2) := by decide +kernel
theorem dX10_init_317 : decode cX10_init 317 = .ok (.bastore, 1) := by decide +kernel
theorem dX10_init_318 : decode cX10_init 318 = .ok (.dup, 1) := by decide +kernel
theorem dX10_init_319 : decode cX10_init 319 = .ok (.bipush 23, 2) := by decide +kernel
theorem dX10_init_321 : decode cX10_init 321 = .ok (.bipush 114, 2) := by decide +kernel
theorem dX10_init_323 : decode cX10_init 323 = .ok (.bastore, 1) := by decide +kernel
theorem dX10_init_324 : decode cX10_init 324 = .ok (.dup, 1) := by decide +kernel
theorem dX10_init_325 : decode cX10_init 325 = .ok (.bipush 24, 2) := by decide +kernel
theorem dX10_init_327 : decode cX10_init 327 = .ok (.bipush 121, 2) := by decide +kernel
theorem dX10_init_329 : decode cX10_init 329 = .ok (.bastore, 1) := by decide +kernel
theorem dX10_init_330 : decode cX10_init 330 = .ok (.dup, 1) := by decide +kernel
theorem dX10_init_331 : decode cX10_init 331 = .ok (.bipush 25, 2) := by decide +kernel
theorem dX10_init_333 : decode cX10_init 333 = .ok (.iconst 0, 1) := by decide +kernel
theorem dX10_init_334 : decode cX10_init 334 = .ok (.bastore, 1) := by decide +kernel
theorem dX10_init_335 : decode cX10_init 335 = .ok (.dup, 1) := by decide +kernel
theorem dX10_init_336 : decode cX10_init 336 = .ok (.bipush 26, 2) := by decide +kernel
theorem dX10_init_338 : decode cX10_init 338 = .ok (.bipush 98, 2) := by decide +kernel
theorem dX10_init_340 : decode cX10_init 340 = .ok (.bastore, 1) := by decide +kernel
theorem dX10_init_341 : decode cX10_init 341 = .ok (.dup, 1) := by decide +kernel
theorem dX10_init_342 : decode cX10_init 342 = .ok (.bipush 27, 2) := by decide +kernel
theorem dX10_init_344 : decode cX10_init 344 = .ok (.bipush 114, 2) := by decide +kernel
theorem dX10_init_346 : decode cX10_init 346 = .ok (.bastore, 1) := by decide +kernel
theorem dX10_init_347 : decode cX10_init 347 = .ok (.dup, 1) := by decide +kernel
theorem dX10_init_348 : decode cX10_init 348 = .ok (.bipush 28, 2) := by decide +kernel
theorem dX10_init_350 : decode cX10_init 350 = .ok (.bipush 101, 2) := by decide +kernel
theorem dX10_init_352 : decode cX10_init 352 = .ok (.bastore, 1) := by decide +kernel
theorem dX10_init_353 : decode cX10_init 353 = .ok (.dup, 1) := by decide +kernel
theorem dX10_init_354 : decode cX10_init 354 = .ok (.bipush 29, 2) := by decide +kernel
theorem dX10_init_356 : decode cX10_init 356 = .ok (.bipush 97, 2) := by decide +kernel
theorem dX10_init_358 : decode cX10_init 358 = .ok (.bastore, 1) := by decide +kernel
theorem dX10_init_359 : decode cX10_init 359 = .ok (.dup, 1) := by decide +kernel
theorem dX10_init_360 : decode cX10_init 360 = .ok (.bipush 30, 2) := by decide +kernel
theorem dX10_init_362 : decode cX10_init 362 = .ok (.bipush 107, 2) := by decide +kernel
theorem dX10_init_364 : decode cX10_init 364 = .ok (.bastore, 1) := by decide +kernel
theorem dX10_init_365 : decode cX10_init 365 = .ok (.dup, 1) := by decide +kernel
theorem dX10_init_366 : decode cX10_init 366 = .ok (.bipush 31, 2) := by decide +kernel
theorem dX10_init_368 : decode cX10_init 368 = .ok (.iconst 0, 1) := by decide +kernel
theorem dX10_init_369 : decode cX10_init 369 = .ok (.bastore, 1) := by decide +kernel
theorem dX10_init_370 : decode cX10_init 370 = .ok (.dup, 1) := by decide +kernel
theorem dX10_init_371 : decode cX10_init 371 = .ok (.bipush 32, 2) := by decide +kernel
theorem dX10_init_373 : decode cX10_init 373 = .ok (.bipush 115, 2) := by decide +kernel
theorem dX10_init_375 : decode cX10_init 375 = .ok (.bastore, 1) := by decide +kernel
theorem dX10_init_376 : decode cX10_init 376 = .ok (.dup, 1) := by decide +kernel
theorem dX10_init_377 : decode cX10_init 377 = .ok (.bipush 33, 2) := by decide +kernel
theorem dX10_init_379 : decode cX10_init 379 = .ok (.bipush 104, 2) := by decide +kernel
theorem dX10_init_381 : decode cX10_init 381 = .ok (.bastore, 1) := by decide +kernel
theorem dX10_init_382 : decode cX10_init 382 = .ok (.dup, 1) := by decide +kernel
theorem dX10_init_383 : decode cX10_init 383 = .ok (.bipush 34, 2) := by decide +kernel
theorem dX10_init_385 : decode cX10_init 385 = .ok (.bipush 105, 2) := by decide +kernel
theorem dX10_init_387 : decode cX10_init 387 = .ok (.bastore, 1) := by decide +kernel
theorem dX10_init_388 : decode cX10_init 388 = .ok (.dup, 1) := by decide +kernel
theorem dX10_init_389 : decode cX10_init 389 = .ok (.bipush 35, 2) := by decide +kernel
theorem dX10_init_391 : decode cX10_init 391 = .ok (.bipush 102, 2) := by decide +kernel
theorem dX10_init_393 : decode cX10_init 393 = .ok (.bastore, 1) := by decide +kernel
theorem dX10_init_394 : decode cX10_init 394 = .ok (.dup, 1) := by decide +kernel
theorem dX10_init_395 : decode cX10_init 395 = .ok (.bipush 36, 2) := by decide +kernel
theorem dX10_init_397 : decode cX10_init 397 = .ok (.bipush 116, 2) := by decide +kernel
theorem dX10_init_399 : decode cX10_init 399 = .ok (.bastore, 1) := by decide +kernel
theorem dX10_init_400 : decode cX10_init 400 = .ok (.dup, 1) := by decide +kernel
theorem dX10_init_401 : decode cX10_init 401 = .ok (.bipush 37, 2) := by decide +kernel
theorem dX10_init_403 : decode cX10_init 403 = .ok (.iconst 0, 1) := by decide +kernel
theorem dX10_init_404 : decode cX10_init 404 = .ok (.bastore, 1) := by decide +kernel
theorem dX10_init_405 : decode cX10_init 405 = .ok (.dup, 1) := by decide +kernel
theorem dX10_init_406 : decode cX10_init 406 = .ok (.bipush 38, 2) := by decide +kernel
theorem dX10_init_408 : decode cX10_init 408 = .ok (.bipush 115, 2) := by decide +kernel
theorem dX10_init_410 : decode cX10_init 410 = .ok (.bastore, 1) := by decide +kernel
theorem dX10_init_411 : decode cX10_init 411 = .ok (.dup, 1) := by decide +kernel
theorem dX10_init_412 : decode cX10_init 412 = .ok (.bipush 39, 2) := by decide +kernel
theorem dX10_init_414 : decode cX10_init 414 = .ok (.bipush 101, 2) := by decide +kernel
theorem dX10_init_416 : decode cX10_init 416 = .ok (.bastore, 1) := by decide +kernel
theorem dX10_init_417 : decode cX10_init 417 = .ok (.dup, 1) := by decide +kernel
theorem dX10_init_418 : decode cX10_init 418 = .ok (.bipush 40, 2) := by decide +kernel
theorem dX10_init_420 : decode cX10_init 420 = .ok (.bipush 101, 2) := by decide +kernel
theorem dX10_init_422 : decode cX10_init 422 = .ok (.bastore, 1) := by decide +kernel
theorem dX10_init_423 : decode cX10_init 423 = .ok (.dup, 1) := by decide +kernel
theorem dX10_init_424 : decode cX10_init 424 = .ok (.bipush 41, 2) := by decide +kernel
theorem dX10_init_426 : decode cX10_init 426 = .ok (.bipush 110, 2) := by decide +kernel
theorem dX10_init_428 : decode cX10_init 428 = .ok (.bastore, 1) := by decide +kernel
theorem dX10_init_429 : decode cX10_init 429 = .ok (.dup, 1) := by decide +kernel
theorem dX10_init_430 : decode cX10_init 430 = .ok (.bipush 42, 2) := by decide +kernel
theorem dX10_init_432 : decode cX10_init 432 = .ok (.iconst 0, 1) := by decide +kernel
theorem dX10_init_433 : decode cX10_init 433 = .ok (.bastore, 1) := by decide +kernel
theorem dX10_init_434 : decode cX10_init 434 = .ok (.dup, 1) := by decide +kernel
theorem dX10_init_435 : decode cX10_init 435 = .ok (.bipush 43, 2) := by decide +kernel
theorem dX10_init_437 : decode cX10_init 437 = .ok (.bipush 111, 2) := by decide +kernel
theorem dX10_init_439 : decode cX10_init 439 = .ok (.bastore, 1) := by decide +kernel
theorem dX10_init_440 : decode cX10_init 440 = .ok (.dup, 1) := by decide +kernel
theorem dX10_init_441 : decode cX10_init 441 = .ok (.bipush 44, 2) := by decide +kernel
theorem dX10_init_443 : decode cX10_init 443 = .ok (.bipush 102, 2) := by decide +kernel
theorem dX10_init_445 : decode cX10_init 445 = .ok (.bastore, 1) := by decide +kernel
theorem dX10_init_446 : decode cX10_init 446 = .ok (.dup, 1) := by decide +kernel
theorem dX10_init_447 : decode cX10_init 447 = .ok (.bipush 45, 2) := by decide +kernel
theorem dX10_init_449 : decode cX10_init 449 = .ok (.iconst 0, 1) := by decide +kernel
theorem dX10_init_450 : decode cX10_init 450 = .ok (.bastore, 1) := by decide +kernel
theorem dX10_init_451 : decode cX10_init 451 = .ok (.dup, 1) := by decide +kernel
theorem dX10_init_452 : decode cX10_init 452 = .ok (.bipush 46, 2) := by decide +kernel
theorem dX10_init_454 : decode cX10_init 454 = .ok (.bipush 115, 2) := by decide +kernel
theorem dX10_init_456 : decode cX10_init 456 = .ok (.bastore, 1) := by decide +kernel
theorem dX10_init_457 : decode cX10_init 457 = .ok (.dup, 1) := by decide +kernel
theorem dX10_init_458 : decode cX10_init 458 = .ok (.bipush 47, 2) := by decide +kernel
theorem dX10_init_460 : decode cX10_init 460 = .ok (.bipush 117, 2) := by decide +kernel
theorem dX10_init_462 : decode cX10_init 462 = .ok (.bastore, 1) := by decide +kernel
theorem dX10_init_463 : decode cX10_init 463 = .ok (.dup, 1) := by decide +kernel
theorem dX10_init_464 : decode cX10_init 464 = .ok (.bipush 48, 2) := by decide +kernel
theorem dX10_init_466 : decode cX10_init 466 = .ok (.bipush 109, 2) := by decide +kernel
theorem dX10_init_468 : decode cX10_init 468 = .ok (.bastore, 1) := by decide +kernel
theorem dX10_init_469 : decode cX10_init 469 = .ok (.dup, 1) := by decide +kernel
theorem dX10_init_470 : decode cX10_init 470 = .ok (.bipush 49, 2) := by decide +kernel
theorem dX10_init_472 : decode cX10_init 472 = .ok (.iconst 0, 1) := by decide +kernel
theorem dX10_init_473 : decode cX10_init 473 = .ok (.bastore, 1) := by decide +kernel
theorem dX10_init_474 : decode cX10_init 474 = .ok (.putfield 79, 3) := by decide +kernel
theorem dX10_init_477 : decode cX10_init 477 = .ok (.aload_n 0, 1) := by decide +kernel
theorem dX10_init_478 : decode cX10_init 478 = .ok (.iconst 0, 1) := by decide +kernel
theorem dX10_init_479 : decode cX10_init 479 = .ok (.putfield 1, 3) := by decide +kernel
theorem dX10_init_482 : decode cX10_init 482 = .ok (.return_, 1) := by decide +kernel
theorem dX10_in_0 : decode cX10_in 0 = .ok (.lload_n 0, 1) := by decide +kernel
theorem dX10_in_1 : decode cX10_in 1 = .ok (.lload_n 2, 1) := by decide +kernel
theorem dX10_in_2 : decode cX10_in 2 = .ok (.lcmp, 1) := by decide +kernel
theorem dX10_in_3 : decode cX10_in 3 = .ok (.ifCond .lt 14, 3) := by decide +kernel
theorem dX10_in_6 : decode cX10_in 6 = .ok (.lload_n 0, 1) := by decide +kernel
theorem dX10_in_7 : decode cX10_in 7 = .ok (.lload 4, 2) := by decide +kernel
theorem dX10_in_9 : decode cX10_in 9 = .ok (.lcmp, 1) := by decide +kernel
theorem dX10_in_10 : decode cX10_in 10 = .ok (.ifCond .gt 7, 3) := by decide +kernel
theorem dX10_in_13 : decode cX10_in 13 = .ok (.iconst 1, 1) := by decide +kernel
theorem dX10_in_14 : decode cX10_in 14 = .ok (.goto 4, 3) := by decide +kernel
theorem dX10_in_17 : decode cX10_in 17 = .ok (.iconst 0, 1) := by decide +kernel
theorem dX10_in_18 : decode cX10_in 18 = .ok (.ireturn, 1) := by decide +kernel
theorem dX10_keeps_0 : decode cX10_keeps 0 = .ok (.aload_n 0, 1) := by decide +kernel
theorem dX10_keeps_1 : decode cX10_keeps 1 = .ok (.getfield 83, 3) := by decide +kernel
theorem dX10_keeps_4 : decode cX10_keeps 4 = .ok (.bipush 12, 2) := by decide +kernel
theorem dX10_keeps_6 : decode cX10_keeps 6 = .ok (.if_icmp .ne 46, 3) := by decide +kernel
theorem dX10_keeps_9 : decode cX10_keeps 9 = .ok (.sipush 226, 3) := by decide +kernel
theorem dX10_keeps_12 : decode cX10_keeps 12 = .ok (.istore_n 1, 1) := by decide +kernel
theorem dX10_keeps_13 : decode cX10_keeps 13 = .ok (.iload_n 1, 1) := by decide +kernel
theorem dX10_keeps_14 : decode cX10_keeps 14 = .ok (.sipush 2712, 3) := by decide +kernel
theorem dX10_keeps_17 : decode cX10_keeps 17 = .ok (.if_icmp .ge 25, 3) := by decide +kernel
theorem dX10_keeps_20 : decode cX10_keeps 20 = .ok (.aload_n 0, 1) := by decide +kernel
theorem dX10_keeps_21 : decode cX10_keeps 21 = .ok (.getfield 20, 3) := by decide +kernel
theorem dX10_keeps_24 : decode cX10_keeps 24 = .ok (.iload_n 1, 1) := by decide +kernel
theorem dX10_keeps_25 : decode cX10_keeps 25 = .ok (.sipush 226, 3) := by decide +kernel
theorem dX10_keeps_28 : decode cX10_keeps 28 = .ok (.isub, 1) := by decide +kernel
theorem dX10_keeps_29 : decode cX10_keeps 29 = .ok (.aload_n 0, 1) := by decide +kernel
theorem dX10_keeps_30 : decode cX10_keeps 30 = .ok (.getfield 20, 3) := by decide +kernel
theorem dX10_keeps_33 : decode cX10_keeps 33 = .ok (.iload_n 1, 1) := by decide +kernel
theorem dX10_keeps_34 : decode cX10_keeps 34 = .ok (.iaload, 1) := by decide +kernel
theorem dX10_keeps_35 : decode cX10_keeps 35 = .ok (.iastore, 1) := by decide +kernel
theorem dX10_keeps_36 : decode cX10_keeps 36 = .ok (.iinc 1 1, 3) := by decide +kernel
theorem dX10_keeps_39 : decode cX10_keeps 39 = .ok (.goto (-26), 3) := by decide +kernel
theorem dX10_keeps_42 : decode cX10_keeps 42 = .ok (.aload_n 0, 1) := by decide +kernel
theorem dX10_keeps_43 : decode cX10_keeps 43 = .ok (.dup, 1) := by decide +kernel
theorem dX10_keeps_44 : decode cX10_keeps 44 = .ok (.getfield 83, 3) := by decide +kernel
theorem dX10_keeps_47 : decode cX10_keeps 47 = .ok (.iconst 1, 1) := by decide +kernel
theorem dX10_keeps_48 : decode cX10_keeps 48 = .ok (.isub, 1) := by decide +kernel
theorem dX10_keeps_49 : decode cX10_keeps 49 = .ok (.putfield 83, 3) := by decide +kernel
theorem dX10_keeps_52 : decode cX10_keeps 52 = .ok (.iconst 0, 1) := by decide +kernel
theorem dX10_keeps_53 : decode cX10_keeps 53 = .ok (.istore_n 1, 1) := by decide +kernel
theorem dX10_keeps_54 : decode cX10_keeps 54 = .ok (.iload_n 1, 1) := by decide +kernel
theorem dX10_keeps_55 : decode cX10_keeps 55 = .ok (.sipush 226, 3) := by decide +kernel
theorem dX10_keeps_58 : decode cX10_keeps 58 = .ok (.if_icmp .ge 30, 3) := by decide +kernel
theorem dX10_keeps_61 : decode cX10_keeps 61 = .ok (.aload_n 0, 1) := by decide +kernel
theorem dX10_keeps_62 : decode cX10_keeps 62 = .ok (.getfield 20, 3) := by decide +kernel
theorem dX10_keeps_65 : decode cX10_keeps 65 = .ok (.sipush 226, 3) := by decide +kernel
theorem dX10_keeps_68 : decode cX10_keeps 68 = .ok (.aload_n 0, 1) := by decide +kernel
theorem dX10_keeps_69 : decode cX10_keeps 69 = .ok (.getfield 83, 3) := by decide +kernel
theorem dX10_keeps_72 : decode cX10_keeps 72 = .ok (.imul, 1) := by decide +kernel
theorem dX10_keeps_73 : decode cX10_keeps 73 = .ok (.iload_n 1, 1) := by decide +kernel
theorem dX10_keeps_74 : decode cX10_keeps 74 = .ok (.iadd, 1) := by decide +kernel
theorem dX10_keeps_75 : decode cX10_keeps 75 = .ok (.aload_n 0, 1) := by decide +kernel
theorem dX10_keeps_76 : decode cX10_keeps 76 = .ok (.getfield 13, 3) := by decide +kernel
theorem dX10_keeps_79 : decode cX10_keeps 79 = .ok (.iload_n 1, 1) := by decide +kernel
theorem dX10_keeps_80 : decode cX10_keeps 80 = .ok (.iaload, 1) := by decide +kernel
theorem dX10_keeps_81 : decode cX10_keeps 81 = .ok (.iastore, 1) := by decide +kernel
theorem dX10_keeps_82 : decode cX10_keeps 82 = .ok (.iinc 1 1, 3) := by decide +kernel
theorem dX10_keeps_85 : decode cX10_keeps 85 = .ok (.goto (-31), 3) := by decide +kernel
theorem dX10_keeps_88 : decode cX10_keeps 88 = .ok (.aload_n 0, 1) := by decide +kernel
theorem dX10_keeps_89 : decode cX10_keeps 89 = .ok (.dup, 1) := by decide +kernel
theorem dX10_keeps_90 : decode cX10_keeps 90 = .ok (.getfield 83, 3) := by decide +kernel
theorem dX10_keeps_93 : decode cX10_keeps 93 = .ok (.iconst 1, 1) := by decide +kernel
theorem dX10_keeps_94 : decode cX10_keeps 94 = .ok (.iadd, 1) := by decide +kernel
theorem dX10_keeps_95 : decode cX10_keeps 95 = .ok (.putfield 83, 3) := by decide +kernel
theorem dX10_keeps_98 : decode cX10_keeps 98 = .ok (.return_, 1) := by decide +kernel
theorem dX10_undo_0 : decode cX10_undo 0 = .ok (.aload_n 0, 1) := by decide +kernel
theorem dX10_undo_1 : decode cX10_undo 1 = .ok (.getfield 83, 3) := by decide +kernel
theorem dX10_undo_4 : decode cX10_undo 4 = .ok (.ifCond .ne 5, 3) := by decide +kernel
theorem dX10_undo_7 : decode cX10_undo 7 = .ok (.iconst (-1), 1) := by decide +kernel
theorem dX10_undo_8 : decode cX10_undo 8 = .ok (.ireturn, 1) := by decide +kernel
theorem dX10_undo_9 : decode cX10_undo 9 = .ok (.aload_n 0, 1) := by decide +kernel
theorem dX10_undo_10 : decode cX10_undo 10 = .ok (.dup, 1) := by decide +kernel
theorem dX10_undo_11 : decode cX10_undo 11 = .ok (.getfield 83, 3) := by decide +kernel
theorem dX10_undo_14 : decode cX10_undo 14 = .ok (.iconst 1, 1) := by decide +kernel
theorem dX10_undo_15 : decode cX10_undo 15 = .ok (.isub, 1) := by decide +kernel
theorem dX10_undo_16 : decode cX10_undo 16 = .ok (.putfield 83, 3) := by decide +kernel
theorem dX10_undo_19 : decode cX10_undo 19 = .ok (.iconst 0, 1) := by decide +kernel
theorem dX10_undo_20 : decode cX10_undo 20 = .ok (.istore_n 1, 1) := by decide +kernel
theorem dX10_undo_21 : decode cX10_undo 21 = .ok (.iload_n 1, 1) := by decide +kernel
theorem dX10_undo_22 : decode cX10_undo 22 = .ok (.sipush 226, 3) := by decide +kernel
theorem dX10_undo_25 : decode cX10_undo 25 = .ok (.if_icmp .ge 30, 3) := by decide +kernel
theorem dX10_undo_28 : decode cX10_undo 28 = .ok (.aload_n 0, 1) := by decide +kernel
theorem dX10_undo_29 : decode cX10_undo 29 = .ok (.getfield 13, 3) := by decide +kernel
theorem dX10_undo_32 : decode cX10_undo 32 = .ok (.iload_n 1, 1) := by decide +kernel
theorem dX10_undo_33 : decode cX10_undo 33 = .ok (.aload_n 0, 1) := by decide +kernel
theorem dX10_undo_34 : decode cX10_undo 34 = .ok (.getfield 20, 3) := by decide +kernel
theorem dX10_undo_37 : decode cX10_undo 37 = .ok (.sipush 226, 3) := by decide +kernel
theorem dX10_undo_40 : decode cX10_undo 40 = .ok (.aload_n 0, 1) := by decide +kernel
theorem dX10_undo_41 : decode cX10_undo 41 = .ok (.getfield 83, 3) := by decide +kernel
theorem dX10_undo_44 : decode cX10_undo 44 = .ok (.imul, 1) := by decide +kernel
theorem dX10_undo_45 : decode cX10_undo 45 = .ok (.iload_n 1, 1) := by decide +kernel
theorem dX10_undo_46 : decode cX10_undo 46 = .ok (.iadd, 1) := by decide +kernel
theorem dX10_undo_47 : decode cX10_undo 47 = .ok (.iaload, 1) := by decide +kernel
theorem dX10_undo_48 : decode cX10_undo 48 = .ok (.iastore, 1) := by decide +kernel
theorem dX10_undo_49 : decode cX10_undo 49 = .ok (.iinc 1 1, 3) := by decide +kernel
theorem dX10_undo_52 : decode cX10_undo 52 = .ok (.goto (-31), 3) := by decide +kernel
theorem dX10_undo_55 : decode cX10_undo 55 = .ok (.aload_n 0, 1) := by decide +kernel
theorem dX10_undo_56 : decode cX10_undo 56 = .ok (.getfield 83, 3) := by decide +kernel
theorem dX10_undo_59 : decode cX10_undo 59 = .ok (.ireturn, 1) := by decide +kernel
theorem dX10_isRow_0 : decode cX10_isRow 0 = .ok (.iload_n 1, 1) := by decide +kernel
theorem dX10_isRow_1 : decode cX10_isRow 1 = .ok (.i2l, 1) := by decide +kernel
theorem dX10_isRow_2 : decode cX10_isRow 2 = .ok (.lconst 0, 1) := by decide +kernel
theorem dX10_isRow_3 : decode cX10_isRow 3 = .ok (.aload_n 0, 1) := by decide +kernel
theorem dX10_isRow_4 : decode cX10_isRow 4 = .ok (.getfield 13, 3) := by decide +kernel
theorem dX10_isRow_7 : decode cX10_isRow 7 = .ok (.iconst 1, 1) := by decide +kernel
theorem dX10_isRow_8 : decode cX10_isRow 8 = .ok (.iaload, 1) := by decide +kernel
theorem dX10_isRow_9 : decode cX10_isRow 9 = .ok (.iconst 1, 1) := by decide +kernel
theorem dX10_isRow_10 : decode cX10_isRow 10 = .ok (.isub, 1) := by decide +kernel
theorem dX10_isRow_11 : decode cX10_isRow 11 = .ok (.i2l, 1) := by decide +kernel
theorem dX10_isRow_12 : decode cX10_isRow 12 = .ok (.invokestatic 86, 3) := by decide +kernel
theorem dX10_isRow_15 : decode cX10_isRow 15 = .ok (.ireturn, 1) := by decide +kernel
theorem dX10_isColumn_0 : decode cX10_isColumn 0 = .ok (.iload_n 1, 1) := by decide +kernel
theorem dX10_isColumn_1 : decode cX10_isColumn 1 = .ok (.i2l, 1) := by decide +kernel
theorem dX10_isColumn_2 : decode cX10_isColumn 2 = .ok (.lconst 0, 1) := by decide +kernel
theorem dX10_isColumn_3 : decode cX10_isColumn 3 = .ok (.aload_n 0, 1) := by decide +kernel
theorem dX10_isColumn_4 : decode cX10_isColumn 4 = .ok (.getfield 13, 3) := by decide +kernel
theorem dX10_isColumn_7 : decode cX10_isColumn 7 = .ok (.iconst 0, 1) := by decide +kernel
theorem dX10_isColumn_8 : decode cX10_isColumn 8 = .ok (.iaload, 1) := by decide +kernel
theorem dX10_isColumn_9 : decode cX10_isColumn 9 = .ok (.iconst 1, 1) := by decide +kernel
theorem dX10_isColumn_10 : decode cX10_isColumn 10 = .ok (.isub, 1) := by decide +kernel
theorem dX10_isColumn_11 : decode cX10_isColumn 11 = .ok (.i2l, 1) := by decide +kernel
theorem dX10_isColumn_12 : decode cX10_isColumn 12 = .ok (.invokestatic 86, 3) := by decide +kernel
theorem dX10_isColumn_15 : decode cX10_isColumn 15 = .ok (.ireturn, 1) := by decide +kernel
theorem dX10_isCell_0 : decode cX10_isCell 0 = .ok (.aload_n 0, 1) := by decide +kernel
theorem dX10_isCell_1 : decode cX10_isCell 1 = .ok (.iload_n 1, 1) := by decide +kernel
theorem dX10_isCell_2 : decode cX10_isCell 2 = .ok (.invokevirtual 90, 3) := by decide +kernel
theorem dX10_isCell_5 : decode cX10_isCell 5 = .ok (.ifCond .eq 15, 3) := by decide +kernel
theorem dX10_isCell_8 : decode cX10_isCell 8 = .ok (.aload_n 0, 1) := by decide +kernel
theorem dX10_isCell_9 : decode cX10_isCell 9 = .ok (.iload_n 2, 1) := by decide +kernel
theorem dX10_isCell_10 : decode cX10_isCell 10 = .ok (.invokevirtual 94, 3) := by decide +kernel
theorem dX10_isCell_13 : decode cX10_isCell 13 = .ok (.ifCond .eq 7, 3) := by decide +kernel
theorem dX10_isCell_16 : decode cX10_isCell 16 = .ok (.iconst 1, 1) := by decide +kernel
theorem dX10_isCell_17 : decode cX10_isCell 17 = .ok (.goto 4, 3) := by decide +kernel
theorem dX10_isCell_20 : decode cX10_isCell 20 = .ok (.iconst 0, 1) := by decide +kernel
theorem dX10_isCell_21 : decode cX10_isCell 21 = .ok (.ireturn, 1) := by decide +kernel
theorem dX10_cell_0 : decode cX10_cell 0 = .ok (.bipush 6, 2) := by decide +kernel
theorem dX10_cell_2 : decode cX10_cell 2 = .ok (.iload_n 0, 1) := by decide +kernel
theorem dX10_cell_3 : decode cX10_cell 3 = .ok (.imul, 1) := by decide +kernel
theorem dX10_cell_4 : decode cX10_cell 4 = .ok (.iload_n 1, 1) := by decide +kernel
theorem dX10_cell_5 : decode cX10_cell 5 = .ok (.iadd, 1) := by decide +kernel
theorem dX10_cell_6 : decode cX10_cell 6 = .ok (.ireturn, 1) := by decide +kernel
theorem dX10_ratio_0 : decode cX10_ratio 0 = .ok (.aload_n 0, 1) := by decide +kernel
theorem dX10_ratio_1 : decode cX10_ratio 1 = .ok (.getfield 13, 3) := by decide +kernel
theorem dX10_ratio_4 : decode cX10_ratio 4 = .ok (.iconst 2, 1) := by decide +kernel
theorem dX10_ratio_5 : decode cX10_ratio 5 = .ok (.iload_n 1, 1) := by decide +kernel
theorem dX10_ratio_6 : decode cX10_ratio 6 = .ok (.iadd, 1) := by decide +kernel
theorem dX10_ratio_7 : decode cX10_ratio 7 = .ok (.iaload, 1) := by decide +kernel
theorem dX10_ratio_8 : decode cX10_ratio 8 = .ok (.ireturn, 1) := by decide +kernel
theorem dX10_worthOf_0 : decode cX10_worthOf 0 = .ok (.iconst 1, 1) := by decide +kernel
theorem dX10_worthOf_1 : decode cX10_worthOf 1 = .ok (.istore_n 2, 1) := by decide +kernel
theorem dX10_worthOf_2 : decode cX10_worthOf 2 = .ok (.iconst 1, 1) := by decide +kernel
theorem dX10_worthOf_3 : decode cX10_worthOf 3 = .ok (.istore_n 3, 1) := by decide +kernel
theorem dX10_worthOf_4 : decode cX10_worthOf 4 = .ok (.iload_n 3, 1) := by decide +kernel
theorem dX10_worthOf_5 : decode cX10_worthOf 5 = .ok (.iload_n 1, 1) := by decide +kernel
theorem dX10_worthOf_6 : decode cX10_worthOf 6 = .ok (.if_icmp .gt 17, 3) := by decide +kernel
theorem dX10_worthOf_9 : decode cX10_worthOf 9 = .ok (.iload_n 2, 1) := by decide +kernel
theorem dX10_worthOf_10 : decode cX10_worthOf 10 = .ok (.aload_n 0, 1) := by decide +kernel
theorem dX10_worthOf_11 : decode cX10_worthOf 11 = .ok (.iload_n 3, 1) := by decide +kernel
theorem dX10_worthOf_12 : decode cX10_worthOf 12 = .ok (.invokevirtual 97, 3) := by decide +kernel
theorem dX10_worthOf_15 : decode cX10_worthOf 15 = .ok (.imul, 1) := by decide +kernel
theorem dX10_worthOf_16 : decode cX10_worthOf 16 = .ok (.istore_n 2, 1) := by decide +kernel
theorem dX10_worthOf_17 : decode cX10_worthOf 17 = .ok (.iinc 3 1, 3) := by decide +kernel
theorem dX10_worthOf_20 : decode cX10_worthOf 20 = .ok (.goto (-16), 3) := by decide +kernel
theorem dX10_worthOf_23 : decode cX10_worthOf 23 = .ok (.iload_n 2, 1) := by decide +kernel
theorem dX10_worthOf_24 : decode cX10_worthOf 24 = .ok (.ireturn, 1) := by decide +kernel
theorem dX10_now_0 : decode cX10_now 0 = .ok (.aload_n 0, 1) := by decide +kernel
theorem dX10_now_1 : decode cX10_now 1 = .ok (.getfield 13, 3) := by decide +kernel
theorem dX10_now_4 : decode cX10_now 4 = .ok (.bipush 8, 2) := by decide +kernel
theorem dX10_now_6 : decode cX10_now 6 = .ok (.iload_n 1, 1) := by decide +kernel
theorem dX10_now_7 : decode cX10_now 7 = .ok (.iload_n 2, 1) := by decide +kernel
theorem dX10_now_8 : decode cX10_now 8 = .ok (.invokestatic 101, 3) := by decide +kernel
theorem dX10_now_11 : decode cX10_now 11 = .ok (.iadd, 1) := by decide +kernel
theorem dX10_now_12 : decode cX10_now 12 = .ok (.iaload, 1) := by decide +kernel
theorem dX10_now_13 : decode cX10_now 13 = .ok (.ireturn, 1) := by decide +kernel
theorem dX10_sets_0 : decode cX10_sets 0 = .ok (.aload_n 0, 1) := by decide +kernel
theorem dX10_sets_1 : decode cX10_sets 1 = .ok (.getfield 13, 3) := by decide +kernel
theorem dX10_sets_4 : decode cX10_sets 4 = .ok (.bipush 8, 2) := by decide +kernel
theorem dX10_sets_6 : decode cX10_sets 6 = .ok (.iload_n 1, 1) := by decide +kernel
theorem dX10_sets_7 : decode cX10_sets 7 = .ok (.iload_n 2, 1) := by decide +kernel
theorem dX10_sets_8 : decode cX10_sets 8 = .ok (.invokestatic 101, 3) := by decide +kernel
theorem dX10_sets_11 : decode cX10_sets 11 = .ok (.iadd, 1) := by decide +kernel
theorem dX10_sets_12 : decode cX10_sets 12 = .ok (.iload_n 3, 1) := by decide +kernel
theorem dX10_sets_13 : decode cX10_sets 13 = .ok (.iastore, 1) := by decide +kernel
theorem dX10_sets_14 : decode cX10_sets 14 = .ok (.return_, 1) := by decide +kernel
theorem dX10_sumOf_0 : decode cX10_sumOf 0 = .ok (.iconst 0, 1) := by decide +kernel
theorem dX10_sumOf_1 : decode cX10_sumOf 1 = .ok (.istore_n 2, 1) := by decide +kernel
theorem dX10_sumOf_2 : decode cX10_sumOf 2 = .ok (.iconst 0, 1) := by decide +kernel
theorem dX10_sumOf_3 : decode cX10_sumOf 3 = .ok (.istore_n 3, 1) := by decide +kernel
theorem dX10_sumOf_4 : decode cX10_sumOf 4 = .ok (.iload_n 3, 1) := by decide +kernel
theorem dX10_sumOf_5 : decode cX10_sumOf 5 = .ok (.aload_n 0, 1) := by decide +kernel
theorem dX10_sumOf_6 : decode cX10_sumOf 6 = .ok (.getfield 13, 3) := by decide +kernel
theorem dX10_sumOf_9 : decode cX10_sumOf 9 = .ok (.iconst 0, 1) := by decide +kernel
theorem dX10_sumOf_10 : decode cX10_sumOf 10 = .ok (.iaload, 1) := by decide +kernel
theorem dX10_sumOf_11 : decode cX10_sumOf 11 = .ok (.if_icmp .ge 24, 3) := by decide +kernel
theorem dX10_sumOf_14 : decode cX10_sumOf 14 = .ok (.iload_n 2, 1) := by decide +kernel
theorem dX10_sumOf_15 : decode cX10_sumOf 15 = .ok (.aload_n 0, 1) := by decide +kernel
theorem dX10_sumOf_16 : decode cX10_sumOf 16 = .ok (.iload_n 1, 1) := by decide +kernel
theorem dX10_sumOf_17 : decode cX10_sumOf 17 = .ok (.iload_n 3, 1) := by decide +kernel
theorem dX10_sumOf_18 : decode cX10_sumOf 18 = .ok (.invokevirtual 105, 3) := by decide +kernel
theorem dX10_sumOf_21 : decode cX10_sumOf 21 = .ok (.aload_n 0, 1) := by decide +kernel
theorem dX10_sumOf_22 : decode cX10_sumOf 22 = .ok (.iload_n 3, 1) := by decide +kernel
theorem dX10_sumOf_23 : decode cX10_sumOf 23 = .ok (.invokevirtual 108, 3) := by decide +kernel
theorem dX10_sumOf_26 : decode cX10_sumOf 26 = .ok (.imul, 1) := by decide +kernel
theorem dX10_sumOf_27 : decode cX10_sumOf 27 = .ok (.iadd, 1) := by decide +kernel
theorem dX10_sumOf_28 : decode cX10_sumOf 28 = .ok (.istore_n 2, 1) := by decide +kernel
theorem dX10_sumOf_29 : decode cX10_sumOf 29 = .ok (.iinc 3 1, 3) := by decide +kernel
theorem dX10_sumOf_32 : decode cX10_sumOf 32 = .ok (.goto (-28), 3) := by decide +kernel
theorem dX10_sumOf_35 : decode cX10_sumOf 35 = .ok (.iload_n 2, 1) := by decide +kernel
theorem dX10_sumOf_36 : decode cX10_sumOf 36 = .ok (.ireturn, 1) := by decide +kernel
theorem dX10_countersOf_0 : decode cX10_countersOf 0 = .ok (.iconst 0, 1) := by decide +kernel
theorem dX10_countersOf_1 : decode cX10_countersOf 1 = .ok (.istore_n 2, 1) := by decide +kernel
theorem dX10_countersOf_2 : decode cX10_countersOf 2 = .ok (.iconst 0, 1) := by decide +kernel
theorem dX10_countersOf_3 : decode cX10_countersOf 3 = .ok (.istore_n 3, 1) := by decide +kernel
theorem dX10_countersOf_4 : decode cX10_countersOf 4 = .ok (.iload_n 3, 1) := by decide +kernel
theorem dX10_countersOf_5 : decode cX10_countersOf 5 = .ok (.aload_n 0, 1) := by decide +kernel
theorem dX10_countersOf_6 : decode cX10_countersOf 6 = .ok (.getfield 13, 3) := by decide +kernel
theorem dX10_countersOf_9 : decode cX10_countersOf 9 = .ok (.iconst 0, 1) := by decide +kernel
theorem dX10_countersOf_10 : decode cX10_countersOf 10 = .ok (.iaload, 1) := by decide +kernel
theorem dX10_countersOf_11 : decode cX10_countersOf 11 = .ok (.if_icmp .ge 18, 3) := by decide +kernel
theorem dX10_countersOf_14 : decode cX10_countersOf 14 = .ok (.iload_n 2, 1) := by decide +kernel
theorem dX10_countersOf_15 : decode cX10_countersOf 15 = .ok (.aload_n 0, 1) := by decide +kernel
theorem dX10_countersOf_16 : decode cX10_countersOf 16 = .ok (.iload_n 1, 1) := by decide +kernel
theorem dX10_countersOf_17 : decode cX10_countersOf 17 = .ok (.iload_n 3, 1) := by decide +kernel
theorem dX10_countersOf_18 : decode cX10_countersOf 18 = .ok (.invokevirtual 105, 3) := by decide +kernel
theorem dX10_countersOf_21 : decode cX10_countersOf 21 = .ok (.iadd, 1) := by decide +kernel
theorem dX10_countersOf_22 : decode cX10_countersOf 22 = .ok (.istore_n 2, 1) := by decide +kernel
theorem dX10_countersOf_23 : decode cX10_countersOf 23 = .ok (.iinc 3 1, 3) := by decide +kernel
theorem dX10_countersOf_26 : decode cX10_countersOf 26 = .ok (.goto (-22), 3) := by decide +kernel
theorem dX10_countersOf_29 : decode cX10_countersOf 29 = .ok (.iload_n 2, 1) := by decide +kernel
theorem dX10_countersOf_30 : decode cX10_countersOf 30 = .ok (.ireturn, 1) := by decide +kernel
theorem dX10_anew_0 : decode cX10_anew 0 = .ok (.iconst 0, 1) := by decide +kernel
theorem dX10_anew_1 : decode cX10_anew 1 = .ok (.istore_n 1, 1) := by decide +kernel
theorem dX10_anew_2 : decode cX10_anew 2 = .ok (.iload_n 1, 1) := by decide +kernel
theorem dX10_anew_3 : decode cX10_anew 3 = .ok (.bipush 24, 2) := by decide +kernel
theorem dX10_anew_5 : decode cX10_anew 5 = .ok (.if_icmp .ge 27, 3) := by decide +kernel
theorem dX10_anew_8 : decode cX10_anew 8 = .ok (.aload_n 0, 1) := by decide +kernel
theorem dX10_anew_9 : decode cX10_anew 9 = .ok (.getfield 13, 3) := by decide +kernel
theorem dX10_anew_12 : decode cX10_anew 12 = .ok (.bipush 32, 2) := by decide +kernel
theorem dX10_anew_14 : decode cX10_anew 14 = .ok (.iload_n 1, 1) := by decide +kernel
theorem dX10_anew_15 : decode cX10_anew 15 = .ok (.iadd, 1) := by decide +kernel
theorem dX10_anew_16 : decode cX10_anew 16 = .ok (.aload_n 0, 1) := by decide +kernel
theorem dX10_anew_17 : decode cX10_anew 17 = .ok (.getfield 13, 3) := by decide +kernel
theorem dX10_anew_20 : decode cX10_anew 20 = .ok (.bipush 8, 2) := by decide +kernel
theorem dX10_anew_22 : decode cX10_anew 22 = .ok (.iload_n 1, 1) := by decide +kernel
theorem dX10_anew_23 : decode cX10_anew 23 = .ok (.iadd, 1) := by decide +kernel
theorem dX10_anew_24 : decode cX10_anew 24 = .ok (.iaload, 1) := by decide +kernel
theorem dX10_anew_25 : decode cX10_anew 25 = .ok (.iastore, 1) := by decide +kernel
theorem dX10_anew_26 : decode cX10_anew 26 = .ok (.iinc 1 1, 3) := by decide +kernel
theorem dX10_anew_29 : decode cX10_anew 29 = .ok (.goto (-27), 3) := by decide +kernel
theorem dX10_anew_32 : decode cX10_anew 32 = .ok (.bipush 56, 2) := by decide +kernel
theorem dX10_anew_34 : decode cX10_anew 34 = .ok (.istore_n 1, 1) := by decide +kernel
theorem dX10_anew_35 : decode cX10_anew 35 = .ok (.iload_n 1, 1) := by decide +kernel
theorem dX10_anew_36 : decode cX10_anew 36 = .ok (.sipush 226, 3) := by decide +kernel
theorem dX10_anew_39 : decode cX10_anew 39 = .ok (.if_icmp .ge 16, 3) := by decide +kernel
theorem dX10_anew_42 : decode cX10_anew 42 = .ok (.aload_n 0, 1) := by decide +kernel
theorem dX10_anew_43 : decode cX10_anew 43 = .ok (.getfield 13, 3) := by decide +kernel
theorem dX10_anew_46 : decode cX10_anew 46 = .ok (.iload_n 1, 1) := by decide +kernel
theorem dX10_anew_47 : decode cX10_anew 47 = .ok (.iconst 0, 1) := by decide +kernel
theorem dX10_anew_48 : decode cX10_anew 48 = .ok (.iastore, 1) := by decide +kernel
theorem dX10_anew_49 : decode cX10_anew 49 = .ok (.iinc 1 1, 3) := by decide +kernel
theorem dX10_anew_52 : decode cX10_anew 52 = .ok (.goto (-17), 3) := by decide +kernel
theorem dX10_anew_55 : decode cX10_anew 55 = .ok (.return_, 1) := by decide +kernel
theorem dX10_column_0 : decode cX10_column 0 = .ok (.aload_n 0, 1) := by decide +kernel
theorem dX10_column_1 : decode cX10_column 1 = .ok (.getfield 13, 3) := by decide +kernel
theorem dX10_column_4 : decode cX10_column 4 = .ok (.iconst 0, 1) := by decide +kernel
theorem dX10_column_5 : decode cX10_column 5 = .ok (.iaload, 1) := by decide +kernel
theorem dX10_column_6 : decode cX10_column 6 = .ok (.bipush 6, 2) := by decide +kernel
theorem dX10_column_8 : decode cX10_column 8 = .ok (.if_icmp .eq 34, 3) := by decide +kernel
theorem dX10_column_11 : decode cX10_column 11 = .ok (.aload_n 0, 1) := by decide +kernel
theorem dX10_column_12 : decode cX10_column 12 = .ok (.getfield 13, 3) := by decide +kernel
theorem dX10_column_15 : decode cX10_column 15 = .ok (.iconst 0, 1) := by decide +kernel
theorem dX10_column_16 : decode cX10_column 16 = .ok (.iaload, 1) := by decide +kernel
theorem dX10_column_17 : decode cX10_column 17 = .ok (.ifCond .ne 11, 3) := by decide +kernel
theorem dX10_column_20 : decode cX10_column 20 = .ok (.iload_n 1, 1) := by decide +kernel
theorem dX10_column_21 : decode cX10_column 21 = .ok (.iconst 1, 1) := by decide +kernel
theorem dX10_column_22 : decode cX10_column 22 = .ok (.if_icmp .ne 20, 3) := by decide +kernel
theorem dX10_column_25 : decode cX10_column 25 = .ok (.goto 19, 3) := by decide +kernel
theorem dX10_column_28 : decode cX10_column 28 = .ok (.iload_n 1, 1) := by decide +kernel
theorem dX10_column_29 : decode cX10_column 29 = .ok (.i2l, 1) := by decide +kernel
theorem dX10_column_30 : decode cX10_column 30 = .ok (.ldc2_w 111, 3) := by decide +kernel
theorem dX10_column_33 : decode cX10_column 33 = .ok (.ldc2_w 113, 3) := by decide +kernel
theorem dX10_column_36 : decode cX10_column 36 = .ok (.invokestatic 86, 3) := by decide +kernel
theorem dX10_column_39 : decode cX10_column 39 = .ok (.ifCond .ne 5, 3) := by decide +kernel
theorem dX10_column_42 : decode cX10_column 42 = .ok (.iconst (-1), 1) := by decide +kernel
theorem dX10_column_43 : decode cX10_column 43 = .ok (.ireturn, 1) := by decide +kernel
theorem dX10_column_44 : decode cX10_column 44 = .ok (.aload_n 0, 1) := by decide +kernel
theorem dX10_column_45 : decode cX10_column 45 = .ok (.invokevirtual 115, 3) := by decide +kernel
theorem dX10_column_48 : decode cX10_column 48 = .ok (.aload_n 0, 1) := by decide +kernel
theorem dX10_column_49 : decode cX10_column 49 = .ok (.getfield 13, 3) := by decide +kernel
theorem dX10_column_52 : decode cX10_column 52 = .ok (.iconst 2, 1) := by decide +kernel
theorem dX10_column_53 : decode cX10_column 53 = .ok (.aload_n 0, 1) := by decide +kernel
theorem dX10_column_54 : decode cX10_column 54 = .ok (.getfield 13, 3) := by decide +kernel
theorem dX10_column_57 : decode cX10_column 57 = .ok (.iconst 0, 1) := by decide +kernel
theorem dX10_column_58 : decode cX10_column 58 = .ok (.iaload, 1) := by decide +kernel
theorem dX10_column_59 : decode cX10_column 59 = .ok (.iadd, 1) := by decide +kernel
theorem dX10_column_60 : decode cX10_column 60 = .ok (.iload_n 1, 1) := by decide +kernel
theorem dX10_column_61 : decode cX10_column 61 = .ok (.iastore, 1) := by decide +kernel
theorem dX10_column_62 : decode cX10_column 62 = .ok (.aload_n 0, 1) := by decide +kernel
theorem dX10_column_63 : decode cX10_column 63 = .ok (.getfield 13, 3) := by decide +kernel
theorem dX10_column_66 : decode cX10_column 66 = .ok (.iconst 0, 1) := by decide +kernel
theorem dX10_column_67 : decode cX10_column 67 = .ok (.dup2, 1) := by decide +kernel
theorem dX10_column_68 : decode cX10_column 68 = .ok (.iaload, 1) := by decide +kernel
theorem dX10_column_69 : decode cX10_column 69 = .ok (.iconst 1, 1) := by decide +kernel
theorem dX10_column_70 : decode cX10_column 70 = .ok (.iadd, 1) := by decide +kernel
theorem dX10_column_71 : decode cX10_column 71 = .ok (.iastore, 1) := by decide +kernel
theorem dX10_column_72 : decode cX10_column 72 = .ok (.aload_n 0, 1) := by decide +kernel
theorem dX10_column_73 : decode cX10_column 73 = .ok (.invokevirtual 118, 3) := by decide +kernel
theorem dX10_column_76 : decode cX10_column 76 = .ok (.aload_n 0, 1) := by decide +kernel
theorem dX10_column_77 : decode cX10_column 77 = .ok (.getfield 13, 3) := by decide +kernel
theorem dX10_column_80 : decode cX10_column 80 = .ok (.iconst 0, 1) := by decide +kernel
theorem dX10_column_81 : decode cX10_column 81 = .ok (.iaload, 1) := by decide +kernel
theorem dX10_column_82 : decode cX10_column 82 = .ok (.iconst 1, 1) := by decide +kernel
theorem dX10_column_83 : decode cX10_column 83 = .ok (.isub, 1) := by decide +kernel
theorem dX10_column_84 : decode cX10_column 84 = .ok (.ireturn, 1) := by decide +kernel
theorem dX10_row_0 : decode cX10_row 0 = .ok (.aload_n 0, 1) := by decide +kernel
theorem dX10_row_1 : decode cX10_row 1 = .ok (.getfield 13, 3) := by decide +kernel
theorem dX10_row_4 : decode cX10_row 4 = .ok (.iconst 1, 1) := by decide +kernel
theorem dX10_row_5 : decode cX10_row 5 = .ok (.iaload, 1) := by decide +kernel
theorem dX10_row_6 : decode cX10_row 6 = .ok (.iconst 4, 1) := by decide +kernel
theorem dX10_row_7 : decode cX10_row 7 = .ok (.if_icmp .eq 12, 3) := by decide +kernel
theorem dX10_row_10 : decode cX10_row 10 = .ok (.aload_n 0, 1) := by decide +kernel
theorem dX10_row_11 : decode cX10_row 11 = .ok (.getfield 13, 3) := by decide +kernel
theorem dX10_row_14 : decode cX10_row 14 = .ok (.iconst 0, 1) := by decide +kernel
theorem dX10_row_15 : decode cX10_row 15 = .ok (.iaload, 1) := by decide +kernel
theorem dX10_row_16 : decode cX10_row 16 = .ok (.ifCond .ne 5, 3) := by decide +kernel
theorem dX10_row_19 : decode cX10_row 19 = .ok (.iconst (-1), 1) := by decide +kernel
theorem dX10_row_20 : decode cX10_row 20 = .ok (.ireturn, 1) := by decide +kernel
theorem dX10_row_21 : decode cX10_row 21 = .ok (.aload_n 0, 1) := by decide +kernel
theorem dX10_row_22 : decode cX10_row 22 = .ok (.invokevirtual 115, 3) := by decide +kernel
theorem dX10_row_25 : decode cX10_row 25 = .ok (.aload_n 0, 1) := by decide +kernel
theorem dX10_row_26 : decode cX10_row 26 = .ok (.getfield 13, 3) := by decide +kernel
theorem dX10_row_29 : decode cX10_row 29 = .ok (.iconst 1, 1) := by decide +kernel
theorem dX10_row_30 : decode cX10_row 30 = .ok (.dup2, 1) := by decide +kernel
theorem dX10_row_31 : decode cX10_row 31 = .ok (.iaload, 1) := by decide +kernel
theorem dX10_row_32 : decode cX10_row 32 = .ok (.iconst 1, 1) := by decide +kernel
theorem dX10_row_33 : decode cX10_row 33 = .ok (.iadd, 1) := by decide +kernel
theorem dX10_row_34 : decode cX10_row 34 = .ok (.iastore, 1) := by decide +kernel
theorem dX10_row_35 : decode cX10_row 35 = .ok (.aload_n 0, 1) := by decide +kernel
theorem dX10_row_36 : decode cX10_row 36 = .ok (.invokevirtual 118, 3) := by decide +kernel
theorem dX10_row_39 : decode cX10_row 39 = .ok (.aload_n 0, 1) := by decide +kernel
theorem dX10_row_40 : decode cX10_row 40 = .ok (.getfield 13, 3) := by decide +kernel
theorem dX10_row_43 : decode cX10_row 43 = .ok (.iconst 1, 1) := by decide +kernel
theorem dX10_row_44 : decode cX10_row 44 = .ok (.iaload, 1) := by decide +kernel
theorem dX10_row_45 : decode cX10_row 45 = .ok (.iconst 1, 1) := by decide +kernel
theorem dX10_row_46 : decode cX10_row 46 = .ok (.isub, 1) := by decide +kernel
theorem dX10_row_47 : decode cX10_row 47 = .ok (.ireturn, 1) := by decide +kernel
theorem dX10_drop_0 : decode cX10_drop 0 = .ok (.aload_n 0, 1) := by decide +kernel
theorem dX10_drop_1 : decode cX10_drop 1 = .ok (.iload_n 1, 1) := by decide +kernel
theorem dX10_drop_2 : decode cX10_drop 2 = .ok (.invokevirtual 90, 3) := by decide +kernel
theorem dX10_drop_5 : decode cX10_drop 5 = .ok (.ifCond .ne 5, 3) := by decide +kernel
theorem dX10_drop_8 : decode cX10_drop 8 = .ok (.iconst (-1), 1) := by decide +kernel
theorem dX10_drop_9 : decode cX10_drop 9 = .ok (.ireturn, 1) := by decide +kernel
theorem dX10_drop_10 : decode cX10_drop 10 = .ok (.aload_n 0, 1) := by decide +kernel
theorem dX10_drop_11 : decode cX10_drop 11 = .ok (.invokevirtual 115, 3) := by decide +kernel
theorem dX10_drop_14 : decode cX10_drop 14 = .ok (.aload_n 0, 1) := by decide +kernel
theorem dX10_drop_15 : decode cX10_drop 15 = .ok (.iload_n 1, 1) := by decide +kernel
theorem dX10_drop_16 : decode cX10_drop 16 = .ok (.invokevirtual 121, 3) := by decide +kernel
theorem dX10_drop_19 : decode cX10_drop 19 = .ok (.istore_n 2, 1) := by decide +kernel
theorem dX10_drop_20 : decode cX10_drop 20 = .ok (.bipush 6, 2) := by decide +kernel
theorem dX10_drop_22 : decode cX10_drop 22 = .ok (.iload_n 1, 1) := by decide +kernel
theorem dX10_drop_23 : decode cX10_drop 23 = .ok (.imul, 1) := by decide +kernel
theorem dX10_drop_24 : decode cX10_drop 24 = .ok (.istore_n 3, 1) := by decide +kernel
theorem dX10_drop_25 : decode cX10_drop 25 = .ok (.iload_n 3, 1) := by decide +kernel
theorem dX10_drop_26 : decode cX10_drop 26 = .ok (.bipush 24, 2) := by decide +kernel
theorem dX10_drop_28 : decode cX10_drop 28 = .ok (.if_icmp .ge 43, 3) := by decide +kernel
theorem dX10_drop_31 : decode cX10_drop 31 = .ok (.aload_n 0, 1) := by decide +kernel
theorem dX10_drop_32 : decode cX10_drop 32 = .ok (.getfield 13, 3) := by decide +kernel
theorem dX10_drop_35 : decode cX10_drop 35 = .ok (.bipush 8, 2) := by decide +kernel
theorem dX10_drop_37 : decode cX10_drop 37 = .ok (.iload_n 3, 1) := by decide +kernel
theorem dX10_drop_38 : decode cX10_drop 38 = .ok (.iadd, 1) := by decide +kernel
theorem dX10_drop_39 : decode cX10_drop 39 = .ok (.iload_n 3, 1) := by decide +kernel
theorem dX10_drop_40 : decode cX10_drop 40 = .ok (.bipush 6, 2) := by decide +kernel
theorem dX10_drop_42 : decode cX10_drop 42 = .ok (.iadd, 1) := by decide +kernel
theorem dX10_drop_43 : decode cX10_drop 43 = .ok (.bipush 24, 2) := by decide +kernel
theorem dX10_drop_45 : decode cX10_drop 45 = .ok (.if_icmp .ge 18, 3) := by decide +kernel
theorem dX10_drop_48 : decode cX10_drop 48 = .ok (.aload_n 0, 1) := by decide +kernel
theorem dX10_drop_49 : decode cX10_drop 49 = .ok (.getfield 13, 3) := by decide +kernel
theorem dX10_drop_52 : decode cX10_drop 52 = .ok (.bipush 8, 2) := by decide +kernel
theorem dX10_drop_54 : decode cX10_drop 54 = .ok (.iload_n 3, 1) := by decide +kernel
theorem dX10_drop_55 : decode cX10_drop 55 = .ok (.iadd, 1) := by decide +kernel
theorem dX10_drop_56 : decode cX10_drop 56 = .ok (.bipush 6, 2) := by decide +kernel
theorem dX10_drop_58 : decode cX10_drop 58 = .ok (.iadd, 1) := by decide +kernel
theorem dX10_drop_59 : decode cX10_drop 59 = .ok (.iaload, 1) := by decide +kernel
theorem dX10_drop_60 : decode cX10_drop 60 = .ok (.goto 4, 3) := by decide +kernel
theorem dX10_drop_63 : decode cX10_drop 63 = .ok (.iconst 0, 1) := by decide +kernel
theorem dX10_drop_64 : decode cX10_drop 64 = .ok (.iastore, 1) := by decide +kernel
theorem dX10_drop_65 : decode cX10_drop 65 = .ok (.iinc 3 1, 3) := by decide +kernel
theorem dX10_drop_68 : decode cX10_drop 68 = .ok (.goto (-43), 3) := by decide +kernel
theorem dX10_drop_71 : decode cX10_drop 71 = .ok (.aload_n 0, 1) := by decide +kernel
theorem dX10_drop_72 : decode cX10_drop 72 = .ok (.getfield 13, 3) := by decide +kernel
theorem dX10_drop_75 : decode cX10_drop 75 = .ok (.iconst 1, 1) := by decide +kernel
theorem dX10_drop_76 : decode cX10_drop 76 = .ok (.dup2, 1) := by decide +kernel
theorem dX10_drop_77 : decode cX10_drop 77 = .ok (.iaload, 1) := by decide +kernel
theorem dX10_drop_78 : decode cX10_drop 78 = .ok (.iconst 1, 1) := by decide +kernel
theorem dX10_drop_79 : decode cX10_drop 79 = .ok (.isub, 1) := by decide +kernel
theorem dX10_drop_80 : decode cX10_drop 80 = .ok (.iastore, 1) := by decide +kernel
theorem dX10_drop_81 : decode cX10_drop 81 = .ok (.aload_n 0, 1) := by decide +kernel
theorem dX10_drop_82 : decode cX10_drop 82 = .ok (.invokevirtual 118, 3) := by decide +kernel
theorem dX10_drop_85 : decode cX10_drop 85 = .ok (.iload_n 2, 1) := by decide +kernel
theorem dX10_drop_86 : decode cX10_drop 86 = .ok (.ireturn, 1) := by decide +kernel
theorem dX10_lays_0 : decode cX10_lays 0 = .ok (.aload_n 0, 1) := by decide +kernel
theorem dX10_lays_1 : decode cX10_lays 1 = .ok (.iconst (-1), 1) := by decide +kernel
theorem dX10_lays_2 : decode cX10_lays 2 = .ok (.putfield 124, 3) := by decide +kernel
theorem dX10_lays_5 : decode cX10_lays 5 = .ok (.aload_n 0, 1) := by decide +kernel
theorem dX10_lays_6 : decode cX10_lays 6 = .ok (.iconst 0, 1) := by decide +kernel
theorem dX10_lays_7 : decode cX10_lays 7 = .ok (.putfield 127, 3) := by decide +kernel
theorem dX10_lays_10 : decode cX10_lays 10 = .ok (.iload_n 1, 1) := by decide +kernel
theorem dX10_lays_11 : decode cX10_lays 11 = .ok (.i2l, 1) := by decide +kernel
theorem dX10_lays_12 : decode cX10_lays 12 = .ok (.lconst 0, 1) := by decide +kernel
theorem dX10_lays_13 : decode cX10_lays 13 = .ok (.ldc2_w 130, 3) := by decide +kernel
theorem dX10_lays_16 : decode cX10_lays 16 = .ok (.invokestatic 86, 3) := by decide +kernel
theorem dX10_lays_19 : decode cX10_lays 19 = .ok (.ifCond .eq 12, 3) := by decide +kernel
theorem dX10_lays_22 : decode cX10_lays 22 = .ok (.aload_n 0, 1) := by decide +kernel
theorem dX10_lays_23 : decode cX10_lays 23 = .ok (.iload_n 2, 1) := by decide +kernel
theorem dX10_lays_24 : decode cX10_lays 24 = .ok (.iload_n 3, 1) := by decide +kernel
theorem dX10_lays_25 : decode cX10_lays 25 = .ok (.invokevirtual 132, 3) := by decide +kernel
theorem dX10_lays_28 : decode cX10_lays 28 = .ok (.ifCond .ne 5, 3) := by decide +kernel
theorem dX10_lays_31 : decode cX10_lays 31 = .ok (.iconst 0, 1) := by decide +kernel
theorem dX10_lays_32 : decode cX10_lays 32 = .ok (.ireturn, 1) := by decide +kernel
theorem dX10_lays_33 : decode cX10_lays 33 = .ok (.aload_n 0, 1) := by decide +kernel
theorem dX10_lays_34 : decode cX10_lays 34 = .ok (.iload_n 2, 1) := by decide +kernel
theorem dX10_lays_35 : decode cX10_lays 35 = .ok (.iload_n 3, 1) := by decide +kernel
theorem dX10_lays_36 : decode cX10_lays 36 = .ok (.invokestatic 101, 3) := by decide +kernel
theorem dX10_lays_39 : decode cX10_lays 39 = .ok (.putfield 136, 3) := by decide +kernel
theorem dX10_lays_42 : decode cX10_lays 42 = .ok (.iload_n 1, 1) := by decide +kernel
theorem dX10_lays_43 : decode cX10_lays 43 = .ok (.ifCond .eq 8, 3) := by decide +kernel
theorem dX10_lays_46 : decode cX10_lays 46 = .ok (.iload_n 1, 1) := by decide +kernel
theorem dX10_lays_47 : decode cX10_lays 47 = .ok (.iconst 1, 1) := by decide +kernel
theorem dX10_lays_48 : decode cX10_lays 48 = .ok (.if_icmp .ne 30, 3) := by decide +kernel
theorem dX10_lays_51 : decode cX10_lays 51 = .ok (.aload_n 0, 1) := by decide +kernel
theorem dX10_lays_52 : decode cX10_lays 52 = .ok (.iload_n 1, 1) := by decide +kernel
theorem dX10_lays_53 : decode cX10_lays 53 = .ok (.ifCond .ne 8, 3) := by decide +kernel
theorem dX10_lays_56 : decode cX10_lays 56 = .ok (.iload 4, 2) := by decide +kernel
theorem dX10_lays_58 : decode cX10_lays 58 = .ok (.goto 6, 3) := by decide +kernel
theorem dX10_lays_61 : decode cX10_lays 61 = .ok (.iload 4, 2) := by decide +kernel
theorem dX10_lays_63 : decode cX10_lays 63 = .ok (.ineg, 1) := by decide +kernel
theorem dX10_lays_64 : decode cX10_lays 64 = .ok (.putfield 139, 3) := by decide +kernel
theorem dX10_lays_67 : decode cX10_lays 67 = .ok (.iload 4, 2) := by decide +kernel
theorem dX10_lays_69 : decode cX10_lays 69 = .ok (.i2l, 1) := by decide +kernel
theorem dX10_lays_70 : decode cX10_lays 70 = .ok (.lconst 1, 1) := by decide +kernel
theorem dX10_lays_71 : decode cX10_lays 71 = .ok (.ldc2_w 142, 3) := by decide +kernel
theorem dX10_lays_74 : decode cX10_lays 74 = .ok (.invokestatic 86, 3) := by decide +kernel
theorem dX10_lays_77 : decode cX10_lays 77 = .ok (.ireturn, 1) := by decide +kernel
theorem dX10_lays_78 : decode cX10_lays 78 = .ok (.iload_n 1, 1) := by decide +kernel
theorem dX10_lays_79 : decode cX10_lays 79 = .ok (.iconst 2, 1) := by decide +kernel
theorem dX10_lays_80 : decode cX10_lays 80 = .ok (.if_icmp .ne 44, 3) := by decide +kernel
theorem dX10_lays_83 : decode cX10_lays 83 = .ok (.aload_n 0, 1) := by decide +kernel
theorem dX10_lays_84 : decode cX10_lays 84 = .ok (.iload_n 3, 1) := by decide +kernel
theorem dX10_lays_85 : decode cX10_lays 85 = .ok (.iconst 1, 1) := by decide +kernel
theorem dX10_lays_86 : decode cX10_lays 86 = .ok (.iadd, 1) := by decide +kernel
theorem dX10_lays_87 : decode cX10_lays 87 = .ok (.invokevirtual 94, 3) := by decide +kernel
theorem dX10_lays_90 : decode cX10_lays 90 = .ok (.ifCond .ne 5, 3) := by decide +kernel
theorem dX10_lays_93 : decode cX10_lays 93 = .ok (.iconst 0, 1) := by decide +kernel
theorem dX10_lays_94 : decode cX10_lays 94 = .ok (.ireturn, 1) := by decide +kernel
theorem dX10_lays_95 : decode cX10_lays 95 = .ok (.aload_n 0, 1) := by decide +kernel
theorem dX10_lays_96 : decode cX10_lays 96 = .ok (.aload_n 0, 1) := by decide +kernel
theorem dX10_lays_97 : decode cX10_lays 97 = .ok (.iload_n 3, 1) := by decide +kernel
theorem dX10_lays_98 : decode cX10_lays 98 = .ok (.iconst 1, 1) := by decide +kernel
theorem dX10_lays_99 : decode cX10_lays 99 = .ok (.iadd, 1) := by decide +kernel
theorem dX10_lays_100 : decode cX10_lays 100 = .ok (.invokevirtual 97, 3) := by decide +kernel
theorem dX10_lays_103 : decode cX10_lays 103 = .ok (.ineg, 1) := by decide +kernel
theorem dX10_lays_104 : decode cX10_lays 104 = .ok (.putfield 139, 3) := by decide +kernel
theorem dX10_lays_107 : decode cX10_lays 107 = .ok (.aload_n 0, 1) := by decide +kernel
theorem dX10_lays_108 : decode cX10_lays 108 = .ok (.aload_n 0, 1) := by decide +kernel
theorem dX10_lays_109 : decode cX10_lays 109 = .ok (.getfield 136, 3) := by decide +kernel
theorem dX10_lays_112 : decode cX10_lays 112 = .ok (.iconst 1, 1) := by decide +kernel
theorem dX10_lays_113 : decode cX10_lays 113 = .ok (.iadd, 1) := by decide +kernel
theorem dX10_lays_114 : decode cX10_lays 114 = .ok (.putfield 124, 3) := by decide +kernel
theorem dX10_lays_117 : decode cX10_lays 117 = .ok (.aload_n 0, 1) := by decide +kernel
theorem dX10_lays_118 : decode cX10_lays 118 = .ok (.iconst 1, 1) := by decide +kernel
theorem dX10_lays_119 : decode cX10_lays 119 = .ok (.putfield 127, 3) := by decide +kernel
theorem dX10_lays_122 : decode cX10_lays 122 = .ok (.iconst 1, 1) := by decide +kernel
theorem dX10_lays_123 : decode cX10_lays 123 = .ok (.ireturn, 1) := by decide +kernel
theorem dX10_lays_124 : decode cX10_lays 124 = .ok (.iload_n 1, 1) := by decide +kernel
theorem dX10_lays_125 : decode cX10_lays 125 = .ok (.iconst 3, 1) := by decide +kernel
theorem dX10_lays_126 : decode cX10_lays 126 = .ok (.if_icmp .ne 35, 3) := by decide +kernel
theorem dX10_lays_129 : decode cX10_lays 129 = .ok (.iload_n 3, 1) := by decide +kernel
theorem dX10_lays_130 : decode cX10_lays 130 = .ok (.ifCond .ne 5, 3) := by decide +kernel
theorem dX10_lays_133 : decode cX10_lays 133 = .ok (.iconst 0, 1) := by decide +kernel
theorem dX10_lays_134 : decode cX10_lays 134 = .ok (.ireturn, 1) := by decide +kernel
theorem dX10_lays_135 : decode cX10_lays 135 = .ok (.aload_n 0, 1) := by decide +kernel
theorem dX10_lays_136 : decode cX10_lays 136 = .ok (.iconst (-1), 1) := by decide +kernel
theorem dX10_lays_137 : decode cX10_lays 137 = .ok (.putfield 139, 3) := by decide +kernel
theorem dX10_lays_140 : decode cX10_lays 140 = .ok (.aload_n 0, 1) := by decide +kernel
theorem dX10_lays_141 : decode cX10_lays 141 = .ok (.aload_n 0, 1) := by decide +kernel
theorem dX10_lays_142 : decode cX10_lays 142 = .ok (.getfield 136, 3) := by decide +kernel
theorem dX10_lays_145 : decode cX10_lays 145 = .ok (.iconst 1, 1) := by decide +kernel
theorem dX10_lays_146 : decode cX10_lays 146 = .ok (.isub, 1) := by decide +kernel
theorem dX10_lays_147 : decode cX10_lays 147 = .ok (.putfield 124, 3) := by decide +kernel
theorem dX10_lays_150 : decode cX10_lays 150 = .ok (.aload_n 0, 1) := by decide +kernel
theorem dX10_lays_151 : decode cX10_lays 151 = .ok (.aload_n 0, 1) := by decide +kernel
theorem dX10_lays_152 : decode cX10_lays 152 = .ok (.iload_n 3, 1) := by decide +kernel
theorem dX10_lays_153 : decode cX10_lays 153 = .ok (.invokevirtual 97, 3) := by decide +kernel
theorem dX10_lays_156 : decode cX10_lays 156 = .ok (.putfield 127, 3) := by decide +kernel
theorem dX10_lays_159 : decode cX10_lays 159 = .ok (.iconst 1, 1) := by decide +kernel
theorem dX10_lays_160 : decode cX10_lays 160 = .ok (.ireturn, 1) := by decide +kernel
theorem dX10_lays_161 : decode cX10_lays 161 = .ok (.aload_n 0, 1) := by decide +kernel
theorem dX10_lays_162 : decode cX10_lays 162 = .ok (.iload 5, 2) := by decide +kernel
theorem dX10_lays_164 : decode cX10_lays 164 = .ok (.invokevirtual 90, 3) := by decide +kernel
theorem dX10_lays_167 : decode cX10_lays 167 = .ok (.ifCond .eq 22, 3) := by decide +kernel
theorem dX10_lays_170 : decode cX10_lays 170 = .ok (.iload 5, 2) := by decide +kernel
theorem dX10_lays_172 : decode cX10_lays 172 = .ok (.iload_n 2, 1) := by decide +kernel
theorem dX10_lays_173 : decode cX10_lays 173 = .ok (.if_icmp .eq 16, 3) := by decide +kernel
theorem dX10_lays_176 : decode cX10_lays 176 = .ok (.iload 4, 2) := by decide +kernel
theorem dX10_lays_178 : decode cX10_lays 178 = .ok (.i2l, 1) := by decide +kernel
theorem dX10_lays_179 : decode cX10_lays 179 = .ok (.lconst 1, 1) := by decide +kernel
theorem dX10_lays_180 : decode cX10_lays 180 = .ok (.ldc2_w 142, 3) := by decide +kernel
theorem dX10_lays_183 : decode cX10_lays 183 = .ok (.invokestatic 86, 3) := by decide +kernel
theorem dX10_lays_186 : decode cX10_lays 186 = .ok (.ifCond .ne 5, 3) := by decide +kernel
theorem dX10_lays_189 : decode cX10_lays 189 = .ok (.iconst 0, 1) := by decide +kernel
theorem dX10_lays_190 : decode cX10_lays 190 = .ok (.ireturn, 1) := by decide +kernel
theorem dX10_lays_191 : decode cX10_lays 191 = .ok (.aload_n 0, 1) := by decide +kernel
theorem dX10_lays_192 : decode cX10_lays 192 = .ok (.iload 4, 2) := by decide +kernel
theorem dX10_lays_194 : decode cX10_lays 194 = .ok (.ineg, 1) := by decide +kernel
theorem dX10_lays_195 : decode cX10_lays 195 = .ok (.putfield 139, 3) := by decide +kernel
theorem dX10_lays_198 : decode cX10_lays 198 = .ok (.aload_n 0, 1) := by decide +kernel
theorem dX10_lays_199 : decode cX10_lays 199 = .ok (.iload 5, 2) := by decide +kernel
theorem dX10_lays_201 : decode cX10_lays 201 = .ok (.iload_n 3, 1) := by decide +kernel
theorem dX10_lays_202 : decode cX10_lays 202 = .ok (.invokestatic 101, 3) := by decide +kernel
theorem dX10_lays_205 : decode cX10_lays 205 = .ok (.putfield 124, 3) := by decide +kernel
theorem dX10_lays_208 : decode cX10_lays 208 = .ok (.aload_n 0, 1) := by decide +kernel
theorem dX10_lays_209 : decode cX10_lays 209 = .ok (.iload 4, 2) := by decide +kernel
theorem dX10_lays_211 : decode cX10_lays 211 = .ok (.putfield 127, 3) := by decide +kernel
theorem dX10_lays_214 : decode cX10_lays 214 = .ok (.iconst 1, 1) := by decide +kernel
theorem dX10_lays_215 : decode cX10_lays 215 = .ok (.ireturn, 1) := by decide +kernel
theorem dX10_laysLogged_0 : decode cX10_laysLogged 0 = .ok (.bipush 57, 2) := by decide +kernel
theorem dX10_laysLogged_2 : decode cX10_laysLogged 2 = .ok (.iconst 5, 1) := by decide +kernel
theorem dX10_laysLogged_3 : decode cX10_laysLogged 3 = .ok (.iload_n 1, 1) := by decide +kernel
theorem dX10_laysLogged_4 : decode cX10_laysLogged 4 = .ok (.imul, 1) := by decide +kernel
theorem dX10_laysLogged_5 : decode cX10_laysLogged 5 = .ok (.iadd, 1) := by decide +kernel
theorem dX10_laysLogged_6 : decode cX10_laysLogged 6 = .ok (.istore_n 2, 1) := by decide +kernel
theorem dX10_laysLogged_7 : decode cX10_laysLogged 7 = .ok (.aload_n 0, 1) := by decide +kernel
theorem dX10_laysLogged_8 : decode cX10_laysLogged 8 = .ok (.aload_n 0, 1) := by decide +kernel
theorem dX10_laysLogged_9 : decode cX10_laysLogged 9 = .ok (.getfield 13, 3) := by decide +kernel
theorem dX10_laysLogged_12 : decode cX10_laysLogged 12 = .ok (.iload_n 2, 1) := by decide +kernel
theorem dX10_laysLogged_13 : decode cX10_laysLogged 13 = .ok (.iaload, 1) := by decide +kernel
theorem dX10_laysLogged_14 : decode cX10_laysLogged 14 = .ok (.aload_n 0, 1) := by decide +kernel
theorem dX10_laysLogged_15 : decode cX10_laysLogged 15 = .ok (.getfield 13, 3) := by decide +kernel
theorem dX10_laysLogged_18 : decode cX10_laysLogged 18 = .ok (.iload_n 2, 1) := by decide +kernel
theorem dX10_laysLogged_19 : decode cX10_laysLogged 19 = .ok (.iconst 1, 1) := by decide +kernel
theorem dX10_laysLogged_20 : decode cX10_laysLogged 20 = .ok (.iadd, 1) := by decide +kernel
theorem dX10_laysLogged_21 : decode cX10_laysLogged 21 = .ok (.iaload, 1) := by decide +kernel
theorem dX10_laysLogged_22 : decode cX10_laysLogged 22 = .ok (.aload_n 0, 1) := by decide +kernel
theorem dX10_laysLogged_23 : decode cX10_laysLogged 23 = .ok (.getfield 13, 3) := by decide +kernel
theorem dX10_laysLogged_26 : decode cX10_laysLogged 26 = .ok (.iload_n 2, 1) := by decide +kernel
theorem dX10_laysLogged_27 : decode cX10_laysLogged 27 = .ok (.iconst 2, 1) := by decide +kernel
theorem dX10_laysLogged_28 : decode cX10_laysLogged 28 = .ok (.iadd, 1) := by decide +kernel
theorem dX10_laysLogged_29 : decode cX10_laysLogged 29 = .ok (.iaload, 1) := by decide +kernel
theorem dX10_laysLogged_30 : decode cX10_laysLogged 30 = .ok (.aload_n 0, 1) := by decide +kernel
theorem dX10_laysLogged_31 : decode cX10_laysLogged 31 = .ok (.getfield 13, 3) := by decide +kernel
theorem dX10_laysLogged_34 : decode cX10_laysLogged 34 = .ok (.iload_n 2, 1) := by decide +kernel
theorem dX10_laysLogged_35 : decode cX10_laysLogged 35 = .ok (.iconst 3, 1) := by decide +kernel
theorem dX10_laysLogged_36 : decode cX10_laysLogged 36 = .ok (.iadd, 1) := by decide +kernel
theorem dX10_laysLogged_37 : decode cX10_laysLogged 37 = .ok (.iaload, 1) := by decide +kernel
theorem dX10_laysLogged_38 : decode cX10_laysLogged 38 = .ok (.aload_n 0, 1) := by decide +kernel
theorem dX10_laysLogged_39 : decode cX10_laysLogged 39 = .ok (.getfield 13, 3) := by decide +kernel
theorem dX10_laysLogged_42 : decode cX10_laysLogged 42 = .ok (.iload_n 2, 1) := by decide +kernel
theorem dX10_laysLogged_43 : decode cX10_laysLogged 43 = .ok (.iconst 4, 1) := by decide +kernel
theorem dX10_laysLogged_44 : decode cX10_laysLogged 44 = .ok (.iadd, 1) := by decide +kernel
theorem dX10_laysLogged_45 : decode cX10_laysLogged 45 = .ok (.iaload, 1) := by decide +kernel
theorem dX10_laysLogged_46 : decode cX10_laysLogged 46 = .ok (.invokevirtual 144, 3) := by decide +kernel
theorem dX10_laysLogged_49 : decode cX10_laysLogged 49 = .ok (.istore_n 3, 1) := by decide +kernel
theorem dX10_laysLogged_50 : decode cX10_laysLogged 50 = .ok (.return_, 1) := by decide +kernel
theorem dX10_holds_0 : decode cX10_holds 0 = .ok (.iload_n 0, 1) := by decide +kernel
theorem dX10_holds_1 : decode cX10_holds 1 = .ok (.i2l, 1) := by decide +kernel
theorem dX10_holds_2 : decode cX10_holds 2 = .ok (.lconst 0, 1) := by decide +kernel
theorem dX10_holds_3 : decode cX10_holds 3 = .ok (.ldc2_w 142, 3) := by decide +kernel
theorem dX10_holds_6 : decode cX10_holds 6 = .ok (.invokestatic 86, 3) := by decide +kernel
theorem dX10_holds_9 : decode cX10_holds 9 = .ok (.ireturn, 1) := by decide +kernel
theorem dX10_fits_0 : decode cX10_fits 0 = .ok (.aload_n 0, 1) := by decide +kernel
theorem dX10_fits_1 : decode cX10_fits 1 = .ok (.getfield 23, 3) := by decide +kernel
theorem dX10_fits_4 : decode cX10_fits 4 = .ok (.aload_n 0, 1) := by decide +kernel
theorem dX10_fits_5 : decode cX10_fits 5 = .ok (.getfield 136, 3) := by decide +kernel
theorem dX10_fits_8 : decode cX10_fits 8 = .ok (.iaload, 1) := by decide +kernel
theorem dX10_fits_9 : decode cX10_fits 9 = .ok (.aload_n 0, 1) := by decide +kernel
theorem dX10_fits_10 : decode cX10_fits 10 = .ok (.getfield 139, 3) := by decide +kernel
theorem dX10_fits_13 : decode cX10_fits 13 = .ok (.iadd, 1) := by decide +kernel
theorem dX10_fits_14 : decode cX10_fits 14 = .ok (.invokestatic 148, 3) := by decide +kernel
theorem dX10_fits_17 : decode cX10_fits 17 = .ok (.ifCond .eq 35, 3) := by decide +kernel
theorem dX10_fits_20 : decode cX10_fits 20 = .ok (.aload_n 0, 1) := by decide +kernel
theorem dX10_fits_21 : decode cX10_fits 21 = .ok (.getfield 124, 3) := by decide +kernel
theorem dX10_fits_24 : decode cX10_fits 24 = .ok (.iconst (-1), 1) := by decide +kernel
theorem dX10_fits_25 : decode cX10_fits 25 = .ok (.if_icmp .eq 23, 3) := by decide +kernel
theorem dX10_fits_28 : decode cX10_fits 28 = .ok (.aload_n 0, 1) := by decide +kernel
theorem dX10_fits_29 : decode cX10_fits 29 = .ok (.getfield 23, 3) := by decide +kernel
theorem dX10_fits_32 : decode cX10_fits 32 = .ok (.aload_n 0, 1) := by decide +kernel
theorem dX10_fits_33 : decode cX10_fits 33 = .ok (.getfield 124, 3) := by decide +kernel
theorem dX10_fits_36 : decode cX10_fits 36 = .ok (.iaload, 1) := by decide +kernel
theorem dX10_fits_37 : decode cX10_fits 37 = .ok (.aload_n 0, 1) := by decide +kernel
theorem dX10_fits_38 : decode cX10_fits 38 = .ok (.getfield 127, 3) := by decide +kernel
theorem dX10_fits_41 : decode cX10_fits 41 = .ok (.iadd, 1) := by decide +kernel
theorem dX10_fits_42 : decode cX10_fits 42 = .ok (.invokestatic 148, 3) := by decide +kernel
theorem dX10_fits_45 : decode cX10_fits 45 = .ok (.ifCond .eq 7, 3) := by decide +kernel
theorem dX10_fits_48 : decode cX10_fits 48 = .ok (.iconst 1, 1) := by decide +kernel
theorem dX10_fits_49 : decode cX10_fits 49 = .ok (.goto 4, 3) := by decide +kernel
theorem dX10_fits_52 : decode cX10_fits 52 = .ok (.iconst 0, 1) := by decide +kernel
theorem dX10_fits_53 : decode cX10_fits 53 = .ok (.ireturn, 1) := by decide +kernel
theorem dX10_goes_0 : decode cX10_goes 0 = .ok (.aload_n 0, 1) := by decide +kernel
theorem dX10_goes_1 : decode cX10_goes 1 = .ok (.getfield 23, 3) := by decide +kernel
theorem dX10_goes_4 : decode cX10_goes 4 = .ok (.aload_n 0, 1) := by decide +kernel
theorem dX10_goes_5 : decode cX10_goes 5 = .ok (.getfield 136, 3) := by decide +kernel
theorem dX10_goes_8 : decode cX10_goes 8 = .ok (.dup2, 1) := by decide +kernel
theorem dX10_goes_9 : decode cX10_goes 9 = .ok (.iaload, 1) := by decide +kernel
theorem dX10_goes_10 : decode cX10_goes 10 = .ok (.iload_n 1, 1) := by decide +kernel
theorem dX10_goes_11 : decode cX10_goes 11 = .ok (.aload_n 0, 1) := by decide +kernel
theorem dX10_goes_12 : decode cX10_goes 12 = .ok (.getfield 139, 3) := by decide +kernel
theorem dX10_goes_15 : decode cX10_goes 15 = .ok (.imul, 1) := by decide +kernel
theorem dX10_goes_16 : decode cX10_goes 16 = .ok (.iadd, 1) := by decide +kernel
theorem dX10_goes_17 : decode cX10_goes 17 = .ok (.iastore, 1) := by decide +kernel
theorem dX10_goes_18 : decode cX10_goes 18 = .ok (.aload_n 0, 1) := by decide +kernel
theorem dX10_goes_19 : decode cX10_goes 19 = .ok (.getfield 124, 3) := by decide +kernel
theorem dX10_goes_22 : decode cX10_goes 22 = .ok (.iconst (-1), 1) := by decide +kernel
theorem dX10_goes_23 : decode cX10_goes 23 = .ok (.if_icmp .eq 21, 3) := by decide +kernel
theorem dX10_goes_26 : decode cX10_goes 26 = .ok (.aload_n 0, 1) := by decide +kernel
theorem dX10_goes_27 : decode cX10_goes 27 = .ok (.getfield 23, 3) := by decide +kernel
theorem dX10_goes_30 : decode cX10_goes 30 = .ok (.aload_n 0, 1) := by decide +kernel
theorem dX10_goes_31 : decode cX10_goes 31 = .ok (.getfield 124, 3) := by decide +kernel
theorem dX10_goes_34 : decode cX10_goes 34 = .ok (.dup2, 1) := by decide +kernel
theorem dX10_goes_35 : decode cX10_goes 35 = .ok (.iaload, 1) := by decide +kernel
theorem dX10_goes_36 : decode cX10_goes 36 = .ok (.iload_n 1, 1) := by decide +kernel
theorem dX10_goes_37 : decode cX10_goes 37 = .ok (.aload_n 0, 1) := by decide +kernel
theorem dX10_goes_38 : decode cX10_goes 38 = .ok (.getfield 127, 3) := by decide +kernel
theorem dX10_goes_41 : decode cX10_goes 41 = .ok (.imul, 1) := by decide +kernel
theorem dX10_goes_42 : decode cX10_goes 42 = .ok (.iadd, 1) := by decide +kernel
theorem dX10_goes_43 : decode cX10_goes 43 = .ok (.iastore, 1) := by decide +kernel
theorem dX10_goes_44 : decode cX10_goes 44 = .ok (.return_, 1) := by decide +kernel
theorem dX10_laysNow_0 : decode cX10_laysNow 0 = .ok (.iconst 0, 1) := by decide +kernel
theorem dX10_laysNow_1 : decode cX10_laysNow 1 = .ok (.istore_n 1, 1) := by decide +kernel
theorem dX10_laysNow_2 : decode cX10_laysNow 2 = .ok (.iload_n 1, 1) := by decide +kernel
theorem dX10_laysNow_3 : decode cX10_laysNow 3 = .ok (.bipush 24, 2) := by decide +kernel
theorem dX10_laysNow_5 : decode cX10_laysNow 5 = .ok (.if_icmp .ge 24, 3) := by decide +kernel
theorem dX10_laysNow_8 : decode cX10_laysNow 8 = .ok (.aload_n 0, 1) := by decide +kernel
theorem dX10_laysNow_9 : decode cX10_laysNow 9 = .ok (.getfield 23, 3) := by decide +kernel
theorem dX10_laysNow_12 : decode cX10_laysNow 12 = .ok (.iload_n 1, 1) := by decide +kernel
theorem dX10_laysNow_13 : decode cX10_laysNow 13 = .ok (.aload_n 0, 1) := by decide +kernel
theorem dX10_laysNow_14 : decode cX10_laysNow 14 = .ok (.getfield 13, 3) := by decide +kernel
theorem dX10_laysNow_17 : decode cX10_laysNow 17 = .ok (.bipush 8, 2) := by decide +kernel
theorem dX10_laysNow_19 : decode cX10_laysNow 19 = .ok (.iload_n 1, 1) := by decide +kernel
theorem dX10_laysNow_20 : decode cX10_laysNow 20 = .ok (.iadd, 1) := by decide +kernel
theorem dX10_laysNow_21 : decode cX10_laysNow 21 = .ok (.iaload, 1) := by decide +kernel
theorem dX10_laysNow_22 : decode cX10_laysNow 22 = .ok (.iastore, 1) := by decide +kernel
theorem dX10_laysNow_23 : decode cX10_laysNow 23 = .ok (.iinc 1 1, 3) := by decide +kernel
theorem dX10_laysNow_26 : decode cX10_laysNow 26 = .ok (.goto (-24), 3) := by decide +kernel
theorem dX10_laysNow_29 : decode cX10_laysNow 29 = .ok (.return_, 1) := by decide +kernel
theorem dX10_takesNow_0 : decode cX10_takesNow 0 = .ok (.iconst 0, 1) := by decide +kernel
theorem dX10_takesNow_1 : decode cX10_takesNow 1 = .ok (.istore_n 1, 1) := by decide +kernel
theorem dX10_takesNow_2 : decode cX10_takesNow 2 = .ok (.iload_n 1, 1) := by decide +kernel
theorem dX10_takesNow_3 : decode cX10_takesNow 3 = .ok (.bipush 24, 2) := by decide +kernel
theorem dX10_takesNow_5 : decode cX10_takesNow 5 = .ok (.if_icmp .ge 24, 3) := by decide +kernel
theorem dX10_takesNow_8 : decode cX10_takesNow 8 = .ok (.aload_n 0, 1) := by decide +kernel
theorem dX10_takesNow_9 : decode cX10_takesNow 9 = .ok (.getfield 13, 3) := by decide +kernel
theorem dX10_takesNow_12 : decode cX10_takesNow 12 = .ok (.bipush 8, 2) := by decide +kernel
theorem dX10_takesNow_14 : decode cX10_takesNow 14 = .ok (.iload_n 1, 1) := by decide +kernel
theorem dX10_takesNow_15 : decode cX10_takesNow 15 = .ok (.iadd, 1) := by decide +kernel
theorem dX10_takesNow_16 : decode cX10_takesNow 16 = .ok (.aload_n 0, 1) := by decide +kernel
theorem dX10_takesNow_17 : decode cX10_takesNow 17 = .ok (.getfield 23, 3) := by decide +kernel
theorem dX10_takesNow_20 : decode cX10_takesNow 20 = .ok (.iload_n 1, 1) := by decide +kernel
theorem dX10_takesNow_21 : decode cX10_takesNow 21 = .ok (.iaload, 1) := by decide +kernel
theorem dX10_takesNow_22 : decode cX10_takesNow 22 = .ok (.iastore, 1) := by decide +kernel
theorem dX10_takesNow_23 : decode cX10_takesNow 23 = .ok (.iinc 1 1, 3) := by decide +kernel
theorem dX10_takesNow_26 : decode cX10_takesNow 26 = .ok (.goto (-24), 3) := by decide +kernel
theorem dX10_takesNow_29 : decode cX10_takesNow 29 = .ok (.return_, 1) := by decide +kernel
theorem dX10_canMove_0 : decode cX10_canMove 0 = .ok (.aload_n 0, 1) := by decide +kernel
theorem dX10_canMove_1 : decode cX10_canMove 1 = .ok (.iload_n 1, 1) := by decide +kernel
theorem dX10_canMove_2 : decode cX10_canMove 2 = .ok (.iload_n 2, 1) := by decide +kernel
theorem dX10_canMove_3 : decode cX10_canMove 3 = .ok (.iload_n 3, 1) := by decide +kernel
theorem dX10_canMove_4 : decode cX10_canMove 4 = .ok (.iload 4, 2) := by decide +kernel
theorem dX10_canMove_6 : decode cX10_canMove 6 = .ok (.iload 5, 2) := by decide +kernel
theorem dX10_canMove_8 : decode cX10_canMove 8 = .ok (.invokevirtual 144, 3) := by decide +kernel
theorem dX10_canMove_11 : decode cX10_canMove 11 = .ok (.ifCond .ne 5, 3) := by decide +kernel
theorem dX10_canMove_14 : decode cX10_canMove 14 = .ok (.iconst 0, 1) := by decide +kernel
theorem dX10_canMove_15 : decode cX10_canMove 15 = .ok (.ireturn, 1) := by decide +kernel
theorem dX10_canMove_16 : decode cX10_canMove 16 = .ok (.aload_n 0, 1) := by decide +kernel
theorem dX10_canMove_17 : decode cX10_canMove 17 = .ok (.invokevirtual 151, 3) := by decide +kernel
theorem dX10_canMove_20 : decode cX10_canMove 20 = .ok (.aload_n 0, 1) := by decide +kernel
theorem dX10_canMove_21 : decode cX10_canMove 21 = .ok (.invokevirtual 154, 3) := by decide +kernel
theorem dX10_canMove_24 : decode cX10_canMove 24 = .ok (.ireturn, 1) := by decide +kernel
theorem dX10_moves_0 : decode cX10_moves 0 = .ok (.aload_n 0, 1) := by decide +kernel
theorem dX10_moves_1 : decode cX10_moves 1 = .ok (.getfield 13, 3) := by decide +kernel
theorem dX10_moves_4 : decode cX10_moves 4 = .ok (.bipush 56, 2) := by decide +kernel
theorem dX10_moves_6 : decode cX10_moves 6 = .ok (.iaload, 1) := by decide +kernel
theorem dX10_moves_7 : decode cX10_moves 7 = .ok (.bipush 24, 2) := by decide +kernel
theorem dX10_moves_9 : decode cX10_moves 9 = .ok (.if_icmp .eq 17, 3) := by decide +kernel
theorem dX10_moves_12 : decode cX10_moves 12 = .ok (.aload_n 0, 1) := by decide +kernel
theorem dX10_moves_13 : decode cX10_moves 13 = .ok (.iload_n 1, 1) := by decide +kernel
theorem dX10_moves_14 : decode cX10_moves 14 = .ok (.iload_n 2, 1) := by decide +kernel
theorem dX10_moves_15 : decode cX10_moves 15 = .ok (.iload_n 3, 1) := by decide +kernel
theorem dX10_moves_16 : decode cX10_moves 16 = .ok (.iload 4, 2) := by decide +kernel
theorem dX10_moves_18 : decode cX10_moves 18 = .ok (.iload 5, 2) := by decide +kernel
theorem dX10_moves_20 : decode cX10_moves 20 = .ok (.invokevirtual 158, 3) := by decide +kernel
theorem dX10_moves_23 : decode cX10_moves 23 = .ok (.ifCond .ne 5, 3) := by decide +kernel
theorem dX10_moves_26 : decode cX10_moves 26 = .ok (.iconst (-1), 1) := by decide +kernel
theorem dX10_moves_27 : decode cX10_moves 27 = .ok (.ireturn, 1) := by decide +kernel
theorem dX10_moves_28 : decode cX10_moves 28 = .ok (.aload_n 0, 1) := by decide +kernel
theorem dX10_moves_29 : decode cX10_moves 29 = .ok (.invokevirtual 115, 3) := by decide +kernel
theorem dX10_moves_32 : decode cX10_moves 32 = .ok (.aload_n 0, 1) := by decide +kernel
theorem dX10_moves_33 : decode cX10_moves 33 = .ok (.iconst 1, 1) := by decide +kernel
theorem dX10_moves_34 : decode cX10_moves 34 = .ok (.invokevirtual 161, 3) := by decide +kernel
theorem dX10_moves_37 : decode cX10_moves 37 = .ok (.aload_n 0, 1) := by decide +kernel
theorem dX10_moves_38 : decode cX10_moves 38 = .ok (.invokevirtual 165, 3) := by decide +kernel
theorem dX10_moves_41 : decode cX10_moves 41 = .ok (.bipush 57, 2) := by decide +kernel
theorem dX10_moves_43 : decode cX10_moves 43 = .ok (.iconst 5, 1) := by decide +kernel
theorem dX10_moves_44 : decode cX10_moves 44 = .ok (.aload_n 0, 1) := by decide +kernel
theorem dX10_moves_45 : decode cX10_moves 45 = .ok (.getfield 13, 3) := by decide +kernel
theorem dX10_moves_48 : decode cX10_moves 48 = .ok (.bipush 56, 2) := by decide +kernel
theorem dX10_moves_50 : decode cX10_moves 50 = .ok (.iaload, 1) := by decide +kernel
theorem dX10_moves_51 : decode cX10_moves 51 = .ok (.imul, 1) := by decide +kernel
theorem dX10_moves_52 : decode cX10_moves 52 = .ok (.iadd, 1) := by decide +kernel
theorem dX10_moves_53 : decode cX10_moves 53 = .ok (.istore 6, 2) := by decide +kernel
theorem dX10_moves_55 : decode cX10_moves 55 = .ok (.aload_n 0, 1) := by decide +kernel
theorem dX10_moves_56 : decode cX10_moves 56 = .ok (.getfield 13, 3) := by decide +kernel
theorem dX10_moves_59 : decode cX10_moves 59 = .ok (.iload 6, 2) := by decide +kernel
theorem dX10_moves_61 : decode cX10_moves 61 = .ok (.iload_n 1, 1) := by decide +kernel
theorem dX10_moves_62 : decode cX10_moves 62 = .ok (.iastore, 1) := by decide +kernel
theorem dX10_moves_63 : decode cX10_moves 63 = .ok (.aload_n 0, 1) := by decide +kernel
theorem dX10_moves_64 : decode cX10_moves 64 = .ok (.getfield 13, 3) := by decide +kernel
theorem dX10_moves_67 : decode cX10_moves 67 = .ok (.iload 6, 2) := by decide +kernel
theorem dX10_moves_69 : decode cX10_moves 69 = .ok (.iconst 1, 1) := by decide +kernel
theorem dX10_moves_70 : decode cX10_moves 70 = .ok (.iadd, 1) := by decide +kernel
theorem dX10_moves_71 : decode cX10_moves 71 = .ok (.iload_n 2, 1) := by decide +kernel
theorem dX10_moves_72 : decode cX10_moves 72 = .ok (.iastore, 1) := by decide +kernel
theorem dX10_moves_73 : decode cX10_moves 73 = .ok (.aload_n 0, 1) := by decide +kernel
theorem dX10_moves_74 : decode cX10_moves 74 = .ok (.getfield 13, 3) := by decide +kernel
theorem dX10_moves_77 : decode cX10_moves 77 = .ok (.iload 6, 2) := by decide +kernel
theorem dX10_moves_79 : decode cX10_moves 79 = .ok (.iconst 2, 1) := by decide +kernel
theorem dX10_moves_80 : decode cX10_moves 80 = .ok (.iadd, 1) := by decide +kernel
theorem dX10_moves_81 : decode cX10_moves 81 = .ok (.iload_n 3, 1) := by decide +kernel
theorem dX10_moves_82 : decode cX10_moves 82 = .ok (.iastore, 1) := by decide +kernel
theorem dX10_moves_83 : decode cX10_moves 83 = .ok (.aload_n 0, 1) := by decide +kernel
theorem dX10_moves_84 : decode cX10_moves 84 = .ok (.getfield 13, 3) := by decide +kernel
theorem dX10_moves_87 : decode cX10_moves 87 = .ok (.iload 6, 2) := by decide +kernel
theorem dX10_moves_89 : decode cX10_moves 89 = .ok (.iconst 3, 1) := by decide +kernel
theorem dX10_moves_90 : decode cX10_moves 90 = .ok (.iadd, 1) := by decide +kernel
theorem dX10_moves_91 : decode cX10_moves 91 = .ok (.iload 4, 2) := by decide +kernel
theorem dX10_moves_93 : decode cX10_moves 93 = .ok (.iastore, 1) := by decide +kernel
theorem dX10_moves_94 : decode cX10_moves 94 = .ok (.aload_n 0, 1) := by decide +kernel
theorem dX10_moves_95 : decode cX10_moves 95 = .ok (.getfield 13, 3) := by decide +kernel
theorem dX10_moves_98 : decode cX10_moves 98 = .ok (.iload 6, 2) := by decide +kernel
theorem dX10_moves_100 : decode cX10_moves 100 = .ok (.iconst 4, 1) := by decide +kernel
theorem dX10_moves_101 : decode cX10_moves 101 = .ok (.iadd, 1) := by decide +kernel
theorem dX10_moves_102 : decode cX10_moves 102 = .ok (.iload 5, 2) := by decide +kernel
theorem dX10_moves_104 : decode cX10_moves 104 = .ok (.iastore, 1) := by decide +kernel
theorem dX10_moves_105 : decode cX10_moves 105 = .ok (.aload_n 0, 1) := by decide +kernel
theorem dX10_moves_106 : decode cX10_moves 106 = .ok (.getfield 13, 3) := by decide +kernel
theorem dX10_moves_109 : decode cX10_moves 109 = .ok (.bipush 56, 2) := by decide +kernel
theorem dX10_moves_111 : decode cX10_moves 111 = .ok (.dup2, 1) := by decide +kernel
theorem dX10_moves_112 : decode cX10_moves 112 = .ok (.iaload, 1) := by decide +kernel
theorem dX10_moves_113 : decode cX10_moves 113 = .ok (.iconst 1, 1) := by decide +kernel
theorem dX10_moves_114 : decode cX10_moves 114 = .ok (.iadd, 1) := by decide +kernel
theorem dX10_moves_115 : decode cX10_moves 115 = .ok (.iastore, 1) := by decide +kernel
theorem dX10_moves_116 : decode cX10_moves 116 = .ok (.iload_n 1, 1) := by decide +kernel
theorem dX10_moves_117 : decode cX10_moves 117 = .ok (.iconst 4, 1) := by decide +kernel
theorem dX10_moves_118 : decode cX10_moves 118 = .ok (.if_icmp .ne 13, 3) := by decide +kernel
theorem dX10_moves_121 : decode cX10_moves 121 = .ok (.aload_n 0, 1) := by decide +kernel
theorem dX10_moves_122 : decode cX10_moves 122 = .ok (.iload 5, 2) := by decide +kernel
theorem dX10_moves_124 : decode cX10_moves 124 = .ok (.iload_n 3, 1) := by decide +kernel
theorem dX10_moves_125 : decode cX10_moves 125 = .ok (.invokevirtual 105, 3) := by decide +kernel
theorem dX10_moves_128 : decode cX10_moves 128 = .ok (.goto 9, 3) := by decide +kernel
theorem dX10_moves_131 : decode cX10_moves 131 = .ok (.aload_n 0, 1) := by decide +kernel
theorem dX10_moves_132 : decode cX10_moves 132 = .ok (.iload_n 2, 1) := by decide +kernel
theorem dX10_moves_133 : decode cX10_moves 133 = .ok (.iload_n 3, 1) := by decide +kernel
theorem dX10_moves_134 : decode cX10_moves 134 = .ok (.invokevirtual 105, 3) := by decide +kernel
theorem dX10_moves_137 : decode cX10_moves 137 = .ok (.ireturn, 1) := by decide +kernel
theorem dX10_put_0 : decode cX10_put 0 = .ok (.aload_n 0, 1) := by decide +kernel
theorem dX10_put_1 : decode cX10_put 1 = .ok (.iload_n 1, 1) := by decide +kernel
theorem dX10_put_2 : decode cX10_put 2 = .ok (.ifCond .eq 7, 3) := by decide +kernel
theorem dX10_put_5 : decode cX10_put 5 = .ok (.iconst 1, 1) := by decide +kernel
theorem dX10_put_6 : decode cX10_put 6 = .ok (.goto 4, 3) := by decide +kernel
theorem dX10_put_9 : decode cX10_put 9 = .ok (.iconst 0, 1) := by decide +kernel
theorem dX10_put_10 : decode cX10_put 10 = .ok (.iload_n 2, 1) := by decide +kernel
theorem dX10_put_11 : decode cX10_put 11 = .ok (.iload_n 3, 1) := by decide +kernel
theorem dX10_put_12 : decode cX10_put 12 = .ok (.iload 4, 2) := by decide +kernel
theorem dX10_put_14 : decode cX10_put 14 = .ok (.iconst 0, 1) := by decide +kernel
theorem dX10_put_15 : decode cX10_put 15 = .ok (.invokevirtual 168, 3) := by decide +kernel
theorem dX10_put_18 : decode cX10_put 18 = .ok (.ireturn, 1) := by decide +kernel
theorem dX10_carry_0 : decode cX10_carry 0 = .ok (.aload_n 0, 1) := by decide +kernel
theorem dX10_carry_1 : decode cX10_carry 1 = .ok (.iload_n 1, 1) := by decide +kernel
theorem dX10_carry_2 : decode cX10_carry 2 = .ok (.ifCond .eq 7, 3) := by decide +kernel
theorem dX10_carry_5 : decode cX10_carry 5 = .ok (.iconst 3, 1) := by decide +kernel
theorem dX10_carry_6 : decode cX10_carry 6 = .ok (.goto 4, 3) := by decide +kernel
theorem dX10_carry_9 : decode cX10_carry 9 = .ok (.iconst 2, 1) := by decide +kernel
theorem dX10_carry_10 : decode cX10_carry 10 = .ok (.iload_n 2, 1) := by decide +kernel
theorem dX10_carry_11 : decode cX10_carry 11 = .ok (.iload_n 3, 1) := by decide +kernel
theorem dX10_carry_12 : decode cX10_carry 12 = .ok (.iconst 0, 1) := by decide +kernel
theorem dX10_carry_13 : decode cX10_carry 13 = .ok (.iconst 0, 1) := by decide +kernel
theorem dX10_carry_14 : decode cX10_carry 14 = .ok (.invokevirtual 168, 3) := by decide +kernel
theorem dX10_carry_17 : decode cX10_carry 17 = .ok (.ireturn, 1) := by decide +kernel
theorem dX10_shift_0 : decode cX10_shift 0 = .ok (.aload_n 0, 1) := by decide +kernel
theorem dX10_shift_1 : decode cX10_shift 1 = .ok (.iconst 4, 1) := by decide +kernel
theorem dX10_shift_2 : decode cX10_shift 2 = .ok (.iload_n 1, 1) := by decide +kernel
theorem dX10_shift_3 : decode cX10_shift 3 = .ok (.iload_n 3, 1) := by decide +kernel
theorem dX10_shift_4 : decode cX10_shift 4 = .ok (.iload 4, 2) := by decide +kernel
theorem dX10_shift_6 : decode cX10_shift 6 = .ok (.iload_n 2, 1) := by decide +kernel
theorem dX10_shift_7 : decode cX10_shift 7 = .ok (.invokevirtual 168, 3) := by decide +kernel
theorem dX10_shift_10 : decode cX10_shift 10 = .ok (.ireturn, 1) := by decide +kernel
theorem dX10_can_0 : decode cX10_can 0 = .ok (.aload_n 0, 1) := by decide +kernel
theorem dX10_can_1 : decode cX10_can 1 = .ok (.iload_n 1, 1) := by decide +kernel
theorem dX10_can_2 : decode cX10_can 2 = .ok (.iload_n 2, 1) := by decide +kernel
theorem dX10_can_3 : decode cX10_can 3 = .ok (.iload 4, 2) := by decide +kernel
theorem dX10_can_5 : decode cX10_can 5 = .ok (.iload 5, 2) := by decide +kernel
theorem dX10_can_7 : decode cX10_can 7 = .ok (.iload_n 3, 1) := by decide +kernel
theorem dX10_can_8 : decode cX10_can 8 = .ok (.invokevirtual 158, 3) := by decide +kernel
theorem dX10_can_11 : decode cX10_can 11 = .ok (.ifCond .eq 7, 3) := by decide +kernel
theorem dX10_can_14 : decode cX10_can 14 = .ok (.iconst 1, 1) := by decide +kernel
theorem dX10_can_15 : decode cX10_can 15 = .ok (.goto 4, 3) := by decide +kernel
theorem dX10_can_18 : decode cX10_can 18 = .ok (.iconst 0, 1) := by decide +kernel
theorem dX10_can_19 : decode cX10_can 19 = .ok (.ireturn, 1) := by decide +kernel
theorem dX10_strike_0 : decode cX10_strike 0 = .ok (.aload_n 0, 1) := by decide +kernel
theorem dX10_strike_1 : decode cX10_strike 1 = .ok (.getfield 13, 3) := by decide +kernel
theorem dX10_strike_4 : decode cX10_strike 4 = .ok (.bipush 56, 2) := by decide +kernel
theorem dX10_strike_6 : decode cX10_strike 6 = .ok (.iaload, 1) := by decide +kernel
theorem dX10_strike_7 : decode cX10_strike 7 = .ok (.ifCond .ne 5, 3) := by decide +kernel
theorem dX10_strike_10 : decode cX10_strike 10 = .ok (.iconst (-1), 1) := by decide +kernel
theorem dX10_strike_11 : decode cX10_strike 11 = .ok (.ireturn, 1) := by decide +kernel
theorem dX10_strike_12 : decode cX10_strike 12 = .ok (.aload_n 0, 1) := by decide +kernel
theorem dX10_strike_13 : decode cX10_strike 13 = .ok (.aload_n 0, 1) := by decide +kernel
theorem dX10_strike_14 : decode cX10_strike 14 = .ok (.getfield 13, 3) := by decide +kernel
theorem dX10_strike_17 : decode cX10_strike 17 = .ok (.bipush 56, 2) := by decide +kernel
theorem dX10_strike_19 : decode cX10_strike 19 = .ok (.iaload, 1) := by decide +kernel
theorem dX10_strike_20 : decode cX10_strike 20 = .ok (.iconst 1, 1) := by decide +kernel
theorem dX10_strike_21 : decode cX10_strike 21 = .ok (.isub, 1) := by decide +kernel
theorem dX10_strike_22 : decode cX10_strike 22 = .ok (.invokevirtual 172, 3) := by decide +kernel
theorem dX10_strike_25 : decode cX10_strike 25 = .ok (.aload_n 0, 1) := by decide +kernel
theorem dX10_strike_26 : decode cX10_strike 26 = .ok (.invokevirtual 151, 3) := by decide +kernel
theorem dX10_strike_29 : decode cX10_strike 29 = .ok (.aload_n 0, 1) := by decide +kernel
theorem dX10_strike_30 : decode cX10_strike 30 = .ok (.iconst (-1), 1) := by decide +kernel
theorem dX10_strike_31 : decode cX10_strike 31 = .ok (.invokevirtual 161, 3) := by decide +kernel
theorem dX10_strike_34 : decode cX10_strike 34 = .ok (.aload_n 0, 1) := by decide +kernel
theorem dX10_strike_35 : decode cX10_strike 35 = .ok (.getfield 23, 3) := by decide +kernel
theorem dX10_strike_38 : decode cX10_strike 38 = .ok (.aload_n 0, 1) := by decide +kernel
theorem dX10_strike_39 : decode cX10_strike 39 = .ok (.getfield 136, 3) := by decide +kernel
theorem dX10_strike_42 : decode cX10_strike 42 = .ok (.iaload, 1) := by decide +kernel
theorem dX10_strike_43 : decode cX10_strike 43 = .ok (.invokestatic 148, 3) := by decide +kernel
theorem dX10_strike_46 : decode cX10_strike 46 = .ok (.ifCond .eq 26, 3) := by decide +kernel
theorem dX10_strike_49 : decode cX10_strike 49 = .ok (.aload_n 0, 1) := by decide +kernel
theorem dX10_strike_50 : decode cX10_strike 50 = .ok (.getfield 124, 3) := by decide +kernel
theorem dX10_strike_53 : decode cX10_strike 53 = .ok (.iconst (-1), 1) := by decide +kernel
theorem dX10_strike_54 : decode cX10_strike 54 = .ok (.if_icmp .eq 21, 3) := by decide +kernel
theorem dX10_strike_57 : decode cX10_strike 57 = .ok (.aload_n 0, 1) := by decide +kernel
theorem dX10_strike_58 : decode cX10_strike 58 = .ok (.getfield 23, 3) := by decide +kernel
theorem dX10_strike_61 : decode cX10_strike 61 = .ok (.aload_n 0, 1) := by decide +kernel
theorem dX10_strike_62 : decode cX10_strike 62 = .ok (.getfield 124, 3) := by decide +kernel
theorem dX10_strike_65 : decode cX10_strike 65 = .ok (.iaload, 1) := by decide +kernel
theorem dX10_strike_66 : decode cX10_strike 66 = .ok (.invokestatic 148, 3) := by decide +kernel
theorem dX10_strike_69 : decode cX10_strike 69 = .ok (.ifCond .ne 6, 3) := by decide +kernel
theorem dX10_strike_72 : decode cX10_strike 72 = .ok (.bipush (-2), 2) := by decide +kernel
theorem dX10_strike_74 : decode cX10_strike 74 = .ok (.ireturn, 1) := by decide +kernel
theorem dX10_strike_75 : decode cX10_strike 75 = .ok (.aload_n 0, 1) := by decide +kernel
theorem dX10_strike_76 : decode cX10_strike 76 = .ok (.invokevirtual 115, 3) := by decide +kernel
theorem dX10_strike_79 : decode cX10_strike 79 = .ok (.aload_n 0, 1) := by decide +kernel
theorem dX10_strike_80 : decode cX10_strike 80 = .ok (.invokevirtual 165, 3) := by decide +kernel
theorem dX10_strike_83 : decode cX10_strike 83 = .ok (.aload_n 0, 1) := by decide +kernel
theorem dX10_strike_84 : decode cX10_strike 84 = .ok (.getfield 13, 3) := by decide +kernel
theorem dX10_strike_87 : decode cX10_strike 87 = .ok (.bipush 56, 2) := by decide +kernel
theorem dX10_strike_89 : decode cX10_strike 89 = .ok (.dup2, 1) := by decide +kernel
theorem dX10_strike_90 : decode cX10_strike 90 = .ok (.iaload, 1) := by decide +kernel
theorem dX10_strike_91 : decode cX10_strike 91 = .ok (.iconst 1, 1) := by decide +kernel
theorem dX10_strike_92 : decode cX10_strike 92 = .ok (.isub, 1) := by decide +kernel
theorem dX10_strike_93 : decode cX10_strike 93 = .ok (.iastore, 1) := by decide +kernel
theorem dX10_strike_94 : decode cX10_strike 94 = .ok (.iconst 0, 1) := by decide +kernel
theorem dX10_strike_95 : decode cX10_strike 95 = .ok (.istore_n 1, 1) := by decide +kernel
theorem dX10_strike_96 : decode cX10_strike 96 = .ok (.iload_n 1, 1) := by decide +kernel
theorem dX10_strike_97 : decode cX10_strike 97 = .ok (.iconst 5, 1) := by decide +kernel
theorem dX10_strike_98 : decode cX10_strike 98 = .ok (.if_icmp .ge 29, 3) := by decide +kernel
theorem dX10_strike_101 : decode cX10_strike 101 = .ok (.aload_n 0, 1) := by decide +kernel
theorem dX10_strike_102 : decode cX10_strike 102 = .ok (.getfield 13, 3) := by decide +kernel
theorem dX10_strike_105 : decode cX10_strike 105 = .ok (.bipush 57, 2) := by decide +kernel
theorem dX10_strike_107 : decode cX10_strike 107 = .ok (.iconst 5, 1) := by decide +kernel
theorem dX10_strike_108 : decode cX10_strike 108 = .ok (.aload_n 0, 1) := by decide +kernel
theorem dX10_strike_109 : decode cX10_strike 109 = .ok (.getfield 13, 3) := by decide +kernel
theorem dX10_strike_112 : decode cX10_strike 112 = .ok (.bipush 56, 2) := by decide +kernel
theorem dX10_strike_114 : decode cX10_strike 114 = .ok (.iaload, 1) := by decide +kernel
theorem dX10_strike_115 : decode cX10_strike 115 = .ok (.imul, 1) := by decide +kernel
theorem dX10_strike_116 : decode cX10_strike 116 = .ok (.iadd, 1) := by decide +kernel
theorem dX10_strike_117 : decode cX10_strike 117 = .ok (.iload_n 1, 1) := by decide +kernel
theorem dX10_strike_118 : decode cX10_strike 118 = .ok (.iadd, 1) := by decide +kernel
theorem dX10_strike_119 : decode cX10_strike 119 = .ok (.iconst 0, 1) := by decide +kernel
theorem dX10_strike_120 : decode cX10_strike 120 = .ok (.iastore, 1) := by decide +kernel
theorem dX10_strike_121 : decode cX10_strike 121 = .ok (.iinc 1 1, 3) := by decide +kernel
theorem dX10_strike_124 : decode cX10_strike 124 = .ok (.goto (-28), 3) := by decide +kernel
theorem dX10_strike_127 : decode cX10_strike 127 = .ok (.aload_n 0, 1) := by decide +kernel
theorem dX10_strike_128 : decode cX10_strike 128 = .ok (.getfield 13, 3) := by decide +kernel
theorem dX10_strike_131 : decode cX10_strike 131 = .ok (.sipush 177, 3) := by decide +kernel
theorem dX10_strike_134 : decode cX10_strike 134 = .ok (.iaload, 1) := by decide +kernel
theorem dX10_strike_135 : decode cX10_strike 135 = .ok (.iconst 1, 1) := by decide +kernel
theorem dX10_strike_136 : decode cX10_strike 136 = .ok (.isub, 1) := by decide +kernel
theorem dX10_strike_137 : decode cX10_strike 137 = .ok (.istore_n 1, 1) := by decide +kernel
theorem dX10_strike_138 : decode cX10_strike 138 = .ok (.iload_n 1, 1) := by decide +kernel
theorem dX10_strike_139 : decode cX10_strike 139 = .ok (.ifCond .lt 36, 3) := by decide +kernel
theorem dX10_strike_142 : decode cX10_strike 142 = .ok (.aload_n 0, 1) := by decide +kernel
theorem dX10_strike_143 : decode cX10_strike 143 = .ok (.getfield 13, 3) := by decide +kernel
theorem dX10_strike_146 : decode cX10_strike 146 = .ok (.sipush 178, 3) := by decide +kernel
theorem dX10_strike_149 : decode cX10_strike 149 = .ok (.iconst 4, 1) := by decide +kernel
theorem dX10_strike_150 : decode cX10_strike 150 = .ok (.iload_n 1, 1) := by decide +kernel
theorem dX10_strike_151 : decode cX10_strike 151 = .ok (.imul, 1) := by decide +kernel
theorem dX10_strike_152 : decode cX10_strike 152 = .ok (.iadd, 1) := by decide +kernel
theorem dX10_strike_153 : decode cX10_strike 153 = .ok (.iaload, 1) := by decide +kernel
theorem dX10_strike_154 : decode cX10_strike 154 = .ok (.aload_n 0, 1) := by decide +kernel
theorem dX10_strike_155 : decode cX10_strike 155 = .ok (.getfield 13, 3) := by decide +kernel
theorem dX10_strike_158 : decode cX10_strike 158 = .ok (.bipush 56, 2) := by decide +kernel
theorem dX10_strike_160 : decode cX10_strike 160 = .ok (.iaload, 1) := by decide +kernel
theorem dX10_strike_161 : decode cX10_strike 161 = .ok (.if_icmp .le 8, 3) := by decide +kernel
theorem dX10_strike_164 : decode cX10_strike 164 = .ok (.aload_n 0, 1) := by decide +kernel
theorem dX10_strike_165 : decode cX10_strike 165 = .ok (.iload_n 1, 1) := by decide +kernel
theorem dX10_strike_166 : decode cX10_strike 166 = .ok (.invokevirtual 175, 3) := by decide +kernel
theorem dX10_strike_169 : decode cX10_strike 169 = .ok (.iinc 1 (-1), 3) := by decide +kernel
theorem dX10_strike_172 : decode cX10_strike 172 = .ok (.goto (-34), 3) := by decide +kernel
theorem dX10_strike_175 : decode cX10_strike 175 = .ok (.aload_n 0, 1) := by decide +kernel
theorem dX10_strike_176 : decode cX10_strike 176 = .ok (.getfield 13, 3) := by decide +kernel
theorem dX10_strike_179 : decode cX10_strike 179 = .ok (.bipush 56, 2) := by decide +kernel
theorem dX10_strike_181 : decode cX10_strike 181 = .ok (.iaload, 1) := by decide +kernel
theorem dX10_strike_182 : decode cX10_strike 182 = .ok (.ireturn, 1) := by decide +kernel
theorem dX10_unsees_0 : decode cX10_unsees 0 = .ok (.sipush 178, 3) := by decide +kernel
theorem dX10_unsees_3 : decode cX10_unsees 3 = .ok (.iconst 4, 1) := by decide +kernel
theorem dX10_unsees_4 : decode cX10_unsees 4 = .ok (.iload_n 1, 1) := by decide +kernel
theorem dX10_unsees_5 : decode cX10_unsees 5 = .ok (.imul, 1) := by decide +kernel
theorem dX10_unsees_6 : decode cX10_unsees 6 = .ok (.iadd, 1) := by decide +kernel
theorem dX10_unsees_7 : decode cX10_unsees 7 = .ok (.istore_n 2, 1) := by decide +kernel
theorem dX10_unsees_8 : decode cX10_unsees 8 = .ok (.iload_n 2, 1) := by decide +kernel
theorem dX10_unsees_9 : decode cX10_unsees 9 = .ok (.sipush 226, 3) := by decide +kernel
theorem dX10_unsees_12 : decode cX10_unsees 12 = .ok (.if_icmp .ge 36, 3) := by decide +kernel
theorem dX10_unsees_15 : decode cX10_unsees 15 = .ok (.aload_n 0, 1) := by decide +kernel
theorem dX10_unsees_16 : decode cX10_unsees 16 = .ok (.getfield 13, 3) := by decide +kernel
theorem dX10_unsees_19 : decode cX10_unsees 19 = .ok (.iload_n 2, 1) := by decide +kernel
theorem dX10_unsees_20 : decode cX10_unsees 20 = .ok (.iload_n 2, 1) := by decide +kernel
theorem dX10_unsees_21 : decode cX10_unsees 21 = .ok (.iconst 4, 1) := by decide +kernel
theorem dX10_unsees_22 : decode cX10_unsees 22 = .ok (.iadd, 1) := by decide +kernel
theorem dX10_unsees_23 : decode cX10_unsees 23 = .ok (.sipush 226, 3) := by decide +kernel
theorem dX10_unsees_26 : decode cX10_unsees 26 = .ok (.if_icmp .ge 14, 3) := by decide +kernel
theorem dX10_unsees_29 : decode cX10_unsees 29 = .ok (.aload_n 0, 1) := by decide +kernel
theorem dX10_unsees_30 : decode cX10_unsees 30 = .ok (.getfield 13, 3) := by decide +kernel
theorem dX10_unsees_33 : decode cX10_unsees 33 = .ok (.iload_n 2, 1) := by decide +kernel
theorem dX10_unsees_34 : decode cX10_unsees 34 = .ok (.iconst 4, 1) := by decide +kernel
theorem dX10_unsees_35 : decode cX10_unsees 35 = .ok (.iadd, 1) := by decide +kernel
theorem dX10_unsees_36 : decode cX10_unsees 36 = .ok (.iaload, 1) := by decide +kernel
theorem dX10_unsees_37 : decode cX10_unsees 37 = .ok (.goto 4, 3) := by decide +kernel
theorem dX10_unsees_40 : decode cX10_unsees 40 = .ok (.iconst 0, 1) := by decide +kernel
theorem dX10_unsees_41 : decode cX10_unsees 41 = .ok (.iastore, 1) := by decide +kernel
theorem dX10_unsees_42 : decode cX10_unsees 42 = .ok (.iinc 2 1, 3) := by decide +kernel
theorem dX10_unsees_45 : decode cX10_unsees 45 = .ok (.goto (-37), 3) := by decide +kernel
theorem dX10_unsees_48 : decode cX10_unsees 48 = .ok (.aload_n 0, 1) := by decide +kernel
theorem dX10_unsees_49 : decode cX10_unsees 49 = .ok (.getfield 13, 3) := by decide +kernel
theorem dX10_unsees_52 : decode cX10_unsees 52 = .ok (.sipush 177, 3) := by decide +kernel
theorem dX10_unsees_55 : decode cX10_unsees 55 = .ok (.dup2, 1) := by decide +kernel
theorem dX10_unsees_56 : decode cX10_unsees 56 = .ok (.iaload, 1) := by decide +kernel
theorem dX10_unsees_57 : decode cX10_unsees 57 = .ok (.iconst 1, 1) := by decide +kernel
theorem dX10_unsees_58 : decode cX10_unsees 58 = .ok (.isub, 1) := by decide +kernel
theorem dX10_unsees_59 : decode cX10_unsees 59 = .ok (.iastore, 1) := by decide +kernel
theorem dX10_unsees_60 : decode cX10_unsees 60 = .ok (.return_, 1) := by decide +kernel
theorem dX10_slips_0 : decode cX10_slips 0 = .ok (.iload_n 3, 1) := by decide +kernel
theorem dX10_slips_1 : decode cX10_slips 1 = .ok (.ifCond .eq 9, 3) := by decide +kernel
theorem dX10_slips_4 : decode cX10_slips 4 = .ok (.iload_n 2, 1) := by decide +kernel
theorem dX10_slips_5 : decode cX10_slips 5 = .ok (.iconst 1, 1) := by decide +kernel
theorem dX10_slips_6 : decode cX10_slips 6 = .ok (.iadd, 1) := by decide +kernel
theorem dX10_slips_7 : decode cX10_slips 7 = .ok (.goto 6, 3) := by decide +kernel
theorem dX10_slips_10 : decode cX10_slips 10 = .ok (.iload_n 2, 1) := by decide +kernel
theorem dX10_slips_11 : decode cX10_slips 11 = .ok (.iconst 1, 1) := by decide +kernel
theorem dX10_slips_12 : decode cX10_slips 12 = .ok (.isub, 1) := by decide +kernel
theorem dX10_slips_13 : decode cX10_slips 13 = .ok (.istore 4, 2) := by decide +kernel
theorem dX10_slips_15 : decode cX10_slips 15 = .ok (.aload_n 0, 1) := by decide +kernel
theorem dX10_slips_16 : decode cX10_slips 16 = .ok (.iload_n 1, 1) := by decide +kernel
theorem dX10_slips_17 : decode cX10_slips 17 = .ok (.iload_n 2, 1) := by decide +kernel
theorem dX10_slips_18 : decode cX10_slips 18 = .ok (.invokevirtual 132, 3) := by decide +kernel
theorem dX10_slips_21 : decode cX10_slips 21 = .ok (.ifCond .eq 46, 3) := by decide +kernel
theorem dX10_slips_24 : decode cX10_slips 24 = .ok (.aload_n 0, 1) := by decide +kernel
theorem dX10_slips_25 : decode cX10_slips 25 = .ok (.iload 4, 2) := by decide +kernel
theorem dX10_slips_27 : decode cX10_slips 27 = .ok (.invokevirtual 94, 3) := by decide +kernel
theorem dX10_slips_30 : decode cX10_slips 30 = .ok (.ifCond .eq 37, 3) := by decide +kernel
theorem dX10_slips_33 : decode cX10_slips 33 = .ok (.aload_n 0, 1) := by decide +kernel
theorem dX10_slips_34 : decode cX10_slips 34 = .ok (.getfield 23, 3) := by decide +kernel
theorem dX10_slips_37 : decode cX10_slips 37 = .ok (.iload_n 1, 1) := by decide +kernel
theorem dX10_slips_38 : decode cX10_slips 38 = .ok (.iload_n 2, 1) := by decide +kernel
theorem dX10_slips_39 : decode cX10_slips 39 = .ok (.invokestatic 101, 3) := by decide +kernel
theorem dX10_slips_42 : decode cX10_slips 42 = .ok (.iaload, 1) := by decide +kernel
theorem dX10_slips_43 : decode cX10_slips 43 = .ok (.iconst 1, 1) := by decide +kernel
theorem dX10_slips_44 : decode cX10_slips 44 = .ok (.if_icmp .lt 23, 3) := by decide +kernel
theorem dX10_slips_47 : decode cX10_slips 47 = .ok (.aload_n 0, 1) := by decide +kernel
theorem dX10_slips_48 : decode cX10_slips 48 = .ok (.getfield 23, 3) := by decide +kernel
theorem dX10_slips_51 : decode cX10_slips 51 = .ok (.iload_n 1, 1) := by decide +kernel
theorem dX10_slips_52 : decode cX10_slips 52 = .ok (.iload 4, 2) := by decide +kernel
theorem dX10_slips_54 : decode cX10_slips 54 = .ok (.invokestatic 101, 3) := by decide +kernel
theorem dX10_slips_57 : decode cX10_slips 57 = .ok (.iaload, 1) := by decide +kernel
theorem dX10_slips_58 : decode cX10_slips 58 = .ok (.bipush 99, 2) := by decide +kernel
theorem dX10_slips_60 : decode cX10_slips 60 = .ok (.if_icmp .ge 7, 3) := by decide +kernel
theorem dX10_slips_63 : decode cX10_slips 63 = .ok (.iconst 1, 1) := by decide +kernel
theorem dX10_slips_64 : decode cX10_slips 64 = .ok (.goto 4, 3) := by decide +kernel
theorem dX10_slips_67 : decode cX10_slips 67 = .ok (.iconst 0, 1) := by decide +kernel
theorem dX10_slips_68 : decode cX10_slips 68 = .ok (.ireturn, 1) := by decide +kernel
theorem dX10_changeOf_0 : decode cX10_changeOf 0 = .ok (.aload_n 0, 1) := by decide +kernel
theorem dX10_changeOf_1 : decode cX10_changeOf 1 = .ok (.iload_n 2, 1) := by decide +kernel
theorem dX10_changeOf_2 : decode cX10_changeOf 2 = .ok (.ifCond .eq 9, 3) := by decide +kernel
theorem dX10_changeOf_5 : decode cX10_changeOf 5 = .ok (.iload_n 1, 1) := by decide +kernel
theorem dX10_changeOf_6 : decode cX10_changeOf 6 = .ok (.iconst 1, 1) := by decide +kernel
theorem dX10_changeOf_7 : decode cX10_changeOf 7 = .ok (.iadd, 1) := by decide +kernel
theorem dX10_changeOf_8 : decode cX10_changeOf 8 = .ok (.goto 6, 3) := by decide +kernel
theorem dX10_changeOf_11 : decode cX10_changeOf 11 = .ok (.iload_n 1, 1) := by decide +kernel
theorem dX10_changeOf_12 : decode cX10_changeOf 12 = .ok (.iconst 1, 1) := by decide +kernel
theorem dX10_changeOf_13 : decode cX10_changeOf 13 = .ok (.isub, 1) := by decide +kernel
theorem dX10_changeOf_14 : decode cX10_changeOf 14 = .ok (.invokevirtual 108, 3) := by decide +kernel
theorem dX10_changeOf_17 : decode cX10_changeOf 17 = .ok (.aload_n 0, 1) := by decide +kernel
theorem dX10_changeOf_18 : decode cX10_changeOf 18 = .ok (.iload_n 1, 1) := by decide +kernel
theorem dX10_changeOf_19 : decode cX10_changeOf 19 = .ok (.invokevirtual 108, 3) := by decide +kernel
theorem dX10_changeOf_22 : decode cX10_changeOf 22 = .ok (.isub, 1) := by decide +kernel
theorem dX10_changeOf_23 : decode cX10_changeOf 23 = .ok (.ireturn, 1) := by decide +kernel
theorem dX10_slide_0 : decode cX10_slide 0 = .ok (.aload_n 0, 1) := by decide +kernel
theorem dX10_slide_1 : decode cX10_slide 1 = .ok (.invokevirtual 151, 3) := by decide +kernel
theorem dX10_slide_4 : decode cX10_slide 4 = .ok (.aload_n 0, 1) := by decide +kernel
theorem dX10_slide_5 : decode cX10_slide 5 = .ok (.iload_n 1, 1) := by decide +kernel
theorem dX10_slide_6 : decode cX10_slide 6 = .ok (.iload_n 2, 1) := by decide +kernel
theorem dX10_slide_7 : decode cX10_slide 7 = .ok (.iload_n 3, 1) := by decide +kernel
theorem dX10_slide_8 : decode cX10_slide 8 = .ok (.invokevirtual 178, 3) := by decide +kernel
theorem dX10_slide_11 : decode cX10_slide 11 = .ok (.ifCond .ne 5, 3) := by decide +kernel
theorem dX10_slide_14 : decode cX10_slide 14 = .ok (.iconst 0, 1) := by decide +kernel
theorem dX10_slide_15 : decode cX10_slide 15 = .ok (.ireturn, 1) := by decide +kernel
theorem dX10_slide_16 : decode cX10_slide 16 = .ok (.aload_n 0, 1) := by decide +kernel
theorem dX10_slide_17 : decode cX10_slide 17 = .ok (.invokevirtual 115, 3) := by decide +kernel
theorem dX10_slide_20 : decode cX10_slide 20 = .ok (.aload_n 0, 1) := by decide +kernel
theorem dX10_slide_21 : decode cX10_slide 21 = .ok (.iload_n 1, 1) := by decide +kernel
theorem dX10_slide_22 : decode cX10_slide 22 = .ok (.iload_n 2, 1) := by decide +kernel
theorem dX10_slide_23 : decode cX10_slide 23 = .ok (.aload_n 0, 1) := by decide +kernel
theorem dX10_slide_24 : decode cX10_slide 24 = .ok (.iload_n 1, 1) := by decide +kernel
theorem dX10_slide_25 : decode cX10_slide 25 = .ok (.iload_n 2, 1) := by decide +kernel
theorem dX10_slide_26 : decode cX10_slide 26 = .ok (.invokevirtual 105, 3) := by decide +kernel
theorem dX10_slide_29 : decode cX10_slide 29 = .ok (.iconst 1, 1) := by decide +kernel
theorem dX10_slide_30 : decode cX10_slide 30 = .ok (.isub, 1) := by decide +kernel
theorem dX10_slide_31 : decode cX10_slide 31 = .ok (.invokevirtual 182, 3) := by decide +kernel
theorem dX10_slide_34 : decode cX10_slide 34 = .ok (.iload_n 3, 1) := by decide +kernel
theorem dX10_slide_35 : decode cX10_slide 35 = .ok (.ifCond .eq 9, 3) := by decide +kernel
theorem dX10_slide_38 : decode cX10_slide 38 = .ok (.iload_n 2, 1) := by decide +kernel
theorem dX10_slide_39 : decode cX10_slide 39 = .ok (.iconst 1, 1) := by decide +kernel
theorem dX10_slide_40 : decode cX10_slide 40 = .ok (.iadd, 1) := by decide +kernel
theorem dX10_slide_41 : decode cX10_slide 41 = .ok (.goto 6, 3) := by decide +kernel
theorem dX10_slide_44 : decode cX10_slide 44 = .ok (.iload_n 2, 1) := by decide +kernel
theorem dX10_slide_45 : decode cX10_slide 45 = .ok (.iconst 1, 1) := by decide +kernel
theorem dX10_slide_46 : decode cX10_slide 46 = .ok (.isub, 1) := by decide +kernel
theorem dX10_slide_47 : decode cX10_slide 47 = .ok (.istore 4, 2) := by decide +kernel
theorem dX10_slide_49 : decode cX10_slide 49 = .ok (.aload_n 0, 1) := by decide +kernel
theorem dX10_slide_50 : decode cX10_slide 50 = .ok (.iload_n 1, 1) := by decide +kernel
theorem dX10_slide_51 : decode cX10_slide 51 = .ok (.iload 4, 2) := by decide +kernel
theorem dX10_slide_53 : decode cX10_slide 53 = .ok (.aload_n 0, 1) := by decide +kernel
theorem dX10_slide_54 : decode cX10_slide 54 = .ok (.iload_n 1, 1) := by decide +kernel
theorem dX10_slide_55 : decode cX10_slide 55 = .ok (.iload 4, 2) := by decide +kernel
theorem dX10_slide_57 : decode cX10_slide 57 = .ok (.invokevirtual 105, 3) := by decide +kernel
theorem dX10_slide_60 : decode cX10_slide 60 = .ok (.iconst 1, 1) := by decide +kernel
theorem dX10_slide_61 : decode cX10_slide 61 = .ok (.iadd, 1) := by decide +kernel
theorem dX10_slide_62 : decode cX10_slide 62 = .ok (.invokevirtual 182, 3) := by decide +kernel
theorem dX10_slide_65 : decode cX10_slide 65 = .ok (.aload_n 0, 1) := by decide +kernel
theorem dX10_slide_66 : decode cX10_slide 66 = .ok (.iload_n 2, 1) := by decide +kernel
theorem dX10_slide_67 : decode cX10_slide 67 = .ok (.iload_n 3, 1) := by decide +kernel
theorem dX10_slide_68 : decode cX10_slide 68 = .ok (.invokevirtual 186, 3) := by decide +kernel
theorem dX10_slide_71 : decode cX10_slide 71 = .ok (.ireturn, 1) := by decide +kernel
theorem dX10_laysPlain_0 : decode cX10_laysPlain 0 = .ok (.iload_n 1, 1) := by decide +kernel
theorem dX10_laysPlain_1 : decode cX10_laysPlain 1 = .ok (.istore_n 2, 1) := by decide +kernel
theorem dX10_laysPlain_2 : decode cX10_laysPlain 2 = .ok (.aload_n 0, 1) := by decide +kernel
theorem dX10_laysPlain_3 : decode cX10_laysPlain 3 = .ok (.getfield 13, 3) := by decide +kernel
theorem dX10_laysPlain_6 : decode cX10_laysPlain 6 = .ok (.iconst 0, 1) := by decide +kernel
theorem dX10_laysPlain_7 : decode cX10_laysPlain 7 = .ok (.iaload, 1) := by decide +kernel
theorem dX10_laysPlain_8 : decode cX10_laysPlain 8 = .ok (.iconst 1, 1) := by decide +kernel
theorem dX10_laysPlain_9 : decode cX10_laysPlain 9 = .ok (.isub, 1) := by decide +kernel
theorem dX10_laysPlain_10 : decode cX10_laysPlain 10 = .ok (.istore_n 3, 1) := by decide +kernel
theorem dX10_laysPlain_11 : decode cX10_laysPlain 11 = .ok (.iload_n 3, 1) := by decide +kernel
theorem dX10_laysPlain_12 : decode cX10_laysPlain 12 = .ok (.ifCond .lt 30, 3) := by decide +kernel
theorem dX10_laysPlain_15 : decode cX10_laysPlain 15 = .ok (.aload_n 0, 1) := by decide +kernel
theorem dX10_laysPlain_16 : decode cX10_laysPlain 16 = .ok (.getfield 26, 3) := by decide +kernel
theorem dX10_laysPlain_19 : decode cX10_laysPlain 19 = .ok (.iload_n 3, 1) := by decide +kernel
theorem dX10_laysPlain_20 : decode cX10_laysPlain 20 = .ok (.iload_n 2, 1) := by decide +kernel
theorem dX10_laysPlain_21 : decode cX10_laysPlain 21 = .ok (.aload_n 0, 1) := by decide +kernel
theorem dX10_laysPlain_22 : decode cX10_laysPlain 22 = .ok (.iload_n 3, 1) := by decide +kernel
theorem dX10_laysPlain_23 : decode cX10_laysPlain 23 = .ok (.invokevirtual 108, 3) := by decide +kernel
theorem dX10_laysPlain_26 : decode cX10_laysPlain 26 = .ok (.idiv, 1) := by decide +kernel
theorem dX10_laysPlain_27 : decode cX10_laysPlain 27 = .ok (.iastore, 1) := by decide +kernel
theorem dX10_laysPlain_28 : decode cX10_laysPlain 28 = .ok (.iload_n 2, 1) := by decide +kernel
theorem dX10_laysPlain_29 : decode cX10_laysPlain 29 = .ok (.aload_n 0, 1) := by decide +kernel
theorem dX10_laysPlain_30 : decode cX10_laysPlain 30 = .ok (.iload_n 3, 1) := by decide +kernel
theorem dX10_laysPlain_31 : decode cX10_laysPlain 31 = .ok (.invokevirtual 108, 3) := by decide +kernel
theorem dX10_laysPlain_34 : decode cX10_laysPlain 34 = .ok (.irem, 1) := by decide +kernel
theorem dX10_laysPlain_35 : decode cX10_laysPlain 35 = .ok (.istore_n 2, 1) := by decide +kernel
theorem dX10_laysPlain_36 : decode cX10_laysPlain 36 = .ok (.iinc 3 (-1), 3) := by decide +kernel
theorem dX10_laysPlain_39 : decode cX10_laysPlain 39 = .ok (.goto (-28), 3) := by decide +kernel
theorem dX10_laysPlain_42 : decode cX10_laysPlain 42 = .ok (.return_, 1) := by decide +kernel
theorem dX10_isOwnFull_0 : decode cX10_isOwnFull 0 = .ok (.iconst 0, 1) := by decide +kernel
theorem dX10_isOwnFull_1 : decode cX10_isOwnFull 1 = .ok (.istore_n 1, 1) := by decide +kernel
theorem dX10_isOwnFull_2 : decode cX10_isOwnFull 2 = .ok (.iload_n 1, 1) := by decide +kernel
theorem dX10_isOwnFull_3 : decode cX10_isOwnFull 3 = .ok (.aload_n 0, 1) := by decide +kernel
theorem dX10_isOwnFull_4 : decode cX10_isOwnFull 4 = .ok (.getfield 13, 3) := by decide +kernel
theorem dX10_isOwnFull_7 : decode cX10_isOwnFull 7 = .ok (.iconst 0, 1) := by decide +kernel
theorem dX10_isOwnFull_8 : decode cX10_isOwnFull 8 = .ok (.iaload, 1) := by decide +kernel
theorem dX10_isOwnFull_9 : decode cX10_isOwnFull 9 = .ok (.if_icmp .ge 22, 3) := by decide +kernel
theorem dX10_isOwnFull_12 : decode cX10_isOwnFull 12 = .ok (.aload_n 0, 1) := by decide +kernel
theorem dX10_isOwnFull_13 : decode cX10_isOwnFull 13 = .ok (.getfield 26, 3) := by decide +kernel
theorem dX10_isOwnFull_16 : decode cX10_isOwnFull 16 = .ok (.iload_n 1, 1) := by decide +kernel
theorem dX10_isOwnFull_17 : decode cX10_isOwnFull 17 = .ok (.iaload, 1) := by decide +kernel
theorem dX10_isOwnFull_18 : decode cX10_isOwnFull 18 = .ok (.bipush 99, 2) := by decide +kernel
theorem dX10_isOwnFull_20 : decode cX10_isOwnFull 20 = .ok (.if_icmp .le 5, 3) := by decide +kernel
theorem dX10_isOwnFull_23 : decode cX10_isOwnFull 23 = .ok (.iconst 1, 1) := by decide +kernel
theorem dX10_isOwnFull_24 : decode cX10_isOwnFull 24 = .ok (.ireturn, 1) := by decide +kernel
theorem dX10_isOwnFull_25 : decode cX10_isOwnFull 25 = .ok (.iinc 1 1, 3) := by decide +kernel
theorem dX10_isOwnFull_28 : decode cX10_isOwnFull 28 = .ok (.goto (-26), 3) := by decide +kernel
theorem dX10_isOwnFull_31 : decode cX10_isOwnFull 31 = .ok (.iconst 0, 1) := by decide +kernel
theorem dX10_isOwnFull_32 : decode cX10_isOwnFull 32 = .ok (.ireturn, 1) := by decide +kernel
theorem dX10_isOwn_0 : decode cX10_isOwn 0 = .ok (.iconst 0, 1) := by decide +kernel
theorem dX10_isOwn_1 : decode cX10_isOwn 1 = .ok (.istore_n 2, 1) := by decide +kernel
theorem dX10_isOwn_2 : decode cX10_isOwn 2 = .ok (.iload_n 2, 1) := by decide +kernel
theorem dX10_isOwn_3 : decode cX10_isOwn 3 = .ok (.aload_n 0, 1) := by decide +kernel
theorem dX10_isOwn_4 : decode cX10_isOwn 4 = .ok (.getfield 13, 3) := by decide +kernel
theorem dX10_isOwn_7 : decode cX10_isOwn 7 = .ok (.iconst 0, 1) := by decide +kernel
theorem dX10_isOwn_8 : decode cX10_isOwn 8 = .ok (.iaload, 1) := by decide +kernel
theorem dX10_isOwn_9 : decode cX10_isOwn 9 = .ok (.if_icmp .ge 26, 3) := by decide +kernel
theorem dX10_isOwn_12 : decode cX10_isOwn 12 = .ok (.aload_n 0, 1) := by decide +kernel
theorem dX10_isOwn_13 : decode cX10_isOwn 13 = .ok (.getfield 26, 3) := by decide +kernel
theorem dX10_isOwn_16 : decode cX10_isOwn 16 = .ok (.iload_n 2, 1) := by decide +kernel
theorem dX10_isOwn_17 : decode cX10_isOwn 17 = .ok (.iaload, 1) := by decide +kernel
theorem dX10_isOwn_18 : decode cX10_isOwn 18 = .ok (.aload_n 0, 1) := by decide +kernel
theorem dX10_isOwn_19 : decode cX10_isOwn 19 = .ok (.iload_n 1, 1) := by decide +kernel
theorem dX10_isOwn_20 : decode cX10_isOwn 20 = .ok (.iload_n 2, 1) := by decide +kernel
theorem dX10_isOwn_21 : decode cX10_isOwn 21 = .ok (.invokevirtual 105, 3) := by decide +kernel
theorem dX10_isOwn_24 : decode cX10_isOwn 24 = .ok (.if_icmp .eq 5, 3) := by decide +kernel
theorem dX10_isOwn_27 : decode cX10_isOwn 27 = .ok (.iconst 0, 1) := by decide +kernel
theorem dX10_isOwn_28 : decode cX10_isOwn 28 = .ok (.ireturn, 1) := by decide +kernel
theorem dX10_isOwn_29 : decode cX10_isOwn 29 = .ok (.iinc 2 1, 3) := by decide +kernel
theorem dX10_isOwn_32 : decode cX10_isOwn 32 = .ok (.goto (-30), 3) := by decide +kernel
theorem dX10_isOwn_35 : decode cX10_isOwn 35 = .ok (.iconst 1, 1) := by decide +kernel
theorem dX10_isOwn_36 : decode cX10_isOwn 36 = .ok (.ireturn, 1) := by decide +kernel
theorem dX10_takesOwn_0 : decode cX10_takesOwn 0 = .ok (.aload_n 0, 1) := by decide +kernel
theorem dX10_takesOwn_1 : decode cX10_takesOwn 1 = .ok (.invokevirtual 115, 3) := by decide +kernel
theorem dX10_takesOwn_4 : decode cX10_takesOwn 4 = .ok (.iconst 0, 1) := by decide +kernel
theorem dX10_takesOwn_5 : decode cX10_takesOwn 5 = .ok (.istore_n 2, 1) := by decide +kernel
theorem dX10_takesOwn_6 : decode cX10_takesOwn 6 = .ok (.iload_n 2, 1) := by decide +kernel
theorem dX10_takesOwn_7 : decode cX10_takesOwn 7 = .ok (.aload_n 0, 1) := by decide +kernel
theorem dX10_takesOwn_8 : decode cX10_takesOwn 8 = .ok (.getfield 13, 3) := by decide +kernel
theorem dX10_takesOwn_11 : decode cX10_takesOwn 11 = .ok (.iconst 0, 1) := by decide +kernel
theorem dX10_takesOwn_12 : decode cX10_takesOwn 12 = .ok (.iaload, 1) := by decide +kernel
theorem dX10_takesOwn_13 : decode cX10_takesOwn 13 = .ok (.if_icmp .ge 21, 3) := by decide +kernel
theorem dX10_takesOwn_16 : decode cX10_takesOwn 16 = .ok (.aload_n 0, 1) := by decide +kernel
theorem dX10_takesOwn_17 : decode cX10_takesOwn 17 = .ok (.iload_n 1, 1) := by decide +kernel
theorem dX10_takesOwn_18 : decode cX10_takesOwn 18 = .ok (.iload_n 2, 1) := by decide +kernel
theorem dX10_takesOwn_19 : decode cX10_takesOwn 19 = .ok (.aload_n 0, 1) := by decide +kernel
theorem dX10_takesOwn_20 : decode cX10_takesOwn 20 = .ok (.getfield 26, 3) := by decide +kernel
theorem dX10_takesOwn_23 : decode cX10_takesOwn 23 = .ok (.iload_n 2, 1) := by decide +kernel
theorem dX10_takesOwn_24 : decode cX10_takesOwn 24 = .ok (.iaload, 1) := by decide +kernel
theorem dX10_takesOwn_25 : decode cX10_takesOwn 25 = .ok (.invokevirtual 182, 3) := by decide +kernel
theorem dX10_takesOwn_28 : decode cX10_takesOwn 28 = .ok (.iinc 2 1, 3) := by decide +kernel
theorem dX10_takesOwn_31 : decode cX10_takesOwn 31 = .ok (.goto (-25), 3) := by decide +kernel
theorem dX10_takesOwn_34 : decode cX10_takesOwn 34 = .ok (.aload_n 0, 1) := by decide +kernel
theorem dX10_takesOwn_35 : decode cX10_takesOwn 35 = .ok (.invokevirtual 118, 3) := by decide +kernel
theorem dX10_takesOwn_38 : decode cX10_takesOwn 38 = .ok (.return_, 1) := by decide +kernel
theorem dX10_plain_0 : decode cX10_plain 0 = .ok (.aload_n 0, 1) := by decide +kernel
theorem dX10_plain_1 : decode cX10_plain 1 = .ok (.iload_n 1, 1) := by decide +kernel
theorem dX10_plain_2 : decode cX10_plain 2 = .ok (.invokevirtual 90, 3) := by decide +kernel
theorem dX10_plain_5 : decode cX10_plain 5 = .ok (.ifCond .ne 5, 3) := by decide +kernel
theorem dX10_plain_8 : decode cX10_plain 8 = .ok (.iconst (-1), 1) := by decide +kernel
theorem dX10_plain_9 : decode cX10_plain 9 = .ok (.ireturn, 1) := by decide +kernel
theorem dX10_plain_10 : decode cX10_plain 10 = .ok (.aload_n 0, 1) := by decide +kernel
theorem dX10_plain_11 : decode cX10_plain 11 = .ok (.aload_n 0, 1) := by decide +kernel
theorem dX10_plain_12 : decode cX10_plain 12 = .ok (.iload_n 1, 1) := by decide +kernel
theorem dX10_plain_13 : decode cX10_plain 13 = .ok (.invokevirtual 121, 3) := by decide +kernel
theorem dX10_plain_16 : decode cX10_plain 16 = .ok (.invokevirtual 190, 3) := by decide +kernel
theorem dX10_plain_19 : decode cX10_plain 19 = .ok (.aload_n 0, 1) := by decide +kernel
theorem dX10_plain_20 : decode cX10_plain 20 = .ok (.iload_n 1, 1) := by decide +kernel
theorem dX10_plain_21 : decode cX10_plain 21 = .ok (.invokevirtual 193, 3) := by decide +kernel
theorem dX10_plain_24 : decode cX10_plain 24 = .ok (.ifCond .ne 10, 3) := by decide +kernel
theorem dX10_plain_27 : decode cX10_plain 27 = .ok (.aload_n 0, 1) := by decide +kernel
theorem dX10_plain_28 : decode cX10_plain 28 = .ok (.invokevirtual 196, 3) := by decide +kernel
theorem dX10_plain_31 : decode cX10_plain 31 = .ok (.ifCond .eq 5, 3) := by decide +kernel
theorem dX10_plain_34 : decode cX10_plain 34 = .ok (.iconst (-1), 1) := by decide +kernel
theorem dX10_plain_35 : decode cX10_plain 35 = .ok (.ireturn, 1) := by decide +kernel
theorem dX10_plain_36 : decode cX10_plain 36 = .ok (.aload_n 0, 1) := by decide +kernel
theorem dX10_plain_37 : decode cX10_plain 37 = .ok (.iload_n 1, 1) := by decide +kernel
theorem dX10_plain_38 : decode cX10_plain 38 = .ok (.invokevirtual 199, 3) := by decide +kernel
theorem dX10_plain_41 : decode cX10_plain 41 = .ok (.istore_n 2, 1) := by decide +kernel
theorem dX10_plain_42 : decode cX10_plain 42 = .ok (.aload_n 0, 1) := by decide +kernel
theorem dX10_plain_43 : decode cX10_plain 43 = .ok (.iload_n 1, 1) := by decide +kernel
theorem dX10_plain_44 : decode cX10_plain 44 = .ok (.invokevirtual 202, 3) := by decide +kernel
theorem dX10_plain_47 : decode cX10_plain 47 = .ok (.iload_n 2, 1) := by decide +kernel
theorem dX10_plain_48 : decode cX10_plain 48 = .ok (.aload_n 0, 1) := by decide +kernel
theorem dX10_plain_49 : decode cX10_plain 49 = .ok (.iload_n 1, 1) := by decide +kernel
theorem dX10_plain_50 : decode cX10_plain 50 = .ok (.invokevirtual 199, 3) := by decide +kernel
theorem dX10_plain_53 : decode cX10_plain 53 = .ok (.isub, 1) := by decide +kernel
theorem dX10_plain_54 : decode cX10_plain 54 = .ok (.ireturn, 1) := by decide +kernel
theorem dX10_join_0 : decode cX10_join 0 = .ok (.aload_n 0, 1) := by decide +kernel
theorem dX10_join_1 : decode cX10_join 1 = .ok (.iload_n 1, 1) := by decide +kernel
theorem dX10_join_2 : decode cX10_join 2 = .ok (.invokevirtual 90, 3) := by decide +kernel
theorem dX10_join_5 : decode cX10_join 5 = .ok (.ifCond .eq 24, 3) := by decide +kernel
theorem dX10_join_8 : decode cX10_join 8 = .ok (.aload_n 0, 1) := by decide +kernel
theorem dX10_join_9 : decode cX10_join 9 = .ok (.iload_n 2, 1) := by decide +kernel
theorem dX10_join_10 : decode cX10_join 10 = .ok (.invokevirtual 90, 3) := by decide +kernel
theorem dX10_join_13 : decode cX10_join 13 = .ok (.ifCond .eq 16, 3) := by decide +kernel
theorem dX10_join_16 : decode cX10_join 16 = .ok (.iload_n 1, 1) := by decide +kernel
theorem dX10_join_17 : decode cX10_join 17 = .ok (.iload_n 2, 1) := by decide +kernel
theorem dX10_join_18 : decode cX10_join 18 = .ok (.if_icmp .eq 11, 3) := by decide +kernel
theorem dX10_join_21 : decode cX10_join 21 = .ok (.aload_n 0, 1) := by decide +kernel
theorem dX10_join_22 : decode cX10_join 22 = .ok (.iload_n 1, 1) := by decide +kernel
theorem dX10_join_23 : decode cX10_join 23 = .ok (.invokevirtual 199, 3) := by decide +kernel
theorem dX10_join_26 : decode cX10_join 26 = .ok (.ifCond .ne 5, 3) := by decide +kernel
theorem dX10_join_29 : decode cX10_join 29 = .ok (.iconst (-1), 1) := by decide +kernel
theorem dX10_join_30 : decode cX10_join 30 = .ok (.ireturn, 1) := by decide +kernel
theorem dX10_join_31 : decode cX10_join 31 = .ok (.iconst 0, 1) := by decide +kernel
theorem dX10_join_32 : decode cX10_join 32 = .ok (.istore_n 3, 1) := by decide +kernel
theorem dX10_join_33 : decode cX10_join 33 = .ok (.iload_n 3, 1) := by decide +kernel
theorem dX10_join_34 : decode cX10_join 34 = .ok (.aload_n 0, 1) := by decide +kernel
theorem dX10_join_35 : decode cX10_join 35 = .ok (.getfield 13, 3) := by decide +kernel
theorem dX10_join_38 : decode cX10_join 38 = .ok (.iconst 0, 1) := by decide +kernel
theorem dX10_join_39 : decode cX10_join 39 = .ok (.iaload, 1) := by decide +kernel
theorem dX10_join_40 : decode cX10_join 40 = .ok (.if_icmp .ge 28, 3) := by decide +kernel
theorem dX10_join_43 : decode cX10_join 43 = .ok (.aload_n 0, 1) := by decide +kernel
