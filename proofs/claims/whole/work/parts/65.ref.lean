theorem dF_init_0 : decode cF_init 0 = .ok (.aload_n 0, 1) := by decide +kernel
theorem dF_init_1 : decode cF_init 1 = .ok (.invokespecial 1, 3) := by decide +kernel
theorem dF_init_4 : decode cF_init 4 = .ok (.aload_n 0, 1) := by decide +kernel
theorem dF_init_5 : decode cF_init 5 = .ok (.sipush 4000, 3) := by decide +kernel
theorem dF_init_8 : decode cF_init 8 = .ok (.newarray .int, 2) := by decide +kernel
theorem dF_init_10 : decode cF_init 10 = .ok (.putfield 7, 3) := by decide +kernel
theorem dF_init_13 : decode cF_init 13 = .ok (.aload_n 0, 1) := by decide +kernel
theorem dF_init_14 : decode cF_init 14 = .ok (.ldc 13, 2) := by decide +kernel
theorem dF_init_16 : decode cF_init 16 = .ok (.newarray .int, 2) := by decide +kernel
theorem dF_init_18 : decode cF_init 18 = .ok (.putfield 14, 3) := by decide +kernel
theorem dF_init_21 : decode cF_init 21 = .ok (.aload_n 0, 1) := by decide +kernel
theorem dF_init_22 : decode cF_init 22 = .ok (.iconst 4, 1) := by decide +kernel
theorem dF_init_23 : decode cF_init 23 = .ok (.newarray .int, 2) := by decide +kernel
theorem dF_init_25 : decode cF_init 25 = .ok (.putfield 17, 3) := by decide +kernel
theorem dF_init_28 : decode cF_init 28 = .ok (.aload_n 0, 1) := by decide +kernel
theorem dF_init_29 : decode cF_init 29 = .ok (.bipush 10, 2) := by decide +kernel
theorem dF_init_31 : decode cF_init 31 = .ok (.newarray .long, 2) := by decide +kernel
theorem dF_init_33 : decode cF_init 33 = .ok (.putfield 20, 3) := by decide +kernel
theorem dF_init_36 : decode cF_init 36 = .ok (.aload_n 0, 1) := by decide +kernel
theorem dF_init_37 : decode cF_init 37 = .ok (.bipush 10, 2) := by decide +kernel
theorem dF_init_39 : decode cF_init 39 = .ok (.newarray .boolean, 2) := by decide +kernel
theorem dF_init_41 : decode cF_init 41 = .ok (.putfield 24, 3) := by decide +kernel
theorem dF_init_44 : decode cF_init 44 = .ok (.aload_n 0, 1) := by decide +kernel
theorem dF_init_45 : decode cF_init 45 = .ok (.bipush 10, 2) := by decide +kernel
theorem dF_init_47 : decode cF_init 47 = .ok (.newarray .int, 2) := by decide +kernel
theorem dF_init_49 : decode cF_init 49 = .ok (.putfield 28, 3) := by decide +kernel
theorem dF_init_52 : decode cF_init 52 = .ok (.aload_n 0, 1) := by decide +kernel
theorem dF_init_53 : decode cF_init 53 = .ok (.bipush 10, 2) := by decide +kernel
theorem dF_init_55 : decode cF_init 55 = .ok (.newarray .int, 2) := by decide +kernel
theorem dF_init_57 : decode cF_init 57 = .ok (.putfield 31, 3) := by decide +kernel
theorem dF_init_60 : decode cF_init 60 = .ok (.aload_n 0, 1) := by decide +kernel
theorem dF_init_61 : decode cF_init 61 = .ok (.sipush 1000, 3) := by decide +kernel
theorem dF_init_64 : decode cF_init 64 = .ok (.newarray .int, 2) := by decide +kernel
theorem dF_init_66 : decode cF_init 66 = .ok (.putfield 34, 3) := by decide +kernel
theorem dF_init_69 : decode cF_init 69 = .ok (.aload_n 0, 1) := by decide +kernel
theorem dF_init_70 : decode cF_init 70 = .ok (.sipush 8000, 3) := by decide +kernel
theorem dF_init_73 : decode cF_init 73 = .ok (.newarray .int, 2) := by decide +kernel
theorem dF_init_75 : decode cF_init 75 = .ok (.putfield 37, 3) := by decide +kernel
theorem dF_init_78 : decode cF_init 78 = .ok (.aload_n 0, 1) := by decide +kernel
theorem dF_init_79 : decode cF_init 79 = .ok (.iconst 3, 1) := by decide +kernel
theorem dF_init_80 : decode cF_init 80 = .ok (.newarray .int, 2) := by decide +kernel
theorem dF_init_82 : decode cF_init 82 = .ok (.putfield 40, 3) := by decide +kernel
theorem dF_init_85 : decode cF_init 85 = .ok (.aload_n 0, 1) := by decide +kernel
theorem dF_init_86 : decode cF_init 86 = .ok (.sipush 900, 3) := by decide +kernel
theorem dF_init_89 : decode cF_init 89 = .ok (.newarray .int, 2) := by decide +kernel
theorem dF_init_91 : decode cF_init 91 = .ok (.putfield 43, 3) := by decide +kernel
theorem dF_init_94 : decode cF_init 94 = .ok (.aload_n 0, 1) := by decide +kernel
theorem dF_init_95 : decode cF_init 95 = .ok (.ldc 46, 2) := by decide +kernel
theorem dF_init_97 : decode cF_init 97 = .ok (.newarray .byte, 2) := by decide +kernel
theorem dF_init_99 : decode cF_init 99 = .ok (.putfield 47, 3) := by decide +kernel
theorem dF_init_102 : decode cF_init 102 = .ok (.aload_n 0, 1) := by decide +kernel
theorem dF_init_103 : decode cF_init 103 = .ok (.sipush 400, 3) := by decide +kernel
theorem dF_init_106 : decode cF_init 106 = .ok (.newarray .int, 2) := by decide +kernel
theorem dF_init_108 : decode cF_init 108 = .ok (.putfield 51, 3) := by decide +kernel
theorem dF_init_111 : decode cF_init 111 = .ok (.aload_n 0, 1) := by decide +kernel
theorem dF_init_112 : decode cF_init 112 = .ok (.bipush 56, 2) := by decide +kernel
theorem dF_init_114 : decode cF_init 114 = .ok (.newarray .int, 2) := by decide +kernel
theorem dF_init_116 : decode cF_init 116 = .ok (.dup, 1) := by decide +kernel
theorem dF_init_117 : decode cF_init 117 = .ok (.iconst 0, 1) := by decide +kernel
theorem dF_init_118 : decode cF_init 118 = .ok (.bipush 32, 2) := by decide +kernel
theorem dF_init_120 : decode cF_init 120 = .ok (.iastore, 1) := by decide +kernel
theorem dF_init_121 : decode cF_init 121 = .ok (.dup, 1) := by decide +kernel
theorem dF_init_122 : decode cF_init 122 = .ok (.iconst 1, 1) := by decide +kernel
theorem dF_init_123 : decode cF_init 123 = .ok (.bipush 65, 2) := by decide +kernel
theorem dF_init_125 : decode cF_init 125 = .ok (.iastore, 1) := by decide +kernel
theorem dF_init_126 : decode cF_init 126 = .ok (.dup, 1) := by decide +kernel
theorem dF_init_127 : decode cF_init 127 = .ok (.iconst 2, 1) := by decide +kernel
theorem dF_init_128 : decode cF_init 128 = .ok (.bipush 66, 2) := by decide +kernel
theorem dF_init_130 : decode cF_init 130 = .ok (.iastore, 1) := by decide +kernel
theorem dF_init_131 : decode cF_init 131 = .ok (.dup, 1) := by decide +kernel
theorem dF_init_132 : decode cF_init 132 = .ok (.iconst 3, 1) := by decide +kernel
theorem dF_init_133 : decode cF_init 133 = .ok (.bipush 67, 2) := by decide +kernel
theorem dF_init_135 : decode cF_init 135 = .ok (.iastore, 1) := by decide +kernel
theorem dF_init_136 : decode cF_init 136 = .ok (.dup, 1) := by decide +kernel
theorem dF_init_137 : decode cF_init 137 = .ok (.iconst 4, 1) := by decide +kernel
theorem dF_init_138 : decode cF_init 138 = .ok (.bipush 68, 2) := by decide +kernel
theorem dF_init_140 : decode cF_init 140 = .ok (.iastore, 1) := by decide +kernel
theorem dF_init_141 : decode cF_init 141 = .ok (.dup, 1) := by decide +kernel
theorem dF_init_142 : decode cF_init 142 = .ok (.iconst 5, 1) := by decide +kernel
theorem dF_init_143 : decode cF_init 143 = .ok (.bipush 69, 2) := by decide +kernel
theorem dF_init_145 : decode cF_init 145 = .ok (.iastore, 1) := by decide +kernel
theorem dF_init_146 : decode cF_init 146 = .ok (.dup, 1) := by decide +kernel
theorem dF_init_147 : decode cF_init 147 = .ok (.bipush 6, 2) := by decide +kernel
theorem dF_init_149 : decode cF_init 149 = .ok (.bipush 70, 2) := by decide +kernel
theorem dF_init_151 : decode cF_init 151 = .ok (.iastore, 1) := by decide +kernel
theorem dF_init_152 : decode cF_init 152 = .ok (.dup, 1) := by decide +kernel
theorem dF_init_153 : decode cF_init 153 = .ok (.bipush 7, 2) := by decide +kernel
theorem dF_init_155 : decode cF_init 155 = .ok (.bipush 71, 2) := by decide +kernel
theorem dF_init_157 : decode cF_init 157 = .ok (.iastore, 1) := by decide +kernel
theorem dF_init_158 : decode cF_init 158 = .ok (.dup, 1) := by decide +kernel
theorem dF_init_159 : decode cF_init 159 = .ok (.bipush 8, 2) := by decide +kernel
theorem dF_init_161 : decode cF_init 161 = .ok (.bipush 72, 2) := by decide +kernel
theorem dF_init_163 : decode cF_init 163 = .ok (.iastore, 1) := by decide +kernel
theorem dF_init_164 : decode cF_init 164 = .ok (.dup, 1) := by decide +kernel
theorem dF_init_165 : decode cF_init 165 = .ok (.bipush 9, 2) := by decide +kernel
theorem dF_init_167 : decode cF_init 167 = .ok (.bipush 73, 2) := by decide +kernel
theorem dF_init_169 : decode cF_init 169 = .ok (.iastore, 1) := by decide +kernel
theorem dF_init_170 : decode cF_init 170 = .ok (.dup, 1) := by decide +kernel
theorem dF_init_171 : decode cF_init 171 = .ok (.bipush 10, 2) := by decide +kernel
theorem dF_init_173 : decode cF_init 173 = .ok (.bipush 126, 2) := by decide +kernel
theorem dF_init_175 : decode cF_init 175 = .ok (.iastore, 1) := by decide +kernel
theorem dF_init_176 : decode cF_init 176 = .ok (.dup, 1) := by decide +kernel
theorem dF_init_177 : decode cF_init 177 = .ok (.bipush 11, 2) := by decide +kernel
theorem dF_init_179 : decode cF_init 179 = .ok (.bipush 74, 2) := by decide +kernel
theorem dF_init_181 : decode cF_init 181 = .ok (.iastore, 1) := by decide +kernel
theorem dF_init_182 : decode cF_init 182 = .ok (.dup, 1) := by decide +kernel
theorem dF_init_183 : decode cF_init 183 = .ok (.bipush 12, 2) := by decide +kernel
theorem dF_init_185 : decode cF_init 185 = .ok (.bipush 75, 2) := by decide +kernel
theorem dF_init_187 : decode cF_init 187 = .ok (.iastore, 1) := by decide +kernel
theorem dF_init_188 : decode cF_init 188 = .ok (.dup, 1) := by decide +kernel
theorem dF_init_189 : decode cF_init 189 = .ok (.bipush 13, 2) := by decide +kernel
theorem dF_init_191 : decode cF_init 191 = .ok (.bipush 76, 2) := by decide +kernel
theorem dF_init_193 : decode cF_init 193 = .ok (.iastore, 1) := by decide +kernel
theorem dF_init_194 : decode cF_init 194 = .ok (.dup, 1) := by decide +kernel
theorem dF_init_195 : decode cF_init 195 = .ok (.bipush 14, 2) := by decide +kernel
theorem dF_init_197 : decode cF_init 197 = .ok (.bipush 77, 2) := by decide +kernel
theorem dF_init_199 : decode cF_init 199 = .ok (.iastore, 1) := by decide +kernel
theorem dF_init_200 : decode cF_init 200 = .ok (.dup, 1) := by decide +kernel
theorem dF_init_201 : decode cF_init 201 = .ok (.bipush 15, 2) := by decide +kernel
theorem dF_init_203 : decode cF_init 203 = .ok (.bipush 78, 2) := by decide +kernel
theorem dF_init_205 : decode cF_init 205 = .ok (.iastore, 1) := by decide +kernel
theorem dF_init_206 : decode cF_init 206 = .ok (.dup, 1) := by decide +kernel
theorem dF_init_207 : decode cF_init 207 = .ok (.bipush 16, 2) := by decide +kernel
theorem dF_init_209 : decode cF_init 209 = .ok (.bipush 79, 2) := by decide +kernel
theorem dF_init_211 : decode cF_init 211 = .ok (.iastore, 1) := by decide +kernel
theorem dF_init_212 : decode cF_init 212 = .ok (.dup, 1) := by decide +kernel
theorem dF_init_213 : decode cF_init 213 = .ok (.bipush 17, 2) := by decide +kernel
theorem dF_init_215 : decode cF_init 215 = .ok (.bipush 80, 2) := by decide +kernel
theorem dF_init_217 : decode cF_init 217 = .ok (.iastore, 1) := by decide +kernel
theorem dF_init_218 : decode cF_init 218 = .ok (.dup, 1) := by decide +kernel
theorem dF_init_219 : decode cF_init 219 = .ok (.bipush 18, 2) := by decide +kernel
theorem dF_init_221 : decode cF_init 221 = .ok (.bipush 81, 2) := by decide +kernel
theorem dF_init_223 : decode cF_init 223 = .ok (.iastore, 1) := by decide +kernel
theorem dF_init_224 : decode cF_init 224 = .ok (.dup, 1) := by decide +kernel
theorem dF_init_225 : decode cF_init 225 = .ok (.bipush 19, 2) := by decide +kernel
theorem dF_init_227 : decode cF_init 227 = .ok (.bipush 82, 2) := by decide +kernel
theorem dF_init_229 : decode cF_init 229 = .ok (.iastore, 1) := by decide +kernel
theorem dF_init_230 : decode cF_init 230 = .ok (.dup, 1) := by decide +kernel
theorem dF_init_231 : decode cF_init 231 = .ok (.bipush 20, 2) := by decide +kernel
theorem dF_init_233 : decode cF_init 233 = .ok (.bipush 91, 2) := by decide +kernel
theorem dF_init_235 : decode cF_init 235 = .ok (.iastore, 1) := by decide +kernel
theorem dF_init_236 : decode cF_init 236 = .ok (.dup, 1) := by decide +kernel
theorem dF_init_237 : decode cF_init 237 = .ok (.bipush 21, 2) := by decide +kernel
theorem dF_init_239 : decode cF_init 239 = .ok (.bipush 35, 2) := by decide +kernel
theorem dF_init_241 : decode cF_init 241 = .ok (.iastore, 1) := by decide +kernel
theorem dF_init_242 : decode cF_init 242 = .ok (.dup, 1) := by decide +kernel
theorem dF_init_243 : decode cF_init 243 = .ok (.bipush 22, 2) := by decide +kernel
theorem dF_init_245 : decode cF_init 245 = .ok (.bipush 83, 2) := by decide +kernel
theorem dF_init_247 : decode cF_init 247 = .ok (.iastore, 1) := by decide +kernel
theorem dF_init_248 : decode cF_init 248 = .ok (.dup, 1) := by decide +kernel
theorem dF_init_249 : decode cF_init 249 = .ok (.bipush 23, 2) := by decide +kernel
theorem dF_init_251 : decode cF_init 251 = .ok (.bipush 84, 2) := by decide +kernel
theorem dF_init_253 : decode cF_init 253 = .ok (.iastore, 1) := by decide +kernel
theorem dF_init_254 : decode cF_init 254 = .ok (.dup, 1) := by decide +kernel
theorem dF_init_255 : decode cF_init 255 = .ok (.bipush 24, 2) := by decide +kernel
theorem dF_init_257 : decode cF_init 257 = .ok (.bipush 85, 2) := by decide +kernel
theorem dF_init_259 : decode cF_init 259 = .ok (.iastore, 1) := by decide +kernel
theorem dF_init_260 : decode cF_init 260 = .ok (.dup, 1) := by decide +kernel
theorem dF_init_261 : decode cF_init 261 = .ok (.bipush 25, 2) := by decide +kernel
theorem dF_init_263 : decode cF_init 263 = .ok (.bipush 86, 2) := by decide +kernel
theorem dF_init_265 : decode cF_init 265 = .ok (.iastore, 1) := by decide +kernel
theorem dF_init_266 : decode cF_init 266 = .ok (.dup, 1) := by decide +kernel
theorem dF_init_267 : decode cF_init 267 = .ok (.bipush 26, 2) := by decide +kernel
theorem dF_init_269 : decode cF_init 269 = .ok (.bipush 87, 2) := by decide +kernel
theorem dF_init_271 : decode cF_init 271 = .ok (.iastore, 1) := by decide +kernel
theorem dF_init_272 : decode cF_init 272 = .ok (.dup, 1) := by decide +kernel
theorem dF_init_273 : decode cF_init 273 = .ok (.bipush 27, 2) := by decide +kernel
theorem dF_init_275 : decode cF_init 275 = .ok (.bipush 88, 2) := by decide +kernel
theorem dF_init_277 : decode cF_init 277 = .ok (.iastore, 1) := by decide +kernel
theorem dF_init_278 : decode cF_init 278 = .ok (.dup, 1) := by decide +kernel
theorem dF_init_279 : decode cF_init 279 = .ok (.bipush 28, 2) := by decide +kernel
theorem dF_init_281 : decode cF_init 281 = .ok (.bipush 89, 2) := by decide +kernel
theorem dF_init_283 : decode cF_init 283 = .ok (.iastore, 1) := by decide +kernel
theorem dF_init_284 : decode cF_init 284 = .ok (.dup, 1) := by decide +kernel
theorem dF_init_285 : decode cF_init 285 = .ok (.bipush 29, 2) := by decide +kernel
theorem dF_init_287 : decode cF_init 287 = .ok (.bipush 90, 2) := by decide +kernel
theorem dF_init_289 : decode cF_init 289 = .ok (.iastore, 1) := by decide +kernel
theorem dF_init_290 : decode cF_init 290 = .ok (.dup, 1) := by decide +kernel
theorem dF_init_291 : decode cF_init 291 = .ok (.bipush 30, 2) := by decide +kernel
theorem dF_init_293 : decode cF_init 293 = .ok (.bipush 48, 2) := by decide +kernel
theorem dF_init_295 : decode cF_init 295 = .ok (.iastore, 1) := by decide +kernel
theorem dF_init_296 : decode cF_init 296 = .ok (.dup, 1) := by decide +kernel
theorem dF_init_297 : decode cF_init 297 = .ok (.bipush 31, 2) := by decide +kernel
theorem dF_init_299 : decode cF_init 299 = .ok (.bipush 49, 2) := by decide +kernel
theorem dF_init_301 : decode cF_init 301 = .ok (.iastore, 1) := by decide +kernel
theorem dF_init_302 : decode cF_init 302 = .ok (.dup, 1) := by decide +kernel
theorem dF_init_303 : decode cF_init 303 = .ok (.bipush 32, 2) := by decide +kernel
theorem dF_init_305 : decode cF_init 305 = .ok (.bipush 50, 2) := by decide +kernel
theorem dF_init_307 : decode cF_init 307 = .ok (.iastore, 1) := by decide +kernel
theorem dF_init_308 : decode cF_init 308 = .ok (.dup, 1) := by decide +kernel
theorem dF_init_309 : decode cF_init 309 = .ok (.bipush 33, 2) := by decide +kernel
theorem dF_init_311 : decode cF_init 311 = .ok (.bipush 51, 2) := by decide +kernel
theorem dF_init_313 : decode cF_init 313 = .ok (.iastore, 1) := by decide +kernel
theorem dF_init_314 : decode cF_init 314 = .ok (.dup, 1) := by decide +kernel
theorem dF_init_315 : decode cF_init 315 = .ok (.bipush 34, 2) := by decide +kernel
theorem dF_init_317 : decode cF_init 317 = .ok (.bipush 52, 2) := by decide +kernel
theorem dF_init_319 : decode cF_init 319 = .ok (.iastore, 1) := by decide +kernel
theorem dF_init_320 : decode cF_init 320 = .ok (.dup, 1) := by decide +kernel
theorem dF_init_321 : decode cF_init 321 = .ok (.bipush 35, 2) := by decide +kernel
theorem dF_init_323 : decode cF_init 323 = .ok (.bipush 53, 2) := by decide +kernel
theorem dF_init_325 : decode cF_init 325 = .ok (.iastore, 1) := by decide +kernel
theorem dF_init_326 : decode cF_init 326 = .ok (.dup, 1) := by decide +kernel
theorem dF_init_327 : decode cF_init 327 = .ok (.bipush 36, 2) := by decide +kernel
theorem dF_init_329 : decode cF_init 329 = .ok (.bipush 54, 2) := by decide +kernel
theorem dF_init_331 : decode cF_init 331 = .ok (.iastore, 1) := by decide +kernel
theorem dF_init_332 : decode cF_init 332 = .ok (.dup, 1) := by decide +kernel
theorem dF_init_333 : decode cF_init 333 = .ok (.bipush 37, 2) := by decide +kernel
theorem dF_init_335 : decode cF_init 335 = .ok (.bipush 55, 2) := by decide +kernel
theorem dF_init_337 : decode cF_init 337 = .ok (.iastore, 1) := by decide +kernel
theorem dF_init_338 : decode cF_init 338 = .ok (.dup, 1) := by decide +kernel
theorem dF_init_339 : decode cF_init 339 = .ok (.bipush 38, 2) := by decide +kernel
theorem dF_init_341 : decode cF_init 341 = .ok (.bipush 56, 2) := by decide +kernel
theorem dF_init_343 : decode cF_init 343 = .ok (.iastore, 1) := by decide +kernel
theorem dF_init_344 : decode cF_init 344 = .ok (.dup, 1) := by decide +kernel
theorem dF_init_345 : decode cF_init 345 = .ok (.bipush 39, 2) := by decide +kernel
theorem dF_init_347 : decode cF_init 347 = .ok (.bipush 57, 2) := by decide +kernel
theorem dF_init_349 : decode cF_init 349 = .ok (.iastore, 1) := by decide +kernel
theorem dF_init_350 : decode cF_init 350 = .ok (.dup, 1) := by decide +kernel
theorem dF_init_351 : decode cF_init 351 = .ok (.bipush 40, 2) := by decide +kernel
theorem dF_init_353 : decode cF_init 353 = .ok (.bipush 46, 2) := by decide +kernel
theorem dF_init_355 : decode cF_init 355 = .ok (.iastore, 1) := by decide +kernel
theorem dF_init_356 : decode cF_init 356 = .ok (.dup, 1) := by decide +kernel
theorem dF_init_357 : decode cF_init 357 = .ok (.bipush 41, 2) := by decide +kernel
theorem dF_init_359 : decode cF_init 359 = .ok (.bipush 44, 2) := by decide +kernel
theorem dF_init_361 : decode cF_init 361 = .ok (.iastore, 1) := by decide +kernel
theorem dF_init_362 : decode cF_init 362 = .ok (.dup, 1) := by decide +kernel
theorem dF_init_363 : decode cF_init 363 = .ok (.bipush 42, 2) := by decide +kernel
theorem dF_init_365 : decode cF_init 365 = .ok (.bipush 40, 2) := by decide +kernel
theorem dF_init_367 : decode cF_init 367 = .ok (.iastore, 1) := by decide +kernel
theorem dF_init_368 : decode cF_init 368 = .ok (.dup, 1) := by decide +kernel
theorem dF_init_369 : decode cF_init 369 = .ok (.bipush 43, 2) := by decide +kernel
theorem dF_init_371 : decode cF_init 371 = .ok (.bipush 41, 2) := by decide +kernel
theorem dF_init_373 : decode cF_init 373 = .ok (.iastore, 1) := by decide +kernel
theorem dF_init_374 : decode cF_init 374 = .ok (.dup, 1) := by decide +kernel
theorem dF_init_375 : decode cF_init 375 = .ok (.bipush 44, 2) := by decide +kernel
theorem dF_init_377 : decode cF_init 377 = .ok (.bipush 43, 2) := by decide +kernel
theorem dF_init_379 : decode cF_init 379 = .ok (.iastore, 1) := by decide +kernel
theorem dF_init_380 : decode cF_init 380 = .ok (.dup, 1) := by decide +kernel
theorem dF_init_381 : decode cF_init 381 = .ok (.bipush 45, 2) := by decide +kernel
theorem dF_init_383 : decode cF_init 383 = .ok (.bipush 45, 2) := by decide +kernel
theorem dF_init_385 : decode cF_init 385 = .ok (.iastore, 1) := by decide +kernel
theorem dF_init_386 : decode cF_init 386 = .ok (.dup, 1) := by decide +kernel
theorem dF_init_387 : decode cF_init 387 = .ok (.bipush 46, 2) := by decide +kernel
theorem dF_init_389 : decode cF_init 389 = .ok (.bipush 42, 2) := by decide +kernel
theorem dF_init_391 : decode cF_init 391 = .ok (.iastore, 1) := by decide +kernel
theorem dF_init_392 : decode cF_init 392 = .ok (.dup, 1) := by decide +kernel
theorem dF_init_393 : decode cF_init 393 = .ok (.bipush 47, 2) := by decide +kernel
theorem dF_init_395 : decode cF_init 395 = .ok (.bipush 47, 2) := by decide +kernel
theorem dF_init_397 : decode cF_init 397 = .ok (.iastore, 1) := by decide +kernel
theorem dF_init_398 : decode cF_init 398 = .ok (.dup, 1) := by decide +kernel
theorem dF_init_399 : decode cF_init 399 = .ok (.bipush 48, 2) := by decide +kernel
theorem dF_init_401 : decode cF_init 401 = .ok (.bipush 61, 2) := by decide +kernel
theorem dF_init_403 : decode cF_init 403 = .ok (.iastore, 1) := by decide +kernel
theorem dF_init_404 : decode cF_init 404 = .ok (.dup, 1) := by decide +kernel
theorem dF_init_405 : decode cF_init 405 = .ok (.bipush 49, 2) := by decide +kernel
theorem dF_init_407 : decode cF_init 407 = .ok (.bipush 36, 2) := by decide +kernel
theorem dF_init_409 : decode cF_init 409 = .ok (.iastore, 1) := by decide +kernel
theorem dF_init_410 : decode cF_init 410 = .ok (.dup, 1) := by decide +kernel
theorem dF_init_411 : decode cF_init 411 = .ok (.bipush 50, 2) := by decide +kernel
theorem dF_init_413 : decode cF_init 413 = .ok (.bipush 60, 2) := by decide +kernel
theorem dF_init_415 : decode cF_init 415 = .ok (.iastore, 1) := by decide +kernel
theorem dF_init_416 : decode cF_init 416 = .ok (.dup, 1) := by decide +kernel
theorem dF_init_417 : decode cF_init 417 = .ok (.bipush 51, 2) := by decide +kernel
theorem dF_init_419 : decode cF_init 419 = .ok (.bipush 62, 2) := by decide +kernel
theorem dF_init_421 : decode cF_init 421 = .ok (.iastore, 1) := by decide +kernel
theorem dF_init_422 : decode cF_init 422 = .ok (.dup, 1) := by decide +kernel
theorem dF_init_423 : decode cF_init 423 = .ok (.bipush 52, 2) := by decide +kernel
theorem dF_init_425 : decode cF_init 425 = .ok (.bipush 64, 2) := by decide +kernel
theorem dF_init_427 : decode cF_init 427 = .ok (.iastore, 1) := by decide +kernel
theorem dF_init_428 : decode cF_init 428 = .ok (.dup, 1) := by decide +kernel
theorem dF_init_429 : decode cF_init 429 = .ok (.bipush 53, 2) := by decide +kernel
theorem dF_init_431 : decode cF_init 431 = .ok (.bipush 59, 2) := by decide +kernel
theorem dF_init_433 : decode cF_init 433 = .ok (.iastore, 1) := by decide +kernel
theorem dF_init_434 : decode cF_init 434 = .ok (.dup, 1) := by decide +kernel
theorem dF_init_435 : decode cF_init 435 = .ok (.bipush 54, 2) := by decide +kernel
theorem dF_init_437 : decode cF_init 437 = .ok (.bipush 58, 2) := by decide +kernel
theorem dF_init_439 : decode cF_init 439 = .ok (.iastore, 1) := by decide +kernel
theorem dF_init_440 : decode cF_init 440 = .ok (.dup, 1) := by decide +kernel
theorem dF_init_441 : decode cF_init 441 = .ok (.bipush 55, 2) := by decide +kernel
theorem dF_init_443 : decode cF_init 443 = .ok (.bipush 39, 2) := by decide +kernel
theorem dF_init_445 : decode cF_init 445 = .ok (.iastore, 1) := by decide +kernel
theorem dF_init_446 : decode cF_init 446 = .ok (.putfield 54, 3) := by decide +kernel
theorem dF_init_449 : decode cF_init 449 = .ok (.return_, 1) := by decide +kernel
abbrev rmkF_init : Room := { frames := 1, cells := 14, slots := 160803, locals := 20 }
set_option maxHeartbeats 4000000 in
set_option maxRecDepth 100000 in
theorem kF_init (l : Launch) (D : va_G) (E : ur_Ev) (h : ur_M) (q : Nat) (f0 : h q = some (.inr (7, [.null, .null, .null, .long 0, .null, .null, .null, .null, .int 0, .null, .int 0, .null, .null, .null, .null, .null, .int 0, .null])))  : ur_Mv l yF_init wsF_init rmkF_init D vwCl (ur_v E) [.ref q] h (fun h2 => ∃ b : Nat → Nat, b 0 = q ∧ fo_R E b fo_T0 h2) 14 160803 := by
  intro sz
  refine ur_of (cc := cF_init) (maxL := 1) (ret := none) (by decide) rfl (Nat.le_of_ble_eq_true rfl) ?_
  intro p e s m args below meth c ls Q hsz hx hb hml hr hlocks hnm hown hts hO hK hI hQ hl
  subst hsz
  have hV := hK.1
  have hts : ∀ w ∈ ur_G, w.before args s = true := fun w hw => hts w (List.mem_cons_of_mem _ hw)
  have hZ : ur_Z E (ur_A h s.heap.size) s s.heap := hO.1
  have hown : s.vm.findClass "UnitRoomModel" = some m.cls := hown
  have hin : meth.name = "<init>" := hnm
  have hl : lv_has ls 1 [(0, .ref q)] := hl
  have hL := um_L.one f0
  refine lv_aload_n hx hb dF_init_0 rfl (lv_at hl 0 rfl) ?_
  refine W.objInit hx hb hown (hts _ mw574) (hts _ mw24) (hts _ mw25) rfl (hl.1.trans hml.symm) rfl dF_init_1 (Nat.le_of_ble_eq_true rfl) (Nat.le_of_ble_eq_true rfl) ?_
  show W _ _ _ _ _ _ _ _ _ _ _ _ _ _ _ (F0 m 4 ls [])
  refine lv_aload_n hx hb dF_init_4 rfl (lv_at hl 0 rfl) ?_
  refine lv_sipush (v := 4000) hx hb dF_init_5 (by decide) ?_
  refine ur_newa (atype := .int) (a0 := (4000, (.inl (fun _ => 0)))) hx hb (hts _ mw36) rfl 0 hV rfl rfl hI (n := 4000) (N' := 4000) (fun _ => by rfl) (by decide) rfl (by decide) (Nat.le_of_ble_eq_true rfl) (Nat.le_of_ble_eq_true rfl) dF_init_8 (fun w1 H zw1 hI => ?_)
  obtain ⟨h2, eh2⟩ : ∃ z : ur_M, z = va_up h w1 (some (.inl (E.1 0, 4000, .inl (fun _ => 0)))) := ⟨_, rfl⟩
  replace hI : ur_I D vwCl (ur_A h s.heap.size) s.heap h2 H [] := by rw [eh2]; exact hI
  replace hL : um_L [(q, .inr (7, [.null, .null, .null, .long 0, .null, .null, .null, .null, .int 0, .null, .int 0, .null, .null, .null, .null, .null, .int 0, .null])), (w1, .inl (E.1 0, 4000, .inl (fun _ => 0)))] h2 := by rw [eh2]; exact um_L.new hL zw1 _
  refine ur_putF (D := D) (ci := 7) (v := .ref w1) (ty := (.array .int)) (C := "UnitRoomModel") (T := TF) (N := 18) hx hb hts inF tyF tyF_ok nmF hown hV hI (um_L.at hL 0 rfl) rfl 0 (by decide) (hts _ mw577) (fun _ h9 => h9) rfl hin rfl (by decide +kernel) rfl rfl (Nat.le_of_ble_eq_true rfl) dF_init_10 (fun H locs hI => ?_)
  obtain ⟨h3, eh3⟩ : ∃ z : ur_M, z = va_up h2 q (some (.inr (7, [.ref w1, .null, .null, .long 0, .null, .null, .null, .null, .int 0, .null, .int 0, .null, .null, .null, .null, .null, .int 0, .null]))) := ⟨_, rfl⟩
  replace hI : ur_I D vwCl (ur_A h s.heap.size) s.heap h3 H locs := by rw [eh3]; exact hI
  replace hL : um_L [(q, .inr (7, [.ref w1, .null, .null, .long 0, .null, .null, .null, .null, .int 0, .null, .int 0, .null, .null, .null, .null, .null, .int 0, .null])), (w1, .inl (E.1 0, 4000, .inl (fun _ => 0)))] h3 := by rw [eh3]; exact um_L.put hL 0 rfl _
  refine lv_aload_n hx hb dF_init_13 rfl (lv_at hl 0 rfl) ?_
  refine lv_ldc (v := 38400) hx hb hown (hts _ mw575) dF_init_14 ?_
  refine ur_newa (atype := .int) (a0 := (38400, (.inl (fun _ => 0)))) hx hb (hts _ mw36) rfl 0 hV rfl rfl hI (n := 38400) (N' := 38400) (fun _ => by rfl) (by decide) rfl (by decide) (Nat.le_of_ble_eq_true rfl) (Nat.le_of_ble_eq_true rfl) dF_init_16 (fun w4 H zw4 hI => ?_)
  obtain ⟨h5, eh5⟩ : ∃ z : ur_M, z = va_up h3 w4 (some (.inl (E.1 0, 38400, .inl (fun _ => 0)))) := ⟨_, rfl⟩
  replace hI : ur_I D vwCl (ur_A h s.heap.size) s.heap h5 H locs := by rw [eh5]; exact hI
  replace hL : um_L [(q, .inr (7, [.ref w1, .null, .null, .long 0, .null, .null, .null, .null, .int 0, .null, .int 0, .null, .null, .null, .null, .null, .int 0, .null])), (w1, .inl (E.1 0, 4000, .inl (fun _ => 0))), (w4, .inl (E.1 0, 38400, .inl (fun _ => 0)))] h5 := by rw [eh5]; exact um_L.new hL zw4 _
  refine ur_putF (D := D) (ci := 7) (v := .ref w4) (ty := (.array .int)) (C := "UnitRoomModel") (T := TF) (N := 18) hx hb hts inF tyF tyF_ok nmF hown hV hI (um_L.at hL 0 rfl) rfl 1 (by decide) (hts _ mw578) (fun _ h9 => h9) rfl hin rfl (by decide +kernel) rfl rfl (Nat.le_of_ble_eq_true rfl) dF_init_18 (fun H locs hI => ?_)
  obtain ⟨h6, eh6⟩ : ∃ z : ur_M, z = va_up h5 q (some (.inr (7, [.ref w1, .ref w4, .null, .long 0, .null, .null, .null, .null, .int 0, .null, .int 0, .null, .null, .null, .null, .null, .int 0, .null]))) := ⟨_, rfl⟩
  replace hI : ur_I D vwCl (ur_A h s.heap.size) s.heap h6 H locs := by rw [eh6]; exact hI
  replace hL : um_L [(q, .inr (7, [.ref w1, .ref w4, .null, .long 0, .null, .null, .null, .null, .int 0, .null, .int 0, .null, .null, .null, .null, .null, .int 0, .null])), (w1, .inl (E.1 0, 4000, .inl (fun _ => 0))), (w4, .inl (E.1 0, 38400, .inl (fun _ => 0)))] h6 := by rw [eh6]; exact um_L.put hL 0 rfl _
  refine lv_aload_n hx hb dF_init_21 rfl (lv_at hl 0 rfl) ?_
  refine lv_iconst (v := 4) hx hb dF_init_22 (by decide) ?_
  refine ur_newa (atype := .int) (a0 := (4, (.inl (fun _ => 0)))) hx hb (hts _ mw36) rfl 0 hV rfl rfl hI (n := 4) (N' := 4) (fun _ => by rfl) (by decide) rfl (by decide) (Nat.le_of_ble_eq_true rfl) (Nat.le_of_ble_eq_true rfl) dF_init_23 (fun w7 H zw7 hI => ?_)
  obtain ⟨h8, eh8⟩ : ∃ z : ur_M, z = va_up h6 w7 (some (.inl (E.1 0, 4, .inl (fun _ => 0)))) := ⟨_, rfl⟩
  replace hI : ur_I D vwCl (ur_A h s.heap.size) s.heap h8 H locs := by rw [eh8]; exact hI
  replace hL : um_L [(q, .inr (7, [.ref w1, .ref w4, .null, .long 0, .null, .null, .null, .null, .int 0, .null, .int 0, .null, .null, .null, .null, .null, .int 0, .null])), (w1, .inl (E.1 0, 4000, .inl (fun _ => 0))), (w4, .inl (E.1 0, 38400, .inl (fun _ => 0))), (w7, .inl (E.1 0, 4, .inl (fun _ => 0)))] h8 := by rw [eh8]; exact um_L.new hL zw7 _
  refine ur_putF (D := D) (ci := 7) (v := .ref w7) (ty := (.array .int)) (C := "UnitRoomModel") (T := TF) (N := 18) hx hb hts inF tyF tyF_ok nmF hown hV hI (um_L.at hL 0 rfl) rfl 2 (by decide) (hts _ mw579) (fun _ h9 => h9) rfl hin rfl (by decide +kernel) rfl rfl (Nat.le_of_ble_eq_true rfl) dF_init_25 (fun H locs hI => ?_)
  obtain ⟨h9, eh9⟩ : ∃ z : ur_M, z = va_up h8 q (some (.inr (7, [.ref w1, .ref w4, .ref w7, .long 0, .null, .null, .null, .null, .int 0, .null, .int 0, .null, .null, .null, .null, .null, .int 0, .null]))) := ⟨_, rfl⟩
  replace hI : ur_I D vwCl (ur_A h s.heap.size) s.heap h9 H locs := by rw [eh9]; exact hI
  replace hL : um_L [(q, .inr (7, [.ref w1, .ref w4, .ref w7, .long 0, .null, .null, .null, .null, .int 0, .null, .int 0, .null, .null, .null, .null, .null, .int 0, .null])), (w1, .inl (E.1 0, 4000, .inl (fun _ => 0))), (w4, .inl (E.1 0, 38400, .inl (fun _ => 0))), (w7, .inl (E.1 0, 4, .inl (fun _ => 0)))] h9 := by rw [eh9]; exact um_L.put hL 0 rfl _
  refine lv_aload_n hx hb dF_init_28 rfl (lv_at hl 0 rfl) ?_
  refine lv_bipush (v := 10) hx hb dF_init_29 (by decide) ?_
  refine ur_newa (atype := .long) (a0 := (10, (.inr (.inl (fun _ => 0))))) hx hb (hts _ mw632) rfl 5 hV rfl rfl hI (n := 10) (N' := 10) (fun _ => by rfl) (by decide) rfl (by decide) (Nat.le_of_ble_eq_true rfl) (Nat.le_of_ble_eq_true rfl) dF_init_31 (fun w10 H zw10 hI => ?_)
  obtain ⟨h11, eh11⟩ : ∃ z : ur_M, z = va_up h9 w10 (some (.inl (E.1 5, 10, .inr (.inl (fun _ => 0))))) := ⟨_, rfl⟩
  replace hI : ur_I D vwCl (ur_A h s.heap.size) s.heap h11 H locs := by rw [eh11]; exact hI
  replace hL : um_L [(q, .inr (7, [.ref w1, .ref w4, .ref w7, .long 0, .null, .null, .null, .null, .int 0, .null, .int 0, .null, .null, .null, .null, .null, .int 0, .null])), (w1, .inl (E.1 0, 4000, .inl (fun _ => 0))), (w4, .inl (E.1 0, 38400, .inl (fun _ => 0))), (w7, .inl (E.1 0, 4, .inl (fun _ => 0))), (w10, .inl (E.1 5, 10, .inr (.inl (fun _ => 0))))] h11 := by rw [eh11]; exact um_L.new hL zw10 _
  refine ur_putF (D := D) (ci := 7) (v := .ref w10) (ty := (.array .long)) (C := "UnitRoomModel") (T := TF) (N := 18) hx hb hts inF tyF tyF_ok nmF hown hV hI (um_L.at hL 0 rfl) rfl 4 (by decide) (hts _ mw581) (fun _ h9 => h9) rfl hin rfl (by decide +kernel) rfl rfl (Nat.le_of_ble_eq_true rfl) dF_init_33 (fun H locs hI => ?_)
  obtain ⟨h12, eh12⟩ : ∃ z : ur_M, z = va_up h11 q (some (.inr (7, [.ref w1, .ref w4, .ref w7, .long 0, .ref w10, .null, .null, .null, .int 0, .null, .int 0, .null, .null, .null, .null, .null, .int 0, .null]))) := ⟨_, rfl⟩
  replace hI : ur_I D vwCl (ur_A h s.heap.size) s.heap h12 H locs := by rw [eh12]; exact hI
  replace hL : um_L [(q, .inr (7, [.ref w1, .ref w4, .ref w7, .long 0, .ref w10, .null, .null, .null, .int 0, .null, .int 0, .null, .null, .null, .null, .null, .int 0, .null])), (w1, .inl (E.1 0, 4000, .inl (fun _ => 0))), (w4, .inl (E.1 0, 38400, .inl (fun _ => 0))), (w7, .inl (E.1 0, 4, .inl (fun _ => 0))), (w10, .inl (E.1 5, 10, .inr (.inl (fun _ => 0))))] h12 := by rw [eh12]; exact um_L.put hL 0 rfl _
  refine lv_aload_n hx hb dF_init_36 rfl (lv_at hl 0 rfl) ?_
  refine lv_bipush (v := 10) hx hb dF_init_37 (by decide) ?_
  refine ur_newa (atype := .boolean) (a0 := (10, (.inl (fun _ => 0)))) hx hb (hts _ mw633) rfl 6 hV rfl rfl hI (n := 10) (N' := 10) (fun _ => by rfl) (by decide) rfl (by decide) (Nat.le_of_ble_eq_true rfl) (Nat.le_of_ble_eq_true rfl) dF_init_39 (fun w13 H zw13 hI => ?_)
  obtain ⟨h14, eh14⟩ : ∃ z : ur_M, z = va_up h12 w13 (some (.inl (E.1 6, 10, .inl (fun _ => 0)))) := ⟨_, rfl⟩
  replace hI : ur_I D vwCl (ur_A h s.heap.size) s.heap h14 H locs := by rw [eh14]; exact hI
  replace hL : um_L [(q, .inr (7, [.ref w1, .ref w4, .ref w7, .long 0, .ref w10, .null, .null, .null, .int 0, .null, .int 0, .null, .null, .null, .null, .null, .int 0, .null])), (w1, .inl (E.1 0, 4000, .inl (fun _ => 0))), (w4, .inl (E.1 0, 38400, .inl (fun _ => 0))), (w7, .inl (E.1 0, 4, .inl (fun _ => 0))), (w10, .inl (E.1 5, 10, .inr (.inl (fun _ => 0)))), (w13, .inl (E.1 6, 10, .inl (fun _ => 0)))] h14 := by rw [eh14]; exact um_L.new hL zw13 _
  refine ur_putF (D := D) (ci := 7) (v := .ref w13) (ty := (.array .boolean)) (C := "UnitRoomModel") (T := TF) (N := 18) hx hb hts inF tyF tyF_ok nmF hown hV hI (um_L.at hL 0 rfl) rfl 5 (by decide) (hts _ mw582) (fun _ h9 => h9) rfl hin rfl (by decide +kernel) rfl rfl (Nat.le_of_ble_eq_true rfl) dF_init_41 (fun H locs hI => ?_)
  obtain ⟨h15, eh15⟩ : ∃ z : ur_M, z = va_up h14 q (some (.inr (7, [.ref w1, .ref w4, .ref w7, .long 0, .ref w10, .ref w13, .null, .null, .int 0, .null, .int 0, .null, .null, .null, .null, .null, .int 0, .null]))) := ⟨_, rfl⟩
  replace hI : ur_I D vwCl (ur_A h s.heap.size) s.heap h15 H locs := by rw [eh15]; exact hI
  replace hL : um_L [(q, .inr (7, [.ref w1, .ref w4, .ref w7, .long 0, .ref w10, .ref w13, .null, .null, .int 0, .null, .int 0, .null, .null, .null, .null, .null, .int 0, .null])), (w1, .inl (E.1 0, 4000, .inl (fun _ => 0))), (w4, .inl (E.1 0, 38400, .inl (fun _ => 0))), (w7, .inl (E.1 0, 4, .inl (fun _ => 0))), (w10, .inl (E.1 5, 10, .inr (.inl (fun _ => 0)))), (w13, .inl (E.1 6, 10, .inl (fun _ => 0)))] h15 := by rw [eh15]; exact um_L.put hL 0 rfl _
  refine lv_aload_n hx hb dF_init_44 rfl (lv_at hl 0 rfl) ?_
  refine lv_bipush (v := 10) hx hb dF_init_45 (by decide) ?_
  refine ur_newa (atype := .int) (a0 := (10, (.inl (fun _ => 0)))) hx hb (hts _ mw36) rfl 0 hV rfl rfl hI (n := 10) (N' := 10) (fun _ => by rfl) (by decide) rfl (by decide) (Nat.le_of_ble_eq_true rfl) (Nat.le_of_ble_eq_true rfl) dF_init_47 (fun w16 H zw16 hI => ?_)
  obtain ⟨h17, eh17⟩ : ∃ z : ur_M, z = va_up h15 w16 (some (.inl (E.1 0, 10, .inl (fun _ => 0)))) := ⟨_, rfl⟩
  replace hI : ur_I D vwCl (ur_A h s.heap.size) s.heap h17 H locs := by rw [eh17]; exact hI
  replace hL : um_L [(q, .inr (7, [.ref w1, .ref w4, .ref w7, .long 0, .ref w10, .ref w13, .null, .null, .int 0, .null, .int 0, .null, .null, .null, .null, .null, .int 0, .null])), (w1, .inl (E.1 0, 4000, .inl (fun _ => 0))), (w4, .inl (E.1 0, 38400, .inl (fun _ => 0))), (w7, .inl (E.1 0, 4, .inl (fun _ => 0))), (w10, .inl (E.1 5, 10, .inr (.inl (fun _ => 0)))), (w13, .inl (E.1 6, 10, .inl (fun _ => 0))), (w16, .inl (E.1 0, 10, .inl (fun _ => 0)))] h17 := by rw [eh17]; exact um_L.new hL zw16 _
  refine ur_putF (D := D) (ci := 7) (v := .ref w16) (ty := (.array .int)) (C := "UnitRoomModel") (T := TF) (N := 18) hx hb hts inF tyF tyF_ok nmF hown hV hI (um_L.at hL 0 rfl) rfl 6 (by decide) (hts _ mw583) (fun _ h9 => h9) rfl hin rfl (by decide +kernel) rfl rfl (Nat.le_of_ble_eq_true rfl) dF_init_49 (fun H locs hI => ?_)
  obtain ⟨h18, eh18⟩ : ∃ z : ur_M, z = va_up h17 q (some (.inr (7, [.ref w1, .ref w4, .ref w7, .long 0, .ref w10, .ref w13, .ref w16, .null, .int 0, .null, .int 0, .null, .null, .null, .null, .null, .int 0, .null]))) := ⟨_, rfl⟩
  replace hI : ur_I D vwCl (ur_A h s.heap.size) s.heap h18 H locs := by rw [eh18]; exact hI
  replace hL : um_L [(q, .inr (7, [.ref w1, .ref w4, .ref w7, .long 0, .ref w10, .ref w13, .ref w16, .null, .int 0, .null, .int 0, .null, .null, .null, .null, .null, .int 0, .null])), (w1, .inl (E.1 0, 4000, .inl (fun _ => 0))), (w4, .inl (E.1 0, 38400, .inl (fun _ => 0))), (w7, .inl (E.1 0, 4, .inl (fun _ => 0))), (w10, .inl (E.1 5, 10, .inr (.inl (fun _ => 0)))), (w13, .inl (E.1 6, 10, .inl (fun _ => 0))), (w16, .inl (E.1 0, 10, .inl (fun _ => 0)))] h18 := by rw [eh18]; exact um_L.put hL 0 rfl _
  refine lv_aload_n hx hb dF_init_52 rfl (lv_at hl 0 rfl) ?_
  refine lv_bipush (v := 10) hx hb dF_init_53 (by decide) ?_
  refine ur_newa (atype := .int) (a0 := (10, (.inl (fun _ => 0)))) hx hb (hts _ mw36) rfl 0 hV rfl rfl hI (n := 10) (N' := 10) (fun _ => by rfl) (by decide) rfl (by decide) (Nat.le_of_ble_eq_true rfl) (Nat.le_of_ble_eq_true rfl) dF_init_55 (fun w19 H zw19 hI => ?_)
  obtain ⟨h20, eh20⟩ : ∃ z : ur_M, z = va_up h18 w19 (some (.inl (E.1 0, 10, .inl (fun _ => 0)))) := ⟨_, rfl⟩
  replace hI : ur_I D vwCl (ur_A h s.heap.size) s.heap h20 H locs := by rw [eh20]; exact hI
  replace hL : um_L [(q, .inr (7, [.ref w1, .ref w4, .ref w7, .long 0, .ref w10, .ref w13, .ref w16, .null, .int 0, .null, .int 0, .null, .null, .null, .null, .null, .int 0, .null])), (w1, .inl (E.1 0, 4000, .inl (fun _ => 0))), (w4, .inl (E.1 0, 38400, .inl (fun _ => 0))), (w7, .inl (E.1 0, 4, .inl (fun _ => 0))), (w10, .inl (E.1 5, 10, .inr (.inl (fun _ => 0)))), (w13, .inl (E.1 6, 10, .inl (fun _ => 0))), (w16, .inl (E.1 0, 10, .inl (fun _ => 0))), (w19, .inl (E.1 0, 10, .inl (fun _ => 0)))] h20 := by rw [eh20]; exact um_L.new hL zw19 _
  refine ur_putF (D := D) (ci := 7) (v := .ref w19) (ty := (.array .int)) (C := "UnitRoomModel") (T := TF) (N := 18) hx hb hts inF tyF tyF_ok nmF hown hV hI (um_L.at hL 0 rfl) rfl 7 (by decide) (hts _ mw584) (fun _ h9 => h9) rfl hin rfl (by decide +kernel) rfl rfl (Nat.le_of_ble_eq_true rfl) dF_init_57 (fun H locs hI => ?_)
  obtain ⟨h21, eh21⟩ : ∃ z : ur_M, z = va_up h20 q (some (.inr (7, [.ref w1, .ref w4, .ref w7, .long 0, .ref w10, .ref w13, .ref w16, .ref w19, .int 0, .null, .int 0, .null, .null, .null, .null, .null, .int 0, .null]))) := ⟨_, rfl⟩
  replace hI : ur_I D vwCl (ur_A h s.heap.size) s.heap h21 H locs := by rw [eh21]; exact hI
  replace hL : um_L [(q, .inr (7, [.ref w1, .ref w4, .ref w7, .long 0, .ref w10, .ref w13, .ref w16, .ref w19, .int 0, .null, .int 0, .null, .null, .null, .null, .null, .int 0, .null])), (w1, .inl (E.1 0, 4000, .inl (fun _ => 0))), (w4, .inl (E.1 0, 38400, .inl (fun _ => 0))), (w7, .inl (E.1 0, 4, .inl (fun _ => 0))), (w10, .inl (E.1 5, 10, .inr (.inl (fun _ => 0)))), (w13, .inl (E.1 6, 10, .inl (fun _ => 0))), (w16, .inl (E.1 0, 10, .inl (fun _ => 0))), (w19, .inl (E.1 0, 10, .inl (fun _ => 0)))] h21 := by rw [eh21]; exact um_L.put hL 0 rfl _
  refine lv_aload_n hx hb dF_init_60 rfl (lv_at hl 0 rfl) ?_
  refine lv_sipush (v := 1000) hx hb dF_init_61 (by decide) ?_
  refine ur_newa (atype := .int) (a0 := (1000, (.inl (fun _ => 0)))) hx hb (hts _ mw36) rfl 0 hV rfl rfl hI (n := 1000) (N' := 1000) (fun _ => by rfl) (by decide) rfl (by decide) (Nat.le_of_ble_eq_true rfl) (Nat.le_of_ble_eq_true rfl) dF_init_64 (fun w22 H zw22 hI => ?_)
  obtain ⟨h23, eh23⟩ : ∃ z : ur_M, z = va_up h21 w22 (some (.inl (E.1 0, 1000, .inl (fun _ => 0)))) := ⟨_, rfl⟩
  replace hI : ur_I D vwCl (ur_A h s.heap.size) s.heap h23 H locs := by rw [eh23]; exact hI
  replace hL : um_L [(q, .inr (7, [.ref w1, .ref w4, .ref w7, .long 0, .ref w10, .ref w13, .ref w16, .ref w19, .int 0, .null, .int 0, .null, .null, .null, .null, .null, .int 0, .null])), (w1, .inl (E.1 0, 4000, .inl (fun _ => 0))), (w4, .inl (E.1 0, 38400, .inl (fun _ => 0))), (w7, .inl (E.1 0, 4, .inl (fun _ => 0))), (w10, .inl (E.1 5, 10, .inr (.inl (fun _ => 0)))), (w13, .inl (E.1 6, 10, .inl (fun _ => 0))), (w16, .inl (E.1 0, 10, .inl (fun _ => 0))), (w19, .inl (E.1 0, 10, .inl (fun _ => 0))), (w22, .inl (E.1 0, 1000, .inl (fun _ => 0)))] h23 := by rw [eh23]; exact um_L.new hL zw22 _
  refine ur_putF (D := D) (ci := 7) (v := .ref w22) (ty := (.array .int)) (C := "UnitRoomModel") (T := TF) (N := 18) hx hb hts inF tyF tyF_ok nmF hown hV hI (um_L.at hL 0 rfl) rfl 9 (by decide) (hts _ mw586) (fun _ h9 => h9) rfl hin rfl (by decide +kernel) rfl rfl (Nat.le_of_ble_eq_true rfl) dF_init_66 (fun H locs hI => ?_)
  obtain ⟨h24, eh24⟩ : ∃ z : ur_M, z = va_up h23 q (some (.inr (7, [.ref w1, .ref w4, .ref w7, .long 0, .ref w10, .ref w13, .ref w16, .ref w19, .int 0, .ref w22, .int 0, .null, .null, .null, .null, .null, .int 0, .null]))) := ⟨_, rfl⟩
  replace hI : ur_I D vwCl (ur_A h s.heap.size) s.heap h24 H locs := by rw [eh24]; exact hI
  replace hL : um_L [(q, .inr (7, [.ref w1, .ref w4, .ref w7, .long 0, .ref w10, .ref w13, .ref w16, .ref w19, .int 0, .ref w22, .int 0, .null, .null, .null, .null, .null, .int 0, .null])), (w1, .inl (E.1 0, 4000, .inl (fun _ => 0))), (w4, .inl (E.1 0, 38400, .inl (fun _ => 0))), (w7, .inl (E.1 0, 4, .inl (fun _ => 0))), (w10, .inl (E.1 5, 10, .inr (.inl (fun _ => 0)))), (w13, .inl (E.1 6, 10, .inl (fun _ => 0))), (w16, .inl (E.1 0, 10, .inl (fun _ => 0))), (w19, .inl (E.1 0, 10, .inl (fun _ => 0))), (w22, .inl (E.1 0, 1000, .inl (fun _ => 0)))] h24 := by rw [eh24]; exact um_L.put hL 0 rfl _
  refine lv_aload_n hx hb dF_init_69 rfl (lv_at hl 0 rfl) ?_
  refine lv_sipush (v := 8000) hx hb dF_init_70 (by decide) ?_
  refine ur_newa (atype := .int) (a0 := (8000, (.inl (fun _ => 0)))) hx hb (hts _ mw36) rfl 0 hV rfl rfl hI (n := 8000) (N' := 8000) (fun _ => by rfl) (by decide) rfl (by decide) (Nat.le_of_ble_eq_true rfl) (Nat.le_of_ble_eq_true rfl) dF_init_73 (fun w25 H zw25 hI => ?_)
  obtain ⟨h26, eh26⟩ : ∃ z : ur_M, z = va_up h24 w25 (some (.inl (E.1 0, 8000, .inl (fun _ => 0)))) := ⟨_, rfl⟩
  replace hI : ur_I D vwCl (ur_A h s.heap.size) s.heap h26 H locs := by rw [eh26]; exact hI
  replace hL : um_L [(q, .inr (7, [.ref w1, .ref w4, .ref w7, .long 0, .ref w10, .ref w13, .ref w16, .ref w19, .int 0, .ref w22, .int 0, .null, .null, .null, .null, .null, .int 0, .null])), (w1, .inl (E.1 0, 4000, .inl (fun _ => 0))), (w4, .inl (E.1 0, 38400, .inl (fun _ => 0))), (w7, .inl (E.1 0, 4, .inl (fun _ => 0))), (w10, .inl (E.1 5, 10, .inr (.inl (fun _ => 0)))), (w13, .inl (E.1 6, 10, .inl (fun _ => 0))), (w16, .inl (E.1 0, 10, .inl (fun _ => 0))), (w19, .inl (E.1 0, 10, .inl (fun _ => 0))), (w22, .inl (E.1 0, 1000, .inl (fun _ => 0))), (w25, .inl (E.1 0, 8000, .inl (fun _ => 0)))] h26 := by rw [eh26]; exact um_L.new hL zw25 _
  refine ur_putF (D := D) (ci := 7) (v := .ref w25) (ty := (.array .int)) (C := "UnitRoomModel") (T := TF) (N := 18) hx hb hts inF tyF tyF_ok nmF hown hV hI (um_L.at hL 0 rfl) rfl 11 (by decide) (hts _ mw588) (fun _ h9 => h9) rfl hin rfl (by decide +kernel) rfl rfl (Nat.le_of_ble_eq_true rfl) dF_init_75 (fun H locs hI => ?_)
  obtain ⟨h27, eh27⟩ : ∃ z : ur_M, z = va_up h26 q (some (.inr (7, [.ref w1, .ref w4, .ref w7, .long 0, .ref w10, .ref w13, .ref w16, .ref w19, .int 0, .ref w22, .int 0, .ref w25, .null, .null, .null, .null, .int 0, .null]))) := ⟨_, rfl⟩
  replace hI : ur_I D vwCl (ur_A h s.heap.size) s.heap h27 H locs := by rw [eh27]; exact hI
  replace hL : um_L [(q, .inr (7, [.ref w1, .ref w4, .ref w7, .long 0, .ref w10, .ref w13, .ref w16, .ref w19, .int 0, .ref w22, .int 0, .ref w25, .null, .null, .null, .null, .int 0, .null])), (w1, .inl (E.1 0, 4000, .inl (fun _ => 0))), (w4, .inl (E.1 0, 38400, .inl (fun _ => 0))), (w7, .inl (E.1 0, 4, .inl (fun _ => 0))), (w10, .inl (E.1 5, 10, .inr (.inl (fun _ => 0)))), (w13, .inl (E.1 6, 10, .inl (fun _ => 0))), (w16, .inl (E.1 0, 10, .inl (fun _ => 0))), (w19, .inl (E.1 0, 10, .inl (fun _ => 0))), (w22, .inl (E.1 0, 1000, .inl (fun _ => 0))), (w25, .inl (E.1 0, 8000, .inl (fun _ => 0)))] h27 := by rw [eh27]; exact um_L.put hL 0 rfl _
  refine lv_aload_n hx hb dF_init_78 rfl (lv_at hl 0 rfl) ?_
  refine lv_iconst (v := 3) hx hb dF_init_79 (by decide) ?_
  refine ur_newa (atype := .int) (a0 := (3, (.inl (fun _ => 0)))) hx hb (hts _ mw36) rfl 0 hV rfl rfl hI (n := 3) (N' := 3) (fun _ => by rfl) (by decide) rfl (by decide) (Nat.le_of_ble_eq_true rfl) (Nat.le_of_ble_eq_true rfl) dF_init_80 (fun w28 H zw28 hI => ?_)
  obtain ⟨h29, eh29⟩ : ∃ z : ur_M, z = va_up h27 w28 (some (.inl (E.1 0, 3, .inl (fun _ => 0)))) := ⟨_, rfl⟩
  replace hI : ur_I D vwCl (ur_A h s.heap.size) s.heap h29 H locs := by rw [eh29]; exact hI
  replace hL : um_L [(q, .inr (7, [.ref w1, .ref w4, .ref w7, .long 0, .ref w10, .ref w13, .ref w16, .ref w19, .int 0, .ref w22, .int 0, .ref w25, .null, .null, .null, .null, .int 0, .null])), (w1, .inl (E.1 0, 4000, .inl (fun _ => 0))), (w4, .inl (E.1 0, 38400, .inl (fun _ => 0))), (w7, .inl (E.1 0, 4, .inl (fun _ => 0))), (w10, .inl (E.1 5, 10, .inr (.inl (fun _ => 0)))), (w13, .inl (E.1 6, 10, .inl (fun _ => 0))), (w16, .inl (E.1 0, 10, .inl (fun _ => 0))), (w19, .inl (E.1 0, 10, .inl (fun _ => 0))), (w22, .inl (E.1 0, 1000, .inl (fun _ => 0))), (w25, .inl (E.1 0, 8000, .inl (fun _ => 0))), (w28, .inl (E.1 0, 3, .inl (fun _ => 0)))] h29 := by rw [eh29]; exact um_L.new hL zw28 _
  refine ur_putF (D := D) (ci := 7) (v := .ref w28) (ty := (.array .int)) (C := "UnitRoomModel") (T := TF) (N := 18) hx hb hts inF tyF tyF_ok nmF hown hV hI (um_L.at hL 0 rfl) rfl 12 (by decide) (hts _ mw589) (fun _ h9 => h9) rfl hin rfl (by decide +kernel) rfl rfl (Nat.le_of_ble_eq_true rfl) dF_init_82 (fun H locs hI => ?_)
  obtain ⟨h30, eh30⟩ : ∃ z : ur_M, z = va_up h29 q (some (.inr (7, [.ref w1, .ref w4, .ref w7, .long 0, .ref w10, .ref w13, .ref w16, .ref w19, .int 0, .ref w22, .int 0, .ref w25, .ref w28, .null, .null, .null, .int 0, .null]))) := ⟨_, rfl⟩
  replace hI : ur_I D vwCl (ur_A h s.heap.size) s.heap h30 H locs := by rw [eh30]; exact hI
  replace hL : um_L [(q, .inr (7, [.ref w1, .ref w4, .ref w7, .long 0, .ref w10, .ref w13, .ref w16, .ref w19, .int 0, .ref w22, .int 0, .ref w25, .ref w28, .null, .null, .null, .int 0, .null])), (w1, .inl (E.1 0, 4000, .inl (fun _ => 0))), (w4, .inl (E.1 0, 38400, .inl (fun _ => 0))), (w7, .inl (E.1 0, 4, .inl (fun _ => 0))), (w10, .inl (E.1 5, 10, .inr (.inl (fun _ => 0)))), (w13, .inl (E.1 6, 10, .inl (fun _ => 0))), (w16, .inl (E.1 0, 10, .inl (fun _ => 0))), (w19, .inl (E.1 0, 10, .inl (fun _ => 0))), (w22, .inl (E.1 0, 1000, .inl (fun _ => 0))), (w25, .inl (E.1 0, 8000, .inl (fun _ => 0))), (w28, .inl (E.1 0, 3, .inl (fun _ => 0)))] h30 := by rw [eh30]; exact um_L.put hL 0 rfl _
  refine lv_aload_n hx hb dF_init_85 rfl (lv_at hl 0 rfl) ?_
  refine lv_sipush (v := 900) hx hb dF_init_86 (by decide) ?_
  refine ur_newa (atype := .int) (a0 := (900, (.inl (fun _ => 0)))) hx hb (hts _ mw36) rfl 0 hV rfl rfl hI (n := 900) (N' := 900) (fun _ => by rfl) (by decide) rfl (by decide) (Nat.le_of_ble_eq_true rfl) (Nat.le_of_ble_eq_true rfl) dF_init_89 (fun w31 H zw31 hI => ?_)
  obtain ⟨h32, eh32⟩ : ∃ z : ur_M, z = va_up h30 w31 (some (.inl (E.1 0, 900, .inl (fun _ => 0)))) := ⟨_, rfl⟩
  replace hI : ur_I D vwCl (ur_A h s.heap.size) s.heap h32 H locs := by rw [eh32]; exact hI
  replace hL : um_L [(q, .inr (7, [.ref w1, .ref w4, .ref w7, .long 0, .ref w10, .ref w13, .ref w16, .ref w19, .int 0, .ref w22, .int 0, .ref w25, .ref w28, .null, .null, .null, .int 0, .null])), (w1, .inl (E.1 0, 4000, .inl (fun _ => 0))), (w4, .inl (E.1 0, 38400, .inl (fun _ => 0))), (w7, .inl (E.1 0, 4, .inl (fun _ => 0))), (w10, .inl (E.1 5, 10, .inr (.inl (fun _ => 0)))), (w13, .inl (E.1 6, 10, .inl (fun _ => 0))), (w16, .inl (E.1 0, 10, .inl (fun _ => 0))), (w19, .inl (E.1 0, 10, .inl (fun _ => 0))), (w22, .inl (E.1 0, 1000, .inl (fun _ => 0))), (w25, .inl (E.1 0, 8000, .inl (fun _ => 0))), (w28, .inl (E.1 0, 3, .inl (fun _ => 0))), (w31, .inl (E.1 0, 900, .inl (fun _ => 0)))] h32 := by rw [eh32]; exact um_L.new hL zw31 _
  refine ur_putF (D := D) (ci := 7) (v := .ref w31) (ty := (.array .int)) (C := "UnitRoomModel") (T := TF) (N := 18) hx hb hts inF tyF tyF_ok nmF hown hV hI (um_L.at hL 0 rfl) rfl 13 (by decide) (hts _ mw590) (fun _ h9 => h9) rfl hin rfl (by decide +kernel) rfl rfl (Nat.le_of_ble_eq_true rfl) dF_init_91 (fun H locs hI => ?_)
  obtain ⟨h33, eh33⟩ : ∃ z : ur_M, z = va_up h32 q (some (.inr (7, [.ref w1, .ref w4, .ref w7, .long 0, .ref w10, .ref w13, .ref w16, .ref w19, .int 0, .ref w22, .int 0, .ref w25, .ref w28, .ref w31, .null, .null, .int 0, .null]))) := ⟨_, rfl⟩
  replace hI : ur_I D vwCl (ur_A h s.heap.size) s.heap h33 H locs := by rw [eh33]; exact hI
  replace hL : um_L [(q, .inr (7, [.ref w1, .ref w4, .ref w7, .long 0, .ref w10, .ref w13, .ref w16, .ref w19, .int 0, .ref w22, .int 0, .ref w25, .ref w28, .ref w31, .null, .null, .int 0, .null])), (w1, .inl (E.1 0, 4000, .inl (fun _ => 0))), (w4, .inl (E.1 0, 38400, .inl (fun _ => 0))), (w7, .inl (E.1 0, 4, .inl (fun _ => 0))), (w10, .inl (E.1 5, 10, .inr (.inl (fun _ => 0)))), (w13, .inl (E.1 6, 10, .inl (fun _ => 0))), (w16, .inl (E.1 0, 10, .inl (fun _ => 0))), (w19, .inl (E.1 0, 10, .inl (fun _ => 0))), (w22, .inl (E.1 0, 1000, .inl (fun _ => 0))), (w25, .inl (E.1 0, 8000, .inl (fun _ => 0))), (w28, .inl (E.1 0, 3, .inl (fun _ => 0))), (w31, .inl (E.1 0, 900, .inl (fun _ => 0)))] h33 := by rw [eh33]; exact um_L.put hL 0 rfl _
  refine lv_aload_n hx hb dF_init_94 rfl (lv_at hl 0 rfl) ?_
  refine lv_ldc (v := 108000) hx hb hown (hts _ mw576) dF_init_95 ?_
  refine ur_newa (atype := .byte) (a0 := (108000, (.inl (fun _ => 0)))) hx hb (hts _ mw50) rfl 1 hV rfl rfl hI (n := 108000) (N' := 108000) (fun _ => by rfl) (by decide) rfl (by decide) (Nat.le_of_ble_eq_true rfl) (Nat.le_of_ble_eq_true rfl) dF_init_97 (fun w34 H zw34 hI => ?_)
  obtain ⟨h35, eh35⟩ : ∃ z : ur_M, z = va_up h33 w34 (some (.inl (E.1 1, 108000, .inl (fun _ => 0)))) := ⟨_, rfl⟩
  replace hI : ur_I D vwCl (ur_A h s.heap.size) s.heap h35 H locs := by rw [eh35]; exact hI
  replace hL : um_L [(q, .inr (7, [.ref w1, .ref w4, .ref w7, .long 0, .ref w10, .ref w13, .ref w16, .ref w19, .int 0, .ref w22, .int 0, .ref w25, .ref w28, .ref w31, .null, .null, .int 0, .null])), (w1, .inl (E.1 0, 4000, .inl (fun _ => 0))), (w4, .inl (E.1 0, 38400, .inl (fun _ => 0))), (w7, .inl (E.1 0, 4, .inl (fun _ => 0))), (w10, .inl (E.1 5, 10, .inr (.inl (fun _ => 0)))), (w13, .inl (E.1 6, 10, .inl (fun _ => 0))), (w16, .inl (E.1 0, 10, .inl (fun _ => 0))), (w19, .inl (E.1 0, 10, .inl (fun _ => 0))), (w22, .inl (E.1 0, 1000, .inl (fun _ => 0))), (w25, .inl (E.1 0, 8000, .inl (fun _ => 0))), (w28, .inl (E.1 0, 3, .inl (fun _ => 0))), (w31, .inl (E.1 0, 900, .inl (fun _ => 0))), (w34, .inl (E.1 1, 108000, .inl (fun _ => 0)))] h35 := by rw [eh35]; exact um_L.new hL zw34 _
  refine ur_putF (D := D) (ci := 7) (v := .ref w34) (ty := (.array .byte)) (C := "UnitRoomModel") (T := TF) (N := 18) hx hb hts inF tyF tyF_ok nmF hown hV hI (um_L.at hL 0 rfl) rfl 14 (by decide) (hts _ mw591) (fun _ h9 => h9) rfl hin rfl (by decide +kernel) rfl rfl (Nat.le_of_ble_eq_true rfl) dF_init_99 (fun H locs hI => ?_)
  obtain ⟨h36, eh36⟩ : ∃ z : ur_M, z = va_up h35 q (some (.inr (7, [.ref w1, .ref w4, .ref w7, .long 0, .ref w10, .ref w13, .ref w16, .ref w19, .int 0, .ref w22, .int 0, .ref w25, .ref w28, .ref w31, .ref w34, .null, .int 0, .null]))) := ⟨_, rfl⟩
  replace hI : ur_I D vwCl (ur_A h s.heap.size) s.heap h36 H locs := by rw [eh36]; exact hI
  replace hL : um_L [(q, .inr (7, [.ref w1, .ref w4, .ref w7, .long 0, .ref w10, .ref w13, .ref w16, .ref w19, .int 0, .ref w22, .int 0, .ref w25, .ref w28, .ref w31, .ref w34, .null, .int 0, .null])), (w1, .inl (E.1 0, 4000, .inl (fun _ => 0))), (w4, .inl (E.1 0, 38400, .inl (fun _ => 0))), (w7, .inl (E.1 0, 4, .inl (fun _ => 0))), (w10, .inl (E.1 5, 10, .inr (.inl (fun _ => 0)))), (w13, .inl (E.1 6, 10, .inl (fun _ => 0))), (w16, .inl (E.1 0, 10, .inl (fun _ => 0))), (w19, .inl (E.1 0, 10, .inl (fun _ => 0))), (w22, .inl (E.1 0, 1000, .inl (fun _ => 0))), (w25, .inl (E.1 0, 8000, .inl (fun _ => 0))), (w28, .inl (E.1 0, 3, .inl (fun _ => 0))), (w31, .inl (E.1 0, 900, .inl (fun _ => 0))), (w34, .inl (E.1 1, 108000, .inl (fun _ => 0)))] h36 := by rw [eh36]; exact um_L.put hL 0 rfl _
  refine lv_aload_n hx hb dF_init_102 rfl (lv_at hl 0 rfl) ?_
  refine lv_sipush (v := 400) hx hb dF_init_103 (by decide) ?_
  refine ur_newa (atype := .int) (a0 := (400, (.inl (fun _ => 0)))) hx hb (hts _ mw36) rfl 0 hV rfl rfl hI (n := 400) (N' := 400) (fun _ => by rfl) (by decide) rfl (by decide) (Nat.le_of_ble_eq_true rfl) (Nat.le_of_ble_eq_true rfl) dF_init_106 (fun w37 H zw37 hI => ?_)
  obtain ⟨h38, eh38⟩ : ∃ z : ur_M, z = va_up h36 w37 (some (.inl (E.1 0, 400, .inl (fun _ => 0)))) := ⟨_, rfl⟩
  replace hI : ur_I D vwCl (ur_A h s.heap.size) s.heap h38 H locs := by rw [eh38]; exact hI
  replace hL : um_L [(q, .inr (7, [.ref w1, .ref w4, .ref w7, .long 0, .ref w10, .ref w13, .ref w16, .ref w19, .int 0, .ref w22, .int 0, .ref w25, .ref w28, .ref w31, .ref w34, .null, .int 0, .null])), (w1, .inl (E.1 0, 4000, .inl (fun _ => 0))), (w4, .inl (E.1 0, 38400, .inl (fun _ => 0))), (w7, .inl (E.1 0, 4, .inl (fun _ => 0))), (w10, .inl (E.1 5, 10, .inr (.inl (fun _ => 0)))), (w13, .inl (E.1 6, 10, .inl (fun _ => 0))), (w16, .inl (E.1 0, 10, .inl (fun _ => 0))), (w19, .inl (E.1 0, 10, .inl (fun _ => 0))), (w22, .inl (E.1 0, 1000, .inl (fun _ => 0))), (w25, .inl (E.1 0, 8000, .inl (fun _ => 0))), (w28, .inl (E.1 0, 3, .inl (fun _ => 0))), (w31, .inl (E.1 0, 900, .inl (fun _ => 0))), (w34, .inl (E.1 1, 108000, .inl (fun _ => 0))), (w37, .inl (E.1 0, 400, .inl (fun _ => 0)))] h38 := by rw [eh38]; exact um_L.new hL zw37 _
  refine ur_putF (D := D) (ci := 7) (v := .ref w37) (ty := (.array .int)) (C := "UnitRoomModel") (T := TF) (N := 18) hx hb hts inF tyF tyF_ok nmF hown hV hI (um_L.at hL 0 rfl) rfl 15 (by decide) (hts _ mw592) (fun _ h9 => h9) rfl hin rfl (by decide +kernel) rfl rfl (Nat.le_of_ble_eq_true rfl) dF_init_108 (fun H locs hI => ?_)
  obtain ⟨h39, eh39⟩ : ∃ z : ur_M, z = va_up h38 q (some (.inr (7, [.ref w1, .ref w4, .ref w7, .long 0, .ref w10, .ref w13, .ref w16, .ref w19, .int 0, .ref w22, .int 0, .ref w25, .ref w28, .ref w31, .ref w34, .ref w37, .int 0, .null]))) := ⟨_, rfl⟩
  replace hI : ur_I D vwCl (ur_A h s.heap.size) s.heap h39 H locs := by rw [eh39]; exact hI
  replace hL : um_L [(q, .inr (7, [.ref w1, .ref w4, .ref w7, .long 0, .ref w10, .ref w13, .ref w16, .ref w19, .int 0, .ref w22, .int 0, .ref w25, .ref w28, .ref w31, .ref w34, .ref w37, .int 0, .null])), (w1, .inl (E.1 0, 4000, .inl (fun _ => 0))), (w4, .inl (E.1 0, 38400, .inl (fun _ => 0))), (w7, .inl (E.1 0, 4, .inl (fun _ => 0))), (w10, .inl (E.1 5, 10, .inr (.inl (fun _ => 0)))), (w13, .inl (E.1 6, 10, .inl (fun _ => 0))), (w16, .inl (E.1 0, 10, .inl (fun _ => 0))), (w19, .inl (E.1 0, 10, .inl (fun _ => 0))), (w22, .inl (E.1 0, 1000, .inl (fun _ => 0))), (w25, .inl (E.1 0, 8000, .inl (fun _ => 0))), (w28, .inl (E.1 0, 3, .inl (fun _ => 0))), (w31, .inl (E.1 0, 900, .inl (fun _ => 0))), (w34, .inl (E.1 1, 108000, .inl (fun _ => 0))), (w37, .inl (E.1 0, 400, .inl (fun _ => 0)))] h39 := by rw [eh39]; exact um_L.put hL 0 rfl _
  refine lv_aload_n hx hb dF_init_111 rfl (lv_at hl 0 rfl) ?_
  refine lv_bipush (v := 56) hx hb dF_init_112 (by decide) ?_
  refine ur_newa (atype := .int) (a0 := (56, (.inl (fun _ => 0)))) hx hb (hts _ mw36) rfl 0 hV rfl rfl hI (n := 56) (N' := 56) (fun _ => by rfl) (by decide) rfl (by decide) (Nat.le_of_ble_eq_true rfl) (Nat.le_of_ble_eq_true rfl) dF_init_114 (fun w40 H zw40 hI => ?_)
  rw [← fo_alp_0] at hI
  obtain ⟨h41, eh41⟩ : ∃ z : ur_M, z = va_up h39 w40 (some (.inl (E.1 0, 56, .inl (fo_alp 0)))) := ⟨_, rfl⟩
  replace hI : ur_I D vwCl (ur_A h s.heap.size) s.heap h41 H locs := by rw [eh41]; exact hI
  replace hL : um_L [(q, .inr (7, [.ref w1, .ref w4, .ref w7, .long 0, .ref w10, .ref w13, .ref w16, .ref w19, .int 0, .ref w22, .int 0, .ref w25, .ref w28, .ref w31, .ref w34, .ref w37, .int 0, .null])), (w1, .inl (E.1 0, 4000, .inl (fun _ => 0))), (w4, .inl (E.1 0, 38400, .inl (fun _ => 0))), (w7, .inl (E.1 0, 4, .inl (fun _ => 0))), (w10, .inl (E.1 5, 10, .inr (.inl (fun _ => 0)))), (w13, .inl (E.1 6, 10, .inl (fun _ => 0))), (w16, .inl (E.1 0, 10, .inl (fun _ => 0))), (w19, .inl (E.1 0, 10, .inl (fun _ => 0))), (w22, .inl (E.1 0, 1000, .inl (fun _ => 0))), (w25, .inl (E.1 0, 8000, .inl (fun _ => 0))), (w28, .inl (E.1 0, 3, .inl (fun _ => 0))), (w31, .inl (E.1 0, 900, .inl (fun _ => 0))), (w34, .inl (E.1 1, 108000, .inl (fun _ => 0))), (w37, .inl (E.1 0, 400, .inl (fun _ => 0))), (w40, .inl (E.1 0, 56, .inl (fo_alp 0)))] h41 := by rw [eh41]; exact um_L.new hL zw40 _
  refine lv_dup hx hb dF_init_116 rfl ?_
  refine lv_iconst (v := 0) hx hb dF_init_117 (by decide) ?_
  refine lv_bipush (v := 32) hx hb dF_init_118 (by decide) ?_
  refine ur_iast hx hb hV hI 0 (um_L.at hL 14 rfl) rfl (vp_in_nI (n := 0) (by decide) (by decide)) dF_init_120 (fun H locs hI => ?_)
  obtain ⟨h42, eh42⟩ : ∃ z : ur_M, z = va_up h41 w40 (some (.inl (E.1 0, 56, .inl (fo_alp 1)))) := ⟨_, rfl⟩
  replace hI : ur_I D vwCl (ur_A h s.heap.size) s.heap h42 H locs := by rw [eh42, fo_alp_s (k := 0) (k' := 1) (i := (Int32.toNatClampNeg 0)) (v := 32) rfl rfl rfl]; exact hI
  replace hL : um_L [(q, .inr (7, [.ref w1, .ref w4, .ref w7, .long 0, .ref w10, .ref w13, .ref w16, .ref w19, .int 0, .ref w22, .int 0, .ref w25, .ref w28, .ref w31, .ref w34, .ref w37, .int 0, .null])), (w1, .inl (E.1 0, 4000, .inl (fun _ => 0))), (w4, .inl (E.1 0, 38400, .inl (fun _ => 0))), (w7, .inl (E.1 0, 4, .inl (fun _ => 0))), (w10, .inl (E.1 5, 10, .inr (.inl (fun _ => 0)))), (w13, .inl (E.1 6, 10, .inl (fun _ => 0))), (w16, .inl (E.1 0, 10, .inl (fun _ => 0))), (w19, .inl (E.1 0, 10, .inl (fun _ => 0))), (w22, .inl (E.1 0, 1000, .inl (fun _ => 0))), (w25, .inl (E.1 0, 8000, .inl (fun _ => 0))), (w28, .inl (E.1 0, 3, .inl (fun _ => 0))), (w31, .inl (E.1 0, 900, .inl (fun _ => 0))), (w34, .inl (E.1 1, 108000, .inl (fun _ => 0))), (w37, .inl (E.1 0, 400, .inl (fun _ => 0))), (w40, .inl (E.1 0, 56, .inl (fo_alp 1)))] h42 := by rw [eh42]; exact um_L.put hL 14 rfl _
  refine lv_dup hx hb dF_init_121 rfl ?_
  refine lv_iconst (v := 1) hx hb dF_init_122 (by decide) ?_
  refine lv_bipush (v := 65) hx hb dF_init_123 (by decide) ?_
  refine ur_iast hx hb hV hI 0 (um_L.at hL 14 rfl) rfl (vp_in_nI (n := 1) (by decide) (by decide)) dF_init_125 (fun H locs hI => ?_)
  obtain ⟨h43, eh43⟩ : ∃ z : ur_M, z = va_up h42 w40 (some (.inl (E.1 0, 56, .inl (fo_alp 2)))) := ⟨_, rfl⟩
  replace hI : ur_I D vwCl (ur_A h s.heap.size) s.heap h43 H locs := by rw [eh43, fo_alp_s (k := 1) (k' := 2) (i := (Int32.toNatClampNeg 1)) (v := 65) rfl rfl rfl]; exact hI
  replace hL : um_L [(q, .inr (7, [.ref w1, .ref w4, .ref w7, .long 0, .ref w10, .ref w13, .ref w16, .ref w19, .int 0, .ref w22, .int 0, .ref w25, .ref w28, .ref w31, .ref w34, .ref w37, .int 0, .null])), (w1, .inl (E.1 0, 4000, .inl (fun _ => 0))), (w4, .inl (E.1 0, 38400, .inl (fun _ => 0))), (w7, .inl (E.1 0, 4, .inl (fun _ => 0))), (w10, .inl (E.1 5, 10, .inr (.inl (fun _ => 0)))), (w13, .inl (E.1 6, 10, .inl (fun _ => 0))), (w16, .inl (E.1 0, 10, .inl (fun _ => 0))), (w19, .inl (E.1 0, 10, .inl (fun _ => 0))), (w22, .inl (E.1 0, 1000, .inl (fun _ => 0))), (w25, .inl (E.1 0, 8000, .inl (fun _ => 0))), (w28, .inl (E.1 0, 3, .inl (fun _ => 0))), (w31, .inl (E.1 0, 900, .inl (fun _ => 0))), (w34, .inl (E.1 1, 108000, .inl (fun _ => 0))), (w37, .inl (E.1 0, 400, .inl (fun _ => 0))), (w40, .inl (E.1 0, 56, .inl (fo_alp 2)))] h43 := by rw [eh43]; exact um_L.put hL 14 rfl _
  refine lv_dup hx hb dF_init_126 rfl ?_
  refine lv_iconst (v := 2) hx hb dF_init_127 (by decide) ?_
  refine lv_bipush (v := 66) hx hb dF_init_128 (by decide) ?_
  refine ur_iast hx hb hV hI 0 (um_L.at hL 14 rfl) rfl (vp_in_nI (n := 2) (by decide) (by decide)) dF_init_130 (fun H locs hI => ?_)
  obtain ⟨h44, eh44⟩ : ∃ z : ur_M, z = va_up h43 w40 (some (.inl (E.1 0, 56, .inl (fo_alp 3)))) := ⟨_, rfl⟩
  replace hI : ur_I D vwCl (ur_A h s.heap.size) s.heap h44 H locs := by rw [eh44, fo_alp_s (k := 2) (k' := 3) (i := (Int32.toNatClampNeg 2)) (v := 66) rfl rfl rfl]; exact hI
  replace hL : um_L [(q, .inr (7, [.ref w1, .ref w4, .ref w7, .long 0, .ref w10, .ref w13, .ref w16, .ref w19, .int 0, .ref w22, .int 0, .ref w25, .ref w28, .ref w31, .ref w34, .ref w37, .int 0, .null])), (w1, .inl (E.1 0, 4000, .inl (fun _ => 0))), (w4, .inl (E.1 0, 38400, .inl (fun _ => 0))), (w7, .inl (E.1 0, 4, .inl (fun _ => 0))), (w10, .inl (E.1 5, 10, .inr (.inl (fun _ => 0)))), (w13, .inl (E.1 6, 10, .inl (fun _ => 0))), (w16, .inl (E.1 0, 10, .inl (fun _ => 0))), (w19, .inl (E.1 0, 10, .inl (fun _ => 0))), (w22, .inl (E.1 0, 1000, .inl (fun _ => 0))), (w25, .inl (E.1 0, 8000, .inl (fun _ => 0))), (w28, .inl (E.1 0, 3, .inl (fun _ => 0))), (w31, .inl (E.1 0, 900, .inl (fun _ => 0))), (w34, .inl (E.1 1, 108000, .inl (fun _ => 0))), (w37, .inl (E.1 0, 400, .inl (fun _ => 0))), (w40, .inl (E.1 0, 56, .inl (fo_alp 3)))] h44 := by rw [eh44]; exact um_L.put hL 14 rfl _
  refine lv_dup hx hb dF_init_131 rfl ?_
  refine lv_iconst (v := 3) hx hb dF_init_132 (by decide) ?_
  refine lv_bipush (v := 67) hx hb dF_init_133 (by decide) ?_
  refine ur_iast hx hb hV hI 0 (um_L.at hL 14 rfl) rfl (vp_in_nI (n := 3) (by decide) (by decide)) dF_init_135 (fun H locs hI => ?_)
  obtain ⟨h45, eh45⟩ : ∃ z : ur_M, z = va_up h44 w40 (some (.inl (E.1 0, 56, .inl (fo_alp 4)))) := ⟨_, rfl⟩
  replace hI : ur_I D vwCl (ur_A h s.heap.size) s.heap h45 H locs := by rw [eh45, fo_alp_s (k := 3) (k' := 4) (i := (Int32.toNatClampNeg 3)) (v := 67) rfl rfl rfl]; exact hI
  replace hL : um_L [(q, .inr (7, [.ref w1, .ref w4, .ref w7, .long 0, .ref w10, .ref w13, .ref w16, .ref w19, .int 0, .ref w22, .int 0, .ref w25, .ref w28, .ref w31, .ref w34, .ref w37, .int 0, .null])), (w1, .inl (E.1 0, 4000, .inl (fun _ => 0))), (w4, .inl (E.1 0, 38400, .inl (fun _ => 0))), (w7, .inl (E.1 0, 4, .inl (fun _ => 0))), (w10, .inl (E.1 5, 10, .inr (.inl (fun _ => 0)))), (w13, .inl (E.1 6, 10, .inl (fun _ => 0))), (w16, .inl (E.1 0, 10, .inl (fun _ => 0))), (w19, .inl (E.1 0, 10, .inl (fun _ => 0))), (w22, .inl (E.1 0, 1000, .inl (fun _ => 0))), (w25, .inl (E.1 0, 8000, .inl (fun _ => 0))), (w28, .inl (E.1 0, 3, .inl (fun _ => 0))), (w31, .inl (E.1 0, 900, .inl (fun _ => 0))), (w34, .inl (E.1 1, 108000, .inl (fun _ => 0))), (w37, .inl (E.1 0, 400, .inl (fun _ => 0))), (w40, .inl (E.1 0, 56, .inl (fo_alp 4)))] h45 := by rw [eh45]; exact um_L.put hL 14 rfl _
  refine lv_dup hx hb dF_init_136 rfl ?_
  refine lv_iconst (v := 4) hx hb dF_init_137 (by decide) ?_
  refine lv_bipush (v := 68) hx hb dF_init_138 (by decide) ?_
  refine ur_iast hx hb hV hI 0 (um_L.at hL 14 rfl) rfl (vp_in_nI (n := 4) (by decide) (by decide)) dF_init_140 (fun H locs hI => ?_)
  obtain ⟨h46, eh46⟩ : ∃ z : ur_M, z = va_up h45 w40 (some (.inl (E.1 0, 56, .inl (fo_alp 5)))) := ⟨_, rfl⟩
  replace hI : ur_I D vwCl (ur_A h s.heap.size) s.heap h46 H locs := by rw [eh46, fo_alp_s (k := 4) (k' := 5) (i := (Int32.toNatClampNeg 4)) (v := 68) rfl rfl rfl]; exact hI
  replace hL : um_L [(q, .inr (7, [.ref w1, .ref w4, .ref w7, .long 0, .ref w10, .ref w13, .ref w16, .ref w19, .int 0, .ref w22, .int 0, .ref w25, .ref w28, .ref w31, .ref w34, .ref w37, .int 0, .null])), (w1, .inl (E.1 0, 4000, .inl (fun _ => 0))), (w4, .inl (E.1 0, 38400, .inl (fun _ => 0))), (w7, .inl (E.1 0, 4, .inl (fun _ => 0))), (w10, .inl (E.1 5, 10, .inr (.inl (fun _ => 0)))), (w13, .inl (E.1 6, 10, .inl (fun _ => 0))), (w16, .inl (E.1 0, 10, .inl (fun _ => 0))), (w19, .inl (E.1 0, 10, .inl (fun _ => 0))), (w22, .inl (E.1 0, 1000, .inl (fun _ => 0))), (w25, .inl (E.1 0, 8000, .inl (fun _ => 0))), (w28, .inl (E.1 0, 3, .inl (fun _ => 0))), (w31, .inl (E.1 0, 900, .inl (fun _ => 0))), (w34, .inl (E.1 1, 108000, .inl (fun _ => 0))), (w37, .inl (E.1 0, 400, .inl (fun _ => 0))), (w40, .inl (E.1 0, 56, .inl (fo_alp 5)))] h46 := by rw [eh46]; exact um_L.put hL 14 rfl _
  refine lv_dup hx hb dF_init_141 rfl ?_
  refine lv_iconst (v := 5) hx hb dF_init_142 (by decide) ?_
  refine lv_bipush (v := 69) hx hb dF_init_143 (by decide) ?_
  refine ur_iast hx hb hV hI 0 (um_L.at hL 14 rfl) rfl (vp_in_nI (n := 5) (by decide) (by decide)) dF_init_145 (fun H locs hI => ?_)
  obtain ⟨h47, eh47⟩ : ∃ z : ur_M, z = va_up h46 w40 (some (.inl (E.1 0, 56, .inl (fo_alp 6)))) := ⟨_, rfl⟩
  replace hI : ur_I D vwCl (ur_A h s.heap.size) s.heap h47 H locs := by rw [eh47, fo_alp_s (k := 5) (k' := 6) (i := (Int32.toNatClampNeg 5)) (v := 69) rfl rfl rfl]; exact hI
  replace hL : um_L [(q, .inr (7, [.ref w1, .ref w4, .ref w7, .long 0, .ref w10, .ref w13, .ref w16, .ref w19, .int 0, .ref w22, .int 0, .ref w25, .ref w28, .ref w31, .ref w34, .ref w37, .int 0, .null])), (w1, .inl (E.1 0, 4000, .inl (fun _ => 0))), (w4, .inl (E.1 0, 38400, .inl (fun _ => 0))), (w7, .inl (E.1 0, 4, .inl (fun _ => 0))), (w10, .inl (E.1 5, 10, .inr (.inl (fun _ => 0)))), (w13, .inl (E.1 6, 10, .inl (fun _ => 0))), (w16, .inl (E.1 0, 10, .inl (fun _ => 0))), (w19, .inl (E.1 0, 10, .inl (fun _ => 0))), (w22, .inl (E.1 0, 1000, .inl (fun _ => 0))), (w25, .inl (E.1 0, 8000, .inl (fun _ => 0))), (w28, .inl (E.1 0, 3, .inl (fun _ => 0))), (w31, .inl (E.1 0, 900, .inl (fun _ => 0))), (w34, .inl (E.1 1, 108000, .inl (fun _ => 0))), (w37, .inl (E.1 0, 400, .inl (fun _ => 0))), (w40, .inl (E.1 0, 56, .inl (fo_alp 6)))] h47 := by rw [eh47]; exact um_L.put hL 14 rfl _
  refine lv_dup hx hb dF_init_146 rfl ?_
  refine lv_bipush (v := 6) hx hb dF_init_147 (by decide) ?_
  refine lv_bipush (v := 70) hx hb dF_init_149 (by decide) ?_
  refine ur_iast hx hb hV hI 0 (um_L.at hL 14 rfl) rfl (vp_in_nI (n := 6) (by decide) (by decide)) dF_init_151 (fun H locs hI => ?_)
  obtain ⟨h48, eh48⟩ : ∃ z : ur_M, z = va_up h47 w40 (some (.inl (E.1 0, 56, .inl (fo_alp 7)))) := ⟨_, rfl⟩
  replace hI : ur_I D vwCl (ur_A h s.heap.size) s.heap h48 H locs := by rw [eh48, fo_alp_s (k := 6) (k' := 7) (i := (Int32.toNatClampNeg 6)) (v := 70) rfl rfl rfl]; exact hI
  replace hL : um_L [(q, .inr (7, [.ref w1, .ref w4, .ref w7, .long 0, .ref w10, .ref w13, .ref w16, .ref w19, .int 0, .ref w22, .int 0, .ref w25, .ref w28, .ref w31, .ref w34, .ref w37, .int 0, .null])), (w1, .inl (E.1 0, 4000, .inl (fun _ => 0))), (w4, .inl (E.1 0, 38400, .inl (fun _ => 0))), (w7, .inl (E.1 0, 4, .inl (fun _ => 0))), (w10, .inl (E.1 5, 10, .inr (.inl (fun _ => 0)))), (w13, .inl (E.1 6, 10, .inl (fun _ => 0))), (w16, .inl (E.1 0, 10, .inl (fun _ => 0))), (w19, .inl (E.1 0, 10, .inl (fun _ => 0))), (w22, .inl (E.1 0, 1000, .inl (fun _ => 0))), (w25, .inl (E.1 0, 8000, .inl (fun _ => 0))), (w28, .inl (E.1 0, 3, .inl (fun _ => 0))), (w31, .inl (E.1 0, 900, .inl (fun _ => 0))), (w34, .inl (E.1 1, 108000, .inl (fun _ => 0))), (w37, .inl (E.1 0, 400, .inl (fun _ => 0))), (w40, .inl (E.1 0, 56, .inl (fo_alp 7)))] h48 := by rw [eh48]; exact um_L.put hL 14 rfl _
  refine lv_dup hx hb dF_init_152 rfl ?_
  refine lv_bipush (v := 7) hx hb dF_init_153 (by decide) ?_
  refine lv_bipush (v := 71) hx hb dF_init_155 (by decide) ?_
  refine ur_iast hx hb hV hI 0 (um_L.at hL 14 rfl) rfl (vp_in_nI (n := 7) (by decide) (by decide)) dF_init_157 (fun H locs hI => ?_)
  obtain ⟨h49, eh49⟩ : ∃ z : ur_M, z = va_up h48 w40 (some (.inl (E.1 0, 56, .inl (fo_alp 8)))) := ⟨_, rfl⟩
  replace hI : ur_I D vwCl (ur_A h s.heap.size) s.heap h49 H locs := by rw [eh49, fo_alp_s (k := 7) (k' := 8) (i := (Int32.toNatClampNeg 7)) (v := 71) rfl rfl rfl]; exact hI
  replace hL : um_L [(q, .inr (7, [.ref w1, .ref w4, .ref w7, .long 0, .ref w10, .ref w13, .ref w16, .ref w19, .int 0, .ref w22, .int 0, .ref w25, .ref w28, .ref w31, .ref w34, .ref w37, .int 0, .null])), (w1, .inl (E.1 0, 4000, .inl (fun _ => 0))), (w4, .inl (E.1 0, 38400, .inl (fun _ => 0))), (w7, .inl (E.1 0, 4, .inl (fun _ => 0))), (w10, .inl (E.1 5, 10, .inr (.inl (fun _ => 0)))), (w13, .inl (E.1 6, 10, .inl (fun _ => 0))), (w16, .inl (E.1 0, 10, .inl (fun _ => 0))), (w19, .inl (E.1 0, 10, .inl (fun _ => 0))), (w22, .inl (E.1 0, 1000, .inl (fun _ => 0))), (w25, .inl (E.1 0, 8000, .inl (fun _ => 0))), (w28, .inl (E.1 0, 3, .inl (fun _ => 0))), (w31, .inl (E.1 0, 900, .inl (fun _ => 0))), (w34, .inl (E.1 1, 108000, .inl (fun _ => 0))), (w37, .inl (E.1 0, 400, .inl (fun _ => 0))), (w40, .inl (E.1 0, 56, .inl (fo_alp 8)))] h49 := by rw [eh49]; exact um_L.put hL 14 rfl _
  refine lv_dup hx hb dF_init_158 rfl ?_
  refine lv_bipush (v := 8) hx hb dF_init_159 (by decide) ?_
  refine lv_bipush (v := 72) hx hb dF_init_161 (by decide) ?_
  refine ur_iast hx hb hV hI 0 (um_L.at hL 14 rfl) rfl (vp_in_nI (n := 8) (by decide) (by decide)) dF_init_163 (fun H locs hI => ?_)
  obtain ⟨h50, eh50⟩ : ∃ z : ur_M, z = va_up h49 w40 (some (.inl (E.1 0, 56, .inl (fo_alp 9)))) := ⟨_, rfl⟩
  replace hI : ur_I D vwCl (ur_A h s.heap.size) s.heap h50 H locs := by rw [eh50, fo_alp_s (k := 8) (k' := 9) (i := (Int32.toNatClampNeg 8)) (v := 72) rfl rfl rfl]; exact hI
  replace hL : um_L [(q, .inr (7, [.ref w1, .ref w4, .ref w7, .long 0, .ref w10, .ref w13, .ref w16, .ref w19, .int 0, .ref w22, .int 0, .ref w25, .ref w28, .ref w31, .ref w34, .ref w37, .int 0, .null])), (w1, .inl (E.1 0, 4000, .inl (fun _ => 0))), (w4, .inl (E.1 0, 38400, .inl (fun _ => 0))), (w7, .inl (E.1 0, 4, .inl (fun _ => 0))), (w10, .inl (E.1 5, 10, .inr (.inl (fun _ => 0)))), (w13, .inl (E.1 6, 10, .inl (fun _ => 0))), (w16, .inl (E.1 0, 10, .inl (fun _ => 0))), (w19, .inl (E.1 0, 10, .inl (fun _ => 0))), (w22, .inl (E.1 0, 1000, .inl (fun _ => 0))), (w25, .inl (E.1 0, 8000, .inl (fun _ => 0))), (w28, .inl (E.1 0, 3, .inl (fun _ => 0))), (w31, .inl (E.1 0, 900, .inl (fun _ => 0))), (w34, .inl (E.1 1, 108000, .inl (fun _ => 0))), (w37, .inl (E.1 0, 400, .inl (fun _ => 0))), (w40, .inl (E.1 0, 56, .inl (fo_alp 9)))] h50 := by rw [eh50]; exact um_L.put hL 14 rfl _
  refine lv_dup hx hb dF_init_164 rfl ?_
  refine lv_bipush (v := 9) hx hb dF_init_165 (by decide) ?_
  refine lv_bipush (v := 73) hx hb dF_init_167 (by decide) ?_
  refine ur_iast hx hb hV hI 0 (um_L.at hL 14 rfl) rfl (vp_in_nI (n := 9) (by decide) (by decide)) dF_init_169 (fun H locs hI => ?_)
  obtain ⟨h51, eh51⟩ : ∃ z : ur_M, z = va_up h50 w40 (some (.inl (E.1 0, 56, .inl (fo_alp 10)))) := ⟨_, rfl⟩
  replace hI : ur_I D vwCl (ur_A h s.heap.size) s.heap h51 H locs := by rw [eh51, fo_alp_s (k := 9) (k' := 10) (i := (Int32.toNatClampNeg 9)) (v := 73) rfl rfl rfl]; exact hI
  replace hL : um_L [(q, .inr (7, [.ref w1, .ref w4, .ref w7, .long 0, .ref w10, .ref w13, .ref w16, .ref w19, .int 0, .ref w22, .int 0, .ref w25, .ref w28, .ref w31, .ref w34, .ref w37, .int 0, .null])), (w1, .inl (E.1 0, 4000, .inl (fun _ => 0))), (w4, .inl (E.1 0, 38400, .inl (fun _ => 0))), (w7, .inl (E.1 0, 4, .inl (fun _ => 0))), (w10, .inl (E.1 5, 10, .inr (.inl (fun _ => 0)))), (w13, .inl (E.1 6, 10, .inl (fun _ => 0))), (w16, .inl (E.1 0, 10, .inl (fun _ => 0))), (w19, .inl (E.1 0, 10, .inl (fun _ => 0))), (w22, .inl (E.1 0, 1000, .inl (fun _ => 0))), (w25, .inl (E.1 0, 8000, .inl (fun _ => 0))), (w28, .inl (E.1 0, 3, .inl (fun _ => 0))), (w31, .inl (E.1 0, 900, .inl (fun _ => 0))), (w34, .inl (E.1 1, 108000, .inl (fun _ => 0))), (w37, .inl (E.1 0, 400, .inl (fun _ => 0))), (w40, .inl (E.1 0, 56, .inl (fo_alp 10)))] h51 := by rw [eh51]; exact um_L.put hL 14 rfl _
  refine lv_dup hx hb dF_init_170 rfl ?_
  refine lv_bipush (v := 10) hx hb dF_init_171 (by decide) ?_
  refine lv_bipush (v := 126) hx hb dF_init_173 (by decide) ?_
  refine ur_iast hx hb hV hI 0 (um_L.at hL 14 rfl) rfl (vp_in_nI (n := 10) (by decide) (by decide)) dF_init_175 (fun H locs hI => ?_)
  obtain ⟨h52, eh52⟩ : ∃ z : ur_M, z = va_up h51 w40 (some (.inl (E.1 0, 56, .inl (fo_alp 11)))) := ⟨_, rfl⟩
  replace hI : ur_I D vwCl (ur_A h s.heap.size) s.heap h52 H locs := by rw [eh52, fo_alp_s (k := 10) (k' := 11) (i := (Int32.toNatClampNeg 10)) (v := 126) rfl rfl rfl]; exact hI
  replace hL : um_L [(q, .inr (7, [.ref w1, .ref w4, .ref w7, .long 0, .ref w10, .ref w13, .ref w16, .ref w19, .int 0, .ref w22, .int 0, .ref w25, .ref w28, .ref w31, .ref w34, .ref w37, .int 0, .null])), (w1, .inl (E.1 0, 4000, .inl (fun _ => 0))), (w4, .inl (E.1 0, 38400, .inl (fun _ => 0))), (w7, .inl (E.1 0, 4, .inl (fun _ => 0))), (w10, .inl (E.1 5, 10, .inr (.inl (fun _ => 0)))), (w13, .inl (E.1 6, 10, .inl (fun _ => 0))), (w16, .inl (E.1 0, 10, .inl (fun _ => 0))), (w19, .inl (E.1 0, 10, .inl (fun _ => 0))), (w22, .inl (E.1 0, 1000, .inl (fun _ => 0))), (w25, .inl (E.1 0, 8000, .inl (fun _ => 0))), (w28, .inl (E.1 0, 3, .inl (fun _ => 0))), (w31, .inl (E.1 0, 900, .inl (fun _ => 0))), (w34, .inl (E.1 1, 108000, .inl (fun _ => 0))), (w37, .inl (E.1 0, 400, .inl (fun _ => 0))), (w40, .inl (E.1 0, 56, .inl (fo_alp 11)))] h52 := by rw [eh52]; exact um_L.put hL 14 rfl _
  refine lv_dup hx hb dF_init_176 rfl ?_
  refine lv_bipush (v := 11) hx hb dF_init_177 (by decide) ?_
  refine lv_bipush (v := 74) hx hb dF_init_179 (by decide) ?_
  refine ur_iast hx hb hV hI 0 (um_L.at hL 14 rfl) rfl (vp_in_nI (n := 11) (by decide) (by decide)) dF_init_181 (fun H locs hI => ?_)
  obtain ⟨h53, eh53⟩ : ∃ z : ur_M, z = va_up h52 w40 (some (.inl (E.1 0, 56, .inl (fo_alp 12)))) := ⟨_, rfl⟩
  replace hI : ur_I D vwCl (ur_A h s.heap.size) s.heap h53 H locs := by rw [eh53, fo_alp_s (k := 11) (k' := 12) (i := (Int32.toNatClampNeg 11)) (v := 74) rfl rfl rfl]; exact hI
  replace hL : um_L [(q, .inr (7, [.ref w1, .ref w4, .ref w7, .long 0, .ref w10, .ref w13, .ref w16, .ref w19, .int 0, .ref w22, .int 0, .ref w25, .ref w28, .ref w31, .ref w34, .ref w37, .int 0, .null])), (w1, .inl (E.1 0, 4000, .inl (fun _ => 0))), (w4, .inl (E.1 0, 38400, .inl (fun _ => 0))), (w7, .inl (E.1 0, 4, .inl (fun _ => 0))), (w10, .inl (E.1 5, 10, .inr (.inl (fun _ => 0)))), (w13, .inl (E.1 6, 10, .inl (fun _ => 0))), (w16, .inl (E.1 0, 10, .inl (fun _ => 0))), (w19, .inl (E.1 0, 10, .inl (fun _ => 0))), (w22, .inl (E.1 0, 1000, .inl (fun _ => 0))), (w25, .inl (E.1 0, 8000, .inl (fun _ => 0))), (w28, .inl (E.1 0, 3, .inl (fun _ => 0))), (w31, .inl (E.1 0, 900, .inl (fun _ => 0))), (w34, .inl (E.1 1, 108000, .inl (fun _ => 0))), (w37, .inl (E.1 0, 400, .inl (fun _ => 0))), (w40, .inl (E.1 0, 56, .inl (fo_alp 12)))] h53 := by rw [eh53]; exact um_L.put hL 14 rfl _
  refine lv_dup hx hb dF_init_182 rfl ?_
  refine lv_bipush (v := 12) hx hb dF_init_183 (by decide) ?_
  refine lv_bipush (v := 75) hx hb dF_init_185 (by decide) ?_
  refine ur_iast hx hb hV hI 0 (um_L.at hL 14 rfl) rfl (vp_in_nI (n := 12) (by decide) (by decide)) dF_init_187 (fun H locs hI => ?_)
  obtain ⟨h54, eh54⟩ : ∃ z : ur_M, z = va_up h53 w40 (some (.inl (E.1 0, 56, .inl (fo_alp 13)))) := ⟨_, rfl⟩
  replace hI : ur_I D vwCl (ur_A h s.heap.size) s.heap h54 H locs := by rw [eh54, fo_alp_s (k := 12) (k' := 13) (i := (Int32.toNatClampNeg 12)) (v := 75) rfl rfl rfl]; exact hI
  replace hL : um_L [(q, .inr (7, [.ref w1, .ref w4, .ref w7, .long 0, .ref w10, .ref w13, .ref w16, .ref w19, .int 0, .ref w22, .int 0, .ref w25, .ref w28, .ref w31, .ref w34, .ref w37, .int 0, .null])), (w1, .inl (E.1 0, 4000, .inl (fun _ => 0))), (w4, .inl (E.1 0, 38400, .inl (fun _ => 0))), (w7, .inl (E.1 0, 4, .inl (fun _ => 0))), (w10, .inl (E.1 5, 10, .inr (.inl (fun _ => 0)))), (w13, .inl (E.1 6, 10, .inl (fun _ => 0))), (w16, .inl (E.1 0, 10, .inl (fun _ => 0))), (w19, .inl (E.1 0, 10, .inl (fun _ => 0))), (w22, .inl (E.1 0, 1000, .inl (fun _ => 0))), (w25, .inl (E.1 0, 8000, .inl (fun _ => 0))), (w28, .inl (E.1 0, 3, .inl (fun _ => 0))), (w31, .inl (E.1 0, 900, .inl (fun _ => 0))), (w34, .inl (E.1 1, 108000, .inl (fun _ => 0))), (w37, .inl (E.1 0, 400, .inl (fun _ => 0))), (w40, .inl (E.1 0, 56, .inl (fo_alp 13)))] h54 := by rw [eh54]; exact um_L.put hL 14 rfl _
  refine lv_dup hx hb dF_init_188 rfl ?_
  refine lv_bipush (v := 13) hx hb dF_init_189 (by decide) ?_
  refine lv_bipush (v := 76) hx hb dF_init_191 (by decide) ?_
  refine ur_iast hx hb hV hI 0 (um_L.at hL 14 rfl) rfl (vp_in_nI (n := 13) (by decide) (by decide)) dF_init_193 (fun H locs hI => ?_)
  obtain ⟨h55, eh55⟩ : ∃ z : ur_M, z = va_up h54 w40 (some (.inl (E.1 0, 56, .inl (fo_alp 14)))) := ⟨_, rfl⟩
  replace hI : ur_I D vwCl (ur_A h s.heap.size) s.heap h55 H locs := by rw [eh55, fo_alp_s (k := 13) (k' := 14) (i := (Int32.toNatClampNeg 13)) (v := 76) rfl rfl rfl]; exact hI
  replace hL : um_L [(q, .inr (7, [.ref w1, .ref w4, .ref w7, .long 0, .ref w10, .ref w13, .ref w16, .ref w19, .int 0, .ref w22, .int 0, .ref w25, .ref w28, .ref w31, .ref w34, .ref w37, .int 0, .null])), (w1, .inl (E.1 0, 4000, .inl (fun _ => 0))), (w4, .inl (E.1 0, 38400, .inl (fun _ => 0))), (w7, .inl (E.1 0, 4, .inl (fun _ => 0))), (w10, .inl (E.1 5, 10, .inr (.inl (fun _ => 0)))), (w13, .inl (E.1 6, 10, .inl (fun _ => 0))), (w16, .inl (E.1 0, 10, .inl (fun _ => 0))), (w19, .inl (E.1 0, 10, .inl (fun _ => 0))), (w22, .inl (E.1 0, 1000, .inl (fun _ => 0))), (w25, .inl (E.1 0, 8000, .inl (fun _ => 0))), (w28, .inl (E.1 0, 3, .inl (fun _ => 0))), (w31, .inl (E.1 0, 900, .inl (fun _ => 0))), (w34, .inl (E.1 1, 108000, .inl (fun _ => 0))), (w37, .inl (E.1 0, 400, .inl (fun _ => 0))), (w40, .inl (E.1 0, 56, .inl (fo_alp 14)))] h55 := by rw [eh55]; exact um_L.put hL 14 rfl _
  refine lv_dup hx hb dF_init_194 rfl ?_
  refine lv_bipush (v := 14) hx hb dF_init_195 (by decide) ?_
  refine lv_bipush (v := 77) hx hb dF_init_197 (by decide) ?_
  refine ur_iast hx hb hV hI 0 (um_L.at hL 14 rfl) rfl (vp_in_nI (n := 14) (by decide) (by decide)) dF_init_199 (fun H locs hI => ?_)
  obtain ⟨h56, eh56⟩ : ∃ z : ur_M, z = va_up h55 w40 (some (.inl (E.1 0, 56, .inl (fo_alp 15)))) := ⟨_, rfl⟩
  replace hI : ur_I D vwCl (ur_A h s.heap.size) s.heap h56 H locs := by rw [eh56, fo_alp_s (k := 14) (k' := 15) (i := (Int32.toNatClampNeg 14)) (v := 77) rfl rfl rfl]; exact hI
  replace hL : um_L [(q, .inr (7, [.ref w1, .ref w4, .ref w7, .long 0, .ref w10, .ref w13, .ref w16, .ref w19, .int 0, .ref w22, .int 0, .ref w25, .ref w28, .ref w31, .ref w34, .ref w37, .int 0, .null])), (w1, .inl (E.1 0, 4000, .inl (fun _ => 0))), (w4, .inl (E.1 0, 38400, .inl (fun _ => 0))), (w7, .inl (E.1 0, 4, .inl (fun _ => 0))), (w10, .inl (E.1 5, 10, .inr (.inl (fun _ => 0)))), (w13, .inl (E.1 6, 10, .inl (fun _ => 0))), (w16, .inl (E.1 0, 10, .inl (fun _ => 0))), (w19, .inl (E.1 0, 10, .inl (fun _ => 0))), (w22, .inl (E.1 0, 1000, .inl (fun _ => 0))), (w25, .inl (E.1 0, 8000, .inl (fun _ => 0))), (w28, .inl (E.1 0, 3, .inl (fun _ => 0))), (w31, .inl (E.1 0, 900, .inl (fun _ => 0))), (w34, .inl (E.1 1, 108000, .inl (fun _ => 0))), (w37, .inl (E.1 0, 400, .inl (fun _ => 0))), (w40, .inl (E.1 0, 56, .inl (fo_alp 15)))] h56 := by rw [eh56]; exact um_L.put hL 14 rfl _
  refine lv_dup hx hb dF_init_200 rfl ?_
  refine lv_bipush (v := 15) hx hb dF_init_201 (by decide) ?_
  refine lv_bipush (v := 78) hx hb dF_init_203 (by decide) ?_
  refine ur_iast hx hb hV hI 0 (um_L.at hL 14 rfl) rfl (vp_in_nI (n := 15) (by decide) (by decide)) dF_init_205 (fun H locs hI => ?_)
  obtain ⟨h57, eh57⟩ : ∃ z : ur_M, z = va_up h56 w40 (some (.inl (E.1 0, 56, .inl (fo_alp 16)))) := ⟨_, rfl⟩
  replace hI : ur_I D vwCl (ur_A h s.heap.size) s.heap h57 H locs := by rw [eh57, fo_alp_s (k := 15) (k' := 16) (i := (Int32.toNatClampNeg 15)) (v := 78) rfl rfl rfl]; exact hI
  replace hL : um_L [(q, .inr (7, [.ref w1, .ref w4, .ref w7, .long 0, .ref w10, .ref w13, .ref w16, .ref w19, .int 0, .ref w22, .int 0, .ref w25, .ref w28, .ref w31, .ref w34, .ref w37, .int 0, .null])), (w1, .inl (E.1 0, 4000, .inl (fun _ => 0))), (w4, .inl (E.1 0, 38400, .inl (fun _ => 0))), (w7, .inl (E.1 0, 4, .inl (fun _ => 0))), (w10, .inl (E.1 5, 10, .inr (.inl (fun _ => 0)))), (w13, .inl (E.1 6, 10, .inl (fun _ => 0))), (w16, .inl (E.1 0, 10, .inl (fun _ => 0))), (w19, .inl (E.1 0, 10, .inl (fun _ => 0))), (w22, .inl (E.1 0, 1000, .inl (fun _ => 0))), (w25, .inl (E.1 0, 8000, .inl (fun _ => 0))), (w28, .inl (E.1 0, 3, .inl (fun _ => 0))), (w31, .inl (E.1 0, 900, .inl (fun _ => 0))), (w34, .inl (E.1 1, 108000, .inl (fun _ => 0))), (w37, .inl (E.1 0, 400, .inl (fun _ => 0))), (w40, .inl (E.1 0, 56, .inl (fo_alp 16)))] h57 := by rw [eh57]; exact um_L.put hL 14 rfl _
  refine lv_dup hx hb dF_init_206 rfl ?_
  refine lv_bipush (v := 16) hx hb dF_init_207 (by decide) ?_
  refine lv_bipush (v := 79) hx hb dF_init_209 (by decide) ?_
  refine ur_iast hx hb hV hI 0 (um_L.at hL 14 rfl) rfl (vp_in_nI (n := 16) (by decide) (by decide)) dF_init_211 (fun H locs hI => ?_)
  obtain ⟨h58, eh58⟩ : ∃ z : ur_M, z = va_up h57 w40 (some (.inl (E.1 0, 56, .inl (fo_alp 17)))) := ⟨_, rfl⟩
  replace hI : ur_I D vwCl (ur_A h s.heap.size) s.heap h58 H locs := by rw [eh58, fo_alp_s (k := 16) (k' := 17) (i := (Int32.toNatClampNeg 16)) (v := 79) rfl rfl rfl]; exact hI
  replace hL : um_L [(q, .inr (7, [.ref w1, .ref w4, .ref w7, .long 0, .ref w10, .ref w13, .ref w16, .ref w19, .int 0, .ref w22, .int 0, .ref w25, .ref w28, .ref w31, .ref w34, .ref w37, .int 0, .null])), (w1, .inl (E.1 0, 4000, .inl (fun _ => 0))), (w4, .inl (E.1 0, 38400, .inl (fun _ => 0))), (w7, .inl (E.1 0, 4, .inl (fun _ => 0))), (w10, .inl (E.1 5, 10, .inr (.inl (fun _ => 0)))), (w13, .inl (E.1 6, 10, .inl (fun _ => 0))), (w16, .inl (E.1 0, 10, .inl (fun _ => 0))), (w19, .inl (E.1 0, 10, .inl (fun _ => 0))), (w22, .inl (E.1 0, 1000, .inl (fun _ => 0))), (w25, .inl (E.1 0, 8000, .inl (fun _ => 0))), (w28, .inl (E.1 0, 3, .inl (fun _ => 0))), (w31, .inl (E.1 0, 900, .inl (fun _ => 0))), (w34, .inl (E.1 1, 108000, .inl (fun _ => 0))), (w37, .inl (E.1 0, 400, .inl (fun _ => 0))), (w40, .inl (E.1 0, 56, .inl (fo_alp 17)))] h58 := by rw [eh58]; exact um_L.put hL 14 rfl _
  refine lv_dup hx hb dF_init_212 rfl ?_
  refine lv_bipush (v := 17) hx hb dF_init_213 (by decide) ?_
  refine lv_bipush (v := 80) hx hb dF_init_215 (by decide) ?_
  refine ur_iast hx hb hV hI 0 (um_L.at hL 14 rfl) rfl (vp_in_nI (n := 17) (by decide) (by decide)) dF_init_217 (fun H locs hI => ?_)
  obtain ⟨h59, eh59⟩ : ∃ z : ur_M, z = va_up h58 w40 (some (.inl (E.1 0, 56, .inl (fo_alp 18)))) := ⟨_, rfl⟩
  replace hI : ur_I D vwCl (ur_A h s.heap.size) s.heap h59 H locs := by rw [eh59, fo_alp_s (k := 17) (k' := 18) (i := (Int32.toNatClampNeg 17)) (v := 80) rfl rfl rfl]; exact hI
  replace hL : um_L [(q, .inr (7, [.ref w1, .ref w4, .ref w7, .long 0, .ref w10, .ref w13, .ref w16, .ref w19, .int 0, .ref w22, .int 0, .ref w25, .ref w28, .ref w31, .ref w34, .ref w37, .int 0, .null])), (w1, .inl (E.1 0, 4000, .inl (fun _ => 0))), (w4, .inl (E.1 0, 38400, .inl (fun _ => 0))), (w7, .inl (E.1 0, 4, .inl (fun _ => 0))), (w10, .inl (E.1 5, 10, .inr (.inl (fun _ => 0)))), (w13, .inl (E.1 6, 10, .inl (fun _ => 0))), (w16, .inl (E.1 0, 10, .inl (fun _ => 0))), (w19, .inl (E.1 0, 10, .inl (fun _ => 0))), (w22, .inl (E.1 0, 1000, .inl (fun _ => 0))), (w25, .inl (E.1 0, 8000, .inl (fun _ => 0))), (w28, .inl (E.1 0, 3, .inl (fun _ => 0))), (w31, .inl (E.1 0, 900, .inl (fun _ => 0))), (w34, .inl (E.1 1, 108000, .inl (fun _ => 0))), (w37, .inl (E.1 0, 400, .inl (fun _ => 0))), (w40, .inl (E.1 0, 56, .inl (fo_alp 18)))] h59 := by rw [eh59]; exact um_L.put hL 14 rfl _
  refine lv_dup hx hb dF_init_218 rfl ?_
  refine lv_bipush (v := 18) hx hb dF_init_219 (by decide) ?_
  refine lv_bipush (v := 81) hx hb dF_init_221 (by decide) ?_
  refine ur_iast hx hb hV hI 0 (um_L.at hL 14 rfl) rfl (vp_in_nI (n := 18) (by decide) (by decide)) dF_init_223 (fun H locs hI => ?_)
  obtain ⟨h60, eh60⟩ : ∃ z : ur_M, z = va_up h59 w40 (some (.inl (E.1 0, 56, .inl (fo_alp 19)))) := ⟨_, rfl⟩
  replace hI : ur_I D vwCl (ur_A h s.heap.size) s.heap h60 H locs := by rw [eh60, fo_alp_s (k := 18) (k' := 19) (i := (Int32.toNatClampNeg 18)) (v := 81) rfl rfl rfl]; exact hI
  replace hL : um_L [(q, .inr (7, [.ref w1, .ref w4, .ref w7, .long 0, .ref w10, .ref w13, .ref w16, .ref w19, .int 0, .ref w22, .int 0, .ref w25, .ref w28, .ref w31, .ref w34, .ref w37, .int 0, .null])), (w1, .inl (E.1 0, 4000, .inl (fun _ => 0))), (w4, .inl (E.1 0, 38400, .inl (fun _ => 0))), (w7, .inl (E.1 0, 4, .inl (fun _ => 0))), (w10, .inl (E.1 5, 10, .inr (.inl (fun _ => 0)))), (w13, .inl (E.1 6, 10, .inl (fun _ => 0))), (w16, .inl (E.1 0, 10, .inl (fun _ => 0))), (w19, .inl (E.1 0, 10, .inl (fun _ => 0))), (w22, .inl (E.1 0, 1000, .inl (fun _ => 0))), (w25, .inl (E.1 0, 8000, .inl (fun _ => 0))), (w28, .inl (E.1 0, 3, .inl (fun _ => 0))), (w31, .inl (E.1 0, 900, .inl (fun _ => 0))), (w34, .inl (E.1 1, 108000, .inl (fun _ => 0))), (w37, .inl (E.1 0, 400, .inl (fun _ => 0))), (w40, .inl (E.1 0, 56, .inl (fo_alp 19)))] h60 := by rw [eh60]; exact um_L.put hL 14 rfl _
  refine lv_dup hx hb dF_init_224 rfl ?_
  refine lv_bipush (v := 19) hx hb dF_init_225 (by decide) ?_
  refine lv_bipush (v := 82) hx hb dF_init_227 (by decide) ?_
  refine ur_iast hx hb hV hI 0 (um_L.at hL 14 rfl) rfl (vp_in_nI (n := 19) (by decide) (by decide)) dF_init_229 (fun H locs hI => ?_)
  obtain ⟨h61, eh61⟩ : ∃ z : ur_M, z = va_up h60 w40 (some (.inl (E.1 0, 56, .inl (fo_alp 20)))) := ⟨_, rfl⟩
  replace hI : ur_I D vwCl (ur_A h s.heap.size) s.heap h61 H locs := by rw [eh61, fo_alp_s (k := 19) (k' := 20) (i := (Int32.toNatClampNeg 19)) (v := 82) rfl rfl rfl]; exact hI
  replace hL : um_L [(q, .inr (7, [.ref w1, .ref w4, .ref w7, .long 0, .ref w10, .ref w13, .ref w16, .ref w19, .int 0, .ref w22, .int 0, .ref w25, .ref w28, .ref w31, .ref w34, .ref w37, .int 0, .null])), (w1, .inl (E.1 0, 4000, .inl (fun _ => 0))), (w4, .inl (E.1 0, 38400, .inl (fun _ => 0))), (w7, .inl (E.1 0, 4, .inl (fun _ => 0))), (w10, .inl (E.1 5, 10, .inr (.inl (fun _ => 0)))), (w13, .inl (E.1 6, 10, .inl (fun _ => 0))), (w16, .inl (E.1 0, 10, .inl (fun _ => 0))), (w19, .inl (E.1 0, 10, .inl (fun _ => 0))), (w22, .inl (E.1 0, 1000, .inl (fun _ => 0))), (w25, .inl (E.1 0, 8000, .inl (fun _ => 0))), (w28, .inl (E.1 0, 3, .inl (fun _ => 0))), (w31, .inl (E.1 0, 900, .inl (fun _ => 0))), (w34, .inl (E.1 1, 108000, .inl (fun _ => 0))), (w37, .inl (E.1 0, 400, .inl (fun _ => 0))), (w40, .inl (E.1 0, 56, .inl (fo_alp 20)))] h61 := by rw [eh61]; exact um_L.put hL 14 rfl _
  refine lv_dup hx hb dF_init_230 rfl ?_
  refine lv_bipush (v := 20) hx hb dF_init_231 (by decide) ?_
  refine lv_bipush (v := 91) hx hb dF_init_233 (by decide) ?_
  refine ur_iast hx hb hV hI 0 (um_L.at hL 14 rfl) rfl (vp_in_nI (n := 20) (by decide) (by decide)) dF_init_235 (fun H locs hI => ?_)
  obtain ⟨h62, eh62⟩ : ∃ z : ur_M, z = va_up h61 w40 (some (.inl (E.1 0, 56, .inl (fo_alp 21)))) := ⟨_, rfl⟩
  replace hI : ur_I D vwCl (ur_A h s.heap.size) s.heap h62 H locs := by rw [eh62, fo_alp_s (k := 20) (k' := 21) (i := (Int32.toNatClampNeg 20)) (v := 91) rfl rfl rfl]; exact hI
  replace hL : um_L [(q, .inr (7, [.ref w1, .ref w4, .ref w7, .long 0, .ref w10, .ref w13, .ref w16, .ref w19, .int 0, .ref w22, .int 0, .ref w25, .ref w28, .ref w31, .ref w34, .ref w37, .int 0, .null])), (w1, .inl (E.1 0, 4000, .inl (fun _ => 0))), (w4, .inl (E.1 0, 38400, .inl (fun _ => 0))), (w7, .inl (E.1 0, 4, .inl (fun _ => 0))), (w10, .inl (E.1 5, 10, .inr (.inl (fun _ => 0)))), (w13, .inl (E.1 6, 10, .inl (fun _ => 0))), (w16, .inl (E.1 0, 10, .inl (fun _ => 0))), (w19, .inl (E.1 0, 10, .inl (fun _ => 0))), (w22, .inl (E.1 0, 1000, .inl (fun _ => 0))), (w25, .inl (E.1 0, 8000, .inl (fun _ => 0))), (w28, .inl (E.1 0, 3, .inl (fun _ => 0))), (w31, .inl (E.1 0, 900, .inl (fun _ => 0))), (w34, .inl (E.1 1, 108000, .inl (fun _ => 0))), (w37, .inl (E.1 0, 400, .inl (fun _ => 0))), (w40, .inl (E.1 0, 56, .inl (fo_alp 21)))] h62 := by rw [eh62]; exact um_L.put hL 14 rfl _
  refine lv_dup hx hb dF_init_236 rfl ?_
  refine lv_bipush (v := 21) hx hb dF_init_237 (by decide) ?_
  refine lv_bipush (v := 35) hx hb dF_init_239 (by decide) ?_
  refine ur_iast hx hb hV hI 0 (um_L.at hL 14 rfl) rfl (vp_in_nI (n := 21) (by decide) (by decide)) dF_init_241 (fun H locs hI => ?_)
  obtain ⟨h63, eh63⟩ : ∃ z : ur_M, z = va_up h62 w40 (some (.inl (E.1 0, 56, .inl (fo_alp 22)))) := ⟨_, rfl⟩
  replace hI : ur_I D vwCl (ur_A h s.heap.size) s.heap h63 H locs := by rw [eh63, fo_alp_s (k := 21) (k' := 22) (i := (Int32.toNatClampNeg 21)) (v := 35) rfl rfl rfl]; exact hI
  replace hL : um_L [(q, .inr (7, [.ref w1, .ref w4, .ref w7, .long 0, .ref w10, .ref w13, .ref w16, .ref w19, .int 0, .ref w22, .int 0, .ref w25, .ref w28, .ref w31, .ref w34, .ref w37, .int 0, .null])), (w1, .inl (E.1 0, 4000, .inl (fun _ => 0))), (w4, .inl (E.1 0, 38400, .inl (fun _ => 0))), (w7, .inl (E.1 0, 4, .inl (fun _ => 0))), (w10, .inl (E.1 5, 10, .inr (.inl (fun _ => 0)))), (w13, .inl (E.1 6, 10, .inl (fun _ => 0))), (w16, .inl (E.1 0, 10, .inl (fun _ => 0))), (w19, .inl (E.1 0, 10, .inl (fun _ => 0))), (w22, .inl (E.1 0, 1000, .inl (fun _ => 0))), (w25, .inl (E.1 0, 8000, .inl (fun _ => 0))), (w28, .inl (E.1 0, 3, .inl (fun _ => 0))), (w31, .inl (E.1 0, 900, .inl (fun _ => 0))), (w34, .inl (E.1 1, 108000, .inl (fun _ => 0))), (w37, .inl (E.1 0, 400, .inl (fun _ => 0))), (w40, .inl (E.1 0, 56, .inl (fo_alp 22)))] h63 := by rw [eh63]; exact um_L.put hL 14 rfl _
  refine lv_dup hx hb dF_init_242 rfl ?_
  refine lv_bipush (v := 22) hx hb dF_init_243 (by decide) ?_
  refine lv_bipush (v := 83) hx hb dF_init_245 (by decide) ?_
  refine ur_iast hx hb hV hI 0 (um_L.at hL 14 rfl) rfl (vp_in_nI (n := 22) (by decide) (by decide)) dF_init_247 (fun H locs hI => ?_)
  obtain ⟨h64, eh64⟩ : ∃ z : ur_M, z = va_up h63 w40 (some (.inl (E.1 0, 56, .inl (fo_alp 23)))) := ⟨_, rfl⟩
  replace hI : ur_I D vwCl (ur_A h s.heap.size) s.heap h64 H locs := by rw [eh64, fo_alp_s (k := 22) (k' := 23) (i := (Int32.toNatClampNeg 22)) (v := 83) rfl rfl rfl]; exact hI
  replace hL : um_L [(q, .inr (7, [.ref w1, .ref w4, .ref w7, .long 0, .ref w10, .ref w13, .ref w16, .ref w19, .int 0, .ref w22, .int 0, .ref w25, .ref w28, .ref w31, .ref w34, .ref w37, .int 0, .null])), (w1, .inl (E.1 0, 4000, .inl (fun _ => 0))), (w4, .inl (E.1 0, 38400, .inl (fun _ => 0))), (w7, .inl (E.1 0, 4, .inl (fun _ => 0))), (w10, .inl (E.1 5, 10, .inr (.inl (fun _ => 0)))), (w13, .inl (E.1 6, 10, .inl (fun _ => 0))), (w16, .inl (E.1 0, 10, .inl (fun _ => 0))), (w19, .inl (E.1 0, 10, .inl (fun _ => 0))), (w22, .inl (E.1 0, 1000, .inl (fun _ => 0))), (w25, .inl (E.1 0, 8000, .inl (fun _ => 0))), (w28, .inl (E.1 0, 3, .inl (fun _ => 0))), (w31, .inl (E.1 0, 900, .inl (fun _ => 0))), (w34, .inl (E.1 1, 108000, .inl (fun _ => 0))), (w37, .inl (E.1 0, 400, .inl (fun _ => 0))), (w40, .inl (E.1 0, 56, .inl (fo_alp 23)))] h64 := by rw [eh64]; exact um_L.put hL 14 rfl _
  refine lv_dup hx hb dF_init_248 rfl ?_
  refine lv_bipush (v := 23) hx hb dF_init_249 (by decide) ?_
  refine lv_bipush (v := 84) hx hb dF_init_251 (by decide) ?_
  refine ur_iast hx hb hV hI 0 (um_L.at hL 14 rfl) rfl (vp_in_nI (n := 23) (by decide) (by decide)) dF_init_253 (fun H locs hI => ?_)
  obtain ⟨h65, eh65⟩ : ∃ z : ur_M, z = va_up h64 w40 (some (.inl (E.1 0, 56, .inl (fo_alp 24)))) := ⟨_, rfl⟩
  replace hI : ur_I D vwCl (ur_A h s.heap.size) s.heap h65 H locs := by rw [eh65, fo_alp_s (k := 23) (k' := 24) (i := (Int32.toNatClampNeg 23)) (v := 84) rfl rfl rfl]; exact hI
  replace hL : um_L [(q, .inr (7, [.ref w1, .ref w4, .ref w7, .long 0, .ref w10, .ref w13, .ref w16, .ref w19, .int 0, .ref w22, .int 0, .ref w25, .ref w28, .ref w31, .ref w34, .ref w37, .int 0, .null])), (w1, .inl (E.1 0, 4000, .inl (fun _ => 0))), (w4, .inl (E.1 0, 38400, .inl (fun _ => 0))), (w7, .inl (E.1 0, 4, .inl (fun _ => 0))), (w10, .inl (E.1 5, 10, .inr (.inl (fun _ => 0)))), (w13, .inl (E.1 6, 10, .inl (fun _ => 0))), (w16, .inl (E.1 0, 10, .inl (fun _ => 0))), (w19, .inl (E.1 0, 10, .inl (fun _ => 0))), (w22, .inl (E.1 0, 1000, .inl (fun _ => 0))), (w25, .inl (E.1 0, 8000, .inl (fun _ => 0))), (w28, .inl (E.1 0, 3, .inl (fun _ => 0))), (w31, .inl (E.1 0, 900, .inl (fun _ => 0))), (w34, .inl (E.1 1, 108000, .inl (fun _ => 0))), (w37, .inl (E.1 0, 400, .inl (fun _ => 0))), (w40, .inl (E.1 0, 56, .inl (fo_alp 24)))] h65 := by rw [eh65]; exact um_L.put hL 14 rfl _
  refine lv_dup hx hb dF_init_254 rfl ?_
  refine lv_bipush (v := 24) hx hb dF_init_255 (by decide) ?_
  refine lv_bipush (v := 85) hx hb dF_init_257 (by decide) ?_
  refine ur_iast hx hb hV hI 0 (um_L.at hL 14 rfl) rfl (vp_in_nI (n := 24) (by decide) (by decide)) dF_init_259 (fun H locs hI => ?_)
  obtain ⟨h66, eh66⟩ : ∃ z : ur_M, z = va_up h65 w40 (some (.inl (E.1 0, 56, .inl (fo_alp 25)))) := ⟨_, rfl⟩
  replace hI : ur_I D vwCl (ur_A h s.heap.size) s.heap h66 H locs := by rw [eh66, fo_alp_s (k := 24) (k' := 25) (i := (Int32.toNatClampNeg 24)) (v := 85) rfl rfl rfl]; exact hI
  replace hL : um_L [(q, .inr (7, [.ref w1, .ref w4, .ref w7, .long 0, .ref w10, .ref w13, .ref w16, .ref w19, .int 0, .ref w22, .int 0, .ref w25, .ref w28, .ref w31, .ref w34, .ref w37, .int 0, .null])), (w1, .inl (E.1 0, 4000, .inl (fun _ => 0))), (w4, .inl (E.1 0, 38400, .inl (fun _ => 0))), (w7, .inl (E.1 0, 4, .inl (fun _ => 0))), (w10, .inl (E.1 5, 10, .inr (.inl (fun _ => 0)))), (w13, .inl (E.1 6, 10, .inl (fun _ => 0))), (w16, .inl (E.1 0, 10, .inl (fun _ => 0))), (w19, .inl (E.1 0, 10, .inl (fun _ => 0))), (w22, .inl (E.1 0, 1000, .inl (fun _ => 0))), (w25, .inl (E.1 0, 8000, .inl (fun _ => 0))), (w28, .inl (E.1 0, 3, .inl (fun _ => 0))), (w31, .inl (E.1 0, 900, .inl (fun _ => 0))), (w34, .inl (E.1 1, 108000, .inl (fun _ => 0))), (w37, .inl (E.1 0, 400, .inl (fun _ => 0))), (w40, .inl (E.1 0, 56, .inl (fo_alp 25)))] h66 := by rw [eh66]; exact um_L.put hL 14 rfl _
  refine lv_dup hx hb dF_init_260 rfl ?_
  refine lv_bipush (v := 25) hx hb dF_init_261 (by decide) ?_
  refine lv_bipush (v := 86) hx hb dF_init_263 (by decide) ?_
  refine ur_iast hx hb hV hI 0 (um_L.at hL 14 rfl) rfl (vp_in_nI (n := 25) (by decide) (by decide)) dF_init_265 (fun H locs hI => ?_)
  obtain ⟨h67, eh67⟩ : ∃ z : ur_M, z = va_up h66 w40 (some (.inl (E.1 0, 56, .inl (fo_alp 26)))) := ⟨_, rfl⟩
  replace hI : ur_I D vwCl (ur_A h s.heap.size) s.heap h67 H locs := by rw [eh67, fo_alp_s (k := 25) (k' := 26) (i := (Int32.toNatClampNeg 25)) (v := 86) rfl rfl rfl]; exact hI
  replace hL : um_L [(q, .inr (7, [.ref w1, .ref w4, .ref w7, .long 0, .ref w10, .ref w13, .ref w16, .ref w19, .int 0, .ref w22, .int 0, .ref w25, .ref w28, .ref w31, .ref w34, .ref w37, .int 0, .null])), (w1, .inl (E.1 0, 4000, .inl (fun _ => 0))), (w4, .inl (E.1 0, 38400, .inl (fun _ => 0))), (w7, .inl (E.1 0, 4, .inl (fun _ => 0))), (w10, .inl (E.1 5, 10, .inr (.inl (fun _ => 0)))), (w13, .inl (E.1 6, 10, .inl (fun _ => 0))), (w16, .inl (E.1 0, 10, .inl (fun _ => 0))), (w19, .inl (E.1 0, 10, .inl (fun _ => 0))), (w22, .inl (E.1 0, 1000, .inl (fun _ => 0))), (w25, .inl (E.1 0, 8000, .inl (fun _ => 0))), (w28, .inl (E.1 0, 3, .inl (fun _ => 0))), (w31, .inl (E.1 0, 900, .inl (fun _ => 0))), (w34, .inl (E.1 1, 108000, .inl (fun _ => 0))), (w37, .inl (E.1 0, 400, .inl (fun _ => 0))), (w40, .inl (E.1 0, 56, .inl (fo_alp 26)))] h67 := by rw [eh67]; exact um_L.put hL 14 rfl _
  refine lv_dup hx hb dF_init_266 rfl ?_
  refine lv_bipush (v := 26) hx hb dF_init_267 (by decide) ?_
  refine lv_bipush (v := 87) hx hb dF_init_269 (by decide) ?_
  refine ur_iast hx hb hV hI 0 (um_L.at hL 14 rfl) rfl (vp_in_nI (n := 26) (by decide) (by decide)) dF_init_271 (fun H locs hI => ?_)
  obtain ⟨h68, eh68⟩ : ∃ z : ur_M, z = va_up h67 w40 (some (.inl (E.1 0, 56, .inl (fo_alp 27)))) := ⟨_, rfl⟩
  replace hI : ur_I D vwCl (ur_A h s.heap.size) s.heap h68 H locs := by rw [eh68, fo_alp_s (k := 26) (k' := 27) (i := (Int32.toNatClampNeg 26)) (v := 87) rfl rfl rfl]; exact hI
  replace hL : um_L [(q, .inr (7, [.ref w1, .ref w4, .ref w7, .long 0, .ref w10, .ref w13, .ref w16, .ref w19, .int 0, .ref w22, .int 0, .ref w25, .ref w28, .ref w31, .ref w34, .ref w37, .int 0, .null])), (w1, .inl (E.1 0, 4000, .inl (fun _ => 0))), (w4, .inl (E.1 0, 38400, .inl (fun _ => 0))), (w7, .inl (E.1 0, 4, .inl (fun _ => 0))), (w10, .inl (E.1 5, 10, .inr (.inl (fun _ => 0)))), (w13, .inl (E.1 6, 10, .inl (fun _ => 0))), (w16, .inl (E.1 0, 10, .inl (fun _ => 0))), (w19, .inl (E.1 0, 10, .inl (fun _ => 0))), (w22, .inl (E.1 0, 1000, .inl (fun _ => 0))), (w25, .inl (E.1 0, 8000, .inl (fun _ => 0))), (w28, .inl (E.1 0, 3, .inl (fun _ => 0))), (w31, .inl (E.1 0, 900, .inl (fun _ => 0))), (w34, .inl (E.1 1, 108000, .inl (fun _ => 0))), (w37, .inl (E.1 0, 400, .inl (fun _ => 0))), (w40, .inl (E.1 0, 56, .inl (fo_alp 27)))] h68 := by rw [eh68]; exact um_L.put hL 14 rfl _
  refine lv_dup hx hb dF_init_272 rfl ?_
  refine lv_bipush (v := 27) hx hb dF_init_273 (by decide) ?_
  refine lv_bipush (v := 88) hx hb dF_init_275 (by decide) ?_
  refine ur_iast hx hb hV hI 0 (um_L.at hL 14 rfl) rfl (vp_in_nI (n := 27) (by decide) (by decide)) dF_init_277 (fun H locs hI => ?_)
  obtain ⟨h69, eh69⟩ : ∃ z : ur_M, z = va_up h68 w40 (some (.inl (E.1 0, 56, .inl (fo_alp 28)))) := ⟨_, rfl⟩
  replace hI : ur_I D vwCl (ur_A h s.heap.size) s.heap h69 H locs := by rw [eh69, fo_alp_s (k := 27) (k' := 28) (i := (Int32.toNatClampNeg 27)) (v := 88) rfl rfl rfl]; exact hI
  replace hL : um_L [(q, .inr (7, [.ref w1, .ref w4, .ref w7, .long 0, .ref w10, .ref w13, .ref w16, .ref w19, .int 0, .ref w22, .int 0, .ref w25, .ref w28, .ref w31, .ref w34, .ref w37, .int 0, .null])), (w1, .inl (E.1 0, 4000, .inl (fun _ => 0))), (w4, .inl (E.1 0, 38400, .inl (fun _ => 0))), (w7, .inl (E.1 0, 4, .inl (fun _ => 0))), (w10, .inl (E.1 5, 10, .inr (.inl (fun _ => 0)))), (w13, .inl (E.1 6, 10, .inl (fun _ => 0))), (w16, .inl (E.1 0, 10, .inl (fun _ => 0))), (w19, .inl (E.1 0, 10, .inl (fun _ => 0))), (w22, .inl (E.1 0, 1000, .inl (fun _ => 0))), (w25, .inl (E.1 0, 8000, .inl (fun _ => 0))), (w28, .inl (E.1 0, 3, .inl (fun _ => 0))), (w31, .inl (E.1 0, 900, .inl (fun _ => 0))), (w34, .inl (E.1 1, 108000, .inl (fun _ => 0))), (w37, .inl (E.1 0, 400, .inl (fun _ => 0))), (w40, .inl (E.1 0, 56, .inl (fo_alp 28)))] h69 := by rw [eh69]; exact um_L.put hL 14 rfl _
  refine lv_dup hx hb dF_init_278 rfl ?_
  refine lv_bipush (v := 28) hx hb dF_init_279 (by decide) ?_
  refine lv_bipush (v := 89) hx hb dF_init_281 (by decide) ?_
  refine ur_iast hx hb hV hI 0 (um_L.at hL 14 rfl) rfl (vp_in_nI (n := 28) (by decide) (by decide)) dF_init_283 (fun H locs hI => ?_)
  obtain ⟨h70, eh70⟩ : ∃ z : ur_M, z = va_up h69 w40 (some (.inl (E.1 0, 56, .inl (fo_alp 29)))) := ⟨_, rfl⟩
  replace hI : ur_I D vwCl (ur_A h s.heap.size) s.heap h70 H locs := by rw [eh70, fo_alp_s (k := 28) (k' := 29) (i := (Int32.toNatClampNeg 28)) (v := 89) rfl rfl rfl]; exact hI
  replace hL : um_L [(q, .inr (7, [.ref w1, .ref w4, .ref w7, .long 0, .ref w10, .ref w13, .ref w16, .ref w19, .int 0, .ref w22, .int 0, .ref w25, .ref w28, .ref w31, .ref w34, .ref w37, .int 0, .null])), (w1, .inl (E.1 0, 4000, .inl (fun _ => 0))), (w4, .inl (E.1 0, 38400, .inl (fun _ => 0))), (w7, .inl (E.1 0, 4, .inl (fun _ => 0))), (w10, .inl (E.1 5, 10, .inr (.inl (fun _ => 0)))), (w13, .inl (E.1 6, 10, .inl (fun _ => 0))), (w16, .inl (E.1 0, 10, .inl (fun _ => 0))), (w19, .inl (E.1 0, 10, .inl (fun _ => 0))), (w22, .inl (E.1 0, 1000, .inl (fun _ => 0))), (w25, .inl (E.1 0, 8000, .inl (fun _ => 0))), (w28, .inl (E.1 0, 3, .inl (fun _ => 0))), (w31, .inl (E.1 0, 900, .inl (fun _ => 0))), (w34, .inl (E.1 1, 108000, .inl (fun _ => 0))), (w37, .inl (E.1 0, 400, .inl (fun _ => 0))), (w40, .inl (E.1 0, 56, .inl (fo_alp 29)))] h70 := by rw [eh70]; exact um_L.put hL 14 rfl _
  refine lv_dup hx hb dF_init_284 rfl ?_
  refine lv_bipush (v := 29) hx hb dF_init_285 (by decide) ?_
  refine lv_bipush (v := 90) hx hb dF_init_287 (by decide) ?_
  refine ur_iast hx hb hV hI 0 (um_L.at hL 14 rfl) rfl (vp_in_nI (n := 29) (by decide) (by decide)) dF_init_289 (fun H locs hI => ?_)
  obtain ⟨h71, eh71⟩ : ∃ z : ur_M, z = va_up h70 w40 (some (.inl (E.1 0, 56, .inl (fo_alp 30)))) := ⟨_, rfl⟩
  replace hI : ur_I D vwCl (ur_A h s.heap.size) s.heap h71 H locs := by rw [eh71, fo_alp_s (k := 29) (k' := 30) (i := (Int32.toNatClampNeg 29)) (v := 90) rfl rfl rfl]; exact hI
  replace hL : um_L [(q, .inr (7, [.ref w1, .ref w4, .ref w7, .long 0, .ref w10, .ref w13, .ref w16, .ref w19, .int 0, .ref w22, .int 0, .ref w25, .ref w28, .ref w31, .ref w34, .ref w37, .int 0, .null])), (w1, .inl (E.1 0, 4000, .inl (fun _ => 0))), (w4, .inl (E.1 0, 38400, .inl (fun _ => 0))), (w7, .inl (E.1 0, 4, .inl (fun _ => 0))), (w10, .inl (E.1 5, 10, .inr (.inl (fun _ => 0)))), (w13, .inl (E.1 6, 10, .inl (fun _ => 0))), (w16, .inl (E.1 0, 10, .inl (fun _ => 0))), (w19, .inl (E.1 0, 10, .inl (fun _ => 0))), (w22, .inl (E.1 0, 1000, .inl (fun _ => 0))), (w25, .inl (E.1 0, 8000, .inl (fun _ => 0))), (w28, .inl (E.1 0, 3, .inl (fun _ => 0))), (w31, .inl (E.1 0, 900, .inl (fun _ => 0))), (w34, .inl (E.1 1, 108000, .inl (fun _ => 0))), (w37, .inl (E.1 0, 400, .inl (fun _ => 0))), (w40, .inl (E.1 0, 56, .inl (fo_alp 30)))] h71 := by rw [eh71]; exact um_L.put hL 14 rfl _
  refine lv_dup hx hb dF_init_290 rfl ?_
  refine lv_bipush (v := 30) hx hb dF_init_291 (by decide) ?_
  refine lv_bipush (v := 48) hx hb dF_init_293 (by decide) ?_
  refine ur_iast hx hb hV hI 0 (um_L.at hL 14 rfl) rfl (vp_in_nI (n := 30) (by decide) (by decide)) dF_init_295 (fun H locs hI => ?_)
  obtain ⟨h72, eh72⟩ : ∃ z : ur_M, z = va_up h71 w40 (some (.inl (E.1 0, 56, .inl (fo_alp 31)))) := ⟨_, rfl⟩
  replace hI : ur_I D vwCl (ur_A h s.heap.size) s.heap h72 H locs := by rw [eh72, fo_alp_s (k := 30) (k' := 31) (i := (Int32.toNatClampNeg 30)) (v := 48) rfl rfl rfl]; exact hI
  replace hL : um_L [(q, .inr (7, [.ref w1, .ref w4, .ref w7, .long 0, .ref w10, .ref w13, .ref w16, .ref w19, .int 0, .ref w22, .int 0, .ref w25, .ref w28, .ref w31, .ref w34, .ref w37, .int 0, .null])), (w1, .inl (E.1 0, 4000, .inl (fun _ => 0))), (w4, .inl (E.1 0, 38400, .inl (fun _ => 0))), (w7, .inl (E.1 0, 4, .inl (fun _ => 0))), (w10, .inl (E.1 5, 10, .inr (.inl (fun _ => 0)))), (w13, .inl (E.1 6, 10, .inl (fun _ => 0))), (w16, .inl (E.1 0, 10, .inl (fun _ => 0))), (w19, .inl (E.1 0, 10, .inl (fun _ => 0))), (w22, .inl (E.1 0, 1000, .inl (fun _ => 0))), (w25, .inl (E.1 0, 8000, .inl (fun _ => 0))), (w28, .inl (E.1 0, 3, .inl (fun _ => 0))), (w31, .inl (E.1 0, 900, .inl (fun _ => 0))), (w34, .inl (E.1 1, 108000, .inl (fun _ => 0))), (w37, .inl (E.1 0, 400, .inl (fun _ => 0))), (w40, .inl (E.1 0, 56, .inl (fo_alp 31)))] h72 := by rw [eh72]; exact um_L.put hL 14 rfl _
  refine lv_dup hx hb dF_init_296 rfl ?_
  refine lv_bipush (v := 31) hx hb dF_init_297 (by decide) ?_
  refine lv_bipush (v := 49) hx hb dF_init_299 (by decide) ?_
  refine ur_iast hx hb hV hI 0 (um_L.at hL 14 rfl) rfl (vp_in_nI (n := 31) (by decide) (by decide)) dF_init_301 (fun H locs hI => ?_)
  obtain ⟨h73, eh73⟩ : ∃ z : ur_M, z = va_up h72 w40 (some (.inl (E.1 0, 56, .inl (fo_alp 32)))) := ⟨_, rfl⟩
  replace hI : ur_I D vwCl (ur_A h s.heap.size) s.heap h73 H locs := by rw [eh73, fo_alp_s (k := 31) (k' := 32) (i := (Int32.toNatClampNeg 31)) (v := 49) rfl rfl rfl]; exact hI
  replace hL : um_L [(q, .inr (7, [.ref w1, .ref w4, .ref w7, .long 0, .ref w10, .ref w13, .ref w16, .ref w19, .int 0, .ref w22, .int 0, .ref w25, .ref w28, .ref w31, .ref w34, .ref w37, .int 0, .null])), (w1, .inl (E.1 0, 4000, .inl (fun _ => 0))), (w4, .inl (E.1 0, 38400, .inl (fun _ => 0))), (w7, .inl (E.1 0, 4, .inl (fun _ => 0))), (w10, .inl (E.1 5, 10, .inr (.inl (fun _ => 0)))), (w13, .inl (E.1 6, 10, .inl (fun _ => 0))), (w16, .inl (E.1 0, 10, .inl (fun _ => 0))), (w19, .inl (E.1 0, 10, .inl (fun _ => 0))), (w22, .inl (E.1 0, 1000, .inl (fun _ => 0))), (w25, .inl (E.1 0, 8000, .inl (fun _ => 0))), (w28, .inl (E.1 0, 3, .inl (fun _ => 0))), (w31, .inl (E.1 0, 900, .inl (fun _ => 0))), (w34, .inl (E.1 1, 108000, .inl (fun _ => 0))), (w37, .inl (E.1 0, 400, .inl (fun _ => 0))), (w40, .inl (E.1 0, 56, .inl (fo_alp 32)))] h73 := by rw [eh73]; exact um_L.put hL 14 rfl _
  refine lv_dup hx hb dF_init_302 rfl ?_
  refine lv_bipush (v := 32) hx hb dF_init_303 (by decide) ?_
  refine lv_bipush (v := 50) hx hb dF_init_305 (by decide) ?_
  refine ur_iast hx hb hV hI 0 (um_L.at hL 14 rfl) rfl (vp_in_nI (n := 32) (by decide) (by decide)) dF_init_307 (fun H locs hI => ?_)
  obtain ⟨h74, eh74⟩ : ∃ z : ur_M, z = va_up h73 w40 (some (.inl (E.1 0, 56, .inl (fo_alp 33)))) := ⟨_, rfl⟩
  replace hI : ur_I D vwCl (ur_A h s.heap.size) s.heap h74 H locs := by rw [eh74, fo_alp_s (k := 32) (k' := 33) (i := (Int32.toNatClampNeg 32)) (v := 50) rfl rfl rfl]; exact hI
  replace hL : um_L [(q, .inr (7, [.ref w1, .ref w4, .ref w7, .long 0, .ref w10, .ref w13, .ref w16, .ref w19, .int 0, .ref w22, .int 0, .ref w25, .ref w28, .ref w31, .ref w34, .ref w37, .int 0, .null])), (w1, .inl (E.1 0, 4000, .inl (fun _ => 0))), (w4, .inl (E.1 0, 38400, .inl (fun _ => 0))), (w7, .inl (E.1 0, 4, .inl (fun _ => 0))), (w10, .inl (E.1 5, 10, .inr (.inl (fun _ => 0)))), (w13, .inl (E.1 6, 10, .inl (fun _ => 0))), (w16, .inl (E.1 0, 10, .inl (fun _ => 0))), (w19, .inl (E.1 0, 10, .inl (fun _ => 0))), (w22, .inl (E.1 0, 1000, .inl (fun _ => 0))), (w25, .inl (E.1 0, 8000, .inl (fun _ => 0))), (w28, .inl (E.1 0, 3, .inl (fun _ => 0))), (w31, .inl (E.1 0, 900, .inl (fun _ => 0))), (w34, .inl (E.1 1, 108000, .inl (fun _ => 0))), (w37, .inl (E.1 0, 400, .inl (fun _ => 0))), (w40, .inl (E.1 0, 56, .inl (fo_alp 33)))] h74 := by rw [eh74]; exact um_L.put hL 14 rfl _
  refine lv_dup hx hb dF_init_308 rfl ?_
  refine lv_bipush (v := 33) hx hb dF_init_309 (by decide) ?_
  refine lv_bipush (v := 51) hx hb dF_init_311 (by decide) ?_
  refine ur_iast hx hb hV hI 0 (um_L.at hL 14 rfl) rfl (vp_in_nI (n := 33) (by decide) (by decide)) dF_init_313 (fun H locs hI => ?_)
  obtain ⟨h75, eh75⟩ : ∃ z : ur_M, z = va_up h74 w40 (some (.inl (E.1 0, 56, .inl (fo_alp 34)))) := ⟨_, rfl⟩
  replace hI : ur_I D vwCl (ur_A h s.heap.size) s.heap h75 H locs := by rw [eh75, fo_alp_s (k := 33) (k' := 34) (i := (Int32.toNatClampNeg 33)) (v := 51) rfl rfl rfl]; exact hI
  replace hL : um_L [(q, .inr (7, [.ref w1, .ref w4, .ref w7, .long 0, .ref w10, .ref w13, .ref w16, .ref w19, .int 0, .ref w22, .int 0, .ref w25, .ref w28, .ref w31, .ref w34, .ref w37, .int 0, .null])), (w1, .inl (E.1 0, 4000, .inl (fun _ => 0))), (w4, .inl (E.1 0, 38400, .inl (fun _ => 0))), (w7, .inl (E.1 0, 4, .inl (fun _ => 0))), (w10, .inl (E.1 5, 10, .inr (.inl (fun _ => 0)))), (w13, .inl (E.1 6, 10, .inl (fun _ => 0))), (w16, .inl (E.1 0, 10, .inl (fun _ => 0))), (w19, .inl (E.1 0, 10, .inl (fun _ => 0))), (w22, .inl (E.1 0, 1000, .inl (fun _ => 0))), (w25, .inl (E.1 0, 8000, .inl (fun _ => 0))), (w28, .inl (E.1 0, 3, .inl (fun _ => 0))), (w31, .inl (E.1 0, 900, .inl (fun _ => 0))), (w34, .inl (E.1 1, 108000, .inl (fun _ => 0))), (w37, .inl (E.1 0, 400, .inl (fun _ => 0))), (w40, .inl (E.1 0, 56, .inl (fo_alp 34)))] h75 := by rw [eh75]; exact um_L.put hL 14 rfl _
  refine lv_dup hx hb dF_init_314 rfl ?_
  refine lv_bipush (v := 34) hx hb dF_init_315 (by decide) ?_
  refine lv_bipush (v := 52) hx hb dF_init_317 (by decide) ?_
  refine ur_iast hx hb hV hI 0 (um_L.at hL 14 rfl) rfl (vp_in_nI (n := 34) (by decide) (by decide)) dF_init_319 (fun H locs hI => ?_)
  obtain ⟨h76, eh76⟩ : ∃ z : ur_M, z = va_up h75 w40 (some (.inl (E.1 0, 56, .inl (fo_alp 35)))) := ⟨_, rfl⟩
  replace hI : ur_I D vwCl (ur_A h s.heap.size) s.heap h76 H locs := by rw [eh76, fo_alp_s (k := 34) (k' := 35) (i := (Int32.toNatClampNeg 34)) (v := 52) rfl rfl rfl]; exact hI
  replace hL : um_L [(q, .inr (7, [.ref w1, .ref w4, .ref w7, .long 0, .ref w10, .ref w13, .ref w16, .ref w19, .int 0, .ref w22, .int 0, .ref w25, .ref w28, .ref w31, .ref w34, .ref w37, .int 0, .null])), (w1, .inl (E.1 0, 4000, .inl (fun _ => 0))), (w4, .inl (E.1 0, 38400, .inl (fun _ => 0))), (w7, .inl (E.1 0, 4, .inl (fun _ => 0))), (w10, .inl (E.1 5, 10, .inr (.inl (fun _ => 0)))), (w13, .inl (E.1 6, 10, .inl (fun _ => 0))), (w16, .inl (E.1 0, 10, .inl (fun _ => 0))), (w19, .inl (E.1 0, 10, .inl (fun _ => 0))), (w22, .inl (E.1 0, 1000, .inl (fun _ => 0))), (w25, .inl (E.1 0, 8000, .inl (fun _ => 0))), (w28, .inl (E.1 0, 3, .inl (fun _ => 0))), (w31, .inl (E.1 0, 900, .inl (fun _ => 0))), (w34, .inl (E.1 1, 108000, .inl (fun _ => 0))), (w37, .inl (E.1 0, 400, .inl (fun _ => 0))), (w40, .inl (E.1 0, 56, .inl (fo_alp 35)))] h76 := by rw [eh76]; exact um_L.put hL 14 rfl _
  refine lv_dup hx hb dF_init_320 rfl ?_
  refine lv_bipush (v := 35) hx hb dF_init_321 (by decide) ?_
  refine lv_bipush (v := 53) hx hb dF_init_323 (by decide) ?_
  refine ur_iast hx hb hV hI 0 (um_L.at hL 14 rfl) rfl (vp_in_nI (n := 35) (by decide) (by decide)) dF_init_325 (fun H locs hI => ?_)
  obtain ⟨h77, eh77⟩ : ∃ z : ur_M, z = va_up h76 w40 (some (.inl (E.1 0, 56, .inl (fo_alp 36)))) := ⟨_, rfl⟩
  replace hI : ur_I D vwCl (ur_A h s.heap.size) s.heap h77 H locs := by rw [eh77, fo_alp_s (k := 35) (k' := 36) (i := (Int32.toNatClampNeg 35)) (v := 53) rfl rfl rfl]; exact hI
  replace hL : um_L [(q, .inr (7, [.ref w1, .ref w4, .ref w7, .long 0, .ref w10, .ref w13, .ref w16, .ref w19, .int 0, .ref w22, .int 0, .ref w25, .ref w28, .ref w31, .ref w34, .ref w37, .int 0, .null])), (w1, .inl (E.1 0, 4000, .inl (fun _ => 0))), (w4, .inl (E.1 0, 38400, .inl (fun _ => 0))), (w7, .inl (E.1 0, 4, .inl (fun _ => 0))), (w10, .inl (E.1 5, 10, .inr (.inl (fun _ => 0)))), (w13, .inl (E.1 6, 10, .inl (fun _ => 0))), (w16, .inl (E.1 0, 10, .inl (fun _ => 0))), (w19, .inl (E.1 0, 10, .inl (fun _ => 0))), (w22, .inl (E.1 0, 1000, .inl (fun _ => 0))), (w25, .inl (E.1 0, 8000, .inl (fun _ => 0))), (w28, .inl (E.1 0, 3, .inl (fun _ => 0))), (w31, .inl (E.1 0, 900, .inl (fun _ => 0))), (w34, .inl (E.1 1, 108000, .inl (fun _ => 0))), (w37, .inl (E.1 0, 400, .inl (fun _ => 0))), (w40, .inl (E.1 0, 56, .inl (fo_alp 36)))] h77 := by rw [eh77]; exact um_L.put hL 14 rfl _
  refine lv_dup hx hb dF_init_326 rfl ?_
  refine lv_bipush (v := 36) hx hb dF_init_327 (by decide) ?_
  refine lv_bipush (v := 54) hx hb dF_init_329 (by decide) ?_
  refine ur_iast hx hb hV hI 0 (um_L.at hL 14 rfl) rfl (vp_in_nI (n := 36) (by decide) (by decide)) dF_init_331 (fun H locs hI => ?_)
  obtain ⟨h78, eh78⟩ : ∃ z : ur_M, z = va_up h77 w40 (some (.inl (E.1 0, 56, .inl (fo_alp 37)))) := ⟨_, rfl⟩
  replace hI : ur_I D vwCl (ur_A h s.heap.size) s.heap h78 H locs := by rw [eh78, fo_alp_s (k := 36) (k' := 37) (i := (Int32.toNatClampNeg 36)) (v := 54) rfl rfl rfl]; exact hI
  replace hL : um_L [(q, .inr (7, [.ref w1, .ref w4, .ref w7, .long 0, .ref w10, .ref w13, .ref w16, .ref w19, .int 0, .ref w22, .int 0, .ref w25, .ref w28, .ref w31, .ref w34, .ref w37, .int 0, .null])), (w1, .inl (E.1 0, 4000, .inl (fun _ => 0))), (w4, .inl (E.1 0, 38400, .inl (fun _ => 0))), (w7, .inl (E.1 0, 4, .inl (fun _ => 0))), (w10, .inl (E.1 5, 10, .inr (.inl (fun _ => 0)))), (w13, .inl (E.1 6, 10, .inl (fun _ => 0))), (w16, .inl (E.1 0, 10, .inl (fun _ => 0))), (w19, .inl (E.1 0, 10, .inl (fun _ => 0))), (w22, .inl (E.1 0, 1000, .inl (fun _ => 0))), (w25, .inl (E.1 0, 8000, .inl (fun _ => 0))), (w28, .inl (E.1 0, 3, .inl (fun _ => 0))), (w31, .inl (E.1 0, 900, .inl (fun _ => 0))), (w34, .inl (E.1 1, 108000, .inl (fun _ => 0))), (w37, .inl (E.1 0, 400, .inl (fun _ => 0))), (w40, .inl (E.1 0, 56, .inl (fo_alp 37)))] h78 := by rw [eh78]; exact um_L.put hL 14 rfl _
  refine lv_dup hx hb dF_init_332 rfl ?_
  refine lv_bipush (v := 37) hx hb dF_init_333 (by decide) ?_
  refine lv_bipush (v := 55) hx hb dF_init_335 (by decide) ?_
  refine ur_iast hx hb hV hI 0 (um_L.at hL 14 rfl) rfl (vp_in_nI (n := 37) (by decide) (by decide)) dF_init_337 (fun H locs hI => ?_)
  obtain ⟨h79, eh79⟩ : ∃ z : ur_M, z = va_up h78 w40 (some (.inl (E.1 0, 56, .inl (fo_alp 38)))) := ⟨_, rfl⟩
  replace hI : ur_I D vwCl (ur_A h s.heap.size) s.heap h79 H locs := by rw [eh79, fo_alp_s (k := 37) (k' := 38) (i := (Int32.toNatClampNeg 37)) (v := 55) rfl rfl rfl]; exact hI
  replace hL : um_L [(q, .inr (7, [.ref w1, .ref w4, .ref w7, .long 0, .ref w10, .ref w13, .ref w16, .ref w19, .int 0, .ref w22, .int 0, .ref w25, .ref w28, .ref w31, .ref w34, .ref w37, .int 0, .null])), (w1, .inl (E.1 0, 4000, .inl (fun _ => 0))), (w4, .inl (E.1 0, 38400, .inl (fun _ => 0))), (w7, .inl (E.1 0, 4, .inl (fun _ => 0))), (w10, .inl (E.1 5, 10, .inr (.inl (fun _ => 0)))), (w13, .inl (E.1 6, 10, .inl (fun _ => 0))), (w16, .inl (E.1 0, 10, .inl (fun _ => 0))), (w19, .inl (E.1 0, 10, .inl (fun _ => 0))), (w22, .inl (E.1 0, 1000, .inl (fun _ => 0))), (w25, .inl (E.1 0, 8000, .inl (fun _ => 0))), (w28, .inl (E.1 0, 3, .inl (fun _ => 0))), (w31, .inl (E.1 0, 900, .inl (fun _ => 0))), (w34, .inl (E.1 1, 108000, .inl (fun _ => 0))), (w37, .inl (E.1 0, 400, .inl (fun _ => 0))), (w40, .inl (E.1 0, 56, .inl (fo_alp 38)))] h79 := by rw [eh79]; exact um_L.put hL 14 rfl _
  refine lv_dup hx hb dF_init_338 rfl ?_
  refine lv_bipush (v := 38) hx hb dF_init_339 (by decide) ?_
  refine lv_bipush (v := 56) hx hb dF_init_341 (by decide) ?_
  refine ur_iast hx hb hV hI 0 (um_L.at hL 14 rfl) rfl (vp_in_nI (n := 38) (by decide) (by decide)) dF_init_343 (fun H locs hI => ?_)
  obtain ⟨h80, eh80⟩ : ∃ z : ur_M, z = va_up h79 w40 (some (.inl (E.1 0, 56, .inl (fo_alp 39)))) := ⟨_, rfl⟩
  replace hI : ur_I D vwCl (ur_A h s.heap.size) s.heap h80 H locs := by rw [eh80, fo_alp_s (k := 38) (k' := 39) (i := (Int32.toNatClampNeg 38)) (v := 56) rfl rfl rfl]; exact hI
  replace hL : um_L [(q, .inr (7, [.ref w1, .ref w4, .ref w7, .long 0, .ref w10, .ref w13, .ref w16, .ref w19, .int 0, .ref w22, .int 0, .ref w25, .ref w28, .ref w31, .ref w34, .ref w37, .int 0, .null])), (w1, .inl (E.1 0, 4000, .inl (fun _ => 0))), (w4, .inl (E.1 0, 38400, .inl (fun _ => 0))), (w7, .inl (E.1 0, 4, .inl (fun _ => 0))), (w10, .inl (E.1 5, 10, .inr (.inl (fun _ => 0)))), (w13, .inl (E.1 6, 10, .inl (fun _ => 0))), (w16, .inl (E.1 0, 10, .inl (fun _ => 0))), (w19, .inl (E.1 0, 10, .inl (fun _ => 0))), (w22, .inl (E.1 0, 1000, .inl (fun _ => 0))), (w25, .inl (E.1 0, 8000, .inl (fun _ => 0))), (w28, .inl (E.1 0, 3, .inl (fun _ => 0))), (w31, .inl (E.1 0, 900, .inl (fun _ => 0))), (w34, .inl (E.1 1, 108000, .inl (fun _ => 0))), (w37, .inl (E.1 0, 400, .inl (fun _ => 0))), (w40, .inl (E.1 0, 56, .inl (fo_alp 39)))] h80 := by rw [eh80]; exact um_L.put hL 14 rfl _
  refine lv_dup hx hb dF_init_344 rfl ?_
  refine lv_bipush (v := 39) hx hb dF_init_345 (by decide) ?_
  refine lv_bipush (v := 57) hx hb dF_init_347 (by decide) ?_
  refine ur_iast hx hb hV hI 0 (um_L.at hL 14 rfl) rfl (vp_in_nI (n := 39) (by decide) (by decide)) dF_init_349 (fun H locs hI => ?_)
  obtain ⟨h81, eh81⟩ : ∃ z : ur_M, z = va_up h80 w40 (some (.inl (E.1 0, 56, .inl (fo_alp 40)))) := ⟨_, rfl⟩
  replace hI : ur_I D vwCl (ur_A h s.heap.size) s.heap h81 H locs := by rw [eh81, fo_alp_s (k := 39) (k' := 40) (i := (Int32.toNatClampNeg 39)) (v := 57) rfl rfl rfl]; exact hI
  replace hL : um_L [(q, .inr (7, [.ref w1, .ref w4, .ref w7, .long 0, .ref w10, .ref w13, .ref w16, .ref w19, .int 0, .ref w22, .int 0, .ref w25, .ref w28, .ref w31, .ref w34, .ref w37, .int 0, .null])), (w1, .inl (E.1 0, 4000, .inl (fun _ => 0))), (w4, .inl (E.1 0, 38400, .inl (fun _ => 0))), (w7, .inl (E.1 0, 4, .inl (fun _ => 0))), (w10, .inl (E.1 5, 10, .inr (.inl (fun _ => 0)))), (w13, .inl (E.1 6, 10, .inl (fun _ => 0))), (w16, .inl (E.1 0, 10, .inl (fun _ => 0))), (w19, .inl (E.1 0, 10, .inl (fun _ => 0))), (w22, .inl (E.1 0, 1000, .inl (fun _ => 0))), (w25, .inl (E.1 0, 8000, .inl (fun _ => 0))), (w28, .inl (E.1 0, 3, .inl (fun _ => 0))), (w31, .inl (E.1 0, 900, .inl (fun _ => 0))), (w34, .inl (E.1 1, 108000, .inl (fun _ => 0))), (w37, .inl (E.1 0, 400, .inl (fun _ => 0))), (w40, .inl (E.1 0, 56, .inl (fo_alp 40)))] h81 := by rw [eh81]; exact um_L.put hL 14 rfl _
  refine lv_dup hx hb dF_init_350 rfl ?_
  refine lv_bipush (v := 40) hx hb dF_init_351 (by decide) ?_
  refine lv_bipush (v := 46) hx hb dF_init_353 (by decide) ?_
  refine ur_iast hx hb hV hI 0 (um_L.at hL 14 rfl) rfl (vp_in_nI (n := 40) (by decide) (by decide)) dF_init_355 (fun H locs hI => ?_)
  obtain ⟨h82, eh82⟩ : ∃ z : ur_M, z = va_up h81 w40 (some (.inl (E.1 0, 56, .inl (fo_alp 41)))) := ⟨_, rfl⟩
  replace hI : ur_I D vwCl (ur_A h s.heap.size) s.heap h82 H locs := by rw [eh82, fo_alp_s (k := 40) (k' := 41) (i := (Int32.toNatClampNeg 40)) (v := 46) rfl rfl rfl]; exact hI
  replace hL : um_L [(q, .inr (7, [.ref w1, .ref w4, .ref w7, .long 0, .ref w10, .ref w13, .ref w16, .ref w19, .int 0, .ref w22, .int 0, .ref w25, .ref w28, .ref w31, .ref w34, .ref w37, .int 0, .null])), (w1, .inl (E.1 0, 4000, .inl (fun _ => 0))), (w4, .inl (E.1 0, 38400, .inl (fun _ => 0))), (w7, .inl (E.1 0, 4, .inl (fun _ => 0))), (w10, .inl (E.1 5, 10, .inr (.inl (fun _ => 0)))), (w13, .inl (E.1 6, 10, .inl (fun _ => 0))), (w16, .inl (E.1 0, 10, .inl (fun _ => 0))), (w19, .inl (E.1 0, 10, .inl (fun _ => 0))), (w22, .inl (E.1 0, 1000, .inl (fun _ => 0))), (w25, .inl (E.1 0, 8000, .inl (fun _ => 0))), (w28, .inl (E.1 0, 3, .inl (fun _ => 0))), (w31, .inl (E.1 0, 900, .inl (fun _ => 0))), (w34, .inl (E.1 1, 108000, .inl (fun _ => 0))), (w37, .inl (E.1 0, 400, .inl (fun _ => 0))), (w40, .inl (E.1 0, 56, .inl (fo_alp 41)))] h82 := by rw [eh82]; exact um_L.put hL 14 rfl _
  refine lv_dup hx hb dF_init_356 rfl ?_
  refine lv_bipush (v := 41) hx hb dF_init_357 (by decide) ?_
  refine lv_bipush (v := 44) hx hb dF_init_359 (by decide) ?_
  refine ur_iast hx hb hV hI 0 (um_L.at hL 14 rfl) rfl (vp_in_nI (n := 41) (by decide) (by decide)) dF_init_361 (fun H locs hI => ?_)
  obtain ⟨h83, eh83⟩ : ∃ z : ur_M, z = va_up h82 w40 (some (.inl (E.1 0, 56, .inl (fo_alp 42)))) := ⟨_, rfl⟩
  replace hI : ur_I D vwCl (ur_A h s.heap.size) s.heap h83 H locs := by rw [eh83, fo_alp_s (k := 41) (k' := 42) (i := (Int32.toNatClampNeg 41)) (v := 44) rfl rfl rfl]; exact hI
  replace hL : um_L [(q, .inr (7, [.ref w1, .ref w4, .ref w7, .long 0, .ref w10, .ref w13, .ref w16, .ref w19, .int 0, .ref w22, .int 0, .ref w25, .ref w28, .ref w31, .ref w34, .ref w37, .int 0, .null])), (w1, .inl (E.1 0, 4000, .inl (fun _ => 0))), (w4, .inl (E.1 0, 38400, .inl (fun _ => 0))), (w7, .inl (E.1 0, 4, .inl (fun _ => 0))), (w10, .inl (E.1 5, 10, .inr (.inl (fun _ => 0)))), (w13, .inl (E.1 6, 10, .inl (fun _ => 0))), (w16, .inl (E.1 0, 10, .inl (fun _ => 0))), (w19, .inl (E.1 0, 10, .inl (fun _ => 0))), (w22, .inl (E.1 0, 1000, .inl (fun _ => 0))), (w25, .inl (E.1 0, 8000, .inl (fun _ => 0))), (w28, .inl (E.1 0, 3, .inl (fun _ => 0))), (w31, .inl (E.1 0, 900, .inl (fun _ => 0))), (w34, .inl (E.1 1, 108000, .inl (fun _ => 0))), (w37, .inl (E.1 0, 400, .inl (fun _ => 0))), (w40, .inl (E.1 0, 56, .inl (fo_alp 42)))] h83 := by rw [eh83]; exact um_L.put hL 14 rfl _
  refine lv_dup hx hb dF_init_362 rfl ?_
  refine lv_bipush (v := 42) hx hb dF_init_363 (by decide) ?_
  refine lv_bipush (v := 40) hx hb dF_init_365 (by decide) ?_
  refine ur_iast hx hb hV hI 0 (um_L.at hL 14 rfl) rfl (vp_in_nI (n := 42) (by decide) (by decide)) dF_init_367 (fun H locs hI => ?_)
  obtain ⟨h84, eh84⟩ : ∃ z : ur_M, z = va_up h83 w40 (some (.inl (E.1 0, 56, .inl (fo_alp 43)))) := ⟨_, rfl⟩
  replace hI : ur_I D vwCl (ur_A h s.heap.size) s.heap h84 H locs := by rw [eh84, fo_alp_s (k := 42) (k' := 43) (i := (Int32.toNatClampNeg 42)) (v := 40) rfl rfl rfl]; exact hI
  replace hL : um_L [(q, .inr (7, [.ref w1, .ref w4, .ref w7, .long 0, .ref w10, .ref w13, .ref w16, .ref w19, .int 0, .ref w22, .int 0, .ref w25, .ref w28, .ref w31, .ref w34, .ref w37, .int 0, .null])), (w1, .inl (E.1 0, 4000, .inl (fun _ => 0))), (w4, .inl (E.1 0, 38400, .inl (fun _ => 0))), (w7, .inl (E.1 0, 4, .inl (fun _ => 0))), (w10, .inl (E.1 5, 10, .inr (.inl (fun _ => 0)))), (w13, .inl (E.1 6, 10, .inl (fun _ => 0))), (w16, .inl (E.1 0, 10, .inl (fun _ => 0))), (w19, .inl (E.1 0, 10, .inl (fun _ => 0))), (w22, .inl (E.1 0, 1000, .inl (fun _ => 0))), (w25, .inl (E.1 0, 8000, .inl (fun _ => 0))), (w28, .inl (E.1 0, 3, .inl (fun _ => 0))), (w31, .inl (E.1 0, 900, .inl (fun _ => 0))), (w34, .inl (E.1 1, 108000, .inl (fun _ => 0))), (w37, .inl (E.1 0, 400, .inl (fun _ => 0))), (w40, .inl (E.1 0, 56, .inl (fo_alp 43)))] h84 := by rw [eh84]; exact um_L.put hL 14 rfl _
  refine lv_dup hx hb dF_init_368 rfl ?_
  refine lv_bipush (v := 43) hx hb dF_init_369 (by decide) ?_
  refine lv_bipush (v := 41) hx hb dF_init_371 (by decide) ?_
  refine ur_iast hx hb hV hI 0 (um_L.at hL 14 rfl) rfl (vp_in_nI (n := 43) (by decide) (by decide)) dF_init_373 (fun H locs hI => ?_)
  obtain ⟨h85, eh85⟩ : ∃ z : ur_M, z = va_up h84 w40 (some (.inl (E.1 0, 56, .inl (fo_alp 44)))) := ⟨_, rfl⟩
  replace hI : ur_I D vwCl (ur_A h s.heap.size) s.heap h85 H locs := by rw [eh85, fo_alp_s (k := 43) (k' := 44) (i := (Int32.toNatClampNeg 43)) (v := 41) rfl rfl rfl]; exact hI
  replace hL : um_L [(q, .inr (7, [.ref w1, .ref w4, .ref w7, .long 0, .ref w10, .ref w13, .ref w16, .ref w19, .int 0, .ref w22, .int 0, .ref w25, .ref w28, .ref w31, .ref w34, .ref w37, .int 0, .null])), (w1, .inl (E.1 0, 4000, .inl (fun _ => 0))), (w4, .inl (E.1 0, 38400, .inl (fun _ => 0))), (w7, .inl (E.1 0, 4, .inl (fun _ => 0))), (w10, .inl (E.1 5, 10, .inr (.inl (fun _ => 0)))), (w13, .inl (E.1 6, 10, .inl (fun _ => 0))), (w16, .inl (E.1 0, 10, .inl (fun _ => 0))), (w19, .inl (E.1 0, 10, .inl (fun _ => 0))), (w22, .inl (E.1 0, 1000, .inl (fun _ => 0))), (w25, .inl (E.1 0, 8000, .inl (fun _ => 0))), (w28, .inl (E.1 0, 3, .inl (fun _ => 0))), (w31, .inl (E.1 0, 900, .inl (fun _ => 0))), (w34, .inl (E.1 1, 108000, .inl (fun _ => 0))), (w37, .inl (E.1 0, 400, .inl (fun _ => 0))), (w40, .inl (E.1 0, 56, .inl (fo_alp 44)))] h85 := by rw [eh85]; exact um_L.put hL 14 rfl _
  refine lv_dup hx hb dF_init_374 rfl ?_
  refine lv_bipush (v := 44) hx hb dF_init_375 (by decide) ?_
  refine lv_bipush (v := 43) hx hb dF_init_377 (by decide) ?_
  refine ur_iast hx hb hV hI 0 (um_L.at hL 14 rfl) rfl (vp_in_nI (n := 44) (by decide) (by decide)) dF_init_379 (fun H locs hI => ?_)
  obtain ⟨h86, eh86⟩ : ∃ z : ur_M, z = va_up h85 w40 (some (.inl (E.1 0, 56, .inl (fo_alp 45)))) := ⟨_, rfl⟩
  replace hI : ur_I D vwCl (ur_A h s.heap.size) s.heap h86 H locs := by rw [eh86, fo_alp_s (k := 44) (k' := 45) (i := (Int32.toNatClampNeg 44)) (v := 43) rfl rfl rfl]; exact hI
  replace hL : um_L [(q, .inr (7, [.ref w1, .ref w4, .ref w7, .long 0, .ref w10, .ref w13, .ref w16, .ref w19, .int 0, .ref w22, .int 0, .ref w25, .ref w28, .ref w31, .ref w34, .ref w37, .int 0, .null])), (w1, .inl (E.1 0, 4000, .inl (fun _ => 0))), (w4, .inl (E.1 0, 38400, .inl (fun _ => 0))), (w7, .inl (E.1 0, 4, .inl (fun _ => 0))), (w10, .inl (E.1 5, 10, .inr (.inl (fun _ => 0)))), (w13, .inl (E.1 6, 10, .inl (fun _ => 0))), (w16, .inl (E.1 0, 10, .inl (fun _ => 0))), (w19, .inl (E.1 0, 10, .inl (fun _ => 0))), (w22, .inl (E.1 0, 1000, .inl (fun _ => 0))), (w25, .inl (E.1 0, 8000, .inl (fun _ => 0))), (w28, .inl (E.1 0, 3, .inl (fun _ => 0))), (w31, .inl (E.1 0, 900, .inl (fun _ => 0))), (w34, .inl (E.1 1, 108000, .inl (fun _ => 0))), (w37, .inl (E.1 0, 400, .inl (fun _ => 0))), (w40, .inl (E.1 0, 56, .inl (fo_alp 45)))] h86 := by rw [eh86]; exact um_L.put hL 14 rfl _
  refine lv_dup hx hb dF_init_380 rfl ?_
  refine lv_bipush (v := 45) hx hb dF_init_381 (by decide) ?_
  refine lv_bipush (v := 45) hx hb dF_init_383 (by decide) ?_
  refine ur_iast hx hb hV hI 0 (um_L.at hL 14 rfl) rfl (vp_in_nI (n := 45) (by decide) (by decide)) dF_init_385 (fun H locs hI => ?_)
  obtain ⟨h87, eh87⟩ : ∃ z : ur_M, z = va_up h86 w40 (some (.inl (E.1 0, 56, .inl (fo_alp 46)))) := ⟨_, rfl⟩
  replace hI : ur_I D vwCl (ur_A h s.heap.size) s.heap h87 H locs := by rw [eh87, fo_alp_s (k := 45) (k' := 46) (i := (Int32.toNatClampNeg 45)) (v := 45) rfl rfl rfl]; exact hI
  replace hL : um_L [(q, .inr (7, [.ref w1, .ref w4, .ref w7, .long 0, .ref w10, .ref w13, .ref w16, .ref w19, .int 0, .ref w22, .int 0, .ref w25, .ref w28, .ref w31, .ref w34, .ref w37, .int 0, .null])), (w1, .inl (E.1 0, 4000, .inl (fun _ => 0))), (w4, .inl (E.1 0, 38400, .inl (fun _ => 0))), (w7, .inl (E.1 0, 4, .inl (fun _ => 0))), (w10, .inl (E.1 5, 10, .inr (.inl (fun _ => 0)))), (w13, .inl (E.1 6, 10, .inl (fun _ => 0))), (w16, .inl (E.1 0, 10, .inl (fun _ => 0))), (w19, .inl (E.1 0, 10, .inl (fun _ => 0))), (w22, .inl (E.1 0, 1000, .inl (fun _ => 0))), (w25, .inl (E.1 0, 8000, .inl (fun _ => 0))), (w28, .inl (E.1 0, 3, .inl (fun _ => 0))), (w31, .inl (E.1 0, 900, .inl (fun _ => 0))), (w34, .inl (E.1 1, 108000, .inl (fun _ => 0))), (w37, .inl (E.1 0, 400, .inl (fun _ => 0))), (w40, .inl (E.1 0, 56, .inl (fo_alp 46)))] h87 := by rw [eh87]; exact um_L.put hL 14 rfl _
  refine lv_dup hx hb dF_init_386 rfl ?_
  refine lv_bipush (v := 46) hx hb dF_init_387 (by decide) ?_
  refine lv_bipush (v := 42) hx hb dF_init_389 (by decide) ?_
  refine ur_iast hx hb hV hI 0 (um_L.at hL 14 rfl) rfl (vp_in_nI (n := 46) (by decide) (by decide)) dF_init_391 (fun H locs hI => ?_)
  obtain ⟨h88, eh88⟩ : ∃ z : ur_M, z = va_up h87 w40 (some (.inl (E.1 0, 56, .inl (fo_alp 47)))) := ⟨_, rfl⟩
  replace hI : ur_I D vwCl (ur_A h s.heap.size) s.heap h88 H locs := by rw [eh88, fo_alp_s (k := 46) (k' := 47) (i := (Int32.toNatClampNeg 46)) (v := 42) rfl rfl rfl]; exact hI
  replace hL : um_L [(q, .inr (7, [.ref w1, .ref w4, .ref w7, .long 0, .ref w10, .ref w13, .ref w16, .ref w19, .int 0, .ref w22, .int 0, .ref w25, .ref w28, .ref w31, .ref w34, .ref w37, .int 0, .null])), (w1, .inl (E.1 0, 4000, .inl (fun _ => 0))), (w4, .inl (E.1 0, 38400, .inl (fun _ => 0))), (w7, .inl (E.1 0, 4, .inl (fun _ => 0))), (w10, .inl (E.1 5, 10, .inr (.inl (fun _ => 0)))), (w13, .inl (E.1 6, 10, .inl (fun _ => 0))), (w16, .inl (E.1 0, 10, .inl (fun _ => 0))), (w19, .inl (E.1 0, 10, .inl (fun _ => 0))), (w22, .inl (E.1 0, 1000, .inl (fun _ => 0))), (w25, .inl (E.1 0, 8000, .inl (fun _ => 0))), (w28, .inl (E.1 0, 3, .inl (fun _ => 0))), (w31, .inl (E.1 0, 900, .inl (fun _ => 0))), (w34, .inl (E.1 1, 108000, .inl (fun _ => 0))), (w37, .inl (E.1 0, 400, .inl (fun _ => 0))), (w40, .inl (E.1 0, 56, .inl (fo_alp 47)))] h88 := by rw [eh88]; exact um_L.put hL 14 rfl _
  refine lv_dup hx hb dF_init_392 rfl ?_
  refine lv_bipush (v := 47) hx hb dF_init_393 (by decide) ?_
  refine lv_bipush (v := 47) hx hb dF_init_395 (by decide) ?_
  refine ur_iast hx hb hV hI 0 (um_L.at hL 14 rfl) rfl (vp_in_nI (n := 47) (by decide) (by decide)) dF_init_397 (fun H locs hI => ?_)
  obtain ⟨h89, eh89⟩ : ∃ z : ur_M, z = va_up h88 w40 (some (.inl (E.1 0, 56, .inl (fo_alp 48)))) := ⟨_, rfl⟩
  replace hI : ur_I D vwCl (ur_A h s.heap.size) s.heap h89 H locs := by rw [eh89, fo_alp_s (k := 47) (k' := 48) (i := (Int32.toNatClampNeg 47)) (v := 47) rfl rfl rfl]; exact hI
  replace hL : um_L [(q, .inr (7, [.ref w1, .ref w4, .ref w7, .long 0, .ref w10, .ref w13, .ref w16, .ref w19, .int 0, .ref w22, .int 0, .ref w25, .ref w28, .ref w31, .ref w34, .ref w37, .int 0, .null])), (w1, .inl (E.1 0, 4000, .inl (fun _ => 0))), (w4, .inl (E.1 0, 38400, .inl (fun _ => 0))), (w7, .inl (E.1 0, 4, .inl (fun _ => 0))), (w10, .inl (E.1 5, 10, .inr (.inl (fun _ => 0)))), (w13, .inl (E.1 6, 10, .inl (fun _ => 0))), (w16, .inl (E.1 0, 10, .inl (fun _ => 0))), (w19, .inl (E.1 0, 10, .inl (fun _ => 0))), (w22, .inl (E.1 0, 1000, .inl (fun _ => 0))), (w25, .inl (E.1 0, 8000, .inl (fun _ => 0))), (w28, .inl (E.1 0, 3, .inl (fun _ => 0))), (w31, .inl (E.1 0, 900, .inl (fun _ => 0))), (w34, .inl (E.1 1, 108000, .inl (fun _ => 0))), (w37, .inl (E.1 0, 400, .inl (fun _ => 0))), (w40, .inl (E.1 0, 56, .inl (fo_alp 48)))] h89 := by rw [eh89]; exact um_L.put hL 14 rfl _
  refine lv_dup hx hb dF_init_398 rfl ?_
  refine lv_bipush (v := 48) hx hb dF_init_399 (by decide) ?_
  refine lv_bipush (v := 61) hx hb dF_init_401 (by decide) ?_
  refine ur_iast hx hb hV hI 0 (um_L.at hL 14 rfl) rfl (vp_in_nI (n := 48) (by decide) (by decide)) dF_init_403 (fun H locs hI => ?_)
  obtain ⟨h90, eh90⟩ : ∃ z : ur_M, z = va_up h89 w40 (some (.inl (E.1 0, 56, .inl (fo_alp 49)))) := ⟨_, rfl⟩
  replace hI : ur_I D vwCl (ur_A h s.heap.size) s.heap h90 H locs := by rw [eh90, fo_alp_s (k := 48) (k' := 49) (i := (Int32.toNatClampNeg 48)) (v := 61) rfl rfl rfl]; exact hI
  replace hL : um_L [(q, .inr (7, [.ref w1, .ref w4, .ref w7, .long 0, .ref w10, .ref w13, .ref w16, .ref w19, .int 0, .ref w22, .int 0, .ref w25, .ref w28, .ref w31, .ref w34, .ref w37, .int 0, .null])), (w1, .inl (E.1 0, 4000, .inl (fun _ => 0))), (w4, .inl (E.1 0, 38400, .inl (fun _ => 0))), (w7, .inl (E.1 0, 4, .inl (fun _ => 0))), (w10, .inl (E.1 5, 10, .inr (.inl (fun _ => 0)))), (w13, .inl (E.1 6, 10, .inl (fun _ => 0))), (w16, .inl (E.1 0, 10, .inl (fun _ => 0))), (w19, .inl (E.1 0, 10, .inl (fun _ => 0))), (w22, .inl (E.1 0, 1000, .inl (fun _ => 0))), (w25, .inl (E.1 0, 8000, .inl (fun _ => 0))), (w28, .inl (E.1 0, 3, .inl (fun _ => 0))), (w31, .inl (E.1 0, 900, .inl (fun _ => 0))), (w34, .inl (E.1 1, 108000, .inl (fun _ => 0))), (w37, .inl (E.1 0, 400, .inl (fun _ => 0))), (w40, .inl (E.1 0, 56, .inl (fo_alp 49)))] h90 := by rw [eh90]; exact um_L.put hL 14 rfl _
  refine lv_dup hx hb dF_init_404 rfl ?_
  refine lv_bipush (v := 49) hx hb dF_init_405 (by decide) ?_
  refine lv_bipush (v := 36) hx hb dF_init_407 (by decide) ?_
  refine ur_iast hx hb hV hI 0 (um_L.at hL 14 rfl) rfl (vp_in_nI (n := 49) (by decide) (by decide)) dF_init_409 (fun H locs hI => ?_)
  obtain ⟨h91, eh91⟩ : ∃ z : ur_M, z = va_up h90 w40 (some (.inl (E.1 0, 56, .inl (fo_alp 50)))) := ⟨_, rfl⟩
  replace hI : ur_I D vwCl (ur_A h s.heap.size) s.heap h91 H locs := by rw [eh91, fo_alp_s (k := 49) (k' := 50) (i := (Int32.toNatClampNeg 49)) (v := 36) rfl rfl rfl]; exact hI
  replace hL : um_L [(q, .inr (7, [.ref w1, .ref w4, .ref w7, .long 0, .ref w10, .ref w13, .ref w16, .ref w19, .int 0, .ref w22, .int 0, .ref w25, .ref w28, .ref w31, .ref w34, .ref w37, .int 0, .null])), (w1, .inl (E.1 0, 4000, .inl (fun _ => 0))), (w4, .inl (E.1 0, 38400, .inl (fun _ => 0))), (w7, .inl (E.1 0, 4, .inl (fun _ => 0))), (w10, .inl (E.1 5, 10, .inr (.inl (fun _ => 0)))), (w13, .inl (E.1 6, 10, .inl (fun _ => 0))), (w16, .inl (E.1 0, 10, .inl (fun _ => 0))), (w19, .inl (E.1 0, 10, .inl (fun _ => 0))), (w22, .inl (E.1 0, 1000, .inl (fun _ => 0))), (w25, .inl (E.1 0, 8000, .inl (fun _ => 0))), (w28, .inl (E.1 0, 3, .inl (fun _ => 0))), (w31, .inl (E.1 0, 900, .inl (fun _ => 0))), (w34, .inl (E.1 1, 108000, .inl (fun _ => 0))), (w37, .inl (E.1 0, 400, .inl (fun _ => 0))), (w40, .inl (E.1 0, 56, .inl (fo_alp 50)))] h91 := by rw [eh91]; exact um_L.put hL 14 rfl _
  refine lv_dup hx hb dF_init_410 rfl ?_
  refine lv_bipush (v := 50) hx hb dF_init_411 (by decide) ?_
  refine lv_bipush (v := 60) hx hb dF_init_413 (by decide) ?_
  refine ur_iast hx hb hV hI 0 (um_L.at hL 14 rfl) rfl (vp_in_nI (n := 50) (by decide) (by decide)) dF_init_415 (fun H locs hI => ?_)
  obtain ⟨h92, eh92⟩ : ∃ z : ur_M, z = va_up h91 w40 (some (.inl (E.1 0, 56, .inl (fo_alp 51)))) := ⟨_, rfl⟩
  replace hI : ur_I D vwCl (ur_A h s.heap.size) s.heap h92 H locs := by rw [eh92, fo_alp_s (k := 50) (k' := 51) (i := (Int32.toNatClampNeg 50)) (v := 60) rfl rfl rfl]; exact hI
  replace hL : um_L [(q, .inr (7, [.ref w1, .ref w4, .ref w7, .long 0, .ref w10, .ref w13, .ref w16, .ref w19, .int 0, .ref w22, .int 0, .ref w25, .ref w28, .ref w31, .ref w34, .ref w37, .int 0, .null])), (w1, .inl (E.1 0, 4000, .inl (fun _ => 0))), (w4, .inl (E.1 0, 38400, .inl (fun _ => 0))), (w7, .inl (E.1 0, 4, .inl (fun _ => 0))), (w10, .inl (E.1 5, 10, .inr (.inl (fun _ => 0)))), (w13, .inl (E.1 6, 10, .inl (fun _ => 0))), (w16, .inl (E.1 0, 10, .inl (fun _ => 0))), (w19, .inl (E.1 0, 10, .inl (fun _ => 0))), (w22, .inl (E.1 0, 1000, .inl (fun _ => 0))), (w25, .inl (E.1 0, 8000, .inl (fun _ => 0))), (w28, .inl (E.1 0, 3, .inl (fun _ => 0))), (w31, .inl (E.1 0, 900, .inl (fun _ => 0))), (w34, .inl (E.1 1, 108000, .inl (fun _ => 0))), (w37, .inl (E.1 0, 400, .inl (fun _ => 0))), (w40, .inl (E.1 0, 56, .inl (fo_alp 51)))] h92 := by rw [eh92]; exact um_L.put hL 14 rfl _
  refine lv_dup hx hb dF_init_416 rfl ?_
  refine lv_bipush (v := 51) hx hb dF_init_417 (by decide) ?_
  refine lv_bipush (v := 62) hx hb dF_init_419 (by decide) ?_
  refine ur_iast hx hb hV hI 0 (um_L.at hL 14 rfl) rfl (vp_in_nI (n := 51) (by decide) (by decide)) dF_init_421 (fun H locs hI => ?_)
  obtain ⟨h93, eh93⟩ : ∃ z : ur_M, z = va_up h92 w40 (some (.inl (E.1 0, 56, .inl (fo_alp 52)))) := ⟨_, rfl⟩
  replace hI : ur_I D vwCl (ur_A h s.heap.size) s.heap h93 H locs := by rw [eh93, fo_alp_s (k := 51) (k' := 52) (i := (Int32.toNatClampNeg 51)) (v := 62) rfl rfl rfl]; exact hI
  replace hL : um_L [(q, .inr (7, [.ref w1, .ref w4, .ref w7, .long 0, .ref w10, .ref w13, .ref w16, .ref w19, .int 0, .ref w22, .int 0, .ref w25, .ref w28, .ref w31, .ref w34, .ref w37, .int 0, .null])), (w1, .inl (E.1 0, 4000, .inl (fun _ => 0))), (w4, .inl (E.1 0, 38400, .inl (fun _ => 0))), (w7, .inl (E.1 0, 4, .inl (fun _ => 0))), (w10, .inl (E.1 5, 10, .inr (.inl (fun _ => 0)))), (w13, .inl (E.1 6, 10, .inl (fun _ => 0))), (w16, .inl (E.1 0, 10, .inl (fun _ => 0))), (w19, .inl (E.1 0, 10, .inl (fun _ => 0))), (w22, .inl (E.1 0, 1000, .inl (fun _ => 0))), (w25, .inl (E.1 0, 8000, .inl (fun _ => 0))), (w28, .inl (E.1 0, 3, .inl (fun _ => 0))), (w31, .inl (E.1 0, 900, .inl (fun _ => 0))), (w34, .inl (E.1 1, 108000, .inl (fun _ => 0))), (w37, .inl (E.1 0, 400, .inl (fun _ => 0))), (w40, .inl (E.1 0, 56, .inl (fo_alp 52)))] h93 := by rw [eh93]; exact um_L.put hL 14 rfl _
  refine lv_dup hx hb dF_init_422 rfl ?_
  refine lv_bipush (v := 52) hx hb dF_init_423 (by decide) ?_
  refine lv_bipush (v := 64) hx hb dF_init_425 (by decide) ?_
  refine ur_iast hx hb hV hI 0 (um_L.at hL 14 rfl) rfl (vp_in_nI (n := 52) (by decide) (by decide)) dF_init_427 (fun H locs hI => ?_)
  obtain ⟨h94, eh94⟩ : ∃ z : ur_M, z = va_up h93 w40 (some (.inl (E.1 0, 56, .inl (fo_alp 53)))) := ⟨_, rfl⟩
  replace hI : ur_I D vwCl (ur_A h s.heap.size) s.heap h94 H locs := by rw [eh94, fo_alp_s (k := 52) (k' := 53) (i := (Int32.toNatClampNeg 52)) (v := 64) rfl rfl rfl]; exact hI
  replace hL : um_L [(q, .inr (7, [.ref w1, .ref w4, .ref w7, .long 0, .ref w10, .ref w13, .ref w16, .ref w19, .int 0, .ref w22, .int 0, .ref w25, .ref w28, .ref w31, .ref w34, .ref w37, .int 0, .null])), (w1, .inl (E.1 0, 4000, .inl (fun _ => 0))), (w4, .inl (E.1 0, 38400, .inl (fun _ => 0))), (w7, .inl (E.1 0, 4, .inl (fun _ => 0))), (w10, .inl (E.1 5, 10, .inr (.inl (fun _ => 0)))), (w13, .inl (E.1 6, 10, .inl (fun _ => 0))), (w16, .inl (E.1 0, 10, .inl (fun _ => 0))), (w19, .inl (E.1 0, 10, .inl (fun _ => 0))), (w22, .inl (E.1 0, 1000, .inl (fun _ => 0))), (w25, .inl (E.1 0, 8000, .inl (fun _ => 0))), (w28, .inl (E.1 0, 3, .inl (fun _ => 0))), (w31, .inl (E.1 0, 900, .inl (fun _ => 0))), (w34, .inl (E.1 1, 108000, .inl (fun _ => 0))), (w37, .inl (E.1 0, 400, .inl (fun _ => 0))), (w40, .inl (E.1 0, 56, .inl (fo_alp 53)))] h94 := by rw [eh94]; exact um_L.put hL 14 rfl _
  refine lv_dup hx hb dF_init_428 rfl ?_
  refine lv_bipush (v := 53) hx hb dF_init_429 (by decide) ?_
  refine lv_bipush (v := 59) hx hb dF_init_431 (by decide) ?_
  refine ur_iast hx hb hV hI 0 (um_L.at hL 14 rfl) rfl (vp_in_nI (n := 53) (by decide) (by decide)) dF_init_433 (fun H locs hI => ?_)
  obtain ⟨h95, eh95⟩ : ∃ z : ur_M, z = va_up h94 w40 (some (.inl (E.1 0, 56, .inl (fo_alp 54)))) := ⟨_, rfl⟩
  replace hI : ur_I D vwCl (ur_A h s.heap.size) s.heap h95 H locs := by rw [eh95, fo_alp_s (k := 53) (k' := 54) (i := (Int32.toNatClampNeg 53)) (v := 59) rfl rfl rfl]; exact hI
  replace hL : um_L [(q, .inr (7, [.ref w1, .ref w4, .ref w7, .long 0, .ref w10, .ref w13, .ref w16, .ref w19, .int 0, .ref w22, .int 0, .ref w25, .ref w28, .ref w31, .ref w34, .ref w37, .int 0, .null])), (w1, .inl (E.1 0, 4000, .inl (fun _ => 0))), (w4, .inl (E.1 0, 38400, .inl (fun _ => 0))), (w7, .inl (E.1 0, 4, .inl (fun _ => 0))), (w10, .inl (E.1 5, 10, .inr (.inl (fun _ => 0)))), (w13, .inl (E.1 6, 10, .inl (fun _ => 0))), (w16, .inl (E.1 0, 10, .inl (fun _ => 0))), (w19, .inl (E.1 0, 10, .inl (fun _ => 0))), (w22, .inl (E.1 0, 1000, .inl (fun _ => 0))), (w25, .inl (E.1 0, 8000, .inl (fun _ => 0))), (w28, .inl (E.1 0, 3, .inl (fun _ => 0))), (w31, .inl (E.1 0, 900, .inl (fun _ => 0))), (w34, .inl (E.1 1, 108000, .inl (fun _ => 0))), (w37, .inl (E.1 0, 400, .inl (fun _ => 0))), (w40, .inl (E.1 0, 56, .inl (fo_alp 54)))] h95 := by rw [eh95]; exact um_L.put hL 14 rfl _
  refine lv_dup hx hb dF_init_434 rfl ?_
  refine lv_bipush (v := 54) hx hb dF_init_435 (by decide) ?_
  refine lv_bipush (v := 58) hx hb dF_init_437 (by decide) ?_
  refine ur_iast hx hb hV hI 0 (um_L.at hL 14 rfl) rfl (vp_in_nI (n := 54) (by decide) (by decide)) dF_init_439 (fun H locs hI => ?_)
  obtain ⟨h96, eh96⟩ : ∃ z : ur_M, z = va_up h95 w40 (some (.inl (E.1 0, 56, .inl (fo_alp 55)))) := ⟨_, rfl⟩
  replace hI : ur_I D vwCl (ur_A h s.heap.size) s.heap h96 H locs := by rw [eh96, fo_alp_s (k := 54) (k' := 55) (i := (Int32.toNatClampNeg 54)) (v := 58) rfl rfl rfl]; exact hI
  replace hL : um_L [(q, .inr (7, [.ref w1, .ref w4, .ref w7, .long 0, .ref w10, .ref w13, .ref w16, .ref w19, .int 0, .ref w22, .int 0, .ref w25, .ref w28, .ref w31, .ref w34, .ref w37, .int 0, .null])), (w1, .inl (E.1 0, 4000, .inl (fun _ => 0))), (w4, .inl (E.1 0, 38400, .inl (fun _ => 0))), (w7, .inl (E.1 0, 4, .inl (fun _ => 0))), (w10, .inl (E.1 5, 10, .inr (.inl (fun _ => 0)))), (w13, .inl (E.1 6, 10, .inl (fun _ => 0))), (w16, .inl (E.1 0, 10, .inl (fun _ => 0))), (w19, .inl (E.1 0, 10, .inl (fun _ => 0))), (w22, .inl (E.1 0, 1000, .inl (fun _ => 0))), (w25, .inl (E.1 0, 8000, .inl (fun _ => 0))), (w28, .inl (E.1 0, 3, .inl (fun _ => 0))), (w31, .inl (E.1 0, 900, .inl (fun _ => 0))), (w34, .inl (E.1 1, 108000, .inl (fun _ => 0))), (w37, .inl (E.1 0, 400, .inl (fun _ => 0))), (w40, .inl (E.1 0, 56, .inl (fo_alp 55)))] h96 := by rw [eh96]; exact um_L.put hL 14 rfl _
  refine lv_dup hx hb dF_init_440 rfl ?_
  refine lv_bipush (v := 55) hx hb dF_init_441 (by decide) ?_
  refine lv_bipush (v := 39) hx hb dF_init_443 (by decide) ?_
  refine ur_iast hx hb hV hI 0 (um_L.at hL 14 rfl) rfl (vp_in_nI (n := 55) (by decide) (by decide)) dF_init_445 (fun H locs hI => ?_)
  obtain ⟨h97, eh97⟩ : ∃ z : ur_M, z = va_up h96 w40 (some (.inl (E.1 0, 56, .inl (fo_alp 56)))) := ⟨_, rfl⟩
  replace hI : ur_I D vwCl (ur_A h s.heap.size) s.heap h97 H locs := by rw [eh97, fo_alp_s (k := 55) (k' := 56) (i := (Int32.toNatClampNeg 55)) (v := 39) rfl rfl rfl]; exact hI
  replace hL : um_L [(q, .inr (7, [.ref w1, .ref w4, .ref w7, .long 0, .ref w10, .ref w13, .ref w16, .ref w19, .int 0, .ref w22, .int 0, .ref w25, .ref w28, .ref w31, .ref w34, .ref w37, .int 0, .null])), (w1, .inl (E.1 0, 4000, .inl (fun _ => 0))), (w4, .inl (E.1 0, 38400, .inl (fun _ => 0))), (w7, .inl (E.1 0, 4, .inl (fun _ => 0))), (w10, .inl (E.1 5, 10, .inr (.inl (fun _ => 0)))), (w13, .inl (E.1 6, 10, .inl (fun _ => 0))), (w16, .inl (E.1 0, 10, .inl (fun _ => 0))), (w19, .inl (E.1 0, 10, .inl (fun _ => 0))), (w22, .inl (E.1 0, 1000, .inl (fun _ => 0))), (w25, .inl (E.1 0, 8000, .inl (fun _ => 0))), (w28, .inl (E.1 0, 3, .inl (fun _ => 0))), (w31, .inl (E.1 0, 900, .inl (fun _ => 0))), (w34, .inl (E.1 1, 108000, .inl (fun _ => 0))), (w37, .inl (E.1 0, 400, .inl (fun _ => 0))), (w40, .inl (E.1 0, 56, .inl (fo_alp 56)))] h97 := by rw [eh97]; exact um_L.put hL 14 rfl _
  refine ur_putF (D := D) (ci := 7) (v := .ref w40) (ty := (.array .int)) (C := "UnitRoomModel") (T := TF) (N := 18) hx hb hts inF tyF tyF_ok nmF hown hV hI (um_L.at hL 0 rfl) rfl 17 (by decide) (hts _ mw594) (fun _ h9 => h9) rfl hin rfl (by decide +kernel) rfl rfl (Nat.le_of_ble_eq_true rfl) dF_init_446 (fun H locs hI => ?_)
  obtain ⟨h98, eh98⟩ : ∃ z : ur_M, z = va_up h97 q (some (.inr (7, [.ref w1, .ref w4, .ref w7, .long 0, .ref w10, .ref w13, .ref w16, .ref w19, .int 0, .ref w22, .int 0, .ref w25, .ref w28, .ref w31, .ref w34, .ref w37, .int 0, .ref w40]))) := ⟨_, rfl⟩
  replace hI : ur_I D vwCl (ur_A h s.heap.size) s.heap h98 H locs := by rw [eh98]; exact hI
  replace hL : um_L [(q, .inr (7, [.ref w1, .ref w4, .ref w7, .long 0, .ref w10, .ref w13, .ref w16, .ref w19, .int 0, .ref w22, .int 0, .ref w25, .ref w28, .ref w31, .ref w34, .ref w37, .int 0, .ref w40])), (w1, .inl (E.1 0, 4000, .inl (fun _ => 0))), (w4, .inl (E.1 0, 38400, .inl (fun _ => 0))), (w7, .inl (E.1 0, 4, .inl (fun _ => 0))), (w10, .inl (E.1 5, 10, .inr (.inl (fun _ => 0)))), (w13, .inl (E.1 6, 10, .inl (fun _ => 0))), (w16, .inl (E.1 0, 10, .inl (fun _ => 0))), (w19, .inl (E.1 0, 10, .inl (fun _ => 0))), (w22, .inl (E.1 0, 1000, .inl (fun _ => 0))), (w25, .inl (E.1 0, 8000, .inl (fun _ => 0))), (w28, .inl (E.1 0, 3, .inl (fun _ => 0))), (w31, .inl (E.1 0, 900, .inl (fun _ => 0))), (w34, .inl (E.1 1, 108000, .inl (fun _ => 0))), (w37, .inl (E.1 0, 400, .inl (fun _ => 0))), (w40, .inl (E.1 0, 56, .inl (fo_alp 56)))] h98 := by rw [eh98]; exact um_L.put hL 0 rfl _
  exact ur_rv hx hb hr hlocks hI hQ ⟨fun k => [q, w1, w4, w7, w10, w13, w16, w19, w22, w25, w28, w31, w34, w37, w40].getD k 0, rfl, fo_L hL _ _ (fun k hk => by match k, hk with | 0, _ => rfl | 1, _ => rfl | 2, _ => rfl | 3, _ => rfl | 4, _ => rfl | 5, _ => rfl | 6, _ => rfl | 7, _ => rfl | 8, _ => rfl | 9, _ => rfl | 10, _ => rfl | 11, _ => rfl | 12, _ => rfl | 13, _ => rfl | 14, _ => rfl | n + 15, z9 => exact absurd z9 (by omega))⟩ dF_init_449
