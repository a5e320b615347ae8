theorem dX8_init_0 : decode cX8_init 0 = .ok (.aload_n 0, 1) := by decide +kernel
theorem dX8_init_1 : decode cX8_init 1 = .ok (.invokespecial 1, 3) := by decide +kernel
theorem dX8_init_4 : decode cX8_init 4 = .ok (.aload_n 0, 1) := by decide +kernel
theorem dX8_init_5 : decode cX8_init 5 = .ok (.iconst 1, 1) := by decide +kernel
theorem dX8_init_6 : decode cX8_init 6 = .ok (.putfield 7, 3) := by decide +kernel
theorem dX8_init_9 : decode cX8_init 9 = .ok (.aload_n 0, 1) := by decide +kernel
theorem dX8_init_10 : decode cX8_init 10 = .ok (.iconst 1, 1) := by decide +kernel
theorem dX8_init_11 : decode cX8_init 11 = .ok (.putfield 13, 3) := by decide +kernel
theorem dX8_init_14 : decode cX8_init 14 = .ok (.aload_n 0, 1) := by decide +kernel
theorem dX8_init_15 : decode cX8_init 15 = .ok (.iconst (-1), 1) := by decide +kernel
theorem dX8_init_16 : decode cX8_init 16 = .ok (.putfield 16, 3) := by decide +kernel
theorem dX8_init_19 : decode cX8_init 19 = .ok (.aload_n 0, 1) := by decide +kernel
theorem dX8_init_20 : decode cX8_init 20 = .ok (.bipush 8, 2) := by decide +kernel
theorem dX8_init_22 : decode cX8_init 22 = .ok (.newarray .int, 2) := by decide +kernel
theorem dX8_init_24 : decode cX8_init 24 = .ok (.putfield 19, 3) := by decide +kernel
theorem dX8_init_27 : decode cX8_init 27 = .ok (.aload_n 0, 1) := by decide +kernel
theorem dX8_init_28 : decode cX8_init 28 = .ok (.bipush 6, 2) := by decide +kernel
theorem dX8_init_30 : decode cX8_init 30 = .ok (.newarray .int, 2) := by decide +kernel
theorem dX8_init_32 : decode cX8_init 32 = .ok (.putfield 23, 3) := by decide +kernel
theorem dX8_init_35 : decode cX8_init 35 = .ok (.aload_n 0, 1) := by decide +kernel
theorem dX8_init_36 : decode cX8_init 36 = .ok (.bipush 6, 2) := by decide +kernel
theorem dX8_init_38 : decode cX8_init 38 = .ok (.newarray .int, 2) := by decide +kernel
theorem dX8_init_40 : decode cX8_init 40 = .ok (.putfield 26, 3) := by decide +kernel
theorem dX8_init_43 : decode cX8_init 43 = .ok (.aload_n 0, 1) := by decide +kernel
theorem dX8_init_44 : decode cX8_init 44 = .ok (.bipush 6, 2) := by decide +kernel
theorem dX8_init_46 : decode cX8_init 46 = .ok (.newarray .int, 2) := by decide +kernel
theorem dX8_init_48 : decode cX8_init 48 = .ok (.putfield 29, 3) := by decide +kernel
theorem dX8_init_51 : decode cX8_init 51 = .ok (.aload_n 0, 1) := by decide +kernel
theorem dX8_init_52 : decode cX8_init 52 = .ok (.bipush 6, 2) := by decide +kernel
theorem dX8_init_54 : decode cX8_init 54 = .ok (.newarray .int, 2) := by decide +kernel
theorem dX8_init_56 : decode cX8_init 56 = .ok (.putfield 32, 3) := by decide +kernel
theorem dX8_init_59 : decode cX8_init 59 = .ok (.aload_n 0, 1) := by decide +kernel
theorem dX8_init_60 : decode cX8_init 60 = .ok (.bipush 6, 2) := by decide +kernel
theorem dX8_init_62 : decode cX8_init 62 = .ok (.newarray .int, 2) := by decide +kernel
theorem dX8_init_64 : decode cX8_init 64 = .ok (.putfield 35, 3) := by decide +kernel
theorem dX8_init_67 : decode cX8_init 67 = .ok (.aload_n 0, 1) := by decide +kernel
theorem dX8_init_68 : decode cX8_init 68 = .ok (.bipush 8, 2) := by decide +kernel
theorem dX8_init_70 : decode cX8_init 70 = .ok (.newarray .int, 2) := by decide +kernel
theorem dX8_init_72 : decode cX8_init 72 = .ok (.putfield 38, 3) := by decide +kernel
theorem dX8_init_75 : decode cX8_init 75 = .ok (.aload_n 0, 1) := by decide +kernel
theorem dX8_init_76 : decode cX8_init 76 = .ok (.bipush 8, 2) := by decide +kernel
theorem dX8_init_78 : decode cX8_init 78 = .ok (.newarray .int, 2) := by decide +kernel
theorem dX8_init_80 : decode cX8_init 80 = .ok (.putfield 41, 3) := by decide +kernel
theorem dX8_init_83 : decode cX8_init 83 = .ok (.aload_n 0, 1) := by decide +kernel
theorem dX8_init_84 : decode cX8_init 84 = .ok (.bipush 8, 2) := by decide +kernel
theorem dX8_init_86 : decode cX8_init 86 = .ok (.newarray .int, 2) := by decide +kernel
theorem dX8_init_88 : decode cX8_init 88 = .ok (.putfield 44, 3) := by decide +kernel
theorem dX8_init_91 : decode cX8_init 91 = .ok (.aload_n 0, 1) := by decide +kernel
theorem dX8_init_92 : decode cX8_init 92 = .ok (.bipush 8, 2) := by decide +kernel
theorem dX8_init_94 : decode cX8_init 94 = .ok (.newarray .int, 2) := by decide +kernel
theorem dX8_init_96 : decode cX8_init 96 = .ok (.putfield 47, 3) := by decide +kernel
theorem dX8_init_99 : decode cX8_init 99 = .ok (.aload_n 0, 1) := by decide +kernel
theorem dX8_init_100 : decode cX8_init 100 = .ok (.bipush 8, 2) := by decide +kernel
theorem dX8_init_102 : decode cX8_init 102 = .ok (.newarray .int, 2) := by decide +kernel
theorem dX8_init_104 : decode cX8_init 104 = .ok (.putfield 50, 3) := by decide +kernel
theorem dX8_init_107 : decode cX8_init 107 = .ok (.aload_n 0, 1) := by decide +kernel
theorem dX8_init_108 : decode cX8_init 108 = .ok (.bipush 8, 2) := by decide +kernel
theorem dX8_init_110 : decode cX8_init 110 = .ok (.newarray .int, 2) := by decide +kernel
theorem dX8_init_112 : decode cX8_init 112 = .ok (.putfield 53, 3) := by decide +kernel
theorem dX8_init_115 : decode cX8_init 115 = .ok (.aload_n 0, 1) := by decide +kernel
theorem dX8_init_116 : decode cX8_init 116 = .ok (.bipush 8, 2) := by decide +kernel
theorem dX8_init_118 : decode cX8_init 118 = .ok (.newarray .int, 2) := by decide +kernel
theorem dX8_init_120 : decode cX8_init 120 = .ok (.putfield 56, 3) := by decide +kernel
theorem dX8_init_123 : decode cX8_init 123 = .ok (.aload_n 0, 1) := by decide +kernel
theorem dX8_init_124 : decode cX8_init 124 = .ok (.bipush 8, 2) := by decide +kernel
theorem dX8_init_126 : decode cX8_init 126 = .ok (.newarray .int, 2) := by decide +kernel
theorem dX8_init_128 : decode cX8_init 128 = .ok (.putfield 59, 3) := by decide +kernel
theorem dX8_init_131 : decode cX8_init 131 = .ok (.aload_n 0, 1) := by decide +kernel
theorem dX8_init_132 : decode cX8_init 132 = .ok (.bipush 8, 2) := by decide +kernel
theorem dX8_init_134 : decode cX8_init 134 = .ok (.newarray .int, 2) := by decide +kernel
theorem dX8_init_136 : decode cX8_init 136 = .ok (.putfield 62, 3) := by decide +kernel
theorem dX8_init_139 : decode cX8_init 139 = .ok (.aload_n 0, 1) := by decide +kernel
theorem dX8_init_140 : decode cX8_init 140 = .ok (.bipush 8, 2) := by decide +kernel
theorem dX8_init_142 : decode cX8_init 142 = .ok (.newarray .int, 2) := by decide +kernel
theorem dX8_init_144 : decode cX8_init 144 = .ok (.putfield 65, 3) := by decide +kernel
theorem dX8_init_147 : decode cX8_init 147 = .ok (.aload_n 0, 1) := by decide +kernel
theorem dX8_init_148 : decode cX8_init 148 = .ok (.bipush 8, 2) := by decide +kernel
theorem dX8_init_150 : decode cX8_init 150 = .ok (.newarray .int, 2) := by decide +kernel
theorem dX8_init_152 : decode cX8_init 152 = .ok (.putfield 68, 3) := by decide +kernel
theorem dX8_init_155 : decode cX8_init 155 = .ok (.aload_n 0, 1) := by decide +kernel
theorem dX8_init_156 : decode cX8_init 156 = .ok (.sipush 1280, 3) := by decide +kernel
theorem dX8_init_159 : decode cX8_init 159 = .ok (.newarray .long, 2) := by decide +kernel
theorem dX8_init_161 : decode cX8_init 161 = .ok (.putfield 71, 3) := by decide +kernel
theorem dX8_init_164 : decode cX8_init 164 = .ok (.aload_n 0, 1) := by decide +kernel
theorem dX8_init_165 : decode cX8_init 165 = .ok (.sipush 160, 3) := by decide +kernel
theorem dX8_init_168 : decode cX8_init 168 = .ok (.newarray .long, 2) := by decide +kernel
theorem dX8_init_170 : decode cX8_init 170 = .ok (.putfield 75, 3) := by decide +kernel
theorem dX8_init_173 : decode cX8_init 173 = .ok (.aload_n 0, 1) := by decide +kernel
theorem dX8_init_174 : decode cX8_init 174 = .ok (.bipush 28, 2) := by decide +kernel
theorem dX8_init_176 : decode cX8_init 176 = .ok (.newarray .int, 2) := by decide +kernel
theorem dX8_init_178 : decode cX8_init 178 = .ok (.dup, 1) := by decide +kernel
theorem dX8_init_179 : decode cX8_init 179 = .ok (.iconst 0, 1) := by decide +kernel
theorem dX8_init_180 : decode cX8_init 180 = .ok (.bipush 116, 2) := by decide +kernel
theorem dX8_init_182 : decode cX8_init 182 = .ok (.iastore, 1) := by decide +kernel
theorem dX8_init_183 : decode cX8_init 183 = .ok (.dup, 1) := by decide +kernel
theorem dX8_init_184 : decode cX8_init 184 = .ok (.iconst 1, 1) := by decide +kernel
theorem dX8_init_185 : decode cX8_init 185 = .ok (.bipush 104, 2) := by decide +kernel
theorem dX8_init_187 : decode cX8_init 187 = .ok (.iastore, 1) := by decide +kernel
theorem dX8_init_188 : decode cX8_init 188 = .ok (.dup, 1) := by decide +kernel
theorem dX8_init_189 : decode cX8_init 189 = .ok (.iconst 2, 1) := by decide +kernel
theorem dX8_init_190 : decode cX8_init 190 = .ok (.bipush 105, 2) := by decide +kernel
theorem dX8_init_192 : decode cX8_init 192 = .ok (.iastore, 1) := by decide +kernel
theorem dX8_init_193 : decode cX8_init 193 = .ok (.dup, 1) := by decide +kernel
theorem dX8_init_194 : decode cX8_init 194 = .ok (.iconst 3, 1) := by decide +kernel
theorem dX8_init_195 : decode cX8_init 195 = .ok (.bipush 110, 2) := by decide +kernel
theorem dX8_init_197 : decode cX8_init 197 = .ok (.iastore, 1) := by decide +kernel
theorem dX8_init_198 : decode cX8_init 198 = .ok (.dup, 1) := by decide +kernel
theorem dX8_init_199 : decode cX8_init 199 = .ok (.iconst 4, 1) := by decide +kernel
theorem dX8_init_200 : decode cX8_init 200 = .ok (.bipush 103, 2) := by decide +kernel
theorem dX8_init_202 : decode cX8_init 202 = .ok (.iastore, 1) := by decide +kernel
theorem dX8_init_203 : decode cX8_init 203 = .ok (.dup, 1) := by decide +kernel
theorem dX8_init_204 : decode cX8_init 204 = .ok (.iconst 5, 1) := by decide +kernel
theorem dX8_init_205 : decode cX8_init 205 = .ok (.bipush 32, 2) := by decide +kernel
theorem dX8_init_207 : decode cX8_init 207 = .ok (.iastore, 1) := by decide +kernel
theorem dX8_init_208 : decode cX8_init 208 = .ok (.dup, 1) := by decide +kernel
theorem dX8_init_209 : decode cX8_init 209 = .ok (.bipush 6, 2) := by decide +kernel
theorem dX8_init_211 : decode cX8_init 211 = .ok (.iconst 0, 1) := by decide +kernel
theorem dX8_init_212 : decode cX8_init 212 = .ok (.iastore, 1) := by decide +kernel
theorem dX8_init_213 : decode cX8_init 213 = .ok (.dup, 1) := by decide +kernel
theorem dX8_init_214 : decode cX8_init 214 = .ok (.bipush 7, 2) := by decide +kernel
theorem dX8_init_216 : decode cX8_init 216 = .ok (.bipush 119, 2) := by decide +kernel
theorem dX8_init_218 : decode cX8_init 218 = .ok (.iastore, 1) := by decide +kernel
theorem dX8_init_219 : decode cX8_init 219 = .ok (.dup, 1) := by decide +kernel
theorem dX8_init_220 : decode cX8_init 220 = .ok (.bipush 8, 2) := by decide +kernel
theorem dX8_init_222 : decode cX8_init 222 = .ok (.bipush 97, 2) := by decide +kernel
theorem dX8_init_224 : decode cX8_init 224 = .ok (.iastore, 1) := by decide +kernel
theorem dX8_init_225 : decode cX8_init 225 = .ok (.dup, 1) := by decide +kernel
theorem dX8_init_226 : decode cX8_init 226 = .ok (.bipush 9, 2) := by decide +kernel
theorem dX8_init_228 : decode cX8_init 228 = .ok (.bipush 105, 2) := by decide +kernel
theorem dX8_init_230 : decode cX8_init 230 = .ok (.iastore, 1) := by decide +kernel
theorem dX8_init_231 : decode cX8_init 231 = .ok (.dup, 1) := by decide +kernel
theorem dX8_init_232 : decode cX8_init 232 = .ok (.bipush 10, 2) := by decide +kernel
theorem dX8_init_234 : decode cX8_init 234 = .ok (.bipush 116, 2) := by decide +kernel
theorem dX8_init_236 : decode cX8_init 236 = .ok (.iastore, 1) := by decide +kernel
theorem dX8_init_237 : decode cX8_init 237 = .ok (.dup, 1) := by decide +kernel
theorem dX8_init_238 : decode cX8_init 238 = .ok (.bipush 11, 2) := by decide +kernel
theorem dX8_init_240 : decode cX8_init 240 = .ok (.bipush 101, 2) := by decide +kernel
theorem dX8_init_242 : decode cX8_init 242 = .ok (.iastore, 1) := by decide +kernel
theorem dX8_init_243 : decode cX8_init 243 = .ok (.dup, 1) := by decide +kernel
theorem dX8_init_244 : decode cX8_init 244 = .ok (.bipush 12, 2) := by decide +kernel
theorem dX8_init_246 : decode cX8_init 246 = .ok (.bipush 114, 2) := by decide +kernel
theorem dX8_init_248 : decode cX8_init 248 = .ok (.iastore, 1) := by decide +kernel
theorem dX8_init_249 : decode cX8_init 249 = .ok (.dup, 1) := by decide +kernel
theorem dX8_init_250 : decode cX8_init 250 = .ok (.bipush 13, 2) := by decide +kernel
theorem dX8_init_252 : decode cX8_init 252 = .ok (.bipush 32, 2) := by decide +kernel
theorem dX8_init_254 : decode cX8_init 254 = .ok (.iastore, 1) := by decide +kernel
theorem dX8_init_255 : decode cX8_init 255 = .ok (.dup, 1) := by decide +kernel
theorem dX8_init_256 : decode cX8_init 256 = .ok (.bipush 14, 2) := by decide +kernel
theorem dX8_init_258 : decode cX8_init 258 = .ok (.iconst 0, 1) := by decide +kernel
theorem dX8_init_259 : decode cX8_init 259 = .ok (.iastore, 1) := by decide +kernel
theorem dX8_init_260 : decode cX8_init 260 = .ok (.dup, 1) := by decide +kernel
theorem dX8_init_261 : decode cX8_init 261 = .ok (.bipush 15, 2) := by decide +kernel
theorem dX8_init_263 : decode cX8_init 263 = .ok (.bipush 109, 2) := by decide +kernel
theorem dX8_init_265 : decode cX8_init 265 = .ok (.iastore, 1) := by decide +kernel
theorem dX8_init_266 : decode cX8_init 266 = .ok (.dup, 1) := by decide +kernel
theorem dX8_init_267 : decode cX8_init 267 = .ok (.bipush 16, 2) := by decide +kernel
theorem dX8_init_269 : decode cX8_init 269 = .ok (.bipush 111, 2) := by decide +kernel
theorem dX8_init_271 : decode cX8_init 271 = .ok (.iastore, 1) := by decide +kernel
theorem dX8_init_272 : decode cX8_init 272 = .ok (.dup, 1) := by decide +kernel
theorem dX8_init_273 : decode cX8_init 273 = .ok (.bipush 17, 2) := by decide +kernel
theorem dX8_init_275 : decode cX8_init 275 = .ok (.bipush 118, 2) := by decide +kernel
theorem dX8_init_277 : decode cX8_init 277 = .ok (.iastore, 1) := by decide +kernel
theorem dX8_init_278 : decode cX8_init 278 = .ok (.dup, 1) := by decide +kernel
theorem dX8_init_279 : decode cX8_init 279 = .ok (.bipush 18, 2) := by decide +kernel
theorem dX8_init_281 : decode cX8_init 281 = .ok (.bipush 101, 2) := by decide +kernel
theorem dX8_init_283 : decode cX8_init 283 = .ok (.iastore, 1) := by decide +kernel
theorem dX8_init_284 : decode cX8_init 284 = .ok (.dup, 1) := by decide +kernel
theorem dX8_init_285 : decode cX8_init 285 = .ok (.bipush 19, 2) := by decide +kernel
theorem dX8_init_287 : decode cX8_init 287 = .ok (.bipush 115, 2) := by decide +kernel
theorem dX8_init_289 : decode cX8_init 289 = .ok (.iastore, 1) := by decide +kernel
theorem dX8_init_290 : decode cX8_init 290 = .ok (.dup, 1) := by decide +kernel
theorem dX8_init_291 : decode cX8_init 291 = .ok (.bipush 20, 2) := by decide +kernel
theorem dX8_init_293 : decode cX8_init 293 = .ok (.bipush 32, 2) := by decide +kernel
theorem dX8_init_295 : decode cX8_init 295 = .ok (.iastore, 1) := by decide +kernel
theorem dX8_init_296 : decode cX8_init 296 = .ok (.dup, 1) := by decide +kernel
theorem dX8_init_297 : decode cX8_init 297 = .ok (.bipush 21, 2) := by decide +kernel
theorem dX8_init_299 : decode cX8_init 299 = .ok (.iconst 0, 1) := by decide +kernel
theorem dX8_init_300 : decode cX8_init 300 = .ok (.iastore, 1) := by decide +kernel
theorem dX8_init_301 : decode cX8_init 301 = .ok (.dup, 1) := by decide +kernel
theorem dX8_init_302 : decode cX8_init 302 = .ok (.bipush 22, 2) := by decide +kernel
theorem dX8_init_304 : decode cX8_init 304 = .ok (.bipush 104, 2) := by decide +kernel
theorem dX8_init_306 : decode cX8_init 306 = .ok (.iastore, 1) := by decide +kernel
theorem dX8_init_307 : decode cX8_init 307 = .ok (.dup, 1) := by decide +kernel
theorem dX8_init_308 : decode cX8_init 308 = .ok (.bipush 23, 2) := by decide +kernel
theorem dX8_init_310 : decode cX8_init 310 = .ok (.bipush 111, 2) := by decide +kernel
theorem dX8_init_312 : decode cX8_init 312 = .ok (.iastore, 1) := by decide +kernel
theorem dX8_init_313 : decode cX8_init 313 = .ok (.dup, 1) := by decide +kernel
theorem dX8_init_314 : decode cX8_init 314 = .ok (.bipush 24, 2) := by decide +kernel
theorem dX8_init_316 : decode cX8_init 316 = .ok (.bipush 112, 2) := by decide +kernel
theorem dX8_init_318 : decode cX8_init 318 = .ok (.iastore, 1) := by decide +kernel
theorem dX8_init_319 : decode cX8_init 319 = .ok (.dup, 1) := by decide +kernel
theorem dX8_init_320 : decode cX8_init 320 = .ok (.bipush 25, 2) := by decide +kernel
theorem dX8_init_322 : decode cX8_init 322 = .ok (.bipush 101, 2) := by decide +kernel
theorem dX8_init_324 : decode cX8_init 324 = .ok (.iastore, 1) := by decide +kernel
theorem dX8_init_325 : decode cX8_init 325 = .ok (.dup, 1) := by decide +kernel
theorem dX8_init_326 : decode cX8_init 326 = .ok (.bipush 26, 2) := by decide +kernel
theorem dX8_init_328 : decode cX8_init 328 = .ok (.bipush 32, 2) := by decide +kernel
theorem dX8_init_330 : decode cX8_init 330 = .ok (.iastore, 1) := by decide +kernel
theorem dX8_init_331 : decode cX8_init 331 = .ok (.dup, 1) := by decide +kernel
theorem dX8_init_332 : decode cX8_init 332 = .ok (.bipush 27, 2) := by decide +kernel
theorem dX8_init_334 : decode cX8_init 334 = .ok (.iconst 0, 1) := by decide +kernel
theorem dX8_init_335 : decode cX8_init 335 = .ok (.iastore, 1) := by decide +kernel
theorem dX8_init_336 : decode cX8_init 336 = .ok (.putfield 78, 3) := by decide +kernel
theorem dX8_init_339 : decode cX8_init 339 = .ok (.aload_n 0, 1) := by decide +kernel
theorem dX8_init_340 : decode cX8_init 340 = .ok (.iconst 4, 1) := by decide +kernel
theorem dX8_init_341 : decode cX8_init 341 = .ok (.newarray .int, 2) := by decide +kernel
theorem dX8_init_343 : decode cX8_init 343 = .ok (.dup, 1) := by decide +kernel
theorem dX8_init_344 : decode cX8_init 344 = .ok (.iconst 0, 1) := by decide +kernel
theorem dX8_init_345 : decode cX8_init 345 = .ok (.bipush 7, 2) := by decide +kernel
theorem dX8_init_347 : decode cX8_init 347 = .ok (.iastore, 1) := by decide +kernel
theorem dX8_init_348 : decode cX8_init 348 = .ok (.dup, 1) := by decide +kernel
theorem dX8_init_349 : decode cX8_init 349 = .ok (.iconst 1, 1) := by decide +kernel
theorem dX8_init_350 : decode cX8_init 350 = .ok (.iconst 5, 1) := by decide +kernel
theorem dX8_init_351 : decode cX8_init 351 = .ok (.iastore, 1) := by decide +kernel
theorem dX8_init_352 : decode cX8_init 352 = .ok (.dup, 1) := by decide +kernel
theorem dX8_init_353 : decode cX8_init 353 = .ok (.iconst 2, 1) := by decide +kernel
theorem dX8_init_354 : decode cX8_init 354 = .ok (.iconst 2, 1) := by decide +kernel
theorem dX8_init_355 : decode cX8_init 355 = .ok (.iastore, 1) := by decide +kernel
theorem dX8_init_356 : decode cX8_init 356 = .ok (.dup, 1) := by decide +kernel
theorem dX8_init_357 : decode cX8_init 357 = .ok (.iconst 3, 1) := by decide +kernel
theorem dX8_init_358 : decode cX8_init 358 = .ok (.iconst 1, 1) := by decide +kernel
theorem dX8_init_359 : decode cX8_init 359 = .ok (.iastore, 1) := by decide +kernel
theorem dX8_init_360 : decode cX8_init 360 = .ok (.putfield 81, 3) := by decide +kernel
theorem dX8_init_363 : decode cX8_init 363 = .ok (.aload_n 0, 1) := by decide +kernel
theorem dX8_init_364 : decode cX8_init 364 = .ok (.bipush 7, 2) := by decide +kernel
theorem dX8_init_366 : decode cX8_init 366 = .ok (.newarray .int, 2) := by decide +kernel
theorem dX8_init_368 : decode cX8_init 368 = .ok (.dup, 1) := by decide +kernel
theorem dX8_init_369 : decode cX8_init 369 = .ok (.iconst 0, 1) := by decide +kernel
theorem dX8_init_370 : decode cX8_init 370 = .ok (.bipush 9, 2) := by decide +kernel
theorem dX8_init_372 : decode cX8_init 372 = .ok (.iastore, 1) := by decide +kernel
theorem dX8_init_373 : decode cX8_init 373 = .ok (.dup, 1) := by decide +kernel
theorem dX8_init_374 : decode cX8_init 374 = .ok (.iconst 1, 1) := by decide +kernel
theorem dX8_init_375 : decode cX8_init 375 = .ok (.bipush 23, 2) := by decide +kernel
theorem dX8_init_377 : decode cX8_init 377 = .ok (.iastore, 1) := by decide +kernel
theorem dX8_init_378 : decode cX8_init 378 = .ok (.dup, 1) := by decide +kernel
theorem dX8_init_379 : decode cX8_init 379 = .ok (.iconst 2, 1) := by decide +kernel
theorem dX8_init_380 : decode cX8_init 380 = .ok (.bipush 23, 2) := by decide +kernel
theorem dX8_init_382 : decode cX8_init 382 = .ok (.iastore, 1) := by decide +kernel
theorem dX8_init_383 : decode cX8_init 383 = .ok (.dup, 1) := by decide +kernel
theorem dX8_init_384 : decode cX8_init 384 = .ok (.iconst 3, 1) := by decide +kernel
theorem dX8_init_385 : decode cX8_init 385 = .ok (.bipush 9, 2) := by decide +kernel
theorem dX8_init_387 : decode cX8_init 387 = .ok (.iastore, 1) := by decide +kernel
theorem dX8_init_388 : decode cX8_init 388 = .ok (.dup, 1) := by decide +kernel
theorem dX8_init_389 : decode cX8_init 389 = .ok (.iconst 4, 1) := by decide +kernel
theorem dX8_init_390 : decode cX8_init 390 = .ok (.bipush 99, 2) := by decide +kernel
theorem dX8_init_392 : decode cX8_init 392 = .ok (.iastore, 1) := by decide +kernel
theorem dX8_init_393 : decode cX8_init 393 = .ok (.dup, 1) := by decide +kernel
theorem dX8_init_394 : decode cX8_init 394 = .ok (.iconst 5, 1) := by decide +kernel
theorem dX8_init_395 : decode cX8_init 395 = .ok (.bipush 9, 2) := by decide +kernel
theorem dX8_init_397 : decode cX8_init 397 = .ok (.iastore, 1) := by decide +kernel
theorem dX8_init_398 : decode cX8_init 398 = .ok (.dup, 1) := by decide +kernel
theorem dX8_init_399 : decode cX8_init 399 = .ok (.bipush 6, 2) := by decide +kernel
theorem dX8_init_401 : decode cX8_init 401 = .ok (.bipush 20, 2) := by decide +kernel
theorem dX8_init_403 : decode cX8_init 403 = .ok (.iastore, 1) := by decide +kernel
theorem dX8_init_404 : decode cX8_init 404 = .ok (.putfield 84, 3) := by decide +kernel
theorem dX8_init_407 : decode cX8_init 407 = .ok (.aload_n 0, 1) := by decide +kernel
theorem dX8_init_408 : decode cX8_init 408 = .ok (.iconst 5, 1) := by decide +kernel
theorem dX8_init_409 : decode cX8_init 409 = .ok (.newarray .int, 2) := by decide +kernel
theorem dX8_init_411 : decode cX8_init 411 = .ok (.dup, 1) := by decide +kernel
theorem dX8_init_412 : decode cX8_init 412 = .ok (.iconst 0, 1) := by decide +kernel
theorem dX8_init_413 : decode cX8_init 413 = .ok (.bipush 6, 2) := by decide +kernel
theorem dX8_init_415 : decode cX8_init 415 = .ok (.iastore, 1) := by decide +kernel
theorem dX8_init_416 : decode cX8_init 416 = .ok (.dup, 1) := by decide +kernel
theorem dX8_init_417 : decode cX8_init 417 = .ok (.iconst 1, 1) := by decide +kernel
theorem dX8_init_418 : decode cX8_init 418 = .ok (.bipush 9, 2) := by decide +kernel
theorem dX8_init_420 : decode cX8_init 420 = .ok (.iastore, 1) := by decide +kernel
theorem dX8_init_421 : decode cX8_init 421 = .ok (.dup, 1) := by decide +kernel
theorem dX8_init_422 : decode cX8_init 422 = .ok (.iconst 2, 1) := by decide +kernel
theorem dX8_init_423 : decode cX8_init 423 = .ok (.bipush 9, 2) := by decide +kernel
theorem dX8_init_425 : decode cX8_init 425 = .ok (.iastore, 1) := by decide +kernel
theorem dX8_init_426 : decode cX8_init 426 = .ok (.dup, 1) := by decide +kernel
theorem dX8_init_427 : decode cX8_init 427 = .ok (.iconst 3, 1) := by decide +kernel
theorem dX8_init_428 : decode cX8_init 428 = .ok (.bipush 24, 2) := by decide +kernel
theorem dX8_init_430 : decode cX8_init 430 = .ok (.iastore, 1) := by decide +kernel
theorem dX8_init_431 : decode cX8_init 431 = .ok (.dup, 1) := by decide +kernel
theorem dX8_init_432 : decode cX8_init 432 = .ok (.iconst 4, 1) := by decide +kernel
theorem dX8_init_433 : decode cX8_init 433 = .ok (.bipush 9, 2) := by decide +kernel
theorem dX8_init_435 : decode cX8_init 435 = .ok (.iastore, 1) := by decide +kernel
theorem dX8_init_436 : decode cX8_init 436 = .ok (.putfield 87, 3) := by decide +kernel
theorem dX8_init_439 : decode cX8_init 439 = .ok (.aload_n 0, 1) := by decide +kernel
theorem dX8_init_440 : decode cX8_init 440 = .ok (.bipush 7, 2) := by decide +kernel
theorem dX8_init_442 : decode cX8_init 442 = .ok (.newarray .int, 2) := by decide +kernel
theorem dX8_init_444 : decode cX8_init 444 = .ok (.putfield 90, 3) := by decide +kernel
theorem dX8_init_447 : decode cX8_init 447 = .ok (.aload_n 0, 1) := by decide +kernel
theorem dX8_init_448 : decode cX8_init 448 = .ok (.bipush 100, 2) := by decide +kernel
theorem dX8_init_450 : decode cX8_init 450 = .ok (.newarray .int, 2) := by decide +kernel
theorem dX8_init_452 : decode cX8_init 452 = .ok (.putfield 93, 3) := by decide +kernel
theorem dX8_init_455 : decode cX8_init 455 = .ok (.aload_n 0, 1) := by decide +kernel
theorem dX8_init_456 : decode cX8_init 456 = .ok (.bipush 100, 2) := by decide +kernel
theorem dX8_init_458 : decode cX8_init 458 = .ok (.newarray .int, 2) := by decide +kernel
theorem dX8_init_460 : decode cX8_init 460 = .ok (.putfield 96, 3) := by decide +kernel
theorem dX8_init_463 : decode cX8_init 463 = .ok (.aload_n 0, 1) := by decide +kernel
theorem dX8_init_464 : decode cX8_init 464 = .ok (.sipush 175, 3) := by decide +kernel
theorem dX8_init_467 : decode cX8_init 467 = .ok (.newarray .int, 2) := by decide +kernel
theorem dX8_init_469 : decode cX8_init 469 = .ok (.putfield 99, 3) := by decide +kernel
theorem dX8_init_472 : decode cX8_init 472 = .ok (.aload_n 0, 1) := by decide +kernel
theorem dX8_init_473 : decode cX8_init 473 = .ok (.bipush 20, 2) := by decide +kernel
theorem dX8_init_475 : decode cX8_init 475 = .ok (.newarray .int, 2) := by decide +kernel
theorem dX8_init_477 : decode cX8_init 477 = .ok (.putfield 102, 3) := by decide +kernel
theorem dX8_init_480 : decode cX8_init 480 = .ok (.return_, 1) := by decide +kernel
theorem dX8_no_0 : decode cX8_no 0 = .ok (.aload_n 0, 1) := by decide +kernel
theorem dX8_no_1 : decode cX8_no 1 = .ok (.getfield 19, 3) := by decide +kernel
theorem dX8_no_4 : decode cX8_no 4 = .ok (.iload_n 1, 1) := by decide +kernel
theorem dX8_no_5 : decode cX8_no 5 = .ok (.ineg, 1) := by decide +kernel
theorem dX8_no_6 : decode cX8_no 6 = .ok (.dup2, 1) := by decide +kernel
theorem dX8_no_7 : decode cX8_no 7 = .ok (.iaload, 1) := by decide +kernel
theorem dX8_no_8 : decode cX8_no 8 = .ok (.iconst 1, 1) := by decide +kernel
theorem dX8_no_9 : decode cX8_no 9 = .ok (.iadd, 1) := by decide +kernel
theorem dX8_no_10 : decode cX8_no 10 = .ok (.iastore, 1) := by decide +kernel
theorem dX8_no_11 : decode cX8_no 11 = .ok (.iload_n 1, 1) := by decide +kernel
theorem dX8_no_12 : decode cX8_no 12 = .ok (.ireturn, 1) := by decide +kernel
theorem dX8_noTen_0 : decode cX8_noTen 0 = .ok (.aload_n 0, 1) := by decide +kernel
theorem dX8_noTen_1 : decode cX8_noTen 1 = .ok (.getfield 19, 3) := by decide +kernel
theorem dX8_noTen_4 : decode cX8_noTen 4 = .ok (.iload_n 1, 1) := by decide +kernel
theorem dX8_noTen_5 : decode cX8_noTen 5 = .ok (.ineg, 1) := by decide +kernel
theorem dX8_noTen_6 : decode cX8_noTen 6 = .ok (.dup2, 1) := by decide +kernel
theorem dX8_noTen_7 : decode cX8_noTen 7 = .ok (.iaload, 1) := by decide +kernel
theorem dX8_noTen_8 : decode cX8_noTen 8 = .ok (.iconst 1, 1) := by decide +kernel
theorem dX8_noTen_9 : decode cX8_noTen 9 = .ok (.iadd, 1) := by decide +kernel
theorem dX8_noTen_10 : decode cX8_noTen 10 = .ok (.iastore, 1) := by decide +kernel
theorem dX8_noTen_11 : decode cX8_noTen 11 = .ok (.iload_n 1, 1) := by decide +kernel
theorem dX8_noTen_12 : decode cX8_noTen 12 = .ok (.bipush 10, 2) := by decide +kernel
theorem dX8_noTen_14 : decode cX8_noTen 14 = .ok (.isub, 1) := by decide +kernel
theorem dX8_noTen_15 : decode cX8_noTen 15 = .ok (.ireturn, 1) := by decide +kernel
theorem dX8_isShelf_0 : decode cX8_isShelf 0 = .ok (.iload_n 1, 1) := by decide +kernel
theorem dX8_isShelf_1 : decode cX8_isShelf 1 = .ok (.ifCond .lt 13, 3) := by decide +kernel
theorem dX8_isShelf_4 : decode cX8_isShelf 4 = .ok (.iload_n 1, 1) := by decide +kernel
theorem dX8_isShelf_5 : decode cX8_isShelf 5 = .ok (.bipush 8, 2) := by decide +kernel
theorem dX8_isShelf_7 : decode cX8_isShelf 7 = .ok (.if_icmp .ge 7, 3) := by decide +kernel
theorem dX8_isShelf_10 : decode cX8_isShelf 10 = .ok (.iconst 1, 1) := by decide +kernel
theorem dX8_isShelf_11 : decode cX8_isShelf 11 = .ok (.goto 4, 3) := by decide +kernel
theorem dX8_isShelf_14 : decode cX8_isShelf 14 = .ok (.iconst 0, 1) := by decide +kernel
theorem dX8_isShelf_15 : decode cX8_isShelf 15 = .ok (.ireturn, 1) := by decide +kernel
theorem dX8_isWaiter_0 : decode cX8_isWaiter 0 = .ok (.iload_n 1, 1) := by decide +kernel
theorem dX8_isWaiter_1 : decode cX8_isWaiter 1 = .ok (.ifCond .lt 15, 3) := by decide +kernel
theorem dX8_isWaiter_4 : decode cX8_isWaiter 4 = .ok (.iload_n 1, 1) := by decide +kernel
theorem dX8_isWaiter_5 : decode cX8_isWaiter 5 = .ok (.aload_n 0, 1) := by decide +kernel
theorem dX8_isWaiter_6 : decode cX8_isWaiter 6 = .ok (.getfield 105, 3) := by decide +kernel
theorem dX8_isWaiter_9 : decode cX8_isWaiter 9 = .ok (.if_icmp .ge 7, 3) := by decide +kernel
theorem dX8_isWaiter_12 : decode cX8_isWaiter 12 = .ok (.iconst 1, 1) := by decide +kernel
theorem dX8_isWaiter_13 : decode cX8_isWaiter 13 = .ok (.goto 4, 3) := by decide +kernel
theorem dX8_isWaiter_16 : decode cX8_isWaiter 16 = .ok (.iconst 0, 1) := by decide +kernel
theorem dX8_isWaiter_17 : decode cX8_isWaiter 17 = .ok (.ireturn, 1) := by decide +kernel
theorem dX8_isThing_0 : decode cX8_isThing 0 = .ok (.iload_n 1, 1) := by decide +kernel
theorem dX8_isThing_1 : decode cX8_isThing 1 = .ok (.ifCond .lt 15, 3) := by decide +kernel
theorem dX8_isThing_4 : decode cX8_isThing 4 = .ok (.iload_n 1, 1) := by decide +kernel
theorem dX8_isThing_5 : decode cX8_isThing 5 = .ok (.aload_n 0, 1) := by decide +kernel
theorem dX8_isThing_6 : decode cX8_isThing 6 = .ok (.getfield 108, 3) := by decide +kernel
theorem dX8_isThing_9 : decode cX8_isThing 9 = .ok (.if_icmp .ge 7, 3) := by decide +kernel
theorem dX8_isThing_12 : decode cX8_isThing 12 = .ok (.iconst 1, 1) := by decide +kernel
theorem dX8_isThing_13 : decode cX8_isThing 13 = .ok (.goto 4, 3) := by decide +kernel
theorem dX8_isThing_16 : decode cX8_isThing 16 = .ok (.iconst 0, 1) := by decide +kernel
theorem dX8_isThing_17 : decode cX8_isThing 17 = .ok (.ireturn, 1) := by decide +kernel
theorem dX8_isFrom_0 : decode cX8_isFrom 0 = .ok (.iload_n 1, 1) := by decide +kernel
theorem dX8_isFrom_1 : decode cX8_isFrom 1 = .ok (.iload_n 2, 1) := by decide +kernel
theorem dX8_isFrom_2 : decode cX8_isFrom 2 = .ok (.if_icmp .lt 12, 3) := by decide +kernel
theorem dX8_isFrom_5 : decode cX8_isFrom 5 = .ok (.iload_n 1, 1) := by decide +kernel
theorem dX8_isFrom_6 : decode cX8_isFrom 6 = .ok (.iload_n 3, 1) := by decide +kernel
theorem dX8_isFrom_7 : decode cX8_isFrom 7 = .ok (.if_icmp .gt 7, 3) := by decide +kernel
theorem dX8_isFrom_10 : decode cX8_isFrom 10 = .ok (.iconst 1, 1) := by decide +kernel
theorem dX8_isFrom_11 : decode cX8_isFrom 11 = .ok (.goto 4, 3) := by decide +kernel
theorem dX8_isFrom_14 : decode cX8_isFrom 14 = .ok (.iconst 0, 1) := by decide +kernel
theorem dX8_isFrom_15 : decode cX8_isFrom 15 = .ok (.ireturn, 1) := by decide +kernel
theorem dX8_row_0 : decode cX8_row 0 = .ok (.aload_n 0, 1) := by decide +kernel
theorem dX8_row_1 : decode cX8_row 1 = .ok (.iload_n 1, 1) := by decide +kernel
theorem dX8_row_2 : decode cX8_row 2 = .ok (.invokevirtual 111, 3) := by decide +kernel
theorem dX8_row_5 : decode cX8_row 5 = .ok (.ifCond .ne 9, 3) := by decide +kernel
theorem dX8_row_8 : decode cX8_row 8 = .ok (.aload_n 0, 1) := by decide +kernel
theorem dX8_row_9 : decode cX8_row 9 = .ok (.iconst (-1), 1) := by decide +kernel
theorem dX8_row_10 : decode cX8_row 10 = .ok (.invokevirtual 115, 3) := by decide +kernel
theorem dX8_row_13 : decode cX8_row 13 = .ok (.ireturn, 1) := by decide +kernel
theorem dX8_row_14 : decode cX8_row 14 = .ok (.iload_n 3, 1) := by decide +kernel
theorem dX8_row_15 : decode cX8_row 15 = .ok (.ifCond .ge 10, 3) := by decide +kernel
theorem dX8_row_18 : decode cX8_row 18 = .ok (.aload_n 0, 1) := by decide +kernel
theorem dX8_row_19 : decode cX8_row 19 = .ok (.bipush (-4), 2) := by decide +kernel
theorem dX8_row_21 : decode cX8_row 21 = .ok (.invokevirtual 115, 3) := by decide +kernel
theorem dX8_row_24 : decode cX8_row 24 = .ok (.ireturn, 1) := by decide +kernel
theorem dX8_row_25 : decode cX8_row 25 = .ok (.iload_n 2, 1) := by decide +kernel
theorem dX8_row_26 : decode cX8_row 26 = .ok (.ifCond .lt 8, 3) := by decide +kernel
theorem dX8_row_29 : decode cX8_row 29 = .ok (.iload_n 2, 1) := by decide +kernel
theorem dX8_row_30 : decode cX8_row 30 = .ok (.iconst 3, 1) := by decide +kernel
theorem dX8_row_31 : decode cX8_row 31 = .ok (.if_icmp .le 10, 3) := by decide +kernel
theorem dX8_row_34 : decode cX8_row 34 = .ok (.aload_n 0, 1) := by decide +kernel
theorem dX8_row_35 : decode cX8_row 35 = .ok (.bipush (-6), 2) := by decide +kernel
theorem dX8_row_37 : decode cX8_row 37 = .ok (.invokevirtual 115, 3) := by decide +kernel
theorem dX8_row_40 : decode cX8_row 40 = .ok (.ireturn, 1) := by decide +kernel
theorem dX8_row_41 : decode cX8_row 41 = .ok (.iload_n 3, 1) := by decide +kernel
theorem dX8_row_42 : decode cX8_row 42 = .ok (.sipush 160, 3) := by decide +kernel
theorem dX8_row_45 : decode cX8_row 45 = .ok (.if_icmp .le 10, 3) := by decide +kernel
theorem dX8_row_48 : decode cX8_row 48 = .ok (.aload_n 0, 1) := by decide +kernel
theorem dX8_row_49 : decode cX8_row 49 = .ok (.bipush (-7), 2) := by decide +kernel
theorem dX8_row_51 : decode cX8_row 51 = .ok (.invokevirtual 115, 3) := by decide +kernel
theorem dX8_row_54 : decode cX8_row 54 = .ok (.ireturn, 1) := by decide +kernel
theorem dX8_row_55 : decode cX8_row 55 = .ok (.aload_n 0, 1) := by decide +kernel
theorem dX8_row_56 : decode cX8_row 56 = .ok (.getfield 59, 3) := by decide +kernel
theorem dX8_row_59 : decode cX8_row 59 = .ok (.iload_n 1, 1) := by decide +kernel
theorem dX8_row_60 : decode cX8_row 60 = .ok (.iconst 1, 1) := by decide +kernel
theorem dX8_row_61 : decode cX8_row 61 = .ok (.iastore, 1) := by decide +kernel
theorem dX8_row_62 : decode cX8_row 62 = .ok (.aload_n 0, 1) := by decide +kernel
theorem dX8_row_63 : decode cX8_row 63 = .ok (.getfield 62, 3) := by decide +kernel
theorem dX8_row_66 : decode cX8_row 66 = .ok (.iload_n 1, 1) := by decide +kernel
theorem dX8_row_67 : decode cX8_row 67 = .ok (.iload_n 2, 1) := by decide +kernel
theorem dX8_row_68 : decode cX8_row 68 = .ok (.iastore, 1) := by decide +kernel
theorem dX8_row_69 : decode cX8_row 69 = .ok (.aload_n 0, 1) := by decide +kernel
theorem dX8_row_70 : decode cX8_row 70 = .ok (.getfield 65, 3) := by decide +kernel
theorem dX8_row_73 : decode cX8_row 73 = .ok (.iload_n 1, 1) := by decide +kernel
theorem dX8_row_74 : decode cX8_row 74 = .ok (.iload_n 3, 1) := by decide +kernel
theorem dX8_row_75 : decode cX8_row 75 = .ok (.iastore, 1) := by decide +kernel
theorem dX8_row_76 : decode cX8_row 76 = .ok (.iconst 0, 1) := by decide +kernel
theorem dX8_row_77 : decode cX8_row 77 = .ok (.istore 4, 2) := by decide +kernel
theorem dX8_row_79 : decode cX8_row 79 = .ok (.iload 4, 2) := by decide +kernel
theorem dX8_row_81 : decode cX8_row 81 = .ok (.sipush 160, 3) := by decide +kernel
theorem dX8_row_84 : decode cX8_row 84 = .ok (.if_icmp .ge 23, 3) := by decide +kernel
theorem dX8_row_87 : decode cX8_row 87 = .ok (.aload_n 0, 1) := by decide +kernel
theorem dX8_row_88 : decode cX8_row 88 = .ok (.getfield 71, 3) := by decide +kernel
theorem dX8_row_91 : decode cX8_row 91 = .ok (.sipush 160, 3) := by decide +kernel
theorem dX8_row_94 : decode cX8_row 94 = .ok (.iload_n 1, 1) := by decide +kernel
theorem dX8_row_95 : decode cX8_row 95 = .ok (.imul, 1) := by decide +kernel
theorem dX8_row_96 : decode cX8_row 96 = .ok (.iload 4, 2) := by decide +kernel
theorem dX8_row_98 : decode cX8_row 98 = .ok (.iadd, 1) := by decide +kernel
theorem dX8_row_99 : decode cX8_row 99 = .ok (.lconst 0, 1) := by decide +kernel
theorem dX8_row_100 : decode cX8_row 100 = .ok (.lastore, 1) := by decide +kernel
theorem dX8_row_101 : decode cX8_row 101 = .ok (.iinc 4 1, 3) := by decide +kernel
theorem dX8_row_104 : decode cX8_row 104 = .ok (.goto (-25), 3) := by decide +kernel
theorem dX8_row_107 : decode cX8_row 107 = .ok (.iconst 1, 1) := by decide +kernel
theorem dX8_row_108 : decode cX8_row 108 = .ok (.ireturn, 1) := by decide +kernel
theorem dX8_set_0 : decode cX8_set 0 = .ok (.aload_n 0, 1) := by decide +kernel
theorem dX8_set_1 : decode cX8_set 1 = .ok (.iload_n 1, 1) := by decide +kernel
theorem dX8_set_2 : decode cX8_set 2 = .ok (.invokevirtual 111, 3) := by decide +kernel
theorem dX8_set_5 : decode cX8_set 5 = .ok (.ifCond .ne 9, 3) := by decide +kernel
theorem dX8_set_8 : decode cX8_set 8 = .ok (.aload_n 0, 1) := by decide +kernel
theorem dX8_set_9 : decode cX8_set 9 = .ok (.iconst (-1), 1) := by decide +kernel
theorem dX8_set_10 : decode cX8_set 10 = .ok (.invokevirtual 115, 3) := by decide +kernel
theorem dX8_set_13 : decode cX8_set 13 = .ok (.ireturn, 1) := by decide +kernel
theorem dX8_set_14 : decode cX8_set 14 = .ok (.aload_n 0, 1) := by decide +kernel
theorem dX8_set_15 : decode cX8_set 15 = .ok (.getfield 59, 3) := by decide +kernel
theorem dX8_set_18 : decode cX8_set 18 = .ok (.iload_n 1, 1) := by decide +kernel
theorem dX8_set_19 : decode cX8_set 19 = .ok (.iaload, 1) := by decide +kernel
theorem dX8_set_20 : decode cX8_set 20 = .ok (.iconst 2, 1) := by decide +kernel
theorem dX8_set_21 : decode cX8_set 21 = .ok (.if_icmp .ne 10, 3) := by decide +kernel
theorem dX8_set_24 : decode cX8_set 24 = .ok (.aload_n 0, 1) := by decide +kernel
theorem dX8_set_25 : decode cX8_set 25 = .ok (.bipush (-2), 2) := by decide +kernel
theorem dX8_set_27 : decode cX8_set 27 = .ok (.invokevirtual 115, 3) := by decide +kernel
theorem dX8_set_30 : decode cX8_set 30 = .ok (.ireturn, 1) := by decide +kernel
theorem dX8_set_31 : decode cX8_set 31 = .ok (.aload_n 0, 1) := by decide +kernel
theorem dX8_set_32 : decode cX8_set 32 = .ok (.getfield 59, 3) := by decide +kernel
theorem dX8_set_35 : decode cX8_set 35 = .ok (.iload_n 1, 1) := by decide +kernel
theorem dX8_set_36 : decode cX8_set 36 = .ok (.iaload, 1) := by decide +kernel
theorem dX8_set_37 : decode cX8_set 37 = .ok (.ifCond .ne 10, 3) := by decide +kernel
theorem dX8_set_40 : decode cX8_set 40 = .ok (.aload_n 0, 1) := by decide +kernel
theorem dX8_set_41 : decode cX8_set 41 = .ok (.bipush (-3), 2) := by decide +kernel
theorem dX8_set_43 : decode cX8_set 43 = .ok (.invokevirtual 115, 3) := by decide +kernel
theorem dX8_set_46 : decode cX8_set 46 = .ok (.ireturn, 1) := by decide +kernel
theorem dX8_set_47 : decode cX8_set 47 = .ok (.iload_n 2, 1) := by decide +kernel
theorem dX8_set_48 : decode cX8_set 48 = .ok (.ifCond .lt 13, 3) := by decide +kernel
theorem dX8_set_51 : decode cX8_set 51 = .ok (.iload_n 2, 1) := by decide +kernel
theorem dX8_set_52 : decode cX8_set 52 = .ok (.aload_n 0, 1) := by decide +kernel
theorem dX8_set_53 : decode cX8_set 53 = .ok (.getfield 65, 3) := by decide +kernel
theorem dX8_set_56 : decode cX8_set 56 = .ok (.iload_n 1, 1) := by decide +kernel
theorem dX8_set_57 : decode cX8_set 57 = .ok (.iaload, 1) := by decide +kernel
theorem dX8_set_58 : decode cX8_set 58 = .ok (.if_icmp .lt 10, 3) := by decide +kernel
theorem dX8_set_61 : decode cX8_set 61 = .ok (.aload_n 0, 1) := by decide +kernel
theorem dX8_set_62 : decode cX8_set 62 = .ok (.bipush (-5), 2) := by decide +kernel
theorem dX8_set_64 : decode cX8_set 64 = .ok (.invokevirtual 115, 3) := by decide +kernel
theorem dX8_set_67 : decode cX8_set 67 = .ok (.ireturn, 1) := by decide +kernel
theorem dX8_set_68 : decode cX8_set 68 = .ok (.aload_n 0, 1) := by decide +kernel
theorem dX8_set_69 : decode cX8_set 69 = .ok (.getfield 71, 3) := by decide +kernel
theorem dX8_set_72 : decode cX8_set 72 = .ok (.sipush 160, 3) := by decide +kernel
theorem dX8_set_75 : decode cX8_set 75 = .ok (.iload_n 1, 1) := by decide +kernel
theorem dX8_set_76 : decode cX8_set 76 = .ok (.imul, 1) := by decide +kernel
theorem dX8_set_77 : decode cX8_set 77 = .ok (.iload_n 2, 1) := by decide +kernel
theorem dX8_set_78 : decode cX8_set 78 = .ok (.iadd, 1) := by decide +kernel
theorem dX8_set_79 : decode cX8_set 79 = .ok (.aload_n 0, 1) := by decide +kernel
theorem dX8_set_80 : decode cX8_set 80 = .ok (.getfield 62, 3) := by decide +kernel
theorem dX8_set_83 : decode cX8_set 83 = .ok (.iload_n 1, 1) := by decide +kernel
theorem dX8_set_84 : decode cX8_set 84 = .ok (.iaload, 1) := by decide +kernel
theorem dX8_set_85 : decode cX8_set 85 = .ok (.ifCond .ne 10, 3) := by decide +kernel
theorem dX8_set_88 : decode cX8_set 88 = .ok (.lload_n 3, 1) := by decide +kernel
theorem dX8_set_89 : decode cX8_set 89 = .ok (.l2i, 1) := by decide +kernel
theorem dX8_set_90 : decode cX8_set 90 = .ok (.i2b, 1) := by decide +kernel
theorem dX8_set_91 : decode cX8_set 91 = .ok (.i2l, 1) := by decide +kernel
theorem dX8_set_92 : decode cX8_set 92 = .ok (.goto 37, 3) := by decide +kernel
theorem dX8_set_95 : decode cX8_set 95 = .ok (.aload_n 0, 1) := by decide +kernel
theorem dX8_set_96 : decode cX8_set 96 = .ok (.getfield 62, 3) := by decide +kernel
theorem dX8_set_99 : decode cX8_set 99 = .ok (.iload_n 1, 1) := by decide +kernel
theorem dX8_set_100 : decode cX8_set 100 = .ok (.iaload, 1) := by decide +kernel
theorem dX8_set_101 : decode cX8_set 101 = .ok (.iconst 1, 1) := by decide +kernel
theorem dX8_set_102 : decode cX8_set 102 = .ok (.if_icmp .ne 10, 3) := by decide +kernel
theorem dX8_set_105 : decode cX8_set 105 = .ok (.lload_n 3, 1) := by decide +kernel
theorem dX8_set_106 : decode cX8_set 106 = .ok (.l2i, 1) := by decide +kernel
theorem dX8_set_107 : decode cX8_set 107 = .ok (.i2s, 1) := by decide +kernel
theorem dX8_set_108 : decode cX8_set 108 = .ok (.i2l, 1) := by decide +kernel
theorem dX8_set_109 : decode cX8_set 109 = .ok (.goto 20, 3) := by decide +kernel
theorem dX8_set_112 : decode cX8_set 112 = .ok (.aload_n 0, 1) := by decide +kernel
theorem dX8_set_113 : decode cX8_set 113 = .ok (.getfield 62, 3) := by decide +kernel
theorem dX8_set_116 : decode cX8_set 116 = .ok (.iload_n 1, 1) := by decide +kernel
theorem dX8_set_117 : decode cX8_set 117 = .ok (.iaload, 1) := by decide +kernel
theorem dX8_set_118 : decode cX8_set 118 = .ok (.iconst 2, 1) := by decide +kernel
theorem dX8_set_119 : decode cX8_set 119 = .ok (.if_icmp .ne 9, 3) := by decide +kernel
theorem dX8_set_122 : decode cX8_set 122 = .ok (.lload_n 3, 1) := by decide +kernel
theorem dX8_set_123 : decode cX8_set 123 = .ok (.l2i, 1) := by decide +kernel
theorem dX8_set_124 : decode cX8_set 124 = .ok (.i2l, 1) := by decide +kernel
theorem dX8_set_125 : decode cX8_set 125 = .ok (.goto 4, 3) := by decide +kernel
theorem dX8_set_128 : decode cX8_set 128 = .ok (.lload_n 3, 1) := by decide +kernel
theorem dX8_set_129 : decode cX8_set 129 = .ok (.lastore, 1) := by decide +kernel
theorem dX8_set_130 : decode cX8_set 130 = .ok (.iconst 1, 1) := by decide +kernel
theorem dX8_set_131 : decode cX8_set 131 = .ok (.ireturn, 1) := by decide +kernel
theorem dX8_copy_0 : decode cX8_copy 0 = .ok (.aload_n 0, 1) := by decide +kernel
theorem dX8_copy_1 : decode cX8_copy 1 = .ok (.iload_n 1, 1) := by decide +kernel
theorem dX8_copy_2 : decode cX8_copy 2 = .ok (.invokevirtual 111, 3) := by decide +kernel
theorem dX8_copy_5 : decode cX8_copy 5 = .ok (.ifCond .eq 11, 3) := by decide +kernel
theorem dX8_copy_8 : decode cX8_copy 8 = .ok (.aload_n 0, 1) := by decide +kernel
theorem dX8_copy_9 : decode cX8_copy 9 = .ok (.iload_n 2, 1) := by decide +kernel
theorem dX8_copy_10 : decode cX8_copy 10 = .ok (.invokevirtual 111, 3) := by decide +kernel
theorem dX8_copy_13 : decode cX8_copy 13 = .ok (.ifCond .ne 9, 3) := by decide +kernel
theorem dX8_copy_16 : decode cX8_copy 16 = .ok (.aload_n 0, 1) := by decide +kernel
theorem dX8_copy_17 : decode cX8_copy 17 = .ok (.iconst (-1), 1) := by decide +kernel
theorem dX8_copy_18 : decode cX8_copy 18 = .ok (.invokevirtual 115, 3) := by decide +kernel
theorem dX8_copy_21 : decode cX8_copy 21 = .ok (.ireturn, 1) := by decide +kernel
theorem dX8_copy_22 : decode cX8_copy 22 = .ok (.aload_n 0, 1) := by decide +kernel
theorem dX8_copy_23 : decode cX8_copy 23 = .ok (.getfield 59, 3) := by decide +kernel
theorem dX8_copy_26 : decode cX8_copy 26 = .ok (.iload_n 1, 1) := by decide +kernel
theorem dX8_copy_27 : decode cX8_copy 27 = .ok (.iaload, 1) := by decide +kernel
theorem dX8_copy_28 : decode cX8_copy 28 = .ok (.iconst 2, 1) := by decide +kernel
theorem dX8_copy_29 : decode cX8_copy 29 = .ok (.if_icmp .eq 48, 3) := by decide +kernel
theorem dX8_copy_32 : decode cX8_copy 32 = .ok (.aload_n 0, 1) := by decide +kernel
theorem dX8_copy_33 : decode cX8_copy 33 = .ok (.getfield 59, 3) := by decide +kernel
theorem dX8_copy_36 : decode cX8_copy 36 = .ok (.iload_n 2, 1) := by decide +kernel
theorem dX8_copy_37 : decode cX8_copy 37 = .ok (.iaload, 1) := by decide +kernel
theorem dX8_copy_38 : decode cX8_copy 38 = .ok (.iconst 2, 1) := by decide +kernel
theorem dX8_copy_39 : decode cX8_copy 39 = .ok (.if_icmp .eq 38, 3) := by decide +kernel
theorem dX8_copy_42 : decode cX8_copy 42 = .ok (.aload_n 0, 1) := by decide +kernel
theorem dX8_copy_43 : decode cX8_copy 43 = .ok (.getfield 59, 3) := by decide +kernel
theorem dX8_copy_46 : decode cX8_copy 46 = .ok (.iload_n 1, 1) := by decide +kernel
theorem dX8_copy_47 : decode cX8_copy 47 = .ok (.iaload, 1) := by decide +kernel
theorem dX8_copy_48 : decode cX8_copy 48 = .ok (.iconst 1, 1) := by decide +kernel
theorem dX8_copy_49 : decode cX8_copy 49 = .ok (.if_icmp .ne 35, 3) := by decide +kernel
theorem dX8_copy_52 : decode cX8_copy 52 = .ok (.aload_n 0, 1) := by decide +kernel
theorem dX8_copy_53 : decode cX8_copy 53 = .ok (.getfield 59, 3) := by decide +kernel
theorem dX8_copy_56 : decode cX8_copy 56 = .ok (.iload_n 2, 1) := by decide +kernel
theorem dX8_copy_57 : decode cX8_copy 57 = .ok (.iaload, 1) := by decide +kernel
theorem dX8_copy_58 : decode cX8_copy 58 = .ok (.iconst 1, 1) := by decide +kernel
theorem dX8_copy_59 : decode cX8_copy 59 = .ok (.if_icmp .ne 25, 3) := by decide +kernel
theorem dX8_copy_62 : decode cX8_copy 62 = .ok (.aload_n 0, 1) := by decide +kernel
theorem dX8_copy_63 : decode cX8_copy 63 = .ok (.getfield 62, 3) := by decide +kernel
theorem dX8_copy_66 : decode cX8_copy 66 = .ok (.iload_n 1, 1) := by decide +kernel
theorem dX8_copy_67 : decode cX8_copy 67 = .ok (.iaload, 1) := by decide +kernel
theorem dX8_copy_68 : decode cX8_copy 68 = .ok (.aload_n 0, 1) := by decide +kernel
theorem dX8_copy_69 : decode cX8_copy 69 = .ok (.getfield 62, 3) := by decide +kernel
theorem dX8_copy_72 : decode cX8_copy 72 = .ok (.iload_n 2, 1) := by decide +kernel
theorem dX8_copy_73 : decode cX8_copy 73 = .ok (.iaload, 1) := by decide +kernel
theorem dX8_copy_74 : decode cX8_copy 74 = .ok (.if_icmp .eq 10, 3) := by decide +kernel
theorem dX8_copy_77 : decode cX8_copy 77 = .ok (.aload_n 0, 1) := by decide +kernel
theorem dX8_copy_78 : decode cX8_copy 78 = .ok (.bipush (-2), 2) := by decide +kernel
theorem dX8_copy_80 : decode cX8_copy 80 = .ok (.invokevirtual 115, 3) := by decide +kernel
theorem dX8_copy_83 : decode cX8_copy 83 = .ok (.ireturn, 1) := by decide +kernel
theorem dX8_copy_84 : decode cX8_copy 84 = .ok (.aload_n 0, 1) := by decide +kernel
theorem dX8_copy_85 : decode cX8_copy 85 = .ok (.getfield 59, 3) := by decide +kernel
theorem dX8_copy_88 : decode cX8_copy 88 = .ok (.iload_n 1, 1) := by decide +kernel
theorem dX8_copy_89 : decode cX8_copy 89 = .ok (.iaload, 1) := by decide +kernel
theorem dX8_copy_90 : decode cX8_copy 90 = .ok (.ifCond .eq 12, 3) := by decide +kernel
theorem dX8_copy_93 : decode cX8_copy 93 = .ok (.aload_n 0, 1) := by decide +kernel
theorem dX8_copy_94 : decode cX8_copy 94 = .ok (.getfield 59, 3) := by decide +kernel
theorem dX8_copy_97 : decode cX8_copy 97 = .ok (.iload_n 2, 1) := by decide +kernel
theorem dX8_copy_98 : decode cX8_copy 98 = .ok (.iaload, 1) := by decide +kernel
theorem dX8_copy_99 : decode cX8_copy 99 = .ok (.ifCond .ne 10, 3) := by decide +kernel
theorem dX8_copy_102 : decode cX8_copy 102 = .ok (.aload_n 0, 1) := by decide +kernel
theorem dX8_copy_103 : decode cX8_copy 103 = .ok (.bipush (-3), 2) := by decide +kernel
theorem dX8_copy_105 : decode cX8_copy 105 = .ok (.invokevirtual 115, 3) := by decide +kernel
theorem dX8_copy_108 : decode cX8_copy 108 = .ok (.ireturn, 1) := by decide +kernel
theorem dX8_copy_109 : decode cX8_copy 109 = .ok (.iload 5, 2) := by decide +kernel
theorem dX8_copy_111 : decode cX8_copy 111 = .ok (.ifCond .ge 10, 3) := by decide +kernel
theorem dX8_copy_114 : decode cX8_copy 114 = .ok (.aload_n 0, 1) := by decide +kernel
theorem dX8_copy_115 : decode cX8_copy 115 = .ok (.bipush (-4), 2) := by decide +kernel
theorem dX8_copy_117 : decode cX8_copy 117 = .ok (.invokevirtual 115, 3) := by decide +kernel
theorem dX8_copy_120 : decode cX8_copy 120 = .ok (.ireturn, 1) := by decide +kernel
theorem dX8_copy_121 : decode cX8_copy 121 = .ok (.iload_n 3, 1) := by decide +kernel
theorem dX8_copy_122 : decode cX8_copy 122 = .ok (.ifCond .lt 35, 3) := by decide +kernel
theorem dX8_copy_125 : decode cX8_copy 125 = .ok (.iload 4, 2) := by decide +kernel
theorem dX8_copy_127 : decode cX8_copy 127 = .ok (.ifCond .lt 30, 3) := by decide +kernel
theorem dX8_copy_130 : decode cX8_copy 130 = .ok (.iload_n 3, 1) := by decide +kernel
theorem dX8_copy_131 : decode cX8_copy 131 = .ok (.aload_n 0, 1) := by decide +kernel
theorem dX8_copy_132 : decode cX8_copy 132 = .ok (.getfield 65, 3) := by decide +kernel
theorem dX8_copy_135 : decode cX8_copy 135 = .ok (.iload_n 1, 1) := by decide +kernel
theorem dX8_copy_136 : decode cX8_copy 136 = .ok (.iaload, 1) := by decide +kernel
theorem dX8_copy_137 : decode cX8_copy 137 = .ok (.iload 5, 2) := by decide +kernel
theorem dX8_copy_139 : decode cX8_copy 139 = .ok (.isub, 1) := by decide +kernel
theorem dX8_copy_140 : decode cX8_copy 140 = .ok (.if_icmp .gt 17, 3) := by decide +kernel
theorem dX8_copy_143 : decode cX8_copy 143 = .ok (.iload 4, 2) := by decide +kernel
theorem dX8_copy_145 : decode cX8_copy 145 = .ok (.aload_n 0, 1) := by decide +kernel
theorem dX8_copy_146 : decode cX8_copy 146 = .ok (.getfield 65, 3) := by decide +kernel
theorem dX8_copy_149 : decode cX8_copy 149 = .ok (.iload_n 2, 1) := by decide +kernel
theorem dX8_copy_150 : decode cX8_copy 150 = .ok (.iaload, 1) := by decide +kernel
theorem dX8_copy_151 : decode cX8_copy 151 = .ok (.iload 5, 2) := by decide +kernel
theorem dX8_copy_153 : decode cX8_copy 153 = .ok (.isub, 1) := by decide +kernel
theorem dX8_copy_154 : decode cX8_copy 154 = .ok (.if_icmp .le 10, 3) := by decide +kernel
theorem dX8_copy_157 : decode cX8_copy 157 = .ok (.aload_n 0, 1) := by decide +kernel
theorem dX8_copy_158 : decode cX8_copy 158 = .ok (.bipush (-5), 2) := by decide +kernel
theorem dX8_copy_160 : decode cX8_copy 160 = .ok (.invokevirtual 115, 3) := by decide +kernel
theorem dX8_copy_163 : decode cX8_copy 163 = .ok (.ireturn, 1) := by decide +kernel
theorem dX8_copy_164 : decode cX8_copy 164 = .ok (.iconst 0, 1) := by decide +kernel
theorem dX8_copy_165 : decode cX8_copy 165 = .ok (.istore 6, 2) := by decide +kernel
theorem dX8_copy_167 : decode cX8_copy 167 = .ok (.iload 6, 2) := by decide +kernel
theorem dX8_copy_169 : decode cX8_copy 169 = .ok (.iload 5, 2) := by decide +kernel
theorem dX8_copy_171 : decode cX8_copy 171 = .ok (.if_icmp .ge 31, 3) := by decide +kernel
theorem dX8_copy_174 : decode cX8_copy 174 = .ok (.aload_n 0, 1) := by decide +kernel
theorem dX8_copy_175 : decode cX8_copy 175 = .ok (.getfield 75, 3) := by decide +kernel
theorem dX8_copy_178 : decode cX8_copy 178 = .ok (.iload 6, 2) := by decide +kernel
theorem dX8_copy_180 : decode cX8_copy 180 = .ok (.aload_n 0, 1) := by decide +kernel
theorem dX8_copy_181 : decode cX8_copy 181 = .ok (.getfield 71, 3) := by decide +kernel
theorem dX8_copy_184 : decode cX8_copy 184 = .ok (.sipush 160, 3) := by decide +kernel
theorem dX8_copy_187 : decode cX8_copy 187 = .ok (.iload_n 1, 1) := by decide +kernel
theorem dX8_copy_188 : decode cX8_copy 188 = .ok (.imul, 1) := by decide +kernel
theorem dX8_copy_189 : decode cX8_copy 189 = .ok (.iload_n 3, 1) := by decide +kernel
theorem dX8_copy_190 : decode cX8_copy 190 = .ok (.iadd, 1) := by decide +kernel
theorem dX8_copy_191 : decode cX8_copy 191 = .ok (.iload 6, 2) := by decide +kernel
theorem dX8_copy_193 : decode cX8_copy 193 = .ok (.iadd, 1) := by decide +kernel
theorem dX8_copy_194 : decode cX8_copy 194 = .ok (.laload, 1) := by decide +kernel
theorem dX8_copy_195 : decode cX8_copy 195 = .ok (.lastore, 1) := by decide +kernel
theorem dX8_copy_196 : decode cX8_copy 196 = .ok (.iinc 6 1, 3) := by decide +kernel
theorem dX8_copy_199 : decode cX8_copy 199 = .ok (.goto (-32), 3) := by decide +kernel
theorem dX8_copy_202 : decode cX8_copy 202 = .ok (.iconst 0, 1) := by decide +kernel
theorem dX8_copy_203 : decode cX8_copy 203 = .ok (.istore 6, 2) := by decide +kernel
theorem dX8_copy_205 : decode cX8_copy 205 = .ok (.iload 6, 2) := by decide +kernel
theorem dX8_copy_207 : decode cX8_copy 207 = .ok (.iload 5, 2) := by decide +kernel
theorem dX8_copy_209 : decode cX8_copy 209 = .ok (.if_icmp .ge 32, 3) := by decide +kernel
theorem dX8_copy_212 : decode cX8_copy 212 = .ok (.aload_n 0, 1) := by decide +kernel
theorem dX8_copy_213 : decode cX8_copy 213 = .ok (.getfield 71, 3) := by decide +kernel
theorem dX8_copy_216 : decode cX8_copy 216 = .ok (.sipush 160, 3) := by decide +kernel
theorem dX8_copy_219 : decode cX8_copy 219 = .ok (.iload_n 2, 1) := by decide +kernel
theorem dX8_copy_220 : decode cX8_copy 220 = .ok (.imul, 1) := by decide +kernel
theorem dX8_copy_221 : decode cX8_copy 221 = .ok (.iload 4, 2) := by decide +kernel
theorem dX8_copy_223 : decode cX8_copy 223 = .ok (.iadd, 1) := by decide +kernel
theorem dX8_copy_224 : decode cX8_copy 224 = .ok (.iload 6, 2) := by decide +kernel
theorem dX8_copy_226 : decode cX8_copy 226 = .ok (.iadd, 1) := by decide +kernel
theorem dX8_copy_227 : decode cX8_copy 227 = .ok (.aload_n 0, 1) := by decide +kernel
theorem dX8_copy_228 : decode cX8_copy 228 = .ok (.getfield 75, 3) := by decide +kernel
theorem dX8_copy_231 : decode cX8_copy 231 = .ok (.iload 6, 2) := by decide +kernel
theorem dX8_copy_233 : decode cX8_copy 233 = .ok (.laload, 1) := by decide +kernel
theorem dX8_copy_234 : decode cX8_copy 234 = .ok (.lastore, 1) := by decide +kernel
theorem dX8_copy_235 : decode cX8_copy 235 = .ok (.iinc 6 1, 3) := by decide +kernel
theorem dX8_copy_238 : decode cX8_copy 238 = .ok (.goto (-33), 3) := by decide +kernel
theorem dX8_copy_241 : decode cX8_copy 241 = .ok (.iconst 1, 1) := by decide +kernel
theorem dX8_copy_242 : decode cX8_copy 242 = .ok (.ireturn, 1) := by decide +kernel
theorem dX8_element_0 : decode cX8_element 0 = .ok (.aload_n 0, 1) := by decide +kernel
theorem dX8_element_1 : decode cX8_element 1 = .ok (.iload_n 1, 1) := by decide +kernel
theorem dX8_element_2 : decode cX8_element 2 = .ok (.invokevirtual 111, 3) := by decide +kernel
theorem dX8_element_5 : decode cX8_element 5 = .ok (.ifCond .eq 42, 3) := by decide +kernel
theorem dX8_element_8 : decode cX8_element 8 = .ok (.aload_n 0, 1) := by decide +kernel
theorem dX8_element_9 : decode cX8_element 9 = .ok (.getfield 59, 3) := by decide +kernel
theorem dX8_element_12 : decode cX8_element 12 = .ok (.iload_n 1, 1) := by decide +kernel
theorem dX8_element_13 : decode cX8_element 13 = .ok (.iaload, 1) := by decide +kernel
theorem dX8_element_14 : decode cX8_element 14 = .ok (.iconst 1, 1) := by decide +kernel
theorem dX8_element_15 : decode cX8_element 15 = .ok (.if_icmp .ne 32, 3) := by decide +kernel
theorem dX8_element_18 : decode cX8_element 18 = .ok (.iload_n 2, 1) := by decide +kernel
theorem dX8_element_19 : decode cX8_element 19 = .ok (.ifCond .lt 28, 3) := by decide +kernel
theorem dX8_element_22 : decode cX8_element 22 = .ok (.iload_n 2, 1) := by decide +kernel
theorem dX8_element_23 : decode cX8_element 23 = .ok (.aload_n 0, 1) := by decide +kernel
theorem dX8_element_24 : decode cX8_element 24 = .ok (.getfield 65, 3) := by decide +kernel
theorem dX8_element_27 : decode cX8_element 27 = .ok (.iload_n 1, 1) := by decide +kernel
theorem dX8_element_28 : decode cX8_element 28 = .ok (.iaload, 1) := by decide +kernel
theorem dX8_element_29 : decode cX8_element 29 = .ok (.if_icmp .ge 18, 3) := by decide +kernel
theorem dX8_element_32 : decode cX8_element 32 = .ok (.aload_n 0, 1) := by decide +kernel
theorem dX8_element_33 : decode cX8_element 33 = .ok (.getfield 71, 3) := by decide +kernel
theorem dX8_element_36 : decode cX8_element 36 = .ok (.sipush 160, 3) := by decide +kernel
theorem dX8_element_39 : decode cX8_element 39 = .ok (.iload_n 1, 1) := by decide +kernel
theorem dX8_element_40 : decode cX8_element 40 = .ok (.imul, 1) := by decide +kernel
theorem dX8_element_41 : decode cX8_element 41 = .ok (.iload_n 2, 1) := by decide +kernel
theorem dX8_element_42 : decode cX8_element 42 = .ok (.iadd, 1) := by decide +kernel
theorem dX8_element_43 : decode cX8_element 43 = .ok (.laload, 1) := by decide +kernel
theorem dX8_element_44 : decode cX8_element 44 = .ok (.goto 4, 3) := by decide +kernel
theorem dX8_element_47 : decode cX8_element 47 = .ok (.lconst 0, 1) := by decide +kernel
theorem dX8_element_48 : decode cX8_element 48 = .ok (.lreturn, 1) := by decide +kernel
theorem dX8_show_0 : decode cX8_show 0 = .ok (.aload_n 0, 1) := by decide +kernel
theorem dX8_show_1 : decode cX8_show 1 = .ok (.iload_n 1, 1) := by decide +kernel
theorem dX8_show_2 : decode cX8_show 2 = .ok (.invokevirtual 111, 3) := by decide +kernel
theorem dX8_show_5 : decode cX8_show 5 = .ok (.ifCond .eq 16, 3) := by decide +kernel
theorem dX8_show_8 : decode cX8_show 8 = .ok (.iload_n 2, 1) := by decide +kernel
theorem dX8_show_9 : decode cX8_show 9 = .ok (.iconst (-1), 1) := by decide +kernel
theorem dX8_show_10 : decode cX8_show 10 = .ok (.if_icmp .eq 17, 3) := by decide +kernel
theorem dX8_show_13 : decode cX8_show 13 = .ok (.aload_n 0, 1) := by decide +kernel
theorem dX8_show_14 : decode cX8_show 14 = .ok (.iload_n 2, 1) := by decide +kernel
theorem dX8_show_15 : decode cX8_show 15 = .ok (.invokevirtual 119, 3) := by decide +kernel
theorem dX8_show_18 : decode cX8_show 18 = .ok (.ifCond .ne 9, 3) := by decide +kernel
theorem dX8_show_21 : decode cX8_show 21 = .ok (.aload_n 0, 1) := by decide +kernel
theorem dX8_show_22 : decode cX8_show 22 = .ok (.iconst (-1), 1) := by decide +kernel
theorem dX8_show_23 : decode cX8_show 23 = .ok (.invokevirtual 115, 3) := by decide +kernel
theorem dX8_show_26 : decode cX8_show 26 = .ok (.ireturn, 1) := by decide +kernel
theorem dX8_show_27 : decode cX8_show 27 = .ok (.aload_n 0, 1) := by decide +kernel
theorem dX8_show_28 : decode cX8_show 28 = .ok (.getfield 59, 3) := by decide +kernel
theorem dX8_show_31 : decode cX8_show 31 = .ok (.iload_n 1, 1) := by decide +kernel
theorem dX8_show_32 : decode cX8_show 32 = .ok (.iload_n 2, 1) := by decide +kernel
theorem dX8_show_33 : decode cX8_show 33 = .ok (.iconst (-1), 1) := by decide +kernel
theorem dX8_show_34 : decode cX8_show 34 = .ok (.if_icmp .ne 7, 3) := by decide +kernel
theorem dX8_show_37 : decode cX8_show 37 = .ok (.iconst 0, 1) := by decide +kernel
theorem dX8_show_38 : decode cX8_show 38 = .ok (.goto 4, 3) := by decide +kernel
theorem dX8_show_41 : decode cX8_show 41 = .ok (.iconst 2, 1) := by decide +kernel
theorem dX8_show_42 : decode cX8_show 42 = .ok (.iastore, 1) := by decide +kernel
theorem dX8_show_43 : decode cX8_show 43 = .ok (.aload_n 0, 1) := by decide +kernel
theorem dX8_show_44 : decode cX8_show 44 = .ok (.getfield 68, 3) := by decide +kernel
theorem dX8_show_47 : decode cX8_show 47 = .ok (.iload_n 1, 1) := by decide +kernel
theorem dX8_show_48 : decode cX8_show 48 = .ok (.iload_n 2, 1) := by decide +kernel
theorem dX8_show_49 : decode cX8_show 49 = .ok (.iastore, 1) := by decide +kernel
theorem dX8_show_50 : decode cX8_show 50 = .ok (.iload_n 2, 1) := by decide +kernel
theorem dX8_show_51 : decode cX8_show 51 = .ok (.iconst (-1), 1) := by decide +kernel
theorem dX8_show_52 : decode cX8_show 52 = .ok (.if_icmp .ne 7, 3) := by decide +kernel
theorem dX8_show_55 : decode cX8_show 55 = .ok (.iconst 0, 1) := by decide +kernel
theorem dX8_show_56 : decode cX8_show 56 = .ok (.goto 4, 3) := by decide +kernel
theorem dX8_show_59 : decode cX8_show 59 = .ok (.iconst 1, 1) := by decide +kernel
theorem dX8_show_60 : decode cX8_show 60 = .ok (.ireturn, 1) := by decide +kernel
theorem dX8_holds_0 : decode cX8_holds 0 = .ok (.aload_n 0, 1) := by decide +kernel
theorem dX8_holds_1 : decode cX8_holds 1 = .ok (.iload_n 1, 1) := by decide +kernel
theorem dX8_holds_2 : decode cX8_holds 2 = .ok (.invokevirtual 111, 3) := by decide +kernel
theorem dX8_holds_5 : decode cX8_holds 5 = .ok (.ifCond .eq 12, 3) := by decide +kernel
theorem dX8_holds_8 : decode cX8_holds 8 = .ok (.aload_n 0, 1) := by decide +kernel
theorem dX8_holds_9 : decode cX8_holds 9 = .ok (.getfield 59, 3) := by decide +kernel
theorem dX8_holds_12 : decode cX8_holds 12 = .ok (.iload_n 1, 1) := by decide +kernel
theorem dX8_holds_13 : decode cX8_holds 13 = .ok (.iaload, 1) := by decide +kernel
theorem dX8_holds_14 : decode cX8_holds 14 = .ok (.ifCond .ne 5, 3) := by decide +kernel
theorem dX8_holds_17 : decode cX8_holds 17 = .ok (.iconst (-1), 1) := by decide +kernel
theorem dX8_holds_18 : decode cX8_holds 18 = .ok (.ireturn, 1) := by decide +kernel
theorem dX8_holds_19 : decode cX8_holds 19 = .ok (.aload_n 0, 1) := by decide +kernel
theorem dX8_holds_20 : decode cX8_holds 20 = .ok (.getfield 59, 3) := by decide +kernel
theorem dX8_holds_23 : decode cX8_holds 23 = .ok (.iload_n 1, 1) := by decide +kernel
theorem dX8_holds_24 : decode cX8_holds 24 = .ok (.iaload, 1) := by decide +kernel
theorem dX8_holds_25 : decode cX8_holds 25 = .ok (.iconst 1, 1) := by decide +kernel
theorem dX8_holds_26 : decode cX8_holds 26 = .ok (.if_icmp .ne 15, 3) := by decide +kernel
theorem dX8_holds_29 : decode cX8_holds 29 = .ok (.bipush 100, 2) := by decide +kernel
theorem dX8_holds_31 : decode cX8_holds 31 = .ok (.aload_n 0, 1) := by decide +kernel
theorem dX8_holds_32 : decode cX8_holds 32 = .ok (.getfield 62, 3) := by decide +kernel
theorem dX8_holds_35 : decode cX8_holds 35 = .ok (.iload_n 1, 1) := by decide +kernel
theorem dX8_holds_36 : decode cX8_holds 36 = .ok (.iaload, 1) := by decide +kernel
theorem dX8_holds_37 : decode cX8_holds 37 = .ok (.iadd, 1) := by decide +kernel
theorem dX8_holds_38 : decode cX8_holds 38 = .ok (.goto 9, 3) := by decide +kernel
theorem dX8_holds_41 : decode cX8_holds 41 = .ok (.aload_n 0, 1) := by decide +kernel
theorem dX8_holds_42 : decode cX8_holds 42 = .ok (.getfield 68, 3) := by decide +kernel
theorem dX8_holds_45 : decode cX8_holds 45 = .ok (.iload_n 1, 1) := by decide +kernel
theorem dX8_holds_46 : decode cX8_holds 46 = .ok (.iaload, 1) := by decide +kernel
theorem dX8_holds_47 : decode cX8_holds 47 = .ok (.ireturn, 1) := by decide +kernel
theorem dX8_says_0 : decode cX8_says 0 = .ok (.aload_n 0, 1) := by decide +kernel
theorem dX8_says_1 : decode cX8_says 1 = .ok (.iload_n 1, 1) := by decide +kernel
theorem dX8_says_2 : decode cX8_says 2 = .ok (.invokevirtual 111, 3) := by decide +kernel
theorem dX8_says_5 : decode cX8_says 5 = .ok (.ifCond .eq 13, 3) := by decide +kernel
theorem dX8_says_8 : decode cX8_says 8 = .ok (.iload_n 2, 1) := by decide +kernel
theorem dX8_says_9 : decode cX8_says 9 = .ok (.ifCond .lt 9, 3) := by decide +kernel
theorem dX8_says_12 : decode cX8_says 12 = .ok (.iload_n 2, 1) := by decide +kernel
theorem dX8_says_13 : decode cX8_says 13 = .ok (.bipush 6, 2) := by decide +kernel
theorem dX8_says_15 : decode cX8_says 15 = .ok (.if_icmp .le 9, 3) := by decide +kernel
theorem dX8_says_18 : decode cX8_says 18 = .ok (.aload_n 0, 1) := by decide +kernel
theorem dX8_says_19 : decode cX8_says 19 = .ok (.iconst (-1), 1) := by decide +kernel
theorem dX8_says_20 : decode cX8_says 20 = .ok (.invokevirtual 115, 3) := by decide +kernel
theorem dX8_says_23 : decode cX8_says 23 = .ok (.ireturn, 1) := by decide +kernel
theorem dX8_says_24 : decode cX8_says 24 = .ok (.aload_n 0, 1) := by decide +kernel
theorem dX8_says_25 : decode cX8_says 25 = .ok (.getfield 59, 3) := by decide +kernel
theorem dX8_says_28 : decode cX8_says 28 = .ok (.iload_n 1, 1) := by decide +kernel
theorem dX8_says_29 : decode cX8_says 29 = .ok (.iaload, 1) := by decide +kernel
theorem dX8_says_30 : decode cX8_says 30 = .ok (.iconst 1, 1) := by decide +kernel
theorem dX8_says_31 : decode cX8_says 31 = .ok (.if_icmp .ne 10, 3) := by decide +kernel
theorem dX8_says_34 : decode cX8_says 34 = .ok (.aload_n 0, 1) := by decide +kernel
theorem dX8_says_35 : decode cX8_says 35 = .ok (.bipush (-2), 2) := by decide +kernel
theorem dX8_says_37 : decode cX8_says 37 = .ok (.invokevirtual 115, 3) := by decide +kernel
theorem dX8_says_40 : decode cX8_says 40 = .ok (.ireturn, 1) := by decide +kernel
theorem dX8_says_41 : decode cX8_says 41 = .ok (.aload_n 0, 1) := by decide +kernel
theorem dX8_says_42 : decode cX8_says 42 = .ok (.getfield 59, 3) := by decide +kernel
theorem dX8_says_45 : decode cX8_says 45 = .ok (.iload_n 1, 1) := by decide +kernel
theorem dX8_says_46 : decode cX8_says 46 = .ok (.iaload, 1) := by decide +kernel
theorem dX8_says_47 : decode cX8_says 47 = .ok (.ifCond .ne 10, 3) := by decide +kernel
theorem dX8_says_50 : decode cX8_says 50 = .ok (.aload_n 0, 1) := by decide +kernel
theorem dX8_says_51 : decode cX8_says 51 = .ok (.bipush (-3), 2) := by decide +kernel
theorem dX8_says_53 : decode cX8_says 53 = .ok (.invokevirtual 115, 3) := by decide +kernel
theorem dX8_says_56 : decode cX8_says 56 = .ok (.ireturn, 1) := by decide +kernel
theorem dX8_says_57 : decode cX8_says 57 = .ok (.aload_n 0, 1) := by decide +kernel
theorem dX8_says_58 : decode cX8_says 58 = .ok (.getfield 68, 3) := by decide +kernel
theorem dX8_says_61 : decode cX8_says 61 = .ok (.iload_n 1, 1) := by decide +kernel
theorem dX8_says_62 : decode cX8_says 62 = .ok (.iaload, 1) := by decide +kernel
theorem dX8_says_63 : decode cX8_says 63 = .ok (.istore_n 3, 1) := by decide +kernel
theorem dX8_says_64 : decode cX8_says 64 = .ok (.aload_n 0, 1) := by decide +kernel
theorem dX8_says_65 : decode cX8_says 65 = .ok (.getfield 23, 3) := by decide +kernel
theorem dX8_says_68 : decode cX8_says 68 = .ok (.iload_n 3, 1) := by decide +kernel
theorem dX8_says_69 : decode cX8_says 69 = .ok (.iaload, 1) := by decide +kernel
theorem dX8_says_70 : decode cX8_says 70 = .ok (.istore 4, 2) := by decide +kernel
theorem dX8_says_72 : decode cX8_says 72 = .ok (.iload_n 2, 1) := by decide +kernel
theorem dX8_says_73 : decode cX8_says 73 = .ok (.iconst 1, 1) := by decide +kernel
theorem dX8_says_74 : decode cX8_says 74 = .ok (.if_icmp .ne 9, 3) := by decide +kernel
theorem dX8_says_77 : decode cX8_says 77 = .ok (.iload 4, 2) := by decide +kernel
theorem dX8_says_79 : decode cX8_says 79 = .ok (.iconst 3, 1) := by decide +kernel
theorem dX8_says_80 : decode cX8_says 80 = .ok (.if_icmp .eq 26, 3) := by decide +kernel
theorem dX8_says_83 : decode cX8_says 83 = .ok (.iload_n 2, 1) := by decide +kernel
theorem dX8_says_84 : decode cX8_says 84 = .ok (.iconst 2, 1) := by decide +kernel
theorem dX8_says_85 : decode cX8_says 85 = .ok (.if_icmp .ne 9, 3) := by decide +kernel
theorem dX8_says_88 : decode cX8_says 88 = .ok (.iload 4, 2) := by decide +kernel
theorem dX8_says_90 : decode cX8_says 90 = .ok (.iconst 5, 1) := by decide +kernel
theorem dX8_says_91 : decode cX8_says 91 = .ok (.if_icmp .eq 15, 3) := by decide +kernel
theorem dX8_says_94 : decode cX8_says 94 = .ok (.iload_n 2, 1) := by decide +kernel
theorem dX8_says_95 : decode cX8_says 95 = .ok (.iconst 4, 1) := by decide +kernel
theorem dX8_says_96 : decode cX8_says 96 = .ok (.if_icmp .ne 14, 3) := by decide +kernel
theorem dX8_says_99 : decode cX8_says 99 = .ok (.iload 4, 2) := by decide +kernel
theorem dX8_says_101 : decode cX8_says 101 = .ok (.bipush 6, 2) := by decide +kernel
theorem dX8_says_103 : decode cX8_says 103 = .ok (.if_icmp .ne 7, 3) := by decide +kernel
theorem dX8_says_106 : decode cX8_says 106 = .ok (.iconst 1, 1) := by decide +kernel
theorem dX8_says_107 : decode cX8_says 107 = .ok (.goto 4, 3) := by decide +kernel
theorem dX8_says_110 : decode cX8_says 110 = .ok (.iconst 0, 1) := by decide +kernel
theorem dX8_says_111 : decode cX8_says 111 = .ok (.istore 5, 2) := by decide +kernel
theorem dX8_says_113 : decode cX8_says 113 = .ok (.iload_n 2, 1) := by decide +kernel
theorem dX8_says_114 : decode cX8_says 114 = .ok (.ifCond .eq 21, 3) := by decide +kernel
theorem dX8_says_117 : decode cX8_says 117 = .ok (.iload_n 2, 1) := by decide +kernel
theorem dX8_says_118 : decode cX8_says 118 = .ok (.iload 4, 2) := by decide +kernel
theorem dX8_says_120 : decode cX8_says 120 = .ok (.if_icmp .eq 15, 3) := by decide +kernel
theorem dX8_says_123 : decode cX8_says 123 = .ok (.iload 5, 2) := by decide +kernel
theorem dX8_says_125 : decode cX8_says 125 = .ok (.ifCond .ne 10, 3) := by decide +kernel
theorem dX8_says_128 : decode cX8_says 128 = .ok (.aload_n 0, 1) := by decide +kernel
theorem dX8_says_129 : decode cX8_says 129 = .ok (.bipush (-2), 2) := by decide +kernel
theorem dX8_says_131 : decode cX8_says 131 = .ok (.invokevirtual 115, 3) := by decide +kernel
theorem dX8_says_134 : decode cX8_says 134 = .ok (.ireturn, 1) := by decide +kernel
theorem dX8_says_135 : decode cX8_says 135 = .ok (.iload_n 2, 1) := by decide +kernel
theorem dX8_says_136 : decode cX8_says 136 = .ok (.tableswitch 61 0 5 #[40, 47, 54, 47, 61, 54], 40) := by decide +kernel
theorem dX8_says_176 : decode cX8_says 176 = .ok (.aload_n 0, 1) := by decide +kernel
theorem dX8_says_177 : decode cX8_says 177 = .ok (.getfield 35, 3) := by decide +kernel
theorem dX8_says_180 : decode cX8_says 180 = .ok (.iload_n 3, 1) := by decide +kernel
theorem dX8_says_181 : decode cX8_says 181 = .ok (.iaload, 1) := by decide +kernel
theorem dX8_says_182 : decode cX8_says 182 = .ok (.ireturn, 1) := by decide +kernel
theorem dX8_says_183 : decode cX8_says 183 = .ok (.aload_n 0, 1) := by decide +kernel
theorem dX8_says_184 : decode cX8_says 184 = .ok (.getfield 32, 3) := by decide +kernel
theorem dX8_says_187 : decode cX8_says 187 = .ok (.iload_n 3, 1) := by decide +kernel
theorem dX8_says_188 : decode cX8_says 188 = .ok (.iaload, 1) := by decide +kernel
theorem dX8_says_189 : decode cX8_says 189 = .ok (.ireturn, 1) := by decide +kernel
theorem dX8_says_190 : decode cX8_says 190 = .ok (.aload_n 0, 1) := by decide +kernel
theorem dX8_says_191 : decode cX8_says 191 = .ok (.getfield 26, 3) := by decide +kernel
theorem dX8_says_194 : decode cX8_says 194 = .ok (.iload_n 3, 1) := by decide +kernel
theorem dX8_says_195 : decode cX8_says 195 = .ok (.iaload, 1) := by decide +kernel
theorem dX8_says_196 : decode cX8_says 196 = .ok (.ireturn, 1) := by decide +kernel
theorem dX8_says_197 : decode cX8_says 197 = .ok (.aload_n 0, 1) := by decide +kernel
theorem dX8_says_198 : decode cX8_says 198 = .ok (.getfield 29, 3) := by decide +kernel
theorem dX8_says_201 : decode cX8_says 201 = .ok (.iload_n 3, 1) := by decide +kernel
theorem dX8_says_202 : decode cX8_says 202 = .ok (.iaload, 1) := by decide +kernel
theorem dX8_says_203 : decode cX8_says 203 = .ok (.ireturn, 1) := by decide +kernel
theorem dX8_wanted_0 : decode cX8_wanted 0 = .ok (.aload_n 0, 1) := by decide +kernel
theorem dX8_wanted_1 : decode cX8_wanted 1 = .ok (.iload_n 1, 1) := by decide +kernel
theorem dX8_wanted_2 : decode cX8_wanted 2 = .ok (.invokevirtual 111, 3) := by decide +kernel
theorem dX8_wanted_5 : decode cX8_wanted 5 = .ok (.ifCond .ne 7, 3) := by decide +kernel
theorem dX8_wanted_8 : decode cX8_wanted 8 = .ok (.iconst (-1), 1) := by decide +kernel
theorem dX8_wanted_9 : decode cX8_wanted 9 = .ok (.goto 33, 3) := by decide +kernel
theorem dX8_wanted_12 : decode cX8_wanted 12 = .ok (.aload_n 0, 1) := by decide +kernel
theorem dX8_wanted_13 : decode cX8_wanted 13 = .ok (.getfield 59, 3) := by decide +kernel
theorem dX8_wanted_16 : decode cX8_wanted 16 = .ok (.iload_n 1, 1) := by decide +kernel
theorem dX8_wanted_17 : decode cX8_wanted 17 = .ok (.iaload, 1) := by decide +kernel
theorem dX8_wanted_18 : decode cX8_wanted 18 = .ok (.iconst 2, 1) := by decide +kernel
theorem dX8_wanted_19 : decode cX8_wanted 19 = .ok (.if_icmp .ne 8, 3) := by decide +kernel
theorem dX8_wanted_22 : decode cX8_wanted 22 = .ok (.bipush (-2), 2) := by decide +kernel
theorem dX8_wanted_24 : decode cX8_wanted 24 = .ok (.goto 18, 3) := by decide +kernel
theorem dX8_wanted_27 : decode cX8_wanted 27 = .ok (.aload_n 0, 1) := by decide +kernel
theorem dX8_wanted_28 : decode cX8_wanted 28 = .ok (.getfield 59, 3) := by decide +kernel
theorem dX8_wanted_31 : decode cX8_wanted 31 = .ok (.iload_n 1, 1) := by decide +kernel
theorem dX8_wanted_32 : decode cX8_wanted 32 = .ok (.iaload, 1) := by decide +kernel
theorem dX8_wanted_33 : decode cX8_wanted 33 = .ok (.ifCond .ne 8, 3) := by decide +kernel
theorem dX8_wanted_36 : decode cX8_wanted 36 = .ok (.bipush (-3), 2) := by decide +kernel
theorem dX8_wanted_38 : decode cX8_wanted 38 = .ok (.goto 4, 3) := by decide +kernel
theorem dX8_wanted_41 : decode cX8_wanted 41 = .ok (.iconst 0, 1) := by decide +kernel
theorem dX8_wanted_42 : decode cX8_wanted 42 = .ok (.ireturn, 1) := by decide +kernel
theorem dX8_intAt_0 : decode cX8_intAt 0 = .ok (.aload_n 0, 1) := by decide +kernel
theorem dX8_intAt_1 : decode cX8_intAt 1 = .ok (.getfield 71, 3) := by decide +kernel
theorem dX8_intAt_4 : decode cX8_intAt 4 = .ok (.sipush 160, 3) := by decide +kernel
theorem dX8_intAt_7 : decode cX8_intAt 7 = .ok (.iload_n 1, 1) := by decide +kernel
theorem dX8_intAt_8 : decode cX8_intAt 8 = .ok (.imul, 1) := by decide +kernel
theorem dX8_intAt_9 : decode cX8_intAt 9 = .ok (.iload_n 2, 1) := by decide +kernel
theorem dX8_intAt_10 : decode cX8_intAt 10 = .ok (.iadd, 1) := by decide +kernel
theorem dX8_intAt_11 : decode cX8_intAt 11 = .ok (.laload, 1) := by decide +kernel
theorem dX8_intAt_12 : decode cX8_intAt 12 = .ok (.l2i, 1) := by decide +kernel
theorem dX8_intAt_13 : decode cX8_intAt 13 = .ok (.ireturn, 1) := by decide +kernel
theorem dX8_addsThing_0 : decode cX8_addsThing 0 = .ok (.aload_n 0, 1) := by decide +kernel
theorem dX8_addsThing_1 : decode cX8_addsThing 1 = .ok (.getfield 38, 3) := by decide +kernel
theorem dX8_addsThing_4 : decode cX8_addsThing 4 = .ok (.aload_n 0, 1) := by decide +kernel
theorem dX8_addsThing_5 : decode cX8_addsThing 5 = .ok (.getfield 108, 3) := by decide +kernel
theorem dX8_addsThing_8 : decode cX8_addsThing 8 = .ok (.iload_n 1, 1) := by decide +kernel
theorem dX8_addsThing_9 : decode cX8_addsThing 9 = .ok (.iastore, 1) := by decide +kernel
theorem dX8_addsThing_10 : decode cX8_addsThing 10 = .ok (.aload_n 0, 1) := by decide +kernel
theorem dX8_addsThing_11 : decode cX8_addsThing 11 = .ok (.getfield 41, 3) := by decide +kernel
theorem dX8_addsThing_14 : decode cX8_addsThing 14 = .ok (.aload_n 0, 1) := by decide +kernel
theorem dX8_addsThing_15 : decode cX8_addsThing 15 = .ok (.getfield 108, 3) := by decide +kernel
theorem dX8_addsThing_18 : decode cX8_addsThing 18 = .ok (.iload_n 2, 1) := by decide +kernel
theorem dX8_addsThing_19 : decode cX8_addsThing 19 = .ok (.iastore, 1) := by decide +kernel
theorem dX8_addsThing_20 : decode cX8_addsThing 20 = .ok (.aload_n 0, 1) := by decide +kernel
theorem dX8_addsThing_21 : decode cX8_addsThing 21 = .ok (.getfield 44, 3) := by decide +kernel
theorem dX8_addsThing_24 : decode cX8_addsThing 24 = .ok (.aload_n 0, 1) := by decide +kernel
theorem dX8_addsThing_25 : decode cX8_addsThing 25 = .ok (.getfield 108, 3) := by decide +kernel
theorem dX8_addsThing_28 : decode cX8_addsThing 28 = .ok (.iload_n 3, 1) := by decide +kernel
theorem dX8_addsThing_29 : decode cX8_addsThing 29 = .ok (.iastore, 1) := by decide +kernel
theorem dX8_addsThing_30 : decode cX8_addsThing 30 = .ok (.aload_n 0, 1) := by decide +kernel
theorem dX8_addsThing_31 : decode cX8_addsThing 31 = .ok (.getfield 47, 3) := by decide +kernel
theorem dX8_addsThing_34 : decode cX8_addsThing 34 = .ok (.aload_n 0, 1) := by decide +kernel
theorem dX8_addsThing_35 : decode cX8_addsThing 35 = .ok (.getfield 108, 3) := by decide +kernel
theorem dX8_addsThing_38 : decode cX8_addsThing 38 = .ok (.iload 4, 2) := by decide +kernel
theorem dX8_addsThing_40 : decode cX8_addsThing 40 = .ok (.iastore, 1) := by decide +kernel
theorem dX8_addsThing_41 : decode cX8_addsThing 41 = .ok (.aload_n 0, 1) := by decide +kernel
theorem dX8_addsThing_42 : decode cX8_addsThing 42 = .ok (.getfield 50, 3) := by decide +kernel
theorem dX8_addsThing_45 : decode cX8_addsThing 45 = .ok (.aload_n 0, 1) := by decide +kernel
theorem dX8_addsThing_46 : decode cX8_addsThing 46 = .ok (.getfield 108, 3) := by decide +kernel
theorem dX8_addsThing_49 : decode cX8_addsThing 49 = .ok (.iload 5, 2) := by decide +kernel
theorem dX8_addsThing_51 : decode cX8_addsThing 51 = .ok (.iastore, 1) := by decide +kernel
theorem dX8_addsThing_52 : decode cX8_addsThing 52 = .ok (.aload_n 0, 1) := by decide +kernel
theorem dX8_addsThing_53 : decode cX8_addsThing 53 = .ok (.getfield 53, 3) := by decide +kernel
theorem dX8_addsThing_56 : decode cX8_addsThing 56 = .ok (.aload_n 0, 1) := by decide +kernel
theorem dX8_addsThing_57 : decode cX8_addsThing 57 = .ok (.getfield 108, 3) := by decide +kernel
theorem dX8_addsThing_60 : decode cX8_addsThing 60 = .ok (.iload 6, 2) := by decide +kernel
theorem dX8_addsThing_62 : decode cX8_addsThing 62 = .ok (.iastore, 1) := by decide +kernel
theorem dX8_addsThing_63 : decode cX8_addsThing 63 = .ok (.aload_n 0, 1) := by decide +kernel
theorem dX8_addsThing_64 : decode cX8_addsThing 64 = .ok (.getfield 56, 3) := by decide +kernel
theorem dX8_addsThing_67 : decode cX8_addsThing 67 = .ok (.aload_n 0, 1) := by decide +kernel
theorem dX8_addsThing_68 : decode cX8_addsThing 68 = .ok (.getfield 108, 3) := by decide +kernel
theorem dX8_addsThing_71 : decode cX8_addsThing 71 = .ok (.iload 7, 2) := by decide +kernel
theorem dX8_addsThing_73 : decode cX8_addsThing 73 = .ok (.iastore, 1) := by decide +kernel
theorem dX8_addsThing_74 : decode cX8_addsThing 74 = .ok (.aload_n 0, 1) := by decide +kernel
theorem dX8_addsThing_75 : decode cX8_addsThing 75 = .ok (.dup, 1) := by decide +kernel
theorem dX8_addsThing_76 : decode cX8_addsThing 76 = .ok (.getfield 108, 3) := by decide +kernel
theorem dX8_addsThing_79 : decode cX8_addsThing 79 = .ok (.dup_x1, 1) := by decide +kernel
theorem dX8_addsThing_80 : decode cX8_addsThing 80 = .ok (.iconst 1, 1) := by decide +kernel
theorem dX8_addsThing_81 : decode cX8_addsThing 81 = .ok (.iadd, 1) := by decide +kernel
theorem dX8_addsThing_82 : decode cX8_addsThing 82 = .ok (.putfield 108, 3) := by decide +kernel
theorem dX8_addsThing_85 : decode cX8_addsThing 85 = .ok (.ireturn, 1) := by decide +kernel
theorem dX8_addsWaiter_0 : decode cX8_addsWaiter 0 = .ok (.aload_n 0, 1) := by decide +kernel
theorem dX8_addsWaiter_1 : decode cX8_addsWaiter 1 = .ok (.getfield 23, 3) := by decide +kernel
theorem dX8_addsWaiter_4 : decode cX8_addsWaiter 4 = .ok (.aload_n 0, 1) := by decide +kernel
theorem dX8_addsWaiter_5 : decode cX8_addsWaiter 5 = .ok (.getfield 105, 3) := by decide +kernel
theorem dX8_addsWaiter_8 : decode cX8_addsWaiter 8 = .ok (.iload_n 1, 1) := by decide +kernel
theorem dX8_addsWaiter_9 : decode cX8_addsWaiter 9 = .ok (.iastore, 1) := by decide +kernel
theorem dX8_addsWaiter_10 : decode cX8_addsWaiter 10 = .ok (.aload_n 0, 1) := by decide +kernel
theorem dX8_addsWaiter_11 : decode cX8_addsWaiter 11 = .ok (.getfield 26, 3) := by decide +kernel
theorem dX8_addsWaiter_14 : decode cX8_addsWaiter 14 = .ok (.aload_n 0, 1) := by decide +kernel
theorem dX8_addsWaiter_15 : decode cX8_addsWaiter 15 = .ok (.getfield 105, 3) := by decide +kernel
theorem dX8_addsWaiter_18 : decode cX8_addsWaiter 18 = .ok (.iload_n 2, 1) := by decide +kernel
theorem dX8_addsWaiter_19 : decode cX8_addsWaiter 19 = .ok (.iastore, 1) := by decide +kernel
theorem dX8_addsWaiter_20 : decode cX8_addsWaiter 20 = .ok (.aload_n 0, 1) := by decide +kernel
theorem dX8_addsWaiter_21 : decode cX8_addsWaiter 21 = .ok (.getfield 29, 3) := by decide +kernel
theorem dX8_addsWaiter_24 : decode cX8_addsWaiter 24 = .ok (.aload_n 0, 1) := by decide +kernel
theorem dX8_addsWaiter_25 : decode cX8_addsWaiter 25 = .ok (.getfield 105, 3) := by decide +kernel
theorem dX8_addsWaiter_28 : decode cX8_addsWaiter 28 = .ok (.iload_n 3, 1) := by decide +kernel
theorem dX8_addsWaiter_29 : decode cX8_addsWaiter 29 = .ok (.iastore, 1) := by decide +kernel
theorem dX8_addsWaiter_30 : decode cX8_addsWaiter 30 = .ok (.aload_n 0, 1) := by decide +kernel
theorem dX8_addsWaiter_31 : decode cX8_addsWaiter 31 = .ok (.getfield 32, 3) := by decide +kernel
theorem dX8_addsWaiter_34 : decode cX8_addsWaiter 34 = .ok (.aload_n 0, 1) := by decide +kernel
theorem dX8_addsWaiter_35 : decode cX8_addsWaiter 35 = .ok (.getfield 105, 3) := by decide +kernel
theorem dX8_addsWaiter_38 : decode cX8_addsWaiter 38 = .ok (.iload 4, 2) := by decide +kernel
theorem dX8_addsWaiter_40 : decode cX8_addsWaiter 40 = .ok (.iastore, 1) := by decide +kernel
theorem dX8_addsWaiter_41 : decode cX8_addsWaiter 41 = .ok (.aload_n 0, 1) := by decide +kernel
theorem dX8_addsWaiter_42 : decode cX8_addsWaiter 42 = .ok (.getfield 35, 3) := by decide +kernel
theorem dX8_addsWaiter_45 : decode cX8_addsWaiter 45 = .ok (.aload_n 0, 1) := by decide +kernel
theorem dX8_addsWaiter_46 : decode cX8_addsWaiter 46 = .ok (.getfield 105, 3) := by decide +kernel
theorem dX8_addsWaiter_49 : decode cX8_addsWaiter 49 = .ok (.iload 5, 2) := by decide +kernel
theorem dX8_addsWaiter_51 : decode cX8_addsWaiter 51 = .ok (.iastore, 1) := by decide +kernel
theorem dX8_addsWaiter_52 : decode cX8_addsWaiter 52 = .ok (.aload_n 0, 1) := by decide +kernel
theorem dX8_addsWaiter_53 : decode cX8_addsWaiter 53 = .ok (.dup, 1) := by decide +kernel
theorem dX8_addsWaiter_54 : decode cX8_addsWaiter 54 = .ok (.getfield 105, 3) := by decide +kernel
theorem dX8_addsWaiter_57 : decode cX8_addsWaiter 57 = .ok (.dup_x1, 1) := by decide +kernel
theorem dX8_addsWaiter_58 : decode cX8_addsWaiter 58 = .ok (.iconst 1, 1) := by decide +kernel
theorem dX8_addsWaiter_59 : decode cX8_addsWaiter 59 = .ok (.iadd, 1) := by decide +kernel
theorem dX8_addsWaiter_60 : decode cX8_addsWaiter 60 = .ok (.putfield 105, 3) := by decide +kernel
theorem dX8_addsWaiter_63 : decode cX8_addsWaiter 63 = .ok (.ireturn, 1) := by decide +kernel
theorem dX8_thing_0 : decode cX8_thing 0 = .ok (.aload_n 0, 1) := by decide +kernel
theorem dX8_thing_1 : decode cX8_thing 1 = .ok (.iload_n 1, 1) := by decide +kernel
theorem dX8_thing_2 : decode cX8_thing 2 = .ok (.iconst 0, 1) := by decide +kernel
theorem dX8_thing_3 : decode cX8_thing 3 = .ok (.bipush 9, 2) := by decide +kernel
theorem dX8_thing_5 : decode cX8_thing 5 = .ok (.invokevirtual 122, 3) := by decide +kernel
theorem dX8_thing_8 : decode cX8_thing 8 = .ok (.ifCond .eq 37, 3) := by decide +kernel
theorem dX8_thing_11 : decode cX8_thing 11 = .ok (.aload_n 0, 1) := by decide +kernel
theorem dX8_thing_12 : decode cX8_thing 12 = .ok (.iload_n 2, 1) := by decide +kernel
theorem dX8_thing_13 : decode cX8_thing 13 = .ok (.iconst 0, 1) := by decide +kernel
theorem dX8_thing_14 : decode cX8_thing 14 = .ok (.bipush 23, 2) := by decide +kernel
theorem dX8_thing_16 : decode cX8_thing 16 = .ok (.invokevirtual 122, 3) := by decide +kernel
theorem dX8_thing_19 : decode cX8_thing 19 = .ok (.ifCond .eq 26, 3) := by decide +kernel
theorem dX8_thing_22 : decode cX8_thing 22 = .ok (.aload_n 0, 1) := by decide +kernel
theorem dX8_thing_23 : decode cX8_thing 23 = .ok (.iload_n 3, 1) := by decide +kernel
theorem dX8_thing_24 : decode cX8_thing 24 = .ok (.iload_n 2, 1) := by decide +kernel
theorem dX8_thing_25 : decode cX8_thing 25 = .ok (.bipush 23, 2) := by decide +kernel
theorem dX8_thing_27 : decode cX8_thing 27 = .ok (.invokevirtual 122, 3) := by decide +kernel
theorem dX8_thing_30 : decode cX8_thing 30 = .ok (.ifCond .eq 15, 3) := by decide +kernel
theorem dX8_thing_33 : decode cX8_thing 33 = .ok (.aload_n 0, 1) := by decide +kernel
theorem dX8_thing_34 : decode cX8_thing 34 = .ok (.iload 4, 2) := by decide +kernel
theorem dX8_thing_36 : decode cX8_thing 36 = .ok (.iconst 0, 1) := by decide +kernel
theorem dX8_thing_37 : decode cX8_thing 37 = .ok (.bipush 9, 2) := by decide +kernel
theorem dX8_thing_39 : decode cX8_thing 39 = .ok (.invokevirtual 122, 3) := by decide +kernel
theorem dX8_thing_42 : decode cX8_thing 42 = .ok (.ifCond .ne 10, 3) := by decide +kernel
theorem dX8_thing_45 : decode cX8_thing 45 = .ok (.aload_n 0, 1) := by decide +kernel
theorem dX8_thing_46 : decode cX8_thing 46 = .ok (.bipush (-6), 2) := by decide +kernel
theorem dX8_thing_48 : decode cX8_thing 48 = .ok (.invokevirtual 115, 3) := by decide +kernel
theorem dX8_thing_51 : decode cX8_thing 51 = .ok (.ireturn, 1) := by decide +kernel
theorem dX8_thing_52 : decode cX8_thing 52 = .ok (.aload_n 0, 1) := by decide +kernel
theorem dX8_thing_53 : decode cX8_thing 53 = .ok (.iload 5, 2) := by decide +kernel
theorem dX8_thing_55 : decode cX8_thing 55 = .ok (.iconst 0, 1) := by decide +kernel
theorem dX8_thing_56 : decode cX8_thing 56 = .ok (.bipush 99, 2) := by decide +kernel
theorem dX8_thing_58 : decode cX8_thing 58 = .ok (.invokevirtual 122, 3) := by decide +kernel
theorem dX8_thing_61 : decode cX8_thing 61 = .ok (.ifCond .eq 27, 3) := by decide +kernel
theorem dX8_thing_64 : decode cX8_thing 64 = .ok (.aload_n 0, 1) := by decide +kernel
theorem dX8_thing_65 : decode cX8_thing 65 = .ok (.iload 6, 2) := by decide +kernel
theorem dX8_thing_67 : decode cX8_thing 67 = .ok (.iconst 0, 1) := by decide +kernel
theorem dX8_thing_68 : decode cX8_thing 68 = .ok (.bipush 9, 2) := by decide +kernel
theorem dX8_thing_70 : decode cX8_thing 70 = .ok (.invokevirtual 122, 3) := by decide +kernel
theorem dX8_thing_73 : decode cX8_thing 73 = .ok (.ifCond .eq 15, 3) := by decide +kernel
theorem dX8_thing_76 : decode cX8_thing 76 = .ok (.aload_n 0, 1) := by decide +kernel
theorem dX8_thing_77 : decode cX8_thing 77 = .ok (.iload 7, 2) := by decide +kernel
theorem dX8_thing_79 : decode cX8_thing 79 = .ok (.iconst 0, 1) := by decide +kernel
theorem dX8_thing_80 : decode cX8_thing 80 = .ok (.bipush 20, 2) := by decide +kernel
theorem dX8_thing_82 : decode cX8_thing 82 = .ok (.invokevirtual 122, 3) := by decide +kernel
theorem dX8_thing_85 : decode cX8_thing 85 = .ok (.ifCond .ne 10, 3) := by decide +kernel
theorem dX8_thing_88 : decode cX8_thing 88 = .ok (.aload_n 0, 1) := by decide +kernel
theorem dX8_thing_89 : decode cX8_thing 89 = .ok (.bipush (-6), 2) := by decide +kernel
theorem dX8_thing_91 : decode cX8_thing 91 = .ok (.invokevirtual 115, 3) := by decide +kernel
theorem dX8_thing_94 : decode cX8_thing 94 = .ok (.ireturn, 1) := by decide +kernel
theorem dX8_thing_95 : decode cX8_thing 95 = .ok (.aload_n 0, 1) := by decide +kernel
theorem dX8_thing_96 : decode cX8_thing 96 = .ok (.getfield 108, 3) := by decide +kernel
theorem dX8_thing_99 : decode cX8_thing 99 = .ok (.bipush 8, 2) := by decide +kernel
theorem dX8_thing_101 : decode cX8_thing 101 = .ok (.if_icmp .ne 12, 3) := by decide +kernel
theorem dX8_thing_104 : decode cX8_thing 104 = .ok (.aload_n 0, 1) := by decide +kernel
theorem dX8_thing_105 : decode cX8_thing 105 = .ok (.bipush (-7), 2) := by decide +kernel
theorem dX8_thing_107 : decode cX8_thing 107 = .ok (.invokevirtual 115, 3) := by decide +kernel
theorem dX8_thing_110 : decode cX8_thing 110 = .ok (.goto 18, 3) := by decide +kernel
theorem dX8_thing_113 : decode cX8_thing 113 = .ok (.aload_n 0, 1) := by decide +kernel
theorem dX8_thing_114 : decode cX8_thing 114 = .ok (.iload_n 1, 1) := by decide +kernel
theorem dX8_thing_115 : decode cX8_thing 115 = .ok (.iload_n 2, 1) := by decide +kernel
theorem dX8_thing_116 : decode cX8_thing 116 = .ok (.iload_n 3, 1) := by decide +kernel
theorem dX8_thing_117 : decode cX8_thing 117 = .ok (.iload 4, 2) := by decide +kernel
theorem dX8_thing_119 : decode cX8_thing 119 = .ok (.iload 5, 2) := by decide +kernel
theorem dX8_thing_121 : decode cX8_thing 121 = .ok (.iload 6, 2) := by decide +kernel
theorem dX8_thing_123 : decode cX8_thing 123 = .ok (.iload 7, 2) := by decide +kernel
theorem dX8_thing_125 : decode cX8_thing 125 = .ok (.invokevirtual 126, 3) := by decide +kernel
theorem dX8_thing_128 : decode cX8_thing 128 = .ok (.ireturn, 1) := by decide +kernel
theorem dX8_waiter_0 : decode cX8_waiter 0 = .ok (.iload_n 1, 1) := by decide +kernel
theorem dX8_waiter_1 : decode cX8_waiter 1 = .ok (.ifCond .lt 9, 3) := by decide +kernel
theorem dX8_waiter_4 : decode cX8_waiter 4 = .ok (.iload_n 1, 1) := by decide +kernel
theorem dX8_waiter_5 : decode cX8_waiter 5 = .ok (.bipush 6, 2) := by decide +kernel
theorem dX8_waiter_7 : decode cX8_waiter 7 = .ok (.if_icmp .le 9, 3) := by decide +kernel
theorem dX8_waiter_10 : decode cX8_waiter 10 = .ok (.aload_n 0, 1) := by decide +kernel
theorem dX8_waiter_11 : decode cX8_waiter 11 = .ok (.iconst (-1), 1) := by decide +kernel
theorem dX8_waiter_12 : decode cX8_waiter 12 = .ok (.invokevirtual 115, 3) := by decide +kernel
theorem dX8_waiter_15 : decode cX8_waiter 15 = .ok (.ireturn, 1) := by decide +kernel
theorem dX8_waiter_16 : decode cX8_waiter 16 = .ok (.aload_n 0, 1) := by decide +kernel
theorem dX8_waiter_17 : decode cX8_waiter 17 = .ok (.iload_n 2, 1) := by decide +kernel
theorem dX8_waiter_18 : decode cX8_waiter 18 = .ok (.iconst 0, 1) := by decide +kernel
theorem dX8_waiter_19 : decode cX8_waiter 19 = .ok (.bipush 9, 2) := by decide +kernel
theorem dX8_waiter_21 : decode cX8_waiter 21 = .ok (.invokevirtual 122, 3) := by decide +kernel
theorem dX8_waiter_24 : decode cX8_waiter 24 = .ok (.ifCond .eq 38, 3) := by decide +kernel
theorem dX8_waiter_27 : decode cX8_waiter 27 = .ok (.aload_n 0, 1) := by decide +kernel
theorem dX8_waiter_28 : decode cX8_waiter 28 = .ok (.iload_n 3, 1) := by decide +kernel
theorem dX8_waiter_29 : decode cX8_waiter 29 = .ok (.iconst 1, 1) := by decide +kernel
theorem dX8_waiter_30 : decode cX8_waiter 30 = .ok (.bipush 9, 2) := by decide +kernel
theorem dX8_waiter_32 : decode cX8_waiter 32 = .ok (.invokevirtual 122, 3) := by decide +kernel
theorem dX8_waiter_35 : decode cX8_waiter 35 = .ok (.ifCond .eq 27, 3) := by decide +kernel
theorem dX8_waiter_38 : decode cX8_waiter 38 = .ok (.aload_n 0, 1) := by decide +kernel
theorem dX8_waiter_39 : decode cX8_waiter 39 = .ok (.iload 4, 2) := by decide +kernel
theorem dX8_waiter_41 : decode cX8_waiter 41 = .ok (.iconst 1, 1) := by decide +kernel
theorem dX8_waiter_42 : decode cX8_waiter 42 = .ok (.bipush 24, 2) := by decide +kernel
theorem dX8_waiter_44 : decode cX8_waiter 44 = .ok (.invokevirtual 122, 3) := by decide +kernel
theorem dX8_waiter_47 : decode cX8_waiter 47 = .ok (.ifCond .eq 15, 3) := by decide +kernel
theorem dX8_waiter_50 : decode cX8_waiter 50 = .ok (.aload_n 0, 1) := by decide +kernel
theorem dX8_waiter_51 : decode cX8_waiter 51 = .ok (.iload 5, 2) := by decide +kernel
theorem dX8_waiter_53 : decode cX8_waiter 53 = .ok (.iconst 0, 1) := by decide +kernel
theorem dX8_waiter_54 : decode cX8_waiter 54 = .ok (.bipush 9, 2) := by decide +kernel
theorem dX8_waiter_56 : decode cX8_waiter 56 = .ok (.invokevirtual 122, 3) := by decide +kernel
theorem dX8_waiter_59 : decode cX8_waiter 59 = .ok (.ifCond .ne 10, 3) := by decide +kernel
theorem dX8_waiter_62 : decode cX8_waiter 62 = .ok (.aload_n 0, 1) := by decide +kernel
theorem dX8_waiter_63 : decode cX8_waiter 63 = .ok (.bipush (-6), 2) := by decide +kernel
theorem dX8_waiter_65 : decode cX8_waiter 65 = .ok (.invokevirtual 115, 3) := by decide +kernel
theorem dX8_waiter_68 : decode cX8_waiter 68 = .ok (.ireturn, 1) := by decide +kernel
theorem dX8_waiter_69 : decode cX8_waiter 69 = .ok (.aload_n 0, 1) := by decide +kernel
theorem dX8_waiter_70 : decode cX8_waiter 70 = .ok (.getfield 105, 3) := by decide +kernel
theorem dX8_waiter_73 : decode cX8_waiter 73 = .ok (.bipush 6, 2) := by decide +kernel
theorem dX8_waiter_75 : decode cX8_waiter 75 = .ok (.if_icmp .ne 12, 3) := by decide +kernel
theorem dX8_waiter_78 : decode cX8_waiter 78 = .ok (.aload_n 0, 1) := by decide +kernel
theorem dX8_waiter_79 : decode cX8_waiter 79 = .ok (.bipush (-7), 2) := by decide +kernel
theorem dX8_waiter_81 : decode cX8_waiter 81 = .ok (.invokevirtual 115, 3) := by decide +kernel
theorem dX8_waiter_84 : decode cX8_waiter 84 = .ok (.goto 14, 3) := by decide +kernel
theorem dX8_waiter_87 : decode cX8_waiter 87 = .ok (.aload_n 0, 1) := by decide +kernel
theorem dX8_waiter_88 : decode cX8_waiter 88 = .ok (.iload_n 1, 1) := by decide +kernel
theorem dX8_waiter_89 : decode cX8_waiter 89 = .ok (.iload_n 2, 1) := by decide +kernel
theorem dX8_waiter_90 : decode cX8_waiter 90 = .ok (.iload_n 3, 1) := by decide +kernel
theorem dX8_waiter_91 : decode cX8_waiter 91 = .ok (.iload 4, 2) := by decide +kernel
theorem dX8_waiter_93 : decode cX8_waiter 93 = .ok (.iload 5, 2) := by decide +kernel
theorem dX8_waiter_95 : decode cX8_waiter 95 = .ok (.invokevirtual 130, 3) := by decide +kernel
theorem dX8_waiter_98 : decode cX8_waiter 98 = .ok (.ireturn, 1) := by decide +kernel
theorem dX8_move_0 : decode cX8_move 0 = .ok (.aload_n 0, 1) := by decide +kernel
theorem dX8_move_1 : decode cX8_move 1 = .ok (.iload_n 1, 1) := by decide +kernel
theorem dX8_move_2 : decode cX8_move 2 = .ok (.invokevirtual 119, 3) := by decide +kernel
theorem dX8_move_5 : decode cX8_move 5 = .ok (.ifCond .ne 9, 3) := by decide +kernel
theorem dX8_move_8 : decode cX8_move 8 = .ok (.aload_n 0, 1) := by decide +kernel
theorem dX8_move_9 : decode cX8_move 9 = .ok (.iconst (-1), 1) := by decide +kernel
theorem dX8_move_10 : decode cX8_move 10 = .ok (.invokevirtual 115, 3) := by decide +kernel
theorem dX8_move_13 : decode cX8_move 13 = .ok (.ireturn, 1) := by decide +kernel
theorem dX8_move_14 : decode cX8_move 14 = .ok (.aload_n 0, 1) := by decide +kernel
theorem dX8_move_15 : decode cX8_move 15 = .ok (.iload_n 2, 1) := by decide +kernel
theorem dX8_move_16 : decode cX8_move 16 = .ok (.iconst 0, 1) := by decide +kernel
theorem dX8_move_17 : decode cX8_move 17 = .ok (.bipush 9, 2) := by decide +kernel
theorem dX8_move_19 : decode cX8_move 19 = .ok (.invokevirtual 122, 3) := by decide +kernel
theorem dX8_move_22 : decode cX8_move 22 = .ok (.ifCond .ne 10, 3) := by decide +kernel
theorem dX8_move_25 : decode cX8_move 25 = .ok (.aload_n 0, 1) := by decide +kernel
theorem dX8_move_26 : decode cX8_move 26 = .ok (.bipush (-6), 2) := by decide +kernel
theorem dX8_move_28 : decode cX8_move 28 = .ok (.invokevirtual 115, 3) := by decide +kernel
theorem dX8_move_31 : decode cX8_move 31 = .ok (.ireturn, 1) := by decide +kernel
theorem dX8_move_32 : decode cX8_move 32 = .ok (.aload_n 0, 1) := by decide +kernel
theorem dX8_move_33 : decode cX8_move 33 = .ok (.getfield 35, 3) := by decide +kernel
theorem dX8_move_36 : decode cX8_move 36 = .ok (.iload_n 1, 1) := by decide +kernel
theorem dX8_move_37 : decode cX8_move 37 = .ok (.iaload, 1) := by decide +kernel
theorem dX8_move_38 : decode cX8_move 38 = .ok (.istore_n 3, 1) := by decide +kernel
theorem dX8_move_39 : decode cX8_move 39 = .ok (.aload_n 0, 1) := by decide +kernel
theorem dX8_move_40 : decode cX8_move 40 = .ok (.getfield 35, 3) := by decide +kernel
theorem dX8_move_43 : decode cX8_move 43 = .ok (.iload_n 1, 1) := by decide +kernel
theorem dX8_move_44 : decode cX8_move 44 = .ok (.iload_n 2, 1) := by decide +kernel
theorem dX8_move_45 : decode cX8_move 45 = .ok (.iastore, 1) := by decide +kernel
theorem dX8_move_46 : decode cX8_move 46 = .ok (.iload_n 3, 1) := by decide +kernel
theorem dX8_move_47 : decode cX8_move 47 = .ok (.ireturn, 1) := by decide +kernel
theorem dX8_ask_0 : decode cX8_ask 0 = .ok (.aload_n 0, 1) := by decide +kernel
theorem dX8_ask_1 : decode cX8_ask 1 = .ok (.iload_n 1, 1) := by decide +kernel
theorem dX8_ask_2 : decode cX8_ask 2 = .ok (.iconst 0, 1) := by decide +kernel
theorem dX8_ask_3 : decode cX8_ask 3 = .ok (.bipush 9, 2) := by decide +kernel
theorem dX8_ask_5 : decode cX8_ask 5 = .ok (.invokevirtual 122, 3) := by decide +kernel
theorem dX8_ask_8 : decode cX8_ask 8 = .ok (.ifCond .ne 10, 3) := by decide +kernel
theorem dX8_ask_11 : decode cX8_ask 11 = .ok (.aload_n 0, 1) := by decide +kernel
theorem dX8_ask_12 : decode cX8_ask 12 = .ok (.bipush (-6), 2) := by decide +kernel
theorem dX8_ask_14 : decode cX8_ask 14 = .ok (.invokevirtual 115, 3) := by decide +kernel
theorem dX8_ask_17 : decode cX8_ask 17 = .ok (.ireturn, 1) := by decide +kernel
theorem dX8_ask_18 : decode cX8_ask 18 = .ok (.aload_n 0, 1) := by decide +kernel
theorem dX8_ask_19 : decode cX8_ask 19 = .ok (.getfield 7, 3) := by decide +kernel
theorem dX8_ask_22 : decode cX8_ask 22 = .ok (.istore_n 2, 1) := by decide +kernel
theorem dX8_ask_23 : decode cX8_ask 23 = .ok (.aload_n 0, 1) := by decide +kernel
theorem dX8_ask_24 : decode cX8_ask 24 = .ok (.iload_n 1, 1) := by decide +kernel
theorem dX8_ask_25 : decode cX8_ask 25 = .ok (.putfield 7, 3) := by decide +kernel
theorem dX8_ask_28 : decode cX8_ask 28 = .ok (.iload_n 2, 1) := by decide +kernel
theorem dX8_ask_29 : decode cX8_ask 29 = .ok (.ireturn, 1) := by decide +kernel
theorem dX8_cases_0 : decode cX8_cases 0 = .ok (.aload_n 0, 1) := by decide +kernel
theorem dX8_cases_1 : decode cX8_cases 1 = .ok (.getfield 44, 3) := by decide +kernel
theorem dX8_cases_4 : decode cX8_cases 4 = .ok (.iload_n 1, 1) := by decide +kernel
theorem dX8_cases_5 : decode cX8_cases 5 = .ok (.iaload, 1) := by decide +kernel
theorem dX8_cases_6 : decode cX8_cases 6 = .ok (.aload_n 0, 1) := by decide +kernel
theorem dX8_cases_7 : decode cX8_cases 7 = .ok (.getfield 41, 3) := by decide +kernel
theorem dX8_cases_10 : decode cX8_cases 10 = .ok (.iload_n 1, 1) := by decide +kernel
theorem dX8_cases_11 : decode cX8_cases 11 = .ok (.iaload, 1) := by decide +kernel
theorem dX8_cases_12 : decode cX8_cases 12 = .ok (.isub, 1) := by decide +kernel
theorem dX8_cases_13 : decode cX8_cases 13 = .ok (.iconst 1, 1) := by decide +kernel
theorem dX8_cases_14 : decode cX8_cases 14 = .ok (.iadd, 1) := by decide +kernel
theorem dX8_cases_15 : decode cX8_cases 15 = .ok (.aload_n 0, 1) := by decide +kernel
theorem dX8_cases_16 : decode cX8_cases 16 = .ok (.getfield 47, 3) := by decide +kernel
theorem dX8_cases_19 : decode cX8_cases 19 = .ok (.iload_n 1, 1) := by decide +kernel
theorem dX8_cases_20 : decode cX8_cases 20 = .ok (.iaload, 1) := by decide +kernel
theorem dX8_cases_21 : decode cX8_cases 21 = .ok (.iadd, 1) := by decide +kernel
theorem dX8_cases_22 : decode cX8_cases 22 = .ok (.ireturn, 1) := by decide +kernel
theorem dX8_thingOf_0 : decode cX8_thingOf 0 = .ok (.aload_n 0, 1) := by decide +kernel
theorem dX8_thingOf_1 : decode cX8_thingOf 1 = .ok (.iload_n 1, 1) := by decide +kernel
theorem dX8_thingOf_2 : decode cX8_thingOf 2 = .ok (.invokevirtual 134, 3) := by decide +kernel
theorem dX8_thingOf_5 : decode cX8_thingOf 5 = .ok (.ifCond .ne 10, 3) := by decide +kernel
theorem dX8_thingOf_8 : decode cX8_thingOf 8 = .ok (.aload_n 0, 1) := by decide +kernel
theorem dX8_thingOf_9 : decode cX8_thingOf 9 = .ok (.bipush (-5), 2) := by decide +kernel
theorem dX8_thingOf_11 : decode cX8_thingOf 11 = .ok (.invokevirtual 115, 3) := by decide +kernel
theorem dX8_thingOf_14 : decode cX8_thingOf 14 = .ok (.ireturn, 1) := by decide +kernel
theorem dX8_thingOf_15 : decode cX8_thingOf 15 = .ok (.iload_n 2, 1) := by decide +kernel
theorem dX8_thingOf_16 : decode cX8_thingOf 16 = .ok (.tableswitch 103 0 7 #[48, 55, 62, 69, 76, 83, 90, 97], 48) := by decide +kernel
theorem dX8_thingOf_64 : decode cX8_thingOf 64 = .ok (.aload_n 0, 1) := by decide +kernel
theorem dX8_thingOf_65 : decode cX8_thingOf 65 = .ok (.getfield 38, 3) := by decide +kernel
theorem dX8_thingOf_68 : decode cX8_thingOf 68 = .ok (.iload_n 1, 1) := by decide +kernel
theorem dX8_thingOf_69 : decode cX8_thingOf 69 = .ok (.iaload, 1) := by decide +kernel
theorem dX8_thingOf_70 : decode cX8_thingOf 70 = .ok (.ireturn, 1) := by decide +kernel
theorem dX8_thingOf_71 : decode cX8_thingOf 71 = .ok (.aload_n 0, 1) := by decide +kernel
theorem dX8_thingOf_72 : decode cX8_thingOf 72 = .ok (.getfield 41, 3) := by decide +kernel
theorem dX8_thingOf_75 : decode cX8_thingOf 75 = .ok (.iload_n 1, 1) := by decide +kernel
theorem dX8_thingOf_76 : decode cX8_thingOf 76 = .ok (.iaload, 1) := by decide +kernel
theorem dX8_thingOf_77 : decode cX8_thingOf 77 = .ok (.ireturn, 1) := by decide +kernel
theorem dX8_thingOf_78 : decode cX8_thingOf 78 = .ok (.aload_n 0, 1) := by decide +kernel
theorem dX8_thingOf_79 : decode cX8_thingOf 79 = .ok (.getfield 44, 3) := by decide +kernel
theorem dX8_thingOf_82 : decode cX8_thingOf 82 = .ok (.iload_n 1, 1) := by decide +kernel
theorem dX8_thingOf_83 : decode cX8_thingOf 83 = .ok (.iaload, 1) := by decide +kernel
theorem dX8_thingOf_84 : decode cX8_thingOf 84 = .ok (.ireturn, 1) := by decide +kernel
theorem dX8_thingOf_85 : decode cX8_thingOf 85 = .ok (.aload_n 0, 1) := by decide +kernel
theorem dX8_thingOf_86 : decode cX8_thingOf 86 = .ok (.getfield 47, 3) := by decide +kernel
theorem dX8_thingOf_89 : decode cX8_thingOf 89 = .ok (.iload_n 1, 1) := by decide +kernel
theorem dX8_thingOf_90 : decode cX8_thingOf 90 = .ok (.iaload, 1) := by decide +kernel
theorem dX8_thingOf_91 : decode cX8_thingOf 91 = .ok (.ireturn, 1) := by decide +kernel
theorem dX8_thingOf_92 : decode cX8_thingOf 92 = .ok (.aload_n 0, 1) := by decide +kernel
theorem dX8_thingOf_93 : decode cX8_thingOf 93 = .ok (.getfield 50, 3) := by decide +kernel
theorem dX8_thingOf_96 : decode cX8_thingOf 96 = .ok (.iload_n 1, 1) := by decide +kernel
theorem dX8_thingOf_97 : decode cX8_thingOf 97 = .ok (.iaload, 1) := by decide +kernel
theorem dX8_thingOf_98 : decode cX8_thingOf 98 = .ok (.ireturn, 1) := by decide +kernel
theorem dX8_thingOf_99 : decode cX8_thingOf 99 = .ok (.aload_n 0, 1) := by decide +kernel
theorem dX8_thingOf_100 : decode cX8_thingOf 100 = .ok (.getfield 53, 3) := by decide +kernel
theorem dX8_thingOf_103 : decode cX8_thingOf 103 = .ok (.iload_n 1, 1) := by decide +kernel
theorem dX8_thingOf_104 : decode cX8_thingOf 104 = .ok (.iaload, 1) := by decide +kernel
theorem dX8_thingOf_105 : decode cX8_thingOf 105 = .ok (.ireturn, 1) := by decide +kernel
theorem dX8_thingOf_106 : decode cX8_thingOf 106 = .ok (.aload_n 0, 1) := by decide +kernel
theorem dX8_thingOf_107 : decode cX8_thingOf 107 = .ok (.getfield 56, 3) := by decide +kernel
theorem dX8_thingOf_110 : decode cX8_thingOf 110 = .ok (.iload_n 1, 1) := by decide +kernel
theorem dX8_thingOf_111 : decode cX8_thingOf 111 = .ok (.iaload, 1) := by decide +kernel
theorem dX8_thingOf_112 : decode cX8_thingOf 112 = .ok (.ireturn, 1) := by decide +kernel
theorem dX8_thingOf_113 : decode cX8_thingOf 113 = .ok (.aload_n 0, 1) := by decide +kernel
theorem dX8_thingOf_114 : decode cX8_thingOf 114 = .ok (.iload_n 1, 1) := by decide +kernel
theorem dX8_thingOf_115 : decode cX8_thingOf 115 = .ok (.invokevirtual 137, 3) := by decide +kernel
theorem dX8_thingOf_118 : decode cX8_thingOf 118 = .ok (.ireturn, 1) := by decide +kernel
theorem dX8_thingOf_119 : decode cX8_thingOf 119 = .ok (.aload_n 0, 1) := by decide +kernel
theorem dX8_thingOf_120 : decode cX8_thingOf 120 = .ok (.bipush (-5), 2) := by decide +kernel
theorem dX8_thingOf_122 : decode cX8_thingOf 122 = .ok (.invokevirtual 115, 3) := by decide +kernel
theorem dX8_thingOf_125 : decode cX8_thingOf 125 = .ok (.ireturn, 1) := by decide +kernel
theorem dX8_waiterOf_0 : decode cX8_waiterOf 0 = .ok (.aload_n 0, 1) := by decide +kernel
theorem dX8_waiterOf_1 : decode cX8_waiterOf 1 = .ok (.iload_n 1, 1) := by decide +kernel
theorem dX8_waiterOf_2 : decode cX8_waiterOf 2 = .ok (.invokevirtual 119, 3) := by decide +kernel
theorem dX8_waiterOf_5 : decode cX8_waiterOf 5 = .ok (.ifCond .ne 10, 3) := by decide +kernel
theorem dX8_waiterOf_8 : decode cX8_waiterOf 8 = .ok (.aload_n 0, 1) := by decide +kernel
theorem dX8_waiterOf_9 : decode cX8_waiterOf 9 = .ok (.bipush (-5), 2) := by decide +kernel
theorem dX8_waiterOf_11 : decode cX8_waiterOf 11 = .ok (.invokevirtual 115, 3) := by decide +kernel
theorem dX8_waiterOf_14 : decode cX8_waiterOf 14 = .ok (.ireturn, 1) := by decide +kernel
theorem dX8_waiterOf_15 : decode cX8_waiterOf 15 = .ok (.iload_n 2, 1) := by decide +kernel
theorem dX8_waiterOf_16 : decode cX8_waiterOf 16 = .ok (.tableswitch 91 0 6 #[44, 51, 58, 65, 72, 79, 85], 44) := by decide +kernel
theorem dX8_waiterOf_60 : decode cX8_waiterOf 60 = .ok (.aload_n 0, 1) := by decide +kernel
theorem dX8_waiterOf_61 : decode cX8_waiterOf 61 = .ok (.getfield 23, 3) := by decide +kernel
theorem dX8_waiterOf_64 : decode cX8_waiterOf 64 = .ok (.iload_n 1, 1) := by decide +kernel
theorem dX8_waiterOf_65 : decode cX8_waiterOf 65 = .ok (.iaload, 1) := by decide +kernel
theorem dX8_waiterOf_66 : decode cX8_waiterOf 66 = .ok (.ireturn, 1) := by decide +kernel
theorem dX8_waiterOf_67 : decode cX8_waiterOf 67 = .ok (.aload_n 0, 1) := by decide +kernel
theorem dX8_waiterOf_68 : decode cX8_waiterOf 68 = .ok (.getfield 26, 3) := by decide +kernel
theorem dX8_waiterOf_71 : decode cX8_waiterOf 71 = .ok (.iload_n 1, 1) := by decide +kernel
theorem dX8_waiterOf_72 : decode cX8_waiterOf 72 = .ok (.iaload, 1) := by decide +kernel
theorem dX8_waiterOf_73 : decode cX8_waiterOf 73 = .ok (.ireturn, 1) := by decide +kernel
theorem dX8_waiterOf_74 : decode cX8_waiterOf 74 = .ok (.aload_n 0, 1) := by decide +kernel
theorem dX8_waiterOf_75 : decode cX8_waiterOf 75 = .ok (.getfield 29, 3) := by decide +kernel
theorem dX8_waiterOf_78 : decode cX8_waiterOf 78 = .ok (.iload_n 1, 1) := by decide +kernel
theorem dX8_waiterOf_79 : decode cX8_waiterOf 79 = .ok (.iaload, 1) := by decide +kernel
theorem dX8_waiterOf_80 : decode cX8_waiterOf 80 = .ok (.ireturn, 1) := by decide +kernel
theorem dX8_waiterOf_81 : decode cX8_waiterOf 81 = .ok (.aload_n 0, 1) := by decide +kernel
theorem dX8_waiterOf_82 : decode cX8_waiterOf 82 = .ok (.getfield 32, 3) := by decide +kernel
theorem dX8_waiterOf_85 : decode cX8_waiterOf 85 = .ok (.iload_n 1, 1) := by decide +kernel
theorem dX8_waiterOf_86 : decode cX8_waiterOf 86 = .ok (.iaload, 1) := by decide +kernel
theorem dX8_waiterOf_87 : decode cX8_waiterOf 87 = .ok (.ireturn, 1) := by decide +kernel
theorem dX8_waiterOf_88 : decode cX8_waiterOf 88 = .ok (.aload_n 0, 1) := by decide +kernel
theorem dX8_waiterOf_89 : decode cX8_waiterOf 89 = .ok (.getfield 35, 3) := by decide +kernel
theorem dX8_waiterOf_92 : decode cX8_waiterOf 92 = .ok (.iload_n 1, 1) := by decide +kernel
theorem dX8_waiterOf_93 : decode cX8_waiterOf 93 = .ok (.iaload, 1) := by decide +kernel
theorem dX8_waiterOf_94 : decode cX8_waiterOf 94 = .ok (.ireturn, 1) := by decide +kernel
theorem dX8_waiterOf_95 : decode cX8_waiterOf 95 = .ok (.aload_n 0, 1) := by decide +kernel
theorem dX8_waiterOf_96 : decode cX8_waiterOf 96 = .ok (.iload_n 1, 1) := by decide +kernel
theorem dX8_waiterOf_97 : decode cX8_waiterOf 97 = .ok (.invokevirtual 140, 3) := by decide +kernel
theorem dX8_waiterOf_100 : decode cX8_waiterOf 100 = .ok (.ireturn, 1) := by decide +kernel
theorem dX8_waiterOf_101 : decode cX8_waiterOf 101 = .ok (.aload_n 0, 1) := by decide +kernel
theorem dX8_waiterOf_102 : decode cX8_waiterOf 102 = .ok (.iload_n 1, 1) := by decide +kernel
theorem dX8_waiterOf_103 : decode cX8_waiterOf 103 = .ok (.invokevirtual 143, 3) := by decide +kernel
theorem dX8_waiterOf_106 : decode cX8_waiterOf 106 = .ok (.ireturn, 1) := by decide +kernel
theorem dX8_waiterOf_107 : decode cX8_waiterOf 107 = .ok (.aload_n 0, 1) := by decide +kernel
theorem dX8_waiterOf_108 : decode cX8_waiterOf 108 = .ok (.bipush (-5), 2) := by decide +kernel
theorem dX8_waiterOf_110 : decode cX8_waiterOf 110 = .ok (.invokevirtual 115, 3) := by decide +kernel
theorem dX8_waiterOf_113 : decode cX8_waiterOf 113 = .ok (.ireturn, 1) := by decide +kernel
theorem dX8_wrong_0 : decode cX8_wrong 0 = .ok (.aload_n 0, 1) := by decide +kernel
theorem dX8_wrong_1 : decode cX8_wrong 1 = .ok (.iload_n 1, 1) := by decide +kernel
theorem dX8_wrong_2 : decode cX8_wrong 2 = .ok (.putfield 146, 3) := by decide +kernel
theorem dX8_wrong_5 : decode cX8_wrong 5 = .ok (.iconst 0, 1) := by decide +kernel
theorem dX8_wrong_6 : decode cX8_wrong 6 = .ok (.ireturn, 1) := by decide +kernel
theorem dX8_stands_0 : decode cX8_stands 0 = .ok (.iconst 0, 1) := by decide +kernel
theorem dX8_stands_1 : decode cX8_stands 1 = .ok (.istore_n 2, 1) := by decide +kernel
theorem dX8_stands_2 : decode cX8_stands 2 = .ok (.iconst 0, 1) := by decide +kernel
theorem dX8_stands_3 : decode cX8_stands 3 = .ok (.istore_n 3, 1) := by decide +kernel
theorem dX8_stands_4 : decode cX8_stands 4 = .ok (.iload_n 3, 1) := by decide +kernel
theorem dX8_stands_5 : decode cX8_stands 5 = .ok (.iload_n 1, 1) := by decide +kernel
theorem dX8_stands_6 : decode cX8_stands 6 = .ok (.if_icmp .ge 26, 3) := by decide +kernel
theorem dX8_stands_9 : decode cX8_stands 9 = .ok (.iload_n 3, 1) := by decide +kernel
theorem dX8_stands_10 : decode cX8_stands 10 = .ok (.aload_n 0, 1) := by decide +kernel
theorem dX8_stands_11 : decode cX8_stands 11 = .ok (.getfield 78, 3) := by decide +kernel
theorem dX8_stands_14 : decode cX8_stands 14 = .ok (.iload_n 2, 1) := by decide +kernel
theorem dX8_stands_15 : decode cX8_stands 15 = .ok (.iaload, 1) := by decide +kernel
theorem dX8_stands_16 : decode cX8_stands 16 = .ok (.ifCond .ne 7, 3) := by decide +kernel
theorem dX8_stands_19 : decode cX8_stands 19 = .ok (.iconst 1, 1) := by decide +kernel
theorem dX8_stands_20 : decode cX8_stands 20 = .ok (.goto 4, 3) := by decide +kernel
theorem dX8_stands_23 : decode cX8_stands 23 = .ok (.iconst 0, 1) := by decide +kernel
theorem dX8_stands_24 : decode cX8_stands 24 = .ok (.iadd, 1) := by decide +kernel
theorem dX8_stands_25 : decode cX8_stands 25 = .ok (.istore_n 3, 1) := by decide +kernel
theorem dX8_stands_26 : decode cX8_stands 26 = .ok (.iinc 2 1, 3) := by decide +kernel
theorem dX8_stands_29 : decode cX8_stands 29 = .ok (.goto (-25), 3) := by decide +kernel
theorem dX8_stands_32 : decode cX8_stands 32 = .ok (.aload_n 0, 1) := by decide +kernel
theorem dX8_stands_33 : decode cX8_stands 33 = .ok (.getfield 149, 3) := by decide +kernel
theorem dX8_stands_36 : decode cX8_stands 36 = .ok (.istore_n 3, 1) := by decide +kernel
theorem dX8_stands_37 : decode cX8_stands 37 = .ok (.aload_n 0, 1) := by decide +kernel
theorem dX8_stands_38 : decode cX8_stands 38 = .ok (.getfield 78, 3) := by decide +kernel
theorem dX8_stands_41 : decode cX8_stands 41 = .ok (.iload_n 2, 1) := by decide +kernel
theorem dX8_stands_42 : decode cX8_stands 42 = .ok (.iaload, 1) := by decide +kernel
theorem dX8_stands_43 : decode cX8_stands 43 = .ok (.bipush 32, 2) := by decide +kernel
theorem dX8_stands_45 : decode cX8_stands 45 = .ok (.if_icmp .le 41, 3) := by decide +kernel
theorem dX8_stands_48 : decode cX8_stands 48 = .ok (.iload_n 3, 1) := by decide +kernel
theorem dX8_stands_49 : decode cX8_stands 49 = .ok (.aload_n 0, 1) := by decide +kernel
theorem dX8_stands_50 : decode cX8_stands 50 = .ok (.getfield 152, 3) := by decide +kernel
theorem dX8_stands_53 : decode cX8_stands 53 = .ok (.if_icmp .ge 33, 3) := by decide +kernel
theorem dX8_stands_56 : decode cX8_stands 56 = .ok (.aload_n 0, 1) := by decide +kernel
theorem dX8_stands_57 : decode cX8_stands 57 = .ok (.getfield 71, 3) := by decide +kernel
theorem dX8_stands_60 : decode cX8_stands 60 = .ok (.aload_n 0, 1) := by decide +kernel
theorem dX8_stands_61 : decode cX8_stands 61 = .ok (.getfield 155, 3) := by decide +kernel
theorem dX8_stands_64 : decode cX8_stands 64 = .ok (.iload_n 3, 1) := by decide +kernel
theorem dX8_stands_65 : decode cX8_stands 65 = .ok (.iadd, 1) := by decide +kernel
theorem dX8_stands_66 : decode cX8_stands 66 = .ok (.laload, 1) := by decide +kernel
theorem dX8_stands_67 : decode cX8_stands 67 = .ok (.l2i, 1) := by decide +kernel
theorem dX8_stands_68 : decode cX8_stands 68 = .ok (.aload_n 0, 1) := by decide +kernel
theorem dX8_stands_69 : decode cX8_stands 69 = .ok (.getfield 78, 3) := by decide +kernel
theorem dX8_stands_72 : decode cX8_stands 72 = .ok (.iload_n 2, 1) := by decide +kernel
theorem dX8_stands_73 : decode cX8_stands 73 = .ok (.iaload, 1) := by decide +kernel
theorem dX8_stands_74 : decode cX8_stands 74 = .ok (.if_icmp .ne 12, 3) := by decide +kernel
theorem dX8_stands_77 : decode cX8_stands 77 = .ok (.iinc 3 1, 3) := by decide +kernel
theorem dX8_stands_80 : decode cX8_stands 80 = .ok (.iinc 2 1, 3) := by decide +kernel
theorem dX8_stands_83 : decode cX8_stands 83 = .ok (.goto (-46), 3) := by decide +kernel
theorem dX8_stands_86 : decode cX8_stands 86 = .ok (.aload_n 0, 1) := by decide +kernel
theorem dX8_stands_87 : decode cX8_stands 87 = .ok (.getfield 78, 3) := by decide +kernel
theorem dX8_stands_90 : decode cX8_stands 90 = .ok (.iload_n 2, 1) := by decide +kernel
theorem dX8_stands_91 : decode cX8_stands 91 = .ok (.iaload, 1) := by decide +kernel
theorem dX8_stands_92 : decode cX8_stands 92 = .ok (.bipush 32, 2) := by decide +kernel
theorem dX8_stands_94 : decode cX8_stands 94 = .ok (.if_icmp .gt 7, 3) := by decide +kernel
theorem dX8_stands_97 : decode cX8_stands 97 = .ok (.iconst 1, 1) := by decide +kernel
theorem dX8_stands_98 : decode cX8_stands 98 = .ok (.goto 4, 3) := by decide +kernel
theorem dX8_stands_101 : decode cX8_stands 101 = .ok (.iconst 0, 1) := by decide +kernel
theorem dX8_stands_102 : decode cX8_stands 102 = .ok (.ireturn, 1) := by decide +kernel
theorem dX8_word_0 : decode cX8_word 0 = .ok (.iconst 0, 1) := by decide +kernel
theorem dX8_word_1 : decode cX8_word 1 = .ok (.istore_n 1, 1) := by decide +kernel
theorem dX8_word_2 : decode cX8_word 2 = .ok (.aload_n 0, 1) := by decide +kernel
theorem dX8_word_3 : decode cX8_word 3 = .ok (.getfield 149, 3) := by decide +kernel
theorem dX8_word_6 : decode cX8_word 6 = .ok (.istore_n 2, 1) := by decide +kernel
theorem dX8_word_7 : decode cX8_word 7 = .ok (.iconst 0, 1) := by decide +kernel
theorem dX8_word_8 : decode cX8_word 8 = .ok (.istore_n 3, 1) := by decide +kernel
theorem dX8_word_9 : decode cX8_word 9 = .ok (.iload_n 3, 1) := by decide +kernel
theorem dX8_word_10 : decode cX8_word 10 = .ok (.iconst 4, 1) := by decide +kernel
theorem dX8_word_11 : decode cX8_word 11 = .ok (.if_icmp .ge 118, 3) := by decide +kernel
theorem dX8_word_14 : decode cX8_word 14 = .ok (.aload_n 0, 1) := by decide +kernel
theorem dX8_word_15 : decode cX8_word 15 = .ok (.getfield 149, 3) := by decide +kernel
theorem dX8_word_18 : decode cX8_word 18 = .ok (.istore 4, 2) := by decide +kernel
theorem dX8_word_20 : decode cX8_word 20 = .ok (.iload_n 1, 1) := by decide +kernel
theorem dX8_word_21 : decode cX8_word 21 = .ok (.istore 5, 2) := by decide +kernel
theorem dX8_word_23 : decode cX8_word 23 = .ok (.aload_n 0, 1) := by decide +kernel
theorem dX8_word_24 : decode cX8_word 24 = .ok (.getfield 78, 3) := by decide +kernel
theorem dX8_word_27 : decode cX8_word 27 = .ok (.iload 5, 2) := by decide +kernel
theorem dX8_word_29 : decode cX8_word 29 = .ok (.iaload, 1) := by decide +kernel
theorem dX8_word_30 : decode cX8_word 30 = .ok (.ifCond .eq 44, 3) := by decide +kernel
theorem dX8_word_33 : decode cX8_word 33 = .ok (.iload 4, 2) := by decide +kernel
theorem dX8_word_35 : decode cX8_word 35 = .ok (.aload_n 0, 1) := by decide +kernel
theorem dX8_word_36 : decode cX8_word 36 = .ok (.getfield 152, 3) := by decide +kernel
theorem dX8_word_39 : decode cX8_word 39 = .ok (.if_icmp .ge 35, 3) := by decide +kernel
theorem dX8_word_42 : decode cX8_word 42 = .ok (.aload_n 0, 1) := by decide +kernel
theorem dX8_word_43 : decode cX8_word 43 = .ok (.getfield 71, 3) := by decide +kernel
theorem dX8_word_46 : decode cX8_word 46 = .ok (.aload_n 0, 1) := by decide +kernel
theorem dX8_word_47 : decode cX8_word 47 = .ok (.getfield 155, 3) := by decide +kernel
theorem dX8_word_50 : decode cX8_word 50 = .ok (.iload 4, 2) := by decide +kernel
theorem dX8_word_52 : decode cX8_word 52 = .ok (.iadd, 1) := by decide +kernel
theorem dX8_word_53 : decode cX8_word 53 = .ok (.laload, 1) := by decide +kernel
theorem dX8_word_54 : decode cX8_word 54 = .ok (.l2i, 1) := by decide +kernel
theorem dX8_word_55 : decode cX8_word 55 = .ok (.aload_n 0, 1) := by decide +kernel
theorem dX8_word_56 : decode cX8_word 56 = .ok (.getfield 78, 3) := by decide +kernel
theorem dX8_word_59 : decode cX8_word 59 = .ok (.iload 5, 2) := by decide +kernel
theorem dX8_word_61 : decode cX8_word 61 = .ok (.iaload, 1) := by decide +kernel
theorem dX8_word_62 : decode cX8_word 62 = .ok (.if_icmp .ne 12, 3) := by decide +kernel
theorem dX8_word_65 : decode cX8_word 65 = .ok (.iinc 4 1, 3) := by decide +kernel
theorem dX8_word_68 : decode cX8_word 68 = .ok (.iinc 5 1, 3) := by decide +kernel
theorem dX8_word_71 : decode cX8_word 71 = .ok (.goto (-48), 3) := by decide +kernel
theorem dX8_word_74 : decode cX8_word 74 = .ok (.aload_n 0, 1) := by decide +kernel
theorem dX8_word_75 : decode cX8_word 75 = .ok (.getfield 78, 3) := by decide +kernel
theorem dX8_word_78 : decode cX8_word 78 = .ok (.iload 5, 2) := by decide +kernel
theorem dX8_word_80 : decode cX8_word 80 = .ok (.iaload, 1) := by decide +kernel
theorem dX8_word_81 : decode cX8_word 81 = .ok (.ifCond .ne 11, 3) := by decide +kernel
theorem dX8_word_84 : decode cX8_word 84 = .ok (.aload_n 0, 1) := by decide +kernel
theorem dX8_word_85 : decode cX8_word 85 = .ok (.iload 4, 2) := by decide +kernel
theorem dX8_word_87 : decode cX8_word 87 = .ok (.putfield 149, 3) := by decide +kernel
theorem dX8_word_90 : decode cX8_word 90 = .ok (.iload_n 3, 1) := by decide +kernel
theorem dX8_word_91 : decode cX8_word 91 = .ok (.ireturn, 1) := by decide +kernel
theorem dX8_word_92 : decode cX8_word 92 = .ok (.iload 4, 2) := by decide +kernel
theorem dX8_word_94 : decode cX8_word 94 = .ok (.iload_n 2, 1) := by decide +kernel
theorem dX8_word_95 : decode cX8_word 95 = .ok (.if_icmp .le 8, 3) := by decide +kernel
theorem dX8_word_98 : decode cX8_word 98 = .ok (.iload 4, 2) := by decide +kernel
theorem dX8_word_100 : decode cX8_word 100 = .ok (.goto 4, 3) := by decide +kernel
theorem dX8_word_103 : decode cX8_word 103 = .ok (.iload_n 2, 1) := by decide +kernel
theorem dX8_word_104 : decode cX8_word 104 = .ok (.istore_n 2, 1) := by decide +kernel
theorem dX8_word_105 : decode cX8_word 105 = .ok (.aload_n 0, 1) := by decide +kernel
theorem dX8_word_106 : decode cX8_word 106 = .ok (.getfield 78, 3) := by decide +kernel
theorem dX8_word_109 : decode cX8_word 109 = .ok (.iload_n 1, 1) := by decide +kernel
theorem dX8_word_110 : decode cX8_word 110 = .ok (.iaload, 1) := by decide +kernel
theorem dX8_word_111 : decode cX8_word 111 = .ok (.ifCond .eq 9, 3) := by decide +kernel
theorem dX8_word_114 : decode cX8_word 114 = .ok (.iinc 1 1, 3) := by decide +kernel
theorem dX8_word_117 : decode cX8_word 117 = .ok (.goto (-12), 3) := by decide +kernel
theorem dX8_word_120 : decode cX8_word 120 = .ok (.iinc 1 1, 3) := by decide +kernel
theorem dX8_word_123 : decode cX8_word 123 = .ok (.iinc 3 1, 3) := by decide +kernel
theorem dX8_word_126 : decode cX8_word 126 = .ok (.goto (-117), 3) := by decide +kernel
theorem dX8_word_129 : decode cX8_word 129 = .ok (.aload_n 0, 1) := by decide +kernel
theorem dX8_word_130 : decode cX8_word 130 = .ok (.iload_n 2, 1) := by decide +kernel
theorem dX8_word_131 : decode cX8_word 131 = .ok (.putfield 146, 3) := by decide +kernel
theorem dX8_word_134 : decode cX8_word 134 = .ok (.iconst (-1), 1) := by decide +kernel
theorem dX8_word_135 : decode cX8_word 135 = .ok (.ireturn, 1) := by decide +kernel
theorem dX8_isDigit_0 : decode cX8_isDigit 0 = .ok (.aload_n 0, 1) := by decide +kernel
theorem dX8_isDigit_1 : decode cX8_isDigit 1 = .ok (.getfield 149, 3) := by decide +kernel
theorem dX8_isDigit_4 : decode cX8_isDigit 4 = .ok (.aload_n 0, 1) := by decide +kernel
theorem dX8_isDigit_5 : decode cX8_isDigit 5 = .ok (.getfield 152, 3) := by decide +kernel
theorem dX8_isDigit_8 : decode cX8_isDigit 8 = .ok (.if_icmp .ge 47, 3) := by decide +kernel
theorem dX8_isDigit_11 : decode cX8_isDigit 11 = .ok (.aload_n 0, 1) := by decide +kernel
theorem dX8_isDigit_12 : decode cX8_isDigit 12 = .ok (.getfield 71, 3) := by decide +kernel
theorem dX8_isDigit_15 : decode cX8_isDigit 15 = .ok (.aload_n 0, 1) := by decide +kernel
theorem dX8_isDigit_16 : decode cX8_isDigit 16 = .ok (.getfield 155, 3) := by decide +kernel
theorem dX8_isDigit_19 : decode cX8_isDigit 19 = .ok (.aload_n 0, 1) := by decide +kernel
theorem dX8_isDigit_20 : decode cX8_isDigit 20 = .ok (.getfield 149, 3) := by decide +kernel
theorem dX8_isDigit_23 : decode cX8_isDigit 23 = .ok (.iadd, 1) := by decide +kernel
theorem dX8_isDigit_24 : decode cX8_isDigit 24 = .ok (.laload, 1) := by decide +kernel
theorem dX8_isDigit_25 : decode cX8_isDigit 25 = .ok (.l2i, 1) := by decide +kernel
theorem dX8_isDigit_26 : decode cX8_isDigit 26 = .ok (.bipush 48, 2) := by decide +kernel
theorem dX8_isDigit_28 : decode cX8_isDigit 28 = .ok (.if_icmp .lt 27, 3) := by decide +kernel
theorem dX8_isDigit_31 : decode cX8_isDigit 31 = .ok (.aload_n 0, 1) := by decide +kernel
theorem dX8_isDigit_32 : decode cX8_isDigit 32 = .ok (.getfield 71, 3) := by decide +kernel
theorem dX8_isDigit_35 : decode cX8_isDigit 35 = .ok (.aload_n 0, 1) := by decide +kernel
theorem dX8_isDigit_36 : decode cX8_isDigit 36 = .ok (.getfield 155, 3) := by decide +kernel
theorem dX8_isDigit_39 : decode cX8_isDigit 39 = .ok (.aload_n 0, 1) := by decide +kernel
theorem dX8_isDigit_40 : decode cX8_isDigit 40 = .ok (.getfield 149, 3) := by decide +kernel
theorem dX8_isDigit_43 : decode cX8_isDigit 43 = .ok (.iadd, 1) := by decide +kernel
theorem dX8_isDigit_44 : decode cX8_isDigit 44 = .ok (.laload, 1) := by decide +kernel
theorem dX8_isDigit_45 : decode cX8_isDigit 45 = .ok (.l2i, 1) := by decide +kernel
theorem dX8_isDigit_46 : decode cX8_isDigit 46 = .ok (.bipush 57, 2) := by decide +kernel
theorem dX8_isDigit_48 : decode cX8_isDigit 48 = .ok (.if_icmp .gt 7, 3) := by decide +kernel
theorem dX8_isDigit_51 : decode cX8_isDigit 51 = .ok (.iconst 1, 1) := by decide +kernel
theorem dX8_isDigit_52 : decode cX8_isDigit 52 = .ok (.goto 4, 3) := by decide +kernel
theorem dX8_isDigit_55 : decode cX8_isDigit 55 = .ok (.iconst 0, 1) := by decide +kernel
theorem dX8_isDigit_56 : decode cX8_isDigit 56 = .ok (.ireturn, 1) := by decide +kernel
theorem dX8_reads_0 : decode cX8_reads 0 = .ok (.aload_n 0, 1) := by decide +kernel
theorem dX8_reads_1 : decode cX8_reads 1 = .ok (.iconst 0, 1) := by decide +kernel
theorem dX8_reads_2 : decode cX8_reads 2 = .ok (.putfield 158, 3) := by decide +kernel
theorem dX8_reads_5 : decode cX8_reads 5 = .ok (.aload_n 0, 1) := by decide +kernel
theorem dX8_reads_6 : decode cX8_reads 6 = .ok (.invokevirtual 161, 3) := by decide +kernel
theorem dX8_reads_9 : decode cX8_reads 9 = .ok (.ifCond .ne 12, 3) := by decide +kernel
theorem dX8_reads_12 : decode cX8_reads 12 = .ok (.aload_n 0, 1) := by decide +kernel
theorem dX8_reads_13 : decode cX8_reads 13 = .ok (.aload_n 0, 1) := by decide +kernel
theorem dX8_reads_14 : decode cX8_reads 14 = .ok (.getfield 149, 3) := by decide +kernel
theorem dX8_reads_17 : decode cX8_reads 17 = .ok (.invokevirtual 165, 3) := by decide +kernel
theorem dX8_reads_20 : decode cX8_reads 20 = .ok (.ireturn, 1) := by decide +kernel
theorem dX8_reads_21 : decode cX8_reads 21 = .ok (.iconst 0, 1) := by decide +kernel
theorem dX8_reads_22 : decode cX8_reads 22 = .ok (.istore_n 1, 1) := by decide +kernel
theorem dX8_reads_23 : decode cX8_reads 23 = .ok (.iload_n 1, 1) := by decide +kernel
theorem dX8_reads_24 : decode cX8_reads 24 = .ok (.iconst 2, 1) := by decide +kernel
theorem dX8_reads_25 : decode cX8_reads 25 = .ok (.if_icmp .ge 56, 3) := by decide +kernel
theorem dX8_reads_28 : decode cX8_reads 28 = .ok (.aload_n 0, 1) := by decide +kernel
theorem dX8_reads_29 : decode cX8_reads 29 = .ok (.invokevirtual 161, 3) := by decide +kernel
theorem dX8_reads_32 : decode cX8_reads 32 = .ok (.ifCond .eq 49, 3) := by decide +kernel
theorem dX8_reads_35 : decode cX8_reads 35 = .ok (.aload_n 0, 1) := by decide +kernel
theorem dX8_reads_36 : decode cX8_reads 36 = .ok (.bipush 10, 2) := by decide +kernel
theorem dX8_reads_38 : decode cX8_reads 38 = .ok (.aload_n 0, 1) := by decide +kernel
theorem dX8_reads_39 : decode cX8_reads 39 = .ok (.getfield 158, 3) := by decide +kernel
theorem dX8_reads_42 : decode cX8_reads 42 = .ok (.imul, 1) := by decide +kernel
theorem dX8_reads_43 : decode cX8_reads 43 = .ok (.aload_n 0, 1) := by decide +kernel
theorem dX8_reads_44 : decode cX8_reads 44 = .ok (.getfield 71, 3) := by decide +kernel
theorem dX8_reads_47 : decode cX8_reads 47 = .ok (.aload_n 0, 1) := by decide +kernel
theorem dX8_reads_48 : decode cX8_reads 48 = .ok (.getfield 155, 3) := by decide +kernel
theorem dX8_reads_51 : decode cX8_reads 51 = .ok (.aload_n 0, 1) := by decide +kernel
theorem dX8_reads_52 : decode cX8_reads 52 = .ok (.getfield 149, 3) := by decide +kernel
theorem dX8_reads_55 : decode cX8_reads 55 = .ok (.iadd, 1) := by decide +kernel
theorem dX8_reads_56 : decode cX8_reads 56 = .ok (.laload, 1) := by decide +kernel
theorem dX8_reads_57 : decode cX8_reads 57 = .ok (.l2i, 1) := by decide +kernel
theorem dX8_reads_58 : decode cX8_reads 58 = .ok (.iadd, 1) := by decide +kernel
theorem dX8_reads_59 : decode cX8_reads 59 = .ok (.bipush 48, 2) := by decide +kernel
theorem dX8_reads_61 : decode cX8_reads 61 = .ok (.isub, 1) := by decide +kernel
theorem dX8_reads_62 : decode cX8_reads 62 = .ok (.putfield 158, 3) := by decide +kernel
theorem dX8_reads_65 : decode cX8_reads 65 = .ok (.aload_n 0, 1) := by decide +kernel
theorem dX8_reads_66 : decode cX8_reads 66 = .ok (.dup, 1) := by decide +kernel
theorem dX8_reads_67 : decode cX8_reads 67 = .ok (.getfield 149, 3) := by decide +kernel
theorem dX8_reads_70 : decode cX8_reads 70 = .ok (.iconst 1, 1) := by decide +kernel
theorem dX8_reads_71 : decode cX8_reads 71 = .ok (.iadd, 1) := by decide +kernel
theorem dX8_reads_72 : decode cX8_reads 72 = .ok (.putfield 149, 3) := by decide +kernel
theorem dX8_reads_75 : decode cX8_reads 75 = .ok (.iinc 1 1, 3) := by decide +kernel
theorem dX8_reads_78 : decode cX8_reads 78 = .ok (.goto (-55), 3) := by decide +kernel
theorem dX8_reads_81 : decode cX8_reads 81 = .ok (.iconst 1, 1) := by decide +kernel
theorem dX8_reads_82 : decode cX8_reads 82 = .ok (.ireturn, 1) := by decide +kernel
theorem dX8_isSo_0 : decode cX8_isSo 0 = .ok (.iload_n 1, 1) := by decide +kernel
theorem dX8_isSo_1 : decode cX8_isSo 1 = .ok (.ifCond .ne 40, 3) := by decide +kernel
theorem dX8_isSo_4 : decode cX8_isSo 4 = .ok (.aload_n 0, 1) := by decide +kernel
theorem dX8_isSo_5 : decode cX8_isSo 5 = .ok (.getfield 158, 3) := by decide +kernel
theorem dX8_isSo_8 : decode cX8_isSo 8 = .ok (.aload_n 0, 1) := by decide +kernel
theorem dX8_isSo_9 : decode cX8_isSo 9 = .ok (.getfield 84, 3) := by decide +kernel
theorem dX8_isSo_12 : decode cX8_isSo 12 = .ok (.iload_n 2, 1) := by decide +kernel
theorem dX8_isSo_13 : decode cX8_isSo 13 = .ok (.iaload, 1) := by decide +kernel
theorem dX8_isSo_14 : decode cX8_isSo 14 = .ok (.if_icmp .gt 25, 3) := by decide +kernel
theorem dX8_isSo_17 : decode cX8_isSo 17 = .ok (.iload_n 2, 1) := by decide +kernel
theorem dX8_isSo_18 : decode cX8_isSo 18 = .ok (.iconst 2, 1) := by decide +kernel
theorem dX8_isSo_19 : decode cX8_isSo 19 = .ok (.if_icmp .ne 16, 3) := by decide +kernel
theorem dX8_isSo_22 : decode cX8_isSo 22 = .ok (.aload_n 0, 1) := by decide +kernel
theorem dX8_isSo_23 : decode cX8_isSo 23 = .ok (.getfield 158, 3) := by decide +kernel
theorem dX8_isSo_26 : decode cX8_isSo 26 = .ok (.aload_n 0, 1) := by decide +kernel
theorem dX8_isSo_27 : decode cX8_isSo 27 = .ok (.getfield 90, 3) := by decide +kernel
theorem dX8_isSo_30 : decode cX8_isSo 30 = .ok (.iconst 1, 1) := by decide +kernel
theorem dX8_isSo_31 : decode cX8_isSo 31 = .ok (.iaload, 1) := by decide +kernel
theorem dX8_isSo_32 : decode cX8_isSo 32 = .ok (.if_icmp .lt 7, 3) := by decide +kernel
theorem dX8_isSo_35 : decode cX8_isSo 35 = .ok (.iconst 1, 1) := by decide +kernel
theorem dX8_isSo_36 : decode cX8_isSo 36 = .ok (.goto 4, 3) := by decide +kernel
theorem dX8_isSo_39 : decode cX8_isSo 39 = .ok (.iconst 0, 1) := by decide +kernel
theorem dX8_isSo_40 : decode cX8_isSo 40 = .ok (.ireturn, 1) := by decide +kernel
theorem dX8_isSo_41 : decode cX8_isSo 41 = .ok (.iload_n 1, 1) := by decide +kernel
theorem dX8_isSo_42 : decode cX8_isSo 42 = .ok (.iconst 1, 1) := by decide +kernel
theorem dX8_isSo_43 : decode cX8_isSo 43 = .ok (.if_icmp .ne 40, 3) := by decide +kernel
theorem dX8_isSo_46 : decode cX8_isSo 46 = .ok (.aload_n 0, 1) := by decide +kernel
theorem dX8_isSo_47 : decode cX8_isSo 47 = .ok (.getfield 158, 3) := by decide +kernel
theorem dX8_isSo_50 : decode cX8_isSo 50 = .ok (.aload_n 0, 1) := by decide +kernel
theorem dX8_isSo_51 : decode cX8_isSo 51 = .ok (.getfield 87, 3) := by decide +kernel
theorem dX8_isSo_54 : decode cX8_isSo 54 = .ok (.iload_n 2, 1) := by decide +kernel
theorem dX8_isSo_55 : decode cX8_isSo 55 = .ok (.iaload, 1) := by decide +kernel
theorem dX8_isSo_56 : decode cX8_isSo 56 = .ok (.if_icmp .gt 25, 3) := by decide +kernel
theorem dX8_isSo_59 : decode cX8_isSo 59 = .ok (.iload_n 2, 1) := by decide +kernel
theorem dX8_isSo_60 : decode cX8_isSo 60 = .ok (.iconst 2, 1) := by decide +kernel
theorem dX8_isSo_61 : decode cX8_isSo 61 = .ok (.if_icmp .eq 8, 3) := by decide +kernel
theorem dX8_isSo_64 : decode cX8_isSo 64 = .ok (.iload_n 2, 1) := by decide +kernel
theorem dX8_isSo_65 : decode cX8_isSo 65 = .ok (.iconst 3, 1) := by decide +kernel
theorem dX8_isSo_66 : decode cX8_isSo 66 = .ok (.if_icmp .ne 11, 3) := by decide +kernel
theorem dX8_isSo_69 : decode cX8_isSo 69 = .ok (.aload_n 0, 1) := by decide +kernel
theorem dX8_isSo_70 : decode cX8_isSo 70 = .ok (.getfield 158, 3) := by decide +kernel
theorem dX8_isSo_73 : decode cX8_isSo 73 = .ok (.iconst 1, 1) := by decide +kernel
theorem dX8_isSo_74 : decode cX8_isSo 74 = .ok (.if_icmp .lt 7, 3) := by decide +kernel
theorem dX8_isSo_77 : decode cX8_isSo 77 = .ok (.iconst 1, 1) := by decide +kernel
theorem dX8_isSo_78 : decode cX8_isSo 78 = .ok (.goto 4, 3) := by decide +kernel
theorem dX8_isSo_81 : decode cX8_isSo 81 = .ok (.iconst 0, 1) := by decide +kernel
theorem dX8_isSo_82 : decode cX8_isSo 82 = .ok (.ireturn, 1) := by decide +kernel
theorem dX8_isSo_83 : decode cX8_isSo 83 = .ok (.iload_n 1, 1) := by decide +kernel
theorem dX8_isSo_84 : decode cX8_isSo 84 = .ok (.iconst 2, 1) := by decide +kernel
theorem dX8_isSo_85 : decode cX8_isSo 85 = .ok (.if_icmp .ne 26, 3) := by decide +kernel
theorem dX8_isSo_88 : decode cX8_isSo 88 = .ok (.iload_n 2, 1) := by decide +kernel
theorem dX8_isSo_89 : decode cX8_isSo 89 = .ok (.ifCond .ne 22, 3) := by decide +kernel
theorem dX8_isSo_92 : decode cX8_isSo 92 = .ok (.aload_n 0, 1) := by decide +kernel
theorem dX8_isSo_93 : decode cX8_isSo 93 = .ok (.getfield 158, 3) := by decide +kernel
theorem dX8_isSo_96 : decode cX8_isSo 96 = .ok (.aload_n 0, 1) := by decide +kernel
theorem dX8_isSo_97 : decode cX8_isSo 97 = .ok (.getfield 105, 3) := by decide +kernel
theorem dX8_isSo_100 : decode cX8_isSo 100 = .ok (.if_icmp .ge 7, 3) := by decide +kernel
theorem dX8_isSo_103 : decode cX8_isSo 103 = .ok (.iconst 1, 1) := by decide +kernel
theorem dX8_isSo_104 : decode cX8_isSo 104 = .ok (.goto 21, 3) := by decide +kernel
theorem dX8_isSo_107 : decode cX8_isSo 107 = .ok (.iconst 0, 1) := by decide +kernel
theorem dX8_isSo_108 : decode cX8_isSo 108 = .ok (.goto 17, 3) := by decide +kernel
theorem dX8_isSo_111 : decode cX8_isSo 111 = .ok (.aload_n 0, 1) := by decide +kernel
theorem dX8_isSo_112 : decode cX8_isSo 112 = .ok (.getfield 158, 3) := by decide +kernel
theorem dX8_isSo_115 : decode cX8_isSo 115 = .ok (.bipush 9, 2) := by decide +kernel
theorem dX8_isSo_117 : decode cX8_isSo 117 = .ok (.if_icmp .gt 7, 3) := by decide +kernel
theorem dX8_isSo_120 : decode cX8_isSo 120 = .ok (.iconst 1, 1) := by decide +kernel
theorem dX8_isSo_121 : decode cX8_isSo 121 = .ok (.goto 4, 3) := by decide +kernel
theorem dX8_isSo_124 : decode cX8_isSo 124 = .ok (.iconst 0, 1) := by decide +kernel
theorem dX8_isSo_125 : decode cX8_isSo 125 = .ok (.ireturn, 1) := by decide +kernel
theorem dX8_item_0 : decode cX8_item 0 = .ok (.aload_n 0, 1) := by decide +kernel
theorem dX8_item_1 : decode cX8_item 1 = .ok (.iconst 0, 1) := by decide +kernel
theorem dX8_item_2 : decode cX8_item 2 = .ok (.invokevirtual 168, 3) := by decide +kernel
theorem dX8_item_5 : decode cX8_item 5 = .ok (.ifCond .eq 12, 3) := by decide +kernel
theorem dX8_item_8 : decode cX8_item 8 = .ok (.aload_n 0, 1) := by decide +kernel
theorem dX8_item_9 : decode cX8_item 9 = .ok (.getfield 108, 3) := by decide +kernel
theorem dX8_item_12 : decode cX8_item 12 = .ok (.bipush 8, 2) := by decide +kernel
theorem dX8_item_14 : decode cX8_item 14 = .ok (.if_icmp .eq 20, 3) := by decide +kernel
theorem dX8_item_17 : decode cX8_item 17 = .ok (.aload_n 0, 1) := by decide +kernel
theorem dX8_item_18 : decode cX8_item 18 = .ok (.iconst 1, 1) := by decide +kernel
theorem dX8_item_19 : decode cX8_item 19 = .ok (.invokevirtual 168, 3) := by decide +kernel
theorem dX8_item_22 : decode cX8_item 22 = .ok (.ifCond .eq 21, 3) := by decide +kernel
theorem dX8_item_25 : decode cX8_item 25 = .ok (.aload_n 0, 1) := by decide +kernel
theorem dX8_item_26 : decode cX8_item 26 = .ok (.getfield 105, 3) := by decide +kernel
theorem dX8_item_29 : decode cX8_item 29 = .ok (.bipush 6, 2) := by decide +kernel
theorem dX8_item_31 : decode cX8_item 31 = .ok (.if_icmp .ne 12, 3) := by decide +kernel
theorem dX8_item_34 : decode cX8_item 34 = .ok (.aload_n 0, 1) := by decide +kernel
theorem dX8_item_35 : decode cX8_item 35 = .ok (.aload_n 0, 1) := by decide +kernel
theorem dX8_item_36 : decode cX8_item 36 = .ok (.getfield 149, 3) := by decide +kernel
theorem dX8_item_39 : decode cX8_item 39 = .ok (.invokevirtual 165, 3) := by decide +kernel
theorem dX8_item_42 : decode cX8_item 42 = .ok (.ireturn, 1) := by decide +kernel
theorem dX8_item_43 : decode cX8_item 43 = .ok (.aload_n 0, 1) := by decide +kernel
theorem dX8_item_44 : decode cX8_item 44 = .ok (.invokevirtual 171, 3) := by decide +kernel
theorem dX8_item_47 : decode cX8_item 47 = .ok (.istore_n 1, 1) := by decide +kernel
theorem dX8_item_48 : decode cX8_item 48 = .ok (.iload_n 1, 1) := by decide +kernel
theorem dX8_item_49 : decode cX8_item 49 = .ok (.iconst (-1), 1) := by decide +kernel
theorem dX8_item_50 : decode cX8_item 50 = .ok (.if_icmp .ne 5, 3) := by decide +kernel
theorem dX8_item_53 : decode cX8_item 53 = .ok (.iconst 0, 1) := by decide +kernel
theorem dX8_item_54 : decode cX8_item 54 = .ok (.ireturn, 1) := by decide +kernel
theorem dX8_item_55 : decode cX8_item 55 = .ok (.iconst 0, 1) := by decide +kernel
theorem dX8_item_56 : decode cX8_item 56 = .ok (.istore_n 2, 1) := by decide +kernel
theorem dX8_item_57 : decode cX8_item 57 = .ok (.iload_n 2, 1) := by decide +kernel
theorem dX8_item_58 : decode cX8_item 58 = .ok (.aload_n 0, 1) := by decide +kernel
theorem dX8_item_59 : decode cX8_item 59 = .ok (.getfield 81, 3) := by decide +kernel
theorem dX8_item_62 : decode cX8_item 62 = .ok (.iload_n 1, 1) := by decide +kernel
theorem dX8_item_63 : decode cX8_item 63 = .ok (.iaload, 1) := by decide +kernel
theorem dX8_item_64 : decode cX8_item 64 = .ok (.if_icmp .ge 102, 3) := by decide +kernel
theorem dX8_item_67 : decode cX8_item 67 = .ok (.iload_n 2, 1) := by decide +kernel
theorem dX8_item_68 : decode cX8_item 68 = .ok (.ifCond .le 53, 3) := by decide +kernel
theorem dX8_item_71 : decode cX8_item 71 = .ok (.aload_n 0, 1) := by decide +kernel
theorem dX8_item_72 : decode cX8_item 72 = .ok (.getfield 149, 3) := by decide +kernel
theorem dX8_item_75 : decode cX8_item 75 = .ok (.aload_n 0, 1) := by decide +kernel
theorem dX8_item_76 : decode cX8_item 76 = .ok (.getfield 152, 3) := by decide +kernel
theorem dX8_item_79 : decode cX8_item 79 = .ok (.if_icmp .ge 23, 3) := by decide +kernel
theorem dX8_item_82 : decode cX8_item 82 = .ok (.aload_n 0, 1) := by decide +kernel
theorem dX8_item_83 : decode cX8_item 83 = .ok (.getfield 71, 3) := by decide +kernel
theorem dX8_item_86 : decode cX8_item 86 = .ok (.aload_n 0, 1) := by decide +kernel
theorem dX8_item_87 : decode cX8_item 87 = .ok (.getfield 155, 3) := by decide +kernel
theorem dX8_item_90 : decode cX8_item 90 = .ok (.aload_n 0, 1) := by decide +kernel
theorem dX8_item_91 : decode cX8_item 91 = .ok (.getfield 149, 3) := by decide +kernel
theorem dX8_item_94 : decode cX8_item 94 = .ok (.iadd, 1) := by decide +kernel
theorem dX8_item_95 : decode cX8_item 95 = .ok (.laload, 1) := by decide +kernel
theorem dX8_item_96 : decode cX8_item 96 = .ok (.l2i, 1) := by decide +kernel
theorem dX8_item_97 : decode cX8_item 97 = .ok (.bipush 32, 2) := by decide +kernel
theorem dX8_item_99 : decode cX8_item 99 = .ok (.if_icmp .eq 12, 3) := by decide +kernel
theorem dX8_item_102 : decode cX8_item 102 = .ok (.aload_n 0, 1) := by decide +kernel
theorem dX8_item_103 : decode cX8_item 103 = .ok (.aload_n 0, 1) := by decide +kernel
theorem dX8_item_104 : decode cX8_item 104 = .ok (.getfield 149, 3) := by decide +kernel
theorem dX8_item_107 : decode cX8_item 107 = .ok (.invokevirtual 165, 3) := by decide +kernel
theorem dX8_item_110 : decode cX8_item 110 = .ok (.ireturn, 1) := by decide +kernel
theorem dX8_item_111 : decode cX8_item 111 = .ok (.aload_n 0, 1) := by decide +kernel
theorem dX8_item_112 : decode cX8_item 112 = .ok (.dup, 1) := by decide +kernel
theorem dX8_item_113 : decode cX8_item 113 = .ok (.getfield 149, 3) := by decide +kernel
theorem dX8_item_116 : decode cX8_item 116 = .ok (.iconst 1, 1) := by decide +kernel
theorem dX8_item_117 : decode cX8_item 117 = .ok (.iadd, 1) := by decide +kernel
theorem dX8_item_118 : decode cX8_item 118 = .ok (.putfield 149, 3) := by decide +kernel
theorem dX8_item_121 : decode cX8_item 121 = .ok (.aload_n 0, 1) := by decide +kernel
theorem dX8_item_122 : decode cX8_item 122 = .ok (.getfield 149, 3) := by decide +kernel
theorem dX8_item_125 : decode cX8_item 125 = .ok (.istore_n 3, 1) := by decide +kernel
theorem dX8_item_126 : decode cX8_item 126 = .ok (.aload_n 0, 1) := by decide +kernel
theorem dX8_item_127 : decode cX8_item 127 = .ok (.invokevirtual 175, 3) := by decide +kernel
theorem dX8_item_130 : decode cX8_item 130 = .ok (.ifCond .ne 5, 3) := by decide +kernel
theorem dX8_item_133 : decode cX8_item 133 = .ok (.iconst 0, 1) := by decide +kernel
theorem dX8_item_134 : decode cX8_item 134 = .ok (.ireturn, 1) := by decide +kernel
theorem dX8_item_135 : decode cX8_item 135 = .ok (.aload_n 0, 1) := by decide +kernel
theorem dX8_item_136 : decode cX8_item 136 = .ok (.iload_n 1, 1) := by decide +kernel
theorem dX8_item_137 : decode cX8_item 137 = .ok (.iload_n 2, 1) := by decide +kernel
theorem dX8_item_138 : decode cX8_item 138 = .ok (.invokevirtual 178, 3) := by decide +kernel
theorem dX8_item_141 : decode cX8_item 141 = .ok (.ifCond .ne 9, 3) := by decide +kernel
theorem dX8_item_144 : decode cX8_item 144 = .ok (.aload_n 0, 1) := by decide +kernel
theorem dX8_item_145 : decode cX8_item 145 = .ok (.iload_n 3, 1) := by decide +kernel
theorem dX8_item_146 : decode cX8_item 146 = .ok (.invokevirtual 165, 3) := by decide +kernel
theorem dX8_item_149 : decode cX8_item 149 = .ok (.ireturn, 1) := by decide +kernel
theorem dX8_item_150 : decode cX8_item 150 = .ok (.aload_n 0, 1) := by decide +kernel
theorem dX8_item_151 : decode cX8_item 151 = .ok (.getfield 90, 3) := by decide +kernel
theorem dX8_item_154 : decode cX8_item 154 = .ok (.iload_n 2, 1) := by decide +kernel
theorem dX8_item_155 : decode cX8_item 155 = .ok (.aload_n 0, 1) := by decide +kernel
theorem dX8_item_156 : decode cX8_item 156 = .ok (.getfield 158, 3) := by decide +kernel
theorem dX8_item_159 : decode cX8_item 159 = .ok (.iastore, 1) := by decide +kernel
theorem dX8_item_160 : decode cX8_item 160 = .ok (.iinc 2 1, 3) := by decide +kernel
theorem dX8_item_163 : decode cX8_item 163 = .ok (.goto (-106), 3) := by decide +kernel
theorem dX8_item_166 : decode cX8_item 166 = .ok (.iload_n 1, 1) := by decide +kernel
theorem dX8_item_167 : decode cX8_item 167 = .ok (.ifCond .ne 54, 3) := by decide +kernel
theorem dX8_item_170 : decode cX8_item 170 = .ok (.aload_n 0, 1) := by decide +kernel
theorem dX8_item_171 : decode cX8_item 171 = .ok (.aload_n 0, 1) := by decide +kernel
theorem dX8_item_172 : decode cX8_item 172 = .ok (.getfield 90, 3) := by decide +kernel
theorem dX8_item_175 : decode cX8_item 175 = .ok (.iconst 0, 1) := by decide +kernel
theorem dX8_item_176 : decode cX8_item 176 = .ok (.iaload, 1) := by decide +kernel
theorem dX8_item_177 : decode cX8_item 177 = .ok (.aload_n 0, 1) := by decide +kernel
theorem dX8_item_178 : decode cX8_item 178 = .ok (.getfield 90, 3) := by decide +kernel
theorem dX8_item_181 : decode cX8_item 181 = .ok (.iconst 1, 1) := by decide +kernel
theorem dX8_item_182 : decode cX8_item 182 = .ok (.iaload, 1) := by decide +kernel
theorem dX8_item_183 : decode cX8_item 183 = .ok (.aload_n 0, 1) := by decide +kernel
theorem dX8_item_184 : decode cX8_item 184 = .ok (.getfield 90, 3) := by decide +kernel
theorem dX8_item_187 : decode cX8_item 187 = .ok (.iconst 2, 1) := by decide +kernel
theorem dX8_item_188 : decode cX8_item 188 = .ok (.iaload, 1) := by decide +kernel
theorem dX8_item_189 : decode cX8_item 189 = .ok (.aload_n 0, 1) := by decide +kernel
theorem dX8_item_190 : decode cX8_item 190 = .ok (.getfield 90, 3) := by decide +kernel
theorem dX8_item_193 : decode cX8_item 193 = .ok (.iconst 3, 1) := by decide +kernel
theorem dX8_item_194 : decode cX8_item 194 = .ok (.iaload, 1) := by decide +kernel
theorem dX8_item_195 : decode cX8_item 195 = .ok (.aload_n 0, 1) := by decide +kernel
theorem dX8_item_196 : decode cX8_item 196 = .ok (.getfield 90, 3) := by decide +kernel
theorem dX8_item_199 : decode cX8_item 199 = .ok (.iconst 4, 1) := by decide +kernel
theorem dX8_item_200 : decode cX8_item 200 = .ok (.iaload, 1) := by decide +kernel
theorem dX8_item_201 : decode cX8_item 201 = .ok (.aload_n 0, 1) := by decide +kernel
theorem dX8_item_202 : decode cX8_item 202 = .ok (.getfield 90, 3) := by decide +kernel
theorem dX8_item_205 : decode cX8_item 205 = .ok (.iconst 5, 1) := by decide +kernel
theorem dX8_item_206 : decode cX8_item 206 = .ok (.iaload, 1) := by decide +kernel
theorem dX8_item_207 : decode cX8_item 207 = .ok (.aload_n 0, 1) := by decide +kernel
theorem dX8_item_208 : decode cX8_item 208 = .ok (.getfield 90, 3) := by decide +kernel
theorem dX8_item_211 : decode cX8_item 211 = .ok (.bipush 6, 2) := by decide +kernel
theorem dX8_item_213 : decode cX8_item 213 = .ok (.iaload, 1) := by decide +kernel
theorem dX8_item_214 : decode cX8_item 214 = .ok (.invokevirtual 126, 3) := by decide +kernel
theorem dX8_item_217 : decode cX8_item 217 = .ok (.pop, 1) := by decide +kernel
theorem dX8_item_218 : decode cX8_item 218 = .ok (.goto 81, 3) := by decide +kernel
theorem dX8_item_221 : decode cX8_item 221 = .ok (.iload_n 1, 1) := by decide +kernel
theorem dX8_item_222 : decode cX8_item 222 = .ok (.iconst 1, 1) := by decide +kernel
theorem dX8_item_223 : decode cX8_item 223 = .ok (.if_icmp .ne 41, 3) := by decide +kernel
theorem dX8_item_226 : decode cX8_item 226 = .ok (.aload_n 0, 1) := by decide +kernel
theorem dX8_item_227 : decode cX8_item 227 = .ok (.aload_n 0, 1) := by decide +kernel
theorem dX8_item_228 : decode cX8_item 228 = .ok (.getfield 90, 3) := by decide +kernel
theorem dX8_item_231 : decode cX8_item 231 = .ok (.iconst 0, 1) := by decide +kernel
theorem dX8_item_232 : decode cX8_item 232 = .ok (.iaload, 1) := by decide +kernel
theorem dX8_item_233 : decode cX8_item 233 = .ok (.aload_n 0, 1) := by decide +kernel
theorem dX8_item_234 : decode cX8_item 234 = .ok (.getfield 90, 3) := by decide +kernel
theorem dX8_item_237 : decode cX8_item 237 = .ok (.iconst 1, 1) := by decide +kernel
theorem dX8_item_238 : decode cX8_item 238 = .ok (.iaload, 1) := by decide +kernel
theorem dX8_item_239 : decode cX8_item 239 = .ok (.aload_n 0, 1) := by decide +kernel
theorem dX8_item_240 : decode cX8_item 240 = .ok (.getfield 90, 3) := by decide +kernel
theorem dX8_item_243 : decode cX8_item 243 = .ok (.iconst 2, 1) := by decide +kernel
theorem dX8_item_244 : decode cX8_item 244 = .ok (.iaload, 1) := by decide +kernel
theorem dX8_item_245 : decode cX8_item 245 = .ok (.aload_n 0, 1) := by decide +kernel
theorem dX8_item_246 : decode cX8_item 246 = .ok (.getfield 90, 3) := by decide +kernel
theorem dX8_item_249 : decode cX8_item 249 = .ok (.iconst 3, 1) := by decide +kernel
theorem dX8_item_250 : decode cX8_item 250 = .ok (.iaload, 1) := by decide +kernel
theorem dX8_item_251 : decode cX8_item 251 = .ok (.aload_n 0, 1) := by decide +kernel
theorem dX8_item_252 : decode cX8_item 252 = .ok (.getfield 90, 3) := by decide +kernel
theorem dX8_item_255 : decode cX8_item 255 = .ok (.iconst 4, 1) := by decide +kernel
theorem dX8_item_256 : decode cX8_item 256 = .ok (.iaload, 1) := by decide +kernel
theorem dX8_item_257 : decode cX8_item 257 = .ok (.invokevirtual 130, 3) := by decide +kernel
theorem dX8_item_260 : decode cX8_item 260 = .ok (.pop, 1) := by decide +kernel
theorem dX8_item_261 : decode cX8_item 261 = .ok (.goto 38, 3) := by decide +kernel
theorem dX8_item_264 : decode cX8_item 264 = .ok (.iload_n 1, 1) := by decide +kernel
theorem dX8_item_265 : decode cX8_item 265 = .ok (.iconst 2, 1) := by decide +kernel
theorem dX8_item_266 : decode cX8_item 266 = .ok (.if_icmp .ne 23, 3) := by decide +kernel
theorem dX8_item_269 : decode cX8_item 269 = .ok (.aload_n 0, 1) := by decide +kernel
theorem dX8_item_270 : decode cX8_item 270 = .ok (.getfield 35, 3) := by decide +kernel
theorem dX8_item_273 : decode cX8_item 273 = .ok (.aload_n 0, 1) := by decide +kernel
theorem dX8_item_274 : decode cX8_item 274 = .ok (.getfield 90, 3) := by decide +kernel
theorem dX8_item_277 : decode cX8_item 277 = .ok (.iconst 0, 1) := by decide +kernel
theorem dX8_item_278 : decode cX8_item 278 = .ok (.iaload, 1) := by decide +kernel
theorem dX8_item_279 : decode cX8_item 279 = .ok (.aload_n 0, 1) := by decide +kernel
theorem dX8_item_280 : decode cX8_item 280 = .ok (.getfield 90, 3) := by decide +kernel
theorem dX8_item_283 : decode cX8_item 283 = .ok (.iconst 1, 1) := by decide +kernel
theorem dX8_item_284 : decode cX8_item 284 = .ok (.iaload, 1) := by decide +kernel
theorem dX8_item_285 : decode cX8_item 285 = .ok (.iastore, 1) := by decide +kernel
theorem dX8_item_286 : decode cX8_item 286 = .ok (.goto 13, 3) := by decide +kernel
theorem dX8_item_289 : decode cX8_item 289 = .ok (.aload_n 0, 1) := by decide +kernel
theorem dX8_item_290 : decode cX8_item 290 = .ok (.aload_n 0, 1) := by decide +kernel
theorem dX8_item_291 : decode cX8_item 291 = .ok (.getfield 90, 3) := by decide +kernel
theorem dX8_item_294 : decode cX8_item 294 = .ok (.iconst 0, 1) := by decide +kernel
theorem dX8_item_295 : decode cX8_item 295 = .ok (.iaload, 1) := by decide +kernel
theorem dX8_item_296 : decode cX8_item 296 = .ok (.putfield 7, 3) := by decide +kernel
theorem dX8_item_299 : decode cX8_item 299 = .ok (.iconst 1, 1) := by decide +kernel
theorem dX8_item_300 : decode cX8_item 300 = .ok (.ireturn, 1) := by decide +kernel
theorem dX8_carries_0 : decode cX8_carries 0 = .ok (.iconst 0, 1) := by decide +kernel
theorem dX8_carries_1 : decode cX8_carries 1 = .ok (.istore 6, 2) := by decide +kernel
theorem dX8_carries_3 : decode cX8_carries 3 = .ok (.iload 6, 2) := by decide +kernel
theorem dX8_carries_5 : decode cX8_carries 5 = .ok (.iload_n 2, 1) := by decide +kernel
theorem dX8_carries_6 : decode cX8_carries 6 = .ok (.if_icmp .ge 39, 3) := by decide +kernel
theorem dX8_carries_9 : decode cX8_carries 9 = .ok (.iload 5, 2) := by decide +kernel
theorem dX8_carries_11 : decode cX8_carries 11 = .ok (.ifCond .eq 17, 3) := by decide +kernel
theorem dX8_carries_14 : decode cX8_carries 14 = .ok (.aload_n 1, 1) := by decide +kernel
theorem dX8_carries_15 : decode cX8_carries 15 = .ok (.iload 6, 2) := by decide +kernel
theorem dX8_carries_17 : decode cX8_carries 17 = .ok (.aload_n 3, 1) := by decide +kernel
theorem dX8_carries_18 : decode cX8_carries 18 = .ok (.iload 4, 2) := by decide +kernel
theorem dX8_carries_20 : decode cX8_carries 20 = .ok (.iload 6, 2) := by decide +kernel
theorem dX8_carries_22 : decode cX8_carries 22 = .ok (.iadd, 1) := by decide +kernel
theorem dX8_carries_23 : decode cX8_carries 23 = .ok (.iaload, 1) := by decide +kernel
theorem dX8_carries_24 : decode cX8_carries 24 = .ok (.iastore, 1) := by decide +kernel
theorem dX8_carries_25 : decode cX8_carries 25 = .ok (.goto 14, 3) := by decide +kernel
theorem dX8_carries_28 : decode cX8_carries 28 = .ok (.aload_n 3, 1) := by decide +kernel
theorem dX8_carries_29 : decode cX8_carries 29 = .ok (.iload 4, 2) := by decide +kernel
theorem dX8_carries_31 : decode cX8_carries 31 = .ok (.iload 6, 2) := by decide +kernel
theorem dX8_carries_33 : decode cX8_carries 33 = .ok (.iadd, 1) := by decide +kernel
theorem dX8_carries_34 : decode cX8_carries 34 = .ok (.aload_n 1, 1) := by decide +kernel
theorem dX8_carries_35 : decode cX8_carries 35 = .ok (.iload 6, 2) := by decide +kernel
theorem dX8_carries_37 : decode cX8_carries 37 = .ok (.iaload, 1) := by decide +kernel
theorem dX8_carries_38 : decode cX8_carries 38 = .ok (.iastore, 1) := by decide +kernel
theorem dX8_carries_39 : decode cX8_carries 39 = .ok (.iinc 6 1, 3) := by decide +kernel
theorem dX8_carries_42 : decode cX8_carries 42 = .ok (.goto (-39), 3) := by decide +kernel
theorem dX8_carries_45 : decode cX8_carries 45 = .ok (.iload 4, 2) := by decide +kernel
theorem dX8_carries_47 : decode cX8_carries 47 = .ok (.iload_n 2, 1) := by decide +kernel
theorem dX8_carries_48 : decode cX8_carries 48 = .ok (.iadd, 1) := by decide +kernel
theorem dX8_carries_49 : decode cX8_carries 49 = .ok (.ireturn, 1) := by decide +kernel
theorem dX8_all_0 : decode cX8_all 0 = .ok (.aload_n 0, 1) := by decide +kernel
theorem dX8_all_1 : decode cX8_all 1 = .ok (.aload_n 0, 1) := by decide +kernel
theorem dX8_all_2 : decode cX8_all 2 = .ok (.getfield 23, 3) := by decide +kernel
theorem dX8_all_5 : decode cX8_all 5 = .ok (.bipush 6, 2) := by decide +kernel
theorem dX8_all_7 : decode cX8_all 7 = .ok (.aload_n 1, 1) := by decide +kernel
theorem dX8_all_8 : decode cX8_all 8 = .ok (.iconst 0, 1) := by decide +kernel
theorem dX8_all_9 : decode cX8_all 9 = .ok (.iload_n 2, 1) := by decide +kernel
theorem dX8_all_10 : decode cX8_all 10 = .ok (.invokevirtual 182, 3) := by decide +kernel
theorem dX8_all_13 : decode cX8_all 13 = .ok (.istore_n 3, 1) := by decide +kernel
theorem dX8_all_14 : decode cX8_all 14 = .ok (.aload_n 0, 1) := by decide +kernel
theorem dX8_all_15 : decode cX8_all 15 = .ok (.aload_n 0, 1) := by decide +kernel
theorem dX8_all_16 : decode cX8_all 16 = .ok (.getfield 26, 3) := by decide +kernel
theorem dX8_all_19 : decode cX8_all 19 = .ok (.bipush 6, 2) := by decide +kernel
theorem dX8_all_21 : decode cX8_all 21 = .ok (.aload_n 1, 1) := by decide +kernel
theorem dX8_all_22 : decode cX8_all 22 = .ok (.iload_n 3, 1) := by decide +kernel
theorem dX8_all_23 : decode cX8_all 23 = .ok (.iload_n 2, 1) := by decide +kernel
theorem dX8_all_24 : decode cX8_all 24 = .ok (.invokevirtual 182, 3) := by decide +kernel
theorem dX8_all_27 : decode cX8_all 27 = .ok (.istore_n 3, 1) := by decide +kernel
theorem dX8_all_28 : decode cX8_all 28 = .ok (.aload_n 0, 1) := by decide +kernel
theorem dX8_all_29 : decode cX8_all 29 = .ok (.aload_n 0, 1) := by decide +kernel
theorem dX8_all_30 : decode cX8_all 30 = .ok (.getfield 29, 3) := by decide +kernel
theorem dX8_all_33 : decode cX8_all 33 = .ok (.bipush 6, 2) := by decide +kernel
theorem dX8_all_35 : decode cX8_all 35 = .ok (.aload_n 1, 1) := by decide +kernel
theorem dX8_all_36 : decode cX8_all 36 = .ok (.iload_n 3, 1) := by decide +kernel
theorem dX8_all_37 : decode cX8_all 37 = .ok (.iload_n 2, 1) := by decide +kernel
theorem dX8_all_38 : decode cX8_all 38 = .ok (.invokevirtual 182, 3) := by decide +kernel
theorem dX8_all_41 : decode cX8_all 41 = .ok (.istore_n 3, 1) := by decide +kernel
theorem dX8_all_42 : decode cX8_all 42 = .ok (.aload_n 0, 1) := by decide +kernel
theorem dX8_all_43 : decode cX8_all 43 = .ok (.aload_n 0, 1) := by decide +kernel
theorem dX8_all_44 : decode cX8_all 44 = .ok (.getfield 32, 3) := by decide +kernel
theorem dX8_all_47 : decode cX8_all 47 = .ok (.bipush 6, 2) := by decide +kernel
theorem dX8_all_49 : decode cX8_all 49 = .ok (.aload_n 1, 1) := by decide +kernel
theorem dX8_all_50 : decode cX8_all 50 = .ok (.iload_n 3, 1) := by decide +kernel
theorem dX8_all_51 : decode cX8_all 51 = .ok (.iload_n 2, 1) := by decide +kernel
theorem dX8_all_52 : decode cX8_all 52 = .ok (.invokevirtual 182, 3) := by decide +kernel
theorem dX8_all_55 : decode cX8_all 55 = .ok (.istore_n 3, 1) := by decide +kernel
theorem dX8_all_56 : decode cX8_all 56 = .ok (.aload_n 0, 1) := by decide +kernel
theorem dX8_all_57 : decode cX8_all 57 = .ok (.aload_n 0, 1) := by decide +kernel
theorem dX8_all_58 : decode cX8_all 58 = .ok (.getfield 35, 3) := by decide +kernel
theorem dX8_all_61 : decode cX8_all 61 = .ok (.bipush 6, 2) := by decide +kernel
theorem dX8_all_63 : decode cX8_all 63 = .ok (.aload_n 1, 1) := by decide +kernel
theorem dX8_all_64 : decode cX8_all 64 = .ok (.iload_n 3, 1) := by decide +kernel
theorem dX8_all_65 : decode cX8_all 65 = .ok (.iload_n 2, 1) := by decide +kernel
theorem dX8_all_66 : decode cX8_all 66 = .ok (.invokevirtual 182, 3) := by decide +kernel
theorem dX8_all_69 : decode cX8_all 69 = .ok (.istore_n 3, 1) := by decide +kernel
theorem dX8_all_70 : decode cX8_all 70 = .ok (.aload_n 0, 1) := by decide +kernel
theorem dX8_all_71 : decode cX8_all 71 = .ok (.aload_n 0, 1) := by decide +kernel
theorem dX8_all_72 : decode cX8_all 72 = .ok (.getfield 38, 3) := by decide +kernel
theorem dX8_all_75 : decode cX8_all 75 = .ok (.bipush 8, 2) := by decide +kernel
theorem dX8_all_77 : decode cX8_all 77 = .ok (.aload_n 1, 1) := by decide +kernel
theorem dX8_all_78 : decode cX8_all 78 = .ok (.iload_n 3, 1) := by decide +kernel
theorem dX8_all_79 : decode cX8_all 79 = .ok (.iload_n 2, 1) := by decide +kernel
theorem dX8_all_80 : decode cX8_all 80 = .ok (.invokevirtual 182, 3) := by decide +kernel
theorem dX8_all_83 : decode cX8_all 83 = .ok (.istore_n 3, 1) := by decide +kernel
theorem dX8_all_84 : decode cX8_all 84 = .ok (.aload_n 0, 1) := by decide +kernel
theorem dX8_all_85 : decode cX8_all 85 = .ok (.aload_n 0, 1) := by decide +kernel
theorem dX8_all_86 : decode cX8_all 86 = .ok (.getfield 41, 3) := by decide +kernel
theorem dX8_all_89 : decode cX8_all 89 = .ok (.bipush 8, 2) := by decide +kernel
theorem dX8_all_91 : decode cX8_all 91 = .ok (.aload_n 1, 1) := by decide +kernel
theorem dX8_all_92 : decode cX8_all 92 = .ok (.iload_n 3, 1) := by decide +kernel
theorem dX8_all_93 : decode cX8_all 93 = .ok (.iload_n 2, 1) := by decide +kernel
theorem dX8_all_94 : decode cX8_all 94 = .ok (.invokevirtual 182, 3) := by decide +kernel
theorem dX8_all_97 : decode cX8_all 97 = .ok (.istore_n 3, 1) := by decide +kernel
theorem dX8_all_98 : decode cX8_all 98 = .ok (.aload_n 0, 1) := by decide +kernel
theorem dX8_all_99 : decode cX8_all 99 = .ok (.aload_n 0, 1) := by decide +kernel
theorem dX8_all_100 : decode cX8_all 100 = .ok (.getfield 44, 3) := by decide +kernel
theorem dX8_all_103 : decode cX8_all 103 = .ok (.bipush 8, 2) := by decide +kernel
theorem dX8_all_105 : decode cX8_all 105 = .ok (.aload_n 1, 1) := by decide +kernel
theorem dX8_all_106 : decode cX8_all 106 = .ok (.iload_n 3, 1) := by decide +kernel
theorem dX8_all_107 : decode cX8_all 107 = .ok (.iload_n 2, 1) := by decide +kernel
theorem dX8_all_108 : decode cX8_all 108 = .ok (.invokevirtual 182, 3) := by decide +kernel
theorem dX8_all_111 : decode cX8_all 111 = .ok (.istore_n 3, 1) := by decide +kernel
theorem dX8_all_112 : decode cX8_all 112 = .ok (.aload_n 0, 1) := by decide +kernel
theorem dX8_all_113 : decode cX8_all 113 = .ok (.aload_n 0, 1) := by decide +kernel
theorem dX8_all_114 : decode cX8_all 114 = .ok (.getfield 47, 3) := by decide +kernel
theorem dX8_all_117 : decode cX8_all 117 = .ok (.bipush 8, 2) := by decide +kernel
theorem dX8_all_119 : decode cX8_all 119 = .ok (.aload_n 1, 1) := by decide +kernel
theorem dX8_all_120 : decode cX8_all 120 = .ok (.iload_n 3, 1) := by decide +kernel
theorem dX8_all_121 : decode cX8_all 121 = .ok (.iload_n 2, 1) := by decide +kernel
theorem dX8_all_122 : decode cX8_all 122 = .ok (.invokevirtual 182, 3) := by decide +kernel
theorem dX8_all_125 : decode cX8_all 125 = .ok (.istore_n 3, 1) := by decide +kernel
theorem dX8_all_126 : decode cX8_all 126 = .ok (.aload_n 0, 1) := by decide +kernel
theorem dX8_all_127 : decode cX8_all 127 = .ok (.aload_n 0, 1) := by decide +kernel
theorem dX8_all_128 : decode cX8_all 128 = .ok (.getfield 50, 3) := by decide +kernel
theorem dX8_all_131 : decode cX8_all 131 = .ok (.bipush 8, 2) := by decide +kernel
theorem dX8_all_133 : decode cX8_all 133 = .ok (.aload_n 1, 1) := by decide +kernel
theorem dX8_all_134 : decode cX8_all 134 = .ok (.iload_n 3, 1) := by decide +kernel
theorem dX8_all_135 : decode cX8_all 135 = .ok (.iload_n 2, 1) := by decide +kernel
theorem dX8_all_136 : decode cX8_all 136 = .ok (.invokevirtual 182, 3) := by decide +kernel
theorem dX8_all_139 : decode cX8_all 139 = .ok (.istore_n 3, 1) := by decide +kernel
theorem dX8_all_140 : decode cX8_all 140 = .ok (.aload_n 0, 1) := by decide +kernel
theorem dX8_all_141 : decode cX8_all 141 = .ok (.aload_n 0, 1) := by decide +kernel
theorem dX8_all_142 : decode cX8_all 142 = .ok (.getfield 53, 3) := by decide +kernel
theorem dX8_all_145 : decode cX8_all 145 = .ok (.bipush 8, 2) := by decide +kernel
theorem dX8_all_147 : decode cX8_all 147 = .ok (.aload_n 1, 1) := by decide +kernel
theorem dX8_all_148 : decode cX8_all 148 = .ok (.iload_n 3, 1) := by decide +kernel
theorem dX8_all_149 : decode cX8_all 149 = .ok (.iload_n 2, 1) := by decide +kernel
theorem dX8_all_150 : decode cX8_all 150 = .ok (.invokevirtual 182, 3) := by decide +kernel
theorem dX8_all_153 : decode cX8_all 153 = .ok (.istore_n 3, 1) := by decide +kernel
theorem dX8_all_154 : decode cX8_all 154 = .ok (.aload_n 0, 1) := by decide +kernel
theorem dX8_all_155 : decode cX8_all 155 = .ok (.aload_n 0, 1) := by decide +kernel
theorem dX8_all_156 : decode cX8_all 156 = .ok (.getfield 56, 3) := by decide +kernel
theorem dX8_all_159 : decode cX8_all 159 = .ok (.bipush 8, 2) := by decide +kernel
theorem dX8_all_161 : decode cX8_all 161 = .ok (.aload_n 1, 1) := by decide +kernel
theorem dX8_all_162 : decode cX8_all 162 = .ok (.iload_n 3, 1) := by decide +kernel
theorem dX8_all_163 : decode cX8_all 163 = .ok (.iload_n 2, 1) := by decide +kernel
theorem dX8_all_164 : decode cX8_all 164 = .ok (.invokevirtual 182, 3) := by decide +kernel
theorem dX8_all_167 : decode cX8_all 167 = .ok (.istore_n 3, 1) := by decide +kernel
theorem dX8_all_168 : decode cX8_all 168 = .ok (.iload_n 2, 1) := by decide +kernel
theorem dX8_all_169 : decode cX8_all 169 = .ok (.ifCond .eq 68, 3) := by decide +kernel
theorem dX8_all_172 : decode cX8_all 172 = .ok (.aload_n 0, 1) := by decide +kernel
theorem dX8_all_173 : decode cX8_all 173 = .ok (.aload_n 1, 1) := by decide +kernel
theorem dX8_all_174 : decode cX8_all 174 = .ok (.iload_n 3, 1) := by decide +kernel
theorem dX8_all_175 : decode cX8_all 175 = .ok (.iaload, 1) := by decide +kernel
theorem dX8_all_176 : decode cX8_all 176 = .ok (.putfield 105, 3) := by decide +kernel
theorem dX8_all_179 : decode cX8_all 179 = .ok (.aload_n 0, 1) := by decide +kernel
theorem dX8_all_180 : decode cX8_all 180 = .ok (.aload_n 1, 1) := by decide +kernel
theorem dX8_all_181 : decode cX8_all 181 = .ok (.iload_n 3, 1) := by decide +kernel
theorem dX8_all_182 : decode cX8_all 182 = .ok (.iconst 1, 1) := by decide +kernel
theorem dX8_all_183 : decode cX8_all 183 = .ok (.iadd, 1) := by decide +kernel
theorem dX8_all_184 : decode cX8_all 184 = .ok (.iaload, 1) := by decide +kernel
theorem dX8_all_185 : decode cX8_all 185 = .ok (.putfield 108, 3) := by decide +kernel
theorem dX8_all_188 : decode cX8_all 188 = .ok (.aload_n 0, 1) := by decide +kernel
theorem dX8_all_189 : decode cX8_all 189 = .ok (.aload_n 1, 1) := by decide +kernel
theorem dX8_all_190 : decode cX8_all 190 = .ok (.iload_n 3, 1) := by decide +kernel
theorem dX8_all_191 : decode cX8_all 191 = .ok (.iconst 2, 1) := by decide +kernel
theorem dX8_all_192 : decode cX8_all 192 = .ok (.iadd, 1) := by decide +kernel
theorem dX8_all_193 : decode cX8_all 193 = .ok (.iaload, 1) := by decide +kernel
theorem dX8_all_194 : decode cX8_all 194 = .ok (.putfield 7, 3) := by decide +kernel
theorem dX8_all_197 : decode cX8_all 197 = .ok (.aload_n 0, 1) := by decide +kernel
theorem dX8_all_198 : decode cX8_all 198 = .ok (.aload_n 1, 1) := by decide +kernel
theorem dX8_all_199 : decode cX8_all 199 = .ok (.iload_n 3, 1) := by decide +kernel
theorem dX8_all_200 : decode cX8_all 200 = .ok (.iconst 3, 1) := by decide +kernel
theorem dX8_all_201 : decode cX8_all 201 = .ok (.iadd, 1) := by decide +kernel
theorem dX8_all_202 : decode cX8_all 202 = .ok (.iaload, 1) := by decide +kernel
theorem dX8_all_203 : decode cX8_all 203 = .ok (.putfield 186, 3) := by decide +kernel
theorem dX8_all_206 : decode cX8_all 206 = .ok (.aload_n 0, 1) := by decide +kernel
theorem dX8_all_207 : decode cX8_all 207 = .ok (.aload_n 1, 1) := by decide +kernel
theorem dX8_all_208 : decode cX8_all 208 = .ok (.iload_n 3, 1) := by decide +kernel
theorem dX8_all_209 : decode cX8_all 209 = .ok (.iconst 4, 1) := by decide +kernel
theorem dX8_all_210 : decode cX8_all 210 = .ok (.iadd, 1) := by decide +kernel
theorem dX8_all_211 : decode cX8_all 211 = .ok (.iaload, 1) := by decide +kernel
theorem dX8_all_212 : decode cX8_all 212 = .ok (.putfield 189, 3) := by decide +kernel
theorem dX8_all_215 : decode cX8_all 215 = .ok (.aload_n 0, 1) := by decide +kernel
theorem dX8_all_216 : decode cX8_all 216 = .ok (.aload_n 1, 1) := by decide +kernel
theorem dX8_all_217 : decode cX8_all 217 = .ok (.iload_n 3, 1) := by decide +kernel
theorem dX8_all_218 : decode cX8_all 218 = .ok (.iconst 5, 1) := by decide +kernel
theorem dX8_all_219 : decode cX8_all 219 = .ok (.iadd, 1) := by decide +kernel
theorem dX8_all_220 : decode cX8_all 220 = .ok (.iaload, 1) := by decide +kernel
theorem dX8_all_221 : decode cX8_all 221 = .ok (.putfield 192, 3) := by decide +kernel
theorem dX8_all_224 : decode cX8_all 224 = .ok (.aload_n 0, 1) := by decide +kernel
theorem dX8_all_225 : decode cX8_all 225 = .ok (.aload_n 1, 1) := by decide +kernel
theorem dX8_all_226 : decode cX8_all 226 = .ok (.iload_n 3, 1) := by decide +kernel
theorem dX8_all_227 : decode cX8_all 227 = .ok (.bipush 6, 2) := by decide +kernel
theorem dX8_all_229 : decode cX8_all 229 = .ok (.iadd, 1) := by decide +kernel
theorem dX8_all_230 : decode cX8_all 230 = .ok (.iaload, 1) := by decide +kernel
theorem dX8_all_231 : decode cX8_all 231 = .ok (.putfield 13, 3) := by decide +kernel
theorem dX8_all_234 : decode cX8_all 234 = .ok (.goto 65, 3) := by decide +kernel
theorem dX8_all_237 : decode cX8_all 237 = .ok (.aload_n 1, 1) := by decide +kernel
theorem dX8_all_238 : decode cX8_all 238 = .ok (.iload_n 3, 1) := by decide +kernel
theorem dX8_all_239 : decode cX8_all 239 = .ok (.aload_n 0, 1) := by decide +kernel
theorem dX8_all_240 : decode cX8_all 240 = .ok (.getfield 105, 3) := by decide +kernel
theorem dX8_all_243 : decode cX8_all 243 = .ok (.iastore, 1) := by decide +kernel
theorem dX8_all_244 : decode cX8_all 244 = .ok (.aload_n 1, 1) := by decide +kernel
theorem dX8_all_245 : decode cX8_all 245 = .ok (.iload_n 3, 1) := by decide +kernel
theorem dX8_all_246 : decode cX8_all 246 = .ok (.iconst 1, 1) := by decide +kernel
theorem dX8_all_247 : decode cX8_all 247 = .ok (.iadd, 1) := by decide +kernel
theorem dX8_all_248 : decode cX8_all 248 = .ok (.aload_n 0, 1) := by decide +kernel
theorem dX8_all_249 : decode cX8_all 249 = .ok (.getfield 108, 3) := by decide +kernel
theorem dX8_all_252 : decode cX8_all 252 = .ok (.iastore, 1) := by decide +kernel
theorem dX8_all_253 : decode cX8_all 253 = .ok (.aload_n 1, 1) := by decide +kernel
theorem dX8_all_254 : decode cX8_all 254 = .ok (.iload_n 3, 1) := by decide +kernel
theorem dX8_all_255 : decode cX8_all 255 = .ok (.iconst 2, 1) := by decide +kernel
theorem dX8_all_256 : decode cX8_all 256 = .ok (.iadd, 1) := by decide +kernel
theorem dX8_all_257 : decode cX8_all 257 = .ok (.aload_n 0, 1) := by decide +kernel
theorem dX8_all_258 : decode cX8_all 258 = .ok (.getfield 7, 3) := by decide +kernel
theorem dX8_all_261 : decode cX8_all 261 = .ok (.iastore, 1) := by decide +kernel
theorem dX8_all_262 : decode cX8_all 262 = .ok (.aload_n 1, 1) := by decide +kernel
theorem dX8_all_263 : decode cX8_all 263 = .ok (.iload_n 3, 1) := by decide +kernel
theorem dX8_all_264 : decode cX8_all 264 = .ok (.iconst 3, 1) := by decide +kernel
theorem dX8_all_265 : decode cX8_all 265 = .ok (.iadd, 1) := by decide +kernel
theorem dX8_all_266 : decode cX8_all 266 = .ok (.aload_n 0, 1) := by decide +kernel
theorem dX8_all_267 : decode cX8_all 267 = .ok (.getfield 186, 3) := by decide +kernel
theorem dX8_all_270 : decode cX8_all 270 = .ok (.iastore, 1) := by decide +kernel
theorem dX8_all_271 : decode cX8_all 271 = .ok (.aload_n 1, 1) := by decide +kernel
theorem dX8_all_272 : decode cX8_all 272 = .ok (.iload_n 3, 1) := by decide +kernel
theorem dX8_all_273 : decode cX8_all 273 = .ok (.iconst 4, 1) := by decide +kernel
theorem dX8_all_274 : decode cX8_all 274 = .ok (.iadd, 1) := by decide +kernel
theorem dX8_all_275 : decode cX8_all 275 = .ok (.aload_n 0, 1) := by decide +kernel
theorem dX8_all_276 : decode cX8_all 276 = .ok (.getfield 189, 3) := by decide +kernel
theorem dX8_all_279 : decode cX8_all 279 = .ok (.iastore, 1) := by decide +kernel
theorem dX8_all_280 : decode cX8_all 280 = .ok (.aload_n 1, 1) := by decide +kernel
theorem dX8_all_281 : decode cX8_all 281 = .ok (.iload_n 3, 1) := by decide +kernel
theorem dX8_all_282 : decode cX8_all 282 = .ok (.iconst 5, 1) := by decide +kernel
theorem dX8_all_283 : decode cX8_all 283 = .ok (.iadd, 1) := by decide +kernel
theorem dX8_all_284 : decode cX8_all 284 = .ok (.aload_n 0, 1) := by decide +kernel
theorem dX8_all_285 : decode cX8_all 285 = .ok (.getfield 192, 3) := by decide +kernel
theorem dX8_all_288 : decode cX8_all 288 = .ok (.iastore, 1) := by decide +kernel
theorem dX8_all_289 : decode cX8_all 289 = .ok (.aload_n 1, 1) := by decide +kernel
theorem dX8_all_290 : decode cX8_all 290 = .ok (.iload_n 3, 1) := by decide +kernel
theorem dX8_all_291 : decode cX8_all 291 = .ok (.bipush 6, 2) := by decide +kernel
theorem dX8_all_293 : decode cX8_all 293 = .ok (.iadd, 1) := by decide +kernel
theorem dX8_all_294 : decode cX8_all 294 = .ok (.aload_n 0, 1) := by decide +kernel
theorem dX8_all_295 : decode cX8_all 295 = .ok (.getfield 13, 3) := by decide +kernel
theorem dX8_all_298 : decode cX8_all 298 = .ok (.iastore, 1) := by decide +kernel
theorem dX8_all_299 : decode cX8_all 299 = .ok (.return_, 1) := by decide +kernel
theorem dX8_guild_0 : decode cX8_guild 0 = .ok (.aload_n 0, 1) := by decide +kernel
theorem dX8_guild_1 : decode cX8_guild 1 = .ok (.iload_n 1, 1) := by decide +kernel
theorem dX8_guild_2 : decode cX8_guild 2 = .ok (.invokevirtual 195, 3) := by decide +kernel
theorem dX8_guild_5 : decode cX8_guild 5 = .ok (.istore_n 2, 1) := by decide +kernel
theorem dX8_guild_6 : decode cX8_guild 6 = .ok (.iload_n 2, 1) := by decide +kernel
theorem dX8_guild_7 : decode cX8_guild 7 = .ok (.ifCond .eq 9, 3) := by decide +kernel
theorem dX8_guild_10 : decode cX8_guild 10 = .ok (.aload_n 0, 1) := by decide +kernel
theorem dX8_guild_11 : decode cX8_guild 11 = .ok (.iload_n 2, 1) := by decide +kernel
theorem dX8_guild_12 : decode cX8_guild 12 = .ok (.invokevirtual 115, 3) := by decide +kernel
theorem dX8_guild_15 : decode cX8_guild 15 = .ok (.ireturn, 1) := by decide +kernel
theorem dX8_guild_16 : decode cX8_guild 16 = .ok (.aload_n 0, 1) := by decide +kernel
theorem dX8_guild_17 : decode cX8_guild 17 = .ok (.aload_n 0, 1) := by decide +kernel
theorem dX8_guild_18 : decode cX8_guild 18 = .ok (.getfield 93, 3) := by decide +kernel
theorem dX8_guild_21 : decode cX8_guild 21 = .ok (.iconst 0, 1) := by decide +kernel
theorem dX8_guild_22 : decode cX8_guild 22 = .ok (.invokevirtual 198, 3) := by decide +kernel
theorem dX8_guild_25 : decode cX8_guild 25 = .ok (.aload_n 0, 1) := by decide +kernel
theorem dX8_guild_26 : decode cX8_guild 26 = .ok (.sipush 160, 3) := by decide +kernel
theorem dX8_guild_29 : decode cX8_guild 29 = .ok (.iload_n 1, 1) := by decide +kernel
theorem dX8_guild_30 : decode cX8_guild 30 = .ok (.imul, 1) := by decide +kernel
theorem dX8_guild_31 : decode cX8_guild 31 = .ok (.putfield 155, 3) := by decide +kernel
theorem dX8_guild_34 : decode cX8_guild 34 = .ok (.aload_n 0, 1) := by decide +kernel
theorem dX8_guild_35 : decode cX8_guild 35 = .ok (.iconst 0, 1) := by decide +kernel
theorem dX8_guild_36 : decode cX8_guild 36 = .ok (.putfield 149, 3) := by decide +kernel
theorem dX8_guild_39 : decode cX8_guild 39 = .ok (.aload_n 0, 1) := by decide +kernel
theorem dX8_guild_40 : decode cX8_guild 40 = .ok (.aload_n 0, 1) := by decide +kernel
theorem dX8_guild_41 : decode cX8_guild 41 = .ok (.getfield 65, 3) := by decide +kernel
theorem dX8_guild_44 : decode cX8_guild 44 = .ok (.iload_n 1, 1) := by decide +kernel
theorem dX8_guild_45 : decode cX8_guild 45 = .ok (.iaload, 1) := by decide +kernel
theorem dX8_guild_46 : decode cX8_guild 46 = .ok (.putfield 152, 3) := by decide +kernel
theorem dX8_guild_49 : decode cX8_guild 49 = .ok (.aload_n 0, 1) := by decide +kernel
theorem dX8_guild_50 : decode cX8_guild 50 = .ok (.iconst (-1), 1) := by decide +kernel
theorem dX8_guild_51 : decode cX8_guild 51 = .ok (.putfield 16, 3) := by decide +kernel
theorem dX8_guild_54 : decode cX8_guild 54 = .ok (.iconst 1, 1) := by decide +kernel
theorem dX8_guild_55 : decode cX8_guild 55 = .ok (.istore_n 3, 1) := by decide +kernel
theorem dX8_guild_56 : decode cX8_guild 56 = .ok (.aload_n 0, 1) := by decide +kernel
theorem dX8_guild_57 : decode cX8_guild 57 = .ok (.invokevirtual 202, 3) := by decide +kernel
theorem dX8_guild_60 : decode cX8_guild 60 = .ok (.istore 4, 2) := by decide +kernel
theorem dX8_guild_62 : decode cX8_guild 62 = .ok (.iload 4, 2) := by decide +kernel
theorem dX8_guild_64 : decode cX8_guild 64 = .ok (.ifCond .eq 69, 3) := by decide +kernel
theorem dX8_guild_67 : decode cX8_guild 67 = .ok (.aload_n 0, 1) := by decide +kernel
theorem dX8_guild_68 : decode cX8_guild 68 = .ok (.getfield 149, 3) := by decide +kernel
theorem dX8_guild_71 : decode cX8_guild 71 = .ok (.aload_n 0, 1) := by decide +kernel
theorem dX8_guild_72 : decode cX8_guild 72 = .ok (.getfield 152, 3) := by decide +kernel
theorem dX8_guild_75 : decode cX8_guild 75 = .ok (.if_icmp .ge 58, 3) := by decide +kernel
theorem dX8_guild_78 : decode cX8_guild 78 = .ok (.aload_n 0, 1) := by decide +kernel
theorem dX8_guild_79 : decode cX8_guild 79 = .ok (.getfield 71, 3) := by decide +kernel
theorem dX8_guild_82 : decode cX8_guild 82 = .ok (.aload_n 0, 1) := by decide +kernel
theorem dX8_guild_83 : decode cX8_guild 83 = .ok (.getfield 155, 3) := by decide +kernel
theorem dX8_guild_86 : decode cX8_guild 86 = .ok (.aload_n 0, 1) := by decide +kernel
theorem dX8_guild_87 : decode cX8_guild 87 = .ok (.getfield 149, 3) := by decide +kernel
theorem dX8_guild_90 : decode cX8_guild 90 = .ok (.iadd, 1) := by decide +kernel
theorem dX8_guild_91 : decode cX8_guild 91 = .ok (.laload, 1) := by decide +kernel
theorem dX8_guild_92 : decode cX8_guild 92 = .ok (.l2i, 1) := by decide +kernel
theorem dX8_guild_93 : decode cX8_guild 93 = .ok (.bipush 59, 2) := by decide +kernel
theorem dX8_guild_95 : decode cX8_guild 95 = .ok (.if_icmp .eq 16, 3) := by decide +kernel
theorem dX8_guild_98 : decode cX8_guild 98 = .ok (.aload_n 0, 1) := by decide +kernel
theorem dX8_guild_99 : decode cX8_guild 99 = .ok (.aload_n 0, 1) := by decide +kernel
theorem dX8_guild_100 : decode cX8_guild 100 = .ok (.getfield 149, 3) := by decide +kernel
theorem dX8_guild_103 : decode cX8_guild 103 = .ok (.invokevirtual 165, 3) := by decide +kernel
theorem dX8_guild_106 : decode cX8_guild 106 = .ok (.istore 4, 2) := by decide +kernel
theorem dX8_guild_108 : decode cX8_guild 108 = .ok (.goto (-46), 3) := by decide +kernel
theorem dX8_guild_111 : decode cX8_guild 111 = .ok (.aload_n 0, 1) := by decide +kernel
theorem dX8_guild_112 : decode cX8_guild 112 = .ok (.dup, 1) := by decide +kernel
theorem dX8_guild_113 : decode cX8_guild 113 = .ok (.getfield 149, 3) := by decide +kernel
theorem dX8_guild_116 : decode cX8_guild 116 = .ok (.iconst 1, 1) := by decide +kernel
theorem dX8_guild_117 : decode cX8_guild 117 = .ok (.iadd, 1) := by decide +kernel
theorem dX8_guild_118 : decode cX8_guild 118 = .ok (.putfield 149, 3) := by decide +kernel
theorem dX8_guild_121 : decode cX8_guild 121 = .ok (.iinc 3 1, 3) := by decide +kernel
theorem dX8_guild_124 : decode cX8_guild 124 = .ok (.aload_n 0, 1) := by decide +kernel
theorem dX8_guild_125 : decode cX8_guild 125 = .ok (.invokevirtual 202, 3) := by decide +kernel
theorem dX8_guild_128 : decode cX8_guild 128 = .ok (.istore 4, 2) := by decide +kernel
theorem dX8_guild_130 : decode cX8_guild 130 = .ok (.goto (-68), 3) := by decide +kernel
theorem dX8_guild_133 : decode cX8_guild 133 = .ok (.iload 4, 2) := by decide +kernel
theorem dX8_guild_135 : decode cX8_guild 135 = .ok (.ifCond .eq 5, 3) := by decide +kernel
theorem dX8_guild_138 : decode cX8_guild 138 = .ok (.iload_n 3, 1) := by decide +kernel
theorem dX8_guild_139 : decode cX8_guild 139 = .ok (.ireturn, 1) := by decide +kernel
theorem dX8_guild_140 : decode cX8_guild 140 = .ok (.aload_n 0, 1) := by decide +kernel
theorem dX8_guild_141 : decode cX8_guild 141 = .ok (.aload_n 0, 1) := by decide +kernel
theorem dX8_guild_142 : decode cX8_guild 142 = .ok (.getfield 93, 3) := by decide +kernel
theorem dX8_guild_145 : decode cX8_guild 145 = .ok (.iconst 1, 1) := by decide +kernel
theorem dX8_guild_146 : decode cX8_guild 146 = .ok (.invokevirtual 198, 3) := by decide +kernel
theorem dX8_guild_149 : decode cX8_guild 149 = .ok (.aload_n 0, 1) := by decide +kernel
theorem dX8_guild_150 : decode cX8_guild 150 = .ok (.aload_n 0, 1) := by decide +kernel
theorem dX8_guild_151 : decode cX8_guild 151 = .ok (.getfield 146, 3) := by decide +kernel
theorem dX8_guild_154 : decode cX8_guild 154 = .ok (.putfield 16, 3) := by decide +kernel
theorem dX8_guild_157 : decode cX8_guild 157 = .ok (.aload_n 0, 1) := by decide +kernel
theorem dX8_guild_158 : decode cX8_guild 158 = .ok (.bipush (-6), 2) := by decide +kernel
theorem dX8_guild_160 : decode cX8_guild 160 = .ok (.invokevirtual 115, 3) := by decide +kernel
theorem dX8_guild_163 : decode cX8_guild 163 = .ok (.ireturn, 1) := by decide +kernel
theorem dX8_fault_0 : decode cX8_fault 0 = .ok (.aload_n 0, 1) := by decide +kernel
theorem dX8_fault_1 : decode cX8_fault 1 = .ok (.getfield 16, 3) := by decide +kernel
theorem dX8_fault_4 : decode cX8_fault 4 = .ok (.ireturn, 1) := by decide +kernel
theorem dX8_holding_0 : decode cX8_holding 0 = .ok (.aload_n 0, 1) := by decide +kernel
theorem dX8_holding_1 : decode cX8_holding 1 = .ok (.getfield 32, 3) := by decide +kernel
theorem dX8_holding_4 : decode cX8_holding 4 = .ok (.iload_n 1, 1) := by decide +kernel
theorem dX8_holding_5 : decode cX8_holding 5 = .ok (.iaload, 1) := by decide +kernel
theorem dX8_holding_6 : decode cX8_holding 6 = .ok (.istore_n 2, 1) := by decide +kernel
theorem dX8_holding_7 : decode cX8_holding 7 = .ok (.aload_n 0, 1) := by decide +kernel
theorem dX8_holding_8 : decode cX8_holding 8 = .ok (.getfield 23, 3) := by decide +kernel
theorem dX8_holding_11 : decode cX8_holding 11 = .ok (.iload_n 1, 1) := by decide +kernel
theorem dX8_holding_12 : decode cX8_holding 12 = .ok (.iaload, 1) := by decide +kernel
theorem dX8_holding_13 : decode cX8_holding 13 = .ok (.tableswitch 117 1 6 #[39, 52, 46, 94, 64, 103], 39) := by decide +kernel
theorem dX8_holding_52 : decode cX8_holding 52 = .ok (.iconst 2, 1) := by decide +kernel
theorem dX8_holding_53 : decode cX8_holding 53 = .ok (.iload_n 2, 1) := by decide +kernel
theorem dX8_holding_54 : decode cX8_holding 54 = .ok (.imul, 1) := by decide +kernel
theorem dX8_holding_55 : decode cX8_holding 55 = .ok (.istore_n 3, 1) := by decide +kernel
theorem dX8_holding_56 : decode cX8_holding 56 = .ok (.goto 76, 3) := by decide +kernel
theorem dX8_holding_59 : decode cX8_holding 59 = .ok (.bipush 24, 2) := by decide +kernel
theorem dX8_holding_61 : decode cX8_holding 61 = .ok (.istore_n 3, 1) := by decide +kernel
theorem dX8_holding_62 : decode cX8_holding 62 = .ok (.goto 70, 3) := by decide +kernel
theorem dX8_holding_65 : decode cX8_holding 65 = .ok (.iload_n 2, 1) := by decide +kernel
theorem dX8_holding_66 : decode cX8_holding 66 = .ok (.aload_n 0, 1) := by decide +kernel
theorem dX8_holding_67 : decode cX8_holding 67 = .ok (.getfield 26, 3) := by decide +kernel
theorem dX8_holding_70 : decode cX8_holding 70 = .ok (.iload_n 1, 1) := by decide +kernel
theorem dX8_holding_71 : decode cX8_holding 71 = .ok (.iaload, 1) := by decide +kernel
theorem dX8_holding_72 : decode cX8_holding 72 = .ok (.iadd, 1) := by decide +kernel
theorem dX8_holding_73 : decode cX8_holding 73 = .ok (.istore_n 3, 1) := by decide +kernel
theorem dX8_holding_74 : decode cX8_holding 74 = .ok (.goto 58, 3) := by decide +kernel
theorem dX8_holding_77 : decode cX8_holding 77 = .ok (.iload_n 2, 1) := by decide +kernel
theorem dX8_holding_78 : decode cX8_holding 78 = .ok (.aload_n 0, 1) := by decide +kernel
theorem dX8_holding_79 : decode cX8_holding 79 = .ok (.getfield 26, 3) := by decide +kernel
theorem dX8_holding_82 : decode cX8_holding 82 = .ok (.iload_n 1, 1) := by decide +kernel
theorem dX8_holding_83 : decode cX8_holding 83 = .ok (.iaload, 1) := by decide +kernel
theorem dX8_holding_84 : decode cX8_holding 84 = .ok (.iadd, 1) := by decide +kernel
theorem dX8_holding_85 : decode cX8_holding 85 = .ok (.iconst 1, 1) := by decide +kernel
theorem dX8_holding_86 : decode cX8_holding 86 = .ok (.if_icmp .le 16, 3) := by decide +kernel
theorem dX8_holding_89 : decode cX8_holding 89 = .ok (.iload_n 2, 1) := by decide +kernel
theorem dX8_holding_90 : decode cX8_holding 90 = .ok (.aload_n 0, 1) := by decide +kernel
theorem dX8_holding_91 : decode cX8_holding 91 = .ok (.getfield 26, 3) := by decide +kernel
theorem dX8_holding_94 : decode cX8_holding 94 = .ok (.iload_n 1, 1) := by decide +kernel
theorem dX8_holding_95 : decode cX8_holding 95 = .ok (.iaload, 1) := by decide +kernel
theorem dX8_holding_96 : decode cX8_holding 96 = .ok (.iadd, 1) := by decide +kernel
theorem dX8_holding_97 : decode cX8_holding 97 = .ok (.iconst 1, 1) := by decide +kernel
theorem dX8_holding_98 : decode cX8_holding 98 = .ok (.isub, 1) := by decide +kernel
theorem dX8_holding_99 : decode cX8_holding 99 = .ok (.goto 4, 3) := by decide +kernel
theorem dX8_holding_102 : decode cX8_holding 102 = .ok (.iconst 1, 1) := by decide +kernel
theorem dX8_holding_103 : decode cX8_holding 103 = .ok (.istore_n 3, 1) := by decide +kernel
theorem dX8_holding_104 : decode cX8_holding 104 = .ok (.goto 28, 3) := by decide +kernel
theorem dX8_holding_107 : decode cX8_holding 107 = .ok (.iload_n 2, 1) := by decide +kernel
theorem dX8_holding_108 : decode cX8_holding 108 = .ok (.iconst 1, 1) := by decide +kernel
theorem dX8_holding_109 : decode cX8_holding 109 = .ok (.iadd, 1) := by decide +kernel
theorem dX8_holding_110 : decode cX8_holding 110 = .ok (.iconst 2, 1) := by decide +kernel
theorem dX8_holding_111 : decode cX8_holding 111 = .ok (.idiv, 1) := by decide +kernel
theorem dX8_holding_112 : decode cX8_holding 112 = .ok (.istore_n 3, 1) := by decide +kernel
theorem dX8_holding_113 : decode cX8_holding 113 = .ok (.goto 19, 3) := by decide +kernel
theorem dX8_holding_116 : decode cX8_holding 116 = .ok (.iload_n 2, 1) := by decide +kernel
theorem dX8_holding_117 : decode cX8_holding 117 = .ok (.iconst 1, 1) := by decide +kernel
theorem dX8_holding_118 : decode cX8_holding 118 = .ok (.iadd, 1) := by decide +kernel
theorem dX8_holding_119 : decode cX8_holding 119 = .ok (.iconst 2, 1) := by decide +kernel
theorem dX8_holding_120 : decode cX8_holding 120 = .ok (.idiv, 1) := by decide +kernel
theorem dX8_holding_121 : decode cX8_holding 121 = .ok (.aload_n 0, 1) := by decide +kernel
theorem dX8_holding_122 : decode cX8_holding 122 = .ok (.getfield 7, 3) := by decide +kernel
theorem dX8_holding_125 : decode cX8_holding 125 = .ok (.iadd, 1) := by decide +kernel
theorem dX8_holding_126 : decode cX8_holding 126 = .ok (.istore_n 3, 1) := by decide +kernel
theorem dX8_holding_127 : decode cX8_holding 127 = .ok (.goto 5, 3) := by decide +kernel
theorem dX8_holding_130 : decode cX8_holding 130 = .ok (.iload_n 2, 1) := by decide +kernel
theorem dX8_holding_131 : decode cX8_holding 131 = .ok (.istore_n 3, 1) := by decide +kernel
theorem dX8_holding_132 : decode cX8_holding 132 = .ok (.iload_n 3, 1) := by decide +kernel
theorem dX8_holding_133 : decode cX8_holding 133 = .ok (.bipush 24, 2) := by decide +kernel
theorem dX8_holding_135 : decode cX8_holding 135 = .ok (.if_icmp .le 8, 3) := by decide +kernel
theorem dX8_holding_138 : decode cX8_holding 138 = .ok (.bipush 24, 2) := by decide +kernel
theorem dX8_holding_140 : decode cX8_holding 140 = .ok (.goto 4, 3) := by decide +kernel
theorem dX8_holding_143 : decode cX8_holding 143 = .ok (.iload_n 3, 1) := by decide +kernel
theorem dX8_holding_144 : decode cX8_holding 144 = .ok (.ireturn, 1) := by decide +kernel
theorem dX8_sees_0 : decode cX8_sees 0 = .ok (.aload_n 0, 1) := by decide +kernel
theorem dX8_sees_1 : decode cX8_sees 1 = .ok (.getfield 23, 3) := by decide +kernel
theorem dX8_sees_4 : decode cX8_sees 4 = .ok (.iload_n 1, 1) := by decide +kernel
theorem dX8_sees_5 : decode cX8_sees 5 = .ok (.iaload, 1) := by decide +kernel
theorem dX8_sees_6 : decode cX8_sees 6 = .ok (.iconst 3, 1) := by decide +kernel
theorem dX8_sees_7 : decode cX8_sees 7 = .ok (.if_icmp .ne 7, 3) := by decide +kernel
theorem dX8_sees_10 : decode cX8_sees 10 = .ok (.iconst 2, 1) := by decide +kernel
theorem dX8_sees_11 : decode cX8_sees 11 = .ok (.goto 29, 3) := by decide +kernel
theorem dX8_sees_14 : decode cX8_sees 14 = .ok (.aload_n 0, 1) := by decide +kernel
theorem dX8_sees_15 : decode cX8_sees 15 = .ok (.getfield 23, 3) := by decide +kernel
theorem dX8_sees_18 : decode cX8_sees 18 = .ok (.iload_n 1, 1) := by decide +kernel
theorem dX8_sees_19 : decode cX8_sees 19 = .ok (.iaload, 1) := by decide +kernel
theorem dX8_sees_20 : decode cX8_sees 20 = .ok (.iconst 1, 1) := by decide +kernel
theorem dX8_sees_21 : decode cX8_sees 21 = .ok (.if_icmp .eq 14, 3) := by decide +kernel
theorem dX8_sees_24 : decode cX8_sees 24 = .ok (.aload_n 0, 1) := by decide +kernel
theorem dX8_sees_25 : decode cX8_sees 25 = .ok (.getfield 23, 3) := by decide +kernel
theorem dX8_sees_28 : decode cX8_sees 28 = .ok (.iload_n 1, 1) := by decide +kernel
theorem dX8_sees_29 : decode cX8_sees 29 = .ok (.iaload, 1) := by decide +kernel
theorem dX8_sees_30 : decode cX8_sees 30 = .ok (.bipush 6, 2) := by decide +kernel
theorem dX8_sees_32 : decode cX8_sees 32 = .ok (.if_icmp .ne 7, 3) := by decide +kernel
theorem dX8_sees_35 : decode cX8_sees 35 = .ok (.iconst 1, 1) := by decide +kernel
theorem dX8_sees_36 : decode cX8_sees 36 = .ok (.goto 4, 3) := by decide +kernel
theorem dX8_sees_39 : decode cX8_sees 39 = .ok (.iconst 0, 1) := by decide +kernel
theorem dX8_sees_40 : decode cX8_sees 40 = .ok (.ireturn, 1) := by decide +kernel
theorem dX8_costs_0 : decode cX8_costs 0 = .ok (.iload_n 2, 1) := by decide +kernel
theorem dX8_costs_1 : decode cX8_costs 1 = .ok (.ifCond .ne 5, 3) := by decide +kernel
theorem dX8_costs_4 : decode cX8_costs 4 = .ok (.iconst 0, 1) := by decide +kernel
theorem dX8_costs_5 : decode cX8_costs 5 = .ok (.ireturn, 1) := by decide +kernel
theorem dX8_costs_6 : decode cX8_costs 6 = .ok (.aload_n 0, 1) := by decide +kernel
theorem dX8_costs_7 : decode cX8_costs 7 = .ok (.getfield 29, 3) := by decide +kernel
theorem dX8_costs_10 : decode cX8_costs 10 = .ok (.iload_n 1, 1) := by decide +kernel
theorem dX8_costs_11 : decode cX8_costs 11 = .ok (.iaload, 1) := by decide +kernel
theorem dX8_costs_12 : decode cX8_costs 12 = .ok (.istore_n 3, 1) := by decide +kernel
theorem dX8_costs_13 : decode cX8_costs 13 = .ok (.aload_n 0, 1) := by decide +kernel
theorem dX8_costs_14 : decode cX8_costs 14 = .ok (.getfield 26, 3) := by decide +kernel
theorem dX8_costs_17 : decode cX8_costs 17 = .ok (.iload_n 1, 1) := by decide +kernel
theorem dX8_costs_18 : decode cX8_costs 18 = .ok (.iaload, 1) := by decide +kernel
theorem dX8_costs_19 : decode cX8_costs 19 = .ok (.istore 4, 2) := by decide +kernel
theorem dX8_costs_21 : decode cX8_costs 21 = .ok (.iload_n 2, 1) := by decide +kernel
theorem dX8_costs_22 : decode cX8_costs 22 = .ok (.iload 4, 2) := by decide +kernel
theorem dX8_costs_24 : decode cX8_costs 24 = .ok (.if_icmp .le 10, 3) := by decide +kernel
theorem dX8_costs_27 : decode cX8_costs 27 = .ok (.iload_n 2, 1) := by decide +kernel
theorem dX8_costs_28 : decode cX8_costs 28 = .ok (.iload 4, 2) := by decide +kernel
theorem dX8_costs_30 : decode cX8_costs 30 = .ok (.isub, 1) := by decide +kernel
theorem dX8_costs_31 : decode cX8_costs 31 = .ok (.goto 4, 3) := by decide +kernel
theorem dX8_costs_34 : decode cX8_costs 34 = .ok (.iconst 0, 1) := by decide +kernel
theorem dX8_costs_35 : decode cX8_costs 35 = .ok (.istore 5, 2) := by decide +kernel
theorem dX8_costs_37 : decode cX8_costs 37 = .ok (.aload_n 0, 1) := by decide +kernel
theorem dX8_costs_38 : decode cX8_costs 38 = .ok (.getfield 23, 3) := by decide +kernel
theorem dX8_costs_41 : decode cX8_costs 41 = .ok (.iload_n 1, 1) := by decide +kernel
theorem dX8_costs_42 : decode cX8_costs 42 = .ok (.iaload, 1) := by decide +kernel
theorem dX8_costs_43 : decode cX8_costs 43 = .ok (.tableswitch 105 1 6 #[37, 70, 44, 88, 78, 93], 37) := by decide +kernel
theorem dX8_costs_80 : decode cX8_costs 80 = .ok (.iload_n 3, 1) := by decide +kernel
theorem dX8_costs_81 : decode cX8_costs 81 = .ok (.iload_n 2, 1) := by decide +kernel
theorem dX8_costs_82 : decode cX8_costs 82 = .ok (.imul, 1) := by decide +kernel
theorem dX8_costs_83 : decode cX8_costs 83 = .ok (.iload 4, 2) := by decide +kernel
theorem dX8_costs_85 : decode cX8_costs 85 = .ok (.iadd, 1) := by decide +kernel
theorem dX8_costs_86 : decode cX8_costs 86 = .ok (.ireturn, 1) := by decide +kernel
theorem dX8_costs_87 : decode cX8_costs 87 = .ok (.iload_n 3, 1) := by decide +kernel
theorem dX8_costs_88 : decode cX8_costs 88 = .ok (.iload_n 2, 1) := by decide +kernel
theorem dX8_costs_89 : decode cX8_costs 89 = .ok (.aload_n 0, 1) := by decide +kernel
theorem dX8_costs_90 : decode cX8_costs 90 = .ok (.getfield 32, 3) := by decide +kernel
theorem dX8_costs_93 : decode cX8_costs 93 = .ok (.iload_n 1, 1) := by decide +kernel
theorem dX8_costs_94 : decode cX8_costs 94 = .ok (.iaload, 1) := by decide +kernel
theorem dX8_costs_95 : decode cX8_costs 95 = .ok (.if_icmp .ge 7, 3) := by decide +kernel
theorem dX8_costs_98 : decode cX8_costs 98 = .ok (.iload_n 2, 1) := by decide +kernel
theorem dX8_costs_99 : decode cX8_costs 99 = .ok (.goto 9, 3) := by decide +kernel
theorem dX8_costs_102 : decode cX8_costs 102 = .ok (.aload_n 0, 1) := by decide +kernel
theorem dX8_costs_103 : decode cX8_costs 103 = .ok (.getfield 32, 3) := by decide +kernel
theorem dX8_costs_106 : decode cX8_costs 106 = .ok (.iload_n 1, 1) := by decide +kernel
theorem dX8_costs_107 : decode cX8_costs 107 = .ok (.iaload, 1) := by decide +kernel
theorem dX8_costs_108 : decode cX8_costs 108 = .ok (.imul, 1) := by decide +kernel
theorem dX8_costs_109 : decode cX8_costs 109 = .ok (.iload 4, 2) := by decide +kernel
theorem dX8_costs_111 : decode cX8_costs 111 = .ok (.iadd, 1) := by decide +kernel
theorem dX8_costs_112 : decode cX8_costs 112 = .ok (.ireturn, 1) := by decide +kernel
theorem dX8_costs_113 : decode cX8_costs 113 = .ok (.iload_n 3, 1) := by decide +kernel
theorem dX8_costs_114 : decode cX8_costs 114 = .ok (.iload_n 2, 1) := by decide +kernel
theorem dX8_costs_115 : decode cX8_costs 115 = .ok (.imul, 1) := by decide +kernel
theorem dX8_costs_116 : decode cX8_costs 116 = .ok (.iconst 1, 1) := by decide +kernel
theorem dX8_costs_117 : decode cX8_costs 117 = .ok (.iadd, 1) := by decide +kernel
theorem dX8_costs_118 : decode cX8_costs 118 = .ok (.iconst 2, 1) := by decide +kernel
theorem dX8_costs_119 : decode cX8_costs 119 = .ok (.idiv, 1) := by decide +kernel
theorem dX8_costs_120 : decode cX8_costs 120 = .ok (.ireturn, 1) := by decide +kernel
theorem dX8_costs_121 : decode cX8_costs 121 = .ok (.iload_n 3, 1) := by decide +kernel
theorem dX8_costs_122 : decode cX8_costs 122 = .ok (.iload_n 2, 1) := by decide +kernel
theorem dX8_costs_123 : decode cX8_costs 123 = .ok (.imul, 1) := by decide +kernel
theorem dX8_costs_124 : decode cX8_costs 124 = .ok (.iconst 1, 1) := by decide +kernel
theorem dX8_costs_125 : decode cX8_costs 125 = .ok (.iadd, 1) := by decide +kernel
theorem dX8_costs_126 : decode cX8_costs 126 = .ok (.iconst 2, 1) := by decide +kernel
theorem dX8_costs_127 : decode cX8_costs 127 = .ok (.idiv, 1) := by decide +kernel
theorem dX8_costs_128 : decode cX8_costs 128 = .ok (.iconst 1, 1) := by decide +kernel
theorem dX8_costs_129 : decode cX8_costs 129 = .ok (.iadd, 1) := by decide +kernel
theorem dX8_costs_130 : decode cX8_costs 130 = .ok (.ireturn, 1) := by decide +kernel
theorem dX8_costs_131 : decode cX8_costs 131 = .ok (.iload_n 3, 1) := by decide +kernel
theorem dX8_costs_132 : decode cX8_costs 132 = .ok (.iload 5, 2) := by decide +kernel
theorem dX8_costs_134 : decode cX8_costs 134 = .ok (.imul, 1) := by decide +kernel
theorem dX8_costs_135 : decode cX8_costs 135 = .ok (.ireturn, 1) := by decide +kernel
theorem dX8_costs_136 : decode cX8_costs 136 = .ok (.iload_n 3, 1) := by decide +kernel
theorem dX8_costs_137 : decode cX8_costs 137 = .ok (.iload 5, 2) := by decide +kernel
theorem dX8_costs_139 : decode cX8_costs 139 = .ok (.imul, 1) := by decide +kernel
theorem dX8_costs_140 : decode cX8_costs 140 = .ok (.aload_n 0, 1) := by decide +kernel
theorem dX8_costs_141 : decode cX8_costs 141 = .ok (.getfield 7, 3) := by decide +kernel
theorem dX8_costs_144 : decode cX8_costs 144 = .ok (.iload_n 2, 1) := by decide +kernel
theorem dX8_costs_145 : decode cX8_costs 145 = .ok (.imul, 1) := by decide +kernel
theorem dX8_costs_146 : decode cX8_costs 146 = .ok (.iadd, 1) := by decide +kernel
theorem dX8_costs_147 : decode cX8_costs 147 = .ok (.ireturn, 1) := by decide +kernel
theorem dX8_costs_148 : decode cX8_costs 148 = .ok (.iload_n 3, 1) := by decide +kernel
theorem dX8_costs_149 : decode cX8_costs 149 = .ok (.iload_n 2, 1) := by decide +kernel
theorem dX8_costs_150 : decode cX8_costs 150 = .ok (.imul, 1) := by decide +kernel
theorem dX8_costs_151 : decode cX8_costs 151 = .ok (.ireturn, 1) := by decide +kernel
theorem dX8_comesBy_0 : decode cX8_comesBy 0 = .ok (.iload_n 2, 1) := by decide +kernel
theorem dX8_comesBy_1 : decode cX8_comesBy 1 = .ok (.aload_n 0, 1) := by decide +kernel
theorem dX8_comesBy_2 : decode cX8_comesBy 2 = .ok (.getfield 41, 3) := by decide +kernel
theorem dX8_comesBy_5 : decode cX8_comesBy 5 = .ok (.iload_n 1, 1) := by decide +kernel
theorem dX8_comesBy_6 : decode cX8_comesBy 6 = .ok (.iaload, 1) := by decide +kernel
theorem dX8_comesBy_7 : decode cX8_comesBy 7 = .ok (.if_icmp .ge 7, 3) := by decide +kernel
theorem dX8_comesBy_10 : decode cX8_comesBy 10 = .ok (.iconst 0, 1) := by decide +kernel
theorem dX8_comesBy_11 : decode cX8_comesBy 11 = .ok (.goto 41, 3) := by decide +kernel
theorem dX8_comesBy_14 : decode cX8_comesBy 14 = .ok (.iload_n 2, 1) := by decide +kernel
theorem dX8_comesBy_15 : decode cX8_comesBy 15 = .ok (.aload_n 0, 1) := by decide +kernel
theorem dX8_comesBy_16 : decode cX8_comesBy 16 = .ok (.getfield 44, 3) := by decide +kernel
theorem dX8_comesBy_19 : decode cX8_comesBy 19 = .ok (.iload_n 1, 1) := by decide +kernel
theorem dX8_comesBy_20 : decode cX8_comesBy 20 = .ok (.iaload, 1) := by decide +kernel
theorem dX8_comesBy_21 : decode cX8_comesBy 21 = .ok (.if_icmp .le 21, 3) := by decide +kernel
theorem dX8_comesBy_24 : decode cX8_comesBy 24 = .ok (.aload_n 0, 1) := by decide +kernel
theorem dX8_comesBy_25 : decode cX8_comesBy 25 = .ok (.getfield 44, 3) := by decide +kernel
theorem dX8_comesBy_28 : decode cX8_comesBy 28 = .ok (.iload_n 1, 1) := by decide +kernel
theorem dX8_comesBy_29 : decode cX8_comesBy 29 = .ok (.iaload, 1) := by decide +kernel
theorem dX8_comesBy_30 : decode cX8_comesBy 30 = .ok (.aload_n 0, 1) := by decide +kernel
theorem dX8_comesBy_31 : decode cX8_comesBy 31 = .ok (.getfield 41, 3) := by decide +kernel
theorem dX8_comesBy_34 : decode cX8_comesBy 34 = .ok (.iload_n 1, 1) := by decide +kernel
theorem dX8_comesBy_35 : decode cX8_comesBy 35 = .ok (.iaload, 1) := by decide +kernel
theorem dX8_comesBy_36 : decode cX8_comesBy 36 = .ok (.isub, 1) := by decide +kernel
theorem dX8_comesBy_37 : decode cX8_comesBy 37 = .ok (.iconst 1, 1) := by decide +kernel
theorem dX8_comesBy_38 : decode cX8_comesBy 38 = .ok (.iadd, 1) := by decide +kernel
theorem dX8_comesBy_39 : decode cX8_comesBy 39 = .ok (.goto 13, 3) := by decide +kernel
theorem dX8_comesBy_42 : decode cX8_comesBy 42 = .ok (.iload_n 2, 1) := by decide +kernel
theorem dX8_comesBy_43 : decode cX8_comesBy 43 = .ok (.aload_n 0, 1) := by decide +kernel
theorem dX8_comesBy_44 : decode cX8_comesBy 44 = .ok (.getfield 41, 3) := by decide +kernel
theorem dX8_comesBy_47 : decode cX8_comesBy 47 = .ok (.iload_n 1, 1) := by decide +kernel
theorem dX8_comesBy_48 : decode cX8_comesBy 48 = .ok (.iaload, 1) := by decide +kernel
theorem dX8_comesBy_49 : decode cX8_comesBy 49 = .ok (.isub, 1) := by decide +kernel
theorem dX8_comesBy_50 : decode cX8_comesBy 50 = .ok (.iconst 1, 1) := by decide +kernel
theorem dX8_comesBy_51 : decode cX8_comesBy 51 = .ok (.iadd, 1) := by decide +kernel
theorem dX8_comesBy_52 : decode cX8_comesBy 52 = .ok (.ireturn, 1) := by decide +kernel
theorem dX8_cost_0 : decode cX8_cost 0 = .ok (.aload_n 0, 1) := by decide +kernel
theorem dX8_cost_1 : decode cX8_cost 1 = .ok (.iload_n 1, 1) := by decide +kernel
theorem dX8_cost_2 : decode cX8_cost 2 = .ok (.invokevirtual 119, 3) := by decide +kernel
theorem dX8_cost_5 : decode cX8_cost 5 = .ok (.ifCond .ne 9, 3) := by decide +kernel
theorem dX8_cost_8 : decode cX8_cost 8 = .ok (.aload_n 0, 1) := by decide +kernel
theorem dX8_cost_9 : decode cX8_cost 9 = .ok (.iconst (-1), 1) := by decide +kernel
theorem dX8_cost_10 : decode cX8_cost 10 = .ok (.invokevirtual 115, 3) := by decide +kernel
theorem dX8_cost_13 : decode cX8_cost 13 = .ok (.ireturn, 1) := by decide +kernel
theorem dX8_cost_14 : decode cX8_cost 14 = .ok (.aload_n 0, 1) := by decide +kernel
theorem dX8_cost_15 : decode cX8_cost 15 = .ok (.iload_n 2, 1) := by decide +kernel
theorem dX8_cost_16 : decode cX8_cost 16 = .ok (.iconst 0, 1) := by decide +kernel
theorem dX8_cost_17 : decode cX8_cost 17 = .ok (.bipush 24, 2) := by decide +kernel
theorem dX8_cost_19 : decode cX8_cost 19 = .ok (.invokevirtual 122, 3) := by decide +kernel
theorem dX8_cost_22 : decode cX8_cost 22 = .ok (.ifCond .eq 12, 3) := by decide +kernel
theorem dX8_cost_25 : decode cX8_cost 25 = .ok (.aload_n 0, 1) := by decide +kernel
theorem dX8_cost_26 : decode cX8_cost 26 = .ok (.iload_n 1, 1) := by decide +kernel
theorem dX8_cost_27 : decode cX8_cost 27 = .ok (.iload_n 2, 1) := by decide +kernel
theorem dX8_cost_28 : decode cX8_cost 28 = .ok (.invokevirtual 205, 3) := by decide +kernel
theorem dX8_cost_31 : decode cX8_cost 31 = .ok (.goto 9, 3) := by decide +kernel
theorem dX8_cost_34 : decode cX8_cost 34 = .ok (.aload_n 0, 1) := by decide +kernel
theorem dX8_cost_35 : decode cX8_cost 35 = .ok (.bipush (-6), 2) := by decide +kernel
theorem dX8_cost_37 : decode cX8_cost 37 = .ok (.invokevirtual 115, 3) := by decide +kernel
theorem dX8_cost_40 : decode cX8_cost 40 = .ok (.ireturn, 1) := by decide +kernel
theorem dX8_by_0 : decode cX8_by 0 = .ok (.aload_n 0, 1) := by decide +kernel
theorem dX8_by_1 : decode cX8_by 1 = .ok (.iload_n 1, 1) := by decide +kernel
theorem dX8_by_2 : decode cX8_by 2 = .ok (.invokevirtual 134, 3) := by decide +kernel
theorem dX8_by_5 : decode cX8_by 5 = .ok (.ifCond .ne 9, 3) := by decide +kernel
theorem dX8_by_8 : decode cX8_by 8 = .ok (.aload_n 0, 1) := by decide +kernel
theorem dX8_by_9 : decode cX8_by 9 = .ok (.iconst (-1), 1) := by decide +kernel
theorem dX8_by_10 : decode cX8_by 10 = .ok (.invokevirtual 115, 3) := by decide +kernel
theorem dX8_by_13 : decode cX8_by 13 = .ok (.ireturn, 1) := by decide +kernel
theorem dX8_by_14 : decode cX8_by 14 = .ok (.aload_n 0, 1) := by decide +kernel
theorem dX8_by_15 : decode cX8_by 15 = .ok (.iload_n 2, 1) := by decide +kernel
theorem dX8_by_16 : decode cX8_by 16 = .ok (.iconst 0, 1) := by decide +kernel
theorem dX8_by_17 : decode cX8_by 17 = .ok (.bipush 23, 2) := by decide +kernel
theorem dX8_by_19 : decode cX8_by 19 = .ok (.invokevirtual 122, 3) := by decide +kernel
theorem dX8_by_22 : decode cX8_by 22 = .ok (.ifCond .eq 12, 3) := by decide +kernel
theorem dX8_by_25 : decode cX8_by 25 = .ok (.aload_n 0, 1) := by decide +kernel
theorem dX8_by_26 : decode cX8_by 26 = .ok (.iload_n 1, 1) := by decide +kernel
theorem dX8_by_27 : decode cX8_by 27 = .ok (.iload_n 2, 1) := by decide +kernel
theorem dX8_by_28 : decode cX8_by 28 = .ok (.invokevirtual 209, 3) := by decide +kernel
theorem dX8_by_31 : decode cX8_by 31 = .ok (.goto 9, 3) := by decide +kernel
theorem dX8_by_34 : decode cX8_by 34 = .ok (.aload_n 0, 1) := by decide +kernel
theorem dX8_by_35 : decode cX8_by 35 = .ok (.bipush (-6), 2) := by decide +kernel
theorem dX8_by_37 : decode cX8_by 37 = .ok (.invokevirtual 115, 3) := by decide +kernel
theorem dX8_by_40 : decode cX8_by 40 = .ok (.ireturn, 1) := by decide +kernel
theorem dX8_stops_0 : decode cX8_stops 0 = .ok (.iconst (-1), 1) := by decide +kernel
theorem dX8_stops_1 : decode cX8_stops 1 = .ok (.istore_n 3, 1) := by decide +kernel
theorem dX8_stops_2 : decode cX8_stops 2 = .ok (.iconst 0, 1) := by decide +kernel
theorem dX8_stops_3 : decode cX8_stops 3 = .ok (.istore 4, 2) := by decide +kernel
theorem dX8_stops_5 : decode cX8_stops 5 = .ok (.aload_n 0, 1) := by decide +kernel
theorem dX8_stops_6 : decode cX8_stops 6 = .ok (.iconst 0, 1) := by decide +kernel
theorem dX8_stops_7 : decode cX8_stops 7 = .ok (.putfield 212, 3) := by decide +kernel
theorem dX8_stops_10 : decode cX8_stops 10 = .ok (.iconst 1, 1) := by decide +kernel
theorem dX8_stops_11 : decode cX8_stops 11 = .ok (.istore 5, 2) := by decide +kernel
theorem dX8_stops_13 : decode cX8_stops 13 = .ok (.iload 5, 2) := by decide +kernel
theorem dX8_stops_15 : decode cX8_stops 15 = .ok (.aload_n 0, 1) := by decide +kernel
theorem dX8_stops_16 : decode cX8_stops 16 = .ok (.iload_n 2, 1) := by decide +kernel
theorem dX8_stops_17 : decode cX8_stops 17 = .ok (.invokevirtual 140, 3) := by decide +kernel
theorem dX8_stops_20 : decode cX8_stops 20 = .ok (.if_icmp .gt 102, 3) := by decide +kernel
theorem dX8_stops_23 : decode cX8_stops 23 = .ok (.aload_n 0, 1) := by decide +kernel
theorem dX8_stops_24 : decode cX8_stops 24 = .ok (.getfield 41, 3) := by decide +kernel
theorem dX8_stops_27 : decode cX8_stops 27 = .ok (.iload_n 1, 1) := by decide +kernel
theorem dX8_stops_28 : decode cX8_stops 28 = .ok (.iaload, 1) := by decide +kernel
theorem dX8_stops_29 : decode cX8_stops 29 = .ok (.iload 5, 2) := by decide +kernel
theorem dX8_stops_31 : decode cX8_stops 31 = .ok (.iadd, 1) := by decide +kernel
theorem dX8_stops_32 : decode cX8_stops 32 = .ok (.iconst 1, 1) := by decide +kernel
theorem dX8_stops_33 : decode cX8_stops 33 = .ok (.isub, 1) := by decide +kernel
theorem dX8_stops_34 : decode cX8_stops 34 = .ok (.aload_n 0, 1) := by decide +kernel
theorem dX8_stops_35 : decode cX8_stops 35 = .ok (.getfield 44, 3) := by decide +kernel
theorem dX8_stops_38 : decode cX8_stops 38 = .ok (.iload_n 1, 1) := by decide +kernel
theorem dX8_stops_39 : decode cX8_stops 39 = .ok (.iaload, 1) := by decide +kernel
theorem dX8_stops_40 : decode cX8_stops 40 = .ok (.if_icmp .gt 82, 3) := by decide +kernel
theorem dX8_stops_43 : decode cX8_stops 43 = .ok (.iload 4, 2) := by decide +kernel
theorem dX8_stops_45 : decode cX8_stops 45 = .ok (.aload_n 0, 1) := by decide +kernel
theorem dX8_stops_46 : decode cX8_stops 46 = .ok (.iload_n 2, 1) := by decide +kernel
theorem dX8_stops_47 : decode cX8_stops 47 = .ok (.iload 5, 2) := by decide +kernel
theorem dX8_stops_49 : decode cX8_stops 49 = .ok (.invokevirtual 205, 3) := by decide +kernel
theorem dX8_stops_52 : decode cX8_stops 52 = .ok (.iadd, 1) := by decide +kernel
theorem dX8_stops_53 : decode cX8_stops 53 = .ok (.istore 4, 2) := by decide +kernel
theorem dX8_stops_55 : decode cX8_stops 55 = .ok (.aload_n 0, 1) := by decide +kernel
theorem dX8_stops_56 : decode cX8_stops 56 = .ok (.getfield 50, 3) := by decide +kernel
theorem dX8_stops_59 : decode cX8_stops 59 = .ok (.iload_n 1, 1) := by decide +kernel
theorem dX8_stops_60 : decode cX8_stops 60 = .ok (.iaload, 1) := by decide +kernel
theorem dX8_stops_61 : decode cX8_stops 61 = .ok (.iload 5, 2) := by decide +kernel
theorem dX8_stops_63 : decode cX8_stops 63 = .ok (.imul, 1) := by decide +kernel
theorem dX8_stops_64 : decode cX8_stops 64 = .ok (.iload 4, 2) := by decide +kernel
theorem dX8_stops_66 : decode cX8_stops 66 = .ok (.isub, 1) := by decide +kernel
theorem dX8_stops_67 : decode cX8_stops 67 = .ok (.aload_n 0, 1) := by decide +kernel
theorem dX8_stops_68 : decode cX8_stops 68 = .ok (.iload_n 1, 1) := by decide +kernel
theorem dX8_stops_69 : decode cX8_stops 69 = .ok (.invokevirtual 137, 3) := by decide +kernel
theorem dX8_stops_72 : decode cX8_stops 72 = .ok (.iload 5, 2) := by decide +kernel
theorem dX8_stops_74 : decode cX8_stops 74 = .ok (.isub, 1) := by decide +kernel
theorem dX8_stops_75 : decode cX8_stops 75 = .ok (.aload_n 0, 1) := by decide +kernel
theorem dX8_stops_76 : decode cX8_stops 76 = .ok (.iload_n 2, 1) := by decide +kernel
theorem dX8_stops_77 : decode cX8_stops 77 = .ok (.iload 5, 2) := by decide +kernel
theorem dX8_stops_79 : decode cX8_stops 79 = .ok (.invokevirtual 205, 3) := by decide +kernel
theorem dX8_stops_82 : decode cX8_stops 82 = .ok (.imul, 1) := by decide +kernel
theorem dX8_stops_83 : decode cX8_stops 83 = .ok (.isub, 1) := by decide +kernel
theorem dX8_stops_84 : decode cX8_stops 84 = .ok (.istore 6, 2) := by decide +kernel
theorem dX8_stops_86 : decode cX8_stops 86 = .ok (.iload 6, 2) := by decide +kernel
theorem dX8_stops_88 : decode cX8_stops 88 = .ok (.aload_n 0, 1) := by decide +kernel
theorem dX8_stops_89 : decode cX8_stops 89 = .ok (.getfield 212, 3) := by decide +kernel
theorem dX8_stops_92 : decode cX8_stops 92 = .ok (.if_icmp .gt 6, 3) := by decide +kernel
theorem dX8_stops_95 : decode cX8_stops 95 = .ok (.goto 21, 3) := by decide +kernel
theorem dX8_stops_98 : decode cX8_stops 98 = .ok (.aload_n 0, 1) := by decide +kernel
theorem dX8_stops_99 : decode cX8_stops 99 = .ok (.getfield 41, 3) := by decide +kernel
theorem dX8_stops_102 : decode cX8_stops 102 = .ok (.iload_n 1, 1) := by decide +kernel
theorem dX8_stops_103 : decode cX8_stops 103 = .ok (.iaload, 1) := by decide +kernel
theorem dX8_stops_104 : decode cX8_stops 104 = .ok (.iload 5, 2) := by decide +kernel
theorem dX8_stops_106 : decode cX8_stops 106 = .ok (.iadd, 1) := by decide +kernel
theorem dX8_stops_107 : decode cX8_stops 107 = .ok (.iconst 1, 1) := by decide +kernel
theorem dX8_stops_108 : decode cX8_stops 108 = .ok (.isub, 1) := by decide +kernel
theorem dX8_stops_109 : decode cX8_stops 109 = .ok (.istore_n 3, 1) := by decide +kernel
theorem dX8_stops_110 : decode cX8_stops 110 = .ok (.aload_n 0, 1) := by decide +kernel
theorem dX8_stops_111 : decode cX8_stops 111 = .ok (.iload 6, 2) := by decide +kernel
theorem dX8_stops_113 : decode cX8_stops 113 = .ok (.putfield 212, 3) := by decide +kernel
theorem dX8_stops_116 : decode cX8_stops 116 = .ok (.iinc 5 1, 3) := by decide +kernel
theorem dX8_stops_119 : decode cX8_stops 119 = .ok (.goto (-106), 3) := by decide +kernel
theorem dX8_stops_122 : decode cX8_stops 122 = .ok (.iload_n 3, 1) := by decide +kernel
theorem dX8_stops_123 : decode cX8_stops 123 = .ok (.ireturn, 1) := by decide +kernel
theorem dX8_stop_0 : decode cX8_stop 0 = .ok (.aload_n 0, 1) := by decide +kernel
theorem dX8_stop_1 : decode cX8_stop 1 = .ok (.iload_n 1, 1) := by decide +kernel
theorem dX8_stop_2 : decode cX8_stop 2 = .ok (.invokevirtual 134, 3) := by decide +kernel
theorem dX8_stop_5 : decode cX8_stop 5 = .ok (.ifCond .eq 11, 3) := by decide +kernel
theorem dX8_stop_8 : decode cX8_stop 8 = .ok (.aload_n 0, 1) := by decide +kernel
theorem dX8_stop_9 : decode cX8_stop 9 = .ok (.iload_n 2, 1) := by decide +kernel
theorem dX8_stop_10 : decode cX8_stop 10 = .ok (.invokevirtual 119, 3) := by decide +kernel
theorem dX8_stop_13 : decode cX8_stop 13 = .ok (.ifCond .ne 9, 3) := by decide +kernel
theorem dX8_stop_16 : decode cX8_stop 16 = .ok (.aload_n 0, 1) := by decide +kernel
theorem dX8_stop_17 : decode cX8_stop 17 = .ok (.iconst (-1), 1) := by decide +kernel
theorem dX8_stop_18 : decode cX8_stop 18 = .ok (.invokevirtual 215, 3) := by decide +kernel
theorem dX8_stop_21 : decode cX8_stop 21 = .ok (.ireturn, 1) := by decide +kernel
theorem dX8_stop_22 : decode cX8_stop 22 = .ok (.iload_n 3, 1) := by decide +kernel
theorem dX8_stop_23 : decode cX8_stop 23 = .ok (.ifCond .lt 8, 3) := by decide +kernel
theorem dX8_stop_26 : decode cX8_stop 26 = .ok (.iload_n 3, 1) := by decide +kernel
theorem dX8_stop_27 : decode cX8_stop 27 = .ok (.iconst 1, 1) := by decide +kernel
theorem dX8_stop_28 : decode cX8_stop 28 = .ok (.if_icmp .le 10, 3) := by decide +kernel
theorem dX8_stop_31 : decode cX8_stop 31 = .ok (.aload_n 0, 1) := by decide +kernel
theorem dX8_stop_32 : decode cX8_stop 32 = .ok (.bipush (-5), 2) := by decide +kernel
theorem dX8_stop_34 : decode cX8_stop 34 = .ok (.invokevirtual 215, 3) := by decide +kernel
theorem dX8_stop_37 : decode cX8_stop 37 = .ok (.ireturn, 1) := by decide +kernel
theorem dX8_stop_38 : decode cX8_stop 38 = .ok (.aload_n 0, 1) := by decide +kernel
theorem dX8_stop_39 : decode cX8_stop 39 = .ok (.iload_n 1, 1) := by decide +kernel
theorem dX8_stop_40 : decode cX8_stop 40 = .ok (.iload_n 2, 1) := by decide +kernel
theorem dX8_stop_41 : decode cX8_stop 41 = .ok (.invokevirtual 218, 3) := by decide +kernel
theorem dX8_stop_44 : decode cX8_stop 44 = .ok (.istore 4, 2) := by decide +kernel
theorem dX8_stop_46 : decode cX8_stop 46 = .ok (.iload_n 3, 1) := by decide +kernel
theorem dX8_stop_47 : decode cX8_stop 47 = .ok (.ifCond .ne 8, 3) := by decide +kernel
theorem dX8_stop_50 : decode cX8_stop 50 = .ok (.iload 4, 2) := by decide +kernel
theorem dX8_stop_52 : decode cX8_stop 52 = .ok (.goto 7, 3) := by decide +kernel
theorem dX8_stop_55 : decode cX8_stop 55 = .ok (.aload_n 0, 1) := by decide +kernel
theorem dX8_stop_56 : decode cX8_stop 56 = .ok (.getfield 212, 3) := by decide +kernel
theorem dX8_stop_59 : decode cX8_stop 59 = .ok (.ireturn, 1) := by decide +kernel
theorem dX8_best_0 : decode cX8_best 0 = .ok (.aload_n 0, 1) := by decide +kernel
theorem dX8_best_1 : decode cX8_best 1 = .ok (.iload_n 1, 1) := by decide +kernel
theorem dX8_best_2 : decode cX8_best 2 = .ok (.invokevirtual 134, 3) := by decide +kernel
theorem dX8_best_5 : decode cX8_best 5 = .ok (.ifCond .ne 9, 3) := by decide +kernel
theorem dX8_best_8 : decode cX8_best 8 = .ok (.aload_n 0, 1) := by decide +kernel
theorem dX8_best_9 : decode cX8_best 9 = .ok (.iconst (-1), 1) := by decide +kernel
theorem dX8_best_10 : decode cX8_best 10 = .ok (.invokevirtual 215, 3) := by decide +kernel
theorem dX8_best_13 : decode cX8_best 13 = .ok (.ireturn, 1) := by decide +kernel
theorem dX8_best_14 : decode cX8_best 14 = .ok (.iconst (-1), 1) := by decide +kernel
theorem dX8_best_15 : decode cX8_best 15 = .ok (.istore_n 2, 1) := by decide +kernel
theorem dX8_best_16 : decode cX8_best 16 = .ok (.iconst 0, 1) := by decide +kernel
theorem dX8_best_17 : decode cX8_best 17 = .ok (.istore_n 3, 1) := by decide +kernel
theorem dX8_best_18 : decode cX8_best 18 = .ok (.iconst 0, 1) := by decide +kernel
theorem dX8_best_19 : decode cX8_best 19 = .ok (.istore 4, 2) := by decide +kernel
theorem dX8_best_21 : decode cX8_best 21 = .ok (.iload 4, 2) := by decide +kernel
theorem dX8_best_23 : decode cX8_best 23 = .ok (.aload_n 0, 1) := by decide +kernel
theorem dX8_best_24 : decode cX8_best 24 = .ok (.getfield 105, 3) := by decide +kernel
theorem dX8_best_27 : decode cX8_best 27 = .ok (.if_icmp .ge 36, 3) := by decide +kernel
theorem dX8_best_30 : decode cX8_best 30 = .ok (.aload_n 0, 1) := by decide +kernel
theorem dX8_best_31 : decode cX8_best 31 = .ok (.iload_n 1, 1) := by decide +kernel
theorem dX8_best_32 : decode cX8_best 32 = .ok (.iload 4, 2) := by decide +kernel
theorem dX8_best_34 : decode cX8_best 34 = .ok (.invokevirtual 218, 3) := by decide +kernel
theorem dX8_best_37 : decode cX8_best 37 = .ok (.pop, 1) := by decide +kernel
theorem dX8_best_38 : decode cX8_best 38 = .ok (.aload_n 0, 1) := by decide +kernel
theorem dX8_best_39 : decode cX8_best 39 = .ok (.getfield 212, 3) := by decide +kernel
theorem dX8_best_42 : decode cX8_best 42 = .ok (.iload_n 3, 1) := by decide +kernel
theorem dX8_best_43 : decode cX8_best 43 = .ok (.if_icmp .gt 6, 3) := by decide +kernel
theorem dX8_best_46 : decode cX8_best 46 = .ok (.goto 11, 3) := by decide +kernel
theorem dX8_best_49 : decode cX8_best 49 = .ok (.iload 4, 2) := by decide +kernel
theorem dX8_best_51 : decode cX8_best 51 = .ok (.istore_n 2, 1) := by decide +kernel
theorem dX8_best_52 : decode cX8_best 52 = .ok (.aload_n 0, 1) := by decide +kernel
theorem dX8_best_53 : decode cX8_best 53 = .ok (.getfield 212, 3) := by decide +kernel
theorem dX8_best_56 : decode cX8_best 56 = .ok (.istore_n 3, 1) := by decide +kernel
theorem dX8_best_57 : decode cX8_best 57 = .ok (.iinc 4 1, 3) := by decide +kernel
theorem dX8_best_60 : decode cX8_best 60 = .ok (.goto (-39), 3) := by decide +kernel
theorem dX8_best_63 : decode cX8_best 63 = .ok (.iload_n 2, 1) := by decide +kernel
theorem dX8_best_64 : decode cX8_best 64 = .ok (.ireturn, 1) := by decide +kernel
theorem dX8_lays_0 : decode cX8_lays 0 = .ok (.iconst 0, 1) := by decide +kernel
theorem dX8_lays_1 : decode cX8_lays 1 = .ok (.istore_n 2, 1) := by decide +kernel
theorem dX8_lays_2 : decode cX8_lays 2 = .ok (.iload_n 2, 1) := by decide +kernel
theorem dX8_lays_3 : decode cX8_lays 3 = .ok (.iload_n 1, 1) := by decide +kernel
theorem dX8_lays_4 : decode cX8_lays 4 = .ok (.if_icmp .gt 32, 3) := by decide +kernel
theorem dX8_lays_7 : decode cX8_lays 7 = .ok (.aload_n 0, 1) := by decide +kernel
theorem dX8_lays_8 : decode cX8_lays 8 = .ok (.getfield 99, 3) := by decide +kernel
theorem dX8_lays_11 : decode cX8_lays 11 = .ok (.bipush 25, 2) := by decide +kernel
theorem dX8_lays_13 : decode cX8_lays 13 = .ok (.aload_n 0, 1) := by decide +kernel
theorem dX8_lays_14 : decode cX8_lays 14 = .ok (.getfield 105, 3) := by decide +kernel
theorem dX8_lays_17 : decode cX8_lays 17 = .ok (.imul, 1) := by decide +kernel
theorem dX8_lays_18 : decode cX8_lays 18 = .ok (.iload_n 2, 1) := by decide +kernel
theorem dX8_lays_19 : decode cX8_lays 19 = .ok (.iadd, 1) := by decide +kernel
theorem dX8_lays_20 : decode cX8_lays 20 = .ok (.iload_n 2, 1) := by decide +kernel
theorem dX8_lays_21 : decode cX8_lays 21 = .ok (.ifCond .ne 7, 3) := by decide +kernel
theorem dX8_lays_24 : decode cX8_lays 24 = .ok (.iconst 0, 1) := by decide +kernel
theorem dX8_lays_25 : decode cX8_lays 25 = .ok (.goto 4, 3) := by decide +kernel
theorem dX8_lays_28 : decode cX8_lays 28 = .ok (.iconst (-1), 1) := by decide +kernel
theorem dX8_lays_29 : decode cX8_lays 29 = .ok (.iastore, 1) := by decide +kernel
theorem dX8_lays_30 : decode cX8_lays 30 = .ok (.iinc 2 1, 3) := by decide +kernel
theorem dX8_lays_33 : decode cX8_lays 33 = .ok (.goto (-31), 3) := by decide +kernel
theorem dX8_lays_36 : decode cX8_lays 36 = .ok (.aload_n 0, 1) := by decide +kernel
theorem dX8_lays_37 : decode cX8_lays 37 = .ok (.getfield 105, 3) := by decide +kernel
theorem dX8_lays_40 : decode cX8_lays 40 = .ok (.iconst 1, 1) := by decide +kernel
theorem dX8_lays_41 : decode cX8_lays 41 = .ok (.isub, 1) := by decide +kernel
theorem dX8_lays_42 : decode cX8_lays 42 = .ok (.istore_n 2, 1) := by decide +kernel
theorem dX8_lays_43 : decode cX8_lays 43 = .ok (.iload_n 2, 1) := by decide +kernel
theorem dX8_lays_44 : decode cX8_lays 44 = .ok (.ifCond .lt 120, 3) := by decide +kernel
theorem dX8_lays_47 : decode cX8_lays 47 = .ok (.iconst 0, 1) := by decide +kernel
theorem dX8_lays_48 : decode cX8_lays 48 = .ok (.istore_n 3, 1) := by decide +kernel
theorem dX8_lays_49 : decode cX8_lays 49 = .ok (.iload_n 3, 1) := by decide +kernel
theorem dX8_lays_50 : decode cX8_lays 50 = .ok (.iload_n 1, 1) := by decide +kernel
theorem dX8_lays_51 : decode cX8_lays 51 = .ok (.if_icmp .gt 107, 3) := by decide +kernel
theorem dX8_lays_54 : decode cX8_lays 54 = .ok (.iconst (-1), 1) := by decide +kernel
theorem dX8_lays_55 : decode cX8_lays 55 = .ok (.istore 4, 2) := by decide +kernel
theorem dX8_lays_57 : decode cX8_lays 57 = .ok (.iconst 0, 1) := by decide +kernel
theorem dX8_lays_58 : decode cX8_lays 58 = .ok (.istore 5, 2) := by decide +kernel
theorem dX8_lays_60 : decode cX8_lays 60 = .ok (.iload 5, 2) := by decide +kernel
theorem dX8_lays_62 : decode cX8_lays 62 = .ok (.iload_n 3, 1) := by decide +kernel
theorem dX8_lays_63 : decode cX8_lays 63 = .ok (.if_icmp .gt 76, 3) := by decide +kernel
theorem dX8_lays_66 : decode cX8_lays 66 = .ok (.iload 5, 2) := by decide +kernel
theorem dX8_lays_68 : decode cX8_lays 68 = .ok (.aload_n 0, 1) := by decide +kernel
theorem dX8_lays_69 : decode cX8_lays 69 = .ok (.iload_n 2, 1) := by decide +kernel
theorem dX8_lays_70 : decode cX8_lays 70 = .ok (.invokevirtual 140, 3) := by decide +kernel
theorem dX8_lays_73 : decode cX8_lays 73 = .ok (.if_icmp .gt 66, 3) := by decide +kernel
theorem dX8_lays_76 : decode cX8_lays 76 = .ok (.aload_n 0, 1) := by decide +kernel
theorem dX8_lays_77 : decode cX8_lays 77 = .ok (.getfield 99, 3) := by decide +kernel
theorem dX8_lays_80 : decode cX8_lays 80 = .ok (.bipush 25, 2) := by decide +kernel
theorem dX8_lays_82 : decode cX8_lays 82 = .ok (.iload_n 2, 1) := by decide +kernel
theorem dX8_lays_83 : decode cX8_lays 83 = .ok (.iconst 1, 1) := by decide +kernel
theorem dX8_lays_84 : decode cX8_lays 84 = .ok (.iadd, 1) := by decide +kernel
theorem dX8_lays_85 : decode cX8_lays 85 = .ok (.imul, 1) := by decide +kernel
theorem dX8_lays_86 : decode cX8_lays 86 = .ok (.iload_n 3, 1) := by decide +kernel
theorem dX8_lays_87 : decode cX8_lays 87 = .ok (.iadd, 1) := by decide +kernel
theorem dX8_lays_88 : decode cX8_lays 88 = .ok (.iload 5, 2) := by decide +kernel
theorem dX8_lays_90 : decode cX8_lays 90 = .ok (.isub, 1) := by decide +kernel
theorem dX8_lays_91 : decode cX8_lays 91 = .ok (.iaload, 1) := by decide +kernel
theorem dX8_lays_92 : decode cX8_lays 92 = .ok (.istore 6, 2) := by decide +kernel
theorem dX8_lays_94 : decode cX8_lays 94 = .ok (.iload 6, 2) := by decide +kernel
theorem dX8_lays_96 : decode cX8_lays 96 = .ok (.iconst (-1), 1) := by decide +kernel
theorem dX8_lays_97 : decode cX8_lays 97 = .ok (.if_icmp .eq 36, 3) := by decide +kernel
theorem dX8_lays_100 : decode cX8_lays 100 = .ok (.iload 4, 2) := by decide +kernel
theorem dX8_lays_102 : decode cX8_lays 102 = .ok (.iconst (-1), 1) := by decide +kernel
theorem dX8_lays_103 : decode cX8_lays 103 = .ok (.if_icmp .eq 18, 3) := by decide +kernel
theorem dX8_lays_106 : decode cX8_lays 106 = .ok (.iload 6, 2) := by decide +kernel
theorem dX8_lays_108 : decode cX8_lays 108 = .ok (.aload_n 0, 1) := by decide +kernel
theorem dX8_lays_109 : decode cX8_lays 109 = .ok (.iload_n 2, 1) := by decide +kernel
theorem dX8_lays_110 : decode cX8_lays 110 = .ok (.iload 5, 2) := by decide +kernel
theorem dX8_lays_112 : decode cX8_lays 112 = .ok (.invokevirtual 205, 3) := by decide +kernel
theorem dX8_lays_115 : decode cX8_lays 115 = .ok (.iadd, 1) := by decide +kernel
theorem dX8_lays_116 : decode cX8_lays 116 = .ok (.iload 4, 2) := by decide +kernel
theorem dX8_lays_118 : decode cX8_lays 118 = .ok (.if_icmp .ge 15, 3) := by decide +kernel
theorem dX8_lays_121 : decode cX8_lays 121 = .ok (.iload 6, 2) := by decide +kernel
theorem dX8_lays_123 : decode cX8_lays 123 = .ok (.aload_n 0, 1) := by decide +kernel
theorem dX8_lays_124 : decode cX8_lays 124 = .ok (.iload_n 2, 1) := by decide +kernel
theorem dX8_lays_125 : decode cX8_lays 125 = .ok (.iload 5, 2) := by decide +kernel
theorem dX8_lays_127 : decode cX8_lays 127 = .ok (.invokevirtual 205, 3) := by decide +kernel
theorem dX8_lays_130 : decode cX8_lays 130 = .ok (.iadd, 1) := by decide +kernel
theorem dX8_lays_131 : decode cX8_lays 131 = .ok (.istore 4, 2) := by decide +kernel
theorem dX8_lays_133 : decode cX8_lays 133 = .ok (.iinc 5 1, 3) := by decide +kernel
theorem dX8_lays_136 : decode cX8_lays 136 = .ok (.goto (-76), 3) := by decide +kernel
theorem dX8_lays_139 : decode cX8_lays 139 = .ok (.aload_n 0, 1) := by decide +kernel
theorem dX8_lays_140 : decode cX8_lays 140 = .ok (.getfield 99, 3) := by decide +kernel
theorem dX8_lays_143 : decode cX8_lays 143 = .ok (.bipush 25, 2) := by decide +kernel
theorem dX8_lays_145 : decode cX8_lays 145 = .ok (.iload_n 2, 1) := by decide +kernel
theorem dX8_lays_146 : decode cX8_lays 146 = .ok (.imul, 1) := by decide +kernel
theorem dX8_lays_147 : decode cX8_lays 147 = .ok (.iload_n 3, 1) := by decide +kernel
theorem dX8_lays_148 : decode cX8_lays 148 = .ok (.iadd, 1) := by decide +kernel
theorem dX8_lays_149 : decode cX8_lays 149 = .ok (.iload 4, 2) := by decide +kernel
theorem dX8_lays_151 : decode cX8_lays 151 = .ok (.iastore, 1) := by decide +kernel
theorem dX8_lays_152 : decode cX8_lays 152 = .ok (.iinc 3 1, 3) := by decide +kernel
theorem dX8_lays_155 : decode cX8_lays 155 = .ok (.goto (-106), 3) := by decide +kernel
theorem dX8_lays_158 : decode cX8_lays 158 = .ok (.iinc 2 (-1), 3) := by decide +kernel
theorem dX8_lays_161 : decode cX8_lays 161 = .ok (.goto (-118), 3) := by decide +kernel
theorem dX8_lays_164 : decode cX8_lays 164 = .ok (.return_, 1) := by decide +kernel
theorem dX8_rota_0 : decode cX8_rota 0 = .ok (.aload_n 0, 1) := by decide +kernel
theorem dX8_rota_1 : decode cX8_rota 1 = .ok (.iload_n 1, 1) := by decide +kernel
theorem dX8_rota_2 : decode cX8_rota 2 = .ok (.invokevirtual 134, 3) := by decide +kernel
theorem dX8_rota_5 : decode cX8_rota 5 = .ok (.ifCond .ne 9, 3) := by decide +kernel
theorem dX8_rota_8 : decode cX8_rota 8 = .ok (.aload_n 0, 1) := by decide +kernel
theorem dX8_rota_9 : decode cX8_rota 9 = .ok (.iconst (-1), 1) := by decide +kernel
theorem dX8_rota_10 : decode cX8_rota 10 = .ok (.invokevirtual 215, 3) := by decide +kernel
theorem dX8_rota_13 : decode cX8_rota 13 = .ok (.ireturn, 1) := by decide +kernel
theorem dX8_rota_14 : decode cX8_rota 14 = .ok (.iload_n 2, 1) := by decide +kernel
theorem dX8_rota_15 : decode cX8_rota 15 = .ok (.iconst (-1), 1) := by decide +kernel
theorem dX8_rota_16 : decode cX8_rota 16 = .ok (.if_icmp .lt 11, 3) := by decide +kernel
theorem dX8_rota_19 : decode cX8_rota 19 = .ok (.iload_n 2, 1) := by decide +kernel
theorem dX8_rota_20 : decode cX8_rota 20 = .ok (.aload_n 0, 1) := by decide +kernel
theorem dX8_rota_21 : decode cX8_rota 21 = .ok (.getfield 105, 3) := by decide +kernel
theorem dX8_rota_24 : decode cX8_rota 24 = .ok (.if_icmp .lt 10, 3) := by decide +kernel
theorem dX8_rota_27 : decode cX8_rota 27 = .ok (.aload_n 0, 1) := by decide +kernel
theorem dX8_rota_28 : decode cX8_rota 28 = .ok (.bipush (-5), 2) := by decide +kernel
theorem dX8_rota_30 : decode cX8_rota 30 = .ok (.invokevirtual 215, 3) := by decide +kernel
theorem dX8_rota_33 : decode cX8_rota 33 = .ok (.ireturn, 1) := by decide +kernel
theorem dX8_rota_34 : decode cX8_rota 34 = .ok (.aload_n 0, 1) := by decide +kernel
theorem dX8_rota_35 : decode cX8_rota 35 = .ok (.getfield 44, 3) := by decide +kernel
theorem dX8_rota_38 : decode cX8_rota 38 = .ok (.iload_n 1, 1) := by decide +kernel
theorem dX8_rota_39 : decode cX8_rota 39 = .ok (.iaload, 1) := by decide +kernel
theorem dX8_rota_40 : decode cX8_rota 40 = .ok (.aload_n 0, 1) := by decide +kernel
theorem dX8_rota_41 : decode cX8_rota 41 = .ok (.getfield 41, 3) := by decide +kernel
theorem dX8_rota_44 : decode cX8_rota 44 = .ok (.iload_n 1, 1) := by decide +kernel
theorem dX8_rota_45 : decode cX8_rota 45 = .ok (.iaload, 1) := by decide +kernel
theorem dX8_rota_46 : decode cX8_rota 46 = .ok (.isub, 1) := by decide +kernel
theorem dX8_rota_47 : decode cX8_rota 47 = .ok (.iconst 1, 1) := by decide +kernel
theorem dX8_rota_48 : decode cX8_rota 48 = .ok (.iadd, 1) := by decide +kernel
theorem dX8_rota_49 : decode cX8_rota 49 = .ok (.istore_n 3, 1) := by decide +kernel
theorem dX8_rota_50 : decode cX8_rota 50 = .ok (.aload_n 0, 1) := by decide +kernel
theorem dX8_rota_51 : decode cX8_rota 51 = .ok (.iload_n 3, 1) := by decide +kernel
theorem dX8_rota_52 : decode cX8_rota 52 = .ok (.invokevirtual 221, 3) := by decide +kernel
theorem dX8_rota_55 : decode cX8_rota 55 = .ok (.aload_n 0, 1) := by decide +kernel
theorem dX8_rota_56 : decode cX8_rota 56 = .ok (.getfield 99, 3) := by decide +kernel
theorem dX8_rota_59 : decode cX8_rota 59 = .ok (.iload_n 3, 1) := by decide +kernel
theorem dX8_rota_60 : decode cX8_rota 60 = .ok (.iaload, 1) := by decide +kernel
theorem dX8_rota_61 : decode cX8_rota 61 = .ok (.istore 4, 2) := by decide +kernel
theorem dX8_rota_63 : decode cX8_rota 63 = .ok (.iload_n 2, 1) := by decide +kernel
theorem dX8_rota_64 : decode cX8_rota 64 = .ok (.iconst (-1), 1) := by decide +kernel
theorem dX8_rota_65 : decode cX8_rota 65 = .ok (.if_icmp .eq 9, 3) := by decide +kernel
theorem dX8_rota_68 : decode cX8_rota 68 = .ok (.iload 4, 2) := by decide +kernel
theorem dX8_rota_70 : decode cX8_rota 70 = .ok (.iconst (-1), 1) := by decide +kernel
theorem dX8_rota_71 : decode cX8_rota 71 = .ok (.if_icmp .ne 6, 3) := by decide +kernel
theorem dX8_rota_74 : decode cX8_rota 74 = .ok (.iload 4, 2) := by decide +kernel
theorem dX8_rota_76 : decode cX8_rota 76 = .ok (.ireturn, 1) := by decide +kernel
theorem dX8_rota_77 : decode cX8_rota 77 = .ok (.iconst 0, 1) := by decide +kernel
theorem dX8_rota_78 : decode cX8_rota 78 = .ok (.istore 5, 2) := by decide +kernel
theorem dX8_rota_80 : decode cX8_rota 80 = .ok (.iconst 0, 1) := by decide +kernel
theorem dX8_rota_81 : decode cX8_rota 81 = .ok (.istore 6, 2) := by decide +kernel
theorem dX8_rota_83 : decode cX8_rota 83 = .ok (.aload_n 0, 1) := by decide +kernel
theorem dX8_rota_84 : decode cX8_rota 84 = .ok (.getfield 99, 3) := by decide +kernel
theorem dX8_rota_87 : decode cX8_rota 87 = .ok (.bipush 25, 2) := by decide +kernel
theorem dX8_rota_89 : decode cX8_rota 89 = .ok (.iload 5, 2) := by decide +kernel
theorem dX8_rota_91 : decode cX8_rota 91 = .ok (.iconst 1, 1) := by decide +kernel
theorem dX8_rota_92 : decode cX8_rota 92 = .ok (.iadd, 1) := by decide +kernel
theorem dX8_rota_93 : decode cX8_rota 93 = .ok (.imul, 1) := by decide +kernel
theorem dX8_rota_94 : decode cX8_rota 94 = .ok (.iload_n 3, 1) := by decide +kernel
theorem dX8_rota_95 : decode cX8_rota 95 = .ok (.iadd, 1) := by decide +kernel
theorem dX8_rota_96 : decode cX8_rota 96 = .ok (.iload 6, 2) := by decide +kernel
theorem dX8_rota_98 : decode cX8_rota 98 = .ok (.isub, 1) := by decide +kernel
theorem dX8_rota_99 : decode cX8_rota 99 = .ok (.iaload, 1) := by decide +kernel
theorem dX8_rota_100 : decode cX8_rota 100 = .ok (.iconst (-1), 1) := by decide +kernel
theorem dX8_rota_101 : decode cX8_rota 101 = .ok (.if_icmp .eq 44, 3) := by decide +kernel
theorem dX8_rota_104 : decode cX8_rota 104 = .ok (.aload_n 0, 1) := by decide +kernel
theorem dX8_rota_105 : decode cX8_rota 105 = .ok (.iload 5, 2) := by decide +kernel
theorem dX8_rota_107 : decode cX8_rota 107 = .ok (.iload 6, 2) := by decide +kernel
theorem dX8_rota_109 : decode cX8_rota 109 = .ok (.invokevirtual 205, 3) := by decide +kernel
theorem dX8_rota_112 : decode cX8_rota 112 = .ok (.aload_n 0, 1) := by decide +kernel
theorem dX8_rota_113 : decode cX8_rota 113 = .ok (.getfield 99, 3) := by decide +kernel
theorem dX8_rota_116 : decode cX8_rota 116 = .ok (.bipush 25, 2) := by decide +kernel
theorem dX8_rota_118 : decode cX8_rota 118 = .ok (.iload 5, 2) := by decide +kernel
theorem dX8_rota_120 : decode cX8_rota 120 = .ok (.iconst 1, 1) := by decide +kernel
theorem dX8_rota_121 : decode cX8_rota 121 = .ok (.iadd, 1) := by decide +kernel
theorem dX8_rota_122 : decode cX8_rota 122 = .ok (.imul, 1) := by decide +kernel
theorem dX8_rota_123 : decode cX8_rota 123 = .ok (.iload_n 3, 1) := by decide +kernel
theorem dX8_rota_124 : decode cX8_rota 124 = .ok (.iadd, 1) := by decide +kernel
theorem dX8_rota_125 : decode cX8_rota 125 = .ok (.iload 6, 2) := by decide +kernel
theorem dX8_rota_127 : decode cX8_rota 127 = .ok (.isub, 1) := by decide +kernel
theorem dX8_rota_128 : decode cX8_rota 128 = .ok (.iaload, 1) := by decide +kernel
theorem dX8_rota_129 : decode cX8_rota 129 = .ok (.iadd, 1) := by decide +kernel
theorem dX8_rota_130 : decode cX8_rota 130 = .ok (.aload_n 0, 1) := by decide +kernel
theorem dX8_rota_131 : decode cX8_rota 131 = .ok (.getfield 99, 3) := by decide +kernel
theorem dX8_rota_134 : decode cX8_rota 134 = .ok (.bipush 25, 2) := by decide +kernel
theorem dX8_rota_136 : decode cX8_rota 136 = .ok (.iload 5, 2) := by decide +kernel
theorem dX8_rota_138 : decode cX8_rota 138 = .ok (.imul, 1) := by decide +kernel
theorem dX8_rota_139 : decode cX8_rota 139 = .ok (.iload_n 3, 1) := by decide +kernel
theorem dX8_rota_140 : decode cX8_rota 140 = .ok (.iadd, 1) := by decide +kernel
theorem dX8_rota_141 : decode cX8_rota 141 = .ok (.iaload, 1) := by decide +kernel
theorem dX8_rota_142 : decode cX8_rota 142 = .ok (.if_icmp .eq 9, 3) := by decide +kernel
theorem dX8_rota_145 : decode cX8_rota 145 = .ok (.iinc 6 1, 3) := by decide +kernel
theorem dX8_rota_148 : decode cX8_rota 148 = .ok (.goto (-65), 3) := by decide +kernel
theorem dX8_rota_151 : decode cX8_rota 151 = .ok (.iload 5, 2) := by decide +kernel
theorem dX8_rota_153 : decode cX8_rota 153 = .ok (.iload_n 2, 1) := by decide +kernel
theorem dX8_rota_154 : decode cX8_rota 154 = .ok (.if_icmp .ne 6, 3) := by decide +kernel
theorem dX8_rota_157 : decode cX8_rota 157 = .ok (.iload 6, 2) := by decide +kernel
theorem dX8_rota_159 : decode cX8_rota 159 = .ok (.ireturn, 1) := by decide +kernel
theorem dX8_rota_160 : decode cX8_rota 160 = .ok (.iload_n 3, 1) := by decide +kernel
theorem dX8_rota_161 : decode cX8_rota 161 = .ok (.iload 6, 2) := by decide +kernel
theorem dX8_rota_163 : decode cX8_rota 163 = .ok (.isub, 1) := by decide +kernel
theorem dX8_rota_164 : decode cX8_rota 164 = .ok (.istore_n 3, 1) := by decide +kernel
theorem dX8_rota_165 : decode cX8_rota 165 = .ok (.iinc 5 1, 3) := by decide +kernel
theorem dX8_rota_168 : decode cX8_rota 168 = .ok (.goto (-88), 3) := by decide +kernel
theorem dX8_seenFrom_0 : decode cX8_seenFrom 0 = .ok (.iconst 0, 1) := by decide +kernel
theorem dX8_seenFrom_1 : decode cX8_seenFrom 1 = .ok (.istore_n 3, 1) := by decide +kernel
theorem dX8_seenFrom_2 : decode cX8_seenFrom 2 = .ok (.iconst 0, 1) := by decide +kernel
theorem dX8_seenFrom_3 : decode cX8_seenFrom 3 = .ok (.istore 4, 2) := by decide +kernel
theorem dX8_seenFrom_5 : decode cX8_seenFrom 5 = .ok (.iload 4, 2) := by decide +kernel
theorem dX8_seenFrom_7 : decode cX8_seenFrom 7 = .ok (.aload_n 0, 1) := by decide +kernel
theorem dX8_seenFrom_8 : decode cX8_seenFrom 8 = .ok (.getfield 108, 3) := by decide +kernel
theorem dX8_seenFrom_11 : decode cX8_seenFrom 11 = .ok (.if_icmp .ge 60, 3) := by decide +kernel
theorem dX8_seenFrom_14 : decode cX8_seenFrom 14 = .ok (.aload_n 0, 1) := by decide +kernel
theorem dX8_seenFrom_15 : decode cX8_seenFrom 15 = .ok (.getfield 38, 3) := by decide +kernel
theorem dX8_seenFrom_18 : decode cX8_seenFrom 18 = .ok (.iload 4, 2) := by decide +kernel
theorem dX8_seenFrom_20 : decode cX8_seenFrom 20 = .ok (.iaload, 1) := by decide +kernel
theorem dX8_seenFrom_21 : decode cX8_seenFrom 21 = .ok (.iload_n 2, 1) := by decide +kernel
theorem dX8_seenFrom_22 : decode cX8_seenFrom 22 = .ok (.if_icmp .le 15, 3) := by decide +kernel
theorem dX8_seenFrom_25 : decode cX8_seenFrom 25 = .ok (.aload_n 0, 1) := by decide +kernel
theorem dX8_seenFrom_26 : decode cX8_seenFrom 26 = .ok (.getfield 38, 3) := by decide +kernel
theorem dX8_seenFrom_29 : decode cX8_seenFrom 29 = .ok (.iload 4, 2) := by decide +kernel
theorem dX8_seenFrom_31 : decode cX8_seenFrom 31 = .ok (.iaload, 1) := by decide +kernel
theorem dX8_seenFrom_32 : decode cX8_seenFrom 32 = .ok (.iload_n 2, 1) := by decide +kernel
theorem dX8_seenFrom_33 : decode cX8_seenFrom 33 = .ok (.isub, 1) := by decide +kernel
theorem dX8_seenFrom_34 : decode cX8_seenFrom 34 = .ok (.goto 12, 3) := by decide +kernel
theorem dX8_seenFrom_37 : decode cX8_seenFrom 37 = .ok (.iload_n 2, 1) := by decide +kernel
theorem dX8_seenFrom_38 : decode cX8_seenFrom 38 = .ok (.aload_n 0, 1) := by decide +kernel
theorem dX8_seenFrom_39 : decode cX8_seenFrom 39 = .ok (.getfield 38, 3) := by decide +kernel
theorem dX8_seenFrom_42 : decode cX8_seenFrom 42 = .ok (.iload 4, 2) := by decide +kernel
theorem dX8_seenFrom_44 : decode cX8_seenFrom 44 = .ok (.iaload, 1) := by decide +kernel
theorem dX8_seenFrom_45 : decode cX8_seenFrom 45 = .ok (.isub, 1) := by decide +kernel
theorem dX8_seenFrom_46 : decode cX8_seenFrom 46 = .ok (.istore 5, 2) := by decide +kernel
theorem dX8_seenFrom_48 : decode cX8_seenFrom 48 = .ok (.iload 5, 2) := by decide +kernel
theorem dX8_seenFrom_50 : decode cX8_seenFrom 50 = .ok (.aload_n 0, 1) := by decide +kernel
theorem dX8_seenFrom_51 : decode cX8_seenFrom 51 = .ok (.iload_n 1, 1) := by decide +kernel
theorem dX8_seenFrom_52 : decode cX8_seenFrom 52 = .ok (.invokevirtual 143, 3) := by decide +kernel
theorem dX8_seenFrom_55 : decode cX8_seenFrom 55 = .ok (.if_icmp .gt 10, 3) := by decide +kernel
theorem dX8_seenFrom_58 : decode cX8_seenFrom 58 = .ok (.iload_n 3, 1) := by decide +kernel
theorem dX8_seenFrom_59 : decode cX8_seenFrom 59 = .ok (.iconst 1, 1) := by decide +kernel
theorem dX8_seenFrom_60 : decode cX8_seenFrom 60 = .ok (.iload 4, 2) := by decide +kernel
theorem dX8_seenFrom_62 : decode cX8_seenFrom 62 = .ok (.ishl, 1) := by decide +kernel
theorem dX8_seenFrom_63 : decode cX8_seenFrom 63 = .ok (.iadd, 1) := by decide +kernel
theorem dX8_seenFrom_64 : decode cX8_seenFrom 64 = .ok (.istore_n 3, 1) := by decide +kernel
theorem dX8_seenFrom_65 : decode cX8_seenFrom 65 = .ok (.iinc 4 1, 3) := by decide +kernel
theorem dX8_seenFrom_68 : decode cX8_seenFrom 68 = .ok (.goto (-63), 3) := by decide +kernel
theorem dX8_seenFrom_71 : decode cX8_seenFrom 71 = .ok (.iload_n 3, 1) := by decide +kernel
theorem dX8_seenFrom_72 : decode cX8_seenFrom 72 = .ok (.ireturn, 1) := by decide +kernel
theorem dX8_many_0 : decode cX8_many 0 = .ok (.iconst 0, 1) := by decide +kernel
theorem dX8_many_1 : decode cX8_many 1 = .ok (.istore_n 2, 1) := by decide +kernel
theorem dX8_many_2 : decode cX8_many 2 = .ok (.iconst 0, 1) := by decide +kernel
theorem dX8_many_3 : decode cX8_many 3 = .ok (.istore_n 3, 1) := by decide +kernel
theorem dX8_many_4 : decode cX8_many 4 = .ok (.iload_n 3, 1) := by decide +kernel
theorem dX8_many_5 : decode cX8_many 5 = .ok (.bipush 8, 2) := by decide +kernel
theorem dX8_many_7 : decode cX8_many 7 = .ok (.if_icmp .ge 17, 3) := by decide +kernel
theorem dX8_many_10 : decode cX8_many 10 = .ok (.iload_n 2, 1) := by decide +kernel
theorem dX8_many_11 : decode cX8_many 11 = .ok (.iload_n 1, 1) := by decide +kernel
theorem dX8_many_12 : decode cX8_many 12 = .ok (.iload_n 3, 1) := by decide +kernel
theorem dX8_many_13 : decode cX8_many 13 = .ok (.ishr, 1) := by decide +kernel
theorem dX8_many_14 : decode cX8_many 14 = .ok (.iconst 1, 1) := by decide +kernel
theorem dX8_many_15 : decode cX8_many 15 = .ok (.iand, 1) := by decide +kernel
theorem dX8_many_16 : decode cX8_many 16 = .ok (.iadd, 1) := by decide +kernel
theorem dX8_many_17 : decode cX8_many 17 = .ok (.istore_n 2, 1) := by decide +kernel
theorem dX8_many_18 : decode cX8_many 18 = .ok (.iinc 3 1, 3) := by decide +kernel
theorem dX8_many_21 : decode cX8_many 21 = .ok (.goto (-17), 3) := by decide +kernel
theorem dX8_many_24 : decode cX8_many 24 = .ok (.iload_n 2, 1) := by decide +kernel
theorem dX8_many_25 : decode cX8_many 25 = .ok (.ireturn, 1) := by decide +kernel
theorem dX8_worthOf_0 : decode cX8_worthOf 0 = .ok (.iconst 0, 1) := by decide +kernel
theorem dX8_worthOf_1 : decode cX8_worthOf 1 = .ok (.istore_n 2, 1) := by decide +kernel
theorem dX8_worthOf_2 : decode cX8_worthOf 2 = .ok (.iconst 0, 1) := by decide +kernel
theorem dX8_worthOf_3 : decode cX8_worthOf 3 = .ok (.istore_n 3, 1) := by decide +kernel
theorem dX8_worthOf_4 : decode cX8_worthOf 4 = .ok (.iload_n 3, 1) := by decide +kernel
theorem dX8_worthOf_5 : decode cX8_worthOf 5 = .ok (.aload_n 0, 1) := by decide +kernel
theorem dX8_worthOf_6 : decode cX8_worthOf 6 = .ok (.getfield 108, 3) := by decide +kernel
theorem dX8_worthOf_9 : decode cX8_worthOf 9 = .ok (.if_icmp .ge 27, 3) := by decide +kernel
theorem dX8_worthOf_12 : decode cX8_worthOf 12 = .ok (.iload_n 1, 1) := by decide +kernel
theorem dX8_worthOf_13 : decode cX8_worthOf 13 = .ok (.iload_n 3, 1) := by decide +kernel
theorem dX8_worthOf_14 : decode cX8_worthOf 14 = .ok (.ishr, 1) := by decide +kernel
theorem dX8_worthOf_15 : decode cX8_worthOf 15 = .ok (.iconst 1, 1) := by decide +kernel
theorem dX8_worthOf_16 : decode cX8_worthOf 16 = .ok (.iand, 1) := by decide +kernel
theorem dX8_worthOf_17 : decode cX8_worthOf 17 = .ok (.iconst 1, 1) := by decide +kernel
theorem dX8_worthOf_18 : decode cX8_worthOf 18 = .ok (.if_icmp .ne 12, 3) := by decide +kernel
theorem dX8_worthOf_21 : decode cX8_worthOf 21 = .ok (.iload_n 2, 1) := by decide +kernel
theorem dX8_worthOf_22 : decode cX8_worthOf 22 = .ok (.aload_n 0, 1) := by decide +kernel
theorem dX8_worthOf_23 : decode cX8_worthOf 23 = .ok (.getfield 50, 3) := by decide +kernel
theorem dX8_worthOf_26 : decode cX8_worthOf 26 = .ok (.iload_n 3, 1) := by decide +kernel
theorem dX8_worthOf_27 : decode cX8_worthOf 27 = .ok (.iaload, 1) := by decide +kernel
theorem dX8_worthOf_28 : decode cX8_worthOf 28 = .ok (.iadd, 1) := by decide +kernel
theorem dX8_worthOf_29 : decode cX8_worthOf 29 = .ok (.istore_n 2, 1) := by decide +kernel
theorem dX8_worthOf_30 : decode cX8_worthOf 30 = .ok (.iinc 3 1, 3) := by decide +kernel
theorem dX8_worthOf_33 : decode cX8_worthOf 33 = .ok (.goto (-29), 3) := by decide +kernel
theorem dX8_worthOf_36 : decode cX8_worthOf 36 = .ok (.iload_n 2, 1) := by decide +kernel
theorem dX8_worthOf_37 : decode cX8_worthOf 37 = .ok (.ireturn, 1) := by decide +kernel
theorem dX8_posts_0 : decode cX8_posts 0 = .ok (.iload_n 1, 1) := by decide +kernel
theorem dX8_posts_1 : decode cX8_posts 1 = .ok (.ifCond .lt 8, 3) := by decide +kernel
theorem dX8_posts_4 : decode cX8_posts 4 = .ok (.iload_n 1, 1) := by decide +kernel
theorem dX8_posts_5 : decode cX8_posts 5 = .ok (.iconst 1, 1) := by decide +kernel
theorem dX8_posts_6 : decode cX8_posts 6 = .ok (.if_icmp .le 10, 3) := by decide +kernel
theorem dX8_posts_9 : decode cX8_posts 9 = .ok (.aload_n 0, 1) := by decide +kernel
theorem dX8_posts_10 : decode cX8_posts 10 = .ok (.bipush (-5), 2) := by decide +kernel
theorem dX8_posts_12 : decode cX8_posts 12 = .ok (.invokevirtual 215, 3) := by decide +kernel
theorem dX8_posts_15 : decode cX8_posts 15 = .ok (.ireturn, 1) := by decide +kernel
theorem dX8_posts_16 : decode cX8_posts 16 = .ok (.iconst (-1), 1) := by decide +kernel
theorem dX8_posts_17 : decode cX8_posts 17 = .ok (.istore_n 2, 1) := by decide +kernel
theorem dX8_posts_18 : decode cX8_posts 18 = .ok (.iconst 0, 1) := by decide +kernel
theorem dX8_posts_19 : decode cX8_posts 19 = .ok (.istore_n 3, 1) := by decide +kernel
theorem dX8_posts_20 : decode cX8_posts 20 = .ok (.iload_n 3, 1) := by decide +kernel
theorem dX8_posts_21 : decode cX8_posts 21 = .ok (.iconst 1, 1) := by decide +kernel
theorem dX8_posts_22 : decode cX8_posts 22 = .ok (.aload_n 0, 1) := by decide +kernel
theorem dX8_posts_23 : decode cX8_posts 23 = .ok (.getfield 105, 3) := by decide +kernel
theorem dX8_posts_26 : decode cX8_posts 26 = .ok (.ishl, 1) := by decide +kernel
theorem dX8_posts_27 : decode cX8_posts 27 = .ok (.if_icmp .ge 91, 3) := by decide +kernel
theorem dX8_posts_30 : decode cX8_posts 30 = .ok (.iconst 0, 1) := by decide +kernel
theorem dX8_posts_31 : decode cX8_posts 31 = .ok (.istore 4, 2) := by decide +kernel
theorem dX8_posts_33 : decode cX8_posts 33 = .ok (.iconst 0, 1) := by decide +kernel
theorem dX8_posts_34 : decode cX8_posts 34 = .ok (.istore 5, 2) := by decide +kernel
theorem dX8_posts_36 : decode cX8_posts 36 = .ok (.iload 5, 2) := by decide +kernel
theorem dX8_posts_38 : decode cX8_posts 38 = .ok (.aload_n 0, 1) := by decide +kernel
theorem dX8_posts_39 : decode cX8_posts 39 = .ok (.getfield 105, 3) := by decide +kernel
theorem dX8_posts_42 : decode cX8_posts 42 = .ok (.if_icmp .ge 37, 3) := by decide +kernel
theorem dX8_posts_45 : decode cX8_posts 45 = .ok (.iload_n 3, 1) := by decide +kernel
theorem dX8_posts_46 : decode cX8_posts 46 = .ok (.iload 5, 2) := by decide +kernel
theorem dX8_posts_48 : decode cX8_posts 48 = .ok (.ishr, 1) := by decide +kernel
theorem dX8_posts_49 : decode cX8_posts 49 = .ok (.iconst 1, 1) := by decide +kernel
theorem dX8_posts_50 : decode cX8_posts 50 = .ok (.iand, 1) := by decide +kernel
theorem dX8_posts_51 : decode cX8_posts 51 = .ok (.iconst 1, 1) := by decide +kernel
theorem dX8_posts_52 : decode cX8_posts 52 = .ok (.if_icmp .ne 21, 3) := by decide +kernel
theorem dX8_posts_55 : decode cX8_posts 55 = .ok (.iload 4, 2) := by decide +kernel
theorem dX8_posts_57 : decode cX8_posts 57 = .ok (.aload_n 0, 1) := by decide +kernel
theorem dX8_posts_58 : decode cX8_posts 58 = .ok (.iload 5, 2) := by decide +kernel
theorem dX8_posts_60 : decode cX8_posts 60 = .ok (.aload_n 0, 1) := by decide +kernel
theorem dX8_posts_61 : decode cX8_posts 61 = .ok (.getfield 35, 3) := by decide +kernel
theorem dX8_posts_64 : decode cX8_posts 64 = .ok (.iload 5, 2) := by decide +kernel
theorem dX8_posts_66 : decode cX8_posts 66 = .ok (.iaload, 1) := by decide +kernel
theorem dX8_posts_67 : decode cX8_posts 67 = .ok (.invokevirtual 225, 3) := by decide +kernel
theorem dX8_posts_70 : decode cX8_posts 70 = .ok (.ior, 1) := by decide +kernel
theorem dX8_posts_71 : decode cX8_posts 71 = .ok (.istore 4, 2) := by decide +kernel
theorem dX8_posts_73 : decode cX8_posts 73 = .ok (.iinc 5 1, 3) := by decide +kernel
theorem dX8_posts_76 : decode cX8_posts 76 = .ok (.goto (-40), 3) := by decide +kernel
theorem dX8_posts_79 : decode cX8_posts 79 = .ok (.aload_n 0, 1) := by decide +kernel
theorem dX8_posts_80 : decode cX8_posts 80 = .ok (.iload 4, 2) := by decide +kernel
theorem dX8_posts_82 : decode cX8_posts 82 = .ok (.invokevirtual 228, 3) := by decide +kernel
theorem dX8_posts_85 : decode cX8_posts 85 = .ok (.aload_n 0, 1) := by decide +kernel
theorem dX8_posts_86 : decode cX8_posts 86 = .ok (.getfield 108, 3) := by decide +kernel
theorem dX8_posts_89 : decode cX8_posts 89 = .ok (.if_icmp .ne 23, 3) := by decide +kernel
theorem dX8_posts_92 : decode cX8_posts 92 = .ok (.iload_n 2, 1) := by decide +kernel
theorem dX8_posts_93 : decode cX8_posts 93 = .ok (.iconst (-1), 1) := by decide +kernel
theorem dX8_posts_94 : decode cX8_posts 94 = .ok (.if_icmp .eq 16, 3) := by decide +kernel
theorem dX8_posts_97 : decode cX8_posts 97 = .ok (.aload_n 0, 1) := by decide +kernel
theorem dX8_posts_98 : decode cX8_posts 98 = .ok (.iload_n 3, 1) := by decide +kernel
theorem dX8_posts_99 : decode cX8_posts 99 = .ok (.invokevirtual 228, 3) := by decide +kernel
theorem dX8_posts_102 : decode cX8_posts 102 = .ok (.aload_n 0, 1) := by decide +kernel
theorem dX8_posts_103 : decode cX8_posts 103 = .ok (.iload_n 2, 1) := by decide +kernel
theorem dX8_posts_104 : decode cX8_posts 104 = .ok (.invokevirtual 228, 3) := by decide +kernel
theorem dX8_posts_107 : decode cX8_posts 107 = .ok (.if_icmp .ge 5, 3) := by decide +kernel
theorem dX8_posts_110 : decode cX8_posts 110 = .ok (.iload_n 3, 1) := by decide +kernel
theorem dX8_posts_111 : decode cX8_posts 111 = .ok (.istore_n 2, 1) := by decide +kernel
theorem dX8_posts_112 : decode cX8_posts 112 = .ok (.iinc 3 1, 3) := by decide +kernel
theorem dX8_posts_115 : decode cX8_posts 115 = .ok (.goto (-95), 3) := by decide +kernel
theorem dX8_posts_118 : decode cX8_posts 118 = .ok (.iload_n 1, 1) := by decide +kernel
theorem dX8_posts_119 : decode cX8_posts 119 = .ok (.iconst 1, 1) := by decide +kernel
theorem dX8_posts_120 : decode cX8_posts 120 = .ok (.if_icmp .eq 8, 3) := by decide +kernel
theorem dX8_posts_123 : decode cX8_posts 123 = .ok (.iload_n 2, 1) := by decide +kernel
theorem dX8_posts_124 : decode cX8_posts 124 = .ok (.iconst (-1), 1) := by decide +kernel
theorem dX8_posts_125 : decode cX8_posts 125 = .ok (.if_icmp .ne 7, 3) := by decide +kernel
theorem dX8_posts_128 : decode cX8_posts 128 = .ok (.iload_n 2, 1) := by decide +kernel
theorem dX8_posts_129 : decode cX8_posts 129 = .ok (.goto 8, 3) := by decide +kernel
theorem dX8_posts_132 : decode cX8_posts 132 = .ok (.aload_n 0, 1) := by decide +kernel
theorem dX8_posts_133 : decode cX8_posts 133 = .ok (.iload_n 2, 1) := by decide +kernel
theorem dX8_posts_134 : decode cX8_posts 134 = .ok (.invokevirtual 228, 3) := by decide +kernel
theorem dX8_posts_137 : decode cX8_posts 137 = .ok (.ireturn, 1) := by decide +kernel
theorem dX8_seen_0 : decode cX8_seen 0 = .ok (.aload_n 0, 1) := by decide +kernel
theorem dX8_seen_1 : decode cX8_seen 1 = .ok (.iload_n 1, 1) := by decide +kernel
theorem dX8_seen_2 : decode cX8_seen 2 = .ok (.invokevirtual 119, 3) := by decide +kernel
theorem dX8_seen_5 : decode cX8_seen 5 = .ok (.ifCond .ne 9, 3) := by decide +kernel
theorem dX8_seen_8 : decode cX8_seen 8 = .ok (.aload_n 0, 1) := by decide +kernel
theorem dX8_seen_9 : decode cX8_seen 9 = .ok (.iconst (-1), 1) := by decide +kernel
theorem dX8_seen_10 : decode cX8_seen 10 = .ok (.invokevirtual 115, 3) := by decide +kernel
theorem dX8_seen_13 : decode cX8_seen 13 = .ok (.ireturn, 1) := by decide +kernel
theorem dX8_seen_14 : decode cX8_seen 14 = .ok (.iload_n 2, 1) := by decide +kernel
theorem dX8_seen_15 : decode cX8_seen 15 = .ok (.ifCond .lt 8, 3) := by decide +kernel
theorem dX8_seen_18 : decode cX8_seen 18 = .ok (.iload_n 2, 1) := by decide +kernel
theorem dX8_seen_19 : decode cX8_seen 19 = .ok (.iconst 1, 1) := by decide +kernel
theorem dX8_seen_20 : decode cX8_seen 20 = .ok (.if_icmp .le 10, 3) := by decide +kernel
theorem dX8_seen_23 : decode cX8_seen 23 = .ok (.aload_n 0, 1) := by decide +kernel
theorem dX8_seen_24 : decode cX8_seen 24 = .ok (.bipush (-5), 2) := by decide +kernel
theorem dX8_seen_26 : decode cX8_seen 26 = .ok (.invokevirtual 115, 3) := by decide +kernel
theorem dX8_seen_29 : decode cX8_seen 29 = .ok (.ireturn, 1) := by decide +kernel
theorem dX8_seen_30 : decode cX8_seen 30 = .ok (.iload_n 2, 1) := by decide +kernel
theorem dX8_seen_31 : decode cX8_seen 31 = .ok (.ifCond .ne 15, 3) := by decide +kernel
theorem dX8_seen_34 : decode cX8_seen 34 = .ok (.aload_n 0, 1) := by decide +kernel
theorem dX8_seen_35 : decode cX8_seen 35 = .ok (.iload_n 1, 1) := by decide +kernel
theorem dX8_seen_36 : decode cX8_seen 36 = .ok (.aload_n 0, 1) := by decide +kernel
theorem dX8_seen_37 : decode cX8_seen 37 = .ok (.getfield 35, 3) := by decide +kernel
theorem dX8_seen_40 : decode cX8_seen 40 = .ok (.iload_n 1, 1) := by decide +kernel
theorem dX8_seen_41 : decode cX8_seen 41 = .ok (.iaload, 1) := by decide +kernel
theorem dX8_seen_42 : decode cX8_seen 42 = .ok (.invokevirtual 225, 3) := by decide +kernel
theorem dX8_seen_45 : decode cX8_seen 45 = .ok (.ireturn, 1) := by decide +kernel
theorem dX8_seen_46 : decode cX8_seen 46 = .ok (.iconst 0, 1) := by decide +kernel
theorem dX8_seen_47 : decode cX8_seen 47 = .ok (.istore_n 3, 1) := by decide +kernel
theorem dX8_seen_48 : decode cX8_seen 48 = .ok (.iconst 1, 1) := by decide +kernel
theorem dX8_seen_49 : decode cX8_seen 49 = .ok (.istore 4, 2) := by decide +kernel
theorem dX8_seen_51 : decode cX8_seen 51 = .ok (.iload 4, 2) := by decide +kernel
theorem dX8_seen_53 : decode cX8_seen 53 = .ok (.bipush 9, 2) := by decide +kernel
theorem dX8_seen_55 : decode cX8_seen 55 = .ok (.if_icmp .gt 36, 3) := by decide +kernel
theorem dX8_seen_58 : decode cX8_seen 58 = .ok (.aload_n 0, 1) := by decide +kernel
theorem dX8_seen_59 : decode cX8_seen 59 = .ok (.aload_n 0, 1) := by decide +kernel
theorem dX8_seen_60 : decode cX8_seen 60 = .ok (.iload_n 1, 1) := by decide +kernel
theorem dX8_seen_61 : decode cX8_seen 61 = .ok (.iload 4, 2) := by decide +kernel
theorem dX8_seen_63 : decode cX8_seen 63 = .ok (.invokevirtual 225, 3) := by decide +kernel
theorem dX8_seen_66 : decode cX8_seen 66 = .ok (.invokevirtual 231, 3) := by decide +kernel
theorem dX8_seen_69 : decode cX8_seen 69 = .ok (.aload_n 0, 1) := by decide +kernel
theorem dX8_seen_70 : decode cX8_seen 70 = .ok (.aload_n 0, 1) := by decide +kernel
theorem dX8_seen_71 : decode cX8_seen 71 = .ok (.iload_n 1, 1) := by decide +kernel
theorem dX8_seen_72 : decode cX8_seen 72 = .ok (.iload_n 3, 1) := by decide +kernel
theorem dX8_seen_73 : decode cX8_seen 73 = .ok (.invokevirtual 225, 3) := by decide +kernel
theorem dX8_seen_76 : decode cX8_seen 76 = .ok (.invokevirtual 231, 3) := by decide +kernel
theorem dX8_seen_79 : decode cX8_seen 79 = .ok (.if_icmp .le 6, 3) := by decide +kernel
theorem dX8_seen_82 : decode cX8_seen 82 = .ok (.iload 4, 2) := by decide +kernel
theorem dX8_seen_84 : decode cX8_seen 84 = .ok (.istore_n 3, 1) := by decide +kernel
theorem dX8_seen_85 : decode cX8_seen 85 = .ok (.iinc 4 1, 3) := by decide +kernel
theorem dX8_seen_88 : decode cX8_seen 88 = .ok (.goto (-37), 3) := by decide +kernel
theorem dX8_seen_91 : decode cX8_seen 91 = .ok (.iload_n 3, 1) := by decide +kernel
theorem dX8_seen_92 : decode cX8_seen 92 = .ok (.ireturn, 1) := by decide +kernel
theorem dX8_lookouts_0 : decode cX8_lookouts 0 = .ok (.aload_n 0, 1) := by decide +kernel
theorem dX8_lookouts_1 : decode cX8_lookouts 1 = .ok (.iload_n 1, 1) := by decide +kernel
theorem dX8_lookouts_2 : decode cX8_lookouts 2 = .ok (.invokevirtual 119, 3) := by decide +kernel
theorem dX8_lookouts_5 : decode cX8_lookouts 5 = .ok (.ifCond .ne 9, 3) := by decide +kernel
theorem dX8_lookouts_8 : decode cX8_lookouts 8 = .ok (.aload_n 0, 1) := by decide +kernel
theorem dX8_lookouts_9 : decode cX8_lookouts 9 = .ok (.iconst (-1), 1) := by decide +kernel
theorem dX8_lookouts_10 : decode cX8_lookouts 10 = .ok (.invokevirtual 115, 3) := by decide +kernel
theorem dX8_lookouts_13 : decode cX8_lookouts 13 = .ok (.ireturn, 1) := by decide +kernel
theorem dX8_lookouts_14 : decode cX8_lookouts 14 = .ok (.iconst 0, 1) := by decide +kernel
theorem dX8_lookouts_15 : decode cX8_lookouts 15 = .ok (.istore_n 2, 1) := by decide +kernel
theorem dX8_lookouts_16 : decode cX8_lookouts 16 = .ok (.iconst 0, 1) := by decide +kernel
theorem dX8_lookouts_17 : decode cX8_lookouts 17 = .ok (.istore_n 3, 1) := by decide +kernel
theorem dX8_lookouts_18 : decode cX8_lookouts 18 = .ok (.iload_n 3, 1) := by decide +kernel
theorem dX8_lookouts_19 : decode cX8_lookouts 19 = .ok (.bipush 9, 2) := by decide +kernel
theorem dX8_lookouts_21 : decode cX8_lookouts 21 = .ok (.if_icmp .gt 24, 3) := by decide +kernel
theorem dX8_lookouts_24 : decode cX8_lookouts 24 = .ok (.aload_n 0, 1) := by decide +kernel
theorem dX8_lookouts_25 : decode cX8_lookouts 25 = .ok (.iload_n 1, 1) := by decide +kernel
theorem dX8_lookouts_26 : decode cX8_lookouts 26 = .ok (.iload_n 3, 1) := by decide +kernel
theorem dX8_lookouts_27 : decode cX8_lookouts 27 = .ok (.invokevirtual 225, 3) := by decide +kernel
theorem dX8_lookouts_30 : decode cX8_lookouts 30 = .ok (.ifCond .eq 9, 3) := by decide +kernel
theorem dX8_lookouts_33 : decode cX8_lookouts 33 = .ok (.iload_n 2, 1) := by decide +kernel
theorem dX8_lookouts_34 : decode cX8_lookouts 34 = .ok (.iconst 1, 1) := by decide +kernel
theorem dX8_lookouts_35 : decode cX8_lookouts 35 = .ok (.iload_n 3, 1) := by decide +kernel
theorem dX8_lookouts_36 : decode cX8_lookouts 36 = .ok (.ishl, 1) := by decide +kernel
theorem dX8_lookouts_37 : decode cX8_lookouts 37 = .ok (.iadd, 1) := by decide +kernel
theorem dX8_lookouts_38 : decode cX8_lookouts 38 = .ok (.istore_n 2, 1) := by decide +kernel
theorem dX8_lookouts_39 : decode cX8_lookouts 39 = .ok (.iinc 3 1, 3) := by decide +kernel
theorem dX8_lookouts_42 : decode cX8_lookouts 42 = .ok (.goto (-24), 3) := by decide +kernel
theorem dX8_lookouts_45 : decode cX8_lookouts 45 = .ok (.iload_n 2, 1) := by decide +kernel
theorem dX8_lookouts_46 : decode cX8_lookouts 46 = .ok (.ireturn, 1) := by decide +kernel
theorem dX8_isMet_0 : decode cX8_isMet 0 = .ok (.iload_n 2, 1) := by decide +kernel
theorem dX8_isMet_1 : decode cX8_isMet 1 = .ok (.ifCond .eq 14, 3) := by decide +kernel
theorem dX8_isMet_4 : decode cX8_isMet 4 = .ok (.aload_n 0, 1) := by decide +kernel
theorem dX8_isMet_5 : decode cX8_isMet 5 = .ok (.getfield 56, 3) := by decide +kernel
theorem dX8_isMet_8 : decode cX8_isMet 8 = .ok (.iload_n 1, 1) := by decide +kernel
theorem dX8_isMet_9 : decode cX8_isMet 9 = .ok (.iaload, 1) := by decide +kernel
theorem dX8_isMet_10 : decode cX8_isMet 10 = .ok (.iconst 2, 1) := by decide +kernel
theorem dX8_isMet_11 : decode cX8_isMet 11 = .ok (.idiv, 1) := by decide +kernel
theorem dX8_isMet_12 : decode cX8_isMet 12 = .ok (.goto 9, 3) := by decide +kernel
theorem dX8_isMet_15 : decode cX8_isMet 15 = .ok (.aload_n 0, 1) := by decide +kernel
theorem dX8_isMet_16 : decode cX8_isMet 16 = .ok (.getfield 56, 3) := by decide +kernel
theorem dX8_isMet_19 : decode cX8_isMet 19 = .ok (.iload_n 1, 1) := by decide +kernel
theorem dX8_isMet_20 : decode cX8_isMet 20 = .ok (.iaload, 1) := by decide +kernel
theorem dX8_isMet_21 : decode cX8_isMet 21 = .ok (.aload_n 0, 1) := by decide +kernel
theorem dX8_isMet_22 : decode cX8_isMet 22 = .ok (.getfield 53, 3) := by decide +kernel
theorem dX8_isMet_25 : decode cX8_isMet 25 = .ok (.iload_n 1, 1) := by decide +kernel
theorem dX8_isMet_26 : decode cX8_isMet 26 = .ok (.iaload, 1) := by decide +kernel
theorem dX8_isMet_27 : decode cX8_isMet 27 = .ok (.if_icmp .gt 7, 3) := by decide +kernel
theorem dX8_isMet_30 : decode cX8_isMet 30 = .ok (.iconst 1, 1) := by decide +kernel
theorem dX8_isMet_31 : decode cX8_isMet 31 = .ok (.goto 4, 3) := by decide +kernel
theorem dX8_isMet_34 : decode cX8_isMet 34 = .ok (.iconst 0, 1) := by decide +kernel
theorem dX8_isMet_35 : decode cX8_isMet 35 = .ok (.ireturn, 1) := by decide +kernel
theorem dX8_met_0 : decode cX8_met 0 = .ok (.aload_n 0, 1) := by decide +kernel
theorem dX8_met_1 : decode cX8_met 1 = .ok (.iload_n 1, 1) := by decide +kernel
theorem dX8_met_2 : decode cX8_met 2 = .ok (.invokevirtual 134, 3) := by decide +kernel
theorem dX8_met_5 : decode cX8_met 5 = .ok (.ifCond .ne 9, 3) := by decide +kernel
theorem dX8_met_8 : decode cX8_met 8 = .ok (.aload_n 0, 1) := by decide +kernel
theorem dX8_met_9 : decode cX8_met 9 = .ok (.iconst (-1), 1) := by decide +kernel
theorem dX8_met_10 : decode cX8_met 10 = .ok (.invokevirtual 115, 3) := by decide +kernel
theorem dX8_met_13 : decode cX8_met 13 = .ok (.ireturn, 1) := by decide +kernel
theorem dX8_met_14 : decode cX8_met 14 = .ok (.iload_n 2, 1) := by decide +kernel
theorem dX8_met_15 : decode cX8_met 15 = .ok (.ifCond .lt 8, 3) := by decide +kernel
theorem dX8_met_18 : decode cX8_met 18 = .ok (.iload_n 2, 1) := by decide +kernel
theorem dX8_met_19 : decode cX8_met 19 = .ok (.iconst 1, 1) := by decide +kernel
theorem dX8_met_20 : decode cX8_met 20 = .ok (.if_icmp .le 10, 3) := by decide +kernel
theorem dX8_met_23 : decode cX8_met 23 = .ok (.aload_n 0, 1) := by decide +kernel
theorem dX8_met_24 : decode cX8_met 24 = .ok (.bipush (-5), 2) := by decide +kernel
theorem dX8_met_26 : decode cX8_met 26 = .ok (.invokevirtual 115, 3) := by decide +kernel
theorem dX8_met_29 : decode cX8_met 29 = .ok (.ireturn, 1) := by decide +kernel
theorem dX8_met_30 : decode cX8_met 30 = .ok (.aload_n 0, 1) := by decide +kernel
theorem dX8_met_31 : decode cX8_met 31 = .ok (.iload_n 1, 1) := by decide +kernel
theorem dX8_met_32 : decode cX8_met 32 = .ok (.iload_n 2, 1) := by decide +kernel
theorem dX8_met_33 : decode cX8_met 33 = .ok (.iconst 1, 1) := by decide +kernel
theorem dX8_met_34 : decode cX8_met 34 = .ok (.if_icmp .ne 7, 3) := by decide +kernel
theorem dX8_met_37 : decode cX8_met 37 = .ok (.iconst 1, 1) := by decide +kernel
theorem dX8_met_38 : decode cX8_met 38 = .ok (.goto 4, 3) := by decide +kernel
theorem dX8_met_41 : decode cX8_met 41 = .ok (.iconst 0, 1) := by decide +kernel
theorem dX8_met_42 : decode cX8_met 42 = .ok (.invokevirtual 234, 3) := by decide +kernel
theorem dX8_met_45 : decode cX8_met 45 = .ok (.ifCond .eq 7, 3) := by decide +kernel
theorem dX8_met_48 : decode cX8_met 48 = .ok (.iconst 1, 1) := by decide +kernel
theorem dX8_met_49 : decode cX8_met 49 = .ok (.goto 4, 3) := by decide +kernel
theorem dX8_met_52 : decode cX8_met 52 = .ok (.iconst 0, 1) := by decide +kernel
theorem dX8_met_53 : decode cX8_met 53 = .ok (.ireturn, 1) := by decide +kernel
theorem dX8_runners_0 : decode cX8_runners 0 = .ok (.iload_n 2, 1) := by decide +kernel
theorem dX8_runners_1 : decode cX8_runners 1 = .ok (.ifCond .lt 8, 3) := by decide +kernel
theorem dX8_runners_4 : decode cX8_runners 4 = .ok (.iload_n 2, 1) := by decide +kernel
theorem dX8_runners_5 : decode cX8_runners 5 = .ok (.iconst 1, 1) := by decide +kernel
theorem dX8_runners_6 : decode cX8_runners 6 = .ok (.if_icmp .le 10, 3) := by decide +kernel
theorem dX8_runners_9 : decode cX8_runners 9 = .ok (.aload_n 0, 1) := by decide +kernel
theorem dX8_runners_10 : decode cX8_runners 10 = .ok (.bipush (-5), 2) := by decide +kernel
theorem dX8_runners_12 : decode cX8_runners 12 = .ok (.invokevirtual 115, 3) := by decide +kernel
theorem dX8_runners_15 : decode cX8_runners 15 = .ok (.ireturn, 1) := by decide +kernel
theorem dX8_runners_16 : decode cX8_runners 16 = .ok (.aload_n 0, 1) := by decide +kernel
theorem dX8_runners_17 : decode cX8_runners 17 = .ok (.iload_n 1, 1) := by decide +kernel
theorem dX8_runners_18 : decode cX8_runners 18 = .ok (.iconst 0, 1) := by decide +kernel
theorem dX8_runners_19 : decode cX8_runners 19 = .ok (.bipush 8, 2) := by decide +kernel
theorem dX8_runners_21 : decode cX8_runners 21 = .ok (.invokevirtual 122, 3) := by decide +kernel
theorem dX8_runners_24 : decode cX8_runners 24 = .ok (.ifCond .ne 10, 3) := by decide +kernel
theorem dX8_runners_27 : decode cX8_runners 27 = .ok (.aload_n 0, 1) := by decide +kernel
theorem dX8_runners_28 : decode cX8_runners 28 = .ok (.bipush (-6), 2) := by decide +kernel
theorem dX8_runners_30 : decode cX8_runners 30 = .ok (.invokevirtual 115, 3) := by decide +kernel
theorem dX8_runners_33 : decode cX8_runners 33 = .ok (.ireturn, 1) := by decide +kernel
theorem dX8_runners_34 : decode cX8_runners 34 = .ok (.iconst 0, 1) := by decide +kernel
theorem dX8_runners_35 : decode cX8_runners 35 = .ok (.istore_n 3, 1) := by decide +kernel
theorem dX8_runners_36 : decode cX8_runners 36 = .ok (.iconst 0, 1) := by decide +kernel
theorem dX8_runners_37 : decode cX8_runners 37 = .ok (.istore 4, 2) := by decide +kernel
theorem dX8_runners_39 : decode cX8_runners 39 = .ok (.iconst 0, 1) := by decide +kernel
theorem dX8_runners_40 : decode cX8_runners 40 = .ok (.istore 5, 2) := by decide +kernel
theorem dX8_runners_42 : decode cX8_runners 42 = .ok (.iconst 0, 1) := by decide +kernel
theorem dX8_runners_43 : decode cX8_runners 43 = .ok (.istore 6, 2) := by decide +kernel
theorem dX8_runners_45 : decode cX8_runners 45 = .ok (.iload 6, 2) := by decide +kernel
theorem dX8_runners_47 : decode cX8_runners 47 = .ok (.aload_n 0, 1) := by decide +kernel
theorem dX8_runners_48 : decode cX8_runners 48 = .ok (.getfield 108, 3) := by decide +kernel
theorem dX8_runners_51 : decode cX8_runners 51 = .ok (.if_icmp .ge 51, 3) := by decide +kernel
theorem dX8_runners_54 : decode cX8_runners 54 = .ok (.aload_n 0, 1) := by decide +kernel
theorem dX8_runners_55 : decode cX8_runners 55 = .ok (.iload 6, 2) := by decide +kernel
theorem dX8_runners_57 : decode cX8_runners 57 = .ok (.iconst 0, 1) := by decide +kernel
theorem dX8_runners_58 : decode cX8_runners 58 = .ok (.invokevirtual 234, 3) := by decide +kernel
theorem dX8_runners_61 : decode cX8_runners 61 = .ok (.ifCond .eq 18, 3) := by decide +kernel
theorem dX8_runners_64 : decode cX8_runners 64 = .ok (.iload 4, 2) := by decide +kernel
theorem dX8_runners_66 : decode cX8_runners 66 = .ok (.aload_n 0, 1) := by decide +kernel
theorem dX8_runners_67 : decode cX8_runners 67 = .ok (.getfield 50, 3) := by decide +kernel
theorem dX8_runners_70 : decode cX8_runners 70 = .ok (.iload 6, 2) := by decide +kernel
theorem dX8_runners_72 : decode cX8_runners 72 = .ok (.iaload, 1) := by decide +kernel
theorem dX8_runners_73 : decode cX8_runners 73 = .ok (.iadd, 1) := by decide +kernel
theorem dX8_runners_74 : decode cX8_runners 74 = .ok (.istore 4, 2) := by decide +kernel
theorem dX8_runners_76 : decode cX8_runners 76 = .ok (.goto 20, 3) := by decide +kernel
theorem dX8_runners_79 : decode cX8_runners 79 = .ok (.aload_n 0, 1) := by decide +kernel
theorem dX8_runners_80 : decode cX8_runners 80 = .ok (.iload 6, 2) := by decide +kernel
theorem dX8_runners_82 : decode cX8_runners 82 = .ok (.iconst 1, 1) := by decide +kernel
theorem dX8_runners_83 : decode cX8_runners 83 = .ok (.invokevirtual 234, 3) := by decide +kernel
theorem dX8_runners_86 : decode cX8_runners 86 = .ok (.ifCond .eq 10, 3) := by decide +kernel
theorem dX8_runners_89 : decode cX8_runners 89 = .ok (.iload_n 3, 1) := by decide +kernel
theorem dX8_runners_90 : decode cX8_runners 90 = .ok (.iconst 1, 1) := by decide +kernel
theorem dX8_runners_91 : decode cX8_runners 91 = .ok (.iload 6, 2) := by decide +kernel
theorem dX8_runners_93 : decode cX8_runners 93 = .ok (.ishl, 1) := by decide +kernel
theorem dX8_runners_94 : decode cX8_runners 94 = .ok (.iadd, 1) := by decide +kernel
theorem dX8_runners_95 : decode cX8_runners 95 = .ok (.istore_n 3, 1) := by decide +kernel
theorem dX8_runners_96 : decode cX8_runners 96 = .ok (.iinc 6 1, 3) := by decide +kernel
theorem dX8_runners_99 : decode cX8_runners 99 = .ok (.goto (-54), 3) := by decide +kernel
theorem dX8_runners_102 : decode cX8_runners 102 = .ok (.iconst 0, 1) := by decide +kernel
theorem dX8_runners_103 : decode cX8_runners 103 = .ok (.istore 6, 2) := by decide +kernel
theorem dX8_runners_105 : decode cX8_runners 105 = .ok (.iload 6, 2) := by decide +kernel
theorem dX8_runners_107 : decode cX8_runners 107 = .ok (.iconst 1, 1) := by decide +kernel
theorem dX8_runners_108 : decode cX8_runners 108 = .ok (.aload_n 0, 1) := by decide +kernel
theorem dX8_runners_109 : decode cX8_runners 109 = .ok (.getfield 108, 3) := by decide +kernel
theorem dX8_runners_112 : decode cX8_runners 112 = .ok (.ishl, 1) := by decide +kernel
theorem dX8_runners_113 : decode cX8_runners 113 = .ok (.if_icmp .ge 46, 3) := by decide +kernel
theorem dX8_runners_116 : decode cX8_runners 116 = .ok (.iload 6, 2) := by decide +kernel
theorem dX8_runners_118 : decode cX8_runners 118 = .ok (.iload_n 3, 1) := by decide +kernel
theorem dX8_runners_119 : decode cX8_runners 119 = .ok (.ior, 1) := by decide +kernel
theorem dX8_runners_120 : decode cX8_runners 120 = .ok (.iload_n 3, 1) := by decide +kernel
theorem dX8_runners_121 : decode cX8_runners 121 = .ok (.if_icmp .ne 32, 3) := by decide +kernel
theorem dX8_runners_124 : decode cX8_runners 124 = .ok (.aload_n 0, 1) := by decide +kernel
theorem dX8_runners_125 : decode cX8_runners 125 = .ok (.iload 6, 2) := by decide +kernel
theorem dX8_runners_127 : decode cX8_runners 127 = .ok (.invokevirtual 228, 3) := by decide +kernel
theorem dX8_runners_130 : decode cX8_runners 130 = .ok (.iload_n 1, 1) := by decide +kernel
theorem dX8_runners_131 : decode cX8_runners 131 = .ok (.if_icmp .gt 22, 3) := by decide +kernel
theorem dX8_runners_134 : decode cX8_runners 134 = .ok (.aload_n 0, 1) := by decide +kernel
theorem dX8_runners_135 : decode cX8_runners 135 = .ok (.iload 6, 2) := by decide +kernel
theorem dX8_runners_137 : decode cX8_runners 137 = .ok (.invokevirtual 231, 3) := by decide +kernel
theorem dX8_runners_140 : decode cX8_runners 140 = .ok (.aload_n 0, 1) := by decide +kernel
theorem dX8_runners_141 : decode cX8_runners 141 = .ok (.iload 5, 2) := by decide +kernel
theorem dX8_runners_143 : decode cX8_runners 143 = .ok (.invokevirtual 231, 3) := by decide +kernel
theorem dX8_runners_146 : decode cX8_runners 146 = .ok (.if_icmp .le 7, 3) := by decide +kernel
theorem dX8_runners_149 : decode cX8_runners 149 = .ok (.iload 6, 2) := by decide +kernel
theorem dX8_runners_151 : decode cX8_runners 151 = .ok (.istore 5, 2) := by decide +kernel
theorem dX8_runners_153 : decode cX8_runners 153 = .ok (.iinc 6 1, 3) := by decide +kernel
theorem dX8_runners_156 : decode cX8_runners 156 = .ok (.goto (-51), 3) := by decide +kernel
theorem dX8_runners_159 : decode cX8_runners 159 = .ok (.iload_n 2, 1) := by decide +kernel
theorem dX8_runners_160 : decode cX8_runners 160 = .ok (.ifCond .ne 15, 3) := by decide +kernel
theorem dX8_runners_163 : decode cX8_runners 163 = .ok (.iload 4, 2) := by decide +kernel
theorem dX8_runners_165 : decode cX8_runners 165 = .ok (.aload_n 0, 1) := by decide +kernel
theorem dX8_runners_166 : decode cX8_runners 166 = .ok (.iload 5, 2) := by decide +kernel
theorem dX8_runners_168 : decode cX8_runners 168 = .ok (.invokevirtual 231, 3) := by decide +kernel
theorem dX8_runners_171 : decode cX8_runners 171 = .ok (.iadd, 1) := by decide +kernel
theorem dX8_runners_172 : decode cX8_runners 172 = .ok (.goto 5, 3) := by decide +kernel
theorem dX8_runners_175 : decode cX8_runners 175 = .ok (.iload 5, 2) := by decide +kernel
theorem dX8_runners_177 : decode cX8_runners 177 = .ok (.ireturn, 1) := by decide +kernel
theorem dX8_mayCome_0 : decode cX8_mayCome 0 = .ok (.iload_n 2, 1) := by decide +kernel
theorem dX8_mayCome_1 : decode cX8_mayCome 1 = .ok (.aload_n 0, 1) := by decide +kernel
theorem dX8_mayCome_2 : decode cX8_mayCome 2 = .ok (.getfield 41, 3) := by decide +kernel
theorem dX8_mayCome_5 : decode cX8_mayCome 5 = .ok (.iload_n 1, 1) := by decide +kernel
theorem dX8_mayCome_6 : decode cX8_mayCome 6 = .ok (.iaload, 1) := by decide +kernel
theorem dX8_mayCome_7 : decode cX8_mayCome 7 = .ok (.if_icmp .lt 17, 3) := by decide +kernel
theorem dX8_mayCome_10 : decode cX8_mayCome 10 = .ok (.iload_n 2, 1) := by decide +kernel
theorem dX8_mayCome_11 : decode cX8_mayCome 11 = .ok (.aload_n 0, 1) := by decide +kernel
theorem dX8_mayCome_12 : decode cX8_mayCome 12 = .ok (.getfield 44, 3) := by decide +kernel
theorem dX8_mayCome_15 : decode cX8_mayCome 15 = .ok (.iload_n 1, 1) := by decide +kernel
theorem dX8_mayCome_16 : decode cX8_mayCome 16 = .ok (.iaload, 1) := by decide +kernel
theorem dX8_mayCome_17 : decode cX8_mayCome 17 = .ok (.if_icmp .gt 7, 3) := by decide +kernel
theorem dX8_mayCome_20 : decode cX8_mayCome 20 = .ok (.iconst 1, 1) := by decide +kernel
theorem dX8_mayCome_21 : decode cX8_mayCome 21 = .ok (.goto 4, 3) := by decide +kernel
theorem dX8_mayCome_24 : decode cX8_mayCome 24 = .ok (.iconst 0, 1) := by decide +kernel
theorem dX8_mayCome_25 : decode cX8_mayCome 25 = .ok (.ireturn, 1) := by decide +kernel
theorem dX8_left_0 : decode cX8_left 0 = .ok (.aload_n 0, 1) := by decide +kernel
theorem dX8_left_1 : decode cX8_left 1 = .ok (.iload_n 1, 1) := by decide +kernel
theorem dX8_left_2 : decode cX8_left 2 = .ok (.invokevirtual 195, 3) := by decide +kernel
theorem dX8_left_5 : decode cX8_left 5 = .ok (.istore_n 3, 1) := by decide +kernel
theorem dX8_left_6 : decode cX8_left 6 = .ok (.iload_n 3, 1) := by decide +kernel
theorem dX8_left_7 : decode cX8_left 7 = .ok (.ifCond .ne 40, 3) := by decide +kernel
theorem dX8_left_10 : decode cX8_left 10 = .ok (.iload_n 2, 1) := by decide +kernel
theorem dX8_left_11 : decode cX8_left 11 = .ok (.ifCond .ge 8, 3) := by decide +kernel
theorem dX8_left_14 : decode cX8_left 14 = .ok (.bipush (-4), 2) := by decide +kernel
theorem dX8_left_16 : decode cX8_left 16 = .ok (.goto 30, 3) := by decide +kernel
theorem dX8_left_19 : decode cX8_left 19 = .ok (.iload_n 2, 1) := by decide +kernel
theorem dX8_left_20 : decode cX8_left 20 = .ok (.aload_n 0, 1) := by decide +kernel
theorem dX8_left_21 : decode cX8_left 21 = .ok (.getfield 65, 3) := by decide +kernel
theorem dX8_left_24 : decode cX8_left 24 = .ok (.iload_n 1, 1) := by decide +kernel
theorem dX8_left_25 : decode cX8_left 25 = .ok (.iaload, 1) := by decide +kernel
theorem dX8_left_26 : decode cX8_left 26 = .ok (.if_icmp .le 8, 3) := by decide +kernel
theorem dX8_left_29 : decode cX8_left 29 = .ok (.bipush (-5), 2) := by decide +kernel
theorem dX8_left_31 : decode cX8_left 31 = .ok (.goto 15, 3) := by decide +kernel
theorem dX8_left_34 : decode cX8_left 34 = .ok (.iload_n 2, 1) := by decide +kernel
theorem dX8_left_35 : decode cX8_left 35 = .ok (.bipush 40, 2) := by decide +kernel
theorem dX8_left_37 : decode cX8_left 37 = .ok (.if_icmp .le 8, 3) := by decide +kernel
theorem dX8_left_40 : decode cX8_left 40 = .ok (.bipush (-6), 2) := by decide +kernel
theorem dX8_left_42 : decode cX8_left 42 = .ok (.goto 4, 3) := by decide +kernel
theorem dX8_left_45 : decode cX8_left 45 = .ok (.iconst 0, 1) := by decide +kernel
theorem dX8_left_46 : decode cX8_left 46 = .ok (.istore_n 3, 1) := by decide +kernel
theorem dX8_left_47 : decode cX8_left 47 = .ok (.iconst 0, 1) := by decide +kernel
theorem dX8_left_48 : decode cX8_left 48 = .ok (.istore 4, 2) := by decide +kernel
theorem dX8_left_50 : decode cX8_left 50 = .ok (.iload 4, 2) := by decide +kernel
theorem dX8_left_52 : decode cX8_left 52 = .ok (.iload_n 2, 1) := by decide +kernel
theorem dX8_left_53 : decode cX8_left 53 = .ok (.if_icmp .ge 33, 3) := by decide +kernel
theorem dX8_left_56 : decode cX8_left 56 = .ok (.iload_n 3, 1) := by decide +kernel
theorem dX8_left_57 : decode cX8_left 57 = .ok (.ifCond .ne 29, 3) := by decide +kernel
theorem dX8_left_60 : decode cX8_left 60 = .ok (.aload_n 0, 1) := by decide +kernel
theorem dX8_left_61 : decode cX8_left 61 = .ok (.aload_n 0, 1) := by decide +kernel
theorem dX8_left_62 : decode cX8_left 62 = .ok (.iload_n 1, 1) := by decide +kernel
theorem dX8_left_63 : decode cX8_left 63 = .ok (.iload 4, 2) := by decide +kernel
theorem dX8_left_65 : decode cX8_left 65 = .ok (.invokevirtual 238, 3) := by decide +kernel
theorem dX8_left_68 : decode cX8_left 68 = .ok (.iconst 0, 1) := by decide +kernel
theorem dX8_left_69 : decode cX8_left 69 = .ok (.bipush 23, 2) := by decide +kernel
theorem dX8_left_71 : decode cX8_left 71 = .ok (.invokevirtual 122, 3) := by decide +kernel
theorem dX8_left_74 : decode cX8_left 74 = .ok (.ifCond .ne 6, 3) := by decide +kernel
theorem dX8_left_77 : decode cX8_left 77 = .ok (.bipush (-6), 2) := by decide +kernel
theorem dX8_left_79 : decode cX8_left 79 = .ok (.istore_n 3, 1) := by decide +kernel
theorem dX8_left_80 : decode cX8_left 80 = .ok (.iinc 4 1, 3) := by decide +kernel
theorem dX8_left_83 : decode cX8_left 83 = .ok (.goto (-33), 3) := by decide +kernel
theorem dX8_left_86 : decode cX8_left 86 = .ok (.iload_n 3, 1) := by decide +kernel
theorem dX8_left_87 : decode cX8_left 87 = .ok (.ifCond .eq 9, 3) := by decide +kernel
theorem dX8_left_90 : decode cX8_left 90 = .ok (.aload_n 0, 1) := by decide +kernel
theorem dX8_left_91 : decode cX8_left 91 = .ok (.iload_n 3, 1) := by decide +kernel
theorem dX8_left_92 : decode cX8_left 92 = .ok (.invokevirtual 115, 3) := by decide +kernel
theorem dX8_left_95 : decode cX8_left 95 = .ok (.ireturn, 1) := by decide +kernel
theorem dX8_left_96 : decode cX8_left 96 = .ok (.iconst 0, 1) := by decide +kernel
theorem dX8_left_97 : decode cX8_left 97 = .ok (.istore 4, 2) := by decide +kernel
theorem dX8_left_99 : decode cX8_left 99 = .ok (.iconst 0, 1) := by decide +kernel
theorem dX8_left_100 : decode cX8_left 100 = .ok (.istore 5, 2) := by decide +kernel
theorem dX8_left_102 : decode cX8_left 102 = .ok (.iload 5, 2) := by decide +kernel
theorem dX8_left_104 : decode cX8_left 104 = .ok (.aload_n 0, 1) := by decide +kernel
theorem dX8_left_105 : decode cX8_left 105 = .ok (.getfield 108, 3) := by decide +kernel
theorem dX8_left_108 : decode cX8_left 108 = .ok (.if_icmp .ge 61, 3) := by decide +kernel
theorem dX8_left_111 : decode cX8_left 111 = .ok (.iconst 1, 1) := by decide +kernel
theorem dX8_left_112 : decode cX8_left 112 = .ok (.istore 6, 2) := by decide +kernel
theorem dX8_left_114 : decode cX8_left 114 = .ok (.iconst 0, 1) := by decide +kernel
theorem dX8_left_115 : decode cX8_left 115 = .ok (.istore 7, 2) := by decide +kernel
theorem dX8_left_117 : decode cX8_left 117 = .ok (.iload 7, 2) := by decide +kernel
theorem dX8_left_119 : decode cX8_left 119 = .ok (.iload_n 2, 1) := by decide +kernel
theorem dX8_left_120 : decode cX8_left 120 = .ok (.if_icmp .ge 29, 3) := by decide +kernel
theorem dX8_left_123 : decode cX8_left 123 = .ok (.iload 6, 2) := by decide +kernel
theorem dX8_left_125 : decode cX8_left 125 = .ok (.ifCond .eq 24, 3) := by decide +kernel
theorem dX8_left_128 : decode cX8_left 128 = .ok (.aload_n 0, 1) := by decide +kernel
theorem dX8_left_129 : decode cX8_left 129 = .ok (.iload 5, 2) := by decide +kernel
theorem dX8_left_131 : decode cX8_left 131 = .ok (.aload_n 0, 1) := by decide +kernel
theorem dX8_left_132 : decode cX8_left 132 = .ok (.iload_n 1, 1) := by decide +kernel
theorem dX8_left_133 : decode cX8_left 133 = .ok (.iload 7, 2) := by decide +kernel
theorem dX8_left_135 : decode cX8_left 135 = .ok (.invokevirtual 238, 3) := by decide +kernel
theorem dX8_left_138 : decode cX8_left 138 = .ok (.invokevirtual 241, 3) := by decide +kernel
theorem dX8_left_141 : decode cX8_left 141 = .ok (.istore 6, 2) := by decide +kernel
theorem dX8_left_143 : decode cX8_left 143 = .ok (.iinc 7 1, 3) := by decide +kernel
theorem dX8_left_146 : decode cX8_left 146 = .ok (.goto (-29), 3) := by decide +kernel
theorem dX8_left_149 : decode cX8_left 149 = .ok (.iload 6, 2) := by decide +kernel
theorem dX8_left_151 : decode cX8_left 151 = .ok (.ifCond .eq 12, 3) := by decide +kernel
theorem dX8_left_154 : decode cX8_left 154 = .ok (.iload 4, 2) := by decide +kernel
theorem dX8_left_156 : decode cX8_left 156 = .ok (.iconst 1, 1) := by decide +kernel
theorem dX8_left_157 : decode cX8_left 157 = .ok (.iload 5, 2) := by decide +kernel
theorem dX8_left_159 : decode cX8_left 159 = .ok (.ishl, 1) := by decide +kernel
theorem dX8_left_160 : decode cX8_left 160 = .ok (.iadd, 1) := by decide +kernel
theorem dX8_left_161 : decode cX8_left 161 = .ok (.istore 4, 2) := by decide +kernel
theorem dX8_left_163 : decode cX8_left 163 = .ok (.iinc 5 1, 3) := by decide +kernel
theorem dX8_left_166 : decode cX8_left 166 = .ok (.goto (-64), 3) := by decide +kernel
theorem dX8_left_169 : decode cX8_left 169 = .ok (.iload 4, 2) := by decide +kernel
theorem dX8_left_171 : decode cX8_left 171 = .ok (.ireturn, 1) := by decide +kernel
theorem dX8_awaited_0 : decode cX8_awaited 0 = .ok (.iconst 0, 1) := by decide +kernel
theorem dX8_awaited_1 : decode cX8_awaited 1 = .ok (.istore_n 2, 1) := by decide +kernel
theorem dX8_awaited_2 : decode cX8_awaited 2 = .ok (.iconst 0, 1) := by decide +kernel
theorem dX8_awaited_3 : decode cX8_awaited 3 = .ok (.istore_n 3, 1) := by decide +kernel
theorem dX8_awaited_4 : decode cX8_awaited 4 = .ok (.iload_n 3, 1) := by decide +kernel
theorem dX8_awaited_5 : decode cX8_awaited 5 = .ok (.aload_n 0, 1) := by decide +kernel
theorem dX8_awaited_6 : decode cX8_awaited 6 = .ok (.getfield 108, 3) := by decide +kernel
theorem dX8_awaited_9 : decode cX8_awaited 9 = .ok (.if_icmp .ge 21, 3) := by decide +kernel
theorem dX8_awaited_12 : decode cX8_awaited 12 = .ok (.aload_n 0, 1) := by decide +kernel
theorem dX8_awaited_13 : decode cX8_awaited 13 = .ok (.iload_n 3, 1) := by decide +kernel
theorem dX8_awaited_14 : decode cX8_awaited 14 = .ok (.iload_n 1, 1) := by decide +kernel
theorem dX8_awaited_15 : decode cX8_awaited 15 = .ok (.invokevirtual 241, 3) := by decide +kernel
theorem dX8_awaited_18 : decode cX8_awaited 18 = .ok (.ifCond .eq 6, 3) := by decide +kernel
theorem dX8_awaited_21 : decode cX8_awaited 21 = .ok (.iinc 2 1, 3) := by decide +kernel
theorem dX8_awaited_24 : decode cX8_awaited 24 = .ok (.iinc 3 1, 3) := by decide +kernel
theorem dX8_awaited_27 : decode cX8_awaited 27 = .ok (.goto (-23), 3) := by decide +kernel
theorem dX8_awaited_30 : decode cX8_awaited 30 = .ok (.iload_n 2, 1) := by decide +kernel
theorem dX8_awaited_31 : decode cX8_awaited 31 = .ok (.ireturn, 1) := by decide +kernel
theorem dX8_await_0 : decode cX8_await 0 = .ok (.aload_n 0, 1) := by decide +kernel
theorem dX8_await_1 : decode cX8_await 1 = .ok (.iload_n 1, 1) := by decide +kernel
theorem dX8_await_2 : decode cX8_await 2 = .ok (.iconst (-1), 1) := by decide +kernel
theorem dX8_await_3 : decode cX8_await 3 = .ok (.bipush 23, 2) := by decide +kernel
theorem dX8_await_5 : decode cX8_await 5 = .ok (.invokevirtual 122, 3) := by decide +kernel
theorem dX8_await_8 : decode cX8_await 8 = .ok (.ifCond .ne 10, 3) := by decide +kernel
theorem dX8_await_11 : decode cX8_await 11 = .ok (.aload_n 0, 1) := by decide +kernel
theorem dX8_await_12 : decode cX8_await 12 = .ok (.bipush (-6), 2) := by decide +kernel
theorem dX8_await_14 : decode cX8_await 14 = .ok (.invokevirtual 115, 3) := by decide +kernel
theorem dX8_await_17 : decode cX8_await 17 = .ok (.ireturn, 1) := by decide +kernel
theorem dX8_await_18 : decode cX8_await 18 = .ok (.iload_n 1, 1) := by decide +kernel
theorem dX8_await_19 : decode cX8_await 19 = .ok (.iconst (-1), 1) := by decide +kernel
theorem dX8_await_20 : decode cX8_await 20 = .ok (.if_icmp .eq 9, 3) := by decide +kernel
theorem dX8_await_23 : decode cX8_await 23 = .ok (.aload_n 0, 1) := by decide +kernel
theorem dX8_await_24 : decode cX8_await 24 = .ok (.iload_n 1, 1) := by decide +kernel
theorem dX8_await_25 : decode cX8_await 25 = .ok (.invokevirtual 244, 3) := by decide +kernel
theorem dX8_await_28 : decode cX8_await 28 = .ok (.ireturn, 1) := by decide +kernel
theorem dX8_await_29 : decode cX8_await 29 = .ok (.iconst 0, 1) := by decide +kernel
theorem dX8_await_30 : decode cX8_await 30 = .ok (.istore_n 2, 1) := by decide +kernel
theorem dX8_await_31 : decode cX8_await 31 = .ok (.iconst 1, 1) := by decide +kernel
theorem dX8_await_32 : decode cX8_await 32 = .ok (.istore_n 3, 1) := by decide +kernel
theorem dX8_await_33 : decode cX8_await 33 = .ok (.iload_n 3, 1) := by decide +kernel
theorem dX8_await_34 : decode cX8_await 34 = .ok (.bipush 23, 2) := by decide +kernel
theorem dX8_await_36 : decode cX8_await 36 = .ok (.if_icmp .gt 24, 3) := by decide +kernel
theorem dX8_await_39 : decode cX8_await 39 = .ok (.aload_n 0, 1) := by decide +kernel
theorem dX8_await_40 : decode cX8_await 40 = .ok (.iload_n 3, 1) := by decide +kernel
theorem dX8_await_41 : decode cX8_await 41 = .ok (.invokevirtual 244, 3) := by decide +kernel
theorem dX8_await_44 : decode cX8_await 44 = .ok (.aload_n 0, 1) := by decide +kernel
theorem dX8_await_45 : decode cX8_await 45 = .ok (.iload_n 2, 1) := by decide +kernel
theorem dX8_await_46 : decode cX8_await 46 = .ok (.invokevirtual 244, 3) := by decide +kernel
theorem dX8_await_49 : decode cX8_await 49 = .ok (.if_icmp .le 5, 3) := by decide +kernel
theorem dX8_await_52 : decode cX8_await 52 = .ok (.iload_n 3, 1) := by decide +kernel
theorem dX8_await_53 : decode cX8_await 53 = .ok (.istore_n 2, 1) := by decide +kernel
theorem dX8_await_54 : decode cX8_await 54 = .ok (.iinc 3 1, 3) := by decide +kernel
theorem dX8_await_57 : decode cX8_await 57 = .ok (.goto (-24), 3) := by decide +kernel
theorem dX8_await_60 : decode cX8_await 60 = .ok (.iload_n 2, 1) := by decide +kernel
theorem dX8_await_61 : decode cX8_await 61 = .ok (.ireturn, 1) := by decide +kernel
theorem dX8_wrongIn_0 : decode cX8_wrongIn 0 = .ok (.iconst 0, 1) := by decide +kernel
theorem dX8_wrongIn_1 : decode cX8_wrongIn 1 = .ok (.istore_n 3, 1) := by decide +kernel
theorem dX8_wrongIn_2 : decode cX8_wrongIn 2 = .ok (.aload_n 0, 1) := by decide +kernel
theorem dX8_wrongIn_3 : decode cX8_wrongIn 3 = .ok (.iconst 0, 1) := by decide +kernel
theorem dX8_wrongIn_4 : decode cX8_wrongIn 4 = .ok (.putfield 247, 3) := by decide +kernel
theorem dX8_wrongIn_7 : decode cX8_wrongIn 7 = .ok (.aload_n 0, 1) := by decide +kernel
theorem dX8_wrongIn_8 : decode cX8_wrongIn 8 = .ok (.iconst 0, 1) := by decide +kernel
theorem dX8_wrongIn_9 : decode cX8_wrongIn 9 = .ok (.putfield 250, 3) := by decide +kernel
theorem dX8_wrongIn_12 : decode cX8_wrongIn 12 = .ok (.aload_n 0, 1) := by decide +kernel
theorem dX8_wrongIn_13 : decode cX8_wrongIn 13 = .ok (.iconst 0, 1) := by decide +kernel
theorem dX8_wrongIn_14 : decode cX8_wrongIn 14 = .ok (.putfield 253, 3) := by decide +kernel
theorem dX8_wrongIn_17 : decode cX8_wrongIn 17 = .ok (.iconst 0, 1) := by decide +kernel
theorem dX8_wrongIn_18 : decode cX8_wrongIn 18 = .ok (.istore 4, 2) := by decide +kernel
theorem dX8_wrongIn_20 : decode cX8_wrongIn 20 = .ok (.iload 4, 2) := by decide +kernel
theorem dX8_wrongIn_22 : decode cX8_wrongIn 22 = .ok (.iload_n 2, 1) := by decide +kernel
theorem dX8_wrongIn_23 : decode cX8_wrongIn 23 = .ok (.if_icmp .ge 149, 3) := by decide +kernel
theorem dX8_wrongIn_26 : decode cX8_wrongIn 26 = .ok (.aload_n 0, 1) := by decide +kernel
theorem dX8_wrongIn_27 : decode cX8_wrongIn 27 = .ok (.iload_n 1, 1) := by decide +kernel
theorem dX8_wrongIn_28 : decode cX8_wrongIn 28 = .ok (.iload 4, 2) := by decide +kernel
theorem dX8_wrongIn_30 : decode cX8_wrongIn 30 = .ok (.invokevirtual 238, 3) := by decide +kernel
theorem dX8_wrongIn_33 : decode cX8_wrongIn 33 = .ok (.istore 5, 2) := by decide +kernel
theorem dX8_wrongIn_35 : decode cX8_wrongIn 35 = .ok (.iload 5, 2) := by decide +kernel
theorem dX8_wrongIn_37 : decode cX8_wrongIn 37 = .ok (.bipush 100, 2) := by decide +kernel
theorem dX8_wrongIn_39 : decode cX8_wrongIn 39 = .ok (.idiv, 1) := by decide +kernel
theorem dX8_wrongIn_40 : decode cX8_wrongIn 40 = .ok (.istore 6, 2) := by decide +kernel
theorem dX8_wrongIn_42 : decode cX8_wrongIn 42 = .ok (.iload 5, 2) := by decide +kernel
theorem dX8_wrongIn_44 : decode cX8_wrongIn 44 = .ok (.bipush 100, 2) := by decide +kernel
theorem dX8_wrongIn_46 : decode cX8_wrongIn 46 = .ok (.irem, 1) := by decide +kernel
theorem dX8_wrongIn_47 : decode cX8_wrongIn 47 = .ok (.istore 7, 2) := by decide +kernel
theorem dX8_wrongIn_49 : decode cX8_wrongIn 49 = .ok (.iload 5, 2) := by decide +kernel
theorem dX8_wrongIn_51 : decode cX8_wrongIn 51 = .ok (.ifCond .lt 22, 3) := by decide +kernel
theorem dX8_wrongIn_54 : decode cX8_wrongIn 54 = .ok (.iload 6, 2) := by decide +kernel
theorem dX8_wrongIn_56 : decode cX8_wrongIn 56 = .ok (.aload_n 0, 1) := by decide +kernel
theorem dX8_wrongIn_57 : decode cX8_wrongIn 57 = .ok (.getfield 108, 3) := by decide +kernel
theorem dX8_wrongIn_60 : decode cX8_wrongIn 60 = .ok (.if_icmp .ge 13, 3) := by decide +kernel
theorem dX8_wrongIn_63 : decode cX8_wrongIn 63 = .ok (.iload_n 3, 1) := by decide +kernel
theorem dX8_wrongIn_64 : decode cX8_wrongIn 64 = .ok (.iload 6, 2) := by decide +kernel
theorem dX8_wrongIn_66 : decode cX8_wrongIn 66 = .ok (.ishr, 1) := by decide +kernel
theorem dX8_wrongIn_67 : decode cX8_wrongIn 67 = .ok (.iconst 1, 1) := by decide +kernel
theorem dX8_wrongIn_68 : decode cX8_wrongIn 68 = .ok (.iand, 1) := by decide +kernel
theorem dX8_wrongIn_69 : decode cX8_wrongIn 69 = .ok (.iconst 1, 1) := by decide +kernel
theorem dX8_wrongIn_70 : decode cX8_wrongIn 70 = .ok (.if_icmp .ne 6, 3) := by decide +kernel
theorem dX8_wrongIn_73 : decode cX8_wrongIn 73 = .ok (.iload 4, 2) := by decide +kernel
theorem dX8_wrongIn_75 : decode cX8_wrongIn 75 = .ok (.ireturn, 1) := by decide +kernel
theorem dX8_wrongIn_76 : decode cX8_wrongIn 76 = .ok (.iload_n 3, 1) := by decide +kernel
theorem dX8_wrongIn_77 : decode cX8_wrongIn 77 = .ok (.iconst 1, 1) := by decide +kernel
theorem dX8_wrongIn_78 : decode cX8_wrongIn 78 = .ok (.iload 6, 2) := by decide +kernel
theorem dX8_wrongIn_80 : decode cX8_wrongIn 80 = .ok (.ishl, 1) := by decide +kernel
theorem dX8_wrongIn_81 : decode cX8_wrongIn 81 = .ok (.iadd, 1) := by decide +kernel
theorem dX8_wrongIn_82 : decode cX8_wrongIn 82 = .ok (.istore_n 3, 1) := by decide +kernel
theorem dX8_wrongIn_83 : decode cX8_wrongIn 83 = .ok (.iload 7, 2) := by decide +kernel
theorem dX8_wrongIn_85 : decode cX8_wrongIn 85 = .ok (.bipush 99, 2) := by decide +kernel
theorem dX8_wrongIn_87 : decode cX8_wrongIn 87 = .ok (.if_icmp .ne 26, 3) := by decide +kernel
theorem dX8_wrongIn_90 : decode cX8_wrongIn 90 = .ok (.aload_n 0, 1) := by decide +kernel
theorem dX8_wrongIn_91 : decode cX8_wrongIn 91 = .ok (.getfield 47, 3) := by decide +kernel
theorem dX8_wrongIn_94 : decode cX8_wrongIn 94 = .ok (.iload 6, 2) := by decide +kernel
theorem dX8_wrongIn_96 : decode cX8_wrongIn 96 = .ok (.iaload, 1) := by decide +kernel
theorem dX8_wrongIn_97 : decode cX8_wrongIn 97 = .ok (.ifCond .le 16, 3) := by decide +kernel
theorem dX8_wrongIn_100 : decode cX8_wrongIn 100 = .ok (.aload_n 0, 1) := by decide +kernel
theorem dX8_wrongIn_101 : decode cX8_wrongIn 101 = .ok (.dup, 1) := by decide +kernel
theorem dX8_wrongIn_102 : decode cX8_wrongIn 102 = .ok (.getfield 253, 3) := by decide +kernel
theorem dX8_wrongIn_105 : decode cX8_wrongIn 105 = .ok (.iconst 1, 1) := by decide +kernel
theorem dX8_wrongIn_106 : decode cX8_wrongIn 106 = .ok (.iadd, 1) := by decide +kernel
theorem dX8_wrongIn_107 : decode cX8_wrongIn 107 = .ok (.putfield 253, 3) := by decide +kernel
theorem dX8_wrongIn_110 : decode cX8_wrongIn 110 = .ok (.goto 56, 3) := by decide +kernel
theorem dX8_wrongIn_113 : decode cX8_wrongIn 113 = .ok (.aload_n 0, 1) := by decide +kernel
theorem dX8_wrongIn_114 : decode cX8_wrongIn 114 = .ok (.iload 6, 2) := by decide +kernel
theorem dX8_wrongIn_116 : decode cX8_wrongIn 116 = .ok (.iload 7, 2) := by decide +kernel
theorem dX8_wrongIn_118 : decode cX8_wrongIn 118 = .ok (.invokevirtual 241, 3) := by decide +kernel
theorem dX8_wrongIn_121 : decode cX8_wrongIn 121 = .ok (.ifCond .ne 6, 3) := by decide +kernel
theorem dX8_wrongIn_124 : decode cX8_wrongIn 124 = .ok (.iload 4, 2) := by decide +kernel
theorem dX8_wrongIn_126 : decode cX8_wrongIn 126 = .ok (.ireturn, 1) := by decide +kernel
theorem dX8_wrongIn_127 : decode cX8_wrongIn 127 = .ok (.aload_n 0, 1) := by decide +kernel
theorem dX8_wrongIn_128 : decode cX8_wrongIn 128 = .ok (.iload 6, 2) := by decide +kernel
theorem dX8_wrongIn_130 : decode cX8_wrongIn 130 = .ok (.iconst 0, 1) := by decide +kernel
theorem dX8_wrongIn_131 : decode cX8_wrongIn 131 = .ok (.invokevirtual 234, 3) := by decide +kernel
theorem dX8_wrongIn_134 : decode cX8_wrongIn 134 = .ok (.ifCond .ne 6, 3) := by decide +kernel
theorem dX8_wrongIn_137 : decode cX8_wrongIn 137 = .ok (.goto 29, 3) := by decide +kernel
theorem dX8_wrongIn_140 : decode cX8_wrongIn 140 = .ok (.aload_n 0, 1) := by decide +kernel
theorem dX8_wrongIn_141 : decode cX8_wrongIn 141 = .ok (.dup, 1) := by decide +kernel
theorem dX8_wrongIn_142 : decode cX8_wrongIn 142 = .ok (.getfield 247, 3) := by decide +kernel
theorem dX8_wrongIn_145 : decode cX8_wrongIn 145 = .ok (.iconst 1, 1) := by decide +kernel
theorem dX8_wrongIn_146 : decode cX8_wrongIn 146 = .ok (.iadd, 1) := by decide +kernel
theorem dX8_wrongIn_147 : decode cX8_wrongIn 147 = .ok (.putfield 247, 3) := by decide +kernel
theorem dX8_wrongIn_150 : decode cX8_wrongIn 150 = .ok (.aload_n 0, 1) := by decide +kernel
theorem dX8_wrongIn_151 : decode cX8_wrongIn 151 = .ok (.dup, 1) := by decide +kernel
theorem dX8_wrongIn_152 : decode cX8_wrongIn 152 = .ok (.getfield 250, 3) := by decide +kernel
theorem dX8_wrongIn_155 : decode cX8_wrongIn 155 = .ok (.aload_n 0, 1) := by decide +kernel
theorem dX8_wrongIn_156 : decode cX8_wrongIn 156 = .ok (.getfield 50, 3) := by decide +kernel
theorem dX8_wrongIn_159 : decode cX8_wrongIn 159 = .ok (.iload 6, 2) := by decide +kernel
theorem dX8_wrongIn_161 : decode cX8_wrongIn 161 = .ok (.iaload, 1) := by decide +kernel
theorem dX8_wrongIn_162 : decode cX8_wrongIn 162 = .ok (.iadd, 1) := by decide +kernel
theorem dX8_wrongIn_163 : decode cX8_wrongIn 163 = .ok (.putfield 250, 3) := by decide +kernel
theorem dX8_wrongIn_166 : decode cX8_wrongIn 166 = .ok (.iinc 4 1, 3) := by decide +kernel
theorem dX8_wrongIn_169 : decode cX8_wrongIn 169 = .ok (.goto (-149), 3) := by decide +kernel
theorem dX8_wrongIn_172 : decode cX8_wrongIn 172 = .ok (.iconst (-1), 1) := by decide +kernel
theorem dX8_wrongIn_173 : decode cX8_wrongIn 173 = .ok (.ireturn, 1) := by decide +kernel
theorem dX8_barsOfDay_0 : decode cX8_barsOfDay 0 = .ok (.aload_n 0, 1) := by decide +kernel
theorem dX8_barsOfDay_1 : decode cX8_barsOfDay 1 = .ok (.iload_n 1, 1) := by decide +kernel
theorem dX8_barsOfDay_2 : decode cX8_barsOfDay 2 = .ok (.invokevirtual 195, 3) := by decide +kernel
theorem dX8_barsOfDay_5 : decode cX8_barsOfDay 5 = .ok (.istore_n 3, 1) := by decide +kernel
theorem dX8_barsOfDay_6 : decode cX8_barsOfDay 6 = .ok (.iload_n 3, 1) := by decide +kernel
theorem dX8_barsOfDay_7 : decode cX8_barsOfDay 7 = .ok (.ifCond .eq 7, 3) := by decide +kernel
theorem dX8_barsOfDay_10 : decode cX8_barsOfDay 10 = .ok (.iload_n 3, 1) := by decide +kernel
theorem dX8_barsOfDay_11 : decode cX8_barsOfDay 11 = .ok (.goto 39, 3) := by decide +kernel
theorem dX8_barsOfDay_14 : decode cX8_barsOfDay 14 = .ok (.iload_n 2, 1) := by decide +kernel
theorem dX8_barsOfDay_15 : decode cX8_barsOfDay 15 = .ok (.ifCond .ge 8, 3) := by decide +kernel
theorem dX8_barsOfDay_18 : decode cX8_barsOfDay 18 = .ok (.bipush (-4), 2) := by decide +kernel
theorem dX8_barsOfDay_20 : decode cX8_barsOfDay 20 = .ok (.goto 30, 3) := by decide +kernel
theorem dX8_barsOfDay_23 : decode cX8_barsOfDay 23 = .ok (.iload_n 2, 1) := by decide +kernel
theorem dX8_barsOfDay_24 : decode cX8_barsOfDay 24 = .ok (.aload_n 0, 1) := by decide +kernel
theorem dX8_barsOfDay_25 : decode cX8_barsOfDay 25 = .ok (.getfield 65, 3) := by decide +kernel
theorem dX8_barsOfDay_28 : decode cX8_barsOfDay 28 = .ok (.iload_n 1, 1) := by decide +kernel
theorem dX8_barsOfDay_29 : decode cX8_barsOfDay 29 = .ok (.iaload, 1) := by decide +kernel
theorem dX8_barsOfDay_30 : decode cX8_barsOfDay 30 = .ok (.if_icmp .le 8, 3) := by decide +kernel
theorem dX8_barsOfDay_33 : decode cX8_barsOfDay 33 = .ok (.bipush (-5), 2) := by decide +kernel
theorem dX8_barsOfDay_35 : decode cX8_barsOfDay 35 = .ok (.goto 15, 3) := by decide +kernel
theorem dX8_barsOfDay_38 : decode cX8_barsOfDay 38 = .ok (.iload_n 2, 1) := by decide +kernel
theorem dX8_barsOfDay_39 : decode cX8_barsOfDay 39 = .ok (.bipush 8, 2) := by decide +kernel
theorem dX8_barsOfDay_41 : decode cX8_barsOfDay 41 = .ok (.if_icmp .le 8, 3) := by decide +kernel
theorem dX8_barsOfDay_44 : decode cX8_barsOfDay 44 = .ok (.bipush (-6), 2) := by decide +kernel
theorem dX8_barsOfDay_46 : decode cX8_barsOfDay 46 = .ok (.goto 4, 3) := by decide +kernel
theorem dX8_barsOfDay_49 : decode cX8_barsOfDay 49 = .ok (.iconst 0, 1) := by decide +kernel
theorem dX8_barsOfDay_50 : decode cX8_barsOfDay 50 = .ok (.ireturn, 1) := by decide +kernel
theorem dX8_judge_0 : decode cX8_judge 0 = .ok (.aload_n 0, 1) := by decide +kernel
theorem dX8_judge_1 : decode cX8_judge 1 = .ok (.iload_n 1, 1) := by decide +kernel
theorem dX8_judge_2 : decode cX8_judge 2 = .ok (.iload_n 2, 1) := by decide +kernel
theorem dX8_judge_3 : decode cX8_judge 3 = .ok (.invokevirtual 256, 3) := by decide +kernel
theorem dX8_judge_6 : decode cX8_judge 6 = .ok (.istore_n 3, 1) := by decide +kernel
theorem dX8_judge_7 : decode cX8_judge 7 = .ok (.iload_n 3, 1) := by decide +kernel
theorem dX8_judge_8 : decode cX8_judge 8 = .ok (.ifCond .eq 11, 3) := by decide +kernel
theorem dX8_judge_11 : decode cX8_judge 11 = .ok (.aload_n 0, 1) := by decide +kernel
theorem dX8_judge_12 : decode cX8_judge 12 = .ok (.iload_n 3, 1) := by decide +kernel
theorem dX8_judge_13 : decode cX8_judge 13 = .ok (.invokevirtual 215, 3) := by decide +kernel
theorem dX8_judge_16 : decode cX8_judge 16 = .ok (.goto 9, 3) := by decide +kernel
theorem dX8_judge_19 : decode cX8_judge 19 = .ok (.aload_n 0, 1) := by decide +kernel
theorem dX8_judge_20 : decode cX8_judge 20 = .ok (.iload_n 1, 1) := by decide +kernel
theorem dX8_judge_21 : decode cX8_judge 21 = .ok (.iload_n 2, 1) := by decide +kernel
theorem dX8_judge_22 : decode cX8_judge 22 = .ok (.invokevirtual 259, 3) := by decide +kernel
theorem dX8_judge_25 : decode cX8_judge 25 = .ok (.ireturn, 1) := by decide +kernel
theorem dX8_behind_0 : decode cX8_behind 0 = .ok (.aload_n 0, 1) := by decide +kernel
theorem dX8_behind_1 : decode cX8_behind 1 = .ok (.iload_n 1, 1) := by decide +kernel
theorem dX8_behind_2 : decode cX8_behind 2 = .ok (.iload_n 2, 1) := by decide +kernel
theorem dX8_behind_3 : decode cX8_behind 3 = .ok (.invokevirtual 256, 3) := by decide +kernel
theorem dX8_behind_6 : decode cX8_behind 6 = .ok (.istore 4, 2) := by decide +kernel
theorem dX8_behind_8 : decode cX8_behind 8 = .ok (.iload 4, 2) := by decide +kernel
theorem dX8_behind_10 : decode cX8_behind 10 = .ok (.ifCond .eq 10, 3) := by decide +kernel
theorem dX8_behind_13 : decode cX8_behind 13 = .ok (.iload 4, 2) := by decide +kernel
theorem dX8_behind_15 : decode cX8_behind 15 = .ok (.bipush (-6), 2) := by decide +kernel
theorem dX8_behind_17 : decode cX8_behind 17 = .ok (.if_icmp .ne 16, 3) := by decide +kernel
theorem dX8_behind_20 : decode cX8_behind 20 = .ok (.iload_n 3, 1) := by decide +kernel
theorem dX8_behind_21 : decode cX8_behind 21 = .ok (.ifCond .lt 8, 3) := by decide +kernel
theorem dX8_behind_24 : decode cX8_behind 24 = .ok (.iload_n 3, 1) := by decide +kernel
theorem dX8_behind_25 : decode cX8_behind 25 = .ok (.iconst 2, 1) := by decide +kernel
theorem dX8_behind_26 : decode cX8_behind 26 = .ok (.if_icmp .le 7, 3) := by decide +kernel
theorem dX8_behind_29 : decode cX8_behind 29 = .ok (.bipush (-5), 2) := by decide +kernel
theorem dX8_behind_31 : decode cX8_behind 31 = .ok (.istore 4, 2) := by decide +kernel
theorem dX8_behind_33 : decode cX8_behind 33 = .ok (.iload 4, 2) := by decide +kernel
theorem dX8_behind_35 : decode cX8_behind 35 = .ok (.ifCond .ne 17, 3) := by decide +kernel
theorem dX8_behind_38 : decode cX8_behind 38 = .ok (.aload_n 0, 1) := by decide +kernel
theorem dX8_behind_39 : decode cX8_behind 39 = .ok (.iload_n 1, 1) := by decide +kernel
theorem dX8_behind_40 : decode cX8_behind 40 = .ok (.iload_n 2, 1) := by decide +kernel
theorem dX8_behind_41 : decode cX8_behind 41 = .ok (.invokevirtual 259, 3) := by decide +kernel
theorem dX8_behind_44 : decode cX8_behind 44 = .ok (.iconst (-1), 1) := by decide +kernel
theorem dX8_behind_45 : decode cX8_behind 45 = .ok (.if_icmp .eq 7, 3) := by decide +kernel
theorem dX8_behind_48 : decode cX8_behind 48 = .ok (.bipush (-6), 2) := by decide +kernel
theorem dX8_behind_50 : decode cX8_behind 50 = .ok (.istore 4, 2) := by decide +kernel
theorem dX8_behind_52 : decode cX8_behind 52 = .ok (.iload 4, 2) := by decide +kernel
theorem dX8_behind_54 : decode cX8_behind 54 = .ok (.ifCond .eq 10, 3) := by decide +kernel
theorem dX8_behind_57 : decode cX8_behind 57 = .ok (.aload_n 0, 1) := by decide +kernel
theorem dX8_behind_58 : decode cX8_behind 58 = .ok (.iload 4, 2) := by decide +kernel
theorem dX8_behind_60 : decode cX8_behind 60 = .ok (.invokevirtual 115, 3) := by decide +kernel
theorem dX8_behind_63 : decode cX8_behind 63 = .ok (.ireturn, 1) := by decide +kernel
theorem dX8_behind_64 : decode cX8_behind 64 = .ok (.iload_n 3, 1) := by decide +kernel
theorem dX8_behind_65 : decode cX8_behind 65 = .ok (.ifCond .ne 10, 3) := by decide +kernel
theorem dX8_behind_68 : decode cX8_behind 68 = .ok (.aload_n 0, 1) := by decide +kernel
theorem dX8_behind_69 : decode cX8_behind 69 = .ok (.getfield 247, 3) := by decide +kernel
theorem dX8_behind_72 : decode cX8_behind 72 = .ok (.goto 19, 3) := by decide +kernel
theorem dX8_behind_75 : decode cX8_behind 75 = .ok (.iload_n 3, 1) := by decide +kernel
theorem dX8_behind_76 : decode cX8_behind 76 = .ok (.iconst 1, 1) := by decide +kernel
theorem dX8_behind_77 : decode cX8_behind 77 = .ok (.if_icmp .ne 10, 3) := by decide +kernel
theorem dX8_behind_80 : decode cX8_behind 80 = .ok (.aload_n 0, 1) := by decide +kernel
theorem dX8_behind_81 : decode cX8_behind 81 = .ok (.getfield 250, 3) := by decide +kernel
theorem dX8_behind_84 : decode cX8_behind 84 = .ok (.goto 7, 3) := by decide +kernel
theorem dX8_behind_87 : decode cX8_behind 87 = .ok (.aload_n 0, 1) := by decide +kernel
theorem dX8_behind_88 : decode cX8_behind 88 = .ok (.getfield 253, 3) := by decide +kernel
theorem dX8_behind_91 : decode cX8_behind 91 = .ok (.ireturn, 1) := by decide +kernel
theorem dX8_done_0 : decode cX8_done 0 = .ok (.aload_n 0, 1) := by decide +kernel
theorem dX8_done_1 : decode cX8_done 1 = .ok (.iload_n 1, 1) := by decide +kernel
theorem dX8_done_2 : decode cX8_done 2 = .ok (.iload_n 2, 1) := by decide +kernel
theorem dX8_done_3 : decode cX8_done 3 = .ok (.invokevirtual 256, 3) := by decide +kernel
theorem dX8_done_6 : decode cX8_done 6 = .ok (.istore_n 3, 1) := by decide +kernel
theorem dX8_done_7 : decode cX8_done 7 = .ok (.iload_n 3, 1) := by decide +kernel
theorem dX8_done_8 : decode cX8_done 8 = .ok (.ifCond .ne 16, 3) := by decide +kernel
theorem dX8_done_11 : decode cX8_done 11 = .ok (.aload_n 0, 1) := by decide +kernel
theorem dX8_done_12 : decode cX8_done 12 = .ok (.iload_n 1, 1) := by decide +kernel
theorem dX8_done_13 : decode cX8_done 13 = .ok (.iload_n 2, 1) := by decide +kernel
theorem dX8_done_14 : decode cX8_done 14 = .ok (.invokevirtual 259, 3) := by decide +kernel
theorem dX8_done_17 : decode cX8_done 17 = .ok (.iconst (-1), 1) := by decide +kernel
theorem dX8_done_18 : decode cX8_done 18 = .ok (.if_icmp .eq 6, 3) := by decide +kernel
theorem dX8_done_21 : decode cX8_done 21 = .ok (.bipush (-6), 2) := by decide +kernel
theorem dX8_done_23 : decode cX8_done 23 = .ok (.istore_n 3, 1) := by decide +kernel
theorem dX8_done_24 : decode cX8_done 24 = .ok (.iload_n 3, 1) := by decide +kernel
theorem dX8_done_25 : decode cX8_done 25 = .ok (.ifCond .eq 9, 3) := by decide +kernel
theorem dX8_done_28 : decode cX8_done 28 = .ok (.aload_n 0, 1) := by decide +kernel
theorem dX8_done_29 : decode cX8_done 29 = .ok (.iload_n 3, 1) := by decide +kernel
theorem dX8_done_30 : decode cX8_done 30 = .ok (.invokevirtual 115, 3) := by decide +kernel
theorem dX8_done_33 : decode cX8_done 33 = .ok (.ireturn, 1) := by decide +kernel
theorem dX8_done_34 : decode cX8_done 34 = .ok (.aload_n 0, 1) := by decide +kernel
theorem dX8_done_35 : decode cX8_done 35 = .ok (.dup, 1) := by decide +kernel
theorem dX8_done_36 : decode cX8_done 36 = .ok (.getfield 189, 3) := by decide +kernel
theorem dX8_done_39 : decode cX8_done 39 = .ok (.aload_n 0, 1) := by decide +kernel
theorem dX8_done_40 : decode cX8_done 40 = .ok (.getfield 250, 3) := by decide +kernel
theorem dX8_done_43 : decode cX8_done 43 = .ok (.iadd, 1) := by decide +kernel
theorem dX8_done_44 : decode cX8_done 44 = .ok (.putfield 189, 3) := by decide +kernel
theorem dX8_done_47 : decode cX8_done 47 = .ok (.aload_n 0, 1) := by decide +kernel
theorem dX8_done_48 : decode cX8_done 48 = .ok (.dup, 1) := by decide +kernel
theorem dX8_done_49 : decode cX8_done 49 = .ok (.getfield 186, 3) := by decide +kernel
theorem dX8_done_52 : decode cX8_done 52 = .ok (.iconst 1, 1) := by decide +kernel
theorem dX8_done_53 : decode cX8_done 53 = .ok (.iadd, 1) := by decide +kernel
theorem dX8_done_54 : decode cX8_done 54 = .ok (.putfield 186, 3) := by decide +kernel
theorem dX8_done_57 : decode cX8_done 57 = .ok (.aload_n 0, 1) := by decide +kernel
theorem dX8_done_58 : decode cX8_done 58 = .ok (.getfield 189, 3) := by decide +kernel
theorem dX8_done_61 : decode cX8_done 61 = .ok (.ireturn, 1) := by decide +kernel
theorem dX8_draw_0 : decode cX8_draw 0 = .ok (.aload_n 0, 1) := by decide +kernel
theorem dX8_draw_1 : decode cX8_draw 1 = .ok (.aload_n 0, 1) := by decide +kernel
theorem dX8_draw_2 : decode cX8_draw 2 = .ok (.getfield 13, 3) := by decide +kernel
theorem dX8_draw_5 : decode cX8_draw 5 = .ok (.ldc_w 262, 3) := by decide +kernel
theorem dX8_draw_8 : decode cX8_draw 8 = .ok (.imul, 1) := by decide +kernel
theorem dX8_draw_9 : decode cX8_draw 9 = .ok (.sipush 12345, 3) := by decide +kernel
theorem dX8_draw_12 : decode cX8_draw 12 = .ok (.iadd, 1) := by decide +kernel
theorem dX8_draw_13 : decode cX8_draw 13 = .ok (.putfield 13, 3) := by decide +kernel
theorem dX8_draw_16 : decode cX8_draw 16 = .ok (.aload_n 0, 1) := by decide +kernel
theorem dX8_draw_17 : decode cX8_draw 17 = .ok (.getfield 13, 3) := by decide +kernel
theorem dX8_draw_20 : decode cX8_draw 20 = .ok (.bipush 16, 2) := by decide +kernel
theorem dX8_draw_22 : decode cX8_draw 22 = .ok (.iushr, 1) := by decide +kernel
theorem dX8_draw_23 : decode cX8_draw 23 = .ok (.iload_n 1, 1) := by decide +kernel
theorem dX8_draw_24 : decode cX8_draw 24 = .ok (.irem, 1) := by decide +kernel
theorem dX8_draw_25 : decode cX8_draw 25 = .ok (.ireturn, 1) := by decide +kernel
theorem dX8_days_0 : decode cX8_days 0 = .ok (.aload_n 0, 1) := by decide +kernel
theorem dX8_days_1 : decode cX8_days 1 = .ok (.iload_n 1, 1) := by decide +kernel
theorem dX8_days_2 : decode cX8_days 2 = .ok (.iconst 1, 1) := by decide +kernel
theorem dX8_days_3 : decode cX8_days 3 = .ok (.bipush 60, 2) := by decide +kernel
theorem dX8_days_5 : decode cX8_days 5 = .ok (.invokevirtual 122, 3) := by decide +kernel
theorem dX8_days_8 : decode cX8_days 8 = .ok (.ifCond .ne 10, 3) := by decide +kernel
theorem dX8_days_11 : decode cX8_days 11 = .ok (.aload_n 0, 1) := by decide +kernel
theorem dX8_days_12 : decode cX8_days 12 = .ok (.bipush (-6), 2) := by decide +kernel
theorem dX8_days_14 : decode cX8_days 14 = .ok (.invokevirtual 115, 3) := by decide +kernel
theorem dX8_days_17 : decode cX8_days 17 = .ok (.ireturn, 1) := by decide +kernel
theorem dX8_days_18 : decode cX8_days 18 = .ok (.iconst 0, 1) := by decide +kernel
theorem dX8_days_19 : decode cX8_days 19 = .ok (.istore_n 2, 1) := by decide +kernel
theorem dX8_days_20 : decode cX8_days 20 = .ok (.iload_n 2, 1) := by decide +kernel
theorem dX8_days_21 : decode cX8_days 21 = .ok (.iload_n 1, 1) := by decide +kernel
theorem dX8_days_22 : decode cX8_days 22 = .ok (.if_icmp .ge 123, 3) := by decide +kernel
theorem dX8_days_25 : decode cX8_days 25 = .ok (.iconst 0, 1) := by decide +kernel
theorem dX8_days_26 : decode cX8_days 26 = .ok (.istore_n 3, 1) := by decide +kernel
theorem dX8_days_27 : decode cX8_days 27 = .ok (.iload_n 3, 1) := by decide +kernel
theorem dX8_days_28 : decode cX8_days 28 = .ok (.aload_n 0, 1) := by decide +kernel
theorem dX8_days_29 : decode cX8_days 29 = .ok (.getfield 108, 3) := by decide +kernel
theorem dX8_days_32 : decode cX8_days 32 = .ok (.if_icmp .ge 62, 3) := by decide +kernel
theorem dX8_days_35 : decode cX8_days 35 = .ok (.aload_n 0, 1) := by decide +kernel
theorem dX8_days_36 : decode cX8_days 36 = .ok (.getfield 41, 3) := by decide +kernel
theorem dX8_days_39 : decode cX8_days 39 = .ok (.iload_n 3, 1) := by decide +kernel
theorem dX8_days_40 : decode cX8_days 40 = .ok (.iaload, 1) := by decide +kernel
theorem dX8_days_41 : decode cX8_days 41 = .ok (.aload_n 0, 1) := by decide +kernel
theorem dX8_days_42 : decode cX8_days 42 = .ok (.aload_n 0, 1) := by decide +kernel
theorem dX8_days_43 : decode cX8_days 43 = .ok (.iload_n 3, 1) := by decide +kernel
theorem dX8_days_44 : decode cX8_days 44 = .ok (.invokevirtual 137, 3) := by decide +kernel
theorem dX8_days_47 : decode cX8_days 47 = .ok (.invokevirtual 263, 3) := by decide +kernel
theorem dX8_days_50 : decode cX8_days 50 = .ok (.iadd, 1) := by decide +kernel
theorem dX8_days_51 : decode cX8_days 51 = .ok (.istore 4, 2) := by decide +kernel
theorem dX8_days_53 : decode cX8_days 53 = .ok (.iload 4, 2) := by decide +kernel
theorem dX8_days_55 : decode cX8_days 55 = .ok (.aload_n 0, 1) := by decide +kernel
theorem dX8_days_56 : decode cX8_days 56 = .ok (.getfield 44, 3) := by decide +kernel
theorem dX8_days_59 : decode cX8_days 59 = .ok (.iload_n 3, 1) := by decide +kernel
theorem dX8_days_60 : decode cX8_days 60 = .ok (.iaload, 1) := by decide +kernel
theorem dX8_days_61 : decode cX8_days 61 = .ok (.if_icmp .gt 27, 3) := by decide +kernel
theorem dX8_days_64 : decode cX8_days 64 = .ok (.aload_n 0, 1) := by decide +kernel
theorem dX8_days_65 : decode cX8_days 65 = .ok (.iload_n 3, 1) := by decide +kernel
theorem dX8_days_66 : decode cX8_days 66 = .ok (.iconst 0, 1) := by decide +kernel
theorem dX8_days_67 : decode cX8_days 67 = .ok (.invokevirtual 234, 3) := by decide +kernel
theorem dX8_days_70 : decode cX8_days 70 = .ok (.ifCond .eq 18, 3) := by decide +kernel
theorem dX8_days_73 : decode cX8_days 73 = .ok (.aload_n 0, 1) := by decide +kernel
theorem dX8_days_74 : decode cX8_days 74 = .ok (.dup, 1) := by decide +kernel
theorem dX8_days_75 : decode cX8_days 75 = .ok (.getfield 189, 3) := by decide +kernel
theorem dX8_days_78 : decode cX8_days 78 = .ok (.aload_n 0, 1) := by decide +kernel
theorem dX8_days_79 : decode cX8_days 79 = .ok (.getfield 50, 3) := by decide +kernel
theorem dX8_days_82 : decode cX8_days 82 = .ok (.iload_n 3, 1) := by decide +kernel
theorem dX8_days_83 : decode cX8_days 83 = .ok (.iaload, 1) := by decide +kernel
theorem dX8_days_84 : decode cX8_days 84 = .ok (.iadd, 1) := by decide +kernel
theorem dX8_days_85 : decode cX8_days 85 = .ok (.putfield 189, 3) := by decide +kernel
theorem dX8_days_88 : decode cX8_days 88 = .ok (.iinc 3 1, 3) := by decide +kernel
theorem dX8_days_91 : decode cX8_days 91 = .ok (.goto (-64), 3) := by decide +kernel
theorem dX8_days_94 : decode cX8_days 94 = .ok (.iconst 0, 1) := by decide +kernel
theorem dX8_days_95 : decode cX8_days 95 = .ok (.istore_n 3, 1) := by decide +kernel
theorem dX8_days_96 : decode cX8_days 96 = .ok (.iload_n 3, 1) := by decide +kernel
theorem dX8_days_97 : decode cX8_days 97 = .ok (.aload_n 0, 1) := by decide +kernel
theorem dX8_days_98 : decode cX8_days 98 = .ok (.getfield 105, 3) := by decide +kernel
theorem dX8_days_101 : decode cX8_days 101 = .ok (.if_icmp .ge 28, 3) := by decide +kernel
theorem dX8_days_104 : decode cX8_days 104 = .ok (.aload_n 0, 1) := by decide +kernel
theorem dX8_days_105 : decode cX8_days 105 = .ok (.dup, 1) := by decide +kernel
theorem dX8_days_106 : decode cX8_days 106 = .ok (.getfield 192, 3) := by decide +kernel
theorem dX8_days_109 : decode cX8_days 109 = .ok (.aload_n 0, 1) := by decide +kernel
theorem dX8_days_110 : decode cX8_days 110 = .ok (.iload_n 3, 1) := by decide +kernel
theorem dX8_days_111 : decode cX8_days 111 = .ok (.aload_n 0, 1) := by decide +kernel
theorem dX8_days_112 : decode cX8_days 112 = .ok (.iload_n 3, 1) := by decide +kernel
theorem dX8_days_113 : decode cX8_days 113 = .ok (.invokevirtual 140, 3) := by decide +kernel
theorem dX8_days_116 : decode cX8_days 116 = .ok (.invokevirtual 205, 3) := by decide +kernel
theorem dX8_days_119 : decode cX8_days 119 = .ok (.iadd, 1) := by decide +kernel
theorem dX8_days_120 : decode cX8_days 120 = .ok (.putfield 192, 3) := by decide +kernel
theorem dX8_days_123 : decode cX8_days 123 = .ok (.iinc 3 1, 3) := by decide +kernel
theorem dX8_days_126 : decode cX8_days 126 = .ok (.goto (-30), 3) := by decide +kernel
theorem dX8_days_129 : decode cX8_days 129 = .ok (.aload_n 0, 1) := by decide +kernel
theorem dX8_days_130 : decode cX8_days 130 = .ok (.dup, 1) := by decide +kernel
theorem dX8_days_131 : decode cX8_days 131 = .ok (.getfield 186, 3) := by decide +kernel
theorem dX8_days_134 : decode cX8_days 134 = .ok (.iconst 1, 1) := by decide +kernel
theorem dX8_days_135 : decode cX8_days 135 = .ok (.iadd, 1) := by decide +kernel
theorem dX8_days_136 : decode cX8_days 136 = .ok (.putfield 186, 3) := by decide +kernel
theorem dX8_days_139 : decode cX8_days 139 = .ok (.iinc 2 1, 3) := by decide +kernel
theorem dX8_days_142 : decode cX8_days 142 = .ok (.goto (-122), 3) := by decide +kernel
theorem dX8_days_145 : decode cX8_days 145 = .ok (.aload_n 0, 1) := by decide +kernel
theorem dX8_days_146 : decode cX8_days 146 = .ok (.getfield 189, 3) := by decide +kernel
theorem dX8_days_149 : decode cX8_days 149 = .ok (.ireturn, 1) := by decide +kernel
theorem dX8_seed_0 : decode cX8_seed 0 = .ok (.aload_n 0, 1) := by decide +kernel
theorem dX8_seed_1 : decode cX8_seed 1 = .ok (.getfield 13, 3) := by decide +kernel
theorem dX8_seed_4 : decode cX8_seed 4 = .ok (.istore_n 2, 1) := by decide +kernel
theorem dX8_seed_5 : decode cX8_seed 5 = .ok (.aload_n 0, 1) := by decide +kernel
theorem dX8_seed_6 : decode cX8_seed 6 = .ok (.iload_n 1, 1) := by decide +kernel
theorem dX8_seed_7 : decode cX8_seed 7 = .ok (.putfield 13, 3) := by decide +kernel
theorem dX8_seed_10 : decode cX8_seed 10 = .ok (.iload_n 2, 1) := by decide +kernel
theorem dX8_seed_11 : decode cX8_seed 11 = .ok (.ireturn, 1) := by decide +kernel
theorem dX8_body_0 : decode cX8_body 0 = .ok (.aload_n 0, 1) := by decide +kernel
theorem dX8_body_1 : decode cX8_body 1 = .ok (.getfield 266, 3) := by decide +kernel
theorem dX8_body_4 : decode cX8_body 4 = .ok (.bipush 20, 2) := by decide +kernel
theorem dX8_body_6 : decode cX8_body 6 = .ok (.if_icmp .ge 13, 3) := by decide +kernel
theorem dX8_body_9 : decode cX8_body 9 = .ok (.aload_n 0, 1) := by decide +kernel
theorem dX8_body_10 : decode cX8_body 10 = .ok (.getfield 102, 3) := by decide +kernel
theorem dX8_body_13 : decode cX8_body 13 = .ok (.aload_n 0, 1) := by decide +kernel
theorem dX8_body_14 : decode cX8_body 14 = .ok (.getfield 266, 3) := by decide +kernel
theorem dX8_body_17 : decode cX8_body 17 = .ok (.iload_n 1, 1) := by decide +kernel
theorem dX8_body_18 : decode cX8_body 18 = .ok (.iastore, 1) := by decide +kernel
theorem dX8_body_19 : decode cX8_body 19 = .ok (.aload_n 0, 1) := by decide +kernel
theorem dX8_body_20 : decode cX8_body 20 = .ok (.dup, 1) := by decide +kernel
theorem dX8_body_21 : decode cX8_body 21 = .ok (.getfield 266, 3) := by decide +kernel
theorem dX8_body_24 : decode cX8_body 24 = .ok (.iconst 1, 1) := by decide +kernel
theorem dX8_body_25 : decode cX8_body 25 = .ok (.iadd, 1) := by decide +kernel
theorem dX8_body_26 : decode cX8_body 26 = .ok (.putfield 266, 3) := by decide +kernel
theorem dX8_body_29 : decode cX8_body 29 = .ok (.return_, 1) := by decide +kernel
theorem dX8_waiting_0 : decode cX8_waiting 0 = .ok (.aload_n 0, 1) := by decide +kernel
theorem dX8_waiting_1 : decode cX8_waiting 1 = .ok (.getfield 23, 3) := by decide +kernel
theorem dX8_waiting_4 : decode cX8_waiting 4 = .ok (.iload_n 1, 1) := by decide +kernel
theorem dX8_waiting_5 : decode cX8_waiting 5 = .ok (.iaload, 1) := by decide +kernel
theorem dX8_waiting_6 : decode cX8_waiting 6 = .ok (.istore_n 3, 1) := by decide +kernel
theorem dX8_waiting_7 : decode cX8_waiting 7 = .ok (.iload_n 2, 1) := by decide +kernel
theorem dX8_waiting_8 : decode cX8_waiting 8 = .ok (.istore 4, 2) := by decide +kernel
theorem dX8_waiting_10 : decode cX8_waiting 10 = .ok (.iload_n 3, 1) := by decide +kernel
theorem dX8_waiting_11 : decode cX8_waiting 11 = .ok (.iconst 1, 1) := by decide +kernel
theorem dX8_waiting_12 : decode cX8_waiting 12 = .ok (.if_icmp .eq 8, 3) := by decide +kernel
theorem dX8_waiting_15 : decode cX8_waiting 15 = .ok (.iload_n 3, 1) := by decide +kernel
theorem dX8_waiting_16 : decode cX8_waiting 16 = .ok (.iconst 3, 1) := by decide +kernel
theorem dX8_waiting_17 : decode cX8_waiting 17 = .ok (.if_icmp .ne 7, 3) := by decide +kernel
theorem dX8_waiting_20 : decode cX8_waiting 20 = .ok (.iconst 1, 1) := by decide +kernel
theorem dX8_waiting_21 : decode cX8_waiting 21 = .ok (.goto 4, 3) := by decide +kernel
theorem dX8_waiting_24 : decode cX8_waiting 24 = .ok (.iconst 0, 1) := by decide +kernel
theorem dX8_waiting_25 : decode cX8_waiting 25 = .ok (.istore 5, 2) := by decide +kernel
theorem dX8_waiting_27 : decode cX8_waiting 27 = .ok (.iload_n 3, 1) := by decide +kernel
theorem dX8_waiting_28 : decode cX8_waiting 28 = .ok (.iconst 4, 1) := by decide +kernel
theorem dX8_waiting_29 : decode cX8_waiting 29 = .ok (.if_icmp .eq 9, 3) := by decide +kernel
theorem dX8_waiting_32 : decode cX8_waiting 32 = .ok (.iload_n 3, 1) := by decide +kernel
theorem dX8_waiting_33 : decode cX8_waiting 33 = .ok (.bipush 6, 2) := by decide +kernel
theorem dX8_waiting_35 : decode cX8_waiting 35 = .ok (.if_icmp .ne 7, 3) := by decide +kernel
theorem dX8_waiting_38 : decode cX8_waiting 38 = .ok (.iconst 1, 1) := by decide +kernel
theorem dX8_waiting_39 : decode cX8_waiting 39 = .ok (.goto 4, 3) := by decide +kernel
theorem dX8_waiting_42 : decode cX8_waiting 42 = .ok (.iconst 0, 1) := by decide +kernel
theorem dX8_waiting_43 : decode cX8_waiting 43 = .ok (.istore 6, 2) := by decide +kernel
theorem dX8_waiting_45 : decode cX8_waiting 45 = .ok (.iload_n 3, 1) := by decide +kernel
theorem dX8_waiting_46 : decode cX8_waiting 46 = .ok (.bipush 6, 2) := by decide +kernel
theorem dX8_waiting_48 : decode cX8_waiting 48 = .ok (.if_icmp .ne 9, 3) := by decide +kernel
theorem dX8_waiting_51 : decode cX8_waiting 51 = .ok (.aload_n 0, 1) := by decide +kernel
theorem dX8_waiting_52 : decode cX8_waiting 52 = .ok (.bipush 70, 2) := by decide +kernel
theorem dX8_waiting_54 : decode cX8_waiting 54 = .ok (.invokevirtual 269, 3) := by decide +kernel
theorem dX8_waiting_57 : decode cX8_waiting 57 = .ok (.iload_n 3, 1) := by decide +kernel
theorem dX8_waiting_58 : decode cX8_waiting 58 = .ok (.iconst 3, 1) := by decide +kernel
theorem dX8_waiting_59 : decode cX8_waiting 59 = .ok (.if_icmp .ne 14, 3) := by decide +kernel
theorem dX8_waiting_62 : decode cX8_waiting 62 = .ok (.aload_n 0, 1) := by decide +kernel
theorem dX8_waiting_63 : decode cX8_waiting 63 = .ok (.bipush 40, 2) := by decide +kernel
theorem dX8_waiting_65 : decode cX8_waiting 65 = .ok (.invokevirtual 269, 3) := by decide +kernel
theorem dX8_waiting_68 : decode cX8_waiting 68 = .ok (.iload_n 2, 1) := by decide +kernel
theorem dX8_waiting_69 : decode cX8_waiting 69 = .ok (.iconst 1, 1) := by decide +kernel
theorem dX8_waiting_70 : decode cX8_waiting 70 = .ok (.iadd, 1) := by decide +kernel
theorem dX8_waiting_71 : decode cX8_waiting 71 = .ok (.istore 4, 2) := by decide +kernel
theorem dX8_waiting_73 : decode cX8_waiting 73 = .ok (.iload 5, 2) := by decide +kernel
theorem dX8_waiting_75 : decode cX8_waiting 75 = .ok (.ifCond .eq 9, 3) := by decide +kernel
theorem dX8_waiting_78 : decode cX8_waiting 78 = .ok (.aload_n 0, 1) := by decide +kernel
theorem dX8_waiting_79 : decode cX8_waiting 79 = .ok (.bipush 20, 2) := by decide +kernel
theorem dX8_waiting_81 : decode cX8_waiting 81 = .ok (.invokevirtual 269, 3) := by decide +kernel
theorem dX8_waiting_84 : decode cX8_waiting 84 = .ok (.iload 6, 2) := by decide +kernel
theorem dX8_waiting_86 : decode cX8_waiting 86 = .ok (.ifCond .eq 9, 3) := by decide +kernel
theorem dX8_waiting_89 : decode cX8_waiting 89 = .ok (.aload_n 0, 1) := by decide +kernel
theorem dX8_waiting_90 : decode cX8_waiting 90 = .ok (.bipush 51, 2) := by decide +kernel
theorem dX8_waiting_92 : decode cX8_waiting 92 = .ok (.invokevirtual 269, 3) := by decide +kernel
theorem dX8_waiting_95 : decode cX8_waiting 95 = .ok (.aload_n 0, 1) := by decide +kernel
theorem dX8_waiting_96 : decode cX8_waiting 96 = .ok (.bipush 10, 2) := by decide +kernel
theorem dX8_waiting_98 : decode cX8_waiting 98 = .ok (.invokevirtual 269, 3) := by decide +kernel
theorem dX8_waiting_101 : decode cX8_waiting 101 = .ok (.iload 4, 2) := by decide +kernel
theorem dX8_waiting_103 : decode cX8_waiting 103 = .ok (.iload_n 1, 1) := by decide +kernel
theorem dX8_waiting_104 : decode cX8_waiting 104 = .ok (.iadd, 1) := by decide +kernel
theorem dX8_waiting_105 : decode cX8_waiting 105 = .ok (.istore 7, 2) := by decide +kernel
theorem dX8_waiting_107 : decode cX8_waiting 107 = .ok (.iload 5, 2) := by decide +kernel
theorem dX8_waiting_109 : decode cX8_waiting 109 = .ok (.ifCond .eq 14, 3) := by decide +kernel
theorem dX8_waiting_112 : decode cX8_waiting 112 = .ok (.iload 7, 2) := by decide +kernel
theorem dX8_waiting_114 : decode cX8_waiting 114 = .ok (.aload_n 0, 1) := by decide +kernel
theorem dX8_waiting_115 : decode cX8_waiting 115 = .ok (.getfield 26, 3) := by decide +kernel
theorem dX8_waiting_118 : decode cX8_waiting 118 = .ok (.iload_n 1, 1) := by decide +kernel
theorem dX8_waiting_119 : decode cX8_waiting 119 = .ok (.iaload, 1) := by decide +kernel
theorem dX8_waiting_120 : decode cX8_waiting 120 = .ok (.iadd, 1) := by decide +kernel
theorem dX8_waiting_121 : decode cX8_waiting 121 = .ok (.istore 7, 2) := by decide +kernel
theorem dX8_waiting_123 : decode cX8_waiting 123 = .ok (.iload 6, 2) := by decide +kernel
theorem dX8_waiting_125 : decode cX8_waiting 125 = .ok (.ifCond .eq 9, 3) := by decide +kernel
theorem dX8_waiting_128 : decode cX8_waiting 128 = .ok (.iload 7, 2) := by decide +kernel
theorem dX8_waiting_130 : decode cX8_waiting 130 = .ok (.iload_n 1, 1) := by decide +kernel
theorem dX8_waiting_131 : decode cX8_waiting 131 = .ok (.isub, 1) := by decide +kernel
theorem dX8_waiting_132 : decode cX8_waiting 132 = .ok (.istore 7, 2) := by decide +kernel
theorem dX8_waiting_134 : decode cX8_waiting 134 = .ok (.iload_n 3, 1) := by decide +kernel
theorem dX8_waiting_135 : decode cX8_waiting 135 = .ok (.bipush 6, 2) := by decide +kernel
theorem dX8_waiting_137 : decode cX8_waiting 137 = .ok (.if_icmp .ne 10, 3) := by decide +kernel
theorem dX8_waiting_140 : decode cX8_waiting 140 = .ok (.iload 7, 2) := by decide +kernel
theorem dX8_waiting_142 : decode cX8_waiting 142 = .ok (.iconst 2, 1) := by decide +kernel
theorem dX8_waiting_143 : decode cX8_waiting 143 = .ok (.imul, 1) := by decide +kernel
theorem dX8_waiting_144 : decode cX8_waiting 144 = .ok (.goto 5, 3) := by decide +kernel
theorem dX8_waiting_147 : decode cX8_waiting 147 = .ok (.iload 7, 2) := by decide +kernel
theorem dX8_waiting_149 : decode cX8_waiting 149 = .ok (.ireturn, 1) := by decide +kernel
theorem dX8_looking_0 : decode cX8_looking 0 = .ok (.aload_n 0, 1) := by decide +kernel
theorem dX8_looking_1 : decode cX8_looking 1 = .ok (.getfield 23, 3) := by decide +kernel
theorem dX8_looking_4 : decode cX8_looking 4 = .ok (.iload_n 1, 1) := by decide +kernel
theorem dX8_looking_5 : decode cX8_looking 5 = .ok (.iaload, 1) := by decide +kernel
theorem dX8_looking_6 : decode cX8_looking 6 = .ok (.istore_n 3, 1) := by decide +kernel
theorem dX8_looking_7 : decode cX8_looking 7 = .ok (.iload_n 2, 1) := by decide +kernel
theorem dX8_looking_8 : decode cX8_looking 8 = .ok (.istore 4, 2) := by decide +kernel
theorem dX8_looking_10 : decode cX8_looking 10 = .ok (.iload_n 3, 1) := by decide +kernel
theorem dX8_looking_11 : decode cX8_looking 11 = .ok (.bipush 6, 2) := by decide +kernel
theorem dX8_looking_13 : decode cX8_looking 13 = .ok (.if_icmp .ne 19, 3) := by decide +kernel
theorem dX8_looking_16 : decode cX8_looking 16 = .ok (.aload_n 0, 1) := by decide +kernel
theorem dX8_looking_17 : decode cX8_looking 17 = .ok (.bipush 71, 2) := by decide +kernel
theorem dX8_looking_19 : decode cX8_looking 19 = .ok (.invokevirtual 269, 3) := by decide +kernel
theorem dX8_looking_22 : decode cX8_looking 22 = .ok (.iload_n 2, 1) := by decide +kernel
theorem dX8_looking_23 : decode cX8_looking 23 = .ok (.aload_n 0, 1) := by decide +kernel
theorem dX8_looking_24 : decode cX8_looking 24 = .ok (.getfield 26, 3) := by decide +kernel
theorem dX8_looking_27 : decode cX8_looking 27 = .ok (.iload_n 1, 1) := by decide +kernel
theorem dX8_looking_28 : decode cX8_looking 28 = .ok (.iaload, 1) := by decide +kernel
theorem dX8_looking_29 : decode cX8_looking 29 = .ok (.isub, 1) := by decide +kernel
theorem dX8_looking_30 : decode cX8_looking 30 = .ok (.istore 4, 2) := by decide +kernel
theorem dX8_looking_32 : decode cX8_looking 32 = .ok (.iload_n 3, 1) := by decide +kernel
theorem dX8_looking_33 : decode cX8_looking 33 = .ok (.iconst 2, 1) := by decide +kernel
theorem dX8_looking_34 : decode cX8_looking 34 = .ok (.if_icmp .eq 8, 3) := by decide +kernel
theorem dX8_looking_37 : decode cX8_looking 37 = .ok (.iload_n 3, 1) := by decide +kernel
theorem dX8_looking_38 : decode cX8_looking 38 = .ok (.iconst 5, 1) := by decide +kernel
theorem dX8_looking_39 : decode cX8_looking 39 = .ok (.if_icmp .ne 7, 3) := by decide +kernel
theorem dX8_looking_42 : decode cX8_looking 42 = .ok (.iconst 1, 1) := by decide +kernel
theorem dX8_looking_43 : decode cX8_looking 43 = .ok (.goto 4, 3) := by decide +kernel
theorem dX8_looking_46 : decode cX8_looking 46 = .ok (.iconst 0, 1) := by decide +kernel
theorem dX8_looking_47 : decode cX8_looking 47 = .ok (.istore 5, 2) := by decide +kernel
theorem dX8_looking_49 : decode cX8_looking 49 = .ok (.iload 5, 2) := by decide +kernel
theorem dX8_looking_51 : decode cX8_looking 51 = .ok (.ifCond .eq 9, 3) := by decide +kernel
theorem dX8_looking_54 : decode cX8_looking 54 = .ok (.aload_n 0, 1) := by decide +kernel
theorem dX8_looking_55 : decode cX8_looking 55 = .ok (.bipush 30, 2) := by decide +kernel
theorem dX8_looking_57 : decode cX8_looking 57 = .ok (.invokevirtual 269, 3) := by decide +kernel
theorem dX8_looking_60 : decode cX8_looking 60 = .ok (.aload_n 0, 1) := by decide +kernel
theorem dX8_looking_61 : decode cX8_looking 61 = .ok (.bipush 11, 2) := by decide +kernel
theorem dX8_looking_63 : decode cX8_looking 63 = .ok (.invokevirtual 269, 3) := by decide +kernel
theorem dX8_looking_66 : decode cX8_looking 66 = .ok (.aload_n 0, 1) := by decide +kernel
theorem dX8_looking_67 : decode cX8_looking 67 = .ok (.iload_n 1, 1) := by decide +kernel
theorem dX8_looking_68 : decode cX8_looking 68 = .ok (.iload 4, 2) := by decide +kernel
theorem dX8_looking_70 : decode cX8_looking 70 = .ok (.invokevirtual 272, 3) := by decide +kernel
theorem dX8_looking_73 : decode cX8_looking 73 = .ok (.iconst 2, 1) := by decide +kernel
theorem dX8_looking_74 : decode cX8_looking 74 = .ok (.imul, 1) := by decide +kernel
theorem dX8_looking_75 : decode cX8_looking 75 = .ok (.istore 6, 2) := by decide +kernel
theorem dX8_looking_77 : decode cX8_looking 77 = .ok (.iload 5, 2) := by decide +kernel
theorem dX8_looking_79 : decode cX8_looking 79 = .ok (.ifCond .eq 10, 3) := by decide +kernel
theorem dX8_looking_82 : decode cX8_looking 82 = .ok (.iload 6, 2) := by decide +kernel
theorem dX8_looking_84 : decode cX8_looking 84 = .ok (.iconst 3, 1) := by decide +kernel
theorem dX8_looking_85 : decode cX8_looking 85 = .ok (.imul, 1) := by decide +kernel
theorem dX8_looking_86 : decode cX8_looking 86 = .ok (.goto 5, 3) := by decide +kernel
theorem dX8_looking_89 : decode cX8_looking 89 = .ok (.iload 6, 2) := by decide +kernel
theorem dX8_looking_91 : decode cX8_looking 91 = .ok (.ireturn, 1) := by decide +kernel
theorem dX8_sending_0 : decode cX8_sending 0 = .ok (.aload_n 0, 1) := by decide +kernel
theorem dX8_sending_1 : decode cX8_sending 1 = .ok (.getfield 23, 3) := by decide +kernel
theorem dX8_sending_4 : decode cX8_sending 4 = .ok (.iload_n 1, 1) := by decide +kernel
theorem dX8_sending_5 : decode cX8_sending 5 = .ok (.iaload, 1) := by decide +kernel
theorem dX8_sending_6 : decode cX8_sending 6 = .ok (.istore_n 3, 1) := by decide +kernel
theorem dX8_sending_7 : decode cX8_sending 7 = .ok (.iload_n 3, 1) := by decide +kernel
theorem dX8_sending_8 : decode cX8_sending 8 = .ok (.iconst 4, 1) := by decide +kernel
theorem dX8_sending_9 : decode cX8_sending 9 = .ok (.if_icmp .eq 9, 3) := by decide +kernel
theorem dX8_sending_12 : decode cX8_sending 12 = .ok (.iload_n 3, 1) := by decide +kernel
theorem dX8_sending_13 : decode cX8_sending 13 = .ok (.bipush 6, 2) := by decide +kernel
theorem dX8_sending_15 : decode cX8_sending 15 = .ok (.if_icmp .ne 7, 3) := by decide +kernel
theorem dX8_sending_18 : decode cX8_sending 18 = .ok (.iconst 1, 1) := by decide +kernel
theorem dX8_sending_19 : decode cX8_sending 19 = .ok (.goto 4, 3) := by decide +kernel
theorem dX8_sending_22 : decode cX8_sending 22 = .ok (.iconst 0, 1) := by decide +kernel
theorem dX8_sending_23 : decode cX8_sending 23 = .ok (.istore 4, 2) := by decide +kernel
theorem dX8_sending_25 : decode cX8_sending 25 = .ok (.iload_n 3, 1) := by decide +kernel
theorem dX8_sending_26 : decode cX8_sending 26 = .ok (.iconst 5, 1) := by decide +kernel
theorem dX8_sending_27 : decode cX8_sending 27 = .ok (.if_icmp .ne 9, 3) := by decide +kernel
theorem dX8_sending_30 : decode cX8_sending 30 = .ok (.aload_n 0, 1) := by decide +kernel
theorem dX8_sending_31 : decode cX8_sending 31 = .ok (.bipush 60, 2) := by decide +kernel
theorem dX8_sending_33 : decode cX8_sending 33 = .ok (.invokevirtual 269, 3) := by decide +kernel
theorem dX8_sending_36 : decode cX8_sending 36 = .ok (.iload 4, 2) := by decide +kernel
theorem dX8_sending_38 : decode cX8_sending 38 = .ok (.ifCond .eq 9, 3) := by decide +kernel
theorem dX8_sending_41 : decode cX8_sending 41 = .ok (.aload_n 0, 1) := by decide +kernel
theorem dX8_sending_42 : decode cX8_sending 42 = .ok (.bipush 50, 2) := by decide +kernel
theorem dX8_sending_44 : decode cX8_sending 44 = .ok (.invokevirtual 269, 3) := by decide +kernel
theorem dX8_sending_47 : decode cX8_sending 47 = .ok (.aload_n 0, 1) := by decide +kernel
theorem dX8_sending_48 : decode cX8_sending 48 = .ok (.bipush 12, 2) := by decide +kernel
theorem dX8_sending_50 : decode cX8_sending 50 = .ok (.invokevirtual 269, 3) := by decide +kernel
theorem dX8_sending_53 : decode cX8_sending 53 = .ok (.aload_n 0, 1) := by decide +kernel
theorem dX8_sending_54 : decode cX8_sending 54 = .ok (.iload_n 1, 1) := by decide +kernel
theorem dX8_sending_55 : decode cX8_sending 55 = .ok (.iload_n 2, 1) := by decide +kernel
theorem dX8_sending_56 : decode cX8_sending 56 = .ok (.invokevirtual 275, 3) := by decide +kernel
theorem dX8_sending_59 : decode cX8_sending 59 = .ok (.istore 5, 2) := by decide +kernel
theorem dX8_sending_61 : decode cX8_sending 61 = .ok (.iload 5, 2) := by decide +kernel
theorem dX8_sending_63 : decode cX8_sending 63 = .ok (.aload_n 0, 1) := by decide +kernel
theorem dX8_sending_64 : decode cX8_sending 64 = .ok (.iload_n 1, 1) := by decide +kernel
theorem dX8_sending_65 : decode cX8_sending 65 = .ok (.iload_n 2, 1) := by decide +kernel
theorem dX8_sending_66 : decode cX8_sending 66 = .ok (.aload_n 0, 1) := by decide +kernel
theorem dX8_sending_67 : decode cX8_sending 67 = .ok (.getfield 26, 3) := by decide +kernel
theorem dX8_sending_70 : decode cX8_sending 70 = .ok (.iload_n 1, 1) := by decide +kernel
theorem dX8_sending_71 : decode cX8_sending 71 = .ok (.iaload, 1) := by decide +kernel
theorem dX8_sending_72 : decode cX8_sending 72 = .ok (.isub, 1) := by decide +kernel
theorem dX8_sending_73 : decode cX8_sending 73 = .ok (.invokevirtual 272, 3) := by decide +kernel
theorem dX8_sending_76 : decode cX8_sending 76 = .ok (.ixor, 1) := by decide +kernel
theorem dX8_sending_77 : decode cX8_sending 77 = .ok (.istore 5, 2) := by decide +kernel
theorem dX8_sending_79 : decode cX8_sending 79 = .ok (.iload 4, 2) := by decide +kernel
theorem dX8_sending_81 : decode cX8_sending 81 = .ok (.ifCond .eq 9, 3) := by decide +kernel
theorem dX8_sending_84 : decode cX8_sending 84 = .ok (.iload 5, 2) := by decide +kernel
theorem dX8_sending_86 : decode cX8_sending 86 = .ok (.ineg, 1) := by decide +kernel
theorem dX8_sending_87 : decode cX8_sending 87 = .ok (.goto 17, 3) := by decide +kernel
theorem dX8_sending_90 : decode cX8_sending 90 = .ok (.iload_n 3, 1) := by decide +kernel
theorem dX8_sending_91 : decode cX8_sending 91 = .ok (.iconst 5, 1) := by decide +kernel
theorem dX8_sending_92 : decode cX8_sending 92 = .ok (.if_icmp .ne 10, 3) := by decide +kernel
theorem dX8_sending_95 : decode cX8_sending 95 = .ok (.iload 5, 2) := by decide +kernel
theorem dX8_sending_97 : decode cX8_sending 97 = .ok (.iconst 5, 1) := by decide +kernel
theorem dX8_sending_98 : decode cX8_sending 98 = .ok (.ixor, 1) := by decide +kernel
theorem dX8_sending_99 : decode cX8_sending 99 = .ok (.goto 5, 3) := by decide +kernel
theorem dX8_sending_102 : decode cX8_sending 102 = .ok (.iload 5, 2) := by decide +kernel
theorem dX8_sending_104 : decode cX8_sending 104 = .ok (.ireturn, 1) := by decide +kernel
theorem dX8_act_0 : decode cX8_act 0 = .ok (.aload_n 0, 1) := by decide +kernel
theorem dX8_act_1 : decode cX8_act 1 = .ok (.iconst 0, 1) := by decide +kernel
theorem dX8_act_2 : decode cX8_act 2 = .ok (.putfield 266, 3) := by decide +kernel
theorem dX8_act_5 : decode cX8_act 5 = .ok (.aload_n 0, 1) := by decide +kernel
theorem dX8_act_6 : decode cX8_act 6 = .ok (.iload_n 1, 1) := by decide +kernel
theorem dX8_act_7 : decode cX8_act 7 = .ok (.invokevirtual 119, 3) := by decide +kernel
theorem dX8_act_10 : decode cX8_act 10 = .ok (.ifCond .eq 12, 3) := by decide +kernel
theorem dX8_act_13 : decode cX8_act 13 = .ok (.iload_n 2, 1) := by decide +kernel
theorem dX8_act_14 : decode cX8_act 14 = .ok (.ifCond .lt 8, 3) := by decide +kernel
theorem dX8_act_17 : decode cX8_act 17 = .ok (.iload_n 2, 1) := by decide +kernel
theorem dX8_act_18 : decode cX8_act 18 = .ok (.iconst 2, 1) := by decide +kernel
theorem dX8_act_19 : decode cX8_act 19 = .ok (.if_icmp .le 5, 3) := by decide +kernel
theorem dX8_act_22 : decode cX8_act 22 = .ok (.iconst 0, 1) := by decide +kernel
theorem dX8_act_23 : decode cX8_act 23 = .ok (.ireturn, 1) := by decide +kernel
theorem dX8_act_24 : decode cX8_act 24 = .ok (.iload_n 2, 1) := by decide +kernel
theorem dX8_act_25 : decode cX8_act 25 = .ok (.ifCond .ne 12, 3) := by decide +kernel
theorem dX8_act_28 : decode cX8_act 28 = .ok (.aload_n 0, 1) := by decide +kernel
theorem dX8_act_29 : decode cX8_act 29 = .ok (.iload_n 1, 1) := by decide +kernel
theorem dX8_act_30 : decode cX8_act 30 = .ok (.iload_n 3, 1) := by decide +kernel
theorem dX8_act_31 : decode cX8_act 31 = .ok (.invokevirtual 272, 3) := by decide +kernel
theorem dX8_act_34 : decode cX8_act 34 = .ok (.goto 23, 3) := by decide +kernel
theorem dX8_act_37 : decode cX8_act 37 = .ok (.iload_n 2, 1) := by decide +kernel
theorem dX8_act_38 : decode cX8_act 38 = .ok (.iconst 1, 1) := by decide +kernel
theorem dX8_act_39 : decode cX8_act 39 = .ok (.if_icmp .ne 12, 3) := by decide +kernel
theorem dX8_act_42 : decode cX8_act 42 = .ok (.aload_n 0, 1) := by decide +kernel
theorem dX8_act_43 : decode cX8_act 43 = .ok (.iload_n 1, 1) := by decide +kernel
theorem dX8_act_44 : decode cX8_act 44 = .ok (.iload_n 3, 1) := by decide +kernel
theorem dX8_act_45 : decode cX8_act 45 = .ok (.invokevirtual 275, 3) := by decide +kernel
theorem dX8_act_48 : decode cX8_act 48 = .ok (.goto 9, 3) := by decide +kernel
theorem dX8_act_51 : decode cX8_act 51 = .ok (.aload_n 0, 1) := by decide +kernel
theorem dX8_act_52 : decode cX8_act 52 = .ok (.iload_n 1, 1) := by decide +kernel
theorem dX8_act_53 : decode cX8_act 53 = .ok (.iload_n 3, 1) := by decide +kernel
theorem dX8_act_54 : decode cX8_act 54 = .ok (.invokevirtual 278, 3) := by decide +kernel
theorem dX8_act_57 : decode cX8_act 57 = .ok (.ireturn, 1) := by decide +kernel
theorem dX8_trace_0 : decode cX8_trace 0 = .ok (.iload_n 1, 1) := by decide +kernel
theorem dX8_trace_1 : decode cX8_trace 1 = .ok (.ifCond .lt 26, 3) := by decide +kernel
theorem dX8_trace_4 : decode cX8_trace 4 = .ok (.iload_n 1, 1) := by decide +kernel
theorem dX8_trace_5 : decode cX8_trace 5 = .ok (.bipush 20, 2) := by decide +kernel
theorem dX8_trace_7 : decode cX8_trace 7 = .ok (.if_icmp .ge 20, 3) := by decide +kernel
theorem dX8_trace_10 : decode cX8_trace 10 = .ok (.iload_n 1, 1) := by decide +kernel
theorem dX8_trace_11 : decode cX8_trace 11 = .ok (.aload_n 0, 1) := by decide +kernel
theorem dX8_trace_12 : decode cX8_trace 12 = .ok (.getfield 266, 3) := by decide +kernel
theorem dX8_trace_15 : decode cX8_trace 15 = .ok (.if_icmp .ge 12, 3) := by decide +kernel
theorem dX8_trace_18 : decode cX8_trace 18 = .ok (.aload_n 0, 1) := by decide +kernel
theorem dX8_trace_19 : decode cX8_trace 19 = .ok (.getfield 102, 3) := by decide +kernel
theorem dX8_trace_22 : decode cX8_trace 22 = .ok (.iload_n 1, 1) := by decide +kernel
theorem dX8_trace_23 : decode cX8_trace 23 = .ok (.iaload, 1) := by decide +kernel
theorem dX8_trace_24 : decode cX8_trace 24 = .ok (.goto 4, 3) := by decide +kernel
theorem dX8_trace_27 : decode cX8_trace 27 = .ok (.iconst (-1), 1) := by decide +kernel
theorem dX8_trace_28 : decode cX8_trace 28 = .ok (.ireturn, 1) := by decide +kernel
theorem dX8_image_0 : decode cX8_image 0 = .ok (.aload_n 0, 1) := by decide +kernel
theorem dX8_image_1 : decode cX8_image 1 = .ok (.iconst 1, 1) := by decide +kernel
theorem dX8_image_2 : decode cX8_image 2 = .ok (.putfield 281, 3) := by decide +kernel
theorem dX8_image_5 : decode cX8_image 5 = .ok (.aload_n 0, 1) := by decide +kernel
theorem dX8_image_6 : decode cX8_image 6 = .ok (.aload_n 0, 1) := by decide +kernel
theorem dX8_image_7 : decode cX8_image 7 = .ok (.getfield 96, 3) := by decide +kernel
theorem dX8_image_10 : decode cX8_image 10 = .ok (.iconst 0, 1) := by decide +kernel
theorem dX8_image_11 : decode cX8_image 11 = .ok (.invokevirtual 198, 3) := by decide +kernel
theorem dX8_image_14 : decode cX8_image 14 = .ok (.aload_n 0, 1) := by decide +kernel
theorem dX8_image_15 : decode cX8_image 15 = .ok (.getfield 105, 3) := by decide +kernel
theorem dX8_image_18 : decode cX8_image 18 = .ok (.ireturn, 1) := by decide +kernel
theorem dX8_restore_0 : decode cX8_restore 0 = .ok (.aload_n 0, 1) := by decide +kernel
theorem dX8_restore_1 : decode cX8_restore 1 = .ok (.getfield 281, 3) := by decide +kernel
theorem dX8_restore_4 : decode cX8_restore 4 = .ok (.ifCond .ne 10, 3) := by decide +kernel
theorem dX8_restore_7 : decode cX8_restore 7 = .ok (.aload_n 0, 1) := by decide +kernel
theorem dX8_restore_8 : decode cX8_restore 8 = .ok (.bipush (-6), 2) := by decide +kernel
theorem dX8_restore_10 : decode cX8_restore 10 = .ok (.invokevirtual 115, 3) := by decide +kernel
theorem dX8_restore_13 : decode cX8_restore 13 = .ok (.ireturn, 1) := by decide +kernel
theorem dX8_restore_14 : decode cX8_restore 14 = .ok (.aload_n 0, 1) := by decide +kernel
theorem dX8_restore_15 : decode cX8_restore 15 = .ok (.aload_n 0, 1) := by decide +kernel
theorem dX8_restore_16 : decode cX8_restore 16 = .ok (.getfield 96, 3) := by decide +kernel
theorem dX8_restore_19 : decode cX8_restore 19 = .ok (.iconst 1, 1) := by decide +kernel
theorem dX8_restore_20 : decode cX8_restore 20 = .ok (.invokevirtual 198, 3) := by decide +kernel
theorem dX8_restore_23 : decode cX8_restore 23 = .ok (.iconst 0, 1) := by decide +kernel
theorem dX8_restore_24 : decode cX8_restore 24 = .ok (.istore_n 1, 1) := by decide +kernel
theorem dX8_restore_25 : decode cX8_restore 25 = .ok (.iload_n 1, 1) := by decide +kernel
theorem dX8_restore_26 : decode cX8_restore 26 = .ok (.bipush 8, 2) := by decide +kernel
theorem dX8_restore_28 : decode cX8_restore 28 = .ok (.if_icmp .ge 39, 3) := by decide +kernel
theorem dX8_restore_31 : decode cX8_restore 31 = .ok (.aload_n 0, 1) := by decide +kernel
theorem dX8_restore_32 : decode cX8_restore 32 = .ok (.getfield 59, 3) := by decide +kernel
theorem dX8_restore_35 : decode cX8_restore 35 = .ok (.iload_n 1, 1) := by decide +kernel
theorem dX8_restore_36 : decode cX8_restore 36 = .ok (.iaload, 1) := by decide +kernel
theorem dX8_restore_37 : decode cX8_restore 37 = .ok (.iconst 2, 1) := by decide +kernel
theorem dX8_restore_38 : decode cX8_restore 38 = .ok (.if_icmp .ne 23, 3) := by decide +kernel
theorem dX8_restore_41 : decode cX8_restore 41 = .ok (.aload_n 0, 1) := by decide +kernel
theorem dX8_restore_42 : decode cX8_restore 42 = .ok (.getfield 68, 3) := by decide +kernel
theorem dX8_restore_45 : decode cX8_restore 45 = .ok (.iload_n 1, 1) := by decide +kernel
theorem dX8_restore_46 : decode cX8_restore 46 = .ok (.iaload, 1) := by decide +kernel
theorem dX8_restore_47 : decode cX8_restore 47 = .ok (.aload_n 0, 1) := by decide +kernel
theorem dX8_restore_48 : decode cX8_restore 48 = .ok (.getfield 105, 3) := by decide +kernel
theorem dX8_restore_51 : decode cX8_restore 51 = .ok (.if_icmp .lt 10, 3) := by decide +kernel
theorem dX8_restore_54 : decode cX8_restore 54 = .ok (.aload_n 0, 1) := by decide +kernel
theorem dX8_restore_55 : decode cX8_restore 55 = .ok (.getfield 59, 3) := by decide +kernel
theorem dX8_restore_58 : decode cX8_restore 58 = .ok (.iload_n 1, 1) := by decide +kernel
theorem dX8_restore_59 : decode cX8_restore 59 = .ok (.iconst 0, 1) := by decide +kernel
theorem dX8_restore_60 : decode cX8_restore 60 = .ok (.iastore, 1) := by decide +kernel
theorem dX8_restore_61 : decode cX8_restore 61 = .ok (.iinc 1 1, 3) := by decide +kernel
theorem dX8_restore_64 : decode cX8_restore 64 = .ok (.goto (-39), 3) := by decide +kernel
theorem dX8_restore_67 : decode cX8_restore 67 = .ok (.aload_n 0, 1) := by decide +kernel
theorem dX8_restore_68 : decode cX8_restore 68 = .ok (.getfield 105, 3) := by decide +kernel
theorem dX8_restore_71 : decode cX8_restore 71 = .ok (.ireturn, 1) := by decide +kernel
theorem dX8_status_0 : decode cX8_status 0 = .ok (.iload_n 1, 1) := by decide +kernel
theorem dX8_status_1 : decode cX8_status 1 = .ok (.bipush 11, 2) := by decide +kernel
theorem dX8_status_3 : decode cX8_status 3 = .ok (.if_icmp .lt 19, 3) := by decide +kernel
theorem dX8_status_6 : decode cX8_status 6 = .ok (.iload_n 1, 1) := by decide +kernel
theorem dX8_status_7 : decode cX8_status 7 = .ok (.bipush 17, 2) := by decide +kernel
theorem dX8_status_9 : decode cX8_status 9 = .ok (.if_icmp .gt 13, 3) := by decide +kernel
theorem dX8_status_12 : decode cX8_status 12 = .ok (.aload_n 0, 1) := by decide +kernel
theorem dX8_status_13 : decode cX8_status 13 = .ok (.getfield 19, 3) := by decide +kernel
theorem dX8_status_16 : decode cX8_status 16 = .ok (.iload_n 1, 1) := by decide +kernel
theorem dX8_status_17 : decode cX8_status 17 = .ok (.bipush 10, 2) := by decide +kernel
theorem dX8_status_19 : decode cX8_status 19 = .ok (.isub, 1) := by decide +kernel
theorem dX8_status_20 : decode cX8_status 20 = .ok (.iaload, 1) := by decide +kernel
theorem dX8_status_21 : decode cX8_status 21 = .ok (.ireturn, 1) := by decide +kernel
theorem dX8_status_22 : decode cX8_status 22 = .ok (.iload_n 1, 1) := by decide +kernel
theorem dX8_status_23 : decode cX8_status 23 = .ok (.tableswitch 85 0 7 #[45, 50, 55, 60, 65, 70, 75, 80], 45) := by decide +kernel
theorem dX8_status_68 : decode cX8_status 68 = .ok (.aload_n 0, 1) := by decide +kernel
theorem dX8_status_69 : decode cX8_status 69 = .ok (.getfield 105, 3) := by decide +kernel
theorem dX8_status_72 : decode cX8_status 72 = .ok (.ireturn, 1) := by decide +kernel
theorem dX8_status_73 : decode cX8_status 73 = .ok (.aload_n 0, 1) := by decide +kernel
theorem dX8_status_74 : decode cX8_status 74 = .ok (.getfield 108, 3) := by decide +kernel
theorem dX8_status_77 : decode cX8_status 77 = .ok (.ireturn, 1) := by decide +kernel
theorem dX8_status_78 : decode cX8_status 78 = .ok (.aload_n 0, 1) := by decide +kernel
theorem dX8_status_79 : decode cX8_status 79 = .ok (.getfield 7, 3) := by decide +kernel
theorem dX8_status_82 : decode cX8_status 82 = .ok (.ireturn, 1) := by decide +kernel
theorem dX8_status_83 : decode cX8_status 83 = .ok (.aload_n 0, 1) := by decide +kernel
theorem dX8_status_84 : decode cX8_status 84 = .ok (.getfield 186, 3) := by decide +kernel
theorem dX8_status_87 : decode cX8_status 87 = .ok (.ireturn, 1) := by decide +kernel
theorem dX8_status_88 : decode cX8_status 88 = .ok (.aload_n 0, 1) := by decide +kernel
theorem dX8_status_89 : decode cX8_status 89 = .ok (.getfield 189, 3) := by decide +kernel
theorem dX8_status_92 : decode cX8_status 92 = .ok (.ireturn, 1) := by decide +kernel
theorem dX8_status_93 : decode cX8_status 93 = .ok (.aload_n 0, 1) := by decide +kernel
theorem dX8_status_94 : decode cX8_status 94 = .ok (.getfield 192, 3) := by decide +kernel
theorem dX8_status_97 : decode cX8_status 97 = .ok (.ireturn, 1) := by decide +kernel
theorem dX8_status_98 : decode cX8_status 98 = .ok (.aload_n 0, 1) := by decide +kernel
theorem dX8_status_99 : decode cX8_status 99 = .ok (.getfield 13, 3) := by decide +kernel
theorem dX8_status_102 : decode cX8_status 102 = .ok (.ireturn, 1) := by decide +kernel
theorem dX8_status_103 : decode cX8_status 103 = .ok (.aload_n 0, 1) := by decide +kernel
theorem dX8_status_104 : decode cX8_status 104 = .ok (.getfield 266, 3) := by decide +kernel
theorem dX8_status_107 : decode cX8_status 107 = .ok (.ireturn, 1) := by decide +kernel
theorem dX8_status_108 : decode cX8_status 108 = .ok (.iconst (-1), 1) := by decide +kernel
theorem dX8_status_109 : decode cX8_status 109 = .ok (.ireturn, 1) := by decide +kernel
