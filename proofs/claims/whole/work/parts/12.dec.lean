theorem dX6_init_0 : decode cX6_init 0 = .ok (.aload_n 0, 1) := by decide +kernel
theorem dX6_init_1 : decode cX6_init 1 = .ok (.invokespecial 1, 3) := by decide +kernel
theorem dX6_init_4 : decode cX6_init 4 = .ok (.aload_n 0, 1) := by decide +kernel
theorem dX6_init_5 : decode cX6_init 5 = .ok (.bipush 24, 2) := by decide +kernel
theorem dX6_init_7 : decode cX6_init 7 = .ok (.newarray .int, 2) := by decide +kernel
theorem dX6_init_9 : decode cX6_init 9 = .ok (.putfield 7, 3) := by decide +kernel
theorem dX6_init_12 : decode cX6_init 12 = .ok (.aload_n 0, 1) := by decide +kernel
theorem dX6_init_13 : decode cX6_init 13 = .ok (.bipush 24, 2) := by decide +kernel
theorem dX6_init_15 : decode cX6_init 15 = .ok (.newarray .int, 2) := by decide +kernel
theorem dX6_init_17 : decode cX6_init 17 = .ok (.putfield 13, 3) := by decide +kernel
theorem dX6_init_20 : decode cX6_init 20 = .ok (.aload_n 0, 1) := by decide +kernel
theorem dX6_init_21 : decode cX6_init 21 = .ok (.bipush 24, 2) := by decide +kernel
theorem dX6_init_23 : decode cX6_init 23 = .ok (.newarray .long, 2) := by decide +kernel
theorem dX6_init_25 : decode cX6_init 25 = .ok (.putfield 16, 3) := by decide +kernel
theorem dX6_init_28 : decode cX6_init 28 = .ok (.aload_n 0, 1) := by decide +kernel
theorem dX6_init_29 : decode cX6_init 29 = .ok (.sipush 288, 3) := by decide +kernel
theorem dX6_init_32 : decode cX6_init 32 = .ok (.newarray .int, 2) := by decide +kernel
theorem dX6_init_34 : decode cX6_init 34 = .ok (.putfield 20, 3) := by decide +kernel
theorem dX6_init_37 : decode cX6_init 37 = .ok (.aload_n 0, 1) := by decide +kernel
theorem dX6_init_38 : decode cX6_init 38 = .ok (.sipush 288, 3) := by decide +kernel
theorem dX6_init_41 : decode cX6_init 41 = .ok (.newarray .long, 2) := by decide +kernel
theorem dX6_init_43 : decode cX6_init 43 = .ok (.putfield 23, 3) := by decide +kernel
theorem dX6_init_46 : decode cX6_init 46 = .ok (.aload_n 0, 1) := by decide +kernel
theorem dX6_init_47 : decode cX6_init 47 = .ok (.sipush 200, 3) := by decide +kernel
theorem dX6_init_50 : decode cX6_init 50 = .ok (.newarray .int, 2) := by decide +kernel
theorem dX6_init_52 : decode cX6_init 52 = .ok (.putfield 26, 3) := by decide +kernel
theorem dX6_init_55 : decode cX6_init 55 = .ok (.aload_n 0, 1) := by decide +kernel
theorem dX6_init_56 : decode cX6_init 56 = .ok (.iconst (-1), 1) := by decide +kernel
theorem dX6_init_57 : decode cX6_init 57 = .ok (.putfield 29, 3) := by decide +kernel
theorem dX6_init_60 : decode cX6_init 60 = .ok (.aload_n 0, 1) := by decide +kernel
theorem dX6_init_61 : decode cX6_init 61 = .ok (.iconst 5, 1) := by decide +kernel
theorem dX6_init_62 : decode cX6_init 62 = .ok (.newarray .int, 2) := by decide +kernel
theorem dX6_init_64 : decode cX6_init 64 = .ok (.putfield 33, 3) := by decide +kernel
theorem dX6_init_67 : decode cX6_init 67 = .ok (.aload_n 0, 1) := by decide +kernel
theorem dX6_init_68 : decode cX6_init 68 = .ok (.sipush 1500, 3) := by decide +kernel
theorem dX6_init_71 : decode cX6_init 71 = .ok (.newarray .int, 2) := by decide +kernel
theorem dX6_init_73 : decode cX6_init 73 = .ok (.putfield 36, 3) := by decide +kernel
theorem dX6_init_76 : decode cX6_init 76 = .ok (.aload_n 0, 1) := by decide +kernel
theorem dX6_init_77 : decode cX6_init 77 = .ok (.sipush 1500, 3) := by decide +kernel
theorem dX6_init_80 : decode cX6_init 80 = .ok (.newarray .int, 2) := by decide +kernel
theorem dX6_init_82 : decode cX6_init 82 = .ok (.putfield 39, 3) := by decide +kernel
theorem dX6_init_85 : decode cX6_init 85 = .ok (.aload_n 0, 1) := by decide +kernel
theorem dX6_init_86 : decode cX6_init 86 = .ok (.bipush 24, 2) := by decide +kernel
theorem dX6_init_88 : decode cX6_init 88 = .ok (.newarray .int, 2) := by decide +kernel
theorem dX6_init_90 : decode cX6_init 90 = .ok (.putfield 42, 3) := by decide +kernel
theorem dX6_init_93 : decode cX6_init 93 = .ok (.aload_n 0, 1) := by decide +kernel
theorem dX6_init_94 : decode cX6_init 94 = .ok (.bipush 12, 2) := by decide +kernel
theorem dX6_init_96 : decode cX6_init 96 = .ok (.newarray .int, 2) := by decide +kernel
theorem dX6_init_98 : decode cX6_init 98 = .ok (.putfield 45, 3) := by decide +kernel
theorem dX6_init_101 : decode cX6_init 101 = .ok (.aload_n 0, 1) := by decide +kernel
theorem dX6_init_102 : decode cX6_init 102 = .ok (.bipush 13, 2) := by decide +kernel
theorem dX6_init_104 : decode cX6_init 104 = .ok (.newarray .int, 2) := by decide +kernel
theorem dX6_init_106 : decode cX6_init 106 = .ok (.putfield 48, 3) := by decide +kernel
theorem dX6_init_109 : decode cX6_init 109 = .ok (.aload_n 0, 1) := by decide +kernel
theorem dX6_init_110 : decode cX6_init 110 = .ok (.bipush 13, 2) := by decide +kernel
theorem dX6_init_112 : decode cX6_init 112 = .ok (.newarray .int, 2) := by decide +kernel
theorem dX6_init_114 : decode cX6_init 114 = .ok (.putfield 51, 3) := by decide +kernel
theorem dX6_init_117 : decode cX6_init 117 = .ok (.aload_n 0, 1) := by decide +kernel
theorem dX6_init_118 : decode cX6_init 118 = .ok (.sipush 200, 3) := by decide +kernel
theorem dX6_init_121 : decode cX6_init 121 = .ok (.newarray .int, 2) := by decide +kernel
theorem dX6_init_123 : decode cX6_init 123 = .ok (.putfield 54, 3) := by decide +kernel
theorem dX6_init_126 : decode cX6_init 126 = .ok (.aload_n 0, 1) := by decide +kernel
theorem dX6_init_127 : decode cX6_init 127 = .ok (.bipush 38, 2) := by decide +kernel
theorem dX6_init_129 : decode cX6_init 129 = .ok (.newarray .int, 2) := by decide +kernel
theorem dX6_init_131 : decode cX6_init 131 = .ok (.dup, 1) := by decide +kernel
theorem dX6_init_132 : decode cX6_init 132 = .ok (.iconst 0, 1) := by decide +kernel
theorem dX6_init_133 : decode cX6_init 133 = .ok (.bipush 98, 2) := by decide +kernel
theorem dX6_init_135 : decode cX6_init 135 = .ok (.iastore, 1) := by decide +kernel
theorem dX6_init_136 : decode cX6_init 136 = .ok (.dup, 1) := by decide +kernel
theorem dX6_init_137 : decode cX6_init 137 = .ok (.iconst 1, 1) := by decide +kernel
theorem dX6_init_138 : decode cX6_init 138 = .ok (.bipush 111, 2) := by decide +kernel
theorem dX6_init_140 : decode cX6_init 140 = .ok (.iastore, 1) := by decide +kernel
theorem dX6_init_141 : decode cX6_init 141 = .ok (.dup, 1) := by decide +kernel
theorem dX6_init_142 : decode cX6_init 142 = .ok (.iconst 2, 1) := by decide +kernel
theorem dX6_init_143 : decode cX6_init 143 = .ok (.bipush 111, 2) := by decide +kernel
theorem dX6_init_145 : decode cX6_init 145 = .ok (.iastore, 1) := by decide +kernel
theorem dX6_init_146 : decode cX6_init 146 = .ok (.dup, 1) := by decide +kernel
theorem dX6_init_147 : decode cX6_init 147 = .ok (.iconst 3, 1) := by decide +kernel
theorem dX6_init_148 : decode cX6_init 148 = .ok (.bipush 108, 2) := by decide +kernel
theorem dX6_init_150 : decode cX6_init 150 = .ok (.iastore, 1) := by decide +kernel
theorem dX6_init_151 : decode cX6_init 151 = .ok (.dup, 1) := by decide +kernel
theorem dX6_init_152 : decode cX6_init 152 = .ok (.iconst 4, 1) := by decide +kernel
theorem dX6_init_153 : decode cX6_init 153 = .ok (.bipush 101, 2) := by decide +kernel
theorem dX6_init_155 : decode cX6_init 155 = .ok (.iastore, 1) := by decide +kernel
theorem dX6_init_156 : decode cX6_init 156 = .ok (.dup, 1) := by decide +kernel
theorem dX6_init_157 : decode cX6_init 157 = .ok (.iconst 5, 1) := by decide +kernel
theorem dX6_init_158 : decode cX6_init 158 = .ok (.bipush 97, 2) := by decide +kernel
theorem dX6_init_160 : decode cX6_init 160 = .ok (.iastore, 1) := by decide +kernel
theorem dX6_init_161 : decode cX6_init 161 = .ok (.dup, 1) := by decide +kernel
theorem dX6_init_162 : decode cX6_init 162 = .ok (.bipush 6, 2) := by decide +kernel
theorem dX6_init_164 : decode cX6_init 164 = .ok (.bipush 110, 2) := by decide +kernel
theorem dX6_init_166 : decode cX6_init 166 = .ok (.iastore, 1) := by decide +kernel
theorem dX6_init_167 : decode cX6_init 167 = .ok (.dup, 1) := by decide +kernel
theorem dX6_init_168 : decode cX6_init 168 = .ok (.bipush 7, 2) := by decide +kernel
theorem dX6_init_170 : decode cX6_init 170 = .ok (.bipush 98, 2) := by decide +kernel
theorem dX6_init_172 : decode cX6_init 172 = .ok (.iastore, 1) := by decide +kernel
theorem dX6_init_173 : decode cX6_init 173 = .ok (.dup, 1) := by decide +kernel
theorem dX6_init_174 : decode cX6_init 174 = .ok (.bipush 8, 2) := by decide +kernel
theorem dX6_init_176 : decode cX6_init 176 = .ok (.bipush 121, 2) := by decide +kernel
theorem dX6_init_178 : decode cX6_init 178 = .ok (.iastore, 1) := by decide +kernel
theorem dX6_init_179 : decode cX6_init 179 = .ok (.dup, 1) := by decide +kernel
theorem dX6_init_180 : decode cX6_init 180 = .ok (.bipush 9, 2) := by decide +kernel
theorem dX6_init_182 : decode cX6_init 182 = .ok (.bipush 116, 2) := by decide +kernel
theorem dX6_init_184 : decode cX6_init 184 = .ok (.iastore, 1) := by decide +kernel
theorem dX6_init_185 : decode cX6_init 185 = .ok (.dup, 1) := by decide +kernel
theorem dX6_init_186 : decode cX6_init 186 = .ok (.bipush 10, 2) := by decide +kernel
theorem dX6_init_188 : decode cX6_init 188 = .ok (.bipush 101, 2) := by decide +kernel
theorem dX6_init_190 : decode cX6_init 190 = .ok (.iastore, 1) := by decide +kernel
theorem dX6_init_191 : decode cX6_init 191 = .ok (.dup, 1) := by decide +kernel
theorem dX6_init_192 : decode cX6_init 192 = .ok (.bipush 11, 2) := by decide +kernel
theorem dX6_init_194 : decode cX6_init 194 = .ok (.bipush 99, 2) := by decide +kernel
theorem dX6_init_196 : decode cX6_init 196 = .ok (.iastore, 1) := by decide +kernel
theorem dX6_init_197 : decode cX6_init 197 = .ok (.dup, 1) := by decide +kernel
theorem dX6_init_198 : decode cX6_init 198 = .ok (.bipush 12, 2) := by decide +kernel
theorem dX6_init_200 : decode cX6_init 200 = .ok (.bipush 104, 2) := by decide +kernel
theorem dX6_init_202 : decode cX6_init 202 = .ok (.iastore, 1) := by decide +kernel
theorem dX6_init_203 : decode cX6_init 203 = .ok (.dup, 1) := by decide +kernel
theorem dX6_init_204 : decode cX6_init 204 = .ok (.bipush 13, 2) := by decide +kernel
theorem dX6_init_206 : decode cX6_init 206 = .ok (.bipush 97, 2) := by decide +kernel
theorem dX6_init_208 : decode cX6_init 208 = .ok (.iastore, 1) := by decide +kernel
theorem dX6_init_209 : decode cX6_init 209 = .ok (.dup, 1) := by decide +kernel
theorem dX6_init_210 : decode cX6_init 210 = .ok (.bipush 14, 2) := by decide +kernel
theorem dX6_init_212 : decode cX6_init 212 = .ok (.bipush 114, 2) := by decide +kernel
theorem dX6_init_214 : decode cX6_init 214 = .ok (.iastore, 1) := by decide +kernel
theorem dX6_init_215 : decode cX6_init 215 = .ok (.dup, 1) := by decide +kernel
theorem dX6_init_216 : decode cX6_init 216 = .ok (.bipush 15, 2) := by decide +kernel
theorem dX6_init_218 : decode cX6_init 218 = .ok (.bipush 115, 2) := by decide +kernel
theorem dX6_init_220 : decode cX6_init 220 = .ok (.iastore, 1) := by decide +kernel
theorem dX6_init_221 : decode cX6_init 221 = .ok (.dup, 1) := by decide +kernel
theorem dX6_init_222 : decode cX6_init 222 = .ok (.bipush 16, 2) := by decide +kernel
theorem dX6_init_224 : decode cX6_init 224 = .ok (.bipush 104, 2) := by decide +kernel
theorem dX6_init_226 : decode cX6_init 226 = .ok (.iastore, 1) := by decide +kernel
theorem dX6_init_227 : decode cX6_init 227 = .ok (.dup, 1) := by decide +kernel
theorem dX6_init_228 : decode cX6_init 228 = .ok (.bipush 17, 2) := by decide +kernel
theorem dX6_init_230 : decode cX6_init 230 = .ok (.bipush 111, 2) := by decide +kernel
theorem dX6_init_232 : decode cX6_init 232 = .ok (.iastore, 1) := by decide +kernel
theorem dX6_init_233 : decode cX6_init 233 = .ok (.dup, 1) := by decide +kernel
theorem dX6_init_234 : decode cX6_init 234 = .ok (.bipush 18, 2) := by decide +kernel
theorem dX6_init_236 : decode cX6_init 236 = .ok (.bipush 114, 2) := by decide +kernel
theorem dX6_init_238 : decode cX6_init 238 = .ok (.iastore, 1) := by decide +kernel
theorem dX6_init_239 : decode cX6_init 239 = .ok (.dup, 1) := by decide +kernel
theorem dX6_init_240 : decode cX6_init 240 = .ok (.bipush 19, 2) := by decide +kernel
theorem dX6_init_242 : decode cX6_init 242 = .ok (.bipush 116, 2) := by decide +kernel
theorem dX6_init_244 : decode cX6_init 244 = .ok (.iastore, 1) := by decide +kernel
theorem dX6_init_245 : decode cX6_init 245 = .ok (.dup, 1) := by decide +kernel
theorem dX6_init_246 : decode cX6_init 246 = .ok (.bipush 20, 2) := by decide +kernel
theorem dX6_init_248 : decode cX6_init 248 = .ok (.bipush 105, 2) := by decide +kernel
theorem dX6_init_250 : decode cX6_init 250 = .ok (.iastore, 1) := by decide +kernel
theorem dX6_init_251 : decode cX6_init 251 = .ok (.dup, 1) := by decide +kernel
theorem dX6_init_252 : decode cX6_init 252 = .ok (.bipush 21, 2) := by decide +kernel
theorem dX6_init_254 : decode cX6_init 254 = .ok (.bipush 110, 2) := by decide +kernel
theorem dX6_init_256 : decode cX6_init 256 = .ok (.iastore, 1) := by decide +kernel
theorem dX6_init_257 : decode cX6_init 257 = .ok (.dup, 1) := by decide +kernel
theorem dX6_init_258 : decode cX6_init 258 = .ok (.bipush 22, 2) := by decide +kernel
theorem dX6_init_260 : decode cX6_init 260 = .ok (.bipush 116, 2) := by decide +kernel
theorem dX6_init_262 : decode cX6_init 262 = .ok (.iastore, 1) := by decide +kernel
theorem dX6_init_263 : decode cX6_init 263 = .ok (.dup, 1) := by decide +kernel
theorem dX6_init_264 : decode cX6_init 264 = .ok (.bipush 23, 2) := by decide +kernel
theorem dX6_init_266 : decode cX6_init 266 = .ok (.bipush 108, 2) := by decide +kernel
theorem dX6_init_268 : decode cX6_init 268 = .ok (.iastore, 1) := by decide +kernel
theorem dX6_init_269 : decode cX6_init 269 = .ok (.dup, 1) := by decide +kernel
theorem dX6_init_270 : decode cX6_init 270 = .ok (.bipush 24, 2) := by decide +kernel
theorem dX6_init_272 : decode cX6_init 272 = .ok (.bipush 111, 2) := by decide +kernel
theorem dX6_init_274 : decode cX6_init 274 = .ok (.iastore, 1) := by decide +kernel
theorem dX6_init_275 : decode cX6_init 275 = .ok (.dup, 1) := by decide +kernel
theorem dX6_init_276 : decode cX6_init 276 = .ok (.bipush 25, 2) := by decide +kernel
theorem dX6_init_278 : decode cX6_init 278 = .ok (.bipush 110, 2) := by decide +kernel
theorem dX6_init_280 : decode cX6_init 280 = .ok (.iastore, 1) := by decide +kernel
theorem dX6_init_281 : decode cX6_init 281 = .ok (.dup, 1) := by decide +kernel
theorem dX6_init_282 : decode cX6_init 282 = .ok (.bipush 26, 2) := by decide +kernel
theorem dX6_init_284 : decode cX6_init 284 = .ok (.bipush 103, 2) := by decide +kernel
theorem dX6_init_286 : decode cX6_init 286 = .ok (.iastore, 1) := by decide +kernel
theorem dX6_init_287 : decode cX6_init 287 = .ok (.dup, 1) := by decide +kernel
theorem dX6_init_288 : decode cX6_init 288 = .ok (.bipush 27, 2) := by decide +kernel
theorem dX6_init_290 : decode cX6_init 290 = .ok (.bipush 102, 2) := by decide +kernel
theorem dX6_init_292 : decode cX6_init 292 = .ok (.iastore, 1) := by decide +kernel
theorem dX6_init_293 : decode cX6_init 293 = .ok (.dup, 1) := by decide +kernel
theorem dX6_init_294 : decode cX6_init 294 = .ok (.bipush 28, 2) := by decide +kernel
theorem dX6_init_296 : decode cX6_init 296 = .ok (.bipush 108, 2) := by decide +kernel
theorem dX6_init_298 : decode cX6_init 298 = .ok (.iastore, 1) := by decide +kernel
theorem dX6_init_299 : decode cX6_init 299 = .ok (.dup, 1) := by decide +kernel
theorem dX6_init_300 : decode cX6_init 300 = .ok (.bipush 29, 2) := by decide +kernel
theorem dX6_init_302 : decode cX6_init 302 = .ok (.bipush 111, 2) := by decide +kernel
theorem dX6_init_304 : decode cX6_init 304 = .ok (.iastore, 1) := by decide +kernel
theorem dX6_init_305 : decode cX6_init 305 = .ok (.dup, 1) := by decide +kernel
theorem dX6_init_306 : decode cX6_init 306 = .ok (.bipush 30, 2) := by decide +kernel
theorem dX6_init_308 : decode cX6_init 308 = .ok (.bipush 97, 2) := by decide +kernel
theorem dX6_init_310 : decode cX6_init 310 = .ok (.iastore, 1) := by decide +kernel
theorem dX6_init_311 : decode cX6_init 311 = .ok (.dup, 1) := by decide +kernel
theorem dX6_init_312 : decode cX6_init 312 = .ok (.bipush 31, 2) := by decide +kernel
theorem dX6_init_314 : decode cX6_init 314 = .ok (.bipush 116, 2) := by decide +kernel
theorem dX6_init_316 : decode cX6_init 316 = .ok (.iastore, 1) := by decide +kernel
theorem dX6_init_317 : decode cX6_init 317 = .ok (.dup, 1) := by decide +kernel
theorem dX6_init_318 : decode cX6_init 318 = .ok (.bipush 32, 2) := by decide +kernel
theorem dX6_init_320 : decode cX6_init 320 = .ok (.bipush 100, 2) := by decide +kernel
theorem dX6_init_322 : decode cX6_init 322 = .ok (.iastore, 1) := by decide +kernel
theorem dX6_init_323 : decode cX6_init 323 = .ok (.dup, 1) := by decide +kernel
theorem dX6_init_324 : decode cX6_init 324 = .ok (.bipush 33, 2) := by decide +kernel
theorem dX6_init_326 : decode cX6_init 326 = .ok (.bipush 111, 2) := by decide +kernel
theorem dX6_init_328 : decode cX6_init 328 = .ok (.iastore, 1) := by decide +kernel
theorem dX6_init_329 : decode cX6_init 329 = .ok (.dup, 1) := by decide +kernel
theorem dX6_init_330 : decode cX6_init 330 = .ok (.bipush 34, 2) := by decide +kernel
theorem dX6_init_332 : decode cX6_init 332 = .ok (.bipush 117, 2) := by decide +kernel
theorem dX6_init_334 : decode cX6_init 334 = .ok (.iastore, 1) := by decide +kernel
theorem dX6_init_335 : decode cX6_init 335 = .ok (.dup, 1) := by decide +kernel
theorem dX6_init_336 : decode cX6_init 336 = .ok (.bipush 35, 2) := by decide +kernel
theorem dX6_init_338 : decode cX6_init 338 = .ok (.bipush 98, 2) := by decide +kernel
theorem dX6_init_340 : decode cX6_init 340 = .ok (.iastore, 1) := by decide +kernel
theorem dX6_init_341 : decode cX6_init 341 = .ok (.dup, 1) := by decide +kernel
theorem dX6_init_342 : decode cX6_init 342 = .ok (.bipush 36, 2) := by decide +kernel
theorem dX6_init_344 : decode cX6_init 344 = .ok (.bipush 108, 2) := by decide +kernel
theorem dX6_init_346 : decode cX6_init 346 = .ok (.iastore, 1) := by decide +kernel
theorem dX6_init_347 : decode cX6_init 347 = .ok (.dup, 1) := by decide +kernel
theorem dX6_init_348 : decode cX6_init 348 = .ok (.bipush 37, 2) := by decide +kernel
theorem dX6_init_350 : decode cX6_init 350 = .ok (.bipush 101, 2) := by decide +kernel
theorem dX6_init_352 : decode cX6_init 352 = .ok (.iastore, 1) := by decide +kernel
theorem dX6_init_353 : decode cX6_init 353 = .ok (.putfield 57, 3) := by decide +kernel
theorem dX6_init_356 : decode cX6_init 356 = .ok (.aload_n 0, 1) := by decide +kernel
theorem dX6_init_357 : decode cX6_init 357 = .ok (.bipush 35, 2) := by decide +kernel
theorem dX6_init_359 : decode cX6_init 359 = .ok (.newarray .int, 2) := by decide +kernel
theorem dX6_init_361 : decode cX6_init 361 = .ok (.dup, 1) := by decide +kernel
theorem dX6_init_362 : decode cX6_init 362 = .ok (.iconst 0, 1) := by decide +kernel
theorem dX6_init_363 : decode cX6_init 363 = .ok (.bipush 105, 2) := by decide +kernel
theorem dX6_init_365 : decode cX6_init 365 = .ok (.iastore, 1) := by decide +kernel
theorem dX6_init_366 : decode cX6_init 366 = .ok (.dup, 1) := by decide +kernel
theorem dX6_init_367 : decode cX6_init 367 = .ok (.iconst 1, 1) := by decide +kernel
theorem dX6_init_368 : decode cX6_init 368 = .ok (.bipush 110, 2) := by decide +kernel
theorem dX6_init_370 : decode cX6_init 370 = .ok (.iastore, 1) := by decide +kernel
theorem dX6_init_371 : decode cX6_init 371 = .ok (.dup, 1) := by decide +kernel
theorem dX6_init_372 : decode cX6_init 372 = .ok (.iconst 2, 1) := by decide +kernel
theorem dX6_init_373 : decode cX6_init 373 = .ok (.bipush 116, 2) := by decide +kernel
theorem dX6_init_375 : decode cX6_init 375 = .ok (.iastore, 1) := by decide +kernel
theorem dX6_init_376 : decode cX6_init 376 = .ok (.dup, 1) := by decide +kernel
theorem dX6_init_377 : decode cX6_init 377 = .ok (.iconst 3, 1) := by decide +kernel
theorem dX6_init_378 : decode cX6_init 378 = .ok (.bipush 115, 2) := by decide +kernel
theorem dX6_init_380 : decode cX6_init 380 = .ok (.iastore, 1) := by decide +kernel
theorem dX6_init_381 : decode cX6_init 381 = .ok (.dup, 1) := by decide +kernel
theorem dX6_init_382 : decode cX6_init 382 = .ok (.iconst 4, 1) := by decide +kernel
theorem dX6_init_383 : decode cX6_init 383 = .ok (.bipush 119, 2) := by decide +kernel
theorem dX6_init_385 : decode cX6_init 385 = .ok (.iastore, 1) := by decide +kernel
theorem dX6_init_386 : decode cX6_init 386 = .ok (.dup, 1) := by decide +kernel
theorem dX6_init_387 : decode cX6_init 387 = .ok (.iconst 5, 1) := by decide +kernel
theorem dX6_init_388 : decode cX6_init 388 = .ok (.bipush 111, 2) := by decide +kernel
theorem dX6_init_390 : decode cX6_init 390 = .ok (.iastore, 1) := by decide +kernel
theorem dX6_init_391 : decode cX6_init 391 = .ok (.dup, 1) := by decide +kernel
theorem dX6_init_392 : decode cX6_init 392 = .ok (.bipush 6, 2) := by decide +kernel
theorem dX6_init_394 : decode cX6_init 394 = .ok (.bipush 114, 2) := by decide +kernel
theorem dX6_init_396 : decode cX6_init 396 = .ok (.iastore, 1) := by decide +kernel
theorem dX6_init_397 : decode cX6_init 397 = .ok (.dup, 1) := by decide +kernel
theorem dX6_init_398 : decode cX6_init 398 = .ok (.bipush 7, 2) := by decide +kernel
theorem dX6_init_400 : decode cX6_init 400 = .ok (.bipush 100, 2) := by decide +kernel
theorem dX6_init_402 : decode cX6_init 402 = .ok (.iastore, 1) := by decide +kernel
theorem dX6_init_403 : decode cX6_init 403 = .ok (.dup, 1) := by decide +kernel
theorem dX6_init_404 : decode cX6_init 404 = .ok (.bipush 8, 2) := by decide +kernel
theorem dX6_init_406 : decode cX6_init 406 = .ok (.bipush 115, 2) := by decide +kernel
theorem dX6_init_408 : decode cX6_init 408 = .ok (.iastore, 1) := by decide +kernel
theorem dX6_init_409 : decode cX6_init 409 = .ok (.dup, 1) := by decide +kernel
theorem dX6_init_410 : decode cX6_init 410 = .ok (.bipush 9, 2) := by decide +kernel
theorem dX6_init_412 : decode cX6_init 412 = .ok (.bipush 98, 2) := by decide +kernel
theorem dX6_init_414 : decode cX6_init 414 = .ok (.iastore, 1) := by decide +kernel
theorem dX6_init_415 : decode cX6_init 415 = .ok (.dup, 1) := by decide +kernel
theorem dX6_init_416 : decode cX6_init 416 = .ok (.bipush 10, 2) := by decide +kernel
theorem dX6_init_418 : decode cX6_init 418 = .ok (.bipush 101, 2) := by decide +kernel
theorem dX6_init_420 : decode cX6_init 420 = .ok (.iastore, 1) := by decide +kernel
theorem dX6_init_421 : decode cX6_init 421 = .ok (.dup, 1) := by decide +kernel
theorem dX6_init_422 : decode cX6_init 422 = .ok (.bipush 11, 2) := by decide +kernel
theorem dX6_init_424 : decode cX6_init 424 = .ok (.bipush 97, 2) := by decide +kernel
theorem dX6_init_426 : decode cX6_init 426 = .ok (.iastore, 1) := by decide +kernel
theorem dX6_init_427 : decode cX6_init 427 = .ok (.dup, 1) := by decide +kernel
theorem dX6_init_428 : decode cX6_init 428 = .ok (.bipush 12, 2) := by decide +kernel
theorem dX6_init_430 : decode cX6_init 430 = .ok (.bipush 100, 2) := by decide +kernel
theorem dX6_init_432 : decode cX6_init 432 = .ok (.iastore, 1) := by decide +kernel
theorem dX6_init_433 : decode cX6_init 433 = .ok (.dup, 1) := by decide +kernel
theorem dX6_init_434 : decode cX6_init 434 = .ok (.bipush 13, 2) := by decide +kernel
theorem dX6_init_436 : decode cX6_init 436 = .ok (.bipush 115, 2) := by decide +kernel
theorem dX6_init_438 : decode cX6_init 438 = .ok (.iastore, 1) := by decide +kernel
theorem dX6_init_439 : decode cX6_init 439 = .ok (.dup, 1) := by decide +kernel
theorem dX6_init_440 : decode cX6_init 440 = .ok (.bipush 14, 2) := by decide +kernel
theorem dX6_init_442 : decode cX6_init 442 = .ok (.bipush 112, 2) := by decide +kernel
theorem dX6_init_444 : decode cX6_init 444 = .ok (.iastore, 1) := by decide +kernel
theorem dX6_init_445 : decode cX6_init 445 = .ok (.dup, 1) := by decide +kernel
theorem dX6_init_446 : decode cX6_init 446 = .ok (.bipush 15, 2) := by decide +kernel
theorem dX6_init_448 : decode cX6_init 448 = .ok (.bipush 101, 2) := by decide +kernel
theorem dX6_init_450 : decode cX6_init 450 = .ok (.iastore, 1) := by decide +kernel
theorem dX6_init_451 : decode cX6_init 451 = .ok (.dup, 1) := by decide +kernel
theorem dX6_init_452 : decode cX6_init 452 = .ok (.bipush 16, 2) := by decide +kernel
theorem dX6_init_454 : decode cX6_init 454 = .ok (.bipush 97, 2) := by decide +kernel
theorem dX6_init_456 : decode cX6_init 456 = .ok (.iastore, 1) := by decide +kernel
theorem dX6_init_457 : decode cX6_init 457 = .ok (.dup, 1) := by decide +kernel
theorem dX6_init_458 : decode cX6_init 458 = .ok (.bipush 17, 2) := by decide +kernel
theorem dX6_init_460 : decode cX6_init 460 = .ok (.bipush 114, 2) := by decide +kernel
theorem dX6_init_462 : decode cX6_init 462 = .ok (.iastore, 1) := by decide +kernel
theorem dX6_init_463 : decode cX6_init 463 = .ok (.dup, 1) := by decide +kernel
theorem dX6_init_464 : decode cX6_init 464 = .ok (.bipush 18, 2) := by decide +kernel
theorem dX6_init_466 : decode cX6_init 466 = .ok (.bipush 108, 2) := by decide +kernel
theorem dX6_init_468 : decode cX6_init 468 = .ok (.iastore, 1) := by decide +kernel
theorem dX6_init_469 : decode cX6_init 469 = .ok (.dup, 1) := by decide +kernel
theorem dX6_init_470 : decode cX6_init 470 = .ok (.bipush 19, 2) := by decide +kernel
theorem dX6_init_472 : decode cX6_init 472 = .ok (.bipush 115, 2) := by decide +kernel
theorem dX6_init_474 : decode cX6_init 474 = .ok (.iastore, 1) := by decide +kernel
theorem dX6_init_475 : decode cX6_init 475 = .ok (.dup, 1) := by decide +kernel
theorem dX6_init_476 : decode cX6_init 476 = .ok (.bipush 20, 2) := by decide +kernel
theorem dX6_init_478 : decode cX6_init 478 = .ok (.bipush 97, 2) := by decide +kernel
theorem dX6_init_480 : decode cX6_init 480 = .ok (.iastore, 1) := by decide +kernel
theorem dX6_init_481 : decode cX6_init 481 = .ok (.dup, 1) := by decide +kernel
theorem dX6_init_482 : decode cX6_init 482 = .ok (.bipush 21, 2) := by decide +kernel
theorem dX6_init_484 : decode cX6_init 484 = .ok (.bipush 110, 2) := by decide +kernel
theorem dX6_init_486 : decode cX6_init 486 = .ok (.iastore, 1) := by decide +kernel
theorem dX6_init_487 : decode cX6_init 487 = .ok (.dup, 1) := by decide +kernel
theorem dX6_init_488 : decode cX6_init 488 = .ok (.bipush 22, 2) := by decide +kernel
theorem dX6_init_490 : decode cX6_init 490 = .ok (.bipush 121, 2) := by decide +kernel
theorem dX6_init_492 : decode cX6_init 492 = .ok (.iastore, 1) := by decide +kernel
theorem dX6_init_493 : decode cX6_init 493 = .ok (.dup, 1) := by decide +kernel
theorem dX6_init_494 : decode cX6_init 494 = .ok (.bipush 23, 2) := by decide +kernel
theorem dX6_init_496 : decode cX6_init 496 = .ok (.bipush 114, 2) := by decide +kernel
theorem dX6_init_498 : decode cX6_init 498 = .ok (.iastore, 1) := by decide +kernel
theorem dX6_init_499 : decode cX6_init 499 = .ok (.dup, 1) := by decide +kernel
theorem dX6_init_500 : decode cX6_init 500 = .ok (.bipush 24, 2) := by decide +kernel
theorem dX6_init_502 : decode cX6_init 502 = .ok (.bipush 111, 2) := by decide +kernel
theorem dX6_init_504 : decode cX6_init 504 = .ok (.iastore, 1) := by decide +kernel
theorem dX6_init_505 : decode cX6_init 505 = .ok (.dup, 1) := by decide +kernel
theorem dX6_init_506 : decode cX6_init 506 = .ok (.bipush 25, 2) := by decide +kernel
theorem dX6_init_508 : decode cX6_init 508 = .ok (.bipush 119, 2) := by decide +kernel
theorem dX6_init_510 : decode cX6_init 510 = .ok (.iastore, 1) := by decide +kernel
theorem dX6_init_511 : decode cX6_init 511 = .ok (.dup, 1) := by decide +kernel
theorem dX6_init_512 : decode cX6_init 512 = .ok (.bipush 26, 2) := by decide +kernel
theorem dX6_init_514 : decode cX6_init 514 = .ok (.bipush 115, 2) := by decide +kernel
theorem dX6_init_516 : decode cX6_init 516 = .ok (.iastore, 1) := by decide +kernel
theorem dX6_init_517 : decode cX6_init 517 = .ok (.dup, 1) := by decide +kernel
theorem dX6_init_518 : decode cX6_init 518 = .ok (.bipush 27, 2) := by decide +kernel
theorem dX6_init_520 : decode cX6_init 520 = .ok (.bipush 98, 2) := by decide +kernel
theorem dX6_init_522 : decode cX6_init 522 = .ok (.iastore, 1) := by decide +kernel
theorem dX6_init_523 : decode cX6_init 523 = .ok (.dup, 1) := by decide +kernel
theorem dX6_init_524 : decode cX6_init 524 = .ok (.bipush 28, 2) := by decide +kernel
theorem dX6_init_526 : decode cX6_init 526 = .ok (.bipush 101, 2) := by decide +kernel
theorem dX6_init_528 : decode cX6_init 528 = .ok (.iastore, 1) := by decide +kernel
theorem dX6_init_529 : decode cX6_init 529 = .ok (.dup, 1) := by decide +kernel
theorem dX6_init_530 : decode cX6_init 530 = .ok (.bipush 29, 2) := by decide +kernel
theorem dX6_init_532 : decode cX6_init 532 = .ok (.bipush 97, 2) := by decide +kernel
theorem dX6_init_534 : decode cX6_init 534 = .ok (.iastore, 1) := by decide +kernel
theorem dX6_init_535 : decode cX6_init 535 = .ok (.dup, 1) := by decide +kernel
theorem dX6_init_536 : decode cX6_init 536 = .ok (.bipush 30, 2) := by decide +kernel
theorem dX6_init_538 : decode cX6_init 538 = .ok (.bipush 100, 2) := by decide +kernel
theorem dX6_init_540 : decode cX6_init 540 = .ok (.iastore, 1) := by decide +kernel
theorem dX6_init_541 : decode cX6_init 541 = .ok (.dup, 1) := by decide +kernel
theorem dX6_init_542 : decode cX6_init 542 = .ok (.bipush 31, 2) := by decide +kernel
theorem dX6_init_544 : decode cX6_init 544 = .ok (.bipush 119, 2) := by decide +kernel
theorem dX6_init_546 : decode cX6_init 546 = .ok (.iastore, 1) := by decide +kernel
theorem dX6_init_547 : decode cX6_init 547 = .ok (.dup, 1) := by decide +kernel
theorem dX6_init_548 : decode cX6_init 548 = .ok (.bipush 32, 2) := by decide +kernel
theorem dX6_init_550 : decode cX6_init 550 = .ok (.bipush 111, 2) := by decide +kernel
theorem dX6_init_552 : decode cX6_init 552 = .ok (.iastore, 1) := by decide +kernel
theorem dX6_init_553 : decode cX6_init 553 = .ok (.dup, 1) := by decide +kernel
theorem dX6_init_554 : decode cX6_init 554 = .ok (.bipush 33, 2) := by decide +kernel
theorem dX6_init_556 : decode cX6_init 556 = .ok (.bipush 114, 2) := by decide +kernel
theorem dX6_init_558 : decode cX6_init 558 = .ok (.iastore, 1) := by decide +kernel
theorem dX6_init_559 : decode cX6_init 559 = .ok (.dup, 1) := by decide +kernel
theorem dX6_init_560 : decode cX6_init 560 = .ok (.bipush 34, 2) := by decide +kernel
theorem dX6_init_562 : decode cX6_init 562 = .ok (.bipush 100, 2) := by decide +kernel
theorem dX6_init_564 : decode cX6_init 564 = .ok (.iastore, 1) := by decide +kernel
theorem dX6_init_565 : decode cX6_init 565 = .ok (.putfield 60, 3) := by decide +kernel
theorem dX6_init_568 : decode cX6_init 568 = .ok (.aload_n 0, 1) := by decide +kernel
theorem dX6_init_569 : decode cX6_init 569 = .ok (.bipush 16, 2) := by decide +kernel
theorem dX6_init_571 : decode cX6_init 571 = .ok (.newarray .int, 2) := by decide +kernel
theorem dX6_init_573 : decode cX6_init 573 = .ok (.dup, 1) := by decide +kernel
theorem dX6_init_574 : decode cX6_init 574 = .ok (.iconst 0, 1) := by decide +kernel
theorem dX6_init_575 : decode cX6_init 575 = .ok (.bipush 7, 2) := by decide +kernel
theorem dX6_init_577 : decode cX6_init 577 = .ok (.iastore, 1) := by decide +kernel
theorem dX6_init_578 : decode cX6_init 578 = .ok (.dup, 1) := by decide +kernel
theorem dX6_init_579 : decode cX6_init 579 = .ok (.iconst 1, 1) := by decide +kernel
theorem dX6_init_580 : decode cX6_init 580 = .ok (.iconst 4, 1) := by decide +kernel
theorem dX6_init_581 : decode cX6_init 581 = .ok (.iastore, 1) := by decide +kernel
theorem dX6_init_582 : decode cX6_init 582 = .ok (.dup, 1) := by decide +kernel
theorem dX6_init_583 : decode cX6_init 583 = .ok (.iconst 2, 1) := by decide +kernel
theorem dX6_init_584 : decode cX6_init 584 = .ok (.iconst 4, 1) := by decide +kernel
theorem dX6_init_585 : decode cX6_init 585 = .ok (.iastore, 1) := by decide +kernel
theorem dX6_init_586 : decode cX6_init 586 = .ok (.dup, 1) := by decide +kernel
theorem dX6_init_587 : decode cX6_init 587 = .ok (.iconst 3, 1) := by decide +kernel
theorem dX6_init_588 : decode cX6_init 588 = .ok (.iconst 5, 1) := by decide +kernel
theorem dX6_init_589 : decode cX6_init 589 = .ok (.iastore, 1) := by decide +kernel
theorem dX6_init_590 : decode cX6_init 590 = .ok (.dup, 1) := by decide +kernel
theorem dX6_init_591 : decode cX6_init 591 = .ok (.iconst 4, 1) := by decide +kernel
theorem dX6_init_592 : decode cX6_init 592 = .ok (.iconst 3, 1) := by decide +kernel
theorem dX6_init_593 : decode cX6_init 593 = .ok (.iastore, 1) := by decide +kernel
theorem dX6_init_594 : decode cX6_init 594 = .ok (.dup, 1) := by decide +kernel
theorem dX6_init_595 : decode cX6_init 595 = .ok (.iconst 5, 1) := by decide +kernel
theorem dX6_init_596 : decode cX6_init 596 = .ok (.iconst 4, 1) := by decide +kernel
theorem dX6_init_597 : decode cX6_init 597 = .ok (.iastore, 1) := by decide +kernel
theorem dX6_init_598 : decode cX6_init 598 = .ok (.dup, 1) := by decide +kernel
theorem dX6_init_599 : decode cX6_init 599 = .ok (.bipush 6, 2) := by decide +kernel
theorem dX6_init_601 : decode cX6_init 601 = .ok (.iconst 5, 1) := by decide +kernel
theorem dX6_init_602 : decode cX6_init 602 = .ok (.iastore, 1) := by decide +kernel
theorem dX6_init_603 : decode cX6_init 603 = .ok (.dup, 1) := by decide +kernel
theorem dX6_init_604 : decode cX6_init 604 = .ok (.bipush 7, 2) := by decide +kernel
theorem dX6_init_606 : decode cX6_init 606 = .ok (.bipush 6, 2) := by decide +kernel
theorem dX6_init_608 : decode cX6_init 608 = .ok (.iastore, 1) := by decide +kernel
theorem dX6_init_609 : decode cX6_init 609 = .ok (.dup, 1) := by decide +kernel
theorem dX6_init_610 : decode cX6_init 610 = .ok (.bipush 8, 2) := by decide +kernel
theorem dX6_init_612 : decode cX6_init 612 = .ok (.iconst 4, 1) := by decide +kernel
theorem dX6_init_613 : decode cX6_init 613 = .ok (.iastore, 1) := by decide +kernel
theorem dX6_init_614 : decode cX6_init 614 = .ok (.dup, 1) := by decide +kernel
theorem dX6_init_615 : decode cX6_init 615 = .ok (.bipush 9, 2) := by decide +kernel
theorem dX6_init_617 : decode cX6_init 617 = .ok (.iconst 5, 1) := by decide +kernel
theorem dX6_init_618 : decode cX6_init 618 = .ok (.iastore, 1) := by decide +kernel
theorem dX6_init_619 : decode cX6_init 619 = .ok (.dup, 1) := by decide +kernel
theorem dX6_init_620 : decode cX6_init 620 = .ok (.bipush 10, 2) := by decide +kernel
theorem dX6_init_622 : decode cX6_init 622 = .ok (.iconst 5, 1) := by decide +kernel
theorem dX6_init_623 : decode cX6_init 623 = .ok (.iastore, 1) := by decide +kernel
theorem dX6_init_624 : decode cX6_init 624 = .ok (.dup, 1) := by decide +kernel
theorem dX6_init_625 : decode cX6_init 625 = .ok (.bipush 11, 2) := by decide +kernel
theorem dX6_init_627 : decode cX6_init 627 = .ok (.bipush 6, 2) := by decide +kernel
theorem dX6_init_629 : decode cX6_init 629 = .ok (.iastore, 1) := by decide +kernel
theorem dX6_init_630 : decode cX6_init 630 = .ok (.dup, 1) := by decide +kernel
theorem dX6_init_631 : decode cX6_init 631 = .ok (.bipush 12, 2) := by decide +kernel
theorem dX6_init_633 : decode cX6_init 633 = .ok (.iconst 3, 1) := by decide +kernel
theorem dX6_init_634 : decode cX6_init 634 = .ok (.iastore, 1) := by decide +kernel
theorem dX6_init_635 : decode cX6_init 635 = .ok (.dup, 1) := by decide +kernel
theorem dX6_init_636 : decode cX6_init 636 = .ok (.bipush 13, 2) := by decide +kernel
theorem dX6_init_638 : decode cX6_init 638 = .ok (.iconst 4, 1) := by decide +kernel
theorem dX6_init_639 : decode cX6_init 639 = .ok (.iastore, 1) := by decide +kernel
theorem dX6_init_640 : decode cX6_init 640 = .ok (.dup, 1) := by decide +kernel
theorem dX6_init_641 : decode cX6_init 641 = .ok (.bipush 14, 2) := by decide +kernel
theorem dX6_init_643 : decode cX6_init 643 = .ok (.iconst 4, 1) := by decide +kernel
theorem dX6_init_644 : decode cX6_init 644 = .ok (.iastore, 1) := by decide +kernel
theorem dX6_init_645 : decode cX6_init 645 = .ok (.dup, 1) := by decide +kernel
theorem dX6_init_646 : decode cX6_init 646 = .ok (.bipush 15, 2) := by decide +kernel
theorem dX6_init_648 : decode cX6_init 648 = .ok (.iconst 4, 1) := by decide +kernel
theorem dX6_init_649 : decode cX6_init 649 = .ok (.iastore, 1) := by decide +kernel
theorem dX6_init_650 : decode cX6_init 650 = .ok (.putfield 63, 3) := by decide +kernel
theorem dX6_init_653 : decode cX6_init 653 = .ok (.aload_n 0, 1) := by decide +kernel
theorem dX6_init_654 : decode cX6_init 654 = .ok (.bipush 16, 2) := by decide +kernel
theorem dX6_init_656 : decode cX6_init 656 = .ok (.newarray .long, 2) := by decide +kernel
theorem dX6_init_658 : decode cX6_init 658 = .ok (.putfield 66, 3) := by decide +kernel
theorem dX6_init_661 : decode cX6_init 661 = .ok (.iconst 0, 1) := by decide +kernel
theorem dX6_init_662 : decode cX6_init 662 = .ok (.istore_n 1, 1) := by decide +kernel
theorem dX6_init_663 : decode cX6_init 663 = .ok (.iload_n 1, 1) := by decide +kernel
theorem dX6_init_664 : decode cX6_init 664 = .ok (.bipush 24, 2) := by decide +kernel
theorem dX6_init_666 : decode cX6_init 666 = .ok (.if_icmp .ge 16, 3) := by decide +kernel
theorem dX6_init_669 : decode cX6_init 669 = .ok (.aload_n 0, 1) := by decide +kernel
theorem dX6_init_670 : decode cX6_init 670 = .ok (.getfield 7, 3) := by decide +kernel
theorem dX6_init_673 : decode cX6_init 673 = .ok (.iload_n 1, 1) := by decide +kernel
theorem dX6_init_674 : decode cX6_init 674 = .ok (.iconst (-1), 1) := by decide +kernel
theorem dX6_init_675 : decode cX6_init 675 = .ok (.iastore, 1) := by decide +kernel
theorem dX6_init_676 : decode cX6_init 676 = .ok (.iinc 1 1, 3) := by decide +kernel
theorem dX6_init_679 : decode cX6_init 679 = .ok (.goto (-16), 3) := by decide +kernel
theorem dX6_init_682 : decode cX6_init 682 = .ok (.iconst 0, 1) := by decide +kernel
theorem dX6_init_683 : decode cX6_init 683 = .ok (.istore_n 1, 1) := by decide +kernel
theorem dX6_init_684 : decode cX6_init 684 = .ok (.iconst 0, 1) := by decide +kernel
theorem dX6_init_685 : decode cX6_init 685 = .ok (.istore_n 2, 1) := by decide +kernel
theorem dX6_init_686 : decode cX6_init 686 = .ok (.iload_n 2, 1) := by decide +kernel
theorem dX6_init_687 : decode cX6_init 687 = .ok (.bipush 16, 2) := by decide +kernel
theorem dX6_init_689 : decode cX6_init 689 = .ok (.if_icmp .ge 76, 3) := by decide +kernel
theorem dX6_init_692 : decode cX6_init 692 = .ok (.iconst 0, 1) := by decide +kernel
theorem dX6_init_693 : decode cX6_init 693 = .ok (.istore_n 3, 1) := by decide +kernel
theorem dX6_init_694 : decode cX6_init 694 = .ok (.iload_n 3, 1) := by decide +kernel
theorem dX6_init_695 : decode cX6_init 695 = .ok (.aload_n 0, 1) := by decide +kernel
theorem dX6_init_696 : decode cX6_init 696 = .ok (.getfield 63, 3) := by decide +kernel
theorem dX6_init_699 : decode cX6_init 699 = .ok (.iload_n 2, 1) := by decide +kernel
theorem dX6_init_700 : decode cX6_init 700 = .ok (.iaload, 1) := by decide +kernel
theorem dX6_init_701 : decode cX6_init 701 = .ok (.if_icmp .ge 58, 3) := by decide +kernel
theorem dX6_init_704 : decode cX6_init 704 = .ok (.aload_n 0, 1) := by decide +kernel
theorem dX6_init_705 : decode cX6_init 705 = .ok (.getfield 66, 3) := by decide +kernel
theorem dX6_init_708 : decode cX6_init 708 = .ok (.iload_n 2, 1) := by decide +kernel
theorem dX6_init_709 : decode cX6_init 709 = .ok (.ldc2_w 69, 3) := by decide +kernel
theorem dX6_init_712 : decode cX6_init 712 = .ok (.aload_n 0, 1) := by decide +kernel
theorem dX6_init_713 : decode cX6_init 713 = .ok (.getfield 66, 3) := by decide +kernel
theorem dX6_init_716 : decode cX6_init 716 = .ok (.iload_n 2, 1) := by decide +kernel
theorem dX6_init_717 : decode cX6_init 717 = .ok (.laload, 1) := by decide +kernel
theorem dX6_init_718 : decode cX6_init 718 = .ok (.lmul, 1) := by decide +kernel
theorem dX6_init_719 : decode cX6_init 719 = .ok (.iload_n 1, 1) := by decide +kernel
theorem dX6_init_720 : decode cX6_init 720 = .ok (.bipush 38, 2) := by decide +kernel
theorem dX6_init_722 : decode cX6_init 722 = .ok (.if_icmp .ge 12, 3) := by decide +kernel
theorem dX6_init_725 : decode cX6_init 725 = .ok (.aload_n 0, 1) := by decide +kernel
theorem dX6_init_726 : decode cX6_init 726 = .ok (.getfield 57, 3) := by decide +kernel
theorem dX6_init_729 : decode cX6_init 729 = .ok (.iload_n 1, 1) := by decide +kernel
theorem dX6_init_730 : decode cX6_init 730 = .ok (.iaload, 1) := by decide +kernel
theorem dX6_init_731 : decode cX6_init 731 = .ok (.goto 12, 3) := by decide +kernel
theorem dX6_init_734 : decode cX6_init 734 = .ok (.aload_n 0, 1) := by decide +kernel
theorem dX6_init_735 : decode cX6_init 735 = .ok (.getfield 60, 3) := by decide +kernel
theorem dX6_init_738 : decode cX6_init 738 = .ok (.iload_n 1, 1) := by decide +kernel
theorem dX6_init_739 : decode cX6_init 739 = .ok (.bipush 38, 2) := by decide +kernel
theorem dX6_init_741 : decode cX6_init 741 = .ok (.isub, 1) := by decide +kernel
theorem dX6_init_742 : decode cX6_init 742 = .ok (.iaload, 1) := by decide +kernel
theorem dX6_init_743 : decode cX6_init 743 = .ok (.i2l, 1) := by decide +kernel
theorem dX6_init_744 : decode cX6_init 744 = .ok (.ladd, 1) := by decide +kernel
theorem dX6_init_745 : decode cX6_init 745 = .ok (.ldc2_w 71, 3) := by decide +kernel
theorem dX6_init_748 : decode cX6_init 748 = .ok (.lsub, 1) := by decide +kernel
theorem dX6_init_749 : decode cX6_init 749 = .ok (.lastore, 1) := by decide +kernel
theorem dX6_init_750 : decode cX6_init 750 = .ok (.iinc 1 1, 3) := by decide +kernel
theorem dX6_init_753 : decode cX6_init 753 = .ok (.iinc 3 1, 3) := by decide +kernel
theorem dX6_init_756 : decode cX6_init 756 = .ok (.goto (-62), 3) := by decide +kernel
theorem dX6_init_759 : decode cX6_init 759 = .ok (.iinc 2 1, 3) := by decide +kernel
theorem dX6_init_762 : decode cX6_init 762 = .ok (.goto (-76), 3) := by decide +kernel
theorem dX6_init_765 : decode cX6_init 765 = .ok (.return_, 1) := by decide +kernel
theorem dX6_isIn_0 : decode cX6_isIn 0 = .ok (.lload_n 0, 1) := by decide +kernel
theorem dX6_isIn_1 : decode cX6_isIn 1 = .ok (.lload_n 2, 1) := by decide +kernel
theorem dX6_isIn_2 : decode cX6_isIn 2 = .ok (.lcmp, 1) := by decide +kernel
theorem dX6_isIn_3 : decode cX6_isIn 3 = .ok (.ifCond .lt 14, 3) := by decide +kernel
theorem dX6_isIn_6 : decode cX6_isIn 6 = .ok (.lload_n 0, 1) := by decide +kernel
theorem dX6_isIn_7 : decode cX6_isIn 7 = .ok (.lload 4, 2) := by decide +kernel
theorem dX6_isIn_9 : decode cX6_isIn 9 = .ok (.lcmp, 1) := by decide +kernel
theorem dX6_isIn_10 : decode cX6_isIn 10 = .ok (.ifCond .gt 7, 3) := by decide +kernel
theorem dX6_isIn_13 : decode cX6_isIn 13 = .ok (.iconst 1, 1) := by decide +kernel
theorem dX6_isIn_14 : decode cX6_isIn 14 = .ok (.goto 4, 3) := by decide +kernel
theorem dX6_isIn_17 : decode cX6_isIn 17 = .ok (.iconst 0, 1) := by decide +kernel
theorem dX6_isIn_18 : decode cX6_isIn 18 = .ok (.ireturn, 1) := by decide +kernel
theorem dX6_isNumber_0 : decode cX6_isNumber 0 = .ok (.iload_n 0, 1) := by decide +kernel
theorem dX6_isNumber_1 : decode cX6_isNumber 1 = .ok (.tableswitch 84 0 4 #[35, 42, 53, 62, 73], 35) := by decide +kernel
theorem dX6_isNumber_36 : decode cX6_isNumber 36 = .ok (.lload_n 1, 1) := by decide +kernel
theorem dX6_isNumber_37 : decode cX6_isNumber 37 = .ok (.lconst 0, 1) := by decide +kernel
theorem dX6_isNumber_38 : decode cX6_isNumber 38 = .ok (.lconst 1, 1) := by decide +kernel
theorem dX6_isNumber_39 : decode cX6_isNumber 39 = .ok (.invokestatic 73, 3) := by decide +kernel
theorem dX6_isNumber_42 : decode cX6_isNumber 42 = .ok (.ireturn, 1) := by decide +kernel
theorem dX6_isNumber_43 : decode cX6_isNumber 43 = .ok (.lload_n 1, 1) := by decide +kernel
theorem dX6_isNumber_44 : decode cX6_isNumber 44 = .ok (.ldc2_w 77, 3) := by decide +kernel
theorem dX6_isNumber_47 : decode cX6_isNumber 47 = .ok (.ldc2_w 79, 3) := by decide +kernel
theorem dX6_isNumber_50 : decode cX6_isNumber 50 = .ok (.invokestatic 73, 3) := by decide +kernel
theorem dX6_isNumber_53 : decode cX6_isNumber 53 = .ok (.ireturn, 1) := by decide +kernel
theorem dX6_isNumber_54 : decode cX6_isNumber 54 = .ok (.lload_n 1, 1) := by decide +kernel
theorem dX6_isNumber_55 : decode cX6_isNumber 55 = .ok (.lconst 0, 1) := by decide +kernel
theorem dX6_isNumber_56 : decode cX6_isNumber 56 = .ok (.ldc2_w 81, 3) := by decide +kernel
theorem dX6_isNumber_59 : decode cX6_isNumber 59 = .ok (.invokestatic 73, 3) := by decide +kernel
theorem dX6_isNumber_62 : decode cX6_isNumber 62 = .ok (.ireturn, 1) := by decide +kernel
theorem dX6_isNumber_63 : decode cX6_isNumber 63 = .ok (.lload_n 1, 1) := by decide +kernel
theorem dX6_isNumber_64 : decode cX6_isNumber 64 = .ok (.ldc2_w 83, 3) := by decide +kernel
theorem dX6_isNumber_67 : decode cX6_isNumber 67 = .ok (.ldc2_w 85, 3) := by decide +kernel
theorem dX6_isNumber_70 : decode cX6_isNumber 70 = .ok (.invokestatic 73, 3) := by decide +kernel
theorem dX6_isNumber_73 : decode cX6_isNumber 73 = .ok (.ireturn, 1) := by decide +kernel
theorem dX6_isNumber_74 : decode cX6_isNumber 74 = .ok (.lload_n 1, 1) := by decide +kernel
theorem dX6_isNumber_75 : decode cX6_isNumber 75 = .ok (.ldc2_w 87, 3) := by decide +kernel
theorem dX6_isNumber_78 : decode cX6_isNumber 78 = .ok (.ldc2_w 89, 3) := by decide +kernel
theorem dX6_isNumber_81 : decode cX6_isNumber 81 = .ok (.invokestatic 73, 3) := by decide +kernel
theorem dX6_isNumber_84 : decode cX6_isNumber 84 = .ok (.ireturn, 1) := by decide +kernel
theorem dX6_isNumber_85 : decode cX6_isNumber 85 = .ok (.iconst 1, 1) := by decide +kernel
theorem dX6_isNumber_86 : decode cX6_isNumber 86 = .ok (.ireturn, 1) := by decide +kernel
theorem dX6_bitsOf_0 : decode cX6_bitsOf 0 = .ok (.dload_n 0, 1) := by decide +kernel
theorem dX6_bitsOf_1 : decode cX6_bitsOf 1 = .ok (.dconst 0, 1) := by decide +kernel
theorem dX6_bitsOf_2 : decode cX6_bitsOf 2 = .ok (.dcmp .l, 1) := by decide +kernel
theorem dX6_bitsOf_3 : decode cX6_bitsOf 3 = .ok (.ifCond .ne 5, 3) := by decide +kernel
theorem dX6_bitsOf_6 : decode cX6_bitsOf 6 = .ok (.lconst 0, 1) := by decide +kernel
theorem dX6_bitsOf_7 : decode cX6_bitsOf 7 = .ok (.lreturn, 1) := by decide +kernel
theorem dX6_bitsOf_8 : decode cX6_bitsOf 8 = .ok (.dload_n 0, 1) := by decide +kernel
theorem dX6_bitsOf_9 : decode cX6_bitsOf 9 = .ok (.dconst 0, 1) := by decide +kernel
theorem dX6_bitsOf_10 : decode cX6_bitsOf 10 = .ok (.dcmp .g, 1) := by decide +kernel
theorem dX6_bitsOf_11 : decode cX6_bitsOf 11 = .ok (.ifCond .ge 8, 3) := by decide +kernel
theorem dX6_bitsOf_14 : decode cX6_bitsOf 14 = .ok (.dload_n 0, 1) := by decide +kernel
theorem dX6_bitsOf_15 : decode cX6_bitsOf 15 = .ok (.dneg, 1) := by decide +kernel
theorem dX6_bitsOf_16 : decode cX6_bitsOf 16 = .ok (.goto 4, 3) := by decide +kernel
theorem dX6_bitsOf_19 : decode cX6_bitsOf 19 = .ok (.dload_n 0, 1) := by decide +kernel
theorem dX6_bitsOf_20 : decode cX6_bitsOf 20 = .ok (.dstore 4, 2) := by decide +kernel
theorem dX6_bitsOf_22 : decode cX6_bitsOf 22 = .ok (.iconst 0, 1) := by decide +kernel
theorem dX6_bitsOf_23 : decode cX6_bitsOf 23 = .ok (.istore 6, 2) := by decide +kernel
theorem dX6_bitsOf_25 : decode cX6_bitsOf 25 = .ok (.dload 4, 2) := by decide +kernel
theorem dX6_bitsOf_27 : decode cX6_bitsOf 27 = .ok (.ldc2_w 91, 3) := by decide +kernel
theorem dX6_bitsOf_30 : decode cX6_bitsOf 30 = .ok (.dcmp .l, 1) := by decide +kernel
theorem dX6_bitsOf_31 : decode cX6_bitsOf 31 = .ok (.ifCond .lt 17, 3) := by decide +kernel
theorem dX6_bitsOf_34 : decode cX6_bitsOf 34 = .ok (.dload 4, 2) := by decide +kernel
theorem dX6_bitsOf_36 : decode cX6_bitsOf 36 = .ok (.ldc2_w 91, 3) := by decide +kernel
theorem dX6_bitsOf_39 : decode cX6_bitsOf 39 = .ok (.ddiv, 1) := by decide +kernel
theorem dX6_bitsOf_40 : decode cX6_bitsOf 40 = .ok (.dstore 4, 2) := by decide +kernel
theorem dX6_bitsOf_42 : decode cX6_bitsOf 42 = .ok (.iinc 6 1, 3) := by decide +kernel
theorem dX6_bitsOf_45 : decode cX6_bitsOf 45 = .ok (.goto (-20), 3) := by decide +kernel
theorem dX6_bitsOf_48 : decode cX6_bitsOf 48 = .ok (.dload 4, 2) := by decide +kernel
theorem dX6_bitsOf_50 : decode cX6_bitsOf 50 = .ok (.dconst 1, 1) := by decide +kernel
theorem dX6_bitsOf_51 : decode cX6_bitsOf 51 = .ok (.dcmp .g, 1) := by decide +kernel
theorem dX6_bitsOf_52 : decode cX6_bitsOf 52 = .ok (.ifCond .ge 17, 3) := by decide +kernel
theorem dX6_bitsOf_55 : decode cX6_bitsOf 55 = .ok (.dload 4, 2) := by decide +kernel
theorem dX6_bitsOf_57 : decode cX6_bitsOf 57 = .ok (.ldc2_w 91, 3) := by decide +kernel
theorem dX6_bitsOf_60 : decode cX6_bitsOf 60 = .ok (.dmul, 1) := by decide +kernel
theorem dX6_bitsOf_61 : decode cX6_bitsOf 61 = .ok (.dstore 4, 2) := by decide +kernel
theorem dX6_bitsOf_63 : decode cX6_bitsOf 63 = .ok (.iinc 6 (-1), 3) := by decide +kernel
theorem dX6_bitsOf_66 : decode cX6_bitsOf 66 = .ok (.goto (-18), 3) := by decide +kernel
theorem dX6_bitsOf_69 : decode cX6_bitsOf 69 = .ok (.dload 4, 2) := by decide +kernel
theorem dX6_bitsOf_71 : decode cX6_bitsOf 71 = .ok (.dconst 1, 1) := by decide +kernel
theorem dX6_bitsOf_72 : decode cX6_bitsOf 72 = .ok (.dsub, 1) := by decide +kernel
theorem dX6_bitsOf_73 : decode cX6_bitsOf 73 = .ok (.lconst 1, 1) := by decide +kernel
theorem dX6_bitsOf_74 : decode cX6_bitsOf 74 = .ok (.iload_n 2, 1) := by decide +kernel
theorem dX6_bitsOf_75 : decode cX6_bitsOf 75 = .ok (.lshl, 1) := by decide +kernel
theorem dX6_bitsOf_76 : decode cX6_bitsOf 76 = .ok (.l2d, 1) := by decide +kernel
theorem dX6_bitsOf_77 : decode cX6_bitsOf 77 = .ok (.dmul, 1) := by decide +kernel
theorem dX6_bitsOf_78 : decode cX6_bitsOf 78 = .ok (.d2l, 1) := by decide +kernel
theorem dX6_bitsOf_79 : decode cX6_bitsOf 79 = .ok (.lstore 7, 2) := by decide +kernel
theorem dX6_bitsOf_81 : decode cX6_bitsOf 81 = .ok (.iload 6, 2) := by decide +kernel
theorem dX6_bitsOf_83 : decode cX6_bitsOf 83 = .ok (.iload_n 3, 1) := by decide +kernel
theorem dX6_bitsOf_84 : decode cX6_bitsOf 84 = .ok (.iadd, 1) := by decide +kernel
theorem dX6_bitsOf_85 : decode cX6_bitsOf 85 = .ok (.i2l, 1) := by decide +kernel
theorem dX6_bitsOf_86 : decode cX6_bitsOf 86 = .ok (.iload_n 2, 1) := by decide +kernel
theorem dX6_bitsOf_87 : decode cX6_bitsOf 87 = .ok (.lshl, 1) := by decide +kernel
theorem dX6_bitsOf_88 : decode cX6_bitsOf 88 = .ok (.lload 7, 2) := by decide +kernel
theorem dX6_bitsOf_90 : decode cX6_bitsOf 90 = .ok (.ladd, 1) := by decide +kernel
theorem dX6_bitsOf_91 : decode cX6_bitsOf 91 = .ok (.lreturn, 1) := by decide +kernel
theorem dX6_floatBits_0 : decode cX6_floatBits 0 = .ok (.dload_n 0, 1) := by decide +kernel
theorem dX6_floatBits_1 : decode cX6_floatBits 1 = .ok (.bipush 23, 2) := by decide +kernel
theorem dX6_floatBits_3 : decode cX6_floatBits 3 = .ok (.bipush 127, 2) := by decide +kernel
theorem dX6_floatBits_5 : decode cX6_floatBits 5 = .ok (.invokestatic 93, 3) := by decide +kernel
theorem dX6_floatBits_8 : decode cX6_floatBits 8 = .ok (.lstore_n 2, 1) := by decide +kernel
theorem dX6_floatBits_9 : decode cX6_floatBits 9 = .ok (.dload_n 0, 1) := by decide +kernel
theorem dX6_floatBits_10 : decode cX6_floatBits 10 = .ok (.dconst 0, 1) := by decide +kernel
theorem dX6_floatBits_11 : decode cX6_floatBits 11 = .ok (.dcmp .g, 1) := by decide +kernel
theorem dX6_floatBits_12 : decode cX6_floatBits 12 = .ok (.ifCond .ge 11, 3) := by decide +kernel
theorem dX6_floatBits_15 : decode cX6_floatBits 15 = .ok (.lload_n 2, 1) := by decide +kernel
theorem dX6_floatBits_16 : decode cX6_floatBits 16 = .ok (.ldc2_w 97, 3) := by decide +kernel
theorem dX6_floatBits_19 : decode cX6_floatBits 19 = .ok (.lsub, 1) := by decide +kernel
theorem dX6_floatBits_20 : decode cX6_floatBits 20 = .ok (.goto 4, 3) := by decide +kernel
theorem dX6_floatBits_23 : decode cX6_floatBits 23 = .ok (.lload_n 2, 1) := by decide +kernel
theorem dX6_floatBits_24 : decode cX6_floatBits 24 = .ok (.lreturn, 1) := by decide +kernel
theorem dX6_doubleBits_0 : decode cX6_doubleBits 0 = .ok (.dload_n 0, 1) := by decide +kernel
theorem dX6_doubleBits_1 : decode cX6_doubleBits 1 = .ok (.bipush 52, 2) := by decide +kernel
theorem dX6_doubleBits_3 : decode cX6_doubleBits 3 = .ok (.sipush 1023, 3) := by decide +kernel
theorem dX6_doubleBits_6 : decode cX6_doubleBits 6 = .ok (.invokestatic 93, 3) := by decide +kernel
theorem dX6_doubleBits_9 : decode cX6_doubleBits 9 = .ok (.lstore_n 2, 1) := by decide +kernel
theorem dX6_doubleBits_10 : decode cX6_doubleBits 10 = .ok (.dload_n 0, 1) := by decide +kernel
theorem dX6_doubleBits_11 : decode cX6_doubleBits 11 = .ok (.dconst 0, 1) := by decide +kernel
theorem dX6_doubleBits_12 : decode cX6_doubleBits 12 = .ok (.dcmp .g, 1) := by decide +kernel
theorem dX6_doubleBits_13 : decode cX6_doubleBits 13 = .ok (.ifCond .ge 11, 3) := by decide +kernel
theorem dX6_doubleBits_16 : decode cX6_doubleBits 16 = .ok (.lload_n 2, 1) := by decide +kernel
theorem dX6_doubleBits_17 : decode cX6_doubleBits 17 = .ok (.ldc2_w 99, 3) := by decide +kernel
theorem dX6_doubleBits_20 : decode cX6_doubleBits 20 = .ok (.lor, 1) := by decide +kernel
theorem dX6_doubleBits_21 : decode cX6_doubleBits 21 = .ok (.goto 4, 3) := by decide +kernel
theorem dX6_doubleBits_24 : decode cX6_doubleBits 24 = .ok (.lload_n 2, 1) := by decide +kernel
theorem dX6_doubleBits_25 : decode cX6_doubleBits 25 = .ok (.lreturn, 1) := by decide +kernel
theorem dX6_valueOf_0 : decode cX6_valueOf 0 = .ok (.lload_n 0, 1) := by decide +kernel
theorem dX6_valueOf_1 : decode cX6_valueOf 1 = .ok (.lconst 1, 1) := by decide +kernel
theorem dX6_valueOf_2 : decode cX6_valueOf 2 = .ok (.iload_n 2, 1) := by decide +kernel
theorem dX6_valueOf_3 : decode cX6_valueOf 3 = .ok (.lshl, 1) := by decide +kernel
theorem dX6_valueOf_4 : decode cX6_valueOf 4 = .ok (.lconst 1, 1) := by decide +kernel
theorem dX6_valueOf_5 : decode cX6_valueOf 5 = .ok (.lsub, 1) := by decide +kernel
theorem dX6_valueOf_6 : decode cX6_valueOf 6 = .ok (.land, 1) := by decide +kernel
theorem dX6_valueOf_7 : decode cX6_valueOf 7 = .ok (.lstore 5, 2) := by decide +kernel
theorem dX6_valueOf_9 : decode cX6_valueOf 9 = .ok (.lload_n 0, 1) := by decide +kernel
theorem dX6_valueOf_10 : decode cX6_valueOf 10 = .ok (.iload_n 2, 1) := by decide +kernel
theorem dX6_valueOf_11 : decode cX6_valueOf 11 = .ok (.lshr, 1) := by decide +kernel
theorem dX6_valueOf_12 : decode cX6_valueOf 12 = .ok (.iload_n 3, 1) := by decide +kernel
theorem dX6_valueOf_13 : decode cX6_valueOf 13 = .ok (.i2l, 1) := by decide +kernel
theorem dX6_valueOf_14 : decode cX6_valueOf 14 = .ok (.land, 1) := by decide +kernel
theorem dX6_valueOf_15 : decode cX6_valueOf 15 = .ok (.l2i, 1) := by decide +kernel
theorem dX6_valueOf_16 : decode cX6_valueOf 16 = .ok (.iload 4, 2) := by decide +kernel
theorem dX6_valueOf_18 : decode cX6_valueOf 18 = .ok (.isub, 1) := by decide +kernel
theorem dX6_valueOf_19 : decode cX6_valueOf 19 = .ok (.istore 7, 2) := by decide +kernel
theorem dX6_valueOf_21 : decode cX6_valueOf 21 = .ok (.dconst 1, 1) := by decide +kernel
theorem dX6_valueOf_22 : decode cX6_valueOf 22 = .ok (.lload 5, 2) := by decide +kernel
theorem dX6_valueOf_24 : decode cX6_valueOf 24 = .ok (.l2d, 1) := by decide +kernel
theorem dX6_valueOf_25 : decode cX6_valueOf 25 = .ok (.lconst 1, 1) := by decide +kernel
theorem dX6_valueOf_26 : decode cX6_valueOf 26 = .ok (.iload_n 2, 1) := by decide +kernel
theorem dX6_valueOf_27 : decode cX6_valueOf 27 = .ok (.lshl, 1) := by decide +kernel
theorem dX6_valueOf_28 : decode cX6_valueOf 28 = .ok (.l2d, 1) := by decide +kernel
theorem dX6_valueOf_29 : decode cX6_valueOf 29 = .ok (.ddiv, 1) := by decide +kernel
theorem dX6_valueOf_30 : decode cX6_valueOf 30 = .ok (.dadd, 1) := by decide +kernel
theorem dX6_valueOf_31 : decode cX6_valueOf 31 = .ok (.dstore 8, 2) := by decide +kernel
theorem dX6_valueOf_33 : decode cX6_valueOf 33 = .ok (.iload 7, 2) := by decide +kernel
theorem dX6_valueOf_35 : decode cX6_valueOf 35 = .ok (.ifCond .le 17, 3) := by decide +kernel
theorem dX6_valueOf_38 : decode cX6_valueOf 38 = .ok (.dload 8, 2) := by decide +kernel
theorem dX6_valueOf_40 : decode cX6_valueOf 40 = .ok (.ldc2_w 91, 3) := by decide +kernel
theorem dX6_valueOf_43 : decode cX6_valueOf 43 = .ok (.dmul, 1) := by decide +kernel
theorem dX6_valueOf_44 : decode cX6_valueOf 44 = .ok (.dstore 8, 2) := by decide +kernel
theorem dX6_valueOf_46 : decode cX6_valueOf 46 = .ok (.iinc 7 (-1), 3) := by decide +kernel
theorem dX6_valueOf_49 : decode cX6_valueOf 49 = .ok (.goto (-16), 3) := by decide +kernel
theorem dX6_valueOf_52 : decode cX6_valueOf 52 = .ok (.iload 7, 2) := by decide +kernel
theorem dX6_valueOf_54 : decode cX6_valueOf 54 = .ok (.ifCond .ge 17, 3) := by decide +kernel
theorem dX6_valueOf_57 : decode cX6_valueOf 57 = .ok (.dload 8, 2) := by decide +kernel
theorem dX6_valueOf_59 : decode cX6_valueOf 59 = .ok (.ldc2_w 91, 3) := by decide +kernel
theorem dX6_valueOf_62 : decode cX6_valueOf 62 = .ok (.ddiv, 1) := by decide +kernel
theorem dX6_valueOf_63 : decode cX6_valueOf 63 = .ok (.dstore 8, 2) := by decide +kernel
theorem dX6_valueOf_65 : decode cX6_valueOf 65 = .ok (.iinc 7 1, 3) := by decide +kernel
theorem dX6_valueOf_68 : decode cX6_valueOf 68 = .ok (.goto (-16), 3) := by decide +kernel
theorem dX6_valueOf_71 : decode cX6_valueOf 71 = .ok (.lload_n 0, 1) := by decide +kernel
theorem dX6_valueOf_72 : decode cX6_valueOf 72 = .ok (.lconst 0, 1) := by decide +kernel
theorem dX6_valueOf_73 : decode cX6_valueOf 73 = .ok (.lcmp, 1) := by decide +kernel
theorem dX6_valueOf_74 : decode cX6_valueOf 74 = .ok (.ifCond .ge 9, 3) := by decide +kernel
theorem dX6_valueOf_77 : decode cX6_valueOf 77 = .ok (.dload 8, 2) := by decide +kernel
theorem dX6_valueOf_79 : decode cX6_valueOf 79 = .ok (.dneg, 1) := by decide +kernel
theorem dX6_valueOf_80 : decode cX6_valueOf 80 = .ok (.goto 5, 3) := by decide +kernel
theorem dX6_valueOf_83 : decode cX6_valueOf 83 = .ok (.dload 8, 2) := by decide +kernel
theorem dX6_valueOf_85 : decode cX6_valueOf 85 = .ok (.dreturn, 1) := by decide +kernel
theorem dX6_value_0 : decode cX6_value 0 = .ok (.lload_n 1, 1) := by decide +kernel
theorem dX6_value_1 : decode cX6_value 1 = .ok (.lconst 0, 1) := by decide +kernel
theorem dX6_value_2 : decode cX6_value 2 = .ok (.lcmp, 1) := by decide +kernel
theorem dX6_value_3 : decode cX6_value 3 = .ok (.ifCond .ne 5, 3) := by decide +kernel
theorem dX6_value_6 : decode cX6_value 6 = .ok (.dconst 0, 1) := by decide +kernel
theorem dX6_value_7 : decode cX6_value 7 = .ok (.dreturn, 1) := by decide +kernel
theorem dX6_value_8 : decode cX6_value 8 = .ok (.iload_n 0, 1) := by decide +kernel
theorem dX6_value_9 : decode cX6_value 9 = .ok (.bipush 6, 2) := by decide +kernel
theorem dX6_value_11 : decode cX6_value 11 = .ok (.if_icmp .ne 17, 3) := by decide +kernel
theorem dX6_value_14 : decode cX6_value 14 = .ok (.lload_n 1, 1) := by decide +kernel
theorem dX6_value_15 : decode cX6_value 15 = .ok (.bipush 23, 2) := by decide +kernel
theorem dX6_value_17 : decode cX6_value 17 = .ok (.sipush 255, 3) := by decide +kernel
theorem dX6_value_20 : decode cX6_value 20 = .ok (.bipush 127, 2) := by decide +kernel
theorem dX6_value_22 : decode cX6_value 22 = .ok (.invokestatic 101, 3) := by decide +kernel
theorem dX6_value_25 : decode cX6_value 25 = .ok (.goto 15, 3) := by decide +kernel
theorem dX6_value_28 : decode cX6_value 28 = .ok (.lload_n 1, 1) := by decide +kernel
theorem dX6_value_29 : decode cX6_value 29 = .ok (.bipush 52, 2) := by decide +kernel
theorem dX6_value_31 : decode cX6_value 31 = .ok (.sipush 2047, 3) := by decide +kernel
theorem dX6_value_34 : decode cX6_value 34 = .ok (.sipush 1023, 3) := by decide +kernel
theorem dX6_value_37 : decode cX6_value 37 = .ok (.invokestatic 101, 3) := by decide +kernel
theorem dX6_value_40 : decode cX6_value 40 = .ok (.dreturn, 1) := by decide +kernel
theorem dX6_given_0 : decode cX6_given 0 = .ok (.iload_n 0, 1) := by decide +kernel
theorem dX6_given_1 : decode cX6_given 1 = .ok (.bipush 6, 2) := by decide +kernel
theorem dX6_given_3 : decode cX6_given 3 = .ok (.if_icmp .ne 13, 3) := by decide +kernel
theorem dX6_given_6 : decode cX6_given 6 = .ok (.lload_n 1, 1) := by decide +kernel
theorem dX6_given_7 : decode cX6_given 7 = .ok (.l2f, 1) := by decide +kernel
theorem dX6_given_8 : decode cX6_given 8 = .ok (.ldc 105, 2) := by decide +kernel
theorem dX6_given_10 : decode cX6_given 10 = .ok (.fmul, 1) := by decide +kernel
theorem dX6_given_11 : decode cX6_given 11 = .ok (.f2d, 1) := by decide +kernel
theorem dX6_given_12 : decode cX6_given 12 = .ok (.invokestatic 106, 3) := by decide +kernel
theorem dX6_given_15 : decode cX6_given 15 = .ok (.lreturn, 1) := by decide +kernel
theorem dX6_given_16 : decode cX6_given 16 = .ok (.iload_n 0, 1) := by decide +kernel
theorem dX6_given_17 : decode cX6_given 17 = .ok (.bipush 7, 2) := by decide +kernel
theorem dX6_given_19 : decode cX6_given 19 = .ok (.if_icmp .ne 15, 3) := by decide +kernel
theorem dX6_given_22 : decode cX6_given 22 = .ok (.lload_n 1, 1) := by decide +kernel
theorem dX6_given_23 : decode cX6_given 23 = .ok (.l2d, 1) := by decide +kernel
theorem dX6_given_24 : decode cX6_given 24 = .ok (.ldc2_w 110, 3) := by decide +kernel
theorem dX6_given_27 : decode cX6_given 27 = .ok (.dmul, 1) := by decide +kernel
theorem dX6_given_28 : decode cX6_given 28 = .ok (.invokestatic 112, 3) := by decide +kernel
theorem dX6_given_31 : decode cX6_given 31 = .ok (.goto 4, 3) := by decide +kernel
theorem dX6_given_34 : decode cX6_given 34 = .ok (.lload_n 1, 1) := by decide +kernel
theorem dX6_given_35 : decode cX6_given 35 = .ok (.lreturn, 1) := by decide +kernel
theorem dX6_turns_0 : decode cX6_turns 0 = .ok (.iload_n 0, 1) := by decide +kernel
theorem dX6_turns_1 : decode cX6_turns 1 = .ok (.iload_n 1, 1) := by decide +kernel
theorem dX6_turns_2 : decode cX6_turns 2 = .ok (.if_icmp .ne 5, 3) := by decide +kernel
theorem dX6_turns_5 : decode cX6_turns 5 = .ok (.iconst 1, 1) := by decide +kernel
theorem dX6_turns_6 : decode cX6_turns 6 = .ok (.ireturn, 1) := by decide +kernel
theorem dX6_turns_7 : decode cX6_turns 7 = .ok (.iload_n 0, 1) := by decide +kernel
theorem dX6_turns_8 : decode cX6_turns 8 = .ok (.ifCond .eq 8, 3) := by decide +kernel
theorem dX6_turns_11 : decode cX6_turns 11 = .ok (.iload_n 1, 1) := by decide +kernel
theorem dX6_turns_12 : decode cX6_turns 12 = .ok (.iconst 3, 1) := by decide +kernel
theorem dX6_turns_13 : decode cX6_turns 13 = .ok (.if_icmp .ge 5, 3) := by decide +kernel
theorem dX6_turns_16 : decode cX6_turns 16 = .ok (.iconst 0, 1) := by decide +kernel
theorem dX6_turns_17 : decode cX6_turns 17 = .ok (.ireturn, 1) := by decide +kernel
theorem dX6_turns_18 : decode cX6_turns 18 = .ok (.iload_n 0, 1) := by decide +kernel
theorem dX6_turns_19 : decode cX6_turns 19 = .ok (.iconst 1, 1) := by decide +kernel
theorem dX6_turns_20 : decode cX6_turns 20 = .ok (.if_icmp .ne 16, 3) := by decide +kernel
theorem dX6_turns_23 : decode cX6_turns 23 = .ok (.iload_n 1, 1) := by decide +kernel
theorem dX6_turns_24 : decode cX6_turns 24 = .ok (.iconst 3, 1) := by decide +kernel
theorem dX6_turns_25 : decode cX6_turns 25 = .ok (.if_icmp .lt 7, 3) := by decide +kernel
theorem dX6_turns_28 : decode cX6_turns 28 = .ok (.iconst 1, 1) := by decide +kernel
theorem dX6_turns_29 : decode cX6_turns 29 = .ok (.goto 35, 3) := by decide +kernel
theorem dX6_turns_32 : decode cX6_turns 32 = .ok (.iconst 0, 1) := by decide +kernel
theorem dX6_turns_33 : decode cX6_turns 33 = .ok (.goto 31, 3) := by decide +kernel
theorem dX6_turns_36 : decode cX6_turns 36 = .ok (.iload_n 0, 1) := by decide +kernel
theorem dX6_turns_37 : decode cX6_turns 37 = .ok (.iconst 3, 1) := by decide +kernel
theorem dX6_turns_38 : decode cX6_turns 38 = .ok (.if_icmp .gt 16, 3) := by decide +kernel
theorem dX6_turns_41 : decode cX6_turns 41 = .ok (.iload_n 1, 1) := by decide +kernel
theorem dX6_turns_42 : decode cX6_turns 42 = .ok (.iconst 4, 1) := by decide +kernel
theorem dX6_turns_43 : decode cX6_turns 43 = .ok (.if_icmp .lt 7, 3) := by decide +kernel
theorem dX6_turns_46 : decode cX6_turns 46 = .ok (.iconst 1, 1) := by decide +kernel
theorem dX6_turns_47 : decode cX6_turns 47 = .ok (.goto 17, 3) := by decide +kernel
theorem dX6_turns_50 : decode cX6_turns 50 = .ok (.iconst 0, 1) := by decide +kernel
theorem dX6_turns_51 : decode cX6_turns 51 = .ok (.goto 13, 3) := by decide +kernel
theorem dX6_turns_54 : decode cX6_turns 54 = .ok (.iload_n 1, 1) := by decide +kernel
theorem dX6_turns_55 : decode cX6_turns 55 = .ok (.iload_n 0, 1) := by decide +kernel
theorem dX6_turns_56 : decode cX6_turns 56 = .ok (.if_icmp .le 7, 3) := by decide +kernel
theorem dX6_turns_59 : decode cX6_turns 59 = .ok (.iconst 1, 1) := by decide +kernel
theorem dX6_turns_60 : decode cX6_turns 60 = .ok (.goto 4, 3) := by decide +kernel
theorem dX6_turns_63 : decode cX6_turns 63 = .ok (.iconst 0, 1) := by decide +kernel
theorem dX6_turns_64 : decode cX6_turns 64 = .ok (.ireturn, 1) := by decide +kernel
theorem dX6_turned_0 : decode cX6_turned 0 = .ok (.iload_n 0, 1) := by decide +kernel
theorem dX6_turned_1 : decode cX6_turned 1 = .ok (.iload_n 3, 1) := by decide +kernel
theorem dX6_turned_2 : decode cX6_turned 2 = .ok (.if_icmp .eq 9, 3) := by decide +kernel
theorem dX6_turned_5 : decode cX6_turned 5 = .ok (.iload_n 3, 1) := by decide +kernel
theorem dX6_turned_6 : decode cX6_turned 6 = .ok (.bipush 6, 2) := by decide +kernel
theorem dX6_turned_8 : decode cX6_turned 8 = .ok (.if_icmp .ge 5, 3) := by decide +kernel
theorem dX6_turned_11 : decode cX6_turned 11 = .ok (.lload_n 1, 1) := by decide +kernel
theorem dX6_turned_12 : decode cX6_turned 12 = .ok (.lreturn, 1) := by decide +kernel
theorem dX6_turned_13 : decode cX6_turned 13 = .ok (.iload_n 0, 1) := by decide +kernel
theorem dX6_turned_14 : decode cX6_turned 14 = .ok (.bipush 6, 2) := by decide +kernel
theorem dX6_turned_16 : decode cX6_turned 16 = .ok (.if_icmp .ne 13, 3) := by decide +kernel
theorem dX6_turned_19 : decode cX6_turned 19 = .ok (.bipush 6, 2) := by decide +kernel
theorem dX6_turned_21 : decode cX6_turned 21 = .ok (.lload_n 1, 1) := by decide +kernel
theorem dX6_turned_22 : decode cX6_turned 22 = .ok (.invokestatic 115, 3) := by decide +kernel
theorem dX6_turned_25 : decode cX6_turned 25 = .ok (.invokestatic 112, 3) := by decide +kernel
theorem dX6_turned_28 : decode cX6_turned 28 = .ok (.lreturn, 1) := by decide +kernel
theorem dX6_turned_29 : decode cX6_turned 29 = .ok (.iload_n 3, 1) := by decide +kernel
theorem dX6_turned_30 : decode cX6_turned 30 = .ok (.bipush 6, 2) := by decide +kernel
theorem dX6_turned_32 : decode cX6_turned 32 = .ok (.if_icmp .ne 12, 3) := by decide +kernel
theorem dX6_turned_35 : decode cX6_turned 35 = .ok (.lload_n 1, 1) := by decide +kernel
theorem dX6_turned_36 : decode cX6_turned 36 = .ok (.l2f, 1) := by decide +kernel
theorem dX6_turned_37 : decode cX6_turned 37 = .ok (.f2d, 1) := by decide +kernel
theorem dX6_turned_38 : decode cX6_turned 38 = .ok (.invokestatic 106, 3) := by decide +kernel
theorem dX6_turned_41 : decode cX6_turned 41 = .ok (.goto 8, 3) := by decide +kernel
theorem dX6_turned_44 : decode cX6_turned 44 = .ok (.lload_n 1, 1) := by decide +kernel
theorem dX6_turned_45 : decode cX6_turned 45 = .ok (.l2d, 1) := by decide +kernel
theorem dX6_turned_46 : decode cX6_turned 46 = .ok (.invokestatic 112, 3) := by decide +kernel
theorem dX6_turned_49 : decode cX6_turned 49 = .ok (.lreturn, 1) := by decide +kernel
theorem dX6_isWord_0 : decode cX6_isWord 0 = .ok (.lload_n 0, 1) := by decide +kernel
theorem dX6_isWord_1 : decode cX6_isWord 1 = .ok (.lstore_n 2, 1) := by decide +kernel
theorem dX6_isWord_2 : decode cX6_isWord 2 = .ok (.iconst 0, 1) := by decide +kernel
theorem dX6_isWord_3 : decode cX6_isWord 3 = .ok (.istore 4, 2) := by decide +kernel
theorem dX6_isWord_5 : decode cX6_isWord 5 = .ok (.lload_n 2, 1) := by decide +kernel
theorem dX6_isWord_6 : decode cX6_isWord 6 = .ok (.lconst 0, 1) := by decide +kernel
theorem dX6_isWord_7 : decode cX6_isWord 7 = .ok (.lcmp, 1) := by decide +kernel
theorem dX6_isWord_8 : decode cX6_isWord 8 = .ok (.ifCond .le 34, 3) := by decide +kernel
theorem dX6_isWord_11 : decode cX6_isWord 11 = .ok (.iload 4, 2) := by decide +kernel
theorem dX6_isWord_13 : decode cX6_isWord 13 = .ok (.bipush 8, 2) := by decide +kernel
theorem dX6_isWord_15 : decode cX6_isWord 15 = .ok (.if_icmp .ge 27, 3) := by decide +kernel
theorem dX6_isWord_18 : decode cX6_isWord 18 = .ok (.lload_n 2, 1) := by decide +kernel
theorem dX6_isWord_19 : decode cX6_isWord 19 = .ok (.ldc2_w 69, 3) := by decide +kernel
theorem dX6_isWord_22 : decode cX6_isWord 22 = .ok (.lrem, 1) := by decide +kernel
theorem dX6_isWord_23 : decode cX6_isWord 23 = .ok (.lconst 0, 1) := by decide +kernel
theorem dX6_isWord_24 : decode cX6_isWord 24 = .ok (.lcmp, 1) := by decide +kernel
theorem dX6_isWord_25 : decode cX6_isWord 25 = .ok (.ifCond .ne 5, 3) := by decide +kernel
theorem dX6_isWord_28 : decode cX6_isWord 28 = .ok (.iconst 0, 1) := by decide +kernel
theorem dX6_isWord_29 : decode cX6_isWord 29 = .ok (.ireturn, 1) := by decide +kernel
theorem dX6_isWord_30 : decode cX6_isWord 30 = .ok (.lload_n 2, 1) := by decide +kernel
theorem dX6_isWord_31 : decode cX6_isWord 31 = .ok (.ldc2_w 69, 3) := by decide +kernel
theorem dX6_isWord_34 : decode cX6_isWord 34 = .ok (.ldiv, 1) := by decide +kernel
theorem dX6_isWord_35 : decode cX6_isWord 35 = .ok (.lstore_n 2, 1) := by decide +kernel
theorem dX6_isWord_36 : decode cX6_isWord 36 = .ok (.iinc 4 1, 3) := by decide +kernel
theorem dX6_isWord_39 : decode cX6_isWord 39 = .ok (.goto (-34), 3) := by decide +kernel
theorem dX6_isWord_42 : decode cX6_isWord 42 = .ok (.lload_n 0, 1) := by decide +kernel
theorem dX6_isWord_43 : decode cX6_isWord 43 = .ok (.lconst 0, 1) := by decide +kernel
theorem dX6_isWord_44 : decode cX6_isWord 44 = .ok (.lcmp, 1) := by decide +kernel
theorem dX6_isWord_45 : decode cX6_isWord 45 = .ok (.ifCond .le 14, 3) := by decide +kernel
theorem dX6_isWord_48 : decode cX6_isWord 48 = .ok (.iload 4, 2) := by decide +kernel
theorem dX6_isWord_50 : decode cX6_isWord 50 = .ok (.bipush 7, 2) := by decide +kernel
theorem dX6_isWord_52 : decode cX6_isWord 52 = .ok (.if_icmp .gt 7, 3) := by decide +kernel
theorem dX6_isWord_55 : decode cX6_isWord 55 = .ok (.iconst 1, 1) := by decide +kernel
theorem dX6_isWord_56 : decode cX6_isWord 56 = .ok (.goto 4, 3) := by decide +kernel
theorem dX6_isWord_59 : decode cX6_isWord 59 = .ok (.iconst 0, 1) := by decide +kernel
theorem dX6_isWord_60 : decode cX6_isWord 60 = .ok (.ireturn, 1) := by decide +kernel
theorem dX6_isThing_0 : decode cX6_isThing 0 = .ok (.lload_n 0, 1) := by decide +kernel
theorem dX6_isThing_1 : decode cX6_isThing 1 = .ok (.lconst 0, 1) := by decide +kernel
theorem dX6_isThing_2 : decode cX6_isThing 2 = .ok (.ldc2_w 119, 3) := by decide +kernel
theorem dX6_isThing_5 : decode cX6_isThing 5 = .ok (.invokestatic 73, 3) := by decide +kernel
theorem dX6_isThing_8 : decode cX6_isThing 8 = .ok (.ireturn, 1) := by decide +kernel
theorem dX6_refusal_0 : decode cX6_refusal 0 = .ok (.aload_n 0, 1) := by decide +kernel
theorem dX6_refusal_1 : decode cX6_refusal 1 = .ok (.getfield 7, 3) := by decide +kernel
theorem dX6_refusal_4 : decode cX6_refusal 4 = .ok (.iload_n 1, 1) := by decide +kernel
theorem dX6_refusal_5 : decode cX6_refusal 5 = .ok (.iaload, 1) := by decide +kernel
theorem dX6_refusal_6 : decode cX6_refusal 6 = .ok (.ifCond .ge 8, 3) := by decide +kernel
theorem dX6_refusal_9 : decode cX6_refusal 9 = .ok (.bipush (-5), 2) := by decide +kernel
theorem dX6_refusal_11 : decode cX6_refusal 11 = .ok (.goto 20, 3) := by decide +kernel
theorem dX6_refusal_14 : decode cX6_refusal 14 = .ok (.aload_n 0, 1) := by decide +kernel
theorem dX6_refusal_15 : decode cX6_refusal 15 = .ok (.getfield 7, 3) := by decide +kernel
theorem dX6_refusal_18 : decode cX6_refusal 18 = .ok (.iload_n 1, 1) := by decide +kernel
theorem dX6_refusal_19 : decode cX6_refusal 19 = .ok (.iaload, 1) := by decide +kernel
theorem dX6_refusal_20 : decode cX6_refusal 20 = .ok (.bipush 13, 2) := by decide +kernel
theorem dX6_refusal_22 : decode cX6_refusal 22 = .ok (.if_icmp .le 8, 3) := by decide +kernel
theorem dX6_refusal_25 : decode cX6_refusal 25 = .ok (.bipush (-6), 2) := by decide +kernel
theorem dX6_refusal_27 : decode cX6_refusal 27 = .ok (.goto 4, 3) := by decide +kernel
theorem dX6_refusal_30 : decode cX6_refusal 30 = .ok (.iconst 0, 1) := by decide +kernel
theorem dX6_refusal_31 : decode cX6_refusal 31 = .ok (.ireturn, 1) := by decide +kernel
theorem dX6_refusalOfTwo_0 : decode cX6_refusalOfTwo 0 = .ok (.aload_n 0, 1) := by decide +kernel
theorem dX6_refusalOfTwo_1 : decode cX6_refusalOfTwo 1 = .ok (.getfield 7, 3) := by decide +kernel
theorem dX6_refusalOfTwo_4 : decode cX6_refusalOfTwo 4 = .ok (.iload_n 1, 1) := by decide +kernel
theorem dX6_refusalOfTwo_5 : decode cX6_refusalOfTwo 5 = .ok (.iaload, 1) := by decide +kernel
theorem dX6_refusalOfTwo_6 : decode cX6_refusalOfTwo 6 = .ok (.ifCond .lt 12, 3) := by decide +kernel
theorem dX6_refusalOfTwo_9 : decode cX6_refusalOfTwo 9 = .ok (.aload_n 0, 1) := by decide +kernel
theorem dX6_refusalOfTwo_10 : decode cX6_refusalOfTwo 10 = .ok (.getfield 7, 3) := by decide +kernel
theorem dX6_refusalOfTwo_13 : decode cX6_refusalOfTwo 13 = .ok (.iload_n 2, 1) := by decide +kernel
theorem dX6_refusalOfTwo_14 : decode cX6_refusalOfTwo 14 = .ok (.iaload, 1) := by decide +kernel
theorem dX6_refusalOfTwo_15 : decode cX6_refusalOfTwo 15 = .ok (.ifCond .ge 6, 3) := by decide +kernel
theorem dX6_refusalOfTwo_18 : decode cX6_refusalOfTwo 18 = .ok (.bipush (-5), 2) := by decide +kernel
theorem dX6_refusalOfTwo_20 : decode cX6_refusalOfTwo 20 = .ok (.ireturn, 1) := by decide +kernel
theorem dX6_refusalOfTwo_21 : decode cX6_refusalOfTwo 21 = .ok (.aload_n 0, 1) := by decide +kernel
theorem dX6_refusalOfTwo_22 : decode cX6_refusalOfTwo 22 = .ok (.getfield 7, 3) := by decide +kernel
theorem dX6_refusalOfTwo_25 : decode cX6_refusalOfTwo 25 = .ok (.iload_n 1, 1) := by decide +kernel
theorem dX6_refusalOfTwo_26 : decode cX6_refusalOfTwo 26 = .ok (.iaload, 1) := by decide +kernel
theorem dX6_refusalOfTwo_27 : decode cX6_refusalOfTwo 27 = .ok (.bipush 13, 2) := by decide +kernel
theorem dX6_refusalOfTwo_29 : decode cX6_refusalOfTwo 29 = .ok (.if_icmp .gt 14, 3) := by decide +kernel
theorem dX6_refusalOfTwo_32 : decode cX6_refusalOfTwo 32 = .ok (.aload_n 0, 1) := by decide +kernel
theorem dX6_refusalOfTwo_33 : decode cX6_refusalOfTwo 33 = .ok (.getfield 7, 3) := by decide +kernel
theorem dX6_refusalOfTwo_36 : decode cX6_refusalOfTwo 36 = .ok (.iload_n 2, 1) := by decide +kernel
theorem dX6_refusalOfTwo_37 : decode cX6_refusalOfTwo 37 = .ok (.iaload, 1) := by decide +kernel
theorem dX6_refusalOfTwo_38 : decode cX6_refusalOfTwo 38 = .ok (.bipush 13, 2) := by decide +kernel
theorem dX6_refusalOfTwo_40 : decode cX6_refusalOfTwo 40 = .ok (.if_icmp .le 8, 3) := by decide +kernel
theorem dX6_refusalOfTwo_43 : decode cX6_refusalOfTwo 43 = .ok (.bipush (-6), 2) := by decide +kernel
theorem dX6_refusalOfTwo_45 : decode cX6_refusalOfTwo 45 = .ok (.goto 4, 3) := by decide +kernel
theorem dX6_refusalOfTwo_48 : decode cX6_refusalOfTwo 48 = .ok (.iconst 0, 1) := by decide +kernel
theorem dX6_refusalOfTwo_49 : decode cX6_refusalOfTwo 49 = .ok (.ireturn, 1) := by decide +kernel
theorem dX6_isPlain_0 : decode cX6_isPlain 0 = .ok (.aload_n 0, 1) := by decide +kernel
theorem dX6_isPlain_1 : decode cX6_isPlain 1 = .ok (.getfield 7, 3) := by decide +kernel
theorem dX6_isPlain_4 : decode cX6_isPlain 4 = .ok (.iload_n 1, 1) := by decide +kernel
theorem dX6_isPlain_5 : decode cX6_isPlain 5 = .ok (.iaload, 1) := by decide +kernel
theorem dX6_isPlain_6 : decode cX6_isPlain 6 = .ok (.bipush 8, 2) := by decide +kernel
theorem dX6_isPlain_8 : decode cX6_isPlain 8 = .ok (.if_icmp .ge 7, 3) := by decide +kernel
theorem dX6_isPlain_11 : decode cX6_isPlain 11 = .ok (.iconst 1, 1) := by decide +kernel
theorem dX6_isPlain_12 : decode cX6_isPlain 12 = .ok (.goto 4, 3) := by decide +kernel
theorem dX6_isPlain_15 : decode cX6_isPlain 15 = .ok (.iconst 0, 1) := by decide +kernel
theorem dX6_isPlain_16 : decode cX6_isPlain 16 = .ok (.ireturn, 1) := by decide +kernel
theorem dX6_free_0 : decode cX6_free 0 = .ok (.iconst 0, 1) := by decide +kernel
theorem dX6_free_1 : decode cX6_free 1 = .ok (.istore_n 1, 1) := by decide +kernel
theorem dX6_free_2 : decode cX6_free 2 = .ok (.iload_n 1, 1) := by decide +kernel
theorem dX6_free_3 : decode cX6_free 3 = .ok (.bipush 12, 2) := by decide +kernel
theorem dX6_free_5 : decode cX6_free 5 = .ok (.if_icmp .ge 20, 3) := by decide +kernel
theorem dX6_free_8 : decode cX6_free 8 = .ok (.aload_n 0, 1) := by decide +kernel
theorem dX6_free_9 : decode cX6_free 9 = .ok (.getfield 7, 3) := by decide +kernel
theorem dX6_free_12 : decode cX6_free 12 = .ok (.iload_n 1, 1) := by decide +kernel
theorem dX6_free_13 : decode cX6_free 13 = .ok (.iaload, 1) := by decide +kernel
theorem dX6_free_14 : decode cX6_free 14 = .ok (.ifCond .ge 5, 3) := by decide +kernel
theorem dX6_free_17 : decode cX6_free 17 = .ok (.iload_n 1, 1) := by decide +kernel
theorem dX6_free_18 : decode cX6_free 18 = .ok (.ireturn, 1) := by decide +kernel
theorem dX6_free_19 : decode cX6_free 19 = .ok (.iinc 1 1, 3) := by decide +kernel
theorem dX6_free_22 : decode cX6_free 22 = .ok (.goto (-20), 3) := by decide +kernel
theorem dX6_free_25 : decode cX6_free 25 = .ok (.iconst (-1), 1) := by decide +kernel
theorem dX6_free_26 : decode cX6_free 26 = .ok (.ireturn, 1) := by decide +kernel
theorem dX6_things_0 : decode cX6_things 0 = .ok (.iconst 0, 1) := by decide +kernel
theorem dX6_things_1 : decode cX6_things 1 = .ok (.istore_n 1, 1) := by decide +kernel
theorem dX6_things_2 : decode cX6_things 2 = .ok (.iconst 0, 1) := by decide +kernel
theorem dX6_things_3 : decode cX6_things 3 = .ok (.istore_n 2, 1) := by decide +kernel
theorem dX6_things_4 : decode cX6_things 4 = .ok (.iload_n 2, 1) := by decide +kernel
theorem dX6_things_5 : decode cX6_things 5 = .ok (.bipush 12, 2) := by decide +kernel
theorem dX6_things_7 : decode cX6_things 7 = .ok (.if_icmp .ge 21, 3) := by decide +kernel
theorem dX6_things_10 : decode cX6_things 10 = .ok (.aload_n 0, 1) := by decide +kernel
theorem dX6_things_11 : decode cX6_things 11 = .ok (.getfield 7, 3) := by decide +kernel
theorem dX6_things_14 : decode cX6_things 14 = .ok (.iload_n 2, 1) := by decide +kernel
theorem dX6_things_15 : decode cX6_things 15 = .ok (.iaload, 1) := by decide +kernel
theorem dX6_things_16 : decode cX6_things 16 = .ok (.ifCond .lt 6, 3) := by decide +kernel
theorem dX6_things_19 : decode cX6_things 19 = .ok (.iinc 1 1, 3) := by decide +kernel
theorem dX6_things_22 : decode cX6_things 22 = .ok (.iinc 2 1, 3) := by decide +kernel
theorem dX6_things_25 : decode cX6_things 25 = .ok (.goto (-21), 3) := by decide +kernel
theorem dX6_things_28 : decode cX6_things 28 = .ok (.iload_n 1, 1) := by decide +kernel
theorem dX6_things_29 : decode cX6_things 29 = .ok (.ireturn, 1) := by decide +kernel
theorem dX6_begins_0 : decode cX6_begins 0 = .ok (.aload_n 0, 1) := by decide +kernel
theorem dX6_begins_1 : decode cX6_begins 1 = .ok (.getfield 7, 3) := by decide +kernel
theorem dX6_begins_4 : decode cX6_begins 4 = .ok (.iload_n 1, 1) := by decide +kernel
theorem dX6_begins_5 : decode cX6_begins 5 = .ok (.iload_n 2, 1) := by decide +kernel
theorem dX6_begins_6 : decode cX6_begins 6 = .ok (.iastore, 1) := by decide +kernel
theorem dX6_begins_7 : decode cX6_begins 7 = .ok (.aload_n 0, 1) := by decide +kernel
theorem dX6_begins_8 : decode cX6_begins 8 = .ok (.getfield 13, 3) := by decide +kernel
theorem dX6_begins_11 : decode cX6_begins 11 = .ok (.iload_n 1, 1) := by decide +kernel
theorem dX6_begins_12 : decode cX6_begins 12 = .ok (.iload_n 3, 1) := by decide +kernel
theorem dX6_begins_13 : decode cX6_begins 13 = .ok (.iastore, 1) := by decide +kernel
theorem dX6_begins_14 : decode cX6_begins 14 = .ok (.aload_n 0, 1) := by decide +kernel
theorem dX6_begins_15 : decode cX6_begins 15 = .ok (.getfield 16, 3) := by decide +kernel
theorem dX6_begins_18 : decode cX6_begins 18 = .ok (.iload_n 1, 1) := by decide +kernel
theorem dX6_begins_19 : decode cX6_begins 19 = .ok (.lconst 0, 1) := by decide +kernel
theorem dX6_begins_20 : decode cX6_begins 20 = .ok (.lastore, 1) := by decide +kernel
theorem dX6_begins_21 : decode cX6_begins 21 = .ok (.iconst 0, 1) := by decide +kernel
theorem dX6_begins_22 : decode cX6_begins 22 = .ok (.istore 4, 2) := by decide +kernel
theorem dX6_begins_24 : decode cX6_begins 24 = .ok (.iload 4, 2) := by decide +kernel
theorem dX6_begins_26 : decode cX6_begins 26 = .ok (.bipush 12, 2) := by decide +kernel
theorem dX6_begins_28 : decode cX6_begins 28 = .ok (.if_icmp .ge 46, 3) := by decide +kernel
theorem dX6_begins_31 : decode cX6_begins 31 = .ok (.aload_n 0, 1) := by decide +kernel
theorem dX6_begins_32 : decode cX6_begins 32 = .ok (.getfield 20, 3) := by decide +kernel
theorem dX6_begins_35 : decode cX6_begins 35 = .ok (.bipush 12, 2) := by decide +kernel
theorem dX6_begins_37 : decode cX6_begins 37 = .ok (.iload_n 1, 1) := by decide +kernel
theorem dX6_begins_38 : decode cX6_begins 38 = .ok (.imul, 1) := by decide +kernel
theorem dX6_begins_39 : decode cX6_begins 39 = .ok (.iload 4, 2) := by decide +kernel
theorem dX6_begins_41 : decode cX6_begins 41 = .ok (.iadd, 1) := by decide +kernel
theorem dX6_begins_42 : decode cX6_begins 42 = .ok (.iload_n 2, 1) := by decide +kernel
theorem dX6_begins_43 : decode cX6_begins 43 = .ok (.bipush 8, 2) := by decide +kernel
theorem dX6_begins_45 : decode cX6_begins 45 = .ok (.if_icmp .ge 7, 3) := by decide +kernel
theorem dX6_begins_48 : decode cX6_begins 48 = .ok (.iload_n 2, 1) := by decide +kernel
theorem dX6_begins_49 : decode cX6_begins 49 = .ok (.goto 5, 3) := by decide +kernel
theorem dX6_begins_52 : decode cX6_begins 52 = .ok (.bipush 11, 2) := by decide +kernel
theorem dX6_begins_54 : decode cX6_begins 54 = .ok (.iastore, 1) := by decide +kernel
theorem dX6_begins_55 : decode cX6_begins 55 = .ok (.aload_n 0, 1) := by decide +kernel
theorem dX6_begins_56 : decode cX6_begins 56 = .ok (.getfield 23, 3) := by decide +kernel
theorem dX6_begins_59 : decode cX6_begins 59 = .ok (.bipush 12, 2) := by decide +kernel
theorem dX6_begins_61 : decode cX6_begins 61 = .ok (.iload_n 1, 1) := by decide +kernel
theorem dX6_begins_62 : decode cX6_begins 62 = .ok (.imul, 1) := by decide +kernel
theorem dX6_begins_63 : decode cX6_begins 63 = .ok (.iload 4, 2) := by decide +kernel
theorem dX6_begins_65 : decode cX6_begins 65 = .ok (.iadd, 1) := by decide +kernel
theorem dX6_begins_66 : decode cX6_begins 66 = .ok (.lconst 0, 1) := by decide +kernel
theorem dX6_begins_67 : decode cX6_begins 67 = .ok (.lastore, 1) := by decide +kernel
theorem dX6_begins_68 : decode cX6_begins 68 = .ok (.iinc 4 1, 3) := by decide +kernel
theorem dX6_begins_71 : decode cX6_begins 71 = .ok (.goto (-47), 3) := by decide +kernel
theorem dX6_begins_74 : decode cX6_begins 74 = .ok (.return_, 1) := by decide +kernel
theorem dX6_takes_0 : decode cX6_takes 0 = .ok (.aload_n 0, 1) := by decide +kernel
theorem dX6_takes_1 : decode cX6_takes 1 = .ok (.iload_n 2, 1) := by decide +kernel
theorem dX6_takes_2 : decode cX6_takes 2 = .ok (.putfield 121, 3) := by decide +kernel
theorem dX6_takes_5 : decode cX6_takes 5 = .ok (.aload_n 0, 1) := by decide +kernel
theorem dX6_takes_6 : decode cX6_takes 6 = .ok (.lload_n 3, 1) := by decide +kernel
theorem dX6_takes_7 : decode cX6_takes 7 = .ok (.putfield 124, 3) := by decide +kernel
theorem dX6_takes_10 : decode cX6_takes 10 = .ok (.iload_n 1, 1) := by decide +kernel
theorem dX6_takes_11 : decode cX6_takes 11 = .ok (.bipush 8, 2) := by decide +kernel
theorem dX6_takes_13 : decode cX6_takes 13 = .ok (.if_icmp .ge 36, 3) := by decide +kernel
theorem dX6_takes_16 : decode cX6_takes 16 = .ok (.iload_n 2, 1) := by decide +kernel
theorem dX6_takes_17 : decode cX6_takes 17 = .ok (.bipush 7, 2) := by decide +kernel
theorem dX6_takes_19 : decode cX6_takes 19 = .ok (.if_icmp .gt 11, 3) := by decide +kernel
theorem dX6_takes_22 : decode cX6_takes 22 = .ok (.iload_n 2, 1) := by decide +kernel
theorem dX6_takes_23 : decode cX6_takes 23 = .ok (.iload_n 1, 1) := by decide +kernel
theorem dX6_takes_24 : decode cX6_takes 24 = .ok (.invokestatic 128, 3) := by decide +kernel
theorem dX6_takes_27 : decode cX6_takes 27 = .ok (.ifCond .ne 5, 3) := by decide +kernel
theorem dX6_takes_30 : decode cX6_takes 30 = .ok (.iconst 0, 1) := by decide +kernel
theorem dX6_takes_31 : decode cX6_takes 31 = .ok (.ireturn, 1) := by decide +kernel
theorem dX6_takes_32 : decode cX6_takes 32 = .ok (.aload_n 0, 1) := by decide +kernel
theorem dX6_takes_33 : decode cX6_takes 33 = .ok (.iload_n 1, 1) := by decide +kernel
theorem dX6_takes_34 : decode cX6_takes 34 = .ok (.putfield 121, 3) := by decide +kernel
theorem dX6_takes_37 : decode cX6_takes 37 = .ok (.aload_n 0, 1) := by decide +kernel
theorem dX6_takes_38 : decode cX6_takes 38 = .ok (.iload_n 2, 1) := by decide +kernel
theorem dX6_takes_39 : decode cX6_takes 39 = .ok (.lload_n 3, 1) := by decide +kernel
theorem dX6_takes_40 : decode cX6_takes 40 = .ok (.iload_n 1, 1) := by decide +kernel
theorem dX6_takes_41 : decode cX6_takes 41 = .ok (.invokestatic 132, 3) := by decide +kernel
theorem dX6_takes_44 : decode cX6_takes 44 = .ok (.putfield 124, 3) := by decide +kernel
theorem dX6_takes_47 : decode cX6_takes 47 = .ok (.iconst 1, 1) := by decide +kernel
theorem dX6_takes_48 : decode cX6_takes 48 = .ok (.ireturn, 1) := by decide +kernel
theorem dX6_takes_49 : decode cX6_takes 49 = .ok (.iload_n 2, 1) := by decide +kernel
theorem dX6_takes_50 : decode cX6_takes 50 = .ok (.bipush 11, 2) := by decide +kernel
theorem dX6_takes_52 : decode cX6_takes 52 = .ok (.if_icmp .eq 9, 3) := by decide +kernel
theorem dX6_takes_55 : decode cX6_takes 55 = .ok (.iload_n 1, 1) := by decide +kernel
theorem dX6_takes_56 : decode cX6_takes 56 = .ok (.bipush 12, 2) := by decide +kernel
theorem dX6_takes_58 : decode cX6_takes 58 = .ok (.if_icmp .ne 5, 3) := by decide +kernel
theorem dX6_takes_61 : decode cX6_takes 61 = .ok (.iconst 1, 1) := by decide +kernel
theorem dX6_takes_62 : decode cX6_takes 62 = .ok (.ireturn, 1) := by decide +kernel
theorem dX6_takes_63 : decode cX6_takes 63 = .ok (.iload_n 1, 1) := by decide +kernel
theorem dX6_takes_64 : decode cX6_takes 64 = .ok (.bipush 8, 2) := by decide +kernel
theorem dX6_takes_66 : decode cX6_takes 66 = .ok (.if_icmp .ne 14, 3) := by decide +kernel
theorem dX6_takes_69 : decode cX6_takes 69 = .ok (.iload_n 2, 1) := by decide +kernel
theorem dX6_takes_70 : decode cX6_takes 70 = .ok (.iconst 4, 1) := by decide +kernel
theorem dX6_takes_71 : decode cX6_takes 71 = .ok (.if_icmp .ne 7, 3) := by decide +kernel
theorem dX6_takes_74 : decode cX6_takes 74 = .ok (.iconst 1, 1) := by decide +kernel
theorem dX6_takes_75 : decode cX6_takes 75 = .ok (.goto 4, 3) := by decide +kernel
theorem dX6_takes_78 : decode cX6_takes 78 = .ok (.iconst 0, 1) := by decide +kernel
theorem dX6_takes_79 : decode cX6_takes 79 = .ok (.ireturn, 1) := by decide +kernel
theorem dX6_takes_80 : decode cX6_takes 80 = .ok (.iload_n 1, 1) := by decide +kernel
theorem dX6_takes_81 : decode cX6_takes 81 = .ok (.bipush 9, 2) := by decide +kernel
theorem dX6_takes_83 : decode cX6_takes 83 = .ok (.if_icmp .ne 15, 3) := by decide +kernel
theorem dX6_takes_86 : decode cX6_takes 86 = .ok (.iload_n 2, 1) := by decide +kernel
theorem dX6_takes_87 : decode cX6_takes 87 = .ok (.bipush 8, 2) := by decide +kernel
theorem dX6_takes_89 : decode cX6_takes 89 = .ok (.if_icmp .ne 7, 3) := by decide +kernel
theorem dX6_takes_92 : decode cX6_takes 92 = .ok (.iconst 1, 1) := by decide +kernel
theorem dX6_takes_93 : decode cX6_takes 93 = .ok (.goto 4, 3) := by decide +kernel
theorem dX6_takes_96 : decode cX6_takes 96 = .ok (.iconst 0, 1) := by decide +kernel
theorem dX6_takes_97 : decode cX6_takes 97 = .ok (.ireturn, 1) := by decide +kernel
theorem dX6_takes_98 : decode cX6_takes 98 = .ok (.iload_n 1, 1) := by decide +kernel
theorem dX6_takes_99 : decode cX6_takes 99 = .ok (.bipush 10, 2) := by decide +kernel
theorem dX6_takes_101 : decode cX6_takes 101 = .ok (.if_icmp .ne 15, 3) := by decide +kernel
theorem dX6_takes_104 : decode cX6_takes 104 = .ok (.iload_n 2, 1) := by decide +kernel
theorem dX6_takes_105 : decode cX6_takes 105 = .ok (.bipush 9, 2) := by decide +kernel
theorem dX6_takes_107 : decode cX6_takes 107 = .ok (.if_icmp .ne 7, 3) := by decide +kernel
theorem dX6_takes_110 : decode cX6_takes 110 = .ok (.iconst 1, 1) := by decide +kernel
theorem dX6_takes_111 : decode cX6_takes 111 = .ok (.goto 4, 3) := by decide +kernel
theorem dX6_takes_114 : decode cX6_takes 114 = .ok (.iconst 0, 1) := by decide +kernel
theorem dX6_takes_115 : decode cX6_takes 115 = .ok (.ireturn, 1) := by decide +kernel
theorem dX6_takes_116 : decode cX6_takes 116 = .ok (.iload_n 1, 1) := by decide +kernel
theorem dX6_takes_117 : decode cX6_takes 117 = .ok (.bipush 11, 2) := by decide +kernel
theorem dX6_takes_119 : decode cX6_takes 119 = .ok (.if_icmp .ne 23, 3) := by decide +kernel
theorem dX6_takes_122 : decode cX6_takes 122 = .ok (.iload_n 2, 1) := by decide +kernel
theorem dX6_takes_123 : decode cX6_takes 123 = .ok (.bipush 9, 2) := by decide +kernel
theorem dX6_takes_125 : decode cX6_takes 125 = .ok (.if_icmp .ne 15, 3) := by decide +kernel
theorem dX6_takes_128 : decode cX6_takes 128 = .ok (.lload_n 3, 1) := by decide +kernel
theorem dX6_takes_129 : decode cX6_takes 129 = .ok (.ldc2_w 136, 3) := by decide +kernel
theorem dX6_takes_132 : decode cX6_takes 132 = .ok (.lcmp, 1) := by decide +kernel
theorem dX6_takes_133 : decode cX6_takes 133 = .ok (.ifCond .lt 7, 3) := by decide +kernel
theorem dX6_takes_136 : decode cX6_takes 136 = .ok (.iconst 1, 1) := by decide +kernel
theorem dX6_takes_137 : decode cX6_takes 137 = .ok (.goto 4, 3) := by decide +kernel
theorem dX6_takes_140 : decode cX6_takes 140 = .ok (.iconst 0, 1) := by decide +kernel
theorem dX6_takes_141 : decode cX6_takes 141 = .ok (.ireturn, 1) := by decide +kernel
theorem dX6_takes_142 : decode cX6_takes 142 = .ok (.iload_n 2, 1) := by decide +kernel
theorem dX6_takes_143 : decode cX6_takes 143 = .ok (.bipush 10, 2) := by decide +kernel
theorem dX6_takes_145 : decode cX6_takes 145 = .ok (.if_icmp .ne 18, 3) := by decide +kernel
theorem dX6_takes_148 : decode cX6_takes 148 = .ok (.aload_n 0, 1) := by decide +kernel
theorem dX6_takes_149 : decode cX6_takes 149 = .ok (.getfield 7, 3) := by decide +kernel
theorem dX6_takes_152 : decode cX6_takes 152 = .ok (.lload_n 3, 1) := by decide +kernel
theorem dX6_takes_153 : decode cX6_takes 153 = .ok (.l2i, 1) := by decide +kernel
theorem dX6_takes_154 : decode cX6_takes 154 = .ok (.iaload, 1) := by decide +kernel
theorem dX6_takes_155 : decode cX6_takes 155 = .ok (.iconst 4, 1) := by decide +kernel
theorem dX6_takes_156 : decode cX6_takes 156 = .ok (.if_icmp .ne 7, 3) := by decide +kernel
theorem dX6_takes_159 : decode cX6_takes 159 = .ok (.iconst 1, 1) := by decide +kernel
theorem dX6_takes_160 : decode cX6_takes 160 = .ok (.goto 4, 3) := by decide +kernel
theorem dX6_takes_163 : decode cX6_takes 163 = .ok (.iconst 0, 1) := by decide +kernel
theorem dX6_takes_164 : decode cX6_takes 164 = .ok (.ireturn, 1) := by decide +kernel
theorem dX6_tells_0 : decode cX6_tells 0 = .ok (.aload_n 0, 1) := by decide +kernel
theorem dX6_tells_1 : decode cX6_tells 1 = .ok (.iload_n 1, 1) := by decide +kernel
theorem dX6_tells_2 : decode cX6_tells 2 = .ok (.putfield 138, 3) := by decide +kernel
theorem dX6_tells_5 : decode cX6_tells 5 = .ok (.aload_n 0, 1) := by decide +kernel
theorem dX6_tells_6 : decode cX6_tells 6 = .ok (.iload_n 2, 1) := by decide +kernel
theorem dX6_tells_7 : decode cX6_tells 7 = .ok (.putfield 29, 3) := by decide +kernel
theorem dX6_tells_10 : decode cX6_tells 10 = .ok (.iload_n 1, 1) := by decide +kernel
theorem dX6_tells_11 : decode cX6_tells 11 = .ok (.ireturn, 1) := by decide +kernel
theorem dX6_counts_0 : decode cX6_counts 0 = .ok (.iload_n 1, 1) := by decide +kernel
theorem dX6_counts_1 : decode cX6_counts 1 = .ok (.bipush (-5), 2) := by decide +kernel
theorem dX6_counts_3 : decode cX6_counts 3 = .ok (.if_icmp .gt 22, 3) := by decide +kernel
theorem dX6_counts_6 : decode cX6_counts 6 = .ok (.iload_n 1, 1) := by decide +kernel
theorem dX6_counts_7 : decode cX6_counts 7 = .ok (.bipush (-9), 2) := by decide +kernel
theorem dX6_counts_9 : decode cX6_counts 9 = .ok (.if_icmp .lt 16, 3) := by decide +kernel
theorem dX6_counts_12 : decode cX6_counts 12 = .ok (.aload_n 0, 1) := by decide +kernel
theorem dX6_counts_13 : decode cX6_counts 13 = .ok (.getfield 33, 3) := by decide +kernel
theorem dX6_counts_16 : decode cX6_counts 16 = .ok (.bipush (-5), 2) := by decide +kernel
theorem dX6_counts_18 : decode cX6_counts 18 = .ok (.iload_n 1, 1) := by decide +kernel
theorem dX6_counts_19 : decode cX6_counts 19 = .ok (.isub, 1) := by decide +kernel
theorem dX6_counts_20 : decode cX6_counts 20 = .ok (.dup2, 1) := by decide +kernel
theorem dX6_counts_21 : decode cX6_counts 21 = .ok (.iaload, 1) := by decide +kernel
theorem dX6_counts_22 : decode cX6_counts 22 = .ok (.iconst 1, 1) := by decide +kernel
theorem dX6_counts_23 : decode cX6_counts 23 = .ok (.iadd, 1) := by decide +kernel
theorem dX6_counts_24 : decode cX6_counts 24 = .ok (.iastore, 1) := by decide +kernel
theorem dX6_counts_25 : decode cX6_counts 25 = .ok (.iload_n 1, 1) := by decide +kernel
theorem dX6_counts_26 : decode cX6_counts 26 = .ok (.ireturn, 1) := by decide +kernel
theorem dX6_make_0 : decode cX6_make 0 = .ok (.iload_n 1, 1) := by decide +kernel
theorem dX6_make_1 : decode cX6_make 1 = .ok (.i2l, 1) := by decide +kernel
theorem dX6_make_2 : decode cX6_make 2 = .ok (.lconst 0, 1) := by decide +kernel
theorem dX6_make_3 : decode cX6_make 3 = .ok (.ldc2_w 141, 3) := by decide +kernel
theorem dX6_make_6 : decode cX6_make 6 = .ok (.invokestatic 73, 3) := by decide +kernel
theorem dX6_make_9 : decode cX6_make 9 = .ok (.ifCond .eq 14, 3) := by decide +kernel
theorem dX6_make_12 : decode cX6_make 12 = .ok (.lload_n 2, 1) := by decide +kernel
theorem dX6_make_13 : decode cX6_make 13 = .ok (.lconst 0, 1) := by decide +kernel
theorem dX6_make_14 : decode cX6_make 14 = .ok (.ldc2_w 143, 3) := by decide +kernel
theorem dX6_make_17 : decode cX6_make 17 = .ok (.invokestatic 73, 3) := by decide +kernel
theorem dX6_make_20 : decode cX6_make 20 = .ok (.ifCond .ne 33, 3) := by decide +kernel
theorem dX6_make_23 : decode cX6_make 23 = .ok (.iload_n 1, 1) := by decide +kernel
theorem dX6_make_24 : decode cX6_make 24 = .ok (.bipush 14, 2) := by decide +kernel
theorem dX6_make_26 : decode cX6_make 26 = .ok (.if_icmp .ne 14, 3) := by decide +kernel
theorem dX6_make_29 : decode cX6_make 29 = .ok (.lload_n 2, 1) := by decide +kernel
theorem dX6_make_30 : decode cX6_make 30 = .ok (.lconst 0, 1) := by decide +kernel
theorem dX6_make_31 : decode cX6_make 31 = .ok (.ldc2_w 145, 3) := by decide +kernel
theorem dX6_make_34 : decode cX6_make 34 = .ok (.invokestatic 73, 3) := by decide +kernel
theorem dX6_make_37 : decode cX6_make 37 = .ok (.ifCond .ne 16, 3) := by decide +kernel
theorem dX6_make_40 : decode cX6_make 40 = .ok (.iload_n 1, 1) := by decide +kernel
theorem dX6_make_41 : decode cX6_make 41 = .ok (.bipush 15, 2) := by decide +kernel
theorem dX6_make_43 : decode cX6_make 43 = .ok (.if_icmp .ne 14, 3) := by decide +kernel
theorem dX6_make_46 : decode cX6_make 46 = .ok (.lload_n 2, 1) := by decide +kernel
theorem dX6_make_47 : decode cX6_make 47 = .ok (.invokestatic 147, 3) := by decide +kernel
theorem dX6_make_50 : decode cX6_make 50 = .ok (.ifCond .eq 7, 3) := by decide +kernel
theorem dX6_make_53 : decode cX6_make 53 = .ok (.iconst 1, 1) := by decide +kernel
theorem dX6_make_54 : decode cX6_make 54 = .ok (.goto 4, 3) := by decide +kernel
theorem dX6_make_57 : decode cX6_make 57 = .ok (.iconst 0, 1) := by decide +kernel
theorem dX6_make_58 : decode cX6_make 58 = .ok (.istore 4, 2) := by decide +kernel
theorem dX6_make_60 : decode cX6_make 60 = .ok (.iload 4, 2) := by decide +kernel
theorem dX6_make_62 : decode cX6_make 62 = .ok (.ifCond .ne 5, 3) := by decide +kernel
theorem dX6_make_65 : decode cX6_make 65 = .ok (.iconst (-1), 1) := by decide +kernel
theorem dX6_make_66 : decode cX6_make 66 = .ok (.ireturn, 1) := by decide +kernel
theorem dX6_make_67 : decode cX6_make 67 = .ok (.aload_n 0, 1) := by decide +kernel
theorem dX6_make_68 : decode cX6_make 68 = .ok (.invokevirtual 151, 3) := by decide +kernel
theorem dX6_make_71 : decode cX6_make 71 = .ok (.istore 5, 2) := by decide +kernel
theorem dX6_make_73 : decode cX6_make 73 = .ok (.iload 5, 2) := by decide +kernel
theorem dX6_make_75 : decode cX6_make 75 = .ok (.ifCond .ge 6, 3) := by decide +kernel
theorem dX6_make_78 : decode cX6_make 78 = .ok (.bipush (-3), 2) := by decide +kernel
theorem dX6_make_80 : decode cX6_make 80 = .ok (.ireturn, 1) := by decide +kernel
theorem dX6_make_81 : decode cX6_make 81 = .ok (.aload_n 0, 1) := by decide +kernel
theorem dX6_make_82 : decode cX6_make 82 = .ok (.iload 5, 2) := by decide +kernel
theorem dX6_make_84 : decode cX6_make 84 = .ok (.iload_n 1, 1) := by decide +kernel
theorem dX6_make_85 : decode cX6_make 85 = .ok (.iload_n 1, 1) := by decide +kernel
theorem dX6_make_86 : decode cX6_make 86 = .ok (.bipush 14, 2) := by decide +kernel
theorem dX6_make_88 : decode cX6_make 88 = .ok (.if_icmp .ge 8, 3) := by decide +kernel
theorem dX6_make_91 : decode cX6_make 91 = .ok (.lload_n 2, 1) := by decide +kernel
theorem dX6_make_92 : decode cX6_make 92 = .ok (.l2i, 1) := by decide +kernel
theorem dX6_make_93 : decode cX6_make 93 = .ok (.goto 4, 3) := by decide +kernel
theorem dX6_make_96 : decode cX6_make 96 = .ok (.iconst 0, 1) := by decide +kernel
theorem dX6_make_97 : decode cX6_make 97 = .ok (.invokevirtual 155, 3) := by decide +kernel
theorem dX6_make_100 : decode cX6_make 100 = .ok (.aload_n 0, 1) := by decide +kernel
theorem dX6_make_101 : decode cX6_make 101 = .ok (.getfield 16, 3) := by decide +kernel
theorem dX6_make_104 : decode cX6_make 104 = .ok (.iload 5, 2) := by decide +kernel
theorem dX6_make_106 : decode cX6_make 106 = .ok (.iload_n 1, 1) := by decide +kernel
theorem dX6_make_107 : decode cX6_make 107 = .ok (.bipush 14, 2) := by decide +kernel
theorem dX6_make_109 : decode cX6_make 109 = .ok (.if_icmp .ge 7, 3) := by decide +kernel
theorem dX6_make_112 : decode cX6_make 112 = .ok (.lconst 0, 1) := by decide +kernel
theorem dX6_make_113 : decode cX6_make 113 = .ok (.goto 4, 3) := by decide +kernel
theorem dX6_make_116 : decode cX6_make 116 = .ok (.lload_n 2, 1) := by decide +kernel
theorem dX6_make_117 : decode cX6_make 117 = .ok (.lastore, 1) := by decide +kernel
theorem dX6_make_118 : decode cX6_make 118 = .ok (.iload 5, 2) := by decide +kernel
theorem dX6_make_120 : decode cX6_make 120 = .ok (.ireturn, 1) := by decide +kernel
theorem dX6_kind_0 : decode cX6_kind 0 = .ok (.iload_n 1, 1) := by decide +kernel
theorem dX6_kind_1 : decode cX6_kind 1 = .ok (.i2l, 1) := by decide +kernel
theorem dX6_kind_2 : decode cX6_kind 2 = .ok (.invokestatic 159, 3) := by decide +kernel
theorem dX6_kind_5 : decode cX6_kind 5 = .ok (.ifCond .ne 5, 3) := by decide +kernel
theorem dX6_kind_8 : decode cX6_kind 8 = .ok (.iconst (-1), 1) := by decide +kernel
theorem dX6_kind_9 : decode cX6_kind 9 = .ok (.ireturn, 1) := by decide +kernel
theorem dX6_kind_10 : decode cX6_kind 10 = .ok (.aload_n 0, 1) := by decide +kernel
theorem dX6_kind_11 : decode cX6_kind 11 = .ok (.getfield 7, 3) := by decide +kernel
theorem dX6_kind_14 : decode cX6_kind 14 = .ok (.iload_n 1, 1) := by decide +kernel
theorem dX6_kind_15 : decode cX6_kind 15 = .ok (.iaload, 1) := by decide +kernel
theorem dX6_kind_16 : decode cX6_kind 16 = .ok (.ifCond .ge 8, 3) := by decide +kernel
theorem dX6_kind_19 : decode cX6_kind 19 = .ok (.bipush (-5), 2) := by decide +kernel
theorem dX6_kind_21 : decode cX6_kind 21 = .ok (.goto 9, 3) := by decide +kernel
theorem dX6_kind_24 : decode cX6_kind 24 = .ok (.aload_n 0, 1) := by decide +kernel
theorem dX6_kind_25 : decode cX6_kind 25 = .ok (.getfield 7, 3) := by decide +kernel
theorem dX6_kind_28 : decode cX6_kind 28 = .ok (.iload_n 1, 1) := by decide +kernel
theorem dX6_kind_29 : decode cX6_kind 29 = .ok (.iaload, 1) := by decide +kernel
theorem dX6_kind_30 : decode cX6_kind 30 = .ok (.ireturn, 1) := by decide +kernel
theorem dX6_size_0 : decode cX6_size 0 = .ok (.iload_n 1, 1) := by decide +kernel
theorem dX6_size_1 : decode cX6_size 1 = .ok (.i2l, 1) := by decide +kernel
theorem dX6_size_2 : decode cX6_size 2 = .ok (.invokestatic 159, 3) := by decide +kernel
theorem dX6_size_5 : decode cX6_size 5 = .ok (.ifCond .ne 5, 3) := by decide +kernel
theorem dX6_size_8 : decode cX6_size 8 = .ok (.iconst (-1), 1) := by decide +kernel
theorem dX6_size_9 : decode cX6_size 9 = .ok (.ireturn, 1) := by decide +kernel
theorem dX6_size_10 : decode cX6_size 10 = .ok (.aload_n 0, 1) := by decide +kernel
theorem dX6_size_11 : decode cX6_size 11 = .ok (.iload_n 1, 1) := by decide +kernel
theorem dX6_size_12 : decode cX6_size 12 = .ok (.invokevirtual 162, 3) := by decide +kernel
theorem dX6_size_15 : decode cX6_size 15 = .ok (.istore_n 2, 1) := by decide +kernel
theorem dX6_size_16 : decode cX6_size 16 = .ok (.iload_n 2, 1) := by decide +kernel
theorem dX6_size_17 : decode cX6_size 17 = .ok (.ifCond .ge 7, 3) := by decide +kernel
theorem dX6_size_20 : decode cX6_size 20 = .ok (.iload_n 2, 1) := by decide +kernel
theorem dX6_size_21 : decode cX6_size 21 = .ok (.goto 9, 3) := by decide +kernel
theorem dX6_size_24 : decode cX6_size 24 = .ok (.aload_n 0, 1) := by decide +kernel
theorem dX6_size_25 : decode cX6_size 25 = .ok (.getfield 13, 3) := by decide +kernel
theorem dX6_size_28 : decode cX6_size 28 = .ok (.iload_n 1, 1) := by decide +kernel
theorem dX6_size_29 : decode cX6_size 29 = .ok (.iaload, 1) := by decide +kernel
theorem dX6_size_30 : decode cX6_size 30 = .ok (.ireturn, 1) := by decide +kernel
theorem dX6_stands_0 : decode cX6_stands 0 = .ok (.iconst 0, 1) := by decide +kernel
theorem dX6_stands_1 : decode cX6_stands 1 = .ok (.istore_n 3, 1) := by decide +kernel
theorem dX6_stands_2 : decode cX6_stands 2 = .ok (.iload_n 3, 1) := by decide +kernel
theorem dX6_stands_3 : decode cX6_stands 3 = .ok (.aload_n 0, 1) := by decide +kernel
theorem dX6_stands_4 : decode cX6_stands 4 = .ok (.getfield 13, 3) := by decide +kernel
theorem dX6_stands_7 : decode cX6_stands 7 = .ok (.iload_n 2, 1) := by decide +kernel
theorem dX6_stands_8 : decode cX6_stands 8 = .ok (.iaload, 1) := by decide +kernel
theorem dX6_stands_9 : decode cX6_stands 9 = .ok (.if_icmp .ge 44, 3) := by decide +kernel
theorem dX6_stands_12 : decode cX6_stands 12 = .ok (.aload_n 0, 1) := by decide +kernel
theorem dX6_stands_13 : decode cX6_stands 13 = .ok (.getfield 20, 3) := by decide +kernel
theorem dX6_stands_16 : decode cX6_stands 16 = .ok (.bipush 12, 2) := by decide +kernel
theorem dX6_stands_18 : decode cX6_stands 18 = .ok (.iload_n 2, 1) := by decide +kernel
theorem dX6_stands_19 : decode cX6_stands 19 = .ok (.imul, 1) := by decide +kernel
theorem dX6_stands_20 : decode cX6_stands 20 = .ok (.iload_n 3, 1) := by decide +kernel
theorem dX6_stands_21 : decode cX6_stands 21 = .ok (.iadd, 1) := by decide +kernel
theorem dX6_stands_22 : decode cX6_stands 22 = .ok (.iaload, 1) := by decide +kernel
theorem dX6_stands_23 : decode cX6_stands 23 = .ok (.bipush 10, 2) := by decide +kernel
theorem dX6_stands_25 : decode cX6_stands 25 = .ok (.if_icmp .ne 22, 3) := by decide +kernel
theorem dX6_stands_28 : decode cX6_stands 28 = .ok (.aload_n 0, 1) := by decide +kernel
theorem dX6_stands_29 : decode cX6_stands 29 = .ok (.getfield 23, 3) := by decide +kernel
theorem dX6_stands_32 : decode cX6_stands 32 = .ok (.bipush 12, 2) := by decide +kernel
theorem dX6_stands_34 : decode cX6_stands 34 = .ok (.iload_n 2, 1) := by decide +kernel
theorem dX6_stands_35 : decode cX6_stands 35 = .ok (.imul, 1) := by decide +kernel
theorem dX6_stands_36 : decode cX6_stands 36 = .ok (.iload_n 3, 1) := by decide +kernel
theorem dX6_stands_37 : decode cX6_stands 37 = .ok (.iadd, 1) := by decide +kernel
theorem dX6_stands_38 : decode cX6_stands 38 = .ok (.laload, 1) := by decide +kernel
theorem dX6_stands_39 : decode cX6_stands 39 = .ok (.iload_n 1, 1) := by decide +kernel
theorem dX6_stands_40 : decode cX6_stands 40 = .ok (.i2l, 1) := by decide +kernel
theorem dX6_stands_41 : decode cX6_stands 41 = .ok (.lcmp, 1) := by decide +kernel
theorem dX6_stands_42 : decode cX6_stands 42 = .ok (.ifCond .ne 5, 3) := by decide +kernel
theorem dX6_stands_45 : decode cX6_stands 45 = .ok (.iconst 1, 1) := by decide +kernel
theorem dX6_stands_46 : decode cX6_stands 46 = .ok (.ireturn, 1) := by decide +kernel
theorem dX6_stands_47 : decode cX6_stands 47 = .ok (.iinc 3 1, 3) := by decide +kernel
theorem dX6_stands_50 : decode cX6_stands 50 = .ok (.goto (-48), 3) := by decide +kernel
theorem dX6_stands_53 : decode cX6_stands 53 = .ok (.iconst 0, 1) := by decide +kernel
theorem dX6_stands_54 : decode cX6_stands 54 = .ok (.ireturn, 1) := by decide +kernel
theorem dX6_isRow_0 : decode cX6_isRow 0 = .ok (.aload_n 0, 1) := by decide +kernel
theorem dX6_isRow_1 : decode cX6_isRow 1 = .ok (.getfield 7, 3) := by decide +kernel
theorem dX6_isRow_4 : decode cX6_isRow 4 = .ok (.iload_n 1, 1) := by decide +kernel
theorem dX6_isRow_5 : decode cX6_isRow 5 = .ok (.iaload, 1) := by decide +kernel
theorem dX6_isRow_6 : decode cX6_isRow 6 = .ok (.ifCond .lt 18, 3) := by decide +kernel
theorem dX6_isRow_9 : decode cX6_isRow 9 = .ok (.aload_n 0, 1) := by decide +kernel
theorem dX6_isRow_10 : decode cX6_isRow 10 = .ok (.getfield 7, 3) := by decide +kernel
theorem dX6_isRow_13 : decode cX6_isRow 13 = .ok (.iload_n 1, 1) := by decide +kernel
theorem dX6_isRow_14 : decode cX6_isRow 14 = .ok (.iaload, 1) := by decide +kernel
theorem dX6_isRow_15 : decode cX6_isRow 15 = .ok (.bipush 14, 2) := by decide +kernel
theorem dX6_isRow_17 : decode cX6_isRow 17 = .ok (.if_icmp .ge 7, 3) := by decide +kernel
theorem dX6_isRow_20 : decode cX6_isRow 20 = .ok (.iconst 1, 1) := by decide +kernel
theorem dX6_isRow_21 : decode cX6_isRow 21 = .ok (.goto 4, 3) := by decide +kernel
theorem dX6_isRow_24 : decode cX6_isRow 24 = .ok (.iconst 0, 1) := by decide +kernel
theorem dX6_isRow_25 : decode cX6_isRow 25 = .ok (.ireturn, 1) := by decide +kernel
theorem dX6_drop_0 : decode cX6_drop 0 = .ok (.iload_n 1, 1) := by decide +kernel
theorem dX6_drop_1 : decode cX6_drop 1 = .ok (.i2l, 1) := by decide +kernel
theorem dX6_drop_2 : decode cX6_drop 2 = .ok (.invokestatic 159, 3) := by decide +kernel
theorem dX6_drop_5 : decode cX6_drop 5 = .ok (.ifCond .ne 5, 3) := by decide +kernel
theorem dX6_drop_8 : decode cX6_drop 8 = .ok (.iconst (-1), 1) := by decide +kernel
theorem dX6_drop_9 : decode cX6_drop 9 = .ok (.ireturn, 1) := by decide +kernel
theorem dX6_drop_10 : decode cX6_drop 10 = .ok (.aload_n 0, 1) := by decide +kernel
theorem dX6_drop_11 : decode cX6_drop 11 = .ok (.getfield 7, 3) := by decide +kernel
theorem dX6_drop_14 : decode cX6_drop 14 = .ok (.iload_n 1, 1) := by decide +kernel
theorem dX6_drop_15 : decode cX6_drop 15 = .ok (.iaload, 1) := by decide +kernel
theorem dX6_drop_16 : decode cX6_drop 16 = .ok (.ifCond .ge 6, 3) := by decide +kernel
theorem dX6_drop_19 : decode cX6_drop 19 = .ok (.bipush (-5), 2) := by decide +kernel
theorem dX6_drop_21 : decode cX6_drop 21 = .ok (.ireturn, 1) := by decide +kernel
theorem dX6_drop_22 : decode cX6_drop 22 = .ok (.iconst 0, 1) := by decide +kernel
theorem dX6_drop_23 : decode cX6_drop 23 = .ok (.istore_n 2, 1) := by decide +kernel
theorem dX6_drop_24 : decode cX6_drop 24 = .ok (.iload_n 2, 1) := by decide +kernel
theorem dX6_drop_25 : decode cX6_drop 25 = .ok (.bipush 12, 2) := by decide +kernel
theorem dX6_drop_27 : decode cX6_drop 27 = .ok (.if_icmp .ge 34, 3) := by decide +kernel
theorem dX6_drop_30 : decode cX6_drop 30 = .ok (.iload_n 2, 1) := by decide +kernel
theorem dX6_drop_31 : decode cX6_drop 31 = .ok (.iload_n 1, 1) := by decide +kernel
theorem dX6_drop_32 : decode cX6_drop 32 = .ok (.if_icmp .eq 23, 3) := by decide +kernel
theorem dX6_drop_35 : decode cX6_drop 35 = .ok (.aload_n 0, 1) := by decide +kernel
theorem dX6_drop_36 : decode cX6_drop 36 = .ok (.iload_n 2, 1) := by decide +kernel
theorem dX6_drop_37 : decode cX6_drop 37 = .ok (.invokevirtual 166, 3) := by decide +kernel
theorem dX6_drop_40 : decode cX6_drop 40 = .ok (.ifCond .eq 15, 3) := by decide +kernel
theorem dX6_drop_43 : decode cX6_drop 43 = .ok (.aload_n 0, 1) := by decide +kernel
theorem dX6_drop_44 : decode cX6_drop 44 = .ok (.iload_n 1, 1) := by decide +kernel
theorem dX6_drop_45 : decode cX6_drop 45 = .ok (.iload_n 2, 1) := by decide +kernel
theorem dX6_drop_46 : decode cX6_drop 46 = .ok (.invokevirtual 170, 3) := by decide +kernel
theorem dX6_drop_49 : decode cX6_drop 49 = .ok (.ifCond .eq 6, 3) := by decide +kernel
theorem dX6_drop_52 : decode cX6_drop 52 = .ok (.bipush (-2), 2) := by decide +kernel
theorem dX6_drop_54 : decode cX6_drop 54 = .ok (.ireturn, 1) := by decide +kernel
theorem dX6_drop_55 : decode cX6_drop 55 = .ok (.iinc 2 1, 3) := by decide +kernel
theorem dX6_drop_58 : decode cX6_drop 58 = .ok (.goto (-34), 3) := by decide +kernel
theorem dX6_drop_61 : decode cX6_drop 61 = .ok (.aload_n 0, 1) := by decide +kernel
theorem dX6_drop_62 : decode cX6_drop 62 = .ok (.getfield 7, 3) := by decide +kernel
theorem dX6_drop_65 : decode cX6_drop 65 = .ok (.iload_n 1, 1) := by decide +kernel
theorem dX6_drop_66 : decode cX6_drop 66 = .ok (.iconst (-1), 1) := by decide +kernel
theorem dX6_drop_67 : decode cX6_drop 67 = .ok (.iastore, 1) := by decide +kernel
theorem dX6_drop_68 : decode cX6_drop 68 = .ok (.aload_n 0, 1) := by decide +kernel
theorem dX6_drop_69 : decode cX6_drop 69 = .ok (.invokevirtual 173, 3) := by decide +kernel
theorem dX6_drop_72 : decode cX6_drop 72 = .ok (.ireturn, 1) := by decide +kernel
theorem dX6_hanging_0 : decode cX6_hanging 0 = .ok (.iconst 1, 1) := by decide +kernel
theorem dX6_hanging_1 : decode cX6_hanging 1 = .ok (.iload_n 1, 1) := by decide +kernel
theorem dX6_hanging_2 : decode cX6_hanging 2 = .ok (.ishl, 1) := by decide +kernel
theorem dX6_hanging_3 : decode cX6_hanging 3 = .ok (.istore_n 2, 1) := by decide +kernel
theorem dX6_hanging_4 : decode cX6_hanging 4 = .ok (.iconst 1, 1) := by decide +kernel
theorem dX6_hanging_5 : decode cX6_hanging 5 = .ok (.istore_n 3, 1) := by decide +kernel
theorem dX6_hanging_6 : decode cX6_hanging 6 = .ok (.iload_n 3, 1) := by decide +kernel
theorem dX6_hanging_7 : decode cX6_hanging 7 = .ok (.ifCond .eq 97, 3) := by decide +kernel
theorem dX6_hanging_10 : decode cX6_hanging 10 = .ok (.iconst 0, 1) := by decide +kernel
theorem dX6_hanging_11 : decode cX6_hanging 11 = .ok (.istore_n 3, 1) := by decide +kernel
theorem dX6_hanging_12 : decode cX6_hanging 12 = .ok (.iconst 0, 1) := by decide +kernel
theorem dX6_hanging_13 : decode cX6_hanging 13 = .ok (.istore 4, 2) := by decide +kernel
theorem dX6_hanging_15 : decode cX6_hanging 15 = .ok (.iload 4, 2) := by decide +kernel
theorem dX6_hanging_17 : decode cX6_hanging 17 = .ok (.bipush 12, 2) := by decide +kernel
theorem dX6_hanging_19 : decode cX6_hanging 19 = .ok (.if_icmp .ge 82, 3) := by decide +kernel
theorem dX6_hanging_22 : decode cX6_hanging 22 = .ok (.iconst 0, 1) := by decide +kernel
theorem dX6_hanging_23 : decode cX6_hanging 23 = .ok (.istore 5, 2) := by decide +kernel
theorem dX6_hanging_25 : decode cX6_hanging 25 = .ok (.iload 5, 2) := by decide +kernel
theorem dX6_hanging_27 : decode cX6_hanging 27 = .ok (.bipush 12, 2) := by decide +kernel
theorem dX6_hanging_29 : decode cX6_hanging 29 = .ok (.if_icmp .ge 66, 3) := by decide +kernel
theorem dX6_hanging_32 : decode cX6_hanging 32 = .ok (.iload_n 2, 1) := by decide +kernel
theorem dX6_hanging_33 : decode cX6_hanging 33 = .ok (.iload 4, 2) := by decide +kernel
theorem dX6_hanging_35 : decode cX6_hanging 35 = .ok (.ishr, 1) := by decide +kernel
theorem dX6_hanging_36 : decode cX6_hanging 36 = .ok (.iconst 1, 1) := by decide +kernel
theorem dX6_hanging_37 : decode cX6_hanging 37 = .ok (.iand, 1) := by decide +kernel
theorem dX6_hanging_38 : decode cX6_hanging 38 = .ok (.iconst 1, 1) := by decide +kernel
theorem dX6_hanging_39 : decode cX6_hanging 39 = .ok (.if_icmp .ne 50, 3) := by decide +kernel
theorem dX6_hanging_42 : decode cX6_hanging 42 = .ok (.iload_n 2, 1) := by decide +kernel
theorem dX6_hanging_43 : decode cX6_hanging 43 = .ok (.iload 5, 2) := by decide +kernel
theorem dX6_hanging_45 : decode cX6_hanging 45 = .ok (.ishr, 1) := by decide +kernel
theorem dX6_hanging_46 : decode cX6_hanging 46 = .ok (.iconst 1, 1) := by decide +kernel
theorem dX6_hanging_47 : decode cX6_hanging 47 = .ok (.iand, 1) := by decide +kernel
theorem dX6_hanging_48 : decode cX6_hanging 48 = .ok (.ifCond .ne 41, 3) := by decide +kernel
theorem dX6_hanging_51 : decode cX6_hanging 51 = .ok (.aload_n 0, 1) := by decide +kernel
theorem dX6_hanging_52 : decode cX6_hanging 52 = .ok (.iload 4, 2) := by decide +kernel
theorem dX6_hanging_54 : decode cX6_hanging 54 = .ok (.invokevirtual 166, 3) := by decide +kernel
theorem dX6_hanging_57 : decode cX6_hanging 57 = .ok (.ifCond .eq 32, 3) := by decide +kernel
theorem dX6_hanging_60 : decode cX6_hanging 60 = .ok (.aload_n 0, 1) := by decide +kernel
theorem dX6_hanging_61 : decode cX6_hanging 61 = .ok (.iload 5, 2) := by decide +kernel
theorem dX6_hanging_63 : decode cX6_hanging 63 = .ok (.invokevirtual 166, 3) := by decide +kernel
theorem dX6_hanging_66 : decode cX6_hanging 66 = .ok (.ifCond .eq 23, 3) := by decide +kernel
theorem dX6_hanging_69 : decode cX6_hanging 69 = .ok (.aload_n 0, 1) := by decide +kernel
theorem dX6_hanging_70 : decode cX6_hanging 70 = .ok (.iload 5, 2) := by decide +kernel
theorem dX6_hanging_72 : decode cX6_hanging 72 = .ok (.iload 4, 2) := by decide +kernel
theorem dX6_hanging_74 : decode cX6_hanging 74 = .ok (.invokevirtual 170, 3) := by decide +kernel
theorem dX6_hanging_77 : decode cX6_hanging 77 = .ok (.ifCond .eq 12, 3) := by decide +kernel
theorem dX6_hanging_80 : decode cX6_hanging 80 = .ok (.iload_n 2, 1) := by decide +kernel
theorem dX6_hanging_81 : decode cX6_hanging 81 = .ok (.iconst 1, 1) := by decide +kernel
theorem dX6_hanging_82 : decode cX6_hanging 82 = .ok (.iload 5, 2) := by decide +kernel
theorem dX6_hanging_84 : decode cX6_hanging 84 = .ok (.ishl, 1) := by decide +kernel
theorem dX6_hanging_85 : decode cX6_hanging 85 = .ok (.iadd, 1) := by decide +kernel
theorem dX6_hanging_86 : decode cX6_hanging 86 = .ok (.istore_n 2, 1) := by decide +kernel
theorem dX6_hanging_87 : decode cX6_hanging 87 = .ok (.iconst 1, 1) := by decide +kernel
theorem dX6_hanging_88 : decode cX6_hanging 88 = .ok (.istore_n 3, 1) := by decide +kernel
theorem dX6_hanging_89 : decode cX6_hanging 89 = .ok (.iinc 5 1, 3) := by decide +kernel
theorem dX6_hanging_92 : decode cX6_hanging 92 = .ok (.goto (-67), 3) := by decide +kernel
theorem dX6_hanging_95 : decode cX6_hanging 95 = .ok (.iinc 4 1, 3) := by decide +kernel
theorem dX6_hanging_98 : decode cX6_hanging 98 = .ok (.goto (-83), 3) := by decide +kernel
theorem dX6_hanging_101 : decode cX6_hanging 101 = .ok (.goto (-95), 3) := by decide +kernel
theorem dX6_hanging_104 : decode cX6_hanging 104 = .ok (.iload_n 2, 1) := by decide +kernel
theorem dX6_hanging_105 : decode cX6_hanging 105 = .ok (.ireturn, 1) := by decide +kernel
theorem dX6_gather_0 : decode cX6_gather 0 = .ok (.iload_n 1, 1) := by decide +kernel
theorem dX6_gather_1 : decode cX6_gather 1 = .ok (.i2l, 1) := by decide +kernel
theorem dX6_gather_2 : decode cX6_gather 2 = .ok (.invokestatic 159, 3) := by decide +kernel
theorem dX6_gather_5 : decode cX6_gather 5 = .ok (.ifCond .ne 5, 3) := by decide +kernel
theorem dX6_gather_8 : decode cX6_gather 8 = .ok (.iconst (-1), 1) := by decide +kernel
theorem dX6_gather_9 : decode cX6_gather 9 = .ok (.ireturn, 1) := by decide +kernel
theorem dX6_gather_10 : decode cX6_gather 10 = .ok (.aload_n 0, 1) := by decide +kernel
theorem dX6_gather_11 : decode cX6_gather 11 = .ok (.getfield 7, 3) := by decide +kernel
theorem dX6_gather_14 : decode cX6_gather 14 = .ok (.iload_n 1, 1) := by decide +kernel
theorem dX6_gather_15 : decode cX6_gather 15 = .ok (.iaload, 1) := by decide +kernel
theorem dX6_gather_16 : decode cX6_gather 16 = .ok (.ifCond .ge 6, 3) := by decide +kernel
theorem dX6_gather_19 : decode cX6_gather 19 = .ok (.bipush (-5), 2) := by decide +kernel
theorem dX6_gather_21 : decode cX6_gather 21 = .ok (.ireturn, 1) := by decide +kernel
theorem dX6_gather_22 : decode cX6_gather 22 = .ok (.aload_n 0, 1) := by decide +kernel
theorem dX6_gather_23 : decode cX6_gather 23 = .ok (.iload_n 1, 1) := by decide +kernel
theorem dX6_gather_24 : decode cX6_gather 24 = .ok (.invokevirtual 176, 3) := by decide +kernel
theorem dX6_gather_27 : decode cX6_gather 27 = .ok (.istore_n 2, 1) := by decide +kernel
theorem dX6_gather_28 : decode cX6_gather 28 = .ok (.iconst 0, 1) := by decide +kernel
theorem dX6_gather_29 : decode cX6_gather 29 = .ok (.istore_n 3, 1) := by decide +kernel
theorem dX6_gather_30 : decode cX6_gather 30 = .ok (.iconst 0, 1) := by decide +kernel
theorem dX6_gather_31 : decode cX6_gather 31 = .ok (.istore 4, 2) := by decide +kernel
theorem dX6_gather_33 : decode cX6_gather 33 = .ok (.iload 4, 2) := by decide +kernel
theorem dX6_gather_35 : decode cX6_gather 35 = .ok (.bipush 12, 2) := by decide +kernel
theorem dX6_gather_37 : decode cX6_gather 37 = .ok (.if_icmp .ge 39, 3) := by decide +kernel
theorem dX6_gather_40 : decode cX6_gather 40 = .ok (.aload_n 0, 1) := by decide +kernel
theorem dX6_gather_41 : decode cX6_gather 41 = .ok (.getfield 7, 3) := by decide +kernel
theorem dX6_gather_44 : decode cX6_gather 44 = .ok (.iload 4, 2) := by decide +kernel
theorem dX6_gather_46 : decode cX6_gather 46 = .ok (.iaload, 1) := by decide +kernel
theorem dX6_gather_47 : decode cX6_gather 47 = .ok (.ifCond .lt 23, 3) := by decide +kernel
theorem dX6_gather_50 : decode cX6_gather 50 = .ok (.iload_n 2, 1) := by decide +kernel
theorem dX6_gather_51 : decode cX6_gather 51 = .ok (.iload 4, 2) := by decide +kernel
theorem dX6_gather_53 : decode cX6_gather 53 = .ok (.ishr, 1) := by decide +kernel
theorem dX6_gather_54 : decode cX6_gather 54 = .ok (.iconst 1, 1) := by decide +kernel
theorem dX6_gather_55 : decode cX6_gather 55 = .ok (.iand, 1) := by decide +kernel
theorem dX6_gather_56 : decode cX6_gather 56 = .ok (.ifCond .ne 14, 3) := by decide +kernel
theorem dX6_gather_59 : decode cX6_gather 59 = .ok (.aload_n 0, 1) := by decide +kernel
theorem dX6_gather_60 : decode cX6_gather 60 = .ok (.getfield 7, 3) := by decide +kernel
theorem dX6_gather_63 : decode cX6_gather 63 = .ok (.iload 4, 2) := by decide +kernel
theorem dX6_gather_65 : decode cX6_gather 65 = .ok (.iconst (-1), 1) := by decide +kernel
theorem dX6_gather_66 : decode cX6_gather 66 = .ok (.iastore, 1) := by decide +kernel
theorem dX6_gather_67 : decode cX6_gather 67 = .ok (.iinc 3 1, 3) := by decide +kernel
theorem dX6_gather_70 : decode cX6_gather 70 = .ok (.iinc 4 1, 3) := by decide +kernel
theorem dX6_gather_73 : decode cX6_gather 73 = .ok (.goto (-40), 3) := by decide +kernel
theorem dX6_gather_76 : decode cX6_gather 76 = .ok (.iload_n 3, 1) := by decide +kernel
theorem dX6_gather_77 : decode cX6_gather 77 = .ok (.ireturn, 1) := by decide +kernel
theorem dX6_copies_0 : decode cX6_copies 0 = .ok (.iconst 0, 1) := by decide +kernel
theorem dX6_copies_1 : decode cX6_copies 1 = .ok (.istore_n 3, 1) := by decide +kernel
theorem dX6_copies_2 : decode cX6_copies 2 = .ok (.iload_n 3, 1) := by decide +kernel
theorem dX6_copies_3 : decode cX6_copies 3 = .ok (.aload_n 0, 1) := by decide +kernel
theorem dX6_copies_4 : decode cX6_copies 4 = .ok (.getfield 13, 3) := by decide +kernel
theorem dX6_copies_7 : decode cX6_copies 7 = .ok (.iload_n 1, 1) := by decide +kernel
theorem dX6_copies_8 : decode cX6_copies 8 = .ok (.iaload, 1) := by decide +kernel
theorem dX6_copies_9 : decode cX6_copies 9 = .ok (.if_icmp .ge 53, 3) := by decide +kernel
theorem dX6_copies_12 : decode cX6_copies 12 = .ok (.aload_n 0, 1) := by decide +kernel
theorem dX6_copies_13 : decode cX6_copies 13 = .ok (.getfield 20, 3) := by decide +kernel
theorem dX6_copies_16 : decode cX6_copies 16 = .ok (.bipush 12, 2) := by decide +kernel
theorem dX6_copies_18 : decode cX6_copies 18 = .ok (.iload_n 2, 1) := by decide +kernel
theorem dX6_copies_19 : decode cX6_copies 19 = .ok (.imul, 1) := by decide +kernel
theorem dX6_copies_20 : decode cX6_copies 20 = .ok (.iload_n 3, 1) := by decide +kernel
theorem dX6_copies_21 : decode cX6_copies 21 = .ok (.iadd, 1) := by decide +kernel
theorem dX6_copies_22 : decode cX6_copies 22 = .ok (.aload_n 0, 1) := by decide +kernel
theorem dX6_copies_23 : decode cX6_copies 23 = .ok (.getfield 20, 3) := by decide +kernel
theorem dX6_copies_26 : decode cX6_copies 26 = .ok (.bipush 12, 2) := by decide +kernel
theorem dX6_copies_28 : decode cX6_copies 28 = .ok (.iload_n 1, 1) := by decide +kernel
theorem dX6_copies_29 : decode cX6_copies 29 = .ok (.imul, 1) := by decide +kernel
theorem dX6_copies_30 : decode cX6_copies 30 = .ok (.iload_n 3, 1) := by decide +kernel
theorem dX6_copies_31 : decode cX6_copies 31 = .ok (.iadd, 1) := by decide +kernel
theorem dX6_copies_32 : decode cX6_copies 32 = .ok (.iaload, 1) := by decide +kernel
theorem dX6_copies_33 : decode cX6_copies 33 = .ok (.iastore, 1) := by decide +kernel
theorem dX6_copies_34 : decode cX6_copies 34 = .ok (.aload_n 0, 1) := by decide +kernel
theorem dX6_copies_35 : decode cX6_copies 35 = .ok (.getfield 23, 3) := by decide +kernel
theorem dX6_copies_38 : decode cX6_copies 38 = .ok (.bipush 12, 2) := by decide +kernel
theorem dX6_copies_40 : decode cX6_copies 40 = .ok (.iload_n 2, 1) := by decide +kernel
theorem dX6_copies_41 : decode cX6_copies 41 = .ok (.imul, 1) := by decide +kernel
theorem dX6_copies_42 : decode cX6_copies 42 = .ok (.iload_n 3, 1) := by decide +kernel
theorem dX6_copies_43 : decode cX6_copies 43 = .ok (.iadd, 1) := by decide +kernel
theorem dX6_copies_44 : decode cX6_copies 44 = .ok (.aload_n 0, 1) := by decide +kernel
theorem dX6_copies_45 : decode cX6_copies 45 = .ok (.getfield 23, 3) := by decide +kernel
theorem dX6_copies_48 : decode cX6_copies 48 = .ok (.bipush 12, 2) := by decide +kernel
theorem dX6_copies_50 : decode cX6_copies 50 = .ok (.iload_n 1, 1) := by decide +kernel
theorem dX6_copies_51 : decode cX6_copies 51 = .ok (.imul, 1) := by decide +kernel
theorem dX6_copies_52 : decode cX6_copies 52 = .ok (.iload_n 3, 1) := by decide +kernel
theorem dX6_copies_53 : decode cX6_copies 53 = .ok (.iadd, 1) := by decide +kernel
theorem dX6_copies_54 : decode cX6_copies 54 = .ok (.laload, 1) := by decide +kernel
theorem dX6_copies_55 : decode cX6_copies 55 = .ok (.lastore, 1) := by decide +kernel
theorem dX6_copies_56 : decode cX6_copies 56 = .ok (.iinc 3 1, 3) := by decide +kernel
theorem dX6_copies_59 : decode cX6_copies 59 = .ok (.goto (-57), 3) := by decide +kernel
theorem dX6_copies_62 : decode cX6_copies 62 = .ok (.return_, 1) := by decide +kernel
theorem dX6_copyOf_0 : decode cX6_copyOf 0 = .ok (.iload_n 1, 1) := by decide +kernel
theorem dX6_copyOf_1 : decode cX6_copyOf 1 = .ok (.i2l, 1) := by decide +kernel
theorem dX6_copyOf_2 : decode cX6_copyOf 2 = .ok (.invokestatic 159, 3) := by decide +kernel
theorem dX6_copyOf_5 : decode cX6_copyOf 5 = .ok (.ifCond .ne 5, 3) := by decide +kernel
theorem dX6_copyOf_8 : decode cX6_copyOf 8 = .ok (.iconst (-1), 1) := by decide +kernel
theorem dX6_copyOf_9 : decode cX6_copyOf 9 = .ok (.ireturn, 1) := by decide +kernel
theorem dX6_copyOf_10 : decode cX6_copyOf 10 = .ok (.aload_n 0, 1) := by decide +kernel
theorem dX6_copyOf_11 : decode cX6_copyOf 11 = .ok (.iload_n 1, 1) := by decide +kernel
theorem dX6_copyOf_12 : decode cX6_copyOf 12 = .ok (.invokevirtual 162, 3) := by decide +kernel
theorem dX6_copyOf_15 : decode cX6_copyOf 15 = .ok (.istore_n 2, 1) := by decide +kernel
theorem dX6_copyOf_16 : decode cX6_copyOf 16 = .ok (.iload_n 2, 1) := by decide +kernel
theorem dX6_copyOf_17 : decode cX6_copyOf 17 = .ok (.ifCond .ge 5, 3) := by decide +kernel
theorem dX6_copyOf_20 : decode cX6_copyOf 20 = .ok (.iload_n 2, 1) := by decide +kernel
theorem dX6_copyOf_21 : decode cX6_copyOf 21 = .ok (.ireturn, 1) := by decide +kernel
theorem dX6_copyOf_22 : decode cX6_copyOf 22 = .ok (.aload_n 0, 1) := by decide +kernel
theorem dX6_copyOf_23 : decode cX6_copyOf 23 = .ok (.invokevirtual 151, 3) := by decide +kernel
theorem dX6_copyOf_26 : decode cX6_copyOf 26 = .ok (.istore_n 3, 1) := by decide +kernel
theorem dX6_copyOf_27 : decode cX6_copyOf 27 = .ok (.iload_n 3, 1) := by decide +kernel
theorem dX6_copyOf_28 : decode cX6_copyOf 28 = .ok (.ifCond .ge 6, 3) := by decide +kernel
theorem dX6_copyOf_31 : decode cX6_copyOf 31 = .ok (.bipush (-3), 2) := by decide +kernel
theorem dX6_copyOf_33 : decode cX6_copyOf 33 = .ok (.ireturn, 1) := by decide +kernel
theorem dX6_copyOf_34 : decode cX6_copyOf 34 = .ok (.aload_n 0, 1) := by decide +kernel
theorem dX6_copyOf_35 : decode cX6_copyOf 35 = .ok (.iload_n 3, 1) := by decide +kernel
theorem dX6_copyOf_36 : decode cX6_copyOf 36 = .ok (.aload_n 0, 1) := by decide +kernel
theorem dX6_copyOf_37 : decode cX6_copyOf 37 = .ok (.getfield 7, 3) := by decide +kernel
theorem dX6_copyOf_40 : decode cX6_copyOf 40 = .ok (.iload_n 1, 1) := by decide +kernel
theorem dX6_copyOf_41 : decode cX6_copyOf 41 = .ok (.iaload, 1) := by decide +kernel
theorem dX6_copyOf_42 : decode cX6_copyOf 42 = .ok (.aload_n 0, 1) := by decide +kernel
theorem dX6_copyOf_43 : decode cX6_copyOf 43 = .ok (.getfield 13, 3) := by decide +kernel
theorem dX6_copyOf_46 : decode cX6_copyOf 46 = .ok (.iload_n 1, 1) := by decide +kernel
theorem dX6_copyOf_47 : decode cX6_copyOf 47 = .ok (.iaload, 1) := by decide +kernel
theorem dX6_copyOf_48 : decode cX6_copyOf 48 = .ok (.invokevirtual 155, 3) := by decide +kernel
theorem dX6_copyOf_51 : decode cX6_copyOf 51 = .ok (.aload_n 0, 1) := by decide +kernel
theorem dX6_copyOf_52 : decode cX6_copyOf 52 = .ok (.iload_n 1, 1) := by decide +kernel
theorem dX6_copyOf_53 : decode cX6_copyOf 53 = .ok (.iload_n 3, 1) := by decide +kernel
theorem dX6_copyOf_54 : decode cX6_copyOf 54 = .ok (.invokevirtual 179, 3) := by decide +kernel
theorem dX6_copyOf_57 : decode cX6_copyOf 57 = .ok (.iload_n 3, 1) := by decide +kernel
theorem dX6_copyOf_58 : decode cX6_copyOf 58 = .ok (.ireturn, 1) := by decide +kernel
theorem dX6_isPlace_0 : decode cX6_isPlace 0 = .ok (.lload_n 2, 1) := by decide +kernel
theorem dX6_isPlace_1 : decode cX6_isPlace 1 = .ok (.lconst 0, 1) := by decide +kernel
theorem dX6_isPlace_2 : decode cX6_isPlace 2 = .ok (.lcmp, 1) := by decide +kernel
theorem dX6_isPlace_3 : decode cX6_isPlace 3 = .ok (.ifCond .lt 19, 3) := by decide +kernel
theorem dX6_isPlace_6 : decode cX6_isPlace 6 = .ok (.lload_n 2, 1) := by decide +kernel
theorem dX6_isPlace_7 : decode cX6_isPlace 7 = .ok (.aload_n 0, 1) := by decide +kernel
theorem dX6_isPlace_8 : decode cX6_isPlace 8 = .ok (.getfield 13, 3) := by decide +kernel
theorem dX6_isPlace_11 : decode cX6_isPlace 11 = .ok (.iload_n 1, 1) := by decide +kernel
theorem dX6_isPlace_12 : decode cX6_isPlace 12 = .ok (.iaload, 1) := by decide +kernel
theorem dX6_isPlace_13 : decode cX6_isPlace 13 = .ok (.i2l, 1) := by decide +kernel
theorem dX6_isPlace_14 : decode cX6_isPlace 14 = .ok (.lcmp, 1) := by decide +kernel
theorem dX6_isPlace_15 : decode cX6_isPlace 15 = .ok (.ifCond .ge 7, 3) := by decide +kernel
theorem dX6_isPlace_18 : decode cX6_isPlace 18 = .ok (.iconst 1, 1) := by decide +kernel
theorem dX6_isPlace_19 : decode cX6_isPlace 19 = .ok (.goto 4, 3) := by decide +kernel
theorem dX6_isPlace_22 : decode cX6_isPlace 22 = .ok (.iconst 0, 1) := by decide +kernel
theorem dX6_isPlace_23 : decode cX6_isPlace 23 = .ok (.ireturn, 1) := by decide +kernel
theorem dX6_refusalOfGet_0 : decode cX6_refusalOfGet 0 = .ok (.aload_n 0, 1) := by decide +kernel
theorem dX6_refusalOfGet_1 : decode cX6_refusalOfGet 1 = .ok (.iload_n 1, 1) := by decide +kernel
theorem dX6_refusalOfGet_2 : decode cX6_refusalOfGet 2 = .ok (.invokevirtual 162, 3) := by decide +kernel
theorem dX6_refusalOfGet_5 : decode cX6_refusalOfGet 5 = .ok (.istore 4, 2) := by decide +kernel
theorem dX6_refusalOfGet_7 : decode cX6_refusalOfGet 7 = .ok (.iload 4, 2) := by decide +kernel
theorem dX6_refusalOfGet_9 : decode cX6_refusalOfGet 9 = .ok (.ifCond .ge 6, 3) := by decide +kernel
theorem dX6_refusalOfGet_12 : decode cX6_refusalOfGet 12 = .ok (.iload 4, 2) := by decide +kernel
theorem dX6_refusalOfGet_14 : decode cX6_refusalOfGet 14 = .ok (.ireturn, 1) := by decide +kernel
theorem dX6_refusalOfGet_15 : decode cX6_refusalOfGet 15 = .ok (.aload_n 0, 1) := by decide +kernel
theorem dX6_refusalOfGet_16 : decode cX6_refusalOfGet 16 = .ok (.iload_n 1, 1) := by decide +kernel
theorem dX6_refusalOfGet_17 : decode cX6_refusalOfGet 17 = .ok (.invokevirtual 183, 3) := by decide +kernel
theorem dX6_refusalOfGet_20 : decode cX6_refusalOfGet 20 = .ok (.ifCond .ne 6, 3) := by decide +kernel
theorem dX6_refusalOfGet_23 : decode cX6_refusalOfGet 23 = .ok (.bipush (-7), 2) := by decide +kernel
theorem dX6_refusalOfGet_25 : decode cX6_refusalOfGet 25 = .ok (.ireturn, 1) := by decide +kernel
theorem dX6_refusalOfGet_26 : decode cX6_refusalOfGet 26 = .ok (.aload_n 0, 1) := by decide +kernel
theorem dX6_refusalOfGet_27 : decode cX6_refusalOfGet 27 = .ok (.iload_n 1, 1) := by decide +kernel
theorem dX6_refusalOfGet_28 : decode cX6_refusalOfGet 28 = .ok (.iload_n 3, 1) := by decide +kernel
theorem dX6_refusalOfGet_29 : decode cX6_refusalOfGet 29 = .ok (.i2l, 1) := by decide +kernel
theorem dX6_refusalOfGet_30 : decode cX6_refusalOfGet 30 = .ok (.invokevirtual 186, 3) := by decide +kernel
theorem dX6_refusalOfGet_33 : decode cX6_refusalOfGet 33 = .ok (.ifCond .ne 6, 3) := by decide +kernel
theorem dX6_refusalOfGet_36 : decode cX6_refusalOfGet 36 = .ok (.bipush (-8), 2) := by decide +kernel
theorem dX6_refusalOfGet_38 : decode cX6_refusalOfGet 38 = .ok (.ireturn, 1) := by decide +kernel
theorem dX6_refusalOfGet_39 : decode cX6_refusalOfGet 39 = .ok (.aload_n 0, 1) := by decide +kernel
theorem dX6_refusalOfGet_40 : decode cX6_refusalOfGet 40 = .ok (.getfield 7, 3) := by decide +kernel
theorem dX6_refusalOfGet_43 : decode cX6_refusalOfGet 43 = .ok (.iload_n 1, 1) := by decide +kernel
theorem dX6_refusalOfGet_44 : decode cX6_refusalOfGet 44 = .ok (.iaload, 1) := by decide +kernel
theorem dX6_refusalOfGet_45 : decode cX6_refusalOfGet 45 = .ok (.iload_n 2, 1) := by decide +kernel
theorem dX6_refusalOfGet_46 : decode cX6_refusalOfGet 46 = .ok (.invokestatic 128, 3) := by decide +kernel
theorem dX6_refusalOfGet_49 : decode cX6_refusalOfGet 49 = .ok (.ifCond .eq 7, 3) := by decide +kernel
theorem dX6_refusalOfGet_52 : decode cX6_refusalOfGet 52 = .ok (.iconst 0, 1) := by decide +kernel
theorem dX6_refusalOfGet_53 : decode cX6_refusalOfGet 53 = .ok (.goto 5, 3) := by decide +kernel
theorem dX6_refusalOfGet_56 : decode cX6_refusalOfGet 56 = .ok (.bipush (-9), 2) := by decide +kernel
theorem dX6_refusalOfGet_58 : decode cX6_refusalOfGet 58 = .ok (.ireturn, 1) := by decide +kernel
theorem dX6_get_0 : decode cX6_get 0 = .ok (.iload_n 1, 1) := by decide +kernel
theorem dX6_get_1 : decode cX6_get 1 = .ok (.i2l, 1) := by decide +kernel
theorem dX6_get_2 : decode cX6_get 2 = .ok (.invokestatic 159, 3) := by decide +kernel
theorem dX6_get_5 : decode cX6_get 5 = .ok (.ifCond .eq 15, 3) := by decide +kernel
theorem dX6_get_8 : decode cX6_get 8 = .ok (.iload_n 2, 1) := by decide +kernel
theorem dX6_get_9 : decode cX6_get 9 = .ok (.i2l, 1) := by decide +kernel
theorem dX6_get_10 : decode cX6_get 10 = .ok (.lconst 0, 1) := by decide +kernel
theorem dX6_get_11 : decode cX6_get 11 = .ok (.ldc2_w 190, 3) := by decide +kernel
theorem dX6_get_14 : decode cX6_get 14 = .ok (.invokestatic 73, 3) := by decide +kernel
theorem dX6_get_17 : decode cX6_get 17 = .ok (.ifCond .ne 12, 3) := by decide +kernel
theorem dX6_get_20 : decode cX6_get 20 = .ok (.aload_n 0, 1) := by decide +kernel
theorem dX6_get_21 : decode cX6_get 21 = .ok (.iconst (-1), 1) := by decide +kernel
theorem dX6_get_22 : decode cX6_get 22 = .ok (.iconst (-1), 1) := by decide +kernel
theorem dX6_get_23 : decode cX6_get 23 = .ok (.invokevirtual 192, 3) := by decide +kernel
theorem dX6_get_26 : decode cX6_get 26 = .ok (.pop, 1) := by decide +kernel
theorem dX6_get_27 : decode cX6_get 27 = .ok (.lconst 0, 1) := by decide +kernel
theorem dX6_get_28 : decode cX6_get 28 = .ok (.lreturn, 1) := by decide +kernel
theorem dX6_get_29 : decode cX6_get 29 = .ok (.aload_n 0, 1) := by decide +kernel
theorem dX6_get_30 : decode cX6_get 30 = .ok (.iload_n 1, 1) := by decide +kernel
theorem dX6_get_31 : decode cX6_get 31 = .ok (.iload_n 2, 1) := by decide +kernel
theorem dX6_get_32 : decode cX6_get 32 = .ok (.iload_n 3, 1) := by decide +kernel
theorem dX6_get_33 : decode cX6_get 33 = .ok (.invokevirtual 196, 3) := by decide +kernel
theorem dX6_get_36 : decode cX6_get 36 = .ok (.istore 4, 2) := by decide +kernel
theorem dX6_get_38 : decode cX6_get 38 = .ok (.aload_n 0, 1) := by decide +kernel
theorem dX6_get_39 : decode cX6_get 39 = .ok (.iload 4, 2) := by decide +kernel
theorem dX6_get_41 : decode cX6_get 41 = .ok (.iconst (-1), 1) := by decide +kernel
theorem dX6_get_42 : decode cX6_get 42 = .ok (.invokevirtual 192, 3) := by decide +kernel
theorem dX6_get_45 : decode cX6_get 45 = .ok (.pop, 1) := by decide +kernel
theorem dX6_get_46 : decode cX6_get 46 = .ok (.iload 4, 2) := by decide +kernel
theorem dX6_get_48 : decode cX6_get 48 = .ok (.ifCond .ge 12, 3) := by decide +kernel
theorem dX6_get_51 : decode cX6_get 51 = .ok (.aload_n 0, 1) := by decide +kernel
theorem dX6_get_52 : decode cX6_get 52 = .ok (.iload 4, 2) := by decide +kernel
theorem dX6_get_54 : decode cX6_get 54 = .ok (.invokevirtual 200, 3) := by decide +kernel
theorem dX6_get_57 : decode cX6_get 57 = .ok (.pop, 1) := by decide +kernel
theorem dX6_get_58 : decode cX6_get 58 = .ok (.lconst 0, 1) := by decide +kernel
theorem dX6_get_59 : decode cX6_get 59 = .ok (.lreturn, 1) := by decide +kernel
theorem dX6_get_60 : decode cX6_get 60 = .ok (.aload_n 0, 1) := by decide +kernel
theorem dX6_get_61 : decode cX6_get 61 = .ok (.getfield 7, 3) := by decide +kernel
theorem dX6_get_64 : decode cX6_get 64 = .ok (.iload_n 1, 1) := by decide +kernel
theorem dX6_get_65 : decode cX6_get 65 = .ok (.iaload, 1) := by decide +kernel
theorem dX6_get_66 : decode cX6_get 66 = .ok (.aload_n 0, 1) := by decide +kernel
theorem dX6_get_67 : decode cX6_get 67 = .ok (.getfield 23, 3) := by decide +kernel
theorem dX6_get_70 : decode cX6_get 70 = .ok (.bipush 12, 2) := by decide +kernel
theorem dX6_get_72 : decode cX6_get 72 = .ok (.iload_n 1, 1) := by decide +kernel
theorem dX6_get_73 : decode cX6_get 73 = .ok (.imul, 1) := by decide +kernel
theorem dX6_get_74 : decode cX6_get 74 = .ok (.iload_n 3, 1) := by decide +kernel
theorem dX6_get_75 : decode cX6_get 75 = .ok (.iadd, 1) := by decide +kernel
theorem dX6_get_76 : decode cX6_get 76 = .ok (.laload, 1) := by decide +kernel
theorem dX6_get_77 : decode cX6_get 77 = .ok (.iload_n 2, 1) := by decide +kernel
theorem dX6_get_78 : decode cX6_get 78 = .ok (.invokestatic 132, 3) := by decide +kernel
theorem dX6_get_81 : decode cX6_get 81 = .ok (.lreturn, 1) := by decide +kernel
theorem dX6_set_0 : decode cX6_set 0 = .ok (.iload_n 1, 1) := by decide +kernel
theorem dX6_set_1 : decode cX6_set 1 = .ok (.i2l, 1) := by decide +kernel
theorem dX6_set_2 : decode cX6_set 2 = .ok (.invokestatic 159, 3) := by decide +kernel
theorem dX6_set_5 : decode cX6_set 5 = .ok (.ifCond .eq 24, 3) := by decide +kernel
theorem dX6_set_8 : decode cX6_set 8 = .ok (.iload_n 2, 1) := by decide +kernel
theorem dX6_set_9 : decode cX6_set 9 = .ok (.i2l, 1) := by decide +kernel
theorem dX6_set_10 : decode cX6_set 10 = .ok (.lconst 0, 1) := by decide +kernel
theorem dX6_set_11 : decode cX6_set 11 = .ok (.ldc2_w 190, 3) := by decide +kernel
theorem dX6_set_14 : decode cX6_set 14 = .ok (.invokestatic 73, 3) := by decide +kernel
theorem dX6_set_17 : decode cX6_set 17 = .ok (.ifCond .eq 12, 3) := by decide +kernel
theorem dX6_set_20 : decode cX6_set 20 = .ok (.iload_n 2, 1) := by decide +kernel
theorem dX6_set_21 : decode cX6_set 21 = .ok (.lload 4, 2) := by decide +kernel
theorem dX6_set_23 : decode cX6_set 23 = .ok (.invokestatic 203, 3) := by decide +kernel
theorem dX6_set_26 : decode cX6_set 26 = .ok (.ifCond .ne 5, 3) := by decide +kernel
theorem dX6_set_29 : decode cX6_set 29 = .ok (.iconst (-1), 1) := by decide +kernel
theorem dX6_set_30 : decode cX6_set 30 = .ok (.ireturn, 1) := by decide +kernel
theorem dX6_set_31 : decode cX6_set 31 = .ok (.aload_n 0, 1) := by decide +kernel
theorem dX6_set_32 : decode cX6_set 32 = .ok (.iload_n 1, 1) := by decide +kernel
theorem dX6_set_33 : decode cX6_set 33 = .ok (.invokevirtual 162, 3) := by decide +kernel
theorem dX6_set_36 : decode cX6_set 36 = .ok (.istore 6, 2) := by decide +kernel
theorem dX6_set_38 : decode cX6_set 38 = .ok (.iload 6, 2) := by decide +kernel
theorem dX6_set_40 : decode cX6_set 40 = .ok (.ifCond .ne 52, 3) := by decide +kernel
theorem dX6_set_43 : decode cX6_set 43 = .ok (.aload_n 0, 1) := by decide +kernel
theorem dX6_set_44 : decode cX6_set 44 = .ok (.iload_n 1, 1) := by decide +kernel
theorem dX6_set_45 : decode cX6_set 45 = .ok (.invokevirtual 183, 3) := by decide +kernel
theorem dX6_set_48 : decode cX6_set 48 = .ok (.ifCond .ne 8, 3) := by decide +kernel
theorem dX6_set_51 : decode cX6_set 51 = .ok (.bipush (-7), 2) := by decide +kernel
theorem dX6_set_53 : decode cX6_set 53 = .ok (.goto 37, 3) := by decide +kernel
theorem dX6_set_56 : decode cX6_set 56 = .ok (.aload_n 0, 1) := by decide +kernel
theorem dX6_set_57 : decode cX6_set 57 = .ok (.iload_n 1, 1) := by decide +kernel
theorem dX6_set_58 : decode cX6_set 58 = .ok (.iload_n 3, 1) := by decide +kernel
theorem dX6_set_59 : decode cX6_set 59 = .ok (.i2l, 1) := by decide +kernel
theorem dX6_set_60 : decode cX6_set 60 = .ok (.invokevirtual 186, 3) := by decide +kernel
theorem dX6_set_63 : decode cX6_set 63 = .ok (.ifCond .ne 8, 3) := by decide +kernel
theorem dX6_set_66 : decode cX6_set 66 = .ok (.bipush (-8), 2) := by decide +kernel
theorem dX6_set_68 : decode cX6_set 68 = .ok (.goto 22, 3) := by decide +kernel
theorem dX6_set_71 : decode cX6_set 71 = .ok (.iload_n 2, 1) := by decide +kernel
theorem dX6_set_72 : decode cX6_set 72 = .ok (.aload_n 0, 1) := by decide +kernel
theorem dX6_set_73 : decode cX6_set 73 = .ok (.getfield 7, 3) := by decide +kernel
theorem dX6_set_76 : decode cX6_set 76 = .ok (.iload_n 1, 1) := by decide +kernel
theorem dX6_set_77 : decode cX6_set 77 = .ok (.iaload, 1) := by decide +kernel
theorem dX6_set_78 : decode cX6_set 78 = .ok (.invokestatic 128, 3) := by decide +kernel
theorem dX6_set_81 : decode cX6_set 81 = .ok (.ifCond .eq 7, 3) := by decide +kernel
theorem dX6_set_84 : decode cX6_set 84 = .ok (.iconst 0, 1) := by decide +kernel
theorem dX6_set_85 : decode cX6_set 85 = .ok (.goto 5, 3) := by decide +kernel
theorem dX6_set_88 : decode cX6_set 88 = .ok (.bipush (-9), 2) := by decide +kernel
theorem dX6_set_90 : decode cX6_set 90 = .ok (.istore 6, 2) := by decide +kernel
theorem dX6_set_92 : decode cX6_set 92 = .ok (.iload 6, 2) := by decide +kernel
theorem dX6_set_94 : decode cX6_set 94 = .ok (.ifCond .ge 10, 3) := by decide +kernel
theorem dX6_set_97 : decode cX6_set 97 = .ok (.aload_n 0, 1) := by decide +kernel
theorem dX6_set_98 : decode cX6_set 98 = .ok (.iload 6, 2) := by decide +kernel
theorem dX6_set_100 : decode cX6_set 100 = .ok (.invokevirtual 200, 3) := by decide +kernel
theorem dX6_set_103 : decode cX6_set 103 = .ok (.ireturn, 1) := by decide +kernel
theorem dX6_set_104 : decode cX6_set 104 = .ok (.aload_n 0, 1) := by decide +kernel
theorem dX6_set_105 : decode cX6_set 105 = .ok (.getfield 23, 3) := by decide +kernel
theorem dX6_set_108 : decode cX6_set 108 = .ok (.bipush 12, 2) := by decide +kernel
theorem dX6_set_110 : decode cX6_set 110 = .ok (.iload_n 1, 1) := by decide +kernel
theorem dX6_set_111 : decode cX6_set 111 = .ok (.imul, 1) := by decide +kernel
theorem dX6_set_112 : decode cX6_set 112 = .ok (.iload_n 3, 1) := by decide +kernel
theorem dX6_set_113 : decode cX6_set 113 = .ok (.iadd, 1) := by decide +kernel
theorem dX6_set_114 : decode cX6_set 114 = .ok (.iload_n 2, 1) := by decide +kernel
theorem dX6_set_115 : decode cX6_set 115 = .ok (.iload_n 2, 1) := by decide +kernel
theorem dX6_set_116 : decode cX6_set 116 = .ok (.lload 4, 2) := by decide +kernel
theorem dX6_set_118 : decode cX6_set 118 = .ok (.invokestatic 206, 3) := by decide +kernel
theorem dX6_set_121 : decode cX6_set 121 = .ok (.aload_n 0, 1) := by decide +kernel
theorem dX6_set_122 : decode cX6_set 122 = .ok (.getfield 7, 3) := by decide +kernel
theorem dX6_set_125 : decode cX6_set 125 = .ok (.iload_n 1, 1) := by decide +kernel
theorem dX6_set_126 : decode cX6_set 126 = .ok (.iaload, 1) := by decide +kernel
theorem dX6_set_127 : decode cX6_set 127 = .ok (.invokestatic 132, 3) := by decide +kernel
theorem dX6_set_130 : decode cX6_set 130 = .ok (.lastore, 1) := by decide +kernel
theorem dX6_set_131 : decode cX6_set 131 = .ok (.iconst 0, 1) := by decide +kernel
theorem dX6_set_132 : decode cX6_set 132 = .ok (.ireturn, 1) := by decide +kernel
theorem dX6_usable_0 : decode cX6_usable 0 = .ok (.iload_n 1, 1) := by decide +kernel
theorem dX6_usable_1 : decode cX6_usable 1 = .ok (.i2l, 1) := by decide +kernel
theorem dX6_usable_2 : decode cX6_usable 2 = .ok (.invokestatic 159, 3) := by decide +kernel
theorem dX6_usable_5 : decode cX6_usable 5 = .ok (.ifCond .eq 13, 3) := by decide +kernel
theorem dX6_usable_8 : decode cX6_usable 8 = .ok (.iload_n 3, 1) := by decide +kernel
theorem dX6_usable_9 : decode cX6_usable 9 = .ok (.i2l, 1) := by decide +kernel
theorem dX6_usable_10 : decode cX6_usable 10 = .ok (.lconst 0, 1) := by decide +kernel
theorem dX6_usable_11 : decode cX6_usable 11 = .ok (.lconst 1, 1) := by decide +kernel
theorem dX6_usable_12 : decode cX6_usable 12 = .ok (.invokestatic 73, 3) := by decide +kernel
theorem dX6_usable_15 : decode cX6_usable 15 = .ok (.ifCond .ne 5, 3) := by decide +kernel
theorem dX6_usable_18 : decode cX6_usable 18 = .ok (.iconst (-1), 1) := by decide +kernel
theorem dX6_usable_19 : decode cX6_usable 19 = .ok (.ireturn, 1) := by decide +kernel
theorem dX6_usable_20 : decode cX6_usable 20 = .ok (.aload_n 0, 1) := by decide +kernel
theorem dX6_usable_21 : decode cX6_usable 21 = .ok (.iload_n 1, 1) := by decide +kernel
theorem dX6_usable_22 : decode cX6_usable 22 = .ok (.invokevirtual 162, 3) := by decide +kernel
theorem dX6_usable_25 : decode cX6_usable 25 = .ok (.istore 4, 2) := by decide +kernel
theorem dX6_usable_27 : decode cX6_usable 27 = .ok (.iload 4, 2) := by decide +kernel
theorem dX6_usable_29 : decode cX6_usable 29 = .ok (.ifCond .ge 6, 3) := by decide +kernel
theorem dX6_usable_32 : decode cX6_usable 32 = .ok (.iload 4, 2) := by decide +kernel
theorem dX6_usable_34 : decode cX6_usable 34 = .ok (.ireturn, 1) := by decide +kernel
theorem dX6_usable_35 : decode cX6_usable 35 = .ok (.aload_n 0, 1) := by decide +kernel
theorem dX6_usable_36 : decode cX6_usable 36 = .ok (.iload_n 1, 1) := by decide +kernel
theorem dX6_usable_37 : decode cX6_usable 37 = .ok (.iload_n 2, 1) := by decide +kernel
theorem dX6_usable_38 : decode cX6_usable 38 = .ok (.i2l, 1) := by decide +kernel
theorem dX6_usable_39 : decode cX6_usable 39 = .ok (.invokevirtual 186, 3) := by decide +kernel
theorem dX6_usable_42 : decode cX6_usable 42 = .ok (.ifCond .ne 6, 3) := by decide +kernel
theorem dX6_usable_45 : decode cX6_usable 45 = .ok (.bipush (-8), 2) := by decide +kernel
theorem dX6_usable_47 : decode cX6_usable 47 = .ok (.ireturn, 1) := by decide +kernel
theorem dX6_usable_48 : decode cX6_usable 48 = .ok (.iconst 0, 1) := by decide +kernel
theorem dX6_usable_49 : decode cX6_usable 49 = .ok (.istore 5, 2) := by decide +kernel
theorem dX6_usable_51 : decode cX6_usable 51 = .ok (.iconst 0, 1) := by decide +kernel
theorem dX6_usable_52 : decode cX6_usable 52 = .ok (.istore 6, 2) := by decide +kernel
theorem dX6_usable_54 : decode cX6_usable 54 = .ok (.iload 6, 2) := by decide +kernel
theorem dX6_usable_56 : decode cX6_usable 56 = .ok (.bipush 8, 2) := by decide +kernel
theorem dX6_usable_58 : decode cX6_usable 58 = .ok (.if_icmp .ge 61, 3) := by decide +kernel
theorem dX6_usable_61 : decode cX6_usable 61 = .ok (.aload_n 0, 1) := by decide +kernel
theorem dX6_usable_62 : decode cX6_usable 62 = .ok (.iload_n 1, 1) := by decide +kernel
theorem dX6_usable_63 : decode cX6_usable 63 = .ok (.invokevirtual 183, 3) := by decide +kernel
theorem dX6_usable_66 : decode cX6_usable 66 = .ok (.ifCond .eq 47, 3) := by decide +kernel
theorem dX6_usable_69 : decode cX6_usable 69 = .ok (.iload_n 3, 1) := by decide +kernel
theorem dX6_usable_70 : decode cX6_usable 70 = .ok (.ifCond .ne 20, 3) := by decide +kernel
theorem dX6_usable_73 : decode cX6_usable 73 = .ok (.aload_n 0, 1) := by decide +kernel
theorem dX6_usable_74 : decode cX6_usable 74 = .ok (.getfield 7, 3) := by decide +kernel
theorem dX6_usable_77 : decode cX6_usable 77 = .ok (.iload_n 1, 1) := by decide +kernel
theorem dX6_usable_78 : decode cX6_usable 78 = .ok (.iaload, 1) := by decide +kernel
theorem dX6_usable_79 : decode cX6_usable 79 = .ok (.iload 6, 2) := by decide +kernel
theorem dX6_usable_81 : decode cX6_usable 81 = .ok (.invokestatic 128, 3) := by decide +kernel
theorem dX6_usable_84 : decode cX6_usable 84 = .ok (.ifCond .eq 29, 3) := by decide +kernel
theorem dX6_usable_87 : decode cX6_usable 87 = .ok (.goto 17, 3) := by decide +kernel
theorem dX6_usable_90 : decode cX6_usable 90 = .ok (.iload 6, 2) := by decide +kernel
theorem dX6_usable_92 : decode cX6_usable 92 = .ok (.aload_n 0, 1) := by decide +kernel
theorem dX6_usable_93 : decode cX6_usable 93 = .ok (.getfield 7, 3) := by decide +kernel
theorem dX6_usable_96 : decode cX6_usable 96 = .ok (.iload_n 1, 1) := by decide +kernel
theorem dX6_usable_97 : decode cX6_usable 97 = .ok (.iaload, 1) := by decide +kernel
theorem dX6_usable_98 : decode cX6_usable 98 = .ok (.invokestatic 128, 3) := by decide +kernel
theorem dX6_usable_101 : decode cX6_usable 101 = .ok (.ifCond .eq 12, 3) := by decide +kernel
theorem dX6_usable_104 : decode cX6_usable 104 = .ok (.iload 5, 2) := by decide +kernel
theorem dX6_usable_106 : decode cX6_usable 106 = .ok (.iconst 1, 1) := by decide +kernel
theorem dX6_usable_107 : decode cX6_usable 107 = .ok (.iload 6, 2) := by decide +kernel
theorem dX6_usable_109 : decode cX6_usable 109 = .ok (.ishl, 1) := by decide +kernel
theorem dX6_usable_110 : decode cX6_usable 110 = .ok (.iadd, 1) := by decide +kernel
theorem dX6_usable_111 : decode cX6_usable 111 = .ok (.istore 5, 2) := by decide +kernel
theorem dX6_usable_113 : decode cX6_usable 113 = .ok (.iinc 6 1, 3) := by decide +kernel
theorem dX6_usable_116 : decode cX6_usable 116 = .ok (.goto (-62), 3) := by decide +kernel
theorem dX6_usable_119 : decode cX6_usable 119 = .ok (.iload 5, 2) := by decide +kernel
theorem dX6_usable_121 : decode cX6_usable 121 = .ok (.ireturn, 1) := by decide +kernel
theorem dX6_look_0 : decode cX6_look 0 = .ok (.iload_n 1, 1) := by decide +kernel
theorem dX6_look_1 : decode cX6_look 1 = .ok (.i2l, 1) := by decide +kernel
theorem dX6_look_2 : decode cX6_look 2 = .ok (.invokestatic 159, 3) := by decide +kernel
theorem dX6_look_5 : decode cX6_look 5 = .ok (.ifCond .eq 13, 3) := by decide +kernel
theorem dX6_look_8 : decode cX6_look 8 = .ok (.iload_n 3, 1) := by decide +kernel
theorem dX6_look_9 : decode cX6_look 9 = .ok (.i2l, 1) := by decide +kernel
theorem dX6_look_10 : decode cX6_look 10 = .ok (.lconst 0, 1) := by decide +kernel
theorem dX6_look_11 : decode cX6_look 11 = .ok (.lconst 1, 1) := by decide +kernel
theorem dX6_look_12 : decode cX6_look 12 = .ok (.invokestatic 73, 3) := by decide +kernel
theorem dX6_look_15 : decode cX6_look 15 = .ok (.ifCond .ne 12, 3) := by decide +kernel
theorem dX6_look_18 : decode cX6_look 18 = .ok (.aload_n 0, 1) := by decide +kernel
theorem dX6_look_19 : decode cX6_look 19 = .ok (.iconst (-1), 1) := by decide +kernel
theorem dX6_look_20 : decode cX6_look 20 = .ok (.iconst (-1), 1) := by decide +kernel
theorem dX6_look_21 : decode cX6_look 21 = .ok (.invokevirtual 192, 3) := by decide +kernel
theorem dX6_look_24 : decode cX6_look 24 = .ok (.pop, 1) := by decide +kernel
theorem dX6_look_25 : decode cX6_look 25 = .ok (.lconst 0, 1) := by decide +kernel
theorem dX6_look_26 : decode cX6_look 26 = .ok (.lreturn, 1) := by decide +kernel
theorem dX6_look_27 : decode cX6_look 27 = .ok (.aload_n 0, 1) := by decide +kernel
theorem dX6_look_28 : decode cX6_look 28 = .ok (.iload_n 1, 1) := by decide +kernel
theorem dX6_look_29 : decode cX6_look 29 = .ok (.invokevirtual 162, 3) := by decide +kernel
theorem dX6_look_32 : decode cX6_look 32 = .ok (.istore 4, 2) := by decide +kernel
theorem dX6_look_34 : decode cX6_look 34 = .ok (.iload 4, 2) := by decide +kernel
theorem dX6_look_36 : decode cX6_look 36 = .ok (.ifCond .ne 17, 3) := by decide +kernel
theorem dX6_look_39 : decode cX6_look 39 = .ok (.aload_n 0, 1) := by decide +kernel
theorem dX6_look_40 : decode cX6_look 40 = .ok (.iload_n 1, 1) := by decide +kernel
theorem dX6_look_41 : decode cX6_look 41 = .ok (.iload_n 2, 1) := by decide +kernel
theorem dX6_look_42 : decode cX6_look 42 = .ok (.i2l, 1) := by decide +kernel
theorem dX6_look_43 : decode cX6_look 43 = .ok (.invokevirtual 186, 3) := by decide +kernel
theorem dX6_look_46 : decode cX6_look 46 = .ok (.ifCond .ne 7, 3) := by decide +kernel
theorem dX6_look_49 : decode cX6_look 49 = .ok (.bipush (-8), 2) := by decide +kernel
theorem dX6_look_51 : decode cX6_look 51 = .ok (.istore 4, 2) := by decide +kernel
theorem dX6_look_53 : decode cX6_look 53 = .ok (.aload_n 0, 1) := by decide +kernel
theorem dX6_look_54 : decode cX6_look 54 = .ok (.iload 4, 2) := by decide +kernel
theorem dX6_look_56 : decode cX6_look 56 = .ok (.iconst (-1), 1) := by decide +kernel
theorem dX6_look_57 : decode cX6_look 57 = .ok (.invokevirtual 192, 3) := by decide +kernel
theorem dX6_look_60 : decode cX6_look 60 = .ok (.pop, 1) := by decide +kernel
theorem dX6_look_61 : decode cX6_look 61 = .ok (.iload 4, 2) := by decide +kernel
theorem dX6_look_63 : decode cX6_look 63 = .ok (.ifCond .ge 12, 3) := by decide +kernel
theorem dX6_look_66 : decode cX6_look 66 = .ok (.aload_n 0, 1) := by decide +kernel
theorem dX6_look_67 : decode cX6_look 67 = .ok (.iload 4, 2) := by decide +kernel
theorem dX6_look_69 : decode cX6_look 69 = .ok (.invokevirtual 200, 3) := by decide +kernel
theorem dX6_look_72 : decode cX6_look 72 = .ok (.pop, 1) := by decide +kernel
theorem dX6_look_73 : decode cX6_look 73 = .ok (.lconst 0, 1) := by decide +kernel
theorem dX6_look_74 : decode cX6_look 74 = .ok (.lreturn, 1) := by decide +kernel
theorem dX6_look_75 : decode cX6_look 75 = .ok (.iload_n 3, 1) := by decide +kernel
theorem dX6_look_76 : decode cX6_look 76 = .ok (.ifCond .ne 18, 3) := by decide +kernel
theorem dX6_look_79 : decode cX6_look 79 = .ok (.aload_n 0, 1) := by decide +kernel
theorem dX6_look_80 : decode cX6_look 80 = .ok (.getfield 20, 3) := by decide +kernel
theorem dX6_look_83 : decode cX6_look 83 = .ok (.bipush 12, 2) := by decide +kernel
theorem dX6_look_85 : decode cX6_look 85 = .ok (.iload_n 1, 1) := by decide +kernel
theorem dX6_look_86 : decode cX6_look 86 = .ok (.imul, 1) := by decide +kernel
theorem dX6_look_87 : decode cX6_look 87 = .ok (.iload_n 2, 1) := by decide +kernel
theorem dX6_look_88 : decode cX6_look 88 = .ok (.iadd, 1) := by decide +kernel
theorem dX6_look_89 : decode cX6_look 89 = .ok (.iaload, 1) := by decide +kernel
theorem dX6_look_90 : decode cX6_look 90 = .ok (.i2l, 1) := by decide +kernel
theorem dX6_look_91 : decode cX6_look 91 = .ok (.goto 14, 3) := by decide +kernel
theorem dX6_look_94 : decode cX6_look 94 = .ok (.aload_n 0, 1) := by decide +kernel
theorem dX6_look_95 : decode cX6_look 95 = .ok (.getfield 23, 3) := by decide +kernel
theorem dX6_look_98 : decode cX6_look 98 = .ok (.bipush 12, 2) := by decide +kernel
theorem dX6_look_100 : decode cX6_look 100 = .ok (.iload_n 1, 1) := by decide +kernel
theorem dX6_look_101 : decode cX6_look 101 = .ok (.imul, 1) := by decide +kernel
theorem dX6_look_102 : decode cX6_look 102 = .ok (.iload_n 2, 1) := by decide +kernel
theorem dX6_look_103 : decode cX6_look 103 = .ok (.iadd, 1) := by decide +kernel
theorem dX6_look_104 : decode cX6_look 104 = .ok (.laload, 1) := by decide +kernel
theorem dX6_look_105 : decode cX6_look 105 = .ok (.lreturn, 1) := by decide +kernel
theorem dX6_isSomething_0 : decode cX6_isSomething 0 = .ok (.iload_n 1, 1) := by decide +kernel
theorem dX6_isSomething_1 : decode cX6_isSomething 1 = .ok (.bipush 8, 2) := by decide +kernel
theorem dX6_isSomething_3 : decode cX6_isSomething 3 = .ok (.if_icmp .ge 9, 3) := by decide +kernel
theorem dX6_isSomething_6 : decode cX6_isSomething 6 = .ok (.iload_n 1, 1) := by decide +kernel
theorem dX6_isSomething_7 : decode cX6_isSomething 7 = .ok (.lload_n 2, 1) := by decide +kernel
theorem dX6_isSomething_8 : decode cX6_isSomething 8 = .ok (.invokestatic 203, 3) := by decide +kernel
theorem dX6_isSomething_11 : decode cX6_isSomething 11 = .ok (.ireturn, 1) := by decide +kernel
theorem dX6_isSomething_12 : decode cX6_isSomething 12 = .ok (.iload_n 1, 1) := by decide +kernel
theorem dX6_isSomething_13 : decode cX6_isSomething 13 = .ok (.bipush 8, 2) := by decide +kernel
theorem dX6_isSomething_15 : decode cX6_isSomething 15 = .ok (.if_icmp .ne 8, 3) := by decide +kernel
theorem dX6_isSomething_18 : decode cX6_isSomething 18 = .ok (.lload_n 2, 1) := by decide +kernel
theorem dX6_isSomething_19 : decode cX6_isSomething 19 = .ok (.invokestatic 147, 3) := by decide +kernel
theorem dX6_isSomething_22 : decode cX6_isSomething 22 = .ok (.ireturn, 1) := by decide +kernel
theorem dX6_isSomething_23 : decode cX6_isSomething 23 = .ok (.iload_n 1, 1) := by decide +kernel
theorem dX6_isSomething_24 : decode cX6_isSomething 24 = .ok (.bipush 9, 2) := by decide +kernel
theorem dX6_isSomething_26 : decode cX6_isSomething 26 = .ok (.if_icmp .ne 12, 3) := by decide +kernel
theorem dX6_isSomething_29 : decode cX6_isSomething 29 = .ok (.lload_n 2, 1) := by decide +kernel
theorem dX6_isSomething_30 : decode cX6_isSomething 30 = .ok (.lconst 0, 1) := by decide +kernel
theorem dX6_isSomething_31 : decode cX6_isSomething 31 = .ok (.ldc2_w 145, 3) := by decide +kernel
theorem dX6_isSomething_34 : decode cX6_isSomething 34 = .ok (.invokestatic 73, 3) := by decide +kernel
theorem dX6_isSomething_37 : decode cX6_isSomething 37 = .ok (.ireturn, 1) := by decide +kernel
theorem dX6_isSomething_38 : decode cX6_isSomething 38 = .ok (.iload_n 1, 1) := by decide +kernel
theorem dX6_isSomething_39 : decode cX6_isSomething 39 = .ok (.bipush 10, 2) := by decide +kernel
theorem dX6_isSomething_41 : decode cX6_isSomething 41 = .ok (.if_icmp .ne 25, 3) := by decide +kernel
theorem dX6_isSomething_44 : decode cX6_isSomething 44 = .ok (.lload_n 2, 1) := by decide +kernel
theorem dX6_isSomething_45 : decode cX6_isSomething 45 = .ok (.invokestatic 159, 3) := by decide +kernel
theorem dX6_isSomething_48 : decode cX6_isSomething 48 = .ok (.ifCond .eq 16, 3) := by decide +kernel
theorem dX6_isSomething_51 : decode cX6_isSomething 51 = .ok (.aload_n 0, 1) := by decide +kernel
theorem dX6_isSomething_52 : decode cX6_isSomething 52 = .ok (.lload_n 2, 1) := by decide +kernel
theorem dX6_isSomething_53 : decode cX6_isSomething 53 = .ok (.l2i, 1) := by decide +kernel
theorem dX6_isSomething_54 : decode cX6_isSomething 54 = .ok (.invokevirtual 166, 3) := by decide +kernel
theorem dX6_isSomething_57 : decode cX6_isSomething 57 = .ok (.ifCond .eq 7, 3) := by decide +kernel
theorem dX6_isSomething_60 : decode cX6_isSomething 60 = .ok (.iconst 1, 1) := by decide +kernel
theorem dX6_isSomething_61 : decode cX6_isSomething 61 = .ok (.goto 4, 3) := by decide +kernel
theorem dX6_isSomething_64 : decode cX6_isSomething 64 = .ok (.iconst 0, 1) := by decide +kernel
theorem dX6_isSomething_65 : decode cX6_isSomething 65 = .ok (.ireturn, 1) := by decide +kernel
theorem dX6_isSomething_66 : decode cX6_isSomething 66 = .ok (.lload_n 2, 1) := by decide +kernel
theorem dX6_isSomething_67 : decode cX6_isSomething 67 = .ok (.lconst 0, 1) := by decide +kernel
theorem dX6_isSomething_68 : decode cX6_isSomething 68 = .ok (.lcmp, 1) := by decide +kernel
theorem dX6_isSomething_69 : decode cX6_isSomething 69 = .ok (.ifCond .ne 7, 3) := by decide +kernel
theorem dX6_isSomething_72 : decode cX6_isSomething 72 = .ok (.iconst 1, 1) := by decide +kernel
theorem dX6_isSomething_73 : decode cX6_isSomething 73 = .ok (.goto 4, 3) := by decide +kernel
theorem dX6_isSomething_76 : decode cX6_isSomething 76 = .ok (.iconst 0, 1) := by decide +kernel
theorem dX6_isSomething_77 : decode cX6_isSomething 77 = .ok (.ireturn, 1) := by decide +kernel
theorem dX6_put_0 : decode cX6_put 0 = .ok (.iload_n 1, 1) := by decide +kernel
theorem dX6_put_1 : decode cX6_put 1 = .ok (.i2l, 1) := by decide +kernel
theorem dX6_put_2 : decode cX6_put 2 = .ok (.invokestatic 159, 3) := by decide +kernel
theorem dX6_put_5 : decode cX6_put 5 = .ok (.ifCond .eq 25, 3) := by decide +kernel
theorem dX6_put_8 : decode cX6_put 8 = .ok (.iload_n 3, 1) := by decide +kernel
theorem dX6_put_9 : decode cX6_put 9 = .ok (.i2l, 1) := by decide +kernel
theorem dX6_put_10 : decode cX6_put 10 = .ok (.lconst 0, 1) := by decide +kernel
theorem dX6_put_11 : decode cX6_put 11 = .ok (.ldc2_w 119, 3) := by decide +kernel
theorem dX6_put_14 : decode cX6_put 14 = .ok (.invokestatic 73, 3) := by decide +kernel
theorem dX6_put_17 : decode cX6_put 17 = .ok (.ifCond .eq 13, 3) := by decide +kernel
theorem dX6_put_20 : decode cX6_put 20 = .ok (.aload_n 0, 1) := by decide +kernel
theorem dX6_put_21 : decode cX6_put 21 = .ok (.iload_n 3, 1) := by decide +kernel
theorem dX6_put_22 : decode cX6_put 22 = .ok (.lload 4, 2) := by decide +kernel
theorem dX6_put_24 : decode cX6_put 24 = .ok (.invokevirtual 210, 3) := by decide +kernel
theorem dX6_put_27 : decode cX6_put 27 = .ok (.ifCond .ne 5, 3) := by decide +kernel
theorem dX6_put_30 : decode cX6_put 30 = .ok (.iconst (-1), 1) := by decide +kernel
theorem dX6_put_31 : decode cX6_put 31 = .ok (.ireturn, 1) := by decide +kernel
theorem dX6_put_32 : decode cX6_put 32 = .ok (.aload_n 0, 1) := by decide +kernel
theorem dX6_put_33 : decode cX6_put 33 = .ok (.iload_n 1, 1) := by decide +kernel
theorem dX6_put_34 : decode cX6_put 34 = .ok (.invokevirtual 162, 3) := by decide +kernel
theorem dX6_put_37 : decode cX6_put 37 = .ok (.istore 6, 2) := by decide +kernel
theorem dX6_put_39 : decode cX6_put 39 = .ok (.iload 6, 2) := by decide +kernel
theorem dX6_put_41 : decode cX6_put 41 = .ok (.ifCond .ne 17, 3) := by decide +kernel
theorem dX6_put_44 : decode cX6_put 44 = .ok (.aload_n 0, 1) := by decide +kernel
theorem dX6_put_45 : decode cX6_put 45 = .ok (.iload_n 1, 1) := by decide +kernel
theorem dX6_put_46 : decode cX6_put 46 = .ok (.iload_n 2, 1) := by decide +kernel
theorem dX6_put_47 : decode cX6_put 47 = .ok (.i2l, 1) := by decide +kernel
theorem dX6_put_48 : decode cX6_put 48 = .ok (.invokevirtual 186, 3) := by decide +kernel
theorem dX6_put_51 : decode cX6_put 51 = .ok (.ifCond .ne 7, 3) := by decide +kernel
theorem dX6_put_54 : decode cX6_put 54 = .ok (.bipush (-8), 2) := by decide +kernel
theorem dX6_put_56 : decode cX6_put 56 = .ok (.istore 6, 2) := by decide +kernel
theorem dX6_put_58 : decode cX6_put 58 = .ok (.iload 6, 2) := by decide +kernel
theorem dX6_put_60 : decode cX6_put 60 = .ok (.ifCond .ne 38, 3) := by decide +kernel
theorem dX6_put_63 : decode cX6_put 63 = .ok (.aload_n 0, 1) := by decide +kernel
theorem dX6_put_64 : decode cX6_put 64 = .ok (.aload_n 0, 1) := by decide +kernel
theorem dX6_put_65 : decode cX6_put 65 = .ok (.getfield 7, 3) := by decide +kernel
theorem dX6_put_68 : decode cX6_put 68 = .ok (.iload_n 1, 1) := by decide +kernel
theorem dX6_put_69 : decode cX6_put 69 = .ok (.iaload, 1) := by decide +kernel
theorem dX6_put_70 : decode cX6_put 70 = .ok (.iload_n 3, 1) := by decide +kernel
theorem dX6_put_71 : decode cX6_put 71 = .ok (.iload_n 3, 1) := by decide +kernel
theorem dX6_put_72 : decode cX6_put 72 = .ok (.bipush 8, 2) := by decide +kernel
theorem dX6_put_74 : decode cX6_put 74 = .ok (.if_icmp .ge 12, 3) := by decide +kernel
theorem dX6_put_77 : decode cX6_put 77 = .ok (.iload_n 3, 1) := by decide +kernel
theorem dX6_put_78 : decode cX6_put 78 = .ok (.lload 4, 2) := by decide +kernel
theorem dX6_put_80 : decode cX6_put 80 = .ok (.invokestatic 206, 3) := by decide +kernel
theorem dX6_put_83 : decode cX6_put 83 = .ok (.goto 5, 3) := by decide +kernel
theorem dX6_put_86 : decode cX6_put 86 = .ok (.lload 4, 2) := by decide +kernel
theorem dX6_put_88 : decode cX6_put 88 = .ok (.invokevirtual 213, 3) := by decide +kernel
theorem dX6_put_91 : decode cX6_put 91 = .ok (.ifCond .ne 7, 3) := by decide +kernel
theorem dX6_put_94 : decode cX6_put 94 = .ok (.bipush (-9), 2) := by decide +kernel
theorem dX6_put_96 : decode cX6_put 96 = .ok (.istore 6, 2) := by decide +kernel
theorem dX6_put_98 : decode cX6_put 98 = .ok (.iload 6, 2) := by decide +kernel
theorem dX6_put_100 : decode cX6_put 100 = .ok (.ifCond .ge 10, 3) := by decide +kernel
theorem dX6_put_103 : decode cX6_put 103 = .ok (.aload_n 0, 1) := by decide +kernel
theorem dX6_put_104 : decode cX6_put 104 = .ok (.iload 6, 2) := by decide +kernel
theorem dX6_put_106 : decode cX6_put 106 = .ok (.invokevirtual 200, 3) := by decide +kernel
theorem dX6_put_109 : decode cX6_put 109 = .ok (.ireturn, 1) := by decide +kernel
theorem dX6_put_110 : decode cX6_put 110 = .ok (.aload_n 0, 1) := by decide +kernel
theorem dX6_put_111 : decode cX6_put 111 = .ok (.getfield 20, 3) := by decide +kernel
theorem dX6_put_114 : decode cX6_put 114 = .ok (.bipush 12, 2) := by decide +kernel
theorem dX6_put_116 : decode cX6_put 116 = .ok (.iload_n 1, 1) := by decide +kernel
theorem dX6_put_117 : decode cX6_put 117 = .ok (.imul, 1) := by decide +kernel
theorem dX6_put_118 : decode cX6_put 118 = .ok (.iload_n 2, 1) := by decide +kernel
theorem dX6_put_119 : decode cX6_put 119 = .ok (.iadd, 1) := by decide +kernel
theorem dX6_put_120 : decode cX6_put 120 = .ok (.aload_n 0, 1) := by decide +kernel
theorem dX6_put_121 : decode cX6_put 121 = .ok (.getfield 121, 3) := by decide +kernel
theorem dX6_put_124 : decode cX6_put 124 = .ok (.iastore, 1) := by decide +kernel
theorem dX6_put_125 : decode cX6_put 125 = .ok (.aload_n 0, 1) := by decide +kernel
theorem dX6_put_126 : decode cX6_put 126 = .ok (.getfield 23, 3) := by decide +kernel
theorem dX6_put_129 : decode cX6_put 129 = .ok (.bipush 12, 2) := by decide +kernel
theorem dX6_put_131 : decode cX6_put 131 = .ok (.iload_n 1, 1) := by decide +kernel
theorem dX6_put_132 : decode cX6_put 132 = .ok (.imul, 1) := by decide +kernel
theorem dX6_put_133 : decode cX6_put 133 = .ok (.iload_n 2, 1) := by decide +kernel
theorem dX6_put_134 : decode cX6_put 134 = .ok (.iadd, 1) := by decide +kernel
theorem dX6_put_135 : decode cX6_put 135 = .ok (.aload_n 0, 1) := by decide +kernel
theorem dX6_put_136 : decode cX6_put 136 = .ok (.getfield 124, 3) := by decide +kernel
theorem dX6_put_139 : decode cX6_put 139 = .ok (.lastore, 1) := by decide +kernel
theorem dX6_put_140 : decode cX6_put 140 = .ok (.iconst 0, 1) := by decide +kernel
theorem dX6_put_141 : decode cX6_put 141 = .ok (.ireturn, 1) := by decide +kernel
theorem dX6_swap_0 : decode cX6_swap 0 = .ok (.iload_n 1, 1) := by decide +kernel
theorem dX6_swap_1 : decode cX6_swap 1 = .ok (.i2l, 1) := by decide +kernel
theorem dX6_swap_2 : decode cX6_swap 2 = .ok (.invokestatic 159, 3) := by decide +kernel
theorem dX6_swap_5 : decode cX6_swap 5 = .ok (.ifCond .ne 5, 3) := by decide +kernel
theorem dX6_swap_8 : decode cX6_swap 8 = .ok (.iconst (-1), 1) := by decide +kernel
theorem dX6_swap_9 : decode cX6_swap 9 = .ok (.ireturn, 1) := by decide +kernel
theorem dX6_swap_10 : decode cX6_swap 10 = .ok (.aload_n 0, 1) := by decide +kernel
theorem dX6_swap_11 : decode cX6_swap 11 = .ok (.iload_n 1, 1) := by decide +kernel
theorem dX6_swap_12 : decode cX6_swap 12 = .ok (.invokevirtual 162, 3) := by decide +kernel
theorem dX6_swap_15 : decode cX6_swap 15 = .ok (.istore 4, 2) := by decide +kernel
theorem dX6_swap_17 : decode cX6_swap 17 = .ok (.iload 4, 2) := by decide +kernel
theorem dX6_swap_19 : decode cX6_swap 19 = .ok (.ifCond .ge 6, 3) := by decide +kernel
theorem dX6_swap_22 : decode cX6_swap 22 = .ok (.iload 4, 2) := by decide +kernel
theorem dX6_swap_24 : decode cX6_swap 24 = .ok (.ireturn, 1) := by decide +kernel
theorem dX6_swap_25 : decode cX6_swap 25 = .ok (.aload_n 0, 1) := by decide +kernel
theorem dX6_swap_26 : decode cX6_swap 26 = .ok (.iload_n 1, 1) := by decide +kernel
theorem dX6_swap_27 : decode cX6_swap 27 = .ok (.iload_n 2, 1) := by decide +kernel
theorem dX6_swap_28 : decode cX6_swap 28 = .ok (.i2l, 1) := by decide +kernel
theorem dX6_swap_29 : decode cX6_swap 29 = .ok (.invokevirtual 186, 3) := by decide +kernel
theorem dX6_swap_32 : decode cX6_swap 32 = .ok (.ifCond .eq 13, 3) := by decide +kernel
theorem dX6_swap_35 : decode cX6_swap 35 = .ok (.aload_n 0, 1) := by decide +kernel
theorem dX6_swap_36 : decode cX6_swap 36 = .ok (.iload_n 1, 1) := by decide +kernel
theorem dX6_swap_37 : decode cX6_swap 37 = .ok (.iload_n 3, 1) := by decide +kernel
theorem dX6_swap_38 : decode cX6_swap 38 = .ok (.i2l, 1) := by decide +kernel
theorem dX6_swap_39 : decode cX6_swap 39 = .ok (.invokevirtual 186, 3) := by decide +kernel
theorem dX6_swap_42 : decode cX6_swap 42 = .ok (.ifCond .ne 6, 3) := by decide +kernel
theorem dX6_swap_45 : decode cX6_swap 45 = .ok (.bipush (-8), 2) := by decide +kernel
theorem dX6_swap_47 : decode cX6_swap 47 = .ok (.ireturn, 1) := by decide +kernel
theorem dX6_swap_48 : decode cX6_swap 48 = .ok (.aload_n 0, 1) := by decide +kernel
theorem dX6_swap_49 : decode cX6_swap 49 = .ok (.getfield 20, 3) := by decide +kernel
theorem dX6_swap_52 : decode cX6_swap 52 = .ok (.bipush 12, 2) := by decide +kernel
theorem dX6_swap_54 : decode cX6_swap 54 = .ok (.iload_n 1, 1) := by decide +kernel
theorem dX6_swap_55 : decode cX6_swap 55 = .ok (.imul, 1) := by decide +kernel
theorem dX6_swap_56 : decode cX6_swap 56 = .ok (.iload_n 2, 1) := by decide +kernel
theorem dX6_swap_57 : decode cX6_swap 57 = .ok (.iadd, 1) := by decide +kernel
theorem dX6_swap_58 : decode cX6_swap 58 = .ok (.iaload, 1) := by decide +kernel
theorem dX6_swap_59 : decode cX6_swap 59 = .ok (.istore 5, 2) := by decide +kernel
theorem dX6_swap_61 : decode cX6_swap 61 = .ok (.aload_n 0, 1) := by decide +kernel
theorem dX6_swap_62 : decode cX6_swap 62 = .ok (.getfield 23, 3) := by decide +kernel
theorem dX6_swap_65 : decode cX6_swap 65 = .ok (.bipush 12, 2) := by decide +kernel
theorem dX6_swap_67 : decode cX6_swap 67 = .ok (.iload_n 1, 1) := by decide +kernel
theorem dX6_swap_68 : decode cX6_swap 68 = .ok (.imul, 1) := by decide +kernel
theorem dX6_swap_69 : decode cX6_swap 69 = .ok (.iload_n 2, 1) := by decide +kernel
theorem dX6_swap_70 : decode cX6_swap 70 = .ok (.iadd, 1) := by decide +kernel
theorem dX6_swap_71 : decode cX6_swap 71 = .ok (.laload, 1) := by decide +kernel
theorem dX6_swap_72 : decode cX6_swap 72 = .ok (.lstore 6, 2) := by decide +kernel
theorem dX6_swap_74 : decode cX6_swap 74 = .ok (.aload_n 0, 1) := by decide +kernel
theorem dX6_swap_75 : decode cX6_swap 75 = .ok (.getfield 20, 3) := by decide +kernel
theorem dX6_swap_78 : decode cX6_swap 78 = .ok (.bipush 12, 2) := by decide +kernel
theorem dX6_swap_80 : decode cX6_swap 80 = .ok (.iload_n 1, 1) := by decide +kernel
theorem dX6_swap_81 : decode cX6_swap 81 = .ok (.imul, 1) := by decide +kernel
theorem dX6_swap_82 : decode cX6_swap 82 = .ok (.iload_n 2, 1) := by decide +kernel
theorem dX6_swap_83 : decode cX6_swap 83 = .ok (.iadd, 1) := by decide +kernel
theorem dX6_swap_84 : decode cX6_swap 84 = .ok (.aload_n 0, 1) := by decide +kernel
theorem dX6_swap_85 : decode cX6_swap 85 = .ok (.getfield 20, 3) := by decide +kernel
theorem dX6_swap_88 : decode cX6_swap 88 = .ok (.bipush 12, 2) := by decide +kernel
theorem dX6_swap_90 : decode cX6_swap 90 = .ok (.iload_n 1, 1) := by decide +kernel
theorem dX6_swap_91 : decode cX6_swap 91 = .ok (.imul, 1) := by decide +kernel
theorem dX6_swap_92 : decode cX6_swap 92 = .ok (.iload_n 3, 1) := by decide +kernel
theorem dX6_swap_93 : decode cX6_swap 93 = .ok (.iadd, 1) := by decide +kernel
theorem dX6_swap_94 : decode cX6_swap 94 = .ok (.iaload, 1) := by decide +kernel
theorem dX6_swap_95 : decode cX6_swap 95 = .ok (.iastore, 1) := by decide +kernel
theorem dX6_swap_96 : decode cX6_swap 96 = .ok (.aload_n 0, 1) := by decide +kernel
theorem dX6_swap_97 : decode cX6_swap 97 = .ok (.getfield 23, 3) := by decide +kernel
theorem dX6_swap_100 : decode cX6_swap 100 = .ok (.bipush 12, 2) := by decide +kernel
theorem dX6_swap_102 : decode cX6_swap 102 = .ok (.iload_n 1, 1) := by decide +kernel
theorem dX6_swap_103 : decode cX6_swap 103 = .ok (.imul, 1) := by decide +kernel
theorem dX6_swap_104 : decode cX6_swap 104 = .ok (.iload_n 2, 1) := by decide +kernel
theorem dX6_swap_105 : decode cX6_swap 105 = .ok (.iadd, 1) := by decide +kernel
theorem dX6_swap_106 : decode cX6_swap 106 = .ok (.aload_n 0, 1) := by decide +kernel
theorem dX6_swap_107 : decode cX6_swap 107 = .ok (.getfield 23, 3) := by decide +kernel
theorem dX6_swap_110 : decode cX6_swap 110 = .ok (.bipush 12, 2) := by decide +kernel
theorem dX6_swap_112 : decode cX6_swap 112 = .ok (.iload_n 1, 1) := by decide +kernel
theorem dX6_swap_113 : decode cX6_swap 113 = .ok (.imul, 1) := by decide +kernel
theorem dX6_swap_114 : decode cX6_swap 114 = .ok (.iload_n 3, 1) := by decide +kernel
theorem dX6_swap_115 : decode cX6_swap 115 = .ok (.iadd, 1) := by decide +kernel
theorem dX6_swap_116 : decode cX6_swap 116 = .ok (.laload, 1) := by decide +kernel
theorem dX6_swap_117 : decode cX6_swap 117 = .ok (.lastore, 1) := by decide +kernel
theorem dX6_swap_118 : decode cX6_swap 118 = .ok (.aload_n 0, 1) := by decide +kernel
theorem dX6_swap_119 : decode cX6_swap 119 = .ok (.getfield 20, 3) := by decide +kernel
theorem dX6_swap_122 : decode cX6_swap 122 = .ok (.bipush 12, 2) := by decide +kernel
theorem dX6_swap_124 : decode cX6_swap 124 = .ok (.iload_n 1, 1) := by decide +kernel
theorem dX6_swap_125 : decode cX6_swap 125 = .ok (.imul, 1) := by decide +kernel
theorem dX6_swap_126 : decode cX6_swap 126 = .ok (.iload_n 3, 1) := by decide +kernel
theorem dX6_swap_127 : decode cX6_swap 127 = .ok (.iadd, 1) := by decide +kernel
theorem dX6_swap_128 : decode cX6_swap 128 = .ok (.iload 5, 2) := by decide +kernel
theorem dX6_swap_130 : decode cX6_swap 130 = .ok (.iastore, 1) := by decide +kernel
theorem dX6_swap_131 : decode cX6_swap 131 = .ok (.aload_n 0, 1) := by decide +kernel
theorem dX6_swap_132 : decode cX6_swap 132 = .ok (.getfield 23, 3) := by decide +kernel
theorem dX6_swap_135 : decode cX6_swap 135 = .ok (.bipush 12, 2) := by decide +kernel
theorem dX6_swap_137 : decode cX6_swap 137 = .ok (.iload_n 1, 1) := by decide +kernel
theorem dX6_swap_138 : decode cX6_swap 138 = .ok (.imul, 1) := by decide +kernel
theorem dX6_swap_139 : decode cX6_swap 139 = .ok (.iload_n 3, 1) := by decide +kernel
theorem dX6_swap_140 : decode cX6_swap 140 = .ok (.iadd, 1) := by decide +kernel
theorem dX6_swap_141 : decode cX6_swap 141 = .ok (.lload 6, 2) := by decide +kernel
theorem dX6_swap_143 : decode cX6_swap 143 = .ok (.lastore, 1) := by decide +kernel
theorem dX6_swap_144 : decode cX6_swap 144 = .ok (.iconst 0, 1) := by decide +kernel
theorem dX6_swap_145 : decode cX6_swap 145 = .ok (.ireturn, 1) := by decide +kernel
theorem dX6_went_0 : decode cX6_went 0 = .ok (.iload_n 1, 1) := by decide +kernel
theorem dX6_went_1 : decode cX6_went 1 = .ok (.ifCond .ne 10, 3) := by decide +kernel
theorem dX6_went_4 : decode cX6_went 4 = .ok (.aload_n 0, 1) := by decide +kernel
theorem dX6_went_5 : decode cX6_went 5 = .ok (.getfield 138, 3) := by decide +kernel
theorem dX6_went_8 : decode cX6_went 8 = .ok (.goto 16, 3) := by decide +kernel
theorem dX6_went_11 : decode cX6_went 11 = .ok (.iload_n 1, 1) := by decide +kernel
theorem dX6_went_12 : decode cX6_went 12 = .ok (.iconst 1, 1) := by decide +kernel
theorem dX6_went_13 : decode cX6_went 13 = .ok (.if_icmp .ne 10, 3) := by decide +kernel
theorem dX6_went_16 : decode cX6_went 16 = .ok (.aload_n 0, 1) := by decide +kernel
theorem dX6_went_17 : decode cX6_went 17 = .ok (.getfield 29, 3) := by decide +kernel
theorem dX6_went_20 : decode cX6_went 20 = .ok (.goto 4, 3) := by decide +kernel
theorem dX6_went_23 : decode cX6_went 23 = .ok (.iconst (-1), 1) := by decide +kernel
theorem dX6_went_24 : decode cX6_went 24 = .ok (.ireturn, 1) := by decide +kernel
theorem dX6_carry_0 : decode cX6_carry 0 = .ok (.iload_n 1, 1) := by decide +kernel
theorem dX6_carry_1 : decode cX6_carry 1 = .ok (.i2l, 1) := by decide +kernel
theorem dX6_carry_2 : decode cX6_carry 2 = .ok (.invokestatic 159, 3) := by decide +kernel
theorem dX6_carry_5 : decode cX6_carry 5 = .ok (.ifCond .eq 24, 3) := by decide +kernel
theorem dX6_carry_8 : decode cX6_carry 8 = .ok (.iload_n 3, 1) := by decide +kernel
theorem dX6_carry_9 : decode cX6_carry 9 = .ok (.i2l, 1) := by decide +kernel
theorem dX6_carry_10 : decode cX6_carry 10 = .ok (.invokestatic 159, 3) := by decide +kernel
theorem dX6_carry_13 : decode cX6_carry 13 = .ok (.ifCond .eq 16, 3) := by decide +kernel
theorem dX6_carry_16 : decode cX6_carry 16 = .ok (.iload 5, 2) := by decide +kernel
theorem dX6_carry_18 : decode cX6_carry 18 = .ok (.i2l, 1) := by decide +kernel
theorem dX6_carry_19 : decode cX6_carry 19 = .ok (.lconst 0, 1) := by decide +kernel
theorem dX6_carry_20 : decode cX6_carry 20 = .ok (.ldc2_w 143, 3) := by decide +kernel
theorem dX6_carry_23 : decode cX6_carry 23 = .ok (.invokestatic 73, 3) := by decide +kernel
theorem dX6_carry_26 : decode cX6_carry 26 = .ok (.ifCond .ne 10, 3) := by decide +kernel
theorem dX6_carry_29 : decode cX6_carry 29 = .ok (.aload_n 0, 1) := by decide +kernel
theorem dX6_carry_30 : decode cX6_carry 30 = .ok (.iconst (-1), 1) := by decide +kernel
theorem dX6_carry_31 : decode cX6_carry 31 = .ok (.iconst (-1), 1) := by decide +kernel
theorem dX6_carry_32 : decode cX6_carry 32 = .ok (.invokevirtual 192, 3) := by decide +kernel
theorem dX6_carry_35 : decode cX6_carry 35 = .ok (.ireturn, 1) := by decide +kernel
theorem dX6_carry_36 : decode cX6_carry 36 = .ok (.aload_n 0, 1) := by decide +kernel
theorem dX6_carry_37 : decode cX6_carry 37 = .ok (.iload_n 1, 1) := by decide +kernel
theorem dX6_carry_38 : decode cX6_carry 38 = .ok (.iload_n 3, 1) := by decide +kernel
theorem dX6_carry_39 : decode cX6_carry 39 = .ok (.invokevirtual 217, 3) := by decide +kernel
theorem dX6_carry_42 : decode cX6_carry 42 = .ok (.istore 6, 2) := by decide +kernel
theorem dX6_carry_44 : decode cX6_carry 44 = .ok (.iload 6, 2) := by decide +kernel
theorem dX6_carry_46 : decode cX6_carry 46 = .ok (.ifCond .ge 11, 3) := by decide +kernel
theorem dX6_carry_49 : decode cX6_carry 49 = .ok (.aload_n 0, 1) := by decide +kernel
theorem dX6_carry_50 : decode cX6_carry 50 = .ok (.iload 6, 2) := by decide +kernel
theorem dX6_carry_52 : decode cX6_carry 52 = .ok (.iconst (-1), 1) := by decide +kernel
theorem dX6_carry_53 : decode cX6_carry 53 = .ok (.invokevirtual 192, 3) := by decide +kernel
theorem dX6_carry_56 : decode cX6_carry 56 = .ok (.ireturn, 1) := by decide +kernel
theorem dX6_carry_57 : decode cX6_carry 57 = .ok (.iconst 0, 1) := by decide +kernel
theorem dX6_carry_58 : decode cX6_carry 58 = .ok (.istore 7, 2) := by decide +kernel
theorem dX6_carry_60 : decode cX6_carry 60 = .ok (.iload 7, 2) := by decide +kernel
theorem dX6_carry_62 : decode cX6_carry 62 = .ok (.iload 5, 2) := by decide +kernel
theorem dX6_carry_64 : decode cX6_carry 64 = .ok (.if_icmp .ge 141, 3) := by decide +kernel
theorem dX6_carry_67 : decode cX6_carry 67 = .ok (.aload_n 0, 1) := by decide +kernel
theorem dX6_carry_68 : decode cX6_carry 68 = .ok (.iload_n 1, 1) := by decide +kernel
theorem dX6_carry_69 : decode cX6_carry 69 = .ok (.iload_n 2, 1) := by decide +kernel
theorem dX6_carry_70 : decode cX6_carry 70 = .ok (.i2l, 1) := by decide +kernel
theorem dX6_carry_71 : decode cX6_carry 71 = .ok (.iload 7, 2) := by decide +kernel
theorem dX6_carry_73 : decode cX6_carry 73 = .ok (.i2l, 1) := by decide +kernel
theorem dX6_carry_74 : decode cX6_carry 74 = .ok (.ladd, 1) := by decide +kernel
theorem dX6_carry_75 : decode cX6_carry 75 = .ok (.invokevirtual 186, 3) := by decide +kernel
theorem dX6_carry_78 : decode cX6_carry 78 = .ok (.ifCond .eq 18, 3) := by decide +kernel
theorem dX6_carry_81 : decode cX6_carry 81 = .ok (.aload_n 0, 1) := by decide +kernel
theorem dX6_carry_82 : decode cX6_carry 82 = .ok (.iload_n 3, 1) := by decide +kernel
theorem dX6_carry_83 : decode cX6_carry 83 = .ok (.iload 4, 2) := by decide +kernel
theorem dX6_carry_85 : decode cX6_carry 85 = .ok (.i2l, 1) := by decide +kernel
theorem dX6_carry_86 : decode cX6_carry 86 = .ok (.iload 7, 2) := by decide +kernel
theorem dX6_carry_88 : decode cX6_carry 88 = .ok (.i2l, 1) := by decide +kernel
theorem dX6_carry_89 : decode cX6_carry 89 = .ok (.ladd, 1) := by decide +kernel
theorem dX6_carry_90 : decode cX6_carry 90 = .ok (.invokevirtual 186, 3) := by decide +kernel
theorem dX6_carry_93 : decode cX6_carry 93 = .ok (.ifCond .ne 15, 3) := by decide +kernel
theorem dX6_carry_96 : decode cX6_carry 96 = .ok (.aload_n 0, 1) := by decide +kernel
theorem dX6_carry_97 : decode cX6_carry 97 = .ok (.bipush (-8), 2) := by decide +kernel
theorem dX6_carry_99 : decode cX6_carry 99 = .ok (.iload 7, 2) := by decide +kernel
theorem dX6_carry_101 : decode cX6_carry 101 = .ok (.invokevirtual 192, 3) := by decide +kernel
theorem dX6_carry_104 : decode cX6_carry 104 = .ok (.pop, 1) := by decide +kernel
theorem dX6_carry_105 : decode cX6_carry 105 = .ok (.iload 7, 2) := by decide +kernel
theorem dX6_carry_107 : decode cX6_carry 107 = .ok (.ireturn, 1) := by decide +kernel
theorem dX6_carry_108 : decode cX6_carry 108 = .ok (.aload_n 0, 1) := by decide +kernel
theorem dX6_carry_109 : decode cX6_carry 109 = .ok (.aload_n 0, 1) := by decide +kernel
theorem dX6_carry_110 : decode cX6_carry 110 = .ok (.getfield 7, 3) := by decide +kernel
theorem dX6_carry_113 : decode cX6_carry 113 = .ok (.iload_n 3, 1) := by decide +kernel
theorem dX6_carry_114 : decode cX6_carry 114 = .ok (.iaload, 1) := by decide +kernel
theorem dX6_carry_115 : decode cX6_carry 115 = .ok (.aload_n 0, 1) := by decide +kernel
theorem dX6_carry_116 : decode cX6_carry 116 = .ok (.getfield 20, 3) := by decide +kernel
theorem dX6_carry_119 : decode cX6_carry 119 = .ok (.bipush 12, 2) := by decide +kernel
theorem dX6_carry_121 : decode cX6_carry 121 = .ok (.iload_n 1, 1) := by decide +kernel
theorem dX6_carry_122 : decode cX6_carry 122 = .ok (.imul, 1) := by decide +kernel
theorem dX6_carry_123 : decode cX6_carry 123 = .ok (.iload_n 2, 1) := by decide +kernel
theorem dX6_carry_124 : decode cX6_carry 124 = .ok (.iadd, 1) := by decide +kernel
theorem dX6_carry_125 : decode cX6_carry 125 = .ok (.iload 7, 2) := by decide +kernel
theorem dX6_carry_127 : decode cX6_carry 127 = .ok (.iadd, 1) := by decide +kernel
theorem dX6_carry_128 : decode cX6_carry 128 = .ok (.iaload, 1) := by decide +kernel
theorem dX6_carry_129 : decode cX6_carry 129 = .ok (.aload_n 0, 1) := by decide +kernel
theorem dX6_carry_130 : decode cX6_carry 130 = .ok (.getfield 23, 3) := by decide +kernel
theorem dX6_carry_133 : decode cX6_carry 133 = .ok (.bipush 12, 2) := by decide +kernel
theorem dX6_carry_135 : decode cX6_carry 135 = .ok (.iload_n 1, 1) := by decide +kernel
theorem dX6_carry_136 : decode cX6_carry 136 = .ok (.imul, 1) := by decide +kernel
theorem dX6_carry_137 : decode cX6_carry 137 = .ok (.iload_n 2, 1) := by decide +kernel
theorem dX6_carry_138 : decode cX6_carry 138 = .ok (.iadd, 1) := by decide +kernel
theorem dX6_carry_139 : decode cX6_carry 139 = .ok (.iload 7, 2) := by decide +kernel
theorem dX6_carry_141 : decode cX6_carry 141 = .ok (.iadd, 1) := by decide +kernel
theorem dX6_carry_142 : decode cX6_carry 142 = .ok (.laload, 1) := by decide +kernel
theorem dX6_carry_143 : decode cX6_carry 143 = .ok (.invokevirtual 213, 3) := by decide +kernel
theorem dX6_carry_146 : decode cX6_carry 146 = .ok (.ifCond .ne 15, 3) := by decide +kernel
theorem dX6_carry_149 : decode cX6_carry 149 = .ok (.aload_n 0, 1) := by decide +kernel
theorem dX6_carry_150 : decode cX6_carry 150 = .ok (.bipush (-9), 2) := by decide +kernel
theorem dX6_carry_152 : decode cX6_carry 152 = .ok (.iload 7, 2) := by decide +kernel
theorem dX6_carry_154 : decode cX6_carry 154 = .ok (.invokevirtual 192, 3) := by decide +kernel
theorem dX6_carry_157 : decode cX6_carry 157 = .ok (.pop, 1) := by decide +kernel
theorem dX6_carry_158 : decode cX6_carry 158 = .ok (.iload 7, 2) := by decide +kernel
theorem dX6_carry_160 : decode cX6_carry 160 = .ok (.ireturn, 1) := by decide +kernel
theorem dX6_carry_161 : decode cX6_carry 161 = .ok (.aload_n 0, 1) := by decide +kernel
theorem dX6_carry_162 : decode cX6_carry 162 = .ok (.getfield 20, 3) := by decide +kernel
theorem dX6_carry_165 : decode cX6_carry 165 = .ok (.bipush 12, 2) := by decide +kernel
theorem dX6_carry_167 : decode cX6_carry 167 = .ok (.iload_n 3, 1) := by decide +kernel
theorem dX6_carry_168 : decode cX6_carry 168 = .ok (.imul, 1) := by decide +kernel
theorem dX6_carry_169 : decode cX6_carry 169 = .ok (.iload 4, 2) := by decide +kernel
theorem dX6_carry_171 : decode cX6_carry 171 = .ok (.iadd, 1) := by decide +kernel
theorem dX6_carry_172 : decode cX6_carry 172 = .ok (.iload 7, 2) := by decide +kernel
theorem dX6_carry_174 : decode cX6_carry 174 = .ok (.iadd, 1) := by decide +kernel
theorem dX6_carry_175 : decode cX6_carry 175 = .ok (.aload_n 0, 1) := by decide +kernel
theorem dX6_carry_176 : decode cX6_carry 176 = .ok (.getfield 121, 3) := by decide +kernel
theorem dX6_carry_179 : decode cX6_carry 179 = .ok (.iastore, 1) := by decide +kernel
theorem dX6_carry_180 : decode cX6_carry 180 = .ok (.aload_n 0, 1) := by decide +kernel
theorem dX6_carry_181 : decode cX6_carry 181 = .ok (.getfield 23, 3) := by decide +kernel
theorem dX6_carry_184 : decode cX6_carry 184 = .ok (.bipush 12, 2) := by decide +kernel
theorem dX6_carry_186 : decode cX6_carry 186 = .ok (.iload_n 3, 1) := by decide +kernel
theorem dX6_carry_187 : decode cX6_carry 187 = .ok (.imul, 1) := by decide +kernel
theorem dX6_carry_188 : decode cX6_carry 188 = .ok (.iload 4, 2) := by decide +kernel
theorem dX6_carry_190 : decode cX6_carry 190 = .ok (.iadd, 1) := by decide +kernel
theorem dX6_carry_191 : decode cX6_carry 191 = .ok (.iload 7, 2) := by decide +kernel
theorem dX6_carry_193 : decode cX6_carry 193 = .ok (.iadd, 1) := by decide +kernel
theorem dX6_carry_194 : decode cX6_carry 194 = .ok (.aload_n 0, 1) := by decide +kernel
theorem dX6_carry_195 : decode cX6_carry 195 = .ok (.getfield 124, 3) := by decide +kernel
theorem dX6_carry_198 : decode cX6_carry 198 = .ok (.lastore, 1) := by decide +kernel
theorem dX6_carry_199 : decode cX6_carry 199 = .ok (.iinc 7 1, 3) := by decide +kernel
theorem dX6_carry_202 : decode cX6_carry 202 = .ok (.goto (-142), 3) := by decide +kernel
theorem dX6_carry_205 : decode cX6_carry 205 = .ok (.aload_n 0, 1) := by decide +kernel
theorem dX6_carry_206 : decode cX6_carry 206 = .ok (.iconst 0, 1) := by decide +kernel
theorem dX6_carry_207 : decode cX6_carry 207 = .ok (.iconst (-1), 1) := by decide +kernel
theorem dX6_carry_208 : decode cX6_carry 208 = .ok (.invokevirtual 192, 3) := by decide +kernel
theorem dX6_carry_211 : decode cX6_carry 211 = .ok (.pop, 1) := by decide +kernel
theorem dX6_carry_212 : decode cX6_carry 212 = .ok (.iload 5, 2) := by decide +kernel
theorem dX6_carry_214 : decode cX6_carry 214 = .ok (.ireturn, 1) := by decide +kernel
theorem dX6_firstRefused_0 : decode cX6_firstRefused 0 = .ok (.iconst 0, 1) := by decide +kernel
theorem dX6_firstRefused_1 : decode cX6_firstRefused 1 = .ok (.istore_n 3, 1) := by decide +kernel
theorem dX6_firstRefused_2 : decode cX6_firstRefused 2 = .ok (.iload_n 3, 1) := by decide +kernel
theorem dX6_firstRefused_3 : decode cX6_firstRefused 3 = .ok (.aload_n 0, 1) := by decide +kernel
theorem dX6_firstRefused_4 : decode cX6_firstRefused 4 = .ok (.getfield 13, 3) := by decide +kernel
theorem dX6_firstRefused_7 : decode cX6_firstRefused 7 = .ok (.iload_n 1, 1) := by decide +kernel
theorem dX6_firstRefused_8 : decode cX6_firstRefused 8 = .ok (.iaload, 1) := by decide +kernel
theorem dX6_firstRefused_9 : decode cX6_firstRefused 9 = .ok (.if_icmp .ge 41, 3) := by decide +kernel
theorem dX6_firstRefused_12 : decode cX6_firstRefused 12 = .ok (.aload_n 0, 1) := by decide +kernel
theorem dX6_firstRefused_13 : decode cX6_firstRefused 13 = .ok (.iload_n 2, 1) := by decide +kernel
theorem dX6_firstRefused_14 : decode cX6_firstRefused 14 = .ok (.aload_n 0, 1) := by decide +kernel
theorem dX6_firstRefused_15 : decode cX6_firstRefused 15 = .ok (.getfield 20, 3) := by decide +kernel
theorem dX6_firstRefused_18 : decode cX6_firstRefused 18 = .ok (.bipush 12, 2) := by decide +kernel
theorem dX6_firstRefused_20 : decode cX6_firstRefused 20 = .ok (.iload_n 1, 1) := by decide +kernel
theorem dX6_firstRefused_21 : decode cX6_firstRefused 21 = .ok (.imul, 1) := by decide +kernel
theorem dX6_firstRefused_22 : decode cX6_firstRefused 22 = .ok (.iload_n 3, 1) := by decide +kernel
theorem dX6_firstRefused_23 : decode cX6_firstRefused 23 = .ok (.iadd, 1) := by decide +kernel
theorem dX6_firstRefused_24 : decode cX6_firstRefused 24 = .ok (.iaload, 1) := by decide +kernel
theorem dX6_firstRefused_25 : decode cX6_firstRefused 25 = .ok (.aload_n 0, 1) := by decide +kernel
theorem dX6_firstRefused_26 : decode cX6_firstRefused 26 = .ok (.getfield 23, 3) := by decide +kernel
theorem dX6_firstRefused_29 : decode cX6_firstRefused 29 = .ok (.bipush 12, 2) := by decide +kernel
theorem dX6_firstRefused_31 : decode cX6_firstRefused 31 = .ok (.iload_n 1, 1) := by decide +kernel
theorem dX6_firstRefused_32 : decode cX6_firstRefused 32 = .ok (.imul, 1) := by decide +kernel
theorem dX6_firstRefused_33 : decode cX6_firstRefused 33 = .ok (.iload_n 3, 1) := by decide +kernel
theorem dX6_firstRefused_34 : decode cX6_firstRefused 34 = .ok (.iadd, 1) := by decide +kernel
theorem dX6_firstRefused_35 : decode cX6_firstRefused 35 = .ok (.laload, 1) := by decide +kernel
theorem dX6_firstRefused_36 : decode cX6_firstRefused 36 = .ok (.invokevirtual 213, 3) := by decide +kernel
theorem dX6_firstRefused_39 : decode cX6_firstRefused 39 = .ok (.ifCond .ne 5, 3) := by decide +kernel
theorem dX6_firstRefused_42 : decode cX6_firstRefused 42 = .ok (.iload_n 3, 1) := by decide +kernel
theorem dX6_firstRefused_43 : decode cX6_firstRefused 43 = .ok (.ireturn, 1) := by decide +kernel
theorem dX6_firstRefused_44 : decode cX6_firstRefused 44 = .ok (.iinc 3 1, 3) := by decide +kernel
theorem dX6_firstRefused_47 : decode cX6_firstRefused 47 = .ok (.goto (-45), 3) := by decide +kernel
theorem dX6_firstRefused_50 : decode cX6_firstRefused 50 = .ok (.iconst (-1), 1) := by decide +kernel
theorem dX6_firstRefused_51 : decode cX6_firstRefused 51 = .ok (.ireturn, 1) := by decide +kernel
theorem dX6_converted_0 : decode cX6_converted 0 = .ok (.aload_n 0, 1) := by decide +kernel
theorem dX6_converted_1 : decode cX6_converted 1 = .ok (.invokevirtual 151, 3) := by decide +kernel
theorem dX6_converted_4 : decode cX6_converted 4 = .ok (.istore_n 3, 1) := by decide +kernel
theorem dX6_converted_5 : decode cX6_converted 5 = .ok (.aload_n 0, 1) := by decide +kernel
theorem dX6_converted_6 : decode cX6_converted 6 = .ok (.iload_n 3, 1) := by decide +kernel
theorem dX6_converted_7 : decode cX6_converted 7 = .ok (.iload_n 2, 1) := by decide +kernel
theorem dX6_converted_8 : decode cX6_converted 8 = .ok (.aload_n 0, 1) := by decide +kernel
theorem dX6_converted_9 : decode cX6_converted 9 = .ok (.getfield 13, 3) := by decide +kernel
theorem dX6_converted_12 : decode cX6_converted 12 = .ok (.iload_n 1, 1) := by decide +kernel
theorem dX6_converted_13 : decode cX6_converted 13 = .ok (.iaload, 1) := by decide +kernel
theorem dX6_converted_14 : decode cX6_converted 14 = .ok (.invokevirtual 155, 3) := by decide +kernel
theorem dX6_converted_17 : decode cX6_converted 17 = .ok (.iconst 0, 1) := by decide +kernel
theorem dX6_converted_18 : decode cX6_converted 18 = .ok (.istore 4, 2) := by decide +kernel
theorem dX6_converted_20 : decode cX6_converted 20 = .ok (.iload 4, 2) := by decide +kernel
theorem dX6_converted_22 : decode cX6_converted 22 = .ok (.aload_n 0, 1) := by decide +kernel
theorem dX6_converted_23 : decode cX6_converted 23 = .ok (.getfield 13, 3) := by decide +kernel
theorem dX6_converted_26 : decode cX6_converted 26 = .ok (.iload_n 1, 1) := by decide +kernel
theorem dX6_converted_27 : decode cX6_converted 27 = .ok (.iaload, 1) := by decide +kernel
theorem dX6_converted_28 : decode cX6_converted 28 = .ok (.if_icmp .ge 71, 3) := by decide +kernel
theorem dX6_converted_31 : decode cX6_converted 31 = .ok (.aload_n 0, 1) := by decide +kernel
theorem dX6_converted_32 : decode cX6_converted 32 = .ok (.iload_n 2, 1) := by decide +kernel
theorem dX6_converted_33 : decode cX6_converted 33 = .ok (.aload_n 0, 1) := by decide +kernel
theorem dX6_converted_34 : decode cX6_converted 34 = .ok (.getfield 20, 3) := by decide +kernel
theorem dX6_converted_37 : decode cX6_converted 37 = .ok (.bipush 12, 2) := by decide +kernel
theorem dX6_converted_39 : decode cX6_converted 39 = .ok (.iload_n 1, 1) := by decide +kernel
theorem dX6_converted_40 : decode cX6_converted 40 = .ok (.imul, 1) := by decide +kernel
theorem dX6_converted_41 : decode cX6_converted 41 = .ok (.iload 4, 2) := by decide +kernel
theorem dX6_converted_43 : decode cX6_converted 43 = .ok (.iadd, 1) := by decide +kernel
theorem dX6_converted_44 : decode cX6_converted 44 = .ok (.iaload, 1) := by decide +kernel
theorem dX6_converted_45 : decode cX6_converted 45 = .ok (.aload_n 0, 1) := by decide +kernel
theorem dX6_converted_46 : decode cX6_converted 46 = .ok (.getfield 23, 3) := by decide +kernel
theorem dX6_converted_49 : decode cX6_converted 49 = .ok (.bipush 12, 2) := by decide +kernel
theorem dX6_converted_51 : decode cX6_converted 51 = .ok (.iload_n 1, 1) := by decide +kernel
theorem dX6_converted_52 : decode cX6_converted 52 = .ok (.imul, 1) := by decide +kernel
theorem dX6_converted_53 : decode cX6_converted 53 = .ok (.iload 4, 2) := by decide +kernel
theorem dX6_converted_55 : decode cX6_converted 55 = .ok (.iadd, 1) := by decide +kernel
theorem dX6_converted_56 : decode cX6_converted 56 = .ok (.laload, 1) := by decide +kernel
theorem dX6_converted_57 : decode cX6_converted 57 = .ok (.invokevirtual 213, 3) := by decide +kernel
theorem dX6_converted_60 : decode cX6_converted 60 = .ok (.pop, 1) := by decide +kernel
theorem dX6_converted_61 : decode cX6_converted 61 = .ok (.aload_n 0, 1) := by decide +kernel
theorem dX6_converted_62 : decode cX6_converted 62 = .ok (.getfield 20, 3) := by decide +kernel
theorem dX6_converted_65 : decode cX6_converted 65 = .ok (.bipush 12, 2) := by decide +kernel
theorem dX6_converted_67 : decode cX6_converted 67 = .ok (.iload_n 3, 1) := by decide +kernel
theorem dX6_converted_68 : decode cX6_converted 68 = .ok (.imul, 1) := by decide +kernel
theorem dX6_converted_69 : decode cX6_converted 69 = .ok (.iload 4, 2) := by decide +kernel
theorem dX6_converted_71 : decode cX6_converted 71 = .ok (.iadd, 1) := by decide +kernel
theorem dX6_converted_72 : decode cX6_converted 72 = .ok (.aload_n 0, 1) := by decide +kernel
theorem dX6_converted_73 : decode cX6_converted 73 = .ok (.getfield 121, 3) := by decide +kernel
theorem dX6_converted_76 : decode cX6_converted 76 = .ok (.iastore, 1) := by decide +kernel
theorem dX6_converted_77 : decode cX6_converted 77 = .ok (.aload_n 0, 1) := by decide +kernel
theorem dX6_converted_78 : decode cX6_converted 78 = .ok (.getfield 23, 3) := by decide +kernel
theorem dX6_converted_81 : decode cX6_converted 81 = .ok (.bipush 12, 2) := by decide +kernel
theorem dX6_converted_83 : decode cX6_converted 83 = .ok (.iload_n 3, 1) := by decide +kernel
theorem dX6_converted_84 : decode cX6_converted 84 = .ok (.imul, 1) := by decide +kernel
theorem dX6_converted_85 : decode cX6_converted 85 = .ok (.iload 4, 2) := by decide +kernel
theorem dX6_converted_87 : decode cX6_converted 87 = .ok (.iadd, 1) := by decide +kernel
theorem dX6_converted_88 : decode cX6_converted 88 = .ok (.aload_n 0, 1) := by decide +kernel
theorem dX6_converted_89 : decode cX6_converted 89 = .ok (.getfield 124, 3) := by decide +kernel
theorem dX6_converted_92 : decode cX6_converted 92 = .ok (.lastore, 1) := by decide +kernel
theorem dX6_converted_93 : decode cX6_converted 93 = .ok (.iinc 4 1, 3) := by decide +kernel
theorem dX6_converted_96 : decode cX6_converted 96 = .ok (.goto (-76), 3) := by decide +kernel
theorem dX6_converted_99 : decode cX6_converted 99 = .ok (.aload_n 0, 1) := by decide +kernel
theorem dX6_converted_100 : decode cX6_converted 100 = .ok (.iconst 0, 1) := by decide +kernel
theorem dX6_converted_101 : decode cX6_converted 101 = .ok (.iconst (-1), 1) := by decide +kernel
theorem dX6_converted_102 : decode cX6_converted 102 = .ok (.invokevirtual 192, 3) := by decide +kernel
theorem dX6_converted_105 : decode cX6_converted 105 = .ok (.pop, 1) := by decide +kernel
theorem dX6_converted_106 : decode cX6_converted 106 = .ok (.iload_n 3, 1) := by decide +kernel
theorem dX6_converted_107 : decode cX6_converted 107 = .ok (.ireturn, 1) := by decide +kernel
theorem dX6_convert_0 : decode cX6_convert 0 = .ok (.iload_n 1, 1) := by decide +kernel
theorem dX6_convert_1 : decode cX6_convert 1 = .ok (.i2l, 1) := by decide +kernel
theorem dX6_convert_2 : decode cX6_convert 2 = .ok (.invokestatic 159, 3) := by decide +kernel
theorem dX6_convert_5 : decode cX6_convert 5 = .ok (.ifCond .eq 15, 3) := by decide +kernel
theorem dX6_convert_8 : decode cX6_convert 8 = .ok (.iload_n 2, 1) := by decide +kernel
theorem dX6_convert_9 : decode cX6_convert 9 = .ok (.i2l, 1) := by decide +kernel
theorem dX6_convert_10 : decode cX6_convert 10 = .ok (.lconst 0, 1) := by decide +kernel
theorem dX6_convert_11 : decode cX6_convert 11 = .ok (.ldc2_w 141, 3) := by decide +kernel
theorem dX6_convert_14 : decode cX6_convert 14 = .ok (.invokestatic 73, 3) := by decide +kernel
theorem dX6_convert_17 : decode cX6_convert 17 = .ok (.ifCond .ne 10, 3) := by decide +kernel
theorem dX6_convert_20 : decode cX6_convert 20 = .ok (.aload_n 0, 1) := by decide +kernel
theorem dX6_convert_21 : decode cX6_convert 21 = .ok (.iconst (-1), 1) := by decide +kernel
theorem dX6_convert_22 : decode cX6_convert 22 = .ok (.iconst (-1), 1) := by decide +kernel
theorem dX6_convert_23 : decode cX6_convert 23 = .ok (.invokevirtual 192, 3) := by decide +kernel
theorem dX6_convert_26 : decode cX6_convert 26 = .ok (.ireturn, 1) := by decide +kernel
theorem dX6_convert_27 : decode cX6_convert 27 = .ok (.aload_n 0, 1) := by decide +kernel
theorem dX6_convert_28 : decode cX6_convert 28 = .ok (.iload_n 1, 1) := by decide +kernel
theorem dX6_convert_29 : decode cX6_convert 29 = .ok (.invokevirtual 162, 3) := by decide +kernel
theorem dX6_convert_32 : decode cX6_convert 32 = .ok (.istore_n 3, 1) := by decide +kernel
theorem dX6_convert_33 : decode cX6_convert 33 = .ok (.iload_n 3, 1) := by decide +kernel
theorem dX6_convert_34 : decode cX6_convert 34 = .ok (.ifCond .ge 10, 3) := by decide +kernel
theorem dX6_convert_37 : decode cX6_convert 37 = .ok (.aload_n 0, 1) := by decide +kernel
theorem dX6_convert_38 : decode cX6_convert 38 = .ok (.iload_n 3, 1) := by decide +kernel
theorem dX6_convert_39 : decode cX6_convert 39 = .ok (.iconst (-1), 1) := by decide +kernel
theorem dX6_convert_40 : decode cX6_convert 40 = .ok (.invokevirtual 192, 3) := by decide +kernel
theorem dX6_convert_43 : decode cX6_convert 43 = .ok (.ireturn, 1) := by decide +kernel
theorem dX6_convert_44 : decode cX6_convert 44 = .ok (.aload_n 0, 1) := by decide +kernel
theorem dX6_convert_45 : decode cX6_convert 45 = .ok (.iload_n 1, 1) := by decide +kernel
theorem dX6_convert_46 : decode cX6_convert 46 = .ok (.iload_n 2, 1) := by decide +kernel
theorem dX6_convert_47 : decode cX6_convert 47 = .ok (.invokevirtual 220, 3) := by decide +kernel
theorem dX6_convert_50 : decode cX6_convert 50 = .ok (.istore 4, 2) := by decide +kernel
theorem dX6_convert_52 : decode cX6_convert 52 = .ok (.iload 4, 2) := by decide +kernel
theorem dX6_convert_54 : decode cX6_convert 54 = .ok (.ifCond .lt 12, 3) := by decide +kernel
theorem dX6_convert_57 : decode cX6_convert 57 = .ok (.aload_n 0, 1) := by decide +kernel
theorem dX6_convert_58 : decode cX6_convert 58 = .ok (.bipush (-9), 2) := by decide +kernel
theorem dX6_convert_60 : decode cX6_convert 60 = .ok (.iload 4, 2) := by decide +kernel
theorem dX6_convert_62 : decode cX6_convert 62 = .ok (.invokevirtual 192, 3) := by decide +kernel
theorem dX6_convert_65 : decode cX6_convert 65 = .ok (.ireturn, 1) := by decide +kernel
theorem dX6_convert_66 : decode cX6_convert 66 = .ok (.aload_n 0, 1) := by decide +kernel
theorem dX6_convert_67 : decode cX6_convert 67 = .ok (.invokevirtual 151, 3) := by decide +kernel
theorem dX6_convert_70 : decode cX6_convert 70 = .ok (.ifCond .ge 13, 3) := by decide +kernel
theorem dX6_convert_73 : decode cX6_convert 73 = .ok (.aload_n 0, 1) := by decide +kernel
theorem dX6_convert_74 : decode cX6_convert 74 = .ok (.bipush (-3), 2) := by decide +kernel
theorem dX6_convert_76 : decode cX6_convert 76 = .ok (.iconst (-1), 1) := by decide +kernel
theorem dX6_convert_77 : decode cX6_convert 77 = .ok (.invokevirtual 192, 3) := by decide +kernel
theorem dX6_convert_80 : decode cX6_convert 80 = .ok (.goto 9, 3) := by decide +kernel
theorem dX6_convert_83 : decode cX6_convert 83 = .ok (.aload_n 0, 1) := by decide +kernel
theorem dX6_convert_84 : decode cX6_convert 84 = .ok (.iload_n 1, 1) := by decide +kernel
theorem dX6_convert_85 : decode cX6_convert 85 = .ok (.iload_n 2, 1) := by decide +kernel
theorem dX6_convert_86 : decode cX6_convert 86 = .ok (.invokevirtual 223, 3) := by decide +kernel
theorem dX6_convert_89 : decode cX6_convert 89 = .ok (.ireturn, 1) := by decide +kernel
theorem dX6_namedIn_0 : decode cX6_namedIn 0 = .ok (.aload_n 0, 1) := by decide +kernel
theorem dX6_namedIn_1 : decode cX6_namedIn 1 = .ok (.getfield 20, 3) := by decide +kernel
theorem dX6_namedIn_4 : decode cX6_namedIn 4 = .ok (.bipush 12, 2) := by decide +kernel
theorem dX6_namedIn_6 : decode cX6_namedIn 6 = .ok (.iload_n 1, 1) := by decide +kernel
theorem dX6_namedIn_7 : decode cX6_namedIn 7 = .ok (.imul, 1) := by decide +kernel
theorem dX6_namedIn_8 : decode cX6_namedIn 8 = .ok (.iload_n 2, 1) := by decide +kernel
theorem dX6_namedIn_9 : decode cX6_namedIn 9 = .ok (.iadd, 1) := by decide +kernel
theorem dX6_namedIn_10 : decode cX6_namedIn 10 = .ok (.iaload, 1) := by decide +kernel
theorem dX6_namedIn_11 : decode cX6_namedIn 11 = .ok (.bipush 8, 2) := by decide +kernel
theorem dX6_namedIn_13 : decode cX6_namedIn 13 = .ok (.if_icmp .eq 5, 3) := by decide +kernel
theorem dX6_namedIn_16 : decode cX6_namedIn 16 = .ok (.iconst (-1), 1) := by decide +kernel
theorem dX6_namedIn_17 : decode cX6_namedIn 17 = .ok (.ireturn, 1) := by decide +kernel
theorem dX6_namedIn_18 : decode cX6_namedIn 18 = .ok (.iconst 0, 1) := by decide +kernel
theorem dX6_namedIn_19 : decode cX6_namedIn 19 = .ok (.istore_n 3, 1) := by decide +kernel
theorem dX6_namedIn_20 : decode cX6_namedIn 20 = .ok (.iload_n 3, 1) := by decide +kernel
theorem dX6_namedIn_21 : decode cX6_namedIn 21 = .ok (.bipush 16, 2) := by decide +kernel
theorem dX6_namedIn_23 : decode cX6_namedIn 23 = .ok (.if_icmp .ge 32, 3) := by decide +kernel
theorem dX6_namedIn_26 : decode cX6_namedIn 26 = .ok (.aload_n 0, 1) := by decide +kernel
theorem dX6_namedIn_27 : decode cX6_namedIn 27 = .ok (.getfield 66, 3) := by decide +kernel
theorem dX6_namedIn_30 : decode cX6_namedIn 30 = .ok (.iload_n 3, 1) := by decide +kernel
theorem dX6_namedIn_31 : decode cX6_namedIn 31 = .ok (.laload, 1) := by decide +kernel
theorem dX6_namedIn_32 : decode cX6_namedIn 32 = .ok (.aload_n 0, 1) := by decide +kernel
theorem dX6_namedIn_33 : decode cX6_namedIn 33 = .ok (.getfield 23, 3) := by decide +kernel
theorem dX6_namedIn_36 : decode cX6_namedIn 36 = .ok (.bipush 12, 2) := by decide +kernel
theorem dX6_namedIn_38 : decode cX6_namedIn 38 = .ok (.iload_n 1, 1) := by decide +kernel
theorem dX6_namedIn_39 : decode cX6_namedIn 39 = .ok (.imul, 1) := by decide +kernel
theorem dX6_namedIn_40 : decode cX6_namedIn 40 = .ok (.iload_n 2, 1) := by decide +kernel
theorem dX6_namedIn_41 : decode cX6_namedIn 41 = .ok (.iadd, 1) := by decide +kernel
theorem dX6_namedIn_42 : decode cX6_namedIn 42 = .ok (.laload, 1) := by decide +kernel
theorem dX6_namedIn_43 : decode cX6_namedIn 43 = .ok (.lcmp, 1) := by decide +kernel
theorem dX6_namedIn_44 : decode cX6_namedIn 44 = .ok (.ifCond .ne 5, 3) := by decide +kernel
theorem dX6_namedIn_47 : decode cX6_namedIn 47 = .ok (.iload_n 3, 1) := by decide +kernel
theorem dX6_namedIn_48 : decode cX6_namedIn 48 = .ok (.ireturn, 1) := by decide +kernel
theorem dX6_namedIn_49 : decode cX6_namedIn 49 = .ok (.iinc 3 1, 3) := by decide +kernel
theorem dX6_namedIn_52 : decode cX6_namedIn 52 = .ok (.goto (-32), 3) := by decide +kernel
theorem dX6_namedIn_55 : decode cX6_namedIn 55 = .ok (.iconst (-1), 1) := by decide +kernel
theorem dX6_namedIn_56 : decode cX6_namedIn 56 = .ok (.ireturn, 1) := by decide +kernel
theorem dX6_shape_0 : decode cX6_shape 0 = .ok (.iload_n 1, 1) := by decide +kernel
theorem dX6_shape_1 : decode cX6_shape 1 = .ok (.i2l, 1) := by decide +kernel
theorem dX6_shape_2 : decode cX6_shape 2 = .ok (.invokestatic 159, 3) := by decide +kernel
theorem dX6_shape_5 : decode cX6_shape 5 = .ok (.ifCond .eq 11, 3) := by decide +kernel
theorem dX6_shape_8 : decode cX6_shape 8 = .ok (.iload_n 2, 1) := by decide +kernel
theorem dX6_shape_9 : decode cX6_shape 9 = .ok (.i2l, 1) := by decide +kernel
theorem dX6_shape_10 : decode cX6_shape 10 = .ok (.invokestatic 159, 3) := by decide +kernel
theorem dX6_shape_13 : decode cX6_shape 13 = .ok (.ifCond .ne 10, 3) := by decide +kernel
theorem dX6_shape_16 : decode cX6_shape 16 = .ok (.aload_n 0, 1) := by decide +kernel
theorem dX6_shape_17 : decode cX6_shape 17 = .ok (.iconst (-1), 1) := by decide +kernel
theorem dX6_shape_18 : decode cX6_shape 18 = .ok (.iconst (-1), 1) := by decide +kernel
theorem dX6_shape_19 : decode cX6_shape 19 = .ok (.invokevirtual 192, 3) := by decide +kernel
theorem dX6_shape_22 : decode cX6_shape 22 = .ok (.ireturn, 1) := by decide +kernel
theorem dX6_shape_23 : decode cX6_shape 23 = .ok (.aload_n 0, 1) := by decide +kernel
theorem dX6_shape_24 : decode cX6_shape 24 = .ok (.iload_n 1, 1) := by decide +kernel
theorem dX6_shape_25 : decode cX6_shape 25 = .ok (.iload_n 2, 1) := by decide +kernel
theorem dX6_shape_26 : decode cX6_shape 26 = .ok (.invokevirtual 217, 3) := by decide +kernel
theorem dX6_shape_29 : decode cX6_shape 29 = .ok (.istore_n 3, 1) := by decide +kernel
theorem dX6_shape_30 : decode cX6_shape 30 = .ok (.iload_n 3, 1) := by decide +kernel
theorem dX6_shape_31 : decode cX6_shape 31 = .ok (.ifCond .ne 34, 3) := by decide +kernel
theorem dX6_shape_34 : decode cX6_shape 34 = .ok (.aload_n 0, 1) := by decide +kernel
theorem dX6_shape_35 : decode cX6_shape 35 = .ok (.getfield 7, 3) := by decide +kernel
theorem dX6_shape_38 : decode cX6_shape 38 = .ok (.iload_n 1, 1) := by decide +kernel
theorem dX6_shape_39 : decode cX6_shape 39 = .ok (.iaload, 1) := by decide +kernel
theorem dX6_shape_40 : decode cX6_shape 40 = .ok (.bipush 9, 2) := by decide +kernel
theorem dX6_shape_42 : decode cX6_shape 42 = .ok (.if_icmp .eq 8, 3) := by decide +kernel
theorem dX6_shape_45 : decode cX6_shape 45 = .ok (.bipush (-2), 2) := by decide +kernel
theorem dX6_shape_47 : decode cX6_shape 47 = .ok (.goto 17, 3) := by decide +kernel
theorem dX6_shape_50 : decode cX6_shape 50 = .ok (.aload_n 0, 1) := by decide +kernel
theorem dX6_shape_51 : decode cX6_shape 51 = .ok (.iload_n 2, 1) := by decide +kernel
theorem dX6_shape_52 : decode cX6_shape 52 = .ok (.invokevirtual 183, 3) := by decide +kernel
theorem dX6_shape_55 : decode cX6_shape 55 = .ok (.ifCond .ne 8, 3) := by decide +kernel
theorem dX6_shape_58 : decode cX6_shape 58 = .ok (.bipush (-7), 2) := by decide +kernel
theorem dX6_shape_60 : decode cX6_shape 60 = .ok (.goto 4, 3) := by decide +kernel
theorem dX6_shape_63 : decode cX6_shape 63 = .ok (.iconst 0, 1) := by decide +kernel
theorem dX6_shape_64 : decode cX6_shape 64 = .ok (.istore_n 3, 1) := by decide +kernel
theorem dX6_shape_65 : decode cX6_shape 65 = .ok (.iload_n 3, 1) := by decide +kernel
theorem dX6_shape_66 : decode cX6_shape 66 = .ok (.ifCond .ge 10, 3) := by decide +kernel
theorem dX6_shape_69 : decode cX6_shape 69 = .ok (.aload_n 0, 1) := by decide +kernel
theorem dX6_shape_70 : decode cX6_shape 70 = .ok (.iload_n 3, 1) := by decide +kernel
theorem dX6_shape_71 : decode cX6_shape 71 = .ok (.iconst (-1), 1) := by decide +kernel
theorem dX6_shape_72 : decode cX6_shape 72 = .ok (.invokevirtual 192, 3) := by decide +kernel
theorem dX6_shape_75 : decode cX6_shape 75 = .ok (.ireturn, 1) := by decide +kernel
theorem dX6_shape_76 : decode cX6_shape 76 = .ok (.aload_n 0, 1) := by decide +kernel
theorem dX6_shape_77 : decode cX6_shape 77 = .ok (.getfield 13, 3) := by decide +kernel
theorem dX6_shape_80 : decode cX6_shape 80 = .ok (.iload_n 1, 1) := by decide +kernel
theorem dX6_shape_81 : decode cX6_shape 81 = .ok (.iaload, 1) := by decide +kernel
theorem dX6_shape_82 : decode cX6_shape 82 = .ok (.aload_n 0, 1) := by decide +kernel
theorem dX6_shape_83 : decode cX6_shape 83 = .ok (.getfield 13, 3) := by decide +kernel
theorem dX6_shape_86 : decode cX6_shape 86 = .ok (.iload_n 2, 1) := by decide +kernel
theorem dX6_shape_87 : decode cX6_shape 87 = .ok (.iaload, 1) := by decide +kernel
theorem dX6_shape_88 : decode cX6_shape 88 = .ok (.if_icmp .ge 12, 3) := by decide +kernel
theorem dX6_shape_91 : decode cX6_shape 91 = .ok (.aload_n 0, 1) := by decide +kernel
theorem dX6_shape_92 : decode cX6_shape 92 = .ok (.getfield 13, 3) := by decide +kernel
theorem dX6_shape_95 : decode cX6_shape 95 = .ok (.iload_n 1, 1) := by decide +kernel
theorem dX6_shape_96 : decode cX6_shape 96 = .ok (.iaload, 1) := by decide +kernel
theorem dX6_shape_97 : decode cX6_shape 97 = .ok (.goto 9, 3) := by decide +kernel
theorem dX6_shape_100 : decode cX6_shape 100 = .ok (.aload_n 0, 1) := by decide +kernel
theorem dX6_shape_101 : decode cX6_shape 101 = .ok (.getfield 13, 3) := by decide +kernel
theorem dX6_shape_104 : decode cX6_shape 104 = .ok (.iload_n 2, 1) := by decide +kernel
theorem dX6_shape_105 : decode cX6_shape 105 = .ok (.iaload, 1) := by decide +kernel
theorem dX6_shape_106 : decode cX6_shape 106 = .ok (.istore 4, 2) := by decide +kernel
theorem dX6_shape_108 : decode cX6_shape 108 = .ok (.iconst 0, 1) := by decide +kernel
theorem dX6_shape_109 : decode cX6_shape 109 = .ok (.istore 5, 2) := by decide +kernel
theorem dX6_shape_111 : decode cX6_shape 111 = .ok (.iload 5, 2) := by decide +kernel
theorem dX6_shape_113 : decode cX6_shape 113 = .ok (.iload 4, 2) := by decide +kernel
theorem dX6_shape_115 : decode cX6_shape 115 = .ok (.if_icmp .ge 53, 3) := by decide +kernel
theorem dX6_shape_118 : decode cX6_shape 118 = .ok (.aload_n 0, 1) := by decide +kernel
theorem dX6_shape_119 : decode cX6_shape 119 = .ok (.iload_n 1, 1) := by decide +kernel
theorem dX6_shape_120 : decode cX6_shape 120 = .ok (.iload 5, 2) := by decide +kernel
theorem dX6_shape_122 : decode cX6_shape 122 = .ok (.invokevirtual 226, 3) := by decide +kernel
theorem dX6_shape_125 : decode cX6_shape 125 = .ok (.istore 6, 2) := by decide +kernel
theorem dX6_shape_127 : decode cX6_shape 127 = .ok (.iload 6, 2) := by decide +kernel
theorem dX6_shape_129 : decode cX6_shape 129 = .ok (.ifCond .lt 24, 3) := by decide +kernel
theorem dX6_shape_132 : decode cX6_shape 132 = .ok (.iload 6, 2) := by decide +kernel
theorem dX6_shape_134 : decode cX6_shape 134 = .ok (.bipush 7, 2) := by decide +kernel
theorem dX6_shape_136 : decode cX6_shape 136 = .ok (.if_icmp .gt 17, 3) := by decide +kernel
theorem dX6_shape_139 : decode cX6_shape 139 = .ok (.aload_n 0, 1) := by decide +kernel
theorem dX6_shape_140 : decode cX6_shape 140 = .ok (.getfield 7, 3) := by decide +kernel
theorem dX6_shape_143 : decode cX6_shape 143 = .ok (.iload_n 2, 1) := by decide +kernel
theorem dX6_shape_144 : decode cX6_shape 144 = .ok (.iaload, 1) := by decide +kernel
theorem dX6_shape_145 : decode cX6_shape 145 = .ok (.iload 6, 2) := by decide +kernel
theorem dX6_shape_147 : decode cX6_shape 147 = .ok (.invokestatic 128, 3) := by decide +kernel
theorem dX6_shape_150 : decode cX6_shape 150 = .ok (.ifCond .ne 12, 3) := by decide +kernel
theorem dX6_shape_153 : decode cX6_shape 153 = .ok (.aload_n 0, 1) := by decide +kernel
theorem dX6_shape_154 : decode cX6_shape 154 = .ok (.bipush (-9), 2) := by decide +kernel
theorem dX6_shape_156 : decode cX6_shape 156 = .ok (.iload 5, 2) := by decide +kernel
theorem dX6_shape_158 : decode cX6_shape 158 = .ok (.invokevirtual 192, 3) := by decide +kernel
theorem dX6_shape_161 : decode cX6_shape 161 = .ok (.ireturn, 1) := by decide +kernel
theorem dX6_shape_162 : decode cX6_shape 162 = .ok (.iinc 5 1, 3) := by decide +kernel
theorem dX6_shape_165 : decode cX6_shape 165 = .ok (.goto (-54), 3) := by decide +kernel
theorem dX6_shape_168 : decode cX6_shape 168 = .ok (.aload_n 0, 1) := by decide +kernel
theorem dX6_shape_169 : decode cX6_shape 169 = .ok (.invokevirtual 151, 3) := by decide +kernel
theorem dX6_shape_172 : decode cX6_shape 172 = .ok (.istore 5, 2) := by decide +kernel
theorem dX6_shape_174 : decode cX6_shape 174 = .ok (.iload 5, 2) := by decide +kernel
theorem dX6_shape_176 : decode cX6_shape 176 = .ok (.ifCond .ge 11, 3) := by decide +kernel
theorem dX6_shape_179 : decode cX6_shape 179 = .ok (.aload_n 0, 1) := by decide +kernel
theorem dX6_shape_180 : decode cX6_shape 180 = .ok (.bipush (-3), 2) := by decide +kernel
theorem dX6_shape_182 : decode cX6_shape 182 = .ok (.iconst (-1), 1) := by decide +kernel
theorem dX6_shape_183 : decode cX6_shape 183 = .ok (.invokevirtual 192, 3) := by decide +kernel
theorem dX6_shape_186 : decode cX6_shape 186 = .ok (.ireturn, 1) := by decide +kernel
theorem dX6_shape_187 : decode cX6_shape 187 = .ok (.aload_n 0, 1) := by decide +kernel
theorem dX6_shape_188 : decode cX6_shape 188 = .ok (.iload 5, 2) := by decide +kernel
theorem dX6_shape_190 : decode cX6_shape 190 = .ok (.bipush 12, 2) := by decide +kernel
theorem dX6_shape_192 : decode cX6_shape 192 = .ok (.iload 4, 2) := by decide +kernel
theorem dX6_shape_194 : decode cX6_shape 194 = .ok (.invokevirtual 155, 3) := by decide +kernel
theorem dX6_shape_197 : decode cX6_shape 197 = .ok (.iconst 0, 1) := by decide +kernel
theorem dX6_shape_198 : decode cX6_shape 198 = .ok (.istore 6, 2) := by decide +kernel
theorem dX6_shape_200 : decode cX6_shape 200 = .ok (.iload 6, 2) := by decide +kernel
theorem dX6_shape_202 : decode cX6_shape 202 = .ok (.iload 4, 2) := by decide +kernel
theorem dX6_shape_204 : decode cX6_shape 204 = .ok (.if_icmp .ge 69, 3) := by decide +kernel
theorem dX6_shape_207 : decode cX6_shape 207 = .ok (.aload_n 0, 1) := by decide +kernel
theorem dX6_shape_208 : decode cX6_shape 208 = .ok (.iload_n 1, 1) := by decide +kernel
theorem dX6_shape_209 : decode cX6_shape 209 = .ok (.iload 6, 2) := by decide +kernel
theorem dX6_shape_211 : decode cX6_shape 211 = .ok (.invokevirtual 226, 3) := by decide +kernel
theorem dX6_shape_214 : decode cX6_shape 214 = .ok (.istore 7, 2) := by decide +kernel
theorem dX6_shape_216 : decode cX6_shape 216 = .ok (.aload_n 0, 1) := by decide +kernel
theorem dX6_shape_217 : decode cX6_shape 217 = .ok (.getfield 20, 3) := by decide +kernel
theorem dX6_shape_220 : decode cX6_shape 220 = .ok (.bipush 12, 2) := by decide +kernel
theorem dX6_shape_222 : decode cX6_shape 222 = .ok (.iload 5, 2) := by decide +kernel
theorem dX6_shape_224 : decode cX6_shape 224 = .ok (.imul, 1) := by decide +kernel
theorem dX6_shape_225 : decode cX6_shape 225 = .ok (.iload 6, 2) := by decide +kernel
theorem dX6_shape_227 : decode cX6_shape 227 = .ok (.iadd, 1) := by decide +kernel
theorem dX6_shape_228 : decode cX6_shape 228 = .ok (.iload 7, 2) := by decide +kernel
theorem dX6_shape_230 : decode cX6_shape 230 = .ok (.iastore, 1) := by decide +kernel
theorem dX6_shape_231 : decode cX6_shape 231 = .ok (.aload_n 0, 1) := by decide +kernel
theorem dX6_shape_232 : decode cX6_shape 232 = .ok (.getfield 23, 3) := by decide +kernel
theorem dX6_shape_235 : decode cX6_shape 235 = .ok (.bipush 12, 2) := by decide +kernel
theorem dX6_shape_237 : decode cX6_shape 237 = .ok (.iload 5, 2) := by decide +kernel
theorem dX6_shape_239 : decode cX6_shape 239 = .ok (.imul, 1) := by decide +kernel
theorem dX6_shape_240 : decode cX6_shape 240 = .ok (.iload 6, 2) := by decide +kernel
theorem dX6_shape_242 : decode cX6_shape 242 = .ok (.iadd, 1) := by decide +kernel
theorem dX6_shape_243 : decode cX6_shape 243 = .ok (.aload_n 0, 1) := by decide +kernel
theorem dX6_shape_244 : decode cX6_shape 244 = .ok (.getfield 7, 3) := by decide +kernel
theorem dX6_shape_247 : decode cX6_shape 247 = .ok (.iload_n 2, 1) := by decide +kernel
theorem dX6_shape_248 : decode cX6_shape 248 = .ok (.iaload, 1) := by decide +kernel
theorem dX6_shape_249 : decode cX6_shape 249 = .ok (.aload_n 0, 1) := by decide +kernel
theorem dX6_shape_250 : decode cX6_shape 250 = .ok (.getfield 23, 3) := by decide +kernel
theorem dX6_shape_253 : decode cX6_shape 253 = .ok (.bipush 12, 2) := by decide +kernel
theorem dX6_shape_255 : decode cX6_shape 255 = .ok (.iload_n 2, 1) := by decide +kernel
theorem dX6_shape_256 : decode cX6_shape 256 = .ok (.imul, 1) := by decide +kernel
theorem dX6_shape_257 : decode cX6_shape 257 = .ok (.iload 6, 2) := by decide +kernel
theorem dX6_shape_259 : decode cX6_shape 259 = .ok (.iadd, 1) := by decide +kernel
theorem dX6_shape_260 : decode cX6_shape 260 = .ok (.laload, 1) := by decide +kernel
theorem dX6_shape_261 : decode cX6_shape 261 = .ok (.iload 7, 2) := by decide +kernel
theorem dX6_shape_263 : decode cX6_shape 263 = .ok (.invokestatic 132, 3) := by decide +kernel
theorem dX6_shape_266 : decode cX6_shape 266 = .ok (.lastore, 1) := by decide +kernel
theorem dX6_shape_267 : decode cX6_shape 267 = .ok (.iinc 6 1, 3) := by decide +kernel
theorem dX6_shape_270 : decode cX6_shape 270 = .ok (.goto (-70), 3) := by decide +kernel
theorem dX6_shape_273 : decode cX6_shape 273 = .ok (.aload_n 0, 1) := by decide +kernel
theorem dX6_shape_274 : decode cX6_shape 274 = .ok (.iconst 0, 1) := by decide +kernel
theorem dX6_shape_275 : decode cX6_shape 275 = .ok (.iconst (-1), 1) := by decide +kernel
theorem dX6_shape_276 : decode cX6_shape 276 = .ok (.invokevirtual 192, 3) := by decide +kernel
theorem dX6_shape_279 : decode cX6_shape 279 = .ok (.pop, 1) := by decide +kernel
theorem dX6_shape_280 : decode cX6_shape 280 = .ok (.iload 5, 2) := by decide +kernel
theorem dX6_shape_282 : decode cX6_shape 282 = .ok (.ireturn, 1) := by decide +kernel
theorem dX6_added_0 : decode cX6_added 0 = .ok (.lconst 0, 1) := by decide +kernel
theorem dX6_added_1 : decode cX6_added 1 = .ok (.lstore_n 3, 1) := by decide +kernel
theorem dX6_added_2 : decode cX6_added 2 = .ok (.fconst 0, 1) := by decide +kernel
theorem dX6_added_3 : decode cX6_added 3 = .ok (.fstore 5, 2) := by decide +kernel
theorem dX6_added_5 : decode cX6_added 5 = .ok (.dconst 0, 1) := by decide +kernel
theorem dX6_added_6 : decode cX6_added 6 = .ok (.dstore 6, 2) := by decide +kernel
theorem dX6_added_8 : decode cX6_added 8 = .ok (.iconst 0, 1) := by decide +kernel
theorem dX6_added_9 : decode cX6_added 9 = .ok (.istore 8, 2) := by decide +kernel
theorem dX6_added_11 : decode cX6_added 11 = .ok (.iload 8, 2) := by decide +kernel
theorem dX6_added_13 : decode cX6_added 13 = .ok (.aload_n 0, 1) := by decide +kernel
theorem dX6_added_14 : decode cX6_added 14 = .ok (.getfield 13, 3) := by decide +kernel
theorem dX6_added_17 : decode cX6_added 17 = .ok (.iload_n 1, 1) := by decide +kernel
theorem dX6_added_18 : decode cX6_added 18 = .ok (.iaload, 1) := by decide +kernel
theorem dX6_added_19 : decode cX6_added 19 = .ok (.if_icmp .ge 95, 3) := by decide +kernel
theorem dX6_added_22 : decode cX6_added 22 = .ok (.aload_n 0, 1) := by decide +kernel
theorem dX6_added_23 : decode cX6_added 23 = .ok (.getfield 7, 3) := by decide +kernel
theorem dX6_added_26 : decode cX6_added 26 = .ok (.iload_n 1, 1) := by decide +kernel
theorem dX6_added_27 : decode cX6_added 27 = .ok (.iaload, 1) := by decide +kernel
theorem dX6_added_28 : decode cX6_added 28 = .ok (.aload_n 0, 1) := by decide +kernel
theorem dX6_added_29 : decode cX6_added 29 = .ok (.getfield 23, 3) := by decide +kernel
theorem dX6_added_32 : decode cX6_added 32 = .ok (.bipush 12, 2) := by decide +kernel
theorem dX6_added_34 : decode cX6_added 34 = .ok (.iload_n 1, 1) := by decide +kernel
theorem dX6_added_35 : decode cX6_added 35 = .ok (.imul, 1) := by decide +kernel
theorem dX6_added_36 : decode cX6_added 36 = .ok (.iload 8, 2) := by decide +kernel
theorem dX6_added_38 : decode cX6_added 38 = .ok (.iadd, 1) := by decide +kernel
theorem dX6_added_39 : decode cX6_added 39 = .ok (.laload, 1) := by decide +kernel
theorem dX6_added_40 : decode cX6_added 40 = .ok (.iload_n 2, 1) := by decide +kernel
theorem dX6_added_41 : decode cX6_added 41 = .ok (.invokestatic 132, 3) := by decide +kernel
theorem dX6_added_44 : decode cX6_added 44 = .ok (.lstore 9, 2) := by decide +kernel
theorem dX6_added_46 : decode cX6_added 46 = .ok (.iload_n 2, 1) := by decide +kernel
theorem dX6_added_47 : decode cX6_added 47 = .ok (.iconst 4, 1) := by decide +kernel
theorem dX6_added_48 : decode cX6_added 48 = .ok (.if_icmp .ne 13, 3) := by decide +kernel
theorem dX6_added_51 : decode cX6_added 51 = .ok (.lload_n 3, 1) := by decide +kernel
theorem dX6_added_52 : decode cX6_added 52 = .ok (.lload 9, 2) := by decide +kernel
theorem dX6_added_54 : decode cX6_added 54 = .ok (.ladd, 1) := by decide +kernel
theorem dX6_added_55 : decode cX6_added 55 = .ok (.l2i, 1) := by decide +kernel
theorem dX6_added_56 : decode cX6_added 56 = .ok (.i2l, 1) := by decide +kernel
theorem dX6_added_57 : decode cX6_added 57 = .ok (.lstore_n 3, 1) := by decide +kernel
theorem dX6_added_58 : decode cX6_added 58 = .ok (.goto 50, 3) := by decide +kernel
theorem dX6_added_61 : decode cX6_added 61 = .ok (.iload_n 2, 1) := by decide +kernel
theorem dX6_added_62 : decode cX6_added 62 = .ok (.iconst 5, 1) := by decide +kernel
theorem dX6_added_63 : decode cX6_added 63 = .ok (.if_icmp .ne 11, 3) := by decide +kernel
theorem dX6_added_66 : decode cX6_added 66 = .ok (.lload_n 3, 1) := by decide +kernel
theorem dX6_added_67 : decode cX6_added 67 = .ok (.lload 9, 2) := by decide +kernel
theorem dX6_added_69 : decode cX6_added 69 = .ok (.ladd, 1) := by decide +kernel
theorem dX6_added_70 : decode cX6_added 70 = .ok (.lstore_n 3, 1) := by decide +kernel
theorem dX6_added_71 : decode cX6_added 71 = .ok (.goto 37, 3) := by decide +kernel
theorem dX6_added_74 : decode cX6_added 74 = .ok (.iload_n 2, 1) := by decide +kernel
theorem dX6_added_75 : decode cX6_added 75 = .ok (.bipush 6, 2) := by decide +kernel
theorem dX6_added_77 : decode cX6_added 77 = .ok (.if_icmp .ne 19, 3) := by decide +kernel
theorem dX6_added_80 : decode cX6_added 80 = .ok (.fload 5, 2) := by decide +kernel
theorem dX6_added_82 : decode cX6_added 82 = .ok (.bipush 6, 2) := by decide +kernel
theorem dX6_added_84 : decode cX6_added 84 = .ok (.lload 9, 2) := by decide +kernel
theorem dX6_added_86 : decode cX6_added 86 = .ok (.invokestatic 115, 3) := by decide +kernel
theorem dX6_added_89 : decode cX6_added 89 = .ok (.d2f, 1) := by decide +kernel
theorem dX6_added_90 : decode cX6_added 90 = .ok (.fadd, 1) := by decide +kernel
theorem dX6_added_91 : decode cX6_added 91 = .ok (.fstore 5, 2) := by decide +kernel
theorem dX6_added_93 : decode cX6_added 93 = .ok (.goto 15, 3) := by decide +kernel
theorem dX6_added_96 : decode cX6_added 96 = .ok (.dload 6, 2) := by decide +kernel
theorem dX6_added_98 : decode cX6_added 98 = .ok (.bipush 7, 2) := by decide +kernel
theorem dX6_added_100 : decode cX6_added 100 = .ok (.lload 9, 2) := by decide +kernel
theorem dX6_added_102 : decode cX6_added 102 = .ok (.invokestatic 115, 3) := by decide +kernel
theorem dX6_added_105 : decode cX6_added 105 = .ok (.dadd, 1) := by decide +kernel
theorem dX6_added_106 : decode cX6_added 106 = .ok (.dstore 6, 2) := by decide +kernel
theorem dX6_added_108 : decode cX6_added 108 = .ok (.iinc 8 1, 3) := by decide +kernel
theorem dX6_added_111 : decode cX6_added 111 = .ok (.goto (-100), 3) := by decide +kernel
theorem dX6_added_114 : decode cX6_added 114 = .ok (.iload_n 2, 1) := by decide +kernel
theorem dX6_added_115 : decode cX6_added 115 = .ok (.bipush 6, 2) := by decide +kernel
theorem dX6_added_117 : decode cX6_added 117 = .ok (.if_icmp .ge 7, 3) := by decide +kernel
theorem dX6_added_120 : decode cX6_added 120 = .ok (.lload_n 3, 1) := by decide +kernel
theorem dX6_added_121 : decode cX6_added 121 = .ok (.goto 23, 3) := by decide +kernel
theorem dX6_added_124 : decode cX6_added 124 = .ok (.iload_n 2, 1) := by decide +kernel
theorem dX6_added_125 : decode cX6_added 125 = .ok (.bipush 6, 2) := by decide +kernel
theorem dX6_added_127 : decode cX6_added 127 = .ok (.if_icmp .ne 12, 3) := by decide +kernel
theorem dX6_added_130 : decode cX6_added 130 = .ok (.fload 5, 2) := by decide +kernel
theorem dX6_added_132 : decode cX6_added 132 = .ok (.f2d, 1) := by decide +kernel
theorem dX6_added_133 : decode cX6_added 133 = .ok (.invokestatic 106, 3) := by decide +kernel
theorem dX6_added_136 : decode cX6_added 136 = .ok (.goto 8, 3) := by decide +kernel
theorem dX6_added_139 : decode cX6_added 139 = .ok (.dload 6, 2) := by decide +kernel
theorem dX6_added_141 : decode cX6_added 141 = .ok (.invokestatic 112, 3) := by decide +kernel
theorem dX6_added_144 : decode cX6_added 144 = .ok (.lreturn, 1) := by decide +kernel
theorem dX6_sum_0 : decode cX6_sum 0 = .ok (.iload_n 1, 1) := by decide +kernel
theorem dX6_sum_1 : decode cX6_sum 1 = .ok (.i2l, 1) := by decide +kernel
theorem dX6_sum_2 : decode cX6_sum 2 = .ok (.invokestatic 159, 3) := by decide +kernel
theorem dX6_sum_5 : decode cX6_sum 5 = .ok (.ifCond .eq 17, 3) := by decide +kernel
theorem dX6_sum_8 : decode cX6_sum 8 = .ok (.iload_n 2, 1) := by decide +kernel
theorem dX6_sum_9 : decode cX6_sum 9 = .ok (.i2l, 1) := by decide +kernel
theorem dX6_sum_10 : decode cX6_sum 10 = .ok (.ldc2_w 229, 3) := by decide +kernel
theorem dX6_sum_13 : decode cX6_sum 13 = .ok (.ldc2_w 190, 3) := by decide +kernel
theorem dX6_sum_16 : decode cX6_sum 16 = .ok (.invokestatic 73, 3) := by decide +kernel
theorem dX6_sum_19 : decode cX6_sum 19 = .ok (.ifCond .ne 12, 3) := by decide +kernel
theorem dX6_sum_22 : decode cX6_sum 22 = .ok (.aload_n 0, 1) := by decide +kernel
theorem dX6_sum_23 : decode cX6_sum 23 = .ok (.iconst (-1), 1) := by decide +kernel
theorem dX6_sum_24 : decode cX6_sum 24 = .ok (.iconst (-1), 1) := by decide +kernel
theorem dX6_sum_25 : decode cX6_sum 25 = .ok (.invokevirtual 192, 3) := by decide +kernel
theorem dX6_sum_28 : decode cX6_sum 28 = .ok (.pop, 1) := by decide +kernel
theorem dX6_sum_29 : decode cX6_sum 29 = .ok (.lconst 0, 1) := by decide +kernel
theorem dX6_sum_30 : decode cX6_sum 30 = .ok (.lreturn, 1) := by decide +kernel
theorem dX6_sum_31 : decode cX6_sum 31 = .ok (.aload_n 0, 1) := by decide +kernel
theorem dX6_sum_32 : decode cX6_sum 32 = .ok (.iload_n 1, 1) := by decide +kernel
theorem dX6_sum_33 : decode cX6_sum 33 = .ok (.invokevirtual 162, 3) := by decide +kernel
theorem dX6_sum_36 : decode cX6_sum 36 = .ok (.istore_n 3, 1) := by decide +kernel
theorem dX6_sum_37 : decode cX6_sum 37 = .ok (.iload_n 3, 1) := by decide +kernel
theorem dX6_sum_38 : decode cX6_sum 38 = .ok (.ifCond .ne 14, 3) := by decide +kernel
theorem dX6_sum_41 : decode cX6_sum 41 = .ok (.aload_n 0, 1) := by decide +kernel
theorem dX6_sum_42 : decode cX6_sum 42 = .ok (.iload_n 1, 1) := by decide +kernel
theorem dX6_sum_43 : decode cX6_sum 43 = .ok (.invokevirtual 183, 3) := by decide +kernel
theorem dX6_sum_46 : decode cX6_sum 46 = .ok (.ifCond .ne 6, 3) := by decide +kernel
theorem dX6_sum_49 : decode cX6_sum 49 = .ok (.bipush (-7), 2) := by decide +kernel
theorem dX6_sum_51 : decode cX6_sum 51 = .ok (.istore_n 3, 1) := by decide +kernel
theorem dX6_sum_52 : decode cX6_sum 52 = .ok (.iload_n 3, 1) := by decide +kernel
theorem dX6_sum_53 : decode cX6_sum 53 = .ok (.ifCond .ge 12, 3) := by decide +kernel
theorem dX6_sum_56 : decode cX6_sum 56 = .ok (.aload_n 0, 1) := by decide +kernel
theorem dX6_sum_57 : decode cX6_sum 57 = .ok (.iload_n 3, 1) := by decide +kernel
theorem dX6_sum_58 : decode cX6_sum 58 = .ok (.iconst (-1), 1) := by decide +kernel
theorem dX6_sum_59 : decode cX6_sum 59 = .ok (.invokevirtual 192, 3) := by decide +kernel
theorem dX6_sum_62 : decode cX6_sum 62 = .ok (.pop, 1) := by decide +kernel
theorem dX6_sum_63 : decode cX6_sum 63 = .ok (.lconst 0, 1) := by decide +kernel
theorem dX6_sum_64 : decode cX6_sum 64 = .ok (.lreturn, 1) := by decide +kernel
theorem dX6_sum_65 : decode cX6_sum 65 = .ok (.aload_n 0, 1) := by decide +kernel
theorem dX6_sum_66 : decode cX6_sum 66 = .ok (.getfield 13, 3) := by decide +kernel
theorem dX6_sum_69 : decode cX6_sum 69 = .ok (.iload_n 1, 1) := by decide +kernel
theorem dX6_sum_70 : decode cX6_sum 70 = .ok (.iaload, 1) := by decide +kernel
theorem dX6_sum_71 : decode cX6_sum 71 = .ok (.ifCond .le 26, 3) := by decide +kernel
theorem dX6_sum_74 : decode cX6_sum 74 = .ok (.aload_n 0, 1) := by decide +kernel
theorem dX6_sum_75 : decode cX6_sum 75 = .ok (.getfield 7, 3) := by decide +kernel
theorem dX6_sum_78 : decode cX6_sum 78 = .ok (.iload_n 1, 1) := by decide +kernel
theorem dX6_sum_79 : decode cX6_sum 79 = .ok (.iaload, 1) := by decide +kernel
theorem dX6_sum_80 : decode cX6_sum 80 = .ok (.iload_n 2, 1) := by decide +kernel
theorem dX6_sum_81 : decode cX6_sum 81 = .ok (.invokestatic 128, 3) := by decide +kernel
