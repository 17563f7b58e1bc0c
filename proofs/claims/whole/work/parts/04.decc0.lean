theorem dX5_init_0 : decode cX5_init 0 = .ok (.aload_n 0, 1) := by decide +kernel
theorem dX5_init_1 : decode cX5_init 1 = .ok (.invokespecial 1, 3) := by decide +kernel
theorem dX5_init_4 : decode cX5_init 4 = .ok (.aload_n 0, 1) := by decide +kernel
theorem dX5_init_5 : decode cX5_init 5 = .ok (.sipush 246, 3) := by decide +kernel
theorem dX5_init_8 : decode cX5_init 8 = .ok (.newarray .int, 2) := by decide +kernel
theorem dX5_init_10 : decode cX5_init 10 = .ok (.dup, 1) := by decide +kernel
theorem dX5_init_11 : decode cX5_init 11 = .ok (.iconst 0, 1) := by decide +kernel
theorem dX5_init_12 : decode cX5_init 12 = .ok (.sipush 3010, 3) := by decide +kernel
theorem dX5_init_15 : decode cX5_init 15 = .ok (.iastore, 1) := by decide +kernel
theorem dX5_init_16 : decode cX5_init 16 = .ok (.dup, 1) := by decide +kernel
theorem dX5_init_17 : decode cX5_init 17 = .ok (.iconst 1, 1) := by decide +kernel
theorem dX5_init_18 : decode cX5_init 18 = .ok (.sipush 1000, 3) := by decide +kernel
theorem dX5_init_21 : decode cX5_init 21 = .ok (.iastore, 1) := by decide +kernel
theorem dX5_init_22 : decode cX5_init 22 = .ok (.dup, 1) := by decide +kernel
theorem dX5_init_23 : decode cX5_init 23 = .ok (.iconst 2, 1) := by decide +kernel
theorem dX5_init_24 : decode cX5_init 24 = .ok (.sipush 1100, 3) := by decide +kernel
theorem dX5_init_27 : decode cX5_init 27 = .ok (.iastore, 1) := by decide +kernel
theorem dX5_init_28 : decode cX5_init 28 = .ok (.dup, 1) := by decide +kernel
theorem dX5_init_29 : decode cX5_init 29 = .ok (.iconst 3, 1) := by decide +kernel
theorem dX5_init_30 : decode cX5_init 30 = .ok (.iconst 1, 1) := by decide +kernel
theorem dX5_init_31 : decode cX5_init 31 = .ok (.iastore, 1) := by decide +kernel
theorem dX5_init_32 : decode cX5_init 32 = .ok (.dup, 1) := by decide +kernel
theorem dX5_init_33 : decode cX5_init 33 = .ok (.iconst 4, 1) := by decide +kernel
theorem dX5_init_34 : decode cX5_init 34 = .ok (.sipush 1003, 3) := by decide +kernel
theorem dX5_init_37 : decode cX5_init 37 = .ok (.iastore, 1) := by decide +kernel
theorem dX5_init_38 : decode cX5_init 38 = .ok (.dup, 1) := by decide +kernel
theorem dX5_init_39 : decode cX5_init 39 = .ok (.iconst 5, 1) := by decide +kernel
theorem dX5_init_40 : decode cX5_init 40 = .ok (.sipush 3011, 3) := by decide +kernel
theorem dX5_init_43 : decode cX5_init 43 = .ok (.iastore, 1) := by decide +kernel
theorem dX5_init_44 : decode cX5_init 44 = .ok (.dup, 1) := by decide +kernel
theorem dX5_init_45 : decode cX5_init 45 = .ok (.bipush 6, 2) := by decide +kernel
theorem dX5_init_47 : decode cX5_init 47 = .ok (.sipush 1000, 3) := by decide +kernel
theorem dX5_init_50 : decode cX5_init 50 = .ok (.iastore, 1) := by decide +kernel
theorem dX5_init_51 : decode cX5_init 51 = .ok (.dup, 1) := by decide +kernel
theorem dX5_init_52 : decode cX5_init 52 = .ok (.bipush 7, 2) := by decide +kernel
theorem dX5_init_54 : decode cX5_init 54 = .ok (.sipush 1101, 3) := by decide +kernel
theorem dX5_init_57 : decode cX5_init 57 = .ok (.iastore, 1) := by decide +kernel
theorem dX5_init_58 : decode cX5_init 58 = .ok (.dup, 1) := by decide +kernel
theorem dX5_init_59 : decode cX5_init 59 = .ok (.bipush 8, 2) := by decide +kernel
theorem dX5_init_61 : decode cX5_init 61 = .ok (.iconst 3, 1) := by decide +kernel
theorem dX5_init_62 : decode cX5_init 62 = .ok (.iastore, 1) := by decide +kernel
theorem dX5_init_63 : decode cX5_init 63 = .ok (.dup, 1) := by decide +kernel
theorem dX5_init_64 : decode cX5_init 64 = .ok (.bipush 9, 2) := by decide +kernel
theorem dX5_init_66 : decode cX5_init 66 = .ok (.sipush 1005, 3) := by decide +kernel
theorem dX5_init_69 : decode cX5_init 69 = .ok (.iastore, 1) := by decide +kernel
theorem dX5_init_70 : decode cX5_init 70 = .ok (.dup, 1) := by decide +kernel
theorem dX5_init_71 : decode cX5_init 71 = .ok (.bipush 10, 2) := by decide +kernel
theorem dX5_init_73 : decode cX5_init 73 = .ok (.sipush 1000, 3) := by decide +kernel
theorem dX5_init_76 : decode cX5_init 76 = .ok (.iastore, 1) := by decide +kernel
theorem dX5_init_77 : decode cX5_init 77 = .ok (.dup, 1) := by decide +kernel
theorem dX5_init_78 : decode cX5_init 78 = .ok (.bipush 11, 2) := by decide +kernel
theorem dX5_init_80 : decode cX5_init 80 = .ok (.iconst 1, 1) := by decide +kernel
theorem dX5_init_81 : decode cX5_init 81 = .ok (.iastore, 1) := by decide +kernel
theorem dX5_init_82 : decode cX5_init 82 = .ok (.dup, 1) := by decide +kernel
theorem dX5_init_83 : decode cX5_init 83 = .ok (.bipush 12, 2) := by decide +kernel
theorem dX5_init_85 : decode cX5_init 85 = .ok (.sipush 1003, 3) := by decide +kernel
theorem dX5_init_88 : decode cX5_init 88 = .ok (.iastore, 1) := by decide +kernel
theorem dX5_init_89 : decode cX5_init 89 = .ok (.dup, 1) := by decide +kernel
theorem dX5_init_90 : decode cX5_init 90 = .ok (.bipush 13, 2) := by decide +kernel
theorem dX5_init_92 : decode cX5_init 92 = .ok (.sipush 1100, 3) := by decide +kernel
theorem dX5_init_95 : decode cX5_init 95 = .ok (.iastore, 1) := by decide +kernel
theorem dX5_init_96 : decode cX5_init 96 = .ok (.dup, 1) := by decide +kernel
theorem dX5_init_97 : decode cX5_init 97 = .ok (.bipush 14, 2) := by decide +kernel
theorem dX5_init_99 : decode cX5_init 99 = .ok (.sipush 1004, 3) := by decide +kernel
theorem dX5_init_102 : decode cX5_init 102 = .ok (.iastore, 1) := by decide +kernel
theorem dX5_init_103 : decode cX5_init 103 = .ok (.dup, 1) := by decide +kernel
theorem dX5_init_104 : decode cX5_init 104 = .ok (.bipush 15, 2) := by decide +kernel
theorem dX5_init_106 : decode cX5_init 106 = .ok (.sipush 3020, 3) := by decide +kernel
theorem dX5_init_109 : decode cX5_init 109 = .ok (.iastore, 1) := by decide +kernel
theorem dX5_init_110 : decode cX5_init 110 = .ok (.dup, 1) := by decide +kernel
theorem dX5_init_111 : decode cX5_init 111 = .ok (.bipush 16, 2) := by decide +kernel
theorem dX5_init_113 : decode cX5_init 113 = .ok (.sipush 1000, 3) := by decide +kernel
theorem dX5_init_116 : decode cX5_init 116 = .ok (.iastore, 1) := by decide +kernel
theorem dX5_init_117 : decode cX5_init 117 = .ok (.dup, 1) := by decide +kernel
theorem dX5_init_118 : decode cX5_init 118 = .ok (.bipush 17, 2) := by decide +kernel
theorem dX5_init_120 : decode cX5_init 120 = .ok (.sipush 1103, 3) := by decide +kernel
theorem dX5_init_123 : decode cX5_init 123 = .ok (.iastore, 1) := by decide +kernel
theorem dX5_init_124 : decode cX5_init 124 = .ok (.dup, 1) := by decide +kernel
theorem dX5_init_125 : decode cX5_init 125 = .ok (.bipush 18, 2) := by decide +kernel
theorem dX5_init_127 : decode cX5_init 127 = .ok (.sipush 1000, 3) := by decide +kernel
theorem dX5_init_130 : decode cX5_init 130 = .ok (.iastore, 1) := by decide +kernel
theorem dX5_init_131 : decode cX5_init 131 = .ok (.dup, 1) := by decide +kernel
theorem dX5_init_132 : decode cX5_init 132 = .ok (.bipush 19, 2) := by decide +kernel
theorem dX5_init_134 : decode cX5_init 134 = .ok (.iconst 1, 1) := by decide +kernel
theorem dX5_init_135 : decode cX5_init 135 = .ok (.iastore, 1) := by decide +kernel
theorem dX5_init_136 : decode cX5_init 136 = .ok (.dup, 1) := by decide +kernel
theorem dX5_init_137 : decode cX5_init 137 = .ok (.bipush 20, 2) := by decide +kernel
theorem dX5_init_139 : decode cX5_init 139 = .ok (.sipush 1003, 3) := by decide +kernel
theorem dX5_init_142 : decode cX5_init 142 = .ok (.iastore, 1) := by decide +kernel
theorem dX5_init_143 : decode cX5_init 143 = .ok (.dup, 1) := by decide +kernel
theorem dX5_init_144 : decode cX5_init 144 = .ok (.bipush 21, 2) := by decide +kernel
theorem dX5_init_146 : decode cX5_init 146 = .ok (.sipush 1103, 3) := by decide +kernel
theorem dX5_init_149 : decode cX5_init 149 = .ok (.iastore, 1) := by decide +kernel
theorem dX5_init_150 : decode cX5_init 150 = .ok (.dup, 1) := by decide +kernel
theorem dX5_init_151 : decode cX5_init 151 = .ok (.bipush 22, 2) := by decide +kernel
theorem dX5_init_153 : decode cX5_init 153 = .ok (.sipush 1003, 3) := by decide +kernel
theorem dX5_init_156 : decode cX5_init 156 = .ok (.iastore, 1) := by decide +kernel
theorem dX5_init_157 : decode cX5_init 157 = .ok (.dup, 1) := by decide +kernel
theorem dX5_init_158 : decode cX5_init 158 = .ok (.bipush 23, 2) := by decide +kernel
theorem dX5_init_160 : decode cX5_init 160 = .ok (.sipush 3021, 3) := by decide +kernel
theorem dX5_init_163 : decode cX5_init 163 = .ok (.iastore, 1) := by decide +kernel
theorem dX5_init_164 : decode cX5_init 164 = .ok (.dup, 1) := by decide +kernel
theorem dX5_init_165 : decode cX5_init 165 = .ok (.bipush 24, 2) := by decide +kernel
theorem dX5_init_167 : decode cX5_init 167 = .ok (.sipush 1000, 3) := by decide +kernel
theorem dX5_init_170 : decode cX5_init 170 = .ok (.iastore, 1) := by decide +kernel
theorem dX5_init_171 : decode cX5_init 171 = .ok (.dup, 1) := by decide +kernel
theorem dX5_init_172 : decode cX5_init 172 = .ok (.bipush 25, 2) := by decide +kernel
theorem dX5_init_174 : decode cX5_init 174 = .ok (.sipush 1104, 3) := by decide +kernel
theorem dX5_init_177 : decode cX5_init 177 = .ok (.iastore, 1) := by decide +kernel
theorem dX5_init_178 : decode cX5_init 178 = .ok (.dup, 1) := by decide +kernel
theorem dX5_init_179 : decode cX5_init 179 = .ok (.bipush 26, 2) := by decide +kernel
theorem dX5_init_181 : decode cX5_init 181 = .ok (.bipush 85, 2) := by decide +kernel
theorem dX5_init_183 : decode cX5_init 183 = .ok (.iastore, 1) := by decide +kernel
theorem dX5_init_184 : decode cX5_init 184 = .ok (.dup, 1) := by decide +kernel
theorem dX5_init_185 : decode cX5_init 185 = .ok (.bipush 27, 2) := by decide +kernel
theorem dX5_init_187 : decode cX5_init 187 = .ok (.sipush 1006, 3) := by decide +kernel
theorem dX5_init_190 : decode cX5_init 190 = .ok (.iastore, 1) := by decide +kernel
theorem dX5_init_191 : decode cX5_init 191 = .ok (.dup, 1) := by decide +kernel
theorem dX5_init_192 : decode cX5_init 192 = .ok (.bipush 28, 2) := by decide +kernel
theorem dX5_init_194 : decode cX5_init 194 = .ok (.sipush 3030, 3) := by decide +kernel
theorem dX5_init_197 : decode cX5_init 197 = .ok (.iastore, 1) := by decide +kernel
theorem dX5_init_198 : decode cX5_init 198 = .ok (.dup, 1) := by decide +kernel
theorem dX5_init_199 : decode cX5_init 199 = .ok (.bipush 29, 2) := by decide +kernel
theorem dX5_init_201 : decode cX5_init 201 = .ok (.sipush 1000, 3) := by decide +kernel
theorem dX5_init_204 : decode cX5_init 204 = .ok (.iastore, 1) := by decide +kernel
theorem dX5_init_205 : decode cX5_init 205 = .ok (.dup, 1) := by decide +kernel
theorem dX5_init_206 : decode cX5_init 206 = .ok (.bipush 30, 2) := by decide +kernel
theorem dX5_init_208 : decode cX5_init 208 = .ok (.sipush 1314, 3) := by decide +kernel
theorem dX5_init_211 : decode cX5_init 211 = .ok (.iastore, 1) := by decide +kernel
theorem dX5_init_212 : decode cX5_init 212 = .ok (.dup, 1) := by decide +kernel
theorem dX5_init_213 : decode cX5_init 213 = .ok (.bipush 31, 2) := by decide +kernel
theorem dX5_init_215 : decode cX5_init 215 = .ok (.sipush 1000, 3) := by decide +kernel
theorem dX5_init_218 : decode cX5_init 218 = .ok (.iastore, 1) := by decide +kernel
theorem dX5_init_219 : decode cX5_init 219 = .ok (.dup, 1) := by decide +kernel
theorem dX5_init_220 : decode cX5_init 220 = .ok (.bipush 32, 2) := by decide +kernel
theorem dX5_init_222 : decode cX5_init 222 = .ok (.iconst 1, 1) := by decide +kernel
theorem dX5_init_223 : decode cX5_init 223 = .ok (.iastore, 1) := by decide +kernel
theorem dX5_init_224 : decode cX5_init 224 = .ok (.dup, 1) := by decide +kernel
theorem dX5_init_225 : decode cX5_init 225 = .ok (.bipush 33, 2) := by decide +kernel
theorem dX5_init_227 : decode cX5_init 227 = .ok (.sipush 1003, 3) := by decide +kernel
theorem dX5_init_230 : decode cX5_init 230 = .ok (.iastore, 1) := by decide +kernel
theorem dX5_init_231 : decode cX5_init 231 = .ok (.dup, 1) := by decide +kernel
theorem dX5_init_232 : decode cX5_init 232 = .ok (.bipush 34, 2) := by decide +kernel
theorem dX5_init_234 : decode cX5_init 234 = .ok (.sipush 1326, 3) := by decide +kernel
theorem dX5_init_237 : decode cX5_init 237 = .ok (.iastore, 1) := by decide +kernel
theorem dX5_init_238 : decode cX5_init 238 = .ok (.dup, 1) := by decide +kernel
theorem dX5_init_239 : decode cX5_init 239 = .ok (.bipush 35, 2) := by decide +kernel
theorem dX5_init_241 : decode cX5_init 241 = .ok (.sipush 1003, 3) := by decide +kernel
theorem dX5_init_244 : decode cX5_init 244 = .ok (.iastore, 1) := by decide +kernel
theorem dX5_init_245 : decode cX5_init 245 = .ok (.dup, 1) := by decide +kernel
theorem dX5_init_246 : decode cX5_init 246 = .ok (.bipush 36, 2) := by decide +kernel
theorem dX5_init_248 : decode cX5_init 248 = .ok (.sipush 3040, 3) := by decide +kernel
theorem dX5_init_251 : decode cX5_init 251 = .ok (.iastore, 1) := by decide +kernel
theorem dX5_init_252 : decode cX5_init 252 = .ok (.dup, 1) := by decide +kernel
theorem dX5_init_253 : decode cX5_init 253 = .ok (.bipush 37, 2) := by decide +kernel
theorem dX5_init_255 : decode cX5_init 255 = .ok (.sipush 1000, 3) := by decide +kernel
theorem dX5_init_258 : decode cX5_init 258 = .ok (.iastore, 1) := by decide +kernel
theorem dX5_init_259 : decode cX5_init 259 = .ok (.dup, 1) := by decide +kernel
theorem dX5_init_260 : decode cX5_init 260 = .ok (.bipush 38, 2) := by decide +kernel
theorem dX5_init_262 : decode cX5_init 262 = .ok (.sipush 1105, 3) := by decide +kernel
theorem dX5_init_265 : decode cX5_init 265 = .ok (.iastore, 1) := by decide +kernel
theorem dX5_init_266 : decode cX5_init 266 = .ok (.dup, 1) := by decide +kernel
theorem dX5_init_267 : decode cX5_init 267 = .ok (.bipush 39, 2) := by decide +kernel
theorem dX5_init_269 : decode cX5_init 269 = .ok (.sipush 1000, 3) := by decide +kernel
theorem dX5_init_272 : decode cX5_init 272 = .ok (.iastore, 1) := by decide +kernel
theorem dX5_init_273 : decode cX5_init 273 = .ok (.dup, 1) := by decide +kernel
theorem dX5_init_274 : decode cX5_init 274 = .ok (.bipush 40, 2) := by decide +kernel
theorem dX5_init_276 : decode cX5_init 276 = .ok (.sipush 1003, 3) := by decide +kernel
theorem dX5_init_279 : decode cX5_init 279 = .ok (.iastore, 1) := by decide +kernel
theorem dX5_init_280 : decode cX5_init 280 = .ok (.dup, 1) := by decide +kernel
theorem dX5_init_281 : decode cX5_init 281 = .ok (.bipush 41, 2) := by decide +kernel
theorem dX5_init_283 : decode cX5_init 283 = .ok (.sipush 3041, 3) := by decide +kernel
theorem dX5_init_286 : decode cX5_init 286 = .ok (.iastore, 1) := by decide +kernel
theorem dX5_init_287 : decode cX5_init 287 = .ok (.dup, 1) := by decide +kernel
theorem dX5_init_288 : decode cX5_init 288 = .ok (.bipush 42, 2) := by decide +kernel
theorem dX5_init_290 : decode cX5_init 290 = .ok (.sipush 1000, 3) := by decide +kernel
theorem dX5_init_293 : decode cX5_init 293 = .ok (.iastore, 1) := by decide +kernel
theorem dX5_init_294 : decode cX5_init 294 = .ok (.dup, 1) := by decide +kernel
theorem dX5_init_295 : decode cX5_init 295 = .ok (.bipush 43, 2) := by decide +kernel
theorem dX5_init_297 : decode cX5_init 297 = .ok (.sipush 1106, 3) := by decide +kernel
theorem dX5_init_300 : decode cX5_init 300 = .ok (.iastore, 1) := by decide +kernel
theorem dX5_init_301 : decode cX5_init 301 = .ok (.dup, 1) := by decide +kernel
theorem dX5_init_302 : decode cX5_init 302 = .ok (.bipush 44, 2) := by decide +kernel
theorem dX5_init_304 : decode cX5_init 304 = .ok (.iconst 2, 1) := by decide +kernel
theorem dX5_init_305 : decode cX5_init 305 = .ok (.iastore, 1) := by decide +kernel
theorem dX5_init_306 : decode cX5_init 306 = .ok (.dup, 1) := by decide +kernel
theorem dX5_init_307 : decode cX5_init 307 = .ok (.bipush 45, 2) := by decide +kernel
theorem dX5_init_309 : decode cX5_init 309 = .ok (.sipush 1005, 3) := by decide +kernel
theorem dX5_init_312 : decode cX5_init 312 = .ok (.iastore, 1) := by decide +kernel
theorem dX5_init_313 : decode cX5_init 313 = .ok (.dup, 1) := by decide +kernel
theorem dX5_init_314 : decode cX5_init 314 = .ok (.bipush 46, 2) := by decide +kernel
theorem dX5_init_316 : decode cX5_init 316 = .ok (.iconst 1, 1) := by decide +kernel
theorem dX5_init_317 : decode cX5_init 317 = .ok (.iastore, 1) := by decide +kernel
theorem dX5_init_318 : decode cX5_init 318 = .ok (.dup, 1) := by decide +kernel
theorem dX5_init_319 : decode cX5_init 319 = .ok (.bipush 47, 2) := by decide +kernel
theorem dX5_init_321 : decode cX5_init 321 = .ok (.sipush 1106, 3) := by decide +kernel
theorem dX5_init_324 : decode cX5_init 324 = .ok (.iastore, 1) := by decide +kernel
theorem dX5_init_325 : decode cX5_init 325 = .ok (.dup, 1) := by decide +kernel
theorem dX5_init_326 : decode cX5_init 326 = .ok (.bipush 48, 2) := by decide +kernel
theorem dX5_init_328 : decode cX5_init 328 = .ok (.sipush 1003, 3) := by decide +kernel
theorem dX5_init_331 : decode cX5_init 331 = .ok (.iastore, 1) := by decide +kernel
theorem dX5_init_332 : decode cX5_init 332 = .ok (.dup, 1) := by decide +kernel
theorem dX5_init_333 : decode cX5_init 333 = .ok (.bipush 49, 2) := by decide +kernel
theorem dX5_init_335 : decode cX5_init 335 = .ok (.sipush 3050, 3) := by decide +kernel
theorem dX5_init_338 : decode cX5_init 338 = .ok (.iastore, 1) := by decide +kernel
theorem dX5_init_339 : decode cX5_init 339 = .ok (.dup, 1) := by decide +kernel
theorem dX5_init_340 : decode cX5_init 340 = .ok (.bipush 50, 2) := by decide +kernel
theorem dX5_init_342 : decode cX5_init 342 = .ok (.sipush 1000, 3) := by decide +kernel
theorem dX5_init_345 : decode cX5_init 345 = .ok (.iastore, 1) := by decide +kernel
theorem dX5_init_346 : decode cX5_init 346 = .ok (.dup, 1) := by decide +kernel
theorem dX5_init_347 : decode cX5_init 347 = .ok (.bipush 51, 2) := by decide +kernel
theorem dX5_init_349 : decode cX5_init 349 = .ok (.sipush 1355, 3) := by decide +kernel
theorem dX5_init_352 : decode cX5_init 352 = .ok (.iastore, 1) := by decide +kernel
theorem dX5_init_353 : decode cX5_init 353 = .ok (.dup, 1) := by decide +kernel
theorem dX5_init_354 : decode cX5_init 354 = .ok (.bipush 52, 2) := by decide +kernel
theorem dX5_init_356 : decode cX5_init 356 = .ok (.sipush 1000, 3) := by decide +kernel
theorem dX5_init_359 : decode cX5_init 359 = .ok (.iastore, 1) := by decide +kernel
theorem dX5_init_360 : decode cX5_init 360 = .ok (.dup, 1) := by decide +kernel
theorem dX5_init_361 : decode cX5_init 361 = .ok (.bipush 53, 2) := by decide +kernel
theorem dX5_init_363 : decode cX5_init 363 = .ok (.sipush 1108, 3) := by decide +kernel
theorem dX5_init_366 : decode cX5_init 366 = .ok (.iastore, 1) := by decide +kernel
theorem dX5_init_367 : decode cX5_init 367 = .ok (.dup, 1) := by decide +kernel
theorem dX5_init_368 : decode cX5_init 368 = .ok (.bipush 54, 2) := by decide +kernel
theorem dX5_init_370 : decode cX5_init 370 = .ok (.sipush 1004, 3) := by decide +kernel
theorem dX5_init_373 : decode cX5_init 373 = .ok (.iastore, 1) := by decide +kernel
theorem dX5_init_374 : decode cX5_init 374 = .ok (.dup, 1) := by decide +kernel
theorem dX5_init_375 : decode cX5_init 375 = .ok (.bipush 55, 2) := by decide +kernel
theorem dX5_init_377 : decode cX5_init 377 = .ok (.sipush 3051, 3) := by decide +kernel
theorem dX5_init_380 : decode cX5_init 380 = .ok (.iastore, 1) := by decide +kernel
theorem dX5_init_381 : decode cX5_init 381 = .ok (.dup, 1) := by decide +kernel
theorem dX5_init_382 : decode cX5_init 382 = .ok (.bipush 56, 2) := by decide +kernel
theorem dX5_init_384 : decode cX5_init 384 = .ok (.sipush 1000, 3) := by decide +kernel
theorem dX5_init_387 : decode cX5_init 387 = .ok (.iastore, 1) := by decide +kernel
theorem dX5_init_388 : decode cX5_init 388 = .ok (.dup, 1) := by decide +kernel
theorem dX5_init_389 : decode cX5_init 389 = .ok (.bipush 57, 2) := by decide +kernel
theorem dX5_init_391 : decode cX5_init 391 = .ok (.sipush 2052, 3) := by decide +kernel
theorem dX5_init_394 : decode cX5_init 394 = .ok (.iastore, 1) := by decide +kernel
theorem dX5_init_395 : decode cX5_init 395 = .ok (.dup, 1) := by decide +kernel
theorem dX5_init_396 : decode cX5_init 396 = .ok (.bipush 58, 2) := by decide +kernel
theorem dX5_init_398 : decode cX5_init 398 = .ok (.iconst 2, 1) := by decide +kernel
theorem dX5_init_399 : decode cX5_init 399 = .ok (.iastore, 1) := by decide +kernel
theorem dX5_init_400 : decode cX5_init 400 = .ok (.dup, 1) := by decide +kernel
theorem dX5_init_401 : decode cX5_init 401 = .ok (.bipush 59, 2) := by decide +kernel
theorem dX5_init_403 : decode cX5_init 403 = .ok (.sipush 1105, 3) := by decide +kernel
theorem dX5_init_406 : decode cX5_init 406 = .ok (.iastore, 1) := by decide +kernel
theorem dX5_init_407 : decode cX5_init 407 = .ok (.dup, 1) := by decide +kernel
theorem dX5_init_408 : decode cX5_init 408 = .ok (.bipush 60, 2) := by decide +kernel
theorem dX5_init_410 : decode cX5_init 410 = .ok (.sipush 1003, 3) := by decide +kernel
theorem dX5_init_413 : decode cX5_init 413 = .ok (.iastore, 1) := by decide +kernel
theorem dX5_init_414 : decode cX5_init 414 = .ok (.dup, 1) := by decide +kernel
theorem dX5_init_415 : decode cX5_init 415 = .ok (.bipush 61, 2) := by decide +kernel
theorem dX5_init_417 : decode cX5_init 417 = .ok (.sipush 3052, 3) := by decide +kernel
theorem dX5_init_420 : decode cX5_init 420 = .ok (.iastore, 1) := by decide +kernel
theorem dX5_init_421 : decode cX5_init 421 = .ok (.dup, 1) := by decide +kernel
theorem dX5_init_422 : decode cX5_init 422 = .ok (.bipush 62, 2) := by decide +kernel
theorem dX5_init_424 : decode cX5_init 424 = .ok (.sipush 1000, 3) := by decide +kernel
theorem dX5_init_427 : decode cX5_init 427 = .ok (.iastore, 1) := by decide +kernel
theorem dX5_init_428 : decode cX5_init 428 = .ok (.dup, 1) := by decide +kernel
theorem dX5_init_429 : decode cX5_init 429 = .ok (.bipush 63, 2) := by decide +kernel
theorem dX5_init_431 : decode cX5_init 431 = .ok (.sipush 1105, 3) := by decide +kernel
theorem dX5_init_434 : decode cX5_init 434 = .ok (.iastore, 1) := by decide +kernel
theorem dX5_init_435 : decode cX5_init 435 = .ok (.dup, 1) := by decide +kernel
theorem dX5_init_436 : decode cX5_init 436 = .ok (.bipush 64, 2) := by decide +kernel
theorem dX5_init_438 : decode cX5_init 438 = .ok (.iconst 5, 1) := by decide +kernel
theorem dX5_init_439 : decode cX5_init 439 = .ok (.iastore, 1) := by decide +kernel
theorem dX5_init_440 : decode cX5_init 440 = .ok (.dup, 1) := by decide +kernel
theorem dX5_init_441 : decode cX5_init 441 = .ok (.bipush 65, 2) := by decide +kernel
theorem dX5_init_443 : decode cX5_init 443 = .ok (.sipush 1005, 3) := by decide +kernel
theorem dX5_init_446 : decode cX5_init 446 = .ok (.iastore, 1) := by decide +kernel
theorem dX5_init_447 : decode cX5_init 447 = .ok (.dup, 1) := by decide +kernel
theorem dX5_init_448 : decode cX5_init 448 = .ok (.bipush 66, 2) := by decide +kernel
theorem dX5_init_450 : decode cX5_init 450 = .ok (.sipush 3060, 3) := by decide +kernel
theorem dX5_init_453 : decode cX5_init 453 = .ok (.iastore, 1) := by decide +kernel
theorem dX5_init_454 : decode cX5_init 454 = .ok (.dup, 1) := by decide +kernel
theorem dX5_init_455 : decode cX5_init 455 = .ok (.bipush 67, 2) := by decide +kernel
theorem dX5_init_457 : decode cX5_init 457 = .ok (.sipush 1001, 3) := by decide +kernel
theorem dX5_init_460 : decode cX5_init 460 = .ok (.iastore, 1) := by decide +kernel
theorem dX5_init_461 : decode cX5_init 461 = .ok (.dup, 1) := by decide +kernel
theorem dX5_init_462 : decode cX5_init 462 = .ok (.bipush 68, 2) := by decide +kernel
theorem dX5_init_464 : decode cX5_init 464 = .ok (.sipush 1000, 3) := by decide +kernel
theorem dX5_init_467 : decode cX5_init 467 = .ok (.iastore, 1) := by decide +kernel
theorem dX5_init_468 : decode cX5_init 468 = .ok (.dup, 1) := by decide +kernel
theorem dX5_init_469 : decode cX5_init 469 = .ok (.bipush 69, 2) := by decide +kernel
theorem dX5_init_471 : decode cX5_init 471 = .ok (.sipush 1003, 3) := by decide +kernel
theorem dX5_init_474 : decode cX5_init 474 = .ok (.iastore, 1) := by decide +kernel
theorem dX5_init_475 : decode cX5_init 475 = .ok (.dup, 1) := by decide +kernel
theorem dX5_init_476 : decode cX5_init 476 = .ok (.bipush 70, 2) := by decide +kernel
theorem dX5_init_478 : decode cX5_init 478 = .ok (.sipush 1008, 3) := by decide +kernel
theorem dX5_init_481 : decode cX5_init 481 = .ok (.iastore, 1) := by decide +kernel
theorem dX5_init_482 : decode cX5_init 482 = .ok (.dup, 1) := by decide +kernel
theorem dX5_init_483 : decode cX5_init 483 = .ok (.bipush 71, 2) := by decide +kernel
theorem dX5_init_485 : decode cX5_init 485 = .ok (.sipush 1001, 3) := by decide +kernel
theorem dX5_init_488 : decode cX5_init 488 = .ok (.iastore, 1) := by decide +kernel
theorem dX5_init_489 : decode cX5_init 489 = .ok (.dup, 1) := by decide +kernel
theorem dX5_init_490 : decode cX5_init 490 = .ok (.bipush 72, 2) := by decide +kernel
theorem dX5_init_492 : decode cX5_init 492 = .ok (.sipush 3061, 3) := by decide +kernel
theorem dX5_init_495 : decode cX5_init 495 = .ok (.iastore, 1) := by decide +kernel
theorem dX5_init_496 : decode cX5_init 496 = .ok (.dup, 1) := by decide +kernel
theorem dX5_init_497 : decode cX5_init 497 = .ok (.bipush 73, 2) := by decide +kernel
theorem dX5_init_499 : decode cX5_init 499 = .ok (.sipush 1001, 3) := by decide +kernel
theorem dX5_init_502 : decode cX5_init 502 = .ok (.iastore, 1) := by decide +kernel
theorem dX5_init_503 : decode cX5_init 503 = .ok (.dup, 1) := by decide +kernel
theorem dX5_init_504 : decode cX5_init 504 = .ok (.bipush 74, 2) := by decide +kernel
theorem dX5_init_506 : decode cX5_init 506 = .ok (.iconst 3, 1) := by decide +kernel
theorem dX5_init_507 : decode cX5_init 507 = .ok (.iastore, 1) := by decide +kernel
theorem dX5_init_508 : decode cX5_init 508 = .ok (.dup, 1) := by decide +kernel
theorem dX5_init_509 : decode cX5_init 509 = .ok (.bipush 75, 2) := by decide +kernel
theorem dX5_init_511 : decode cX5_init 511 = .ok (.sipush 1000, 3) := by decide +kernel
theorem dX5_init_514 : decode cX5_init 514 = .ok (.iastore, 1) := by decide +kernel
theorem dX5_init_515 : decode cX5_init 515 = .ok (.dup, 1) := by decide +kernel
theorem dX5_init_516 : decode cX5_init 516 = .ok (.bipush 76, 2) := by decide +kernel
theorem dX5_init_518 : decode cX5_init 518 = .ok (.sipush 1005, 3) := by decide +kernel
theorem dX5_init_521 : decode cX5_init 521 = .ok (.iastore, 1) := by decide +kernel
theorem dX5_init_522 : decode cX5_init 522 = .ok (.dup, 1) := by decide +kernel
theorem dX5_init_523 : decode cX5_init 523 = .ok (.bipush 77, 2) := by decide +kernel
theorem dX5_init_525 : decode cX5_init 525 = .ok (.sipush 1004, 3) := by decide +kernel
theorem dX5_init_528 : decode cX5_init 528 = .ok (.iastore, 1) := by decide +kernel
theorem dX5_init_529 : decode cX5_init 529 = .ok (.dup, 1) := by decide +kernel
theorem dX5_init_530 : decode cX5_init 530 = .ok (.bipush 78, 2) := by decide +kernel
theorem dX5_init_532 : decode cX5_init 532 = .ok (.sipush 1008, 3) := by decide +kernel
theorem dX5_init_535 : decode cX5_init 535 = .ok (.iastore, 1) := by decide +kernel
theorem dX5_init_536 : decode cX5_init 536 = .ok (.dup, 1) := by decide +kernel
theorem dX5_init_537 : decode cX5_init 537 = .ok (.bipush 79, 2) := by decide +kernel
theorem dX5_init_539 : decode cX5_init 539 = .ok (.sipush 1001, 3) := by decide +kernel
theorem dX5_init_542 : decode cX5_init 542 = .ok (.iastore, 1) := by decide +kernel
theorem dX5_init_543 : decode cX5_init 543 = .ok (.dup, 1) := by decide +kernel
theorem dX5_init_544 : decode cX5_init 544 = .ok (.bipush 80, 2) := by decide +kernel
theorem dX5_init_546 : decode cX5_init 546 = .ok (.sipush 3062, 3) := by decide +kernel
theorem dX5_init_549 : decode cX5_init 549 = .ok (.iastore, 1) := by decide +kernel
theorem dX5_init_550 : decode cX5_init 550 = .ok (.dup, 1) := by decide +kernel
theorem dX5_init_551 : decode cX5_init 551 = .ok (.bipush 81, 2) := by decide +kernel
theorem dX5_init_553 : decode cX5_init 553 = .ok (.sipush 1001, 3) := by decide +kernel
theorem dX5_init_556 : decode cX5_init 556 = .ok (.iastore, 1) := by decide +kernel
theorem dX5_init_557 : decode cX5_init 557 = .ok (.dup, 1) := by decide +kernel
theorem dX5_init_558 : decode cX5_init 558 = .ok (.bipush 82, 2) := by decide +kernel
theorem dX5_init_560 : decode cX5_init 560 = .ok (.bipush 31, 2) := by decide +kernel
theorem dX5_init_562 : decode cX5_init 562 = .ok (.iastore, 1) := by decide +kernel
theorem dX5_init_563 : decode cX5_init 563 = .ok (.dup, 1) := by decide +kernel
theorem dX5_init_564 : decode cX5_init 564 = .ok (.bipush 83, 2) := by decide +kernel
theorem dX5_init_566 : decode cX5_init 566 = .ok (.sipush 1005, 3) := by decide +kernel
theorem dX5_init_569 : decode cX5_init 569 = .ok (.iastore, 1) := by decide +kernel
theorem dX5_init_570 : decode cX5_init 570 = .ok (.dup, 1) := by decide +kernel
theorem dX5_init_571 : decode cX5_init 571 = .ok (.bipush 84, 2) := by decide +kernel
theorem dX5_init_573 : decode cX5_init 573 = .ok (.sipush 1000, 3) := by decide +kernel
theorem dX5_init_576 : decode cX5_init 576 = .ok (.iastore, 1) := by decide +kernel
theorem dX5_init_577 : decode cX5_init 577 = .ok (.dup, 1) := by decide +kernel
theorem dX5_init_578 : decode cX5_init 578 = .ok (.bipush 85, 2) := by decide +kernel
theorem dX5_init_580 : decode cX5_init 580 = .ok (.sipush 1003, 3) := by decide +kernel
theorem dX5_init_583 : decode cX5_init 583 = .ok (.iastore, 1) := by decide +kernel
theorem dX5_init_584 : decode cX5_init 584 = .ok (.dup, 1) := by decide +kernel
theorem dX5_init_585 : decode cX5_init 585 = .ok (.bipush 86, 2) := by decide +kernel
theorem dX5_init_587 : decode cX5_init 587 = .ok (.sipush 1008, 3) := by decide +kernel
theorem dX5_init_590 : decode cX5_init 590 = .ok (.iastore, 1) := by decide +kernel
theorem dX5_init_591 : decode cX5_init 591 = .ok (.dup, 1) := by decide +kernel
theorem dX5_init_592 : decode cX5_init 592 = .ok (.bipush 87, 2) := by decide +kernel
theorem dX5_init_594 : decode cX5_init 594 = .ok (.sipush 1001, 3) := by decide +kernel
theorem dX5_init_597 : decode cX5_init 597 = .ok (.iastore, 1) := by decide +kernel
theorem dX5_init_598 : decode cX5_init 598 = .ok (.dup, 1) := by decide +kernel
theorem dX5_init_599 : decode cX5_init 599 = .ok (.bipush 88, 2) := by decide +kernel
theorem dX5_init_601 : decode cX5_init 601 = .ok (.sipush 3063, 3) := by decide +kernel
theorem dX5_init_604 : decode cX5_init 604 = .ok (.iastore, 1) := by decide +kernel
theorem dX5_init_605 : decode cX5_init 605 = .ok (.dup, 1) := by decide +kernel
theorem dX5_init_606 : decode cX5_init 606 = .ok (.bipush 89, 2) := by decide +kernel
theorem dX5_init_608 : decode cX5_init 608 = .ok (.sipush 1001, 3) := by decide +kernel
theorem dX5_init_611 : decode cX5_init 611 = .ok (.iastore, 1) := by decide +kernel
theorem dX5_init_612 : decode cX5_init 612 = .ok (.dup, 1) := by decide +kernel
theorem dX5_init_613 : decode cX5_init 613 = .ok (.bipush 90, 2) := by decide +kernel
theorem dX5_init_615 : decode cX5_init 615 = .ok (.sipush 1000, 3) := by decide +kernel
theorem dX5_init_618 : decode cX5_init 618 = .ok (.iastore, 1) := by decide +kernel
theorem dX5_init_619 : decode cX5_init 619 = .ok (.dup, 1) := by decide +kernel
theorem dX5_init_620 : decode cX5_init 620 = .ok (.bipush 91, 2) := by decide +kernel
theorem dX5_init_622 : decode cX5_init 622 = .ok (.sipush 1006, 3) := by decide +kernel
theorem dX5_init_625 : decode cX5_init 625 = .ok (.iastore, 1) := by decide +kernel
theorem dX5_init_626 : decode cX5_init 626 = .ok (.dup, 1) := by decide +kernel
theorem dX5_init_627 : decode cX5_init 627 = .ok (.bipush 92, 2) := by decide +kernel
theorem dX5_init_629 : decode cX5_init 629 = .ok (.sipush 3064, 3) := by decide +kernel
theorem dX5_init_632 : decode cX5_init 632 = .ok (.iastore, 1) := by decide +kernel
theorem dX5_init_633 : decode cX5_init 633 = .ok (.dup, 1) := by decide +kernel
theorem dX5_init_634 : decode cX5_init 634 = .ok (.bipush 93, 2) := by decide +kernel
theorem dX5_init_636 : decode cX5_init 636 = .ok (.sipush 1000, 3) := by decide +kernel
theorem dX5_init_639 : decode cX5_init 639 = .ok (.iastore, 1) := by decide +kernel
theorem dX5_init_640 : decode cX5_init 640 = .ok (.dup, 1) := by decide +kernel
theorem dX5_init_641 : decode cX5_init 641 = .ok (.bipush 94, 2) := by decide +kernel
