theorem dX8_init_0 : decode cX8_init 0 = .ok (.aload_n 0, 1) := by decide +kernel
theorem dX8_init_1 : decode cX8_init 1 = .ok (.invokespecial 1, 3) := by decide +kernel
theorem dX8_init_4 : decode cX8_init 4 = .ok (.aload_n 0, 1) := by decide +kernel
theorem dX8_init_5 : decode cX8_init 5 = .ok (.sipush 300, 3) := by decide +kernel
theorem dX8_init_8 : decode cX8_init 8 = .ok (.newarray .int, 2) := by decide +kernel
theorem dX8_init_10 : decode cX8_init 10 = .ok (.putfield 7, 3) := by decide +kernel
theorem dX8_init_13 : decode cX8_init 13 = .ok (.aload_n 0, 1) := by decide +kernel
theorem dX8_init_14 : decode cX8_init 14 = .ok (.bipush 16, 2) := by decide +kernel
theorem dX8_init_16 : decode cX8_init 16 = .ok (.newarray .int, 2) := by decide +kernel
theorem dX8_init_18 : decode cX8_init 18 = .ok (.putfield 13, 3) := by decide +kernel
theorem dX8_init_21 : decode cX8_init 21 = .ok (.aload_n 0, 1) := by decide +kernel
theorem dX8_init_22 : decode cX8_init 22 = .ok (.iconst 1, 1) := by decide +kernel
theorem dX8_init_23 : decode cX8_init 23 = .ok (.putfield 16, 3) := by decide +kernel
theorem dX8_init_26 : decode cX8_init 26 = .ok (.aload_n 0, 1) := by decide +kernel
theorem dX8_init_27 : decode cX8_init 27 = .ok (.bipush 100, 2) := by decide +kernel
theorem dX8_init_29 : decode cX8_init 29 = .ok (.putfield 20, 3) := by decide +kernel
theorem dX8_init_32 : decode cX8_init 32 = .ok (.aload_n 0, 1) := by decide +kernel
theorem dX8_init_33 : decode cX8_init 33 = .ok (.bipush 7, 2) := by decide +kernel
theorem dX8_init_35 : decode cX8_init 35 = .ok (.putfield 23, 3) := by decide +kernel
theorem dX8_init_38 : decode cX8_init 38 = .ok (.aload_n 0, 1) := by decide +kernel
theorem dX8_init_39 : decode cX8_init 39 = .ok (.bipush 14, 2) := by decide +kernel
theorem dX8_init_41 : decode cX8_init 41 = .ok (.putfield 26, 3) := by decide +kernel
theorem dX8_init_44 : decode cX8_init 44 = .ok (.aload_n 0, 1) := by decide +kernel
theorem dX8_init_45 : decode cX8_init 45 = .ok (.iconst 3, 1) := by decide +kernel
theorem dX8_init_46 : decode cX8_init 46 = .ok (.putfield 29, 3) := by decide +kernel
theorem dX8_init_49 : decode cX8_init 49 = .ok (.aload_n 0, 1) := by decide +kernel
theorem dX8_init_50 : decode cX8_init 50 = .ok (.iconst 1, 1) := by decide +kernel
theorem dX8_init_51 : decode cX8_init 51 = .ok (.putfield 32, 3) := by decide +kernel
theorem dX8_init_54 : decode cX8_init 54 = .ok (.aload_n 0, 1) := by decide +kernel
theorem dX8_init_55 : decode cX8_init 55 = .ok (.bipush 8, 2) := by decide +kernel
theorem dX8_init_57 : decode cX8_init 57 = .ok (.putfield 35, 3) := by decide +kernel
theorem dX8_init_60 : decode cX8_init 60 = .ok (.aload_n 0, 1) := by decide +kernel
theorem dX8_init_61 : decode cX8_init 61 = .ok (.iconst (-1), 1) := by decide +kernel
theorem dX8_init_62 : decode cX8_init 62 = .ok (.putfield 38, 3) := by decide +kernel
theorem dX8_init_65 : decode cX8_init 65 = .ok (.aload_n 0, 1) := by decide +kernel
theorem dX8_init_66 : decode cX8_init 66 = .ok (.bipush 8, 2) := by decide +kernel
theorem dX8_init_68 : decode cX8_init 68 = .ok (.newarray .int, 2) := by decide +kernel
theorem dX8_init_70 : decode cX8_init 70 = .ok (.putfield 41, 3) := by decide +kernel
theorem dX8_init_73 : decode cX8_init 73 = .ok (.aload_n 0, 1) := by decide +kernel
theorem dX8_init_74 : decode cX8_init 74 = .ok (.bipush 8, 2) := by decide +kernel
theorem dX8_init_76 : decode cX8_init 76 = .ok (.newarray .int, 2) := by decide +kernel
theorem dX8_init_78 : decode cX8_init 78 = .ok (.putfield 44, 3) := by decide +kernel
theorem dX8_init_81 : decode cX8_init 81 = .ok (.aload_n 0, 1) := by decide +kernel
theorem dX8_init_82 : decode cX8_init 82 = .ok (.bipush 16, 2) := by decide +kernel
theorem dX8_init_84 : decode cX8_init 84 = .ok (.newarray .int, 2) := by decide +kernel
theorem dX8_init_86 : decode cX8_init 86 = .ok (.putfield 47, 3) := by decide +kernel
theorem dX8_init_89 : decode cX8_init 89 = .ok (.aload_n 0, 1) := by decide +kernel
theorem dX8_init_90 : decode cX8_init 90 = .ok (.bipush 16, 2) := by decide +kernel
theorem dX8_init_92 : decode cX8_init 92 = .ok (.newarray .int, 2) := by decide +kernel
theorem dX8_init_94 : decode cX8_init 94 = .ok (.putfield 50, 3) := by decide +kernel
theorem dX8_init_97 : decode cX8_init 97 = .ok (.aload_n 0, 1) := by decide +kernel
theorem dX8_init_98 : decode cX8_init 98 = .ok (.bipush 16, 2) := by decide +kernel
theorem dX8_init_100 : decode cX8_init 100 = .ok (.newarray .int, 2) := by decide +kernel
theorem dX8_init_102 : decode cX8_init 102 = .ok (.putfield 53, 3) := by decide +kernel
theorem dX8_init_105 : decode cX8_init 105 = .ok (.aload_n 0, 1) := by decide +kernel
theorem dX8_init_106 : decode cX8_init 106 = .ok (.bipush 16, 2) := by decide +kernel
theorem dX8_init_108 : decode cX8_init 108 = .ok (.newarray .int, 2) := by decide +kernel
theorem dX8_init_110 : decode cX8_init 110 = .ok (.putfield 56, 3) := by decide +kernel
theorem dX8_init_113 : decode cX8_init 113 = .ok (.aload_n 0, 1) := by decide +kernel
theorem dX8_init_114 : decode cX8_init 114 = .ok (.bipush 16, 2) := by decide +kernel
theorem dX8_init_116 : decode cX8_init 116 = .ok (.newarray .int, 2) := by decide +kernel
theorem dX8_init_118 : decode cX8_init 118 = .ok (.putfield 59, 3) := by decide +kernel
theorem dX8_init_121 : decode cX8_init 121 = .ok (.aload_n 0, 1) := by decide +kernel
theorem dX8_init_122 : decode cX8_init 122 = .ok (.bipush 40, 2) := by decide +kernel
theorem dX8_init_124 : decode cX8_init 124 = .ok (.newarray .int, 2) := by decide +kernel
theorem dX8_init_126 : decode cX8_init 126 = .ok (.putfield 62, 3) := by decide +kernel
theorem dX8_init_129 : decode cX8_init 129 = .ok (.aload_n 0, 1) := by decide +kernel
theorem dX8_init_130 : decode cX8_init 130 = .ok (.bipush 40, 2) := by decide +kernel
theorem dX8_init_132 : decode cX8_init 132 = .ok (.newarray .int, 2) := by decide +kernel
theorem dX8_init_134 : decode cX8_init 134 = .ok (.putfield 65, 3) := by decide +kernel
theorem dX8_init_137 : decode cX8_init 137 = .ok (.aload_n 0, 1) := by decide +kernel
theorem dX8_init_138 : decode cX8_init 138 = .ok (.bipush 40, 2) := by decide +kernel
theorem dX8_init_140 : decode cX8_init 140 = .ok (.newarray .boolean, 2) := by decide +kernel
theorem dX8_init_142 : decode cX8_init 142 = .ok (.putfield 68, 3) := by decide +kernel
theorem dX8_init_145 : decode cX8_init 145 = .ok (.aload_n 0, 1) := by decide +kernel
theorem dX8_init_146 : decode cX8_init 146 = .ok (.bipush 40, 2) := by decide +kernel
theorem dX8_init_148 : decode cX8_init 148 = .ok (.newarray .int, 2) := by decide +kernel
theorem dX8_init_150 : decode cX8_init 150 = .ok (.putfield 72, 3) := by decide +kernel
theorem dX8_init_153 : decode cX8_init 153 = .ok (.aload_n 0, 1) := by decide +kernel
theorem dX8_init_154 : decode cX8_init 154 = .ok (.bipush 8, 2) := by decide +kernel
theorem dX8_init_156 : decode cX8_init 156 = .ok (.newarray .int, 2) := by decide +kernel
theorem dX8_init_158 : decode cX8_init 158 = .ok (.putfield 75, 3) := by decide +kernel
theorem dX8_init_161 : decode cX8_init 161 = .ok (.aload_n 0, 1) := by decide +kernel
theorem dX8_init_162 : decode cX8_init 162 = .ok (.bipush 8, 2) := by decide +kernel
theorem dX8_init_164 : decode cX8_init 164 = .ok (.newarray .int, 2) := by decide +kernel
theorem dX8_init_166 : decode cX8_init 166 = .ok (.putfield 78, 3) := by decide +kernel
theorem dX8_init_169 : decode cX8_init 169 = .ok (.aload_n 0, 1) := by decide +kernel
theorem dX8_init_170 : decode cX8_init 170 = .ok (.bipush 6, 2) := by decide +kernel
theorem dX8_init_172 : decode cX8_init 172 = .ok (.newarray .int, 2) := by decide +kernel
theorem dX8_init_174 : decode cX8_init 174 = .ok (.putfield 81, 3) := by decide +kernel
theorem dX8_init_177 : decode cX8_init 177 = .ok (.aload_n 0, 1) := by decide +kernel
theorem dX8_init_178 : decode cX8_init 178 = .ok (.bipush 43, 2) := by decide +kernel
theorem dX8_init_180 : decode cX8_init 180 = .ok (.newarray .int, 2) := by decide +kernel
theorem dX8_init_182 : decode cX8_init 182 = .ok (.dup, 1) := by decide +kernel
theorem dX8_init_183 : decode cX8_init 183 = .ok (.iconst 0, 1) := by decide +kernel
theorem dX8_init_184 : decode cX8_init 184 = .ok (.bipush 116, 2) := by decide +kernel
theorem dX8_init_186 : decode cX8_init 186 = .ok (.iastore, 1) := by decide +kernel
theorem dX8_init_187 : decode cX8_init 187 = .ok (.dup, 1) := by decide +kernel
theorem dX8_init_188 : decode cX8_init 188 = .ok (.iconst 1, 1) := by decide +kernel
theorem dX8_init_189 : decode cX8_init 189 = .ok (.bipush 117, 2) := by decide +kernel
theorem dX8_init_191 : decode cX8_init 191 = .ok (.iastore, 1) := by decide +kernel
theorem dX8_init_192 : decode cX8_init 192 = .ok (.dup, 1) := by decide +kernel
theorem dX8_init_193 : decode cX8_init 193 = .ok (.iconst 2, 1) := by decide +kernel
theorem dX8_init_194 : decode cX8_init 194 = .ok (.bipush 114, 2) := by decide +kernel
theorem dX8_init_196 : decode cX8_init 196 = .ok (.iastore, 1) := by decide +kernel
theorem dX8_init_197 : decode cX8_init 197 = .ok (.dup, 1) := by decide +kernel
theorem dX8_init_198 : decode cX8_init 198 = .ok (.iconst 3, 1) := by decide +kernel
theorem dX8_init_199 : decode cX8_init 199 = .ok (.bipush 110, 2) := by decide +kernel
theorem dX8_init_201 : decode cX8_init 201 = .ok (.iastore, 1) := by decide +kernel
theorem dX8_init_202 : decode cX8_init 202 = .ok (.dup, 1) := by decide +kernel
theorem dX8_init_203 : decode cX8_init 203 = .ok (.iconst 4, 1) := by decide +kernel
theorem dX8_init_204 : decode cX8_init 204 = .ok (.bipush 32, 2) := by decide +kernel
theorem dX8_init_206 : decode cX8_init 206 = .ok (.iastore, 1) := by decide +kernel
theorem dX8_init_207 : decode cX8_init 207 = .ok (.dup, 1) := by decide +kernel
theorem dX8_init_208 : decode cX8_init 208 = .ok (.iconst 5, 1) := by decide +kernel
theorem dX8_init_209 : decode cX8_init 209 = .ok (.bipush 118, 2) := by decide +kernel
theorem dX8_init_211 : decode cX8_init 211 = .ok (.iastore, 1) := by decide +kernel
theorem dX8_init_212 : decode cX8_init 212 = .ok (.dup, 1) := by decide +kernel
theorem dX8_init_213 : decode cX8_init 213 = .ok (.bipush 6, 2) := by decide +kernel
theorem dX8_init_215 : decode cX8_init 215 = .ok (.bipush 111, 2) := by decide +kernel
theorem dX8_init_217 : decode cX8_init 217 = .ok (.iastore, 1) := by decide +kernel
theorem dX8_init_218 : decode cX8_init 218 = .ok (.dup, 1) := by decide +kernel
theorem dX8_init_219 : decode cX8_init 219 = .ok (.bipush 7, 2) := by decide +kernel
theorem dX8_init_221 : decode cX8_init 221 = .ok (.bipush 116, 2) := by decide +kernel
theorem dX8_init_223 : decode cX8_init 223 = .ok (.iastore, 1) := by decide +kernel
theorem dX8_init_224 : decode cX8_init 224 = .ok (.dup, 1) := by decide +kernel
theorem dX8_init_225 : decode cX8_init 225 = .ok (.bipush 8, 2) := by decide +kernel
theorem dX8_init_227 : decode cX8_init 227 = .ok (.bipush 101, 2) := by decide +kernel
theorem dX8_init_229 : decode cX8_init 229 = .ok (.iastore, 1) := by decide +kernel
theorem dX8_init_230 : decode cX8_init 230 = .ok (.dup, 1) := by decide +kernel
theorem dX8_init_231 : decode cX8_init 231 = .ok (.bipush 9, 2) := by decide +kernel
theorem dX8_init_233 : decode cX8_init 233 = .ok (.bipush 32, 2) := by decide +kernel
theorem dX8_init_235 : decode cX8_init 235 = .ok (.iastore, 1) := by decide +kernel
theorem dX8_init_236 : decode cX8_init 236 = .ok (.dup, 1) := by decide +kernel
theorem dX8_init_237 : decode cX8_init 237 = .ok (.bipush 10, 2) := by decide +kernel
theorem dX8_init_239 : decode cX8_init 239 = .ok (.bipush 110, 2) := by decide +kernel
theorem dX8_init_241 : decode cX8_init 241 = .ok (.iastore, 1) := by decide +kernel
theorem dX8_init_242 : decode cX8_init 242 = .ok (.dup, 1) := by decide +kernel
theorem dX8_init_243 : decode cX8_init 243 = .ok (.bipush 11, 2) := by decide +kernel
theorem dX8_init_245 : decode cX8_init 245 = .ok (.bipush 101, 2) := by decide +kernel
theorem dX8_init_247 : decode cX8_init 247 = .ok (.iastore, 1) := by decide +kernel
theorem dX8_init_248 : decode cX8_init 248 = .ok (.dup, 1) := by decide +kernel
theorem dX8_init_249 : decode cX8_init 249 = .ok (.bipush 12, 2) := by decide +kernel
theorem dX8_init_251 : decode cX8_init 251 = .ok (.bipush 101, 2) := by decide +kernel
theorem dX8_init_253 : decode cX8_init 253 = .ok (.iastore, 1) := by decide +kernel
theorem dX8_init_254 : decode cX8_init 254 = .ok (.dup, 1) := by decide +kernel
theorem dX8_init_255 : decode cX8_init 255 = .ok (.bipush 13, 2) := by decide +kernel
theorem dX8_init_257 : decode cX8_init 257 = .ok (.bipush 100, 2) := by decide +kernel
theorem dX8_init_259 : decode cX8_init 259 = .ok (.iastore, 1) := by decide +kernel
theorem dX8_init_260 : decode cX8_init 260 = .ok (.dup, 1) := by decide +kernel
theorem dX8_init_261 : decode cX8_init 261 = .ok (.bipush 14, 2) := by decide +kernel
theorem dX8_init_263 : decode cX8_init 263 = .ok (.bipush 32, 2) := by decide +kernel
theorem dX8_init_265 : decode cX8_init 265 = .ok (.iastore, 1) := by decide +kernel
theorem dX8_init_266 : decode cX8_init 266 = .ok (.dup, 1) := by decide +kernel
theorem dX8_init_267 : decode cX8_init 267 = .ok (.bipush 15, 2) := by decide +kernel
theorem dX8_init_269 : decode cX8_init 269 = .ok (.bipush 99, 2) := by decide +kernel
theorem dX8_init_271 : decode cX8_init 271 = .ok (.iastore, 1) := by decide +kernel
theorem dX8_init_272 : decode cX8_init 272 = .ok (.dup, 1) := by decide +kernel
theorem dX8_init_273 : decode cX8_init 273 = .ok (.bipush 16, 2) := by decide +kernel
theorem dX8_init_275 : decode cX8_init 275 = .ok (.bipush 121, 2) := by decide +kernel
theorem dX8_init_277 : decode cX8_init 277 = .ok (.iastore, 1) := by decide +kernel
theorem dX8_init_278 : decode cX8_init 278 = .ok (.dup, 1) := by decide +kernel
theorem dX8_init_279 : decode cX8_init 279 = .ok (.bipush 17, 2) := by decide +kernel
theorem dX8_init_281 : decode cX8_init 281 = .ok (.bipush 99, 2) := by decide +kernel
theorem dX8_init_283 : decode cX8_init 283 = .ok (.iastore, 1) := by decide +kernel
theorem dX8_init_284 : decode cX8_init 284 = .ok (.dup, 1) := by decide +kernel
theorem dX8_init_285 : decode cX8_init 285 = .ok (.bipush 18, 2) := by decide +kernel
theorem dX8_init_287 : decode cX8_init 287 = .ok (.bipush 108, 2) := by decide +kernel
theorem dX8_init_289 : decode cX8_init 289 = .ok (.iastore, 1) := by decide +kernel
theorem dX8_init_290 : decode cX8_init 290 = .ok (.dup, 1) := by decide +kernel
theorem dX8_init_291 : decode cX8_init 291 = .ok (.bipush 19, 2) := by decide +kernel
theorem dX8_init_293 : decode cX8_init 293 = .ok (.bipush 101, 2) := by decide +kernel
theorem dX8_init_295 : decode cX8_init 295 = .ok (.iastore, 1) := by decide +kernel
theorem dX8_init_296 : decode cX8_init 296 = .ok (.dup, 1) := by decide +kernel
theorem dX8_init_297 : decode cX8_init 297 = .ok (.bipush 20, 2) := by decide +kernel
theorem dX8_init_299 : decode cX8_init 299 = .ok (.bipush 32, 2) := by decide +kernel
theorem dX8_init_301 : decode cX8_init 301 = .ok (.iastore, 1) := by decide +kernel
theorem dX8_init_302 : decode cX8_init 302 = .ok (.dup, 1) := by decide +kernel
theorem dX8_init_303 : decode cX8_init 303 = .ok (.bipush 21, 2) := by decide +kernel
theorem dX8_init_305 : decode cX8_init 305 = .ok (.bipush 97, 2) := by decide +kernel
theorem dX8_init_307 : decode cX8_init 307 = .ok (.iastore, 1) := by decide +kernel
theorem dX8_init_308 : decode cX8_init 308 = .ok (.dup, 1) := by decide +kernel
theorem dX8_init_309 : decode cX8_init 309 = .ok (.bipush 22, 2) := by decide +kernel
theorem dX8_init_311 : decode cX8_init 311 = .ok (.bipush 103, 2) := by decide +kernel
theorem dX8_init_313 : decode cX8_init 313 = .ok (.iastore, 1) := by decide +kernel
theorem dX8_init_314 : decode cX8_init 314 = .ok (.dup, 1) := by decide +kernel
theorem dX8_init_315 : decode cX8_init 315 = .ok (.bipush 23, 2) := by decide +kernel
theorem dX8_init_317 : decode cX8_init 317 = .ok (.bipush 101, 2) := by decide +kernel
theorem dX8_init_319 : decode cX8_init 319 = .ok (.iastore, 1) := by decide +kernel
theorem dX8_init_320 : decode cX8_init 320 = .ok (.dup, 1) := by decide +kernel
theorem dX8_init_321 : decode cX8_init 321 = .ok (.bipush 24, 2) := by decide +kernel
theorem dX8_init_323 : decode cX8_init 323 = .ok (.bipush 32, 2) := by decide +kernel
theorem dX8_init_325 : decode cX8_init 325 = .ok (.iastore, 1) := by decide +kernel
theorem dX8_init_326 : decode cX8_init 326 = .ok (.dup, 1) := by decide +kernel
theorem dX8_init_327 : decode cX8_init 327 = .ok (.bipush 25, 2) := by decide +kernel
theorem dX8_init_329 : decode cX8_init 329 = .ok (.bipush 119, 2) := by decide +kernel
theorem dX8_init_331 : decode cX8_init 331 = .ok (.iastore, 1) := by decide +kernel
theorem dX8_init_332 : decode cX8_init 332 = .ok (.dup, 1) := by decide +kernel
theorem dX8_init_333 : decode cX8_init 333 = .ok (.bipush 26, 2) := by decide +kernel
theorem dX8_init_335 : decode cX8_init 335 = .ok (.bipush 101, 2) := by decide +kernel
theorem dX8_init_337 : decode cX8_init 337 = .ok (.iastore, 1) := by decide +kernel
theorem dX8_init_338 : decode cX8_init 338 = .ok (.dup, 1) := by decide +kernel
theorem dX8_init_339 : decode cX8_init 339 = .ok (.bipush 27, 2) := by decide +kernel
theorem dX8_init_341 : decode cX8_init 341 = .ok (.bipush 97, 2) := by decide +kernel
theorem dX8_init_343 : decode cX8_init 343 = .ok (.iastore, 1) := by decide +kernel
theorem dX8_init_344 : decode cX8_init 344 = .ok (.dup, 1) := by decide +kernel
theorem dX8_init_345 : decode cX8_init 345 = .ok (.bipush 28, 2) := by decide +kernel
theorem dX8_init_347 : decode cX8_init 347 = .ok (.bipush 114, 2) := by decide +kernel
theorem dX8_init_349 : decode cX8_init 349 = .ok (.iastore, 1) := by decide +kernel
theorem dX8_init_350 : decode cX8_init 350 = .ok (.dup, 1) := by decide +kernel
theorem dX8_init_351 : decode cX8_init 351 = .ok (.bipush 29, 2) := by decide +kernel
theorem dX8_init_353 : decode cX8_init 353 = .ok (.bipush 32, 2) := by decide +kernel
theorem dX8_init_355 : decode cX8_init 355 = .ok (.iastore, 1) := by decide +kernel
theorem dX8_init_356 : decode cX8_init 356 = .ok (.dup, 1) := by decide +kernel
theorem dX8_init_357 : decode cX8_init 357 = .ok (.bipush 30, 2) := by decide +kernel
theorem dX8_init_359 : decode cX8_init 359 = .ok (.bipush 115, 2) := by decide +kernel
theorem dX8_init_361 : decode cX8_init 361 = .ok (.iastore, 1) := by decide +kernel
theorem dX8_init_362 : decode cX8_init 362 = .ok (.dup, 1) := by decide +kernel
theorem dX8_init_363 : decode cX8_init 363 = .ok (.bipush 31, 2) := by decide +kernel
theorem dX8_init_365 : decode cX8_init 365 = .ok (.bipush 112, 2) := by decide +kernel
theorem dX8_init_367 : decode cX8_init 367 = .ok (.iastore, 1) := by decide +kernel
theorem dX8_init_368 : decode cX8_init 368 = .ok (.dup, 1) := by decide +kernel
theorem dX8_init_369 : decode cX8_init 369 = .ok (.bipush 32, 2) := by decide +kernel
theorem dX8_init_371 : decode cX8_init 371 = .ok (.bipush 97, 2) := by decide +kernel
theorem dX8_init_373 : decode cX8_init 373 = .ok (.iastore, 1) := by decide +kernel
theorem dX8_init_374 : decode cX8_init 374 = .ok (.dup, 1) := by decide +kernel
theorem dX8_init_375 : decode cX8_init 375 = .ok (.bipush 33, 2) := by decide +kernel
theorem dX8_init_377 : decode cX8_init 377 = .ok (.bipush 114, 2) := by decide +kernel
theorem dX8_init_379 : decode cX8_init 379 = .ok (.iastore, 1) := by decide +kernel
theorem dX8_init_380 : decode cX8_init 380 = .ok (.dup, 1) := by decide +kernel
theorem dX8_init_381 : decode cX8_init 381 = .ok (.bipush 34, 2) := by decide +kernel
theorem dX8_init_383 : decode cX8_init 383 = .ok (.bipush 101, 2) := by decide +kernel
theorem dX8_init_385 : decode cX8_init 385 = .ok (.iastore, 1) := by decide +kernel
theorem dX8_init_386 : decode cX8_init 386 = .ok (.dup, 1) := by decide +kernel
theorem dX8_init_387 : decode cX8_init 387 = .ok (.bipush 35, 2) := by decide +kernel
theorem dX8_init_389 : decode cX8_init 389 = .ok (.bipush 32, 2) := by decide +kernel
theorem dX8_init_391 : decode cX8_init 391 = .ok (.iastore, 1) := by decide +kernel
theorem dX8_init_392 : decode cX8_init 392 = .ok (.dup, 1) := by decide +kernel
theorem dX8_init_393 : decode cX8_init 393 = .ok (.bipush 36, 2) := by decide +kernel
theorem dX8_init_395 : decode cX8_init 395 = .ok (.bipush 112, 2) := by decide +kernel
theorem dX8_init_397 : decode cX8_init 397 = .ok (.iastore, 1) := by decide +kernel
theorem dX8_init_398 : decode cX8_init 398 = .ok (.dup, 1) := by decide +kernel
theorem dX8_init_399 : decode cX8_init 399 = .ok (.bipush 37, 2) := by decide +kernel
theorem dX8_init_401 : decode cX8_init 401 = .ok (.bipush 108, 2) := by decide +kernel
theorem dX8_init_403 : decode cX8_init 403 = .ok (.iastore, 1) := by decide +kernel
theorem dX8_init_404 : decode cX8_init 404 = .ok (.dup, 1) := by decide +kernel
theorem dX8_init_405 : decode cX8_init 405 = .ok (.bipush 38, 2) := by decide +kernel
theorem dX8_init_407 : decode cX8_init 407 = .ok (.bipush 97, 2) := by decide +kernel
theorem dX8_init_409 : decode cX8_init 409 = .ok (.iastore, 1) := by decide +kernel
theorem dX8_init_410 : decode cX8_init 410 = .ok (.dup, 1) := by decide +kernel
theorem dX8_init_411 : decode cX8_init 411 = .ok (.bipush 39, 2) := by decide +kernel
theorem dX8_init_413 : decode cX8_init 413 = .ok (.bipush 99, 2) := by decide +kernel
theorem dX8_init_415 : decode cX8_init 415 = .ok (.iastore, 1) := by decide +kernel
theorem dX8_init_416 : decode cX8_init 416 = .ok (.dup, 1) := by decide +kernel
theorem dX8_init_417 : decode cX8_init 417 = .ok (.bipush 40, 2) := by decide +kernel
theorem dX8_init_419 : decode cX8_init 419 = .ok (.bipush 101, 2) := by decide +kernel
theorem dX8_init_421 : decode cX8_init 421 = .ok (.iastore, 1) := by decide +kernel
theorem dX8_init_422 : decode cX8_init 422 = .ok (.dup, 1) := by decide +kernel
theorem dX8_init_423 : decode cX8_init 423 = .ok (.bipush 41, 2) := by decide +kernel
theorem dX8_init_425 : decode cX8_init 425 = .ok (.bipush 115, 2) := by decide +kernel
theorem dX8_init_427 : decode cX8_init 427 = .ok (.iastore, 1) := by decide +kernel
theorem dX8_init_428 : decode cX8_init 428 = .ok (.dup, 1) := by decide +kernel
theorem dX8_init_429 : decode cX8_init 429 = .ok (.bipush 42, 2) := by decide +kernel
theorem dX8_init_431 : decode cX8_init 431 = .ok (.bipush 32, 2) := by decide +kernel
theorem dX8_init_433 : decode cX8_init 433 = .ok (.iastore, 1) := by decide +kernel
theorem dX8_init_434 : decode cX8_init 434 = .ok (.putfield 84, 3) := by decide +kernel
theorem dX8_init_437 : decode cX8_init 437 = .ok (.aload_n 0, 1) := by decide +kernel
theorem dX8_init_438 : decode cX8_init 438 = .ok (.bipush 8, 2) := by decide +kernel
theorem dX8_init_440 : decode cX8_init 440 = .ok (.newarray .boolean, 2) := by decide +kernel
theorem dX8_init_442 : decode cX8_init 442 = .ok (.putfield 87, 3) := by decide +kernel
theorem dX8_init_445 : decode cX8_init 445 = .ok (.aload_n 0, 1) := by decide +kernel
theorem dX8_init_446 : decode cX8_init 446 = .ok (.bipush 8, 2) := by decide +kernel
theorem dX8_init_448 : decode cX8_init 448 = .ok (.newarray .int, 2) := by decide +kernel
theorem dX8_init_450 : decode cX8_init 450 = .ok (.putfield 90, 3) := by decide +kernel
theorem dX8_init_453 : decode cX8_init 453 = .ok (.aload_n 0, 1) := by decide +kernel
theorem dX8_init_454 : decode cX8_init 454 = .ok (.bipush 16, 2) := by decide +kernel
theorem dX8_init_456 : decode cX8_init 456 = .ok (.newarray .int, 2) := by decide +kernel
theorem dX8_init_458 : decode cX8_init 458 = .ok (.putfield 93, 3) := by decide +kernel
theorem dX8_init_461 : decode cX8_init 461 = .ok (.aload_n 0, 1) := by decide +kernel
theorem dX8_init_462 : decode cX8_init 462 = .ok (.ldc 96, 2) := by decide +kernel
theorem dX8_init_464 : decode cX8_init 464 = .ok (.newarray .boolean, 2) := by decide +kernel
theorem dX8_init_466 : decode cX8_init 466 = .ok (.putfield 97, 3) := by decide +kernel
theorem dX8_init_469 : decode cX8_init 469 = .ok (.aload_n 0, 1) := by decide +kernel
theorem dX8_init_470 : decode cX8_init 470 = .ok (.bipush 40, 2) := by decide +kernel
theorem dX8_init_472 : decode cX8_init 472 = .ok (.newarray .boolean, 2) := by decide +kernel
theorem dX8_init_474 : decode cX8_init 474 = .ok (.putfield 100, 3) := by decide +kernel
theorem dX8_init_477 : decode cX8_init 477 = .ok (.aload_n 0, 1) := by decide +kernel
theorem dX8_init_478 : decode cX8_init 478 = .ok (.bipush 16, 2) := by decide +kernel
theorem dX8_init_480 : decode cX8_init 480 = .ok (.newarray .int, 2) := by decide +kernel
theorem dX8_init_482 : decode cX8_init 482 = .ok (.putfield 103, 3) := by decide +kernel
theorem dX8_init_485 : decode cX8_init 485 = .ok (.aload_n 0, 1) := by decide +kernel
theorem dX8_init_486 : decode cX8_init 486 = .ok (.bipush 6, 2) := by decide +kernel
theorem dX8_init_488 : decode cX8_init 488 = .ok (.newarray .int, 2) := by decide +kernel
theorem dX8_init_490 : decode cX8_init 490 = .ok (.putfield 106, 3) := by decide +kernel
theorem dX8_init_493 : decode cX8_init 493 = .ok (.aload_n 0, 1) := by decide +kernel
theorem dX8_init_494 : decode cX8_init 494 = .ok (.bipush 8, 2) := by decide +kernel
theorem dX8_init_496 : decode cX8_init 496 = .ok (.newarray .int, 2) := by decide +kernel
theorem dX8_init_498 : decode cX8_init 498 = .ok (.putfield 109, 3) := by decide +kernel
theorem dX8_init_501 : decode cX8_init 501 = .ok (.aload_n 0, 1) := by decide +kernel
theorem dX8_init_502 : decode cX8_init 502 = .ok (.getfield 13, 3) := by decide +kernel
theorem dX8_init_505 : decode cX8_init 505 = .ok (.iconst 0, 1) := by decide +kernel
theorem dX8_init_506 : decode cX8_init 506 = .ok (.iconst 2, 1) := by decide +kernel
theorem dX8_init_507 : decode cX8_init 507 = .ok (.iastore, 1) := by decide +kernel
theorem dX8_init_508 : decode cX8_init 508 = .ok (.return_, 1) := by decide +kernel
theorem dX8_feed_0 : decode cX8_feed 0 = .ok (.aload_n 0, 1) := by decide +kernel
theorem dX8_feed_1 : decode cX8_feed 1 = .ok (.iconst 0, 1) := by decide +kernel
theorem dX8_feed_2 : decode cX8_feed 2 = .ok (.putfield 112, 3) := by decide +kernel
theorem dX8_feed_5 : decode cX8_feed 5 = .ok (.aload_n 0, 1) := by decide +kernel
theorem dX8_feed_6 : decode cX8_feed 6 = .ok (.getfield 115, 3) := by decide +kernel
theorem dX8_feed_9 : decode cX8_feed 9 = .ok (.bipush 20, 2) := by decide +kernel
theorem dX8_feed_11 : decode cX8_feed 11 = .ok (.iadd, 1) := by decide +kernel
theorem dX8_feed_12 : decode cX8_feed 12 = .ok (.sipush 300, 3) := by decide +kernel
theorem dX8_feed_15 : decode cX8_feed 15 = .ok (.if_icmp .le 5, 3) := by decide +kernel
theorem dX8_feed_18 : decode cX8_feed 18 = .ok (.iconst (-1), 1) := by decide +kernel
theorem dX8_feed_19 : decode cX8_feed 19 = .ok (.ireturn, 1) := by decide +kernel
theorem dX8_feed_20 : decode cX8_feed 20 = .ok (.iconst 0, 1) := by decide +kernel
theorem dX8_feed_21 : decode cX8_feed 21 = .ok (.istore 6, 2) := by decide +kernel
theorem dX8_feed_23 : decode cX8_feed 23 = .ok (.iload 6, 2) := by decide +kernel
theorem dX8_feed_25 : decode cX8_feed 25 = .ok (.bipush 20, 2) := by decide +kernel
theorem dX8_feed_27 : decode cX8_feed 27 = .ok (.if_icmp .ge 86, 3) := by decide +kernel
theorem dX8_feed_30 : decode cX8_feed 30 = .ok (.iload 6, 2) := by decide +kernel
theorem dX8_feed_32 : decode cX8_feed 32 = .ok (.iconst 4, 1) := by decide +kernel
theorem dX8_feed_33 : decode cX8_feed 33 = .ok (.if_icmp .ge 7, 3) := by decide +kernel
theorem dX8_feed_36 : decode cX8_feed 36 = .ok (.iload_n 1, 1) := by decide +kernel
theorem dX8_feed_37 : decode cX8_feed 37 = .ok (.goto 39, 3) := by decide +kernel
theorem dX8_feed_40 : decode cX8_feed 40 = .ok (.iload 6, 2) := by decide +kernel
theorem dX8_feed_42 : decode cX8_feed 42 = .ok (.bipush 8, 2) := by decide +kernel
theorem dX8_feed_44 : decode cX8_feed 44 = .ok (.if_icmp .ge 7, 3) := by decide +kernel
theorem dX8_feed_47 : decode cX8_feed 47 = .ok (.iload_n 2, 1) := by decide +kernel
theorem dX8_feed_48 : decode cX8_feed 48 = .ok (.goto 28, 3) := by decide +kernel
theorem dX8_feed_51 : decode cX8_feed 51 = .ok (.iload 6, 2) := by decide +kernel
theorem dX8_feed_53 : decode cX8_feed 53 = .ok (.bipush 12, 2) := by decide +kernel
theorem dX8_feed_55 : decode cX8_feed 55 = .ok (.if_icmp .ge 7, 3) := by decide +kernel
theorem dX8_feed_58 : decode cX8_feed 58 = .ok (.iload_n 3, 1) := by decide +kernel
theorem dX8_feed_59 : decode cX8_feed 59 = .ok (.goto 17, 3) := by decide +kernel
theorem dX8_feed_62 : decode cX8_feed 62 = .ok (.iload 6, 2) := by decide +kernel
theorem dX8_feed_64 : decode cX8_feed 64 = .ok (.bipush 16, 2) := by decide +kernel
theorem dX8_feed_66 : decode cX8_feed 66 = .ok (.if_icmp .ge 8, 3) := by decide +kernel
theorem dX8_feed_69 : decode cX8_feed 69 = .ok (.iload 4, 2) := by decide +kernel
theorem dX8_feed_71 : decode cX8_feed 71 = .ok (.goto 5, 3) := by decide +kernel
theorem dX8_feed_74 : decode cX8_feed 74 = .ok (.iload 5, 2) := by decide +kernel
theorem dX8_feed_76 : decode cX8_feed 76 = .ok (.istore 7, 2) := by decide +kernel
theorem dX8_feed_78 : decode cX8_feed 78 = .ok (.aload_n 0, 1) := by decide +kernel
theorem dX8_feed_79 : decode cX8_feed 79 = .ok (.getfield 7, 3) := by decide +kernel
theorem dX8_feed_82 : decode cX8_feed 82 = .ok (.aload_n 0, 1) := by decide +kernel
theorem dX8_feed_83 : decode cX8_feed 83 = .ok (.getfield 115, 3) := by decide +kernel
theorem dX8_feed_86 : decode cX8_feed 86 = .ok (.iload 6, 2) := by decide +kernel
theorem dX8_feed_88 : decode cX8_feed 88 = .ok (.iadd, 1) := by decide +kernel
theorem dX8_feed_89 : decode cX8_feed 89 = .ok (.iload 7, 2) := by decide +kernel
theorem dX8_feed_91 : decode cX8_feed 91 = .ok (.bipush 24, 2) := by decide +kernel
theorem dX8_feed_93 : decode cX8_feed 93 = .ok (.bipush 8, 2) := by decide +kernel
theorem dX8_feed_95 : decode cX8_feed 95 = .ok (.iload 6, 2) := by decide +kernel
theorem dX8_feed_97 : decode cX8_feed 97 = .ok (.iconst 4, 1) := by decide +kernel
theorem dX8_feed_98 : decode cX8_feed 98 = .ok (.irem, 1) := by decide +kernel
theorem dX8_feed_99 : decode cX8_feed 99 = .ok (.imul, 1) := by decide +kernel
theorem dX8_feed_100 : decode cX8_feed 100 = .ok (.isub, 1) := by decide +kernel
theorem dX8_feed_101 : decode cX8_feed 101 = .ok (.ishr, 1) := by decide +kernel
theorem dX8_feed_102 : decode cX8_feed 102 = .ok (.sipush 255, 3) := by decide +kernel
theorem dX8_feed_105 : decode cX8_feed 105 = .ok (.iand, 1) := by decide +kernel
theorem dX8_feed_106 : decode cX8_feed 106 = .ok (.iastore, 1) := by decide +kernel
theorem dX8_feed_107 : decode cX8_feed 107 = .ok (.iinc 6 1, 3) := by decide +kernel
theorem dX8_feed_110 : decode cX8_feed 110 = .ok (.goto (-87), 3) := by decide +kernel
theorem dX8_feed_113 : decode cX8_feed 113 = .ok (.aload_n 0, 1) := by decide +kernel
theorem dX8_feed_114 : decode cX8_feed 114 = .ok (.dup, 1) := by decide +kernel
theorem dX8_feed_115 : decode cX8_feed 115 = .ok (.getfield 115, 3) := by decide +kernel
theorem dX8_feed_118 : decode cX8_feed 118 = .ok (.bipush 20, 2) := by decide +kernel
theorem dX8_feed_120 : decode cX8_feed 120 = .ok (.iadd, 1) := by decide +kernel
theorem dX8_feed_121 : decode cX8_feed 121 = .ok (.putfield 115, 3) := by decide +kernel
theorem dX8_feed_124 : decode cX8_feed 124 = .ok (.aload_n 0, 1) := by decide +kernel
theorem dX8_feed_125 : decode cX8_feed 125 = .ok (.getfield 115, 3) := by decide +kernel
theorem dX8_feed_128 : decode cX8_feed 128 = .ok (.ireturn, 1) := by decide +kernel
theorem dX8_wrong_0 : decode cX8_wrong 0 = .ok (.aload_n 0, 1) := by decide +kernel
theorem dX8_wrong_1 : decode cX8_wrong 1 = .ok (.iload_n 1, 1) := by decide +kernel
theorem dX8_wrong_2 : decode cX8_wrong 2 = .ok (.putfield 118, 3) := by decide +kernel
theorem dX8_wrong_5 : decode cX8_wrong 5 = .ok (.aload_n 0, 1) := by decide +kernel
theorem dX8_wrong_6 : decode cX8_wrong 6 = .ok (.iload_n 2, 1) := by decide +kernel
theorem dX8_wrong_7 : decode cX8_wrong 7 = .ok (.putfield 38, 3) := by decide +kernel
theorem dX8_wrong_10 : decode cX8_wrong 10 = .ok (.iconst 0, 1) := by decide +kernel
theorem dX8_wrong_11 : decode cX8_wrong 11 = .ok (.ireturn, 1) := by decide +kernel
theorem dX8_wordAt_0 : decode cX8_wordAt 0 = .ok (.iconst 0, 1) := by decide +kernel
theorem dX8_wordAt_1 : decode cX8_wordAt 1 = .ok (.istore_n 3, 1) := by decide +kernel
theorem dX8_wordAt_2 : decode cX8_wordAt 2 = .ok (.iconst 0, 1) := by decide +kernel
theorem dX8_wordAt_3 : decode cX8_wordAt 3 = .ok (.istore 4, 2) := by decide +kernel
theorem dX8_wordAt_5 : decode cX8_wordAt 5 = .ok (.iload 4, 2) := by decide +kernel
theorem dX8_wordAt_7 : decode cX8_wordAt 7 = .ok (.aload_n 0, 1) := by decide +kernel
theorem dX8_wordAt_8 : decode cX8_wordAt 8 = .ok (.getfield 84, 3) := by decide +kernel
theorem dX8_wordAt_11 : decode cX8_wordAt 11 = .ok (.arraylength, 1) := by decide +kernel
theorem dX8_wordAt_12 : decode cX8_wordAt 12 = .ok (.if_icmp .ge 114, 3) := by decide +kernel
theorem dX8_wordAt_15 : decode cX8_wordAt 15 = .ok (.iconst 0, 1) := by decide +kernel
theorem dX8_wordAt_16 : decode cX8_wordAt 16 = .ok (.istore 5, 2) := by decide +kernel
theorem dX8_wordAt_18 : decode cX8_wordAt 18 = .ok (.aload_n 0, 1) := by decide +kernel
theorem dX8_wordAt_19 : decode cX8_wordAt 19 = .ok (.getfield 84, 3) := by decide +kernel
theorem dX8_wordAt_22 : decode cX8_wordAt 22 = .ok (.iload 4, 2) := by decide +kernel
theorem dX8_wordAt_24 : decode cX8_wordAt 24 = .ok (.iload 5, 2) := by decide +kernel
theorem dX8_wordAt_26 : decode cX8_wordAt 26 = .ok (.iadd, 1) := by decide +kernel
theorem dX8_wordAt_27 : decode cX8_wordAt 27 = .ok (.iaload, 1) := by decide +kernel
theorem dX8_wordAt_28 : decode cX8_wordAt 28 = .ok (.bipush 32, 2) := by decide +kernel
theorem dX8_wordAt_30 : decode cX8_wordAt 30 = .ok (.if_icmp .eq 9, 3) := by decide +kernel
theorem dX8_wordAt_33 : decode cX8_wordAt 33 = .ok (.iinc 5 1, 3) := by decide +kernel
theorem dX8_wordAt_36 : decode cX8_wordAt 36 = .ok (.goto (-18), 3) := by decide +kernel
theorem dX8_wordAt_39 : decode cX8_wordAt 39 = .ok (.iload 5, 2) := by decide +kernel
theorem dX8_wordAt_41 : decode cX8_wordAt 41 = .ok (.iload_n 2, 1) := by decide +kernel
theorem dX8_wordAt_42 : decode cX8_wordAt 42 = .ok (.iload_n 1, 1) := by decide +kernel
theorem dX8_wordAt_43 : decode cX8_wordAt 43 = .ok (.isub, 1) := by decide +kernel
theorem dX8_wordAt_44 : decode cX8_wordAt 44 = .ok (.if_icmp .ne 7, 3) := by decide +kernel
theorem dX8_wordAt_47 : decode cX8_wordAt 47 = .ok (.iconst 1, 1) := by decide +kernel
theorem dX8_wordAt_48 : decode cX8_wordAt 48 = .ok (.goto 4, 3) := by decide +kernel
theorem dX8_wordAt_51 : decode cX8_wordAt 51 = .ok (.iconst 0, 1) := by decide +kernel
theorem dX8_wordAt_52 : decode cX8_wordAt 52 = .ok (.istore 6, 2) := by decide +kernel
theorem dX8_wordAt_54 : decode cX8_wordAt 54 = .ok (.iconst 0, 1) := by decide +kernel
theorem dX8_wordAt_55 : decode cX8_wordAt 55 = .ok (.istore 7, 2) := by decide +kernel
theorem dX8_wordAt_57 : decode cX8_wordAt 57 = .ok (.iload 7, 2) := by decide +kernel
theorem dX8_wordAt_59 : decode cX8_wordAt 59 = .ok (.iload 5, 2) := by decide +kernel
theorem dX8_wordAt_61 : decode cX8_wordAt 61 = .ok (.if_icmp .ge 43, 3) := by decide +kernel
theorem dX8_wordAt_64 : decode cX8_wordAt 64 = .ok (.iload 6, 2) := by decide +kernel
theorem dX8_wordAt_66 : decode cX8_wordAt 66 = .ok (.ifCond .eq 38, 3) := by decide +kernel
theorem dX8_wordAt_69 : decode cX8_wordAt 69 = .ok (.aload_n 0, 1) := by decide +kernel
theorem dX8_wordAt_70 : decode cX8_wordAt 70 = .ok (.getfield 84, 3) := by decide +kernel
theorem dX8_wordAt_73 : decode cX8_wordAt 73 = .ok (.iload 4, 2) := by decide +kernel
theorem dX8_wordAt_75 : decode cX8_wordAt 75 = .ok (.iload 7, 2) := by decide +kernel
theorem dX8_wordAt_77 : decode cX8_wordAt 77 = .ok (.iadd, 1) := by decide +kernel
theorem dX8_wordAt_78 : decode cX8_wordAt 78 = .ok (.iaload, 1) := by decide +kernel
theorem dX8_wordAt_79 : decode cX8_wordAt 79 = .ok (.aload_n 0, 1) := by decide +kernel
theorem dX8_wordAt_80 : decode cX8_wordAt 80 = .ok (.getfield 7, 3) := by decide +kernel
theorem dX8_wordAt_83 : decode cX8_wordAt 83 = .ok (.iload_n 1, 1) := by decide +kernel
theorem dX8_wordAt_84 : decode cX8_wordAt 84 = .ok (.iload 7, 2) := by decide +kernel
theorem dX8_wordAt_86 : decode cX8_wordAt 86 = .ok (.iadd, 1) := by decide +kernel
theorem dX8_wordAt_87 : decode cX8_wordAt 87 = .ok (.iaload, 1) := by decide +kernel
theorem dX8_wordAt_88 : decode cX8_wordAt 88 = .ok (.if_icmp .ne 7, 3) := by decide +kernel
theorem dX8_wordAt_91 : decode cX8_wordAt 91 = .ok (.iconst 1, 1) := by decide +kernel
theorem dX8_wordAt_92 : decode cX8_wordAt 92 = .ok (.goto 4, 3) := by decide +kernel
theorem dX8_wordAt_95 : decode cX8_wordAt 95 = .ok (.iconst 0, 1) := by decide +kernel
theorem dX8_wordAt_96 : decode cX8_wordAt 96 = .ok (.istore 6, 2) := by decide +kernel
theorem dX8_wordAt_98 : decode cX8_wordAt 98 = .ok (.iinc 7 1, 3) := by decide +kernel
theorem dX8_wordAt_101 : decode cX8_wordAt 101 = .ok (.goto (-44), 3) := by decide +kernel
theorem dX8_wordAt_104 : decode cX8_wordAt 104 = .ok (.iload 6, 2) := by decide +kernel
theorem dX8_wordAt_106 : decode cX8_wordAt 106 = .ok (.ifCond .eq 5, 3) := by decide +kernel
theorem dX8_wordAt_109 : decode cX8_wordAt 109 = .ok (.iload_n 3, 1) := by decide +kernel
theorem dX8_wordAt_110 : decode cX8_wordAt 110 = .ok (.ireturn, 1) := by decide +kernel
theorem dX8_wordAt_111 : decode cX8_wordAt 111 = .ok (.iload 4, 2) := by decide +kernel
theorem dX8_wordAt_113 : decode cX8_wordAt 113 = .ok (.iload 5, 2) := by decide +kernel
theorem dX8_wordAt_115 : decode cX8_wordAt 115 = .ok (.iconst 1, 1) := by decide +kernel
theorem dX8_wordAt_116 : decode cX8_wordAt 116 = .ok (.iadd, 1) := by decide +kernel
theorem dX8_wordAt_117 : decode cX8_wordAt 117 = .ok (.iadd, 1) := by decide +kernel
theorem dX8_wordAt_118 : decode cX8_wordAt 118 = .ok (.istore 4, 2) := by decide +kernel
theorem dX8_wordAt_120 : decode cX8_wordAt 120 = .ok (.iinc 3 1, 3) := by decide +kernel
theorem dX8_wordAt_123 : decode cX8_wordAt 123 = .ok (.goto (-118), 3) := by decide +kernel
theorem dX8_wordAt_126 : decode cX8_wordAt 126 = .ok (.iconst (-1), 1) := by decide +kernel
theorem dX8_wordAt_127 : decode cX8_wordAt 127 = .ok (.ireturn, 1) := by decide +kernel
theorem dX8_isSmall_0 : decode cX8_isSmall 0 = .ok (.iload_n 1, 1) := by decide +kernel
theorem dX8_isSmall_1 : decode cX8_isSmall 1 = .ok (.aload_n 0, 1) := by decide +kernel
theorem dX8_isSmall_2 : decode cX8_isSmall 2 = .ok (.getfield 121, 3) := by decide +kernel
theorem dX8_isSmall_5 : decode cX8_isSmall 5 = .ok (.if_icmp .ge 29, 3) := by decide +kernel
theorem dX8_isSmall_8 : decode cX8_isSmall 8 = .ok (.aload_n 0, 1) := by decide +kernel
theorem dX8_isSmall_9 : decode cX8_isSmall 9 = .ok (.getfield 7, 3) := by decide +kernel
theorem dX8_isSmall_12 : decode cX8_isSmall 12 = .ok (.iload_n 1, 1) := by decide +kernel
theorem dX8_isSmall_13 : decode cX8_isSmall 13 = .ok (.iaload, 1) := by decide +kernel
theorem dX8_isSmall_14 : decode cX8_isSmall 14 = .ok (.bipush 97, 2) := by decide +kernel
theorem dX8_isSmall_16 : decode cX8_isSmall 16 = .ok (.if_icmp .lt 18, 3) := by decide +kernel
theorem dX8_isSmall_19 : decode cX8_isSmall 19 = .ok (.aload_n 0, 1) := by decide +kernel
theorem dX8_isSmall_20 : decode cX8_isSmall 20 = .ok (.getfield 7, 3) := by decide +kernel
theorem dX8_isSmall_23 : decode cX8_isSmall 23 = .ok (.iload_n 1, 1) := by decide +kernel
theorem dX8_isSmall_24 : decode cX8_isSmall 24 = .ok (.iaload, 1) := by decide +kernel
theorem dX8_isSmall_25 : decode cX8_isSmall 25 = .ok (.bipush 122, 2) := by decide +kernel
theorem dX8_isSmall_27 : decode cX8_isSmall 27 = .ok (.if_icmp .gt 7, 3) := by decide +kernel
theorem dX8_isSmall_30 : decode cX8_isSmall 30 = .ok (.iconst 1, 1) := by decide +kernel
theorem dX8_isSmall_31 : decode cX8_isSmall 31 = .ok (.goto 4, 3) := by decide +kernel
theorem dX8_isSmall_34 : decode cX8_isSmall 34 = .ok (.iconst 0, 1) := by decide +kernel
theorem dX8_isSmall_35 : decode cX8_isSmall 35 = .ok (.ireturn, 1) := by decide +kernel
theorem dX8_isDigit_0 : decode cX8_isDigit 0 = .ok (.iload_n 1, 1) := by decide +kernel
theorem dX8_isDigit_1 : decode cX8_isDigit 1 = .ok (.aload_n 0, 1) := by decide +kernel
theorem dX8_isDigit_2 : decode cX8_isDigit 2 = .ok (.getfield 121, 3) := by decide +kernel
theorem dX8_isDigit_5 : decode cX8_isDigit 5 = .ok (.if_icmp .ge 29, 3) := by decide +kernel
theorem dX8_isDigit_8 : decode cX8_isDigit 8 = .ok (.aload_n 0, 1) := by decide +kernel
theorem dX8_isDigit_9 : decode cX8_isDigit 9 = .ok (.getfield 7, 3) := by decide +kernel
theorem dX8_isDigit_12 : decode cX8_isDigit 12 = .ok (.iload_n 1, 1) := by decide +kernel
theorem dX8_isDigit_13 : decode cX8_isDigit 13 = .ok (.iaload, 1) := by decide +kernel
theorem dX8_isDigit_14 : decode cX8_isDigit 14 = .ok (.bipush 48, 2) := by decide +kernel
theorem dX8_isDigit_16 : decode cX8_isDigit 16 = .ok (.if_icmp .lt 18, 3) := by decide +kernel
theorem dX8_isDigit_19 : decode cX8_isDigit 19 = .ok (.aload_n 0, 1) := by decide +kernel
theorem dX8_isDigit_20 : decode cX8_isDigit 20 = .ok (.getfield 7, 3) := by decide +kernel
theorem dX8_isDigit_23 : decode cX8_isDigit 23 = .ok (.iload_n 1, 1) := by decide +kernel
theorem dX8_isDigit_24 : decode cX8_isDigit 24 = .ok (.iaload, 1) := by decide +kernel
theorem dX8_isDigit_25 : decode cX8_isDigit 25 = .ok (.bipush 57, 2) := by decide +kernel
theorem dX8_isDigit_27 : decode cX8_isDigit 27 = .ok (.if_icmp .gt 7, 3) := by decide +kernel
theorem dX8_isDigit_30 : decode cX8_isDigit 30 = .ok (.iconst 1, 1) := by decide +kernel
theorem dX8_isDigit_31 : decode cX8_isDigit 31 = .ok (.goto 4, 3) := by decide +kernel
theorem dX8_isDigit_34 : decode cX8_isDigit 34 = .ok (.iconst 0, 1) := by decide +kernel
theorem dX8_isDigit_35 : decode cX8_isDigit 35 = .ok (.ireturn, 1) := by decide +kernel
theorem dX8_take_0 : decode cX8_take 0 = .ok (.aload_n 0, 1) := by decide +kernel
theorem dX8_take_1 : decode cX8_take 1 = .ok (.getfield 124, 3) := by decide +kernel
theorem dX8_take_4 : decode cX8_take 4 = .ok (.aload_n 0, 1) := by decide +kernel
theorem dX8_take_5 : decode cX8_take 5 = .ok (.getfield 121, 3) := by decide +kernel
theorem dX8_take_8 : decode cX8_take 8 = .ok (.if_icmp .ge 44, 3) := by decide +kernel
theorem dX8_take_11 : decode cX8_take 11 = .ok (.aload_n 0, 1) := by decide +kernel
theorem dX8_take_12 : decode cX8_take 12 = .ok (.getfield 7, 3) := by decide +kernel
theorem dX8_take_15 : decode cX8_take 15 = .ok (.aload_n 0, 1) := by decide +kernel
theorem dX8_take_16 : decode cX8_take 16 = .ok (.getfield 124, 3) := by decide +kernel
theorem dX8_take_19 : decode cX8_take 19 = .ok (.iaload, 1) := by decide +kernel
theorem dX8_take_20 : decode cX8_take 20 = .ok (.bipush 10, 2) := by decide +kernel
theorem dX8_take_22 : decode cX8_take 22 = .ok (.if_icmp .eq 17, 3) := by decide +kernel
theorem dX8_take_25 : decode cX8_take 25 = .ok (.aload_n 0, 1) := by decide +kernel
theorem dX8_take_26 : decode cX8_take 26 = .ok (.getfield 7, 3) := by decide +kernel
theorem dX8_take_29 : decode cX8_take 29 = .ok (.aload_n 0, 1) := by decide +kernel
theorem dX8_take_30 : decode cX8_take 30 = .ok (.getfield 124, 3) := by decide +kernel
theorem dX8_take_33 : decode cX8_take 33 = .ok (.iaload, 1) := by decide +kernel
theorem dX8_take_34 : decode cX8_take 34 = .ok (.bipush 32, 2) := by decide +kernel
theorem dX8_take_36 : decode cX8_take 36 = .ok (.if_icmp .ne 16, 3) := by decide +kernel
theorem dX8_take_39 : decode cX8_take 39 = .ok (.aload_n 0, 1) := by decide +kernel
theorem dX8_take_40 : decode cX8_take 40 = .ok (.dup, 1) := by decide +kernel
theorem dX8_take_41 : decode cX8_take 41 = .ok (.getfield 124, 3) := by decide +kernel
theorem dX8_take_44 : decode cX8_take 44 = .ok (.iconst 1, 1) := by decide +kernel
theorem dX8_take_45 : decode cX8_take 45 = .ok (.iadd, 1) := by decide +kernel
theorem dX8_take_46 : decode cX8_take 46 = .ok (.putfield 124, 3) := by decide +kernel
theorem dX8_take_49 : decode cX8_take 49 = .ok (.goto (-49), 3) := by decide +kernel
theorem dX8_take_52 : decode cX8_take 52 = .ok (.aload_n 0, 1) := by decide +kernel
theorem dX8_take_53 : decode cX8_take 53 = .ok (.aload_n 0, 1) := by decide +kernel
theorem dX8_take_54 : decode cX8_take 54 = .ok (.getfield 124, 3) := by decide +kernel
theorem dX8_take_57 : decode cX8_take 57 = .ok (.putfield 127, 3) := by decide +kernel
theorem dX8_take_60 : decode cX8_take 60 = .ok (.aload_n 0, 1) := by decide +kernel
theorem dX8_take_61 : decode cX8_take 61 = .ok (.getfield 124, 3) := by decide +kernel
theorem dX8_take_64 : decode cX8_take 64 = .ok (.aload_n 0, 1) := by decide +kernel
theorem dX8_take_65 : decode cX8_take 65 = .ok (.getfield 121, 3) := by decide +kernel
theorem dX8_take_68 : decode cX8_take 68 = .ok (.if_icmp .ne 11, 3) := by decide +kernel
theorem dX8_take_71 : decode cX8_take 71 = .ok (.aload_n 0, 1) := by decide +kernel
theorem dX8_take_72 : decode cX8_take 72 = .ok (.iconst 0, 1) := by decide +kernel
theorem dX8_take_73 : decode cX8_take 73 = .ok (.putfield 130, 3) := by decide +kernel
theorem dX8_take_76 : decode cX8_take 76 = .ok (.goto 191, 3) := by decide +kernel
theorem dX8_take_79 : decode cX8_take 79 = .ok (.aload_n 0, 1) := by decide +kernel
theorem dX8_take_80 : decode cX8_take 80 = .ok (.aload_n 0, 1) := by decide +kernel
theorem dX8_take_81 : decode cX8_take 81 = .ok (.getfield 124, 3) := by decide +kernel
theorem dX8_take_84 : decode cX8_take 84 = .ok (.invokevirtual 133, 3) := by decide +kernel
theorem dX8_take_87 : decode cX8_take 87 = .ok (.ifCond .eq 62, 3) := by decide +kernel
theorem dX8_take_90 : decode cX8_take 90 = .ok (.aload_n 0, 1) := by decide +kernel
theorem dX8_take_91 : decode cX8_take 91 = .ok (.aload_n 0, 1) := by decide +kernel
theorem dX8_take_92 : decode cX8_take 92 = .ok (.getfield 124, 3) := by decide +kernel
theorem dX8_take_95 : decode cX8_take 95 = .ok (.invokevirtual 133, 3) := by decide +kernel
theorem dX8_take_98 : decode cX8_take 98 = .ok (.ifCond .eq 16, 3) := by decide +kernel
theorem dX8_take_101 : decode cX8_take 101 = .ok (.aload_n 0, 1) := by decide +kernel
theorem dX8_take_102 : decode cX8_take 102 = .ok (.dup, 1) := by decide +kernel
theorem dX8_take_103 : decode cX8_take 103 = .ok (.getfield 124, 3) := by decide +kernel
theorem dX8_take_106 : decode cX8_take 106 = .ok (.iconst 1, 1) := by decide +kernel
theorem dX8_take_107 : decode cX8_take 107 = .ok (.iadd, 1) := by decide +kernel
theorem dX8_take_108 : decode cX8_take 108 = .ok (.putfield 124, 3) := by decide +kernel
theorem dX8_take_111 : decode cX8_take 111 = .ok (.goto (-21), 3) := by decide +kernel
theorem dX8_take_114 : decode cX8_take 114 = .ok (.aload_n 0, 1) := by decide +kernel
theorem dX8_take_115 : decode cX8_take 115 = .ok (.aload_n 0, 1) := by decide +kernel
theorem dX8_take_116 : decode cX8_take 116 = .ok (.aload_n 0, 1) := by decide +kernel
theorem dX8_take_117 : decode cX8_take 117 = .ok (.getfield 127, 3) := by decide +kernel
theorem dX8_take_120 : decode cX8_take 120 = .ok (.aload_n 0, 1) := by decide +kernel
theorem dX8_take_121 : decode cX8_take 121 = .ok (.getfield 124, 3) := by decide +kernel
theorem dX8_take_124 : decode cX8_take 124 = .ok (.invokevirtual 137, 3) := by decide +kernel
theorem dX8_take_127 : decode cX8_take 127 = .ok (.putfield 141, 3) := by decide +kernel
theorem dX8_take_130 : decode cX8_take 130 = .ok (.aload_n 0, 1) := by decide +kernel
theorem dX8_take_131 : decode cX8_take 131 = .ok (.aload_n 0, 1) := by decide +kernel
theorem dX8_take_132 : decode cX8_take 132 = .ok (.getfield 141, 3) := by decide +kernel
theorem dX8_take_135 : decode cX8_take 135 = .ok (.ifCond .ge 7, 3) := by decide +kernel
theorem dX8_take_138 : decode cX8_take 138 = .ok (.iconst 4, 1) := by decide +kernel
theorem dX8_take_139 : decode cX8_take 139 = .ok (.goto 4, 3) := by decide +kernel
theorem dX8_take_142 : decode cX8_take 142 = .ok (.iconst 1, 1) := by decide +kernel
theorem dX8_take_143 : decode cX8_take 143 = .ok (.putfield 130, 3) := by decide +kernel
theorem dX8_take_146 : decode cX8_take 146 = .ok (.goto 121, 3) := by decide +kernel
theorem dX8_take_149 : decode cX8_take 149 = .ok (.aload_n 0, 1) := by decide +kernel
theorem dX8_take_150 : decode cX8_take 150 = .ok (.aload_n 0, 1) := by decide +kernel
theorem dX8_take_151 : decode cX8_take 151 = .ok (.getfield 124, 3) := by decide +kernel
theorem dX8_take_154 : decode cX8_take 154 = .ok (.invokevirtual 144, 3) := by decide +kernel
theorem dX8_take_157 : decode cX8_take 157 = .ok (.ifCond .eq 77, 3) := by decide +kernel
theorem dX8_take_160 : decode cX8_take 160 = .ok (.aload_n 0, 1) := by decide +kernel
theorem dX8_take_161 : decode cX8_take 161 = .ok (.iconst 2, 1) := by decide +kernel
theorem dX8_take_162 : decode cX8_take 162 = .ok (.putfield 130, 3) := by decide +kernel
theorem dX8_take_165 : decode cX8_take 165 = .ok (.aload_n 0, 1) := by decide +kernel
theorem dX8_take_166 : decode cX8_take 166 = .ok (.iconst 0, 1) := by decide +kernel
theorem dX8_take_167 : decode cX8_take 167 = .ok (.putfield 141, 3) := by decide +kernel
theorem dX8_take_170 : decode cX8_take 170 = .ok (.aload_n 0, 1) := by decide +kernel
theorem dX8_take_171 : decode cX8_take 171 = .ok (.aload_n 0, 1) := by decide +kernel
theorem dX8_take_172 : decode cX8_take 172 = .ok (.getfield 124, 3) := by decide +kernel
theorem dX8_take_175 : decode cX8_take 175 = .ok (.invokevirtual 144, 3) := by decide +kernel
theorem dX8_take_178 : decode cX8_take 178 = .ok (.ifCond .eq 89, 3) := by decide +kernel
theorem dX8_take_181 : decode cX8_take 181 = .ok (.aload_n 0, 1) := by decide +kernel
theorem dX8_take_182 : decode cX8_take 182 = .ok (.aload_n 0, 1) := by decide +kernel
theorem dX8_take_183 : decode cX8_take 183 = .ok (.getfield 141, 3) := by decide +kernel
theorem dX8_take_186 : decode cX8_take 186 = .ok (.ldc 147, 2) := by decide +kernel
theorem dX8_take_188 : decode cX8_take 188 = .ok (.if_icmp .le 10, 3) := by decide +kernel
theorem dX8_take_191 : decode cX8_take 191 = .ok (.aload_n 0, 1) := by decide +kernel
theorem dX8_take_192 : decode cX8_take 192 = .ok (.getfield 141, 3) := by decide +kernel
theorem dX8_take_195 : decode cX8_take 195 = .ok (.goto 23, 3) := by decide +kernel
theorem dX8_take_198 : decode cX8_take 198 = .ok (.bipush 10, 2) := by decide +kernel
theorem dX8_take_200 : decode cX8_take 200 = .ok (.aload_n 0, 1) := by decide +kernel
theorem dX8_take_201 : decode cX8_take 201 = .ok (.getfield 141, 3) := by decide +kernel
theorem dX8_take_204 : decode cX8_take 204 = .ok (.imul, 1) := by decide +kernel
theorem dX8_take_205 : decode cX8_take 205 = .ok (.aload_n 0, 1) := by decide +kernel
theorem dX8_take_206 : decode cX8_take 206 = .ok (.getfield 7, 3) := by decide +kernel
theorem dX8_take_209 : decode cX8_take 209 = .ok (.aload_n 0, 1) := by decide +kernel
theorem dX8_take_210 : decode cX8_take 210 = .ok (.getfield 124, 3) := by decide +kernel
theorem dX8_take_213 : decode cX8_take 213 = .ok (.iaload, 1) := by decide +kernel
theorem dX8_take_214 : decode cX8_take 214 = .ok (.iadd, 1) := by decide +kernel
theorem dX8_take_215 : decode cX8_take 215 = .ok (.bipush 48, 2) := by decide +kernel
theorem dX8_take_217 : decode cX8_take 217 = .ok (.isub, 1) := by decide +kernel
theorem dX8_take_218 : decode cX8_take 218 = .ok (.putfield 141, 3) := by decide +kernel
theorem dX8_take_221 : decode cX8_take 221 = .ok (.aload_n 0, 1) := by decide +kernel
theorem dX8_take_222 : decode cX8_take 222 = .ok (.dup, 1) := by decide +kernel
theorem dX8_take_223 : decode cX8_take 223 = .ok (.getfield 124, 3) := by decide +kernel
theorem dX8_take_226 : decode cX8_take 226 = .ok (.iconst 1, 1) := by decide +kernel
theorem dX8_take_227 : decode cX8_take 227 = .ok (.iadd, 1) := by decide +kernel
theorem dX8_take_228 : decode cX8_take 228 = .ok (.putfield 124, 3) := by decide +kernel
theorem dX8_take_231 : decode cX8_take 231 = .ok (.goto (-61), 3) := by decide +kernel
theorem dX8_take_234 : decode cX8_take 234 = .ok (.aload_n 0, 1) := by decide +kernel
theorem dX8_take_235 : decode cX8_take 235 = .ok (.aload_n 0, 1) := by decide +kernel
theorem dX8_take_236 : decode cX8_take 236 = .ok (.getfield 7, 3) := by decide +kernel
theorem dX8_take_239 : decode cX8_take 239 = .ok (.aload_n 0, 1) := by decide +kernel
theorem dX8_take_240 : decode cX8_take 240 = .ok (.getfield 124, 3) := by decide +kernel
theorem dX8_take_243 : decode cX8_take 243 = .ok (.iaload, 1) := by decide +kernel
theorem dX8_take_244 : decode cX8_take 244 = .ok (.bipush 59, 2) := by decide +kernel
theorem dX8_take_246 : decode cX8_take 246 = .ok (.if_icmp .ne 7, 3) := by decide +kernel
theorem dX8_take_249 : decode cX8_take 249 = .ok (.iconst 3, 1) := by decide +kernel
theorem dX8_take_250 : decode cX8_take 250 = .ok (.goto 4, 3) := by decide +kernel
theorem dX8_take_253 : decode cX8_take 253 = .ok (.iconst 4, 1) := by decide +kernel
theorem dX8_take_254 : decode cX8_take 254 = .ok (.putfield 130, 3) := by decide +kernel
theorem dX8_take_257 : decode cX8_take 257 = .ok (.aload_n 0, 1) := by decide +kernel
theorem dX8_take_258 : decode cX8_take 258 = .ok (.dup, 1) := by decide +kernel
theorem dX8_take_259 : decode cX8_take 259 = .ok (.getfield 124, 3) := by decide +kernel
theorem dX8_take_262 : decode cX8_take 262 = .ok (.iconst 1, 1) := by decide +kernel
theorem dX8_take_263 : decode cX8_take 263 = .ok (.iadd, 1) := by decide +kernel
theorem dX8_take_264 : decode cX8_take 264 = .ok (.putfield 124, 3) := by decide +kernel
theorem dX8_take_267 : decode cX8_take 267 = .ok (.return_, 1) := by decide +kernel
theorem dX8_number_0 : decode cX8_number 0 = .ok (.aload_n 0, 1) := by decide +kernel
theorem dX8_number_1 : decode cX8_number 1 = .ok (.getfield 130, 3) := by decide +kernel
theorem dX8_number_4 : decode cX8_number 4 = .ok (.iconst 2, 1) := by decide +kernel
theorem dX8_number_5 : decode cX8_number 5 = .ok (.if_icmp .eq 13, 3) := by decide +kernel
theorem dX8_number_8 : decode cX8_number 8 = .ok (.aload_n 0, 1) := by decide +kernel
theorem dX8_number_9 : decode cX8_number 9 = .ok (.iconst 1, 1) := by decide +kernel
theorem dX8_number_10 : decode cX8_number 10 = .ok (.aload_n 0, 1) := by decide +kernel
theorem dX8_number_11 : decode cX8_number 11 = .ok (.getfield 127, 3) := by decide +kernel
theorem dX8_number_14 : decode cX8_number 14 = .ok (.invokevirtual 148, 3) := by decide +kernel
theorem dX8_number_17 : decode cX8_number 17 = .ok (.ireturn, 1) := by decide +kernel
theorem dX8_number_18 : decode cX8_number 18 = .ok (.aload_n 0, 1) := by decide +kernel
theorem dX8_number_19 : decode cX8_number 19 = .ok (.getfield 141, 3) := by decide +kernel
theorem dX8_number_22 : decode cX8_number 22 = .ok (.iload_n 1, 1) := by decide +kernel
theorem dX8_number_23 : decode cX8_number 23 = .ok (.if_icmp .lt 11, 3) := by decide +kernel
theorem dX8_number_26 : decode cX8_number 26 = .ok (.aload_n 0, 1) := by decide +kernel
theorem dX8_number_27 : decode cX8_number 27 = .ok (.getfield 141, 3) := by decide +kernel
theorem dX8_number_30 : decode cX8_number 30 = .ok (.iload_n 2, 1) := by decide +kernel
theorem dX8_number_31 : decode cX8_number 31 = .ok (.if_icmp .le 13, 3) := by decide +kernel
theorem dX8_number_34 : decode cX8_number 34 = .ok (.aload_n 0, 1) := by decide +kernel
theorem dX8_number_35 : decode cX8_number 35 = .ok (.iconst 2, 1) := by decide +kernel
theorem dX8_number_36 : decode cX8_number 36 = .ok (.aload_n 0, 1) := by decide +kernel
theorem dX8_number_37 : decode cX8_number 37 = .ok (.getfield 127, 3) := by decide +kernel
theorem dX8_number_40 : decode cX8_number 40 = .ok (.invokevirtual 148, 3) := by decide +kernel
theorem dX8_number_43 : decode cX8_number 43 = .ok (.ireturn, 1) := by decide +kernel
theorem dX8_number_44 : decode cX8_number 44 = .ok (.aload_n 0, 1) := by decide +kernel
theorem dX8_number_45 : decode cX8_number 45 = .ok (.aload_n 0, 1) := by decide +kernel
theorem dX8_number_46 : decode cX8_number 46 = .ok (.getfield 141, 3) := by decide +kernel
theorem dX8_number_49 : decode cX8_number 49 = .ok (.putfield 152, 3) := by decide +kernel
theorem dX8_number_52 : decode cX8_number 52 = .ok (.aload_n 0, 1) := by decide +kernel
theorem dX8_number_53 : decode cX8_number 53 = .ok (.invokevirtual 155, 3) := by decide +kernel
theorem dX8_number_56 : decode cX8_number 56 = .ok (.iconst 1, 1) := by decide +kernel
theorem dX8_number_57 : decode cX8_number 57 = .ok (.ireturn, 1) := by decide +kernel
theorem dX8_cycleLine_0 : decode cX8_cycleLine 0 = .ok (.aload_n 0, 1) := by decide +kernel
theorem dX8_cycleLine_1 : decode cX8_cycleLine 1 = .ok (.iconst 0, 1) := by decide +kernel
theorem dX8_cycleLine_2 : decode cX8_cycleLine 2 = .ok (.putfield 158, 3) := by decide +kernel
theorem dX8_cycleLine_5 : decode cX8_cycleLine 5 = .ok (.iconst 1, 1) := by decide +kernel
theorem dX8_cycleLine_6 : decode cX8_cycleLine 6 = .ok (.istore_n 1, 1) := by decide +kernel
theorem dX8_cycleLine_7 : decode cX8_cycleLine 7 = .ok (.iload_n 1, 1) := by decide +kernel
theorem dX8_cycleLine_8 : decode cX8_cycleLine 8 = .ok (.ifCond .eq 95, 3) := by decide +kernel
theorem dX8_cycleLine_11 : decode cX8_cycleLine 11 = .ok (.aload_n 0, 1) := by decide +kernel
theorem dX8_cycleLine_12 : decode cX8_cycleLine 12 = .ok (.getfield 130, 3) := by decide +kernel
theorem dX8_cycleLine_15 : decode cX8_cycleLine 15 = .ok (.iconst 1, 1) := by decide +kernel
theorem dX8_cycleLine_16 : decode cX8_cycleLine 16 = .ok (.if_icmp .ne 11, 3) := by decide +kernel
theorem dX8_cycleLine_19 : decode cX8_cycleLine 19 = .ok (.aload_n 0, 1) := by decide +kernel
theorem dX8_cycleLine_20 : decode cX8_cycleLine 20 = .ok (.getfield 141, 3) := by decide +kernel
theorem dX8_cycleLine_23 : decode cX8_cycleLine 23 = .ok (.iconst 2, 1) := by decide +kernel
theorem dX8_cycleLine_24 : decode cX8_cycleLine 24 = .ok (.if_icmp .le 13, 3) := by decide +kernel
theorem dX8_cycleLine_27 : decode cX8_cycleLine 27 = .ok (.aload_n 0, 1) := by decide +kernel
theorem dX8_cycleLine_28 : decode cX8_cycleLine 28 = .ok (.iconst 1, 1) := by decide +kernel
theorem dX8_cycleLine_29 : decode cX8_cycleLine 29 = .ok (.aload_n 0, 1) := by decide +kernel
theorem dX8_cycleLine_30 : decode cX8_cycleLine 30 = .ok (.getfield 127, 3) := by decide +kernel
theorem dX8_cycleLine_33 : decode cX8_cycleLine 33 = .ok (.invokevirtual 148, 3) := by decide +kernel
theorem dX8_cycleLine_36 : decode cX8_cycleLine 36 = .ok (.ireturn, 1) := by decide +kernel
theorem dX8_cycleLine_37 : decode cX8_cycleLine 37 = .ok (.aload_n 0, 1) := by decide +kernel
theorem dX8_cycleLine_38 : decode cX8_cycleLine 38 = .ok (.getfield 158, 3) := by decide +kernel
theorem dX8_cycleLine_41 : decode cX8_cycleLine 41 = .ok (.bipush 8, 2) := by decide +kernel
theorem dX8_cycleLine_43 : decode cX8_cycleLine 43 = .ok (.if_icmp .ne 13, 3) := by decide +kernel
theorem dX8_cycleLine_46 : decode cX8_cycleLine 46 = .ok (.aload_n 0, 1) := by decide +kernel
theorem dX8_cycleLine_47 : decode cX8_cycleLine 47 = .ok (.iconst 2, 1) := by decide +kernel
theorem dX8_cycleLine_48 : decode cX8_cycleLine 48 = .ok (.aload_n 0, 1) := by decide +kernel
theorem dX8_cycleLine_49 : decode cX8_cycleLine 49 = .ok (.getfield 127, 3) := by decide +kernel
theorem dX8_cycleLine_52 : decode cX8_cycleLine 52 = .ok (.invokevirtual 148, 3) := by decide +kernel
theorem dX8_cycleLine_55 : decode cX8_cycleLine 55 = .ok (.ireturn, 1) := by decide +kernel
theorem dX8_cycleLine_56 : decode cX8_cycleLine 56 = .ok (.aload_n 0, 1) := by decide +kernel
theorem dX8_cycleLine_57 : decode cX8_cycleLine 57 = .ok (.getfield 13, 3) := by decide +kernel
theorem dX8_cycleLine_60 : decode cX8_cycleLine 60 = .ok (.bipush 8, 2) := by decide +kernel
theorem dX8_cycleLine_62 : decode cX8_cycleLine 62 = .ok (.aload_n 0, 1) := by decide +kernel
theorem dX8_cycleLine_63 : decode cX8_cycleLine 63 = .ok (.getfield 158, 3) := by decide +kernel
theorem dX8_cycleLine_66 : decode cX8_cycleLine 66 = .ok (.iadd, 1) := by decide +kernel
theorem dX8_cycleLine_67 : decode cX8_cycleLine 67 = .ok (.aload_n 0, 1) := by decide +kernel
theorem dX8_cycleLine_68 : decode cX8_cycleLine 68 = .ok (.getfield 141, 3) := by decide +kernel
theorem dX8_cycleLine_71 : decode cX8_cycleLine 71 = .ok (.iastore, 1) := by decide +kernel
theorem dX8_cycleLine_72 : decode cX8_cycleLine 72 = .ok (.aload_n 0, 1) := by decide +kernel
theorem dX8_cycleLine_73 : decode cX8_cycleLine 73 = .ok (.dup, 1) := by decide +kernel
theorem dX8_cycleLine_74 : decode cX8_cycleLine 74 = .ok (.getfield 158, 3) := by decide +kernel
theorem dX8_cycleLine_77 : decode cX8_cycleLine 77 = .ok (.iconst 1, 1) := by decide +kernel
theorem dX8_cycleLine_78 : decode cX8_cycleLine 78 = .ok (.iadd, 1) := by decide +kernel
theorem dX8_cycleLine_79 : decode cX8_cycleLine 79 = .ok (.putfield 158, 3) := by decide +kernel
theorem dX8_cycleLine_82 : decode cX8_cycleLine 82 = .ok (.aload_n 0, 1) := by decide +kernel
theorem dX8_cycleLine_83 : decode cX8_cycleLine 83 = .ok (.invokevirtual 155, 3) := by decide +kernel
theorem dX8_cycleLine_86 : decode cX8_cycleLine 86 = .ok (.aload_n 0, 1) := by decide +kernel
theorem dX8_cycleLine_87 : decode cX8_cycleLine 87 = .ok (.getfield 130, 3) := by decide +kernel
theorem dX8_cycleLine_90 : decode cX8_cycleLine 90 = .ok (.iconst 3, 1) := by decide +kernel
theorem dX8_cycleLine_91 : decode cX8_cycleLine 91 = .ok (.if_icmp .eq 7, 3) := by decide +kernel
theorem dX8_cycleLine_94 : decode cX8_cycleLine 94 = .ok (.iconst 1, 1) := by decide +kernel
theorem dX8_cycleLine_95 : decode cX8_cycleLine 95 = .ok (.goto 4, 3) := by decide +kernel
theorem dX8_cycleLine_98 : decode cX8_cycleLine 98 = .ok (.iconst 0, 1) := by decide +kernel
theorem dX8_cycleLine_99 : decode cX8_cycleLine 99 = .ok (.istore_n 1, 1) := by decide +kernel
theorem dX8_cycleLine_100 : decode cX8_cycleLine 100 = .ok (.goto (-93), 3) := by decide +kernel
theorem dX8_cycleLine_103 : decode cX8_cycleLine 103 = .ok (.iconst 1, 1) := by decide +kernel
theorem dX8_cycleLine_104 : decode cX8_cycleLine 104 = .ok (.ireturn, 1) := by decide +kernel
theorem dX8_line_0 : decode cX8_line 0 = .ok (.aload_n 0, 1) := by decide +kernel
theorem dX8_line_1 : decode cX8_line 1 = .ok (.getfield 130, 3) := by decide +kernel
theorem dX8_line_4 : decode cX8_line 4 = .ok (.iconst 1, 1) := by decide +kernel
theorem dX8_line_5 : decode cX8_line 5 = .ok (.if_icmp .ne 22, 3) := by decide +kernel
theorem dX8_line_8 : decode cX8_line 8 = .ok (.aload_n 0, 1) := by decide +kernel
theorem dX8_line_9 : decode cX8_line 9 = .ok (.getfield 141, 3) := by decide +kernel
theorem dX8_line_12 : decode cX8_line 12 = .ok (.ifCond .eq 15, 3) := by decide +kernel
theorem dX8_line_15 : decode cX8_line 15 = .ok (.aload_n 0, 1) := by decide +kernel
theorem dX8_line_16 : decode cX8_line 16 = .ok (.getfield 141, 3) := by decide +kernel
theorem dX8_line_19 : decode cX8_line 19 = .ok (.iconst 2, 1) := by decide +kernel
theorem dX8_line_20 : decode cX8_line 20 = .ok (.if_icmp .eq 7, 3) := by decide +kernel
theorem dX8_line_23 : decode cX8_line 23 = .ok (.iconst 1, 1) := by decide +kernel
theorem dX8_line_24 : decode cX8_line 24 = .ok (.goto 4, 3) := by decide +kernel
theorem dX8_line_27 : decode cX8_line 27 = .ok (.iconst 0, 1) := by decide +kernel
theorem dX8_line_28 : decode cX8_line 28 = .ok (.istore_n 1, 1) := by decide +kernel
theorem dX8_line_29 : decode cX8_line 29 = .ok (.iload_n 1, 1) := by decide +kernel
theorem dX8_line_30 : decode cX8_line 30 = .ok (.ifCond .ne 13, 3) := by decide +kernel
theorem dX8_line_33 : decode cX8_line 33 = .ok (.aload_n 0, 1) := by decide +kernel
theorem dX8_line_34 : decode cX8_line 34 = .ok (.iconst 1, 1) := by decide +kernel
theorem dX8_line_35 : decode cX8_line 35 = .ok (.aload_n 0, 1) := by decide +kernel
theorem dX8_line_36 : decode cX8_line 36 = .ok (.getfield 127, 3) := by decide +kernel
theorem dX8_line_39 : decode cX8_line 39 = .ok (.invokevirtual 148, 3) := by decide +kernel
theorem dX8_line_42 : decode cX8_line 42 = .ok (.ireturn, 1) := by decide +kernel
theorem dX8_line_43 : decode cX8_line 43 = .ok (.aload_n 0, 1) := by decide +kernel
theorem dX8_line_44 : decode cX8_line 44 = .ok (.getfield 141, 3) := by decide +kernel
theorem dX8_line_47 : decode cX8_line 47 = .ok (.istore_n 2, 1) := by decide +kernel
theorem dX8_line_48 : decode cX8_line 48 = .ok (.aload_n 0, 1) := by decide +kernel
theorem dX8_line_49 : decode cX8_line 49 = .ok (.getfield 87, 3) := by decide +kernel
theorem dX8_line_52 : decode cX8_line 52 = .ok (.iload_n 2, 1) := by decide +kernel
theorem dX8_line_53 : decode cX8_line 53 = .ok (.baload, 1) := by decide +kernel
theorem dX8_line_54 : decode cX8_line 54 = .ok (.ifCond .eq 13, 3) := by decide +kernel
theorem dX8_line_57 : decode cX8_line 57 = .ok (.aload_n 0, 1) := by decide +kernel
theorem dX8_line_58 : decode cX8_line 58 = .ok (.iconst 3, 1) := by decide +kernel
theorem dX8_line_59 : decode cX8_line 59 = .ok (.aload_n 0, 1) := by decide +kernel
theorem dX8_line_60 : decode cX8_line 60 = .ok (.getfield 127, 3) := by decide +kernel
theorem dX8_line_63 : decode cX8_line 63 = .ok (.invokevirtual 148, 3) := by decide +kernel
theorem dX8_line_66 : decode cX8_line 66 = .ok (.ireturn, 1) := by decide +kernel
theorem dX8_line_67 : decode cX8_line 67 = .ok (.aload_n 0, 1) := by decide +kernel
theorem dX8_line_68 : decode cX8_line 68 = .ok (.getfield 87, 3) := by decide +kernel
theorem dX8_line_71 : decode cX8_line 71 = .ok (.iload_n 2, 1) := by decide +kernel
theorem dX8_line_72 : decode cX8_line 72 = .ok (.iconst 1, 1) := by decide +kernel
theorem dX8_line_73 : decode cX8_line 73 = .ok (.bastore, 1) := by decide +kernel
theorem dX8_line_74 : decode cX8_line 74 = .ok (.aload_n 0, 1) := by decide +kernel
theorem dX8_line_75 : decode cX8_line 75 = .ok (.invokevirtual 155, 3) := by decide +kernel
theorem dX8_line_78 : decode cX8_line 78 = .ok (.iload_n 2, 1) := by decide +kernel
theorem dX8_line_79 : decode cX8_line 79 = .ok (.iconst 3, 1) := by decide +kernel
theorem dX8_line_80 : decode cX8_line 80 = .ok (.if_icmp .ne 8, 3) := by decide +kernel
theorem dX8_line_83 : decode cX8_line 83 = .ok (.aload_n 0, 1) := by decide +kernel
theorem dX8_line_84 : decode cX8_line 84 = .ok (.invokevirtual 161, 3) := by decide +kernel
theorem dX8_line_87 : decode cX8_line 87 = .ok (.ireturn, 1) := by decide +kernel
theorem dX8_line_88 : decode cX8_line 88 = .ok (.iload_n 2, 1) := by decide +kernel
theorem dX8_line_89 : decode cX8_line 89 = .ok (.iconst 4, 1) := by decide +kernel
theorem dX8_line_90 : decode cX8_line 90 = .ok (.if_icmp .ne 78, 3) := by decide +kernel
theorem dX8_line_93 : decode cX8_line 93 = .ok (.aload_n 0, 1) := by decide +kernel
theorem dX8_line_94 : decode cX8_line 94 = .ok (.iconst 0, 1) := by decide +kernel
theorem dX8_line_95 : decode cX8_line 95 = .ok (.bipush 20, 2) := by decide +kernel
theorem dX8_line_97 : decode cX8_line 97 = .ok (.invokevirtual 165, 3) := by decide +kernel
theorem dX8_line_100 : decode cX8_line 100 = .ok (.ifCond .ne 5, 3) := by decide +kernel
theorem dX8_line_103 : decode cX8_line 103 = .ok (.iconst 0, 1) := by decide +kernel
theorem dX8_line_104 : decode cX8_line 104 = .ok (.ireturn, 1) := by decide +kernel
theorem dX8_line_105 : decode cX8_line 105 = .ok (.aload_n 0, 1) := by decide +kernel
theorem dX8_line_106 : decode cX8_line 106 = .ok (.getfield 90, 3) := by decide +kernel
theorem dX8_line_109 : decode cX8_line 109 = .ok (.iconst 4, 1) := by decide +kernel
theorem dX8_line_110 : decode cX8_line 110 = .ok (.aload_n 0, 1) := by decide +kernel
theorem dX8_line_111 : decode cX8_line 111 = .ok (.getfield 152, 3) := by decide +kernel
theorem dX8_line_114 : decode cX8_line 114 = .ok (.iastore, 1) := by decide +kernel
theorem dX8_line_115 : decode cX8_line 115 = .ok (.aload_n 0, 1) := by decide +kernel
theorem dX8_line_116 : decode cX8_line 116 = .ok (.getfield 127, 3) := by decide +kernel
theorem dX8_line_119 : decode cX8_line 119 = .ok (.istore_n 3, 1) := by decide +kernel
theorem dX8_line_120 : decode cX8_line 120 = .ok (.aload_n 0, 1) := by decide +kernel
theorem dX8_line_121 : decode cX8_line 121 = .ok (.iconst 0, 1) := by decide +kernel
theorem dX8_line_122 : decode cX8_line 122 = .ok (.bipush 20, 2) := by decide +kernel
theorem dX8_line_124 : decode cX8_line 124 = .ok (.invokevirtual 165, 3) := by decide +kernel
theorem dX8_line_127 : decode cX8_line 127 = .ok (.ifCond .ne 5, 3) := by decide +kernel
theorem dX8_line_130 : decode cX8_line 130 = .ok (.iconst 0, 1) := by decide +kernel
theorem dX8_line_131 : decode cX8_line 131 = .ok (.ireturn, 1) := by decide +kernel
theorem dX8_line_132 : decode cX8_line 132 = .ok (.aload_n 0, 1) := by decide +kernel
theorem dX8_line_133 : decode cX8_line 133 = .ok (.aload_n 0, 1) := by decide +kernel
theorem dX8_line_134 : decode cX8_line 134 = .ok (.getfield 152, 3) := by decide +kernel
theorem dX8_line_137 : decode cX8_line 137 = .ok (.putfield 168, 3) := by decide +kernel
theorem dX8_line_140 : decode cX8_line 140 = .ok (.aload_n 0, 1) := by decide +kernel
theorem dX8_line_141 : decode cX8_line 141 = .ok (.getfield 168, 3) := by decide +kernel
theorem dX8_line_144 : decode cX8_line 144 = .ok (.aload_n 0, 1) := by decide +kernel
theorem dX8_line_145 : decode cX8_line 145 = .ok (.getfield 90, 3) := by decide +kernel
theorem dX8_line_148 : decode cX8_line 148 = .ok (.iconst 4, 1) := by decide +kernel
theorem dX8_line_149 : decode cX8_line 149 = .ok (.iaload, 1) := by decide +kernel
theorem dX8_line_150 : decode cX8_line 150 = .ok (.if_icmp .ge 12, 3) := by decide +kernel
theorem dX8_line_153 : decode cX8_line 153 = .ok (.aload_n 0, 1) := by decide +kernel
theorem dX8_line_154 : decode cX8_line 154 = .ok (.iconst 2, 1) := by decide +kernel
theorem dX8_line_155 : decode cX8_line 155 = .ok (.iload_n 3, 1) := by decide +kernel
theorem dX8_line_156 : decode cX8_line 156 = .ok (.invokevirtual 148, 3) := by decide +kernel
theorem dX8_line_159 : decode cX8_line 159 = .ok (.ifCond .eq 7, 3) := by decide +kernel
theorem dX8_line_162 : decode cX8_line 162 = .ok (.iconst 1, 1) := by decide +kernel
theorem dX8_line_163 : decode cX8_line 163 = .ok (.goto 4, 3) := by decide +kernel
theorem dX8_line_166 : decode cX8_line 166 = .ok (.iconst 0, 1) := by decide +kernel
theorem dX8_line_167 : decode cX8_line 167 = .ok (.ireturn, 1) := by decide +kernel
theorem dX8_line_168 : decode cX8_line 168 = .ok (.iload_n 2, 1) := by decide +kernel
theorem dX8_line_169 : decode cX8_line 169 = .ok (.bipush 6, 2) := by decide +kernel
theorem dX8_line_171 : decode cX8_line 171 = .ok (.if_icmp .ne 7, 3) := by decide +kernel
theorem dX8_line_174 : decode cX8_line 174 = .ok (.iconst 0, 1) := by decide +kernel
theorem dX8_line_175 : decode cX8_line 175 = .ok (.goto 4, 3) := by decide +kernel
theorem dX8_line_178 : decode cX8_line 178 = .ok (.iconst 1, 1) := by decide +kernel
theorem dX8_line_179 : decode cX8_line 179 = .ok (.istore_n 3, 1) := by decide +kernel
theorem dX8_line_180 : decode cX8_line 180 = .ok (.aload_n 0, 1) := by decide +kernel
theorem dX8_line_181 : decode cX8_line 181 = .ok (.iload_n 3, 1) := by decide +kernel
theorem dX8_line_182 : decode cX8_line 182 = .ok (.iload_n 2, 1) := by decide +kernel
theorem dX8_line_183 : decode cX8_line 183 = .ok (.iconst 1, 1) := by decide +kernel
theorem dX8_line_184 : decode cX8_line 184 = .ok (.if_icmp .ne 9, 3) := by decide +kernel
theorem dX8_line_187 : decode cX8_line 187 = .ok (.sipush 9999, 3) := by decide +kernel
theorem dX8_line_190 : decode cX8_line 190 = .ok (.goto 16, 3) := by decide +kernel
theorem dX8_line_193 : decode cX8_line 193 = .ok (.iload_n 2, 1) := by decide +kernel
theorem dX8_line_194 : decode cX8_line 194 = .ok (.bipush 7, 2) := by decide +kernel
theorem dX8_line_196 : decode cX8_line 196 = .ok (.if_icmp .ne 8, 3) := by decide +kernel
theorem dX8_line_199 : decode cX8_line 199 = .ok (.bipush 8, 2) := by decide +kernel
theorem dX8_line_201 : decode cX8_line 201 = .ok (.goto 5, 3) := by decide +kernel
theorem dX8_line_204 : decode cX8_line 204 = .ok (.bipush 9, 2) := by decide +kernel
theorem dX8_line_206 : decode cX8_line 206 = .ok (.invokevirtual 165, 3) := by decide +kernel
theorem dX8_line_209 : decode cX8_line 209 = .ok (.ifCond .ne 5, 3) := by decide +kernel
theorem dX8_line_212 : decode cX8_line 212 = .ok (.iconst 0, 1) := by decide +kernel
theorem dX8_line_213 : decode cX8_line 213 = .ok (.ireturn, 1) := by decide +kernel
theorem dX8_line_214 : decode cX8_line 214 = .ok (.aload_n 0, 1) := by decide +kernel
theorem dX8_line_215 : decode cX8_line 215 = .ok (.getfield 90, 3) := by decide +kernel
theorem dX8_line_218 : decode cX8_line 218 = .ok (.iload_n 2, 1) := by decide +kernel
theorem dX8_line_219 : decode cX8_line 219 = .ok (.aload_n 0, 1) := by decide +kernel
theorem dX8_line_220 : decode cX8_line 220 = .ok (.getfield 152, 3) := by decide +kernel
theorem dX8_line_223 : decode cX8_line 223 = .ok (.iastore, 1) := by decide +kernel
theorem dX8_line_224 : decode cX8_line 224 = .ok (.iconst 1, 1) := by decide +kernel
theorem dX8_line_225 : decode cX8_line 225 = .ok (.ireturn, 1) := by decide +kernel
theorem dX8_statutes_0 : decode cX8_statutes 0 = .ok (.aload_n 0, 1) := by decide +kernel
theorem dX8_statutes_1 : decode cX8_statutes 1 = .ok (.iconst 0, 1) := by decide +kernel
theorem dX8_statutes_2 : decode cX8_statutes 2 = .ok (.putfield 112, 3) := by decide +kernel
theorem dX8_statutes_5 : decode cX8_statutes 5 = .ok (.iload_n 1, 1) := by decide +kernel
theorem dX8_statutes_6 : decode cX8_statutes 6 = .ok (.ifCond .lt 11, 3) := by decide +kernel
theorem dX8_statutes_9 : decode cX8_statutes 9 = .ok (.iload_n 1, 1) := by decide +kernel
theorem dX8_statutes_10 : decode cX8_statutes 10 = .ok (.aload_n 0, 1) := by decide +kernel
theorem dX8_statutes_11 : decode cX8_statutes 11 = .ok (.getfield 115, 3) := by decide +kernel
theorem dX8_statutes_14 : decode cX8_statutes 14 = .ok (.if_icmp .le 6, 3) := by decide +kernel
theorem dX8_statutes_17 : decode cX8_statutes 17 = .ok (.bipush (-2), 2) := by decide +kernel
theorem dX8_statutes_19 : decode cX8_statutes 19 = .ok (.ireturn, 1) := by decide +kernel
theorem dX8_statutes_20 : decode cX8_statutes 20 = .ok (.aload_n 0, 1) := by decide +kernel
theorem dX8_statutes_21 : decode cX8_statutes 21 = .ok (.iload_n 1, 1) := by decide +kernel
theorem dX8_statutes_22 : decode cX8_statutes 22 = .ok (.putfield 121, 3) := by decide +kernel
theorem dX8_statutes_25 : decode cX8_statutes 25 = .ok (.aload_n 0, 1) := by decide +kernel
theorem dX8_statutes_26 : decode cX8_statutes 26 = .ok (.iconst 0, 1) := by decide +kernel
theorem dX8_statutes_27 : decode cX8_statutes 27 = .ok (.putfield 115, 3) := by decide +kernel
theorem dX8_statutes_30 : decode cX8_statutes 30 = .ok (.aload_n 0, 1) := by decide +kernel
theorem dX8_statutes_31 : decode cX8_statutes 31 = .ok (.iconst 0, 1) := by decide +kernel
theorem dX8_statutes_32 : decode cX8_statutes 32 = .ok (.putfield 118, 3) := by decide +kernel
theorem dX8_statutes_35 : decode cX8_statutes 35 = .ok (.aload_n 0, 1) := by decide +kernel
theorem dX8_statutes_36 : decode cX8_statutes 36 = .ok (.iconst (-1), 1) := by decide +kernel
theorem dX8_statutes_37 : decode cX8_statutes 37 = .ok (.putfield 38, 3) := by decide +kernel
theorem dX8_statutes_40 : decode cX8_statutes 40 = .ok (.iconst 0, 1) := by decide +kernel
theorem dX8_statutes_41 : decode cX8_statutes 41 = .ok (.istore_n 2, 1) := by decide +kernel
theorem dX8_statutes_42 : decode cX8_statutes 42 = .ok (.iload_n 2, 1) := by decide +kernel
theorem dX8_statutes_43 : decode cX8_statutes 43 = .ok (.bipush 8, 2) := by decide +kernel
theorem dX8_statutes_45 : decode cX8_statutes 45 = .ok (.if_icmp .ge 16, 3) := by decide +kernel
theorem dX8_statutes_48 : decode cX8_statutes 48 = .ok (.aload_n 0, 1) := by decide +kernel
theorem dX8_statutes_49 : decode cX8_statutes 49 = .ok (.getfield 87, 3) := by decide +kernel
theorem dX8_statutes_52 : decode cX8_statutes 52 = .ok (.iload_n 2, 1) := by decide +kernel
theorem dX8_statutes_53 : decode cX8_statutes 53 = .ok (.iconst 0, 1) := by decide +kernel
theorem dX8_statutes_54 : decode cX8_statutes 54 = .ok (.bastore, 1) := by decide +kernel
theorem dX8_statutes_55 : decode cX8_statutes 55 = .ok (.iinc 2 1, 3) := by decide +kernel
theorem dX8_statutes_58 : decode cX8_statutes 58 = .ok (.goto (-16), 3) := by decide +kernel
theorem dX8_statutes_61 : decode cX8_statutes 61 = .ok (.aload_n 0, 1) := by decide +kernel
theorem dX8_statutes_62 : decode cX8_statutes 62 = .ok (.getfield 90, 3) := by decide +kernel
theorem dX8_statutes_65 : decode cX8_statutes 65 = .ok (.iconst 1, 1) := by decide +kernel
theorem dX8_statutes_66 : decode cX8_statutes 66 = .ok (.bipush 100, 2) := by decide +kernel
theorem dX8_statutes_68 : decode cX8_statutes 68 = .ok (.iastore, 1) := by decide +kernel
theorem dX8_statutes_69 : decode cX8_statutes 69 = .ok (.aload_n 0, 1) := by decide +kernel
theorem dX8_statutes_70 : decode cX8_statutes 70 = .ok (.getfield 90, 3) := by decide +kernel
theorem dX8_statutes_73 : decode cX8_statutes 73 = .ok (.iconst 4, 1) := by decide +kernel
theorem dX8_statutes_74 : decode cX8_statutes 74 = .ok (.bipush 7, 2) := by decide +kernel
theorem dX8_statutes_76 : decode cX8_statutes 76 = .ok (.iastore, 1) := by decide +kernel
theorem dX8_statutes_77 : decode cX8_statutes 77 = .ok (.aload_n 0, 1) := by decide +kernel
theorem dX8_statutes_78 : decode cX8_statutes 78 = .ok (.bipush 14, 2) := by decide +kernel
theorem dX8_statutes_80 : decode cX8_statutes 80 = .ok (.putfield 168, 3) := by decide +kernel
theorem dX8_statutes_83 : decode cX8_statutes 83 = .ok (.aload_n 0, 1) := by decide +kernel
theorem dX8_statutes_84 : decode cX8_statutes 84 = .ok (.getfield 90, 3) := by decide +kernel
theorem dX8_statutes_87 : decode cX8_statutes 87 = .ok (.iconst 5, 1) := by decide +kernel
theorem dX8_statutes_88 : decode cX8_statutes 88 = .ok (.iconst 3, 1) := by decide +kernel
theorem dX8_statutes_89 : decode cX8_statutes 89 = .ok (.iastore, 1) := by decide +kernel
theorem dX8_statutes_90 : decode cX8_statutes 90 = .ok (.aload_n 0, 1) := by decide +kernel
theorem dX8_statutes_91 : decode cX8_statutes 91 = .ok (.getfield 90, 3) := by decide +kernel
theorem dX8_statutes_94 : decode cX8_statutes 94 = .ok (.bipush 6, 2) := by decide +kernel
theorem dX8_statutes_96 : decode cX8_statutes 96 = .ok (.iconst 1, 1) := by decide +kernel
theorem dX8_statutes_97 : decode cX8_statutes 97 = .ok (.iastore, 1) := by decide +kernel
theorem dX8_statutes_98 : decode cX8_statutes 98 = .ok (.aload_n 0, 1) := by decide +kernel
theorem dX8_statutes_99 : decode cX8_statutes 99 = .ok (.getfield 90, 3) := by decide +kernel
theorem dX8_statutes_102 : decode cX8_statutes 102 = .ok (.bipush 7, 2) := by decide +kernel
theorem dX8_statutes_104 : decode cX8_statutes 104 = .ok (.bipush 8, 2) := by decide +kernel
theorem dX8_statutes_106 : decode cX8_statutes 106 = .ok (.iastore, 1) := by decide +kernel
theorem dX8_statutes_107 : decode cX8_statutes 107 = .ok (.aload_n 0, 1) := by decide +kernel
theorem dX8_statutes_108 : decode cX8_statutes 108 = .ok (.iconst 1, 1) := by decide +kernel
theorem dX8_statutes_109 : decode cX8_statutes 109 = .ok (.putfield 158, 3) := by decide +kernel
theorem dX8_statutes_112 : decode cX8_statutes 112 = .ok (.aload_n 0, 1) := by decide +kernel
theorem dX8_statutes_113 : decode cX8_statutes 113 = .ok (.getfield 13, 3) := by decide +kernel
theorem dX8_statutes_116 : decode cX8_statutes 116 = .ok (.bipush 8, 2) := by decide +kernel
theorem dX8_statutes_118 : decode cX8_statutes 118 = .ok (.iconst 2, 1) := by decide +kernel
theorem dX8_statutes_119 : decode cX8_statutes 119 = .ok (.iastore, 1) := by decide +kernel
theorem dX8_statutes_120 : decode cX8_statutes 120 = .ok (.aload_n 0, 1) := by decide +kernel
theorem dX8_statutes_121 : decode cX8_statutes 121 = .ok (.iconst 0, 1) := by decide +kernel
theorem dX8_statutes_122 : decode cX8_statutes 122 = .ok (.putfield 124, 3) := by decide +kernel
theorem dX8_statutes_125 : decode cX8_statutes 125 = .ok (.iconst 0, 1) := by decide +kernel
theorem dX8_statutes_126 : decode cX8_statutes 126 = .ok (.istore_n 2, 1) := by decide +kernel
theorem dX8_statutes_127 : decode cX8_statutes 127 = .ok (.aload_n 0, 1) := by decide +kernel
theorem dX8_statutes_128 : decode cX8_statutes 128 = .ok (.invokevirtual 155, 3) := by decide +kernel
theorem dX8_statutes_131 : decode cX8_statutes 131 = .ok (.aload_n 0, 1) := by decide +kernel
theorem dX8_statutes_132 : decode cX8_statutes 132 = .ok (.getfield 130, 3) := by decide +kernel
theorem dX8_statutes_135 : decode cX8_statutes 135 = .ok (.ifCond .eq 42, 3) := by decide +kernel
theorem dX8_statutes_138 : decode cX8_statutes 138 = .ok (.aload_n 0, 1) := by decide +kernel
theorem dX8_statutes_139 : decode cX8_statutes 139 = .ok (.invokevirtual 171, 3) := by decide +kernel
theorem dX8_statutes_142 : decode cX8_statutes 142 = .ok (.ifCond .ne 5, 3) := by decide +kernel
theorem dX8_statutes_145 : decode cX8_statutes 145 = .ok (.iconst (-1), 1) := by decide +kernel
theorem dX8_statutes_146 : decode cX8_statutes 146 = .ok (.ireturn, 1) := by decide +kernel
theorem dX8_statutes_147 : decode cX8_statutes 147 = .ok (.aload_n 0, 1) := by decide +kernel
theorem dX8_statutes_148 : decode cX8_statutes 148 = .ok (.getfield 130, 3) := by decide +kernel
theorem dX8_statutes_151 : decode cX8_statutes 151 = .ok (.iconst 3, 1) := by decide +kernel
theorem dX8_statutes_152 : decode cX8_statutes 152 = .ok (.if_icmp .eq 15, 3) := by decide +kernel
theorem dX8_statutes_155 : decode cX8_statutes 155 = .ok (.aload_n 0, 1) := by decide +kernel
theorem dX8_statutes_156 : decode cX8_statutes 156 = .ok (.iconst 1, 1) := by decide +kernel
theorem dX8_statutes_157 : decode cX8_statutes 157 = .ok (.aload_n 0, 1) := by decide +kernel
theorem dX8_statutes_158 : decode cX8_statutes 158 = .ok (.getfield 127, 3) := by decide +kernel
theorem dX8_statutes_161 : decode cX8_statutes 161 = .ok (.invokevirtual 148, 3) := by decide +kernel
theorem dX8_statutes_164 : decode cX8_statutes 164 = .ok (.istore_n 3, 1) := by decide +kernel
theorem dX8_statutes_165 : decode cX8_statutes 165 = .ok (.iconst (-1), 1) := by decide +kernel
theorem dX8_statutes_166 : decode cX8_statutes 166 = .ok (.ireturn, 1) := by decide +kernel
theorem dX8_statutes_167 : decode cX8_statutes 167 = .ok (.iinc 2 1, 3) := by decide +kernel
theorem dX8_statutes_170 : decode cX8_statutes 170 = .ok (.aload_n 0, 1) := by decide +kernel
theorem dX8_statutes_171 : decode cX8_statutes 171 = .ok (.invokevirtual 155, 3) := by decide +kernel
theorem dX8_statutes_174 : decode cX8_statutes 174 = .ok (.goto (-43), 3) := by decide +kernel
theorem dX8_statutes_177 : decode cX8_statutes 177 = .ok (.aload_n 0, 1) := by decide +kernel
theorem dX8_statutes_178 : decode cX8_statutes 178 = .ok (.aload_n 0, 1) := by decide +kernel
theorem dX8_statutes_179 : decode cX8_statutes 179 = .ok (.getfield 158, 3) := by decide +kernel
theorem dX8_statutes_182 : decode cX8_statutes 182 = .ok (.putfield 16, 3) := by decide +kernel
theorem dX8_statutes_185 : decode cX8_statutes 185 = .ok (.iconst 0, 1) := by decide +kernel
theorem dX8_statutes_186 : decode cX8_statutes 186 = .ok (.istore_n 3, 1) := by decide +kernel
theorem dX8_statutes_187 : decode cX8_statutes 187 = .ok (.iload_n 3, 1) := by decide +kernel
theorem dX8_statutes_188 : decode cX8_statutes 188 = .ok (.bipush 8, 2) := by decide +kernel
theorem dX8_statutes_190 : decode cX8_statutes 190 = .ok (.if_icmp .ge 24, 3) := by decide +kernel
theorem dX8_statutes_193 : decode cX8_statutes 193 = .ok (.aload_n 0, 1) := by decide +kernel
theorem dX8_statutes_194 : decode cX8_statutes 194 = .ok (.getfield 13, 3) := by decide +kernel
theorem dX8_statutes_197 : decode cX8_statutes 197 = .ok (.iload_n 3, 1) := by decide +kernel
theorem dX8_statutes_198 : decode cX8_statutes 198 = .ok (.aload_n 0, 1) := by decide +kernel
theorem dX8_statutes_199 : decode cX8_statutes 199 = .ok (.getfield 13, 3) := by decide +kernel
theorem dX8_statutes_202 : decode cX8_statutes 202 = .ok (.bipush 8, 2) := by decide +kernel
theorem dX8_statutes_204 : decode cX8_statutes 204 = .ok (.iload_n 3, 1) := by decide +kernel
theorem dX8_statutes_205 : decode cX8_statutes 205 = .ok (.iadd, 1) := by decide +kernel
theorem dX8_statutes_206 : decode cX8_statutes 206 = .ok (.iaload, 1) := by decide +kernel
theorem dX8_statutes_207 : decode cX8_statutes 207 = .ok (.iastore, 1) := by decide +kernel
theorem dX8_statutes_208 : decode cX8_statutes 208 = .ok (.iinc 3 1, 3) := by decide +kernel
theorem dX8_statutes_211 : decode cX8_statutes 211 = .ok (.goto (-24), 3) := by decide +kernel
theorem dX8_statutes_214 : decode cX8_statutes 214 = .ok (.aload_n 0, 1) := by decide +kernel
theorem dX8_statutes_215 : decode cX8_statutes 215 = .ok (.iconst 0, 1) := by decide +kernel
theorem dX8_statutes_216 : decode cX8_statutes 216 = .ok (.putfield 174, 3) := by decide +kernel
theorem dX8_statutes_219 : decode cX8_statutes 219 = .ok (.aload_n 0, 1) := by decide +kernel
theorem dX8_statutes_220 : decode cX8_statutes 220 = .ok (.aload_n 0, 1) := by decide +kernel
theorem dX8_statutes_221 : decode cX8_statutes 221 = .ok (.getfield 90, 3) := by decide +kernel
theorem dX8_statutes_224 : decode cX8_statutes 224 = .ok (.iconst 1, 1) := by decide +kernel
theorem dX8_statutes_225 : decode cX8_statutes 225 = .ok (.iaload, 1) := by decide +kernel
theorem dX8_statutes_226 : decode cX8_statutes 226 = .ok (.putfield 20, 3) := by decide +kernel
theorem dX8_statutes_229 : decode cX8_statutes 229 = .ok (.aload_n 0, 1) := by decide +kernel
theorem dX8_statutes_230 : decode cX8_statutes 230 = .ok (.aload_n 0, 1) := by decide +kernel
theorem dX8_statutes_231 : decode cX8_statutes 231 = .ok (.getfield 90, 3) := by decide +kernel
theorem dX8_statutes_234 : decode cX8_statutes 234 = .ok (.iconst 4, 1) := by decide +kernel
theorem dX8_statutes_235 : decode cX8_statutes 235 = .ok (.iaload, 1) := by decide +kernel
theorem dX8_statutes_236 : decode cX8_statutes 236 = .ok (.putfield 23, 3) := by decide +kernel
theorem dX8_statutes_239 : decode cX8_statutes 239 = .ok (.aload_n 0, 1) := by decide +kernel
theorem dX8_statutes_240 : decode cX8_statutes 240 = .ok (.aload_n 0, 1) := by decide +kernel
theorem dX8_statutes_241 : decode cX8_statutes 241 = .ok (.getfield 168, 3) := by decide +kernel
theorem dX8_statutes_244 : decode cX8_statutes 244 = .ok (.putfield 26, 3) := by decide +kernel
theorem dX8_statutes_247 : decode cX8_statutes 247 = .ok (.aload_n 0, 1) := by decide +kernel
theorem dX8_statutes_248 : decode cX8_statutes 248 = .ok (.aload_n 0, 1) := by decide +kernel
theorem dX8_statutes_249 : decode cX8_statutes 249 = .ok (.getfield 90, 3) := by decide +kernel
theorem dX8_statutes_252 : decode cX8_statutes 252 = .ok (.iconst 5, 1) := by decide +kernel
theorem dX8_statutes_253 : decode cX8_statutes 253 = .ok (.iaload, 1) := by decide +kernel
theorem dX8_statutes_254 : decode cX8_statutes 254 = .ok (.putfield 29, 3) := by decide +kernel
theorem dX8_statutes_257 : decode cX8_statutes 257 = .ok (.aload_n 0, 1) := by decide +kernel
theorem dX8_statutes_258 : decode cX8_statutes 258 = .ok (.aload_n 0, 1) := by decide +kernel
theorem dX8_statutes_259 : decode cX8_statutes 259 = .ok (.getfield 90, 3) := by decide +kernel
theorem dX8_statutes_262 : decode cX8_statutes 262 = .ok (.bipush 6, 2) := by decide +kernel
theorem dX8_statutes_264 : decode cX8_statutes 264 = .ok (.iaload, 1) := by decide +kernel
theorem dX8_statutes_265 : decode cX8_statutes 265 = .ok (.putfield 32, 3) := by decide +kernel
theorem dX8_statutes_268 : decode cX8_statutes 268 = .ok (.aload_n 0, 1) := by decide +kernel
theorem dX8_statutes_269 : decode cX8_statutes 269 = .ok (.aload_n 0, 1) := by decide +kernel
theorem dX8_statutes_270 : decode cX8_statutes 270 = .ok (.getfield 90, 3) := by decide +kernel
theorem dX8_statutes_273 : decode cX8_statutes 273 = .ok (.bipush 7, 2) := by decide +kernel
theorem dX8_statutes_275 : decode cX8_statutes 275 = .ok (.iaload, 1) := by decide +kernel
theorem dX8_statutes_276 : decode cX8_statutes 276 = .ok (.putfield 35, 3) := by decide +kernel
theorem dX8_statutes_279 : decode cX8_statutes 279 = .ok (.iload_n 2, 1) := by decide +kernel
theorem dX8_statutes_280 : decode cX8_statutes 280 = .ok (.ireturn, 1) := by decide +kernel
theorem dX8_fault_0 : decode cX8_fault 0 = .ok (.aload_n 0, 1) := by decide +kernel
theorem dX8_fault_1 : decode cX8_fault 1 = .ok (.iconst 0, 1) := by decide +kernel
theorem dX8_fault_2 : decode cX8_fault 2 = .ok (.putfield 112, 3) := by decide +kernel
theorem dX8_fault_5 : decode cX8_fault 5 = .ok (.iload_n 1, 1) := by decide +kernel
theorem dX8_fault_6 : decode cX8_fault 6 = .ok (.ifCond .ne 10, 3) := by decide +kernel
theorem dX8_fault_9 : decode cX8_fault 9 = .ok (.aload_n 0, 1) := by decide +kernel
theorem dX8_fault_10 : decode cX8_fault 10 = .ok (.getfield 118, 3) := by decide +kernel
theorem dX8_fault_13 : decode cX8_fault 13 = .ok (.goto 16, 3) := by decide +kernel
theorem dX8_fault_16 : decode cX8_fault 16 = .ok (.iload_n 1, 1) := by decide +kernel
theorem dX8_fault_17 : decode cX8_fault 17 = .ok (.iconst 1, 1) := by decide +kernel
theorem dX8_fault_18 : decode cX8_fault 18 = .ok (.if_icmp .ne 10, 3) := by decide +kernel
theorem dX8_fault_21 : decode cX8_fault 21 = .ok (.aload_n 0, 1) := by decide +kernel
theorem dX8_fault_22 : decode cX8_fault 22 = .ok (.getfield 38, 3) := by decide +kernel
theorem dX8_fault_25 : decode cX8_fault 25 = .ok (.goto 4, 3) := by decide +kernel
theorem dX8_fault_28 : decode cX8_fault 28 = .ok (.iconst (-1), 1) := by decide +kernel
theorem dX8_fault_29 : decode cX8_fault 29 = .ok (.ireturn, 1) := by decide +kernel
theorem dX8_giver_0 : decode cX8_giver 0 = .ok (.aload_n 0, 1) := by decide +kernel
theorem dX8_giver_1 : decode cX8_giver 1 = .ok (.iconst 0, 1) := by decide +kernel
theorem dX8_giver_2 : decode cX8_giver 2 = .ok (.putfield 112, 3) := by decide +kernel
theorem dX8_giver_5 : decode cX8_giver 5 = .ok (.aload_n 0, 1) := by decide +kernel
theorem dX8_giver_6 : decode cX8_giver 6 = .ok (.getfield 177, 3) := by decide +kernel
theorem dX8_giver_9 : decode cX8_giver 9 = .ok (.bipush 8, 2) := by decide +kernel
theorem dX8_giver_11 : decode cX8_giver 11 = .ok (.if_icmp .ne 5, 3) := by decide +kernel
theorem dX8_giver_14 : decode cX8_giver 14 = .ok (.iconst (-1), 1) := by decide +kernel
theorem dX8_giver_15 : decode cX8_giver 15 = .ok (.ireturn, 1) := by decide +kernel
theorem dX8_giver_16 : decode cX8_giver 16 = .ok (.aload_n 0, 1) := by decide +kernel
theorem dX8_giver_17 : decode cX8_giver 17 = .ok (.getfield 41, 3) := by decide +kernel
theorem dX8_giver_20 : decode cX8_giver 20 = .ok (.aload_n 0, 1) := by decide +kernel
theorem dX8_giver_21 : decode cX8_giver 21 = .ok (.getfield 177, 3) := by decide +kernel
theorem dX8_giver_24 : decode cX8_giver 24 = .ok (.iconst 0, 1) := by decide +kernel
theorem dX8_giver_25 : decode cX8_giver 25 = .ok (.iastore, 1) := by decide +kernel
theorem dX8_giver_26 : decode cX8_giver 26 = .ok (.aload_n 0, 1) := by decide +kernel
theorem dX8_giver_27 : decode cX8_giver 27 = .ok (.getfield 44, 3) := by decide +kernel
theorem dX8_giver_30 : decode cX8_giver 30 = .ok (.aload_n 0, 1) := by decide +kernel
theorem dX8_giver_31 : decode cX8_giver 31 = .ok (.getfield 177, 3) := by decide +kernel
theorem dX8_giver_34 : decode cX8_giver 34 = .ok (.iconst (-1), 1) := by decide +kernel
theorem dX8_giver_35 : decode cX8_giver 35 = .ok (.iastore, 1) := by decide +kernel
theorem dX8_giver_36 : decode cX8_giver 36 = .ok (.aload_n 0, 1) := by decide +kernel
theorem dX8_giver_37 : decode cX8_giver 37 = .ok (.dup, 1) := by decide +kernel
theorem dX8_giver_38 : decode cX8_giver 38 = .ok (.getfield 177, 3) := by decide +kernel
theorem dX8_giver_41 : decode cX8_giver 41 = .ok (.iconst 1, 1) := by decide +kernel
theorem dX8_giver_42 : decode cX8_giver 42 = .ok (.iadd, 1) := by decide +kernel
theorem dX8_giver_43 : decode cX8_giver 43 = .ok (.putfield 177, 3) := by decide +kernel
theorem dX8_giver_46 : decode cX8_giver 46 = .ok (.aload_n 0, 1) := by decide +kernel
theorem dX8_giver_47 : decode cX8_giver 47 = .ok (.getfield 177, 3) := by decide +kernel
theorem dX8_giver_50 : decode cX8_giver 50 = .ok (.iconst 1, 1) := by decide +kernel
theorem dX8_giver_51 : decode cX8_giver 51 = .ok (.isub, 1) := by decide +kernel
theorem dX8_giver_52 : decode cX8_giver 52 = .ok (.ireturn, 1) := by decide +kernel
theorem dX8_gift_0 : decode cX8_gift 0 = .ok (.aload_n 0, 1) := by decide +kernel
theorem dX8_gift_1 : decode cX8_gift 1 = .ok (.iconst 0, 1) := by decide +kernel
theorem dX8_gift_2 : decode cX8_gift 2 = .ok (.putfield 112, 3) := by decide +kernel
theorem dX8_gift_5 : decode cX8_gift 5 = .ok (.iload_n 1, 1) := by decide +kernel
theorem dX8_gift_6 : decode cX8_gift 6 = .ok (.ifCond .lt 29, 3) := by decide +kernel
theorem dX8_gift_9 : decode cX8_gift 9 = .ok (.iload_n 1, 1) := by decide +kernel
theorem dX8_gift_10 : decode cX8_gift 10 = .ok (.aload_n 0, 1) := by decide +kernel
theorem dX8_gift_11 : decode cX8_gift 11 = .ok (.getfield 177, 3) := by decide +kernel
theorem dX8_gift_14 : decode cX8_gift 14 = .ok (.if_icmp .ge 21, 3) := by decide +kernel
theorem dX8_gift_17 : decode cX8_gift 17 = .ok (.iload_n 2, 1) := by decide +kernel
theorem dX8_gift_18 : decode cX8_gift 18 = .ok (.iconst 1, 1) := by decide +kernel
theorem dX8_gift_19 : decode cX8_gift 19 = .ok (.if_icmp .lt 16, 3) := by decide +kernel
theorem dX8_gift_22 : decode cX8_gift 22 = .ok (.iload_n 2, 1) := by decide +kernel
theorem dX8_gift_23 : decode cX8_gift 23 = .ok (.ldc 147, 2) := by decide +kernel
theorem dX8_gift_25 : decode cX8_gift 25 = .ok (.aload_n 0, 1) := by decide +kernel
theorem dX8_gift_26 : decode cX8_gift 26 = .ok (.getfield 41, 3) := by decide +kernel
theorem dX8_gift_29 : decode cX8_gift 29 = .ok (.iload_n 1, 1) := by decide +kernel
theorem dX8_gift_30 : decode cX8_gift 30 = .ok (.iaload, 1) := by decide +kernel
theorem dX8_gift_31 : decode cX8_gift 31 = .ok (.isub, 1) := by decide +kernel
theorem dX8_gift_32 : decode cX8_gift 32 = .ok (.if_icmp .le 5, 3) := by decide +kernel
theorem dX8_gift_35 : decode cX8_gift 35 = .ok (.iconst (-1), 1) := by decide +kernel
theorem dX8_gift_36 : decode cX8_gift 36 = .ok (.ireturn, 1) := by decide +kernel
theorem dX8_gift_37 : decode cX8_gift 37 = .ok (.aload_n 0, 1) := by decide +kernel
theorem dX8_gift_38 : decode cX8_gift 38 = .ok (.getfield 41, 3) := by decide +kernel
theorem dX8_gift_41 : decode cX8_gift 41 = .ok (.iload_n 1, 1) := by decide +kernel
theorem dX8_gift_42 : decode cX8_gift 42 = .ok (.dup2, 1) := by decide +kernel
theorem dX8_gift_43 : decode cX8_gift 43 = .ok (.iaload, 1) := by decide +kernel
theorem dX8_gift_44 : decode cX8_gift 44 = .ok (.iload_n 2, 1) := by decide +kernel
theorem dX8_gift_45 : decode cX8_gift 45 = .ok (.iadd, 1) := by decide +kernel
theorem dX8_gift_46 : decode cX8_gift 46 = .ok (.iastore, 1) := by decide +kernel
theorem dX8_gift_47 : decode cX8_gift 47 = .ok (.aload_n 0, 1) := by decide +kernel
theorem dX8_gift_48 : decode cX8_gift 48 = .ok (.getfield 41, 3) := by decide +kernel
theorem dX8_gift_51 : decode cX8_gift 51 = .ok (.iload_n 1, 1) := by decide +kernel
theorem dX8_gift_52 : decode cX8_gift 52 = .ok (.iaload, 1) := by decide +kernel
theorem dX8_gift_53 : decode cX8_gift 53 = .ok (.ireturn, 1) := by decide +kernel
theorem dX8_isChild_0 : decode cX8_isChild 0 = .ok (.iload_n 1, 1) := by decide +kernel
theorem dX8_isChild_1 : decode cX8_isChild 1 = .ok (.ifCond .lt 15, 3) := by decide +kernel
theorem dX8_isChild_4 : decode cX8_isChild 4 = .ok (.iload_n 1, 1) := by decide +kernel
theorem dX8_isChild_5 : decode cX8_isChild 5 = .ok (.aload_n 0, 1) := by decide +kernel
theorem dX8_isChild_6 : decode cX8_isChild 6 = .ok (.getfield 180, 3) := by decide +kernel
theorem dX8_isChild_9 : decode cX8_isChild 9 = .ok (.if_icmp .ge 7, 3) := by decide +kernel
theorem dX8_isChild_12 : decode cX8_isChild 12 = .ok (.iconst 1, 1) := by decide +kernel
theorem dX8_isChild_13 : decode cX8_isChild 13 = .ok (.goto 4, 3) := by decide +kernel
theorem dX8_isChild_16 : decode cX8_isChild 16 = .ok (.iconst 0, 1) := by decide +kernel
theorem dX8_isChild_17 : decode cX8_isChild 17 = .ok (.ireturn, 1) := by decide +kernel
theorem dX8_support_0 : decode cX8_support 0 = .ok (.aload_n 0, 1) := by decide +kernel
theorem dX8_support_1 : decode cX8_support 1 = .ok (.iconst 0, 1) := by decide +kernel
theorem dX8_support_2 : decode cX8_support 2 = .ok (.putfield 112, 3) := by decide +kernel
theorem dX8_support_5 : decode cX8_support 5 = .ok (.iload_n 1, 1) := by decide +kernel
theorem dX8_support_6 : decode cX8_support 6 = .ok (.ifCond .lt 24, 3) := by decide +kernel
theorem dX8_support_9 : decode cX8_support 9 = .ok (.iload_n 1, 1) := by decide +kernel
theorem dX8_support_10 : decode cX8_support 10 = .ok (.aload_n 0, 1) := by decide +kernel
theorem dX8_support_11 : decode cX8_support 11 = .ok (.getfield 177, 3) := by decide +kernel
theorem dX8_support_14 : decode cX8_support 14 = .ok (.if_icmp .ge 16, 3) := by decide +kernel
theorem dX8_support_17 : decode cX8_support 17 = .ok (.iload_n 2, 1) := by decide +kernel
theorem dX8_support_18 : decode cX8_support 18 = .ok (.iconst (-1), 1) := by decide +kernel
theorem dX8_support_19 : decode cX8_support 19 = .ok (.if_icmp .eq 13, 3) := by decide +kernel
theorem dX8_support_22 : decode cX8_support 22 = .ok (.aload_n 0, 1) := by decide +kernel
theorem dX8_support_23 : decode cX8_support 23 = .ok (.iload_n 2, 1) := by decide +kernel
theorem dX8_support_24 : decode cX8_support 24 = .ok (.invokevirtual 183, 3) := by decide +kernel
theorem dX8_support_27 : decode cX8_support 27 = .ok (.ifCond .ne 5, 3) := by decide +kernel
theorem dX8_support_30 : decode cX8_support 30 = .ok (.iconst 0, 1) := by decide +kernel
theorem dX8_support_31 : decode cX8_support 31 = .ok (.ireturn, 1) := by decide +kernel
theorem dX8_support_32 : decode cX8_support 32 = .ok (.aload_n 0, 1) := by decide +kernel
theorem dX8_support_33 : decode cX8_support 33 = .ok (.getfield 44, 3) := by decide +kernel
theorem dX8_support_36 : decode cX8_support 36 = .ok (.iload_n 1, 1) := by decide +kernel
theorem dX8_support_37 : decode cX8_support 37 = .ok (.iload_n 2, 1) := by decide +kernel
theorem dX8_support_38 : decode cX8_support 38 = .ok (.iastore, 1) := by decide +kernel
theorem dX8_support_39 : decode cX8_support 39 = .ok (.iconst 1, 1) := by decide +kernel
theorem dX8_support_40 : decode cX8_support 40 = .ok (.ireturn, 1) := by decide +kernel
theorem dX8_child_0 : decode cX8_child 0 = .ok (.aload_n 0, 1) := by decide +kernel
theorem dX8_child_1 : decode cX8_child 1 = .ok (.iconst 0, 1) := by decide +kernel
theorem dX8_child_2 : decode cX8_child 2 = .ok (.putfield 112, 3) := by decide +kernel
theorem dX8_child_5 : decode cX8_child 5 = .ok (.aload_n 0, 1) := by decide +kernel
theorem dX8_child_6 : decode cX8_child 6 = .ok (.getfield 180, 3) := by decide +kernel
theorem dX8_child_9 : decode cX8_child 9 = .ok (.bipush 16, 2) := by decide +kernel
theorem dX8_child_11 : decode cX8_child 11 = .ok (.if_icmp .eq 46, 3) := by decide +kernel
theorem dX8_child_14 : decode cX8_child 14 = .ok (.iload_n 1, 1) := by decide +kernel
theorem dX8_child_15 : decode cX8_child 15 = .ok (.ifCond .lt 42, 3) := by decide +kernel
theorem dX8_child_18 : decode cX8_child 18 = .ok (.iload_n 1, 1) := by decide +kernel
theorem dX8_child_19 : decode cX8_child 19 = .ok (.bipush 20, 2) := by decide +kernel
theorem dX8_child_21 : decode cX8_child 21 = .ok (.if_icmp .gt 36, 3) := by decide +kernel
theorem dX8_child_24 : decode cX8_child 24 = .ok (.iload_n 2, 1) := by decide +kernel
theorem dX8_child_25 : decode cX8_child 25 = .ok (.ifCond .lt 32, 3) := by decide +kernel
theorem dX8_child_28 : decode cX8_child 28 = .ok (.iload_n 2, 1) := by decide +kernel
theorem dX8_child_29 : decode cX8_child 29 = .ok (.bipush 99, 2) := by decide +kernel
theorem dX8_child_31 : decode cX8_child 31 = .ok (.if_icmp .gt 26, 3) := by decide +kernel
theorem dX8_child_34 : decode cX8_child 34 = .ok (.iload_n 3, 1) := by decide +kernel
theorem dX8_child_35 : decode cX8_child 35 = .ok (.bipush 10, 2) := by decide +kernel
theorem dX8_child_37 : decode cX8_child 37 = .ok (.if_icmp .lt 20, 3) := by decide +kernel
theorem dX8_child_40 : decode cX8_child 40 = .ok (.iload_n 3, 1) := by decide +kernel
theorem dX8_child_41 : decode cX8_child 41 = .ok (.bipush 60, 2) := by decide +kernel
theorem dX8_child_43 : decode cX8_child 43 = .ok (.if_icmp .gt 14, 3) := by decide +kernel
theorem dX8_child_46 : decode cX8_child 46 = .ok (.iload 4, 2) := by decide +kernel
theorem dX8_child_48 : decode cX8_child 48 = .ok (.ifCond .lt 9, 3) := by decide +kernel
theorem dX8_child_51 : decode cX8_child 51 = .ok (.iload 4, 2) := by decide +kernel
theorem dX8_child_53 : decode cX8_child 53 = .ok (.iconst 4, 1) := by decide +kernel
theorem dX8_child_54 : decode cX8_child 54 = .ok (.if_icmp .le 5, 3) := by decide +kernel
theorem dX8_child_57 : decode cX8_child 57 = .ok (.iconst (-1), 1) := by decide +kernel
theorem dX8_child_58 : decode cX8_child 58 = .ok (.ireturn, 1) := by decide +kernel
theorem dX8_child_59 : decode cX8_child 59 = .ok (.aload_n 0, 1) := by decide +kernel
theorem dX8_child_60 : decode cX8_child 60 = .ok (.getfield 47, 3) := by decide +kernel
theorem dX8_child_63 : decode cX8_child 63 = .ok (.aload_n 0, 1) := by decide +kernel
theorem dX8_child_64 : decode cX8_child 64 = .ok (.getfield 180, 3) := by decide +kernel
theorem dX8_child_67 : decode cX8_child 67 = .ok (.iload_n 1, 1) := by decide +kernel
theorem dX8_child_68 : decode cX8_child 68 = .ok (.iastore, 1) := by decide +kernel
theorem dX8_child_69 : decode cX8_child 69 = .ok (.aload_n 0, 1) := by decide +kernel
theorem dX8_child_70 : decode cX8_child 70 = .ok (.getfield 50, 3) := by decide +kernel
theorem dX8_child_73 : decode cX8_child 73 = .ok (.aload_n 0, 1) := by decide +kernel
theorem dX8_child_74 : decode cX8_child 74 = .ok (.getfield 180, 3) := by decide +kernel
theorem dX8_child_77 : decode cX8_child 77 = .ok (.iload_n 2, 1) := by decide +kernel
theorem dX8_child_78 : decode cX8_child 78 = .ok (.iastore, 1) := by decide +kernel
theorem dX8_child_79 : decode cX8_child 79 = .ok (.aload_n 0, 1) := by decide +kernel
theorem dX8_child_80 : decode cX8_child 80 = .ok (.getfield 53, 3) := by decide +kernel
theorem dX8_child_83 : decode cX8_child 83 = .ok (.aload_n 0, 1) := by decide +kernel
theorem dX8_child_84 : decode cX8_child 84 = .ok (.getfield 180, 3) := by decide +kernel
theorem dX8_child_87 : decode cX8_child 87 = .ok (.iload_n 3, 1) := by decide +kernel
theorem dX8_child_88 : decode cX8_child 88 = .ok (.iastore, 1) := by decide +kernel
theorem dX8_child_89 : decode cX8_child 89 = .ok (.aload_n 0, 1) := by decide +kernel
theorem dX8_child_90 : decode cX8_child 90 = .ok (.getfield 56, 3) := by decide +kernel
theorem dX8_child_93 : decode cX8_child 93 = .ok (.aload_n 0, 1) := by decide +kernel
theorem dX8_child_94 : decode cX8_child 94 = .ok (.getfield 180, 3) := by decide +kernel
theorem dX8_child_97 : decode cX8_child 97 = .ok (.iload 4, 2) := by decide +kernel
theorem dX8_child_99 : decode cX8_child 99 = .ok (.iastore, 1) := by decide +kernel
theorem dX8_child_100 : decode cX8_child 100 = .ok (.aload_n 0, 1) := by decide +kernel
theorem dX8_child_101 : decode cX8_child 101 = .ok (.getfield 59, 3) := by decide +kernel
theorem dX8_child_104 : decode cX8_child 104 = .ok (.aload_n 0, 1) := by decide +kernel
theorem dX8_child_105 : decode cX8_child 105 = .ok (.getfield 180, 3) := by decide +kernel
theorem dX8_child_108 : decode cX8_child 108 = .ok (.iconst 0, 1) := by decide +kernel
theorem dX8_child_109 : decode cX8_child 109 = .ok (.iastore, 1) := by decide +kernel
theorem dX8_child_110 : decode cX8_child 110 = .ok (.aload_n 0, 1) := by decide +kernel
theorem dX8_child_111 : decode cX8_child 111 = .ok (.dup, 1) := by decide +kernel
theorem dX8_child_112 : decode cX8_child 112 = .ok (.getfield 180, 3) := by decide +kernel
theorem dX8_child_115 : decode cX8_child 115 = .ok (.iconst 1, 1) := by decide +kernel
theorem dX8_child_116 : decode cX8_child 116 = .ok (.iadd, 1) := by decide +kernel
theorem dX8_child_117 : decode cX8_child 117 = .ok (.putfield 180, 3) := by decide +kernel
theorem dX8_child_120 : decode cX8_child 120 = .ok (.aload_n 0, 1) := by decide +kernel
theorem dX8_child_121 : decode cX8_child 121 = .ok (.getfield 180, 3) := by decide +kernel
theorem dX8_child_124 : decode cX8_child 124 = .ok (.iconst 1, 1) := by decide +kernel
theorem dX8_child_125 : decode cX8_child 125 = .ok (.isub, 1) := by decide +kernel
theorem dX8_child_126 : decode cX8_child 126 = .ok (.ireturn, 1) := by decide +kernel
theorem dX8_votes_0 : decode cX8_votes 0 = .ok (.iconst 0, 1) := by decide +kernel
theorem dX8_votes_1 : decode cX8_votes 1 = .ok (.istore_n 2, 1) := by decide +kernel
theorem dX8_votes_2 : decode cX8_votes 2 = .ok (.iconst 0, 1) := by decide +kernel
theorem dX8_votes_3 : decode cX8_votes 3 = .ok (.istore_n 3, 1) := by decide +kernel
theorem dX8_votes_4 : decode cX8_votes 4 = .ok (.iload_n 3, 1) := by decide +kernel
theorem dX8_votes_5 : decode cX8_votes 5 = .ok (.aload_n 0, 1) := by decide +kernel
theorem dX8_votes_6 : decode cX8_votes 6 = .ok (.getfield 177, 3) := by decide +kernel
theorem dX8_votes_9 : decode cX8_votes 9 = .ok (.if_icmp .ge 37, 3) := by decide +kernel
theorem dX8_votes_12 : decode cX8_votes 12 = .ok (.iload_n 2, 1) := by decide +kernel
theorem dX8_votes_13 : decode cX8_votes 13 = .ok (.aload_n 0, 1) := by decide +kernel
theorem dX8_votes_14 : decode cX8_votes 14 = .ok (.getfield 44, 3) := by decide +kernel
theorem dX8_votes_17 : decode cX8_votes 17 = .ok (.iload_n 3, 1) := by decide +kernel
theorem dX8_votes_18 : decode cX8_votes 18 = .ok (.iaload, 1) := by decide +kernel
theorem dX8_votes_19 : decode cX8_votes 19 = .ok (.iload_n 1, 1) := by decide +kernel
theorem dX8_votes_20 : decode cX8_votes 20 = .ok (.if_icmp .ne 17, 3) := by decide +kernel
theorem dX8_votes_23 : decode cX8_votes 23 = .ok (.aload_n 0, 1) := by decide +kernel
theorem dX8_votes_24 : decode cX8_votes 24 = .ok (.getfield 41, 3) := by decide +kernel
theorem dX8_votes_27 : decode cX8_votes 27 = .ok (.iload_n 3, 1) := by decide +kernel
theorem dX8_votes_28 : decode cX8_votes 28 = .ok (.iaload, 1) := by decide +kernel
theorem dX8_votes_29 : decode cX8_votes 29 = .ok (.aload_n 0, 1) := by decide +kernel
theorem dX8_votes_30 : decode cX8_votes 30 = .ok (.getfield 20, 3) := by decide +kernel
theorem dX8_votes_33 : decode cX8_votes 33 = .ok (.idiv, 1) := by decide +kernel
theorem dX8_votes_34 : decode cX8_votes 34 = .ok (.goto 4, 3) := by decide +kernel
theorem dX8_votes_37 : decode cX8_votes 37 = .ok (.iconst 0, 1) := by decide +kernel
theorem dX8_votes_38 : decode cX8_votes 38 = .ok (.iadd, 1) := by decide +kernel
theorem dX8_votes_39 : decode cX8_votes 39 = .ok (.istore_n 2, 1) := by decide +kernel
theorem dX8_votes_40 : decode cX8_votes 40 = .ok (.iinc 3 1, 3) := by decide +kernel
theorem dX8_votes_43 : decode cX8_votes 43 = .ok (.goto (-39), 3) := by decide +kernel
theorem dX8_votes_46 : decode cX8_votes 46 = .ok (.iload_n 2, 1) := by decide +kernel
theorem dX8_votes_47 : decode cX8_votes 47 = .ok (.ireturn, 1) := by decide +kernel
theorem dX8_mayCome_0 : decode cX8_mayCome 0 = .ok (.iload_n 1, 1) := by decide +kernel
theorem dX8_mayCome_1 : decode cX8_mayCome 1 = .ok (.ifCond .lt 42, 3) := by decide +kernel
theorem dX8_mayCome_4 : decode cX8_mayCome 4 = .ok (.aload_n 0, 1) := by decide +kernel
theorem dX8_mayCome_5 : decode cX8_mayCome 5 = .ok (.getfield 59, 3) := by decide +kernel
theorem dX8_mayCome_8 : decode cX8_mayCome 8 = .ok (.iload_n 1, 1) := by decide +kernel
theorem dX8_mayCome_9 : decode cX8_mayCome 9 = .ok (.iaload, 1) := by decide +kernel
theorem dX8_mayCome_10 : decode cX8_mayCome 10 = .ok (.ifCond .ne 33, 3) := by decide +kernel
theorem dX8_mayCome_13 : decode cX8_mayCome 13 = .ok (.aload_n 0, 1) := by decide +kernel
theorem dX8_mayCome_14 : decode cX8_mayCome 14 = .ok (.getfield 47, 3) := by decide +kernel
theorem dX8_mayCome_17 : decode cX8_mayCome 17 = .ok (.iload_n 1, 1) := by decide +kernel
theorem dX8_mayCome_18 : decode cX8_mayCome 18 = .ok (.iaload, 1) := by decide +kernel
theorem dX8_mayCome_19 : decode cX8_mayCome 19 = .ok (.aload_n 0, 1) := by decide +kernel
theorem dX8_mayCome_20 : decode cX8_mayCome 20 = .ok (.getfield 23, 3) := by decide +kernel
theorem dX8_mayCome_23 : decode cX8_mayCome 23 = .ok (.if_icmp .lt 20, 3) := by decide +kernel
theorem dX8_mayCome_26 : decode cX8_mayCome 26 = .ok (.aload_n 0, 1) := by decide +kernel
theorem dX8_mayCome_27 : decode cX8_mayCome 27 = .ok (.getfield 47, 3) := by decide +kernel
theorem dX8_mayCome_30 : decode cX8_mayCome 30 = .ok (.iload_n 1, 1) := by decide +kernel
theorem dX8_mayCome_31 : decode cX8_mayCome 31 = .ok (.iaload, 1) := by decide +kernel
theorem dX8_mayCome_32 : decode cX8_mayCome 32 = .ok (.aload_n 0, 1) := by decide +kernel
theorem dX8_mayCome_33 : decode cX8_mayCome 33 = .ok (.getfield 26, 3) := by decide +kernel
theorem dX8_mayCome_36 : decode cX8_mayCome 36 = .ok (.if_icmp .ge 7, 3) := by decide +kernel
theorem dX8_mayCome_39 : decode cX8_mayCome 39 = .ok (.iconst 1, 1) := by decide +kernel
theorem dX8_mayCome_40 : decode cX8_mayCome 40 = .ok (.goto 4, 3) := by decide +kernel
theorem dX8_mayCome_43 : decode cX8_mayCome 43 = .ok (.iconst 0, 1) := by decide +kernel
theorem dX8_mayCome_44 : decode cX8_mayCome 44 = .ok (.ireturn, 1) := by decide +kernel
theorem dX8_inMany_0 : decode cX8_inMany 0 = .ok (.iconst 0, 1) := by decide +kernel
theorem dX8_inMany_1 : decode cX8_inMany 1 = .ok (.istore_n 1, 1) := by decide +kernel
theorem dX8_inMany_2 : decode cX8_inMany 2 = .ok (.iconst 0, 1) := by decide +kernel
theorem dX8_inMany_3 : decode cX8_inMany 3 = .ok (.istore_n 2, 1) := by decide +kernel
theorem dX8_inMany_4 : decode cX8_inMany 4 = .ok (.iload_n 2, 1) := by decide +kernel
theorem dX8_inMany_5 : decode cX8_inMany 5 = .ok (.aload_n 0, 1) := by decide +kernel
theorem dX8_inMany_6 : decode cX8_inMany 6 = .ok (.getfield 180, 3) := by decide +kernel
theorem dX8_inMany_9 : decode cX8_inMany 9 = .ok (.if_icmp .ge 27, 3) := by decide +kernel
theorem dX8_inMany_12 : decode cX8_inMany 12 = .ok (.iload_n 1, 1) := by decide +kernel
theorem dX8_inMany_13 : decode cX8_inMany 13 = .ok (.aload_n 0, 1) := by decide +kernel
theorem dX8_inMany_14 : decode cX8_inMany 14 = .ok (.getfield 59, 3) := by decide +kernel
theorem dX8_inMany_17 : decode cX8_inMany 17 = .ok (.iload_n 2, 1) := by decide +kernel
theorem dX8_inMany_18 : decode cX8_inMany 18 = .ok (.iaload, 1) := by decide +kernel
theorem dX8_inMany_19 : decode cX8_inMany 19 = .ok (.iconst 1, 1) := by decide +kernel
theorem dX8_inMany_20 : decode cX8_inMany 20 = .ok (.if_icmp .ne 7, 3) := by decide +kernel
theorem dX8_inMany_23 : decode cX8_inMany 23 = .ok (.iconst 1, 1) := by decide +kernel
theorem dX8_inMany_24 : decode cX8_inMany 24 = .ok (.goto 4, 3) := by decide +kernel
theorem dX8_inMany_27 : decode cX8_inMany 27 = .ok (.iconst 0, 1) := by decide +kernel
theorem dX8_inMany_28 : decode cX8_inMany 28 = .ok (.iadd, 1) := by decide +kernel
theorem dX8_inMany_29 : decode cX8_inMany 29 = .ok (.istore_n 1, 1) := by decide +kernel
theorem dX8_inMany_30 : decode cX8_inMany 30 = .ok (.iinc 2 1, 3) := by decide +kernel
theorem dX8_inMany_33 : decode cX8_inMany 33 = .ok (.goto (-29), 3) := by decide +kernel
theorem dX8_inMany_36 : decode cX8_inMany 36 = .ok (.iload_n 1, 1) := by decide +kernel
theorem dX8_inMany_37 : decode cX8_inMany 37 = .ok (.ireturn, 1) := by decide +kernel
theorem dX8_isAhead_0 : decode cX8_isAhead 0 = .ok (.iload_n 3, 1) := by decide +kernel
theorem dX8_isAhead_1 : decode cX8_isAhead 1 = .ok (.ifCond .eq 35, 3) := by decide +kernel
theorem dX8_isAhead_4 : decode cX8_isAhead 4 = .ok (.aload_n 0, 1) := by decide +kernel
theorem dX8_isAhead_5 : decode cX8_isAhead 5 = .ok (.iload_n 1, 1) := by decide +kernel
theorem dX8_isAhead_6 : decode cX8_isAhead 6 = .ok (.invokevirtual 186, 3) := by decide +kernel
theorem dX8_isAhead_9 : decode cX8_isAhead 9 = .ok (.aload_n 0, 1) := by decide +kernel
theorem dX8_isAhead_10 : decode cX8_isAhead 10 = .ok (.iload_n 2, 1) := by decide +kernel
theorem dX8_isAhead_11 : decode cX8_isAhead 11 = .ok (.invokevirtual 186, 3) := by decide +kernel
theorem dX8_isAhead_14 : decode cX8_isAhead 14 = .ok (.if_icmp .eq 22, 3) := by decide +kernel
theorem dX8_isAhead_17 : decode cX8_isAhead 17 = .ok (.aload_n 0, 1) := by decide +kernel
theorem dX8_isAhead_18 : decode cX8_isAhead 18 = .ok (.iload_n 1, 1) := by decide +kernel
theorem dX8_isAhead_19 : decode cX8_isAhead 19 = .ok (.invokevirtual 186, 3) := by decide +kernel
theorem dX8_isAhead_22 : decode cX8_isAhead 22 = .ok (.aload_n 0, 1) := by decide +kernel
theorem dX8_isAhead_23 : decode cX8_isAhead 23 = .ok (.iload_n 2, 1) := by decide +kernel
theorem dX8_isAhead_24 : decode cX8_isAhead 24 = .ok (.invokevirtual 186, 3) := by decide +kernel
theorem dX8_isAhead_27 : decode cX8_isAhead 27 = .ok (.if_icmp .le 7, 3) := by decide +kernel
theorem dX8_isAhead_30 : decode cX8_isAhead 30 = .ok (.iconst 1, 1) := by decide +kernel
theorem dX8_isAhead_31 : decode cX8_isAhead 31 = .ok (.goto 4, 3) := by decide +kernel
theorem dX8_isAhead_34 : decode cX8_isAhead 34 = .ok (.iconst 0, 1) := by decide +kernel
theorem dX8_isAhead_35 : decode cX8_isAhead 35 = .ok (.ireturn, 1) := by decide +kernel
theorem dX8_isAhead_36 : decode cX8_isAhead 36 = .ok (.aload_n 0, 1) := by decide +kernel
theorem dX8_isAhead_37 : decode cX8_isAhead 37 = .ok (.getfield 50, 3) := by decide +kernel
theorem dX8_isAhead_40 : decode cX8_isAhead 40 = .ok (.iload_n 1, 1) := by decide +kernel
theorem dX8_isAhead_41 : decode cX8_isAhead 41 = .ok (.iaload, 1) := by decide +kernel
theorem dX8_isAhead_42 : decode cX8_isAhead 42 = .ok (.aload_n 0, 1) := by decide +kernel
theorem dX8_isAhead_43 : decode cX8_isAhead 43 = .ok (.getfield 50, 3) := by decide +kernel
theorem dX8_isAhead_46 : decode cX8_isAhead 46 = .ok (.iload_n 2, 1) := by decide +kernel
theorem dX8_isAhead_47 : decode cX8_isAhead 47 = .ok (.iaload, 1) := by decide +kernel
theorem dX8_isAhead_48 : decode cX8_isAhead 48 = .ok (.if_icmp .gt 23, 3) := by decide +kernel
theorem dX8_isAhead_51 : decode cX8_isAhead 51 = .ok (.aload_n 0, 1) := by decide +kernel
theorem dX8_isAhead_52 : decode cX8_isAhead 52 = .ok (.getfield 50, 3) := by decide +kernel
theorem dX8_isAhead_55 : decode cX8_isAhead 55 = .ok (.iload_n 1, 1) := by decide +kernel
theorem dX8_isAhead_56 : decode cX8_isAhead 56 = .ok (.iaload, 1) := by decide +kernel
theorem dX8_isAhead_57 : decode cX8_isAhead 57 = .ok (.aload_n 0, 1) := by decide +kernel
theorem dX8_isAhead_58 : decode cX8_isAhead 58 = .ok (.getfield 50, 3) := by decide +kernel
theorem dX8_isAhead_61 : decode cX8_isAhead 61 = .ok (.iload_n 2, 1) := by decide +kernel
theorem dX8_isAhead_62 : decode cX8_isAhead 62 = .ok (.iaload, 1) := by decide +kernel
theorem dX8_isAhead_63 : decode cX8_isAhead 63 = .ok (.if_icmp .ne 12, 3) := by decide +kernel
theorem dX8_isAhead_66 : decode cX8_isAhead 66 = .ok (.iload_n 1, 1) := by decide +kernel
theorem dX8_isAhead_67 : decode cX8_isAhead 67 = .ok (.iload_n 2, 1) := by decide +kernel
theorem dX8_isAhead_68 : decode cX8_isAhead 68 = .ok (.if_icmp .ge 7, 3) := by decide +kernel
theorem dX8_isAhead_71 : decode cX8_isAhead 71 = .ok (.iconst 1, 1) := by decide +kernel
theorem dX8_isAhead_72 : decode cX8_isAhead 72 = .ok (.goto 4, 3) := by decide +kernel
theorem dX8_isAhead_75 : decode cX8_isAhead 75 = .ok (.iconst 0, 1) := by decide +kernel
theorem dX8_isAhead_76 : decode cX8_isAhead 76 = .ok (.ireturn, 1) := by decide +kernel
theorem dX8_comes_0 : decode cX8_comes 0 = .ok (.aload_n 0, 1) := by decide +kernel
theorem dX8_comes_1 : decode cX8_comes 1 = .ok (.getfield 13, 3) := by decide +kernel
theorem dX8_comes_4 : decode cX8_comes 4 = .ok (.aload_n 0, 1) := by decide +kernel
theorem dX8_comes_5 : decode cX8_comes 5 = .ok (.getfield 174, 3) := by decide +kernel
theorem dX8_comes_8 : decode cX8_comes 8 = .ok (.iaload, 1) := by decide +kernel
theorem dX8_comes_9 : decode cX8_comes 9 = .ok (.istore_n 1, 1) := by decide +kernel
theorem dX8_comes_10 : decode cX8_comes 10 = .ok (.iload_n 1, 1) := by decide +kernel
theorem dX8_comes_11 : decode cX8_comes 11 = .ok (.ifCond .ne 68, 3) := by decide +kernel
theorem dX8_comes_14 : decode cX8_comes 14 = .ok (.iconst 0, 1) := by decide +kernel
theorem dX8_comes_15 : decode cX8_comes 15 = .ok (.istore_n 2, 1) := by decide +kernel
theorem dX8_comes_16 : decode cX8_comes 16 = .ok (.iload_n 2, 1) := by decide +kernel
theorem dX8_comes_17 : decode cX8_comes 17 = .ok (.aload_n 0, 1) := by decide +kernel
theorem dX8_comes_18 : decode cX8_comes 18 = .ok (.getfield 177, 3) := by decide +kernel
theorem dX8_comes_21 : decode cX8_comes 21 = .ok (.if_icmp .ge 56, 3) := by decide +kernel
theorem dX8_comes_24 : decode cX8_comes 24 = .ok (.aload_n 0, 1) := by decide +kernel
theorem dX8_comes_25 : decode cX8_comes 25 = .ok (.getfield 190, 3) := by decide +kernel
theorem dX8_comes_28 : decode cX8_comes 28 = .ok (.iload_n 2, 1) := by decide +kernel
theorem dX8_comes_29 : decode cX8_comes 29 = .ok (.iadd, 1) := by decide +kernel
theorem dX8_comes_30 : decode cX8_comes 30 = .ok (.aload_n 0, 1) := by decide +kernel
theorem dX8_comes_31 : decode cX8_comes 31 = .ok (.getfield 177, 3) := by decide +kernel
theorem dX8_comes_34 : decode cX8_comes 34 = .ok (.irem, 1) := by decide +kernel
theorem dX8_comes_35 : decode cX8_comes 35 = .ok (.istore_n 3, 1) := by decide +kernel
theorem dX8_comes_36 : decode cX8_comes 36 = .ok (.aload_n 0, 1) := by decide +kernel
theorem dX8_comes_37 : decode cX8_comes 37 = .ok (.aload_n 0, 1) := by decide +kernel
theorem dX8_comes_38 : decode cX8_comes 38 = .ok (.getfield 44, 3) := by decide +kernel
theorem dX8_comes_41 : decode cX8_comes 41 = .ok (.iload_n 3, 1) := by decide +kernel
theorem dX8_comes_42 : decode cX8_comes 42 = .ok (.iaload, 1) := by decide +kernel
theorem dX8_comes_43 : decode cX8_comes 43 = .ok (.invokevirtual 193, 3) := by decide +kernel
theorem dX8_comes_46 : decode cX8_comes 46 = .ok (.ifCond .ne 6, 3) := by decide +kernel
theorem dX8_comes_49 : decode cX8_comes 49 = .ok (.goto 22, 3) := by decide +kernel
theorem dX8_comes_52 : decode cX8_comes 52 = .ok (.aload_n 0, 1) := by decide +kernel
theorem dX8_comes_53 : decode cX8_comes 53 = .ok (.iload_n 3, 1) := by decide +kernel
theorem dX8_comes_54 : decode cX8_comes 54 = .ok (.iconst 1, 1) := by decide +kernel
theorem dX8_comes_55 : decode cX8_comes 55 = .ok (.iadd, 1) := by decide +kernel
theorem dX8_comes_56 : decode cX8_comes 56 = .ok (.aload_n 0, 1) := by decide +kernel
theorem dX8_comes_57 : decode cX8_comes 57 = .ok (.getfield 177, 3) := by decide +kernel
theorem dX8_comes_60 : decode cX8_comes 60 = .ok (.irem, 1) := by decide +kernel
theorem dX8_comes_61 : decode cX8_comes 61 = .ok (.putfield 190, 3) := by decide +kernel
theorem dX8_comes_64 : decode cX8_comes 64 = .ok (.aload_n 0, 1) := by decide +kernel
theorem dX8_comes_65 : decode cX8_comes 65 = .ok (.getfield 44, 3) := by decide +kernel
theorem dX8_comes_68 : decode cX8_comes 68 = .ok (.iload_n 3, 1) := by decide +kernel
theorem dX8_comes_69 : decode cX8_comes 69 = .ok (.iaload, 1) := by decide +kernel
theorem dX8_comes_70 : decode cX8_comes 70 = .ok (.ireturn, 1) := by decide +kernel
theorem dX8_comes_71 : decode cX8_comes 71 = .ok (.iinc 2 1, 3) := by decide +kernel
theorem dX8_comes_74 : decode cX8_comes 74 = .ok (.goto (-58), 3) := by decide +kernel
theorem dX8_comes_77 : decode cX8_comes 77 = .ok (.iconst (-1), 1) := by decide +kernel
theorem dX8_comes_78 : decode cX8_comes 78 = .ok (.ireturn, 1) := by decide +kernel
theorem dX8_comes_79 : decode cX8_comes 79 = .ok (.iconst (-1), 1) := by decide +kernel
theorem dX8_comes_80 : decode cX8_comes 80 = .ok (.istore_n 2, 1) := by decide +kernel
theorem dX8_comes_81 : decode cX8_comes 81 = .ok (.iconst 0, 1) := by decide +kernel
theorem dX8_comes_82 : decode cX8_comes 82 = .ok (.istore_n 3, 1) := by decide +kernel
theorem dX8_comes_83 : decode cX8_comes 83 = .ok (.iload_n 3, 1) := by decide +kernel
theorem dX8_comes_84 : decode cX8_comes 84 = .ok (.aload_n 0, 1) := by decide +kernel
theorem dX8_comes_85 : decode cX8_comes 85 = .ok (.getfield 180, 3) := by decide +kernel
theorem dX8_comes_88 : decode cX8_comes 88 = .ok (.if_icmp .ge 58, 3) := by decide +kernel
theorem dX8_comes_91 : decode cX8_comes 91 = .ok (.aload_n 0, 1) := by decide +kernel
theorem dX8_comes_92 : decode cX8_comes 92 = .ok (.iload_n 3, 1) := by decide +kernel
theorem dX8_comes_93 : decode cX8_comes 93 = .ok (.invokevirtual 193, 3) := by decide +kernel
theorem dX8_comes_96 : decode cX8_comes 96 = .ok (.ifCond .eq 44, 3) := by decide +kernel
theorem dX8_comes_99 : decode cX8_comes 99 = .ok (.iload_n 1, 1) := by decide +kernel
theorem dX8_comes_100 : decode cX8_comes 100 = .ok (.iconst 1, 1) := by decide +kernel
theorem dX8_comes_101 : decode cX8_comes 101 = .ok (.if_icmp .ne 14, 3) := by decide +kernel
theorem dX8_comes_104 : decode cX8_comes 104 = .ok (.aload_n 0, 1) := by decide +kernel
theorem dX8_comes_105 : decode cX8_comes 105 = .ok (.iload_n 3, 1) := by decide +kernel
theorem dX8_comes_106 : decode cX8_comes 106 = .ok (.invokevirtual 186, 3) := by decide +kernel
theorem dX8_comes_109 : decode cX8_comes 109 = .ok (.ifCond .ne 6, 3) := by decide +kernel
theorem dX8_comes_112 : decode cX8_comes 112 = .ok (.goto 28, 3) := by decide +kernel
theorem dX8_comes_115 : decode cX8_comes 115 = .ok (.iload_n 2, 1) := by decide +kernel
theorem dX8_comes_116 : decode cX8_comes 116 = .ok (.ifCond .lt 22, 3) := by decide +kernel
theorem dX8_comes_119 : decode cX8_comes 119 = .ok (.aload_n 0, 1) := by decide +kernel
theorem dX8_comes_120 : decode cX8_comes 120 = .ok (.iload_n 3, 1) := by decide +kernel
theorem dX8_comes_121 : decode cX8_comes 121 = .ok (.iload_n 2, 1) := by decide +kernel
theorem dX8_comes_122 : decode cX8_comes 122 = .ok (.iload_n 1, 1) := by decide +kernel
theorem dX8_comes_123 : decode cX8_comes 123 = .ok (.iconst 1, 1) := by decide +kernel
theorem dX8_comes_124 : decode cX8_comes 124 = .ok (.if_icmp .ne 7, 3) := by decide +kernel
theorem dX8_comes_127 : decode cX8_comes 127 = .ok (.iconst 1, 1) := by decide +kernel
theorem dX8_comes_128 : decode cX8_comes 128 = .ok (.goto 4, 3) := by decide +kernel
theorem dX8_comes_131 : decode cX8_comes 131 = .ok (.iconst 0, 1) := by decide +kernel
theorem dX8_comes_132 : decode cX8_comes 132 = .ok (.invokevirtual 196, 3) := by decide +kernel
theorem dX8_comes_135 : decode cX8_comes 135 = .ok (.ifCond .eq 5, 3) := by decide +kernel
theorem dX8_comes_138 : decode cX8_comes 138 = .ok (.iload_n 3, 1) := by decide +kernel
theorem dX8_comes_139 : decode cX8_comes 139 = .ok (.istore_n 2, 1) := by decide +kernel
theorem dX8_comes_140 : decode cX8_comes 140 = .ok (.iinc 3 1, 3) := by decide +kernel
theorem dX8_comes_143 : decode cX8_comes 143 = .ok (.goto (-60), 3) := by decide +kernel
theorem dX8_comes_146 : decode cX8_comes 146 = .ok (.iload_n 2, 1) := by decide +kernel
theorem dX8_comes_147 : decode cX8_comes 147 = .ok (.ireturn, 1) := by decide +kernel
theorem dX8_fill_0 : decode cX8_fill 0 = .ok (.aload_n 0, 1) := by decide +kernel
theorem dX8_fill_1 : decode cX8_fill 1 = .ok (.iconst 0, 1) := by decide +kernel
theorem dX8_fill_2 : decode cX8_fill 2 = .ok (.putfield 112, 3) := by decide +kernel
theorem dX8_fill_5 : decode cX8_fill 5 = .ok (.aload_n 0, 1) := by decide +kernel
theorem dX8_fill_6 : decode cX8_fill 6 = .ok (.invokevirtual 200, 3) := by decide +kernel
theorem dX8_fill_9 : decode cX8_fill 9 = .ok (.aload_n 0, 1) := by decide +kernel
theorem dX8_fill_10 : decode cX8_fill 10 = .ok (.getfield 35, 3) := by decide +kernel
theorem dX8_fill_13 : decode cX8_fill 13 = .ok (.if_icmp .lt 5, 3) := by decide +kernel
theorem dX8_fill_16 : decode cX8_fill 16 = .ok (.iconst (-1), 1) := by decide +kernel
theorem dX8_fill_17 : decode cX8_fill 17 = .ok (.ireturn, 1) := by decide +kernel
theorem dX8_fill_18 : decode cX8_fill 18 = .ok (.aload_n 0, 1) := by decide +kernel
theorem dX8_fill_19 : decode cX8_fill 19 = .ok (.invokevirtual 204, 3) := by decide +kernel
theorem dX8_fill_22 : decode cX8_fill 22 = .ok (.istore_n 1, 1) := by decide +kernel
theorem dX8_fill_23 : decode cX8_fill 23 = .ok (.iload_n 1, 1) := by decide +kernel
theorem dX8_fill_24 : decode cX8_fill 24 = .ok (.ifCond .ge 5, 3) := by decide +kernel
theorem dX8_fill_27 : decode cX8_fill 27 = .ok (.iconst (-1), 1) := by decide +kernel
theorem dX8_fill_28 : decode cX8_fill 28 = .ok (.ireturn, 1) := by decide +kernel
theorem dX8_fill_29 : decode cX8_fill 29 = .ok (.aload_n 0, 1) := by decide +kernel
theorem dX8_fill_30 : decode cX8_fill 30 = .ok (.getfield 59, 3) := by decide +kernel
theorem dX8_fill_33 : decode cX8_fill 33 = .ok (.iload_n 1, 1) := by decide +kernel
theorem dX8_fill_34 : decode cX8_fill 34 = .ok (.iconst 1, 1) := by decide +kernel
theorem dX8_fill_35 : decode cX8_fill 35 = .ok (.iastore, 1) := by decide +kernel
theorem dX8_fill_36 : decode cX8_fill 36 = .ok (.aload_n 0, 1) := by decide +kernel
theorem dX8_fill_37 : decode cX8_fill 37 = .ok (.aload_n 0, 1) := by decide +kernel
theorem dX8_fill_38 : decode cX8_fill 38 = .ok (.getfield 174, 3) := by decide +kernel
theorem dX8_fill_41 : decode cX8_fill 41 = .ok (.iconst 1, 1) := by decide +kernel
theorem dX8_fill_42 : decode cX8_fill 42 = .ok (.iadd, 1) := by decide +kernel
theorem dX8_fill_43 : decode cX8_fill 43 = .ok (.aload_n 0, 1) := by decide +kernel
theorem dX8_fill_44 : decode cX8_fill 44 = .ok (.getfield 16, 3) := by decide +kernel
theorem dX8_fill_47 : decode cX8_fill 47 = .ok (.irem, 1) := by decide +kernel
theorem dX8_fill_48 : decode cX8_fill 48 = .ok (.putfield 174, 3) := by decide +kernel
theorem dX8_fill_51 : decode cX8_fill 51 = .ok (.iload_n 1, 1) := by decide +kernel
theorem dX8_fill_52 : decode cX8_fill 52 = .ok (.ireturn, 1) := by decide +kernel
theorem dX8_year_0 : decode cX8_year 0 = .ok (.aload_n 0, 1) := by decide +kernel
theorem dX8_year_1 : decode cX8_year 1 = .ok (.iconst 0, 1) := by decide +kernel
theorem dX8_year_2 : decode cX8_year 2 = .ok (.putfield 112, 3) := by decide +kernel
theorem dX8_year_5 : decode cX8_year 5 = .ok (.aload_n 0, 1) := by decide +kernel
theorem dX8_year_6 : decode cX8_year 6 = .ok (.dup, 1) := by decide +kernel
theorem dX8_year_7 : decode cX8_year 7 = .ok (.getfield 207, 3) := by decide +kernel
theorem dX8_year_10 : decode cX8_year 10 = .ok (.iconst 1, 1) := by decide +kernel
theorem dX8_year_11 : decode cX8_year 11 = .ok (.iadd, 1) := by decide +kernel
theorem dX8_year_12 : decode cX8_year 12 = .ok (.putfield 207, 3) := by decide +kernel
theorem dX8_year_15 : decode cX8_year 15 = .ok (.iconst 0, 1) := by decide +kernel
theorem dX8_year_16 : decode cX8_year 16 = .ok (.istore_n 1, 1) := by decide +kernel
theorem dX8_year_17 : decode cX8_year 17 = .ok (.iconst 0, 1) := by decide +kernel
theorem dX8_year_18 : decode cX8_year 18 = .ok (.istore_n 2, 1) := by decide +kernel
theorem dX8_year_19 : decode cX8_year 19 = .ok (.iload_n 2, 1) := by decide +kernel
theorem dX8_year_20 : decode cX8_year 20 = .ok (.aload_n 0, 1) := by decide +kernel
theorem dX8_year_21 : decode cX8_year 21 = .ok (.getfield 180, 3) := by decide +kernel
theorem dX8_year_24 : decode cX8_year 24 = .ok (.if_icmp .ge 150, 3) := by decide +kernel
theorem dX8_year_27 : decode cX8_year 27 = .ok (.aload_n 0, 1) := by decide +kernel
theorem dX8_year_28 : decode cX8_year 28 = .ok (.getfield 47, 3) := by decide +kernel
theorem dX8_year_31 : decode cX8_year 31 = .ok (.iload_n 2, 1) := by decide +kernel
theorem dX8_year_32 : decode cX8_year 32 = .ok (.aload_n 0, 1) := by decide +kernel
theorem dX8_year_33 : decode cX8_year 33 = .ok (.getfield 47, 3) := by decide +kernel
theorem dX8_year_36 : decode cX8_year 36 = .ok (.iload_n 2, 1) := by decide +kernel
theorem dX8_year_37 : decode cX8_year 37 = .ok (.iaload, 1) := by decide +kernel
theorem dX8_year_38 : decode cX8_year 38 = .ok (.bipush 99, 2) := by decide +kernel
theorem dX8_year_40 : decode cX8_year 40 = .ok (.if_icmp .ge 14, 3) := by decide +kernel
theorem dX8_year_43 : decode cX8_year 43 = .ok (.aload_n 0, 1) := by decide +kernel
theorem dX8_year_44 : decode cX8_year 44 = .ok (.getfield 47, 3) := by decide +kernel
theorem dX8_year_47 : decode cX8_year 47 = .ok (.iload_n 2, 1) := by decide +kernel
theorem dX8_year_48 : decode cX8_year 48 = .ok (.iaload, 1) := by decide +kernel
theorem dX8_year_49 : decode cX8_year 49 = .ok (.iconst 1, 1) := by decide +kernel
theorem dX8_year_50 : decode cX8_year 50 = .ok (.iadd, 1) := by decide +kernel
theorem dX8_year_51 : decode cX8_year 51 = .ok (.goto 5, 3) := by decide +kernel
theorem dX8_year_54 : decode cX8_year 54 = .ok (.bipush 99, 2) := by decide +kernel
theorem dX8_year_56 : decode cX8_year 56 = .ok (.iastore, 1) := by decide +kernel
theorem dX8_year_57 : decode cX8_year 57 = .ok (.aload_n 0, 1) := by decide +kernel
theorem dX8_year_58 : decode cX8_year 58 = .ok (.getfield 53, 3) := by decide +kernel
theorem dX8_year_61 : decode cX8_year 61 = .ok (.iload_n 2, 1) := by decide +kernel
theorem dX8_year_62 : decode cX8_year 62 = .ok (.aload_n 0, 1) := by decide +kernel
theorem dX8_year_63 : decode cX8_year 63 = .ok (.getfield 53, 3) := by decide +kernel
theorem dX8_year_66 : decode cX8_year 66 = .ok (.iload_n 2, 1) := by decide +kernel
theorem dX8_year_67 : decode cX8_year 67 = .ok (.iaload, 1) := by decide +kernel
theorem dX8_year_68 : decode cX8_year 68 = .ok (.aload_n 0, 1) := by decide +kernel
theorem dX8_year_69 : decode cX8_year 69 = .ok (.getfield 56, 3) := by decide +kernel
theorem dX8_year_72 : decode cX8_year 72 = .ok (.iload_n 2, 1) := by decide +kernel
theorem dX8_year_73 : decode cX8_year 73 = .ok (.iaload, 1) := by decide +kernel
theorem dX8_year_74 : decode cX8_year 74 = .ok (.iadd, 1) := by decide +kernel
theorem dX8_year_75 : decode cX8_year 75 = .ok (.bipush 99, 2) := by decide +kernel
theorem dX8_year_77 : decode cX8_year 77 = .ok (.if_icmp .le 8, 3) := by decide +kernel
theorem dX8_year_80 : decode cX8_year 80 = .ok (.bipush 99, 2) := by decide +kernel
theorem dX8_year_82 : decode cX8_year 82 = .ok (.goto 16, 3) := by decide +kernel
theorem dX8_year_85 : decode cX8_year 85 = .ok (.aload_n 0, 1) := by decide +kernel
theorem dX8_year_86 : decode cX8_year 86 = .ok (.getfield 53, 3) := by decide +kernel
theorem dX8_year_89 : decode cX8_year 89 = .ok (.iload_n 2, 1) := by decide +kernel
theorem dX8_year_90 : decode cX8_year 90 = .ok (.iaload, 1) := by decide +kernel
theorem dX8_year_91 : decode cX8_year 91 = .ok (.aload_n 0, 1) := by decide +kernel
theorem dX8_year_92 : decode cX8_year 92 = .ok (.getfield 56, 3) := by decide +kernel
theorem dX8_year_95 : decode cX8_year 95 = .ok (.iload_n 2, 1) := by decide +kernel
theorem dX8_year_96 : decode cX8_year 96 = .ok (.iaload, 1) := by decide +kernel
theorem dX8_year_97 : decode cX8_year 97 = .ok (.iadd, 1) := by decide +kernel
theorem dX8_year_98 : decode cX8_year 98 = .ok (.iastore, 1) := by decide +kernel
theorem dX8_year_99 : decode cX8_year 99 = .ok (.aload_n 0, 1) := by decide +kernel
theorem dX8_year_100 : decode cX8_year 100 = .ok (.getfield 59, 3) := by decide +kernel
theorem dX8_year_103 : decode cX8_year 103 = .ok (.iload_n 2, 1) := by decide +kernel
theorem dX8_year_104 : decode cX8_year 104 = .ok (.iaload, 1) := by decide +kernel
theorem dX8_year_105 : decode cX8_year 105 = .ok (.iconst 1, 1) := by decide +kernel
theorem dX8_year_106 : decode cX8_year 106 = .ok (.if_icmp .ne 62, 3) := by decide +kernel
theorem dX8_year_109 : decode cX8_year 109 = .ok (.aload_n 0, 1) := by decide +kernel
theorem dX8_year_110 : decode cX8_year 110 = .ok (.getfield 47, 3) := by decide +kernel
theorem dX8_year_113 : decode cX8_year 113 = .ok (.iload_n 2, 1) := by decide +kernel
theorem dX8_year_114 : decode cX8_year 114 = .ok (.iaload, 1) := by decide +kernel
theorem dX8_year_115 : decode cX8_year 115 = .ok (.aload_n 0, 1) := by decide +kernel
theorem dX8_year_116 : decode cX8_year 116 = .ok (.getfield 26, 3) := by decide +kernel
theorem dX8_year_119 : decode cX8_year 119 = .ok (.if_icmp .ge 6, 3) := by decide +kernel
theorem dX8_year_122 : decode cX8_year 122 = .ok (.goto 46, 3) := by decide +kernel
theorem dX8_year_125 : decode cX8_year 125 = .ok (.aload_n 0, 1) := by decide +kernel
theorem dX8_year_126 : decode cX8_year 126 = .ok (.getfield 59, 3) := by decide +kernel
theorem dX8_year_129 : decode cX8_year 129 = .ok (.iload_n 2, 1) := by decide +kernel
theorem dX8_year_130 : decode cX8_year 130 = .ok (.iconst 2, 1) := by decide +kernel
theorem dX8_year_131 : decode cX8_year 131 = .ok (.iastore, 1) := by decide +kernel
theorem dX8_year_132 : decode cX8_year 132 = .ok (.iinc 1 1, 3) := by decide +kernel
theorem dX8_year_135 : decode cX8_year 135 = .ok (.iconst 0, 1) := by decide +kernel
theorem dX8_year_136 : decode cX8_year 136 = .ok (.istore_n 3, 1) := by decide +kernel
theorem dX8_year_137 : decode cX8_year 137 = .ok (.iload_n 3, 1) := by decide +kernel
theorem dX8_year_138 : decode cX8_year 138 = .ok (.aload_n 0, 1) := by decide +kernel
theorem dX8_year_139 : decode cX8_year 139 = .ok (.getfield 210, 3) := by decide +kernel
theorem dX8_year_142 : decode cX8_year 142 = .ok (.if_icmp .ge 26, 3) := by decide +kernel
theorem dX8_year_145 : decode cX8_year 145 = .ok (.aload_n 0, 1) := by decide +kernel
theorem dX8_year_146 : decode cX8_year 146 = .ok (.getfield 72, 3) := by decide +kernel
theorem dX8_year_149 : decode cX8_year 149 = .ok (.iload_n 3, 1) := by decide +kernel
theorem dX8_year_150 : decode cX8_year 150 = .ok (.iaload, 1) := by decide +kernel
theorem dX8_year_151 : decode cX8_year 151 = .ok (.iload_n 2, 1) := by decide +kernel
theorem dX8_year_152 : decode cX8_year 152 = .ok (.if_icmp .ne 10, 3) := by decide +kernel
theorem dX8_year_155 : decode cX8_year 155 = .ok (.aload_n 0, 1) := by decide +kernel
theorem dX8_year_156 : decode cX8_year 156 = .ok (.getfield 72, 3) := by decide +kernel
theorem dX8_year_159 : decode cX8_year 159 = .ok (.iload_n 3, 1) := by decide +kernel
theorem dX8_year_160 : decode cX8_year 160 = .ok (.iconst (-1), 1) := by decide +kernel
theorem dX8_year_161 : decode cX8_year 161 = .ok (.iastore, 1) := by decide +kernel
theorem dX8_year_162 : decode cX8_year 162 = .ok (.iinc 3 1, 3) := by decide +kernel
theorem dX8_year_165 : decode cX8_year 165 = .ok (.goto (-28), 3) := by decide +kernel
theorem dX8_year_168 : decode cX8_year 168 = .ok (.iinc 2 1, 3) := by decide +kernel
theorem dX8_year_171 : decode cX8_year 171 = .ok (.goto (-152), 3) := by decide +kernel
theorem dX8_year_174 : decode cX8_year 174 = .ok (.iconst 0, 1) := by decide +kernel
theorem dX8_year_175 : decode cX8_year 175 = .ok (.istore_n 2, 1) := by decide +kernel
theorem dX8_year_176 : decode cX8_year 176 = .ok (.iload_n 2, 1) := by decide +kernel
theorem dX8_year_177 : decode cX8_year 177 = .ok (.aload_n 0, 1) := by decide +kernel
theorem dX8_year_178 : decode cX8_year 178 = .ok (.getfield 210, 3) := by decide +kernel
theorem dX8_year_181 : decode cX8_year 181 = .ok (.if_icmp .ge 61, 3) := by decide +kernel
theorem dX8_year_184 : decode cX8_year 184 = .ok (.aload_n 0, 1) := by decide +kernel
theorem dX8_year_185 : decode cX8_year 185 = .ok (.getfield 68, 3) := by decide +kernel
theorem dX8_year_188 : decode cX8_year 188 = .ok (.iload_n 2, 1) := by decide +kernel
theorem dX8_year_189 : decode cX8_year 189 = .ok (.baload, 1) := by decide +kernel
theorem dX8_year_190 : decode cX8_year 190 = .ok (.ifCond .eq 6, 3) := by decide +kernel
theorem dX8_year_193 : decode cX8_year 193 = .ok (.goto 43, 3) := by decide +kernel
theorem dX8_year_196 : decode cX8_year 196 = .ok (.aload_n 0, 1) := by decide +kernel
theorem dX8_year_197 : decode cX8_year 197 = .ok (.getfield 65, 3) := by decide +kernel
theorem dX8_year_200 : decode cX8_year 200 = .ok (.iload_n 2, 1) := by decide +kernel
theorem dX8_year_201 : decode cX8_year 201 = .ok (.dup2, 1) := by decide +kernel
theorem dX8_year_202 : decode cX8_year 202 = .ok (.iaload, 1) := by decide +kernel
theorem dX8_year_203 : decode cX8_year 203 = .ok (.iconst 1, 1) := by decide +kernel
theorem dX8_year_204 : decode cX8_year 204 = .ok (.iadd, 1) := by decide +kernel
theorem dX8_year_205 : decode cX8_year 205 = .ok (.iastore, 1) := by decide +kernel
theorem dX8_year_206 : decode cX8_year 206 = .ok (.aload_n 0, 1) := by decide +kernel
theorem dX8_year_207 : decode cX8_year 207 = .ok (.getfield 65, 3) := by decide +kernel
theorem dX8_year_210 : decode cX8_year 210 = .ok (.iload_n 2, 1) := by decide +kernel
theorem dX8_year_211 : decode cX8_year 211 = .ok (.iaload, 1) := by decide +kernel
theorem dX8_year_212 : decode cX8_year 212 = .ok (.aload_n 0, 1) := by decide +kernel
theorem dX8_year_213 : decode cX8_year 213 = .ok (.getfield 29, 3) := by decide +kernel
theorem dX8_year_216 : decode cX8_year 216 = .ok (.if_icmp .ge 6, 3) := by decide +kernel
theorem dX8_year_219 : decode cX8_year 219 = .ok (.goto 17, 3) := by decide +kernel
theorem dX8_year_222 : decode cX8_year 222 = .ok (.aload_n 0, 1) := by decide +kernel
theorem dX8_year_223 : decode cX8_year 223 = .ok (.getfield 68, 3) := by decide +kernel
theorem dX8_year_226 : decode cX8_year 226 = .ok (.iload_n 2, 1) := by decide +kernel
theorem dX8_year_227 : decode cX8_year 227 = .ok (.iconst 1, 1) := by decide +kernel
theorem dX8_year_228 : decode cX8_year 228 = .ok (.bastore, 1) := by decide +kernel
theorem dX8_year_229 : decode cX8_year 229 = .ok (.aload_n 0, 1) := by decide +kernel
theorem dX8_year_230 : decode cX8_year 230 = .ok (.getfield 72, 3) := by decide +kernel
theorem dX8_year_233 : decode cX8_year 233 = .ok (.iload_n 2, 1) := by decide +kernel
theorem dX8_year_234 : decode cX8_year 234 = .ok (.iconst (-1), 1) := by decide +kernel
theorem dX8_year_235 : decode cX8_year 235 = .ok (.iastore, 1) := by decide +kernel
theorem dX8_year_236 : decode cX8_year 236 = .ok (.iinc 2 1, 3) := by decide +kernel
theorem dX8_year_239 : decode cX8_year 239 = .ok (.goto (-63), 3) := by decide +kernel
theorem dX8_year_242 : decode cX8_year 242 = .ok (.iload_n 1, 1) := by decide +kernel
theorem dX8_year_243 : decode cX8_year 243 = .ok (.ireturn, 1) := by decide +kernel
theorem dX8_suits_0 : decode cX8_suits 0 = .ok (.aload_n 0, 1) := by decide +kernel
theorem dX8_suits_1 : decode cX8_suits 1 = .ok (.getfield 62, 3) := by decide +kernel
theorem dX8_suits_4 : decode cX8_suits 4 = .ok (.iload_n 1, 1) := by decide +kernel
theorem dX8_suits_5 : decode cX8_suits 5 = .ok (.iaload, 1) := by decide +kernel
theorem dX8_suits_6 : decode cX8_suits 6 = .ok (.aload_n 0, 1) := by decide +kernel
theorem dX8_suits_7 : decode cX8_suits 7 = .ok (.getfield 53, 3) := by decide +kernel
theorem dX8_suits_10 : decode cX8_suits 10 = .ok (.iload_n 2, 1) := by decide +kernel
theorem dX8_suits_11 : decode cX8_suits 11 = .ok (.iaload, 1) := by decide +kernel
theorem dX8_suits_12 : decode cX8_suits 12 = .ok (.if_icmp .lt 27, 3) := by decide +kernel
theorem dX8_suits_15 : decode cX8_suits 15 = .ok (.aload_n 0, 1) := by decide +kernel
theorem dX8_suits_16 : decode cX8_suits 16 = .ok (.getfield 62, 3) := by decide +kernel
theorem dX8_suits_19 : decode cX8_suits 19 = .ok (.iload_n 1, 1) := by decide +kernel
theorem dX8_suits_20 : decode cX8_suits 20 = .ok (.iaload, 1) := by decide +kernel
theorem dX8_suits_21 : decode cX8_suits 21 = .ok (.aload_n 0, 1) := by decide +kernel
theorem dX8_suits_22 : decode cX8_suits 22 = .ok (.getfield 53, 3) := by decide +kernel
theorem dX8_suits_25 : decode cX8_suits 25 = .ok (.iload_n 2, 1) := by decide +kernel
theorem dX8_suits_26 : decode cX8_suits 26 = .ok (.iaload, 1) := by decide +kernel
theorem dX8_suits_27 : decode cX8_suits 27 = .ok (.aload_n 0, 1) := by decide +kernel
theorem dX8_suits_28 : decode cX8_suits 28 = .ok (.getfield 32, 3) := by decide +kernel
theorem dX8_suits_31 : decode cX8_suits 31 = .ok (.iadd, 1) := by decide +kernel
theorem dX8_suits_32 : decode cX8_suits 32 = .ok (.if_icmp .gt 7, 3) := by decide +kernel
theorem dX8_suits_35 : decode cX8_suits 35 = .ok (.iconst 1, 1) := by decide +kernel
theorem dX8_suits_36 : decode cX8_suits 36 = .ok (.goto 4, 3) := by decide +kernel
theorem dX8_suits_39 : decode cX8_suits 39 = .ok (.iconst 0, 1) := by decide +kernel
theorem dX8_suits_40 : decode cX8_suits 40 = .ok (.ireturn, 1) := by decide +kernel
theorem dX8_sets_0 : decode cX8_sets 0 = .ok (.iconst 0, 1) := by decide +kernel
theorem dX8_sets_1 : decode cX8_sets 1 = .ok (.istore_n 2, 1) := by decide +kernel
theorem dX8_sets_2 : decode cX8_sets 2 = .ok (.iload_n 2, 1) := by decide +kernel
theorem dX8_sets_3 : decode cX8_sets 3 = .ok (.iconst 1, 1) := by decide +kernel
theorem dX8_sets_4 : decode cX8_sets 4 = .ok (.aload_n 0, 1) := by decide +kernel
theorem dX8_sets_5 : decode cX8_sets 5 = .ok (.getfield 213, 3) := by decide +kernel
theorem dX8_sets_8 : decode cX8_sets 8 = .ok (.ishl, 1) := by decide +kernel
theorem dX8_sets_9 : decode cX8_sets 9 = .ok (.if_icmp .ge 24, 3) := by decide +kernel
theorem dX8_sets_12 : decode cX8_sets 12 = .ok (.aload_n 0, 1) := by decide +kernel
theorem dX8_sets_13 : decode cX8_sets 13 = .ok (.getfield 97, 3) := by decide +kernel
theorem dX8_sets_16 : decode cX8_sets 16 = .ok (.iload_n 2, 1) := by decide +kernel
theorem dX8_sets_17 : decode cX8_sets 17 = .ok (.iload_n 2, 1) := by decide +kernel
theorem dX8_sets_18 : decode cX8_sets 18 = .ok (.ifCond .ne 7, 3) := by decide +kernel
theorem dX8_sets_21 : decode cX8_sets 21 = .ok (.iconst 1, 1) := by decide +kernel
theorem dX8_sets_22 : decode cX8_sets 22 = .ok (.goto 4, 3) := by decide +kernel
theorem dX8_sets_25 : decode cX8_sets 25 = .ok (.iconst 0, 1) := by decide +kernel
theorem dX8_sets_26 : decode cX8_sets 26 = .ok (.bastore, 1) := by decide +kernel
theorem dX8_sets_27 : decode cX8_sets 27 = .ok (.iinc 2 1, 3) := by decide +kernel
theorem dX8_sets_30 : decode cX8_sets 30 = .ok (.goto (-28), 3) := by decide +kernel
theorem dX8_sets_33 : decode cX8_sets 33 = .ok (.iconst 0, 1) := by decide +kernel
theorem dX8_sets_34 : decode cX8_sets 34 = .ok (.istore_n 2, 1) := by decide +kernel
theorem dX8_sets_35 : decode cX8_sets 35 = .ok (.iload_n 2, 1) := by decide +kernel
theorem dX8_sets_36 : decode cX8_sets 36 = .ok (.aload_n 0, 1) := by decide +kernel
theorem dX8_sets_37 : decode cX8_sets 37 = .ok (.getfield 210, 3) := by decide +kernel
theorem dX8_sets_40 : decode cX8_sets 40 = .ok (.if_icmp .ge 151, 3) := by decide +kernel
theorem dX8_sets_43 : decode cX8_sets 43 = .ok (.aload_n 0, 1) := by decide +kernel
theorem dX8_sets_44 : decode cX8_sets 44 = .ok (.getfield 68, 3) := by decide +kernel
theorem dX8_sets_47 : decode cX8_sets 47 = .ok (.iload_n 2, 1) := by decide +kernel
theorem dX8_sets_48 : decode cX8_sets 48 = .ok (.baload, 1) := by decide +kernel
theorem dX8_sets_49 : decode cX8_sets 49 = .ok (.ifCond .ne 136, 3) := by decide +kernel
theorem dX8_sets_52 : decode cX8_sets 52 = .ok (.aload_n 0, 1) := by decide +kernel
theorem dX8_sets_53 : decode cX8_sets 53 = .ok (.getfield 100, 3) := by decide +kernel
theorem dX8_sets_56 : decode cX8_sets 56 = .ok (.iload_n 2, 1) := by decide +kernel
theorem dX8_sets_57 : decode cX8_sets 57 = .ok (.baload, 1) := by decide +kernel
theorem dX8_sets_58 : decode cX8_sets 58 = .ok (.ifCond .eq 6, 3) := by decide +kernel
theorem dX8_sets_61 : decode cX8_sets 61 = .ok (.goto 124, 3) := by decide +kernel
theorem dX8_sets_64 : decode cX8_sets 64 = .ok (.iconst 1, 1) := by decide +kernel
theorem dX8_sets_65 : decode cX8_sets 65 = .ok (.aload_n 0, 1) := by decide +kernel
theorem dX8_sets_66 : decode cX8_sets 66 = .ok (.getfield 213, 3) := by decide +kernel
theorem dX8_sets_69 : decode cX8_sets 69 = .ok (.ishl, 1) := by decide +kernel
theorem dX8_sets_70 : decode cX8_sets 70 = .ok (.iconst 1, 1) := by decide +kernel
theorem dX8_sets_71 : decode cX8_sets 71 = .ok (.isub, 1) := by decide +kernel
theorem dX8_sets_72 : decode cX8_sets 72 = .ok (.istore_n 3, 1) := by decide +kernel
theorem dX8_sets_73 : decode cX8_sets 73 = .ok (.iload_n 3, 1) := by decide +kernel
theorem dX8_sets_74 : decode cX8_sets 74 = .ok (.ifCond .le 111, 3) := by decide +kernel
theorem dX8_sets_77 : decode cX8_sets 77 = .ok (.aload_n 0, 1) := by decide +kernel
theorem dX8_sets_78 : decode cX8_sets 78 = .ok (.getfield 97, 3) := by decide +kernel
theorem dX8_sets_81 : decode cX8_sets 81 = .ok (.iload_n 3, 1) := by decide +kernel
theorem dX8_sets_82 : decode cX8_sets 82 = .ok (.baload, 1) := by decide +kernel
theorem dX8_sets_83 : decode cX8_sets 83 = .ok (.ifCond .ne 96, 3) := by decide +kernel
theorem dX8_sets_86 : decode cX8_sets 86 = .ok (.iload_n 3, 1) := by decide +kernel
theorem dX8_sets_87 : decode cX8_sets 87 = .ok (.iload_n 1, 1) := by decide +kernel
theorem dX8_sets_88 : decode cX8_sets 88 = .ok (.iconst (-1), 1) := by decide +kernel
theorem dX8_sets_89 : decode cX8_sets 89 = .ok (.ixor, 1) := by decide +kernel
theorem dX8_sets_90 : decode cX8_sets 90 = .ok (.iand, 1) := by decide +kernel
theorem dX8_sets_91 : decode cX8_sets 91 = .ok (.ifCond .eq 6, 3) := by decide +kernel
theorem dX8_sets_94 : decode cX8_sets 94 = .ok (.goto 85, 3) := by decide +kernel
theorem dX8_sets_97 : decode cX8_sets 97 = .ok (.iconst 0, 1) := by decide +kernel
theorem dX8_sets_98 : decode cX8_sets 98 = .ok (.istore 4, 2) := by decide +kernel
theorem dX8_sets_100 : decode cX8_sets 100 = .ok (.iconst 0, 1) := by decide +kernel
theorem dX8_sets_101 : decode cX8_sets 101 = .ok (.istore 5, 2) := by decide +kernel
theorem dX8_sets_103 : decode cX8_sets 103 = .ok (.iload 5, 2) := by decide +kernel
theorem dX8_sets_105 : decode cX8_sets 105 = .ok (.aload_n 0, 1) := by decide +kernel
theorem dX8_sets_106 : decode cX8_sets 106 = .ok (.getfield 213, 3) := by decide +kernel
theorem dX8_sets_109 : decode cX8_sets 109 = .ok (.if_icmp .ge 62, 3) := by decide +kernel
theorem dX8_sets_112 : decode cX8_sets 112 = .ok (.iload 4, 2) := by decide +kernel
theorem dX8_sets_114 : decode cX8_sets 114 = .ok (.ifCond .ne 57, 3) := by decide +kernel
theorem dX8_sets_117 : decode cX8_sets 117 = .ok (.iload_n 3, 1) := by decide +kernel
theorem dX8_sets_118 : decode cX8_sets 118 = .ok (.iload 5, 2) := by decide +kernel
theorem dX8_sets_120 : decode cX8_sets 120 = .ok (.ishr, 1) := by decide +kernel
theorem dX8_sets_121 : decode cX8_sets 121 = .ok (.iconst 1, 1) := by decide +kernel
theorem dX8_sets_122 : decode cX8_sets 122 = .ok (.iand, 1) := by decide +kernel
theorem dX8_sets_123 : decode cX8_sets 123 = .ok (.iconst 1, 1) := by decide +kernel
theorem dX8_sets_124 : decode cX8_sets 124 = .ok (.if_icmp .ne 38, 3) := by decide +kernel
theorem dX8_sets_127 : decode cX8_sets 127 = .ok (.aload_n 0, 1) := by decide +kernel
theorem dX8_sets_128 : decode cX8_sets 128 = .ok (.getfield 97, 3) := by decide +kernel
theorem dX8_sets_131 : decode cX8_sets 131 = .ok (.iload_n 3, 1) := by decide +kernel
theorem dX8_sets_132 : decode cX8_sets 132 = .ok (.iconst 1, 1) := by decide +kernel
theorem dX8_sets_133 : decode cX8_sets 133 = .ok (.iload 5, 2) := by decide +kernel
theorem dX8_sets_135 : decode cX8_sets 135 = .ok (.ishl, 1) := by decide +kernel
theorem dX8_sets_136 : decode cX8_sets 136 = .ok (.iconst (-1), 1) := by decide +kernel
theorem dX8_sets_137 : decode cX8_sets 137 = .ok (.ixor, 1) := by decide +kernel
theorem dX8_sets_138 : decode cX8_sets 138 = .ok (.iand, 1) := by decide +kernel
theorem dX8_sets_139 : decode cX8_sets 139 = .ok (.baload, 1) := by decide +kernel
theorem dX8_sets_140 : decode cX8_sets 140 = .ok (.ifCond .eq 22, 3) := by decide +kernel
theorem dX8_sets_143 : decode cX8_sets 143 = .ok (.aload_n 0, 1) := by decide +kernel
theorem dX8_sets_144 : decode cX8_sets 144 = .ok (.iload_n 2, 1) := by decide +kernel
theorem dX8_sets_145 : decode cX8_sets 145 = .ok (.aload_n 0, 1) := by decide +kernel
theorem dX8_sets_146 : decode cX8_sets 146 = .ok (.getfield 93, 3) := by decide +kernel
theorem dX8_sets_149 : decode cX8_sets 149 = .ok (.iload 5, 2) := by decide +kernel
theorem dX8_sets_151 : decode cX8_sets 151 = .ok (.iaload, 1) := by decide +kernel
theorem dX8_sets_152 : decode cX8_sets 152 = .ok (.invokevirtual 216, 3) := by decide +kernel
theorem dX8_sets_155 : decode cX8_sets 155 = .ok (.ifCond .eq 7, 3) := by decide +kernel
theorem dX8_sets_158 : decode cX8_sets 158 = .ok (.iconst 1, 1) := by decide +kernel
theorem dX8_sets_159 : decode cX8_sets 159 = .ok (.goto 4, 3) := by decide +kernel
theorem dX8_sets_162 : decode cX8_sets 162 = .ok (.iconst 0, 1) := by decide +kernel
theorem dX8_sets_163 : decode cX8_sets 163 = .ok (.istore 4, 2) := by decide +kernel
theorem dX8_sets_165 : decode cX8_sets 165 = .ok (.iinc 5 1, 3) := by decide +kernel
theorem dX8_sets_168 : decode cX8_sets 168 = .ok (.goto (-65), 3) := by decide +kernel
theorem dX8_sets_171 : decode cX8_sets 171 = .ok (.aload_n 0, 1) := by decide +kernel
theorem dX8_sets_172 : decode cX8_sets 172 = .ok (.getfield 97, 3) := by decide +kernel
theorem dX8_sets_175 : decode cX8_sets 175 = .ok (.iload_n 3, 1) := by decide +kernel
theorem dX8_sets_176 : decode cX8_sets 176 = .ok (.iload 4, 2) := by decide +kernel
theorem dX8_sets_178 : decode cX8_sets 178 = .ok (.bastore, 1) := by decide +kernel
theorem dX8_sets_179 : decode cX8_sets 179 = .ok (.iinc 3 (-1), 3) := by decide +kernel
theorem dX8_sets_182 : decode cX8_sets 182 = .ok (.goto (-109), 3) := by decide +kernel
theorem dX8_sets_185 : decode cX8_sets 185 = .ok (.iinc 2 1, 3) := by decide +kernel
theorem dX8_sets_188 : decode cX8_sets 188 = .ok (.goto (-153), 3) := by decide +kernel
theorem dX8_sets_191 : decode cX8_sets 191 = .ok (.return_, 1) := by decide +kernel
theorem dX8_isFirst_0 : decode cX8_isFirst 0 = .ok (.iconst 0, 1) := by decide +kernel
theorem dX8_isFirst_1 : decode cX8_isFirst 1 = .ok (.istore_n 3, 1) := by decide +kernel
theorem dX8_isFirst_2 : decode cX8_isFirst 2 = .ok (.iload_n 3, 1) := by decide +kernel
theorem dX8_isFirst_3 : decode cX8_isFirst 3 = .ok (.aload_n 0, 1) := by decide +kernel
theorem dX8_isFirst_4 : decode cX8_isFirst 4 = .ok (.getfield 213, 3) := by decide +kernel
theorem dX8_isFirst_7 : decode cX8_isFirst 7 = .ok (.if_icmp .ge 42, 3) := by decide +kernel
theorem dX8_isFirst_10 : decode cX8_isFirst 10 = .ok (.iload_n 1, 1) := by decide +kernel
theorem dX8_isFirst_11 : decode cX8_isFirst 11 = .ok (.iload_n 3, 1) := by decide +kernel
theorem dX8_isFirst_12 : decode cX8_isFirst 12 = .ok (.ishr, 1) := by decide +kernel
theorem dX8_isFirst_13 : decode cX8_isFirst 13 = .ok (.iconst 1, 1) := by decide +kernel
theorem dX8_isFirst_14 : decode cX8_isFirst 14 = .ok (.iand, 1) := by decide +kernel
theorem dX8_isFirst_15 : decode cX8_isFirst 15 = .ok (.istore 4, 2) := by decide +kernel
theorem dX8_isFirst_17 : decode cX8_isFirst 17 = .ok (.iload_n 2, 1) := by decide +kernel
theorem dX8_isFirst_18 : decode cX8_isFirst 18 = .ok (.iload_n 3, 1) := by decide +kernel
theorem dX8_isFirst_19 : decode cX8_isFirst 19 = .ok (.ishr, 1) := by decide +kernel
theorem dX8_isFirst_20 : decode cX8_isFirst 20 = .ok (.iconst 1, 1) := by decide +kernel
theorem dX8_isFirst_21 : decode cX8_isFirst 21 = .ok (.iand, 1) := by decide +kernel
theorem dX8_isFirst_22 : decode cX8_isFirst 22 = .ok (.istore 5, 2) := by decide +kernel
theorem dX8_isFirst_24 : decode cX8_isFirst 24 = .ok (.iload 4, 2) := by decide +kernel
theorem dX8_isFirst_26 : decode cX8_isFirst 26 = .ok (.iload 5, 2) := by decide +kernel
theorem dX8_isFirst_28 : decode cX8_isFirst 28 = .ok (.if_icmp .eq 15, 3) := by decide +kernel
theorem dX8_isFirst_31 : decode cX8_isFirst 31 = .ok (.iload 4, 2) := by decide +kernel
theorem dX8_isFirst_33 : decode cX8_isFirst 33 = .ok (.iconst 1, 1) := by decide +kernel
theorem dX8_isFirst_34 : decode cX8_isFirst 34 = .ok (.if_icmp .ne 7, 3) := by decide +kernel
theorem dX8_isFirst_37 : decode cX8_isFirst 37 = .ok (.iconst 1, 1) := by decide +kernel
theorem dX8_isFirst_38 : decode cX8_isFirst 38 = .ok (.goto 4, 3) := by decide +kernel
theorem dX8_isFirst_41 : decode cX8_isFirst 41 = .ok (.iconst 0, 1) := by decide +kernel
theorem dX8_isFirst_42 : decode cX8_isFirst 42 = .ok (.ireturn, 1) := by decide +kernel
theorem dX8_isFirst_43 : decode cX8_isFirst 43 = .ok (.iinc 3 1, 3) := by decide +kernel
theorem dX8_isFirst_46 : decode cX8_isFirst 46 = .ok (.goto (-44), 3) := by decide +kernel
theorem dX8_isFirst_49 : decode cX8_isFirst 49 = .ok (.iconst 0, 1) := by decide +kernel
theorem dX8_isFirst_50 : decode cX8_isFirst 50 = .ok (.ireturn, 1) := by decide +kernel
theorem dX8_clothOf_0 : decode cX8_clothOf 0 = .ok (.iconst 0, 1) := by decide +kernel
theorem dX8_clothOf_1 : decode cX8_clothOf 1 = .ok (.istore_n 2, 1) := by decide +kernel
theorem dX8_clothOf_2 : decode cX8_clothOf 2 = .ok (.iconst 0, 1) := by decide +kernel
theorem dX8_clothOf_3 : decode cX8_clothOf 3 = .ok (.istore_n 3, 1) := by decide +kernel
theorem dX8_clothOf_4 : decode cX8_clothOf 4 = .ok (.iload_n 3, 1) := by decide +kernel
theorem dX8_clothOf_5 : decode cX8_clothOf 5 = .ok (.aload_n 0, 1) := by decide +kernel
theorem dX8_clothOf_6 : decode cX8_clothOf 6 = .ok (.getfield 213, 3) := by decide +kernel
theorem dX8_clothOf_9 : decode cX8_clothOf 9 = .ok (.if_icmp .ge 36, 3) := by decide +kernel
theorem dX8_clothOf_12 : decode cX8_clothOf 12 = .ok (.iload_n 2, 1) := by decide +kernel
theorem dX8_clothOf_13 : decode cX8_clothOf 13 = .ok (.iload_n 1, 1) := by decide +kernel
theorem dX8_clothOf_14 : decode cX8_clothOf 14 = .ok (.iload_n 3, 1) := by decide +kernel
theorem dX8_clothOf_15 : decode cX8_clothOf 15 = .ok (.ishr, 1) := by decide +kernel
theorem dX8_clothOf_16 : decode cX8_clothOf 16 = .ok (.iconst 1, 1) := by decide +kernel
theorem dX8_clothOf_17 : decode cX8_clothOf 17 = .ok (.iand, 1) := by decide +kernel
theorem dX8_clothOf_18 : decode cX8_clothOf 18 = .ok (.iconst 1, 1) := by decide +kernel
theorem dX8_clothOf_19 : decode cX8_clothOf 19 = .ok (.if_icmp .ne 17, 3) := by decide +kernel
theorem dX8_clothOf_22 : decode cX8_clothOf 22 = .ok (.aload_n 0, 1) := by decide +kernel
theorem dX8_clothOf_23 : decode cX8_clothOf 23 = .ok (.getfield 53, 3) := by decide +kernel
theorem dX8_clothOf_26 : decode cX8_clothOf 26 = .ok (.aload_n 0, 1) := by decide +kernel
theorem dX8_clothOf_27 : decode cX8_clothOf 27 = .ok (.getfield 93, 3) := by decide +kernel
theorem dX8_clothOf_30 : decode cX8_clothOf 30 = .ok (.iload_n 3, 1) := by decide +kernel
theorem dX8_clothOf_31 : decode cX8_clothOf 31 = .ok (.iaload, 1) := by decide +kernel
theorem dX8_clothOf_32 : decode cX8_clothOf 32 = .ok (.iaload, 1) := by decide +kernel
theorem dX8_clothOf_33 : decode cX8_clothOf 33 = .ok (.goto 4, 3) := by decide +kernel
theorem dX8_clothOf_36 : decode cX8_clothOf 36 = .ok (.iconst 0, 1) := by decide +kernel
theorem dX8_clothOf_37 : decode cX8_clothOf 37 = .ok (.iadd, 1) := by decide +kernel
theorem dX8_clothOf_38 : decode cX8_clothOf 38 = .ok (.istore_n 2, 1) := by decide +kernel
theorem dX8_clothOf_39 : decode cX8_clothOf 39 = .ok (.iinc 3 1, 3) := by decide +kernel
theorem dX8_clothOf_42 : decode cX8_clothOf 42 = .ok (.goto (-38), 3) := by decide +kernel
theorem dX8_clothOf_45 : decode cX8_clothOf 45 = .ok (.iload_n 2, 1) := by decide +kernel
theorem dX8_clothOf_46 : decode cX8_clothOf 46 = .ok (.ireturn, 1) := by decide +kernel
theorem dX8_feast_0 : decode cX8_feast 0 = .ok (.aload_n 0, 1) := by decide +kernel
theorem dX8_feast_1 : decode cX8_feast 1 = .ok (.iconst 0, 1) := by decide +kernel
theorem dX8_feast_2 : decode cX8_feast 2 = .ok (.putfield 112, 3) := by decide +kernel
theorem dX8_feast_5 : decode cX8_feast 5 = .ok (.aload_n 0, 1) := by decide +kernel
theorem dX8_feast_6 : decode cX8_feast 6 = .ok (.iconst 0, 1) := by decide +kernel
theorem dX8_feast_7 : decode cX8_feast 7 = .ok (.putfield 213, 3) := by decide +kernel
theorem dX8_feast_10 : decode cX8_feast 10 = .ok (.iconst 0, 1) := by decide +kernel
theorem dX8_feast_11 : decode cX8_feast 11 = .ok (.istore_n 1, 1) := by decide +kernel
theorem dX8_feast_12 : decode cX8_feast 12 = .ok (.iload_n 1, 1) := by decide +kernel
theorem dX8_feast_13 : decode cX8_feast 13 = .ok (.aload_n 0, 1) := by decide +kernel
theorem dX8_feast_14 : decode cX8_feast 14 = .ok (.getfield 180, 3) := by decide +kernel
theorem dX8_feast_17 : decode cX8_feast 17 = .ok (.if_icmp .ge 42, 3) := by decide +kernel
theorem dX8_feast_20 : decode cX8_feast 20 = .ok (.aload_n 0, 1) := by decide +kernel
theorem dX8_feast_21 : decode cX8_feast 21 = .ok (.getfield 59, 3) := by decide +kernel
theorem dX8_feast_24 : decode cX8_feast 24 = .ok (.iload_n 1, 1) := by decide +kernel
theorem dX8_feast_25 : decode cX8_feast 25 = .ok (.iaload, 1) := by decide +kernel
theorem dX8_feast_26 : decode cX8_feast 26 = .ok (.iconst 1, 1) := by decide +kernel
theorem dX8_feast_27 : decode cX8_feast 27 = .ok (.if_icmp .eq 6, 3) := by decide +kernel
theorem dX8_feast_30 : decode cX8_feast 30 = .ok (.goto 23, 3) := by decide +kernel
theorem dX8_feast_33 : decode cX8_feast 33 = .ok (.aload_n 0, 1) := by decide +kernel
theorem dX8_feast_34 : decode cX8_feast 34 = .ok (.getfield 93, 3) := by decide +kernel
theorem dX8_feast_37 : decode cX8_feast 37 = .ok (.aload_n 0, 1) := by decide +kernel
theorem dX8_feast_38 : decode cX8_feast 38 = .ok (.getfield 213, 3) := by decide +kernel
theorem dX8_feast_41 : decode cX8_feast 41 = .ok (.iload_n 1, 1) := by decide +kernel
theorem dX8_feast_42 : decode cX8_feast 42 = .ok (.iastore, 1) := by decide +kernel
theorem dX8_feast_43 : decode cX8_feast 43 = .ok (.aload_n 0, 1) := by decide +kernel
theorem dX8_feast_44 : decode cX8_feast 44 = .ok (.dup, 1) := by decide +kernel
theorem dX8_feast_45 : decode cX8_feast 45 = .ok (.getfield 213, 3) := by decide +kernel
theorem dX8_feast_48 : decode cX8_feast 48 = .ok (.iconst 1, 1) := by decide +kernel
theorem dX8_feast_49 : decode cX8_feast 49 = .ok (.iadd, 1) := by decide +kernel
theorem dX8_feast_50 : decode cX8_feast 50 = .ok (.putfield 213, 3) := by decide +kernel
theorem dX8_feast_53 : decode cX8_feast 53 = .ok (.iinc 1 1, 3) := by decide +kernel
theorem dX8_feast_56 : decode cX8_feast 56 = .ok (.goto (-44), 3) := by decide +kernel
theorem dX8_feast_59 : decode cX8_feast 59 = .ok (.iconst 0, 1) := by decide +kernel
theorem dX8_feast_60 : decode cX8_feast 60 = .ok (.istore_n 1, 1) := by decide +kernel
theorem dX8_feast_61 : decode cX8_feast 61 = .ok (.iload_n 1, 1) := by decide +kernel
theorem dX8_feast_62 : decode cX8_feast 62 = .ok (.bipush 40, 2) := by decide +kernel
theorem dX8_feast_64 : decode cX8_feast 64 = .ok (.if_icmp .ge 16, 3) := by decide +kernel
theorem dX8_feast_67 : decode cX8_feast 67 = .ok (.aload_n 0, 1) := by decide +kernel
theorem dX8_feast_68 : decode cX8_feast 68 = .ok (.getfield 100, 3) := by decide +kernel
theorem dX8_feast_71 : decode cX8_feast 71 = .ok (.iload_n 1, 1) := by decide +kernel
theorem dX8_feast_72 : decode cX8_feast 72 = .ok (.iconst 0, 1) := by decide +kernel
theorem dX8_feast_73 : decode cX8_feast 73 = .ok (.bastore, 1) := by decide +kernel
theorem dX8_feast_74 : decode cX8_feast 74 = .ok (.iinc 1 1, 3) := by decide +kernel
theorem dX8_feast_77 : decode cX8_feast 77 = .ok (.goto (-16), 3) := by decide +kernel
theorem dX8_feast_80 : decode cX8_feast 80 = .ok (.iconst 1, 1) := by decide +kernel
theorem dX8_feast_81 : decode cX8_feast 81 = .ok (.aload_n 0, 1) := by decide +kernel
theorem dX8_feast_82 : decode cX8_feast 82 = .ok (.getfield 213, 3) := by decide +kernel
theorem dX8_feast_85 : decode cX8_feast 85 = .ok (.ishl, 1) := by decide +kernel
theorem dX8_feast_86 : decode cX8_feast 86 = .ok (.iconst 1, 1) := by decide +kernel
theorem dX8_feast_87 : decode cX8_feast 87 = .ok (.isub, 1) := by decide +kernel
theorem dX8_feast_88 : decode cX8_feast 88 = .ok (.istore_n 1, 1) := by decide +kernel
theorem dX8_feast_89 : decode cX8_feast 89 = .ok (.aload_n 0, 1) := by decide +kernel
theorem dX8_feast_90 : decode cX8_feast 90 = .ok (.iload_n 1, 1) := by decide +kernel
theorem dX8_feast_91 : decode cX8_feast 91 = .ok (.invokevirtual 219, 3) := by decide +kernel
theorem dX8_feast_94 : decode cX8_feast 94 = .ok (.iconst 0, 1) := by decide +kernel
theorem dX8_feast_95 : decode cX8_feast 95 = .ok (.istore_n 2, 1) := by decide +kernel
theorem dX8_feast_96 : decode cX8_feast 96 = .ok (.iconst 1, 1) := by decide +kernel
theorem dX8_feast_97 : decode cX8_feast 97 = .ok (.istore_n 3, 1) := by decide +kernel
theorem dX8_feast_98 : decode cX8_feast 98 = .ok (.iload_n 3, 1) := by decide +kernel
theorem dX8_feast_99 : decode cX8_feast 99 = .ok (.iload_n 1, 1) := by decide +kernel
theorem dX8_feast_100 : decode cX8_feast 100 = .ok (.if_icmp .gt 55, 3) := by decide +kernel
theorem dX8_feast_103 : decode cX8_feast 103 = .ok (.aload_n 0, 1) := by decide +kernel
theorem dX8_feast_104 : decode cX8_feast 104 = .ok (.getfield 97, 3) := by decide +kernel
theorem dX8_feast_107 : decode cX8_feast 107 = .ok (.iload_n 3, 1) := by decide +kernel
theorem dX8_feast_108 : decode cX8_feast 108 = .ok (.baload, 1) := by decide +kernel
theorem dX8_feast_109 : decode cX8_feast 109 = .ok (.ifCond .eq 40, 3) := by decide +kernel
theorem dX8_feast_112 : decode cX8_feast 112 = .ok (.aload_n 0, 1) := by decide +kernel
theorem dX8_feast_113 : decode cX8_feast 113 = .ok (.iload_n 3, 1) := by decide +kernel
theorem dX8_feast_114 : decode cX8_feast 114 = .ok (.invokevirtual 223, 3) := by decide +kernel
theorem dX8_feast_117 : decode cX8_feast 117 = .ok (.aload_n 0, 1) := by decide +kernel
theorem dX8_feast_118 : decode cX8_feast 118 = .ok (.iload_n 2, 1) := by decide +kernel
theorem dX8_feast_119 : decode cX8_feast 119 = .ok (.invokevirtual 223, 3) := by decide +kernel
theorem dX8_feast_122 : decode cX8_feast 122 = .ok (.if_icmp .gt 25, 3) := by decide +kernel
theorem dX8_feast_125 : decode cX8_feast 125 = .ok (.aload_n 0, 1) := by decide +kernel
theorem dX8_feast_126 : decode cX8_feast 126 = .ok (.iload_n 3, 1) := by decide +kernel
theorem dX8_feast_127 : decode cX8_feast 127 = .ok (.invokevirtual 223, 3) := by decide +kernel
theorem dX8_feast_130 : decode cX8_feast 130 = .ok (.aload_n 0, 1) := by decide +kernel
theorem dX8_feast_131 : decode cX8_feast 131 = .ok (.iload_n 2, 1) := by decide +kernel
theorem dX8_feast_132 : decode cX8_feast 132 = .ok (.invokevirtual 223, 3) := by decide +kernel
theorem dX8_feast_135 : decode cX8_feast 135 = .ok (.if_icmp .ne 14, 3) := by decide +kernel
theorem dX8_feast_138 : decode cX8_feast 138 = .ok (.aload_n 0, 1) := by decide +kernel
theorem dX8_feast_139 : decode cX8_feast 139 = .ok (.iload_n 3, 1) := by decide +kernel
theorem dX8_feast_140 : decode cX8_feast 140 = .ok (.iload_n 2, 1) := by decide +kernel
theorem dX8_feast_141 : decode cX8_feast 141 = .ok (.invokevirtual 226, 3) := by decide +kernel
theorem dX8_feast_144 : decode cX8_feast 144 = .ok (.ifCond .eq 5, 3) := by decide +kernel
theorem dX8_feast_147 : decode cX8_feast 147 = .ok (.iload_n 3, 1) := by decide +kernel
theorem dX8_feast_148 : decode cX8_feast 148 = .ok (.istore_n 2, 1) := by decide +kernel
theorem dX8_feast_149 : decode cX8_feast 149 = .ok (.iinc 3 1, 3) := by decide +kernel
theorem dX8_feast_152 : decode cX8_feast 152 = .ok (.goto (-54), 3) := by decide +kernel
theorem dX8_feast_155 : decode cX8_feast 155 = .ok (.iconst 0, 1) := by decide +kernel
theorem dX8_feast_156 : decode cX8_feast 156 = .ok (.istore_n 3, 1) := by decide +kernel
theorem dX8_feast_157 : decode cX8_feast 157 = .ok (.iconst 0, 1) := by decide +kernel
theorem dX8_feast_158 : decode cX8_feast 158 = .ok (.istore 4, 2) := by decide +kernel
theorem dX8_feast_160 : decode cX8_feast 160 = .ok (.iload 4, 2) := by decide +kernel
theorem dX8_feast_162 : decode cX8_feast 162 = .ok (.aload_n 0, 1) := by decide +kernel
theorem dX8_feast_163 : decode cX8_feast 163 = .ok (.getfield 213, 3) := by decide +kernel
theorem dX8_feast_166 : decode cX8_feast 166 = .ok (.if_icmp .ge 26, 3) := by decide +kernel
theorem dX8_feast_169 : decode cX8_feast 169 = .ok (.iload_n 3, 1) := by decide +kernel
theorem dX8_feast_170 : decode cX8_feast 170 = .ok (.iload_n 2, 1) := by decide +kernel
theorem dX8_feast_171 : decode cX8_feast 171 = .ok (.iload 4, 2) := by decide +kernel
theorem dX8_feast_173 : decode cX8_feast 173 = .ok (.ishr, 1) := by decide +kernel
theorem dX8_feast_174 : decode cX8_feast 174 = .ok (.iconst 1, 1) := by decide +kernel
theorem dX8_feast_175 : decode cX8_feast 175 = .ok (.iand, 1) := by decide +kernel
theorem dX8_feast_176 : decode cX8_feast 176 = .ok (.ifCond .ne 7, 3) := by decide +kernel
theorem dX8_feast_179 : decode cX8_feast 179 = .ok (.iconst 1, 1) := by decide +kernel
theorem dX8_feast_180 : decode cX8_feast 180 = .ok (.goto 4, 3) := by decide +kernel
theorem dX8_feast_183 : decode cX8_feast 183 = .ok (.iconst 0, 1) := by decide +kernel
theorem dX8_feast_184 : decode cX8_feast 184 = .ok (.iadd, 1) := by decide +kernel
theorem dX8_feast_185 : decode cX8_feast 185 = .ok (.istore_n 3, 1) := by decide +kernel
theorem dX8_feast_186 : decode cX8_feast 186 = .ok (.iinc 4 1, 3) := by decide +kernel
theorem dX8_feast_189 : decode cX8_feast 189 = .ok (.goto (-29), 3) := by decide +kernel
theorem dX8_feast_192 : decode cX8_feast 192 = .ok (.aload_n 0, 1) := by decide +kernel
theorem dX8_feast_193 : decode cX8_feast 193 = .ok (.getfield 210, 3) := by decide +kernel
theorem dX8_feast_196 : decode cX8_feast 196 = .ok (.iload_n 3, 1) := by decide +kernel
theorem dX8_feast_197 : decode cX8_feast 197 = .ok (.iadd, 1) := by decide +kernel
theorem dX8_feast_198 : decode cX8_feast 198 = .ok (.bipush 40, 2) := by decide +kernel
theorem dX8_feast_200 : decode cX8_feast 200 = .ok (.if_icmp .le 5, 3) := by decide +kernel
theorem dX8_feast_203 : decode cX8_feast 203 = .ok (.iconst (-1), 1) := by decide +kernel
theorem dX8_feast_204 : decode cX8_feast 204 = .ok (.ireturn, 1) := by decide +kernel
theorem dX8_feast_205 : decode cX8_feast 205 = .ok (.iload_n 2, 1) := by decide +kernel
theorem dX8_feast_206 : decode cX8_feast 206 = .ok (.istore 4, 2) := by decide +kernel
theorem dX8_feast_208 : decode cX8_feast 208 = .ok (.iconst 0, 1) := by decide +kernel
theorem dX8_feast_209 : decode cX8_feast 209 = .ok (.istore 5, 2) := by decide +kernel
theorem dX8_feast_211 : decode cX8_feast 211 = .ok (.iload 5, 2) := by decide +kernel
theorem dX8_feast_213 : decode cX8_feast 213 = .ok (.aload_n 0, 1) := by decide +kernel
theorem dX8_feast_214 : decode cX8_feast 214 = .ok (.getfield 213, 3) := by decide +kernel
theorem dX8_feast_217 : decode cX8_feast 217 = .ok (.if_icmp .ge 152, 3) := by decide +kernel
theorem dX8_feast_220 : decode cX8_feast 220 = .ok (.aload_n 0, 1) := by decide +kernel
theorem dX8_feast_221 : decode cX8_feast 221 = .ok (.getfield 103, 3) := by decide +kernel
theorem dX8_feast_224 : decode cX8_feast 224 = .ok (.iload 5, 2) := by decide +kernel
theorem dX8_feast_226 : decode cX8_feast 226 = .ok (.iconst (-1), 1) := by decide +kernel
theorem dX8_feast_227 : decode cX8_feast 227 = .ok (.iastore, 1) := by decide +kernel
theorem dX8_feast_228 : decode cX8_feast 228 = .ok (.iload_n 2, 1) := by decide +kernel
theorem dX8_feast_229 : decode cX8_feast 229 = .ok (.iload 5, 2) := by decide +kernel
theorem dX8_feast_231 : decode cX8_feast 231 = .ok (.ishr, 1) := by decide +kernel
theorem dX8_feast_232 : decode cX8_feast 232 = .ok (.iconst 1, 1) := by decide +kernel
theorem dX8_feast_233 : decode cX8_feast 233 = .ok (.iand, 1) := by decide +kernel
theorem dX8_feast_234 : decode cX8_feast 234 = .ok (.ifCond .ne 6, 3) := by decide +kernel
theorem dX8_feast_237 : decode cX8_feast 237 = .ok (.goto 126, 3) := by decide +kernel
theorem dX8_feast_240 : decode cX8_feast 240 = .ok (.iload 4, 2) := by decide +kernel
theorem dX8_feast_242 : decode cX8_feast 242 = .ok (.iconst 1, 1) := by decide +kernel
theorem dX8_feast_243 : decode cX8_feast 243 = .ok (.iload 5, 2) := by decide +kernel
theorem dX8_feast_245 : decode cX8_feast 245 = .ok (.ishl, 1) := by decide +kernel
theorem dX8_feast_246 : decode cX8_feast 246 = .ok (.iconst (-1), 1) := by decide +kernel
theorem dX8_feast_247 : decode cX8_feast 247 = .ok (.ixor, 1) := by decide +kernel
theorem dX8_feast_248 : decode cX8_feast 248 = .ok (.iand, 1) := by decide +kernel
theorem dX8_feast_249 : decode cX8_feast 249 = .ok (.istore 4, 2) := by decide +kernel
theorem dX8_feast_251 : decode cX8_feast 251 = .ok (.iconst 0, 1) := by decide +kernel
theorem dX8_feast_252 : decode cX8_feast 252 = .ok (.istore 6, 2) := by decide +kernel
theorem dX8_feast_254 : decode cX8_feast 254 = .ok (.iload 6, 2) := by decide +kernel
theorem dX8_feast_256 : decode cX8_feast 256 = .ok (.aload_n 0, 1) := by decide +kernel
theorem dX8_feast_257 : decode cX8_feast 257 = .ok (.getfield 210, 3) := by decide +kernel
theorem dX8_feast_260 : decode cX8_feast 260 = .ok (.if_icmp .ge 103, 3) := by decide +kernel
theorem dX8_feast_263 : decode cX8_feast 263 = .ok (.aload_n 0, 1) := by decide +kernel
theorem dX8_feast_264 : decode cX8_feast 264 = .ok (.getfield 103, 3) := by decide +kernel
theorem dX8_feast_267 : decode cX8_feast 267 = .ok (.iload 5, 2) := by decide +kernel
theorem dX8_feast_269 : decode cX8_feast 269 = .ok (.iaload, 1) := by decide +kernel
theorem dX8_feast_270 : decode cX8_feast 270 = .ok (.iconst (-1), 1) := by decide +kernel
theorem dX8_feast_271 : decode cX8_feast 271 = .ok (.if_icmp .ne 92, 3) := by decide +kernel
theorem dX8_feast_274 : decode cX8_feast 274 = .ok (.aload_n 0, 1) := by decide +kernel
theorem dX8_feast_275 : decode cX8_feast 275 = .ok (.getfield 68, 3) := by decide +kernel
theorem dX8_feast_278 : decode cX8_feast 278 = .ok (.iload 6, 2) := by decide +kernel
theorem dX8_feast_280 : decode cX8_feast 280 = .ok (.baload, 1) := by decide +kernel
theorem dX8_feast_281 : decode cX8_feast 281 = .ok (.ifCond .ne 76, 3) := by decide +kernel
theorem dX8_feast_284 : decode cX8_feast 284 = .ok (.aload_n 0, 1) := by decide +kernel
theorem dX8_feast_285 : decode cX8_feast 285 = .ok (.getfield 100, 3) := by decide +kernel
theorem dX8_feast_288 : decode cX8_feast 288 = .ok (.iload 6, 2) := by decide +kernel
theorem dX8_feast_290 : decode cX8_feast 290 = .ok (.baload, 1) := by decide +kernel
theorem dX8_feast_291 : decode cX8_feast 291 = .ok (.ifCond .ne 66, 3) := by decide +kernel
theorem dX8_feast_294 : decode cX8_feast 294 = .ok (.aload_n 0, 1) := by decide +kernel
theorem dX8_feast_295 : decode cX8_feast 295 = .ok (.iload 6, 2) := by decide +kernel
theorem dX8_feast_297 : decode cX8_feast 297 = .ok (.aload_n 0, 1) := by decide +kernel
theorem dX8_feast_298 : decode cX8_feast 298 = .ok (.getfield 93, 3) := by decide +kernel
theorem dX8_feast_301 : decode cX8_feast 301 = .ok (.iload 5, 2) := by decide +kernel
theorem dX8_feast_303 : decode cX8_feast 303 = .ok (.iaload, 1) := by decide +kernel
theorem dX8_feast_304 : decode cX8_feast 304 = .ok (.invokevirtual 216, 3) := by decide +kernel
theorem dX8_feast_307 : decode cX8_feast 307 = .ok (.ifCond .ne 6, 3) := by decide +kernel
theorem dX8_feast_310 : decode cX8_feast 310 = .ok (.goto 47, 3) := by decide +kernel
theorem dX8_feast_313 : decode cX8_feast 313 = .ok (.aload_n 0, 1) := by decide +kernel
theorem dX8_feast_314 : decode cX8_feast 314 = .ok (.getfield 100, 3) := by decide +kernel
theorem dX8_feast_317 : decode cX8_feast 317 = .ok (.iload 6, 2) := by decide +kernel
theorem dX8_feast_319 : decode cX8_feast 319 = .ok (.iconst 1, 1) := by decide +kernel
theorem dX8_feast_320 : decode cX8_feast 320 = .ok (.bastore, 1) := by decide +kernel
theorem dX8_feast_321 : decode cX8_feast 321 = .ok (.aload_n 0, 1) := by decide +kernel
theorem dX8_feast_322 : decode cX8_feast 322 = .ok (.iload 4, 2) := by decide +kernel
theorem dX8_feast_324 : decode cX8_feast 324 = .ok (.invokevirtual 219, 3) := by decide +kernel
theorem dX8_feast_327 : decode cX8_feast 327 = .ok (.aload_n 0, 1) := by decide +kernel
theorem dX8_feast_328 : decode cX8_feast 328 = .ok (.getfield 97, 3) := by decide +kernel
theorem dX8_feast_331 : decode cX8_feast 331 = .ok (.iload 4, 2) := by decide +kernel
theorem dX8_feast_333 : decode cX8_feast 333 = .ok (.baload, 1) := by decide +kernel
theorem dX8_feast_334 : decode cX8_feast 334 = .ok (.ifCond .eq 15, 3) := by decide +kernel
theorem dX8_feast_337 : decode cX8_feast 337 = .ok (.aload_n 0, 1) := by decide +kernel
theorem dX8_feast_338 : decode cX8_feast 338 = .ok (.getfield 103, 3) := by decide +kernel
theorem dX8_feast_341 : decode cX8_feast 341 = .ok (.iload 5, 2) := by decide +kernel
theorem dX8_feast_343 : decode cX8_feast 343 = .ok (.iload 6, 2) := by decide +kernel
theorem dX8_feast_345 : decode cX8_feast 345 = .ok (.iastore, 1) := by decide +kernel
theorem dX8_feast_346 : decode cX8_feast 346 = .ok (.goto 11, 3) := by decide +kernel
theorem dX8_feast_349 : decode cX8_feast 349 = .ok (.aload_n 0, 1) := by decide +kernel
theorem dX8_feast_350 : decode cX8_feast 350 = .ok (.getfield 100, 3) := by decide +kernel
theorem dX8_feast_353 : decode cX8_feast 353 = .ok (.iload 6, 2) := by decide +kernel
theorem dX8_feast_355 : decode cX8_feast 355 = .ok (.iconst 0, 1) := by decide +kernel
theorem dX8_feast_356 : decode cX8_feast 356 = .ok (.bastore, 1) := by decide +kernel
theorem dX8_feast_357 : decode cX8_feast 357 = .ok (.iinc 6 1, 3) := by decide +kernel
theorem dX8_feast_360 : decode cX8_feast 360 = .ok (.goto (-106), 3) := by decide +kernel
theorem dX8_feast_363 : decode cX8_feast 363 = .ok (.iinc 5 1, 3) := by decide +kernel
theorem dX8_feast_366 : decode cX8_feast 366 = .ok (.goto (-155), 3) := by decide +kernel
theorem dX8_feast_369 : decode cX8_feast 369 = .ok (.iconst 0, 1) := by decide +kernel
theorem dX8_feast_370 : decode cX8_feast 370 = .ok (.istore 5, 2) := by decide +kernel
theorem dX8_feast_372 : decode cX8_feast 372 = .ok (.iload 5, 2) := by decide +kernel
theorem dX8_feast_374 : decode cX8_feast 374 = .ok (.aload_n 0, 1) := by decide +kernel
theorem dX8_feast_375 : decode cX8_feast 375 = .ok (.getfield 210, 3) := by decide +kernel
theorem dX8_feast_378 : decode cX8_feast 378 = .ok (.if_icmp .ge 17, 3) := by decide +kernel
theorem dX8_feast_381 : decode cX8_feast 381 = .ok (.aload_n 0, 1) := by decide +kernel
theorem dX8_feast_382 : decode cX8_feast 382 = .ok (.getfield 72, 3) := by decide +kernel
theorem dX8_feast_385 : decode cX8_feast 385 = .ok (.iload 5, 2) := by decide +kernel
theorem dX8_feast_387 : decode cX8_feast 387 = .ok (.iconst (-1), 1) := by decide +kernel
theorem dX8_feast_388 : decode cX8_feast 388 = .ok (.iastore, 1) := by decide +kernel
theorem dX8_feast_389 : decode cX8_feast 389 = .ok (.iinc 5 1, 3) := by decide +kernel
theorem dX8_feast_392 : decode cX8_feast 392 = .ok (.goto (-20), 3) := by decide +kernel
theorem dX8_feast_395 : decode cX8_feast 395 = .ok (.iconst 0, 1) := by decide +kernel
theorem dX8_feast_396 : decode cX8_feast 396 = .ok (.istore 5, 2) := by decide +kernel
theorem dX8_feast_398 : decode cX8_feast 398 = .ok (.iconst 0, 1) := by decide +kernel
theorem dX8_feast_399 : decode cX8_feast 399 = .ok (.istore 6, 2) := by decide +kernel
theorem dX8_feast_401 : decode cX8_feast 401 = .ok (.iload 6, 2) := by decide +kernel
theorem dX8_feast_403 : decode cX8_feast 403 = .ok (.aload_n 0, 1) := by decide +kernel
theorem dX8_feast_404 : decode cX8_feast 404 = .ok (.getfield 213, 3) := by decide +kernel
theorem dX8_feast_407 : decode cX8_feast 407 = .ok (.if_icmp .ge 118, 3) := by decide +kernel
theorem dX8_feast_410 : decode cX8_feast 410 = .ok (.aload_n 0, 1) := by decide +kernel
theorem dX8_feast_411 : decode cX8_feast 411 = .ok (.getfield 103, 3) := by decide +kernel
theorem dX8_feast_414 : decode cX8_feast 414 = .ok (.iload 6, 2) := by decide +kernel
theorem dX8_feast_416 : decode cX8_feast 416 = .ok (.iaload, 1) := by decide +kernel
theorem dX8_feast_417 : decode cX8_feast 417 = .ok (.iconst (-1), 1) := by decide +kernel
theorem dX8_feast_418 : decode cX8_feast 418 = .ok (.if_icmp .ne 82, 3) := by decide +kernel
theorem dX8_feast_421 : decode cX8_feast 421 = .ok (.aload_n 0, 1) := by decide +kernel
theorem dX8_feast_422 : decode cX8_feast 422 = .ok (.getfield 62, 3) := by decide +kernel
theorem dX8_feast_425 : decode cX8_feast 425 = .ok (.aload_n 0, 1) := by decide +kernel
theorem dX8_feast_426 : decode cX8_feast 426 = .ok (.getfield 210, 3) := by decide +kernel
theorem dX8_feast_429 : decode cX8_feast 429 = .ok (.aload_n 0, 1) := by decide +kernel
theorem dX8_feast_430 : decode cX8_feast 430 = .ok (.getfield 53, 3) := by decide +kernel
theorem dX8_feast_433 : decode cX8_feast 433 = .ok (.aload_n 0, 1) := by decide +kernel
theorem dX8_feast_434 : decode cX8_feast 434 = .ok (.getfield 93, 3) := by decide +kernel
theorem dX8_feast_437 : decode cX8_feast 437 = .ok (.iload 6, 2) := by decide +kernel
theorem dX8_feast_439 : decode cX8_feast 439 = .ok (.iaload, 1) := by decide +kernel
theorem dX8_feast_440 : decode cX8_feast 440 = .ok (.iaload, 1) := by decide +kernel
theorem dX8_feast_441 : decode cX8_feast 441 = .ok (.iastore, 1) := by decide +kernel
theorem dX8_feast_442 : decode cX8_feast 442 = .ok (.aload_n 0, 1) := by decide +kernel
theorem dX8_feast_443 : decode cX8_feast 443 = .ok (.getfield 65, 3) := by decide +kernel
theorem dX8_feast_446 : decode cX8_feast 446 = .ok (.aload_n 0, 1) := by decide +kernel
theorem dX8_feast_447 : decode cX8_feast 447 = .ok (.getfield 210, 3) := by decide +kernel
theorem dX8_feast_450 : decode cX8_feast 450 = .ok (.iconst 0, 1) := by decide +kernel
theorem dX8_feast_451 : decode cX8_feast 451 = .ok (.iastore, 1) := by decide +kernel
theorem dX8_feast_452 : decode cX8_feast 452 = .ok (.aload_n 0, 1) := by decide +kernel
theorem dX8_feast_453 : decode cX8_feast 453 = .ok (.getfield 68, 3) := by decide +kernel
theorem dX8_feast_456 : decode cX8_feast 456 = .ok (.aload_n 0, 1) := by decide +kernel
theorem dX8_feast_457 : decode cX8_feast 457 = .ok (.getfield 210, 3) := by decide +kernel
theorem dX8_feast_460 : decode cX8_feast 460 = .ok (.iconst 0, 1) := by decide +kernel
theorem dX8_feast_461 : decode cX8_feast 461 = .ok (.bastore, 1) := by decide +kernel
theorem dX8_feast_462 : decode cX8_feast 462 = .ok (.aload_n 0, 1) := by decide +kernel
theorem dX8_feast_463 : decode cX8_feast 463 = .ok (.getfield 103, 3) := by decide +kernel
theorem dX8_feast_466 : decode cX8_feast 466 = .ok (.iload 6, 2) := by decide +kernel
theorem dX8_feast_468 : decode cX8_feast 468 = .ok (.aload_n 0, 1) := by decide +kernel
theorem dX8_feast_469 : decode cX8_feast 469 = .ok (.getfield 210, 3) := by decide +kernel
theorem dX8_feast_472 : decode cX8_feast 472 = .ok (.iastore, 1) := by decide +kernel
theorem dX8_feast_473 : decode cX8_feast 473 = .ok (.iload 5, 2) := by decide +kernel
theorem dX8_feast_475 : decode cX8_feast 475 = .ok (.aload_n 0, 1) := by decide +kernel
theorem dX8_feast_476 : decode cX8_feast 476 = .ok (.getfield 53, 3) := by decide +kernel
theorem dX8_feast_479 : decode cX8_feast 479 = .ok (.aload_n 0, 1) := by decide +kernel
theorem dX8_feast_480 : decode cX8_feast 480 = .ok (.getfield 93, 3) := by decide +kernel
theorem dX8_feast_483 : decode cX8_feast 483 = .ok (.iload 6, 2) := by decide +kernel
theorem dX8_feast_485 : decode cX8_feast 485 = .ok (.iaload, 1) := by decide +kernel
theorem dX8_feast_486 : decode cX8_feast 486 = .ok (.iaload, 1) := by decide +kernel
theorem dX8_feast_487 : decode cX8_feast 487 = .ok (.iadd, 1) := by decide +kernel
theorem dX8_feast_488 : decode cX8_feast 488 = .ok (.istore 5, 2) := by decide +kernel
theorem dX8_feast_490 : decode cX8_feast 490 = .ok (.aload_n 0, 1) := by decide +kernel
theorem dX8_feast_491 : decode cX8_feast 491 = .ok (.dup, 1) := by decide +kernel
theorem dX8_feast_492 : decode cX8_feast 492 = .ok (.getfield 210, 3) := by decide +kernel
theorem dX8_feast_495 : decode cX8_feast 495 = .ok (.iconst 1, 1) := by decide +kernel
theorem dX8_feast_496 : decode cX8_feast 496 = .ok (.iadd, 1) := by decide +kernel
theorem dX8_feast_497 : decode cX8_feast 497 = .ok (.putfield 210, 3) := by decide +kernel
theorem dX8_feast_500 : decode cX8_feast 500 = .ok (.aload_n 0, 1) := by decide +kernel
theorem dX8_feast_501 : decode cX8_feast 501 = .ok (.getfield 72, 3) := by decide +kernel
theorem dX8_feast_504 : decode cX8_feast 504 = .ok (.aload_n 0, 1) := by decide +kernel
theorem dX8_feast_505 : decode cX8_feast 505 = .ok (.getfield 103, 3) := by decide +kernel
theorem dX8_feast_508 : decode cX8_feast 508 = .ok (.iload 6, 2) := by decide +kernel
theorem dX8_feast_510 : decode cX8_feast 510 = .ok (.iaload, 1) := by decide +kernel
theorem dX8_feast_511 : decode cX8_feast 511 = .ok (.aload_n 0, 1) := by decide +kernel
theorem dX8_feast_512 : decode cX8_feast 512 = .ok (.getfield 93, 3) := by decide +kernel
theorem dX8_feast_515 : decode cX8_feast 515 = .ok (.iload 6, 2) := by decide +kernel
theorem dX8_feast_517 : decode cX8_feast 517 = .ok (.iaload, 1) := by decide +kernel
theorem dX8_feast_518 : decode cX8_feast 518 = .ok (.iastore, 1) := by decide +kernel
theorem dX8_feast_519 : decode cX8_feast 519 = .ok (.iinc 6 1, 3) := by decide +kernel
theorem dX8_feast_522 : decode cX8_feast 522 = .ok (.goto (-121), 3) := by decide +kernel
theorem dX8_feast_525 : decode cX8_feast 525 = .ok (.iload 5, 2) := by decide +kernel
theorem dX8_feast_527 : decode cX8_feast 527 = .ok (.ireturn, 1) := by decide +kernel
theorem dX8_legacy_0 : decode cX8_legacy 0 = .ok (.aload_n 0, 1) := by decide +kernel
theorem dX8_legacy_1 : decode cX8_legacy 1 = .ok (.iconst 0, 1) := by decide +kernel
theorem dX8_legacy_2 : decode cX8_legacy 2 = .ok (.putfield 112, 3) := by decide +kernel
theorem dX8_legacy_5 : decode cX8_legacy 5 = .ok (.aload_n 0, 1) := by decide +kernel
theorem dX8_legacy_6 : decode cX8_legacy 6 = .ok (.getfield 229, 3) := by decide +kernel
theorem dX8_legacy_9 : decode cX8_legacy 9 = .ok (.bipush 8, 2) := by decide +kernel
theorem dX8_legacy_11 : decode cX8_legacy 11 = .ok (.if_icmp .eq 24, 3) := by decide +kernel
theorem dX8_legacy_14 : decode cX8_legacy 14 = .ok (.iload_n 1, 1) := by decide +kernel
theorem dX8_legacy_15 : decode cX8_legacy 15 = .ok (.ifCond .lt 20, 3) := by decide +kernel
theorem dX8_legacy_18 : decode cX8_legacy 18 = .ok (.iload_n 1, 1) := by decide +kernel
theorem dX8_legacy_19 : decode cX8_legacy 19 = .ok (.sipush 9999, 3) := by decide +kernel
theorem dX8_legacy_22 : decode cX8_legacy 22 = .ok (.if_icmp .gt 13, 3) := by decide +kernel
theorem dX8_legacy_25 : decode cX8_legacy 25 = .ok (.iload_n 2, 1) := by decide +kernel
theorem dX8_legacy_26 : decode cX8_legacy 26 = .ok (.ifCond .lt 9, 3) := by decide +kernel
theorem dX8_legacy_29 : decode cX8_legacy 29 = .ok (.iload_n 2, 1) := by decide +kernel
theorem dX8_legacy_30 : decode cX8_legacy 30 = .ok (.bipush 63, 2) := by decide +kernel
theorem dX8_legacy_32 : decode cX8_legacy 32 = .ok (.if_icmp .le 5, 3) := by decide +kernel
theorem dX8_legacy_35 : decode cX8_legacy 35 = .ok (.iconst (-1), 1) := by decide +kernel
theorem dX8_legacy_36 : decode cX8_legacy 36 = .ok (.ireturn, 1) := by decide +kernel
theorem dX8_legacy_37 : decode cX8_legacy 37 = .ok (.aload_n 0, 1) := by decide +kernel
theorem dX8_legacy_38 : decode cX8_legacy 38 = .ok (.getfield 75, 3) := by decide +kernel
theorem dX8_legacy_41 : decode cX8_legacy 41 = .ok (.aload_n 0, 1) := by decide +kernel
theorem dX8_legacy_42 : decode cX8_legacy 42 = .ok (.getfield 229, 3) := by decide +kernel
theorem dX8_legacy_45 : decode cX8_legacy 45 = .ok (.iload_n 1, 1) := by decide +kernel
theorem dX8_legacy_46 : decode cX8_legacy 46 = .ok (.iastore, 1) := by decide +kernel
theorem dX8_legacy_47 : decode cX8_legacy 47 = .ok (.aload_n 0, 1) := by decide +kernel
theorem dX8_legacy_48 : decode cX8_legacy 48 = .ok (.getfield 78, 3) := by decide +kernel
theorem dX8_legacy_51 : decode cX8_legacy 51 = .ok (.aload_n 0, 1) := by decide +kernel
theorem dX8_legacy_52 : decode cX8_legacy 52 = .ok (.getfield 229, 3) := by decide +kernel
theorem dX8_legacy_55 : decode cX8_legacy 55 = .ok (.iload_n 2, 1) := by decide +kernel
theorem dX8_legacy_56 : decode cX8_legacy 56 = .ok (.iastore, 1) := by decide +kernel
theorem dX8_legacy_57 : decode cX8_legacy 57 = .ok (.aload_n 0, 1) := by decide +kernel
theorem dX8_legacy_58 : decode cX8_legacy 58 = .ok (.dup, 1) := by decide +kernel
theorem dX8_legacy_59 : decode cX8_legacy 59 = .ok (.getfield 229, 3) := by decide +kernel
theorem dX8_legacy_62 : decode cX8_legacy 62 = .ok (.iconst 1, 1) := by decide +kernel
theorem dX8_legacy_63 : decode cX8_legacy 63 = .ok (.iadd, 1) := by decide +kernel
theorem dX8_legacy_64 : decode cX8_legacy 64 = .ok (.putfield 229, 3) := by decide +kernel
theorem dX8_legacy_67 : decode cX8_legacy 67 = .ok (.aload_n 0, 1) := by decide +kernel
theorem dX8_legacy_68 : decode cX8_legacy 68 = .ok (.getfield 229, 3) := by decide +kernel
theorem dX8_legacy_71 : decode cX8_legacy 71 = .ok (.iconst 1, 1) := by decide +kernel
theorem dX8_legacy_72 : decode cX8_legacy 72 = .ok (.isub, 1) := by decide +kernel
theorem dX8_legacy_73 : decode cX8_legacy 73 = .ok (.ireturn, 1) := by decide +kernel
theorem dX8_need_0 : decode cX8_need 0 = .ok (.aload_n 0, 1) := by decide +kernel
theorem dX8_need_1 : decode cX8_need 1 = .ok (.iconst 0, 1) := by decide +kernel
theorem dX8_need_2 : decode cX8_need 2 = .ok (.putfield 112, 3) := by decide +kernel
theorem dX8_need_5 : decode cX8_need 5 = .ok (.iload_n 1, 1) := by decide +kernel
theorem dX8_need_6 : decode cX8_need 6 = .ok (.ifCond .lt 19, 3) := by decide +kernel
theorem dX8_need_9 : decode cX8_need 9 = .ok (.iload_n 1, 1) := by decide +kernel
theorem dX8_need_10 : decode cX8_need 10 = .ok (.iconst 5, 1) := by decide +kernel
theorem dX8_need_11 : decode cX8_need 11 = .ok (.if_icmp .gt 14, 3) := by decide +kernel
theorem dX8_need_14 : decode cX8_need 14 = .ok (.iload_n 2, 1) := by decide +kernel
theorem dX8_need_15 : decode cX8_need 15 = .ok (.ifCond .lt 10, 3) := by decide +kernel
theorem dX8_need_18 : decode cX8_need 18 = .ok (.iload_n 2, 1) := by decide +kernel
theorem dX8_need_19 : decode cX8_need 19 = .ok (.sipush 9999, 3) := by decide +kernel
theorem dX8_need_22 : decode cX8_need 22 = .ok (.if_icmp .le 5, 3) := by decide +kernel
theorem dX8_need_25 : decode cX8_need 25 = .ok (.iconst 0, 1) := by decide +kernel
theorem dX8_need_26 : decode cX8_need 26 = .ok (.ireturn, 1) := by decide +kernel
theorem dX8_need_27 : decode cX8_need 27 = .ok (.aload_n 0, 1) := by decide +kernel
theorem dX8_need_28 : decode cX8_need 28 = .ok (.getfield 81, 3) := by decide +kernel
theorem dX8_need_31 : decode cX8_need 31 = .ok (.iload_n 1, 1) := by decide +kernel
theorem dX8_need_32 : decode cX8_need 32 = .ok (.iload_n 2, 1) := by decide +kernel
theorem dX8_need_33 : decode cX8_need 33 = .ok (.iastore, 1) := by decide +kernel
theorem dX8_need_34 : decode cX8_need 34 = .ok (.iconst 1, 1) := by decide +kernel
theorem dX8_need_35 : decode cX8_need 35 = .ok (.ireturn, 1) := by decide +kernel
theorem dX8_coinsFor_0 : decode cX8_coinsFor 0 = .ok (.iconst 0, 1) := by decide +kernel
theorem dX8_coinsFor_1 : decode cX8_coinsFor 1 = .ok (.istore_n 2, 1) := by decide +kernel
theorem dX8_coinsFor_2 : decode cX8_coinsFor 2 = .ok (.iconst 0, 1) := by decide +kernel
theorem dX8_coinsFor_3 : decode cX8_coinsFor 3 = .ok (.istore_n 3, 1) := by decide +kernel
theorem dX8_coinsFor_4 : decode cX8_coinsFor 4 = .ok (.iload_n 3, 1) := by decide +kernel
theorem dX8_coinsFor_5 : decode cX8_coinsFor 5 = .ok (.aload_n 0, 1) := by decide +kernel
theorem dX8_coinsFor_6 : decode cX8_coinsFor 6 = .ok (.getfield 229, 3) := by decide +kernel
theorem dX8_coinsFor_9 : decode cX8_coinsFor 9 = .ok (.if_icmp .ge 33, 3) := by decide +kernel
theorem dX8_coinsFor_12 : decode cX8_coinsFor 12 = .ok (.iload_n 2, 1) := by decide +kernel
theorem dX8_coinsFor_13 : decode cX8_coinsFor 13 = .ok (.aload_n 0, 1) := by decide +kernel
theorem dX8_coinsFor_14 : decode cX8_coinsFor 14 = .ok (.getfield 78, 3) := by decide +kernel
theorem dX8_coinsFor_17 : decode cX8_coinsFor 17 = .ok (.iload_n 3, 1) := by decide +kernel
theorem dX8_coinsFor_18 : decode cX8_coinsFor 18 = .ok (.iaload, 1) := by decide +kernel
theorem dX8_coinsFor_19 : decode cX8_coinsFor 19 = .ok (.iload_n 1, 1) := by decide +kernel
theorem dX8_coinsFor_20 : decode cX8_coinsFor 20 = .ok (.iand, 1) := by decide +kernel
theorem dX8_coinsFor_21 : decode cX8_coinsFor 21 = .ok (.ifCond .eq 12, 3) := by decide +kernel
theorem dX8_coinsFor_24 : decode cX8_coinsFor 24 = .ok (.aload_n 0, 1) := by decide +kernel
theorem dX8_coinsFor_25 : decode cX8_coinsFor 25 = .ok (.getfield 75, 3) := by decide +kernel
theorem dX8_coinsFor_28 : decode cX8_coinsFor 28 = .ok (.iload_n 3, 1) := by decide +kernel
theorem dX8_coinsFor_29 : decode cX8_coinsFor 29 = .ok (.iaload, 1) := by decide +kernel
theorem dX8_coinsFor_30 : decode cX8_coinsFor 30 = .ok (.goto 4, 3) := by decide +kernel
theorem dX8_coinsFor_33 : decode cX8_coinsFor 33 = .ok (.iconst 0, 1) := by decide +kernel
theorem dX8_coinsFor_34 : decode cX8_coinsFor 34 = .ok (.iadd, 1) := by decide +kernel
theorem dX8_coinsFor_35 : decode cX8_coinsFor 35 = .ok (.istore_n 2, 1) := by decide +kernel
theorem dX8_coinsFor_36 : decode cX8_coinsFor 36 = .ok (.iinc 3 1, 3) := by decide +kernel
theorem dX8_coinsFor_39 : decode cX8_coinsFor 39 = .ok (.goto (-35), 3) := by decide +kernel
theorem dX8_coinsFor_42 : decode cX8_coinsFor 42 = .ok (.iload_n 2, 1) := by decide +kernel
theorem dX8_coinsFor_43 : decode cX8_coinsFor 43 = .ok (.ireturn, 1) := by decide +kernel
theorem dX8_needOf_0 : decode cX8_needOf 0 = .ok (.iconst 0, 1) := by decide +kernel
theorem dX8_needOf_1 : decode cX8_needOf 1 = .ok (.istore_n 2, 1) := by decide +kernel
theorem dX8_needOf_2 : decode cX8_needOf 2 = .ok (.iconst 0, 1) := by decide +kernel
theorem dX8_needOf_3 : decode cX8_needOf 3 = .ok (.istore_n 3, 1) := by decide +kernel
theorem dX8_needOf_4 : decode cX8_needOf 4 = .ok (.iload_n 3, 1) := by decide +kernel
theorem dX8_needOf_5 : decode cX8_needOf 5 = .ok (.bipush 6, 2) := by decide +kernel
theorem dX8_needOf_7 : decode cX8_needOf 7 = .ok (.if_icmp .ge 31, 3) := by decide +kernel
theorem dX8_needOf_10 : decode cX8_needOf 10 = .ok (.iload_n 2, 1) := by decide +kernel
theorem dX8_needOf_11 : decode cX8_needOf 11 = .ok (.iload_n 1, 1) := by decide +kernel
theorem dX8_needOf_12 : decode cX8_needOf 12 = .ok (.iload_n 3, 1) := by decide +kernel
theorem dX8_needOf_13 : decode cX8_needOf 13 = .ok (.ishr, 1) := by decide +kernel
theorem dX8_needOf_14 : decode cX8_needOf 14 = .ok (.iconst 1, 1) := by decide +kernel
theorem dX8_needOf_15 : decode cX8_needOf 15 = .ok (.iand, 1) := by decide +kernel
theorem dX8_needOf_16 : decode cX8_needOf 16 = .ok (.iconst 1, 1) := by decide +kernel
theorem dX8_needOf_17 : decode cX8_needOf 17 = .ok (.if_icmp .ne 12, 3) := by decide +kernel
theorem dX8_needOf_20 : decode cX8_needOf 20 = .ok (.aload_n 0, 1) := by decide +kernel
theorem dX8_needOf_21 : decode cX8_needOf 21 = .ok (.getfield 81, 3) := by decide +kernel
theorem dX8_needOf_24 : decode cX8_needOf 24 = .ok (.iload_n 3, 1) := by decide +kernel
theorem dX8_needOf_25 : decode cX8_needOf 25 = .ok (.iaload, 1) := by decide +kernel
theorem dX8_needOf_26 : decode cX8_needOf 26 = .ok (.goto 4, 3) := by decide +kernel
theorem dX8_needOf_29 : decode cX8_needOf 29 = .ok (.iconst 0, 1) := by decide +kernel
theorem dX8_needOf_30 : decode cX8_needOf 30 = .ok (.iadd, 1) := by decide +kernel
theorem dX8_needOf_31 : decode cX8_needOf 31 = .ok (.istore_n 2, 1) := by decide +kernel
theorem dX8_needOf_32 : decode cX8_needOf 32 = .ok (.iinc 3 1, 3) := by decide +kernel
theorem dX8_needOf_35 : decode cX8_needOf 35 = .ok (.goto (-31), 3) := by decide +kernel
theorem dX8_needOf_38 : decode cX8_needOf 38 = .ok (.iload_n 2, 1) := by decide +kernel
theorem dX8_needOf_39 : decode cX8_needOf 39 = .ok (.ireturn, 1) := by decide +kernel
theorem dX8_deal_0 : decode cX8_deal 0 = .ok (.iconst 0, 1) := by decide +kernel
theorem dX8_deal_1 : decode cX8_deal 1 = .ok (.istore_n 1, 1) := by decide +kernel
theorem dX8_deal_2 : decode cX8_deal 2 = .ok (.iload_n 1, 1) := by decide +kernel
theorem dX8_deal_3 : decode cX8_deal 3 = .ok (.bipush 6, 2) := by decide +kernel
theorem dX8_deal_5 : decode cX8_deal 5 = .ok (.if_icmp .ge 101, 3) := by decide +kernel
theorem dX8_deal_8 : decode cX8_deal 8 = .ok (.aload_n 0, 1) := by decide +kernel
theorem dX8_deal_9 : decode cX8_deal 9 = .ok (.getfield 81, 3) := by decide +kernel
theorem dX8_deal_12 : decode cX8_deal 12 = .ok (.iload_n 1, 1) := by decide +kernel
theorem dX8_deal_13 : decode cX8_deal 13 = .ok (.iaload, 1) := by decide +kernel
theorem dX8_deal_14 : decode cX8_deal 14 = .ok (.istore_n 2, 1) := by decide +kernel
theorem dX8_deal_15 : decode cX8_deal 15 = .ok (.iconst 1, 1) := by decide +kernel
theorem dX8_deal_16 : decode cX8_deal 16 = .ok (.iload_n 1, 1) := by decide +kernel
theorem dX8_deal_17 : decode cX8_deal 17 = .ok (.ishl, 1) := by decide +kernel
theorem dX8_deal_18 : decode cX8_deal 18 = .ok (.istore_n 3, 1) := by decide +kernel
theorem dX8_deal_19 : decode cX8_deal 19 = .ok (.iload_n 3, 1) := by decide +kernel
theorem dX8_deal_20 : decode cX8_deal 20 = .ok (.iconst 2, 1) := by decide +kernel
theorem dX8_deal_21 : decode cX8_deal 21 = .ok (.iload_n 1, 1) := by decide +kernel
theorem dX8_deal_22 : decode cX8_deal 22 = .ok (.ishl, 1) := by decide +kernel
theorem dX8_deal_23 : decode cX8_deal 23 = .ok (.if_icmp .ge 70, 3) := by decide +kernel
theorem dX8_deal_26 : decode cX8_deal 26 = .ok (.aload_n 0, 1) := by decide +kernel
theorem dX8_deal_27 : decode cX8_deal 27 = .ok (.iload_n 3, 1) := by decide +kernel
theorem dX8_deal_28 : decode cX8_deal 28 = .ok (.invokevirtual 232, 3) := by decide +kernel
theorem dX8_deal_31 : decode cX8_deal 31 = .ok (.istore 4, 2) := by decide +kernel
theorem dX8_deal_33 : decode cX8_deal 33 = .ok (.iconst 0, 1) := by decide +kernel
theorem dX8_deal_34 : decode cX8_deal 34 = .ok (.istore 5, 2) := by decide +kernel
theorem dX8_deal_36 : decode cX8_deal 36 = .ok (.iload 5, 2) := by decide +kernel
theorem dX8_deal_38 : decode cX8_deal 38 = .ok (.iload_n 1, 1) := by decide +kernel
theorem dX8_deal_39 : decode cX8_deal 39 = .ok (.if_icmp .ge 35, 3) := by decide +kernel
theorem dX8_deal_42 : decode cX8_deal 42 = .ok (.iload 4, 2) := by decide +kernel
theorem dX8_deal_44 : decode cX8_deal 44 = .ok (.iload_n 3, 1) := by decide +kernel
theorem dX8_deal_45 : decode cX8_deal 45 = .ok (.iload 5, 2) := by decide +kernel
theorem dX8_deal_47 : decode cX8_deal 47 = .ok (.ishr, 1) := by decide +kernel
theorem dX8_deal_48 : decode cX8_deal 48 = .ok (.iconst 1, 1) := by decide +kernel
theorem dX8_deal_49 : decode cX8_deal 49 = .ok (.iand, 1) := by decide +kernel
theorem dX8_deal_50 : decode cX8_deal 50 = .ok (.iconst 1, 1) := by decide +kernel
theorem dX8_deal_51 : decode cX8_deal 51 = .ok (.if_icmp .ne 13, 3) := by decide +kernel
theorem dX8_deal_54 : decode cX8_deal 54 = .ok (.aload_n 0, 1) := by decide +kernel
theorem dX8_deal_55 : decode cX8_deal 55 = .ok (.getfield 106, 3) := by decide +kernel
theorem dX8_deal_58 : decode cX8_deal 58 = .ok (.iload 5, 2) := by decide +kernel
theorem dX8_deal_60 : decode cX8_deal 60 = .ok (.iaload, 1) := by decide +kernel
theorem dX8_deal_61 : decode cX8_deal 61 = .ok (.goto 4, 3) := by decide +kernel
theorem dX8_deal_64 : decode cX8_deal 64 = .ok (.iconst 0, 1) := by decide +kernel
theorem dX8_deal_65 : decode cX8_deal 65 = .ok (.isub, 1) := by decide +kernel
theorem dX8_deal_66 : decode cX8_deal 66 = .ok (.istore 4, 2) := by decide +kernel
theorem dX8_deal_68 : decode cX8_deal 68 = .ok (.iinc 5 1, 3) := by decide +kernel
theorem dX8_deal_71 : decode cX8_deal 71 = .ok (.goto (-35), 3) := by decide +kernel
theorem dX8_deal_74 : decode cX8_deal 74 = .ok (.iload 4, 2) := by decide +kernel
theorem dX8_deal_76 : decode cX8_deal 76 = .ok (.iload_n 2, 1) := by decide +kernel
theorem dX8_deal_77 : decode cX8_deal 77 = .ok (.if_icmp .ge 8, 3) := by decide +kernel
theorem dX8_deal_80 : decode cX8_deal 80 = .ok (.iload 4, 2) := by decide +kernel
theorem dX8_deal_82 : decode cX8_deal 82 = .ok (.goto 4, 3) := by decide +kernel
theorem dX8_deal_85 : decode cX8_deal 85 = .ok (.iload_n 2, 1) := by decide +kernel
theorem dX8_deal_86 : decode cX8_deal 86 = .ok (.istore_n 2, 1) := by decide +kernel
theorem dX8_deal_87 : decode cX8_deal 87 = .ok (.iinc 3 1, 3) := by decide +kernel
theorem dX8_deal_90 : decode cX8_deal 90 = .ok (.goto (-71), 3) := by decide +kernel
theorem dX8_deal_93 : decode cX8_deal 93 = .ok (.aload_n 0, 1) := by decide +kernel
theorem dX8_deal_94 : decode cX8_deal 94 = .ok (.getfield 106, 3) := by decide +kernel
theorem dX8_deal_97 : decode cX8_deal 97 = .ok (.iload_n 1, 1) := by decide +kernel
theorem dX8_deal_98 : decode cX8_deal 98 = .ok (.iload_n 2, 1) := by decide +kernel
theorem dX8_deal_99 : decode cX8_deal 99 = .ok (.iastore, 1) := by decide +kernel
theorem dX8_deal_100 : decode cX8_deal 100 = .ok (.iinc 1 1, 3) := by decide +kernel
theorem dX8_deal_103 : decode cX8_deal 103 = .ok (.goto (-101), 3) := by decide +kernel
theorem dX8_deal_106 : decode cX8_deal 106 = .ok (.iconst 0, 1) := by decide +kernel
theorem dX8_deal_107 : decode cX8_deal 107 = .ok (.istore_n 1, 1) := by decide +kernel
theorem dX8_deal_108 : decode cX8_deal 108 = .ok (.iload_n 1, 1) := by decide +kernel
theorem dX8_deal_109 : decode cX8_deal 109 = .ok (.aload_n 0, 1) := by decide +kernel
theorem dX8_deal_110 : decode cX8_deal 110 = .ok (.getfield 229, 3) := by decide +kernel
theorem dX8_deal_113 : decode cX8_deal 113 = .ok (.if_icmp .ge 184, 3) := by decide +kernel
theorem dX8_deal_116 : decode cX8_deal 116 = .ok (.aload_n 0, 1) := by decide +kernel
theorem dX8_deal_117 : decode cX8_deal 117 = .ok (.getfield 75, 3) := by decide +kernel
theorem dX8_deal_120 : decode cX8_deal 120 = .ok (.iload_n 1, 1) := by decide +kernel
theorem dX8_deal_121 : decode cX8_deal 121 = .ok (.iaload, 1) := by decide +kernel
theorem dX8_deal_122 : decode cX8_deal 122 = .ok (.istore_n 2, 1) := by decide +kernel
theorem dX8_deal_123 : decode cX8_deal 123 = .ok (.iconst 1, 1) := by decide +kernel
theorem dX8_deal_124 : decode cX8_deal 124 = .ok (.iload_n 1, 1) := by decide +kernel
theorem dX8_deal_125 : decode cX8_deal 125 = .ok (.ishl, 1) := by decide +kernel
theorem dX8_deal_126 : decode cX8_deal 126 = .ok (.istore_n 3, 1) := by decide +kernel
theorem dX8_deal_127 : decode cX8_deal 127 = .ok (.iload_n 3, 1) := by decide +kernel
theorem dX8_deal_128 : decode cX8_deal 128 = .ok (.iconst 2, 1) := by decide +kernel
theorem dX8_deal_129 : decode cX8_deal 129 = .ok (.iload_n 1, 1) := by decide +kernel
theorem dX8_deal_130 : decode cX8_deal 130 = .ok (.ishl, 1) := by decide +kernel
theorem dX8_deal_131 : decode cX8_deal 131 = .ok (.if_icmp .ge 153, 3) := by decide +kernel
theorem dX8_deal_134 : decode cX8_deal 134 = .ok (.iconst 0, 1) := by decide +kernel
theorem dX8_deal_135 : decode cX8_deal 135 = .ok (.istore 4, 2) := by decide +kernel
theorem dX8_deal_137 : decode cX8_deal 137 = .ok (.iconst 0, 1) := by decide +kernel
theorem dX8_deal_138 : decode cX8_deal 138 = .ok (.istore 5, 2) := by decide +kernel
theorem dX8_deal_140 : decode cX8_deal 140 = .ok (.iconst 0, 1) := by decide +kernel
theorem dX8_deal_141 : decode cX8_deal 141 = .ok (.istore 6, 2) := by decide +kernel
theorem dX8_deal_143 : decode cX8_deal 143 = .ok (.iload 6, 2) := by decide +kernel
theorem dX8_deal_145 : decode cX8_deal 145 = .ok (.iload_n 1, 1) := by decide +kernel
theorem dX8_deal_146 : decode cX8_deal 146 = .ok (.if_icmp .gt 35, 3) := by decide +kernel
theorem dX8_deal_149 : decode cX8_deal 149 = .ok (.iload 4, 2) := by decide +kernel
theorem dX8_deal_151 : decode cX8_deal 151 = .ok (.iload_n 3, 1) := by decide +kernel
theorem dX8_deal_152 : decode cX8_deal 152 = .ok (.iload 6, 2) := by decide +kernel
theorem dX8_deal_154 : decode cX8_deal 154 = .ok (.ishr, 1) := by decide +kernel
theorem dX8_deal_155 : decode cX8_deal 155 = .ok (.iconst 1, 1) := by decide +kernel
theorem dX8_deal_156 : decode cX8_deal 156 = .ok (.iand, 1) := by decide +kernel
theorem dX8_deal_157 : decode cX8_deal 157 = .ok (.iconst 1, 1) := by decide +kernel
theorem dX8_deal_158 : decode cX8_deal 158 = .ok (.if_icmp .ne 13, 3) := by decide +kernel
theorem dX8_deal_161 : decode cX8_deal 161 = .ok (.aload_n 0, 1) := by decide +kernel
theorem dX8_deal_162 : decode cX8_deal 162 = .ok (.getfield 78, 3) := by decide +kernel
theorem dX8_deal_165 : decode cX8_deal 165 = .ok (.iload 6, 2) := by decide +kernel
theorem dX8_deal_167 : decode cX8_deal 167 = .ok (.iaload, 1) := by decide +kernel
theorem dX8_deal_168 : decode cX8_deal 168 = .ok (.goto 4, 3) := by decide +kernel
theorem dX8_deal_171 : decode cX8_deal 171 = .ok (.iconst 0, 1) := by decide +kernel
theorem dX8_deal_172 : decode cX8_deal 172 = .ok (.ior, 1) := by decide +kernel
theorem dX8_deal_173 : decode cX8_deal 173 = .ok (.istore 4, 2) := by decide +kernel
theorem dX8_deal_175 : decode cX8_deal 175 = .ok (.iinc 6 1, 3) := by decide +kernel
theorem dX8_deal_178 : decode cX8_deal 178 = .ok (.goto (-35), 3) := by decide +kernel
theorem dX8_deal_181 : decode cX8_deal 181 = .ok (.iconst 0, 1) := by decide +kernel
theorem dX8_deal_182 : decode cX8_deal 182 = .ok (.istore 6, 2) := by decide +kernel
theorem dX8_deal_184 : decode cX8_deal 184 = .ok (.iload 6, 2) := by decide +kernel
theorem dX8_deal_186 : decode cX8_deal 186 = .ok (.bipush 6, 2) := by decide +kernel
theorem dX8_deal_188 : decode cX8_deal 188 = .ok (.if_icmp .ge 36, 3) := by decide +kernel
theorem dX8_deal_191 : decode cX8_deal 191 = .ok (.iload 5, 2) := by decide +kernel
theorem dX8_deal_193 : decode cX8_deal 193 = .ok (.iload 4, 2) := by decide +kernel
theorem dX8_deal_195 : decode cX8_deal 195 = .ok (.iload 6, 2) := by decide +kernel
theorem dX8_deal_197 : decode cX8_deal 197 = .ok (.ishr, 1) := by decide +kernel
theorem dX8_deal_198 : decode cX8_deal 198 = .ok (.iconst 1, 1) := by decide +kernel
theorem dX8_deal_199 : decode cX8_deal 199 = .ok (.iand, 1) := by decide +kernel
theorem dX8_deal_200 : decode cX8_deal 200 = .ok (.iconst 1, 1) := by decide +kernel
theorem dX8_deal_201 : decode cX8_deal 201 = .ok (.if_icmp .ne 13, 3) := by decide +kernel
theorem dX8_deal_204 : decode cX8_deal 204 = .ok (.aload_n 0, 1) := by decide +kernel
theorem dX8_deal_205 : decode cX8_deal 205 = .ok (.getfield 106, 3) := by decide +kernel
theorem dX8_deal_208 : decode cX8_deal 208 = .ok (.iload 6, 2) := by decide +kernel
theorem dX8_deal_210 : decode cX8_deal 210 = .ok (.iaload, 1) := by decide +kernel
theorem dX8_deal_211 : decode cX8_deal 211 = .ok (.goto 4, 3) := by decide +kernel
theorem dX8_deal_214 : decode cX8_deal 214 = .ok (.iconst 0, 1) := by decide +kernel
theorem dX8_deal_215 : decode cX8_deal 215 = .ok (.iadd, 1) := by decide +kernel
theorem dX8_deal_216 : decode cX8_deal 216 = .ok (.istore 5, 2) := by decide +kernel
theorem dX8_deal_218 : decode cX8_deal 218 = .ok (.iinc 6 1, 3) := by decide +kernel
theorem dX8_deal_221 : decode cX8_deal 221 = .ok (.goto (-37), 3) := by decide +kernel
theorem dX8_deal_224 : decode cX8_deal 224 = .ok (.iconst 0, 1) := by decide +kernel
theorem dX8_deal_225 : decode cX8_deal 225 = .ok (.istore 6, 2) := by decide +kernel
theorem dX8_deal_227 : decode cX8_deal 227 = .ok (.iload 6, 2) := by decide +kernel
theorem dX8_deal_229 : decode cX8_deal 229 = .ok (.iload_n 1, 1) := by decide +kernel
theorem dX8_deal_230 : decode cX8_deal 230 = .ok (.if_icmp .ge 35, 3) := by decide +kernel
theorem dX8_deal_233 : decode cX8_deal 233 = .ok (.iload 5, 2) := by decide +kernel
theorem dX8_deal_235 : decode cX8_deal 235 = .ok (.iload_n 3, 1) := by decide +kernel
theorem dX8_deal_236 : decode cX8_deal 236 = .ok (.iload 6, 2) := by decide +kernel
theorem dX8_deal_238 : decode cX8_deal 238 = .ok (.ishr, 1) := by decide +kernel
theorem dX8_deal_239 : decode cX8_deal 239 = .ok (.iconst 1, 1) := by decide +kernel
theorem dX8_deal_240 : decode cX8_deal 240 = .ok (.iand, 1) := by decide +kernel
theorem dX8_deal_241 : decode cX8_deal 241 = .ok (.iconst 1, 1) := by decide +kernel
theorem dX8_deal_242 : decode cX8_deal 242 = .ok (.if_icmp .ne 13, 3) := by decide +kernel
theorem dX8_deal_245 : decode cX8_deal 245 = .ok (.aload_n 0, 1) := by decide +kernel
theorem dX8_deal_246 : decode cX8_deal 246 = .ok (.getfield 109, 3) := by decide +kernel
theorem dX8_deal_249 : decode cX8_deal 249 = .ok (.iload 6, 2) := by decide +kernel
theorem dX8_deal_251 : decode cX8_deal 251 = .ok (.iaload, 1) := by decide +kernel
theorem dX8_deal_252 : decode cX8_deal 252 = .ok (.goto 4, 3) := by decide +kernel
theorem dX8_deal_255 : decode cX8_deal 255 = .ok (.iconst 0, 1) := by decide +kernel
theorem dX8_deal_256 : decode cX8_deal 256 = .ok (.isub, 1) := by decide +kernel
theorem dX8_deal_257 : decode cX8_deal 257 = .ok (.istore 5, 2) := by decide +kernel
theorem dX8_deal_259 : decode cX8_deal 259 = .ok (.iinc 6 1, 3) := by decide +kernel
theorem dX8_deal_262 : decode cX8_deal 262 = .ok (.goto (-35), 3) := by decide +kernel
theorem dX8_deal_265 : decode cX8_deal 265 = .ok (.iload 5, 2) := by decide +kernel
theorem dX8_deal_267 : decode cX8_deal 267 = .ok (.iload_n 2, 1) := by decide +kernel
theorem dX8_deal_268 : decode cX8_deal 268 = .ok (.if_icmp .ge 8, 3) := by decide +kernel
theorem dX8_deal_271 : decode cX8_deal 271 = .ok (.iload 5, 2) := by decide +kernel
theorem dX8_deal_273 : decode cX8_deal 273 = .ok (.goto 4, 3) := by decide +kernel
theorem dX8_deal_276 : decode cX8_deal 276 = .ok (.iload_n 2, 1) := by decide +kernel
theorem dX8_deal_277 : decode cX8_deal 277 = .ok (.istore_n 2, 1) := by decide +kernel
theorem dX8_deal_278 : decode cX8_deal 278 = .ok (.iinc 3 1, 3) := by decide +kernel
theorem dX8_deal_281 : decode cX8_deal 281 = .ok (.goto (-154), 3) := by decide +kernel
theorem dX8_deal_284 : decode cX8_deal 284 = .ok (.aload_n 0, 1) := by decide +kernel
theorem dX8_deal_285 : decode cX8_deal 285 = .ok (.getfield 109, 3) := by decide +kernel
theorem dX8_deal_288 : decode cX8_deal 288 = .ok (.iload_n 1, 1) := by decide +kernel
theorem dX8_deal_289 : decode cX8_deal 289 = .ok (.iload_n 2, 1) := by decide +kernel
theorem dX8_deal_290 : decode cX8_deal 290 = .ok (.iastore, 1) := by decide +kernel
theorem dX8_deal_291 : decode cX8_deal 291 = .ok (.iinc 1 1, 3) := by decide +kernel
theorem dX8_deal_294 : decode cX8_deal 294 = .ok (.goto (-186), 3) := by decide +kernel
theorem dX8_deal_297 : decode cX8_deal 297 = .ok (.return_, 1) := by decide +kernel
theorem dX8_shortage_0 : decode cX8_shortage 0 = .ok (.iconst 0, 1) := by decide +kernel
theorem dX8_shortage_1 : decode cX8_shortage 1 = .ok (.istore_n 1, 1) := by decide +kernel
theorem dX8_shortage_2 : decode cX8_shortage 2 = .ok (.iconst 1, 1) := by decide +kernel
theorem dX8_shortage_3 : decode cX8_shortage 3 = .ok (.istore_n 2, 1) := by decide +kernel
theorem dX8_shortage_4 : decode cX8_shortage 4 = .ok (.iload_n 2, 1) := by decide +kernel
theorem dX8_shortage_5 : decode cX8_shortage 5 = .ok (.bipush 64, 2) := by decide +kernel
theorem dX8_shortage_7 : decode cX8_shortage 7 = .ok (.if_icmp .ge 32, 3) := by decide +kernel
theorem dX8_shortage_10 : decode cX8_shortage 10 = .ok (.aload_n 0, 1) := by decide +kernel
theorem dX8_shortage_11 : decode cX8_shortage 11 = .ok (.iload_n 2, 1) := by decide +kernel
theorem dX8_shortage_12 : decode cX8_shortage 12 = .ok (.invokevirtual 235, 3) := by decide +kernel
theorem dX8_shortage_15 : decode cX8_shortage 15 = .ok (.aload_n 0, 1) := by decide +kernel
theorem dX8_shortage_16 : decode cX8_shortage 16 = .ok (.iload_n 2, 1) := by decide +kernel
theorem dX8_shortage_17 : decode cX8_shortage 17 = .ok (.invokevirtual 232, 3) := by decide +kernel
theorem dX8_shortage_20 : decode cX8_shortage 20 = .ok (.isub, 1) := by decide +kernel
theorem dX8_shortage_21 : decode cX8_shortage 21 = .ok (.istore_n 3, 1) := by decide +kernel
theorem dX8_shortage_22 : decode cX8_shortage 22 = .ok (.iload_n 3, 1) := by decide +kernel
theorem dX8_shortage_23 : decode cX8_shortage 23 = .ok (.iload_n 1, 1) := by decide +kernel
theorem dX8_shortage_24 : decode cX8_shortage 24 = .ok (.if_icmp .le 7, 3) := by decide +kernel
theorem dX8_shortage_27 : decode cX8_shortage 27 = .ok (.iload_n 3, 1) := by decide +kernel
theorem dX8_shortage_28 : decode cX8_shortage 28 = .ok (.goto 4, 3) := by decide +kernel
theorem dX8_shortage_31 : decode cX8_shortage 31 = .ok (.iload_n 1, 1) := by decide +kernel
theorem dX8_shortage_32 : decode cX8_shortage 32 = .ok (.istore_n 1, 1) := by decide +kernel
theorem dX8_shortage_33 : decode cX8_shortage 33 = .ok (.iinc 2 1, 3) := by decide +kernel
theorem dX8_shortage_36 : decode cX8_shortage 36 = .ok (.goto (-32), 3) := by decide +kernel
theorem dX8_shortage_39 : decode cX8_shortage 39 = .ok (.iload_n 1, 1) := by decide +kernel
theorem dX8_shortage_40 : decode cX8_shortage 40 = .ok (.ireturn, 1) := by decide +kernel
theorem dX8_owed_0 : decode cX8_owed 0 = .ok (.aload_n 0, 1) := by decide +kernel
theorem dX8_owed_1 : decode cX8_owed 1 = .ok (.iconst 0, 1) := by decide +kernel
theorem dX8_owed_2 : decode cX8_owed 2 = .ok (.putfield 112, 3) := by decide +kernel
theorem dX8_owed_5 : decode cX8_owed 5 = .ok (.iload_n 1, 1) := by decide +kernel
theorem dX8_owed_6 : decode cX8_owed 6 = .ok (.ifCond .ne 25, 3) := by decide +kernel
theorem dX8_owed_9 : decode cX8_owed 9 = .ok (.iload_n 2, 1) := by decide +kernel
theorem dX8_owed_10 : decode cX8_owed 10 = .ok (.ifCond .lt 8, 3) := by decide +kernel
theorem dX8_owed_13 : decode cX8_owed 13 = .ok (.iload_n 2, 1) := by decide +kernel
theorem dX8_owed_14 : decode cX8_owed 14 = .ok (.iconst 5, 1) := by decide +kernel
theorem dX8_owed_15 : decode cX8_owed 15 = .ok (.if_icmp .le 5, 3) := by decide +kernel
theorem dX8_owed_18 : decode cX8_owed 18 = .ok (.iconst (-1), 1) := by decide +kernel
theorem dX8_owed_19 : decode cX8_owed 19 = .ok (.ireturn, 1) := by decide +kernel
theorem dX8_owed_20 : decode cX8_owed 20 = .ok (.aload_n 0, 1) := by decide +kernel
theorem dX8_owed_21 : decode cX8_owed 21 = .ok (.invokevirtual 238, 3) := by decide +kernel
theorem dX8_owed_24 : decode cX8_owed 24 = .ok (.aload_n 0, 1) := by decide +kernel
theorem dX8_owed_25 : decode cX8_owed 25 = .ok (.getfield 106, 3) := by decide +kernel
theorem dX8_owed_28 : decode cX8_owed 28 = .ok (.iload_n 2, 1) := by decide +kernel
theorem dX8_owed_29 : decode cX8_owed 29 = .ok (.iaload, 1) := by decide +kernel
theorem dX8_owed_30 : decode cX8_owed 30 = .ok (.ireturn, 1) := by decide +kernel
theorem dX8_owed_31 : decode cX8_owed 31 = .ok (.iload_n 1, 1) := by decide +kernel
theorem dX8_owed_32 : decode cX8_owed 32 = .ok (.iconst 1, 1) := by decide +kernel
theorem dX8_owed_33 : decode cX8_owed 33 = .ok (.if_icmp .ne 28, 3) := by decide +kernel
theorem dX8_owed_36 : decode cX8_owed 36 = .ok (.iload_n 2, 1) := by decide +kernel
theorem dX8_owed_37 : decode cX8_owed 37 = .ok (.ifCond .lt 11, 3) := by decide +kernel
theorem dX8_owed_40 : decode cX8_owed 40 = .ok (.iload_n 2, 1) := by decide +kernel
theorem dX8_owed_41 : decode cX8_owed 41 = .ok (.aload_n 0, 1) := by decide +kernel
theorem dX8_owed_42 : decode cX8_owed 42 = .ok (.getfield 229, 3) := by decide +kernel
theorem dX8_owed_45 : decode cX8_owed 45 = .ok (.if_icmp .lt 5, 3) := by decide +kernel
theorem dX8_owed_48 : decode cX8_owed 48 = .ok (.iconst (-1), 1) := by decide +kernel
theorem dX8_owed_49 : decode cX8_owed 49 = .ok (.ireturn, 1) := by decide +kernel
theorem dX8_owed_50 : decode cX8_owed 50 = .ok (.aload_n 0, 1) := by decide +kernel
theorem dX8_owed_51 : decode cX8_owed 51 = .ok (.invokevirtual 238, 3) := by decide +kernel
theorem dX8_owed_54 : decode cX8_owed 54 = .ok (.aload_n 0, 1) := by decide +kernel
theorem dX8_owed_55 : decode cX8_owed 55 = .ok (.getfield 109, 3) := by decide +kernel
theorem dX8_owed_58 : decode cX8_owed 58 = .ok (.iload_n 2, 1) := by decide +kernel
theorem dX8_owed_59 : decode cX8_owed 59 = .ok (.iaload, 1) := by decide +kernel
theorem dX8_owed_60 : decode cX8_owed 60 = .ok (.ireturn, 1) := by decide +kernel
theorem dX8_owed_61 : decode cX8_owed 61 = .ok (.iload_n 1, 1) := by decide +kernel
theorem dX8_owed_62 : decode cX8_owed 62 = .ok (.iconst 2, 1) := by decide +kernel
theorem dX8_owed_63 : decode cX8_owed 63 = .ok (.if_icmp .lt 8, 3) := by decide +kernel
theorem dX8_owed_66 : decode cX8_owed 66 = .ok (.iload_n 1, 1) := by decide +kernel
theorem dX8_owed_67 : decode cX8_owed 67 = .ok (.iconst 3, 1) := by decide +kernel
theorem dX8_owed_68 : decode cX8_owed 68 = .ok (.if_icmp .le 5, 3) := by decide +kernel
theorem dX8_owed_71 : decode cX8_owed 71 = .ok (.iconst (-1), 1) := by decide +kernel
theorem dX8_owed_72 : decode cX8_owed 72 = .ok (.ireturn, 1) := by decide +kernel
theorem dX8_owed_73 : decode cX8_owed 73 = .ok (.aload_n 0, 1) := by decide +kernel
theorem dX8_owed_74 : decode cX8_owed 74 = .ok (.invokevirtual 241, 3) := by decide +kernel
theorem dX8_owed_77 : decode cX8_owed 77 = .ok (.istore_n 3, 1) := by decide +kernel
theorem dX8_owed_78 : decode cX8_owed 78 = .ok (.iload_n 1, 1) := by decide +kernel
theorem dX8_owed_79 : decode cX8_owed 79 = .ok (.iconst 2, 1) := by decide +kernel
theorem dX8_owed_80 : decode cX8_owed 80 = .ok (.if_icmp .ne 5, 3) := by decide +kernel
theorem dX8_owed_83 : decode cX8_owed 83 = .ok (.iload_n 3, 1) := by decide +kernel
theorem dX8_owed_84 : decode cX8_owed 84 = .ok (.ireturn, 1) := by decide +kernel
theorem dX8_owed_85 : decode cX8_owed 85 = .ok (.iconst 0, 1) := by decide +kernel
theorem dX8_owed_86 : decode cX8_owed 86 = .ok (.istore 4, 2) := by decide +kernel
theorem dX8_owed_88 : decode cX8_owed 88 = .ok (.iload 4, 2) := by decide +kernel
theorem dX8_owed_90 : decode cX8_owed 90 = .ok (.bipush 64, 2) := by decide +kernel
theorem dX8_owed_92 : decode cX8_owed 92 = .ok (.if_icmp .ge 29, 3) := by decide +kernel
theorem dX8_owed_95 : decode cX8_owed 95 = .ok (.aload_n 0, 1) := by decide +kernel
theorem dX8_owed_96 : decode cX8_owed 96 = .ok (.iload 4, 2) := by decide +kernel
theorem dX8_owed_98 : decode cX8_owed 98 = .ok (.invokevirtual 235, 3) := by decide +kernel
theorem dX8_owed_101 : decode cX8_owed 101 = .ok (.aload_n 0, 1) := by decide +kernel
theorem dX8_owed_102 : decode cX8_owed 102 = .ok (.iload 4, 2) := by decide +kernel
theorem dX8_owed_104 : decode cX8_owed 104 = .ok (.invokevirtual 232, 3) := by decide +kernel
theorem dX8_owed_107 : decode cX8_owed 107 = .ok (.isub, 1) := by decide +kernel
theorem dX8_owed_108 : decode cX8_owed 108 = .ok (.iload_n 3, 1) := by decide +kernel
theorem dX8_owed_109 : decode cX8_owed 109 = .ok (.if_icmp .ne 6, 3) := by decide +kernel
theorem dX8_owed_112 : decode cX8_owed 112 = .ok (.iload 4, 2) := by decide +kernel
theorem dX8_owed_114 : decode cX8_owed 114 = .ok (.ireturn, 1) := by decide +kernel
theorem dX8_owed_115 : decode cX8_owed 115 = .ok (.iinc 4 1, 3) := by decide +kernel
theorem dX8_owed_118 : decode cX8_owed 118 = .ok (.goto (-30), 3) := by decide +kernel
theorem dX8_owed_121 : decode cX8_owed 121 = .ok (.iconst (-1), 1) := by decide +kernel
theorem dX8_owed_122 : decode cX8_owed 122 = .ok (.ireturn, 1) := by decide +kernel
theorem dX8_pay_0 : decode cX8_pay 0 = .ok (.aload_n 0, 1) := by decide +kernel
theorem dX8_pay_1 : decode cX8_pay 1 = .ok (.iconst 0, 1) := by decide +kernel
theorem dX8_pay_2 : decode cX8_pay 2 = .ok (.putfield 112, 3) := by decide +kernel
theorem dX8_pay_5 : decode cX8_pay 5 = .ok (.aload_n 0, 1) := by decide +kernel
theorem dX8_pay_6 : decode cX8_pay 6 = .ok (.invokevirtual 238, 3) := by decide +kernel
theorem dX8_pay_9 : decode cX8_pay 9 = .ok (.iconst 0, 1) := by decide +kernel
theorem dX8_pay_10 : decode cX8_pay 10 = .ok (.istore_n 1, 1) := by decide +kernel
theorem dX8_pay_11 : decode cX8_pay 11 = .ok (.iconst 0, 1) := by decide +kernel
theorem dX8_pay_12 : decode cX8_pay 12 = .ok (.istore_n 2, 1) := by decide +kernel
theorem dX8_pay_13 : decode cX8_pay 13 = .ok (.iload_n 2, 1) := by decide +kernel
theorem dX8_pay_14 : decode cX8_pay 14 = .ok (.bipush 6, 2) := by decide +kernel
theorem dX8_pay_16 : decode cX8_pay 16 = .ok (.if_icmp .ge 33, 3) := by decide +kernel
theorem dX8_pay_19 : decode cX8_pay 19 = .ok (.aload_n 0, 1) := by decide +kernel
theorem dX8_pay_20 : decode cX8_pay 20 = .ok (.getfield 81, 3) := by decide +kernel
theorem dX8_pay_23 : decode cX8_pay 23 = .ok (.iload_n 2, 1) := by decide +kernel
theorem dX8_pay_24 : decode cX8_pay 24 = .ok (.dup2, 1) := by decide +kernel
theorem dX8_pay_25 : decode cX8_pay 25 = .ok (.iaload, 1) := by decide +kernel
theorem dX8_pay_26 : decode cX8_pay 26 = .ok (.aload_n 0, 1) := by decide +kernel
theorem dX8_pay_27 : decode cX8_pay 27 = .ok (.getfield 106, 3) := by decide +kernel
theorem dX8_pay_30 : decode cX8_pay 30 = .ok (.iload_n 2, 1) := by decide +kernel
theorem dX8_pay_31 : decode cX8_pay 31 = .ok (.iaload, 1) := by decide +kernel
theorem dX8_pay_32 : decode cX8_pay 32 = .ok (.isub, 1) := by decide +kernel
theorem dX8_pay_33 : decode cX8_pay 33 = .ok (.iastore, 1) := by decide +kernel
theorem dX8_pay_34 : decode cX8_pay 34 = .ok (.iload_n 1, 1) := by decide +kernel
theorem dX8_pay_35 : decode cX8_pay 35 = .ok (.aload_n 0, 1) := by decide +kernel
theorem dX8_pay_36 : decode cX8_pay 36 = .ok (.getfield 106, 3) := by decide +kernel
theorem dX8_pay_39 : decode cX8_pay 39 = .ok (.iload_n 2, 1) := by decide +kernel
theorem dX8_pay_40 : decode cX8_pay 40 = .ok (.iaload, 1) := by decide +kernel
theorem dX8_pay_41 : decode cX8_pay 41 = .ok (.iadd, 1) := by decide +kernel
theorem dX8_pay_42 : decode cX8_pay 42 = .ok (.istore_n 1, 1) := by decide +kernel
theorem dX8_pay_43 : decode cX8_pay 43 = .ok (.iinc 2 1, 3) := by decide +kernel
theorem dX8_pay_46 : decode cX8_pay 46 = .ok (.goto (-33), 3) := by decide +kernel
theorem dX8_pay_49 : decode cX8_pay 49 = .ok (.iconst 0, 1) := by decide +kernel
theorem dX8_pay_50 : decode cX8_pay 50 = .ok (.istore_n 2, 1) := by decide +kernel
theorem dX8_pay_51 : decode cX8_pay 51 = .ok (.iload_n 2, 1) := by decide +kernel
theorem dX8_pay_52 : decode cX8_pay 52 = .ok (.aload_n 0, 1) := by decide +kernel
theorem dX8_pay_53 : decode cX8_pay 53 = .ok (.getfield 229, 3) := by decide +kernel
theorem dX8_pay_56 : decode cX8_pay 56 = .ok (.if_icmp .ge 24, 3) := by decide +kernel
theorem dX8_pay_59 : decode cX8_pay 59 = .ok (.aload_n 0, 1) := by decide +kernel
theorem dX8_pay_60 : decode cX8_pay 60 = .ok (.getfield 75, 3) := by decide +kernel
theorem dX8_pay_63 : decode cX8_pay 63 = .ok (.iload_n 2, 1) := by decide +kernel
theorem dX8_pay_64 : decode cX8_pay 64 = .ok (.dup2, 1) := by decide +kernel
theorem dX8_pay_65 : decode cX8_pay 65 = .ok (.iaload, 1) := by decide +kernel
theorem dX8_pay_66 : decode cX8_pay 66 = .ok (.aload_n 0, 1) := by decide +kernel
theorem dX8_pay_67 : decode cX8_pay 67 = .ok (.getfield 109, 3) := by decide +kernel
theorem dX8_pay_70 : decode cX8_pay 70 = .ok (.iload_n 2, 1) := by decide +kernel
theorem dX8_pay_71 : decode cX8_pay 71 = .ok (.iaload, 1) := by decide +kernel
theorem dX8_pay_72 : decode cX8_pay 72 = .ok (.isub, 1) := by decide +kernel
theorem dX8_pay_73 : decode cX8_pay 73 = .ok (.iastore, 1) := by decide +kernel
theorem dX8_pay_74 : decode cX8_pay 74 = .ok (.iinc 2 1, 3) := by decide +kernel
theorem dX8_pay_77 : decode cX8_pay 77 = .ok (.goto (-26), 3) := by decide +kernel
theorem dX8_pay_80 : decode cX8_pay 80 = .ok (.iload_n 1, 1) := by decide +kernel
theorem dX8_pay_81 : decode cX8_pay 81 = .ok (.ireturn, 1) := by decide +kernel
theorem dX8_fails_0 : decode cX8_fails 0 = .ok (.aload_n 0, 1) := by decide +kernel
theorem dX8_fails_1 : decode cX8_fails 1 = .ok (.iload_n 1, 1) := by decide +kernel
theorem dX8_fails_2 : decode cX8_fails 2 = .ok (.putfield 112, 3) := by decide +kernel
theorem dX8_fails_5 : decode cX8_fails 5 = .ok (.iconst 0, 1) := by decide +kernel
theorem dX8_fails_6 : decode cX8_fails 6 = .ok (.ireturn, 1) := by decide +kernel
theorem dX8_coatOf_0 : decode cX8_coatOf 0 = .ok (.iconst 0, 1) := by decide +kernel
theorem dX8_coatOf_1 : decode cX8_coatOf 1 = .ok (.istore_n 2, 1) := by decide +kernel
theorem dX8_coatOf_2 : decode cX8_coatOf 2 = .ok (.iload_n 2, 1) := by decide +kernel
theorem dX8_coatOf_3 : decode cX8_coatOf 3 = .ok (.aload_n 0, 1) := by decide +kernel
theorem dX8_coatOf_4 : decode cX8_coatOf 4 = .ok (.getfield 210, 3) := by decide +kernel
theorem dX8_coatOf_7 : decode cX8_coatOf 7 = .ok (.if_icmp .ge 21, 3) := by decide +kernel
theorem dX8_coatOf_10 : decode cX8_coatOf 10 = .ok (.aload_n 0, 1) := by decide +kernel
theorem dX8_coatOf_11 : decode cX8_coatOf 11 = .ok (.getfield 72, 3) := by decide +kernel
theorem dX8_coatOf_14 : decode cX8_coatOf 14 = .ok (.iload_n 2, 1) := by decide +kernel
theorem dX8_coatOf_15 : decode cX8_coatOf 15 = .ok (.iaload, 1) := by decide +kernel
theorem dX8_coatOf_16 : decode cX8_coatOf 16 = .ok (.iload_n 1, 1) := by decide +kernel
theorem dX8_coatOf_17 : decode cX8_coatOf 17 = .ok (.if_icmp .ne 5, 3) := by decide +kernel
theorem dX8_coatOf_20 : decode cX8_coatOf 20 = .ok (.iload_n 2, 1) := by decide +kernel
theorem dX8_coatOf_21 : decode cX8_coatOf 21 = .ok (.ireturn, 1) := by decide +kernel
theorem dX8_coatOf_22 : decode cX8_coatOf 22 = .ok (.iinc 2 1, 3) := by decide +kernel
theorem dX8_coatOf_25 : decode cX8_coatOf 25 = .ok (.goto (-23), 3) := by decide +kernel
theorem dX8_coatOf_28 : decode cX8_coatOf 28 = .ok (.iconst (-1), 1) := by decide +kernel
theorem dX8_coatOf_29 : decode cX8_coatOf 29 = .ok (.ireturn, 1) := by decide +kernel
theorem dX8_look_0 : decode cX8_look 0 = .ok (.aload_n 0, 1) := by decide +kernel
theorem dX8_look_1 : decode cX8_look 1 = .ok (.iconst 0, 1) := by decide +kernel
theorem dX8_look_2 : decode cX8_look 2 = .ok (.putfield 112, 3) := by decide +kernel
theorem dX8_look_5 : decode cX8_look 5 = .ok (.aload_n 0, 1) := by decide +kernel
theorem dX8_look_6 : decode cX8_look 6 = .ok (.iload_n 1, 1) := by decide +kernel
theorem dX8_look_7 : decode cX8_look 7 = .ok (.invokevirtual 183, 3) := by decide +kernel
theorem dX8_look_10 : decode cX8_look 10 = .ok (.ifCond .ne 9, 3) := by decide +kernel
theorem dX8_look_13 : decode cX8_look 13 = .ok (.aload_n 0, 1) := by decide +kernel
theorem dX8_look_14 : decode cX8_look 14 = .ok (.iconst 1, 1) := by decide +kernel
theorem dX8_look_15 : decode cX8_look 15 = .ok (.invokevirtual 244, 3) := by decide +kernel
theorem dX8_look_18 : decode cX8_look 18 = .ok (.ireturn, 1) := by decide +kernel
theorem dX8_look_19 : decode cX8_look 19 = .ok (.iload_n 2, 1) := by decide +kernel
theorem dX8_look_20 : decode cX8_look 20 = .ok (.tableswitch 80 0 5 #[40, 47, 54, 61, 68, 74], 40) := by decide +kernel
theorem dX8_look_60 : decode cX8_look 60 = .ok (.aload_n 0, 1) := by decide +kernel
theorem dX8_look_61 : decode cX8_look 61 = .ok (.getfield 47, 3) := by decide +kernel
theorem dX8_look_64 : decode cX8_look 64 = .ok (.iload_n 1, 1) := by decide +kernel
theorem dX8_look_65 : decode cX8_look 65 = .ok (.iaload, 1) := by decide +kernel
theorem dX8_look_66 : decode cX8_look 66 = .ok (.ireturn, 1) := by decide +kernel
theorem dX8_look_67 : decode cX8_look 67 = .ok (.aload_n 0, 1) := by decide +kernel
theorem dX8_look_68 : decode cX8_look 68 = .ok (.getfield 50, 3) := by decide +kernel
theorem dX8_look_71 : decode cX8_look 71 = .ok (.iload_n 1, 1) := by decide +kernel
theorem dX8_look_72 : decode cX8_look 72 = .ok (.iaload, 1) := by decide +kernel
theorem dX8_look_73 : decode cX8_look 73 = .ok (.ireturn, 1) := by decide +kernel
theorem dX8_look_74 : decode cX8_look 74 = .ok (.aload_n 0, 1) := by decide +kernel
theorem dX8_look_75 : decode cX8_look 75 = .ok (.getfield 53, 3) := by decide +kernel
theorem dX8_look_78 : decode cX8_look 78 = .ok (.iload_n 1, 1) := by decide +kernel
theorem dX8_look_79 : decode cX8_look 79 = .ok (.iaload, 1) := by decide +kernel
theorem dX8_look_80 : decode cX8_look 80 = .ok (.ireturn, 1) := by decide +kernel
theorem dX8_look_81 : decode cX8_look 81 = .ok (.aload_n 0, 1) := by decide +kernel
theorem dX8_look_82 : decode cX8_look 82 = .ok (.getfield 59, 3) := by decide +kernel
theorem dX8_look_85 : decode cX8_look 85 = .ok (.iload_n 1, 1) := by decide +kernel
theorem dX8_look_86 : decode cX8_look 86 = .ok (.iaload, 1) := by decide +kernel
theorem dX8_look_87 : decode cX8_look 87 = .ok (.ireturn, 1) := by decide +kernel
theorem dX8_look_88 : decode cX8_look 88 = .ok (.aload_n 0, 1) := by decide +kernel
theorem dX8_look_89 : decode cX8_look 89 = .ok (.iload_n 1, 1) := by decide +kernel
theorem dX8_look_90 : decode cX8_look 90 = .ok (.invokevirtual 247, 3) := by decide +kernel
theorem dX8_look_93 : decode cX8_look 93 = .ok (.ireturn, 1) := by decide +kernel
theorem dX8_look_94 : decode cX8_look 94 = .ok (.aload_n 0, 1) := by decide +kernel
theorem dX8_look_95 : decode cX8_look 95 = .ok (.iload_n 1, 1) := by decide +kernel
theorem dX8_look_96 : decode cX8_look 96 = .ok (.invokevirtual 186, 3) := by decide +kernel
theorem dX8_look_99 : decode cX8_look 99 = .ok (.ireturn, 1) := by decide +kernel
theorem dX8_look_100 : decode cX8_look 100 = .ok (.aload_n 0, 1) := by decide +kernel
theorem dX8_look_101 : decode cX8_look 101 = .ok (.iconst 2, 1) := by decide +kernel
theorem dX8_look_102 : decode cX8_look 102 = .ok (.invokevirtual 244, 3) := by decide +kernel
theorem dX8_look_105 : decode cX8_look 105 = .ok (.ireturn, 1) := by decide +kernel
theorem dX8_coat_0 : decode cX8_coat 0 = .ok (.aload_n 0, 1) := by decide +kernel
theorem dX8_coat_1 : decode cX8_coat 1 = .ok (.iconst 0, 1) := by decide +kernel
theorem dX8_coat_2 : decode cX8_coat 2 = .ok (.putfield 112, 3) := by decide +kernel
theorem dX8_coat_5 : decode cX8_coat 5 = .ok (.iload_n 1, 1) := by decide +kernel
theorem dX8_coat_6 : decode cX8_coat 6 = .ok (.ifCond .lt 11, 3) := by decide +kernel
theorem dX8_coat_9 : decode cX8_coat 9 = .ok (.iload_n 1, 1) := by decide +kernel
theorem dX8_coat_10 : decode cX8_coat 10 = .ok (.aload_n 0, 1) := by decide +kernel
theorem dX8_coat_11 : decode cX8_coat 11 = .ok (.getfield 210, 3) := by decide +kernel
theorem dX8_coat_14 : decode cX8_coat 14 = .ok (.if_icmp .lt 5, 3) := by decide +kernel
theorem dX8_coat_17 : decode cX8_coat 17 = .ok (.iconst (-1), 1) := by decide +kernel
theorem dX8_coat_18 : decode cX8_coat 18 = .ok (.ireturn, 1) := by decide +kernel
theorem dX8_coat_19 : decode cX8_coat 19 = .ok (.iload_n 2, 1) := by decide +kernel
theorem dX8_coat_20 : decode cX8_coat 20 = .ok (.ifCond .ne 12, 3) := by decide +kernel
theorem dX8_coat_23 : decode cX8_coat 23 = .ok (.aload_n 0, 1) := by decide +kernel
theorem dX8_coat_24 : decode cX8_coat 24 = .ok (.getfield 62, 3) := by decide +kernel
theorem dX8_coat_27 : decode cX8_coat 27 = .ok (.iload_n 1, 1) := by decide +kernel
theorem dX8_coat_28 : decode cX8_coat 28 = .ok (.iaload, 1) := by decide +kernel
theorem dX8_coat_29 : decode cX8_coat 29 = .ok (.goto 54, 3) := by decide +kernel
theorem dX8_coat_32 : decode cX8_coat 32 = .ok (.iload_n 2, 1) := by decide +kernel
theorem dX8_coat_33 : decode cX8_coat 33 = .ok (.iconst 1, 1) := by decide +kernel
theorem dX8_coat_34 : decode cX8_coat 34 = .ok (.if_icmp .ne 12, 3) := by decide +kernel
theorem dX8_coat_37 : decode cX8_coat 37 = .ok (.aload_n 0, 1) := by decide +kernel
theorem dX8_coat_38 : decode cX8_coat 38 = .ok (.getfield 65, 3) := by decide +kernel
theorem dX8_coat_41 : decode cX8_coat 41 = .ok (.iload_n 1, 1) := by decide +kernel
theorem dX8_coat_42 : decode cX8_coat 42 = .ok (.iaload, 1) := by decide +kernel
theorem dX8_coat_43 : decode cX8_coat 43 = .ok (.goto 40, 3) := by decide +kernel
theorem dX8_coat_46 : decode cX8_coat 46 = .ok (.iload_n 2, 1) := by decide +kernel
theorem dX8_coat_47 : decode cX8_coat 47 = .ok (.iconst 2, 1) := by decide +kernel
theorem dX8_coat_48 : decode cX8_coat 48 = .ok (.if_icmp .ne 20, 3) := by decide +kernel
theorem dX8_coat_51 : decode cX8_coat 51 = .ok (.aload_n 0, 1) := by decide +kernel
theorem dX8_coat_52 : decode cX8_coat 52 = .ok (.getfield 68, 3) := by decide +kernel
theorem dX8_coat_55 : decode cX8_coat 55 = .ok (.iload_n 1, 1) := by decide +kernel
theorem dX8_coat_56 : decode cX8_coat 56 = .ok (.baload, 1) := by decide +kernel
theorem dX8_coat_57 : decode cX8_coat 57 = .ok (.ifCond .eq 7, 3) := by decide +kernel
theorem dX8_coat_60 : decode cX8_coat 60 = .ok (.iconst 1, 1) := by decide +kernel
theorem dX8_coat_61 : decode cX8_coat 61 = .ok (.goto 22, 3) := by decide +kernel
theorem dX8_coat_64 : decode cX8_coat 64 = .ok (.iconst 0, 1) := by decide +kernel
theorem dX8_coat_65 : decode cX8_coat 65 = .ok (.goto 18, 3) := by decide +kernel
theorem dX8_coat_68 : decode cX8_coat 68 = .ok (.iload_n 2, 1) := by decide +kernel
theorem dX8_coat_69 : decode cX8_coat 69 = .ok (.iconst 3, 1) := by decide +kernel
theorem dX8_coat_70 : decode cX8_coat 70 = .ok (.if_icmp .ne 12, 3) := by decide +kernel
theorem dX8_coat_73 : decode cX8_coat 73 = .ok (.aload_n 0, 1) := by decide +kernel
theorem dX8_coat_74 : decode cX8_coat 74 = .ok (.getfield 72, 3) := by decide +kernel
theorem dX8_coat_77 : decode cX8_coat 77 = .ok (.iload_n 1, 1) := by decide +kernel
theorem dX8_coat_78 : decode cX8_coat 78 = .ok (.iaload, 1) := by decide +kernel
theorem dX8_coat_79 : decode cX8_coat 79 = .ok (.goto 4, 3) := by decide +kernel
theorem dX8_coat_82 : decode cX8_coat 82 = .ok (.iconst (-1), 1) := by decide +kernel
theorem dX8_coat_83 : decode cX8_coat 83 = .ok (.ireturn, 1) := by decide +kernel
theorem dX8_count_0 : decode cX8_count 0 = .ok (.aload_n 0, 1) := by decide +kernel
theorem dX8_count_1 : decode cX8_count 1 = .ok (.iconst 0, 1) := by decide +kernel
theorem dX8_count_2 : decode cX8_count 2 = .ok (.putfield 112, 3) := by decide +kernel
theorem dX8_count_5 : decode cX8_count 5 = .ok (.iload_n 1, 1) := by decide +kernel
theorem dX8_count_6 : decode cX8_count 6 = .ok (.tableswitch 91 0 7 #[46, 51, 56, 61, 66, 71, 76, 86], 46) := by decide +kernel
theorem dX8_count_52 : decode cX8_count 52 = .ok (.aload_n 0, 1) := by decide +kernel
theorem dX8_count_53 : decode cX8_count 53 = .ok (.getfield 177, 3) := by decide +kernel
theorem dX8_count_56 : decode cX8_count 56 = .ok (.ireturn, 1) := by decide +kernel
theorem dX8_count_57 : decode cX8_count 57 = .ok (.aload_n 0, 1) := by decide +kernel
theorem dX8_count_58 : decode cX8_count 58 = .ok (.getfield 180, 3) := by decide +kernel
theorem dX8_count_61 : decode cX8_count 61 = .ok (.ireturn, 1) := by decide +kernel
theorem dX8_count_62 : decode cX8_count 62 = .ok (.aload_n 0, 1) := by decide +kernel
theorem dX8_count_63 : decode cX8_count 63 = .ok (.invokevirtual 200, 3) := by decide +kernel
theorem dX8_count_66 : decode cX8_count 66 = .ok (.ireturn, 1) := by decide +kernel
theorem dX8_count_67 : decode cX8_count 67 = .ok (.aload_n 0, 1) := by decide +kernel
theorem dX8_count_68 : decode cX8_count 68 = .ok (.getfield 210, 3) := by decide +kernel
theorem dX8_count_71 : decode cX8_count 71 = .ok (.ireturn, 1) := by decide +kernel
theorem dX8_count_72 : decode cX8_count 72 = .ok (.aload_n 0, 1) := by decide +kernel
theorem dX8_count_73 : decode cX8_count 73 = .ok (.getfield 229, 3) := by decide +kernel
theorem dX8_count_76 : decode cX8_count 76 = .ok (.ireturn, 1) := by decide +kernel
theorem dX8_count_77 : decode cX8_count 77 = .ok (.aload_n 0, 1) := by decide +kernel
theorem dX8_count_78 : decode cX8_count 78 = .ok (.getfield 190, 3) := by decide +kernel
theorem dX8_count_81 : decode cX8_count 81 = .ok (.ireturn, 1) := by decide +kernel
theorem dX8_count_82 : decode cX8_count 82 = .ok (.aload_n 0, 1) := by decide +kernel
theorem dX8_count_83 : decode cX8_count 83 = .ok (.getfield 13, 3) := by decide +kernel
theorem dX8_count_86 : decode cX8_count 86 = .ok (.aload_n 0, 1) := by decide +kernel
theorem dX8_count_87 : decode cX8_count 87 = .ok (.getfield 174, 3) := by decide +kernel
theorem dX8_count_90 : decode cX8_count 90 = .ok (.iaload, 1) := by decide +kernel
theorem dX8_count_91 : decode cX8_count 91 = .ok (.ireturn, 1) := by decide +kernel
theorem dX8_count_92 : decode cX8_count 92 = .ok (.aload_n 0, 1) := by decide +kernel
theorem dX8_count_93 : decode cX8_count 93 = .ok (.getfield 207, 3) := by decide +kernel
theorem dX8_count_96 : decode cX8_count 96 = .ok (.ireturn, 1) := by decide +kernel
theorem dX8_count_97 : decode cX8_count 97 = .ok (.iconst (-1), 1) := by decide +kernel
theorem dX8_count_98 : decode cX8_count 98 = .ok (.ireturn, 1) := by decide +kernel
