theorem d_Law_law_0 : decode code 0 = .ok (.new 7, 3) := by decide +kernel
theorem d_Law_law_3 : decode code 3 = .ok (.dup, 1) := by decide +kernel
theorem d_Law_law_4 : decode code 4 = .ok (.invokespecial 9, 3) := by decide +kernel
theorem d_Law_law_7 : decode code 7 = .ok (.astore_n 1, 1) := by decide +kernel
theorem d_Law_law_8 : decode code 8 = .ok (.new 10, 3) := by decide +kernel
theorem d_Law_law_11 : decode code 11 = .ok (.dup, 1) := by decide +kernel
theorem d_Law_law_12 : decode code 12 = .ok (.invokespecial 12, 3) := by decide +kernel
theorem d_Law_law_15 : decode code 15 = .ok (.astore_n 2, 1) := by decide +kernel
theorem d_Law_law_16 : decode code 16 = .ok (.iconst 0, 1) := by decide +kernel
theorem d_Law_law_17 : decode code 17 = .ok (.istore_n 3, 1) := by decide +kernel
theorem d_Law_law_18 : decode code 18 = .ok (.iload_n 3, 1) := by decide +kernel
theorem d_Law_law_19 : decode code 19 = .ok (.aload_n 0, 1) := by decide +kernel
theorem d_Law_law_20 : decode code 20 = .ok (.arraylength, 1) := by decide +kernel
theorem d_Law_law_21 : decode code 21 = .ok (.iconst 5, 1) := by decide +kernel
theorem d_Law_law_22 : decode code 22 = .ok (.isub, 1) := by decide +kernel
theorem d_Law_law_23 : decode code 23 = .ok (.if_icmp .gt 775, 3) := by decide +kernel
theorem d_Law_law_26 : decode code 26 = .ok (.aload_n 0, 1) := by decide +kernel
theorem d_Law_law_27 : decode code 27 = .ok (.iload_n 3, 1) := by decide +kernel
theorem d_Law_law_28 : decode code 28 = .ok (.iaload, 1) := by decide +kernel
theorem d_Law_law_29 : decode code 29 = .ok (.bipush 31, 2) := by decide +kernel
theorem d_Law_law_31 : decode code 31 = .ok (.iand, 1) := by decide +kernel
theorem d_Law_law_32 : decode code 32 = .ok (.tableswitch 760 0 19 #[96, 155, 178, 241, 294, 347, 370, 383, 406, 449, 482, 515, 558, 591, 614, 657, 680, 703, 726, 737], 96) := by decide +kernel
theorem d_Law_law_128 : decode code 128 = .ok (.aload_n 1, 1) := by decide +kernel
theorem d_Law_law_129 : decode code 129 = .ok (.aload_n 0, 1) := by decide +kernel
theorem d_Law_law_130 : decode code 130 = .ok (.iload_n 3, 1) := by decide +kernel
theorem d_Law_law_131 : decode code 131 = .ok (.iconst 1, 1) := by decide +kernel
theorem d_Law_law_132 : decode code 132 = .ok (.iadd, 1) := by decide +kernel
theorem d_Law_law_133 : decode code 133 = .ok (.iaload, 1) := by decide +kernel
theorem d_Law_law_134 : decode code 134 = .ok (.aload_n 0, 1) := by decide +kernel
theorem d_Law_law_135 : decode code 135 = .ok (.iload_n 3, 1) := by decide +kernel
theorem d_Law_law_136 : decode code 136 = .ok (.iconst 2, 1) := by decide +kernel
theorem d_Law_law_137 : decode code 137 = .ok (.iadd, 1) := by decide +kernel
theorem d_Law_law_138 : decode code 138 = .ok (.iaload, 1) := by decide +kernel
theorem d_Law_law_139 : decode code 139 = .ok (.ifCond .eq 7, 3) := by decide +kernel
theorem d_Law_law_142 : decode code 142 = .ok (.iconst 1, 1) := by decide +kernel
theorem d_Law_law_143 : decode code 143 = .ok (.goto 4, 3) := by decide +kernel
theorem d_Law_law_146 : decode code 146 = .ok (.iconst 0, 1) := by decide +kernel
theorem d_Law_law_147 : decode code 147 = .ok (.aload_n 0, 1) := by decide +kernel
theorem d_Law_law_148 : decode code 148 = .ok (.iload_n 3, 1) := by decide +kernel
theorem d_Law_law_149 : decode code 149 = .ok (.iconst 3, 1) := by decide +kernel
theorem d_Law_law_150 : decode code 150 = .ok (.iadd, 1) := by decide +kernel
theorem d_Law_law_151 : decode code 151 = .ok (.iaload, 1) := by decide +kernel
theorem d_Law_law_152 : decode code 152 = .ok (.invokevirtual 13, 3) := by decide +kernel
theorem d_Law_law_155 : decode code 155 = .ok (.aload_n 2, 1) := by decide +kernel
theorem d_Law_law_156 : decode code 156 = .ok (.aload_n 0, 1) := by decide +kernel
theorem d_Law_law_157 : decode code 157 = .ok (.iload_n 3, 1) := by decide +kernel
theorem d_Law_law_158 : decode code 158 = .ok (.iconst 1, 1) := by decide +kernel
theorem d_Law_law_159 : decode code 159 = .ok (.iadd, 1) := by decide +kernel
theorem d_Law_law_160 : decode code 160 = .ok (.iaload, 1) := by decide +kernel
theorem d_Law_law_161 : decode code 161 = .ok (.aload_n 0, 1) := by decide +kernel
theorem d_Law_law_162 : decode code 162 = .ok (.iload_n 3, 1) := by decide +kernel
theorem d_Law_law_163 : decode code 163 = .ok (.iconst 2, 1) := by decide +kernel
theorem d_Law_law_164 : decode code 164 = .ok (.iadd, 1) := by decide +kernel
theorem d_Law_law_165 : decode code 165 = .ok (.iaload, 1) := by decide +kernel
theorem d_Law_law_166 : decode code 166 = .ok (.ifCond .eq 7, 3) := by decide +kernel
theorem d_Law_law_169 : decode code 169 = .ok (.iconst 1, 1) := by decide +kernel
theorem d_Law_law_170 : decode code 170 = .ok (.goto 4, 3) := by decide +kernel
theorem d_Law_law_173 : decode code 173 = .ok (.iconst 0, 1) := by decide +kernel
theorem d_Law_law_174 : decode code 174 = .ok (.aload_n 0, 1) := by decide +kernel
theorem d_Law_law_175 : decode code 175 = .ok (.iload_n 3, 1) := by decide +kernel
theorem d_Law_law_176 : decode code 176 = .ok (.iconst 3, 1) := by decide +kernel
theorem d_Law_law_177 : decode code 177 = .ok (.iadd, 1) := by decide +kernel
theorem d_Law_law_178 : decode code 178 = .ok (.iaload, 1) := by decide +kernel
theorem d_Law_law_179 : decode code 179 = .ok (.invokevirtual 17, 3) := by decide +kernel
theorem d_Law_law_182 : decode code 182 = .ok (.if_icmp .eq 610, 3) := by decide +kernel
theorem d_Law_law_185 : decode code 185 = .ok (.iconst 0, 1) := by decide +kernel
theorem d_Law_law_186 : decode code 186 = .ok (.ireturn, 1) := by decide +kernel
theorem d_Law_law_187 : decode code 187 = .ok (.aload_n 1, 1) := by decide +kernel
theorem d_Law_law_188 : decode code 188 = .ok (.aload_n 0, 1) := by decide +kernel
theorem d_Law_law_189 : decode code 189 = .ok (.iload_n 3, 1) := by decide +kernel
theorem d_Law_law_190 : decode code 190 = .ok (.iconst 1, 1) := by decide +kernel
theorem d_Law_law_191 : decode code 191 = .ok (.iadd, 1) := by decide +kernel
theorem d_Law_law_192 : decode code 192 = .ok (.iaload, 1) := by decide +kernel
theorem d_Law_law_193 : decode code 193 = .ok (.invokevirtual 18, 3) := by decide +kernel
theorem d_Law_law_196 : decode code 196 = .ok (.aload_n 2, 1) := by decide +kernel
theorem d_Law_law_197 : decode code 197 = .ok (.aload_n 0, 1) := by decide +kernel
theorem d_Law_law_198 : decode code 198 = .ok (.iload_n 3, 1) := by decide +kernel
theorem d_Law_law_199 : decode code 199 = .ok (.iconst 1, 1) := by decide +kernel
theorem d_Law_law_200 : decode code 200 = .ok (.iadd, 1) := by decide +kernel
theorem d_Law_law_201 : decode code 201 = .ok (.iaload, 1) := by decide +kernel
theorem d_Law_law_202 : decode code 202 = .ok (.invokevirtual 22, 3) := by decide +kernel
theorem d_Law_law_205 : decode code 205 = .ok (.if_icmp .eq 587, 3) := by decide +kernel
theorem d_Law_law_208 : decode code 208 = .ok (.iconst 0, 1) := by decide +kernel
theorem d_Law_law_209 : decode code 209 = .ok (.ireturn, 1) := by decide +kernel
theorem d_Law_law_210 : decode code 210 = .ok (.aload_n 1, 1) := by decide +kernel
theorem d_Law_law_211 : decode code 211 = .ok (.aload_n 0, 1) := by decide +kernel
theorem d_Law_law_212 : decode code 212 = .ok (.iload_n 3, 1) := by decide +kernel
theorem d_Law_law_213 : decode code 213 = .ok (.iconst 1, 1) := by decide +kernel
theorem d_Law_law_214 : decode code 214 = .ok (.iadd, 1) := by decide +kernel
theorem d_Law_law_215 : decode code 215 = .ok (.iaload, 1) := by decide +kernel
theorem d_Law_law_216 : decode code 216 = .ok (.aload_n 0, 1) := by decide +kernel
theorem d_Law_law_217 : decode code 217 = .ok (.iload_n 3, 1) := by decide +kernel
theorem d_Law_law_218 : decode code 218 = .ok (.iconst 2, 1) := by decide +kernel
theorem d_Law_law_219 : decode code 219 = .ok (.iadd, 1) := by decide +kernel
theorem d_Law_law_220 : decode code 220 = .ok (.iaload, 1) := by decide +kernel
theorem d_Law_law_221 : decode code 221 = .ok (.i2l, 1) := by decide +kernel
theorem d_Law_law_222 : decode code 222 = .ok (.bipush 32, 2) := by decide +kernel
theorem d_Law_law_224 : decode code 224 = .ok (.lshl, 1) := by decide +kernel
theorem d_Law_law_225 : decode code 225 = .ok (.aload_n 0, 1) := by decide +kernel
theorem d_Law_law_226 : decode code 226 = .ok (.iload_n 3, 1) := by decide +kernel
theorem d_Law_law_227 : decode code 227 = .ok (.iconst 3, 1) := by decide +kernel
theorem d_Law_law_228 : decode code 228 = .ok (.iadd, 1) := by decide +kernel
theorem d_Law_law_229 : decode code 229 = .ok (.iaload, 1) := by decide +kernel
theorem d_Law_law_230 : decode code 230 = .ok (.i2l, 1) := by decide +kernel
theorem d_Law_law_231 : decode code 231 = .ok (.ldc2_w 23, 3) := by decide +kernel
theorem d_Law_law_234 : decode code 234 = .ok (.land, 1) := by decide +kernel
theorem d_Law_law_235 : decode code 235 = .ok (.lor, 1) := by decide +kernel
theorem d_Law_law_236 : decode code 236 = .ok (.invokevirtual 25, 3) := by decide +kernel
theorem d_Law_law_239 : decode code 239 = .ok (.aload_n 2, 1) := by decide +kernel
theorem d_Law_law_240 : decode code 240 = .ok (.aload_n 0, 1) := by decide +kernel
theorem d_Law_law_241 : decode code 241 = .ok (.iload_n 3, 1) := by decide +kernel
theorem d_Law_law_242 : decode code 242 = .ok (.iconst 1, 1) := by decide +kernel
theorem d_Law_law_243 : decode code 243 = .ok (.iadd, 1) := by decide +kernel
theorem d_Law_law_244 : decode code 244 = .ok (.iaload, 1) := by decide +kernel
theorem d_Law_law_245 : decode code 245 = .ok (.aload_n 0, 1) := by decide +kernel
theorem d_Law_law_246 : decode code 246 = .ok (.iload_n 3, 1) := by decide +kernel
theorem d_Law_law_247 : decode code 247 = .ok (.iconst 2, 1) := by decide +kernel
theorem d_Law_law_248 : decode code 248 = .ok (.iadd, 1) := by decide +kernel
theorem d_Law_law_249 : decode code 249 = .ok (.iaload, 1) := by decide +kernel
theorem d_Law_law_250 : decode code 250 = .ok (.i2l, 1) := by decide +kernel
theorem d_Law_law_251 : decode code 251 = .ok (.bipush 32, 2) := by decide +kernel
theorem d_Law_law_253 : decode code 253 = .ok (.lshl, 1) := by decide +kernel
theorem d_Law_law_254 : decode code 254 = .ok (.aload_n 0, 1) := by decide +kernel
theorem d_Law_law_255 : decode code 255 = .ok (.iload_n 3, 1) := by decide +kernel
theorem d_Law_law_256 : decode code 256 = .ok (.iconst 3, 1) := by decide +kernel
theorem d_Law_law_257 : decode code 257 = .ok (.iadd, 1) := by decide +kernel
theorem d_Law_law_258 : decode code 258 = .ok (.iaload, 1) := by decide +kernel
theorem d_Law_law_259 : decode code 259 = .ok (.i2l, 1) := by decide +kernel
theorem d_Law_law_260 : decode code 260 = .ok (.ldc2_w 23, 3) := by decide +kernel
theorem d_Law_law_263 : decode code 263 = .ok (.land, 1) := by decide +kernel
theorem d_Law_law_264 : decode code 264 = .ok (.lor, 1) := by decide +kernel
theorem d_Law_law_265 : decode code 265 = .ok (.invokevirtual 29, 3) := by decide +kernel
theorem d_Law_law_268 : decode code 268 = .ok (.if_icmp .eq 524, 3) := by decide +kernel
theorem d_Law_law_271 : decode code 271 = .ok (.iconst 0, 1) := by decide +kernel
theorem d_Law_law_272 : decode code 272 = .ok (.ireturn, 1) := by decide +kernel
theorem d_Law_law_273 : decode code 273 = .ok (.aload_n 1, 1) := by decide +kernel
theorem d_Law_law_274 : decode code 274 = .ok (.aload_n 0, 1) := by decide +kernel
theorem d_Law_law_275 : decode code 275 = .ok (.iload_n 3, 1) := by decide +kernel
theorem d_Law_law_276 : decode code 276 = .ok (.iconst 1, 1) := by decide +kernel
theorem d_Law_law_277 : decode code 277 = .ok (.iadd, 1) := by decide +kernel
theorem d_Law_law_278 : decode code 278 = .ok (.iaload, 1) := by decide +kernel
theorem d_Law_law_279 : decode code 279 = .ok (.aload_n 0, 1) := by decide +kernel
theorem d_Law_law_280 : decode code 280 = .ok (.iload_n 3, 1) := by decide +kernel
theorem d_Law_law_281 : decode code 281 = .ok (.iconst 2, 1) := by decide +kernel
theorem d_Law_law_282 : decode code 282 = .ok (.iadd, 1) := by decide +kernel
theorem d_Law_law_283 : decode code 283 = .ok (.iaload, 1) := by decide +kernel
theorem d_Law_law_284 : decode code 284 = .ok (.aload_n 0, 1) := by decide +kernel
theorem d_Law_law_285 : decode code 285 = .ok (.iload_n 3, 1) := by decide +kernel
theorem d_Law_law_286 : decode code 286 = .ok (.iconst 3, 1) := by decide +kernel
theorem d_Law_law_287 : decode code 287 = .ok (.iadd, 1) := by decide +kernel
theorem d_Law_law_288 : decode code 288 = .ok (.iaload, 1) := by decide +kernel
theorem d_Law_law_289 : decode code 289 = .ok (.aload_n 0, 1) := by decide +kernel
theorem d_Law_law_290 : decode code 290 = .ok (.iload_n 3, 1) := by decide +kernel
theorem d_Law_law_291 : decode code 291 = .ok (.iconst 4, 1) := by decide +kernel
theorem d_Law_law_292 : decode code 292 = .ok (.iadd, 1) := by decide +kernel
theorem d_Law_law_293 : decode code 293 = .ok (.iaload, 1) := by decide +kernel
theorem d_Law_law_294 : decode code 294 = .ok (.invokevirtual 30, 3) := by decide +kernel
theorem d_Law_law_297 : decode code 297 = .ok (.aload_n 2, 1) := by decide +kernel
theorem d_Law_law_298 : decode code 298 = .ok (.aload_n 0, 1) := by decide +kernel
theorem d_Law_law_299 : decode code 299 = .ok (.iload_n 3, 1) := by decide +kernel
theorem d_Law_law_300 : decode code 300 = .ok (.iconst 1, 1) := by decide +kernel
theorem d_Law_law_301 : decode code 301 = .ok (.iadd, 1) := by decide +kernel
theorem d_Law_law_302 : decode code 302 = .ok (.iaload, 1) := by decide +kernel
theorem d_Law_law_303 : decode code 303 = .ok (.aload_n 0, 1) := by decide +kernel
theorem d_Law_law_304 : decode code 304 = .ok (.iload_n 3, 1) := by decide +kernel
theorem d_Law_law_305 : decode code 305 = .ok (.iconst 2, 1) := by decide +kernel
theorem d_Law_law_306 : decode code 306 = .ok (.iadd, 1) := by decide +kernel
theorem d_Law_law_307 : decode code 307 = .ok (.iaload, 1) := by decide +kernel
theorem d_Law_law_308 : decode code 308 = .ok (.aload_n 0, 1) := by decide +kernel
theorem d_Law_law_309 : decode code 309 = .ok (.iload_n 3, 1) := by decide +kernel
theorem d_Law_law_310 : decode code 310 = .ok (.iconst 3, 1) := by decide +kernel
theorem d_Law_law_311 : decode code 311 = .ok (.iadd, 1) := by decide +kernel
theorem d_Law_law_312 : decode code 312 = .ok (.iaload, 1) := by decide +kernel
theorem d_Law_law_313 : decode code 313 = .ok (.aload_n 0, 1) := by decide +kernel
theorem d_Law_law_314 : decode code 314 = .ok (.iload_n 3, 1) := by decide +kernel
theorem d_Law_law_315 : decode code 315 = .ok (.iconst 4, 1) := by decide +kernel
theorem d_Law_law_316 : decode code 316 = .ok (.iadd, 1) := by decide +kernel
theorem d_Law_law_317 : decode code 317 = .ok (.iaload, 1) := by decide +kernel
theorem d_Law_law_318 : decode code 318 = .ok (.invokevirtual 34, 3) := by decide +kernel
theorem d_Law_law_321 : decode code 321 = .ok (.if_icmp .eq 471, 3) := by decide +kernel
theorem d_Law_law_324 : decode code 324 = .ok (.iconst 0, 1) := by decide +kernel
theorem d_Law_law_325 : decode code 325 = .ok (.ireturn, 1) := by decide +kernel
theorem d_Law_law_326 : decode code 326 = .ok (.aload_n 1, 1) := by decide +kernel
theorem d_Law_law_327 : decode code 327 = .ok (.aload_n 0, 1) := by decide +kernel
theorem d_Law_law_328 : decode code 328 = .ok (.iload_n 3, 1) := by decide +kernel
theorem d_Law_law_329 : decode code 329 = .ok (.iconst 1, 1) := by decide +kernel
theorem d_Law_law_330 : decode code 330 = .ok (.iadd, 1) := by decide +kernel
theorem d_Law_law_331 : decode code 331 = .ok (.iaload, 1) := by decide +kernel
theorem d_Law_law_332 : decode code 332 = .ok (.aload_n 0, 1) := by decide +kernel
theorem d_Law_law_333 : decode code 333 = .ok (.iload_n 3, 1) := by decide +kernel
theorem d_Law_law_334 : decode code 334 = .ok (.iconst 2, 1) := by decide +kernel
theorem d_Law_law_335 : decode code 335 = .ok (.iadd, 1) := by decide +kernel
theorem d_Law_law_336 : decode code 336 = .ok (.iaload, 1) := by decide +kernel
theorem d_Law_law_337 : decode code 337 = .ok (.aload_n 0, 1) := by decide +kernel
theorem d_Law_law_338 : decode code 338 = .ok (.iload_n 3, 1) := by decide +kernel
theorem d_Law_law_339 : decode code 339 = .ok (.iconst 3, 1) := by decide +kernel
theorem d_Law_law_340 : decode code 340 = .ok (.iadd, 1) := by decide +kernel
theorem d_Law_law_341 : decode code 341 = .ok (.iaload, 1) := by decide +kernel
theorem d_Law_law_342 : decode code 342 = .ok (.aload_n 0, 1) := by decide +kernel
theorem d_Law_law_343 : decode code 343 = .ok (.iload_n 3, 1) := by decide +kernel
theorem d_Law_law_344 : decode code 344 = .ok (.iconst 4, 1) := by decide +kernel
theorem d_Law_law_345 : decode code 345 = .ok (.iadd, 1) := by decide +kernel
theorem d_Law_law_346 : decode code 346 = .ok (.iaload, 1) := by decide +kernel
theorem d_Law_law_347 : decode code 347 = .ok (.invokevirtual 35, 3) := by decide +kernel
theorem d_Law_law_350 : decode code 350 = .ok (.aload_n 2, 1) := by decide +kernel
theorem d_Law_law_351 : decode code 351 = .ok (.aload_n 0, 1) := by decide +kernel
theorem d_Law_law_352 : decode code 352 = .ok (.iload_n 3, 1) := by decide +kernel
theorem d_Law_law_353 : decode code 353 = .ok (.iconst 1, 1) := by decide +kernel
theorem d_Law_law_354 : decode code 354 = .ok (.iadd, 1) := by decide +kernel
theorem d_Law_law_355 : decode code 355 = .ok (.iaload, 1) := by decide +kernel
theorem d_Law_law_356 : decode code 356 = .ok (.aload_n 0, 1) := by decide +kernel
theorem d_Law_law_357 : decode code 357 = .ok (.iload_n 3, 1) := by decide +kernel
theorem d_Law_law_358 : decode code 358 = .ok (.iconst 2, 1) := by decide +kernel
theorem d_Law_law_359 : decode code 359 = .ok (.iadd, 1) := by decide +kernel
theorem d_Law_law_360 : decode code 360 = .ok (.iaload, 1) := by decide +kernel
theorem d_Law_law_361 : decode code 361 = .ok (.aload_n 0, 1) := by decide +kernel
theorem d_Law_law_362 : decode code 362 = .ok (.iload_n 3, 1) := by decide +kernel
theorem d_Law_law_363 : decode code 363 = .ok (.iconst 3, 1) := by decide +kernel
theorem d_Law_law_364 : decode code 364 = .ok (.iadd, 1) := by decide +kernel
theorem d_Law_law_365 : decode code 365 = .ok (.iaload, 1) := by decide +kernel
theorem d_Law_law_366 : decode code 366 = .ok (.aload_n 0, 1) := by decide +kernel
theorem d_Law_law_367 : decode code 367 = .ok (.iload_n 3, 1) := by decide +kernel
theorem d_Law_law_368 : decode code 368 = .ok (.iconst 4, 1) := by decide +kernel
theorem d_Law_law_369 : decode code 369 = .ok (.iadd, 1) := by decide +kernel
theorem d_Law_law_370 : decode code 370 = .ok (.iaload, 1) := by decide +kernel
theorem d_Law_law_371 : decode code 371 = .ok (.invokevirtual 38, 3) := by decide +kernel
theorem d_Law_law_374 : decode code 374 = .ok (.if_icmp .eq 418, 3) := by decide +kernel
theorem d_Law_law_377 : decode code 377 = .ok (.iconst 0, 1) := by decide +kernel
theorem d_Law_law_378 : decode code 378 = .ok (.ireturn, 1) := by decide +kernel
theorem d_Law_law_379 : decode code 379 = .ok (.aload_n 1, 1) := by decide +kernel
theorem d_Law_law_380 : decode code 380 = .ok (.aload_n 0, 1) := by decide +kernel
theorem d_Law_law_381 : decode code 381 = .ok (.iload_n 3, 1) := by decide +kernel
theorem d_Law_law_382 : decode code 382 = .ok (.iconst 1, 1) := by decide +kernel
theorem d_Law_law_383 : decode code 383 = .ok (.iadd, 1) := by decide +kernel
theorem d_Law_law_384 : decode code 384 = .ok (.iaload, 1) := by decide +kernel
theorem d_Law_law_385 : decode code 385 = .ok (.invokevirtual 39, 3) := by decide +kernel
theorem d_Law_law_388 : decode code 388 = .ok (.aload_n 2, 1) := by decide +kernel
theorem d_Law_law_389 : decode code 389 = .ok (.aload_n 0, 1) := by decide +kernel
theorem d_Law_law_390 : decode code 390 = .ok (.iload_n 3, 1) := by decide +kernel
theorem d_Law_law_391 : decode code 391 = .ok (.iconst 1, 1) := by decide +kernel
theorem d_Law_law_392 : decode code 392 = .ok (.iadd, 1) := by decide +kernel
theorem d_Law_law_393 : decode code 393 = .ok (.iaload, 1) := by decide +kernel
theorem d_Law_law_394 : decode code 394 = .ok (.invokevirtual 42, 3) := by decide +kernel
theorem d_Law_law_397 : decode code 397 = .ok (.if_icmp .eq 395, 3) := by decide +kernel
theorem d_Law_law_400 : decode code 400 = .ok (.iconst 0, 1) := by decide +kernel
theorem d_Law_law_401 : decode code 401 = .ok (.ireturn, 1) := by decide +kernel
theorem d_Law_law_402 : decode code 402 = .ok (.aload_n 1, 1) := by decide +kernel
theorem d_Law_law_403 : decode code 403 = .ok (.invokevirtual 43, 3) := by decide +kernel
theorem d_Law_law_406 : decode code 406 = .ok (.aload_n 2, 1) := by decide +kernel
theorem d_Law_law_407 : decode code 407 = .ok (.invokevirtual 47, 3) := by decide +kernel
theorem d_Law_law_410 : decode code 410 = .ok (.if_icmp .eq 382, 3) := by decide +kernel
theorem d_Law_law_413 : decode code 413 = .ok (.iconst 0, 1) := by decide +kernel
theorem d_Law_law_414 : decode code 414 = .ok (.ireturn, 1) := by decide +kernel
theorem d_Law_law_415 : decode code 415 = .ok (.aload_n 1, 1) := by decide +kernel
theorem d_Law_law_416 : decode code 416 = .ok (.aload_n 0, 1) := by decide +kernel
theorem d_Law_law_417 : decode code 417 = .ok (.iload_n 3, 1) := by decide +kernel
theorem d_Law_law_418 : decode code 418 = .ok (.iconst 1, 1) := by decide +kernel
theorem d_Law_law_419 : decode code 419 = .ok (.iadd, 1) := by decide +kernel
theorem d_Law_law_420 : decode code 420 = .ok (.iaload, 1) := by decide +kernel
theorem d_Law_law_421 : decode code 421 = .ok (.invokevirtual 48, 3) := by decide +kernel
theorem d_Law_law_424 : decode code 424 = .ok (.aload_n 2, 1) := by decide +kernel
theorem d_Law_law_425 : decode code 425 = .ok (.aload_n 0, 1) := by decide +kernel
theorem d_Law_law_426 : decode code 426 = .ok (.iload_n 3, 1) := by decide +kernel
theorem d_Law_law_427 : decode code 427 = .ok (.iconst 1, 1) := by decide +kernel
theorem d_Law_law_428 : decode code 428 = .ok (.iadd, 1) := by decide +kernel
theorem d_Law_law_429 : decode code 429 = .ok (.iaload, 1) := by decide +kernel
theorem d_Law_law_430 : decode code 430 = .ok (.invokevirtual 52, 3) := by decide +kernel
theorem d_Law_law_433 : decode code 433 = .ok (.if_icmp .eq 359, 3) := by decide +kernel
theorem d_Law_law_436 : decode code 436 = .ok (.iconst 0, 1) := by decide +kernel
theorem d_Law_law_437 : decode code 437 = .ok (.ireturn, 1) := by decide +kernel
theorem d_Law_law_438 : decode code 438 = .ok (.aload_n 1, 1) := by decide +kernel
theorem d_Law_law_439 : decode code 439 = .ok (.aload_n 0, 1) := by decide +kernel
theorem d_Law_law_440 : decode code 440 = .ok (.iload_n 3, 1) := by decide +kernel
theorem d_Law_law_441 : decode code 441 = .ok (.iconst 1, 1) := by decide +kernel
theorem d_Law_law_442 : decode code 442 = .ok (.iadd, 1) := by decide +kernel
theorem d_Law_law_443 : decode code 443 = .ok (.iaload, 1) := by decide +kernel
theorem d_Law_law_444 : decode code 444 = .ok (.aload_n 0, 1) := by decide +kernel
theorem d_Law_law_445 : decode code 445 = .ok (.iload_n 3, 1) := by decide +kernel
theorem d_Law_law_446 : decode code 446 = .ok (.iconst 2, 1) := by decide +kernel
theorem d_Law_law_447 : decode code 447 = .ok (.iadd, 1) := by decide +kernel
theorem d_Law_law_448 : decode code 448 = .ok (.iaload, 1) := by decide +kernel
theorem d_Law_law_449 : decode code 449 = .ok (.aload_n 0, 1) := by decide +kernel
theorem d_Law_law_450 : decode code 450 = .ok (.iload_n 3, 1) := by decide +kernel
theorem d_Law_law_451 : decode code 451 = .ok (.iconst 3, 1) := by decide +kernel
theorem d_Law_law_452 : decode code 452 = .ok (.iadd, 1) := by decide +kernel
theorem d_Law_law_453 : decode code 453 = .ok (.iaload, 1) := by decide +kernel
theorem d_Law_law_454 : decode code 454 = .ok (.invokevirtual 53, 3) := by decide +kernel
theorem d_Law_law_457 : decode code 457 = .ok (.aload_n 2, 1) := by decide +kernel
theorem d_Law_law_458 : decode code 458 = .ok (.aload_n 0, 1) := by decide +kernel
theorem d_Law_law_459 : decode code 459 = .ok (.iload_n 3, 1) := by decide +kernel
theorem d_Law_law_460 : decode code 460 = .ok (.iconst 1, 1) := by decide +kernel
theorem d_Law_law_461 : decode code 461 = .ok (.iadd, 1) := by decide +kernel
theorem d_Law_law_462 : decode code 462 = .ok (.iaload, 1) := by decide +kernel
theorem d_Law_law_463 : decode code 463 = .ok (.aload_n 0, 1) := by decide +kernel
theorem d_Law_law_464 : decode code 464 = .ok (.iload_n 3, 1) := by decide +kernel
theorem d_Law_law_465 : decode code 465 = .ok (.iconst 2, 1) := by decide +kernel
theorem d_Law_law_466 : decode code 466 = .ok (.iadd, 1) := by decide +kernel
theorem d_Law_law_467 : decode code 467 = .ok (.iaload, 1) := by decide +kernel
theorem d_Law_law_468 : decode code 468 = .ok (.aload_n 0, 1) := by decide +kernel
theorem d_Law_law_469 : decode code 469 = .ok (.iload_n 3, 1) := by decide +kernel
theorem d_Law_law_470 : decode code 470 = .ok (.iconst 3, 1) := by decide +kernel
theorem d_Law_law_471 : decode code 471 = .ok (.iadd, 1) := by decide +kernel
theorem d_Law_law_472 : decode code 472 = .ok (.iaload, 1) := by decide +kernel
theorem d_Law_law_473 : decode code 473 = .ok (.invokevirtual 57, 3) := by decide +kernel
theorem d_Law_law_476 : decode code 476 = .ok (.if_icmp .eq 316, 3) := by decide +kernel
theorem d_Law_law_479 : decode code 479 = .ok (.iconst 0, 1) := by decide +kernel
theorem d_Law_law_480 : decode code 480 = .ok (.ireturn, 1) := by decide +kernel
theorem d_Law_law_481 : decode code 481 = .ok (.aload_n 1, 1) := by decide +kernel
theorem d_Law_law_482 : decode code 482 = .ok (.aload_n 0, 1) := by decide +kernel
theorem d_Law_law_483 : decode code 483 = .ok (.iload_n 3, 1) := by decide +kernel
theorem d_Law_law_484 : decode code 484 = .ok (.iconst 1, 1) := by decide +kernel
theorem d_Law_law_485 : decode code 485 = .ok (.iadd, 1) := by decide +kernel
theorem d_Law_law_486 : decode code 486 = .ok (.iaload, 1) := by decide +kernel
theorem d_Law_law_487 : decode code 487 = .ok (.aload_n 0, 1) := by decide +kernel
theorem d_Law_law_488 : decode code 488 = .ok (.iload_n 3, 1) := by decide +kernel
theorem d_Law_law_489 : decode code 489 = .ok (.iconst 2, 1) := by decide +kernel
theorem d_Law_law_490 : decode code 490 = .ok (.iadd, 1) := by decide +kernel
theorem d_Law_law_491 : decode code 491 = .ok (.iaload, 1) := by decide +kernel
theorem d_Law_law_492 : decode code 492 = .ok (.invokevirtual 58, 3) := by decide +kernel
theorem d_Law_law_495 : decode code 495 = .ok (.aload_n 2, 1) := by decide +kernel
theorem d_Law_law_496 : decode code 496 = .ok (.aload_n 0, 1) := by decide +kernel
theorem d_Law_law_497 : decode code 497 = .ok (.iload_n 3, 1) := by decide +kernel
theorem d_Law_law_498 : decode code 498 = .ok (.iconst 1, 1) := by decide +kernel
theorem d_Law_law_499 : decode code 499 = .ok (.iadd, 1) := by decide +kernel
theorem d_Law_law_500 : decode code 500 = .ok (.iaload, 1) := by decide +kernel
theorem d_Law_law_501 : decode code 501 = .ok (.aload_n 0, 1) := by decide +kernel
theorem d_Law_law_502 : decode code 502 = .ok (.iload_n 3, 1) := by decide +kernel
theorem d_Law_law_503 : decode code 503 = .ok (.iconst 2, 1) := by decide +kernel
theorem d_Law_law_504 : decode code 504 = .ok (.iadd, 1) := by decide +kernel
theorem d_Law_law_505 : decode code 505 = .ok (.iaload, 1) := by decide +kernel
theorem d_Law_law_506 : decode code 506 = .ok (.invokevirtual 62, 3) := by decide +kernel
theorem d_Law_law_509 : decode code 509 = .ok (.if_icmp .eq 283, 3) := by decide +kernel
theorem d_Law_law_512 : decode code 512 = .ok (.iconst 0, 1) := by decide +kernel
theorem d_Law_law_513 : decode code 513 = .ok (.ireturn, 1) := by decide +kernel
theorem d_Law_law_514 : decode code 514 = .ok (.aload_n 1, 1) := by decide +kernel
theorem d_Law_law_515 : decode code 515 = .ok (.aload_n 0, 1) := by decide +kernel
theorem d_Law_law_516 : decode code 516 = .ok (.iload_n 3, 1) := by decide +kernel
theorem d_Law_law_517 : decode code 517 = .ok (.iconst 1, 1) := by decide +kernel
theorem d_Law_law_518 : decode code 518 = .ok (.iadd, 1) := by decide +kernel
theorem d_Law_law_519 : decode code 519 = .ok (.iaload, 1) := by decide +kernel
theorem d_Law_law_520 : decode code 520 = .ok (.aload_n 0, 1) := by decide +kernel
theorem d_Law_law_521 : decode code 521 = .ok (.iload_n 3, 1) := by decide +kernel
theorem d_Law_law_522 : decode code 522 = .ok (.iconst 2, 1) := by decide +kernel
theorem d_Law_law_523 : decode code 523 = .ok (.iadd, 1) := by decide +kernel
theorem d_Law_law_524 : decode code 524 = .ok (.iaload, 1) := by decide +kernel
theorem d_Law_law_525 : decode code 525 = .ok (.invokevirtual 63, 3) := by decide +kernel
theorem d_Law_law_528 : decode code 528 = .ok (.aload_n 2, 1) := by decide +kernel
theorem d_Law_law_529 : decode code 529 = .ok (.aload_n 0, 1) := by decide +kernel
theorem d_Law_law_530 : decode code 530 = .ok (.iload_n 3, 1) := by decide +kernel
theorem d_Law_law_531 : decode code 531 = .ok (.iconst 1, 1) := by decide +kernel
theorem d_Law_law_532 : decode code 532 = .ok (.iadd, 1) := by decide +kernel
theorem d_Law_law_533 : decode code 533 = .ok (.iaload, 1) := by decide +kernel
theorem d_Law_law_534 : decode code 534 = .ok (.aload_n 0, 1) := by decide +kernel
theorem d_Law_law_535 : decode code 535 = .ok (.iload_n 3, 1) := by decide +kernel
theorem d_Law_law_536 : decode code 536 = .ok (.iconst 2, 1) := by decide +kernel
theorem d_Law_law_537 : decode code 537 = .ok (.iadd, 1) := by decide +kernel
theorem d_Law_law_538 : decode code 538 = .ok (.iaload, 1) := by decide +kernel
theorem d_Law_law_539 : decode code 539 = .ok (.invokevirtual 67, 3) := by decide +kernel
theorem d_Law_law_542 : decode code 542 = .ok (.if_icmp .eq 250, 3) := by decide +kernel
theorem d_Law_law_545 : decode code 545 = .ok (.iconst 0, 1) := by decide +kernel
theorem d_Law_law_546 : decode code 546 = .ok (.ireturn, 1) := by decide +kernel
theorem d_Law_law_547 : decode code 547 = .ok (.aload_n 1, 1) := by decide +kernel
theorem d_Law_law_548 : decode code 548 = .ok (.aload_n 0, 1) := by decide +kernel
theorem d_Law_law_549 : decode code 549 = .ok (.iload_n 3, 1) := by decide +kernel
theorem d_Law_law_550 : decode code 550 = .ok (.iconst 1, 1) := by decide +kernel
theorem d_Law_law_551 : decode code 551 = .ok (.iadd, 1) := by decide +kernel
theorem d_Law_law_552 : decode code 552 = .ok (.iaload, 1) := by decide +kernel
theorem d_Law_law_553 : decode code 553 = .ok (.aload_n 0, 1) := by decide +kernel
theorem d_Law_law_554 : decode code 554 = .ok (.iload_n 3, 1) := by decide +kernel
theorem d_Law_law_555 : decode code 555 = .ok (.iconst 2, 1) := by decide +kernel
theorem d_Law_law_556 : decode code 556 = .ok (.iadd, 1) := by decide +kernel
theorem d_Law_law_557 : decode code 557 = .ok (.iaload, 1) := by decide +kernel
theorem d_Law_law_558 : decode code 558 = .ok (.aload_n 0, 1) := by decide +kernel
theorem d_Law_law_559 : decode code 559 = .ok (.iload_n 3, 1) := by decide +kernel
theorem d_Law_law_560 : decode code 560 = .ok (.iconst 3, 1) := by decide +kernel
theorem d_Law_law_561 : decode code 561 = .ok (.iadd, 1) := by decide +kernel
theorem d_Law_law_562 : decode code 562 = .ok (.iaload, 1) := by decide +kernel
theorem d_Law_law_563 : decode code 563 = .ok (.invokevirtual 68, 3) := by decide +kernel
theorem d_Law_law_566 : decode code 566 = .ok (.aload_n 2, 1) := by decide +kernel
theorem d_Law_law_567 : decode code 567 = .ok (.aload_n 0, 1) := by decide +kernel
theorem d_Law_law_568 : decode code 568 = .ok (.iload_n 3, 1) := by decide +kernel
theorem d_Law_law_569 : decode code 569 = .ok (.iconst 1, 1) := by decide +kernel
theorem d_Law_law_570 : decode code 570 = .ok (.iadd, 1) := by decide +kernel
theorem d_Law_law_571 : decode code 571 = .ok (.iaload, 1) := by decide +kernel
theorem d_Law_law_572 : decode code 572 = .ok (.aload_n 0, 1) := by decide +kernel
theorem d_Law_law_573 : decode code 573 = .ok (.iload_n 3, 1) := by decide +kernel
theorem d_Law_law_574 : decode code 574 = .ok (.iconst 2, 1) := by decide +kernel
theorem d_Law_law_575 : decode code 575 = .ok (.iadd, 1) := by decide +kernel
theorem d_Law_law_576 : decode code 576 = .ok (.iaload, 1) := by decide +kernel
theorem d_Law_law_577 : decode code 577 = .ok (.aload_n 0, 1) := by decide +kernel
theorem d_Law_law_578 : decode code 578 = .ok (.iload_n 3, 1) := by decide +kernel
theorem d_Law_law_579 : decode code 579 = .ok (.iconst 3, 1) := by decide +kernel
theorem d_Law_law_580 : decode code 580 = .ok (.iadd, 1) := by decide +kernel
theorem d_Law_law_581 : decode code 581 = .ok (.iaload, 1) := by decide +kernel
theorem d_Law_law_582 : decode code 582 = .ok (.invokevirtual 71, 3) := by decide +kernel
theorem d_Law_law_585 : decode code 585 = .ok (.if_icmp .eq 207, 3) := by decide +kernel
theorem d_Law_law_588 : decode code 588 = .ok (.iconst 0, 1) := by decide +kernel
theorem d_Law_law_589 : decode code 589 = .ok (.ireturn, 1) := by decide +kernel
theorem d_Law_law_590 : decode code 590 = .ok (.aload_n 1, 1) := by decide +kernel
theorem d_Law_law_591 : decode code 591 = .ok (.aload_n 0, 1) := by decide +kernel
theorem d_Law_law_592 : decode code 592 = .ok (.iload_n 3, 1) := by decide +kernel
theorem d_Law_law_593 : decode code 593 = .ok (.iconst 1, 1) := by decide +kernel
theorem d_Law_law_594 : decode code 594 = .ok (.iadd, 1) := by decide +kernel
theorem d_Law_law_595 : decode code 595 = .ok (.iaload, 1) := by decide +kernel
theorem d_Law_law_596 : decode code 596 = .ok (.aload_n 0, 1) := by decide +kernel
theorem d_Law_law_597 : decode code 597 = .ok (.iload_n 3, 1) := by decide +kernel
theorem d_Law_law_598 : decode code 598 = .ok (.iconst 2, 1) := by decide +kernel
theorem d_Law_law_599 : decode code 599 = .ok (.iadd, 1) := by decide +kernel
theorem d_Law_law_600 : decode code 600 = .ok (.iaload, 1) := by decide +kernel
theorem d_Law_law_601 : decode code 601 = .ok (.invokevirtual 72, 3) := by decide +kernel
theorem d_Law_law_604 : decode code 604 = .ok (.aload_n 2, 1) := by decide +kernel
theorem d_Law_law_605 : decode code 605 = .ok (.aload_n 0, 1) := by decide +kernel
theorem d_Law_law_606 : decode code 606 = .ok (.iload_n 3, 1) := by decide +kernel
theorem d_Law_law_607 : decode code 607 = .ok (.iconst 1, 1) := by decide +kernel
theorem d_Law_law_608 : decode code 608 = .ok (.iadd, 1) := by decide +kernel
theorem d_Law_law_609 : decode code 609 = .ok (.iaload, 1) := by decide +kernel
theorem d_Law_law_610 : decode code 610 = .ok (.aload_n 0, 1) := by decide +kernel
theorem d_Law_law_611 : decode code 611 = .ok (.iload_n 3, 1) := by decide +kernel
theorem d_Law_law_612 : decode code 612 = .ok (.iconst 2, 1) := by decide +kernel
theorem d_Law_law_613 : decode code 613 = .ok (.iadd, 1) := by decide +kernel
theorem d_Law_law_614 : decode code 614 = .ok (.iaload, 1) := by decide +kernel
theorem d_Law_law_615 : decode code 615 = .ok (.invokevirtual 75, 3) := by decide +kernel
theorem d_Law_law_618 : decode code 618 = .ok (.if_icmp .eq 174, 3) := by decide +kernel
theorem d_Law_law_621 : decode code 621 = .ok (.iconst 0, 1) := by decide +kernel
theorem d_Law_law_622 : decode code 622 = .ok (.ireturn, 1) := by decide +kernel
theorem d_Law_law_623 : decode code 623 = .ok (.aload_n 1, 1) := by decide +kernel
theorem d_Law_law_624 : decode code 624 = .ok (.aload_n 0, 1) := by decide +kernel
theorem d_Law_law_625 : decode code 625 = .ok (.iload_n 3, 1) := by decide +kernel
theorem d_Law_law_626 : decode code 626 = .ok (.iconst 1, 1) := by decide +kernel
theorem d_Law_law_627 : decode code 627 = .ok (.iadd, 1) := by decide +kernel
theorem d_Law_law_628 : decode code 628 = .ok (.iaload, 1) := by decide +kernel
theorem d_Law_law_629 : decode code 629 = .ok (.invokevirtual 76, 3) := by decide +kernel
theorem d_Law_law_632 : decode code 632 = .ok (.aload_n 2, 1) := by decide +kernel
theorem d_Law_law_633 : decode code 633 = .ok (.aload_n 0, 1) := by decide +kernel
theorem d_Law_law_634 : decode code 634 = .ok (.iload_n 3, 1) := by decide +kernel
theorem d_Law_law_635 : decode code 635 = .ok (.iconst 1, 1) := by decide +kernel
theorem d_Law_law_636 : decode code 636 = .ok (.iadd, 1) := by decide +kernel
theorem d_Law_law_637 : decode code 637 = .ok (.iaload, 1) := by decide +kernel
theorem d_Law_law_638 : decode code 638 = .ok (.invokevirtual 79, 3) := by decide +kernel
theorem d_Law_law_641 : decode code 641 = .ok (.if_icmp .eq 151, 3) := by decide +kernel
theorem d_Law_law_644 : decode code 644 = .ok (.iconst 0, 1) := by decide +kernel
theorem d_Law_law_645 : decode code 645 = .ok (.ireturn, 1) := by decide +kernel
theorem d_Law_law_646 : decode code 646 = .ok (.aload_n 1, 1) := by decide +kernel
theorem d_Law_law_647 : decode code 647 = .ok (.aload_n 0, 1) := by decide +kernel
theorem d_Law_law_648 : decode code 648 = .ok (.iload_n 3, 1) := by decide +kernel
theorem d_Law_law_649 : decode code 649 = .ok (.iconst 1, 1) := by decide +kernel
theorem d_Law_law_650 : decode code 650 = .ok (.iadd, 1) := by decide +kernel
theorem d_Law_law_651 : decode code 651 = .ok (.iaload, 1) := by decide +kernel
theorem d_Law_law_652 : decode code 652 = .ok (.aload_n 0, 1) := by decide +kernel
theorem d_Law_law_653 : decode code 653 = .ok (.iload_n 3, 1) := by decide +kernel
theorem d_Law_law_654 : decode code 654 = .ok (.iconst 2, 1) := by decide +kernel
theorem d_Law_law_655 : decode code 655 = .ok (.iadd, 1) := by decide +kernel
theorem d_Law_law_656 : decode code 656 = .ok (.iaload, 1) := by decide +kernel
theorem d_Law_law_657 : decode code 657 = .ok (.aload_n 0, 1) := by decide +kernel
theorem d_Law_law_658 : decode code 658 = .ok (.iload_n 3, 1) := by decide +kernel
theorem d_Law_law_659 : decode code 659 = .ok (.iconst 3, 1) := by decide +kernel
theorem d_Law_law_660 : decode code 660 = .ok (.iadd, 1) := by decide +kernel
theorem d_Law_law_661 : decode code 661 = .ok (.iaload, 1) := by decide +kernel
theorem d_Law_law_662 : decode code 662 = .ok (.invokevirtual 80, 3) := by decide +kernel
theorem d_Law_law_665 : decode code 665 = .ok (.aload_n 2, 1) := by decide +kernel
theorem d_Law_law_666 : decode code 666 = .ok (.aload_n 0, 1) := by decide +kernel
theorem d_Law_law_667 : decode code 667 = .ok (.iload_n 3, 1) := by decide +kernel
theorem d_Law_law_668 : decode code 668 = .ok (.iconst 1, 1) := by decide +kernel
theorem d_Law_law_669 : decode code 669 = .ok (.iadd, 1) := by decide +kernel
theorem d_Law_law_670 : decode code 670 = .ok (.iaload, 1) := by decide +kernel
theorem d_Law_law_671 : decode code 671 = .ok (.aload_n 0, 1) := by decide +kernel
theorem d_Law_law_672 : decode code 672 = .ok (.iload_n 3, 1) := by decide +kernel
theorem d_Law_law_673 : decode code 673 = .ok (.iconst 2, 1) := by decide +kernel
theorem d_Law_law_674 : decode code 674 = .ok (.iadd, 1) := by decide +kernel
theorem d_Law_law_675 : decode code 675 = .ok (.iaload, 1) := by decide +kernel
theorem d_Law_law_676 : decode code 676 = .ok (.aload_n 0, 1) := by decide +kernel
theorem d_Law_law_677 : decode code 677 = .ok (.iload_n 3, 1) := by decide +kernel
theorem d_Law_law_678 : decode code 678 = .ok (.iconst 3, 1) := by decide +kernel
theorem d_Law_law_679 : decode code 679 = .ok (.iadd, 1) := by decide +kernel
theorem d_Law_law_680 : decode code 680 = .ok (.iaload, 1) := by decide +kernel
theorem d_Law_law_681 : decode code 681 = .ok (.invokevirtual 84, 3) := by decide +kernel
theorem d_Law_law_684 : decode code 684 = .ok (.if_icmp .eq 108, 3) := by decide +kernel
theorem d_Law_law_687 : decode code 687 = .ok (.iconst 0, 1) := by decide +kernel
theorem d_Law_law_688 : decode code 688 = .ok (.ireturn, 1) := by decide +kernel
theorem d_Law_law_689 : decode code 689 = .ok (.aload_n 1, 1) := by decide +kernel
theorem d_Law_law_690 : decode code 690 = .ok (.aload_n 0, 1) := by decide +kernel
theorem d_Law_law_691 : decode code 691 = .ok (.iload_n 3, 1) := by decide +kernel
theorem d_Law_law_692 : decode code 692 = .ok (.iconst 1, 1) := by decide +kernel
theorem d_Law_law_693 : decode code 693 = .ok (.iadd, 1) := by decide +kernel
theorem d_Law_law_694 : decode code 694 = .ok (.iaload, 1) := by decide +kernel
theorem d_Law_law_695 : decode code 695 = .ok (.invokevirtual 85, 3) := by decide +kernel
theorem d_Law_law_698 : decode code 698 = .ok (.aload_n 2, 1) := by decide +kernel
theorem d_Law_law_699 : decode code 699 = .ok (.aload_n 0, 1) := by decide +kernel
theorem d_Law_law_700 : decode code 700 = .ok (.iload_n 3, 1) := by decide +kernel
theorem d_Law_law_701 : decode code 701 = .ok (.iconst 1, 1) := by decide +kernel
theorem d_Law_law_702 : decode code 702 = .ok (.iadd, 1) := by decide +kernel
theorem d_Law_law_703 : decode code 703 = .ok (.iaload, 1) := by decide +kernel
theorem d_Law_law_704 : decode code 704 = .ok (.invokevirtual 88, 3) := by decide +kernel
theorem d_Law_law_707 : decode code 707 = .ok (.if_icmp .eq 85, 3) := by decide +kernel
theorem d_Law_law_710 : decode code 710 = .ok (.iconst 0, 1) := by decide +kernel
theorem d_Law_law_711 : decode code 711 = .ok (.ireturn, 1) := by decide +kernel
theorem d_Law_law_712 : decode code 712 = .ok (.aload_n 1, 1) := by decide +kernel
theorem d_Law_law_713 : decode code 713 = .ok (.aload_n 0, 1) := by decide +kernel
theorem d_Law_law_714 : decode code 714 = .ok (.iload_n 3, 1) := by decide +kernel
theorem d_Law_law_715 : decode code 715 = .ok (.iconst 1, 1) := by decide +kernel
theorem d_Law_law_716 : decode code 716 = .ok (.iadd, 1) := by decide +kernel
theorem d_Law_law_717 : decode code 717 = .ok (.iaload, 1) := by decide +kernel
theorem d_Law_law_718 : decode code 718 = .ok (.invokevirtual 89, 3) := by decide +kernel
theorem d_Law_law_721 : decode code 721 = .ok (.aload_n 2, 1) := by decide +kernel
theorem d_Law_law_722 : decode code 722 = .ok (.aload_n 0, 1) := by decide +kernel
theorem d_Law_law_723 : decode code 723 = .ok (.iload_n 3, 1) := by decide +kernel
theorem d_Law_law_724 : decode code 724 = .ok (.iconst 1, 1) := by decide +kernel
theorem d_Law_law_725 : decode code 725 = .ok (.iadd, 1) := by decide +kernel
theorem d_Law_law_726 : decode code 726 = .ok (.iaload, 1) := by decide +kernel
theorem d_Law_law_727 : decode code 727 = .ok (.invokevirtual 92, 3) := by decide +kernel
theorem d_Law_law_730 : decode code 730 = .ok (.if_icmp .eq 62, 3) := by decide +kernel
theorem d_Law_law_733 : decode code 733 = .ok (.iconst 0, 1) := by decide +kernel
theorem d_Law_law_734 : decode code 734 = .ok (.ireturn, 1) := by decide +kernel
theorem d_Law_law_735 : decode code 735 = .ok (.aload_n 1, 1) := by decide +kernel
theorem d_Law_law_736 : decode code 736 = .ok (.aload_n 0, 1) := by decide +kernel
theorem d_Law_law_737 : decode code 737 = .ok (.iload_n 3, 1) := by decide +kernel
theorem d_Law_law_738 : decode code 738 = .ok (.iconst 1, 1) := by decide +kernel
theorem d_Law_law_739 : decode code 739 = .ok (.iadd, 1) := by decide +kernel
theorem d_Law_law_740 : decode code 740 = .ok (.iaload, 1) := by decide +kernel
theorem d_Law_law_741 : decode code 741 = .ok (.invokevirtual 93, 3) := by decide +kernel
theorem d_Law_law_744 : decode code 744 = .ok (.aload_n 2, 1) := by decide +kernel
theorem d_Law_law_745 : decode code 745 = .ok (.aload_n 0, 1) := by decide +kernel
theorem d_Law_law_746 : decode code 746 = .ok (.iload_n 3, 1) := by decide +kernel
theorem d_Law_law_747 : decode code 747 = .ok (.iconst 1, 1) := by decide +kernel
theorem d_Law_law_748 : decode code 748 = .ok (.iadd, 1) := by decide +kernel
theorem d_Law_law_749 : decode code 749 = .ok (.iaload, 1) := by decide +kernel
theorem d_Law_law_750 : decode code 750 = .ok (.invokevirtual 96, 3) := by decide +kernel
theorem d_Law_law_753 : decode code 753 = .ok (.if_icmp .eq 39, 3) := by decide +kernel
theorem d_Law_law_756 : decode code 756 = .ok (.iconst 0, 1) := by decide +kernel
theorem d_Law_law_757 : decode code 757 = .ok (.ireturn, 1) := by decide +kernel
theorem d_Law_law_758 : decode code 758 = .ok (.aload_n 1, 1) := by decide +kernel
theorem d_Law_law_759 : decode code 759 = .ok (.invokevirtual 97, 3) := by decide +kernel
theorem d_Law_law_762 : decode code 762 = .ok (.aload_n 2, 1) := by decide +kernel
theorem d_Law_law_763 : decode code 763 = .ok (.invokevirtual 100, 3) := by decide +kernel
theorem d_Law_law_766 : decode code 766 = .ok (.goto 26, 3) := by decide +kernel
theorem d_Law_law_769 : decode code 769 = .ok (.aload_n 1, 1) := by decide +kernel
theorem d_Law_law_770 : decode code 770 = .ok (.aload_n 0, 1) := by decide +kernel
theorem d_Law_law_771 : decode code 771 = .ok (.iload_n 3, 1) := by decide +kernel
theorem d_Law_law_772 : decode code 772 = .ok (.iconst 1, 1) := by decide +kernel
theorem d_Law_law_773 : decode code 773 = .ok (.iadd, 1) := by decide +kernel
theorem d_Law_law_774 : decode code 774 = .ok (.iaload, 1) := by decide +kernel
theorem d_Law_law_775 : decode code 775 = .ok (.invokevirtual 101, 3) := by decide +kernel
theorem d_Law_law_778 : decode code 778 = .ok (.aload_n 2, 1) := by decide +kernel
theorem d_Law_law_779 : decode code 779 = .ok (.aload_n 0, 1) := by decide +kernel
theorem d_Law_law_780 : decode code 780 = .ok (.iload_n 3, 1) := by decide +kernel
theorem d_Law_law_781 : decode code 781 = .ok (.iconst 1, 1) := by decide +kernel
theorem d_Law_law_782 : decode code 782 = .ok (.iadd, 1) := by decide +kernel
theorem d_Law_law_783 : decode code 783 = .ok (.iaload, 1) := by decide +kernel
theorem d_Law_law_784 : decode code 784 = .ok (.invokevirtual 104, 3) := by decide +kernel
theorem d_Law_law_787 : decode code 787 = .ok (.if_icmp .eq 5, 3) := by decide +kernel
theorem d_Law_law_790 : decode code 790 = .ok (.iconst 0, 1) := by decide +kernel
theorem d_Law_law_791 : decode code 791 = .ok (.ireturn, 1) := by decide +kernel
theorem d_Law_law_792 : decode code 792 = .ok (.iinc 3 5, 3) := by decide +kernel
theorem d_Law_law_795 : decode code 795 = .ok (.goto (-777), 3) := by decide +kernel
theorem d_Law_law_798 : decode code 798 = .ok (.iconst 1, 1) := by decide +kernel
theorem d_Law_law_799 : decode code 799 = .ok (.ireturn, 1) := by decide +kernel
