/-! the law's rows and links -/
theorem dL_law_16 : decode cL_law 16 = .ok (.iconst 1, 1) := by decide +kernel
theorem dL_law_17 : decode cL_law 17 = .ok (.newarray .long, 2) := by decide +kernel
theorem dL_law_19 : decode cL_law 19 = .ok (.astore_n 3, 1) := by decide +kernel
theorem dL_law_20 : decode cL_law 20 = .ok (.iconst 0, 1) := by decide +kernel
theorem dL_law_21 : decode cL_law 21 = .ok (.istore 4, 2) := by decide +kernel
theorem dL_law_23 : decode cL_law 23 = .ok (.iload 4, 2) := by decide +kernel
theorem dL_law_25 : decode cL_law 25 = .ok (.aload_n 0, 1) := by decide +kernel
theorem dL_law_26 : decode cL_law 26 = .ok (.arraylength, 1) := by decide +kernel
theorem dL_law_27 : decode cL_law 27 = .ok (.bipush 6, 2) := by decide +kernel
theorem dL_law_29 : decode cL_law 29 = .ok (.isub, 1) := by decide +kernel
theorem dL_law_30 : decode cL_law 30 = .ok (.if_icmp .gt 946, 3) := by decide +kernel
theorem dL_law_33 : decode cL_law 33 = .ok (.aload_n 0, 1) := by decide +kernel
theorem dL_law_34 : decode cL_law 34 = .ok (.iload 4, 2) := by decide +kernel
theorem dL_law_36 : decode cL_law 36 = .ok (.iaload, 1) := by decide +kernel
theorem dL_law_37 : decode cL_law 37 = .ok (.bipush 31, 2) := by decide +kernel
theorem dL_law_39 : decode cL_law 39 = .ok (.iand, 1) := by decide +kernel
theorem dL_law_40 : decode cL_law 40 = .ok (.tableswitch 930 0 23 #[112, 185, 210, 223, 236, 261, 298, 335, 403, 440, 477, 502, 539, 564, 601, 638, 675, 724, 749, 762, 818, 855, 892, 917], 112) := by decide +kernel
theorem dL_law_152 : decode cL_law 152 = .ok (.aload_n 1, 1) := by decide +kernel
theorem dL_law_153 : decode cL_law 153 = .ok (.aload_n 0, 1) := by decide +kernel
theorem dL_law_154 : decode cL_law 154 = .ok (.iload 4, 2) := by decide +kernel
theorem dL_law_156 : decode cL_law 156 = .ok (.iconst 1, 1) := by decide +kernel
theorem dL_law_157 : decode cL_law 157 = .ok (.iadd, 1) := by decide +kernel
theorem dL_law_158 : decode cL_law 158 = .ok (.iaload, 1) := by decide +kernel
theorem dL_law_159 : decode cL_law 159 = .ok (.aload_n 0, 1) := by decide +kernel
theorem dL_law_160 : decode cL_law 160 = .ok (.iload 4, 2) := by decide +kernel
theorem dL_law_162 : decode cL_law 162 = .ok (.iconst 2, 1) := by decide +kernel
theorem dL_law_163 : decode cL_law 163 = .ok (.iadd, 1) := by decide +kernel
theorem dL_law_164 : decode cL_law 164 = .ok (.iaload, 1) := by decide +kernel
theorem dL_law_165 : decode cL_law 165 = .ok (.aload_n 0, 1) := by decide +kernel
theorem dL_law_166 : decode cL_law 166 = .ok (.iload 4, 2) := by decide +kernel
theorem dL_law_168 : decode cL_law 168 = .ok (.iconst 3, 1) := by decide +kernel
theorem dL_law_169 : decode cL_law 169 = .ok (.iadd, 1) := by decide +kernel
theorem dL_law_170 : decode cL_law 170 = .ok (.iaload, 1) := by decide +kernel
theorem dL_law_171 : decode cL_law 171 = .ok (.aload_n 0, 1) := by decide +kernel
theorem dL_law_172 : decode cL_law 172 = .ok (.iload 4, 2) := by decide +kernel
theorem dL_law_174 : decode cL_law 174 = .ok (.iconst 4, 1) := by decide +kernel
theorem dL_law_175 : decode cL_law 175 = .ok (.iadd, 1) := by decide +kernel
theorem dL_law_176 : decode cL_law 176 = .ok (.iaload, 1) := by decide +kernel
theorem dL_law_177 : decode cL_law 177 = .ok (.aload_n 0, 1) := by decide +kernel
theorem dL_law_178 : decode cL_law 178 = .ok (.iload 4, 2) := by decide +kernel
theorem dL_law_180 : decode cL_law 180 = .ok (.iconst 5, 1) := by decide +kernel
theorem dL_law_181 : decode cL_law 181 = .ok (.iadd, 1) := by decide +kernel
theorem dL_law_182 : decode cL_law 182 = .ok (.iaload, 1) := by decide +kernel
theorem dL_law_183 : decode cL_law 183 = .ok (.invokevirtual 23, 3) := by decide +kernel
theorem dL_law_186 : decode cL_law 186 = .ok (.aload_n 2, 1) := by decide +kernel
theorem dL_law_187 : decode cL_law 187 = .ok (.aload_n 0, 1) := by decide +kernel
theorem dL_law_188 : decode cL_law 188 = .ok (.iload 4, 2) := by decide +kernel
theorem dL_law_190 : decode cL_law 190 = .ok (.iconst 1, 1) := by decide +kernel
theorem dL_law_191 : decode cL_law 191 = .ok (.iadd, 1) := by decide +kernel
theorem dL_law_192 : decode cL_law 192 = .ok (.iaload, 1) := by decide +kernel
theorem dL_law_193 : decode cL_law 193 = .ok (.aload_n 0, 1) := by decide +kernel
theorem dL_law_194 : decode cL_law 194 = .ok (.iload 4, 2) := by decide +kernel
theorem dL_law_196 : decode cL_law 196 = .ok (.iconst 2, 1) := by decide +kernel
theorem dL_law_197 : decode cL_law 197 = .ok (.iadd, 1) := by decide +kernel
theorem dL_law_198 : decode cL_law 198 = .ok (.iaload, 1) := by decide +kernel
theorem dL_law_199 : decode cL_law 199 = .ok (.aload_n 0, 1) := by decide +kernel
theorem dL_law_200 : decode cL_law 200 = .ok (.iload 4, 2) := by decide +kernel
theorem dL_law_202 : decode cL_law 202 = .ok (.iconst 3, 1) := by decide +kernel
theorem dL_law_203 : decode cL_law 203 = .ok (.iadd, 1) := by decide +kernel
theorem dL_law_204 : decode cL_law 204 = .ok (.iaload, 1) := by decide +kernel
theorem dL_law_205 : decode cL_law 205 = .ok (.aload_n 0, 1) := by decide +kernel
theorem dL_law_206 : decode cL_law 206 = .ok (.iload 4, 2) := by decide +kernel
theorem dL_law_208 : decode cL_law 208 = .ok (.iconst 4, 1) := by decide +kernel
theorem dL_law_209 : decode cL_law 209 = .ok (.iadd, 1) := by decide +kernel
theorem dL_law_210 : decode cL_law 210 = .ok (.iaload, 1) := by decide +kernel
theorem dL_law_211 : decode cL_law 211 = .ok (.aload_n 0, 1) := by decide +kernel
theorem dL_law_212 : decode cL_law 212 = .ok (.iload 4, 2) := by decide +kernel
theorem dL_law_214 : decode cL_law 214 = .ok (.iconst 5, 1) := by decide +kernel
theorem dL_law_215 : decode cL_law 215 = .ok (.iadd, 1) := by decide +kernel
theorem dL_law_216 : decode cL_law 216 = .ok (.iaload, 1) := by decide +kernel
theorem dL_law_217 : decode cL_law 217 = .ok (.invokevirtual 27, 3) := by decide +kernel
theorem dL_law_220 : decode cL_law 220 = .ok (.if_icmp .eq 750, 3) := by decide +kernel
theorem dL_law_223 : decode cL_law 223 = .ok (.iconst 0, 1) := by decide +kernel
theorem dL_law_224 : decode cL_law 224 = .ok (.ireturn, 1) := by decide +kernel
theorem dL_law_225 : decode cL_law 225 = .ok (.aload_n 1, 1) := by decide +kernel
theorem dL_law_226 : decode cL_law 226 = .ok (.aload_n 0, 1) := by decide +kernel
theorem dL_law_227 : decode cL_law 227 = .ok (.iload 4, 2) := by decide +kernel
theorem dL_law_229 : decode cL_law 229 = .ok (.iconst 1, 1) := by decide +kernel
theorem dL_law_230 : decode cL_law 230 = .ok (.iadd, 1) := by decide +kernel
theorem dL_law_231 : decode cL_law 231 = .ok (.iaload, 1) := by decide +kernel
theorem dL_law_232 : decode cL_law 232 = .ok (.invokevirtual 28, 3) := by decide +kernel
theorem dL_law_235 : decode cL_law 235 = .ok (.aload_n 2, 1) := by decide +kernel
theorem dL_law_236 : decode cL_law 236 = .ok (.aload_n 0, 1) := by decide +kernel
theorem dL_law_237 : decode cL_law 237 = .ok (.iload 4, 2) := by decide +kernel
theorem dL_law_239 : decode cL_law 239 = .ok (.iconst 1, 1) := by decide +kernel
theorem dL_law_240 : decode cL_law 240 = .ok (.iadd, 1) := by decide +kernel
theorem dL_law_241 : decode cL_law 241 = .ok (.iaload, 1) := by decide +kernel
theorem dL_law_242 : decode cL_law 242 = .ok (.invokevirtual 32, 3) := by decide +kernel
theorem dL_law_245 : decode cL_law 245 = .ok (.if_icmp .eq 725, 3) := by decide +kernel
theorem dL_law_248 : decode cL_law 248 = .ok (.iconst 0, 1) := by decide +kernel
theorem dL_law_249 : decode cL_law 249 = .ok (.ireturn, 1) := by decide +kernel
theorem dL_law_250 : decode cL_law 250 = .ok (.aload_n 1, 1) := by decide +kernel
theorem dL_law_251 : decode cL_law 251 = .ok (.invokevirtual 33, 3) := by decide +kernel
theorem dL_law_254 : decode cL_law 254 = .ok (.aload_n 2, 1) := by decide +kernel
theorem dL_law_255 : decode cL_law 255 = .ok (.invokevirtual 37, 3) := by decide +kernel
theorem dL_law_258 : decode cL_law 258 = .ok (.if_icmp .eq 712, 3) := by decide +kernel
theorem dL_law_261 : decode cL_law 261 = .ok (.iconst 0, 1) := by decide +kernel
theorem dL_law_262 : decode cL_law 262 = .ok (.ireturn, 1) := by decide +kernel
theorem dL_law_263 : decode cL_law 263 = .ok (.aload_n 1, 1) := by decide +kernel
theorem dL_law_264 : decode cL_law 264 = .ok (.invokevirtual 38, 3) := by decide +kernel
theorem dL_law_267 : decode cL_law 267 = .ok (.aload_n 2, 1) := by decide +kernel
theorem dL_law_268 : decode cL_law 268 = .ok (.invokevirtual 41, 3) := by decide +kernel
theorem dL_law_271 : decode cL_law 271 = .ok (.if_icmp .eq 699, 3) := by decide +kernel
theorem dL_law_274 : decode cL_law 274 = .ok (.iconst 0, 1) := by decide +kernel
theorem dL_law_275 : decode cL_law 275 = .ok (.ireturn, 1) := by decide +kernel
theorem dL_law_276 : decode cL_law 276 = .ok (.aload_n 1, 1) := by decide +kernel
theorem dL_law_277 : decode cL_law 277 = .ok (.aload_n 0, 1) := by decide +kernel
theorem dL_law_278 : decode cL_law 278 = .ok (.iload 4, 2) := by decide +kernel
theorem dL_law_280 : decode cL_law 280 = .ok (.iconst 1, 1) := by decide +kernel
theorem dL_law_281 : decode cL_law 281 = .ok (.iadd, 1) := by decide +kernel
theorem dL_law_282 : decode cL_law 282 = .ok (.iaload, 1) := by decide +kernel
theorem dL_law_283 : decode cL_law 283 = .ok (.invokevirtual 42, 3) := by decide +kernel
theorem dL_law_286 : decode cL_law 286 = .ok (.aload_n 2, 1) := by decide +kernel
theorem dL_law_287 : decode cL_law 287 = .ok (.aload_n 0, 1) := by decide +kernel
theorem dL_law_288 : decode cL_law 288 = .ok (.iload 4, 2) := by decide +kernel
theorem dL_law_290 : decode cL_law 290 = .ok (.iconst 1, 1) := by decide +kernel
theorem dL_law_291 : decode cL_law 291 = .ok (.iadd, 1) := by decide +kernel
theorem dL_law_292 : decode cL_law 292 = .ok (.iaload, 1) := by decide +kernel
theorem dL_law_293 : decode cL_law 293 = .ok (.invokevirtual 45, 3) := by decide +kernel
theorem dL_law_296 : decode cL_law 296 = .ok (.if_icmp .eq 674, 3) := by decide +kernel
theorem dL_law_299 : decode cL_law 299 = .ok (.iconst 0, 1) := by decide +kernel
theorem dL_law_300 : decode cL_law 300 = .ok (.ireturn, 1) := by decide +kernel
theorem dL_law_301 : decode cL_law 301 = .ok (.aload_n 1, 1) := by decide +kernel
theorem dL_law_302 : decode cL_law 302 = .ok (.aload_n 0, 1) := by decide +kernel
theorem dL_law_303 : decode cL_law 303 = .ok (.iload 4, 2) := by decide +kernel
theorem dL_law_305 : decode cL_law 305 = .ok (.iconst 1, 1) := by decide +kernel
theorem dL_law_306 : decode cL_law 306 = .ok (.iadd, 1) := by decide +kernel
theorem dL_law_307 : decode cL_law 307 = .ok (.iaload, 1) := by decide +kernel
theorem dL_law_308 : decode cL_law 308 = .ok (.aload_n 0, 1) := by decide +kernel
theorem dL_law_309 : decode cL_law 309 = .ok (.iload 4, 2) := by decide +kernel
theorem dL_law_311 : decode cL_law 311 = .ok (.iconst 2, 1) := by decide +kernel
theorem dL_law_312 : decode cL_law 312 = .ok (.iadd, 1) := by decide +kernel
theorem dL_law_313 : decode cL_law 313 = .ok (.iaload, 1) := by decide +kernel
theorem dL_law_314 : decode cL_law 314 = .ok (.invokevirtual 46, 3) := by decide +kernel
theorem dL_law_317 : decode cL_law 317 = .ok (.aload_n 2, 1) := by decide +kernel
theorem dL_law_318 : decode cL_law 318 = .ok (.aload_n 0, 1) := by decide +kernel
theorem dL_law_319 : decode cL_law 319 = .ok (.iload 4, 2) := by decide +kernel
theorem dL_law_321 : decode cL_law 321 = .ok (.iconst 1, 1) := by decide +kernel
theorem dL_law_322 : decode cL_law 322 = .ok (.iadd, 1) := by decide +kernel
theorem dL_law_323 : decode cL_law 323 = .ok (.iaload, 1) := by decide +kernel
theorem dL_law_324 : decode cL_law 324 = .ok (.aload_n 0, 1) := by decide +kernel
theorem dL_law_325 : decode cL_law 325 = .ok (.iload 4, 2) := by decide +kernel
theorem dL_law_327 : decode cL_law 327 = .ok (.iconst 2, 1) := by decide +kernel
theorem dL_law_328 : decode cL_law 328 = .ok (.iadd, 1) := by decide +kernel
theorem dL_law_329 : decode cL_law 329 = .ok (.iaload, 1) := by decide +kernel
theorem dL_law_330 : decode cL_law 330 = .ok (.invokevirtual 49, 3) := by decide +kernel
theorem dL_law_333 : decode cL_law 333 = .ok (.if_icmp .eq 637, 3) := by decide +kernel
theorem dL_law_336 : decode cL_law 336 = .ok (.iconst 0, 1) := by decide +kernel
theorem dL_law_337 : decode cL_law 337 = .ok (.ireturn, 1) := by decide +kernel
theorem dL_law_338 : decode cL_law 338 = .ok (.aload_n 1, 1) := by decide +kernel
theorem dL_law_339 : decode cL_law 339 = .ok (.aload_n 0, 1) := by decide +kernel
theorem dL_law_340 : decode cL_law 340 = .ok (.iload 4, 2) := by decide +kernel
theorem dL_law_342 : decode cL_law 342 = .ok (.iconst 1, 1) := by decide +kernel
theorem dL_law_343 : decode cL_law 343 = .ok (.iadd, 1) := by decide +kernel
theorem dL_law_344 : decode cL_law 344 = .ok (.iaload, 1) := by decide +kernel
theorem dL_law_345 : decode cL_law 345 = .ok (.aload_n 0, 1) := by decide +kernel
theorem dL_law_346 : decode cL_law 346 = .ok (.iload 4, 2) := by decide +kernel
theorem dL_law_348 : decode cL_law 348 = .ok (.iconst 2, 1) := by decide +kernel
theorem dL_law_349 : decode cL_law 349 = .ok (.iadd, 1) := by decide +kernel
theorem dL_law_350 : decode cL_law 350 = .ok (.iaload, 1) := by decide +kernel
theorem dL_law_351 : decode cL_law 351 = .ok (.invokevirtual 50, 3) := by decide +kernel
theorem dL_law_354 : decode cL_law 354 = .ok (.aload_n 2, 1) := by decide +kernel
theorem dL_law_355 : decode cL_law 355 = .ok (.aload_n 0, 1) := by decide +kernel
theorem dL_law_356 : decode cL_law 356 = .ok (.iload 4, 2) := by decide +kernel
theorem dL_law_358 : decode cL_law 358 = .ok (.iconst 1, 1) := by decide +kernel
theorem dL_law_359 : decode cL_law 359 = .ok (.iadd, 1) := by decide +kernel
theorem dL_law_360 : decode cL_law 360 = .ok (.iaload, 1) := by decide +kernel
theorem dL_law_361 : decode cL_law 361 = .ok (.aload_n 0, 1) := by decide +kernel
theorem dL_law_362 : decode cL_law 362 = .ok (.iload 4, 2) := by decide +kernel
theorem dL_law_364 : decode cL_law 364 = .ok (.iconst 2, 1) := by decide +kernel
theorem dL_law_365 : decode cL_law 365 = .ok (.iadd, 1) := by decide +kernel
theorem dL_law_366 : decode cL_law 366 = .ok (.iaload, 1) := by decide +kernel
theorem dL_law_367 : decode cL_law 367 = .ok (.invokevirtual 53, 3) := by decide +kernel
theorem dL_law_370 : decode cL_law 370 = .ok (.if_icmp .eq 600, 3) := by decide +kernel
theorem dL_law_373 : decode cL_law 373 = .ok (.iconst 0, 1) := by decide +kernel
theorem dL_law_374 : decode cL_law 374 = .ok (.ireturn, 1) := by decide +kernel
theorem dL_law_375 : decode cL_law 375 = .ok (.aload_n 1, 1) := by decide +kernel
theorem dL_law_376 : decode cL_law 376 = .ok (.aload_n 0, 1) := by decide +kernel
theorem dL_law_377 : decode cL_law 377 = .ok (.iload 4, 2) := by decide +kernel
theorem dL_law_379 : decode cL_law 379 = .ok (.iconst 1, 1) := by decide +kernel
theorem dL_law_380 : decode cL_law 380 = .ok (.iadd, 1) := by decide +kernel
theorem dL_law_381 : decode cL_law 381 = .ok (.iaload, 1) := by decide +kernel
theorem dL_law_382 : decode cL_law 382 = .ok (.aload_n 0, 1) := by decide +kernel
theorem dL_law_383 : decode cL_law 383 = .ok (.iload 4, 2) := by decide +kernel
theorem dL_law_385 : decode cL_law 385 = .ok (.iconst 2, 1) := by decide +kernel
theorem dL_law_386 : decode cL_law 386 = .ok (.iadd, 1) := by decide +kernel
theorem dL_law_387 : decode cL_law 387 = .ok (.iaload, 1) := by decide +kernel
theorem dL_law_388 : decode cL_law 388 = .ok (.aload_n 3, 1) := by decide +kernel
theorem dL_law_389 : decode cL_law 389 = .ok (.invokestatic 54, 3) := by decide +kernel
theorem dL_law_392 : decode cL_law 392 = .ok (.istore 5, 2) := by decide +kernel
theorem dL_law_394 : decode cL_law 394 = .ok (.aload_n 2, 1) := by decide +kernel
theorem dL_law_395 : decode cL_law 395 = .ok (.aload_n 0, 1) := by decide +kernel
theorem dL_law_396 : decode cL_law 396 = .ok (.iload 4, 2) := by decide +kernel
theorem dL_law_398 : decode cL_law 398 = .ok (.iconst 1, 1) := by decide +kernel
theorem dL_law_399 : decode cL_law 399 = .ok (.iadd, 1) := by decide +kernel
theorem dL_law_400 : decode cL_law 400 = .ok (.iaload, 1) := by decide +kernel
theorem dL_law_401 : decode cL_law 401 = .ok (.aload_n 0, 1) := by decide +kernel
theorem dL_law_402 : decode cL_law 402 = .ok (.iload 4, 2) := by decide +kernel
theorem dL_law_404 : decode cL_law 404 = .ok (.iconst 2, 1) := by decide +kernel
theorem dL_law_405 : decode cL_law 405 = .ok (.iadd, 1) := by decide +kernel
theorem dL_law_406 : decode cL_law 406 = .ok (.iaload, 1) := by decide +kernel
theorem dL_law_407 : decode cL_law 407 = .ok (.invokevirtual 59, 3) := by decide +kernel
theorem dL_law_410 : decode cL_law 410 = .ok (.istore 6, 2) := by decide +kernel
theorem dL_law_412 : decode cL_law 412 = .ok (.aload_n 2, 1) := by decide +kernel
theorem dL_law_413 : decode cL_law 413 = .ok (.invokevirtual 60, 3) := by decide +kernel
theorem dL_law_416 : decode cL_law 416 = .ok (.iload 5, 2) := by decide +kernel
theorem dL_law_418 : decode cL_law 418 = .ok (.if_icmp .eq 5, 3) := by decide +kernel
theorem dL_law_421 : decode cL_law 421 = .ok (.iconst 0, 1) := by decide +kernel
theorem dL_law_422 : decode cL_law 422 = .ok (.ireturn, 1) := by decide +kernel
theorem dL_law_423 : decode cL_law 423 = .ok (.iload 5, 2) := by decide +kernel
theorem dL_law_425 : decode cL_law 425 = .ok (.ifCond .ne 15, 3) := by decide +kernel
theorem dL_law_428 : decode cL_law 428 = .ok (.aload_n 3, 1) := by decide +kernel
theorem dL_law_429 : decode cL_law 429 = .ok (.iconst 0, 1) := by decide +kernel
theorem dL_law_430 : decode cL_law 430 = .ok (.laload, 1) := by decide +kernel
theorem dL_law_431 : decode cL_law 431 = .ok (.iload 6, 2) := by decide +kernel
theorem dL_law_433 : decode cL_law 433 = .ok (.i2l, 1) := by decide +kernel
theorem dL_law_434 : decode cL_law 434 = .ok (.lcmp, 1) := by decide +kernel
theorem dL_law_435 : decode cL_law 435 = .ok (.ifCond .eq 5, 3) := by decide +kernel
theorem dL_law_438 : decode cL_law 438 = .ok (.iconst 0, 1) := by decide +kernel
theorem dL_law_439 : decode cL_law 439 = .ok (.ireturn, 1) := by decide +kernel
theorem dL_law_440 : decode cL_law 440 = .ok (.goto 530, 3) := by decide +kernel
theorem dL_law_443 : decode cL_law 443 = .ok (.aload_n 1, 1) := by decide +kernel
theorem dL_law_444 : decode cL_law 444 = .ok (.aload_n 0, 1) := by decide +kernel
theorem dL_law_445 : decode cL_law 445 = .ok (.iload 4, 2) := by decide +kernel
theorem dL_law_447 : decode cL_law 447 = .ok (.iconst 1, 1) := by decide +kernel
theorem dL_law_448 : decode cL_law 448 = .ok (.iadd, 1) := by decide +kernel
theorem dL_law_449 : decode cL_law 449 = .ok (.iaload, 1) := by decide +kernel
theorem dL_law_450 : decode cL_law 450 = .ok (.aload_n 0, 1) := by decide +kernel
theorem dL_law_451 : decode cL_law 451 = .ok (.iload 4, 2) := by decide +kernel
theorem dL_law_453 : decode cL_law 453 = .ok (.iconst 2, 1) := by decide +kernel
theorem dL_law_454 : decode cL_law 454 = .ok (.iadd, 1) := by decide +kernel
theorem dL_law_455 : decode cL_law 455 = .ok (.iaload, 1) := by decide +kernel
theorem dL_law_456 : decode cL_law 456 = .ok (.invokevirtual 63, 3) := by decide +kernel
theorem dL_law_459 : decode cL_law 459 = .ok (.aload_n 2, 1) := by decide +kernel
theorem dL_law_460 : decode cL_law 460 = .ok (.aload_n 0, 1) := by decide +kernel
theorem dL_law_461 : decode cL_law 461 = .ok (.iload 4, 2) := by decide +kernel
theorem dL_law_463 : decode cL_law 463 = .ok (.iconst 1, 1) := by decide +kernel
theorem dL_law_464 : decode cL_law 464 = .ok (.iadd, 1) := by decide +kernel
theorem dL_law_465 : decode cL_law 465 = .ok (.iaload, 1) := by decide +kernel
theorem dL_law_466 : decode cL_law 466 = .ok (.aload_n 0, 1) := by decide +kernel
theorem dL_law_467 : decode cL_law 467 = .ok (.iload 4, 2) := by decide +kernel
theorem dL_law_469 : decode cL_law 469 = .ok (.iconst 2, 1) := by decide +kernel
theorem dL_law_470 : decode cL_law 470 = .ok (.iadd, 1) := by decide +kernel
theorem dL_law_471 : decode cL_law 471 = .ok (.iaload, 1) := by decide +kernel
theorem dL_law_472 : decode cL_law 472 = .ok (.invokevirtual 66, 3) := by decide +kernel
theorem dL_law_475 : decode cL_law 475 = .ok (.if_icmp .eq 495, 3) := by decide +kernel
theorem dL_law_478 : decode cL_law 478 = .ok (.iconst 0, 1) := by decide +kernel
theorem dL_law_479 : decode cL_law 479 = .ok (.ireturn, 1) := by decide +kernel
theorem dL_law_480 : decode cL_law 480 = .ok (.aload_n 1, 1) := by decide +kernel
theorem dL_law_481 : decode cL_law 481 = .ok (.aload_n 0, 1) := by decide +kernel
theorem dL_law_482 : decode cL_law 482 = .ok (.iload 4, 2) := by decide +kernel
theorem dL_law_484 : decode cL_law 484 = .ok (.iconst 1, 1) := by decide +kernel
theorem dL_law_485 : decode cL_law 485 = .ok (.iadd, 1) := by decide +kernel
theorem dL_law_486 : decode cL_law 486 = .ok (.iaload, 1) := by decide +kernel
theorem dL_law_487 : decode cL_law 487 = .ok (.aload_n 0, 1) := by decide +kernel
theorem dL_law_488 : decode cL_law 488 = .ok (.iload 4, 2) := by decide +kernel
theorem dL_law_490 : decode cL_law 490 = .ok (.iconst 2, 1) := by decide +kernel
theorem dL_law_491 : decode cL_law 491 = .ok (.iadd, 1) := by decide +kernel
theorem dL_law_492 : decode cL_law 492 = .ok (.iaload, 1) := by decide +kernel
theorem dL_law_493 : decode cL_law 493 = .ok (.invokevirtual 67, 3) := by decide +kernel
theorem dL_law_496 : decode cL_law 496 = .ok (.aload_n 2, 1) := by decide +kernel
theorem dL_law_497 : decode cL_law 497 = .ok (.aload_n 0, 1) := by decide +kernel
theorem dL_law_498 : decode cL_law 498 = .ok (.iload 4, 2) := by decide +kernel
theorem dL_law_500 : decode cL_law 500 = .ok (.iconst 1, 1) := by decide +kernel
theorem dL_law_501 : decode cL_law 501 = .ok (.iadd, 1) := by decide +kernel
theorem dL_law_502 : decode cL_law 502 = .ok (.iaload, 1) := by decide +kernel
theorem dL_law_503 : decode cL_law 503 = .ok (.aload_n 0, 1) := by decide +kernel
theorem dL_law_504 : decode cL_law 504 = .ok (.iload 4, 2) := by decide +kernel
theorem dL_law_506 : decode cL_law 506 = .ok (.iconst 2, 1) := by decide +kernel
theorem dL_law_507 : decode cL_law 507 = .ok (.iadd, 1) := by decide +kernel
theorem dL_law_508 : decode cL_law 508 = .ok (.iaload, 1) := by decide +kernel
theorem dL_law_509 : decode cL_law 509 = .ok (.invokevirtual 71, 3) := by decide +kernel
theorem dL_law_512 : decode cL_law 512 = .ok (.if_icmp .eq 458, 3) := by decide +kernel
theorem dL_law_515 : decode cL_law 515 = .ok (.iconst 0, 1) := by decide +kernel
theorem dL_law_516 : decode cL_law 516 = .ok (.ireturn, 1) := by decide +kernel
theorem dL_law_517 : decode cL_law 517 = .ok (.aload_n 1, 1) := by decide +kernel
theorem dL_law_518 : decode cL_law 518 = .ok (.aload_n 0, 1) := by decide +kernel
theorem dL_law_519 : decode cL_law 519 = .ok (.iload 4, 2) := by decide +kernel
theorem dL_law_521 : decode cL_law 521 = .ok (.iconst 1, 1) := by decide +kernel
theorem dL_law_522 : decode cL_law 522 = .ok (.iadd, 1) := by decide +kernel
theorem dL_law_523 : decode cL_law 523 = .ok (.iaload, 1) := by decide +kernel
theorem dL_law_524 : decode cL_law 524 = .ok (.invokevirtual 72, 3) := by decide +kernel
theorem dL_law_527 : decode cL_law 527 = .ok (.aload_n 2, 1) := by decide +kernel
theorem dL_law_528 : decode cL_law 528 = .ok (.aload_n 0, 1) := by decide +kernel
theorem dL_law_529 : decode cL_law 529 = .ok (.iload 4, 2) := by decide +kernel
theorem dL_law_531 : decode cL_law 531 = .ok (.iconst 1, 1) := by decide +kernel
theorem dL_law_532 : decode cL_law 532 = .ok (.iadd, 1) := by decide +kernel
theorem dL_law_533 : decode cL_law 533 = .ok (.iaload, 1) := by decide +kernel
theorem dL_law_534 : decode cL_law 534 = .ok (.invokevirtual 75, 3) := by decide +kernel
theorem dL_law_537 : decode cL_law 537 = .ok (.if_icmp .eq 433, 3) := by decide +kernel
theorem dL_law_540 : decode cL_law 540 = .ok (.iconst 0, 1) := by decide +kernel
theorem dL_law_541 : decode cL_law 541 = .ok (.ireturn, 1) := by decide +kernel
theorem dL_law_542 : decode cL_law 542 = .ok (.aload_n 1, 1) := by decide +kernel
theorem dL_law_543 : decode cL_law 543 = .ok (.aload_n 0, 1) := by decide +kernel
theorem dL_law_544 : decode cL_law 544 = .ok (.iload 4, 2) := by decide +kernel
theorem dL_law_546 : decode cL_law 546 = .ok (.iconst 1, 1) := by decide +kernel
theorem dL_law_547 : decode cL_law 547 = .ok (.iadd, 1) := by decide +kernel
theorem dL_law_548 : decode cL_law 548 = .ok (.iaload, 1) := by decide +kernel
theorem dL_law_549 : decode cL_law 549 = .ok (.aload_n 0, 1) := by decide +kernel
theorem dL_law_550 : decode cL_law 550 = .ok (.iload 4, 2) := by decide +kernel
theorem dL_law_552 : decode cL_law 552 = .ok (.iconst 2, 1) := by decide +kernel
theorem dL_law_553 : decode cL_law 553 = .ok (.iadd, 1) := by decide +kernel
theorem dL_law_554 : decode cL_law 554 = .ok (.iaload, 1) := by decide +kernel
theorem dL_law_555 : decode cL_law 555 = .ok (.invokevirtual 76, 3) := by decide +kernel
theorem dL_law_558 : decode cL_law 558 = .ok (.aload_n 2, 1) := by decide +kernel
theorem dL_law_559 : decode cL_law 559 = .ok (.aload_n 0, 1) := by decide +kernel
theorem dL_law_560 : decode cL_law 560 = .ok (.iload 4, 2) := by decide +kernel
theorem dL_law_562 : decode cL_law 562 = .ok (.iconst 1, 1) := by decide +kernel
theorem dL_law_563 : decode cL_law 563 = .ok (.iadd, 1) := by decide +kernel
theorem dL_law_564 : decode cL_law 564 = .ok (.iaload, 1) := by decide +kernel
theorem dL_law_565 : decode cL_law 565 = .ok (.aload_n 0, 1) := by decide +kernel
theorem dL_law_566 : decode cL_law 566 = .ok (.iload 4, 2) := by decide +kernel
theorem dL_law_568 : decode cL_law 568 = .ok (.iconst 2, 1) := by decide +kernel
theorem dL_law_569 : decode cL_law 569 = .ok (.iadd, 1) := by decide +kernel
theorem dL_law_570 : decode cL_law 570 = .ok (.iaload, 1) := by decide +kernel
theorem dL_law_571 : decode cL_law 571 = .ok (.invokevirtual 79, 3) := by decide +kernel
theorem dL_law_574 : decode cL_law 574 = .ok (.if_icmp .eq 396, 3) := by decide +kernel
theorem dL_law_577 : decode cL_law 577 = .ok (.iconst 0, 1) := by decide +kernel
theorem dL_law_578 : decode cL_law 578 = .ok (.ireturn, 1) := by decide +kernel
theorem dL_law_579 : decode cL_law 579 = .ok (.aload_n 1, 1) := by decide +kernel
theorem dL_law_580 : decode cL_law 580 = .ok (.aload_n 0, 1) := by decide +kernel
theorem dL_law_581 : decode cL_law 581 = .ok (.iload 4, 2) := by decide +kernel
theorem dL_law_583 : decode cL_law 583 = .ok (.iconst 1, 1) := by decide +kernel
theorem dL_law_584 : decode cL_law 584 = .ok (.iadd, 1) := by decide +kernel
theorem dL_law_585 : decode cL_law 585 = .ok (.iaload, 1) := by decide +kernel
theorem dL_law_586 : decode cL_law 586 = .ok (.invokevirtual 80, 3) := by decide +kernel
theorem dL_law_589 : decode cL_law 589 = .ok (.aload_n 2, 1) := by decide +kernel
theorem dL_law_590 : decode cL_law 590 = .ok (.aload_n 0, 1) := by decide +kernel
theorem dL_law_591 : decode cL_law 591 = .ok (.iload 4, 2) := by decide +kernel
theorem dL_law_593 : decode cL_law 593 = .ok (.iconst 1, 1) := by decide +kernel
theorem dL_law_594 : decode cL_law 594 = .ok (.iadd, 1) := by decide +kernel
theorem dL_law_595 : decode cL_law 595 = .ok (.iaload, 1) := by decide +kernel
theorem dL_law_596 : decode cL_law 596 = .ok (.invokevirtual 83, 3) := by decide +kernel
theorem dL_law_599 : decode cL_law 599 = .ok (.if_icmp .eq 371, 3) := by decide +kernel
theorem dL_law_602 : decode cL_law 602 = .ok (.iconst 0, 1) := by decide +kernel
theorem dL_law_603 : decode cL_law 603 = .ok (.ireturn, 1) := by decide +kernel
theorem dL_law_604 : decode cL_law 604 = .ok (.aload_n 1, 1) := by decide +kernel
theorem dL_law_605 : decode cL_law 605 = .ok (.aload_n 0, 1) := by decide +kernel
theorem dL_law_606 : decode cL_law 606 = .ok (.iload 4, 2) := by decide +kernel
theorem dL_law_608 : decode cL_law 608 = .ok (.iconst 1, 1) := by decide +kernel
theorem dL_law_609 : decode cL_law 609 = .ok (.iadd, 1) := by decide +kernel
theorem dL_law_610 : decode cL_law 610 = .ok (.iaload, 1) := by decide +kernel
theorem dL_law_611 : decode cL_law 611 = .ok (.aload_n 0, 1) := by decide +kernel
theorem dL_law_612 : decode cL_law 612 = .ok (.iload 4, 2) := by decide +kernel
theorem dL_law_614 : decode cL_law 614 = .ok (.iconst 2, 1) := by decide +kernel
theorem dL_law_615 : decode cL_law 615 = .ok (.iadd, 1) := by decide +kernel
theorem dL_law_616 : decode cL_law 616 = .ok (.iaload, 1) := by decide +kernel
theorem dL_law_617 : decode cL_law 617 = .ok (.invokevirtual 84, 3) := by decide +kernel
theorem dL_law_620 : decode cL_law 620 = .ok (.aload_n 2, 1) := by decide +kernel
theorem dL_law_621 : decode cL_law 621 = .ok (.aload_n 0, 1) := by decide +kernel
theorem dL_law_622 : decode cL_law 622 = .ok (.iload 4, 2) := by decide +kernel
theorem dL_law_624 : decode cL_law 624 = .ok (.iconst 1, 1) := by decide +kernel
theorem dL_law_625 : decode cL_law 625 = .ok (.iadd, 1) := by decide +kernel
theorem dL_law_626 : decode cL_law 626 = .ok (.iaload, 1) := by decide +kernel
theorem dL_law_627 : decode cL_law 627 = .ok (.aload_n 0, 1) := by decide +kernel
theorem dL_law_628 : decode cL_law 628 = .ok (.iload 4, 2) := by decide +kernel
theorem dL_law_630 : decode cL_law 630 = .ok (.iconst 2, 1) := by decide +kernel
theorem dL_law_631 : decode cL_law 631 = .ok (.iadd, 1) := by decide +kernel
theorem dL_law_632 : decode cL_law 632 = .ok (.iaload, 1) := by decide +kernel
theorem dL_law_633 : decode cL_law 633 = .ok (.invokevirtual 87, 3) := by decide +kernel
theorem dL_law_636 : decode cL_law 636 = .ok (.if_icmp .eq 334, 3) := by decide +kernel
theorem dL_law_639 : decode cL_law 639 = .ok (.iconst 0, 1) := by decide +kernel
theorem dL_law_640 : decode cL_law 640 = .ok (.ireturn, 1) := by decide +kernel
theorem dL_law_641 : decode cL_law 641 = .ok (.aload_n 1, 1) := by decide +kernel
theorem dL_law_642 : decode cL_law 642 = .ok (.aload_n 0, 1) := by decide +kernel
theorem dL_law_643 : decode cL_law 643 = .ok (.iload 4, 2) := by decide +kernel
theorem dL_law_645 : decode cL_law 645 = .ok (.iconst 1, 1) := by decide +kernel
theorem dL_law_646 : decode cL_law 646 = .ok (.iadd, 1) := by decide +kernel
theorem dL_law_647 : decode cL_law 647 = .ok (.iaload, 1) := by decide +kernel
theorem dL_law_648 : decode cL_law 648 = .ok (.aload_n 0, 1) := by decide +kernel
theorem dL_law_649 : decode cL_law 649 = .ok (.iload 4, 2) := by decide +kernel
theorem dL_law_651 : decode cL_law 651 = .ok (.iconst 2, 1) := by decide +kernel
theorem dL_law_652 : decode cL_law 652 = .ok (.iadd, 1) := by decide +kernel
theorem dL_law_653 : decode cL_law 653 = .ok (.iaload, 1) := by decide +kernel
theorem dL_law_654 : decode cL_law 654 = .ok (.invokevirtual 88, 3) := by decide +kernel
theorem dL_law_657 : decode cL_law 657 = .ok (.aload_n 2, 1) := by decide +kernel
theorem dL_law_658 : decode cL_law 658 = .ok (.aload_n 0, 1) := by decide +kernel
theorem dL_law_659 : decode cL_law 659 = .ok (.iload 4, 2) := by decide +kernel
theorem dL_law_661 : decode cL_law 661 = .ok (.iconst 1, 1) := by decide +kernel
theorem dL_law_662 : decode cL_law 662 = .ok (.iadd, 1) := by decide +kernel
theorem dL_law_663 : decode cL_law 663 = .ok (.iaload, 1) := by decide +kernel
theorem dL_law_664 : decode cL_law 664 = .ok (.aload_n 0, 1) := by decide +kernel
theorem dL_law_665 : decode cL_law 665 = .ok (.iload 4, 2) := by decide +kernel
theorem dL_law_667 : decode cL_law 667 = .ok (.iconst 2, 1) := by decide +kernel
theorem dL_law_668 : decode cL_law 668 = .ok (.iadd, 1) := by decide +kernel
theorem dL_law_669 : decode cL_law 669 = .ok (.iaload, 1) := by decide +kernel
theorem dL_law_670 : decode cL_law 670 = .ok (.invokevirtual 91, 3) := by decide +kernel
theorem dL_law_673 : decode cL_law 673 = .ok (.if_icmp .eq 297, 3) := by decide +kernel
theorem dL_law_676 : decode cL_law 676 = .ok (.iconst 0, 1) := by decide +kernel
theorem dL_law_677 : decode cL_law 677 = .ok (.ireturn, 1) := by decide +kernel
theorem dL_law_678 : decode cL_law 678 = .ok (.aload_n 1, 1) := by decide +kernel
theorem dL_law_679 : decode cL_law 679 = .ok (.aload_n 0, 1) := by decide +kernel
theorem dL_law_680 : decode cL_law 680 = .ok (.iload 4, 2) := by decide +kernel
theorem dL_law_682 : decode cL_law 682 = .ok (.iconst 1, 1) := by decide +kernel
theorem dL_law_683 : decode cL_law 683 = .ok (.iadd, 1) := by decide +kernel
theorem dL_law_684 : decode cL_law 684 = .ok (.iaload, 1) := by decide +kernel
theorem dL_law_685 : decode cL_law 685 = .ok (.aload_n 0, 1) := by decide +kernel
theorem dL_law_686 : decode cL_law 686 = .ok (.iload 4, 2) := by decide +kernel
theorem dL_law_688 : decode cL_law 688 = .ok (.iconst 2, 1) := by decide +kernel
theorem dL_law_689 : decode cL_law 689 = .ok (.iadd, 1) := by decide +kernel
theorem dL_law_690 : decode cL_law 690 = .ok (.iaload, 1) := by decide +kernel
theorem dL_law_691 : decode cL_law 691 = .ok (.invokevirtual 92, 3) := by decide +kernel
theorem dL_law_694 : decode cL_law 694 = .ok (.aload_n 2, 1) := by decide +kernel
theorem dL_law_695 : decode cL_law 695 = .ok (.aload_n 0, 1) := by decide +kernel
theorem dL_law_696 : decode cL_law 696 = .ok (.iload 4, 2) := by decide +kernel
theorem dL_law_698 : decode cL_law 698 = .ok (.iconst 1, 1) := by decide +kernel
theorem dL_law_699 : decode cL_law 699 = .ok (.iadd, 1) := by decide +kernel
theorem dL_law_700 : decode cL_law 700 = .ok (.iaload, 1) := by decide +kernel
theorem dL_law_701 : decode cL_law 701 = .ok (.aload_n 0, 1) := by decide +kernel
theorem dL_law_702 : decode cL_law 702 = .ok (.iload 4, 2) := by decide +kernel
theorem dL_law_704 : decode cL_law 704 = .ok (.iconst 2, 1) := by decide +kernel
theorem dL_law_705 : decode cL_law 705 = .ok (.iadd, 1) := by decide +kernel
theorem dL_law_706 : decode cL_law 706 = .ok (.iaload, 1) := by decide +kernel
theorem dL_law_707 : decode cL_law 707 = .ok (.invokevirtual 95, 3) := by decide +kernel
theorem dL_law_710 : decode cL_law 710 = .ok (.if_icmp .eq 260, 3) := by decide +kernel
theorem dL_law_713 : decode cL_law 713 = .ok (.iconst 0, 1) := by decide +kernel
theorem dL_law_714 : decode cL_law 714 = .ok (.ireturn, 1) := by decide +kernel
theorem dL_law_715 : decode cL_law 715 = .ok (.aload_n 1, 1) := by decide +kernel
theorem dL_law_716 : decode cL_law 716 = .ok (.aload_n 0, 1) := by decide +kernel
theorem dL_law_717 : decode cL_law 717 = .ok (.iload 4, 2) := by decide +kernel
theorem dL_law_719 : decode cL_law 719 = .ok (.iconst 1, 1) := by decide +kernel
theorem dL_law_720 : decode cL_law 720 = .ok (.iadd, 1) := by decide +kernel
theorem dL_law_721 : decode cL_law 721 = .ok (.iaload, 1) := by decide +kernel
theorem dL_law_722 : decode cL_law 722 = .ok (.aload_n 0, 1) := by decide +kernel
theorem dL_law_723 : decode cL_law 723 = .ok (.iload 4, 2) := by decide +kernel
theorem dL_law_725 : decode cL_law 725 = .ok (.iconst 2, 1) := by decide +kernel
theorem dL_law_726 : decode cL_law 726 = .ok (.iadd, 1) := by decide +kernel
theorem dL_law_727 : decode cL_law 727 = .ok (.iaload, 1) := by decide +kernel
theorem dL_law_728 : decode cL_law 728 = .ok (.aload_n 0, 1) := by decide +kernel
theorem dL_law_729 : decode cL_law 729 = .ok (.iload 4, 2) := by decide +kernel
theorem dL_law_731 : decode cL_law 731 = .ok (.iconst 3, 1) := by decide +kernel
theorem dL_law_732 : decode cL_law 732 = .ok (.iadd, 1) := by decide +kernel
theorem dL_law_733 : decode cL_law 733 = .ok (.iaload, 1) := by decide +kernel
theorem dL_law_734 : decode cL_law 734 = .ok (.invokevirtual 96, 3) := by decide +kernel
theorem dL_law_737 : decode cL_law 737 = .ok (.aload_n 2, 1) := by decide +kernel
theorem dL_law_738 : decode cL_law 738 = .ok (.aload_n 0, 1) := by decide +kernel
theorem dL_law_739 : decode cL_law 739 = .ok (.iload 4, 2) := by decide +kernel
theorem dL_law_741 : decode cL_law 741 = .ok (.iconst 1, 1) := by decide +kernel
theorem dL_law_742 : decode cL_law 742 = .ok (.iadd, 1) := by decide +kernel
theorem dL_law_743 : decode cL_law 743 = .ok (.iaload, 1) := by decide +kernel
theorem dL_law_744 : decode cL_law 744 = .ok (.aload_n 0, 1) := by decide +kernel
theorem dL_law_745 : decode cL_law 745 = .ok (.iload 4, 2) := by decide +kernel
theorem dL_law_747 : decode cL_law 747 = .ok (.iconst 2, 1) := by decide +kernel
theorem dL_law_748 : decode cL_law 748 = .ok (.iadd, 1) := by decide +kernel
theorem dL_law_749 : decode cL_law 749 = .ok (.iaload, 1) := by decide +kernel
theorem dL_law_750 : decode cL_law 750 = .ok (.aload_n 0, 1) := by decide +kernel
theorem dL_law_751 : decode cL_law 751 = .ok (.iload 4, 2) := by decide +kernel
theorem dL_law_753 : decode cL_law 753 = .ok (.iconst 3, 1) := by decide +kernel
theorem dL_law_754 : decode cL_law 754 = .ok (.iadd, 1) := by decide +kernel
theorem dL_law_755 : decode cL_law 755 = .ok (.iaload, 1) := by decide +kernel
theorem dL_law_756 : decode cL_law 756 = .ok (.invokevirtual 100, 3) := by decide +kernel
theorem dL_law_759 : decode cL_law 759 = .ok (.if_icmp .eq 211, 3) := by decide +kernel
theorem dL_law_762 : decode cL_law 762 = .ok (.iconst 0, 1) := by decide +kernel
theorem dL_law_763 : decode cL_law 763 = .ok (.ireturn, 1) := by decide +kernel
theorem dL_law_764 : decode cL_law 764 = .ok (.aload_n 1, 1) := by decide +kernel
theorem dL_law_765 : decode cL_law 765 = .ok (.aload_n 0, 1) := by decide +kernel
theorem dL_law_766 : decode cL_law 766 = .ok (.iload 4, 2) := by decide +kernel
theorem dL_law_768 : decode cL_law 768 = .ok (.iconst 1, 1) := by decide +kernel
theorem dL_law_769 : decode cL_law 769 = .ok (.iadd, 1) := by decide +kernel
theorem dL_law_770 : decode cL_law 770 = .ok (.iaload, 1) := by decide +kernel
theorem dL_law_771 : decode cL_law 771 = .ok (.invokevirtual 101, 3) := by decide +kernel
theorem dL_law_774 : decode cL_law 774 = .ok (.aload_n 2, 1) := by decide +kernel
theorem dL_law_775 : decode cL_law 775 = .ok (.aload_n 0, 1) := by decide +kernel
theorem dL_law_776 : decode cL_law 776 = .ok (.iload 4, 2) := by decide +kernel
theorem dL_law_778 : decode cL_law 778 = .ok (.iconst 1, 1) := by decide +kernel
theorem dL_law_779 : decode cL_law 779 = .ok (.iadd, 1) := by decide +kernel
theorem dL_law_780 : decode cL_law 780 = .ok (.iaload, 1) := by decide +kernel
theorem dL_law_781 : decode cL_law 781 = .ok (.invokevirtual 104, 3) := by decide +kernel
theorem dL_law_784 : decode cL_law 784 = .ok (.if_icmp .eq 186, 3) := by decide +kernel
theorem dL_law_787 : decode cL_law 787 = .ok (.iconst 0, 1) := by decide +kernel
theorem dL_law_788 : decode cL_law 788 = .ok (.ireturn, 1) := by decide +kernel
theorem dL_law_789 : decode cL_law 789 = .ok (.aload_n 1, 1) := by decide +kernel
theorem dL_law_790 : decode cL_law 790 = .ok (.invokevirtual 105, 3) := by decide +kernel
theorem dL_law_793 : decode cL_law 793 = .ok (.aload_n 2, 1) := by decide +kernel
theorem dL_law_794 : decode cL_law 794 = .ok (.invokevirtual 108, 3) := by decide +kernel
theorem dL_law_797 : decode cL_law 797 = .ok (.if_icmp .eq 173, 3) := by decide +kernel
theorem dL_law_800 : decode cL_law 800 = .ok (.iconst 0, 1) := by decide +kernel
theorem dL_law_801 : decode cL_law 801 = .ok (.ireturn, 1) := by decide +kernel
theorem dL_law_802 : decode cL_law 802 = .ok (.aload_n 1, 1) := by decide +kernel
theorem dL_law_803 : decode cL_law 803 = .ok (.aload_n 0, 1) := by decide +kernel
theorem dL_law_804 : decode cL_law 804 = .ok (.iload 4, 2) := by decide +kernel
theorem dL_law_806 : decode cL_law 806 = .ok (.iconst 1, 1) := by decide +kernel
theorem dL_law_807 : decode cL_law 807 = .ok (.iadd, 1) := by decide +kernel
theorem dL_law_808 : decode cL_law 808 = .ok (.iaload, 1) := by decide +kernel
theorem dL_law_809 : decode cL_law 809 = .ok (.aload_n 3, 1) := by decide +kernel
theorem dL_law_810 : decode cL_law 810 = .ok (.invokestatic 109, 3) := by decide +kernel
theorem dL_law_813 : decode cL_law 813 = .ok (.istore 5, 2) := by decide +kernel
theorem dL_law_815 : decode cL_law 815 = .ok (.aload_n 2, 1) := by decide +kernel
theorem dL_law_816 : decode cL_law 816 = .ok (.aload_n 0, 1) := by decide +kernel
theorem dL_law_817 : decode cL_law 817 = .ok (.iload 4, 2) := by decide +kernel
theorem dL_law_819 : decode cL_law 819 = .ok (.iconst 1, 1) := by decide +kernel
theorem dL_law_820 : decode cL_law 820 = .ok (.iadd, 1) := by decide +kernel
theorem dL_law_821 : decode cL_law 821 = .ok (.iaload, 1) := by decide +kernel
theorem dL_law_822 : decode cL_law 822 = .ok (.invokevirtual 112, 3) := by decide +kernel
theorem dL_law_825 : decode cL_law 825 = .ok (.istore 6, 2) := by decide +kernel
theorem dL_law_827 : decode cL_law 827 = .ok (.aload_n 2, 1) := by decide +kernel
theorem dL_law_828 : decode cL_law 828 = .ok (.invokevirtual 60, 3) := by decide +kernel
theorem dL_law_831 : decode cL_law 831 = .ok (.iload 5, 2) := by decide +kernel
theorem dL_law_833 : decode cL_law 833 = .ok (.if_icmp .eq 5, 3) := by decide +kernel
theorem dL_law_836 : decode cL_law 836 = .ok (.iconst 0, 1) := by decide +kernel
theorem dL_law_837 : decode cL_law 837 = .ok (.ireturn, 1) := by decide +kernel
theorem dL_law_838 : decode cL_law 838 = .ok (.iload 5, 2) := by decide +kernel
theorem dL_law_840 : decode cL_law 840 = .ok (.ifCond .ne 15, 3) := by decide +kernel
theorem dL_law_843 : decode cL_law 843 = .ok (.aload_n 3, 1) := by decide +kernel
theorem dL_law_844 : decode cL_law 844 = .ok (.iconst 0, 1) := by decide +kernel
theorem dL_law_845 : decode cL_law 845 = .ok (.laload, 1) := by decide +kernel
theorem dL_law_846 : decode cL_law 846 = .ok (.iload 6, 2) := by decide +kernel
theorem dL_law_848 : decode cL_law 848 = .ok (.i2l, 1) := by decide +kernel
theorem dL_law_849 : decode cL_law 849 = .ok (.lcmp, 1) := by decide +kernel
theorem dL_law_850 : decode cL_law 850 = .ok (.ifCond .eq 5, 3) := by decide +kernel
theorem dL_law_853 : decode cL_law 853 = .ok (.iconst 0, 1) := by decide +kernel
theorem dL_law_854 : decode cL_law 854 = .ok (.ireturn, 1) := by decide +kernel
theorem dL_law_855 : decode cL_law 855 = .ok (.goto 115, 3) := by decide +kernel
theorem dL_law_858 : decode cL_law 858 = .ok (.aload_n 1, 1) := by decide +kernel
theorem dL_law_859 : decode cL_law 859 = .ok (.aload_n 0, 1) := by decide +kernel
theorem dL_law_860 : decode cL_law 860 = .ok (.iload 4, 2) := by decide +kernel
theorem dL_law_862 : decode cL_law 862 = .ok (.iconst 1, 1) := by decide +kernel
theorem dL_law_863 : decode cL_law 863 = .ok (.iadd, 1) := by decide +kernel
theorem dL_law_864 : decode cL_law 864 = .ok (.iaload, 1) := by decide +kernel
theorem dL_law_865 : decode cL_law 865 = .ok (.aload_n 0, 1) := by decide +kernel
theorem dL_law_866 : decode cL_law 866 = .ok (.iload 4, 2) := by decide +kernel
theorem dL_law_868 : decode cL_law 868 = .ok (.iconst 2, 1) := by decide +kernel
theorem dL_law_869 : decode cL_law 869 = .ok (.iadd, 1) := by decide +kernel
theorem dL_law_870 : decode cL_law 870 = .ok (.iaload, 1) := by decide +kernel
theorem dL_law_871 : decode cL_law 871 = .ok (.invokevirtual 113, 3) := by decide +kernel
theorem dL_law_874 : decode cL_law 874 = .ok (.aload_n 2, 1) := by decide +kernel
theorem dL_law_875 : decode cL_law 875 = .ok (.aload_n 0, 1) := by decide +kernel
theorem dL_law_876 : decode cL_law 876 = .ok (.iload 4, 2) := by decide +kernel
theorem dL_law_878 : decode cL_law 878 = .ok (.iconst 1, 1) := by decide +kernel
theorem dL_law_879 : decode cL_law 879 = .ok (.iadd, 1) := by decide +kernel
theorem dL_law_880 : decode cL_law 880 = .ok (.iaload, 1) := by decide +kernel
theorem dL_law_881 : decode cL_law 881 = .ok (.aload_n 0, 1) := by decide +kernel
theorem dL_law_882 : decode cL_law 882 = .ok (.iload 4, 2) := by decide +kernel
theorem dL_law_884 : decode cL_law 884 = .ok (.iconst 2, 1) := by decide +kernel
theorem dL_law_885 : decode cL_law 885 = .ok (.iadd, 1) := by decide +kernel
theorem dL_law_886 : decode cL_law 886 = .ok (.iaload, 1) := by decide +kernel
theorem dL_law_887 : decode cL_law 887 = .ok (.invokevirtual 116, 3) := by decide +kernel
theorem dL_law_890 : decode cL_law 890 = .ok (.if_icmp .eq 80, 3) := by decide +kernel
theorem dL_law_893 : decode cL_law 893 = .ok (.iconst 0, 1) := by decide +kernel
theorem dL_law_894 : decode cL_law 894 = .ok (.ireturn, 1) := by decide +kernel
theorem dL_law_895 : decode cL_law 895 = .ok (.aload_n 1, 1) := by decide +kernel
theorem dL_law_896 : decode cL_law 896 = .ok (.aload_n 0, 1) := by decide +kernel
theorem dL_law_897 : decode cL_law 897 = .ok (.iload 4, 2) := by decide +kernel
theorem dL_law_899 : decode cL_law 899 = .ok (.iconst 1, 1) := by decide +kernel
theorem dL_law_900 : decode cL_law 900 = .ok (.iadd, 1) := by decide +kernel
theorem dL_law_901 : decode cL_law 901 = .ok (.iaload, 1) := by decide +kernel
theorem dL_law_902 : decode cL_law 902 = .ok (.aload_n 0, 1) := by decide +kernel
theorem dL_law_903 : decode cL_law 903 = .ok (.iload 4, 2) := by decide +kernel
theorem dL_law_905 : decode cL_law 905 = .ok (.iconst 2, 1) := by decide +kernel
theorem dL_law_906 : decode cL_law 906 = .ok (.iadd, 1) := by decide +kernel
theorem dL_law_907 : decode cL_law 907 = .ok (.iaload, 1) := by decide +kernel
theorem dL_law_908 : decode cL_law 908 = .ok (.invokevirtual 117, 3) := by decide +kernel
theorem dL_law_911 : decode cL_law 911 = .ok (.aload_n 2, 1) := by decide +kernel
theorem dL_law_912 : decode cL_law 912 = .ok (.aload_n 0, 1) := by decide +kernel
theorem dL_law_913 : decode cL_law 913 = .ok (.iload 4, 2) := by decide +kernel
theorem dL_law_915 : decode cL_law 915 = .ok (.iconst 1, 1) := by decide +kernel
theorem dL_law_916 : decode cL_law 916 = .ok (.iadd, 1) := by decide +kernel
theorem dL_law_917 : decode cL_law 917 = .ok (.iaload, 1) := by decide +kernel
theorem dL_law_918 : decode cL_law 918 = .ok (.aload_n 0, 1) := by decide +kernel
theorem dL_law_919 : decode cL_law 919 = .ok (.iload 4, 2) := by decide +kernel
theorem dL_law_921 : decode cL_law 921 = .ok (.iconst 2, 1) := by decide +kernel
theorem dL_law_922 : decode cL_law 922 = .ok (.iadd, 1) := by decide +kernel
theorem dL_law_923 : decode cL_law 923 = .ok (.iaload, 1) := by decide +kernel
theorem dL_law_924 : decode cL_law 924 = .ok (.invokevirtual 120, 3) := by decide +kernel
theorem dL_law_927 : decode cL_law 927 = .ok (.if_icmp .eq 43, 3) := by decide +kernel
theorem dL_law_930 : decode cL_law 930 = .ok (.iconst 0, 1) := by decide +kernel
theorem dL_law_931 : decode cL_law 931 = .ok (.ireturn, 1) := by decide +kernel
theorem dL_law_932 : decode cL_law 932 = .ok (.aload_n 1, 1) := by decide +kernel
theorem dL_law_933 : decode cL_law 933 = .ok (.aload_n 0, 1) := by decide +kernel
theorem dL_law_934 : decode cL_law 934 = .ok (.iload 4, 2) := by decide +kernel
theorem dL_law_936 : decode cL_law 936 = .ok (.iconst 1, 1) := by decide +kernel
theorem dL_law_937 : decode cL_law 937 = .ok (.iadd, 1) := by decide +kernel
theorem dL_law_938 : decode cL_law 938 = .ok (.iaload, 1) := by decide +kernel
theorem dL_law_939 : decode cL_law 939 = .ok (.invokevirtual 121, 3) := by decide +kernel
theorem dL_law_942 : decode cL_law 942 = .ok (.aload_n 2, 1) := by decide +kernel
theorem dL_law_943 : decode cL_law 943 = .ok (.aload_n 0, 1) := by decide +kernel
theorem dL_law_944 : decode cL_law 944 = .ok (.iload 4, 2) := by decide +kernel
theorem dL_law_946 : decode cL_law 946 = .ok (.iconst 1, 1) := by decide +kernel
theorem dL_law_947 : decode cL_law 947 = .ok (.iadd, 1) := by decide +kernel
theorem dL_law_948 : decode cL_law 948 = .ok (.iaload, 1) := by decide +kernel
theorem dL_law_949 : decode cL_law 949 = .ok (.invokevirtual 124, 3) := by decide +kernel
theorem dL_law_952 : decode cL_law 952 = .ok (.if_icmp .eq 18, 3) := by decide +kernel
theorem dL_law_955 : decode cL_law 955 = .ok (.iconst 0, 1) := by decide +kernel
theorem dL_law_956 : decode cL_law 956 = .ok (.ireturn, 1) := by decide +kernel
theorem dL_law_957 : decode cL_law 957 = .ok (.aload_n 1, 1) := by decide +kernel
theorem dL_law_958 : decode cL_law 958 = .ok (.invokevirtual 125, 3) := by decide +kernel
theorem dL_law_961 : decode cL_law 961 = .ok (.aload_n 2, 1) := by decide +kernel
theorem dL_law_962 : decode cL_law 962 = .ok (.invokevirtual 128, 3) := by decide +kernel
theorem dL_law_965 : decode cL_law 965 = .ok (.if_icmp .eq 5, 3) := by decide +kernel
theorem dL_law_968 : decode cL_law 968 = .ok (.iconst 0, 1) := by decide +kernel
theorem dL_law_969 : decode cL_law 969 = .ok (.ireturn, 1) := by decide +kernel
theorem dL_law_970 : decode cL_law 970 = .ok (.iinc 4 6, 3) := by decide +kernel
theorem dL_law_973 : decode cL_law 973 = .ok (.goto (-950), 3) := by decide +kernel
theorem dL_law_976 : decode cL_law 976 = .ok (.iconst 1, 1) := by decide +kernel
theorem dL_law_977 : decode cL_law 977 = .ok (.ireturn, 1) := by decide +kernel
theorem wl_10_ask : WV yX10_ask cX10_ask 6 (some .int) 3 := ⟨⟨memI 853 (by decide +kernel) (by decide +kernel), memI 69 (by decide +kernel) (by decide +kernel), by decide, by decide +kernel⟩, memI 851 (by decide +kernel) (by decide +kernel), memI 852 (by decide +kernel) (by decide +kernel)⟩
theorem wl_11_ask : WV yX11_ask cX11_ask 7 (some .int) 3 := ⟨⟨memI 1370 (by decide +kernel) (by decide +kernel), memI 80 (by decide +kernel) (by decide +kernel), by decide, by decide +kernel⟩, memI 1368 (by decide +kernel) (by decide +kernel), memI 1369 (by decide +kernel) (by decide +kernel)⟩
theorem wl_10_assign : WV yX10_assign cX10_assign 3 (some .int) 0 := ⟨⟨memI 883 (by decide +kernel) (by decide +kernel), memI 69 (by decide +kernel) (by decide +kernel), by decide, by decide +kernel⟩, memI 881 (by decide +kernel) (by decide +kernel), memI 882 (by decide +kernel) (by decide +kernel)⟩
theorem wl_11_assign : WV yX11_assign cX11_assign 2 (some .int) 0 := ⟨⟨memI 1386 (by decide +kernel) (by decide +kernel), memI 80 (by decide +kernel) (by decide +kernel), by decide, by decide +kernel⟩, memI 1384 (by decide +kernel) (by decide +kernel), memI 1385 (by decide +kernel) (by decide +kernel)⟩
theorem wl_10_drop : WV yX10_drop cX10_drop 2 (some .boolean) 1 := ⟨⟨memI 870 (by decide +kernel) (by decide +kernel), memI 69 (by decide +kernel) (by decide +kernel), by decide, by decide +kernel⟩, memI 868 (by decide +kernel) (by decide +kernel), memI 869 (by decide +kernel) (by decide +kernel)⟩
theorem wl_11_drop : WV yX11_drop cX11_drop 2 (some .boolean) 1 := ⟨⟨memI 1382 (by decide +kernel) (by decide +kernel), memI 80 (by decide +kernel) (by decide +kernel), by decide, by decide +kernel⟩, memI 1380 (by decide +kernel) (by decide +kernel), memI 1381 (by decide +kernel) (by decide +kernel)⟩
theorem wl_10_end : WV yX10_end cX10_end 2 (some .boolean) 1 := ⟨⟨memI 486 (by decide +kernel) (by decide +kernel), memI 69 (by decide +kernel) (by decide +kernel), by decide, by decide +kernel⟩, memI 484 (by decide +kernel) (by decide +kernel), memI 485 (by decide +kernel) (by decide +kernel)⟩
theorem wl_11_end : WV yX11_end cX11_end 2 (some .boolean) 1 := ⟨⟨memI 1037 (by decide +kernel) (by decide +kernel), memI 80 (by decide +kernel) (by decide +kernel), by decide, by decide +kernel⟩, memI 1035 (by decide +kernel) (by decide +kernel), memI 1036 (by decide +kernel) (by decide +kernel)⟩
theorem wl_10_fault : WV yX10_fault cX10_fault 1 (some .int) 0 := ⟨⟨memI 676 (by decide +kernel) (by decide +kernel), memI 69 (by decide +kernel) (by decide +kernel), by decide, by decide +kernel⟩, memI 674 (by decide +kernel) (by decide +kernel), memI 675 (by decide +kernel) (by decide +kernel)⟩
theorem wl_11_fault : WV yX11_fault cX11_fault 1 (some .int) 0 := ⟨⟨memI 1202 (by decide +kernel) (by decide +kernel), memI 80 (by decide +kernel) (by decide +kernel), by decide, by decide +kernel⟩, memI 1200 (by decide +kernel) (by decide +kernel), memI 1201 (by decide +kernel) (by decide +kernel)⟩
theorem wl_10_feed : WV yX10_feed cX10_feed 6 (some .int) 5 := ⟨⟨memI 478 (by decide +kernel) (by decide +kernel), memI 69 (by decide +kernel) (by decide +kernel), by decide, by decide +kernel⟩, memI 476 (by decide +kernel) (by decide +kernel), memI 477 (by decide +kernel) (by decide +kernel)⟩
theorem wl_11_feed : WV yX11_feed cX11_feed 6 (some .int) 5 := ⟨⟨memI 1028 (by decide +kernel) (by decide +kernel), memI 80 (by decide +kernel) (by decide +kernel), by decide, by decide +kernel⟩, memI 1026 (by decide +kernel) (by decide +kernel), memI 1027 (by decide +kernel) (by decide +kernel)⟩
theorem wl_10_fits : WV yX10_fits cX10_fits 3 (some .boolean) 2 := ⟨⟨memI 738 (by decide +kernel) (by decide +kernel), memI 69 (by decide +kernel) (by decide +kernel), by decide, by decide +kernel⟩, memI 736 (by decide +kernel) (by decide +kernel), memI 737 (by decide +kernel) (by decide +kernel)⟩
theorem wl_11_fits : WV yX11_fits cX11_fits 3 (some .boolean) 2 := ⟨⟨memI 1290 (by decide +kernel) (by decide +kernel), memI 80 (by decide +kernel) (by decide +kernel), by decide, by decide +kernel⟩, memI 1288 (by decide +kernel) (by decide +kernel), memI 1289 (by decide +kernel) (by decide +kernel)⟩
theorem wl_10_free : WV yX10_free cX10_free 6 (some .int) 2 := ⟨⟨memI 821 (by decide +kernel) (by decide +kernel), memI 69 (by decide +kernel) (by decide +kernel), by decide, by decide +kernel⟩, memI 819 (by decide +kernel) (by decide +kernel), memI 820 (by decide +kernel) (by decide +kernel)⟩
theorem wl_11_free : WV yX11_free cX11_free 5 (some .int) 2 := ⟨⟨memI 1350 (by decide +kernel) (by decide +kernel), memI 80 (by decide +kernel) (by decide +kernel), by decide, by decide +kernel⟩, memI 1348 (by decide +kernel) (by decide +kernel), memI 1349 (by decide +kernel) (by decide +kernel)⟩
theorem wl_10_handBack : WV yX10_handBack cX10_handBack 5 (some .int) 2 := ⟨⟨memI 895 (by decide +kernel) (by decide +kernel), memI 69 (by decide +kernel) (by decide +kernel), by decide, by decide +kernel⟩, memI 893 (by decide +kernel) (by decide +kernel), memI 894 (by decide +kernel) (by decide +kernel)⟩
theorem wl_11_handBack : WV yX11_handBack cX11_handBack 5 (some .int) 2 := ⟨⟨memI 1398 (by decide +kernel) (by decide +kernel), memI 80 (by decide +kernel) (by decide +kernel), by decide, by decide +kernel⟩, memI 1396 (by decide +kernel) (by decide +kernel), memI 1397 (by decide +kernel) (by decide +kernel)⟩
theorem wl_10_lawful : WV yX10_lawful cX10_lawful 3 (some .int) 2 := ⟨⟨memI 837 (by decide +kernel) (by decide +kernel), memI 69 (by decide +kernel) (by decide +kernel), by decide, by decide +kernel⟩, memI 835 (by decide +kernel) (by decide +kernel), memI 836 (by decide +kernel) (by decide +kernel)⟩
theorem wl_11_lawful : WV yX11_lawful cX11_lawful 3 (some .int) 2 := ⟨⟨memI 1362 (by decide +kernel) (by decide +kernel), memI 80 (by decide +kernel) (by decide +kernel), by decide, by decide +kernel⟩, memI 1360 (by decide +kernel) (by decide +kernel), memI 1361 (by decide +kernel) (by decide +kernel)⟩
theorem wl_10_ledger : WV yX10_ledger cX10_ledger 4 (some .int) 2 := ⟨⟨memI 719 (by decide +kernel) (by decide +kernel), memI 69 (by decide +kernel) (by decide +kernel), by decide, by decide +kernel⟩, memI 717 (by decide +kernel) (by decide +kernel), memI 718 (by decide +kernel) (by decide +kernel)⟩
theorem wl_11_ledger : WV yX11_ledger cX11_ledger 3 (some .int) 2 := ⟨⟨memI 1258 (by decide +kernel) (by decide +kernel), memI 80 (by decide +kernel) (by decide +kernel), by decide, by decide +kernel⟩, memI 1256 (by decide +kernel) (by decide +kernel), memI 1257 (by decide +kernel) (by decide +kernel)⟩
theorem wl_10_needs : WV yX10_needs cX10_needs 3 (some .int) 1 := ⟨⟨memI 817 (by decide +kernel) (by decide +kernel), memI 69 (by decide +kernel) (by decide +kernel), by decide, by decide +kernel⟩, memI 815 (by decide +kernel) (by decide +kernel), memI 816 (by decide +kernel) (by decide +kernel)⟩
theorem wl_11_needs : WV yX11_needs cX11_needs 4 (some .int) 1 := ⟨⟨memI 1346 (by decide +kernel) (by decide +kernel), memI 80 (by decide +kernel) (by decide +kernel), by decide, by decide +kernel⟩, memI 1344 (by decide +kernel) (by decide +kernel), memI 1345 (by decide +kernel) (by decide +kernel)⟩
theorem wl_10_now : WV yX10_now cX10_now 2 (some .int) 1 := ⟨⟨memI 680 (by decide +kernel) (by decide +kernel), memI 69 (by decide +kernel) (by decide +kernel), by decide, by decide +kernel⟩, memI 678 (by decide +kernel) (by decide +kernel), memI 679 (by decide +kernel) (by decide +kernel)⟩
theorem wl_11_now : WV yX11_now cX11_now 2 (some .int) 1 := ⟨⟨memI 1206 (by decide +kernel) (by decide +kernel), memI 80 (by decide +kernel) (by decide +kernel), by decide, by decide +kernel⟩, memI 1204 (by decide +kernel) (by decide +kernel), memI 1205 (by decide +kernel) (by decide +kernel)⟩
theorem wl_10_pass : WV yX10_pass cX10_pass 2 (some .int) 1 := ⟨⟨memI 903 (by decide +kernel) (by decide +kernel), memI 69 (by decide +kernel) (by decide +kernel), by decide, by decide +kernel⟩, memI 901 (by decide +kernel) (by decide +kernel), memI 902 (by decide +kernel) (by decide +kernel)⟩
theorem wl_11_pass : WV yX11_pass cX11_pass 2 (some .int) 1 := ⟨⟨memI 1402 (by decide +kernel) (by decide +kernel), memI 80 (by decide +kernel) (by decide +kernel), by decide, by decide +kernel⟩, memI 1400 (by decide +kernel) (by decide +kernel), memI 1401 (by decide +kernel) (by decide +kernel)⟩
theorem wl_10_plan : WV yX10_plan cX10_plan 2 (some .int) 1 := ⟨⟨memI 760 (by decide +kernel) (by decide +kernel), memI 69 (by decide +kernel) (by decide +kernel), by decide, by decide +kernel⟩, memI 758 (by decide +kernel) (by decide +kernel), memI 759 (by decide +kernel) (by decide +kernel)⟩
theorem wl_11_plan : WV yX11_plan cX11_plan 2 (some .int) 1 := ⟨⟨memI 1302 (by decide +kernel) (by decide +kernel), memI 80 (by decide +kernel) (by decide +kernel), by decide, by decide +kernel⟩, memI 1300 (by decide +kernel) (by decide +kernel), memI 1301 (by decide +kernel) (by decide +kernel)⟩
theorem wl_10_served : WV yX10_served cX10_served 3 (some .int) 2 := ⟨⟨memI 808 (by decide +kernel) (by decide +kernel), memI 69 (by decide +kernel) (by decide +kernel), by decide, by decide +kernel⟩, memI 806 (by decide +kernel) (by decide +kernel), memI 807 (by decide +kernel) (by decide +kernel)⟩
theorem wl_11_served : WV yX11_served cX11_served 3 (some .int) 2 := ⟨⟨memI 1338 (by decide +kernel) (by decide +kernel), memI 80 (by decide +kernel) (by decide +kernel), by decide, by decide +kernel⟩, memI 1336 (by decide +kernel) (by decide +kernel), memI 1337 (by decide +kernel) (by decide +kernel)⟩
theorem wl_10_shortest : WV yX10_shortest cX10_shortest 8 (some .int) 2 := ⟨⟨memI 828 (by decide +kernel) (by decide +kernel), memI 69 (by decide +kernel) (by decide +kernel), by decide, by decide +kernel⟩, memI 826 (by decide +kernel) (by decide +kernel), memI 827 (by decide +kernel) (by decide +kernel)⟩
theorem wl_11_shortest : WV yX11_shortest cX11_shortest 9 (some .int) 2 := ⟨⟨memI 1358 (by decide +kernel) (by decide +kernel), memI 80 (by decide +kernel) (by decide +kernel), by decide, by decide +kernel⟩, memI 1356 (by decide +kernel) (by decide +kernel), memI 1357 (by decide +kernel) (by decide +kernel)⟩
theorem wl_10_stop : WV yX10_stop cX10_stop 5 (some .int) 2 := ⟨⟨memI 891 (by decide +kernel) (by decide +kernel), memI 69 (by decide +kernel) (by decide +kernel), by decide, by decide +kernel⟩, memI 889 (by decide +kernel) (by decide +kernel), memI 890 (by decide +kernel) (by decide +kernel)⟩
theorem wl_11_stop : WV yX11_stop cX11_stop 4 (some .int) 2 := ⟨⟨memI 1394 (by decide +kernel) (by decide +kernel), memI 80 (by decide +kernel) (by decide +kernel), by decide, by decide +kernel⟩, memI 1392 (by decide +kernel) (by decide +kernel), memI 1393 (by decide +kernel) (by decide +kernel)⟩
theorem wl_10_text : WV yX10_text cX10_text 3 (some .int) 0 := ⟨⟨memI 490 (by decide +kernel) (by decide +kernel), memI 69 (by decide +kernel) (by decide +kernel), by decide, by decide +kernel⟩, memI 488 (by decide +kernel) (by decide +kernel), memI 489 (by decide +kernel) (by decide +kernel)⟩
theorem wl_11_text : WV yX11_text cX11_text 3 (some .int) 0 := ⟨⟨memI 1123 (by decide +kernel) (by decide +kernel), memI 80 (by decide +kernel) (by decide +kernel), by decide, by decide +kernel⟩, memI 1121 (by decide +kernel) (by decide +kernel), memI 1122 (by decide +kernel) (by decide +kernel)⟩
theorem wl_10_trip : WV yX10_trip cX10_trip 4 (some .int) 2 := ⟨⟨memI 726 (by decide +kernel) (by decide +kernel), memI 69 (by decide +kernel) (by decide +kernel), by decide, by decide +kernel⟩, memI 724 (by decide +kernel) (by decide +kernel), memI 725 (by decide +kernel) (by decide +kernel)⟩
theorem wl_11_trip : WV yX11_trip cX11_trip 3 (some .int) 2 := ⟨⟨memI 1282 (by decide +kernel) (by decide +kernel), memI 80 (by decide +kernel) (by decide +kernel), by decide, by decide +kernel⟩, memI 1280 (by decide +kernel) (by decide +kernel), memI 1281 (by decide +kernel) (by decide +kernel)⟩
theorem wl_10_type : WV yX10_type cX10_type 4 (some .int) 2 := ⟨⟨memI 692 (by decide +kernel) (by decide +kernel), memI 69 (by decide +kernel) (by decide +kernel), by decide, by decide +kernel⟩, memI 690 (by decide +kernel) (by decide +kernel), memI 691 (by decide +kernel) (by decide +kernel)⟩
theorem wl_11_type : WV yX11_type cX11_type 3 (some .int) 2 := ⟨⟨memI 1230 (by decide +kernel) (by decide +kernel), memI 80 (by decide +kernel) (by decide +kernel), by decide, by decide +kernel⟩, memI 1228 (by decide +kernel) (by decide +kernel), memI 1229 (by decide +kernel) (by decide +kernel)⟩
theorem wl_10_undo : WV yX10_undo cX10_undo 3 (some .int) 0 := ⟨⟨memI 907 (by decide +kernel) (by decide +kernel), memI 69 (by decide +kernel) (by decide +kernel), by decide, by decide +kernel⟩, memI 905 (by decide +kernel) (by decide +kernel), memI 906 (by decide +kernel) (by decide +kernel)⟩
theorem wl_11_undo : WV yX11_undo cX11_undo 2 (some .int) 0 := ⟨⟨memI 1406 (by decide +kernel) (by decide +kernel), memI 80 (by decide +kernel) (by decide +kernel), by decide, by decide +kernel⟩, memI 1404 (by decide +kernel) (by decide +kernel), memI 1405 (by decide +kernel) (by decide +kernel)⟩
theorem wl_11_lorry : WV yX11_lorry cX11_lorry 3 (some .int) 2 := ⟨⟨memI 1262 (by decide +kernel) (by decide +kernel), memI 80 (by decide +kernel) (by decide +kernel), by decide, by decide +kernel⟩, memI 1260 (by decide +kernel) (by decide +kernel), memI 1261 (by decide +kernel) (by decide +kernel)⟩
theorem wl_11_home : WV yX11_home cX11_home 6 (some .int) 1 := ⟨⟨memI 1390 (by decide +kernel) (by decide +kernel), memI 80 (by decide +kernel) (by decide +kernel), by decide, by decide +kernel⟩, memI 1388 (by decide +kernel) (by decide +kernel), memI 1389 (by decide +kernel) (by decide +kernel)⟩
theorem wl_11_thrown : WV yX11_thrown cX11_thrown 1 (some .int) 0 := ⟨⟨memI 1024 (by decide +kernel) (by decide +kernel), memI 80 (by decide +kernel) (by decide +kernel), by decide, by decide +kernel⟩, memI 1022 (by decide +kernel) (by decide +kernel), memI 1023 (by decide +kernel) (by decide +kernel)⟩
theorem ll_96 : Cond.methodLink RL 96 yX10_ask ∈ gtbl := memI 850 (by decide +kernel) (by decide +kernel)
theorem ll_105 : Cond.methodLink RL 105 yX10_assign ∈ gtbl := memI 880 (by decide +kernel) (by decide +kernel)
theorem ll_101 : Cond.methodLink RL 101 yX10_drop ∈ gtbl := memI 867 (by decide +kernel) (by decide +kernel)
theorem ll_28 : Cond.methodLink RL 28 yX10_end ∈ gtbl := memI 483 (by decide +kernel) (by decide +kernel)
theorem ll_38 : Cond.methodLink RL 38 yX10_fault ∈ gtbl := memI 673 (by decide +kernel) (by decide +kernel)
theorem ll_23 : Cond.methodLink RL 23 yX10_feed ∈ gtbl := memI 475 (by decide +kernel) (by decide +kernel)
theorem ll_67 : Cond.methodLink RL 67 yX10_fits ∈ gtbl := memI 735 (by decide +kernel) (by decide +kernel)
theorem ll_84 : Cond.methodLink RL 84 yX10_free ∈ gtbl := memI 818 (by decide +kernel) (by decide +kernel)
theorem ll_117 : Cond.methodLink RL 117 yX10_handBack ∈ gtbl := memI 892 (by decide +kernel) (by decide +kernel)
theorem ll_92 : Cond.methodLink RL 92 yX10_lawful ∈ gtbl := memI 834 (by decide +kernel) (by decide +kernel)
theorem ll_50 : Cond.methodLink RL 50 yX10_ledger ∈ gtbl := memI 716 (by decide +kernel) (by decide +kernel)
theorem ll_80 : Cond.methodLink RL 80 yX10_needs ∈ gtbl := memI 814 (by decide +kernel) (by decide +kernel)
theorem ll_42 : Cond.methodLink RL 42 yX10_now ∈ gtbl := memI 677 (by decide +kernel) (by decide +kernel)
theorem ll_121 : Cond.methodLink RL 121 yX10_pass ∈ gtbl := memI 900 (by decide +kernel) (by decide +kernel)
theorem ll_72 : Cond.methodLink RL 72 yX10_plan ∈ gtbl := memI 757 (by decide +kernel) (by decide +kernel)
theorem ll_76 : Cond.methodLink RL 76 yX10_served ∈ gtbl := memI 805 (by decide +kernel) (by decide +kernel)
theorem ll_88 : Cond.methodLink RL 88 yX10_shortest ∈ gtbl := memI 825 (by decide +kernel) (by decide +kernel)
theorem ll_113 : Cond.methodLink RL 113 yX10_stop ∈ gtbl := memI 888 (by decide +kernel) (by decide +kernel)
theorem ll_33 : Cond.methodLink RL 33 yX10_text ∈ gtbl := memI 487 (by decide +kernel) (by decide +kernel)
theorem ll_63 : Cond.methodLink RL 63 yX10_trip ∈ gtbl := memI 723 (by decide +kernel) (by decide +kernel)
theorem ll_46 : Cond.methodLink RL 46 yX10_type ∈ gtbl := memI 689 (by decide +kernel) (by decide +kernel)
theorem ll_125 : Cond.methodLink RL 125 yX10_undo ∈ gtbl := memI 904 (by decide +kernel) (by decide +kernel)
theorem ll_100 : Cond.methodLink RL 100 yX11_ask ∈ gtbl := memI 1367 (by decide +kernel) (by decide +kernel)
theorem ll_108 : Cond.methodLink RL 108 yX11_assign ∈ gtbl := memI 1383 (by decide +kernel) (by decide +kernel)
theorem ll_104 : Cond.methodLink RL 104 yX11_drop ∈ gtbl := memI 1379 (by decide +kernel) (by decide +kernel)
theorem ll_32 : Cond.methodLink RL 32 yX11_end ∈ gtbl := memI 1034 (by decide +kernel) (by decide +kernel)
theorem ll_41 : Cond.methodLink RL 41 yX11_fault ∈ gtbl := memI 1199 (by decide +kernel) (by decide +kernel)
theorem ll_27 : Cond.methodLink RL 27 yX11_feed ∈ gtbl := memI 1025 (by decide +kernel) (by decide +kernel)
theorem ll_71 : Cond.methodLink RL 71 yX11_fits ∈ gtbl := memI 1287 (by decide +kernel) (by decide +kernel)
theorem ll_87 : Cond.methodLink RL 87 yX11_free ∈ gtbl := memI 1347 (by decide +kernel) (by decide +kernel)
theorem ll_120 : Cond.methodLink RL 120 yX11_handBack ∈ gtbl := memI 1395 (by decide +kernel) (by decide +kernel)
theorem ll_112 : Cond.methodLink RL 112 yX11_home ∈ gtbl := memI 1387 (by decide +kernel) (by decide +kernel)
theorem ll_95 : Cond.methodLink RL 95 yX11_lawful ∈ gtbl := memI 1359 (by decide +kernel) (by decide +kernel)
theorem ll_53 : Cond.methodLink RL 53 yX11_ledger ∈ gtbl := memI 1255 (by decide +kernel) (by decide +kernel)
theorem ll_59 : Cond.methodLink RL 59 yX11_lorry ∈ gtbl := memI 1259 (by decide +kernel) (by decide +kernel)
theorem ll_83 : Cond.methodLink RL 83 yX11_needs ∈ gtbl := memI 1343 (by decide +kernel) (by decide +kernel)
theorem ll_45 : Cond.methodLink RL 45 yX11_now ∈ gtbl := memI 1203 (by decide +kernel) (by decide +kernel)
theorem ll_124 : Cond.methodLink RL 124 yX11_pass ∈ gtbl := memI 1399 (by decide +kernel) (by decide +kernel)
theorem ll_75 : Cond.methodLink RL 75 yX11_plan ∈ gtbl := memI 1299 (by decide +kernel) (by decide +kernel)
theorem ll_79 : Cond.methodLink RL 79 yX11_served ∈ gtbl := memI 1335 (by decide +kernel) (by decide +kernel)
theorem ll_91 : Cond.methodLink RL 91 yX11_shortest ∈ gtbl := memI 1355 (by decide +kernel) (by decide +kernel)
theorem ll_116 : Cond.methodLink RL 116 yX11_stop ∈ gtbl := memI 1391 (by decide +kernel) (by decide +kernel)
theorem ll_37 : Cond.methodLink RL 37 yX11_text ∈ gtbl := memI 1120 (by decide +kernel) (by decide +kernel)
theorem ll_60 : Cond.methodLink RL 60 yX11_thrown ∈ gtbl := memI 1021 (by decide +kernel) (by decide +kernel)
theorem ll_66 : Cond.methodLink RL 66 yX11_trip ∈ gtbl := memI 1279 (by decide +kernel) (by decide +kernel)
theorem ll_49 : Cond.methodLink RL 49 yX11_type ∈ gtbl := memI 1227 (by decide +kernel) (by decide +kernel)
theorem ll_128 : Cond.methodLink RL 128 yX11_undo ∈ gtbl := memI 1403 (by decide +kernel) (by decide +kernel)
theorem ll_54 : Cond.methodLink RL 54 yL_lorry ∈ gtbl := memI 938 (by decide +kernel) (by decide +kernel)
theorem ls_lorry : Cond.static yL_lorry ∈ gtbl := memI 939 (by decide +kernel) (by decide +kernel)
theorem lc_lorry : Cond.codeWith yL_lorry cL_lorry 5 (some .int) hhL ∈ gtbl := memI 940 (by decide +kernel) (by decide +kernel)
theorem ll_109 : Cond.methodLink RL 109 yL_home ∈ gtbl := memI 1012 (by decide +kernel) (by decide +kernel)
theorem ls_home : Cond.static yL_home ∈ gtbl := memI 1013 (by decide +kernel) (by decide +kernel)
theorem lc_home : Cond.codeWith yL_home cL_home 4 (some .int) hhH ∈ gtbl := memI 1014 (by decide +kernel) (by decide +kernel)
theorem li_law : Cond.initialized RL ∈ gtbl := memI 68 (by decide +kernel) (by decide +kernel)
