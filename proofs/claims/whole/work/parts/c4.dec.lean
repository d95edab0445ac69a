/-! THE LAW: its record, its rows -/
def m_Law : xY := (⟨"BracketHouseLaw", "law", "([I)Z"⟩, code, 4, some .boolean)
theorem d_Law_0 : decode m_Law.2.1 0 = .ok (.new 7, 3) := by decide +kernel
theorem d_Law_3 : decode m_Law.2.1 3 = .ok (.dup, 1) := by decide +kernel
theorem d_Law_4 : decode m_Law.2.1 4 = .ok (.invokespecial 9, 3) := by decide +kernel
theorem d_Law_7 : decode m_Law.2.1 7 = .ok (.astore_n 1, 1) := by decide +kernel
theorem d_Law_8 : decode m_Law.2.1 8 = .ok (.new 10, 3) := by decide +kernel
theorem d_Law_11 : decode m_Law.2.1 11 = .ok (.dup, 1) := by decide +kernel
theorem d_Law_12 : decode m_Law.2.1 12 = .ok (.invokespecial 12, 3) := by decide +kernel
theorem d_Law_15 : decode m_Law.2.1 15 = .ok (.astore_n 2, 1) := by decide +kernel
theorem d_Law_16 : decode m_Law.2.1 16 = .ok (.iconst 0, 1) := by decide +kernel
theorem d_Law_17 : decode m_Law.2.1 17 = .ok (.istore_n 3, 1) := by decide +kernel
theorem d_Law_18 : decode m_Law.2.1 18 = .ok (.iload_n 3, 1) := by decide +kernel
theorem d_Law_19 : decode m_Law.2.1 19 = .ok (.aload_n 0, 1) := by decide +kernel
theorem d_Law_20 : decode m_Law.2.1 20 = .ok (.arraylength, 1) := by decide +kernel
theorem d_Law_21 : decode m_Law.2.1 21 = .ok (.bipush 6, 2) := by decide +kernel
theorem d_Law_23 : decode m_Law.2.1 23 = .ok (.isub, 1) := by decide +kernel
theorem d_Law_24 : decode m_Law.2.1 24 = .ok (.if_icmp .gt 1085, 3) := by decide +kernel
theorem d_Law_27 : decode m_Law.2.1 27 = .ok (.aload_n 0, 1) := by decide +kernel
theorem d_Law_28 : decode m_Law.2.1 28 = .ok (.iload_n 3, 1) := by decide +kernel
theorem d_Law_29 : decode m_Law.2.1 29 = .ok (.iaload, 1) := by decide +kernel
theorem d_Law_30 : decode m_Law.2.1 30 = .ok (.bipush 63, 2) := by decide +kernel
theorem d_Law_32 : decode m_Law.2.1 32 = .ok (.iand, 1) := by decide +kernel
theorem d_Law_33 : decode m_Law.2.1 33 = .ok (.tableswitch 1070 0 35 #[159, 192, 255, 278, 291, 304, 317, 330, 343, 356, 379, 422, 455, 478, 511, 524, 537, 570, 583, 616, 639, 662, 685, 708, 742, 815, 829, 852, 885, 909, 932, 965, 988, 1011, 1034, 1057], 159) := by decide +kernel
theorem d_Law_192 : decode m_Law.2.1 192 = .ok (.aload_n 1, 1) := by decide +kernel
theorem d_Law_193 : decode m_Law.2.1 193 = .ok (.aload_n 0, 1) := by decide +kernel
theorem d_Law_194 : decode m_Law.2.1 194 = .ok (.iload_n 3, 1) := by decide +kernel
theorem d_Law_195 : decode m_Law.2.1 195 = .ok (.iconst 1, 1) := by decide +kernel
theorem d_Law_196 : decode m_Law.2.1 196 = .ok (.iadd, 1) := by decide +kernel
theorem d_Law_197 : decode m_Law.2.1 197 = .ok (.iaload, 1) := by decide +kernel
theorem d_Law_198 : decode m_Law.2.1 198 = .ok (.aload_n 0, 1) := by decide +kernel
theorem d_Law_199 : decode m_Law.2.1 199 = .ok (.iload_n 3, 1) := by decide +kernel
theorem d_Law_200 : decode m_Law.2.1 200 = .ok (.iconst 2, 1) := by decide +kernel
theorem d_Law_201 : decode m_Law.2.1 201 = .ok (.iadd, 1) := by decide +kernel
theorem d_Law_202 : decode m_Law.2.1 202 = .ok (.iaload, 1) := by decide +kernel
theorem d_Law_203 : decode m_Law.2.1 203 = .ok (.invokevirtual 13, 3) := by decide +kernel
theorem d_Law_206 : decode m_Law.2.1 206 = .ok (.aload_n 2, 1) := by decide +kernel
theorem d_Law_207 : decode m_Law.2.1 207 = .ok (.aload_n 0, 1) := by decide +kernel
theorem d_Law_208 : decode m_Law.2.1 208 = .ok (.iload_n 3, 1) := by decide +kernel
theorem d_Law_209 : decode m_Law.2.1 209 = .ok (.iconst 1, 1) := by decide +kernel
theorem d_Law_210 : decode m_Law.2.1 210 = .ok (.iadd, 1) := by decide +kernel
theorem d_Law_211 : decode m_Law.2.1 211 = .ok (.iaload, 1) := by decide +kernel
theorem d_Law_212 : decode m_Law.2.1 212 = .ok (.aload_n 0, 1) := by decide +kernel
theorem d_Law_213 : decode m_Law.2.1 213 = .ok (.iload_n 3, 1) := by decide +kernel
theorem d_Law_214 : decode m_Law.2.1 214 = .ok (.iconst 2, 1) := by decide +kernel
theorem d_Law_215 : decode m_Law.2.1 215 = .ok (.iadd, 1) := by decide +kernel
theorem d_Law_216 : decode m_Law.2.1 216 = .ok (.iaload, 1) := by decide +kernel
theorem d_Law_217 : decode m_Law.2.1 217 = .ok (.invokevirtual 17, 3) := by decide +kernel
theorem d_Law_220 : decode m_Law.2.1 220 = .ok (.if_icmp .eq 883, 3) := by decide +kernel
theorem d_Law_223 : decode m_Law.2.1 223 = .ok (.iconst 0, 1) := by decide +kernel
theorem d_Law_224 : decode m_Law.2.1 224 = .ok (.ireturn, 1) := by decide +kernel
theorem d_Law_225 : decode m_Law.2.1 225 = .ok (.aload_n 1, 1) := by decide +kernel
theorem d_Law_226 : decode m_Law.2.1 226 = .ok (.aload_n 0, 1) := by decide +kernel
theorem d_Law_227 : decode m_Law.2.1 227 = .ok (.iload_n 3, 1) := by decide +kernel
theorem d_Law_228 : decode m_Law.2.1 228 = .ok (.iconst 1, 1) := by decide +kernel
theorem d_Law_229 : decode m_Law.2.1 229 = .ok (.iadd, 1) := by decide +kernel
theorem d_Law_230 : decode m_Law.2.1 230 = .ok (.iaload, 1) := by decide +kernel
theorem d_Law_231 : decode m_Law.2.1 231 = .ok (.aload_n 0, 1) := by decide +kernel
theorem d_Law_232 : decode m_Law.2.1 232 = .ok (.iload_n 3, 1) := by decide +kernel
theorem d_Law_233 : decode m_Law.2.1 233 = .ok (.iconst 2, 1) := by decide +kernel
theorem d_Law_234 : decode m_Law.2.1 234 = .ok (.iadd, 1) := by decide +kernel
theorem d_Law_235 : decode m_Law.2.1 235 = .ok (.iaload, 1) := by decide +kernel
theorem d_Law_236 : decode m_Law.2.1 236 = .ok (.aload_n 0, 1) := by decide +kernel
theorem d_Law_237 : decode m_Law.2.1 237 = .ok (.iload_n 3, 1) := by decide +kernel
theorem d_Law_238 : decode m_Law.2.1 238 = .ok (.iconst 3, 1) := by decide +kernel
theorem d_Law_239 : decode m_Law.2.1 239 = .ok (.iadd, 1) := by decide +kernel
theorem d_Law_240 : decode m_Law.2.1 240 = .ok (.iaload, 1) := by decide +kernel
theorem d_Law_241 : decode m_Law.2.1 241 = .ok (.aload_n 0, 1) := by decide +kernel
theorem d_Law_242 : decode m_Law.2.1 242 = .ok (.iload_n 3, 1) := by decide +kernel
theorem d_Law_243 : decode m_Law.2.1 243 = .ok (.iconst 4, 1) := by decide +kernel
theorem d_Law_244 : decode m_Law.2.1 244 = .ok (.iadd, 1) := by decide +kernel
theorem d_Law_245 : decode m_Law.2.1 245 = .ok (.iaload, 1) := by decide +kernel
theorem d_Law_246 : decode m_Law.2.1 246 = .ok (.aload_n 0, 1) := by decide +kernel
theorem d_Law_247 : decode m_Law.2.1 247 = .ok (.iload_n 3, 1) := by decide +kernel
theorem d_Law_248 : decode m_Law.2.1 248 = .ok (.iconst 5, 1) := by decide +kernel
theorem d_Law_249 : decode m_Law.2.1 249 = .ok (.iadd, 1) := by decide +kernel
theorem d_Law_250 : decode m_Law.2.1 250 = .ok (.iaload, 1) := by decide +kernel
theorem d_Law_251 : decode m_Law.2.1 251 = .ok (.invokevirtual 18, 3) := by decide +kernel
theorem d_Law_254 : decode m_Law.2.1 254 = .ok (.aload_n 2, 1) := by decide +kernel
theorem d_Law_255 : decode m_Law.2.1 255 = .ok (.aload_n 0, 1) := by decide +kernel
theorem d_Law_256 : decode m_Law.2.1 256 = .ok (.iload_n 3, 1) := by decide +kernel
theorem d_Law_257 : decode m_Law.2.1 257 = .ok (.iconst 1, 1) := by decide +kernel
theorem d_Law_258 : decode m_Law.2.1 258 = .ok (.iadd, 1) := by decide +kernel
theorem d_Law_259 : decode m_Law.2.1 259 = .ok (.iaload, 1) := by decide +kernel
theorem d_Law_260 : decode m_Law.2.1 260 = .ok (.aload_n 0, 1) := by decide +kernel
theorem d_Law_261 : decode m_Law.2.1 261 = .ok (.iload_n 3, 1) := by decide +kernel
theorem d_Law_262 : decode m_Law.2.1 262 = .ok (.iconst 2, 1) := by decide +kernel
theorem d_Law_263 : decode m_Law.2.1 263 = .ok (.iadd, 1) := by decide +kernel
theorem d_Law_264 : decode m_Law.2.1 264 = .ok (.iaload, 1) := by decide +kernel
theorem d_Law_265 : decode m_Law.2.1 265 = .ok (.aload_n 0, 1) := by decide +kernel
theorem d_Law_266 : decode m_Law.2.1 266 = .ok (.iload_n 3, 1) := by decide +kernel
theorem d_Law_267 : decode m_Law.2.1 267 = .ok (.iconst 3, 1) := by decide +kernel
theorem d_Law_268 : decode m_Law.2.1 268 = .ok (.iadd, 1) := by decide +kernel
theorem d_Law_269 : decode m_Law.2.1 269 = .ok (.iaload, 1) := by decide +kernel
theorem d_Law_270 : decode m_Law.2.1 270 = .ok (.aload_n 0, 1) := by decide +kernel
theorem d_Law_271 : decode m_Law.2.1 271 = .ok (.iload_n 3, 1) := by decide +kernel
theorem d_Law_272 : decode m_Law.2.1 272 = .ok (.iconst 4, 1) := by decide +kernel
theorem d_Law_273 : decode m_Law.2.1 273 = .ok (.iadd, 1) := by decide +kernel
theorem d_Law_274 : decode m_Law.2.1 274 = .ok (.iaload, 1) := by decide +kernel
theorem d_Law_275 : decode m_Law.2.1 275 = .ok (.aload_n 0, 1) := by decide +kernel
theorem d_Law_276 : decode m_Law.2.1 276 = .ok (.iload_n 3, 1) := by decide +kernel
theorem d_Law_277 : decode m_Law.2.1 277 = .ok (.iconst 5, 1) := by decide +kernel
theorem d_Law_278 : decode m_Law.2.1 278 = .ok (.iadd, 1) := by decide +kernel
theorem d_Law_279 : decode m_Law.2.1 279 = .ok (.iaload, 1) := by decide +kernel
theorem d_Law_280 : decode m_Law.2.1 280 = .ok (.invokevirtual 22, 3) := by decide +kernel
theorem d_Law_283 : decode m_Law.2.1 283 = .ok (.if_icmp .eq 820, 3) := by decide +kernel
theorem d_Law_286 : decode m_Law.2.1 286 = .ok (.iconst 0, 1) := by decide +kernel
theorem d_Law_287 : decode m_Law.2.1 287 = .ok (.ireturn, 1) := by decide +kernel
theorem d_Law_288 : decode m_Law.2.1 288 = .ok (.aload_n 1, 1) := by decide +kernel
theorem d_Law_289 : decode m_Law.2.1 289 = .ok (.aload_n 0, 1) := by decide +kernel
theorem d_Law_290 : decode m_Law.2.1 290 = .ok (.iload_n 3, 1) := by decide +kernel
theorem d_Law_291 : decode m_Law.2.1 291 = .ok (.iconst 1, 1) := by decide +kernel
theorem d_Law_292 : decode m_Law.2.1 292 = .ok (.iadd, 1) := by decide +kernel
theorem d_Law_293 : decode m_Law.2.1 293 = .ok (.iaload, 1) := by decide +kernel
theorem d_Law_294 : decode m_Law.2.1 294 = .ok (.invokevirtual 23, 3) := by decide +kernel
theorem d_Law_297 : decode m_Law.2.1 297 = .ok (.aload_n 2, 1) := by decide +kernel
theorem d_Law_298 : decode m_Law.2.1 298 = .ok (.aload_n 0, 1) := by decide +kernel
theorem d_Law_299 : decode m_Law.2.1 299 = .ok (.iload_n 3, 1) := by decide +kernel
theorem d_Law_300 : decode m_Law.2.1 300 = .ok (.iconst 1, 1) := by decide +kernel
theorem d_Law_301 : decode m_Law.2.1 301 = .ok (.iadd, 1) := by decide +kernel
theorem d_Law_302 : decode m_Law.2.1 302 = .ok (.iaload, 1) := by decide +kernel
theorem d_Law_303 : decode m_Law.2.1 303 = .ok (.invokevirtual 27, 3) := by decide +kernel
theorem d_Law_306 : decode m_Law.2.1 306 = .ok (.if_icmp .eq 797, 3) := by decide +kernel
theorem d_Law_309 : decode m_Law.2.1 309 = .ok (.iconst 0, 1) := by decide +kernel
theorem d_Law_310 : decode m_Law.2.1 310 = .ok (.ireturn, 1) := by decide +kernel
theorem d_Law_311 : decode m_Law.2.1 311 = .ok (.aload_n 1, 1) := by decide +kernel
theorem d_Law_312 : decode m_Law.2.1 312 = .ok (.invokevirtual 28, 3) := by decide +kernel
theorem d_Law_315 : decode m_Law.2.1 315 = .ok (.aload_n 2, 1) := by decide +kernel
theorem d_Law_316 : decode m_Law.2.1 316 = .ok (.invokevirtual 32, 3) := by decide +kernel
theorem d_Law_319 : decode m_Law.2.1 319 = .ok (.if_icmp .eq 784, 3) := by decide +kernel
theorem d_Law_322 : decode m_Law.2.1 322 = .ok (.iconst 0, 1) := by decide +kernel
theorem d_Law_323 : decode m_Law.2.1 323 = .ok (.ireturn, 1) := by decide +kernel
theorem d_Law_324 : decode m_Law.2.1 324 = .ok (.aload_n 1, 1) := by decide +kernel
theorem d_Law_325 : decode m_Law.2.1 325 = .ok (.invokevirtual 33, 3) := by decide +kernel
theorem d_Law_328 : decode m_Law.2.1 328 = .ok (.aload_n 2, 1) := by decide +kernel
theorem d_Law_329 : decode m_Law.2.1 329 = .ok (.invokevirtual 36, 3) := by decide +kernel
theorem d_Law_332 : decode m_Law.2.1 332 = .ok (.if_icmp .eq 771, 3) := by decide +kernel
theorem d_Law_335 : decode m_Law.2.1 335 = .ok (.iconst 0, 1) := by decide +kernel
theorem d_Law_336 : decode m_Law.2.1 336 = .ok (.ireturn, 1) := by decide +kernel
theorem d_Law_337 : decode m_Law.2.1 337 = .ok (.aload_n 1, 1) := by decide +kernel
theorem d_Law_338 : decode m_Law.2.1 338 = .ok (.invokevirtual 37, 3) := by decide +kernel
theorem d_Law_341 : decode m_Law.2.1 341 = .ok (.aload_n 2, 1) := by decide +kernel
theorem d_Law_342 : decode m_Law.2.1 342 = .ok (.invokevirtual 40, 3) := by decide +kernel
theorem d_Law_345 : decode m_Law.2.1 345 = .ok (.if_icmp .eq 758, 3) := by decide +kernel
theorem d_Law_348 : decode m_Law.2.1 348 = .ok (.iconst 0, 1) := by decide +kernel
theorem d_Law_349 : decode m_Law.2.1 349 = .ok (.ireturn, 1) := by decide +kernel
theorem d_Law_350 : decode m_Law.2.1 350 = .ok (.aload_n 1, 1) := by decide +kernel
theorem d_Law_351 : decode m_Law.2.1 351 = .ok (.invokevirtual 41, 3) := by decide +kernel
theorem d_Law_354 : decode m_Law.2.1 354 = .ok (.aload_n 2, 1) := by decide +kernel
theorem d_Law_355 : decode m_Law.2.1 355 = .ok (.invokevirtual 44, 3) := by decide +kernel
theorem d_Law_358 : decode m_Law.2.1 358 = .ok (.if_icmp .eq 745, 3) := by decide +kernel
theorem d_Law_361 : decode m_Law.2.1 361 = .ok (.iconst 0, 1) := by decide +kernel
theorem d_Law_362 : decode m_Law.2.1 362 = .ok (.ireturn, 1) := by decide +kernel
theorem d_Law_363 : decode m_Law.2.1 363 = .ok (.aload_n 1, 1) := by decide +kernel
theorem d_Law_364 : decode m_Law.2.1 364 = .ok (.invokevirtual 45, 3) := by decide +kernel
theorem d_Law_367 : decode m_Law.2.1 367 = .ok (.aload_n 2, 1) := by decide +kernel
theorem d_Law_368 : decode m_Law.2.1 368 = .ok (.invokevirtual 48, 3) := by decide +kernel
theorem d_Law_371 : decode m_Law.2.1 371 = .ok (.if_icmp .eq 732, 3) := by decide +kernel
theorem d_Law_374 : decode m_Law.2.1 374 = .ok (.iconst 0, 1) := by decide +kernel
theorem d_Law_375 : decode m_Law.2.1 375 = .ok (.ireturn, 1) := by decide +kernel
theorem d_Law_376 : decode m_Law.2.1 376 = .ok (.aload_n 1, 1) := by decide +kernel
theorem d_Law_377 : decode m_Law.2.1 377 = .ok (.invokevirtual 49, 3) := by decide +kernel
theorem d_Law_380 : decode m_Law.2.1 380 = .ok (.aload_n 2, 1) := by decide +kernel
theorem d_Law_381 : decode m_Law.2.1 381 = .ok (.invokevirtual 52, 3) := by decide +kernel
theorem d_Law_384 : decode m_Law.2.1 384 = .ok (.if_icmp .eq 719, 3) := by decide +kernel
theorem d_Law_387 : decode m_Law.2.1 387 = .ok (.iconst 0, 1) := by decide +kernel
theorem d_Law_388 : decode m_Law.2.1 388 = .ok (.ireturn, 1) := by decide +kernel
theorem d_Law_389 : decode m_Law.2.1 389 = .ok (.aload_n 1, 1) := by decide +kernel
theorem d_Law_390 : decode m_Law.2.1 390 = .ok (.aload_n 0, 1) := by decide +kernel
theorem d_Law_391 : decode m_Law.2.1 391 = .ok (.iload_n 3, 1) := by decide +kernel
theorem d_Law_392 : decode m_Law.2.1 392 = .ok (.iconst 1, 1) := by decide +kernel
theorem d_Law_393 : decode m_Law.2.1 393 = .ok (.iadd, 1) := by decide +kernel
theorem d_Law_394 : decode m_Law.2.1 394 = .ok (.iaload, 1) := by decide +kernel
theorem d_Law_395 : decode m_Law.2.1 395 = .ok (.invokevirtual 53, 3) := by decide +kernel
theorem d_Law_398 : decode m_Law.2.1 398 = .ok (.aload_n 2, 1) := by decide +kernel
theorem d_Law_399 : decode m_Law.2.1 399 = .ok (.aload_n 0, 1) := by decide +kernel
theorem d_Law_400 : decode m_Law.2.1 400 = .ok (.iload_n 3, 1) := by decide +kernel
theorem d_Law_401 : decode m_Law.2.1 401 = .ok (.iconst 1, 1) := by decide +kernel
theorem d_Law_402 : decode m_Law.2.1 402 = .ok (.iadd, 1) := by decide +kernel
theorem d_Law_403 : decode m_Law.2.1 403 = .ok (.iaload, 1) := by decide +kernel
theorem d_Law_404 : decode m_Law.2.1 404 = .ok (.invokevirtual 56, 3) := by decide +kernel
theorem d_Law_407 : decode m_Law.2.1 407 = .ok (.if_icmp .eq 696, 3) := by decide +kernel
theorem d_Law_410 : decode m_Law.2.1 410 = .ok (.iconst 0, 1) := by decide +kernel
theorem d_Law_411 : decode m_Law.2.1 411 = .ok (.ireturn, 1) := by decide +kernel
theorem d_Law_412 : decode m_Law.2.1 412 = .ok (.aload_n 1, 1) := by decide +kernel
theorem d_Law_413 : decode m_Law.2.1 413 = .ok (.aload_n 0, 1) := by decide +kernel
theorem d_Law_414 : decode m_Law.2.1 414 = .ok (.iload_n 3, 1) := by decide +kernel
theorem d_Law_415 : decode m_Law.2.1 415 = .ok (.iconst 1, 1) := by decide +kernel
theorem d_Law_416 : decode m_Law.2.1 416 = .ok (.iadd, 1) := by decide +kernel
theorem d_Law_417 : decode m_Law.2.1 417 = .ok (.iaload, 1) := by decide +kernel
theorem d_Law_418 : decode m_Law.2.1 418 = .ok (.aload_n 0, 1) := by decide +kernel
theorem d_Law_419 : decode m_Law.2.1 419 = .ok (.iload_n 3, 1) := by decide +kernel
theorem d_Law_420 : decode m_Law.2.1 420 = .ok (.iconst 2, 1) := by decide +kernel
theorem d_Law_421 : decode m_Law.2.1 421 = .ok (.iadd, 1) := by decide +kernel
theorem d_Law_422 : decode m_Law.2.1 422 = .ok (.iaload, 1) := by decide +kernel
theorem d_Law_423 : decode m_Law.2.1 423 = .ok (.aload_n 0, 1) := by decide +kernel
theorem d_Law_424 : decode m_Law.2.1 424 = .ok (.iload_n 3, 1) := by decide +kernel
theorem d_Law_425 : decode m_Law.2.1 425 = .ok (.iconst 3, 1) := by decide +kernel
theorem d_Law_426 : decode m_Law.2.1 426 = .ok (.iadd, 1) := by decide +kernel
theorem d_Law_427 : decode m_Law.2.1 427 = .ok (.iaload, 1) := by decide +kernel
theorem d_Law_428 : decode m_Law.2.1 428 = .ok (.invokevirtual 57, 3) := by decide +kernel
theorem d_Law_431 : decode m_Law.2.1 431 = .ok (.aload_n 2, 1) := by decide +kernel
theorem d_Law_432 : decode m_Law.2.1 432 = .ok (.aload_n 0, 1) := by decide +kernel
theorem d_Law_433 : decode m_Law.2.1 433 = .ok (.iload_n 3, 1) := by decide +kernel
theorem d_Law_434 : decode m_Law.2.1 434 = .ok (.iconst 1, 1) := by decide +kernel
theorem d_Law_435 : decode m_Law.2.1 435 = .ok (.iadd, 1) := by decide +kernel
theorem d_Law_436 : decode m_Law.2.1 436 = .ok (.iaload, 1) := by decide +kernel
theorem d_Law_437 : decode m_Law.2.1 437 = .ok (.aload_n 0, 1) := by decide +kernel
theorem d_Law_438 : decode m_Law.2.1 438 = .ok (.iload_n 3, 1) := by decide +kernel
theorem d_Law_439 : decode m_Law.2.1 439 = .ok (.iconst 2, 1) := by decide +kernel
theorem d_Law_440 : decode m_Law.2.1 440 = .ok (.iadd, 1) := by decide +kernel
theorem d_Law_441 : decode m_Law.2.1 441 = .ok (.iaload, 1) := by decide +kernel
theorem d_Law_442 : decode m_Law.2.1 442 = .ok (.aload_n 0, 1) := by decide +kernel
theorem d_Law_443 : decode m_Law.2.1 443 = .ok (.iload_n 3, 1) := by decide +kernel
theorem d_Law_444 : decode m_Law.2.1 444 = .ok (.iconst 3, 1) := by decide +kernel
theorem d_Law_445 : decode m_Law.2.1 445 = .ok (.iadd, 1) := by decide +kernel
theorem d_Law_446 : decode m_Law.2.1 446 = .ok (.iaload, 1) := by decide +kernel
theorem d_Law_447 : decode m_Law.2.1 447 = .ok (.invokevirtual 61, 3) := by decide +kernel
theorem d_Law_450 : decode m_Law.2.1 450 = .ok (.if_icmp .eq 653, 3) := by decide +kernel
theorem d_Law_453 : decode m_Law.2.1 453 = .ok (.iconst 0, 1) := by decide +kernel
theorem d_Law_454 : decode m_Law.2.1 454 = .ok (.ireturn, 1) := by decide +kernel
theorem d_Law_455 : decode m_Law.2.1 455 = .ok (.aload_n 1, 1) := by decide +kernel
theorem d_Law_456 : decode m_Law.2.1 456 = .ok (.aload_n 0, 1) := by decide +kernel
theorem d_Law_457 : decode m_Law.2.1 457 = .ok (.iload_n 3, 1) := by decide +kernel
theorem d_Law_458 : decode m_Law.2.1 458 = .ok (.iconst 1, 1) := by decide +kernel
theorem d_Law_459 : decode m_Law.2.1 459 = .ok (.iadd, 1) := by decide +kernel
theorem d_Law_460 : decode m_Law.2.1 460 = .ok (.iaload, 1) := by decide +kernel
theorem d_Law_461 : decode m_Law.2.1 461 = .ok (.aload_n 0, 1) := by decide +kernel
theorem d_Law_462 : decode m_Law.2.1 462 = .ok (.iload_n 3, 1) := by decide +kernel
theorem d_Law_463 : decode m_Law.2.1 463 = .ok (.iconst 2, 1) := by decide +kernel
theorem d_Law_464 : decode m_Law.2.1 464 = .ok (.iadd, 1) := by decide +kernel
theorem d_Law_465 : decode m_Law.2.1 465 = .ok (.iaload, 1) := by decide +kernel
theorem d_Law_466 : decode m_Law.2.1 466 = .ok (.invokevirtual 62, 3) := by decide +kernel
theorem d_Law_469 : decode m_Law.2.1 469 = .ok (.aload_n 2, 1) := by decide +kernel
theorem d_Law_470 : decode m_Law.2.1 470 = .ok (.aload_n 0, 1) := by decide +kernel
theorem d_Law_471 : decode m_Law.2.1 471 = .ok (.iload_n 3, 1) := by decide +kernel
theorem d_Law_472 : decode m_Law.2.1 472 = .ok (.iconst 1, 1) := by decide +kernel
theorem d_Law_473 : decode m_Law.2.1 473 = .ok (.iadd, 1) := by decide +kernel
theorem d_Law_474 : decode m_Law.2.1 474 = .ok (.iaload, 1) := by decide +kernel
theorem d_Law_475 : decode m_Law.2.1 475 = .ok (.aload_n 0, 1) := by decide +kernel
theorem d_Law_476 : decode m_Law.2.1 476 = .ok (.iload_n 3, 1) := by decide +kernel
theorem d_Law_477 : decode m_Law.2.1 477 = .ok (.iconst 2, 1) := by decide +kernel
theorem d_Law_478 : decode m_Law.2.1 478 = .ok (.iadd, 1) := by decide +kernel
theorem d_Law_479 : decode m_Law.2.1 479 = .ok (.iaload, 1) := by decide +kernel
theorem d_Law_480 : decode m_Law.2.1 480 = .ok (.invokevirtual 65, 3) := by decide +kernel
theorem d_Law_483 : decode m_Law.2.1 483 = .ok (.if_icmp .eq 620, 3) := by decide +kernel
theorem d_Law_486 : decode m_Law.2.1 486 = .ok (.iconst 0, 1) := by decide +kernel
theorem d_Law_487 : decode m_Law.2.1 487 = .ok (.ireturn, 1) := by decide +kernel
theorem d_Law_488 : decode m_Law.2.1 488 = .ok (.aload_n 1, 1) := by decide +kernel
theorem d_Law_489 : decode m_Law.2.1 489 = .ok (.aload_n 0, 1) := by decide +kernel
theorem d_Law_490 : decode m_Law.2.1 490 = .ok (.iload_n 3, 1) := by decide +kernel
theorem d_Law_491 : decode m_Law.2.1 491 = .ok (.iconst 1, 1) := by decide +kernel
theorem d_Law_492 : decode m_Law.2.1 492 = .ok (.iadd, 1) := by decide +kernel
theorem d_Law_493 : decode m_Law.2.1 493 = .ok (.iaload, 1) := by decide +kernel
theorem d_Law_494 : decode m_Law.2.1 494 = .ok (.invokevirtual 66, 3) := by decide +kernel
theorem d_Law_497 : decode m_Law.2.1 497 = .ok (.aload_n 2, 1) := by decide +kernel
theorem d_Law_498 : decode m_Law.2.1 498 = .ok (.aload_n 0, 1) := by decide +kernel
theorem d_Law_499 : decode m_Law.2.1 499 = .ok (.iload_n 3, 1) := by decide +kernel
theorem d_Law_500 : decode m_Law.2.1 500 = .ok (.iconst 1, 1) := by decide +kernel
theorem d_Law_501 : decode m_Law.2.1 501 = .ok (.iadd, 1) := by decide +kernel
theorem d_Law_502 : decode m_Law.2.1 502 = .ok (.iaload, 1) := by decide +kernel
theorem d_Law_503 : decode m_Law.2.1 503 = .ok (.invokevirtual 69, 3) := by decide +kernel
theorem d_Law_506 : decode m_Law.2.1 506 = .ok (.if_icmp .eq 597, 3) := by decide +kernel
theorem d_Law_509 : decode m_Law.2.1 509 = .ok (.iconst 0, 1) := by decide +kernel
theorem d_Law_510 : decode m_Law.2.1 510 = .ok (.ireturn, 1) := by decide +kernel
theorem d_Law_511 : decode m_Law.2.1 511 = .ok (.aload_n 1, 1) := by decide +kernel
theorem d_Law_512 : decode m_Law.2.1 512 = .ok (.aload_n 0, 1) := by decide +kernel
theorem d_Law_513 : decode m_Law.2.1 513 = .ok (.iload_n 3, 1) := by decide +kernel
theorem d_Law_514 : decode m_Law.2.1 514 = .ok (.iconst 1, 1) := by decide +kernel
theorem d_Law_515 : decode m_Law.2.1 515 = .ok (.iadd, 1) := by decide +kernel
theorem d_Law_516 : decode m_Law.2.1 516 = .ok (.iaload, 1) := by decide +kernel
theorem d_Law_517 : decode m_Law.2.1 517 = .ok (.aload_n 0, 1) := by decide +kernel
theorem d_Law_518 : decode m_Law.2.1 518 = .ok (.iload_n 3, 1) := by decide +kernel
theorem d_Law_519 : decode m_Law.2.1 519 = .ok (.iconst 2, 1) := by decide +kernel
theorem d_Law_520 : decode m_Law.2.1 520 = .ok (.iadd, 1) := by decide +kernel
theorem d_Law_521 : decode m_Law.2.1 521 = .ok (.iaload, 1) := by decide +kernel
theorem d_Law_522 : decode m_Law.2.1 522 = .ok (.invokevirtual 70, 3) := by decide +kernel
theorem d_Law_525 : decode m_Law.2.1 525 = .ok (.aload_n 2, 1) := by decide +kernel
theorem d_Law_526 : decode m_Law.2.1 526 = .ok (.aload_n 0, 1) := by decide +kernel
theorem d_Law_527 : decode m_Law.2.1 527 = .ok (.iload_n 3, 1) := by decide +kernel
theorem d_Law_528 : decode m_Law.2.1 528 = .ok (.iconst 1, 1) := by decide +kernel
theorem d_Law_529 : decode m_Law.2.1 529 = .ok (.iadd, 1) := by decide +kernel
theorem d_Law_530 : decode m_Law.2.1 530 = .ok (.iaload, 1) := by decide +kernel
theorem d_Law_531 : decode m_Law.2.1 531 = .ok (.aload_n 0, 1) := by decide +kernel
theorem d_Law_532 : decode m_Law.2.1 532 = .ok (.iload_n 3, 1) := by decide +kernel
theorem d_Law_533 : decode m_Law.2.1 533 = .ok (.iconst 2, 1) := by decide +kernel
theorem d_Law_534 : decode m_Law.2.1 534 = .ok (.iadd, 1) := by decide +kernel
theorem d_Law_535 : decode m_Law.2.1 535 = .ok (.iaload, 1) := by decide +kernel
theorem d_Law_536 : decode m_Law.2.1 536 = .ok (.invokevirtual 73, 3) := by decide +kernel
theorem d_Law_539 : decode m_Law.2.1 539 = .ok (.if_icmp .eq 564, 3) := by decide +kernel
theorem d_Law_542 : decode m_Law.2.1 542 = .ok (.iconst 0, 1) := by decide +kernel
theorem d_Law_543 : decode m_Law.2.1 543 = .ok (.ireturn, 1) := by decide +kernel
theorem d_Law_544 : decode m_Law.2.1 544 = .ok (.aload_n 1, 1) := by decide +kernel
theorem d_Law_545 : decode m_Law.2.1 545 = .ok (.invokevirtual 74, 3) := by decide +kernel
theorem d_Law_548 : decode m_Law.2.1 548 = .ok (.aload_n 2, 1) := by decide +kernel
theorem d_Law_549 : decode m_Law.2.1 549 = .ok (.invokevirtual 77, 3) := by decide +kernel
theorem d_Law_552 : decode m_Law.2.1 552 = .ok (.if_icmp .eq 551, 3) := by decide +kernel
theorem d_Law_555 : decode m_Law.2.1 555 = .ok (.iconst 0, 1) := by decide +kernel
theorem d_Law_556 : decode m_Law.2.1 556 = .ok (.ireturn, 1) := by decide +kernel
theorem d_Law_557 : decode m_Law.2.1 557 = .ok (.aload_n 1, 1) := by decide +kernel
theorem d_Law_558 : decode m_Law.2.1 558 = .ok (.invokevirtual 78, 3) := by decide +kernel
theorem d_Law_561 : decode m_Law.2.1 561 = .ok (.aload_n 2, 1) := by decide +kernel
theorem d_Law_562 : decode m_Law.2.1 562 = .ok (.invokevirtual 81, 3) := by decide +kernel
theorem d_Law_565 : decode m_Law.2.1 565 = .ok (.if_icmp .eq 538, 3) := by decide +kernel
theorem d_Law_568 : decode m_Law.2.1 568 = .ok (.iconst 0, 1) := by decide +kernel
theorem d_Law_569 : decode m_Law.2.1 569 = .ok (.ireturn, 1) := by decide +kernel
theorem d_Law_570 : decode m_Law.2.1 570 = .ok (.aload_n 1, 1) := by decide +kernel
theorem d_Law_571 : decode m_Law.2.1 571 = .ok (.aload_n 0, 1) := by decide +kernel
theorem d_Law_572 : decode m_Law.2.1 572 = .ok (.iload_n 3, 1) := by decide +kernel
theorem d_Law_573 : decode m_Law.2.1 573 = .ok (.iconst 1, 1) := by decide +kernel
theorem d_Law_574 : decode m_Law.2.1 574 = .ok (.iadd, 1) := by decide +kernel
theorem d_Law_575 : decode m_Law.2.1 575 = .ok (.iaload, 1) := by decide +kernel
theorem d_Law_576 : decode m_Law.2.1 576 = .ok (.aload_n 0, 1) := by decide +kernel
theorem d_Law_577 : decode m_Law.2.1 577 = .ok (.iload_n 3, 1) := by decide +kernel
theorem d_Law_578 : decode m_Law.2.1 578 = .ok (.iconst 2, 1) := by decide +kernel
theorem d_Law_579 : decode m_Law.2.1 579 = .ok (.iadd, 1) := by decide +kernel
theorem d_Law_580 : decode m_Law.2.1 580 = .ok (.iaload, 1) := by decide +kernel
theorem d_Law_581 : decode m_Law.2.1 581 = .ok (.invokevirtual 82, 3) := by decide +kernel
theorem d_Law_584 : decode m_Law.2.1 584 = .ok (.aload_n 2, 1) := by decide +kernel
theorem d_Law_585 : decode m_Law.2.1 585 = .ok (.aload_n 0, 1) := by decide +kernel
theorem d_Law_586 : decode m_Law.2.1 586 = .ok (.iload_n 3, 1) := by decide +kernel
theorem d_Law_587 : decode m_Law.2.1 587 = .ok (.iconst 1, 1) := by decide +kernel
theorem d_Law_588 : decode m_Law.2.1 588 = .ok (.iadd, 1) := by decide +kernel
theorem d_Law_589 : decode m_Law.2.1 589 = .ok (.iaload, 1) := by decide +kernel
theorem d_Law_590 : decode m_Law.2.1 590 = .ok (.aload_n 0, 1) := by decide +kernel
theorem d_Law_591 : decode m_Law.2.1 591 = .ok (.iload_n 3, 1) := by decide +kernel
theorem d_Law_592 : decode m_Law.2.1 592 = .ok (.iconst 2, 1) := by decide +kernel
theorem d_Law_593 : decode m_Law.2.1 593 = .ok (.iadd, 1) := by decide +kernel
theorem d_Law_594 : decode m_Law.2.1 594 = .ok (.iaload, 1) := by decide +kernel
theorem d_Law_595 : decode m_Law.2.1 595 = .ok (.invokevirtual 85, 3) := by decide +kernel
theorem d_Law_598 : decode m_Law.2.1 598 = .ok (.if_icmp .eq 505, 3) := by decide +kernel
theorem d_Law_601 : decode m_Law.2.1 601 = .ok (.iconst 0, 1) := by decide +kernel
theorem d_Law_602 : decode m_Law.2.1 602 = .ok (.ireturn, 1) := by decide +kernel
theorem d_Law_603 : decode m_Law.2.1 603 = .ok (.aload_n 1, 1) := by decide +kernel
theorem d_Law_604 : decode m_Law.2.1 604 = .ok (.invokevirtual 86, 3) := by decide +kernel
theorem d_Law_607 : decode m_Law.2.1 607 = .ok (.aload_n 2, 1) := by decide +kernel
theorem d_Law_608 : decode m_Law.2.1 608 = .ok (.invokevirtual 89, 3) := by decide +kernel
theorem d_Law_611 : decode m_Law.2.1 611 = .ok (.if_icmp .eq 492, 3) := by decide +kernel
theorem d_Law_614 : decode m_Law.2.1 614 = .ok (.iconst 0, 1) := by decide +kernel
theorem d_Law_615 : decode m_Law.2.1 615 = .ok (.ireturn, 1) := by decide +kernel
theorem d_Law_616 : decode m_Law.2.1 616 = .ok (.aload_n 1, 1) := by decide +kernel
theorem d_Law_617 : decode m_Law.2.1 617 = .ok (.aload_n 0, 1) := by decide +kernel
theorem d_Law_618 : decode m_Law.2.1 618 = .ok (.iload_n 3, 1) := by decide +kernel
theorem d_Law_619 : decode m_Law.2.1 619 = .ok (.iconst 1, 1) := by decide +kernel
theorem d_Law_620 : decode m_Law.2.1 620 = .ok (.iadd, 1) := by decide +kernel
theorem d_Law_621 : decode m_Law.2.1 621 = .ok (.iaload, 1) := by decide +kernel
theorem d_Law_622 : decode m_Law.2.1 622 = .ok (.aload_n 0, 1) := by decide +kernel
theorem d_Law_623 : decode m_Law.2.1 623 = .ok (.iload_n 3, 1) := by decide +kernel
theorem d_Law_624 : decode m_Law.2.1 624 = .ok (.iconst 2, 1) := by decide +kernel
theorem d_Law_625 : decode m_Law.2.1 625 = .ok (.iadd, 1) := by decide +kernel
theorem d_Law_626 : decode m_Law.2.1 626 = .ok (.iaload, 1) := by decide +kernel
theorem d_Law_627 : decode m_Law.2.1 627 = .ok (.invokevirtual 90, 3) := by decide +kernel
theorem d_Law_630 : decode m_Law.2.1 630 = .ok (.aload_n 2, 1) := by decide +kernel
theorem d_Law_631 : decode m_Law.2.1 631 = .ok (.aload_n 0, 1) := by decide +kernel
theorem d_Law_632 : decode m_Law.2.1 632 = .ok (.iload_n 3, 1) := by decide +kernel
theorem d_Law_633 : decode m_Law.2.1 633 = .ok (.iconst 1, 1) := by decide +kernel
theorem d_Law_634 : decode m_Law.2.1 634 = .ok (.iadd, 1) := by decide +kernel
theorem d_Law_635 : decode m_Law.2.1 635 = .ok (.iaload, 1) := by decide +kernel
theorem d_Law_636 : decode m_Law.2.1 636 = .ok (.aload_n 0, 1) := by decide +kernel
theorem d_Law_637 : decode m_Law.2.1 637 = .ok (.iload_n 3, 1) := by decide +kernel
theorem d_Law_638 : decode m_Law.2.1 638 = .ok (.iconst 2, 1) := by decide +kernel
theorem d_Law_639 : decode m_Law.2.1 639 = .ok (.iadd, 1) := by decide +kernel
theorem d_Law_640 : decode m_Law.2.1 640 = .ok (.iaload, 1) := by decide +kernel
theorem d_Law_641 : decode m_Law.2.1 641 = .ok (.invokevirtual 93, 3) := by decide +kernel
theorem d_Law_644 : decode m_Law.2.1 644 = .ok (.if_icmp .eq 459, 3) := by decide +kernel
theorem d_Law_647 : decode m_Law.2.1 647 = .ok (.iconst 0, 1) := by decide +kernel
theorem d_Law_648 : decode m_Law.2.1 648 = .ok (.ireturn, 1) := by decide +kernel
theorem d_Law_649 : decode m_Law.2.1 649 = .ok (.aload_n 1, 1) := by decide +kernel
theorem d_Law_650 : decode m_Law.2.1 650 = .ok (.aload_n 0, 1) := by decide +kernel
theorem d_Law_651 : decode m_Law.2.1 651 = .ok (.iload_n 3, 1) := by decide +kernel
theorem d_Law_652 : decode m_Law.2.1 652 = .ok (.iconst 1, 1) := by decide +kernel
theorem d_Law_653 : decode m_Law.2.1 653 = .ok (.iadd, 1) := by decide +kernel
theorem d_Law_654 : decode m_Law.2.1 654 = .ok (.iaload, 1) := by decide +kernel
theorem d_Law_655 : decode m_Law.2.1 655 = .ok (.invokevirtual 94, 3) := by decide +kernel
theorem d_Law_658 : decode m_Law.2.1 658 = .ok (.aload_n 2, 1) := by decide +kernel
theorem d_Law_659 : decode m_Law.2.1 659 = .ok (.aload_n 0, 1) := by decide +kernel
theorem d_Law_660 : decode m_Law.2.1 660 = .ok (.iload_n 3, 1) := by decide +kernel
theorem d_Law_661 : decode m_Law.2.1 661 = .ok (.iconst 1, 1) := by decide +kernel
theorem d_Law_662 : decode m_Law.2.1 662 = .ok (.iadd, 1) := by decide +kernel
theorem d_Law_663 : decode m_Law.2.1 663 = .ok (.iaload, 1) := by decide +kernel
theorem d_Law_664 : decode m_Law.2.1 664 = .ok (.invokevirtual 97, 3) := by decide +kernel
theorem d_Law_667 : decode m_Law.2.1 667 = .ok (.if_icmp .eq 436, 3) := by decide +kernel
theorem d_Law_670 : decode m_Law.2.1 670 = .ok (.iconst 0, 1) := by decide +kernel
theorem d_Law_671 : decode m_Law.2.1 671 = .ok (.ireturn, 1) := by decide +kernel
theorem d_Law_672 : decode m_Law.2.1 672 = .ok (.aload_n 1, 1) := by decide +kernel
theorem d_Law_673 : decode m_Law.2.1 673 = .ok (.aload_n 0, 1) := by decide +kernel
theorem d_Law_674 : decode m_Law.2.1 674 = .ok (.iload_n 3, 1) := by decide +kernel
theorem d_Law_675 : decode m_Law.2.1 675 = .ok (.iconst 1, 1) := by decide +kernel
theorem d_Law_676 : decode m_Law.2.1 676 = .ok (.iadd, 1) := by decide +kernel
theorem d_Law_677 : decode m_Law.2.1 677 = .ok (.iaload, 1) := by decide +kernel
theorem d_Law_678 : decode m_Law.2.1 678 = .ok (.invokevirtual 98, 3) := by decide +kernel
theorem d_Law_681 : decode m_Law.2.1 681 = .ok (.aload_n 2, 1) := by decide +kernel
theorem d_Law_682 : decode m_Law.2.1 682 = .ok (.aload_n 0, 1) := by decide +kernel
theorem d_Law_683 : decode m_Law.2.1 683 = .ok (.iload_n 3, 1) := by decide +kernel
theorem d_Law_684 : decode m_Law.2.1 684 = .ok (.iconst 1, 1) := by decide +kernel
theorem d_Law_685 : decode m_Law.2.1 685 = .ok (.iadd, 1) := by decide +kernel
theorem d_Law_686 : decode m_Law.2.1 686 = .ok (.iaload, 1) := by decide +kernel
theorem d_Law_687 : decode m_Law.2.1 687 = .ok (.invokevirtual 101, 3) := by decide +kernel
theorem d_Law_690 : decode m_Law.2.1 690 = .ok (.if_icmp .eq 413, 3) := by decide +kernel
theorem d_Law_693 : decode m_Law.2.1 693 = .ok (.iconst 0, 1) := by decide +kernel
theorem d_Law_694 : decode m_Law.2.1 694 = .ok (.ireturn, 1) := by decide +kernel
theorem d_Law_695 : decode m_Law.2.1 695 = .ok (.aload_n 1, 1) := by decide +kernel
theorem d_Law_696 : decode m_Law.2.1 696 = .ok (.aload_n 0, 1) := by decide +kernel
theorem d_Law_697 : decode m_Law.2.1 697 = .ok (.iload_n 3, 1) := by decide +kernel
theorem d_Law_698 : decode m_Law.2.1 698 = .ok (.iconst 1, 1) := by decide +kernel
theorem d_Law_699 : decode m_Law.2.1 699 = .ok (.iadd, 1) := by decide +kernel
theorem d_Law_700 : decode m_Law.2.1 700 = .ok (.iaload, 1) := by decide +kernel
theorem d_Law_701 : decode m_Law.2.1 701 = .ok (.invokevirtual 102, 3) := by decide +kernel
theorem d_Law_704 : decode m_Law.2.1 704 = .ok (.aload_n 2, 1) := by decide +kernel
theorem d_Law_705 : decode m_Law.2.1 705 = .ok (.aload_n 0, 1) := by decide +kernel
theorem d_Law_706 : decode m_Law.2.1 706 = .ok (.iload_n 3, 1) := by decide +kernel
theorem d_Law_707 : decode m_Law.2.1 707 = .ok (.iconst 1, 1) := by decide +kernel
theorem d_Law_708 : decode m_Law.2.1 708 = .ok (.iadd, 1) := by decide +kernel
theorem d_Law_709 : decode m_Law.2.1 709 = .ok (.iaload, 1) := by decide +kernel
theorem d_Law_710 : decode m_Law.2.1 710 = .ok (.invokevirtual 105, 3) := by decide +kernel
theorem d_Law_713 : decode m_Law.2.1 713 = .ok (.if_icmp .eq 390, 3) := by decide +kernel
theorem d_Law_716 : decode m_Law.2.1 716 = .ok (.iconst 0, 1) := by decide +kernel
theorem d_Law_717 : decode m_Law.2.1 717 = .ok (.ireturn, 1) := by decide +kernel
theorem d_Law_718 : decode m_Law.2.1 718 = .ok (.aload_n 1, 1) := by decide +kernel
theorem d_Law_719 : decode m_Law.2.1 719 = .ok (.aload_n 0, 1) := by decide +kernel
theorem d_Law_720 : decode m_Law.2.1 720 = .ok (.iload_n 3, 1) := by decide +kernel
theorem d_Law_721 : decode m_Law.2.1 721 = .ok (.iconst 1, 1) := by decide +kernel
theorem d_Law_722 : decode m_Law.2.1 722 = .ok (.iadd, 1) := by decide +kernel
theorem d_Law_723 : decode m_Law.2.1 723 = .ok (.iaload, 1) := by decide +kernel
theorem d_Law_724 : decode m_Law.2.1 724 = .ok (.invokevirtual 106, 3) := by decide +kernel
theorem d_Law_727 : decode m_Law.2.1 727 = .ok (.aload_n 2, 1) := by decide +kernel
theorem d_Law_728 : decode m_Law.2.1 728 = .ok (.aload_n 0, 1) := by decide +kernel
theorem d_Law_729 : decode m_Law.2.1 729 = .ok (.iload_n 3, 1) := by decide +kernel
theorem d_Law_730 : decode m_Law.2.1 730 = .ok (.iconst 1, 1) := by decide +kernel
theorem d_Law_731 : decode m_Law.2.1 731 = .ok (.iadd, 1) := by decide +kernel
theorem d_Law_732 : decode m_Law.2.1 732 = .ok (.iaload, 1) := by decide +kernel
theorem d_Law_733 : decode m_Law.2.1 733 = .ok (.invokevirtual 109, 3) := by decide +kernel
theorem d_Law_736 : decode m_Law.2.1 736 = .ok (.if_icmp .eq 367, 3) := by decide +kernel
theorem d_Law_739 : decode m_Law.2.1 739 = .ok (.iconst 0, 1) := by decide +kernel
theorem d_Law_740 : decode m_Law.2.1 740 = .ok (.ireturn, 1) := by decide +kernel
theorem d_Law_741 : decode m_Law.2.1 741 = .ok (.aload_n 1, 1) := by decide +kernel
theorem d_Law_742 : decode m_Law.2.1 742 = .ok (.aload_n 0, 1) := by decide +kernel
theorem d_Law_743 : decode m_Law.2.1 743 = .ok (.iload_n 3, 1) := by decide +kernel
theorem d_Law_744 : decode m_Law.2.1 744 = .ok (.iconst 1, 1) := by decide +kernel
theorem d_Law_745 : decode m_Law.2.1 745 = .ok (.iadd, 1) := by decide +kernel
theorem d_Law_746 : decode m_Law.2.1 746 = .ok (.iaload, 1) := by decide +kernel
theorem d_Law_747 : decode m_Law.2.1 747 = .ok (.aload_n 0, 1) := by decide +kernel
theorem d_Law_748 : decode m_Law.2.1 748 = .ok (.iload_n 3, 1) := by decide +kernel
theorem d_Law_749 : decode m_Law.2.1 749 = .ok (.iconst 2, 1) := by decide +kernel
theorem d_Law_750 : decode m_Law.2.1 750 = .ok (.iadd, 1) := by decide +kernel
theorem d_Law_751 : decode m_Law.2.1 751 = .ok (.iaload, 1) := by decide +kernel
theorem d_Law_752 : decode m_Law.2.1 752 = .ok (.invokevirtual 110, 3) := by decide +kernel
theorem d_Law_755 : decode m_Law.2.1 755 = .ok (.aload_n 2, 1) := by decide +kernel
theorem d_Law_756 : decode m_Law.2.1 756 = .ok (.aload_n 0, 1) := by decide +kernel
theorem d_Law_757 : decode m_Law.2.1 757 = .ok (.iload_n 3, 1) := by decide +kernel
theorem d_Law_758 : decode m_Law.2.1 758 = .ok (.iconst 1, 1) := by decide +kernel
theorem d_Law_759 : decode m_Law.2.1 759 = .ok (.iadd, 1) := by decide +kernel
theorem d_Law_760 : decode m_Law.2.1 760 = .ok (.iaload, 1) := by decide +kernel
theorem d_Law_761 : decode m_Law.2.1 761 = .ok (.aload_n 0, 1) := by decide +kernel
theorem d_Law_762 : decode m_Law.2.1 762 = .ok (.iload_n 3, 1) := by decide +kernel
theorem d_Law_763 : decode m_Law.2.1 763 = .ok (.iconst 2, 1) := by decide +kernel
theorem d_Law_764 : decode m_Law.2.1 764 = .ok (.iadd, 1) := by decide +kernel
theorem d_Law_765 : decode m_Law.2.1 765 = .ok (.iaload, 1) := by decide +kernel
theorem d_Law_766 : decode m_Law.2.1 766 = .ok (.invokevirtual 114, 3) := by decide +kernel
theorem d_Law_769 : decode m_Law.2.1 769 = .ok (.lcmp, 1) := by decide +kernel
theorem d_Law_770 : decode m_Law.2.1 770 = .ok (.ifCond .eq 333, 3) := by decide +kernel
theorem d_Law_773 : decode m_Law.2.1 773 = .ok (.iconst 0, 1) := by decide +kernel
theorem d_Law_774 : decode m_Law.2.1 774 = .ok (.ireturn, 1) := by decide +kernel
theorem d_Law_775 : decode m_Law.2.1 775 = .ok (.aload_n 1, 1) := by decide +kernel
theorem d_Law_776 : decode m_Law.2.1 776 = .ok (.aload_n 0, 1) := by decide +kernel
theorem d_Law_777 : decode m_Law.2.1 777 = .ok (.iload_n 3, 1) := by decide +kernel
theorem d_Law_778 : decode m_Law.2.1 778 = .ok (.iconst 1, 1) := by decide +kernel
theorem d_Law_779 : decode m_Law.2.1 779 = .ok (.iadd, 1) := by decide +kernel
theorem d_Law_780 : decode m_Law.2.1 780 = .ok (.iaload, 1) := by decide +kernel
theorem d_Law_781 : decode m_Law.2.1 781 = .ok (.aload_n 0, 1) := by decide +kernel
theorem d_Law_782 : decode m_Law.2.1 782 = .ok (.iload_n 3, 1) := by decide +kernel
theorem d_Law_783 : decode m_Law.2.1 783 = .ok (.iconst 2, 1) := by decide +kernel
theorem d_Law_784 : decode m_Law.2.1 784 = .ok (.iadd, 1) := by decide +kernel
theorem d_Law_785 : decode m_Law.2.1 785 = .ok (.iaload, 1) := by decide +kernel
theorem d_Law_786 : decode m_Law.2.1 786 = .ok (.i2l, 1) := by decide +kernel
theorem d_Law_787 : decode m_Law.2.1 787 = .ok (.bipush 32, 2) := by decide +kernel
theorem d_Law_789 : decode m_Law.2.1 789 = .ok (.lshl, 1) := by decide +kernel
theorem d_Law_790 : decode m_Law.2.1 790 = .ok (.aload_n 0, 1) := by decide +kernel
theorem d_Law_791 : decode m_Law.2.1 791 = .ok (.iload_n 3, 1) := by decide +kernel
theorem d_Law_792 : decode m_Law.2.1 792 = .ok (.iconst 3, 1) := by decide +kernel
theorem d_Law_793 : decode m_Law.2.1 793 = .ok (.iadd, 1) := by decide +kernel
theorem d_Law_794 : decode m_Law.2.1 794 = .ok (.iaload, 1) := by decide +kernel
theorem d_Law_795 : decode m_Law.2.1 795 = .ok (.i2l, 1) := by decide +kernel
theorem d_Law_796 : decode m_Law.2.1 796 = .ok (.ldc2_w 115, 3) := by decide +kernel
theorem d_Law_799 : decode m_Law.2.1 799 = .ok (.land, 1) := by decide +kernel
theorem d_Law_800 : decode m_Law.2.1 800 = .ok (.lor, 1) := by decide +kernel
theorem d_Law_801 : decode m_Law.2.1 801 = .ok (.aload_n 0, 1) := by decide +kernel
theorem d_Law_802 : decode m_Law.2.1 802 = .ok (.iload_n 3, 1) := by decide +kernel
theorem d_Law_803 : decode m_Law.2.1 803 = .ok (.iconst 4, 1) := by decide +kernel
theorem d_Law_804 : decode m_Law.2.1 804 = .ok (.iadd, 1) := by decide +kernel
theorem d_Law_805 : decode m_Law.2.1 805 = .ok (.iaload, 1) := by decide +kernel
theorem d_Law_806 : decode m_Law.2.1 806 = .ok (.invokevirtual 117, 3) := by decide +kernel
theorem d_Law_809 : decode m_Law.2.1 809 = .ok (.aload_n 2, 1) := by decide +kernel
theorem d_Law_810 : decode m_Law.2.1 810 = .ok (.aload_n 0, 1) := by decide +kernel
theorem d_Law_811 : decode m_Law.2.1 811 = .ok (.iload_n 3, 1) := by decide +kernel
theorem d_Law_812 : decode m_Law.2.1 812 = .ok (.iconst 1, 1) := by decide +kernel
theorem d_Law_813 : decode m_Law.2.1 813 = .ok (.iadd, 1) := by decide +kernel
theorem d_Law_814 : decode m_Law.2.1 814 = .ok (.iaload, 1) := by decide +kernel
theorem d_Law_815 : decode m_Law.2.1 815 = .ok (.aload_n 0, 1) := by decide +kernel
theorem d_Law_816 : decode m_Law.2.1 816 = .ok (.iload_n 3, 1) := by decide +kernel
theorem d_Law_817 : decode m_Law.2.1 817 = .ok (.iconst 2, 1) := by decide +kernel
theorem d_Law_818 : decode m_Law.2.1 818 = .ok (.iadd, 1) := by decide +kernel
theorem d_Law_819 : decode m_Law.2.1 819 = .ok (.iaload, 1) := by decide +kernel
theorem d_Law_820 : decode m_Law.2.1 820 = .ok (.i2l, 1) := by decide +kernel
theorem d_Law_821 : decode m_Law.2.1 821 = .ok (.bipush 32, 2) := by decide +kernel
theorem d_Law_823 : decode m_Law.2.1 823 = .ok (.lshl, 1) := by decide +kernel
theorem d_Law_824 : decode m_Law.2.1 824 = .ok (.aload_n 0, 1) := by decide +kernel
theorem d_Law_825 : decode m_Law.2.1 825 = .ok (.iload_n 3, 1) := by decide +kernel
theorem d_Law_826 : decode m_Law.2.1 826 = .ok (.iconst 3, 1) := by decide +kernel
theorem d_Law_827 : decode m_Law.2.1 827 = .ok (.iadd, 1) := by decide +kernel
theorem d_Law_828 : decode m_Law.2.1 828 = .ok (.iaload, 1) := by decide +kernel
theorem d_Law_829 : decode m_Law.2.1 829 = .ok (.i2l, 1) := by decide +kernel
theorem d_Law_830 : decode m_Law.2.1 830 = .ok (.ldc2_w 115, 3) := by decide +kernel
theorem d_Law_833 : decode m_Law.2.1 833 = .ok (.land, 1) := by decide +kernel
theorem d_Law_834 : decode m_Law.2.1 834 = .ok (.lor, 1) := by decide +kernel
theorem d_Law_835 : decode m_Law.2.1 835 = .ok (.aload_n 0, 1) := by decide +kernel
theorem d_Law_836 : decode m_Law.2.1 836 = .ok (.iload_n 3, 1) := by decide +kernel
theorem d_Law_837 : decode m_Law.2.1 837 = .ok (.iconst 4, 1) := by decide +kernel
theorem d_Law_838 : decode m_Law.2.1 838 = .ok (.iadd, 1) := by decide +kernel
theorem d_Law_839 : decode m_Law.2.1 839 = .ok (.iaload, 1) := by decide +kernel
theorem d_Law_840 : decode m_Law.2.1 840 = .ok (.invokevirtual 121, 3) := by decide +kernel
theorem d_Law_843 : decode m_Law.2.1 843 = .ok (.if_icmp .eq 260, 3) := by decide +kernel
theorem d_Law_846 : decode m_Law.2.1 846 = .ok (.iconst 0, 1) := by decide +kernel
theorem d_Law_847 : decode m_Law.2.1 847 = .ok (.ireturn, 1) := by decide +kernel
theorem d_Law_848 : decode m_Law.2.1 848 = .ok (.aload_n 1, 1) := by decide +kernel
theorem d_Law_849 : decode m_Law.2.1 849 = .ok (.invokevirtual 122, 3) := by decide +kernel
theorem d_Law_852 : decode m_Law.2.1 852 = .ok (.aload_n 2, 1) := by decide +kernel
theorem d_Law_853 : decode m_Law.2.1 853 = .ok (.invokevirtual 126, 3) := by decide +kernel
theorem d_Law_856 : decode m_Law.2.1 856 = .ok (.lcmp, 1) := by decide +kernel
theorem d_Law_857 : decode m_Law.2.1 857 = .ok (.ifCond .eq 246, 3) := by decide +kernel
theorem d_Law_860 : decode m_Law.2.1 860 = .ok (.iconst 0, 1) := by decide +kernel
theorem d_Law_861 : decode m_Law.2.1 861 = .ok (.ireturn, 1) := by decide +kernel
theorem d_Law_862 : decode m_Law.2.1 862 = .ok (.aload_n 1, 1) := by decide +kernel
theorem d_Law_863 : decode m_Law.2.1 863 = .ok (.aload_n 0, 1) := by decide +kernel
theorem d_Law_864 : decode m_Law.2.1 864 = .ok (.iload_n 3, 1) := by decide +kernel
theorem d_Law_865 : decode m_Law.2.1 865 = .ok (.iconst 1, 1) := by decide +kernel
theorem d_Law_866 : decode m_Law.2.1 866 = .ok (.iadd, 1) := by decide +kernel
theorem d_Law_867 : decode m_Law.2.1 867 = .ok (.iaload, 1) := by decide +kernel
theorem d_Law_868 : decode m_Law.2.1 868 = .ok (.invokevirtual 127, 3) := by decide +kernel
theorem d_Law_871 : decode m_Law.2.1 871 = .ok (.aload_n 2, 1) := by decide +kernel
theorem d_Law_872 : decode m_Law.2.1 872 = .ok (.aload_n 0, 1) := by decide +kernel
theorem d_Law_873 : decode m_Law.2.1 873 = .ok (.iload_n 3, 1) := by decide +kernel
theorem d_Law_874 : decode m_Law.2.1 874 = .ok (.iconst 1, 1) := by decide +kernel
theorem d_Law_875 : decode m_Law.2.1 875 = .ok (.iadd, 1) := by decide +kernel
theorem d_Law_876 : decode m_Law.2.1 876 = .ok (.iaload, 1) := by decide +kernel
theorem d_Law_877 : decode m_Law.2.1 877 = .ok (.invokevirtual 130, 3) := by decide +kernel
theorem d_Law_880 : decode m_Law.2.1 880 = .ok (.if_icmp .eq 223, 3) := by decide +kernel
theorem d_Law_883 : decode m_Law.2.1 883 = .ok (.iconst 0, 1) := by decide +kernel
theorem d_Law_884 : decode m_Law.2.1 884 = .ok (.ireturn, 1) := by decide +kernel
theorem d_Law_885 : decode m_Law.2.1 885 = .ok (.aload_n 1, 1) := by decide +kernel
theorem d_Law_886 : decode m_Law.2.1 886 = .ok (.aload_n 0, 1) := by decide +kernel
theorem d_Law_887 : decode m_Law.2.1 887 = .ok (.iload_n 3, 1) := by decide +kernel
theorem d_Law_888 : decode m_Law.2.1 888 = .ok (.iconst 1, 1) := by decide +kernel
theorem d_Law_889 : decode m_Law.2.1 889 = .ok (.iadd, 1) := by decide +kernel
theorem d_Law_890 : decode m_Law.2.1 890 = .ok (.iaload, 1) := by decide +kernel
theorem d_Law_891 : decode m_Law.2.1 891 = .ok (.aload_n 0, 1) := by decide +kernel
theorem d_Law_892 : decode m_Law.2.1 892 = .ok (.iload_n 3, 1) := by decide +kernel
theorem d_Law_893 : decode m_Law.2.1 893 = .ok (.iconst 2, 1) := by decide +kernel
theorem d_Law_894 : decode m_Law.2.1 894 = .ok (.iadd, 1) := by decide +kernel
theorem d_Law_895 : decode m_Law.2.1 895 = .ok (.iaload, 1) := by decide +kernel
theorem d_Law_896 : decode m_Law.2.1 896 = .ok (.invokevirtual 131, 3) := by decide +kernel
theorem d_Law_899 : decode m_Law.2.1 899 = .ok (.aload_n 2, 1) := by decide +kernel
theorem d_Law_900 : decode m_Law.2.1 900 = .ok (.aload_n 0, 1) := by decide +kernel
theorem d_Law_901 : decode m_Law.2.1 901 = .ok (.iload_n 3, 1) := by decide +kernel
theorem d_Law_902 : decode m_Law.2.1 902 = .ok (.iconst 1, 1) := by decide +kernel
theorem d_Law_903 : decode m_Law.2.1 903 = .ok (.iadd, 1) := by decide +kernel
theorem d_Law_904 : decode m_Law.2.1 904 = .ok (.iaload, 1) := by decide +kernel
theorem d_Law_905 : decode m_Law.2.1 905 = .ok (.aload_n 0, 1) := by decide +kernel
theorem d_Law_906 : decode m_Law.2.1 906 = .ok (.iload_n 3, 1) := by decide +kernel
theorem d_Law_907 : decode m_Law.2.1 907 = .ok (.iconst 2, 1) := by decide +kernel
theorem d_Law_908 : decode m_Law.2.1 908 = .ok (.iadd, 1) := by decide +kernel
theorem d_Law_909 : decode m_Law.2.1 909 = .ok (.iaload, 1) := by decide +kernel
theorem d_Law_910 : decode m_Law.2.1 910 = .ok (.invokevirtual 134, 3) := by decide +kernel
theorem d_Law_913 : decode m_Law.2.1 913 = .ok (.if_icmp .eq 190, 3) := by decide +kernel
theorem d_Law_916 : decode m_Law.2.1 916 = .ok (.iconst 0, 1) := by decide +kernel
theorem d_Law_917 : decode m_Law.2.1 917 = .ok (.ireturn, 1) := by decide +kernel
theorem d_Law_918 : decode m_Law.2.1 918 = .ok (.aload_n 1, 1) := by decide +kernel
theorem d_Law_919 : decode m_Law.2.1 919 = .ok (.aload_n 0, 1) := by decide +kernel
theorem d_Law_920 : decode m_Law.2.1 920 = .ok (.iload_n 3, 1) := by decide +kernel
theorem d_Law_921 : decode m_Law.2.1 921 = .ok (.iconst 1, 1) := by decide +kernel
theorem d_Law_922 : decode m_Law.2.1 922 = .ok (.iadd, 1) := by decide +kernel
theorem d_Law_923 : decode m_Law.2.1 923 = .ok (.iaload, 1) := by decide +kernel
theorem d_Law_924 : decode m_Law.2.1 924 = .ok (.invokevirtual 135, 3) := by decide +kernel
theorem d_Law_927 : decode m_Law.2.1 927 = .ok (.aload_n 2, 1) := by decide +kernel
theorem d_Law_928 : decode m_Law.2.1 928 = .ok (.aload_n 0, 1) := by decide +kernel
theorem d_Law_929 : decode m_Law.2.1 929 = .ok (.iload_n 3, 1) := by decide +kernel
theorem d_Law_930 : decode m_Law.2.1 930 = .ok (.iconst 1, 1) := by decide +kernel
theorem d_Law_931 : decode m_Law.2.1 931 = .ok (.iadd, 1) := by decide +kernel
theorem d_Law_932 : decode m_Law.2.1 932 = .ok (.iaload, 1) := by decide +kernel
theorem d_Law_933 : decode m_Law.2.1 933 = .ok (.invokevirtual 139, 3) := by decide +kernel
theorem d_Law_936 : decode m_Law.2.1 936 = .ok (.lcmp, 1) := by decide +kernel
theorem d_Law_937 : decode m_Law.2.1 937 = .ok (.ifCond .eq 166, 3) := by decide +kernel
theorem d_Law_940 : decode m_Law.2.1 940 = .ok (.iconst 0, 1) := by decide +kernel
theorem d_Law_941 : decode m_Law.2.1 941 = .ok (.ireturn, 1) := by decide +kernel
theorem d_Law_942 : decode m_Law.2.1 942 = .ok (.aload_n 1, 1) := by decide +kernel
theorem d_Law_943 : decode m_Law.2.1 943 = .ok (.aload_n 0, 1) := by decide +kernel
theorem d_Law_944 : decode m_Law.2.1 944 = .ok (.iload_n 3, 1) := by decide +kernel
theorem d_Law_945 : decode m_Law.2.1 945 = .ok (.iconst 1, 1) := by decide +kernel
theorem d_Law_946 : decode m_Law.2.1 946 = .ok (.iadd, 1) := by decide +kernel
theorem d_Law_947 : decode m_Law.2.1 947 = .ok (.iaload, 1) := by decide +kernel
theorem d_Law_948 : decode m_Law.2.1 948 = .ok (.invokevirtual 140, 3) := by decide +kernel
theorem d_Law_951 : decode m_Law.2.1 951 = .ok (.aload_n 2, 1) := by decide +kernel
theorem d_Law_952 : decode m_Law.2.1 952 = .ok (.aload_n 0, 1) := by decide +kernel
theorem d_Law_953 : decode m_Law.2.1 953 = .ok (.iload_n 3, 1) := by decide +kernel
theorem d_Law_954 : decode m_Law.2.1 954 = .ok (.iconst 1, 1) := by decide +kernel
theorem d_Law_955 : decode m_Law.2.1 955 = .ok (.iadd, 1) := by decide +kernel
theorem d_Law_956 : decode m_Law.2.1 956 = .ok (.iaload, 1) := by decide +kernel
theorem d_Law_957 : decode m_Law.2.1 957 = .ok (.invokevirtual 143, 3) := by decide +kernel
theorem d_Law_960 : decode m_Law.2.1 960 = .ok (.if_icmp .eq 143, 3) := by decide +kernel
theorem d_Law_963 : decode m_Law.2.1 963 = .ok (.iconst 0, 1) := by decide +kernel
theorem d_Law_964 : decode m_Law.2.1 964 = .ok (.ireturn, 1) := by decide +kernel
theorem d_Law_965 : decode m_Law.2.1 965 = .ok (.aload_n 1, 1) := by decide +kernel
theorem d_Law_966 : decode m_Law.2.1 966 = .ok (.aload_n 0, 1) := by decide +kernel
theorem d_Law_967 : decode m_Law.2.1 967 = .ok (.iload_n 3, 1) := by decide +kernel
theorem d_Law_968 : decode m_Law.2.1 968 = .ok (.iconst 1, 1) := by decide +kernel
theorem d_Law_969 : decode m_Law.2.1 969 = .ok (.iadd, 1) := by decide +kernel
theorem d_Law_970 : decode m_Law.2.1 970 = .ok (.iaload, 1) := by decide +kernel
theorem d_Law_971 : decode m_Law.2.1 971 = .ok (.aload_n 0, 1) := by decide +kernel
theorem d_Law_972 : decode m_Law.2.1 972 = .ok (.iload_n 3, 1) := by decide +kernel
theorem d_Law_973 : decode m_Law.2.1 973 = .ok (.iconst 2, 1) := by decide +kernel
theorem d_Law_974 : decode m_Law.2.1 974 = .ok (.iadd, 1) := by decide +kernel
theorem d_Law_975 : decode m_Law.2.1 975 = .ok (.iaload, 1) := by decide +kernel
theorem d_Law_976 : decode m_Law.2.1 976 = .ok (.invokevirtual 144, 3) := by decide +kernel
theorem d_Law_979 : decode m_Law.2.1 979 = .ok (.aload_n 2, 1) := by decide +kernel
theorem d_Law_980 : decode m_Law.2.1 980 = .ok (.aload_n 0, 1) := by decide +kernel
theorem d_Law_981 : decode m_Law.2.1 981 = .ok (.iload_n 3, 1) := by decide +kernel
theorem d_Law_982 : decode m_Law.2.1 982 = .ok (.iconst 1, 1) := by decide +kernel
theorem d_Law_983 : decode m_Law.2.1 983 = .ok (.iadd, 1) := by decide +kernel
theorem d_Law_984 : decode m_Law.2.1 984 = .ok (.iaload, 1) := by decide +kernel
theorem d_Law_985 : decode m_Law.2.1 985 = .ok (.aload_n 0, 1) := by decide +kernel
theorem d_Law_986 : decode m_Law.2.1 986 = .ok (.iload_n 3, 1) := by decide +kernel
theorem d_Law_987 : decode m_Law.2.1 987 = .ok (.iconst 2, 1) := by decide +kernel
theorem d_Law_988 : decode m_Law.2.1 988 = .ok (.iadd, 1) := by decide +kernel
theorem d_Law_989 : decode m_Law.2.1 989 = .ok (.iaload, 1) := by decide +kernel
theorem d_Law_990 : decode m_Law.2.1 990 = .ok (.invokevirtual 147, 3) := by decide +kernel
theorem d_Law_993 : decode m_Law.2.1 993 = .ok (.if_icmp .eq 110, 3) := by decide +kernel
theorem d_Law_996 : decode m_Law.2.1 996 = .ok (.iconst 0, 1) := by decide +kernel
theorem d_Law_997 : decode m_Law.2.1 997 = .ok (.ireturn, 1) := by decide +kernel
theorem d_Law_998 : decode m_Law.2.1 998 = .ok (.aload_n 1, 1) := by decide +kernel
theorem d_Law_999 : decode m_Law.2.1 999 = .ok (.aload_n 0, 1) := by decide +kernel
theorem d_Law_1000 : decode m_Law.2.1 1000 = .ok (.iload_n 3, 1) := by decide +kernel
theorem d_Law_1001 : decode m_Law.2.1 1001 = .ok (.iconst 1, 1) := by decide +kernel
theorem d_Law_1002 : decode m_Law.2.1 1002 = .ok (.iadd, 1) := by decide +kernel
theorem d_Law_1003 : decode m_Law.2.1 1003 = .ok (.iaload, 1) := by decide +kernel
theorem d_Law_1004 : decode m_Law.2.1 1004 = .ok (.invokevirtual 148, 3) := by decide +kernel
theorem d_Law_1007 : decode m_Law.2.1 1007 = .ok (.aload_n 2, 1) := by decide +kernel
theorem d_Law_1008 : decode m_Law.2.1 1008 = .ok (.aload_n 0, 1) := by decide +kernel
theorem d_Law_1009 : decode m_Law.2.1 1009 = .ok (.iload_n 3, 1) := by decide +kernel
theorem d_Law_1010 : decode m_Law.2.1 1010 = .ok (.iconst 1, 1) := by decide +kernel
theorem d_Law_1011 : decode m_Law.2.1 1011 = .ok (.iadd, 1) := by decide +kernel
theorem d_Law_1012 : decode m_Law.2.1 1012 = .ok (.iaload, 1) := by decide +kernel
theorem d_Law_1013 : decode m_Law.2.1 1013 = .ok (.invokevirtual 151, 3) := by decide +kernel
theorem d_Law_1016 : decode m_Law.2.1 1016 = .ok (.if_icmp .eq 87, 3) := by decide +kernel
theorem d_Law_1019 : decode m_Law.2.1 1019 = .ok (.iconst 0, 1) := by decide +kernel
theorem d_Law_1020 : decode m_Law.2.1 1020 = .ok (.ireturn, 1) := by decide +kernel
theorem d_Law_1021 : decode m_Law.2.1 1021 = .ok (.aload_n 1, 1) := by decide +kernel
theorem d_Law_1022 : decode m_Law.2.1 1022 = .ok (.aload_n 0, 1) := by decide +kernel
theorem d_Law_1023 : decode m_Law.2.1 1023 = .ok (.iload_n 3, 1) := by decide +kernel
theorem d_Law_1024 : decode m_Law.2.1 1024 = .ok (.iconst 1, 1) := by decide +kernel
theorem d_Law_1025 : decode m_Law.2.1 1025 = .ok (.iadd, 1) := by decide +kernel
theorem d_Law_1026 : decode m_Law.2.1 1026 = .ok (.iaload, 1) := by decide +kernel
theorem d_Law_1027 : decode m_Law.2.1 1027 = .ok (.invokevirtual 152, 3) := by decide +kernel
theorem d_Law_1030 : decode m_Law.2.1 1030 = .ok (.aload_n 2, 1) := by decide +kernel
theorem d_Law_1031 : decode m_Law.2.1 1031 = .ok (.aload_n 0, 1) := by decide +kernel
theorem d_Law_1032 : decode m_Law.2.1 1032 = .ok (.iload_n 3, 1) := by decide +kernel
theorem d_Law_1033 : decode m_Law.2.1 1033 = .ok (.iconst 1, 1) := by decide +kernel
theorem d_Law_1034 : decode m_Law.2.1 1034 = .ok (.iadd, 1) := by decide +kernel
theorem d_Law_1035 : decode m_Law.2.1 1035 = .ok (.iaload, 1) := by decide +kernel
theorem d_Law_1036 : decode m_Law.2.1 1036 = .ok (.invokevirtual 155, 3) := by decide +kernel
theorem d_Law_1039 : decode m_Law.2.1 1039 = .ok (.if_icmp .eq 64, 3) := by decide +kernel
theorem d_Law_1042 : decode m_Law.2.1 1042 = .ok (.iconst 0, 1) := by decide +kernel
theorem d_Law_1043 : decode m_Law.2.1 1043 = .ok (.ireturn, 1) := by decide +kernel
theorem d_Law_1044 : decode m_Law.2.1 1044 = .ok (.aload_n 1, 1) := by decide +kernel
theorem d_Law_1045 : decode m_Law.2.1 1045 = .ok (.aload_n 0, 1) := by decide +kernel
theorem d_Law_1046 : decode m_Law.2.1 1046 = .ok (.iload_n 3, 1) := by decide +kernel
theorem d_Law_1047 : decode m_Law.2.1 1047 = .ok (.iconst 1, 1) := by decide +kernel
theorem d_Law_1048 : decode m_Law.2.1 1048 = .ok (.iadd, 1) := by decide +kernel
theorem d_Law_1049 : decode m_Law.2.1 1049 = .ok (.iaload, 1) := by decide +kernel
theorem d_Law_1050 : decode m_Law.2.1 1050 = .ok (.invokevirtual 156, 3) := by decide +kernel
theorem d_Law_1053 : decode m_Law.2.1 1053 = .ok (.aload_n 2, 1) := by decide +kernel
theorem d_Law_1054 : decode m_Law.2.1 1054 = .ok (.aload_n 0, 1) := by decide +kernel
theorem d_Law_1055 : decode m_Law.2.1 1055 = .ok (.iload_n 3, 1) := by decide +kernel
theorem d_Law_1056 : decode m_Law.2.1 1056 = .ok (.iconst 1, 1) := by decide +kernel
theorem d_Law_1057 : decode m_Law.2.1 1057 = .ok (.iadd, 1) := by decide +kernel
theorem d_Law_1058 : decode m_Law.2.1 1058 = .ok (.iaload, 1) := by decide +kernel
theorem d_Law_1059 : decode m_Law.2.1 1059 = .ok (.invokevirtual 159, 3) := by decide +kernel
theorem d_Law_1062 : decode m_Law.2.1 1062 = .ok (.if_icmp .eq 41, 3) := by decide +kernel
theorem d_Law_1065 : decode m_Law.2.1 1065 = .ok (.iconst 0, 1) := by decide +kernel
theorem d_Law_1066 : decode m_Law.2.1 1066 = .ok (.ireturn, 1) := by decide +kernel
theorem d_Law_1067 : decode m_Law.2.1 1067 = .ok (.aload_n 1, 1) := by decide +kernel
theorem d_Law_1068 : decode m_Law.2.1 1068 = .ok (.aload_n 0, 1) := by decide +kernel
theorem d_Law_1069 : decode m_Law.2.1 1069 = .ok (.iload_n 3, 1) := by decide +kernel
theorem d_Law_1070 : decode m_Law.2.1 1070 = .ok (.iconst 1, 1) := by decide +kernel
theorem d_Law_1071 : decode m_Law.2.1 1071 = .ok (.iadd, 1) := by decide +kernel
theorem d_Law_1072 : decode m_Law.2.1 1072 = .ok (.iaload, 1) := by decide +kernel
theorem d_Law_1073 : decode m_Law.2.1 1073 = .ok (.invokevirtual 160, 3) := by decide +kernel
theorem d_Law_1076 : decode m_Law.2.1 1076 = .ok (.aload_n 2, 1) := by decide +kernel
theorem d_Law_1077 : decode m_Law.2.1 1077 = .ok (.aload_n 0, 1) := by decide +kernel
theorem d_Law_1078 : decode m_Law.2.1 1078 = .ok (.iload_n 3, 1) := by decide +kernel
theorem d_Law_1079 : decode m_Law.2.1 1079 = .ok (.iconst 1, 1) := by decide +kernel
theorem d_Law_1080 : decode m_Law.2.1 1080 = .ok (.iadd, 1) := by decide +kernel
theorem d_Law_1081 : decode m_Law.2.1 1081 = .ok (.iaload, 1) := by decide +kernel
theorem d_Law_1082 : decode m_Law.2.1 1082 = .ok (.invokevirtual 163, 3) := by decide +kernel
theorem d_Law_1085 : decode m_Law.2.1 1085 = .ok (.if_icmp .eq 18, 3) := by decide +kernel
theorem d_Law_1088 : decode m_Law.2.1 1088 = .ok (.iconst 0, 1) := by decide +kernel
theorem d_Law_1089 : decode m_Law.2.1 1089 = .ok (.ireturn, 1) := by decide +kernel
theorem d_Law_1090 : decode m_Law.2.1 1090 = .ok (.aload_n 1, 1) := by decide +kernel
theorem d_Law_1091 : decode m_Law.2.1 1091 = .ok (.invokevirtual 164, 3) := by decide +kernel
theorem d_Law_1094 : decode m_Law.2.1 1094 = .ok (.aload_n 2, 1) := by decide +kernel
theorem d_Law_1095 : decode m_Law.2.1 1095 = .ok (.invokevirtual 167, 3) := by decide +kernel
theorem d_Law_1098 : decode m_Law.2.1 1098 = .ok (.if_icmp .eq 5, 3) := by decide +kernel
theorem d_Law_1101 : decode m_Law.2.1 1101 = .ok (.iconst 0, 1) := by decide +kernel
theorem d_Law_1102 : decode m_Law.2.1 1102 = .ok (.ireturn, 1) := by decide +kernel
theorem d_Law_1103 : decode m_Law.2.1 1103 = .ok (.iinc 3 6, 3) := by decide +kernel
theorem d_Law_1106 : decode m_Law.2.1 1106 = .ok (.goto (-1088), 3) := by decide +kernel
theorem d_Law_1109 : decode m_Law.2.1 1109 = .ok (.iconst 1, 1) := by decide +kernel
theorem d_Law_1110 : decode m_Law.2.1 1110 = .ok (.ireturn, 1) := by decide +kernel
