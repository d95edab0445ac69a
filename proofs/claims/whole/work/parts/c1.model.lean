/-! THE REFERENCE'S CONSTRUCTOR -/
def tbA : List Int := [99, 111, 115, 116, 115, 32, 115, 116, 114, 105, 107, 101, 115, 32, 119, 111, 114, 116, 104, 32, 98, 97, 114, 115, 32, 105, 102, 32, 111, 114, 32, 97, 110, 100, 32, 110, 111, 116, 32, 107, 105, 110, 100, 32, 111, 112, 101, 110, 32, 112, 101, 114, 115, 111, 110, 32, 112, 108, 97, 99, 101, 32, 109, 111, 111, 100, 32, 115, 105, 103, 110, 32, 108, 101, 110, 103, 116, 104, 32, 112, 97, 103, 101, 32, 100, 111, 110, 101, 32, 108, 97, 116, 101, 115, 116, 32, 108, 111, 111, 115, 101, 32, 100, 101, 101, 112, 32, 112, 117, 116, 32, 97, 116, 32, 99, 117, 116, 32, 116, 117, 114, 110, 32, 116, 111, 32, 112, 97, 115, 115, 32, 116, 105, 109, 101, 115, 32]
def tbf : Nat → Nat → Int32
  | 0 => ia (fun _ => 0)
  | k + 1 => upd (tbf k) k (vp_nar .byte (ii (tbA.getD k 0)))
theorem mb_iconst {d pc : Nat} {L : List (Option Value)} {st : List Value} {mem : List xM} {bc bs k : Nat} {Q : List xM → Option Value → Prop} {a : Nat} {v : Int} (hk : k < mem.length) (h1 : decode m_Mod_init.2.1 pc = .ok (.dup, 1)) (h2 : decode m_Mod_init.2.1 (pc + 1) = .ok (.iconst (a : Int), 1)) (h3 : decode m_Mod_init.2.1 (pc + 2) = .ok (.bipush v, 2)) (e3 : (Int8.ofInt v).toInt32 = ii v) (h4 : decode m_Mod_init.2.1 (pc + 4) = .ok (.bastore, 1)) (hj : vp_in (ii (a : Int)) 137) (hn : (ii (a : Int)).toNatClampNeg = a) (hv : tbA.getD a 0 = v) (kk : SJ true m_Mod_init d (pc + 5) L (.ref k :: st) (mem.set k (.inl (1, 137, .inl (tbf (a + 1))))) bc bs Q) : SJ true m_Mod_init d pc L (.ref k :: st) (mem.set k (.inl (1, 137, .inl (tbf a)))) bc bs Q := by
  refine j_dup h1 rfl ?_
  refine z_iconst h2 ?_
  refine z_bipush h3 e3 ?_
  refine j_bast (n := 137) (f := tbf a) h4 (by rw [List.getElem?_set_self hk]) hj ?_
  rw [List.set_set, hn, ← hv]
  exact kk
theorem mb_bipush {d pc : Nat} {L : List (Option Value)} {st : List Value} {mem : List xM} {bc bs k : Nat} {Q : List xM → Option Value → Prop} {a : Nat} {v : Int} (hk : k < mem.length) (h1 : decode m_Mod_init.2.1 pc = .ok (.dup, 1)) (h2 : decode m_Mod_init.2.1 (pc + 1) = .ok (.bipush (a : Int), 2)) (e2 : (Int8.ofInt (a : Int)).toInt32 = ii (a : Int)) (h3 : decode m_Mod_init.2.1 (pc + 3) = .ok (.bipush v, 2)) (e3 : (Int8.ofInt v).toInt32 = ii v) (h4 : decode m_Mod_init.2.1 (pc + 5) = .ok (.bastore, 1)) (hj : vp_in (ii (a : Int)) 137) (hn : (ii (a : Int)).toNatClampNeg = a) (hv : tbA.getD a 0 = v) (kk : SJ true m_Mod_init d (pc + 6) L (.ref k :: st) (mem.set k (.inl (1, 137, .inl (tbf (a + 1))))) bc bs Q) : SJ true m_Mod_init d pc L (.ref k :: st) (mem.set k (.inl (1, 137, .inl (tbf a)))) bc bs Q := by
  refine j_dup h1 rfl ?_
  refine z_bipush h2 e2 ?_
  refine z_bipush h3 e3 ?_
  refine j_bast (n := 137) (f := tbf a) h4 (by rw [List.getElem?_set_self hk]) hj ?_
  rw [List.set_set, hn, ← hv]
  exact kk
theorem mb_sipush {d pc : Nat} {L : List (Option Value)} {st : List Value} {mem : List xM} {bc bs k : Nat} {Q : List xM → Option Value → Prop} {a : Nat} {v : Int} (hk : k < mem.length) (h1 : decode m_Mod_init.2.1 pc = .ok (.dup, 1)) (h2 : decode m_Mod_init.2.1 (pc + 1) = .ok (.sipush (a : Int), 3)) (e2 : (Int16.ofInt (a : Int)).toInt32 = ii (a : Int)) (h3 : decode m_Mod_init.2.1 (pc + 4) = .ok (.bipush v, 2)) (e3 : (Int8.ofInt v).toInt32 = ii v) (h4 : decode m_Mod_init.2.1 (pc + 6) = .ok (.bastore, 1)) (hj : vp_in (ii (a : Int)) 137) (hn : (ii (a : Int)).toNatClampNeg = a) (hv : tbA.getD a 0 = v) (kk : SJ true m_Mod_init d (pc + 7) L (.ref k :: st) (mem.set k (.inl (1, 137, .inl (tbf (a + 1))))) bc bs Q) : SJ true m_Mod_init d pc L (.ref k :: st) (mem.set k (.inl (1, 137, .inl (tbf a)))) bc bs Q := by
  refine j_dup h1 rfl ?_
  refine z_sipush h2 e2 ?_
  refine z_bipush h3 e3 ?_
  refine j_bast (n := 137) (f := tbf a) h4 (by rw [List.getElem?_set_self hk]) hj ?_
  rw [List.set_set, hn, ← hv]
  exact kk
theorem mb_0 {d : Nat} {L : List (Option Value)} {st : List Value} {mem : List xM} {bc bs k : Nat} {Q : List xM → Option Value → Prop} (hk : k < mem.length) (kk : SJ true m_Mod_init d 165 L (.ref k :: st) (mem.set k (.inl (1, 137, .inl (tbf 20)))) bc bs Q) : SJ true m_Mod_init d 51 L (.ref k :: st) (mem.set k (.inl (1, 137, .inl (tbf 0)))) bc bs Q := by
  refine mb_iconst (a := 0) (pc := 51) hk d_Mod_init_51 d_Mod_init_52 d_Mod_init_53 (by decide) d_Mod_init_55 (by unfold vp_in; decide) (by decide) rfl ?_
  refine mb_iconst (a := 1) (pc := 56) hk d_Mod_init_56 d_Mod_init_57 d_Mod_init_58 (by decide) d_Mod_init_60 (by unfold vp_in; decide) (by decide) rfl ?_
  refine mb_iconst (a := 2) (pc := 61) hk d_Mod_init_61 d_Mod_init_62 d_Mod_init_63 (by decide) d_Mod_init_65 (by unfold vp_in; decide) (by decide) rfl ?_
  refine mb_iconst (a := 3) (pc := 66) hk d_Mod_init_66 d_Mod_init_67 d_Mod_init_68 (by decide) d_Mod_init_70 (by unfold vp_in; decide) (by decide) rfl ?_
  refine mb_iconst (a := 4) (pc := 71) hk d_Mod_init_71 d_Mod_init_72 d_Mod_init_73 (by decide) d_Mod_init_75 (by unfold vp_in; decide) (by decide) rfl ?_
  refine mb_iconst (a := 5) (pc := 76) hk d_Mod_init_76 d_Mod_init_77 d_Mod_init_78 (by decide) d_Mod_init_80 (by unfold vp_in; decide) (by decide) rfl ?_
  refine mb_bipush (a := 6) (pc := 81) hk d_Mod_init_81 d_Mod_init_82 (by decide) d_Mod_init_84 (by decide) d_Mod_init_86 (by unfold vp_in; decide) (by decide) rfl ?_
  refine mb_bipush (a := 7) (pc := 87) hk d_Mod_init_87 d_Mod_init_88 (by decide) d_Mod_init_90 (by decide) d_Mod_init_92 (by unfold vp_in; decide) (by decide) rfl ?_
  refine mb_bipush (a := 8) (pc := 93) hk d_Mod_init_93 d_Mod_init_94 (by decide) d_Mod_init_96 (by decide) d_Mod_init_98 (by unfold vp_in; decide) (by decide) rfl ?_
  refine mb_bipush (a := 9) (pc := 99) hk d_Mod_init_99 d_Mod_init_100 (by decide) d_Mod_init_102 (by decide) d_Mod_init_104 (by unfold vp_in; decide) (by decide) rfl ?_
  refine mb_bipush (a := 10) (pc := 105) hk d_Mod_init_105 d_Mod_init_106 (by decide) d_Mod_init_108 (by decide) d_Mod_init_110 (by unfold vp_in; decide) (by decide) rfl ?_
  refine mb_bipush (a := 11) (pc := 111) hk d_Mod_init_111 d_Mod_init_112 (by decide) d_Mod_init_114 (by decide) d_Mod_init_116 (by unfold vp_in; decide) (by decide) rfl ?_
  refine mb_bipush (a := 12) (pc := 117) hk d_Mod_init_117 d_Mod_init_118 (by decide) d_Mod_init_120 (by decide) d_Mod_init_122 (by unfold vp_in; decide) (by decide) rfl ?_
  refine mb_bipush (a := 13) (pc := 123) hk d_Mod_init_123 d_Mod_init_124 (by decide) d_Mod_init_126 (by decide) d_Mod_init_128 (by unfold vp_in; decide) (by decide) rfl ?_
  refine mb_bipush (a := 14) (pc := 129) hk d_Mod_init_129 d_Mod_init_130 (by decide) d_Mod_init_132 (by decide) d_Mod_init_134 (by unfold vp_in; decide) (by decide) rfl ?_
  refine mb_bipush (a := 15) (pc := 135) hk d_Mod_init_135 d_Mod_init_136 (by decide) d_Mod_init_138 (by decide) d_Mod_init_140 (by unfold vp_in; decide) (by decide) rfl ?_
  refine mb_bipush (a := 16) (pc := 141) hk d_Mod_init_141 d_Mod_init_142 (by decide) d_Mod_init_144 (by decide) d_Mod_init_146 (by unfold vp_in; decide) (by decide) rfl ?_
  refine mb_bipush (a := 17) (pc := 147) hk d_Mod_init_147 d_Mod_init_148 (by decide) d_Mod_init_150 (by decide) d_Mod_init_152 (by unfold vp_in; decide) (by decide) rfl ?_
  refine mb_bipush (a := 18) (pc := 153) hk d_Mod_init_153 d_Mod_init_154 (by decide) d_Mod_init_156 (by decide) d_Mod_init_158 (by unfold vp_in; decide) (by decide) rfl ?_
  refine mb_bipush (a := 19) (pc := 159) hk d_Mod_init_159 d_Mod_init_160 (by decide) d_Mod_init_162 (by decide) d_Mod_init_164 (by unfold vp_in; decide) (by decide) rfl ?_
  exact kk
theorem mb_20 {d : Nat} {L : List (Option Value)} {st : List Value} {mem : List xM} {bc bs k : Nat} {Q : List xM → Option Value → Prop} (hk : k < mem.length) (kk : SJ true m_Mod_init d 285 L (.ref k :: st) (mem.set k (.inl (1, 137, .inl (tbf 40)))) bc bs Q) : SJ true m_Mod_init d 165 L (.ref k :: st) (mem.set k (.inl (1, 137, .inl (tbf 20)))) bc bs Q := by
  refine mb_bipush (a := 20) (pc := 165) hk d_Mod_init_165 d_Mod_init_166 (by decide) d_Mod_init_168 (by decide) d_Mod_init_170 (by unfold vp_in; decide) (by decide) rfl ?_
  refine mb_bipush (a := 21) (pc := 171) hk d_Mod_init_171 d_Mod_init_172 (by decide) d_Mod_init_174 (by decide) d_Mod_init_176 (by unfold vp_in; decide) (by decide) rfl ?_
  refine mb_bipush (a := 22) (pc := 177) hk d_Mod_init_177 d_Mod_init_178 (by decide) d_Mod_init_180 (by decide) d_Mod_init_182 (by unfold vp_in; decide) (by decide) rfl ?_
  refine mb_bipush (a := 23) (pc := 183) hk d_Mod_init_183 d_Mod_init_184 (by decide) d_Mod_init_186 (by decide) d_Mod_init_188 (by unfold vp_in; decide) (by decide) rfl ?_
  refine mb_bipush (a := 24) (pc := 189) hk d_Mod_init_189 d_Mod_init_190 (by decide) d_Mod_init_192 (by decide) d_Mod_init_194 (by unfold vp_in; decide) (by decide) rfl ?_
  refine mb_bipush (a := 25) (pc := 195) hk d_Mod_init_195 d_Mod_init_196 (by decide) d_Mod_init_198 (by decide) d_Mod_init_200 (by unfold vp_in; decide) (by decide) rfl ?_
  refine mb_bipush (a := 26) (pc := 201) hk d_Mod_init_201 d_Mod_init_202 (by decide) d_Mod_init_204 (by decide) d_Mod_init_206 (by unfold vp_in; decide) (by decide) rfl ?_
  refine mb_bipush (a := 27) (pc := 207) hk d_Mod_init_207 d_Mod_init_208 (by decide) d_Mod_init_210 (by decide) d_Mod_init_212 (by unfold vp_in; decide) (by decide) rfl ?_
  refine mb_bipush (a := 28) (pc := 213) hk d_Mod_init_213 d_Mod_init_214 (by decide) d_Mod_init_216 (by decide) d_Mod_init_218 (by unfold vp_in; decide) (by decide) rfl ?_
  refine mb_bipush (a := 29) (pc := 219) hk d_Mod_init_219 d_Mod_init_220 (by decide) d_Mod_init_222 (by decide) d_Mod_init_224 (by unfold vp_in; decide) (by decide) rfl ?_
  refine mb_bipush (a := 30) (pc := 225) hk d_Mod_init_225 d_Mod_init_226 (by decide) d_Mod_init_228 (by decide) d_Mod_init_230 (by unfold vp_in; decide) (by decide) rfl ?_
  refine mb_bipush (a := 31) (pc := 231) hk d_Mod_init_231 d_Mod_init_232 (by decide) d_Mod_init_234 (by decide) d_Mod_init_236 (by unfold vp_in; decide) (by decide) rfl ?_
  refine mb_bipush (a := 32) (pc := 237) hk d_Mod_init_237 d_Mod_init_238 (by decide) d_Mod_init_240 (by decide) d_Mod_init_242 (by unfold vp_in; decide) (by decide) rfl ?_
  refine mb_bipush (a := 33) (pc := 243) hk d_Mod_init_243 d_Mod_init_244 (by decide) d_Mod_init_246 (by decide) d_Mod_init_248 (by unfold vp_in; decide) (by decide) rfl ?_
  refine mb_bipush (a := 34) (pc := 249) hk d_Mod_init_249 d_Mod_init_250 (by decide) d_Mod_init_252 (by decide) d_Mod_init_254 (by unfold vp_in; decide) (by decide) rfl ?_
  refine mb_bipush (a := 35) (pc := 255) hk d_Mod_init_255 d_Mod_init_256 (by decide) d_Mod_init_258 (by decide) d_Mod_init_260 (by unfold vp_in; decide) (by decide) rfl ?_
  refine mb_bipush (a := 36) (pc := 261) hk d_Mod_init_261 d_Mod_init_262 (by decide) d_Mod_init_264 (by decide) d_Mod_init_266 (by unfold vp_in; decide) (by decide) rfl ?_
  refine mb_bipush (a := 37) (pc := 267) hk d_Mod_init_267 d_Mod_init_268 (by decide) d_Mod_init_270 (by decide) d_Mod_init_272 (by unfold vp_in; decide) (by decide) rfl ?_
  refine mb_bipush (a := 38) (pc := 273) hk d_Mod_init_273 d_Mod_init_274 (by decide) d_Mod_init_276 (by decide) d_Mod_init_278 (by unfold vp_in; decide) (by decide) rfl ?_
  refine mb_bipush (a := 39) (pc := 279) hk d_Mod_init_279 d_Mod_init_280 (by decide) d_Mod_init_282 (by decide) d_Mod_init_284 (by unfold vp_in; decide) (by decide) rfl ?_
  exact kk
theorem mb_40 {d : Nat} {L : List (Option Value)} {st : List Value} {mem : List xM} {bc bs k : Nat} {Q : List xM → Option Value → Prop} (hk : k < mem.length) (kk : SJ true m_Mod_init d 405 L (.ref k :: st) (mem.set k (.inl (1, 137, .inl (tbf 60)))) bc bs Q) : SJ true m_Mod_init d 285 L (.ref k :: st) (mem.set k (.inl (1, 137, .inl (tbf 40)))) bc bs Q := by
  refine mb_bipush (a := 40) (pc := 285) hk d_Mod_init_285 d_Mod_init_286 (by decide) d_Mod_init_288 (by decide) d_Mod_init_290 (by unfold vp_in; decide) (by decide) rfl ?_
  refine mb_bipush (a := 41) (pc := 291) hk d_Mod_init_291 d_Mod_init_292 (by decide) d_Mod_init_294 (by decide) d_Mod_init_296 (by unfold vp_in; decide) (by decide) rfl ?_
  refine mb_bipush (a := 42) (pc := 297) hk d_Mod_init_297 d_Mod_init_298 (by decide) d_Mod_init_300 (by decide) d_Mod_init_302 (by unfold vp_in; decide) (by decide) rfl ?_
  refine mb_bipush (a := 43) (pc := 303) hk d_Mod_init_303 d_Mod_init_304 (by decide) d_Mod_init_306 (by decide) d_Mod_init_308 (by unfold vp_in; decide) (by decide) rfl ?_
  refine mb_bipush (a := 44) (pc := 309) hk d_Mod_init_309 d_Mod_init_310 (by decide) d_Mod_init_312 (by decide) d_Mod_init_314 (by unfold vp_in; decide) (by decide) rfl ?_
  refine mb_bipush (a := 45) (pc := 315) hk d_Mod_init_315 d_Mod_init_316 (by decide) d_Mod_init_318 (by decide) d_Mod_init_320 (by unfold vp_in; decide) (by decide) rfl ?_
  refine mb_bipush (a := 46) (pc := 321) hk d_Mod_init_321 d_Mod_init_322 (by decide) d_Mod_init_324 (by decide) d_Mod_init_326 (by unfold vp_in; decide) (by decide) rfl ?_
  refine mb_bipush (a := 47) (pc := 327) hk d_Mod_init_327 d_Mod_init_328 (by decide) d_Mod_init_330 (by decide) d_Mod_init_332 (by unfold vp_in; decide) (by decide) rfl ?_
  refine mb_bipush (a := 48) (pc := 333) hk d_Mod_init_333 d_Mod_init_334 (by decide) d_Mod_init_336 (by decide) d_Mod_init_338 (by unfold vp_in; decide) (by decide) rfl ?_
  refine mb_bipush (a := 49) (pc := 339) hk d_Mod_init_339 d_Mod_init_340 (by decide) d_Mod_init_342 (by decide) d_Mod_init_344 (by unfold vp_in; decide) (by decide) rfl ?_
  refine mb_bipush (a := 50) (pc := 345) hk d_Mod_init_345 d_Mod_init_346 (by decide) d_Mod_init_348 (by decide) d_Mod_init_350 (by unfold vp_in; decide) (by decide) rfl ?_
  refine mb_bipush (a := 51) (pc := 351) hk d_Mod_init_351 d_Mod_init_352 (by decide) d_Mod_init_354 (by decide) d_Mod_init_356 (by unfold vp_in; decide) (by decide) rfl ?_
  refine mb_bipush (a := 52) (pc := 357) hk d_Mod_init_357 d_Mod_init_358 (by decide) d_Mod_init_360 (by decide) d_Mod_init_362 (by unfold vp_in; decide) (by decide) rfl ?_
  refine mb_bipush (a := 53) (pc := 363) hk d_Mod_init_363 d_Mod_init_364 (by decide) d_Mod_init_366 (by decide) d_Mod_init_368 (by unfold vp_in; decide) (by decide) rfl ?_
  refine mb_bipush (a := 54) (pc := 369) hk d_Mod_init_369 d_Mod_init_370 (by decide) d_Mod_init_372 (by decide) d_Mod_init_374 (by unfold vp_in; decide) (by decide) rfl ?_
  refine mb_bipush (a := 55) (pc := 375) hk d_Mod_init_375 d_Mod_init_376 (by decide) d_Mod_init_378 (by decide) d_Mod_init_380 (by unfold vp_in; decide) (by decide) rfl ?_
  refine mb_bipush (a := 56) (pc := 381) hk d_Mod_init_381 d_Mod_init_382 (by decide) d_Mod_init_384 (by decide) d_Mod_init_386 (by unfold vp_in; decide) (by decide) rfl ?_
  refine mb_bipush (a := 57) (pc := 387) hk d_Mod_init_387 d_Mod_init_388 (by decide) d_Mod_init_390 (by decide) d_Mod_init_392 (by unfold vp_in; decide) (by decide) rfl ?_
  refine mb_bipush (a := 58) (pc := 393) hk d_Mod_init_393 d_Mod_init_394 (by decide) d_Mod_init_396 (by decide) d_Mod_init_398 (by unfold vp_in; decide) (by decide) rfl ?_
  refine mb_bipush (a := 59) (pc := 399) hk d_Mod_init_399 d_Mod_init_400 (by decide) d_Mod_init_402 (by decide) d_Mod_init_404 (by unfold vp_in; decide) (by decide) rfl ?_
  exact kk
theorem mb_60 {d : Nat} {L : List (Option Value)} {st : List Value} {mem : List xM} {bc bs k : Nat} {Q : List xM → Option Value → Prop} (hk : k < mem.length) (kk : SJ true m_Mod_init d 525 L (.ref k :: st) (mem.set k (.inl (1, 137, .inl (tbf 80)))) bc bs Q) : SJ true m_Mod_init d 405 L (.ref k :: st) (mem.set k (.inl (1, 137, .inl (tbf 60)))) bc bs Q := by
  refine mb_bipush (a := 60) (pc := 405) hk d_Mod_init_405 d_Mod_init_406 (by decide) d_Mod_init_408 (by decide) d_Mod_init_410 (by unfold vp_in; decide) (by decide) rfl ?_
  refine mb_bipush (a := 61) (pc := 411) hk d_Mod_init_411 d_Mod_init_412 (by decide) d_Mod_init_414 (by decide) d_Mod_init_416 (by unfold vp_in; decide) (by decide) rfl ?_
  refine mb_bipush (a := 62) (pc := 417) hk d_Mod_init_417 d_Mod_init_418 (by decide) d_Mod_init_420 (by decide) d_Mod_init_422 (by unfold vp_in; decide) (by decide) rfl ?_
  refine mb_bipush (a := 63) (pc := 423) hk d_Mod_init_423 d_Mod_init_424 (by decide) d_Mod_init_426 (by decide) d_Mod_init_428 (by unfold vp_in; decide) (by decide) rfl ?_
  refine mb_bipush (a := 64) (pc := 429) hk d_Mod_init_429 d_Mod_init_430 (by decide) d_Mod_init_432 (by decide) d_Mod_init_434 (by unfold vp_in; decide) (by decide) rfl ?_
  refine mb_bipush (a := 65) (pc := 435) hk d_Mod_init_435 d_Mod_init_436 (by decide) d_Mod_init_438 (by decide) d_Mod_init_440 (by unfold vp_in; decide) (by decide) rfl ?_
  refine mb_bipush (a := 66) (pc := 441) hk d_Mod_init_441 d_Mod_init_442 (by decide) d_Mod_init_444 (by decide) d_Mod_init_446 (by unfold vp_in; decide) (by decide) rfl ?_
  refine mb_bipush (a := 67) (pc := 447) hk d_Mod_init_447 d_Mod_init_448 (by decide) d_Mod_init_450 (by decide) d_Mod_init_452 (by unfold vp_in; decide) (by decide) rfl ?_
  refine mb_bipush (a := 68) (pc := 453) hk d_Mod_init_453 d_Mod_init_454 (by decide) d_Mod_init_456 (by decide) d_Mod_init_458 (by unfold vp_in; decide) (by decide) rfl ?_
  refine mb_bipush (a := 69) (pc := 459) hk d_Mod_init_459 d_Mod_init_460 (by decide) d_Mod_init_462 (by decide) d_Mod_init_464 (by unfold vp_in; decide) (by decide) rfl ?_
  refine mb_bipush (a := 70) (pc := 465) hk d_Mod_init_465 d_Mod_init_466 (by decide) d_Mod_init_468 (by decide) d_Mod_init_470 (by unfold vp_in; decide) (by decide) rfl ?_
  refine mb_bipush (a := 71) (pc := 471) hk d_Mod_init_471 d_Mod_init_472 (by decide) d_Mod_init_474 (by decide) d_Mod_init_476 (by unfold vp_in; decide) (by decide) rfl ?_
  refine mb_bipush (a := 72) (pc := 477) hk d_Mod_init_477 d_Mod_init_478 (by decide) d_Mod_init_480 (by decide) d_Mod_init_482 (by unfold vp_in; decide) (by decide) rfl ?_
  refine mb_bipush (a := 73) (pc := 483) hk d_Mod_init_483 d_Mod_init_484 (by decide) d_Mod_init_486 (by decide) d_Mod_init_488 (by unfold vp_in; decide) (by decide) rfl ?_
  refine mb_bipush (a := 74) (pc := 489) hk d_Mod_init_489 d_Mod_init_490 (by decide) d_Mod_init_492 (by decide) d_Mod_init_494 (by unfold vp_in; decide) (by decide) rfl ?_
  refine mb_bipush (a := 75) (pc := 495) hk d_Mod_init_495 d_Mod_init_496 (by decide) d_Mod_init_498 (by decide) d_Mod_init_500 (by unfold vp_in; decide) (by decide) rfl ?_
  refine mb_bipush (a := 76) (pc := 501) hk d_Mod_init_501 d_Mod_init_502 (by decide) d_Mod_init_504 (by decide) d_Mod_init_506 (by unfold vp_in; decide) (by decide) rfl ?_
  refine mb_bipush (a := 77) (pc := 507) hk d_Mod_init_507 d_Mod_init_508 (by decide) d_Mod_init_510 (by decide) d_Mod_init_512 (by unfold vp_in; decide) (by decide) rfl ?_
  refine mb_bipush (a := 78) (pc := 513) hk d_Mod_init_513 d_Mod_init_514 (by decide) d_Mod_init_516 (by decide) d_Mod_init_518 (by unfold vp_in; decide) (by decide) rfl ?_
  refine mb_bipush (a := 79) (pc := 519) hk d_Mod_init_519 d_Mod_init_520 (by decide) d_Mod_init_522 (by decide) d_Mod_init_524 (by unfold vp_in; decide) (by decide) rfl ?_
  exact kk
theorem mb_80 {d : Nat} {L : List (Option Value)} {st : List Value} {mem : List xM} {bc bs k : Nat} {Q : List xM → Option Value → Prop} (hk : k < mem.length) (kk : SJ true m_Mod_init d 645 L (.ref k :: st) (mem.set k (.inl (1, 137, .inl (tbf 100)))) bc bs Q) : SJ true m_Mod_init d 525 L (.ref k :: st) (mem.set k (.inl (1, 137, .inl (tbf 80)))) bc bs Q := by
  refine mb_bipush (a := 80) (pc := 525) hk d_Mod_init_525 d_Mod_init_526 (by decide) d_Mod_init_528 (by decide) d_Mod_init_530 (by unfold vp_in; decide) (by decide) rfl ?_
  refine mb_bipush (a := 81) (pc := 531) hk d_Mod_init_531 d_Mod_init_532 (by decide) d_Mod_init_534 (by decide) d_Mod_init_536 (by unfold vp_in; decide) (by decide) rfl ?_
  refine mb_bipush (a := 82) (pc := 537) hk d_Mod_init_537 d_Mod_init_538 (by decide) d_Mod_init_540 (by decide) d_Mod_init_542 (by unfold vp_in; decide) (by decide) rfl ?_
  refine mb_bipush (a := 83) (pc := 543) hk d_Mod_init_543 d_Mod_init_544 (by decide) d_Mod_init_546 (by decide) d_Mod_init_548 (by unfold vp_in; decide) (by decide) rfl ?_
  refine mb_bipush (a := 84) (pc := 549) hk d_Mod_init_549 d_Mod_init_550 (by decide) d_Mod_init_552 (by decide) d_Mod_init_554 (by unfold vp_in; decide) (by decide) rfl ?_
  refine mb_bipush (a := 85) (pc := 555) hk d_Mod_init_555 d_Mod_init_556 (by decide) d_Mod_init_558 (by decide) d_Mod_init_560 (by unfold vp_in; decide) (by decide) rfl ?_
  refine mb_bipush (a := 86) (pc := 561) hk d_Mod_init_561 d_Mod_init_562 (by decide) d_Mod_init_564 (by decide) d_Mod_init_566 (by unfold vp_in; decide) (by decide) rfl ?_
  refine mb_bipush (a := 87) (pc := 567) hk d_Mod_init_567 d_Mod_init_568 (by decide) d_Mod_init_570 (by decide) d_Mod_init_572 (by unfold vp_in; decide) (by decide) rfl ?_
  refine mb_bipush (a := 88) (pc := 573) hk d_Mod_init_573 d_Mod_init_574 (by decide) d_Mod_init_576 (by decide) d_Mod_init_578 (by unfold vp_in; decide) (by decide) rfl ?_
  refine mb_bipush (a := 89) (pc := 579) hk d_Mod_init_579 d_Mod_init_580 (by decide) d_Mod_init_582 (by decide) d_Mod_init_584 (by unfold vp_in; decide) (by decide) rfl ?_
  refine mb_bipush (a := 90) (pc := 585) hk d_Mod_init_585 d_Mod_init_586 (by decide) d_Mod_init_588 (by decide) d_Mod_init_590 (by unfold vp_in; decide) (by decide) rfl ?_
  refine mb_bipush (a := 91) (pc := 591) hk d_Mod_init_591 d_Mod_init_592 (by decide) d_Mod_init_594 (by decide) d_Mod_init_596 (by unfold vp_in; decide) (by decide) rfl ?_
  refine mb_bipush (a := 92) (pc := 597) hk d_Mod_init_597 d_Mod_init_598 (by decide) d_Mod_init_600 (by decide) d_Mod_init_602 (by unfold vp_in; decide) (by decide) rfl ?_
  refine mb_bipush (a := 93) (pc := 603) hk d_Mod_init_603 d_Mod_init_604 (by decide) d_Mod_init_606 (by decide) d_Mod_init_608 (by unfold vp_in; decide) (by decide) rfl ?_
  refine mb_bipush (a := 94) (pc := 609) hk d_Mod_init_609 d_Mod_init_610 (by decide) d_Mod_init_612 (by decide) d_Mod_init_614 (by unfold vp_in; decide) (by decide) rfl ?_
  refine mb_bipush (a := 95) (pc := 615) hk d_Mod_init_615 d_Mod_init_616 (by decide) d_Mod_init_618 (by decide) d_Mod_init_620 (by unfold vp_in; decide) (by decide) rfl ?_
  refine mb_bipush (a := 96) (pc := 621) hk d_Mod_init_621 d_Mod_init_622 (by decide) d_Mod_init_624 (by decide) d_Mod_init_626 (by unfold vp_in; decide) (by decide) rfl ?_
  refine mb_bipush (a := 97) (pc := 627) hk d_Mod_init_627 d_Mod_init_628 (by decide) d_Mod_init_630 (by decide) d_Mod_init_632 (by unfold vp_in; decide) (by decide) rfl ?_
  refine mb_bipush (a := 98) (pc := 633) hk d_Mod_init_633 d_Mod_init_634 (by decide) d_Mod_init_636 (by decide) d_Mod_init_638 (by unfold vp_in; decide) (by decide) rfl ?_
  refine mb_bipush (a := 99) (pc := 639) hk d_Mod_init_639 d_Mod_init_640 (by decide) d_Mod_init_642 (by decide) d_Mod_init_644 (by unfold vp_in; decide) (by decide) rfl ?_
  exact kk
theorem mb_100 {d : Nat} {L : List (Option Value)} {st : List Value} {mem : List xM} {bc bs k : Nat} {Q : List xM → Option Value → Prop} (hk : k < mem.length) (kk : SJ true m_Mod_init d 765 L (.ref k :: st) (mem.set k (.inl (1, 137, .inl (tbf 120)))) bc bs Q) : SJ true m_Mod_init d 645 L (.ref k :: st) (mem.set k (.inl (1, 137, .inl (tbf 100)))) bc bs Q := by
  refine mb_bipush (a := 100) (pc := 645) hk d_Mod_init_645 d_Mod_init_646 (by decide) d_Mod_init_648 (by decide) d_Mod_init_650 (by unfold vp_in; decide) (by decide) rfl ?_
  refine mb_bipush (a := 101) (pc := 651) hk d_Mod_init_651 d_Mod_init_652 (by decide) d_Mod_init_654 (by decide) d_Mod_init_656 (by unfold vp_in; decide) (by decide) rfl ?_
  refine mb_bipush (a := 102) (pc := 657) hk d_Mod_init_657 d_Mod_init_658 (by decide) d_Mod_init_660 (by decide) d_Mod_init_662 (by unfold vp_in; decide) (by decide) rfl ?_
  refine mb_bipush (a := 103) (pc := 663) hk d_Mod_init_663 d_Mod_init_664 (by decide) d_Mod_init_666 (by decide) d_Mod_init_668 (by unfold vp_in; decide) (by decide) rfl ?_
  refine mb_bipush (a := 104) (pc := 669) hk d_Mod_init_669 d_Mod_init_670 (by decide) d_Mod_init_672 (by decide) d_Mod_init_674 (by unfold vp_in; decide) (by decide) rfl ?_
  refine mb_bipush (a := 105) (pc := 675) hk d_Mod_init_675 d_Mod_init_676 (by decide) d_Mod_init_678 (by decide) d_Mod_init_680 (by unfold vp_in; decide) (by decide) rfl ?_
  refine mb_bipush (a := 106) (pc := 681) hk d_Mod_init_681 d_Mod_init_682 (by decide) d_Mod_init_684 (by decide) d_Mod_init_686 (by unfold vp_in; decide) (by decide) rfl ?_
  refine mb_bipush (a := 107) (pc := 687) hk d_Mod_init_687 d_Mod_init_688 (by decide) d_Mod_init_690 (by decide) d_Mod_init_692 (by unfold vp_in; decide) (by decide) rfl ?_
  refine mb_bipush (a := 108) (pc := 693) hk d_Mod_init_693 d_Mod_init_694 (by decide) d_Mod_init_696 (by decide) d_Mod_init_698 (by unfold vp_in; decide) (by decide) rfl ?_
  refine mb_bipush (a := 109) (pc := 699) hk d_Mod_init_699 d_Mod_init_700 (by decide) d_Mod_init_702 (by decide) d_Mod_init_704 (by unfold vp_in; decide) (by decide) rfl ?_
  refine mb_bipush (a := 110) (pc := 705) hk d_Mod_init_705 d_Mod_init_706 (by decide) d_Mod_init_708 (by decide) d_Mod_init_710 (by unfold vp_in; decide) (by decide) rfl ?_
  refine mb_bipush (a := 111) (pc := 711) hk d_Mod_init_711 d_Mod_init_712 (by decide) d_Mod_init_714 (by decide) d_Mod_init_716 (by unfold vp_in; decide) (by decide) rfl ?_
  refine mb_bipush (a := 112) (pc := 717) hk d_Mod_init_717 d_Mod_init_718 (by decide) d_Mod_init_720 (by decide) d_Mod_init_722 (by unfold vp_in; decide) (by decide) rfl ?_
  refine mb_bipush (a := 113) (pc := 723) hk d_Mod_init_723 d_Mod_init_724 (by decide) d_Mod_init_726 (by decide) d_Mod_init_728 (by unfold vp_in; decide) (by decide) rfl ?_
  refine mb_bipush (a := 114) (pc := 729) hk d_Mod_init_729 d_Mod_init_730 (by decide) d_Mod_init_732 (by decide) d_Mod_init_734 (by unfold vp_in; decide) (by decide) rfl ?_
  refine mb_bipush (a := 115) (pc := 735) hk d_Mod_init_735 d_Mod_init_736 (by decide) d_Mod_init_738 (by decide) d_Mod_init_740 (by unfold vp_in; decide) (by decide) rfl ?_
  refine mb_bipush (a := 116) (pc := 741) hk d_Mod_init_741 d_Mod_init_742 (by decide) d_Mod_init_744 (by decide) d_Mod_init_746 (by unfold vp_in; decide) (by decide) rfl ?_
  refine mb_bipush (a := 117) (pc := 747) hk d_Mod_init_747 d_Mod_init_748 (by decide) d_Mod_init_750 (by decide) d_Mod_init_752 (by unfold vp_in; decide) (by decide) rfl ?_
  refine mb_bipush (a := 118) (pc := 753) hk d_Mod_init_753 d_Mod_init_754 (by decide) d_Mod_init_756 (by decide) d_Mod_init_758 (by unfold vp_in; decide) (by decide) rfl ?_
  refine mb_bipush (a := 119) (pc := 759) hk d_Mod_init_759 d_Mod_init_760 (by decide) d_Mod_init_762 (by decide) d_Mod_init_764 (by unfold vp_in; decide) (by decide) rfl ?_
  exact kk
theorem mb_120 {d : Nat} {L : List (Option Value)} {st : List Value} {mem : List xM} {bc bs k : Nat} {Q : List xM → Option Value → Prop} (hk : k < mem.length) (kk : SJ true m_Mod_init d 876 L (.ref k :: st) (mem.set k (.inl (1, 137, .inl (tbf 137)))) bc bs Q) : SJ true m_Mod_init d 765 L (.ref k :: st) (mem.set k (.inl (1, 137, .inl (tbf 120)))) bc bs Q := by
  refine mb_bipush (a := 120) (pc := 765) hk d_Mod_init_765 d_Mod_init_766 (by decide) d_Mod_init_768 (by decide) d_Mod_init_770 (by unfold vp_in; decide) (by decide) rfl ?_
  refine mb_bipush (a := 121) (pc := 771) hk d_Mod_init_771 d_Mod_init_772 (by decide) d_Mod_init_774 (by decide) d_Mod_init_776 (by unfold vp_in; decide) (by decide) rfl ?_
  refine mb_bipush (a := 122) (pc := 777) hk d_Mod_init_777 d_Mod_init_778 (by decide) d_Mod_init_780 (by decide) d_Mod_init_782 (by unfold vp_in; decide) (by decide) rfl ?_
  refine mb_bipush (a := 123) (pc := 783) hk d_Mod_init_783 d_Mod_init_784 (by decide) d_Mod_init_786 (by decide) d_Mod_init_788 (by unfold vp_in; decide) (by decide) rfl ?_
  refine mb_bipush (a := 124) (pc := 789) hk d_Mod_init_789 d_Mod_init_790 (by decide) d_Mod_init_792 (by decide) d_Mod_init_794 (by unfold vp_in; decide) (by decide) rfl ?_
  refine mb_bipush (a := 125) (pc := 795) hk d_Mod_init_795 d_Mod_init_796 (by decide) d_Mod_init_798 (by decide) d_Mod_init_800 (by unfold vp_in; decide) (by decide) rfl ?_
  refine mb_bipush (a := 126) (pc := 801) hk d_Mod_init_801 d_Mod_init_802 (by decide) d_Mod_init_804 (by decide) d_Mod_init_806 (by unfold vp_in; decide) (by decide) rfl ?_
  refine mb_bipush (a := 127) (pc := 807) hk d_Mod_init_807 d_Mod_init_808 (by decide) d_Mod_init_810 (by decide) d_Mod_init_812 (by unfold vp_in; decide) (by decide) rfl ?_
  refine mb_sipush (a := 128) (pc := 813) hk d_Mod_init_813 d_Mod_init_814 (by decide) d_Mod_init_817 (by decide) d_Mod_init_819 (by unfold vp_in; decide) (by decide) rfl ?_
  refine mb_sipush (a := 129) (pc := 820) hk d_Mod_init_820 d_Mod_init_821 (by decide) d_Mod_init_824 (by decide) d_Mod_init_826 (by unfold vp_in; decide) (by decide) rfl ?_
  refine mb_sipush (a := 130) (pc := 827) hk d_Mod_init_827 d_Mod_init_828 (by decide) d_Mod_init_831 (by decide) d_Mod_init_833 (by unfold vp_in; decide) (by decide) rfl ?_
  refine mb_sipush (a := 131) (pc := 834) hk d_Mod_init_834 d_Mod_init_835 (by decide) d_Mod_init_838 (by decide) d_Mod_init_840 (by unfold vp_in; decide) (by decide) rfl ?_
  refine mb_sipush (a := 132) (pc := 841) hk d_Mod_init_841 d_Mod_init_842 (by decide) d_Mod_init_845 (by decide) d_Mod_init_847 (by unfold vp_in; decide) (by decide) rfl ?_
  refine mb_sipush (a := 133) (pc := 848) hk d_Mod_init_848 d_Mod_init_849 (by decide) d_Mod_init_852 (by decide) d_Mod_init_854 (by unfold vp_in; decide) (by decide) rfl ?_
  refine mb_sipush (a := 134) (pc := 855) hk d_Mod_init_855 d_Mod_init_856 (by decide) d_Mod_init_859 (by decide) d_Mod_init_861 (by unfold vp_in; decide) (by decide) rfl ?_
  refine mb_sipush (a := 135) (pc := 862) hk d_Mod_init_862 d_Mod_init_863 (by decide) d_Mod_init_866 (by decide) d_Mod_init_868 (by unfold vp_in; decide) (by decide) rfl ?_
  refine mb_sipush (a := 136) (pc := 869) hk d_Mod_init_869 d_Mod_init_870 (by decide) d_Mod_init_873 (by decide) d_Mod_init_875 (by unfold vp_in; decide) (by decide) rfl ?_
  exact kk
theorem ma_put {d pc : Nat} {L : List (Option Value)} {st : List Value} {bc bs : Nat} {Q : List xM → Option Value → Prop} {F : List Value} {T : List xM} {idx kf : Nat} {at_ : ArrayType} {ty : FieldType} {t N : Nat} {n : Int32} {a0 : vp_A} (hd : decode m_Mod_init.2.1 pc = .ok (.newarray at_, 2)) (hty : newarray.typeOf at_ = ty) (ht : ∀ dA : Nat → ClassId, (x_ty dA)[t]? = some (dA t, ty)) (hra : ∀ (U : State) (c : ClassId), va_RA U c ty → U.vm.findClass ("[" ++ ty.toString) = some c) (w : Cond.arrayClass ty ∈ gw) (ha : ∀ (ad : Nat → Nat) (cA : ClassId), vp_cell cA (x_a ad a0) = arrV cA N (fun _ => defaultValue ty)) (hn : ¬ n < 0) (hN : n.toNatClampNeg = N) (hby : N * componentBytes ty ≤ 536870912) (hb1 : 1 ≤ bc) (hb2 : N ≤ bs) (hd2 : decode m_Mod_init.2.1 (pc + 2) = .ok (.putfield idx, 3)) (hf : x_fs "BracketHouseModel" idx 12 kf) (hft : x_ft 12 kf true (.array ty)) (hdc : ∀ q : vw_C, xcl[12]? = some q → (q.2.1 kf).1 = "BracketHouseModel") (hl : kf < F.length)
    (kk : SJ true m_Mod_init d (pc + 5) L st (.inr (12, F.set kf (.ref (T.length + 1))) :: (T ++ [.inl (t, a0)])) (bc - 1) (bs - N) Q) : SJ true m_Mod_init d pc L (.int n :: .ref 0 :: st) (.inr (12, F) :: T) bc bs Q := by
  refine j_newa (t := t) (N := N) (a0 := a0) hd hty ht hra w ha hn hN hby hb1 hb2 ?_
  exact j_putF (ci := 12) (k := kf) hd2 hf hft rfl hdc rfl hl x_okA kk
def w7 : Int → Int := fun j => (tbf 137 j.toNat).toInt
theorem tbf_ia : tbf 137 = ia w7 := funext fun j => by
  show tbf 137 j = Int32.ofInt (tbf 137 ((j : Int).toNat)).toInt
  rw [Int.toNat_natCast, Int32.ofInt_toInt]
theorem w7_TA : ∀ j, 0 ≤ j → j < 137 → w7 j = ofL TA j := by
  have h : ∀ j, j < 137 → (tbf 137 j).toInt = TA.getD j 0 := by decide +kernel
  intro j h0 h1
  exact h j.toNat (by omega)
theorem set_end {M : List xM} {a b : xM} {n : Nat} (h : M.length = n) : (M ++ [a]).set n b = M ++ [b] := by
  subst h
  rw [List.set_append_right _ _ (Nat.le_refl _), Nat.sub_self]
  rfl
theorem ma_words {d : Nat} {L : List (Option Value)} {st : List Value} {bc bs : Nat} {Q : List xM → Option Value → Prop} {F : List Value} {T : List xM} (hT : T.length = 5) (hl : 7 < F.length) (hb1 : 1 ≤ bc) (hb2 : 137 ≤ bs) (kk : SJ true m_Mod_init d 879 L st (.inr (12, F.set 7 (.ref 6)) :: (T ++ [.inl (1, 137, .inl (ia w7))])) (bc - 1) (bs - 137) Q) : SJ true m_Mod_init d 49 L (.int (ii 137) :: .ref 0 :: st) (.inr (12, F) :: T) bc bs Q := by
  have hM : (.inr (12, F) :: T : List xM).length = 6 := by rw [List.length_cons, hT]
  have hM1 : ∀ c : xM, 6 < ((.inr (12, F) :: T) ++ [c] : List xM).length := fun c => by rw [List.length_append, hM]; exact Nat.lt_succ_self 6
  refine j_newa (t := 1) (N := 137) (a0 := (137, .inl (ia (fun _ => 0)))) d_Mod_init_49 rfl (fun _ => rfl) (fun _ _ h => h) wd_a_byte (fun _ _ => rfl) (by decide) (by decide) (by decide) hb1 hb2 ?_
  rw [hM]
  refine SJ.mem_eq (mem := ((.inr (12, F) :: T) ++ [.inl (1, 137, .inl (tbf 0))] : List xM).set 6 (.inl (1, 137, .inl (tbf 0)))) (set_end hM).symm ?_
  refine mb_0 (k := 6) (hM1 _) ?_
  refine mb_20 (k := 6) (hM1 _) ?_
  refine mb_40 (k := 6) (hM1 _) ?_
  refine mb_60 (k := 6) (hM1 _) ?_
  refine mb_80 (k := 6) (hM1 _) ?_
  refine mb_100 (k := 6) (hM1 _) ?_
  refine mb_120 (k := 6) (hM1 _) ?_
  rw [tbf_ia, set_end hM]
  exact j_putF (ci := 12) (k := 7) d_Mod_init_876 f_Mod_45 ⟨_, rfl, rfl, rfl⟩ rfl (fun q h => by cases h; rfl) rfl hl x_okA kk
theorem n_Mod_init {d : Nat} {Q : List xM → Option Value → Prop} (hQ : Q (MM 0 0 0 0 0 0 (-1) 0 0 0 0 0 0 0 0 0 0 0 (-1) 0 0 0 0 0 0 (-1) 0 (fun _ => 0) (up (up (fun _ => 0) 22 4) 25 (-1)) (fun _ => 0) (fun _ => 0) (fun _ => 0) w7 (fun _ => 0) (fun _ => 0) (fun _ => 0) (fun _ => 0) (fun _ => 0) (fun _ => 0) (fun _ => 0) (fun _ => 0) (fun _ => 0) (fun _ => 0) (fun _ => 0) (fun _ => 0) (fun _ => 0) (fun _ => 0) (fun _ => 0) (fun _ => 0) (fun _ => 0) (fun _ => 0) (fun _ => 0) (fun _ => 0)) none) : CT true m_Mod_init (d + 1) [.ref 0] [.inr (12, [.int (ii 0), .null, .null, .null, .null, .null, .int (ii 0), .null, .int (ii 0), .int (ii 0), .int (ii 0), .null, .null, .int (ii 0), .int (ii 0), .null, .null, .null, .int (ii 0), .int (ii 0), .int (ii 0), .int (ii 0), .int (ii 0), .int (ii 0), .int (ii 0), .int (ii 0), .null, .int (ii 0), .int (ii 0), .null, .null, .null, .null, .int (ii 0), .null, .null, .null, .null, .null, .null, .null, .null, .int (ii 0), .int (ii 0), .int (ii 0), .int (ii 0), .int (ii 0), .int (ii 0), .int (ii 0), .null, .null, .int (ii 0), .int (ii 0)])] 26 20614 Q := by
  refine CT.of (by decide) (Nat.le_of_ble_eq_true rfl) ?_
  show SJ _ _ _ _ [some (.ref 0)] [] _ _ _ _
  refine j_aload_n d_Mod_init_0 rfl ?_
  refine j_objI d_Mod_init_1 oi_Mod_26 (Nat.le_of_ble_eq_true rfl) ?_
  refine j_aload_n d_Mod_init_4 rfl ?_
  refine z_bipush d_Mod_init_5 (by decide) ?_
  refine ma_put (t := 0) (N := 7) (a0 := (7, .inl (ia (fun _ => 0)))) d_Mod_init_7 rfl (fun _ => rfl) (fun _ _ h => h) wd_a_int (fun _ _ => rfl) (by decide) (by decide) (by decide) (Nat.le_of_ble_eq_true rfl) (Nat.le_of_ble_eq_true rfl) d_Mod_init_9 f_Mod_7 ⟨_, rfl, rfl, rfl⟩ (fun q h => by cases h; rfl) (Nat.le_of_ble_eq_true rfl) ?_
  refine j_aload_n d_Mod_init_12 rfl ?_
  refine z_sipush d_Mod_init_13 (by decide) ?_
  refine ma_put (t := 0) (N := 5633) (a0 := (5633, .inl (ia (fun _ => 0)))) d_Mod_init_16 rfl (fun _ => rfl) (fun _ _ h => h) wd_a_int (fun _ _ => rfl) (by decide) (by decide) (by decide) (Nat.le_of_ble_eq_true rfl) (Nat.le_of_ble_eq_true rfl) d_Mod_init_18 f_Mod_32 ⟨_, rfl, rfl, rfl⟩ (fun q h => by cases h; rfl) (Nat.le_of_ble_eq_true rfl) ?_
  refine j_aload_n d_Mod_init_21 rfl ?_
  refine z_sipush d_Mod_init_22 (by decide) ?_
  refine ma_put (t := 0) (N := 11266) (a0 := (11266, .inl (ia (fun _ => 0)))) d_Mod_init_25 rfl (fun _ => rfl) (fun _ _ h => h) wd_a_int (fun _ _ => rfl) (by decide) (by decide) (by decide) (Nat.le_of_ble_eq_true rfl) (Nat.le_of_ble_eq_true rfl) d_Mod_init_27 f_Mod_35 ⟨_, rfl, rfl, rfl⟩ (fun q h => by cases h; rfl) (Nat.le_of_ble_eq_true rfl) ?_
  refine j_aload_n d_Mod_init_30 rfl ?_
  refine z_iconst d_Mod_init_31 ?_
  refine ma_put (t := 2) (N := 2) (a0 := (2, .inl (ia (fun _ => 0)))) d_Mod_init_32 rfl (fun _ => rfl) (fun _ _ h => h) wd_a_boolean (fun _ _ => rfl) (by decide) (by decide) (by decide) (Nat.le_of_ble_eq_true rfl) (Nat.le_of_ble_eq_true rfl) d_Mod_init_34 f_Mod_38 ⟨_, rfl, rfl, rfl⟩ (fun q h => by cases h; rfl) (Nat.le_of_ble_eq_true rfl) ?_
  refine j_aload_n d_Mod_init_37 rfl ?_
  refine z_bipush d_Mod_init_38 (by decide) ?_
  refine ma_put (t := 0) (N := 44) (a0 := (44, .inl (ia (fun _ => 0)))) d_Mod_init_40 rfl (fun _ => rfl) (fun _ _ h => h) wd_a_int (fun _ _ => rfl) (by decide) (by decide) (by decide) (Nat.le_of_ble_eq_true rfl) (Nat.le_of_ble_eq_true rfl) d_Mod_init_42 f_Mod_42 ⟨_, rfl, rfl, rfl⟩ (fun q h => by cases h; rfl) (Nat.le_of_ble_eq_true rfl) ?_
  refine j_aload_n d_Mod_init_45 rfl ?_
  refine z_sipush d_Mod_init_46 (by decide) ?_
  refine ma_words rfl (Nat.le_of_ble_eq_true rfl) (Nat.le_of_ble_eq_true rfl) (Nat.le_of_ble_eq_true rfl) ?_
  refine j_aload_n d_Mod_init_879 rfl ?_
  refine z_sipush d_Mod_init_880 (by decide) ?_
  refine ma_put (t := 1) (N := 400) (a0 := (400, .inl (ia (fun _ => 0)))) d_Mod_init_883 rfl (fun _ => rfl) (fun _ _ h => h) wd_a_byte (fun _ _ => rfl) (by decide) (by decide) (by decide) (Nat.le_of_ble_eq_true rfl) (Nat.le_of_ble_eq_true rfl) d_Mod_init_885 f_Mod_49 ⟨_, rfl, rfl, rfl⟩ (fun q h => by cases h; rfl) (Nat.le_of_ble_eq_true rfl) ?_
  refine j_aload_n d_Mod_init_888 rfl ?_
  refine z_iconst d_Mod_init_889 ?_
  refine ma_put (t := 0) (N := 5) (a0 := (5, .inl (ia (fun _ => 0)))) d_Mod_init_890 rfl (fun _ => rfl) (fun _ _ h => h) wd_a_int (fun _ _ => rfl) (by decide) (by decide) (by decide) (Nat.le_of_ble_eq_true rfl) (Nat.le_of_ble_eq_true rfl) d_Mod_init_892 f_Mod_52 ⟨_, rfl, rfl, rfl⟩ (fun q h => by cases h; rfl) (Nat.le_of_ble_eq_true rfl) ?_
  refine j_aload_n d_Mod_init_895 rfl ?_
  refine z_iconst d_Mod_init_896 ?_
  refine j_putf (ci := 12) (k := 14) d_Mod_init_897 f_Mod_55 ⟨_, rfl, rfl, rfl⟩ rfl (Nat.le_of_ble_eq_true rfl) x_okI ?_
  refine j_aload_n d_Mod_init_900 rfl ?_
  refine z_sipush d_Mod_init_901 (by decide) ?_
  refine ma_put (t := 0) (N := 401) (a0 := (401, .inl (ia (fun _ => 0)))) d_Mod_init_904 rfl (fun _ => rfl) (fun _ _ h => h) wd_a_int (fun _ _ => rfl) (by decide) (by decide) (by decide) (Nat.le_of_ble_eq_true rfl) (Nat.le_of_ble_eq_true rfl) d_Mod_init_906 f_Mod_58 ⟨_, rfl, rfl, rfl⟩ (fun q h => by cases h; rfl) (Nat.le_of_ble_eq_true rfl) ?_
  refine j_aload_n d_Mod_init_909 rfl ?_
  refine z_sipush d_Mod_init_910 (by decide) ?_
  refine ma_put (t := 0) (N := 401) (a0 := (401, .inl (ia (fun _ => 0)))) d_Mod_init_913 rfl (fun _ => rfl) (fun _ _ h => h) wd_a_int (fun _ _ => rfl) (by decide) (by decide) (by decide) (Nat.le_of_ble_eq_true rfl) (Nat.le_of_ble_eq_true rfl) d_Mod_init_915 f_Mod_61 ⟨_, rfl, rfl, rfl⟩ (fun q h => by cases h; rfl) (Nat.le_of_ble_eq_true rfl) ?_
  refine j_aload_n d_Mod_init_918 rfl ?_
  refine z_sipush d_Mod_init_919 (by decide) ?_
  refine ma_put (t := 0) (N := 401) (a0 := (401, .inl (ia (fun _ => 0)))) d_Mod_init_922 rfl (fun _ => rfl) (fun _ _ h => h) wd_a_int (fun _ _ => rfl) (by decide) (by decide) (by decide) (Nat.le_of_ble_eq_true rfl) (Nat.le_of_ble_eq_true rfl) d_Mod_init_924 f_Mod_64 ⟨_, rfl, rfl, rfl⟩ (fun q h => by cases h; rfl) (Nat.le_of_ble_eq_true rfl) ?_
  refine j_aload_n d_Mod_init_927 rfl ?_
  refine z_bipush d_Mod_init_928 (by decide) ?_
  refine ma_put (t := 0) (N := 8) (a0 := (8, .inl (ia (fun _ => 0)))) d_Mod_init_930 rfl (fun _ => rfl) (fun _ _ h => h) wd_a_int (fun _ _ => rfl) (by decide) (by decide) (by decide) (Nat.le_of_ble_eq_true rfl) (Nat.le_of_ble_eq_true rfl) d_Mod_init_932 f_Mod_67 ⟨_, rfl, rfl, rfl⟩ (fun q h => by cases h; rfl) (Nat.le_of_ble_eq_true rfl) ?_
  refine j_aload_n d_Mod_init_935 rfl ?_
  refine z_bipush d_Mod_init_936 (by decide) ?_
  refine ma_put (t := 0) (N := 20) (a0 := (20, .inl (ia (fun _ => 0)))) d_Mod_init_938 rfl (fun _ => rfl) (fun _ _ h => h) wd_a_int (fun _ _ => rfl) (by decide) (by decide) (by decide) (Nat.le_of_ble_eq_true rfl) (Nat.le_of_ble_eq_true rfl) d_Mod_init_940 f_Mod_70 ⟨_, rfl, rfl, rfl⟩ (fun q h => by cases h; rfl) (Nat.le_of_ble_eq_true rfl) ?_
  refine j_aload_n d_Mod_init_943 rfl ?_
  refine z_bipush d_Mod_init_944 (by decide) ?_
  refine ma_put (t := 0) (N := 20) (a0 := (20, .inl (ia (fun _ => 0)))) d_Mod_init_946 rfl (fun _ => rfl) (fun _ _ h => h) wd_a_int (fun _ _ => rfl) (by decide) (by decide) (by decide) (Nat.le_of_ble_eq_true rfl) (Nat.le_of_ble_eq_true rfl) d_Mod_init_948 f_Mod_73 ⟨_, rfl, rfl, rfl⟩ (fun q h => by cases h; rfl) (Nat.le_of_ble_eq_true rfl) ?_
  refine j_aload_n d_Mod_init_951 rfl ?_
  refine z_sipush d_Mod_init_952 (by decide) ?_
  refine ma_put (t := 0) (N := 368) (a0 := (368, .inl (ia (fun _ => 0)))) d_Mod_init_955 rfl (fun _ => rfl) (fun _ _ h => h) wd_a_int (fun _ _ => rfl) (by decide) (by decide) (by decide) (Nat.le_of_ble_eq_true rfl) (Nat.le_of_ble_eq_true rfl) d_Mod_init_957 f_Mod_76 ⟨_, rfl, rfl, rfl⟩ (fun q h => by cases h; rfl) (Nat.le_of_ble_eq_true rfl) ?_
  refine j_aload_n d_Mod_init_960 rfl ?_
  refine z_sipush d_Mod_init_961 (by decide) ?_
  refine ma_put (t := 0) (N := 368) (a0 := (368, .inl (ia (fun _ => 0)))) d_Mod_init_964 rfl (fun _ => rfl) (fun _ _ h => h) wd_a_int (fun _ _ => rfl) (by decide) (by decide) (by decide) (Nat.le_of_ble_eq_true rfl) (Nat.le_of_ble_eq_true rfl) d_Mod_init_966 f_Mod_79 ⟨_, rfl, rfl, rfl⟩ (fun q h => by cases h; rfl) (Nat.le_of_ble_eq_true rfl) ?_
  refine j_aload_n d_Mod_init_969 rfl ?_
  refine z_sipush d_Mod_init_970 (by decide) ?_
  refine ma_put (t := 0) (N := 441) (a0 := (441, .inl (ia (fun _ => 0)))) d_Mod_init_973 rfl (fun _ => rfl) (fun _ _ h => h) wd_a_int (fun _ _ => rfl) (by decide) (by decide) (by decide) (Nat.le_of_ble_eq_true rfl) (Nat.le_of_ble_eq_true rfl) d_Mod_init_975 f_Mod_82 ⟨_, rfl, rfl, rfl⟩ (fun q h => by cases h; rfl) (Nat.le_of_ble_eq_true rfl) ?_
  refine j_aload_n d_Mod_init_978 rfl ?_
  refine z_bipush d_Mod_init_979 (by decide) ?_
  refine ma_put (t := 0) (N := 126) (a0 := (126, .inl (ia (fun _ => 0)))) d_Mod_init_981 rfl (fun _ => rfl) (fun _ _ h => h) wd_a_int (fun _ _ => rfl) (by decide) (by decide) (by decide) (Nat.le_of_ble_eq_true rfl) (Nat.le_of_ble_eq_true rfl) d_Mod_init_983 f_Mod_85 ⟨_, rfl, rfl, rfl⟩ (fun q h => by cases h; rfl) (Nat.le_of_ble_eq_true rfl) ?_
  refine j_aload_n d_Mod_init_986 rfl ?_
  refine z_bipush d_Mod_init_987 (by decide) ?_
  refine ma_put (t := 0) (N := 20) (a0 := (20, .inl (ia (fun _ => 0)))) d_Mod_init_989 rfl (fun _ => rfl) (fun _ _ h => h) wd_a_int (fun _ _ => rfl) (by decide) (by decide) (by decide) (Nat.le_of_ble_eq_true rfl) (Nat.le_of_ble_eq_true rfl) d_Mod_init_991 f_Mod_88 ⟨_, rfl, rfl, rfl⟩ (fun q h => by cases h; rfl) (Nat.le_of_ble_eq_true rfl) ?_
  refine j_aload_n d_Mod_init_994 rfl ?_
  refine z_bipush d_Mod_init_995 (by decide) ?_
  refine ma_put (t := 2) (N := 20) (a0 := (20, .inl (ia (fun _ => 0)))) d_Mod_init_997 rfl (fun _ => rfl) (fun _ _ h => h) wd_a_boolean (fun _ _ => rfl) (by decide) (by decide) (by decide) (Nat.le_of_ble_eq_true rfl) (Nat.le_of_ble_eq_true rfl) d_Mod_init_999 f_Mod_91 ⟨_, rfl, rfl, rfl⟩ (fun q h => by cases h; rfl) (Nat.le_of_ble_eq_true rfl) ?_
  refine j_aload_n d_Mod_init_1002 rfl ?_
  refine z_sipush d_Mod_init_1003 (by decide) ?_
  refine ma_put (t := 3) (N := 350) (a0 := (350, .inr (.inl (la (fun _ => 0))))) d_Mod_init_1006 rfl (fun _ => rfl) (fun _ _ h => h) wd_a_long (fun _ _ => rfl) (by decide) (by decide) (by decide) (Nat.le_of_ble_eq_true rfl) (Nat.le_of_ble_eq_true rfl) d_Mod_init_1008 f_Mod_94 ⟨_, rfl, rfl, rfl⟩ (fun q h => by cases h; rfl) (Nat.le_of_ble_eq_true rfl) ?_
  refine j_aload_n d_Mod_init_1011 rfl ?_
  refine z_bipush d_Mod_init_1012 (by decide) ?_
  refine ma_put (t := 0) (N := 24) (a0 := (24, .inl (ia (fun _ => 0)))) d_Mod_init_1014 rfl (fun _ => rfl) (fun _ _ h => h) wd_a_int (fun _ _ => rfl) (by decide) (by decide) (by decide) (Nat.le_of_ble_eq_true rfl) (Nat.le_of_ble_eq_true rfl) d_Mod_init_1016 f_Mod_98 ⟨_, rfl, rfl, rfl⟩ (fun q h => by cases h; rfl) (Nat.le_of_ble_eq_true rfl) ?_
  refine j_aload_n d_Mod_init_1019 rfl ?_
  refine z_iconst d_Mod_init_1020 ?_
  refine ma_put (t := 0) (N := 4) (a0 := (4, .inl (ia (fun _ => 0)))) d_Mod_init_1021 rfl (fun _ => rfl) (fun _ _ h => h) wd_a_int (fun _ _ => rfl) (by decide) (by decide) (by decide) (Nat.le_of_ble_eq_true rfl) (Nat.le_of_ble_eq_true rfl) d_Mod_init_1023 f_Mod_101 ⟨_, rfl, rfl, rfl⟩ (fun q h => by cases h; rfl) (Nat.le_of_ble_eq_true rfl) ?_
  refine j_aload_n d_Mod_init_1026 rfl ?_
  refine z_bipush d_Mod_init_1027 (by decide) ?_
  refine ma_put (t := 3) (N := 124) (a0 := (124, .inr (.inl (la (fun _ => 0))))) d_Mod_init_1029 rfl (fun _ => rfl) (fun _ _ h => h) wd_a_long (fun _ _ => rfl) (by decide) (by decide) (by decide) (Nat.le_of_ble_eq_true rfl) (Nat.le_of_ble_eq_true rfl) d_Mod_init_1031 f_Mod_104 ⟨_, rfl, rfl, rfl⟩ (fun q h => by cases h; rfl) (Nat.le_of_ble_eq_true rfl) ?_
  refine j_aload_n d_Mod_init_1034 rfl ?_
  refine z_iconst d_Mod_init_1035 ?_
  refine j_putf (ci := 12) (k := 42) d_Mod_init_1036 f_Mod_107 ⟨_, rfl, rfl, rfl⟩ rfl (Nat.le_of_ble_eq_true rfl) x_okI ?_
  refine j_aload_n d_Mod_init_1039 rfl ?_
  refine z_iconst d_Mod_init_1040 ?_
  refine ma_put (t := 3) (N := 2) (a0 := (2, .inr (.inl (la (fun _ => 0))))) d_Mod_init_1041 rfl (fun _ => rfl) (fun _ _ h => h) wd_a_long (fun _ _ => rfl) (by decide) (by decide) (by decide) (Nat.le_of_ble_eq_true rfl) (Nat.le_of_ble_eq_true rfl) d_Mod_init_1043 f_Mod_110 ⟨_, rfl, rfl, rfl⟩ (fun q h => by cases h; rfl) (Nat.le_of_ble_eq_true rfl) ?_
  refine j_aload_n d_Mod_init_1046 rfl ?_
  refine z_bipush d_Mod_init_1047 (by decide) ?_
  refine ma_put (t := 0) (N := 22) (a0 := (22, .inl (ia (fun _ => 0)))) d_Mod_init_1049 rfl (fun _ => rfl) (fun _ _ h => h) wd_a_int (fun _ _ => rfl) (by decide) (by decide) (by decide) (Nat.le_of_ble_eq_true rfl) (Nat.le_of_ble_eq_true rfl) d_Mod_init_1051 f_Mod_113 ⟨_, rfl, rfl, rfl⟩ (fun q h => by cases h; rfl) (Nat.le_of_ble_eq_true rfl) ?_
  refine j_aload_n d_Mod_init_1054 rfl ?_
  refine z_iconst d_Mod_init_1055 ?_
  refine j_putf (ci := 12) (k := 51) d_Mod_init_1056 f_Mod_116 ⟨_, rfl, rfl, rfl⟩ rfl (Nat.le_of_ble_eq_true rfl) x_okI ?_
  refine j_aload_n d_Mod_init_1059 rfl ?_
  refine j_getf d_Mod_init_1060 f_Mod_32 rfl rfl ?_
  refine z_bipush d_Mod_init_1063 (by decide) ?_
  refine z_iconst d_Mod_init_1065 ?_
  refine z_iast (n := 5633) (x := fun _ => 0) (a := 22) (v := 4) d_Mod_init_1066 rfl (by decide) (by decide) (by unfold R32; decide) ?_
  refine j_aload_n d_Mod_init_1067 rfl ?_
  refine j_getf d_Mod_init_1068 f_Mod_32 rfl rfl ?_
  refine z_bipush d_Mod_init_1071 (by decide) ?_
  refine z_iconst d_Mod_init_1073 ?_
  refine z_iast (n := 5633) (x := up (fun _ => 0) 22 4) (a := 25) (v := -1) d_Mod_init_1074 rfl (by decide) (by decide) (by unfold R32; decide) ?_
  exact j_return rfl d_Mod_init_1075 hQ
