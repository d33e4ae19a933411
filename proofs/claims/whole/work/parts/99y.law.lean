/-! ===== the law: its rounds ===== -/
abbrev cL_law : ByteArray := code
abbrev mL_law : MD := (⟨"CurveSharesLaw", "law", "([I)Z"⟩, code, 4, some (.boolean), 10, 233)
theorem lg_cmp_s (a : Int64) : lg_cmp a a = 0 := by unfold lg_cmp; simp
section VL
variable {y : MD} {k n pc : Nat} {lv : List (Option Value)} {st : List Value} {x : Wx} {Z : Zt} {Q : Option Value → Wx → Zt → Prop}
theorem V_icmpE {a b : Int} {off : Int} {tgt : Nat} (hd : decode y.2.1 pc = .ok (.if_icmp .eq off, 3)) (ht : (pc : Int) + off = (tgt : Int)) (hab : a = b) (kt : V y k n tgt lv st x Z Q) : V y k n pc lv (i_ b :: i_ a :: st) x Z Q := by
  intro D B Hb p l e R s m args below meth c H locs cells slots QF ls C hR hL hm hl hret
  refine lv_icmp_eq C.1 C.2.1 hd ht (fun h => ?_) (fun h => ?_)
  · exact kt D B Hb p l e R s m args below meth c H locs cells slots QF ls C hR hL hm hl hret
  · exact absurd (show Int32.ofInt a = Int32.ofInt b by rw [hab]) (by simpa using h)
theorem V_lcmpE {a b : Int} (hd : decode y.2.1 pc = .ok (.lcmp, 1)) (hab : a = b) (kk : V y k n (pc + 1) lv (i_ 0 :: st) x Z Q) : V y k n pc lv (l_ b :: l_ a :: st) x Z Q := by
  intro D B Hb p l e R s m args below meth c H locs cells slots QF ls C hR hL hm hl hret
  subst hab
  refine W.lcmp C.1 C.2.1 hd ?_
  rw [lg_cmp_s]
  exact kk D B Hb p l e R s m args below meth c H locs cells slots QF ls C hR hL hm hl hret
end VL
theorem dL_law_0 : decode cL_law 0 = .ok (.new 7, 3) := by decide +kernel
theorem dL_law_3 : decode cL_law 3 = .ok (.dup, 1) := by decide +kernel
theorem dL_law_4 : decode cL_law 4 = .ok (.invokespecial 9, 3) := by decide +kernel
theorem dL_law_7 : decode cL_law 7 = .ok (.astore_n 1, 1) := by decide +kernel
theorem dL_law_8 : decode cL_law 8 = .ok (.new 10, 3) := by decide +kernel
theorem dL_law_11 : decode cL_law 11 = .ok (.dup, 1) := by decide +kernel
theorem dL_law_12 : decode cL_law 12 = .ok (.invokespecial 12, 3) := by decide +kernel
theorem dL_law_15 : decode cL_law 15 = .ok (.astore_n 2, 1) := by decide +kernel
theorem dL_law_16 : decode cL_law 16 = .ok (.iconst 0, 1) := by decide +kernel
theorem dL_law_17 : decode cL_law 17 = .ok (.istore_n 3, 1) := by decide +kernel
theorem dL_law_18 : decode cL_law 18 = .ok (.iload_n 3, 1) := by decide +kernel
theorem dL_law_19 : decode cL_law 19 = .ok (.aload_n 0, 1) := by decide +kernel
theorem dL_law_20 : decode cL_law 20 = .ok (.arraylength, 1) := by decide +kernel
theorem dL_law_21 : decode cL_law 21 = .ok (.bipush 7, 2) := by decide +kernel
theorem dL_law_23 : decode cL_law 23 = .ok (.isub, 1) := by decide +kernel
theorem dL_law_24 : decode cL_law 24 = .ok (.if_icmp .gt 1495, 3) := by decide +kernel
theorem dL_law_27 : decode cL_law 27 = .ok (.aload_n 0, 1) := by decide +kernel
theorem dL_law_28 : decode cL_law 28 = .ok (.iload_n 3, 1) := by decide +kernel
theorem dL_law_29 : decode cL_law 29 = .ok (.iaload, 1) := by decide +kernel
theorem dL_law_30 : decode cL_law 30 = .ok (.bipush 31, 2) := by decide +kernel
theorem dL_law_32 : decode cL_law 32 = .ok (.iand, 1) := by decide +kernel
theorem dL_law_33 : decode cL_law 33 = .ok (.tableswitch 1480 0 31 #[143, 206, 229, 262, 285, 318, 351, 410, 453, 513, 546, 579, 622, 665, 708, 787, 830, 873, 926, 979, 1012, 1055, 1098, 1131, 1174, 1207, 1240, 1283, 1336, 1411, 1434, 1457], 143) := by decide +kernel
theorem dL_law_176 : decode cL_law 176 = .ok (.aload_n 1, 1) := by decide +kernel
theorem dL_law_177 : decode cL_law 177 = .ok (.aload_n 0, 1) := by decide +kernel
theorem dL_law_178 : decode cL_law 178 = .ok (.iload_n 3, 1) := by decide +kernel
theorem dL_law_179 : decode cL_law 179 = .ok (.iconst 1, 1) := by decide +kernel
theorem dL_law_180 : decode cL_law 180 = .ok (.iadd, 1) := by decide +kernel
theorem dL_law_181 : decode cL_law 181 = .ok (.iaload, 1) := by decide +kernel
theorem dL_law_182 : decode cL_law 182 = .ok (.aload_n 0, 1) := by decide +kernel
theorem dL_law_183 : decode cL_law 183 = .ok (.iload_n 3, 1) := by decide +kernel
theorem dL_law_184 : decode cL_law 184 = .ok (.iconst 2, 1) := by decide +kernel
theorem dL_law_185 : decode cL_law 185 = .ok (.iadd, 1) := by decide +kernel
theorem dL_law_186 : decode cL_law 186 = .ok (.iaload, 1) := by decide +kernel
theorem dL_law_187 : decode cL_law 187 = .ok (.aload_n 0, 1) := by decide +kernel
theorem dL_law_188 : decode cL_law 188 = .ok (.iload_n 3, 1) := by decide +kernel
theorem dL_law_189 : decode cL_law 189 = .ok (.iconst 3, 1) := by decide +kernel
theorem dL_law_190 : decode cL_law 190 = .ok (.iadd, 1) := by decide +kernel
theorem dL_law_191 : decode cL_law 191 = .ok (.iaload, 1) := by decide +kernel
theorem dL_law_192 : decode cL_law 192 = .ok (.aload_n 0, 1) := by decide +kernel
theorem dL_law_193 : decode cL_law 193 = .ok (.iload_n 3, 1) := by decide +kernel
theorem dL_law_194 : decode cL_law 194 = .ok (.iconst 4, 1) := by decide +kernel
theorem dL_law_195 : decode cL_law 195 = .ok (.iadd, 1) := by decide +kernel
theorem dL_law_196 : decode cL_law 196 = .ok (.iaload, 1) := by decide +kernel
theorem dL_law_197 : decode cL_law 197 = .ok (.aload_n 0, 1) := by decide +kernel
theorem dL_law_198 : decode cL_law 198 = .ok (.iload_n 3, 1) := by decide +kernel
theorem dL_law_199 : decode cL_law 199 = .ok (.iconst 5, 1) := by decide +kernel
theorem dL_law_200 : decode cL_law 200 = .ok (.iadd, 1) := by decide +kernel
theorem dL_law_201 : decode cL_law 201 = .ok (.iaload, 1) := by decide +kernel
theorem dL_law_202 : decode cL_law 202 = .ok (.invokevirtual 13, 3) := by decide +kernel
theorem dL_law_205 : decode cL_law 205 = .ok (.aload_n 2, 1) := by decide +kernel
theorem dL_law_206 : decode cL_law 206 = .ok (.aload_n 0, 1) := by decide +kernel
theorem dL_law_207 : decode cL_law 207 = .ok (.iload_n 3, 1) := by decide +kernel
theorem dL_law_208 : decode cL_law 208 = .ok (.iconst 1, 1) := by decide +kernel
theorem dL_law_209 : decode cL_law 209 = .ok (.iadd, 1) := by decide +kernel
theorem dL_law_210 : decode cL_law 210 = .ok (.iaload, 1) := by decide +kernel
theorem dL_law_211 : decode cL_law 211 = .ok (.aload_n 0, 1) := by decide +kernel
theorem dL_law_212 : decode cL_law 212 = .ok (.iload_n 3, 1) := by decide +kernel
theorem dL_law_213 : decode cL_law 213 = .ok (.iconst 2, 1) := by decide +kernel
theorem dL_law_214 : decode cL_law 214 = .ok (.iadd, 1) := by decide +kernel
theorem dL_law_215 : decode cL_law 215 = .ok (.iaload, 1) := by decide +kernel
theorem dL_law_216 : decode cL_law 216 = .ok (.aload_n 0, 1) := by decide +kernel
theorem dL_law_217 : decode cL_law 217 = .ok (.iload_n 3, 1) := by decide +kernel
theorem dL_law_218 : decode cL_law 218 = .ok (.iconst 3, 1) := by decide +kernel
theorem dL_law_219 : decode cL_law 219 = .ok (.iadd, 1) := by decide +kernel
theorem dL_law_220 : decode cL_law 220 = .ok (.iaload, 1) := by decide +kernel
theorem dL_law_221 : decode cL_law 221 = .ok (.aload_n 0, 1) := by decide +kernel
theorem dL_law_222 : decode cL_law 222 = .ok (.iload_n 3, 1) := by decide +kernel
theorem dL_law_223 : decode cL_law 223 = .ok (.iconst 4, 1) := by decide +kernel
theorem dL_law_224 : decode cL_law 224 = .ok (.iadd, 1) := by decide +kernel
theorem dL_law_225 : decode cL_law 225 = .ok (.iaload, 1) := by decide +kernel
theorem dL_law_226 : decode cL_law 226 = .ok (.aload_n 0, 1) := by decide +kernel
theorem dL_law_227 : decode cL_law 227 = .ok (.iload_n 3, 1) := by decide +kernel
theorem dL_law_228 : decode cL_law 228 = .ok (.iconst 5, 1) := by decide +kernel
theorem dL_law_229 : decode cL_law 229 = .ok (.iadd, 1) := by decide +kernel
theorem dL_law_230 : decode cL_law 230 = .ok (.iaload, 1) := by decide +kernel
theorem dL_law_231 : decode cL_law 231 = .ok (.invokevirtual 17, 3) := by decide +kernel
theorem dL_law_234 : decode cL_law 234 = .ok (.if_icmp .eq 1279, 3) := by decide +kernel
theorem dL_law_237 : decode cL_law 237 = .ok (.iconst 0, 1) := by decide +kernel
theorem dL_law_238 : decode cL_law 238 = .ok (.ireturn, 1) := by decide +kernel
theorem dL_law_239 : decode cL_law 239 = .ok (.aload_n 1, 1) := by decide +kernel
theorem dL_law_240 : decode cL_law 240 = .ok (.aload_n 0, 1) := by decide +kernel
theorem dL_law_241 : decode cL_law 241 = .ok (.iload_n 3, 1) := by decide +kernel
theorem dL_law_242 : decode cL_law 242 = .ok (.iconst 1, 1) := by decide +kernel
theorem dL_law_243 : decode cL_law 243 = .ok (.iadd, 1) := by decide +kernel
theorem dL_law_244 : decode cL_law 244 = .ok (.iaload, 1) := by decide +kernel
theorem dL_law_245 : decode cL_law 245 = .ok (.invokevirtual 18, 3) := by decide +kernel
theorem dL_law_248 : decode cL_law 248 = .ok (.aload_n 2, 1) := by decide +kernel
theorem dL_law_249 : decode cL_law 249 = .ok (.aload_n 0, 1) := by decide +kernel
theorem dL_law_250 : decode cL_law 250 = .ok (.iload_n 3, 1) := by decide +kernel
theorem dL_law_251 : decode cL_law 251 = .ok (.iconst 1, 1) := by decide +kernel
theorem dL_law_252 : decode cL_law 252 = .ok (.iadd, 1) := by decide +kernel
theorem dL_law_253 : decode cL_law 253 = .ok (.iaload, 1) := by decide +kernel
theorem dL_law_254 : decode cL_law 254 = .ok (.invokevirtual 22, 3) := by decide +kernel
theorem dL_law_257 : decode cL_law 257 = .ok (.if_icmp .eq 1256, 3) := by decide +kernel
theorem dL_law_260 : decode cL_law 260 = .ok (.iconst 0, 1) := by decide +kernel
theorem dL_law_261 : decode cL_law 261 = .ok (.ireturn, 1) := by decide +kernel
theorem dL_law_262 : decode cL_law 262 = .ok (.aload_n 1, 1) := by decide +kernel
theorem dL_law_263 : decode cL_law 263 = .ok (.aload_n 0, 1) := by decide +kernel
theorem dL_law_264 : decode cL_law 264 = .ok (.iload_n 3, 1) := by decide +kernel
theorem dL_law_265 : decode cL_law 265 = .ok (.iconst 1, 1) := by decide +kernel
theorem dL_law_266 : decode cL_law 266 = .ok (.iadd, 1) := by decide +kernel
theorem dL_law_267 : decode cL_law 267 = .ok (.iaload, 1) := by decide +kernel
theorem dL_law_268 : decode cL_law 268 = .ok (.aload_n 0, 1) := by decide +kernel
theorem dL_law_269 : decode cL_law 269 = .ok (.iload_n 3, 1) := by decide +kernel
theorem dL_law_270 : decode cL_law 270 = .ok (.iconst 2, 1) := by decide +kernel
theorem dL_law_271 : decode cL_law 271 = .ok (.iadd, 1) := by decide +kernel
theorem dL_law_272 : decode cL_law 272 = .ok (.iaload, 1) := by decide +kernel
theorem dL_law_273 : decode cL_law 273 = .ok (.invokevirtual 23, 3) := by decide +kernel
theorem dL_law_276 : decode cL_law 276 = .ok (.aload_n 2, 1) := by decide +kernel
theorem dL_law_277 : decode cL_law 277 = .ok (.aload_n 0, 1) := by decide +kernel
theorem dL_law_278 : decode cL_law 278 = .ok (.iload_n 3, 1) := by decide +kernel
theorem dL_law_279 : decode cL_law 279 = .ok (.iconst 1, 1) := by decide +kernel
theorem dL_law_280 : decode cL_law 280 = .ok (.iadd, 1) := by decide +kernel
theorem dL_law_281 : decode cL_law 281 = .ok (.iaload, 1) := by decide +kernel
theorem dL_law_282 : decode cL_law 282 = .ok (.aload_n 0, 1) := by decide +kernel
theorem dL_law_283 : decode cL_law 283 = .ok (.iload_n 3, 1) := by decide +kernel
theorem dL_law_284 : decode cL_law 284 = .ok (.iconst 2, 1) := by decide +kernel
theorem dL_law_285 : decode cL_law 285 = .ok (.iadd, 1) := by decide +kernel
theorem dL_law_286 : decode cL_law 286 = .ok (.iaload, 1) := by decide +kernel
theorem dL_law_287 : decode cL_law 287 = .ok (.invokevirtual 27, 3) := by decide +kernel
theorem dL_law_290 : decode cL_law 290 = .ok (.if_icmp .eq 1223, 3) := by decide +kernel
theorem dL_law_293 : decode cL_law 293 = .ok (.iconst 0, 1) := by decide +kernel
theorem dL_law_294 : decode cL_law 294 = .ok (.ireturn, 1) := by decide +kernel
theorem dL_law_295 : decode cL_law 295 = .ok (.aload_n 1, 1) := by decide +kernel
theorem dL_law_296 : decode cL_law 296 = .ok (.aload_n 0, 1) := by decide +kernel
theorem dL_law_297 : decode cL_law 297 = .ok (.iload_n 3, 1) := by decide +kernel
theorem dL_law_298 : decode cL_law 298 = .ok (.iconst 1, 1) := by decide +kernel
theorem dL_law_299 : decode cL_law 299 = .ok (.iadd, 1) := by decide +kernel
theorem dL_law_300 : decode cL_law 300 = .ok (.iaload, 1) := by decide +kernel
theorem dL_law_301 : decode cL_law 301 = .ok (.invokevirtual 28, 3) := by decide +kernel
theorem dL_law_304 : decode cL_law 304 = .ok (.aload_n 2, 1) := by decide +kernel
theorem dL_law_305 : decode cL_law 305 = .ok (.aload_n 0, 1) := by decide +kernel
theorem dL_law_306 : decode cL_law 306 = .ok (.iload_n 3, 1) := by decide +kernel
theorem dL_law_307 : decode cL_law 307 = .ok (.iconst 1, 1) := by decide +kernel
theorem dL_law_308 : decode cL_law 308 = .ok (.iadd, 1) := by decide +kernel
theorem dL_law_309 : decode cL_law 309 = .ok (.iaload, 1) := by decide +kernel
theorem dL_law_310 : decode cL_law 310 = .ok (.invokevirtual 31, 3) := by decide +kernel
theorem dL_law_313 : decode cL_law 313 = .ok (.if_icmp .eq 1200, 3) := by decide +kernel
theorem dL_law_316 : decode cL_law 316 = .ok (.iconst 0, 1) := by decide +kernel
theorem dL_law_317 : decode cL_law 317 = .ok (.ireturn, 1) := by decide +kernel
theorem dL_law_318 : decode cL_law 318 = .ok (.aload_n 1, 1) := by decide +kernel
theorem dL_law_319 : decode cL_law 319 = .ok (.aload_n 0, 1) := by decide +kernel
theorem dL_law_320 : decode cL_law 320 = .ok (.iload_n 3, 1) := by decide +kernel
theorem dL_law_321 : decode cL_law 321 = .ok (.iconst 1, 1) := by decide +kernel
theorem dL_law_322 : decode cL_law 322 = .ok (.iadd, 1) := by decide +kernel
theorem dL_law_323 : decode cL_law 323 = .ok (.iaload, 1) := by decide +kernel
theorem dL_law_324 : decode cL_law 324 = .ok (.aload_n 0, 1) := by decide +kernel
theorem dL_law_325 : decode cL_law 325 = .ok (.iload_n 3, 1) := by decide +kernel
theorem dL_law_326 : decode cL_law 326 = .ok (.iconst 2, 1) := by decide +kernel
theorem dL_law_327 : decode cL_law 327 = .ok (.iadd, 1) := by decide +kernel
theorem dL_law_328 : decode cL_law 328 = .ok (.iaload, 1) := by decide +kernel
theorem dL_law_329 : decode cL_law 329 = .ok (.invokevirtual 32, 3) := by decide +kernel
theorem dL_law_332 : decode cL_law 332 = .ok (.aload_n 2, 1) := by decide +kernel
theorem dL_law_333 : decode cL_law 333 = .ok (.aload_n 0, 1) := by decide +kernel
theorem dL_law_334 : decode cL_law 334 = .ok (.iload_n 3, 1) := by decide +kernel
theorem dL_law_335 : decode cL_law 335 = .ok (.iconst 1, 1) := by decide +kernel
theorem dL_law_336 : decode cL_law 336 = .ok (.iadd, 1) := by decide +kernel
theorem dL_law_337 : decode cL_law 337 = .ok (.iaload, 1) := by decide +kernel
theorem dL_law_338 : decode cL_law 338 = .ok (.aload_n 0, 1) := by decide +kernel
theorem dL_law_339 : decode cL_law 339 = .ok (.iload_n 3, 1) := by decide +kernel
theorem dL_law_340 : decode cL_law 340 = .ok (.iconst 2, 1) := by decide +kernel
theorem dL_law_341 : decode cL_law 341 = .ok (.iadd, 1) := by decide +kernel
theorem dL_law_342 : decode cL_law 342 = .ok (.iaload, 1) := by decide +kernel
theorem dL_law_343 : decode cL_law 343 = .ok (.invokevirtual 35, 3) := by decide +kernel
theorem dL_law_346 : decode cL_law 346 = .ok (.if_icmp .eq 1167, 3) := by decide +kernel
theorem dL_law_349 : decode cL_law 349 = .ok (.iconst 0, 1) := by decide +kernel
theorem dL_law_350 : decode cL_law 350 = .ok (.ireturn, 1) := by decide +kernel
theorem dL_law_351 : decode cL_law 351 = .ok (.aload_n 1, 1) := by decide +kernel
theorem dL_law_352 : decode cL_law 352 = .ok (.aload_n 0, 1) := by decide +kernel
theorem dL_law_353 : decode cL_law 353 = .ok (.iload_n 3, 1) := by decide +kernel
theorem dL_law_354 : decode cL_law 354 = .ok (.iconst 1, 1) := by decide +kernel
theorem dL_law_355 : decode cL_law 355 = .ok (.iadd, 1) := by decide +kernel
theorem dL_law_356 : decode cL_law 356 = .ok (.iaload, 1) := by decide +kernel
theorem dL_law_357 : decode cL_law 357 = .ok (.aload_n 0, 1) := by decide +kernel
theorem dL_law_358 : decode cL_law 358 = .ok (.iload_n 3, 1) := by decide +kernel
theorem dL_law_359 : decode cL_law 359 = .ok (.iconst 2, 1) := by decide +kernel
theorem dL_law_360 : decode cL_law 360 = .ok (.iadd, 1) := by decide +kernel
theorem dL_law_361 : decode cL_law 361 = .ok (.iaload, 1) := by decide +kernel
theorem dL_law_362 : decode cL_law 362 = .ok (.invokevirtual 36, 3) := by decide +kernel
theorem dL_law_365 : decode cL_law 365 = .ok (.aload_n 2, 1) := by decide +kernel
theorem dL_law_366 : decode cL_law 366 = .ok (.aload_n 0, 1) := by decide +kernel
theorem dL_law_367 : decode cL_law 367 = .ok (.iload_n 3, 1) := by decide +kernel
theorem dL_law_368 : decode cL_law 368 = .ok (.iconst 1, 1) := by decide +kernel
theorem dL_law_369 : decode cL_law 369 = .ok (.iadd, 1) := by decide +kernel
theorem dL_law_370 : decode cL_law 370 = .ok (.iaload, 1) := by decide +kernel
theorem dL_law_371 : decode cL_law 371 = .ok (.aload_n 0, 1) := by decide +kernel
theorem dL_law_372 : decode cL_law 372 = .ok (.iload_n 3, 1) := by decide +kernel
theorem dL_law_373 : decode cL_law 373 = .ok (.iconst 2, 1) := by decide +kernel
theorem dL_law_374 : decode cL_law 374 = .ok (.iadd, 1) := by decide +kernel
theorem dL_law_375 : decode cL_law 375 = .ok (.iaload, 1) := by decide +kernel
theorem dL_law_376 : decode cL_law 376 = .ok (.invokevirtual 39, 3) := by decide +kernel
theorem dL_law_379 : decode cL_law 379 = .ok (.if_icmp .eq 1134, 3) := by decide +kernel
theorem dL_law_382 : decode cL_law 382 = .ok (.iconst 0, 1) := by decide +kernel
theorem dL_law_383 : decode cL_law 383 = .ok (.ireturn, 1) := by decide +kernel
theorem dL_law_384 : decode cL_law 384 = .ok (.aload_n 1, 1) := by decide +kernel
theorem dL_law_385 : decode cL_law 385 = .ok (.aload_n 0, 1) := by decide +kernel
theorem dL_law_386 : decode cL_law 386 = .ok (.iload_n 3, 1) := by decide +kernel
theorem dL_law_387 : decode cL_law 387 = .ok (.iconst 1, 1) := by decide +kernel
theorem dL_law_388 : decode cL_law 388 = .ok (.iadd, 1) := by decide +kernel
theorem dL_law_389 : decode cL_law 389 = .ok (.iaload, 1) := by decide +kernel
theorem dL_law_390 : decode cL_law 390 = .ok (.aload_n 0, 1) := by decide +kernel
theorem dL_law_391 : decode cL_law 391 = .ok (.iload_n 3, 1) := by decide +kernel
theorem dL_law_392 : decode cL_law 392 = .ok (.iconst 2, 1) := by decide +kernel
theorem dL_law_393 : decode cL_law 393 = .ok (.iadd, 1) := by decide +kernel
theorem dL_law_394 : decode cL_law 394 = .ok (.iaload, 1) := by decide +kernel
theorem dL_law_395 : decode cL_law 395 = .ok (.ifCond .eq 7, 3) := by decide +kernel
theorem dL_law_398 : decode cL_law 398 = .ok (.iconst 1, 1) := by decide +kernel
theorem dL_law_399 : decode cL_law 399 = .ok (.goto 4, 3) := by decide +kernel
theorem dL_law_402 : decode cL_law 402 = .ok (.iconst 0, 1) := by decide +kernel
theorem dL_law_403 : decode cL_law 403 = .ok (.aload_n 0, 1) := by decide +kernel
theorem dL_law_404 : decode cL_law 404 = .ok (.iload_n 3, 1) := by decide +kernel
theorem dL_law_405 : decode cL_law 405 = .ok (.iconst 3, 1) := by decide +kernel
theorem dL_law_406 : decode cL_law 406 = .ok (.iadd, 1) := by decide +kernel
theorem dL_law_407 : decode cL_law 407 = .ok (.iaload, 1) := by decide +kernel
theorem dL_law_408 : decode cL_law 408 = .ok (.invokevirtual 40, 3) := by decide +kernel
theorem dL_law_411 : decode cL_law 411 = .ok (.aload_n 2, 1) := by decide +kernel
theorem dL_law_412 : decode cL_law 412 = .ok (.aload_n 0, 1) := by decide +kernel
theorem dL_law_413 : decode cL_law 413 = .ok (.iload_n 3, 1) := by decide +kernel
theorem dL_law_414 : decode cL_law 414 = .ok (.iconst 1, 1) := by decide +kernel
theorem dL_law_415 : decode cL_law 415 = .ok (.iadd, 1) := by decide +kernel
theorem dL_law_416 : decode cL_law 416 = .ok (.iaload, 1) := by decide +kernel
theorem dL_law_417 : decode cL_law 417 = .ok (.aload_n 0, 1) := by decide +kernel
theorem dL_law_418 : decode cL_law 418 = .ok (.iload_n 3, 1) := by decide +kernel
theorem dL_law_419 : decode cL_law 419 = .ok (.iconst 2, 1) := by decide +kernel
theorem dL_law_420 : decode cL_law 420 = .ok (.iadd, 1) := by decide +kernel
theorem dL_law_421 : decode cL_law 421 = .ok (.iaload, 1) := by decide +kernel
theorem dL_law_422 : decode cL_law 422 = .ok (.ifCond .eq 7, 3) := by decide +kernel
theorem dL_law_425 : decode cL_law 425 = .ok (.iconst 1, 1) := by decide +kernel
theorem dL_law_426 : decode cL_law 426 = .ok (.goto 4, 3) := by decide +kernel
theorem dL_law_429 : decode cL_law 429 = .ok (.iconst 0, 1) := by decide +kernel
theorem dL_law_430 : decode cL_law 430 = .ok (.aload_n 0, 1) := by decide +kernel
theorem dL_law_431 : decode cL_law 431 = .ok (.iload_n 3, 1) := by decide +kernel
theorem dL_law_432 : decode cL_law 432 = .ok (.iconst 3, 1) := by decide +kernel
theorem dL_law_433 : decode cL_law 433 = .ok (.iadd, 1) := by decide +kernel
theorem dL_law_434 : decode cL_law 434 = .ok (.iaload, 1) := by decide +kernel
theorem dL_law_435 : decode cL_law 435 = .ok (.invokevirtual 44, 3) := by decide +kernel
theorem dL_law_438 : decode cL_law 438 = .ok (.if_icmp .eq 1075, 3) := by decide +kernel
theorem dL_law_441 : decode cL_law 441 = .ok (.iconst 0, 1) := by decide +kernel
theorem dL_law_442 : decode cL_law 442 = .ok (.ireturn, 1) := by decide +kernel
theorem dL_law_443 : decode cL_law 443 = .ok (.aload_n 1, 1) := by decide +kernel
theorem dL_law_444 : decode cL_law 444 = .ok (.aload_n 0, 1) := by decide +kernel
theorem dL_law_445 : decode cL_law 445 = .ok (.iload_n 3, 1) := by decide +kernel
theorem dL_law_446 : decode cL_law 446 = .ok (.iconst 1, 1) := by decide +kernel
theorem dL_law_447 : decode cL_law 447 = .ok (.iadd, 1) := by decide +kernel
theorem dL_law_448 : decode cL_law 448 = .ok (.iaload, 1) := by decide +kernel
theorem dL_law_449 : decode cL_law 449 = .ok (.aload_n 0, 1) := by decide +kernel
theorem dL_law_450 : decode cL_law 450 = .ok (.iload_n 3, 1) := by decide +kernel
theorem dL_law_451 : decode cL_law 451 = .ok (.iconst 2, 1) := by decide +kernel
theorem dL_law_452 : decode cL_law 452 = .ok (.iadd, 1) := by decide +kernel
theorem dL_law_453 : decode cL_law 453 = .ok (.iaload, 1) := by decide +kernel
theorem dL_law_454 : decode cL_law 454 = .ok (.aload_n 0, 1) := by decide +kernel
theorem dL_law_455 : decode cL_law 455 = .ok (.iload_n 3, 1) := by decide +kernel
theorem dL_law_456 : decode cL_law 456 = .ok (.iconst 3, 1) := by decide +kernel
theorem dL_law_457 : decode cL_law 457 = .ok (.iadd, 1) := by decide +kernel
theorem dL_law_458 : decode cL_law 458 = .ok (.iaload, 1) := by decide +kernel
theorem dL_law_459 : decode cL_law 459 = .ok (.invokevirtual 45, 3) := by decide +kernel
theorem dL_law_462 : decode cL_law 462 = .ok (.aload_n 2, 1) := by decide +kernel
theorem dL_law_463 : decode cL_law 463 = .ok (.aload_n 0, 1) := by decide +kernel
theorem dL_law_464 : decode cL_law 464 = .ok (.iload_n 3, 1) := by decide +kernel
theorem dL_law_465 : decode cL_law 465 = .ok (.iconst 1, 1) := by decide +kernel
theorem dL_law_466 : decode cL_law 466 = .ok (.iadd, 1) := by decide +kernel
theorem dL_law_467 : decode cL_law 467 = .ok (.iaload, 1) := by decide +kernel
theorem dL_law_468 : decode cL_law 468 = .ok (.aload_n 0, 1) := by decide +kernel
theorem dL_law_469 : decode cL_law 469 = .ok (.iload_n 3, 1) := by decide +kernel
theorem dL_law_470 : decode cL_law 470 = .ok (.iconst 2, 1) := by decide +kernel
theorem dL_law_471 : decode cL_law 471 = .ok (.iadd, 1) := by decide +kernel
theorem dL_law_472 : decode cL_law 472 = .ok (.iaload, 1) := by decide +kernel
theorem dL_law_473 : decode cL_law 473 = .ok (.aload_n 0, 1) := by decide +kernel
theorem dL_law_474 : decode cL_law 474 = .ok (.iload_n 3, 1) := by decide +kernel
theorem dL_law_475 : decode cL_law 475 = .ok (.iconst 3, 1) := by decide +kernel
theorem dL_law_476 : decode cL_law 476 = .ok (.iadd, 1) := by decide +kernel
theorem dL_law_477 : decode cL_law 477 = .ok (.iaload, 1) := by decide +kernel
theorem dL_law_478 : decode cL_law 478 = .ok (.invokevirtual 49, 3) := by decide +kernel
theorem dL_law_481 : decode cL_law 481 = .ok (.if_icmp .eq 1032, 3) := by decide +kernel
theorem dL_law_484 : decode cL_law 484 = .ok (.iconst 0, 1) := by decide +kernel
theorem dL_law_485 : decode cL_law 485 = .ok (.ireturn, 1) := by decide +kernel
theorem dL_law_486 : decode cL_law 486 = .ok (.aload_n 1, 1) := by decide +kernel
theorem dL_law_487 : decode cL_law 487 = .ok (.aload_n 0, 1) := by decide +kernel
theorem dL_law_488 : decode cL_law 488 = .ok (.iload_n 3, 1) := by decide +kernel
theorem dL_law_489 : decode cL_law 489 = .ok (.iconst 1, 1) := by decide +kernel
theorem dL_law_490 : decode cL_law 490 = .ok (.iadd, 1) := by decide +kernel
theorem dL_law_491 : decode cL_law 491 = .ok (.iaload, 1) := by decide +kernel
theorem dL_law_492 : decode cL_law 492 = .ok (.aload_n 0, 1) := by decide +kernel
theorem dL_law_493 : decode cL_law 493 = .ok (.iload_n 3, 1) := by decide +kernel
theorem dL_law_494 : decode cL_law 494 = .ok (.iconst 2, 1) := by decide +kernel
theorem dL_law_495 : decode cL_law 495 = .ok (.iadd, 1) := by decide +kernel
theorem dL_law_496 : decode cL_law 496 = .ok (.iaload, 1) := by decide +kernel
theorem dL_law_497 : decode cL_law 497 = .ok (.aload_n 0, 1) := by decide +kernel
theorem dL_law_498 : decode cL_law 498 = .ok (.iload_n 3, 1) := by decide +kernel
theorem dL_law_499 : decode cL_law 499 = .ok (.iconst 3, 1) := by decide +kernel
theorem dL_law_500 : decode cL_law 500 = .ok (.iadd, 1) := by decide +kernel
theorem dL_law_501 : decode cL_law 501 = .ok (.iaload, 1) := by decide +kernel
theorem dL_law_502 : decode cL_law 502 = .ok (.ifCond .eq 7, 3) := by decide +kernel
theorem dL_law_505 : decode cL_law 505 = .ok (.iconst 1, 1) := by decide +kernel
theorem dL_law_506 : decode cL_law 506 = .ok (.goto 4, 3) := by decide +kernel
theorem dL_law_509 : decode cL_law 509 = .ok (.iconst 0, 1) := by decide +kernel
theorem dL_law_510 : decode cL_law 510 = .ok (.invokevirtual 50, 3) := by decide +kernel
theorem dL_law_513 : decode cL_law 513 = .ok (.aload_n 2, 1) := by decide +kernel
theorem dL_law_514 : decode cL_law 514 = .ok (.aload_n 0, 1) := by decide +kernel
theorem dL_law_515 : decode cL_law 515 = .ok (.iload_n 3, 1) := by decide +kernel
theorem dL_law_516 : decode cL_law 516 = .ok (.iconst 1, 1) := by decide +kernel
theorem dL_law_517 : decode cL_law 517 = .ok (.iadd, 1) := by decide +kernel
theorem dL_law_518 : decode cL_law 518 = .ok (.iaload, 1) := by decide +kernel
theorem dL_law_519 : decode cL_law 519 = .ok (.aload_n 0, 1) := by decide +kernel
theorem dL_law_520 : decode cL_law 520 = .ok (.iload_n 3, 1) := by decide +kernel
theorem dL_law_521 : decode cL_law 521 = .ok (.iconst 2, 1) := by decide +kernel
theorem dL_law_522 : decode cL_law 522 = .ok (.iadd, 1) := by decide +kernel
theorem dL_law_523 : decode cL_law 523 = .ok (.iaload, 1) := by decide +kernel
theorem dL_law_524 : decode cL_law 524 = .ok (.aload_n 0, 1) := by decide +kernel
theorem dL_law_525 : decode cL_law 525 = .ok (.iload_n 3, 1) := by decide +kernel
theorem dL_law_526 : decode cL_law 526 = .ok (.iconst 3, 1) := by decide +kernel
theorem dL_law_527 : decode cL_law 527 = .ok (.iadd, 1) := by decide +kernel
theorem dL_law_528 : decode cL_law 528 = .ok (.iaload, 1) := by decide +kernel
theorem dL_law_529 : decode cL_law 529 = .ok (.ifCond .eq 7, 3) := by decide +kernel
theorem dL_law_532 : decode cL_law 532 = .ok (.iconst 1, 1) := by decide +kernel
theorem dL_law_533 : decode cL_law 533 = .ok (.goto 4, 3) := by decide +kernel
theorem dL_law_536 : decode cL_law 536 = .ok (.iconst 0, 1) := by decide +kernel
theorem dL_law_537 : decode cL_law 537 = .ok (.invokevirtual 54, 3) := by decide +kernel
theorem dL_law_540 : decode cL_law 540 = .ok (.lcmp, 1) := by decide +kernel
theorem dL_law_541 : decode cL_law 541 = .ok (.ifCond .eq 972, 3) := by decide +kernel
theorem dL_law_544 : decode cL_law 544 = .ok (.iconst 0, 1) := by decide +kernel
theorem dL_law_545 : decode cL_law 545 = .ok (.ireturn, 1) := by decide +kernel
theorem dL_law_546 : decode cL_law 546 = .ok (.aload_n 1, 1) := by decide +kernel
theorem dL_law_547 : decode cL_law 547 = .ok (.aload_n 0, 1) := by decide +kernel
theorem dL_law_548 : decode cL_law 548 = .ok (.iload_n 3, 1) := by decide +kernel
theorem dL_law_549 : decode cL_law 549 = .ok (.iconst 1, 1) := by decide +kernel
theorem dL_law_550 : decode cL_law 550 = .ok (.iadd, 1) := by decide +kernel
theorem dL_law_551 : decode cL_law 551 = .ok (.iaload, 1) := by decide +kernel
theorem dL_law_552 : decode cL_law 552 = .ok (.aload_n 0, 1) := by decide +kernel
theorem dL_law_553 : decode cL_law 553 = .ok (.iload_n 3, 1) := by decide +kernel
theorem dL_law_554 : decode cL_law 554 = .ok (.iconst 2, 1) := by decide +kernel
theorem dL_law_555 : decode cL_law 555 = .ok (.iadd, 1) := by decide +kernel
theorem dL_law_556 : decode cL_law 556 = .ok (.iaload, 1) := by decide +kernel
theorem dL_law_557 : decode cL_law 557 = .ok (.invokevirtual 55, 3) := by decide +kernel
theorem dL_law_560 : decode cL_law 560 = .ok (.aload_n 2, 1) := by decide +kernel
theorem dL_law_561 : decode cL_law 561 = .ok (.aload_n 0, 1) := by decide +kernel
theorem dL_law_562 : decode cL_law 562 = .ok (.iload_n 3, 1) := by decide +kernel
theorem dL_law_563 : decode cL_law 563 = .ok (.iconst 1, 1) := by decide +kernel
theorem dL_law_564 : decode cL_law 564 = .ok (.iadd, 1) := by decide +kernel
theorem dL_law_565 : decode cL_law 565 = .ok (.iaload, 1) := by decide +kernel
theorem dL_law_566 : decode cL_law 566 = .ok (.aload_n 0, 1) := by decide +kernel
theorem dL_law_567 : decode cL_law 567 = .ok (.iload_n 3, 1) := by decide +kernel
theorem dL_law_568 : decode cL_law 568 = .ok (.iconst 2, 1) := by decide +kernel
theorem dL_law_569 : decode cL_law 569 = .ok (.iadd, 1) := by decide +kernel
theorem dL_law_570 : decode cL_law 570 = .ok (.iaload, 1) := by decide +kernel
theorem dL_law_571 : decode cL_law 571 = .ok (.invokevirtual 58, 3) := by decide +kernel
theorem dL_law_574 : decode cL_law 574 = .ok (.if_icmp .eq 939, 3) := by decide +kernel
theorem dL_law_577 : decode cL_law 577 = .ok (.iconst 0, 1) := by decide +kernel
theorem dL_law_578 : decode cL_law 578 = .ok (.ireturn, 1) := by decide +kernel
theorem dL_law_579 : decode cL_law 579 = .ok (.aload_n 1, 1) := by decide +kernel
theorem dL_law_580 : decode cL_law 580 = .ok (.aload_n 0, 1) := by decide +kernel
theorem dL_law_581 : decode cL_law 581 = .ok (.iload_n 3, 1) := by decide +kernel
theorem dL_law_582 : decode cL_law 582 = .ok (.iconst 1, 1) := by decide +kernel
theorem dL_law_583 : decode cL_law 583 = .ok (.iadd, 1) := by decide +kernel
theorem dL_law_584 : decode cL_law 584 = .ok (.iaload, 1) := by decide +kernel
theorem dL_law_585 : decode cL_law 585 = .ok (.aload_n 0, 1) := by decide +kernel
theorem dL_law_586 : decode cL_law 586 = .ok (.iload_n 3, 1) := by decide +kernel
theorem dL_law_587 : decode cL_law 587 = .ok (.iconst 2, 1) := by decide +kernel
theorem dL_law_588 : decode cL_law 588 = .ok (.iadd, 1) := by decide +kernel
theorem dL_law_589 : decode cL_law 589 = .ok (.iaload, 1) := by decide +kernel
theorem dL_law_590 : decode cL_law 590 = .ok (.invokevirtual 59, 3) := by decide +kernel
theorem dL_law_593 : decode cL_law 593 = .ok (.aload_n 2, 1) := by decide +kernel
theorem dL_law_594 : decode cL_law 594 = .ok (.aload_n 0, 1) := by decide +kernel
theorem dL_law_595 : decode cL_law 595 = .ok (.iload_n 3, 1) := by decide +kernel
theorem dL_law_596 : decode cL_law 596 = .ok (.iconst 1, 1) := by decide +kernel
theorem dL_law_597 : decode cL_law 597 = .ok (.iadd, 1) := by decide +kernel
theorem dL_law_598 : decode cL_law 598 = .ok (.iaload, 1) := by decide +kernel
theorem dL_law_599 : decode cL_law 599 = .ok (.aload_n 0, 1) := by decide +kernel
theorem dL_law_600 : decode cL_law 600 = .ok (.iload_n 3, 1) := by decide +kernel
theorem dL_law_601 : decode cL_law 601 = .ok (.iconst 2, 1) := by decide +kernel
theorem dL_law_602 : decode cL_law 602 = .ok (.iadd, 1) := by decide +kernel
theorem dL_law_603 : decode cL_law 603 = .ok (.iaload, 1) := by decide +kernel
theorem dL_law_604 : decode cL_law 604 = .ok (.invokevirtual 63, 3) := by decide +kernel
theorem dL_law_607 : decode cL_law 607 = .ok (.if_icmp .eq 906, 3) := by decide +kernel
theorem dL_law_610 : decode cL_law 610 = .ok (.iconst 0, 1) := by decide +kernel
theorem dL_law_611 : decode cL_law 611 = .ok (.ireturn, 1) := by decide +kernel
theorem dL_law_612 : decode cL_law 612 = .ok (.aload_n 1, 1) := by decide +kernel
theorem dL_law_613 : decode cL_law 613 = .ok (.aload_n 0, 1) := by decide +kernel
theorem dL_law_614 : decode cL_law 614 = .ok (.iload_n 3, 1) := by decide +kernel
theorem dL_law_615 : decode cL_law 615 = .ok (.iconst 1, 1) := by decide +kernel
theorem dL_law_616 : decode cL_law 616 = .ok (.iadd, 1) := by decide +kernel
theorem dL_law_617 : decode cL_law 617 = .ok (.iaload, 1) := by decide +kernel
theorem dL_law_618 : decode cL_law 618 = .ok (.aload_n 0, 1) := by decide +kernel
theorem dL_law_619 : decode cL_law 619 = .ok (.iload_n 3, 1) := by decide +kernel
theorem dL_law_620 : decode cL_law 620 = .ok (.iconst 2, 1) := by decide +kernel
theorem dL_law_621 : decode cL_law 621 = .ok (.iadd, 1) := by decide +kernel
theorem dL_law_622 : decode cL_law 622 = .ok (.iaload, 1) := by decide +kernel
theorem dL_law_623 : decode cL_law 623 = .ok (.aload_n 0, 1) := by decide +kernel
theorem dL_law_624 : decode cL_law 624 = .ok (.iload_n 3, 1) := by decide +kernel
theorem dL_law_625 : decode cL_law 625 = .ok (.iconst 3, 1) := by decide +kernel
theorem dL_law_626 : decode cL_law 626 = .ok (.iadd, 1) := by decide +kernel
theorem dL_law_627 : decode cL_law 627 = .ok (.iaload, 1) := by decide +kernel
theorem dL_law_628 : decode cL_law 628 = .ok (.invokevirtual 64, 3) := by decide +kernel
theorem dL_law_631 : decode cL_law 631 = .ok (.aload_n 2, 1) := by decide +kernel
theorem dL_law_632 : decode cL_law 632 = .ok (.aload_n 0, 1) := by decide +kernel
theorem dL_law_633 : decode cL_law 633 = .ok (.iload_n 3, 1) := by decide +kernel
theorem dL_law_634 : decode cL_law 634 = .ok (.iconst 1, 1) := by decide +kernel
theorem dL_law_635 : decode cL_law 635 = .ok (.iadd, 1) := by decide +kernel
theorem dL_law_636 : decode cL_law 636 = .ok (.iaload, 1) := by decide +kernel
theorem dL_law_637 : decode cL_law 637 = .ok (.aload_n 0, 1) := by decide +kernel
theorem dL_law_638 : decode cL_law 638 = .ok (.iload_n 3, 1) := by decide +kernel
theorem dL_law_639 : decode cL_law 639 = .ok (.iconst 2, 1) := by decide +kernel
theorem dL_law_640 : decode cL_law 640 = .ok (.iadd, 1) := by decide +kernel
theorem dL_law_641 : decode cL_law 641 = .ok (.iaload, 1) := by decide +kernel
theorem dL_law_642 : decode cL_law 642 = .ok (.aload_n 0, 1) := by decide +kernel
theorem dL_law_643 : decode cL_law 643 = .ok (.iload_n 3, 1) := by decide +kernel
theorem dL_law_644 : decode cL_law 644 = .ok (.iconst 3, 1) := by decide +kernel
theorem dL_law_645 : decode cL_law 645 = .ok (.iadd, 1) := by decide +kernel
theorem dL_law_646 : decode cL_law 646 = .ok (.iaload, 1) := by decide +kernel
theorem dL_law_647 : decode cL_law 647 = .ok (.invokevirtual 67, 3) := by decide +kernel
theorem dL_law_650 : decode cL_law 650 = .ok (.if_icmp .eq 863, 3) := by decide +kernel
theorem dL_law_653 : decode cL_law 653 = .ok (.iconst 0, 1) := by decide +kernel
theorem dL_law_654 : decode cL_law 654 = .ok (.ireturn, 1) := by decide +kernel
theorem dL_law_655 : decode cL_law 655 = .ok (.aload_n 1, 1) := by decide +kernel
theorem dL_law_656 : decode cL_law 656 = .ok (.aload_n 0, 1) := by decide +kernel
theorem dL_law_657 : decode cL_law 657 = .ok (.iload_n 3, 1) := by decide +kernel
theorem dL_law_658 : decode cL_law 658 = .ok (.iconst 1, 1) := by decide +kernel
theorem dL_law_659 : decode cL_law 659 = .ok (.iadd, 1) := by decide +kernel
theorem dL_law_660 : decode cL_law 660 = .ok (.iaload, 1) := by decide +kernel
theorem dL_law_661 : decode cL_law 661 = .ok (.aload_n 0, 1) := by decide +kernel
theorem dL_law_662 : decode cL_law 662 = .ok (.iload_n 3, 1) := by decide +kernel
theorem dL_law_663 : decode cL_law 663 = .ok (.iconst 2, 1) := by decide +kernel
theorem dL_law_664 : decode cL_law 664 = .ok (.iadd, 1) := by decide +kernel
theorem dL_law_665 : decode cL_law 665 = .ok (.iaload, 1) := by decide +kernel
theorem dL_law_666 : decode cL_law 666 = .ok (.aload_n 0, 1) := by decide +kernel
theorem dL_law_667 : decode cL_law 667 = .ok (.iload_n 3, 1) := by decide +kernel
theorem dL_law_668 : decode cL_law 668 = .ok (.iconst 3, 1) := by decide +kernel
theorem dL_law_669 : decode cL_law 669 = .ok (.iadd, 1) := by decide +kernel
theorem dL_law_670 : decode cL_law 670 = .ok (.iaload, 1) := by decide +kernel
theorem dL_law_671 : decode cL_law 671 = .ok (.invokevirtual 68, 3) := by decide +kernel
theorem dL_law_674 : decode cL_law 674 = .ok (.aload_n 2, 1) := by decide +kernel
theorem dL_law_675 : decode cL_law 675 = .ok (.aload_n 0, 1) := by decide +kernel
theorem dL_law_676 : decode cL_law 676 = .ok (.iload_n 3, 1) := by decide +kernel
theorem dL_law_677 : decode cL_law 677 = .ok (.iconst 1, 1) := by decide +kernel
theorem dL_law_678 : decode cL_law 678 = .ok (.iadd, 1) := by decide +kernel
theorem dL_law_679 : decode cL_law 679 = .ok (.iaload, 1) := by decide +kernel
theorem dL_law_680 : decode cL_law 680 = .ok (.aload_n 0, 1) := by decide +kernel
theorem dL_law_681 : decode cL_law 681 = .ok (.iload_n 3, 1) := by decide +kernel
theorem dL_law_682 : decode cL_law 682 = .ok (.iconst 2, 1) := by decide +kernel
theorem dL_law_683 : decode cL_law 683 = .ok (.iadd, 1) := by decide +kernel
theorem dL_law_684 : decode cL_law 684 = .ok (.iaload, 1) := by decide +kernel
theorem dL_law_685 : decode cL_law 685 = .ok (.aload_n 0, 1) := by decide +kernel
theorem dL_law_686 : decode cL_law 686 = .ok (.iload_n 3, 1) := by decide +kernel
theorem dL_law_687 : decode cL_law 687 = .ok (.iconst 3, 1) := by decide +kernel
theorem dL_law_688 : decode cL_law 688 = .ok (.iadd, 1) := by decide +kernel
theorem dL_law_689 : decode cL_law 689 = .ok (.iaload, 1) := by decide +kernel
theorem dL_law_690 : decode cL_law 690 = .ok (.invokevirtual 71, 3) := by decide +kernel
theorem dL_law_693 : decode cL_law 693 = .ok (.if_icmp .eq 820, 3) := by decide +kernel
theorem dL_law_696 : decode cL_law 696 = .ok (.iconst 0, 1) := by decide +kernel
theorem dL_law_697 : decode cL_law 697 = .ok (.ireturn, 1) := by decide +kernel
theorem dL_law_698 : decode cL_law 698 = .ok (.aload_n 1, 1) := by decide +kernel
theorem dL_law_699 : decode cL_law 699 = .ok (.aload_n 0, 1) := by decide +kernel
theorem dL_law_700 : decode cL_law 700 = .ok (.iload_n 3, 1) := by decide +kernel
theorem dL_law_701 : decode cL_law 701 = .ok (.iconst 1, 1) := by decide +kernel
theorem dL_law_702 : decode cL_law 702 = .ok (.iadd, 1) := by decide +kernel
theorem dL_law_703 : decode cL_law 703 = .ok (.iaload, 1) := by decide +kernel
theorem dL_law_704 : decode cL_law 704 = .ok (.aload_n 0, 1) := by decide +kernel
theorem dL_law_705 : decode cL_law 705 = .ok (.iload_n 3, 1) := by decide +kernel
theorem dL_law_706 : decode cL_law 706 = .ok (.iconst 2, 1) := by decide +kernel
theorem dL_law_707 : decode cL_law 707 = .ok (.iadd, 1) := by decide +kernel
theorem dL_law_708 : decode cL_law 708 = .ok (.iaload, 1) := by decide +kernel
theorem dL_law_709 : decode cL_law 709 = .ok (.aload_n 0, 1) := by decide +kernel
theorem dL_law_710 : decode cL_law 710 = .ok (.iload_n 3, 1) := by decide +kernel
theorem dL_law_711 : decode cL_law 711 = .ok (.iconst 3, 1) := by decide +kernel
theorem dL_law_712 : decode cL_law 712 = .ok (.iadd, 1) := by decide +kernel
theorem dL_law_713 : decode cL_law 713 = .ok (.iaload, 1) := by decide +kernel
theorem dL_law_714 : decode cL_law 714 = .ok (.invokevirtual 72, 3) := by decide +kernel
theorem dL_law_717 : decode cL_law 717 = .ok (.aload_n 2, 1) := by decide +kernel
theorem dL_law_718 : decode cL_law 718 = .ok (.aload_n 0, 1) := by decide +kernel
theorem dL_law_719 : decode cL_law 719 = .ok (.iload_n 3, 1) := by decide +kernel
theorem dL_law_720 : decode cL_law 720 = .ok (.iconst 1, 1) := by decide +kernel
theorem dL_law_721 : decode cL_law 721 = .ok (.iadd, 1) := by decide +kernel
theorem dL_law_722 : decode cL_law 722 = .ok (.iaload, 1) := by decide +kernel
theorem dL_law_723 : decode cL_law 723 = .ok (.aload_n 0, 1) := by decide +kernel
theorem dL_law_724 : decode cL_law 724 = .ok (.iload_n 3, 1) := by decide +kernel
theorem dL_law_725 : decode cL_law 725 = .ok (.iconst 2, 1) := by decide +kernel
theorem dL_law_726 : decode cL_law 726 = .ok (.iadd, 1) := by decide +kernel
theorem dL_law_727 : decode cL_law 727 = .ok (.iaload, 1) := by decide +kernel
theorem dL_law_728 : decode cL_law 728 = .ok (.aload_n 0, 1) := by decide +kernel
theorem dL_law_729 : decode cL_law 729 = .ok (.iload_n 3, 1) := by decide +kernel
theorem dL_law_730 : decode cL_law 730 = .ok (.iconst 3, 1) := by decide +kernel
theorem dL_law_731 : decode cL_law 731 = .ok (.iadd, 1) := by decide +kernel
theorem dL_law_732 : decode cL_law 732 = .ok (.iaload, 1) := by decide +kernel
theorem dL_law_733 : decode cL_law 733 = .ok (.invokevirtual 75, 3) := by decide +kernel
theorem dL_law_736 : decode cL_law 736 = .ok (.if_icmp .eq 777, 3) := by decide +kernel
theorem dL_law_739 : decode cL_law 739 = .ok (.iconst 0, 1) := by decide +kernel
theorem dL_law_740 : decode cL_law 740 = .ok (.ireturn, 1) := by decide +kernel
theorem dL_law_741 : decode cL_law 741 = .ok (.aload_n 1, 1) := by decide +kernel
theorem dL_law_742 : decode cL_law 742 = .ok (.aload_n 0, 1) := by decide +kernel
theorem dL_law_743 : decode cL_law 743 = .ok (.iload_n 3, 1) := by decide +kernel
theorem dL_law_744 : decode cL_law 744 = .ok (.iconst 1, 1) := by decide +kernel
theorem dL_law_745 : decode cL_law 745 = .ok (.iadd, 1) := by decide +kernel
theorem dL_law_746 : decode cL_law 746 = .ok (.iaload, 1) := by decide +kernel
theorem dL_law_747 : decode cL_law 747 = .ok (.aload_n 0, 1) := by decide +kernel
theorem dL_law_748 : decode cL_law 748 = .ok (.iload_n 3, 1) := by decide +kernel
theorem dL_law_749 : decode cL_law 749 = .ok (.iconst 2, 1) := by decide +kernel
theorem dL_law_750 : decode cL_law 750 = .ok (.iadd, 1) := by decide +kernel
theorem dL_law_751 : decode cL_law 751 = .ok (.iaload, 1) := by decide +kernel
theorem dL_law_752 : decode cL_law 752 = .ok (.aload_n 0, 1) := by decide +kernel
theorem dL_law_753 : decode cL_law 753 = .ok (.iload_n 3, 1) := by decide +kernel
theorem dL_law_754 : decode cL_law 754 = .ok (.iconst 3, 1) := by decide +kernel
theorem dL_law_755 : decode cL_law 755 = .ok (.iadd, 1) := by decide +kernel
theorem dL_law_756 : decode cL_law 756 = .ok (.iaload, 1) := by decide +kernel
theorem dL_law_757 : decode cL_law 757 = .ok (.aload_n 0, 1) := by decide +kernel
theorem dL_law_758 : decode cL_law 758 = .ok (.iload_n 3, 1) := by decide +kernel
theorem dL_law_759 : decode cL_law 759 = .ok (.iconst 4, 1) := by decide +kernel
theorem dL_law_760 : decode cL_law 760 = .ok (.iadd, 1) := by decide +kernel
theorem dL_law_761 : decode cL_law 761 = .ok (.iaload, 1) := by decide +kernel
theorem dL_law_762 : decode cL_law 762 = .ok (.ifCond .eq 7, 3) := by decide +kernel
theorem dL_law_765 : decode cL_law 765 = .ok (.iconst 1, 1) := by decide +kernel
theorem dL_law_766 : decode cL_law 766 = .ok (.goto 4, 3) := by decide +kernel
theorem dL_law_769 : decode cL_law 769 = .ok (.iconst 0, 1) := by decide +kernel
theorem dL_law_770 : decode cL_law 770 = .ok (.aload_n 0, 1) := by decide +kernel
theorem dL_law_771 : decode cL_law 771 = .ok (.iload_n 3, 1) := by decide +kernel
theorem dL_law_772 : decode cL_law 772 = .ok (.iconst 5, 1) := by decide +kernel
theorem dL_law_773 : decode cL_law 773 = .ok (.iadd, 1) := by decide +kernel
theorem dL_law_774 : decode cL_law 774 = .ok (.iaload, 1) := by decide +kernel
theorem dL_law_775 : decode cL_law 775 = .ok (.invokevirtual 76, 3) := by decide +kernel
theorem dL_law_778 : decode cL_law 778 = .ok (.aload_n 2, 1) := by decide +kernel
theorem dL_law_779 : decode cL_law 779 = .ok (.aload_n 0, 1) := by decide +kernel
theorem dL_law_780 : decode cL_law 780 = .ok (.iload_n 3, 1) := by decide +kernel
theorem dL_law_781 : decode cL_law 781 = .ok (.iconst 1, 1) := by decide +kernel
theorem dL_law_782 : decode cL_law 782 = .ok (.iadd, 1) := by decide +kernel
theorem dL_law_783 : decode cL_law 783 = .ok (.iaload, 1) := by decide +kernel
theorem dL_law_784 : decode cL_law 784 = .ok (.aload_n 0, 1) := by decide +kernel
theorem dL_law_785 : decode cL_law 785 = .ok (.iload_n 3, 1) := by decide +kernel
theorem dL_law_786 : decode cL_law 786 = .ok (.iconst 2, 1) := by decide +kernel
theorem dL_law_787 : decode cL_law 787 = .ok (.iadd, 1) := by decide +kernel
theorem dL_law_788 : decode cL_law 788 = .ok (.iaload, 1) := by decide +kernel
theorem dL_law_789 : decode cL_law 789 = .ok (.aload_n 0, 1) := by decide +kernel
theorem dL_law_790 : decode cL_law 790 = .ok (.iload_n 3, 1) := by decide +kernel
theorem dL_law_791 : decode cL_law 791 = .ok (.iconst 3, 1) := by decide +kernel
theorem dL_law_792 : decode cL_law 792 = .ok (.iadd, 1) := by decide +kernel
theorem dL_law_793 : decode cL_law 793 = .ok (.iaload, 1) := by decide +kernel
theorem dL_law_794 : decode cL_law 794 = .ok (.aload_n 0, 1) := by decide +kernel
theorem dL_law_795 : decode cL_law 795 = .ok (.iload_n 3, 1) := by decide +kernel
theorem dL_law_796 : decode cL_law 796 = .ok (.iconst 4, 1) := by decide +kernel
theorem dL_law_797 : decode cL_law 797 = .ok (.iadd, 1) := by decide +kernel
theorem dL_law_798 : decode cL_law 798 = .ok (.iaload, 1) := by decide +kernel
theorem dL_law_799 : decode cL_law 799 = .ok (.ifCond .eq 7, 3) := by decide +kernel
theorem dL_law_802 : decode cL_law 802 = .ok (.iconst 1, 1) := by decide +kernel
theorem dL_law_803 : decode cL_law 803 = .ok (.goto 4, 3) := by decide +kernel
theorem dL_law_806 : decode cL_law 806 = .ok (.iconst 0, 1) := by decide +kernel
theorem dL_law_807 : decode cL_law 807 = .ok (.aload_n 0, 1) := by decide +kernel
theorem dL_law_808 : decode cL_law 808 = .ok (.iload_n 3, 1) := by decide +kernel
theorem dL_law_809 : decode cL_law 809 = .ok (.iconst 5, 1) := by decide +kernel
theorem dL_law_810 : decode cL_law 810 = .ok (.iadd, 1) := by decide +kernel
theorem dL_law_811 : decode cL_law 811 = .ok (.iaload, 1) := by decide +kernel
theorem dL_law_812 : decode cL_law 812 = .ok (.invokevirtual 80, 3) := by decide +kernel
theorem dL_law_815 : decode cL_law 815 = .ok (.if_icmp .eq 698, 3) := by decide +kernel
theorem dL_law_818 : decode cL_law 818 = .ok (.iconst 0, 1) := by decide +kernel
theorem dL_law_819 : decode cL_law 819 = .ok (.ireturn, 1) := by decide +kernel
theorem dL_law_820 : decode cL_law 820 = .ok (.aload_n 1, 1) := by decide +kernel
theorem dL_law_821 : decode cL_law 821 = .ok (.aload_n 0, 1) := by decide +kernel
theorem dL_law_822 : decode cL_law 822 = .ok (.iload_n 3, 1) := by decide +kernel
theorem dL_law_823 : decode cL_law 823 = .ok (.iconst 1, 1) := by decide +kernel
theorem dL_law_824 : decode cL_law 824 = .ok (.iadd, 1) := by decide +kernel
theorem dL_law_825 : decode cL_law 825 = .ok (.iaload, 1) := by decide +kernel
theorem dL_law_826 : decode cL_law 826 = .ok (.aload_n 0, 1) := by decide +kernel
theorem dL_law_827 : decode cL_law 827 = .ok (.iload_n 3, 1) := by decide +kernel
theorem dL_law_828 : decode cL_law 828 = .ok (.iconst 2, 1) := by decide +kernel
theorem dL_law_829 : decode cL_law 829 = .ok (.iadd, 1) := by decide +kernel
theorem dL_law_830 : decode cL_law 830 = .ok (.iaload, 1) := by decide +kernel
theorem dL_law_831 : decode cL_law 831 = .ok (.aload_n 0, 1) := by decide +kernel
theorem dL_law_832 : decode cL_law 832 = .ok (.iload_n 3, 1) := by decide +kernel
theorem dL_law_833 : decode cL_law 833 = .ok (.iconst 3, 1) := by decide +kernel
theorem dL_law_834 : decode cL_law 834 = .ok (.iadd, 1) := by decide +kernel
theorem dL_law_835 : decode cL_law 835 = .ok (.iaload, 1) := by decide +kernel
theorem dL_law_836 : decode cL_law 836 = .ok (.invokevirtual 81, 3) := by decide +kernel
theorem dL_law_839 : decode cL_law 839 = .ok (.aload_n 2, 1) := by decide +kernel
theorem dL_law_840 : decode cL_law 840 = .ok (.aload_n 0, 1) := by decide +kernel
theorem dL_law_841 : decode cL_law 841 = .ok (.iload_n 3, 1) := by decide +kernel
theorem dL_law_842 : decode cL_law 842 = .ok (.iconst 1, 1) := by decide +kernel
theorem dL_law_843 : decode cL_law 843 = .ok (.iadd, 1) := by decide +kernel
theorem dL_law_844 : decode cL_law 844 = .ok (.iaload, 1) := by decide +kernel
theorem dL_law_845 : decode cL_law 845 = .ok (.aload_n 0, 1) := by decide +kernel
theorem dL_law_846 : decode cL_law 846 = .ok (.iload_n 3, 1) := by decide +kernel
theorem dL_law_847 : decode cL_law 847 = .ok (.iconst 2, 1) := by decide +kernel
theorem dL_law_848 : decode cL_law 848 = .ok (.iadd, 1) := by decide +kernel
theorem dL_law_849 : decode cL_law 849 = .ok (.iaload, 1) := by decide +kernel
theorem dL_law_850 : decode cL_law 850 = .ok (.aload_n 0, 1) := by decide +kernel
theorem dL_law_851 : decode cL_law 851 = .ok (.iload_n 3, 1) := by decide +kernel
theorem dL_law_852 : decode cL_law 852 = .ok (.iconst 3, 1) := by decide +kernel
theorem dL_law_853 : decode cL_law 853 = .ok (.iadd, 1) := by decide +kernel
theorem dL_law_854 : decode cL_law 854 = .ok (.iaload, 1) := by decide +kernel
theorem dL_law_855 : decode cL_law 855 = .ok (.invokevirtual 84, 3) := by decide +kernel
theorem dL_law_858 : decode cL_law 858 = .ok (.if_icmp .eq 655, 3) := by decide +kernel
theorem dL_law_861 : decode cL_law 861 = .ok (.iconst 0, 1) := by decide +kernel
theorem dL_law_862 : decode cL_law 862 = .ok (.ireturn, 1) := by decide +kernel
theorem dL_law_863 : decode cL_law 863 = .ok (.aload_n 1, 1) := by decide +kernel
theorem dL_law_864 : decode cL_law 864 = .ok (.aload_n 0, 1) := by decide +kernel
theorem dL_law_865 : decode cL_law 865 = .ok (.iload_n 3, 1) := by decide +kernel
theorem dL_law_866 : decode cL_law 866 = .ok (.iconst 1, 1) := by decide +kernel
theorem dL_law_867 : decode cL_law 867 = .ok (.iadd, 1) := by decide +kernel
theorem dL_law_868 : decode cL_law 868 = .ok (.iaload, 1) := by decide +kernel
theorem dL_law_869 : decode cL_law 869 = .ok (.aload_n 0, 1) := by decide +kernel
theorem dL_law_870 : decode cL_law 870 = .ok (.iload_n 3, 1) := by decide +kernel
theorem dL_law_871 : decode cL_law 871 = .ok (.iconst 2, 1) := by decide +kernel
theorem dL_law_872 : decode cL_law 872 = .ok (.iadd, 1) := by decide +kernel
theorem dL_law_873 : decode cL_law 873 = .ok (.iaload, 1) := by decide +kernel
theorem dL_law_874 : decode cL_law 874 = .ok (.aload_n 0, 1) := by decide +kernel
theorem dL_law_875 : decode cL_law 875 = .ok (.iload_n 3, 1) := by decide +kernel
theorem dL_law_876 : decode cL_law 876 = .ok (.iconst 3, 1) := by decide +kernel
theorem dL_law_877 : decode cL_law 877 = .ok (.iadd, 1) := by decide +kernel
theorem dL_law_878 : decode cL_law 878 = .ok (.iaload, 1) := by decide +kernel
theorem dL_law_879 : decode cL_law 879 = .ok (.invokevirtual 85, 3) := by decide +kernel
theorem dL_law_882 : decode cL_law 882 = .ok (.aload_n 2, 1) := by decide +kernel
theorem dL_law_883 : decode cL_law 883 = .ok (.aload_n 0, 1) := by decide +kernel
theorem dL_law_884 : decode cL_law 884 = .ok (.iload_n 3, 1) := by decide +kernel
theorem dL_law_885 : decode cL_law 885 = .ok (.iconst 1, 1) := by decide +kernel
theorem dL_law_886 : decode cL_law 886 = .ok (.iadd, 1) := by decide +kernel
theorem dL_law_887 : decode cL_law 887 = .ok (.iaload, 1) := by decide +kernel
theorem dL_law_888 : decode cL_law 888 = .ok (.aload_n 0, 1) := by decide +kernel
theorem dL_law_889 : decode cL_law 889 = .ok (.iload_n 3, 1) := by decide +kernel
theorem dL_law_890 : decode cL_law 890 = .ok (.iconst 2, 1) := by decide +kernel
theorem dL_law_891 : decode cL_law 891 = .ok (.iadd, 1) := by decide +kernel
theorem dL_law_892 : decode cL_law 892 = .ok (.iaload, 1) := by decide +kernel
theorem dL_law_893 : decode cL_law 893 = .ok (.aload_n 0, 1) := by decide +kernel
theorem dL_law_894 : decode cL_law 894 = .ok (.iload_n 3, 1) := by decide +kernel
theorem dL_law_895 : decode cL_law 895 = .ok (.iconst 3, 1) := by decide +kernel
theorem dL_law_896 : decode cL_law 896 = .ok (.iadd, 1) := by decide +kernel
theorem dL_law_897 : decode cL_law 897 = .ok (.iaload, 1) := by decide +kernel
theorem dL_law_898 : decode cL_law 898 = .ok (.invokevirtual 88, 3) := by decide +kernel
theorem dL_law_901 : decode cL_law 901 = .ok (.if_icmp .eq 612, 3) := by decide +kernel
theorem dL_law_904 : decode cL_law 904 = .ok (.iconst 0, 1) := by decide +kernel
theorem dL_law_905 : decode cL_law 905 = .ok (.ireturn, 1) := by decide +kernel
theorem dL_law_906 : decode cL_law 906 = .ok (.aload_n 1, 1) := by decide +kernel
theorem dL_law_907 : decode cL_law 907 = .ok (.aload_n 0, 1) := by decide +kernel
theorem dL_law_908 : decode cL_law 908 = .ok (.iload_n 3, 1) := by decide +kernel
theorem dL_law_909 : decode cL_law 909 = .ok (.iconst 1, 1) := by decide +kernel
theorem dL_law_910 : decode cL_law 910 = .ok (.iadd, 1) := by decide +kernel
theorem dL_law_911 : decode cL_law 911 = .ok (.iaload, 1) := by decide +kernel
theorem dL_law_912 : decode cL_law 912 = .ok (.aload_n 0, 1) := by decide +kernel
theorem dL_law_913 : decode cL_law 913 = .ok (.iload_n 3, 1) := by decide +kernel
theorem dL_law_914 : decode cL_law 914 = .ok (.iconst 2, 1) := by decide +kernel
theorem dL_law_915 : decode cL_law 915 = .ok (.iadd, 1) := by decide +kernel
theorem dL_law_916 : decode cL_law 916 = .ok (.iaload, 1) := by decide +kernel
theorem dL_law_917 : decode cL_law 917 = .ok (.aload_n 0, 1) := by decide +kernel
theorem dL_law_918 : decode cL_law 918 = .ok (.iload_n 3, 1) := by decide +kernel
theorem dL_law_919 : decode cL_law 919 = .ok (.iconst 3, 1) := by decide +kernel
theorem dL_law_920 : decode cL_law 920 = .ok (.iadd, 1) := by decide +kernel
theorem dL_law_921 : decode cL_law 921 = .ok (.iaload, 1) := by decide +kernel
theorem dL_law_922 : decode cL_law 922 = .ok (.aload_n 0, 1) := by decide +kernel
theorem dL_law_923 : decode cL_law 923 = .ok (.iload_n 3, 1) := by decide +kernel
theorem dL_law_924 : decode cL_law 924 = .ok (.iconst 4, 1) := by decide +kernel
theorem dL_law_925 : decode cL_law 925 = .ok (.iadd, 1) := by decide +kernel
theorem dL_law_926 : decode cL_law 926 = .ok (.iaload, 1) := by decide +kernel
theorem dL_law_927 : decode cL_law 927 = .ok (.invokevirtual 89, 3) := by decide +kernel
theorem dL_law_930 : decode cL_law 930 = .ok (.aload_n 2, 1) := by decide +kernel
theorem dL_law_931 : decode cL_law 931 = .ok (.aload_n 0, 1) := by decide +kernel
theorem dL_law_932 : decode cL_law 932 = .ok (.iload_n 3, 1) := by decide +kernel
theorem dL_law_933 : decode cL_law 933 = .ok (.iconst 1, 1) := by decide +kernel
theorem dL_law_934 : decode cL_law 934 = .ok (.iadd, 1) := by decide +kernel
theorem dL_law_935 : decode cL_law 935 = .ok (.iaload, 1) := by decide +kernel
theorem dL_law_936 : decode cL_law 936 = .ok (.aload_n 0, 1) := by decide +kernel
theorem dL_law_937 : decode cL_law 937 = .ok (.iload_n 3, 1) := by decide +kernel
theorem dL_law_938 : decode cL_law 938 = .ok (.iconst 2, 1) := by decide +kernel
theorem dL_law_939 : decode cL_law 939 = .ok (.iadd, 1) := by decide +kernel
theorem dL_law_940 : decode cL_law 940 = .ok (.iaload, 1) := by decide +kernel
theorem dL_law_941 : decode cL_law 941 = .ok (.aload_n 0, 1) := by decide +kernel
theorem dL_law_942 : decode cL_law 942 = .ok (.iload_n 3, 1) := by decide +kernel
theorem dL_law_943 : decode cL_law 943 = .ok (.iconst 3, 1) := by decide +kernel
theorem dL_law_944 : decode cL_law 944 = .ok (.iadd, 1) := by decide +kernel
theorem dL_law_945 : decode cL_law 945 = .ok (.iaload, 1) := by decide +kernel
theorem dL_law_946 : decode cL_law 946 = .ok (.aload_n 0, 1) := by decide +kernel
theorem dL_law_947 : decode cL_law 947 = .ok (.iload_n 3, 1) := by decide +kernel
theorem dL_law_948 : decode cL_law 948 = .ok (.iconst 4, 1) := by decide +kernel
theorem dL_law_949 : decode cL_law 949 = .ok (.iadd, 1) := by decide +kernel
theorem dL_law_950 : decode cL_law 950 = .ok (.iaload, 1) := by decide +kernel
theorem dL_law_951 : decode cL_law 951 = .ok (.invokevirtual 93, 3) := by decide +kernel
theorem dL_law_954 : decode cL_law 954 = .ok (.if_icmp .eq 559, 3) := by decide +kernel
theorem dL_law_957 : decode cL_law 957 = .ok (.iconst 0, 1) := by decide +kernel
theorem dL_law_958 : decode cL_law 958 = .ok (.ireturn, 1) := by decide +kernel
theorem dL_law_959 : decode cL_law 959 = .ok (.aload_n 1, 1) := by decide +kernel
theorem dL_law_960 : decode cL_law 960 = .ok (.aload_n 0, 1) := by decide +kernel
theorem dL_law_961 : decode cL_law 961 = .ok (.iload_n 3, 1) := by decide +kernel
theorem dL_law_962 : decode cL_law 962 = .ok (.iconst 1, 1) := by decide +kernel
theorem dL_law_963 : decode cL_law 963 = .ok (.iadd, 1) := by decide +kernel
theorem dL_law_964 : decode cL_law 964 = .ok (.iaload, 1) := by decide +kernel
theorem dL_law_965 : decode cL_law 965 = .ok (.aload_n 0, 1) := by decide +kernel
theorem dL_law_966 : decode cL_law 966 = .ok (.iload_n 3, 1) := by decide +kernel
theorem dL_law_967 : decode cL_law 967 = .ok (.iconst 2, 1) := by decide +kernel
theorem dL_law_968 : decode cL_law 968 = .ok (.iadd, 1) := by decide +kernel
theorem dL_law_969 : decode cL_law 969 = .ok (.iaload, 1) := by decide +kernel
theorem dL_law_970 : decode cL_law 970 = .ok (.aload_n 0, 1) := by decide +kernel
theorem dL_law_971 : decode cL_law 971 = .ok (.iload_n 3, 1) := by decide +kernel
theorem dL_law_972 : decode cL_law 972 = .ok (.iconst 3, 1) := by decide +kernel
theorem dL_law_973 : decode cL_law 973 = .ok (.iadd, 1) := by decide +kernel
theorem dL_law_974 : decode cL_law 974 = .ok (.iaload, 1) := by decide +kernel
theorem dL_law_975 : decode cL_law 975 = .ok (.aload_n 0, 1) := by decide +kernel
theorem dL_law_976 : decode cL_law 976 = .ok (.iload_n 3, 1) := by decide +kernel
theorem dL_law_977 : decode cL_law 977 = .ok (.iconst 4, 1) := by decide +kernel
theorem dL_law_978 : decode cL_law 978 = .ok (.iadd, 1) := by decide +kernel
theorem dL_law_979 : decode cL_law 979 = .ok (.iaload, 1) := by decide +kernel
theorem dL_law_980 : decode cL_law 980 = .ok (.invokevirtual 94, 3) := by decide +kernel
theorem dL_law_983 : decode cL_law 983 = .ok (.aload_n 2, 1) := by decide +kernel
theorem dL_law_984 : decode cL_law 984 = .ok (.aload_n 0, 1) := by decide +kernel
theorem dL_law_985 : decode cL_law 985 = .ok (.iload_n 3, 1) := by decide +kernel
theorem dL_law_986 : decode cL_law 986 = .ok (.iconst 1, 1) := by decide +kernel
theorem dL_law_987 : decode cL_law 987 = .ok (.iadd, 1) := by decide +kernel
theorem dL_law_988 : decode cL_law 988 = .ok (.iaload, 1) := by decide +kernel
theorem dL_law_989 : decode cL_law 989 = .ok (.aload_n 0, 1) := by decide +kernel
theorem dL_law_990 : decode cL_law 990 = .ok (.iload_n 3, 1) := by decide +kernel
theorem dL_law_991 : decode cL_law 991 = .ok (.iconst 2, 1) := by decide +kernel
theorem dL_law_992 : decode cL_law 992 = .ok (.iadd, 1) := by decide +kernel
theorem dL_law_993 : decode cL_law 993 = .ok (.iaload, 1) := by decide +kernel
theorem dL_law_994 : decode cL_law 994 = .ok (.aload_n 0, 1) := by decide +kernel
theorem dL_law_995 : decode cL_law 995 = .ok (.iload_n 3, 1) := by decide +kernel
theorem dL_law_996 : decode cL_law 996 = .ok (.iconst 3, 1) := by decide +kernel
theorem dL_law_997 : decode cL_law 997 = .ok (.iadd, 1) := by decide +kernel
theorem dL_law_998 : decode cL_law 998 = .ok (.iaload, 1) := by decide +kernel
theorem dL_law_999 : decode cL_law 999 = .ok (.aload_n 0, 1) := by decide +kernel
theorem dL_law_1000 : decode cL_law 1000 = .ok (.iload_n 3, 1) := by decide +kernel
theorem dL_law_1001 : decode cL_law 1001 = .ok (.iconst 4, 1) := by decide +kernel
theorem dL_law_1002 : decode cL_law 1002 = .ok (.iadd, 1) := by decide +kernel
theorem dL_law_1003 : decode cL_law 1003 = .ok (.iaload, 1) := by decide +kernel
theorem dL_law_1004 : decode cL_law 1004 = .ok (.invokevirtual 97, 3) := by decide +kernel
theorem dL_law_1007 : decode cL_law 1007 = .ok (.if_icmp .eq 506, 3) := by decide +kernel
theorem dL_law_1010 : decode cL_law 1010 = .ok (.iconst 0, 1) := by decide +kernel
theorem dL_law_1011 : decode cL_law 1011 = .ok (.ireturn, 1) := by decide +kernel
theorem dL_law_1012 : decode cL_law 1012 = .ok (.aload_n 1, 1) := by decide +kernel
theorem dL_law_1013 : decode cL_law 1013 = .ok (.aload_n 0, 1) := by decide +kernel
theorem dL_law_1014 : decode cL_law 1014 = .ok (.iload_n 3, 1) := by decide +kernel
theorem dL_law_1015 : decode cL_law 1015 = .ok (.iconst 1, 1) := by decide +kernel
theorem dL_law_1016 : decode cL_law 1016 = .ok (.iadd, 1) := by decide +kernel
theorem dL_law_1017 : decode cL_law 1017 = .ok (.iaload, 1) := by decide +kernel
theorem dL_law_1018 : decode cL_law 1018 = .ok (.aload_n 0, 1) := by decide +kernel
theorem dL_law_1019 : decode cL_law 1019 = .ok (.iload_n 3, 1) := by decide +kernel
theorem dL_law_1020 : decode cL_law 1020 = .ok (.iconst 2, 1) := by decide +kernel
theorem dL_law_1021 : decode cL_law 1021 = .ok (.iadd, 1) := by decide +kernel
theorem dL_law_1022 : decode cL_law 1022 = .ok (.iaload, 1) := by decide +kernel
theorem dL_law_1023 : decode cL_law 1023 = .ok (.invokevirtual 98, 3) := by decide +kernel
theorem dL_law_1026 : decode cL_law 1026 = .ok (.aload_n 2, 1) := by decide +kernel
theorem dL_law_1027 : decode cL_law 1027 = .ok (.aload_n 0, 1) := by decide +kernel
theorem dL_law_1028 : decode cL_law 1028 = .ok (.iload_n 3, 1) := by decide +kernel
theorem dL_law_1029 : decode cL_law 1029 = .ok (.iconst 1, 1) := by decide +kernel
theorem dL_law_1030 : decode cL_law 1030 = .ok (.iadd, 1) := by decide +kernel
theorem dL_law_1031 : decode cL_law 1031 = .ok (.iaload, 1) := by decide +kernel
theorem dL_law_1032 : decode cL_law 1032 = .ok (.aload_n 0, 1) := by decide +kernel
theorem dL_law_1033 : decode cL_law 1033 = .ok (.iload_n 3, 1) := by decide +kernel
theorem dL_law_1034 : decode cL_law 1034 = .ok (.iconst 2, 1) := by decide +kernel
theorem dL_law_1035 : decode cL_law 1035 = .ok (.iadd, 1) := by decide +kernel
theorem dL_law_1036 : decode cL_law 1036 = .ok (.iaload, 1) := by decide +kernel
theorem dL_law_1037 : decode cL_law 1037 = .ok (.invokevirtual 101, 3) := by decide +kernel
theorem dL_law_1040 : decode cL_law 1040 = .ok (.if_icmp .eq 473, 3) := by decide +kernel
theorem dL_law_1043 : decode cL_law 1043 = .ok (.iconst 0, 1) := by decide +kernel
theorem dL_law_1044 : decode cL_law 1044 = .ok (.ireturn, 1) := by decide +kernel
theorem dL_law_1045 : decode cL_law 1045 = .ok (.aload_n 1, 1) := by decide +kernel
theorem dL_law_1046 : decode cL_law 1046 = .ok (.aload_n 0, 1) := by decide +kernel
theorem dL_law_1047 : decode cL_law 1047 = .ok (.iload_n 3, 1) := by decide +kernel
theorem dL_law_1048 : decode cL_law 1048 = .ok (.iconst 1, 1) := by decide +kernel
theorem dL_law_1049 : decode cL_law 1049 = .ok (.iadd, 1) := by decide +kernel
theorem dL_law_1050 : decode cL_law 1050 = .ok (.iaload, 1) := by decide +kernel
theorem dL_law_1051 : decode cL_law 1051 = .ok (.aload_n 0, 1) := by decide +kernel
theorem dL_law_1052 : decode cL_law 1052 = .ok (.iload_n 3, 1) := by decide +kernel
theorem dL_law_1053 : decode cL_law 1053 = .ok (.iconst 2, 1) := by decide +kernel
theorem dL_law_1054 : decode cL_law 1054 = .ok (.iadd, 1) := by decide +kernel
theorem dL_law_1055 : decode cL_law 1055 = .ok (.iaload, 1) := by decide +kernel
theorem dL_law_1056 : decode cL_law 1056 = .ok (.aload_n 0, 1) := by decide +kernel
theorem dL_law_1057 : decode cL_law 1057 = .ok (.iload_n 3, 1) := by decide +kernel
theorem dL_law_1058 : decode cL_law 1058 = .ok (.iconst 3, 1) := by decide +kernel
theorem dL_law_1059 : decode cL_law 1059 = .ok (.iadd, 1) := by decide +kernel
theorem dL_law_1060 : decode cL_law 1060 = .ok (.iaload, 1) := by decide +kernel
theorem dL_law_1061 : decode cL_law 1061 = .ok (.invokevirtual 102, 3) := by decide +kernel
theorem dL_law_1064 : decode cL_law 1064 = .ok (.aload_n 2, 1) := by decide +kernel
theorem dL_law_1065 : decode cL_law 1065 = .ok (.aload_n 0, 1) := by decide +kernel
theorem dL_law_1066 : decode cL_law 1066 = .ok (.iload_n 3, 1) := by decide +kernel
theorem dL_law_1067 : decode cL_law 1067 = .ok (.iconst 1, 1) := by decide +kernel
theorem dL_law_1068 : decode cL_law 1068 = .ok (.iadd, 1) := by decide +kernel
theorem dL_law_1069 : decode cL_law 1069 = .ok (.iaload, 1) := by decide +kernel
theorem dL_law_1070 : decode cL_law 1070 = .ok (.aload_n 0, 1) := by decide +kernel
theorem dL_law_1071 : decode cL_law 1071 = .ok (.iload_n 3, 1) := by decide +kernel
theorem dL_law_1072 : decode cL_law 1072 = .ok (.iconst 2, 1) := by decide +kernel
theorem dL_law_1073 : decode cL_law 1073 = .ok (.iadd, 1) := by decide +kernel
theorem dL_law_1074 : decode cL_law 1074 = .ok (.iaload, 1) := by decide +kernel
theorem dL_law_1075 : decode cL_law 1075 = .ok (.aload_n 0, 1) := by decide +kernel
theorem dL_law_1076 : decode cL_law 1076 = .ok (.iload_n 3, 1) := by decide +kernel
theorem dL_law_1077 : decode cL_law 1077 = .ok (.iconst 3, 1) := by decide +kernel
theorem dL_law_1078 : decode cL_law 1078 = .ok (.iadd, 1) := by decide +kernel
theorem dL_law_1079 : decode cL_law 1079 = .ok (.iaload, 1) := by decide +kernel
theorem dL_law_1080 : decode cL_law 1080 = .ok (.invokevirtual 106, 3) := by decide +kernel
theorem dL_law_1083 : decode cL_law 1083 = .ok (.if_icmp .eq 430, 3) := by decide +kernel
theorem dL_law_1086 : decode cL_law 1086 = .ok (.iconst 0, 1) := by decide +kernel
theorem dL_law_1087 : decode cL_law 1087 = .ok (.ireturn, 1) := by decide +kernel
theorem dL_law_1088 : decode cL_law 1088 = .ok (.aload_n 1, 1) := by decide +kernel
theorem dL_law_1089 : decode cL_law 1089 = .ok (.aload_n 0, 1) := by decide +kernel
theorem dL_law_1090 : decode cL_law 1090 = .ok (.iload_n 3, 1) := by decide +kernel
theorem dL_law_1091 : decode cL_law 1091 = .ok (.iconst 1, 1) := by decide +kernel
theorem dL_law_1092 : decode cL_law 1092 = .ok (.iadd, 1) := by decide +kernel
theorem dL_law_1093 : decode cL_law 1093 = .ok (.iaload, 1) := by decide +kernel
theorem dL_law_1094 : decode cL_law 1094 = .ok (.aload_n 0, 1) := by decide +kernel
theorem dL_law_1095 : decode cL_law 1095 = .ok (.iload_n 3, 1) := by decide +kernel
theorem dL_law_1096 : decode cL_law 1096 = .ok (.iconst 2, 1) := by decide +kernel
theorem dL_law_1097 : decode cL_law 1097 = .ok (.iadd, 1) := by decide +kernel
theorem dL_law_1098 : decode cL_law 1098 = .ok (.iaload, 1) := by decide +kernel
theorem dL_law_1099 : decode cL_law 1099 = .ok (.aload_n 0, 1) := by decide +kernel
theorem dL_law_1100 : decode cL_law 1100 = .ok (.iload_n 3, 1) := by decide +kernel
theorem dL_law_1101 : decode cL_law 1101 = .ok (.iconst 3, 1) := by decide +kernel
theorem dL_law_1102 : decode cL_law 1102 = .ok (.iadd, 1) := by decide +kernel
theorem dL_law_1103 : decode cL_law 1103 = .ok (.iaload, 1) := by decide +kernel
theorem dL_law_1104 : decode cL_law 1104 = .ok (.invokevirtual 107, 3) := by decide +kernel
theorem dL_law_1107 : decode cL_law 1107 = .ok (.aload_n 2, 1) := by decide +kernel
theorem dL_law_1108 : decode cL_law 1108 = .ok (.aload_n 0, 1) := by decide +kernel
theorem dL_law_1109 : decode cL_law 1109 = .ok (.iload_n 3, 1) := by decide +kernel
theorem dL_law_1110 : decode cL_law 1110 = .ok (.iconst 1, 1) := by decide +kernel
theorem dL_law_1111 : decode cL_law 1111 = .ok (.iadd, 1) := by decide +kernel
theorem dL_law_1112 : decode cL_law 1112 = .ok (.iaload, 1) := by decide +kernel
theorem dL_law_1113 : decode cL_law 1113 = .ok (.aload_n 0, 1) := by decide +kernel
theorem dL_law_1114 : decode cL_law 1114 = .ok (.iload_n 3, 1) := by decide +kernel
theorem dL_law_1115 : decode cL_law 1115 = .ok (.iconst 2, 1) := by decide +kernel
theorem dL_law_1116 : decode cL_law 1116 = .ok (.iadd, 1) := by decide +kernel
theorem dL_law_1117 : decode cL_law 1117 = .ok (.iaload, 1) := by decide +kernel
theorem dL_law_1118 : decode cL_law 1118 = .ok (.aload_n 0, 1) := by decide +kernel
theorem dL_law_1119 : decode cL_law 1119 = .ok (.iload_n 3, 1) := by decide +kernel
theorem dL_law_1120 : decode cL_law 1120 = .ok (.iconst 3, 1) := by decide +kernel
theorem dL_law_1121 : decode cL_law 1121 = .ok (.iadd, 1) := by decide +kernel
theorem dL_law_1122 : decode cL_law 1122 = .ok (.iaload, 1) := by decide +kernel
theorem dL_law_1123 : decode cL_law 1123 = .ok (.invokevirtual 110, 3) := by decide +kernel
theorem dL_law_1126 : decode cL_law 1126 = .ok (.if_icmp .eq 387, 3) := by decide +kernel
theorem dL_law_1129 : decode cL_law 1129 = .ok (.iconst 0, 1) := by decide +kernel
theorem dL_law_1130 : decode cL_law 1130 = .ok (.ireturn, 1) := by decide +kernel
theorem dL_law_1131 : decode cL_law 1131 = .ok (.aload_n 1, 1) := by decide +kernel
theorem dL_law_1132 : decode cL_law 1132 = .ok (.aload_n 0, 1) := by decide +kernel
theorem dL_law_1133 : decode cL_law 1133 = .ok (.iload_n 3, 1) := by decide +kernel
theorem dL_law_1134 : decode cL_law 1134 = .ok (.iconst 1, 1) := by decide +kernel
theorem dL_law_1135 : decode cL_law 1135 = .ok (.iadd, 1) := by decide +kernel
theorem dL_law_1136 : decode cL_law 1136 = .ok (.iaload, 1) := by decide +kernel
theorem dL_law_1137 : decode cL_law 1137 = .ok (.aload_n 0, 1) := by decide +kernel
theorem dL_law_1138 : decode cL_law 1138 = .ok (.iload_n 3, 1) := by decide +kernel
theorem dL_law_1139 : decode cL_law 1139 = .ok (.iconst 2, 1) := by decide +kernel
theorem dL_law_1140 : decode cL_law 1140 = .ok (.iadd, 1) := by decide +kernel
theorem dL_law_1141 : decode cL_law 1141 = .ok (.iaload, 1) := by decide +kernel
theorem dL_law_1142 : decode cL_law 1142 = .ok (.invokevirtual 111, 3) := by decide +kernel
theorem dL_law_1145 : decode cL_law 1145 = .ok (.aload_n 2, 1) := by decide +kernel
theorem dL_law_1146 : decode cL_law 1146 = .ok (.aload_n 0, 1) := by decide +kernel
theorem dL_law_1147 : decode cL_law 1147 = .ok (.iload_n 3, 1) := by decide +kernel
theorem dL_law_1148 : decode cL_law 1148 = .ok (.iconst 1, 1) := by decide +kernel
theorem dL_law_1149 : decode cL_law 1149 = .ok (.iadd, 1) := by decide +kernel
theorem dL_law_1150 : decode cL_law 1150 = .ok (.iaload, 1) := by decide +kernel
theorem dL_law_1151 : decode cL_law 1151 = .ok (.aload_n 0, 1) := by decide +kernel
theorem dL_law_1152 : decode cL_law 1152 = .ok (.iload_n 3, 1) := by decide +kernel
theorem dL_law_1153 : decode cL_law 1153 = .ok (.iconst 2, 1) := by decide +kernel
theorem dL_law_1154 : decode cL_law 1154 = .ok (.iadd, 1) := by decide +kernel
theorem dL_law_1155 : decode cL_law 1155 = .ok (.iaload, 1) := by decide +kernel
theorem dL_law_1156 : decode cL_law 1156 = .ok (.invokevirtual 114, 3) := by decide +kernel
theorem dL_law_1159 : decode cL_law 1159 = .ok (.if_icmp .eq 354, 3) := by decide +kernel
theorem dL_law_1162 : decode cL_law 1162 = .ok (.iconst 0, 1) := by decide +kernel
theorem dL_law_1163 : decode cL_law 1163 = .ok (.ireturn, 1) := by decide +kernel
theorem dL_law_1164 : decode cL_law 1164 = .ok (.aload_n 1, 1) := by decide +kernel
theorem dL_law_1165 : decode cL_law 1165 = .ok (.aload_n 0, 1) := by decide +kernel
theorem dL_law_1166 : decode cL_law 1166 = .ok (.iload_n 3, 1) := by decide +kernel
theorem dL_law_1167 : decode cL_law 1167 = .ok (.iconst 1, 1) := by decide +kernel
theorem dL_law_1168 : decode cL_law 1168 = .ok (.iadd, 1) := by decide +kernel
theorem dL_law_1169 : decode cL_law 1169 = .ok (.iaload, 1) := by decide +kernel
theorem dL_law_1170 : decode cL_law 1170 = .ok (.aload_n 0, 1) := by decide +kernel
theorem dL_law_1171 : decode cL_law 1171 = .ok (.iload_n 3, 1) := by decide +kernel
theorem dL_law_1172 : decode cL_law 1172 = .ok (.iconst 2, 1) := by decide +kernel
theorem dL_law_1173 : decode cL_law 1173 = .ok (.iadd, 1) := by decide +kernel
theorem dL_law_1174 : decode cL_law 1174 = .ok (.iaload, 1) := by decide +kernel
theorem dL_law_1175 : decode cL_law 1175 = .ok (.aload_n 0, 1) := by decide +kernel
theorem dL_law_1176 : decode cL_law 1176 = .ok (.iload_n 3, 1) := by decide +kernel
theorem dL_law_1177 : decode cL_law 1177 = .ok (.iconst 3, 1) := by decide +kernel
theorem dL_law_1178 : decode cL_law 1178 = .ok (.iadd, 1) := by decide +kernel
theorem dL_law_1179 : decode cL_law 1179 = .ok (.iaload, 1) := by decide +kernel
theorem dL_law_1180 : decode cL_law 1180 = .ok (.invokevirtual 115, 3) := by decide +kernel
theorem dL_law_1183 : decode cL_law 1183 = .ok (.aload_n 2, 1) := by decide +kernel
theorem dL_law_1184 : decode cL_law 1184 = .ok (.aload_n 0, 1) := by decide +kernel
theorem dL_law_1185 : decode cL_law 1185 = .ok (.iload_n 3, 1) := by decide +kernel
theorem dL_law_1186 : decode cL_law 1186 = .ok (.iconst 1, 1) := by decide +kernel
theorem dL_law_1187 : decode cL_law 1187 = .ok (.iadd, 1) := by decide +kernel
theorem dL_law_1188 : decode cL_law 1188 = .ok (.iaload, 1) := by decide +kernel
theorem dL_law_1189 : decode cL_law 1189 = .ok (.aload_n 0, 1) := by decide +kernel
theorem dL_law_1190 : decode cL_law 1190 = .ok (.iload_n 3, 1) := by decide +kernel
theorem dL_law_1191 : decode cL_law 1191 = .ok (.iconst 2, 1) := by decide +kernel
theorem dL_law_1192 : decode cL_law 1192 = .ok (.iadd, 1) := by decide +kernel
theorem dL_law_1193 : decode cL_law 1193 = .ok (.iaload, 1) := by decide +kernel
theorem dL_law_1194 : decode cL_law 1194 = .ok (.aload_n 0, 1) := by decide +kernel
theorem dL_law_1195 : decode cL_law 1195 = .ok (.iload_n 3, 1) := by decide +kernel
theorem dL_law_1196 : decode cL_law 1196 = .ok (.iconst 3, 1) := by decide +kernel
theorem dL_law_1197 : decode cL_law 1197 = .ok (.iadd, 1) := by decide +kernel
theorem dL_law_1198 : decode cL_law 1198 = .ok (.iaload, 1) := by decide +kernel
theorem dL_law_1199 : decode cL_law 1199 = .ok (.invokevirtual 118, 3) := by decide +kernel
theorem dL_law_1202 : decode cL_law 1202 = .ok (.if_icmp .eq 311, 3) := by decide +kernel
theorem dL_law_1205 : decode cL_law 1205 = .ok (.iconst 0, 1) := by decide +kernel
theorem dL_law_1206 : decode cL_law 1206 = .ok (.ireturn, 1) := by decide +kernel
theorem dL_law_1207 : decode cL_law 1207 = .ok (.aload_n 1, 1) := by decide +kernel
theorem dL_law_1208 : decode cL_law 1208 = .ok (.aload_n 0, 1) := by decide +kernel
theorem dL_law_1209 : decode cL_law 1209 = .ok (.iload_n 3, 1) := by decide +kernel
theorem dL_law_1210 : decode cL_law 1210 = .ok (.iconst 1, 1) := by decide +kernel
theorem dL_law_1211 : decode cL_law 1211 = .ok (.iadd, 1) := by decide +kernel
theorem dL_law_1212 : decode cL_law 1212 = .ok (.iaload, 1) := by decide +kernel
theorem dL_law_1213 : decode cL_law 1213 = .ok (.aload_n 0, 1) := by decide +kernel
theorem dL_law_1214 : decode cL_law 1214 = .ok (.iload_n 3, 1) := by decide +kernel
theorem dL_law_1215 : decode cL_law 1215 = .ok (.iconst 2, 1) := by decide +kernel
theorem dL_law_1216 : decode cL_law 1216 = .ok (.iadd, 1) := by decide +kernel
theorem dL_law_1217 : decode cL_law 1217 = .ok (.iaload, 1) := by decide +kernel
theorem dL_law_1218 : decode cL_law 1218 = .ok (.invokevirtual 119, 3) := by decide +kernel
theorem dL_law_1221 : decode cL_law 1221 = .ok (.aload_n 2, 1) := by decide +kernel
theorem dL_law_1222 : decode cL_law 1222 = .ok (.aload_n 0, 1) := by decide +kernel
theorem dL_law_1223 : decode cL_law 1223 = .ok (.iload_n 3, 1) := by decide +kernel
theorem dL_law_1224 : decode cL_law 1224 = .ok (.iconst 1, 1) := by decide +kernel
theorem dL_law_1225 : decode cL_law 1225 = .ok (.iadd, 1) := by decide +kernel
theorem dL_law_1226 : decode cL_law 1226 = .ok (.iaload, 1) := by decide +kernel
theorem dL_law_1227 : decode cL_law 1227 = .ok (.aload_n 0, 1) := by decide +kernel
theorem dL_law_1228 : decode cL_law 1228 = .ok (.iload_n 3, 1) := by decide +kernel
theorem dL_law_1229 : decode cL_law 1229 = .ok (.iconst 2, 1) := by decide +kernel
theorem dL_law_1230 : decode cL_law 1230 = .ok (.iadd, 1) := by decide +kernel
theorem dL_law_1231 : decode cL_law 1231 = .ok (.iaload, 1) := by decide +kernel
theorem dL_law_1232 : decode cL_law 1232 = .ok (.invokevirtual 122, 3) := by decide +kernel
theorem dL_law_1235 : decode cL_law 1235 = .ok (.if_icmp .eq 278, 3) := by decide +kernel
theorem dL_law_1238 : decode cL_law 1238 = .ok (.iconst 0, 1) := by decide +kernel
theorem dL_law_1239 : decode cL_law 1239 = .ok (.ireturn, 1) := by decide +kernel
theorem dL_law_1240 : decode cL_law 1240 = .ok (.aload_n 1, 1) := by decide +kernel
theorem dL_law_1241 : decode cL_law 1241 = .ok (.aload_n 0, 1) := by decide +kernel
theorem dL_law_1242 : decode cL_law 1242 = .ok (.iload_n 3, 1) := by decide +kernel
theorem dL_law_1243 : decode cL_law 1243 = .ok (.iconst 1, 1) := by decide +kernel
theorem dL_law_1244 : decode cL_law 1244 = .ok (.iadd, 1) := by decide +kernel
theorem dL_law_1245 : decode cL_law 1245 = .ok (.iaload, 1) := by decide +kernel
theorem dL_law_1246 : decode cL_law 1246 = .ok (.aload_n 0, 1) := by decide +kernel
theorem dL_law_1247 : decode cL_law 1247 = .ok (.iload_n 3, 1) := by decide +kernel
theorem dL_law_1248 : decode cL_law 1248 = .ok (.iconst 2, 1) := by decide +kernel
theorem dL_law_1249 : decode cL_law 1249 = .ok (.iadd, 1) := by decide +kernel
theorem dL_law_1250 : decode cL_law 1250 = .ok (.iaload, 1) := by decide +kernel
theorem dL_law_1251 : decode cL_law 1251 = .ok (.invokevirtual 123, 3) := by decide +kernel
theorem dL_law_1254 : decode cL_law 1254 = .ok (.aload_n 2, 1) := by decide +kernel
theorem dL_law_1255 : decode cL_law 1255 = .ok (.aload_n 0, 1) := by decide +kernel
theorem dL_law_1256 : decode cL_law 1256 = .ok (.iload_n 3, 1) := by decide +kernel
theorem dL_law_1257 : decode cL_law 1257 = .ok (.iconst 1, 1) := by decide +kernel
theorem dL_law_1258 : decode cL_law 1258 = .ok (.iadd, 1) := by decide +kernel
theorem dL_law_1259 : decode cL_law 1259 = .ok (.iaload, 1) := by decide +kernel
theorem dL_law_1260 : decode cL_law 1260 = .ok (.aload_n 0, 1) := by decide +kernel
theorem dL_law_1261 : decode cL_law 1261 = .ok (.iload_n 3, 1) := by decide +kernel
theorem dL_law_1262 : decode cL_law 1262 = .ok (.iconst 2, 1) := by decide +kernel
theorem dL_law_1263 : decode cL_law 1263 = .ok (.iadd, 1) := by decide +kernel
theorem dL_law_1264 : decode cL_law 1264 = .ok (.iaload, 1) := by decide +kernel
theorem dL_law_1265 : decode cL_law 1265 = .ok (.invokevirtual 126, 3) := by decide +kernel
theorem dL_law_1268 : decode cL_law 1268 = .ok (.if_icmp .eq 245, 3) := by decide +kernel
theorem dL_law_1271 : decode cL_law 1271 = .ok (.iconst 0, 1) := by decide +kernel
theorem dL_law_1272 : decode cL_law 1272 = .ok (.ireturn, 1) := by decide +kernel
theorem dL_law_1273 : decode cL_law 1273 = .ok (.aload_n 1, 1) := by decide +kernel
theorem dL_law_1274 : decode cL_law 1274 = .ok (.aload_n 0, 1) := by decide +kernel
theorem dL_law_1275 : decode cL_law 1275 = .ok (.iload_n 3, 1) := by decide +kernel
theorem dL_law_1276 : decode cL_law 1276 = .ok (.iconst 1, 1) := by decide +kernel
theorem dL_law_1277 : decode cL_law 1277 = .ok (.iadd, 1) := by decide +kernel
theorem dL_law_1278 : decode cL_law 1278 = .ok (.iaload, 1) := by decide +kernel
theorem dL_law_1279 : decode cL_law 1279 = .ok (.aload_n 0, 1) := by decide +kernel
theorem dL_law_1280 : decode cL_law 1280 = .ok (.iload_n 3, 1) := by decide +kernel
theorem dL_law_1281 : decode cL_law 1281 = .ok (.iconst 2, 1) := by decide +kernel
theorem dL_law_1282 : decode cL_law 1282 = .ok (.iadd, 1) := by decide +kernel
theorem dL_law_1283 : decode cL_law 1283 = .ok (.iaload, 1) := by decide +kernel
theorem dL_law_1284 : decode cL_law 1284 = .ok (.aload_n 0, 1) := by decide +kernel
theorem dL_law_1285 : decode cL_law 1285 = .ok (.iload_n 3, 1) := by decide +kernel
theorem dL_law_1286 : decode cL_law 1286 = .ok (.iconst 3, 1) := by decide +kernel
theorem dL_law_1287 : decode cL_law 1287 = .ok (.iadd, 1) := by decide +kernel
theorem dL_law_1288 : decode cL_law 1288 = .ok (.iaload, 1) := by decide +kernel
theorem dL_law_1289 : decode cL_law 1289 = .ok (.invokevirtual 127, 3) := by decide +kernel
theorem dL_law_1292 : decode cL_law 1292 = .ok (.aload_n 2, 1) := by decide +kernel
theorem dL_law_1293 : decode cL_law 1293 = .ok (.aload_n 0, 1) := by decide +kernel
theorem dL_law_1294 : decode cL_law 1294 = .ok (.iload_n 3, 1) := by decide +kernel
theorem dL_law_1295 : decode cL_law 1295 = .ok (.iconst 1, 1) := by decide +kernel
theorem dL_law_1296 : decode cL_law 1296 = .ok (.iadd, 1) := by decide +kernel
theorem dL_law_1297 : decode cL_law 1297 = .ok (.iaload, 1) := by decide +kernel
theorem dL_law_1298 : decode cL_law 1298 = .ok (.aload_n 0, 1) := by decide +kernel
theorem dL_law_1299 : decode cL_law 1299 = .ok (.iload_n 3, 1) := by decide +kernel
theorem dL_law_1300 : decode cL_law 1300 = .ok (.iconst 2, 1) := by decide +kernel
theorem dL_law_1301 : decode cL_law 1301 = .ok (.iadd, 1) := by decide +kernel
theorem dL_law_1302 : decode cL_law 1302 = .ok (.iaload, 1) := by decide +kernel
theorem dL_law_1303 : decode cL_law 1303 = .ok (.aload_n 0, 1) := by decide +kernel
theorem dL_law_1304 : decode cL_law 1304 = .ok (.iload_n 3, 1) := by decide +kernel
theorem dL_law_1305 : decode cL_law 1305 = .ok (.iconst 3, 1) := by decide +kernel
theorem dL_law_1306 : decode cL_law 1306 = .ok (.iadd, 1) := by decide +kernel
theorem dL_law_1307 : decode cL_law 1307 = .ok (.iaload, 1) := by decide +kernel
theorem dL_law_1308 : decode cL_law 1308 = .ok (.invokevirtual 130, 3) := by decide +kernel
theorem dL_law_1311 : decode cL_law 1311 = .ok (.if_icmp .eq 202, 3) := by decide +kernel
theorem dL_law_1314 : decode cL_law 1314 = .ok (.iconst 0, 1) := by decide +kernel
theorem dL_law_1315 : decode cL_law 1315 = .ok (.ireturn, 1) := by decide +kernel
theorem dL_law_1316 : decode cL_law 1316 = .ok (.aload_n 1, 1) := by decide +kernel
theorem dL_law_1317 : decode cL_law 1317 = .ok (.aload_n 0, 1) := by decide +kernel
theorem dL_law_1318 : decode cL_law 1318 = .ok (.iload_n 3, 1) := by decide +kernel
theorem dL_law_1319 : decode cL_law 1319 = .ok (.iconst 1, 1) := by decide +kernel
theorem dL_law_1320 : decode cL_law 1320 = .ok (.iadd, 1) := by decide +kernel
theorem dL_law_1321 : decode cL_law 1321 = .ok (.iaload, 1) := by decide +kernel
theorem dL_law_1322 : decode cL_law 1322 = .ok (.aload_n 0, 1) := by decide +kernel
theorem dL_law_1323 : decode cL_law 1323 = .ok (.iload_n 3, 1) := by decide +kernel
theorem dL_law_1324 : decode cL_law 1324 = .ok (.iconst 2, 1) := by decide +kernel
theorem dL_law_1325 : decode cL_law 1325 = .ok (.iadd, 1) := by decide +kernel
theorem dL_law_1326 : decode cL_law 1326 = .ok (.iaload, 1) := by decide +kernel
theorem dL_law_1327 : decode cL_law 1327 = .ok (.aload_n 0, 1) := by decide +kernel
theorem dL_law_1328 : decode cL_law 1328 = .ok (.iload_n 3, 1) := by decide +kernel
theorem dL_law_1329 : decode cL_law 1329 = .ok (.iconst 3, 1) := by decide +kernel
theorem dL_law_1330 : decode cL_law 1330 = .ok (.iadd, 1) := by decide +kernel
theorem dL_law_1331 : decode cL_law 1331 = .ok (.iaload, 1) := by decide +kernel
theorem dL_law_1332 : decode cL_law 1332 = .ok (.aload_n 0, 1) := by decide +kernel
theorem dL_law_1333 : decode cL_law 1333 = .ok (.iload_n 3, 1) := by decide +kernel
theorem dL_law_1334 : decode cL_law 1334 = .ok (.iconst 4, 1) := by decide +kernel
theorem dL_law_1335 : decode cL_law 1335 = .ok (.iadd, 1) := by decide +kernel
theorem dL_law_1336 : decode cL_law 1336 = .ok (.iaload, 1) := by decide +kernel
theorem dL_law_1337 : decode cL_law 1337 = .ok (.invokevirtual 131, 3) := by decide +kernel
theorem dL_law_1340 : decode cL_law 1340 = .ok (.aload_n 2, 1) := by decide +kernel
theorem dL_law_1341 : decode cL_law 1341 = .ok (.aload_n 0, 1) := by decide +kernel
theorem dL_law_1342 : decode cL_law 1342 = .ok (.iload_n 3, 1) := by decide +kernel
theorem dL_law_1343 : decode cL_law 1343 = .ok (.iconst 1, 1) := by decide +kernel
theorem dL_law_1344 : decode cL_law 1344 = .ok (.iadd, 1) := by decide +kernel
theorem dL_law_1345 : decode cL_law 1345 = .ok (.iaload, 1) := by decide +kernel
theorem dL_law_1346 : decode cL_law 1346 = .ok (.aload_n 0, 1) := by decide +kernel
theorem dL_law_1347 : decode cL_law 1347 = .ok (.iload_n 3, 1) := by decide +kernel
theorem dL_law_1348 : decode cL_law 1348 = .ok (.iconst 2, 1) := by decide +kernel
theorem dL_law_1349 : decode cL_law 1349 = .ok (.iadd, 1) := by decide +kernel
theorem dL_law_1350 : decode cL_law 1350 = .ok (.iaload, 1) := by decide +kernel
theorem dL_law_1351 : decode cL_law 1351 = .ok (.aload_n 0, 1) := by decide +kernel
theorem dL_law_1352 : decode cL_law 1352 = .ok (.iload_n 3, 1) := by decide +kernel
theorem dL_law_1353 : decode cL_law 1353 = .ok (.iconst 3, 1) := by decide +kernel
theorem dL_law_1354 : decode cL_law 1354 = .ok (.iadd, 1) := by decide +kernel
theorem dL_law_1355 : decode cL_law 1355 = .ok (.iaload, 1) := by decide +kernel
theorem dL_law_1356 : decode cL_law 1356 = .ok (.aload_n 0, 1) := by decide +kernel
theorem dL_law_1357 : decode cL_law 1357 = .ok (.iload_n 3, 1) := by decide +kernel
theorem dL_law_1358 : decode cL_law 1358 = .ok (.iconst 4, 1) := by decide +kernel
theorem dL_law_1359 : decode cL_law 1359 = .ok (.iadd, 1) := by decide +kernel
theorem dL_law_1360 : decode cL_law 1360 = .ok (.iaload, 1) := by decide +kernel
theorem dL_law_1361 : decode cL_law 1361 = .ok (.invokevirtual 134, 3) := by decide +kernel
theorem dL_law_1364 : decode cL_law 1364 = .ok (.if_icmp .eq 149, 3) := by decide +kernel
theorem dL_law_1367 : decode cL_law 1367 = .ok (.iconst 0, 1) := by decide +kernel
theorem dL_law_1368 : decode cL_law 1368 = .ok (.ireturn, 1) := by decide +kernel
theorem dL_law_1369 : decode cL_law 1369 = .ok (.aload_n 1, 1) := by decide +kernel
theorem dL_law_1370 : decode cL_law 1370 = .ok (.aload_n 0, 1) := by decide +kernel
theorem dL_law_1371 : decode cL_law 1371 = .ok (.iload_n 3, 1) := by decide +kernel
theorem dL_law_1372 : decode cL_law 1372 = .ok (.iconst 1, 1) := by decide +kernel
theorem dL_law_1373 : decode cL_law 1373 = .ok (.iadd, 1) := by decide +kernel
theorem dL_law_1374 : decode cL_law 1374 = .ok (.iaload, 1) := by decide +kernel
theorem dL_law_1375 : decode cL_law 1375 = .ok (.aload_n 0, 1) := by decide +kernel
theorem dL_law_1376 : decode cL_law 1376 = .ok (.iload_n 3, 1) := by decide +kernel
theorem dL_law_1377 : decode cL_law 1377 = .ok (.iconst 2, 1) := by decide +kernel
theorem dL_law_1378 : decode cL_law 1378 = .ok (.iadd, 1) := by decide +kernel
theorem dL_law_1379 : decode cL_law 1379 = .ok (.iaload, 1) := by decide +kernel
theorem dL_law_1380 : decode cL_law 1380 = .ok (.aload_n 0, 1) := by decide +kernel
theorem dL_law_1381 : decode cL_law 1381 = .ok (.iload_n 3, 1) := by decide +kernel
theorem dL_law_1382 : decode cL_law 1382 = .ok (.iconst 3, 1) := by decide +kernel
theorem dL_law_1383 : decode cL_law 1383 = .ok (.iadd, 1) := by decide +kernel
theorem dL_law_1384 : decode cL_law 1384 = .ok (.iaload, 1) := by decide +kernel
theorem dL_law_1385 : decode cL_law 1385 = .ok (.aload_n 0, 1) := by decide +kernel
theorem dL_law_1386 : decode cL_law 1386 = .ok (.iload_n 3, 1) := by decide +kernel
theorem dL_law_1387 : decode cL_law 1387 = .ok (.iconst 4, 1) := by decide +kernel
theorem dL_law_1388 : decode cL_law 1388 = .ok (.iadd, 1) := by decide +kernel
theorem dL_law_1389 : decode cL_law 1389 = .ok (.iaload, 1) := by decide +kernel
theorem dL_law_1390 : decode cL_law 1390 = .ok (.aload_n 0, 1) := by decide +kernel
theorem dL_law_1391 : decode cL_law 1391 = .ok (.iload_n 3, 1) := by decide +kernel
theorem dL_law_1392 : decode cL_law 1392 = .ok (.iconst 5, 1) := by decide +kernel
theorem dL_law_1393 : decode cL_law 1393 = .ok (.iadd, 1) := by decide +kernel
theorem dL_law_1394 : decode cL_law 1394 = .ok (.iaload, 1) := by decide +kernel
theorem dL_law_1395 : decode cL_law 1395 = .ok (.aload_n 0, 1) := by decide +kernel
theorem dL_law_1396 : decode cL_law 1396 = .ok (.iload_n 3, 1) := by decide +kernel
theorem dL_law_1397 : decode cL_law 1397 = .ok (.bipush 6, 2) := by decide +kernel
theorem dL_law_1399 : decode cL_law 1399 = .ok (.iadd, 1) := by decide +kernel
theorem dL_law_1400 : decode cL_law 1400 = .ok (.iaload, 1) := by decide +kernel
theorem dL_law_1401 : decode cL_law 1401 = .ok (.invokevirtual 135, 3) := by decide +kernel
theorem dL_law_1404 : decode cL_law 1404 = .ok (.aload_n 2, 1) := by decide +kernel
theorem dL_law_1405 : decode cL_law 1405 = .ok (.aload_n 0, 1) := by decide +kernel
theorem dL_law_1406 : decode cL_law 1406 = .ok (.iload_n 3, 1) := by decide +kernel
theorem dL_law_1407 : decode cL_law 1407 = .ok (.iconst 1, 1) := by decide +kernel
theorem dL_law_1408 : decode cL_law 1408 = .ok (.iadd, 1) := by decide +kernel
theorem dL_law_1409 : decode cL_law 1409 = .ok (.iaload, 1) := by decide +kernel
theorem dL_law_1410 : decode cL_law 1410 = .ok (.aload_n 0, 1) := by decide +kernel
theorem dL_law_1411 : decode cL_law 1411 = .ok (.iload_n 3, 1) := by decide +kernel
theorem dL_law_1412 : decode cL_law 1412 = .ok (.iconst 2, 1) := by decide +kernel
theorem dL_law_1413 : decode cL_law 1413 = .ok (.iadd, 1) := by decide +kernel
theorem dL_law_1414 : decode cL_law 1414 = .ok (.iaload, 1) := by decide +kernel
theorem dL_law_1415 : decode cL_law 1415 = .ok (.aload_n 0, 1) := by decide +kernel
theorem dL_law_1416 : decode cL_law 1416 = .ok (.iload_n 3, 1) := by decide +kernel
theorem dL_law_1417 : decode cL_law 1417 = .ok (.iconst 3, 1) := by decide +kernel
theorem dL_law_1418 : decode cL_law 1418 = .ok (.iadd, 1) := by decide +kernel
theorem dL_law_1419 : decode cL_law 1419 = .ok (.iaload, 1) := by decide +kernel
theorem dL_law_1420 : decode cL_law 1420 = .ok (.aload_n 0, 1) := by decide +kernel
theorem dL_law_1421 : decode cL_law 1421 = .ok (.iload_n 3, 1) := by decide +kernel
theorem dL_law_1422 : decode cL_law 1422 = .ok (.iconst 4, 1) := by decide +kernel
theorem dL_law_1423 : decode cL_law 1423 = .ok (.iadd, 1) := by decide +kernel
theorem dL_law_1424 : decode cL_law 1424 = .ok (.iaload, 1) := by decide +kernel
theorem dL_law_1425 : decode cL_law 1425 = .ok (.aload_n 0, 1) := by decide +kernel
theorem dL_law_1426 : decode cL_law 1426 = .ok (.iload_n 3, 1) := by decide +kernel
theorem dL_law_1427 : decode cL_law 1427 = .ok (.iconst 5, 1) := by decide +kernel
theorem dL_law_1428 : decode cL_law 1428 = .ok (.iadd, 1) := by decide +kernel
theorem dL_law_1429 : decode cL_law 1429 = .ok (.iaload, 1) := by decide +kernel
theorem dL_law_1430 : decode cL_law 1430 = .ok (.aload_n 0, 1) := by decide +kernel
theorem dL_law_1431 : decode cL_law 1431 = .ok (.iload_n 3, 1) := by decide +kernel
theorem dL_law_1432 : decode cL_law 1432 = .ok (.bipush 6, 2) := by decide +kernel
theorem dL_law_1434 : decode cL_law 1434 = .ok (.iadd, 1) := by decide +kernel
theorem dL_law_1435 : decode cL_law 1435 = .ok (.iaload, 1) := by decide +kernel
theorem dL_law_1436 : decode cL_law 1436 = .ok (.invokevirtual 139, 3) := by decide +kernel
theorem dL_law_1439 : decode cL_law 1439 = .ok (.if_icmp .eq 74, 3) := by decide +kernel
theorem dL_law_1442 : decode cL_law 1442 = .ok (.iconst 0, 1) := by decide +kernel
theorem dL_law_1443 : decode cL_law 1443 = .ok (.ireturn, 1) := by decide +kernel
theorem dL_law_1444 : decode cL_law 1444 = .ok (.aload_n 1, 1) := by decide +kernel
theorem dL_law_1445 : decode cL_law 1445 = .ok (.aload_n 0, 1) := by decide +kernel
theorem dL_law_1446 : decode cL_law 1446 = .ok (.iload_n 3, 1) := by decide +kernel
theorem dL_law_1447 : decode cL_law 1447 = .ok (.iconst 1, 1) := by decide +kernel
theorem dL_law_1448 : decode cL_law 1448 = .ok (.iadd, 1) := by decide +kernel
theorem dL_law_1449 : decode cL_law 1449 = .ok (.iaload, 1) := by decide +kernel
theorem dL_law_1450 : decode cL_law 1450 = .ok (.invokevirtual 140, 3) := by decide +kernel
theorem dL_law_1453 : decode cL_law 1453 = .ok (.aload_n 2, 1) := by decide +kernel
theorem dL_law_1454 : decode cL_law 1454 = .ok (.aload_n 0, 1) := by decide +kernel
theorem dL_law_1455 : decode cL_law 1455 = .ok (.iload_n 3, 1) := by decide +kernel
theorem dL_law_1456 : decode cL_law 1456 = .ok (.iconst 1, 1) := by decide +kernel
theorem dL_law_1457 : decode cL_law 1457 = .ok (.iadd, 1) := by decide +kernel
theorem dL_law_1458 : decode cL_law 1458 = .ok (.iaload, 1) := by decide +kernel
theorem dL_law_1459 : decode cL_law 1459 = .ok (.invokevirtual 143, 3) := by decide +kernel
theorem dL_law_1462 : decode cL_law 1462 = .ok (.if_icmp .eq 51, 3) := by decide +kernel
theorem dL_law_1465 : decode cL_law 1465 = .ok (.iconst 0, 1) := by decide +kernel
theorem dL_law_1466 : decode cL_law 1466 = .ok (.ireturn, 1) := by decide +kernel
theorem dL_law_1467 : decode cL_law 1467 = .ok (.aload_n 1, 1) := by decide +kernel
theorem dL_law_1468 : decode cL_law 1468 = .ok (.aload_n 0, 1) := by decide +kernel
theorem dL_law_1469 : decode cL_law 1469 = .ok (.iload_n 3, 1) := by decide +kernel
theorem dL_law_1470 : decode cL_law 1470 = .ok (.iconst 1, 1) := by decide +kernel
theorem dL_law_1471 : decode cL_law 1471 = .ok (.iadd, 1) := by decide +kernel
theorem dL_law_1472 : decode cL_law 1472 = .ok (.iaload, 1) := by decide +kernel
theorem dL_law_1473 : decode cL_law 1473 = .ok (.invokevirtual 144, 3) := by decide +kernel
theorem dL_law_1476 : decode cL_law 1476 = .ok (.aload_n 2, 1) := by decide +kernel
theorem dL_law_1477 : decode cL_law 1477 = .ok (.aload_n 0, 1) := by decide +kernel
theorem dL_law_1478 : decode cL_law 1478 = .ok (.iload_n 3, 1) := by decide +kernel
theorem dL_law_1479 : decode cL_law 1479 = .ok (.iconst 1, 1) := by decide +kernel
theorem dL_law_1480 : decode cL_law 1480 = .ok (.iadd, 1) := by decide +kernel
theorem dL_law_1481 : decode cL_law 1481 = .ok (.iaload, 1) := by decide +kernel
theorem dL_law_1482 : decode cL_law 1482 = .ok (.invokevirtual 148, 3) := by decide +kernel
theorem dL_law_1485 : decode cL_law 1485 = .ok (.if_icmp .eq 28, 3) := by decide +kernel
theorem dL_law_1488 : decode cL_law 1488 = .ok (.iconst 0, 1) := by decide +kernel
theorem dL_law_1489 : decode cL_law 1489 = .ok (.ireturn, 1) := by decide +kernel
theorem dL_law_1490 : decode cL_law 1490 = .ok (.aload_n 1, 1) := by decide +kernel
theorem dL_law_1491 : decode cL_law 1491 = .ok (.aload_n 0, 1) := by decide +kernel
theorem dL_law_1492 : decode cL_law 1492 = .ok (.iload_n 3, 1) := by decide +kernel
theorem dL_law_1493 : decode cL_law 1493 = .ok (.iconst 1, 1) := by decide +kernel
theorem dL_law_1494 : decode cL_law 1494 = .ok (.iadd, 1) := by decide +kernel
theorem dL_law_1495 : decode cL_law 1495 = .ok (.iaload, 1) := by decide +kernel
theorem dL_law_1496 : decode cL_law 1496 = .ok (.invokevirtual 149, 3) := by decide +kernel
theorem dL_law_1499 : decode cL_law 1499 = .ok (.aload_n 2, 1) := by decide +kernel
theorem dL_law_1500 : decode cL_law 1500 = .ok (.aload_n 0, 1) := by decide +kernel
theorem dL_law_1501 : decode cL_law 1501 = .ok (.iload_n 3, 1) := by decide +kernel
theorem dL_law_1502 : decode cL_law 1502 = .ok (.iconst 1, 1) := by decide +kernel
theorem dL_law_1503 : decode cL_law 1503 = .ok (.iadd, 1) := by decide +kernel
theorem dL_law_1504 : decode cL_law 1504 = .ok (.iaload, 1) := by decide +kernel
theorem dL_law_1505 : decode cL_law 1505 = .ok (.invokevirtual 152, 3) := by decide +kernel
theorem dL_law_1508 : decode cL_law 1508 = .ok (.if_icmp .eq 5, 3) := by decide +kernel
theorem dL_law_1511 : decode cL_law 1511 = .ok (.iconst 0, 1) := by decide +kernel
theorem dL_law_1512 : decode cL_law 1512 = .ok (.ireturn, 1) := by decide +kernel
theorem dL_law_1513 : decode cL_law 1513 = .ok (.iinc 3 7, 3) := by decide +kernel
theorem dL_law_1516 : decode cL_law 1516 = .ok (.goto (-1498), 3) := by decide +kernel
theorem dL_law_1519 : decode cL_law 1519 = .ok (.iconst 1, 1) := by decide +kernel
theorem dL_law_1520 : decode cL_law 1520 = .ok (.ireturn, 1) := by decide +kernel
set_option maxRecDepth 20000 in
theorem b_L_law_18 {k n : Nat} {x : Wx} {Z : Zt} {Q : Option Value → Wx → Zt → Prop} {a0 : Nat} {a1 : Nat} {a2 : Nat} {v3 : Int} {L : Nat} (s_a0 : x.1 a0 = some (200, L)) (l_L : L ≤ 2147483647)
    (h : Rg v3 ∧ Rg ((L : Int) - 7) ∧ ((((L : Int) - 7 < v3) → (Q (some (i_ 1)) x Z)) ∧ ((v3 ≤ (L : Int) - 7) → (0 ≤ v3 ∧ v3 < L ∧ (Rg ((Z a0 v3.toNat) % 32) ∧ (((Z a0 v3.toNat) % 32 = 0 → (V mL_law k n 176 [some (r_ a0), some (r_ a1), some (r_ a2), some (i_ v3)] [] x Z Q)) ∧ ((Z a0 v3.toNat) % 32 = 1 → (V mL_law k n 239 [some (r_ a0), some (r_ a1), some (r_ a2), some (i_ v3)] [] x Z Q)) ∧ ((Z a0 v3.toNat) % 32 = 2 → (V mL_law k n 262 [some (r_ a0), some (r_ a1), some (r_ a2), some (i_ v3)] [] x Z Q)) ∧ ((Z a0 v3.toNat) % 32 = 3 → (V mL_law k n 295 [some (r_ a0), some (r_ a1), some (r_ a2), some (i_ v3)] [] x Z Q)) ∧ ((Z a0 v3.toNat) % 32 = 4 → (V mL_law k n 318 [some (r_ a0), some (r_ a1), some (r_ a2), some (i_ v3)] [] x Z Q)) ∧ ((Z a0 v3.toNat) % 32 = 5 → (V mL_law k n 351 [some (r_ a0), some (r_ a1), some (r_ a2), some (i_ v3)] [] x Z Q)) ∧ ((Z a0 v3.toNat) % 32 = 6 → (V mL_law k n 384 [some (r_ a0), some (r_ a1), some (r_ a2), some (i_ v3)] [] x Z Q)) ∧ ((Z a0 v3.toNat) % 32 = 7 → (V mL_law k n 443 [some (r_ a0), some (r_ a1), some (r_ a2), some (i_ v3)] [] x Z Q)) ∧ ((Z a0 v3.toNat) % 32 = 8 → (V mL_law k n 486 [some (r_ a0), some (r_ a1), some (r_ a2), some (i_ v3)] [] x Z Q)) ∧ ((Z a0 v3.toNat) % 32 = 9 → (V mL_law k n 546 [some (r_ a0), some (r_ a1), some (r_ a2), some (i_ v3)] [] x Z Q)) ∧ ((Z a0 v3.toNat) % 32 = 10 → (V mL_law k n 579 [some (r_ a0), some (r_ a1), some (r_ a2), some (i_ v3)] [] x Z Q)) ∧ ((Z a0 v3.toNat) % 32 = 11 → (V mL_law k n 612 [some (r_ a0), some (r_ a1), some (r_ a2), some (i_ v3)] [] x Z Q)) ∧ ((Z a0 v3.toNat) % 32 = 12 → (V mL_law k n 655 [some (r_ a0), some (r_ a1), some (r_ a2), some (i_ v3)] [] x Z Q)) ∧ ((Z a0 v3.toNat) % 32 = 13 → (V mL_law k n 698 [some (r_ a0), some (r_ a1), some (r_ a2), some (i_ v3)] [] x Z Q)) ∧ ((Z a0 v3.toNat) % 32 = 14 → (V mL_law k n 741 [some (r_ a0), some (r_ a1), some (r_ a2), some (i_ v3)] [] x Z Q)) ∧ ((Z a0 v3.toNat) % 32 = 15 → (V mL_law k n 820 [some (r_ a0), some (r_ a1), some (r_ a2), some (i_ v3)] [] x Z Q)) ∧ ((Z a0 v3.toNat) % 32 = 16 → (V mL_law k n 863 [some (r_ a0), some (r_ a1), some (r_ a2), some (i_ v3)] [] x Z Q)) ∧ ((Z a0 v3.toNat) % 32 = 17 → (V mL_law k n 906 [some (r_ a0), some (r_ a1), some (r_ a2), some (i_ v3)] [] x Z Q)) ∧ ((Z a0 v3.toNat) % 32 = 18 → (V mL_law k n 959 [some (r_ a0), some (r_ a1), some (r_ a2), some (i_ v3)] [] x Z Q)) ∧ ((Z a0 v3.toNat) % 32 = 19 → (V mL_law k n 1012 [some (r_ a0), some (r_ a1), some (r_ a2), some (i_ v3)] [] x Z Q)) ∧ ((Z a0 v3.toNat) % 32 = 20 → (V mL_law k n 1045 [some (r_ a0), some (r_ a1), some (r_ a2), some (i_ v3)] [] x Z Q)) ∧ ((Z a0 v3.toNat) % 32 = 21 → (V mL_law k n 1088 [some (r_ a0), some (r_ a1), some (r_ a2), some (i_ v3)] [] x Z Q)) ∧ ((Z a0 v3.toNat) % 32 = 22 → (V mL_law k n 1131 [some (r_ a0), some (r_ a1), some (r_ a2), some (i_ v3)] [] x Z Q)) ∧ ((Z a0 v3.toNat) % 32 = 23 → (V mL_law k n 1164 [some (r_ a0), some (r_ a1), some (r_ a2), some (i_ v3)] [] x Z Q)) ∧ ((Z a0 v3.toNat) % 32 = 24 → (V mL_law k n 1207 [some (r_ a0), some (r_ a1), some (r_ a2), some (i_ v3)] [] x Z Q)) ∧ ((Z a0 v3.toNat) % 32 = 25 → (V mL_law k n 1240 [some (r_ a0), some (r_ a1), some (r_ a2), some (i_ v3)] [] x Z Q)) ∧ ((Z a0 v3.toNat) % 32 = 26 → (V mL_law k n 1273 [some (r_ a0), some (r_ a1), some (r_ a2), some (i_ v3)] [] x Z Q)) ∧ ((Z a0 v3.toNat) % 32 = 27 → (V mL_law k n 1316 [some (r_ a0), some (r_ a1), some (r_ a2), some (i_ v3)] [] x Z Q)) ∧ ((Z a0 v3.toNat) % 32 = 28 → (V mL_law k n 1369 [some (r_ a0), some (r_ a1), some (r_ a2), some (i_ v3)] [] x Z Q)) ∧ ((Z a0 v3.toNat) % 32 = 29 → (V mL_law k n 1444 [some (r_ a0), some (r_ a1), some (r_ a2), some (i_ v3)] [] x Z Q)) ∧ ((Z a0 v3.toNat) % 32 = 30 → (V mL_law k n 1467 [some (r_ a0), some (r_ a1), some (r_ a2), some (i_ v3)] [] x Z Q)) ∧ ((Z a0 v3.toNat) % 32 = 31 → (V mL_law k n 1490 [some (r_ a0), some (r_ a1), some (r_ a2), some (i_ v3)] [] x Z Q)) ∧ (((Z a0 v3.toNat) % 32 < 0 ∨ 31 < (Z a0 v3.toNat) % 32) → (V mL_law k n 1513 [some (r_ a0), some (r_ a1), some (r_ a2), some (i_ v3)] [] x Z Q)))))))) :
    V mL_law k n 18 [some (r_ a0), some (r_ a1), some (r_ a2), some (i_ v3)] [] x Z Q :=
  V_iload_n dL_law_18 rfl (V_aload_n dL_law_19 rfl (V_alen (t := 200) s_a0 (by decide) l_L dL_law_20 (V_bipush dL_law_21 rfl (V_isub dL_law_23 (V_icmp_gt (tgt := 1519) dL_law_24 rfl h.1 h.2.1 (fun c1 => V_iconst dL_law_1519 (V_iret (ty := .boolean) dL_law_1520 rfl rfl (h.2.2.1 c1))) (fun c1 => V_aload_n dL_law_27 rfl (V_iload_n dL_law_28 rfl (V_iald (t := 200) s_a0 (by decide) rfl (h.2.2.2 c1).1 (h.2.2.2 c1).2.1 l_L dL_law_29 (V_bipush dL_law_30 rfl (V_iand dL_law_32 (and_31 _) ((by
    rcases sw0_32 ((Z a0 v3.toNat) % 32) with c2 | c3 | c4 | c5 | c6 | c7 | c8 | c9 | c10 | c11 | c12 | c13 | c14 | c15 | c16 | c17 | c18 | c19 | c20 | c21 | c22 | c23 | c24 | c25 | c26 | c27 | c28 | c29 | c30 | c31 | c32 | c33 | c34
    · exact V_tableIn (tgt := 176) dL_law_33 (h.2.2.2 c1).2.2.1 (by rw [c2]; decide) (by rw [c2]; decide) (by rw [c2]; rfl) rfl (V_msk [true, true, true, true] rfl ((h.2.2.2 c1).2.2.2.1 c2))
    · exact V_tableIn (tgt := 239) dL_law_33 (h.2.2.2 c1).2.2.1 (by rw [c3]; decide) (by rw [c3]; decide) (by rw [c3]; rfl) rfl (V_msk [true, true, true, true] rfl ((h.2.2.2 c1).2.2.2.2.1 c3))
    · exact V_tableIn (tgt := 262) dL_law_33 (h.2.2.2 c1).2.2.1 (by rw [c4]; decide) (by rw [c4]; decide) (by rw [c4]; rfl) rfl (V_msk [true, true, true, true] rfl ((h.2.2.2 c1).2.2.2.2.2.1 c4))
    · exact V_tableIn (tgt := 295) dL_law_33 (h.2.2.2 c1).2.2.1 (by rw [c5]; decide) (by rw [c5]; decide) (by rw [c5]; rfl) rfl (V_msk [true, true, true, true] rfl ((h.2.2.2 c1).2.2.2.2.2.2.1 c5))
    · exact V_tableIn (tgt := 318) dL_law_33 (h.2.2.2 c1).2.2.1 (by rw [c6]; decide) (by rw [c6]; decide) (by rw [c6]; rfl) rfl (V_msk [true, true, true, true] rfl ((h.2.2.2 c1).2.2.2.2.2.2.2.1 c6))
    · exact V_tableIn (tgt := 351) dL_law_33 (h.2.2.2 c1).2.2.1 (by rw [c7]; decide) (by rw [c7]; decide) (by rw [c7]; rfl) rfl (V_msk [true, true, true, true] rfl ((h.2.2.2 c1).2.2.2.2.2.2.2.2.1 c7))
    · exact V_tableIn (tgt := 384) dL_law_33 (h.2.2.2 c1).2.2.1 (by rw [c8]; decide) (by rw [c8]; decide) (by rw [c8]; rfl) rfl (V_msk [true, true, true, true] rfl ((h.2.2.2 c1).2.2.2.2.2.2.2.2.2.1 c8))
    · exact V_tableIn (tgt := 443) dL_law_33 (h.2.2.2 c1).2.2.1 (by rw [c9]; decide) (by rw [c9]; decide) (by rw [c9]; rfl) rfl (V_msk [true, true, true, true] rfl ((h.2.2.2 c1).2.2.2.2.2.2.2.2.2.2.1 c9))
    · exact V_tableIn (tgt := 486) dL_law_33 (h.2.2.2 c1).2.2.1 (by rw [c10]; decide) (by rw [c10]; decide) (by rw [c10]; rfl) rfl (V_msk [true, true, true, true] rfl ((h.2.2.2 c1).2.2.2.2.2.2.2.2.2.2.2.1 c10))
    · exact V_tableIn (tgt := 546) dL_law_33 (h.2.2.2 c1).2.2.1 (by rw [c11]; decide) (by rw [c11]; decide) (by rw [c11]; rfl) rfl (V_msk [true, true, true, true] rfl ((h.2.2.2 c1).2.2.2.2.2.2.2.2.2.2.2.2.1 c11))
    · exact V_tableIn (tgt := 579) dL_law_33 (h.2.2.2 c1).2.2.1 (by rw [c12]; decide) (by rw [c12]; decide) (by rw [c12]; rfl) rfl (V_msk [true, true, true, true] rfl ((h.2.2.2 c1).2.2.2.2.2.2.2.2.2.2.2.2.2.1 c12))
    · exact V_tableIn (tgt := 612) dL_law_33 (h.2.2.2 c1).2.2.1 (by rw [c13]; decide) (by rw [c13]; decide) (by rw [c13]; rfl) rfl (V_msk [true, true, true, true] rfl ((h.2.2.2 c1).2.2.2.2.2.2.2.2.2.2.2.2.2.2.1 c13))
    · exact V_tableIn (tgt := 655) dL_law_33 (h.2.2.2 c1).2.2.1 (by rw [c14]; decide) (by rw [c14]; decide) (by rw [c14]; rfl) rfl (V_msk [true, true, true, true] rfl ((h.2.2.2 c1).2.2.2.2.2.2.2.2.2.2.2.2.2.2.2.1 c14))
    · exact V_tableIn (tgt := 698) dL_law_33 (h.2.2.2 c1).2.2.1 (by rw [c15]; decide) (by rw [c15]; decide) (by rw [c15]; rfl) rfl (V_msk [true, true, true, true] rfl ((h.2.2.2 c1).2.2.2.2.2.2.2.2.2.2.2.2.2.2.2.2.1 c15))
    · exact V_tableIn (tgt := 741) dL_law_33 (h.2.2.2 c1).2.2.1 (by rw [c16]; decide) (by rw [c16]; decide) (by rw [c16]; rfl) rfl (V_msk [true, true, true, true] rfl ((h.2.2.2 c1).2.2.2.2.2.2.2.2.2.2.2.2.2.2.2.2.2.1 c16))
    · exact V_tableIn (tgt := 820) dL_law_33 (h.2.2.2 c1).2.2.1 (by rw [c17]; decide) (by rw [c17]; decide) (by rw [c17]; rfl) rfl (V_msk [true, true, true, true] rfl ((h.2.2.2 c1).2.2.2.2.2.2.2.2.2.2.2.2.2.2.2.2.2.2.1 c17))
    · exact V_tableIn (tgt := 863) dL_law_33 (h.2.2.2 c1).2.2.1 (by rw [c18]; decide) (by rw [c18]; decide) (by rw [c18]; rfl) rfl (V_msk [true, true, true, true] rfl ((h.2.2.2 c1).2.2.2.2.2.2.2.2.2.2.2.2.2.2.2.2.2.2.2.1 c18))
    · exact V_tableIn (tgt := 906) dL_law_33 (h.2.2.2 c1).2.2.1 (by rw [c19]; decide) (by rw [c19]; decide) (by rw [c19]; rfl) rfl (V_msk [true, true, true, true] rfl ((h.2.2.2 c1).2.2.2.2.2.2.2.2.2.2.2.2.2.2.2.2.2.2.2.2.1 c19))
    · exact V_tableIn (tgt := 959) dL_law_33 (h.2.2.2 c1).2.2.1 (by rw [c20]; decide) (by rw [c20]; decide) (by rw [c20]; rfl) rfl (V_msk [true, true, true, true] rfl ((h.2.2.2 c1).2.2.2.2.2.2.2.2.2.2.2.2.2.2.2.2.2.2.2.2.2.1 c20))
    · exact V_tableIn (tgt := 1012) dL_law_33 (h.2.2.2 c1).2.2.1 (by rw [c21]; decide) (by rw [c21]; decide) (by rw [c21]; rfl) rfl (V_msk [true, true, true, true] rfl ((h.2.2.2 c1).2.2.2.2.2.2.2.2.2.2.2.2.2.2.2.2.2.2.2.2.2.2.1 c21))
    · exact V_tableIn (tgt := 1045) dL_law_33 (h.2.2.2 c1).2.2.1 (by rw [c22]; decide) (by rw [c22]; decide) (by rw [c22]; rfl) rfl (V_msk [true, true, true, true] rfl ((h.2.2.2 c1).2.2.2.2.2.2.2.2.2.2.2.2.2.2.2.2.2.2.2.2.2.2.2.1 c22))
    · exact V_tableIn (tgt := 1088) dL_law_33 (h.2.2.2 c1).2.2.1 (by rw [c23]; decide) (by rw [c23]; decide) (by rw [c23]; rfl) rfl (V_msk [true, true, true, true] rfl ((h.2.2.2 c1).2.2.2.2.2.2.2.2.2.2.2.2.2.2.2.2.2.2.2.2.2.2.2.2.1 c23))
    · exact V_tableIn (tgt := 1131) dL_law_33 (h.2.2.2 c1).2.2.1 (by rw [c24]; decide) (by rw [c24]; decide) (by rw [c24]; rfl) rfl (V_msk [true, true, true, true] rfl ((h.2.2.2 c1).2.2.2.2.2.2.2.2.2.2.2.2.2.2.2.2.2.2.2.2.2.2.2.2.2.1 c24))
    · exact V_tableIn (tgt := 1164) dL_law_33 (h.2.2.2 c1).2.2.1 (by rw [c25]; decide) (by rw [c25]; decide) (by rw [c25]; rfl) rfl (V_msk [true, true, true, true] rfl ((h.2.2.2 c1).2.2.2.2.2.2.2.2.2.2.2.2.2.2.2.2.2.2.2.2.2.2.2.2.2.2.1 c25))
    · exact V_tableIn (tgt := 1207) dL_law_33 (h.2.2.2 c1).2.2.1 (by rw [c26]; decide) (by rw [c26]; decide) (by rw [c26]; rfl) rfl (V_msk [true, true, true, true] rfl ((h.2.2.2 c1).2.2.2.2.2.2.2.2.2.2.2.2.2.2.2.2.2.2.2.2.2.2.2.2.2.2.2.1 c26))
    · exact V_tableIn (tgt := 1240) dL_law_33 (h.2.2.2 c1).2.2.1 (by rw [c27]; decide) (by rw [c27]; decide) (by rw [c27]; rfl) rfl (V_msk [true, true, true, true] rfl ((h.2.2.2 c1).2.2.2.2.2.2.2.2.2.2.2.2.2.2.2.2.2.2.2.2.2.2.2.2.2.2.2.2.1 c27))
    · exact V_tableIn (tgt := 1273) dL_law_33 (h.2.2.2 c1).2.2.1 (by rw [c28]; decide) (by rw [c28]; decide) (by rw [c28]; rfl) rfl (V_msk [true, true, true, true] rfl ((h.2.2.2 c1).2.2.2.2.2.2.2.2.2.2.2.2.2.2.2.2.2.2.2.2.2.2.2.2.2.2.2.2.2.1 c28))
    · exact V_tableIn (tgt := 1316) dL_law_33 (h.2.2.2 c1).2.2.1 (by rw [c29]; decide) (by rw [c29]; decide) (by rw [c29]; rfl) rfl (V_msk [true, true, true, true] rfl ((h.2.2.2 c1).2.2.2.2.2.2.2.2.2.2.2.2.2.2.2.2.2.2.2.2.2.2.2.2.2.2.2.2.2.2.1 c29))
    · exact V_tableIn (tgt := 1369) dL_law_33 (h.2.2.2 c1).2.2.1 (by rw [c30]; decide) (by rw [c30]; decide) (by rw [c30]; rfl) rfl (V_msk [true, true, true, true] rfl ((h.2.2.2 c1).2.2.2.2.2.2.2.2.2.2.2.2.2.2.2.2.2.2.2.2.2.2.2.2.2.2.2.2.2.2.2.1 c30))
    · exact V_tableIn (tgt := 1444) dL_law_33 (h.2.2.2 c1).2.2.1 (by rw [c31]; decide) (by rw [c31]; decide) (by rw [c31]; rfl) rfl (V_msk [true, true, true, true] rfl ((h.2.2.2 c1).2.2.2.2.2.2.2.2.2.2.2.2.2.2.2.2.2.2.2.2.2.2.2.2.2.2.2.2.2.2.2.2.1 c31))
    · exact V_tableIn (tgt := 1467) dL_law_33 (h.2.2.2 c1).2.2.1 (by rw [c32]; decide) (by rw [c32]; decide) (by rw [c32]; rfl) rfl (V_msk [true, true, true, true] rfl ((h.2.2.2 c1).2.2.2.2.2.2.2.2.2.2.2.2.2.2.2.2.2.2.2.2.2.2.2.2.2.2.2.2.2.2.2.2.2.1 c32))
    · exact V_tableIn (tgt := 1490) dL_law_33 (h.2.2.2 c1).2.2.1 (by rw [c33]; decide) (by rw [c33]; decide) (by rw [c33]; rfl) rfl (V_msk [true, true, true, true] rfl ((h.2.2.2 c1).2.2.2.2.2.2.2.2.2.2.2.2.2.2.2.2.2.2.2.2.2.2.2.2.2.2.2.2.2.2.2.2.2.2.1 c33))
    · exact V_tableOut (tgt := 1513) dL_law_33 (h.2.2.2 c1).2.2.1 c34 rfl (V_msk [true, true, true, true] rfl ((h.2.2.2 c1).2.2.2.2.2.2.2.2.2.2.2.2.2.2.2.2.2.2.2.2.2.2.2.2.2.2.2.2.2.2.2.2.2.2.2 c34))))))))))))))
set_option maxRecDepth 20000 in
theorem b_L_law_176 {k n : Nat} {x : Wx} {Z : Zt} {Q : Option Value → Wx → Zt → Prop} {a0 : Nat} {a1 : Nat} {a2 : Nat} {v3 : Int} {L : Nat} (o_a1 : Is11 x a1) (s_a0 : x.1 a0 = some (200, L)) (l_L : L ≤ 2147483647)
    (h : 0 ≤ v3 + 1 ∧ v3 + 1 < L ∧ (0 ≤ v3 + 2 ∧ v3 + 2 < L ∧ (0 ≤ v3 + 3 ∧ v3 + 3 < L ∧ (0 ≤ v3 + 4 ∧ v3 + 4 < L ∧ (0 ≤ v3 + 5 ∧ v3 + 5 < L ∧ (V mX11_feed 0 0 0 [some (r_ a1), some (i_ (Z a0 (v3 + 1).toNat)), some (i_ (Z a0 (v3 + 2).toNat)), some (i_ (Z a0 (v3 + 3).toNat)), some (i_ (Z a0 (v3 + 4).toNat)), some (i_ (Z a0 (v3 + 5).toNat))] [] x Z (fun v9 x9 Z9 => V mL_law k n 205 [some (r_ a0), some (r_ a1), some (r_ a2), some (i_ v3)] (v9.toList ++ []) x9 Z9 Q))))))) :
    V mL_law k n 176 [some (r_ a0), some (r_ a1), some (r_ a2), some (i_ v3)] [] x Z Q :=
  V_aload_n dL_law_176 rfl (V_aload_n dL_law_177 rfl (V_iload_n dL_law_178 rfl (V_iconst dL_law_179 (V_iadd dL_law_180 (V_iald (t := 200) s_a0 (by decide) rfl h.1 h.2.1 l_L dL_law_181 (V_aload_n dL_law_182 rfl (V_iload_n dL_law_183 rfl (V_iconst dL_law_184 (V_iadd dL_law_185 (V_iald (t := 200) s_a0 (by decide) rfl h.2.2.1 h.2.2.2.1 l_L dL_law_186 (V_aload_n dL_law_187 rfl (V_iload_n dL_law_188 rfl (V_iconst dL_law_189 (V_iadd dL_law_190 (V_iald (t := 200) s_a0 (by decide) rfl h.2.2.2.2.1 h.2.2.2.2.2.1 l_L dL_law_191 (V_aload_n dL_law_192 rfl (V_iload_n dL_law_193 rfl (V_iconst dL_law_194 (V_iadd dL_law_195 (V_iald (t := 200) s_a0 (by decide) rfl h.2.2.2.2.2.2.1 h.2.2.2.2.2.2.2.1 l_L dL_law_196 (V_aload_n dL_law_197 rfl (V_iload_n dL_law_198 rfl (V_iconst dL_law_199 (V_iadd dL_law_200 (V_iald (t := 200) s_a0 (by decide) rfl h.2.2.2.2.2.2.2.2.1 h.2.2.2.2.2.2.2.2.2.1 l_L dL_law_201 (V_callV (k' := 0) (n' := 0) (t := 11) (q := (RX11, TX11, 17)) [i_ (Z a0 (v3 + 1).toNat), i_ (Z a0 (v3 + 2).toNat), i_ (Z a0 (v3 + 3).toNat), i_ (Z a0 (v3 + 4).toNat), i_ (Z a0 (v3 + 5).toNat)] [] okX11_feed o_a1.1 rfl rfl lm_L_13 liX11_feed lqX11_feed (Nat.le_of_ble_eq_true rfl) (Nat.le_of_ble_eq_true rfl) (Nat.le_of_ble_eq_true rfl) (cat_of rfl) (Nat.le_of_ble_eq_true rfl) (Nat.zero_le _) (Nat.zero_le _) rfl dL_law_202 h.2.2.2.2.2.2.2.2.2.2))))))))))))))))))))))))))
set_option maxRecDepth 20000 in
theorem b_L_law_205 {k n : Nat} {x : Wx} {Z : Zt} {Q : Option Value → Wx → Zt → Prop} {a0 : Nat} {a1 : Nat} {a2 : Nat} {v3 : Int} {t0 : Int} {L : Nat} (o_a2 : Is12 x a2) (s_a0 : x.1 a0 = some (200, L)) (l_L : L ≤ 2147483647)
    (h : 0 ≤ v3 + 1 ∧ v3 + 1 < L ∧ (0 ≤ v3 + 2 ∧ v3 + 2 < L ∧ (0 ≤ v3 + 3 ∧ v3 + 3 < L ∧ (0 ≤ v3 + 4 ∧ v3 + 4 < L ∧ (0 ≤ v3 + 5 ∧ v3 + 5 < L ∧ (V mX12_feed 0 0 0 [some (r_ a2), some (i_ (Z a0 (v3 + 1).toNat)), some (i_ (Z a0 (v3 + 2).toNat)), some (i_ (Z a0 (v3 + 3).toNat)), some (i_ (Z a0 (v3 + 4).toNat)), some (i_ (Z a0 (v3 + 5).toNat)), none, none] [] x Z (fun v9 x9 Z9 => V mL_law k n 234 [some (r_ a0), some (r_ a1), some (r_ a2), some (i_ v3)] (v9.toList ++ [i_ t0]) x9 Z9 Q))))))) :
    V mL_law k n 205 [some (r_ a0), some (r_ a1), some (r_ a2), some (i_ v3)] [i_ t0] x Z Q :=
  V_aload_n dL_law_205 rfl (V_aload_n dL_law_206 rfl (V_iload_n dL_law_207 rfl (V_iconst dL_law_208 (V_iadd dL_law_209 (V_iald (t := 200) s_a0 (by decide) rfl h.1 h.2.1 l_L dL_law_210 (V_aload_n dL_law_211 rfl (V_iload_n dL_law_212 rfl (V_iconst dL_law_213 (V_iadd dL_law_214 (V_iald (t := 200) s_a0 (by decide) rfl h.2.2.1 h.2.2.2.1 l_L dL_law_215 (V_aload_n dL_law_216 rfl (V_iload_n dL_law_217 rfl (V_iconst dL_law_218 (V_iadd dL_law_219 (V_iald (t := 200) s_a0 (by decide) rfl h.2.2.2.2.1 h.2.2.2.2.2.1 l_L dL_law_220 (V_aload_n dL_law_221 rfl (V_iload_n dL_law_222 rfl (V_iconst dL_law_223 (V_iadd dL_law_224 (V_iald (t := 200) s_a0 (by decide) rfl h.2.2.2.2.2.2.1 h.2.2.2.2.2.2.2.1 l_L dL_law_225 (V_aload_n dL_law_226 rfl (V_iload_n dL_law_227 rfl (V_iconst dL_law_228 (V_iadd dL_law_229 (V_iald (t := 200) s_a0 (by decide) rfl h.2.2.2.2.2.2.2.2.1 h.2.2.2.2.2.2.2.2.2.1 l_L dL_law_230 (V_callV (k' := 0) (n' := 0) (t := 12) (q := (RX12, TX12, 46)) [i_ (Z a0 (v3 + 1).toNat), i_ (Z a0 (v3 + 2).toNat), i_ (Z a0 (v3 + 3).toNat), i_ (Z a0 (v3 + 4).toNat), i_ (Z a0 (v3 + 5).toNat)] [i_ t0] okX12_feed o_a2.1 rfl rfl lm_L_17 liX12_feed lqX12_feed (Nat.le_of_ble_eq_true rfl) (Nat.le_of_ble_eq_true rfl) (Nat.le_of_ble_eq_true rfl) (cat_of rfl) (Nat.le_of_ble_eq_true rfl) (Nat.zero_le _) (Nat.zero_le _) rfl dL_law_231 h.2.2.2.2.2.2.2.2.2.2))))))))))))))))))))))))))
set_option maxRecDepth 20000 in
theorem b_L_law_234 {k n : Nat} {x : Wx} {Z : Zt} {Q : Option Value → Wx → Zt → Prop} {a0 : Nat} {a1 : Nat} {a2 : Nat} {v3 : Int} {t0 : Int} {t1 : Int} 
    (h : t0 = t1 ∧ (V mL_law k n 1513 [some (r_ a0), some (r_ a1), some (r_ a2), some (i_ v3)] [] x Z Q)) :
    V mL_law k n 234 [some (r_ a0), some (r_ a1), some (r_ a2), some (i_ v3)] [i_ t1, i_ t0] x Z Q :=
  V_icmpE (tgt := 1513) dL_law_234 rfl h.1 (V_msk [true, true, true, true] rfl h.2)
set_option maxRecDepth 20000 in
theorem b_L_law_239 {k n : Nat} {x : Wx} {Z : Zt} {Q : Option Value → Wx → Zt → Prop} {a0 : Nat} {a1 : Nat} {a2 : Nat} {v3 : Int} {L : Nat} (o_a1 : Is11 x a1) (s_a0 : x.1 a0 = some (200, L)) (l_L : L ≤ 2147483647)
    (h : 0 ≤ v3 + 1 ∧ v3 + 1 < L ∧ (V mX11_end 0 0 0 [some (r_ a1), some (i_ (Z a0 (v3 + 1).toNat))] [] x Z (fun v9 x9 Z9 => V mL_law k n 248 [some (r_ a0), some (r_ a1), some (r_ a2), some (i_ v3)] (v9.toList ++ []) x9 Z9 Q))) :
    V mL_law k n 239 [some (r_ a0), some (r_ a1), some (r_ a2), some (i_ v3)] [] x Z Q :=
  V_aload_n dL_law_239 rfl (V_aload_n dL_law_240 rfl (V_iload_n dL_law_241 rfl (V_iconst dL_law_242 (V_iadd dL_law_243 (V_iald (t := 200) s_a0 (by decide) rfl h.1 h.2.1 l_L dL_law_244 (V_callV (k' := 0) (n' := 0) (t := 11) (q := (RX11, TX11, 17)) [i_ (Z a0 (v3 + 1).toNat)] [] okX11_end o_a1.1 rfl rfl lm_L_18 liX11_end lqX11_end (Nat.le_of_ble_eq_true rfl) (Nat.le_of_ble_eq_true rfl) (Nat.le_of_ble_eq_true rfl) (cat_of rfl) (Nat.le_of_ble_eq_true rfl) (Nat.zero_le _) (Nat.zero_le _) rfl dL_law_245 h.2.2))))))
set_option maxRecDepth 20000 in
theorem b_L_law_248 {k n : Nat} {x : Wx} {Z : Zt} {Q : Option Value → Wx → Zt → Prop} {a0 : Nat} {a1 : Nat} {a2 : Nat} {v3 : Int} {t0 : Int} {L : Nat} (o_a2 : Is12 x a2) (s_a0 : x.1 a0 = some (200, L)) (l_L : L ≤ 2147483647)
    (h : 0 ≤ v3 + 1 ∧ v3 + 1 < L ∧ (V mX12_end 0 0 0 [some (r_ a2), some (i_ (Z a0 (v3 + 1).toNat))] [] x Z (fun v9 x9 Z9 => V mL_law k n 257 [some (r_ a0), some (r_ a1), some (r_ a2), some (i_ v3)] (v9.toList ++ [i_ t0]) x9 Z9 Q))) :
    V mL_law k n 248 [some (r_ a0), some (r_ a1), some (r_ a2), some (i_ v3)] [i_ t0] x Z Q :=
  V_aload_n dL_law_248 rfl (V_aload_n dL_law_249 rfl (V_iload_n dL_law_250 rfl (V_iconst dL_law_251 (V_iadd dL_law_252 (V_iald (t := 200) s_a0 (by decide) rfl h.1 h.2.1 l_L dL_law_253 (V_callV (k' := 0) (n' := 0) (t := 12) (q := (RX12, TX12, 46)) [i_ (Z a0 (v3 + 1).toNat)] [i_ t0] okX12_end o_a2.1 rfl rfl lm_L_22 liX12_end lqX12_end (Nat.le_of_ble_eq_true rfl) (Nat.le_of_ble_eq_true rfl) (Nat.le_of_ble_eq_true rfl) (cat_of rfl) (Nat.le_of_ble_eq_true rfl) (Nat.zero_le _) (Nat.zero_le _) rfl dL_law_254 h.2.2))))))
set_option maxRecDepth 20000 in
theorem b_L_law_257 {k n : Nat} {x : Wx} {Z : Zt} {Q : Option Value → Wx → Zt → Prop} {a0 : Nat} {a1 : Nat} {a2 : Nat} {v3 : Int} {t0 : Int} {t1 : Int} 
    (h : t0 = t1 ∧ (V mL_law k n 1513 [some (r_ a0), some (r_ a1), some (r_ a2), some (i_ v3)] [] x Z Q)) :
    V mL_law k n 257 [some (r_ a0), some (r_ a1), some (r_ a2), some (i_ v3)] [i_ t1, i_ t0] x Z Q :=
  V_icmpE (tgt := 1513) dL_law_257 rfl h.1 (V_msk [true, true, true, true] rfl h.2)
set_option maxRecDepth 20000 in
theorem b_L_law_262 {k n : Nat} {x : Wx} {Z : Zt} {Q : Option Value → Wx → Zt → Prop} {a0 : Nat} {a1 : Nat} {a2 : Nat} {v3 : Int} {L : Nat} (o_a1 : Is11 x a1) (s_a0 : x.1 a0 = some (200, L)) (l_L : L ≤ 2147483647)
    (h : 0 ≤ v3 + 1 ∧ v3 + 1 < L ∧ (0 ≤ v3 + 2 ∧ v3 + 2 < L ∧ (V mX11_text 0 0 0 [some (r_ a1), some (i_ (Z a0 (v3 + 1).toNat)), some (i_ (Z a0 (v3 + 2).toNat)), none, none, none] [] x Z (fun v9 x9 Z9 => V mL_law k n 276 [some (r_ a0), some (r_ a1), some (r_ a2), some (i_ v3)] (v9.toList ++ []) x9 Z9 Q)))) :
    V mL_law k n 262 [some (r_ a0), some (r_ a1), some (r_ a2), some (i_ v3)] [] x Z Q :=
  V_aload_n dL_law_262 rfl (V_aload_n dL_law_263 rfl (V_iload_n dL_law_264 rfl (V_iconst dL_law_265 (V_iadd dL_law_266 (V_iald (t := 200) s_a0 (by decide) rfl h.1 h.2.1 l_L dL_law_267 (V_aload_n dL_law_268 rfl (V_iload_n dL_law_269 rfl (V_iconst dL_law_270 (V_iadd dL_law_271 (V_iald (t := 200) s_a0 (by decide) rfl h.2.2.1 h.2.2.2.1 l_L dL_law_272 (V_callV (k' := 0) (n' := 0) (t := 11) (q := (RX11, TX11, 17)) [i_ (Z a0 (v3 + 1).toNat), i_ (Z a0 (v3 + 2).toNat)] [] okX11_text o_a1.1 rfl rfl lm_L_23 liX11_text lqX11_text (Nat.le_of_ble_eq_true rfl) (Nat.le_of_ble_eq_true rfl) (Nat.le_of_ble_eq_true rfl) (cat_of rfl) (Nat.le_of_ble_eq_true rfl) (Nat.zero_le _) (Nat.zero_le _) rfl dL_law_273 h.2.2.2.2)))))))))))
set_option maxRecDepth 20000 in
theorem b_L_law_276 {k n : Nat} {x : Wx} {Z : Zt} {Q : Option Value → Wx → Zt → Prop} {a0 : Nat} {a1 : Nat} {a2 : Nat} {v3 : Int} {t0 : Int} {L : Nat} (o_a2 : Is12 x a2) (s_a0 : x.1 a0 = some (200, L)) (l_L : L ≤ 2147483647)
    (h : 0 ≤ v3 + 1 ∧ v3 + 1 < L ∧ (0 ≤ v3 + 2 ∧ v3 + 2 < L ∧ (V mX12_text 0 0 0 [some (r_ a2), some (i_ (Z a0 (v3 + 1).toNat)), some (i_ (Z a0 (v3 + 2).toNat)), none, none] [] x Z (fun v9 x9 Z9 => V mL_law k n 290 [some (r_ a0), some (r_ a1), some (r_ a2), some (i_ v3)] (v9.toList ++ [i_ t0]) x9 Z9 Q)))) :
    V mL_law k n 276 [some (r_ a0), some (r_ a1), some (r_ a2), some (i_ v3)] [i_ t0] x Z Q :=
  V_aload_n dL_law_276 rfl (V_aload_n dL_law_277 rfl (V_iload_n dL_law_278 rfl (V_iconst dL_law_279 (V_iadd dL_law_280 (V_iald (t := 200) s_a0 (by decide) rfl h.1 h.2.1 l_L dL_law_281 (V_aload_n dL_law_282 rfl (V_iload_n dL_law_283 rfl (V_iconst dL_law_284 (V_iadd dL_law_285 (V_iald (t := 200) s_a0 (by decide) rfl h.2.2.1 h.2.2.2.1 l_L dL_law_286 (V_callV (k' := 0) (n' := 0) (t := 12) (q := (RX12, TX12, 46)) [i_ (Z a0 (v3 + 1).toNat), i_ (Z a0 (v3 + 2).toNat)] [i_ t0] okX12_text o_a2.1 rfl rfl lm_L_27 liX12_text lqX12_text (Nat.le_of_ble_eq_true rfl) (Nat.le_of_ble_eq_true rfl) (Nat.le_of_ble_eq_true rfl) (cat_of rfl) (Nat.le_of_ble_eq_true rfl) (Nat.zero_le _) (Nat.zero_le _) rfl dL_law_287 h.2.2.2.2)))))))))))
set_option maxRecDepth 20000 in
theorem b_L_law_290 {k n : Nat} {x : Wx} {Z : Zt} {Q : Option Value → Wx → Zt → Prop} {a0 : Nat} {a1 : Nat} {a2 : Nat} {v3 : Int} {t0 : Int} {t1 : Int} 
    (h : t0 = t1 ∧ (V mL_law k n 1513 [some (r_ a0), some (r_ a1), some (r_ a2), some (i_ v3)] [] x Z Q)) :
    V mL_law k n 290 [some (r_ a0), some (r_ a1), some (r_ a2), some (i_ v3)] [i_ t1, i_ t0] x Z Q :=
  V_icmpE (tgt := 1513) dL_law_290 rfl h.1 (V_msk [true, true, true, true] rfl h.2)
set_option maxRecDepth 20000 in
theorem b_L_law_295 {k n : Nat} {x : Wx} {Z : Zt} {Q : Option Value → Wx → Zt → Prop} {a0 : Nat} {a1 : Nat} {a2 : Nat} {v3 : Int} {L : Nat} (o_a1 : Is11 x a1) (s_a0 : x.1 a0 = some (200, L)) (l_L : L ≤ 2147483647)
    (h : 0 ≤ v3 + 1 ∧ v3 + 1 < L ∧ (V mX11_fault 0 0 0 [some (r_ a1), some (i_ (Z a0 (v3 + 1).toNat))] [] x Z (fun v9 x9 Z9 => V mL_law k n 304 [some (r_ a0), some (r_ a1), some (r_ a2), some (i_ v3)] (v9.toList ++ []) x9 Z9 Q))) :
    V mL_law k n 295 [some (r_ a0), some (r_ a1), some (r_ a2), some (i_ v3)] [] x Z Q :=
  V_aload_n dL_law_295 rfl (V_aload_n dL_law_296 rfl (V_iload_n dL_law_297 rfl (V_iconst dL_law_298 (V_iadd dL_law_299 (V_iald (t := 200) s_a0 (by decide) rfl h.1 h.2.1 l_L dL_law_300 (V_callV (k' := 0) (n' := 0) (t := 11) (q := (RX11, TX11, 17)) [i_ (Z a0 (v3 + 1).toNat)] [] okX11_fault o_a1.1 rfl rfl lm_L_28 liX11_fault lqX11_fault (Nat.le_of_ble_eq_true rfl) (Nat.le_of_ble_eq_true rfl) (Nat.le_of_ble_eq_true rfl) (cat_of rfl) (Nat.le_of_ble_eq_true rfl) (Nat.zero_le _) (Nat.zero_le _) rfl dL_law_301 h.2.2))))))
set_option maxRecDepth 20000 in
theorem b_L_law_304 {k n : Nat} {x : Wx} {Z : Zt} {Q : Option Value → Wx → Zt → Prop} {a0 : Nat} {a1 : Nat} {a2 : Nat} {v3 : Int} {t0 : Int} {L : Nat} (o_a2 : Is12 x a2) (s_a0 : x.1 a0 = some (200, L)) (l_L : L ≤ 2147483647)
    (h : 0 ≤ v3 + 1 ∧ v3 + 1 < L ∧ (V mX12_fault 0 0 0 [some (r_ a2), some (i_ (Z a0 (v3 + 1).toNat))] [] x Z (fun v9 x9 Z9 => V mL_law k n 313 [some (r_ a0), some (r_ a1), some (r_ a2), some (i_ v3)] (v9.toList ++ [i_ t0]) x9 Z9 Q))) :
    V mL_law k n 304 [some (r_ a0), some (r_ a1), some (r_ a2), some (i_ v3)] [i_ t0] x Z Q :=
  V_aload_n dL_law_304 rfl (V_aload_n dL_law_305 rfl (V_iload_n dL_law_306 rfl (V_iconst dL_law_307 (V_iadd dL_law_308 (V_iald (t := 200) s_a0 (by decide) rfl h.1 h.2.1 l_L dL_law_309 (V_callV (k' := 0) (n' := 0) (t := 12) (q := (RX12, TX12, 46)) [i_ (Z a0 (v3 + 1).toNat)] [i_ t0] okX12_fault o_a2.1 rfl rfl lm_L_31 liX12_fault lqX12_fault (Nat.le_of_ble_eq_true rfl) (Nat.le_of_ble_eq_true rfl) (Nat.le_of_ble_eq_true rfl) (cat_of rfl) (Nat.le_of_ble_eq_true rfl) (Nat.zero_le _) (Nat.zero_le _) rfl dL_law_310 h.2.2))))))
set_option maxRecDepth 20000 in
theorem b_L_law_313 {k n : Nat} {x : Wx} {Z : Zt} {Q : Option Value → Wx → Zt → Prop} {a0 : Nat} {a1 : Nat} {a2 : Nat} {v3 : Int} {t0 : Int} {t1 : Int} 
    (h : t0 = t1 ∧ (V mL_law k n 1513 [some (r_ a0), some (r_ a1), some (r_ a2), some (i_ v3)] [] x Z Q)) :
    V mL_law k n 313 [some (r_ a0), some (r_ a1), some (r_ a2), some (i_ v3)] [i_ t1, i_ t0] x Z Q :=
  V_icmpE (tgt := 1513) dL_law_313 rfl h.1 (V_msk [true, true, true, true] rfl h.2)
set_option maxRecDepth 20000 in
theorem b_L_law_318 {k n : Nat} {x : Wx} {Z : Zt} {Q : Option Value → Wx → Zt → Prop} {a0 : Nat} {a1 : Nat} {a2 : Nat} {v3 : Int} {L : Nat} (o_a1 : Is11 x a1) (s_a0 : x.1 a0 = some (200, L)) (l_L : L ≤ 2147483647)
    (h : 0 ≤ v3 + 1 ∧ v3 + 1 < L ∧ (0 ≤ v3 + 2 ∧ v3 + 2 < L ∧ (V mX11_curve 0 0 0 [some (r_ a1), some (i_ (Z a0 (v3 + 1).toNat)), some (i_ (Z a0 (v3 + 2).toNat)), none] [] x Z (fun v9 x9 Z9 => V mL_law k n 332 [some (r_ a0), some (r_ a1), some (r_ a2), some (i_ v3)] (v9.toList ++ []) x9 Z9 Q)))) :
    V mL_law k n 318 [some (r_ a0), some (r_ a1), some (r_ a2), some (i_ v3)] [] x Z Q :=
  V_aload_n dL_law_318 rfl (V_aload_n dL_law_319 rfl (V_iload_n dL_law_320 rfl (V_iconst dL_law_321 (V_iadd dL_law_322 (V_iald (t := 200) s_a0 (by decide) rfl h.1 h.2.1 l_L dL_law_323 (V_aload_n dL_law_324 rfl (V_iload_n dL_law_325 rfl (V_iconst dL_law_326 (V_iadd dL_law_327 (V_iald (t := 200) s_a0 (by decide) rfl h.2.2.1 h.2.2.2.1 l_L dL_law_328 (V_callV (k' := 0) (n' := 0) (t := 11) (q := (RX11, TX11, 17)) [i_ (Z a0 (v3 + 1).toNat), i_ (Z a0 (v3 + 2).toNat)] [] okX11_curve o_a1.1 rfl rfl lm_L_32 liX11_curve lqX11_curve (Nat.le_of_ble_eq_true rfl) (Nat.le_of_ble_eq_true rfl) (Nat.le_of_ble_eq_true rfl) (cat_of rfl) (Nat.le_of_ble_eq_true rfl) (Nat.zero_le _) (Nat.zero_le _) rfl dL_law_329 h.2.2.2.2)))))))))))
set_option maxRecDepth 20000 in
theorem b_L_law_332 {k n : Nat} {x : Wx} {Z : Zt} {Q : Option Value → Wx → Zt → Prop} {a0 : Nat} {a1 : Nat} {a2 : Nat} {v3 : Int} {t0 : Int} {L : Nat} (o_a2 : Is12 x a2) (s_a0 : x.1 a0 = some (200, L)) (l_L : L ≤ 2147483647)
    (h : 0 ≤ v3 + 1 ∧ v3 + 1 < L ∧ (0 ≤ v3 + 2 ∧ v3 + 2 < L ∧ (V mX12_curve 0 0 0 [some (r_ a2), some (i_ (Z a0 (v3 + 1).toNat)), some (i_ (Z a0 (v3 + 2).toNat))] [] x Z (fun v9 x9 Z9 => V mL_law k n 346 [some (r_ a0), some (r_ a1), some (r_ a2), some (i_ v3)] (v9.toList ++ [i_ t0]) x9 Z9 Q)))) :
    V mL_law k n 332 [some (r_ a0), some (r_ a1), some (r_ a2), some (i_ v3)] [i_ t0] x Z Q :=
  V_aload_n dL_law_332 rfl (V_aload_n dL_law_333 rfl (V_iload_n dL_law_334 rfl (V_iconst dL_law_335 (V_iadd dL_law_336 (V_iald (t := 200) s_a0 (by decide) rfl h.1 h.2.1 l_L dL_law_337 (V_aload_n dL_law_338 rfl (V_iload_n dL_law_339 rfl (V_iconst dL_law_340 (V_iadd dL_law_341 (V_iald (t := 200) s_a0 (by decide) rfl h.2.2.1 h.2.2.2.1 l_L dL_law_342 (V_callV (k' := 0) (n' := 0) (t := 12) (q := (RX12, TX12, 46)) [i_ (Z a0 (v3 + 1).toNat), i_ (Z a0 (v3 + 2).toNat)] [i_ t0] okX12_curve o_a2.1 rfl rfl lm_L_35 liX12_curve lqX12_curve (Nat.le_of_ble_eq_true rfl) (Nat.le_of_ble_eq_true rfl) (Nat.le_of_ble_eq_true rfl) (cat_of rfl) (Nat.le_of_ble_eq_true rfl) (Nat.zero_le _) (Nat.zero_le _) rfl dL_law_343 h.2.2.2.2)))))))))))
set_option maxRecDepth 20000 in
theorem b_L_law_346 {k n : Nat} {x : Wx} {Z : Zt} {Q : Option Value → Wx → Zt → Prop} {a0 : Nat} {a1 : Nat} {a2 : Nat} {v3 : Int} {t0 : Int} {t1 : Int} 
    (h : t0 = t1 ∧ (V mL_law k n 1513 [some (r_ a0), some (r_ a1), some (r_ a2), some (i_ v3)] [] x Z Q)) :
    V mL_law k n 346 [some (r_ a0), some (r_ a1), some (r_ a2), some (i_ v3)] [i_ t1, i_ t0] x Z Q :=
  V_icmpE (tgt := 1513) dL_law_346 rfl h.1 (V_msk [true, true, true, true] rfl h.2)
set_option maxRecDepth 20000 in
theorem b_L_law_351 {k n : Nat} {x : Wx} {Z : Zt} {Q : Option Value → Wx → Zt → Prop} {a0 : Nat} {a1 : Nat} {a2 : Nat} {v3 : Int} {L : Nat} (o_a1 : Is11 x a1) (s_a0 : x.1 a0 = some (200, L)) (l_L : L ≤ 2147483647)
    (h : 0 ≤ v3 + 1 ∧ v3 + 1 < L ∧ (0 ≤ v3 + 2 ∧ v3 + 2 < L ∧ (V mX11_sum 0 0 0 [some (r_ a1), some (i_ (Z a0 (v3 + 1).toNat)), some (i_ (Z a0 (v3 + 2).toNat)), none, none, none] [] x Z (fun v9 x9 Z9 => V mL_law k n 365 [some (r_ a0), some (r_ a1), some (r_ a2), some (i_ v3)] (v9.toList ++ []) x9 Z9 Q)))) :
    V mL_law k n 351 [some (r_ a0), some (r_ a1), some (r_ a2), some (i_ v3)] [] x Z Q :=
  V_aload_n dL_law_351 rfl (V_aload_n dL_law_352 rfl (V_iload_n dL_law_353 rfl (V_iconst dL_law_354 (V_iadd dL_law_355 (V_iald (t := 200) s_a0 (by decide) rfl h.1 h.2.1 l_L dL_law_356 (V_aload_n dL_law_357 rfl (V_iload_n dL_law_358 rfl (V_iconst dL_law_359 (V_iadd dL_law_360 (V_iald (t := 200) s_a0 (by decide) rfl h.2.2.1 h.2.2.2.1 l_L dL_law_361 (V_callV (k' := 0) (n' := 0) (t := 11) (q := (RX11, TX11, 17)) [i_ (Z a0 (v3 + 1).toNat), i_ (Z a0 (v3 + 2).toNat)] [] okX11_sum o_a1.1 rfl rfl lm_L_36 liX11_sum lqX11_sum (Nat.le_of_ble_eq_true rfl) (Nat.le_of_ble_eq_true rfl) (Nat.le_of_ble_eq_true rfl) (cat_of rfl) (Nat.le_of_ble_eq_true rfl) (Nat.zero_le _) (Nat.zero_le _) rfl dL_law_362 h.2.2.2.2)))))))))))
set_option maxRecDepth 20000 in
theorem b_L_law_365 {k n : Nat} {x : Wx} {Z : Zt} {Q : Option Value → Wx → Zt → Prop} {a0 : Nat} {a1 : Nat} {a2 : Nat} {v3 : Int} {t0 : Int} {L : Nat} (o_a2 : Is12 x a2) (s_a0 : x.1 a0 = some (200, L)) (l_L : L ≤ 2147483647)
    (h : 0 ≤ v3 + 1 ∧ v3 + 1 < L ∧ (0 ≤ v3 + 2 ∧ v3 + 2 < L ∧ (V mX12_sum 0 0 0 [some (r_ a2), some (i_ (Z a0 (v3 + 1).toNat)), some (i_ (Z a0 (v3 + 2).toNat)), none, none, none] [] x Z (fun v9 x9 Z9 => V mL_law k n 379 [some (r_ a0), some (r_ a1), some (r_ a2), some (i_ v3)] (v9.toList ++ [i_ t0]) x9 Z9 Q)))) :
    V mL_law k n 365 [some (r_ a0), some (r_ a1), some (r_ a2), some (i_ v3)] [i_ t0] x Z Q :=
  V_aload_n dL_law_365 rfl (V_aload_n dL_law_366 rfl (V_iload_n dL_law_367 rfl (V_iconst dL_law_368 (V_iadd dL_law_369 (V_iald (t := 200) s_a0 (by decide) rfl h.1 h.2.1 l_L dL_law_370 (V_aload_n dL_law_371 rfl (V_iload_n dL_law_372 rfl (V_iconst dL_law_373 (V_iadd dL_law_374 (V_iald (t := 200) s_a0 (by decide) rfl h.2.2.1 h.2.2.2.1 l_L dL_law_375 (V_callV (k' := 0) (n' := 0) (t := 12) (q := (RX12, TX12, 46)) [i_ (Z a0 (v3 + 1).toNat), i_ (Z a0 (v3 + 2).toNat)] [i_ t0] okX12_sum o_a2.1 rfl rfl lm_L_39 liX12_sum lqX12_sum (Nat.le_of_ble_eq_true rfl) (Nat.le_of_ble_eq_true rfl) (Nat.le_of_ble_eq_true rfl) (cat_of rfl) (Nat.le_of_ble_eq_true rfl) (Nat.zero_le _) (Nat.zero_le _) rfl dL_law_376 h.2.2.2.2)))))))))))
set_option maxRecDepth 20000 in
theorem b_L_law_379 {k n : Nat} {x : Wx} {Z : Zt} {Q : Option Value → Wx → Zt → Prop} {a0 : Nat} {a1 : Nat} {a2 : Nat} {v3 : Int} {t0 : Int} {t1 : Int} 
    (h : t0 = t1 ∧ (V mL_law k n 1513 [some (r_ a0), some (r_ a1), some (r_ a2), some (i_ v3)] [] x Z Q)) :
    V mL_law k n 379 [some (r_ a0), some (r_ a1), some (r_ a2), some (i_ v3)] [i_ t1, i_ t0] x Z Q :=
  V_icmpE (tgt := 1513) dL_law_379 rfl h.1 (V_msk [true, true, true, true] rfl h.2)
set_option maxRecDepth 20000 in
theorem b_L_law_384 {k n : Nat} {x : Wx} {Z : Zt} {Q : Option Value → Wx → Zt → Prop} {a0 : Nat} {a1 : Nat} {a2 : Nat} {v3 : Int} {L : Nat} (o_a1 : Is11 x a1) (s_a0 : x.1 a0 = some (200, L)) (l_L : L ≤ 2147483647)
    (h : 0 ≤ v3 + 1 ∧ v3 + 1 < L ∧ (0 ≤ v3 + 2 ∧ v3 + 2 < L ∧ (Rg (Z a0 (v3 + 2).toNat) ∧ (((Z a0 (v3 + 2).toNat = 0) → (0 ≤ v3 + 3 ∧ v3 + 3 < L ∧ (V mX11_function 0 0 0 [some (r_ a1), some (i_ (Z a0 (v3 + 1).toNat)), some (i_ 0), some (i_ (Z a0 (v3 + 3).toNat)), none] [] x Z (fun v9 x9 Z9 => V mL_law k n 411 [some (r_ a0), some (r_ a1), some (r_ a2), some (i_ v3)] (v9.toList ++ []) x9 Z9 Q)))) ∧ ((Z a0 (v3 + 2).toNat ≠ 0) → (0 ≤ v3 + 3 ∧ v3 + 3 < L ∧ (V mX11_function 0 0 0 [some (r_ a1), some (i_ (Z a0 (v3 + 1).toNat)), some (i_ 1), some (i_ (Z a0 (v3 + 3).toNat)), none] [] x Z (fun v9 x9 Z9 => V mL_law k n 411 [some (r_ a0), some (r_ a1), some (r_ a2), some (i_ v3)] (v9.toList ++ []) x9 Z9 Q)))))))) :
    V mL_law k n 384 [some (r_ a0), some (r_ a1), some (r_ a2), some (i_ v3)] [] x Z Q :=
  V_aload_n dL_law_384 rfl (V_aload_n dL_law_385 rfl (V_iload_n dL_law_386 rfl (V_iconst dL_law_387 (V_iadd dL_law_388 (V_iald (t := 200) s_a0 (by decide) rfl h.1 h.2.1 l_L dL_law_389 (V_aload_n dL_law_390 rfl (V_iload_n dL_law_391 rfl (V_iconst dL_law_392 (V_iadd dL_law_393 (V_iald (t := 200) s_a0 (by decide) rfl h.2.2.1 h.2.2.2.1 l_L dL_law_394 (V_if_eq (tgt := 402) dL_law_395 rfl h.2.2.2.2.1 (fun c1 => V_iconst dL_law_402 (V_aload_n dL_law_403 rfl (V_iload_n dL_law_404 rfl (V_iconst dL_law_405 (V_iadd dL_law_406 (V_iald (t := 200) s_a0 (by decide) rfl (h.2.2.2.2.2.1 c1).1 (h.2.2.2.2.2.1 c1).2.1 l_L dL_law_407 (V_callV (k' := 0) (n' := 0) (t := 11) (q := (RX11, TX11, 17)) [i_ (Z a0 (v3 + 1).toNat), i_ 0, i_ (Z a0 (v3 + 3).toNat)] [] okX11_function o_a1.1 rfl rfl lm_L_40 liX11_function lqX11_function (Nat.le_of_ble_eq_true rfl) (Nat.le_of_ble_eq_true rfl) (Nat.le_of_ble_eq_true rfl) (cat_of rfl) (Nat.le_of_ble_eq_true rfl) (Nat.zero_le _) (Nat.zero_le _) rfl dL_law_408 (h.2.2.2.2.2.1 c1).2.2))))))) (fun c1 => V_iconst dL_law_398 (V_goto (tgt := 403) dL_law_399 rfl (V_aload_n dL_law_403 rfl (V_iload_n dL_law_404 rfl (V_iconst dL_law_405 (V_iadd dL_law_406 (V_iald (t := 200) s_a0 (by decide) rfl (h.2.2.2.2.2.2 c1).1 (h.2.2.2.2.2.2 c1).2.1 l_L dL_law_407 (V_callV (k' := 0) (n' := 0) (t := 11) (q := (RX11, TX11, 17)) [i_ (Z a0 (v3 + 1).toNat), i_ 1, i_ (Z a0 (v3 + 3).toNat)] [] okX11_function o_a1.1 rfl rfl lm_L_40 liX11_function lqX11_function (Nat.le_of_ble_eq_true rfl) (Nat.le_of_ble_eq_true rfl) (Nat.le_of_ble_eq_true rfl) (cat_of rfl) (Nat.le_of_ble_eq_true rfl) (Nat.zero_le _) (Nat.zero_le _) rfl dL_law_408 (h.2.2.2.2.2.2 c1).2.2)))))))))))))))))))
set_option maxRecDepth 20000 in
theorem b_L_law_411 {k n : Nat} {x : Wx} {Z : Zt} {Q : Option Value → Wx → Zt → Prop} {a0 : Nat} {a1 : Nat} {a2 : Nat} {v3 : Int} {t0 : Int} {L : Nat} (o_a2 : Is12 x a2) (s_a0 : x.1 a0 = some (200, L)) (l_L : L ≤ 2147483647)
    (h : 0 ≤ v3 + 1 ∧ v3 + 1 < L ∧ (0 ≤ v3 + 2 ∧ v3 + 2 < L ∧ (Rg (Z a0 (v3 + 2).toNat) ∧ (((Z a0 (v3 + 2).toNat = 0) → (0 ≤ v3 + 3 ∧ v3 + 3 < L ∧ (V mX12_function 0 0 0 [some (r_ a2), some (i_ (Z a0 (v3 + 1).toNat)), some (i_ 0), some (i_ (Z a0 (v3 + 3).toNat))] [] x Z (fun v9 x9 Z9 => V mL_law k n 438 [some (r_ a0), some (r_ a1), some (r_ a2), some (i_ v3)] (v9.toList ++ [i_ t0]) x9 Z9 Q)))) ∧ ((Z a0 (v3 + 2).toNat ≠ 0) → (0 ≤ v3 + 3 ∧ v3 + 3 < L ∧ (V mX12_function 0 0 0 [some (r_ a2), some (i_ (Z a0 (v3 + 1).toNat)), some (i_ 1), some (i_ (Z a0 (v3 + 3).toNat))] [] x Z (fun v9 x9 Z9 => V mL_law k n 438 [some (r_ a0), some (r_ a1), some (r_ a2), some (i_ v3)] (v9.toList ++ [i_ t0]) x9 Z9 Q)))))))) :
    V mL_law k n 411 [some (r_ a0), some (r_ a1), some (r_ a2), some (i_ v3)] [i_ t0] x Z Q :=
  V_aload_n dL_law_411 rfl (V_aload_n dL_law_412 rfl (V_iload_n dL_law_413 rfl (V_iconst dL_law_414 (V_iadd dL_law_415 (V_iald (t := 200) s_a0 (by decide) rfl h.1 h.2.1 l_L dL_law_416 (V_aload_n dL_law_417 rfl (V_iload_n dL_law_418 rfl (V_iconst dL_law_419 (V_iadd dL_law_420 (V_iald (t := 200) s_a0 (by decide) rfl h.2.2.1 h.2.2.2.1 l_L dL_law_421 (V_if_eq (tgt := 429) dL_law_422 rfl h.2.2.2.2.1 (fun c1 => V_iconst dL_law_429 (V_aload_n dL_law_430 rfl (V_iload_n dL_law_431 rfl (V_iconst dL_law_432 (V_iadd dL_law_433 (V_iald (t := 200) s_a0 (by decide) rfl (h.2.2.2.2.2.1 c1).1 (h.2.2.2.2.2.1 c1).2.1 l_L dL_law_434 (V_callV (k' := 0) (n' := 0) (t := 12) (q := (RX12, TX12, 46)) [i_ (Z a0 (v3 + 1).toNat), i_ 0, i_ (Z a0 (v3 + 3).toNat)] [i_ t0] okX12_function o_a2.1 rfl rfl lm_L_44 liX12_function lqX12_function (Nat.le_of_ble_eq_true rfl) (Nat.le_of_ble_eq_true rfl) (Nat.le_of_ble_eq_true rfl) (cat_of rfl) (Nat.le_of_ble_eq_true rfl) (Nat.zero_le _) (Nat.zero_le _) rfl dL_law_435 (h.2.2.2.2.2.1 c1).2.2))))))) (fun c1 => V_iconst dL_law_425 (V_goto (tgt := 430) dL_law_426 rfl (V_aload_n dL_law_430 rfl (V_iload_n dL_law_431 rfl (V_iconst dL_law_432 (V_iadd dL_law_433 (V_iald (t := 200) s_a0 (by decide) rfl (h.2.2.2.2.2.2 c1).1 (h.2.2.2.2.2.2 c1).2.1 l_L dL_law_434 (V_callV (k' := 0) (n' := 0) (t := 12) (q := (RX12, TX12, 46)) [i_ (Z a0 (v3 + 1).toNat), i_ 1, i_ (Z a0 (v3 + 3).toNat)] [i_ t0] okX12_function o_a2.1 rfl rfl lm_L_44 liX12_function lqX12_function (Nat.le_of_ble_eq_true rfl) (Nat.le_of_ble_eq_true rfl) (Nat.le_of_ble_eq_true rfl) (cat_of rfl) (Nat.le_of_ble_eq_true rfl) (Nat.zero_le _) (Nat.zero_le _) rfl dL_law_435 (h.2.2.2.2.2.2 c1).2.2)))))))))))))))))))
set_option maxRecDepth 20000 in
theorem b_L_law_438 {k n : Nat} {x : Wx} {Z : Zt} {Q : Option Value → Wx → Zt → Prop} {a0 : Nat} {a1 : Nat} {a2 : Nat} {v3 : Int} {t0 : Int} {t1 : Int} 
    (h : t0 = t1 ∧ (V mL_law k n 1513 [some (r_ a0), some (r_ a1), some (r_ a2), some (i_ v3)] [] x Z Q)) :
    V mL_law k n 438 [some (r_ a0), some (r_ a1), some (r_ a2), some (i_ v3)] [i_ t1, i_ t0] x Z Q :=
  V_icmpE (tgt := 1513) dL_law_438 rfl h.1 (V_msk [true, true, true, true] rfl h.2)
set_option maxRecDepth 20000 in
theorem b_L_law_443 {k n : Nat} {x : Wx} {Z : Zt} {Q : Option Value → Wx → Zt → Prop} {a0 : Nat} {a1 : Nat} {a2 : Nat} {v3 : Int} {L : Nat} (o_a1 : Is11 x a1) (s_a0 : x.1 a0 = some (200, L)) (l_L : L ≤ 2147483647)
    (h : 0 ≤ v3 + 1 ∧ v3 + 1 < L ∧ (0 ≤ v3 + 2 ∧ v3 + 2 < L ∧ (0 ≤ v3 + 3 ∧ v3 + 3 < L ∧ (V mX11_point 0 0 0 [some (r_ a1), some (i_ (Z a0 (v3 + 1).toNat)), some (i_ (Z a0 (v3 + 2).toNat)), some (i_ (Z a0 (v3 + 3).toNat))] [] x Z (fun v9 x9 Z9 => V mL_law k n 462 [some (r_ a0), some (r_ a1), some (r_ a2), some (i_ v3)] (v9.toList ++ []) x9 Z9 Q))))) :
    V mL_law k n 443 [some (r_ a0), some (r_ a1), some (r_ a2), some (i_ v3)] [] x Z Q :=
  V_aload_n dL_law_443 rfl (V_aload_n dL_law_444 rfl (V_iload_n dL_law_445 rfl (V_iconst dL_law_446 (V_iadd dL_law_447 (V_iald (t := 200) s_a0 (by decide) rfl h.1 h.2.1 l_L dL_law_448 (V_aload_n dL_law_449 rfl (V_iload_n dL_law_450 rfl (V_iconst dL_law_451 (V_iadd dL_law_452 (V_iald (t := 200) s_a0 (by decide) rfl h.2.2.1 h.2.2.2.1 l_L dL_law_453 (V_aload_n dL_law_454 rfl (V_iload_n dL_law_455 rfl (V_iconst dL_law_456 (V_iadd dL_law_457 (V_iald (t := 200) s_a0 (by decide) rfl h.2.2.2.2.1 h.2.2.2.2.2.1 l_L dL_law_458 (V_callV (k' := 0) (n' := 0) (t := 11) (q := (RX11, TX11, 17)) [i_ (Z a0 (v3 + 1).toNat), i_ (Z a0 (v3 + 2).toNat), i_ (Z a0 (v3 + 3).toNat)] [] okX11_point o_a1.1 rfl rfl lm_L_45 liX11_point lqX11_point (Nat.le_of_ble_eq_true rfl) (Nat.le_of_ble_eq_true rfl) (Nat.le_of_ble_eq_true rfl) (cat_of rfl) (Nat.le_of_ble_eq_true rfl) (Nat.zero_le _) (Nat.zero_le _) rfl dL_law_459 h.2.2.2.2.2.2))))))))))))))))
set_option maxRecDepth 20000 in
theorem b_L_law_462 {k n : Nat} {x : Wx} {Z : Zt} {Q : Option Value → Wx → Zt → Prop} {a0 : Nat} {a1 : Nat} {a2 : Nat} {v3 : Int} {t0 : Int} {L : Nat} (o_a2 : Is12 x a2) (s_a0 : x.1 a0 = some (200, L)) (l_L : L ≤ 2147483647)
    (h : 0 ≤ v3 + 1 ∧ v3 + 1 < L ∧ (0 ≤ v3 + 2 ∧ v3 + 2 < L ∧ (0 ≤ v3 + 3 ∧ v3 + 3 < L ∧ (V mX12_point 0 0 0 [some (r_ a2), some (i_ (Z a0 (v3 + 1).toNat)), some (i_ (Z a0 (v3 + 2).toNat)), some (i_ (Z a0 (v3 + 3).toNat))] [] x Z (fun v9 x9 Z9 => V mL_law k n 481 [some (r_ a0), some (r_ a1), some (r_ a2), some (i_ v3)] (v9.toList ++ [i_ t0]) x9 Z9 Q))))) :
    V mL_law k n 462 [some (r_ a0), some (r_ a1), some (r_ a2), some (i_ v3)] [i_ t0] x Z Q :=
  V_aload_n dL_law_462 rfl (V_aload_n dL_law_463 rfl (V_iload_n dL_law_464 rfl (V_iconst dL_law_465 (V_iadd dL_law_466 (V_iald (t := 200) s_a0 (by decide) rfl h.1 h.2.1 l_L dL_law_467 (V_aload_n dL_law_468 rfl (V_iload_n dL_law_469 rfl (V_iconst dL_law_470 (V_iadd dL_law_471 (V_iald (t := 200) s_a0 (by decide) rfl h.2.2.1 h.2.2.2.1 l_L dL_law_472 (V_aload_n dL_law_473 rfl (V_iload_n dL_law_474 rfl (V_iconst dL_law_475 (V_iadd dL_law_476 (V_iald (t := 200) s_a0 (by decide) rfl h.2.2.2.2.1 h.2.2.2.2.2.1 l_L dL_law_477 (V_callV (k' := 0) (n' := 0) (t := 12) (q := (RX12, TX12, 46)) [i_ (Z a0 (v3 + 1).toNat), i_ (Z a0 (v3 + 2).toNat), i_ (Z a0 (v3 + 3).toNat)] [i_ t0] okX12_point o_a2.1 rfl rfl lm_L_49 liX12_point lqX12_point (Nat.le_of_ble_eq_true rfl) (Nat.le_of_ble_eq_true rfl) (Nat.le_of_ble_eq_true rfl) (cat_of rfl) (Nat.le_of_ble_eq_true rfl) (Nat.zero_le _) (Nat.zero_le _) rfl dL_law_478 h.2.2.2.2.2.2))))))))))))))))
set_option maxRecDepth 20000 in
theorem b_L_law_481 {k n : Nat} {x : Wx} {Z : Zt} {Q : Option Value → Wx → Zt → Prop} {a0 : Nat} {a1 : Nat} {a2 : Nat} {v3 : Int} {t0 : Int} {t1 : Int} 
    (h : t0 = t1 ∧ (V mL_law k n 1513 [some (r_ a0), some (r_ a1), some (r_ a2), some (i_ v3)] [] x Z Q)) :
    V mL_law k n 481 [some (r_ a0), some (r_ a1), some (r_ a2), some (i_ v3)] [i_ t1, i_ t0] x Z Q :=
  V_icmpE (tgt := 1513) dL_law_481 rfl h.1 (V_msk [true, true, true, true] rfl h.2)
set_option maxRecDepth 20000 in
theorem b_L_law_486 {k n : Nat} {x : Wx} {Z : Zt} {Q : Option Value → Wx → Zt → Prop} {a0 : Nat} {a1 : Nat} {a2 : Nat} {v3 : Int} {L : Nat} (o_a1 : Is11 x a1) (s_a0 : x.1 a0 = some (200, L)) (l_L : L ≤ 2147483647)
    (h : 0 ≤ v3 + 1 ∧ v3 + 1 < L ∧ (0 ≤ v3 + 2 ∧ v3 + 2 < L ∧ (0 ≤ v3 + 3 ∧ v3 + 3 < L ∧ (Rg (Z a0 (v3 + 3).toNat) ∧ (((Z a0 (v3 + 3).toNat = 0) → (V mX11_counted 0 0 0 [some (r_ a1), some (i_ (Z a0 (v3 + 1).toNat)), some (i_ (Z a0 (v3 + 2).toNat)), some (i_ 0)] [] x Z (fun v9 x9 Z9 => V mL_law k n 513 [some (r_ a0), some (r_ a1), some (r_ a2), some (i_ v3)] (v9.toList ++ []) x9 Z9 Q))) ∧ ((Z a0 (v3 + 3).toNat ≠ 0) → (V mX11_counted 0 0 0 [some (r_ a1), some (i_ (Z a0 (v3 + 1).toNat)), some (i_ (Z a0 (v3 + 2).toNat)), some (i_ 1)] [] x Z (fun v9 x9 Z9 => V mL_law k n 513 [some (r_ a0), some (r_ a1), some (r_ a2), some (i_ v3)] (v9.toList ++ []) x9 Z9 Q)))))))) :
    V mL_law k n 486 [some (r_ a0), some (r_ a1), some (r_ a2), some (i_ v3)] [] x Z Q :=
  V_aload_n dL_law_486 rfl (V_aload_n dL_law_487 rfl (V_iload_n dL_law_488 rfl (V_iconst dL_law_489 (V_iadd dL_law_490 (V_iald (t := 200) s_a0 (by decide) rfl h.1 h.2.1 l_L dL_law_491 (V_aload_n dL_law_492 rfl (V_iload_n dL_law_493 rfl (V_iconst dL_law_494 (V_iadd dL_law_495 (V_iald (t := 200) s_a0 (by decide) rfl h.2.2.1 h.2.2.2.1 l_L dL_law_496 (V_aload_n dL_law_497 rfl (V_iload_n dL_law_498 rfl (V_iconst dL_law_499 (V_iadd dL_law_500 (V_iald (t := 200) s_a0 (by decide) rfl h.2.2.2.2.1 h.2.2.2.2.2.1 l_L dL_law_501 (V_if_eq (tgt := 509) dL_law_502 rfl h.2.2.2.2.2.2.1 (fun c1 => V_iconst dL_law_509 (V_callV (k' := 0) (n' := 0) (t := 11) (q := (RX11, TX11, 17)) [i_ (Z a0 (v3 + 1).toNat), i_ (Z a0 (v3 + 2).toNat), i_ 0] [] okX11_counted o_a1.1 rfl rfl lm_L_50 liX11_counted lqX11_counted (Nat.le_of_ble_eq_true rfl) (Nat.le_of_ble_eq_true rfl) (Nat.le_of_ble_eq_true rfl) (cat_of rfl) (Nat.le_of_ble_eq_true rfl) (Nat.zero_le _) (Nat.zero_le _) rfl dL_law_510 (h.2.2.2.2.2.2.2.1 c1))) (fun c1 => V_iconst dL_law_505 (V_goto (tgt := 510) dL_law_506 rfl (V_callV (k' := 0) (n' := 0) (t := 11) (q := (RX11, TX11, 17)) [i_ (Z a0 (v3 + 1).toNat), i_ (Z a0 (v3 + 2).toNat), i_ 1] [] okX11_counted o_a1.1 rfl rfl lm_L_50 liX11_counted lqX11_counted (Nat.le_of_ble_eq_true rfl) (Nat.le_of_ble_eq_true rfl) (Nat.le_of_ble_eq_true rfl) (cat_of rfl) (Nat.le_of_ble_eq_true rfl) (Nat.zero_le _) (Nat.zero_le _) rfl dL_law_510 (h.2.2.2.2.2.2.2.2 c1))))))))))))))))))))
set_option maxRecDepth 20000 in
theorem b_L_law_513 {k n : Nat} {x : Wx} {Z : Zt} {Q : Option Value → Wx → Zt → Prop} {a0 : Nat} {a1 : Nat} {a2 : Nat} {v3 : Int} {t0 : Int} {L : Nat} (o_a2 : Is12 x a2) (s_a0 : x.1 a0 = some (200, L)) (l_L : L ≤ 2147483647)
    (h : 0 ≤ v3 + 1 ∧ v3 + 1 < L ∧ (0 ≤ v3 + 2 ∧ v3 + 2 < L ∧ (0 ≤ v3 + 3 ∧ v3 + 3 < L ∧ (Rg (Z a0 (v3 + 3).toNat) ∧ (((Z a0 (v3 + 3).toNat = 0) → (V mX12_counted 0 0 0 [some (r_ a2), some (i_ (Z a0 (v3 + 1).toNat)), some (i_ (Z a0 (v3 + 2).toNat)), some (i_ 0)] [] x Z (fun v9 x9 Z9 => V mL_law k n 540 [some (r_ a0), some (r_ a1), some (r_ a2), some (i_ v3)] (v9.toList ++ [l_ t0]) x9 Z9 Q))) ∧ ((Z a0 (v3 + 3).toNat ≠ 0) → (V mX12_counted 0 0 0 [some (r_ a2), some (i_ (Z a0 (v3 + 1).toNat)), some (i_ (Z a0 (v3 + 2).toNat)), some (i_ 1)] [] x Z (fun v9 x9 Z9 => V mL_law k n 540 [some (r_ a0), some (r_ a1), some (r_ a2), some (i_ v3)] (v9.toList ++ [l_ t0]) x9 Z9 Q)))))))) :
    V mL_law k n 513 [some (r_ a0), some (r_ a1), some (r_ a2), some (i_ v3)] [l_ t0] x Z Q :=
  V_aload_n dL_law_513 rfl (V_aload_n dL_law_514 rfl (V_iload_n dL_law_515 rfl (V_iconst dL_law_516 (V_iadd dL_law_517 (V_iald (t := 200) s_a0 (by decide) rfl h.1 h.2.1 l_L dL_law_518 (V_aload_n dL_law_519 rfl (V_iload_n dL_law_520 rfl (V_iconst dL_law_521 (V_iadd dL_law_522 (V_iald (t := 200) s_a0 (by decide) rfl h.2.2.1 h.2.2.2.1 l_L dL_law_523 (V_aload_n dL_law_524 rfl (V_iload_n dL_law_525 rfl (V_iconst dL_law_526 (V_iadd dL_law_527 (V_iald (t := 200) s_a0 (by decide) rfl h.2.2.2.2.1 h.2.2.2.2.2.1 l_L dL_law_528 (V_if_eq (tgt := 536) dL_law_529 rfl h.2.2.2.2.2.2.1 (fun c1 => V_iconst dL_law_536 (V_callV (k' := 0) (n' := 0) (t := 12) (q := (RX12, TX12, 46)) [i_ (Z a0 (v3 + 1).toNat), i_ (Z a0 (v3 + 2).toNat), i_ 0] [l_ t0] okX12_counted o_a2.1 rfl rfl lm_L_54 liX12_counted lqX12_counted (Nat.le_of_ble_eq_true rfl) (Nat.le_of_ble_eq_true rfl) (Nat.le_of_ble_eq_true rfl) (cat_of rfl) (Nat.le_of_ble_eq_true rfl) (Nat.zero_le _) (Nat.zero_le _) rfl dL_law_537 (h.2.2.2.2.2.2.2.1 c1))) (fun c1 => V_iconst dL_law_532 (V_goto (tgt := 537) dL_law_533 rfl (V_callV (k' := 0) (n' := 0) (t := 12) (q := (RX12, TX12, 46)) [i_ (Z a0 (v3 + 1).toNat), i_ (Z a0 (v3 + 2).toNat), i_ 1] [l_ t0] okX12_counted o_a2.1 rfl rfl lm_L_54 liX12_counted lqX12_counted (Nat.le_of_ble_eq_true rfl) (Nat.le_of_ble_eq_true rfl) (Nat.le_of_ble_eq_true rfl) (cat_of rfl) (Nat.le_of_ble_eq_true rfl) (Nat.zero_le _) (Nat.zero_le _) rfl dL_law_537 (h.2.2.2.2.2.2.2.2 c1))))))))))))))))))))
set_option maxRecDepth 20000 in
theorem b_L_law_540 {k n : Nat} {x : Wx} {Z : Zt} {Q : Option Value → Wx → Zt → Prop} {a0 : Nat} {a1 : Nat} {a2 : Nat} {v3 : Int} {t0 : Int} {t1 : Int} 
    (h : t0 = t1 ∧ (V mL_law k n 1513 [some (r_ a0), some (r_ a1), some (r_ a2), some (i_ v3)] [] x Z Q)) :
    V mL_law k n 540 [some (r_ a0), some (r_ a1), some (r_ a2), some (i_ v3)] [l_ t1, l_ t0] x Z Q :=
  V_lcmpE dL_law_540 h.1 (V_if_eq (tgt := 1513) dL_law_541 rfl (rg_c rfl) (fun _ => V_msk [true, true, true, true] rfl h.2) (fun h9 => absurd h9 (by decide)))
set_option maxRecDepth 20000 in
theorem b_L_law_546 {k n : Nat} {x : Wx} {Z : Zt} {Q : Option Value → Wx → Zt → Prop} {a0 : Nat} {a1 : Nat} {a2 : Nat} {v3 : Int} {L : Nat} (o_a1 : Is11 x a1) (s_a0 : x.1 a0 = some (200, L)) (l_L : L ≤ 2147483647)
    (h : 0 ≤ v3 + 1 ∧ v3 + 1 < L ∧ (0 ≤ v3 + 2 ∧ v3 + 2 < L ∧ (V mX11_share 0 0 0 [some (r_ a1), some (i_ (Z a0 (v3 + 1).toNat)), some (i_ (Z a0 (v3 + 2).toNat))] [] x Z (fun v9 x9 Z9 => V mL_law k n 560 [some (r_ a0), some (r_ a1), some (r_ a2), some (i_ v3)] (v9.toList ++ []) x9 Z9 Q)))) :
    V mL_law k n 546 [some (r_ a0), some (r_ a1), some (r_ a2), some (i_ v3)] [] x Z Q :=
  V_aload_n dL_law_546 rfl (V_aload_n dL_law_547 rfl (V_iload_n dL_law_548 rfl (V_iconst dL_law_549 (V_iadd dL_law_550 (V_iald (t := 200) s_a0 (by decide) rfl h.1 h.2.1 l_L dL_law_551 (V_aload_n dL_law_552 rfl (V_iload_n dL_law_553 rfl (V_iconst dL_law_554 (V_iadd dL_law_555 (V_iald (t := 200) s_a0 (by decide) rfl h.2.2.1 h.2.2.2.1 l_L dL_law_556 (V_callV (k' := 0) (n' := 0) (t := 11) (q := (RX11, TX11, 17)) [i_ (Z a0 (v3 + 1).toNat), i_ (Z a0 (v3 + 2).toNat)] [] okX11_share o_a1.1 rfl rfl lm_L_55 liX11_share lqX11_share (Nat.le_of_ble_eq_true rfl) (Nat.le_of_ble_eq_true rfl) (Nat.le_of_ble_eq_true rfl) (cat_of rfl) (Nat.le_of_ble_eq_true rfl) (Nat.zero_le _) (Nat.zero_le _) rfl dL_law_557 h.2.2.2.2)))))))))))
set_option maxRecDepth 20000 in
theorem b_L_law_560 {k n : Nat} {x : Wx} {Z : Zt} {Q : Option Value → Wx → Zt → Prop} {a0 : Nat} {a1 : Nat} {a2 : Nat} {v3 : Int} {t0 : Int} {L : Nat} (o_a2 : Is12 x a2) (s_a0 : x.1 a0 = some (200, L)) (l_L : L ≤ 2147483647)
    (h : 0 ≤ v3 + 1 ∧ v3 + 1 < L ∧ (0 ≤ v3 + 2 ∧ v3 + 2 < L ∧ (V mX12_share 0 0 0 [some (r_ a2), some (i_ (Z a0 (v3 + 1).toNat)), some (i_ (Z a0 (v3 + 2).toNat))] [] x Z (fun v9 x9 Z9 => V mL_law k n 574 [some (r_ a0), some (r_ a1), some (r_ a2), some (i_ v3)] (v9.toList ++ [i_ t0]) x9 Z9 Q)))) :
    V mL_law k n 560 [some (r_ a0), some (r_ a1), some (r_ a2), some (i_ v3)] [i_ t0] x Z Q :=
  V_aload_n dL_law_560 rfl (V_aload_n dL_law_561 rfl (V_iload_n dL_law_562 rfl (V_iconst dL_law_563 (V_iadd dL_law_564 (V_iald (t := 200) s_a0 (by decide) rfl h.1 h.2.1 l_L dL_law_565 (V_aload_n dL_law_566 rfl (V_iload_n dL_law_567 rfl (V_iconst dL_law_568 (V_iadd dL_law_569 (V_iald (t := 200) s_a0 (by decide) rfl h.2.2.1 h.2.2.2.1 l_L dL_law_570 (V_callV (k' := 0) (n' := 0) (t := 12) (q := (RX12, TX12, 46)) [i_ (Z a0 (v3 + 1).toNat), i_ (Z a0 (v3 + 2).toNat)] [i_ t0] okX12_share o_a2.1 rfl rfl lm_L_58 liX12_share lqX12_share (Nat.le_of_ble_eq_true rfl) (Nat.le_of_ble_eq_true rfl) (Nat.le_of_ble_eq_true rfl) (cat_of rfl) (Nat.le_of_ble_eq_true rfl) (Nat.zero_le _) (Nat.zero_le _) rfl dL_law_571 h.2.2.2.2)))))))))))
set_option maxRecDepth 20000 in
theorem b_L_law_574 {k n : Nat} {x : Wx} {Z : Zt} {Q : Option Value → Wx → Zt → Prop} {a0 : Nat} {a1 : Nat} {a2 : Nat} {v3 : Int} {t0 : Int} {t1 : Int} 
    (h : t0 = t1 ∧ (V mL_law k n 1513 [some (r_ a0), some (r_ a1), some (r_ a2), some (i_ v3)] [] x Z Q)) :
    V mL_law k n 574 [some (r_ a0), some (r_ a1), some (r_ a2), some (i_ v3)] [i_ t1, i_ t0] x Z Q :=
  V_icmpE (tgt := 1513) dL_law_574 rfl h.1 (V_msk [true, true, true, true] rfl h.2)
set_option maxRecDepth 20000 in
theorem b_L_law_579 {k n : Nat} {x : Wx} {Z : Zt} {Q : Option Value → Wx → Zt → Prop} {a0 : Nat} {a1 : Nat} {a2 : Nat} {v3 : Int} {L : Nat} (o_a1 : Is11 x a1) (s_a0 : x.1 a0 = some (200, L)) (l_L : L ≤ 2147483647)
    (h : 0 ≤ v3 + 1 ∧ v3 + 1 < L ∧ (0 ≤ v3 + 2 ∧ v3 + 2 < L ∧ (V mX11_fits 0 0 0 [some (r_ a1), some (i_ (Z a0 (v3 + 1).toNat)), some (i_ (Z a0 (v3 + 2).toNat))] [] x Z (fun v9 x9 Z9 => V mL_law k n 593 [some (r_ a0), some (r_ a1), some (r_ a2), some (i_ v3)] (v9.toList ++ []) x9 Z9 Q)))) :
    V mL_law k n 579 [some (r_ a0), some (r_ a1), some (r_ a2), some (i_ v3)] [] x Z Q :=
  V_aload_n dL_law_579 rfl (V_aload_n dL_law_580 rfl (V_iload_n dL_law_581 rfl (V_iconst dL_law_582 (V_iadd dL_law_583 (V_iald (t := 200) s_a0 (by decide) rfl h.1 h.2.1 l_L dL_law_584 (V_aload_n dL_law_585 rfl (V_iload_n dL_law_586 rfl (V_iconst dL_law_587 (V_iadd dL_law_588 (V_iald (t := 200) s_a0 (by decide) rfl h.2.2.1 h.2.2.2.1 l_L dL_law_589 (V_callV (k' := 0) (n' := 0) (t := 11) (q := (RX11, TX11, 17)) [i_ (Z a0 (v3 + 1).toNat), i_ (Z a0 (v3 + 2).toNat)] [] okX11_fits o_a1.1 rfl rfl lm_L_59 liX11_fits lqX11_fits (Nat.le_of_ble_eq_true rfl) (Nat.le_of_ble_eq_true rfl) (Nat.le_of_ble_eq_true rfl) (cat_of rfl) (Nat.le_of_ble_eq_true rfl) (Nat.zero_le _) (Nat.zero_le _) rfl dL_law_590 h.2.2.2.2)))))))))))
set_option maxRecDepth 20000 in
theorem b_L_law_593 {k n : Nat} {x : Wx} {Z : Zt} {Q : Option Value → Wx → Zt → Prop} {a0 : Nat} {a1 : Nat} {a2 : Nat} {v3 : Int} {t0 : Int} {L : Nat} (o_a2 : Is12 x a2) (s_a0 : x.1 a0 = some (200, L)) (l_L : L ≤ 2147483647)
    (h : 0 ≤ v3 + 1 ∧ v3 + 1 < L ∧ (0 ≤ v3 + 2 ∧ v3 + 2 < L ∧ (V mX12_fits 0 0 0 [some (r_ a2), some (i_ (Z a0 (v3 + 1).toNat)), some (i_ (Z a0 (v3 + 2).toNat))] [] x Z (fun v9 x9 Z9 => V mL_law k n 607 [some (r_ a0), some (r_ a1), some (r_ a2), some (i_ v3)] (v9.toList ++ [i_ t0]) x9 Z9 Q)))) :
    V mL_law k n 593 [some (r_ a0), some (r_ a1), some (r_ a2), some (i_ v3)] [i_ t0] x Z Q :=
  V_aload_n dL_law_593 rfl (V_aload_n dL_law_594 rfl (V_iload_n dL_law_595 rfl (V_iconst dL_law_596 (V_iadd dL_law_597 (V_iald (t := 200) s_a0 (by decide) rfl h.1 h.2.1 l_L dL_law_598 (V_aload_n dL_law_599 rfl (V_iload_n dL_law_600 rfl (V_iconst dL_law_601 (V_iadd dL_law_602 (V_iald (t := 200) s_a0 (by decide) rfl h.2.2.1 h.2.2.2.1 l_L dL_law_603 (V_callV (k' := 0) (n' := 0) (t := 12) (q := (RX12, TX12, 46)) [i_ (Z a0 (v3 + 1).toNat), i_ (Z a0 (v3 + 2).toNat)] [i_ t0] okX12_fits o_a2.1 rfl rfl lm_L_63 liX12_fits lqX12_fits (Nat.le_of_ble_eq_true rfl) (Nat.le_of_ble_eq_true rfl) (Nat.le_of_ble_eq_true rfl) (cat_of rfl) (Nat.le_of_ble_eq_true rfl) (Nat.zero_le _) (Nat.zero_le _) rfl dL_law_604 h.2.2.2.2)))))))))))
set_option maxRecDepth 20000 in
theorem b_L_law_607 {k n : Nat} {x : Wx} {Z : Zt} {Q : Option Value → Wx → Zt → Prop} {a0 : Nat} {a1 : Nat} {a2 : Nat} {v3 : Int} {t0 : Int} {t1 : Int} 
    (h : t0 = t1 ∧ (V mL_law k n 1513 [some (r_ a0), some (r_ a1), some (r_ a2), some (i_ v3)] [] x Z Q)) :
    V mL_law k n 607 [some (r_ a0), some (r_ a1), some (r_ a2), some (i_ v3)] [i_ t1, i_ t0] x Z Q :=
  V_icmpE (tgt := 1513) dL_law_607 rfl h.1 (V_msk [true, true, true, true] rfl h.2)
set_option maxRecDepth 20000 in
theorem b_L_law_612 {k n : Nat} {x : Wx} {Z : Zt} {Q : Option Value → Wx → Zt → Prop} {a0 : Nat} {a1 : Nat} {a2 : Nat} {v3 : Int} {L : Nat} (o_a1 : Is11 x a1) (s_a0 : x.1 a0 = some (200, L)) (l_L : L ≤ 2147483647)
    (h : 0 ≤ v3 + 1 ∧ v3 + 1 < L ∧ (0 ≤ v3 + 2 ∧ v3 + 2 < L ∧ (0 ≤ v3 + 3 ∧ v3 + 3 < L ∧ (V mX11_order 0 0 0 [some (r_ a1), some (i_ (Z a0 (v3 + 1).toNat)), some (i_ (Z a0 (v3 + 2).toNat)), some (i_ (Z a0 (v3 + 3).toNat))] [] x Z (fun v9 x9 Z9 => V mL_law k n 631 [some (r_ a0), some (r_ a1), some (r_ a2), some (i_ v3)] (v9.toList ++ []) x9 Z9 Q))))) :
    V mL_law k n 612 [some (r_ a0), some (r_ a1), some (r_ a2), some (i_ v3)] [] x Z Q :=
  V_aload_n dL_law_612 rfl (V_aload_n dL_law_613 rfl (V_iload_n dL_law_614 rfl (V_iconst dL_law_615 (V_iadd dL_law_616 (V_iald (t := 200) s_a0 (by decide) rfl h.1 h.2.1 l_L dL_law_617 (V_aload_n dL_law_618 rfl (V_iload_n dL_law_619 rfl (V_iconst dL_law_620 (V_iadd dL_law_621 (V_iald (t := 200) s_a0 (by decide) rfl h.2.2.1 h.2.2.2.1 l_L dL_law_622 (V_aload_n dL_law_623 rfl (V_iload_n dL_law_624 rfl (V_iconst dL_law_625 (V_iadd dL_law_626 (V_iald (t := 200) s_a0 (by decide) rfl h.2.2.2.2.1 h.2.2.2.2.2.1 l_L dL_law_627 (V_callV (k' := 0) (n' := 0) (t := 11) (q := (RX11, TX11, 17)) [i_ (Z a0 (v3 + 1).toNat), i_ (Z a0 (v3 + 2).toNat), i_ (Z a0 (v3 + 3).toNat)] [] okX11_order o_a1.1 rfl rfl lm_L_64 liX11_order lqX11_order (Nat.le_of_ble_eq_true rfl) (Nat.le_of_ble_eq_true rfl) (Nat.le_of_ble_eq_true rfl) (cat_of rfl) (Nat.le_of_ble_eq_true rfl) (Nat.zero_le _) (Nat.zero_le _) rfl dL_law_628 h.2.2.2.2.2.2))))))))))))))))
set_option maxRecDepth 20000 in
theorem b_L_law_631 {k n : Nat} {x : Wx} {Z : Zt} {Q : Option Value → Wx → Zt → Prop} {a0 : Nat} {a1 : Nat} {a2 : Nat} {v3 : Int} {t0 : Int} {L : Nat} (o_a2 : Is12 x a2) (s_a0 : x.1 a0 = some (200, L)) (l_L : L ≤ 2147483647)
    (h : 0 ≤ v3 + 1 ∧ v3 + 1 < L ∧ (0 ≤ v3 + 2 ∧ v3 + 2 < L ∧ (0 ≤ v3 + 3 ∧ v3 + 3 < L ∧ (V mX12_order 0 0 0 [some (r_ a2), some (i_ (Z a0 (v3 + 1).toNat)), some (i_ (Z a0 (v3 + 2).toNat)), some (i_ (Z a0 (v3 + 3).toNat))] [] x Z (fun v9 x9 Z9 => V mL_law k n 650 [some (r_ a0), some (r_ a1), some (r_ a2), some (i_ v3)] (v9.toList ++ [i_ t0]) x9 Z9 Q))))) :
    V mL_law k n 631 [some (r_ a0), some (r_ a1), some (r_ a2), some (i_ v3)] [i_ t0] x Z Q :=
  V_aload_n dL_law_631 rfl (V_aload_n dL_law_632 rfl (V_iload_n dL_law_633 rfl (V_iconst dL_law_634 (V_iadd dL_law_635 (V_iald (t := 200) s_a0 (by decide) rfl h.1 h.2.1 l_L dL_law_636 (V_aload_n dL_law_637 rfl (V_iload_n dL_law_638 rfl (V_iconst dL_law_639 (V_iadd dL_law_640 (V_iald (t := 200) s_a0 (by decide) rfl h.2.2.1 h.2.2.2.1 l_L dL_law_641 (V_aload_n dL_law_642 rfl (V_iload_n dL_law_643 rfl (V_iconst dL_law_644 (V_iadd dL_law_645 (V_iald (t := 200) s_a0 (by decide) rfl h.2.2.2.2.1 h.2.2.2.2.2.1 l_L dL_law_646 (V_callV (k' := 0) (n' := 0) (t := 12) (q := (RX12, TX12, 46)) [i_ (Z a0 (v3 + 1).toNat), i_ (Z a0 (v3 + 2).toNat), i_ (Z a0 (v3 + 3).toNat)] [i_ t0] okX12_order o_a2.1 rfl rfl lm_L_67 liX12_order lqX12_order (Nat.le_of_ble_eq_true rfl) (Nat.le_of_ble_eq_true rfl) (Nat.le_of_ble_eq_true rfl) (cat_of rfl) (Nat.le_of_ble_eq_true rfl) (Nat.zero_le _) (Nat.zero_le _) rfl dL_law_647 h.2.2.2.2.2.2))))))))))))))))
set_option maxRecDepth 20000 in
theorem b_L_law_650 {k n : Nat} {x : Wx} {Z : Zt} {Q : Option Value → Wx → Zt → Prop} {a0 : Nat} {a1 : Nat} {a2 : Nat} {v3 : Int} {t0 : Int} {t1 : Int} 
    (h : t0 = t1 ∧ (V mL_law k n 1513 [some (r_ a0), some (r_ a1), some (r_ a2), some (i_ v3)] [] x Z Q)) :
    V mL_law k n 650 [some (r_ a0), some (r_ a1), some (r_ a2), some (i_ v3)] [i_ t1, i_ t0] x Z Q :=
  V_icmpE (tgt := 1513) dL_law_650 rfl h.1 (V_msk [true, true, true, true] rfl h.2)
set_option maxRecDepth 20000 in
theorem b_L_law_655 {k n : Nat} {x : Wx} {Z : Zt} {Q : Option Value → Wx → Zt → Prop} {a0 : Nat} {a1 : Nat} {a2 : Nat} {v3 : Int} {L : Nat} (o_a1 : Is11 x a1) (s_a0 : x.1 a0 = some (200, L)) (l_L : L ≤ 2147483647)
    (h : 0 ≤ v3 + 1 ∧ v3 + 1 < L ∧ (0 ≤ v3 + 2 ∧ v3 + 2 < L ∧ (0 ≤ v3 + 3 ∧ v3 + 3 < L ∧ (V mX11_norm 0 0 0 [some (r_ a1), some (i_ (Z a0 (v3 + 1).toNat)), some (i_ (Z a0 (v3 + 2).toNat)), some (i_ (Z a0 (v3 + 3).toNat)), none] [] x Z (fun v9 x9 Z9 => V mL_law k n 674 [some (r_ a0), some (r_ a1), some (r_ a2), some (i_ v3)] (v9.toList ++ []) x9 Z9 Q))))) :
    V mL_law k n 655 [some (r_ a0), some (r_ a1), some (r_ a2), some (i_ v3)] [] x Z Q :=
  V_aload_n dL_law_655 rfl (V_aload_n dL_law_656 rfl (V_iload_n dL_law_657 rfl (V_iconst dL_law_658 (V_iadd dL_law_659 (V_iald (t := 200) s_a0 (by decide) rfl h.1 h.2.1 l_L dL_law_660 (V_aload_n dL_law_661 rfl (V_iload_n dL_law_662 rfl (V_iconst dL_law_663 (V_iadd dL_law_664 (V_iald (t := 200) s_a0 (by decide) rfl h.2.2.1 h.2.2.2.1 l_L dL_law_665 (V_aload_n dL_law_666 rfl (V_iload_n dL_law_667 rfl (V_iconst dL_law_668 (V_iadd dL_law_669 (V_iald (t := 200) s_a0 (by decide) rfl h.2.2.2.2.1 h.2.2.2.2.2.1 l_L dL_law_670 (V_callV (k' := 0) (n' := 0) (t := 11) (q := (RX11, TX11, 17)) [i_ (Z a0 (v3 + 1).toNat), i_ (Z a0 (v3 + 2).toNat), i_ (Z a0 (v3 + 3).toNat)] [] okX11_norm o_a1.1 rfl rfl lm_L_68 liX11_norm lqX11_norm (Nat.le_of_ble_eq_true rfl) (Nat.le_of_ble_eq_true rfl) (Nat.le_of_ble_eq_true rfl) (cat_of rfl) (Nat.le_of_ble_eq_true rfl) (Nat.zero_le _) (Nat.zero_le _) rfl dL_law_671 h.2.2.2.2.2.2))))))))))))))))
set_option maxRecDepth 20000 in
theorem b_L_law_674 {k n : Nat} {x : Wx} {Z : Zt} {Q : Option Value → Wx → Zt → Prop} {a0 : Nat} {a1 : Nat} {a2 : Nat} {v3 : Int} {t0 : Int} {L : Nat} (o_a2 : Is12 x a2) (s_a0 : x.1 a0 = some (200, L)) (l_L : L ≤ 2147483647)
    (h : 0 ≤ v3 + 1 ∧ v3 + 1 < L ∧ (0 ≤ v3 + 2 ∧ v3 + 2 < L ∧ (0 ≤ v3 + 3 ∧ v3 + 3 < L ∧ (V mX12_norm 0 0 0 [some (r_ a2), some (i_ (Z a0 (v3 + 1).toNat)), some (i_ (Z a0 (v3 + 2).toNat)), some (i_ (Z a0 (v3 + 3).toNat)), none, none, none, none] [] x Z (fun v9 x9 Z9 => V mL_law k n 693 [some (r_ a0), some (r_ a1), some (r_ a2), some (i_ v3)] (v9.toList ++ [i_ t0]) x9 Z9 Q))))) :
    V mL_law k n 674 [some (r_ a0), some (r_ a1), some (r_ a2), some (i_ v3)] [i_ t0] x Z Q :=
  V_aload_n dL_law_674 rfl (V_aload_n dL_law_675 rfl (V_iload_n dL_law_676 rfl (V_iconst dL_law_677 (V_iadd dL_law_678 (V_iald (t := 200) s_a0 (by decide) rfl h.1 h.2.1 l_L dL_law_679 (V_aload_n dL_law_680 rfl (V_iload_n dL_law_681 rfl (V_iconst dL_law_682 (V_iadd dL_law_683 (V_iald (t := 200) s_a0 (by decide) rfl h.2.2.1 h.2.2.2.1 l_L dL_law_684 (V_aload_n dL_law_685 rfl (V_iload_n dL_law_686 rfl (V_iconst dL_law_687 (V_iadd dL_law_688 (V_iald (t := 200) s_a0 (by decide) rfl h.2.2.2.2.1 h.2.2.2.2.2.1 l_L dL_law_689 (V_callV (k' := 0) (n' := 0) (t := 12) (q := (RX12, TX12, 46)) [i_ (Z a0 (v3 + 1).toNat), i_ (Z a0 (v3 + 2).toNat), i_ (Z a0 (v3 + 3).toNat)] [i_ t0] okX12_norm o_a2.1 rfl rfl lm_L_71 liX12_norm lqX12_norm (Nat.le_of_ble_eq_true rfl) (Nat.le_of_ble_eq_true rfl) (Nat.le_of_ble_eq_true rfl) (cat_of rfl) (Nat.le_of_ble_eq_true rfl) (Nat.zero_le _) (Nat.zero_le _) rfl dL_law_690 h.2.2.2.2.2.2))))))))))))))))
set_option maxRecDepth 20000 in
theorem b_L_law_693 {k n : Nat} {x : Wx} {Z : Zt} {Q : Option Value → Wx → Zt → Prop} {a0 : Nat} {a1 : Nat} {a2 : Nat} {v3 : Int} {t0 : Int} {t1 : Int} 
    (h : t0 = t1 ∧ (V mL_law k n 1513 [some (r_ a0), some (r_ a1), some (r_ a2), some (i_ v3)] [] x Z Q)) :
    V mL_law k n 693 [some (r_ a0), some (r_ a1), some (r_ a2), some (i_ v3)] [i_ t1, i_ t0] x Z Q :=
  V_icmpE (tgt := 1513) dL_law_693 rfl h.1 (V_msk [true, true, true, true] rfl h.2)
set_option maxRecDepth 20000 in
theorem b_L_law_698 {k n : Nat} {x : Wx} {Z : Zt} {Q : Option Value → Wx → Zt → Prop} {a0 : Nat} {a1 : Nat} {a2 : Nat} {v3 : Int} {L : Nat} (o_a1 : Is11 x a1) (s_a0 : x.1 a0 = some (200, L)) (l_L : L ≤ 2147483647)
    (h : 0 ≤ v3 + 1 ∧ v3 + 1 < L ∧ (0 ≤ v3 + 2 ∧ v3 + 2 < L ∧ (0 ≤ v3 + 3 ∧ v3 + 3 < L ∧ (V mX11_room 0 0 0 [some (r_ a1), some (i_ (Z a0 (v3 + 1).toNat)), some (i_ (Z a0 (v3 + 2).toNat)), some (i_ (Z a0 (v3 + 3).toNat))] [] x Z (fun v9 x9 Z9 => V mL_law k n 717 [some (r_ a0), some (r_ a1), some (r_ a2), some (i_ v3)] (v9.toList ++ []) x9 Z9 Q))))) :
    V mL_law k n 698 [some (r_ a0), some (r_ a1), some (r_ a2), some (i_ v3)] [] x Z Q :=
  V_aload_n dL_law_698 rfl (V_aload_n dL_law_699 rfl (V_iload_n dL_law_700 rfl (V_iconst dL_law_701 (V_iadd dL_law_702 (V_iald (t := 200) s_a0 (by decide) rfl h.1 h.2.1 l_L dL_law_703 (V_aload_n dL_law_704 rfl (V_iload_n dL_law_705 rfl (V_iconst dL_law_706 (V_iadd dL_law_707 (V_iald (t := 200) s_a0 (by decide) rfl h.2.2.1 h.2.2.2.1 l_L dL_law_708 (V_aload_n dL_law_709 rfl (V_iload_n dL_law_710 rfl (V_iconst dL_law_711 (V_iadd dL_law_712 (V_iald (t := 200) s_a0 (by decide) rfl h.2.2.2.2.1 h.2.2.2.2.2.1 l_L dL_law_713 (V_callV (k' := 0) (n' := 0) (t := 11) (q := (RX11, TX11, 17)) [i_ (Z a0 (v3 + 1).toNat), i_ (Z a0 (v3 + 2).toNat), i_ (Z a0 (v3 + 3).toNat)] [] okX11_room o_a1.1 rfl rfl lm_L_72 liX11_room lqX11_room (Nat.le_of_ble_eq_true rfl) (Nat.le_of_ble_eq_true rfl) (Nat.le_of_ble_eq_true rfl) (cat_of rfl) (Nat.le_of_ble_eq_true rfl) (Nat.zero_le _) (Nat.zero_le _) rfl dL_law_714 h.2.2.2.2.2.2))))))))))))))))
set_option maxRecDepth 20000 in
theorem b_L_law_717 {k n : Nat} {x : Wx} {Z : Zt} {Q : Option Value → Wx → Zt → Prop} {a0 : Nat} {a1 : Nat} {a2 : Nat} {v3 : Int} {t0 : Int} {L : Nat} (o_a2 : Is12 x a2) (s_a0 : x.1 a0 = some (200, L)) (l_L : L ≤ 2147483647)
    (h : 0 ≤ v3 + 1 ∧ v3 + 1 < L ∧ (0 ≤ v3 + 2 ∧ v3 + 2 < L ∧ (0 ≤ v3 + 3 ∧ v3 + 3 < L ∧ (V mX12_room 0 0 0 [some (r_ a2), some (i_ (Z a0 (v3 + 1).toNat)), some (i_ (Z a0 (v3 + 2).toNat)), some (i_ (Z a0 (v3 + 3).toNat)), none] [] x Z (fun v9 x9 Z9 => V mL_law k n 736 [some (r_ a0), some (r_ a1), some (r_ a2), some (i_ v3)] (v9.toList ++ [i_ t0]) x9 Z9 Q))))) :
    V mL_law k n 717 [some (r_ a0), some (r_ a1), some (r_ a2), some (i_ v3)] [i_ t0] x Z Q :=
  V_aload_n dL_law_717 rfl (V_aload_n dL_law_718 rfl (V_iload_n dL_law_719 rfl (V_iconst dL_law_720 (V_iadd dL_law_721 (V_iald (t := 200) s_a0 (by decide) rfl h.1 h.2.1 l_L dL_law_722 (V_aload_n dL_law_723 rfl (V_iload_n dL_law_724 rfl (V_iconst dL_law_725 (V_iadd dL_law_726 (V_iald (t := 200) s_a0 (by decide) rfl h.2.2.1 h.2.2.2.1 l_L dL_law_727 (V_aload_n dL_law_728 rfl (V_iload_n dL_law_729 rfl (V_iconst dL_law_730 (V_iadd dL_law_731 (V_iald (t := 200) s_a0 (by decide) rfl h.2.2.2.2.1 h.2.2.2.2.2.1 l_L dL_law_732 (V_callV (k' := 0) (n' := 0) (t := 12) (q := (RX12, TX12, 46)) [i_ (Z a0 (v3 + 1).toNat), i_ (Z a0 (v3 + 2).toNat), i_ (Z a0 (v3 + 3).toNat)] [i_ t0] okX12_room o_a2.1 rfl rfl lm_L_75 liX12_room lqX12_room (Nat.le_of_ble_eq_true rfl) (Nat.le_of_ble_eq_true rfl) (Nat.le_of_ble_eq_true rfl) (cat_of rfl) (Nat.le_of_ble_eq_true rfl) (Nat.zero_le _) (Nat.zero_le _) rfl dL_law_733 h.2.2.2.2.2.2))))))))))))))))
set_option maxRecDepth 20000 in
theorem b_L_law_736 {k n : Nat} {x : Wx} {Z : Zt} {Q : Option Value → Wx → Zt → Prop} {a0 : Nat} {a1 : Nat} {a2 : Nat} {v3 : Int} {t0 : Int} {t1 : Int} 
    (h : t0 = t1 ∧ (V mL_law k n 1513 [some (r_ a0), some (r_ a1), some (r_ a2), some (i_ v3)] [] x Z Q)) :
    V mL_law k n 736 [some (r_ a0), some (r_ a1), some (r_ a2), some (i_ v3)] [i_ t1, i_ t0] x Z Q :=
  V_icmpE (tgt := 1513) dL_law_736 rfl h.1 (V_msk [true, true, true, true] rfl h.2)
set_option maxRecDepth 20000 in
theorem b_L_law_741 {k n : Nat} {x : Wx} {Z : Zt} {Q : Option Value → Wx → Zt → Prop} {a0 : Nat} {a1 : Nat} {a2 : Nat} {v3 : Int} {L : Nat} (o_a1 : Is11 x a1) (s_a0 : x.1 a0 = some (200, L)) (l_L : L ≤ 2147483647)
    (h : 0 ≤ v3 + 1 ∧ v3 + 1 < L ∧ (0 ≤ v3 + 2 ∧ v3 + 2 < L ∧ (0 ≤ v3 + 3 ∧ v3 + 3 < L ∧ (0 ≤ v3 + 4 ∧ v3 + 4 < L ∧ (Rg (Z a0 (v3 + 4).toNat) ∧ (((Z a0 (v3 + 4).toNat = 0) → (0 ≤ v3 + 5 ∧ v3 + 5 < L ∧ (V mX11_base 0 0 0 [some (r_ a1), some (i_ (Z a0 (v3 + 1).toNat)), some (i_ (Z a0 (v3 + 2).toNat)), some (i_ (Z a0 (v3 + 3).toNat)), some (i_ 0), some (i_ (Z a0 (v3 + 5).toNat)), none] [] x Z (fun v9 x9 Z9 => V mL_law k n 778 [some (r_ a0), some (r_ a1), some (r_ a2), some (i_ v3)] (v9.toList ++ []) x9 Z9 Q)))) ∧ ((Z a0 (v3 + 4).toNat ≠ 0) → (0 ≤ v3 + 5 ∧ v3 + 5 < L ∧ (V mX11_base 0 0 0 [some (r_ a1), some (i_ (Z a0 (v3 + 1).toNat)), some (i_ (Z a0 (v3 + 2).toNat)), some (i_ (Z a0 (v3 + 3).toNat)), some (i_ 1), some (i_ (Z a0 (v3 + 5).toNat)), none] [] x Z (fun v9 x9 Z9 => V mL_law k n 778 [some (r_ a0), some (r_ a1), some (r_ a2), some (i_ v3)] (v9.toList ++ []) x9 Z9 Q)))))))))) :
    V mL_law k n 741 [some (r_ a0), some (r_ a1), some (r_ a2), some (i_ v3)] [] x Z Q :=
  V_aload_n dL_law_741 rfl (V_aload_n dL_law_742 rfl (V_iload_n dL_law_743 rfl (V_iconst dL_law_744 (V_iadd dL_law_745 (V_iald (t := 200) s_a0 (by decide) rfl h.1 h.2.1 l_L dL_law_746 (V_aload_n dL_law_747 rfl (V_iload_n dL_law_748 rfl (V_iconst dL_law_749 (V_iadd dL_law_750 (V_iald (t := 200) s_a0 (by decide) rfl h.2.2.1 h.2.2.2.1 l_L dL_law_751 (V_aload_n dL_law_752 rfl (V_iload_n dL_law_753 rfl (V_iconst dL_law_754 (V_iadd dL_law_755 (V_iald (t := 200) s_a0 (by decide) rfl h.2.2.2.2.1 h.2.2.2.2.2.1 l_L dL_law_756 (V_aload_n dL_law_757 rfl (V_iload_n dL_law_758 rfl (V_iconst dL_law_759 (V_iadd dL_law_760 (V_iald (t := 200) s_a0 (by decide) rfl h.2.2.2.2.2.2.1 h.2.2.2.2.2.2.2.1 l_L dL_law_761 (V_if_eq (tgt := 769) dL_law_762 rfl h.2.2.2.2.2.2.2.2.1 (fun c1 => V_iconst dL_law_769 (V_aload_n dL_law_770 rfl (V_iload_n dL_law_771 rfl (V_iconst dL_law_772 (V_iadd dL_law_773 (V_iald (t := 200) s_a0 (by decide) rfl (h.2.2.2.2.2.2.2.2.2.1 c1).1 (h.2.2.2.2.2.2.2.2.2.1 c1).2.1 l_L dL_law_774 (V_callV (k' := 0) (n' := 0) (t := 11) (q := (RX11, TX11, 17)) [i_ (Z a0 (v3 + 1).toNat), i_ (Z a0 (v3 + 2).toNat), i_ (Z a0 (v3 + 3).toNat), i_ 0, i_ (Z a0 (v3 + 5).toNat)] [] okX11_base o_a1.1 rfl rfl lm_L_76 liX11_base lqX11_base (Nat.le_of_ble_eq_true rfl) (Nat.le_of_ble_eq_true rfl) (Nat.le_of_ble_eq_true rfl) (cat_of rfl) (Nat.le_of_ble_eq_true rfl) (Nat.zero_le _) (Nat.zero_le _) rfl dL_law_775 (h.2.2.2.2.2.2.2.2.2.1 c1).2.2))))))) (fun c1 => V_iconst dL_law_765 (V_goto (tgt := 770) dL_law_766 rfl (V_aload_n dL_law_770 rfl (V_iload_n dL_law_771 rfl (V_iconst dL_law_772 (V_iadd dL_law_773 (V_iald (t := 200) s_a0 (by decide) rfl (h.2.2.2.2.2.2.2.2.2.2 c1).1 (h.2.2.2.2.2.2.2.2.2.2 c1).2.1 l_L dL_law_774 (V_callV (k' := 0) (n' := 0) (t := 11) (q := (RX11, TX11, 17)) [i_ (Z a0 (v3 + 1).toNat), i_ (Z a0 (v3 + 2).toNat), i_ (Z a0 (v3 + 3).toNat), i_ 1, i_ (Z a0 (v3 + 5).toNat)] [] okX11_base o_a1.1 rfl rfl lm_L_76 liX11_base lqX11_base (Nat.le_of_ble_eq_true rfl) (Nat.le_of_ble_eq_true rfl) (Nat.le_of_ble_eq_true rfl) (cat_of rfl) (Nat.le_of_ble_eq_true rfl) (Nat.zero_le _) (Nat.zero_le _) rfl dL_law_775 (h.2.2.2.2.2.2.2.2.2.2 c1).2.2)))))))))))))))))))))))))))))
set_option maxRecDepth 20000 in
theorem b_L_law_778 {k n : Nat} {x : Wx} {Z : Zt} {Q : Option Value → Wx → Zt → Prop} {a0 : Nat} {a1 : Nat} {a2 : Nat} {v3 : Int} {t0 : Int} {L : Nat} (o_a2 : Is12 x a2) (s_a0 : x.1 a0 = some (200, L)) (l_L : L ≤ 2147483647)
    (h : 0 ≤ v3 + 1 ∧ v3 + 1 < L ∧ (0 ≤ v3 + 2 ∧ v3 + 2 < L ∧ (0 ≤ v3 + 3 ∧ v3 + 3 < L ∧ (0 ≤ v3 + 4 ∧ v3 + 4 < L ∧ (Rg (Z a0 (v3 + 4).toNat) ∧ (((Z a0 (v3 + 4).toNat = 0) → (0 ≤ v3 + 5 ∧ v3 + 5 < L ∧ (V mX12_base 0 0 0 [some (r_ a2), some (i_ (Z a0 (v3 + 1).toNat)), some (i_ (Z a0 (v3 + 2).toNat)), some (i_ (Z a0 (v3 + 3).toNat)), some (i_ 0), some (i_ (Z a0 (v3 + 5).toNat)), none] [] x Z (fun v9 x9 Z9 => V mL_law k n 815 [some (r_ a0), some (r_ a1), some (r_ a2), some (i_ v3)] (v9.toList ++ [i_ t0]) x9 Z9 Q)))) ∧ ((Z a0 (v3 + 4).toNat ≠ 0) → (0 ≤ v3 + 5 ∧ v3 + 5 < L ∧ (V mX12_base 0 0 0 [some (r_ a2), some (i_ (Z a0 (v3 + 1).toNat)), some (i_ (Z a0 (v3 + 2).toNat)), some (i_ (Z a0 (v3 + 3).toNat)), some (i_ 1), some (i_ (Z a0 (v3 + 5).toNat)), none] [] x Z (fun v9 x9 Z9 => V mL_law k n 815 [some (r_ a0), some (r_ a1), some (r_ a2), some (i_ v3)] (v9.toList ++ [i_ t0]) x9 Z9 Q)))))))))) :
    V mL_law k n 778 [some (r_ a0), some (r_ a1), some (r_ a2), some (i_ v3)] [i_ t0] x Z Q :=
  V_aload_n dL_law_778 rfl (V_aload_n dL_law_779 rfl (V_iload_n dL_law_780 rfl (V_iconst dL_law_781 (V_iadd dL_law_782 (V_iald (t := 200) s_a0 (by decide) rfl h.1 h.2.1 l_L dL_law_783 (V_aload_n dL_law_784 rfl (V_iload_n dL_law_785 rfl (V_iconst dL_law_786 (V_iadd dL_law_787 (V_iald (t := 200) s_a0 (by decide) rfl h.2.2.1 h.2.2.2.1 l_L dL_law_788 (V_aload_n dL_law_789 rfl (V_iload_n dL_law_790 rfl (V_iconst dL_law_791 (V_iadd dL_law_792 (V_iald (t := 200) s_a0 (by decide) rfl h.2.2.2.2.1 h.2.2.2.2.2.1 l_L dL_law_793 (V_aload_n dL_law_794 rfl (V_iload_n dL_law_795 rfl (V_iconst dL_law_796 (V_iadd dL_law_797 (V_iald (t := 200) s_a0 (by decide) rfl h.2.2.2.2.2.2.1 h.2.2.2.2.2.2.2.1 l_L dL_law_798 (V_if_eq (tgt := 806) dL_law_799 rfl h.2.2.2.2.2.2.2.2.1 (fun c1 => V_iconst dL_law_806 (V_aload_n dL_law_807 rfl (V_iload_n dL_law_808 rfl (V_iconst dL_law_809 (V_iadd dL_law_810 (V_iald (t := 200) s_a0 (by decide) rfl (h.2.2.2.2.2.2.2.2.2.1 c1).1 (h.2.2.2.2.2.2.2.2.2.1 c1).2.1 l_L dL_law_811 (V_callV (k' := 0) (n' := 0) (t := 12) (q := (RX12, TX12, 46)) [i_ (Z a0 (v3 + 1).toNat), i_ (Z a0 (v3 + 2).toNat), i_ (Z a0 (v3 + 3).toNat), i_ 0, i_ (Z a0 (v3 + 5).toNat)] [i_ t0] okX12_base o_a2.1 rfl rfl lm_L_80 liX12_base lqX12_base (Nat.le_of_ble_eq_true rfl) (Nat.le_of_ble_eq_true rfl) (Nat.le_of_ble_eq_true rfl) (cat_of rfl) (Nat.le_of_ble_eq_true rfl) (Nat.zero_le _) (Nat.zero_le _) rfl dL_law_812 (h.2.2.2.2.2.2.2.2.2.1 c1).2.2))))))) (fun c1 => V_iconst dL_law_802 (V_goto (tgt := 807) dL_law_803 rfl (V_aload_n dL_law_807 rfl (V_iload_n dL_law_808 rfl (V_iconst dL_law_809 (V_iadd dL_law_810 (V_iald (t := 200) s_a0 (by decide) rfl (h.2.2.2.2.2.2.2.2.2.2 c1).1 (h.2.2.2.2.2.2.2.2.2.2 c1).2.1 l_L dL_law_811 (V_callV (k' := 0) (n' := 0) (t := 12) (q := (RX12, TX12, 46)) [i_ (Z a0 (v3 + 1).toNat), i_ (Z a0 (v3 + 2).toNat), i_ (Z a0 (v3 + 3).toNat), i_ 1, i_ (Z a0 (v3 + 5).toNat)] [i_ t0] okX12_base o_a2.1 rfl rfl lm_L_80 liX12_base lqX12_base (Nat.le_of_ble_eq_true rfl) (Nat.le_of_ble_eq_true rfl) (Nat.le_of_ble_eq_true rfl) (cat_of rfl) (Nat.le_of_ble_eq_true rfl) (Nat.zero_le _) (Nat.zero_le _) rfl dL_law_812 (h.2.2.2.2.2.2.2.2.2.2 c1).2.2)))))))))))))))))))))))))))))
set_option maxRecDepth 20000 in
theorem b_L_law_815 {k n : Nat} {x : Wx} {Z : Zt} {Q : Option Value → Wx → Zt → Prop} {a0 : Nat} {a1 : Nat} {a2 : Nat} {v3 : Int} {t0 : Int} {t1 : Int} 
    (h : t0 = t1 ∧ (V mL_law k n 1513 [some (r_ a0), some (r_ a1), some (r_ a2), some (i_ v3)] [] x Z Q)) :
    V mL_law k n 815 [some (r_ a0), some (r_ a1), some (r_ a2), some (i_ v3)] [i_ t1, i_ t0] x Z Q :=
  V_icmpE (tgt := 1513) dL_law_815 rfl h.1 (V_msk [true, true, true, true] rfl h.2)
set_option maxRecDepth 20000 in
theorem b_L_law_820 {k n : Nat} {x : Wx} {Z : Zt} {Q : Option Value → Wx → Zt → Prop} {a0 : Nat} {a1 : Nat} {a2 : Nat} {v3 : Int} {L : Nat} (o_a1 : Is11 x a1) (s_a0 : x.1 a0 = some (200, L)) (l_L : L ≤ 2147483647)
    (h : 0 ≤ v3 + 1 ∧ v3 + 1 < L ∧ (0 ≤ v3 + 2 ∧ v3 + 2 < L ∧ (0 ≤ v3 + 3 ∧ v3 + 3 < L ∧ (V mX11_under 0 0 0 [some (r_ a1), some (i_ (Z a0 (v3 + 1).toNat)), some (i_ (Z a0 (v3 + 2).toNat)), some (i_ (Z a0 (v3 + 3).toNat))] [] x Z (fun v9 x9 Z9 => V mL_law k n 839 [some (r_ a0), some (r_ a1), some (r_ a2), some (i_ v3)] (v9.toList ++ []) x9 Z9 Q))))) :
    V mL_law k n 820 [some (r_ a0), some (r_ a1), some (r_ a2), some (i_ v3)] [] x Z Q :=
  V_aload_n dL_law_820 rfl (V_aload_n dL_law_821 rfl (V_iload_n dL_law_822 rfl (V_iconst dL_law_823 (V_iadd dL_law_824 (V_iald (t := 200) s_a0 (by decide) rfl h.1 h.2.1 l_L dL_law_825 (V_aload_n dL_law_826 rfl (V_iload_n dL_law_827 rfl (V_iconst dL_law_828 (V_iadd dL_law_829 (V_iald (t := 200) s_a0 (by decide) rfl h.2.2.1 h.2.2.2.1 l_L dL_law_830 (V_aload_n dL_law_831 rfl (V_iload_n dL_law_832 rfl (V_iconst dL_law_833 (V_iadd dL_law_834 (V_iald (t := 200) s_a0 (by decide) rfl h.2.2.2.2.1 h.2.2.2.2.2.1 l_L dL_law_835 (V_callV (k' := 0) (n' := 0) (t := 11) (q := (RX11, TX11, 17)) [i_ (Z a0 (v3 + 1).toNat), i_ (Z a0 (v3 + 2).toNat), i_ (Z a0 (v3 + 3).toNat)] [] okX11_under o_a1.1 rfl rfl lm_L_81 liX11_under lqX11_under (Nat.le_of_ble_eq_true rfl) (Nat.le_of_ble_eq_true rfl) (Nat.le_of_ble_eq_true rfl) (cat_of rfl) (Nat.le_of_ble_eq_true rfl) (Nat.zero_le _) (Nat.zero_le _) rfl dL_law_836 h.2.2.2.2.2.2))))))))))))))))
set_option maxRecDepth 20000 in
theorem b_L_law_839 {k n : Nat} {x : Wx} {Z : Zt} {Q : Option Value → Wx → Zt → Prop} {a0 : Nat} {a1 : Nat} {a2 : Nat} {v3 : Int} {t0 : Int} {L : Nat} (o_a2 : Is12 x a2) (s_a0 : x.1 a0 = some (200, L)) (l_L : L ≤ 2147483647)
    (h : 0 ≤ v3 + 1 ∧ v3 + 1 < L ∧ (0 ≤ v3 + 2 ∧ v3 + 2 < L ∧ (0 ≤ v3 + 3 ∧ v3 + 3 < L ∧ (V mX12_under 0 0 0 [some (r_ a2), some (i_ (Z a0 (v3 + 1).toNat)), some (i_ (Z a0 (v3 + 2).toNat)), some (i_ (Z a0 (v3 + 3).toNat))] [] x Z (fun v9 x9 Z9 => V mL_law k n 858 [some (r_ a0), some (r_ a1), some (r_ a2), some (i_ v3)] (v9.toList ++ [i_ t0]) x9 Z9 Q))))) :
    V mL_law k n 839 [some (r_ a0), some (r_ a1), some (r_ a2), some (i_ v3)] [i_ t0] x Z Q :=
  V_aload_n dL_law_839 rfl (V_aload_n dL_law_840 rfl (V_iload_n dL_law_841 rfl (V_iconst dL_law_842 (V_iadd dL_law_843 (V_iald (t := 200) s_a0 (by decide) rfl h.1 h.2.1 l_L dL_law_844 (V_aload_n dL_law_845 rfl (V_iload_n dL_law_846 rfl (V_iconst dL_law_847 (V_iadd dL_law_848 (V_iald (t := 200) s_a0 (by decide) rfl h.2.2.1 h.2.2.2.1 l_L dL_law_849 (V_aload_n dL_law_850 rfl (V_iload_n dL_law_851 rfl (V_iconst dL_law_852 (V_iadd dL_law_853 (V_iald (t := 200) s_a0 (by decide) rfl h.2.2.2.2.1 h.2.2.2.2.2.1 l_L dL_law_854 (V_callV (k' := 0) (n' := 0) (t := 12) (q := (RX12, TX12, 46)) [i_ (Z a0 (v3 + 1).toNat), i_ (Z a0 (v3 + 2).toNat), i_ (Z a0 (v3 + 3).toNat)] [i_ t0] okX12_under o_a2.1 rfl rfl lm_L_84 liX12_under lqX12_under (Nat.le_of_ble_eq_true rfl) (Nat.le_of_ble_eq_true rfl) (Nat.le_of_ble_eq_true rfl) (cat_of rfl) (Nat.le_of_ble_eq_true rfl) (Nat.zero_le _) (Nat.zero_le _) rfl dL_law_855 h.2.2.2.2.2.2))))))))))))))))
set_option maxRecDepth 20000 in
theorem b_L_law_858 {k n : Nat} {x : Wx} {Z : Zt} {Q : Option Value → Wx → Zt → Prop} {a0 : Nat} {a1 : Nat} {a2 : Nat} {v3 : Int} {t0 : Int} {t1 : Int} 
    (h : t0 = t1 ∧ (V mL_law k n 1513 [some (r_ a0), some (r_ a1), some (r_ a2), some (i_ v3)] [] x Z Q)) :
    V mL_law k n 858 [some (r_ a0), some (r_ a1), some (r_ a2), some (i_ v3)] [i_ t1, i_ t0] x Z Q :=
  V_icmpE (tgt := 1513) dL_law_858 rfl h.1 (V_msk [true, true, true, true] rfl h.2)
set_option maxRecDepth 20000 in
theorem b_L_law_863 {k n : Nat} {x : Wx} {Z : Zt} {Q : Option Value → Wx → Zt → Prop} {a0 : Nat} {a1 : Nat} {a2 : Nat} {v3 : Int} {L : Nat} (o_a1 : Is11 x a1) (s_a0 : x.1 a0 = some (200, L)) (l_L : L ≤ 2147483647)
    (h : 0 ≤ v3 + 1 ∧ v3 + 1 < L ∧ (0 ≤ v3 + 2 ∧ v3 + 2 < L ∧ (0 ≤ v3 + 3 ∧ v3 + 3 < L ∧ (V mX11_gap 0 0 0 [some (r_ a1), some (i_ (Z a0 (v3 + 1).toNat)), some (i_ (Z a0 (v3 + 2).toNat)), some (i_ (Z a0 (v3 + 3).toNat))] [] x Z (fun v9 x9 Z9 => V mL_law k n 882 [some (r_ a0), some (r_ a1), some (r_ a2), some (i_ v3)] (v9.toList ++ []) x9 Z9 Q))))) :
    V mL_law k n 863 [some (r_ a0), some (r_ a1), some (r_ a2), some (i_ v3)] [] x Z Q :=
  V_aload_n dL_law_863 rfl (V_aload_n dL_law_864 rfl (V_iload_n dL_law_865 rfl (V_iconst dL_law_866 (V_iadd dL_law_867 (V_iald (t := 200) s_a0 (by decide) rfl h.1 h.2.1 l_L dL_law_868 (V_aload_n dL_law_869 rfl (V_iload_n dL_law_870 rfl (V_iconst dL_law_871 (V_iadd dL_law_872 (V_iald (t := 200) s_a0 (by decide) rfl h.2.2.1 h.2.2.2.1 l_L dL_law_873 (V_aload_n dL_law_874 rfl (V_iload_n dL_law_875 rfl (V_iconst dL_law_876 (V_iadd dL_law_877 (V_iald (t := 200) s_a0 (by decide) rfl h.2.2.2.2.1 h.2.2.2.2.2.1 l_L dL_law_878 (V_callV (k' := 0) (n' := 0) (t := 11) (q := (RX11, TX11, 17)) [i_ (Z a0 (v3 + 1).toNat), i_ (Z a0 (v3 + 2).toNat), i_ (Z a0 (v3 + 3).toNat)] [] okX11_gap o_a1.1 rfl rfl lm_L_85 liX11_gap lqX11_gap (Nat.le_of_ble_eq_true rfl) (Nat.le_of_ble_eq_true rfl) (Nat.le_of_ble_eq_true rfl) (cat_of rfl) (Nat.le_of_ble_eq_true rfl) (Nat.zero_le _) (Nat.zero_le _) rfl dL_law_879 h.2.2.2.2.2.2))))))))))))))))
set_option maxRecDepth 20000 in
theorem b_L_law_882 {k n : Nat} {x : Wx} {Z : Zt} {Q : Option Value → Wx → Zt → Prop} {a0 : Nat} {a1 : Nat} {a2 : Nat} {v3 : Int} {t0 : Int} {L : Nat} (o_a2 : Is12 x a2) (s_a0 : x.1 a0 = some (200, L)) (l_L : L ≤ 2147483647)
    (h : 0 ≤ v3 + 1 ∧ v3 + 1 < L ∧ (0 ≤ v3 + 2 ∧ v3 + 2 < L ∧ (0 ≤ v3 + 3 ∧ v3 + 3 < L ∧ (V mX12_gap 0 0 0 [some (r_ a2), some (i_ (Z a0 (v3 + 1).toNat)), some (i_ (Z a0 (v3 + 2).toNat)), some (i_ (Z a0 (v3 + 3).toNat)), none, none, none, none] [] x Z (fun v9 x9 Z9 => V mL_law k n 901 [some (r_ a0), some (r_ a1), some (r_ a2), some (i_ v3)] (v9.toList ++ [i_ t0]) x9 Z9 Q))))) :
    V mL_law k n 882 [some (r_ a0), some (r_ a1), some (r_ a2), some (i_ v3)] [i_ t0] x Z Q :=
  V_aload_n dL_law_882 rfl (V_aload_n dL_law_883 rfl (V_iload_n dL_law_884 rfl (V_iconst dL_law_885 (V_iadd dL_law_886 (V_iald (t := 200) s_a0 (by decide) rfl h.1 h.2.1 l_L dL_law_887 (V_aload_n dL_law_888 rfl (V_iload_n dL_law_889 rfl (V_iconst dL_law_890 (V_iadd dL_law_891 (V_iald (t := 200) s_a0 (by decide) rfl h.2.2.1 h.2.2.2.1 l_L dL_law_892 (V_aload_n dL_law_893 rfl (V_iload_n dL_law_894 rfl (V_iconst dL_law_895 (V_iadd dL_law_896 (V_iald (t := 200) s_a0 (by decide) rfl h.2.2.2.2.1 h.2.2.2.2.2.1 l_L dL_law_897 (V_callV (k' := 0) (n' := 0) (t := 12) (q := (RX12, TX12, 46)) [i_ (Z a0 (v3 + 1).toNat), i_ (Z a0 (v3 + 2).toNat), i_ (Z a0 (v3 + 3).toNat)] [i_ t0] okX12_gap o_a2.1 rfl rfl lm_L_88 liX12_gap lqX12_gap (Nat.le_of_ble_eq_true rfl) (Nat.le_of_ble_eq_true rfl) (Nat.le_of_ble_eq_true rfl) (cat_of rfl) (Nat.le_of_ble_eq_true rfl) (Nat.zero_le _) (Nat.zero_le _) rfl dL_law_898 h.2.2.2.2.2.2))))))))))))))))
set_option maxRecDepth 20000 in
theorem b_L_law_901 {k n : Nat} {x : Wx} {Z : Zt} {Q : Option Value → Wx → Zt → Prop} {a0 : Nat} {a1 : Nat} {a2 : Nat} {v3 : Int} {t0 : Int} {t1 : Int} 
    (h : t0 = t1 ∧ (V mL_law k n 1513 [some (r_ a0), some (r_ a1), some (r_ a2), some (i_ v3)] [] x Z Q)) :
    V mL_law k n 901 [some (r_ a0), some (r_ a1), some (r_ a2), some (i_ v3)] [i_ t1, i_ t0] x Z Q :=
  V_icmpE (tgt := 1513) dL_law_901 rfl h.1 (V_msk [true, true, true, true] rfl h.2)
set_option maxRecDepth 20000 in
theorem b_L_law_906 {k n : Nat} {x : Wx} {Z : Zt} {Q : Option Value → Wx → Zt → Prop} {a0 : Nat} {a1 : Nat} {a2 : Nat} {v3 : Int} {L : Nat} (o_a1 : Is11 x a1) (s_a0 : x.1 a0 = some (200, L)) (l_L : L ≤ 2147483647)
    (h : 0 ≤ v3 + 1 ∧ v3 + 1 < L ∧ (0 ≤ v3 + 2 ∧ v3 + 2 < L ∧ (0 ≤ v3 + 3 ∧ v3 + 3 < L ∧ (0 ≤ v3 + 4 ∧ v3 + 4 < L ∧ (V mX11_times 0 0 0 [some (r_ a1), some (i_ (Z a0 (v3 + 1).toNat)), some (i_ (Z a0 (v3 + 2).toNat)), some (i_ (Z a0 (v3 + 3).toNat)), some (i_ (Z a0 (v3 + 4).toNat))] [] x Z (fun v9 x9 Z9 => V mL_law k n 930 [some (r_ a0), some (r_ a1), some (r_ a2), some (i_ v3)] (v9.toList ++ []) x9 Z9 Q)))))) :
    V mL_law k n 906 [some (r_ a0), some (r_ a1), some (r_ a2), some (i_ v3)] [] x Z Q :=
  V_aload_n dL_law_906 rfl (V_aload_n dL_law_907 rfl (V_iload_n dL_law_908 rfl (V_iconst dL_law_909 (V_iadd dL_law_910 (V_iald (t := 200) s_a0 (by decide) rfl h.1 h.2.1 l_L dL_law_911 (V_aload_n dL_law_912 rfl (V_iload_n dL_law_913 rfl (V_iconst dL_law_914 (V_iadd dL_law_915 (V_iald (t := 200) s_a0 (by decide) rfl h.2.2.1 h.2.2.2.1 l_L dL_law_916 (V_aload_n dL_law_917 rfl (V_iload_n dL_law_918 rfl (V_iconst dL_law_919 (V_iadd dL_law_920 (V_iald (t := 200) s_a0 (by decide) rfl h.2.2.2.2.1 h.2.2.2.2.2.1 l_L dL_law_921 (V_aload_n dL_law_922 rfl (V_iload_n dL_law_923 rfl (V_iconst dL_law_924 (V_iadd dL_law_925 (V_iald (t := 200) s_a0 (by decide) rfl h.2.2.2.2.2.2.1 h.2.2.2.2.2.2.2.1 l_L dL_law_926 (V_callV (k' := 0) (n' := 0) (t := 11) (q := (RX11, TX11, 17)) [i_ (Z a0 (v3 + 1).toNat), i_ (Z a0 (v3 + 2).toNat), i_ (Z a0 (v3 + 3).toNat), i_ (Z a0 (v3 + 4).toNat)] [] okX11_times o_a1.1 rfl rfl lm_L_89 liX11_times lqX11_times (Nat.le_of_ble_eq_true rfl) (Nat.le_of_ble_eq_true rfl) (Nat.le_of_ble_eq_true rfl) (cat_of rfl) (Nat.le_of_ble_eq_true rfl) (Nat.zero_le _) (Nat.zero_le _) rfl dL_law_927 h.2.2.2.2.2.2.2.2)))))))))))))))))))))
set_option maxRecDepth 20000 in
theorem b_L_law_930 {k n : Nat} {x : Wx} {Z : Zt} {Q : Option Value → Wx → Zt → Prop} {a0 : Nat} {a1 : Nat} {a2 : Nat} {v3 : Int} {t0 : Int} {L : Nat} (o_a2 : Is12 x a2) (s_a0 : x.1 a0 = some (200, L)) (l_L : L ≤ 2147483647)
    (h : 0 ≤ v3 + 1 ∧ v3 + 1 < L ∧ (0 ≤ v3 + 2 ∧ v3 + 2 < L ∧ (0 ≤ v3 + 3 ∧ v3 + 3 < L ∧ (0 ≤ v3 + 4 ∧ v3 + 4 < L ∧ (V mX12_times 0 0 0 [some (r_ a2), some (i_ (Z a0 (v3 + 1).toNat)), some (i_ (Z a0 (v3 + 2).toNat)), some (i_ (Z a0 (v3 + 3).toNat)), some (i_ (Z a0 (v3 + 4).toNat))] [] x Z (fun v9 x9 Z9 => V mL_law k n 954 [some (r_ a0), some (r_ a1), some (r_ a2), some (i_ v3)] (v9.toList ++ [i_ t0]) x9 Z9 Q)))))) :
    V mL_law k n 930 [some (r_ a0), some (r_ a1), some (r_ a2), some (i_ v3)] [i_ t0] x Z Q :=
  V_aload_n dL_law_930 rfl (V_aload_n dL_law_931 rfl (V_iload_n dL_law_932 rfl (V_iconst dL_law_933 (V_iadd dL_law_934 (V_iald (t := 200) s_a0 (by decide) rfl h.1 h.2.1 l_L dL_law_935 (V_aload_n dL_law_936 rfl (V_iload_n dL_law_937 rfl (V_iconst dL_law_938 (V_iadd dL_law_939 (V_iald (t := 200) s_a0 (by decide) rfl h.2.2.1 h.2.2.2.1 l_L dL_law_940 (V_aload_n dL_law_941 rfl (V_iload_n dL_law_942 rfl (V_iconst dL_law_943 (V_iadd dL_law_944 (V_iald (t := 200) s_a0 (by decide) rfl h.2.2.2.2.1 h.2.2.2.2.2.1 l_L dL_law_945 (V_aload_n dL_law_946 rfl (V_iload_n dL_law_947 rfl (V_iconst dL_law_948 (V_iadd dL_law_949 (V_iald (t := 200) s_a0 (by decide) rfl h.2.2.2.2.2.2.1 h.2.2.2.2.2.2.2.1 l_L dL_law_950 (V_callV (k' := 0) (n' := 0) (t := 12) (q := (RX12, TX12, 46)) [i_ (Z a0 (v3 + 1).toNat), i_ (Z a0 (v3 + 2).toNat), i_ (Z a0 (v3 + 3).toNat), i_ (Z a0 (v3 + 4).toNat)] [i_ t0] okX12_times o_a2.1 rfl rfl lm_L_93 liX12_times lqX12_times (Nat.le_of_ble_eq_true rfl) (Nat.le_of_ble_eq_true rfl) (Nat.le_of_ble_eq_true rfl) (cat_of rfl) (Nat.le_of_ble_eq_true rfl) (Nat.zero_le _) (Nat.zero_le _) rfl dL_law_951 h.2.2.2.2.2.2.2.2)))))))))))))))))))))
set_option maxRecDepth 20000 in
theorem b_L_law_954 {k n : Nat} {x : Wx} {Z : Zt} {Q : Option Value → Wx → Zt → Prop} {a0 : Nat} {a1 : Nat} {a2 : Nat} {v3 : Int} {t0 : Int} {t1 : Int} 
    (h : t0 = t1 ∧ (V mL_law k n 1513 [some (r_ a0), some (r_ a1), some (r_ a2), some (i_ v3)] [] x Z Q)) :
    V mL_law k n 954 [some (r_ a0), some (r_ a1), some (r_ a2), some (i_ v3)] [i_ t1, i_ t0] x Z Q :=
  V_icmpE (tgt := 1513) dL_law_954 rfl h.1 (V_msk [true, true, true, true] rfl h.2)
set_option maxRecDepth 20000 in
theorem b_L_law_959 {k n : Nat} {x : Wx} {Z : Zt} {Q : Option Value → Wx → Zt → Prop} {a0 : Nat} {a1 : Nat} {a2 : Nat} {v3 : Int} {L : Nat} (o_a1 : Is11 x a1) (s_a0 : x.1 a0 = some (200, L)) (l_L : L ≤ 2147483647)
    (h : 0 ≤ v3 + 1 ∧ v3 + 1 < L ∧ (0 ≤ v3 + 2 ∧ v3 + 2 < L ∧ (0 ≤ v3 + 3 ∧ v3 + 3 < L ∧ (0 ≤ v3 + 4 ∧ v3 + 4 < L ∧ (V mX11_added 0 0 0 [some (r_ a1), some (i_ (Z a0 (v3 + 1).toNat)), some (i_ (Z a0 (v3 + 2).toNat)), some (i_ (Z a0 (v3 + 3).toNat)), some (i_ (Z a0 (v3 + 4).toNat))] [] x Z (fun v9 x9 Z9 => V mL_law k n 983 [some (r_ a0), some (r_ a1), some (r_ a2), some (i_ v3)] (v9.toList ++ []) x9 Z9 Q)))))) :
    V mL_law k n 959 [some (r_ a0), some (r_ a1), some (r_ a2), some (i_ v3)] [] x Z Q :=
  V_aload_n dL_law_959 rfl (V_aload_n dL_law_960 rfl (V_iload_n dL_law_961 rfl (V_iconst dL_law_962 (V_iadd dL_law_963 (V_iald (t := 200) s_a0 (by decide) rfl h.1 h.2.1 l_L dL_law_964 (V_aload_n dL_law_965 rfl (V_iload_n dL_law_966 rfl (V_iconst dL_law_967 (V_iadd dL_law_968 (V_iald (t := 200) s_a0 (by decide) rfl h.2.2.1 h.2.2.2.1 l_L dL_law_969 (V_aload_n dL_law_970 rfl (V_iload_n dL_law_971 rfl (V_iconst dL_law_972 (V_iadd dL_law_973 (V_iald (t := 200) s_a0 (by decide) rfl h.2.2.2.2.1 h.2.2.2.2.2.1 l_L dL_law_974 (V_aload_n dL_law_975 rfl (V_iload_n dL_law_976 rfl (V_iconst dL_law_977 (V_iadd dL_law_978 (V_iald (t := 200) s_a0 (by decide) rfl h.2.2.2.2.2.2.1 h.2.2.2.2.2.2.2.1 l_L dL_law_979 (V_callV (k' := 0) (n' := 0) (t := 11) (q := (RX11, TX11, 17)) [i_ (Z a0 (v3 + 1).toNat), i_ (Z a0 (v3 + 2).toNat), i_ (Z a0 (v3 + 3).toNat), i_ (Z a0 (v3 + 4).toNat)] [] okX11_added o_a1.1 rfl rfl lm_L_94 liX11_added lqX11_added (Nat.le_of_ble_eq_true rfl) (Nat.le_of_ble_eq_true rfl) (Nat.le_of_ble_eq_true rfl) (cat_of rfl) (Nat.le_of_ble_eq_true rfl) (Nat.zero_le _) (Nat.zero_le _) rfl dL_law_980 h.2.2.2.2.2.2.2.2)))))))))))))))))))))
set_option maxRecDepth 20000 in
theorem b_L_law_983 {k n : Nat} {x : Wx} {Z : Zt} {Q : Option Value → Wx → Zt → Prop} {a0 : Nat} {a1 : Nat} {a2 : Nat} {v3 : Int} {t0 : Int} {L : Nat} (o_a2 : Is12 x a2) (s_a0 : x.1 a0 = some (200, L)) (l_L : L ≤ 2147483647)
    (h : 0 ≤ v3 + 1 ∧ v3 + 1 < L ∧ (0 ≤ v3 + 2 ∧ v3 + 2 < L ∧ (0 ≤ v3 + 3 ∧ v3 + 3 < L ∧ (0 ≤ v3 + 4 ∧ v3 + 4 < L ∧ (V mX12_added 0 0 0 [some (r_ a2), some (i_ (Z a0 (v3 + 1).toNat)), some (i_ (Z a0 (v3 + 2).toNat)), some (i_ (Z a0 (v3 + 3).toNat)), some (i_ (Z a0 (v3 + 4).toNat))] [] x Z (fun v9 x9 Z9 => V mL_law k n 1007 [some (r_ a0), some (r_ a1), some (r_ a2), some (i_ v3)] (v9.toList ++ [i_ t0]) x9 Z9 Q)))))) :
    V mL_law k n 983 [some (r_ a0), some (r_ a1), some (r_ a2), some (i_ v3)] [i_ t0] x Z Q :=
  V_aload_n dL_law_983 rfl (V_aload_n dL_law_984 rfl (V_iload_n dL_law_985 rfl (V_iconst dL_law_986 (V_iadd dL_law_987 (V_iald (t := 200) s_a0 (by decide) rfl h.1 h.2.1 l_L dL_law_988 (V_aload_n dL_law_989 rfl (V_iload_n dL_law_990 rfl (V_iconst dL_law_991 (V_iadd dL_law_992 (V_iald (t := 200) s_a0 (by decide) rfl h.2.2.1 h.2.2.2.1 l_L dL_law_993 (V_aload_n dL_law_994 rfl (V_iload_n dL_law_995 rfl (V_iconst dL_law_996 (V_iadd dL_law_997 (V_iald (t := 200) s_a0 (by decide) rfl h.2.2.2.2.1 h.2.2.2.2.2.1 l_L dL_law_998 (V_aload_n dL_law_999 rfl (V_iload_n dL_law_1000 rfl (V_iconst dL_law_1001 (V_iadd dL_law_1002 (V_iald (t := 200) s_a0 (by decide) rfl h.2.2.2.2.2.2.1 h.2.2.2.2.2.2.2.1 l_L dL_law_1003 (V_callV (k' := 0) (n' := 0) (t := 12) (q := (RX12, TX12, 46)) [i_ (Z a0 (v3 + 1).toNat), i_ (Z a0 (v3 + 2).toNat), i_ (Z a0 (v3 + 3).toNat), i_ (Z a0 (v3 + 4).toNat)] [i_ t0] okX12_added o_a2.1 rfl rfl lm_L_97 liX12_added lqX12_added (Nat.le_of_ble_eq_true rfl) (Nat.le_of_ble_eq_true rfl) (Nat.le_of_ble_eq_true rfl) (cat_of rfl) (Nat.le_of_ble_eq_true rfl) (Nat.zero_le _) (Nat.zero_le _) rfl dL_law_1004 h.2.2.2.2.2.2.2.2)))))))))))))))))))))
set_option maxRecDepth 20000 in
theorem b_L_law_1007 {k n : Nat} {x : Wx} {Z : Zt} {Q : Option Value → Wx → Zt → Prop} {a0 : Nat} {a1 : Nat} {a2 : Nat} {v3 : Int} {t0 : Int} {t1 : Int} 
    (h : t0 = t1 ∧ (V mL_law k n 1513 [some (r_ a0), some (r_ a1), some (r_ a2), some (i_ v3)] [] x Z Q)) :
    V mL_law k n 1007 [some (r_ a0), some (r_ a1), some (r_ a2), some (i_ v3)] [i_ t1, i_ t0] x Z Q :=
  V_icmpE (tgt := 1513) dL_law_1007 rfl h.1 (V_msk [true, true, true, true] rfl h.2)
set_option maxRecDepth 20000 in
theorem b_L_law_1012 {k n : Nat} {x : Wx} {Z : Zt} {Q : Option Value → Wx → Zt → Prop} {a0 : Nat} {a1 : Nat} {a2 : Nat} {v3 : Int} {L : Nat} (o_a1 : Is11 x a1) (s_a0 : x.1 a0 = some (200, L)) (l_L : L ≤ 2147483647)
    (h : 0 ≤ v3 + 1 ∧ v3 + 1 < L ∧ (0 ≤ v3 + 2 ∧ v3 + 2 < L ∧ (V mX11_orderOf 0 0 0 [some (r_ a1), some (i_ (Z a0 (v3 + 1).toNat)), some (i_ (Z a0 (v3 + 2).toNat))] [] x Z (fun v9 x9 Z9 => V mL_law k n 1026 [some (r_ a0), some (r_ a1), some (r_ a2), some (i_ v3)] (v9.toList ++ []) x9 Z9 Q)))) :
    V mL_law k n 1012 [some (r_ a0), some (r_ a1), some (r_ a2), some (i_ v3)] [] x Z Q :=
  V_aload_n dL_law_1012 rfl (V_aload_n dL_law_1013 rfl (V_iload_n dL_law_1014 rfl (V_iconst dL_law_1015 (V_iadd dL_law_1016 (V_iald (t := 200) s_a0 (by decide) rfl h.1 h.2.1 l_L dL_law_1017 (V_aload_n dL_law_1018 rfl (V_iload_n dL_law_1019 rfl (V_iconst dL_law_1020 (V_iadd dL_law_1021 (V_iald (t := 200) s_a0 (by decide) rfl h.2.2.1 h.2.2.2.1 l_L dL_law_1022 (V_callV (k' := 0) (n' := 0) (t := 11) (q := (RX11, TX11, 17)) [i_ (Z a0 (v3 + 1).toNat), i_ (Z a0 (v3 + 2).toNat)] [] okX11_orderOf o_a1.1 rfl rfl lm_L_98 liX11_orderOf lqX11_orderOf (Nat.le_of_ble_eq_true rfl) (Nat.le_of_ble_eq_true rfl) (Nat.le_of_ble_eq_true rfl) (cat_of rfl) (Nat.le_of_ble_eq_true rfl) (Nat.zero_le _) (Nat.zero_le _) rfl dL_law_1023 h.2.2.2.2)))))))))))
set_option maxRecDepth 20000 in
theorem b_L_law_1026 {k n : Nat} {x : Wx} {Z : Zt} {Q : Option Value → Wx → Zt → Prop} {a0 : Nat} {a1 : Nat} {a2 : Nat} {v3 : Int} {t0 : Int} {L : Nat} (o_a2 : Is12 x a2) (s_a0 : x.1 a0 = some (200, L)) (l_L : L ≤ 2147483647)
    (h : 0 ≤ v3 + 1 ∧ v3 + 1 < L ∧ (0 ≤ v3 + 2 ∧ v3 + 2 < L ∧ (V mX12_orderOf 0 0 0 [some (r_ a2), some (i_ (Z a0 (v3 + 1).toNat)), some (i_ (Z a0 (v3 + 2).toNat)), none] [] x Z (fun v9 x9 Z9 => V mL_law k n 1040 [some (r_ a0), some (r_ a1), some (r_ a2), some (i_ v3)] (v9.toList ++ [i_ t0]) x9 Z9 Q)))) :
    V mL_law k n 1026 [some (r_ a0), some (r_ a1), some (r_ a2), some (i_ v3)] [i_ t0] x Z Q :=
  V_aload_n dL_law_1026 rfl (V_aload_n dL_law_1027 rfl (V_iload_n dL_law_1028 rfl (V_iconst dL_law_1029 (V_iadd dL_law_1030 (V_iald (t := 200) s_a0 (by decide) rfl h.1 h.2.1 l_L dL_law_1031 (V_aload_n dL_law_1032 rfl (V_iload_n dL_law_1033 rfl (V_iconst dL_law_1034 (V_iadd dL_law_1035 (V_iald (t := 200) s_a0 (by decide) rfl h.2.2.1 h.2.2.2.1 l_L dL_law_1036 (V_callV (k' := 0) (n' := 0) (t := 12) (q := (RX12, TX12, 46)) [i_ (Z a0 (v3 + 1).toNat), i_ (Z a0 (v3 + 2).toNat)] [i_ t0] okX12_orderOf o_a2.1 rfl rfl lm_L_101 liX12_orderOf lqX12_orderOf (Nat.le_of_ble_eq_true rfl) (Nat.le_of_ble_eq_true rfl) (Nat.le_of_ble_eq_true rfl) (cat_of rfl) (Nat.le_of_ble_eq_true rfl) (Nat.zero_le _) (Nat.zero_le _) rfl dL_law_1037 h.2.2.2.2)))))))))))
set_option maxRecDepth 20000 in
theorem b_L_law_1040 {k n : Nat} {x : Wx} {Z : Zt} {Q : Option Value → Wx → Zt → Prop} {a0 : Nat} {a1 : Nat} {a2 : Nat} {v3 : Int} {t0 : Int} {t1 : Int} 
    (h : t0 = t1 ∧ (V mL_law k n 1513 [some (r_ a0), some (r_ a1), some (r_ a2), some (i_ v3)] [] x Z Q)) :
    V mL_law k n 1040 [some (r_ a0), some (r_ a1), some (r_ a2), some (i_ v3)] [i_ t1, i_ t0] x Z Q :=
  V_icmpE (tgt := 1513) dL_law_1040 rfl h.1 (V_msk [true, true, true, true] rfl h.2)
set_option maxRecDepth 20000 in
theorem b_L_law_1045 {k n : Nat} {x : Wx} {Z : Zt} {Q : Option Value → Wx → Zt → Prop} {a0 : Nat} {a1 : Nat} {a2 : Nat} {v3 : Int} {L : Nat} (o_a1 : Is11 x a1) (s_a0 : x.1 a0 = some (200, L)) (l_L : L ≤ 2147483647)
    (h : 0 ≤ v3 + 1 ∧ v3 + 1 < L ∧ (0 ≤ v3 + 2 ∧ v3 + 2 < L ∧ (0 ≤ v3 + 3 ∧ v3 + 3 < L ∧ (V mX11_same 0 0 0 [some (r_ a1), some (i_ (Z a0 (v3 + 1).toNat)), some (i_ (Z a0 (v3 + 2).toNat)), some (i_ (Z a0 (v3 + 3).toNat))] [] x Z (fun v9 x9 Z9 => V mL_law k n 1064 [some (r_ a0), some (r_ a1), some (r_ a2), some (i_ v3)] (v9.toList ++ []) x9 Z9 Q))))) :
    V mL_law k n 1045 [some (r_ a0), some (r_ a1), some (r_ a2), some (i_ v3)] [] x Z Q :=
  V_aload_n dL_law_1045 rfl (V_aload_n dL_law_1046 rfl (V_iload_n dL_law_1047 rfl (V_iconst dL_law_1048 (V_iadd dL_law_1049 (V_iald (t := 200) s_a0 (by decide) rfl h.1 h.2.1 l_L dL_law_1050 (V_aload_n dL_law_1051 rfl (V_iload_n dL_law_1052 rfl (V_iconst dL_law_1053 (V_iadd dL_law_1054 (V_iald (t := 200) s_a0 (by decide) rfl h.2.2.1 h.2.2.2.1 l_L dL_law_1055 (V_aload_n dL_law_1056 rfl (V_iload_n dL_law_1057 rfl (V_iconst dL_law_1058 (V_iadd dL_law_1059 (V_iald (t := 200) s_a0 (by decide) rfl h.2.2.2.2.1 h.2.2.2.2.2.1 l_L dL_law_1060 (V_callV (k' := 0) (n' := 0) (t := 11) (q := (RX11, TX11, 17)) [i_ (Z a0 (v3 + 1).toNat), i_ (Z a0 (v3 + 2).toNat), i_ (Z a0 (v3 + 3).toNat)] [] okX11_same o_a1.1 rfl rfl lm_L_102 liX11_same lqX11_same (Nat.le_of_ble_eq_true rfl) (Nat.le_of_ble_eq_true rfl) (Nat.le_of_ble_eq_true rfl) (cat_of rfl) (Nat.le_of_ble_eq_true rfl) (Nat.zero_le _) (Nat.zero_le _) rfl dL_law_1061 h.2.2.2.2.2.2))))))))))))))))
set_option maxRecDepth 20000 in
theorem b_L_law_1064 {k n : Nat} {x : Wx} {Z : Zt} {Q : Option Value → Wx → Zt → Prop} {a0 : Nat} {a1 : Nat} {a2 : Nat} {v3 : Int} {t0 : Int} {L : Nat} (o_a2 : Is12 x a2) (s_a0 : x.1 a0 = some (200, L)) (l_L : L ≤ 2147483647)
    (h : 0 ≤ v3 + 1 ∧ v3 + 1 < L ∧ (0 ≤ v3 + 2 ∧ v3 + 2 < L ∧ (0 ≤ v3 + 3 ∧ v3 + 3 < L ∧ (V mX12_same 0 0 0 [some (r_ a2), some (i_ (Z a0 (v3 + 1).toNat)), some (i_ (Z a0 (v3 + 2).toNat)), some (i_ (Z a0 (v3 + 3).toNat))] [] x Z (fun v9 x9 Z9 => V mL_law k n 1083 [some (r_ a0), some (r_ a1), some (r_ a2), some (i_ v3)] (v9.toList ++ [i_ t0]) x9 Z9 Q))))) :
    V mL_law k n 1064 [some (r_ a0), some (r_ a1), some (r_ a2), some (i_ v3)] [i_ t0] x Z Q :=
  V_aload_n dL_law_1064 rfl (V_aload_n dL_law_1065 rfl (V_iload_n dL_law_1066 rfl (V_iconst dL_law_1067 (V_iadd dL_law_1068 (V_iald (t := 200) s_a0 (by decide) rfl h.1 h.2.1 l_L dL_law_1069 (V_aload_n dL_law_1070 rfl (V_iload_n dL_law_1071 rfl (V_iconst dL_law_1072 (V_iadd dL_law_1073 (V_iald (t := 200) s_a0 (by decide) rfl h.2.2.1 h.2.2.2.1 l_L dL_law_1074 (V_aload_n dL_law_1075 rfl (V_iload_n dL_law_1076 rfl (V_iconst dL_law_1077 (V_iadd dL_law_1078 (V_iald (t := 200) s_a0 (by decide) rfl h.2.2.2.2.1 h.2.2.2.2.2.1 l_L dL_law_1079 (V_callV (k' := 0) (n' := 0) (t := 12) (q := (RX12, TX12, 46)) [i_ (Z a0 (v3 + 1).toNat), i_ (Z a0 (v3 + 2).toNat), i_ (Z a0 (v3 + 3).toNat)] [i_ t0] okX12_same o_a2.1 rfl rfl lm_L_106 liX12_same lqX12_same (Nat.le_of_ble_eq_true rfl) (Nat.le_of_ble_eq_true rfl) (Nat.le_of_ble_eq_true rfl) (cat_of rfl) (Nat.le_of_ble_eq_true rfl) (Nat.zero_le _) (Nat.zero_le _) rfl dL_law_1080 h.2.2.2.2.2.2))))))))))))))))
set_option maxRecDepth 20000 in
theorem b_L_law_1083 {k n : Nat} {x : Wx} {Z : Zt} {Q : Option Value → Wx → Zt → Prop} {a0 : Nat} {a1 : Nat} {a2 : Nat} {v3 : Int} {t0 : Int} {t1 : Int} 
    (h : t0 = t1 ∧ (V mL_law k n 1513 [some (r_ a0), some (r_ a1), some (r_ a2), some (i_ v3)] [] x Z Q)) :
    V mL_law k n 1083 [some (r_ a0), some (r_ a1), some (r_ a2), some (i_ v3)] [i_ t1, i_ t0] x Z Q :=
  V_icmpE (tgt := 1513) dL_law_1083 rfl h.1 (V_msk [true, true, true, true] rfl h.2)
set_option maxRecDepth 20000 in
theorem b_L_law_1088 {k n : Nat} {x : Wx} {Z : Zt} {Q : Option Value → Wx → Zt → Prop} {a0 : Nat} {a1 : Nat} {a2 : Nat} {v3 : Int} {L : Nat} (o_a1 : Is11 x a1) (s_a0 : x.1 a0 = some (200, L)) (l_L : L ≤ 2147483647)
    (h : 0 ≤ v3 + 1 ∧ v3 + 1 < L ∧ (0 ≤ v3 + 2 ∧ v3 + 2 < L ∧ (0 ≤ v3 + 3 ∧ v3 + 3 < L ∧ (V mX11_log 0 0 0 [some (r_ a1), some (i_ (Z a0 (v3 + 1).toNat)), some (i_ (Z a0 (v3 + 2).toNat)), some (i_ (Z a0 (v3 + 3).toNat))] [] x Z (fun v9 x9 Z9 => V mL_law k n 1107 [some (r_ a0), some (r_ a1), some (r_ a2), some (i_ v3)] (v9.toList ++ []) x9 Z9 Q))))) :
    V mL_law k n 1088 [some (r_ a0), some (r_ a1), some (r_ a2), some (i_ v3)] [] x Z Q :=
  V_aload_n dL_law_1088 rfl (V_aload_n dL_law_1089 rfl (V_iload_n dL_law_1090 rfl (V_iconst dL_law_1091 (V_iadd dL_law_1092 (V_iald (t := 200) s_a0 (by decide) rfl h.1 h.2.1 l_L dL_law_1093 (V_aload_n dL_law_1094 rfl (V_iload_n dL_law_1095 rfl (V_iconst dL_law_1096 (V_iadd dL_law_1097 (V_iald (t := 200) s_a0 (by decide) rfl h.2.2.1 h.2.2.2.1 l_L dL_law_1098 (V_aload_n dL_law_1099 rfl (V_iload_n dL_law_1100 rfl (V_iconst dL_law_1101 (V_iadd dL_law_1102 (V_iald (t := 200) s_a0 (by decide) rfl h.2.2.2.2.1 h.2.2.2.2.2.1 l_L dL_law_1103 (V_callV (k' := 0) (n' := 0) (t := 11) (q := (RX11, TX11, 17)) [i_ (Z a0 (v3 + 1).toNat), i_ (Z a0 (v3 + 2).toNat), i_ (Z a0 (v3 + 3).toNat)] [] okX11_log o_a1.1 rfl rfl lm_L_107 liX11_log lqX11_log (Nat.le_of_ble_eq_true rfl) (Nat.le_of_ble_eq_true rfl) (Nat.le_of_ble_eq_true rfl) (cat_of rfl) (Nat.le_of_ble_eq_true rfl) (Nat.zero_le _) (Nat.zero_le _) rfl dL_law_1104 h.2.2.2.2.2.2))))))))))))))))
set_option maxRecDepth 20000 in
theorem b_L_law_1107 {k n : Nat} {x : Wx} {Z : Zt} {Q : Option Value → Wx → Zt → Prop} {a0 : Nat} {a1 : Nat} {a2 : Nat} {v3 : Int} {t0 : Int} {L : Nat} (o_a2 : Is12 x a2) (s_a0 : x.1 a0 = some (200, L)) (l_L : L ≤ 2147483647)
    (h : 0 ≤ v3 + 1 ∧ v3 + 1 < L ∧ (0 ≤ v3 + 2 ∧ v3 + 2 < L ∧ (0 ≤ v3 + 3 ∧ v3 + 3 < L ∧ (V mX12_log 0 0 0 [some (r_ a2), some (i_ (Z a0 (v3 + 1).toNat)), some (i_ (Z a0 (v3 + 2).toNat)), some (i_ (Z a0 (v3 + 3).toNat)), none] [] x Z (fun v9 x9 Z9 => V mL_law k n 1126 [some (r_ a0), some (r_ a1), some (r_ a2), some (i_ v3)] (v9.toList ++ [i_ t0]) x9 Z9 Q))))) :
    V mL_law k n 1107 [some (r_ a0), some (r_ a1), some (r_ a2), some (i_ v3)] [i_ t0] x Z Q :=
  V_aload_n dL_law_1107 rfl (V_aload_n dL_law_1108 rfl (V_iload_n dL_law_1109 rfl (V_iconst dL_law_1110 (V_iadd dL_law_1111 (V_iald (t := 200) s_a0 (by decide) rfl h.1 h.2.1 l_L dL_law_1112 (V_aload_n dL_law_1113 rfl (V_iload_n dL_law_1114 rfl (V_iconst dL_law_1115 (V_iadd dL_law_1116 (V_iald (t := 200) s_a0 (by decide) rfl h.2.2.1 h.2.2.2.1 l_L dL_law_1117 (V_aload_n dL_law_1118 rfl (V_iload_n dL_law_1119 rfl (V_iconst dL_law_1120 (V_iadd dL_law_1121 (V_iald (t := 200) s_a0 (by decide) rfl h.2.2.2.2.1 h.2.2.2.2.2.1 l_L dL_law_1122 (V_callV (k' := 0) (n' := 0) (t := 12) (q := (RX12, TX12, 46)) [i_ (Z a0 (v3 + 1).toNat), i_ (Z a0 (v3 + 2).toNat), i_ (Z a0 (v3 + 3).toNat)] [i_ t0] okX12_log o_a2.1 rfl rfl lm_L_110 liX12_log lqX12_log (Nat.le_of_ble_eq_true rfl) (Nat.le_of_ble_eq_true rfl) (Nat.le_of_ble_eq_true rfl) (cat_of rfl) (Nat.le_of_ble_eq_true rfl) (Nat.zero_le _) (Nat.zero_le _) rfl dL_law_1123 h.2.2.2.2.2.2))))))))))))))))
set_option maxRecDepth 20000 in
theorem b_L_law_1126 {k n : Nat} {x : Wx} {Z : Zt} {Q : Option Value → Wx → Zt → Prop} {a0 : Nat} {a1 : Nat} {a2 : Nat} {v3 : Int} {t0 : Int} {t1 : Int} 
    (h : t0 = t1 ∧ (V mL_law k n 1513 [some (r_ a0), some (r_ a1), some (r_ a2), some (i_ v3)] [] x Z Q)) :
    V mL_law k n 1126 [some (r_ a0), some (r_ a1), some (r_ a2), some (i_ v3)] [i_ t1, i_ t0] x Z Q :=
  V_icmpE (tgt := 1513) dL_law_1126 rfl h.1 (V_msk [true, true, true, true] rfl h.2)
set_option maxRecDepth 20000 in
theorem b_L_law_1131 {k n : Nat} {x : Wx} {Z : Zt} {Q : Option Value → Wx → Zt → Prop} {a0 : Nat} {a1 : Nat} {a2 : Nat} {v3 : Int} {L : Nat} (o_a1 : Is11 x a1) (s_a0 : x.1 a0 = some (200, L)) (l_L : L ≤ 2147483647)
    (h : 0 ≤ v3 + 1 ∧ v3 + 1 < L ∧ (0 ≤ v3 + 2 ∧ v3 + 2 < L ∧ (V mX11_torsion 0 0 0 [some (r_ a1), some (i_ (Z a0 (v3 + 1).toNat)), some (i_ (Z a0 (v3 + 2).toNat))] [] x Z (fun v9 x9 Z9 => V mL_law k n 1145 [some (r_ a0), some (r_ a1), some (r_ a2), some (i_ v3)] (v9.toList ++ []) x9 Z9 Q)))) :
    V mL_law k n 1131 [some (r_ a0), some (r_ a1), some (r_ a2), some (i_ v3)] [] x Z Q :=
  V_aload_n dL_law_1131 rfl (V_aload_n dL_law_1132 rfl (V_iload_n dL_law_1133 rfl (V_iconst dL_law_1134 (V_iadd dL_law_1135 (V_iald (t := 200) s_a0 (by decide) rfl h.1 h.2.1 l_L dL_law_1136 (V_aload_n dL_law_1137 rfl (V_iload_n dL_law_1138 rfl (V_iconst dL_law_1139 (V_iadd dL_law_1140 (V_iald (t := 200) s_a0 (by decide) rfl h.2.2.1 h.2.2.2.1 l_L dL_law_1141 (V_callV (k' := 0) (n' := 0) (t := 11) (q := (RX11, TX11, 17)) [i_ (Z a0 (v3 + 1).toNat), i_ (Z a0 (v3 + 2).toNat)] [] okX11_torsion o_a1.1 rfl rfl lm_L_111 liX11_torsion lqX11_torsion (Nat.le_of_ble_eq_true rfl) (Nat.le_of_ble_eq_true rfl) (Nat.le_of_ble_eq_true rfl) (cat_of rfl) (Nat.le_of_ble_eq_true rfl) (Nat.zero_le _) (Nat.zero_le _) rfl dL_law_1142 h.2.2.2.2)))))))))))
set_option maxRecDepth 20000 in
theorem b_L_law_1145 {k n : Nat} {x : Wx} {Z : Zt} {Q : Option Value → Wx → Zt → Prop} {a0 : Nat} {a1 : Nat} {a2 : Nat} {v3 : Int} {t0 : Int} {L : Nat} (o_a2 : Is12 x a2) (s_a0 : x.1 a0 = some (200, L)) (l_L : L ≤ 2147483647)
    (h : 0 ≤ v3 + 1 ∧ v3 + 1 < L ∧ (0 ≤ v3 + 2 ∧ v3 + 2 < L ∧ (V mX12_torsion 0 0 0 [some (r_ a2), some (i_ (Z a0 (v3 + 1).toNat)), some (i_ (Z a0 (v3 + 2).toNat)), none, none, none] [] x Z (fun v9 x9 Z9 => V mL_law k n 1159 [some (r_ a0), some (r_ a1), some (r_ a2), some (i_ v3)] (v9.toList ++ [i_ t0]) x9 Z9 Q)))) :
    V mL_law k n 1145 [some (r_ a0), some (r_ a1), some (r_ a2), some (i_ v3)] [i_ t0] x Z Q :=
  V_aload_n dL_law_1145 rfl (V_aload_n dL_law_1146 rfl (V_iload_n dL_law_1147 rfl (V_iconst dL_law_1148 (V_iadd dL_law_1149 (V_iald (t := 200) s_a0 (by decide) rfl h.1 h.2.1 l_L dL_law_1150 (V_aload_n dL_law_1151 rfl (V_iload_n dL_law_1152 rfl (V_iconst dL_law_1153 (V_iadd dL_law_1154 (V_iald (t := 200) s_a0 (by decide) rfl h.2.2.1 h.2.2.2.1 l_L dL_law_1155 (V_callV (k' := 0) (n' := 0) (t := 12) (q := (RX12, TX12, 46)) [i_ (Z a0 (v3 + 1).toNat), i_ (Z a0 (v3 + 2).toNat)] [i_ t0] okX12_torsion o_a2.1 rfl rfl lm_L_114 liX12_torsion lqX12_torsion (Nat.le_of_ble_eq_true rfl) (Nat.le_of_ble_eq_true rfl) (Nat.le_of_ble_eq_true rfl) (cat_of rfl) (Nat.le_of_ble_eq_true rfl) (Nat.zero_le _) (Nat.zero_le _) rfl dL_law_1156 h.2.2.2.2)))))))))))
set_option maxRecDepth 20000 in
theorem b_L_law_1159 {k n : Nat} {x : Wx} {Z : Zt} {Q : Option Value → Wx → Zt → Prop} {a0 : Nat} {a1 : Nat} {a2 : Nat} {v3 : Int} {t0 : Int} {t1 : Int} 
    (h : t0 = t1 ∧ (V mL_law k n 1513 [some (r_ a0), some (r_ a1), some (r_ a2), some (i_ v3)] [] x Z Q)) :
    V mL_law k n 1159 [some (r_ a0), some (r_ a1), some (r_ a2), some (i_ v3)] [i_ t1, i_ t0] x Z Q :=
  V_icmpE (tgt := 1513) dL_law_1159 rfl h.1 (V_msk [true, true, true, true] rfl h.2)
set_option maxRecDepth 20000 in
theorem b_L_law_1164 {k n : Nat} {x : Wx} {Z : Zt} {Q : Option Value → Wx → Zt → Prop} {a0 : Nat} {a1 : Nat} {a2 : Nat} {v3 : Int} {L : Nat} (o_a1 : Is11 x a1) (s_a0 : x.1 a0 = some (200, L)) (l_L : L ≤ 2147483647)
    (h : 0 ≤ v3 + 1 ∧ v3 + 1 < L ∧ (0 ≤ v3 + 2 ∧ v3 + 2 < L ∧ (0 ≤ v3 + 3 ∧ v3 + 3 < L ∧ (V mX11_change 0 0 0 [some (r_ a1), some (i_ (Z a0 (v3 + 1).toNat)), some (i_ (Z a0 (v3 + 2).toNat)), some (i_ (Z a0 (v3 + 3).toNat)), none] [] x Z (fun v9 x9 Z9 => V mL_law k n 1183 [some (r_ a0), some (r_ a1), some (r_ a2), some (i_ v3)] (v9.toList ++ []) x9 Z9 Q))))) :
    V mL_law k n 1164 [some (r_ a0), some (r_ a1), some (r_ a2), some (i_ v3)] [] x Z Q :=
  V_aload_n dL_law_1164 rfl (V_aload_n dL_law_1165 rfl (V_iload_n dL_law_1166 rfl (V_iconst dL_law_1167 (V_iadd dL_law_1168 (V_iald (t := 200) s_a0 (by decide) rfl h.1 h.2.1 l_L dL_law_1169 (V_aload_n dL_law_1170 rfl (V_iload_n dL_law_1171 rfl (V_iconst dL_law_1172 (V_iadd dL_law_1173 (V_iald (t := 200) s_a0 (by decide) rfl h.2.2.1 h.2.2.2.1 l_L dL_law_1174 (V_aload_n dL_law_1175 rfl (V_iload_n dL_law_1176 rfl (V_iconst dL_law_1177 (V_iadd dL_law_1178 (V_iald (t := 200) s_a0 (by decide) rfl h.2.2.2.2.1 h.2.2.2.2.2.1 l_L dL_law_1179 (V_callV (k' := 0) (n' := 0) (t := 11) (q := (RX11, TX11, 17)) [i_ (Z a0 (v3 + 1).toNat), i_ (Z a0 (v3 + 2).toNat), i_ (Z a0 (v3 + 3).toNat)] [] okX11_change o_a1.1 rfl rfl lm_L_115 liX11_change lqX11_change (Nat.le_of_ble_eq_true rfl) (Nat.le_of_ble_eq_true rfl) (Nat.le_of_ble_eq_true rfl) (cat_of rfl) (Nat.le_of_ble_eq_true rfl) (Nat.zero_le _) (Nat.zero_le _) rfl dL_law_1180 h.2.2.2.2.2.2))))))))))))))))
set_option maxRecDepth 20000 in
theorem b_L_law_1183 {k n : Nat} {x : Wx} {Z : Zt} {Q : Option Value → Wx → Zt → Prop} {a0 : Nat} {a1 : Nat} {a2 : Nat} {v3 : Int} {t0 : Int} {L : Nat} (o_a2 : Is12 x a2) (s_a0 : x.1 a0 = some (200, L)) (l_L : L ≤ 2147483647)
    (h : 0 ≤ v3 + 1 ∧ v3 + 1 < L ∧ (0 ≤ v3 + 2 ∧ v3 + 2 < L ∧ (0 ≤ v3 + 3 ∧ v3 + 3 < L ∧ (V mX12_change 0 0 0 [some (r_ a2), some (i_ (Z a0 (v3 + 1).toNat)), some (i_ (Z a0 (v3 + 2).toNat)), some (i_ (Z a0 (v3 + 3).toNat)), none, none, none, none] [] x Z (fun v9 x9 Z9 => V mL_law k n 1202 [some (r_ a0), some (r_ a1), some (r_ a2), some (i_ v3)] (v9.toList ++ [i_ t0]) x9 Z9 Q))))) :
    V mL_law k n 1183 [some (r_ a0), some (r_ a1), some (r_ a2), some (i_ v3)] [i_ t0] x Z Q :=
  V_aload_n dL_law_1183 rfl (V_aload_n dL_law_1184 rfl (V_iload_n dL_law_1185 rfl (V_iconst dL_law_1186 (V_iadd dL_law_1187 (V_iald (t := 200) s_a0 (by decide) rfl h.1 h.2.1 l_L dL_law_1188 (V_aload_n dL_law_1189 rfl (V_iload_n dL_law_1190 rfl (V_iconst dL_law_1191 (V_iadd dL_law_1192 (V_iald (t := 200) s_a0 (by decide) rfl h.2.2.1 h.2.2.2.1 l_L dL_law_1193 (V_aload_n dL_law_1194 rfl (V_iload_n dL_law_1195 rfl (V_iconst dL_law_1196 (V_iadd dL_law_1197 (V_iald (t := 200) s_a0 (by decide) rfl h.2.2.2.2.1 h.2.2.2.2.2.1 l_L dL_law_1198 (V_callV (k' := 0) (n' := 0) (t := 12) (q := (RX12, TX12, 46)) [i_ (Z a0 (v3 + 1).toNat), i_ (Z a0 (v3 + 2).toNat), i_ (Z a0 (v3 + 3).toNat)] [i_ t0] okX12_change o_a2.1 rfl rfl lm_L_118 liX12_change lqX12_change (Nat.le_of_ble_eq_true rfl) (Nat.le_of_ble_eq_true rfl) (Nat.le_of_ble_eq_true rfl) (cat_of rfl) (Nat.le_of_ble_eq_true rfl) (Nat.zero_le _) (Nat.zero_le _) rfl dL_law_1199 h.2.2.2.2.2.2))))))))))))))))
set_option maxRecDepth 20000 in
theorem b_L_law_1202 {k n : Nat} {x : Wx} {Z : Zt} {Q : Option Value → Wx → Zt → Prop} {a0 : Nat} {a1 : Nat} {a2 : Nat} {v3 : Int} {t0 : Int} {t1 : Int} 
    (h : t0 = t1 ∧ (V mL_law k n 1513 [some (r_ a0), some (r_ a1), some (r_ a2), some (i_ v3)] [] x Z Q)) :
    V mL_law k n 1202 [some (r_ a0), some (r_ a1), some (r_ a2), some (i_ v3)] [i_ t1, i_ t0] x Z Q :=
  V_icmpE (tgt := 1513) dL_law_1202 rfl h.1 (V_msk [true, true, true, true] rfl h.2)
set_option maxRecDepth 20000 in
theorem b_L_law_1207 {k n : Nat} {x : Wx} {Z : Zt} {Q : Option Value → Wx → Zt → Prop} {a0 : Nat} {a1 : Nat} {a2 : Nat} {v3 : Int} {L : Nat} (o_a1 : Is11 x a1) (s_a0 : x.1 a0 = some (200, L)) (l_L : L ≤ 2147483647)
    (h : 0 ≤ v3 + 1 ∧ v3 + 1 < L ∧ (0 ≤ v3 + 2 ∧ v3 + 2 < L ∧ (V mX11_like 0 0 0 [some (r_ a1), some (i_ (Z a0 (v3 + 1).toNat)), some (i_ (Z a0 (v3 + 2).toNat)), none] [] x Z (fun v9 x9 Z9 => V mL_law k n 1221 [some (r_ a0), some (r_ a1), some (r_ a2), some (i_ v3)] (v9.toList ++ []) x9 Z9 Q)))) :
    V mL_law k n 1207 [some (r_ a0), some (r_ a1), some (r_ a2), some (i_ v3)] [] x Z Q :=
  V_aload_n dL_law_1207 rfl (V_aload_n dL_law_1208 rfl (V_iload_n dL_law_1209 rfl (V_iconst dL_law_1210 (V_iadd dL_law_1211 (V_iald (t := 200) s_a0 (by decide) rfl h.1 h.2.1 l_L dL_law_1212 (V_aload_n dL_law_1213 rfl (V_iload_n dL_law_1214 rfl (V_iconst dL_law_1215 (V_iadd dL_law_1216 (V_iald (t := 200) s_a0 (by decide) rfl h.2.2.1 h.2.2.2.1 l_L dL_law_1217 (V_callV (k' := 0) (n' := 0) (t := 11) (q := (RX11, TX11, 17)) [i_ (Z a0 (v3 + 1).toNat), i_ (Z a0 (v3 + 2).toNat)] [] okX11_like o_a1.1 rfl rfl lm_L_119 liX11_like lqX11_like (Nat.le_of_ble_eq_true rfl) (Nat.le_of_ble_eq_true rfl) (Nat.le_of_ble_eq_true rfl) (cat_of rfl) (Nat.le_of_ble_eq_true rfl) (Nat.zero_le _) (Nat.zero_le _) rfl dL_law_1218 h.2.2.2.2)))))))))))
set_option maxRecDepth 20000 in
theorem b_L_law_1221 {k n : Nat} {x : Wx} {Z : Zt} {Q : Option Value → Wx → Zt → Prop} {a0 : Nat} {a1 : Nat} {a2 : Nat} {v3 : Int} {t0 : Int} {L : Nat} (o_a2 : Is12 x a2) (s_a0 : x.1 a0 = some (200, L)) (l_L : L ≤ 2147483647)
    (h : 0 ≤ v3 + 1 ∧ v3 + 1 < L ∧ (0 ≤ v3 + 2 ∧ v3 + 2 < L ∧ (V mX12_like 0 0 0 [some (r_ a2), some (i_ (Z a0 (v3 + 1).toNat)), some (i_ (Z a0 (v3 + 2).toNat)), none, none, none, none] [] x Z (fun v9 x9 Z9 => V mL_law k n 1235 [some (r_ a0), some (r_ a1), some (r_ a2), some (i_ v3)] (v9.toList ++ [i_ t0]) x9 Z9 Q)))) :
    V mL_law k n 1221 [some (r_ a0), some (r_ a1), some (r_ a2), some (i_ v3)] [i_ t0] x Z Q :=
  V_aload_n dL_law_1221 rfl (V_aload_n dL_law_1222 rfl (V_iload_n dL_law_1223 rfl (V_iconst dL_law_1224 (V_iadd dL_law_1225 (V_iald (t := 200) s_a0 (by decide) rfl h.1 h.2.1 l_L dL_law_1226 (V_aload_n dL_law_1227 rfl (V_iload_n dL_law_1228 rfl (V_iconst dL_law_1229 (V_iadd dL_law_1230 (V_iald (t := 200) s_a0 (by decide) rfl h.2.2.1 h.2.2.2.1 l_L dL_law_1231 (V_callV (k' := 0) (n' := 0) (t := 12) (q := (RX12, TX12, 46)) [i_ (Z a0 (v3 + 1).toNat), i_ (Z a0 (v3 + 2).toNat)] [i_ t0] okX12_like o_a2.1 rfl rfl lm_L_122 liX12_like lqX12_like (Nat.le_of_ble_eq_true rfl) (Nat.le_of_ble_eq_true rfl) (Nat.le_of_ble_eq_true rfl) (cat_of rfl) (Nat.le_of_ble_eq_true rfl) (Nat.zero_le _) (Nat.zero_le _) rfl dL_law_1232 h.2.2.2.2)))))))))))
set_option maxRecDepth 20000 in
theorem b_L_law_1235 {k n : Nat} {x : Wx} {Z : Zt} {Q : Option Value → Wx → Zt → Prop} {a0 : Nat} {a1 : Nat} {a2 : Nat} {v3 : Int} {t0 : Int} {t1 : Int} 
    (h : t0 = t1 ∧ (V mL_law k n 1513 [some (r_ a0), some (r_ a1), some (r_ a2), some (i_ v3)] [] x Z Q)) :
    V mL_law k n 1235 [some (r_ a0), some (r_ a1), some (r_ a2), some (i_ v3)] [i_ t1, i_ t0] x Z Q :=
  V_icmpE (tgt := 1513) dL_law_1235 rfl h.1 (V_msk [true, true, true, true] rfl h.2)
set_option maxRecDepth 20000 in
theorem b_L_law_1240 {k n : Nat} {x : Wx} {Z : Zt} {Q : Option Value → Wx → Zt → Prop} {a0 : Nat} {a1 : Nat} {a2 : Nat} {v3 : Int} {L : Nat} (o_a1 : Is11 x a1) (s_a0 : x.1 a0 = some (200, L)) (l_L : L ≤ 2147483647)
    (h : 0 ≤ v3 + 1 ∧ v3 + 1 < L ∧ (0 ≤ v3 + 2 ∧ v3 + 2 < L ∧ (V mX11_twist 0 0 0 [some (r_ a1), some (i_ (Z a0 (v3 + 1).toNat)), some (i_ (Z a0 (v3 + 2).toNat))] [] x Z (fun v9 x9 Z9 => V mL_law k n 1254 [some (r_ a0), some (r_ a1), some (r_ a2), some (i_ v3)] (v9.toList ++ []) x9 Z9 Q)))) :
    V mL_law k n 1240 [some (r_ a0), some (r_ a1), some (r_ a2), some (i_ v3)] [] x Z Q :=
  V_aload_n dL_law_1240 rfl (V_aload_n dL_law_1241 rfl (V_iload_n dL_law_1242 rfl (V_iconst dL_law_1243 (V_iadd dL_law_1244 (V_iald (t := 200) s_a0 (by decide) rfl h.1 h.2.1 l_L dL_law_1245 (V_aload_n dL_law_1246 rfl (V_iload_n dL_law_1247 rfl (V_iconst dL_law_1248 (V_iadd dL_law_1249 (V_iald (t := 200) s_a0 (by decide) rfl h.2.2.1 h.2.2.2.1 l_L dL_law_1250 (V_callV (k' := 0) (n' := 0) (t := 11) (q := (RX11, TX11, 17)) [i_ (Z a0 (v3 + 1).toNat), i_ (Z a0 (v3 + 2).toNat)] [] okX11_twist o_a1.1 rfl rfl lm_L_123 liX11_twist lqX11_twist (Nat.le_of_ble_eq_true rfl) (Nat.le_of_ble_eq_true rfl) (Nat.le_of_ble_eq_true rfl) (cat_of rfl) (Nat.le_of_ble_eq_true rfl) (Nat.zero_le _) (Nat.zero_le _) rfl dL_law_1251 h.2.2.2.2)))))))))))
set_option maxRecDepth 20000 in
theorem b_L_law_1254 {k n : Nat} {x : Wx} {Z : Zt} {Q : Option Value → Wx → Zt → Prop} {a0 : Nat} {a1 : Nat} {a2 : Nat} {v3 : Int} {t0 : Int} {L : Nat} (o_a2 : Is12 x a2) (s_a0 : x.1 a0 = some (200, L)) (l_L : L ≤ 2147483647)
    (h : 0 ≤ v3 + 1 ∧ v3 + 1 < L ∧ (0 ≤ v3 + 2 ∧ v3 + 2 < L ∧ (V mX12_twist 0 0 0 [some (r_ a2), some (i_ (Z a0 (v3 + 1).toNat)), some (i_ (Z a0 (v3 + 2).toNat))] [] x Z (fun v9 x9 Z9 => V mL_law k n 1268 [some (r_ a0), some (r_ a1), some (r_ a2), some (i_ v3)] (v9.toList ++ [i_ t0]) x9 Z9 Q)))) :
    V mL_law k n 1254 [some (r_ a0), some (r_ a1), some (r_ a2), some (i_ v3)] [i_ t0] x Z Q :=
  V_aload_n dL_law_1254 rfl (V_aload_n dL_law_1255 rfl (V_iload_n dL_law_1256 rfl (V_iconst dL_law_1257 (V_iadd dL_law_1258 (V_iald (t := 200) s_a0 (by decide) rfl h.1 h.2.1 l_L dL_law_1259 (V_aload_n dL_law_1260 rfl (V_iload_n dL_law_1261 rfl (V_iconst dL_law_1262 (V_iadd dL_law_1263 (V_iald (t := 200) s_a0 (by decide) rfl h.2.2.1 h.2.2.2.1 l_L dL_law_1264 (V_callV (k' := 0) (n' := 0) (t := 12) (q := (RX12, TX12, 46)) [i_ (Z a0 (v3 + 1).toNat), i_ (Z a0 (v3 + 2).toNat)] [i_ t0] okX12_twist o_a2.1 rfl rfl lm_L_126 liX12_twist lqX12_twist (Nat.le_of_ble_eq_true rfl) (Nat.le_of_ble_eq_true rfl) (Nat.le_of_ble_eq_true rfl) (cat_of rfl) (Nat.le_of_ble_eq_true rfl) (Nat.zero_le _) (Nat.zero_le _) rfl dL_law_1265 h.2.2.2.2)))))))))))
set_option maxRecDepth 20000 in
theorem b_L_law_1268 {k n : Nat} {x : Wx} {Z : Zt} {Q : Option Value → Wx → Zt → Prop} {a0 : Nat} {a1 : Nat} {a2 : Nat} {v3 : Int} {t0 : Int} {t1 : Int} 
    (h : t0 = t1 ∧ (V mL_law k n 1513 [some (r_ a0), some (r_ a1), some (r_ a2), some (i_ v3)] [] x Z Q)) :
    V mL_law k n 1268 [some (r_ a0), some (r_ a1), some (r_ a2), some (i_ v3)] [i_ t1, i_ t0] x Z Q :=
  V_icmpE (tgt := 1513) dL_law_1268 rfl h.1 (V_msk [true, true, true, true] rfl h.2)
set_option maxRecDepth 20000 in
theorem b_L_law_1273 {k n : Nat} {x : Wx} {Z : Zt} {Q : Option Value → Wx → Zt → Prop} {a0 : Nat} {a1 : Nat} {a2 : Nat} {v3 : Int} {L : Nat} (o_a1 : Is11 x a1) (s_a0 : x.1 a0 = some (200, L)) (l_L : L ≤ 2147483647)
    (h : 0 ≤ v3 + 1 ∧ v3 + 1 < L ∧ (0 ≤ v3 + 2 ∧ v3 + 2 < L ∧ (0 ≤ v3 + 3 ∧ v3 + 3 < L ∧ (V mX11_code 0 0 0 [some (r_ a1), some (i_ (Z a0 (v3 + 1).toNat)), some (i_ (Z a0 (v3 + 2).toNat)), some (i_ (Z a0 (v3 + 3).toNat))] [] x Z (fun v9 x9 Z9 => V mL_law k n 1292 [some (r_ a0), some (r_ a1), some (r_ a2), some (i_ v3)] (v9.toList ++ []) x9 Z9 Q))))) :
    V mL_law k n 1273 [some (r_ a0), some (r_ a1), some (r_ a2), some (i_ v3)] [] x Z Q :=
  V_aload_n dL_law_1273 rfl (V_aload_n dL_law_1274 rfl (V_iload_n dL_law_1275 rfl (V_iconst dL_law_1276 (V_iadd dL_law_1277 (V_iald (t := 200) s_a0 (by decide) rfl h.1 h.2.1 l_L dL_law_1278 (V_aload_n dL_law_1279 rfl (V_iload_n dL_law_1280 rfl (V_iconst dL_law_1281 (V_iadd dL_law_1282 (V_iald (t := 200) s_a0 (by decide) rfl h.2.2.1 h.2.2.2.1 l_L dL_law_1283 (V_aload_n dL_law_1284 rfl (V_iload_n dL_law_1285 rfl (V_iconst dL_law_1286 (V_iadd dL_law_1287 (V_iald (t := 200) s_a0 (by decide) rfl h.2.2.2.2.1 h.2.2.2.2.2.1 l_L dL_law_1288 (V_callV (k' := 0) (n' := 0) (t := 11) (q := (RX11, TX11, 17)) [i_ (Z a0 (v3 + 1).toNat), i_ (Z a0 (v3 + 2).toNat), i_ (Z a0 (v3 + 3).toNat)] [] okX11_code o_a1.1 rfl rfl lm_L_127 liX11_code lqX11_code (Nat.le_of_ble_eq_true rfl) (Nat.le_of_ble_eq_true rfl) (Nat.le_of_ble_eq_true rfl) (cat_of rfl) (Nat.le_of_ble_eq_true rfl) (Nat.zero_le _) (Nat.zero_le _) rfl dL_law_1289 h.2.2.2.2.2.2))))))))))))))))
set_option maxRecDepth 20000 in
theorem b_L_law_1292 {k n : Nat} {x : Wx} {Z : Zt} {Q : Option Value → Wx → Zt → Prop} {a0 : Nat} {a1 : Nat} {a2 : Nat} {v3 : Int} {t0 : Int} {L : Nat} (o_a2 : Is12 x a2) (s_a0 : x.1 a0 = some (200, L)) (l_L : L ≤ 2147483647)
    (h : 0 ≤ v3 + 1 ∧ v3 + 1 < L ∧ (0 ≤ v3 + 2 ∧ v3 + 2 < L ∧ (0 ≤ v3 + 3 ∧ v3 + 3 < L ∧ (V mX12_code 0 0 0 [some (r_ a2), some (i_ (Z a0 (v3 + 1).toNat)), some (i_ (Z a0 (v3 + 2).toNat)), some (i_ (Z a0 (v3 + 3).toNat)), none, none, none, none] [] x Z (fun v9 x9 Z9 => V mL_law k n 1311 [some (r_ a0), some (r_ a1), some (r_ a2), some (i_ v3)] (v9.toList ++ [i_ t0]) x9 Z9 Q))))) :
    V mL_law k n 1292 [some (r_ a0), some (r_ a1), some (r_ a2), some (i_ v3)] [i_ t0] x Z Q :=
  V_aload_n dL_law_1292 rfl (V_aload_n dL_law_1293 rfl (V_iload_n dL_law_1294 rfl (V_iconst dL_law_1295 (V_iadd dL_law_1296 (V_iald (t := 200) s_a0 (by decide) rfl h.1 h.2.1 l_L dL_law_1297 (V_aload_n dL_law_1298 rfl (V_iload_n dL_law_1299 rfl (V_iconst dL_law_1300 (V_iadd dL_law_1301 (V_iald (t := 200) s_a0 (by decide) rfl h.2.2.1 h.2.2.2.1 l_L dL_law_1302 (V_aload_n dL_law_1303 rfl (V_iload_n dL_law_1304 rfl (V_iconst dL_law_1305 (V_iadd dL_law_1306 (V_iald (t := 200) s_a0 (by decide) rfl h.2.2.2.2.1 h.2.2.2.2.2.1 l_L dL_law_1307 (V_callV (k' := 0) (n' := 0) (t := 12) (q := (RX12, TX12, 46)) [i_ (Z a0 (v3 + 1).toNat), i_ (Z a0 (v3 + 2).toNat), i_ (Z a0 (v3 + 3).toNat)] [i_ t0] okX12_code o_a2.1 rfl rfl lm_L_130 liX12_code lqX12_code (Nat.le_of_ble_eq_true rfl) (Nat.le_of_ble_eq_true rfl) (Nat.le_of_ble_eq_true rfl) (cat_of rfl) (Nat.le_of_ble_eq_true rfl) (Nat.zero_le _) (Nat.zero_le _) rfl dL_law_1308 h.2.2.2.2.2.2))))))))))))))))
set_option maxRecDepth 20000 in
theorem b_L_law_1311 {k n : Nat} {x : Wx} {Z : Zt} {Q : Option Value → Wx → Zt → Prop} {a0 : Nat} {a1 : Nat} {a2 : Nat} {v3 : Int} {t0 : Int} {t1 : Int} 
    (h : t0 = t1 ∧ (V mL_law k n 1513 [some (r_ a0), some (r_ a1), some (r_ a2), some (i_ v3)] [] x Z Q)) :
    V mL_law k n 1311 [some (r_ a0), some (r_ a1), some (r_ a2), some (i_ v3)] [i_ t1, i_ t0] x Z Q :=
  V_icmpE (tgt := 1513) dL_law_1311 rfl h.1 (V_msk [true, true, true, true] rfl h.2)
set_option maxRecDepth 20000 in
theorem b_L_law_1316 {k n : Nat} {x : Wx} {Z : Zt} {Q : Option Value → Wx → Zt → Prop} {a0 : Nat} {a1 : Nat} {a2 : Nat} {v3 : Int} {L : Nat} (o_a1 : Is11 x a1) (s_a0 : x.1 a0 = some (200, L)) (l_L : L ≤ 2147483647)
    (h : 0 ≤ v3 + 1 ∧ v3 + 1 < L ∧ (0 ≤ v3 + 2 ∧ v3 + 2 < L ∧ (0 ≤ v3 + 3 ∧ v3 + 3 < L ∧ (0 ≤ v3 + 4 ∧ v3 + 4 < L ∧ (V mX11_sent 0 0 0 [some (r_ a1), some (i_ (Z a0 (v3 + 1).toNat)), some (i_ (Z a0 (v3 + 2).toNat)), some (i_ (Z a0 (v3 + 3).toNat)), some (i_ (Z a0 (v3 + 4).toNat))] [] x Z (fun v9 x9 Z9 => V mL_law k n 1340 [some (r_ a0), some (r_ a1), some (r_ a2), some (i_ v3)] (v9.toList ++ []) x9 Z9 Q)))))) :
    V mL_law k n 1316 [some (r_ a0), some (r_ a1), some (r_ a2), some (i_ v3)] [] x Z Q :=
  V_aload_n dL_law_1316 rfl (V_aload_n dL_law_1317 rfl (V_iload_n dL_law_1318 rfl (V_iconst dL_law_1319 (V_iadd dL_law_1320 (V_iald (t := 200) s_a0 (by decide) rfl h.1 h.2.1 l_L dL_law_1321 (V_aload_n dL_law_1322 rfl (V_iload_n dL_law_1323 rfl (V_iconst dL_law_1324 (V_iadd dL_law_1325 (V_iald (t := 200) s_a0 (by decide) rfl h.2.2.1 h.2.2.2.1 l_L dL_law_1326 (V_aload_n dL_law_1327 rfl (V_iload_n dL_law_1328 rfl (V_iconst dL_law_1329 (V_iadd dL_law_1330 (V_iald (t := 200) s_a0 (by decide) rfl h.2.2.2.2.1 h.2.2.2.2.2.1 l_L dL_law_1331 (V_aload_n dL_law_1332 rfl (V_iload_n dL_law_1333 rfl (V_iconst dL_law_1334 (V_iadd dL_law_1335 (V_iald (t := 200) s_a0 (by decide) rfl h.2.2.2.2.2.2.1 h.2.2.2.2.2.2.2.1 l_L dL_law_1336 (V_callV (k' := 0) (n' := 0) (t := 11) (q := (RX11, TX11, 17)) [i_ (Z a0 (v3 + 1).toNat), i_ (Z a0 (v3 + 2).toNat), i_ (Z a0 (v3 + 3).toNat), i_ (Z a0 (v3 + 4).toNat)] [] okX11_sent o_a1.1 rfl rfl lm_L_131 liX11_sent lqX11_sent (Nat.le_of_ble_eq_true rfl) (Nat.le_of_ble_eq_true rfl) (Nat.le_of_ble_eq_true rfl) (cat_of rfl) (Nat.le_of_ble_eq_true rfl) (Nat.zero_le _) (Nat.zero_le _) rfl dL_law_1337 h.2.2.2.2.2.2.2.2)))))))))))))))))))))
set_option maxRecDepth 20000 in
theorem b_L_law_1340 {k n : Nat} {x : Wx} {Z : Zt} {Q : Option Value → Wx → Zt → Prop} {a0 : Nat} {a1 : Nat} {a2 : Nat} {v3 : Int} {t0 : Int} {L : Nat} (o_a2 : Is12 x a2) (s_a0 : x.1 a0 = some (200, L)) (l_L : L ≤ 2147483647)
    (h : 0 ≤ v3 + 1 ∧ v3 + 1 < L ∧ (0 ≤ v3 + 2 ∧ v3 + 2 < L ∧ (0 ≤ v3 + 3 ∧ v3 + 3 < L ∧ (0 ≤ v3 + 4 ∧ v3 + 4 < L ∧ (V mX12_sent 0 0 0 [some (r_ a2), some (i_ (Z a0 (v3 + 1).toNat)), some (i_ (Z a0 (v3 + 2).toNat)), some (i_ (Z a0 (v3 + 3).toNat)), some (i_ (Z a0 (v3 + 4).toNat))] [] x Z (fun v9 x9 Z9 => V mL_law k n 1364 [some (r_ a0), some (r_ a1), some (r_ a2), some (i_ v3)] (v9.toList ++ [i_ t0]) x9 Z9 Q)))))) :
    V mL_law k n 1340 [some (r_ a0), some (r_ a1), some (r_ a2), some (i_ v3)] [i_ t0] x Z Q :=
  V_aload_n dL_law_1340 rfl (V_aload_n dL_law_1341 rfl (V_iload_n dL_law_1342 rfl (V_iconst dL_law_1343 (V_iadd dL_law_1344 (V_iald (t := 200) s_a0 (by decide) rfl h.1 h.2.1 l_L dL_law_1345 (V_aload_n dL_law_1346 rfl (V_iload_n dL_law_1347 rfl (V_iconst dL_law_1348 (V_iadd dL_law_1349 (V_iald (t := 200) s_a0 (by decide) rfl h.2.2.1 h.2.2.2.1 l_L dL_law_1350 (V_aload_n dL_law_1351 rfl (V_iload_n dL_law_1352 rfl (V_iconst dL_law_1353 (V_iadd dL_law_1354 (V_iald (t := 200) s_a0 (by decide) rfl h.2.2.2.2.1 h.2.2.2.2.2.1 l_L dL_law_1355 (V_aload_n dL_law_1356 rfl (V_iload_n dL_law_1357 rfl (V_iconst dL_law_1358 (V_iadd dL_law_1359 (V_iald (t := 200) s_a0 (by decide) rfl h.2.2.2.2.2.2.1 h.2.2.2.2.2.2.2.1 l_L dL_law_1360 (V_callV (k' := 0) (n' := 0) (t := 12) (q := (RX12, TX12, 46)) [i_ (Z a0 (v3 + 1).toNat), i_ (Z a0 (v3 + 2).toNat), i_ (Z a0 (v3 + 3).toNat), i_ (Z a0 (v3 + 4).toNat)] [i_ t0] okX12_sent o_a2.1 rfl rfl lm_L_134 liX12_sent lqX12_sent (Nat.le_of_ble_eq_true rfl) (Nat.le_of_ble_eq_true rfl) (Nat.le_of_ble_eq_true rfl) (cat_of rfl) (Nat.le_of_ble_eq_true rfl) (Nat.zero_le _) (Nat.zero_le _) rfl dL_law_1361 h.2.2.2.2.2.2.2.2)))))))))))))))))))))
set_option maxRecDepth 20000 in
theorem b_L_law_1364 {k n : Nat} {x : Wx} {Z : Zt} {Q : Option Value → Wx → Zt → Prop} {a0 : Nat} {a1 : Nat} {a2 : Nat} {v3 : Int} {t0 : Int} {t1 : Int} 
    (h : t0 = t1 ∧ (V mL_law k n 1513 [some (r_ a0), some (r_ a1), some (r_ a2), some (i_ v3)] [] x Z Q)) :
    V mL_law k n 1364 [some (r_ a0), some (r_ a1), some (r_ a2), some (i_ v3)] [i_ t1, i_ t0] x Z Q :=
  V_icmpE (tgt := 1513) dL_law_1364 rfl h.1 (V_msk [true, true, true, true] rfl h.2)
set_option maxRecDepth 20000 in
theorem b_L_law_1369 {k n : Nat} {x : Wx} {Z : Zt} {Q : Option Value → Wx → Zt → Prop} {a0 : Nat} {a1 : Nat} {a2 : Nat} {v3 : Int} {L : Nat} (o_a1 : Is11 x a1) (s_a0 : x.1 a0 = some (200, L)) (l_L : L ≤ 2147483647)
    (h : 0 ≤ v3 + 1 ∧ v3 + 1 < L ∧ (0 ≤ v3 + 2 ∧ v3 + 2 < L ∧ (0 ≤ v3 + 3 ∧ v3 + 3 < L ∧ (0 ≤ v3 + 4 ∧ v3 + 4 < L ∧ (0 ≤ v3 + 5 ∧ v3 + 5 < L ∧ (0 ≤ v3 + 6 ∧ v3 + 6 < L ∧ (V mX11_mended 0 0 0 [some (r_ a1), some (i_ (Z a0 (v3 + 1).toNat)), some (i_ (Z a0 (v3 + 2).toNat)), some (i_ (Z a0 (v3 + 3).toNat)), some (i_ (Z a0 (v3 + 4).toNat)), some (i_ (Z a0 (v3 + 5).toNat)), some (i_ (Z a0 (v3 + 6).toNat))] [] x Z (fun v9 x9 Z9 => V mL_law k n 1404 [some (r_ a0), some (r_ a1), some (r_ a2), some (i_ v3)] (v9.toList ++ []) x9 Z9 Q)))))))) :
    V mL_law k n 1369 [some (r_ a0), some (r_ a1), some (r_ a2), some (i_ v3)] [] x Z Q :=
  V_aload_n dL_law_1369 rfl (V_aload_n dL_law_1370 rfl (V_iload_n dL_law_1371 rfl (V_iconst dL_law_1372 (V_iadd dL_law_1373 (V_iald (t := 200) s_a0 (by decide) rfl h.1 h.2.1 l_L dL_law_1374 (V_aload_n dL_law_1375 rfl (V_iload_n dL_law_1376 rfl (V_iconst dL_law_1377 (V_iadd dL_law_1378 (V_iald (t := 200) s_a0 (by decide) rfl h.2.2.1 h.2.2.2.1 l_L dL_law_1379 (V_aload_n dL_law_1380 rfl (V_iload_n dL_law_1381 rfl (V_iconst dL_law_1382 (V_iadd dL_law_1383 (V_iald (t := 200) s_a0 (by decide) rfl h.2.2.2.2.1 h.2.2.2.2.2.1 l_L dL_law_1384 (V_aload_n dL_law_1385 rfl (V_iload_n dL_law_1386 rfl (V_iconst dL_law_1387 (V_iadd dL_law_1388 (V_iald (t := 200) s_a0 (by decide) rfl h.2.2.2.2.2.2.1 h.2.2.2.2.2.2.2.1 l_L dL_law_1389 (V_aload_n dL_law_1390 rfl (V_iload_n dL_law_1391 rfl (V_iconst dL_law_1392 (V_iadd dL_law_1393 (V_iald (t := 200) s_a0 (by decide) rfl h.2.2.2.2.2.2.2.2.1 h.2.2.2.2.2.2.2.2.2.1 l_L dL_law_1394 (V_aload_n dL_law_1395 rfl (V_iload_n dL_law_1396 rfl (V_bipush dL_law_1397 rfl (V_iadd dL_law_1399 (V_iald (t := 200) s_a0 (by decide) rfl h.2.2.2.2.2.2.2.2.2.2.1 h.2.2.2.2.2.2.2.2.2.2.2.1 l_L dL_law_1400 (V_callV (k' := 0) (n' := 0) (t := 11) (q := (RX11, TX11, 17)) [i_ (Z a0 (v3 + 1).toNat), i_ (Z a0 (v3 + 2).toNat), i_ (Z a0 (v3 + 3).toNat), i_ (Z a0 (v3 + 4).toNat), i_ (Z a0 (v3 + 5).toNat), i_ (Z a0 (v3 + 6).toNat)] [] okX11_mended o_a1.1 rfl rfl lm_L_135 liX11_mended lqX11_mended (Nat.le_of_ble_eq_true rfl) (Nat.le_of_ble_eq_true rfl) (Nat.le_of_ble_eq_true rfl) (cat_of rfl) (Nat.le_of_ble_eq_true rfl) (Nat.zero_le _) (Nat.zero_le _) rfl dL_law_1401 h.2.2.2.2.2.2.2.2.2.2.2.2)))))))))))))))))))))))))))))))
set_option maxRecDepth 20000 in
theorem b_L_law_1404 {k n : Nat} {x : Wx} {Z : Zt} {Q : Option Value → Wx → Zt → Prop} {a0 : Nat} {a1 : Nat} {a2 : Nat} {v3 : Int} {t0 : Int} {L : Nat} (o_a2 : Is12 x a2) (s_a0 : x.1 a0 = some (200, L)) (l_L : L ≤ 2147483647)
    (h : 0 ≤ v3 + 1 ∧ v3 + 1 < L ∧ (0 ≤ v3 + 2 ∧ v3 + 2 < L ∧ (0 ≤ v3 + 3 ∧ v3 + 3 < L ∧ (0 ≤ v3 + 4 ∧ v3 + 4 < L ∧ (0 ≤ v3 + 5 ∧ v3 + 5 < L ∧ (0 ≤ v3 + 6 ∧ v3 + 6 < L ∧ (V mX12_mended 0 0 0 [some (r_ a2), some (i_ (Z a0 (v3 + 1).toNat)), some (i_ (Z a0 (v3 + 2).toNat)), some (i_ (Z a0 (v3 + 3).toNat)), some (i_ (Z a0 (v3 + 4).toNat)), some (i_ (Z a0 (v3 + 5).toNat)), some (i_ (Z a0 (v3 + 6).toNat)), none, none, none, none, none] [] x Z (fun v9 x9 Z9 => V mL_law k n 1439 [some (r_ a0), some (r_ a1), some (r_ a2), some (i_ v3)] (v9.toList ++ [i_ t0]) x9 Z9 Q)))))))) :
    V mL_law k n 1404 [some (r_ a0), some (r_ a1), some (r_ a2), some (i_ v3)] [i_ t0] x Z Q :=
  V_aload_n dL_law_1404 rfl (V_aload_n dL_law_1405 rfl (V_iload_n dL_law_1406 rfl (V_iconst dL_law_1407 (V_iadd dL_law_1408 (V_iald (t := 200) s_a0 (by decide) rfl h.1 h.2.1 l_L dL_law_1409 (V_aload_n dL_law_1410 rfl (V_iload_n dL_law_1411 rfl (V_iconst dL_law_1412 (V_iadd dL_law_1413 (V_iald (t := 200) s_a0 (by decide) rfl h.2.2.1 h.2.2.2.1 l_L dL_law_1414 (V_aload_n dL_law_1415 rfl (V_iload_n dL_law_1416 rfl (V_iconst dL_law_1417 (V_iadd dL_law_1418 (V_iald (t := 200) s_a0 (by decide) rfl h.2.2.2.2.1 h.2.2.2.2.2.1 l_L dL_law_1419 (V_aload_n dL_law_1420 rfl (V_iload_n dL_law_1421 rfl (V_iconst dL_law_1422 (V_iadd dL_law_1423 (V_iald (t := 200) s_a0 (by decide) rfl h.2.2.2.2.2.2.1 h.2.2.2.2.2.2.2.1 l_L dL_law_1424 (V_aload_n dL_law_1425 rfl (V_iload_n dL_law_1426 rfl (V_iconst dL_law_1427 (V_iadd dL_law_1428 (V_iald (t := 200) s_a0 (by decide) rfl h.2.2.2.2.2.2.2.2.1 h.2.2.2.2.2.2.2.2.2.1 l_L dL_law_1429 (V_aload_n dL_law_1430 rfl (V_iload_n dL_law_1431 rfl (V_bipush dL_law_1432 rfl (V_iadd dL_law_1434 (V_iald (t := 200) s_a0 (by decide) rfl h.2.2.2.2.2.2.2.2.2.2.1 h.2.2.2.2.2.2.2.2.2.2.2.1 l_L dL_law_1435 (V_callV (k' := 0) (n' := 0) (t := 12) (q := (RX12, TX12, 46)) [i_ (Z a0 (v3 + 1).toNat), i_ (Z a0 (v3 + 2).toNat), i_ (Z a0 (v3 + 3).toNat), i_ (Z a0 (v3 + 4).toNat), i_ (Z a0 (v3 + 5).toNat), i_ (Z a0 (v3 + 6).toNat)] [i_ t0] okX12_mended o_a2.1 rfl rfl lm_L_139 liX12_mended lqX12_mended (Nat.le_of_ble_eq_true rfl) (Nat.le_of_ble_eq_true rfl) (Nat.le_of_ble_eq_true rfl) (cat_of rfl) (Nat.le_of_ble_eq_true rfl) (Nat.zero_le _) (Nat.zero_le _) rfl dL_law_1436 h.2.2.2.2.2.2.2.2.2.2.2.2)))))))))))))))))))))))))))))))
set_option maxRecDepth 20000 in
theorem b_L_law_1439 {k n : Nat} {x : Wx} {Z : Zt} {Q : Option Value → Wx → Zt → Prop} {a0 : Nat} {a1 : Nat} {a2 : Nat} {v3 : Int} {t0 : Int} {t1 : Int} 
    (h : t0 = t1 ∧ (V mL_law k n 1513 [some (r_ a0), some (r_ a1), some (r_ a2), some (i_ v3)] [] x Z Q)) :
    V mL_law k n 1439 [some (r_ a0), some (r_ a1), some (r_ a2), some (i_ v3)] [i_ t1, i_ t0] x Z Q :=
  V_icmpE (tgt := 1513) dL_law_1439 rfl h.1 (V_msk [true, true, true, true] rfl h.2)
set_option maxRecDepth 20000 in
theorem b_L_law_1444 {k n : Nat} {x : Wx} {Z : Zt} {Q : Option Value → Wx → Zt → Prop} {a0 : Nat} {a1 : Nat} {a2 : Nat} {v3 : Int} {L : Nat} (o_a1 : Is11 x a1) (s_a0 : x.1 a0 = some (200, L)) (l_L : L ≤ 2147483647)
    (h : 0 ≤ v3 + 1 ∧ v3 + 1 < L ∧ (V mX11_count 0 0 0 [some (r_ a1), some (i_ (Z a0 (v3 + 1).toNat))] [] x Z (fun v9 x9 Z9 => V mL_law k n 1453 [some (r_ a0), some (r_ a1), some (r_ a2), some (i_ v3)] (v9.toList ++ []) x9 Z9 Q))) :
    V mL_law k n 1444 [some (r_ a0), some (r_ a1), some (r_ a2), some (i_ v3)] [] x Z Q :=
  V_aload_n dL_law_1444 rfl (V_aload_n dL_law_1445 rfl (V_iload_n dL_law_1446 rfl (V_iconst dL_law_1447 (V_iadd dL_law_1448 (V_iald (t := 200) s_a0 (by decide) rfl h.1 h.2.1 l_L dL_law_1449 (V_callV (k' := 0) (n' := 0) (t := 11) (q := (RX11, TX11, 17)) [i_ (Z a0 (v3 + 1).toNat)] [] okX11_count o_a1.1 rfl rfl lm_L_140 liX11_count lqX11_count (Nat.le_of_ble_eq_true rfl) (Nat.le_of_ble_eq_true rfl) (Nat.le_of_ble_eq_true rfl) (cat_of rfl) (Nat.le_of_ble_eq_true rfl) (Nat.zero_le _) (Nat.zero_le _) rfl dL_law_1450 h.2.2))))))
set_option maxRecDepth 20000 in
theorem b_L_law_1453 {k n : Nat} {x : Wx} {Z : Zt} {Q : Option Value → Wx → Zt → Prop} {a0 : Nat} {a1 : Nat} {a2 : Nat} {v3 : Int} {t0 : Int} {L : Nat} (o_a2 : Is12 x a2) (s_a0 : x.1 a0 = some (200, L)) (l_L : L ≤ 2147483647)
    (h : 0 ≤ v3 + 1 ∧ v3 + 1 < L ∧ (V mX12_count 0 0 0 [some (r_ a2), some (i_ (Z a0 (v3 + 1).toNat))] [] x Z (fun v9 x9 Z9 => V mL_law k n 1462 [some (r_ a0), some (r_ a1), some (r_ a2), some (i_ v3)] (v9.toList ++ [i_ t0]) x9 Z9 Q))) :
    V mL_law k n 1453 [some (r_ a0), some (r_ a1), some (r_ a2), some (i_ v3)] [i_ t0] x Z Q :=
  V_aload_n dL_law_1453 rfl (V_aload_n dL_law_1454 rfl (V_iload_n dL_law_1455 rfl (V_iconst dL_law_1456 (V_iadd dL_law_1457 (V_iald (t := 200) s_a0 (by decide) rfl h.1 h.2.1 l_L dL_law_1458 (V_callV (k' := 0) (n' := 0) (t := 12) (q := (RX12, TX12, 46)) [i_ (Z a0 (v3 + 1).toNat)] [i_ t0] okX12_count o_a2.1 rfl rfl lm_L_143 liX12_count lqX12_count (Nat.le_of_ble_eq_true rfl) (Nat.le_of_ble_eq_true rfl) (Nat.le_of_ble_eq_true rfl) (cat_of rfl) (Nat.le_of_ble_eq_true rfl) (Nat.zero_le _) (Nat.zero_le _) rfl dL_law_1459 h.2.2))))))
set_option maxRecDepth 20000 in
theorem b_L_law_1462 {k n : Nat} {x : Wx} {Z : Zt} {Q : Option Value → Wx → Zt → Prop} {a0 : Nat} {a1 : Nat} {a2 : Nat} {v3 : Int} {t0 : Int} {t1 : Int} 
    (h : t0 = t1 ∧ (V mL_law k n 1513 [some (r_ a0), some (r_ a1), some (r_ a2), some (i_ v3)] [] x Z Q)) :
    V mL_law k n 1462 [some (r_ a0), some (r_ a1), some (r_ a2), some (i_ v3)] [i_ t1, i_ t0] x Z Q :=
  V_icmpE (tgt := 1513) dL_law_1462 rfl h.1 (V_msk [true, true, true, true] rfl h.2)
set_option maxRecDepth 20000 in
theorem b_L_law_1467 {k n : Nat} {x : Wx} {Z : Zt} {Q : Option Value → Wx → Zt → Prop} {a0 : Nat} {a1 : Nat} {a2 : Nat} {v3 : Int} {L : Nat} (o_a1 : Is11 x a1) (s_a0 : x.1 a0 = some (200, L)) (l_L : L ≤ 2147483647)
    (h : 0 ≤ v3 + 1 ∧ v3 + 1 < L ∧ (12 ≤ k ∧ 825 ≤ n ∧ V mX11_image 12 825 0 [some (r_ a1), some (i_ (Z a0 (v3 + 1).toNat))] [] x Z (fun v9 x9 Z9 => V mL_law (k - 12) (n - 825) 1476 [some (r_ a0), some (r_ a1), some (r_ a2), some (i_ v3)] (v9.toList ++ []) x9 Z9 Q))) :
    V mL_law k n 1467 [some (r_ a0), some (r_ a1), some (r_ a2), some (i_ v3)] [] x Z Q :=
  V_aload_n dL_law_1467 rfl (V_aload_n dL_law_1468 rfl (V_iload_n dL_law_1469 rfl (V_iconst dL_law_1470 (V_iadd dL_law_1471 (V_iald (t := 200) s_a0 (by decide) rfl h.1 h.2.1 l_L dL_law_1472 (V_callV (k' := 12) (n' := 825) (t := 11) (q := (RX11, TX11, 17)) [i_ (Z a0 (v3 + 1).toNat)] [] okX11_image o_a1.1 rfl rfl lm_L_144 liX11_image lqX11_image (Nat.le_of_ble_eq_true rfl) (Nat.le_of_ble_eq_true rfl) (Nat.le_of_ble_eq_true rfl) (cat_of rfl) (Nat.le_of_ble_eq_true rfl) h.2.2.1 h.2.2.2.1 rfl dL_law_1473 h.2.2.2.2))))))
set_option maxRecDepth 20000 in
theorem b_L_law_1476 {k n : Nat} {x : Wx} {Z : Zt} {Q : Option Value → Wx → Zt → Prop} {a0 : Nat} {a1 : Nat} {a2 : Nat} {v3 : Int} {t0 : Int} {L : Nat} (o_a2 : Is12 x a2) (s_a0 : x.1 a0 = some (200, L)) (l_L : L ≤ 2147483647)
    (h : 0 ≤ v3 + 1 ∧ v3 + 1 < L ∧ (V mX12_image 0 0 0 [some (r_ a2), some (i_ (Z a0 (v3 + 1).toNat)), none] [] x Z (fun v9 x9 Z9 => V mL_law k n 1485 [some (r_ a0), some (r_ a1), some (r_ a2), some (i_ v3)] (v9.toList ++ [i_ t0]) x9 Z9 Q))) :
    V mL_law k n 1476 [some (r_ a0), some (r_ a1), some (r_ a2), some (i_ v3)] [i_ t0] x Z Q :=
  V_aload_n dL_law_1476 rfl (V_aload_n dL_law_1477 rfl (V_iload_n dL_law_1478 rfl (V_iconst dL_law_1479 (V_iadd dL_law_1480 (V_iald (t := 200) s_a0 (by decide) rfl h.1 h.2.1 l_L dL_law_1481 (V_callV (k' := 0) (n' := 0) (t := 12) (q := (RX12, TX12, 46)) [i_ (Z a0 (v3 + 1).toNat)] [i_ t0] okX12_image o_a2.1 rfl rfl lm_L_148 liX12_image lqX12_image (Nat.le_of_ble_eq_true rfl) (Nat.le_of_ble_eq_true rfl) (Nat.le_of_ble_eq_true rfl) (cat_of rfl) (Nat.le_of_ble_eq_true rfl) (Nat.zero_le _) (Nat.zero_le _) rfl dL_law_1482 h.2.2))))))
set_option maxRecDepth 20000 in
theorem b_L_law_1485 {k n : Nat} {x : Wx} {Z : Zt} {Q : Option Value → Wx → Zt → Prop} {a0 : Nat} {a1 : Nat} {a2 : Nat} {v3 : Int} {t0 : Int} {t1 : Int} 
    (h : t0 = t1 ∧ (V mL_law k n 1513 [some (r_ a0), some (r_ a1), some (r_ a2), some (i_ v3)] [] x Z Q)) :
    V mL_law k n 1485 [some (r_ a0), some (r_ a1), some (r_ a2), some (i_ v3)] [i_ t1, i_ t0] x Z Q :=
  V_icmpE (tgt := 1513) dL_law_1485 rfl h.1 (V_msk [true, true, true, true] rfl h.2)
set_option maxRecDepth 20000 in
theorem b_L_law_1490 {k n : Nat} {x : Wx} {Z : Zt} {Q : Option Value → Wx → Zt → Prop} {a0 : Nat} {a1 : Nat} {a2 : Nat} {v3 : Int} {L : Nat} (o_a1 : Is11 x a1) (s_a0 : x.1 a0 = some (200, L)) (l_L : L ≤ 2147483647)
    (h : 0 ≤ v3 + 1 ∧ v3 + 1 < L ∧ (V mX11_again 0 0 0 [some (r_ a1), some (i_ (Z a0 (v3 + 1).toNat))] [] x Z (fun v9 x9 Z9 => V mL_law k n 1499 [some (r_ a0), some (r_ a1), some (r_ a2), some (i_ v3)] (v9.toList ++ []) x9 Z9 Q))) :
    V mL_law k n 1490 [some (r_ a0), some (r_ a1), some (r_ a2), some (i_ v3)] [] x Z Q :=
  V_aload_n dL_law_1490 rfl (V_aload_n dL_law_1491 rfl (V_iload_n dL_law_1492 rfl (V_iconst dL_law_1493 (V_iadd dL_law_1494 (V_iald (t := 200) s_a0 (by decide) rfl h.1 h.2.1 l_L dL_law_1495 (V_callV (k' := 0) (n' := 0) (t := 11) (q := (RX11, TX11, 17)) [i_ (Z a0 (v3 + 1).toNat)] [] okX11_again o_a1.1 rfl rfl lm_L_149 liX11_again lqX11_again (Nat.le_of_ble_eq_true rfl) (Nat.le_of_ble_eq_true rfl) (Nat.le_of_ble_eq_true rfl) (cat_of rfl) (Nat.le_of_ble_eq_true rfl) (Nat.zero_le _) (Nat.zero_le _) rfl dL_law_1496 h.2.2))))))
set_option maxRecDepth 20000 in
theorem b_L_law_1499 {k n : Nat} {x : Wx} {Z : Zt} {Q : Option Value → Wx → Zt → Prop} {a0 : Nat} {a1 : Nat} {a2 : Nat} {v3 : Int} {t0 : Int} {L : Nat} (o_a2 : Is12 x a2) (s_a0 : x.1 a0 = some (200, L)) (l_L : L ≤ 2147483647)
    (h : 0 ≤ v3 + 1 ∧ v3 + 1 < L ∧ (V mX12_again 0 0 0 [some (r_ a2), some (i_ (Z a0 (v3 + 1).toNat)), none] [] x Z (fun v9 x9 Z9 => V mL_law k n 1508 [some (r_ a0), some (r_ a1), some (r_ a2), some (i_ v3)] (v9.toList ++ [i_ t0]) x9 Z9 Q))) :
    V mL_law k n 1499 [some (r_ a0), some (r_ a1), some (r_ a2), some (i_ v3)] [i_ t0] x Z Q :=
  V_aload_n dL_law_1499 rfl (V_aload_n dL_law_1500 rfl (V_iload_n dL_law_1501 rfl (V_iconst dL_law_1502 (V_iadd dL_law_1503 (V_iald (t := 200) s_a0 (by decide) rfl h.1 h.2.1 l_L dL_law_1504 (V_callV (k' := 0) (n' := 0) (t := 12) (q := (RX12, TX12, 46)) [i_ (Z a0 (v3 + 1).toNat)] [i_ t0] okX12_again o_a2.1 rfl rfl lm_L_152 liX12_again lqX12_again (Nat.le_of_ble_eq_true rfl) (Nat.le_of_ble_eq_true rfl) (Nat.le_of_ble_eq_true rfl) (cat_of rfl) (Nat.le_of_ble_eq_true rfl) (Nat.zero_le _) (Nat.zero_le _) rfl dL_law_1505 h.2.2))))))
set_option maxRecDepth 20000 in
theorem b_L_law_1508 {k n : Nat} {x : Wx} {Z : Zt} {Q : Option Value → Wx → Zt → Prop} {a0 : Nat} {a1 : Nat} {a2 : Nat} {v3 : Int} {t0 : Int} {t1 : Int} 
    (h : t0 = t1 ∧ (V mL_law k n 1513 [some (r_ a0), some (r_ a1), some (r_ a2), some (i_ v3)] [] x Z Q)) :
    V mL_law k n 1508 [some (r_ a0), some (r_ a1), some (r_ a2), some (i_ v3)] [i_ t1, i_ t0] x Z Q :=
  V_icmpE (tgt := 1513) dL_law_1508 rfl h.1 (V_msk [true, true, true, true] rfl h.2)
set_option maxRecDepth 20000 in
theorem b_L_law_1513 {k n : Nat} {x : Wx} {Z : Zt} {Q : Option Value → Wx → Zt → Prop} {a0 : Nat} {a1 : Nat} {a2 : Nat} {v3 : Int} 
    (h : V mL_law k n 18 [some (r_ a0), some (r_ a1), some (r_ a2), some (i_ (v3 + 7))] [] x Z Q) :
    V mL_law k n 1513 [some (r_ a0), some (r_ a1), some (r_ a2), some (i_ v3)] [] x Z Q :=
  V_iinc (lv' := [some (r_ a0), some (r_ a1), some (r_ a2), some (i_ (v3 + 7))]) dL_law_1513 rfl (Nat.le_of_ble_eq_true rfl) rfl (V_goto (tgt := 18) dL_law_1516 rfl (V_msk [true, true, true, true] rfl h))
