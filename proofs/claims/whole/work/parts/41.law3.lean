/-! The law: every call. -/
theorem B_store {X : CX} {L t : Nat} {xs : Nat → Int32} {M : MM} (hX : CLw X) (hS : SX X L xs) (ht : 6 * t + 6 ≤ L) (hL : L ≤ 384) (h : INV M) (kk : ∀ M2, INV M2 → VW X 1345 (loL t) [] (gM M2)) : VW X 188 (loL t) [] (gM M) := by
  obtain ⟨v, M1, M2, hc, hm, hI⟩ := OP_store h (xs (i3 (6 * t) + 1).toNatClampNeg) (xs (i3 (6 * t) + 2).toNatClampNeg) (xs (i3 (6 * t) + 3).toNatClampNeg) (xs (i3 (6 * t) + 4).toNatClampNeg)
  refine v_aload_n (pc := 188) hX rfl d_La_law_188 ?_
  refine v_aload_n (pc := 189) hX rfl d_La_law_189 ?_
  refine v_iload_n (pc := 190) hX rfl d_La_law_190 ?_
  refine v_iconst (pc := 191) (v := 1) hX (by decide) d_La_law_191 ?_
  refine v_iadd (pc := 192) hX d_La_law_192 ?_
  refine l_sld (pc := 193) hX hS (sx_in (c := 1) ht hL (by decide) rfl) d_La_law_193 ?_
  refine v_aload_n (pc := 194) hX rfl d_La_law_194 ?_
  refine v_iload_n (pc := 195) hX rfl d_La_law_195 ?_
  refine v_iconst (pc := 196) (v := 2) hX (by decide) d_La_law_196 ?_
  refine v_iadd (pc := 197) hX d_La_law_197 ?_
  refine l_sld (pc := 198) hX hS (sx_in (c := 2) ht hL (by decide) rfl) d_La_law_198 ?_
  refine v_aload_n (pc := 199) hX rfl d_La_law_199 ?_
  refine v_iload_n (pc := 200) hX rfl d_La_law_200 ?_
  refine v_iconst (pc := 201) (v := 3) hX (by decide) d_La_law_201 ?_
  refine v_iadd (pc := 202) hX d_La_law_202 ?_
  refine l_sld (pc := 203) hX hS (sx_in (c := 3) ht hL (by decide) rfl) d_La_law_203 ?_
  refine v_aload_n (pc := 204) hX rfl d_La_law_204 ?_
  refine v_iload_n (pc := 205) hX rfl d_La_law_205 ?_
  refine v_iconst (pc := 206) (v := 4) hX (by decide) d_La_law_206 ?_
  refine v_iadd (pc := 207) hX d_La_law_207 ?_
  refine l_sld (pc := 208) hX hS (sx_in (c := 4) ht hL (by decide) rfl) d_La_law_208 ?_
  refine l_callV (pc := 209) hX k_LJ_store ki_LJ_store kv_LJ_store ml_La_13 hc rfl rfl rfl rfl rfl (by decide) (by decide) (Nat.le_of_ble_eq_true rfl) g_len g_siz d_La_law_209 ?_
  refine v_aload_n (pc := 212) hX rfl d_La_law_212 ?_
  refine v_aload_n (pc := 213) hX rfl d_La_law_213 ?_
  refine v_iload_n (pc := 214) hX rfl d_La_law_214 ?_
  refine v_iconst (pc := 215) (v := 1) hX (by decide) d_La_law_215 ?_
  refine v_iadd (pc := 216) hX d_La_law_216 ?_
  refine l_sld (pc := 217) hX hS (sx_in (c := 1) ht hL (by decide) rfl) d_La_law_217 ?_
  refine v_aload_n (pc := 218) hX rfl d_La_law_218 ?_
  refine v_iload_n (pc := 219) hX rfl d_La_law_219 ?_
  refine v_iconst (pc := 220) (v := 2) hX (by decide) d_La_law_220 ?_
  refine v_iadd (pc := 221) hX d_La_law_221 ?_
  refine l_sld (pc := 222) hX hS (sx_in (c := 2) ht hL (by decide) rfl) d_La_law_222 ?_
  refine v_aload_n (pc := 223) hX rfl d_La_law_223 ?_
  refine v_iload_n (pc := 224) hX rfl d_La_law_224 ?_
  refine v_iconst (pc := 225) (v := 3) hX (by decide) d_La_law_225 ?_
  refine v_iadd (pc := 226) hX d_La_law_226 ?_
  refine l_sld (pc := 227) hX hS (sx_in (c := 3) ht hL (by decide) rfl) d_La_law_227 ?_
  refine v_aload_n (pc := 228) hX rfl d_La_law_228 ?_
  refine v_iload_n (pc := 229) hX rfl d_La_law_229 ?_
  refine v_iconst (pc := 230) (v := 4) hX (by decide) d_La_law_230 ?_
  refine v_iadd (pc := 231) hX d_La_law_231 ?_
  refine l_sld (pc := 232) hX hS (sx_in (c := 4) ht hL (by decide) rfl) d_La_law_232 ?_
  refine l_callV (pc := 233) hX k_Mo_store ki_Mo_store kv_Mo_store ml_La_17 hm rfl rfl rfl rfl rfl (by decide) (by decide) (Nat.le_of_ble_eq_true rfl) g_len g_siz d_La_law_233 ?_
  exact v_icmp_eq (pc := 236) (tgt := 1345) hX d_La_law_236 rfl (fun _ => kk M2 hI) (fun w => absurd rfl w)
theorem B_ofJar {X : CX} {L t : Nat} {xs : Nat → Int32} {M : MM} (hX : CLw X) (hS : SX X L xs) (ht : 6 * t + 6 ≤ L) (hL : L ≤ 384) (h : INV M) (kk : ∀ M2, INV M2 → VW X 1345 (loL t) [] (gM M2)) : VW X 241 (loL t) [] (gM M) := by
  obtain ⟨v, M1, M2, hc, hm, hI⟩ := OP_ofJar h (xs (i3 (6 * t) + 1).toNatClampNeg) (xs (i3 (6 * t) + 2).toNatClampNeg)
  refine v_aload_n (pc := 241) hX rfl d_La_law_241 ?_
  refine v_aload_n (pc := 242) hX rfl d_La_law_242 ?_
  refine v_iload_n (pc := 243) hX rfl d_La_law_243 ?_
  refine v_iconst (pc := 244) (v := 1) hX (by decide) d_La_law_244 ?_
  refine v_iadd (pc := 245) hX d_La_law_245 ?_
  refine l_sld (pc := 246) hX hS (sx_in (c := 1) ht hL (by decide) rfl) d_La_law_246 ?_
  refine v_aload_n (pc := 247) hX rfl d_La_law_247 ?_
  refine v_iload_n (pc := 248) hX rfl d_La_law_248 ?_
  refine v_iconst (pc := 249) (v := 2) hX (by decide) d_La_law_249 ?_
  refine v_iadd (pc := 250) hX d_La_law_250 ?_
  refine l_sld (pc := 251) hX hS (sx_in (c := 2) ht hL (by decide) rfl) d_La_law_251 ?_
  refine l_callV (pc := 252) hX k_LJ_ofJar ki_LJ_ofJar kv_LJ_ofJar ml_La_18 hc rfl rfl rfl rfl rfl (by decide) (by decide) (Nat.le_of_ble_eq_true rfl) g_len g_siz d_La_law_252 ?_
  refine v_aload_n (pc := 255) hX rfl d_La_law_255 ?_
  refine v_aload_n (pc := 256) hX rfl d_La_law_256 ?_
  refine v_iload_n (pc := 257) hX rfl d_La_law_257 ?_
  refine v_iconst (pc := 258) (v := 1) hX (by decide) d_La_law_258 ?_
  refine v_iadd (pc := 259) hX d_La_law_259 ?_
  refine l_sld (pc := 260) hX hS (sx_in (c := 1) ht hL (by decide) rfl) d_La_law_260 ?_
  refine v_aload_n (pc := 261) hX rfl d_La_law_261 ?_
  refine v_iload_n (pc := 262) hX rfl d_La_law_262 ?_
  refine v_iconst (pc := 263) (v := 2) hX (by decide) d_La_law_263 ?_
  refine v_iadd (pc := 264) hX d_La_law_264 ?_
  refine l_sld (pc := 265) hX hS (sx_in (c := 2) ht hL (by decide) rfl) d_La_law_265 ?_
  refine l_callV (pc := 266) hX k_Mo_ofJar ki_Mo_ofJar kv_Mo_ofJar ml_La_22 hm rfl rfl rfl rfl rfl (by decide) (by decide) (Nat.le_of_ble_eq_true rfl) g_len g_siz d_La_law_266 ?_
  exact v_icmp_eq (pc := 269) (tgt := 1345) hX d_La_law_269 rfl (fun _ => kk M2 hI) (fun w => absurd rfl w)
theorem B_ofDecider {X : CX} {L t : Nat} {xs : Nat → Int32} {M : MM} (hX : CLw X) (hS : SX X L xs) (ht : 6 * t + 6 ≤ L) (hL : L ≤ 384) (h : INV M) (kk : ∀ M2, INV M2 → VW X 1345 (loL t) [] (gM M2)) : VW X 274 (loL t) [] (gM M) := by
  obtain ⟨v, M1, M2, hc, hm, hI⟩ := OP_ofDecider h (xs (i3 (6 * t) + 1).toNatClampNeg) (xs (i3 (6 * t) + 2).toNatClampNeg)
  refine v_aload_n (pc := 274) hX rfl d_La_law_274 ?_
  refine v_aload_n (pc := 275) hX rfl d_La_law_275 ?_
  refine v_iload_n (pc := 276) hX rfl d_La_law_276 ?_
  refine v_iconst (pc := 277) (v := 1) hX (by decide) d_La_law_277 ?_
  refine v_iadd (pc := 278) hX d_La_law_278 ?_
  refine l_sld (pc := 279) hX hS (sx_in (c := 1) ht hL (by decide) rfl) d_La_law_279 ?_
  refine v_aload_n (pc := 280) hX rfl d_La_law_280 ?_
  refine v_iload_n (pc := 281) hX rfl d_La_law_281 ?_
  refine v_iconst (pc := 282) (v := 2) hX (by decide) d_La_law_282 ?_
  refine v_iadd (pc := 283) hX d_La_law_283 ?_
  refine l_sld (pc := 284) hX hS (sx_in (c := 2) ht hL (by decide) rfl) d_La_law_284 ?_
  refine l_callV (pc := 285) hX k_LJ_ofDecider ki_LJ_ofDecider kv_LJ_ofDecider ml_La_23 hc rfl rfl rfl rfl rfl (by decide) (by decide) (Nat.le_of_ble_eq_true rfl) g_len g_siz d_La_law_285 ?_
  refine v_aload_n (pc := 288) hX rfl d_La_law_288 ?_
  refine v_aload_n (pc := 289) hX rfl d_La_law_289 ?_
  refine v_iload_n (pc := 290) hX rfl d_La_law_290 ?_
  refine v_iconst (pc := 291) (v := 1) hX (by decide) d_La_law_291 ?_
  refine v_iadd (pc := 292) hX d_La_law_292 ?_
  refine l_sld (pc := 293) hX hS (sx_in (c := 1) ht hL (by decide) rfl) d_La_law_293 ?_
  refine v_aload_n (pc := 294) hX rfl d_La_law_294 ?_
  refine v_iload_n (pc := 295) hX rfl d_La_law_295 ?_
  refine v_iconst (pc := 296) (v := 2) hX (by decide) d_La_law_296 ?_
  refine v_iadd (pc := 297) hX d_La_law_297 ?_
  refine l_sld (pc := 298) hX hS (sx_in (c := 2) ht hL (by decide) rfl) d_La_law_298 ?_
  refine l_callV (pc := 299) hX k_Mo_ofDecider ki_Mo_ofDecider kv_Mo_ofDecider ml_La_26 hm rfl rfl rfl rfl rfl (by decide) (by decide) (Nat.le_of_ble_eq_true rfl) g_len g_siz d_La_law_299 ?_
  exact v_icmp_eq (pc := 302) (tgt := 1345) hX d_La_law_302 rfl (fun _ => kk M2 hI) (fun w => absurd rfl w)
theorem B_cure {X : CX} {L t : Nat} {xs : Nat → Int32} {M : MM} (hX : CLw X) (hS : SX X L xs) (ht : 6 * t + 6 ≤ L) (hL : L ≤ 384) (h : INV M) (kk : ∀ M2, INV M2 → VW X 1345 (loL t) [] (gM M2)) : VW X 307 (loL t) [] (gM M) := by
  obtain ⟨v, M1, M2, hc, hm, hI⟩ := OP_cure h (xs (i3 (6 * t) + 1).toNatClampNeg) (xs (i3 (6 * t) + 2).toNatClampNeg)
  refine v_aload_n (pc := 307) hX rfl d_La_law_307 ?_
  refine v_aload_n (pc := 308) hX rfl d_La_law_308 ?_
  refine v_iload_n (pc := 309) hX rfl d_La_law_309 ?_
  refine v_iconst (pc := 310) (v := 1) hX (by decide) d_La_law_310 ?_
  refine v_iadd (pc := 311) hX d_La_law_311 ?_
  refine l_sld (pc := 312) hX hS (sx_in (c := 1) ht hL (by decide) rfl) d_La_law_312 ?_
  refine v_aload_n (pc := 313) hX rfl d_La_law_313 ?_
  refine v_iload_n (pc := 314) hX rfl d_La_law_314 ?_
  refine v_iconst (pc := 315) (v := 2) hX (by decide) d_La_law_315 ?_
  refine v_iadd (pc := 316) hX d_La_law_316 ?_
  refine l_sld (pc := 317) hX hS (sx_in (c := 2) ht hL (by decide) rfl) d_La_law_317 ?_
  refine l_callV (pc := 318) hX k_LJ_cure ki_LJ_cure kv_LJ_cure ml_La_27 hc rfl rfl rfl rfl rfl (by decide) (by decide) (Nat.le_of_ble_eq_true rfl) g_len g_siz d_La_law_318 ?_
  refine v_aload_n (pc := 321) hX rfl d_La_law_321 ?_
  refine v_aload_n (pc := 322) hX rfl d_La_law_322 ?_
  refine v_iload_n (pc := 323) hX rfl d_La_law_323 ?_
  refine v_iconst (pc := 324) (v := 1) hX (by decide) d_La_law_324 ?_
  refine v_iadd (pc := 325) hX d_La_law_325 ?_
  refine l_sld (pc := 326) hX hS (sx_in (c := 1) ht hL (by decide) rfl) d_La_law_326 ?_
  refine v_aload_n (pc := 327) hX rfl d_La_law_327 ?_
  refine v_iload_n (pc := 328) hX rfl d_La_law_328 ?_
  refine v_iconst (pc := 329) (v := 2) hX (by decide) d_La_law_329 ?_
  refine v_iadd (pc := 330) hX d_La_law_330 ?_
  refine l_sld (pc := 331) hX hS (sx_in (c := 2) ht hL (by decide) rfl) d_La_law_331 ?_
  refine l_callV (pc := 332) hX k_Mo_cure ki_Mo_cure kv_Mo_cure ml_La_30 hm rfl rfl rfl rfl rfl (by decide) (by decide) (Nat.le_of_ble_eq_true rfl) g_len g_siz d_La_law_332 ?_
  exact v_icmp_eq (pc := 335) (tgt := 1345) hX d_La_law_335 rfl (fun _ => kk M2 hI) (fun w => absurd rfl w)
theorem B_fetch {X : CX} {L t : Nat} {xs : Nat → Int32} {M : MM} (hX : CLw X) (hS : SX X L xs) (ht : 6 * t + 6 ≤ L) (hL : L ≤ 384) (h : INV M) (kk : ∀ M2, INV M2 → VW X 1345 (loL t) [] (gM M2)) : VW X 340 (loL t) [] (gM M) := by
  obtain ⟨v, M1, M2, hc, hm, hI⟩ := OP_fetch h (xs (i3 (6 * t) + 1).toNatClampNeg) (xs (i3 (6 * t) + 2).toNatClampNeg)
  refine v_aload_n (pc := 340) hX rfl d_La_law_340 ?_
  refine v_aload_n (pc := 341) hX rfl d_La_law_341 ?_
  refine v_iload_n (pc := 342) hX rfl d_La_law_342 ?_
  refine v_iconst (pc := 343) (v := 1) hX (by decide) d_La_law_343 ?_
  refine v_iadd (pc := 344) hX d_La_law_344 ?_
  refine l_sld (pc := 345) hX hS (sx_in (c := 1) ht hL (by decide) rfl) d_La_law_345 ?_
  refine v_aload_n (pc := 346) hX rfl d_La_law_346 ?_
  refine v_iload_n (pc := 347) hX rfl d_La_law_347 ?_
  refine v_iconst (pc := 348) (v := 2) hX (by decide) d_La_law_348 ?_
  refine v_iadd (pc := 349) hX d_La_law_349 ?_
  refine l_sld (pc := 350) hX hS (sx_in (c := 2) ht hL (by decide) rfl) d_La_law_350 ?_
  refine l_callV (pc := 351) hX k_LJ_fetch ki_LJ_fetch kv_LJ_fetch ml_La_31 hc rfl rfl rfl rfl rfl (by decide) (by decide) (Nat.le_of_ble_eq_true rfl) g_len g_siz d_La_law_351 ?_
  refine v_aload_n (pc := 354) hX rfl d_La_law_354 ?_
  refine v_aload_n (pc := 355) hX rfl d_La_law_355 ?_
  refine v_iload_n (pc := 356) hX rfl d_La_law_356 ?_
  refine v_iconst (pc := 357) (v := 1) hX (by decide) d_La_law_357 ?_
  refine v_iadd (pc := 358) hX d_La_law_358 ?_
  refine l_sld (pc := 359) hX hS (sx_in (c := 1) ht hL (by decide) rfl) d_La_law_359 ?_
  refine v_aload_n (pc := 360) hX rfl d_La_law_360 ?_
  refine v_iload_n (pc := 361) hX rfl d_La_law_361 ?_
  refine v_iconst (pc := 362) (v := 2) hX (by decide) d_La_law_362 ?_
  refine v_iadd (pc := 363) hX d_La_law_363 ?_
  refine l_sld (pc := 364) hX hS (sx_in (c := 2) ht hL (by decide) rfl) d_La_law_364 ?_
  refine l_callV (pc := 365) hX k_Mo_fetch ki_Mo_fetch kv_Mo_fetch ml_La_34 hm rfl rfl rfl rfl rfl (by decide) (by decide) (Nat.le_of_ble_eq_true rfl) g_len g_siz d_La_law_365 ?_
  exact v_icmp_eq (pc := 368) (tgt := 1345) hX d_La_law_368 rfl (fun _ => kk M2 hI) (fun w => absurd rfl w)
theorem B_price {X : CX} {L t : Nat} {xs : Nat → Int32} {M : MM} (hX : CLw X) (hS : SX X L xs) (ht : 6 * t + 6 ≤ L) (hL : L ≤ 384) (h : INV M) (kk : ∀ M2, INV M2 → VW X 1345 (loL t) [] (gM M2)) : VW X 373 (loL t) [] (gM M) := by
  obtain ⟨v, M1, M2, hc, hm, hI⟩ := OP_price h (xs (i3 (6 * t) + 1).toNatClampNeg) (xs (i3 (6 * t) + 2).toNatClampNeg)
  refine v_aload_n (pc := 373) hX rfl d_La_law_373 ?_
  refine v_aload_n (pc := 374) hX rfl d_La_law_374 ?_
  refine v_iload_n (pc := 375) hX rfl d_La_law_375 ?_
  refine v_iconst (pc := 376) (v := 1) hX (by decide) d_La_law_376 ?_
  refine v_iadd (pc := 377) hX d_La_law_377 ?_
  refine l_sld (pc := 378) hX hS (sx_in (c := 1) ht hL (by decide) rfl) d_La_law_378 ?_
  refine v_aload_n (pc := 379) hX rfl d_La_law_379 ?_
  refine v_iload_n (pc := 380) hX rfl d_La_law_380 ?_
  refine v_iconst (pc := 381) (v := 2) hX (by decide) d_La_law_381 ?_
  refine v_iadd (pc := 382) hX d_La_law_382 ?_
  refine l_sld (pc := 383) hX hS (sx_in (c := 2) ht hL (by decide) rfl) d_La_law_383 ?_
  refine l_callV (pc := 384) hX k_LJ_price ki_LJ_price kv_LJ_price ml_La_35 hc rfl rfl rfl rfl rfl (by decide) (by decide) (Nat.le_of_ble_eq_true rfl) g_len g_siz d_La_law_384 ?_
  refine v_aload_n (pc := 387) hX rfl d_La_law_387 ?_
  refine v_aload_n (pc := 388) hX rfl d_La_law_388 ?_
  refine v_iload_n (pc := 389) hX rfl d_La_law_389 ?_
  refine v_iconst (pc := 390) (v := 1) hX (by decide) d_La_law_390 ?_
  refine v_iadd (pc := 391) hX d_La_law_391 ?_
  refine l_sld (pc := 392) hX hS (sx_in (c := 1) ht hL (by decide) rfl) d_La_law_392 ?_
  refine v_aload_n (pc := 393) hX rfl d_La_law_393 ?_
  refine v_iload_n (pc := 394) hX rfl d_La_law_394 ?_
  refine v_iconst (pc := 395) (v := 2) hX (by decide) d_La_law_395 ?_
  refine v_iadd (pc := 396) hX d_La_law_396 ?_
  refine l_sld (pc := 397) hX hS (sx_in (c := 2) ht hL (by decide) rfl) d_La_law_397 ?_
  refine l_callV (pc := 398) hX k_Mo_price ki_Mo_price kv_Mo_price ml_La_38 hm rfl rfl rfl rfl rfl (by decide) (by decide) (Nat.le_of_ble_eq_true rfl) g_len g_siz d_La_law_398 ?_
  exact v_icmp_eq (pc := 401) (tgt := 1345) hX d_La_law_401 rfl (fun _ => kk M2 hI) (fun w => absurd rfl w)
theorem B_dread {X : CX} {L t : Nat} {xs : Nat → Int32} {M : MM} (hX : CLw X) (hS : SX X L xs) (ht : 6 * t + 6 ≤ L) (hL : L ≤ 384) (h : INV M) (kk : ∀ M2, INV M2 → VW X 1345 (loL t) [] (gM M2)) : VW X 406 (loL t) [] (gM M) := by
  obtain ⟨v, M1, M2, hc, hm, hI⟩ := OP_dread h (xs (i3 (6 * t) + 1).toNatClampNeg) (xs (i3 (6 * t) + 2).toNatClampNeg)
  refine v_aload_n (pc := 406) hX rfl d_La_law_406 ?_
  refine v_aload_n (pc := 407) hX rfl d_La_law_407 ?_
  refine v_iload_n (pc := 408) hX rfl d_La_law_408 ?_
  refine v_iconst (pc := 409) (v := 1) hX (by decide) d_La_law_409 ?_
  refine v_iadd (pc := 410) hX d_La_law_410 ?_
  refine l_sld (pc := 411) hX hS (sx_in (c := 1) ht hL (by decide) rfl) d_La_law_411 ?_
  refine v_aload_n (pc := 412) hX rfl d_La_law_412 ?_
  refine v_iload_n (pc := 413) hX rfl d_La_law_413 ?_
  refine v_iconst (pc := 414) (v := 2) hX (by decide) d_La_law_414 ?_
  refine v_iadd (pc := 415) hX d_La_law_415 ?_
  refine l_sld (pc := 416) hX hS (sx_in (c := 2) ht hL (by decide) rfl) d_La_law_416 ?_
  refine l_callV (pc := 417) hX k_LJ_dread ki_LJ_dread kv_LJ_dread ml_La_39 hc rfl rfl rfl rfl rfl (by decide) (by decide) (Nat.le_of_ble_eq_true rfl) g_len g_siz d_La_law_417 ?_
  refine v_aload_n (pc := 420) hX rfl d_La_law_420 ?_
  refine v_aload_n (pc := 421) hX rfl d_La_law_421 ?_
  refine v_iload_n (pc := 422) hX rfl d_La_law_422 ?_
  refine v_iconst (pc := 423) (v := 1) hX (by decide) d_La_law_423 ?_
  refine v_iadd (pc := 424) hX d_La_law_424 ?_
  refine l_sld (pc := 425) hX hS (sx_in (c := 1) ht hL (by decide) rfl) d_La_law_425 ?_
  refine v_aload_n (pc := 426) hX rfl d_La_law_426 ?_
  refine v_iload_n (pc := 427) hX rfl d_La_law_427 ?_
  refine v_iconst (pc := 428) (v := 2) hX (by decide) d_La_law_428 ?_
  refine v_iadd (pc := 429) hX d_La_law_429 ?_
  refine l_sld (pc := 430) hX hS (sx_in (c := 2) ht hL (by decide) rfl) d_La_law_430 ?_
  refine l_callV (pc := 431) hX k_Mo_dread ki_Mo_dread kv_Mo_dread ml_La_42 hm rfl rfl rfl rfl rfl (by decide) (by decide) (Nat.le_of_ble_eq_true rfl) g_len g_siz d_La_law_431 ?_
  exact v_icmp_eq (pc := 434) (tgt := 1345) hX d_La_law_434 rfl (fun _ => kk M2 hI) (fun w => absurd rfl w)
theorem B_pay {X : CX} {L t : Nat} {xs : Nat → Int32} {M : MM} (hX : CLw X) (hS : SX X L xs) (ht : 6 * t + 6 ≤ L) (hL : L ≤ 384) (h : INV M) (kk : ∀ M2, INV M2 → VW X 1345 (loL t) [] (gM M2)) : VW X 439 (loL t) [] (gM M) := by
  obtain ⟨v, M1, M2, hc, hm, hI⟩ := OP_pay h (xs (i3 (6 * t) + 1).toNatClampNeg) (xs (i3 (6 * t) + 2).toNatClampNeg)
  refine v_aload_n (pc := 439) hX rfl d_La_law_439 ?_
  refine v_aload_n (pc := 440) hX rfl d_La_law_440 ?_
  refine v_iload_n (pc := 441) hX rfl d_La_law_441 ?_
  refine v_iconst (pc := 442) (v := 1) hX (by decide) d_La_law_442 ?_
  refine v_iadd (pc := 443) hX d_La_law_443 ?_
  refine l_sld (pc := 444) hX hS (sx_in (c := 1) ht hL (by decide) rfl) d_La_law_444 ?_
  refine v_aload_n (pc := 445) hX rfl d_La_law_445 ?_
  refine v_iload_n (pc := 446) hX rfl d_La_law_446 ?_
  refine v_iconst (pc := 447) (v := 2) hX (by decide) d_La_law_447 ?_
  refine v_iadd (pc := 448) hX d_La_law_448 ?_
  refine l_sld (pc := 449) hX hS (sx_in (c := 2) ht hL (by decide) rfl) d_La_law_449 ?_
  refine l_callV (pc := 450) hX k_LJ_pay ki_LJ_pay kv_LJ_pay ml_La_43 hc rfl rfl rfl rfl rfl (by decide) (by decide) (Nat.le_of_ble_eq_true rfl) g_len g_siz d_La_law_450 ?_
  refine v_aload_n (pc := 453) hX rfl d_La_law_453 ?_
  refine v_aload_n (pc := 454) hX rfl d_La_law_454 ?_
  refine v_iload_n (pc := 455) hX rfl d_La_law_455 ?_
  refine v_iconst (pc := 456) (v := 1) hX (by decide) d_La_law_456 ?_
  refine v_iadd (pc := 457) hX d_La_law_457 ?_
  refine l_sld (pc := 458) hX hS (sx_in (c := 1) ht hL (by decide) rfl) d_La_law_458 ?_
  refine v_aload_n (pc := 459) hX rfl d_La_law_459 ?_
  refine v_iload_n (pc := 460) hX rfl d_La_law_460 ?_
  refine v_iconst (pc := 461) (v := 2) hX (by decide) d_La_law_461 ?_
  refine v_iadd (pc := 462) hX d_La_law_462 ?_
  refine l_sld (pc := 463) hX hS (sx_in (c := 2) ht hL (by decide) rfl) d_La_law_463 ?_
  refine l_callV (pc := 464) hX k_Mo_pay ki_Mo_pay kv_Mo_pay ml_La_46 hm rfl rfl rfl rfl rfl (by decide) (by decide) (Nat.le_of_ble_eq_true rfl) g_len g_siz d_La_law_464 ?_
  exact v_icmp_eq (pc := 467) (tgt := 1345) hX d_La_law_467 rfl (fun _ => kk M2 hI) (fun w => absurd rfl w)
theorem B_mark {X : CX} {L t : Nat} {xs : Nat → Int32} {M : MM} (hX : CLw X) (hS : SX X L xs) (ht : 6 * t + 6 ≤ L) (hL : L ≤ 384) (h : INV M) (kk : ∀ M2, INV M2 → VW X 1345 (loL t) [] (gM M2)) : VW X 472 (loL t) [] (gM M) := by
  obtain ⟨v, M1, M2, hc, hm, hI⟩ := OP_mark h (xs (i3 (6 * t) + 1).toNatClampNeg) (xs (i3 (6 * t) + 2).toNatClampNeg)
  refine v_aload_n (pc := 472) hX rfl d_La_law_472 ?_
  refine v_aload_n (pc := 473) hX rfl d_La_law_473 ?_
  refine v_iload_n (pc := 474) hX rfl d_La_law_474 ?_
  refine v_iconst (pc := 475) (v := 1) hX (by decide) d_La_law_475 ?_
  refine v_iadd (pc := 476) hX d_La_law_476 ?_
  refine l_sld (pc := 477) hX hS (sx_in (c := 1) ht hL (by decide) rfl) d_La_law_477 ?_
  refine v_aload_n (pc := 478) hX rfl d_La_law_478 ?_
  refine v_iload_n (pc := 479) hX rfl d_La_law_479 ?_
  refine v_iconst (pc := 480) (v := 2) hX (by decide) d_La_law_480 ?_
  refine v_iadd (pc := 481) hX d_La_law_481 ?_
  refine l_sld (pc := 482) hX hS (sx_in (c := 2) ht hL (by decide) rfl) d_La_law_482 ?_
  refine l_callV (pc := 483) hX k_LJ_mark ki_LJ_mark kv_LJ_mark ml_La_47 hc rfl rfl rfl rfl rfl (by decide) (by decide) (Nat.le_of_ble_eq_true rfl) g_len g_siz d_La_law_483 ?_
  refine v_aload_n (pc := 486) hX rfl d_La_law_486 ?_
  refine v_aload_n (pc := 487) hX rfl d_La_law_487 ?_
  refine v_iload_n (pc := 488) hX rfl d_La_law_488 ?_
  refine v_iconst (pc := 489) (v := 1) hX (by decide) d_La_law_489 ?_
  refine v_iadd (pc := 490) hX d_La_law_490 ?_
  refine l_sld (pc := 491) hX hS (sx_in (c := 1) ht hL (by decide) rfl) d_La_law_491 ?_
  refine v_aload_n (pc := 492) hX rfl d_La_law_492 ?_
  refine v_iload_n (pc := 493) hX rfl d_La_law_493 ?_
  refine v_iconst (pc := 494) (v := 2) hX (by decide) d_La_law_494 ?_
  refine v_iadd (pc := 495) hX d_La_law_495 ?_
  refine l_sld (pc := 496) hX hS (sx_in (c := 2) ht hL (by decide) rfl) d_La_law_496 ?_
  refine l_callV (pc := 497) hX k_Mo_mark ki_Mo_mark kv_Mo_mark ml_La_50 hm rfl rfl rfl rfl rfl (by decide) (by decide) (Nat.le_of_ble_eq_true rfl) g_len g_siz d_La_law_497 ?_
  exact v_icmp_eq (pc := 500) (tgt := 1345) hX d_La_law_500 rfl (fun _ => kk M2 hI) (fun w => absurd rfl w)
theorem B_blend {X : CX} {L t : Nat} {xs : Nat → Int32} {M : MM} (hX : CLw X) (hS : SX X L xs) (ht : 6 * t + 6 ≤ L) (hL : L ≤ 384) (h : INV M) (kk : ∀ M2, INV M2 → VW X 1345 (loL t) [] (gM M2)) : VW X 505 (loL t) [] (gM M) := by
  obtain ⟨v, M1, M2, hc, hm, hI⟩ := OP_blend h (xs (i3 (6 * t) + 1).toNatClampNeg) (xs (i3 (6 * t) + 2).toNatClampNeg)
  refine v_aload_n (pc := 505) hX rfl d_La_law_505 ?_
  refine v_aload_n (pc := 506) hX rfl d_La_law_506 ?_
  refine v_iload_n (pc := 507) hX rfl d_La_law_507 ?_
  refine v_iconst (pc := 508) (v := 1) hX (by decide) d_La_law_508 ?_
  refine v_iadd (pc := 509) hX d_La_law_509 ?_
  refine l_sld (pc := 510) hX hS (sx_in (c := 1) ht hL (by decide) rfl) d_La_law_510 ?_
  refine v_aload_n (pc := 511) hX rfl d_La_law_511 ?_
  refine v_iload_n (pc := 512) hX rfl d_La_law_512 ?_
  refine v_iconst (pc := 513) (v := 2) hX (by decide) d_La_law_513 ?_
  refine v_iadd (pc := 514) hX d_La_law_514 ?_
  refine l_sld (pc := 515) hX hS (sx_in (c := 2) ht hL (by decide) rfl) d_La_law_515 ?_
  refine l_callV (pc := 516) hX k_LJ_blend ki_LJ_blend kv_LJ_blend ml_La_51 hc rfl rfl rfl rfl rfl (by decide) (by decide) (Nat.le_of_ble_eq_true rfl) g_len g_siz d_La_law_516 ?_
  refine v_aload_n (pc := 519) hX rfl d_La_law_519 ?_
  refine v_aload_n (pc := 520) hX rfl d_La_law_520 ?_
  refine v_iload_n (pc := 521) hX rfl d_La_law_521 ?_
  refine v_iconst (pc := 522) (v := 1) hX (by decide) d_La_law_522 ?_
  refine v_iadd (pc := 523) hX d_La_law_523 ?_
  refine l_sld (pc := 524) hX hS (sx_in (c := 1) ht hL (by decide) rfl) d_La_law_524 ?_
  refine v_aload_n (pc := 525) hX rfl d_La_law_525 ?_
  refine v_iload_n (pc := 526) hX rfl d_La_law_526 ?_
  refine v_iconst (pc := 527) (v := 2) hX (by decide) d_La_law_527 ?_
  refine v_iadd (pc := 528) hX d_La_law_528 ?_
  refine l_sld (pc := 529) hX hS (sx_in (c := 2) ht hL (by decide) rfl) d_La_law_529 ?_
  refine l_callV (pc := 530) hX k_Mo_blend ki_Mo_blend kv_Mo_blend ml_La_54 hm rfl rfl rfl rfl rfl (by decide) (by decide) (Nat.le_of_ble_eq_true rfl) g_len g_siz d_La_law_530 ?_
  exact v_icmp_eq (pc := 533) (tgt := 1345) hX d_La_law_533 rfl (fun _ => kk M2 hI) (fun w => absurd rfl w)
theorem B_hold {X : CX} {L t : Nat} {xs : Nat → Int32} {M : MM} (hX : CLw X) (hS : SX X L xs) (ht : 6 * t + 6 ≤ L) (hL : L ≤ 384) (h : INV M) (kk : ∀ M2, INV M2 → VW X 1345 (loL t) [] (gM M2)) : VW X 538 (loL t) [] (gM M) := by
  obtain ⟨v, M1, M2, hc, hm, hI⟩ := OP_hold h (xs (i3 (6 * t) + 1).toNatClampNeg) (xs (i3 (6 * t) + 2).toNatClampNeg)
  refine v_aload_n (pc := 538) hX rfl d_La_law_538 ?_
  refine v_aload_n (pc := 539) hX rfl d_La_law_539 ?_
  refine v_iload_n (pc := 540) hX rfl d_La_law_540 ?_
  refine v_iconst (pc := 541) (v := 1) hX (by decide) d_La_law_541 ?_
  refine v_iadd (pc := 542) hX d_La_law_542 ?_
  refine l_sld (pc := 543) hX hS (sx_in (c := 1) ht hL (by decide) rfl) d_La_law_543 ?_
  refine v_aload_n (pc := 544) hX rfl d_La_law_544 ?_
  refine v_iload_n (pc := 545) hX rfl d_La_law_545 ?_
  refine v_iconst (pc := 546) (v := 2) hX (by decide) d_La_law_546 ?_
  refine v_iadd (pc := 547) hX d_La_law_547 ?_
  refine l_sld (pc := 548) hX hS (sx_in (c := 2) ht hL (by decide) rfl) d_La_law_548 ?_
  refine l_callV (pc := 549) hX k_LJ_hold ki_LJ_hold kv_LJ_hold ml_La_55 hc rfl rfl rfl rfl rfl (by decide) (by decide) (Nat.le_of_ble_eq_true rfl) g_len g_siz d_La_law_549 ?_
  refine v_aload_n (pc := 552) hX rfl d_La_law_552 ?_
  refine v_aload_n (pc := 553) hX rfl d_La_law_553 ?_
  refine v_iload_n (pc := 554) hX rfl d_La_law_554 ?_
  refine v_iconst (pc := 555) (v := 1) hX (by decide) d_La_law_555 ?_
  refine v_iadd (pc := 556) hX d_La_law_556 ?_
  refine l_sld (pc := 557) hX hS (sx_in (c := 1) ht hL (by decide) rfl) d_La_law_557 ?_
  refine v_aload_n (pc := 558) hX rfl d_La_law_558 ?_
  refine v_iload_n (pc := 559) hX rfl d_La_law_559 ?_
  refine v_iconst (pc := 560) (v := 2) hX (by decide) d_La_law_560 ?_
  refine v_iadd (pc := 561) hX d_La_law_561 ?_
  refine l_sld (pc := 562) hX hS (sx_in (c := 2) ht hL (by decide) rfl) d_La_law_562 ?_
  refine l_callV (pc := 563) hX k_Mo_hold ki_Mo_hold kv_Mo_hold ml_La_58 hm rfl rfl rfl rfl rfl (by decide) (by decide) (Nat.le_of_ble_eq_true rfl) g_len g_siz d_La_law_563 ?_
  exact v_icmp_eq (pc := 566) (tgt := 1345) hX d_La_law_566 rfl (fun _ => kk M2 hI) (fun w => absurd rfl w)
theorem B_sell {X : CX} {L t : Nat} {xs : Nat → Int32} {M : MM} (hX : CLw X) (hS : SX X L xs) (ht : 6 * t + 6 ≤ L) (hL : L ≤ 384) (h : INV M) (kk : ∀ M2, INV M2 → VW X 1345 (loL t) [] (gM M2)) : VW X 571 (loL t) [] (gM M) := by
  obtain ⟨v, M1, M2, hc, hm, hI⟩ := OP_sell h (xs (i3 (6 * t) + 1).toNatClampNeg) (xs (i3 (6 * t) + 2).toNatClampNeg)
  refine v_aload_n (pc := 571) hX rfl d_La_law_571 ?_
  refine v_aload_n (pc := 572) hX rfl d_La_law_572 ?_
  refine v_iload_n (pc := 573) hX rfl d_La_law_573 ?_
  refine v_iconst (pc := 574) (v := 1) hX (by decide) d_La_law_574 ?_
  refine v_iadd (pc := 575) hX d_La_law_575 ?_
  refine l_sld (pc := 576) hX hS (sx_in (c := 1) ht hL (by decide) rfl) d_La_law_576 ?_
  refine v_aload_n (pc := 577) hX rfl d_La_law_577 ?_
  refine v_iload_n (pc := 578) hX rfl d_La_law_578 ?_
  refine v_iconst (pc := 579) (v := 2) hX (by decide) d_La_law_579 ?_
  refine v_iadd (pc := 580) hX d_La_law_580 ?_
  refine l_sld (pc := 581) hX hS (sx_in (c := 2) ht hL (by decide) rfl) d_La_law_581 ?_
  refine l_callV (pc := 582) hX k_LJ_sell ki_LJ_sell kv_LJ_sell ml_La_59 hc rfl rfl rfl rfl rfl (by decide) (by decide) (Nat.le_of_ble_eq_true rfl) g_len g_siz d_La_law_582 ?_
  refine v_aload_n (pc := 585) hX rfl d_La_law_585 ?_
  refine v_aload_n (pc := 586) hX rfl d_La_law_586 ?_
  refine v_iload_n (pc := 587) hX rfl d_La_law_587 ?_
  refine v_iconst (pc := 588) (v := 1) hX (by decide) d_La_law_588 ?_
  refine v_iadd (pc := 589) hX d_La_law_589 ?_
  refine l_sld (pc := 590) hX hS (sx_in (c := 1) ht hL (by decide) rfl) d_La_law_590 ?_
  refine v_aload_n (pc := 591) hX rfl d_La_law_591 ?_
  refine v_iload_n (pc := 592) hX rfl d_La_law_592 ?_
  refine v_iconst (pc := 593) (v := 2) hX (by decide) d_La_law_593 ?_
  refine v_iadd (pc := 594) hX d_La_law_594 ?_
  refine l_sld (pc := 595) hX hS (sx_in (c := 2) ht hL (by decide) rfl) d_La_law_595 ?_
  refine l_callV (pc := 596) hX k_Mo_sell ki_Mo_sell kv_Mo_sell ml_La_62 hm rfl rfl rfl rfl rfl (by decide) (by decide) (Nat.le_of_ble_eq_true rfl) g_len g_siz d_La_law_596 ?_
  exact v_icmp_eq (pc := 599) (tgt := 1345) hX d_La_law_599 rfl (fun _ => kk M2 hI) (fun w => absurd rfl w)
theorem B_year {X : CX} {L t : Nat} {xs : Nat → Int32} {M : MM} (hX : CLw X) (hS : SX X L xs) (ht : 6 * t + 6 ≤ L) (hL : L ≤ 384) (h : INV M) (kk : ∀ M2, INV M2 → VW X 1345 (loL t) [] (gM M2)) : VW X 604 (loL t) [] (gM M) := by
  obtain ⟨v, M1, M2, hc, hm, hI⟩ := OP_year h (xs (i3 (6 * t) + 1).toNatClampNeg) (xs (i3 (6 * t) + 2).toNatClampNeg) (xs (i3 (6 * t) + 3).toNatClampNeg) (xs (i3 (6 * t) + 4).toNatClampNeg) (xs (i3 (6 * t) + 5).toNatClampNeg)
  refine v_aload_n (pc := 604) hX rfl d_La_law_604 ?_
  refine v_aload_n (pc := 605) hX rfl d_La_law_605 ?_
  refine v_iload_n (pc := 606) hX rfl d_La_law_606 ?_
  refine v_iconst (pc := 607) (v := 1) hX (by decide) d_La_law_607 ?_
  refine v_iadd (pc := 608) hX d_La_law_608 ?_
  refine l_sld (pc := 609) hX hS (sx_in (c := 1) ht hL (by decide) rfl) d_La_law_609 ?_
  refine v_aload_n (pc := 610) hX rfl d_La_law_610 ?_
  refine v_iload_n (pc := 611) hX rfl d_La_law_611 ?_
  refine v_iconst (pc := 612) (v := 2) hX (by decide) d_La_law_612 ?_
  refine v_iadd (pc := 613) hX d_La_law_613 ?_
  refine l_sld (pc := 614) hX hS (sx_in (c := 2) ht hL (by decide) rfl) d_La_law_614 ?_
  refine v_aload_n (pc := 615) hX rfl d_La_law_615 ?_
  refine v_iload_n (pc := 616) hX rfl d_La_law_616 ?_
  refine v_iconst (pc := 617) (v := 3) hX (by decide) d_La_law_617 ?_
  refine v_iadd (pc := 618) hX d_La_law_618 ?_
  refine l_sld (pc := 619) hX hS (sx_in (c := 3) ht hL (by decide) rfl) d_La_law_619 ?_
  refine v_aload_n (pc := 620) hX rfl d_La_law_620 ?_
  refine v_iload_n (pc := 621) hX rfl d_La_law_621 ?_
  refine v_iconst (pc := 622) (v := 4) hX (by decide) d_La_law_622 ?_
  refine v_iadd (pc := 623) hX d_La_law_623 ?_
  refine l_sld (pc := 624) hX hS (sx_in (c := 4) ht hL (by decide) rfl) d_La_law_624 ?_
  refine v_aload_n (pc := 625) hX rfl d_La_law_625 ?_
  refine v_iload_n (pc := 626) hX rfl d_La_law_626 ?_
  refine v_iconst (pc := 627) (v := 5) hX (by decide) d_La_law_627 ?_
  refine v_iadd (pc := 628) hX d_La_law_628 ?_
  refine l_sld (pc := 629) hX hS (sx_in (c := 5) ht hL (by decide) rfl) d_La_law_629 ?_
  refine l_callV (pc := 630) hX k_LJ_year ki_LJ_year kv_LJ_year ml_La_63 hc rfl rfl rfl rfl rfl (by decide) (by decide) (Nat.le_of_ble_eq_true rfl) g_len g_siz d_La_law_630 ?_
  refine v_aload_n (pc := 633) hX rfl d_La_law_633 ?_
  refine v_aload_n (pc := 634) hX rfl d_La_law_634 ?_
  refine v_iload_n (pc := 635) hX rfl d_La_law_635 ?_
  refine v_iconst (pc := 636) (v := 1) hX (by decide) d_La_law_636 ?_
  refine v_iadd (pc := 637) hX d_La_law_637 ?_
  refine l_sld (pc := 638) hX hS (sx_in (c := 1) ht hL (by decide) rfl) d_La_law_638 ?_
  refine v_aload_n (pc := 639) hX rfl d_La_law_639 ?_
  refine v_iload_n (pc := 640) hX rfl d_La_law_640 ?_
  refine v_iconst (pc := 641) (v := 2) hX (by decide) d_La_law_641 ?_
  refine v_iadd (pc := 642) hX d_La_law_642 ?_
  refine l_sld (pc := 643) hX hS (sx_in (c := 2) ht hL (by decide) rfl) d_La_law_643 ?_
  refine v_aload_n (pc := 644) hX rfl d_La_law_644 ?_
  refine v_iload_n (pc := 645) hX rfl d_La_law_645 ?_
  refine v_iconst (pc := 646) (v := 3) hX (by decide) d_La_law_646 ?_
  refine v_iadd (pc := 647) hX d_La_law_647 ?_
  refine l_sld (pc := 648) hX hS (sx_in (c := 3) ht hL (by decide) rfl) d_La_law_648 ?_
  refine v_aload_n (pc := 649) hX rfl d_La_law_649 ?_
  refine v_iload_n (pc := 650) hX rfl d_La_law_650 ?_
  refine v_iconst (pc := 651) (v := 4) hX (by decide) d_La_law_651 ?_
  refine v_iadd (pc := 652) hX d_La_law_652 ?_
  refine l_sld (pc := 653) hX hS (sx_in (c := 4) ht hL (by decide) rfl) d_La_law_653 ?_
  refine v_aload_n (pc := 654) hX rfl d_La_law_654 ?_
  refine v_iload_n (pc := 655) hX rfl d_La_law_655 ?_
  refine v_iconst (pc := 656) (v := 5) hX (by decide) d_La_law_656 ?_
  refine v_iadd (pc := 657) hX d_La_law_657 ?_
  refine l_sld (pc := 658) hX hS (sx_in (c := 5) ht hL (by decide) rfl) d_La_law_658 ?_
  refine l_callV (pc := 659) hX k_Mo_year ki_Mo_year kv_Mo_year ml_La_67 hm rfl rfl rfl rfl rfl (by decide) (by decide) (Nat.le_of_ble_eq_true rfl) g_len g_siz d_La_law_659 ?_
  exact v_icmp_eq (pc := 662) (tgt := 1345) hX d_La_law_662 rfl (fun _ => kk M2 hI) (fun w => absurd rfl w)
theorem B_mix {X : CX} {L t : Nat} {xs : Nat → Int32} {M : MM} (hX : CLw X) (hS : SX X L xs) (ht : 6 * t + 6 ≤ L) (hL : L ≤ 384) (h : INV M) (kk : ∀ M2, INV M2 → VW X 1345 (loL t) [] (gM M2)) : VW X 667 (loL t) [] (gM M) := by
  obtain ⟨v, M1, M2, hc, hm, hI⟩ := OP_mix h (xs (i3 (6 * t) + 1).toNatClampNeg) (xs (i3 (6 * t) + 2).toNatClampNeg)
  refine v_aload_n (pc := 667) hX rfl d_La_law_667 ?_
  refine v_aload_n (pc := 668) hX rfl d_La_law_668 ?_
  refine v_iload_n (pc := 669) hX rfl d_La_law_669 ?_
  refine v_iconst (pc := 670) (v := 1) hX (by decide) d_La_law_670 ?_
  refine v_iadd (pc := 671) hX d_La_law_671 ?_
  refine l_sld (pc := 672) hX hS (sx_in (c := 1) ht hL (by decide) rfl) d_La_law_672 ?_
  refine v_aload_n (pc := 673) hX rfl d_La_law_673 ?_
  refine v_iload_n (pc := 674) hX rfl d_La_law_674 ?_
  refine v_iconst (pc := 675) (v := 2) hX (by decide) d_La_law_675 ?_
  refine v_iadd (pc := 676) hX d_La_law_676 ?_
  refine l_sld (pc := 677) hX hS (sx_in (c := 2) ht hL (by decide) rfl) d_La_law_677 ?_
  refine l_callV (pc := 678) hX k_LJ_mix ki_LJ_mix kv_LJ_mix ml_La_68 hc rfl rfl rfl rfl rfl (by decide) (by decide) (Nat.le_of_ble_eq_true rfl) g_len g_siz d_La_law_678 ?_
  refine v_aload_n (pc := 681) hX rfl d_La_law_681 ?_
  refine v_aload_n (pc := 682) hX rfl d_La_law_682 ?_
  refine v_iload_n (pc := 683) hX rfl d_La_law_683 ?_
  refine v_iconst (pc := 684) (v := 1) hX (by decide) d_La_law_684 ?_
  refine v_iadd (pc := 685) hX d_La_law_685 ?_
  refine l_sld (pc := 686) hX hS (sx_in (c := 1) ht hL (by decide) rfl) d_La_law_686 ?_
  refine v_aload_n (pc := 687) hX rfl d_La_law_687 ?_
  refine v_iload_n (pc := 688) hX rfl d_La_law_688 ?_
  refine v_iconst (pc := 689) (v := 2) hX (by decide) d_La_law_689 ?_
  refine v_iadd (pc := 690) hX d_La_law_690 ?_
  refine l_sld (pc := 691) hX hS (sx_in (c := 2) ht hL (by decide) rfl) d_La_law_691 ?_
  refine l_callV (pc := 692) hX k_Mo_mix ki_Mo_mix kv_Mo_mix ml_La_71 hm rfl rfl rfl rfl rfl (by decide) (by decide) (Nat.le_of_ble_eq_true rfl) g_len g_siz d_La_law_692 ?_
  exact v_icmp_eq (pc := 695) (tgt := 1345) hX d_La_law_695 rfl (fun _ => kk M2 hI) (fun w => absurd rfl w)
theorem B_like {X : CX} {L t : Nat} {xs : Nat → Int32} {M : MM} (hX : CLw X) (hS : SX X L xs) (ht : 6 * t + 6 ≤ L) (hL : L ≤ 384) (h : INV M) (kk : ∀ M2, INV M2 → VW X 1345 (loL t) [] (gM M2)) : VW X 700 (loL t) [] (gM M) := by
  obtain ⟨v, M1, M2, hc, hm, hI⟩ := OP_like h (xs (i3 (6 * t) + 1).toNatClampNeg)
  refine v_aload_n (pc := 700) hX rfl d_La_law_700 ?_
  refine v_aload_n (pc := 701) hX rfl d_La_law_701 ?_
  refine v_iload_n (pc := 702) hX rfl d_La_law_702 ?_
  refine v_iconst (pc := 703) (v := 1) hX (by decide) d_La_law_703 ?_
  refine v_iadd (pc := 704) hX d_La_law_704 ?_
  refine l_sld (pc := 705) hX hS (sx_in (c := 1) ht hL (by decide) rfl) d_La_law_705 ?_
  refine l_callV (pc := 706) hX k_LJ_like ki_LJ_like kv_LJ_like ml_La_72 hc rfl rfl rfl rfl rfl (by decide) (by decide) (Nat.le_of_ble_eq_true rfl) g_len g_siz d_La_law_706 ?_
  refine v_aload_n (pc := 709) hX rfl d_La_law_709 ?_
  refine v_aload_n (pc := 710) hX rfl d_La_law_710 ?_
  refine v_iload_n (pc := 711) hX rfl d_La_law_711 ?_
  refine v_iconst (pc := 712) (v := 1) hX (by decide) d_La_law_712 ?_
  refine v_iadd (pc := 713) hX d_La_law_713 ?_
  refine l_sld (pc := 714) hX hS (sx_in (c := 1) ht hL (by decide) rfl) d_La_law_714 ?_
  refine l_callV (pc := 715) hX k_Mo_like ki_Mo_like kv_Mo_like ml_La_76 hm rfl rfl rfl rfl rfl (by decide) (by decide) (Nat.le_of_ble_eq_true rfl) g_len g_siz d_La_law_715 ?_
  exact v_icmp_eq (pc := 718) (tgt := 1345) hX d_La_law_718 rfl (fun _ => kk M2 hI) (fun w => absurd rfl w)
theorem B_guess {X : CX} {L t : Nat} {xs : Nat → Int32} {M : MM} (hX : CLw X) (hS : SX X L xs) (ht : 6 * t + 6 ≤ L) (hL : L ≤ 384) (h : INV M) (kk : ∀ M2, INV M2 → VW X 1345 (loL t) [] (gM M2)) : VW X 723 (loL t) [] (gM M) := by
  obtain ⟨v, M1, M2, hc, hm, hI⟩ := OP_guess h (xs (i3 (6 * t) + 1).toNatClampNeg) (xs (i3 (6 * t) + 2).toNatClampNeg) (xs (i3 (6 * t) + 3).toNatClampNeg) (xs (i3 (6 * t) + 4).toNatClampNeg) (xs (i3 (6 * t) + 5).toNatClampNeg)
  refine v_aload_n (pc := 723) hX rfl d_La_law_723 ?_
  refine v_aload_n (pc := 724) hX rfl d_La_law_724 ?_
  refine v_iload_n (pc := 725) hX rfl d_La_law_725 ?_
  refine v_iconst (pc := 726) (v := 1) hX (by decide) d_La_law_726 ?_
  refine v_iadd (pc := 727) hX d_La_law_727 ?_
  refine l_sld (pc := 728) hX hS (sx_in (c := 1) ht hL (by decide) rfl) d_La_law_728 ?_
  refine v_aload_n (pc := 729) hX rfl d_La_law_729 ?_
  refine v_iload_n (pc := 730) hX rfl d_La_law_730 ?_
  refine v_iconst (pc := 731) (v := 2) hX (by decide) d_La_law_731 ?_
  refine v_iadd (pc := 732) hX d_La_law_732 ?_
  refine l_sld (pc := 733) hX hS (sx_in (c := 2) ht hL (by decide) rfl) d_La_law_733 ?_
  refine v_aload_n (pc := 734) hX rfl d_La_law_734 ?_
  refine v_iload_n (pc := 735) hX rfl d_La_law_735 ?_
  refine v_iconst (pc := 736) (v := 3) hX (by decide) d_La_law_736 ?_
  refine v_iadd (pc := 737) hX d_La_law_737 ?_
  refine l_sld (pc := 738) hX hS (sx_in (c := 3) ht hL (by decide) rfl) d_La_law_738 ?_
  refine v_aload_n (pc := 739) hX rfl d_La_law_739 ?_
  refine v_iload_n (pc := 740) hX rfl d_La_law_740 ?_
  refine v_iconst (pc := 741) (v := 4) hX (by decide) d_La_law_741 ?_
  refine v_iadd (pc := 742) hX d_La_law_742 ?_
  refine l_sld (pc := 743) hX hS (sx_in (c := 4) ht hL (by decide) rfl) d_La_law_743 ?_
  refine v_aload_n (pc := 744) hX rfl d_La_law_744 ?_
  refine v_iload_n (pc := 745) hX rfl d_La_law_745 ?_
  refine v_iconst (pc := 746) (v := 5) hX (by decide) d_La_law_746 ?_
  refine v_iadd (pc := 747) hX d_La_law_747 ?_
  refine l_sld (pc := 748) hX hS (sx_in (c := 5) ht hL (by decide) rfl) d_La_law_748 ?_
  refine l_callV (pc := 749) hX k_LJ_guess ki_LJ_guess kv_LJ_guess ml_La_77 hc rfl rfl rfl rfl rfl (by decide) (by decide) (Nat.le_of_ble_eq_true rfl) g_len g_siz d_La_law_749 ?_
  refine v_aload_n (pc := 752) hX rfl d_La_law_752 ?_
  refine v_aload_n (pc := 753) hX rfl d_La_law_753 ?_
  refine v_iload_n (pc := 754) hX rfl d_La_law_754 ?_
  refine v_iconst (pc := 755) (v := 1) hX (by decide) d_La_law_755 ?_
  refine v_iadd (pc := 756) hX d_La_law_756 ?_
  refine l_sld (pc := 757) hX hS (sx_in (c := 1) ht hL (by decide) rfl) d_La_law_757 ?_
  refine v_aload_n (pc := 758) hX rfl d_La_law_758 ?_
  refine v_iload_n (pc := 759) hX rfl d_La_law_759 ?_
  refine v_iconst (pc := 760) (v := 2) hX (by decide) d_La_law_760 ?_
  refine v_iadd (pc := 761) hX d_La_law_761 ?_
  refine l_sld (pc := 762) hX hS (sx_in (c := 2) ht hL (by decide) rfl) d_La_law_762 ?_
  refine v_aload_n (pc := 763) hX rfl d_La_law_763 ?_
  refine v_iload_n (pc := 764) hX rfl d_La_law_764 ?_
  refine v_iconst (pc := 765) (v := 3) hX (by decide) d_La_law_765 ?_
  refine v_iadd (pc := 766) hX d_La_law_766 ?_
  refine l_sld (pc := 767) hX hS (sx_in (c := 3) ht hL (by decide) rfl) d_La_law_767 ?_
  refine v_aload_n (pc := 768) hX rfl d_La_law_768 ?_
  refine v_iload_n (pc := 769) hX rfl d_La_law_769 ?_
  refine v_iconst (pc := 770) (v := 4) hX (by decide) d_La_law_770 ?_
  refine v_iadd (pc := 771) hX d_La_law_771 ?_
  refine l_sld (pc := 772) hX hS (sx_in (c := 4) ht hL (by decide) rfl) d_La_law_772 ?_
  refine v_aload_n (pc := 773) hX rfl d_La_law_773 ?_
  refine v_iload_n (pc := 774) hX rfl d_La_law_774 ?_
  refine v_iconst (pc := 775) (v := 5) hX (by decide) d_La_law_775 ?_
  refine v_iadd (pc := 776) hX d_La_law_776 ?_
  refine l_sld (pc := 777) hX hS (sx_in (c := 5) ht hL (by decide) rfl) d_La_law_777 ?_
  refine l_callV (pc := 778) hX k_Mo_guess ki_Mo_guess kv_Mo_guess ml_La_80 hm rfl rfl rfl rfl rfl (by decide) (by decide) (Nat.le_of_ble_eq_true rfl) g_len g_siz d_La_law_778 ?_
  exact v_icmp_eq (pc := 781) (tgt := 1345) hX d_La_law_781 rfl (fun _ => kk M2 hI) (fun w => absurd rfl w)
theorem B_serve {X : CX} {L t : Nat} {xs : Nat → Int32} {M : MM} (hX : CLw X) (hS : SX X L xs) (ht : 6 * t + 6 ≤ L) (hL : L ≤ 384) (h : INV M) (kk : ∀ M2, INV M2 → VW X 1345 (loL t) [] (gM M2)) : VW X 786 (loL t) [] (gM M) := by
  obtain ⟨v, M1, M2, hc, hm, hI⟩ := OP_serve h (xs (i3 (6 * t) + 1).toNatClampNeg)
  refine v_aload_n (pc := 786) hX rfl d_La_law_786 ?_
  refine v_aload_n (pc := 787) hX rfl d_La_law_787 ?_
  refine v_iload_n (pc := 788) hX rfl d_La_law_788 ?_
  refine v_iconst (pc := 789) (v := 1) hX (by decide) d_La_law_789 ?_
  refine v_iadd (pc := 790) hX d_La_law_790 ?_
  refine l_sld (pc := 791) hX hS (sx_in (c := 1) ht hL (by decide) rfl) d_La_law_791 ?_
  refine l_callV (pc := 792) hX k_LJ_serve ki_LJ_serve kv_LJ_serve ml_La_81 hc rfl rfl rfl rfl rfl (by decide) (by decide) (Nat.le_of_ble_eq_true rfl) g_len g_siz d_La_law_792 ?_
  refine v_aload_n (pc := 795) hX rfl d_La_law_795 ?_
  refine v_aload_n (pc := 796) hX rfl d_La_law_796 ?_
  refine v_iload_n (pc := 797) hX rfl d_La_law_797 ?_
  refine v_iconst (pc := 798) (v := 1) hX (by decide) d_La_law_798 ?_
  refine v_iadd (pc := 799) hX d_La_law_799 ?_
  refine l_sld (pc := 800) hX hS (sx_in (c := 1) ht hL (by decide) rfl) d_La_law_800 ?_
  refine l_callV (pc := 801) hX k_Mo_serve ki_Mo_serve kv_Mo_serve ml_La_84 hm rfl rfl rfl rfl rfl (by decide) (by decide) (Nat.le_of_ble_eq_true rfl) g_len g_siz d_La_law_801 ?_
  exact v_icmp_eq (pc := 804) (tgt := 1345) hX d_La_law_804 rfl (fun _ => kk M2 hI) (fun w => absurd rfl w)
theorem B_dear {X : CX} {L t : Nat} {xs : Nat → Int32} {M : MM} (hX : CLw X) (hS : SX X L xs) (ht : 6 * t + 6 ≤ L) (hL : L ≤ 384) (h : INV M) (kk : ∀ M2, INV M2 → VW X 1345 (loL t) [] (gM M2)) : VW X 809 (loL t) [] (gM M) := by
  obtain ⟨v, M1, M2, hc, hm, hI⟩ := OP_dear h (xs (i3 (6 * t) + 1).toNatClampNeg)
  refine v_aload_n (pc := 809) hX rfl d_La_law_809 ?_
  refine v_aload_n (pc := 810) hX rfl d_La_law_810 ?_
  refine v_iload_n (pc := 811) hX rfl d_La_law_811 ?_
  refine v_iconst (pc := 812) (v := 1) hX (by decide) d_La_law_812 ?_
  refine v_iadd (pc := 813) hX d_La_law_813 ?_
  refine l_sld (pc := 814) hX hS (sx_in (c := 1) ht hL (by decide) rfl) d_La_law_814 ?_
  refine l_callV (pc := 815) hX k_LJ_dear ki_LJ_dear kv_LJ_dear ml_La_85 hc rfl rfl rfl rfl rfl (by decide) (by decide) (Nat.le_of_ble_eq_true rfl) g_len g_siz d_La_law_815 ?_
  refine v_aload_n (pc := 818) hX rfl d_La_law_818 ?_
  refine v_aload_n (pc := 819) hX rfl d_La_law_819 ?_
  refine v_iload_n (pc := 820) hX rfl d_La_law_820 ?_
  refine v_iconst (pc := 821) (v := 1) hX (by decide) d_La_law_821 ?_
  refine v_iadd (pc := 822) hX d_La_law_822 ?_
  refine l_sld (pc := 823) hX hS (sx_in (c := 1) ht hL (by decide) rfl) d_La_law_823 ?_
  refine l_callV (pc := 824) hX k_Mo_dear ki_Mo_dear kv_Mo_dear ml_La_88 hm rfl rfl rfl rfl rfl (by decide) (by decide) (Nat.le_of_ble_eq_true rfl) g_len g_siz d_La_law_824 ?_
  exact v_icmp_eq (pc := 827) (tgt := 1345) hX d_La_law_827 rfl (fun _ => kk M2 hI) (fun w => absurd rfl w)
theorem B_reading {X : CX} {L t : Nat} {xs : Nat → Int32} {M : MM} (hX : CLw X) (hS : SX X L xs) (ht : 6 * t + 6 ≤ L) (hL : L ≤ 384) (h : INV M) (kk : ∀ M2, INV M2 → VW X 1345 (loL t) [] (gM M2)) : VW X 832 (loL t) [] (gM M) := by
  obtain ⟨v, M1, M2, hc, hm, hI⟩ := OP_reading h (xs (i3 (6 * t) + 1).toNatClampNeg) (xs (i3 (6 * t) + 2).toNatClampNeg) (xs (i3 (6 * t) + 3).toNatClampNeg)
  refine v_aload_n (pc := 832) hX rfl d_La_law_832 ?_
  refine v_aload_n (pc := 833) hX rfl d_La_law_833 ?_
  refine v_iload_n (pc := 834) hX rfl d_La_law_834 ?_
  refine v_iconst (pc := 835) (v := 1) hX (by decide) d_La_law_835 ?_
  refine v_iadd (pc := 836) hX d_La_law_836 ?_
  refine l_sld (pc := 837) hX hS (sx_in (c := 1) ht hL (by decide) rfl) d_La_law_837 ?_
  refine v_aload_n (pc := 838) hX rfl d_La_law_838 ?_
  refine v_iload_n (pc := 839) hX rfl d_La_law_839 ?_
  refine v_iconst (pc := 840) (v := 2) hX (by decide) d_La_law_840 ?_
  refine v_iadd (pc := 841) hX d_La_law_841 ?_
  refine l_sld (pc := 842) hX hS (sx_in (c := 2) ht hL (by decide) rfl) d_La_law_842 ?_
  refine v_aload_n (pc := 843) hX rfl d_La_law_843 ?_
  refine v_iload_n (pc := 844) hX rfl d_La_law_844 ?_
  refine v_iconst (pc := 845) (v := 3) hX (by decide) d_La_law_845 ?_
  refine v_iadd (pc := 846) hX d_La_law_846 ?_
  refine l_sld (pc := 847) hX hS (sx_in (c := 3) ht hL (by decide) rfl) d_La_law_847 ?_
  refine l_callV (pc := 848) hX k_LJ_reading ki_LJ_reading kv_LJ_reading ml_La_89 hc rfl rfl rfl rfl rfl (by decide) (by decide) (Nat.le_of_ble_eq_true rfl) g_len g_siz d_La_law_848 ?_
  refine v_aload_n (pc := 851) hX rfl d_La_law_851 ?_
  refine v_aload_n (pc := 852) hX rfl d_La_law_852 ?_
  refine v_iload_n (pc := 853) hX rfl d_La_law_853 ?_
  refine v_iconst (pc := 854) (v := 1) hX (by decide) d_La_law_854 ?_
  refine v_iadd (pc := 855) hX d_La_law_855 ?_
  refine l_sld (pc := 856) hX hS (sx_in (c := 1) ht hL (by decide) rfl) d_La_law_856 ?_
  refine v_aload_n (pc := 857) hX rfl d_La_law_857 ?_
  refine v_iload_n (pc := 858) hX rfl d_La_law_858 ?_
  refine v_iconst (pc := 859) (v := 2) hX (by decide) d_La_law_859 ?_
  refine v_iadd (pc := 860) hX d_La_law_860 ?_
  refine l_sld (pc := 861) hX hS (sx_in (c := 2) ht hL (by decide) rfl) d_La_law_861 ?_
  refine v_aload_n (pc := 862) hX rfl d_La_law_862 ?_
  refine v_iload_n (pc := 863) hX rfl d_La_law_863 ?_
  refine v_iconst (pc := 864) (v := 3) hX (by decide) d_La_law_864 ?_
  refine v_iadd (pc := 865) hX d_La_law_865 ?_
  refine l_sld (pc := 866) hX hS (sx_in (c := 3) ht hL (by decide) rfl) d_La_law_866 ?_
  refine l_callV (pc := 867) hX k_Mo_reading ki_Mo_reading kv_Mo_reading ml_La_93 hm rfl rfl rfl rfl rfl (by decide) (by decide) (Nat.le_of_ble_eq_true rfl) g_len g_siz d_La_law_867 ?_
  exact v_icmp_eq (pc := 870) (tgt := 1345) hX d_La_law_870 rfl (fun _ => kk M2 hI) (fun w => absurd rfl w)
theorem B_back {X : CX} {L t : Nat} {xs : Nat → Int32} {M : MM} (hX : CLw X) (hS : SX X L xs) (ht : 6 * t + 6 ≤ L) (hL : L ≤ 384) (h : INV M) (kk : ∀ M2, INV M2 → VW X 1345 (loL t) [] (gM M2)) : VW X 875 (loL t) [] (gM M) := by
  obtain ⟨v, M1, M2, hc, hm, hI⟩ := OP_back h (xs (i3 (6 * t) + 1).toNatClampNeg)
  refine v_aload_n (pc := 875) hX rfl d_La_law_875 ?_
  refine v_aload_n (pc := 876) hX rfl d_La_law_876 ?_
  refine v_iload_n (pc := 877) hX rfl d_La_law_877 ?_
  refine v_iconst (pc := 878) (v := 1) hX (by decide) d_La_law_878 ?_
  refine v_iadd (pc := 879) hX d_La_law_879 ?_
  refine l_sld (pc := 880) hX hS (sx_in (c := 1) ht hL (by decide) rfl) d_La_law_880 ?_
  refine l_callV (pc := 881) hX k_LJ_back ki_LJ_back kv_LJ_back ml_La_94 hc rfl rfl rfl rfl rfl (by decide) (by decide) (Nat.le_of_ble_eq_true rfl) g_len g_siz d_La_law_881 ?_
  refine v_aload_n (pc := 884) hX rfl d_La_law_884 ?_
  refine v_aload_n (pc := 885) hX rfl d_La_law_885 ?_
  refine v_iload_n (pc := 886) hX rfl d_La_law_886 ?_
  refine v_iconst (pc := 887) (v := 1) hX (by decide) d_La_law_887 ?_
  refine v_iadd (pc := 888) hX d_La_law_888 ?_
  refine l_sld (pc := 889) hX hS (sx_in (c := 1) ht hL (by decide) rfl) d_La_law_889 ?_
  refine l_callV (pc := 890) hX k_Mo_back ki_Mo_back kv_Mo_back ml_La_97 hm rfl rfl rfl rfl rfl (by decide) (by decide) (Nat.le_of_ble_eq_true rfl) g_len g_siz d_La_law_890 ?_
  exact v_icmp_eq (pc := 893) (tgt := 1345) hX d_La_law_893 rfl (fun _ => kk M2 hI) (fun w => absurd rfl w)
theorem B_sures {X : CX} {L t : Nat} {xs : Nat → Int32} {M : MM} (hX : CLw X) (hS : SX X L xs) (ht : 6 * t + 6 ≤ L) (hL : L ≤ 384) (h : INV M) (kk : ∀ M2, INV M2 → VW X 1345 (loL t) [] (gM M2)) : VW X 898 (loL t) [] (gM M) := by
  obtain ⟨v, M1, M2, hc, hm, hI⟩ := OP_sures h (xs (i3 (6 * t) + 1).toNatClampNeg)
  refine v_aload_n (pc := 898) hX rfl d_La_law_898 ?_
  refine v_aload_n (pc := 899) hX rfl d_La_law_899 ?_
  refine v_iload_n (pc := 900) hX rfl d_La_law_900 ?_
  refine v_iconst (pc := 901) (v := 1) hX (by decide) d_La_law_901 ?_
  refine v_iadd (pc := 902) hX d_La_law_902 ?_
  refine l_sld (pc := 903) hX hS (sx_in (c := 1) ht hL (by decide) rfl) d_La_law_903 ?_
  refine l_callV (pc := 904) hX k_LJ_sures ki_LJ_sures kv_LJ_sures ml_La_98 hc rfl rfl rfl rfl rfl (by decide) (by decide) (Nat.le_of_ble_eq_true rfl) g_len g_siz d_La_law_904 ?_
  refine v_aload_n (pc := 907) hX rfl d_La_law_907 ?_
  refine v_aload_n (pc := 908) hX rfl d_La_law_908 ?_
  refine v_iload_n (pc := 909) hX rfl d_La_law_909 ?_
  refine v_iconst (pc := 910) (v := 1) hX (by decide) d_La_law_910 ?_
  refine v_iadd (pc := 911) hX d_La_law_911 ?_
  refine l_sld (pc := 912) hX hS (sx_in (c := 1) ht hL (by decide) rfl) d_La_law_912 ?_
  refine l_callV (pc := 913) hX k_Mo_sures ki_Mo_sures kv_Mo_sures ml_La_101 hm rfl rfl rfl rfl rfl (by decide) (by decide) (Nat.le_of_ble_eq_true rfl) g_len g_siz d_La_law_913 ?_
  exact v_icmp_eq (pc := 916) (tgt := 1345) hX d_La_law_916 rfl (fun _ => kk M2 hI) (fun w => absurd rfl w)
theorem B_fades {X : CX} {L t : Nat} {xs : Nat → Int32} {M : MM} (hX : CLw X) (hS : SX X L xs) (ht : 6 * t + 6 ≤ L) (hL : L ≤ 384) (h : INV M) (kk : ∀ M2, INV M2 → VW X 1345 (loL t) [] (gM M2)) : VW X 921 (loL t) [] (gM M) := by
  obtain ⟨v, M1, M2, hc, hm, hI⟩ := OP_fades h (xs (i3 (6 * t) + 1).toNatClampNeg)
  refine v_aload_n (pc := 921) hX rfl d_La_law_921 ?_
  refine v_aload_n (pc := 922) hX rfl d_La_law_922 ?_
  refine v_iload_n (pc := 923) hX rfl d_La_law_923 ?_
  refine v_iconst (pc := 924) (v := 1) hX (by decide) d_La_law_924 ?_
  refine v_iadd (pc := 925) hX d_La_law_925 ?_
  refine l_sld (pc := 926) hX hS (sx_in (c := 1) ht hL (by decide) rfl) d_La_law_926 ?_
  refine l_callV (pc := 927) hX k_LJ_fades ki_LJ_fades kv_LJ_fades ml_La_102 hc rfl rfl rfl rfl rfl (by decide) (by decide) (Nat.le_of_ble_eq_true rfl) g_len g_siz d_La_law_927 ?_
  refine v_aload_n (pc := 930) hX rfl d_La_law_930 ?_
  refine v_aload_n (pc := 931) hX rfl d_La_law_931 ?_
  refine v_iload_n (pc := 932) hX rfl d_La_law_932 ?_
  refine v_iconst (pc := 933) (v := 1) hX (by decide) d_La_law_933 ?_
  refine v_iadd (pc := 934) hX d_La_law_934 ?_
  refine l_sld (pc := 935) hX hS (sx_in (c := 1) ht hL (by decide) rfl) d_La_law_935 ?_
  refine l_callV (pc := 936) hX k_Mo_fades ki_Mo_fades kv_Mo_fades ml_La_105 hm rfl rfl rfl rfl rfl (by decide) (by decide) (Nat.le_of_ble_eq_true rfl) g_len g_siz d_La_law_936 ?_
  exact v_icmp_eq (pc := 939) (tgt := 1345) hX d_La_law_939 rfl (fun _ => kk M2 hI) (fun w => absurd rfl w)
theorem B_kinds {X : CX} {L t : Nat} {xs : Nat → Int32} {M : MM} (hX : CLw X) (hS : SX X L xs) (ht : 6 * t + 6 ≤ L) (hL : L ≤ 384) (h : INV M) (kk : ∀ M2, INV M2 → VW X 1345 (loL t) [] (gM M2)) : VW X 944 (loL t) [] (gM M) := by
  obtain ⟨v, M1, M2, hc, hm, hI⟩ := OP_kinds h (xs (i3 (6 * t) + 1).toNatClampNeg)
  refine v_aload_n (pc := 944) hX rfl d_La_law_944 ?_
  refine v_aload_n (pc := 945) hX rfl d_La_law_945 ?_
  refine v_iload_n (pc := 946) hX rfl d_La_law_946 ?_
  refine v_iconst (pc := 947) (v := 1) hX (by decide) d_La_law_947 ?_
  refine v_iadd (pc := 948) hX d_La_law_948 ?_
  refine l_sld (pc := 949) hX hS (sx_in (c := 1) ht hL (by decide) rfl) d_La_law_949 ?_
  refine l_callV (pc := 950) hX k_LJ_kinds ki_LJ_kinds kv_LJ_kinds ml_La_106 hc rfl rfl rfl rfl rfl (by decide) (by decide) (Nat.le_of_ble_eq_true rfl) g_len g_siz d_La_law_950 ?_
  refine v_aload_n (pc := 953) hX rfl d_La_law_953 ?_
  refine v_aload_n (pc := 954) hX rfl d_La_law_954 ?_
  refine v_iload_n (pc := 955) hX rfl d_La_law_955 ?_
  refine v_iconst (pc := 956) (v := 1) hX (by decide) d_La_law_956 ?_
  refine v_iadd (pc := 957) hX d_La_law_957 ?_
  refine l_sld (pc := 958) hX hS (sx_in (c := 1) ht hL (by decide) rfl) d_La_law_958 ?_
  refine l_callV (pc := 959) hX k_Mo_kinds ki_Mo_kinds kv_Mo_kinds ml_La_109 hm rfl rfl rfl rfl rfl (by decide) (by decide) (Nat.le_of_ble_eq_true rfl) g_len g_siz d_La_law_959 ?_
  exact v_icmp_eq (pc := 962) (tgt := 1345) hX d_La_law_962 rfl (fun _ => kk M2 hI) (fun w => absurd rfl w)
theorem B_odds {X : CX} {L t : Nat} {xs : Nat → Int32} {M : MM} (hX : CLw X) (hS : SX X L xs) (ht : 6 * t + 6 ≤ L) (hL : L ≤ 384) (h : INV M) (kk : ∀ M2, INV M2 → VW X 1345 (loL t) [] (gM M2)) : VW X 967 (loL t) [] (gM M) := by
  obtain ⟨v, M1, M2, hc, hm, hI⟩ := OP_odds h (xs (i3 (6 * t) + 1).toNatClampNeg) (xs (i3 (6 * t) + 2).toNatClampNeg)
  refine v_aload_n (pc := 967) hX rfl d_La_law_967 ?_
  refine v_aload_n (pc := 968) hX rfl d_La_law_968 ?_
  refine v_iload_n (pc := 969) hX rfl d_La_law_969 ?_
  refine v_iconst (pc := 970) (v := 1) hX (by decide) d_La_law_970 ?_
  refine v_iadd (pc := 971) hX d_La_law_971 ?_
  refine l_sld (pc := 972) hX hS (sx_in (c := 1) ht hL (by decide) rfl) d_La_law_972 ?_
  refine v_aload_n (pc := 973) hX rfl d_La_law_973 ?_
  refine v_iload_n (pc := 974) hX rfl d_La_law_974 ?_
  refine v_iconst (pc := 975) (v := 2) hX (by decide) d_La_law_975 ?_
  refine v_iadd (pc := 976) hX d_La_law_976 ?_
  refine l_sld (pc := 977) hX hS (sx_in (c := 2) ht hL (by decide) rfl) d_La_law_977 ?_
  refine l_callV (pc := 978) hX k_LJ_odds ki_LJ_odds kv_LJ_odds ml_La_110 hc rfl rfl rfl rfl rfl (by decide) (by decide) (Nat.le_of_ble_eq_true rfl) g_len g_siz d_La_law_978 ?_
  refine v_aload_n (pc := 981) hX rfl d_La_law_981 ?_
  refine v_aload_n (pc := 982) hX rfl d_La_law_982 ?_
  refine v_iload_n (pc := 983) hX rfl d_La_law_983 ?_
  refine v_iconst (pc := 984) (v := 1) hX (by decide) d_La_law_984 ?_
  refine v_iadd (pc := 985) hX d_La_law_985 ?_
  refine l_sld (pc := 986) hX hS (sx_in (c := 1) ht hL (by decide) rfl) d_La_law_986 ?_
  refine v_aload_n (pc := 987) hX rfl d_La_law_987 ?_
  refine v_iload_n (pc := 988) hX rfl d_La_law_988 ?_
  refine v_iconst (pc := 989) (v := 2) hX (by decide) d_La_law_989 ?_
  refine v_iadd (pc := 990) hX d_La_law_990 ?_
  refine l_sld (pc := 991) hX hS (sx_in (c := 2) ht hL (by decide) rfl) d_La_law_991 ?_
  refine l_callV (pc := 992) hX k_Mo_odds ki_Mo_odds kv_Mo_odds ml_La_114 hm rfl rfl rfl rfl rfl (by decide) (by decide) (Nat.le_of_ble_eq_true rfl) g_len g_siz d_La_law_992 ?_
  refine v_lcmp (pc := 995) hX d_La_law_995 ?_
  exact v_if_eq (pc := 996) (tgt := 1345) hX d_La_law_996 rfl (fun _ => kk M2 hI) (fun w => absurd (lc_same v) w)
theorem B_sheet {X : CX} {L t : Nat} {xs : Nat → Int32} {M : MM} (hX : CLw X) (hS : SX X L xs) (ht : 6 * t + 6 ≤ L) (hL : L ≤ 384) (h : INV M) (kk : ∀ M2, INV M2 → VW X 1345 (loL t) [] (gM M2)) : VW X 1001 (loL t) [] (gM M) := by
  obtain ⟨v, M1, M2, hc, hm, hI⟩ := OP_sheet h (xs (i3 (6 * t) + 1).toNatClampNeg) (xs (i3 (6 * t) + 2).toNatClampNeg) (xs (i3 (6 * t) + 3).toNatClampNeg)
  refine v_aload_n (pc := 1001) hX rfl d_La_law_1001 ?_
  refine v_aload_n (pc := 1002) hX rfl d_La_law_1002 ?_
  refine v_iload_n (pc := 1003) hX rfl d_La_law_1003 ?_
  refine v_iconst (pc := 1004) (v := 1) hX (by decide) d_La_law_1004 ?_
  refine v_iadd (pc := 1005) hX d_La_law_1005 ?_
  refine l_sld (pc := 1006) hX hS (sx_in (c := 1) ht hL (by decide) rfl) d_La_law_1006 ?_
  refine v_aload_n (pc := 1007) hX rfl d_La_law_1007 ?_
  refine v_iload_n (pc := 1008) hX rfl d_La_law_1008 ?_
  refine v_iconst (pc := 1009) (v := 2) hX (by decide) d_La_law_1009 ?_
  refine v_iadd (pc := 1010) hX d_La_law_1010 ?_
  refine l_sld (pc := 1011) hX hS (sx_in (c := 2) ht hL (by decide) rfl) d_La_law_1011 ?_
  refine v_aload_n (pc := 1012) hX rfl d_La_law_1012 ?_
  refine v_iload_n (pc := 1013) hX rfl d_La_law_1013 ?_
  refine v_iconst (pc := 1014) (v := 3) hX (by decide) d_La_law_1014 ?_
  refine v_iadd (pc := 1015) hX d_La_law_1015 ?_
  refine l_sld (pc := 1016) hX hS (sx_in (c := 3) ht hL (by decide) rfl) d_La_law_1016 ?_
  refine l_callV (pc := 1017) hX k_LJ_sheet ki_LJ_sheet kv_LJ_sheet ml_La_115 hc rfl rfl rfl rfl rfl (by decide) (by decide) (Nat.le_of_ble_eq_true rfl) g_len g_siz d_La_law_1017 ?_
  refine v_aload_n (pc := 1020) hX rfl d_La_law_1020 ?_
  refine v_aload_n (pc := 1021) hX rfl d_La_law_1021 ?_
  refine v_iload_n (pc := 1022) hX rfl d_La_law_1022 ?_
  refine v_iconst (pc := 1023) (v := 1) hX (by decide) d_La_law_1023 ?_
  refine v_iadd (pc := 1024) hX d_La_law_1024 ?_
  refine l_sld (pc := 1025) hX hS (sx_in (c := 1) ht hL (by decide) rfl) d_La_law_1025 ?_
  refine v_aload_n (pc := 1026) hX rfl d_La_law_1026 ?_
  refine v_iload_n (pc := 1027) hX rfl d_La_law_1027 ?_
  refine v_iconst (pc := 1028) (v := 2) hX (by decide) d_La_law_1028 ?_
  refine v_iadd (pc := 1029) hX d_La_law_1029 ?_
  refine l_sld (pc := 1030) hX hS (sx_in (c := 2) ht hL (by decide) rfl) d_La_law_1030 ?_
  refine v_aload_n (pc := 1031) hX rfl d_La_law_1031 ?_
  refine v_iload_n (pc := 1032) hX rfl d_La_law_1032 ?_
  refine v_iconst (pc := 1033) (v := 3) hX (by decide) d_La_law_1033 ?_
  refine v_iadd (pc := 1034) hX d_La_law_1034 ?_
  refine l_sld (pc := 1035) hX hS (sx_in (c := 3) ht hL (by decide) rfl) d_La_law_1035 ?_
  refine l_callV (pc := 1036) hX k_Mo_sheet ki_Mo_sheet kv_Mo_sheet ml_La_118 hm rfl rfl rfl rfl rfl (by decide) (by decide) (Nat.le_of_ble_eq_true rfl) g_len g_siz d_La_law_1036 ?_
  exact v_icmp_eq (pc := 1039) (tgt := 1345) hX d_La_law_1039 rfl (fun _ => kk M2 hI) (fun w => absurd rfl w)
theorem B_lose {X : CX} {L t : Nat} {xs : Nat → Int32} {M : MM} (hX : CLw X) (hS : SX X L xs) (ht : 6 * t + 6 ≤ L) (hL : L ≤ 384) (h : INV M) (kk : ∀ M2, INV M2 → VW X 1345 (loL t) [] (gM M2)) : VW X 1044 (loL t) [] (gM M) := by
  obtain ⟨v, M1, M2, hc, hm, hI⟩ := OP_lose h (xs (i3 (6 * t) + 1).toNatClampNeg)
  refine v_aload_n (pc := 1044) hX rfl d_La_law_1044 ?_
  refine v_aload_n (pc := 1045) hX rfl d_La_law_1045 ?_
  refine v_iload_n (pc := 1046) hX rfl d_La_law_1046 ?_
  refine v_iconst (pc := 1047) (v := 1) hX (by decide) d_La_law_1047 ?_
  refine v_iadd (pc := 1048) hX d_La_law_1048 ?_
  refine l_sld (pc := 1049) hX hS (sx_in (c := 1) ht hL (by decide) rfl) d_La_law_1049 ?_
  refine l_callV (pc := 1050) hX k_LJ_lose ki_LJ_lose kv_LJ_lose ml_La_119 hc rfl rfl rfl rfl rfl (by decide) (by decide) (Nat.le_of_ble_eq_true rfl) g_len g_siz d_La_law_1050 ?_
  refine v_aload_n (pc := 1053) hX rfl d_La_law_1053 ?_
  refine v_aload_n (pc := 1054) hX rfl d_La_law_1054 ?_
  refine v_iload_n (pc := 1055) hX rfl d_La_law_1055 ?_
  refine v_iconst (pc := 1056) (v := 1) hX (by decide) d_La_law_1056 ?_
  refine v_iadd (pc := 1057) hX d_La_law_1057 ?_
  refine l_sld (pc := 1058) hX hS (sx_in (c := 1) ht hL (by decide) rfl) d_La_law_1058 ?_
  refine l_callV (pc := 1059) hX k_Mo_lose ki_Mo_lose kv_Mo_lose ml_La_122 hm rfl rfl rfl rfl rfl (by decide) (by decide) (Nat.le_of_ble_eq_true rfl) g_len g_siz d_La_law_1059 ?_
  exact v_icmp_eq (pc := 1062) (tgt := 1345) hX d_La_law_1062 rfl (fun _ => kk M2 hI) (fun w => absurd rfl w)
theorem B_put {X : CX} {L t : Nat} {xs : Nat → Int32} {M : MM} (hX : CLw X) (hS : SX X L xs) (ht : 6 * t + 6 ≤ L) (hL : L ≤ 384) (h : INV M) (kk : ∀ M2, INV M2 → VW X 1345 (loL t) [] (gM M2)) : VW X 1067 (loL t) [] (gM M) := by
  obtain ⟨v, M1, M2, hc, hm, hI⟩ := OP_put h (xs (i3 (6 * t) + 1).toNatClampNeg) (xs (i3 (6 * t) + 2).toNatClampNeg) (xs (i3 (6 * t) + 3).toNatClampNeg)
  refine v_aload_n (pc := 1067) hX rfl d_La_law_1067 ?_
  refine v_aload_n (pc := 1068) hX rfl d_La_law_1068 ?_
  refine v_iload_n (pc := 1069) hX rfl d_La_law_1069 ?_
  refine v_iconst (pc := 1070) (v := 1) hX (by decide) d_La_law_1070 ?_
  refine v_iadd (pc := 1071) hX d_La_law_1071 ?_
  refine l_sld (pc := 1072) hX hS (sx_in (c := 1) ht hL (by decide) rfl) d_La_law_1072 ?_
  refine v_aload_n (pc := 1073) hX rfl d_La_law_1073 ?_
  refine v_iload_n (pc := 1074) hX rfl d_La_law_1074 ?_
  refine v_iconst (pc := 1075) (v := 2) hX (by decide) d_La_law_1075 ?_
  refine v_iadd (pc := 1076) hX d_La_law_1076 ?_
  refine l_sld (pc := 1077) hX hS (sx_in (c := 2) ht hL (by decide) rfl) d_La_law_1077 ?_
  refine v_aload_n (pc := 1078) hX rfl d_La_law_1078 ?_
  refine v_iload_n (pc := 1079) hX rfl d_La_law_1079 ?_
  refine v_iconst (pc := 1080) (v := 3) hX (by decide) d_La_law_1080 ?_
  refine v_iadd (pc := 1081) hX d_La_law_1081 ?_
  refine l_sld (pc := 1082) hX hS (sx_in (c := 3) ht hL (by decide) rfl) d_La_law_1082 ?_
  refine l_callV (pc := 1083) hX k_LJ_put ki_LJ_put kv_LJ_put ml_La_123 hc rfl rfl rfl rfl rfl (by decide) (by decide) (Nat.le_of_ble_eq_true rfl) g_len g_siz d_La_law_1083 ?_
  refine v_aload_n (pc := 1086) hX rfl d_La_law_1086 ?_
  refine v_aload_n (pc := 1087) hX rfl d_La_law_1087 ?_
  refine v_iload_n (pc := 1088) hX rfl d_La_law_1088 ?_
  refine v_iconst (pc := 1089) (v := 1) hX (by decide) d_La_law_1089 ?_
  refine v_iadd (pc := 1090) hX d_La_law_1090 ?_
  refine l_sld (pc := 1091) hX hS (sx_in (c := 1) ht hL (by decide) rfl) d_La_law_1091 ?_
  refine v_aload_n (pc := 1092) hX rfl d_La_law_1092 ?_
  refine v_iload_n (pc := 1093) hX rfl d_La_law_1093 ?_
  refine v_iconst (pc := 1094) (v := 2) hX (by decide) d_La_law_1094 ?_
  refine v_iadd (pc := 1095) hX d_La_law_1095 ?_
  refine l_sld (pc := 1096) hX hS (sx_in (c := 2) ht hL (by decide) rfl) d_La_law_1096 ?_
  refine v_aload_n (pc := 1097) hX rfl d_La_law_1097 ?_
  refine v_iload_n (pc := 1098) hX rfl d_La_law_1098 ?_
  refine v_iconst (pc := 1099) (v := 3) hX (by decide) d_La_law_1099 ?_
  refine v_iadd (pc := 1100) hX d_La_law_1100 ?_
  refine l_sld (pc := 1101) hX hS (sx_in (c := 3) ht hL (by decide) rfl) d_La_law_1101 ?_
  refine l_callV (pc := 1102) hX k_Mo_put ki_Mo_put kv_Mo_put ml_La_126 hm rfl rfl rfl rfl rfl (by decide) (by decide) (Nat.le_of_ble_eq_true rfl) g_len g_siz d_La_law_1102 ?_
  exact v_icmp_eq (pc := 1105) (tgt := 1345) hX d_La_law_1105 rfl (fun _ => kk M2 hI) (fun w => absurd rfl w)
theorem B_cell {X : CX} {L t : Nat} {xs : Nat → Int32} {M : MM} (hX : CLw X) (hS : SX X L xs) (ht : 6 * t + 6 ≤ L) (hL : L ≤ 384) (h : INV M) (kk : ∀ M2, INV M2 → VW X 1345 (loL t) [] (gM M2)) : VW X 1110 (loL t) [] (gM M) := by
  obtain ⟨v, M1, M2, hc, hm, hI⟩ := OP_cell h (xs (i3 (6 * t) + 1).toNatClampNeg) (xs (i3 (6 * t) + 2).toNatClampNeg) (xs (i3 (6 * t) + 3).toNatClampNeg)
  refine v_aload_n (pc := 1110) hX rfl d_La_law_1110 ?_
  refine v_aload_n (pc := 1111) hX rfl d_La_law_1111 ?_
  refine v_iload_n (pc := 1112) hX rfl d_La_law_1112 ?_
  refine v_iconst (pc := 1113) (v := 1) hX (by decide) d_La_law_1113 ?_
  refine v_iadd (pc := 1114) hX d_La_law_1114 ?_
  refine l_sld (pc := 1115) hX hS (sx_in (c := 1) ht hL (by decide) rfl) d_La_law_1115 ?_
  refine v_aload_n (pc := 1116) hX rfl d_La_law_1116 ?_
  refine v_iload_n (pc := 1117) hX rfl d_La_law_1117 ?_
  refine v_iconst (pc := 1118) (v := 2) hX (by decide) d_La_law_1118 ?_
  refine v_iadd (pc := 1119) hX d_La_law_1119 ?_
  refine l_sld (pc := 1120) hX hS (sx_in (c := 2) ht hL (by decide) rfl) d_La_law_1120 ?_
  refine v_aload_n (pc := 1121) hX rfl d_La_law_1121 ?_
  refine v_iload_n (pc := 1122) hX rfl d_La_law_1122 ?_
  refine v_iconst (pc := 1123) (v := 3) hX (by decide) d_La_law_1123 ?_
  refine v_iadd (pc := 1124) hX d_La_law_1124 ?_
  refine l_sld (pc := 1125) hX hS (sx_in (c := 3) ht hL (by decide) rfl) d_La_law_1125 ?_
  refine l_callV (pc := 1126) hX k_LJ_cell ki_LJ_cell kv_LJ_cell ml_La_127 hc rfl rfl rfl rfl rfl (by decide) (by decide) (Nat.le_of_ble_eq_true rfl) g_len g_siz d_La_law_1126 ?_
  refine v_aload_n (pc := 1129) hX rfl d_La_law_1129 ?_
  refine v_aload_n (pc := 1130) hX rfl d_La_law_1130 ?_
  refine v_iload_n (pc := 1131) hX rfl d_La_law_1131 ?_
  refine v_iconst (pc := 1132) (v := 1) hX (by decide) d_La_law_1132 ?_
  refine v_iadd (pc := 1133) hX d_La_law_1133 ?_
  refine l_sld (pc := 1134) hX hS (sx_in (c := 1) ht hL (by decide) rfl) d_La_law_1134 ?_
  refine v_aload_n (pc := 1135) hX rfl d_La_law_1135 ?_
  refine v_iload_n (pc := 1136) hX rfl d_La_law_1136 ?_
  refine v_iconst (pc := 1137) (v := 2) hX (by decide) d_La_law_1137 ?_
  refine v_iadd (pc := 1138) hX d_La_law_1138 ?_
  refine l_sld (pc := 1139) hX hS (sx_in (c := 2) ht hL (by decide) rfl) d_La_law_1139 ?_
  refine v_aload_n (pc := 1140) hX rfl d_La_law_1140 ?_
  refine v_iload_n (pc := 1141) hX rfl d_La_law_1141 ?_
  refine v_iconst (pc := 1142) (v := 3) hX (by decide) d_La_law_1142 ?_
  refine v_iadd (pc := 1143) hX d_La_law_1143 ?_
  refine l_sld (pc := 1144) hX hS (sx_in (c := 3) ht hL (by decide) rfl) d_La_law_1144 ?_
  refine l_callV (pc := 1145) hX k_Mo_cell ki_Mo_cell kv_Mo_cell ml_La_131 hm rfl rfl rfl rfl rfl (by decide) (by decide) (Nat.le_of_ble_eq_true rfl) g_len g_siz d_La_law_1145 ?_
  refine v_lcmp (pc := 1148) hX d_La_law_1148 ?_
  exact v_if_eq (pc := 1149) (tgt := 1345) hX d_La_law_1149 rfl (fun _ => kk M2 hI) (fun w => absurd (lc_same v) w)
theorem B_copy {X : CX} {L t : Nat} {xs : Nat → Int32} {M : MM} (hX : CLw X) (hS : SX X L xs) (ht : 6 * t + 6 ≤ L) (hL : L ≤ 384) (h : INV M) (kk : ∀ M2, INV M2 → VW X 1345 (loL t) [] (gM M2)) : VW X 1154 (loL t) [] (gM M) := by
  obtain ⟨v, M1, M2, hc, hm, hI⟩ := OP_copy h (xs (i3 (6 * t) + 1).toNatClampNeg) (xs (i3 (6 * t) + 2).toNatClampNeg) (xs (i3 (6 * t) + 3).toNatClampNeg) (xs (i3 (6 * t) + 4).toNatClampNeg) (xs (i3 (6 * t) + 5).toNatClampNeg)
  refine v_aload_n (pc := 1154) hX rfl d_La_law_1154 ?_
  refine v_aload_n (pc := 1155) hX rfl d_La_law_1155 ?_
  refine v_iload_n (pc := 1156) hX rfl d_La_law_1156 ?_
  refine v_iconst (pc := 1157) (v := 1) hX (by decide) d_La_law_1157 ?_
  refine v_iadd (pc := 1158) hX d_La_law_1158 ?_
  refine l_sld (pc := 1159) hX hS (sx_in (c := 1) ht hL (by decide) rfl) d_La_law_1159 ?_
  refine v_aload_n (pc := 1160) hX rfl d_La_law_1160 ?_
  refine v_iload_n (pc := 1161) hX rfl d_La_law_1161 ?_
  refine v_iconst (pc := 1162) (v := 2) hX (by decide) d_La_law_1162 ?_
  refine v_iadd (pc := 1163) hX d_La_law_1163 ?_
  refine l_sld (pc := 1164) hX hS (sx_in (c := 2) ht hL (by decide) rfl) d_La_law_1164 ?_
  refine v_aload_n (pc := 1165) hX rfl d_La_law_1165 ?_
  refine v_iload_n (pc := 1166) hX rfl d_La_law_1166 ?_
  refine v_iconst (pc := 1167) (v := 3) hX (by decide) d_La_law_1167 ?_
  refine v_iadd (pc := 1168) hX d_La_law_1168 ?_
  refine l_sld (pc := 1169) hX hS (sx_in (c := 3) ht hL (by decide) rfl) d_La_law_1169 ?_
  refine v_aload_n (pc := 1170) hX rfl d_La_law_1170 ?_
  refine v_iload_n (pc := 1171) hX rfl d_La_law_1171 ?_
  refine v_iconst (pc := 1172) (v := 4) hX (by decide) d_La_law_1172 ?_
  refine v_iadd (pc := 1173) hX d_La_law_1173 ?_
  refine l_sld (pc := 1174) hX hS (sx_in (c := 4) ht hL (by decide) rfl) d_La_law_1174 ?_
  refine v_aload_n (pc := 1175) hX rfl d_La_law_1175 ?_
  refine v_iload_n (pc := 1176) hX rfl d_La_law_1176 ?_
  refine v_iconst (pc := 1177) (v := 5) hX (by decide) d_La_law_1177 ?_
  refine v_iadd (pc := 1178) hX d_La_law_1178 ?_
  refine l_sld (pc := 1179) hX hS (sx_in (c := 5) ht hL (by decide) rfl) d_La_law_1179 ?_
  refine l_callV (pc := 1180) hX k_LJ_copy ki_LJ_copy kv_LJ_copy ml_La_132 hc rfl rfl rfl rfl rfl (by decide) (by decide) (Nat.le_of_ble_eq_true rfl) g_len g_siz d_La_law_1180 ?_
  refine v_aload_n (pc := 1183) hX rfl d_La_law_1183 ?_
  refine v_aload_n (pc := 1184) hX rfl d_La_law_1184 ?_
  refine v_iload_n (pc := 1185) hX rfl d_La_law_1185 ?_
  refine v_iconst (pc := 1186) (v := 1) hX (by decide) d_La_law_1186 ?_
  refine v_iadd (pc := 1187) hX d_La_law_1187 ?_
  refine l_sld (pc := 1188) hX hS (sx_in (c := 1) ht hL (by decide) rfl) d_La_law_1188 ?_
  refine v_aload_n (pc := 1189) hX rfl d_La_law_1189 ?_
  refine v_iload_n (pc := 1190) hX rfl d_La_law_1190 ?_
  refine v_iconst (pc := 1191) (v := 2) hX (by decide) d_La_law_1191 ?_
  refine v_iadd (pc := 1192) hX d_La_law_1192 ?_
  refine l_sld (pc := 1193) hX hS (sx_in (c := 2) ht hL (by decide) rfl) d_La_law_1193 ?_
  refine v_aload_n (pc := 1194) hX rfl d_La_law_1194 ?_
  refine v_iload_n (pc := 1195) hX rfl d_La_law_1195 ?_
  refine v_iconst (pc := 1196) (v := 3) hX (by decide) d_La_law_1196 ?_
  refine v_iadd (pc := 1197) hX d_La_law_1197 ?_
  refine l_sld (pc := 1198) hX hS (sx_in (c := 3) ht hL (by decide) rfl) d_La_law_1198 ?_
  refine v_aload_n (pc := 1199) hX rfl d_La_law_1199 ?_
  refine v_iload_n (pc := 1200) hX rfl d_La_law_1200 ?_
  refine v_iconst (pc := 1201) (v := 4) hX (by decide) d_La_law_1201 ?_
  refine v_iadd (pc := 1202) hX d_La_law_1202 ?_
  refine l_sld (pc := 1203) hX hS (sx_in (c := 4) ht hL (by decide) rfl) d_La_law_1203 ?_
  refine v_aload_n (pc := 1204) hX rfl d_La_law_1204 ?_
  refine v_iload_n (pc := 1205) hX rfl d_La_law_1205 ?_
  refine v_iconst (pc := 1206) (v := 5) hX (by decide) d_La_law_1206 ?_
  refine v_iadd (pc := 1207) hX d_La_law_1207 ?_
  refine l_sld (pc := 1208) hX hS (sx_in (c := 5) ht hL (by decide) rfl) d_La_law_1208 ?_
  refine l_callV (pc := 1209) hX k_Mo_copy ki_Mo_copy kv_Mo_copy ml_La_135 hm rfl rfl rfl rfl rfl (by decide) (by decide) (Nat.le_of_ble_eq_true rfl) g_len g_siz d_La_law_1209 ?_
  exact v_icmp_eq (pc := 1212) (tgt := 1345) hX d_La_law_1212 rfl (fun _ => kk M2 hI) (fun w => absurd rfl w)
theorem B_tell {X : CX} {L t : Nat} {xs : Nat → Int32} {M : MM} (hX : CLw X) (hS : SX X L xs) (ht : 6 * t + 6 ≤ L) (hL : L ≤ 384) (h : INV M) (kk : ∀ M2, INV M2 → VW X 1345 (loL t) [] (gM M2)) : VW X 1217 (loL t) [] (gM M) := by
  obtain ⟨v, M1, M2, hc, hm, hI⟩ := OP_tell h (xs (i3 (6 * t) + 1).toNatClampNeg)
  refine v_aload_n (pc := 1217) hX rfl d_La_law_1217 ?_
  refine v_aload_n (pc := 1218) hX rfl d_La_law_1218 ?_
  refine v_iload_n (pc := 1219) hX rfl d_La_law_1219 ?_
  refine v_iconst (pc := 1220) (v := 1) hX (by decide) d_La_law_1220 ?_
  refine v_iadd (pc := 1221) hX d_La_law_1221 ?_
  refine l_sld (pc := 1222) hX hS (sx_in (c := 1) ht hL (by decide) rfl) d_La_law_1222 ?_
  refine l_callV (pc := 1223) hX k_LJ_tell ki_LJ_tell kv_LJ_tell ml_La_136 hc rfl rfl rfl rfl rfl (by decide) (by decide) (Nat.le_of_ble_eq_true rfl) g_len g_siz d_La_law_1223 ?_
  refine v_aload_n (pc := 1226) hX rfl d_La_law_1226 ?_
  refine v_aload_n (pc := 1227) hX rfl d_La_law_1227 ?_
  refine v_iload_n (pc := 1228) hX rfl d_La_law_1228 ?_
  refine v_iconst (pc := 1229) (v := 1) hX (by decide) d_La_law_1229 ?_
  refine v_iadd (pc := 1230) hX d_La_law_1230 ?_
  refine l_sld (pc := 1231) hX hS (sx_in (c := 1) ht hL (by decide) rfl) d_La_law_1231 ?_
  refine l_callV (pc := 1232) hX k_Mo_tell ki_Mo_tell kv_Mo_tell ml_La_139 hm rfl rfl rfl rfl rfl (by decide) (by decide) (Nat.le_of_ble_eq_true rfl) g_len g_siz d_La_law_1232 ?_
  exact v_icmp_eq (pc := 1235) (tgt := 1345) hX d_La_law_1235 rfl (fun _ => kk M2 hI) (fun w => absurd rfl w)
theorem B_sniff {X : CX} {L t : Nat} {xs : Nat → Int32} {M : MM} (hX : CLw X) (hS : SX X L xs) (ht : 6 * t + 6 ≤ L) (hL : L ≤ 384) (h : INV M) (kk : ∀ M2, INV M2 → VW X 1345 (loL t) [] (gM M2)) : VW X 1240 (loL t) [] (gM M) := by
  obtain ⟨v, M1, M2, hc, hm, hI⟩ := OP_sniff h (xs (i3 (6 * t) + 1).toNatClampNeg)
  refine v_aload_n (pc := 1240) hX rfl d_La_law_1240 ?_
  refine v_aload_n (pc := 1241) hX rfl d_La_law_1241 ?_
  refine v_iload_n (pc := 1242) hX rfl d_La_law_1242 ?_
  refine v_iconst (pc := 1243) (v := 1) hX (by decide) d_La_law_1243 ?_
  refine v_iadd (pc := 1244) hX d_La_law_1244 ?_
  refine l_sld (pc := 1245) hX hS (sx_in (c := 1) ht hL (by decide) rfl) d_La_law_1245 ?_
  refine l_callV (pc := 1246) hX k_LJ_sniff ki_LJ_sniff kv_LJ_sniff ml_La_140 hc rfl rfl rfl rfl rfl (by decide) (by decide) (Nat.le_of_ble_eq_true rfl) g_len g_siz d_La_law_1246 ?_
  refine v_aload_n (pc := 1249) hX rfl d_La_law_1249 ?_
  refine v_aload_n (pc := 1250) hX rfl d_La_law_1250 ?_
  refine v_iload_n (pc := 1251) hX rfl d_La_law_1251 ?_
  refine v_iconst (pc := 1252) (v := 1) hX (by decide) d_La_law_1252 ?_
  refine v_iadd (pc := 1253) hX d_La_law_1253 ?_
  refine l_sld (pc := 1254) hX hS (sx_in (c := 1) ht hL (by decide) rfl) d_La_law_1254 ?_
  refine l_callV (pc := 1255) hX k_Mo_sniff ki_Mo_sniff kv_Mo_sniff ml_La_143 hm rfl rfl rfl rfl rfl (by decide) (by decide) (Nat.le_of_ble_eq_true rfl) g_len g_siz d_La_law_1255 ?_
  exact v_icmp_eq (pc := 1258) (tgt := 1345) hX d_La_law_1258 rfl (fun _ => kk M2 hI) (fun w => absurd rfl w)
theorem B_as {X : CX} {L t : Nat} {xs : Nat → Int32} {M : MM} (hX : CLw X) (hS : SX X L xs) (ht : 6 * t + 6 ≤ L) (hL : L ≤ 384) (h : INV M) (kk : ∀ M2, INV M2 → VW X 1345 (loL t) [] (gM M2)) : VW X 1263 (loL t) [] (gM M) := by
  obtain ⟨v, M1, M2, hc, hm, hI⟩ := OP_as h (xs (i3 (6 * t) + 1).toNatClampNeg) (xs (i3 (6 * t) + 2).toNatClampNeg)
  refine v_aload_n (pc := 1263) hX rfl d_La_law_1263 ?_
  refine v_aload_n (pc := 1264) hX rfl d_La_law_1264 ?_
  refine v_iload_n (pc := 1265) hX rfl d_La_law_1265 ?_
  refine v_iconst (pc := 1266) (v := 1) hX (by decide) d_La_law_1266 ?_
  refine v_iadd (pc := 1267) hX d_La_law_1267 ?_
  refine l_sld (pc := 1268) hX hS (sx_in (c := 1) ht hL (by decide) rfl) d_La_law_1268 ?_
  refine v_aload_n (pc := 1269) hX rfl d_La_law_1269 ?_
  refine v_iload_n (pc := 1270) hX rfl d_La_law_1270 ?_
  refine v_iconst (pc := 1271) (v := 2) hX (by decide) d_La_law_1271 ?_
  refine v_iadd (pc := 1272) hX d_La_law_1272 ?_
  refine l_sld (pc := 1273) hX hS (sx_in (c := 2) ht hL (by decide) rfl) d_La_law_1273 ?_
  refine l_callV (pc := 1274) hX k_LJ_as ki_LJ_as kv_LJ_as ml_La_144 hc rfl rfl rfl rfl rfl (by decide) (by decide) (Nat.le_of_ble_eq_true rfl) g_len g_siz d_La_law_1274 ?_
  refine v_aload_n (pc := 1277) hX rfl d_La_law_1277 ?_
  refine v_aload_n (pc := 1278) hX rfl d_La_law_1278 ?_
  refine v_iload_n (pc := 1279) hX rfl d_La_law_1279 ?_
  refine v_iconst (pc := 1280) (v := 1) hX (by decide) d_La_law_1280 ?_
  refine v_iadd (pc := 1281) hX d_La_law_1281 ?_
  refine l_sld (pc := 1282) hX hS (sx_in (c := 1) ht hL (by decide) rfl) d_La_law_1282 ?_
  refine v_aload_n (pc := 1283) hX rfl d_La_law_1283 ?_
  refine v_iload_n (pc := 1284) hX rfl d_La_law_1284 ?_
  refine v_iconst (pc := 1285) (v := 2) hX (by decide) d_La_law_1285 ?_
  refine v_iadd (pc := 1286) hX d_La_law_1286 ?_
  refine l_sld (pc := 1287) hX hS (sx_in (c := 2) ht hL (by decide) rfl) d_La_law_1287 ?_
  refine l_callV (pc := 1288) hX k_Mo_as ki_Mo_as kv_Mo_as ml_La_147 hm rfl rfl rfl rfl rfl (by decide) (by decide) (Nat.le_of_ble_eq_true rfl) g_len g_siz d_La_law_1288 ?_
  exact v_icmp_eq (pc := 1291) (tgt := 1345) hX d_La_law_1291 rfl (fun _ => kk M2 hI) (fun w => absurd rfl w)
theorem B_trace {X : CX} {L t : Nat} {xs : Nat → Int32} {M : MM} (hX : CLw X) (hS : SX X L xs) (ht : 6 * t + 6 ≤ L) (hL : L ≤ 384) (h : INV M) (kk : ∀ M2, INV M2 → VW X 1345 (loL t) [] (gM M2)) : VW X 1296 (loL t) [] (gM M) := by
  obtain ⟨v, M1, M2, hc, hm, hI⟩ := OP_trace h 
  refine v_aload_n (pc := 1296) hX rfl d_La_law_1296 ?_
  refine l_callV (pc := 1297) hX k_LJ_trace ki_LJ_trace kv_LJ_trace ml_La_148 hc rfl rfl rfl rfl rfl (by decide) (by decide) (Nat.le_of_ble_eq_true rfl) g_len g_siz d_La_law_1297 ?_
  refine v_aload_n (pc := 1300) hX rfl d_La_law_1300 ?_
  refine l_callV (pc := 1301) hX k_Mo_trace ki_Mo_trace kv_Mo_trace ml_La_152 hm rfl rfl rfl rfl rfl (by decide) (by decide) (Nat.le_of_ble_eq_true rfl) g_len g_siz d_La_law_1301 ?_
  exact v_icmp_eq (pc := 1304) (tgt := 1345) hX d_La_law_1304 rfl (fun _ => kk M2 hI) (fun w => absurd rfl w)
theorem B_fault {X : CX} {L t : Nat} {xs : Nat → Int32} {M : MM} (hX : CLw X) (hS : SX X L xs) (ht : 6 * t + 6 ≤ L) (hL : L ≤ 384) (h : INV M) (kk : ∀ M2, INV M2 → VW X 1345 (loL t) [] (gM M2)) : VW X 1309 (loL t) [] (gM M) := by
  obtain ⟨v, M1, M2, hc, hm, hI⟩ := OP_fault h 
  refine v_aload_n (pc := 1309) hX rfl d_La_law_1309 ?_
  refine l_callV (pc := 1310) hX k_LJ_fault ki_LJ_fault kv_LJ_fault ml_La_153 hc rfl rfl rfl rfl rfl (by decide) (by decide) (Nat.le_of_ble_eq_true rfl) g_len g_siz d_La_law_1310 ?_
  refine v_aload_n (pc := 1313) hX rfl d_La_law_1313 ?_
  refine l_callV (pc := 1314) hX k_Mo_fault ki_Mo_fault kv_Mo_fault ml_La_156 hm rfl rfl rfl rfl rfl (by decide) (by decide) (Nat.le_of_ble_eq_true rfl) g_len g_siz d_La_law_1314 ?_
  exact v_icmp_eq (pc := 1317) (tgt := 1345) hX d_La_law_1317 rfl (fun _ => kk M2 hI) (fun w => absurd rfl w)
theorem B_many {X : CX} {L t : Nat} {xs : Nat → Int32} {M : MM} (hX : CLw X) (hS : SX X L xs) (ht : 6 * t + 6 ≤ L) (hL : L ≤ 384) (h : INV M) (kk : ∀ M2, INV M2 → VW X 1345 (loL t) [] (gM M2)) : VW X 1322 (loL t) [] (gM M) := by
  obtain ⟨v, M1, M2, hc, hm, hI⟩ := OP_many h (xs (i3 (6 * t) + 1).toNatClampNeg)
  refine v_aload_n (pc := 1322) hX rfl d_La_law_1322 ?_
  refine v_aload_n (pc := 1323) hX rfl d_La_law_1323 ?_
  refine v_iload_n (pc := 1324) hX rfl d_La_law_1324 ?_
  refine v_iconst (pc := 1325) (v := 1) hX (by decide) d_La_law_1325 ?_
  refine v_iadd (pc := 1326) hX d_La_law_1326 ?_
  refine l_sld (pc := 1327) hX hS (sx_in (c := 1) ht hL (by decide) rfl) d_La_law_1327 ?_
  refine l_callV (pc := 1328) hX k_LJ_many ki_LJ_many kv_LJ_many ml_La_157 hc rfl rfl rfl rfl rfl (by decide) (by decide) (Nat.le_of_ble_eq_true rfl) g_len g_siz d_La_law_1328 ?_
  refine v_aload_n (pc := 1331) hX rfl d_La_law_1331 ?_
  refine v_aload_n (pc := 1332) hX rfl d_La_law_1332 ?_
  refine v_iload_n (pc := 1333) hX rfl d_La_law_1333 ?_
  refine v_iconst (pc := 1334) (v := 1) hX (by decide) d_La_law_1334 ?_
  refine v_iadd (pc := 1335) hX d_La_law_1335 ?_
  refine l_sld (pc := 1336) hX hS (sx_in (c := 1) ht hL (by decide) rfl) d_La_law_1336 ?_
  refine l_callV (pc := 1337) hX k_Mo_many ki_Mo_many kv_Mo_many ml_La_160 hm rfl rfl rfl rfl rfl (by decide) (by decide) (Nat.le_of_ble_eq_true rfl) g_len g_siz d_La_law_1337 ?_
  exact v_icmp_eq (pc := 1340) (tgt := 1345) hX d_La_law_1340 rfl (fun _ => kk M2 hI) (fun w => absurd rfl w)
