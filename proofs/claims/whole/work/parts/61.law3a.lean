set_option maxHeartbeats 4000000 in
set_option maxRecDepth 100000 in
theorem lc_0 {Y : gEnv} {X : gCtx} {b : Nat} {i : Int} {x s h hq sc sg ar xm w sv tx ag out : Nat} {k n : Nat} {Ln : Nat} {xs : Nat → Int32} {K N : Nat → Nat} {I : Nat → Nat → Int} {A : Nat → Int → Int} {R : Nat → Nat → Option Nat} {Q : Nat → Int → Option Nat} (hsc : lScr X Y b Ln xs) (hi : 0 ≤ i ∧ i + 6 ≤ Ln) (hL : lInv x s h hq sc sg ar xm w sv tx ag out K N I A R Q) (hk : k + 400 ≤ 668115) (hn : n + 2000 ≤ 7091759) (kk : ∀ (K' N' : Nat → Nat) (I' : Nat → Nat → Int) (A' : Nat → Int → Int) (R' : Nat → Nat → Option Nat) (Q' : Nat → Int → Option Nat), lInv x s h hq sc sg ar xm w sv tx ag out K' N' I' A' R' Q' → gJ Y X yL_law cL_law 8 (some .boolean) room_1 lPo gno (k + 400) (n + 2000) 2133 [(4, vi i), (0, .ref b), (1, .ref x), (2, .ref xm), (3, .ref out)] [] K' N' I' A' R' Q') : gJ Y X yL_law cL_law 8 (some .boolean) room_1 lPo gno k n 176 [(4, vi i), (0, .ref b), (1, .ref x), (2, .ref xm), (3, .ref out)] [] K N I A R Q := by
  obtain ⟨⟨G, hI⟩, hM, ⟨o1, o2, o3, o4, o5⟩, hO⟩ := id hL
  obtain ⟨hz, hmt, hhs, hTr, hlen⟩ := id hO
  obtain ⟨hN, hn6⟩ := hI.hN
  have hne := hM.ne
  refine g_aload_n dL_law_176 rfl rfl ?_
  refine g_aload_n dL_law_177 rfl rfl ?_
  refine g_iload dL_law_178 rfl ?_
  refine g_iconst dL_law_180 ?_
  refine g_iadd dL_law_181 ?_
  refine g_sld hsc (by omega) dL_law_182 ?_
  refine g_aload_n dL_law_183 rfl rfl ?_
  refine g_iload dL_law_184 rfl ?_
  refine g_iconst dL_law_186 ?_
  refine g_iadd dL_law_187 ?_
  refine g_sld hsc (by omega) dL_law_188 ?_
  refine g_aload_n dL_law_189 rfl rfl ?_
  refine g_iload dL_law_190 rfl ?_
  refine g_iconst dL_law_192 ?_
  refine g_iadd dL_law_193 ?_
  refine g_sld hsc (by omega) dL_law_194 ?_
  refine g_aload_n dL_law_195 rfl rfl ?_
  refine g_callH (k_L_setGlaze Y hI ⟨Or.inr (Or.inr (Or.inr (Or.inr (Or.inr rfl)))), o1, o2⟩ (xsI xs (i + 1)) (xsI xs (i + 2)) (xsI xs (i + 3)) (cd2r _ _) (k_A_setGlaze Y hI (xsI xs (i + 1)) (xsI_range xs (i + 1)) (xsI xs (i + 2)) (xsI_range xs (i + 2)) (xsI xs (i + 3)) (xsI_range xs (i + 3)) (fun hc => (lk_setGlaze hN hz hmt hc).1))) u_L_setGlaze mw_512 dL_law_196 rfl rfl ⟨Nat.le_of_ble_eq_true rfl, Nat.le_of_ble_eq_true rfl⟩ ⟨by show _ ≤ (668115 : Nat); dsimp only; omega, by show _ ≤ (7091759 : Nat); dsimp only; omega⟩ (Nat.le_of_ble_eq_true rfl) (fun v1 K1 N1 I1 A1 R1 Q1 h1 => ?_)
  have e1 := h1.1
  subst e1
  obtain ⟨m1, w1, w2, w3, w4, w5⟩ := lInv.mid hL h1
  refine g_istore dL_law_199 (by decide) ?_
  refine g_aload_n dL_law_201 rfl rfl ?_
  refine g_aload_n dL_law_202 rfl rfl ?_
  refine g_iload dL_law_203 rfl ?_
  refine g_iconst dL_law_205 ?_
  refine g_iadd dL_law_206 ?_
  refine g_sld hsc (by omega) dL_law_207 ?_
  refine g_aload_n dL_law_208 rfl rfl ?_
  refine g_iload dL_law_209 rfl ?_
  refine g_iconst dL_law_211 ?_
  refine g_iadd dL_law_212 ?_
  refine g_sld hsc (by omega) dL_law_213 ?_
  refine g_aload_n dL_law_214 rfl rfl ?_
  refine g_iload dL_law_215 rfl ?_
  refine g_iconst dL_law_217 ?_
  refine g_iadd dL_law_218 ?_
  refine g_sld hsc (by omega) dL_law_219 ?_
  refine g_callVw (i := 10) rfl (gK0 m1.1) (g_at10 m1.1) (k_M_setGlaze Y m1 (by rw [w1]; exact hN) (by rw [w1]; exact hmt) (by rw [w4]; exact hn6) (xsI xs (i + 1)) (xsI xs (i + 2)) (xsI xs (i + 3)) (xsI_range xs (i + 1)) (xsI_range xs (i + 2)) (xsI_range xs (i + 3))) u_X13_setGlaze mw_1191 dL_law_220 rfl rfl ⟨Nat.le_of_ble_eq_true rfl, Nat.le_of_ble_eq_true rfl⟩ ⟨by show _ ≤ (668115 : Nat); dsimp only; omega, by show _ ≤ (7091759 : Nat); dsimp only; omega⟩ (Nat.le_of_ble_eq_true rfl) (fun v2 I2 A2 h2 => ?_)
  rw [w1] at h2
  obtain ⟨r1, r2⟩ := mOpP.res o5 hne.1 hne.2.1 h2 w1 w2 w3 w4 w5
  subst r2
  obtain ⟨hL2, hout, h206⟩ := lInv.fin hL h1 r1 (fun hc => hO.op hN hn6 (lk_setGlaze hN hz hmt hc).2.1 (lk_setGlaze hN hz hmt hc).2.2)
  exact g_locs (by exact ⟨rfl, rfl, rfl, rfl, rfl, rfl, trivial⟩) (lt_int (pc := 223) dL_law_223 dL_law_225 dL_law_226 dL_law_229 dL_law_231 dL_law_236 dL_law_238 dL_law_241 dL_law_242 dL_law_243 dL_law_244 dL_law_246 dL_law_247 dL_law_248 dL_law_253 (by decide) ⟨((cd2r _ _)).1, Int.le_trans ((cd2r _ _)).2 (by decide)⟩ hL2 hout h206 (by dsimp only; omega) (by omega) (by dsimp only; omega) (by omega) (kk _ _ _ _ _ _ hL2))
set_option maxHeartbeats 4000000 in
set_option maxRecDepth 100000 in
theorem lc_1 {Y : gEnv} {X : gCtx} {b : Nat} {i : Int} {x s h hq sc sg ar xm w sv tx ag out : Nat} {k n : Nat} {Ln : Nat} {xs : Nat → Int32} {K N : Nat → Nat} {I : Nat → Nat → Int} {A : Nat → Int → Int} {R : Nat → Nat → Option Nat} {Q : Nat → Int → Option Nat} (hsc : lScr X Y b Ln xs) (hi : 0 ≤ i ∧ i + 6 ≤ Ln) (hL : lInv x s h hq sc sg ar xm w sv tx ag out K N I A R Q) (hk : k + 400 ≤ 668115) (hn : n + 2000 ≤ 7091759) (kk : ∀ (K' N' : Nat → Nat) (I' : Nat → Nat → Int) (A' : Nat → Int → Int) (R' : Nat → Nat → Option Nat) (Q' : Nat → Int → Option Nat), lInv x s h hq sc sg ar xm w sv tx ag out K' N' I' A' R' Q' → gJ Y X yL_law cL_law 8 (some .boolean) room_1 lPo gno (k + 400) (n + 2000) 2133 [(4, vi i), (0, .ref b), (1, .ref x), (2, .ref xm), (3, .ref out)] [] K' N' I' A' R' Q') : gJ Y X yL_law cL_law 8 (some .boolean) room_1 lPo gno k n 256 [(4, vi i), (0, .ref b), (1, .ref x), (2, .ref xm), (3, .ref out)] [] K N I A R Q := by
  obtain ⟨⟨G, hI⟩, hM, ⟨o1, o2, o3, o4, o5⟩, hO⟩ := id hL
  obtain ⟨hz, hmt, hhs, hTr, hlen⟩ := id hO
  obtain ⟨hN, hn6⟩ := hI.hN
  have hne := hM.ne
  refine g_aload_n dL_law_256 rfl rfl ?_
  refine g_aload_n dL_law_257 rfl rfl ?_
  refine g_iload dL_law_258 rfl ?_
  refine g_iconst dL_law_260 ?_
  refine g_iadd dL_law_261 ?_
  refine g_sld hsc (by omega) dL_law_262 ?_
  refine g_aload_n dL_law_263 rfl rfl ?_
  refine g_iload dL_law_264 rfl ?_
  refine g_iconst dL_law_266 ?_
  refine g_iadd dL_law_267 ?_
  refine g_sld hsc (by omega) dL_law_268 ?_
  refine g_aload_n dL_law_269 rfl rfl ?_
  refine g_iload dL_law_270 rfl ?_
  refine g_iconst dL_law_272 ?_
  refine g_iadd dL_law_273 ?_
  refine g_sld hsc (by omega) dL_law_274 ?_
  refine g_aload_n dL_law_275 rfl rfl ?_
  refine g_callH (k_L_setQuality Y hI ⟨Or.inr (Or.inr (Or.inr (Or.inr (Or.inr rfl)))), o1, o2⟩ (xsI xs (i + 1)) (xsI xs (i + 2)) (xsI xs (i + 3)) (cd2r _ _) (k_A_setQuality Y hI (xsI xs (i + 1)) (xsI_range xs (i + 1)) (xsI xs (i + 2)) (xsI_range xs (i + 2)) (xsI xs (i + 3)) (xsI_range xs (i + 3)) (fun hc => (lk_setQuality hN hz hmt hc).1))) u_L_setQuality mw_617 dL_law_276 rfl rfl ⟨Nat.le_of_ble_eq_true rfl, Nat.le_of_ble_eq_true rfl⟩ ⟨by show _ ≤ (668115 : Nat); dsimp only; omega, by show _ ≤ (7091759 : Nat); dsimp only; omega⟩ (Nat.le_of_ble_eq_true rfl) (fun v1 K1 N1 I1 A1 R1 Q1 h1 => ?_)
  have e1 := h1.1
  subst e1
  obtain ⟨m1, w1, w2, w3, w4, w5⟩ := lInv.mid hL h1
  refine g_istore dL_law_279 (by decide) ?_
  refine g_aload_n dL_law_281 rfl rfl ?_
  refine g_aload_n dL_law_282 rfl rfl ?_
  refine g_iload dL_law_283 rfl ?_
  refine g_iconst dL_law_285 ?_
  refine g_iadd dL_law_286 ?_
  refine g_sld hsc (by omega) dL_law_287 ?_
  refine g_aload_n dL_law_288 rfl rfl ?_
  refine g_iload dL_law_289 rfl ?_
  refine g_iconst dL_law_291 ?_
  refine g_iadd dL_law_292 ?_
  refine g_sld hsc (by omega) dL_law_293 ?_
  refine g_aload_n dL_law_294 rfl rfl ?_
  refine g_iload dL_law_295 rfl ?_
  refine g_iconst dL_law_297 ?_
  refine g_iadd dL_law_298 ?_
  refine g_sld hsc (by omega) dL_law_299 ?_
  refine g_callVw (i := 10) rfl (gK0 m1.1) (g_at10 m1.1) (k_M_setQuality Y m1 (by rw [w1]; exact hN) (by rw [w1]; exact hmt) (by rw [w4]; exact hn6) (xsI xs (i + 1)) (xsI xs (i + 2)) (xsI xs (i + 3)) (xsI_range xs (i + 1)) (xsI_range xs (i + 2)) (xsI_range xs (i + 3))) u_X13_setQuality mw_1212 dL_law_300 rfl rfl ⟨Nat.le_of_ble_eq_true rfl, Nat.le_of_ble_eq_true rfl⟩ ⟨by show _ ≤ (668115 : Nat); dsimp only; omega, by show _ ≤ (7091759 : Nat); dsimp only; omega⟩ (Nat.le_of_ble_eq_true rfl) (fun v2 I2 A2 h2 => ?_)
  rw [w1] at h2
  obtain ⟨r1, r2⟩ := mOpP.res o5 hne.1 hne.2.1 h2 w1 w2 w3 w4 w5
  subst r2
  obtain ⟨hL2, hout, h206⟩ := lInv.fin hL h1 r1 (fun hc => hO.op hN hn6 (lk_setQuality hN hz hmt hc).2.1 (lk_setQuality hN hz hmt hc).2.2)
  exact g_locs (by exact ⟨rfl, rfl, rfl, rfl, rfl, rfl, trivial⟩) (lt_int (pc := 303) dL_law_303 dL_law_305 dL_law_306 dL_law_309 dL_law_311 dL_law_316 dL_law_318 dL_law_321 dL_law_322 dL_law_323 dL_law_324 dL_law_326 dL_law_327 dL_law_328 dL_law_333 (by decide) ⟨((cd2r _ _)).1, Int.le_trans ((cd2r _ _)).2 (by decide)⟩ hL2 hout h206 (by dsimp only; omega) (by omega) (by dsimp only; omega) (by omega) (kk _ _ _ _ _ _ hL2))
set_option maxHeartbeats 4000000 in
set_option maxRecDepth 100000 in
theorem lc_2 {Y : gEnv} {X : gCtx} {b : Nat} {i : Int} {x s h hq sc sg ar xm w sv tx ag out : Nat} {k n : Nat} {Ln : Nat} {xs : Nat → Int32} {K N : Nat → Nat} {I : Nat → Nat → Int} {A : Nat → Int → Int} {R : Nat → Nat → Option Nat} {Q : Nat → Int → Option Nat} (hsc : lScr X Y b Ln xs) (hi : 0 ≤ i ∧ i + 6 ≤ Ln) (hL : lInv x s h hq sc sg ar xm w sv tx ag out K N I A R Q) (hk : k + 400 ≤ 668115) (hn : n + 2000 ≤ 7091759) (kk : ∀ (K' N' : Nat → Nat) (I' : Nat → Nat → Int) (A' : Nat → Int → Int) (R' : Nat → Nat → Option Nat) (Q' : Nat → Int → Option Nat), lInv x s h hq sc sg ar xm w sv tx ag out K' N' I' A' R' Q' → gJ Y X yL_law cL_law 8 (some .boolean) room_1 lPo gno (k + 400) (n + 2000) 2133 [(4, vi i), (0, .ref b), (1, .ref x), (2, .ref xm), (3, .ref out)] [] K' N' I' A' R' Q') : gJ Y X yL_law cL_law 8 (some .boolean) room_1 lPo gno k n 336 [(4, vi i), (0, .ref b), (1, .ref x), (2, .ref xm), (3, .ref out)] [] K N I A R Q := by
  obtain ⟨⟨G, hI⟩, hM, ⟨o1, o2, o3, o4, o5⟩, hO⟩ := id hL
  obtain ⟨hz, hmt, hhs, hTr, hlen⟩ := id hO
  obtain ⟨hN, hn6⟩ := hI.hN
  have hne := hM.ne
  refine g_aload_n dL_law_336 rfl rfl ?_
  refine g_aload_n dL_law_337 rfl rfl ?_
  refine g_iload dL_law_338 rfl ?_
  refine g_iconst dL_law_340 ?_
  refine g_iadd dL_law_341 ?_
  refine g_sld hsc (by omega) dL_law_342 ?_
  refine g_aload_n dL_law_343 rfl rfl ?_
  refine g_iload dL_law_344 rfl ?_
  refine g_iconst dL_law_346 ?_
  refine g_iadd dL_law_347 ?_
  refine g_sld hsc (by omega) dL_law_348 ?_
  refine g_aload_n dL_law_349 rfl rfl ?_
  refine g_iload dL_law_350 rfl ?_
  refine g_iconst dL_law_352 ?_
  refine g_iadd dL_law_353 ?_
  refine g_sld hsc (by omega) dL_law_354 ?_
  refine g_aload_n dL_law_355 rfl rfl ?_
  refine g_iload dL_law_356 rfl ?_
  refine g_iconst dL_law_358 ?_
  refine g_iadd dL_law_359 ?_
  refine g_sld hsc (by omega) dL_law_360 ?_
  refine g_aload_n dL_law_361 rfl rfl ?_
  refine g_callH (k_L_setPosition Y hI ⟨Or.inr (Or.inr (Or.inr (Or.inr (Or.inr rfl)))), o1, o2⟩ (xsI xs (i + 1)) (xsI xs (i + 2)) (xsI xs (i + 3)) (xsI xs (i + 4)) (cd2r _ _) (k_A_setPosition Y hI (xsI xs (i + 1)) (xsI_range xs (i + 1)) (xsI xs (i + 2)) (xsI_range xs (i + 2)) (xsI xs (i + 3)) (xsI_range xs (i + 3)) (xsI xs (i + 4)) (xsI_range xs (i + 4)) (fun hc => (lk_setPosition hN hz hmt hc).1))) u_L_setPosition mw_627 dL_law_362 rfl rfl ⟨Nat.le_of_ble_eq_true rfl, Nat.le_of_ble_eq_true rfl⟩ ⟨by show _ ≤ (668115 : Nat); dsimp only; omega, by show _ ≤ (7091759 : Nat); dsimp only; omega⟩ (Nat.le_of_ble_eq_true rfl) (fun v1 K1 N1 I1 A1 R1 Q1 h1 => ?_)
  have e1 := h1.1
  subst e1
  obtain ⟨m1, w1, w2, w3, w4, w5⟩ := lInv.mid hL h1
  refine g_istore dL_law_365 (by decide) ?_
  refine g_aload_n dL_law_367 rfl rfl ?_
  refine g_aload_n dL_law_368 rfl rfl ?_
  refine g_iload dL_law_369 rfl ?_
  refine g_iconst dL_law_371 ?_
  refine g_iadd dL_law_372 ?_
  refine g_sld hsc (by omega) dL_law_373 ?_
  refine g_aload_n dL_law_374 rfl rfl ?_
  refine g_iload dL_law_375 rfl ?_
  refine g_iconst dL_law_377 ?_
  refine g_iadd dL_law_378 ?_
  refine g_sld hsc (by omega) dL_law_379 ?_
  refine g_aload_n dL_law_380 rfl rfl ?_
  refine g_iload dL_law_381 rfl ?_
  refine g_iconst dL_law_383 ?_
  refine g_iadd dL_law_384 ?_
  refine g_sld hsc (by omega) dL_law_385 ?_
  refine g_aload_n dL_law_386 rfl rfl ?_
  refine g_iload dL_law_387 rfl ?_
  refine g_iconst dL_law_389 ?_
  refine g_iadd dL_law_390 ?_
  refine g_sld hsc (by omega) dL_law_391 ?_
  refine g_callVw (i := 10) rfl (gK0 m1.1) (g_at10 m1.1) (k_M_setPosition Y m1 (by rw [w1]; exact hN) (by rw [w1]; exact hmt) (by rw [w4]; exact hn6) (xsI xs (i + 1)) (xsI xs (i + 2)) (xsI xs (i + 3)) (xsI xs (i + 4)) (xsI_range xs (i + 1)) (xsI_range xs (i + 2)) (xsI_range xs (i + 3)) (xsI_range xs (i + 4))) u_X13_setPosition mw_1217 dL_law_392 rfl rfl ⟨Nat.le_of_ble_eq_true rfl, Nat.le_of_ble_eq_true rfl⟩ ⟨by show _ ≤ (668115 : Nat); dsimp only; omega, by show _ ≤ (7091759 : Nat); dsimp only; omega⟩ (Nat.le_of_ble_eq_true rfl) (fun v2 I2 A2 h2 => ?_)
  rw [w1] at h2
  obtain ⟨r1, r2⟩ := mOpP.res o5 hne.1 hne.2.1 h2 w1 w2 w3 w4 w5
  subst r2
  obtain ⟨hL2, hout, h206⟩ := lInv.fin hL h1 r1 (fun hc => hO.op hN hn6 (lk_setPosition hN hz hmt hc).2.1 (lk_setPosition hN hz hmt hc).2.2)
  exact g_locs (by exact ⟨rfl, rfl, rfl, rfl, rfl, rfl, trivial⟩) (lt_int (pc := 395) dL_law_395 dL_law_397 dL_law_398 dL_law_401 dL_law_403 dL_law_408 dL_law_410 dL_law_413 dL_law_414 dL_law_415 dL_law_416 dL_law_418 dL_law_419 dL_law_420 dL_law_425 (by decide) ⟨((cd2r _ _)).1, Int.le_trans ((cd2r _ _)).2 (by decide)⟩ hL2 hout h206 (by dsimp only; omega) (by omega) (by dsimp only; omega) (by omega) (kk _ _ _ _ _ _ hL2))
set_option maxHeartbeats 4000000 in
set_option maxRecDepth 100000 in
theorem lc_3 {Y : gEnv} {X : gCtx} {b : Nat} {i : Int} {x s h hq sc sg ar xm w sv tx ag out : Nat} {k n : Nat} {Ln : Nat} {xs : Nat → Int32} {K N : Nat → Nat} {I : Nat → Nat → Int} {A : Nat → Int → Int} {R : Nat → Nat → Option Nat} {Q : Nat → Int → Option Nat} (hsc : lScr X Y b Ln xs) (hi : 0 ≤ i ∧ i + 6 ≤ Ln) (hL : lInv x s h hq sc sg ar xm w sv tx ag out K N I A R Q) (hk : k + 400 ≤ 668115) (hn : n + 2000 ≤ 7091759) (kk : ∀ (K' N' : Nat → Nat) (I' : Nat → Nat → Int) (A' : Nat → Int → Int) (R' : Nat → Nat → Option Nat) (Q' : Nat → Int → Option Nat), lInv x s h hq sc sg ar xm w sv tx ag out K' N' I' A' R' Q' → gJ Y X yL_law cL_law 8 (some .boolean) room_1 lPo gno (k + 400) (n + 2000) 2133 [(4, vi i), (0, .ref b), (1, .ref x), (2, .ref xm), (3, .ref out)] [] K' N' I' A' R' Q') : gJ Y X yL_law cL_law 8 (some .boolean) room_1 lPo gno k n 428 [(4, vi i), (0, .ref b), (1, .ref x), (2, .ref xm), (3, .ref out)] [] K N I A R Q := by
  obtain ⟨⟨G, hI⟩, hM, ⟨o1, o2, o3, o4, o5⟩, hO⟩ := id hL
  obtain ⟨hz, hmt, hhs, hTr, hlen⟩ := id hO
  obtain ⟨hN, hn6⟩ := hI.hN
  have hne := hM.ne
  refine g_aload_n dL_law_428 rfl rfl ?_
  refine g_aload_n dL_law_429 rfl rfl ?_
  refine g_iload dL_law_430 rfl ?_
  refine g_iconst dL_law_432 ?_
  refine g_iadd dL_law_433 ?_
  refine g_sld hsc (by omega) dL_law_434 ?_
  refine g_aload_n dL_law_435 rfl rfl ?_
  refine g_callH (k_L_setSharpness Y hI ⟨Or.inr (Or.inr (Or.inr (Or.inr (Or.inr rfl)))), o1, o2⟩ (xsI xs (i + 1)) (cd1r _) (k_A_setSharpness Y hI (xsI xs (i + 1)) (xsI_range xs (i + 1)) (fun hc => (lk_setSharpness hN hz hmt hc).1))) u_L_setSharpness mw_640 dL_law_436 rfl rfl ⟨Nat.le_of_ble_eq_true rfl, Nat.le_of_ble_eq_true rfl⟩ ⟨by show _ ≤ (668115 : Nat); dsimp only; omega, by show _ ≤ (7091759 : Nat); dsimp only; omega⟩ (Nat.le_of_ble_eq_true rfl) (fun v1 K1 N1 I1 A1 R1 Q1 h1 => ?_)
  have e1 := h1.1
  subst e1
  obtain ⟨m1, w1, w2, w3, w4, w5⟩ := lInv.mid hL h1
  refine g_istore dL_law_439 (by decide) ?_
  refine g_aload_n dL_law_441 rfl rfl ?_
  refine g_aload_n dL_law_442 rfl rfl ?_
  refine g_iload dL_law_443 rfl ?_
  refine g_iconst dL_law_445 ?_
  refine g_iadd dL_law_446 ?_
  refine g_sld hsc (by omega) dL_law_447 ?_
  refine g_callVw (i := 10) rfl (gK0 m1.1) (g_at10 m1.1) (k_M_setSharpness Y m1 (by rw [w1]; exact hN) (by rw [w1]; exact hmt) (by rw [w4]; exact hn6) (xsI xs (i + 1)) (xsI_range xs (i + 1))) u_X13_setSharpness mw_1231 dL_law_448 rfl rfl ⟨Nat.le_of_ble_eq_true rfl, Nat.le_of_ble_eq_true rfl⟩ ⟨by show _ ≤ (668115 : Nat); dsimp only; omega, by show _ ≤ (7091759 : Nat); dsimp only; omega⟩ (Nat.le_of_ble_eq_true rfl) (fun v2 I2 A2 h2 => ?_)
  rw [w1] at h2
  obtain ⟨r1, r2⟩ := mOpP.res o5 hne.1 hne.2.1 h2 w1 w2 w3 w4 w5
  subst r2
  obtain ⟨hL2, hout, h206⟩ := lInv.fin hL h1 r1 (fun hc => hO.op hN hn6 (lk_setSharpness hN hz hmt hc).2.1 (lk_setSharpness hN hz hmt hc).2.2)
  exact g_locs (by exact ⟨rfl, rfl, rfl, rfl, rfl, rfl, trivial⟩) (lt_int (pc := 451) dL_law_451 dL_law_453 dL_law_454 dL_law_457 dL_law_459 dL_law_464 dL_law_466 dL_law_469 dL_law_470 dL_law_471 dL_law_472 dL_law_474 dL_law_475 dL_law_476 dL_law_481 (by decide) ⟨((cd1r _)).1, Int.le_trans ((cd1r _)).2 (by decide)⟩ hL2 hout h206 (by dsimp only; omega) (by omega) (by dsimp only; omega) (by omega) (kk _ _ _ _ _ _ hL2))
set_option maxHeartbeats 4000000 in
set_option maxRecDepth 100000 in
theorem lc_4 {Y : gEnv} {X : gCtx} {b : Nat} {i : Int} {x s h hq sc sg ar xm w sv tx ag out : Nat} {k n : Nat} {Ln : Nat} {xs : Nat → Int32} {K N : Nat → Nat} {I : Nat → Nat → Int} {A : Nat → Int → Int} {R : Nat → Nat → Option Nat} {Q : Nat → Int → Option Nat} (hsc : lScr X Y b Ln xs) (hi : 0 ≤ i ∧ i + 6 ≤ Ln) (hL : lInv x s h hq sc sg ar xm w sv tx ag out K N I A R Q) (hk : k + 400 ≤ 668115) (hn : n + 2000 ≤ 7091759) (kk : ∀ (K' N' : Nat → Nat) (I' : Nat → Nat → Int) (A' : Nat → Int → Int) (R' : Nat → Nat → Option Nat) (Q' : Nat → Int → Option Nat), lInv x s h hq sc sg ar xm w sv tx ag out K' N' I' A' R' Q' → gJ Y X yL_law cL_law 8 (some .boolean) room_1 lPo gno (k + 400) (n + 2000) 2133 [(4, vi i), (0, .ref b), (1, .ref x), (2, .ref xm), (3, .ref out)] [] K' N' I' A' R' Q') : gJ Y X yL_law cL_law 8 (some .boolean) room_1 lPo gno k n 484 [(4, vi i), (0, .ref b), (1, .ref x), (2, .ref xm), (3, .ref out)] [] K N I A R Q := by
  obtain ⟨⟨G, hI⟩, hM, ⟨o1, o2, o3, o4, o5⟩, hO⟩ := id hL
  obtain ⟨hz, hmt, hhs, hTr, hlen⟩ := id hO
  obtain ⟨hN, hn6⟩ := hI.hN
  have hne := hM.ne
  refine g_aload_n dL_law_484 rfl rfl ?_
  refine g_aload_n dL_law_485 rfl rfl ?_
  refine g_iload dL_law_486 rfl ?_
  refine g_iconst dL_law_488 ?_
  refine g_iadd dL_law_489 ?_
  refine g_sld hsc (by omega) dL_law_490 ?_
  refine g_aload_n dL_law_491 rfl rfl ?_
  refine g_callH (k_L_setBoxSize Y hI ⟨Or.inr (Or.inr (Or.inr (Or.inr (Or.inr rfl)))), o1, o2⟩ (xsI xs (i + 1)) (cd2p _ _) (k_A_setBoxSize Y hI (xsI xs (i + 1)) (xsI_range xs (i + 1)) (fun hc => (lk_setBoxSize hN hz hmt hc).1))) u_L_setBoxSize mw_647 dL_law_492 rfl rfl ⟨Nat.le_of_ble_eq_true rfl, Nat.le_of_ble_eq_true rfl⟩ ⟨by show _ ≤ (668115 : Nat); dsimp only; omega, by show _ ≤ (7091759 : Nat); dsimp only; omega⟩ (Nat.le_of_ble_eq_true rfl) (fun v1 K1 N1 I1 A1 R1 Q1 h1 => ?_)
  have e1 := h1.1
  subst e1
  obtain ⟨m1, w1, w2, w3, w4, w5⟩ := lInv.mid hL h1
  refine g_istore dL_law_495 (by decide) ?_
  refine g_aload_n dL_law_497 rfl rfl ?_
  refine g_aload_n dL_law_498 rfl rfl ?_
  refine g_iload dL_law_499 rfl ?_
  refine g_iconst dL_law_501 ?_
  refine g_iadd dL_law_502 ?_
  refine g_sld hsc (by omega) dL_law_503 ?_
  refine g_callVw (i := 10) rfl (gK0 m1.1) (g_at10 m1.1) (k_M_setBoxSize Y m1 (by rw [w1]; exact hN) (by rw [w1]; exact hmt) (by rw [w4]; exact hn6) (xsI xs (i + 1)) (xsI_range xs (i + 1))) u_X13_setBoxSize mw_1235 dL_law_504 rfl rfl ⟨Nat.le_of_ble_eq_true rfl, Nat.le_of_ble_eq_true rfl⟩ ⟨by show _ ≤ (668115 : Nat); dsimp only; omega, by show _ ≤ (7091759 : Nat); dsimp only; omega⟩ (Nat.le_of_ble_eq_true rfl) (fun v2 I2 A2 h2 => ?_)
  rw [w1] at h2
  obtain ⟨r1, r2⟩ := mOpP.res o5 hne.1 hne.2.1 h2 w1 w2 w3 w4 w5
  subst r2
  obtain ⟨hL2, hout, h206⟩ := lInv.fin hL h1 r1 (fun hc => hO.op hN hn6 (lk_setBoxSize hN hz hmt hc).2.1 (lk_setBoxSize hN hz hmt hc).2.2)
  exact g_locs (by exact ⟨rfl, rfl, rfl, rfl, rfl, rfl, trivial⟩) (lt_int (pc := 507) dL_law_507 dL_law_509 dL_law_510 dL_law_513 dL_law_515 dL_law_520 dL_law_522 dL_law_525 dL_law_526 dL_law_527 dL_law_528 dL_law_530 dL_law_531 dL_law_532 dL_law_537 (by decide) ⟨((cd2p _ _)).1, Int.le_trans ((cd2p _ _)).2 (by decide)⟩ hL2 hout h206 (by dsimp only; omega) (by omega) (by dsimp only; omega) (by omega) (kk _ _ _ _ _ _ hL2))
set_option maxHeartbeats 4000000 in
set_option maxRecDepth 100000 in
theorem lc_5 {Y : gEnv} {X : gCtx} {b : Nat} {i : Int} {x s h hq sc sg ar xm w sv tx ag out : Nat} {k n : Nat} {Ln : Nat} {xs : Nat → Int32} {K N : Nat → Nat} {I : Nat → Nat → Int} {A : Nat → Int → Int} {R : Nat → Nat → Option Nat} {Q : Nat → Int → Option Nat} (hsc : lScr X Y b Ln xs) (hi : 0 ≤ i ∧ i + 6 ≤ Ln) (hL : lInv x s h hq sc sg ar xm w sv tx ag out K N I A R Q) (hk : k + 400 ≤ 668115) (hn : n + 2000 ≤ 7091759) (kk : ∀ (K' N' : Nat → Nat) (I' : Nat → Nat → Int) (A' : Nat → Int → Int) (R' : Nat → Nat → Option Nat) (Q' : Nat → Int → Option Nat), lInv x s h hq sc sg ar xm w sv tx ag out K' N' I' A' R' Q' → gJ Y X yL_law cL_law 8 (some .boolean) room_1 lPo gno (k + 400) (n + 2000) 2133 [(4, vi i), (0, .ref b), (1, .ref x), (2, .ref xm), (3, .ref out)] [] K' N' I' A' R' Q') : gJ Y X yL_law cL_law 8 (some .boolean) room_1 lPo gno k n 540 [(4, vi i), (0, .ref b), (1, .ref x), (2, .ref xm), (3, .ref out)] [] K N I A R Q := by
  obtain ⟨⟨G, hI⟩, hM, ⟨o1, o2, o3, o4, o5⟩, hO⟩ := id hL
  obtain ⟨hz, hmt, hhs, hTr, hlen⟩ := id hO
  obtain ⟨hN, hn6⟩ := hI.hN
  have hne := hM.ne
  refine g_aload_n dL_law_540 rfl rfl ?_
  refine g_aload_n dL_law_541 rfl rfl ?_
  refine g_iload dL_law_542 rfl ?_
  refine g_iconst dL_law_544 ?_
  refine g_iadd dL_law_545 ?_
  refine g_sld hsc (by omega) dL_law_546 ?_
  refine g_aload_n dL_law_547 rfl rfl ?_
  refine g_iload dL_law_548 rfl ?_
  refine g_iconst dL_law_550 ?_
  refine g_iadd dL_law_551 ?_
  refine g_sld hsc (by omega) dL_law_552 ?_
  refine g_aload_n dL_law_553 rfl rfl ?_
  refine g_iload dL_law_554 rfl ?_
  refine g_iconst dL_law_556 ?_
  refine g_iadd dL_law_557 ?_
  refine g_sld hsc (by omega) dL_law_558 ?_
  refine g_aload_n dL_law_559 rfl rfl ?_
  refine g_iload dL_law_560 rfl ?_
  refine g_iconst dL_law_562 ?_
  refine g_iadd dL_law_563 ?_
  refine g_sld hsc (by omega) dL_law_564 ?_
  refine g_aload_n dL_law_565 rfl rfl ?_
  refine g_callH (k_L_fire Y hI ⟨Or.inr (Or.inr (Or.inr (Or.inr (Or.inr rfl)))), o1, o2⟩ (xsI xs (i + 1)) (xsI xs (i + 2)) (xsI xs (i + 3)) (xsI xs (i + 4)) (rg_fire _ _ _ _ _) (k_A_fire Y hI (xsI xs (i + 1)) (xsI_range xs (i + 1)) (xsI xs (i + 2)) (xsI_range xs (i + 2)) (xsI xs (i + 3)) (xsI_range xs (i + 3)) (xsI xs (i + 4)) (xsI_range xs (i + 4)) (fun hc => (lk_fire hN hz hmt hc).1))) u_L_fire mw_682 dL_law_566 rfl rfl ⟨Nat.le_of_ble_eq_true rfl, Nat.le_of_ble_eq_true rfl⟩ ⟨by show _ ≤ (668115 : Nat); dsimp only; omega, by show _ ≤ (7091759 : Nat); dsimp only; omega⟩ (Nat.le_of_ble_eq_true rfl) (fun v1 K1 N1 I1 A1 R1 Q1 h1 => ?_)
  have e1 := h1.1
  subst e1
  obtain ⟨m1, w1, w2, w3, w4, w5⟩ := lInv.mid hL h1
  refine g_istore dL_law_569 (by decide) ?_
  refine g_aload_n dL_law_571 rfl rfl ?_
  refine g_aload_n dL_law_572 rfl rfl ?_
  refine g_iload dL_law_573 rfl ?_
  refine g_iconst dL_law_575 ?_
  refine g_iadd dL_law_576 ?_
  refine g_sld hsc (by omega) dL_law_577 ?_
  refine g_aload_n dL_law_578 rfl rfl ?_
  refine g_iload dL_law_579 rfl ?_
  refine g_iconst dL_law_581 ?_
  refine g_iadd dL_law_582 ?_
  refine g_sld hsc (by omega) dL_law_583 ?_
  refine g_aload_n dL_law_584 rfl rfl ?_
  refine g_iload dL_law_585 rfl ?_
  refine g_iconst dL_law_587 ?_
  refine g_iadd dL_law_588 ?_
  refine g_sld hsc (by omega) dL_law_589 ?_
  refine g_aload_n dL_law_590 rfl rfl ?_
  refine g_iload dL_law_591 rfl ?_
  refine g_iconst dL_law_593 ?_
  refine g_iadd dL_law_594 ?_
  refine g_sld hsc (by omega) dL_law_595 ?_
  refine g_callVw (i := 10) rfl (gK0 m1.1) (g_at10 m1.1) (k_M_fire Y m1 (by rw [w1]; exact hN) (by rw [w1]; exact hmt) (by rw [w4]; exact hn6) (xsI xs (i + 1)) (xsI xs (i + 2)) (xsI xs (i + 3)) (xsI xs (i + 4)) (xsI_range xs (i + 1)) (xsI_range xs (i + 2)) (xsI_range xs (i + 3)) (xsI_range xs (i + 4))) u_X13_fire mw_1248 dL_law_596 rfl rfl ⟨Nat.le_of_ble_eq_true rfl, Nat.le_of_ble_eq_true rfl⟩ ⟨by show _ ≤ (668115 : Nat); dsimp only; omega, by show _ ≤ (7091759 : Nat); dsimp only; omega⟩ (Nat.le_of_ble_eq_true rfl) (fun v2 I2 A2 h2 => ?_)
  rw [w1] at h2
  obtain ⟨r1, r2⟩ := mOpP.res o5 hne.1 hne.2.1 h2 w1 w2 w3 w4 w5
  subst r2
  obtain ⟨hL2, hout, h206⟩ := lInv.fin hL h1 r1 (fun hc => hO.op hN hn6 (lk_fire hN hz hmt hc).2.1 (lk_fire hN hz hmt hc).2.2)
  exact g_locs (by exact ⟨rfl, rfl, rfl, rfl, rfl, rfl, trivial⟩) (lt_int (pc := 599) dL_law_599 dL_law_601 dL_law_602 dL_law_605 dL_law_607 dL_law_612 dL_law_614 dL_law_617 dL_law_618 dL_law_619 dL_law_620 dL_law_622 dL_law_623 dL_law_624 dL_law_629 (by decide) ⟨((rg_fire _ _ _ _ _)).1, Int.le_trans ((rg_fire _ _ _ _ _)).2 (by decide)⟩ hL2 hout h206 (by dsimp only; omega) (by omega) (by dsimp only; omega) (by omega) (kk _ _ _ _ _ _ hL2))
set_option maxHeartbeats 4000000 in
set_option maxRecDepth 100000 in
theorem lc_6 {Y : gEnv} {X : gCtx} {b : Nat} {i : Int} {x s h hq sc sg ar xm w sv tx ag out : Nat} {k n : Nat} {Ln : Nat} {xs : Nat → Int32} {K N : Nat → Nat} {I : Nat → Nat → Int} {A : Nat → Int → Int} {R : Nat → Nat → Option Nat} {Q : Nat → Int → Option Nat} (hsc : lScr X Y b Ln xs) (hi : 0 ≤ i ∧ i + 6 ≤ Ln) (hL : lInv x s h hq sc sg ar xm w sv tx ag out K N I A R Q) (hk : k + 400 ≤ 668115) (hn : n + 2000 ≤ 7091759) (kk : ∀ (K' N' : Nat → Nat) (I' : Nat → Nat → Int) (A' : Nat → Int → Int) (R' : Nat → Nat → Option Nat) (Q' : Nat → Int → Option Nat), lInv x s h hq sc sg ar xm w sv tx ag out K' N' I' A' R' Q' → gJ Y X yL_law cL_law 8 (some .boolean) room_1 lPo gno (k + 400) (n + 2000) 2133 [(4, vi i), (0, .ref b), (1, .ref x), (2, .ref xm), (3, .ref out)] [] K' N' I' A' R' Q') : gJ Y X yL_law cL_law 8 (some .boolean) room_1 lPo gno k n 632 [(4, vi i), (0, .ref b), (1, .ref x), (2, .ref xm), (3, .ref out)] [] K N I A R Q := by
  obtain ⟨⟨G, hI⟩, hM, ⟨o1, o2, o3, o4, o5⟩, hO⟩ := id hL
  obtain ⟨hz, hmt, hhs, hTr, hlen⟩ := id hO
  obtain ⟨hN, hn6⟩ := hI.hN
  have hne := hM.ne
  refine g_aload_n dL_law_632 rfl rfl ?_
  refine g_aload_n dL_law_633 rfl rfl ?_
  refine g_iload dL_law_634 rfl ?_
  refine g_iconst dL_law_636 ?_
  refine g_iadd dL_law_637 ?_
  refine g_sld hsc (by omega) dL_law_638 ?_
  refine g_aload_n dL_law_639 rfl rfl ?_
  refine g_callH (k_L_grade Y hI ⟨Or.inr (Or.inr (Or.inr (Or.inr (Or.inr rfl)))), o1, o2⟩ (xsI xs (i + 1)) (rg_grade _ _) (k_A_grade Y hI (xsI xs (i + 1)) (xsI_range xs (i + 1)) hz (fun hc => (lk_grade hN hz hmt).1))) u_L_grade mw_763 dL_law_640 rfl rfl ⟨Nat.le_of_ble_eq_true rfl, Nat.le_of_ble_eq_true rfl⟩ ⟨by show _ ≤ (668115 : Nat); dsimp only; omega, by show _ ≤ (7091759 : Nat); dsimp only; omega⟩ (Nat.le_of_ble_eq_true rfl) (fun v1 K1 N1 I1 A1 R1 Q1 h1 => ?_)
  have e1 := h1.1
  subst e1
  obtain ⟨m1, w1, w2, w3, w4, w5⟩ := lInv.mid hL h1
  refine g_istore dL_law_643 (by decide) ?_
  refine g_aload_n dL_law_645 rfl rfl ?_
  refine g_aload_n dL_law_646 rfl rfl ?_
  refine g_iload dL_law_647 rfl ?_
  refine g_iconst dL_law_649 ?_
  refine g_iadd dL_law_650 ?_
  refine g_sld hsc (by omega) dL_law_651 ?_
  refine g_callVw (i := 10) rfl (gK0 m1.1) (g_at10 m1.1) (k_M_grade Y m1 (by rw [w1]; exact hN) (by rw [w1]; exact hmt) (by rw [w4]; exact hn6) (by rw [w1]; exact hz) (xsI xs (i + 1)) (xsI_range xs (i + 1))) u_X13_grade mw_1279 dL_law_652 rfl rfl ⟨Nat.le_of_ble_eq_true rfl, Nat.le_of_ble_eq_true rfl⟩ ⟨by show _ ≤ (668115 : Nat); dsimp only; omega, by show _ ≤ (7091759 : Nat); dsimp only; omega⟩ (Nat.le_of_ble_eq_true rfl) (fun v2 I2 A2 h2 => ?_)
  rw [w1] at h2
  obtain ⟨r1, r2⟩ := mOpP.res o5 hne.1 hne.2.1 h2 w1 w2 w3 w4 w5
  subst r2
  obtain ⟨hL2, hout, h206⟩ := lInv.fin hL h1 r1 (fun hc => hO.op hN hn6 (lk_grade hN hz hmt).2.1 (lk_grade hN hz hmt).2.2)
  exact g_locs (by exact ⟨rfl, rfl, rfl, rfl, rfl, rfl, trivial⟩) (lt_int (pc := 655) dL_law_655 dL_law_657 dL_law_658 dL_law_661 dL_law_663 dL_law_668 dL_law_670 dL_law_673 dL_law_674 dL_law_675 dL_law_676 dL_law_678 dL_law_679 dL_law_680 dL_law_685 (by decide) ⟨((rg_grade _ _)).1, Int.le_trans ((rg_grade _ _)).2 (by decide)⟩ hL2 hout h206 (by dsimp only; omega) (by omega) (by dsimp only; omega) (by omega) (kk _ _ _ _ _ _ hL2))
set_option maxHeartbeats 4000000 in
set_option maxRecDepth 100000 in
theorem lc_7 {Y : gEnv} {X : gCtx} {b : Nat} {i : Int} {x s h hq sc sg ar xm w sv tx ag out : Nat} {k n : Nat} {Ln : Nat} {xs : Nat → Int32} {K N : Nat → Nat} {I : Nat → Nat → Int} {A : Nat → Int → Int} {R : Nat → Nat → Option Nat} {Q : Nat → Int → Option Nat} (hsc : lScr X Y b Ln xs) (hi : 0 ≤ i ∧ i + 6 ≤ Ln) (hL : lInv x s h hq sc sg ar xm w sv tx ag out K N I A R Q) (hk : k + 400 ≤ 668115) (hn : n + 2000 ≤ 7091759) (kk : ∀ (K' N' : Nat → Nat) (I' : Nat → Nat → Int) (A' : Nat → Int → Int) (R' : Nat → Nat → Option Nat) (Q' : Nat → Int → Option Nat), lInv x s h hq sc sg ar xm w sv tx ag out K' N' I' A' R' Q' → gJ Y X yL_law cL_law 8 (some .boolean) room_1 lPo gno (k + 400) (n + 2000) 2133 [(4, vi i), (0, .ref b), (1, .ref x), (2, .ref xm), (3, .ref out)] [] K' N' I' A' R' Q') : gJ Y X yL_law cL_law 8 (some .boolean) room_1 lPo gno k n 688 [(4, vi i), (0, .ref b), (1, .ref x), (2, .ref xm), (3, .ref out)] [] K N I A R Q := by
  obtain ⟨⟨G, hI⟩, hM, ⟨o1, o2, o3, o4, o5⟩, hO⟩ := id hL
  obtain ⟨hz, hmt, hhs, hTr, hlen⟩ := id hO
  obtain ⟨hN, hn6⟩ := hI.hN
  have hne := hM.ne
  refine g_aload_n dL_law_688 rfl rfl ?_
  refine g_callV0 (i := 9) rfl (gK0 hI.1.1) (g_at9 hI.1.1) (k_A_pack Y hI) u_X12_pack mw_358 dL_law_689 rfl rfl ⟨Nat.le_of_ble_eq_true rfl, Nat.le_of_ble_eq_true rfl⟩ ⟨by show _ ≤ (668115 : Nat); dsimp only; omega, by show _ ≤ (7091759 : Nat); dsimp only; omega⟩ (Nat.le_of_ble_eq_true rfl) (fun E K9 N9 I9 A9 R9 Q9 hp => hp.1 rfl) (fun v1 K1 N1 I1 A1 R1 Q1 hp => ?_)
  have e1 := hp.2.1
  subst e1
  have h1 := lwP.of0 (G := G) (out := out) (W := A w) (n := I 204 xm) (SV := A sv) (T := A tx) (len := I 205 xm) (Or.inr (Or.inr (Or.inr (Or.inr (Or.inr rfl))))) hp
  obtain ⟨m1, w1, w2, w3, w4, w5⟩ := lInv.mid hL h1
  refine g_aload_n dL_law_692 rfl rfl ?_
  refine g_callVw (i := 10) rfl (gK0 m1.1) (g_at10 m1.1) (k_M_pack Y m1 (by rw [w1]; exact hN) (by rw [w1]; exact hmt) (by rw [w4]; exact hn6)) u_X13_pack mw_1304 dL_law_693 rfl rfl ⟨Nat.le_of_ble_eq_true rfl, Nat.le_of_ble_eq_true rfl⟩ ⟨by show _ ≤ (668115 : Nat); dsimp only; omega, by show _ ≤ (7091759 : Nat); dsimp only; omega⟩ (Nat.le_of_ble_eq_true rfl) (fun v2 I2 A2 h2 => ?_)
  rw [w1] at h2
  obtain ⟨r1, r2⟩ := mOpP.res o5 hne.1 hne.2.1 h2 w1 w2 w3 w4 w5
  subst r2
  rw [if_pos rfl]
  obtain ⟨hL2, hout, h206⟩ := lInv.fin hL h1 r1 (fun _ => hO.op hN hn6 (lk_pack hN hz hmt).2.1 (lk_pack hN hz hmt).2.2)
  refine g_icmp_eqr (tgt := 2133) dL_law_696 (by decide) ?_
  exact g_widen (by dsimp only; omega) (by dsimp only; omega) (kk _ _ _ _ _ _ hL2)
