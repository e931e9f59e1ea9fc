set_option maxHeartbeats 4000000 in
set_option maxRecDepth 100000 in
theorem lc_16 {Y : gEnv} {X : gCtx} {b : Nat} {i : Int} {x s h hq sc sg ar xm w sv tx ag out : Nat} {k n : Nat} {Ln : Nat} {xs : Nat → Int32} {K N : Nat → Nat} {I : Nat → Nat → Int} {A : Nat → Int → Int} {R : Nat → Nat → Option Nat} {Q : Nat → Int → Option Nat} (hsc : lScr X Y b Ln xs) (hi : 0 ≤ i ∧ i + 6 ≤ Ln) (hL : lInv x s h hq sc sg ar xm w sv tx ag out K N I A R Q) (hk : k + 400 ≤ 668115) (hn : n + 2000 ≤ 7091759) (kk : ∀ (K' N' : Nat → Nat) (I' : Nat → Nat → Int) (A' : Nat → Int → Int) (R' : Nat → Nat → Option Nat) (Q' : Nat → Int → Option Nat), lInv x s h hq sc sg ar xm w sv tx ag out K' N' I' A' R' Q' → gJ Y X yL_law cL_law 8 (some .boolean) room_1 lPo gno (k + 400) (n + 2000) 2133 [(4, vi i), (0, .ref b), (1, .ref x), (2, .ref xm), (3, .ref out)] [] K' N' I' A' R' Q') : gJ Y X yL_law cL_law 8 (some .boolean) room_1 lPo gno k n 1269 [(4, vi i), (0, .ref b), (1, .ref x), (2, .ref xm), (3, .ref out)] [] K N I A R Q := by
  obtain ⟨⟨G, hI⟩, hM, ⟨o1, o2, o3, o4, o5⟩, hO⟩ := id hL
  obtain ⟨hz, hmt, hhs, hTr, hlen⟩ := id hO
  obtain ⟨hN, hn6⟩ := hI.hN
  have hne := hM.ne
  refine g_aload_n dL_law_1269 rfl rfl ?_
  refine g_aload_n dL_law_1270 rfl rfl ?_
  refine g_iload dL_law_1271 rfl ?_
  refine g_iconst dL_law_1273 ?_
  refine g_iadd dL_law_1274 ?_
  refine g_sld hsc (by omega) dL_law_1275 ?_
  refine g_aload_n dL_law_1276 rfl rfl ?_
  refine g_iload dL_law_1277 rfl ?_
  refine g_iconst dL_law_1279 ?_
  refine g_iadd dL_law_1280 ?_
  refine g_sld hsc (by omega) dL_law_1281 ?_
  refine g_aload_n dL_law_1282 rfl rfl ?_
  refine g_callH (k_L_lot Y hI ⟨Or.inr (Or.inr (Or.inr (Or.inr (Or.inr rfl)))), o1, o2⟩ (xsI xs (i + 1)) (xsI xs (i + 2)) (cd2r _ _) (k_A_lot Y hI (xsI xs (i + 1)) (xsI_range xs (i + 1)) (xsI xs (i + 2)) (xsI_range xs (i + 2)))) u_L_lot mw_956 dL_law_1283 rfl rfl ⟨Nat.le_of_ble_eq_true rfl, Nat.le_of_ble_eq_true rfl⟩ ⟨by show _ ≤ (668115 : Nat); dsimp only; omega, by show _ ≤ (7091759 : Nat); dsimp only; omega⟩ (Nat.le_of_ble_eq_true rfl) (fun v1 K1 N1 I1 A1 R1 Q1 h1 => ?_)
  have e1 := h1.1
  subst e1
  obtain ⟨m1, w1, w2, w3, w4, w5⟩ := lInv.mid hL h1
  refine g_istore dL_law_1286 (by decide) ?_
  refine g_aload_n dL_law_1288 rfl rfl ?_
  refine g_aload_n dL_law_1289 rfl rfl ?_
  refine g_iload dL_law_1290 rfl ?_
  refine g_iconst dL_law_1292 ?_
  refine g_iadd dL_law_1293 ?_
  refine g_sld hsc (by omega) dL_law_1294 ?_
  refine g_aload_n dL_law_1295 rfl rfl ?_
  refine g_iload dL_law_1296 rfl ?_
  refine g_iconst dL_law_1298 ?_
  refine g_iadd dL_law_1299 ?_
  refine g_sld hsc (by omega) dL_law_1300 ?_
  refine g_callVw (i := 10) rfl (gK0 m1.1) (g_at10 m1.1) (k_M_lot Y m1 (by rw [w1]; exact hN) (by rw [w1]; exact hmt) (xsI xs (i + 1)) (xsI xs (i + 2)) (xsI_range xs (i + 1)) (xsI_range xs (i + 2))) u_X13_lot mw_1399 dL_law_1301 rfl rfl ⟨Nat.le_of_ble_eq_true rfl, Nat.le_of_ble_eq_true rfl⟩ ⟨by show _ ≤ (668115 : Nat); dsimp only; omega, by show _ ≤ (7091759 : Nat); dsimp only; omega⟩ (Nat.le_of_ble_eq_true rfl) (fun v2 I2 A2 h2 => ?_)
  rw [w1] at h2
  obtain ⟨r1, r2⟩ := mRdP.res h2 w1 w2 w3 w4 w5
  subst r2
  obtain ⟨hL2, hout, h206⟩ := lInv.fin hL h1 r1 (fun _ => hO)
  exact g_locs (by exact ⟨rfl, rfl, rfl, rfl, rfl, rfl, trivial⟩) (lt_int (pc := 1304) dL_law_1304 dL_law_1306 dL_law_1307 dL_law_1310 dL_law_1312 dL_law_1317 dL_law_1319 dL_law_1322 dL_law_1323 dL_law_1324 dL_law_1325 dL_law_1327 dL_law_1328 dL_law_1329 dL_law_1334 (by decide) ⟨((cd2r _ _)).1, Int.le_trans ((cd2r _ _)).2 (by decide)⟩ hL2 hout h206 (by dsimp only; omega) (by omega) (by dsimp only; omega) (by omega) (kk _ _ _ _ _ _ hL2))
set_option maxHeartbeats 4000000 in
set_option maxRecDepth 100000 in
theorem lc_17 {Y : gEnv} {X : gCtx} {b : Nat} {i : Int} {x s h hq sc sg ar xm w sv tx ag out : Nat} {k n : Nat} {Ln : Nat} {xs : Nat → Int32} {K N : Nat → Nat} {I : Nat → Nat → Int} {A : Nat → Int → Int} {R : Nat → Nat → Option Nat} {Q : Nat → Int → Option Nat} (hsc : lScr X Y b Ln xs) (hi : 0 ≤ i ∧ i + 6 ≤ Ln) (hL : lInv x s h hq sc sg ar xm w sv tx ag out K N I A R Q) (hk : k + 400 ≤ 668115) (hn : n + 2000 ≤ 7091759) (kk : ∀ (K' N' : Nat → Nat) (I' : Nat → Nat → Int) (A' : Nat → Int → Int) (R' : Nat → Nat → Option Nat) (Q' : Nat → Int → Option Nat), lInv x s h hq sc sg ar xm w sv tx ag out K' N' I' A' R' Q' → gJ Y X yL_law cL_law 8 (some .boolean) room_1 lPo gno (k + 400) (n + 2000) 2133 [(4, vi i), (0, .ref b), (1, .ref x), (2, .ref xm), (3, .ref out)] [] K' N' I' A' R' Q') : gJ Y X yL_law cL_law 8 (some .boolean) room_1 lPo gno k n 1337 [(4, vi i), (0, .ref b), (1, .ref x), (2, .ref xm), (3, .ref out)] [] K N I A R Q := by
  obtain ⟨⟨G, hI⟩, hM, ⟨o1, o2, o3, o4, o5⟩, hO⟩ := id hL
  obtain ⟨hz, hmt, hhs, hTr, hlen⟩ := id hO
  obtain ⟨hN, hn6⟩ := hI.hN
  have hne := hM.ne
  refine g_aload_n dL_law_1337 rfl rfl ?_
  refine g_aload_n dL_law_1338 rfl rfl ?_
  refine g_iload dL_law_1339 rfl ?_
  refine g_iconst dL_law_1341 ?_
  refine g_iadd dL_law_1342 ?_
  refine g_sld hsc (by omega) dL_law_1343 ?_
  refine g_aload_n dL_law_1344 rfl rfl ?_
  refine g_iload dL_law_1345 rfl ?_
  refine g_iconst dL_law_1347 ?_
  refine g_iadd dL_law_1348 ?_
  refine g_sld hsc (by omega) dL_law_1349 ?_
  refine g_aload_n dL_law_1350 rfl rfl ?_
  refine g_iload dL_law_1351 rfl ?_
  refine g_iconst dL_law_1353 ?_
  refine g_iadd dL_law_1354 ?_
  refine g_sld hsc (by omega) dL_law_1355 ?_
  refine g_aload_n dL_law_1356 rfl rfl ?_
  refine g_callH (k_L_findLot Y hI ⟨Or.inr (Or.inr (Or.inr (Or.inr (Or.inr rfl)))), o1, o2⟩ (xsI xs (i + 1)) (xsI xs (i + 2)) (xsI xs (i + 3)) (cd1r _) (k_A_findLot Y hI (xsI xs (i + 1)) (xsI_range xs (i + 1)) (xsI xs (i + 2)) (xsI_range xs (i + 2)) (xsI xs (i + 3)) (xsI_range xs (i + 3)))) u_L_findLot mw_968 dL_law_1357 rfl rfl ⟨Nat.le_of_ble_eq_true rfl, Nat.le_of_ble_eq_true rfl⟩ ⟨by show _ ≤ (668115 : Nat); dsimp only; omega, by show _ ≤ (7091759 : Nat); dsimp only; omega⟩ (Nat.le_of_ble_eq_true rfl) (fun v1 K1 N1 I1 A1 R1 Q1 h1 => ?_)
  have e1 := h1.1
  subst e1
  obtain ⟨m1, w1, w2, w3, w4, w5⟩ := lInv.mid hL h1
  refine g_istore dL_law_1360 (by decide) ?_
  refine g_aload_n dL_law_1362 rfl rfl ?_
  refine g_aload_n dL_law_1363 rfl rfl ?_
  refine g_iload dL_law_1364 rfl ?_
  refine g_iconst dL_law_1366 ?_
  refine g_iadd dL_law_1367 ?_
  refine g_sld hsc (by omega) dL_law_1368 ?_
  refine g_aload_n dL_law_1369 rfl rfl ?_
  refine g_iload dL_law_1370 rfl ?_
  refine g_iconst dL_law_1372 ?_
  refine g_iadd dL_law_1373 ?_
  refine g_sld hsc (by omega) dL_law_1374 ?_
  refine g_aload_n dL_law_1375 rfl rfl ?_
  refine g_iload dL_law_1376 rfl ?_
  refine g_iconst dL_law_1378 ?_
  refine g_iadd dL_law_1379 ?_
  refine g_sld hsc (by omega) dL_law_1380 ?_
  refine g_callVw (i := 10) rfl (gK0 m1.1) (g_at10 m1.1) (k_M_findLot Y m1 (by rw [w1]; exact hN) (by rw [w1]; exact hmt) (xsI xs (i + 1)) (xsI xs (i + 2)) (xsI xs (i + 3)) (xsI_range xs (i + 1)) (xsI_range xs (i + 2)) (xsI_range xs (i + 3))) u_X13_findLot mw_1404 dL_law_1381 rfl rfl ⟨Nat.le_of_ble_eq_true rfl, Nat.le_of_ble_eq_true rfl⟩ ⟨by show _ ≤ (668115 : Nat); dsimp only; omega, by show _ ≤ (7091759 : Nat); dsimp only; omega⟩ (Nat.le_of_ble_eq_true rfl) (fun v2 I2 A2 h2 => ?_)
  rw [w1] at h2
  obtain ⟨r1, r2⟩ := mRdP.res h2 w1 w2 w3 w4 w5
  subst r2
  obtain ⟨hL2, hout, h206⟩ := lInv.fin hL h1 r1 (fun _ => hO)
  exact g_locs (by exact ⟨rfl, rfl, rfl, rfl, rfl, rfl, trivial⟩) (lt_int (pc := 1384) dL_law_1384 dL_law_1386 dL_law_1387 dL_law_1390 dL_law_1392 dL_law_1397 dL_law_1399 dL_law_1402 dL_law_1403 dL_law_1404 dL_law_1405 dL_law_1407 dL_law_1408 dL_law_1409 dL_law_1414 (by decide) ⟨((cd1r _)).1, Int.le_trans ((cd1r _)).2 (by decide)⟩ hL2 hout h206 (by dsimp only; omega) (by omega) (by dsimp only; omega) (by omega) (kk _ _ _ _ _ _ hL2))
set_option maxHeartbeats 4000000 in
set_option maxRecDepth 100000 in
theorem lc_18 {Y : gEnv} {X : gCtx} {b : Nat} {i : Int} {x s h hq sc sg ar xm w sv tx ag out : Nat} {k n : Nat} {Ln : Nat} {xs : Nat → Int32} {K N : Nat → Nat} {I : Nat → Nat → Int} {A : Nat → Int → Int} {R : Nat → Nat → Option Nat} {Q : Nat → Int → Option Nat} (hsc : lScr X Y b Ln xs) (hi : 0 ≤ i ∧ i + 6 ≤ Ln) (hL : lInv x s h hq sc sg ar xm w sv tx ag out K N I A R Q) (hk : k + 400 ≤ 668115) (hn : n + 2000 ≤ 7091759) (kk : ∀ (K' N' : Nat → Nat) (I' : Nat → Nat → Int) (A' : Nat → Int → Int) (R' : Nat → Nat → Option Nat) (Q' : Nat → Int → Option Nat), lInv x s h hq sc sg ar xm w sv tx ag out K' N' I' A' R' Q' → gJ Y X yL_law cL_law 8 (some .boolean) room_1 lPo gno (k + 400) (n + 2000) 2133 [(4, vi i), (0, .ref b), (1, .ref x), (2, .ref xm), (3, .ref out)] [] K' N' I' A' R' Q') : gJ Y X yL_law cL_law 8 (some .boolean) room_1 lPo gno k n 1417 [(4, vi i), (0, .ref b), (1, .ref x), (2, .ref xm), (3, .ref out)] [] K N I A R Q := by
  obtain ⟨⟨G, hI⟩, hM, ⟨o1, o2, o3, o4, o5⟩, hO⟩ := id hL
  obtain ⟨hz, hmt, hhs, hTr, hlen⟩ := id hO
  obtain ⟨hN, hn6⟩ := hI.hN
  have hne := hM.ne
  refine g_aload_n dL_law_1417 rfl rfl ?_
  refine g_aload_n dL_law_1418 rfl rfl ?_
  refine g_iload dL_law_1419 rfl ?_
  refine g_iconst dL_law_1421 ?_
  refine g_iadd dL_law_1422 ?_
  refine g_sld hsc (by omega) dL_law_1423 ?_
  refine g_aload_n dL_law_1424 rfl rfl ?_
  refine g_iload dL_law_1425 rfl ?_
  refine g_iconst dL_law_1427 ?_
  refine g_iadd dL_law_1428 ?_
  refine g_sld hsc (by omega) dL_law_1429 ?_
  refine g_aload_n dL_law_1430 rfl rfl ?_
  refine g_callH (k_L_delivery Y hI ⟨Or.inr (Or.inr (Or.inr (Or.inr (Or.inr rfl)))), o1, o2⟩ (xsI xs (i + 1)) (xsI xs (i + 2)) (cd2r _ _) (k_A_delivery Y hI (xsI xs (i + 1)) (xsI_range xs (i + 1)) (xsI xs (i + 2)) (xsI_range xs (i + 2)))) u_L_delivery mw_980 dL_law_1431 rfl rfl ⟨Nat.le_of_ble_eq_true rfl, Nat.le_of_ble_eq_true rfl⟩ ⟨by show _ ≤ (668115 : Nat); dsimp only; omega, by show _ ≤ (7091759 : Nat); dsimp only; omega⟩ (Nat.le_of_ble_eq_true rfl) (fun v1 K1 N1 I1 A1 R1 Q1 h1 => ?_)
  have e1 := h1.1
  subst e1
  obtain ⟨m1, w1, w2, w3, w4, w5⟩ := lInv.mid hL h1
  refine g_istore dL_law_1434 (by decide) ?_
  refine g_aload_n dL_law_1436 rfl rfl ?_
  refine g_aload_n dL_law_1437 rfl rfl ?_
  refine g_iload dL_law_1438 rfl ?_
  refine g_iconst dL_law_1440 ?_
  refine g_iadd dL_law_1441 ?_
  refine g_sld hsc (by omega) dL_law_1442 ?_
  refine g_aload_n dL_law_1443 rfl rfl ?_
  refine g_iload dL_law_1444 rfl ?_
  refine g_iconst dL_law_1446 ?_
  refine g_iadd dL_law_1447 ?_
  refine g_sld hsc (by omega) dL_law_1448 ?_
  refine g_callVw (i := 10) rfl (gK0 m1.1) (g_at10 m1.1) (k_M_delivery Y m1 (by rw [w1]; exact hN) (by rw [w1]; exact hmt) (xsI xs (i + 1)) (xsI xs (i + 2)) (xsI_range xs (i + 1)) (xsI_range xs (i + 2))) u_X13_delivery mw_1408 dL_law_1449 rfl rfl ⟨Nat.le_of_ble_eq_true rfl, Nat.le_of_ble_eq_true rfl⟩ ⟨by show _ ≤ (668115 : Nat); dsimp only; omega, by show _ ≤ (7091759 : Nat); dsimp only; omega⟩ (Nat.le_of_ble_eq_true rfl) (fun v2 I2 A2 h2 => ?_)
  rw [w1] at h2
  obtain ⟨r1, r2⟩ := mRdL.res h2 w1 w2 w3 w4 w5
  subst r2
  obtain ⟨hL2, hout, h206⟩ := lInv.fin hL h1 r1 (fun _ => hO)
  exact g_locs (by exact ⟨rfl, rfl, rfl, rfl, rfl, rfl, trivial⟩) (lt_long (pc := 1452) dL_law_1452 dL_law_1454 dL_law_1455 dL_law_1458 dL_law_1460 dL_law_1465 dL_law_1467 dL_law_1470 dL_law_1471 dL_law_1472 dL_law_1473 dL_law_1475 dL_law_1476 dL_law_1481 (by decide) ⟨((cd2r _ _)).1, Int.le_trans ((cd2r _ _)).2 (by decide)⟩ hL2 hout h206 (by dsimp only; omega) (by omega) (by dsimp only; omega) (by omega) (kk _ _ _ _ _ _ hL2))
set_option maxHeartbeats 4000000 in
set_option maxRecDepth 100000 in
theorem lc_19 {Y : gEnv} {X : gCtx} {b : Nat} {i : Int} {x s h hq sc sg ar xm w sv tx ag out : Nat} {k n : Nat} {Ln : Nat} {xs : Nat → Int32} {K N : Nat → Nat} {I : Nat → Nat → Int} {A : Nat → Int → Int} {R : Nat → Nat → Option Nat} {Q : Nat → Int → Option Nat} (hsc : lScr X Y b Ln xs) (hi : 0 ≤ i ∧ i + 6 ≤ Ln) (hL : lInv x s h hq sc sg ar xm w sv tx ag out K N I A R Q) (hk : k + 400 ≤ 668115) (hn : n + 2000 ≤ 7091759) (kk : ∀ (K' N' : Nat → Nat) (I' : Nat → Nat → Int) (A' : Nat → Int → Int) (R' : Nat → Nat → Option Nat) (Q' : Nat → Int → Option Nat), lInv x s h hq sc sg ar xm w sv tx ag out K' N' I' A' R' Q' → gJ Y X yL_law cL_law 8 (some .boolean) room_1 lPo gno (k + 400) (n + 2000) 2133 [(4, vi i), (0, .ref b), (1, .ref x), (2, .ref xm), (3, .ref out)] [] K' N' I' A' R' Q') : gJ Y X yL_law cL_law 8 (some .boolean) room_1 lPo gno k n 1484 [(4, vi i), (0, .ref b), (1, .ref x), (2, .ref xm), (3, .ref out)] [] K N I A R Q := by
  obtain ⟨⟨G, hI⟩, hM, ⟨o1, o2, o3, o4, o5⟩, hO⟩ := id hL
  obtain ⟨hz, hmt, hhs, hTr, hlen⟩ := id hO
  obtain ⟨hN, hn6⟩ := hI.hN
  have hne := hM.ne
  refine g_aload_n dL_law_1484 rfl rfl ?_
  refine g_aload_n dL_law_1485 rfl rfl ?_
  refine g_iload dL_law_1486 rfl ?_
  refine g_iconst dL_law_1488 ?_
  refine g_iadd dL_law_1489 ?_
  refine g_sld hsc (by omega) dL_law_1490 ?_
  refine g_aload_n dL_law_1491 rfl rfl ?_
  refine g_iload dL_law_1492 rfl ?_
  refine g_iconst dL_law_1494 ?_
  refine g_iadd dL_law_1495 ?_
  refine g_sld hsc (by omega) dL_law_1496 ?_
  refine g_aload_n dL_law_1497 rfl rfl ?_
  refine g_callH (k_L_event Y hI ⟨Or.inr (Or.inr (Or.inr (Or.inr (Or.inr rfl)))), o1, o2⟩ (xsI xs (i + 1)) (xsI xs (i + 2)) (cd1r _) (k_A_event Y hI (xsI xs (i + 1)) (xsI_range xs (i + 1)) (xsI xs (i + 2)) (xsI_range xs (i + 2)))) u_L_event mw_992 dL_law_1498 rfl rfl ⟨Nat.le_of_ble_eq_true rfl, Nat.le_of_ble_eq_true rfl⟩ ⟨by show _ ≤ (668115 : Nat); dsimp only; omega, by show _ ≤ (7091759 : Nat); dsimp only; omega⟩ (Nat.le_of_ble_eq_true rfl) (fun v1 K1 N1 I1 A1 R1 Q1 h1 => ?_)
  have e1 := h1.1
  subst e1
  obtain ⟨m1, w1, w2, w3, w4, w5⟩ := lInv.mid hL h1
  refine g_istore dL_law_1501 (by decide) ?_
  refine g_aload_n dL_law_1503 rfl rfl ?_
  refine g_aload_n dL_law_1504 rfl rfl ?_
  refine g_iload dL_law_1505 rfl ?_
  refine g_iconst dL_law_1507 ?_
  refine g_iadd dL_law_1508 ?_
  refine g_sld hsc (by omega) dL_law_1509 ?_
  refine g_aload_n dL_law_1510 rfl rfl ?_
  refine g_iload dL_law_1511 rfl ?_
  refine g_iconst dL_law_1513 ?_
  refine g_iadd dL_law_1514 ?_
  refine g_sld hsc (by omega) dL_law_1515 ?_
  refine g_callVw (i := 10) rfl (gK0 m1.1) (g_at10 m1.1) (k_M_event Y m1 (by rw [w1]; exact hN) (by rw [w1]; exact hmt) (xsI xs (i + 1)) (xsI xs (i + 2)) (xsI_range xs (i + 1)) (xsI_range xs (i + 2))) u_X13_event mw_1413 dL_law_1516 rfl rfl ⟨Nat.le_of_ble_eq_true rfl, Nat.le_of_ble_eq_true rfl⟩ ⟨by show _ ≤ (668115 : Nat); dsimp only; omega, by show _ ≤ (7091759 : Nat); dsimp only; omega⟩ (Nat.le_of_ble_eq_true rfl) (fun v2 I2 A2 h2 => ?_)
  rw [w1] at h2
  obtain ⟨r1, r2⟩ := mRdP.res h2 w1 w2 w3 w4 w5
  subst r2
  obtain ⟨hL2, hout, h206⟩ := lInv.fin hL h1 r1 (fun _ => hO)
  exact g_locs (by exact ⟨rfl, rfl, rfl, rfl, rfl, rfl, trivial⟩) (lt_int (pc := 1519) dL_law_1519 dL_law_1521 dL_law_1522 dL_law_1525 dL_law_1527 dL_law_1532 dL_law_1534 dL_law_1537 dL_law_1538 dL_law_1539 dL_law_1540 dL_law_1542 dL_law_1543 dL_law_1544 dL_law_1549 (by decide) ⟨((cd1r _)).1, Int.le_trans ((cd1r _)).2 (by decide)⟩ hL2 hout h206 (by dsimp only; omega) (by omega) (by dsimp only; omega) (by omega) (kk _ _ _ _ _ _ hL2))
set_option maxHeartbeats 4000000 in
set_option maxRecDepth 100000 in
theorem lc_20 {Y : gEnv} {X : gCtx} {b : Nat} {i : Int} {x s h hq sc sg ar xm w sv tx ag out : Nat} {k n : Nat} {Ln : Nat} {xs : Nat → Int32} {K N : Nat → Nat} {I : Nat → Nat → Int} {A : Nat → Int → Int} {R : Nat → Nat → Option Nat} {Q : Nat → Int → Option Nat} (hsc : lScr X Y b Ln xs) (hi : 0 ≤ i ∧ i + 6 ≤ Ln) (hL : lInv x s h hq sc sg ar xm w sv tx ag out K N I A R Q) (hk : k + 400 ≤ 668115) (hn : n + 2000 ≤ 7091759) (kk : ∀ (K' N' : Nat → Nat) (I' : Nat → Nat → Int) (A' : Nat → Int → Int) (R' : Nat → Nat → Option Nat) (Q' : Nat → Int → Option Nat), lInv x s h hq sc sg ar xm w sv tx ag out K' N' I' A' R' Q' → gJ Y X yL_law cL_law 8 (some .boolean) room_1 lPo gno (k + 400) (n + 2000) 2133 [(4, vi i), (0, .ref b), (1, .ref x), (2, .ref xm), (3, .ref out)] [] K' N' I' A' R' Q') : gJ Y X yL_law cL_law 8 (some .boolean) room_1 lPo gno k n 1552 [(4, vi i), (0, .ref b), (1, .ref x), (2, .ref xm), (3, .ref out)] [] K N I A R Q := by
  obtain ⟨⟨G, hI⟩, hM, ⟨o1, o2, o3, o4, o5⟩, hO⟩ := id hL
  obtain ⟨hz, hmt, hhs, hTr, hlen⟩ := id hO
  obtain ⟨hN, hn6⟩ := hI.hN
  have hne := hM.ne
  refine g_aload_n dL_law_1552 rfl rfl ?_
  refine g_aload_n dL_law_1553 rfl rfl ?_
  refine g_iload dL_law_1554 rfl ?_
  refine g_iconst dL_law_1556 ?_
  refine g_iadd dL_law_1557 ?_
  refine g_sld hsc (by omega) dL_law_1558 ?_
  refine g_aload_n dL_law_1559 rfl rfl ?_
  refine g_callH (k_L_total Y hI ⟨Or.inr (Or.inr (Or.inr (Or.inr (Or.inr rfl)))), o1, o2⟩ (xsI xs (i + 1)) (cd1r _) (k_A_total Y hI (xsI xs (i + 1)) (xsI_range xs (i + 1)) hlen)) u_L_total mw_1011 dL_law_1560 rfl rfl ⟨Nat.le_of_ble_eq_true rfl, Nat.le_of_ble_eq_true rfl⟩ ⟨by show _ ≤ (668115 : Nat); dsimp only; omega, by show _ ≤ (7091759 : Nat); dsimp only; omega⟩ (Nat.le_of_ble_eq_true rfl) (fun v1 K1 N1 I1 A1 R1 Q1 h1 => ?_)
  have e1 := h1.1
  subst e1
  obtain ⟨m1, w1, w2, w3, w4, w5⟩ := lInv.mid hL h1
  refine g_istore dL_law_1563 (by decide) ?_
  refine g_aload_n dL_law_1565 rfl rfl ?_
  refine g_aload_n dL_law_1566 rfl rfl ?_
  refine g_iload dL_law_1567 rfl ?_
  refine g_iconst dL_law_1569 ?_
  refine g_iadd dL_law_1570 ?_
  refine g_sld hsc (by omega) dL_law_1571 ?_
  refine g_callVw (i := 10) rfl (gK0 m1.1) (g_at10 m1.1) (k_M_total Y m1 (by rw [w1]; exact hN) (by rw [w1]; exact hmt) (by rw [w4]; exact hn6) (by rw [w5]; exact hlen) (xsI xs (i + 1)) (xsI_range xs (i + 1))) u_X13_total mw_1417 dL_law_1572 rfl rfl ⟨Nat.le_of_ble_eq_true rfl, Nat.le_of_ble_eq_true rfl⟩ ⟨by show _ ≤ (668115 : Nat); dsimp only; omega, by show _ ≤ (7091759 : Nat); dsimp only; omega⟩ (Nat.le_of_ble_eq_true rfl) (fun v2 I2 A2 h2 => ?_)
  rw [w1, w4, w5] at h2
  obtain ⟨r1, r2⟩ := mRdL.res h2 w1 w2 w3 w4 w5
  subst r2
  obtain ⟨hL2, hout, h206⟩ := lInv.fin hL h1 r1 (fun _ => hO)
  exact g_locs (by exact ⟨rfl, rfl, rfl, rfl, rfl, rfl, trivial⟩) (lt_long (pc := 1575) dL_law_1575 dL_law_1577 dL_law_1578 dL_law_1581 dL_law_1583 dL_law_1588 dL_law_1590 dL_law_1593 dL_law_1594 dL_law_1595 dL_law_1596 dL_law_1598 dL_law_1599 dL_law_1604 (by decide) ⟨((cd1r _)).1, Int.le_trans ((cd1r _)).2 (by decide)⟩ hL2 hout h206 (by dsimp only; omega) (by omega) (by dsimp only; omega) (by omega) (kk _ _ _ _ _ _ hL2))
set_option maxHeartbeats 4000000 in
set_option maxRecDepth 100000 in
theorem lc_21 {Y : gEnv} {X : gCtx} {b : Nat} {i : Int} {x s h hq sc sg ar xm w sv tx ag out : Nat} {k n : Nat} {Ln : Nat} {xs : Nat → Int32} {K N : Nat → Nat} {I : Nat → Nat → Int} {A : Nat → Int → Int} {R : Nat → Nat → Option Nat} {Q : Nat → Int → Option Nat} (hsc : lScr X Y b Ln xs) (hi : 0 ≤ i ∧ i + 6 ≤ Ln) (hL : lInv x s h hq sc sg ar xm w sv tx ag out K N I A R Q) (hk : k + 400 ≤ 668115) (hn : n + 2000 ≤ 7091759) (kk : ∀ (K' N' : Nat → Nat) (I' : Nat → Nat → Int) (A' : Nat → Int → Int) (R' : Nat → Nat → Option Nat) (Q' : Nat → Int → Option Nat), lInv x s h hq sc sg ar xm w sv tx ag out K' N' I' A' R' Q' → gJ Y X yL_law cL_law 8 (some .boolean) room_1 lPo gno (k + 400) (n + 2000) 2133 [(4, vi i), (0, .ref b), (1, .ref x), (2, .ref xm), (3, .ref out)] [] K' N' I' A' R' Q') : gJ Y X yL_law cL_law 8 (some .boolean) room_1 lPo gno k n 1607 [(4, vi i), (0, .ref b), (1, .ref x), (2, .ref xm), (3, .ref out)] [] K N I A R Q := by
  obtain ⟨⟨G, hI⟩, hM, ⟨o1, o2, o3, o4, o5⟩, hO⟩ := id hL
  obtain ⟨hz, hmt, hhs, hTr, hlen⟩ := id hO
  obtain ⟨hN, hn6⟩ := hI.hN
  have hne := hM.ne
  refine g_aload_n dL_law_1607 rfl rfl ?_
  refine g_aload_n dL_law_1608 rfl rfl ?_
  refine g_iload dL_law_1609 rfl ?_
  refine g_iconst dL_law_1611 ?_
  refine g_iadd dL_law_1612 ?_
  refine g_sld hsc (by omega) dL_law_1613 ?_
  refine g_aload_n dL_law_1614 rfl rfl ?_
  refine g_iload dL_law_1615 rfl ?_
  refine g_iconst dL_law_1617 ?_
  refine g_iadd dL_law_1618 ?_
  refine g_sld hsc (by omega) dL_law_1619 ?_
  refine g_aload_n dL_law_1620 rfl rfl ?_
  refine g_iload dL_law_1621 rfl ?_
  refine g_iconst dL_law_1623 ?_
  refine g_iadd dL_law_1624 ?_
  refine g_sld hsc (by omega) dL_law_1625 ?_
  refine g_aload_n dL_law_1626 rfl rfl ?_
  refine g_iload dL_law_1627 rfl ?_
  refine g_iconst dL_law_1629 ?_
  refine g_iadd dL_law_1630 ?_
  refine g_sld hsc (by omega) dL_law_1631 ?_
  refine g_aload_n dL_law_1632 rfl rfl ?_
  refine g_callH (k_L_shadeAt Y hI ⟨Or.inr (Or.inr (Or.inr (Or.inr (Or.inr rfl)))), o1, o2⟩ (xsI xs (i + 1)) (xsI xs (i + 2)) (xsI xs (i + 3)) (xsI xs (i + 4)) (cd2r _ _) (k_A_shadeAt Y hI (xsI xs (i + 1)) (xsI_range xs (i + 1)) (xsI xs (i + 2)) (xsI_range xs (i + 2)) (xsI xs (i + 3)) (xsI_range xs (i + 3)) (xsI xs (i + 4)) (xsI_range xs (i + 4)))) u_L_shadeAt mw_1041 dL_law_1633 rfl rfl ⟨Nat.le_of_ble_eq_true rfl, Nat.le_of_ble_eq_true rfl⟩ ⟨by show _ ≤ (668115 : Nat); dsimp only; omega, by show _ ≤ (7091759 : Nat); dsimp only; omega⟩ (Nat.le_of_ble_eq_true rfl) (fun v1 K1 N1 I1 A1 R1 Q1 h1 => ?_)
  have e1 := h1.1
  subst e1
  obtain ⟨m1, w1, w2, w3, w4, w5⟩ := lInv.mid hL h1
  refine g_istore dL_law_1636 (by decide) ?_
  refine g_aload_n dL_law_1638 rfl rfl ?_
  refine g_aload_n dL_law_1639 rfl rfl ?_
  refine g_iload dL_law_1640 rfl ?_
  refine g_iconst dL_law_1642 ?_
  refine g_iadd dL_law_1643 ?_
  refine g_sld hsc (by omega) dL_law_1644 ?_
  refine g_aload_n dL_law_1645 rfl rfl ?_
  refine g_iload dL_law_1646 rfl ?_
  refine g_iconst dL_law_1648 ?_
  refine g_iadd dL_law_1649 ?_
  refine g_sld hsc (by omega) dL_law_1650 ?_
  refine g_aload_n dL_law_1651 rfl rfl ?_
  refine g_iload dL_law_1652 rfl ?_
  refine g_iconst dL_law_1654 ?_
  refine g_iadd dL_law_1655 ?_
  refine g_sld hsc (by omega) dL_law_1656 ?_
  refine g_aload_n dL_law_1657 rfl rfl ?_
  refine g_iload dL_law_1658 rfl ?_
  refine g_iconst dL_law_1660 ?_
  refine g_iadd dL_law_1661 ?_
  refine g_sld hsc (by omega) dL_law_1662 ?_
  refine g_callVw (i := 10) rfl (gK0 m1.1) (g_at10 m1.1) (k_M_shadeAt Y m1 (by rw [w1]; exact hN) (by rw [w1]; exact hmt) (xsI xs (i + 1)) (xsI xs (i + 2)) (xsI xs (i + 3)) (xsI xs (i + 4)) (xsI_range xs (i + 1)) (xsI_range xs (i + 2)) (xsI_range xs (i + 3)) (xsI_range xs (i + 4))) u_X13_shadeAt mw_1433 dL_law_1663 rfl rfl ⟨Nat.le_of_ble_eq_true rfl, Nat.le_of_ble_eq_true rfl⟩ ⟨by show _ ≤ (668115 : Nat); dsimp only; omega, by show _ ≤ (7091759 : Nat); dsimp only; omega⟩ (Nat.le_of_ble_eq_true rfl) (fun v2 I2 A2 h2 => ?_)
  rw [w1] at h2
  obtain ⟨r1, r2⟩ := mRdP.res h2 w1 w2 w3 w4 w5
  subst r2
  obtain ⟨hL2, hout, h206⟩ := lInv.fin hL h1 r1 (fun _ => hO)
  exact g_locs (by exact ⟨rfl, rfl, rfl, rfl, rfl, rfl, trivial⟩) (lt_int (pc := 1666) dL_law_1666 dL_law_1668 dL_law_1669 dL_law_1672 dL_law_1674 dL_law_1679 dL_law_1681 dL_law_1684 dL_law_1685 dL_law_1686 dL_law_1687 dL_law_1689 dL_law_1690 dL_law_1691 dL_law_1696 (by decide) ⟨((cd2r _ _)).1, Int.le_trans ((cd2r _ _)).2 (by decide)⟩ hL2 hout h206 (by dsimp only; omega) (by omega) (by dsimp only; omega) (by omega) (kk _ _ _ _ _ _ hL2))
set_option maxHeartbeats 4000000 in
set_option maxRecDepth 100000 in
theorem lc_22 {Y : gEnv} {X : gCtx} {b : Nat} {i : Int} {x s h hq sc sg ar xm w sv tx ag out : Nat} {k n : Nat} {Ln : Nat} {xs : Nat → Int32} {K N : Nat → Nat} {I : Nat → Nat → Int} {A : Nat → Int → Int} {R : Nat → Nat → Option Nat} {Q : Nat → Int → Option Nat} (hsc : lScr X Y b Ln xs) (hi : 0 ≤ i ∧ i + 6 ≤ Ln) (hL : lInv x s h hq sc sg ar xm w sv tx ag out K N I A R Q) (hk : k + 400 ≤ 668115) (hn : n + 2000 ≤ 7091759) (kk : ∀ (K' N' : Nat → Nat) (I' : Nat → Nat → Int) (A' : Nat → Int → Int) (R' : Nat → Nat → Option Nat) (Q' : Nat → Int → Option Nat), lInv x s h hq sc sg ar xm w sv tx ag out K' N' I' A' R' Q' → gJ Y X yL_law cL_law 8 (some .boolean) room_1 lPo gno (k + 400) (n + 2000) 2133 [(4, vi i), (0, .ref b), (1, .ref x), (2, .ref xm), (3, .ref out)] [] K' N' I' A' R' Q') : gJ Y X yL_law cL_law 8 (some .boolean) room_1 lPo gno k n 1699 [(4, vi i), (0, .ref b), (1, .ref x), (2, .ref xm), (3, .ref out)] [] K N I A R Q := by
  obtain ⟨⟨G, hI⟩, hM, ⟨o1, o2, o3, o4, o5⟩, hO⟩ := id hL
  obtain ⟨hz, hmt, hhs, hTr, hlen⟩ := id hO
  obtain ⟨hN, hn6⟩ := hI.hN
  have hne := hM.ne
  refine g_aload_n dL_law_1699 rfl rfl ?_
  refine g_aload_n dL_law_1700 rfl rfl ?_
  refine g_iload dL_law_1701 rfl ?_
  refine g_iconst dL_law_1703 ?_
  refine g_iadd dL_law_1704 ?_
  refine g_sld hsc (by omega) dL_law_1705 ?_
  refine g_aload_n dL_law_1706 rfl rfl ?_
  refine g_iload dL_law_1707 rfl ?_
  refine g_iconst dL_law_1709 ?_
  refine g_iadd dL_law_1710 ?_
  refine g_sld hsc (by omega) dL_law_1711 ?_
  refine g_aload_n dL_law_1712 rfl rfl ?_
  refine g_iload dL_law_1713 rfl ?_
  refine g_iconst dL_law_1715 ?_
  refine g_iadd dL_law_1716 ?_
  refine g_sld hsc (by omega) dL_law_1717 ?_
  refine g_aload_n dL_law_1718 rfl rfl ?_
  refine g_callH (k_L_bestPeak Y hI ⟨Or.inr (Or.inr (Or.inr (Or.inr (Or.inr rfl)))), o1, o2⟩ (xsI xs (i + 1)) (xsI xs (i + 2)) (xsI xs (i + 3)) (cd2r _ _) (k_A_bestPeak Y hI (xsI xs (i + 1)) (xsI_range xs (i + 1)) (xsI xs (i + 2)) (xsI_range xs (i + 2)) (xsI xs (i + 3)) (xsI_range xs (i + 3)))) u_L_bestPeak mw_1051 dL_law_1719 rfl rfl ⟨Nat.le_of_ble_eq_true rfl, Nat.le_of_ble_eq_true rfl⟩ ⟨by show _ ≤ (668115 : Nat); dsimp only; omega, by show _ ≤ (7091759 : Nat); dsimp only; omega⟩ (Nat.le_of_ble_eq_true rfl) (fun v1 K1 N1 I1 A1 R1 Q1 h1 => ?_)
  have e1 := h1.1
  subst e1
  obtain ⟨m1, w1, w2, w3, w4, w5⟩ := lInv.mid hL h1
  refine g_istore dL_law_1722 (by decide) ?_
  refine g_aload_n dL_law_1724 rfl rfl ?_
  refine g_aload_n dL_law_1725 rfl rfl ?_
  refine g_iload dL_law_1726 rfl ?_
  refine g_iconst dL_law_1728 ?_
  refine g_iadd dL_law_1729 ?_
  refine g_sld hsc (by omega) dL_law_1730 ?_
  refine g_aload_n dL_law_1731 rfl rfl ?_
  refine g_iload dL_law_1732 rfl ?_
  refine g_iconst dL_law_1734 ?_
  refine g_iadd dL_law_1735 ?_
  refine g_sld hsc (by omega) dL_law_1736 ?_
  refine g_aload_n dL_law_1737 rfl rfl ?_
  refine g_iload dL_law_1738 rfl ?_
  refine g_iconst dL_law_1740 ?_
  refine g_iadd dL_law_1741 ?_
  refine g_sld hsc (by omega) dL_law_1742 ?_
  refine g_callVw (i := 10) rfl (gK0 m1.1) (g_at10 m1.1) (k_M_bestPeak Y m1 (by rw [w1]; exact hN) (by rw [w1]; exact hmt) (xsI xs (i + 1)) (xsI xs (i + 2)) (xsI xs (i + 3)) (xsI_range xs (i + 1)) (xsI_range xs (i + 2)) (xsI_range xs (i + 3))) u_X13_bestPeak mw_1437 dL_law_1743 rfl rfl ⟨Nat.le_of_ble_eq_true rfl, Nat.le_of_ble_eq_true rfl⟩ ⟨by show _ ≤ (668115 : Nat); dsimp only; omega, by show _ ≤ (7091759 : Nat); dsimp only; omega⟩ (Nat.le_of_ble_eq_true rfl) (fun v2 I2 A2 h2 => ?_)
  rw [w1] at h2
  obtain ⟨r1, r2⟩ := mRdP.res h2 w1 w2 w3 w4 w5
  subst r2
  obtain ⟨hL2, hout, h206⟩ := lInv.fin hL h1 r1 (fun _ => hO)
  exact g_locs (by exact ⟨rfl, rfl, rfl, rfl, rfl, rfl, trivial⟩) (lt_int (pc := 1746) dL_law_1746 dL_law_1748 dL_law_1749 dL_law_1752 dL_law_1754 dL_law_1759 dL_law_1761 dL_law_1764 dL_law_1765 dL_law_1766 dL_law_1767 dL_law_1769 dL_law_1770 dL_law_1771 dL_law_1776 (by decide) ⟨((cd2r _ _)).1, Int.le_trans ((cd2r _ _)).2 (by decide)⟩ hL2 hout h206 (by dsimp only; omega) (by omega) (by dsimp only; omega) (by omega) (kk _ _ _ _ _ _ hL2))
set_option maxHeartbeats 4000000 in
set_option maxRecDepth 100000 in
theorem lc_23 {Y : gEnv} {X : gCtx} {b : Nat} {i : Int} {x s h hq sc sg ar xm w sv tx ag out : Nat} {k n : Nat} {Ln : Nat} {xs : Nat → Int32} {K N : Nat → Nat} {I : Nat → Nat → Int} {A : Nat → Int → Int} {R : Nat → Nat → Option Nat} {Q : Nat → Int → Option Nat} (hsc : lScr X Y b Ln xs) (hi : 0 ≤ i ∧ i + 6 ≤ Ln) (hL : lInv x s h hq sc sg ar xm w sv tx ag out K N I A R Q) (hk : k + 400 ≤ 668115) (hn : n + 2000 ≤ 7091759) (kk : ∀ (K' N' : Nat → Nat) (I' : Nat → Nat → Int) (A' : Nat → Int → Int) (R' : Nat → Nat → Option Nat) (Q' : Nat → Int → Option Nat), lInv x s h hq sc sg ar xm w sv tx ag out K' N' I' A' R' Q' → gJ Y X yL_law cL_law 8 (some .boolean) room_1 lPo gno (k + 400) (n + 2000) 2133 [(4, vi i), (0, .ref b), (1, .ref x), (2, .ref xm), (3, .ref out)] [] K' N' I' A' R' Q') : gJ Y X yL_law cL_law 8 (some .boolean) room_1 lPo gno k n 1779 [(4, vi i), (0, .ref b), (1, .ref x), (2, .ref xm), (3, .ref out)] [] K N I A R Q := by
  obtain ⟨⟨G, hI⟩, hM, ⟨o1, o2, o3, o4, o5⟩, hO⟩ := id hL
  obtain ⟨hz, hmt, hhs, hTr, hlen⟩ := id hO
  obtain ⟨hN, hn6⟩ := hI.hN
  have hne := hM.ne
  refine g_aload_n dL_law_1779 rfl rfl ?_
  refine g_aload_n dL_law_1780 rfl rfl ?_
  refine g_iload dL_law_1781 rfl ?_
  refine g_iconst dL_law_1783 ?_
  refine g_iadd dL_law_1784 ?_
  refine g_sld hsc (by omega) dL_law_1785 ?_
  refine g_aload_n dL_law_1786 rfl rfl ?_
  refine g_iload dL_law_1787 rfl ?_
  refine g_iconst dL_law_1789 ?_
  refine g_iadd dL_law_1790 ?_
  refine g_sld hsc (by omega) dL_law_1791 ?_
  refine g_aload_n dL_law_1792 rfl rfl ?_
  refine g_callH (k_L_largest Y hI ⟨Or.inr (Or.inr (Or.inr (Or.inr (Or.inr rfl)))), o1, o2⟩ (xsI xs (i + 1)) (xsI xs (i + 2)) (cd2r _ _) (k_A_largest Y hI (xsI xs (i + 1)) (xsI_range xs (i + 1)) (xsI xs (i + 2)) (xsI_range xs (i + 2)))) u_L_largest mw_1062 dL_law_1793 rfl rfl ⟨Nat.le_of_ble_eq_true rfl, Nat.le_of_ble_eq_true rfl⟩ ⟨by show _ ≤ (668115 : Nat); dsimp only; omega, by show _ ≤ (7091759 : Nat); dsimp only; omega⟩ (Nat.le_of_ble_eq_true rfl) (fun v1 K1 N1 I1 A1 R1 Q1 h1 => ?_)
  have e1 := h1.1
  subst e1
  obtain ⟨m1, w1, w2, w3, w4, w5⟩ := lInv.mid hL h1
  refine g_istore dL_law_1796 (by decide) ?_
  refine g_aload_n dL_law_1798 rfl rfl ?_
  refine g_aload_n dL_law_1799 rfl rfl ?_
  refine g_iload dL_law_1800 rfl ?_
  refine g_iconst dL_law_1802 ?_
  refine g_iadd dL_law_1803 ?_
  refine g_sld hsc (by omega) dL_law_1804 ?_
  refine g_aload_n dL_law_1805 rfl rfl ?_
  refine g_iload dL_law_1806 rfl ?_
  refine g_iconst dL_law_1808 ?_
  refine g_iadd dL_law_1809 ?_
  refine g_sld hsc (by omega) dL_law_1810 ?_
  refine g_callVw (i := 10) rfl (gK0 m1.1) (g_at10 m1.1) (k_M_largest Y m1 (by rw [w1]; exact hN) (by rw [w1]; exact hmt) (xsI xs (i + 1)) (xsI xs (i + 2)) (xsI_range xs (i + 1)) (xsI_range xs (i + 2))) u_X13_largest mw_1441 dL_law_1811 rfl rfl ⟨Nat.le_of_ble_eq_true rfl, Nat.le_of_ble_eq_true rfl⟩ ⟨by show _ ≤ (668115 : Nat); dsimp only; omega, by show _ ≤ (7091759 : Nat); dsimp only; omega⟩ (Nat.le_of_ble_eq_true rfl) (fun v2 I2 A2 h2 => ?_)
  rw [w1] at h2
  obtain ⟨r1, r2⟩ := mRdP.res h2 w1 w2 w3 w4 w5
  subst r2
  obtain ⟨hL2, hout, h206⟩ := lInv.fin hL h1 r1 (fun _ => hO)
  exact g_locs (by exact ⟨rfl, rfl, rfl, rfl, rfl, rfl, trivial⟩) (lt_int (pc := 1814) dL_law_1814 dL_law_1816 dL_law_1817 dL_law_1820 dL_law_1822 dL_law_1827 dL_law_1829 dL_law_1832 dL_law_1833 dL_law_1834 dL_law_1835 dL_law_1837 dL_law_1838 dL_law_1839 dL_law_1844 (by decide) ⟨((cd2r _ _)).1, Int.le_trans ((cd2r _ _)).2 (by decide)⟩ hL2 hout h206 (by dsimp only; omega) (by omega) (by dsimp only; omega) (by omega) (kk _ _ _ _ _ _ hL2))
