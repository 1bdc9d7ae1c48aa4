/-! ===== the law: one call on each side ===== -/
theorem l_rank {V : GV} {d lo C E i : Nat} {S : ST} {X : XT} {FI AI : FT} {AL : LT} {P : PT} (hcg : CGL) (hL : LI C E S X FI AI AL lo) (hi : i + 6 ≤ v_sn V) (hn : v_sn V ≤ 3072) (k : LK V d lo C E i P) : G V m_Law_law (d + 11) 1277 [some (.ref (v_sb V)), some (.ref lo), some (.ref (lo + 110)), some (.int (nI i))] [] X FI AI AL P := by
  obtain ⟨h, hm, hI, hM, hW, hN⟩ := hL
  have hs := h.sh
  have hc := c_gRank (V := V) (d := d + 5) (x := v_sx V (i + 1)) h hI hW
  rw [gRank_eq (hcg S hW)] at hc
  refine G_aload1 1278 d_Law_law_1277 rfl ?_
  refine G_aload0 1279 d_Law_law_1278 rfl ?_
  refine G_iload3 1280 d_Law_law_1279 rfl ?_
  refine G_iconstN 1 1281 d_Law_law_1280 rfl rfl ?_
  first | refine G_iaddN 1282 d_Law_law_1281 rfl ?_ | refine G_iadd 1282 d_Law_law_1281 rfl ?_
  refine G_scald 1283 d_Law_law_1282 rfl (ix_nI (by omega) (by omega)) ?_
  refine G_invV1 1286 d_Law_law_1283 rfl e_Law_135 M_Alg_rank rfl hs (Nat.le_of_ble_eq_true rfl) (Nat.le_of_ble_eq_true rfl) rfl (G.conseq (hc) (fun r1283 X1283 FI1283 AI1283 AL1283 h1283 => ?_))
  obtain ⟨c1, c2, c3, c4⟩ := h1283
  subst c1
  obtain ⟨m1, m2⟩ := LI.m1 hm hM c4
  have ms := m1.1
  have hd := m_rank (V := V) (d := d + 6) (x := v_sx V (i + 1)) m1 m2 hW
  refine G_aload2 1287 d_Law_law_1286 rfl ?_
  refine G_aload0 1288 d_Law_law_1287 rfl ?_
  refine G_iload3 1289 d_Law_law_1288 rfl ?_
  refine G_iconstN 1 1290 d_Law_law_1289 rfl rfl ?_
  first | refine G_iaddN 1291 d_Law_law_1290 rfl ?_ | refine G_iadd 1291 d_Law_law_1290 rfl ?_
  refine G_scald 1292 d_Law_law_1291 rfl (ix_nI (by omega) (by omega)) ?_
  refine G_invV1 1295 d_Law_law_1292 rfl e_Law_138 M_Mod_rank rfl ms (Nat.le_of_ble_eq_true rfl) (Nat.le_of_ble_eq_true rfl) rfl (G.conseq (hd) (fun r1292 X1292 FI1292 AI1292 AL1292 h1292 => ?_))
  obtain ⟨d1, d2, d3, d4⟩ := h1292
  replace d2 := d2.symm
  subst d1 d2
  rw [id_rank] at c3
  rw [id_rank] at d3
  first | refine G_iceqN 2104 1298 d_Law_law_1295 rfl rfl (by omega) (by omega) (fun h1295 => ?_) (fun h1295 => ?_) | refine G_iceq 2104 1298 d_Law_law_1295 rfl rfl (fun h1295 => ?_) (fun h1295 => ?_)
  · exact k _ _ _ _ _ ⟨c2, m1, c3.fm hW d4, d3, hW, hN⟩
  · exact absurd rfl h1295
theorem l_lattice {V : GV} {d lo C E i : Nat} {S : ST} {X : XT} {FI AI : FT} {AL : LT} {P : PT} (hcg : CGL) (hL : LI C E S X FI AI AL lo) (hi : i + 6 ≤ v_sn V) (hn : v_sn V ≤ 3072) (k : LK V d lo C E i P) : G V m_Law_law (d + 11) 1300 [some (.ref (v_sb V)), some (.ref lo), some (.ref (lo + 110)), some (.int (nI i))] [] X FI AI AL P := by
  obtain ⟨h, hm, hI, hM, hW, hN⟩ := hL
  have hs := h.sh
  have hc := c_gLattice (V := V) (d := d + 5) (x := v_sx V (i + 1)) (y := v_sx V (i + 2)) h hI hW
  rw [gLattice_eq (hcg S hW) hW.2.1.1] at hc
  refine G_aload1 1301 d_Law_law_1300 rfl ?_
  refine G_aload0 1302 d_Law_law_1301 rfl ?_
  refine G_iload3 1303 d_Law_law_1302 rfl ?_
  refine G_iconstN 1 1304 d_Law_law_1303 rfl rfl ?_
  first | refine G_iaddN 1305 d_Law_law_1304 rfl ?_ | refine G_iadd 1305 d_Law_law_1304 rfl ?_
  refine G_scald 1306 d_Law_law_1305 rfl (ix_nI (by omega) (by omega)) ?_
  refine G_aload0 1307 d_Law_law_1306 rfl ?_
  refine G_iload3 1308 d_Law_law_1307 rfl ?_
  refine G_iconstN 2 1309 d_Law_law_1308 rfl rfl ?_
  first | refine G_iaddN 1310 d_Law_law_1309 rfl ?_ | refine G_iadd 1310 d_Law_law_1309 rfl ?_
  refine G_scald 1311 d_Law_law_1310 rfl (ix_nI (by omega) (by omega)) ?_
  refine G_invV2 1314 d_Law_law_1311 rfl e_Law_139 M_Alg_lattice rfl hs (Nat.le_of_ble_eq_true rfl) (Nat.le_of_ble_eq_true rfl) rfl (G.conseq (hc) (fun r1311 X1311 FI1311 AI1311 AL1311 h1311 => ?_))
  obtain ⟨c1, c2, c3, c4⟩ := h1311
  subst c1
  obtain ⟨m1, m2⟩ := LI.m1 hm hM c4
  have ms := m1.1
  have hd := m_lattice (V := V) (d := d + 6) (x := v_sx V (i + 1)) (y := v_sx V (i + 2)) m1 m2 hW
  refine G_aload2 1315 d_Law_law_1314 rfl ?_
  refine G_aload0 1316 d_Law_law_1315 rfl ?_
  refine G_iload3 1317 d_Law_law_1316 rfl ?_
  refine G_iconstN 1 1318 d_Law_law_1317 rfl rfl ?_
  first | refine G_iaddN 1319 d_Law_law_1318 rfl ?_ | refine G_iadd 1319 d_Law_law_1318 rfl ?_
  refine G_scald 1320 d_Law_law_1319 rfl (ix_nI (by omega) (by omega)) ?_
  refine G_aload0 1321 d_Law_law_1320 rfl ?_
  refine G_iload3 1322 d_Law_law_1321 rfl ?_
  refine G_iconstN 2 1323 d_Law_law_1322 rfl rfl ?_
  first | refine G_iaddN 1324 d_Law_law_1323 rfl ?_ | refine G_iadd 1324 d_Law_law_1323 rfl ?_
  refine G_scald 1325 d_Law_law_1324 rfl (ix_nI (by omega) (by omega)) ?_
  refine G_invV2 1328 d_Law_law_1325 rfl e_Law_143 M_Mod_lattice rfl ms (Nat.le_of_ble_eq_true rfl) (Nat.le_of_ble_eq_true rfl) rfl (G.conseq (hd) (fun r1325 X1325 FI1325 AI1325 AL1325 h1325 => ?_))
  obtain ⟨d1, d2, d3, d4⟩ := h1325
  replace d2 := d2.symm
  subst d1 d2
  rw [id_lattice] at c3
  rw [id_lattice] at d3
  refine G_lceq 2104 1332 d_Law_law_1328 d_Law_law_1329 rfl rfl (fun h1328 => ?_) (fun h1328 => ?_)
  · exact k _ _ _ _ _ ⟨c2, m1, c3.fm hW d4, d3, hW, hN⟩
  · exact absurd rfl h1328
theorem l_span {V : GV} {d lo C E i : Nat} {S : ST} {X : XT} {FI AI : FT} {AL : LT} {P : PT} (hcg : CGL) (hL : LI C E S X FI AI AL lo) (hi : i + 6 ≤ v_sn V) (hn : v_sn V ≤ 3072) (k : LK V d lo C E i P) : G V m_Law_law (d + 11) 1334 [some (.ref (v_sb V)), some (.ref lo), some (.ref (lo + 110)), some (.int (nI i))] [] X FI AI AL P := by
  obtain ⟨h, hm, hI, hM, hW, hN⟩ := hL
  have hs := h.sh
  have hc := c_gSpan (V := V) (d := d + 5) (x := v_sx V (i + 1)) (y := v_sx V (i + 2)) h hI hW
  rw [gSpan_eq (hcg S hW)] at hc
  refine G_aload1 1335 d_Law_law_1334 rfl ?_
  refine G_aload0 1336 d_Law_law_1335 rfl ?_
  refine G_iload3 1337 d_Law_law_1336 rfl ?_
  refine G_iconstN 1 1338 d_Law_law_1337 rfl rfl ?_
  first | refine G_iaddN 1339 d_Law_law_1338 rfl ?_ | refine G_iadd 1339 d_Law_law_1338 rfl ?_
  refine G_scald 1340 d_Law_law_1339 rfl (ix_nI (by omega) (by omega)) ?_
  refine G_aload0 1341 d_Law_law_1340 rfl ?_
  refine G_iload3 1342 d_Law_law_1341 rfl ?_
  refine G_iconstN 2 1343 d_Law_law_1342 rfl rfl ?_
  first | refine G_iaddN 1344 d_Law_law_1343 rfl ?_ | refine G_iadd 1344 d_Law_law_1343 rfl ?_
  refine G_scald 1345 d_Law_law_1344 rfl (ix_nI (by omega) (by omega)) ?_
  refine G_invV2 1348 d_Law_law_1345 rfl e_Law_144 M_Alg_span rfl hs (Nat.le_of_ble_eq_true rfl) (Nat.le_of_ble_eq_true rfl) rfl (G.conseq (hc) (fun r1345 X1345 FI1345 AI1345 AL1345 h1345 => ?_))
  obtain ⟨c1, c2, c3, c4⟩ := h1345
  subst c1
  obtain ⟨m1, m2⟩ := LI.m1 hm hM c4
  have ms := m1.1
  have hd := m_span (V := V) (d := d + 6) (x := v_sx V (i + 1)) (y := v_sx V (i + 2)) m1 m2 hW
  refine G_aload2 1349 d_Law_law_1348 rfl ?_
  refine G_aload0 1350 d_Law_law_1349 rfl ?_
  refine G_iload3 1351 d_Law_law_1350 rfl ?_
  refine G_iconstN 1 1352 d_Law_law_1351 rfl rfl ?_
  first | refine G_iaddN 1353 d_Law_law_1352 rfl ?_ | refine G_iadd 1353 d_Law_law_1352 rfl ?_
  refine G_scald 1354 d_Law_law_1353 rfl (ix_nI (by omega) (by omega)) ?_
  refine G_aload0 1355 d_Law_law_1354 rfl ?_
  refine G_iload3 1356 d_Law_law_1355 rfl ?_
  refine G_iconstN 2 1357 d_Law_law_1356 rfl rfl ?_
  first | refine G_iaddN 1358 d_Law_law_1357 rfl ?_ | refine G_iadd 1358 d_Law_law_1357 rfl ?_
  refine G_scald 1359 d_Law_law_1358 rfl (ix_nI (by omega) (by omega)) ?_
  refine G_invV2 1362 d_Law_law_1359 rfl e_Law_147 M_Mod_span rfl ms (Nat.le_of_ble_eq_true rfl) (Nat.le_of_ble_eq_true rfl) rfl (G.conseq (hd) (fun r1359 X1359 FI1359 AI1359 AL1359 h1359 => ?_))
  obtain ⟨d1, d2, d3, d4⟩ := h1359
  replace d2 := d2.symm
  subst d1 d2
  rw [id_span] at c3
  rw [id_span] at d3
  refine G_lceq 2104 1366 d_Law_law_1362 d_Law_law_1363 rfl rfl (fun h1362 => ?_) (fun h1362 => ?_)
  · exact k _ _ _ _ _ ⟨c2, m1, c3.fm hW d4, d3, hW, hN⟩
  · exact absurd rfl h1362
theorem l_inSpan {V : GV} {d lo C E i : Nat} {S : ST} {X : XT} {FI AI : FT} {AL : LT} {P : PT} (hcg : CGL) (hL : LI C E S X FI AI AL lo) (hi : i + 6 ≤ v_sn V) (hn : v_sn V ≤ 3072) (k : LK V d lo C E i P) : G V m_Law_law (d + 11) 1368 [some (.ref (v_sb V)), some (.ref lo), some (.ref (lo + 110)), some (.int (nI i))] [] X FI AI AL P := by
  obtain ⟨h, hm, hI, hM, hW, hN⟩ := hL
  have hs := h.sh
  have hc := c_gInSpan (V := V) (d := d + 5) (x := v_sx V (i + 1)) (y := v_sx V (i + 2)) (z := v_sx V (i + 3)) h hI hW
  rw [gInSpan_eq (hcg S hW)] at hc
  refine G_aload1 1369 d_Law_law_1368 rfl ?_
  refine G_aload0 1370 d_Law_law_1369 rfl ?_
  refine G_iload3 1371 d_Law_law_1370 rfl ?_
  refine G_iconstN 1 1372 d_Law_law_1371 rfl rfl ?_
  first | refine G_iaddN 1373 d_Law_law_1372 rfl ?_ | refine G_iadd 1373 d_Law_law_1372 rfl ?_
  refine G_scald 1374 d_Law_law_1373 rfl (ix_nI (by omega) (by omega)) ?_
  refine G_aload0 1375 d_Law_law_1374 rfl ?_
  refine G_iload3 1376 d_Law_law_1375 rfl ?_
  refine G_iconstN 2 1377 d_Law_law_1376 rfl rfl ?_
  first | refine G_iaddN 1378 d_Law_law_1377 rfl ?_ | refine G_iadd 1378 d_Law_law_1377 rfl ?_
  refine G_scald 1379 d_Law_law_1378 rfl (ix_nI (by omega) (by omega)) ?_
  refine G_aload0 1380 d_Law_law_1379 rfl ?_
  refine G_iload3 1381 d_Law_law_1380 rfl ?_
  refine G_iconstN 3 1382 d_Law_law_1381 rfl rfl ?_
  first | refine G_iaddN 1383 d_Law_law_1382 rfl ?_ | refine G_iadd 1383 d_Law_law_1382 rfl ?_
  refine G_scald 1384 d_Law_law_1383 rfl (ix_nI (by omega) (by omega)) ?_
  refine G_invV3 1387 d_Law_law_1384 rfl e_Law_148 M_Alg_inSpan rfl hs (Nat.le_of_ble_eq_true rfl) (Nat.le_of_ble_eq_true rfl) rfl (G.conseq (hc) (fun r1384 X1384 FI1384 AI1384 AL1384 h1384 => ?_))
  obtain ⟨c1, c2, c3, c4⟩ := h1384
  subst c1
  obtain ⟨m1, m2⟩ := LI.m1 hm hM c4
  have ms := m1.1
  have hd := m_inSpan (V := V) (d := d + 6) (x := v_sx V (i + 1)) (y := v_sx V (i + 2)) (z := v_sx V (i + 3)) m1 m2 hW
  refine G_aload2 1388 d_Law_law_1387 rfl ?_
  refine G_aload0 1389 d_Law_law_1388 rfl ?_
  refine G_iload3 1390 d_Law_law_1389 rfl ?_
  refine G_iconstN 1 1391 d_Law_law_1390 rfl rfl ?_
  first | refine G_iaddN 1392 d_Law_law_1391 rfl ?_ | refine G_iadd 1392 d_Law_law_1391 rfl ?_
  refine G_scald 1393 d_Law_law_1392 rfl (ix_nI (by omega) (by omega)) ?_
  refine G_aload0 1394 d_Law_law_1393 rfl ?_
  refine G_iload3 1395 d_Law_law_1394 rfl ?_
  refine G_iconstN 2 1396 d_Law_law_1395 rfl rfl ?_
  first | refine G_iaddN 1397 d_Law_law_1396 rfl ?_ | refine G_iadd 1397 d_Law_law_1396 rfl ?_
  refine G_scald 1398 d_Law_law_1397 rfl (ix_nI (by omega) (by omega)) ?_
  refine G_aload0 1399 d_Law_law_1398 rfl ?_
  refine G_iload3 1400 d_Law_law_1399 rfl ?_
  refine G_iconstN 3 1401 d_Law_law_1400 rfl rfl ?_
  first | refine G_iaddN 1402 d_Law_law_1401 rfl ?_ | refine G_iadd 1402 d_Law_law_1401 rfl ?_
  refine G_scald 1403 d_Law_law_1402 rfl (ix_nI (by omega) (by omega)) ?_
  refine G_invV3 1406 d_Law_law_1403 rfl e_Law_151 M_Mod_inSpan rfl ms (Nat.le_of_ble_eq_true rfl) (Nat.le_of_ble_eq_true rfl) rfl (G.conseq (hd) (fun r1403 X1403 FI1403 AI1403 AL1403 h1403 => ?_))
  obtain ⟨d1, d2, d3, d4⟩ := h1403
  replace d2 := d2.symm
  subst d1 d2
  rw [id_inSpan] at c3
  rw [id_inSpan] at d3
  first | refine G_iceqN 2104 1409 d_Law_law_1406 rfl rfl (by omega) (by omega) (fun h1406 => ?_) (fun h1406 => ?_) | refine G_iceq 2104 1409 d_Law_law_1406 rfl rfl (fun h1406 => ?_) (fun h1406 => ?_)
  · exact k _ _ _ _ _ ⟨c2, m1, c3.fm hW d4, d3, hW, hN⟩
  · exact absurd rfl h1406
theorem l_index {V : GV} {d lo C E i : Nat} {S : ST} {X : XT} {FI AI : FT} {AL : LT} {P : PT} (hcg : CGL) (hL : LI C E S X FI AI AL lo) (hi : i + 6 ≤ v_sn V) (hn : v_sn V ≤ 3072) (k : LK V d lo C E i P) : G V m_Law_law (d + 11) 1411 [some (.ref (v_sb V)), some (.ref lo), some (.ref (lo + 110)), some (.int (nI i))] [] X FI AI AL P := by
  obtain ⟨h, hm, hI, hM, hW, hN⟩ := hL
  have hs := h.sh
  have hc := c_gIndex (V := V) (d := d + 6)  h hI hW
  rw [gIndex_eq (hcg S hW)] at hc
  refine G_aload1 1412 d_Law_law_1411 rfl ?_
  refine G_invV0 1415 d_Law_law_1412 rfl e_Law_152 M_Alg_index rfl hs (Nat.le_of_ble_eq_true rfl) (Nat.le_of_ble_eq_true rfl) rfl (G.conseq (hc) (fun r1412 X1412 FI1412 AI1412 AL1412 h1412 => ?_))
  obtain ⟨c1, c2, c3, c4⟩ := h1412
  subst c1
  obtain ⟨m1, m2⟩ := LI.m1 hm hM c4
  have ms := m1.1
  have hd := m_index (V := V) (d := d + 6)  m1 m2 hW
  refine G_aload2 1416 d_Law_law_1415 rfl ?_
  refine G_invV0 1419 d_Law_law_1416 rfl e_Law_156 M_Mod_index rfl ms (Nat.le_of_ble_eq_true rfl) (Nat.le_of_ble_eq_true rfl) rfl (G.conseq (hd) (fun r1416 X1416 FI1416 AI1416 AL1416 h1416 => ?_))
  obtain ⟨d1, d2, d3, d4⟩ := h1416
  replace d2 := d2.symm
  subst d1 d2
  rw [id_index] at c3
  rw [id_index] at d3
  refine G_lceq 2104 1423 d_Law_law_1419 d_Law_law_1420 rfl rfl (fun h1419 => ?_) (fun h1419 => ?_)
  · exact k _ _ _ _ _ ⟨c2, m1, c3.fm hW d4, d3, hW, hN⟩
  · exact absurd rfl h1419
theorem l_relations {V : GV} {d lo C E i : Nat} {S : ST} {X : XT} {FI AI : FT} {AL : LT} {P : PT} (hcg : CGL) (hL : LI C E S X FI AI AL lo) (hi : i + 6 ≤ v_sn V) (hn : v_sn V ≤ 3072) (k : LK V d lo C E i P) : G V m_Law_law (d + 11) 1425 [some (.ref (v_sb V)), some (.ref lo), some (.ref (lo + 110)), some (.int (nI i))] [] X FI AI AL P := by
  obtain ⟨h, hm, hI, hM, hW, hN⟩ := hL
  have hs := h.sh
  have hc := c_relations (V := V) (d := d + 4) (x := v_sx V (i + 1)) h hI hW
  refine G_aload1 1426 d_Law_law_1425 rfl ?_
  refine G_aload0 1427 d_Law_law_1426 rfl ?_
  refine G_iload3 1428 d_Law_law_1427 rfl ?_
  refine G_iconstN 1 1429 d_Law_law_1428 rfl rfl ?_
  first | refine G_iaddN 1430 d_Law_law_1429 rfl ?_ | refine G_iadd 1430 d_Law_law_1429 rfl ?_
  refine G_scald 1431 d_Law_law_1430 rfl (ix_nI (by omega) (by omega)) ?_
  refine G_invV1 1434 d_Law_law_1431 rfl e_Law_157 M_Alg_relations rfl hs (Nat.le_of_ble_eq_true rfl) (Nat.le_of_ble_eq_true rfl) rfl (G.conseq (hc) (fun r1431 X1431 FI1431 AI1431 AL1431 h1431 => ?_))
  obtain ⟨c1, c2, c3, c4⟩ := h1431
  subst c1
  obtain ⟨m1, m2⟩ := LI.m1 hm hM c4
  have ms := m1.1
  have hd := m_relations (V := V) (d := d + 4) (x := v_sx V (i + 1)) m1 m2 hW
  refine G_aload2 1435 d_Law_law_1434 rfl ?_
  refine G_aload0 1436 d_Law_law_1435 rfl ?_
  refine G_iload3 1437 d_Law_law_1436 rfl ?_
  refine G_iconstN 1 1438 d_Law_law_1437 rfl rfl ?_
  first | refine G_iaddN 1439 d_Law_law_1438 rfl ?_ | refine G_iadd 1439 d_Law_law_1438 rfl ?_
  refine G_scald 1440 d_Law_law_1439 rfl (ix_nI (by omega) (by omega)) ?_
  refine G_invV1 1443 d_Law_law_1440 rfl e_Law_160 M_Mod_relations rfl ms (Nat.le_of_ble_eq_true rfl) (Nat.le_of_ble_eq_true rfl) rfl (G.conseq (hd) (fun r1440 X1440 FI1440 AI1440 AL1440 h1440 => ?_))
  obtain ⟨d1, d2, d3, d4⟩ := h1440
  replace d2 := d2.symm
  subst d1 d2
  rw [id_relations] at c3
  rw [id_relations] at d3
  first | refine G_iceqN 2104 1446 d_Law_law_1443 rfl rfl (by omega) (by omega) (fun h1443 => ?_) (fun h1443 => ?_) | refine G_iceq 2104 1446 d_Law_law_1443 rfl rfl (fun h1443 => ?_) (fun h1443 => ?_)
  · exact k _ _ _ _ _ ⟨c2, m1, c3.fm hW d4, d3, hW, hN⟩
  · exact absurd rfl h1443
theorem l_relation {V : GV} {d lo C E i : Nat} {S : ST} {X : XT} {FI AI : FT} {AL : LT} {P : PT} (hcg : CGL) (hL : LI C E S X FI AI AL lo) (hi : i + 6 ≤ v_sn V) (hn : v_sn V ≤ 3072) (k : LK V d lo C E i P) : G V m_Law_law (d + 11) 1448 [some (.ref (v_sb V)), some (.ref lo), some (.ref (lo + 110)), some (.int (nI i))] [] X FI AI AL P := by
  obtain ⟨h, hm, hI, hM, hW, hN⟩ := hL
  have hs := h.sh
  have hc := c_relation (V := V) (d := d + 3) (x := v_sx V (i + 1)) (y := v_sx V (i + 2)) (w := v_sx V (i + 3)) (g := v_sx V (i + 4)) h hI hW
  refine G_aload1 1449 d_Law_law_1448 rfl ?_
  refine G_aload0 1450 d_Law_law_1449 rfl ?_
  refine G_iload3 1451 d_Law_law_1450 rfl ?_
  refine G_iconstN 1 1452 d_Law_law_1451 rfl rfl ?_
  first | refine G_iaddN 1453 d_Law_law_1452 rfl ?_ | refine G_iadd 1453 d_Law_law_1452 rfl ?_
  refine G_scald 1454 d_Law_law_1453 rfl (ix_nI (by omega) (by omega)) ?_
  refine G_aload0 1455 d_Law_law_1454 rfl ?_
  refine G_iload3 1456 d_Law_law_1455 rfl ?_
  refine G_iconstN 2 1457 d_Law_law_1456 rfl rfl ?_
  first | refine G_iaddN 1458 d_Law_law_1457 rfl ?_ | refine G_iadd 1458 d_Law_law_1457 rfl ?_
  refine G_scald 1459 d_Law_law_1458 rfl (ix_nI (by omega) (by omega)) ?_
  refine G_aload0 1460 d_Law_law_1459 rfl ?_
  refine G_iload3 1461 d_Law_law_1460 rfl ?_
  refine G_iconstN 3 1462 d_Law_law_1461 rfl rfl ?_
  first | refine G_iaddN 1463 d_Law_law_1462 rfl ?_ | refine G_iadd 1463 d_Law_law_1462 rfl ?_
  refine G_scald 1464 d_Law_law_1463 rfl (ix_nI (by omega) (by omega)) ?_
  refine G_aload0 1465 d_Law_law_1464 rfl ?_
  refine G_iload3 1466 d_Law_law_1465 rfl ?_
  refine G_iconstN 4 1467 d_Law_law_1466 rfl rfl ?_
  first | refine G_iaddN 1468 d_Law_law_1467 rfl ?_ | refine G_iadd 1468 d_Law_law_1467 rfl ?_
  refine G_scald 1469 d_Law_law_1468 rfl (ix_nI (by omega) (by omega)) ?_
  refine G_invV4 1472 d_Law_law_1469 rfl e_Law_161 M_Alg_relation rfl hs (Nat.le_of_ble_eq_true rfl) (Nat.le_of_ble_eq_true rfl) rfl (G.conseq (hc) (fun r1469 X1469 FI1469 AI1469 AL1469 h1469 => ?_))
  obtain ⟨c1, c2, c3, c4⟩ := h1469
  subst c1
  obtain ⟨m1, m2⟩ := LI.m1 hm hM c4
  have ms := m1.1
  have hd := m_relation (V := V) (d := d + 3) (x := v_sx V (i + 1)) (y := v_sx V (i + 2)) (w := v_sx V (i + 3)) (g := v_sx V (i + 4)) m1 m2 hW
  refine G_aload2 1473 d_Law_law_1472 rfl ?_
  refine G_aload0 1474 d_Law_law_1473 rfl ?_
  refine G_iload3 1475 d_Law_law_1474 rfl ?_
  refine G_iconstN 1 1476 d_Law_law_1475 rfl rfl ?_
  first | refine G_iaddN 1477 d_Law_law_1476 rfl ?_ | refine G_iadd 1477 d_Law_law_1476 rfl ?_
  refine G_scald 1478 d_Law_law_1477 rfl (ix_nI (by omega) (by omega)) ?_
  refine G_aload0 1479 d_Law_law_1478 rfl ?_
  refine G_iload3 1480 d_Law_law_1479 rfl ?_
  refine G_iconstN 2 1481 d_Law_law_1480 rfl rfl ?_
  first | refine G_iaddN 1482 d_Law_law_1481 rfl ?_ | refine G_iadd 1482 d_Law_law_1481 rfl ?_
  refine G_scald 1483 d_Law_law_1482 rfl (ix_nI (by omega) (by omega)) ?_
  refine G_aload0 1484 d_Law_law_1483 rfl ?_
  refine G_iload3 1485 d_Law_law_1484 rfl ?_
  refine G_iconstN 3 1486 d_Law_law_1485 rfl rfl ?_
  first | refine G_iaddN 1487 d_Law_law_1486 rfl ?_ | refine G_iadd 1487 d_Law_law_1486 rfl ?_
  refine G_scald 1488 d_Law_law_1487 rfl (ix_nI (by omega) (by omega)) ?_
  refine G_aload0 1489 d_Law_law_1488 rfl ?_
  refine G_iload3 1490 d_Law_law_1489 rfl ?_
  refine G_iconstN 4 1491 d_Law_law_1490 rfl rfl ?_
  first | refine G_iaddN 1492 d_Law_law_1491 rfl ?_ | refine G_iadd 1492 d_Law_law_1491 rfl ?_
  refine G_scald 1493 d_Law_law_1492 rfl (ix_nI (by omega) (by omega)) ?_
  refine G_invV4 1496 d_Law_law_1493 rfl e_Law_164 M_Mod_relation rfl ms (Nat.le_of_ble_eq_true rfl) (Nat.le_of_ble_eq_true rfl) rfl (G.conseq (hd) (fun r1493 X1493 FI1493 AI1493 AL1493 h1493 => ?_))
  obtain ⟨d1, d2, d3, d4⟩ := h1493
  replace d2 := d2.symm
  subst d1 d2
  rw [id_relation] at c3
  rw [id_relation] at d3
  first | refine G_iceqN 2104 1499 d_Law_law_1496 rfl rfl (by omega) (by omega) (fun h1496 => ?_) (fun h1496 => ?_) | refine G_iceq 2104 1499 d_Law_law_1496 rfl rfl (fun h1496 => ?_) (fun h1496 => ?_)
  · exact k _ _ _ _ _ ⟨c2, m1, c3.fm hW d4, d3, hW, hN⟩
  · exact absurd rfl h1496
theorem l_part {V : GV} {d lo C E i : Nat} {S : ST} {X : XT} {FI AI : FT} {AL : LT} {P : PT} (hcg : CGL) (hL : LI C E S X FI AI AL lo) (hi : i + 6 ≤ v_sn V) (hn : v_sn V ≤ 3072) (k : LK V d lo C E i P) : G V m_Law_law (d + 11) 1501 [some (.ref (v_sb V)), some (.ref lo), some (.ref (lo + 110)), some (.int (nI i))] [] X FI AI AL P := by
  obtain ⟨h, hm, hI, hM, hW, hN⟩ := hL
  have hs := h.sh
  have hc := c_gPart (V := V) (d := d + 3) (x := v_sx V (i + 1)) (y := v_sx V (i + 2)) (z := v_sx V (i + 3)) h hI hW
  rw [gPart_eq (hcg S hW)] at hc
  refine G_aload1 1502 d_Law_law_1501 rfl ?_
  refine G_aload0 1503 d_Law_law_1502 rfl ?_
  refine G_iload3 1504 d_Law_law_1503 rfl ?_
  refine G_iconstN 1 1505 d_Law_law_1504 rfl rfl ?_
  first | refine G_iaddN 1506 d_Law_law_1505 rfl ?_ | refine G_iadd 1506 d_Law_law_1505 rfl ?_
  refine G_scald 1507 d_Law_law_1506 rfl (ix_nI (by omega) (by omega)) ?_
  refine G_aload0 1508 d_Law_law_1507 rfl ?_
  refine G_iload3 1509 d_Law_law_1508 rfl ?_
  refine G_iconstN 2 1510 d_Law_law_1509 rfl rfl ?_
  first | refine G_iaddN 1511 d_Law_law_1510 rfl ?_ | refine G_iadd 1511 d_Law_law_1510 rfl ?_
  refine G_scald 1512 d_Law_law_1511 rfl (ix_nI (by omega) (by omega)) ?_
  refine G_aload0 1513 d_Law_law_1512 rfl ?_
  refine G_iload3 1514 d_Law_law_1513 rfl ?_
  refine G_iconstN 3 1515 d_Law_law_1514 rfl rfl ?_
  first | refine G_iaddN 1516 d_Law_law_1515 rfl ?_ | refine G_iadd 1516 d_Law_law_1515 rfl ?_
  refine G_scald 1517 d_Law_law_1516 rfl (ix_nI (by omega) (by omega)) ?_
  refine G_invV3 1520 d_Law_law_1517 rfl e_Law_165 M_Alg_part rfl hs (Nat.le_of_ble_eq_true rfl) (Nat.le_of_ble_eq_true rfl) rfl (G.conseq (hc) (fun r1517 X1517 FI1517 AI1517 AL1517 h1517 => ?_))
  obtain ⟨c1, c2, c3, c4⟩ := h1517
  subst c1
  obtain ⟨m1, m2⟩ := LI.m1 hm hM c4
  have ms := m1.1
  have hd := m_part (V := V) (d := d + 3) (x := v_sx V (i + 1)) (y := v_sx V (i + 2)) (z := v_sx V (i + 3)) m1 m2 hW
  refine G_aload2 1521 d_Law_law_1520 rfl ?_
  refine G_aload0 1522 d_Law_law_1521 rfl ?_
  refine G_iload3 1523 d_Law_law_1522 rfl ?_
  refine G_iconstN 1 1524 d_Law_law_1523 rfl rfl ?_
  first | refine G_iaddN 1525 d_Law_law_1524 rfl ?_ | refine G_iadd 1525 d_Law_law_1524 rfl ?_
  refine G_scald 1526 d_Law_law_1525 rfl (ix_nI (by omega) (by omega)) ?_
  refine G_aload0 1527 d_Law_law_1526 rfl ?_
  refine G_iload3 1528 d_Law_law_1527 rfl ?_
  refine G_iconstN 2 1529 d_Law_law_1528 rfl rfl ?_
  first | refine G_iaddN 1530 d_Law_law_1529 rfl ?_ | refine G_iadd 1530 d_Law_law_1529 rfl ?_
  refine G_scald 1531 d_Law_law_1530 rfl (ix_nI (by omega) (by omega)) ?_
  refine G_aload0 1532 d_Law_law_1531 rfl ?_
  refine G_iload3 1533 d_Law_law_1532 rfl ?_
  refine G_iconstN 3 1534 d_Law_law_1533 rfl rfl ?_
  first | refine G_iaddN 1535 d_Law_law_1534 rfl ?_ | refine G_iadd 1535 d_Law_law_1534 rfl ?_
  refine G_scald 1536 d_Law_law_1535 rfl (ix_nI (by omega) (by omega)) ?_
  refine G_invV3 1539 d_Law_law_1536 rfl e_Law_168 M_Mod_part rfl ms (Nat.le_of_ble_eq_true rfl) (Nat.le_of_ble_eq_true rfl) rfl (G.conseq (hd) (fun r1536 X1536 FI1536 AI1536 AL1536 h1536 => ?_))
  obtain ⟨d1, d2, d3, d4⟩ := h1536
  replace d2 := d2.symm
  subst d1 d2
  rw [id_part] at c3
  rw [id_part] at d3
  refine G_lceq 2104 1543 d_Law_law_1539 d_Law_law_1540 rfl rfl (fun h1539 => ?_) (fun h1539 => ?_)
  · exact k _ _ _ _ _ ⟨c2, m1, c3.fm hW d4, d3, hW, hN⟩
  · exact absurd rfl h1539
theorem l_difference {V : GV} {d lo C E i : Nat} {S : ST} {X : XT} {FI AI : FT} {AL : LT} {P : PT} (hcg : CGL) (hL : LI C E S X FI AI AL lo) (hi : i + 6 ≤ v_sn V) (hn : v_sn V ≤ 3072) (k : LK V d lo C E i P) : G V m_Law_law (d + 11) 1545 [some (.ref (v_sb V)), some (.ref lo), some (.ref (lo + 110)), some (.int (nI i))] [] X FI AI AL P := by
  obtain ⟨h, hm, hI, hM, hW, hN⟩ := hL
  have hs := h.sh
  have hc := c_difference (V := V) (d := d + 3) (x := v_sx V (i + 1)) (y := v_sx V (i + 2)) (s := v_sx V (i + 3)) h hI hW
  refine G_aload1 1546 d_Law_law_1545 rfl ?_
  refine G_aload0 1547 d_Law_law_1546 rfl ?_
  refine G_iload3 1548 d_Law_law_1547 rfl ?_
  refine G_iconstN 1 1549 d_Law_law_1548 rfl rfl ?_
  first | refine G_iaddN 1550 d_Law_law_1549 rfl ?_ | refine G_iadd 1550 d_Law_law_1549 rfl ?_
  refine G_scald 1551 d_Law_law_1550 rfl (ix_nI (by omega) (by omega)) ?_
  refine G_aload0 1552 d_Law_law_1551 rfl ?_
  refine G_iload3 1553 d_Law_law_1552 rfl ?_
  refine G_iconstN 2 1554 d_Law_law_1553 rfl rfl ?_
  first | refine G_iaddN 1555 d_Law_law_1554 rfl ?_ | refine G_iadd 1555 d_Law_law_1554 rfl ?_
  refine G_scald 1556 d_Law_law_1555 rfl (ix_nI (by omega) (by omega)) ?_
  refine G_aload0 1557 d_Law_law_1556 rfl ?_
  refine G_iload3 1558 d_Law_law_1557 rfl ?_
  refine G_iconstN 3 1559 d_Law_law_1558 rfl rfl ?_
  first | refine G_iaddN 1560 d_Law_law_1559 rfl ?_ | refine G_iadd 1560 d_Law_law_1559 rfl ?_
  refine G_scald 1561 d_Law_law_1560 rfl (ix_nI (by omega) (by omega)) ?_
  refine G_invV3 1564 d_Law_law_1561 rfl e_Law_169 M_Alg_difference rfl hs (Nat.le_of_ble_eq_true rfl) (Nat.le_of_ble_eq_true rfl) rfl (G.conseq (hc) (fun r1561 X1561 FI1561 AI1561 AL1561 h1561 => ?_))
  obtain ⟨c1, c2, c3, c4⟩ := h1561
  subst c1
  obtain ⟨m1, m2⟩ := LI.m1 hm hM c4
  have ms := m1.1
  have hd := m_difference (V := V) (d := d + 3) (x := v_sx V (i + 1)) (y := v_sx V (i + 2)) (s := v_sx V (i + 3)) m1 m2 hW
  refine G_aload2 1565 d_Law_law_1564 rfl ?_
  refine G_aload0 1566 d_Law_law_1565 rfl ?_
  refine G_iload3 1567 d_Law_law_1566 rfl ?_
  refine G_iconstN 1 1568 d_Law_law_1567 rfl rfl ?_
  first | refine G_iaddN 1569 d_Law_law_1568 rfl ?_ | refine G_iadd 1569 d_Law_law_1568 rfl ?_
  refine G_scald 1570 d_Law_law_1569 rfl (ix_nI (by omega) (by omega)) ?_
  refine G_aload0 1571 d_Law_law_1570 rfl ?_
  refine G_iload3 1572 d_Law_law_1571 rfl ?_
  refine G_iconstN 2 1573 d_Law_law_1572 rfl rfl ?_
  first | refine G_iaddN 1574 d_Law_law_1573 rfl ?_ | refine G_iadd 1574 d_Law_law_1573 rfl ?_
  refine G_scald 1575 d_Law_law_1574 rfl (ix_nI (by omega) (by omega)) ?_
  refine G_aload0 1576 d_Law_law_1575 rfl ?_
  refine G_iload3 1577 d_Law_law_1576 rfl ?_
  refine G_iconstN 3 1578 d_Law_law_1577 rfl rfl ?_
  first | refine G_iaddN 1579 d_Law_law_1578 rfl ?_ | refine G_iadd 1579 d_Law_law_1578 rfl ?_
  refine G_scald 1580 d_Law_law_1579 rfl (ix_nI (by omega) (by omega)) ?_
  refine G_invV3 1583 d_Law_law_1580 rfl e_Law_172 M_Mod_difference rfl ms (Nat.le_of_ble_eq_true rfl) (Nat.le_of_ble_eq_true rfl) rfl (G.conseq (hd) (fun r1580 X1580 FI1580 AI1580 AL1580 h1580 => ?_))
  obtain ⟨d1, d2, d3, d4⟩ := h1580
  replace d2 := d2.symm
  subst d1 d2
  first | refine G_iceqN 2104 1586 d_Law_law_1583 rfl rfl (by omega) (by omega) (fun h1583 => ?_) (fun h1583 => ?_) | refine G_iceq 2104 1586 d_Law_law_1583 rfl rfl (fun h1583 => ?_) (fun h1583 => ?_)
  · exact k _ _ _ _ _ ⟨c2, m1, c3.fm (ws_difference hW) d4, d3, ws_difference hW, ns_difference hN⟩
  · exact absurd rfl h1583
theorem l_open {V : GV} {d lo C E i : Nat} {S : ST} {X : XT} {FI AI : FT} {AL : LT} {P : PT} (hcg : CGL) (hL : LI C E S X FI AI AL lo) (hi : i + 6 ≤ v_sn V) (hn : v_sn V ≤ 3072) (k : LK V d lo C E i P) : G V m_Law_law (d + 11) 1588 [some (.ref (v_sb V)), some (.ref lo), some (.ref (lo + 110)), some (.int (nI i))] [] X FI AI AL P := by
  obtain ⟨h, hm, hI, hM, hW, hN⟩ := hL
  have hs := h.sh
  have hc := c_open (V := V) (d := d + 4) (x := v_sx V (i + 1)) h hI hW
  refine G_aload1 1589 d_Law_law_1588 rfl ?_
  refine G_aload0 1590 d_Law_law_1589 rfl ?_
  refine G_iload3 1591 d_Law_law_1590 rfl ?_
  refine G_iconstN 1 1592 d_Law_law_1591 rfl rfl ?_
  first | refine G_iaddN 1593 d_Law_law_1592 rfl ?_ | refine G_iadd 1593 d_Law_law_1592 rfl ?_
  refine G_scald 1594 d_Law_law_1593 rfl (ix_nI (by omega) (by omega)) ?_
  refine G_invV1 1597 d_Law_law_1594 rfl e_Law_173 M_Alg_open rfl hs (Nat.le_of_ble_eq_true rfl) (Nat.le_of_ble_eq_true rfl) rfl (G.conseq (hc) (fun r1594 X1594 FI1594 AI1594 AL1594 h1594 => ?_))
  obtain ⟨c1, c2, c3, c4⟩ := h1594
  subst c1
  obtain ⟨m1, m2⟩ := LI.m1 hm hM c4
  have ms := m1.1
  have hd := m_open (V := V) (d := d + 4) (x := v_sx V (i + 1)) m1 m2 hW
  refine G_aload2 1598 d_Law_law_1597 rfl ?_
  refine G_aload0 1599 d_Law_law_1598 rfl ?_
  refine G_iload3 1600 d_Law_law_1599 rfl ?_
  refine G_iconstN 1 1601 d_Law_law_1600 rfl rfl ?_
  first | refine G_iaddN 1602 d_Law_law_1601 rfl ?_ | refine G_iadd 1602 d_Law_law_1601 rfl ?_
  refine G_scald 1603 d_Law_law_1602 rfl (ix_nI (by omega) (by omega)) ?_
  refine G_invV1 1606 d_Law_law_1603 rfl e_Law_176 M_Mod_open rfl ms (Nat.le_of_ble_eq_true rfl) (Nat.le_of_ble_eq_true rfl) rfl (G.conseq (hd) (fun r1603 X1603 FI1603 AI1603 AL1603 h1603 => ?_))
  obtain ⟨d1, d2, d3, d4⟩ := h1603
  replace d2 := d2.symm
  subst d1 d2
  rw [id_open] at c3
  rw [id_open] at d3
  first | refine G_iceqN 2104 1609 d_Law_law_1606 rfl rfl (by omega) (by omega) (fun h1606 => ?_) (fun h1606 => ?_) | refine G_iceq 2104 1609 d_Law_law_1606 rfl rfl (fun h1606 => ?_) (fun h1606 => ?_)
  · exact k _ _ _ _ _ ⟨c2, m1, c3.fm hW d4, d3, hW, hN⟩
  · exact absurd rfl h1606
theorem l_complete {V : GV} {d lo C E i : Nat} {S : ST} {X : XT} {FI AI : FT} {AL : LT} {P : PT} (hcg : CGL) (hL : LI C E S X FI AI AL lo) (hi : i + 6 ≤ v_sn V) (hn : v_sn V ≤ 3072) (k : LK V d lo C E i P) : G V m_Law_law (d + 11) 1611 [some (.ref (v_sb V)), some (.ref lo), some (.ref (lo + 110)), some (.int (nI i))] [] X FI AI AL P := by
  obtain ⟨h, hm, hI, hM, hW, hN⟩ := hL
  have hs := h.sh
  have hc := c_complete (V := V) (d := d + 3) (x := v_sx V (i + 1)) h hI hW
  refine G_aload1 1612 d_Law_law_1611 rfl ?_
  refine G_aload0 1613 d_Law_law_1612 rfl ?_
  refine G_iload3 1614 d_Law_law_1613 rfl ?_
  refine G_iconstN 1 1615 d_Law_law_1614 rfl rfl ?_
  first | refine G_iaddN 1616 d_Law_law_1615 rfl ?_ | refine G_iadd 1616 d_Law_law_1615 rfl ?_
  refine G_scald 1617 d_Law_law_1616 rfl (ix_nI (by omega) (by omega)) ?_
  refine G_invV1 1620 d_Law_law_1617 rfl e_Law_177 M_Alg_complete rfl hs (Nat.le_of_ble_eq_true rfl) (Nat.le_of_ble_eq_true rfl) rfl (G.conseq (hc) (fun r1617 X1617 FI1617 AI1617 AL1617 h1617 => ?_))
  obtain ⟨c1, c2, c3, c4⟩ := h1617
  subst c1
  obtain ⟨m1, m2⟩ := LI.m1 hm hM c4
  have ms := m1.1
  have hd := m_complete (V := V) (d := d + 2) (x := v_sx V (i + 1)) m1 m2 hW
  refine G_aload2 1621 d_Law_law_1620 rfl ?_
  refine G_aload0 1622 d_Law_law_1621 rfl ?_
  refine G_iload3 1623 d_Law_law_1622 rfl ?_
  refine G_iconstN 1 1624 d_Law_law_1623 rfl rfl ?_
  first | refine G_iaddN 1625 d_Law_law_1624 rfl ?_ | refine G_iadd 1625 d_Law_law_1624 rfl ?_
  refine G_scald 1626 d_Law_law_1625 rfl (ix_nI (by omega) (by omega)) ?_
  refine G_invV1 1629 d_Law_law_1626 rfl e_Law_180 M_Mod_complete rfl ms (Nat.le_of_ble_eq_true rfl) (Nat.le_of_ble_eq_true rfl) rfl (G.conseq (hd) (fun r1626 X1626 FI1626 AI1626 AL1626 h1626 => ?_))
  obtain ⟨d1, d2, d3, d4⟩ := h1626
  replace d2 := d2.symm
  subst d1 d2
  first | refine G_iceqN 2104 1632 d_Law_law_1629 rfl rfl (by omega) (by omega) (fun h1629 => ?_) (fun h1629 => ?_) | refine G_iceq 2104 1632 d_Law_law_1629 rfl rfl (fun h1629 => ?_) (fun h1629 => ?_)
  · exact k _ _ _ _ _ ⟨c2, m1, c3.fm (ws_complete hW) d4, d3, ws_complete hW, ns_complete hN⟩
  · exact absurd rfl h1629
theorem l_wouldGrow {V : GV} {d lo C E i : Nat} {S : ST} {X : XT} {FI AI : FT} {AL : LT} {P : PT} (hcg : CGL) (hL : LI C E S X FI AI AL lo) (hi : i + 6 ≤ v_sn V) (hn : v_sn V ≤ 3072) (k : LK V d lo C E i P) : G V m_Law_law (d + 11) 1634 [some (.ref (v_sb V)), some (.ref lo), some (.ref (lo + 110)), some (.int (nI i))] [] X FI AI AL P := by
  obtain ⟨h, hm, hI, hM, hW, hN⟩ := hL
  have hs := h.sh
  have hc := c_wouldGrow (V := V) (d := d + 3) (x := v_sx V (i + 1)) (w := v_sx V (i + 2)) h hI hW
  refine G_aload1 1635 d_Law_law_1634 rfl ?_
  refine G_aload0 1636 d_Law_law_1635 rfl ?_
  refine G_iload3 1637 d_Law_law_1636 rfl ?_
  refine G_iconstN 1 1638 d_Law_law_1637 rfl rfl ?_
  first | refine G_iaddN 1639 d_Law_law_1638 rfl ?_ | refine G_iadd 1639 d_Law_law_1638 rfl ?_
  refine G_scald 1640 d_Law_law_1639 rfl (ix_nI (by omega) (by omega)) ?_
  refine G_aload0 1641 d_Law_law_1640 rfl ?_
  refine G_iload3 1642 d_Law_law_1641 rfl ?_
  refine G_iconstN 2 1643 d_Law_law_1642 rfl rfl ?_
  first | refine G_iaddN 1644 d_Law_law_1643 rfl ?_ | refine G_iadd 1644 d_Law_law_1643 rfl ?_
  refine G_scald 1645 d_Law_law_1644 rfl (ix_nI (by omega) (by omega)) ?_
  refine G_invV2 1648 d_Law_law_1645 rfl e_Law_181 M_Alg_wouldGrow rfl hs (Nat.le_of_ble_eq_true rfl) (Nat.le_of_ble_eq_true rfl) rfl (G.conseq (hc) (fun r1645 X1645 FI1645 AI1645 AL1645 h1645 => ?_))
  obtain ⟨c1, c2, c3, c4⟩ := h1645
  subst c1
  obtain ⟨m1, m2⟩ := LI.m1 hm hM c4
  have ms := m1.1
  have hd := m_would (V := V) (d := d + 2) (x := v_sx V (i + 1)) (w := v_sx V (i + 2)) m1 m2 hW
  refine G_aload2 1649 d_Law_law_1648 rfl ?_
  refine G_aload0 1650 d_Law_law_1649 rfl ?_
  refine G_iload3 1651 d_Law_law_1650 rfl ?_
  refine G_iconstN 1 1652 d_Law_law_1651 rfl rfl ?_
  first | refine G_iaddN 1653 d_Law_law_1652 rfl ?_ | refine G_iadd 1653 d_Law_law_1652 rfl ?_
  refine G_scald 1654 d_Law_law_1653 rfl (ix_nI (by omega) (by omega)) ?_
  refine G_aload0 1655 d_Law_law_1654 rfl ?_
  refine G_iload3 1656 d_Law_law_1655 rfl ?_
  refine G_iconstN 2 1657 d_Law_law_1656 rfl rfl ?_
  first | refine G_iaddN 1658 d_Law_law_1657 rfl ?_ | refine G_iadd 1658 d_Law_law_1657 rfl ?_
  refine G_scald 1659 d_Law_law_1658 rfl (ix_nI (by omega) (by omega)) ?_
  refine G_invV2 1662 d_Law_law_1659 rfl e_Law_184 M_Mod_wouldGrow rfl ms (Nat.le_of_ble_eq_true rfl) (Nat.le_of_ble_eq_true rfl) rfl (G.conseq (hd) (fun r1659 X1659 FI1659 AI1659 AL1659 h1659 => ?_))
  obtain ⟨d1, d2, d3, d4⟩ := h1659
  replace d2 := d2.symm
  subst d1 d2
  rw [id_wouldGrow] at c3
  rw [id_wouldGrow] at d3
  first | refine G_iceqN 2104 1665 d_Law_law_1662 rfl rfl (by omega) (by omega) (fun h1662 => ?_) (fun h1662 => ?_) | refine G_iceq 2104 1665 d_Law_law_1662 rfl rfl (fun h1662 => ?_) (fun h1662 => ?_)
  · exact k _ _ _ _ _ ⟨c2, m1, c3.fm hW d4, d3, hW, hN⟩
  · exact absurd rfl h1662
theorem l_certified {V : GV} {d lo C E i : Nat} {S : ST} {X : XT} {FI AI : FT} {AL : LT} {P : PT} (hcg : CGL) (hL : LI C E S X FI AI AL lo) (hi : i + 6 ≤ v_sn V) (hn : v_sn V ≤ 3072) (k : LK V d lo C E i P) : G V m_Law_law (d + 11) 1667 [some (.ref (v_sb V)), some (.ref lo), some (.ref (lo + 110)), some (.int (nI i))] [] X FI AI AL P := by
  obtain ⟨h, hm, hI, hM, hW, hN⟩ := hL
  have hs := h.sh
  have hc := c_certified (V := V) (d := d + 5) (x := v_sx V (i + 1)) h hI hW (hcg S hW)
  refine G_aload1 1668 d_Law_law_1667 rfl ?_
  refine G_aload0 1669 d_Law_law_1668 rfl ?_
  refine G_iload3 1670 d_Law_law_1669 rfl ?_
  refine G_iconstN 1 1671 d_Law_law_1670 rfl rfl ?_
  first | refine G_iaddN 1672 d_Law_law_1671 rfl ?_ | refine G_iadd 1672 d_Law_law_1671 rfl ?_
  refine G_scald 1673 d_Law_law_1672 rfl (ix_nI (by omega) (by omega)) ?_
  refine G_invV1 1676 d_Law_law_1673 rfl e_Law_185 M_Alg_certified rfl hs (Nat.le_of_ble_eq_true rfl) (Nat.le_of_ble_eq_true rfl) rfl (G.conseq (hc) (fun r1673 X1673 FI1673 AI1673 AL1673 h1673 => ?_))
  obtain ⟨c1, c2, c3, c4⟩ := h1673
  subst c1
  obtain ⟨m1, m2⟩ := LI.m1 hm hM c4
  have ms := m1.1
  have hd := m_certified (V := V) (d := d + 3) (x := v_sx V (i + 1)) m1 m2 hW
  refine G_aload2 1677 d_Law_law_1676 rfl ?_
  refine G_aload0 1678 d_Law_law_1677 rfl ?_
  refine G_iload3 1679 d_Law_law_1678 rfl ?_
  refine G_iconstN 1 1680 d_Law_law_1679 rfl rfl ?_
  first | refine G_iaddN 1681 d_Law_law_1680 rfl ?_ | refine G_iadd 1681 d_Law_law_1680 rfl ?_
  refine G_scald 1682 d_Law_law_1681 rfl (ix_nI (by omega) (by omega)) ?_
  refine G_invV1 1685 d_Law_law_1682 rfl e_Law_188 M_Mod_certified rfl ms (Nat.le_of_ble_eq_true rfl) (Nat.le_of_ble_eq_true rfl) rfl (G.conseq (hd) (fun r1682 X1682 FI1682 AI1682 AL1682 h1682 => ?_))
  obtain ⟨d1, d2, d3, d4⟩ := h1682
  replace d2 := d2.symm
  subst d1 d2
  rw [id_certified] at c3
  rw [id_certified] at d3
  first | refine G_iceqN 2104 1688 d_Law_law_1685 rfl rfl (by omega) (by omega) (fun h1685 => ?_) (fun h1685 => ?_) | refine G_iceq 2104 1688 d_Law_law_1685 rfl rfl (fun h1685 => ?_) (fun h1685 => ?_)
  · exact k _ _ _ _ _ ⟨c2, m1, c3.fm hW d4, d3, hW, hN⟩
  · exact absurd rfl h1685
theorem l_subduct {V : GV} {d lo C E i : Nat} {S : ST} {X : XT} {FI AI : FT} {AL : LT} {P : PT} (hcg : CGL) (hL : LI C E S X FI AI AL lo) (hi : i + 6 ≤ v_sn V) (hn : v_sn V ≤ 3072) (k : LK V d lo C E i P) : G V m_Law_law (d + 11) 1690 [some (.ref (v_sb V)), some (.ref lo), some (.ref (lo + 110)), some (.int (nI i))] [] X FI AI AL P := by
  obtain ⟨h, hm, hI, hM, hW, hN⟩ := hL
  have hs := h.sh
  have hc := c_subduct (V := V) (d := d + 5) (s := v_sx V (i + 1)) h hI hW
  refine G_aload1 1691 d_Law_law_1690 rfl ?_
  refine G_aload0 1692 d_Law_law_1691 rfl ?_
  refine G_iload3 1693 d_Law_law_1692 rfl ?_
  refine G_iconstN 1 1694 d_Law_law_1693 rfl rfl ?_
  first | refine G_iaddN 1695 d_Law_law_1694 rfl ?_ | refine G_iadd 1695 d_Law_law_1694 rfl ?_
  refine G_scald 1696 d_Law_law_1695 rfl (ix_nI (by omega) (by omega)) ?_
  refine G_invV1 1699 d_Law_law_1696 rfl e_Law_189 M_Alg_subduct rfl hs (Nat.le_of_ble_eq_true rfl) (Nat.le_of_ble_eq_true rfl) rfl (G.conseq (hc) (fun r1696 X1696 FI1696 AI1696 AL1696 h1696 => ?_))
  obtain ⟨c1, c2, c3, c4⟩ := h1696
  subst c1
  obtain ⟨m1, m2⟩ := LI.m1 hm hM c4
  have ms := m1.1
  have hd := m_subduct (V := V) (d := d + 4) (s := v_sx V (i + 1)) m1 m2 hW
  refine G_aload2 1700 d_Law_law_1699 rfl ?_
  refine G_aload0 1701 d_Law_law_1700 rfl ?_
  refine G_iload3 1702 d_Law_law_1701 rfl ?_
  refine G_iconstN 1 1703 d_Law_law_1702 rfl rfl ?_
  first | refine G_iaddN 1704 d_Law_law_1703 rfl ?_ | refine G_iadd 1704 d_Law_law_1703 rfl ?_
  refine G_scald 1705 d_Law_law_1704 rfl (ix_nI (by omega) (by omega)) ?_
  refine G_invV1 1708 d_Law_law_1705 rfl e_Law_192 M_Mod_subduct rfl ms (Nat.le_of_ble_eq_true rfl) (Nat.le_of_ble_eq_true rfl) rfl (G.conseq (hd) (fun r1705 X1705 FI1705 AI1705 AL1705 h1705 => ?_))
  obtain ⟨d1, d2, d3, d4⟩ := h1705
  replace d2 := d2.symm
  subst d1 d2
  first | refine G_iceqN 2104 1711 d_Law_law_1708 rfl rfl (by omega) (by omega) (fun h1708 => ?_) (fun h1708 => ?_) | refine G_iceq 2104 1711 d_Law_law_1708 rfl rfl (fun h1708 => ?_) (fun h1708 => ?_)
  · exact k _ _ _ _ _ ⟨c2, m1, c3.fm (ws_subduct hW) d4, d3, ws_subduct hW, ns_subduct hN⟩
  · exact absurd rfl h1708
