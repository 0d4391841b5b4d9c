/-! The law's cases -/
set_option maxRecDepth 100000 in
set_option maxHeartbeats 4000000 in
theorem lc_untriple {p : Program} {l : Launch} {e : Env} {s : State} {m : MethodId} {below : List Frame} {meth : Method} {c : Code} {Q : State → Prop} {w : Wd} {sA : Nat → Nat} {b L : Nat} {xs : Nat → Int32} {A : Nat → Prop} (hst : l.stackTraces = false) (X : LC p s m meth c w sA b L xs A) (σ : St) (h : RX σ σ) (i : Nat) (hi : i + 6 ≤ L) (cells slots : Nat) (hc : cells + 20 ≤ 601024) (hs : slots + 120 ≤ 7293034) (kont : ∀ σ9, RX σ9 σ9 → G p l e room_1 s m #[Value.ref b] below meth c Q w A 8 σ9 (cells + 20) (slots + 120) 2093 [(4, .int (nI i)), (3, .ref (w.1 30)), (2, .ref (w.1 0)), (1, .ref (w.1 31)), (0, .ref b)] []) : G p l e room_1 s m #[Value.ref b] below meth c Q w A 8 σ cells slots 1267 [(4, .int (nI i)), (3, .ref (w.1 30)), (2, .ref (w.1 0)), (1, .ref (w.1 31)), (0, .ref b)] [] := by
  obtain ⟨C, hXF, hN, hX, hbl, hbA, _, _, _, hL⟩ := X
  obtain ⟨P, hM, hk⟩ := k_untriple l w σ h 
  refine g_aload_n (pc9 := 1268) C rfl 3 dL_law_1267 rfl rfl ?_
  refine g_callVi (nn := 0) (rest := []) (pc9 := 1271) C rfl 31 [] rfl dL_law_1268 hM gL_law_X10_untriple (by decide) (ce_31 w σ) rfl rfl rfl rfl rfl (by decide +kernel) ⟨by decide, by decide⟩ rfl (Nat.le_of_ble_eq_true rfl) ⟨by show _ ≤ 601024; omega, by show _ ≤ 7293034; omega⟩ (fun r_1 σ_1 q_1 => ?_)
  obtain ⟨PM, hM9, hk9⟩ := hk r_1 σ_1 q_1
  refine g_aload_n (pc9 := 1272) C rfl 2 dL_law_1271 rfl rfl ?_
  refine g_callVi (nn := 0) (rest := [.int r_1]) (pc9 := 1275) C rfl 0 [] rfl dL_law_1272 hM9 gL_law_X11_untriple (by decide) (ce_0 w σ_1) rfl rfl rfl rfl rfl (by decide +kernel) ⟨by decide, by decide⟩ rfl (Nat.le_of_ble_eq_true rfl) ⟨by show _ ≤ 601024; omega, by show _ ≤ 7293034; omega⟩ (fun r_2 σ_2 q_2 => ?_)
  obtain ⟨t1, t2⟩ := hk9 r_2 σ_2 q_2
  refine g_icmp_eq (pc9 := 1278) C rfl 2093 dL_law_1275 rfl (fun _ => ?_) (fun z => absurd t1.symm z)
  exact g_wid (by omega) (by omega) (g_sub [0, 1, 2, 3, 4] [(4, .int (nI i)), (3, .ref (w.1 30)), (2, .ref (w.1 0)), (1, .ref (w.1 31)), (0, .ref b)] rfl (kont σ_2 t2))
set_option maxRecDepth 100000 in
set_option maxHeartbeats 4000000 in
theorem lc_build {p : Program} {l : Launch} {e : Env} {s : State} {m : MethodId} {below : List Frame} {meth : Method} {c : Code} {Q : State → Prop} {w : Wd} {sA : Nat → Nat} {b L : Nat} {xs : Nat → Int32} {A : Nat → Prop} (hst : l.stackTraces = false) (X : LC p s m meth c w sA b L xs A) (σ : St) (h : RX σ σ) (i : Nat) (hi : i + 6 ≤ L) (cells slots : Nat) (hc : cells + 20 ≤ 601024) (hs : slots + 120 ≤ 7293034) (kont : ∀ σ9, RX σ9 σ9 → G p l e room_1 s m #[Value.ref b] below meth c Q w A 8 σ9 (cells + 20) (slots + 120) 2093 [(4, .int (nI i)), (3, .ref (w.1 30)), (2, .ref (w.1 0)), (1, .ref (w.1 31)), (0, .ref b)] []) : G p l e room_1 s m #[Value.ref b] below meth c Q w A 8 σ cells slots 1280 [(4, .int (nI i)), (3, .ref (w.1 30)), (2, .ref (w.1 0)), (1, .ref (w.1 31)), (0, .ref b)] [] := by
  obtain ⟨C, hXF, hN, hX, hbl, hbA, _, _, _, hL⟩ := X
  obtain ⟨P, hM, hk⟩ := k_build l hst w sA σ h (xs (i + 1)) (xs (i + 2))
  refine g_aload_n (pc9 := 1281) C rfl 3 dL_law_1280 rfl rfl ?_
  refine g_aload_n (pc9 := 1282) C rfl 4 dL_law_1281 rfl rfl ?_
  refine g_iload (pc9 := 1284) C rfl 0 dL_law_1282 rfl ?_
  refine g_iconst (pc9 := 1285) C rfl (nI 1) dL_law_1284 rfl ?_
  refine g_iaddN (pc9 := 1286) C rfl dL_law_1285 ?_
  refine g_scr (pc9 := 1287) C rfl hX hbl hbA (i + 1) rfl (by omega) (by omega) dL_law_1286 ?_
  refine g_aload_n (pc9 := 1288) C rfl 4 dL_law_1287 rfl rfl ?_
  refine g_iload (pc9 := 1290) C rfl 0 dL_law_1288 rfl ?_
  refine g_iconst (pc9 := 1291) C rfl (nI 2) dL_law_1290 rfl ?_
  refine g_iaddN (pc9 := 1292) C rfl dL_law_1291 ?_
  refine g_scr (pc9 := 1293) C rfl hX hbl hbA (i + 2) rfl (by omega) (by omega) dL_law_1292 ?_
  refine g_aload_n (pc9 := 1294) C rfl 1 dL_law_1293 rfl rfl ?_
  refine w_callSi (rest := []) C hXF hN (pc9 := 1297) rfl [.ref (w.1 31), .int (xs (i + 1)), .int (xs (i + 2)), .ref (w.1 30)] (nn := 4) rfl dL_law_1294 hM gL_law_L_build rfl (by decide +kernel) ⟨by decide, by decide⟩ rfl (Nat.le_of_ble_eq_true rfl) ⟨by show _ ≤ 601024; omega, by show _ ≤ 7293034; omega⟩ (fun r_1 σ_1 q_1 => ?_)
  obtain ⟨PM, hM9, hk9⟩ := hk r_1 σ_1 q_1
  refine g_istore (pc9 := 1299) C rfl [(5, .int r_1), (4, .int (nI i)), (3, .ref (w.1 30)), (2, .ref (w.1 0)), (1, .ref (w.1 31)), (0, .ref b)] dL_law_1297 (by decide) rfl ?_
  refine g_aload_n (pc9 := 1300) C rfl 3 dL_law_1299 rfl rfl ?_
  refine g_aload_n (pc9 := 1301) C rfl 5 dL_law_1300 rfl rfl ?_
  refine g_iload (pc9 := 1303) C rfl 1 dL_law_1301 rfl ?_
  refine g_iconst (pc9 := 1304) C rfl (nI 1) dL_law_1303 rfl ?_
  refine g_iaddN (pc9 := 1305) C rfl dL_law_1304 ?_
  refine g_scr (pc9 := 1306) C rfl hX hbl hbA (i + 1) rfl (by omega) (by omega) dL_law_1305 ?_
  refine g_aload_n (pc9 := 1307) C rfl 5 dL_law_1306 rfl rfl ?_
  refine g_iload (pc9 := 1309) C rfl 1 dL_law_1307 rfl ?_
  refine g_iconst (pc9 := 1310) C rfl (nI 2) dL_law_1309 rfl ?_
  refine g_iaddN (pc9 := 1311) C rfl dL_law_1310 ?_
  refine g_scr (pc9 := 1312) C rfl hX hbl hbA (i + 2) rfl (by omega) (by omega) dL_law_1311 ?_
  refine g_callVi (nn := 2) (rest := []) (pc9 := 1315) C rfl 0 [.int (xs (i + 1)), .int (xs (i + 2))] rfl dL_law_1312 hM9 gL_law_X11_build (by decide) (ce_0 w σ_1) rfl rfl rfl rfl rfl (by decide +kernel) ⟨by decide, by decide⟩ rfl (Nat.le_of_ble_eq_true rfl) ⟨by show _ ≤ 601024; omega, by show _ ≤ 7293034; omega⟩ (fun r_2 σ_2 q_2 => ?_)
  obtain ⟨t1, t2, t3⟩ := hk9 r_2 σ_2 q_2
  refine g_istore (pc9 := 1317) C rfl [(6, .int r_2), (5, .int r_1), (4, .int (nI i)), (3, .ref (w.1 30)), (2, .ref (w.1 0)), (1, .ref (w.1 31)), (0, .ref b)] dL_law_1315 (by decide) rfl ?_
  refine g_aload_n (pc9 := 1318) C rfl 4 dL_law_1317 rfl rfl ?_
  refine g_callVi (nn := 0) (rest := []) (pc9 := 1321) C rfl 0 [] rfl dL_law_1318 (m_X11_thrown l w σ_2) gL_law_X11_thrown (by decide) (ce_0 w σ_2) rfl rfl rfl rfl rfl (by decide +kernel) ⟨by decide, by decide⟩ rfl (Nat.le_of_ble_eq_true rfl) ⟨by show _ ≤ 601024; omega, by show _ ≤ 7293034; omega⟩ (fun r_3 σ_3 q_3 => ?_)
  obtain ⟨qs_3, qr_3⟩ := q_3
  rw [qs_3, qr_3, t1]
  refine g_iload (pc9 := 1323) C rfl 1 dL_law_1321 rfl ?_
  refine g_icmp_eq (pc9 := 1326) C rfl 1328 dL_law_1323 rfl (fun _ => ?_) (fun z => absurd rfl z)
  refine g_iload (pc9 := 1330) C rfl 1 dL_law_1328 rfl ?_
  refine g_if_ne (pc9 := 1333) C rfl 1345 dL_law_1330 rfl (fun _ => ?_) (fun c_1 => ?_)
  · refine g_goto C 2093 dL_law_1345 rfl ?_
    exact g_wid (by omega) (by omega) (g_sub [2, 3, 4, 5, 6] [(4, .int (nI i)), (3, .ref (w.1 30)), (2, .ref (w.1 0)), (1, .ref (w.1 31)), (0, .ref b)] rfl (kont σ_2 t3))
  · have e2 := t2 c_1
    refine g_aload_n (pc9 := 1334) C rfl 3 dL_law_1333 rfl rfl ?_
    refine g_iconst (pc9 := 1335) C rfl (nI 0) dL_law_1334 rfl ?_
    refine g_lald (pc9 := 1336) C rfl 30 0 (n := 1) (x := jA σ_2 30 0) dL_law_1335 (by decide) (ce_30 w σ_2) rfl (by decide) (by decide) rfl ?_
    refine g_iload (pc9 := 1338) C rfl 0 dL_law_1336 rfl ?_
    refine g_i2l (pc9 := 1339) C rfl dL_law_1338 ?_
    refine g_lcmp (pc9 := 1340) C rfl dL_law_1339 ?_
    refine g_if_eq (pc9 := 1343) C rfl 1345 dL_law_1340 rfl (fun _ => ?_) (fun z => absurd (lg_eq (e2)) z)
    refine g_goto C 2093 dL_law_1345 rfl ?_
    exact g_wid (by omega) (by omega) (g_sub [2, 3, 4, 5, 6] [(4, .int (nI i)), (3, .ref (w.1 30)), (2, .ref (w.1 0)), (1, .ref (w.1 31)), (0, .ref b)] rfl (kont σ_2 t3))
set_option maxRecDepth 100000 in
set_option maxHeartbeats 4000000 in
theorem lc_shown {p : Program} {l : Launch} {e : Env} {s : State} {m : MethodId} {below : List Frame} {meth : Method} {c : Code} {Q : State → Prop} {w : Wd} {sA : Nat → Nat} {b L : Nat} {xs : Nat → Int32} {A : Nat → Prop} (hst : l.stackTraces = false) (X : LC p s m meth c w sA b L xs A) (σ : St) (h : RX σ σ) (i : Nat) (hi : i + 6 ≤ L) (cells slots : Nat) (hc : cells + 20 ≤ 601024) (hs : slots + 120 ≤ 7293034) (kont : ∀ σ9, RX σ9 σ9 → G p l e room_1 s m #[Value.ref b] below meth c Q w A 8 σ9 (cells + 20) (slots + 120) 2093 [(4, .int (nI i)), (3, .ref (w.1 30)), (2, .ref (w.1 0)), (1, .ref (w.1 31)), (0, .ref b)] []) : G p l e room_1 s m #[Value.ref b] below meth c Q w A 8 σ cells slots 1348 [(4, .int (nI i)), (3, .ref (w.1 30)), (2, .ref (w.1 0)), (1, .ref (w.1 31)), (0, .ref b)] [] := by
  obtain ⟨C, hXF, hN, hX, hbl, hbA, _, _, _, hL⟩ := X
  obtain ⟨P, hM, hk⟩ := k_shown l hst w sA σ h (xs (i + 1))
  refine g_aload_n (pc9 := 1349) C rfl 3 dL_law_1348 rfl rfl ?_
  refine g_aload_n (pc9 := 1350) C rfl 4 dL_law_1349 rfl rfl ?_
  refine g_iload (pc9 := 1352) C rfl 0 dL_law_1350 rfl ?_
  refine g_iconst (pc9 := 1353) C rfl (nI 1) dL_law_1352 rfl ?_
  refine g_iaddN (pc9 := 1354) C rfl dL_law_1353 ?_
  refine g_scr (pc9 := 1355) C rfl hX hbl hbA (i + 1) rfl (by omega) (by omega) dL_law_1354 ?_
  refine g_aload_n (pc9 := 1356) C rfl 1 dL_law_1355 rfl rfl ?_
  refine w_callSi (rest := []) C hXF hN (pc9 := 1359) rfl [.ref (w.1 31), .int (xs (i + 1)), .ref (w.1 30)] (nn := 3) rfl dL_law_1356 hM gL_law_L_shown rfl (by decide +kernel) ⟨by decide, by decide⟩ rfl (Nat.le_of_ble_eq_true rfl) ⟨by show _ ≤ 601024; omega, by show _ ≤ 7293034; omega⟩ (fun r_1 σ_1 q_1 => ?_)
  obtain ⟨PM, hM9, hk9⟩ := hk r_1 σ_1 q_1
  refine g_istore (pc9 := 1361) C rfl [(5, .int r_1), (4, .int (nI i)), (3, .ref (w.1 30)), (2, .ref (w.1 0)), (1, .ref (w.1 31)), (0, .ref b)] dL_law_1359 (by decide) rfl ?_
  refine g_aload_n (pc9 := 1362) C rfl 3 dL_law_1361 rfl rfl ?_
  refine g_aload_n (pc9 := 1363) C rfl 5 dL_law_1362 rfl rfl ?_
  refine g_iload (pc9 := 1365) C rfl 1 dL_law_1363 rfl ?_
  refine g_iconst (pc9 := 1366) C rfl (nI 1) dL_law_1365 rfl ?_
  refine g_iaddN (pc9 := 1367) C rfl dL_law_1366 ?_
  refine g_scr (pc9 := 1368) C rfl hX hbl hbA (i + 1) rfl (by omega) (by omega) dL_law_1367 ?_
  refine g_callVi (nn := 1) (rest := []) (pc9 := 1371) C rfl 0 [.int (xs (i + 1))] rfl dL_law_1368 hM9 gL_law_X11_shown (by decide) (ce_0 w σ_1) rfl rfl rfl rfl rfl (by decide +kernel) ⟨by decide, by decide⟩ rfl (Nat.le_of_ble_eq_true rfl) ⟨by show _ ≤ 601024; omega, by show _ ≤ 7293034; omega⟩ (fun r_2 σ_2 q_2 => ?_)
  obtain ⟨t1, t2, t3⟩ := hk9 r_2 σ_2 q_2
  refine g_istore (pc9 := 1373) C rfl [(6, .int r_2), (5, .int r_1), (4, .int (nI i)), (3, .ref (w.1 30)), (2, .ref (w.1 0)), (1, .ref (w.1 31)), (0, .ref b)] dL_law_1371 (by decide) rfl ?_
  refine g_aload_n (pc9 := 1374) C rfl 4 dL_law_1373 rfl rfl ?_
  refine g_callVi (nn := 0) (rest := []) (pc9 := 1377) C rfl 0 [] rfl dL_law_1374 (m_X11_thrown l w σ_2) gL_law_X11_thrown (by decide) (ce_0 w σ_2) rfl rfl rfl rfl rfl (by decide +kernel) ⟨by decide, by decide⟩ rfl (Nat.le_of_ble_eq_true rfl) ⟨by show _ ≤ 601024; omega, by show _ ≤ 7293034; omega⟩ (fun r_3 σ_3 q_3 => ?_)
  obtain ⟨qs_3, qr_3⟩ := q_3
  rw [qs_3, qr_3, t1]
  refine g_iload (pc9 := 1379) C rfl 1 dL_law_1377 rfl ?_
  refine g_icmp_eq (pc9 := 1382) C rfl 1384 dL_law_1379 rfl (fun _ => ?_) (fun z => absurd rfl z)
  refine g_iload (pc9 := 1386) C rfl 1 dL_law_1384 rfl ?_
  refine g_if_ne (pc9 := 1389) C rfl 1401 dL_law_1386 rfl (fun _ => ?_) (fun c_1 => ?_)
  · refine g_goto C 2093 dL_law_1401 rfl ?_
    exact g_wid (by omega) (by omega) (g_sub [2, 3, 4, 5, 6] [(4, .int (nI i)), (3, .ref (w.1 30)), (2, .ref (w.1 0)), (1, .ref (w.1 31)), (0, .ref b)] rfl (kont σ_2 t3))
  · have e2 := t2 c_1
    refine g_aload_n (pc9 := 1390) C rfl 3 dL_law_1389 rfl rfl ?_
    refine g_iconst (pc9 := 1391) C rfl (nI 0) dL_law_1390 rfl ?_
    refine g_lald (pc9 := 1392) C rfl 30 0 (n := 1) (x := jA σ_2 30 0) dL_law_1391 (by decide) (ce_30 w σ_2) rfl (by decide) (by decide) rfl ?_
    refine g_iload (pc9 := 1394) C rfl 0 dL_law_1392 rfl ?_
    refine g_i2l (pc9 := 1395) C rfl dL_law_1394 ?_
    refine g_lcmp (pc9 := 1396) C rfl dL_law_1395 ?_
    refine g_if_eq (pc9 := 1399) C rfl 1401 dL_law_1396 rfl (fun _ => ?_) (fun z => absurd (lg_eq (e2)) z)
    refine g_goto C 2093 dL_law_1401 rfl ?_
    exact g_wid (by omega) (by omega) (g_sub [2, 3, 4, 5, 6] [(4, .int (nI i)), (3, .ref (w.1 30)), (2, .ref (w.1 0)), (1, .ref (w.1 31)), (0, .ref b)] rfl (kont σ_2 t3))
set_option maxRecDepth 100000 in
set_option maxHeartbeats 4000000 in
theorem lc_sign {p : Program} {l : Launch} {e : Env} {s : State} {m : MethodId} {below : List Frame} {meth : Method} {c : Code} {Q : State → Prop} {w : Wd} {sA : Nat → Nat} {b L : Nat} {xs : Nat → Int32} {A : Nat → Prop} (hst : l.stackTraces = false) (X : LC p s m meth c w sA b L xs A) (σ : St) (h : RX σ σ) (i : Nat) (hi : i + 6 ≤ L) (cells slots : Nat) (hc : cells + 20 ≤ 601024) (hs : slots + 120 ≤ 7293034) (kont : ∀ σ9, RX σ9 σ9 → G p l e room_1 s m #[Value.ref b] below meth c Q w A 8 σ9 (cells + 20) (slots + 120) 2093 [(4, .int (nI i)), (3, .ref (w.1 30)), (2, .ref (w.1 0)), (1, .ref (w.1 31)), (0, .ref b)] []) : G p l e room_1 s m #[Value.ref b] below meth c Q w A 8 σ cells slots 1404 [(4, .int (nI i)), (3, .ref (w.1 30)), (2, .ref (w.1 0)), (1, .ref (w.1 31)), (0, .ref b)] [] := by
  obtain ⟨C, hXF, hN, hX, hbl, hbA, _, _, _, hL⟩ := X
  obtain ⟨P, hM, hk⟩ := k_sign l hst w sA σ h (xs (i + 1))
  refine g_aload_n (pc9 := 1405) C rfl 3 dL_law_1404 rfl rfl ?_
  refine g_aload_n (pc9 := 1406) C rfl 4 dL_law_1405 rfl rfl ?_
  refine g_iload (pc9 := 1408) C rfl 0 dL_law_1406 rfl ?_
  refine g_iconst (pc9 := 1409) C rfl (nI 1) dL_law_1408 rfl ?_
  refine g_iaddN (pc9 := 1410) C rfl dL_law_1409 ?_
  refine g_scr (pc9 := 1411) C rfl hX hbl hbA (i + 1) rfl (by omega) (by omega) dL_law_1410 ?_
  refine g_aload_n (pc9 := 1412) C rfl 1 dL_law_1411 rfl rfl ?_
  refine w_callSi (rest := []) C hXF hN (pc9 := 1415) rfl [.ref (w.1 31), .int (xs (i + 1)), .ref (w.1 30)] (nn := 3) rfl dL_law_1412 hM gL_law_L_sign rfl (by decide +kernel) ⟨by decide, by decide⟩ rfl (Nat.le_of_ble_eq_true rfl) ⟨by show _ ≤ 601024; omega, by show _ ≤ 7293034; omega⟩ (fun r_1 σ_1 q_1 => ?_)
  obtain ⟨PM, hM9, hk9⟩ := hk r_1 σ_1 q_1
  refine g_istore (pc9 := 1417) C rfl [(5, .int r_1), (4, .int (nI i)), (3, .ref (w.1 30)), (2, .ref (w.1 0)), (1, .ref (w.1 31)), (0, .ref b)] dL_law_1415 (by decide) rfl ?_
  refine g_aload_n (pc9 := 1418) C rfl 3 dL_law_1417 rfl rfl ?_
  refine g_aload_n (pc9 := 1419) C rfl 5 dL_law_1418 rfl rfl ?_
  refine g_iload (pc9 := 1421) C rfl 1 dL_law_1419 rfl ?_
  refine g_iconst (pc9 := 1422) C rfl (nI 1) dL_law_1421 rfl ?_
  refine g_iaddN (pc9 := 1423) C rfl dL_law_1422 ?_
  refine g_scr (pc9 := 1424) C rfl hX hbl hbA (i + 1) rfl (by omega) (by omega) dL_law_1423 ?_
  refine g_callVi (nn := 1) (rest := []) (pc9 := 1427) C rfl 0 [.int (xs (i + 1))] rfl dL_law_1424 hM9 gL_law_X11_sign (by decide) (ce_0 w σ_1) rfl rfl rfl rfl rfl (by decide +kernel) ⟨by decide, by decide⟩ rfl (Nat.le_of_ble_eq_true rfl) ⟨by show _ ≤ 601024; omega, by show _ ≤ 7293034; omega⟩ (fun r_2 σ_2 q_2 => ?_)
  obtain ⟨t1, t2, t3⟩ := hk9 r_2 σ_2 q_2
  refine g_istore (pc9 := 1429) C rfl [(6, .int r_2), (5, .int r_1), (4, .int (nI i)), (3, .ref (w.1 30)), (2, .ref (w.1 0)), (1, .ref (w.1 31)), (0, .ref b)] dL_law_1427 (by decide) rfl ?_
  refine g_aload_n (pc9 := 1430) C rfl 4 dL_law_1429 rfl rfl ?_
  refine g_callVi (nn := 0) (rest := []) (pc9 := 1433) C rfl 0 [] rfl dL_law_1430 (m_X11_thrown l w σ_2) gL_law_X11_thrown (by decide) (ce_0 w σ_2) rfl rfl rfl rfl rfl (by decide +kernel) ⟨by decide, by decide⟩ rfl (Nat.le_of_ble_eq_true rfl) ⟨by show _ ≤ 601024; omega, by show _ ≤ 7293034; omega⟩ (fun r_3 σ_3 q_3 => ?_)
  obtain ⟨qs_3, qr_3⟩ := q_3
  rw [qs_3, qr_3, t1]
  refine g_iload (pc9 := 1435) C rfl 1 dL_law_1433 rfl ?_
  refine g_icmp_eq (pc9 := 1438) C rfl 1440 dL_law_1435 rfl (fun _ => ?_) (fun z => absurd rfl z)
  refine g_iload (pc9 := 1442) C rfl 1 dL_law_1440 rfl ?_
  refine g_if_ne (pc9 := 1445) C rfl 1457 dL_law_1442 rfl (fun _ => ?_) (fun c_1 => ?_)
  · refine g_goto C 2093 dL_law_1457 rfl ?_
    exact g_wid (by omega) (by omega) (g_sub [2, 3, 4, 5, 6] [(4, .int (nI i)), (3, .ref (w.1 30)), (2, .ref (w.1 0)), (1, .ref (w.1 31)), (0, .ref b)] rfl (kont σ_2 t3))
  · have e2 := t2 c_1
    refine g_aload_n (pc9 := 1446) C rfl 3 dL_law_1445 rfl rfl ?_
    refine g_iconst (pc9 := 1447) C rfl (nI 0) dL_law_1446 rfl ?_
    refine g_lald (pc9 := 1448) C rfl 30 0 (n := 1) (x := jA σ_2 30 0) dL_law_1447 (by decide) (ce_30 w σ_2) rfl (by decide) (by decide) rfl ?_
    refine g_iload (pc9 := 1450) C rfl 0 dL_law_1448 rfl ?_
    refine g_i2l (pc9 := 1451) C rfl dL_law_1450 ?_
    refine g_lcmp (pc9 := 1452) C rfl dL_law_1451 ?_
    refine g_if_eq (pc9 := 1455) C rfl 1457 dL_law_1452 rfl (fun _ => ?_) (fun z => absurd (lg_eq (e2)) z)
    refine g_goto C 2093 dL_law_1457 rfl ?_
    exact g_wid (by omega) (by omega) (g_sub [2, 3, 4, 5, 6] [(4, .int (nI i)), (3, .ref (w.1 30)), (2, .ref (w.1 0)), (1, .ref (w.1 31)), (0, .ref b)] rfl (kont σ_2 t3))
set_option maxRecDepth 100000 in
set_option maxHeartbeats 4000000 in
theorem lc_unsign {p : Program} {l : Launch} {e : Env} {s : State} {m : MethodId} {below : List Frame} {meth : Method} {c : Code} {Q : State → Prop} {w : Wd} {sA : Nat → Nat} {b L : Nat} {xs : Nat → Int32} {A : Nat → Prop} (hst : l.stackTraces = false) (X : LC p s m meth c w sA b L xs A) (σ : St) (h : RX σ σ) (i : Nat) (hi : i + 6 ≤ L) (cells slots : Nat) (hc : cells + 20 ≤ 601024) (hs : slots + 120 ≤ 7293034) (kont : ∀ σ9, RX σ9 σ9 → G p l e room_1 s m #[Value.ref b] below meth c Q w A 8 σ9 (cells + 20) (slots + 120) 2093 [(4, .int (nI i)), (3, .ref (w.1 30)), (2, .ref (w.1 0)), (1, .ref (w.1 31)), (0, .ref b)] []) : G p l e room_1 s m #[Value.ref b] below meth c Q w A 8 σ cells slots 1460 [(4, .int (nI i)), (3, .ref (w.1 30)), (2, .ref (w.1 0)), (1, .ref (w.1 31)), (0, .ref b)] [] := by
  obtain ⟨C, hXF, hN, hX, hbl, hbA, _, _, _, hL⟩ := X
  obtain ⟨P, hM, hk⟩ := k_unsign l w σ h 
  refine g_aload_n (pc9 := 1461) C rfl 3 dL_law_1460 rfl rfl ?_
  refine g_callVi (nn := 0) (rest := []) (pc9 := 1464) C rfl 31 [] rfl dL_law_1461 hM gL_law_X10_unsign (by decide) (ce_31 w σ) rfl rfl rfl rfl rfl (by decide +kernel) ⟨by decide, by decide⟩ rfl (Nat.le_of_ble_eq_true rfl) ⟨by show _ ≤ 601024; omega, by show _ ≤ 7293034; omega⟩ (fun r_1 σ_1 q_1 => ?_)
  obtain ⟨PM, hM9, hk9⟩ := hk r_1 σ_1 q_1
  refine g_aload_n (pc9 := 1465) C rfl 2 dL_law_1464 rfl rfl ?_
  refine g_callVi (nn := 0) (rest := [.int r_1]) (pc9 := 1468) C rfl 0 [] rfl dL_law_1465 hM9 gL_law_X11_unsign (by decide) (ce_0 w σ_1) rfl rfl rfl rfl rfl (by decide +kernel) ⟨by decide, by decide⟩ rfl (Nat.le_of_ble_eq_true rfl) ⟨by show _ ≤ 601024; omega, by show _ ≤ 7293034; omega⟩ (fun r_2 σ_2 q_2 => ?_)
  obtain ⟨t1, t2⟩ := hk9 r_2 σ_2 q_2
  refine g_icmp_eq (pc9 := 1471) C rfl 2093 dL_law_1468 rfl (fun _ => ?_) (fun z => absurd t1.symm z)
  exact g_wid (by omega) (by omega) (g_sub [0, 1, 2, 3, 4] [(4, .int (nI i)), (3, .ref (w.1 30)), (2, .ref (w.1 0)), (1, .ref (w.1 31)), (0, .ref b)] rfl (kont σ_2 t2))
set_option maxRecDepth 100000 in
set_option maxHeartbeats 4000000 in
theorem lc_perfect {p : Program} {l : Launch} {e : Env} {s : State} {m : MethodId} {below : List Frame} {meth : Method} {c : Code} {Q : State → Prop} {w : Wd} {sA : Nat → Nat} {b L : Nat} {xs : Nat → Int32} {A : Nat → Prop} (hst : l.stackTraces = false) (X : LC p s m meth c w sA b L xs A) (σ : St) (h : RX σ σ) (i : Nat) (hi : i + 6 ≤ L) (cells slots : Nat) (hc : cells + 20 ≤ 601024) (hs : slots + 120 ≤ 7293034) (kont : ∀ σ9, RX σ9 σ9 → G p l e room_1 s m #[Value.ref b] below meth c Q w A 8 σ9 (cells + 20) (slots + 120) 2093 [(4, .int (nI i)), (3, .ref (w.1 30)), (2, .ref (w.1 0)), (1, .ref (w.1 31)), (0, .ref b)] []) : G p l e room_1 s m #[Value.ref b] below meth c Q w A 8 σ cells slots 1473 [(4, .int (nI i)), (3, .ref (w.1 30)), (2, .ref (w.1 0)), (1, .ref (w.1 31)), (0, .ref b)] [] := by
  obtain ⟨C, hXF, hN, hX, hbl, hbA, _, _, _, hL⟩ := X
  obtain ⟨P, hM, hk⟩ := k_perfect l hst w sA σ h (xs (i + 1)) (xs (i + 2))
  refine g_aload_n (pc9 := 1474) C rfl 3 dL_law_1473 rfl rfl ?_
  refine g_aload_n (pc9 := 1475) C rfl 4 dL_law_1474 rfl rfl ?_
  refine g_iload (pc9 := 1477) C rfl 0 dL_law_1475 rfl ?_
  refine g_iconst (pc9 := 1478) C rfl (nI 1) dL_law_1477 rfl ?_
  refine g_iaddN (pc9 := 1479) C rfl dL_law_1478 ?_
  refine g_scr (pc9 := 1480) C rfl hX hbl hbA (i + 1) rfl (by omega) (by omega) dL_law_1479 ?_
  refine g_aload_n (pc9 := 1481) C rfl 4 dL_law_1480 rfl rfl ?_
  refine g_iload (pc9 := 1483) C rfl 0 dL_law_1481 rfl ?_
  refine g_iconst (pc9 := 1484) C rfl (nI 2) dL_law_1483 rfl ?_
  refine g_iaddN (pc9 := 1485) C rfl dL_law_1484 ?_
  refine g_scr (pc9 := 1486) C rfl hX hbl hbA (i + 2) rfl (by omega) (by omega) dL_law_1485 ?_
  refine g_aload_n (pc9 := 1487) C rfl 1 dL_law_1486 rfl rfl ?_
  refine w_callSi (rest := []) C hXF hN (pc9 := 1490) rfl [.ref (w.1 31), .int (xs (i + 1)), .int (xs (i + 2)), .ref (w.1 30)] (nn := 4) rfl dL_law_1487 hM gL_law_L_perfect rfl (by decide +kernel) ⟨by decide, by decide⟩ rfl (Nat.le_of_ble_eq_true rfl) ⟨by show _ ≤ 601024; omega, by show _ ≤ 7293034; omega⟩ (fun r_1 σ_1 q_1 => ?_)
  obtain ⟨PM, hM9, hk9⟩ := hk r_1 σ_1 q_1
  refine g_istore (pc9 := 1492) C rfl [(5, .int r_1), (4, .int (nI i)), (3, .ref (w.1 30)), (2, .ref (w.1 0)), (1, .ref (w.1 31)), (0, .ref b)] dL_law_1490 (by decide) rfl ?_
  refine g_aload_n (pc9 := 1493) C rfl 3 dL_law_1492 rfl rfl ?_
  refine g_aload_n (pc9 := 1494) C rfl 5 dL_law_1493 rfl rfl ?_
  refine g_iload (pc9 := 1496) C rfl 1 dL_law_1494 rfl ?_
  refine g_iconst (pc9 := 1497) C rfl (nI 1) dL_law_1496 rfl ?_
  refine g_iaddN (pc9 := 1498) C rfl dL_law_1497 ?_
  refine g_scr (pc9 := 1499) C rfl hX hbl hbA (i + 1) rfl (by omega) (by omega) dL_law_1498 ?_
  refine g_aload_n (pc9 := 1500) C rfl 5 dL_law_1499 rfl rfl ?_
  refine g_iload (pc9 := 1502) C rfl 1 dL_law_1500 rfl ?_
  refine g_iconst (pc9 := 1503) C rfl (nI 2) dL_law_1502 rfl ?_
  refine g_iaddN (pc9 := 1504) C rfl dL_law_1503 ?_
  refine g_scr (pc9 := 1505) C rfl hX hbl hbA (i + 2) rfl (by omega) (by omega) dL_law_1504 ?_
  refine g_callVi (nn := 2) (rest := []) (pc9 := 1508) C rfl 0 [.int (xs (i + 1)), .int (xs (i + 2))] rfl dL_law_1505 hM9 gL_law_X11_perfect (by decide) (ce_0 w σ_1) rfl rfl rfl rfl rfl (by decide +kernel) ⟨by decide, by decide⟩ rfl (Nat.le_of_ble_eq_true rfl) ⟨by show _ ≤ 601024; omega, by show _ ≤ 7293034; omega⟩ (fun r_2 σ_2 q_2 => ?_)
  obtain ⟨t1, t2, t3⟩ := hk9 r_2 σ_2 q_2
  refine g_istore (pc9 := 1510) C rfl [(6, .int r_2), (5, .int r_1), (4, .int (nI i)), (3, .ref (w.1 30)), (2, .ref (w.1 0)), (1, .ref (w.1 31)), (0, .ref b)] dL_law_1508 (by decide) rfl ?_
  refine g_aload_n (pc9 := 1511) C rfl 4 dL_law_1510 rfl rfl ?_
  refine g_callVi (nn := 0) (rest := []) (pc9 := 1514) C rfl 0 [] rfl dL_law_1511 (m_X11_thrown l w σ_2) gL_law_X11_thrown (by decide) (ce_0 w σ_2) rfl rfl rfl rfl rfl (by decide +kernel) ⟨by decide, by decide⟩ rfl (Nat.le_of_ble_eq_true rfl) ⟨by show _ ≤ 601024; omega, by show _ ≤ 7293034; omega⟩ (fun r_3 σ_3 q_3 => ?_)
  obtain ⟨qs_3, qr_3⟩ := q_3
  rw [qs_3, qr_3, t1]
  refine g_iload (pc9 := 1516) C rfl 1 dL_law_1514 rfl ?_
  refine g_icmp_eq (pc9 := 1519) C rfl 1521 dL_law_1516 rfl (fun _ => ?_) (fun z => absurd rfl z)
  refine g_iload (pc9 := 1523) C rfl 1 dL_law_1521 rfl ?_
  refine g_if_ne (pc9 := 1526) C rfl 1538 dL_law_1523 rfl (fun _ => ?_) (fun c_1 => ?_)
  · refine g_goto C 2093 dL_law_1538 rfl ?_
    exact g_wid (by omega) (by omega) (g_sub [2, 3, 4, 5, 6] [(4, .int (nI i)), (3, .ref (w.1 30)), (2, .ref (w.1 0)), (1, .ref (w.1 31)), (0, .ref b)] rfl (kont σ_2 t3))
  · have e2 := t2 c_1
    refine g_aload_n (pc9 := 1527) C rfl 3 dL_law_1526 rfl rfl ?_
    refine g_iconst (pc9 := 1528) C rfl (nI 0) dL_law_1527 rfl ?_
    refine g_lald (pc9 := 1529) C rfl 30 0 (n := 1) (x := jA σ_2 30 0) dL_law_1528 (by decide) (ce_30 w σ_2) rfl (by decide) (by decide) rfl ?_
    refine g_iload (pc9 := 1531) C rfl 0 dL_law_1529 rfl ?_
    refine g_i2l (pc9 := 1532) C rfl dL_law_1531 ?_
    refine g_lcmp (pc9 := 1533) C rfl dL_law_1532 ?_
    refine g_if_eq (pc9 := 1536) C rfl 1538 dL_law_1533 rfl (fun _ => ?_) (fun z => absurd (lg_eq (e2)) z)
    refine g_goto C 2093 dL_law_1538 rfl ?_
    exact g_wid (by omega) (by omega) (g_sub [2, 3, 4, 5, 6] [(4, .int (nI i)), (3, .ref (w.1 30)), (2, .ref (w.1 0)), (1, .ref (w.1 31)), (0, .ref b)] rfl (kont σ_2 t3))
