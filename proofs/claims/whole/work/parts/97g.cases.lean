/-! the cases of the law -/
set_option maxHeartbeats 4000000 in
set_option maxRecDepth 100000 in
theorem law_47 {p : Program} {l : Launch} {e : Env} {s : State} {m : MethodId} {args : Array Value} {below : List Frame} {meth : Method} {c : Code} {H : Heap} {locs : List Loc} {cells slots : Nat} {Q : State → Prop} {ls : Array Slot} {D : va_G} {cy : Nat → ClassId} {bb b L : Nat} {xs : Nat → Int32} {M : Mem} {k : Nat} (hW : LW p l s m args c D cy bb b L xs) (hk : 6 * k + 6 ≤ L) (hc : cells + 2 ≤ 601024) (hs : slots + 12 ≤ 7293034) (hG : G M M) (hP : va_P D vwCl (wL cy bb fT M 134) H) (hS : va_S (fr bb) s.heap H locs) (hl : lv_has ls 9 (lvL b bb (nI (6 * k))))
    (kk : ∀ (M1 : Mem) (H1 : Heap) (locs1 : List Loc) (ls1 : Array Slot), G M1 M1 → va_P D vwCl (wL cy bb fT M1 134) H1 → va_S (fr bb) s.heap H1 locs1 → lv_has ls1 9 (lvL b bb (nI (6 * k))) → W p l e room_1 s m args below meth c H1 locs1 (cells + 2) (slots + 12) Q (F0 m 2726 ls1 [])) : W p l e room_1 s m args below meth c H locs cells slots Q (F0 m 2321 ls []) := by
  obtain ⟨hx, hb, hml, hts, hown, hK, hX, hXs, hbl, hbb, hst, hL⟩ := id hW
  refine lv_aload_n hx hb dL_law_2321 rfl (lv_at hl 1 rfl) ?_
  refine law_arg 1 hW hk (by decide) hS (lv_at hl 0 rfl) (lv_at hl 4 rfl) dL_law_2322 dL_law_2323 dL_law_2325 rfl dL_law_2326 dL_law_2327 ?_
  refine lv_aload_n hx hb dL_law_2328 rfl (lv_at hl 3 rfl) ?_
  refine xc_i (vx_runSW (As := [.ref (bb + 0), .int (xs (6 * k + 1)), .ref (bb + 133)]) (rest := []) ⟨hx, hb, hml, hown, hts⟩ (c_L_moisten l hst D cy bb 134 (by decide) M (xs (6 * k + 1)) (g_cnt hG) (g_hnx hG)) (vx_cwSW 3 hts gL_law_L_moisten rfl rfl rfl (by decide +kernel) ⟨Nat.le_of_ble_eq_true rfl, Nat.le_of_ble_eq_true rfl⟩) (xPreS hP hK hX hS) rfl rfl hl.1 rfl (lv_room (Nat.le_of_ble_eq_true rfl)) dL_law_2329 ⟨by show cells + _ ≤ 601024; omega, by show slots + _ ≤ 7293034; omega⟩) hS (fun H locs hP hS => ?_)
  have r0 := rel_moisten hG (xs (6 * k + 1))
  obtain ⟨M1, hM1⟩ : ∃ z, z = gL_moisten M (xs (6 * k + 1)) := ⟨_, rfl⟩
  rw [← hM1] at hP
  have hm : M1 = if tX7_moisten M (xs (6 * k + 1)) = 0 then mU (gX7_moisten M (xs (6 * k + 1))) 133 0 (fX7_moisten M (xs (6 * k + 1))) else (gX7_moisten M (xs (6 * k + 1))) := hM1
  have hG1 := g_mid hG r0 hm
  have r1 := rel_moisten hG1 (xs (6 * k + 1))
  refine lv_istore (lv' := (5, .int (cd [1, 3] (tX7_moisten M (xs (6 * k + 1))))) :: lvL b bb (nI (6 * k))) hx hb dL_law_2332 hl (by decide) rfl (fun ls hl => ?_)
  refine lv_aload_n hx hb dL_law_2334 rfl (lv_at hl 3 rfl) ?_
  refine law_arg 1 hW hk (by decide) hS (lv_at hl 1 rfl) (lv_at hl 5 rfl) dL_law_2335 dL_law_2336 dL_law_2338 rfl dL_law_2339 dL_law_2340 ?_
  refine xc_i (va_runV (As := [.int (xs (6 * k + 1))]) (rest := []) ⟨hx, hb, hml, hown, hts⟩ (c_X8_moisten l D cy bb 134 (by decide) M1 (xs (6 * k + 1)) (g_mny hG1) (g_ho hG1)) (cwV 1 hts gL_law_X8_moisten rfl rfl rfl (by decide +kernel) ⟨Nat.le_of_ble_eq_true rfl, Nat.le_of_ble_eq_true rfl⟩) (xPreV hP hK hX hS (by decide) (cell8 (by decide)) rfl) rfl rfl hl.1 rfl (lv_room (Nat.le_of_ble_eq_true rfl)) dL_law_2341 ⟨by show cells + _ + _ ≤ 601024; omega, by show slots + _ + _ ≤ 7293034; omega⟩) hS (fun H locs hP hS => ?_)
  obtain ⟨e1, e2, e3⟩ := g_end (by decide) r1 hm
  obtain ⟨M2, hM2⟩ : ∃ z, z = gX8_moisten M1 (xs (6 * k + 1)) := ⟨_, rfl⟩
  rw [← hM2] at hP e1 e2 e3
  refine lv_istore (lv' := (6, .int (fX8_moisten M1 (xs (6 * k + 1)))) :: (5, .int (cd [1, 3] (tX7_moisten M (xs (6 * k + 1))))) :: lvL b bb (nI (6 * k))) hx hb dL_law_2344 hl (by decide) rfl (fun ls hl => ?_)
  refine law_tail hW hP hS (by omega) (by omega) hl e2 (fun h => (e3 h).1.trans (e3 h).2) dL_law_2346 dL_law_2347 dL_law_2350 dL_law_2352 dL_law_2357 dL_law_2359 dL_law_2362 dL_law_2363 dL_law_2364 dL_law_2365 dL_law_2367 dL_law_2368 dL_law_2369 dL_law_2374 (by decide) (fun H locs ls hP hS hl => ?_) (by decide)
  refine W.widen (k := cells + 2) (n := slots + 12) (by omega) (by omega) ?_
  exact kk M2 H locs ls e1 hP hS hl
set_option maxHeartbeats 4000000 in
set_option maxRecDepth 100000 in
theorem law_48 {p : Program} {l : Launch} {e : Env} {s : State} {m : MethodId} {args : Array Value} {below : List Frame} {meth : Method} {c : Code} {H : Heap} {locs : List Loc} {cells slots : Nat} {Q : State → Prop} {ls : Array Slot} {D : va_G} {cy : Nat → ClassId} {bb b L : Nat} {xs : Nat → Int32} {M : Mem} {k : Nat} (hW : LW p l s m args c D cy bb b L xs) (hk : 6 * k + 6 ≤ L) (hc : cells + 2 ≤ 601024) (hs : slots + 12 ≤ 7293034) (hG : G M M) (hP : va_P D vwCl (wL cy bb fT M 134) H) (hS : va_S (fr bb) s.heap H locs) (hl : lv_has ls 9 (lvL b bb (nI (6 * k))))
    (kk : ∀ (M1 : Mem) (H1 : Heap) (locs1 : List Loc) (ls1 : Array Slot), G M1 M1 → va_P D vwCl (wL cy bb fT M1 134) H1 → va_S (fr bb) s.heap H1 locs1 → lv_has ls1 9 (lvL b bb (nI (6 * k))) → W p l e room_1 s m args below meth c H1 locs1 (cells + 2) (slots + 12) Q (F0 m 2726 ls1 [])) : W p l e room_1 s m args below meth c H locs cells slots Q (F0 m 2377 ls []) := by
  obtain ⟨hx, hb, hml, hts, hown, hK, hX, hXs, hbl, hbb, hst, hL⟩ := id hW
  refine lv_aload_n hx hb dL_law_2377 rfl (lv_at hl 1 rfl) ?_
  refine law_arg 1 hW hk (by decide) hS (lv_at hl 0 rfl) (lv_at hl 4 rfl) dL_law_2378 dL_law_2379 dL_law_2381 rfl dL_law_2382 dL_law_2383 ?_
  refine law_arg 2 hW hk (by decide) hS (lv_at hl 0 rfl) (lv_at hl 4 rfl) dL_law_2384 dL_law_2385 dL_law_2387 rfl dL_law_2388 dL_law_2389 ?_
  refine lv_aload_n hx hb dL_law_2390 rfl (lv_at hl 3 rfl) ?_
  refine xc_i (vx_runSW (As := [.ref (bb + 0), .int (xs (6 * k + 1)), .int (xs (6 * k + 2)), .ref (bb + 133)]) (rest := []) ⟨hx, hb, hml, hown, hts⟩ (c_L_addHairs l hst D cy bb 134 (by decide) M (xs (6 * k + 1)) (xs (6 * k + 2)) (g_cnt hG) (g_hnx hG)) (vx_cwSW 4 hts gL_law_L_addHairs rfl rfl rfl (by decide +kernel) ⟨Nat.le_of_ble_eq_true rfl, Nat.le_of_ble_eq_true rfl⟩) (xPreS hP hK hX hS) rfl rfl hl.1 rfl (lv_room (Nat.le_of_ble_eq_true rfl)) dL_law_2391 ⟨by show cells + _ ≤ 601024; omega, by show slots + _ ≤ 7293034; omega⟩) hS (fun H locs hP hS => ?_)
  have r0 := rel_addHairs hG (xs (6 * k + 1)) (xs (6 * k + 2))
  obtain ⟨M1, hM1⟩ : ∃ z, z = gL_addHairs M (xs (6 * k + 1)) (xs (6 * k + 2)) := ⟨_, rfl⟩
  rw [← hM1] at hP
  have hm : M1 = if tX7_addHairs M (xs (6 * k + 1)) (xs (6 * k + 2)) = 0 then mU (gX7_addHairs M (xs (6 * k + 1)) (xs (6 * k + 2))) 133 0 (fX7_addHairs M (xs (6 * k + 1)) (xs (6 * k + 2))) else (gX7_addHairs M (xs (6 * k + 1)) (xs (6 * k + 2))) := hM1
  have hG1 := g_mid hG r0 hm
  have r1 := rel_addHairs hG1 (xs (6 * k + 1)) (xs (6 * k + 2))
  refine lv_istore (lv' := (5, .int (cd [1, 2, 3] (tX7_addHairs M (xs (6 * k + 1)) (xs (6 * k + 2))))) :: lvL b bb (nI (6 * k))) hx hb dL_law_2394 hl (by decide) rfl (fun ls hl => ?_)
  refine lv_aload_n hx hb dL_law_2396 rfl (lv_at hl 3 rfl) ?_
  refine law_arg 1 hW hk (by decide) hS (lv_at hl 1 rfl) (lv_at hl 5 rfl) dL_law_2397 dL_law_2398 dL_law_2400 rfl dL_law_2401 dL_law_2402 ?_
  refine law_arg 2 hW hk (by decide) hS (lv_at hl 1 rfl) (lv_at hl 5 rfl) dL_law_2403 dL_law_2404 dL_law_2406 rfl dL_law_2407 dL_law_2408 ?_
  refine xc_i (va_runV (As := [.int (xs (6 * k + 1)), .int (xs (6 * k + 2))]) (rest := []) ⟨hx, hb, hml, hown, hts⟩ (c_X8_addHairs l D cy bb 134 (by decide) M1 (xs (6 * k + 1)) (xs (6 * k + 2)) (g_mny hG1) (g_ho hG1)) (cwV 2 hts gL_law_X8_addHairs rfl rfl rfl (by decide +kernel) ⟨Nat.le_of_ble_eq_true rfl, Nat.le_of_ble_eq_true rfl⟩) (xPreV hP hK hX hS (by decide) (cell8 (by decide)) rfl) rfl rfl hl.1 rfl (lv_room (Nat.le_of_ble_eq_true rfl)) dL_law_2409 ⟨by show cells + _ + _ ≤ 601024; omega, by show slots + _ + _ ≤ 7293034; omega⟩) hS (fun H locs hP hS => ?_)
  obtain ⟨e1, e2, e3⟩ := g_end (by decide) r1 hm
  obtain ⟨M2, hM2⟩ : ∃ z, z = gX8_addHairs M1 (xs (6 * k + 1)) (xs (6 * k + 2)) := ⟨_, rfl⟩
  rw [← hM2] at hP e1 e2 e3
  refine lv_istore (lv' := (6, .int (fX8_addHairs M1 (xs (6 * k + 1)) (xs (6 * k + 2)))) :: (5, .int (cd [1, 2, 3] (tX7_addHairs M (xs (6 * k + 1)) (xs (6 * k + 2))))) :: lvL b bb (nI (6 * k))) hx hb dL_law_2412 hl (by decide) rfl (fun ls hl => ?_)
  refine law_tail hW hP hS (by omega) (by omega) hl e2 (fun h => (e3 h).1.trans (e3 h).2) dL_law_2414 dL_law_2415 dL_law_2418 dL_law_2420 dL_law_2425 dL_law_2427 dL_law_2430 dL_law_2431 dL_law_2432 dL_law_2433 dL_law_2435 dL_law_2436 dL_law_2437 dL_law_2442 (by decide) (fun H locs ls hP hS hl => ?_) (by decide)
  refine W.widen (k := cells + 2) (n := slots + 12) (by omega) (by omega) ?_
  exact kk M2 H locs ls e1 hP hS hl
set_option maxHeartbeats 4000000 in
set_option maxRecDepth 100000 in
theorem law_49 {p : Program} {l : Launch} {e : Env} {s : State} {m : MethodId} {args : Array Value} {below : List Frame} {meth : Method} {c : Code} {H : Heap} {locs : List Loc} {cells slots : Nat} {Q : State → Prop} {ls : Array Slot} {D : va_G} {cy : Nat → ClassId} {bb b L : Nat} {xs : Nat → Int32} {M : Mem} {k : Nat} (hW : LW p l s m args c D cy bb b L xs) (hk : 6 * k + 6 ≤ L) (hc : cells + 2 ≤ 601024) (hs : slots + 12 ≤ 7293034) (hG : G M M) (hP : va_P D vwCl (wL cy bb fT M 134) H) (hS : va_S (fr bb) s.heap H locs) (hl : lv_has ls 9 (lvL b bb (nI (6 * k))))
    (kk : ∀ (M1 : Mem) (H1 : Heap) (locs1 : List Loc) (ls1 : Array Slot), G M1 M1 → va_P D vwCl (wL cy bb fT M1 134) H1 → va_S (fr bb) s.heap H1 locs1 → lv_has ls1 9 (lvL b bb (nI (6 * k))) → W p l e room_1 s m args below meth c H1 locs1 (cells + 2) (slots + 12) Q (F0 m 2726 ls1 [])) : W p l e room_1 s m args below meth c H locs cells slots Q (F0 m 2445 ls []) := by
  obtain ⟨hx, hb, hml, hts, hown, hK, hX, hXs, hbl, hbb, hst, hL⟩ := id hW
  refine lv_aload_n hx hb dL_law_2445 rfl (lv_at hl 1 rfl) ?_
  refine law_arg 1 hW hk (by decide) hS (lv_at hl 0 rfl) (lv_at hl 4 rfl) dL_law_2446 dL_law_2447 dL_law_2449 rfl dL_law_2450 dL_law_2451 ?_
  refine lv_aload_n hx hb dL_law_2452 rfl (lv_at hl 3 rfl) ?_
  refine xc_i (vx_runSW (As := [.ref (bb + 0), .int (xs (6 * k + 1)), .ref (bb + 133)]) (rest := []) ⟨hx, hb, hml, hown, hts⟩ (c_L_restore l hst D cy bb 134 (by decide) M (xs (6 * k + 1)) (g_cnt hG) (g_hnx hG) (g_sc hG)) (vx_cwSW 3 hts gL_law_L_restore rfl rfl rfl (by decide +kernel) ⟨Nat.le_of_ble_eq_true rfl, Nat.le_of_ble_eq_true rfl⟩) (xPreS hP hK hX hS) rfl rfl hl.1 rfl (lv_room (Nat.le_of_ble_eq_true rfl)) dL_law_2453 ⟨by show cells + _ ≤ 601024; omega, by show slots + _ ≤ 7293034; omega⟩) hS (fun H locs hP hS => ?_)
  have r0 := rel_restore hG (xs (6 * k + 1))
  obtain ⟨M1, hM1⟩ : ∃ z, z = gL_restore M (xs (6 * k + 1)) := ⟨_, rfl⟩
  rw [← hM1] at hP
  have hm : M1 = if tX7_restore M (xs (6 * k + 1)) = 0 then mU (gX7_restore M (xs (6 * k + 1))) 133 0 (fX7_restore M (xs (6 * k + 1))) else (gX7_restore M (xs (6 * k + 1))) := hM1
  have hG1 := g_mid hG r0 hm
  have r1 := rel_restore hG1 (xs (6 * k + 1))
  refine lv_istore (lv' := (5, .int (cd [1, 3] (tX7_restore M (xs (6 * k + 1))))) :: lvL b bb (nI (6 * k))) hx hb dL_law_2456 hl (by decide) rfl (fun ls hl => ?_)
  refine lv_aload_n hx hb dL_law_2458 rfl (lv_at hl 3 rfl) ?_
  refine law_arg 1 hW hk (by decide) hS (lv_at hl 1 rfl) (lv_at hl 5 rfl) dL_law_2459 dL_law_2460 dL_law_2462 rfl dL_law_2463 dL_law_2464 ?_
  refine xc_i (va_runV (As := [.int (xs (6 * k + 1))]) (rest := []) ⟨hx, hb, hml, hown, hts⟩ (c_X8_restore l D cy bb 134 (by decide) M1 (xs (6 * k + 1)) (g_ho hG1)) (cwV 1 hts gL_law_X8_restore rfl rfl rfl (by decide +kernel) ⟨Nat.le_of_ble_eq_true rfl, Nat.le_of_ble_eq_true rfl⟩) (xPreV hP hK hX hS (by decide) (cell8 (by decide)) rfl) rfl rfl hl.1 rfl (lv_room (Nat.le_of_ble_eq_true rfl)) dL_law_2465 ⟨by show cells + _ + _ ≤ 601024; omega, by show slots + _ + _ ≤ 7293034; omega⟩) hS (fun H locs hP hS => ?_)
  obtain ⟨e1, e2, e3⟩ := g_end (by decide) r1 hm
  obtain ⟨M2, hM2⟩ : ∃ z, z = gX8_restore M1 (xs (6 * k + 1)) := ⟨_, rfl⟩
  rw [← hM2] at hP e1 e2 e3
  refine lv_istore (lv' := (6, .int (fX8_restore M1 (xs (6 * k + 1)))) :: (5, .int (cd [1, 3] (tX7_restore M (xs (6 * k + 1))))) :: lvL b bb (nI (6 * k))) hx hb dL_law_2468 hl (by decide) rfl (fun ls hl => ?_)
  refine law_tail hW hP hS (by omega) (by omega) hl e2 (fun h => (e3 h).1.trans (e3 h).2) dL_law_2470 dL_law_2471 dL_law_2474 dL_law_2476 dL_law_2481 dL_law_2483 dL_law_2486 dL_law_2487 dL_law_2488 dL_law_2489 dL_law_2491 dL_law_2492 dL_law_2493 dL_law_2498 (by decide) (fun H locs ls hP hS hl => ?_) (by decide)
  refine W.widen (k := cells + 2) (n := slots + 12) (by omega) (by omega) ?_
  exact kk M2 H locs ls e1 hP hS hl
set_option maxHeartbeats 4000000 in
set_option maxRecDepth 100000 in
theorem law_50 {p : Program} {l : Launch} {e : Env} {s : State} {m : MethodId} {args : Array Value} {below : List Frame} {meth : Method} {c : Code} {H : Heap} {locs : List Loc} {cells slots : Nat} {Q : State → Prop} {ls : Array Slot} {D : va_G} {cy : Nat → ClassId} {bb b L : Nat} {xs : Nat → Int32} {M : Mem} {k : Nat} (hW : LW p l s m args c D cy bb b L xs) (hk : 6 * k + 6 ≤ L) (hc : cells + 2 ≤ 601024) (hs : slots + 12 ≤ 7293034) (hG : G M M) (hP : va_P D vwCl (wL cy bb fT M 134) H) (hS : va_S (fr bb) s.heap H locs) (hl : lv_has ls 9 (lvL b bb (nI (6 * k))))
    (kk : ∀ (M1 : Mem) (H1 : Heap) (locs1 : List Loc) (ls1 : Array Slot), G M1 M1 → va_P D vwCl (wL cy bb fT M1 134) H1 → va_S (fr bb) s.heap H1 locs1 → lv_has ls1 9 (lvL b bb (nI (6 * k))) → W p l e room_1 s m args below meth c H1 locs1 (cells + 2) (slots + 12) Q (F0 m 2726 ls1 [])) : W p l e room_1 s m args below meth c H locs cells slots Q (F0 m 2501 ls []) := by
  obtain ⟨hx, hb, hml, hts, hown, hK, hX, hXs, hbl, hbb, hst, hL⟩ := id hW
  refine lv_aload_n hx hb dL_law_2501 rfl (lv_at hl 1 rfl) ?_
  refine lv_aload_n hx hb dL_law_2502 rfl (lv_at hl 3 rfl) ?_
  refine xc_i (vx_runSW (As := [.ref (bb + 0), .ref (bb + 133)]) (rest := []) ⟨hx, hb, hml, hown, hts⟩ (c_L_undo l hst D cy bb 134 (by decide) M (g_hnx hG) (g_hh hG)) (vx_cwSW 2 hts gL_law_L_undo rfl rfl rfl (by decide +kernel) ⟨Nat.le_of_ble_eq_true rfl, Nat.le_of_ble_eq_true rfl⟩) (xPreS hP hK hX hS) rfl rfl hl.1 rfl (lv_room (Nat.le_of_ble_eq_true rfl)) dL_law_2503 ⟨by show cells + _ ≤ 601024; omega, by show slots + _ ≤ 7293034; omega⟩) hS (fun H locs hP hS => ?_)
  have r0 := rel_undo hG
  obtain ⟨M1, hM1⟩ : ∃ z, z = gL_undo M := ⟨_, rfl⟩
  rw [← hM1] at hP
  have hm : M1 = if tX7_undo M = 0 then mU (gX7_undo M) 133 0 (fX7_undo M) else (gX7_undo M) := hM1
  have hG1 := g_mid hG r0 hm
  have r1 := rel_undo hG1
  refine lv_istore (lv' := (5, .int (cd [3] (tX7_undo M))) :: lvL b bb (nI (6 * k))) hx hb dL_law_2506 hl (by decide) rfl (fun ls hl => ?_)
  refine lv_aload_n hx hb dL_law_2508 rfl (lv_at hl 3 rfl) ?_
  refine xc_i (va_runV (As := []) (rest := []) ⟨hx, hb, hml, hown, hts⟩ (c_X8_undo l D cy bb 134 (by decide) M1  (g_ho hG1)) (cwV 0 hts gL_law_X8_undo rfl rfl rfl (by decide +kernel) ⟨Nat.le_of_ble_eq_true rfl, Nat.le_of_ble_eq_true rfl⟩) (xPreV hP hK hX hS (by decide) (cell8 (by decide)) rfl) rfl rfl hl.1 rfl (lv_room (Nat.le_of_ble_eq_true rfl)) dL_law_2509 ⟨by show cells + _ + _ ≤ 601024; omega, by show slots + _ + _ ≤ 7293034; omega⟩) hS (fun H locs hP hS => ?_)
  obtain ⟨e1, e2, e3⟩ := g_end (by decide) r1 hm
  obtain ⟨M2, hM2⟩ : ∃ z, z = gX8_undo M1 := ⟨_, rfl⟩
  rw [← hM2] at hP e1 e2 e3
  refine lv_istore (lv' := (6, .int (fX8_undo M1 )) :: (5, .int (cd [3] (tX7_undo M))) :: lvL b bb (nI (6 * k))) hx hb dL_law_2512 hl (by decide) rfl (fun ls hl => ?_)
  refine law_tail hW hP hS (by omega) (by omega) hl e2 (fun h => (e3 h).1.trans (e3 h).2) dL_law_2514 dL_law_2515 dL_law_2518 dL_law_2520 dL_law_2525 dL_law_2527 dL_law_2530 dL_law_2531 dL_law_2532 dL_law_2533 dL_law_2535 dL_law_2536 dL_law_2537 dL_law_2542 (by decide) (fun H locs ls hP hS hl => ?_) (by decide)
  refine W.widen (k := cells + 2) (n := slots + 12) (by omega) (by omega) ?_
  exact kk M2 H locs ls e1 hP hS hl
set_option maxHeartbeats 4000000 in
set_option maxRecDepth 100000 in
theorem law_51 {p : Program} {l : Launch} {e : Env} {s : State} {m : MethodId} {args : Array Value} {below : List Frame} {meth : Method} {c : Code} {H : Heap} {locs : List Loc} {cells slots : Nat} {Q : State → Prop} {ls : Array Slot} {D : va_G} {cy : Nat → ClassId} {bb b L : Nat} {xs : Nat → Int32} {M : Mem} {k : Nat} (hW : LW p l s m args c D cy bb b L xs) (hk : 6 * k + 6 ≤ L) (hc : cells + 2 ≤ 601024) (hs : slots + 12 ≤ 7293034) (hG : G M M) (hP : va_P D vwCl (wL cy bb fT M 134) H) (hS : va_S (fr bb) s.heap H locs) (hl : lv_has ls 9 (lvL b bb (nI (6 * k))))
    (kk : ∀ (M1 : Mem) (H1 : Heap) (locs1 : List Loc) (ls1 : Array Slot), G M1 M1 → va_P D vwCl (wL cy bb fT M1 134) H1 → va_S (fr bb) s.heap H1 locs1 → lv_has ls1 9 (lvL b bb (nI (6 * k))) → W p l e room_1 s m args below meth c H1 locs1 (cells + 2) (slots + 12) Q (F0 m 2726 ls1 [])) : W p l e room_1 s m args below meth c H locs cells slots Q (F0 m 2545 ls []) := by
  obtain ⟨hx, hb, hml, hts, hown, hK, hX, hXs, hbl, hbb, hst, hL⟩ := id hW
  refine lv_aload_n hx hb dL_law_2545 rfl (lv_at hl 1 rfl) ?_
  refine law_arg 1 hW hk (by decide) hS (lv_at hl 0 rfl) (lv_at hl 4 rfl) dL_law_2546 dL_law_2547 dL_law_2549 rfl dL_law_2550 dL_law_2551 ?_
  refine lv_aload_n hx hb dL_law_2552 rfl (lv_at hl 3 rfl) ?_
  refine xc_i (vx_runSW (As := [.ref (bb + 0), .int (xs (6 * k + 1)), .ref (bb + 133)]) (rest := []) ⟨hx, hb, hml, hown, hts⟩ (c_L_save l hst D cy bb 134 (by decide) M (xs (6 * k + 1)) (g_cnt hG)) (vx_cwSW 3 hts gL_law_L_save rfl rfl rfl (by decide +kernel) ⟨Nat.le_of_ble_eq_true rfl, Nat.le_of_ble_eq_true rfl⟩) (xPreS hP hK hX hS) rfl rfl hl.1 rfl (lv_room (Nat.le_of_ble_eq_true rfl)) dL_law_2553 ⟨by show cells + _ ≤ 601024; omega, by show slots + _ ≤ 7293034; omega⟩) hS (fun H locs hP hS => ?_)
  have r0 := rel_save hG (xs (6 * k + 1))
  obtain ⟨M1, hM1⟩ : ∃ z, z = gL_save M (xs (6 * k + 1)) := ⟨_, rfl⟩
  rw [← hM1] at hP
  have hm : M1 = if tX7_save M (xs (6 * k + 1)) = 0 then mU (gX7_save M (xs (6 * k + 1))) 133 0 (fX7_save M (xs (6 * k + 1))) else (gX7_save M (xs (6 * k + 1))) := hM1
  have hG1 := g_mid hG r0 hm
  have r1 := rel_save hG1 (xs (6 * k + 1))
  refine lv_istore (lv' := (5, .int (cd [1] (tX7_save M (xs (6 * k + 1))))) :: lvL b bb (nI (6 * k))) hx hb dL_law_2556 hl (by decide) rfl (fun ls hl => ?_)
  refine lv_aload_n hx hb dL_law_2558 rfl (lv_at hl 3 rfl) ?_
  refine law_arg 1 hW hk (by decide) hS (lv_at hl 1 rfl) (lv_at hl 5 rfl) dL_law_2559 dL_law_2560 dL_law_2562 rfl dL_law_2563 dL_law_2564 ?_
  refine xc_i (va_runV (As := [.int (xs (6 * k + 1))]) (rest := []) ⟨hx, hb, hml, hown, hts⟩ (c_X8_save l D cy bb 134 (by decide) M1 (xs (6 * k + 1)) ) (cwV 1 hts gL_law_X8_save rfl rfl rfl (by decide +kernel) ⟨Nat.le_of_ble_eq_true rfl, Nat.le_of_ble_eq_true rfl⟩) (xPreV hP hK hX hS (by decide) (cell8 (by decide)) rfl) rfl rfl hl.1 rfl (lv_room (Nat.le_of_ble_eq_true rfl)) dL_law_2565 ⟨by show cells + _ + _ ≤ 601024; omega, by show slots + _ + _ ≤ 7293034; omega⟩) hS (fun H locs hP hS => ?_)
  obtain ⟨e1, e2, e3⟩ := g_end (by decide) r1 hm
  obtain ⟨M2, hM2⟩ : ∃ z, z = gX8_save M1 (xs (6 * k + 1)) := ⟨_, rfl⟩
  rw [← hM2] at hP e1 e2 e3
  refine lv_istore (lv' := (6, .int (fX8_save M1 (xs (6 * k + 1)))) :: (5, .int (cd [1] (tX7_save M (xs (6 * k + 1))))) :: lvL b bb (nI (6 * k))) hx hb dL_law_2568 hl (by decide) rfl (fun ls hl => ?_)
  refine law_tail hW hP hS (by omega) (by omega) hl e2 (fun h => (e3 h).1.trans (e3 h).2) dL_law_2570 dL_law_2571 dL_law_2574 dL_law_2576 dL_law_2581 dL_law_2583 dL_law_2586 dL_law_2587 dL_law_2588 dL_law_2589 dL_law_2591 dL_law_2592 dL_law_2593 dL_law_2598 (by decide) (fun H locs ls hP hS hl => ?_) (by decide)
  refine W.widen (k := cells + 2) (n := slots + 12) (by omega) (by omega) ?_
  exact kk M2 H locs ls e1 hP hS hl
set_option maxHeartbeats 4000000 in
set_option maxRecDepth 100000 in
theorem law_52 {p : Program} {l : Launch} {e : Env} {s : State} {m : MethodId} {args : Array Value} {below : List Frame} {meth : Method} {c : Code} {H : Heap} {locs : List Loc} {cells slots : Nat} {Q : State → Prop} {ls : Array Slot} {D : va_G} {cy : Nat → ClassId} {bb b L : Nat} {xs : Nat → Int32} {M : Mem} {k : Nat} (hW : LW p l s m args c D cy bb b L xs) (hk : 6 * k + 6 ≤ L) (hc : cells + 2 ≤ 601024) (hs : slots + 12 ≤ 7293034) (hG : G M M) (hP : va_P D vwCl (wL cy bb fT M 134) H) (hS : va_S (fr bb) s.heap H locs) (hl : lv_has ls 9 (lvL b bb (nI (6 * k))))
    (kk : ∀ (M1 : Mem) (H1 : Heap) (locs1 : List Loc) (ls1 : Array Slot), G M1 M1 → va_P D vwCl (wL cy bb fT M1 134) H1 → va_S (fr bb) s.heap H1 locs1 → lv_has ls1 9 (lvL b bb (nI (6 * k))) → W p l e room_1 s m args below meth c H1 locs1 (cells + 2) (slots + 12) Q (F0 m 2726 ls1 [])) : W p l e room_1 s m args below meth c H locs cells slots Q (F0 m 2601 ls []) := by
  obtain ⟨hx, hb, hml, hts, hown, hK, hX, hXs, hbl, hbb, hst, hL⟩ := id hW
  refine lv_aload_n hx hb dL_law_2601 rfl (lv_at hl 1 rfl) ?_
  refine law_arg 1 hW hk (by decide) hS (lv_at hl 0 rfl) (lv_at hl 4 rfl) dL_law_2602 dL_law_2603 dL_law_2605 rfl dL_law_2606 dL_law_2607 ?_
  refine lv_aload_n hx hb dL_law_2608 rfl (lv_at hl 3 rfl) ?_
  refine xc_i (vx_runSW (As := [.ref (bb + 0), .int (xs (6 * k + 1)), .ref (bb + 133)]) (rest := []) ⟨hx, hb, hml, hown, hts⟩ (c_L_writeInstrument l hst D cy bb 134 (by decide) M (xs (6 * k + 1)) (g_cnt hG)) (vx_cwSW 3 hts gL_law_L_writeInstrument rfl rfl rfl (by decide +kernel) ⟨Nat.le_of_ble_eq_true rfl, Nat.le_of_ble_eq_true rfl⟩) (xPreS hP hK hX hS) rfl rfl hl.1 rfl (lv_room (Nat.le_of_ble_eq_true rfl)) dL_law_2609 ⟨by show cells + _ ≤ 601024; omega, by show slots + _ ≤ 7293034; omega⟩) hS (fun H locs hP hS => ?_)
  have r0 := rel_writeInstrument hG (xs (6 * k + 1))
  obtain ⟨M1, hM1⟩ : ∃ z, z = gL_writeInstrument M (xs (6 * k + 1)) := ⟨_, rfl⟩
  rw [← hM1] at hP
  have hm : M1 = if tX7_writeInstrument M (xs (6 * k + 1)) = 0 then mU (gX7_writeInstrument M (xs (6 * k + 1))) 133 0 (fX7_writeInstrument M (xs (6 * k + 1))) else (gX7_writeInstrument M (xs (6 * k + 1))) := hM1
  have hG1 := g_mid hG r0 hm
  have r1 := rel_writeInstrument hG1 (xs (6 * k + 1))
  refine lv_istore (lv' := (5, .int (cd [1] (tX7_writeInstrument M (xs (6 * k + 1))))) :: lvL b bb (nI (6 * k))) hx hb dL_law_2612 hl (by decide) rfl (fun ls hl => ?_)
  refine lv_aload_n hx hb dL_law_2614 rfl (lv_at hl 3 rfl) ?_
  refine law_arg 1 hW hk (by decide) hS (lv_at hl 1 rfl) (lv_at hl 5 rfl) dL_law_2615 dL_law_2616 dL_law_2618 rfl dL_law_2619 dL_law_2620 ?_
  refine xc_i (va_runV (As := [.int (xs (6 * k + 1))]) (rest := []) ⟨hx, hb, hml, hown, hts⟩ (c_X8_writeInstrument l D cy bb 134 (by decide) M1 (xs (6 * k + 1)) (g_mny hG1) (g_bxs hG1) (g_tmp hG1)) (cwV 1 hts gL_law_X8_writeInstrument rfl rfl rfl (by decide +kernel) ⟨Nat.le_of_ble_eq_true rfl, Nat.le_of_ble_eq_true rfl⟩) (xPreV hP hK hX hS (by decide) (cell8 (by decide)) rfl) rfl rfl hl.1 rfl (lv_room (Nat.le_of_ble_eq_true rfl)) dL_law_2621 ⟨by show cells + _ + _ ≤ 601024; omega, by show slots + _ + _ ≤ 7293034; omega⟩) hS (fun H locs hP hS => ?_)
  obtain ⟨e1, e2, e3⟩ := g_end (by decide) r1 hm
  obtain ⟨M2, hM2⟩ : ∃ z, z = gX8_writeInstrument M1 (xs (6 * k + 1)) := ⟨_, rfl⟩
  rw [← hM2] at hP e1 e2 e3
  refine lv_istore (lv' := (6, .int (fX8_writeInstrument M1 (xs (6 * k + 1)))) :: (5, .int (cd [1] (tX7_writeInstrument M (xs (6 * k + 1))))) :: lvL b bb (nI (6 * k))) hx hb dL_law_2624 hl (by decide) rfl (fun ls hl => ?_)
  refine law_tail hW hP hS (by omega) (by omega) hl e2 (fun h => (e3 h).1.trans (e3 h).2) dL_law_2626 dL_law_2627 dL_law_2630 dL_law_2632 dL_law_2637 dL_law_2639 dL_law_2642 dL_law_2643 dL_law_2644 dL_law_2645 dL_law_2647 dL_law_2648 dL_law_2649 dL_law_2654 (by decide) (fun H locs ls hP hS hl => ?_) (by decide)
  refine W.widen (k := cells + 2) (n := slots + 12) (by omega) (by omega) ?_
  exact kk M2 H locs ls e1 hP hS hl
set_option maxHeartbeats 4000000 in
set_option maxRecDepth 100000 in
theorem law_53 {p : Program} {l : Launch} {e : Env} {s : State} {m : MethodId} {args : Array Value} {below : List Frame} {meth : Method} {c : Code} {H : Heap} {locs : List Loc} {cells slots : Nat} {Q : State → Prop} {ls : Array Slot} {D : va_G} {cy : Nat → ClassId} {bb b L : Nat} {xs : Nat → Int32} {M : Mem} {k : Nat} (hW : LW p l s m args c D cy bb b L xs) (hk : 6 * k + 6 ≤ L) (hc : cells + 2 ≤ 601024) (hs : slots + 12 ≤ 7293034) (hG : G M M) (hP : va_P D vwCl (wL cy bb fT M 134) H) (hS : va_S (fr bb) s.heap H locs) (hl : lv_has ls 9 (lvL b bb (nI (6 * k))))
    (kk : ∀ (M1 : Mem) (H1 : Heap) (locs1 : List Loc) (ls1 : Array Slot), G M1 M1 → va_P D vwCl (wL cy bb fT M1 134) H1 → va_S (fr bb) s.heap H1 locs1 → lv_has ls1 9 (lvL b bb (nI (6 * k))) → W p l e room_1 s m args below meth c H1 locs1 (cells + 2) (slots + 12) Q (F0 m 2726 ls1 [])) : W p l e room_1 s m args below meth c H locs cells slots Q (F0 m 2657 ls []) := by
  obtain ⟨hx, hb, hml, hts, hown, hK, hX, hXs, hbl, hbb, hst, hL⟩ := id hW
  refine lv_aload_n hx hb dL_law_2657 rfl (lv_at hl 1 rfl) ?_
  refine xc_i (va_runV (As := []) (rest := []) ⟨hx, hb, hml, hown, hts⟩ (c_X7_writeReadings l D cy bb 134 (by decide) M (g_cnt hG)) (cwV 0 hts gL_law_X7_writeReadings rfl rfl rfl (by decide +kernel) ⟨Nat.le_of_ble_eq_true rfl, Nat.le_of_ble_eq_true rfl⟩) (xPreV hP hK hX hS (by decide) (cell7 (by decide)) rfl) rfl rfl hl.1 rfl (lv_room (Nat.le_of_ble_eq_true rfl)) dL_law_2658 ⟨by show cells + _ ≤ 601024; omega, by show slots + _ ≤ 7293034; omega⟩) hS (fun H locs hP hS => ?_)
  have hG1 : G M (gX7_writeReadings M) := g_mid0 hG (rel_writeReadings hG)
  have r1 : RES M (gX7_writeReadings M) (gX7_writeReadings M) (gX8_writeReadings (gX7_writeReadings M)) [] 0 (fX7_writeReadings M) (fX8_writeReadings (gX7_writeReadings M)) := rel_writeReadings hG1
  refine lv_aload_n hx hb dL_law_2661 rfl (lv_at hl 2 rfl) ?_
  refine xc_i (va_runV (As := []) (rest := [.int (fX7_writeReadings M)]) ⟨hx, hb, hml, hown, hts⟩ (c_X8_writeReadings l D cy bb 134 (by decide) (gX7_writeReadings M) (g_mny hG1) (g_bxs hG1) (g_tmp hG1)) (cwV 0 hts gL_law_X8_writeReadings rfl rfl rfl (by decide +kernel) ⟨Nat.le_of_ble_eq_true rfl, Nat.le_of_ble_eq_true rfl⟩) (xPreV hP hK hX hS (by decide) (cell8 (by decide)) rfl) rfl rfl hl.1 rfl (lv_room (Nat.le_of_ble_eq_true rfl)) dL_law_2662 ⟨by show cells + _ + _ ≤ 601024; omega, by show slots + _ + _ ≤ 7293034; omega⟩) hS (fun H locs hP hS => ?_)
  obtain ⟨e1, e2⟩ := g_end0 r1
  refine lv_icmp_eq (tgt := 2726) hx hb dL_law_2665 (by decide) (fun _ => ?_) (fun h => absurd e2 h)
  refine W.widen (k := cells + 2) (n := slots + 12) (by omega) (by omega) ?_
  exact kk _ H locs ls e1 hP hS hl
set_option maxHeartbeats 4000000 in
set_option maxRecDepth 100000 in
theorem law_54 {p : Program} {l : Launch} {e : Env} {s : State} {m : MethodId} {args : Array Value} {below : List Frame} {meth : Method} {c : Code} {H : Heap} {locs : List Loc} {cells slots : Nat} {Q : State → Prop} {ls : Array Slot} {D : va_G} {cy : Nat → ClassId} {bb b L : Nat} {xs : Nat → Int32} {M : Mem} {k : Nat} (hW : LW p l s m args c D cy bb b L xs) (hk : 6 * k + 6 ≤ L) (hc : cells + 2 ≤ 601024) (hs : slots + 12 ≤ 7293034) (hG : G M M) (hP : va_P D vwCl (wL cy bb fT M 134) H) (hS : va_S (fr bb) s.heap H locs) (hl : lv_has ls 9 (lvL b bb (nI (6 * k))))
    (kk : ∀ (M1 : Mem) (H1 : Heap) (locs1 : List Loc) (ls1 : Array Slot), G M1 M1 → va_P D vwCl (wL cy bb fT M1 134) H1 → va_S (fr bb) s.heap H1 locs1 → lv_has ls1 9 (lvL b bb (nI (6 * k))) → W p l e room_1 s m args below meth c H1 locs1 (cells + 2) (slots + 12) Q (F0 m 2726 ls1 [])) : W p l e room_1 s m args below meth c H locs cells slots Q (F0 m 2670 ls []) := by
  obtain ⟨hx, hb, hml, hts, hown, hK, hX, hXs, hbl, hbb, hst, hL⟩ := id hW
  refine lv_aload_n hx hb dL_law_2670 rfl (lv_at hl 1 rfl) ?_
  refine law_arg 1 hW hk (by decide) hS (lv_at hl 0 rfl) (lv_at hl 4 rfl) dL_law_2671 dL_law_2672 dL_law_2674 rfl dL_law_2675 dL_law_2676 ?_
  refine lv_aload_n hx hb dL_law_2677 rfl (lv_at hl 3 rfl) ?_
  refine xc_i (vx_runSW (As := [.ref (bb + 0), .int (xs (6 * k + 1)), .ref (bb + 133)]) (rest := []) ⟨hx, hb, hml, hown, hts⟩ (c_L_outputByte l hst D cy bb 134 (by decide) M (xs (6 * k + 1)) (g_ot hG)) (vx_cwSW 3 hts gL_law_L_outputByte rfl rfl rfl (by decide +kernel) ⟨Nat.le_of_ble_eq_true rfl, Nat.le_of_ble_eq_true rfl⟩) (xPreS hP hK hX hS) rfl rfl hl.1 rfl (lv_room (Nat.le_of_ble_eq_true rfl)) dL_law_2678 ⟨by show cells + _ ≤ 601024; omega, by show slots + _ ≤ 7293034; omega⟩) hS (fun H locs hP hS => ?_)
  have r0 := rel_outputByte hG (xs (6 * k + 1))
  obtain ⟨M1, hM1⟩ : ∃ z, z = gL_outputByte M (xs (6 * k + 1)) := ⟨_, rfl⟩
  rw [← hM1] at hP
  have hm : M1 = if tX7_outputByte M (xs (6 * k + 1)) = 0 then mU M 133 0 (fX7_outputByte M (xs (6 * k + 1))) else M := hM1
  have hG1 := g_mid hG r0 hm
  have r1 := rel_outputByte hG1 (xs (6 * k + 1))
  refine lv_istore (lv' := (5, .int (cd [1] (tX7_outputByte M (xs (6 * k + 1))))) :: lvL b bb (nI (6 * k))) hx hb dL_law_2681 hl (by decide) rfl (fun ls hl => ?_)
  refine lv_aload_n hx hb dL_law_2683 rfl (lv_at hl 3 rfl) ?_
  refine law_arg 1 hW hk (by decide) hS (lv_at hl 1 rfl) (lv_at hl 5 rfl) dL_law_2684 dL_law_2685 dL_law_2687 rfl dL_law_2688 dL_law_2689 ?_
  refine xc_i (va_runV (As := [.int (xs (6 * k + 1))]) (rest := []) ⟨hx, hb, hml, hown, hts⟩ (c_X8_outputByte l D cy bb 134 (by decide) M1 (xs (6 * k + 1)) (g_how hG1)) (cwV 1 hts gL_law_X8_outputByte rfl rfl rfl (by decide +kernel) ⟨Nat.le_of_ble_eq_true rfl, Nat.le_of_ble_eq_true rfl⟩) (xPreV hP hK hX hS (by decide) (cell8 (by decide)) rfl) rfl rfl hl.1 rfl (lv_room (Nat.le_of_ble_eq_true rfl)) dL_law_2690 ⟨by show cells + _ + _ ≤ 601024; omega, by show slots + _ + _ ≤ 7293034; omega⟩) hS (fun H locs hP hS => ?_)
  obtain ⟨e1, e2, e3⟩ := g_end (by decide) r1 hm
  obtain ⟨M2, hM2⟩ : ∃ z, z = gX8_outputByte M1 (xs (6 * k + 1)) := ⟨_, rfl⟩
  rw [← hM2] at hP e1 e2 e3
  refine lv_istore (lv' := (6, .int (fX8_outputByte M1 (xs (6 * k + 1)))) :: (5, .int (cd [1] (tX7_outputByte M (xs (6 * k + 1))))) :: lvL b bb (nI (6 * k))) hx hb dL_law_2693 hl (by decide) rfl (fun ls hl => ?_)
  refine law_tail hW hP hS (by omega) (by omega) hl e2 (fun h => (e3 h).1.trans (e3 h).2) dL_law_2695 dL_law_2696 dL_law_2699 dL_law_2701 dL_law_2706 dL_law_2708 dL_law_2711 dL_law_2712 dL_law_2713 dL_law_2714 dL_law_2716 dL_law_2717 dL_law_2718 dL_law_2723 (by decide) (fun H locs ls hP hS hl => ?_) (by decide)
  refine W.widen (k := cells + 2) (n := slots + 12) (by omega) (by omega) ?_
  exact kk M2 H locs ls e1 hP hS hl
