/-! the cases of the law -/
set_option maxHeartbeats 4000000 in
set_option maxRecDepth 100000 in
theorem law_0 {p : Program} {l : Launch} {e : Env} {s : State} {m : MethodId} {args : Array Value} {below : List Frame} {meth : Method} {c : Code} {H : Heap} {locs : List Loc} {cells slots : Nat} {Q : State → Prop} {ls : Array Slot} {D : va_G} {cy : Nat → ClassId} {bb b L : Nat} {xs : Nat → Int32} {M : Mem} {k : Nat} (hW : LW p l s m args c D cy bb b L xs) (hk : 6 * k + 6 ≤ L) (hc : cells + 2 ≤ 601024) (hs : slots + 12 ≤ 7293034) (hG : G M M) (hP : va_P D vwCl (wL cy bb fT M 134) H) (hS : va_S (fr bb) s.heap H locs) (hl : lv_has ls 9 (lvL b bb (nI (6 * k))))
    (kk : ∀ (M1 : Mem) (H1 : Heap) (locs1 : List Loc) (ls1 : Array Slot), G M1 M1 → va_P D vwCl (wL cy bb fT M1 134) H1 → va_S (fr bb) s.heap H1 locs1 → lv_has ls1 9 (lvL b bb (nI (6 * k))) → W p l e room_1 s m args below meth c H1 locs1 (cells + 2) (slots + 12) Q (F0 m 2726 ls1 [])) : W p l e room_1 s m args below meth c H locs cells slots Q (F0 m 276 ls []) := by
  obtain ⟨hx, hb, hml, hts, hown, hK, hX, hXs, hbl, hbb, hst, hL⟩ := id hW
  refine lv_aload_n hx hb dL_law_276 rfl (lv_at hl 1 rfl) ?_
  refine law_arg 1 hW hk (by decide) hS (lv_at hl 0 rfl) (lv_at hl 4 rfl) dL_law_277 dL_law_278 dL_law_280 rfl dL_law_281 dL_law_282 ?_
  refine law_arg 2 hW hk (by decide) hS (lv_at hl 0 rfl) (lv_at hl 4 rfl) dL_law_283 dL_law_284 dL_law_286 rfl dL_law_287 dL_law_288 ?_
  refine law_arg 3 hW hk (by decide) hS (lv_at hl 0 rfl) (lv_at hl 4 rfl) dL_law_289 dL_law_290 dL_law_292 rfl dL_law_293 dL_law_294 ?_
  refine law_arg 4 hW hk (by decide) hS (lv_at hl 0 rfl) (lv_at hl 4 rfl) dL_law_295 dL_law_296 dL_law_298 rfl dL_law_299 dL_law_300 ?_
  refine law_arg 5 hW hk (by decide) hS (lv_at hl 0 rfl) (lv_at hl 4 rfl) dL_law_301 dL_law_302 dL_law_304 rfl dL_law_305 dL_law_306 ?_
  refine lv_aload_n hx hb dL_law_307 rfl (lv_at hl 3 rfl) ?_
  refine xc_i (vx_runSW (As := [.ref (bb + 0), .int (xs (6 * k + 1)), .int (xs (6 * k + 2)), .int (xs (6 * k + 3)), .int (xs (6 * k + 4)), .int (xs (6 * k + 5)), .ref (bb + 133)]) (rest := []) ⟨hx, hb, hml, hown, hts⟩ (c_L_append l hst D cy bb 134 (by decide) M (xs (6 * k + 1)) (xs (6 * k + 2)) (xs (6 * k + 3)) (xs (6 * k + 4)) (xs (6 * k + 5)) (g_tf hG)) (vx_cwSW 7 hts gL_law_L_append rfl rfl rfl (by decide +kernel) ⟨Nat.le_of_ble_eq_true rfl, Nat.le_of_ble_eq_true rfl⟩) (xPreS hP hK hX hS) rfl rfl hl.1 rfl (lv_room (Nat.le_of_ble_eq_true rfl)) dL_law_308 ⟨by show cells + _ ≤ 601024; omega, by show slots + _ ≤ 7293034; omega⟩) hS (fun H locs hP hS => ?_)
  have r0 := rel_append hG (xs (6 * k + 1)) (xs (6 * k + 2)) (xs (6 * k + 3)) (xs (6 * k + 4)) (xs (6 * k + 5))
  obtain ⟨M1, hM1⟩ : ∃ z, z = gL_append M (xs (6 * k + 1)) (xs (6 * k + 2)) (xs (6 * k + 3)) (xs (6 * k + 4)) (xs (6 * k + 5)) := ⟨_, rfl⟩
  rw [← hM1] at hP
  have hm : M1 = if tX7_append M (xs (6 * k + 1)) (xs (6 * k + 2)) (xs (6 * k + 3)) (xs (6 * k + 4)) (xs (6 * k + 5)) = 0 then mU (gX7_append M (xs (6 * k + 1)) (xs (6 * k + 2)) (xs (6 * k + 3)) (xs (6 * k + 4)) (xs (6 * k + 5))) 133 0 (fX7_append M (xs (6 * k + 1)) (xs (6 * k + 2)) (xs (6 * k + 3)) (xs (6 * k + 4)) (xs (6 * k + 5))) else (gX7_append M (xs (6 * k + 1)) (xs (6 * k + 2)) (xs (6 * k + 3)) (xs (6 * k + 4)) (xs (6 * k + 5))) := hM1
  have hG1 := g_mid hG r0 hm
  have r1 := rel_append hG1 (xs (6 * k + 1)) (xs (6 * k + 2)) (xs (6 * k + 3)) (xs (6 * k + 4)) (xs (6 * k + 5))
  refine lv_istore (lv' := (5, .int (cd [3] (tX7_append M (xs (6 * k + 1)) (xs (6 * k + 2)) (xs (6 * k + 3)) (xs (6 * k + 4)) (xs (6 * k + 5))))) :: lvL b bb (nI (6 * k))) hx hb dL_law_311 hl (by decide) rfl (fun ls hl => ?_)
  refine lv_aload_n hx hb dL_law_313 rfl (lv_at hl 3 rfl) ?_
  refine law_arg 1 hW hk (by decide) hS (lv_at hl 1 rfl) (lv_at hl 5 rfl) dL_law_314 dL_law_315 dL_law_317 rfl dL_law_318 dL_law_319 ?_
  refine law_arg 2 hW hk (by decide) hS (lv_at hl 1 rfl) (lv_at hl 5 rfl) dL_law_320 dL_law_321 dL_law_323 rfl dL_law_324 dL_law_325 ?_
  refine law_arg 3 hW hk (by decide) hS (lv_at hl 1 rfl) (lv_at hl 5 rfl) dL_law_326 dL_law_327 dL_law_329 rfl dL_law_330 dL_law_331 ?_
  refine law_arg 4 hW hk (by decide) hS (lv_at hl 1 rfl) (lv_at hl 5 rfl) dL_law_332 dL_law_333 dL_law_335 rfl dL_law_336 dL_law_337 ?_
  refine law_arg 5 hW hk (by decide) hS (lv_at hl 1 rfl) (lv_at hl 5 rfl) dL_law_338 dL_law_339 dL_law_341 rfl dL_law_342 dL_law_343 ?_
  refine xc_i (va_runV (As := [.int (xs (6 * k + 1)), .int (xs (6 * k + 2)), .int (xs (6 * k + 3)), .int (xs (6 * k + 4)), .int (xs (6 * k + 5))]) (rest := []) ⟨hx, hb, hml, hown, hts⟩ (c_X8_append l D cy bb 134 (by decide) M1 (xs (6 * k + 1)) (xs (6 * k + 2)) (xs (6 * k + 3)) (xs (6 * k + 4)) (xs (6 * k + 5)) (g_hcn hG1)) (cwV 5 hts gL_law_X8_append rfl rfl rfl (by decide +kernel) ⟨Nat.le_of_ble_eq_true rfl, Nat.le_of_ble_eq_true rfl⟩) (xPreV hP hK hX hS (by decide) (cell8 (by decide)) rfl) rfl rfl hl.1 rfl (lv_room (Nat.le_of_ble_eq_true rfl)) dL_law_344 ⟨by show cells + _ + _ ≤ 601024; omega, by show slots + _ + _ ≤ 7293034; omega⟩) hS (fun H locs hP hS => ?_)
  obtain ⟨e1, e2, e3⟩ := g_end (by decide) r1 hm
  obtain ⟨M2, hM2⟩ : ∃ z, z = gX8_append M1 (xs (6 * k + 1)) (xs (6 * k + 2)) (xs (6 * k + 3)) (xs (6 * k + 4)) (xs (6 * k + 5)) := ⟨_, rfl⟩
  rw [← hM2] at hP e1 e2 e3
  refine lv_istore (lv' := (6, .int (fX8_append M1 (xs (6 * k + 1)) (xs (6 * k + 2)) (xs (6 * k + 3)) (xs (6 * k + 4)) (xs (6 * k + 5)))) :: (5, .int (cd [3] (tX7_append M (xs (6 * k + 1)) (xs (6 * k + 2)) (xs (6 * k + 3)) (xs (6 * k + 4)) (xs (6 * k + 5))))) :: lvL b bb (nI (6 * k))) hx hb dL_law_347 hl (by decide) rfl (fun ls hl => ?_)
  refine law_tail hW hP hS (by omega) (by omega) hl e2 (fun h => (e3 h).1.trans (e3 h).2) dL_law_349 dL_law_350 dL_law_353 dL_law_355 dL_law_360 dL_law_362 dL_law_365 dL_law_366 dL_law_367 dL_law_368 dL_law_370 dL_law_371 dL_law_372 dL_law_377 (by decide) (fun H locs ls hP hS hl => ?_) (by decide)
  refine W.widen (k := cells + 2) (n := slots + 12) (by omega) (by omega) ?_
  exact kk M2 H locs ls e1 hP hS hl
set_option maxHeartbeats 4000000 in
set_option maxRecDepth 100000 in
theorem law_1 {p : Program} {l : Launch} {e : Env} {s : State} {m : MethodId} {args : Array Value} {below : List Frame} {meth : Method} {c : Code} {H : Heap} {locs : List Loc} {cells slots : Nat} {Q : State → Prop} {ls : Array Slot} {D : va_G} {cy : Nat → ClassId} {bb b L : Nat} {xs : Nat → Int32} {M : Mem} {k : Nat} (hW : LW p l s m args c D cy bb b L xs) (hk : 6 * k + 6 ≤ L) (hc : cells + 2 ≤ 601024) (hs : slots + 12 ≤ 7293034) (hG : G M M) (hP : va_P D vwCl (wL cy bb fT M 134) H) (hS : va_S (fr bb) s.heap H locs) (hl : lv_has ls 9 (lvL b bb (nI (6 * k))))
    (kk : ∀ (M1 : Mem) (H1 : Heap) (locs1 : List Loc) (ls1 : Array Slot), G M1 M1 → va_P D vwCl (wL cy bb fT M1 134) H1 → va_S (fr bb) s.heap H1 locs1 → lv_has ls1 9 (lvL b bb (nI (6 * k))) → W p l e room_1 s m args below meth c H1 locs1 (cells + 2) (slots + 12) Q (F0 m 2726 ls1 [])) : W p l e room_1 s m args below meth c H locs cells slots Q (F0 m 380 ls []) := by
  obtain ⟨hx, hb, hml, hts, hown, hK, hX, hXs, hbl, hbb, hst, hL⟩ := id hW
  refine lv_aload_n hx hb dL_law_380 rfl (lv_at hl 1 rfl) ?_
  refine law_arg 1 hW hk (by decide) hS (lv_at hl 0 rfl) (lv_at hl 4 rfl) dL_law_381 dL_law_382 dL_law_384 rfl dL_law_385 dL_law_386 ?_
  refine lv_aload_n hx hb dL_law_387 rfl (lv_at hl 3 rfl) ?_
  refine xc_i (vx_runSW (As := [.ref (bb + 0), .int (xs (6 * k + 1)), .ref (bb + 133)]) (rest := []) ⟨hx, hb, hml, hown, hts⟩ (c_L_load l hst D cy bb 134 (by decide) M (xs (6 * k + 1)) (g_tf hG) (g_cd hG)) (vx_cwSW 3 hts gL_law_L_load rfl rfl rfl (by decide +kernel) ⟨Nat.le_of_ble_eq_true rfl, Nat.le_of_ble_eq_true rfl⟩) (xPreS hP hK hX hS) rfl rfl hl.1 rfl (lv_room (Nat.le_of_ble_eq_true rfl)) dL_law_388 ⟨by show cells + _ ≤ 601024; omega, by show slots + _ ≤ 7293034; omega⟩) hS (fun H locs hP hS => ?_)
  have r0 := rel_load hG (xs (6 * k + 1))
  obtain ⟨M1, hM1⟩ : ∃ z, z = gL_load M (xs (6 * k + 1)) := ⟨_, rfl⟩
  rw [← hM1] at hP
  have hm : M1 = if tX7_load M (xs (6 * k + 1)) = 0 then mU (gX7_load M (xs (6 * k + 1))) 133 0 (fX7_load M (xs (6 * k + 1))) else (gX7_load M (xs (6 * k + 1))) := hM1
  have hG1 := g_mid hG r0 hm
  have r1 := rel_load hG1 (xs (6 * k + 1))
  refine lv_istore (lv' := (5, .int (cd [1, 2] (tX7_load M (xs (6 * k + 1))))) :: lvL b bb (nI (6 * k))) hx hb dL_law_391 hl (by decide) rfl (fun ls hl => ?_)
  refine lv_aload_n hx hb dL_law_393 rfl (lv_at hl 3 rfl) ?_
  refine law_arg 1 hW hk (by decide) hS (lv_at hl 1 rfl) (lv_at hl 5 rfl) dL_law_394 dL_law_395 dL_law_397 rfl dL_law_398 dL_law_399 ?_
  refine xc_i (va_runV (As := [.int (xs (6 * k + 1))]) (rest := []) ⟨hx, hb, hml, hown, hts⟩ (c_X8_load l D cy bb 134 (by decide) M1 (xs (6 * k + 1)) (g_hcn hG1)) (cwV 1 hts gL_law_X8_load rfl rfl rfl (by decide +kernel) ⟨Nat.le_of_ble_eq_true rfl, Nat.le_of_ble_eq_true rfl⟩) (xPreV hP hK hX hS (by decide) (cell8 (by decide)) rfl) rfl rfl hl.1 rfl (lv_room (Nat.le_of_ble_eq_true rfl)) dL_law_400 ⟨by show cells + _ + _ ≤ 601024; omega, by show slots + _ + _ ≤ 7293034; omega⟩) hS (fun H locs hP hS => ?_)
  obtain ⟨e1, e2, e3⟩ := g_end (by decide) r1 hm
  obtain ⟨M2, hM2⟩ : ∃ z, z = gX8_load M1 (xs (6 * k + 1)) := ⟨_, rfl⟩
  rw [← hM2] at hP e1 e2 e3
  refine lv_istore (lv' := (6, .int (fX8_load M1 (xs (6 * k + 1)))) :: (5, .int (cd [1, 2] (tX7_load M (xs (6 * k + 1))))) :: lvL b bb (nI (6 * k))) hx hb dL_law_403 hl (by decide) rfl (fun ls hl => ?_)
  refine law_tail hW hP hS (by omega) (by omega) hl e2 (fun h => (e3 h).1.trans (e3 h).2) dL_law_405 dL_law_406 dL_law_409 dL_law_411 dL_law_416 dL_law_418 dL_law_421 dL_law_422 dL_law_423 dL_law_424 dL_law_426 dL_law_427 dL_law_428 dL_law_433 (by decide) (fun H locs ls hP hS hl => ?_) (by decide)
  refine W.widen (k := cells + 2) (n := slots + 12) (by omega) (by omega) ?_
  exact kk M2 H locs ls e1 hP hS hl
set_option maxHeartbeats 4000000 in
set_option maxRecDepth 100000 in
theorem law_2 {p : Program} {l : Launch} {e : Env} {s : State} {m : MethodId} {args : Array Value} {below : List Frame} {meth : Method} {c : Code} {H : Heap} {locs : List Loc} {cells slots : Nat} {Q : State → Prop} {ls : Array Slot} {D : va_G} {cy : Nat → ClassId} {bb b L : Nat} {xs : Nat → Int32} {M : Mem} {k : Nat} (hW : LW p l s m args c D cy bb b L xs) (hk : 6 * k + 6 ≤ L) (hc : cells + 2 ≤ 601024) (hs : slots + 12 ≤ 7293034) (hG : G M M) (hP : va_P D vwCl (wL cy bb fT M 134) H) (hS : va_S (fr bb) s.heap H locs) (hl : lv_has ls 9 (lvL b bb (nI (6 * k))))
    (kk : ∀ (M1 : Mem) (H1 : Heap) (locs1 : List Loc) (ls1 : Array Slot), G M1 M1 → va_P D vwCl (wL cy bb fT M1 134) H1 → va_S (fr bb) s.heap H1 locs1 → lv_has ls1 9 (lvL b bb (nI (6 * k))) → W p l e room_1 s m args below meth c H1 locs1 (cells + 2) (slots + 12) Q (F0 m 2726 ls1 [])) : W p l e room_1 s m args below meth c H locs cells slots Q (F0 m 436 ls []) := by
  obtain ⟨hx, hb, hml, hts, hown, hK, hX, hXs, hbl, hbb, hst, hL⟩ := id hW
  refine lv_aload_n hx hb dL_law_436 rfl (lv_at hl 1 rfl) ?_
  refine xc_i (va_runV (As := []) (rest := []) ⟨hx, hb, hml, hown, hts⟩ (c_X7_errorKind l D cy bb 134 (by decide) M ) (cwV 0 hts gL_law_X7_errorKind rfl rfl rfl (by decide +kernel) ⟨Nat.le_of_ble_eq_true rfl, Nat.le_of_ble_eq_true rfl⟩) (xPreV hP hK hX hS (by decide) (cell7 (by decide)) rfl) rfl rfl hl.1 rfl (lv_room (Nat.le_of_ble_eq_true rfl)) dL_law_437 ⟨by show cells + _ ≤ 601024; omega, by show slots + _ ≤ 7293034; omega⟩) hS (fun H locs hP hS => ?_)
  have hG1 : G M M := hG
  have r1 : RES M M M (gX8_errorKind M) [] 0 (fX7_errorKind M) (fX8_errorKind M) := rel_errorKind hG1
  refine lv_aload_n hx hb dL_law_440 rfl (lv_at hl 2 rfl) ?_
  refine xc_i (va_runV (As := []) (rest := [.int (fX7_errorKind M)]) ⟨hx, hb, hml, hown, hts⟩ (c_X8_errorKind l D cy bb 134 (by decide) M ) (cwV 0 hts gL_law_X8_errorKind rfl rfl rfl (by decide +kernel) ⟨Nat.le_of_ble_eq_true rfl, Nat.le_of_ble_eq_true rfl⟩) (xPreV hP hK hX hS (by decide) (cell8 (by decide)) rfl) rfl rfl hl.1 rfl (lv_room (Nat.le_of_ble_eq_true rfl)) dL_law_441 ⟨by show cells + _ + _ ≤ 601024; omega, by show slots + _ + _ ≤ 7293034; omega⟩) hS (fun H locs hP hS => ?_)
  obtain ⟨e1, e2⟩ := g_end0 r1
  refine lv_icmp_eq (tgt := 2726) hx hb dL_law_444 (by decide) (fun _ => ?_) (fun h => absurd e2 h)
  refine W.widen (k := cells + 2) (n := slots + 12) (by omega) (by omega) ?_
  exact kk _ H locs ls e1 hP hS hl
set_option maxHeartbeats 4000000 in
set_option maxRecDepth 100000 in
theorem law_3 {p : Program} {l : Launch} {e : Env} {s : State} {m : MethodId} {args : Array Value} {below : List Frame} {meth : Method} {c : Code} {H : Heap} {locs : List Loc} {cells slots : Nat} {Q : State → Prop} {ls : Array Slot} {D : va_G} {cy : Nat → ClassId} {bb b L : Nat} {xs : Nat → Int32} {M : Mem} {k : Nat} (hW : LW p l s m args c D cy bb b L xs) (hk : 6 * k + 6 ≤ L) (hc : cells + 2 ≤ 601024) (hs : slots + 12 ≤ 7293034) (hG : G M M) (hP : va_P D vwCl (wL cy bb fT M 134) H) (hS : va_S (fr bb) s.heap H locs) (hl : lv_has ls 9 (lvL b bb (nI (6 * k))))
    (kk : ∀ (M1 : Mem) (H1 : Heap) (locs1 : List Loc) (ls1 : Array Slot), G M1 M1 → va_P D vwCl (wL cy bb fT M1 134) H1 → va_S (fr bb) s.heap H1 locs1 → lv_has ls1 9 (lvL b bb (nI (6 * k))) → W p l e room_1 s m args below meth c H1 locs1 (cells + 2) (slots + 12) Q (F0 m 2726 ls1 [])) : W p l e room_1 s m args below meth c H locs cells slots Q (F0 m 449 ls []) := by
  obtain ⟨hx, hb, hml, hts, hown, hK, hX, hXs, hbl, hbb, hst, hL⟩ := id hW
  refine lv_aload_n hx hb dL_law_449 rfl (lv_at hl 1 rfl) ?_
  refine xc_i (va_runV (As := []) (rest := []) ⟨hx, hb, hml, hown, hts⟩ (c_X7_errorOffset l D cy bb 134 (by decide) M ) (cwV 0 hts gL_law_X7_errorOffset rfl rfl rfl (by decide +kernel) ⟨Nat.le_of_ble_eq_true rfl, Nat.le_of_ble_eq_true rfl⟩) (xPreV hP hK hX hS (by decide) (cell7 (by decide)) rfl) rfl rfl hl.1 rfl (lv_room (Nat.le_of_ble_eq_true rfl)) dL_law_450 ⟨by show cells + _ ≤ 601024; omega, by show slots + _ ≤ 7293034; omega⟩) hS (fun H locs hP hS => ?_)
  have hG1 : G M M := hG
  have r1 : RES M M M (gX8_errorOffset M) [] 0 (fX7_errorOffset M) (fX8_errorOffset M) := rel_errorOffset hG1
  refine lv_aload_n hx hb dL_law_453 rfl (lv_at hl 2 rfl) ?_
  refine xc_i (va_runV (As := []) (rest := [.int (fX7_errorOffset M)]) ⟨hx, hb, hml, hown, hts⟩ (c_X8_errorOffset l D cy bb 134 (by decide) M ) (cwV 0 hts gL_law_X8_errorOffset rfl rfl rfl (by decide +kernel) ⟨Nat.le_of_ble_eq_true rfl, Nat.le_of_ble_eq_true rfl⟩) (xPreV hP hK hX hS (by decide) (cell8 (by decide)) rfl) rfl rfl hl.1 rfl (lv_room (Nat.le_of_ble_eq_true rfl)) dL_law_454 ⟨by show cells + _ + _ ≤ 601024; omega, by show slots + _ + _ ≤ 7293034; omega⟩) hS (fun H locs hP hS => ?_)
  obtain ⟨e1, e2⟩ := g_end0 r1
  refine lv_icmp_eq (tgt := 2726) hx hb dL_law_457 (by decide) (fun _ => ?_) (fun h => absurd e2 h)
  refine W.widen (k := cells + 2) (n := slots + 12) (by omega) (by omega) ?_
  exact kk _ H locs ls e1 hP hS hl
set_option maxHeartbeats 4000000 in
set_option maxRecDepth 100000 in
theorem law_4 {p : Program} {l : Launch} {e : Env} {s : State} {m : MethodId} {args : Array Value} {below : List Frame} {meth : Method} {c : Code} {H : Heap} {locs : List Loc} {cells slots : Nat} {Q : State → Prop} {ls : Array Slot} {D : va_G} {cy : Nat → ClassId} {bb b L : Nat} {xs : Nat → Int32} {M : Mem} {k : Nat} (hW : LW p l s m args c D cy bb b L xs) (hk : 6 * k + 6 ≤ L) (hc : cells + 2 ≤ 601024) (hs : slots + 12 ≤ 7293034) (hG : G M M) (hP : va_P D vwCl (wL cy bb fT M 134) H) (hS : va_S (fr bb) s.heap H locs) (hl : lv_has ls 9 (lvL b bb (nI (6 * k))))
    (kk : ∀ (M1 : Mem) (H1 : Heap) (locs1 : List Loc) (ls1 : Array Slot), G M1 M1 → va_P D vwCl (wL cy bb fT M1 134) H1 → va_S (fr bb) s.heap H1 locs1 → lv_has ls1 9 (lvL b bb (nI (6 * k))) → W p l e room_1 s m args below meth c H1 locs1 (cells + 2) (slots + 12) Q (F0 m 2726 ls1 [])) : W p l e room_1 s m args below meth c H locs cells slots Q (F0 m 462 ls []) := by
  obtain ⟨hx, hb, hml, hts, hown, hK, hX, hXs, hbl, hbb, hst, hL⟩ := id hW
  refine lv_aload_n hx hb dL_law_462 rfl (lv_at hl 1 rfl) ?_
  refine xc_i (va_runV (As := []) (rest := []) ⟨hx, hb, hml, hown, hts⟩ (c_X7_minute l D cy bb 134 (by decide) M ) (cwV 0 hts gL_law_X7_minute rfl rfl rfl (by decide +kernel) ⟨Nat.le_of_ble_eq_true rfl, Nat.le_of_ble_eq_true rfl⟩) (xPreV hP hK hX hS (by decide) (cell7 (by decide)) rfl) rfl rfl hl.1 rfl (lv_room (Nat.le_of_ble_eq_true rfl)) dL_law_463 ⟨by show cells + _ ≤ 601024; omega, by show slots + _ ≤ 7293034; omega⟩) hS (fun H locs hP hS => ?_)
  have hG1 : G M M := hG
  have r1 : RES M M M (gX8_minute M) [] 0 (fX7_minute M) (fX8_minute M) := rel_minute hG1
  refine lv_aload_n hx hb dL_law_466 rfl (lv_at hl 2 rfl) ?_
  refine xc_i (va_runV (As := []) (rest := [.int (fX7_minute M)]) ⟨hx, hb, hml, hown, hts⟩ (c_X8_minute l D cy bb 134 (by decide) M ) (cwV 0 hts gL_law_X8_minute rfl rfl rfl (by decide +kernel) ⟨Nat.le_of_ble_eq_true rfl, Nat.le_of_ble_eq_true rfl⟩) (xPreV hP hK hX hS (by decide) (cell8 (by decide)) rfl) rfl rfl hl.1 rfl (lv_room (Nat.le_of_ble_eq_true rfl)) dL_law_467 ⟨by show cells + _ + _ ≤ 601024; omega, by show slots + _ + _ ≤ 7293034; omega⟩) hS (fun H locs hP hS => ?_)
  obtain ⟨e1, e2⟩ := g_end0 r1
  refine lv_icmp_eq (tgt := 2726) hx hb dL_law_470 (by decide) (fun _ => ?_) (fun h => absurd e2 h)
  refine W.widen (k := cells + 2) (n := slots + 12) (by omega) (by omega) ?_
  exact kk _ H locs ls e1 hP hS hl
set_option maxHeartbeats 4000000 in
set_option maxRecDepth 100000 in
theorem law_5 {p : Program} {l : Launch} {e : Env} {s : State} {m : MethodId} {args : Array Value} {below : List Frame} {meth : Method} {c : Code} {H : Heap} {locs : List Loc} {cells slots : Nat} {Q : State → Prop} {ls : Array Slot} {D : va_G} {cy : Nat → ClassId} {bb b L : Nat} {xs : Nat → Int32} {M : Mem} {k : Nat} (hW : LW p l s m args c D cy bb b L xs) (hk : 6 * k + 6 ≤ L) (hc : cells + 2 ≤ 601024) (hs : slots + 12 ≤ 7293034) (hG : G M M) (hP : va_P D vwCl (wL cy bb fT M 134) H) (hS : va_S (fr bb) s.heap H locs) (hl : lv_has ls 9 (lvL b bb (nI (6 * k))))
    (kk : ∀ (M1 : Mem) (H1 : Heap) (locs1 : List Loc) (ls1 : Array Slot), G M1 M1 → va_P D vwCl (wL cy bb fT M1 134) H1 → va_S (fr bb) s.heap H1 locs1 → lv_has ls1 9 (lvL b bb (nI (6 * k))) → W p l e room_1 s m args below meth c H1 locs1 (cells + 2) (slots + 12) Q (F0 m 2726 ls1 [])) : W p l e room_1 s m args below meth c H locs cells slots Q (F0 m 475 ls []) := by
  obtain ⟨hx, hb, hml, hts, hown, hK, hX, hXs, hbl, hbb, hst, hL⟩ := id hW
  refine lv_aload_n hx hb dL_law_475 rfl (lv_at hl 1 rfl) ?_
  refine xc_i (va_runV (As := []) (rest := []) ⟨hx, hb, hml, hown, hts⟩ (c_X7_humidity l D cy bb 134 (by decide) M ) (cwV 0 hts gL_law_X7_humidity rfl rfl rfl (by decide +kernel) ⟨Nat.le_of_ble_eq_true rfl, Nat.le_of_ble_eq_true rfl⟩) (xPreV hP hK hX hS (by decide) (cell7 (by decide)) rfl) rfl rfl hl.1 rfl (lv_room (Nat.le_of_ble_eq_true rfl)) dL_law_476 ⟨by show cells + _ ≤ 601024; omega, by show slots + _ ≤ 7293034; omega⟩) hS (fun H locs hP hS => ?_)
  have hG1 : G M M := hG
  have r1 : RES M M M (gX8_humidity M) [] 0 (fX7_humidity M) (fX8_humidity M) := rel_humidity hG1
  refine lv_aload_n hx hb dL_law_479 rfl (lv_at hl 2 rfl) ?_
  refine xc_i (va_runV (As := []) (rest := [.int (fX7_humidity M)]) ⟨hx, hb, hml, hown, hts⟩ (c_X8_humidity l D cy bb 134 (by decide) M ) (cwV 0 hts gL_law_X8_humidity rfl rfl rfl (by decide +kernel) ⟨Nat.le_of_ble_eq_true rfl, Nat.le_of_ble_eq_true rfl⟩) (xPreV hP hK hX hS (by decide) (cell8 (by decide)) rfl) rfl rfl hl.1 rfl (lv_room (Nat.le_of_ble_eq_true rfl)) dL_law_480 ⟨by show cells + _ + _ ≤ 601024; omega, by show slots + _ + _ ≤ 7293034; omega⟩) hS (fun H locs hP hS => ?_)
  obtain ⟨e1, e2⟩ := g_end0 r1
  refine lv_icmp_eq (tgt := 2726) hx hb dL_law_483 (by decide) (fun _ => ?_) (fun h => absurd e2 h)
  refine W.widen (k := cells + 2) (n := slots + 12) (by omega) (by omega) ?_
  exact kk _ H locs ls e1 hP hS hl
set_option maxHeartbeats 4000000 in
set_option maxRecDepth 100000 in
theorem law_6 {p : Program} {l : Launch} {e : Env} {s : State} {m : MethodId} {args : Array Value} {below : List Frame} {meth : Method} {c : Code} {H : Heap} {locs : List Loc} {cells slots : Nat} {Q : State → Prop} {ls : Array Slot} {D : va_G} {cy : Nat → ClassId} {bb b L : Nat} {xs : Nat → Int32} {M : Mem} {k : Nat} (hW : LW p l s m args c D cy bb b L xs) (hk : 6 * k + 6 ≤ L) (hc : cells + 2 ≤ 601024) (hs : slots + 12 ≤ 7293034) (hG : G M M) (hP : va_P D vwCl (wL cy bb fT M 134) H) (hS : va_S (fr bb) s.heap H locs) (hl : lv_has ls 9 (lvL b bb (nI (6 * k))))
    (kk : ∀ (M1 : Mem) (H1 : Heap) (locs1 : List Loc) (ls1 : Array Slot), G M1 M1 → va_P D vwCl (wL cy bb fT M1 134) H1 → va_S (fr bb) s.heap H1 locs1 → lv_has ls1 9 (lvL b bb (nI (6 * k))) → W p l e room_1 s m args below meth c H1 locs1 (cells + 2) (slots + 12) Q (F0 m 2726 ls1 [])) : W p l e room_1 s m args below meth c H locs cells slots Q (F0 m 488 ls []) := by
  obtain ⟨hx, hb, hml, hts, hown, hK, hX, hXs, hbl, hbb, hst, hL⟩ := id hW
  refine lv_aload_n hx hb dL_law_488 rfl (lv_at hl 1 rfl) ?_
  refine xc_i (va_runV (As := []) (rest := []) ⟨hx, hb, hml, hown, hts⟩ (c_X7_temperature l D cy bb 134 (by decide) M ) (cwV 0 hts gL_law_X7_temperature rfl rfl rfl (by decide +kernel) ⟨Nat.le_of_ble_eq_true rfl, Nat.le_of_ble_eq_true rfl⟩) (xPreV hP hK hX hS (by decide) (cell7 (by decide)) rfl) rfl rfl hl.1 rfl (lv_room (Nat.le_of_ble_eq_true rfl)) dL_law_489 ⟨by show cells + _ ≤ 601024; omega, by show slots + _ ≤ 7293034; omega⟩) hS (fun H locs hP hS => ?_)
  have hG1 : G M M := hG
  have r1 : RES M M M (gX8_temperature M) [] 0 (fX7_temperature M) (fX8_temperature M) := rel_temperature hG1
  refine lv_aload_n hx hb dL_law_492 rfl (lv_at hl 2 rfl) ?_
  refine xc_i (va_runV (As := []) (rest := [.int (fX7_temperature M)]) ⟨hx, hb, hml, hown, hts⟩ (c_X8_temperature l D cy bb 134 (by decide) M ) (cwV 0 hts gL_law_X8_temperature rfl rfl rfl (by decide +kernel) ⟨Nat.le_of_ble_eq_true rfl, Nat.le_of_ble_eq_true rfl⟩) (xPreV hP hK hX hS (by decide) (cell8 (by decide)) rfl) rfl rfl hl.1 rfl (lv_room (Nat.le_of_ble_eq_true rfl)) dL_law_493 ⟨by show cells + _ + _ ≤ 601024; omega, by show slots + _ + _ ≤ 7293034; omega⟩) hS (fun H locs hP hS => ?_)
  obtain ⟨e1, e2⟩ := g_end0 r1
  refine lv_icmp_eq (tgt := 2726) hx hb dL_law_496 (by decide) (fun _ => ?_) (fun h => absurd e2 h)
  refine W.widen (k := cells + 2) (n := slots + 12) (by omega) (by omega) ?_
  exact kk _ H locs ls e1 hP hS hl
