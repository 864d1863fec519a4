set_option maxHeartbeats 4000000 in
set_option maxRecDepth 100000 in
theorem act_calN (l : Launch) (hl0 : l.stackTraces = false) (D : va_G) (cy : Nat → ClassId) (b n : Nat) (hn : 125 ≤ n) {mx c0 : Nat} {Pst : Mem → Prop} {p : Program} {e : Env} {s : State} {m : MethodId} {args : Array Value} {below : List Frame} {meth : Method} {c : Code} (hx : p.tables.exec = Jvm.exec) (hb : c.code = cL_act) (hr : meth.sig.returnType = (some .boolean)) (hlocks : meth.locks = false) (hml : c.maxLocals = 32) (hown : s.vm.findClass RL = some m.cls) (hts : ∀ w ∈ wsL_act, w.before args s = true) (hK : va_K D vwCl (tysW cy) s) (hX : SX b s) (P : Mem) (j : Nat) (hj : j < c0) (cells slots : Nat) (H : Heap) (locs : List Loc) (ls : Array Slot) (hA : AST mx P c0) (hpost : ∀ M1, APOST mx P c0 M1 → Pst M1) (hcl : cells ≤ 2) (hsl : slots ≤ 12) (hP : va_P D vwCl (wL cy b fT P n) H) (hS : va_S (fr b) s.heap H locs) (hl : lv_has ls 32 [(0, .ref (b + 0)), (1, .ref (b + 124)), (2, .int (nI c0)), (3, .int (nI j)), (4, .int (fX7_isHair P (nI j))), (5, .int (outF P (nI j))), (6, .int ((-3) : Int32))]) : W p l e (headSpec wsL_act ({ frames := 9, cells := 9, slots := 54, locals := 158 } : Room)).room s m args below meth c H locs cells slots (MQ below (CQe D cy b n 1 Pst) args s 9 54 (fr b)) (F0 m 391 ls []) := by
  have hc6 := hA.2.2.1
  have hc0 : 0 < c0 := by omega
  have hj6 : j < 6 := by omega
  by_cases ho : fX7_calibrationObstacle P (nI j) = 0
  · refine lv_iload_n hx hb dL_act_391 rfl (lv_at hl 2 rfl) ?_
    refine lv_if_ne (tgt := 399) hx hb dL_act_392 (by decide) (fun c392 => ?_) (fun c392 => absurd c392 (nI_ne0 hc0 (by omega)))
    refine lv_aload_n hx hb dL_act_399 rfl (lv_at hl 0 rfl) ?_
    refine lv_iload_n hx hb dL_act_400 rfl (lv_at hl 3 rfl) ?_
    refine xct_i (vx_runV (As := [.int (nI j)]) (rest := []) ⟨hx, hb, hml, hown, hts⟩ (c_X7_zeroOf l hl0 D cy b n (by omega) P (nI j) hA.cnt) (cwV 1 hts gL_act_X7_zeroOf rfl rfl rfl (by decide +kernel) ⟨Nat.le_of_ble_eq_true rfl, Nat.le_of_ble_eq_true rfl⟩) (xPreV hP hK hX hS (by omega) (cell7 (by decide)) rfl) rfl rfl hl.1 rfl (lv_room (Nat.le_of_ble_eq_true rfl)) dL_act_401 ⟨by show _ ≤ 9; omega, by show _ ≤ 54; omega⟩) hS (fun E ce qx H locs hE _ _ _ _ _ => absurd (t0_zeroOf (t0_at hA.2.1 hc6 hj)) (exn_ne hE)) (fun H locs _ hP hS => ?_)
    refine lv_istore (lv' := [(16, .int (fX7_zeroOf P (nI j))), (0, .ref (b + 0)), (1, .ref (b + 124)), (2, .int (nI c0)), (3, .int (nI j)), (4, .int (fX7_isHair P (nI j))), (5, .int (outF P (nI j))), (6, .int ((-3) : Int32))]) hx hb dL_act_404 hl (by decide) rfl (fun ls hl => ?_)
    refine lv_iload_n hx hb dL_act_406 rfl (lv_at hl 3 rfl) ?_
    refine lv_if_ne (tgt := 414) hx hb dL_act_407 (by decide) (fun c407 => ?_) (fun c407 => absurd c407 (nI_ne0 hc0 (by omega)))
    refine lv_aload_n hx hb dL_act_414 rfl (lv_at hl 1 rfl) ?_
    refine lv_iload_n hx hb dL_act_415 rfl (lv_at hl 4 rfl) ?_
    refine xct_i (vx_runV (As := [.int (nI j)]) (rest := []) ⟨hx, hb, hml, hown, hts⟩ (c_X7_calibrationObstacle l hl0 D cy b n (by omega) P (nI j) hA.cnt) (cwV 1 hts gL_act_X7_calibrationObstacle rfl rfl rfl (by decide +kernel) ⟨Nat.le_of_ble_eq_true rfl, Nat.le_of_ble_eq_true rfl⟩) (xPreV hP hK hX hS (by omega) (cell7 (by decide)) rfl) rfl rfl hl.1 rfl (lv_room (Nat.le_of_ble_eq_true rfl)) dL_act_416 ⟨by show _ ≤ 9; omega, by show _ ≤ 54; omega⟩) hS (fun E ce qx H locs hE _ _ _ _ _ => absurd (t0_calibrationObstacle (t0_at hA.2.1 hc6 hj)) (exn_ne hE)) (fun H locs _ hP hS => ?_)
    refine lv_istore (lv' := [(17, .int (fX7_calibrationObstacle P (nI j))), (16, .int (fX7_zeroOf P (nI j))), (0, .ref (b + 0)), (1, .ref (b + 124)), (2, .int (nI c0)), (3, .int (nI j)), (4, .int (fX7_isHair P (nI j))), (5, .int (outF P (nI j))), (6, .int ((-3) : Int32))]) hx hb dL_act_419 hl (by decide) rfl (fun ls hl => ?_)
    refine lv_aload_n hx hb dL_act_421 rfl (lv_at hl 2 rfl) ?_
    refine lv_iload_n hx hb dL_act_422 rfl (lv_at hl 5 rfl) ?_
    refine xc_i (vx_runSW (As := [.ref (b + 0), .int (nI j)]) (rest := []) ⟨hx, hb, hml, hown, hts⟩ (c_L_calibrated l hl0 D cy b n (by omega) P (nI j) hA.cnt hA.2.2.2.1) (vx_cwSW 2 hts gL_act_L_calibrated rfl rfl rfl (by decide +kernel) ⟨Nat.le_of_ble_eq_true rfl, Nat.le_of_ble_eq_true rfl⟩) (xPreS hP hK hX hS) rfl rfl hl.1 rfl (lv_room (Nat.le_of_ble_eq_true rfl)) dL_act_423 ⟨by show _ ≤ 9; omega, by show _ ≤ 54; omega⟩) hS (fun H locs hP hS => ?_)
    obtain ⟨o1, o2, o3, o4, o5⟩ := op_cal hA hj ho
    obtain ⟨R, hR⟩ : ∃ z, z = gX7_calibrate P (nI j) := ⟨_, rfl⟩
    rw [← hR] at hP o2 o4 o5
    have h1R : R 1 1 = nI c0 := o4
    refine W.eq (g2 := F0 m 426 ls (.int (fX7_zeroOf P (nI j)) :: [])) (congrArg (fun z => F0 m 426 ls (.int z :: [])) (by rw [o1]; exact o3)) ?_
    refine lv_istore (lv' := [(18, .int (fX7_zeroOf P (nI j))), (17, .int (fX7_calibrationObstacle P (nI j))), (16, .int (fX7_zeroOf P (nI j))), (0, .ref (b + 0)), (1, .ref (b + 124)), (2, .int (nI c0)), (3, .int (nI j)), (4, .int (fX7_isHair P (nI j))), (5, .int (outF P (nI j))), (6, .int ((-3) : Int32))]) hx hb dL_act_426 hl (by decide) rfl (fun ls hl => ?_)
    refine lv_iload hx hb dL_act_428 (lv_at hl 1 rfl) ?_
    refine lv_if_ne (tgt := 456) hx hb dL_act_430 (by decide) (fun c430 => absurd ho c430) (fun c430 => ?_)
    refine lv_iload hx hb dL_act_433 (lv_at hl 0 rfl) ?_
    refine lv_iload hx hb dL_act_435 (lv_at hl 2 rfl) ?_
    refine lv_icmp_ne (tgt := 452) hx hb dL_act_437 (by decide) (fun c437 => absurd rfl c437) (fun c437 => ?_)
    refine lv_aload_n hx hb dL_act_440 rfl (lv_at hl 3 rfl) ?_
    refine lv_iload_n hx hb dL_act_441 rfl (lv_at hl 6 rfl) ?_
    refine xct_i (vx_runV (As := [.int (nI j)]) (rest := []) ⟨hx, hb, hml, hown, hts⟩ (c_X7_errorOf l hl0 D cy b n (by omega) R (nI j) ⟨c0, hc6, h1R⟩) (cwV 1 hts gL_act_X7_errorOf rfl rfl rfl (by decide +kernel) ⟨Nat.le_of_ble_eq_true rfl, Nat.le_of_ble_eq_true rfl⟩) (xPreV hP hK hX hS (by omega) (cell7 (by decide)) rfl) rfl rfl hl.1 rfl (lv_room (Nat.le_of_ble_eq_true rfl)) dL_act_442 ⟨by show _ ≤ 9; omega, by show _ ≤ 54; omega⟩) hS (fun E ce qx H locs hE _ _ _ _ _ => absurd (t0_errorOf (t0_at h1R hc6 hj)) (exn_ne hE)) (fun H locs _ hP hS => ?_)
    refine lv_if_ne (tgt := 452) hx hb dL_act_445 (by decide) (fun c445 => absurd o5 c445) (fun c445 => ?_)
    refine lv_iconst (v := 1) hx hb dL_act_448 (by decide) ?_
    refine lv_goto (tgt := 487) hx hb dL_act_449 (by decide) ?_
    exact xe_e hx hb hr hlocks hP hS (hpost _ o2) rfl rfl (by omega) (by omega) dL_act_487
  · refine lv_iload_n hx hb dL_act_391 rfl (lv_at hl 2 rfl) ?_
    refine lv_if_ne (tgt := 399) hx hb dL_act_392 (by decide) (fun c392 => ?_) (fun c392 => absurd c392 (nI_ne0 hc0 (by omega)))
    refine lv_aload_n hx hb dL_act_399 rfl (lv_at hl 0 rfl) ?_
    refine lv_iload_n hx hb dL_act_400 rfl (lv_at hl 3 rfl) ?_
    refine xct_i (vx_runV (As := [.int (nI j)]) (rest := []) ⟨hx, hb, hml, hown, hts⟩ (c_X7_zeroOf l hl0 D cy b n (by omega) P (nI j) hA.cnt) (cwV 1 hts gL_act_X7_zeroOf rfl rfl rfl (by decide +kernel) ⟨Nat.le_of_ble_eq_true rfl, Nat.le_of_ble_eq_true rfl⟩) (xPreV hP hK hX hS (by omega) (cell7 (by decide)) rfl) rfl rfl hl.1 rfl (lv_room (Nat.le_of_ble_eq_true rfl)) dL_act_401 ⟨by show _ ≤ 9; omega, by show _ ≤ 54; omega⟩) hS (fun E ce qx H locs hE _ _ _ _ _ => absurd (t0_zeroOf (t0_at hA.2.1 hc6 hj)) (exn_ne hE)) (fun H locs _ hP hS => ?_)
    refine lv_istore (lv' := [(16, .int (fX7_zeroOf P (nI j))), (0, .ref (b + 0)), (1, .ref (b + 124)), (2, .int (nI c0)), (3, .int (nI j)), (4, .int (fX7_isHair P (nI j))), (5, .int (outF P (nI j))), (6, .int ((-3) : Int32))]) hx hb dL_act_404 hl (by decide) rfl (fun ls hl => ?_)
    refine lv_iload_n hx hb dL_act_406 rfl (lv_at hl 3 rfl) ?_
    refine lv_if_ne (tgt := 414) hx hb dL_act_407 (by decide) (fun c407 => ?_) (fun c407 => absurd c407 (nI_ne0 hc0 (by omega)))
    refine lv_aload_n hx hb dL_act_414 rfl (lv_at hl 1 rfl) ?_
    refine lv_iload_n hx hb dL_act_415 rfl (lv_at hl 4 rfl) ?_
    refine xct_i (vx_runV (As := [.int (nI j)]) (rest := []) ⟨hx, hb, hml, hown, hts⟩ (c_X7_calibrationObstacle l hl0 D cy b n (by omega) P (nI j) hA.cnt) (cwV 1 hts gL_act_X7_calibrationObstacle rfl rfl rfl (by decide +kernel) ⟨Nat.le_of_ble_eq_true rfl, Nat.le_of_ble_eq_true rfl⟩) (xPreV hP hK hX hS (by omega) (cell7 (by decide)) rfl) rfl rfl hl.1 rfl (lv_room (Nat.le_of_ble_eq_true rfl)) dL_act_416 ⟨by show _ ≤ 9; omega, by show _ ≤ 54; omega⟩) hS (fun E ce qx H locs hE _ _ _ _ _ => absurd (t0_calibrationObstacle (t0_at hA.2.1 hc6 hj)) (exn_ne hE)) (fun H locs _ hP hS => ?_)
    refine lv_istore (lv' := [(17, .int (fX7_calibrationObstacle P (nI j))), (16, .int (fX7_zeroOf P (nI j))), (0, .ref (b + 0)), (1, .ref (b + 124)), (2, .int (nI c0)), (3, .int (nI j)), (4, .int (fX7_isHair P (nI j))), (5, .int (outF P (nI j))), (6, .int ((-3) : Int32))]) hx hb dL_act_419 hl (by decide) rfl (fun ls hl => ?_)
    refine lv_aload_n hx hb dL_act_421 rfl (lv_at hl 2 rfl) ?_
    refine lv_iload_n hx hb dL_act_422 rfl (lv_at hl 5 rfl) ?_
    refine xc_i (vx_runSW (As := [.ref (b + 0), .int (nI j)]) (rest := []) ⟨hx, hb, hml, hown, hts⟩ (c_L_calibrated l hl0 D cy b n (by omega) P (nI j) hA.cnt hA.2.2.2.1) (vx_cwSW 2 hts gL_act_L_calibrated rfl rfl rfl (by decide +kernel) ⟨Nat.le_of_ble_eq_true rfl, Nat.le_of_ble_eq_true rfl⟩) (xPreS hP hK hX hS) rfl rfl hl.1 rfl (lv_room (Nat.le_of_ble_eq_true rfl)) dL_act_423 ⟨by show _ ≤ 9; omega, by show _ ≤ 54; omega⟩) hS (fun H locs hP hS => ?_)
    obtain ⟨o1, o2⟩ := op_calR hA hj ho
    rw [o2] at hP
    refine W.eq (g2 := F0 m 426 ls (.int (-993) :: [])) (congrArg (fun z => F0 m 426 ls (.int z :: [])) (by rw [o1]; rfl)) ?_
    refine lv_istore (lv' := [(18, .int (-993)), (17, .int (fX7_calibrationObstacle P (nI j))), (16, .int (fX7_zeroOf P (nI j))), (0, .ref (b + 0)), (1, .ref (b + 124)), (2, .int (nI c0)), (3, .int (nI j)), (4, .int (fX7_isHair P (nI j))), (5, .int (outF P (nI j))), (6, .int ((-3) : Int32))]) hx hb dL_act_426 hl (by decide) rfl (fun ls hl => ?_)
    refine lv_iload hx hb dL_act_428 (lv_at hl 1 rfl) ?_
    refine lv_if_ne (tgt := 456) hx hb dL_act_430 (by decide) (fun c430 => ?_) (fun c430 => absurd c430 ho)
    refine lv_iload hx hb dL_act_456 (lv_at hl 0 rfl) ?_
    refine lv_iload_n hx hb dL_act_458 rfl (lv_at hl 5 rfl) ?_
    refine lv_if_ne (tgt := 468) hx hb dL_act_459 (by decide) (fun c459 => ?_) (fun c459 => absurd c459 (nI_ne0 hc0 (by omega)))
    refine lv_sipush (v := (-993)) hx hb dL_act_468 (by decide) ?_
    refine lv_icmp_ne (tgt := 486) hx hb dL_act_471 (by decide) (fun c471 => absurd rfl c471) (fun c471 => ?_)
    refine lv_aload_n hx hb dL_act_474 rfl (lv_at hl 3 rfl) ?_
    refine lv_iconst (v := 5) hx hb dL_act_475 (by decide) ?_
    refine W.eq (g2 := F0 m 476 ls (.int (nI 5) :: .ref (b + 0) :: [])) (congrArg (fun z => F0 m 476 ls (.int z :: .ref (b + 0) :: [])) rfl) ?_
    refine xc_i (vx_runSW (As := [.ref (b + 0), .int (nI 5)]) (rest := []) ⟨hx, hb, hml, hown, hts⟩ (c_L_taught l hl0 D cy b n (by omega) P (nI 5) hA.cnt hA.2.2.2.1) (vx_cwSW 2 hts gL_act_L_taught rfl rfl rfl (by decide +kernel) ⟨Nat.le_of_ble_eq_true rfl, Nat.le_of_ble_eq_true rfl⟩) (xPreS hP hK hX hS) rfl rfl hl.1 rfl (lv_room (Nat.le_of_ble_eq_true rfl)) dL_act_476 ⟨by show _ ≤ 9; omega, by show _ ≤ 54; omega⟩) hS (fun H locs hP hS => ?_)
    obtain ⟨s1, s2, s3⟩ := op_skl hA (v := 5) (by decide)
    obtain ⟨R, hR⟩ : ∃ z, z = gX7_setSkill P (nI 5) := ⟨_, rfl⟩
    rw [← hR] at hP s3
    refine W.eq (g2 := F0 m 479 ls (.int (fX7_setSkill P (nI 5)) :: [])) (congrArg (fun z => F0 m 479 ls (.int z :: [])) (by rw [s1]; rfl)) ?_
    refine lv_if_lt (tgt := 486) hx hb dL_act_479 (by decide) (fun c479 => absurd c479 s2) (fun c479 => ?_)
    refine lv_iconst (v := 1) hx hb dL_act_482 (by decide) ?_
    refine lv_goto (tgt := 487) hx hb dL_act_483 (by decide) ?_
    exact xe_e hx hb hr hlocks hP hS (hpost _ s3) rfl rfl (by omega) (by omega) dL_act_487
set_option maxHeartbeats 4000000 in
set_option maxRecDepth 100000 in
theorem act_calZ (l : Launch) (hl0 : l.stackTraces = false) (D : va_G) (cy : Nat → ClassId) (b n : Nat) (hn : 125 ≤ n) {mx c0 : Nat} {Pst : Mem → Prop} {p : Program} {e : Env} {s : State} {m : MethodId} {args : Array Value} {below : List Frame} {meth : Method} {c : Code} (hx : p.tables.exec = Jvm.exec) (hb : c.code = cL_act) (hr : meth.sig.returnType = (some .boolean)) (hlocks : meth.locks = false) (hml : c.maxLocals = 32) (hown : s.vm.findClass RL = some m.cls) (hts : ∀ w ∈ wsL_act, w.before args s = true) (hK : va_K D vwCl (tysW cy) s) (hX : SX b s) (P : Mem) (hz : c0 = 0) (cells slots : Nat) (H : Heap) (locs : List Loc) (ls : Array Slot) (hA : AST mx P c0) (hpost : ∀ M1, APOST mx P c0 M1 → Pst M1) (hcl : cells ≤ 2) (hsl : slots ≤ 12) (hP : va_P D vwCl (wL cy b fT P n) H) (hS : va_S (fr b) s.heap H locs) (hl : lv_has ls 32 [(0, .ref (b + 0)), (1, .ref (b + 124)), (2, .int (0 : Int32)), (3, .int (0 : Int32)), (4, .int (0 : Int32)), (5, .int (1 : Int32)), (6, .int ((-5) : Int32))]) : W p l e (headSpec wsL_act ({ frames := 9, cells := 9, slots := 54, locals := 158 } : Room)).room s m args below meth c H locs cells slots (MQ below (CQe D cy b n 1 Pst) args s 9 54 (fr b)) (F0 m 391 ls []) := by
  have hc6 := hA.2.2.1
  refine lv_iload_n hx hb dL_act_391 rfl (lv_at hl 2 rfl) ?_
  refine lv_if_ne (tgt := 399) hx hb dL_act_392 (by decide) (fun c392 => absurd rfl c392) (fun c392 => ?_)
  refine lv_iconst (v := 0) hx hb dL_act_395 (by decide) ?_
  refine lv_goto (tgt := 404) hx hb dL_act_396 (by decide) ?_
  refine lv_istore (lv' := [(16, .int (0 : Int32)), (0, .ref (b + 0)), (1, .ref (b + 124)), (2, .int (0 : Int32)), (3, .int (0 : Int32)), (4, .int (0 : Int32)), (5, .int (1 : Int32)), (6, .int ((-5) : Int32))]) hx hb dL_act_404 hl (by decide) rfl (fun ls hl => ?_)
  refine lv_iload_n hx hb dL_act_406 rfl (lv_at hl 3 rfl) ?_
  refine lv_if_ne (tgt := 414) hx hb dL_act_407 (by decide) (fun c407 => absurd rfl c407) (fun c407 => ?_)
  refine lv_iconst (v := 3) hx hb dL_act_410 (by decide) ?_
  refine lv_goto (tgt := 419) hx hb dL_act_411 (by decide) ?_
  refine lv_istore (lv' := [(17, .int (3 : Int32)), (16, .int (0 : Int32)), (0, .ref (b + 0)), (1, .ref (b + 124)), (2, .int (0 : Int32)), (3, .int (0 : Int32)), (4, .int (0 : Int32)), (5, .int (1 : Int32)), (6, .int ((-5) : Int32))]) hx hb dL_act_419 hl (by decide) rfl (fun ls hl => ?_)
  refine lv_aload_n hx hb dL_act_421 rfl (lv_at hl 2 rfl) ?_
  refine lv_iload_n hx hb dL_act_422 rfl (lv_at hl 5 rfl) ?_
  refine xc_i (vx_runSW (As := [.ref (b + 0), .int (0 : Int32)]) (rest := []) ⟨hx, hb, hml, hown, hts⟩ (c_L_calibrated l hl0 D cy b n (by omega) P (0 : Int32) hA.cnt hA.2.2.2.1) (vx_cwSW 2 hts gL_act_L_calibrated rfl rfl rfl (by decide +kernel) ⟨Nat.le_of_ble_eq_true rfl, Nat.le_of_ble_eq_true rfl⟩) (xPreS hP hK hX hS) rfl rfl hl.1 rfl (lv_room (Nat.le_of_ble_eq_true rfl)) dL_act_423 ⟨by show _ ≤ 9; omega, by show _ ≤ 54; omega⟩) hS (fun H locs hP hS => ?_)
  obtain ⟨o1, o2⟩ := no_cal (at_no (M := P) (x := 0) (Or.inr (by rw [hA.2.1, hz]; decide)))
  rw [o2] at hP
  refine W.eq (g2 := F0 m 426 ls (.int (-995) :: [])) (congrArg (fun z => F0 m 426 ls (.int z :: [])) (by rw [o1]; rfl)) ?_
  refine lv_istore (lv' := [(18, .int (-995)), (17, .int (3 : Int32)), (16, .int (0 : Int32)), (0, .ref (b + 0)), (1, .ref (b + 124)), (2, .int (0 : Int32)), (3, .int (0 : Int32)), (4, .int (0 : Int32)), (5, .int (1 : Int32)), (6, .int ((-5) : Int32))]) hx hb dL_act_426 hl (by decide) rfl (fun ls hl => ?_)
  refine lv_iload hx hb dL_act_428 (lv_at hl 1 rfl) ?_
  refine lv_if_ne (tgt := 456) hx hb dL_act_430 (by decide) (fun c430 => ?_) (fun c430 => absurd c430 (by decide))
  refine lv_iload hx hb dL_act_456 (lv_at hl 0 rfl) ?_
  refine lv_iload_n hx hb dL_act_458 rfl (lv_at hl 5 rfl) ?_
  refine lv_if_ne (tgt := 468) hx hb dL_act_459 (by decide) (fun c459 => absurd rfl c459) (fun c459 => ?_)
  refine lv_sipush (v := (-995)) hx hb dL_act_462 (by decide) ?_
  refine lv_goto (tgt := 471) hx hb dL_act_465 (by decide) ?_
  refine lv_icmp_ne (tgt := 486) hx hb dL_act_471 (by decide) (fun c471 => absurd rfl c471) (fun c471 => ?_)
  refine lv_aload_n hx hb dL_act_474 rfl (lv_at hl 3 rfl) ?_
  refine lv_iconst (v := 5) hx hb dL_act_475 (by decide) ?_
  refine W.eq (g2 := F0 m 476 ls (.int (nI 5) :: .ref (b + 0) :: [])) (congrArg (fun z => F0 m 476 ls (.int z :: .ref (b + 0) :: [])) rfl) ?_
  refine xc_i (vx_runSW (As := [.ref (b + 0), .int (nI 5)]) (rest := []) ⟨hx, hb, hml, hown, hts⟩ (c_L_taught l hl0 D cy b n (by omega) P (nI 5) hA.cnt hA.2.2.2.1) (vx_cwSW 2 hts gL_act_L_taught rfl rfl rfl (by decide +kernel) ⟨Nat.le_of_ble_eq_true rfl, Nat.le_of_ble_eq_true rfl⟩) (xPreS hP hK hX hS) rfl rfl hl.1 rfl (lv_room (Nat.le_of_ble_eq_true rfl)) dL_act_476 ⟨by show _ ≤ 9; omega, by show _ ≤ 54; omega⟩) hS (fun H locs hP hS => ?_)
  obtain ⟨s1, s2, s3⟩ := op_skl hA (v := 5) (by decide)
  obtain ⟨R, hR⟩ : ∃ z, z = gX7_setSkill P (nI 5) := ⟨_, rfl⟩
  rw [← hR] at hP s3
  refine W.eq (g2 := F0 m 479 ls (.int (fX7_setSkill P (nI 5)) :: [])) (congrArg (fun z => F0 m 479 ls (.int z :: [])) (by rw [s1]; rfl)) ?_
  refine lv_if_lt (tgt := 486) hx hb dL_act_479 (by decide) (fun c479 => absurd c479 s2) (fun c479 => ?_)
  refine lv_iconst (v := 1) hx hb dL_act_482 (by decide) ?_
  refine lv_goto (tgt := 487) hx hb dL_act_483 (by decide) ?_
  exact xe_e hx hb hr hlocks hP hS (hpost _ s3) rfl rfl (by omega) (by omega) dL_act_487
set_option maxHeartbeats 4000000 in
set_option maxRecDepth 100000 in
theorem act_tigN (l : Launch) (hl0 : l.stackTraces = false) (D : va_G) (cy : Nat → ClassId) (b n : Nat) (hn : 125 ≤ n) {mx c0 : Nat} {Pst : Mem → Prop} {p : Program} {e : Env} {s : State} {m : MethodId} {args : Array Value} {below : List Frame} {meth : Method} {c : Code} (hx : p.tables.exec = Jvm.exec) (hb : c.code = cL_act) (hr : meth.sig.returnType = (some .boolean)) (hlocks : meth.locks = false) (hml : c.maxLocals = 32) (hown : s.vm.findClass RL = some m.cls) (hts : ∀ w ∈ wsL_act, w.before args s = true) (hK : va_K D vwCl (tysW cy) s) (hX : SX b s) (P : Mem) (j : Nat) (hj : j < c0) (cells slots : Nat) (H : Heap) (locs : List Loc) (ls : Array Slot) (hA : AST mx P c0) (hpost : ∀ M1, APOST mx P c0 M1 → Pst M1) (hcl : cells ≤ 2) (hsl : slots ≤ 12) (hP : va_P D vwCl (wL cy b fT P n) H) (hS : va_S (fr b) s.heap H locs) (hl : lv_has ls 32 [(0, .ref (b + 0)), (1, .ref (b + 124)), (2, .int (nI c0)), (3, .int (nI j)), (4, .int (fX7_isHair P (nI j))), (5, .int (outF P (nI j))), (6, .int ((-3) : Int32))]) : W p l e (headSpec wsL_act ({ frames := 9, cells := 9, slots := 54, locals := 158 } : Room)).room s m args below meth c H locs cells slots (MQ below (CQe D cy b n 1 Pst) args s 9 54 (fr b)) (F0 m 488 ls []) := by
  have hc6 := hA.2.2.1
  have hc0 : 0 < c0 := by omega
  have hj6 : j < 6 := by omega
  by_cases ho : ¬ fX7_isHair P (nI j) = 0 ∧ ¬ fX7_hairsOf P (nI j) ≤ 0
  · refine lv_iload_n hx hb dL_act_488 rfl (lv_at hl 2 rfl) ?_
    refine lv_if_ne (tgt := 496) hx hb dL_act_489 (by decide) (fun c489 => ?_) (fun c489 => absurd c489 (nI_ne0 hc0 (by omega)))
    refine lv_aload_n hx hb dL_act_496 rfl (lv_at hl 0 rfl) ?_
    refine lv_iload_n hx hb dL_act_497 rfl (lv_at hl 3 rfl) ?_
    refine xct_i (vx_runV (As := [.int (nI j)]) (rest := []) ⟨hx, hb, hml, hown, hts⟩ (c_X7_hairsOf l hl0 D cy b n (by omega) P (nI j) hA.cnt) (cwV 1 hts gL_act_X7_hairsOf rfl rfl rfl (by decide +kernel) ⟨Nat.le_of_ble_eq_true rfl, Nat.le_of_ble_eq_true rfl⟩) (xPreV hP hK hX hS (by omega) (cell7 (by decide)) rfl) rfl rfl hl.1 rfl (lv_room (Nat.le_of_ble_eq_true rfl)) dL_act_498 ⟨by show _ ≤ 9; omega, by show _ ≤ 54; omega⟩) hS (fun E ce qx H locs hE _ _ _ _ _ => absurd (t0_hairsOf (t0_at hA.2.1 hc6 hj)) (exn_ne hE)) (fun H locs _ hP hS => ?_)
    refine lv_istore (lv' := [(19, .int (fX7_hairsOf P (nI j))), (0, .ref (b + 0)), (1, .ref (b + 124)), (2, .int (nI c0)), (3, .int (nI j)), (4, .int (fX7_isHair P (nI j))), (5, .int (outF P (nI j))), (6, .int ((-3) : Int32))]) hx hb dL_act_501 hl (by decide) rfl (fun ls hl => ?_)
    refine lv_iload_n hx hb dL_act_503 rfl (lv_at hl 3 rfl) ?_
    refine lv_if_ne (tgt := 511) hx hb dL_act_504 (by decide) (fun c504 => ?_) (fun c504 => absurd c504 (nI_ne0 hc0 (by omega)))
    refine lv_aload_n hx hb dL_act_511 rfl (lv_at hl 1 rfl) ?_
    refine lv_iload_n hx hb dL_act_512 rfl (lv_at hl 4 rfl) ?_
    refine xct_i (vx_runV (As := [.int (nI j)]) (rest := []) ⟨hx, hb, hml, hown, hts⟩ (c_X7_slackOf l hl0 D cy b n (by omega) P (nI j) hA.cnt) (cwV 1 hts gL_act_X7_slackOf rfl rfl rfl (by decide +kernel) ⟨Nat.le_of_ble_eq_true rfl, Nat.le_of_ble_eq_true rfl⟩) (xPreV hP hK hX hS (by omega) (cell7 (by decide)) rfl) rfl rfl hl.1 rfl (lv_room (Nat.le_of_ble_eq_true rfl)) dL_act_513 ⟨by show _ ≤ 9; omega, by show _ ≤ 54; omega⟩) hS (fun E ce qx H locs hE _ _ _ _ _ => absurd (t0_slackOf (t0_at hA.2.1 hc6 hj)) (exn_ne hE)) (fun H locs _ hP hS => ?_)
    refine lv_istore (lv' := [(20, .int (fX7_slackOf P (nI j))), (19, .int (fX7_hairsOf P (nI j))), (0, .ref (b + 0)), (1, .ref (b + 124)), (2, .int (nI c0)), (3, .int (nI j)), (4, .int (fX7_isHair P (nI j))), (5, .int (outF P (nI j))), (6, .int ((-3) : Int32))]) hx hb dL_act_516 hl (by decide) rfl (fun ls hl => ?_)
    refine lv_iload hx hb dL_act_518 (lv_at hl 6 rfl) ?_
    have k538 : ∀ (H : Heap) (locs : List Loc) (ls : Array Slot), va_P D vwCl (wL cy b fT P n) H → va_S (fr b) s.heap H locs → lv_has ls 32 [(20, .int (fX7_slackOf P (nI j))), (19, .int (fX7_hairsOf P (nI j))), (0, .ref (b + 0)), (1, .ref (b + 124)), (2, .int (nI c0)), (3, .int (nI j)), (4, .int (fX7_isHair P (nI j))), (5, .int (outF P (nI j))), (6, .int ((-3) : Int32))] → W p l e (headSpec wsL_act ({ frames := 9, cells := 9, slots := 54, locals := 158 } : Room)).room s m args below meth c H locs (cells + 3) (slots + 18) (MQ below (CQe D cy b n 1 Pst) args s 9 54 (fr b)) (F0 m 538 ls (.int (tgF P (nI j)) :: [])) := by
      intro H locs ls hP hS hl
      refine lv_istore (lv' := [(21, .int (tgF P (nI j))), (20, .int (fX7_slackOf P (nI j))), (19, .int (fX7_hairsOf P (nI j))), (0, .ref (b + 0)), (1, .ref (b + 124)), (2, .int (nI c0)), (3, .int (nI j)), (4, .int (fX7_isHair P (nI j))), (5, .int (outF P (nI j))), (6, .int ((-3) : Int32))]) hx hb dL_act_538 hl (by decide) rfl (fun ls hl => ?_)
      refine lv_aload_n hx hb dL_act_540 rfl (lv_at hl 3 rfl) ?_
      refine lv_iload_n hx hb dL_act_541 rfl (lv_at hl 6 rfl) ?_
      refine xc_i (vx_runSW (As := [.ref (b + 0), .int (nI j)]) (rest := []) ⟨hx, hb, hml, hown, hts⟩ (c_L_tightened l hl0 D cy b n (by omega) P (nI j) hA.cnt hA.2.2.2.1) (vx_cwSW 2 hts gL_act_L_tightened rfl rfl rfl (by decide +kernel) ⟨Nat.le_of_ble_eq_true rfl, Nat.le_of_ble_eq_true rfl⟩) (xPreS hP hK hX hS) rfl rfl hl.1 rfl (lv_room (Nat.le_of_ble_eq_true rfl)) dL_act_542 ⟨by show _ ≤ 9; omega, by show _ ≤ 54; omega⟩) hS (fun H locs hP hS => ?_)
      obtain ⟨o1, o2, o3, o4, o5, o6⟩ := op_tig hA hj ho.1 ho.2
      obtain ⟨R, hR⟩ : ∃ z, z = gX7_tighten P (nI j) := ⟨_, rfl⟩
      rw [← hR] at hP o2 o4 o5 o6
      have h1R : R 1 1 = nI c0 := o4
      refine W.eq (g2 := F0 m 545 ls (.int (fX7_slackOf P (nI j)) :: [])) (congrArg (fun z => F0 m 545 ls (.int z :: [])) (by rw [o1]; exact o3)) ?_
      refine lv_istore (lv' := [(22, .int (fX7_slackOf P (nI j))), (21, .int (tgF P (nI j))), (20, .int (fX7_slackOf P (nI j))), (19, .int (fX7_hairsOf P (nI j))), (0, .ref (b + 0)), (1, .ref (b + 124)), (2, .int (nI c0)), (3, .int (nI j)), (4, .int (fX7_isHair P (nI j))), (5, .int (outF P (nI j))), (6, .int ((-3) : Int32))]) hx hb dL_act_545 hl (by decide) rfl (fun ls hl => ?_)
      refine lv_iload hx hb dL_act_547 (lv_at hl 8 rfl) ?_
      refine lv_if_eq (tgt := 602) hx hb dL_act_549 (by decide) (fun c549 => absurd c549 ho.1) (fun c549 => ?_)
      refine lv_iload hx hb dL_act_552 (lv_at hl 3 rfl) ?_
      refine lv_if_le (tgt := 602) hx hb dL_act_554 (by decide) (fun c554 => absurd c554 ho.2) (fun c554 => ?_)
      refine lv_iload hx hb dL_act_557 (lv_at hl 0 rfl) ?_
      refine lv_iload hx hb dL_act_559 (lv_at hl 2 rfl) ?_
      refine lv_icmp_ne (tgt := 598) hx hb dL_act_561 (by decide) (fun c561 => absurd rfl c561) (fun c561 => ?_)
      refine lv_aload_n hx hb dL_act_564 rfl (lv_at hl 4 rfl) ?_
      refine lv_iload_n hx hb dL_act_565 rfl (lv_at hl 7 rfl) ?_
      refine xct_i (vx_runV (As := [.int (nI j)]) (rest := []) ⟨hx, hb, hml, hown, hts⟩ (c_X7_slackOf l hl0 D cy b n (by omega) R (nI j) ⟨c0, hc6, h1R⟩) (cwV 1 hts gL_act_X7_slackOf rfl rfl rfl (by decide +kernel) ⟨Nat.le_of_ble_eq_true rfl, Nat.le_of_ble_eq_true rfl⟩) (xPreV hP hK hX hS (by omega) (cell7 (by decide)) rfl) rfl rfl hl.1 rfl (lv_room (Nat.le_of_ble_eq_true rfl)) dL_act_566 ⟨by show _ ≤ 9; omega, by show _ ≤ 54; omega⟩) hS (fun E ce qx H locs hE _ _ _ _ _ => absurd (t0_slackOf (t0_at h1R hc6 hj)) (exn_ne hE)) (fun H locs _ hP hS => ?_)
      refine lv_if_ne (tgt := 598) hx hb dL_act_569 (by decide) (fun c569 => absurd o5 c569) (fun c569 => ?_)
      refine lv_aload_n hx hb dL_act_572 rfl (lv_at hl 4 rfl) ?_
      refine lv_iload_n hx hb dL_act_573 rfl (lv_at hl 7 rfl) ?_
      refine xct_i (vx_runV (As := [.int (nI j)]) (rest := []) ⟨hx, hb, hml, hown, hts⟩ (c_X7_hairsOf l hl0 D cy b n (by omega) R (nI j) ⟨c0, hc6, h1R⟩) (cwV 1 hts gL_act_X7_hairsOf rfl rfl rfl (by decide +kernel) ⟨Nat.le_of_ble_eq_true rfl, Nat.le_of_ble_eq_true rfl⟩) (xPreV hP hK hX hS (by omega) (cell7 (by decide)) rfl) rfl rfl hl.1 rfl (lv_room (Nat.le_of_ble_eq_true rfl)) dL_act_574 ⟨by show _ ≤ 9; omega, by show _ ≤ 54; omega⟩) hS (fun E ce qx H locs hE _ _ _ _ _ => absurd (t0_hairsOf (t0_at h1R hc6 hj)) (exn_ne hE)) (fun H locs _ hP hS => ?_)
      refine lv_iload hx hb dL_act_577 (lv_at hl 1 rfl) ?_
      have k591 : ∀ (H : Heap) (locs : List Loc) (ls : Array Slot), va_P D vwCl (wL cy b fT R n) H → va_S (fr b) s.heap H locs → lv_has ls 32 [(22, .int (fX7_slackOf P (nI j))), (21, .int (tgF P (nI j))), (20, .int (fX7_slackOf P (nI j))), (19, .int (fX7_hairsOf P (nI j))), (0, .ref (b + 0)), (1, .ref (b + 124)), (2, .int (nI c0)), (3, .int (nI j)), (4, .int (fX7_isHair P (nI j))), (5, .int (outF P (nI j))), (6, .int ((-3) : Int32))] → W p l e (headSpec wsL_act ({ frames := 9, cells := 9, slots := 54, locals := 158 } : Room)).room s m args below meth c H locs (cells + 7) (slots + 42) (MQ below (CQe D cy b n 1 Pst) args s 9 54 (fr b)) (F0 m 591 ls (.int (if tgF P (nI j) = 0 then fX7_hairsOf P (nI j) else fX7_hairsOf P (nI j) - 1) :: .int (fX7_hairsOf R (nI j)) :: [])) := by
        intro H locs ls hP hS hl
        refine lv_icmp_ne (tgt := 598) hx hb dL_act_591 (by decide) (fun c591 => absurd o6 c591) (fun c591 => ?_)
        refine lv_iconst (v := 1) hx hb dL_act_594 (by decide) ?_
        refine lv_goto (tgt := 622) hx hb dL_act_595 (by decide) ?_
        exact xe_e hx hb hr hlocks hP hS (hpost _ o2) rfl rfl (by omega) (by omega) dL_act_622
      refine lv_if_eq (tgt := 589) hx hb dL_act_579 (by decide) (fun c579 => ?_) (fun c579 => ?_)
      · refine lv_iload hx hb dL_act_589 (lv_at hl 3 rfl) ?_
        refine W.eq (g2 := F0 m 591 ls (.int (if tgF P (nI j) = 0 then fX7_hairsOf P (nI j) else fX7_hairsOf P (nI j) - 1) :: .int (fX7_hairsOf R (nI j)) :: [])) (congrArg (fun z => F0 m 591 ls (.int z :: .int (fX7_hairsOf R (nI j)) :: [])) (if_pos c579).symm) ?_
        refine W.widen (k := cells + 7) (n := slots + 42) (by omega) (by omega) ?_
        exact k591 H locs ls hP hS (lv_sub hl [0, 1, 2, 3, 4, 5, 6, 7, 8, 9, 10] rfl)
      · refine lv_iload hx hb dL_act_582 (lv_at hl 3 rfl) ?_
        refine lv_iconst (v := 1) hx hb dL_act_584 (by decide) ?_
        refine lv_isub hx hb dL_act_585 ?_
        refine lv_goto (tgt := 591) hx hb dL_act_586 (by decide) ?_
        refine W.eq (g2 := F0 m 591 ls (.int (if tgF P (nI j) = 0 then fX7_hairsOf P (nI j) else fX7_hairsOf P (nI j) - 1) :: .int (fX7_hairsOf R (nI j)) :: [])) (congrArg (fun z => F0 m 591 ls (.int z :: .int (fX7_hairsOf R (nI j)) :: [])) (if_neg c579).symm) ?_
        refine W.widen (k := cells + 7) (n := slots + 42) (by omega) (by omega) ?_
        exact k591 H locs ls hP hS (lv_sub hl [0, 1, 2, 3, 4, 5, 6, 7, 8, 9, 10] rfl)
    refine lv_if_eq (tgt := 537) hx hb dL_act_520 (by decide) (fun c520 => ?_) (fun c520 => ?_)
    · refine lv_iconst (v := 0) hx hb dL_act_537 (by decide) ?_
      refine W.eq (g2 := F0 m 538 ls (.int (tgF P (nI j)) :: [])) (congrArg (fun z => F0 m 538 ls (.int z :: [])) (tg_a c520)) ?_
      refine W.widen (k := cells + 3) (n := slots + 18) (by omega) (by omega) ?_
      exact k538 H locs ls hP hS (lv_sub hl [0, 1, 2, 3, 4, 5, 6, 7, 8] rfl)
    · refine lv_aload_n hx hb dL_act_523 rfl (lv_at hl 2 rfl) ?_
      refine lv_iload_n hx hb dL_act_524 rfl (lv_at hl 5 rfl) ?_
      refine xct_i (vx_runV (As := [.int (nI j)]) (rest := []) ⟨hx, hb, hml, hown, hts⟩ (c_X7_wetnessOf l hl0 D cy b n (by omega) P (nI j) hA.cnt) (cwV 1 hts gL_act_X7_wetnessOf rfl rfl rfl (by decide +kernel) ⟨Nat.le_of_ble_eq_true rfl, Nat.le_of_ble_eq_true rfl⟩) (xPreV hP hK hX hS (by omega) (cell7 (by decide)) rfl) rfl rfl hl.1 rfl (lv_room (Nat.le_of_ble_eq_true rfl)) dL_act_525 ⟨by show _ ≤ 9; omega, by show _ ≤ 54; omega⟩) hS (fun E ce qx H locs hE _ _ _ _ _ => absurd (t0_wetnessOf (t0_at hA.2.1 hc6 hj)) (exn_ne hE)) (fun H locs _ hP hS => ?_)
      refine lv_bipush (v := 20) hx hb dL_act_528 (by decide) ?_
      refine lv_icmp_ge (tgt := 537) hx hb dL_act_530 (by decide) (fun c530 => ?_) (fun c530 => ?_)
      · refine lv_iconst (v := 0) hx hb dL_act_537 (by decide) ?_
        refine W.eq (g2 := F0 m 538 ls (.int (tgF P (nI j)) :: [])) (congrArg (fun z => F0 m 538 ls (.int z :: [])) (tg_b c520 c530)) ?_
        refine W.widen (k := cells + 3) (n := slots + 18) (by omega) (by omega) ?_
        exact k538 H locs ls hP hS (lv_sub hl [0, 1, 2, 3, 4, 5, 6, 7, 8] rfl)
      · refine lv_iconst (v := 1) hx hb dL_act_533 (by decide) ?_
        refine lv_goto (tgt := 538) hx hb dL_act_534 (by decide) ?_
        refine W.eq (g2 := F0 m 538 ls (.int (tgF P (nI j)) :: [])) (congrArg (fun z => F0 m 538 ls (.int z :: [])) (tg_c c520 c530)) ?_
        refine W.widen (k := cells + 3) (n := slots + 18) (by omega) (by omega) ?_
        exact k538 H locs ls hP hS (lv_sub hl [0, 1, 2, 3, 4, 5, 6, 7, 8] rfl)
  · refine lv_iload_n hx hb dL_act_488 rfl (lv_at hl 2 rfl) ?_
    refine lv_if_ne (tgt := 496) hx hb dL_act_489 (by decide) (fun c489 => ?_) (fun c489 => absurd c489 (nI_ne0 hc0 (by omega)))
    refine lv_aload_n hx hb dL_act_496 rfl (lv_at hl 0 rfl) ?_
    refine lv_iload_n hx hb dL_act_497 rfl (lv_at hl 3 rfl) ?_
    refine xct_i (vx_runV (As := [.int (nI j)]) (rest := []) ⟨hx, hb, hml, hown, hts⟩ (c_X7_hairsOf l hl0 D cy b n (by omega) P (nI j) hA.cnt) (cwV 1 hts gL_act_X7_hairsOf rfl rfl rfl (by decide +kernel) ⟨Nat.le_of_ble_eq_true rfl, Nat.le_of_ble_eq_true rfl⟩) (xPreV hP hK hX hS (by omega) (cell7 (by decide)) rfl) rfl rfl hl.1 rfl (lv_room (Nat.le_of_ble_eq_true rfl)) dL_act_498 ⟨by show _ ≤ 9; omega, by show _ ≤ 54; omega⟩) hS (fun E ce qx H locs hE _ _ _ _ _ => absurd (t0_hairsOf (t0_at hA.2.1 hc6 hj)) (exn_ne hE)) (fun H locs _ hP hS => ?_)
    refine lv_istore (lv' := [(19, .int (fX7_hairsOf P (nI j))), (0, .ref (b + 0)), (1, .ref (b + 124)), (2, .int (nI c0)), (3, .int (nI j)), (4, .int (fX7_isHair P (nI j))), (5, .int (outF P (nI j))), (6, .int ((-3) : Int32))]) hx hb dL_act_501 hl (by decide) rfl (fun ls hl => ?_)
    refine lv_iload_n hx hb dL_act_503 rfl (lv_at hl 3 rfl) ?_
    refine lv_if_ne (tgt := 511) hx hb dL_act_504 (by decide) (fun c504 => ?_) (fun c504 => absurd c504 (nI_ne0 hc0 (by omega)))
    refine lv_aload_n hx hb dL_act_511 rfl (lv_at hl 1 rfl) ?_
    refine lv_iload_n hx hb dL_act_512 rfl (lv_at hl 4 rfl) ?_
    refine xct_i (vx_runV (As := [.int (nI j)]) (rest := []) ⟨hx, hb, hml, hown, hts⟩ (c_X7_slackOf l hl0 D cy b n (by omega) P (nI j) hA.cnt) (cwV 1 hts gL_act_X7_slackOf rfl rfl rfl (by decide +kernel) ⟨Nat.le_of_ble_eq_true rfl, Nat.le_of_ble_eq_true rfl⟩) (xPreV hP hK hX hS (by omega) (cell7 (by decide)) rfl) rfl rfl hl.1 rfl (lv_room (Nat.le_of_ble_eq_true rfl)) dL_act_513 ⟨by show _ ≤ 9; omega, by show _ ≤ 54; omega⟩) hS (fun E ce qx H locs hE _ _ _ _ _ => absurd (t0_slackOf (t0_at hA.2.1 hc6 hj)) (exn_ne hE)) (fun H locs _ hP hS => ?_)
    refine lv_istore (lv' := [(20, .int (fX7_slackOf P (nI j))), (19, .int (fX7_hairsOf P (nI j))), (0, .ref (b + 0)), (1, .ref (b + 124)), (2, .int (nI c0)), (3, .int (nI j)), (4, .int (fX7_isHair P (nI j))), (5, .int (outF P (nI j))), (6, .int ((-3) : Int32))]) hx hb dL_act_516 hl (by decide) rfl (fun ls hl => ?_)
    refine lv_iload hx hb dL_act_518 (lv_at hl 6 rfl) ?_
    have k538 : ∀ (H : Heap) (locs : List Loc) (ls : Array Slot), va_P D vwCl (wL cy b fT P n) H → va_S (fr b) s.heap H locs → lv_has ls 32 [(20, .int (fX7_slackOf P (nI j))), (19, .int (fX7_hairsOf P (nI j))), (0, .ref (b + 0)), (1, .ref (b + 124)), (2, .int (nI c0)), (3, .int (nI j)), (4, .int (fX7_isHair P (nI j))), (5, .int (outF P (nI j))), (6, .int ((-3) : Int32))] → W p l e (headSpec wsL_act ({ frames := 9, cells := 9, slots := 54, locals := 158 } : Room)).room s m args below meth c H locs (cells + 3) (slots + 18) (MQ below (CQe D cy b n 1 Pst) args s 9 54 (fr b)) (F0 m 538 ls (.int (tgF P (nI j)) :: [])) := by
      intro H locs ls hP hS hl
      refine lv_istore (lv' := [(21, .int (tgF P (nI j))), (20, .int (fX7_slackOf P (nI j))), (19, .int (fX7_hairsOf P (nI j))), (0, .ref (b + 0)), (1, .ref (b + 124)), (2, .int (nI c0)), (3, .int (nI j)), (4, .int (fX7_isHair P (nI j))), (5, .int (outF P (nI j))), (6, .int ((-3) : Int32))]) hx hb dL_act_538 hl (by decide) rfl (fun ls hl => ?_)
      refine lv_aload_n hx hb dL_act_540 rfl (lv_at hl 3 rfl) ?_
      refine lv_iload_n hx hb dL_act_541 rfl (lv_at hl 6 rfl) ?_
      refine xc_i (vx_runSW (As := [.ref (b + 0), .int (nI j)]) (rest := []) ⟨hx, hb, hml, hown, hts⟩ (c_L_tightened l hl0 D cy b n (by omega) P (nI j) hA.cnt hA.2.2.2.1) (vx_cwSW 2 hts gL_act_L_tightened rfl rfl rfl (by decide +kernel) ⟨Nat.le_of_ble_eq_true rfl, Nat.le_of_ble_eq_true rfl⟩) (xPreS hP hK hX hS) rfl rfl hl.1 rfl (lv_room (Nat.le_of_ble_eq_true rfl)) dL_act_542 ⟨by show _ ≤ 9; omega, by show _ ≤ 54; omega⟩) hS (fun H locs hP hS => ?_)
      obtain ⟨o1, o2⟩ := op_tigR hA hj (tg_no ho)
      rw [o2] at hP
      refine W.eq (g2 := F0 m 545 ls (.int (-3) :: [])) (congrArg (fun z => F0 m 545 ls (.int z :: [])) (by rw [o1]; rfl)) ?_
      refine lv_istore (lv' := [(22, .int (-3)), (21, .int (tgF P (nI j))), (20, .int (fX7_slackOf P (nI j))), (19, .int (fX7_hairsOf P (nI j))), (0, .ref (b + 0)), (1, .ref (b + 124)), (2, .int (nI c0)), (3, .int (nI j)), (4, .int (fX7_isHair P (nI j))), (5, .int (outF P (nI j))), (6, .int ((-3) : Int32))]) hx hb dL_act_545 hl (by decide) rfl (fun ls hl => ?_)
      refine lv_iload hx hb dL_act_547 (lv_at hl 8 rfl) ?_
      refine lv_if_eq (tgt := 602) hx hb dL_act_549 (by decide) (fun c549 => ?_) (fun c549 => ?_)
      · refine lv_iload hx hb dL_act_602 (lv_at hl 0 rfl) ?_
        refine lv_iload hx hb dL_act_604 (lv_at hl 10 rfl) ?_
        refine lv_icmp_ne (tgt := 621) hx hb dL_act_606 (by decide) (fun c606 => absurd rfl c606) (fun c606 => ?_)
        refine lv_aload_n hx hb dL_act_609 rfl (lv_at hl 4 rfl) ?_
        refine lv_iconst (v := 2) hx hb dL_act_610 (by decide) ?_
        refine W.eq (g2 := F0 m 611 ls (.int (nI 2) :: .ref (b + 0) :: [])) (congrArg (fun z => F0 m 611 ls (.int z :: .ref (b + 0) :: [])) rfl) ?_
        refine xc_i (vx_runSW (As := [.ref (b + 0), .int (nI 2)]) (rest := []) ⟨hx, hb, hml, hown, hts⟩ (c_L_taught l hl0 D cy b n (by omega) P (nI 2) hA.cnt hA.2.2.2.1) (vx_cwSW 2 hts gL_act_L_taught rfl rfl rfl (by decide +kernel) ⟨Nat.le_of_ble_eq_true rfl, Nat.le_of_ble_eq_true rfl⟩) (xPreS hP hK hX hS) rfl rfl hl.1 rfl (lv_room (Nat.le_of_ble_eq_true rfl)) dL_act_611 ⟨by show _ ≤ 9; omega, by show _ ≤ 54; omega⟩) hS (fun H locs hP hS => ?_)
        obtain ⟨s1, s2, s3⟩ := op_skl hA (v := 2) (by decide)
        obtain ⟨R, hR⟩ : ∃ z, z = gX7_setSkill P (nI 2) := ⟨_, rfl⟩
        rw [← hR] at hP s3
        refine W.eq (g2 := F0 m 614 ls (.int (fX7_setSkill P (nI 2)) :: [])) (congrArg (fun z => F0 m 614 ls (.int z :: [])) (by rw [s1]; rfl)) ?_
        refine lv_if_lt (tgt := 621) hx hb dL_act_614 (by decide) (fun c614 => absurd c614 s2) (fun c614 => ?_)
        refine lv_iconst (v := 1) hx hb dL_act_617 (by decide) ?_
        refine lv_goto (tgt := 622) hx hb dL_act_618 (by decide) ?_
        exact xe_e hx hb hr hlocks hP hS (hpost _ s3) rfl rfl (by omega) (by omega) dL_act_622
      · refine lv_iload hx hb dL_act_552 (lv_at hl 3 rfl) ?_
        refine lv_if_le (tgt := 602) hx hb dL_act_554 (by decide) (fun c554 => ?_) (fun c554 => absurd ⟨c549, c554⟩ ho)
        refine lv_iload hx hb dL_act_602 (lv_at hl 0 rfl) ?_
        refine lv_iload hx hb dL_act_604 (lv_at hl 10 rfl) ?_
        refine lv_icmp_ne (tgt := 621) hx hb dL_act_606 (by decide) (fun c606 => absurd rfl c606) (fun c606 => ?_)
        refine lv_aload_n hx hb dL_act_609 rfl (lv_at hl 4 rfl) ?_
        refine lv_iconst (v := 2) hx hb dL_act_610 (by decide) ?_
        refine W.eq (g2 := F0 m 611 ls (.int (nI 2) :: .ref (b + 0) :: [])) (congrArg (fun z => F0 m 611 ls (.int z :: .ref (b + 0) :: [])) rfl) ?_
        refine xc_i (vx_runSW (As := [.ref (b + 0), .int (nI 2)]) (rest := []) ⟨hx, hb, hml, hown, hts⟩ (c_L_taught l hl0 D cy b n (by omega) P (nI 2) hA.cnt hA.2.2.2.1) (vx_cwSW 2 hts gL_act_L_taught rfl rfl rfl (by decide +kernel) ⟨Nat.le_of_ble_eq_true rfl, Nat.le_of_ble_eq_true rfl⟩) (xPreS hP hK hX hS) rfl rfl hl.1 rfl (lv_room (Nat.le_of_ble_eq_true rfl)) dL_act_611 ⟨by show _ ≤ 9; omega, by show _ ≤ 54; omega⟩) hS (fun H locs hP hS => ?_)
        obtain ⟨s1, s2, s3⟩ := op_skl hA (v := 2) (by decide)
        obtain ⟨R, hR⟩ : ∃ z, z = gX7_setSkill P (nI 2) := ⟨_, rfl⟩
        rw [← hR] at hP s3
        refine W.eq (g2 := F0 m 614 ls (.int (fX7_setSkill P (nI 2)) :: [])) (congrArg (fun z => F0 m 614 ls (.int z :: [])) (by rw [s1]; rfl)) ?_
        refine lv_if_lt (tgt := 621) hx hb dL_act_614 (by decide) (fun c614 => absurd c614 s2) (fun c614 => ?_)
        refine lv_iconst (v := 1) hx hb dL_act_617 (by decide) ?_
        refine lv_goto (tgt := 622) hx hb dL_act_618 (by decide) ?_
        exact xe_e hx hb hr hlocks hP hS (hpost _ s3) rfl rfl (by omega) (by omega) dL_act_622
    refine lv_if_eq (tgt := 537) hx hb dL_act_520 (by decide) (fun c520 => ?_) (fun c520 => ?_)
    · refine lv_iconst (v := 0) hx hb dL_act_537 (by decide) ?_
      refine W.eq (g2 := F0 m 538 ls (.int (tgF P (nI j)) :: [])) (congrArg (fun z => F0 m 538 ls (.int z :: [])) (tg_a c520)) ?_
      refine W.widen (k := cells + 3) (n := slots + 18) (by omega) (by omega) ?_
      exact k538 H locs ls hP hS (lv_sub hl [0, 1, 2, 3, 4, 5, 6, 7, 8] rfl)
    · refine lv_aload_n hx hb dL_act_523 rfl (lv_at hl 2 rfl) ?_
      refine lv_iload_n hx hb dL_act_524 rfl (lv_at hl 5 rfl) ?_
      refine xct_i (vx_runV (As := [.int (nI j)]) (rest := []) ⟨hx, hb, hml, hown, hts⟩ (c_X7_wetnessOf l hl0 D cy b n (by omega) P (nI j) hA.cnt) (cwV 1 hts gL_act_X7_wetnessOf rfl rfl rfl (by decide +kernel) ⟨Nat.le_of_ble_eq_true rfl, Nat.le_of_ble_eq_true rfl⟩) (xPreV hP hK hX hS (by omega) (cell7 (by decide)) rfl) rfl rfl hl.1 rfl (lv_room (Nat.le_of_ble_eq_true rfl)) dL_act_525 ⟨by show _ ≤ 9; omega, by show _ ≤ 54; omega⟩) hS (fun E ce qx H locs hE _ _ _ _ _ => absurd (t0_wetnessOf (t0_at hA.2.1 hc6 hj)) (exn_ne hE)) (fun H locs _ hP hS => ?_)
      refine lv_bipush (v := 20) hx hb dL_act_528 (by decide) ?_
      refine lv_icmp_ge (tgt := 537) hx hb dL_act_530 (by decide) (fun c530 => ?_) (fun c530 => ?_)
      · refine lv_iconst (v := 0) hx hb dL_act_537 (by decide) ?_
        refine W.eq (g2 := F0 m 538 ls (.int (tgF P (nI j)) :: [])) (congrArg (fun z => F0 m 538 ls (.int z :: [])) (tg_b c520 c530)) ?_
        refine W.widen (k := cells + 3) (n := slots + 18) (by omega) (by omega) ?_
        exact k538 H locs ls hP hS (lv_sub hl [0, 1, 2, 3, 4, 5, 6, 7, 8] rfl)
      · refine lv_iconst (v := 1) hx hb dL_act_533 (by decide) ?_
        refine lv_goto (tgt := 538) hx hb dL_act_534 (by decide) ?_
        refine W.eq (g2 := F0 m 538 ls (.int (tgF P (nI j)) :: [])) (congrArg (fun z => F0 m 538 ls (.int z :: [])) (tg_c c520 c530)) ?_
        refine W.widen (k := cells + 3) (n := slots + 18) (by omega) (by omega) ?_
        exact k538 H locs ls hP hS (lv_sub hl [0, 1, 2, 3, 4, 5, 6, 7, 8] rfl)
set_option maxHeartbeats 4000000 in
set_option maxRecDepth 100000 in
theorem act_tigZ (l : Launch) (hl0 : l.stackTraces = false) (D : va_G) (cy : Nat → ClassId) (b n : Nat) (hn : 125 ≤ n) {mx c0 : Nat} {Pst : Mem → Prop} {p : Program} {e : Env} {s : State} {m : MethodId} {args : Array Value} {below : List Frame} {meth : Method} {c : Code} (hx : p.tables.exec = Jvm.exec) (hb : c.code = cL_act) (hr : meth.sig.returnType = (some .boolean)) (hlocks : meth.locks = false) (hml : c.maxLocals = 32) (hown : s.vm.findClass RL = some m.cls) (hts : ∀ w ∈ wsL_act, w.before args s = true) (hK : va_K D vwCl (tysW cy) s) (hX : SX b s) (P : Mem) (hz : c0 = 0) (cells slots : Nat) (H : Heap) (locs : List Loc) (ls : Array Slot) (hA : AST mx P c0) (hpost : ∀ M1, APOST mx P c0 M1 → Pst M1) (hcl : cells ≤ 2) (hsl : slots ≤ 12) (hP : va_P D vwCl (wL cy b fT P n) H) (hS : va_S (fr b) s.heap H locs) (hl : lv_has ls 32 [(0, .ref (b + 0)), (1, .ref (b + 124)), (2, .int (0 : Int32)), (3, .int (0 : Int32)), (4, .int (0 : Int32)), (5, .int (1 : Int32)), (6, .int ((-5) : Int32))]) : W p l e (headSpec wsL_act ({ frames := 9, cells := 9, slots := 54, locals := 158 } : Room)).room s m args below meth c H locs cells slots (MQ below (CQe D cy b n 1 Pst) args s 9 54 (fr b)) (F0 m 488 ls []) := by
  have hc6 := hA.2.2.1
  refine lv_iload_n hx hb dL_act_488 rfl (lv_at hl 2 rfl) ?_
  refine lv_if_ne (tgt := 496) hx hb dL_act_489 (by decide) (fun c489 => absurd rfl c489) (fun c489 => ?_)
  refine lv_iconst (v := 0) hx hb dL_act_492 (by decide) ?_
  refine lv_goto (tgt := 501) hx hb dL_act_493 (by decide) ?_
  refine lv_istore (lv' := [(19, .int (0 : Int32)), (0, .ref (b + 0)), (1, .ref (b + 124)), (2, .int (0 : Int32)), (3, .int (0 : Int32)), (4, .int (0 : Int32)), (5, .int (1 : Int32)), (6, .int ((-5) : Int32))]) hx hb dL_act_501 hl (by decide) rfl (fun ls hl => ?_)
  refine lv_iload_n hx hb dL_act_503 rfl (lv_at hl 3 rfl) ?_
  refine lv_if_ne (tgt := 511) hx hb dL_act_504 (by decide) (fun c504 => absurd rfl c504) (fun c504 => ?_)
  refine lv_iconst (v := 0) hx hb dL_act_507 (by decide) ?_
  refine lv_goto (tgt := 516) hx hb dL_act_508 (by decide) ?_
  refine lv_istore (lv' := [(20, .int (0 : Int32)), (19, .int (0 : Int32)), (0, .ref (b + 0)), (1, .ref (b + 124)), (2, .int (0 : Int32)), (3, .int (0 : Int32)), (4, .int (0 : Int32)), (5, .int (1 : Int32)), (6, .int ((-5) : Int32))]) hx hb dL_act_516 hl (by decide) rfl (fun ls hl => ?_)
  refine lv_iload hx hb dL_act_518 (lv_at hl 6 rfl) ?_
  refine lv_if_eq (tgt := 537) hx hb dL_act_520 (by decide) (fun c520 => ?_) (fun c520 => absurd rfl c520)
  refine lv_iconst (v := 0) hx hb dL_act_537 (by decide) ?_
  refine lv_istore (lv' := [(21, .int (0 : Int32)), (20, .int (0 : Int32)), (19, .int (0 : Int32)), (0, .ref (b + 0)), (1, .ref (b + 124)), (2, .int (0 : Int32)), (3, .int (0 : Int32)), (4, .int (0 : Int32)), (5, .int (1 : Int32)), (6, .int ((-5) : Int32))]) hx hb dL_act_538 hl (by decide) rfl (fun ls hl => ?_)
  refine lv_aload_n hx hb dL_act_540 rfl (lv_at hl 3 rfl) ?_
  refine lv_iload_n hx hb dL_act_541 rfl (lv_at hl 6 rfl) ?_
  refine xc_i (vx_runSW (As := [.ref (b + 0), .int (0 : Int32)]) (rest := []) ⟨hx, hb, hml, hown, hts⟩ (c_L_tightened l hl0 D cy b n (by omega) P (0 : Int32) hA.cnt hA.2.2.2.1) (vx_cwSW 2 hts gL_act_L_tightened rfl rfl rfl (by decide +kernel) ⟨Nat.le_of_ble_eq_true rfl, Nat.le_of_ble_eq_true rfl⟩) (xPreS hP hK hX hS) rfl rfl hl.1 rfl (lv_room (Nat.le_of_ble_eq_true rfl)) dL_act_542 ⟨by show _ ≤ 9; omega, by show _ ≤ 54; omega⟩) hS (fun H locs hP hS => ?_)
  obtain ⟨o1, o2⟩ := no_tig (at_no (M := P) (x := 0) (Or.inr (by rw [hA.2.1, hz]; decide)))
  rw [o2] at hP
  refine W.eq (g2 := F0 m 545 ls (.int (-5) :: [])) (congrArg (fun z => F0 m 545 ls (.int z :: [])) (by rw [o1]; rfl)) ?_
  refine lv_istore (lv' := [(22, .int (-5)), (21, .int (0 : Int32)), (20, .int (0 : Int32)), (19, .int (0 : Int32)), (0, .ref (b + 0)), (1, .ref (b + 124)), (2, .int (0 : Int32)), (3, .int (0 : Int32)), (4, .int (0 : Int32)), (5, .int (1 : Int32)), (6, .int ((-5) : Int32))]) hx hb dL_act_545 hl (by decide) rfl (fun ls hl => ?_)
  refine lv_iload hx hb dL_act_547 (lv_at hl 8 rfl) ?_
  refine lv_if_eq (tgt := 602) hx hb dL_act_549 (by decide) (fun c549 => ?_) (fun c549 => absurd rfl c549)
  refine lv_iload hx hb dL_act_602 (lv_at hl 0 rfl) ?_
  refine lv_iload hx hb dL_act_604 (lv_at hl 10 rfl) ?_
  refine lv_icmp_ne (tgt := 621) hx hb dL_act_606 (by decide) (fun c606 => absurd rfl c606) (fun c606 => ?_)
  refine lv_aload_n hx hb dL_act_609 rfl (lv_at hl 4 rfl) ?_
  refine lv_iconst (v := 2) hx hb dL_act_610 (by decide) ?_
  refine W.eq (g2 := F0 m 611 ls (.int (nI 2) :: .ref (b + 0) :: [])) (congrArg (fun z => F0 m 611 ls (.int z :: .ref (b + 0) :: [])) rfl) ?_
  refine xc_i (vx_runSW (As := [.ref (b + 0), .int (nI 2)]) (rest := []) ⟨hx, hb, hml, hown, hts⟩ (c_L_taught l hl0 D cy b n (by omega) P (nI 2) hA.cnt hA.2.2.2.1) (vx_cwSW 2 hts gL_act_L_taught rfl rfl rfl (by decide +kernel) ⟨Nat.le_of_ble_eq_true rfl, Nat.le_of_ble_eq_true rfl⟩) (xPreS hP hK hX hS) rfl rfl hl.1 rfl (lv_room (Nat.le_of_ble_eq_true rfl)) dL_act_611 ⟨by show _ ≤ 9; omega, by show _ ≤ 54; omega⟩) hS (fun H locs hP hS => ?_)
  obtain ⟨s1, s2, s3⟩ := op_skl hA (v := 2) (by decide)
  obtain ⟨R, hR⟩ : ∃ z, z = gX7_setSkill P (nI 2) := ⟨_, rfl⟩
  rw [← hR] at hP s3
  refine W.eq (g2 := F0 m 614 ls (.int (fX7_setSkill P (nI 2)) :: [])) (congrArg (fun z => F0 m 614 ls (.int z :: [])) (by rw [s1]; rfl)) ?_
  refine lv_if_lt (tgt := 621) hx hb dL_act_614 (by decide) (fun c614 => absurd c614 s2) (fun c614 => ?_)
  refine lv_iconst (v := 1) hx hb dL_act_617 (by decide) ?_
  refine lv_goto (tgt := 622) hx hb dL_act_618 (by decide) ?_
  exact xe_e hx hb hr hlocks hP hS (hpost _ s3) rfl rfl (by omega) (by omega) dL_act_622
set_option maxHeartbeats 4000000 in
set_option maxRecDepth 100000 in
theorem act_moiN (l : Launch) (hl0 : l.stackTraces = false) (D : va_G) (cy : Nat → ClassId) (b n : Nat) (hn : 125 ≤ n) {mx c0 : Nat} {Pst : Mem → Prop} {p : Program} {e : Env} {s : State} {m : MethodId} {args : Array Value} {below : List Frame} {meth : Method} {c : Code} (hx : p.tables.exec = Jvm.exec) (hb : c.code = cL_act) (hr : meth.sig.returnType = (some .boolean)) (hlocks : meth.locks = false) (hml : c.maxLocals = 32) (hown : s.vm.findClass RL = some m.cls) (hts : ∀ w ∈ wsL_act, w.before args s = true) (hK : va_K D vwCl (tysW cy) s) (hX : SX b s) (P : Mem) (j : Nat) (hj : j < c0) (cells slots : Nat) (H : Heap) (locs : List Loc) (ls : Array Slot) (hA : AST mx P c0) (hpost : ∀ M1, APOST mx P c0 M1 → Pst M1) (hcl : cells ≤ 2) (hsl : slots ≤ 12) (hP : va_P D vwCl (wL cy b fT P n) H) (hS : va_S (fr b) s.heap H locs) (hl : lv_has ls 32 [(0, .ref (b + 0)), (1, .ref (b + 124)), (2, .int (nI c0)), (3, .int (nI j)), (4, .int (fX7_isHair P (nI j))), (5, .int (outF P (nI j))), (6, .int ((-3) : Int32))]) : W p l e (headSpec wsL_act ({ frames := 9, cells := 9, slots := 54, locals := 158 } : Room)).room s m args below meth c H locs cells slots (MQ below (CQe D cy b n 1 Pst) args s 9 54 (fr b)) (F0 m 623 ls []) := by
  have hc6 := hA.2.2.1
  have hc0 : 0 < c0 := by omega
  have hj6 : j < 6 := by omega
  by_cases ho : fX7_isHair P (nI j) = 0
  · refine lv_iload_n hx hb dL_act_623 rfl (lv_at hl 2 rfl) ?_
    refine lv_if_ne (tgt := 631) hx hb dL_act_624 (by decide) (fun c624 => ?_) (fun c624 => absurd c624 (nI_ne0 hc0 (by omega)))
    refine lv_aload_n hx hb dL_act_631 rfl (lv_at hl 0 rfl) ?_
    refine lv_iload_n hx hb dL_act_632 rfl (lv_at hl 3 rfl) ?_
    refine xct_i (vx_runV (As := [.int (nI j)]) (rest := []) ⟨hx, hb, hml, hown, hts⟩ (c_X7_waterOf l hl0 D cy b n (by omega) P (nI j) hA.cnt) (cwV 1 hts gL_act_X7_waterOf rfl rfl rfl (by decide +kernel) ⟨Nat.le_of_ble_eq_true rfl, Nat.le_of_ble_eq_true rfl⟩) (xPreV hP hK hX hS (by omega) (cell7 (by decide)) rfl) rfl rfl hl.1 rfl (lv_room (Nat.le_of_ble_eq_true rfl)) dL_act_633 ⟨by show _ ≤ 9; omega, by show _ ≤ 54; omega⟩) hS (fun E ce qx H locs hE _ _ _ _ _ => absurd (t0_waterOf (t0_at hA.2.1 hc6 hj)) (exn_ne hE)) (fun H locs _ hP hS => ?_)
    refine lv_istore (lv' := [(23, .int (fX7_waterOf P (nI j))), (0, .ref (b + 0)), (1, .ref (b + 124)), (2, .int (nI c0)), (3, .int (nI j)), (4, .int (fX7_isHair P (nI j))), (5, .int (outF P (nI j))), (6, .int ((-3) : Int32))]) hx hb dL_act_636 hl (by decide) rfl (fun ls hl => ?_)
    refine lv_aload_n hx hb dL_act_638 rfl (lv_at hl 1 rfl) ?_
    refine lv_iload_n hx hb dL_act_639 rfl (lv_at hl 4 rfl) ?_
    refine xc_i (vx_runSW (As := [.ref (b + 0), .int (nI j)]) (rest := []) ⟨hx, hb, hml, hown, hts⟩ (c_L_moistened l hl0 D cy b n (by omega) P (nI j) hA.cnt hA.2.2.2.1) (vx_cwSW 2 hts gL_act_L_moistened rfl rfl rfl (by decide +kernel) ⟨Nat.le_of_ble_eq_true rfl, Nat.le_of_ble_eq_true rfl⟩) (xPreS hP hK hX hS) rfl rfl hl.1 rfl (lv_room (Nat.le_of_ble_eq_true rfl)) dL_act_640 ⟨by show _ ≤ 9; omega, by show _ ≤ 54; omega⟩) hS (fun H locs hP hS => ?_)
    obtain ⟨o1, o2, o3, o4, o5⟩ := op_moi hA hj ho
    obtain ⟨R, hR⟩ : ∃ z, z = gX7_moisten P (nI j) := ⟨_, rfl⟩
    rw [← hR] at hP o2 o4 o5
    have h1R : R 1 1 = nI c0 := o4
    refine W.eq (g2 := F0 m 643 ls (.int (fX7_waterOf P (nI j)) :: [])) (congrArg (fun z => F0 m 643 ls (.int z :: [])) (by rw [o1]; exact o3)) ?_
    refine lv_istore (lv' := [(24, .int (fX7_waterOf P (nI j))), (23, .int (fX7_waterOf P (nI j))), (0, .ref (b + 0)), (1, .ref (b + 124)), (2, .int (nI c0)), (3, .int (nI j)), (4, .int (fX7_isHair P (nI j))), (5, .int (outF P (nI j))), (6, .int ((-3) : Int32))]) hx hb dL_act_643 hl (by decide) rfl (fun ls hl => ?_)
    refine lv_iload_n hx hb dL_act_645 rfl (lv_at hl 4 rfl) ?_
    refine lv_if_le (tgt := 679) hx hb dL_act_646 (by decide) (fun c646 => absurd c646 (by rw [show (0 : Int32) = nI 0 from rfl, nI_leI (by omega) (by omega)]; omega)) (fun c646 => ?_)
    refine lv_iload hx hb dL_act_649 (lv_at hl 6 rfl) ?_
    refine lv_if_ne (tgt := 679) hx hb dL_act_651 (by decide) (fun c651 => absurd ho c651) (fun c651 => ?_)
    refine lv_iload hx hb dL_act_654 (lv_at hl 0 rfl) ?_
    refine lv_iload hx hb dL_act_656 (lv_at hl 1 rfl) ?_
    refine lv_icmp_ne (tgt := 675) hx hb dL_act_658 (by decide) (fun c658 => absurd rfl c658) (fun c658 => ?_)
    refine lv_aload_n hx hb dL_act_661 rfl (lv_at hl 2 rfl) ?_
    refine lv_iload_n hx hb dL_act_662 rfl (lv_at hl 5 rfl) ?_
    refine xct_i (vx_runV (As := [.int (nI j)]) (rest := []) ⟨hx, hb, hml, hown, hts⟩ (c_X7_waterOf l hl0 D cy b n (by omega) R (nI j) ⟨c0, hc6, h1R⟩) (cwV 1 hts gL_act_X7_waterOf rfl rfl rfl (by decide +kernel) ⟨Nat.le_of_ble_eq_true rfl, Nat.le_of_ble_eq_true rfl⟩) (xPreV hP hK hX hS (by omega) (cell7 (by decide)) rfl) rfl rfl hl.1 rfl (lv_room (Nat.le_of_ble_eq_true rfl)) dL_act_663 ⟨by show _ ≤ 9; omega, by show _ ≤ 54; omega⟩) hS (fun E ce qx H locs hE _ _ _ _ _ => absurd (t0_waterOf (t0_at h1R hc6 hj)) (exn_ne hE)) (fun H locs _ hP hS => ?_)
    refine lv_bipush (v := 60) hx hb dL_act_666 (by decide) ?_
    refine lv_icmp_ne (tgt := 675) hx hb dL_act_668 (by decide) (fun c668 => absurd o5 c668) (fun c668 => ?_)
    refine lv_iconst (v := 1) hx hb dL_act_671 (by decide) ?_
    refine lv_goto (tgt := 699) hx hb dL_act_672 (by decide) ?_
    exact xe_e hx hb hr hlocks hP hS (hpost _ o2) rfl rfl (by omega) (by omega) dL_act_699
  · refine lv_iload_n hx hb dL_act_623 rfl (lv_at hl 2 rfl) ?_
    refine lv_if_ne (tgt := 631) hx hb dL_act_624 (by decide) (fun c624 => ?_) (fun c624 => absurd c624 (nI_ne0 hc0 (by omega)))
    refine lv_aload_n hx hb dL_act_631 rfl (lv_at hl 0 rfl) ?_
    refine lv_iload_n hx hb dL_act_632 rfl (lv_at hl 3 rfl) ?_
    refine xct_i (vx_runV (As := [.int (nI j)]) (rest := []) ⟨hx, hb, hml, hown, hts⟩ (c_X7_waterOf l hl0 D cy b n (by omega) P (nI j) hA.cnt) (cwV 1 hts gL_act_X7_waterOf rfl rfl rfl (by decide +kernel) ⟨Nat.le_of_ble_eq_true rfl, Nat.le_of_ble_eq_true rfl⟩) (xPreV hP hK hX hS (by omega) (cell7 (by decide)) rfl) rfl rfl hl.1 rfl (lv_room (Nat.le_of_ble_eq_true rfl)) dL_act_633 ⟨by show _ ≤ 9; omega, by show _ ≤ 54; omega⟩) hS (fun E ce qx H locs hE _ _ _ _ _ => absurd (t0_waterOf (t0_at hA.2.1 hc6 hj)) (exn_ne hE)) (fun H locs _ hP hS => ?_)
    refine lv_istore (lv' := [(23, .int (fX7_waterOf P (nI j))), (0, .ref (b + 0)), (1, .ref (b + 124)), (2, .int (nI c0)), (3, .int (nI j)), (4, .int (fX7_isHair P (nI j))), (5, .int (outF P (nI j))), (6, .int ((-3) : Int32))]) hx hb dL_act_636 hl (by decide) rfl (fun ls hl => ?_)
    refine lv_aload_n hx hb dL_act_638 rfl (lv_at hl 1 rfl) ?_
    refine lv_iload_n hx hb dL_act_639 rfl (lv_at hl 4 rfl) ?_
    refine xc_i (vx_runSW (As := [.ref (b + 0), .int (nI j)]) (rest := []) ⟨hx, hb, hml, hown, hts⟩ (c_L_moistened l hl0 D cy b n (by omega) P (nI j) hA.cnt hA.2.2.2.1) (vx_cwSW 2 hts gL_act_L_moistened rfl rfl rfl (by decide +kernel) ⟨Nat.le_of_ble_eq_true rfl, Nat.le_of_ble_eq_true rfl⟩) (xPreS hP hK hX hS) rfl rfl hl.1 rfl (lv_room (Nat.le_of_ble_eq_true rfl)) dL_act_640 ⟨by show _ ≤ 9; omega, by show _ ≤ 54; omega⟩) hS (fun H locs hP hS => ?_)
    obtain ⟨o1, o2⟩ := op_moiR hA hj ho
    rw [o2] at hP
    refine W.eq (g2 := F0 m 643 ls (.int (-3) :: [])) (congrArg (fun z => F0 m 643 ls (.int z :: [])) (by rw [o1]; rfl)) ?_
    refine lv_istore (lv' := [(24, .int (-3)), (23, .int (fX7_waterOf P (nI j))), (0, .ref (b + 0)), (1, .ref (b + 124)), (2, .int (nI c0)), (3, .int (nI j)), (4, .int (fX7_isHair P (nI j))), (5, .int (outF P (nI j))), (6, .int ((-3) : Int32))]) hx hb dL_act_643 hl (by decide) rfl (fun ls hl => ?_)
    refine lv_iload_n hx hb dL_act_645 rfl (lv_at hl 4 rfl) ?_
    refine lv_if_le (tgt := 679) hx hb dL_act_646 (by decide) (fun c646 => absurd c646 (by rw [show (0 : Int32) = nI 0 from rfl, nI_leI (by omega) (by omega)]; omega)) (fun c646 => ?_)
    refine lv_iload hx hb dL_act_649 (lv_at hl 6 rfl) ?_
    refine lv_if_ne (tgt := 679) hx hb dL_act_651 (by decide) (fun c651 => ?_) (fun c651 => absurd c651 ho)
    refine lv_iload hx hb dL_act_679 (lv_at hl 0 rfl) ?_
    refine lv_iload hx hb dL_act_681 (lv_at hl 8 rfl) ?_
    refine lv_icmp_ne (tgt := 698) hx hb dL_act_683 (by decide) (fun c683 => absurd rfl c683) (fun c683 => ?_)
    refine lv_aload_n hx hb dL_act_686 rfl (lv_at hl 2 rfl) ?_
    refine lv_iconst (v := 5) hx hb dL_act_687 (by decide) ?_
    refine W.eq (g2 := F0 m 688 ls (.int (nI 5) :: .ref (b + 0) :: [])) (congrArg (fun z => F0 m 688 ls (.int z :: .ref (b + 0) :: [])) rfl) ?_
    refine xc_i (vx_runSW (As := [.ref (b + 0), .int (nI 5)]) (rest := []) ⟨hx, hb, hml, hown, hts⟩ (c_L_taught l hl0 D cy b n (by omega) P (nI 5) hA.cnt hA.2.2.2.1) (vx_cwSW 2 hts gL_act_L_taught rfl rfl rfl (by decide +kernel) ⟨Nat.le_of_ble_eq_true rfl, Nat.le_of_ble_eq_true rfl⟩) (xPreS hP hK hX hS) rfl rfl hl.1 rfl (lv_room (Nat.le_of_ble_eq_true rfl)) dL_act_688 ⟨by show _ ≤ 9; omega, by show _ ≤ 54; omega⟩) hS (fun H locs hP hS => ?_)
    obtain ⟨s1, s2, s3⟩ := op_skl hA (v := 5) (by decide)
    obtain ⟨R, hR⟩ : ∃ z, z = gX7_setSkill P (nI 5) := ⟨_, rfl⟩
    rw [← hR] at hP s3
    refine W.eq (g2 := F0 m 691 ls (.int (fX7_setSkill P (nI 5)) :: [])) (congrArg (fun z => F0 m 691 ls (.int z :: [])) (by rw [s1]; rfl)) ?_
    refine lv_if_lt (tgt := 698) hx hb dL_act_691 (by decide) (fun c691 => absurd c691 s2) (fun c691 => ?_)
    refine lv_iconst (v := 1) hx hb dL_act_694 (by decide) ?_
    refine lv_goto (tgt := 699) hx hb dL_act_695 (by decide) ?_
    exact xe_e hx hb hr hlocks hP hS (hpost _ s3) rfl rfl (by omega) (by omega) dL_act_699
set_option maxHeartbeats 4000000 in
set_option maxRecDepth 100000 in
theorem act_moiZ (l : Launch) (hl0 : l.stackTraces = false) (D : va_G) (cy : Nat → ClassId) (b n : Nat) (hn : 125 ≤ n) {mx c0 : Nat} {Pst : Mem → Prop} {p : Program} {e : Env} {s : State} {m : MethodId} {args : Array Value} {below : List Frame} {meth : Method} {c : Code} (hx : p.tables.exec = Jvm.exec) (hb : c.code = cL_act) (hr : meth.sig.returnType = (some .boolean)) (hlocks : meth.locks = false) (hml : c.maxLocals = 32) (hown : s.vm.findClass RL = some m.cls) (hts : ∀ w ∈ wsL_act, w.before args s = true) (hK : va_K D vwCl (tysW cy) s) (hX : SX b s) (P : Mem) (hz : c0 = 0) (cells slots : Nat) (H : Heap) (locs : List Loc) (ls : Array Slot) (hA : AST mx P c0) (hpost : ∀ M1, APOST mx P c0 M1 → Pst M1) (hcl : cells ≤ 2) (hsl : slots ≤ 12) (hP : va_P D vwCl (wL cy b fT P n) H) (hS : va_S (fr b) s.heap H locs) (hl : lv_has ls 32 [(0, .ref (b + 0)), (1, .ref (b + 124)), (2, .int (0 : Int32)), (3, .int (0 : Int32)), (4, .int (0 : Int32)), (5, .int (1 : Int32)), (6, .int ((-5) : Int32))]) : W p l e (headSpec wsL_act ({ frames := 9, cells := 9, slots := 54, locals := 158 } : Room)).room s m args below meth c H locs cells slots (MQ below (CQe D cy b n 1 Pst) args s 9 54 (fr b)) (F0 m 623 ls []) := by
  have hc6 := hA.2.2.1
  refine lv_iload_n hx hb dL_act_623 rfl (lv_at hl 2 rfl) ?_
  refine lv_if_ne (tgt := 631) hx hb dL_act_624 (by decide) (fun c624 => absurd rfl c624) (fun c624 => ?_)
  refine lv_iconst (v := 0) hx hb dL_act_627 (by decide) ?_
  refine lv_goto (tgt := 636) hx hb dL_act_628 (by decide) ?_
  refine lv_istore (lv' := [(23, .int (0 : Int32)), (0, .ref (b + 0)), (1, .ref (b + 124)), (2, .int (0 : Int32)), (3, .int (0 : Int32)), (4, .int (0 : Int32)), (5, .int (1 : Int32)), (6, .int ((-5) : Int32))]) hx hb dL_act_636 hl (by decide) rfl (fun ls hl => ?_)
  refine lv_aload_n hx hb dL_act_638 rfl (lv_at hl 1 rfl) ?_
  refine lv_iload_n hx hb dL_act_639 rfl (lv_at hl 4 rfl) ?_
  refine xc_i (vx_runSW (As := [.ref (b + 0), .int (0 : Int32)]) (rest := []) ⟨hx, hb, hml, hown, hts⟩ (c_L_moistened l hl0 D cy b n (by omega) P (0 : Int32) hA.cnt hA.2.2.2.1) (vx_cwSW 2 hts gL_act_L_moistened rfl rfl rfl (by decide +kernel) ⟨Nat.le_of_ble_eq_true rfl, Nat.le_of_ble_eq_true rfl⟩) (xPreS hP hK hX hS) rfl rfl hl.1 rfl (lv_room (Nat.le_of_ble_eq_true rfl)) dL_act_640 ⟨by show _ ≤ 9; omega, by show _ ≤ 54; omega⟩) hS (fun H locs hP hS => ?_)
  obtain ⟨o1, o2⟩ := no_moi (at_no (M := P) (x := 0) (Or.inr (by rw [hA.2.1, hz]; decide)))
  rw [o2] at hP
  refine W.eq (g2 := F0 m 643 ls (.int (-5) :: [])) (congrArg (fun z => F0 m 643 ls (.int z :: [])) (by rw [o1]; rfl)) ?_
  refine lv_istore (lv' := [(24, .int (-5)), (23, .int (0 : Int32)), (0, .ref (b + 0)), (1, .ref (b + 124)), (2, .int (0 : Int32)), (3, .int (0 : Int32)), (4, .int (0 : Int32)), (5, .int (1 : Int32)), (6, .int ((-5) : Int32))]) hx hb dL_act_643 hl (by decide) rfl (fun ls hl => ?_)
  refine lv_iload_n hx hb dL_act_645 rfl (lv_at hl 4 rfl) ?_
  refine lv_if_le (tgt := 679) hx hb dL_act_646 (by decide) (fun c646 => ?_) (fun c646 => absurd (by decide) c646)
  refine lv_iload hx hb dL_act_679 (lv_at hl 0 rfl) ?_
  refine lv_iload hx hb dL_act_681 (lv_at hl 8 rfl) ?_
  refine lv_icmp_ne (tgt := 698) hx hb dL_act_683 (by decide) (fun c683 => absurd rfl c683) (fun c683 => ?_)
  refine lv_aload_n hx hb dL_act_686 rfl (lv_at hl 2 rfl) ?_
  refine lv_iconst (v := 5) hx hb dL_act_687 (by decide) ?_
  refine W.eq (g2 := F0 m 688 ls (.int (nI 5) :: .ref (b + 0) :: [])) (congrArg (fun z => F0 m 688 ls (.int z :: .ref (b + 0) :: [])) rfl) ?_
  refine xc_i (vx_runSW (As := [.ref (b + 0), .int (nI 5)]) (rest := []) ⟨hx, hb, hml, hown, hts⟩ (c_L_taught l hl0 D cy b n (by omega) P (nI 5) hA.cnt hA.2.2.2.1) (vx_cwSW 2 hts gL_act_L_taught rfl rfl rfl (by decide +kernel) ⟨Nat.le_of_ble_eq_true rfl, Nat.le_of_ble_eq_true rfl⟩) (xPreS hP hK hX hS) rfl rfl hl.1 rfl (lv_room (Nat.le_of_ble_eq_true rfl)) dL_act_688 ⟨by show _ ≤ 9; omega, by show _ ≤ 54; omega⟩) hS (fun H locs hP hS => ?_)
  obtain ⟨s1, s2, s3⟩ := op_skl hA (v := 5) (by decide)
  obtain ⟨R, hR⟩ : ∃ z, z = gX7_setSkill P (nI 5) := ⟨_, rfl⟩
  rw [← hR] at hP s3
  refine W.eq (g2 := F0 m 691 ls (.int (fX7_setSkill P (nI 5)) :: [])) (congrArg (fun z => F0 m 691 ls (.int z :: [])) (by rw [s1]; rfl)) ?_
  refine lv_if_lt (tgt := 698) hx hb dL_act_691 (by decide) (fun c691 => absurd c691 s2) (fun c691 => ?_)
  refine lv_iconst (v := 1) hx hb dL_act_694 (by decide) ?_
  refine lv_goto (tgt := 699) hx hb dL_act_695 (by decide) ?_
  exact xe_e hx hb hr hlocks hP hS (hpost _ s3) rfl rfl (by omega) (by omega) dL_act_699
set_option maxHeartbeats 4000000 in
set_option maxRecDepth 100000 in
theorem act_addN (l : Launch) (hl0 : l.stackTraces = false) (D : va_G) (cy : Nat → ClassId) (b n : Nat) (hn : 125 ≤ n) {mx c0 : Nat} {Pst : Mem → Prop} {p : Program} {e : Env} {s : State} {m : MethodId} {args : Array Value} {below : List Frame} {meth : Method} {c : Code} (hx : p.tables.exec = Jvm.exec) (hb : c.code = cL_act) (hr : meth.sig.returnType = (some .boolean)) (hlocks : meth.locks = false) (hml : c.maxLocals = 32) (hown : s.vm.findClass RL = some m.cls) (hts : ∀ w ∈ wsL_act, w.before args s = true) (hK : va_K D vwCl (tysW cy) s) (hX : SX b s) (P : Mem) (j : Nat) (hj : j < c0) (cells slots : Nat) (H : Heap) (locs : List Loc) (ls : Array Slot) (hA : AST mx P c0) (hpost : ∀ M1, APOST mx P c0 M1 → Pst M1) (hcl : cells ≤ 2) (hsl : slots ≤ 12) (hP : va_P D vwCl (wL cy b fT P n) H) (hS : va_S (fr b) s.heap H locs) (hl : lv_has ls 32 [(0, .ref (b + 0)), (1, .ref (b + 124)), (2, .int (nI c0)), (3, .int (nI j)), (4, .int (fX7_isHair P (nI j))), (5, .int (outF P (nI j))), (6, .int ((-3) : Int32))]) : W p l e (headSpec wsL_act ({ frames := 9, cells := 9, slots := 54, locals := 158 } : Room)).room s m args below meth c H locs cells slots (MQ below (CQe D cy b n 1 Pst) args s 9 54 (fr b)) (F0 m 700 ls []) := by
  have hc6 := hA.2.2.1
  have hc0 : 0 < c0 := by omega
  have hj6 : j < 6 := by omega
  refine lv_iconst (v := 1) hx hb dL_act_700 (by decide) ?_
  refine lv_aload_n hx hb dL_act_701 rfl (lv_at hl 1 rfl) ?_
  refine xc_i (va_runS (As := [.ref (b + 124)]) (rest := [.int (1 : Int32)]) ⟨hx, hb, hml, hown, hts⟩ (c_L_next l D cy b n (by omega) P ) (va_cwS 1 hts gL_act_L_next rfl rfl rfl (by decide +kernel) ⟨Nat.le_of_ble_eq_true rfl, Nat.le_of_ble_eq_true rfl⟩) (xPreS hP hK hX hS) rfl rfl hl.1 rfl (lv_room (Nat.le_of_ble_eq_true rfl)) dL_act_702 ⟨by show _ ≤ 9; omega, by show _ ≤ 54; omega⟩) hS (fun H locs hP hS => ?_)
  obtain ⟨P1, hP1⟩ : ∃ z, z = mU P 124 0 (nxS (P 124 0)) := ⟨_, rfl⟩
  rw [← hP1] at hP
  have hE1 : EQR P P1 := by rw [hP1]; exact eqr_put _ _ _
  have hA1 : AST mx P1 c0 := hA.eqr hE1
  obtain ⟨q, hq, eq⟩ := nx_mod (P 124 0) (k := 6) (by decide) (by decide)
  refine lv_bipush (v := 6) hx hb dL_act_705 (by decide) ?_
  refine lv_irem hx hb dL_act_707 (by decide) ?_
  refine W.eq (g2 := F0 m 708 ls (.int (nI q) :: .int (1 : Int32) :: [])) (congrArg (fun z => F0 m 708 ls (.int z :: .int (1 : Int32) :: [])) eq) ?_
  refine lv_iadd hx hb dL_act_708 ?_
  refine W.eq (g2 := F0 m 709 ls (.int (nI (q + 1)) :: [])) (congrArg (fun z => F0 m 709 ls (.int z :: [])) (show (1 : Int32) + nI q = nI (q + 1) by rw [show (1 : Int32) = nI 1 from rfl, nI_add, Nat.add_comm])) ?_
  refine lv_istore (lv' := [(25, .int (nI (q + 1))), (0, .ref (b + 0)), (1, .ref (b + 124)), (2, .int (nI c0)), (3, .int (nI j)), (4, .int (fX7_isHair P (nI j))), (5, .int (outF P (nI j))), (6, .int ((-3) : Int32))]) hx hb dL_act_709 hl (by decide) rfl (fun ls hl => ?_)
  refine lv_iload_n hx hb dL_act_711 rfl (lv_at hl 3 rfl) ?_
  refine lv_if_ne (tgt := 719) hx hb dL_act_712 (by decide) (fun c712 => ?_) (fun c712 => absurd c712 (nI_ne0 hc0 (by omega)))
  refine lv_aload_n hx hb dL_act_719 rfl (lv_at hl 1 rfl) ?_
  refine lv_iload_n hx hb dL_act_720 rfl (lv_at hl 4 rfl) ?_
  refine xct_i (vx_runV (As := [.int (nI j)]) (rest := []) ⟨hx, hb, hml, hown, hts⟩ (c_X7_hairsOf l hl0 D cy b n (by omega) P1 (nI j) hA1.cnt) (cwV 1 hts gL_act_X7_hairsOf rfl rfl rfl (by decide +kernel) ⟨Nat.le_of_ble_eq_true rfl, Nat.le_of_ble_eq_true rfl⟩) (xPreV hP hK hX hS (by omega) (cell7 (by decide)) rfl) rfl rfl hl.1 rfl (lv_room (Nat.le_of_ble_eq_true rfl)) dL_act_721 ⟨by show _ ≤ 9; omega, by show _ ≤ 54; omega⟩) hS (fun E ce qx H locs hE _ _ _ _ _ => absurd (t0_hairsOf (t0_at hA1.2.1 hc6 hj)) (exn_ne hE)) (fun H locs _ hP hS => ?_)
  refine lv_istore (lv' := [(26, .int (fX7_hairsOf P1 (nI j))), (25, .int (nI (q + 1))), (0, .ref (b + 0)), (1, .ref (b + 124)), (2, .int (nI c0)), (3, .int (nI j)), (4, .int (fX7_isHair P (nI j))), (5, .int (outF P (nI j))), (6, .int ((-3) : Int32))]) hx hb dL_act_724 hl (by decide) rfl (fun ls hl => ?_)
  refine lv_aload_n hx hb dL_act_726 rfl (lv_at hl 2 rfl) ?_
  refine xc_i (va_runV (As := []) (rest := []) ⟨hx, hb, hml, hown, hts⟩ (c_X7_hairStock l D cy b n (by omega) P1 ) (cwV 0 hts gL_act_X7_hairStock rfl rfl rfl (by decide +kernel) ⟨Nat.le_of_ble_eq_true rfl, Nat.le_of_ble_eq_true rfl⟩) (xPreV hP hK hX hS (by omega) (cell7 (by decide)) rfl) rfl rfl hl.1 rfl (lv_room (Nat.le_of_ble_eq_true rfl)) dL_act_727 ⟨by show _ ≤ 9; omega, by show _ ≤ 54; omega⟩) hS (fun H locs hP hS => ?_)
  refine lv_istore (lv' := [(27, .int (fX7_hairStock P1)), (26, .int (fX7_hairsOf P1 (nI j))), (25, .int (nI (q + 1))), (0, .ref (b + 0)), (1, .ref (b + 124)), (2, .int (nI c0)), (3, .int (nI j)), (4, .int (fX7_isHair P (nI j))), (5, .int (outF P (nI j))), (6, .int ((-3) : Int32))]) hx hb dL_act_730 hl (by decide) rfl (fun ls hl => ?_)
  refine lv_iload hx hb dL_act_732 (lv_at hl 7 rfl) ?_
  have k759 : ∀ (H : Heap) (locs : List Loc) (ls : Array Slot), va_P D vwCl (wL cy b fT P1 n) H → va_S (fr b) s.heap H locs → lv_has ls 32 [(27, .int (fX7_hairStock P1)), (26, .int (fX7_hairsOf P1 (nI j))), (25, .int (nI (q + 1))), (0, .ref (b + 0)), (1, .ref (b + 124)), (2, .int (nI c0)), (3, .int (nI j)), (4, .int (fX7_isHair P (nI j))), (5, .int (outF P (nI j))), (6, .int ((-3) : Int32))] → W p l e (headSpec wsL_act ({ frames := 9, cells := 9, slots := 54, locals := 158 } : Room)).room s m args below meth c H locs (cells + 1) (slots + 6) (MQ below (CQe D cy b n 1 Pst) args s 9 54 (fr b)) (F0 m 759 ls (.int (fitF P1 (nI j) (nI (q + 1))) :: [])) := by
    intro H locs ls hP hS hl
    refine lv_istore (lv' := [(28, .int (fitF P1 (nI j) (nI (q + 1)))), (27, .int (fX7_hairStock P1)), (26, .int (fX7_hairsOf P1 (nI j))), (25, .int (nI (q + 1))), (0, .ref (b + 0)), (1, .ref (b + 124)), (2, .int (nI c0)), (3, .int (nI j)), (4, .int (fX7_isHair P (nI j))), (5, .int (outF P (nI j))), (6, .int ((-3) : Int32))]) hx hb dL_act_759 hl (by decide) rfl (fun ls hl => ?_)
    by_cases hf : fitF P1 (nI j) (nI (q + 1)) = 0
    · refine lv_aload_n hx hb dL_act_761 rfl (lv_at hl 4 rfl) ?_
      refine lv_iload_n hx hb dL_act_762 rfl (lv_at hl 7 rfl) ?_
      refine lv_iload hx hb dL_act_763 (lv_at hl 3 rfl) ?_
      refine xc_i (vx_runSW (As := [.ref (b + 0), .int (nI j), .int (nI (q + 1))]) (rest := []) ⟨hx, hb, hml, hown, hts⟩ (c_L_added l hl0 D cy b n (by omega) P1 (nI j) (nI (q + 1)) hA1.cnt hA1.2.2.2.1) (vx_cwSW 3 hts gL_act_L_added rfl rfl rfl (by decide +kernel) ⟨Nat.le_of_ble_eq_true rfl, Nat.le_of_ble_eq_true rfl⟩) (xPreS hP hK hX hS) rfl rfl hl.1 rfl (lv_room (Nat.le_of_ble_eq_true rfl)) dL_act_765 ⟨by show _ ≤ 9; omega, by show _ ≤ 54; omega⟩) hS (fun H locs hP hS => ?_)
      obtain ⟨o1, o2⟩ := op_addR hA1 hj (y := q + 1) (by omega) (by omega) hf
      rw [o2] at hP
      refine W.eq (g2 := F0 m 768 ls (.int (-3) :: [])) (congrArg (fun z => F0 m 768 ls (.int z :: [])) (by rw [o1]; rfl)) ?_
      refine lv_istore (lv' := [(29, .int (-3)), (28, .int (fitF P1 (nI j) (nI (q + 1)))), (27, .int (fX7_hairStock P1)), (26, .int (fX7_hairsOf P1 (nI j))), (25, .int (nI (q + 1))), (0, .ref (b + 0)), (1, .ref (b + 124)), (2, .int (nI c0)), (3, .int (nI j)), (4, .int (fX7_isHair P (nI j))), (5, .int (outF P (nI j))), (6, .int ((-3) : Int32))]) hx hb dL_act_768 hl (by decide) rfl (fun ls hl => ?_)
      refine lv_iload hx hb dL_act_770 (lv_at hl 1 rfl) ?_
      refine lv_if_eq (tgt := 805) hx hb dL_act_772 (by decide) (fun c772 => ?_) (fun c772 => absurd hf c772)
      refine lv_iload hx hb dL_act_805 (lv_at hl 0 rfl) ?_
      refine lv_iload hx hb dL_act_807 (lv_at hl 11 rfl) ?_
      refine lv_icmp_ne (tgt := 824) hx hb dL_act_809 (by decide) (fun c809 => absurd rfl c809) (fun c809 => ?_)
      refine lv_aload_n hx hb dL_act_812 rfl (lv_at hl 5 rfl) ?_
      refine lv_iconst (v := 5) hx hb dL_act_813 (by decide) ?_
      refine W.eq (g2 := F0 m 814 ls (.int (nI 5) :: .ref (b + 0) :: [])) (congrArg (fun z => F0 m 814 ls (.int z :: .ref (b + 0) :: [])) rfl) ?_
      refine xc_i (vx_runSW (As := [.ref (b + 0), .int (nI 5)]) (rest := []) ⟨hx, hb, hml, hown, hts⟩ (c_L_taught l hl0 D cy b n (by omega) P1 (nI 5) hA1.cnt hA1.2.2.2.1) (vx_cwSW 2 hts gL_act_L_taught rfl rfl rfl (by decide +kernel) ⟨Nat.le_of_ble_eq_true rfl, Nat.le_of_ble_eq_true rfl⟩) (xPreS hP hK hX hS) rfl rfl hl.1 rfl (lv_room (Nat.le_of_ble_eq_true rfl)) dL_act_814 ⟨by show _ ≤ 9; omega, by show _ ≤ 54; omega⟩) hS (fun H locs hP hS => ?_)
      obtain ⟨s1, s2, s3⟩ := op_skl hA1 (v := 5) (by decide)
      obtain ⟨R, hR⟩ : ∃ z, z = gX7_setSkill P1 (nI 5) := ⟨_, rfl⟩
      rw [← hR] at hP s3
      refine W.eq (g2 := F0 m 817 ls (.int (fX7_setSkill P1 (nI 5)) :: [])) (congrArg (fun z => F0 m 817 ls (.int z :: [])) (by rw [s1]; rfl)) ?_
      refine lv_if_lt (tgt := 824) hx hb dL_act_817 (by decide) (fun c817 => absurd c817 s2) (fun c817 => ?_)
      refine lv_iconst (v := 1) hx hb dL_act_820 (by decide) ?_
      refine lv_goto (tgt := 825) hx hb dL_act_821 (by decide) ?_
      exact xe_e hx hb hr hlocks hP hS (hpost _ (s3.eqr hc6 hE1)) rfl rfl (by omega) (by omega) dL_act_825
    · refine lv_aload_n hx hb dL_act_761 rfl (lv_at hl 4 rfl) ?_
      refine lv_iload_n hx hb dL_act_762 rfl (lv_at hl 7 rfl) ?_
      refine lv_iload hx hb dL_act_763 (lv_at hl 3 rfl) ?_
      refine xc_i (vx_runSW (As := [.ref (b + 0), .int (nI j), .int (nI (q + 1))]) (rest := []) ⟨hx, hb, hml, hown, hts⟩ (c_L_added l hl0 D cy b n (by omega) P1 (nI j) (nI (q + 1)) hA1.cnt hA1.2.2.2.1) (vx_cwSW 3 hts gL_act_L_added rfl rfl rfl (by decide +kernel) ⟨Nat.le_of_ble_eq_true rfl, Nat.le_of_ble_eq_true rfl⟩) (xPreS hP hK hX hS) rfl rfl hl.1 rfl (lv_room (Nat.le_of_ble_eq_true rfl)) dL_act_765 ⟨by show _ ≤ 9; omega, by show _ ≤ 54; omega⟩) hS (fun H locs hP hS => ?_)
      obtain ⟨o1, o2, o3, o4, o5⟩ := op_add hA1 hj (y := q + 1) (by omega) (by omega) hf
      obtain ⟨R, hR⟩ : ∃ z, z = gX7_addHairs P1 (nI j) (nI (q + 1)) := ⟨_, rfl⟩
      rw [← hR] at hP o2 o4 o5
      have h1R : R 1 1 = nI c0 := o4
      refine W.eq (g2 := F0 m 768 ls (.int (fX7_hairsOf P1 (nI j) + nI (q + 1)) :: [])) (congrArg (fun z => F0 m 768 ls (.int z :: [])) (by rw [o1]; exact o3)) ?_
      refine lv_istore (lv' := [(29, .int (fX7_hairsOf P1 (nI j) + nI (q + 1))), (28, .int (fitF P1 (nI j) (nI (q + 1)))), (27, .int (fX7_hairStock P1)), (26, .int (fX7_hairsOf P1 (nI j))), (25, .int (nI (q + 1))), (0, .ref (b + 0)), (1, .ref (b + 124)), (2, .int (nI c0)), (3, .int (nI j)), (4, .int (fX7_isHair P (nI j))), (5, .int (outF P (nI j))), (6, .int ((-3) : Int32))]) hx hb dL_act_768 hl (by decide) rfl (fun ls hl => ?_)
      refine lv_iload hx hb dL_act_770 (lv_at hl 1 rfl) ?_
      refine lv_if_eq (tgt := 805) hx hb dL_act_772 (by decide) (fun c772 => absurd c772 hf) (fun c772 => ?_)
      refine lv_iload hx hb dL_act_775 (lv_at hl 0 rfl) ?_
      refine lv_iload hx hb dL_act_777 (lv_at hl 3 rfl) ?_
      refine lv_iload hx hb dL_act_779 (lv_at hl 4 rfl) ?_
      refine lv_iadd hx hb dL_act_781 ?_
      refine lv_icmp_ne (tgt := 801) hx hb dL_act_782 (by decide) (fun c782 => absurd rfl c782) (fun c782 => ?_)
      refine lv_aload_n hx hb dL_act_785 rfl (lv_at hl 5 rfl) ?_
      refine xc_i (va_runV (As := []) (rest := []) ⟨hx, hb, hml, hown, hts⟩ (c_X7_hairStock l D cy b n (by omega) R ) (cwV 0 hts gL_act_X7_hairStock rfl rfl rfl (by decide +kernel) ⟨Nat.le_of_ble_eq_true rfl, Nat.le_of_ble_eq_true rfl⟩) (xPreV hP hK hX hS (by omega) (cell7 (by decide)) rfl) rfl rfl hl.1 rfl (lv_room (Nat.le_of_ble_eq_true rfl)) dL_act_786 ⟨by show _ ≤ 9; omega, by show _ ≤ 54; omega⟩) hS (fun H locs hP hS => ?_)
      refine lv_iload hx hb dL_act_789 (lv_at hl 2 rfl) ?_
      refine lv_iload hx hb dL_act_791 (lv_at hl 4 rfl) ?_
      refine lv_isub hx hb dL_act_793 ?_
      refine lv_icmp_ne (tgt := 801) hx hb dL_act_794 (by decide) (fun c794 => absurd o5 c794) (fun c794 => ?_)
      refine lv_iconst (v := 1) hx hb dL_act_797 (by decide) ?_
      refine lv_goto (tgt := 825) hx hb dL_act_798 (by decide) ?_
      exact xe_e hx hb hr hlocks hP hS (hpost _ (o2.eqr hc6 hE1)) rfl rfl (by omega) (by omega) dL_act_825
  refine lv_if_eq (tgt := 758) hx hb dL_act_734 (by decide) (fun c734 => ?_) (fun c734 => ?_)
  · refine lv_iconst (v := 0) hx hb dL_act_758 (by decide) ?_
    refine W.eq (g2 := F0 m 759 ls (.int (fitF P1 (nI j) (nI (q + 1))) :: [])) (congrArg (fun z => F0 m 759 ls (.int z :: [])) (fit_a ((hr_eqr hE1 hj6).trans c734))) ?_
    refine W.widen (k := cells + 1) (n := slots + 6) (by omega) (by omega) ?_
    exact k759 H locs ls hP hS (lv_sub hl [0, 1, 2, 3, 4, 5, 6, 7, 8, 9] rfl)
  · refine lv_iload hx hb dL_act_737 (lv_at hl 2 rfl) ?_
    refine lv_iload hx hb dL_act_739 (lv_at hl 0 rfl) ?_
    refine lv_icmp_gt (tgt := 758) hx hb dL_act_741 (by decide) (fun c741 => ?_) (fun c741 => ?_)
    · refine lv_iconst (v := 0) hx hb dL_act_758 (by decide) ?_
      refine W.eq (g2 := F0 m 759 ls (.int (fitF P1 (nI j) (nI (q + 1))) :: [])) (congrArg (fun z => F0 m 759 ls (.int z :: [])) (fit_b (fun e => c734 ((hr_eqr hE1 hj6).symm.trans e)) c741)) ?_
      refine W.widen (k := cells + 1) (n := slots + 6) (by omega) (by omega) ?_
      exact k759 H locs ls hP hS (lv_sub hl [0, 1, 2, 3, 4, 5, 6, 7, 8, 9] rfl)
    · refine lv_iload hx hb dL_act_744 (lv_at hl 1 rfl) ?_
      refine lv_iload hx hb dL_act_746 (lv_at hl 2 rfl) ?_
      refine lv_iadd hx hb dL_act_748 ?_
      refine lv_bipush (v := 20) hx hb dL_act_749 (by decide) ?_
      refine lv_icmp_gt (tgt := 758) hx hb dL_act_751 (by decide) (fun c751 => ?_) (fun c751 => ?_)
      · refine lv_iconst (v := 0) hx hb dL_act_758 (by decide) ?_
        refine W.eq (g2 := F0 m 759 ls (.int (fitF P1 (nI j) (nI (q + 1))) :: [])) (congrArg (fun z => F0 m 759 ls (.int z :: [])) (fit_c (fun e => c734 ((hr_eqr hE1 hj6).symm.trans e)) c741 (Int32.not_le.mpr c751))) ?_
        refine W.widen (k := cells + 1) (n := slots + 6) (by omega) (by omega) ?_
        exact k759 H locs ls hP hS (lv_sub hl [0, 1, 2, 3, 4, 5, 6, 7, 8, 9] rfl)
      · refine lv_iconst (v := 1) hx hb dL_act_754 (by decide) ?_
        refine lv_goto (tgt := 759) hx hb dL_act_755 (by decide) ?_
        refine W.eq (g2 := F0 m 759 ls (.int (fitF P1 (nI j) (nI (q + 1))) :: [])) (congrArg (fun z => F0 m 759 ls (.int z :: [])) (fit_d (fun e => c734 ((hr_eqr hE1 hj6).symm.trans e)) c741 (Int32.not_lt.mp c751))) ?_
        refine W.widen (k := cells + 1) (n := slots + 6) (by omega) (by omega) ?_
        exact k759 H locs ls hP hS (lv_sub hl [0, 1, 2, 3, 4, 5, 6, 7, 8, 9] rfl)
set_option maxHeartbeats 4000000 in
set_option maxRecDepth 100000 in
theorem act_addZ (l : Launch) (hl0 : l.stackTraces = false) (D : va_G) (cy : Nat → ClassId) (b n : Nat) (hn : 125 ≤ n) {mx c0 : Nat} {Pst : Mem → Prop} {p : Program} {e : Env} {s : State} {m : MethodId} {args : Array Value} {below : List Frame} {meth : Method} {c : Code} (hx : p.tables.exec = Jvm.exec) (hb : c.code = cL_act) (hr : meth.sig.returnType = (some .boolean)) (hlocks : meth.locks = false) (hml : c.maxLocals = 32) (hown : s.vm.findClass RL = some m.cls) (hts : ∀ w ∈ wsL_act, w.before args s = true) (hK : va_K D vwCl (tysW cy) s) (hX : SX b s) (P : Mem) (hz : c0 = 0) (cells slots : Nat) (H : Heap) (locs : List Loc) (ls : Array Slot) (hA : AST mx P c0) (hpost : ∀ M1, APOST mx P c0 M1 → Pst M1) (hcl : cells ≤ 2) (hsl : slots ≤ 12) (hP : va_P D vwCl (wL cy b fT P n) H) (hS : va_S (fr b) s.heap H locs) (hl : lv_has ls 32 [(0, .ref (b + 0)), (1, .ref (b + 124)), (2, .int (0 : Int32)), (3, .int (0 : Int32)), (4, .int (0 : Int32)), (5, .int (1 : Int32)), (6, .int ((-5) : Int32))]) : W p l e (headSpec wsL_act ({ frames := 9, cells := 9, slots := 54, locals := 158 } : Room)).room s m args below meth c H locs cells slots (MQ below (CQe D cy b n 1 Pst) args s 9 54 (fr b)) (F0 m 700 ls []) := by
  have hc6 := hA.2.2.1
  refine lv_iconst (v := 1) hx hb dL_act_700 (by decide) ?_
  refine lv_aload_n hx hb dL_act_701 rfl (lv_at hl 1 rfl) ?_
  refine xc_i (va_runS (As := [.ref (b + 124)]) (rest := [.int (1 : Int32)]) ⟨hx, hb, hml, hown, hts⟩ (c_L_next l D cy b n (by omega) P ) (va_cwS 1 hts gL_act_L_next rfl rfl rfl (by decide +kernel) ⟨Nat.le_of_ble_eq_true rfl, Nat.le_of_ble_eq_true rfl⟩) (xPreS hP hK hX hS) rfl rfl hl.1 rfl (lv_room (Nat.le_of_ble_eq_true rfl)) dL_act_702 ⟨by show _ ≤ 9; omega, by show _ ≤ 54; omega⟩) hS (fun H locs hP hS => ?_)
  obtain ⟨P1, hP1⟩ : ∃ z, z = mU P 124 0 (nxS (P 124 0)) := ⟨_, rfl⟩
  rw [← hP1] at hP
  have hE1 : EQR P P1 := by rw [hP1]; exact eqr_put _ _ _
  have hA1 : AST mx P1 c0 := hA.eqr hE1
  obtain ⟨q, hq, eq⟩ := nx_mod (P 124 0) (k := 6) (by decide) (by decide)
  refine lv_bipush (v := 6) hx hb dL_act_705 (by decide) ?_
  refine lv_irem hx hb dL_act_707 (by decide) ?_
  refine W.eq (g2 := F0 m 708 ls (.int (nI q) :: .int (1 : Int32) :: [])) (congrArg (fun z => F0 m 708 ls (.int z :: .int (1 : Int32) :: [])) eq) ?_
  refine lv_iadd hx hb dL_act_708 ?_
  refine W.eq (g2 := F0 m 709 ls (.int (nI (q + 1)) :: [])) (congrArg (fun z => F0 m 709 ls (.int z :: [])) (show (1 : Int32) + nI q = nI (q + 1) by rw [show (1 : Int32) = nI 1 from rfl, nI_add, Nat.add_comm])) ?_
  refine lv_istore (lv' := [(25, .int (nI (q + 1))), (0, .ref (b + 0)), (1, .ref (b + 124)), (2, .int (0 : Int32)), (3, .int (0 : Int32)), (4, .int (0 : Int32)), (5, .int (1 : Int32)), (6, .int ((-5) : Int32))]) hx hb dL_act_709 hl (by decide) rfl (fun ls hl => ?_)
  refine lv_iload_n hx hb dL_act_711 rfl (lv_at hl 3 rfl) ?_
  refine lv_if_ne (tgt := 719) hx hb dL_act_712 (by decide) (fun c712 => absurd rfl c712) (fun c712 => ?_)
  refine lv_iconst (v := 0) hx hb dL_act_715 (by decide) ?_
  refine lv_goto (tgt := 724) hx hb dL_act_716 (by decide) ?_
  refine lv_istore (lv' := [(26, .int (0 : Int32)), (25, .int (nI (q + 1))), (0, .ref (b + 0)), (1, .ref (b + 124)), (2, .int (0 : Int32)), (3, .int (0 : Int32)), (4, .int (0 : Int32)), (5, .int (1 : Int32)), (6, .int ((-5) : Int32))]) hx hb dL_act_724 hl (by decide) rfl (fun ls hl => ?_)
  refine lv_aload_n hx hb dL_act_726 rfl (lv_at hl 2 rfl) ?_
  refine xc_i (va_runV (As := []) (rest := []) ⟨hx, hb, hml, hown, hts⟩ (c_X7_hairStock l D cy b n (by omega) P1 ) (cwV 0 hts gL_act_X7_hairStock rfl rfl rfl (by decide +kernel) ⟨Nat.le_of_ble_eq_true rfl, Nat.le_of_ble_eq_true rfl⟩) (xPreV hP hK hX hS (by omega) (cell7 (by decide)) rfl) rfl rfl hl.1 rfl (lv_room (Nat.le_of_ble_eq_true rfl)) dL_act_727 ⟨by show _ ≤ 9; omega, by show _ ≤ 54; omega⟩) hS (fun H locs hP hS => ?_)
  refine lv_istore (lv' := [(27, .int (fX7_hairStock P1)), (26, .int (0 : Int32)), (25, .int (nI (q + 1))), (0, .ref (b + 0)), (1, .ref (b + 124)), (2, .int (0 : Int32)), (3, .int (0 : Int32)), (4, .int (0 : Int32)), (5, .int (1 : Int32)), (6, .int ((-5) : Int32))]) hx hb dL_act_730 hl (by decide) rfl (fun ls hl => ?_)
  refine lv_iload hx hb dL_act_732 (lv_at hl 7 rfl) ?_
  refine lv_if_eq (tgt := 758) hx hb dL_act_734 (by decide) (fun c734 => ?_) (fun c734 => absurd rfl c734)
  refine lv_iconst (v := 0) hx hb dL_act_758 (by decide) ?_
  refine lv_istore (lv' := [(28, .int (0 : Int32)), (27, .int (fX7_hairStock P1)), (26, .int (0 : Int32)), (25, .int (nI (q + 1))), (0, .ref (b + 0)), (1, .ref (b + 124)), (2, .int (0 : Int32)), (3, .int (0 : Int32)), (4, .int (0 : Int32)), (5, .int (1 : Int32)), (6, .int ((-5) : Int32))]) hx hb dL_act_759 hl (by decide) rfl (fun ls hl => ?_)
  refine lv_aload_n hx hb dL_act_761 rfl (lv_at hl 4 rfl) ?_
  refine lv_iload_n hx hb dL_act_762 rfl (lv_at hl 7 rfl) ?_
  refine lv_iload hx hb dL_act_763 (lv_at hl 3 rfl) ?_
  refine xc_i (vx_runSW (As := [.ref (b + 0), .int (0 : Int32), .int (nI (q + 1))]) (rest := []) ⟨hx, hb, hml, hown, hts⟩ (c_L_added l hl0 D cy b n (by omega) P1 (0 : Int32) (nI (q + 1)) hA1.cnt hA1.2.2.2.1) (vx_cwSW 3 hts gL_act_L_added rfl rfl rfl (by decide +kernel) ⟨Nat.le_of_ble_eq_true rfl, Nat.le_of_ble_eq_true rfl⟩) (xPreS hP hK hX hS) rfl rfl hl.1 rfl (lv_room (Nat.le_of_ble_eq_true rfl)) dL_act_765 ⟨by show _ ≤ 9; omega, by show _ ≤ 54; omega⟩) hS (fun H locs hP hS => ?_)
  obtain ⟨o1, o2⟩ := no_add (y := nI (q + 1)) (at_no (M := P1) (x := 0) (Or.inr (by rw [hA1.2.1, hz]; decide)))
  rw [o2] at hP
  refine W.eq (g2 := F0 m 768 ls (.int (-5) :: [])) (congrArg (fun z => F0 m 768 ls (.int z :: [])) (by rw [o1]; rfl)) ?_
  refine lv_istore (lv' := [(29, .int (-5)), (28, .int (0 : Int32)), (27, .int (fX7_hairStock P1)), (26, .int (0 : Int32)), (25, .int (nI (q + 1))), (0, .ref (b + 0)), (1, .ref (b + 124)), (2, .int (0 : Int32)), (3, .int (0 : Int32)), (4, .int (0 : Int32)), (5, .int (1 : Int32)), (6, .int ((-5) : Int32))]) hx hb dL_act_768 hl (by decide) rfl (fun ls hl => ?_)
  refine lv_iload hx hb dL_act_770 (lv_at hl 1 rfl) ?_
  refine lv_if_eq (tgt := 805) hx hb dL_act_772 (by decide) (fun c772 => ?_) (fun c772 => absurd rfl c772)
  refine lv_iload hx hb dL_act_805 (lv_at hl 0 rfl) ?_
  refine lv_iload hx hb dL_act_807 (lv_at hl 11 rfl) ?_
  refine lv_icmp_ne (tgt := 824) hx hb dL_act_809 (by decide) (fun c809 => absurd rfl c809) (fun c809 => ?_)
  refine lv_aload_n hx hb dL_act_812 rfl (lv_at hl 5 rfl) ?_
  refine lv_iconst (v := 5) hx hb dL_act_813 (by decide) ?_
  refine W.eq (g2 := F0 m 814 ls (.int (nI 5) :: .ref (b + 0) :: [])) (congrArg (fun z => F0 m 814 ls (.int z :: .ref (b + 0) :: [])) rfl) ?_
  refine xc_i (vx_runSW (As := [.ref (b + 0), .int (nI 5)]) (rest := []) ⟨hx, hb, hml, hown, hts⟩ (c_L_taught l hl0 D cy b n (by omega) P1 (nI 5) hA1.cnt hA1.2.2.2.1) (vx_cwSW 2 hts gL_act_L_taught rfl rfl rfl (by decide +kernel) ⟨Nat.le_of_ble_eq_true rfl, Nat.le_of_ble_eq_true rfl⟩) (xPreS hP hK hX hS) rfl rfl hl.1 rfl (lv_room (Nat.le_of_ble_eq_true rfl)) dL_act_814 ⟨by show _ ≤ 9; omega, by show _ ≤ 54; omega⟩) hS (fun H locs hP hS => ?_)
  obtain ⟨s1, s2, s3⟩ := op_skl hA1 (v := 5) (by decide)
  obtain ⟨R, hR⟩ : ∃ z, z = gX7_setSkill P1 (nI 5) := ⟨_, rfl⟩
  rw [← hR] at hP s3
  refine W.eq (g2 := F0 m 817 ls (.int (fX7_setSkill P1 (nI 5)) :: [])) (congrArg (fun z => F0 m 817 ls (.int z :: [])) (by rw [s1]; rfl)) ?_
  refine lv_if_lt (tgt := 824) hx hb dL_act_817 (by decide) (fun c817 => absurd c817 s2) (fun c817 => ?_)
  refine lv_iconst (v := 1) hx hb dL_act_820 (by decide) ?_
  refine lv_goto (tgt := 825) hx hb dL_act_821 (by decide) ?_
  exact xe_e hx hb hr hlocks hP hS (hpost _ (s3.eqr hc6 hE1)) rfl rfl (by omega) (by omega) dL_act_825
