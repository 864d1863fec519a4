/-! the law's outer loop (laid by a program) -/
set_option maxHeartbeats 4000000 in
set_option maxRecDepth 100000 in
theorem law_331 (l : Launch) (hl0 : l.stackTraces = false) (D : va_G) (cy : Nat → ClassId) (b ba LN : Nat) (xs : Nat → Int32) (aR aH aB aU : Nat) {p : Program} {e : Env} {s : State} {m : MethodId} {below : List Frame} {meth : Method} {c : Code} (hx : p.tables.exec = Jvm.exec) (hb : c.code = cL_law) (hml : c.maxLocals = 11) (hown : s.vm.findClass RL = some m.cls) (hts : ∀ w ∈ wsL_law, w.before #[Value.ref ba] s = true) (hK : va_K D vwCl (tysW cy) s) (hX : SX b s) (hJ : SJ (fr b) s) (hTx : TXs (fr b) (rtx aR aH aB aU) s) (hV : VR aR aH aB aU s) (hXs : va_X ba LN xs s s.heap) (hbl : ba < s.heap.size) (hbs : b = s.heap.size) (hLN : LN ≤ 260) (q : Nat) (hq : q < 2) (c0 : Nat) (Mb : Mem) (hc0 : c0 ≤ 6) (hb1 : Mb 1 1 = nI c0) (hb2 : Mb 1 2 = 0) (hnext : ∀ (M : Mem) (H : Heap) (locs : List Loc) (ls : Array Slot) (cz sz : Nat), OQ M → va_P D vwCl (wL cy b fT M 125) H → va_S (fr b) s.heap H locs → lv_has ls 11 [(4, .int (nI (q + 1))), (3, .int (1 : Int32)), (1, .ref (b + 0)), (2, .ref (b + 124)), (0, .ref ba)] → cz ≤ 130 + 6000 * (q + 1) → sz ≤ 1700 + 40000 * (q + 1) → W p l e room_1 s m #[Value.ref ba] below meth c H locs cz sz (lw_Z below #[Value.ref ba] s) (F0 m 34 ls [])) : ∀ (M : Mem) (H : Heap) (locs : List Loc) (ls : Array Slot) (cz sz : Nat), IU q c0 Mb 14 M → va_P D vwCl (wL cy b fT M 125) H → va_S (fr b) s.heap H locs → lv_has ls 11 [(3, .int (1 : Int32)), (6, .long (sumF Mb)), (4, .int (nI (q))), (1, .ref (b + 0)), (2, .ref (b + 124)), (0, .ref ba)] → cz ≤ 130 + 6000 * q + 100 + 5600 → sz ≤ 1700 + 40000 * q + 3600 + 35000 → W p l e room_1 s m #[Value.ref ba] below meth c H locs cz sz (lw_Z below #[Value.ref ba] s) (F0 m 331 ls []) := by
  intro M H locs ls cz sz hIU hP hS hl hcz hsz
  refine lv_iload_n hx hb dL_law_331 rfl (lv_at hl 0 rfl) ?_
  refine lv_if_eq (tgt := 369) hx hb dL_law_332 (by decide) (fun c332 => absurd c332 (by decide)) (fun c332 => ?_)
  refine lv_aload_n hx hb dL_law_335 rfl (lv_at hl 4 rfl) ?_
  refine xc_i (va_runS (As := [.ref (b + 124)]) (rest := []) ⟨hx, hb, hml, hown, hts⟩ (c_L_next l D cy b 125 (by omega) M ) (va_cwS 1 hts gL_law_L_next rfl rfl rfl (by decide +kernel) ⟨Nat.le_of_ble_eq_true rfl, Nat.le_of_ble_eq_true rfl⟩) (xPreS hP hK hX hS) rfl rfl hl.1 rfl (lv_room (Nat.le_of_ble_eq_true rfl)) dL_law_336 ⟨by show _ ≤ 600086; omega, by show _ ≤ 7301442; omega⟩) hS (fun H locs hP hS => ?_)
  obtain ⟨M3, e3⟩ : ∃ z, z = mU M 124 0 (nxS (M 124 0)) := ⟨_, rfl⟩
  rw [← e3] at hP
  have hE3 : EQR M M3 := by rw [e3]; exact eqr_put _ _ _
  have hU3 := hIU.eqr hq hc0 hE3
  have hO3 := hU3.2.1
  obtain ⟨c3, hA3⟩ := id hU3.1
  obtain ⟨rs1, rs2, rs3, rs4, rs5⟩ := hU3.rest hq hc0 hA3 hb1 hb2
  refine lv_iconst (v := 2) hx hb dL_law_339 (by decide) ?_
  refine lv_irem hx hb dL_law_340 (by decide) ?_
  refine lv_if_ne (tgt := 369) hx hb dL_law_341 (by decide) (fun c341 => ?_) (fun c341 => ?_)
  · refine lv_iinc (v := nI (q + 1)) (lv' := [(4, .int (nI (q + 1))), (3, .int (1 : Int32)), (6, .long (sumF Mb)), (1, .ref (b + 0)), (2, .ref (b + 124)), (0, .ref ba)]) hx hb dL_law_369 hl (k := 2) rfl (ixAdd (a := q) (c := 1) (d := q + 1) rfl rfl (by omega)) (by decide) rfl (fun ls hl => ?_)
    refine lv_goto (tgt := 34) hx hb dL_law_372 (by decide) ?_
    exact hnext M3 H locs ls _ _ hO3 hP hS (lv_sub hl [0, 1, 3, 4, 5] rfl) (by omega) (by omega)
  · refine lv_aload_n hx hb dL_law_344 rfl (lv_at hl 3 rfl) ?_
    refine lv_iload hx hb dL_law_345 (lv_at hl 2 rfl) ?_
    refine xct_i (vx_runV (As := [.int (nI (q))]) (rest := []) ⟨hx, hb, hml, hown, hts⟩ (c_X7_restore l hl0 D cy b 125 (by omega) M3 (nI (q)) hA3.cnt hA3.2.2.2.1 hO3.2.2.2) (cwV 1 hts gL_law_X7_restore rfl rfl rfl (by decide +kernel) ⟨Nat.le_of_ble_eq_true rfl, Nat.le_of_ble_eq_true rfl⟩) (xPreV hP hK hX hS (by omega) (cell7 (by decide)) rfl) rfl rfl hl.1 rfl (lv_room (Nat.le_of_ble_eq_true rfl)) dL_law_347 ⟨by show _ ≤ 600086; omega, by show _ ≤ 7301442; omega⟩) hS (fun E ce qx H locs hE _ _ _ _ _ => absurd rs1 (exn_ne hE)) (fun H locs _ hP hS => ?_)
    obtain ⟨M4, e4⟩ : ∃ z, z = gX7_restore M3 (nI q) := ⟨_, rfl⟩
    rw [← e4] at hP rs3 rs4 rs5
    refine W.eq (g2 := F0 m 350 ls (.int (0 : Int32) :: [])) (congrArg (fun z => F0 m 350 ls (.int z :: [])) rs2) ?_
    refine lv_if_ne (tgt := 367) hx hb dL_law_350 (by decide) (fun c350 => absurd rfl c350) (fun c350 => ?_)
    refine lv_aload_n hx hb dL_law_353 rfl (lv_at hl 3 rfl) ?_
    refine xc_l (va_runS (As := [.ref (b + 0)]) (rest := []) ⟨hx, hb, hml, hown, hts⟩ (c_L_sum l hl0 D cy b 125 (by omega) M4 rs5) (va_cwS 1 hts gL_law_L_sum rfl rfl rfl (by decide +kernel) ⟨Nat.le_of_ble_eq_true rfl, Nat.le_of_ble_eq_true rfl⟩) (xPreS hP hK hX hS) rfl rfl hl.1 rfl (lv_room (Nat.le_of_ble_eq_true rfl)) dL_law_354 ⟨by show _ ≤ 600086; omega, by show _ ≤ 7301442; omega⟩) hS (fun H locs hP hS => ?_)
    refine lv_lload hx hb dL_law_357 (lv_at hl 1 rfl) ?_
    refine W.lcmp hx hb dL_law_359 ?_
    refine W.eq (g2 := F0 m 360 ls (.int (0 : Int32) :: [])) (congrArg (fun z => F0 m 360 ls (.int z :: [])) (by rw [rs3]; exact lg_self _)) ?_
    refine lv_if_ne (tgt := 367) hx hb dL_law_360 (by decide) (fun c360 => absurd rfl c360) (fun c360 => ?_)
    refine lv_iconst (v := 1) hx hb dL_law_363 (by decide) ?_
    refine lv_goto (tgt := 368) hx hb dL_law_364 (by decide) ?_
    refine lv_istore_n (lv' := [(3, .int (1 : Int32)), (6, .long (sumF Mb)), (4, .int (nI (q))), (1, .ref (b + 0)), (2, .ref (b + 124)), (0, .ref ba)]) hx hb dL_law_368 rfl hl (by decide) rfl (fun ls hl => ?_)
    refine lv_iinc (v := nI (q + 1)) (lv' := [(4, .int (nI (q + 1))), (3, .int (1 : Int32)), (6, .long (sumF Mb)), (1, .ref (b + 0)), (2, .ref (b + 124)), (0, .ref ba)]) hx hb dL_law_369 hl (k := 2) rfl (ixAdd (a := q) (c := 1) (d := q + 1) rfl rfl (by omega)) (by decide) rfl (fun ls hl => ?_)
    refine lv_goto (tgt := 34) hx hb dL_law_372 (by decide) ?_
    exact hnext M4 H locs ls _ _ rs4 hP hS (lv_sub hl [0, 1, 3, 4, 5] rfl) (by omega) (by omega)
set_option maxHeartbeats 4000000 in
set_option maxRecDepth 100000 in
theorem law_65 (l : Launch) (hl0 : l.stackTraces = false) (D : va_G) (cy : Nat → ClassId) (b ba LN : Nat) (xs : Nat → Int32) (aR aH aB aU : Nat) {p : Program} {e : Env} {s : State} {m : MethodId} {below : List Frame} {meth : Method} {c : Code} (hx : p.tables.exec = Jvm.exec) (hb : c.code = cL_law) (hml : c.maxLocals = 11) (hown : s.vm.findClass RL = some m.cls) (hts : ∀ w ∈ wsL_law, w.before #[Value.ref ba] s = true) (hK : va_K D vwCl (tysW cy) s) (hX : SX b s) (hJ : SJ (fr b) s) (hTx : TXs (fr b) (rtx aR aH aB aU) s) (hV : VR aR aH aB aU s) (hXs : va_X ba LN xs s s.heap) (hbl : ba < s.heap.size) (hbs : b = s.heap.size) (hLN : LN ≤ 260) (q : Nat) (hq : q < 2) (hnext : ∀ (M : Mem) (H : Heap) (locs : List Loc) (ls : Array Slot) (cz sz : Nat), OQ M → va_P D vwCl (wL cy b fT M 125) H → va_S (fr b) s.heap H locs → lv_has ls 11 [(4, .int (nI (q + 1))), (3, .int (1 : Int32)), (1, .ref (b + 0)), (2, .ref (b + 124)), (0, .ref ba)] → cz ≤ 130 + 6000 * (q + 1) → sz ≤ 1700 + 40000 * (q + 1) → W p l e room_1 s m #[Value.ref ba] below meth c H locs cz sz (lw_Z below #[Value.ref ba] s) (F0 m 34 ls [])) : ∀ (M : Mem) (H : Heap) (locs : List Loc) (ls : Array Slot) (cz sz : Nat), OQ M → va_P D vwCl (wL cy b fT M 125) H → va_S (fr b) s.heap H locs → lv_has ls 11 [(4, .int (nI (q))), (3, .int (1 : Int32)), (1, .ref (b + 0)), (2, .ref (b + 124)), (0, .ref ba)] → cz ≤ 130 + 6000 * q → sz ≤ 1700 + 40000 * q → W p l e room_1 s m #[Value.ref ba] below meth c H locs cz sz (lw_Z below #[Value.ref ba] s) (F0 m 65 ls []) := by
  intro M H locs ls cz sz hO hP hS hl hcz hsz
  refine lv_aload_n hx hb dL_law_65 rfl (lv_at hl 3 rfl) ?_
  refine xc_i (va_runS (As := [.ref (b + 124)]) (rest := []) ⟨hx, hb, hml, hown, hts⟩ (c_L_next l D cy b 125 (by omega) M ) (va_cwS 1 hts gL_law_L_next rfl rfl rfl (by decide +kernel) ⟨Nat.le_of_ble_eq_true rfl, Nat.le_of_ble_eq_true rfl⟩) (xPreS hP hK hX hS) rfl rfl hl.1 rfl (lv_room (Nat.le_of_ble_eq_true rfl)) dL_law_66 ⟨by show _ ≤ 600086; omega, by show _ ≤ 7301442; omega⟩) hS (fun H locs hP hS => ?_)
  obtain ⟨M1, e1⟩ : ∃ z, z = mU M 124 0 (nxS (M 124 0)) := ⟨_, rfl⟩
  rw [← e1] at hP
  have hO1 : OQ M1 := hO.eqr (by rw [e1]; exact eqr_put _ _ _)
  obtain ⟨N, hN, eN⟩ := nx_mod (M 124 0) (k := 7) (by decide) (by decide)
  refine lv_bipush (v := 7) hx hb dL_law_69 (by decide) ?_
  refine lv_irem hx hb dL_law_71 (by decide) ?_
  refine W.eq (g2 := F0 m 72 ls (.int (nI N) :: [])) (congrArg (fun z => F0 m 72 ls (.int z :: [])) eN) ?_
  refine lv_istore (lv' := [(5, .int (nI N)), (4, .int (nI (q))), (3, .int (1 : Int32)), (1, .ref (b + 0)), (2, .ref (b + 124)), (0, .ref ba)]) hx hb dL_law_72 hl (by decide) rfl (fun ls hl => ?_)
  refine lv_aload_n hx hb dL_law_74 rfl (lv_at hl 3 rfl) ?_
  refine lv_iload hx hb dL_law_75 (lv_at hl 0 rfl) ?_
  refine lv_aload_n hx hb dL_law_77 rfl (lv_at hl 4 rfl) ?_
  have hP0 := hP 124 _ (wL_get (by omega))
  have hzr : b + 124 < H.size := hP0.lt
  have hPr : va_P D vwCl ((b + 124, .inl (cy 1, 1, .inl (M1 124))) :: []) H := fun k x hk => by
    have hk0 : k < 1 := (List.getElem?_eq_some_iff.mp hk).1
    obtain rfl : k = 0 := by omega
    cases hk
    have h0 := hP0
    rw [cell11 (by decide)] at h0
    exact h0
  have hDr : va_D (fun x => x = b + 124 ∨ H.size ≤ x) ((b + 124, .inl (cy 1, 1, .inl (M1 124))) :: []) := ⟨fun i j p1 q1 hi hj _ => by
    have h1 : i < 1 := (List.getElem?_eq_some_iff.mp hi).1
    have h2 : j < 1 := (List.getElem?_eq_some_iff.mp hj).1
    omega, fun k x hk => by
    have hk0 : k < 1 := (List.getElem?_eq_some_iff.mp hk).1
    obtain rfl : k = 0 := by omega
    cases hk
    exact Or.inl rfl⟩
  have hBA : ∀ x, (x = b + 124 ∨ H.size ≤ x) → fr b x := fun x hx => by show b ≤ x; omega
  have hps : PreS s H (va_Pc [.int (nI N), .ref (b + 124)] (fun U => (va_P D vwCl ((b + 124, .inl (cy 1, 1, .inl (M1 124))) :: []) U.heap ∧ va_D (fun x => x = b + 124 ∨ H.size ≤ x) ((b + 124, .inl (cy 1, 1, .inl (M1 124))) :: [])) ∧ va_K D vwCl (tysW cy) U ∧ SJ (fun x => x = b + 124 ∨ H.size ≤ x) U ∧ TXs (fun x => x = b + 124 ∨ H.size ≤ x) (rtx aR aH aB aU) U ∧ VR aR aH aB aU U)) [.int (nI N), .ref (b + 124)] :=
    ⟨fun a U g mk w => ⟨w.1, w.2.1, va_K.moved (u := U) (U := U.calling g mk a) (Vm.Alike.refl U.vm) w.2.2.1, w.2.2.2.1.calling, w.2.2.2.2.1.calling, w.2.2.2.2.2.calling⟩, fun U hU hW => ⟨rfl, ⟨by rw [hU]; exact hPr, hDr⟩, va_K.moved hW.alike hK, hJ.at hU hS hW hBA (fun x hx => Or.inr hx), (hTx.moved hU hS hW).nar hBA, hV.moved hW⟩⟩
  refine va_callr (va_runS (As := [.int (nI N), .ref (b + 124)]) (rest := [.ref (b + 0)]) ⟨hx, hb, hml, hown, hts⟩ (c_L_room l D cy (fun x => x = b + 124 ∨ H.size ≤ x) [] (b + 124) aR aH aB aU N (M1 124) (by omega)) (va_cwS 2 hts gL_law_L_room rfl rfl rfl (by decide +kernel) ⟨Nat.le_of_ble_eq_true rfl, Nat.le_of_ble_eq_true rfl⟩) hps rfl rfl hl.1 rfl (lv_room (Nat.le_of_ble_eq_true rfl)) dL_law_78 ⟨by show _ ≤ 600086; omega, by show _ ≤ 7301442; omega⟩) hS (fun x _ h => hBA x h) (fun x h => hBA x h) (fun u st t H1 locs1 ht _ hu hB hsz1 hk hS1 => ?_)
  obtain ⟨L, g2, arr, f2⟩ := u
  obtain ⟨hRT, hL74, hJF, hJL⟩ := hu
  obtain ⟨hB1, hB2⟩ := hB
  rw [ht] at hB1
  dsimp only at hRT hL74 hJF hJL hB1 hB2
  have a0 := hB1 0 _ rfl
  have a1 := hB1 1 _ rfl
  have a2 := hB1 2 _ rfl
  have s0 : st < H1.size := a0.lt
  have s1 : arr < H1.size := a1.lt
  have n0 : H.size ≤ st := (hB2.2 0 _ rfl).resolve_left (fun h => absurd (hB2.1 0 2 _ _ rfl rfl h) (by decide))
  have n1 : H.size ≤ arr := (hB2.2 1 _ rfl).resolve_left (fun h => absurd (hB2.1 1 2 _ _ rfl rfl h) (by decide))
  obtain ⟨M2, eM2⟩ : ∃ z, z = setr M1 124 g2 := ⟨_, rfl⟩
  have hP1 : va_P D vwCl (wL cy b fT M2 125) H1 := by rw [eM2]; exact br_world hP hk a2
  have hE2 : EQR M1 M2 := fun x _ h4 => by rw [eM2]; exact setr_ne _ _ h4
  have hO2 := hO1.eqr hE2
  have nz : ∀ x, H.size ≤ x → x < H1.size → ¬ exz b 125 H1.size x := fun x h1 h2 h3 => by
    rcases h3 with h3 | h3
    · have h4 : x < b + 125 := h3.2
      omega
    · omega
  have hTXH : TXH (exz b 125 H1.size) st L s H1 := br_text hts inlJ0 hK (by omega) a0 a1 hJL (nz st n0 s0) (nz arr n1 s1)
  have hXA := hRT.asc
  have hfz : ∀ x, exz b 125 H1.size x → fr b x := fun x h => h.elim (fun w => w.1) (fun w => by show b ≤ x; omega)
  have hps2 : PreS s H1 (CPY D cy b M2 H1.size [(st, L)] [.ref (b + 0), .ref st]) [.ref (b + 0), .ref st] := ⟨CPYb, fun U hU hW => ⟨rfl, by rw [hU]; exact hP1, va_K.moved hW.alike hK, ⟨hX.moved hU hS1 hW, hJ.at hU hS1 hW hfz (fun x hx => Or.inr hx)⟩, fun x hx => by
    rw [List.mem_singleton.mp hx]
    exact hTXH.tx hU hW⟩⟩
  refine va_calli (vx_runSW (As := [.ref (b + 0), .ref st]) (rest := []) ⟨hx, hb, hml, hown, hts⟩ (c_L_load l hl0 D cy b M2 H1.size st L (by omega) hL74 hXA hO2.1 hO2.2.1 (fun Mq kq h1 h2 h3 => (load_ok (by omega) hRT hL74 h1 h2 h3).1)) (vx_cwSW 2 hts gL_law_L_load rfl rfl rfl (by decide +kernel) ⟨Nat.le_of_ble_eq_true rfl, Nat.le_of_ble_eq_true rfl⟩) hps2 rfl rfl hl.1 rfl (lv_room (Nat.le_of_ble_eq_true rfl)) dL_law_81 ⟨by show _ ≤ 600086; omega, by show _ ≤ 7301442; omega⟩) hS1 (fun _ _ h => h) (fun _ h => h) (fun x Ml t2 H locs ht2 _ hp hB3 _ _ hS => ?_)
  obtain ⟨Mq, kq, hbuf, hk1, hk2, rfl, rfl⟩ := hp
  obtain ⟨lo1, lo2, hL⟩ := load_ok (show N ≤ 6 by omega) hRT hL74 hbuf hk1 hk2
  obtain ⟨Ml, eMl⟩ : ∃ z, z = gX7_load Mq (nI L.length) := ⟨_, rfl⟩
  rw [← eMl] at hL hB3
  have hP : va_P D vwCl (wL cy b fT Ml 125) H := by rw [← ht2]; exact hB3
  obtain ⟨sv1, sv2, -⟩ := save_ok hq hL.1 hL.2.1 hL.2.2.1
  obtain ⟨hIU, hb1, hb2⟩ := IU.first hq hO2 hL
  refine W.eq (g2 := F0 m 84 ls (.int (nI N) :: [])) (congrArg (fun z => F0 m 84 ls (.int z :: [])) lo2) ?_
  refine lv_iload hx hb dL_law_84 (lv_at hl 0 rfl) ?_
  refine lv_icmp_ne (tgt := 102) hx hb dL_law_86 (by decide) (fun c86 => absurd rfl c86) (fun c86 => ?_)
  refine lv_aload_n hx hb dL_law_89 rfl (lv_at hl 3 rfl) ?_
  refine lv_iload hx hb dL_law_90 (lv_at hl 1 rfl) ?_
  refine xct_i (vx_runV (As := [.int (nI (q))]) (rest := []) ⟨hx, hb, hml, hown, hts⟩ (c_X7_save l hl0 D cy b 125 (by omega) Ml (nI (q)) ⟨N, by omega, hL.2.1⟩) (cwV 1 hts gL_law_X7_save rfl rfl rfl (by decide +kernel) ⟨Nat.le_of_ble_eq_true rfl, Nat.le_of_ble_eq_true rfl⟩) (xPreV hP hK hX hS (by omega) (cell7 (by decide)) rfl) rfl rfl hl.1 rfl (lv_room (Nat.le_of_ble_eq_true rfl)) dL_law_92 ⟨by show _ ≤ 600086; omega, by show _ ≤ 7301442; omega⟩) hS (fun E ce qx H locs hE _ _ _ _ _ => absurd sv1 (exn_ne hE)) (fun H locs _ hP hS => ?_)
  obtain ⟨Mb, eMb⟩ : ∃ z, z = gX7_save Ml (nI q) := ⟨_, rfl⟩
  rw [← eMb] at hP hIU hb1 hb2
  refine W.eq (g2 := F0 m 95 ls (.int (0 : Int32) :: [])) (congrArg (fun z => F0 m 95 ls (.int z :: [])) sv2) ?_
  refine lv_if_ne (tgt := 102) hx hb dL_law_95 (by decide) (fun c95 => absurd rfl c95) (fun c95 => ?_)
  refine lv_iconst (v := 1) hx hb dL_law_98 (by decide) ?_
  refine lv_goto (tgt := 103) hx hb dL_law_99 (by decide) ?_
  refine lv_istore_n (lv' := [(3, .int (1 : Int32)), (5, .int (nI N)), (4, .int (nI (q))), (1, .ref (b + 0)), (2, .ref (b + 124)), (0, .ref ba)]) hx hb dL_law_103 rfl hl (by decide) rfl (fun ls hl => ?_)
  refine lv_aload_n hx hb dL_law_104 rfl (lv_at hl 3 rfl) ?_
  refine xc_l (va_runS (As := [.ref (b + 0)]) (rest := []) ⟨hx, hb, hml, hown, hts⟩ (c_L_sum l hl0 D cy b 125 (by omega) Mb ⟨N, by omega, hb1⟩) (va_cwS 1 hts gL_law_L_sum rfl rfl rfl (by decide +kernel) ⟨Nat.le_of_ble_eq_true rfl, Nat.le_of_ble_eq_true rfl⟩) (xPreS hP hK hX hS) rfl rfl hl.1 rfl (lv_room (Nat.le_of_ble_eq_true rfl)) dL_law_105 ⟨by show _ ≤ 600086; omega, by show _ ≤ 7301442; omega⟩) hS (fun H locs hP hS => ?_)
  refine lv_lstore (lv' := [(6, .long (sumF Mb)), (3, .int (1 : Int32)), (5, .int (nI N)), (4, .int (nI (q))), (1, .ref (b + 0)), (2, .ref (b + 124)), (0, .ref ba)]) hx hb dL_law_108 hl (by decide) rfl (fun ls hl => ?_)
  refine lv_iconst (v := 0) hx hb dL_law_110 (by decide) ?_
  refine lv_istore (lv' := [(8, .int (0 : Int32)), (6, .long (sumF Mb)), (3, .int (1 : Int32)), (5, .int (nI N)), (4, .int (nI (q))), (1, .ref (b + 0)), (2, .ref (b + 124)), (0, .ref ba)]) hx hb dL_law_111 hl (by decide) rfl (fun ls hl => ?_)
  exact law_u l hl0 D cy b ba LN xs aR aH aB aU hx hb hml hown hts hK hX hJ hTx hV hXs hbl hbs hLN q N Mb hq (by omega) (130 + 6000 * q + 100) (1700 + 40000 * q + 3600) (by omega) (by omega) (law_331 l hl0 D cy b ba LN xs aR aH aB aU hx hb hml hown hts hK hX hJ hTx hV hXs hbl hbs hLN q hq N Mb (by omega) hb1 hb2 hnext) 14 0 rfl Mb H locs ls _ _ hIU hP hS (lv_sub hl [0, 2, 1, 4, 5, 6, 7] rfl) (by omega) (by omega)
set_option maxHeartbeats 4000000 in
set_option maxRecDepth 100000 in
theorem law_34 (l : Launch) (hl0 : l.stackTraces = false) (D : va_G) (cy : Nat → ClassId) (b ba LN : Nat) (xs : Nat → Int32) (aR aH aB aU : Nat) {p : Program} {e : Env} {s : State} {m : MethodId} {below : List Frame} {meth : Method} {c : Code} (hx : p.tables.exec = Jvm.exec) (hb : c.code = cL_law) (hml : c.maxLocals = 11) (hown : s.vm.findClass RL = some m.cls) (hts : ∀ w ∈ wsL_law, w.before #[Value.ref ba] s = true) (hK : va_K D vwCl (tysW cy) s) (hX : SX b s) (hJ : SJ (fr b) s) (hTx : TXs (fr b) (rtx aR aH aB aU) s) (hV : VR aR aH aB aU s) (hXs : va_X ba LN xs s s.heap) (hbl : ba < s.heap.size) (hbs : b = s.heap.size) (hLN : LN ≤ 260) (hfin : ∀ (H : Heap) (locs : List Loc) (ls : Array Slot) (cz sz : Nat), va_S (fr b) s.heap H locs → cz ≤ 600086 → sz ≤ 7301442 → W p l e room_1 s m #[Value.ref ba] below meth c H locs cz sz (lw_Z below #[Value.ref ba] s) (F0 m 376 ls (.int 1 :: []))) : ∀ (d q : Nat), q + d = 2 → ∀ (M : Mem) (H : Heap) (locs : List Loc) (ls : Array Slot) (cz sz : Nat), OQ M → va_P D vwCl (wL cy b fT M 125) H → va_S (fr b) s.heap H locs → lv_has ls 11 [(4, .int (nI (q))), (3, .int (1 : Int32)), (1, .ref (b + 0)), (2, .ref (b + 124)), (0, .ref ba)] → cz ≤ 130 + 6000 * q → sz ≤ 1700 + 40000 * q → W p l e room_1 s m #[Value.ref ba] below meth c H locs cz sz (lw_Z below #[Value.ref ba] s) (F0 m 34 ls []) := by
  have hbA : ¬ fr b ba := fun h => by
    have h : b ≤ ba := h
    omega
  intro d
  induction d with
  | zero =>
    intro q hq M H locs ls cz sz hO hP hS hl hcz hsz
    obtain rfl : q = 2 := by omega
    refine lv_iload hx hb dL_law_34 (lv_at hl 0 rfl) ?_
    refine lv_iconst (v := 2) hx hb dL_law_36 (by decide) ?_
    refine lv_icmp_ge (tgt := 375) hx hb dL_law_37 (by decide) (fun _ => ?_) (fun h => absurd (by decide) h)
    refine lv_iload_n hx hb dL_law_375 rfl (lv_at hl 1 rfl) ?_
    exact hfin H locs ls cz sz hS (by omega) (by omega)
  | succ d ih =>
    intro q hq M H locs ls cz sz hO hP hS hl hcz hsz
    have hq2 : q < 2 := by omega
    have k63 : ∀ v : Int32, W p l e room_1 s m #[Value.ref ba] below meth c H locs cz sz (lw_Z below #[Value.ref ba] s) (F0 m 63 ls (.int v :: .int (M 124 0) :: .int 0 :: .ref (b + 124) :: [])) := by
      intro v
      refine lv_ixor hx hb dL_law_63 ?_
      refine xis (j := 0) (x := M 124 0 ^^^ v) hx hb hK hP hS (by omega) (by decide) (ixIn (a := 0) rfl (by decide) (by decide)) rfl dL_law_64 (fun H locs hP hS => ?_)
      exact law_65 l hl0 D cy b ba LN xs aR aH aB aU hx hb hml hown hts hK hX hJ hTx hV hXs hbl hbs hLN q hq2 (fun M H locs ls cz sz h1 h2 h3 h4 h5 h6 => ih (q + 1) (by omega) M H locs ls cz sz h1 h2 h3 h4 h5 h6) _ H locs ls cz sz (hO.eqr (eqr_put M 0 _)) hP hS hl hcz hsz
    refine lv_iload hx hb dL_law_34 (lv_at hl 0 rfl) ?_
    refine lv_iconst (v := 2) hx hb dL_law_36 (by decide) ?_
    refine lv_icmp_ge (tgt := 375) hx hb dL_law_37 (by decide) (fun h => absurd h (by rw [show (2 : Int32) = nI 2 from rfl, nI_leI (by omega) (by omega)]; omega)) (fun _ => ?_)
    refine lv_iload_n hx hb dL_law_40 rfl (lv_at hl 1 rfl) ?_
    refine lv_if_eq (tgt := 375) hx hb dL_law_41 (by decide) (fun h => absurd h (by decide)) (fun _ => ?_)
    refine lv_aload_n hx hb dL_law_44 rfl (lv_at hl 3 rfl) ?_
    refine lv_iconst (v := 0) hx hb dL_law_45 (by decide) ?_
    refine lv_dup2_11 hx hb dL_law_46 rfl rfl ?_
    refine xil (j := 0) hx hb hK hP (by omega) (by decide) (ixIn (a := 0) rfl (by decide) (by decide)) rfl dL_law_47 ?_
    refine lv_iload hx hb dL_law_48 (lv_at hl 0 rfl) ?_
    refine lv_aload_n hx hb dL_law_50 rfl (lv_at hl 4 rfl) ?_
    refine va_slen hx hb hXs hbl hbA hS dL_law_51 ?_
    refine lv_icmp_ge (tgt := 62) hx hb dL_law_52 (by decide) (fun c52 => ?_) (fun c52 => ?_)
    · refine lv_iconst (v := 0) hx hb dL_law_62 (by decide) ?_
      exact k63 0
    · refine lv_aload_n hx hb dL_law_55 rfl (lv_at hl 4 rfl) ?_
      refine lv_iload hx hb dL_law_56 (lv_at hl 0 rfl) ?_
      refine va_sld hx hb hXs hbl hbA hS (vp_in_nI (by
        have h9 : ¬ nI LN ≤ nI q := c52
        rw [nI_leI (by omega) (by omega)] at h9
        omega) (by omega)) dL_law_58 ?_
      refine lv_goto (tgt := 63) hx hb dL_law_59 (by decide) ?_
      exact k63 _
