def fX7_putInBox (M : Mem) (x : Int32) (y : Int32) : Int32 := if (fX7_isSalt M y) = 0 then 0 else (if (fX1_isBoxed M (1 + 1 + 1 + x.toNatClampNeg)) = 0 then (fX4_surrounding (mU (gX0_record M 1) (1 + 1 + 1 + x.toNatClampNeg) 8 y) 1 (1 + 1 + 1 + x.toNatClampNeg)) else 0)
def gX7_putInBox (M : Mem) (x : Int32) (y : Int32) : Mem := if (tX7_instrumentAt M x) = 0 then (if (fX7_isSalt M y) = 0 then M else (if (fX1_isBoxed M (1 + 1 + 1 + x.toNatClampNeg)) = 0 then (mU (gX0_record M 1) (1 + 1 + 1 + x.toNatClampNeg) 8 y) else M)) else M
def tX7_putInBox (M : Mem) (x : Int32) (y : Int32) : Nat := if (tX7_instrumentAt M x) = 0 then (if (fX7_isSalt M y) = 0 then 2 else (if (fX1_isBoxed M (1 + 1 + 1 + x.toNatClampNeg)) = 0 then 0 else 3)) else (tX7_instrumentAt M x)
set_option maxHeartbeats 4000000 in
set_option maxRecDepth 100000 in
theorem c_X7_putInBox (l : Launch) (hl0 : l.stackTraces = false) (D : va_G) (cy : Nat → ClassId) (b n : Nat) (hn : 124 ≤ n) (M : Mem) (x : Int32) (y : Int32) (hcnt : CNT M 1) (hnx : UB (M 20 1) 9) : vx_Met l yX7_putInBox wsX7_putInBox ({ frames := 7, cells := 2, slots := 12, locals := 112 } : Room) (CP D cy b n fT M [.ref (b + 0), .int x, .int y]) (CTi D cy b n fT (tX7_putInBox M x y) (fX7_putInBox M x y) (gX7_putInBox M x y)) (CX D cy b n fT (tX7_putInBox M x y) (gX7_putInBox M x y)) 2 12 (fr b) := by
  refine vx_ofW (cc := cX7_putInBox) (maxL := 4) (ret := (some .int)) (by decide) rfl ?_
  intro p e s m args below meth c s₁ B hml hout hv
  obtain ⟨rfl, hP, hK, hX⟩ := hv
  have hx := B.exec
  have hb := B.bytes
  have hr := B.returns
  have hts := atoms_spec (ws := wsX7_putInBox) B.pre
  have hown : s.vm.findClass RX7 = some m.cls := findClass_of_methodNamed B.named
  have hlocks := B.notSynchronized
  have lk0 := hts (.fieldLink RX7 26 "HygrometerRoom" "history" "LHygrometerRoom$History;") (by decide +kernel)
  have lk1 := hts (.fieldLink RX7 10 "HygrometerRoom" "room" "LHygrometerRoom$Room;") (by decide +kernel)
  have lk2 := hts (.fieldLink RX7 74 "HygrometerRoom$Instrument" "box" "I") (by decide +kernel)
  have lk3 := hts (.classLink RX7 86 "java/lang/IllegalStateException") (by decide +kernel)
  have lk4 := hts (.initialized "java/lang/IllegalStateException") (by decide +kernel)
  have lk5 := hts (.classLink RX7 107 "java/lang/IllegalArgumentException") (by decide +kernel)
  have lk6 := hts (.initialized "java/lang/IllegalArgumentException") (by decide +kernel)
  have at90 : ∀ w ∈ (vx_atS RX7 90 "java/lang/IllegalStateException" ["java/lang/RuntimeException", "java/lang/Exception"]).filter goodWord, w ∈ wsX7_putInBox := by decide +kernel
  have at111 : ∀ w ∈ (vx_atS RX7 111 "java/lang/IllegalArgumentException" ["java/lang/RuntimeException", "java/lang/Exception"]).filter goodWord, w ∈ wsX7_putInBox := by decide +kernel
  have inc1 : ∀ w ∈ u_ws RX1 TX1 9, w ∈ wsX7_putInBox := by decide +kernel
  have inc7 : ∀ w ∈ u_ws RX7 TX7 6, w ∈ wsX7_putInBox := by decide +kernel
  have hS : va_S (fr b) s.heap s.heap [] := va_S.rf
  have hl := lv_entry ([.ref (b + 0), .int x, .int y]) (n := 4) (Nat.le_of_ble_eq_true rfl)
  rw [lg_entry_eq]
  generalize (lg_sl ([.ref (b + 0), .int x, .int y]) ++ List.replicate (4 - (lg_sl ([.ref (b + 0), .int x, .int y])).length) Slot.unset).toArray = ls at hl ⊢
  have hl : lv_has ls 4 [(0, .ref (b + 0)), (1, .int x), (2, .int y)] := hl
  refine lv_aload_n hx hb dX7_putInBox_0 rfl (lv_at hl 0 rfl) ?_
  refine lv_iload_n hx hb dX7_putInBox_1 rfl (lv_at hl 1 rfl) ?_
  refine xct_q (vx_runV (As := [.int x]) (rest := []) ⟨hx, hb, hml, hown, hts⟩ (c_X7_instrumentAt l hl0 D cy b n hn M x hcnt) (cwV 1 hts gX7_putInBox_X7_instrumentAt rfl rfl rfl (by decide +kernel) ⟨Nat.le_of_ble_eq_true rfl, Nat.le_of_ble_eq_true rfl⟩) (xPreV hP hK hX hS (by omega) (cell7 (by decide)) rfl) rfl rfl hl.1 rfl (lv_room (Nat.le_of_ble_eq_true rfl)) dX7_putInBox_2 ⟨Nat.le_of_ble_eq_true rfl, Nat.le_of_ble_eq_true rfl⟩) hS (fun E ce q H locs hE hP hS hc hv hcl => xpass hout hlocks hc hv hcl hP hS rfl (by rw [gX7_putInBox, if_neg (exn_ne hE)] <;> rfl) (by rw [tX7_putInBox, if_neg (exn_ne hE)]; exact hE) (Nat.le_of_ble_eq_true rfl) (Nat.le_of_ble_eq_true rfl)) (fun H locs hT2 hP hS => ?_)
  refine W.eq (g2 := F0 m 5 ls (.ref (b + (1 + 1 + 1 + x.toNatClampNeg)) :: [])) rfl ?_
  refine lv_astore_n (lv' := [(3, .ref (b + (1 + 1 + 1 + x.toNatClampNeg))), (0, .ref (b + 0)), (1, .int x), (2, .int y)]) hx hb dX7_putInBox_5 rfl hl (by decide) rfl (fun ls hl => ?_)
  refine lv_iload_n hx hb dX7_putInBox_6 rfl (lv_at hl 3 rfl) ?_
  refine xc_i (va_runS (As := [.int y]) (rest := []) ⟨hx, hb, hml, hown, hts⟩ (c_X7_isSalt l D cy b n hn M y) (va_cwS 1 hts gX7_putInBox_X7_isSalt rfl rfl rfl (by decide +kernel) ⟨Nat.le_of_ble_eq_true rfl, Nat.le_of_ble_eq_true rfl⟩) (xPreS hP hK hX hS) rfl rfl hl.1 rfl (lv_room (Nat.le_of_ble_eq_true rfl)) dX7_putInBox_7 ⟨Nat.le_of_ble_eq_true rfl, Nat.le_of_ble_eq_true rfl⟩) hS (fun H locs hP hS => ?_)
  refine lv_if_ne (tgt := 23) hx hb dX7_putInBox_10 (by decide) (fun c10 => ?_) (fun c10 => ?_)
  · refine lv_aload_n hx hb dX7_putInBox_23 rfl (lv_at hl 0 rfl) ?_
    refine xc_i (va_runV (As := []) (rest := []) ⟨hx, hb, hml, hown, hts⟩ (c_X1_isBoxed l D cy b n hn M (1 + 1 + 1 + x.toNatClampNeg) (iat_kd hcnt hT2)) (cwV 0 hts gX7_putInBox_X1_isBoxed rfl rfl rfl (by decide +kernel) ⟨Nat.le_of_ble_eq_true rfl, Nat.le_of_ble_eq_true rfl⟩) (xPreV hP hK hX hS (kI_lt (iat_kd hcnt hT2) hn) (cell1 (iat_kd hcnt hT2)) rfl) rfl rfl hl.1 rfl (lv_room (Nat.le_of_ble_eq_true rfl)) dX7_putInBox_24 ⟨Nat.le_of_ble_eq_true rfl, Nat.le_of_ble_eq_true rfl⟩) hS (fun H locs hP hS => ?_)
    refine lv_if_eq (tgt := 41) hx hb dX7_putInBox_27 (by decide) (fun c27 => ?_) (fun c27 => ?_)
    · refine lv_aload_n hx hb dX7_putInBox_41 rfl (lv_at hl 1 rfl) ?_
      refine xg (C := RX7) (T := TX7) (N := 6) (v := .ref (b + 20)) hx hb hts inc7 hown hK hP (by omega) (cell7 (by decide)) rfl 2 (by decide) lk0 (fun _ h => h) rfl dX7_putInBox_42 ?_
      refine lv_aload_n hx hb dX7_putInBox_45 rfl (lv_at hl 1 rfl) ?_
      refine xg (C := RX7) (T := TX7) (N := 6) (v := .ref (b + 1)) hx hb hts inc7 hown hK hP (by omega) (cell7 (by decide)) rfl 0 (by decide) lk1 (fun _ h => h) rfl dX7_putInBox_46 ?_
      refine xc_v (va_runV (As := [.ref (b + 1)]) (rest := []) ⟨hx, hb, hml, hown, hts⟩ (c_X0_record l D cy b n hn M 1 (by decide) hnx hcnt) (cwV 1 hts gX7_putInBox_X0_record rfl rfl rfl (by decide +kernel) ⟨Nat.le_of_ble_eq_true rfl, Nat.le_of_ble_eq_true rfl⟩) (xPreV hP hK hX hS (by omega) (cell0 (by decide)) rfl) rfl rfl hl.1 rfl (lv_room (Nat.le_of_ble_eq_true rfl)) dX7_putInBox_49 ⟨Nat.le_of_ble_eq_true rfl, Nat.le_of_ble_eq_true rfl⟩) hS (fun H locs hP hS => ?_)
      refine lv_aload_n hx hb dX7_putInBox_52 rfl (lv_at hl 0 rfl) ?_
      refine lv_iload_n hx hb dX7_putInBox_53 rfl (lv_at hl 3 rfl) ?_
      refine xp (C := RX1) (T := TX1) (N := 9) (ci := 1) (ty := .int) (x := y) hx hb hts inc1 tyX1 tyX1_ok nmX1 hown hK hP hS (kI_lt (iat_kd hcnt hT2) hn) (fun _ => cell1 (iat_kd hcnt hT2)) rfl 8 (by decide) rfl lk2 (fun _ h => h) rfl (tyX1_ok 8 (by decide)) rfl rfl (Nat.le_of_ble_eq_true rfl) dX7_putInBox_54 (fun H locs hP hS => ?_)
      refine lv_aload_n hx hb dX7_putInBox_57 rfl (lv_at hl 1 rfl) ?_
      refine xg (C := RX7) (T := TX7) (N := 6) (v := .ref (b + 1)) hx hb hts inc7 hown hK hP (by omega) (cell7 (by decide)) rfl 0 (by decide) lk1 (fun _ h => h) rfl dX7_putInBox_58 ?_
      refine lv_aload_n hx hb dX7_putInBox_61 rfl (lv_at hl 0 rfl) ?_
      refine xc_i (va_runV (As := [.ref (b + (1 + 1 + 1 + x.toNatClampNeg))]) (rest := []) ⟨hx, hb, hml, hown, hts⟩ (c_X4_surrounding l D cy b n hn (mU (gX0_record M 1) (1 + 1 + 1 + x.toNatClampNeg) 8 y) 1 (1 + 1 + 1 + x.toNatClampNeg) (by decide) (iat_kd hcnt hT2)) (cwV 1 hts gX7_putInBox_X4_surrounding rfl rfl rfl (by decide +kernel) ⟨Nat.le_of_ble_eq_true rfl, Nat.le_of_ble_eq_true rfl⟩) (xPreV hP hK hX hS (by omega) (cell4 (by decide)) rfl) rfl rfl hl.1 rfl (lv_room (Nat.le_of_ble_eq_true rfl)) dX7_putInBox_62 ⟨Nat.le_of_ble_eq_true rfl, Nat.le_of_ble_eq_true rfl⟩) hS (fun H locs hP hS => ?_)
      exact xt_i hx hb hr hlocks hP hS rfl (by rw [tX7_putInBox, if_pos hT2, if_neg c10, if_pos c27] <;> rfl) (by rw [gX7_putInBox, if_pos hT2, if_neg c10, if_pos c27] <;> rfl) (by rw [fX7_putInBox, if_neg c10, if_pos c27] <;> rfl) (by unfold fX4_surrounding; (repeat' split) <;> rfl) (Nat.le_of_ble_eq_true rfl) (Nat.le_of_ble_eq_true rfl) dX7_putInBox_65
    · exact xthW (cls := "java/lang/IllegalStateException") (text := "the instrument is in a box") hx hb hl0 hown hX (by decide +kernel) (by decide +kernel) (by decide +kernel) lk3 lk4 (fun w h => hts w (at90 w h)) (by decide +kernel) (by decide +kernel) hP hS rfl (by rw [gX7_putInBox, if_pos hT2, if_neg c10, if_neg c27] <;> rfl) (by rw [tX7_putInBox, if_pos hT2, if_neg c10, if_neg c27]; exact Or.inr (Or.inr ⟨rfl, rfl⟩)) (hl.1.trans hml.symm) dX7_putInBox_30 dX7_putInBox_33 dX7_putInBox_34 dX7_putInBox_37 dX7_putInBox_40 hout (Nat.le_of_ble_eq_true rfl) (Nat.le_of_ble_eq_true rfl) (Nat.le_of_ble_eq_true rfl) (Nat.le_of_ble_eq_true rfl) hlocks (Nat.le_of_ble_eq_true rfl) (Nat.le_of_ble_eq_true rfl)
  · exact xth (cls := "java/lang/IllegalArgumentException") (text := "no such salt") hx hb hl0 hown hX (by decide +kernel) (by decide +kernel) (by decide +kernel) lk5 lk6 (fun w h => hts w (at111 w h)) (by decide +kernel) (by decide +kernel) hP hS rfl (by rw [gX7_putInBox, if_pos hT2, if_pos c10] <;> rfl) (by rw [tX7_putInBox, if_pos hT2, if_pos c10]; exact Or.inr (Or.inl ⟨rfl, rfl⟩)) (hl.1.trans hml.symm) dX7_putInBox_13 dX7_putInBox_16 dX7_putInBox_17 dX7_putInBox_19 dX7_putInBox_22 hout (Nat.le_of_ble_eq_true rfl) (Nat.le_of_ble_eq_true rfl) (Nat.le_of_ble_eq_true rfl) (Nat.le_of_ble_eq_true rfl) hlocks (Nat.le_of_ble_eq_true rfl) (Nat.le_of_ble_eq_true rfl)
def fX7_takeOut (M : Mem) (x : Int32) : Int32 := if (fX1_isBoxed M (1 + 1 + 1 + x.toNatClampNeg)) = 0 then 0 else ((gX0_record M 1) (1 + 1 + 1 + x.toNatClampNeg) 8)
def gX7_takeOut (M : Mem) (x : Int32) : Mem := if (tX7_instrumentAt M x) = 0 then (if (fX1_isBoxed M (1 + 1 + 1 + x.toNatClampNeg)) = 0 then M else (mU (gX0_record M 1) (1 + 1 + 1 + x.toNatClampNeg) 8 ((-1) : Int32))) else M
def tX7_takeOut (M : Mem) (x : Int32) : Nat := if (tX7_instrumentAt M x) = 0 then (if (fX1_isBoxed M (1 + 1 + 1 + x.toNatClampNeg)) = 0 then 3 else 0) else (tX7_instrumentAt M x)
set_option maxHeartbeats 4000000 in
set_option maxRecDepth 100000 in
theorem c_X7_takeOut (l : Launch) (hl0 : l.stackTraces = false) (D : va_G) (cy : Nat → ClassId) (b n : Nat) (hn : 124 ≤ n) (M : Mem) (x : Int32) (hcnt : CNT M 1) (hnx : UB (M 20 1) 9) : vx_Met l yX7_takeOut wsX7_takeOut ({ frames := 7, cells := 2, slots := 12, locals := 112 } : Room) (CP D cy b n fT M [.ref (b + 0), .int x]) (CTi D cy b n fT (tX7_takeOut M x) (fX7_takeOut M x) (gX7_takeOut M x)) (CX D cy b n fT (tX7_takeOut M x) (gX7_takeOut M x)) 2 12 (fr b) := by
  refine vx_ofW (cc := cX7_takeOut) (maxL := 4) (ret := (some .int)) (by decide) rfl ?_
  intro p e s m args below meth c s₁ B hml hout hv
  obtain ⟨rfl, hP, hK, hX⟩ := hv
  have hx := B.exec
  have hb := B.bytes
  have hr := B.returns
  have hts := atoms_spec (ws := wsX7_takeOut) B.pre
  have hown : s.vm.findClass RX7 = some m.cls := findClass_of_methodNamed B.named
  have hlocks := B.notSynchronized
  have lk0 := hts (.fieldLink RX7 26 "HygrometerRoom" "history" "LHygrometerRoom$History;") (by decide +kernel)
  have lk1 := hts (.fieldLink RX7 10 "HygrometerRoom" "room" "LHygrometerRoom$Room;") (by decide +kernel)
  have lk2 := hts (.fieldLink RX7 74 "HygrometerRoom$Instrument" "box" "I") (by decide +kernel)
  have lk3 := hts (.classLink RX7 86 "java/lang/IllegalStateException") (by decide +kernel)
  have lk4 := hts (.initialized "java/lang/IllegalStateException") (by decide +kernel)
  have at90 : ∀ w ∈ (vx_atS RX7 90 "java/lang/IllegalStateException" ["java/lang/RuntimeException", "java/lang/Exception"]).filter goodWord, w ∈ wsX7_takeOut := by decide +kernel
  have inc1 : ∀ w ∈ u_ws RX1 TX1 9, w ∈ wsX7_takeOut := by decide +kernel
  have inc7 : ∀ w ∈ u_ws RX7 TX7 6, w ∈ wsX7_takeOut := by decide +kernel
  have hS : va_S (fr b) s.heap s.heap [] := va_S.rf
  have hl := lv_entry ([.ref (b + 0), .int x]) (n := 4) (Nat.le_of_ble_eq_true rfl)
  rw [lg_entry_eq]
  generalize (lg_sl ([.ref (b + 0), .int x]) ++ List.replicate (4 - (lg_sl ([.ref (b + 0), .int x])).length) Slot.unset).toArray = ls at hl ⊢
  have hl : lv_has ls 4 [(0, .ref (b + 0)), (1, .int x)] := hl
  refine lv_aload_n hx hb dX7_takeOut_0 rfl (lv_at hl 0 rfl) ?_
  refine lv_iload_n hx hb dX7_takeOut_1 rfl (lv_at hl 1 rfl) ?_
  refine xct_q (vx_runV (As := [.int x]) (rest := []) ⟨hx, hb, hml, hown, hts⟩ (c_X7_instrumentAt l hl0 D cy b n hn M x hcnt) (cwV 1 hts gX7_takeOut_X7_instrumentAt rfl rfl rfl (by decide +kernel) ⟨Nat.le_of_ble_eq_true rfl, Nat.le_of_ble_eq_true rfl⟩) (xPreV hP hK hX hS (by omega) (cell7 (by decide)) rfl) rfl rfl hl.1 rfl (lv_room (Nat.le_of_ble_eq_true rfl)) dX7_takeOut_2 ⟨Nat.le_of_ble_eq_true rfl, Nat.le_of_ble_eq_true rfl⟩) hS (fun E ce q H locs hE hP hS hc hv hcl => xpass hout hlocks hc hv hcl hP hS rfl (by rw [gX7_takeOut, if_neg (exn_ne hE)] <;> rfl) (by rw [tX7_takeOut, if_neg (exn_ne hE)]; exact hE) (Nat.le_of_ble_eq_true rfl) (Nat.le_of_ble_eq_true rfl)) (fun H locs hT2 hP hS => ?_)
  refine W.eq (g2 := F0 m 5 ls (.ref (b + (1 + 1 + 1 + x.toNatClampNeg)) :: [])) rfl ?_
  refine lv_astore_n (lv' := [(2, .ref (b + (1 + 1 + 1 + x.toNatClampNeg))), (0, .ref (b + 0)), (1, .int x)]) hx hb dX7_takeOut_5 rfl hl (by decide) rfl (fun ls hl => ?_)
  refine lv_aload_n hx hb dX7_takeOut_6 rfl (lv_at hl 0 rfl) ?_
  refine xc_i (va_runV (As := []) (rest := []) ⟨hx, hb, hml, hown, hts⟩ (c_X1_isBoxed l D cy b n hn M (1 + 1 + 1 + x.toNatClampNeg) (iat_kd hcnt hT2)) (cwV 0 hts gX7_takeOut_X1_isBoxed rfl rfl rfl (by decide +kernel) ⟨Nat.le_of_ble_eq_true rfl, Nat.le_of_ble_eq_true rfl⟩) (xPreV hP hK hX hS (kI_lt (iat_kd hcnt hT2) hn) (cell1 (iat_kd hcnt hT2)) rfl) rfl rfl hl.1 rfl (lv_room (Nat.le_of_ble_eq_true rfl)) dX7_takeOut_7 ⟨Nat.le_of_ble_eq_true rfl, Nat.le_of_ble_eq_true rfl⟩) hS (fun H locs hP hS => ?_)
  refine lv_if_ne (tgt := 24) hx hb dX7_takeOut_10 (by decide) (fun c10 => ?_) (fun c10 => ?_)
  · refine lv_aload_n hx hb dX7_takeOut_24 rfl (lv_at hl 1 rfl) ?_
    refine xg (C := RX7) (T := TX7) (N := 6) (v := .ref (b + 20)) hx hb hts inc7 hown hK hP (by omega) (cell7 (by decide)) rfl 2 (by decide) lk0 (fun _ h => h) rfl dX7_takeOut_25 ?_
    refine lv_aload_n hx hb dX7_takeOut_28 rfl (lv_at hl 1 rfl) ?_
    refine xg (C := RX7) (T := TX7) (N := 6) (v := .ref (b + 1)) hx hb hts inc7 hown hK hP (by omega) (cell7 (by decide)) rfl 0 (by decide) lk1 (fun _ h => h) rfl dX7_takeOut_29 ?_
    refine xc_v (va_runV (As := [.ref (b + 1)]) (rest := []) ⟨hx, hb, hml, hown, hts⟩ (c_X0_record l D cy b n hn M 1 (by decide) hnx hcnt) (cwV 1 hts gX7_takeOut_X0_record rfl rfl rfl (by decide +kernel) ⟨Nat.le_of_ble_eq_true rfl, Nat.le_of_ble_eq_true rfl⟩) (xPreV hP hK hX hS (by omega) (cell0 (by decide)) rfl) rfl rfl hl.1 rfl (lv_room (Nat.le_of_ble_eq_true rfl)) dX7_takeOut_32 ⟨Nat.le_of_ble_eq_true rfl, Nat.le_of_ble_eq_true rfl⟩) hS (fun H locs hP hS => ?_)
    refine lv_aload_n hx hb dX7_takeOut_35 rfl (lv_at hl 0 rfl) ?_
    refine xg (C := RX1) (T := TX1) (N := 9) (v := .int ((gX0_record M 1) (1 + 1 + 1 + x.toNatClampNeg) 8)) hx hb hts inc1 hown hK hP (kI_lt (iat_kd hcnt hT2) hn) (cell1 (iat_kd hcnt hT2)) rfl 8 (by decide) lk2 (fun _ h => h) rfl dX7_takeOut_36 ?_
    refine lv_istore_n (lv' := [(3, .int ((gX0_record M 1) (1 + 1 + 1 + x.toNatClampNeg) 8)), (2, .ref (b + (1 + 1 + 1 + x.toNatClampNeg))), (0, .ref (b + 0)), (1, .int x)]) hx hb dX7_takeOut_39 rfl hl (by decide) rfl (fun ls hl => ?_)
    refine lv_aload_n hx hb dX7_takeOut_40 rfl (lv_at hl 1 rfl) ?_
    refine lv_iconst (v := (-1)) hx hb dX7_takeOut_41 (by decide) ?_
    refine xp (C := RX1) (T := TX1) (N := 9) (ci := 1) (ty := .int) (x := ((-1) : Int32)) hx hb hts inc1 tyX1 tyX1_ok nmX1 hown hK hP hS (kI_lt (iat_kd hcnt hT2) hn) (fun _ => cell1 (iat_kd hcnt hT2)) rfl 8 (by decide) rfl lk2 (fun _ h => h) rfl (tyX1_ok 8 (by decide)) rfl rfl (Nat.le_of_ble_eq_true rfl) dX7_takeOut_42 (fun H locs hP hS => ?_)
    refine lv_iload_n hx hb dX7_takeOut_45 rfl (lv_at hl 0 rfl) ?_
    exact xt_i hx hb hr hlocks hP hS rfl (by rw [tX7_takeOut, if_pos hT2, if_neg c10] <;> rfl) (by rw [gX7_takeOut, if_pos hT2, if_neg c10] <;> rfl) (by rw [fX7_takeOut, if_neg c10] <;> rfl) rfl (Nat.le_of_ble_eq_true rfl) (Nat.le_of_ble_eq_true rfl) dX7_takeOut_46
  · exact xthW (cls := "java/lang/IllegalStateException") (text := "the instrument is outside") hx hb hl0 hown hX (by decide +kernel) (by decide +kernel) (by decide +kernel) lk3 lk4 (fun w h => hts w (at90 w h)) (by decide +kernel) (by decide +kernel) hP hS rfl (by rw [gX7_takeOut, if_pos hT2, if_pos c10] <;> rfl) (by rw [tX7_takeOut, if_pos hT2, if_pos c10]; exact Or.inr (Or.inr ⟨rfl, rfl⟩)) (hl.1.trans hml.symm) dX7_takeOut_13 dX7_takeOut_16 dX7_takeOut_17 dX7_takeOut_20 dX7_takeOut_23 hout (Nat.le_of_ble_eq_true rfl) (Nat.le_of_ble_eq_true rfl) (Nat.le_of_ble_eq_true rfl) (Nat.le_of_ble_eq_true rfl) hlocks (Nat.le_of_ble_eq_true rfl) (Nat.le_of_ble_eq_true rfl)
def fX7_calibrate (M : Mem) (x : Int32) : Int32 := if (fX4_obstacle M 1 (1 + 1 + 1 + x.toNatClampNeg)) = 0 then ((gX0_record M 1) (1 + 1 + 1 + x.toNatClampNeg) 7) else 0
def gX7_calibrate (M : Mem) (x : Int32) : Mem := if (tX7_instrumentAt M x) = 0 then (if (fX4_obstacle M 1 (1 + 1 + 1 + x.toNatClampNeg)) = 0 then (mU (gX0_record M 1) (1 + 1 + 1 + x.toNatClampNeg) 7 ((fX4_surrounding (gX0_record M 1) 1 (1 + 1 + 1 + x.toNatClampNeg)) - (fX4_raw (gX0_record M 1) 1 (1 + 1 + 1 + x.toNatClampNeg)))) else M) else M
def tX7_calibrate (M : Mem) (x : Int32) : Nat := if (tX7_instrumentAt M x) = 0 then (if (fX4_obstacle M 1 (1 + 1 + 1 + x.toNatClampNeg)) = 0 then 0 else 3) else (tX7_instrumentAt M x)
set_option maxHeartbeats 4000000 in
set_option maxRecDepth 100000 in
theorem c_X7_calibrate (l : Launch) (hl0 : l.stackTraces = false) (D : va_G) (cy : Nat → ClassId) (b n : Nat) (hn : 124 ≤ n) (M : Mem) (x : Int32) (hcnt : CNT M 1) (hnx : UB (M 20 1) 9) : vx_Met l yX7_calibrate wsX7_calibrate ({ frames := 7, cells := 2, slots := 12, locals := 112 } : Room) (CP D cy b n fT M [.ref (b + 0), .int x]) (CTi D cy b n fT (tX7_calibrate M x) (fX7_calibrate M x) (gX7_calibrate M x)) (CX D cy b n fT (tX7_calibrate M x) (gX7_calibrate M x)) 2 12 (fr b) := by
  refine vx_ofW (cc := cX7_calibrate) (maxL := 4) (ret := (some .int)) (by decide) rfl ?_
  intro p e s m args below meth c s₁ B hml hout hv
  obtain ⟨rfl, hP, hK, hX⟩ := hv
  have hx := B.exec
  have hb := B.bytes
  have hr := B.returns
  have hts := atoms_spec (ws := wsX7_calibrate) B.pre
  have hown : s.vm.findClass RX7 = some m.cls := findClass_of_methodNamed B.named
  have hlocks := B.notSynchronized
  have lk0 := hts (.fieldLink RX7 10 "HygrometerRoom" "room" "LHygrometerRoom$Room;") (by decide +kernel)
  have lk1 := hts (.fieldLink RX7 26 "HygrometerRoom" "history" "LHygrometerRoom$History;") (by decide +kernel)
  have lk2 := hts (.fieldLink RX7 178 "HygrometerRoom$Instrument" "zero" "I") (by decide +kernel)
  have lk3 := hts (.classLink RX7 86 "java/lang/IllegalStateException") (by decide +kernel)
  have lk4 := hts (.initialized "java/lang/IllegalStateException") (by decide +kernel)
  have at90 : ∀ w ∈ (vx_atS RX7 90 "java/lang/IllegalStateException" ["java/lang/RuntimeException", "java/lang/Exception"]).filter goodWord, w ∈ wsX7_calibrate := by decide +kernel
  have inc1 : ∀ w ∈ u_ws RX1 TX1 9, w ∈ wsX7_calibrate := by decide +kernel
  have inc7 : ∀ w ∈ u_ws RX7 TX7 6, w ∈ wsX7_calibrate := by decide +kernel
  have hS : va_S (fr b) s.heap s.heap [] := va_S.rf
  have hl := lv_entry ([.ref (b + 0), .int x]) (n := 4) (Nat.le_of_ble_eq_true rfl)
  rw [lg_entry_eq]
  generalize (lg_sl ([.ref (b + 0), .int x]) ++ List.replicate (4 - (lg_sl ([.ref (b + 0), .int x])).length) Slot.unset).toArray = ls at hl ⊢
  have hl : lv_has ls 4 [(0, .ref (b + 0)), (1, .int x)] := hl
  refine lv_aload_n hx hb dX7_calibrate_0 rfl (lv_at hl 0 rfl) ?_
  refine lv_iload_n hx hb dX7_calibrate_1 rfl (lv_at hl 1 rfl) ?_
  refine xct_q (vx_runV (As := [.int x]) (rest := []) ⟨hx, hb, hml, hown, hts⟩ (c_X7_instrumentAt l hl0 D cy b n hn M x hcnt) (cwV 1 hts gX7_calibrate_X7_instrumentAt rfl rfl rfl (by decide +kernel) ⟨Nat.le_of_ble_eq_true rfl, Nat.le_of_ble_eq_true rfl⟩) (xPreV hP hK hX hS (by omega) (cell7 (by decide)) rfl) rfl rfl hl.1 rfl (lv_room (Nat.le_of_ble_eq_true rfl)) dX7_calibrate_2 ⟨Nat.le_of_ble_eq_true rfl, Nat.le_of_ble_eq_true rfl⟩) hS (fun E ce q H locs hE hP hS hc hv hcl => xpass hout hlocks hc hv hcl hP hS rfl (by rw [gX7_calibrate, if_neg (exn_ne hE)] <;> rfl) (by rw [tX7_calibrate, if_neg (exn_ne hE)]; exact hE) (Nat.le_of_ble_eq_true rfl) (Nat.le_of_ble_eq_true rfl)) (fun H locs hT2 hP hS => ?_)
  refine W.eq (g2 := F0 m 5 ls (.ref (b + (1 + 1 + 1 + x.toNatClampNeg)) :: [])) rfl ?_
  refine lv_astore_n (lv' := [(2, .ref (b + (1 + 1 + 1 + x.toNatClampNeg))), (0, .ref (b + 0)), (1, .int x)]) hx hb dX7_calibrate_5 rfl hl (by decide) rfl (fun ls hl => ?_)
  refine lv_aload_n hx hb dX7_calibrate_6 rfl (lv_at hl 1 rfl) ?_
  refine xg (C := RX7) (T := TX7) (N := 6) (v := .ref (b + 1)) hx hb hts inc7 hown hK hP (by omega) (cell7 (by decide)) rfl 0 (by decide) lk0 (fun _ h => h) rfl dX7_calibrate_7 ?_
  refine lv_aload_n hx hb dX7_calibrate_10 rfl (lv_at hl 0 rfl) ?_
  refine xc_i (va_runV (As := [.ref (b + (1 + 1 + 1 + x.toNatClampNeg))]) (rest := []) ⟨hx, hb, hml, hown, hts⟩ (c_X4_obstacle l D cy b n hn M 1 (1 + 1 + 1 + x.toNatClampNeg) (by decide) (iat_kd hcnt hT2)) (cwV 1 hts gX7_calibrate_X4_obstacle rfl rfl rfl (by decide +kernel) ⟨Nat.le_of_ble_eq_true rfl, Nat.le_of_ble_eq_true rfl⟩) (xPreV hP hK hX hS (by omega) (cell4 (by decide)) rfl) rfl rfl hl.1 rfl (lv_room (Nat.le_of_ble_eq_true rfl)) dX7_calibrate_11 ⟨Nat.le_of_ble_eq_true rfl, Nat.le_of_ble_eq_true rfl⟩) hS (fun H locs hP hS => ?_)
  refine lv_if_eq (tgt := 28) hx hb dX7_calibrate_14 (by decide) (fun c14 => ?_) (fun c14 => ?_)
  · refine lv_aload_n hx hb dX7_calibrate_28 rfl (lv_at hl 1 rfl) ?_
    refine xg (C := RX7) (T := TX7) (N := 6) (v := .ref (b + 20)) hx hb hts inc7 hown hK hP (by omega) (cell7 (by decide)) rfl 2 (by decide) lk1 (fun _ h => h) rfl dX7_calibrate_29 ?_
    refine lv_aload_n hx hb dX7_calibrate_32 rfl (lv_at hl 1 rfl) ?_
    refine xg (C := RX7) (T := TX7) (N := 6) (v := .ref (b + 1)) hx hb hts inc7 hown hK hP (by omega) (cell7 (by decide)) rfl 0 (by decide) lk0 (fun _ h => h) rfl dX7_calibrate_33 ?_
    refine xc_v (va_runV (As := [.ref (b + 1)]) (rest := []) ⟨hx, hb, hml, hown, hts⟩ (c_X0_record l D cy b n hn M 1 (by decide) hnx hcnt) (cwV 1 hts gX7_calibrate_X0_record rfl rfl rfl (by decide +kernel) ⟨Nat.le_of_ble_eq_true rfl, Nat.le_of_ble_eq_true rfl⟩) (xPreV hP hK hX hS (by omega) (cell0 (by decide)) rfl) rfl rfl hl.1 rfl (lv_room (Nat.le_of_ble_eq_true rfl)) dX7_calibrate_36 ⟨Nat.le_of_ble_eq_true rfl, Nat.le_of_ble_eq_true rfl⟩) hS (fun H locs hP hS => ?_)
    refine lv_aload_n hx hb dX7_calibrate_39 rfl (lv_at hl 0 rfl) ?_
    refine xg (C := RX1) (T := TX1) (N := 9) (v := .int ((gX0_record M 1) (1 + 1 + 1 + x.toNatClampNeg) 7)) hx hb hts inc1 hown hK hP (kI_lt (iat_kd hcnt hT2) hn) (cell1 (iat_kd hcnt hT2)) rfl 7 (by decide) lk2 (fun _ h => h) rfl dX7_calibrate_40 ?_
    refine lv_istore_n (lv' := [(3, .int ((gX0_record M 1) (1 + 1 + 1 + x.toNatClampNeg) 7)), (2, .ref (b + (1 + 1 + 1 + x.toNatClampNeg))), (0, .ref (b + 0)), (1, .int x)]) hx hb dX7_calibrate_43 rfl hl (by decide) rfl (fun ls hl => ?_)
    refine lv_aload_n hx hb dX7_calibrate_44 rfl (lv_at hl 1 rfl) ?_
    refine lv_aload_n hx hb dX7_calibrate_45 rfl (lv_at hl 2 rfl) ?_
    refine xg (C := RX7) (T := TX7) (N := 6) (v := .ref (b + 1)) hx hb hts inc7 hown hK hP (by omega) (cell7 (by decide)) rfl 0 (by decide) lk0 (fun _ h => h) rfl dX7_calibrate_46 ?_
    refine lv_aload_n hx hb dX7_calibrate_49 rfl (lv_at hl 1 rfl) ?_
    refine xc_i (va_runV (As := [.ref (b + (1 + 1 + 1 + x.toNatClampNeg))]) (rest := [.ref (b + (1 + 1 + 1 + x.toNatClampNeg))]) ⟨hx, hb, hml, hown, hts⟩ (c_X4_surrounding l D cy b n hn (gX0_record M 1) 1 (1 + 1 + 1 + x.toNatClampNeg) (by decide) (iat_kd hcnt hT2)) (cwV 1 hts gX7_calibrate_X4_surrounding rfl rfl rfl (by decide +kernel) ⟨Nat.le_of_ble_eq_true rfl, Nat.le_of_ble_eq_true rfl⟩) (xPreV hP hK hX hS (by omega) (cell4 (by decide)) rfl) rfl rfl hl.1 rfl (lv_room (Nat.le_of_ble_eq_true rfl)) dX7_calibrate_50 ⟨Nat.le_of_ble_eq_true rfl, Nat.le_of_ble_eq_true rfl⟩) hS (fun H locs hP hS => ?_)
    refine lv_aload_n hx hb dX7_calibrate_53 rfl (lv_at hl 2 rfl) ?_
    refine xg (C := RX7) (T := TX7) (N := 6) (v := .ref (b + 1)) hx hb hts inc7 hown hK hP (by omega) (cell7 (by decide)) rfl 0 (by decide) lk0 (fun _ h => h) rfl dX7_calibrate_54 ?_
    refine lv_aload_n hx hb dX7_calibrate_57 rfl (lv_at hl 1 rfl) ?_
    refine xc_i (va_runV (As := [.ref (b + (1 + 1 + 1 + x.toNatClampNeg))]) (rest := [.int (fX4_surrounding (gX0_record M 1) 1 (1 + 1 + 1 + x.toNatClampNeg)), .ref (b + (1 + 1 + 1 + x.toNatClampNeg))]) ⟨hx, hb, hml, hown, hts⟩ (c_X4_raw l D cy b n hn (gX0_record M 1) 1 (1 + 1 + 1 + x.toNatClampNeg) (by decide) (iat_kd hcnt hT2)) (cwV 1 hts gX7_calibrate_X4_raw rfl rfl rfl (by decide +kernel) ⟨Nat.le_of_ble_eq_true rfl, Nat.le_of_ble_eq_true rfl⟩) (xPreV hP hK hX hS (by omega) (cell4 (by decide)) rfl) rfl rfl hl.1 rfl (lv_room (Nat.le_of_ble_eq_true rfl)) dX7_calibrate_58 ⟨Nat.le_of_ble_eq_true rfl, Nat.le_of_ble_eq_true rfl⟩) hS (fun H locs hP hS => ?_)
    refine lv_isub hx hb dX7_calibrate_61 ?_
    refine xp (C := RX1) (T := TX1) (N := 9) (ci := 1) (ty := .int) (x := (fX4_surrounding (gX0_record M 1) 1 (1 + 1 + 1 + x.toNatClampNeg)) - (fX4_raw (gX0_record M 1) 1 (1 + 1 + 1 + x.toNatClampNeg))) hx hb hts inc1 tyX1 tyX1_ok nmX1 hown hK hP hS (kI_lt (iat_kd hcnt hT2) hn) (fun _ => cell1 (iat_kd hcnt hT2)) rfl 7 (by decide) rfl lk2 (fun _ h => h) rfl (tyX1_ok 7 (by decide)) rfl rfl (Nat.le_of_ble_eq_true rfl) dX7_calibrate_62 (fun H locs hP hS => ?_)
    refine lv_iload_n hx hb dX7_calibrate_65 rfl (lv_at hl 0 rfl) ?_
    exact xt_i hx hb hr hlocks hP hS rfl (by rw [tX7_calibrate, if_pos hT2, if_pos c14] <;> rfl) (by rw [gX7_calibrate, if_pos hT2, if_pos c14] <;> rfl) (by rw [fX7_calibrate, if_pos c14] <;> rfl) rfl (Nat.le_of_ble_eq_true rfl) (Nat.le_of_ble_eq_true rfl) dX7_calibrate_66
  · exact xthW (cls := "java/lang/IllegalStateException") (text := "the instrument cannot be calibrated") hx hb hl0 hown hX (by decide +kernel) (by decide +kernel) (by decide +kernel) lk3 lk4 (fun w h => hts w (at90 w h)) (by decide +kernel) (by decide +kernel) hP hS rfl (by rw [gX7_calibrate, if_pos hT2, if_neg c14] <;> rfl) (by rw [tX7_calibrate, if_pos hT2, if_neg c14]; exact Or.inr (Or.inr ⟨rfl, rfl⟩)) (hl.1.trans hml.symm) dX7_calibrate_17 dX7_calibrate_20 dX7_calibrate_21 dX7_calibrate_24 dX7_calibrate_27 hout (Nat.le_of_ble_eq_true rfl) (Nat.le_of_ble_eq_true rfl) (Nat.le_of_ble_eq_true rfl) (Nat.le_of_ble_eq_true rfl) hlocks (Nat.le_of_ble_eq_true rfl) (Nat.le_of_ble_eq_true rfl)
def fX7_tighten (M : Mem) (x : Int32) : Int32 := if (bv (M (1 + 1 + 1 + x.toNatClampNeg) 0)) = 0 then 0 else (if (M (1 + 1 + 1 + x.toNatClampNeg) 1) = 0 then 0 else ((gX0_record M 1) (1 + 1 + 1 + x.toNatClampNeg) 5))
def gX7_tighten (M : Mem) (x : Int32) : Mem := if (tX7_instrumentAt M x) = 0 then (if (bv (M (1 + 1 + 1 + x.toNatClampNeg) 0)) = 0 then M else (if (M (1 + 1 + 1 + x.toNatClampNeg) 1) = 0 then M else (gX1_tightenSpring (gX0_record M 1) (1 + 1 + 1 + x.toNatClampNeg)))) else M
def tX7_tighten (M : Mem) (x : Int32) : Nat := if (tX7_instrumentAt M x) = 0 then (if (bv (M (1 + 1 + 1 + x.toNatClampNeg) 0)) = 0 then 3 else (if (M (1 + 1 + 1 + x.toNatClampNeg) 1) = 0 then 3 else 0)) else (tX7_instrumentAt M x)
set_option maxHeartbeats 4000000 in
set_option maxRecDepth 100000 in
theorem c_X7_tighten (l : Launch) (hl0 : l.stackTraces = false) (D : va_G) (cy : Nat → ClassId) (b n : Nat) (hn : 124 ≤ n) (M : Mem) (x : Int32) (hcnt : CNT M 1) (hnx : UB (M 20 1) 9) : vx_Met l yX7_tighten wsX7_tighten ({ frames := 7, cells := 2, slots := 12, locals := 112 } : Room) (CP D cy b n fT M [.ref (b + 0), .int x]) (CTi D cy b n fT (tX7_tighten M x) (fX7_tighten M x) (gX7_tighten M x)) (CX D cy b n fT (tX7_tighten M x) (gX7_tighten M x)) 2 12 (fr b) := by
  refine vx_ofW (cc := cX7_tighten) (maxL := 4) (ret := (some .int)) (by decide) rfl ?_
  intro p e s m args below meth c s₁ B hml hout hv
  obtain ⟨rfl, hP, hK, hX⟩ := hv
  have hx := B.exec
  have hb := B.bytes
  have hr := B.returns
  have hts := atoms_spec (ws := wsX7_tighten) B.pre
  have hown : s.vm.findClass RX7 = some m.cls := findClass_of_methodNamed B.named
  have hlocks := B.notSynchronized
  have lk0 := hts (.fieldLink RX7 155 "HygrometerRoom$Instrument" "hair" "Z") (by decide +kernel)
  have lk1 := hts (.classLink RX7 86 "java/lang/IllegalStateException") (by decide +kernel)
  have lk2 := hts (.initialized "java/lang/IllegalStateException") (by decide +kernel)
  have lk3 := hts (.fieldLink RX7 159 "HygrometerRoom$Instrument" "hairs" "I") (by decide +kernel)
  have lk4 := hts (.fieldLink RX7 26 "HygrometerRoom" "history" "LHygrometerRoom$History;") (by decide +kernel)
  have lk5 := hts (.fieldLink RX7 10 "HygrometerRoom" "room" "LHygrometerRoom$Room;") (by decide +kernel)
  have lk6 := hts (.fieldLink RX7 168 "HygrometerRoom$Instrument" "slack" "I") (by decide +kernel)
  have at90 : ∀ w ∈ (vx_atS RX7 90 "java/lang/IllegalStateException" ["java/lang/RuntimeException", "java/lang/Exception"]).filter goodWord, w ∈ wsX7_tighten := by decide +kernel
  have inc1 : ∀ w ∈ u_ws RX1 TX1 9, w ∈ wsX7_tighten := by decide +kernel
  have inc7 : ∀ w ∈ u_ws RX7 TX7 6, w ∈ wsX7_tighten := by decide +kernel
  have hS : va_S (fr b) s.heap s.heap [] := va_S.rf
  have hl := lv_entry ([.ref (b + 0), .int x]) (n := 4) (Nat.le_of_ble_eq_true rfl)
  rw [lg_entry_eq]
  generalize (lg_sl ([.ref (b + 0), .int x]) ++ List.replicate (4 - (lg_sl ([.ref (b + 0), .int x])).length) Slot.unset).toArray = ls at hl ⊢
  have hl : lv_has ls 4 [(0, .ref (b + 0)), (1, .int x)] := hl
  refine lv_aload_n hx hb dX7_tighten_0 rfl (lv_at hl 0 rfl) ?_
  refine lv_iload_n hx hb dX7_tighten_1 rfl (lv_at hl 1 rfl) ?_
  refine xct_q (vx_runV (As := [.int x]) (rest := []) ⟨hx, hb, hml, hown, hts⟩ (c_X7_instrumentAt l hl0 D cy b n hn M x hcnt) (cwV 1 hts gX7_tighten_X7_instrumentAt rfl rfl rfl (by decide +kernel) ⟨Nat.le_of_ble_eq_true rfl, Nat.le_of_ble_eq_true rfl⟩) (xPreV hP hK hX hS (by omega) (cell7 (by decide)) rfl) rfl rfl hl.1 rfl (lv_room (Nat.le_of_ble_eq_true rfl)) dX7_tighten_2 ⟨Nat.le_of_ble_eq_true rfl, Nat.le_of_ble_eq_true rfl⟩) hS (fun E ce q H locs hE hP hS hc hv hcl => xpass hout hlocks hc hv hcl hP hS rfl (by rw [gX7_tighten, if_neg (exn_ne hE)] <;> rfl) (by rw [tX7_tighten, if_neg (exn_ne hE)]; exact hE) (Nat.le_of_ble_eq_true rfl) (Nat.le_of_ble_eq_true rfl)) (fun H locs hT2 hP hS => ?_)
  refine W.eq (g2 := F0 m 5 ls (.ref (b + (1 + 1 + 1 + x.toNatClampNeg)) :: [])) rfl ?_
  refine lv_astore_n (lv' := [(2, .ref (b + (1 + 1 + 1 + x.toNatClampNeg))), (0, .ref (b + 0)), (1, .int x)]) hx hb dX7_tighten_5 rfl hl (by decide) rfl (fun ls hl => ?_)
  refine lv_aload_n hx hb dX7_tighten_6 rfl (lv_at hl 0 rfl) ?_
  refine xg (C := RX1) (T := TX1) (N := 9) (v := .int (bv (M (1 + 1 + 1 + x.toNatClampNeg) 0))) hx hb hts inc1 hown hK hP (kI_lt (iat_kd hcnt hT2) hn) (cell1 (iat_kd hcnt hT2)) rfl 0 (by decide) lk0 (fun _ h => h) rfl dX7_tighten_7 ?_
  refine lv_if_eq (tgt := 20) hx hb dX7_tighten_10 (by decide) (fun c10 => ?_) (fun c10 => ?_)
  · exact xthW (cls := "java/lang/IllegalStateException") (text := "the instrument has no hairs") hx hb hl0 hown hX (by decide +kernel) (by decide +kernel) (by decide +kernel) lk1 lk2 (fun w h => hts w (at90 w h)) (by decide +kernel) (by decide +kernel) hP hS rfl (by rw [gX7_tighten, if_pos hT2, if_pos c10] <;> rfl) (by rw [tX7_tighten, if_pos hT2, if_pos c10]; exact Or.inr (Or.inr ⟨rfl, rfl⟩)) (hl.1.trans hml.symm) dX7_tighten_20 dX7_tighten_23 dX7_tighten_24 dX7_tighten_27 dX7_tighten_30 hout (Nat.le_of_ble_eq_true rfl) (Nat.le_of_ble_eq_true rfl) (Nat.le_of_ble_eq_true rfl) (Nat.le_of_ble_eq_true rfl) hlocks (Nat.le_of_ble_eq_true rfl) (Nat.le_of_ble_eq_true rfl)
  · refine lv_aload_n hx hb dX7_tighten_13 rfl (lv_at hl 0 rfl) ?_
    refine xg (C := RX1) (T := TX1) (N := 9) (v := .int (M (1 + 1 + 1 + x.toNatClampNeg) 1)) hx hb hts inc1 hown hK hP (kI_lt (iat_kd hcnt hT2) hn) (cell1 (iat_kd hcnt hT2)) rfl 1 (by decide) lk3 (fun _ h => h) rfl dX7_tighten_14 ?_
    refine lv_if_ne (tgt := 31) hx hb dX7_tighten_17 (by decide) (fun c17 => ?_) (fun c17 => ?_)
    · refine lv_aload_n hx hb dX7_tighten_31 rfl (lv_at hl 1 rfl) ?_
      refine xg (C := RX7) (T := TX7) (N := 6) (v := .ref (b + 20)) hx hb hts inc7 hown hK hP (by omega) (cell7 (by decide)) rfl 2 (by decide) lk4 (fun _ h => h) rfl dX7_tighten_32 ?_
      refine lv_aload_n hx hb dX7_tighten_35 rfl (lv_at hl 1 rfl) ?_
      refine xg (C := RX7) (T := TX7) (N := 6) (v := .ref (b + 1)) hx hb hts inc7 hown hK hP (by omega) (cell7 (by decide)) rfl 0 (by decide) lk5 (fun _ h => h) rfl dX7_tighten_36 ?_
      refine xc_v (va_runV (As := [.ref (b + 1)]) (rest := []) ⟨hx, hb, hml, hown, hts⟩ (c_X0_record l D cy b n hn M 1 (by decide) hnx hcnt) (cwV 1 hts gX7_tighten_X0_record rfl rfl rfl (by decide +kernel) ⟨Nat.le_of_ble_eq_true rfl, Nat.le_of_ble_eq_true rfl⟩) (xPreV hP hK hX hS (by omega) (cell0 (by decide)) rfl) rfl rfl hl.1 rfl (lv_room (Nat.le_of_ble_eq_true rfl)) dX7_tighten_39 ⟨Nat.le_of_ble_eq_true rfl, Nat.le_of_ble_eq_true rfl⟩) hS (fun H locs hP hS => ?_)
      refine lv_aload_n hx hb dX7_tighten_42 rfl (lv_at hl 0 rfl) ?_
      refine xg (C := RX1) (T := TX1) (N := 9) (v := .int ((gX0_record M 1) (1 + 1 + 1 + x.toNatClampNeg) 5)) hx hb hts inc1 hown hK hP (kI_lt (iat_kd hcnt hT2) hn) (cell1 (iat_kd hcnt hT2)) rfl 5 (by decide) lk6 (fun _ h => h) rfl dX7_tighten_43 ?_
      refine lv_istore_n (lv' := [(3, .int ((gX0_record M 1) (1 + 1 + 1 + x.toNatClampNeg) 5)), (2, .ref (b + (1 + 1 + 1 + x.toNatClampNeg))), (0, .ref (b + 0)), (1, .int x)]) hx hb dX7_tighten_46 rfl hl (by decide) rfl (fun ls hl => ?_)
      refine lv_aload_n hx hb dX7_tighten_47 rfl (lv_at hl 1 rfl) ?_
      refine xc_v (va_runV (As := []) (rest := []) ⟨hx, hb, hml, hown, hts⟩ (c_X1_tightenSpring l D cy b n hn (gX0_record M 1) (1 + 1 + 1 + x.toNatClampNeg) (iat_kd hcnt hT2)) (cwV 0 hts gX7_tighten_X1_tightenSpring rfl rfl rfl (by decide +kernel) ⟨Nat.le_of_ble_eq_true rfl, Nat.le_of_ble_eq_true rfl⟩) (xPreV hP hK hX hS (kI_lt (iat_kd hcnt hT2) hn) (cell1 (iat_kd hcnt hT2)) rfl) rfl rfl hl.1 rfl (lv_room (Nat.le_of_ble_eq_true rfl)) dX7_tighten_48 ⟨Nat.le_of_ble_eq_true rfl, Nat.le_of_ble_eq_true rfl⟩) hS (fun H locs hP hS => ?_)
      refine lv_iload_n hx hb dX7_tighten_51 rfl (lv_at hl 0 rfl) ?_
      exact xt_i hx hb hr hlocks hP hS rfl (by rw [tX7_tighten, if_pos hT2, if_neg c10, if_neg c17] <;> rfl) (by rw [gX7_tighten, if_pos hT2, if_neg c10, if_neg c17] <;> rfl) (by rw [fX7_tighten, if_neg c10, if_neg c17] <;> rfl) rfl (Nat.le_of_ble_eq_true rfl) (Nat.le_of_ble_eq_true rfl) dX7_tighten_52
    · exact xthW (cls := "java/lang/IllegalStateException") (text := "the instrument has no hairs") hx hb hl0 hown hX (by decide +kernel) (by decide +kernel) (by decide +kernel) lk1 lk2 (fun w h => hts w (at90 w h)) (by decide +kernel) (by decide +kernel) hP hS rfl (by rw [gX7_tighten, if_pos hT2, if_neg c10, if_pos c17] <;> rfl) (by rw [tX7_tighten, if_pos hT2, if_neg c10, if_pos c17]; exact Or.inr (Or.inr ⟨rfl, rfl⟩)) (hl.1.trans hml.symm) dX7_tighten_20 dX7_tighten_23 dX7_tighten_24 dX7_tighten_27 dX7_tighten_30 hout (Nat.le_of_ble_eq_true rfl) (Nat.le_of_ble_eq_true rfl) (Nat.le_of_ble_eq_true rfl) (Nat.le_of_ble_eq_true rfl) hlocks (Nat.le_of_ble_eq_true rfl) (Nat.le_of_ble_eq_true rfl)
def fX7_moisten (M : Mem) (x : Int32) : Int32 := if (bv (M (1 + 1 + 1 + x.toNatClampNeg) 0)) = 0 then ((gX0_record M 1) (1 + 1 + 1 + x.toNatClampNeg) 6) else 0
def gX7_moisten (M : Mem) (x : Int32) : Mem := if (tX7_instrumentAt M x) = 0 then (if (bv (M (1 + 1 + 1 + x.toNatClampNeg) 0)) = 0 then (mU (gX0_record M 1) (1 + 1 + 1 + x.toNatClampNeg) 6 (60 : Int32)) else M) else M
def tX7_moisten (M : Mem) (x : Int32) : Nat := if (tX7_instrumentAt M x) = 0 then (if (bv (M (1 + 1 + 1 + x.toNatClampNeg) 0)) = 0 then 0 else 3) else (tX7_instrumentAt M x)
set_option maxHeartbeats 4000000 in
set_option maxRecDepth 100000 in
theorem c_X7_moisten (l : Launch) (hl0 : l.stackTraces = false) (D : va_G) (cy : Nat → ClassId) (b n : Nat) (hn : 124 ≤ n) (M : Mem) (x : Int32) (hcnt : CNT M 1) (hnx : UB (M 20 1) 9) : vx_Met l yX7_moisten wsX7_moisten ({ frames := 7, cells := 2, slots := 12, locals := 112 } : Room) (CP D cy b n fT M [.ref (b + 0), .int x]) (CTi D cy b n fT (tX7_moisten M x) (fX7_moisten M x) (gX7_moisten M x)) (CX D cy b n fT (tX7_moisten M x) (gX7_moisten M x)) 2 12 (fr b) := by
  refine vx_ofW (cc := cX7_moisten) (maxL := 4) (ret := (some .int)) (by decide) rfl ?_
  intro p e s m args below meth c s₁ B hml hout hv
  obtain ⟨rfl, hP, hK, hX⟩ := hv
  have hx := B.exec
  have hb := B.bytes
  have hr := B.returns
  have hts := atoms_spec (ws := wsX7_moisten) B.pre
  have hown : s.vm.findClass RX7 = some m.cls := findClass_of_methodNamed B.named
  have hlocks := B.notSynchronized
  have lk0 := hts (.fieldLink RX7 155 "HygrometerRoom$Instrument" "hair" "Z") (by decide +kernel)
  have lk1 := hts (.fieldLink RX7 26 "HygrometerRoom" "history" "LHygrometerRoom$History;") (by decide +kernel)
  have lk2 := hts (.fieldLink RX7 10 "HygrometerRoom" "room" "LHygrometerRoom$Room;") (by decide +kernel)
  have lk3 := hts (.fieldLink RX7 171 "HygrometerRoom$Instrument" "water" "I") (by decide +kernel)
  have lk4 := hts (.classLink RX7 86 "java/lang/IllegalStateException") (by decide +kernel)
  have lk5 := hts (.initialized "java/lang/IllegalStateException") (by decide +kernel)
  have at90 : ∀ w ∈ (vx_atS RX7 90 "java/lang/IllegalStateException" ["java/lang/RuntimeException", "java/lang/Exception"]).filter goodWord, w ∈ wsX7_moisten := by decide +kernel
  have inc1 : ∀ w ∈ u_ws RX1 TX1 9, w ∈ wsX7_moisten := by decide +kernel
  have inc7 : ∀ w ∈ u_ws RX7 TX7 6, w ∈ wsX7_moisten := by decide +kernel
  have hS : va_S (fr b) s.heap s.heap [] := va_S.rf
  have hl := lv_entry ([.ref (b + 0), .int x]) (n := 4) (Nat.le_of_ble_eq_true rfl)
  rw [lg_entry_eq]
  generalize (lg_sl ([.ref (b + 0), .int x]) ++ List.replicate (4 - (lg_sl ([.ref (b + 0), .int x])).length) Slot.unset).toArray = ls at hl ⊢
  have hl : lv_has ls 4 [(0, .ref (b + 0)), (1, .int x)] := hl
  refine lv_aload_n hx hb dX7_moisten_0 rfl (lv_at hl 0 rfl) ?_
  refine lv_iload_n hx hb dX7_moisten_1 rfl (lv_at hl 1 rfl) ?_
  refine xct_q (vx_runV (As := [.int x]) (rest := []) ⟨hx, hb, hml, hown, hts⟩ (c_X7_instrumentAt l hl0 D cy b n hn M x hcnt) (cwV 1 hts gX7_moisten_X7_instrumentAt rfl rfl rfl (by decide +kernel) ⟨Nat.le_of_ble_eq_true rfl, Nat.le_of_ble_eq_true rfl⟩) (xPreV hP hK hX hS (by omega) (cell7 (by decide)) rfl) rfl rfl hl.1 rfl (lv_room (Nat.le_of_ble_eq_true rfl)) dX7_moisten_2 ⟨Nat.le_of_ble_eq_true rfl, Nat.le_of_ble_eq_true rfl⟩) hS (fun E ce q H locs hE hP hS hc hv hcl => xpass hout hlocks hc hv hcl hP hS rfl (by rw [gX7_moisten, if_neg (exn_ne hE)] <;> rfl) (by rw [tX7_moisten, if_neg (exn_ne hE)]; exact hE) (Nat.le_of_ble_eq_true rfl) (Nat.le_of_ble_eq_true rfl)) (fun H locs hT2 hP hS => ?_)
  refine W.eq (g2 := F0 m 5 ls (.ref (b + (1 + 1 + 1 + x.toNatClampNeg)) :: [])) rfl ?_
  refine lv_astore_n (lv' := [(2, .ref (b + (1 + 1 + 1 + x.toNatClampNeg))), (0, .ref (b + 0)), (1, .int x)]) hx hb dX7_moisten_5 rfl hl (by decide) rfl (fun ls hl => ?_)
  refine lv_aload_n hx hb dX7_moisten_6 rfl (lv_at hl 0 rfl) ?_
  refine xg (C := RX1) (T := TX1) (N := 9) (v := .int (bv (M (1 + 1 + 1 + x.toNatClampNeg) 0))) hx hb hts inc1 hown hK hP (kI_lt (iat_kd hcnt hT2) hn) (cell1 (iat_kd hcnt hT2)) rfl 0 (by decide) lk0 (fun _ h => h) rfl dX7_moisten_7 ?_
  refine lv_if_eq (tgt := 24) hx hb dX7_moisten_10 (by decide) (fun c10 => ?_) (fun c10 => ?_)
  · refine lv_aload_n hx hb dX7_moisten_24 rfl (lv_at hl 1 rfl) ?_
    refine xg (C := RX7) (T := TX7) (N := 6) (v := .ref (b + 20)) hx hb hts inc7 hown hK hP (by omega) (cell7 (by decide)) rfl 2 (by decide) lk1 (fun _ h => h) rfl dX7_moisten_25 ?_
    refine lv_aload_n hx hb dX7_moisten_28 rfl (lv_at hl 1 rfl) ?_
    refine xg (C := RX7) (T := TX7) (N := 6) (v := .ref (b + 1)) hx hb hts inc7 hown hK hP (by omega) (cell7 (by decide)) rfl 0 (by decide) lk2 (fun _ h => h) rfl dX7_moisten_29 ?_
    refine xc_v (va_runV (As := [.ref (b + 1)]) (rest := []) ⟨hx, hb, hml, hown, hts⟩ (c_X0_record l D cy b n hn M 1 (by decide) hnx hcnt) (cwV 1 hts gX7_moisten_X0_record rfl rfl rfl (by decide +kernel) ⟨Nat.le_of_ble_eq_true rfl, Nat.le_of_ble_eq_true rfl⟩) (xPreV hP hK hX hS (by omega) (cell0 (by decide)) rfl) rfl rfl hl.1 rfl (lv_room (Nat.le_of_ble_eq_true rfl)) dX7_moisten_32 ⟨Nat.le_of_ble_eq_true rfl, Nat.le_of_ble_eq_true rfl⟩) hS (fun H locs hP hS => ?_)
    refine lv_aload_n hx hb dX7_moisten_35 rfl (lv_at hl 0 rfl) ?_
    refine xg (C := RX1) (T := TX1) (N := 9) (v := .int ((gX0_record M 1) (1 + 1 + 1 + x.toNatClampNeg) 6)) hx hb hts inc1 hown hK hP (kI_lt (iat_kd hcnt hT2) hn) (cell1 (iat_kd hcnt hT2)) rfl 6 (by decide) lk3 (fun _ h => h) rfl dX7_moisten_36 ?_
    refine lv_istore_n (lv' := [(3, .int ((gX0_record M 1) (1 + 1 + 1 + x.toNatClampNeg) 6)), (2, .ref (b + (1 + 1 + 1 + x.toNatClampNeg))), (0, .ref (b + 0)), (1, .int x)]) hx hb dX7_moisten_39 rfl hl (by decide) rfl (fun ls hl => ?_)
    refine lv_aload_n hx hb dX7_moisten_40 rfl (lv_at hl 1 rfl) ?_
    refine lv_bipush (v := 60) hx hb dX7_moisten_41 (by decide) ?_
    refine xp (C := RX1) (T := TX1) (N := 9) (ci := 1) (ty := .int) (x := (60 : Int32)) hx hb hts inc1 tyX1 tyX1_ok nmX1 hown hK hP hS (kI_lt (iat_kd hcnt hT2) hn) (fun _ => cell1 (iat_kd hcnt hT2)) rfl 6 (by decide) rfl lk3 (fun _ h => h) rfl (tyX1_ok 6 (by decide)) rfl rfl (Nat.le_of_ble_eq_true rfl) dX7_moisten_43 (fun H locs hP hS => ?_)
    refine lv_iload_n hx hb dX7_moisten_46 rfl (lv_at hl 0 rfl) ?_
    exact xt_i hx hb hr hlocks hP hS rfl (by rw [tX7_moisten, if_pos hT2, if_pos c10] <;> rfl) (by rw [gX7_moisten, if_pos hT2, if_pos c10] <;> rfl) (by rw [fX7_moisten, if_pos c10] <;> rfl) rfl (Nat.le_of_ble_eq_true rfl) (Nat.le_of_ble_eq_true rfl) dX7_moisten_47
  · exact xthW (cls := "java/lang/IllegalStateException") (text := "the instrument is a hair hygrometer") hx hb hl0 hown hX (by decide +kernel) (by decide +kernel) (by decide +kernel) lk4 lk5 (fun w h => hts w (at90 w h)) (by decide +kernel) (by decide +kernel) hP hS rfl (by rw [gX7_moisten, if_pos hT2, if_neg c10] <;> rfl) (by rw [tX7_moisten, if_pos hT2, if_neg c10]; exact Or.inr (Or.inr ⟨rfl, rfl⟩)) (hl.1.trans hml.symm) dX7_moisten_13 dX7_moisten_16 dX7_moisten_17 dX7_moisten_20 dX7_moisten_23 hout (Nat.le_of_ble_eq_true rfl) (Nat.le_of_ble_eq_true rfl) (Nat.le_of_ble_eq_true rfl) (Nat.le_of_ble_eq_true rfl) hlocks (Nat.le_of_ble_eq_true rfl) (Nat.le_of_ble_eq_true rfl)
def fX7_addHairs (M : Mem) (x : Int32) (y : Int32) : Int32 := if y < (1 : Int32) then 0 else (if y ≤ (20 : Int32) then (if (bv (M (1 + 1 + 1 + x.toNatClampNeg) 0)) = 0 then 0 else (if (M 1 6) < y then 0 else (if ((M (1 + 1 + 1 + x.toNatClampNeg) 1) + y) ≤ (20 : Int32) then ((mU (mU (gX0_record M 1) 1 6 (((gX0_record M 1) 1 6) - y)) (1 + 1 + 1 + x.toNatClampNeg) 1 (((mU (gX0_record M 1) 1 6 (((gX0_record M 1) 1 6) - y)) (1 + 1 + 1 + x.toNatClampNeg) 1) + y)) (1 + 1 + 1 + x.toNatClampNeg) 1) else 0))) else 0)
def gX7_addHairs (M : Mem) (x : Int32) (y : Int32) : Mem := if (tX7_instrumentAt M x) = 0 then (if y < (1 : Int32) then M else (if y ≤ (20 : Int32) then (if (bv (M (1 + 1 + 1 + x.toNatClampNeg) 0)) = 0 then M else (if (M 1 6) < y then M else (if ((M (1 + 1 + 1 + x.toNatClampNeg) 1) + y) ≤ (20 : Int32) then (mU (mU (gX0_record M 1) 1 6 (((gX0_record M 1) 1 6) - y)) (1 + 1 + 1 + x.toNatClampNeg) 1 (((mU (gX0_record M 1) 1 6 (((gX0_record M 1) 1 6) - y)) (1 + 1 + 1 + x.toNatClampNeg) 1) + y)) else M))) else M)) else M
def tX7_addHairs (M : Mem) (x : Int32) (y : Int32) : Nat := if (tX7_instrumentAt M x) = 0 then (if y < (1 : Int32) then 2 else (if y ≤ (20 : Int32) then (if (bv (M (1 + 1 + 1 + x.toNatClampNeg) 0)) = 0 then 3 else (if (M 1 6) < y then 3 else (if ((M (1 + 1 + 1 + x.toNatClampNeg) 1) + y) ≤ (20 : Int32) then 0 else 3))) else 2)) else (tX7_instrumentAt M x)
set_option maxHeartbeats 4000000 in
set_option maxRecDepth 100000 in
theorem c_X7_addHairs (l : Launch) (hl0 : l.stackTraces = false) (D : va_G) (cy : Nat → ClassId) (b n : Nat) (hn : 124 ≤ n) (M : Mem) (x : Int32) (y : Int32) (hcnt : CNT M 1) (hnx : UB (M 20 1) 9) : vx_Met l yX7_addHairs wsX7_addHairs ({ frames := 7, cells := 2, slots := 12, locals := 112 } : Room) (CP D cy b n fT M [.ref (b + 0), .int x, .int y]) (CTi D cy b n fT (tX7_addHairs M x y) (fX7_addHairs M x y) (gX7_addHairs M x y)) (CX D cy b n fT (tX7_addHairs M x y) (gX7_addHairs M x y)) 2 12 (fr b) := by
  refine vx_ofW (cc := cX7_addHairs) (maxL := 4) (ret := (some .int)) (by decide) rfl ?_
  intro p e s m args below meth c s₁ B hml hout hv
  obtain ⟨rfl, hP, hK, hX⟩ := hv
  have hx := B.exec
  have hb := B.bytes
  have hr := B.returns
  have hts := atoms_spec (ws := wsX7_addHairs) B.pre
  have hown : s.vm.findClass RX7 = some m.cls := findClass_of_methodNamed B.named
  have hlocks := B.notSynchronized
  have lk0 := hts (.classLink RX7 107 "java/lang/IllegalArgumentException") (by decide +kernel)
  have lk1 := hts (.initialized "java/lang/IllegalArgumentException") (by decide +kernel)
  have lk2 := hts (.fieldLink RX7 155 "HygrometerRoom$Instrument" "hair" "Z") (by decide +kernel)
  have lk3 := hts (.classLink RX7 86 "java/lang/IllegalStateException") (by decide +kernel)
  have lk4 := hts (.initialized "java/lang/IllegalStateException") (by decide +kernel)
  have lk5 := hts (.fieldLink RX7 10 "HygrometerRoom" "room" "LHygrometerRoom$Room;") (by decide +kernel)
  have lk6 := hts (.fieldLink RX7 138 "HygrometerRoom$Room" "stock" "I") (by decide +kernel)
  have lk7 := hts (.fieldLink RX7 159 "HygrometerRoom$Instrument" "hairs" "I") (by decide +kernel)
  have lk8 := hts (.fieldLink RX7 26 "HygrometerRoom" "history" "LHygrometerRoom$History;") (by decide +kernel)
  have at90 : ∀ w ∈ (vx_atS RX7 90 "java/lang/IllegalStateException" ["java/lang/RuntimeException", "java/lang/Exception"]).filter goodWord, w ∈ wsX7_addHairs := by decide +kernel
  have at111 : ∀ w ∈ (vx_atS RX7 111 "java/lang/IllegalArgumentException" ["java/lang/RuntimeException", "java/lang/Exception"]).filter goodWord, w ∈ wsX7_addHairs := by decide +kernel
  have inc1 : ∀ w ∈ u_ws RX1 TX1 9, w ∈ wsX7_addHairs := by decide +kernel
  have inc4 : ∀ w ∈ u_ws RX4 TX4 8, w ∈ wsX7_addHairs := by decide +kernel
  have inc7 : ∀ w ∈ u_ws RX7 TX7 6, w ∈ wsX7_addHairs := by decide +kernel
  have hS : va_S (fr b) s.heap s.heap [] := va_S.rf
  have hl := lv_entry ([.ref (b + 0), .int x, .int y]) (n := 4) (Nat.le_of_ble_eq_true rfl)
  rw [lg_entry_eq]
  generalize (lg_sl ([.ref (b + 0), .int x, .int y]) ++ List.replicate (4 - (lg_sl ([.ref (b + 0), .int x, .int y])).length) Slot.unset).toArray = ls at hl ⊢
  have hl : lv_has ls 4 [(0, .ref (b + 0)), (1, .int x), (2, .int y)] := hl
  refine lv_aload_n hx hb dX7_addHairs_0 rfl (lv_at hl 0 rfl) ?_
  refine lv_iload_n hx hb dX7_addHairs_1 rfl (lv_at hl 1 rfl) ?_
  refine xct_q (vx_runV (As := [.int x]) (rest := []) ⟨hx, hb, hml, hown, hts⟩ (c_X7_instrumentAt l hl0 D cy b n hn M x hcnt) (cwV 1 hts gX7_addHairs_X7_instrumentAt rfl rfl rfl (by decide +kernel) ⟨Nat.le_of_ble_eq_true rfl, Nat.le_of_ble_eq_true rfl⟩) (xPreV hP hK hX hS (by omega) (cell7 (by decide)) rfl) rfl rfl hl.1 rfl (lv_room (Nat.le_of_ble_eq_true rfl)) dX7_addHairs_2 ⟨Nat.le_of_ble_eq_true rfl, Nat.le_of_ble_eq_true rfl⟩) hS (fun E ce q H locs hE hP hS hc hv hcl => xpass hout hlocks hc hv hcl hP hS rfl (by rw [gX7_addHairs, if_neg (exn_ne hE)] <;> rfl) (by rw [tX7_addHairs, if_neg (exn_ne hE)]; exact hE) (Nat.le_of_ble_eq_true rfl) (Nat.le_of_ble_eq_true rfl)) (fun H locs hT2 hP hS => ?_)
  refine W.eq (g2 := F0 m 5 ls (.ref (b + (1 + 1 + 1 + x.toNatClampNeg)) :: [])) rfl ?_
  refine lv_astore_n (lv' := [(3, .ref (b + (1 + 1 + 1 + x.toNatClampNeg))), (0, .ref (b + 0)), (1, .int x), (2, .int y)]) hx hb dX7_addHairs_5 rfl hl (by decide) rfl (fun ls hl => ?_)
  refine lv_iload_n hx hb dX7_addHairs_6 rfl (lv_at hl 3 rfl) ?_
  refine lv_iconst (v := 1) hx hb dX7_addHairs_7 (by decide) ?_
  refine lv_icmp_lt (tgt := 17) hx hb dX7_addHairs_8 (by decide) (fun c8 => ?_) (fun c8 => ?_)
  · exact xthW (cls := "java/lang/IllegalArgumentException") (text := "the hairs are out of range") hx hb hl0 hown hX (by decide +kernel) (by decide +kernel) (by decide +kernel) lk0 lk1 (fun w h => hts w (at111 w h)) (by decide +kernel) (by decide +kernel) hP hS rfl (by rw [gX7_addHairs, if_pos hT2, if_pos c8] <;> rfl) (by rw [tX7_addHairs, if_pos hT2, if_pos c8]; exact Or.inr (Or.inl ⟨rfl, rfl⟩)) (hl.1.trans hml.symm) dX7_addHairs_17 dX7_addHairs_20 dX7_addHairs_21 dX7_addHairs_24 dX7_addHairs_27 hout (Nat.le_of_ble_eq_true rfl) (Nat.le_of_ble_eq_true rfl) (Nat.le_of_ble_eq_true rfl) (Nat.le_of_ble_eq_true rfl) hlocks (Nat.le_of_ble_eq_true rfl) (Nat.le_of_ble_eq_true rfl)
  · refine lv_iload_n hx hb dX7_addHairs_11 rfl (lv_at hl 3 rfl) ?_
    refine lv_bipush (v := 20) hx hb dX7_addHairs_12 (by decide) ?_
    refine lv_icmp_le (tgt := 28) hx hb dX7_addHairs_14 (by decide) (fun c14 => ?_) (fun c14 => ?_)
    · refine lv_aload_n hx hb dX7_addHairs_28 rfl (lv_at hl 0 rfl) ?_
      refine xg (C := RX1) (T := TX1) (N := 9) (v := .int (bv (M (1 + 1 + 1 + x.toNatClampNeg) 0))) hx hb hts inc1 hown hK hP (kI_lt (iat_kd hcnt hT2) hn) (cell1 (iat_kd hcnt hT2)) rfl 0 (by decide) lk2 (fun _ h => h) rfl dX7_addHairs_29 ?_
      refine lv_if_eq (tgt := 57) hx hb dX7_addHairs_32 (by decide) (fun c32 => ?_) (fun c32 => ?_)
      · exact xthW (cls := "java/lang/IllegalStateException") (text := "the instrument cannot get so many hairs") hx hb hl0 hown hX (by decide +kernel) (by decide +kernel) (by decide +kernel) lk3 lk4 (fun w h => hts w (at90 w h)) (by decide +kernel) (by decide +kernel) hP hS rfl (by rw [gX7_addHairs, if_pos hT2, if_neg c8, if_pos c14, if_pos c32] <;> rfl) (by rw [tX7_addHairs, if_pos hT2, if_neg c8, if_pos c14, if_pos c32]; exact Or.inr (Or.inr ⟨rfl, rfl⟩)) (hl.1.trans hml.symm) dX7_addHairs_57 dX7_addHairs_60 dX7_addHairs_61 dX7_addHairs_64 dX7_addHairs_67 hout (Nat.le_of_ble_eq_true rfl) (Nat.le_of_ble_eq_true rfl) (Nat.le_of_ble_eq_true rfl) (Nat.le_of_ble_eq_true rfl) hlocks (Nat.le_of_ble_eq_true rfl) (Nat.le_of_ble_eq_true rfl)
      · refine lv_aload_n hx hb dX7_addHairs_35 rfl (lv_at hl 1 rfl) ?_
        refine xg (C := RX7) (T := TX7) (N := 6) (v := .ref (b + 1)) hx hb hts inc7 hown hK hP (by omega) (cell7 (by decide)) rfl 0 (by decide) lk5 (fun _ h => h) rfl dX7_addHairs_36 ?_
        refine xg (C := RX4) (T := TX4) (N := 8) (v := .int (M 1 6)) hx hb hts inc4 hown hK hP (by omega) (cell4 (by decide)) rfl 6 (by decide) lk6 (fun _ h => h) rfl dX7_addHairs_39 ?_
        refine lv_iload_n hx hb dX7_addHairs_42 rfl (lv_at hl 3 rfl) ?_
        refine lv_icmp_lt (tgt := 57) hx hb dX7_addHairs_43 (by decide) (fun c43 => ?_) (fun c43 => ?_)
        · exact xthW (cls := "java/lang/IllegalStateException") (text := "the instrument cannot get so many hairs") hx hb hl0 hown hX (by decide +kernel) (by decide +kernel) (by decide +kernel) lk3 lk4 (fun w h => hts w (at90 w h)) (by decide +kernel) (by decide +kernel) hP hS rfl (by rw [gX7_addHairs, if_pos hT2, if_neg c8, if_pos c14, if_neg c32, if_pos c43] <;> rfl) (by rw [tX7_addHairs, if_pos hT2, if_neg c8, if_pos c14, if_neg c32, if_pos c43]; exact Or.inr (Or.inr ⟨rfl, rfl⟩)) (hl.1.trans hml.symm) dX7_addHairs_57 dX7_addHairs_60 dX7_addHairs_61 dX7_addHairs_64 dX7_addHairs_67 hout (Nat.le_of_ble_eq_true rfl) (Nat.le_of_ble_eq_true rfl) (Nat.le_of_ble_eq_true rfl) (Nat.le_of_ble_eq_true rfl) hlocks (Nat.le_of_ble_eq_true rfl) (Nat.le_of_ble_eq_true rfl)
        · refine lv_aload_n hx hb dX7_addHairs_46 rfl (lv_at hl 0 rfl) ?_
          refine xg (C := RX1) (T := TX1) (N := 9) (v := .int (M (1 + 1 + 1 + x.toNatClampNeg) 1)) hx hb hts inc1 hown hK hP (kI_lt (iat_kd hcnt hT2) hn) (cell1 (iat_kd hcnt hT2)) rfl 1 (by decide) lk7 (fun _ h => h) rfl dX7_addHairs_47 ?_
          refine lv_iload_n hx hb dX7_addHairs_50 rfl (lv_at hl 3 rfl) ?_
          refine lv_iadd hx hb dX7_addHairs_51 ?_
          refine lv_bipush (v := 20) hx hb dX7_addHairs_52 (by decide) ?_
          refine lv_icmp_le (tgt := 68) hx hb dX7_addHairs_54 (by decide) (fun c54 => ?_) (fun c54 => ?_)
          · refine lv_aload_n hx hb dX7_addHairs_68 rfl (lv_at hl 1 rfl) ?_
            refine xg (C := RX7) (T := TX7) (N := 6) (v := .ref (b + 20)) hx hb hts inc7 hown hK hP (by omega) (cell7 (by decide)) rfl 2 (by decide) lk8 (fun _ h => h) rfl dX7_addHairs_69 ?_
            refine lv_aload_n hx hb dX7_addHairs_72 rfl (lv_at hl 1 rfl) ?_
            refine xg (C := RX7) (T := TX7) (N := 6) (v := .ref (b + 1)) hx hb hts inc7 hown hK hP (by omega) (cell7 (by decide)) rfl 0 (by decide) lk5 (fun _ h => h) rfl dX7_addHairs_73 ?_
            refine xc_v (va_runV (As := [.ref (b + 1)]) (rest := []) ⟨hx, hb, hml, hown, hts⟩ (c_X0_record l D cy b n hn M 1 (by decide) hnx hcnt) (cwV 1 hts gX7_addHairs_X0_record rfl rfl rfl (by decide +kernel) ⟨Nat.le_of_ble_eq_true rfl, Nat.le_of_ble_eq_true rfl⟩) (xPreV hP hK hX hS (by omega) (cell0 (by decide)) rfl) rfl rfl hl.1 rfl (lv_room (Nat.le_of_ble_eq_true rfl)) dX7_addHairs_76 ⟨Nat.le_of_ble_eq_true rfl, Nat.le_of_ble_eq_true rfl⟩) hS (fun H locs hP hS => ?_)
            refine lv_aload_n hx hb dX7_addHairs_79 rfl (lv_at hl 1 rfl) ?_
            refine xg (C := RX7) (T := TX7) (N := 6) (v := .ref (b + 1)) hx hb hts inc7 hown hK hP (by omega) (cell7 (by decide)) rfl 0 (by decide) lk5 (fun _ h => h) rfl dX7_addHairs_80 ?_
            refine lv_dup hx hb dX7_addHairs_83 rfl ?_
            refine xg (C := RX4) (T := TX4) (N := 8) (v := .int ((gX0_record M 1) 1 6)) hx hb hts inc4 hown hK hP (by omega) (cell4 (by decide)) rfl 6 (by decide) lk6 (fun _ h => h) rfl dX7_addHairs_84 ?_
            refine lv_iload_n hx hb dX7_addHairs_87 rfl (lv_at hl 3 rfl) ?_
            refine lv_isub hx hb dX7_addHairs_88 ?_
            refine xp (C := RX4) (T := TX4) (N := 8) (ci := 4) (ty := .int) (x := ((gX0_record M 1) 1 6) - y) hx hb hts inc4 tyX4 tyX4_ok nmX4 hown hK hP hS (by omega) (fun _ => cell4 (by decide)) rfl 6 (by decide) rfl lk6 (fun _ h => h) rfl (tyX4_ok 6 (by decide)) rfl rfl (Nat.le_of_ble_eq_true rfl) dX7_addHairs_89 (fun H locs hP hS => ?_)
            refine lv_aload_n hx hb dX7_addHairs_92 rfl (lv_at hl 0 rfl) ?_
            refine lv_dup hx hb dX7_addHairs_93 rfl ?_
            refine xg (C := RX1) (T := TX1) (N := 9) (v := .int ((mU (gX0_record M 1) 1 6 (((gX0_record M 1) 1 6) - y)) (1 + 1 + 1 + x.toNatClampNeg) 1)) hx hb hts inc1 hown hK hP (kI_lt (iat_kd hcnt hT2) hn) (cell1 (iat_kd hcnt hT2)) rfl 1 (by decide) lk7 (fun _ h => h) rfl dX7_addHairs_94 ?_
            refine lv_iload_n hx hb dX7_addHairs_97 rfl (lv_at hl 3 rfl) ?_
            refine lv_iadd hx hb dX7_addHairs_98 ?_
            refine xp (C := RX1) (T := TX1) (N := 9) (ci := 1) (ty := .int) (x := ((mU (gX0_record M 1) 1 6 (((gX0_record M 1) 1 6) - y)) (1 + 1 + 1 + x.toNatClampNeg) 1) + y) hx hb hts inc1 tyX1 tyX1_ok nmX1 hown hK hP hS (kI_lt (iat_kd hcnt hT2) hn) (fun _ => cell1 (iat_kd hcnt hT2)) rfl 1 (by decide) rfl lk7 (fun _ h => h) rfl (tyX1_ok 1 (by decide)) rfl rfl (Nat.le_of_ble_eq_true rfl) dX7_addHairs_99 (fun H locs hP hS => ?_)
            refine lv_aload_n hx hb dX7_addHairs_102 rfl (lv_at hl 0 rfl) ?_
            refine xg (C := RX1) (T := TX1) (N := 9) (v := .int ((mU (mU (gX0_record M 1) 1 6 (((gX0_record M 1) 1 6) - y)) (1 + 1 + 1 + x.toNatClampNeg) 1 (((mU (gX0_record M 1) 1 6 (((gX0_record M 1) 1 6) - y)) (1 + 1 + 1 + x.toNatClampNeg) 1) + y)) (1 + 1 + 1 + x.toNatClampNeg) 1)) hx hb hts inc1 hown hK hP (kI_lt (iat_kd hcnt hT2) hn) (cell1 (iat_kd hcnt hT2)) rfl 1 (by decide) lk7 (fun _ h => h) rfl dX7_addHairs_103 ?_
            exact xt_i hx hb hr hlocks hP hS rfl (by rw [tX7_addHairs, if_pos hT2, if_neg c8, if_pos c14, if_neg c32, if_neg c43, if_pos c54] <;> rfl) (by rw [gX7_addHairs, if_pos hT2, if_neg c8, if_pos c14, if_neg c32, if_neg c43, if_pos c54] <;> rfl) (by rw [fX7_addHairs, if_neg c8, if_pos c14, if_neg c32, if_neg c43, if_pos c54] <;> rfl) rfl (Nat.le_of_ble_eq_true rfl) (Nat.le_of_ble_eq_true rfl) dX7_addHairs_106
          · exact xthW (cls := "java/lang/IllegalStateException") (text := "the instrument cannot get so many hairs") hx hb hl0 hown hX (by decide +kernel) (by decide +kernel) (by decide +kernel) lk3 lk4 (fun w h => hts w (at90 w h)) (by decide +kernel) (by decide +kernel) hP hS rfl (by rw [gX7_addHairs, if_pos hT2, if_neg c8, if_pos c14, if_neg c32, if_neg c43, if_neg c54] <;> rfl) (by rw [tX7_addHairs, if_pos hT2, if_neg c8, if_pos c14, if_neg c32, if_neg c43, if_neg c54]; exact Or.inr (Or.inr ⟨rfl, rfl⟩)) (hl.1.trans hml.symm) dX7_addHairs_57 dX7_addHairs_60 dX7_addHairs_61 dX7_addHairs_64 dX7_addHairs_67 hout (Nat.le_of_ble_eq_true rfl) (Nat.le_of_ble_eq_true rfl) (Nat.le_of_ble_eq_true rfl) (Nat.le_of_ble_eq_true rfl) hlocks (Nat.le_of_ble_eq_true rfl) (Nat.le_of_ble_eq_true rfl)
    · exact xthW (cls := "java/lang/IllegalArgumentException") (text := "the hairs are out of range") hx hb hl0 hown hX (by decide +kernel) (by decide +kernel) (by decide +kernel) lk0 lk1 (fun w h => hts w (at111 w h)) (by decide +kernel) (by decide +kernel) hP hS rfl (by rw [gX7_addHairs, if_pos hT2, if_neg c8, if_neg c14] <;> rfl) (by rw [tX7_addHairs, if_pos hT2, if_neg c8, if_neg c14]; exact Or.inr (Or.inl ⟨rfl, rfl⟩)) (hl.1.trans hml.symm) dX7_addHairs_17 dX7_addHairs_20 dX7_addHairs_21 dX7_addHairs_24 dX7_addHairs_27 hout (Nat.le_of_ble_eq_true rfl) (Nat.le_of_ble_eq_true rfl) (Nat.le_of_ble_eq_true rfl) (Nat.le_of_ble_eq_true rfl) hlocks (Nat.le_of_ble_eq_true rfl) (Nat.le_of_ble_eq_true rfl)
def fX7_restore (M : Mem) (x : Int32) : Int32 := if (fX7_isSlot M x) = 0 then 0 else (match fX5_find M x with | none => 0 | some o23 => ((gX4_copyFrom (gX0_record M 1) 1 o23) 1 2))
def gX7_restore (M : Mem) (x : Int32) : Mem := if (fX7_isSlot M x) = 0 then M else (match fX5_find M x with | none => M | some o23 => (gX4_copyFrom (gX0_record M 1) 1 o23))
def tX7_restore (M : Mem) (x : Int32) : Nat := if (fX7_isSlot M x) = 0 then 1 else (match fX5_find M x with | none => 3 | some o23 => 0)
set_option maxHeartbeats 4000000 in
set_option maxRecDepth 100000 in
theorem c_X7_restore (l : Launch) (hl0 : l.stackTraces = false) (D : va_G) (cy : Nat → ClassId) (b n : Nat) (hn : 124 ≤ n) (M : Mem) (x : Int32) (hcnt : CNT M 1) (hnx : UB (M 20 1) 9) (hsc : SC2 M) : vx_Met l yX7_restore wsX7_restore ({ frames := 6, cells := 1, slots := 6, locals := 90 } : Room) (CP D cy b n fT M [.ref (b + 0), .int x]) (CTi D cy b n fT (tX7_restore M x) (fX7_restore M x) (gX7_restore M x)) (CX D cy b n fT (tX7_restore M x) (gX7_restore M x)) 1 6 (fr b) := by
  refine vx_ofW (cc := cX7_restore) (maxL := 3) (ret := (some .int)) (by decide) rfl ?_
  intro p e s m args below meth c s₁ B hml hout hv
  obtain ⟨rfl, hP, hK, hX⟩ := hv
  have hx := B.exec
  have hb := B.bytes
  have hr := B.returns
  have hts := atoms_spec (ws := wsX7_restore) B.pre
  have hown : s.vm.findClass RX7 = some m.cls := findClass_of_methodNamed B.named
  have hlocks := B.notSynchronized
  have lk0 := hts (.fieldLink RX7 33 "HygrometerRoom" "slots" "LHygrometerRoom$Slots;") (by decide +kernel)
  have lk1 := hts (.classLink RX7 86 "java/lang/IllegalStateException") (by decide +kernel)
  have lk2 := hts (.initialized "java/lang/IllegalStateException") (by decide +kernel)
  have lk3 := hts (.fieldLink RX7 26 "HygrometerRoom" "history" "LHygrometerRoom$History;") (by decide +kernel)
  have lk4 := hts (.fieldLink RX7 10 "HygrometerRoom" "room" "LHygrometerRoom$Room;") (by decide +kernel)
  have lk5 := hts (.fieldLink RX7 129 "HygrometerRoom$Room" "minute" "I") (by decide +kernel)
  have lk6 := hts (.classLink RX7 96 "java/lang/IndexOutOfBoundsException") (by decide +kernel)
  have lk7 := hts (.initialized "java/lang/IndexOutOfBoundsException") (by decide +kernel)
  have at90 : ∀ w ∈ (vx_atS RX7 90 "java/lang/IllegalStateException" ["java/lang/RuntimeException", "java/lang/Exception"]).filter goodWord, w ∈ wsX7_restore := by decide +kernel
  have at100 : ∀ w ∈ (vx_atS RX7 100 "java/lang/IndexOutOfBoundsException" ["java/lang/RuntimeException", "java/lang/Exception"]).filter goodWord, w ∈ wsX7_restore := by decide +kernel
  have inc4 : ∀ w ∈ u_ws RX4 TX4 8, w ∈ wsX7_restore := by decide +kernel
  have inc7 : ∀ w ∈ u_ws RX7 TX7 6, w ∈ wsX7_restore := by decide +kernel
  have hS : va_S (fr b) s.heap s.heap [] := va_S.rf
  have hl := lv_entry ([.ref (b + 0), .int x]) (n := 3) (Nat.le_of_ble_eq_true rfl)
  rw [lg_entry_eq]
  generalize (lg_sl ([.ref (b + 0), .int x]) ++ List.replicate (3 - (lg_sl ([.ref (b + 0), .int x])).length) Slot.unset).toArray = ls at hl ⊢
  have hl : lv_has ls 3 [(0, .ref (b + 0)), (1, .int x)] := hl
  refine lv_iload_n hx hb dX7_restore_0 rfl (lv_at hl 1 rfl) ?_
  refine xc_i (va_runS (As := [.int x]) (rest := []) ⟨hx, hb, hml, hown, hts⟩ (c_X7_isSlot l D cy b n hn M x) (va_cwS 1 hts gX7_restore_X7_isSlot rfl rfl rfl (by decide +kernel) ⟨Nat.le_of_ble_eq_true rfl, Nat.le_of_ble_eq_true rfl⟩) (xPreS hP hK hX hS) rfl rfl hl.1 rfl (lv_room (Nat.le_of_ble_eq_true rfl)) dX7_restore_1 ⟨Nat.le_of_ble_eq_true rfl, Nat.le_of_ble_eq_true rfl⟩) hS (fun H locs hP hS => ?_)
  refine lv_if_ne (tgt := 18) hx hb dX7_restore_4 (by decide) (fun c4 => ?_) (fun c4 => ?_)
  · refine lv_aload_n hx hb dX7_restore_18 rfl (lv_at hl 0 rfl) ?_
    refine xg (C := RX7) (T := TX7) (N := 6) (v := .ref (b + 102)) hx hb hts inc7 hown hK hP (by omega) (cell7 (by decide)) rfl 3 (by decide) lk0 (fun _ h => h) rfl dX7_restore_19 ?_
    refine lv_iload_n hx hb dX7_restore_22 rfl (lv_at hl 1 rfl) ?_
    refine xc_q (va_runV (As := [.int x]) (rest := []) ⟨hx, hb, hml, hown, hts⟩ (c_X5_find l D cy b n hn M x) (cwV 1 hts gX7_restore_X5_find rfl rfl rfl (by decide +kernel) ⟨Nat.le_of_ble_eq_true rfl, Nat.le_of_ble_eq_true rfl⟩) (xPreV hP hK hX hS (by omega) (cell5 (by decide)) rfl) rfl rfl hl.1 rfl (lv_room (Nat.le_of_ble_eq_true rfl)) dX7_restore_23 ⟨Nat.le_of_ble_eq_true rfl, Nat.le_of_ble_eq_true rfl⟩) hS (fun H locs hP hS => ?_)
    cases hq23 : fX5_find M x with
    | none =>
      refine W.eq (g2 := F0 m 26 ls (.null :: [])) rfl ?_
      refine lv_astore_nN (lv' := [(2, .null), (0, .ref (b + 0)), (1, .int x)]) hx hb dX7_restore_26 rfl hl (by decide) rfl (fun ls hl => ?_)
      refine lv_aload_nN hx hb dX7_restore_27 rfl (lv_at hl 0 rfl) ?_
      refine lv_ifnonnullN hx hb dX7_restore_28 ?_
      exact xthW (cls := "java/lang/IllegalStateException") (text := "nothing is saved in the slot") hx hb hl0 hown hX (by decide +kernel) (by decide +kernel) (by decide +kernel) lk1 lk2 (fun w h => hts w (at90 w h)) (by decide +kernel) (by decide +kernel) hP hS rfl (by simp only [gX7_restore, if_neg c4, hq23]) (by simp only [tX7_restore, if_neg c4, hq23]; exact Or.inr (Or.inr ⟨rfl, rfl⟩)) (hl.1.trans hml.symm) dX7_restore_31 dX7_restore_34 dX7_restore_35 dX7_restore_38 dX7_restore_41 hout (Nat.le_of_ble_eq_true rfl) (Nat.le_of_ble_eq_true rfl) (Nat.le_of_ble_eq_true rfl) (Nat.le_of_ble_eq_true rfl) hlocks (Nat.le_of_ble_eq_true rfl) (Nat.le_of_ble_eq_true rfl)
    | some o23 =>
      refine W.eq (g2 := F0 m 26 ls (.ref (b + o23) :: [])) rfl ?_
      refine lv_astore_n (lv' := [(2, .ref (b + o23)), (0, .ref (b + 0)), (1, .int x)]) hx hb dX7_restore_26 rfl hl (by decide) rfl (fun ls hl => ?_)
      refine lv_aload_n hx hb dX7_restore_27 rfl (lv_at hl 0 rfl) ?_
      refine lv_ifnonnull (tgt := 42) hx hb dX7_restore_28 (by decide) ?_
      refine lv_aload_n hx hb dX7_restore_42 rfl (lv_at hl 1 rfl) ?_
      refine xg (C := RX7) (T := TX7) (N := 6) (v := .ref (b + 20)) hx hb hts inc7 hown hK hP (by omega) (cell7 (by decide)) rfl 2 (by decide) lk3 (fun _ h => h) rfl dX7_restore_43 ?_
      refine lv_aload_n hx hb dX7_restore_46 rfl (lv_at hl 1 rfl) ?_
      refine xg (C := RX7) (T := TX7) (N := 6) (v := .ref (b + 1)) hx hb hts inc7 hown hK hP (by omega) (cell7 (by decide)) rfl 0 (by decide) lk4 (fun _ h => h) rfl dX7_restore_47 ?_
      refine xc_v (va_runV (As := [.ref (b + 1)]) (rest := []) ⟨hx, hb, hml, hown, hts⟩ (c_X0_record l D cy b n hn M 1 (by decide) hnx hcnt) (cwV 1 hts gX7_restore_X0_record rfl rfl rfl (by decide +kernel) ⟨Nat.le_of_ble_eq_true rfl, Nat.le_of_ble_eq_true rfl⟩) (xPreV hP hK hX hS (by omega) (cell0 (by decide)) rfl) rfl rfl hl.1 rfl (lv_room (Nat.le_of_ble_eq_true rfl)) dX7_restore_50 ⟨Nat.le_of_ble_eq_true rfl, Nat.le_of_ble_eq_true rfl⟩) hS (fun H locs hP hS => ?_)
      refine lv_aload_n hx hb dX7_restore_53 rfl (lv_at hl 1 rfl) ?_
      refine xg (C := RX7) (T := TX7) (N := 6) (v := .ref (b + 1)) hx hb hts inc7 hown hK hP (by omega) (cell7 (by decide)) rfl 0 (by decide) lk4 (fun _ h => h) rfl dX7_restore_54 ?_
      refine lv_aload_n hx hb dX7_restore_57 rfl (lv_at hl 0 rfl) ?_
      refine xc_v (va_runV (As := [.ref (b + o23)]) (rest := []) ⟨hx, hb, hml, hown, hts⟩ (c_X4_copyFrom l D cy b n hn (gX0_record M 1) 1 o23 (by decide) (slot_kd hq23) (rec_slot hcnt hnx hsc hq23)) (cwV 1 hts gX7_restore_X4_copyFrom rfl rfl rfl (by decide +kernel) ⟨Nat.le_of_ble_eq_true rfl, Nat.le_of_ble_eq_true rfl⟩) (xPreV hP hK hX hS (by omega) (cell4 (by decide)) rfl) rfl rfl hl.1 rfl (lv_room (Nat.le_of_ble_eq_true rfl)) dX7_restore_58 ⟨Nat.le_of_ble_eq_true rfl, Nat.le_of_ble_eq_true rfl⟩) hS (fun H locs hP hS => ?_)
      refine lv_aload_n hx hb dX7_restore_61 rfl (lv_at hl 1 rfl) ?_
      refine xg (C := RX7) (T := TX7) (N := 6) (v := .ref (b + 1)) hx hb hts inc7 hown hK hP (by omega) (cell7 (by decide)) rfl 0 (by decide) lk4 (fun _ h => h) rfl dX7_restore_62 ?_
      refine xg (C := RX4) (T := TX4) (N := 8) (v := .int ((gX4_copyFrom (gX0_record M 1) 1 o23) 1 2)) hx hb hts inc4 hown hK hP (by omega) (cell4 (by decide)) rfl 2 (by decide) lk5 (fun _ h => h) rfl dX7_restore_65 ?_
      exact xt_i hx hb hr hlocks hP hS rfl (by simp only [tX7_restore, if_neg c4, hq23]) (by simp only [gX7_restore, if_neg c4, hq23]) (by simp only [fX7_restore, if_neg c4, hq23]) rfl (Nat.le_of_ble_eq_true rfl) (Nat.le_of_ble_eq_true rfl) dX7_restore_68
  · exact xthW (cls := "java/lang/IndexOutOfBoundsException") (text := "no such slot") hx hb hl0 hown hX (by decide +kernel) (by decide +kernel) (by decide +kernel) lk6 lk7 (fun w h => hts w (at100 w h)) (by decide +kernel) (by decide +kernel) hP hS rfl (by rw [gX7_restore, if_pos c4] <;> rfl) (by rw [tX7_restore, if_pos c4]; exact Or.inl ⟨rfl, rfl⟩) (hl.1.trans hml.symm) dX7_restore_7 dX7_restore_10 dX7_restore_11 dX7_restore_14 dX7_restore_17 hout (Nat.le_of_ble_eq_true rfl) (Nat.le_of_ble_eq_true rfl) (Nat.le_of_ble_eq_true rfl) (Nat.le_of_ble_eq_true rfl) hlocks (Nat.le_of_ble_eq_true rfl) (Nat.le_of_ble_eq_true rfl)
def fX7_undo (M : Mem) : Int32 := if (M 20 2) = 0 then 0 else ((gX0_takeBack M 1) 20 2)
def gX7_undo (M : Mem) : Mem := if (M 20 2) = 0 then M else (gX0_takeBack M 1)
def tX7_undo (M : Mem) : Nat := if (M 20 2) = 0 then 3 else 0
set_option maxHeartbeats 4000000 in
set_option maxRecDepth 100000 in
theorem c_X7_undo (l : Launch) (hl0 : l.stackTraces = false) (D : va_G) (cy : Nat → ClassId) (b n : Nat) (hn : 124 ≤ n) (M : Mem)  (hnx : UB (M 20 1) 9) (hh : HC10 M) : vx_Met l yX7_undo wsX7_undo ({ frames := 6, cells := 1, slots := 6, locals := 90 } : Room) (CP D cy b n fT M [.ref (b + 0)]) (CTi D cy b n fT (tX7_undo M) (fX7_undo M) (gX7_undo M)) (CX D cy b n fT (tX7_undo M) (gX7_undo M)) 1 6 (fr b) := by
  refine vx_ofW (cc := cX7_undo) (maxL := 1) (ret := (some .int)) (by decide) rfl ?_
  intro p e s m args below meth c s₁ B hml hout hv
  obtain ⟨rfl, hP, hK, hX⟩ := hv
  have hx := B.exec
  have hb := B.bytes
  have hr := B.returns
  have hts := atoms_spec (ws := wsX7_undo) B.pre
  have hown : s.vm.findClass RX7 = some m.cls := findClass_of_methodNamed B.named
  have hlocks := B.notSynchronized
  have lk0 := hts (.fieldLink RX7 26 "HygrometerRoom" "history" "LHygrometerRoom$History;") (by decide +kernel)
  have lk1 := hts (.fieldLink RX7 291 "HygrometerRoom$History" "kept" "I") (by decide +kernel)
  have lk2 := hts (.fieldLink RX7 10 "HygrometerRoom" "room" "LHygrometerRoom$Room;") (by decide +kernel)
  have lk3 := hts (.classLink RX7 86 "java/lang/IllegalStateException") (by decide +kernel)
  have lk4 := hts (.initialized "java/lang/IllegalStateException") (by decide +kernel)
  have at90 : ∀ w ∈ (vx_atS RX7 90 "java/lang/IllegalStateException" ["java/lang/RuntimeException", "java/lang/Exception"]).filter goodWord, w ∈ wsX7_undo := by decide +kernel
  have inc0 : ∀ w ∈ u_ws RX0 TX0 3, w ∈ wsX7_undo := by decide +kernel
  have inc7 : ∀ w ∈ u_ws RX7 TX7 6, w ∈ wsX7_undo := by decide +kernel
  have hS : va_S (fr b) s.heap s.heap [] := va_S.rf
  have hl := lv_entry ([.ref (b + 0)]) (n := 1) (Nat.le_of_ble_eq_true rfl)
  rw [lg_entry_eq]
  generalize (lg_sl ([.ref (b + 0)]) ++ List.replicate (1 - (lg_sl ([.ref (b + 0)])).length) Slot.unset).toArray = ls at hl ⊢
  have hl : lv_has ls 1 [(0, .ref (b + 0))] := hl
  refine lv_aload_n hx hb dX7_undo_0 rfl (lv_at hl 0 rfl) ?_
  refine xg (C := RX7) (T := TX7) (N := 6) (v := .ref (b + 20)) hx hb hts inc7 hown hK hP (by omega) (cell7 (by decide)) rfl 2 (by decide) lk0 (fun _ h => h) rfl dX7_undo_1 ?_
  refine xg (C := RX0) (T := TX0) (N := 3) (v := .int (M 20 2)) hx hb hts inc0 hown hK hP (by omega) (cell0 (by decide)) rfl 2 (by decide) lk1 (fun _ h => h) rfl dX7_undo_4 ?_
  refine lv_if_ne (tgt := 21) hx hb dX7_undo_7 (by decide) (fun c7 => ?_) (fun c7 => ?_)
  · refine lv_aload_n hx hb dX7_undo_21 rfl (lv_at hl 0 rfl) ?_
    refine xg (C := RX7) (T := TX7) (N := 6) (v := .ref (b + 20)) hx hb hts inc7 hown hK hP (by omega) (cell7 (by decide)) rfl 2 (by decide) lk0 (fun _ h => h) rfl dX7_undo_22 ?_
    refine lv_aload_n hx hb dX7_undo_25 rfl (lv_at hl 0 rfl) ?_
    refine xg (C := RX7) (T := TX7) (N := 6) (v := .ref (b + 1)) hx hb hts inc7 hown hK hP (by omega) (cell7 (by decide)) rfl 0 (by decide) lk2 (fun _ h => h) rfl dX7_undo_26 ?_
    refine xc_v (va_runV (As := [.ref (b + 1)]) (rest := []) ⟨hx, hb, hml, hown, hts⟩ (c_X0_takeBack l D cy b n hn M 1 (by decide) hnx hh) (cwV 1 hts gX7_undo_X0_takeBack rfl rfl rfl (by decide +kernel) ⟨Nat.le_of_ble_eq_true rfl, Nat.le_of_ble_eq_true rfl⟩) (xPreV hP hK hX hS (by omega) (cell0 (by decide)) rfl) rfl rfl hl.1 rfl (lv_room (Nat.le_of_ble_eq_true rfl)) dX7_undo_29 ⟨Nat.le_of_ble_eq_true rfl, Nat.le_of_ble_eq_true rfl⟩) hS (fun H locs hP hS => ?_)
    refine lv_aload_n hx hb dX7_undo_32 rfl (lv_at hl 0 rfl) ?_
    refine xg (C := RX7) (T := TX7) (N := 6) (v := .ref (b + 20)) hx hb hts inc7 hown hK hP (by omega) (cell7 (by decide)) rfl 2 (by decide) lk0 (fun _ h => h) rfl dX7_undo_33 ?_
    refine xg (C := RX0) (T := TX0) (N := 3) (v := .int ((gX0_takeBack M 1) 20 2)) hx hb hts inc0 hown hK hP (by omega) (cell0 (by decide)) rfl 2 (by decide) lk1 (fun _ h => h) rfl dX7_undo_36 ?_
    exact xt_i hx hb hr hlocks hP hS rfl (by rw [tX7_undo, if_neg c7] <;> rfl) (by rw [gX7_undo, if_neg c7] <;> rfl) (by rw [fX7_undo, if_neg c7] <;> rfl) rfl (Nat.le_of_ble_eq_true rfl) (Nat.le_of_ble_eq_true rfl) dX7_undo_39
  · exact xthW (cls := "java/lang/IllegalStateException") (text := "there is no change to undo") hx hb hl0 hown hX (by decide +kernel) (by decide +kernel) (by decide +kernel) lk3 lk4 (fun w h => hts w (at90 w h)) (by decide +kernel) (by decide +kernel) hP hS rfl (by rw [gX7_undo, if_pos c7] <;> rfl) (by rw [tX7_undo, if_pos c7]; exact Or.inr (Or.inr ⟨rfl, rfl⟩)) (hl.1.trans hml.symm) dX7_undo_10 dX7_undo_13 dX7_undo_14 dX7_undo_17 dX7_undo_20 hout (Nat.le_of_ble_eq_true rfl) (Nat.le_of_ble_eq_true rfl) (Nat.le_of_ble_eq_true rfl) (Nat.le_of_ble_eq_true rfl) hlocks (Nat.le_of_ble_eq_true rfl) (Nat.le_of_ble_eq_true rfl)
def fX7_save (M : Mem) (x : Int32) : Int32 := if (fX7_isSlot M x) = 0 then 0 else ((gX5_keep M x 1) 1 2)
def gX7_save (M : Mem) (x : Int32) : Mem := if (fX7_isSlot M x) = 0 then M else (gX5_keep M x 1)
def tX7_save (M : Mem) (x : Int32) : Nat := if (fX7_isSlot M x) = 0 then 1 else 0
set_option maxHeartbeats 4000000 in
set_option maxRecDepth 100000 in
theorem c_X7_save (l : Launch) (hl0 : l.stackTraces = false) (D : va_G) (cy : Nat → ClassId) (b n : Nat) (hn : 124 ≤ n) (M : Mem) (x : Int32) (hcnt : CNT M 1) : vx_Met l yX7_save wsX7_save ({ frames := 6, cells := 1, slots := 6, locals := 90 } : Room) (CP D cy b n fT M [.ref (b + 0), .int x]) (CTi D cy b n fT (tX7_save M x) (fX7_save M x) (gX7_save M x)) (CX D cy b n fT (tX7_save M x) (gX7_save M x)) 1 6 (fr b) := by
  refine vx_ofW (cc := cX7_save) (maxL := 2) (ret := (some .int)) (by decide) rfl ?_
  intro p e s m args below meth c s₁ B hml hout hv
  obtain ⟨rfl, hP, hK, hX⟩ := hv
  have hx := B.exec
  have hb := B.bytes
  have hr := B.returns
  have hts := atoms_spec (ws := wsX7_save) B.pre
  have hown : s.vm.findClass RX7 = some m.cls := findClass_of_methodNamed B.named
  have hlocks := B.notSynchronized
  have lk0 := hts (.fieldLink RX7 33 "HygrometerRoom" "slots" "LHygrometerRoom$Slots;") (by decide +kernel)
  have lk1 := hts (.fieldLink RX7 10 "HygrometerRoom" "room" "LHygrometerRoom$Room;") (by decide +kernel)
  have lk2 := hts (.fieldLink RX7 129 "HygrometerRoom$Room" "minute" "I") (by decide +kernel)
  have lk3 := hts (.classLink RX7 96 "java/lang/IndexOutOfBoundsException") (by decide +kernel)
  have lk4 := hts (.initialized "java/lang/IndexOutOfBoundsException") (by decide +kernel)
  have at100 : ∀ w ∈ (vx_atS RX7 100 "java/lang/IndexOutOfBoundsException" ["java/lang/RuntimeException", "java/lang/Exception"]).filter goodWord, w ∈ wsX7_save := by decide +kernel
  have inc4 : ∀ w ∈ u_ws RX4 TX4 8, w ∈ wsX7_save := by decide +kernel
  have inc7 : ∀ w ∈ u_ws RX7 TX7 6, w ∈ wsX7_save := by decide +kernel
  have hS : va_S (fr b) s.heap s.heap [] := va_S.rf
  have hl := lv_entry ([.ref (b + 0), .int x]) (n := 2) (Nat.le_of_ble_eq_true rfl)
  rw [lg_entry_eq]
  generalize (lg_sl ([.ref (b + 0), .int x]) ++ List.replicate (2 - (lg_sl ([.ref (b + 0), .int x])).length) Slot.unset).toArray = ls at hl ⊢
  have hl : lv_has ls 2 [(0, .ref (b + 0)), (1, .int x)] := hl
  refine lv_iload_n hx hb dX7_save_0 rfl (lv_at hl 1 rfl) ?_
  refine xc_i (va_runS (As := [.int x]) (rest := []) ⟨hx, hb, hml, hown, hts⟩ (c_X7_isSlot l D cy b n hn M x) (va_cwS 1 hts gX7_save_X7_isSlot rfl rfl rfl (by decide +kernel) ⟨Nat.le_of_ble_eq_true rfl, Nat.le_of_ble_eq_true rfl⟩) (xPreS hP hK hX hS) rfl rfl hl.1 rfl (lv_room (Nat.le_of_ble_eq_true rfl)) dX7_save_1 ⟨Nat.le_of_ble_eq_true rfl, Nat.le_of_ble_eq_true rfl⟩) hS (fun H locs hP hS => ?_)
  refine lv_if_ne (tgt := 18) hx hb dX7_save_4 (by decide) (fun c4 => ?_) (fun c4 => ?_)
  · refine lv_aload_n hx hb dX7_save_18 rfl (lv_at hl 0 rfl) ?_
    refine xg (C := RX7) (T := TX7) (N := 6) (v := .ref (b + 102)) hx hb hts inc7 hown hK hP (by omega) (cell7 (by decide)) rfl 3 (by decide) lk0 (fun _ h => h) rfl dX7_save_19 ?_
    refine lv_iload_n hx hb dX7_save_22 rfl (lv_at hl 1 rfl) ?_
    refine lv_aload_n hx hb dX7_save_23 rfl (lv_at hl 0 rfl) ?_
    refine xg (C := RX7) (T := TX7) (N := 6) (v := .ref (b + 1)) hx hb hts inc7 hown hK hP (by omega) (cell7 (by decide)) rfl 0 (by decide) lk1 (fun _ h => h) rfl dX7_save_24 ?_
    refine xc_v (va_runV (As := [.int x, .ref (b + 1)]) (rest := []) ⟨hx, hb, hml, hown, hts⟩ (c_X5_keep l D cy b n hn M x 1 (by decide) hcnt) (cwV 2 hts gX7_save_X5_keep rfl rfl rfl (by decide +kernel) ⟨Nat.le_of_ble_eq_true rfl, Nat.le_of_ble_eq_true rfl⟩) (xPreV hP hK hX hS (by omega) (cell5 (by decide)) rfl) rfl rfl hl.1 rfl (lv_room (Nat.le_of_ble_eq_true rfl)) dX7_save_27 ⟨Nat.le_of_ble_eq_true rfl, Nat.le_of_ble_eq_true rfl⟩) hS (fun H locs hP hS => ?_)
    refine lv_aload_n hx hb dX7_save_30 rfl (lv_at hl 0 rfl) ?_
    refine xg (C := RX7) (T := TX7) (N := 6) (v := .ref (b + 1)) hx hb hts inc7 hown hK hP (by omega) (cell7 (by decide)) rfl 0 (by decide) lk1 (fun _ h => h) rfl dX7_save_31 ?_
    refine xg (C := RX4) (T := TX4) (N := 8) (v := .int ((gX5_keep M x 1) 1 2)) hx hb hts inc4 hown hK hP (by omega) (cell4 (by decide)) rfl 2 (by decide) lk2 (fun _ h => h) rfl dX7_save_34 ?_
    exact xt_i hx hb hr hlocks hP hS rfl (by rw [tX7_save, if_neg c4] <;> rfl) (by rw [gX7_save, if_neg c4] <;> rfl) (by rw [fX7_save, if_neg c4] <;> rfl) rfl (Nat.le_of_ble_eq_true rfl) (Nat.le_of_ble_eq_true rfl) dX7_save_37
  · exact xthW (cls := "java/lang/IndexOutOfBoundsException") (text := "no such slot") hx hb hl0 hown hX (by decide +kernel) (by decide +kernel) (by decide +kernel) lk3 lk4 (fun w h => hts w (at100 w h)) (by decide +kernel) (by decide +kernel) hP hS rfl (by rw [gX7_save, if_pos c4] <;> rfl) (by rw [tX7_save, if_pos c4]; exact Or.inl ⟨rfl, rfl⟩) (hl.1.trans hml.symm) dX7_save_7 dX7_save_10 dX7_save_11 dX7_save_14 dX7_save_17 hout (Nat.le_of_ble_eq_true rfl) (Nat.le_of_ble_eq_true rfl) (Nat.le_of_ble_eq_true rfl) (Nat.le_of_ble_eq_true rfl) hlocks (Nat.le_of_ble_eq_true rfl) (Nat.le_of_ble_eq_true rfl)

