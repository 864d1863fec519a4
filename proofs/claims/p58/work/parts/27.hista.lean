/-! the history and the slots -/
theorem ub_lt9 {x : Int32} (h : UB x 9) : x.toNatClampNeg < 10 := Nat.lt_succ_of_le (ub_at h)
theorem ub_pred {x : Int32} {N : Nat} (h : UB x N) (hc : ¬ x ≤ 0) (hN : N < 2 ^ 31 := by decide) : UB (x - 1) N := by
  obtain ⟨k, hk, rfl⟩ := h
  rw [show (0 : Int32) = nI 0 from rfl, nI_leI (by omega) (by omega)] at hc
  exact ⟨k - 1, by omega, by rw [show (1 : Int32) = nI 1 from rfl, pk_sub (by omega)]⟩
def HC10 (M : Mem) : Prop := ∀ i, i < 10 → CNT M (22 + 8 * i)
def SC2 (M : Mem) : Prop := ∀ i, i < 2 → CNT M (105 + 8 * i)
def gX0_forget (M : Mem) : Mem := mU (mU M 20 1 (0 : Int32)) 20 2 (0 : Int32)
set_option maxHeartbeats 4000000 in
set_option maxRecDepth 100000 in
theorem c_X0_forget (l : Launch) (D : va_G) (cy : Nat → ClassId) (b n : Nat) (hn : 124 ≤ n) (M : Mem)   : Met l yX0_forget wsX0_forget ({ frames := 0, cells := 0, slots := 0, locals := 0 } : Room) (CP D cy b n fT M [.ref (b + 20)]) (CQv D cy b n fT (gX0_forget M)) 0 0 (fr b) := by
  refine Met.ofW (cc := cX0_forget) (maxL := 1) (ret := none) (by decide) rfl ?_
  intro p e s m args below meth c s₁ B hml hv
  obtain ⟨rfl, hP, hK, hX⟩ := hv
  have hx := B.exec
  have hb := B.bytes
  have hr := B.returns
  have hts := atoms_spec (ws := wsX0_forget) B.pre
  have hown : s.vm.findClass RX0 = some m.cls := findClass_of_methodNamed B.named
  have hlocks := B.notSynchronized
  have lk0 := hts (.fieldLink RX0 18 "HygrometerRoom$History" "next" "I") (by decide +kernel)
  have lk1 := hts (.fieldLink RX0 22 "HygrometerRoom$History" "kept" "I") (by decide +kernel)
  have inc0 : ∀ w ∈ u_ws RX0 TX0 3, w ∈ wsX0_forget := by decide +kernel
  have hS : va_S (fr b) s.heap s.heap [] := va_S.rf
  have hl := lv_entry ([.ref (b + 20)]) (n := 1) (Nat.le_of_ble_eq_true rfl)
  rw [lg_entry_eq]
  generalize (lg_sl ([.ref (b + 20)]) ++ List.replicate (1 - (lg_sl ([.ref (b + 20)])).length) Slot.unset).toArray = ls at hl ⊢
  have hl : lv_has ls 1 [(0, .ref (b + 20))] := hl
  refine lv_aload_n hx hb dX0_forget_0 rfl (lv_at hl 0 rfl) ?_
  refine lv_iconst (v := 0) hx hb dX0_forget_1 (by decide) ?_
  refine xp (C := RX0) (T := TX0) (N := 3) (ci := 0) (ty := .int) (x := (0 : Int32)) hx hb hts inc0 tyX0 tyX0_ok nmX0 hown hK hP hS (by omega) (fun _ => cell0 (by decide)) rfl 1 (by decide) rfl lk0 (fun _ h => h) rfl (tyX0_ok 1 (by decide)) rfl rfl (Nat.le_of_ble_eq_true rfl) dX0_forget_2 (fun H locs hP hS => ?_)
  refine lv_aload_n hx hb dX0_forget_5 rfl (lv_at hl 0 rfl) ?_
  refine lv_iconst (v := 0) hx hb dX0_forget_6 (by decide) ?_
  refine xp (C := RX0) (T := TX0) (N := 3) (ci := 0) (ty := .int) (x := (0 : Int32)) hx hb hts inc0 tyX0 tyX0_ok nmX0 hown hK hP hS (by omega) (fun _ => cell0 (by decide)) rfl 2 (by decide) rfl lk1 (fun _ h => h) rfl (tyX0_ok 2 (by decide)) rfl rfl (Nat.le_of_ble_eq_true rfl) dX0_forget_7 (fun H locs hP hS => ?_)
  exact xe_v hx hb hr hlocks hP hS rfl (by rw [gX0_forget] <;> rfl) (Nat.le_of_ble_eq_true rfl) (Nat.le_of_ble_eq_true rfl) dX0_forget_10
def gX0_record (M : Mem) (q : Nat) : Mem := if (10 : Int32) ≤ (((gX4_copyFrom M (22 + 8 * ((M 20 1).toNatClampNeg)) q) 20 1) + (1 : Int32)) then (mU (mU (gX4_copyFrom M (22 + 8 * ((M 20 1).toNatClampNeg)) q) 20 1 (0 : Int32)) 20 2 (xmin (10 : Int32) (((mU (gX4_copyFrom M (22 + 8 * ((M 20 1).toNatClampNeg)) q) 20 1 (0 : Int32)) 20 2) + (1 : Int32)))) else (mU (mU (gX4_copyFrom M (22 + 8 * ((M 20 1).toNatClampNeg)) q) 20 1 (((gX4_copyFrom M (22 + 8 * ((M 20 1).toNatClampNeg)) q) 20 1) + (1 : Int32))) 20 2 (xmin (10 : Int32) (((mU (gX4_copyFrom M (22 + 8 * ((M 20 1).toNatClampNeg)) q) 20 1 (((gX4_copyFrom M (22 + 8 * ((M 20 1).toNatClampNeg)) q) 20 1) + (1 : Int32))) 20 2) + (1 : Int32))))
set_option maxHeartbeats 4000000 in
set_option maxRecDepth 100000 in
theorem c_X0_record (l : Launch) (D : va_G) (cy : Nat → ClassId) (b n : Nat) (hn : 124 ≤ n) (M : Mem) (q : Nat) (h_q : kd q = 4) (hnx : UB (M 20 1) 9) (hcq : CNT M q) : Met l yX0_record wsX0_record ({ frames := 2, cells := 0, slots := 0, locals := 43 } : Room) (CP D cy b n fT M [.ref (b + 20), .ref (b + q)]) (CQv D cy b n fT (gX0_record M q)) 0 0 (fr b) := by
  refine Met.ofW (cc := cX0_record) (maxL := 2) (ret := none) (by decide) rfl ?_
  intro p e s m args below meth c s₁ B hml hv
  obtain ⟨rfl, hP, hK, hX⟩ := hv
  have hx := B.exec
  have hb := B.bytes
  have hr := B.returns
  have hts := atoms_spec (ws := wsX0_record) B.pre
  have hown : s.vm.findClass RX0 = some m.cls := findClass_of_methodNamed B.named
  have hlocks := B.notSynchronized
  have lk0 := hts (.fieldLink RX0 11 "HygrometerRoom$History" "past" "[LHygrometerRoom$Room;") (by decide +kernel)
  have lk1 := hts (.fieldLink RX0 18 "HygrometerRoom$History" "next" "I") (by decide +kernel)
  have lk2 := hts (.fieldLink RX0 22 "HygrometerRoom$History" "kept" "I") (by decide +kernel)
  have lk3 := hts (.methodLink RX0 29 Lib.Math.min.name) (by decide +kernel)
  have lk4 := hts (.static Lib.Math.min.name) (by decide +kernel)
  have lk5 := hts (.initialized "java/lang/Math") (by decide +kernel)
  have lk6 := hts (.code Lib.Math.min.name Lib.Math.min.code 2 (some .int)) (by decide +kernel)
  have inc0 : ∀ w ∈ u_ws RX0 TX0 3, w ∈ wsX0_record := by decide +kernel
  have hS : va_S (fr b) s.heap s.heap [] := va_S.rf
  have hl := lv_entry ([.ref (b + 20), .ref (b + q)]) (n := 2) (Nat.le_of_ble_eq_true rfl)
  rw [lg_entry_eq]
  generalize (lg_sl ([.ref (b + 20), .ref (b + q)]) ++ List.replicate (2 - (lg_sl ([.ref (b + 20), .ref (b + q)])).length) Slot.unset).toArray = ls at hl ⊢
  have hl : lv_has ls 2 [(0, .ref (b + 20)), (1, .ref (b + q))] := hl
  refine lv_aload_n hx hb dX0_record_0 rfl (lv_at hl 0 rfl) ?_
  refine xg (C := RX0) (T := TX0) (N := 3) (v := .ref (b + 21)) hx hb hts inc0 hown hK hP (by omega) (cell0 (by decide)) rfl 0 (by decide) lk0 (fun _ h => h) rfl dX0_record_1 ?_
  refine lv_aload_n hx hb dX0_record_4 rfl (lv_at hl 0 rfl) ?_
  refine xg (C := RX0) (T := TX0) (N := 3) (v := .int (M 20 1)) hx hb hts inc0 hown hK hP (by omega) (cell0 (by decide)) rfl 1 (by decide) lk1 (fun _ h => h) rfl dX0_record_5 ?_
  refine xml (j := (M 20 1).toNatClampNeg) (v := 22) hx hb hK hP (by omega) (by decide) (vin_cl (ub_ge hnx) (ub_lt9 hnx)) rfl rfl dX0_record_8 ?_
  refine lv_aload_n hx hb dX0_record_9 rfl (lv_at hl 1 rfl) ?_
  refine xc_v (va_runV (As := [.ref (b + q)]) (rest := []) ⟨hx, hb, hml, hown, hts⟩ (c_X4_copyFrom l D cy b n hn M (22 + 8 * ((M 20 1).toNatClampNeg)) q (kd_his _ (ub_lt9 hnx)) h_q hcq) (cwV 1 hts gX0_record_X4_copyFrom rfl rfl rfl (by decide +kernel) ⟨Nat.le_of_ble_eq_true rfl, Nat.le_of_ble_eq_true rfl⟩) (xPreV hP hK hX hS (kR_lt (kd_his _ (ub_lt9 hnx)) hn) (cell4 (kd_his _ (ub_lt9 hnx))) rfl) rfl rfl hl.1 rfl (lv_room (Nat.le_of_ble_eq_true rfl)) dX0_record_10 ⟨Nat.le_of_ble_eq_true rfl, Nat.le_of_ble_eq_true rfl⟩) hS (fun H locs hP hS => ?_)
  refine lv_aload_n hx hb dX0_record_13 rfl (lv_at hl 0 rfl) ?_
  refine lv_aload_n hx hb dX0_record_14 rfl (lv_at hl 0 rfl) ?_
  refine xg (C := RX0) (T := TX0) (N := 3) (v := .int ((gX4_copyFrom M (22 + 8 * ((M 20 1).toNatClampNeg)) q) 20 1)) hx hb hts inc0 hown hK hP (by omega) (cell0 (by decide)) rfl 1 (by decide) lk1 (fun _ h => h) rfl dX0_record_15 ?_
  refine lv_iconst (v := 1) hx hb dX0_record_18 (by decide) ?_
  refine lv_iadd hx hb dX0_record_19 ?_
  refine lv_aload_n hx hb dX0_record_20 rfl (lv_at hl 0 rfl) ?_
  refine xg (C := RX0) (T := TX0) (N := 3) (v := .ref (b + 21)) hx hb hts inc0 hown hK hP (by omega) (cell0 (by decide)) rfl 0 (by decide) lk0 (fun _ h => h) rfl dX0_record_21 ?_
  refine xlen (v := 10) hx hb hK hP (by omega) 4 (cell14 (by decide)) rfl rfl dX0_record_24 ?_
  refine lv_icmp_ge (tgt := 37) hx hb dX0_record_25 (by decide) (fun c25 => ?_) (fun c25 => ?_)
  · refine lv_iconst (v := 0) hx hb dX0_record_37 (by decide) ?_
    refine xp (C := RX0) (T := TX0) (N := 3) (ci := 0) (ty := .int) (x := (0 : Int32)) hx hb hts inc0 tyX0 tyX0_ok nmX0 hown hK hP hS (by omega) (fun _ => cell0 (by decide)) rfl 1 (by decide) rfl lk1 (fun _ h => h) rfl (tyX0_ok 1 (by decide)) rfl rfl (Nat.le_of_ble_eq_true rfl) dX0_record_38 (fun H locs hP hS => ?_)
    refine lv_aload_n hx hb dX0_record_41 rfl (lv_at hl 0 rfl) ?_
    refine lv_aload_n hx hb dX0_record_42 rfl (lv_at hl 0 rfl) ?_
    refine xg (C := RX0) (T := TX0) (N := 3) (v := .ref (b + 21)) hx hb hts inc0 hown hK hP (by omega) (cell0 (by decide)) rfl 0 (by decide) lk0 (fun _ h => h) rfl dX0_record_43 ?_
    refine xlen (v := 10) hx hb hK hP (by omega) 4 (cell14 (by decide)) rfl rfl dX0_record_46 ?_
    refine lv_aload_n hx hb dX0_record_47 rfl (lv_at hl 0 rfl) ?_
    refine xg (C := RX0) (T := TX0) (N := 3) (v := .int ((mU (gX4_copyFrom M (22 + 8 * ((M 20 1).toNatClampNeg)) q) 20 1 (0 : Int32)) 20 2)) hx hb hts inc0 hown hK hP (by omega) (cell0 (by decide)) rfl 2 (by decide) lk2 (fun _ h => h) rfl dX0_record_48 ?_
    refine lv_iconst (v := 1) hx hb dX0_record_51 (by decide) ?_
    refine lv_iadd hx hb dX0_record_52 ?_
    refine x_mmin hx hb (hml.trans hl.1.symm) hown lk3 lk4 lk5 lk6 (Nat.le_of_ble_eq_true rfl) (Nat.le_of_ble_eq_true rfl) (Nat.le_of_ble_eq_true rfl) (Nat.le_of_ble_eq_true rfl) dX0_record_53 ?_
    refine xp (C := RX0) (T := TX0) (N := 3) (ci := 0) (ty := .int) (x := xmin (10 : Int32) (((mU (gX4_copyFrom M (22 + 8 * ((M 20 1).toNatClampNeg)) q) 20 1 (0 : Int32)) 20 2) + (1 : Int32))) hx hb hts inc0 tyX0 tyX0_ok nmX0 hown hK hP hS (by omega) (fun _ => cell0 (by decide)) rfl 2 (by decide) rfl lk2 (fun _ h => h) rfl (tyX0_ok 2 (by decide)) rfl rfl (Nat.le_of_ble_eq_true rfl) dX0_record_56 (fun H locs hP hS => ?_)
    exact xe_v hx hb hr hlocks hP hS rfl (by rw [gX0_record, if_pos c25] <;> rfl) (Nat.le_of_ble_eq_true rfl) (Nat.le_of_ble_eq_true rfl) dX0_record_59
  · refine lv_aload_n hx hb dX0_record_28 rfl (lv_at hl 0 rfl) ?_
    refine xg (C := RX0) (T := TX0) (N := 3) (v := .int ((gX4_copyFrom M (22 + 8 * ((M 20 1).toNatClampNeg)) q) 20 1)) hx hb hts inc0 hown hK hP (by omega) (cell0 (by decide)) rfl 1 (by decide) lk1 (fun _ h => h) rfl dX0_record_29 ?_
    refine lv_iconst (v := 1) hx hb dX0_record_32 (by decide) ?_
    refine lv_iadd hx hb dX0_record_33 ?_
    refine lv_goto (tgt := 38) hx hb dX0_record_34 (by decide) ?_
    refine xp (C := RX0) (T := TX0) (N := 3) (ci := 0) (ty := .int) (x := ((gX4_copyFrom M (22 + 8 * ((M 20 1).toNatClampNeg)) q) 20 1) + (1 : Int32)) hx hb hts inc0 tyX0 tyX0_ok nmX0 hown hK hP hS (by omega) (fun _ => cell0 (by decide)) rfl 1 (by decide) rfl lk1 (fun _ h => h) rfl (tyX0_ok 1 (by decide)) rfl rfl (Nat.le_of_ble_eq_true rfl) dX0_record_38 (fun H locs hP hS => ?_)
    refine lv_aload_n hx hb dX0_record_41 rfl (lv_at hl 0 rfl) ?_
    refine lv_aload_n hx hb dX0_record_42 rfl (lv_at hl 0 rfl) ?_
    refine xg (C := RX0) (T := TX0) (N := 3) (v := .ref (b + 21)) hx hb hts inc0 hown hK hP (by omega) (cell0 (by decide)) rfl 0 (by decide) lk0 (fun _ h => h) rfl dX0_record_43 ?_
    refine xlen (v := 10) hx hb hK hP (by omega) 4 (cell14 (by decide)) rfl rfl dX0_record_46 ?_
    refine lv_aload_n hx hb dX0_record_47 rfl (lv_at hl 0 rfl) ?_
    refine xg (C := RX0) (T := TX0) (N := 3) (v := .int ((mU (gX4_copyFrom M (22 + 8 * ((M 20 1).toNatClampNeg)) q) 20 1 (((gX4_copyFrom M (22 + 8 * ((M 20 1).toNatClampNeg)) q) 20 1) + (1 : Int32))) 20 2)) hx hb hts inc0 hown hK hP (by omega) (cell0 (by decide)) rfl 2 (by decide) lk2 (fun _ h => h) rfl dX0_record_48 ?_
    refine lv_iconst (v := 1) hx hb dX0_record_51 (by decide) ?_
    refine lv_iadd hx hb dX0_record_52 ?_
    refine x_mmin hx hb (hml.trans hl.1.symm) hown lk3 lk4 lk5 lk6 (Nat.le_of_ble_eq_true rfl) (Nat.le_of_ble_eq_true rfl) (Nat.le_of_ble_eq_true rfl) (Nat.le_of_ble_eq_true rfl) dX0_record_53 ?_
    refine xp (C := RX0) (T := TX0) (N := 3) (ci := 0) (ty := .int) (x := xmin (10 : Int32) (((mU (gX4_copyFrom M (22 + 8 * ((M 20 1).toNatClampNeg)) q) 20 1 (((gX4_copyFrom M (22 + 8 * ((M 20 1).toNatClampNeg)) q) 20 1) + (1 : Int32))) 20 2) + (1 : Int32))) hx hb hts inc0 tyX0 tyX0_ok nmX0 hown hK hP hS (by omega) (fun _ => cell0 (by decide)) rfl 2 (by decide) rfl lk2 (fun _ h => h) rfl (tyX0_ok 2 (by decide)) rfl rfl (Nat.le_of_ble_eq_true rfl) dX0_record_56 (fun H locs hP hS => ?_)
    exact xe_v hx hb hr hlocks hP hS rfl (by rw [gX0_record, if_neg c25] <;> rfl) (Nat.le_of_ble_eq_true rfl) (Nat.le_of_ble_eq_true rfl) dX0_record_59
def gX0_takeBack (M : Mem) (q : Nat) : Mem := if (M 20 1) ≤ 0 then (gX4_copyFrom (mU (mU M 20 1 ((10 : Int32) - (1 : Int32))) 20 2 (((mU M 20 1 ((10 : Int32) - (1 : Int32))) 20 2) - (1 : Int32))) q (22 + 8 * (((mU (mU M 20 1 ((10 : Int32) - (1 : Int32))) 20 2 (((mU M 20 1 ((10 : Int32) - (1 : Int32))) 20 2) - (1 : Int32))) 20 1).toNatClampNeg))) else (gX4_copyFrom (mU (mU M 20 1 ((M 20 1) - (1 : Int32))) 20 2 (((mU M 20 1 ((M 20 1) - (1 : Int32))) 20 2) - (1 : Int32))) q (22 + 8 * (((mU (mU M 20 1 ((M 20 1) - (1 : Int32))) 20 2 (((mU M 20 1 ((M 20 1) - (1 : Int32))) 20 2) - (1 : Int32))) 20 1).toNatClampNeg)))
set_option maxHeartbeats 4000000 in
set_option maxRecDepth 100000 in
theorem c_X0_takeBack (l : Launch) (D : va_G) (cy : Nat → ClassId) (b n : Nat) (hn : 124 ≤ n) (M : Mem) (q : Nat) (h_q : kd q = 4) (hnx : UB (M 20 1) 9) (hh : HC10 M) : Met l yX0_takeBack wsX0_takeBack ({ frames := 2, cells := 0, slots := 0, locals := 43 } : Room) (CP D cy b n fT M [.ref (b + 20), .ref (b + q)]) (CQv D cy b n fT (gX0_takeBack M q)) 0 0 (fr b) := by
  refine Met.ofW (cc := cX0_takeBack) (maxL := 2) (ret := none) (by decide) rfl ?_
  intro p e s m args below meth c s₁ B hml hv
  obtain ⟨rfl, hP, hK, hX⟩ := hv
  have hx := B.exec
  have hb := B.bytes
  have hr := B.returns
  have hts := atoms_spec (ws := wsX0_takeBack) B.pre
  have hown : s.vm.findClass RX0 = some m.cls := findClass_of_methodNamed B.named
  have hlocks := B.notSynchronized
  have lk0 := hts (.fieldLink RX0 18 "HygrometerRoom$History" "next" "I") (by decide +kernel)
  have lk1 := hts (.fieldLink RX0 11 "HygrometerRoom$History" "past" "[LHygrometerRoom$Room;") (by decide +kernel)
  have lk2 := hts (.fieldLink RX0 22 "HygrometerRoom$History" "kept" "I") (by decide +kernel)
  have inc0 : ∀ w ∈ u_ws RX0 TX0 3, w ∈ wsX0_takeBack := by decide +kernel
  have hS : va_S (fr b) s.heap s.heap [] := va_S.rf
  have hl := lv_entry ([.ref (b + 20), .ref (b + q)]) (n := 2) (Nat.le_of_ble_eq_true rfl)
  rw [lg_entry_eq]
  generalize (lg_sl ([.ref (b + 20), .ref (b + q)]) ++ List.replicate (2 - (lg_sl ([.ref (b + 20), .ref (b + q)])).length) Slot.unset).toArray = ls at hl ⊢
  have hl : lv_has ls 2 [(0, .ref (b + 20)), (1, .ref (b + q))] := hl
  refine lv_aload_n hx hb dX0_takeBack_0 rfl (lv_at hl 0 rfl) ?_
  refine lv_aload_n hx hb dX0_takeBack_1 rfl (lv_at hl 0 rfl) ?_
  refine xg (C := RX0) (T := TX0) (N := 3) (v := .int (M 20 1)) hx hb hts inc0 hown hK hP (by omega) (cell0 (by decide)) rfl 1 (by decide) lk0 (fun _ h => h) rfl dX0_takeBack_2 ?_
  refine lv_if_le (tgt := 17) hx hb dX0_takeBack_5 (by decide) (fun c5 => ?_) (fun c5 => ?_)
  · refine lv_aload_n hx hb dX0_takeBack_17 rfl (lv_at hl 0 rfl) ?_
    refine xg (C := RX0) (T := TX0) (N := 3) (v := .ref (b + 21)) hx hb hts inc0 hown hK hP (by omega) (cell0 (by decide)) rfl 0 (by decide) lk1 (fun _ h => h) rfl dX0_takeBack_18 ?_
    refine xlen (v := 10) hx hb hK hP (by omega) 4 (cell14 (by decide)) rfl rfl dX0_takeBack_21 ?_
    refine lv_iconst (v := 1) hx hb dX0_takeBack_22 (by decide) ?_
    refine lv_isub hx hb dX0_takeBack_23 ?_
    refine xp (C := RX0) (T := TX0) (N := 3) (ci := 0) (ty := .int) (x := (10 : Int32) - (1 : Int32)) hx hb hts inc0 tyX0 tyX0_ok nmX0 hown hK hP hS (by omega) (fun _ => cell0 (by decide)) rfl 1 (by decide) rfl lk0 (fun _ h => h) rfl (tyX0_ok 1 (by decide)) rfl rfl (Nat.le_of_ble_eq_true rfl) dX0_takeBack_24 (fun H locs hP hS => ?_)
    refine lv_aload_n hx hb dX0_takeBack_27 rfl (lv_at hl 0 rfl) ?_
    refine lv_dup hx hb dX0_takeBack_28 rfl ?_
    refine xg (C := RX0) (T := TX0) (N := 3) (v := .int ((mU M 20 1 ((10 : Int32) - (1 : Int32))) 20 2)) hx hb hts inc0 hown hK hP (by omega) (cell0 (by decide)) rfl 2 (by decide) lk2 (fun _ h => h) rfl dX0_takeBack_29 ?_
    refine lv_iconst (v := 1) hx hb dX0_takeBack_32 (by decide) ?_
    refine lv_isub hx hb dX0_takeBack_33 ?_
    refine xp (C := RX0) (T := TX0) (N := 3) (ci := 0) (ty := .int) (x := ((mU M 20 1 ((10 : Int32) - (1 : Int32))) 20 2) - (1 : Int32)) hx hb hts inc0 tyX0 tyX0_ok nmX0 hown hK hP hS (by omega) (fun _ => cell0 (by decide)) rfl 2 (by decide) rfl lk2 (fun _ h => h) rfl (tyX0_ok 2 (by decide)) rfl rfl (Nat.le_of_ble_eq_true rfl) dX0_takeBack_34 (fun H locs hP hS => ?_)
    have hn2 : UB (((mU (mU M 20 1 ((10 : Int32) - (1 : Int32))) 20 2 (((mU M 20 1 ((10 : Int32) - (1 : Int32))) 20 2) - (1 : Int32)))) 20 1) 9 := by first | exact ub_pred hnx c5 | exact ⟨9, by decide, rfl⟩
    refine lv_aload_n hx hb dX0_takeBack_37 rfl (lv_at hl 1 rfl) ?_
    refine lv_aload_n hx hb dX0_takeBack_38 rfl (lv_at hl 0 rfl) ?_
    refine xg (C := RX0) (T := TX0) (N := 3) (v := .ref (b + 21)) hx hb hts inc0 hown hK hP (by omega) (cell0 (by decide)) rfl 0 (by decide) lk1 (fun _ h => h) rfl dX0_takeBack_39 ?_
    refine lv_aload_n hx hb dX0_takeBack_42 rfl (lv_at hl 0 rfl) ?_
    refine xg (C := RX0) (T := TX0) (N := 3) (v := .int ((mU (mU M 20 1 ((10 : Int32) - (1 : Int32))) 20 2 (((mU M 20 1 ((10 : Int32) - (1 : Int32))) 20 2) - (1 : Int32))) 20 1)) hx hb hts inc0 hown hK hP (by omega) (cell0 (by decide)) rfl 1 (by decide) lk0 (fun _ h => h) rfl dX0_takeBack_43 ?_
    refine xml (j := ((mU (mU M 20 1 ((10 : Int32) - (1 : Int32))) 20 2 (((mU M 20 1 ((10 : Int32) - (1 : Int32))) 20 2) - (1 : Int32))) 20 1).toNatClampNeg) (v := 22) hx hb hK hP (by omega) (by decide) (vin_cl (ub_ge hn2) (ub_lt9 hn2)) rfl rfl dX0_takeBack_46 ?_
    refine xc_v (va_runV (As := [.ref (b + (22 + 8 * (((mU (mU M 20 1 ((10 : Int32) - (1 : Int32))) 20 2 (((mU M 20 1 ((10 : Int32) - (1 : Int32))) 20 2) - (1 : Int32))) 20 1).toNatClampNeg)))]) (rest := []) ⟨hx, hb, hml, hown, hts⟩ (c_X4_copyFrom l D cy b n hn (mU (mU M 20 1 ((10 : Int32) - (1 : Int32))) 20 2 (((mU M 20 1 ((10 : Int32) - (1 : Int32))) 20 2) - (1 : Int32))) q (22 + 8 * (((mU (mU M 20 1 ((10 : Int32) - (1 : Int32))) 20 2 (((mU M 20 1 ((10 : Int32) - (1 : Int32))) 20 2) - (1 : Int32))) 20 1).toNatClampNeg)) h_q (kd_his _ (ub_lt9 hn2)) (cnt_putn (by omega) (cnt_putn (by omega) (hh _ (ub_lt9 hn2))))) (cwV 1 hts gX0_takeBack_X4_copyFrom rfl rfl rfl (by decide +kernel) ⟨Nat.le_of_ble_eq_true rfl, Nat.le_of_ble_eq_true rfl⟩) (xPreV hP hK hX hS (kR_lt h_q hn) (cell4 h_q) rfl) rfl rfl hl.1 rfl (lv_room (Nat.le_of_ble_eq_true rfl)) dX0_takeBack_47 ⟨Nat.le_of_ble_eq_true rfl, Nat.le_of_ble_eq_true rfl⟩) hS (fun H locs hP hS => ?_)
    exact xe_v hx hb hr hlocks hP hS rfl (by rw [gX0_takeBack, if_pos c5] <;> rfl) (Nat.le_of_ble_eq_true rfl) (Nat.le_of_ble_eq_true rfl) dX0_takeBack_50
  · refine lv_aload_n hx hb dX0_takeBack_8 rfl (lv_at hl 0 rfl) ?_
    refine xg (C := RX0) (T := TX0) (N := 3) (v := .int (M 20 1)) hx hb hts inc0 hown hK hP (by omega) (cell0 (by decide)) rfl 1 (by decide) lk0 (fun _ h => h) rfl dX0_takeBack_9 ?_
    refine lv_iconst (v := 1) hx hb dX0_takeBack_12 (by decide) ?_
    refine lv_isub hx hb dX0_takeBack_13 ?_
    refine lv_goto (tgt := 24) hx hb dX0_takeBack_14 (by decide) ?_
    refine xp (C := RX0) (T := TX0) (N := 3) (ci := 0) (ty := .int) (x := (M 20 1) - (1 : Int32)) hx hb hts inc0 tyX0 tyX0_ok nmX0 hown hK hP hS (by omega) (fun _ => cell0 (by decide)) rfl 1 (by decide) rfl lk0 (fun _ h => h) rfl (tyX0_ok 1 (by decide)) rfl rfl (Nat.le_of_ble_eq_true rfl) dX0_takeBack_24 (fun H locs hP hS => ?_)
    refine lv_aload_n hx hb dX0_takeBack_27 rfl (lv_at hl 0 rfl) ?_
    refine lv_dup hx hb dX0_takeBack_28 rfl ?_
    refine xg (C := RX0) (T := TX0) (N := 3) (v := .int ((mU M 20 1 ((M 20 1) - (1 : Int32))) 20 2)) hx hb hts inc0 hown hK hP (by omega) (cell0 (by decide)) rfl 2 (by decide) lk2 (fun _ h => h) rfl dX0_takeBack_29 ?_
    refine lv_iconst (v := 1) hx hb dX0_takeBack_32 (by decide) ?_
    refine lv_isub hx hb dX0_takeBack_33 ?_
    refine xp (C := RX0) (T := TX0) (N := 3) (ci := 0) (ty := .int) (x := ((mU M 20 1 ((M 20 1) - (1 : Int32))) 20 2) - (1 : Int32)) hx hb hts inc0 tyX0 tyX0_ok nmX0 hown hK hP hS (by omega) (fun _ => cell0 (by decide)) rfl 2 (by decide) rfl lk2 (fun _ h => h) rfl (tyX0_ok 2 (by decide)) rfl rfl (Nat.le_of_ble_eq_true rfl) dX0_takeBack_34 (fun H locs hP hS => ?_)
    have hn2 : UB (((mU (mU M 20 1 ((M 20 1) - (1 : Int32))) 20 2 (((mU M 20 1 ((M 20 1) - (1 : Int32))) 20 2) - (1 : Int32)))) 20 1) 9 := by first | exact ub_pred hnx c5 | exact ⟨9, by decide, rfl⟩
    refine lv_aload_n hx hb dX0_takeBack_37 rfl (lv_at hl 1 rfl) ?_
    refine lv_aload_n hx hb dX0_takeBack_38 rfl (lv_at hl 0 rfl) ?_
    refine xg (C := RX0) (T := TX0) (N := 3) (v := .ref (b + 21)) hx hb hts inc0 hown hK hP (by omega) (cell0 (by decide)) rfl 0 (by decide) lk1 (fun _ h => h) rfl dX0_takeBack_39 ?_
    refine lv_aload_n hx hb dX0_takeBack_42 rfl (lv_at hl 0 rfl) ?_
    refine xg (C := RX0) (T := TX0) (N := 3) (v := .int ((mU (mU M 20 1 ((M 20 1) - (1 : Int32))) 20 2 (((mU M 20 1 ((M 20 1) - (1 : Int32))) 20 2) - (1 : Int32))) 20 1)) hx hb hts inc0 hown hK hP (by omega) (cell0 (by decide)) rfl 1 (by decide) lk0 (fun _ h => h) rfl dX0_takeBack_43 ?_
    refine xml (j := ((mU (mU M 20 1 ((M 20 1) - (1 : Int32))) 20 2 (((mU M 20 1 ((M 20 1) - (1 : Int32))) 20 2) - (1 : Int32))) 20 1).toNatClampNeg) (v := 22) hx hb hK hP (by omega) (by decide) (vin_cl (ub_ge hn2) (ub_lt9 hn2)) rfl rfl dX0_takeBack_46 ?_
    refine xc_v (va_runV (As := [.ref (b + (22 + 8 * (((mU (mU M 20 1 ((M 20 1) - (1 : Int32))) 20 2 (((mU M 20 1 ((M 20 1) - (1 : Int32))) 20 2) - (1 : Int32))) 20 1).toNatClampNeg)))]) (rest := []) ⟨hx, hb, hml, hown, hts⟩ (c_X4_copyFrom l D cy b n hn (mU (mU M 20 1 ((M 20 1) - (1 : Int32))) 20 2 (((mU M 20 1 ((M 20 1) - (1 : Int32))) 20 2) - (1 : Int32))) q (22 + 8 * (((mU (mU M 20 1 ((M 20 1) - (1 : Int32))) 20 2 (((mU M 20 1 ((M 20 1) - (1 : Int32))) 20 2) - (1 : Int32))) 20 1).toNatClampNeg)) h_q (kd_his _ (ub_lt9 hn2)) (cnt_putn (by omega) (cnt_putn (by omega) (hh _ (ub_lt9 hn2))))) (cwV 1 hts gX0_takeBack_X4_copyFrom rfl rfl rfl (by decide +kernel) ⟨Nat.le_of_ble_eq_true rfl, Nat.le_of_ble_eq_true rfl⟩) (xPreV hP hK hX hS (kR_lt h_q hn) (cell4 h_q) rfl) rfl rfl hl.1 rfl (lv_room (Nat.le_of_ble_eq_true rfl)) dX0_takeBack_47 ⟨Nat.le_of_ble_eq_true rfl, Nat.le_of_ble_eq_true rfl⟩) hS (fun H locs hP hS => ?_)
    exact xe_v hx hb hr hlocks hP hS rfl (by rw [gX0_takeBack, if_neg c5] <;> rfl) (Nat.le_of_ble_eq_true rfl) (Nat.le_of_ble_eq_true rfl) dX0_takeBack_50
theorem sl_lt {j : Nat} (hc : ¬ (2 : Int32) ≤ nI j) (hj : j ≤ 2) : j < 2 := by
  rw [show (2 : Int32) = nI 2 from rfl, nI_leI (by omega) (by omega)] at hc
  omega
theorem isSlot_of {M : Mem} {x : Int32} (h : ¬ fX7_isSlot M x = 0) : ¬ x < 0 ∧ x.toNatClampNeg < 2 := by
  unfold fX7_isSlot at h
  split at h
  · exact absurd rfl h
  · rename_i h0
    split at h
    · exact absurd rfl h
    · rename_i h1
      obtain ⟨j, hj, rfl⟩ := nI_of h0
      rw [show (2 : Int32) = nI 2 from rfl, nI_leI (by decide) hj] at h1
      exact ⟨h0, by rw [nI_clamp hj]; omega⟩
def LX5_forget_2g  : Nat → Mem → Nat → Mem
  | 0, M, _ => M
  | k + 1, M, j => if (2 : Int32) ≤ (nI (j)) then M else (LX5_forget_2g k (mU M 104 j (0 : Int32)) (j + 1))
set_option maxHeartbeats 4000000 in
set_option maxRecDepth 100000 in
theorem cl_X5_forget_2 (l : Launch) (D : va_G) (cy : Nat → ClassId) (b n : Nat) (hn : 124 ≤ n)   {p : Program} {e : Env} {s : State} {m : MethodId} {args : Array Value} {below : List Frame} {meth : Method} {c : Code} (hx : p.tables.exec = Jvm.exec) (hb : c.code = cX5_forget) (hr : meth.sig.returnType = none) (hlocks : meth.locks = false) (hml : c.maxLocals = 2) (hown : s.vm.findClass RX5 = some m.cls) (hts : ∀ w ∈ wsX5_forget, w.before args s = true) (hK : va_K D vwCl (tysW cy) s) (hX : SX b s)  : ∀ (k : Nat) (M : Mem) (j : Nat) (H : Heap) (locs : List Loc) (ls : Array Slot), j ≤ 2 → 3 ≤ j + k → va_P D vwCl (wL cy b fT M n) H → va_S (fr b) s.heap H locs → lv_has ls 2 [(0, .ref (b + 102)), (1, .int (nI (j)))] → W p l e (headSpec wsX5_forget ({ frames := 0, cells := 0, slots := 0, locals := 0 } : Room)).room s m args below meth c H locs 0 0 (MQ below (CQv D cy b n fT (LX5_forget_2g k M j)) args s 0 0 (fr b)) (F0 m 2 ls []) := by
  have lk0 := hts (.fieldLink RX5 17 "HygrometerRoom$Slots" "used" "[Z") (by decide +kernel)
  have inc5 : ∀ w ∈ u_ws RX5 TX5 2, w ∈ wsX5_forget := by decide +kernel
  intro k
  induction k with
  | zero => intro M j H locs ls hj hk hP hS hl; omega
  | succ k ih =>
    intro M j H locs ls hj hk hP hS hl
    refine lv_iload_n hx hb dX5_forget_2 rfl (lv_at hl 1 rfl) ?_
    refine lv_aload_n hx hb dX5_forget_3 rfl (lv_at hl 0 rfl) ?_
    refine xg (C := RX5) (T := TX5) (N := 2) (v := .ref (b + 104)) hx hb hts inc5 hown hK hP (by omega) (cell5 (by decide)) rfl 1 (by decide) lk0 (fun _ h => h) rfl dX5_forget_4 ?_
    refine xlen (v := 2) hx hb hK hP (by omega) 2 (cell12 (by decide)) rfl rfl dX5_forget_7 ?_
    refine lv_icmp_ge (tgt := 24) hx hb dX5_forget_8 (by decide) (fun c8 => ?_) (fun c8 => ?_)
    · exact xe_v hx hb hr hlocks hP hS rfl (by rw [LX5_forget_2g, if_pos c8] <;> rfl) (Nat.le_of_ble_eq_true rfl) (Nat.le_of_ble_eq_true rfl) dX5_forget_24
    · have hj2 := sl_lt c8 hj
      refine lv_aload_n hx hb dX5_forget_11 rfl (lv_at hl 0 rfl) ?_
      refine xg (C := RX5) (T := TX5) (N := 2) (v := .ref (b + 104)) hx hb hts inc5 hown hK hP (by omega) (cell5 (by decide)) rfl 1 (by decide) lk0 (fun _ h => h) rfl dX5_forget_12 ?_
      refine lv_iload_n hx hb dX5_forget_15 rfl (lv_at hl 1 rfl) ?_
      refine lv_iconst (v := 0) hx hb dX5_forget_16 (by decide) ?_
      refine xzs (j := j) (x := (0 : Int32)) hx hb hK hP hS (by omega) (by decide) (ixIn (a := j) rfl (by first | decide | (simp only [lenOf]; omega) | omega) (by decide)) (ixAt (a := j) rfl (by omega)) rfl dX5_forget_17 (fun H locs hP hS => ?_)
      refine lv_iinc (v := nI (j + 1)) (lv' := [(1, .int (nI (j + 1))), (0, .ref (b + 102))]) hx hb dX5_forget_18 hl (k := 1) rfl (ixAdd (a := j) (c := 1) (d := j + 1) rfl rfl (by omega)) (by decide) rfl (fun ls hl => ?_)
      refine lv_goto (tgt := 2) hx hb dX5_forget_21 (by decide) ?_
      rw [show LX5_forget_2g (k + 1) M j = LX5_forget_2g k (mU M 104 j (0 : Int32)) (j + 1) from (by rw [LX5_forget_2g, if_neg c8])]
      exact ih (mU M 104 j (0 : Int32)) (j + 1) H locs ls (sl_lt c8 hj) (by omega) hP hS (lv_sub hl [1, 0] rfl)

def gX5_forget (M : Mem) : Mem := LX5_forget_2g 3 M 0
set_option maxHeartbeats 4000000 in
set_option maxRecDepth 100000 in
theorem c_X5_forget (l : Launch) (D : va_G) (cy : Nat → ClassId) (b n : Nat) (hn : 124 ≤ n) (M : Mem)   : Met l yX5_forget wsX5_forget ({ frames := 0, cells := 0, slots := 0, locals := 0 } : Room) (CP D cy b n fT M [.ref (b + 102)]) (CQv D cy b n fT (gX5_forget M)) 0 0 (fr b) := by
  refine Met.ofW (cc := cX5_forget) (maxL := 2) (ret := none) (by decide) rfl ?_
  intro p e s m args below meth c s₁ B hml hv
  obtain ⟨rfl, hP, hK, hX⟩ := hv
  have hx := B.exec
  have hb := B.bytes
  have hr := B.returns
  have hts := atoms_spec (ws := wsX5_forget) B.pre
  have hown : s.vm.findClass RX5 = some m.cls := findClass_of_methodNamed B.named
  have hlocks := B.notSynchronized
  have hS : va_S (fr b) s.heap s.heap [] := va_S.rf
  have hl := lv_entry ([.ref (b + 102)]) (n := 2) (Nat.le_of_ble_eq_true rfl)
  rw [lg_entry_eq]
  generalize (lg_sl ([.ref (b + 102)]) ++ List.replicate (2 - (lg_sl ([.ref (b + 102)])).length) Slot.unset).toArray = ls at hl ⊢
  have hl : lv_has ls 2 [(0, .ref (b + 102))] := hl
  refine lv_iconst (v := 0) hx hb dX5_forget_0 (by decide) ?_
  refine lv_istore_n (lv' := [(1, .int (0 : Int32)), (0, .ref (b + 102))]) hx hb dX5_forget_1 rfl hl (by decide) rfl (fun ls hl => ?_)
  rw [show gX5_forget M = LX5_forget_2g 3 M 0 from (by rw [gX5_forget])]
  exact cl_X5_forget_2 l D cy b n hn  hx hb hr hlocks hml hown hts hK hX 3 M 0 s.heap [] ls (by omega) (by omega) hP hS (lv_sub hl [1, 0] rfl)
def fX5_find (M : Mem) (x : Int32) : Option Nat := if (fX7_isSlot M x) = 0 then none else (if (M 104 x.toNatClampNeg) = 0 then none else (some (105 + 8 * x.toNatClampNeg)))
set_option maxHeartbeats 4000000 in
set_option maxRecDepth 100000 in
theorem c_X5_find (l : Launch) (D : va_G) (cy : Nat → ClassId) (b n : Nat) (hn : 124 ≤ n) (M : Mem) (x : Int32)  : Met l yX5_find wsX5_find ({ frames := 1, cells := 0, slots := 0, locals := 20 } : Room) (CP D cy b n fT M [.ref (b + 102), .int x]) (CQq D cy b n fT ((fX5_find M x).map (fun o => b + o)) M) 0 0 (fr b) := by
  refine Met.ofW (cc := cX5_find) (maxL := 2) (ret := (some (.object "HygrometerRoom$Room"))) (by decide) rfl ?_
  intro p e s m args below meth c s₁ B hml hv
  obtain ⟨rfl, hP, hK, hX⟩ := hv
  have hx := B.exec
  have hb := B.bytes
  have hr := B.returns
  have hts := atoms_spec (ws := wsX5_find) B.pre
  have hown : s.vm.findClass RX5 = some m.cls := findClass_of_methodNamed B.named
  have hlocks := B.notSynchronized
  have lk0 := hts (.static yX7_isSlot) (by decide +kernel)
  have lk1 := hts (.initialized RX7) (by decide +kernel)
  have lk2 := hts (.fieldLink RX5 17 "HygrometerRoom$Slots" "used" "[Z") (by decide +kernel)
  have lk3 := hts (.fieldLink RX5 11 "HygrometerRoom$Slots" "rooms" "[LHygrometerRoom$Room;") (by decide +kernel)
  have inc5 : ∀ w ∈ u_ws RX5 TX5 2, w ∈ wsX5_find := by decide +kernel
  have hS : va_S (fr b) s.heap s.heap [] := va_S.rf
  have hl := lv_entry ([.ref (b + 102), .int x]) (n := 2) (Nat.le_of_ble_eq_true rfl)
  rw [lg_entry_eq]
  generalize (lg_sl ([.ref (b + 102), .int x]) ++ List.replicate (2 - (lg_sl ([.ref (b + 102), .int x])).length) Slot.unset).toArray = ls at hl ⊢
  have hl : lv_has ls 2 [(0, .ref (b + 102)), (1, .int x)] := hl
  refine lv_iload_n hx hb dX5_find_0 rfl (lv_at hl 1 rfl) ?_
  refine xc_i (va_runSN (As := [.int x]) (rest := []) ⟨hx, hb, hml, hown, hts⟩ (c_X7_isSlot l D cy b n hn M x) ⟨va_cnB 1 hts gX5_find_X7_isSlot_n22 rfl rfl rfl (hX.2.2.2.2.2.1 (RX5, 22, yX7_isSlot) (by decide +kernel)) lk1 (by decide +kernel) ⟨Nat.le_of_ble_eq_true rfl, Nat.le_of_ble_eq_true rfl⟩, lk0, trivial⟩ (xPreS hP hK hX hS) rfl rfl hl.1 rfl (lv_room (Nat.le_of_ble_eq_true rfl)) dX5_find_1 ⟨Nat.le_of_ble_eq_true rfl, Nat.le_of_ble_eq_true rfl⟩) hS (fun H locs hP hS => ?_)
  refine lv_if_eq (tgt := 25) hx hb dX5_find_4 (by decide) (fun c4 => ?_) (fun c4 => ?_)
  · refine lv_null hx hb dX5_find_25 ?_
    exact xe_q hx hb hr hlocks hP hS rfl rfl (by rw [fX5_find, if_pos c4] <;> rfl) (Nat.le_of_ble_eq_true rfl) (Nat.le_of_ble_eq_true rfl) dX5_find_26
  · refine lv_aload_n hx hb dX5_find_7 rfl (lv_at hl 0 rfl) ?_
    refine xg (C := RX5) (T := TX5) (N := 2) (v := .ref (b + 104)) hx hb hts inc5 hown hK hP (by omega) (cell5 (by decide)) rfl 1 (by decide) lk2 (fun _ h => h) rfl dX5_find_8 ?_
    refine lv_iload_n hx hb dX5_find_11 rfl (lv_at hl 1 rfl) ?_
    refine xzl (j := x.toNatClampNeg) hx hb hK hP (by omega) (by decide) (vin_cl (isSlot_of c4).1 (isSlot_of c4).2) rfl dX5_find_12 ?_
    refine lv_if_eq (tgt := 25) hx hb dX5_find_13 (by decide) (fun c13 => ?_) (fun c13 => ?_)
    · refine lv_null hx hb dX5_find_25 ?_
      exact xe_q hx hb hr hlocks hP hS rfl rfl (by rw [fX5_find, if_neg c4, if_pos c13] <;> rfl) (Nat.le_of_ble_eq_true rfl) (Nat.le_of_ble_eq_true rfl) dX5_find_26
    · refine lv_aload_n hx hb dX5_find_16 rfl (lv_at hl 0 rfl) ?_
      refine xg (C := RX5) (T := TX5) (N := 2) (v := .ref (b + 103)) hx hb hts inc5 hown hK hP (by omega) (cell5 (by decide)) rfl 0 (by decide) lk3 (fun _ h => h) rfl dX5_find_17 ?_
      refine lv_iload_n hx hb dX5_find_20 rfl (lv_at hl 1 rfl) ?_
      refine xml (j := x.toNatClampNeg) (v := 105) hx hb hK hP (by omega) (by decide) (vin_cl (isSlot_of c4).1 (isSlot_of c4).2) rfl rfl dX5_find_21 ?_
      refine lv_goto (tgt := 26) hx hb dX5_find_22 (by decide) ?_
      exact xe_q hx hb hr hlocks hP hS rfl rfl (by rw [fX5_find, if_neg c4, if_neg c13] <;> rfl) (Nat.le_of_ble_eq_true rfl) (Nat.le_of_ble_eq_true rfl) dX5_find_26
def gX5_keep (M : Mem) (x : Int32) (q : Nat) : Mem := if (fX7_isSlot M x) = 0 then M else (mU (gX4_copyFrom M (105 + 8 * x.toNatClampNeg) q) 104 x.toNatClampNeg (1 : Int32))
set_option maxHeartbeats 4000000 in
set_option maxRecDepth 100000 in
theorem c_X5_keep (l : Launch) (D : va_G) (cy : Nat → ClassId) (b n : Nat) (hn : 124 ≤ n) (M : Mem) (x : Int32) (q : Nat) (h_q : kd q = 4) (hcq : CNT M q) : Met l yX5_keep wsX5_keep ({ frames := 2, cells := 0, slots := 0, locals := 43 } : Room) (CP D cy b n fT M [.ref (b + 102), .int x, .ref (b + q)]) (CQv D cy b n fT (gX5_keep M x q)) 0 0 (fr b) := by
  refine Met.ofW (cc := cX5_keep) (maxL := 3) (ret := none) (by decide) rfl ?_
  intro p e s m args below meth c s₁ B hml hv
  obtain ⟨rfl, hP, hK, hX⟩ := hv
  have hx := B.exec
  have hb := B.bytes
  have hr := B.returns
  have hts := atoms_spec (ws := wsX5_keep) B.pre
  have hown : s.vm.findClass RX5 = some m.cls := findClass_of_methodNamed B.named
  have hlocks := B.notSynchronized
  have lk0 := hts (.static yX7_isSlot) (by decide +kernel)
  have lk1 := hts (.initialized RX7) (by decide +kernel)
  have lk2 := hts (.fieldLink RX5 11 "HygrometerRoom$Slots" "rooms" "[LHygrometerRoom$Room;") (by decide +kernel)
  have lk3 := hts (.fieldLink RX5 17 "HygrometerRoom$Slots" "used" "[Z") (by decide +kernel)
  have inc5 : ∀ w ∈ u_ws RX5 TX5 2, w ∈ wsX5_keep := by decide +kernel
  have hS : va_S (fr b) s.heap s.heap [] := va_S.rf
  have hl := lv_entry ([.ref (b + 102), .int x, .ref (b + q)]) (n := 3) (Nat.le_of_ble_eq_true rfl)
  rw [lg_entry_eq]
  generalize (lg_sl ([.ref (b + 102), .int x, .ref (b + q)]) ++ List.replicate (3 - (lg_sl ([.ref (b + 102), .int x, .ref (b + q)])).length) Slot.unset).toArray = ls at hl ⊢
  have hl : lv_has ls 3 [(0, .ref (b + 102)), (1, .int x), (2, .ref (b + q))] := hl
  refine lv_iload_n hx hb dX5_keep_0 rfl (lv_at hl 1 rfl) ?_
  refine xc_i (va_runSN (As := [.int x]) (rest := []) ⟨hx, hb, hml, hown, hts⟩ (c_X7_isSlot l D cy b n hn M x) ⟨va_cnB 1 hts gX5_keep_X7_isSlot_n22 rfl rfl rfl (hX.2.2.2.2.2.1 (RX5, 22, yX7_isSlot) (by decide +kernel)) lk1 (by decide +kernel) ⟨Nat.le_of_ble_eq_true rfl, Nat.le_of_ble_eq_true rfl⟩, lk0, trivial⟩ (xPreS hP hK hX hS) rfl rfl hl.1 rfl (lv_room (Nat.le_of_ble_eq_true rfl)) dX5_keep_1 ⟨Nat.le_of_ble_eq_true rfl, Nat.le_of_ble_eq_true rfl⟩) hS (fun H locs hP hS => ?_)
  refine lv_if_eq (tgt := 24) hx hb dX5_keep_4 (by decide) (fun c4 => ?_) (fun c4 => ?_)
  · exact xe_v hx hb hr hlocks hP hS rfl (by rw [gX5_keep, if_pos c4] <;> rfl) (Nat.le_of_ble_eq_true rfl) (Nat.le_of_ble_eq_true rfl) dX5_keep_24
  · refine lv_aload_n hx hb dX5_keep_7 rfl (lv_at hl 0 rfl) ?_
    refine xg (C := RX5) (T := TX5) (N := 2) (v := .ref (b + 103)) hx hb hts inc5 hown hK hP (by omega) (cell5 (by decide)) rfl 0 (by decide) lk2 (fun _ h => h) rfl dX5_keep_8 ?_
    refine lv_iload_n hx hb dX5_keep_11 rfl (lv_at hl 1 rfl) ?_
    refine xml (j := x.toNatClampNeg) (v := 105) hx hb hK hP (by omega) (by decide) (vin_cl (isSlot_of c4).1 (isSlot_of c4).2) rfl rfl dX5_keep_12 ?_
    refine lv_aload_n hx hb dX5_keep_13 rfl (lv_at hl 2 rfl) ?_
    refine xc_v (va_runV (As := [.ref (b + q)]) (rest := []) ⟨hx, hb, hml, hown, hts⟩ (c_X4_copyFrom l D cy b n hn M (105 + 8 * x.toNatClampNeg) q (kd_slo _ (isSlot_of c4).2) h_q hcq) (cwV 1 hts gX5_keep_X4_copyFrom rfl rfl rfl (by decide +kernel) ⟨Nat.le_of_ble_eq_true rfl, Nat.le_of_ble_eq_true rfl⟩) (xPreV hP hK hX hS (kR_lt (kd_slo _ (isSlot_of c4).2) hn) (cell4 (kd_slo _ (isSlot_of c4).2)) rfl) rfl rfl hl.1 rfl (lv_room (Nat.le_of_ble_eq_true rfl)) dX5_keep_14 ⟨Nat.le_of_ble_eq_true rfl, Nat.le_of_ble_eq_true rfl⟩) hS (fun H locs hP hS => ?_)
    refine lv_aload_n hx hb dX5_keep_17 rfl (lv_at hl 0 rfl) ?_
    refine xg (C := RX5) (T := TX5) (N := 2) (v := .ref (b + 104)) hx hb hts inc5 hown hK hP (by omega) (cell5 (by decide)) rfl 1 (by decide) lk3 (fun _ h => h) rfl dX5_keep_18 ?_
    refine lv_iload_n hx hb dX5_keep_21 rfl (lv_at hl 1 rfl) ?_
    refine lv_iconst (v := 1) hx hb dX5_keep_22 (by decide) ?_
    refine xzs (j := x.toNatClampNeg) (x := (1 : Int32)) hx hb hK hP hS (by omega) (by decide) (vin_cl (isSlot_of c4).1 (isSlot_of c4).2) rfl rfl dX5_keep_23 (fun H locs hP hS => ?_)
    exact xe_v hx hb hr hlocks hP hS rfl (by rw [gX5_keep, if_neg c4] <;> rfl) (Nat.le_of_ble_eq_true rfl) (Nat.le_of_ble_eq_true rfl) dX5_keep_24
theorem slot_kd {M : Mem} {o : Nat} {x : Int32} (h : fX5_find M x = some o) : kd o = 4 := by
  unfold fX5_find at h
  split at h
  · cases h
  · rename_i h0
    split at h
    · cases h
    · cases h
      exact kd_slo _ (isSlot_of h0).2
theorem slot_cnt {M : Mem} {o : Nat} {x : Int32} (hs : SC2 M) (h : fX5_find M x = some o) : CNT M o := by
  unfold fX5_find at h
  split at h
  · cases h
  · rename_i h0
    split at h
    · cases h
    · cases h
      exact hs _ (isSlot_of h0).2

