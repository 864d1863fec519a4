/-! what the instruments' methods leave as it is -/
theorem gX1_clear_ne {M : Mem} {o p : Nat} (h : p ≠ o) : gX1_clear M o p = M p := by unfold gX1_clear; simp only [mU, if_neg h]
theorem gX1_becomeHair_ne {M : Mem} {o p : Nat} {x y : Int32} (h : p ≠ o) : gX1_becomeHair M o x y p = M p := by unfold gX1_becomeHair; simp only [mU, if_neg h, gX1_clear_ne h]
theorem gX1_becomeBulb_ne {M : Mem} {o p : Nat} {x : Int32} (h : p ≠ o) : gX1_becomeBulb M o x p = M p := by unfold gX1_becomeBulb; simp only [mU, if_neg h, gX1_clear_ne h]
theorem gX1_copyFrom_ne {M : Mem} {o q p : Nat} (h : p ≠ o) : gX1_copyFrom M o q p = M p := by unfold gX1_copyFrom; simp only [mU, if_neg h]
theorem gX1_moveWetness_ne {M : Mem} {o p : Nat} {x y : Int32} (h : p ≠ o) : gX1_moveWetness M o x y p = M p := by unfold gX1_moveWetness; split <;> simp only [mU, if_neg h]
theorem gX1_age_ne {M : Mem} {o p : Nat} {x y : Int32} (h : p ≠ o) : gX1_age M o x y p = M p := by unfold gX1_age; (repeat' split) <;> simp only [mU, if_neg h, gX1_moveWetness_ne h]
theorem gX1_tightenSpring_ne {M : Mem} {o p : Nat} (h : p ≠ o) : gX1_tightenSpring M o p = M p := by unfold gX1_tightenSpring; split <;> simp only [mU, if_neg h]
theorem mU_row {M : Mem} {o k j : Nat} {v : Int32} (h : j ≠ k) : mU M o k v o j = M o j := by rw [mU_at]; exact pk_un h
theorem cnt_put {M : Mem} {r k : Nat} {v : Int32} (h : k ≠ 1) (hc : CNT M r) : CNT (mU M r k v) r := by unfold CNT; rw [mU_row (Ne.symm h)]; exact hc
theorem xfind_lt {x L : Int32} (h : UB L 6) (h0 : ¬ x < 0) (hc : ¬ L ≤ x) : x.toNatClampNeg < 6 := by
  obtain ⟨k, hk, rfl⟩ := h
  obtain ⟨j, hj, rfl⟩ := nI_of h0
  rw [nI_leI (by omega) hj] at hc
  rw [nI_clamp hj]
  omega
theorem cnt_putn {M : Mem} {r o k : Nat} {v : Int32} (h : r ≠ o) (hc : CNT M r) : CNT (mU M o k v) r := cnt_row (mU_ne M k v h) hc
def gX4_begin (M : Mem) (r : Nat) (x : Int32) (y : Int32) (z : Int32) : Mem := mU (mU (mU (mU (mU (mU (mU M r 1 (0 : Int32)) r 2 (0 : Int32)) r 3 x) r 4 y) r 5 z) r 6 (0 : Int32)) r 7 (0 : Int32)
set_option maxHeartbeats 4000000 in
set_option maxRecDepth 100000 in
theorem c_X4_begin (l : Launch) (D : va_G) (cy : Nat → ClassId) (b n : Nat) (hn : 124 ≤ n) (M : Mem) (r : Nat) (x : Int32) (y : Int32) (z : Int32) (h_r : kd r = 4) : Met l yX4_begin wsX4_begin ({ frames := 0, cells := 0, slots := 0, locals := 0 } : Room) (CP D cy b n fT M [.ref (b + r), .int x, .int y, .int z]) (CQv D cy b n fT (gX4_begin M r x y z)) 0 0 (fr b) := by
  refine Met.ofW (cc := cX4_begin) (maxL := 4) (ret := none) (by decide) rfl ?_
  intro p e s m args below meth c s₁ B hml hv
  obtain ⟨rfl, hP, hK, hX⟩ := hv
  have hx := B.exec
  have hb := B.bytes
  have hr := B.returns
  have hts := atoms_spec (ws := wsX4_begin) B.pre
  have hown : s.vm.findClass RX4 = some m.cls := findClass_of_methodNamed B.named
  have hlocks := B.notSynchronized
  have lk0 := hts (.fieldLink RX4 18 "HygrometerRoom$Room" "count" "I") (by decide +kernel)
  have lk1 := hts (.fieldLink RX4 22 "HygrometerRoom$Room" "minute" "I") (by decide +kernel)
  have lk2 := hts (.fieldLink RX4 25 "HygrometerRoom$Room" "humidity" "I") (by decide +kernel)
  have lk3 := hts (.fieldLink RX4 28 "HygrometerRoom$Room" "temperature" "I") (by decide +kernel)
  have lk4 := hts (.fieldLink RX4 31 "HygrometerRoom$Room" "skill" "I") (by decide +kernel)
  have lk5 := hts (.fieldLink RX4 34 "HygrometerRoom$Room" "stock" "I") (by decide +kernel)
  have lk6 := hts (.fieldLink RX4 37 "HygrometerRoom$Room" "brought" "I") (by decide +kernel)
  have inc4 : ∀ w ∈ u_ws RX4 TX4 8, w ∈ wsX4_begin := by decide +kernel
  have hS : va_S (fr b) s.heap s.heap [] := va_S.rf
  have hl := lv_entry ([.ref (b + r), .int x, .int y, .int z]) (n := 4) (Nat.le_of_ble_eq_true rfl)
  rw [lg_entry_eq]
  generalize (lg_sl ([.ref (b + r), .int x, .int y, .int z]) ++ List.replicate (4 - (lg_sl ([.ref (b + r), .int x, .int y, .int z])).length) Slot.unset).toArray = ls at hl ⊢
  have hl : lv_has ls 4 [(0, .ref (b + r)), (1, .int x), (2, .int y), (3, .int z)] := hl
  refine lv_aload_n hx hb dX4_begin_0 rfl (lv_at hl 0 rfl) ?_
  refine lv_iconst (v := 0) hx hb dX4_begin_1 (by decide) ?_
  refine xp (C := RX4) (T := TX4) (N := 8) (ci := 4) (ty := .int) (x := (0 : Int32)) hx hb hts inc4 tyX4 tyX4_ok nmX4 hown hK hP hS (kR_lt h_r hn) (fun _ => cell4 h_r) rfl 1 (by decide) rfl lk0 (fun _ h => h) rfl (tyX4_ok 1 (by decide)) rfl rfl (Nat.le_of_ble_eq_true rfl) dX4_begin_2 (fun H locs hP hS => ?_)
  refine lv_aload_n hx hb dX4_begin_5 rfl (lv_at hl 0 rfl) ?_
  refine lv_iconst (v := 0) hx hb dX4_begin_6 (by decide) ?_
  refine xp (C := RX4) (T := TX4) (N := 8) (ci := 4) (ty := .int) (x := (0 : Int32)) hx hb hts inc4 tyX4 tyX4_ok nmX4 hown hK hP hS (kR_lt h_r hn) (fun _ => cell4 h_r) rfl 2 (by decide) rfl lk1 (fun _ h => h) rfl (tyX4_ok 2 (by decide)) rfl rfl (Nat.le_of_ble_eq_true rfl) dX4_begin_7 (fun H locs hP hS => ?_)
  refine lv_aload_n hx hb dX4_begin_10 rfl (lv_at hl 0 rfl) ?_
  refine lv_iload_n hx hb dX4_begin_11 rfl (lv_at hl 1 rfl) ?_
  refine xp (C := RX4) (T := TX4) (N := 8) (ci := 4) (ty := .int) (x := x) hx hb hts inc4 tyX4 tyX4_ok nmX4 hown hK hP hS (kR_lt h_r hn) (fun _ => cell4 h_r) rfl 3 (by decide) rfl lk2 (fun _ h => h) rfl (tyX4_ok 3 (by decide)) rfl rfl (Nat.le_of_ble_eq_true rfl) dX4_begin_12 (fun H locs hP hS => ?_)
  refine lv_aload_n hx hb dX4_begin_15 rfl (lv_at hl 0 rfl) ?_
  refine lv_iload_n hx hb dX4_begin_16 rfl (lv_at hl 2 rfl) ?_
  refine xp (C := RX4) (T := TX4) (N := 8) (ci := 4) (ty := .int) (x := y) hx hb hts inc4 tyX4 tyX4_ok nmX4 hown hK hP hS (kR_lt h_r hn) (fun _ => cell4 h_r) rfl 4 (by decide) rfl lk3 (fun _ h => h) rfl (tyX4_ok 4 (by decide)) rfl rfl (Nat.le_of_ble_eq_true rfl) dX4_begin_17 (fun H locs hP hS => ?_)
  refine lv_aload_n hx hb dX4_begin_20 rfl (lv_at hl 0 rfl) ?_
  refine lv_iload_n hx hb dX4_begin_21 rfl (lv_at hl 3 rfl) ?_
  refine xp (C := RX4) (T := TX4) (N := 8) (ci := 4) (ty := .int) (x := z) hx hb hts inc4 tyX4 tyX4_ok nmX4 hown hK hP hS (kR_lt h_r hn) (fun _ => cell4 h_r) rfl 5 (by decide) rfl lk4 (fun _ h => h) rfl (tyX4_ok 5 (by decide)) rfl rfl (Nat.le_of_ble_eq_true rfl) dX4_begin_22 (fun H locs hP hS => ?_)
  refine lv_aload_n hx hb dX4_begin_25 rfl (lv_at hl 0 rfl) ?_
  refine lv_iconst (v := 0) hx hb dX4_begin_26 (by decide) ?_
  refine xp (C := RX4) (T := TX4) (N := 8) (ci := 4) (ty := .int) (x := (0 : Int32)) hx hb hts inc4 tyX4 tyX4_ok nmX4 hown hK hP hS (kR_lt h_r hn) (fun _ => cell4 h_r) rfl 6 (by decide) rfl lk5 (fun _ h => h) rfl (tyX4_ok 6 (by decide)) rfl rfl (Nat.le_of_ble_eq_true rfl) dX4_begin_27 (fun H locs hP hS => ?_)
  refine lv_aload_n hx hb dX4_begin_30 rfl (lv_at hl 0 rfl) ?_
  refine lv_iconst (v := 0) hx hb dX4_begin_31 (by decide) ?_
  refine xp (C := RX4) (T := TX4) (N := 8) (ci := 4) (ty := .int) (x := (0 : Int32)) hx hb hts inc4 tyX4 tyX4_ok nmX4 hown hK hP hS (kR_lt h_r hn) (fun _ => cell4 h_r) rfl 7 (by decide) rfl lk6 (fun _ h => h) rfl (tyX4_ok 7 (by decide)) rfl rfl (Nat.le_of_ble_eq_true rfl) dX4_begin_32 (fun H locs hP hS => ?_)
  exact xe_v hx hb hr hlocks hP hS rfl (by rw [gX4_begin] <;> rfl) (Nat.le_of_ble_eq_true rfl) (Nat.le_of_ble_eq_true rfl) dX4_begin_35
def gX4_newHair (M : Mem) (r : Nat) (x : Int32) : Mem := if (6 : Int32) ≤ (M r 1) then M else (mU (gX1_becomeHair M (r + 1 + 1 + ((M r 1).toNatClampNeg)) x (M r 3)) r 1 (((gX1_becomeHair M (r + 1 + 1 + ((M r 1).toNatClampNeg)) x (M r 3)) r 1) + (1 : Int32)))
set_option maxHeartbeats 4000000 in
set_option maxRecDepth 100000 in
theorem c_X4_newHair (l : Launch) (D : va_G) (cy : Nat → ClassId) (b n : Nat) (hn : 124 ≤ n) (M : Mem) (r : Nat) (x : Int32) (h_r : kd r = 4) (hcnt : CNT M r) : Met l yX4_newHair wsX4_newHair ({ frames := 2, cells := 0, slots := 0, locals := 42 } : Room) (CP D cy b n fT M [.ref (b + r), .int x]) (CQv D cy b n fT (gX4_newHair M r x)) 0 0 (fr b) := by
  refine Met.ofW (cc := cX4_newHair) (maxL := 2) (ret := none) (by decide) rfl ?_
  intro p e s m args below meth c s₁ B hml hv
  obtain ⟨rfl, hP, hK, hX⟩ := hv
  have hx := B.exec
  have hb := B.bytes
  have hr := B.returns
  have hts := atoms_spec (ws := wsX4_newHair) B.pre
  have hown : s.vm.findClass RX4 = some m.cls := findClass_of_methodNamed B.named
  have hlocks := B.notSynchronized
  have lk0 := hts (.fieldLink RX4 18 "HygrometerRoom$Room" "count" "I") (by decide +kernel)
  have lk1 := hts (.fieldLink RX4 11 "HygrometerRoom$Room" "instruments" "[LHygrometerRoom$Instrument;") (by decide +kernel)
  have lk2 := hts (.fieldLink RX4 25 "HygrometerRoom$Room" "humidity" "I") (by decide +kernel)
  have inc4 : ∀ w ∈ u_ws RX4 TX4 8, w ∈ wsX4_newHair := by decide +kernel
  have hS : va_S (fr b) s.heap s.heap [] := va_S.rf
  have hl := lv_entry ([.ref (b + r), .int x]) (n := 2) (Nat.le_of_ble_eq_true rfl)
  rw [lg_entry_eq]
  generalize (lg_sl ([.ref (b + r), .int x]) ++ List.replicate (2 - (lg_sl ([.ref (b + r), .int x])).length) Slot.unset).toArray = ls at hl ⊢
  have hl : lv_has ls 2 [(0, .ref (b + r)), (1, .int x)] := hl
  refine lv_aload_n hx hb dX4_newHair_0 rfl (lv_at hl 0 rfl) ?_
  refine xg (C := RX4) (T := TX4) (N := 8) (v := .int (M r 1)) hx hb hts inc4 hown hK hP (kR_lt h_r hn) (cell4 h_r) rfl 1 (by decide) lk0 (fun _ h => h) rfl dX4_newHair_1 ?_
  refine lv_aload_n hx hb dX4_newHair_4 rfl (lv_at hl 0 rfl) ?_
  refine xg (C := RX4) (T := TX4) (N := 8) (v := .ref (b + (r + 1))) hx hb hts inc4 hown hK hP (kR_lt h_r hn) (cell4 h_r) rfl 0 (by decide) lk1 (fun _ h => h) rfl dX4_newHair_5 ?_
  refine xlen (v := 6) hx hb hK hP (kA_lt h_r hn) 3 (cell13 (kd_arr h_r)) rfl rfl dX4_newHair_8 ?_
  refine lv_icmp_ge (tgt := 39) hx hb dX4_newHair_9 (by decide) (fun c9 => ?_) (fun c9 => ?_)
  · exact xe_v hx hb hr hlocks hP hS rfl (by rw [gX4_newHair, if_pos c9] <;> rfl) (Nat.le_of_ble_eq_true rfl) (Nat.le_of_ble_eq_true rfl) dX4_newHair_39
  · refine lv_aload_n hx hb dX4_newHair_12 rfl (lv_at hl 0 rfl) ?_
    refine xg (C := RX4) (T := TX4) (N := 8) (v := .ref (b + (r + 1))) hx hb hts inc4 hown hK hP (kR_lt h_r hn) (cell4 h_r) rfl 0 (by decide) lk1 (fun _ h => h) rfl dX4_newHair_13 ?_
    refine lv_aload_n hx hb dX4_newHair_16 rfl (lv_at hl 0 rfl) ?_
    refine xg (C := RX4) (T := TX4) (N := 8) (v := .int (M r 1)) hx hb hts inc4 hown hK hP (kR_lt h_r hn) (cell4 h_r) rfl 1 (by decide) lk0 (fun _ h => h) rfl dX4_newHair_17 ?_
    refine xnl (j := (M r 1).toNatClampNeg) hx hb hK hP (kA_lt h_r hn) (kd_arr h_r) (vin_cl (ub_ge hcnt) (ub_cl hcnt c9)) rfl dX4_newHair_20 ?_
    refine lv_iload_n hx hb dX4_newHair_21 rfl (lv_at hl 1 rfl) ?_
    refine lv_aload_n hx hb dX4_newHair_22 rfl (lv_at hl 0 rfl) ?_
    refine xg (C := RX4) (T := TX4) (N := 8) (v := .int (M r 3)) hx hb hts inc4 hown hK hP (kR_lt h_r hn) (cell4 h_r) rfl 3 (by decide) lk2 (fun _ h => h) rfl dX4_newHair_23 ?_
    refine xc_v (va_runV (As := [.int x, .int (M r 3)]) (rest := []) ⟨hx, hb, hml, hown, hts⟩ (c_X1_becomeHair l D cy b n hn M (r + 1 + 1 + ((M r 1).toNatClampNeg)) x (M r 3) (kd_ins h_r (ub_cl hcnt c9))) (cwV 2 hts gX4_newHair_X1_becomeHair rfl rfl rfl (by decide +kernel) ⟨Nat.le_of_ble_eq_true rfl, Nat.le_of_ble_eq_true rfl⟩) (xPreV hP hK hX hS (kI_lt (kd_ins h_r (ub_cl hcnt c9)) hn) (cell1 (kd_ins h_r (ub_cl hcnt c9))) rfl) rfl rfl hl.1 rfl (lv_room (Nat.le_of_ble_eq_true rfl)) dX4_newHair_26 ⟨Nat.le_of_ble_eq_true rfl, Nat.le_of_ble_eq_true rfl⟩) hS (fun H locs hP hS => ?_)
    refine lv_aload_n hx hb dX4_newHair_29 rfl (lv_at hl 0 rfl) ?_
    refine lv_dup hx hb dX4_newHair_30 rfl ?_
    refine xg (C := RX4) (T := TX4) (N := 8) (v := .int ((gX1_becomeHair M (r + 1 + 1 + ((M r 1).toNatClampNeg)) x (M r 3)) r 1)) hx hb hts inc4 hown hK hP (kR_lt h_r hn) (cell4 h_r) rfl 1 (by decide) lk0 (fun _ h => h) rfl dX4_newHair_31 ?_
    refine lv_iconst (v := 1) hx hb dX4_newHair_34 (by decide) ?_
    refine lv_iadd hx hb dX4_newHair_35 ?_
    refine xp (C := RX4) (T := TX4) (N := 8) (ci := 4) (ty := .int) (x := ((gX1_becomeHair M (r + 1 + 1 + ((M r 1).toNatClampNeg)) x (M r 3)) r 1) + (1 : Int32)) hx hb hts inc4 tyX4 tyX4_ok nmX4 hown hK hP hS (kR_lt h_r hn) (fun _ => cell4 h_r) rfl 1 (by decide) rfl lk0 (fun _ h => h) rfl (tyX4_ok 1 (by decide)) rfl rfl (Nat.le_of_ble_eq_true rfl) dX4_newHair_36 (fun H locs hP hS => ?_)
    exact xe_v hx hb hr hlocks hP hS rfl (by rw [gX4_newHair, if_neg c9] <;> rfl) (Nat.le_of_ble_eq_true rfl) (Nat.le_of_ble_eq_true rfl) dX4_newHair_39
def gX4_newBulb (M : Mem) (r : Nat) (x : Int32) : Mem := if (6 : Int32) ≤ (M r 1) then M else (mU (gX1_becomeBulb M (r + 1 + 1 + ((M r 1).toNatClampNeg)) x) r 1 (((gX1_becomeBulb M (r + 1 + 1 + ((M r 1).toNatClampNeg)) x) r 1) + (1 : Int32)))
set_option maxHeartbeats 4000000 in
set_option maxRecDepth 100000 in
theorem c_X4_newBulb (l : Launch) (D : va_G) (cy : Nat → ClassId) (b n : Nat) (hn : 124 ≤ n) (M : Mem) (r : Nat) (x : Int32) (h_r : kd r = 4) (hcnt : CNT M r) : Met l yX4_newBulb wsX4_newBulb ({ frames := 2, cells := 0, slots := 0, locals := 41 } : Room) (CP D cy b n fT M [.ref (b + r), .int x]) (CQv D cy b n fT (gX4_newBulb M r x)) 0 0 (fr b) := by
  refine Met.ofW (cc := cX4_newBulb) (maxL := 2) (ret := none) (by decide) rfl ?_
  intro p e s m args below meth c s₁ B hml hv
  obtain ⟨rfl, hP, hK, hX⟩ := hv
  have hx := B.exec
  have hb := B.bytes
  have hr := B.returns
  have hts := atoms_spec (ws := wsX4_newBulb) B.pre
  have hown : s.vm.findClass RX4 = some m.cls := findClass_of_methodNamed B.named
  have hlocks := B.notSynchronized
  have lk0 := hts (.fieldLink RX4 18 "HygrometerRoom$Room" "count" "I") (by decide +kernel)
  have lk1 := hts (.fieldLink RX4 11 "HygrometerRoom$Room" "instruments" "[LHygrometerRoom$Instrument;") (by decide +kernel)
  have inc4 : ∀ w ∈ u_ws RX4 TX4 8, w ∈ wsX4_newBulb := by decide +kernel
  have hS : va_S (fr b) s.heap s.heap [] := va_S.rf
  have hl := lv_entry ([.ref (b + r), .int x]) (n := 2) (Nat.le_of_ble_eq_true rfl)
  rw [lg_entry_eq]
  generalize (lg_sl ([.ref (b + r), .int x]) ++ List.replicate (2 - (lg_sl ([.ref (b + r), .int x])).length) Slot.unset).toArray = ls at hl ⊢
  have hl : lv_has ls 2 [(0, .ref (b + r)), (1, .int x)] := hl
  refine lv_aload_n hx hb dX4_newBulb_0 rfl (lv_at hl 0 rfl) ?_
  refine xg (C := RX4) (T := TX4) (N := 8) (v := .int (M r 1)) hx hb hts inc4 hown hK hP (kR_lt h_r hn) (cell4 h_r) rfl 1 (by decide) lk0 (fun _ h => h) rfl dX4_newBulb_1 ?_
  refine lv_aload_n hx hb dX4_newBulb_4 rfl (lv_at hl 0 rfl) ?_
  refine xg (C := RX4) (T := TX4) (N := 8) (v := .ref (b + (r + 1))) hx hb hts inc4 hown hK hP (kR_lt h_r hn) (cell4 h_r) rfl 0 (by decide) lk1 (fun _ h => h) rfl dX4_newBulb_5 ?_
  refine xlen (v := 6) hx hb hK hP (kA_lt h_r hn) 3 (cell13 (kd_arr h_r)) rfl rfl dX4_newBulb_8 ?_
  refine lv_icmp_ge (tgt := 35) hx hb dX4_newBulb_9 (by decide) (fun c9 => ?_) (fun c9 => ?_)
  · exact xe_v hx hb hr hlocks hP hS rfl (by rw [gX4_newBulb, if_pos c9] <;> rfl) (Nat.le_of_ble_eq_true rfl) (Nat.le_of_ble_eq_true rfl) dX4_newBulb_35
  · refine lv_aload_n hx hb dX4_newBulb_12 rfl (lv_at hl 0 rfl) ?_
    refine xg (C := RX4) (T := TX4) (N := 8) (v := .ref (b + (r + 1))) hx hb hts inc4 hown hK hP (kR_lt h_r hn) (cell4 h_r) rfl 0 (by decide) lk1 (fun _ h => h) rfl dX4_newBulb_13 ?_
    refine lv_aload_n hx hb dX4_newBulb_16 rfl (lv_at hl 0 rfl) ?_
    refine xg (C := RX4) (T := TX4) (N := 8) (v := .int (M r 1)) hx hb hts inc4 hown hK hP (kR_lt h_r hn) (cell4 h_r) rfl 1 (by decide) lk0 (fun _ h => h) rfl dX4_newBulb_17 ?_
    refine xnl (j := (M r 1).toNatClampNeg) hx hb hK hP (kA_lt h_r hn) (kd_arr h_r) (vin_cl (ub_ge hcnt) (ub_cl hcnt c9)) rfl dX4_newBulb_20 ?_
    refine lv_iload_n hx hb dX4_newBulb_21 rfl (lv_at hl 1 rfl) ?_
    refine xc_v (va_runV (As := [.int x]) (rest := []) ⟨hx, hb, hml, hown, hts⟩ (c_X1_becomeBulb l D cy b n hn M (r + 1 + 1 + ((M r 1).toNatClampNeg)) x (kd_ins h_r (ub_cl hcnt c9))) (cwV 1 hts gX4_newBulb_X1_becomeBulb rfl rfl rfl (by decide +kernel) ⟨Nat.le_of_ble_eq_true rfl, Nat.le_of_ble_eq_true rfl⟩) (xPreV hP hK hX hS (kI_lt (kd_ins h_r (ub_cl hcnt c9)) hn) (cell1 (kd_ins h_r (ub_cl hcnt c9))) rfl) rfl rfl hl.1 rfl (lv_room (Nat.le_of_ble_eq_true rfl)) dX4_newBulb_22 ⟨Nat.le_of_ble_eq_true rfl, Nat.le_of_ble_eq_true rfl⟩) hS (fun H locs hP hS => ?_)
    refine lv_aload_n hx hb dX4_newBulb_25 rfl (lv_at hl 0 rfl) ?_
    refine lv_dup hx hb dX4_newBulb_26 rfl ?_
    refine xg (C := RX4) (T := TX4) (N := 8) (v := .int ((gX1_becomeBulb M (r + 1 + 1 + ((M r 1).toNatClampNeg)) x) r 1)) hx hb hts inc4 hown hK hP (kR_lt h_r hn) (cell4 h_r) rfl 1 (by decide) lk0 (fun _ h => h) rfl dX4_newBulb_27 ?_
    refine lv_iconst (v := 1) hx hb dX4_newBulb_30 (by decide) ?_
    refine lv_iadd hx hb dX4_newBulb_31 ?_
    refine xp (C := RX4) (T := TX4) (N := 8) (ci := 4) (ty := .int) (x := ((gX1_becomeBulb M (r + 1 + 1 + ((M r 1).toNatClampNeg)) x) r 1) + (1 : Int32)) hx hb hts inc4 tyX4 tyX4_ok nmX4 hown hK hP hS (kR_lt h_r hn) (fun _ => cell4 h_r) rfl 1 (by decide) rfl lk0 (fun _ h => h) rfl (tyX4_ok 1 (by decide)) rfl rfl (Nat.le_of_ble_eq_true rfl) dX4_newBulb_32 (fun H locs hP hS => ?_)
    exact xe_v hx hb hr hlocks hP hS rfl (by rw [gX4_newBulb, if_neg c9] <;> rfl) (Nat.le_of_ble_eq_true rfl) (Nat.le_of_ble_eq_true rfl) dX4_newBulb_35
def fX4_find (M : Mem) (r : Nat) (x : Int32) : Option Nat := if x < 0 then none else (if (M r 1) ≤ x then none else (some (r + 1 + 1 + x.toNatClampNeg)))
set_option maxHeartbeats 4000000 in
set_option maxRecDepth 100000 in
theorem c_X4_find (l : Launch) (D : va_G) (cy : Nat → ClassId) (b n : Nat) (hn : 124 ≤ n) (M : Mem) (r : Nat) (x : Int32) (h_r : kd r = 4) (hcnt : CNT M r) : Met l yX4_find wsX4_find ({ frames := 0, cells := 0, slots := 0, locals := 0 } : Room) (CP D cy b n fT M [.ref (b + r), .int x]) (CQq D cy b n fT ((fX4_find M r x).map (fun o => b + o)) M) 0 0 (fr b) := by
  refine Met.ofW (cc := cX4_find) (maxL := 2) (ret := (some (.object "HygrometerRoom$Instrument"))) (by decide) rfl ?_
  intro p e s m args below meth c s₁ B hml hv
  obtain ⟨rfl, hP, hK, hX⟩ := hv
  have hx := B.exec
  have hb := B.bytes
  have hr := B.returns
  have hts := atoms_spec (ws := wsX4_find) B.pre
  have hown : s.vm.findClass RX4 = some m.cls := findClass_of_methodNamed B.named
  have hlocks := B.notSynchronized
  have lk0 := hts (.fieldLink RX4 18 "HygrometerRoom$Room" "count" "I") (by decide +kernel)
  have lk1 := hts (.fieldLink RX4 11 "HygrometerRoom$Room" "instruments" "[LHygrometerRoom$Instrument;") (by decide +kernel)
  have inc4 : ∀ w ∈ u_ws RX4 TX4 8, w ∈ wsX4_find := by decide +kernel
  have hS : va_S (fr b) s.heap s.heap [] := va_S.rf
  have hl := lv_entry ([.ref (b + r), .int x]) (n := 2) (Nat.le_of_ble_eq_true rfl)
  rw [lg_entry_eq]
  generalize (lg_sl ([.ref (b + r), .int x]) ++ List.replicate (2 - (lg_sl ([.ref (b + r), .int x])).length) Slot.unset).toArray = ls at hl ⊢
  have hl : lv_has ls 2 [(0, .ref (b + r)), (1, .int x)] := hl
  refine lv_iload_n hx hb dX4_find_0 rfl (lv_at hl 1 rfl) ?_
  refine lv_if_lt (tgt := 21) hx hb dX4_find_1 (by decide) (fun c1 => ?_) (fun c1 => ?_)
  · refine lv_null hx hb dX4_find_21 ?_
    exact xe_q hx hb hr hlocks hP hS rfl rfl (by rw [fX4_find, if_pos c1] <;> rfl) (Nat.le_of_ble_eq_true rfl) (Nat.le_of_ble_eq_true rfl) dX4_find_22
  · refine lv_iload_n hx hb dX4_find_4 rfl (lv_at hl 1 rfl) ?_
    refine lv_aload_n hx hb dX4_find_5 rfl (lv_at hl 0 rfl) ?_
    refine xg (C := RX4) (T := TX4) (N := 8) (v := .int (M r 1)) hx hb hts inc4 hown hK hP (kR_lt h_r hn) (cell4 h_r) rfl 1 (by decide) lk0 (fun _ h => h) rfl dX4_find_6 ?_
    refine lv_icmp_ge (tgt := 21) hx hb dX4_find_9 (by decide) (fun c9 => ?_) (fun c9 => ?_)
    · refine lv_null hx hb dX4_find_21 ?_
      exact xe_q hx hb hr hlocks hP hS rfl rfl (by rw [fX4_find, if_neg c1, if_pos c9] <;> rfl) (Nat.le_of_ble_eq_true rfl) (Nat.le_of_ble_eq_true rfl) dX4_find_22
    · refine lv_aload_n hx hb dX4_find_12 rfl (lv_at hl 0 rfl) ?_
      refine xg (C := RX4) (T := TX4) (N := 8) (v := .ref (b + (r + 1))) hx hb hts inc4 hown hK hP (kR_lt h_r hn) (cell4 h_r) rfl 0 (by decide) lk1 (fun _ h => h) rfl dX4_find_13 ?_
      refine lv_iload_n hx hb dX4_find_16 rfl (lv_at hl 1 rfl) ?_
      have hx6 : x.toNatClampNeg < 6 := xfind_lt hcnt c1 c9
      refine xnl (j := x.toNatClampNeg) hx hb hK hP (kA_lt h_r hn) (kd_arr h_r) (vin_cl c1 hx6) rfl dX4_find_17 ?_
      refine lv_goto (tgt := 22) hx hb dX4_find_18 (by decide) ?_
      exact xe_q hx hb hr hlocks hP hS rfl rfl (by rw [fX4_find, if_neg c1, if_neg c9] <;> rfl) (Nat.le_of_ble_eq_true rfl) (Nat.le_of_ble_eq_true rfl) dX4_find_22
def fX4_surrounding (M : Mem) (r : Nat) (x : Nat) : Int32 := fX7_fixedPointOr M (M x 8) (M r 3)
set_option maxHeartbeats 4000000 in
set_option maxRecDepth 100000 in
theorem c_X4_surrounding (l : Launch) (D : va_G) (cy : Nat → ClassId) (b n : Nat) (hn : 124 ≤ n) (M : Mem) (r : Nat) (x : Nat) (h_r : kd r = 4) (h_x : kd x = 1) : Met l yX4_surrounding wsX4_surrounding ({ frames := 1, cells := 0, slots := 0, locals := 21 } : Room) (CP D cy b n fT M [.ref (b + r), .ref (b + x)]) (CQi D cy b n fT (fX4_surrounding M r x) M) 0 0 (fr b) := by
  refine Met.ofW (cc := cX4_surrounding) (maxL := 2) (ret := (some .int)) (by decide) rfl ?_
  intro p e s m args below meth c s₁ B hml hv
  obtain ⟨rfl, hP, hK, hX⟩ := hv
  have hx := B.exec
  have hb := B.bytes
  have hr := B.returns
  have hts := atoms_spec (ws := wsX4_surrounding) B.pre
  have hown : s.vm.findClass RX4 = some m.cls := findClass_of_methodNamed B.named
  have hlocks := B.notSynchronized
  have lk0 := hts (.fieldLink RX4 68 "HygrometerRoom$Instrument" "box" "I") (by decide +kernel)
  have lk1 := hts (.fieldLink RX4 25 "HygrometerRoom$Room" "humidity" "I") (by decide +kernel)
  have lk2 := hts (.static yX7_fixedPointOr) (by decide +kernel)
  have lk3 := hts (.initialized RX7) (by decide +kernel)
  have inc1 : ∀ w ∈ u_ws RX1 TX1 9, w ∈ wsX4_surrounding := by decide +kernel
  have inc4 : ∀ w ∈ u_ws RX4 TX4 8, w ∈ wsX4_surrounding := by decide +kernel
  have hS : va_S (fr b) s.heap s.heap [] := va_S.rf
  have hl := lv_entry ([.ref (b + r), .ref (b + x)]) (n := 2) (Nat.le_of_ble_eq_true rfl)
  rw [lg_entry_eq]
  generalize (lg_sl ([.ref (b + r), .ref (b + x)]) ++ List.replicate (2 - (lg_sl ([.ref (b + r), .ref (b + x)])).length) Slot.unset).toArray = ls at hl ⊢
  have hl : lv_has ls 2 [(0, .ref (b + r)), (1, .ref (b + x))] := hl
  refine lv_aload_n hx hb dX4_surrounding_0 rfl (lv_at hl 1 rfl) ?_
  refine xg (C := RX1) (T := TX1) (N := 9) (v := .int (M x 8)) hx hb hts inc1 hown hK hP (kI_lt h_x hn) (cell1 h_x) rfl 8 (by decide) lk0 (fun _ h => h) rfl dX4_surrounding_1 ?_
  refine lv_aload_n hx hb dX4_surrounding_4 rfl (lv_at hl 0 rfl) ?_
  refine xg (C := RX4) (T := TX4) (N := 8) (v := .int (M r 3)) hx hb hts inc4 hown hK hP (kR_lt h_r hn) (cell4 h_r) rfl 3 (by decide) lk1 (fun _ h => h) rfl dX4_surrounding_5 ?_
  refine xc_i (va_runSN (As := [.int (M x 8), .int (M r 3)]) (rest := []) ⟨hx, hb, hml, hown, hts⟩ (c_X7_fixedPointOr l D cy b n hn M (M x 8) (M r 3)) ⟨va_cnB 2 hts gX4_surrounding_X7_fixedPointOr_n71 rfl rfl rfl (hX.2.2.2.2.2.1 (RX4, 71, yX7_fixedPointOr) (by decide +kernel)) lk3 (by decide +kernel) ⟨Nat.le_of_ble_eq_true rfl, Nat.le_of_ble_eq_true rfl⟩, lk2, trivial⟩ (xPreS hP hK hX hS) rfl rfl hl.1 rfl (lv_room (Nat.le_of_ble_eq_true rfl)) dX4_surrounding_8 ⟨Nat.le_of_ble_eq_true rfl, Nat.le_of_ble_eq_true rfl⟩) hS (fun H locs hP hS => ?_)
  exact xe_i hx hb hr hlocks hP hS rfl rfl (by rw [fX4_surrounding] <;> rfl) (Nat.le_of_ble_eq_true rfl) (Nat.le_of_ble_eq_true rfl) dX4_surrounding_11
def fX4_depression (M : Mem) (r : Nat) (x : Nat) : Int32 := if (M x 6) = 0 then (0 : Int32) else ((((100 : Int32) - (fX4_surrounding M r x)) * ((M r 4) + (10 : Int32))) / (100 : Int32))
set_option maxHeartbeats 4000000 in
set_option maxRecDepth 100000 in
theorem c_X4_depression (l : Launch) (D : va_G) (cy : Nat → ClassId) (b n : Nat) (hn : 124 ≤ n) (M : Mem) (r : Nat) (x : Nat) (h_r : kd r = 4) (h_x : kd x = 1) : Met l yX4_depression wsX4_depression ({ frames := 2, cells := 0, slots := 0, locals := 42 } : Room) (CP D cy b n fT M [.ref (b + r), .ref (b + x)]) (CQi D cy b n fT (fX4_depression M r x) M) 0 0 (fr b) := by
  refine Met.ofW (cc := cX4_depression) (maxL := 2) (ret := (some .int)) (by decide) rfl ?_
  intro p e s m args below meth c s₁ B hml hv
  obtain ⟨rfl, hP, hK, hX⟩ := hv
  have hx := B.exec
  have hb := B.bytes
  have hr := B.returns
  have hts := atoms_spec (ws := wsX4_depression) B.pre
  have hown : s.vm.findClass RX4 = some m.cls := findClass_of_methodNamed B.named
  have hlocks := B.notSynchronized
  have lk0 := hts (.fieldLink RX4 74 "HygrometerRoom$Instrument" "water" "I") (by decide +kernel)
  have lk1 := hts (.fieldLink RX4 28 "HygrometerRoom$Room" "temperature" "I") (by decide +kernel)
  have inc1 : ∀ w ∈ u_ws RX1 TX1 9, w ∈ wsX4_depression := by decide +kernel
  have inc4 : ∀ w ∈ u_ws RX4 TX4 8, w ∈ wsX4_depression := by decide +kernel
  have hS : va_S (fr b) s.heap s.heap [] := va_S.rf
  have hl := lv_entry ([.ref (b + r), .ref (b + x)]) (n := 2) (Nat.le_of_ble_eq_true rfl)
  rw [lg_entry_eq]
  generalize (lg_sl ([.ref (b + r), .ref (b + x)]) ++ List.replicate (2 - (lg_sl ([.ref (b + r), .ref (b + x)])).length) Slot.unset).toArray = ls at hl ⊢
  have hl : lv_has ls 2 [(0, .ref (b + r)), (1, .ref (b + x))] := hl
  refine lv_aload_n hx hb dX4_depression_0 rfl (lv_at hl 1 rfl) ?_
  refine xg (C := RX1) (T := TX1) (N := 9) (v := .int (M x 6)) hx hb hts inc1 hown hK hP (kI_lt h_x hn) (cell1 h_x) rfl 6 (by decide) lk0 (fun _ h => h) rfl dX4_depression_1 ?_
  refine lv_if_ne (tgt := 11) hx hb dX4_depression_4 (by decide) (fun c4 => ?_) (fun c4 => ?_)
  · refine lv_bipush (v := 100) hx hb dX4_depression_11 (by decide) ?_
    refine lv_aload_n hx hb dX4_depression_13 rfl (lv_at hl 0 rfl) ?_
    refine lv_aload_n hx hb dX4_depression_14 rfl (lv_at hl 1 rfl) ?_
    refine xc_i (va_runV (As := [.ref (b + x)]) (rest := [.int (100 : Int32)]) ⟨hx, hb, hml, hown, hts⟩ (c_X4_surrounding l D cy b n hn M r x h_r h_x) (cwV 1 hts gX4_depression_X4_surrounding rfl rfl rfl (by decide +kernel) ⟨Nat.le_of_ble_eq_true rfl, Nat.le_of_ble_eq_true rfl⟩) (xPreV hP hK hX hS (kR_lt h_r hn) (cell4 h_r) rfl) rfl rfl hl.1 rfl (lv_room (Nat.le_of_ble_eq_true rfl)) dX4_depression_15 ⟨Nat.le_of_ble_eq_true rfl, Nat.le_of_ble_eq_true rfl⟩) hS (fun H locs hP hS => ?_)
    refine lv_isub hx hb dX4_depression_18 ?_
    refine lv_aload_n hx hb dX4_depression_19 rfl (lv_at hl 0 rfl) ?_
    refine xg (C := RX4) (T := TX4) (N := 8) (v := .int (M r 4)) hx hb hts inc4 hown hK hP (kR_lt h_r hn) (cell4 h_r) rfl 4 (by decide) lk1 (fun _ h => h) rfl dX4_depression_20 ?_
    refine lv_bipush (v := 10) hx hb dX4_depression_23 (by decide) ?_
    refine lv_iadd hx hb dX4_depression_25 ?_
    refine lv_imul hx hb dX4_depression_26 ?_
    refine lv_bipush (v := 100) hx hb dX4_depression_27 (by decide) ?_
    refine lv_idiv hx hb dX4_depression_29 (by decide) ?_
    exact xe_i hx hb hr hlocks hP hS rfl rfl (by rw [fX4_depression, if_neg c4] <;> rfl) (Nat.le_of_ble_eq_true rfl) (Nat.le_of_ble_eq_true rfl) dX4_depression_30
  · refine lv_iconst (v := 0) hx hb dX4_depression_7 (by decide) ?_
    refine lv_goto (tgt := 30) hx hb dX4_depression_8 (by decide) ?_
    exact xe_i hx hb hr hlocks hP hS rfl rfl (by rw [fX4_depression, if_pos c4] <;> rfl) (Nat.le_of_ble_eq_true rfl) (Nat.le_of_ble_eq_true rfl) dX4_depression_30
def fX4_raw (M : Mem) (r : Nat) (x : Nat) : Int32 := if (bv (M x 0)) = 0 then ((100 : Int32) - (fX7_quotient M ((fX4_depression M r x) * (100 : Int32)) ((M r 4) + (10 : Int32)))) else ((M x 4) - ((M x 5) / (5 : Int32)))
set_option maxHeartbeats 4000000 in
set_option maxRecDepth 100000 in
theorem c_X4_raw (l : Launch) (D : va_G) (cy : Nat → ClassId) (b n : Nat) (hn : 124 ≤ n) (M : Mem) (r : Nat) (x : Nat) (h_r : kd r = 4) (h_x : kd x = 1) : Met l yX4_raw wsX4_raw ({ frames := 3, cells := 0, slots := 0, locals := 63 } : Room) (CP D cy b n fT M [.ref (b + r), .ref (b + x)]) (CQi D cy b n fT (fX4_raw M r x) M) 0 0 (fr b) := by
  refine Met.ofW (cc := cX4_raw) (maxL := 2) (ret := (some .int)) (by decide) rfl ?_
  intro p e s m args below meth c s₁ B hml hv
  obtain ⟨rfl, hP, hK, hX⟩ := hv
  have hx := B.exec
  have hb := B.bytes
  have hr := B.returns
  have hts := atoms_spec (ws := wsX4_raw) B.pre
  have hown : s.vm.findClass RX4 = some m.cls := findClass_of_methodNamed B.named
  have hlocks := B.notSynchronized
  have lk0 := hts (.fieldLink RX4 77 "HygrometerRoom$Instrument" "hair" "Z") (by decide +kernel)
  have lk1 := hts (.fieldLink RX4 28 "HygrometerRoom$Room" "temperature" "I") (by decide +kernel)
  have lk2 := hts (.static yX7_quotient) (by decide +kernel)
  have lk3 := hts (.initialized RX7) (by decide +kernel)
  have lk4 := hts (.fieldLink RX4 81 "HygrometerRoom$Instrument" "wetness" "I") (by decide +kernel)
  have lk5 := hts (.fieldLink RX4 84 "HygrometerRoom$Instrument" "slack" "I") (by decide +kernel)
  have inc1 : ∀ w ∈ u_ws RX1 TX1 9, w ∈ wsX4_raw := by decide +kernel
  have inc4 : ∀ w ∈ u_ws RX4 TX4 8, w ∈ wsX4_raw := by decide +kernel
  have hS : va_S (fr b) s.heap s.heap [] := va_S.rf
  have hl := lv_entry ([.ref (b + r), .ref (b + x)]) (n := 2) (Nat.le_of_ble_eq_true rfl)
  rw [lg_entry_eq]
  generalize (lg_sl ([.ref (b + r), .ref (b + x)]) ++ List.replicate (2 - (lg_sl ([.ref (b + r), .ref (b + x)])).length) Slot.unset).toArray = ls at hl ⊢
  have hl : lv_has ls 2 [(0, .ref (b + r)), (1, .ref (b + x))] := hl
  refine lv_aload_n hx hb dX4_raw_0 rfl (lv_at hl 1 rfl) ?_
  refine xg (C := RX1) (T := TX1) (N := 9) (v := .int (bv (M x 0))) hx hb hts inc1 hown hK hP (kI_lt h_x hn) (cell1 h_x) rfl 0 (by decide) lk0 (fun _ h => h) rfl dX4_raw_1 ?_
  refine lv_if_eq (tgt := 19) hx hb dX4_raw_4 (by decide) (fun c4 => ?_) (fun c4 => ?_)
  · refine lv_bipush (v := 100) hx hb dX4_raw_19 (by decide) ?_
    refine lv_aload_n hx hb dX4_raw_21 rfl (lv_at hl 0 rfl) ?_
    refine lv_aload_n hx hb dX4_raw_22 rfl (lv_at hl 1 rfl) ?_
    refine xc_i (va_runV (As := [.ref (b + x)]) (rest := [.int (100 : Int32)]) ⟨hx, hb, hml, hown, hts⟩ (c_X4_depression l D cy b n hn M r x h_r h_x) (cwV 1 hts gX4_raw_X4_depression rfl rfl rfl (by decide +kernel) ⟨Nat.le_of_ble_eq_true rfl, Nat.le_of_ble_eq_true rfl⟩) (xPreV hP hK hX hS (kR_lt h_r hn) (cell4 h_r) rfl) rfl rfl hl.1 rfl (lv_room (Nat.le_of_ble_eq_true rfl)) dX4_raw_23 ⟨Nat.le_of_ble_eq_true rfl, Nat.le_of_ble_eq_true rfl⟩) hS (fun H locs hP hS => ?_)
    refine lv_bipush (v := 100) hx hb dX4_raw_26 (by decide) ?_
    refine lv_imul hx hb dX4_raw_28 ?_
    refine lv_aload_n hx hb dX4_raw_29 rfl (lv_at hl 0 rfl) ?_
    refine xg (C := RX4) (T := TX4) (N := 8) (v := .int (M r 4)) hx hb hts inc4 hown hK hP (kR_lt h_r hn) (cell4 h_r) rfl 4 (by decide) lk1 (fun _ h => h) rfl dX4_raw_30 ?_
    refine lv_bipush (v := 10) hx hb dX4_raw_33 (by decide) ?_
    refine lv_iadd hx hb dX4_raw_35 ?_
    refine xc_i (va_runSN (As := [.int ((fX4_depression M r x) * (100 : Int32)), .int ((M r 4) + (10 : Int32))]) (rest := [.int (100 : Int32)]) ⟨hx, hb, hml, hown, hts⟩ (c_X7_quotient l D cy b n hn M ((fX4_depression M r x) * (100 : Int32)) ((M r 4) + (10 : Int32))) ⟨va_cnB 2 hts gX4_raw_X7_quotient_n90 rfl rfl rfl (hX.2.2.2.2.2.1 (RX4, 90, yX7_quotient) (by decide +kernel)) lk3 (by decide +kernel) ⟨Nat.le_of_ble_eq_true rfl, Nat.le_of_ble_eq_true rfl⟩, lk2, trivial⟩ (xPreS hP hK hX hS) rfl rfl hl.1 rfl (lv_room (Nat.le_of_ble_eq_true rfl)) dX4_raw_36 ⟨Nat.le_of_ble_eq_true rfl, Nat.le_of_ble_eq_true rfl⟩) hS (fun H locs hP hS => ?_)
    refine lv_isub hx hb dX4_raw_39 ?_
    exact xe_i hx hb hr hlocks hP hS rfl rfl (by rw [fX4_raw, if_pos c4] <;> rfl) (Nat.le_of_ble_eq_true rfl) (Nat.le_of_ble_eq_true rfl) dX4_raw_40
  · refine lv_aload_n hx hb dX4_raw_7 rfl (lv_at hl 1 rfl) ?_
    refine xg (C := RX1) (T := TX1) (N := 9) (v := .int (M x 4)) hx hb hts inc1 hown hK hP (kI_lt h_x hn) (cell1 h_x) rfl 4 (by decide) lk4 (fun _ h => h) rfl dX4_raw_8 ?_
    refine lv_aload_n hx hb dX4_raw_11 rfl (lv_at hl 1 rfl) ?_
    refine xg (C := RX1) (T := TX1) (N := 9) (v := .int (M x 5)) hx hb hts inc1 hown hK hP (kI_lt h_x hn) (cell1 h_x) rfl 5 (by decide) lk5 (fun _ h => h) rfl dX4_raw_12 ?_
    refine lv_iconst (v := 5) hx hb dX4_raw_15 (by decide) ?_
    refine lv_idiv hx hb dX4_raw_16 (by decide) ?_
    refine lv_isub hx hb dX4_raw_17 ?_
    exact xe_i hx hb hr hlocks hP hS rfl rfl (by rw [fX4_raw, if_neg c4] <;> rfl) (Nat.le_of_ble_eq_true rfl) (Nat.le_of_ble_eq_true rfl) dX4_raw_18
def fX4_reading (M : Mem) (r : Nat) (x : Nat) : Int32 := xmax (0 : Int32) (xmin (100 : Int32) ((fX4_raw M r x) + (M x 7)))
set_option maxHeartbeats 4000000 in
set_option maxRecDepth 100000 in
theorem c_X4_reading (l : Launch) (D : va_G) (cy : Nat → ClassId) (b n : Nat) (hn : 124 ≤ n) (M : Mem) (r : Nat) (x : Nat) (h_r : kd r = 4) (h_x : kd x = 1) : Met l yX4_reading wsX4_reading ({ frames := 4, cells := 0, slots := 0, locals := 84 } : Room) (CP D cy b n fT M [.ref (b + r), .ref (b + x)]) (CQi D cy b n fT (fX4_reading M r x) M) 0 0 (fr b) := by
  refine Met.ofW (cc := cX4_reading) (maxL := 2) (ret := (some .int)) (by decide) rfl ?_
  intro p e s m args below meth c s₁ B hml hv
  obtain ⟨rfl, hP, hK, hX⟩ := hv
  have hx := B.exec
  have hb := B.bytes
  have hr := B.returns
  have hts := atoms_spec (ws := wsX4_reading) B.pre
  have hown : s.vm.findClass RX4 = some m.cls := findClass_of_methodNamed B.named
  have hlocks := B.notSynchronized
  have lk0 := hts (.fieldLink RX4 96 "HygrometerRoom$Instrument" "zero" "I") (by decide +kernel)
  have lk1 := hts (.methodLink RX4 62 Lib.Math.min.name) (by decide +kernel)
  have lk2 := hts (.static Lib.Math.min.name) (by decide +kernel)
  have lk3 := hts (.initialized "java/lang/Math") (by decide +kernel)
  have lk4 := hts (.code Lib.Math.min.name Lib.Math.min.code 2 (some .int)) (by decide +kernel)
  have lk5 := hts (.methodLink RX4 99 Lib.Math.max.name) (by decide +kernel)
  have lk6 := hts (.static Lib.Math.max.name) (by decide +kernel)
  have lk7 := hts (.code Lib.Math.max.name Lib.Math.max.code 2 (some .int)) (by decide +kernel)
  have inc1 : ∀ w ∈ u_ws RX1 TX1 9, w ∈ wsX4_reading := by decide +kernel
  have hS : va_S (fr b) s.heap s.heap [] := va_S.rf
  have hl := lv_entry ([.ref (b + r), .ref (b + x)]) (n := 2) (Nat.le_of_ble_eq_true rfl)
  rw [lg_entry_eq]
  generalize (lg_sl ([.ref (b + r), .ref (b + x)]) ++ List.replicate (2 - (lg_sl ([.ref (b + r), .ref (b + x)])).length) Slot.unset).toArray = ls at hl ⊢
  have hl : lv_has ls 2 [(0, .ref (b + r)), (1, .ref (b + x))] := hl
  refine lv_iconst (v := 0) hx hb dX4_reading_0 (by decide) ?_
  refine lv_bipush (v := 100) hx hb dX4_reading_1 (by decide) ?_
  refine lv_aload_n hx hb dX4_reading_3 rfl (lv_at hl 0 rfl) ?_
  refine lv_aload_n hx hb dX4_reading_4 rfl (lv_at hl 1 rfl) ?_
  refine xc_i (va_runV (As := [.ref (b + x)]) (rest := [.int (100 : Int32), .int (0 : Int32)]) ⟨hx, hb, hml, hown, hts⟩ (c_X4_raw l D cy b n hn M r x h_r h_x) (cwV 1 hts gX4_reading_X4_raw rfl rfl rfl (by decide +kernel) ⟨Nat.le_of_ble_eq_true rfl, Nat.le_of_ble_eq_true rfl⟩) (xPreV hP hK hX hS (kR_lt h_r hn) (cell4 h_r) rfl) rfl rfl hl.1 rfl (lv_room (Nat.le_of_ble_eq_true rfl)) dX4_reading_5 ⟨Nat.le_of_ble_eq_true rfl, Nat.le_of_ble_eq_true rfl⟩) hS (fun H locs hP hS => ?_)
  refine lv_aload_n hx hb dX4_reading_8 rfl (lv_at hl 1 rfl) ?_
  refine xg (C := RX1) (T := TX1) (N := 9) (v := .int (M x 7)) hx hb hts inc1 hown hK hP (kI_lt h_x hn) (cell1 h_x) rfl 7 (by decide) lk0 (fun _ h => h) rfl dX4_reading_9 ?_
  refine lv_iadd hx hb dX4_reading_12 ?_
  refine x_mmin hx hb (hml.trans hl.1.symm) hown lk1 lk2 lk3 lk4 (Nat.le_of_ble_eq_true rfl) (Nat.le_of_ble_eq_true rfl) (Nat.le_of_ble_eq_true rfl) (Nat.le_of_ble_eq_true rfl) dX4_reading_13 ?_
  refine x_mmax hx hb (hml.trans hl.1.symm) hown lk5 lk6 lk3 lk7 (Nat.le_of_ble_eq_true rfl) (Nat.le_of_ble_eq_true rfl) (Nat.le_of_ble_eq_true rfl) (Nat.le_of_ble_eq_true rfl) dX4_reading_16 ?_
  exact xe_i hx hb hr hlocks hP hS rfl rfl (by rw [fX4_reading] <;> rfl) (Nat.le_of_ble_eq_true rfl) (Nat.le_of_ble_eq_true rfl) dX4_reading_19
def fX4_settled (M : Mem) (r : Nat) (x : Nat) : Int32 := if (bv (M x 0)) = 0 then (if (M x 6) ≤ 0 then (0 : Int32) else (1 : Int32)) else (if (M x 4) = (fX4_surrounding M r x) then (1 : Int32) else (0 : Int32))
set_option maxHeartbeats 4000000 in
set_option maxRecDepth 100000 in
theorem c_X4_settled (l : Launch) (D : va_G) (cy : Nat → ClassId) (b n : Nat) (hn : 124 ≤ n) (M : Mem) (r : Nat) (x : Nat) (h_r : kd r = 4) (h_x : kd x = 1) : Met l yX4_settled wsX4_settled ({ frames := 2, cells := 0, slots := 0, locals := 42 } : Room) (CP D cy b n fT M [.ref (b + r), .ref (b + x)]) (CQi D cy b n fT (fX4_settled M r x) M) 0 0 (fr b) := by
  refine Met.ofW (cc := cX4_settled) (maxL := 2) (ret := (some .boolean)) (by decide) rfl ?_
  intro p e s m args below meth c s₁ B hml hv
  obtain ⟨rfl, hP, hK, hX⟩ := hv
  have hx := B.exec
  have hb := B.bytes
  have hr := B.returns
  have hts := atoms_spec (ws := wsX4_settled) B.pre
  have hown : s.vm.findClass RX4 = some m.cls := findClass_of_methodNamed B.named
  have hlocks := B.notSynchronized
  have lk0 := hts (.fieldLink RX4 77 "HygrometerRoom$Instrument" "hair" "Z") (by decide +kernel)
  have lk1 := hts (.fieldLink RX4 74 "HygrometerRoom$Instrument" "water" "I") (by decide +kernel)
  have lk2 := hts (.fieldLink RX4 81 "HygrometerRoom$Instrument" "wetness" "I") (by decide +kernel)
  have inc1 : ∀ w ∈ u_ws RX1 TX1 9, w ∈ wsX4_settled := by decide +kernel
  have hS : va_S (fr b) s.heap s.heap [] := va_S.rf
  have hl := lv_entry ([.ref (b + r), .ref (b + x)]) (n := 2) (Nat.le_of_ble_eq_true rfl)
  rw [lg_entry_eq]
  generalize (lg_sl ([.ref (b + r), .ref (b + x)]) ++ List.replicate (2 - (lg_sl ([.ref (b + r), .ref (b + x)])).length) Slot.unset).toArray = ls at hl ⊢
  have hl : lv_has ls 2 [(0, .ref (b + r)), (1, .ref (b + x))] := hl
  refine lv_aload_n hx hb dX4_settled_0 rfl (lv_at hl 1 rfl) ?_
  refine xg (C := RX1) (T := TX1) (N := 9) (v := .int (bv (M x 0))) hx hb hts inc1 hown hK hP (kI_lt h_x hn) (cell1 h_x) rfl 0 (by decide) lk0 (fun _ h => h) rfl dX4_settled_1 ?_
  refine lv_if_eq (tgt := 27) hx hb dX4_settled_4 (by decide) (fun c4 => ?_) (fun c4 => ?_)
  · refine lv_aload_n hx hb dX4_settled_27 rfl (lv_at hl 1 rfl) ?_
    refine xg (C := RX1) (T := TX1) (N := 9) (v := .int (M x 6)) hx hb hts inc1 hown hK hP (kI_lt h_x hn) (cell1 h_x) rfl 6 (by decide) lk1 (fun _ h => h) rfl dX4_settled_28 ?_
    refine lv_if_le (tgt := 38) hx hb dX4_settled_31 (by decide) (fun c31 => ?_) (fun c31 => ?_)
    · refine lv_iconst (v := 0) hx hb dX4_settled_38 (by decide) ?_
      exact xe_z hx hb hr hlocks hP hS rfl rfl (by rw [fX4_settled, if_pos c4, if_pos c31] <;> rfl) rfl (Nat.le_of_ble_eq_true rfl) (Nat.le_of_ble_eq_true rfl) dX4_settled_39
    · refine lv_iconst (v := 1) hx hb dX4_settled_34 (by decide) ?_
      refine lv_goto (tgt := 39) hx hb dX4_settled_35 (by decide) ?_
      exact xe_z hx hb hr hlocks hP hS rfl rfl (by rw [fX4_settled, if_pos c4, if_neg c31] <;> rfl) rfl (Nat.le_of_ble_eq_true rfl) (Nat.le_of_ble_eq_true rfl) dX4_settled_39
  · refine lv_aload_n hx hb dX4_settled_7 rfl (lv_at hl 1 rfl) ?_
    refine xg (C := RX1) (T := TX1) (N := 9) (v := .int (M x 4)) hx hb hts inc1 hown hK hP (kI_lt h_x hn) (cell1 h_x) rfl 4 (by decide) lk2 (fun _ h => h) rfl dX4_settled_8 ?_
    refine lv_aload_n hx hb dX4_settled_11 rfl (lv_at hl 0 rfl) ?_
    refine lv_aload_n hx hb dX4_settled_12 rfl (lv_at hl 1 rfl) ?_
    refine xc_i (va_runV (As := [.ref (b + x)]) (rest := [.int (M x 4)]) ⟨hx, hb, hml, hown, hts⟩ (c_X4_surrounding l D cy b n hn M r x h_r h_x) (cwV 1 hts gX4_settled_X4_surrounding rfl rfl rfl (by decide +kernel) ⟨Nat.le_of_ble_eq_true rfl, Nat.le_of_ble_eq_true rfl⟩) (xPreV hP hK hX hS (kR_lt h_r hn) (cell4 h_r) rfl) rfl rfl hl.1 rfl (lv_room (Nat.le_of_ble_eq_true rfl)) dX4_settled_13 ⟨Nat.le_of_ble_eq_true rfl, Nat.le_of_ble_eq_true rfl⟩) hS (fun H locs hP hS => ?_)
    refine lv_icmp_ne (tgt := 23) hx hb dX4_settled_16 (by decide) (fun c16 => ?_) (fun c16 => ?_)
    · refine lv_iconst (v := 0) hx hb dX4_settled_23 (by decide) ?_
      refine lv_goto (tgt := 39) hx hb dX4_settled_24 (by decide) ?_
      exact xe_z hx hb hr hlocks hP hS rfl rfl (by rw [fX4_settled, if_neg c4, if_neg c16] <;> rfl) rfl (Nat.le_of_ble_eq_true rfl) (Nat.le_of_ble_eq_true rfl) dX4_settled_39
    · refine lv_iconst (v := 1) hx hb dX4_settled_19 (by decide) ?_
      refine lv_goto (tgt := 39) hx hb dX4_settled_20 (by decide) ?_
      exact xe_z hx hb hr hlocks hP hS rfl rfl (by rw [fX4_settled, if_neg c4, if_pos c16] <;> rfl) rfl (Nat.le_of_ble_eq_true rfl) (Nat.le_of_ble_eq_true rfl) dX4_settled_39
def fX4_still (M : Mem) (r : Nat) (x : Nat) : Int32 := if (bv (M x 0)) = 0 then (if (fX4_settled M r x) = 0 then (1 : Int32) else (0 : Int32)) else (fX4_settled M r x)
set_option maxHeartbeats 4000000 in
set_option maxRecDepth 100000 in
theorem c_X4_still (l : Launch) (D : va_G) (cy : Nat → ClassId) (b n : Nat) (hn : 124 ≤ n) (M : Mem) (r : Nat) (x : Nat) (h_r : kd r = 4) (h_x : kd x = 1) : Met l yX4_still wsX4_still ({ frames := 3, cells := 0, slots := 0, locals := 63 } : Room) (CP D cy b n fT M [.ref (b + r), .ref (b + x)]) (CQi D cy b n fT (fX4_still M r x) M) 0 0 (fr b) := by
  refine Met.ofW (cc := cX4_still) (maxL := 2) (ret := (some .boolean)) (by decide) rfl ?_
  intro p e s m args below meth c s₁ B hml hv
  obtain ⟨rfl, hP, hK, hX⟩ := hv
  have hx := B.exec
  have hb := B.bytes
  have hr := B.returns
  have hts := atoms_spec (ws := wsX4_still) B.pre
  have hown : s.vm.findClass RX4 = some m.cls := findClass_of_methodNamed B.named
  have hlocks := B.notSynchronized
  have lk0 := hts (.fieldLink RX4 77 "HygrometerRoom$Instrument" "hair" "Z") (by decide +kernel)
  have inc1 : ∀ w ∈ u_ws RX1 TX1 9, w ∈ wsX4_still := by decide +kernel
  have hS : va_S (fr b) s.heap s.heap [] := va_S.rf
  have hl := lv_entry ([.ref (b + r), .ref (b + x)]) (n := 2) (Nat.le_of_ble_eq_true rfl)
  rw [lg_entry_eq]
  generalize (lg_sl ([.ref (b + r), .ref (b + x)]) ++ List.replicate (2 - (lg_sl ([.ref (b + r), .ref (b + x)])).length) Slot.unset).toArray = ls at hl ⊢
  have hl : lv_has ls 2 [(0, .ref (b + r)), (1, .ref (b + x))] := hl
  refine lv_aload_n hx hb dX4_still_0 rfl (lv_at hl 1 rfl) ?_
  refine xg (C := RX1) (T := TX1) (N := 9) (v := .int (bv (M x 0))) hx hb hts inc1 hown hK hP (kI_lt h_x hn) (cell1 h_x) rfl 0 (by decide) lk0 (fun _ h => h) rfl dX4_still_1 ?_
  refine lv_if_eq (tgt := 15) hx hb dX4_still_4 (by decide) (fun c4 => ?_) (fun c4 => ?_)
  · refine lv_aload_n hx hb dX4_still_15 rfl (lv_at hl 0 rfl) ?_
    refine lv_aload_n hx hb dX4_still_16 rfl (lv_at hl 1 rfl) ?_
    refine xc_i (va_runV (As := [.ref (b + x)]) (rest := []) ⟨hx, hb, hml, hown, hts⟩ (c_X4_settled l D cy b n hn M r x h_r h_x) (cwV 1 hts gX4_still_X4_settled rfl rfl rfl (by decide +kernel) ⟨Nat.le_of_ble_eq_true rfl, Nat.le_of_ble_eq_true rfl⟩) (xPreV hP hK hX hS (kR_lt h_r hn) (cell4 h_r) rfl) rfl rfl hl.1 rfl (lv_room (Nat.le_of_ble_eq_true rfl)) dX4_still_17 ⟨Nat.le_of_ble_eq_true rfl, Nat.le_of_ble_eq_true rfl⟩) hS (fun H locs hP hS => ?_)
    refine lv_if_ne (tgt := 27) hx hb dX4_still_20 (by decide) (fun c20 => ?_) (fun c20 => ?_)
    · refine lv_iconst (v := 0) hx hb dX4_still_27 (by decide) ?_
      exact xe_z hx hb hr hlocks hP hS rfl rfl (by rw [fX4_still, if_pos c4, if_neg c20] <;> rfl) rfl (Nat.le_of_ble_eq_true rfl) (Nat.le_of_ble_eq_true rfl) dX4_still_28
    · refine lv_iconst (v := 1) hx hb dX4_still_23 (by decide) ?_
      refine lv_goto (tgt := 28) hx hb dX4_still_24 (by decide) ?_
      exact xe_z hx hb hr hlocks hP hS rfl rfl (by rw [fX4_still, if_pos c4, if_pos c20] <;> rfl) rfl (Nat.le_of_ble_eq_true rfl) (Nat.le_of_ble_eq_true rfl) dX4_still_28
  · refine lv_aload_n hx hb dX4_still_7 rfl (lv_at hl 0 rfl) ?_
    refine lv_aload_n hx hb dX4_still_8 rfl (lv_at hl 1 rfl) ?_
    refine xc_i (va_runV (As := [.ref (b + x)]) (rest := []) ⟨hx, hb, hml, hown, hts⟩ (c_X4_settled l D cy b n hn M r x h_r h_x) (cwV 1 hts gX4_still_X4_settled rfl rfl rfl (by decide +kernel) ⟨Nat.le_of_ble_eq_true rfl, Nat.le_of_ble_eq_true rfl⟩) (xPreV hP hK hX hS (kR_lt h_r hn) (cell4 h_r) rfl) rfl rfl hl.1 rfl (lv_room (Nat.le_of_ble_eq_true rfl)) dX4_still_9 ⟨Nat.le_of_ble_eq_true rfl, Nat.le_of_ble_eq_true rfl⟩) hS (fun H locs hP hS => ?_)
    refine lv_goto (tgt := 28) hx hb dX4_still_12 (by decide) ?_
    exact xe_z hx hb hr hlocks hP hS rfl rfl (by rw [fX4_still, if_neg c4] <;> rfl) (by unfold fX4_settled; (repeat' split) <;> rfl) (Nat.le_of_ble_eq_true rfl) (Nat.le_of_ble_eq_true rfl) dX4_still_28
def fX4_obstacle (M : Mem) (r : Nat) (x : Nat) : Int32 := if (fX1_isBoxed M x) = 0 then (1 : Int32) else (if (fX4_settled M r x) = 0 then (2 : Int32) else (0 : Int32))
set_option maxHeartbeats 4000000 in
set_option maxRecDepth 100000 in
theorem c_X4_obstacle (l : Launch) (D : va_G) (cy : Nat → ClassId) (b n : Nat) (hn : 124 ≤ n) (M : Mem) (r : Nat) (x : Nat) (h_r : kd r = 4) (h_x : kd x = 1) : Met l yX4_obstacle wsX4_obstacle ({ frames := 3, cells := 0, slots := 0, locals := 63 } : Room) (CP D cy b n fT M [.ref (b + r), .ref (b + x)]) (CQi D cy b n fT (fX4_obstacle M r x) M) 0 0 (fr b) := by
  refine Met.ofW (cc := cX4_obstacle) (maxL := 2) (ret := (some .int)) (by decide) rfl ?_
  intro p e s m args below meth c s₁ B hml hv
  obtain ⟨rfl, hP, hK, hX⟩ := hv
  have hx := B.exec
  have hb := B.bytes
  have hr := B.returns
  have hts := atoms_spec (ws := wsX4_obstacle) B.pre
  have hown : s.vm.findClass RX4 = some m.cls := findClass_of_methodNamed B.named
  have hlocks := B.notSynchronized
  have hS : va_S (fr b) s.heap s.heap [] := va_S.rf
  have hl := lv_entry ([.ref (b + r), .ref (b + x)]) (n := 2) (Nat.le_of_ble_eq_true rfl)
  rw [lg_entry_eq]
  generalize (lg_sl ([.ref (b + r), .ref (b + x)]) ++ List.replicate (2 - (lg_sl ([.ref (b + r), .ref (b + x)])).length) Slot.unset).toArray = ls at hl ⊢
  have hl : lv_has ls 2 [(0, .ref (b + r)), (1, .ref (b + x))] := hl
  refine lv_aload_n hx hb dX4_obstacle_0 rfl (lv_at hl 1 rfl) ?_
  refine xc_i (va_runV (As := []) (rest := []) ⟨hx, hb, hml, hown, hts⟩ (c_X1_isBoxed l D cy b n hn M x h_x) (cwV 0 hts gX4_obstacle_X1_isBoxed rfl rfl rfl (by decide +kernel) ⟨Nat.le_of_ble_eq_true rfl, Nat.le_of_ble_eq_true rfl⟩) (xPreV hP hK hX hS (kI_lt h_x hn) (cell1 h_x) rfl) rfl rfl hl.1 rfl (lv_room (Nat.le_of_ble_eq_true rfl)) dX4_obstacle_1 ⟨Nat.le_of_ble_eq_true rfl, Nat.le_of_ble_eq_true rfl⟩) hS (fun H locs hP hS => ?_)
  refine lv_if_ne (tgt := 9) hx hb dX4_obstacle_4 (by decide) (fun c4 => ?_) (fun c4 => ?_)
  · refine lv_aload_n hx hb dX4_obstacle_9 rfl (lv_at hl 0 rfl) ?_
    refine lv_aload_n hx hb dX4_obstacle_10 rfl (lv_at hl 1 rfl) ?_
    refine xc_i (va_runV (As := [.ref (b + x)]) (rest := []) ⟨hx, hb, hml, hown, hts⟩ (c_X4_settled l D cy b n hn M r x h_r h_x) (cwV 1 hts gX4_obstacle_X4_settled rfl rfl rfl (by decide +kernel) ⟨Nat.le_of_ble_eq_true rfl, Nat.le_of_ble_eq_true rfl⟩) (xPreV hP hK hX hS (kR_lt h_r hn) (cell4 h_r) rfl) rfl rfl hl.1 rfl (lv_room (Nat.le_of_ble_eq_true rfl)) dX4_obstacle_11 ⟨Nat.le_of_ble_eq_true rfl, Nat.le_of_ble_eq_true rfl⟩) hS (fun H locs hP hS => ?_)
    refine lv_if_eq (tgt := 21) hx hb dX4_obstacle_14 (by decide) (fun c14 => ?_) (fun c14 => ?_)
    · refine lv_iconst (v := 2) hx hb dX4_obstacle_21 (by decide) ?_
      exact xe_i hx hb hr hlocks hP hS rfl rfl (by rw [fX4_obstacle, if_neg c4, if_pos c14] <;> rfl) (Nat.le_of_ble_eq_true rfl) (Nat.le_of_ble_eq_true rfl) dX4_obstacle_22
    · refine lv_iconst (v := 0) hx hb dX4_obstacle_17 (by decide) ?_
      refine lv_goto (tgt := 22) hx hb dX4_obstacle_18 (by decide) ?_
      exact xe_i hx hb hr hlocks hP hS rfl rfl (by rw [fX4_obstacle, if_neg c4, if_neg c14] <;> rfl) (Nat.le_of_ble_eq_true rfl) (Nat.le_of_ble_eq_true rfl) dX4_obstacle_22
  · refine lv_iconst (v := 1) hx hb dX4_obstacle_7 (by decide) ?_
    exact xe_i hx hb hr hlocks hP hS rfl rfl (by rw [fX4_obstacle, if_pos c4] <;> rfl) (Nat.le_of_ble_eq_true rfl) (Nat.le_of_ble_eq_true rfl) dX4_obstacle_8
def gX4_bringHairs (M : Mem) (r : Nat) : Mem := mU (mU M r 6 ((M r 6) + (xmin (M r 5) ((99 : Int32) - (M r 6))))) r 7 (((mU M r 6 ((M r 6) + (xmin (M r 5) ((99 : Int32) - (M r 6))))) r 7) + (xmin (M r 5) ((99 : Int32) - (M r 6))))
set_option maxHeartbeats 4000000 in
set_option maxRecDepth 100000 in
theorem c_X4_bringHairs (l : Launch) (D : va_G) (cy : Nat → ClassId) (b n : Nat) (hn : 124 ≤ n) (M : Mem) (r : Nat) (h_r : kd r = 4) : Met l yX4_bringHairs wsX4_bringHairs ({ frames := 1, cells := 0, slots := 0, locals := 21 } : Room) (CP D cy b n fT M [.ref (b + r)]) (CQv D cy b n fT (gX4_bringHairs M r)) 0 0 (fr b) := by
  refine Met.ofW (cc := cX4_bringHairs) (maxL := 2) (ret := none) (by decide) rfl ?_
  intro p e s m args below meth c s₁ B hml hv
  obtain ⟨rfl, hP, hK, hX⟩ := hv
  have hx := B.exec
  have hb := B.bytes
  have hr := B.returns
  have hts := atoms_spec (ws := wsX4_bringHairs) B.pre
  have hown : s.vm.findClass RX4 = some m.cls := findClass_of_methodNamed B.named
  have hlocks := B.notSynchronized
  have lk0 := hts (.fieldLink RX4 31 "HygrometerRoom$Room" "skill" "I") (by decide +kernel)
  have lk1 := hts (.fieldLink RX4 34 "HygrometerRoom$Room" "stock" "I") (by decide +kernel)
  have lk2 := hts (.methodLink RX4 62 Lib.Math.min.name) (by decide +kernel)
  have lk3 := hts (.static Lib.Math.min.name) (by decide +kernel)
  have lk4 := hts (.initialized "java/lang/Math") (by decide +kernel)
  have lk5 := hts (.code Lib.Math.min.name Lib.Math.min.code 2 (some .int)) (by decide +kernel)
  have lk6 := hts (.fieldLink RX4 37 "HygrometerRoom$Room" "brought" "I") (by decide +kernel)
  have inc4 : ∀ w ∈ u_ws RX4 TX4 8, w ∈ wsX4_bringHairs := by decide +kernel
  have hS : va_S (fr b) s.heap s.heap [] := va_S.rf
  have hl := lv_entry ([.ref (b + r)]) (n := 2) (Nat.le_of_ble_eq_true rfl)
  rw [lg_entry_eq]
  generalize (lg_sl ([.ref (b + r)]) ++ List.replicate (2 - (lg_sl ([.ref (b + r)])).length) Slot.unset).toArray = ls at hl ⊢
  have hl : lv_has ls 2 [(0, .ref (b + r))] := hl
  refine lv_aload_n hx hb dX4_bringHairs_0 rfl (lv_at hl 0 rfl) ?_
  refine xg (C := RX4) (T := TX4) (N := 8) (v := .int (M r 5)) hx hb hts inc4 hown hK hP (kR_lt h_r hn) (cell4 h_r) rfl 5 (by decide) lk0 (fun _ h => h) rfl dX4_bringHairs_1 ?_
  refine lv_bipush (v := 99) hx hb dX4_bringHairs_4 (by decide) ?_
  refine lv_aload_n hx hb dX4_bringHairs_6 rfl (lv_at hl 0 rfl) ?_
  refine xg (C := RX4) (T := TX4) (N := 8) (v := .int (M r 6)) hx hb hts inc4 hown hK hP (kR_lt h_r hn) (cell4 h_r) rfl 6 (by decide) lk1 (fun _ h => h) rfl dX4_bringHairs_7 ?_
  refine lv_isub hx hb dX4_bringHairs_10 ?_
  refine x_mmin hx hb (hml.trans hl.1.symm) hown lk2 lk3 lk4 lk5 (Nat.le_of_ble_eq_true rfl) (Nat.le_of_ble_eq_true rfl) (Nat.le_of_ble_eq_true rfl) (Nat.le_of_ble_eq_true rfl) dX4_bringHairs_11 ?_
  refine lv_istore_n (lv' := [(1, .int (xmin (M r 5) ((99 : Int32) - (M r 6)))), (0, .ref (b + r))]) hx hb dX4_bringHairs_14 rfl hl (by decide) rfl (fun ls hl => ?_)
  refine lv_aload_n hx hb dX4_bringHairs_15 rfl (lv_at hl 1 rfl) ?_
  refine lv_dup hx hb dX4_bringHairs_16 rfl ?_
  refine xg (C := RX4) (T := TX4) (N := 8) (v := .int (M r 6)) hx hb hts inc4 hown hK hP (kR_lt h_r hn) (cell4 h_r) rfl 6 (by decide) lk1 (fun _ h => h) rfl dX4_bringHairs_17 ?_
  refine lv_iload_n hx hb dX4_bringHairs_20 rfl (lv_at hl 0 rfl) ?_
  refine lv_iadd hx hb dX4_bringHairs_21 ?_
  refine xp (C := RX4) (T := TX4) (N := 8) (ci := 4) (ty := .int) (x := (M r 6) + (xmin (M r 5) ((99 : Int32) - (M r 6)))) hx hb hts inc4 tyX4 tyX4_ok nmX4 hown hK hP hS (kR_lt h_r hn) (fun _ => cell4 h_r) rfl 6 (by decide) rfl lk1 (fun _ h => h) rfl (tyX4_ok 6 (by decide)) rfl rfl (Nat.le_of_ble_eq_true rfl) dX4_bringHairs_22 (fun H locs hP hS => ?_)
  refine lv_aload_n hx hb dX4_bringHairs_25 rfl (lv_at hl 1 rfl) ?_
  refine lv_dup hx hb dX4_bringHairs_26 rfl ?_
  refine xg (C := RX4) (T := TX4) (N := 8) (v := .int ((mU M r 6 ((M r 6) + (xmin (M r 5) ((99 : Int32) - (M r 6))))) r 7)) hx hb hts inc4 hown hK hP (kR_lt h_r hn) (cell4 h_r) rfl 7 (by decide) lk6 (fun _ h => h) rfl dX4_bringHairs_27 ?_
  refine lv_iload_n hx hb dX4_bringHairs_30 rfl (lv_at hl 0 rfl) ?_
  refine lv_iadd hx hb dX4_bringHairs_31 ?_
  refine xp (C := RX4) (T := TX4) (N := 8) (ci := 4) (ty := .int) (x := ((mU M r 6 ((M r 6) + (xmin (M r 5) ((99 : Int32) - (M r 6))))) r 7) + (xmin (M r 5) ((99 : Int32) - (M r 6)))) hx hb hts inc4 tyX4 tyX4_ok nmX4 hown hK hP hS (kR_lt h_r hn) (fun _ => cell4 h_r) rfl 7 (by decide) rfl lk6 (fun _ h => h) rfl (tyX4_ok 7 (by decide)) rfl rfl (Nat.le_of_ble_eq_true rfl) dX4_bringHairs_32 (fun H locs hP hS => ?_)
  exact xe_v hx hb hr hlocks hP hS rfl (by rw [gX4_bringHairs] <;> rfl) (Nat.le_of_ble_eq_true rfl) (Nat.le_of_ble_eq_true rfl) dX4_bringHairs_35
theorem gX4_bringHairs_ne {M : Mem} {r p : Nat} (h : p ≠ r) : gX4_bringHairs M r p = M p := by unfold gX4_bringHairs; simp only [mU, if_neg h]
theorem gX4_bringHairs_cnt {M : Mem} {r : Nat} (hc : CNT M r) : CNT (gX4_bringHairs M r) r := by unfold gX4_bringHairs; exact cnt_put (by decide) (cnt_put (by decide) hc)

