/-! what the instruments' methods leave as it is -/
theorem gX1_clear_ne {M : Mem} {o p : Nat} (h : p ≠ o) : gX1_clear M o p = M p := by unfold gX1_clear; simp only [mU, if_neg h]
theorem gX1_becomeHair_ne {M : Mem} {o p : Nat} {x y : Int32} (h : p ≠ o) : gX1_becomeHair M o x y p = M p := by unfold gX1_becomeHair; simp only [mU, if_neg h, gX1_clear_ne h]
theorem gX1_becomeBulb_ne {M : Mem} {o p : Nat} {x : Int32} (h : p ≠ o) : gX1_becomeBulb M o x p = M p := by unfold gX1_becomeBulb; simp only [mU, if_neg h, gX1_clear_ne h]
theorem gX1_copyFrom_ne {M : Mem} {o q p : Nat} (h : p ≠ o) : gX1_copyFrom M o q p = M p := by unfold gX1_copyFrom; simp only [mU, if_neg h]
theorem gX1_moveWetness_ne {M : Mem} {o p : Nat} {x y : Int32} (h : p ≠ o) : gX1_moveWetness M o x y p = M p := by unfold gX1_moveWetness; split <;> simp only [mU, if_neg h]
theorem gX1_age_ne {M : Mem} {o p : Nat} {x y : Int32} (h : p ≠ o) : gX1_age M o x y p = M p := by unfold gX1_age; (repeat' split) <;> simp only [mU, if_neg h, gX1_moveWetness_ne h]
theorem gX1_tightenSpring_ne {M : Mem} {o p : Nat} (h : p ≠ o) : gX1_tightenSpring M o p = M p := by unfold gX1_tightenSpring; split <;> simp only [mU, if_neg h]
theorem mU_row {M : Mem} {o k j : Nat} {v : Int32} (h : j ≠ k) : mU M o k v o j = M o j := by rw [mU_at]; exact pk_un h
theorem cnt_put {M : Mem} {r k : Nat} {v : Int32} (h : k ≠ 1) (hc : CNT M r) : CNT (mU M r k v) r := by unfold CNT; rw [mU_row (Ne.symm h)]; exact hc
theorem xfind_lt {x L : Int32} (h : UB L 6) (h0 : ¬ x < 0) (hc : ¬ L ≤ x) : x.toNatClampNeg < 6 := by
  obtain ⟨k, hk, rfl⟩ := h
  obtain ⟨j, hj, rfl⟩ := nI_of h0
  rw [nI_leI (by omega) hj] at hc
  rw [nI_clamp hj]
  omega
theorem cnt_putn {M : Mem} {r o k : Nat} {v : Int32} (h : r ≠ o) (hc : CNT M r) : CNT (mU M o k v) r := cnt_row (mU_ne M k v h) hc
def gX4_begin (M : Mem) (r : Nat) (x : Int32) (y : Int32) (z : Int32) : Mem := mU (mU (mU (mU (mU (mU (mU M r 1 (0 : Int32)) r 2 (0 : Int32)) r 3 x) r 4 y) r 5 z) r 6 (0 : Int32)) r 7 (0 : Int32)
set_option maxHeartbeats 4000000 in
set_option maxRecDepth 100000 in
theorem c_X4_begin (l : Launch) (D : va_G) (cy : Nat → ClassId) (b n : Nat) (hn : 124 ≤ n) (M : Mem) (r : Nat) (x : Int32) (y : Int32) (z : Int32) (h_r : kd r = 4) : Met l yX4_begin wsX4_begin ({ frames := 0, cells := 0, slots := 0, locals := 0 } : Room) (CP D cy b n fT M [.ref (b + r), .int x, .int y, .int z]) (CQv D cy b n fT (gX4_begin M r x y z)) 0 0 (fr b) := by
  refine Met.ofW (cc := cX4_begin) (maxL := 4) (ret := none) (by decide) rfl ?_
  intro p e s m args below meth c s₁ B hml hv
  obtain ⟨rfl, hP, hK, hX⟩ := hv
  have hx := B.exec
  have hb := B.bytes
  have hr := B.returns
  have hts := atoms_spec (ws := wsX4_begin) B.pre
  have hown : s.vm.findClass RX4 = some m.cls := findClass_of_methodNamed B.named
  have hlocks := B.notSynchronized
  have lk0 := hts (.fieldLink RX4 18 "HygrometerRoom$Room" "count" "I") (by decide +kernel)
  have lk1 := hts (.fieldLink RX4 22 "HygrometerRoom$Room" "minute" "I") (by decide +kernel)
  have lk2 := hts (.fieldLink RX4 25 "HygrometerRoom$Room" "humidity" "I") (by decide +kernel)
  have lk3 := hts (.fieldLink RX4 28 "HygrometerRoom$Room" "temperature" "I") (by decide +kernel)
  have lk4 := hts (.fieldLink RX4 31 "HygrometerRoom$Room" "skill" "I") (by decide +kernel)
  have lk5 := hts (.fieldLink RX4 34 "HygrometerRoom$Room" "stock" "I") (by decide +kernel)
  have lk6 := hts (.fieldLink RX4 37 "HygrometerRoom$Room" "brought" "I") (by decide +kernel)
  have inc4 : ∀ w ∈ u_ws RX4 TX4 8, w ∈ wsX4_begin := by decide +kernel
  have hS : va_S (fr b) s.heap s.heap [] := va_S.rf
  have hl := lv_entry ([.ref (b + r), .int x, .int y, .int z]) (n := 4) (Nat.le_of_ble_eq_true rfl)
  rw [lg_entry_eq]
  generalize (lg_sl ([.ref (b + r), .int x, .int y, .int z]) ++ List.replicate (4 - (lg_sl ([.ref (b + r), .int x, .int y, .int z])).length) Slot.unset).toArray = ls at hl ⊢
  have hl : lv_has ls 4 [(0, .ref (b + r)), (1, .int x), (2, .int y), (3, .int z)] := hl
  refine lv_aload_n hx hb dX4_begin_0 rfl (lv_at hl 0 rfl) ?_
  refine lv_iconst (v := 0) hx hb dX4_begin_1 (by decide) ?_
  refine xp (C := RX4) (T := TX4) (N := 8) (ci := 4) (ty := .int) (x := (0 : Int32)) hx hb hts inc4 tyX4 tyX4_ok nmX4 hown hK hP hS (kR_lt h_r hn) (fun _ => cell4 h_r) rfl 1 (by decide) rfl lk0 (fun _ h => h) rfl (tyX4_ok 1 (by decide)) rfl rfl (Nat.le_of_ble_eq_true rfl) dX4_begin_2 (fun H locs hP hS => ?_)
  refine lv_aload_n hx hb dX4_begin_5 rfl (lv_at hl 0 rfl) ?_
  refine lv_iconst (v := 0) hx hb dX4_begin_6 (by decide) ?_
  refine xp (C := RX4) (T := TX4) (N := 8) (ci := 4) (ty := .int) (x := (0 : Int32)) hx hb hts inc4 tyX4 tyX4_ok nmX4 hown hK hP hS (kR_lt h_r hn) (fun _ => cell4 h_r) rfl 2 (by decide) rfl lk1 (fun _ h => h) rfl (tyX4_ok 2 (by decide)) rfl rfl (Nat.le_of_ble_eq_true rfl) dX4_begin_7 (fun H locs hP hS => ?_)
  refine lv_aload_n hx hb dX4_begin_10 rfl (lv_at hl 0 rfl) ?_
  refine lv_iload_n hx hb dX4_begin_11 rfl (lv_at hl 1 rfl) ?_
  refine xp (C := RX4) (T := TX4) (N := 8) (ci := 4) (ty := .int) (x := x) hx hb hts inc4 tyX4 tyX4_ok nmX4 hown hK hP hS (kR_lt h_r hn) (fun _ => cell4 h_r) rfl 3 (by decide) rfl lk2 (fun _ h => h) rfl (tyX4_ok 3 (by decide)) rfl rfl (Nat.le_of_ble_eq_true rfl) dX4_begin_12 (fun H locs hP hS => ?_)
  refine lv_aload_n hx hb dX4_begin_15 rfl (lv_at hl 0 rfl) ?_
  refine lv_iload_n hx hb dX4_begin_16 rfl (lv_at hl 2 rfl) ?_
  refine xp (C := RX4) (T := TX4) (N := 8) (ci := 4) (ty := .int) (x := y) hx hb hts inc4 tyX4 tyX4_ok nmX4 hown hK hP hS (kR_lt h_r hn) (fun _ => cell4 h_r) rfl 4 (by decide) rfl lk3 (fun _ h => h) rfl (tyX4_ok 4 (by decide)) rfl rfl (Nat.le_of_ble_eq_true rfl) dX4_begin_17 (fun H locs hP hS => ?_)
  refine lv_aload_n hx hb dX4_begin_20 rfl (lv_at hl 0 rfl) ?_
  refine lv_iload_n hx hb dX4_begin_21 rfl (lv_at hl 3 rfl) ?_
  refine xp (C := RX4) (T := TX4) (N := 8) (ci := 4) (ty := .int) (x := z) hx hb hts inc4 tyX4 tyX4_ok nmX4 hown hK hP hS (kR_lt h_r hn) (fun _ => cell4 h_r) rfl 5 (by decide) rfl lk4 (fun _ h => h) rfl (tyX4_ok 5 (by decide)) rfl rfl (Nat.le_of_ble_eq_true rfl) dX4_begin_22 (fun H locs hP hS => ?_)
  refine lv_aload_n hx hb dX4_begin_25 rfl (lv_at hl 0 rfl) ?_
  refine lv_iconst (v := 0) hx hb dX4_begin_26 (by decide) ?_
  refine xp (C := RX4) (T := TX4) (N := 8) (ci := 4) (ty := .int) (x := (0 : Int32)) hx hb hts inc4 tyX4 tyX4_ok nmX4 hown hK hP hS (kR_lt h_r hn) (fun _ => cell4 h_r) rfl 6 (by decide) rfl lk5 (fun _ h => h) rfl (tyX4_ok 6 (by decide)) rfl rfl (Nat.le_of_ble_eq_true rfl) dX4_begin_27 (fun H locs hP hS => ?_)
  refine lv_aload_n hx hb dX4_begin_30 rfl (lv_at hl 0 rfl) ?_
  refine lv_iconst (v := 0) hx hb dX4_begin_31 (by decide) ?_
  refine xp (C := RX4) (T := TX4) (N := 8) (ci := 4) (ty := .int) (x := (0 : Int32)) hx hb hts inc4 tyX4 tyX4_ok nmX4 hown hK hP hS (kR_lt h_r hn) (fun _ => cell4 h_r) rfl 7 (by decide) rfl lk6 (fun _ h => h) rfl (tyX4_ok 7 (by decide)) rfl rfl (Nat.le_of_ble_eq_true rfl) dX4_begin_32 (fun H locs hP hS => ?_)
  exact xe_v hx hb hr hlocks hP hS rfl (by rw [gX4_begin] <;> rfl) (Nat.le_of_ble_eq_true rfl) (Nat.le_of_ble_eq_true rfl) dX4_begin_35
def gX4_newHair (M : Mem) (r : Nat) (x : Int32) : Mem := if (6 : Int32) ≤ (M r 1) then M else (mU (gX1_becomeHair M (r + 1 + 1 + ((M r 1).toNatClampNeg)) x (M r 3)) r 1 (((gX1_becomeHair M (r + 1 + 1 + ((M r 1).toNatClampNeg)) x (M r 3)) r 1) + (1 : Int32)))
set_option maxHeartbeats 4000000 in
set_option maxRecDepth 100000 in
theorem c_X4_newHair (l : Launch) (D : va_G) (cy : Nat → ClassId) (b n : Nat) (hn : 124 ≤ n) (M : Mem) (r : Nat) (x : Int32) (h_r : kd r = 4) (hcnt : CNT M r) : Met l yX4_newHair wsX4_newHair ({ frames := 1, cells := 0, slots := 0, locals := 22 } : Room) (CP D cy b n fT M [.ref (b + r), .int x]) (CQv D cy b n fT (gX4_newHair M r x)) 0 0 (fr b) := by
  refine Met.ofW (cc := cX4_newHair) (maxL := 2) (ret := none) (by decide) rfl ?_
  intro p e s m args below meth c s₁ B hml hv
  obtain ⟨rfl, hP, hK, hX⟩ := hv
  have hx := B.exec
  have hb := B.bytes
  have hr := B.returns
  have hts := atoms_spec (ws := wsX4_newHair) B.pre
  have hown : s.vm.findClass RX4 = some m.cls := findClass_of_methodNamed B.named
  have hlocks := B.notSynchronized
  have lk0 := hts (.fieldLink RX4 18 "HygrometerRoom$Room" "count" "I") (by decide +kernel)
  have lk1 := hts (.fieldLink RX4 11 "HygrometerRoom$Room" "instruments" "[LHygrometerRoom$Instrument;") (by decide +kernel)
  have lk2 := hts (.fieldLink RX4 25 "HygrometerRoom$Room" "humidity" "I") (by decide +kernel)
  have inc4 : ∀ w ∈ u_ws RX4 TX4 8, w ∈ wsX4_newHair := by decide +kernel
  have hS : va_S (fr b) s.heap s.heap [] := va_S.rf
  have hl := lv_entry ([.ref (b + r), .int x]) (n := 2) (Nat.le_of_ble_eq_true rfl)
  rw [lg_entry_eq]
  generalize (lg_sl ([.ref (b + r), .int x]) ++ List.replicate (2 - (lg_sl ([.ref (b + r), .int x])).length) Slot.unset).toArray = ls at hl ⊢
  have hl : lv_has ls 2 [(0, .ref (b + r)), (1, .int x)] := hl
  refine lv_aload_n hx hb dX4_newHair_0 rfl (lv_at hl 0 rfl) ?_
  refine xg (C := RX4) (T := TX4) (N := 8) (v := .int (M r 1)) hx hb hts inc4 hown hK hP (kR_lt h_r hn) (cell4 h_r) rfl 1 (by decide) lk0 (fun _ h => h) rfl dX4_newHair_1 ?_
  refine lv_aload_n hx hb dX4_newHair_4 rfl (lv_at hl 0 rfl) ?_
  refine xg (C := RX4) (T := TX4) (N := 8) (v := .ref (b + (r + 1))) hx hb hts inc4 hown hK hP (kR_lt h_r hn) (cell4 h_r) rfl 0 (by decide) lk1 (fun _ h => h) rfl dX4_newHair_5 ?_
  refine xlen (v := 6) hx hb hK hP (kA_lt h_r hn) 3 (cell13 (kd_arr h_r)) rfl rfl dX4_newHair_8 ?_
  refine lv_icmp_ge (tgt := 39) hx hb dX4_newHair_9 (by decide) (fun c9 => ?_) (fun c9 => ?_)
  · exact xe_v hx hb hr hlocks hP hS rfl (by rw [gX4_newHair, if_pos c9] <;> rfl) (Nat.le_of_ble_eq_true rfl) (Nat.le_of_ble_eq_true rfl) dX4_newHair_39
  · refine lv_aload_n hx hb dX4_newHair_12 rfl (lv_at hl 0 rfl) ?_
    refine xg (C := RX4) (T := TX4) (N := 8) (v := .ref (b + (r + 1))) hx hb hts inc4 hown hK hP (kR_lt h_r hn) (cell4 h_r) rfl 0 (by decide) lk1 (fun _ h => h) rfl dX4_newHair_13 ?_
    refine lv_aload_n hx hb dX4_newHair_16 rfl (lv_at hl 0 rfl) ?_
    refine xg (C := RX4) (T := TX4) (N := 8) (v := .int (M r 1)) hx hb hts inc4 hown hK hP (kR_lt h_r hn) (cell4 h_r) rfl 1 (by decide) lk0 (fun _ h => h) rfl dX4_newHair_17 ?_
    refine xnl (j := (M r 1).toNatClampNeg) hx hb hK hP (kA_lt h_r hn) (kd_arr h_r) (vin_cl (ub_ge hcnt) (ub_cl hcnt c9)) rfl dX4_newHair_20 ?_
    refine lv_iload_n hx hb dX4_newHair_21 rfl (lv_at hl 1 rfl) ?_
    refine lv_aload_n hx hb dX4_newHair_22 rfl (lv_at hl 0 rfl) ?_
    refine xg (C := RX4) (T := TX4) (N := 8) (v := .int (M r 3)) hx hb hts inc4 hown hK hP (kR_lt h_r hn) (cell4 h_r) rfl 3 (by decide) lk2 (fun _ h => h) rfl dX4_newHair_23 ?_
    refine xc_v (va_runV (As := [.int x, .int (M r 3)]) (rest := []) ⟨hx, hb, hml, hown, hts⟩ (c_X1_becomeHair l D cy b n hn M (r + 1 + 1 + ((M r 1).toNatClampNeg)) x (M r 3) (kd_ins h_r (ub_cl hcnt c9))) (cwV 2 hts gX4_newHair_X1_becomeHair rfl rfl rfl (by decide +kernel) ⟨Nat.le_of_ble_eq_true rfl, Nat.le_of_ble_eq_true rfl⟩) (xPreV hP hK hX hS (kI_lt (kd_ins h_r (ub_cl hcnt c9)) hn) (cell1 (kd_ins h_r (ub_cl hcnt c9))) rfl) rfl rfl hl.1 rfl (lv_room (Nat.le_of_ble_eq_true rfl)) dX4_newHair_26 ⟨Nat.le_of_ble_eq_true rfl, Nat.le_of_ble_eq_true rfl⟩) hS (fun H locs hP hS => ?_)
    refine lv_aload_n hx hb dX4_newHair_29 rfl (lv_at hl 0 rfl) ?_
    refine lv_dup hx hb dX4_newHair_30 rfl ?_
    refine xg (C := RX4) (T := TX4) (N := 8) (v := .int ((gX1_becomeHair M (r + 1 + 1 + ((M r 1).toNatClampNeg)) x (M r 3)) r 1)) hx hb hts inc4 hown hK hP (kR_lt h_r hn) (cell4 h_r) rfl 1 (by decide) lk0 (fun _ h => h) rfl dX4_newHair_31 ?_
    refine lv_iconst (v := 1) hx hb dX4_newHair_34 (by decide) ?_
    refine lv_iadd hx hb dX4_newHair_35 ?_
    refine xp (C := RX4) (T := TX4) (N := 8) (ci := 4) (ty := .int) (x := ((gX1_becomeHair M (r + 1 + 1 + ((M r 1).toNatClampNeg)) x (M r 3)) r 1) + (1 : Int32)) hx hb hts inc4 tyX4 tyX4_ok nmX4 hown hK hP hS (kR_lt h_r hn) (fun _ => cell4 h_r) rfl 1 (by decide) rfl lk0 (fun _ h => h) rfl (tyX4_ok 1 (by decide)) rfl rfl (Nat.le_of_ble_eq_true rfl) dX4_newHair_36 (fun H locs hP hS => ?_)
    exact xe_v hx hb hr hlocks hP hS rfl (by rw [gX4_newHair, if_neg c9] <;> rfl) (Nat.le_of_ble_eq_true rfl) (Nat.le_of_ble_eq_true rfl) dX4_newHair_39
def gX4_newBulb (M : Mem) (r : Nat) (x : Int32) : Mem := if (6 : Int32) ≤ (M r 1) then M else (mU (gX1_becomeBulb M (r + 1 + 1 + ((M r 1).toNatClampNeg)) x) r 1 (((gX1_becomeBulb M (r + 1 + 1 + ((M r 1).toNatClampNeg)) x) r 1) + (1 : Int32)))
set_option maxHeartbeats 4000000 in
set_option maxRecDepth 100000 in
theorem c_X4_newBulb (l : Launch) (D : va_G) (cy : Nat → ClassId) (b n : Nat) (hn : 124 ≤ n) (M : Mem) (r : Nat) (x : Int32) (h_r : kd r = 4) (hcnt : CNT M r) : Met l yX4_newBulb wsX4_newBulb ({ frames := 1, cells := 0, slots := 0, locals := 21 } : Room) (CP D cy b n fT M [.ref (b + r), .int x]) (CQv D cy b n fT (gX4_newBulb M r x)) 0 0 (fr b) := by
  refine Met.ofW (cc := cX4_newBulb) (maxL := 2) (ret := none) (by decide) rfl ?_
  intro p e s m args below meth c s₁ B hml hv
  obtain ⟨rfl, hP, hK, hX⟩ := hv
  have hx := B.exec
  have hb := B.bytes
  have hr := B.returns
  have hts := atoms_spec (ws := wsX4_newBulb) B.pre
  have hown : s.vm.findClass RX4 = some m.cls := findClass_of_methodNamed B.named
  have hlocks := B.notSynchronized
  have lk0 := hts (.fieldLink RX4 18 "HygrometerRoom$Room" "count" "I") (by decide +kernel)
  have lk1 := hts (.fieldLink RX4 11 "HygrometerRoom$Room" "instruments" "[LHygrometerRoom$Instrument;") (by decide +kernel)
  have inc4 : ∀ w ∈ u_ws RX4 TX4 8, w ∈ wsX4_newBulb := by decide +kernel
  have hS : va_S (fr b) s.heap s.heap [] := va_S.rf
  have hl := lv_entry ([.ref (b + r), .int x]) (n := 2) (Nat.le_of_ble_eq_true rfl)
  rw [lg_entry_eq]
  generalize (lg_sl ([.ref (b + r), .int x]) ++ List.replicate (2 - (lg_sl ([.ref (b + r), .int x])).length) Slot.unset).toArray = ls at hl ⊢
  have hl : lv_has ls 2 [(0, .ref (b + r)), (1, .int x)] := hl
  refine lv_aload_n hx hb dX4_newBulb_0 rfl (lv_at hl 0 rfl) ?_
  refine xg (C := RX4) (T := TX4) (N := 8) (v := .int (M r 1)) hx hb hts inc4 hown hK hP (kR_lt h_r hn) (cell4 h_r) rfl 1 (by decide) lk0 (fun _ h => h) rfl dX4_newBulb_1 ?_
  refine lv_aload_n hx hb dX4_newBulb_4 rfl (lv_at hl 0 rfl) ?_
  refine xg (C := RX4) (T := TX4) (N := 8) (v := .ref (b + (r + 1))) hx hb hts inc4 hown hK hP (kR_lt h_r hn) (cell4 h_r) rfl 0 (by decide) lk1 (fun _ h => h) rfl dX4_newBulb_5 ?_
  refine xlen (v := 6) hx hb hK hP (kA_lt h_r hn) 3 (cell13 (kd_arr h_r)) rfl rfl dX4_newBulb_8 ?_
  refine lv_icmp_ge (tgt := 35) hx hb dX4_newBulb_9 (by decide) (fun c9 => ?_) (fun c9 => ?_)
  · exact xe_v hx hb hr hlocks hP hS rfl (by rw [gX4_newBulb, if_pos c9] <;> rfl) (Nat.le_of_ble_eq_true rfl) (Nat.le_of_ble_eq_true rfl) dX4_newBulb_35
  · refine lv_aload_n hx hb dX4_newBulb_12 rfl (lv_at hl 0 rfl) ?_
    refine xg (C := RX4) (T := TX4) (N := 8) (v := .ref (b + (r + 1))) hx hb hts inc4 hown hK hP (kR_lt h_r hn) (cell4 h_r) rfl 0 (by decide) lk1 (fun _ h => h) rfl dX4_newBulb_13 ?_
    refine lv_aload_n hx hb dX4_newBulb_16 rfl (lv_at hl 0 rfl) ?_
    refine xg (C := RX4) (T := TX4) (N := 8) (v := .int (M r 1)) hx hb hts inc4 hown hK hP (kR_lt h_r hn) (cell4 h_r) rfl 1 (by decide) lk0 (fun _ h => h) rfl dX4_newBulb_17 ?_
    refine xnl (j := (M r 1).toNatClampNeg) hx hb hK hP (kA_lt h_r hn) (kd_arr h_r) (vin_cl (ub_ge hcnt) (ub_cl hcnt c9)) rfl dX4_newBulb_20 ?_
    refine lv_iload_n hx hb dX4_newBulb_21 rfl (lv_at hl 1 rfl) ?_
    refine xc_v (va_runV (As := [.int x]) (rest := []) ⟨hx, hb, hml, hown, hts⟩ (c_X1_becomeBulb l D cy b n hn M (r + 1 + 1 + ((M r 1).toNatClampNeg)) x (kd_ins h_r (ub_cl hcnt c9))) (cwV 1 hts gX4_newBulb_X1_becomeBulb rfl rfl rfl (by decide +kernel) ⟨Nat.le_of_ble_eq_true rfl, Nat.le_of_ble_eq_true rfl⟩) (xPreV hP hK hX hS (kI_lt (kd_ins h_r (ub_cl hcnt c9)) hn) (cell1 (kd_ins h_r (ub_cl hcnt c9))) rfl) rfl rfl hl.1 rfl (lv_room (Nat.le_of_ble_eq_true rfl)) dX4_newBulb_22 ⟨Nat.le_of_ble_eq_true rfl, Nat.le_of_ble_eq_true rfl⟩) hS (fun H locs hP hS => ?_)
    refine lv_aload_n hx hb dX4_newBulb_25 rfl (lv_at hl 0 rfl) ?_
    refine lv_dup hx hb dX4_newBulb_26 rfl ?_
    refine xg (C := RX4) (T := TX4) (N := 8) (v := .int ((gX1_becomeBulb M (r + 1 + 1 + ((M r 1).toNatClampNeg)) x) r 1)) hx hb hts inc4 hown hK hP (kR_lt h_r hn) (cell4 h_r) rfl 1 (by decide) lk0 (fun _ h => h) rfl dX4_newBulb_27 ?_
    refine lv_iconst (v := 1) hx hb dX4_newBulb_30 (by decide) ?_
    refine lv_iadd hx hb dX4_newBulb_31 ?_
    refine xp (C := RX4) (T := TX4) (N := 8) (ci := 4) (ty := .int) (x := ((gX1_becomeBulb M (r + 1 + 1 + ((M r 1).toNatClampNeg)) x) r 1) + (1 : Int32)) hx hb hts inc4 tyX4 tyX4_ok nmX4 hown hK hP hS (kR_lt h_r hn) (fun _ => cell4 h_r) rfl 1 (by decide) rfl lk0 (fun _ h => h) rfl (tyX4_ok 1 (by decide)) rfl rfl (Nat.le_of_ble_eq_true rfl) dX4_newBulb_32 (fun H locs hP hS => ?_)
    exact xe_v hx hb hr hlocks hP hS rfl (by rw [gX4_newBulb, if_neg c9] <;> rfl) (Nat.le_of_ble_eq_true rfl) (Nat.le_of_ble_eq_true rfl) dX4_newBulb_35
def fX4_find (M : Mem) (r : Nat) (x : Int32) : Option Nat := if x < 0 then none else (if (M r 1) ≤ x then none else (some (r + 1 + 1 + x.toNatClampNeg)))
set_option maxHeartbeats 4000000 in
set_option maxRecDepth 100000 in
theorem c_X4_find (l : Launch) (D : va_G) (cy : Nat → ClassId) (b n : Nat) (hn : 124 ≤ n) (M : Mem) (r : Nat) (x : Int32) (h_r : kd r = 4) (hcnt : CNT M r) : Met l yX4_find wsX4_find ({ frames := 0, cells := 0, slots := 0, locals := 0 } : Room) (CP D cy b n fT M [.ref (b + r), .int x]) (CQq D cy b n fT ((fX4_find M r x).map (fun o => b + o)) M) 0 0 (fr b) := by
  refine Met.ofW (cc := cX4_find) (maxL := 2) (ret := (some (.object "HygrometerRoom$Instrument"))) (by decide) rfl ?_
  intro p e s m args below meth c s₁ B hml hv
  obtain ⟨rfl, hP, hK, hX⟩ := hv
  have hx := B.exec
  have hb := B.bytes
  have hr := B.returns
  have hts := atoms_spec (ws := wsX4_find) B.pre
  have hown : s.vm.findClass RX4 = some m.cls := findClass_of_methodNamed B.named
  have hlocks := B.notSynchronized
  have lk0 := hts (.fieldLink RX4 18 "HygrometerRoom$Room" "count" "I") (by decide +kernel)
  have lk1 := hts (.fieldLink RX4 11 "HygrometerRoom$Room" "instruments" "[LHygrometerRoom$Instrument;") (by decide +kernel)
  have inc4 : ∀ w ∈ u_ws RX4 TX4 8, w ∈ wsX4_find := by decide +kernel
  have hS : va_S (fr b) s.heap s.heap [] := va_S.rf
  have hl := lv_entry ([.ref (b + r), .int x]) (n := 2) (Nat.le_of_ble_eq_true rfl)
  rw [lg_entry_eq]
  generalize (lg_sl ([.ref (b + r), .int x]) ++ List.replicate (2 - (lg_sl ([.ref (b + r), .int x])).length) Slot.unset).toArray = ls at hl ⊢
  have hl : lv_has ls 2 [(0, .ref (b + r)), (1, .int x)] := hl
  refine lv_iload_n hx hb dX4_find_0 rfl (lv_at hl 1 rfl) ?_
  refine lv_if_lt (tgt := 21) hx hb dX4_find_1 (by decide) (fun c1 => ?_) (fun c1 => ?_)
  · refine lv_null hx hb dX4_find_21 ?_
    exact xe_q hx hb hr hlocks hP hS rfl rfl (by rw [fX4_find, if_pos c1] <;> rfl) (Nat.le_of_ble_eq_true rfl) (Nat.le_of_ble_eq_true rfl) dX4_find_22
  · refine lv_iload_n hx hb dX4_find_4 rfl (lv_at hl 1 rfl) ?_
    refine lv_aload_n hx hb dX4_find_5 rfl (lv_at hl 0 rfl) ?_
    refine xg (C := RX4) (T := TX4) (N := 8) (v := .int (M r 1)) hx hb hts inc4 hown hK hP (kR_lt h_r hn) (cell4 h_r) rfl 1 (by decide) lk0 (fun _ h => h) rfl dX4_find_6 ?_
    refine lv_icmp_ge (tgt := 21) hx hb dX4_find_9 (by decide) (fun c9 => ?_) (fun c9 => ?_)
    · refine lv_null hx hb dX4_find_21 ?_
      exact xe_q hx hb hr hlocks hP hS rfl rfl (by rw [fX4_find, if_neg c1, if_pos c9] <;> rfl) (Nat.le_of_ble_eq_true rfl) (Nat.le_of_ble_eq_true rfl) dX4_find_22
    · refine lv_aload_n hx hb dX4_find_12 rfl (lv_at hl 0 rfl) ?_
      refine xg (C := RX4) (T := TX4) (N := 8) (v := .ref (b + (r + 1))) hx hb hts inc4 hown hK hP (kR_lt h_r hn) (cell4 h_r) rfl 0 (by decide) lk1 (fun _ h => h) rfl dX4_find_13 ?_
      refine lv_iload_n hx hb dX4_find_16 rfl (lv_at hl 1 rfl) ?_
      have hx6 : x.toNatClampNeg < 6 := xfind_lt hcnt c1 c9
      refine xnl (j := x.toNatClampNeg) hx hb hK hP (kA_lt h_r hn) (kd_arr h_r) (vin_cl c1 hx6) rfl dX4_find_17 ?_
      refine lv_goto (tgt := 22) hx hb dX4_find_18 (by decide) ?_
      exact xe_q hx hb hr hlocks hP hS rfl rfl (by rw [fX4_find, if_neg c1, if_neg c9] <;> rfl) (Nat.le_of_ble_eq_true rfl) (Nat.le_of_ble_eq_true rfl) dX4_find_22
def fX4_surrounding (M : Mem) (r : Nat) (x : Nat) : Int32 := fX7_fixedPointOr M (M x 8) (M r 3)
set_option maxHeartbeats 4000000 in
set_option maxRecDepth 100000 in
theorem c_X4_surrounding (l : Launch) (D : va_G) (cy : Nat → ClassId) (b n : Nat) (hn : 124 ≤ n) (M : Mem) (r : Nat) (x : Nat) (h_r : kd r = 4) (h_x : kd x = 1) : Met l yX4_surrounding wsX4_surrounding ({ frames := 1, cells := 0, slots := 0, locals := 21 } : Room) (CP D cy b n fT M [.ref (b + r), .ref (b + x)]) (CQi D cy b n fT (fX4_surrounding M r x) M) 0 0 (fr b) := by
  refine Met.ofW (cc := cX4_surrounding) (maxL := 2) (ret := (some .int)) (by decide) rfl ?_
  intro p e s m args below meth c s₁ B hml hv
  obtain ⟨rfl, hP, hK, hX⟩ := hv
  have hx := B.exec
  have hb := B.bytes
  have hr := B.returns
  have hts := atoms_spec (ws := wsX4_surrounding) B.pre
  have hown : s.vm.findClass RX4 = some m.cls := findClass_of_methodNamed B.named
  have hlocks := B.notSynchronized
  have lk0 := hts (.fieldLink RX4 68 "HygrometerRoom$Instrument" "box" "I") (by decide +kernel)
  have lk1 := hts (.fieldLink RX4 25 "HygrometerRoom$Room" "humidity" "I") (by decide +kernel)
  have lk2 := hts (.static yX7_fixedPointOr) (by decide +kernel)
  have lk3 := hts (.initialized RX7) (by decide +kernel)
  have inc1 : ∀ w ∈ u_ws RX1 TX1 9, w ∈ wsX4_surrounding := by decide +kernel
  have inc4 : ∀ w ∈ u_ws RX4 TX4 8, w ∈ wsX4_surrounding := by decide +kernel
  have hS : va_S (fr b) s.heap s.heap [] := va_S.rf
  have hl := lv_entry ([.ref (b + r), .ref (b + x)]) (n := 2) (Nat.le_of_ble_eq_true rfl)
  rw [lg_entry_eq]
  generalize (lg_sl ([.ref (b + r), .ref (b + x)]) ++ List.replicate (2 - (lg_sl ([.ref (b + r), .ref (b + x)])).length) Slot.unset).toArray = ls at hl ⊢
  have hl : lv_has ls 2 [(0, .ref (b + r)), (1, .ref (b + x))] := hl
  refine lv_aload_n hx hb dX4_surrounding_0 rfl (lv_at hl 1 rfl) ?_
  refine xg (C := RX1) (T := TX1) (N := 9) (v := .int (M x 8)) hx hb hts inc1 hown hK hP (kI_lt h_x hn) (cell1 h_x) rfl 8 (by decide) lk0 (fun _ h => h) rfl dX4_surrounding_1 ?_
  refine lv_aload_n hx hb dX4_surrounding_4 rfl (lv_at hl 0 rfl) ?_
  refine xg (C := RX4) (T := TX4) (N := 8) (v := .int (M r 3)) hx hb hts inc4 hown hK hP (kR_lt h_r hn) (cell4 h_r) rfl 3 (by decide) lk1 (fun _ h => h) rfl dX4_surrounding_5 ?_
  refine xc_i (va_runSN (As := [.int (M x 8), .int (M r 3)]) (rest := []) ⟨hx, hb, hml, hown, hts⟩ (c_X7_fixedPointOr l D cy b n hn M (M x 8) (M r 3)) ⟨va_cnB 2 hts gX4_surrounding_X7_fixedPointOr_n71 rfl rfl rfl (hX.2.2.2.2.2.1 (RX4, 71, yX7_fixedPointOr) (by decide +kernel)) lk3 (by decide +kernel) ⟨Nat.le_of_ble_eq_true rfl, Nat.le_of_ble_eq_true rfl⟩, lk2, trivial⟩ (xPreS hP hK hX hS) rfl rfl hl.1 rfl (lv_room (Nat.le_of_ble_eq_true rfl)) dX4_surrounding_8 ⟨Nat.le_of_ble_eq_true rfl, Nat.le_of_ble_eq_true rfl⟩) hS (fun H locs hP hS => ?_)
  exact xe_i hx hb hr hlocks hP hS rfl rfl (by rw [fX4_surrounding] <;> rfl) (Nat.le_of_ble_eq_true rfl) (Nat.le_of_ble_eq_true rfl) dX4_surrounding_11
def fX4_depression (M : Mem) (r : Nat) (x : Nat) : Int32 := if (M x 6) = 0 then (0 : Int32) else ((((100 : Int32) - (fX4_surrounding M r x)) * ((M r 4) + (10 : Int32))) / (100 : Int32))
set_option maxHeartbeats 4000000 in
set_option maxRecDepth 100000 in
theorem c_X4_depression (l : Launch) (D : va_G) (cy : Nat → ClassId) (b n : Nat) (hn : 124 ≤ n) (M : Mem) (r : Nat) (x : Nat) (h_r : kd r = 4) (h_x : kd x = 1) : Met l yX4_depression wsX4_depression ({ frames := 2, cells := 0, slots := 0, locals := 42 } : Room) (CP D cy b n fT M [.ref (b + r), .ref (b + x)]) (CQi D cy b n fT (fX4_depression M r x) M) 0 0 (fr b) := by
  refine Met.ofW (cc := cX4_depression) (maxL := 2) (ret := (some .int)) (by decide) rfl ?_
  intro p e s m args below meth c s₁ B hml hv
  obtain ⟨rfl, hP, hK, hX⟩ := hv
  have hx := B.exec
  have hb := B.bytes
  have hr := B.returns
  have hts := atoms_spec (ws := wsX4_depression) B.pre
  have hown : s.vm.findClass RX4 = some m.cls := findClass_of_methodNamed B.named
  have hlocks := B.notSynchronized
  have lk0 := hts (.fieldLink RX4 74 "HygrometerRoom$Instrument" "water" "I") (by decide +kernel)
  have lk1 := hts (.fieldLink RX4 28 "HygrometerRoom$Room" "temperature" "I") (by decide +kernel)
  have inc1 : ∀ w ∈ u_ws RX1 TX1 9, w ∈ wsX4_depression := by decide +kernel
  have inc4 : ∀ w ∈ u_ws RX4 TX4 8, w ∈ wsX4_depression := by decide +kernel
  have hS : va_S (fr b) s.heap s.heap [] := va_S.rf
  have hl := lv_entry ([.ref (b + r), .ref (b + x)]) (n := 2) (Nat.le_of_ble_eq_true rfl)
  rw [lg_entry_eq]
  generalize (lg_sl ([.ref (b + r), .ref (b + x)]) ++ List.replicate (2 - (lg_sl ([.ref (b + r), .ref (b + x)])).length) Slot.unset).toArray = ls at hl ⊢
  have hl : lv_has ls 2 [(0, .ref (b + r)), (1, .ref (b + x))] := hl
  refine lv_aload_n hx hb dX4_depression_0 rfl (lv_at hl 1 rfl) ?_
  refine xg (C := RX1) (T := TX1) (N := 9) (v := .int (M x 6)) hx hb hts inc1 hown hK hP (kI_lt h_x hn) (cell1 h_x) rfl 6 (by decide) lk0 (fun _ h => h) rfl dX4_depression_1 ?_
  refine lv_if_ne (tgt := 11) hx hb dX4_depression_4 (by decide) (fun c4 => ?_) (fun c4 => ?_)
  · refine lv_bipush (v := 100) hx hb dX4_depression_11 (by decide) ?_
    refine lv_aload_n hx hb dX4_depression_13 rfl (lv_at hl 0 rfl) ?_
    refine lv_aload_n hx hb dX4_depression_14 rfl (lv_at hl 1 rfl) ?_
    refine xc_i (va_runV (As := [.ref (b + x)]) (rest := [.int (100 : Int32)]) ⟨hx, hb, hml, hown, hts⟩ (c_X4_surrounding l D cy b n hn M r x h_r h_x) (cwV 1 hts gX4_depression_X4_surrounding rfl rfl rfl (by decide +kernel) ⟨Nat.le_of_ble_eq_true rfl, Nat.le_of_ble_eq_true rfl⟩) (xPreV hP hK hX hS (kR_lt h_r hn) (cell4 h_r) rfl) rfl rfl hl.1 rfl (lv_room (Nat.le_of_ble_eq_true rfl)) dX4_depression_15 ⟨Nat.le_of_ble_eq_true rfl, Nat.le_of_ble_eq_true rfl⟩) hS (fun H locs hP hS => ?_)
    refine lv_isub hx hb dX4_depression_18 ?_
    refine lv_aload_n hx hb dX4_depression_19 rfl (lv_at hl 0 rfl) ?_
    refine xg (C := RX4) (T := TX4) (N := 8) (v := .int (M r 4)) hx hb hts inc4 hown hK hP (kR_lt h_r hn) (cell4 h_r) rfl 4 (by decide) lk1 (fun _ h => h) rfl dX4_depression_20 ?_
    refine lv_bipush (v := 10) hx hb dX4_depression_23 (by decide) ?_
    refine lv_iadd hx hb dX4_depression_25 ?_
    refine lv_imul hx hb dX4_depression_26 ?_
    refine lv_bipush (v := 100) hx hb dX4_depression_27 (by decide) ?_
    refine lv_idiv hx hb dX4_depression_29 (by decide) ?_
    exact xe_i hx hb hr hlocks hP hS rfl rfl (by rw [fX4_depression, if_neg c4] <;> rfl) (Nat.le_of_ble_eq_true rfl) (Nat.le_of_ble_eq_true rfl) dX4_depression_30
  · refine lv_iconst (v := 0) hx hb dX4_depression_7 (by decide) ?_
    refine lv_goto (tgt := 30) hx hb dX4_depression_8 (by decide) ?_
    exact xe_i hx hb hr hlocks hP hS rfl rfl (by rw [fX4_depression, if_pos c4] <;> rfl) (Nat.le_of_ble_eq_true rfl) (Nat.le_of_ble_eq_true rfl) dX4_depression_30
def fX4_raw (M : Mem) (r : Nat) (x : Nat) : Int32 := if (bv (M x 0)) = 0 then ((100 : Int32) - (fX7_quotient M ((fX4_depression M r x) * (100 : Int32)) ((M r 4) + (10 : Int32)))) else ((M x 4) - ((M x 5) / (5 : Int32)))
set_option maxHeartbeats 4000000 in
set_option maxRecDepth 100000 in
theorem c_X4_raw (l : Launch) (D : va_G) (cy : Nat → ClassId) (b n : Nat) (hn : 124 ≤ n) (M : Mem) (r : Nat) (x : Nat) (h_r : kd r = 4) (h_x : kd x = 1) : Met l yX4_raw wsX4_raw ({ frames := 3, cells := 0, slots := 0, locals := 63 } : Room) (CP D cy b n fT M [.ref (b + r), .ref (b + x)]) (CQi D cy b n fT (fX4_raw M r x) M) 0 0 (fr b) := by
  refine Met.ofW (cc := cX4_raw) (maxL := 2) (ret := (some .int)) (by decide) rfl ?_
  intro p e s m args below meth c s₁ B hml hv
  obtain ⟨rfl, hP, hK, hX⟩ := hv
  have hx := B.exec
  have hb := B.bytes
  have hr := B.returns
  have hts := atoms_spec (ws := wsX4_raw) B.pre
  have hown : s.vm.findClass RX4 = some m.cls := findClass_of_methodNamed B.named
  have hlocks := B.notSynchronized
  have lk0 := hts (.fieldLink RX4 77 "HygrometerRoom$Instrument" "hair" "Z") (by decide +kernel)
  have lk1 := hts (.fieldLink RX4 28 "HygrometerRoom$Room" "temperature" "I") (by decide +kernel)
  have lk2 := hts (.static yX7_quotient) (by decide +kernel)
  have lk3 := hts (.initialized RX7) (by decide +kernel)
  have lk4 := hts (.fieldLink RX4 81 "HygrometerRoom$Instrument" "wetness" "I") (by decide +kernel)
  have lk5 := hts (.fieldLink RX4 84 "HygrometerRoom$Instrument" "slack" "I") (by decide +kernel)
  have inc1 : ∀ w ∈ u_ws RX1 TX1 9, w ∈ wsX4_raw := by decide +kernel
  have inc4 : ∀ w ∈ u_ws RX4 TX4 8, w ∈ wsX4_raw := by decide +kernel
  have hS : va_S (fr b) s.heap s.heap [] := va_S.rf
  have hl := lv_entry ([.ref (b + r), .ref (b + x)]) (n := 2) (Nat.le_of_ble_eq_true rfl)
  rw [lg_entry_eq]
  generalize (lg_sl ([.ref (b + r), .ref (b + x)]) ++ List.replicate (2 - (lg_sl ([.ref (b + r), .ref (b + x)])).length) Slot.unset).toArray = ls at hl ⊢
  have hl : lv_has ls 2 [(0, .ref (b + r)), (1, .ref (b + x))] := hl
  refine lv_aload_n hx hb dX4_raw_0 rfl (lv_at hl 1 rfl) ?_
  refine xg (C := RX1) (T := TX1) (N := 9) (v := .int (bv (M x 0))) hx hb hts inc1 hown hK hP (kI_lt h_x hn) (cell1 h_x) rfl 0 (by decide) lk0 (fun _ h => h) rfl dX4_raw_1 ?_
  refine lv_if_eq (tgt := 19) hx hb dX4_raw_4 (by decide) (fun c4 => ?_) (fun c4 => ?_)
  · refine lv_bipush (v := 100) hx hb dX4_raw_19 (by decide) ?_
    refine lv_aload_n hx hb dX4_raw_21 rfl (lv_at hl 0 rfl) ?_
    refine lv_aload_n hx hb dX4_raw_22 rfl (lv_at hl 1 rfl) ?_
    refine xc_i (va_runV (As := [.ref (b + x)]) (rest := [.int (100 : Int32)]) ⟨hx, hb, hml, hown, hts⟩ (c_X4_depression l D cy b n hn M r x h_r h_x) (cwV 1 hts gX4_raw_X4_depression rfl rfl rfl (by decide +kernel) ⟨Nat.le_of_ble_eq_true rfl, Nat.le_of_ble_eq_true rfl⟩) (xPreV hP hK hX hS (kR_lt h_r hn) (cell4 h_r) rfl) rfl rfl hl.1 rfl (lv_room (Nat.le_of_ble_eq_true rfl)) dX4_raw_23 ⟨Nat.le_of_ble_eq_true rfl, Nat.le_of_ble_eq_true rfl⟩) hS (fun H locs hP hS => ?_)
    refine lv_bipush (v := 100) hx hb dX4_raw_26 (by decide) ?_
    refine lv_imul hx hb dX4_raw_28 ?_
    refine lv_aload_n hx hb dX4_raw_29 rfl (lv_at hl 0 rfl) ?_
    refine xg (C := RX4) (T := TX4) (N := 8) (v := .int (M r 4)) hx hb hts inc4 hown hK hP (kR_lt h_r hn) (cell4 h_r) rfl 4 (by decide) lk1 (fun _ h => h) rfl dX4_raw_30 ?_
    refine lv_bipush (v := 10) hx hb dX4_raw_33 (by decide) ?_
    refine lv_iadd hx hb dX4_raw_35 ?_
    refine xc_i (va_runSN (As := [.int ((fX4_depression M r x) * (100 : Int32)), .int ((M r 4) + (10 : Int32))]) (rest := [.int (100 : Int32)]) ⟨hx, hb, hml, hown, hts⟩ (c_X7_quotient l D cy b n hn M ((fX4_depression M r x) * (100 : Int32)) ((M r 4) + (10 : Int32))) ⟨va_cnB 2 hts gX4_raw_X7_quotient_n90 rfl rfl rfl (hX.2.2.2.2.2.1 (RX4, 90, yX7_quotient) (by decide +kernel)) lk3 (by decide +kernel) ⟨Nat.le_of_ble_eq_true rfl, Nat.le_of_ble_eq_true rfl⟩, lk2, trivial⟩ (xPreS hP hK hX hS) rfl rfl hl.1 rfl (lv_room (Nat.le_of_ble_eq_true rfl)) dX4_raw_36 ⟨Nat.le_of_ble_eq_true rfl, Nat.le_of_ble_eq_true rfl⟩) hS (fun H locs hP hS => ?_)
    refine lv_isub hx hb dX4_raw_39 ?_
    exact xe_i hx hb hr hlocks hP hS rfl rfl (by rw [fX4_raw, if_pos c4] <;> rfl) (Nat.le_of_ble_eq_true rfl) (Nat.le_of_ble_eq_true rfl) dX4_raw_40
  · refine lv_aload_n hx hb dX4_raw_7 rfl (lv_at hl 1 rfl) ?_
    refine xg (C := RX1) (T := TX1) (N := 9) (v := .int (M x 4)) hx hb hts inc1 hown hK hP (kI_lt h_x hn) (cell1 h_x) rfl 4 (by decide) lk4 (fun _ h => h) rfl dX4_raw_8 ?_
    refine lv_aload_n hx hb dX4_raw_11 rfl (lv_at hl 1 rfl) ?_
    refine xg (C := RX1) (T := TX1) (N := 9) (v := .int (M x 5)) hx hb hts inc1 hown hK hP (kI_lt h_x hn) (cell1 h_x) rfl 5 (by decide) lk5 (fun _ h => h) rfl dX4_raw_12 ?_
    refine lv_iconst (v := 5) hx hb dX4_raw_15 (by decide) ?_
    refine lv_idiv hx hb dX4_raw_16 (by decide) ?_
    refine lv_isub hx hb dX4_raw_17 ?_
    exact xe_i hx hb hr hlocks hP hS rfl rfl (by rw [fX4_raw, if_neg c4] <;> rfl) (Nat.le_of_ble_eq_true rfl) (Nat.le_of_ble_eq_true rfl) dX4_raw_18
def fX4_reading (M : Mem) (r : Nat) (x : Nat) : Int32 := xmax (0 : Int32) (xmin (100 : Int32) ((fX4_raw M r x) + (M x 7)))
set_option maxHeartbeats 4000000 in
set_option maxRecDepth 100000 in
theorem c_X4_reading (l : Launch) (D : va_G) (cy : Nat → ClassId) (b n : Nat) (hn : 124 ≤ n) (M : Mem) (r : Nat) (x : Nat) (h_r : kd r = 4) (h_x : kd x = 1) : Met l yX4_reading wsX4_reading ({ frames := 4, cells := 0, slots := 0, locals := 84 } : Room) (CP D cy b n fT M [.ref (b + r), .ref (b + x)]) (CQi D cy b n fT (fX4_reading M r x) M) 0 0 (fr b) := by
  refine Met.ofW (cc := cX4_reading) (maxL := 2) (ret := (some .int)) (by decide) rfl ?_
  intro p e s m args below meth c s₁ B hml hv
  obtain ⟨rfl, hP, hK, hX⟩ := hv
  have hx := B.exec
  have hb := B.bytes
  have hr := B.returns
  have hts := atoms_spec (ws := wsX4_reading) B.pre
  have hown : s.vm.findClass RX4 = some m.cls := findClass_of_methodNamed B.named
  have hlocks := B.notSynchronized
  have lk0 := hts (.fieldLink RX4 96 "HygrometerRoom$Instrument" "zero" "I") (by decide +kernel)
  have lk1 := hts (.methodLink RX4 62 Lib.Math.min.name) (by decide +kernel)
  have lk2 := hts (.static Lib.Math.min.name) (by decide +kernel)
  have lk3 := hts (.initialized "java/lang/Math") (by decide +kernel)
  have lk4 := hts (.code Lib.Math.min.name Lib.Math.min.code 2 (some .int)) (by decide +kernel)
  have lk5 := hts (.methodLink RX4 99 Lib.Math.max.name) (by decide +kernel)
  have lk6 := hts (.static Lib.Math.max.name) (by decide +kernel)
  have lk7 := hts (.code Lib.Math.max.name Lib.Math.max.code 2 (some .int)) (by decide +kernel)
  have inc1 : ∀ w ∈ u_ws RX1 TX1 9, w ∈ wsX4_reading := by decide +kernel
  have hS : va_S (fr b) s.heap s.heap [] := va_S.rf
  have hl := lv_entry ([.ref (b + r), .ref (b + x)]) (n := 2) (Nat.le_of_ble_eq_true rfl)
  rw [lg_entry_eq]
  generalize (lg_sl ([.ref (b + r), .ref (b + x)]) ++ List.replicate (2 - (lg_sl ([.ref (b + r), .ref (b + x)])).length) Slot.unset).toArray = ls at hl ⊢
  have hl : lv_has ls 2 [(0, .ref (b + r)), (1, .ref (b + x))] := hl
  refine lv_iconst (v := 0) hx hb dX4_reading_0 (by decide) ?_
  refine lv_bipush (v := 100) hx hb dX4_reading_1 (by decide) ?_
  refine lv_aload_n hx hb dX4_reading_3 rfl (lv_at hl 0 rfl) ?_
  refine lv_aload_n hx hb dX4_reading_4 rfl (lv_at hl 1 rfl) ?_
  refine xc_i (va_runV (As := [.ref (b + x)]) (rest := [.int (100 : Int32), .int (0 : Int32)]) ⟨hx, hb, hml, hown, hts⟩ (c_X4_raw l D cy b n hn M r x h_r h_x) (cwV 1 hts gX4_reading_X4_raw rfl rfl rfl (by decide +kernel) ⟨Nat.le_of_ble_eq_true rfl, Nat.le_of_ble_eq_true rfl⟩) (xPreV hP hK hX hS (kR_lt h_r hn) (cell4 h_r) rfl) rfl rfl hl.1 rfl (lv_room (Nat.le_of_ble_eq_true rfl)) dX4_reading_5 ⟨Nat.le_of_ble_eq_true rfl, Nat.le_of_ble_eq_true rfl⟩) hS (fun H locs hP hS => ?_)
  refine lv_aload_n hx hb dX4_reading_8 rfl (lv_at hl 1 rfl) ?_
  refine xg (C := RX1) (T := TX1) (N := 9) (v := .int (M x 7)) hx hb hts inc1 hown hK hP (kI_lt h_x hn) (cell1 h_x) rfl 7 (by decide) lk0 (fun _ h => h) rfl dX4_reading_9 ?_
  refine lv_iadd hx hb dX4_reading_12 ?_
  refine x_mmin hx hb (hml.trans hl.1.symm) hown lk1 lk2 lk3 lk4 (Nat.le_of_ble_eq_true rfl) (Nat.le_of_ble_eq_true rfl) (Nat.le_of_ble_eq_true rfl) (Nat.le_of_ble_eq_true rfl) dX4_reading_13 ?_
  refine x_mmax hx hb (hml.trans hl.1.symm) hown lk5 lk6 lk3 lk7 (Nat.le_of_ble_eq_true rfl) (Nat.le_of_ble_eq_true rfl) (Nat.le_of_ble_eq_true rfl) (Nat.le_of_ble_eq_true rfl) dX4_reading_16 ?_
  exact xe_i hx hb hr hlocks hP hS rfl rfl (by rw [fX4_reading] <;> rfl) (Nat.le_of_ble_eq_true rfl) (Nat.le_of_ble_eq_true rfl) dX4_reading_19
def fX4_settled (M : Mem) (r : Nat) (x : Nat) : Int32 := if (bv (M x 0)) = 0 then (if (M x 6) ≤ 0 then (0 : Int32) else (1 : Int32)) else (if (M x 4) = (fX4_surrounding M r x) then (1 : Int32) else (0 : Int32))
set_option maxHeartbeats 4000000 in
set_option maxRecDepth 100000 in
theorem c_X4_settled (l : Launch) (D : va_G) (cy : Nat → ClassId) (b n : Nat) (hn : 124 ≤ n) (M : Mem) (r : Nat) (x : Nat) (h_r : kd r = 4) (h_x : kd x = 1) : Met l yX4_settled wsX4_settled ({ frames := 2, cells := 0, slots := 0, locals := 42 } : Room) (CP D cy b n fT M [.ref (b + r), .ref (b + x)]) (CQi D cy b n fT (fX4_settled M r x) M) 0 0 (fr b) := by
  refine Met.ofW (cc := cX4_settled) (maxL := 2) (ret := (some .boolean)) (by decide) rfl ?_
  intro p e s m args below meth c s₁ B hml hv
  obtain ⟨rfl, hP, hK, hX⟩ := hv
  have hx := B.exec
  have hb := B.bytes
  have hr := B.returns
  have hts := atoms_spec (ws := wsX4_settled) B.pre
  have hown : s.vm.findClass RX4 = some m.cls := findClass_of_methodNamed B.named
  have hlocks := B.notSynchronized
  have lk0 := hts (.fieldLink RX4 77 "HygrometerRoom$Instrument" "hair" "Z") (by decide +kernel)
  have lk1 := hts (.fieldLink RX4 74 "HygrometerRoom$Instrument" "water" "I") (by decide +kernel)
  have lk2 := hts (.fieldLink RX4 81 "HygrometerRoom$Instrument" "wetness" "I") (by decide +kernel)
  have inc1 : ∀ w ∈ u_ws RX1 TX1 9, w ∈ wsX4_settled := by decide +kernel
  have hS : va_S (fr b) s.heap s.heap [] := va_S.rf
  have hl := lv_entry ([.ref (b + r), .ref (b + x)]) (n := 2) (Nat.le_of_ble_eq_true rfl)
  rw [lg_entry_eq]
  generalize (lg_sl ([.ref (b + r), .ref (b + x)]) ++ List.replicate (2 - (lg_sl ([.ref (b + r), .ref (b + x)])).length) Slot.unset).toArray = ls at hl ⊢
  have hl : lv_has ls 2 [(0, .ref (b + r)), (1, .ref (b + x))] := hl
  refine lv_aload_n hx hb dX4_settled_0 rfl (lv_at hl 1 rfl) ?_
  refine xg (C := RX1) (T := TX1) (N := 9) (v := .int (bv (M x 0))) hx hb hts inc1 hown hK hP (kI_lt h_x hn) (cell1 h_x) rfl 0 (by decide) lk0 (fun _ h => h) rfl dX4_settled_1 ?_
  refine lv_if_eq (tgt := 27) hx hb dX4_settled_4 (by decide) (fun c4 => ?_) (fun c4 => ?_)
  · refine lv_aload_n hx hb dX4_settled_27 rfl (lv_at hl 1 rfl) ?_
    refine xg (C := RX1) (T := TX1) (N := 9) (v := .int (M x 6)) hx hb hts inc1 hown hK hP (kI_lt h_x hn) (cell1 h_x) rfl 6 (by decide) lk1 (fun _ h => h) rfl dX4_settled_28 ?_
    refine lv_if_le (tgt := 38) hx hb dX4_settled_31 (by decide) (fun c31 => ?_) (fun c31 => ?_)
    · refine lv_iconst (v := 0) hx hb dX4_settled_38 (by decide) ?_
      exact xe_z hx hb hr hlocks hP hS rfl rfl (by rw [fX4_settled, if_pos c4, if_pos c31] <;> rfl) rfl (Nat.le_of_ble_eq_true rfl) (Nat.le_of_ble_eq_true rfl) dX4_settled_39
    · refine lv_iconst (v := 1) hx hb dX4_settled_34 (by decide) ?_
      refine lv_goto (tgt := 39) hx hb dX4_settled_35 (by decide) ?_
      exact xe_z hx hb hr hlocks hP hS rfl rfl (by rw [fX4_settled, if_pos c4, if_neg c31] <;> rfl) rfl (Nat.le_of_ble_eq_true rfl) (Nat.le_of_ble_eq_true rfl) dX4_settled_39
  · refine lv_aload_n hx hb dX4_settled_7 rfl (lv_at hl 1 rfl) ?_
    refine xg (C := RX1) (T := TX1) (N := 9) (v := .int (M x 4)) hx hb hts inc1 hown hK hP (kI_lt h_x hn) (cell1 h_x) rfl 4 (by decide) lk2 (fun _ h => h) rfl dX4_settled_8 ?_
    refine lv_aload_n hx hb dX4_settled_11 rfl (lv_at hl 0 rfl) ?_
    refine lv_aload_n hx hb dX4_settled_12 rfl (lv_at hl 1 rfl) ?_
    refine xc_i (va_runV (As := [.ref (b + x)]) (rest := [.int (M x 4)]) ⟨hx, hb, hml, hown, hts⟩ (c_X4_surrounding l D cy b n hn M r x h_r h_x) (cwV 1 hts gX4_settled_X4_surrounding rfl rfl rfl (by decide +kernel) ⟨Nat.le_of_ble_eq_true rfl, Nat.le_of_ble_eq_true rfl⟩) (xPreV hP hK hX hS (kR_lt h_r hn) (cell4 h_r) rfl) rfl rfl hl.1 rfl (lv_room (Nat.le_of_ble_eq_true rfl)) dX4_settled_13 ⟨Nat.le_of_ble_eq_true rfl, Nat.le_of_ble_eq_true rfl⟩) hS (fun H locs hP hS => ?_)
    refine lv_icmp_ne (tgt := 23) hx hb dX4_settled_16 (by decide) (fun c16 => ?_) (fun c16 => ?_)
    · refine lv_iconst (v := 0) hx hb dX4_settled_23 (by decide) ?_
      refine lv_goto (tgt := 39) hx hb dX4_settled_24 (by decide) ?_
      exact xe_z hx hb hr hlocks hP hS rfl rfl (by rw [fX4_settled, if_neg c4, if_neg c16] <;> rfl) rfl (Nat.le_of_ble_eq_true rfl) (Nat.le_of_ble_eq_true rfl) dX4_settled_39
    · refine lv_iconst (v := 1) hx hb dX4_settled_19 (by decide) ?_
      refine lv_goto (tgt := 39) hx hb dX4_settled_20 (by decide) ?_
      exact xe_z hx hb hr hlocks hP hS rfl rfl (by rw [fX4_settled, if_neg c4, if_pos c16] <;> rfl) rfl (Nat.le_of_ble_eq_true rfl) (Nat.le_of_ble_eq_true rfl) dX4_settled_39
def fX4_still (M : Mem) (r : Nat) (x : Nat) : Int32 := if (bv (M x 0)) = 0 then (if (fX4_settled M r x) = 0 then (1 : Int32) else (0 : Int32)) else (fX4_settled M r x)
set_option maxHeartbeats 4000000 in
set_option maxRecDepth 100000 in
theorem c_X4_still (l : Launch) (D : va_G) (cy : Nat → ClassId) (b n : Nat) (hn : 124 ≤ n) (M : Mem) (r : Nat) (x : Nat) (h_r : kd r = 4) (h_x : kd x = 1) : Met l yX4_still wsX4_still ({ frames := 3, cells := 0, slots := 0, locals := 63 } : Room) (CP D cy b n fT M [.ref (b + r), .ref (b + x)]) (CQi D cy b n fT (fX4_still M r x) M) 0 0 (fr b) := by
  refine Met.ofW (cc := cX4_still) (maxL := 2) (ret := (some .boolean)) (by decide) rfl ?_
  intro p e s m args below meth c s₁ B hml hv
  obtain ⟨rfl, hP, hK, hX⟩ := hv
  have hx := B.exec
  have hb := B.bytes
  have hr := B.returns
  have hts := atoms_spec (ws := wsX4_still) B.pre
  have hown : s.vm.findClass RX4 = some m.cls := findClass_of_methodNamed B.named
  have hlocks := B.notSynchronized
  have lk0 := hts (.fieldLink RX4 77 "HygrometerRoom$Instrument" "hair" "Z") (by decide +kernel)
  have inc1 : ∀ w ∈ u_ws RX1 TX1 9, w ∈ wsX4_still := by decide +kernel
  have hS : va_S (fr b) s.heap s.heap [] := va_S.rf
  have hl := lv_entry ([.ref (b + r), .ref (b + x)]) (n := 2) (Nat.le_of_ble_eq_true rfl)
  rw [lg_entry_eq]
  generalize (lg_sl ([.ref (b + r), .ref (b + x)]) ++ List.replicate (2 - (lg_sl ([.ref (b + r), .ref (b + x)])).length) Slot.unset).toArray = ls at hl ⊢
  have hl : lv_has ls 2 [(0, .ref (b + r)), (1, .ref (b + x))] := hl
  refine lv_aload_n hx hb dX4_still_0 rfl (lv_at hl 1 rfl) ?_
  refine xg (C := RX1) (T := TX1) (N := 9) (v := .int (bv (M x 0))) hx hb hts inc1 hown hK hP (kI_lt h_x hn) (cell1 h_x) rfl 0 (by decide) lk0 (fun _ h => h) rfl dX4_still_1 ?_
  refine lv_if_eq (tgt := 15) hx hb dX4_still_4 (by decide) (fun c4 => ?_) (fun c4 => ?_)
  · refine lv_aload_n hx hb dX4_still_15 rfl (lv_at hl 0 rfl) ?_
    refine lv_aload_n hx hb dX4_still_16 rfl (lv_at hl 1 rfl) ?_
    refine xc_i (va_runV (As := [.ref (b + x)]) (rest := []) ⟨hx, hb, hml, hown, hts⟩ (c_X4_settled l D cy b n hn M r x h_r h_x) (cwV 1 hts gX4_still_X4_settled rfl rfl rfl (by decide +kernel) ⟨Nat.le_of_ble_eq_true rfl, Nat.le_of_ble_eq_true rfl⟩) (xPreV hP hK hX hS (kR_lt h_r hn) (cell4 h_r) rfl) rfl rfl hl.1 rfl (lv_room (Nat.le_of_ble_eq_true rfl)) dX4_still_17 ⟨Nat.le_of_ble_eq_true rfl, Nat.le_of_ble_eq_true rfl⟩) hS (fun H locs hP hS => ?_)
    refine lv_if_ne (tgt := 27) hx hb dX4_still_20 (by decide) (fun c20 => ?_) (fun c20 => ?_)
    · refine lv_iconst (v := 0) hx hb dX4_still_27 (by decide) ?_
      exact xe_z hx hb hr hlocks hP hS rfl rfl (by rw [fX4_still, if_pos c4, if_neg c20] <;> rfl) rfl (Nat.le_of_ble_eq_true rfl) (Nat.le_of_ble_eq_true rfl) dX4_still_28
    · refine lv_iconst (v := 1) hx hb dX4_still_23 (by decide) ?_
      refine lv_goto (tgt := 28) hx hb dX4_still_24 (by decide) ?_
      exact xe_z hx hb hr hlocks hP hS rfl rfl (by rw [fX4_still, if_pos c4, if_pos c20] <;> rfl) rfl (Nat.le_of_ble_eq_true rfl) (Nat.le_of_ble_eq_true rfl) dX4_still_28
  · refine lv_aload_n hx hb dX4_still_7 rfl (lv_at hl 0 rfl) ?_
    refine lv_aload_n hx hb dX4_still_8 rfl (lv_at hl 1 rfl) ?_
    refine xc_i (va_runV (As := [.ref (b + x)]) (rest := []) ⟨hx, hb, hml, hown, hts⟩ (c_X4_settled l D cy b n hn M r x h_r h_x) (cwV 1 hts gX4_still_X4_settled rfl rfl rfl (by decide +kernel) ⟨Nat.le_of_ble_eq_true rfl, Nat.le_of_ble_eq_true rfl⟩) (xPreV hP hK hX hS (kR_lt h_r hn) (cell4 h_r) rfl) rfl rfl hl.1 rfl (lv_room (Nat.le_of_ble_eq_true rfl)) dX4_still_9 ⟨Nat.le_of_ble_eq_true rfl, Nat.le_of_ble_eq_true rfl⟩) hS (fun H locs hP hS => ?_)
    refine lv_goto (tgt := 28) hx hb dX4_still_12 (by decide) ?_
    exact xe_z hx hb hr hlocks hP hS rfl rfl (by rw [fX4_still, if_neg c4] <;> rfl) rfl (Nat.le_of_ble_eq_true rfl) (Nat.le_of_ble_eq_true rfl) dX4_still_28
def fX4_obstacle (M : Mem) (r : Nat) (x : Nat) : Int32 := if (fX1_isBoxed M x) = 0 then (1 : Int32) else (if (fX4_settled M r x) = 0 then (2 : Int32) else (0 : Int32))
set_option maxHeartbeats 4000000 in
set_option maxRecDepth 100000 in
theorem c_X4_obstacle (l : Launch) (D : va_G) (cy : Nat → ClassId) (b n : Nat) (hn : 124 ≤ n) (M : Mem) (r : Nat) (x : Nat) (h_r : kd r = 4) (h_x : kd x = 1) : Met l yX4_obstacle wsX4_obstacle ({ frames := 3, cells := 0, slots := 0, locals := 63 } : Room) (CP D cy b n fT M [.ref (b + r), .ref (b + x)]) (CQi D cy b n fT (fX4_obstacle M r x) M) 0 0 (fr b) := by
  refine Met.ofW (cc := cX4_obstacle) (maxL := 2) (ret := (some .int)) (by decide) rfl ?_
  intro p e s m args below meth c s₁ B hml hv
  obtain ⟨rfl, hP, hK, hX⟩ := hv
  have hx := B.exec
  have hb := B.bytes
  have hr := B.returns
  have hts := atoms_spec (ws := wsX4_obstacle) B.pre
  have hown : s.vm.findClass RX4 = some m.cls := findClass_of_methodNamed B.named
  have hlocks := B.notSynchronized
  have hS : va_S (fr b) s.heap s.heap [] := va_S.rf
  have hl := lv_entry ([.ref (b + r), .ref (b + x)]) (n := 2) (Nat.le_of_ble_eq_true rfl)
  rw [lg_entry_eq]
  generalize (lg_sl ([.ref (b + r), .ref (b + x)]) ++ List.replicate (2 - (lg_sl ([.ref (b + r), .ref (b + x)])).length) Slot.unset).toArray = ls at hl ⊢
  have hl : lv_has ls 2 [(0, .ref (b + r)), (1, .ref (b + x))] := hl
  refine lv_aload_n hx hb dX4_obstacle_0 rfl (lv_at hl 1 rfl) ?_
  refine xc_i (va_runV (As := []) (rest := []) ⟨hx, hb, hml, hown, hts⟩ (c_X1_isBoxed l D cy b n hn M x h_x) (cwV 0 hts gX4_obstacle_X1_isBoxed rfl rfl rfl (by decide +kernel) ⟨Nat.le_of_ble_eq_true rfl, Nat.le_of_ble_eq_true rfl⟩) (xPreV hP hK hX hS (kI_lt h_x hn) (cell1 h_x) rfl) rfl rfl hl.1 rfl (lv_room (Nat.le_of_ble_eq_true rfl)) dX4_obstacle_1 ⟨Nat.le_of_ble_eq_true rfl, Nat.le_of_ble_eq_true rfl⟩) hS (fun H locs hP hS => ?_)
  refine lv_if_ne (tgt := 9) hx hb dX4_obstacle_4 (by decide) (fun c4 => ?_) (fun c4 => ?_)
  · refine lv_aload_n hx hb dX4_obstacle_9 rfl (lv_at hl 0 rfl) ?_
    refine lv_aload_n hx hb dX4_obstacle_10 rfl (lv_at hl 1 rfl) ?_
    refine xc_i (va_runV (As := [.ref (b + x)]) (rest := []) ⟨hx, hb, hml, hown, hts⟩ (c_X4_settled l D cy b n hn M r x h_r h_x) (cwV 1 hts gX4_obstacle_X4_settled rfl rfl rfl (by decide +kernel) ⟨Nat.le_of_ble_eq_true rfl, Nat.le_of_ble_eq_true rfl⟩) (xPreV hP hK hX hS (kR_lt h_r hn) (cell4 h_r) rfl) rfl rfl hl.1 rfl (lv_room (Nat.le_of_ble_eq_true rfl)) dX4_obstacle_11 ⟨Nat.le_of_ble_eq_true rfl, Nat.le_of_ble_eq_true rfl⟩) hS (fun H locs hP hS => ?_)
    refine lv_if_eq (tgt := 21) hx hb dX4_obstacle_14 (by decide) (fun c14 => ?_) (fun c14 => ?_)
    · refine lv_iconst (v := 2) hx hb dX4_obstacle_21 (by decide) ?_
      exact xe_i hx hb hr hlocks hP hS rfl rfl (by rw [fX4_obstacle, if_neg c4, if_pos c14] <;> rfl) (Nat.le_of_ble_eq_true rfl) (Nat.le_of_ble_eq_true rfl) dX4_obstacle_22
    · refine lv_iconst (v := 0) hx hb dX4_obstacle_17 (by decide) ?_
      refine lv_goto (tgt := 22) hx hb dX4_obstacle_18 (by decide) ?_
      exact xe_i hx hb hr hlocks hP hS rfl rfl (by rw [fX4_obstacle, if_neg c4, if_neg c14] <;> rfl) (Nat.le_of_ble_eq_true rfl) (Nat.le_of_ble_eq_true rfl) dX4_obstacle_22
  · refine lv_iconst (v := 1) hx hb dX4_obstacle_7 (by decide) ?_
    exact xe_i hx hb hr hlocks hP hS rfl rfl (by rw [fX4_obstacle, if_pos c4] <;> rfl) (Nat.le_of_ble_eq_true rfl) (Nat.le_of_ble_eq_true rfl) dX4_obstacle_8
def gX4_bringHairs (M : Mem) (r : Nat) : Mem := mU (mU M r 6 ((M r 6) + (xmin (M r 5) ((99 : Int32) - (M r 6))))) r 7 (((mU M r 6 ((M r 6) + (xmin (M r 5) ((99 : Int32) - (M r 6))))) r 7) + (xmin (M r 5) ((99 : Int32) - (M r 6))))
set_option maxHeartbeats 4000000 in
set_option maxRecDepth 100000 in
theorem c_X4_bringHairs (l : Launch) (D : va_G) (cy : Nat → ClassId) (b n : Nat) (hn : 124 ≤ n) (M : Mem) (r : Nat) (h_r : kd r = 4) : Met l yX4_bringHairs wsX4_bringHairs ({ frames := 1, cells := 0, slots := 0, locals := 21 } : Room) (CP D cy b n fT M [.ref (b + r)]) (CQv D cy b n fT (gX4_bringHairs M r)) 0 0 (fr b) := by
  refine Met.ofW (cc := cX4_bringHairs) (maxL := 2) (ret := none) (by decide) rfl ?_
  intro p e s m args below meth c s₁ B hml hv
  obtain ⟨rfl, hP, hK, hX⟩ := hv
  have hx := B.exec
  have hb := B.bytes
  have hr := B.returns
  have hts := atoms_spec (ws := wsX4_bringHairs) B.pre
  have hown : s.vm.findClass RX4 = some m.cls := findClass_of_methodNamed B.named
  have hlocks := B.notSynchronized
  have lk0 := hts (.fieldLink RX4 31 "HygrometerRoom$Room" "skill" "I") (by decide +kernel)
  have lk1 := hts (.fieldLink RX4 34 "HygrometerRoom$Room" "stock" "I") (by decide +kernel)
  have lk2 := hts (.methodLink RX4 62 Lib.Math.min.name) (by decide +kernel)
  have lk3 := hts (.static Lib.Math.min.name) (by decide +kernel)
  have lk4 := hts (.initialized "java/lang/Math") (by decide +kernel)
  have lk5 := hts (.code Lib.Math.min.name Lib.Math.min.code 2 (some .int)) (by decide +kernel)
  have lk6 := hts (.fieldLink RX4 37 "HygrometerRoom$Room" "brought" "I") (by decide +kernel)
  have inc4 : ∀ w ∈ u_ws RX4 TX4 8, w ∈ wsX4_bringHairs := by decide +kernel
  have hS : va_S (fr b) s.heap s.heap [] := va_S.rf
  have hl := lv_entry ([.ref (b + r)]) (n := 2) (Nat.le_of_ble_eq_true rfl)
  rw [lg_entry_eq]
  generalize (lg_sl ([.ref (b + r)]) ++ List.replicate (2 - (lg_sl ([.ref (b + r)])).length) Slot.unset).toArray = ls at hl ⊢
  have hl : lv_has ls 2 [(0, .ref (b + r))] := hl
  refine lv_aload_n hx hb dX4_bringHairs_0 rfl (lv_at hl 0 rfl) ?_
  refine xg (C := RX4) (T := TX4) (N := 8) (v := .int (M r 5)) hx hb hts inc4 hown hK hP (kR_lt h_r hn) (cell4 h_r) rfl 5 (by decide) lk0 (fun _ h => h) rfl dX4_bringHairs_1 ?_
  refine lv_bipush (v := 99) hx hb dX4_bringHairs_4 (by decide) ?_
  refine lv_aload_n hx hb dX4_bringHairs_6 rfl (lv_at hl 0 rfl) ?_
  refine xg (C := RX4) (T := TX4) (N := 8) (v := .int (M r 6)) hx hb hts inc4 hown hK hP (kR_lt h_r hn) (cell4 h_r) rfl 6 (by decide) lk1 (fun _ h => h) rfl dX4_bringHairs_7 ?_
  refine lv_isub hx hb dX4_bringHairs_10 ?_
  refine x_mmin hx hb (hml.trans hl.1.symm) hown lk2 lk3 lk4 lk5 (Nat.le_of_ble_eq_true rfl) (Nat.le_of_ble_eq_true rfl) (Nat.le_of_ble_eq_true rfl) (Nat.le_of_ble_eq_true rfl) dX4_bringHairs_11 ?_
  refine lv_istore_n (lv' := [(1, .int (xmin (M r 5) ((99 : Int32) - (M r 6)))), (0, .ref (b + r))]) hx hb dX4_bringHairs_14 rfl hl (by decide) rfl (fun ls hl => ?_)
  refine lv_aload_n hx hb dX4_bringHairs_15 rfl (lv_at hl 1 rfl) ?_
  refine lv_dup hx hb dX4_bringHairs_16 rfl ?_
  refine xg (C := RX4) (T := TX4) (N := 8) (v := .int (M r 6)) hx hb hts inc4 hown hK hP (kR_lt h_r hn) (cell4 h_r) rfl 6 (by decide) lk1 (fun _ h => h) rfl dX4_bringHairs_17 ?_
  refine lv_iload_n hx hb dX4_bringHairs_20 rfl (lv_at hl 0 rfl) ?_
  refine lv_iadd hx hb dX4_bringHairs_21 ?_
  refine xp (C := RX4) (T := TX4) (N := 8) (ci := 4) (ty := .int) (x := (M r 6) + (xmin (M r 5) ((99 : Int32) - (M r 6)))) hx hb hts inc4 tyX4 tyX4_ok nmX4 hown hK hP hS (kR_lt h_r hn) (fun _ => cell4 h_r) rfl 6 (by decide) rfl lk1 (fun _ h => h) rfl (tyX4_ok 6 (by decide)) rfl rfl (Nat.le_of_ble_eq_true rfl) dX4_bringHairs_22 (fun H locs hP hS => ?_)
  refine lv_aload_n hx hb dX4_bringHairs_25 rfl (lv_at hl 1 rfl) ?_
  refine lv_dup hx hb dX4_bringHairs_26 rfl ?_
  refine xg (C := RX4) (T := TX4) (N := 8) (v := .int ((mU M r 6 ((M r 6) + (xmin (M r 5) ((99 : Int32) - (M r 6))))) r 7)) hx hb hts inc4 hown hK hP (kR_lt h_r hn) (cell4 h_r) rfl 7 (by decide) lk6 (fun _ h => h) rfl dX4_bringHairs_27 ?_
  refine lv_iload_n hx hb dX4_bringHairs_30 rfl (lv_at hl 0 rfl) ?_
  refine lv_iadd hx hb dX4_bringHairs_31 ?_
  refine xp (C := RX4) (T := TX4) (N := 8) (ci := 4) (ty := .int) (x := ((mU M r 6 ((M r 6) + (xmin (M r 5) ((99 : Int32) - (M r 6))))) r 7) + (xmin (M r 5) ((99 : Int32) - (M r 6)))) hx hb hts inc4 tyX4 tyX4_ok nmX4 hown hK hP hS (kR_lt h_r hn) (fun _ => cell4 h_r) rfl 7 (by decide) rfl lk6 (fun _ h => h) rfl (tyX4_ok 7 (by decide)) rfl rfl (Nat.le_of_ble_eq_true rfl) dX4_bringHairs_32 (fun H locs hP hS => ?_)
  exact xe_v hx hb hr hlocks hP hS rfl (by rw [gX4_bringHairs] <;> rfl) (Nat.le_of_ble_eq_true rfl) (Nat.le_of_ble_eq_true rfl) dX4_bringHairs_35
theorem gX4_bringHairs_ne {M : Mem} {r p : Nat} (h : p ≠ r) : gX4_bringHairs M r p = M p := by unfold gX4_bringHairs; simp only [mU, if_neg h]
theorem gX4_bringHairs_cnt {M : Mem} {r : Nat} (hc : CNT M r) : CNT (gX4_bringHairs M r) r := by unfold gX4_bringHairs; exact cnt_put (by decide) (cnt_put (by decide) hc)
def LX4_copyFrom_58g (r : Nat) (q : Nat) : Nat → Mem → Nat → Mem
  | 0, M, _ => M
  | k + 1, M, j => if (M r 1) ≤ (nI (j)) then M else (LX4_copyFrom_58g r q k (gX1_copyFrom M (r + 1 + 1 + j) (q + 1 + 1 + j)) (j + 1))
set_option maxHeartbeats 4000000 in
set_option maxRecDepth 100000 in
theorem cl_X4_copyFrom_58 (l : Launch) (D : va_G) (cy : Nat → ClassId) (b n : Nat) (hn : 124 ≤ n) (r : Nat) (q : Nat) (h_r : kd r = 4) (h_q : kd q = 4) {p : Program} {e : Env} {s : State} {m : MethodId} {args : Array Value} {below : List Frame} {meth : Method} {c : Code} (hx : p.tables.exec = Jvm.exec) (hb : c.code = cX4_copyFrom) (hr : meth.sig.returnType = none) (hlocks : meth.locks = false) (hml : c.maxLocals = 3) (hown : s.vm.findClass RX4 = some m.cls) (hts : ∀ w ∈ wsX4_copyFrom, w.before args s = true) (hK : va_K D vwCl (tysW cy) s) (hX : SX b s)  : ∀ (k : Nat) (M : Mem) (j : Nat) (H : Heap) (locs : List Loc) (ls : Array Slot), CNT M r → j ≤ 6 → 7 ≤ j + k → va_P D vwCl (wL cy b fT M n) H → va_S (fr b) s.heap H locs → lv_has ls 3 [(0, .ref (b + r)), (1, .ref (b + q)), (2, .int (nI (j)))] → W p l e (headSpec wsX4_copyFrom ({ frames := 1, cells := 0, slots := 0, locals := 21 } : Room)).room s m args below meth c H locs 0 0 (MQ below (CQv D cy b n fT (LX4_copyFrom_58g r q k M j)) args s 0 0 (fr b)) (F0 m 58 ls []) := by
  have lk0 := hts (.fieldLink RX4 18 "HygrometerRoom$Room" "count" "I") (by decide +kernel)
  have lk1 := hts (.fieldLink RX4 11 "HygrometerRoom$Room" "instruments" "[LHygrometerRoom$Instrument;") (by decide +kernel)
  have inc4 : ∀ w ∈ u_ws RX4 TX4 8, w ∈ wsX4_copyFrom := by decide +kernel
  intro k
  induction k with
  | zero => intro M j H locs ls hcnt hj hk hP hS hl; omega
  | succ k ih =>
    intro M j H locs ls hcnt hj hk hP hS hl
    refine lv_iload_n hx hb dX4_copyFrom_58 rfl (lv_at hl 2 rfl) ?_
    refine lv_aload_n hx hb dX4_copyFrom_59 rfl (lv_at hl 0 rfl) ?_
    refine xg (C := RX4) (T := TX4) (N := 8) (v := .int (M r 1)) hx hb hts inc4 hown hK hP (kR_lt h_r hn) (cell4 h_r) rfl 1 (by decide) lk0 (fun _ h => h) rfl dX4_copyFrom_60 ?_
    refine lv_icmp_ge (tgt := 87) hx hb dX4_copyFrom_63 (by decide) (fun c63 => ?_) (fun c63 => ?_)
    · exact xe_v hx hb hr hlocks hP hS rfl (by rw [LX4_copyFrom_58g, if_pos c63] <;> rfl) (Nat.le_of_ble_eq_true rfl) (Nat.le_of_ble_eq_true rfl) dX4_copyFrom_87
    · refine lv_aload_n hx hb dX4_copyFrom_66 rfl (lv_at hl 0 rfl) ?_
      refine xg (C := RX4) (T := TX4) (N := 8) (v := .ref (b + (r + 1))) hx hb hts inc4 hown hK hP (kR_lt h_r hn) (cell4 h_r) rfl 0 (by decide) lk1 (fun _ h => h) rfl dX4_copyFrom_67 ?_
      refine lv_iload_n hx hb dX4_copyFrom_70 rfl (lv_at hl 2 rfl) ?_
      have hj6 := ub_lt hcnt hj c63
      refine xnl (j := j) hx hb hK hP (kA_lt h_r hn) (kd_arr h_r) (ixIn (a := j) rfl (by first | decide | (simp only [lenOf]; omega) | omega) (by decide)) (ixAt (a := j) rfl (by omega)) dX4_copyFrom_71 ?_
      refine lv_aload_n hx hb dX4_copyFrom_72 rfl (lv_at hl 1 rfl) ?_
      refine xg (C := RX4) (T := TX4) (N := 8) (v := .ref (b + (q + 1))) hx hb hts inc4 hown hK hP (kR_lt h_q hn) (cell4 h_q) rfl 0 (by decide) lk1 (fun _ h => h) rfl dX4_copyFrom_73 ?_
      refine lv_iload_n hx hb dX4_copyFrom_76 rfl (lv_at hl 2 rfl) ?_
      refine xnl (j := j) hx hb hK hP (kA_lt h_q hn) (kd_arr h_q) (ixIn (a := j) rfl (by first | decide | (simp only [lenOf]; omega) | omega) (by decide)) (ixAt (a := j) rfl (by omega)) dX4_copyFrom_77 ?_
      refine xc_v (va_runV (As := [.ref (b + (q + 1 + 1 + j))]) (rest := []) ⟨hx, hb, hml, hown, hts⟩ (c_X1_copyFrom l D cy b n hn M (r + 1 + 1 + j) (q + 1 + 1 + j) (kd_ins h_r (by omega)) (kd_ins h_q (by omega))) (cwV 1 hts gX4_copyFrom_X1_copyFrom rfl rfl rfl (by decide +kernel) ⟨Nat.le_of_ble_eq_true rfl, Nat.le_of_ble_eq_true rfl⟩) (xPreV hP hK hX hS (kI_lt (kd_ins h_r (by omega)) hn) (cell1 (kd_ins h_r (by omega))) rfl) rfl rfl hl.1 rfl (lv_room (Nat.le_of_ble_eq_true rfl)) dX4_copyFrom_78 ⟨Nat.le_of_ble_eq_true rfl, Nat.le_of_ble_eq_true rfl⟩) hS (fun H locs hP hS => ?_)
      refine lv_iinc (v := nI (j + 1)) (lv' := [(2, .int (nI (j + 1))), (0, .ref (b + r)), (1, .ref (b + q))]) hx hb dX4_copyFrom_81 hl (k := 2) rfl (ixAdd (a := j) (c := 1) (d := j + 1) rfl rfl (by omega)) (by decide) rfl (fun ls hl => ?_)
      refine lv_goto (tgt := 58) hx hb dX4_copyFrom_84 (by decide) ?_
      rw [show LX4_copyFrom_58g r q (k + 1) M j = LX4_copyFrom_58g r q k (gX1_copyFrom M (r + 1 + 1 + j) (q + 1 + 1 + j)) (j + 1) from (by rw [LX4_copyFrom_58g, if_neg c63])]
      exact ih (gX1_copyFrom M (r + 1 + 1 + j) (q + 1 + 1 + j)) (j + 1) H locs ls (cnt_row (gX1_copyFrom_ne (by omega)) hcnt) (by omega) (by omega) hP hS (lv_sub hl [1, 2, 0] rfl)

def gX4_copyFrom (M : Mem) (r : Nat) (q : Nat) : Mem := LX4_copyFrom_58g r q 7 (mU (mU (mU (mU (mU (mU (mU M r 1 (M q 1)) r 2 ((mU M r 1 (M q 1)) q 2)) r 3 ((mU (mU M r 1 (M q 1)) r 2 ((mU M r 1 (M q 1)) q 2)) q 3)) r 4 ((mU (mU (mU M r 1 (M q 1)) r 2 ((mU M r 1 (M q 1)) q 2)) r 3 ((mU (mU M r 1 (M q 1)) r 2 ((mU M r 1 (M q 1)) q 2)) q 3)) q 4)) r 5 ((mU (mU (mU (mU M r 1 (M q 1)) r 2 ((mU M r 1 (M q 1)) q 2)) r 3 ((mU (mU M r 1 (M q 1)) r 2 ((mU M r 1 (M q 1)) q 2)) q 3)) r 4 ((mU (mU (mU M r 1 (M q 1)) r 2 ((mU M r 1 (M q 1)) q 2)) r 3 ((mU (mU M r 1 (M q 1)) r 2 ((mU M r 1 (M q 1)) q 2)) q 3)) q 4)) q 5)) r 6 ((mU (mU (mU (mU (mU M r 1 (M q 1)) r 2 ((mU M r 1 (M q 1)) q 2)) r 3 ((mU (mU M r 1 (M q 1)) r 2 ((mU M r 1 (M q 1)) q 2)) q 3)) r 4 ((mU (mU (mU M r 1 (M q 1)) r 2 ((mU M r 1 (M q 1)) q 2)) r 3 ((mU (mU M r 1 (M q 1)) r 2 ((mU M r 1 (M q 1)) q 2)) q 3)) q 4)) r 5 ((mU (mU (mU (mU M r 1 (M q 1)) r 2 ((mU M r 1 (M q 1)) q 2)) r 3 ((mU (mU M r 1 (M q 1)) r 2 ((mU M r 1 (M q 1)) q 2)) q 3)) r 4 ((mU (mU (mU M r 1 (M q 1)) r 2 ((mU M r 1 (M q 1)) q 2)) r 3 ((mU (mU M r 1 (M q 1)) r 2 ((mU M r 1 (M q 1)) q 2)) q 3)) q 4)) q 5)) q 6)) r 7 ((mU (mU (mU (mU (mU (mU M r 1 (M q 1)) r 2 ((mU M r 1 (M q 1)) q 2)) r 3 ((mU (mU M r 1 (M q 1)) r 2 ((mU M r 1 (M q 1)) q 2)) q 3)) r 4 ((mU (mU (mU M r 1 (M q 1)) r 2 ((mU M r 1 (M q 1)) q 2)) r 3 ((mU (mU M r 1 (M q 1)) r 2 ((mU M r 1 (M q 1)) q 2)) q 3)) q 4)) r 5 ((mU (mU (mU (mU M r 1 (M q 1)) r 2 ((mU M r 1 (M q 1)) q 2)) r 3 ((mU (mU M r 1 (M q 1)) r 2 ((mU M r 1 (M q 1)) q 2)) q 3)) r 4 ((mU (mU (mU M r 1 (M q 1)) r 2 ((mU M r 1 (M q 1)) q 2)) r 3 ((mU (mU M r 1 (M q 1)) r 2 ((mU M r 1 (M q 1)) q 2)) q 3)) q 4)) q 5)) r 6 ((mU (mU (mU (mU (mU M r 1 (M q 1)) r 2 ((mU M r 1 (M q 1)) q 2)) r 3 ((mU (mU M r 1 (M q 1)) r 2 ((mU M r 1 (M q 1)) q 2)) q 3)) r 4 ((mU (mU (mU M r 1 (M q 1)) r 2 ((mU M r 1 (M q 1)) q 2)) r 3 ((mU (mU M r 1 (M q 1)) r 2 ((mU M r 1 (M q 1)) q 2)) q 3)) q 4)) r 5 ((mU (mU (mU (mU M r 1 (M q 1)) r 2 ((mU M r 1 (M q 1)) q 2)) r 3 ((mU (mU M r 1 (M q 1)) r 2 ((mU M r 1 (M q 1)) q 2)) q 3)) r 4 ((mU (mU (mU M r 1 (M q 1)) r 2 ((mU M r 1 (M q 1)) q 2)) r 3 ((mU (mU M r 1 (M q 1)) r 2 ((mU M r 1 (M q 1)) q 2)) q 3)) q 4)) q 5)) q 6)) q 7)) 0
set_option maxHeartbeats 4000000 in
set_option maxRecDepth 100000 in
theorem c_X4_copyFrom (l : Launch) (D : va_G) (cy : Nat → ClassId) (b n : Nat) (hn : 124 ≤ n) (M : Mem) (r : Nat) (q : Nat) (h_r : kd r = 4) (h_q : kd q = 4) (hcntq : CNT M q) : Met l yX4_copyFrom wsX4_copyFrom ({ frames := 1, cells := 0, slots := 0, locals := 21 } : Room) (CP D cy b n fT M [.ref (b + r), .ref (b + q)]) (CQv D cy b n fT (gX4_copyFrom M r q)) 0 0 (fr b) := by
  refine Met.ofW (cc := cX4_copyFrom) (maxL := 3) (ret := none) (by decide) rfl ?_
  intro p e s m args below meth c s₁ B hml hv
  obtain ⟨rfl, hP, hK, hX⟩ := hv
  have hx := B.exec
  have hb := B.bytes
  have hr := B.returns
  have hts := atoms_spec (ws := wsX4_copyFrom) B.pre
  have hown : s.vm.findClass RX4 = some m.cls := findClass_of_methodNamed B.named
  have hlocks := B.notSynchronized
  have lk0 := hts (.fieldLink RX4 18 "HygrometerRoom$Room" "count" "I") (by decide +kernel)
  have lk1 := hts (.fieldLink RX4 22 "HygrometerRoom$Room" "minute" "I") (by decide +kernel)
  have lk2 := hts (.fieldLink RX4 25 "HygrometerRoom$Room" "humidity" "I") (by decide +kernel)
  have lk3 := hts (.fieldLink RX4 28 "HygrometerRoom$Room" "temperature" "I") (by decide +kernel)
  have lk4 := hts (.fieldLink RX4 31 "HygrometerRoom$Room" "skill" "I") (by decide +kernel)
  have lk5 := hts (.fieldLink RX4 34 "HygrometerRoom$Room" "stock" "I") (by decide +kernel)
  have lk6 := hts (.fieldLink RX4 37 "HygrometerRoom$Room" "brought" "I") (by decide +kernel)
  have inc4 : ∀ w ∈ u_ws RX4 TX4 8, w ∈ wsX4_copyFrom := by decide +kernel
  have hS : va_S (fr b) s.heap s.heap [] := va_S.rf
  have hl := lv_entry ([.ref (b + r), .ref (b + q)]) (n := 3) (Nat.le_of_ble_eq_true rfl)
  rw [lg_entry_eq]
  generalize (lg_sl ([.ref (b + r), .ref (b + q)]) ++ List.replicate (3 - (lg_sl ([.ref (b + r), .ref (b + q)])).length) Slot.unset).toArray = ls at hl ⊢
  have hl : lv_has ls 3 [(0, .ref (b + r)), (1, .ref (b + q))] := hl
  refine lv_aload_n hx hb dX4_copyFrom_0 rfl (lv_at hl 0 rfl) ?_
  refine lv_aload_n hx hb dX4_copyFrom_1 rfl (lv_at hl 1 rfl) ?_
  refine xg (C := RX4) (T := TX4) (N := 8) (v := .int (M q 1)) hx hb hts inc4 hown hK hP (kR_lt h_q hn) (cell4 h_q) rfl 1 (by decide) lk0 (fun _ h => h) rfl dX4_copyFrom_2 ?_
  refine xp (C := RX4) (T := TX4) (N := 8) (ci := 4) (ty := .int) (x := M q 1) hx hb hts inc4 tyX4 tyX4_ok nmX4 hown hK hP hS (kR_lt h_r hn) (fun _ => cell4 h_r) rfl 1 (by decide) rfl lk0 (fun _ h => h) rfl (tyX4_ok 1 (by decide)) rfl rfl (Nat.le_of_ble_eq_true rfl) dX4_copyFrom_5 (fun H locs hP hS => ?_)
  refine lv_aload_n hx hb dX4_copyFrom_8 rfl (lv_at hl 0 rfl) ?_
  refine lv_aload_n hx hb dX4_copyFrom_9 rfl (lv_at hl 1 rfl) ?_
  refine xg (C := RX4) (T := TX4) (N := 8) (v := .int ((mU M r 1 (M q 1)) q 2)) hx hb hts inc4 hown hK hP (kR_lt h_q hn) (cell4 h_q) rfl 2 (by decide) lk1 (fun _ h => h) rfl dX4_copyFrom_10 ?_
  refine xp (C := RX4) (T := TX4) (N := 8) (ci := 4) (ty := .int) (x := (mU M r 1 (M q 1)) q 2) hx hb hts inc4 tyX4 tyX4_ok nmX4 hown hK hP hS (kR_lt h_r hn) (fun _ => cell4 h_r) rfl 2 (by decide) rfl lk1 (fun _ h => h) rfl (tyX4_ok 2 (by decide)) rfl rfl (Nat.le_of_ble_eq_true rfl) dX4_copyFrom_13 (fun H locs hP hS => ?_)
  refine lv_aload_n hx hb dX4_copyFrom_16 rfl (lv_at hl 0 rfl) ?_
  refine lv_aload_n hx hb dX4_copyFrom_17 rfl (lv_at hl 1 rfl) ?_
  refine xg (C := RX4) (T := TX4) (N := 8) (v := .int ((mU (mU M r 1 (M q 1)) r 2 ((mU M r 1 (M q 1)) q 2)) q 3)) hx hb hts inc4 hown hK hP (kR_lt h_q hn) (cell4 h_q) rfl 3 (by decide) lk2 (fun _ h => h) rfl dX4_copyFrom_18 ?_
  refine xp (C := RX4) (T := TX4) (N := 8) (ci := 4) (ty := .int) (x := (mU (mU M r 1 (M q 1)) r 2 ((mU M r 1 (M q 1)) q 2)) q 3) hx hb hts inc4 tyX4 tyX4_ok nmX4 hown hK hP hS (kR_lt h_r hn) (fun _ => cell4 h_r) rfl 3 (by decide) rfl lk2 (fun _ h => h) rfl (tyX4_ok 3 (by decide)) rfl rfl (Nat.le_of_ble_eq_true rfl) dX4_copyFrom_21 (fun H locs hP hS => ?_)
  refine lv_aload_n hx hb dX4_copyFrom_24 rfl (lv_at hl 0 rfl) ?_
  refine lv_aload_n hx hb dX4_copyFrom_25 rfl (lv_at hl 1 rfl) ?_
  refine xg (C := RX4) (T := TX4) (N := 8) (v := .int ((mU (mU (mU M r 1 (M q 1)) r 2 ((mU M r 1 (M q 1)) q 2)) r 3 ((mU (mU M r 1 (M q 1)) r 2 ((mU M r 1 (M q 1)) q 2)) q 3)) q 4)) hx hb hts inc4 hown hK hP (kR_lt h_q hn) (cell4 h_q) rfl 4 (by decide) lk3 (fun _ h => h) rfl dX4_copyFrom_26 ?_
  refine xp (C := RX4) (T := TX4) (N := 8) (ci := 4) (ty := .int) (x := (mU (mU (mU M r 1 (M q 1)) r 2 ((mU M r 1 (M q 1)) q 2)) r 3 ((mU (mU M r 1 (M q 1)) r 2 ((mU M r 1 (M q 1)) q 2)) q 3)) q 4) hx hb hts inc4 tyX4 tyX4_ok nmX4 hown hK hP hS (kR_lt h_r hn) (fun _ => cell4 h_r) rfl 4 (by decide) rfl lk3 (fun _ h => h) rfl (tyX4_ok 4 (by decide)) rfl rfl (Nat.le_of_ble_eq_true rfl) dX4_copyFrom_29 (fun H locs hP hS => ?_)
  refine lv_aload_n hx hb dX4_copyFrom_32 rfl (lv_at hl 0 rfl) ?_
  refine lv_aload_n hx hb dX4_copyFrom_33 rfl (lv_at hl 1 rfl) ?_
  refine xg (C := RX4) (T := TX4) (N := 8) (v := .int ((mU (mU (mU (mU M r 1 (M q 1)) r 2 ((mU M r 1 (M q 1)) q 2)) r 3 ((mU (mU M r 1 (M q 1)) r 2 ((mU M r 1 (M q 1)) q 2)) q 3)) r 4 ((mU (mU (mU M r 1 (M q 1)) r 2 ((mU M r 1 (M q 1)) q 2)) r 3 ((mU (mU M r 1 (M q 1)) r 2 ((mU M r 1 (M q 1)) q 2)) q 3)) q 4)) q 5)) hx hb hts inc4 hown hK hP (kR_lt h_q hn) (cell4 h_q) rfl 5 (by decide) lk4 (fun _ h => h) rfl dX4_copyFrom_34 ?_
  refine xp (C := RX4) (T := TX4) (N := 8) (ci := 4) (ty := .int) (x := (mU (mU (mU (mU M r 1 (M q 1)) r 2 ((mU M r 1 (M q 1)) q 2)) r 3 ((mU (mU M r 1 (M q 1)) r 2 ((mU M r 1 (M q 1)) q 2)) q 3)) r 4 ((mU (mU (mU M r 1 (M q 1)) r 2 ((mU M r 1 (M q 1)) q 2)) r 3 ((mU (mU M r 1 (M q 1)) r 2 ((mU M r 1 (M q 1)) q 2)) q 3)) q 4)) q 5) hx hb hts inc4 tyX4 tyX4_ok nmX4 hown hK hP hS (kR_lt h_r hn) (fun _ => cell4 h_r) rfl 5 (by decide) rfl lk4 (fun _ h => h) rfl (tyX4_ok 5 (by decide)) rfl rfl (Nat.le_of_ble_eq_true rfl) dX4_copyFrom_37 (fun H locs hP hS => ?_)
  refine lv_aload_n hx hb dX4_copyFrom_40 rfl (lv_at hl 0 rfl) ?_
  refine lv_aload_n hx hb dX4_copyFrom_41 rfl (lv_at hl 1 rfl) ?_
  refine xg (C := RX4) (T := TX4) (N := 8) (v := .int ((mU (mU (mU (mU (mU M r 1 (M q 1)) r 2 ((mU M r 1 (M q 1)) q 2)) r 3 ((mU (mU M r 1 (M q 1)) r 2 ((mU M r 1 (M q 1)) q 2)) q 3)) r 4 ((mU (mU (mU M r 1 (M q 1)) r 2 ((mU M r 1 (M q 1)) q 2)) r 3 ((mU (mU M r 1 (M q 1)) r 2 ((mU M r 1 (M q 1)) q 2)) q 3)) q 4)) r 5 ((mU (mU (mU (mU M r 1 (M q 1)) r 2 ((mU M r 1 (M q 1)) q 2)) r 3 ((mU (mU M r 1 (M q 1)) r 2 ((mU M r 1 (M q 1)) q 2)) q 3)) r 4 ((mU (mU (mU M r 1 (M q 1)) r 2 ((mU M r 1 (M q 1)) q 2)) r 3 ((mU (mU M r 1 (M q 1)) r 2 ((mU M r 1 (M q 1)) q 2)) q 3)) q 4)) q 5)) q 6)) hx hb hts inc4 hown hK hP (kR_lt h_q hn) (cell4 h_q) rfl 6 (by decide) lk5 (fun _ h => h) rfl dX4_copyFrom_42 ?_
  refine xp (C := RX4) (T := TX4) (N := 8) (ci := 4) (ty := .int) (x := (mU (mU (mU (mU (mU M r 1 (M q 1)) r 2 ((mU M r 1 (M q 1)) q 2)) r 3 ((mU (mU M r 1 (M q 1)) r 2 ((mU M r 1 (M q 1)) q 2)) q 3)) r 4 ((mU (mU (mU M r 1 (M q 1)) r 2 ((mU M r 1 (M q 1)) q 2)) r 3 ((mU (mU M r 1 (M q 1)) r 2 ((mU M r 1 (M q 1)) q 2)) q 3)) q 4)) r 5 ((mU (mU (mU (mU M r 1 (M q 1)) r 2 ((mU M r 1 (M q 1)) q 2)) r 3 ((mU (mU M r 1 (M q 1)) r 2 ((mU M r 1 (M q 1)) q 2)) q 3)) r 4 ((mU (mU (mU M r 1 (M q 1)) r 2 ((mU M r 1 (M q 1)) q 2)) r 3 ((mU (mU M r 1 (M q 1)) r 2 ((mU M r 1 (M q 1)) q 2)) q 3)) q 4)) q 5)) q 6) hx hb hts inc4 tyX4 tyX4_ok nmX4 hown hK hP hS (kR_lt h_r hn) (fun _ => cell4 h_r) rfl 6 (by decide) rfl lk5 (fun _ h => h) rfl (tyX4_ok 6 (by decide)) rfl rfl (Nat.le_of_ble_eq_true rfl) dX4_copyFrom_45 (fun H locs hP hS => ?_)
  refine lv_aload_n hx hb dX4_copyFrom_48 rfl (lv_at hl 0 rfl) ?_
  refine lv_aload_n hx hb dX4_copyFrom_49 rfl (lv_at hl 1 rfl) ?_
  refine xg (C := RX4) (T := TX4) (N := 8) (v := .int ((mU (mU (mU (mU (mU (mU M r 1 (M q 1)) r 2 ((mU M r 1 (M q 1)) q 2)) r 3 ((mU (mU M r 1 (M q 1)) r 2 ((mU M r 1 (M q 1)) q 2)) q 3)) r 4 ((mU (mU (mU M r 1 (M q 1)) r 2 ((mU M r 1 (M q 1)) q 2)) r 3 ((mU (mU M r 1 (M q 1)) r 2 ((mU M r 1 (M q 1)) q 2)) q 3)) q 4)) r 5 ((mU (mU (mU (mU M r 1 (M q 1)) r 2 ((mU M r 1 (M q 1)) q 2)) r 3 ((mU (mU M r 1 (M q 1)) r 2 ((mU M r 1 (M q 1)) q 2)) q 3)) r 4 ((mU (mU (mU M r 1 (M q 1)) r 2 ((mU M r 1 (M q 1)) q 2)) r 3 ((mU (mU M r 1 (M q 1)) r 2 ((mU M r 1 (M q 1)) q 2)) q 3)) q 4)) q 5)) r 6 ((mU (mU (mU (mU (mU M r 1 (M q 1)) r 2 ((mU M r 1 (M q 1)) q 2)) r 3 ((mU (mU M r 1 (M q 1)) r 2 ((mU M r 1 (M q 1)) q 2)) q 3)) r 4 ((mU (mU (mU M r 1 (M q 1)) r 2 ((mU M r 1 (M q 1)) q 2)) r 3 ((mU (mU M r 1 (M q 1)) r 2 ((mU M r 1 (M q 1)) q 2)) q 3)) q 4)) r 5 ((mU (mU (mU (mU M r 1 (M q 1)) r 2 ((mU M r 1 (M q 1)) q 2)) r 3 ((mU (mU M r 1 (M q 1)) r 2 ((mU M r 1 (M q 1)) q 2)) q 3)) r 4 ((mU (mU (mU M r 1 (M q 1)) r 2 ((mU M r 1 (M q 1)) q 2)) r 3 ((mU (mU M r 1 (M q 1)) r 2 ((mU M r 1 (M q 1)) q 2)) q 3)) q 4)) q 5)) q 6)) q 7)) hx hb hts inc4 hown hK hP (kR_lt h_q hn) (cell4 h_q) rfl 7 (by decide) lk6 (fun _ h => h) rfl dX4_copyFrom_50 ?_
  refine xp (C := RX4) (T := TX4) (N := 8) (ci := 4) (ty := .int) (x := (mU (mU (mU (mU (mU (mU M r 1 (M q 1)) r 2 ((mU M r 1 (M q 1)) q 2)) r 3 ((mU (mU M r 1 (M q 1)) r 2 ((mU M r 1 (M q 1)) q 2)) q 3)) r 4 ((mU (mU (mU M r 1 (M q 1)) r 2 ((mU M r 1 (M q 1)) q 2)) r 3 ((mU (mU M r 1 (M q 1)) r 2 ((mU M r 1 (M q 1)) q 2)) q 3)) q 4)) r 5 ((mU (mU (mU (mU M r 1 (M q 1)) r 2 ((mU M r 1 (M q 1)) q 2)) r 3 ((mU (mU M r 1 (M q 1)) r 2 ((mU M r 1 (M q 1)) q 2)) q 3)) r 4 ((mU (mU (mU M r 1 (M q 1)) r 2 ((mU M r 1 (M q 1)) q 2)) r 3 ((mU (mU M r 1 (M q 1)) r 2 ((mU M r 1 (M q 1)) q 2)) q 3)) q 4)) q 5)) r 6 ((mU (mU (mU (mU (mU M r 1 (M q 1)) r 2 ((mU M r 1 (M q 1)) q 2)) r 3 ((mU (mU M r 1 (M q 1)) r 2 ((mU M r 1 (M q 1)) q 2)) q 3)) r 4 ((mU (mU (mU M r 1 (M q 1)) r 2 ((mU M r 1 (M q 1)) q 2)) r 3 ((mU (mU M r 1 (M q 1)) r 2 ((mU M r 1 (M q 1)) q 2)) q 3)) q 4)) r 5 ((mU (mU (mU (mU M r 1 (M q 1)) r 2 ((mU M r 1 (M q 1)) q 2)) r 3 ((mU (mU M r 1 (M q 1)) r 2 ((mU M r 1 (M q 1)) q 2)) q 3)) r 4 ((mU (mU (mU M r 1 (M q 1)) r 2 ((mU M r 1 (M q 1)) q 2)) r 3 ((mU (mU M r 1 (M q 1)) r 2 ((mU M r 1 (M q 1)) q 2)) q 3)) q 4)) q 5)) q 6)) q 7) hx hb hts inc4 tyX4 tyX4_ok nmX4 hown hK hP hS (kR_lt h_r hn) (fun _ => cell4 h_r) rfl 7 (by decide) rfl lk6 (fun _ h => h) rfl (tyX4_ok 7 (by decide)) rfl rfl (Nat.le_of_ble_eq_true rfl) dX4_copyFrom_53 (fun H locs hP hS => ?_)
  refine lv_iconst (v := 0) hx hb dX4_copyFrom_56 (by decide) ?_
  refine lv_istore_n (lv' := [(2, .int (0 : Int32)), (0, .ref (b + r)), (1, .ref (b + q))]) hx hb dX4_copyFrom_57 rfl hl (by decide) rfl (fun ls hl => ?_)
  rw [show gX4_copyFrom M r q = LX4_copyFrom_58g r q 7 (mU (mU (mU (mU (mU (mU (mU M r 1 (M q 1)) r 2 ((mU M r 1 (M q 1)) q 2)) r 3 ((mU (mU M r 1 (M q 1)) r 2 ((mU M r 1 (M q 1)) q 2)) q 3)) r 4 ((mU (mU (mU M r 1 (M q 1)) r 2 ((mU M r 1 (M q 1)) q 2)) r 3 ((mU (mU M r 1 (M q 1)) r 2 ((mU M r 1 (M q 1)) q 2)) q 3)) q 4)) r 5 ((mU (mU (mU (mU M r 1 (M q 1)) r 2 ((mU M r 1 (M q 1)) q 2)) r 3 ((mU (mU M r 1 (M q 1)) r 2 ((mU M r 1 (M q 1)) q 2)) q 3)) r 4 ((mU (mU (mU M r 1 (M q 1)) r 2 ((mU M r 1 (M q 1)) q 2)) r 3 ((mU (mU M r 1 (M q 1)) r 2 ((mU M r 1 (M q 1)) q 2)) q 3)) q 4)) q 5)) r 6 ((mU (mU (mU (mU (mU M r 1 (M q 1)) r 2 ((mU M r 1 (M q 1)) q 2)) r 3 ((mU (mU M r 1 (M q 1)) r 2 ((mU M r 1 (M q 1)) q 2)) q 3)) r 4 ((mU (mU (mU M r 1 (M q 1)) r 2 ((mU M r 1 (M q 1)) q 2)) r 3 ((mU (mU M r 1 (M q 1)) r 2 ((mU M r 1 (M q 1)) q 2)) q 3)) q 4)) r 5 ((mU (mU (mU (mU M r 1 (M q 1)) r 2 ((mU M r 1 (M q 1)) q 2)) r 3 ((mU (mU M r 1 (M q 1)) r 2 ((mU M r 1 (M q 1)) q 2)) q 3)) r 4 ((mU (mU (mU M r 1 (M q 1)) r 2 ((mU M r 1 (M q 1)) q 2)) r 3 ((mU (mU M r 1 (M q 1)) r 2 ((mU M r 1 (M q 1)) q 2)) q 3)) q 4)) q 5)) q 6)) r 7 ((mU (mU (mU (mU (mU (mU M r 1 (M q 1)) r 2 ((mU M r 1 (M q 1)) q 2)) r 3 ((mU (mU M r 1 (M q 1)) r 2 ((mU M r 1 (M q 1)) q 2)) q 3)) r 4 ((mU (mU (mU M r 1 (M q 1)) r 2 ((mU M r 1 (M q 1)) q 2)) r 3 ((mU (mU M r 1 (M q 1)) r 2 ((mU M r 1 (M q 1)) q 2)) q 3)) q 4)) r 5 ((mU (mU (mU (mU M r 1 (M q 1)) r 2 ((mU M r 1 (M q 1)) q 2)) r 3 ((mU (mU M r 1 (M q 1)) r 2 ((mU M r 1 (M q 1)) q 2)) q 3)) r 4 ((mU (mU (mU M r 1 (M q 1)) r 2 ((mU M r 1 (M q 1)) q 2)) r 3 ((mU (mU M r 1 (M q 1)) r 2 ((mU M r 1 (M q 1)) q 2)) q 3)) q 4)) q 5)) r 6 ((mU (mU (mU (mU (mU M r 1 (M q 1)) r 2 ((mU M r 1 (M q 1)) q 2)) r 3 ((mU (mU M r 1 (M q 1)) r 2 ((mU M r 1 (M q 1)) q 2)) q 3)) r 4 ((mU (mU (mU M r 1 (M q 1)) r 2 ((mU M r 1 (M q 1)) q 2)) r 3 ((mU (mU M r 1 (M q 1)) r 2 ((mU M r 1 (M q 1)) q 2)) q 3)) q 4)) r 5 ((mU (mU (mU (mU M r 1 (M q 1)) r 2 ((mU M r 1 (M q 1)) q 2)) r 3 ((mU (mU M r 1 (M q 1)) r 2 ((mU M r 1 (M q 1)) q 2)) q 3)) r 4 ((mU (mU (mU M r 1 (M q 1)) r 2 ((mU M r 1 (M q 1)) q 2)) r 3 ((mU (mU M r 1 (M q 1)) r 2 ((mU M r 1 (M q 1)) q 2)) q 3)) q 4)) q 5)) q 6)) q 7)) 0 from (by rw [gX4_copyFrom])]
  exact cl_X4_copyFrom_58 l D cy b n hn r q h_r h_q hx hb hr hlocks hml hown hts hK hX 7 (mU (mU (mU (mU (mU (mU (mU M r 1 (M q 1)) r 2 ((mU M r 1 (M q 1)) q 2)) r 3 ((mU (mU M r 1 (M q 1)) r 2 ((mU M r 1 (M q 1)) q 2)) q 3)) r 4 ((mU (mU (mU M r 1 (M q 1)) r 2 ((mU M r 1 (M q 1)) q 2)) r 3 ((mU (mU M r 1 (M q 1)) r 2 ((mU M r 1 (M q 1)) q 2)) q 3)) q 4)) r 5 ((mU (mU (mU (mU M r 1 (M q 1)) r 2 ((mU M r 1 (M q 1)) q 2)) r 3 ((mU (mU M r 1 (M q 1)) r 2 ((mU M r 1 (M q 1)) q 2)) q 3)) r 4 ((mU (mU (mU M r 1 (M q 1)) r 2 ((mU M r 1 (M q 1)) q 2)) r 3 ((mU (mU M r 1 (M q 1)) r 2 ((mU M r 1 (M q 1)) q 2)) q 3)) q 4)) q 5)) r 6 ((mU (mU (mU (mU (mU M r 1 (M q 1)) r 2 ((mU M r 1 (M q 1)) q 2)) r 3 ((mU (mU M r 1 (M q 1)) r 2 ((mU M r 1 (M q 1)) q 2)) q 3)) r 4 ((mU (mU (mU M r 1 (M q 1)) r 2 ((mU M r 1 (M q 1)) q 2)) r 3 ((mU (mU M r 1 (M q 1)) r 2 ((mU M r 1 (M q 1)) q 2)) q 3)) q 4)) r 5 ((mU (mU (mU (mU M r 1 (M q 1)) r 2 ((mU M r 1 (M q 1)) q 2)) r 3 ((mU (mU M r 1 (M q 1)) r 2 ((mU M r 1 (M q 1)) q 2)) q 3)) r 4 ((mU (mU (mU M r 1 (M q 1)) r 2 ((mU M r 1 (M q 1)) q 2)) r 3 ((mU (mU M r 1 (M q 1)) r 2 ((mU M r 1 (M q 1)) q 2)) q 3)) q 4)) q 5)) q 6)) r 7 ((mU (mU (mU (mU (mU (mU M r 1 (M q 1)) r 2 ((mU M r 1 (M q 1)) q 2)) r 3 ((mU (mU M r 1 (M q 1)) r 2 ((mU M r 1 (M q 1)) q 2)) q 3)) r 4 ((mU (mU (mU M r 1 (M q 1)) r 2 ((mU M r 1 (M q 1)) q 2)) r 3 ((mU (mU M r 1 (M q 1)) r 2 ((mU M r 1 (M q 1)) q 2)) q 3)) q 4)) r 5 ((mU (mU (mU (mU M r 1 (M q 1)) r 2 ((mU M r 1 (M q 1)) q 2)) r 3 ((mU (mU M r 1 (M q 1)) r 2 ((mU M r 1 (M q 1)) q 2)) q 3)) r 4 ((mU (mU (mU M r 1 (M q 1)) r 2 ((mU M r 1 (M q 1)) q 2)) r 3 ((mU (mU M r 1 (M q 1)) r 2 ((mU M r 1 (M q 1)) q 2)) q 3)) q 4)) q 5)) r 6 ((mU (mU (mU (mU (mU M r 1 (M q 1)) r 2 ((mU M r 1 (M q 1)) q 2)) r 3 ((mU (mU M r 1 (M q 1)) r 2 ((mU M r 1 (M q 1)) q 2)) q 3)) r 4 ((mU (mU (mU M r 1 (M q 1)) r 2 ((mU M r 1 (M q 1)) q 2)) r 3 ((mU (mU M r 1 (M q 1)) r 2 ((mU M r 1 (M q 1)) q 2)) q 3)) q 4)) r 5 ((mU (mU (mU (mU M r 1 (M q 1)) r 2 ((mU M r 1 (M q 1)) q 2)) r 3 ((mU (mU M r 1 (M q 1)) r 2 ((mU M r 1 (M q 1)) q 2)) q 3)) r 4 ((mU (mU (mU M r 1 (M q 1)) r 2 ((mU M r 1 (M q 1)) q 2)) r 3 ((mU (mU M r 1 (M q 1)) r 2 ((mU M r 1 (M q 1)) q 2)) q 3)) q 4)) q 5)) q 6)) q 7)) 0 H locs ls (cnt_put (by decide) (cnt_put (by decide) (cnt_put (by decide) (cnt_put (by decide) (cnt_put (by decide) (cnt_put (by decide) (by unfold CNT; rw [mU_at]; exact hcntq))))))) (by omega) (by omega) hP hS (lv_sub hl [1, 2, 0] rfl)
def LX4_pass_25g (r : Nat) (x : Int32) : Nat → Mem → Nat → Mem
  | 0, M, _ => M
  | k + 1, M, j => if (M r 1) ≤ (nI (j)) then M else (LX4_pass_25g r x k (gX1_age M (r + 1 + 1 + j) (M r 2) (fX4_surrounding M r (r + 1 + 1 + j))) (j + 1))
set_option maxHeartbeats 4000000 in
set_option maxRecDepth 100000 in
theorem cl_X4_pass_25 (l : Launch) (D : va_G) (cy : Nat → ClassId) (b n : Nat) (hn : 124 ≤ n) (r : Nat) (x : Int32) (h_r : kd r = 4) {p : Program} {e : Env} {s : State} {m : MethodId} {args : Array Value} {below : List Frame} {meth : Method} {c : Code} {Q : State → Prop} (hx : p.tables.exec = Jvm.exec) (hb : c.code = cX4_pass) (hr : meth.sig.returnType = (some .int)) (hlocks : meth.locks = false) (hml : c.maxLocals = 5) (hown : s.vm.findClass RX4 = some m.cls) (hts : ∀ w ∈ wsX4_pass, w.before args s = true) (hK : va_K D vwCl (tysW cy) s) (hX : SX b s) (w : Int32) (i : Nat) : ∀ (k : Nat) (M : Mem) (j : Nat) (H : Heap) (locs : List Loc) (ls : Array Slot), CNT M r → j ≤ 6 → 7 ≤ j + k → va_P D vwCl (wL cy b fT M n) H → va_S (fr b) s.heap H locs → lv_has ls 5 [(0, .ref (b + r)), (1, .int x), (2, .int w), (3, .int (nI (i))), (4, .int (nI (j)))] → (∀ (H : Heap) (locs : List Loc) (ls : Array Slot), va_P D vwCl (wL cy b fT (LX4_pass_25g r x k M j) n) H → va_S (fr b) s.heap H locs → lv_has ls 5 [(0, .ref (b + r)), (1, .int x), (2, .int w), (3, .int (nI (i)))] → W p l e (headSpec wsX4_pass ({ frames := 2, cells := 0, slots := 0, locals := 42 } : Room)).room s m args below meth c H locs 0 0 Q (F0 m 65 ls [])) → W p l e (headSpec wsX4_pass ({ frames := 2, cells := 0, slots := 0, locals := 42 } : Room)).room s m args below meth c H locs 0 0 Q (F0 m 25 ls []) := by
  have lk0 := hts (.fieldLink RX4 18 "HygrometerRoom$Room" "count" "I") (by decide +kernel)
  have lk1 := hts (.fieldLink RX4 11 "HygrometerRoom$Room" "instruments" "[LHygrometerRoom$Instrument;") (by decide +kernel)
  have lk2 := hts (.fieldLink RX4 22 "HygrometerRoom$Room" "minute" "I") (by decide +kernel)
  have inc4 : ∀ w ∈ u_ws RX4 TX4 8, w ∈ wsX4_pass := by decide +kernel
  intro k
  induction k with
  | zero => intro M j H locs ls hcnt hj hk hP hS hl kk; omega
  | succ k ih =>
    intro M j H locs ls hcnt hj hk hP hS hl kk
    refine lv_iload hx hb dX4_pass_25 (lv_at hl 4 rfl) ?_
    refine lv_aload_n hx hb dX4_pass_27 rfl (lv_at hl 0 rfl) ?_
    refine xg (C := RX4) (T := TX4) (N := 8) (v := .int (M r 1)) hx hb hts inc4 hown hK hP (kR_lt h_r hn) (cell4 h_r) rfl 1 (by decide) lk0 (fun _ h => h) rfl dX4_pass_28 ?_
    refine lv_icmp_ge (tgt := 65) hx hb dX4_pass_31 (by decide) (fun c31 => ?_) (fun c31 => ?_)
    · rw [show LX4_pass_25g r x (k + 1) M j = M from by rw [LX4_pass_25g, if_pos c31]] at kk
      exact kk H locs ls hP hS (lv_sub hl [0, 1, 2, 3] rfl)
    · refine lv_aload_n hx hb dX4_pass_34 rfl (lv_at hl 0 rfl) ?_
      refine xg (C := RX4) (T := TX4) (N := 8) (v := .ref (b + (r + 1))) hx hb hts inc4 hown hK hP (kR_lt h_r hn) (cell4 h_r) rfl 0 (by decide) lk1 (fun _ h => h) rfl dX4_pass_35 ?_
      have hj6 := ub_lt hcnt hj c31
      refine lv_iload hx hb dX4_pass_38 (lv_at hl 4 rfl) ?_
      refine xnl (j := j) hx hb hK hP (kA_lt h_r hn) (kd_arr h_r) (ixIn (a := j) rfl (by first | decide | (simp only [lenOf]; omega) | omega) (by decide)) (ixAt (a := j) rfl (by omega)) dX4_pass_40 ?_
      refine lv_aload_n hx hb dX4_pass_41 rfl (lv_at hl 0 rfl) ?_
      refine xg (C := RX4) (T := TX4) (N := 8) (v := .int (M r 2)) hx hb hts inc4 hown hK hP (kR_lt h_r hn) (cell4 h_r) rfl 2 (by decide) lk2 (fun _ h => h) rfl dX4_pass_42 ?_
      refine lv_aload_n hx hb dX4_pass_45 rfl (lv_at hl 0 rfl) ?_
      refine lv_aload_n hx hb dX4_pass_46 rfl (lv_at hl 0 rfl) ?_
      refine xg (C := RX4) (T := TX4) (N := 8) (v := .ref (b + (r + 1))) hx hb hts inc4 hown hK hP (kR_lt h_r hn) (cell4 h_r) rfl 0 (by decide) lk1 (fun _ h => h) rfl dX4_pass_47 ?_
      refine lv_iload hx hb dX4_pass_50 (lv_at hl 4 rfl) ?_
      refine xnl (j := j) hx hb hK hP (kA_lt h_r hn) (kd_arr h_r) (ixIn (a := j) rfl (by first | decide | (simp only [lenOf]; omega) | omega) (by decide)) (ixAt (a := j) rfl (by omega)) dX4_pass_52 ?_
      refine xc_i (va_runV (As := [.ref (b + (r + 1 + 1 + j))]) (rest := [.int (M r 2), .ref (b + (r + 1 + 1 + j))]) ⟨hx, hb, hml, hown, hts⟩ (c_X4_surrounding l D cy b n hn M r (r + 1 + 1 + j) h_r (kd_ins h_r (by omega))) (cwV 1 hts gX4_pass_X4_surrounding rfl rfl rfl (by decide +kernel) ⟨Nat.le_of_ble_eq_true rfl, Nat.le_of_ble_eq_true rfl⟩) (xPreV hP hK hX hS (kR_lt h_r hn) (cell4 h_r) rfl) rfl rfl hl.1 rfl (lv_room (Nat.le_of_ble_eq_true rfl)) dX4_pass_53 ⟨Nat.le_of_ble_eq_true rfl, Nat.le_of_ble_eq_true rfl⟩) hS (fun H locs hP hS => ?_)
      refine xc_v (va_runV (As := [.int (M r 2), .int (fX4_surrounding M r (r + 1 + 1 + j))]) (rest := []) ⟨hx, hb, hml, hown, hts⟩ (c_X1_age l D cy b n hn M (r + 1 + 1 + j) (M r 2) (fX4_surrounding M r (r + 1 + 1 + j)) (kd_ins h_r (by omega))) (cwV 2 hts gX4_pass_X1_age rfl rfl rfl (by decide +kernel) ⟨Nat.le_of_ble_eq_true rfl, Nat.le_of_ble_eq_true rfl⟩) (xPreV hP hK hX hS (kI_lt (kd_ins h_r (by omega)) hn) (cell1 (kd_ins h_r (by omega))) rfl) rfl rfl hl.1 rfl (lv_room (Nat.le_of_ble_eq_true rfl)) dX4_pass_56 ⟨Nat.le_of_ble_eq_true rfl, Nat.le_of_ble_eq_true rfl⟩) hS (fun H locs hP hS => ?_)
      refine lv_iinc (v := nI (j + 1)) (lv' := [(4, .int (nI (j + 1))), (0, .ref (b + r)), (1, .int x), (2, .int w), (3, .int (nI (i)))]) hx hb dX4_pass_59 hl (k := 4) rfl (ixAdd (a := j) (c := 1) (d := j + 1) rfl rfl (by omega)) (by decide) rfl (fun ls hl => ?_)
      refine lv_goto (tgt := 25) hx hb dX4_pass_62 (by decide) ?_
      rw [show LX4_pass_25g r x (k + 1) M j = LX4_pass_25g r x k (gX1_age M (r + 1 + 1 + j) (M r 2) (fX4_surrounding M r (r + 1 + 1 + j))) (j + 1) from (by rw [LX4_pass_25g, if_neg c31])] at kk
      exact ih (gX1_age M (r + 1 + 1 + j) (M r 2) (fX4_surrounding M r (r + 1 + 1 + j))) (j + 1) H locs ls (cnt_row (gX1_age_ne (by omega)) hcnt) (by omega) (by omega) hP hS (lv_sub hl [1, 2, 3, 4, 0] rfl) kk
theorem LX4_pass_25_row (r : Nat) (x : Int32) : ∀ (k : Nat) (M : Mem) (j : Nat), LX4_pass_25g r x k M j r = M r := by
  intro k
  induction k with
  | zero => intro M j; rfl
  | succ k ih =>
    intro M j
    rw [LX4_pass_25g]
    split
    · rfl
    · rw [ih, gX1_age_ne (by omega)]
def LX4_pass_7f (r : Nat) (x : Int32) : Nat → Mem → Int32 → Nat → Int32
  | 0, _, _, _ => 0
  | k + 1, M, w, i => if x ≤ (nI (i)) then ((M r 7) - w) else (if (((LX4_pass_25g r x 7 (mU M r 2 ((M r 2) + (1 : Int32))) 0) r 2) - ((LX4_pass_25g r x 7 (mU M r 2 ((M r 2) + (1 : Int32))) 0) r 2) / (60 : Int32) * (60 : Int32)) = 0 then (LX4_pass_7f r x k (gX4_bringHairs (LX4_pass_25g r x 7 (mU M r 2 ((M r 2) + (1 : Int32))) 0) r) w (i + 1)) else (LX4_pass_7f r x k (LX4_pass_25g r x 7 (mU M r 2 ((M r 2) + (1 : Int32))) 0) w (i + 1)))
def LX4_pass_7g (r : Nat) (x : Int32) : Nat → Mem → Int32 → Nat → Mem
  | 0, M, _, _ => M
  | k + 1, M, w, i => if x ≤ (nI (i)) then M else (if (((LX4_pass_25g r x 7 (mU M r 2 ((M r 2) + (1 : Int32))) 0) r 2) - ((LX4_pass_25g r x 7 (mU M r 2 ((M r 2) + (1 : Int32))) 0) r 2) / (60 : Int32) * (60 : Int32)) = 0 then (LX4_pass_7g r x k (gX4_bringHairs (LX4_pass_25g r x 7 (mU M r 2 ((M r 2) + (1 : Int32))) 0) r) w (i + 1)) else (LX4_pass_7g r x k (LX4_pass_25g r x 7 (mU M r 2 ((M r 2) + (1 : Int32))) 0) w (i + 1)))
set_option maxHeartbeats 4000000 in
set_option maxRecDepth 100000 in
theorem cl_X4_pass_7 (l : Launch) (D : va_G) (cy : Nat → ClassId) (b n : Nat) (hn : 124 ≤ n) (r : Nat) (x : Int32) (h_r : kd r = 4) (hx2 : UB x 200) {p : Program} {e : Env} {s : State} {m : MethodId} {args : Array Value} {below : List Frame} {meth : Method} {c : Code} (hx : p.tables.exec = Jvm.exec) (hb : c.code = cX4_pass) (hr : meth.sig.returnType = (some .int)) (hlocks : meth.locks = false) (hml : c.maxLocals = 5) (hown : s.vm.findClass RX4 = some m.cls) (hts : ∀ w ∈ wsX4_pass, w.before args s = true) (hK : va_K D vwCl (tysW cy) s) (hX : SX b s)  : ∀ (k : Nat) (M : Mem) (w : Int32) (i : Nat) (H : Heap) (locs : List Loc) (ls : Array Slot), CNT M r → i ≤ 200 → 201 ≤ i + k → va_P D vwCl (wL cy b fT M n) H → va_S (fr b) s.heap H locs → lv_has ls 5 [(0, .ref (b + r)), (1, .int x), (2, .int w), (3, .int (nI (i)))] → W p l e (headSpec wsX4_pass ({ frames := 2, cells := 0, slots := 0, locals := 42 } : Room)).room s m args below meth c H locs 0 0 (MQ below (CQi D cy b n fT (LX4_pass_7f r x k M w i) (LX4_pass_7g r x k M w i)) args s 0 0 (fr b)) (F0 m 7 ls []) := by
  have lk0 := hts (.fieldLink RX4 37 "HygrometerRoom$Room" "brought" "I") (by decide +kernel)
  have lk1 := hts (.fieldLink RX4 22 "HygrometerRoom$Room" "minute" "I") (by decide +kernel)
  have inc4 : ∀ w ∈ u_ws RX4 TX4 8, w ∈ wsX4_pass := by decide +kernel
  intro k
  induction k with
  | zero => intro M w i H locs ls hcnt hj hk hP hS hl; omega
  | succ k ih =>
    intro M w i H locs ls hcnt hj hk hP hS hl
    refine lv_iload_n hx hb dX4_pass_7 rfl (lv_at hl 3 rfl) ?_
    refine lv_iload_n hx hb dX4_pass_8 rfl (lv_at hl 1 rfl) ?_
    refine lv_icmp_ge (tgt := 85) hx hb dX4_pass_9 (by decide) (fun c9 => ?_) (fun c9 => ?_)
    · refine lv_aload_n hx hb dX4_pass_85 rfl (lv_at hl 0 rfl) ?_
      refine xg (C := RX4) (T := TX4) (N := 8) (v := .int (M r 7)) hx hb hts inc4 hown hK hP (kR_lt h_r hn) (cell4 h_r) rfl 7 (by decide) lk0 (fun _ h => h) rfl dX4_pass_86 ?_
      refine lv_iload_n hx hb dX4_pass_89 rfl (lv_at hl 2 rfl) ?_
      refine lv_isub hx hb dX4_pass_90 ?_
      exact xe_i hx hb hr hlocks hP hS rfl (by rw [LX4_pass_7g, if_pos c9] <;> rfl) (by rw [LX4_pass_7f, if_pos c9] <;> rfl) (Nat.le_of_ble_eq_true rfl) (Nat.le_of_ble_eq_true rfl) dX4_pass_91
    · have hi2 := ub_lt hx2 hj c9
      refine lv_aload_n hx hb dX4_pass_12 rfl (lv_at hl 0 rfl) ?_
      refine lv_dup hx hb dX4_pass_13 rfl ?_
      refine xg (C := RX4) (T := TX4) (N := 8) (v := .int (M r 2)) hx hb hts inc4 hown hK hP (kR_lt h_r hn) (cell4 h_r) rfl 2 (by decide) lk1 (fun _ h => h) rfl dX4_pass_14 ?_
      refine lv_iconst (v := 1) hx hb dX4_pass_17 (by decide) ?_
      refine lv_iadd hx hb dX4_pass_18 ?_
      refine xp (C := RX4) (T := TX4) (N := 8) (ci := 4) (ty := .int) (x := (M r 2) + (1 : Int32)) hx hb hts inc4 tyX4 tyX4_ok nmX4 hown hK hP hS (kR_lt h_r hn) (fun _ => cell4 h_r) rfl 2 (by decide) rfl lk1 (fun _ h => h) rfl (tyX4_ok 2 (by decide)) rfl rfl (Nat.le_of_ble_eq_true rfl) dX4_pass_19 (fun H locs hP hS => ?_)
      refine lv_iconst (v := 0) hx hb dX4_pass_22 (by decide) ?_
      refine lv_istore (lv' := [(4, .int (0 : Int32)), (0, .ref (b + r)), (1, .int x), (2, .int w), (3, .int (nI (i)))]) hx hb dX4_pass_23 hl (by decide) rfl (fun ls hl => ?_)
      refine cl_X4_pass_25 l D cy b n hn r x h_r hx hb hr hlocks hml hown hts hK hX w i 7 (mU M r 2 ((M r 2) + (1 : Int32))) 0 H locs ls (cnt_put (by decide) hcnt) (by omega) (by omega) hP hS (lv_sub hl [1, 2, 3, 4, 0] rfl) (fun H locs ls hP hS hl => ?_)
      refine lv_aload_n hx hb dX4_pass_65 rfl (lv_at hl 0 rfl) ?_
      refine xg (C := RX4) (T := TX4) (N := 8) (v := .int ((LX4_pass_25g r x 7 (mU M r 2 ((M r 2) + (1 : Int32))) 0) r 2)) hx hb hts inc4 hown hK hP (kR_lt h_r hn) (cell4 h_r) rfl 2 (by decide) lk1 (fun _ h => h) rfl dX4_pass_66 ?_
      refine lv_bipush (v := 60) hx hb dX4_pass_69 (by decide) ?_
      refine lv_irem hx hb dX4_pass_71 (by decide) ?_
      refine lv_if_ne (tgt := 79) hx hb dX4_pass_72 (by decide) (fun c72 => ?_) (fun c72 => ?_)
      · refine lv_iinc (v := nI (i + 1)) (lv' := [(3, .int (nI (i + 1))), (0, .ref (b + r)), (1, .int x), (2, .int w)]) hx hb dX4_pass_79 hl (k := 3) rfl (ixAdd (a := i) (c := 1) (d := i + 1) rfl rfl (by omega)) (by decide) rfl (fun ls hl => ?_)
        refine lv_goto (tgt := 7) hx hb dX4_pass_82 (by decide) ?_
        rw [show LX4_pass_7f r x (k + 1) M w i = LX4_pass_7f r x k (LX4_pass_25g r x 7 (mU M r 2 ((M r 2) + (1 : Int32))) 0) w (i + 1) from (by rw [LX4_pass_7f, if_neg c9, if_neg c72]), show LX4_pass_7g r x (k + 1) M w i = LX4_pass_7g r x k (LX4_pass_25g r x 7 (mU M r 2 ((M r 2) + (1 : Int32))) 0) w (i + 1) from (by rw [LX4_pass_7g, if_neg c9, if_neg c72])]
        exact ih (LX4_pass_25g r x 7 (mU M r 2 ((M r 2) + (1 : Int32))) 0) w (i + 1) H locs ls (by first | exact cnt_row (LX4_pass_25_row r x _ _ _) (cnt_put (by decide) hcnt) | exact gX4_bringHairs_cnt (cnt_row (LX4_pass_25_row r x _ _ _) (cnt_put (by decide) hcnt))) (by omega) (by omega) hP hS (lv_sub hl [1, 2, 3, 0] rfl)
      · refine lv_aload_n hx hb dX4_pass_75 rfl (lv_at hl 0 rfl) ?_
        refine xc_v (va_runV (As := []) (rest := []) ⟨hx, hb, hml, hown, hts⟩ (c_X4_bringHairs l D cy b n hn (LX4_pass_25g r x 7 (mU M r 2 ((M r 2) + (1 : Int32))) 0) r h_r) (cwV 0 hts gX4_pass_X4_bringHairs rfl rfl rfl (by decide +kernel) ⟨Nat.le_of_ble_eq_true rfl, Nat.le_of_ble_eq_true rfl⟩) (xPreV hP hK hX hS (kR_lt h_r hn) (cell4 h_r) rfl) rfl rfl hl.1 rfl (lv_room (Nat.le_of_ble_eq_true rfl)) dX4_pass_76 ⟨Nat.le_of_ble_eq_true rfl, Nat.le_of_ble_eq_true rfl⟩) hS (fun H locs hP hS => ?_)
        refine lv_iinc (v := nI (i + 1)) (lv' := [(3, .int (nI (i + 1))), (0, .ref (b + r)), (1, .int x), (2, .int w)]) hx hb dX4_pass_79 hl (k := 3) rfl (ixAdd (a := i) (c := 1) (d := i + 1) rfl rfl (by omega)) (by decide) rfl (fun ls hl => ?_)
        refine lv_goto (tgt := 7) hx hb dX4_pass_82 (by decide) ?_
        rw [show LX4_pass_7f r x (k + 1) M w i = LX4_pass_7f r x k (gX4_bringHairs (LX4_pass_25g r x 7 (mU M r 2 ((M r 2) + (1 : Int32))) 0) r) w (i + 1) from (by rw [LX4_pass_7f, if_neg c9, if_pos c72]), show LX4_pass_7g r x (k + 1) M w i = LX4_pass_7g r x k (gX4_bringHairs (LX4_pass_25g r x 7 (mU M r 2 ((M r 2) + (1 : Int32))) 0) r) w (i + 1) from (by rw [LX4_pass_7g, if_neg c9, if_pos c72])]
        exact ih (gX4_bringHairs (LX4_pass_25g r x 7 (mU M r 2 ((M r 2) + (1 : Int32))) 0) r) w (i + 1) H locs ls (by first | exact cnt_row (LX4_pass_25_row r x _ _ _) (cnt_put (by decide) hcnt) | exact gX4_bringHairs_cnt (cnt_row (LX4_pass_25_row r x _ _ _) (cnt_put (by decide) hcnt))) (by omega) (by omega) hP hS (lv_sub hl [1, 2, 3, 0] rfl)

def fX4_pass (M : Mem) (r : Nat) (x : Int32) : Int32 := LX4_pass_7f r x 201 M (M r 7) 0
def gX4_pass (M : Mem) (r : Nat) (x : Int32) : Mem := LX4_pass_7g r x 201 M (M r 7) 0
set_option maxHeartbeats 4000000 in
set_option maxRecDepth 100000 in
theorem c_X4_pass (l : Launch) (D : va_G) (cy : Nat → ClassId) (b n : Nat) (hn : 124 ≤ n) (M : Mem) (r : Nat) (x : Int32) (h_r : kd r = 4) (hcnt : CNT M r) (hx2 : UB x 200) : Met l yX4_pass wsX4_pass ({ frames := 2, cells := 0, slots := 0, locals := 42 } : Room) (CP D cy b n fT M [.ref (b + r), .int x]) (CQi D cy b n fT (fX4_pass M r x) (gX4_pass M r x)) 0 0 (fr b) := by
  refine Met.ofW (cc := cX4_pass) (maxL := 5) (ret := (some .int)) (by decide) rfl ?_
  intro p e s m args below meth c s₁ B hml hv
  obtain ⟨rfl, hP, hK, hX⟩ := hv
  have hx := B.exec
  have hb := B.bytes
  have hr := B.returns
  have hts := atoms_spec (ws := wsX4_pass) B.pre
  have hown : s.vm.findClass RX4 = some m.cls := findClass_of_methodNamed B.named
  have hlocks := B.notSynchronized
  have lk0 := hts (.fieldLink RX4 37 "HygrometerRoom$Room" "brought" "I") (by decide +kernel)
  have inc4 : ∀ w ∈ u_ws RX4 TX4 8, w ∈ wsX4_pass := by decide +kernel
  have hS : va_S (fr b) s.heap s.heap [] := va_S.rf
  have hl := lv_entry ([.ref (b + r), .int x]) (n := 5) (Nat.le_of_ble_eq_true rfl)
  rw [lg_entry_eq]
  generalize (lg_sl ([.ref (b + r), .int x]) ++ List.replicate (5 - (lg_sl ([.ref (b + r), .int x])).length) Slot.unset).toArray = ls at hl ⊢
  have hl : lv_has ls 5 [(0, .ref (b + r)), (1, .int x)] := hl
  refine lv_aload_n hx hb dX4_pass_0 rfl (lv_at hl 0 rfl) ?_
  refine xg (C := RX4) (T := TX4) (N := 8) (v := .int (M r 7)) hx hb hts inc4 hown hK hP (kR_lt h_r hn) (cell4 h_r) rfl 7 (by decide) lk0 (fun _ h => h) rfl dX4_pass_1 ?_
  refine lv_istore_n (lv' := [(2, .int (M r 7)), (0, .ref (b + r)), (1, .int x)]) hx hb dX4_pass_4 rfl hl (by decide) rfl (fun ls hl => ?_)
  refine lv_iconst (v := 0) hx hb dX4_pass_5 (by decide) ?_
  refine lv_istore_n (lv' := [(3, .int (0 : Int32)), (2, .int (M r 7)), (0, .ref (b + r)), (1, .int x)]) hx hb dX4_pass_6 rfl hl (by decide) rfl (fun ls hl => ?_)
  rw [show fX4_pass M r x = LX4_pass_7f r x 201 M (M r 7) 0 from (by rw [fX4_pass]), show gX4_pass M r x = LX4_pass_7g r x 201 M (M r 7) 0 from (by rw [gX4_pass])]
  exact cl_X4_pass_7 l D cy b n hn r x h_r hx2 hx hb hr hlocks hml hown hts hK hX 201 M (M r 7) 0 H locs ls hcnt (by omega) (by omega) hP hS (lv_sub hl [2, 3, 1, 0] rfl)
def LX4_countUsable_4f (r : Nat) : Nat → Mem → Int32 → Nat → Int32
  | 0, _, _, _ => 0
  | k + 1, M, u, j => if (M r 1) ≤ (nI (j)) then u else (if (fX1_flaw M (r + 1 + 1 + j)) = 0 then (LX4_countUsable_4f r k M (u + 1) (j + 1)) else (LX4_countUsable_4f r k M u (j + 1)))
set_option maxHeartbeats 4000000 in
set_option maxRecDepth 100000 in
theorem cl_X4_countUsable_4 (l : Launch) (D : va_G) (cy : Nat → ClassId) (b n : Nat) (hn : 124 ≤ n) (r : Nat) (h_r : kd r = 4) {p : Program} {e : Env} {s : State} {m : MethodId} {args : Array Value} {below : List Frame} {meth : Method} {c : Code} (hx : p.tables.exec = Jvm.exec) (hb : c.code = cX4_countUsable) (hr : meth.sig.returnType = (some .int)) (hlocks : meth.locks = false) (hml : c.maxLocals = 3) (hown : s.vm.findClass RX4 = some m.cls) (hts : ∀ w ∈ wsX4_countUsable, w.before args s = true) (hK : va_K D vwCl (tysW cy) s) (hX : SX b s)  : ∀ (k : Nat) (M : Mem) (u : Int32) (j : Nat) (H : Heap) (locs : List Loc) (ls : Array Slot), CNT M r → j ≤ 6 → 7 ≤ j + k → va_P D vwCl (wL cy b fT M n) H → va_S (fr b) s.heap H locs → lv_has ls 3 [(0, .ref (b + r)), (1, .int u), (2, .int (nI (j)))] → W p l e (headSpec wsX4_countUsable ({ frames := 1, cells := 0, slots := 0, locals := 20 } : Room)).room s m args below meth c H locs 0 0 (MQ below (CQi D cy b n fT (LX4_countUsable_4f r k M u j) M) args s 0 0 (fr b)) (F0 m 4 ls []) := by
  have lk0 := hts (.fieldLink RX4 18 "HygrometerRoom$Room" "count" "I") (by decide +kernel)
  have lk1 := hts (.fieldLink RX4 11 "HygrometerRoom$Room" "instruments" "[LHygrometerRoom$Instrument;") (by decide +kernel)
  have inc4 : ∀ w ∈ u_ws RX4 TX4 8, w ∈ wsX4_countUsable := by decide +kernel
  intro k
  induction k with
  | zero => intro M u j H locs ls hcnt hj hk hP hS hl; omega
  | succ k ih =>
    intro M u j H locs ls hcnt hj hk hP hS hl
    refine lv_iload_n hx hb dX4_countUsable_4 rfl (lv_at hl 2 rfl) ?_
    refine lv_aload_n hx hb dX4_countUsable_5 rfl (lv_at hl 0 rfl) ?_
    refine xg (C := RX4) (T := TX4) (N := 8) (v := .int (M r 1)) hx hb hts inc4 hown hK hP (kR_lt h_r hn) (cell4 h_r) rfl 1 (by decide) lk0 (fun _ h => h) rfl dX4_countUsable_6 ?_
    refine lv_icmp_ge (tgt := 33) hx hb dX4_countUsable_9 (by decide) (fun c9 => ?_) (fun c9 => ?_)
    · refine lv_iload_n hx hb dX4_countUsable_33 rfl (lv_at hl 1 rfl) ?_
      exact xe_i hx hb hr hlocks hP hS rfl rfl (by rw [LX4_countUsable_4f, if_pos c9] <;> rfl) (Nat.le_of_ble_eq_true rfl) (Nat.le_of_ble_eq_true rfl) dX4_countUsable_34
    · have hj6 := ub_lt hcnt hj c9
      refine lv_aload_n hx hb dX4_countUsable_12 rfl (lv_at hl 0 rfl) ?_
      refine xg (C := RX4) (T := TX4) (N := 8) (v := .ref (b + (r + 1))) hx hb hts inc4 hown hK hP (kR_lt h_r hn) (cell4 h_r) rfl 0 (by decide) lk1 (fun _ h => h) rfl dX4_countUsable_13 ?_
      refine lv_iload_n hx hb dX4_countUsable_16 rfl (lv_at hl 2 rfl) ?_
      refine xnl (j := j) hx hb hK hP (kA_lt h_r hn) (kd_arr h_r) (ixIn (a := j) rfl (by first | decide | (simp only [lenOf]; omega) | omega) (by decide)) (ixAt (a := j) rfl (by omega)) dX4_countUsable_17 ?_
      refine xc_i (va_runV (As := []) (rest := []) ⟨hx, hb, hml, hown, hts⟩ (c_X1_flaw l D cy b n hn M (r + 1 + 1 + j) (kd_ins h_r (by omega))) (cwV 0 hts gX4_countUsable_X1_flaw rfl rfl rfl (by decide +kernel) ⟨Nat.le_of_ble_eq_true rfl, Nat.le_of_ble_eq_true rfl⟩) (xPreV hP hK hX hS (kI_lt (kd_ins h_r (by omega)) hn) (cell1 (kd_ins h_r (by omega))) rfl) rfl rfl hl.1 rfl (lv_room (Nat.le_of_ble_eq_true rfl)) dX4_countUsable_18 ⟨Nat.le_of_ble_eq_true rfl, Nat.le_of_ble_eq_true rfl⟩) hS (fun H locs hP hS => ?_)
      refine lv_if_ne (tgt := 27) hx hb dX4_countUsable_21 (by decide) (fun c21 => ?_) (fun c21 => ?_)
      · refine lv_iinc (v := nI (j + 1)) (lv' := [(2, .int (nI (j + 1))), (0, .ref (b + r)), (1, .int u)]) hx hb dX4_countUsable_27 hl (k := 2) rfl (ixAdd (a := j) (c := 1) (d := j + 1) rfl rfl (by omega)) (by decide) rfl (fun ls hl => ?_)
        refine lv_goto (tgt := 4) hx hb dX4_countUsable_30 (by decide) ?_
        rw [show LX4_countUsable_4f r (k + 1) M u j = LX4_countUsable_4f r k M u (j + 1) from (by rw [LX4_countUsable_4f, if_neg c9, if_neg c21])]
        exact ih M u (j + 1) H locs ls hcnt (by omega) (by omega) hP hS (lv_sub hl [1, 2, 0] rfl)
      · refine lv_iinc (v := u + 1) (lv' := [(1, .int (u + 1)), (0, .ref (b + r)), (2, .int (nI (j)))]) hx hb dX4_countUsable_24 hl (k := 1) rfl rfl (by decide) rfl (fun ls hl => ?_)
        refine lv_iinc (v := nI (j + 1)) (lv' := [(2, .int (nI (j + 1))), (1, .int (u + 1)), (0, .ref (b + r))]) hx hb dX4_countUsable_27 hl (k := 2) rfl (ixAdd (a := j) (c := 1) (d := j + 1) rfl rfl (by omega)) (by decide) rfl (fun ls hl => ?_)
        refine lv_goto (tgt := 4) hx hb dX4_countUsable_30 (by decide) ?_
        rw [show LX4_countUsable_4f r (k + 1) M u j = LX4_countUsable_4f r k M (u + 1) (j + 1) from (by rw [LX4_countUsable_4f, if_neg c9, if_pos c21])]
        exact ih M (u + 1) (j + 1) H locs ls hcnt (by omega) (by omega) hP hS (lv_sub hl [2, 1, 0] rfl)

def fX4_countUsable (M : Mem) (r : Nat) : Int32 := LX4_countUsable_4f r 7 M (0 : Int32) 0
set_option maxHeartbeats 4000000 in
set_option maxRecDepth 100000 in
theorem c_X4_countUsable (l : Launch) (D : va_G) (cy : Nat → ClassId) (b n : Nat) (hn : 124 ≤ n) (M : Mem) (r : Nat) (h_r : kd r = 4) (hcnt : CNT M r) : Met l yX4_countUsable wsX4_countUsable ({ frames := 1, cells := 0, slots := 0, locals := 20 } : Room) (CP D cy b n fT M [.ref (b + r)]) (CQi D cy b n fT (fX4_countUsable M r) M) 0 0 (fr b) := by
  refine Met.ofW (cc := cX4_countUsable) (maxL := 3) (ret := (some .int)) (by decide) rfl ?_
  intro p e s m args below meth c s₁ B hml hv
  obtain ⟨rfl, hP, hK, hX⟩ := hv
  have hx := B.exec
  have hb := B.bytes
  have hr := B.returns
  have hts := atoms_spec (ws := wsX4_countUsable) B.pre
  have hown : s.vm.findClass RX4 = some m.cls := findClass_of_methodNamed B.named
  have hlocks := B.notSynchronized
  have hS : va_S (fr b) s.heap s.heap [] := va_S.rf
  have hl := lv_entry ([.ref (b + r)]) (n := 3) (Nat.le_of_ble_eq_true rfl)
  rw [lg_entry_eq]
  generalize (lg_sl ([.ref (b + r)]) ++ List.replicate (3 - (lg_sl ([.ref (b + r)])).length) Slot.unset).toArray = ls at hl ⊢
  have hl : lv_has ls 3 [(0, .ref (b + r))] := hl
  refine lv_iconst (v := 0) hx hb dX4_countUsable_0 (by decide) ?_
  refine lv_istore_n (lv' := [(1, .int (0 : Int32)), (0, .ref (b + r))]) hx hb dX4_countUsable_1 rfl hl (by decide) rfl (fun ls hl => ?_)
  refine lv_iconst (v := 0) hx hb dX4_countUsable_2 (by decide) ?_
  refine lv_istore_n (lv' := [(2, .int (0 : Int32)), (1, .int (0 : Int32)), (0, .ref (b + r))]) hx hb dX4_countUsable_3 rfl hl (by decide) rfl (fun ls hl => ?_)
  rw [show fX4_countUsable M r = LX4_countUsable_4f r 7 M (0 : Int32) 0 from (by rw [fX4_countUsable])]
  exact cl_X4_countUsable_4 l D cy b n hn r h_r hx hb hr hlocks hml hown hts hK hX 7 M (0 : Int32) 0 H locs ls hcnt (by omega) (by omega) hP hS (lv_sub hl [2, 1, 0] rfl)
def LX4_blended_6f (r : Nat) : Nat → Mem → Int32 → Int32 → Nat → Int32
  | 0, _, _, _, _ => 0
  | k + 1, M, u, w, j => if (M r 1) ≤ (nI (j)) then (if w = 0 then ((-1) : Int32) else (fX7_quotient M u w)) else (LX4_blended_6f r k M (u + ((fX4_reading M r (r + 1 + 1 + j)) * (fX1_weight M (r + 1 + 1 + j)))) (w + (fX1_weight M (r + 1 + 1 + j))) (j + 1))
set_option maxHeartbeats 4000000 in
set_option maxRecDepth 100000 in
theorem cl_X4_blended_6 (l : Launch) (D : va_G) (cy : Nat → ClassId) (b n : Nat) (hn : 124 ≤ n) (r : Nat) (h_r : kd r = 4) {p : Program} {e : Env} {s : State} {m : MethodId} {args : Array Value} {below : List Frame} {meth : Method} {c : Code} (hx : p.tables.exec = Jvm.exec) (hb : c.code = cX4_blended) (hr : meth.sig.returnType = (some .int)) (hlocks : meth.locks = false) (hml : c.maxLocals = 5) (hown : s.vm.findClass RX4 = some m.cls) (hts : ∀ w ∈ wsX4_blended, w.before args s = true) (hK : va_K D vwCl (tysW cy) s) (hX : SX b s)  : ∀ (k : Nat) (M : Mem) (u : Int32) (w : Int32) (j : Nat) (H : Heap) (locs : List Loc) (ls : Array Slot), CNT M r → j ≤ 6 → 7 ≤ j + k → va_P D vwCl (wL cy b fT M n) H → va_S (fr b) s.heap H locs → lv_has ls 5 [(0, .ref (b + r)), (1, .int u), (2, .int w), (3, .int (nI (j)))] → W p l e (headSpec wsX4_blended ({ frames := 5, cells := 0, slots := 0, locals := 105 } : Room)).room s m args below meth c H locs 0 0 (MQ below (CQi D cy b n fT (LX4_blended_6f r k M u w j) M) args s 0 0 (fr b)) (F0 m 6 ls []) := by
  have lk0 := hts (.fieldLink RX4 18 "HygrometerRoom$Room" "count" "I") (by decide +kernel)
  have lk1 := hts (.static yX7_quotient) (by decide +kernel)
  have lk2 := hts (.initialized RX7) (by decide +kernel)
  have lk3 := hts (.fieldLink RX4 11 "HygrometerRoom$Room" "instruments" "[LHygrometerRoom$Instrument;") (by decide +kernel)
  have inc4 : ∀ w ∈ u_ws RX4 TX4 8, w ∈ wsX4_blended := by decide +kernel
  intro k
  induction k with
  | zero => intro M u w j H locs ls hcnt hj hk hP hS hl; omega
  | succ k ih =>
    intro M u w j H locs ls hcnt hj hk hP hS hl
    refine lv_iload_n hx hb dX4_blended_6 rfl (lv_at hl 3 rfl) ?_
    refine lv_aload_n hx hb dX4_blended_7 rfl (lv_at hl 0 rfl) ?_
    refine xg (C := RX4) (T := TX4) (N := 8) (v := .int (M r 1)) hx hb hts inc4 hown hK hP (kR_lt h_r hn) (cell4 h_r) rfl 1 (by decide) lk0 (fun _ h => h) rfl dX4_blended_8 ?_
    refine lv_icmp_ge (tgt := 52) hx hb dX4_blended_11 (by decide) (fun c11 => ?_) (fun c11 => ?_)
    · refine lv_iload_n hx hb dX4_blended_52 rfl (lv_at hl 2 rfl) ?_
      refine lv_if_ne (tgt := 60) hx hb dX4_blended_53 (by decide) (fun c53 => ?_) (fun c53 => ?_)
      · refine lv_iload_n hx hb dX4_blended_60 rfl (lv_at hl 1 rfl) ?_
        refine lv_iload_n hx hb dX4_blended_61 rfl (lv_at hl 2 rfl) ?_
        refine xc_i (va_runSN (As := [.int u, .int w]) (rest := []) ⟨hx, hb, hml, hown, hts⟩ (c_X7_quotient l D cy b n hn M u w) ⟨va_cnB 2 hts gX4_blended_X7_quotient_n90 rfl rfl rfl (hX.2.2.2.2.2.1 (RX4, 90, yX7_quotient) (by decide +kernel)) lk2 (by decide +kernel) ⟨Nat.le_of_ble_eq_true rfl, Nat.le_of_ble_eq_true rfl⟩, lk1, trivial⟩ (xPreS hP hK hX hS) rfl rfl hl.1 rfl (lv_room (Nat.le_of_ble_eq_true rfl)) dX4_blended_62 ⟨Nat.le_of_ble_eq_true rfl, Nat.le_of_ble_eq_true rfl⟩) hS (fun H locs hP hS => ?_)
        exact xe_i hx hb hr hlocks hP hS rfl rfl (by rw [LX4_blended_6f, if_pos c11, if_neg c53] <;> rfl) (Nat.le_of_ble_eq_true rfl) (Nat.le_of_ble_eq_true rfl) dX4_blended_65
      · refine lv_iconst (v := (-1)) hx hb dX4_blended_56 (by decide) ?_
        refine lv_goto (tgt := 65) hx hb dX4_blended_57 (by decide) ?_
        exact xe_i hx hb hr hlocks hP hS rfl rfl (by rw [LX4_blended_6f, if_pos c11, if_pos c53] <;> rfl) (Nat.le_of_ble_eq_true rfl) (Nat.le_of_ble_eq_true rfl) dX4_blended_65
    · have hj6 := ub_lt hcnt hj c11
      refine lv_aload_n hx hb dX4_blended_14 rfl (lv_at hl 0 rfl) ?_
      refine xg (C := RX4) (T := TX4) (N := 8) (v := .ref (b + (r + 1))) hx hb hts inc4 hown hK hP (kR_lt h_r hn) (cell4 h_r) rfl 0 (by decide) lk3 (fun _ h => h) rfl dX4_blended_15 ?_
      refine lv_iload_n hx hb dX4_blended_18 rfl (lv_at hl 3 rfl) ?_
      refine xnl (j := j) hx hb hK hP (kA_lt h_r hn) (kd_arr h_r) (ixIn (a := j) rfl (by first | decide | (simp only [lenOf]; omega) | omega) (by decide)) (ixAt (a := j) rfl (by omega)) dX4_blended_19 ?_
      refine xc_i (va_runV (As := []) (rest := []) ⟨hx, hb, hml, hown, hts⟩ (c_X1_weight l D cy b n hn M (r + 1 + 1 + j) (kd_ins h_r (by omega))) (cwV 0 hts gX4_blended_X1_weight rfl rfl rfl (by decide +kernel) ⟨Nat.le_of_ble_eq_true rfl, Nat.le_of_ble_eq_true rfl⟩) (xPreV hP hK hX hS (kI_lt (kd_ins h_r (by omega)) hn) (cell1 (kd_ins h_r (by omega))) rfl) rfl rfl hl.1 rfl (lv_room (Nat.le_of_ble_eq_true rfl)) dX4_blended_20 ⟨Nat.le_of_ble_eq_true rfl, Nat.le_of_ble_eq_true rfl⟩) hS (fun H locs hP hS => ?_)
      refine lv_istore (lv' := [(4, .int (fX1_weight M (r + 1 + 1 + j))), (0, .ref (b + r)), (1, .int u), (2, .int w), (3, .int (nI (j)))]) hx hb dX4_blended_23 hl (by decide) rfl (fun ls hl => ?_)
      refine lv_iload_n hx hb dX4_blended_25 rfl (lv_at hl 2 rfl) ?_
      refine lv_aload_n hx hb dX4_blended_26 rfl (lv_at hl 1 rfl) ?_
      refine lv_aload_n hx hb dX4_blended_27 rfl (lv_at hl 1 rfl) ?_
      refine xg (C := RX4) (T := TX4) (N := 8) (v := .ref (b + (r + 1))) hx hb hts inc4 hown hK hP (kR_lt h_r hn) (cell4 h_r) rfl 0 (by decide) lk3 (fun _ h => h) rfl dX4_blended_28 ?_
      refine lv_iload_n hx hb dX4_blended_31 rfl (lv_at hl 4 rfl) ?_
      refine xnl (j := j) hx hb hK hP (kA_lt h_r hn) (kd_arr h_r) (ixIn (a := j) rfl (by first | decide | (simp only [lenOf]; omega) | omega) (by decide)) (ixAt (a := j) rfl (by omega)) dX4_blended_32 ?_
      refine xc_i (va_runV (As := [.ref (b + (r + 1 + 1 + j))]) (rest := [.int u]) ⟨hx, hb, hml, hown, hts⟩ (c_X4_reading l D cy b n hn M r (r + 1 + 1 + j) h_r (kd_ins h_r (by omega))) (cwV 1 hts gX4_blended_X4_reading rfl rfl rfl (by decide +kernel) ⟨Nat.le_of_ble_eq_true rfl, Nat.le_of_ble_eq_true rfl⟩) (xPreV hP hK hX hS (kR_lt h_r hn) (cell4 h_r) rfl) rfl rfl hl.1 rfl (lv_room (Nat.le_of_ble_eq_true rfl)) dX4_blended_33 ⟨Nat.le_of_ble_eq_true rfl, Nat.le_of_ble_eq_true rfl⟩) hS (fun H locs hP hS => ?_)
      refine lv_iload hx hb dX4_blended_36 (lv_at hl 0 rfl) ?_
      refine lv_imul hx hb dX4_blended_38 ?_
      refine lv_iadd hx hb dX4_blended_39 ?_
      refine lv_istore_n (lv' := [(1, .int (u + ((fX4_reading M r (r + 1 + 1 + j)) * (fX1_weight M (r + 1 + 1 + j))))), (4, .int (fX1_weight M (r + 1 + 1 + j))), (0, .ref (b + r)), (2, .int w), (3, .int (nI (j)))]) hx hb dX4_blended_40 rfl hl (by decide) rfl (fun ls hl => ?_)
      refine lv_iload_n hx hb dX4_blended_41 rfl (lv_at hl 3 rfl) ?_
      refine lv_iload hx hb dX4_blended_42 (lv_at hl 1 rfl) ?_
      refine lv_iadd hx hb dX4_blended_44 ?_
      refine lv_istore_n (lv' := [(2, .int (w + (fX1_weight M (r + 1 + 1 + j)))), (1, .int (u + ((fX4_reading M r (r + 1 + 1 + j)) * (fX1_weight M (r + 1 + 1 + j))))), (4, .int (fX1_weight M (r + 1 + 1 + j))), (0, .ref (b + r)), (3, .int (nI (j)))]) hx hb dX4_blended_45 rfl hl (by decide) rfl (fun ls hl => ?_)
      refine lv_iinc (v := nI (j + 1)) (lv' := [(3, .int (nI (j + 1))), (2, .int (w + (fX1_weight M (r + 1 + 1 + j)))), (1, .int (u + ((fX4_reading M r (r + 1 + 1 + j)) * (fX1_weight M (r + 1 + 1 + j))))), (4, .int (fX1_weight M (r + 1 + 1 + j))), (0, .ref (b + r))]) hx hb dX4_blended_46 hl (k := 4) rfl (ixAdd (a := j) (c := 1) (d := j + 1) rfl rfl (by omega)) (by decide) rfl (fun ls hl => ?_)
      refine lv_goto (tgt := 6) hx hb dX4_blended_49 (by decide) ?_
      rw [show LX4_blended_6f r (k + 1) M u w j = LX4_blended_6f r k M (u + ((fX4_reading M r (r + 1 + 1 + j)) * (fX1_weight M (r + 1 + 1 + j)))) (w + (fX1_weight M (r + 1 + 1 + j))) (j + 1) from (by rw [LX4_blended_6f, if_neg c11])]
      exact ih M (u + ((fX4_reading M r (r + 1 + 1 + j)) * (fX1_weight M (r + 1 + 1 + j)))) (w + (fX1_weight M (r + 1 + 1 + j))) (j + 1) H locs ls hcnt (by omega) (by omega) hP hS (lv_sub hl [4, 2, 1, 0] rfl)

def fX4_blended (M : Mem) (r : Nat) : Int32 := LX4_blended_6f r 7 M (0 : Int32) (0 : Int32) 0
set_option maxHeartbeats 4000000 in
set_option maxRecDepth 100000 in
theorem c_X4_blended (l : Launch) (D : va_G) (cy : Nat → ClassId) (b n : Nat) (hn : 124 ≤ n) (M : Mem) (r : Nat) (h_r : kd r = 4) (hcnt : CNT M r) : Met l yX4_blended wsX4_blended ({ frames := 5, cells := 0, slots := 0, locals := 105 } : Room) (CP D cy b n fT M [.ref (b + r)]) (CQi D cy b n fT (fX4_blended M r) M) 0 0 (fr b) := by
  refine Met.ofW (cc := cX4_blended) (maxL := 5) (ret := (some .int)) (by decide) rfl ?_
  intro p e s m args below meth c s₁ B hml hv
  obtain ⟨rfl, hP, hK, hX⟩ := hv
  have hx := B.exec
  have hb := B.bytes
  have hr := B.returns
  have hts := atoms_spec (ws := wsX4_blended) B.pre
  have hown : s.vm.findClass RX4 = some m.cls := findClass_of_methodNamed B.named
  have hlocks := B.notSynchronized
  have hS : va_S (fr b) s.heap s.heap [] := va_S.rf
  have hl := lv_entry ([.ref (b + r)]) (n := 5) (Nat.le_of_ble_eq_true rfl)
  rw [lg_entry_eq]
  generalize (lg_sl ([.ref (b + r)]) ++ List.replicate (5 - (lg_sl ([.ref (b + r)])).length) Slot.unset).toArray = ls at hl ⊢
  have hl : lv_has ls 5 [(0, .ref (b + r))] := hl
  refine lv_iconst (v := 0) hx hb dX4_blended_0 (by decide) ?_
  refine lv_istore_n (lv' := [(1, .int (0 : Int32)), (0, .ref (b + r))]) hx hb dX4_blended_1 rfl hl (by decide) rfl (fun ls hl => ?_)
  refine lv_iconst (v := 0) hx hb dX4_blended_2 (by decide) ?_
  refine lv_istore_n (lv' := [(2, .int (0 : Int32)), (1, .int (0 : Int32)), (0, .ref (b + r))]) hx hb dX4_blended_3 rfl hl (by decide) rfl (fun ls hl => ?_)
  refine lv_iconst (v := 0) hx hb dX4_blended_4 (by decide) ?_
  refine lv_istore_n (lv' := [(3, .int (0 : Int32)), (2, .int (0 : Int32)), (1, .int (0 : Int32)), (0, .ref (b + r))]) hx hb dX4_blended_5 rfl hl (by decide) rfl (fun ls hl => ?_)
  rw [show fX4_blended M r = LX4_blended_6f r 7 M (0 : Int32) (0 : Int32) 0 from (by rw [fX4_blended])]
  exact cl_X4_blended_6 l D cy b n hn r h_r hx hb hr hlocks hml hown hts hK hX 7 M (0 : Int32) (0 : Int32) 0 H locs ls hcnt (by omega) (by omega) hP hS (lv_sub hl [3, 2, 1, 0] rfl)
def LX4_nearest_6f (r : Nat) : Nat → Mem → Int32 → Int32 → Nat → Int32
  | 0, _, _, _, _ => 0
  | k + 1, M, u, w, j => if (M r 1) ≤ (nI (j)) then u else (if (fX1_flaw M (r + 1 + 1 + j)) = 0 then (if u = ((-1) : Int32) then (LX4_nearest_6f r k M (nI (j)) (xabs ((fX4_reading M r (r + 1 + 1 + j)) - (M r 3))) (j + 1)) else (if w ≤ (xabs ((fX4_reading M r (r + 1 + 1 + j)) - (M r 3))) then (LX4_nearest_6f r k M u w (j + 1)) else (LX4_nearest_6f r k M (nI (j)) (xabs ((fX4_reading M r (r + 1 + 1 + j)) - (M r 3))) (j + 1)))) else (LX4_nearest_6f r k M u w (j + 1)))
set_option maxHeartbeats 4000000 in
set_option maxRecDepth 100000 in
theorem cl_X4_nearest_6 (l : Launch) (D : va_G) (cy : Nat → ClassId) (b n : Nat) (hn : 124 ≤ n) (r : Nat) (h_r : kd r = 4) {p : Program} {e : Env} {s : State} {m : MethodId} {args : Array Value} {below : List Frame} {meth : Method} {c : Code} (hx : p.tables.exec = Jvm.exec) (hb : c.code = cX4_nearest) (hr : meth.sig.returnType = (some .int)) (hlocks : meth.locks = false) (hml : c.maxLocals = 5) (hown : s.vm.findClass RX4 = some m.cls) (hts : ∀ w ∈ wsX4_nearest, w.before args s = true) (hK : va_K D vwCl (tysW cy) s) (hX : SX b s)  : ∀ (k : Nat) (M : Mem) (u : Int32) (w : Int32) (j : Nat) (H : Heap) (locs : List Loc) (ls : Array Slot), CNT M r → j ≤ 6 → 7 ≤ j + k → va_P D vwCl (wL cy b fT M n) H → va_S (fr b) s.heap H locs → lv_has ls 5 [(0, .ref (b + r)), (1, .int u), (2, .int w), (3, .int (nI (j)))] → W p l e (headSpec wsX4_nearest ({ frames := 5, cells := 0, slots := 0, locals := 105 } : Room)).room s m args below meth c H locs 0 0 (MQ below (CQi D cy b n fT (LX4_nearest_6f r k M u w j) M) args s 0 0 (fr b)) (F0 m 6 ls []) := by
  have lk0 := hts (.fieldLink RX4 18 "HygrometerRoom$Room" "count" "I") (by decide +kernel)
  have lk1 := hts (.fieldLink RX4 11 "HygrometerRoom$Room" "instruments" "[LHygrometerRoom$Instrument;") (by decide +kernel)
  have lk2 := hts (.fieldLink RX4 25 "HygrometerRoom$Room" "humidity" "I") (by decide +kernel)
  have lk3 := hts (.methodLink RX4 120 Lib.Math.abs.name) (by decide +kernel)
  have lk4 := hts (.static Lib.Math.abs.name) (by decide +kernel)
  have lk5 := hts (.initialized "java/lang/Math") (by decide +kernel)
  have lk6 := hts (.code Lib.Math.abs.name Lib.Math.abs.code 1 (some .int)) (by decide +kernel)
  have inc4 : ∀ w ∈ u_ws RX4 TX4 8, w ∈ wsX4_nearest := by decide +kernel
  intro k
  induction k with
  | zero => intro M u w j H locs ls hcnt hj hk hP hS hl; omega
  | succ k ih =>
    intro M u w j H locs ls hcnt hj hk hP hS hl
    refine lv_iload_n hx hb dX4_nearest_6 rfl (lv_at hl 3 rfl) ?_
    refine lv_aload_n hx hb dX4_nearest_7 rfl (lv_at hl 0 rfl) ?_
    refine xg (C := RX4) (T := TX4) (N := 8) (v := .int (M r 1)) hx hb hts inc4 hown hK hP (kR_lt h_r hn) (cell4 h_r) rfl 1 (by decide) lk0 (fun _ h => h) rfl dX4_nearest_8 ?_
    refine lv_icmp_ge (tgt := 68) hx hb dX4_nearest_11 (by decide) (fun c11 => ?_) (fun c11 => ?_)
    · refine lv_iload_n hx hb dX4_nearest_68 rfl (lv_at hl 1 rfl) ?_
      exact xe_i hx hb hr hlocks hP hS rfl rfl (by rw [LX4_nearest_6f, if_pos c11] <;> rfl) (Nat.le_of_ble_eq_true rfl) (Nat.le_of_ble_eq_true rfl) dX4_nearest_69
    · have hj6 := ub_lt hcnt hj c11
      refine lv_aload_n hx hb dX4_nearest_14 rfl (lv_at hl 0 rfl) ?_
      refine lv_aload_n hx hb dX4_nearest_15 rfl (lv_at hl 0 rfl) ?_
      refine xg (C := RX4) (T := TX4) (N := 8) (v := .ref (b + (r + 1))) hx hb hts inc4 hown hK hP (kR_lt h_r hn) (cell4 h_r) rfl 0 (by decide) lk1 (fun _ h => h) rfl dX4_nearest_16 ?_
      refine lv_iload_n hx hb dX4_nearest_19 rfl (lv_at hl 3 rfl) ?_
      refine xnl (j := j) hx hb hK hP (kA_lt h_r hn) (kd_arr h_r) (ixIn (a := j) rfl (by first | decide | (simp only [lenOf]; omega) | omega) (by decide)) (ixAt (a := j) rfl (by omega)) dX4_nearest_20 ?_
      refine xc_i (va_runV (As := [.ref (b + (r + 1 + 1 + j))]) (rest := []) ⟨hx, hb, hml, hown, hts⟩ (c_X4_reading l D cy b n hn M r (r + 1 + 1 + j) h_r (kd_ins h_r (by omega))) (cwV 1 hts gX4_nearest_X4_reading rfl rfl rfl (by decide +kernel) ⟨Nat.le_of_ble_eq_true rfl, Nat.le_of_ble_eq_true rfl⟩) (xPreV hP hK hX hS (kR_lt h_r hn) (cell4 h_r) rfl) rfl rfl hl.1 rfl (lv_room (Nat.le_of_ble_eq_true rfl)) dX4_nearest_21 ⟨Nat.le_of_ble_eq_true rfl, Nat.le_of_ble_eq_true rfl⟩) hS (fun H locs hP hS => ?_)
      refine lv_aload_n hx hb dX4_nearest_24 rfl (lv_at hl 0 rfl) ?_
      refine xg (C := RX4) (T := TX4) (N := 8) (v := .int (M r 3)) hx hb hts inc4 hown hK hP (kR_lt h_r hn) (cell4 h_r) rfl 3 (by decide) lk2 (fun _ h => h) rfl dX4_nearest_25 ?_
      refine lv_isub hx hb dX4_nearest_28 ?_
      refine x_mabs hx hb (hml.trans hl.1.symm) hown lk3 lk4 lk5 lk6 (Nat.le_of_ble_eq_true rfl) (Nat.le_of_ble_eq_true rfl) (Nat.le_of_ble_eq_true rfl) (Nat.le_of_ble_eq_true rfl) dX4_nearest_29 ?_
      refine lv_istore (lv' := [(4, .int (xabs ((fX4_reading M r (r + 1 + 1 + j)) - (M r 3)))), (0, .ref (b + r)), (1, .int u), (2, .int w), (3, .int (nI (j)))]) hx hb dX4_nearest_32 hl (by decide) rfl (fun ls hl => ?_)
      refine lv_aload_n hx hb dX4_nearest_34 rfl (lv_at hl 1 rfl) ?_
      refine xg (C := RX4) (T := TX4) (N := 8) (v := .ref (b + (r + 1))) hx hb hts inc4 hown hK hP (kR_lt h_r hn) (cell4 h_r) rfl 0 (by decide) lk1 (fun _ h => h) rfl dX4_nearest_35 ?_
      refine lv_iload_n hx hb dX4_nearest_38 rfl (lv_at hl 4 rfl) ?_
      refine xnl (j := j) hx hb hK hP (kA_lt h_r hn) (kd_arr h_r) (ixIn (a := j) rfl (by first | decide | (simp only [lenOf]; omega) | omega) (by decide)) (ixAt (a := j) rfl (by omega)) dX4_nearest_39 ?_
      refine xc_i (va_runV (As := []) (rest := []) ⟨hx, hb, hml, hown, hts⟩ (c_X1_flaw l D cy b n hn M (r + 1 + 1 + j) (kd_ins h_r (by omega))) (cwV 0 hts gX4_nearest_X1_flaw rfl rfl rfl (by decide +kernel) ⟨Nat.le_of_ble_eq_true rfl, Nat.le_of_ble_eq_true rfl⟩) (xPreV hP hK hX hS (kI_lt (kd_ins h_r (by omega)) hn) (cell1 (kd_ins h_r (by omega))) rfl) rfl rfl hl.1 rfl (lv_room (Nat.le_of_ble_eq_true rfl)) dX4_nearest_40 ⟨Nat.le_of_ble_eq_true rfl, Nat.le_of_ble_eq_true rfl⟩) hS (fun H locs hP hS => ?_)
      refine lv_if_ne (tgt := 62) hx hb dX4_nearest_43 (by decide) (fun c43 => ?_) (fun c43 => ?_)
      · refine lv_iinc (v := nI (j + 1)) (lv' := [(3, .int (nI (j + 1))), (4, .int (xabs ((fX4_reading M r (r + 1 + 1 + j)) - (M r 3)))), (0, .ref (b + r)), (1, .int u), (2, .int w)]) hx hb dX4_nearest_62 hl (k := 4) rfl (ixAdd (a := j) (c := 1) (d := j + 1) rfl rfl (by omega)) (by decide) rfl (fun ls hl => ?_)
        refine lv_goto (tgt := 6) hx hb dX4_nearest_65 (by decide) ?_
        rw [show LX4_nearest_6f r (k + 1) M u w j = LX4_nearest_6f r k M u w (j + 1) from (by rw [LX4_nearest_6f, if_neg c11, if_neg c43])]
        exact ih M u w (j + 1) H locs ls hcnt (by omega) (by omega) hP hS (lv_sub hl [2, 3, 4, 0] rfl)
      · refine lv_iload_n hx hb dX4_nearest_46 rfl (lv_at hl 2 rfl) ?_
        refine lv_iconst (v := (-1)) hx hb dX4_nearest_47 (by decide) ?_
        refine lv_icmp_eq (tgt := 57) hx hb dX4_nearest_48 (by decide) (fun c48 => ?_) (fun c48 => ?_)
        · refine lv_iload_n hx hb dX4_nearest_57 rfl (lv_at hl 4 rfl) ?_
          refine lv_istore_n (lv' := [(1, .int (nI (j))), (4, .int (xabs ((fX4_reading M r (r + 1 + 1 + j)) - (M r 3)))), (0, .ref (b + r)), (2, .int w), (3, .int (nI (j)))]) hx hb dX4_nearest_58 rfl hl (by decide) rfl (fun ls hl => ?_)
          refine lv_iload hx hb dX4_nearest_59 (lv_at hl 1 rfl) ?_
          refine lv_istore_n (lv' := [(2, .int (xabs ((fX4_reading M r (r + 1 + 1 + j)) - (M r 3)))), (1, .int (nI (j))), (4, .int (xabs ((fX4_reading M r (r + 1 + 1 + j)) - (M r 3)))), (0, .ref (b + r)), (3, .int (nI (j)))]) hx hb dX4_nearest_61 rfl hl (by decide) rfl (fun ls hl => ?_)
          refine lv_iinc (v := nI (j + 1)) (lv' := [(3, .int (nI (j + 1))), (2, .int (xabs ((fX4_reading M r (r + 1 + 1 + j)) - (M r 3)))), (1, .int (nI (j))), (4, .int (xabs ((fX4_reading M r (r + 1 + 1 + j)) - (M r 3)))), (0, .ref (b + r))]) hx hb dX4_nearest_62 hl (k := 4) rfl (ixAdd (a := j) (c := 1) (d := j + 1) rfl rfl (by omega)) (by decide) rfl (fun ls hl => ?_)
          refine lv_goto (tgt := 6) hx hb dX4_nearest_65 (by decide) ?_
          rw [show LX4_nearest_6f r (k + 1) M u w j = LX4_nearest_6f r k M (nI (j)) (xabs ((fX4_reading M r (r + 1 + 1 + j)) - (M r 3))) (j + 1) from (by rw [LX4_nearest_6f, if_neg c11, if_pos c43, if_pos c48])]
          exact ih M (nI (j)) (xabs ((fX4_reading M r (r + 1 + 1 + j)) - (M r 3))) (j + 1) H locs ls hcnt (by omega) (by omega) hP hS (lv_sub hl [4, 2, 1, 0] rfl)
        · refine lv_iload hx hb dX4_nearest_51 (lv_at hl 0 rfl) ?_
          refine lv_iload_n hx hb dX4_nearest_53 rfl (lv_at hl 3 rfl) ?_
          refine lv_icmp_ge (tgt := 62) hx hb dX4_nearest_54 (by decide) (fun c54 => ?_) (fun c54 => ?_)
          · refine lv_iinc (v := nI (j + 1)) (lv' := [(3, .int (nI (j + 1))), (4, .int (xabs ((fX4_reading M r (r + 1 + 1 + j)) - (M r 3)))), (0, .ref (b + r)), (1, .int u), (2, .int w)]) hx hb dX4_nearest_62 hl (k := 4) rfl (ixAdd (a := j) (c := 1) (d := j + 1) rfl rfl (by omega)) (by decide) rfl (fun ls hl => ?_)
            refine lv_goto (tgt := 6) hx hb dX4_nearest_65 (by decide) ?_
            rw [show LX4_nearest_6f r (k + 1) M u w j = LX4_nearest_6f r k M u w (j + 1) from (by rw [LX4_nearest_6f, if_neg c11, if_pos c43, if_neg c48, if_pos c54])]
            exact ih M u w (j + 1) H locs ls hcnt (by omega) (by omega) hP hS (lv_sub hl [2, 3, 4, 0] rfl)
          · refine lv_iload_n hx hb dX4_nearest_57 rfl (lv_at hl 4 rfl) ?_
            refine lv_istore_n (lv' := [(1, .int (nI (j))), (4, .int (xabs ((fX4_reading M r (r + 1 + 1 + j)) - (M r 3)))), (0, .ref (b + r)), (2, .int w), (3, .int (nI (j)))]) hx hb dX4_nearest_58 rfl hl (by decide) rfl (fun ls hl => ?_)
            refine lv_iload hx hb dX4_nearest_59 (lv_at hl 1 rfl) ?_
            refine lv_istore_n (lv' := [(2, .int (xabs ((fX4_reading M r (r + 1 + 1 + j)) - (M r 3)))), (1, .int (nI (j))), (4, .int (xabs ((fX4_reading M r (r + 1 + 1 + j)) - (M r 3)))), (0, .ref (b + r)), (3, .int (nI (j)))]) hx hb dX4_nearest_61 rfl hl (by decide) rfl (fun ls hl => ?_)
            refine lv_iinc (v := nI (j + 1)) (lv' := [(3, .int (nI (j + 1))), (2, .int (xabs ((fX4_reading M r (r + 1 + 1 + j)) - (M r 3)))), (1, .int (nI (j))), (4, .int (xabs ((fX4_reading M r (r + 1 + 1 + j)) - (M r 3)))), (0, .ref (b + r))]) hx hb dX4_nearest_62 hl (k := 4) rfl (ixAdd (a := j) (c := 1) (d := j + 1) rfl rfl (by omega)) (by decide) rfl (fun ls hl => ?_)
            refine lv_goto (tgt := 6) hx hb dX4_nearest_65 (by decide) ?_
            rw [show LX4_nearest_6f r (k + 1) M u w j = LX4_nearest_6f r k M (nI (j)) (xabs ((fX4_reading M r (r + 1 + 1 + j)) - (M r 3))) (j + 1) from (by rw [LX4_nearest_6f, if_neg c11, if_pos c43, if_neg c48, if_neg c54])]
            exact ih M (nI (j)) (xabs ((fX4_reading M r (r + 1 + 1 + j)) - (M r 3))) (j + 1) H locs ls hcnt (by omega) (by omega) hP hS (lv_sub hl [4, 2, 1, 0] rfl)

def fX4_nearest (M : Mem) (r : Nat) : Int32 := LX4_nearest_6f r 7 M ((-1) : Int32) (0 : Int32) 0
set_option maxHeartbeats 4000000 in
set_option maxRecDepth 100000 in
theorem c_X4_nearest (l : Launch) (D : va_G) (cy : Nat → ClassId) (b n : Nat) (hn : 124 ≤ n) (M : Mem) (r : Nat) (h_r : kd r = 4) (hcnt : CNT M r) : Met l yX4_nearest wsX4_nearest ({ frames := 5, cells := 0, slots := 0, locals := 105 } : Room) (CP D cy b n fT M [.ref (b + r)]) (CQi D cy b n fT (fX4_nearest M r) M) 0 0 (fr b) := by
  refine Met.ofW (cc := cX4_nearest) (maxL := 5) (ret := (some .int)) (by decide) rfl ?_
  intro p e s m args below meth c s₁ B hml hv
  obtain ⟨rfl, hP, hK, hX⟩ := hv
  have hx := B.exec
  have hb := B.bytes
  have hr := B.returns
  have hts := atoms_spec (ws := wsX4_nearest) B.pre
  have hown : s.vm.findClass RX4 = some m.cls := findClass_of_methodNamed B.named
  have hlocks := B.notSynchronized
  have hS : va_S (fr b) s.heap s.heap [] := va_S.rf
  have hl := lv_entry ([.ref (b + r)]) (n := 5) (Nat.le_of_ble_eq_true rfl)
  rw [lg_entry_eq]
  generalize (lg_sl ([.ref (b + r)]) ++ List.replicate (5 - (lg_sl ([.ref (b + r)])).length) Slot.unset).toArray = ls at hl ⊢
  have hl : lv_has ls 5 [(0, .ref (b + r))] := hl
  refine lv_iconst (v := (-1)) hx hb dX4_nearest_0 (by decide) ?_
  refine lv_istore_n (lv' := [(1, .int ((-1) : Int32)), (0, .ref (b + r))]) hx hb dX4_nearest_1 rfl hl (by decide) rfl (fun ls hl => ?_)
  refine lv_iconst (v := 0) hx hb dX4_nearest_2 (by decide) ?_
  refine lv_istore_n (lv' := [(2, .int (0 : Int32)), (1, .int ((-1) : Int32)), (0, .ref (b + r))]) hx hb dX4_nearest_3 rfl hl (by decide) rfl (fun ls hl => ?_)
  refine lv_iconst (v := 0) hx hb dX4_nearest_4 (by decide) ?_
  refine lv_istore_n (lv' := [(3, .int (0 : Int32)), (2, .int (0 : Int32)), (1, .int ((-1) : Int32)), (0, .ref (b + r))]) hx hb dX4_nearest_5 rfl hl (by decide) rfl (fun ls hl => ?_)
  rw [show fX4_nearest M r = LX4_nearest_6f r 7 M ((-1) : Int32) (0 : Int32) 0 from (by rw [fX4_nearest])]
  exact cl_X4_nearest_6 l D cy b n hn r h_r hx hb hr hlocks hml hown hts hK hX 7 M ((-1) : Int32) (0 : Int32) 0 H locs ls hcnt (by omega) (by omega) hP hS (lv_sub hl [3, 2, 1, 0] rfl)
def LX4_slackest_6f (r : Nat) : Nat → Mem → Int32 → Int32 → Nat → Int32
  | 0, _, _, _, _ => 0
  | k + 1, M, u, w, j => if (M r 1) ≤ (nI (j)) then u else (if (bv (M (r + 1 + 1 + j) 0)) = 0 then (LX4_slackest_6f r k M u w (j + 1)) else (if u = ((-1) : Int32) then (LX4_slackest_6f r k M (nI (j)) (M (r + 1 + 1 + j) 5) (j + 1)) else (if (M (r + 1 + 1 + j) 5) ≤ w then (LX4_slackest_6f r k M u w (j + 1)) else (LX4_slackest_6f r k M (nI (j)) (M (r + 1 + 1 + j) 5) (j + 1)))))
set_option maxHeartbeats 4000000 in
set_option maxRecDepth 100000 in
theorem cl_X4_slackest_6 (l : Launch) (D : va_G) (cy : Nat → ClassId) (b n : Nat) (hn : 124 ≤ n) (r : Nat) (h_r : kd r = 4) {p : Program} {e : Env} {s : State} {m : MethodId} {args : Array Value} {below : List Frame} {meth : Method} {c : Code} (hx : p.tables.exec = Jvm.exec) (hb : c.code = cX4_slackest) (hr : meth.sig.returnType = (some .int)) (hlocks : meth.locks = false) (hml : c.maxLocals = 5) (hown : s.vm.findClass RX4 = some m.cls) (hts : ∀ w ∈ wsX4_slackest, w.before args s = true) (hK : va_K D vwCl (tysW cy) s) (hX : SX b s)  : ∀ (k : Nat) (M : Mem) (u : Int32) (w : Int32) (j : Nat) (H : Heap) (locs : List Loc) (ls : Array Slot), CNT M r → j ≤ 6 → 7 ≤ j + k → va_P D vwCl (wL cy b fT M n) H → va_S (fr b) s.heap H locs → lv_has ls 5 [(0, .ref (b + r)), (1, .int u), (2, .int w), (3, .int (nI (j)))] → W p l e (headSpec wsX4_slackest ({ frames := 0, cells := 0, slots := 0, locals := 0 } : Room)).room s m args below meth c H locs 0 0 (MQ below (CQi D cy b n fT (LX4_slackest_6f r k M u w j) M) args s 0 0 (fr b)) (F0 m 6 ls []) := by
  have lk0 := hts (.fieldLink RX4 18 "HygrometerRoom$Room" "count" "I") (by decide +kernel)
  have lk1 := hts (.fieldLink RX4 11 "HygrometerRoom$Room" "instruments" "[LHygrometerRoom$Instrument;") (by decide +kernel)
  have lk2 := hts (.fieldLink RX4 77 "HygrometerRoom$Instrument" "hair" "Z") (by decide +kernel)
  have lk3 := hts (.fieldLink RX4 84 "HygrometerRoom$Instrument" "slack" "I") (by decide +kernel)
  have inc1 : ∀ w ∈ u_ws RX1 TX1 9, w ∈ wsX4_slackest := by decide +kernel
  have inc4 : ∀ w ∈ u_ws RX4 TX4 8, w ∈ wsX4_slackest := by decide +kernel
  intro k
  induction k with
  | zero => intro M u w j H locs ls hcnt hj hk hP hS hl; omega
  | succ k ih =>
    intro M u w j H locs ls hcnt hj hk hP hS hl
    refine lv_iload_n hx hb dX4_slackest_6 rfl (lv_at hl 3 rfl) ?_
    refine lv_aload_n hx hb dX4_slackest_7 rfl (lv_at hl 0 rfl) ?_
    refine xg (C := RX4) (T := TX4) (N := 8) (v := .int (M r 1)) hx hb hts inc4 hown hK hP (kR_lt h_r hn) (cell4 h_r) rfl 1 (by decide) lk0 (fun _ h => h) rfl dX4_slackest_8 ?_
    refine lv_icmp_ge (tgt := 58) hx hb dX4_slackest_11 (by decide) (fun c11 => ?_) (fun c11 => ?_)
    · refine lv_iload_n hx hb dX4_slackest_58 rfl (lv_at hl 1 rfl) ?_
      exact xe_i hx hb hr hlocks hP hS rfl rfl (by rw [LX4_slackest_6f, if_pos c11] <;> rfl) (Nat.le_of_ble_eq_true rfl) (Nat.le_of_ble_eq_true rfl) dX4_slackest_59
    · have hj6 := ub_lt hcnt hj c11
      refine lv_aload_n hx hb dX4_slackest_14 rfl (lv_at hl 0 rfl) ?_
      refine xg (C := RX4) (T := TX4) (N := 8) (v := .ref (b + (r + 1))) hx hb hts inc4 hown hK hP (kR_lt h_r hn) (cell4 h_r) rfl 0 (by decide) lk1 (fun _ h => h) rfl dX4_slackest_15 ?_
      refine lv_iload_n hx hb dX4_slackest_18 rfl (lv_at hl 3 rfl) ?_
      refine xnl (j := j) hx hb hK hP (kA_lt h_r hn) (kd_arr h_r) (ixIn (a := j) rfl (by first | decide | (simp only [lenOf]; omega) | omega) (by decide)) (ixAt (a := j) rfl (by omega)) dX4_slackest_19 ?_
      refine lv_astore (lv' := [(4, .ref (b + (r + 1 + 1 + j))), (0, .ref (b + r)), (1, .int u), (2, .int w), (3, .int (nI (j)))]) hx hb dX4_slackest_20 hl (by decide) rfl (fun ls hl => ?_)
      refine lv_aload hx hb dX4_slackest_22 (lv_at hl 0 rfl) ?_
      refine xg (C := RX1) (T := TX1) (N := 9) (v := .int (bv (M (r + 1 + 1 + j) 0))) hx hb hts inc1 hown hK hP (kI_lt (kd_ins h_r (by omega)) hn) (cell1 (kd_ins h_r (by omega))) rfl 0 (by decide) lk2 (fun _ h => h) rfl dX4_slackest_24 ?_
      refine lv_if_eq (tgt := 52) hx hb dX4_slackest_27 (by decide) (fun c27 => ?_) (fun c27 => ?_)
      · refine lv_iinc (v := nI (j + 1)) (lv' := [(3, .int (nI (j + 1))), (4, .ref (b + (r + 1 + 1 + j))), (0, .ref (b + r)), (1, .int u), (2, .int w)]) hx hb dX4_slackest_52 hl (k := 4) rfl (ixAdd (a := j) (c := 1) (d := j + 1) rfl rfl (by omega)) (by decide) rfl (fun ls hl => ?_)
        refine lv_goto (tgt := 6) hx hb dX4_slackest_55 (by decide) ?_
        rw [show LX4_slackest_6f r (k + 1) M u w j = LX4_slackest_6f r k M u w (j + 1) from (by rw [LX4_slackest_6f, if_neg c11, if_pos c27])]
        exact ih M u w (j + 1) H locs ls hcnt (by omega) (by omega) hP hS (lv_sub hl [2, 3, 4, 0] rfl)
      · refine lv_iload_n hx hb dX4_slackest_30 rfl (lv_at hl 2 rfl) ?_
        refine lv_iconst (v := (-1)) hx hb dX4_slackest_31 (by decide) ?_
        refine lv_icmp_eq (tgt := 44) hx hb dX4_slackest_32 (by decide) (fun c32 => ?_) (fun c32 => ?_)
        · refine lv_iload_n hx hb dX4_slackest_44 rfl (lv_at hl 4 rfl) ?_
          refine lv_istore_n (lv' := [(1, .int (nI (j))), (4, .ref (b + (r + 1 + 1 + j))), (0, .ref (b + r)), (2, .int w), (3, .int (nI (j)))]) hx hb dX4_slackest_45 rfl hl (by decide) rfl (fun ls hl => ?_)
          refine lv_aload hx hb dX4_slackest_46 (lv_at hl 1 rfl) ?_
          refine xg (C := RX1) (T := TX1) (N := 9) (v := .int (M (r + 1 + 1 + j) 5)) hx hb hts inc1 hown hK hP (kI_lt (kd_ins h_r (by omega)) hn) (cell1 (kd_ins h_r (by omega))) rfl 5 (by decide) lk3 (fun _ h => h) rfl dX4_slackest_48 ?_
          refine lv_istore_n (lv' := [(2, .int (M (r + 1 + 1 + j) 5)), (1, .int (nI (j))), (4, .ref (b + (r + 1 + 1 + j))), (0, .ref (b + r)), (3, .int (nI (j)))]) hx hb dX4_slackest_51 rfl hl (by decide) rfl (fun ls hl => ?_)
          refine lv_iinc (v := nI (j + 1)) (lv' := [(3, .int (nI (j + 1))), (2, .int (M (r + 1 + 1 + j) 5)), (1, .int (nI (j))), (4, .ref (b + (r + 1 + 1 + j))), (0, .ref (b + r))]) hx hb dX4_slackest_52 hl (k := 4) rfl (ixAdd (a := j) (c := 1) (d := j + 1) rfl rfl (by omega)) (by decide) rfl (fun ls hl => ?_)
          refine lv_goto (tgt := 6) hx hb dX4_slackest_55 (by decide) ?_
          rw [show LX4_slackest_6f r (k + 1) M u w j = LX4_slackest_6f r k M (nI (j)) (M (r + 1 + 1 + j) 5) (j + 1) from (by rw [LX4_slackest_6f, if_neg c11, if_neg c27, if_pos c32])]
          exact ih M (nI (j)) (M (r + 1 + 1 + j) 5) (j + 1) H locs ls hcnt (by omega) (by omega) hP hS (lv_sub hl [4, 2, 1, 0] rfl)
        · refine lv_aload hx hb dX4_slackest_35 (lv_at hl 0 rfl) ?_
          refine xg (C := RX1) (T := TX1) (N := 9) (v := .int (M (r + 1 + 1 + j) 5)) hx hb hts inc1 hown hK hP (kI_lt (kd_ins h_r (by omega)) hn) (cell1 (kd_ins h_r (by omega))) rfl 5 (by decide) lk3 (fun _ h => h) rfl dX4_slackest_37 ?_
          refine lv_iload_n hx hb dX4_slackest_40 rfl (lv_at hl 3 rfl) ?_
          refine lv_icmp_le (tgt := 52) hx hb dX4_slackest_41 (by decide) (fun c41 => ?_) (fun c41 => ?_)
          · refine lv_iinc (v := nI (j + 1)) (lv' := [(3, .int (nI (j + 1))), (4, .ref (b + (r + 1 + 1 + j))), (0, .ref (b + r)), (1, .int u), (2, .int w)]) hx hb dX4_slackest_52 hl (k := 4) rfl (ixAdd (a := j) (c := 1) (d := j + 1) rfl rfl (by omega)) (by decide) rfl (fun ls hl => ?_)
            refine lv_goto (tgt := 6) hx hb dX4_slackest_55 (by decide) ?_
            rw [show LX4_slackest_6f r (k + 1) M u w j = LX4_slackest_6f r k M u w (j + 1) from (by rw [LX4_slackest_6f, if_neg c11, if_neg c27, if_neg c32, if_pos c41])]
            exact ih M u w (j + 1) H locs ls hcnt (by omega) (by omega) hP hS (lv_sub hl [2, 3, 4, 0] rfl)
          · refine lv_iload_n hx hb dX4_slackest_44 rfl (lv_at hl 4 rfl) ?_
            refine lv_istore_n (lv' := [(1, .int (nI (j))), (4, .ref (b + (r + 1 + 1 + j))), (0, .ref (b + r)), (2, .int w), (3, .int (nI (j)))]) hx hb dX4_slackest_45 rfl hl (by decide) rfl (fun ls hl => ?_)
            refine lv_aload hx hb dX4_slackest_46 (lv_at hl 1 rfl) ?_
            refine xg (C := RX1) (T := TX1) (N := 9) (v := .int (M (r + 1 + 1 + j) 5)) hx hb hts inc1 hown hK hP (kI_lt (kd_ins h_r (by omega)) hn) (cell1 (kd_ins h_r (by omega))) rfl 5 (by decide) lk3 (fun _ h => h) rfl dX4_slackest_48 ?_
            refine lv_istore_n (lv' := [(2, .int (M (r + 1 + 1 + j) 5)), (1, .int (nI (j))), (4, .ref (b + (r + 1 + 1 + j))), (0, .ref (b + r)), (3, .int (nI (j)))]) hx hb dX4_slackest_51 rfl hl (by decide) rfl (fun ls hl => ?_)
            refine lv_iinc (v := nI (j + 1)) (lv' := [(3, .int (nI (j + 1))), (2, .int (M (r + 1 + 1 + j) 5)), (1, .int (nI (j))), (4, .ref (b + (r + 1 + 1 + j))), (0, .ref (b + r))]) hx hb dX4_slackest_52 hl (k := 4) rfl (ixAdd (a := j) (c := 1) (d := j + 1) rfl rfl (by omega)) (by decide) rfl (fun ls hl => ?_)
            refine lv_goto (tgt := 6) hx hb dX4_slackest_55 (by decide) ?_
            rw [show LX4_slackest_6f r (k + 1) M u w j = LX4_slackest_6f r k M (nI (j)) (M (r + 1 + 1 + j) 5) (j + 1) from (by rw [LX4_slackest_6f, if_neg c11, if_neg c27, if_neg c32, if_neg c41])]
            exact ih M (nI (j)) (M (r + 1 + 1 + j) 5) (j + 1) H locs ls hcnt (by omega) (by omega) hP hS (lv_sub hl [4, 2, 1, 0] rfl)

def fX4_slackest (M : Mem) (r : Nat) : Int32 := LX4_slackest_6f r 7 M ((-1) : Int32) (0 : Int32) 0
set_option maxHeartbeats 4000000 in
set_option maxRecDepth 100000 in
theorem c_X4_slackest (l : Launch) (D : va_G) (cy : Nat → ClassId) (b n : Nat) (hn : 124 ≤ n) (M : Mem) (r : Nat) (h_r : kd r = 4) (hcnt : CNT M r) : Met l yX4_slackest wsX4_slackest ({ frames := 0, cells := 0, slots := 0, locals := 0 } : Room) (CP D cy b n fT M [.ref (b + r)]) (CQi D cy b n fT (fX4_slackest M r) M) 0 0 (fr b) := by
  refine Met.ofW (cc := cX4_slackest) (maxL := 5) (ret := (some .int)) (by decide) rfl ?_
  intro p e s m args below meth c s₁ B hml hv
  obtain ⟨rfl, hP, hK, hX⟩ := hv
  have hx := B.exec
  have hb := B.bytes
  have hr := B.returns
  have hts := atoms_spec (ws := wsX4_slackest) B.pre
  have hown : s.vm.findClass RX4 = some m.cls := findClass_of_methodNamed B.named
  have hlocks := B.notSynchronized
  have hS : va_S (fr b) s.heap s.heap [] := va_S.rf
  have hl := lv_entry ([.ref (b + r)]) (n := 5) (Nat.le_of_ble_eq_true rfl)
  rw [lg_entry_eq]
  generalize (lg_sl ([.ref (b + r)]) ++ List.replicate (5 - (lg_sl ([.ref (b + r)])).length) Slot.unset).toArray = ls at hl ⊢
  have hl : lv_has ls 5 [(0, .ref (b + r))] := hl
  refine lv_iconst (v := (-1)) hx hb dX4_slackest_0 (by decide) ?_
  refine lv_istore_n (lv' := [(1, .int ((-1) : Int32)), (0, .ref (b + r))]) hx hb dX4_slackest_1 rfl hl (by decide) rfl (fun ls hl => ?_)
  refine lv_iconst (v := 0) hx hb dX4_slackest_2 (by decide) ?_
  refine lv_istore_n (lv' := [(2, .int (0 : Int32)), (1, .int ((-1) : Int32)), (0, .ref (b + r))]) hx hb dX4_slackest_3 rfl hl (by decide) rfl (fun ls hl => ?_)
  refine lv_iconst (v := 0) hx hb dX4_slackest_4 (by decide) ?_
  refine lv_istore_n (lv' := [(3, .int (0 : Int32)), (2, .int (0 : Int32)), (1, .int ((-1) : Int32)), (0, .ref (b + r))]) hx hb dX4_slackest_5 rfl hl (by decide) rfl (fun ls hl => ?_)
  rw [show fX4_slackest M r = LX4_slackest_6f r 7 M ((-1) : Int32) (0 : Int32) 0 from (by rw [fX4_slackest])]
  exact cl_X4_slackest_6 l D cy b n hn r h_r hx hb hr hlocks hml hown hts hK hX 7 M ((-1) : Int32) (0 : Int32) 0 H locs ls hcnt (by omega) (by omega) hP hS (lv_sub hl [3, 2, 1, 0] rfl)
def LX4_countDisagreeing_4f (r : Nat) : Nat → Mem → Int32 → Nat → Int32
  | 0, _, _, _ => 0
  | k + 1, M, u, j => if (M r 1) ≤ (nI (j)) then u else (if (fX1_isBoxed M (r + 1 + 1 + j)) = 0 then (LX4_countDisagreeing_4f r k M u (j + 1)) else (if (fX4_settled M r (r + 1 + 1 + j)) = 0 then (LX4_countDisagreeing_4f r k M u (j + 1)) else (if (fX4_reading M r (r + 1 + 1 + j)) = (fX4_surrounding M r (r + 1 + 1 + j)) then (LX4_countDisagreeing_4f r k M u (j + 1)) else (LX4_countDisagreeing_4f r k M (u + 1) (j + 1)))))
set_option maxHeartbeats 4000000 in
set_option maxRecDepth 100000 in
theorem cl_X4_countDisagreeing_4 (l : Launch) (D : va_G) (cy : Nat → ClassId) (b n : Nat) (hn : 124 ≤ n) (r : Nat) (h_r : kd r = 4) {p : Program} {e : Env} {s : State} {m : MethodId} {args : Array Value} {below : List Frame} {meth : Method} {c : Code} (hx : p.tables.exec = Jvm.exec) (hb : c.code = cX4_countDisagreeing) (hr : meth.sig.returnType = (some .int)) (hlocks : meth.locks = false) (hml : c.maxLocals = 4) (hown : s.vm.findClass RX4 = some m.cls) (hts : ∀ w ∈ wsX4_countDisagreeing, w.before args s = true) (hK : va_K D vwCl (tysW cy) s) (hX : SX b s)  : ∀ (k : Nat) (M : Mem) (u : Int32) (j : Nat) (H : Heap) (locs : List Loc) (ls : Array Slot), CNT M r → j ≤ 6 → 7 ≤ j + k → va_P D vwCl (wL cy b fT M n) H → va_S (fr b) s.heap H locs → lv_has ls 4 [(0, .ref (b + r)), (1, .int u), (2, .int (nI (j)))] → W p l e (headSpec wsX4_countDisagreeing ({ frames := 5, cells := 0, slots := 0, locals := 105 } : Room)).room s m args below meth c H locs 0 0 (MQ below (CQi D cy b n fT (LX4_countDisagreeing_4f r k M u j) M) args s 0 0 (fr b)) (F0 m 4 ls []) := by
  have lk0 := hts (.fieldLink RX4 18 "HygrometerRoom$Room" "count" "I") (by decide +kernel)
  have lk1 := hts (.fieldLink RX4 11 "HygrometerRoom$Room" "instruments" "[LHygrometerRoom$Instrument;") (by decide +kernel)
  have inc4 : ∀ w ∈ u_ws RX4 TX4 8, w ∈ wsX4_countDisagreeing := by decide +kernel
  intro k
  induction k with
  | zero => intro M u j H locs ls hcnt hj hk hP hS hl; omega
  | succ k ih =>
    intro M u j H locs ls hcnt hj hk hP hS hl
    refine lv_iload_n hx hb dX4_countDisagreeing_4 rfl (lv_at hl 2 rfl) ?_
    refine lv_aload_n hx hb dX4_countDisagreeing_5 rfl (lv_at hl 0 rfl) ?_
    refine xg (C := RX4) (T := TX4) (N := 8) (v := .int (M r 1)) hx hb hts inc4 hown hK hP (kR_lt h_r hn) (cell4 h_r) rfl 1 (by decide) lk0 (fun _ h => h) rfl dX4_countDisagreeing_6 ?_
    refine lv_icmp_ge (tgt := 56) hx hb dX4_countDisagreeing_9 (by decide) (fun c9 => ?_) (fun c9 => ?_)
    · refine lv_iload_n hx hb dX4_countDisagreeing_56 rfl (lv_at hl 1 rfl) ?_
      exact xe_i hx hb hr hlocks hP hS rfl rfl (by rw [LX4_countDisagreeing_4f, if_pos c9] <;> rfl) (Nat.le_of_ble_eq_true rfl) (Nat.le_of_ble_eq_true rfl) dX4_countDisagreeing_57
    · have hj6 := ub_lt hcnt hj c9
      refine lv_aload_n hx hb dX4_countDisagreeing_12 rfl (lv_at hl 0 rfl) ?_
      refine xg (C := RX4) (T := TX4) (N := 8) (v := .ref (b + (r + 1))) hx hb hts inc4 hown hK hP (kR_lt h_r hn) (cell4 h_r) rfl 0 (by decide) lk1 (fun _ h => h) rfl dX4_countDisagreeing_13 ?_
      refine lv_iload_n hx hb dX4_countDisagreeing_16 rfl (lv_at hl 2 rfl) ?_
      refine xnl (j := j) hx hb hK hP (kA_lt h_r hn) (kd_arr h_r) (ixIn (a := j) rfl (by first | decide | (simp only [lenOf]; omega) | omega) (by decide)) (ixAt (a := j) rfl (by omega)) dX4_countDisagreeing_17 ?_
      refine lv_astore_n (lv' := [(3, .ref (b + (r + 1 + 1 + j))), (0, .ref (b + r)), (1, .int u), (2, .int (nI (j)))]) hx hb dX4_countDisagreeing_18 rfl hl (by decide) rfl (fun ls hl => ?_)
      refine lv_aload_n hx hb dX4_countDisagreeing_19 rfl (lv_at hl 0 rfl) ?_
      refine xc_i (va_runV (As := []) (rest := []) ⟨hx, hb, hml, hown, hts⟩ (c_X1_isBoxed l D cy b n hn M (r + 1 + 1 + j) (kd_ins h_r (by omega))) (cwV 0 hts gX4_countDisagreeing_X1_isBoxed rfl rfl rfl (by decide +kernel) ⟨Nat.le_of_ble_eq_true rfl, Nat.le_of_ble_eq_true rfl⟩) (xPreV hP hK hX hS (kI_lt (kd_ins h_r (by omega)) hn) (cell1 (kd_ins h_r (by omega))) rfl) rfl rfl hl.1 rfl (lv_room (Nat.le_of_ble_eq_true rfl)) dX4_countDisagreeing_20 ⟨Nat.le_of_ble_eq_true rfl, Nat.le_of_ble_eq_true rfl⟩) hS (fun H locs hP hS => ?_)
      refine lv_if_eq (tgt := 50) hx hb dX4_countDisagreeing_23 (by decide) (fun c23 => ?_) (fun c23 => ?_)
      · refine lv_iinc (v := nI (j + 1)) (lv' := [(2, .int (nI (j + 1))), (3, .ref (b + (r + 1 + 1 + j))), (0, .ref (b + r)), (1, .int u)]) hx hb dX4_countDisagreeing_50 hl (k := 3) rfl (ixAdd (a := j) (c := 1) (d := j + 1) rfl rfl (by omega)) (by decide) rfl (fun ls hl => ?_)
        refine lv_goto (tgt := 4) hx hb dX4_countDisagreeing_53 (by decide) ?_
        rw [show LX4_countDisagreeing_4f r (k + 1) M u j = LX4_countDisagreeing_4f r k M u (j + 1) from (by rw [LX4_countDisagreeing_4f, if_neg c9, if_pos c23])]
        exact ih M u (j + 1) H locs ls hcnt (by omega) (by omega) hP hS (lv_sub hl [2, 3, 0] rfl)
      · refine lv_aload_n hx hb dX4_countDisagreeing_26 rfl (lv_at hl 1 rfl) ?_
        refine lv_aload_n hx hb dX4_countDisagreeing_27 rfl (lv_at hl 0 rfl) ?_
        refine xc_i (va_runV (As := [.ref (b + (r + 1 + 1 + j))]) (rest := []) ⟨hx, hb, hml, hown, hts⟩ (c_X4_settled l D cy b n hn M r (r + 1 + 1 + j) h_r (kd_ins h_r (by omega))) (cwV 1 hts gX4_countDisagreeing_X4_settled rfl rfl rfl (by decide +kernel) ⟨Nat.le_of_ble_eq_true rfl, Nat.le_of_ble_eq_true rfl⟩) (xPreV hP hK hX hS (kR_lt h_r hn) (cell4 h_r) rfl) rfl rfl hl.1 rfl (lv_room (Nat.le_of_ble_eq_true rfl)) dX4_countDisagreeing_28 ⟨Nat.le_of_ble_eq_true rfl, Nat.le_of_ble_eq_true rfl⟩) hS (fun H locs hP hS => ?_)
        refine lv_if_eq (tgt := 50) hx hb dX4_countDisagreeing_31 (by decide) (fun c31 => ?_) (fun c31 => ?_)
        · refine lv_iinc (v := nI (j + 1)) (lv' := [(2, .int (nI (j + 1))), (3, .ref (b + (r + 1 + 1 + j))), (0, .ref (b + r)), (1, .int u)]) hx hb dX4_countDisagreeing_50 hl (k := 3) rfl (ixAdd (a := j) (c := 1) (d := j + 1) rfl rfl (by omega)) (by decide) rfl (fun ls hl => ?_)
          refine lv_goto (tgt := 4) hx hb dX4_countDisagreeing_53 (by decide) ?_
          rw [show LX4_countDisagreeing_4f r (k + 1) M u j = LX4_countDisagreeing_4f r k M u (j + 1) from (by rw [LX4_countDisagreeing_4f, if_neg c9, if_neg c23, if_pos c31])]
          exact ih M u (j + 1) H locs ls hcnt (by omega) (by omega) hP hS (lv_sub hl [2, 3, 0] rfl)
        · refine lv_aload_n hx hb dX4_countDisagreeing_34 rfl (lv_at hl 1 rfl) ?_
          refine lv_aload_n hx hb dX4_countDisagreeing_35 rfl (lv_at hl 0 rfl) ?_
          refine xc_i (va_runV (As := [.ref (b + (r + 1 + 1 + j))]) (rest := []) ⟨hx, hb, hml, hown, hts⟩ (c_X4_reading l D cy b n hn M r (r + 1 + 1 + j) h_r (kd_ins h_r (by omega))) (cwV 1 hts gX4_countDisagreeing_X4_reading rfl rfl rfl (by decide +kernel) ⟨Nat.le_of_ble_eq_true rfl, Nat.le_of_ble_eq_true rfl⟩) (xPreV hP hK hX hS (kR_lt h_r hn) (cell4 h_r) rfl) rfl rfl hl.1 rfl (lv_room (Nat.le_of_ble_eq_true rfl)) dX4_countDisagreeing_36 ⟨Nat.le_of_ble_eq_true rfl, Nat.le_of_ble_eq_true rfl⟩) hS (fun H locs hP hS => ?_)
          refine lv_aload_n hx hb dX4_countDisagreeing_39 rfl (lv_at hl 1 rfl) ?_
          refine lv_aload_n hx hb dX4_countDisagreeing_40 rfl (lv_at hl 0 rfl) ?_
          refine xc_i (va_runV (As := [.ref (b + (r + 1 + 1 + j))]) (rest := [.int (fX4_reading M r (r + 1 + 1 + j))]) ⟨hx, hb, hml, hown, hts⟩ (c_X4_surrounding l D cy b n hn M r (r + 1 + 1 + j) h_r (kd_ins h_r (by omega))) (cwV 1 hts gX4_countDisagreeing_X4_surrounding rfl rfl rfl (by decide +kernel) ⟨Nat.le_of_ble_eq_true rfl, Nat.le_of_ble_eq_true rfl⟩) (xPreV hP hK hX hS (kR_lt h_r hn) (cell4 h_r) rfl) rfl rfl hl.1 rfl (lv_room (Nat.le_of_ble_eq_true rfl)) dX4_countDisagreeing_41 ⟨Nat.le_of_ble_eq_true rfl, Nat.le_of_ble_eq_true rfl⟩) hS (fun H locs hP hS => ?_)
          refine lv_icmp_eq (tgt := 50) hx hb dX4_countDisagreeing_44 (by decide) (fun c44 => ?_) (fun c44 => ?_)
          · refine lv_iinc (v := nI (j + 1)) (lv' := [(2, .int (nI (j + 1))), (3, .ref (b + (r + 1 + 1 + j))), (0, .ref (b + r)), (1, .int u)]) hx hb dX4_countDisagreeing_50 hl (k := 3) rfl (ixAdd (a := j) (c := 1) (d := j + 1) rfl rfl (by omega)) (by decide) rfl (fun ls hl => ?_)
            refine lv_goto (tgt := 4) hx hb dX4_countDisagreeing_53 (by decide) ?_
            rw [show LX4_countDisagreeing_4f r (k + 1) M u j = LX4_countDisagreeing_4f r k M u (j + 1) from (by rw [LX4_countDisagreeing_4f, if_neg c9, if_neg c23, if_neg c31, if_pos c44])]
            exact ih M u (j + 1) H locs ls hcnt (by omega) (by omega) hP hS (lv_sub hl [2, 3, 0] rfl)
          · refine lv_iinc (v := u + 1) (lv' := [(1, .int (u + 1)), (3, .ref (b + (r + 1 + 1 + j))), (0, .ref (b + r)), (2, .int (nI (j)))]) hx hb dX4_countDisagreeing_47 hl (k := 2) rfl rfl (by decide) rfl (fun ls hl => ?_)
            refine lv_iinc (v := nI (j + 1)) (lv' := [(2, .int (nI (j + 1))), (1, .int (u + 1)), (3, .ref (b + (r + 1 + 1 + j))), (0, .ref (b + r))]) hx hb dX4_countDisagreeing_50 hl (k := 3) rfl (ixAdd (a := j) (c := 1) (d := j + 1) rfl rfl (by omega)) (by decide) rfl (fun ls hl => ?_)
            refine lv_goto (tgt := 4) hx hb dX4_countDisagreeing_53 (by decide) ?_
            rw [show LX4_countDisagreeing_4f r (k + 1) M u j = LX4_countDisagreeing_4f r k M (u + 1) (j + 1) from (by rw [LX4_countDisagreeing_4f, if_neg c9, if_neg c23, if_neg c31, if_neg c44])]
            exact ih M (u + 1) (j + 1) H locs ls hcnt (by omega) (by omega) hP hS (lv_sub hl [3, 1, 0] rfl)

def fX4_countDisagreeing (M : Mem) (r : Nat) : Int32 := LX4_countDisagreeing_4f r 7 M (0 : Int32) 0
set_option maxHeartbeats 4000000 in
set_option maxRecDepth 100000 in
theorem c_X4_countDisagreeing (l : Launch) (D : va_G) (cy : Nat → ClassId) (b n : Nat) (hn : 124 ≤ n) (M : Mem) (r : Nat) (h_r : kd r = 4) (hcnt : CNT M r) : Met l yX4_countDisagreeing wsX4_countDisagreeing ({ frames := 5, cells := 0, slots := 0, locals := 105 } : Room) (CP D cy b n fT M [.ref (b + r)]) (CQi D cy b n fT (fX4_countDisagreeing M r) M) 0 0 (fr b) := by
  refine Met.ofW (cc := cX4_countDisagreeing) (maxL := 4) (ret := (some .int)) (by decide) rfl ?_
  intro p e s m args below meth c s₁ B hml hv
  obtain ⟨rfl, hP, hK, hX⟩ := hv
  have hx := B.exec
  have hb := B.bytes
  have hr := B.returns
  have hts := atoms_spec (ws := wsX4_countDisagreeing) B.pre
  have hown : s.vm.findClass RX4 = some m.cls := findClass_of_methodNamed B.named
  have hlocks := B.notSynchronized
  have hS : va_S (fr b) s.heap s.heap [] := va_S.rf
  have hl := lv_entry ([.ref (b + r)]) (n := 4) (Nat.le_of_ble_eq_true rfl)
  rw [lg_entry_eq]
  generalize (lg_sl ([.ref (b + r)]) ++ List.replicate (4 - (lg_sl ([.ref (b + r)])).length) Slot.unset).toArray = ls at hl ⊢
  have hl : lv_has ls 4 [(0, .ref (b + r))] := hl
  refine lv_iconst (v := 0) hx hb dX4_countDisagreeing_0 (by decide) ?_
  refine lv_istore_n (lv' := [(1, .int (0 : Int32)), (0, .ref (b + r))]) hx hb dX4_countDisagreeing_1 rfl hl (by decide) rfl (fun ls hl => ?_)
  refine lv_iconst (v := 0) hx hb dX4_countDisagreeing_2 (by decide) ?_
  refine lv_istore_n (lv' := [(2, .int (0 : Int32)), (1, .int (0 : Int32)), (0, .ref (b + r))]) hx hb dX4_countDisagreeing_3 rfl hl (by decide) rfl (fun ls hl => ?_)
  rw [show fX4_countDisagreeing M r = LX4_countDisagreeing_4f r 7 M (0 : Int32) 0 from (by rw [fX4_countDisagreeing])]
  exact cl_X4_countDisagreeing_4 l D cy b n hn r h_r hx hb hr hlocks hml hown hts hK hX 7 M (0 : Int32) 0 H locs ls hcnt (by omega) (by omega) hP hS (lv_sub hl [2, 1, 0] rfl)
def LX4_readingSpan_7f (r : Nat) : Nat → Mem → Int32 → Int32 → Nat → Int32
  | 0, _, _, _, _ => 0
  | k + 1, M, u, w, j => if (M r 1) ≤ (nI (j)) then (xmax (0 : Int32) (w - u)) else (if (fX1_flaw M (r + 1 + 1 + j)) = 0 then (LX4_readingSpan_7f r k M (xmin u (fX4_reading M r (r + 1 + 1 + j))) (xmax w (fX4_reading M r (r + 1 + 1 + j))) (j + 1)) else (LX4_readingSpan_7f r k M u w (j + 1)))
set_option maxHeartbeats 4000000 in
set_option maxRecDepth 100000 in
theorem cl_X4_readingSpan_7 (l : Launch) (D : va_G) (cy : Nat → ClassId) (b n : Nat) (hn : 124 ≤ n) (r : Nat) (h_r : kd r = 4) {p : Program} {e : Env} {s : State} {m : MethodId} {args : Array Value} {below : List Frame} {meth : Method} {c : Code} (hx : p.tables.exec = Jvm.exec) (hb : c.code = cX4_readingSpan) (hr : meth.sig.returnType = (some .int)) (hlocks : meth.locks = false) (hml : c.maxLocals = 4) (hown : s.vm.findClass RX4 = some m.cls) (hts : ∀ w ∈ wsX4_readingSpan, w.before args s = true) (hK : va_K D vwCl (tysW cy) s) (hX : SX b s)  : ∀ (k : Nat) (M : Mem) (u : Int32) (w : Int32) (j : Nat) (H : Heap) (locs : List Loc) (ls : Array Slot), CNT M r → j ≤ 6 → 7 ≤ j + k → va_P D vwCl (wL cy b fT M n) H → va_S (fr b) s.heap H locs → lv_has ls 4 [(0, .ref (b + r)), (1, .int u), (2, .int w), (3, .int (nI (j)))] → W p l e (headSpec wsX4_readingSpan ({ frames := 5, cells := 0, slots := 0, locals := 105 } : Room)).room s m args below meth c H locs 0 0 (MQ below (CQi D cy b n fT (LX4_readingSpan_7f r k M u w j) M) args s 0 0 (fr b)) (F0 m 7 ls []) := by
  have lk0 := hts (.fieldLink RX4 18 "HygrometerRoom$Room" "count" "I") (by decide +kernel)
  have lk1 := hts (.methodLink RX4 99 Lib.Math.max.name) (by decide +kernel)
  have lk2 := hts (.static Lib.Math.max.name) (by decide +kernel)
  have lk3 := hts (.initialized "java/lang/Math") (by decide +kernel)
  have lk4 := hts (.code Lib.Math.max.name Lib.Math.max.code 2 (some .int)) (by decide +kernel)
  have lk5 := hts (.fieldLink RX4 11 "HygrometerRoom$Room" "instruments" "[LHygrometerRoom$Instrument;") (by decide +kernel)
  have lk6 := hts (.methodLink RX4 62 Lib.Math.min.name) (by decide +kernel)
  have lk7 := hts (.static Lib.Math.min.name) (by decide +kernel)
  have lk8 := hts (.code Lib.Math.min.name Lib.Math.min.code 2 (some .int)) (by decide +kernel)
  have inc4 : ∀ w ∈ u_ws RX4 TX4 8, w ∈ wsX4_readingSpan := by decide +kernel
  intro k
  induction k with
  | zero => intro M u w j H locs ls hcnt hj hk hP hS hl; omega
  | succ k ih =>
    intro M u w j H locs ls hcnt hj hk hP hS hl
    refine lv_iload_n hx hb dX4_readingSpan_7 rfl (lv_at hl 3 rfl) ?_
    refine lv_aload_n hx hb dX4_readingSpan_8 rfl (lv_at hl 0 rfl) ?_
    refine xg (C := RX4) (T := TX4) (N := 8) (v := .int (M r 1)) hx hb hts inc4 hown hK hP (kR_lt h_r hn) (cell4 h_r) rfl 1 (by decide) lk0 (fun _ h => h) rfl dX4_readingSpan_9 ?_
    refine lv_icmp_ge (tgt := 63) hx hb dX4_readingSpan_12 (by decide) (fun c12 => ?_) (fun c12 => ?_)
    · refine lv_iconst (v := 0) hx hb dX4_readingSpan_63 (by decide) ?_
      refine lv_iload_n hx hb dX4_readingSpan_64 rfl (lv_at hl 2 rfl) ?_
      refine lv_iload_n hx hb dX4_readingSpan_65 rfl (lv_at hl 1 rfl) ?_
      refine lv_isub hx hb dX4_readingSpan_66 ?_
      refine x_mmax hx hb (hml.trans hl.1.symm) hown lk1 lk2 lk3 lk4 (Nat.le_of_ble_eq_true rfl) (Nat.le_of_ble_eq_true rfl) (Nat.le_of_ble_eq_true rfl) (Nat.le_of_ble_eq_true rfl) dX4_readingSpan_67 ?_
      exact xe_i hx hb hr hlocks hP hS rfl rfl (by rw [LX4_readingSpan_7f, if_pos c12] <;> rfl) (Nat.le_of_ble_eq_true rfl) (Nat.le_of_ble_eq_true rfl) dX4_readingSpan_70
    · have hj6 := ub_lt hcnt hj c12
      refine lv_aload_n hx hb dX4_readingSpan_15 rfl (lv_at hl 0 rfl) ?_
      refine xg (C := RX4) (T := TX4) (N := 8) (v := .ref (b + (r + 1))) hx hb hts inc4 hown hK hP (kR_lt h_r hn) (cell4 h_r) rfl 0 (by decide) lk5 (fun _ h => h) rfl dX4_readingSpan_16 ?_
      refine lv_iload_n hx hb dX4_readingSpan_19 rfl (lv_at hl 3 rfl) ?_
      refine xnl (j := j) hx hb hK hP (kA_lt h_r hn) (kd_arr h_r) (ixIn (a := j) rfl (by first | decide | (simp only [lenOf]; omega) | omega) (by decide)) (ixAt (a := j) rfl (by omega)) dX4_readingSpan_20 ?_
      refine xc_i (va_runV (As := []) (rest := []) ⟨hx, hb, hml, hown, hts⟩ (c_X1_flaw l D cy b n hn M (r + 1 + 1 + j) (kd_ins h_r (by omega))) (cwV 0 hts gX4_readingSpan_X1_flaw rfl rfl rfl (by decide +kernel) ⟨Nat.le_of_ble_eq_true rfl, Nat.le_of_ble_eq_true rfl⟩) (xPreV hP hK hX hS (kI_lt (kd_ins h_r (by omega)) hn) (cell1 (kd_ins h_r (by omega))) rfl) rfl rfl hl.1 rfl (lv_room (Nat.le_of_ble_eq_true rfl)) dX4_readingSpan_21 ⟨Nat.le_of_ble_eq_true rfl, Nat.le_of_ble_eq_true rfl⟩) hS (fun H locs hP hS => ?_)
      refine lv_if_ne (tgt := 57) hx hb dX4_readingSpan_24 (by decide) (fun c24 => ?_) (fun c24 => ?_)
      · refine lv_iinc (v := nI (j + 1)) (lv' := [(3, .int (nI (j + 1))), (0, .ref (b + r)), (1, .int u), (2, .int w)]) hx hb dX4_readingSpan_57 hl (k := 3) rfl (ixAdd (a := j) (c := 1) (d := j + 1) rfl rfl (by omega)) (by decide) rfl (fun ls hl => ?_)
        refine lv_goto (tgt := 7) hx hb dX4_readingSpan_60 (by decide) ?_
        rw [show LX4_readingSpan_7f r (k + 1) M u w j = LX4_readingSpan_7f r k M u w (j + 1) from (by rw [LX4_readingSpan_7f, if_neg c12, if_neg c24])]
        exact ih M u w (j + 1) H locs ls hcnt (by omega) (by omega) hP hS (lv_sub hl [1, 2, 3, 0] rfl)
      · refine lv_iload_n hx hb dX4_readingSpan_27 rfl (lv_at hl 1 rfl) ?_
        refine lv_aload_n hx hb dX4_readingSpan_28 rfl (lv_at hl 0 rfl) ?_
        refine lv_aload_n hx hb dX4_readingSpan_29 rfl (lv_at hl 0 rfl) ?_
        refine xg (C := RX4) (T := TX4) (N := 8) (v := .ref (b + (r + 1))) hx hb hts inc4 hown hK hP (kR_lt h_r hn) (cell4 h_r) rfl 0 (by decide) lk5 (fun _ h => h) rfl dX4_readingSpan_30 ?_
        refine lv_iload_n hx hb dX4_readingSpan_33 rfl (lv_at hl 3 rfl) ?_
        refine xnl (j := j) hx hb hK hP (kA_lt h_r hn) (kd_arr h_r) (ixIn (a := j) rfl (by first | decide | (simp only [lenOf]; omega) | omega) (by decide)) (ixAt (a := j) rfl (by omega)) dX4_readingSpan_34 ?_
        refine xc_i (va_runV (As := [.ref (b + (r + 1 + 1 + j))]) (rest := [.int u]) ⟨hx, hb, hml, hown, hts⟩ (c_X4_reading l D cy b n hn M r (r + 1 + 1 + j) h_r (kd_ins h_r (by omega))) (cwV 1 hts gX4_readingSpan_X4_reading rfl rfl rfl (by decide +kernel) ⟨Nat.le_of_ble_eq_true rfl, Nat.le_of_ble_eq_true rfl⟩) (xPreV hP hK hX hS (kR_lt h_r hn) (cell4 h_r) rfl) rfl rfl hl.1 rfl (lv_room (Nat.le_of_ble_eq_true rfl)) dX4_readingSpan_35 ⟨Nat.le_of_ble_eq_true rfl, Nat.le_of_ble_eq_true rfl⟩) hS (fun H locs hP hS => ?_)
        refine x_mmin hx hb (hml.trans hl.1.symm) hown lk6 lk7 lk3 lk8 (Nat.le_of_ble_eq_true rfl) (Nat.le_of_ble_eq_true rfl) (Nat.le_of_ble_eq_true rfl) (Nat.le_of_ble_eq_true rfl) dX4_readingSpan_38 ?_
        refine lv_istore_n (lv' := [(1, .int (xmin u (fX4_reading M r (r + 1 + 1 + j)))), (0, .ref (b + r)), (2, .int w), (3, .int (nI (j)))]) hx hb dX4_readingSpan_41 rfl hl (by decide) rfl (fun ls hl => ?_)
        refine lv_iload_n hx hb dX4_readingSpan_42 rfl (lv_at hl 2 rfl) ?_
        refine lv_aload_n hx hb dX4_readingSpan_43 rfl (lv_at hl 1 rfl) ?_
        refine lv_aload_n hx hb dX4_readingSpan_44 rfl (lv_at hl 1 rfl) ?_
        refine xg (C := RX4) (T := TX4) (N := 8) (v := .ref (b + (r + 1))) hx hb hts inc4 hown hK hP (kR_lt h_r hn) (cell4 h_r) rfl 0 (by decide) lk5 (fun _ h => h) rfl dX4_readingSpan_45 ?_
        refine lv_iload_n hx hb dX4_readingSpan_48 rfl (lv_at hl 3 rfl) ?_
        refine xnl (j := j) hx hb hK hP (kA_lt h_r hn) (kd_arr h_r) (ixIn (a := j) rfl (by first | decide | (simp only [lenOf]; omega) | omega) (by decide)) (ixAt (a := j) rfl (by omega)) dX4_readingSpan_49 ?_
        refine xc_i (va_runV (As := [.ref (b + (r + 1 + 1 + j))]) (rest := [.int w]) ⟨hx, hb, hml, hown, hts⟩ (c_X4_reading l D cy b n hn M r (r + 1 + 1 + j) h_r (kd_ins h_r (by omega))) (cwV 1 hts gX4_readingSpan_X4_reading rfl rfl rfl (by decide +kernel) ⟨Nat.le_of_ble_eq_true rfl, Nat.le_of_ble_eq_true rfl⟩) (xPreV hP hK hX hS (kR_lt h_r hn) (cell4 h_r) rfl) rfl rfl hl.1 rfl (lv_room (Nat.le_of_ble_eq_true rfl)) dX4_readingSpan_50 ⟨Nat.le_of_ble_eq_true rfl, Nat.le_of_ble_eq_true rfl⟩) hS (fun H locs hP hS => ?_)
        refine x_mmax hx hb (hml.trans hl.1.symm) hown lk1 lk2 lk3 lk4 (Nat.le_of_ble_eq_true rfl) (Nat.le_of_ble_eq_true rfl) (Nat.le_of_ble_eq_true rfl) (Nat.le_of_ble_eq_true rfl) dX4_readingSpan_53 ?_
        refine lv_istore_n (lv' := [(2, .int (xmax w (fX4_reading M r (r + 1 + 1 + j)))), (1, .int (xmin u (fX4_reading M r (r + 1 + 1 + j)))), (0, .ref (b + r)), (3, .int (nI (j)))]) hx hb dX4_readingSpan_56 rfl hl (by decide) rfl (fun ls hl => ?_)
        refine lv_iinc (v := nI (j + 1)) (lv' := [(3, .int (nI (j + 1))), (2, .int (xmax w (fX4_reading M r (r + 1 + 1 + j)))), (1, .int (xmin u (fX4_reading M r (r + 1 + 1 + j)))), (0, .ref (b + r))]) hx hb dX4_readingSpan_57 hl (k := 3) rfl (ixAdd (a := j) (c := 1) (d := j + 1) rfl rfl (by omega)) (by decide) rfl (fun ls hl => ?_)
        refine lv_goto (tgt := 7) hx hb dX4_readingSpan_60 (by decide) ?_
        rw [show LX4_readingSpan_7f r (k + 1) M u w j = LX4_readingSpan_7f r k M (xmin u (fX4_reading M r (r + 1 + 1 + j))) (xmax w (fX4_reading M r (r + 1 + 1 + j))) (j + 1) from (by rw [LX4_readingSpan_7f, if_neg c12, if_pos c24])]
        exact ih M (xmin u (fX4_reading M r (r + 1 + 1 + j))) (xmax w (fX4_reading M r (r + 1 + 1 + j))) (j + 1) H locs ls hcnt (by omega) (by omega) hP hS (lv_sub hl [3, 2, 1, 0] rfl)

def fX4_readingSpan (M : Mem) (r : Nat) : Int32 := LX4_readingSpan_7f r 7 M (100 : Int32) (0 : Int32) 0
set_option maxHeartbeats 4000000 in
set_option maxRecDepth 100000 in
theorem c_X4_readingSpan (l : Launch) (D : va_G) (cy : Nat → ClassId) (b n : Nat) (hn : 124 ≤ n) (M : Mem) (r : Nat) (h_r : kd r = 4) (hcnt : CNT M r) : Met l yX4_readingSpan wsX4_readingSpan ({ frames := 5, cells := 0, slots := 0, locals := 105 } : Room) (CP D cy b n fT M [.ref (b + r)]) (CQi D cy b n fT (fX4_readingSpan M r) M) 0 0 (fr b) := by
  refine Met.ofW (cc := cX4_readingSpan) (maxL := 4) (ret := (some .int)) (by decide) rfl ?_
  intro p e s m args below meth c s₁ B hml hv
  obtain ⟨rfl, hP, hK, hX⟩ := hv
  have hx := B.exec
  have hb := B.bytes
  have hr := B.returns
  have hts := atoms_spec (ws := wsX4_readingSpan) B.pre
  have hown : s.vm.findClass RX4 = some m.cls := findClass_of_methodNamed B.named
  have hlocks := B.notSynchronized
  have hS : va_S (fr b) s.heap s.heap [] := va_S.rf
  have hl := lv_entry ([.ref (b + r)]) (n := 4) (Nat.le_of_ble_eq_true rfl)
  rw [lg_entry_eq]
  generalize (lg_sl ([.ref (b + r)]) ++ List.replicate (4 - (lg_sl ([.ref (b + r)])).length) Slot.unset).toArray = ls at hl ⊢
  have hl : lv_has ls 4 [(0, .ref (b + r))] := hl
  refine lv_bipush (v := 100) hx hb dX4_readingSpan_0 (by decide) ?_
  refine lv_istore_n (lv' := [(1, .int (100 : Int32)), (0, .ref (b + r))]) hx hb dX4_readingSpan_2 rfl hl (by decide) rfl (fun ls hl => ?_)
  refine lv_iconst (v := 0) hx hb dX4_readingSpan_3 (by decide) ?_
  refine lv_istore_n (lv' := [(2, .int (0 : Int32)), (1, .int (100 : Int32)), (0, .ref (b + r))]) hx hb dX4_readingSpan_4 rfl hl (by decide) rfl (fun ls hl => ?_)
  refine lv_iconst (v := 0) hx hb dX4_readingSpan_5 (by decide) ?_
  refine lv_istore_n (lv' := [(3, .int (0 : Int32)), (2, .int (0 : Int32)), (1, .int (100 : Int32)), (0, .ref (b + r))]) hx hb dX4_readingSpan_6 rfl hl (by decide) rfl (fun ls hl => ?_)
  rw [show fX4_readingSpan M r = LX4_readingSpan_7f r 7 M (100 : Int32) (0 : Int32) 0 from (by rw [fX4_readingSpan])]
  exact cl_X4_readingSpan_7 l D cy b n hn r h_r hx hb hr hlocks hml hown hts hK hX 7 M (100 : Int32) (0 : Int32) 0 H locs ls hcnt (by omega) (by omega) hP hS (lv_sub hl [3, 2, 1, 0] rfl)
def LX4_sumOfReadings_4f (r : Nat) : Nat → Mem → Int32 → Nat → Int32
  | 0, _, _, _ => 0
  | k + 1, M, u, j => if (M r 1) ≤ (nI (j)) then u else (LX4_sumOfReadings_4f r k M (u + (fX4_reading M r (r + 1 + 1 + j))) (j + 1))
set_option maxHeartbeats 4000000 in
set_option maxRecDepth 100000 in
theorem cl_X4_sumOfReadings_4 (l : Launch) (D : va_G) (cy : Nat → ClassId) (b n : Nat) (hn : 124 ≤ n) (r : Nat) (h_r : kd r = 4) {p : Program} {e : Env} {s : State} {m : MethodId} {args : Array Value} {below : List Frame} {meth : Method} {c : Code} (hx : p.tables.exec = Jvm.exec) (hb : c.code = cX4_sumOfReadings) (hr : meth.sig.returnType = (some .int)) (hlocks : meth.locks = false) (hml : c.maxLocals = 3) (hown : s.vm.findClass RX4 = some m.cls) (hts : ∀ w ∈ wsX4_sumOfReadings, w.before args s = true) (hK : va_K D vwCl (tysW cy) s) (hX : SX b s)  : ∀ (k : Nat) (M : Mem) (u : Int32) (j : Nat) (H : Heap) (locs : List Loc) (ls : Array Slot), CNT M r → j ≤ 6 → 7 ≤ j + k → va_P D vwCl (wL cy b fT M n) H → va_S (fr b) s.heap H locs → lv_has ls 3 [(0, .ref (b + r)), (1, .int u), (2, .int (nI (j)))] → W p l e (headSpec wsX4_sumOfReadings ({ frames := 5, cells := 0, slots := 0, locals := 105 } : Room)).room s m args below meth c H locs 0 0 (MQ below (CQi D cy b n fT (LX4_sumOfReadings_4f r k M u j) M) args s 0 0 (fr b)) (F0 m 4 ls []) := by
  have lk0 := hts (.fieldLink RX4 18 "HygrometerRoom$Room" "count" "I") (by decide +kernel)
  have lk1 := hts (.fieldLink RX4 11 "HygrometerRoom$Room" "instruments" "[LHygrometerRoom$Instrument;") (by decide +kernel)
  have inc4 : ∀ w ∈ u_ws RX4 TX4 8, w ∈ wsX4_sumOfReadings := by decide +kernel
  intro k
  induction k with
  | zero => intro M u j H locs ls hcnt hj hk hP hS hl; omega
  | succ k ih =>
    intro M u j H locs ls hcnt hj hk hP hS hl
    refine lv_iload_n hx hb dX4_sumOfReadings_4 rfl (lv_at hl 2 rfl) ?_
    refine lv_aload_n hx hb dX4_sumOfReadings_5 rfl (lv_at hl 0 rfl) ?_
    refine xg (C := RX4) (T := TX4) (N := 8) (v := .int (M r 1)) hx hb hts inc4 hown hK hP (kR_lt h_r hn) (cell4 h_r) rfl 1 (by decide) lk0 (fun _ h => h) rfl dX4_sumOfReadings_6 ?_
    refine lv_icmp_ge (tgt := 31) hx hb dX4_sumOfReadings_9 (by decide) (fun c9 => ?_) (fun c9 => ?_)
    · refine lv_iload_n hx hb dX4_sumOfReadings_31 rfl (lv_at hl 1 rfl) ?_
      exact xe_i hx hb hr hlocks hP hS rfl rfl (by rw [LX4_sumOfReadings_4f, if_pos c9] <;> rfl) (Nat.le_of_ble_eq_true rfl) (Nat.le_of_ble_eq_true rfl) dX4_sumOfReadings_32
    · have hj6 := ub_lt hcnt hj c9
      refine lv_iload_n hx hb dX4_sumOfReadings_12 rfl (lv_at hl 1 rfl) ?_
      refine lv_aload_n hx hb dX4_sumOfReadings_13 rfl (lv_at hl 0 rfl) ?_
      refine lv_aload_n hx hb dX4_sumOfReadings_14 rfl (lv_at hl 0 rfl) ?_
      refine xg (C := RX4) (T := TX4) (N := 8) (v := .ref (b + (r + 1))) hx hb hts inc4 hown hK hP (kR_lt h_r hn) (cell4 h_r) rfl 0 (by decide) lk1 (fun _ h => h) rfl dX4_sumOfReadings_15 ?_
      refine lv_iload_n hx hb dX4_sumOfReadings_18 rfl (lv_at hl 2 rfl) ?_
      refine xnl (j := j) hx hb hK hP (kA_lt h_r hn) (kd_arr h_r) (ixIn (a := j) rfl (by first | decide | (simp only [lenOf]; omega) | omega) (by decide)) (ixAt (a := j) rfl (by omega)) dX4_sumOfReadings_19 ?_
      refine xc_i (va_runV (As := [.ref (b + (r + 1 + 1 + j))]) (rest := [.int u]) ⟨hx, hb, hml, hown, hts⟩ (c_X4_reading l D cy b n hn M r (r + 1 + 1 + j) h_r (kd_ins h_r (by omega))) (cwV 1 hts gX4_sumOfReadings_X4_reading rfl rfl rfl (by decide +kernel) ⟨Nat.le_of_ble_eq_true rfl, Nat.le_of_ble_eq_true rfl⟩) (xPreV hP hK hX hS (kR_lt h_r hn) (cell4 h_r) rfl) rfl rfl hl.1 rfl (lv_room (Nat.le_of_ble_eq_true rfl)) dX4_sumOfReadings_20 ⟨Nat.le_of_ble_eq_true rfl, Nat.le_of_ble_eq_true rfl⟩) hS (fun H locs hP hS => ?_)
      refine lv_iadd hx hb dX4_sumOfReadings_23 ?_
      refine lv_istore_n (lv' := [(1, .int (u + (fX4_reading M r (r + 1 + 1 + j)))), (0, .ref (b + r)), (2, .int (nI (j)))]) hx hb dX4_sumOfReadings_24 rfl hl (by decide) rfl (fun ls hl => ?_)
      refine lv_iinc (v := nI (j + 1)) (lv' := [(2, .int (nI (j + 1))), (1, .int (u + (fX4_reading M r (r + 1 + 1 + j)))), (0, .ref (b + r))]) hx hb dX4_sumOfReadings_25 hl (k := 2) rfl (ixAdd (a := j) (c := 1) (d := j + 1) rfl rfl (by omega)) (by decide) rfl (fun ls hl => ?_)
      refine lv_goto (tgt := 4) hx hb dX4_sumOfReadings_28 (by decide) ?_
      rw [show LX4_sumOfReadings_4f r (k + 1) M u j = LX4_sumOfReadings_4f r k M (u + (fX4_reading M r (r + 1 + 1 + j))) (j + 1) from (by rw [LX4_sumOfReadings_4f, if_neg c9])]
      exact ih M (u + (fX4_reading M r (r + 1 + 1 + j))) (j + 1) H locs ls hcnt (by omega) (by omega) hP hS (lv_sub hl [2, 1, 0] rfl)

def fX4_sumOfReadings (M : Mem) (r : Nat) : Int32 := LX4_sumOfReadings_4f r 7 M (0 : Int32) 0
set_option maxHeartbeats 4000000 in
set_option maxRecDepth 100000 in
theorem c_X4_sumOfReadings (l : Launch) (D : va_G) (cy : Nat → ClassId) (b n : Nat) (hn : 124 ≤ n) (M : Mem) (r : Nat) (h_r : kd r = 4) (hcnt : CNT M r) : Met l yX4_sumOfReadings wsX4_sumOfReadings ({ frames := 5, cells := 0, slots := 0, locals := 105 } : Room) (CP D cy b n fT M [.ref (b + r)]) (CQi D cy b n fT (fX4_sumOfReadings M r) M) 0 0 (fr b) := by
  refine Met.ofW (cc := cX4_sumOfReadings) (maxL := 3) (ret := (some .int)) (by decide) rfl ?_
  intro p e s m args below meth c s₁ B hml hv
  obtain ⟨rfl, hP, hK, hX⟩ := hv
  have hx := B.exec
  have hb := B.bytes
  have hr := B.returns
  have hts := atoms_spec (ws := wsX4_sumOfReadings) B.pre
  have hown : s.vm.findClass RX4 = some m.cls := findClass_of_methodNamed B.named
  have hlocks := B.notSynchronized
  have hS : va_S (fr b) s.heap s.heap [] := va_S.rf
  have hl := lv_entry ([.ref (b + r)]) (n := 3) (Nat.le_of_ble_eq_true rfl)
  rw [lg_entry_eq]
  generalize (lg_sl ([.ref (b + r)]) ++ List.replicate (3 - (lg_sl ([.ref (b + r)])).length) Slot.unset).toArray = ls at hl ⊢
  have hl : lv_has ls 3 [(0, .ref (b + r))] := hl
  refine lv_iconst (v := 0) hx hb dX4_sumOfReadings_0 (by decide) ?_
  refine lv_istore_n (lv' := [(1, .int (0 : Int32)), (0, .ref (b + r))]) hx hb dX4_sumOfReadings_1 rfl hl (by decide) rfl (fun ls hl => ?_)
  refine lv_iconst (v := 0) hx hb dX4_sumOfReadings_2 (by decide) ?_
  refine lv_istore_n (lv' := [(2, .int (0 : Int32)), (1, .int (0 : Int32)), (0, .ref (b + r))]) hx hb dX4_sumOfReadings_3 rfl hl (by decide) rfl (fun ls hl => ?_)
  rw [show fX4_sumOfReadings M r = LX4_sumOfReadings_4f r 7 M (0 : Int32) 0 from (by rw [fX4_sumOfReadings])]
  exact cl_X4_sumOfReadings_4 l D cy b n hn r h_r hx hb hr hlocks hml hown hts hK hX 7 M (0 : Int32) 0 H locs ls hcnt (by omega) (by omega) hP hS (lv_sub hl [2, 1, 0] rfl)
def LX4_hairsHere_7f (r : Nat) : Nat → Mem → Int32 → Nat → Int32
  | 0, _, _, _ => 0
  | k + 1, M, u, j => if (M r 1) ≤ (nI (j)) then u else (LX4_hairsHere_7f r k M (u + ((M (r + 1 + 1 + j) 1) + (M (r + 1 + 1 + j) 3))) (j + 1))
set_option maxHeartbeats 4000000 in
set_option maxRecDepth 100000 in
theorem cl_X4_hairsHere_7 (l : Launch) (D : va_G) (cy : Nat → ClassId) (b n : Nat) (hn : 124 ≤ n) (r : Nat) (h_r : kd r = 4) {p : Program} {e : Env} {s : State} {m : MethodId} {args : Array Value} {below : List Frame} {meth : Method} {c : Code} (hx : p.tables.exec = Jvm.exec) (hb : c.code = cX4_hairsHere) (hr : meth.sig.returnType = (some .int)) (hlocks : meth.locks = false) (hml : c.maxLocals = 3) (hown : s.vm.findClass RX4 = some m.cls) (hts : ∀ w ∈ wsX4_hairsHere, w.before args s = true) (hK : va_K D vwCl (tysW cy) s) (hX : SX b s)  : ∀ (k : Nat) (M : Mem) (u : Int32) (j : Nat) (H : Heap) (locs : List Loc) (ls : Array Slot), CNT M r → j ≤ 6 → 7 ≤ j + k → va_P D vwCl (wL cy b fT M n) H → va_S (fr b) s.heap H locs → lv_has ls 3 [(0, .ref (b + r)), (1, .int u), (2, .int (nI (j)))] → W p l e (headSpec wsX4_hairsHere ({ frames := 0, cells := 0, slots := 0, locals := 0 } : Room)).room s m args below meth c H locs 0 0 (MQ below (CQi D cy b n fT (LX4_hairsHere_7f r k M u j) M) args s 0 0 (fr b)) (F0 m 7 ls []) := by
  have lk0 := hts (.fieldLink RX4 18 "HygrometerRoom$Room" "count" "I") (by decide +kernel)
  have lk1 := hts (.fieldLink RX4 11 "HygrometerRoom$Room" "instruments" "[LHygrometerRoom$Instrument;") (by decide +kernel)
  have lk2 := hts (.fieldLink RX4 124 "HygrometerRoom$Instrument" "hairs" "I") (by decide +kernel)
  have lk3 := hts (.fieldLink RX4 127 "HygrometerRoom$Instrument" "broken" "I") (by decide +kernel)
  have inc1 : ∀ w ∈ u_ws RX1 TX1 9, w ∈ wsX4_hairsHere := by decide +kernel
  have inc4 : ∀ w ∈ u_ws RX4 TX4 8, w ∈ wsX4_hairsHere := by decide +kernel
  intro k
  induction k with
  | zero => intro M u j H locs ls hcnt hj hk hP hS hl; omega
  | succ k ih =>
    intro M u j H locs ls hcnt hj hk hP hS hl
    refine lv_iload_n hx hb dX4_hairsHere_7 rfl (lv_at hl 2 rfl) ?_
    refine lv_aload_n hx hb dX4_hairsHere_8 rfl (lv_at hl 0 rfl) ?_
    refine xg (C := RX4) (T := TX4) (N := 8) (v := .int (M r 1)) hx hb hts inc4 hown hK hP (kR_lt h_r hn) (cell4 h_r) rfl 1 (by decide) lk0 (fun _ h => h) rfl dX4_hairsHere_9 ?_
    refine lv_icmp_ge (tgt := 43) hx hb dX4_hairsHere_12 (by decide) (fun c12 => ?_) (fun c12 => ?_)
    · refine lv_iload_n hx hb dX4_hairsHere_43 rfl (lv_at hl 1 rfl) ?_
      exact xe_i hx hb hr hlocks hP hS rfl rfl (by rw [LX4_hairsHere_7f, if_pos c12] <;> rfl) (Nat.le_of_ble_eq_true rfl) (Nat.le_of_ble_eq_true rfl) dX4_hairsHere_44
    · have hj6 := ub_lt hcnt hj c12
      refine lv_iload_n hx hb dX4_hairsHere_15 rfl (lv_at hl 1 rfl) ?_
      refine lv_aload_n hx hb dX4_hairsHere_16 rfl (lv_at hl 0 rfl) ?_
      refine xg (C := RX4) (T := TX4) (N := 8) (v := .ref (b + (r + 1))) hx hb hts inc4 hown hK hP (kR_lt h_r hn) (cell4 h_r) rfl 0 (by decide) lk1 (fun _ h => h) rfl dX4_hairsHere_17 ?_
      refine lv_iload_n hx hb dX4_hairsHere_20 rfl (lv_at hl 2 rfl) ?_
      refine xnl (j := j) hx hb hK hP (kA_lt h_r hn) (kd_arr h_r) (ixIn (a := j) rfl (by first | decide | (simp only [lenOf]; omega) | omega) (by decide)) (ixAt (a := j) rfl (by omega)) dX4_hairsHere_21 ?_
      refine xg (C := RX1) (T := TX1) (N := 9) (v := .int (M (r + 1 + 1 + j) 1)) hx hb hts inc1 hown hK hP (kI_lt (kd_ins h_r (by omega)) hn) (cell1 (kd_ins h_r (by omega))) rfl 1 (by decide) lk2 (fun _ h => h) rfl dX4_hairsHere_22 ?_
      refine lv_aload_n hx hb dX4_hairsHere_25 rfl (lv_at hl 0 rfl) ?_
      refine xg (C := RX4) (T := TX4) (N := 8) (v := .ref (b + (r + 1))) hx hb hts inc4 hown hK hP (kR_lt h_r hn) (cell4 h_r) rfl 0 (by decide) lk1 (fun _ h => h) rfl dX4_hairsHere_26 ?_
      refine lv_iload_n hx hb dX4_hairsHere_29 rfl (lv_at hl 2 rfl) ?_
      refine xnl (j := j) hx hb hK hP (kA_lt h_r hn) (kd_arr h_r) (ixIn (a := j) rfl (by first | decide | (simp only [lenOf]; omega) | omega) (by decide)) (ixAt (a := j) rfl (by omega)) dX4_hairsHere_30 ?_
      refine xg (C := RX1) (T := TX1) (N := 9) (v := .int (M (r + 1 + 1 + j) 3)) hx hb hts inc1 hown hK hP (kI_lt (kd_ins h_r (by omega)) hn) (cell1 (kd_ins h_r (by omega))) rfl 3 (by decide) lk3 (fun _ h => h) rfl dX4_hairsHere_31 ?_
      refine lv_iadd hx hb dX4_hairsHere_34 ?_
      refine lv_iadd hx hb dX4_hairsHere_35 ?_
      refine lv_istore_n (lv' := [(1, .int (u + ((M (r + 1 + 1 + j) 1) + (M (r + 1 + 1 + j) 3)))), (0, .ref (b + r)), (2, .int (nI (j)))]) hx hb dX4_hairsHere_36 rfl hl (by decide) rfl (fun ls hl => ?_)
      refine lv_iinc (v := nI (j + 1)) (lv' := [(2, .int (nI (j + 1))), (1, .int (u + ((M (r + 1 + 1 + j) 1) + (M (r + 1 + 1 + j) 3)))), (0, .ref (b + r))]) hx hb dX4_hairsHere_37 hl (k := 2) rfl (ixAdd (a := j) (c := 1) (d := j + 1) rfl rfl (by omega)) (by decide) rfl (fun ls hl => ?_)
      refine lv_goto (tgt := 7) hx hb dX4_hairsHere_40 (by decide) ?_
      rw [show LX4_hairsHere_7f r (k + 1) M u j = LX4_hairsHere_7f r k M (u + ((M (r + 1 + 1 + j) 1) + (M (r + 1 + 1 + j) 3))) (j + 1) from (by rw [LX4_hairsHere_7f, if_neg c12])]
      exact ih M (u + ((M (r + 1 + 1 + j) 1) + (M (r + 1 + 1 + j) 3))) (j + 1) H locs ls hcnt (by omega) (by omega) hP hS (lv_sub hl [2, 1, 0] rfl)

def fX4_hairsHere (M : Mem) (r : Nat) : Int32 := LX4_hairsHere_7f r 7 M (M r 6) 0
set_option maxHeartbeats 4000000 in
set_option maxRecDepth 100000 in
theorem c_X4_hairsHere (l : Launch) (D : va_G) (cy : Nat → ClassId) (b n : Nat) (hn : 124 ≤ n) (M : Mem) (r : Nat) (h_r : kd r = 4) (hcnt : CNT M r) : Met l yX4_hairsHere wsX4_hairsHere ({ frames := 0, cells := 0, slots := 0, locals := 0 } : Room) (CP D cy b n fT M [.ref (b + r)]) (CQi D cy b n fT (fX4_hairsHere M r) M) 0 0 (fr b) := by
  refine Met.ofW (cc := cX4_hairsHere) (maxL := 3) (ret := (some .int)) (by decide) rfl ?_
  intro p e s m args below meth c s₁ B hml hv
  obtain ⟨rfl, hP, hK, hX⟩ := hv
  have hx := B.exec
  have hb := B.bytes
  have hr := B.returns
  have hts := atoms_spec (ws := wsX4_hairsHere) B.pre
  have hown : s.vm.findClass RX4 = some m.cls := findClass_of_methodNamed B.named
  have hlocks := B.notSynchronized
  have lk0 := hts (.fieldLink RX4 34 "HygrometerRoom$Room" "stock" "I") (by decide +kernel)
  have inc4 : ∀ w ∈ u_ws RX4 TX4 8, w ∈ wsX4_hairsHere := by decide +kernel
  have hS : va_S (fr b) s.heap s.heap [] := va_S.rf
  have hl := lv_entry ([.ref (b + r)]) (n := 3) (Nat.le_of_ble_eq_true rfl)
  rw [lg_entry_eq]
  generalize (lg_sl ([.ref (b + r)]) ++ List.replicate (3 - (lg_sl ([.ref (b + r)])).length) Slot.unset).toArray = ls at hl ⊢
  have hl : lv_has ls 3 [(0, .ref (b + r))] := hl
  refine lv_aload_n hx hb dX4_hairsHere_0 rfl (lv_at hl 0 rfl) ?_
  refine xg (C := RX4) (T := TX4) (N := 8) (v := .int (M r 6)) hx hb hts inc4 hown hK hP (kR_lt h_r hn) (cell4 h_r) rfl 6 (by decide) lk0 (fun _ h => h) rfl dX4_hairsHere_1 ?_
  refine lv_istore_n (lv' := [(1, .int (M r 6)), (0, .ref (b + r))]) hx hb dX4_hairsHere_4 rfl hl (by decide) rfl (fun ls hl => ?_)
  refine lv_iconst (v := 0) hx hb dX4_hairsHere_5 (by decide) ?_
  refine lv_istore_n (lv' := [(2, .int (0 : Int32)), (1, .int (M r 6)), (0, .ref (b + r))]) hx hb dX4_hairsHere_6 rfl hl (by decide) rfl (fun ls hl => ?_)
  rw [show fX4_hairsHere M r = LX4_hairsHere_7f r 7 M (M r 6) 0 from (by rw [fX4_hairsHere])]
  exact cl_X4_hairsHere_7 l D cy b n hn r h_r hx hb hr hlocks hml hown hts hK hX 7 M (M r 6) 0 H locs ls hcnt (by omega) (by omega) hP hS (lv_sub hl [2, 1, 0] rfl)
def LX4_hairsThatCame_7f (r : Nat) : Nat → Mem → Int32 → Nat → Int32
  | 0, _, _, _ => 0
  | k + 1, M, u, j => if (M r 1) ≤ (nI (j)) then u else (LX4_hairsThatCame_7f r k M (u + (M (r + 1 + 1 + j) 2)) (j + 1))
set_option maxHeartbeats 4000000 in
set_option maxRecDepth 100000 in
theorem cl_X4_hairsThatCame_7 (l : Launch) (D : va_G) (cy : Nat → ClassId) (b n : Nat) (hn : 124 ≤ n) (r : Nat) (h_r : kd r = 4) {p : Program} {e : Env} {s : State} {m : MethodId} {args : Array Value} {below : List Frame} {meth : Method} {c : Code} (hx : p.tables.exec = Jvm.exec) (hb : c.code = cX4_hairsThatCame) (hr : meth.sig.returnType = (some .int)) (hlocks : meth.locks = false) (hml : c.maxLocals = 3) (hown : s.vm.findClass RX4 = some m.cls) (hts : ∀ w ∈ wsX4_hairsThatCame, w.before args s = true) (hK : va_K D vwCl (tysW cy) s) (hX : SX b s)  : ∀ (k : Nat) (M : Mem) (u : Int32) (j : Nat) (H : Heap) (locs : List Loc) (ls : Array Slot), CNT M r → j ≤ 6 → 7 ≤ j + k → va_P D vwCl (wL cy b fT M n) H → va_S (fr b) s.heap H locs → lv_has ls 3 [(0, .ref (b + r)), (1, .int u), (2, .int (nI (j)))] → W p l e (headSpec wsX4_hairsThatCame ({ frames := 0, cells := 0, slots := 0, locals := 0 } : Room)).room s m args below meth c H locs 0 0 (MQ below (CQi D cy b n fT (LX4_hairsThatCame_7f r k M u j) M) args s 0 0 (fr b)) (F0 m 7 ls []) := by
  have lk0 := hts (.fieldLink RX4 18 "HygrometerRoom$Room" "count" "I") (by decide +kernel)
  have lk1 := hts (.fieldLink RX4 11 "HygrometerRoom$Room" "instruments" "[LHygrometerRoom$Instrument;") (by decide +kernel)
  have lk2 := hts (.fieldLink RX4 130 "HygrometerRoom$Instrument" "hairsAtFirst" "I") (by decide +kernel)
  have inc1 : ∀ w ∈ u_ws RX1 TX1 9, w ∈ wsX4_hairsThatCame := by decide +kernel
  have inc4 : ∀ w ∈ u_ws RX4 TX4 8, w ∈ wsX4_hairsThatCame := by decide +kernel
  intro k
  induction k with
  | zero => intro M u j H locs ls hcnt hj hk hP hS hl; omega
  | succ k ih =>
    intro M u j H locs ls hcnt hj hk hP hS hl
    refine lv_iload_n hx hb dX4_hairsThatCame_7 rfl (lv_at hl 2 rfl) ?_
    refine lv_aload_n hx hb dX4_hairsThatCame_8 rfl (lv_at hl 0 rfl) ?_
    refine xg (C := RX4) (T := TX4) (N := 8) (v := .int (M r 1)) hx hb hts inc4 hown hK hP (kR_lt h_r hn) (cell4 h_r) rfl 1 (by decide) lk0 (fun _ h => h) rfl dX4_hairsThatCame_9 ?_
    refine lv_icmp_ge (tgt := 33) hx hb dX4_hairsThatCame_12 (by decide) (fun c12 => ?_) (fun c12 => ?_)
    · refine lv_iload_n hx hb dX4_hairsThatCame_33 rfl (lv_at hl 1 rfl) ?_
      exact xe_i hx hb hr hlocks hP hS rfl rfl (by rw [LX4_hairsThatCame_7f, if_pos c12] <;> rfl) (Nat.le_of_ble_eq_true rfl) (Nat.le_of_ble_eq_true rfl) dX4_hairsThatCame_34
    · have hj6 := ub_lt hcnt hj c12
      refine lv_iload_n hx hb dX4_hairsThatCame_15 rfl (lv_at hl 1 rfl) ?_
      refine lv_aload_n hx hb dX4_hairsThatCame_16 rfl (lv_at hl 0 rfl) ?_
      refine xg (C := RX4) (T := TX4) (N := 8) (v := .ref (b + (r + 1))) hx hb hts inc4 hown hK hP (kR_lt h_r hn) (cell4 h_r) rfl 0 (by decide) lk1 (fun _ h => h) rfl dX4_hairsThatCame_17 ?_
      refine lv_iload_n hx hb dX4_hairsThatCame_20 rfl (lv_at hl 2 rfl) ?_
      refine xnl (j := j) hx hb hK hP (kA_lt h_r hn) (kd_arr h_r) (ixIn (a := j) rfl (by first | decide | (simp only [lenOf]; omega) | omega) (by decide)) (ixAt (a := j) rfl (by omega)) dX4_hairsThatCame_21 ?_
      refine xg (C := RX1) (T := TX1) (N := 9) (v := .int (M (r + 1 + 1 + j) 2)) hx hb hts inc1 hown hK hP (kI_lt (kd_ins h_r (by omega)) hn) (cell1 (kd_ins h_r (by omega))) rfl 2 (by decide) lk2 (fun _ h => h) rfl dX4_hairsThatCame_22 ?_
      refine lv_iadd hx hb dX4_hairsThatCame_25 ?_
      refine lv_istore_n (lv' := [(1, .int (u + (M (r + 1 + 1 + j) 2))), (0, .ref (b + r)), (2, .int (nI (j)))]) hx hb dX4_hairsThatCame_26 rfl hl (by decide) rfl (fun ls hl => ?_)
      refine lv_iinc (v := nI (j + 1)) (lv' := [(2, .int (nI (j + 1))), (1, .int (u + (M (r + 1 + 1 + j) 2))), (0, .ref (b + r))]) hx hb dX4_hairsThatCame_27 hl (k := 2) rfl (ixAdd (a := j) (c := 1) (d := j + 1) rfl rfl (by omega)) (by decide) rfl (fun ls hl => ?_)
      refine lv_goto (tgt := 7) hx hb dX4_hairsThatCame_30 (by decide) ?_
      rw [show LX4_hairsThatCame_7f r (k + 1) M u j = LX4_hairsThatCame_7f r k M (u + (M (r + 1 + 1 + j) 2)) (j + 1) from (by rw [LX4_hairsThatCame_7f, if_neg c12])]
      exact ih M (u + (M (r + 1 + 1 + j) 2)) (j + 1) H locs ls hcnt (by omega) (by omega) hP hS (lv_sub hl [2, 1, 0] rfl)

def fX4_hairsThatCame (M : Mem) (r : Nat) : Int32 := LX4_hairsThatCame_7f r 7 M (M r 7) 0
set_option maxHeartbeats 4000000 in
set_option maxRecDepth 100000 in
theorem c_X4_hairsThatCame (l : Launch) (D : va_G) (cy : Nat → ClassId) (b n : Nat) (hn : 124 ≤ n) (M : Mem) (r : Nat) (h_r : kd r = 4) (hcnt : CNT M r) : Met l yX4_hairsThatCame wsX4_hairsThatCame ({ frames := 0, cells := 0, slots := 0, locals := 0 } : Room) (CP D cy b n fT M [.ref (b + r)]) (CQi D cy b n fT (fX4_hairsThatCame M r) M) 0 0 (fr b) := by
  refine Met.ofW (cc := cX4_hairsThatCame) (maxL := 3) (ret := (some .int)) (by decide) rfl ?_
  intro p e s m args below meth c s₁ B hml hv
  obtain ⟨rfl, hP, hK, hX⟩ := hv
  have hx := B.exec
  have hb := B.bytes
  have hr := B.returns
  have hts := atoms_spec (ws := wsX4_hairsThatCame) B.pre
  have hown : s.vm.findClass RX4 = some m.cls := findClass_of_methodNamed B.named
  have hlocks := B.notSynchronized
  have lk0 := hts (.fieldLink RX4 37 "HygrometerRoom$Room" "brought" "I") (by decide +kernel)
  have inc4 : ∀ w ∈ u_ws RX4 TX4 8, w ∈ wsX4_hairsThatCame := by decide +kernel
  have hS : va_S (fr b) s.heap s.heap [] := va_S.rf
  have hl := lv_entry ([.ref (b + r)]) (n := 3) (Nat.le_of_ble_eq_true rfl)
  rw [lg_entry_eq]
  generalize (lg_sl ([.ref (b + r)]) ++ List.replicate (3 - (lg_sl ([.ref (b + r)])).length) Slot.unset).toArray = ls at hl ⊢
  have hl : lv_has ls 3 [(0, .ref (b + r))] := hl
  refine lv_aload_n hx hb dX4_hairsThatCame_0 rfl (lv_at hl 0 rfl) ?_
  refine xg (C := RX4) (T := TX4) (N := 8) (v := .int (M r 7)) hx hb hts inc4 hown hK hP (kR_lt h_r hn) (cell4 h_r) rfl 7 (by decide) lk0 (fun _ h => h) rfl dX4_hairsThatCame_1 ?_
  refine lv_istore_n (lv' := [(1, .int (M r 7)), (0, .ref (b + r))]) hx hb dX4_hairsThatCame_4 rfl hl (by decide) rfl (fun ls hl => ?_)
  refine lv_iconst (v := 0) hx hb dX4_hairsThatCame_5 (by decide) ?_
  refine lv_istore_n (lv' := [(2, .int (0 : Int32)), (1, .int (M r 7)), (0, .ref (b + r))]) hx hb dX4_hairsThatCame_6 rfl hl (by decide) rfl (fun ls hl => ?_)
  rw [show fX4_hairsThatCame M r = LX4_hairsThatCame_7f r 7 M (M r 7) 0 from (by rw [fX4_hairsThatCame])]
  exact cl_X4_hairsThatCame_7 l D cy b n hn r h_r hx hb hr hlocks hml hown hts hK hX 7 M (M r 7) 0 H locs ls hcnt (by omega) (by omega) hP hS (lv_sub hl [2, 1, 0] rfl)
