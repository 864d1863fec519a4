def UB (x : Int32) (N : Nat) : Prop := ∃ k, k ≤ N ∧ x = nI k
theorem ub_lt {x : Int32} {N j : Nat} (h : UB x N) (hj : j ≤ N) (hc : ¬ x ≤ nI j) (hN : N < 2 ^ 31 := by decide) : j < N := by
  obtain ⟨k, hk, e⟩ := h
  rw [e, nI_leI (by omega) (by omega)] at hc
  omega
theorem ub_ge {x : Int32} {N : Nat} (h : UB x N) (hN : N < 2 ^ 31 := by decide) : ¬ x < 0 := by
  obtain ⟨k, hk, e⟩ := h
  rw [e]; exact nI_pos (by omega)
/-- below N by a compare -/
theorem ub_cl {x : Int32} {N : Nat} (h : UB x N) (hc : ¬ nI N ≤ x) (hN : N < 2 ^ 31 := by decide) : x.toNatClampNeg < N := by
  obtain ⟨k, hk, e⟩ := h
  rw [e, nI_leI (by omega) (by omega)] at hc
  rw [e, nI_clamp (by omega)]
  omega
theorem vin_cl {x : Int32} {N : Nat} (h0 : ¬ x < 0) (h : x.toNatClampNeg < N) : vp_in x N := fun z => z.elim h0 (fun z => by omega)
theorem vin_of {x L : Int32} {N : Nat} (hL : L = nI N) (h0 : ¬ x < 0) (h1 : ¬ L ≤ x) (hN : N < 2 ^ 31 := by decide) : vp_in x N := by
  obtain ⟨j, hj, rfl⟩ := nI_of h0
  rw [hL, nI_leI hN hj] at h1
  exact vp_in_nI (by omega) hN
abbrev CNT (M : Mem) (r : Nat) : Prop := UB (M r 1) 6
theorem cnt_row {M M' : Mem} {r : Nat} (h : M' r = M r) (hc : CNT M r) : CNT M' r := by unfold CNT; rw [h]; exact hc
def fX7_quotient (M : Mem) (x : Int32) (y : Int32) : Int32 := if y = 0 then (0 : Int32) else (x / y)
set_option maxHeartbeats 4000000 in
set_option maxRecDepth 100000 in
/-- a quotient, 0 where the divisor is 0 -/
theorem c_X7_quotient (l : Launch) (D : va_G) (cy : Nat → ClassId) (b n : Nat) (hn : 124 ≤ n) (M : Mem) (x : Int32) (y : Int32)  : Met l yX7_quotient wsX7_quotient ({ frames := 0, cells := 0, slots := 0, locals := 0 } : Room) (CP D cy b n fT M [.int x, .int y]) (CQi D cy b n fT (fX7_quotient M x y) M) 0 0 (fr b) := by
  refine Met.ofW (cc := cX7_quotient) (maxL := 2) (ret := (some .int)) (by decide) rfl ?_
  intro p e s m args below meth c s₁ B hml hv
  obtain ⟨rfl, hP, hK, hX⟩ := hv
  have hx := B.exec
  have hb := B.bytes
  have hr := B.returns
  have hts := atoms_spec (ws := wsX7_quotient) B.pre
  have hown : s.vm.findClass RX7 = some m.cls := findClass_of_methodNamed B.named
  have hlocks := B.notSynchronized
  have hS : va_S (fr b) s.heap s.heap [] := va_S.rf
  have hl := lv_entry ([.int x, .int y]) (n := 2) (Nat.le_of_ble_eq_true rfl)
  rw [lg_entry_eq]
  generalize (lg_sl ([.int x, .int y]) ++ List.replicate (2 - (lg_sl ([.int x, .int y])).length) Slot.unset).toArray = ls at hl ⊢
  have hl : lv_has ls 2 [(0, .int x), (1, .int y)] := hl
  refine lv_iload_n hx hb dX7_quotient_0 rfl (lv_at hl 1 rfl) ?_
  refine lv_if_ne (tgt := 8) hx hb dX7_quotient_1 (by decide) (fun c1 => ?_) (fun c1 => ?_)
  · refine lv_iload_n hx hb dX7_quotient_8 rfl (lv_at hl 0 rfl) ?_
    refine lv_iload_n hx hb dX7_quotient_9 rfl (lv_at hl 1 rfl) ?_
    refine lv_idiv hx hb dX7_quotient_10 c1 ?_
    exact xe_i hx hb hr hlocks hP hS rfl rfl (by rw [fX7_quotient, if_neg c1] <;> rfl) (Nat.le_of_ble_eq_true rfl) (Nat.le_of_ble_eq_true rfl) dX7_quotient_11
  · refine lv_iconst (v := 0) hx hb dX7_quotient_4 (by decide) ?_
    refine lv_goto (tgt := 11) hx hb dX7_quotient_5 (by decide) ?_
    exact xe_i hx hb hr hlocks hP hS rfl rfl (by rw [fX7_quotient, if_pos c1] <;> rfl) (Nat.le_of_ble_eq_true rfl) (Nat.le_of_ble_eq_true rfl) dX7_quotient_11
def fX7_fixedPointOr (M : Mem) (x : Int32) (y : Int32) : Int32 := if x < 0 then y else (if (4 : Int32) ≤ x then y else (fpV x.toNatClampNeg))
set_option maxHeartbeats 4000000 in
set_option maxRecDepth 100000 in
/-- a fixed point, or what is given -/
theorem c_X7_fixedPointOr (l : Launch) (D : va_G) (cy : Nat → ClassId) (b n : Nat) (hn : 124 ≤ n) (M : Mem) (x : Int32) (y : Int32)  : Met l yX7_fixedPointOr wsX7_fixedPointOr ({ frames := 0, cells := 0, slots := 0, locals := 0 } : Room) (CP D cy b n fT M [.int x, .int y]) (CQi D cy b n fT (fX7_fixedPointOr M x y) M) 0 0 (fr b) := by
  refine Met.ofW (cc := cX7_fixedPointOr) (maxL := 2) (ret := (some .int)) (by decide) rfl ?_
  intro p e s m args below meth c s₁ B hml hv
  obtain ⟨rfl, hP, hK, hX⟩ := hv
  have hx := B.exec
  have hb := B.bytes
  have hr := B.returns
  have hts := atoms_spec (ws := wsX7_fixedPointOr) B.pre
  have hown : s.vm.findClass RX7 = some m.cls := findClass_of_methodNamed B.named
  have hlocks := B.notSynchronized
  have lk0 := hts (.fieldLink RX7 322 "HygrometerRoom" "FIXED_POINTS" "[I") (by decide +kernel)
  obtain ⟨⟨t, hZ, hT⟩, -⟩ := id hX
  have hS : va_S (fr b) s.heap s.heap [] := va_S.rf
  have hl := lv_entry ([.int x, .int y]) (n := 2) (Nat.le_of_ble_eq_true rfl)
  rw [lg_entry_eq]
  generalize (lg_sl ([.int x, .int y]) ++ List.replicate (2 - (lg_sl ([.int x, .int y])).length) Slot.unset).toArray = ls at hl ⊢
  have hl : lv_has ls 2 [(0, .int x), (1, .int y)] := hl
  refine lv_iload_n hx hb dX7_fixedPointOr_0 rfl (lv_at hl 0 rfl) ?_
  refine lv_if_lt (tgt := 20) hx hb dX7_fixedPointOr_1 (by decide) (fun c1 => ?_) (fun c1 => ?_)
  · refine lv_iload_n hx hb dX7_fixedPointOr_20 rfl (lv_at hl 1 rfl) ?_
    exact xe_i hx hb hr hlocks hP hS rfl rfl (by rw [fX7_fixedPointOr, if_pos c1] <;> rfl) (Nat.le_of_ble_eq_true rfl) (Nat.le_of_ble_eq_true rfl) dX7_fixedPointOr_21
  · refine lv_iload_n hx hb dX7_fixedPointOr_4 rfl (lv_at hl 0 rfl) ?_
    refine va_gets hx hb hZ hS hown lk0 (fun _ h => h) dX7_fixedPointOr_5 ?_
    refine xfl (t := t) hx hb hT hS dX7_fixedPointOr_8 ?_
    refine lv_icmp_ge (tgt := 20) hx hb dX7_fixedPointOr_9 (by decide) (fun c9 => ?_) (fun c9 => ?_)
    · refine lv_iload_n hx hb dX7_fixedPointOr_20 rfl (lv_at hl 1 rfl) ?_
      exact xe_i hx hb hr hlocks hP hS rfl rfl (by rw [fX7_fixedPointOr, if_neg c1, if_pos c9] <;> rfl) (Nat.le_of_ble_eq_true rfl) (Nat.le_of_ble_eq_true rfl) dX7_fixedPointOr_21
    · refine va_gets hx hb hZ hS hown lk0 (fun _ h => h) dX7_fixedPointOr_12 ?_
      refine lv_iload_n hx hb dX7_fixedPointOr_15 rfl (lv_at hl 0 rfl) ?_
      refine xfp (t := t) hx hb hT hS (vin_of (N := 4) rfl c1 c9) dX7_fixedPointOr_16 ?_
      refine lv_goto (tgt := 21) hx hb dX7_fixedPointOr_17 (by decide) ?_
      exact xe_i hx hb hr hlocks hP hS rfl rfl (by rw [fX7_fixedPointOr, if_neg c1, if_neg c9] <;> rfl) (Nat.le_of_ble_eq_true rfl) (Nat.le_of_ble_eq_true rfl) dX7_fixedPointOr_21
def fX7_isSalt (M : Mem) (x : Int32) : Int32 := if x < 0 then (0 : Int32) else (if (4 : Int32) ≤ x then (0 : Int32) else (1 : Int32))
set_option maxHeartbeats 4000000 in
set_option maxRecDepth 100000 in
theorem c_X7_isSalt (l : Launch) (D : va_G) (cy : Nat → ClassId) (b n : Nat) (hn : 124 ≤ n) (M : Mem) (x : Int32)  : Met l yX7_isSalt wsX7_isSalt ({ frames := 0, cells := 0, slots := 0, locals := 0 } : Room) (CP D cy b n fT M [.int x]) (CQi D cy b n fT (fX7_isSalt M x) M) 0 0 (fr b) := by
  refine Met.ofW (cc := cX7_isSalt) (maxL := 1) (ret := (some .boolean)) (by decide) rfl ?_
  intro p e s m args below meth c s₁ B hml hv
  obtain ⟨rfl, hP, hK, hX⟩ := hv
  have hx := B.exec
  have hb := B.bytes
  have hr := B.returns
  have hts := atoms_spec (ws := wsX7_isSalt) B.pre
  have hown : s.vm.findClass RX7 = some m.cls := findClass_of_methodNamed B.named
  have hlocks := B.notSynchronized
  have lk0 := hts (.fieldLink RX7 322 "HygrometerRoom" "FIXED_POINTS" "[I") (by decide +kernel)
  obtain ⟨⟨t, hZ, hT⟩, -⟩ := id hX
  have hS : va_S (fr b) s.heap s.heap [] := va_S.rf
  have hl := lv_entry ([.int x]) (n := 1) (Nat.le_of_ble_eq_true rfl)
  rw [lg_entry_eq]
  generalize (lg_sl ([.int x]) ++ List.replicate (1 - (lg_sl ([.int x])).length) Slot.unset).toArray = ls at hl ⊢
  have hl : lv_has ls 1 [(0, .int x)] := hl
  refine lv_iload_n hx hb dX7_isSalt_0 rfl (lv_at hl 0 rfl) ?_
  refine lv_if_lt (tgt := 16) hx hb dX7_isSalt_1 (by decide) (fun c1 => ?_) (fun c1 => ?_)
  · refine lv_iconst (v := 0) hx hb dX7_isSalt_16 (by decide) ?_
    exact xe_z hx hb hr hlocks hP hS rfl rfl (by rw [fX7_isSalt, if_pos c1] <;> rfl) rfl (Nat.le_of_ble_eq_true rfl) (Nat.le_of_ble_eq_true rfl) dX7_isSalt_17
  · refine lv_iload_n hx hb dX7_isSalt_4 rfl (lv_at hl 0 rfl) ?_
    refine va_gets hx hb hZ hS hown lk0 (fun _ h => h) dX7_isSalt_5 ?_
    refine xfl (t := t) hx hb hT hS dX7_isSalt_8 ?_
    refine lv_icmp_ge (tgt := 16) hx hb dX7_isSalt_9 (by decide) (fun c9 => ?_) (fun c9 => ?_)
    · refine lv_iconst (v := 0) hx hb dX7_isSalt_16 (by decide) ?_
      exact xe_z hx hb hr hlocks hP hS rfl rfl (by rw [fX7_isSalt, if_neg c1, if_pos c9] <;> rfl) rfl (Nat.le_of_ble_eq_true rfl) (Nat.le_of_ble_eq_true rfl) dX7_isSalt_17
    · refine lv_iconst (v := 1) hx hb dX7_isSalt_12 (by decide) ?_
      refine lv_goto (tgt := 17) hx hb dX7_isSalt_13 (by decide) ?_
      exact xe_z hx hb hr hlocks hP hS rfl rfl (by rw [fX7_isSalt, if_neg c1, if_neg c9] <;> rfl) rfl (Nat.le_of_ble_eq_true rfl) (Nat.le_of_ble_eq_true rfl) dX7_isSalt_17
def fX7_isSlot (M : Mem) (x : Int32) : Int32 := if x < 0 then (0 : Int32) else (if (2 : Int32) ≤ x then (0 : Int32) else (1 : Int32))
set_option maxHeartbeats 4000000 in
set_option maxRecDepth 100000 in
theorem c_X7_isSlot (l : Launch) (D : va_G) (cy : Nat → ClassId) (b n : Nat) (hn : 124 ≤ n) (M : Mem) (x : Int32)  : Met l yX7_isSlot wsX7_isSlot ({ frames := 0, cells := 0, slots := 0, locals := 0 } : Room) (CP D cy b n fT M [.int x]) (CQi D cy b n fT (fX7_isSlot M x) M) 0 0 (fr b) := by
  refine Met.ofW (cc := cX7_isSlot) (maxL := 1) (ret := (some .boolean)) (by decide) rfl ?_
  intro p e s m args below meth c s₁ B hml hv
  obtain ⟨rfl, hP, hK, hX⟩ := hv
  have hx := B.exec
  have hb := B.bytes
  have hr := B.returns
  have hts := atoms_spec (ws := wsX7_isSlot) B.pre
  have hown : s.vm.findClass RX7 = some m.cls := findClass_of_methodNamed B.named
  have hlocks := B.notSynchronized
  have hS : va_S (fr b) s.heap s.heap [] := va_S.rf
  have hl := lv_entry ([.int x]) (n := 1) (Nat.le_of_ble_eq_true rfl)
  rw [lg_entry_eq]
  generalize (lg_sl ([.int x]) ++ List.replicate (1 - (lg_sl ([.int x])).length) Slot.unset).toArray = ls at hl ⊢
  have hl : lv_has ls 1 [(0, .int x)] := hl
  refine lv_iload_n hx hb dX7_isSlot_0 rfl (lv_at hl 0 rfl) ?_
  refine lv_if_lt (tgt := 13) hx hb dX7_isSlot_1 (by decide) (fun c1 => ?_) (fun c1 => ?_)
  · refine lv_iconst (v := 0) hx hb dX7_isSlot_13 (by decide) ?_
    exact xe_z hx hb hr hlocks hP hS rfl rfl (by rw [fX7_isSlot, if_pos c1] <;> rfl) rfl (Nat.le_of_ble_eq_true rfl) (Nat.le_of_ble_eq_true rfl) dX7_isSlot_14
  · refine lv_iload_n hx hb dX7_isSlot_4 rfl (lv_at hl 0 rfl) ?_
    refine lv_iconst (v := 2) hx hb dX7_isSlot_5 (by decide) ?_
    refine lv_icmp_ge (tgt := 13) hx hb dX7_isSlot_6 (by decide) (fun c6 => ?_) (fun c6 => ?_)
    · refine lv_iconst (v := 0) hx hb dX7_isSlot_13 (by decide) ?_
      exact xe_z hx hb hr hlocks hP hS rfl rfl (by rw [fX7_isSlot, if_neg c1, if_pos c6] <;> rfl) rfl (Nat.le_of_ble_eq_true rfl) (Nat.le_of_ble_eq_true rfl) dX7_isSlot_14
    · refine lv_iconst (v := 1) hx hb dX7_isSlot_9 (by decide) ?_
      refine lv_goto (tgt := 14) hx hb dX7_isSlot_10 (by decide) ?_
      exact xe_z hx hb hr hlocks hP hS rfl rfl (by rw [fX7_isSlot, if_neg c1, if_neg c6] <;> rfl) rfl (Nat.le_of_ble_eq_true rfl) (Nat.le_of_ble_eq_true rfl) dX7_isSlot_14
def gX1_clear (M : Mem) (o : Nat) : Mem := mU (mU (mU (mU (mU (mU (mU (mU (mU M o 0 (0 : Int32)) o 1 (0 : Int32)) o 2 (0 : Int32)) o 3 (0 : Int32)) o 4 (0 : Int32)) o 5 (0 : Int32)) o 6 (0 : Int32)) o 7 (0 : Int32)) o 8 ((-1) : Int32)
set_option maxHeartbeats 4000000 in
set_option maxRecDepth 100000 in
theorem c_X1_clear (l : Launch) (D : va_G) (cy : Nat → ClassId) (b n : Nat) (hn : 124 ≤ n) (M : Mem) (o : Nat) (h_o : kd o = 1) : Met l yX1_clear wsX1_clear ({ frames := 0, cells := 0, slots := 0, locals := 0 } : Room) (CP D cy b n fT M [.ref (b + o)]) (CQv D cy b n fT (gX1_clear M o)) 0 0 (fr b) := by
  refine Met.ofW (cc := cX1_clear) (maxL := 1) (ret := none) (by decide) rfl ?_
  intro p e s m args below meth c s₁ B hml hv
  obtain ⟨rfl, hP, hK, hX⟩ := hv
  have hx := B.exec
  have hb := B.bytes
  have hr := B.returns
  have hts := atoms_spec (ws := wsX1_clear) B.pre
  have hown : s.vm.findClass RX1 = some m.cls := findClass_of_methodNamed B.named
  have hlocks := B.notSynchronized
  have lk0 := hts (.fieldLink RX1 18 "HygrometerRoom$Instrument" "hair" "Z") (by decide +kernel)
  have lk1 := hts (.fieldLink RX1 22 "HygrometerRoom$Instrument" "hairs" "I") (by decide +kernel)
  have lk2 := hts (.fieldLink RX1 25 "HygrometerRoom$Instrument" "hairsAtFirst" "I") (by decide +kernel)
  have lk3 := hts (.fieldLink RX1 34 "HygrometerRoom$Instrument" "broken" "I") (by decide +kernel)
  have lk4 := hts (.fieldLink RX1 28 "HygrometerRoom$Instrument" "wetness" "I") (by decide +kernel)
  have lk5 := hts (.fieldLink RX1 37 "HygrometerRoom$Instrument" "slack" "I") (by decide +kernel)
  have lk6 := hts (.fieldLink RX1 31 "HygrometerRoom$Instrument" "water" "I") (by decide +kernel)
  have lk7 := hts (.fieldLink RX1 40 "HygrometerRoom$Instrument" "zero" "I") (by decide +kernel)
  have lk8 := hts (.fieldLink RX1 9 "HygrometerRoom$Instrument" "box" "I") (by decide +kernel)
  have inc1 : ∀ w ∈ u_ws RX1 TX1 9, w ∈ wsX1_clear := by decide +kernel
  have hS : va_S (fr b) s.heap s.heap [] := va_S.rf
  have hl := lv_entry ([.ref (b + o)]) (n := 1) (Nat.le_of_ble_eq_true rfl)
  rw [lg_entry_eq]
  generalize (lg_sl ([.ref (b + o)]) ++ List.replicate (1 - (lg_sl ([.ref (b + o)])).length) Slot.unset).toArray = ls at hl ⊢
  have hl : lv_has ls 1 [(0, .ref (b + o))] := hl
  refine lv_aload_n hx hb dX1_clear_0 rfl (lv_at hl 0 rfl) ?_
  refine lv_iconst (v := 0) hx hb dX1_clear_1 (by decide) ?_
  refine xp (C := RX1) (T := TX1) (N := 9) (ci := 1) (ty := .boolean) (x := (0 : Int32)) hx hb hts inc1 tyX1 tyX1_ok nmX1 hown hK hP hS (kI_lt h_o hn) (fun _ => cell1 h_o) rfl 0 (by decide) rfl lk0 (fun _ h => h) rfl (tyX1_ok 0 (by decide)) rfl rfl (Nat.le_of_ble_eq_true rfl) dX1_clear_2 (fun H locs hP hS => ?_)
  refine lv_aload_n hx hb dX1_clear_5 rfl (lv_at hl 0 rfl) ?_
  refine lv_iconst (v := 0) hx hb dX1_clear_6 (by decide) ?_
  refine xp (C := RX1) (T := TX1) (N := 9) (ci := 1) (ty := .int) (x := (0 : Int32)) hx hb hts inc1 tyX1 tyX1_ok nmX1 hown hK hP hS (kI_lt h_o hn) (fun _ => cell1 h_o) rfl 1 (by decide) rfl lk1 (fun _ h => h) rfl (tyX1_ok 1 (by decide)) rfl rfl (Nat.le_of_ble_eq_true rfl) dX1_clear_7 (fun H locs hP hS => ?_)
  refine lv_aload_n hx hb dX1_clear_10 rfl (lv_at hl 0 rfl) ?_
  refine lv_iconst (v := 0) hx hb dX1_clear_11 (by decide) ?_
  refine xp (C := RX1) (T := TX1) (N := 9) (ci := 1) (ty := .int) (x := (0 : Int32)) hx hb hts inc1 tyX1 tyX1_ok nmX1 hown hK hP hS (kI_lt h_o hn) (fun _ => cell1 h_o) rfl 2 (by decide) rfl lk2 (fun _ h => h) rfl (tyX1_ok 2 (by decide)) rfl rfl (Nat.le_of_ble_eq_true rfl) dX1_clear_12 (fun H locs hP hS => ?_)
  refine lv_aload_n hx hb dX1_clear_15 rfl (lv_at hl 0 rfl) ?_
  refine lv_iconst (v := 0) hx hb dX1_clear_16 (by decide) ?_
  refine xp (C := RX1) (T := TX1) (N := 9) (ci := 1) (ty := .int) (x := (0 : Int32)) hx hb hts inc1 tyX1 tyX1_ok nmX1 hown hK hP hS (kI_lt h_o hn) (fun _ => cell1 h_o) rfl 3 (by decide) rfl lk3 (fun _ h => h) rfl (tyX1_ok 3 (by decide)) rfl rfl (Nat.le_of_ble_eq_true rfl) dX1_clear_17 (fun H locs hP hS => ?_)
  refine lv_aload_n hx hb dX1_clear_20 rfl (lv_at hl 0 rfl) ?_
  refine lv_iconst (v := 0) hx hb dX1_clear_21 (by decide) ?_
  refine xp (C := RX1) (T := TX1) (N := 9) (ci := 1) (ty := .int) (x := (0 : Int32)) hx hb hts inc1 tyX1 tyX1_ok nmX1 hown hK hP hS (kI_lt h_o hn) (fun _ => cell1 h_o) rfl 4 (by decide) rfl lk4 (fun _ h => h) rfl (tyX1_ok 4 (by decide)) rfl rfl (Nat.le_of_ble_eq_true rfl) dX1_clear_22 (fun H locs hP hS => ?_)
  refine lv_aload_n hx hb dX1_clear_25 rfl (lv_at hl 0 rfl) ?_
  refine lv_iconst (v := 0) hx hb dX1_clear_26 (by decide) ?_
  refine xp (C := RX1) (T := TX1) (N := 9) (ci := 1) (ty := .int) (x := (0 : Int32)) hx hb hts inc1 tyX1 tyX1_ok nmX1 hown hK hP hS (kI_lt h_o hn) (fun _ => cell1 h_o) rfl 5 (by decide) rfl lk5 (fun _ h => h) rfl (tyX1_ok 5 (by decide)) rfl rfl (Nat.le_of_ble_eq_true rfl) dX1_clear_27 (fun H locs hP hS => ?_)
  refine lv_aload_n hx hb dX1_clear_30 rfl (lv_at hl 0 rfl) ?_
  refine lv_iconst (v := 0) hx hb dX1_clear_31 (by decide) ?_
  refine xp (C := RX1) (T := TX1) (N := 9) (ci := 1) (ty := .int) (x := (0 : Int32)) hx hb hts inc1 tyX1 tyX1_ok nmX1 hown hK hP hS (kI_lt h_o hn) (fun _ => cell1 h_o) rfl 6 (by decide) rfl lk6 (fun _ h => h) rfl (tyX1_ok 6 (by decide)) rfl rfl (Nat.le_of_ble_eq_true rfl) dX1_clear_32 (fun H locs hP hS => ?_)
  refine lv_aload_n hx hb dX1_clear_35 rfl (lv_at hl 0 rfl) ?_
  refine lv_iconst (v := 0) hx hb dX1_clear_36 (by decide) ?_
  refine xp (C := RX1) (T := TX1) (N := 9) (ci := 1) (ty := .int) (x := (0 : Int32)) hx hb hts inc1 tyX1 tyX1_ok nmX1 hown hK hP hS (kI_lt h_o hn) (fun _ => cell1 h_o) rfl 7 (by decide) rfl lk7 (fun _ h => h) rfl (tyX1_ok 7 (by decide)) rfl rfl (Nat.le_of_ble_eq_true rfl) dX1_clear_37 (fun H locs hP hS => ?_)
  refine lv_aload_n hx hb dX1_clear_40 rfl (lv_at hl 0 rfl) ?_
  refine lv_iconst (v := (-1)) hx hb dX1_clear_41 (by decide) ?_
  refine xp (C := RX1) (T := TX1) (N := 9) (ci := 1) (ty := .int) (x := ((-1) : Int32)) hx hb hts inc1 tyX1 tyX1_ok nmX1 hown hK hP hS (kI_lt h_o hn) (fun _ => cell1 h_o) rfl 8 (by decide) rfl lk8 (fun _ h => h) rfl (tyX1_ok 8 (by decide)) rfl rfl (Nat.le_of_ble_eq_true rfl) dX1_clear_42 (fun H locs hP hS => ?_)
  exact xe_v hx hb hr hlocks hP hS rfl (by rw [gX1_clear] <;> rfl) (Nat.le_of_ble_eq_true rfl) (Nat.le_of_ble_eq_true rfl) dX1_clear_45
def gX1_becomeHair (M : Mem) (o : Nat) (x : Int32) (y : Int32) : Mem := mU (mU (mU (mU (gX1_clear M o) o 0 (1 : Int32)) o 1 x) o 2 x) o 4 y
set_option maxHeartbeats 4000000 in
set_option maxRecDepth 100000 in
theorem c_X1_becomeHair (l : Launch) (D : va_G) (cy : Nat → ClassId) (b n : Nat) (hn : 124 ≤ n) (M : Mem) (o : Nat) (x : Int32) (y : Int32) (h_o : kd o = 1) : Met l yX1_becomeHair wsX1_becomeHair ({ frames := 1, cells := 0, slots := 0, locals := 20 } : Room) (CP D cy b n fT M [.ref (b + o), .int x, .int y]) (CQv D cy b n fT (gX1_becomeHair M o x y)) 0 0 (fr b) := by
  refine Met.ofW (cc := cX1_becomeHair) (maxL := 3) (ret := none) (by decide) rfl ?_
  intro p e s m args below meth c s₁ B hml hv
  obtain ⟨rfl, hP, hK, hX⟩ := hv
  have hx := B.exec
  have hb := B.bytes
  have hr := B.returns
  have hts := atoms_spec (ws := wsX1_becomeHair) B.pre
  have hown : s.vm.findClass RX1 = some m.cls := findClass_of_methodNamed B.named
  have hlocks := B.notSynchronized
  have lk0 := hts (.fieldLink RX1 18 "HygrometerRoom$Instrument" "hair" "Z") (by decide +kernel)
  have lk1 := hts (.fieldLink RX1 22 "HygrometerRoom$Instrument" "hairs" "I") (by decide +kernel)
  have lk2 := hts (.fieldLink RX1 25 "HygrometerRoom$Instrument" "hairsAtFirst" "I") (by decide +kernel)
  have lk3 := hts (.fieldLink RX1 28 "HygrometerRoom$Instrument" "wetness" "I") (by decide +kernel)
  have inc1 : ∀ w ∈ u_ws RX1 TX1 9, w ∈ wsX1_becomeHair := by decide +kernel
  have hS : va_S (fr b) s.heap s.heap [] := va_S.rf
  have hl := lv_entry ([.ref (b + o), .int x, .int y]) (n := 3) (Nat.le_of_ble_eq_true rfl)
  rw [lg_entry_eq]
  generalize (lg_sl ([.ref (b + o), .int x, .int y]) ++ List.replicate (3 - (lg_sl ([.ref (b + o), .int x, .int y])).length) Slot.unset).toArray = ls at hl ⊢
  have hl : lv_has ls 3 [(0, .ref (b + o)), (1, .int x), (2, .int y)] := hl
  refine lv_aload_n hx hb dX1_becomeHair_0 rfl (lv_at hl 0 rfl) ?_
  refine xc_v (va_runV (As := []) (rest := []) ⟨hx, hb, hml, hown, hts⟩ (c_X1_clear l D cy b n hn M o h_o) (cwV 0 hts gX1_becomeHair_X1_clear rfl rfl rfl (by decide +kernel) ⟨Nat.le_of_ble_eq_true rfl, Nat.le_of_ble_eq_true rfl⟩) (xPreV hP hK hX hS (kI_lt h_o hn) (cell1 h_o) rfl) rfl rfl hl.1 rfl (lv_room (Nat.le_of_ble_eq_true rfl)) dX1_becomeHair_1 ⟨Nat.le_of_ble_eq_true rfl, Nat.le_of_ble_eq_true rfl⟩) hS (fun H locs hP hS => ?_)
  refine lv_aload_n hx hb dX1_becomeHair_4 rfl (lv_at hl 0 rfl) ?_
  refine lv_iconst (v := 1) hx hb dX1_becomeHair_5 (by decide) ?_
  refine xp (C := RX1) (T := TX1) (N := 9) (ci := 1) (ty := .boolean) (x := (1 : Int32)) hx hb hts inc1 tyX1 tyX1_ok nmX1 hown hK hP hS (kI_lt h_o hn) (fun _ => cell1 h_o) rfl 0 (by decide) rfl lk0 (fun _ h => h) rfl (tyX1_ok 0 (by decide)) rfl rfl (Nat.le_of_ble_eq_true rfl) dX1_becomeHair_6 (fun H locs hP hS => ?_)
  refine lv_aload_n hx hb dX1_becomeHair_9 rfl (lv_at hl 0 rfl) ?_
  refine lv_iload_n hx hb dX1_becomeHair_10 rfl (lv_at hl 1 rfl) ?_
  refine xp (C := RX1) (T := TX1) (N := 9) (ci := 1) (ty := .int) (x := x) hx hb hts inc1 tyX1 tyX1_ok nmX1 hown hK hP hS (kI_lt h_o hn) (fun _ => cell1 h_o) rfl 1 (by decide) rfl lk1 (fun _ h => h) rfl (tyX1_ok 1 (by decide)) rfl rfl (Nat.le_of_ble_eq_true rfl) dX1_becomeHair_11 (fun H locs hP hS => ?_)
  refine lv_aload_n hx hb dX1_becomeHair_14 rfl (lv_at hl 0 rfl) ?_
  refine lv_iload_n hx hb dX1_becomeHair_15 rfl (lv_at hl 1 rfl) ?_
  refine xp (C := RX1) (T := TX1) (N := 9) (ci := 1) (ty := .int) (x := x) hx hb hts inc1 tyX1 tyX1_ok nmX1 hown hK hP hS (kI_lt h_o hn) (fun _ => cell1 h_o) rfl 2 (by decide) rfl lk2 (fun _ h => h) rfl (tyX1_ok 2 (by decide)) rfl rfl (Nat.le_of_ble_eq_true rfl) dX1_becomeHair_16 (fun H locs hP hS => ?_)
  refine lv_aload_n hx hb dX1_becomeHair_19 rfl (lv_at hl 0 rfl) ?_
  refine lv_iload_n hx hb dX1_becomeHair_20 rfl (lv_at hl 2 rfl) ?_
  refine xp (C := RX1) (T := TX1) (N := 9) (ci := 1) (ty := .int) (x := y) hx hb hts inc1 tyX1 tyX1_ok nmX1 hown hK hP hS (kI_lt h_o hn) (fun _ => cell1 h_o) rfl 4 (by decide) rfl lk3 (fun _ h => h) rfl (tyX1_ok 4 (by decide)) rfl rfl (Nat.le_of_ble_eq_true rfl) dX1_becomeHair_21 (fun H locs hP hS => ?_)
  exact xe_v hx hb hr hlocks hP hS rfl (by rw [gX1_becomeHair] <;> rfl) (Nat.le_of_ble_eq_true rfl) (Nat.le_of_ble_eq_true rfl) dX1_becomeHair_24
def gX1_becomeBulb (M : Mem) (o : Nat) (x : Int32) : Mem := mU (gX1_clear M o) o 6 x
set_option maxHeartbeats 4000000 in
set_option maxRecDepth 100000 in
theorem c_X1_becomeBulb (l : Launch) (D : va_G) (cy : Nat → ClassId) (b n : Nat) (hn : 124 ≤ n) (M : Mem) (o : Nat) (x : Int32) (h_o : kd o = 1) : Met l yX1_becomeBulb wsX1_becomeBulb ({ frames := 1, cells := 0, slots := 0, locals := 20 } : Room) (CP D cy b n fT M [.ref (b + o), .int x]) (CQv D cy b n fT (gX1_becomeBulb M o x)) 0 0 (fr b) := by
  refine Met.ofW (cc := cX1_becomeBulb) (maxL := 2) (ret := none) (by decide) rfl ?_
  intro p e s m args below meth c s₁ B hml hv
  obtain ⟨rfl, hP, hK, hX⟩ := hv
  have hx := B.exec
  have hb := B.bytes
  have hr := B.returns
  have hts := atoms_spec (ws := wsX1_becomeBulb) B.pre
  have hown : s.vm.findClass RX1 = some m.cls := findClass_of_methodNamed B.named
  have hlocks := B.notSynchronized
  have lk0 := hts (.fieldLink RX1 31 "HygrometerRoom$Instrument" "water" "I") (by decide +kernel)
  have inc1 : ∀ w ∈ u_ws RX1 TX1 9, w ∈ wsX1_becomeBulb := by decide +kernel
  have hS : va_S (fr b) s.heap s.heap [] := va_S.rf
  have hl := lv_entry ([.ref (b + o), .int x]) (n := 2) (Nat.le_of_ble_eq_true rfl)
  rw [lg_entry_eq]
  generalize (lg_sl ([.ref (b + o), .int x]) ++ List.replicate (2 - (lg_sl ([.ref (b + o), .int x])).length) Slot.unset).toArray = ls at hl ⊢
  have hl : lv_has ls 2 [(0, .ref (b + o)), (1, .int x)] := hl
  refine lv_aload_n hx hb dX1_becomeBulb_0 rfl (lv_at hl 0 rfl) ?_
  refine xc_v (va_runV (As := []) (rest := []) ⟨hx, hb, hml, hown, hts⟩ (c_X1_clear l D cy b n hn M o h_o) (cwV 0 hts gX1_becomeBulb_X1_clear rfl rfl rfl (by decide +kernel) ⟨Nat.le_of_ble_eq_true rfl, Nat.le_of_ble_eq_true rfl⟩) (xPreV hP hK hX hS (kI_lt h_o hn) (cell1 h_o) rfl) rfl rfl hl.1 rfl (lv_room (Nat.le_of_ble_eq_true rfl)) dX1_becomeBulb_1 ⟨Nat.le_of_ble_eq_true rfl, Nat.le_of_ble_eq_true rfl⟩) hS (fun H locs hP hS => ?_)
  refine lv_aload_n hx hb dX1_becomeBulb_4 rfl (lv_at hl 0 rfl) ?_
  refine lv_iload_n hx hb dX1_becomeBulb_5 rfl (lv_at hl 1 rfl) ?_
  refine xp (C := RX1) (T := TX1) (N := 9) (ci := 1) (ty := .int) (x := x) hx hb hts inc1 tyX1 tyX1_ok nmX1 hown hK hP hS (kI_lt h_o hn) (fun _ => cell1 h_o) rfl 6 (by decide) rfl lk0 (fun _ h => h) rfl (tyX1_ok 6 (by decide)) rfl rfl (Nat.le_of_ble_eq_true rfl) dX1_becomeBulb_6 (fun H locs hP hS => ?_)
  exact xe_v hx hb hr hlocks hP hS rfl (by rw [gX1_becomeBulb] <;> rfl) (Nat.le_of_ble_eq_true rfl) (Nat.le_of_ble_eq_true rfl) dX1_becomeBulb_9
def gX1_copyFrom (M : Mem) (o : Nat) (q : Nat) : Mem := mU (mU (mU (mU (mU (mU (mU (mU (mU M o 0 (bv (M q 0))) o 1 ((mU M o 0 (bv (M q 0))) q 1)) o 2 ((mU (mU M o 0 (bv (M q 0))) o 1 ((mU M o 0 (bv (M q 0))) q 1)) q 2)) o 3 ((mU (mU (mU M o 0 (bv (M q 0))) o 1 ((mU M o 0 (bv (M q 0))) q 1)) o 2 ((mU (mU M o 0 (bv (M q 0))) o 1 ((mU M o 0 (bv (M q 0))) q 1)) q 2)) q 3)) o 4 ((mU (mU (mU (mU M o 0 (bv (M q 0))) o 1 ((mU M o 0 (bv (M q 0))) q 1)) o 2 ((mU (mU M o 0 (bv (M q 0))) o 1 ((mU M o 0 (bv (M q 0))) q 1)) q 2)) o 3 ((mU (mU (mU M o 0 (bv (M q 0))) o 1 ((mU M o 0 (bv (M q 0))) q 1)) o 2 ((mU (mU M o 0 (bv (M q 0))) o 1 ((mU M o 0 (bv (M q 0))) q 1)) q 2)) q 3)) q 4)) o 5 ((mU (mU (mU (mU (mU M o 0 (bv (M q 0))) o 1 ((mU M o 0 (bv (M q 0))) q 1)) o 2 ((mU (mU M o 0 (bv (M q 0))) o 1 ((mU M o 0 (bv (M q 0))) q 1)) q 2)) o 3 ((mU (mU (mU M o 0 (bv (M q 0))) o 1 ((mU M o 0 (bv (M q 0))) q 1)) o 2 ((mU (mU M o 0 (bv (M q 0))) o 1 ((mU M o 0 (bv (M q 0))) q 1)) q 2)) q 3)) o 4 ((mU (mU (mU (mU M o 0 (bv (M q 0))) o 1 ((mU M o 0 (bv (M q 0))) q 1)) o 2 ((mU (mU M o 0 (bv (M q 0))) o 1 ((mU M o 0 (bv (M q 0))) q 1)) q 2)) o 3 ((mU (mU (mU M o 0 (bv (M q 0))) o 1 ((mU M o 0 (bv (M q 0))) q 1)) o 2 ((mU (mU M o 0 (bv (M q 0))) o 1 ((mU M o 0 (bv (M q 0))) q 1)) q 2)) q 3)) q 4)) q 5)) o 6 ((mU (mU (mU (mU (mU (mU M o 0 (bv (M q 0))) o 1 ((mU M o 0 (bv (M q 0))) q 1)) o 2 ((mU (mU M o 0 (bv (M q 0))) o 1 ((mU M o 0 (bv (M q 0))) q 1)) q 2)) o 3 ((mU (mU (mU M o 0 (bv (M q 0))) o 1 ((mU M o 0 (bv (M q 0))) q 1)) o 2 ((mU (mU M o 0 (bv (M q 0))) o 1 ((mU M o 0 (bv (M q 0))) q 1)) q 2)) q 3)) o 4 ((mU (mU (mU (mU M o 0 (bv (M q 0))) o 1 ((mU M o 0 (bv (M q 0))) q 1)) o 2 ((mU (mU M o 0 (bv (M q 0))) o 1 ((mU M o 0 (bv (M q 0))) q 1)) q 2)) o 3 ((mU (mU (mU M o 0 (bv (M q 0))) o 1 ((mU M o 0 (bv (M q 0))) q 1)) o 2 ((mU (mU M o 0 (bv (M q 0))) o 1 ((mU M o 0 (bv (M q 0))) q 1)) q 2)) q 3)) q 4)) o 5 ((mU (mU (mU (mU (mU M o 0 (bv (M q 0))) o 1 ((mU M o 0 (bv (M q 0))) q 1)) o 2 ((mU (mU M o 0 (bv (M q 0))) o 1 ((mU M o 0 (bv (M q 0))) q 1)) q 2)) o 3 ((mU (mU (mU M o 0 (bv (M q 0))) o 1 ((mU M o 0 (bv (M q 0))) q 1)) o 2 ((mU (mU M o 0 (bv (M q 0))) o 1 ((mU M o 0 (bv (M q 0))) q 1)) q 2)) q 3)) o 4 ((mU (mU (mU (mU M o 0 (bv (M q 0))) o 1 ((mU M o 0 (bv (M q 0))) q 1)) o 2 ((mU (mU M o 0 (bv (M q 0))) o 1 ((mU M o 0 (bv (M q 0))) q 1)) q 2)) o 3 ((mU (mU (mU M o 0 (bv (M q 0))) o 1 ((mU M o 0 (bv (M q 0))) q 1)) o 2 ((mU (mU M o 0 (bv (M q 0))) o 1 ((mU M o 0 (bv (M q 0))) q 1)) q 2)) q 3)) q 4)) q 5)) q 6)) o 7 ((mU (mU (mU (mU (mU (mU (mU M o 0 (bv (M q 0))) o 1 ((mU M o 0 (bv (M q 0))) q 1)) o 2 ((mU (mU M o 0 (bv (M q 0))) o 1 ((mU M o 0 (bv (M q 0))) q 1)) q 2)) o 3 ((mU (mU (mU M o 0 (bv (M q 0))) o 1 ((mU M o 0 (bv (M q 0))) q 1)) o 2 ((mU (mU M o 0 (bv (M q 0))) o 1 ((mU M o 0 (bv (M q 0))) q 1)) q 2)) q 3)) o 4 ((mU (mU (mU (mU M o 0 (bv (M q 0))) o 1 ((mU M o 0 (bv (M q 0))) q 1)) o 2 ((mU (mU M o 0 (bv (M q 0))) o 1 ((mU M o 0 (bv (M q 0))) q 1)) q 2)) o 3 ((mU (mU (mU M o 0 (bv (M q 0))) o 1 ((mU M o 0 (bv (M q 0))) q 1)) o 2 ((mU (mU M o 0 (bv (M q 0))) o 1 ((mU M o 0 (bv (M q 0))) q 1)) q 2)) q 3)) q 4)) o 5 ((mU (mU (mU (mU (mU M o 0 (bv (M q 0))) o 1 ((mU M o 0 (bv (M q 0))) q 1)) o 2 ((mU (mU M o 0 (bv (M q 0))) o 1 ((mU M o 0 (bv (M q 0))) q 1)) q 2)) o 3 ((mU (mU (mU M o 0 (bv (M q 0))) o 1 ((mU M o 0 (bv (M q 0))) q 1)) o 2 ((mU (mU M o 0 (bv (M q 0))) o 1 ((mU M o 0 (bv (M q 0))) q 1)) q 2)) q 3)) o 4 ((mU (mU (mU (mU M o 0 (bv (M q 0))) o 1 ((mU M o 0 (bv (M q 0))) q 1)) o 2 ((mU (mU M o 0 (bv (M q 0))) o 1 ((mU M o 0 (bv (M q 0))) q 1)) q 2)) o 3 ((mU (mU (mU M o 0 (bv (M q 0))) o 1 ((mU M o 0 (bv (M q 0))) q 1)) o 2 ((mU (mU M o 0 (bv (M q 0))) o 1 ((mU M o 0 (bv (M q 0))) q 1)) q 2)) q 3)) q 4)) q 5)) o 6 ((mU (mU (mU (mU (mU (mU M o 0 (bv (M q 0))) o 1 ((mU M o 0 (bv (M q 0))) q 1)) o 2 ((mU (mU M o 0 (bv (M q 0))) o 1 ((mU M o 0 (bv (M q 0))) q 1)) q 2)) o 3 ((mU (mU (mU M o 0 (bv (M q 0))) o 1 ((mU M o 0 (bv (M q 0))) q 1)) o 2 ((mU (mU M o 0 (bv (M q 0))) o 1 ((mU M o 0 (bv (M q 0))) q 1)) q 2)) q 3)) o 4 ((mU (mU (mU (mU M o 0 (bv (M q 0))) o 1 ((mU M o 0 (bv (M q 0))) q 1)) o 2 ((mU (mU M o 0 (bv (M q 0))) o 1 ((mU M o 0 (bv (M q 0))) q 1)) q 2)) o 3 ((mU (mU (mU M o 0 (bv (M q 0))) o 1 ((mU M o 0 (bv (M q 0))) q 1)) o 2 ((mU (mU M o 0 (bv (M q 0))) o 1 ((mU M o 0 (bv (M q 0))) q 1)) q 2)) q 3)) q 4)) o 5 ((mU (mU (mU (mU (mU M o 0 (bv (M q 0))) o 1 ((mU M o 0 (bv (M q 0))) q 1)) o 2 ((mU (mU M o 0 (bv (M q 0))) o 1 ((mU M o 0 (bv (M q 0))) q 1)) q 2)) o 3 ((mU (mU (mU M o 0 (bv (M q 0))) o 1 ((mU M o 0 (bv (M q 0))) q 1)) o 2 ((mU (mU M o 0 (bv (M q 0))) o 1 ((mU M o 0 (bv (M q 0))) q 1)) q 2)) q 3)) o 4 ((mU (mU (mU (mU M o 0 (bv (M q 0))) o 1 ((mU M o 0 (bv (M q 0))) q 1)) o 2 ((mU (mU M o 0 (bv (M q 0))) o 1 ((mU M o 0 (bv (M q 0))) q 1)) q 2)) o 3 ((mU (mU (mU M o 0 (bv (M q 0))) o 1 ((mU M o 0 (bv (M q 0))) q 1)) o 2 ((mU (mU M o 0 (bv (M q 0))) o 1 ((mU M o 0 (bv (M q 0))) q 1)) q 2)) q 3)) q 4)) q 5)) q 6)) q 7)) o 8 ((mU (mU (mU (mU (mU (mU (mU (mU M o 0 (bv (M q 0))) o 1 ((mU M o 0 (bv (M q 0))) q 1)) o 2 ((mU (mU M o 0 (bv (M q 0))) o 1 ((mU M o 0 (bv (M q 0))) q 1)) q 2)) o 3 ((mU (mU (mU M o 0 (bv (M q 0))) o 1 ((mU M o 0 (bv (M q 0))) q 1)) o 2 ((mU (mU M o 0 (bv (M q 0))) o 1 ((mU M o 0 (bv (M q 0))) q 1)) q 2)) q 3)) o 4 ((mU (mU (mU (mU M o 0 (bv (M q 0))) o 1 ((mU M o 0 (bv (M q 0))) q 1)) o 2 ((mU (mU M o 0 (bv (M q 0))) o 1 ((mU M o 0 (bv (M q 0))) q 1)) q 2)) o 3 ((mU (mU (mU M o 0 (bv (M q 0))) o 1 ((mU M o 0 (bv (M q 0))) q 1)) o 2 ((mU (mU M o 0 (bv (M q 0))) o 1 ((mU M o 0 (bv (M q 0))) q 1)) q 2)) q 3)) q 4)) o 5 ((mU (mU (mU (mU (mU M o 0 (bv (M q 0))) o 1 ((mU M o 0 (bv (M q 0))) q 1)) o 2 ((mU (mU M o 0 (bv (M q 0))) o 1 ((mU M o 0 (bv (M q 0))) q 1)) q 2)) o 3 ((mU (mU (mU M o 0 (bv (M q 0))) o 1 ((mU M o 0 (bv (M q 0))) q 1)) o 2 ((mU (mU M o 0 (bv (M q 0))) o 1 ((mU M o 0 (bv (M q 0))) q 1)) q 2)) q 3)) o 4 ((mU (mU (mU (mU M o 0 (bv (M q 0))) o 1 ((mU M o 0 (bv (M q 0))) q 1)) o 2 ((mU (mU M o 0 (bv (M q 0))) o 1 ((mU M o 0 (bv (M q 0))) q 1)) q 2)) o 3 ((mU (mU (mU M o 0 (bv (M q 0))) o 1 ((mU M o 0 (bv (M q 0))) q 1)) o 2 ((mU (mU M o 0 (bv (M q 0))) o 1 ((mU M o 0 (bv (M q 0))) q 1)) q 2)) q 3)) q 4)) q 5)) o 6 ((mU (mU (mU (mU (mU (mU M o 0 (bv (M q 0))) o 1 ((mU M o 0 (bv (M q 0))) q 1)) o 2 ((mU (mU M o 0 (bv (M q 0))) o 1 ((mU M o 0 (bv (M q 0))) q 1)) q 2)) o 3 ((mU (mU (mU M o 0 (bv (M q 0))) o 1 ((mU M o 0 (bv (M q 0))) q 1)) o 2 ((mU (mU M o 0 (bv (M q 0))) o 1 ((mU M o 0 (bv (M q 0))) q 1)) q 2)) q 3)) o 4 ((mU (mU (mU (mU M o 0 (bv (M q 0))) o 1 ((mU M o 0 (bv (M q 0))) q 1)) o 2 ((mU (mU M o 0 (bv (M q 0))) o 1 ((mU M o 0 (bv (M q 0))) q 1)) q 2)) o 3 ((mU (mU (mU M o 0 (bv (M q 0))) o 1 ((mU M o 0 (bv (M q 0))) q 1)) o 2 ((mU (mU M o 0 (bv (M q 0))) o 1 ((mU M o 0 (bv (M q 0))) q 1)) q 2)) q 3)) q 4)) o 5 ((mU (mU (mU (mU (mU M o 0 (bv (M q 0))) o 1 ((mU M o 0 (bv (M q 0))) q 1)) o 2 ((mU (mU M o 0 (bv (M q 0))) o 1 ((mU M o 0 (bv (M q 0))) q 1)) q 2)) o 3 ((mU (mU (mU M o 0 (bv (M q 0))) o 1 ((mU M o 0 (bv (M q 0))) q 1)) o 2 ((mU (mU M o 0 (bv (M q 0))) o 1 ((mU M o 0 (bv (M q 0))) q 1)) q 2)) q 3)) o 4 ((mU (mU (mU (mU M o 0 (bv (M q 0))) o 1 ((mU M o 0 (bv (M q 0))) q 1)) o 2 ((mU (mU M o 0 (bv (M q 0))) o 1 ((mU M o 0 (bv (M q 0))) q 1)) q 2)) o 3 ((mU (mU (mU M o 0 (bv (M q 0))) o 1 ((mU M o 0 (bv (M q 0))) q 1)) o 2 ((mU (mU M o 0 (bv (M q 0))) o 1 ((mU M o 0 (bv (M q 0))) q 1)) q 2)) q 3)) q 4)) q 5)) q 6)) o 7 ((mU (mU (mU (mU (mU (mU (mU M o 0 (bv (M q 0))) o 1 ((mU M o 0 (bv (M q 0))) q 1)) o 2 ((mU (mU M o 0 (bv (M q 0))) o 1 ((mU M o 0 (bv (M q 0))) q 1)) q 2)) o 3 ((mU (mU (mU M o 0 (bv (M q 0))) o 1 ((mU M o 0 (bv (M q 0))) q 1)) o 2 ((mU (mU M o 0 (bv (M q 0))) o 1 ((mU M o 0 (bv (M q 0))) q 1)) q 2)) q 3)) o 4 ((mU (mU (mU (mU M o 0 (bv (M q 0))) o 1 ((mU M o 0 (bv (M q 0))) q 1)) o 2 ((mU (mU M o 0 (bv (M q 0))) o 1 ((mU M o 0 (bv (M q 0))) q 1)) q 2)) o 3 ((mU (mU (mU M o 0 (bv (M q 0))) o 1 ((mU M o 0 (bv (M q 0))) q 1)) o 2 ((mU (mU M o 0 (bv (M q 0))) o 1 ((mU M o 0 (bv (M q 0))) q 1)) q 2)) q 3)) q 4)) o 5 ((mU (mU (mU (mU (mU M o 0 (bv (M q 0))) o 1 ((mU M o 0 (bv (M q 0))) q 1)) o 2 ((mU (mU M o 0 (bv (M q 0))) o 1 ((mU M o 0 (bv (M q 0))) q 1)) q 2)) o 3 ((mU (mU (mU M o 0 (bv (M q 0))) o 1 ((mU M o 0 (bv (M q 0))) q 1)) o 2 ((mU (mU M o 0 (bv (M q 0))) o 1 ((mU M o 0 (bv (M q 0))) q 1)) q 2)) q 3)) o 4 ((mU (mU (mU (mU M o 0 (bv (M q 0))) o 1 ((mU M o 0 (bv (M q 0))) q 1)) o 2 ((mU (mU M o 0 (bv (M q 0))) o 1 ((mU M o 0 (bv (M q 0))) q 1)) q 2)) o 3 ((mU (mU (mU M o 0 (bv (M q 0))) o 1 ((mU M o 0 (bv (M q 0))) q 1)) o 2 ((mU (mU M o 0 (bv (M q 0))) o 1 ((mU M o 0 (bv (M q 0))) q 1)) q 2)) q 3)) q 4)) q 5)) o 6 ((mU (mU (mU (mU (mU (mU M o 0 (bv (M q 0))) o 1 ((mU M o 0 (bv (M q 0))) q 1)) o 2 ((mU (mU M o 0 (bv (M q 0))) o 1 ((mU M o 0 (bv (M q 0))) q 1)) q 2)) o 3 ((mU (mU (mU M o 0 (bv (M q 0))) o 1 ((mU M o 0 (bv (M q 0))) q 1)) o 2 ((mU (mU M o 0 (bv (M q 0))) o 1 ((mU M o 0 (bv (M q 0))) q 1)) q 2)) q 3)) o 4 ((mU (mU (mU (mU M o 0 (bv (M q 0))) o 1 ((mU M o 0 (bv (M q 0))) q 1)) o 2 ((mU (mU M o 0 (bv (M q 0))) o 1 ((mU M o 0 (bv (M q 0))) q 1)) q 2)) o 3 ((mU (mU (mU M o 0 (bv (M q 0))) o 1 ((mU M o 0 (bv (M q 0))) q 1)) o 2 ((mU (mU M o 0 (bv (M q 0))) o 1 ((mU M o 0 (bv (M q 0))) q 1)) q 2)) q 3)) q 4)) o 5 ((mU (mU (mU (mU (mU M o 0 (bv (M q 0))) o 1 ((mU M o 0 (bv (M q 0))) q 1)) o 2 ((mU (mU M o 0 (bv (M q 0))) o 1 ((mU M o 0 (bv (M q 0))) q 1)) q 2)) o 3 ((mU (mU (mU M o 0 (bv (M q 0))) o 1 ((mU M o 0 (bv (M q 0))) q 1)) o 2 ((mU (mU M o 0 (bv (M q 0))) o 1 ((mU M o 0 (bv (M q 0))) q 1)) q 2)) q 3)) o 4 ((mU (mU (mU (mU M o 0 (bv (M q 0))) o 1 ((mU M o 0 (bv (M q 0))) q 1)) o 2 ((mU (mU M o 0 (bv (M q 0))) o 1 ((mU M o 0 (bv (M q 0))) q 1)) q 2)) o 3 ((mU (mU (mU M o 0 (bv (M q 0))) o 1 ((mU M o 0 (bv (M q 0))) q 1)) o 2 ((mU (mU M o 0 (bv (M q 0))) o 1 ((mU M o 0 (bv (M q 0))) q 1)) q 2)) q 3)) q 4)) q 5)) q 6)) q 7)) q 8)
set_option maxHeartbeats 4000000 in
set_option maxRecDepth 100000 in
theorem c_X1_copyFrom (l : Launch) (D : va_G) (cy : Nat → ClassId) (b n : Nat) (hn : 124 ≤ n) (M : Mem) (o : Nat) (q : Nat) (h_o : kd o = 1) (h_q : kd q = 1) : Met l yX1_copyFrom wsX1_copyFrom ({ frames := 0, cells := 0, slots := 0, locals := 0 } : Room) (CP D cy b n fT M [.ref (b + o), .ref (b + q)]) (CQv D cy b n fT (gX1_copyFrom M o q)) 0 0 (fr b) := by
  refine Met.ofW (cc := cX1_copyFrom) (maxL := 2) (ret := none) (by decide) rfl ?_
  intro p e s m args below meth c s₁ B hml hv
  obtain ⟨rfl, hP, hK, hX⟩ := hv
  have hx := B.exec
  have hb := B.bytes
  have hr := B.returns
  have hts := atoms_spec (ws := wsX1_copyFrom) B.pre
  have hown : s.vm.findClass RX1 = some m.cls := findClass_of_methodNamed B.named
  have hlocks := B.notSynchronized
  have lk0 := hts (.fieldLink RX1 18 "HygrometerRoom$Instrument" "hair" "Z") (by decide +kernel)
  have lk1 := hts (.fieldLink RX1 22 "HygrometerRoom$Instrument" "hairs" "I") (by decide +kernel)
  have lk2 := hts (.fieldLink RX1 25 "HygrometerRoom$Instrument" "hairsAtFirst" "I") (by decide +kernel)
  have lk3 := hts (.fieldLink RX1 34 "HygrometerRoom$Instrument" "broken" "I") (by decide +kernel)
  have lk4 := hts (.fieldLink RX1 28 "HygrometerRoom$Instrument" "wetness" "I") (by decide +kernel)
  have lk5 := hts (.fieldLink RX1 37 "HygrometerRoom$Instrument" "slack" "I") (by decide +kernel)
  have lk6 := hts (.fieldLink RX1 31 "HygrometerRoom$Instrument" "water" "I") (by decide +kernel)
  have lk7 := hts (.fieldLink RX1 40 "HygrometerRoom$Instrument" "zero" "I") (by decide +kernel)
  have lk8 := hts (.fieldLink RX1 9 "HygrometerRoom$Instrument" "box" "I") (by decide +kernel)
  have inc1 : ∀ w ∈ u_ws RX1 TX1 9, w ∈ wsX1_copyFrom := by decide +kernel
  have hS : va_S (fr b) s.heap s.heap [] := va_S.rf
  have hl := lv_entry ([.ref (b + o), .ref (b + q)]) (n := 2) (Nat.le_of_ble_eq_true rfl)
  rw [lg_entry_eq]
  generalize (lg_sl ([.ref (b + o), .ref (b + q)]) ++ List.replicate (2 - (lg_sl ([.ref (b + o), .ref (b + q)])).length) Slot.unset).toArray = ls at hl ⊢
  have hl : lv_has ls 2 [(0, .ref (b + o)), (1, .ref (b + q))] := hl
  refine lv_aload_n hx hb dX1_copyFrom_0 rfl (lv_at hl 0 rfl) ?_
  refine lv_aload_n hx hb dX1_copyFrom_1 rfl (lv_at hl 1 rfl) ?_
  refine xg (C := RX1) (T := TX1) (N := 9) (v := .int (bv (M q 0))) hx hb hts inc1 hown hK hP (kI_lt h_q hn) (cell1 h_q) rfl 0 (by decide) lk0 (fun _ h => h) rfl dX1_copyFrom_2 ?_
  refine xp (C := RX1) (T := TX1) (N := 9) (ci := 1) (ty := .boolean) (x := bv (M q 0)) hx hb hts inc1 tyX1 tyX1_ok nmX1 hown hK hP hS (kI_lt h_o hn) (fun _ => cell1 h_o) rfl 0 (by decide) (by rw [List.set_cons_zero, show upd (M o) 0 (bv (M q 0)) 0 = bv (M q 0) from rfl, bv_bv] <;> rfl) lk0 (fun _ h => h) rfl (tyX1_ok 0 (by decide)) (bv_nar _) (bv_fit _) (Nat.le_of_ble_eq_true rfl) dX1_copyFrom_5 (fun H locs hP hS => ?_)
  refine lv_aload_n hx hb dX1_copyFrom_8 rfl (lv_at hl 0 rfl) ?_
  refine lv_aload_n hx hb dX1_copyFrom_9 rfl (lv_at hl 1 rfl) ?_
  refine xg (C := RX1) (T := TX1) (N := 9) (v := .int ((mU M o 0 (bv (M q 0))) q 1)) hx hb hts inc1 hown hK hP (kI_lt h_q hn) (cell1 h_q) rfl 1 (by decide) lk1 (fun _ h => h) rfl dX1_copyFrom_10 ?_
  refine xp (C := RX1) (T := TX1) (N := 9) (ci := 1) (ty := .int) (x := (mU M o 0 (bv (M q 0))) q 1) hx hb hts inc1 tyX1 tyX1_ok nmX1 hown hK hP hS (kI_lt h_o hn) (fun _ => cell1 h_o) rfl 1 (by decide) rfl lk1 (fun _ h => h) rfl (tyX1_ok 1 (by decide)) rfl rfl (Nat.le_of_ble_eq_true rfl) dX1_copyFrom_13 (fun H locs hP hS => ?_)
  refine lv_aload_n hx hb dX1_copyFrom_16 rfl (lv_at hl 0 rfl) ?_
  refine lv_aload_n hx hb dX1_copyFrom_17 rfl (lv_at hl 1 rfl) ?_
  refine xg (C := RX1) (T := TX1) (N := 9) (v := .int ((mU (mU M o 0 (bv (M q 0))) o 1 ((mU M o 0 (bv (M q 0))) q 1)) q 2)) hx hb hts inc1 hown hK hP (kI_lt h_q hn) (cell1 h_q) rfl 2 (by decide) lk2 (fun _ h => h) rfl dX1_copyFrom_18 ?_
  refine xp (C := RX1) (T := TX1) (N := 9) (ci := 1) (ty := .int) (x := (mU (mU M o 0 (bv (M q 0))) o 1 ((mU M o 0 (bv (M q 0))) q 1)) q 2) hx hb hts inc1 tyX1 tyX1_ok nmX1 hown hK hP hS (kI_lt h_o hn) (fun _ => cell1 h_o) rfl 2 (by decide) rfl lk2 (fun _ h => h) rfl (tyX1_ok 2 (by decide)) rfl rfl (Nat.le_of_ble_eq_true rfl) dX1_copyFrom_21 (fun H locs hP hS => ?_)
  refine lv_aload_n hx hb dX1_copyFrom_24 rfl (lv_at hl 0 rfl) ?_
  refine lv_aload_n hx hb dX1_copyFrom_25 rfl (lv_at hl 1 rfl) ?_
  refine xg (C := RX1) (T := TX1) (N := 9) (v := .int ((mU (mU (mU M o 0 (bv (M q 0))) o 1 ((mU M o 0 (bv (M q 0))) q 1)) o 2 ((mU (mU M o 0 (bv (M q 0))) o 1 ((mU M o 0 (bv (M q 0))) q 1)) q 2)) q 3)) hx hb hts inc1 hown hK hP (kI_lt h_q hn) (cell1 h_q) rfl 3 (by decide) lk3 (fun _ h => h) rfl dX1_copyFrom_26 ?_
  refine xp (C := RX1) (T := TX1) (N := 9) (ci := 1) (ty := .int) (x := (mU (mU (mU M o 0 (bv (M q 0))) o 1 ((mU M o 0 (bv (M q 0))) q 1)) o 2 ((mU (mU M o 0 (bv (M q 0))) o 1 ((mU M o 0 (bv (M q 0))) q 1)) q 2)) q 3) hx hb hts inc1 tyX1 tyX1_ok nmX1 hown hK hP hS (kI_lt h_o hn) (fun _ => cell1 h_o) rfl 3 (by decide) rfl lk3 (fun _ h => h) rfl (tyX1_ok 3 (by decide)) rfl rfl (Nat.le_of_ble_eq_true rfl) dX1_copyFrom_29 (fun H locs hP hS => ?_)
  refine lv_aload_n hx hb dX1_copyFrom_32 rfl (lv_at hl 0 rfl) ?_
  refine lv_aload_n hx hb dX1_copyFrom_33 rfl (lv_at hl 1 rfl) ?_
  refine xg (C := RX1) (T := TX1) (N := 9) (v := .int ((mU (mU (mU (mU M o 0 (bv (M q 0))) o 1 ((mU M o 0 (bv (M q 0))) q 1)) o 2 ((mU (mU M o 0 (bv (M q 0))) o 1 ((mU M o 0 (bv (M q 0))) q 1)) q 2)) o 3 ((mU (mU (mU M o 0 (bv (M q 0))) o 1 ((mU M o 0 (bv (M q 0))) q 1)) o 2 ((mU (mU M o 0 (bv (M q 0))) o 1 ((mU M o 0 (bv (M q 0))) q 1)) q 2)) q 3)) q 4)) hx hb hts inc1 hown hK hP (kI_lt h_q hn) (cell1 h_q) rfl 4 (by decide) lk4 (fun _ h => h) rfl dX1_copyFrom_34 ?_
  refine xp (C := RX1) (T := TX1) (N := 9) (ci := 1) (ty := .int) (x := (mU (mU (mU (mU M o 0 (bv (M q 0))) o 1 ((mU M o 0 (bv (M q 0))) q 1)) o 2 ((mU (mU M o 0 (bv (M q 0))) o 1 ((mU M o 0 (bv (M q 0))) q 1)) q 2)) o 3 ((mU (mU (mU M o 0 (bv (M q 0))) o 1 ((mU M o 0 (bv (M q 0))) q 1)) o 2 ((mU (mU M o 0 (bv (M q 0))) o 1 ((mU M o 0 (bv (M q 0))) q 1)) q 2)) q 3)) q 4) hx hb hts inc1 tyX1 tyX1_ok nmX1 hown hK hP hS (kI_lt h_o hn) (fun _ => cell1 h_o) rfl 4 (by decide) rfl lk4 (fun _ h => h) rfl (tyX1_ok 4 (by decide)) rfl rfl (Nat.le_of_ble_eq_true rfl) dX1_copyFrom_37 (fun H locs hP hS => ?_)
  refine lv_aload_n hx hb dX1_copyFrom_40 rfl (lv_at hl 0 rfl) ?_
  refine lv_aload_n hx hb dX1_copyFrom_41 rfl (lv_at hl 1 rfl) ?_
  refine xg (C := RX1) (T := TX1) (N := 9) (v := .int ((mU (mU (mU (mU (mU M o 0 (bv (M q 0))) o 1 ((mU M o 0 (bv (M q 0))) q 1)) o 2 ((mU (mU M o 0 (bv (M q 0))) o 1 ((mU M o 0 (bv (M q 0))) q 1)) q 2)) o 3 ((mU (mU (mU M o 0 (bv (M q 0))) o 1 ((mU M o 0 (bv (M q 0))) q 1)) o 2 ((mU (mU M o 0 (bv (M q 0))) o 1 ((mU M o 0 (bv (M q 0))) q 1)) q 2)) q 3)) o 4 ((mU (mU (mU (mU M o 0 (bv (M q 0))) o 1 ((mU M o 0 (bv (M q 0))) q 1)) o 2 ((mU (mU M o 0 (bv (M q 0))) o 1 ((mU M o 0 (bv (M q 0))) q 1)) q 2)) o 3 ((mU (mU (mU M o 0 (bv (M q 0))) o 1 ((mU M o 0 (bv (M q 0))) q 1)) o 2 ((mU (mU M o 0 (bv (M q 0))) o 1 ((mU M o 0 (bv (M q 0))) q 1)) q 2)) q 3)) q 4)) q 5)) hx hb hts inc1 hown hK hP (kI_lt h_q hn) (cell1 h_q) rfl 5 (by decide) lk5 (fun _ h => h) rfl dX1_copyFrom_42 ?_
  refine xp (C := RX1) (T := TX1) (N := 9) (ci := 1) (ty := .int) (x := (mU (mU (mU (mU (mU M o 0 (bv (M q 0))) o 1 ((mU M o 0 (bv (M q 0))) q 1)) o 2 ((mU (mU M o 0 (bv (M q 0))) o 1 ((mU M o 0 (bv (M q 0))) q 1)) q 2)) o 3 ((mU (mU (mU M o 0 (bv (M q 0))) o 1 ((mU M o 0 (bv (M q 0))) q 1)) o 2 ((mU (mU M o 0 (bv (M q 0))) o 1 ((mU M o 0 (bv (M q 0))) q 1)) q 2)) q 3)) o 4 ((mU (mU (mU (mU M o 0 (bv (M q 0))) o 1 ((mU M o 0 (bv (M q 0))) q 1)) o 2 ((mU (mU M o 0 (bv (M q 0))) o 1 ((mU M o 0 (bv (M q 0))) q 1)) q 2)) o 3 ((mU (mU (mU M o 0 (bv (M q 0))) o 1 ((mU M o 0 (bv (M q 0))) q 1)) o 2 ((mU (mU M o 0 (bv (M q 0))) o 1 ((mU M o 0 (bv (M q 0))) q 1)) q 2)) q 3)) q 4)) q 5) hx hb hts inc1 tyX1 tyX1_ok nmX1 hown hK hP hS (kI_lt h_o hn) (fun _ => cell1 h_o) rfl 5 (by decide) rfl lk5 (fun _ h => h) rfl (tyX1_ok 5 (by decide)) rfl rfl (Nat.le_of_ble_eq_true rfl) dX1_copyFrom_45 (fun H locs hP hS => ?_)
  refine lv_aload_n hx hb dX1_copyFrom_48 rfl (lv_at hl 0 rfl) ?_
  refine lv_aload_n hx hb dX1_copyFrom_49 rfl (lv_at hl 1 rfl) ?_
  refine xg (C := RX1) (T := TX1) (N := 9) (v := .int ((mU (mU (mU (mU (mU (mU M o 0 (bv (M q 0))) o 1 ((mU M o 0 (bv (M q 0))) q 1)) o 2 ((mU (mU M o 0 (bv (M q 0))) o 1 ((mU M o 0 (bv (M q 0))) q 1)) q 2)) o 3 ((mU (mU (mU M o 0 (bv (M q 0))) o 1 ((mU M o 0 (bv (M q 0))) q 1)) o 2 ((mU (mU M o 0 (bv (M q 0))) o 1 ((mU M o 0 (bv (M q 0))) q 1)) q 2)) q 3)) o 4 ((mU (mU (mU (mU M o 0 (bv (M q 0))) o 1 ((mU M o 0 (bv (M q 0))) q 1)) o 2 ((mU (mU M o 0 (bv (M q 0))) o 1 ((mU M o 0 (bv (M q 0))) q 1)) q 2)) o 3 ((mU (mU (mU M o 0 (bv (M q 0))) o 1 ((mU M o 0 (bv (M q 0))) q 1)) o 2 ((mU (mU M o 0 (bv (M q 0))) o 1 ((mU M o 0 (bv (M q 0))) q 1)) q 2)) q 3)) q 4)) o 5 ((mU (mU (mU (mU (mU M o 0 (bv (M q 0))) o 1 ((mU M o 0 (bv (M q 0))) q 1)) o 2 ((mU (mU M o 0 (bv (M q 0))) o 1 ((mU M o 0 (bv (M q 0))) q 1)) q 2)) o 3 ((mU (mU (mU M o 0 (bv (M q 0))) o 1 ((mU M o 0 (bv (M q 0))) q 1)) o 2 ((mU (mU M o 0 (bv (M q 0))) o 1 ((mU M o 0 (bv (M q 0))) q 1)) q 2)) q 3)) o 4 ((mU (mU (mU (mU M o 0 (bv (M q 0))) o 1 ((mU M o 0 (bv (M q 0))) q 1)) o 2 ((mU (mU M o 0 (bv (M q 0))) o 1 ((mU M o 0 (bv (M q 0))) q 1)) q 2)) o 3 ((mU (mU (mU M o 0 (bv (M q 0))) o 1 ((mU M o 0 (bv (M q 0))) q 1)) o 2 ((mU (mU M o 0 (bv (M q 0))) o 1 ((mU M o 0 (bv (M q 0))) q 1)) q 2)) q 3)) q 4)) q 5)) q 6)) hx hb hts inc1 hown hK hP (kI_lt h_q hn) (cell1 h_q) rfl 6 (by decide) lk6 (fun _ h => h) rfl dX1_copyFrom_50 ?_
  refine xp (C := RX1) (T := TX1) (N := 9) (ci := 1) (ty := .int) (x := (mU (mU (mU (mU (mU (mU M o 0 (bv (M q 0))) o 1 ((mU M o 0 (bv (M q 0))) q 1)) o 2 ((mU (mU M o 0 (bv (M q 0))) o 1 ((mU M o 0 (bv (M q 0))) q 1)) q 2)) o 3 ((mU (mU (mU M o 0 (bv (M q 0))) o 1 ((mU M o 0 (bv (M q 0))) q 1)) o 2 ((mU (mU M o 0 (bv (M q 0))) o 1 ((mU M o 0 (bv (M q 0))) q 1)) q 2)) q 3)) o 4 ((mU (mU (mU (mU M o 0 (bv (M q 0))) o 1 ((mU M o 0 (bv (M q 0))) q 1)) o 2 ((mU (mU M o 0 (bv (M q 0))) o 1 ((mU M o 0 (bv (M q 0))) q 1)) q 2)) o 3 ((mU (mU (mU M o 0 (bv (M q 0))) o 1 ((mU M o 0 (bv (M q 0))) q 1)) o 2 ((mU (mU M o 0 (bv (M q 0))) o 1 ((mU M o 0 (bv (M q 0))) q 1)) q 2)) q 3)) q 4)) o 5 ((mU (mU (mU (mU (mU M o 0 (bv (M q 0))) o 1 ((mU M o 0 (bv (M q 0))) q 1)) o 2 ((mU (mU M o 0 (bv (M q 0))) o 1 ((mU M o 0 (bv (M q 0))) q 1)) q 2)) o 3 ((mU (mU (mU M o 0 (bv (M q 0))) o 1 ((mU M o 0 (bv (M q 0))) q 1)) o 2 ((mU (mU M o 0 (bv (M q 0))) o 1 ((mU M o 0 (bv (M q 0))) q 1)) q 2)) q 3)) o 4 ((mU (mU (mU (mU M o 0 (bv (M q 0))) o 1 ((mU M o 0 (bv (M q 0))) q 1)) o 2 ((mU (mU M o 0 (bv (M q 0))) o 1 ((mU M o 0 (bv (M q 0))) q 1)) q 2)) o 3 ((mU (mU (mU M o 0 (bv (M q 0))) o 1 ((mU M o 0 (bv (M q 0))) q 1)) o 2 ((mU (mU M o 0 (bv (M q 0))) o 1 ((mU M o 0 (bv (M q 0))) q 1)) q 2)) q 3)) q 4)) q 5)) q 6) hx hb hts inc1 tyX1 tyX1_ok nmX1 hown hK hP hS (kI_lt h_o hn) (fun _ => cell1 h_o) rfl 6 (by decide) rfl lk6 (fun _ h => h) rfl (tyX1_ok 6 (by decide)) rfl rfl (Nat.le_of_ble_eq_true rfl) dX1_copyFrom_53 (fun H locs hP hS => ?_)
  refine lv_aload_n hx hb dX1_copyFrom_56 rfl (lv_at hl 0 rfl) ?_
  refine lv_aload_n hx hb dX1_copyFrom_57 rfl (lv_at hl 1 rfl) ?_
  refine xg (C := RX1) (T := TX1) (N := 9) (v := .int ((mU (mU (mU (mU (mU (mU (mU M o 0 (bv (M q 0))) o 1 ((mU M o 0 (bv (M q 0))) q 1)) o 2 ((mU (mU M o 0 (bv (M q 0))) o 1 ((mU M o 0 (bv (M q 0))) q 1)) q 2)) o 3 ((mU (mU (mU M o 0 (bv (M q 0))) o 1 ((mU M o 0 (bv (M q 0))) q 1)) o 2 ((mU (mU M o 0 (bv (M q 0))) o 1 ((mU M o 0 (bv (M q 0))) q 1)) q 2)) q 3)) o 4 ((mU (mU (mU (mU M o 0 (bv (M q 0))) o 1 ((mU M o 0 (bv (M q 0))) q 1)) o 2 ((mU (mU M o 0 (bv (M q 0))) o 1 ((mU M o 0 (bv (M q 0))) q 1)) q 2)) o 3 ((mU (mU (mU M o 0 (bv (M q 0))) o 1 ((mU M o 0 (bv (M q 0))) q 1)) o 2 ((mU (mU M o 0 (bv (M q 0))) o 1 ((mU M o 0 (bv (M q 0))) q 1)) q 2)) q 3)) q 4)) o 5 ((mU (mU (mU (mU (mU M o 0 (bv (M q 0))) o 1 ((mU M o 0 (bv (M q 0))) q 1)) o 2 ((mU (mU M o 0 (bv (M q 0))) o 1 ((mU M o 0 (bv (M q 0))) q 1)) q 2)) o 3 ((mU (mU (mU M o 0 (bv (M q 0))) o 1 ((mU M o 0 (bv (M q 0))) q 1)) o 2 ((mU (mU M o 0 (bv (M q 0))) o 1 ((mU M o 0 (bv (M q 0))) q 1)) q 2)) q 3)) o 4 ((mU (mU (mU (mU M o 0 (bv (M q 0))) o 1 ((mU M o 0 (bv (M q 0))) q 1)) o 2 ((mU (mU M o 0 (bv (M q 0))) o 1 ((mU M o 0 (bv (M q 0))) q 1)) q 2)) o 3 ((mU (mU (mU M o 0 (bv (M q 0))) o 1 ((mU M o 0 (bv (M q 0))) q 1)) o 2 ((mU (mU M o 0 (bv (M q 0))) o 1 ((mU M o 0 (bv (M q 0))) q 1)) q 2)) q 3)) q 4)) q 5)) o 6 ((mU (mU (mU (mU (mU (mU M o 0 (bv (M q 0))) o 1 ((mU M o 0 (bv (M q 0))) q 1)) o 2 ((mU (mU M o 0 (bv (M q 0))) o 1 ((mU M o 0 (bv (M q 0))) q 1)) q 2)) o 3 ((mU (mU (mU M o 0 (bv (M q 0))) o 1 ((mU M o 0 (bv (M q 0))) q 1)) o 2 ((mU (mU M o 0 (bv (M q 0))) o 1 ((mU M o 0 (bv (M q 0))) q 1)) q 2)) q 3)) o 4 ((mU (mU (mU (mU M o 0 (bv (M q 0))) o 1 ((mU M o 0 (bv (M q 0))) q 1)) o 2 ((mU (mU M o 0 (bv (M q 0))) o 1 ((mU M o 0 (bv (M q 0))) q 1)) q 2)) o 3 ((mU (mU (mU M o 0 (bv (M q 0))) o 1 ((mU M o 0 (bv (M q 0))) q 1)) o 2 ((mU (mU M o 0 (bv (M q 0))) o 1 ((mU M o 0 (bv (M q 0))) q 1)) q 2)) q 3)) q 4)) o 5 ((mU (mU (mU (mU (mU M o 0 (bv (M q 0))) o 1 ((mU M o 0 (bv (M q 0))) q 1)) o 2 ((mU (mU M o 0 (bv (M q 0))) o 1 ((mU M o 0 (bv (M q 0))) q 1)) q 2)) o 3 ((mU (mU (mU M o 0 (bv (M q 0))) o 1 ((mU M o 0 (bv (M q 0))) q 1)) o 2 ((mU (mU M o 0 (bv (M q 0))) o 1 ((mU M o 0 (bv (M q 0))) q 1)) q 2)) q 3)) o 4 ((mU (mU (mU (mU M o 0 (bv (M q 0))) o 1 ((mU M o 0 (bv (M q 0))) q 1)) o 2 ((mU (mU M o 0 (bv (M q 0))) o 1 ((mU M o 0 (bv (M q 0))) q 1)) q 2)) o 3 ((mU (mU (mU M o 0 (bv (M q 0))) o 1 ((mU M o 0 (bv (M q 0))) q 1)) o 2 ((mU (mU M o 0 (bv (M q 0))) o 1 ((mU M o 0 (bv (M q 0))) q 1)) q 2)) q 3)) q 4)) q 5)) q 6)) q 7)) hx hb hts inc1 hown hK hP (kI_lt h_q hn) (cell1 h_q) rfl 7 (by decide) lk7 (fun _ h => h) rfl dX1_copyFrom_58 ?_
  refine xp (C := RX1) (T := TX1) (N := 9) (ci := 1) (ty := .int) (x := (mU (mU (mU (mU (mU (mU (mU M o 0 (bv (M q 0))) o 1 ((mU M o 0 (bv (M q 0))) q 1)) o 2 ((mU (mU M o 0 (bv (M q 0))) o 1 ((mU M o 0 (bv (M q 0))) q 1)) q 2)) o 3 ((mU (mU (mU M o 0 (bv (M q 0))) o 1 ((mU M o 0 (bv (M q 0))) q 1)) o 2 ((mU (mU M o 0 (bv (M q 0))) o 1 ((mU M o 0 (bv (M q 0))) q 1)) q 2)) q 3)) o 4 ((mU (mU (mU (mU M o 0 (bv (M q 0))) o 1 ((mU M o 0 (bv (M q 0))) q 1)) o 2 ((mU (mU M o 0 (bv (M q 0))) o 1 ((mU M o 0 (bv (M q 0))) q 1)) q 2)) o 3 ((mU (mU (mU M o 0 (bv (M q 0))) o 1 ((mU M o 0 (bv (M q 0))) q 1)) o 2 ((mU (mU M o 0 (bv (M q 0))) o 1 ((mU M o 0 (bv (M q 0))) q 1)) q 2)) q 3)) q 4)) o 5 ((mU (mU (mU (mU (mU M o 0 (bv (M q 0))) o 1 ((mU M o 0 (bv (M q 0))) q 1)) o 2 ((mU (mU M o 0 (bv (M q 0))) o 1 ((mU M o 0 (bv (M q 0))) q 1)) q 2)) o 3 ((mU (mU (mU M o 0 (bv (M q 0))) o 1 ((mU M o 0 (bv (M q 0))) q 1)) o 2 ((mU (mU M o 0 (bv (M q 0))) o 1 ((mU M o 0 (bv (M q 0))) q 1)) q 2)) q 3)) o 4 ((mU (mU (mU (mU M o 0 (bv (M q 0))) o 1 ((mU M o 0 (bv (M q 0))) q 1)) o 2 ((mU (mU M o 0 (bv (M q 0))) o 1 ((mU M o 0 (bv (M q 0))) q 1)) q 2)) o 3 ((mU (mU (mU M o 0 (bv (M q 0))) o 1 ((mU M o 0 (bv (M q 0))) q 1)) o 2 ((mU (mU M o 0 (bv (M q 0))) o 1 ((mU M o 0 (bv (M q 0))) q 1)) q 2)) q 3)) q 4)) q 5)) o 6 ((mU (mU (mU (mU (mU (mU M o 0 (bv (M q 0))) o 1 ((mU M o 0 (bv (M q 0))) q 1)) o 2 ((mU (mU M o 0 (bv (M q 0))) o 1 ((mU M o 0 (bv (M q 0))) q 1)) q 2)) o 3 ((mU (mU (mU M o 0 (bv (M q 0))) o 1 ((mU M o 0 (bv (M q 0))) q 1)) o 2 ((mU (mU M o 0 (bv (M q 0))) o 1 ((mU M o 0 (bv (M q 0))) q 1)) q 2)) q 3)) o 4 ((mU (mU (mU (mU M o 0 (bv (M q 0))) o 1 ((mU M o 0 (bv (M q 0))) q 1)) o 2 ((mU (mU M o 0 (bv (M q 0))) o 1 ((mU M o 0 (bv (M q 0))) q 1)) q 2)) o 3 ((mU (mU (mU M o 0 (bv (M q 0))) o 1 ((mU M o 0 (bv (M q 0))) q 1)) o 2 ((mU (mU M o 0 (bv (M q 0))) o 1 ((mU M o 0 (bv (M q 0))) q 1)) q 2)) q 3)) q 4)) o 5 ((mU (mU (mU (mU (mU M o 0 (bv (M q 0))) o 1 ((mU M o 0 (bv (M q 0))) q 1)) o 2 ((mU (mU M o 0 (bv (M q 0))) o 1 ((mU M o 0 (bv (M q 0))) q 1)) q 2)) o 3 ((mU (mU (mU M o 0 (bv (M q 0))) o 1 ((mU M o 0 (bv (M q 0))) q 1)) o 2 ((mU (mU M o 0 (bv (M q 0))) o 1 ((mU M o 0 (bv (M q 0))) q 1)) q 2)) q 3)) o 4 ((mU (mU (mU (mU M o 0 (bv (M q 0))) o 1 ((mU M o 0 (bv (M q 0))) q 1)) o 2 ((mU (mU M o 0 (bv (M q 0))) o 1 ((mU M o 0 (bv (M q 0))) q 1)) q 2)) o 3 ((mU (mU (mU M o 0 (bv (M q 0))) o 1 ((mU M o 0 (bv (M q 0))) q 1)) o 2 ((mU (mU M o 0 (bv (M q 0))) o 1 ((mU M o 0 (bv (M q 0))) q 1)) q 2)) q 3)) q 4)) q 5)) q 6)) q 7) hx hb hts inc1 tyX1 tyX1_ok nmX1 hown hK hP hS (kI_lt h_o hn) (fun _ => cell1 h_o) rfl 7 (by decide) rfl lk7 (fun _ h => h) rfl (tyX1_ok 7 (by decide)) rfl rfl (Nat.le_of_ble_eq_true rfl) dX1_copyFrom_61 (fun H locs hP hS => ?_)
  refine lv_aload_n hx hb dX1_copyFrom_64 rfl (lv_at hl 0 rfl) ?_
  refine lv_aload_n hx hb dX1_copyFrom_65 rfl (lv_at hl 1 rfl) ?_
  refine xg (C := RX1) (T := TX1) (N := 9) (v := .int ((mU (mU (mU (mU (mU (mU (mU (mU M o 0 (bv (M q 0))) o 1 ((mU M o 0 (bv (M q 0))) q 1)) o 2 ((mU (mU M o 0 (bv (M q 0))) o 1 ((mU M o 0 (bv (M q 0))) q 1)) q 2)) o 3 ((mU (mU (mU M o 0 (bv (M q 0))) o 1 ((mU M o 0 (bv (M q 0))) q 1)) o 2 ((mU (mU M o 0 (bv (M q 0))) o 1 ((mU M o 0 (bv (M q 0))) q 1)) q 2)) q 3)) o 4 ((mU (mU (mU (mU M o 0 (bv (M q 0))) o 1 ((mU M o 0 (bv (M q 0))) q 1)) o 2 ((mU (mU M o 0 (bv (M q 0))) o 1 ((mU M o 0 (bv (M q 0))) q 1)) q 2)) o 3 ((mU (mU (mU M o 0 (bv (M q 0))) o 1 ((mU M o 0 (bv (M q 0))) q 1)) o 2 ((mU (mU M o 0 (bv (M q 0))) o 1 ((mU M o 0 (bv (M q 0))) q 1)) q 2)) q 3)) q 4)) o 5 ((mU (mU (mU (mU (mU M o 0 (bv (M q 0))) o 1 ((mU M o 0 (bv (M q 0))) q 1)) o 2 ((mU (mU M o 0 (bv (M q 0))) o 1 ((mU M o 0 (bv (M q 0))) q 1)) q 2)) o 3 ((mU (mU (mU M o 0 (bv (M q 0))) o 1 ((mU M o 0 (bv (M q 0))) q 1)) o 2 ((mU (mU M o 0 (bv (M q 0))) o 1 ((mU M o 0 (bv (M q 0))) q 1)) q 2)) q 3)) o 4 ((mU (mU (mU (mU M o 0 (bv (M q 0))) o 1 ((mU M o 0 (bv (M q 0))) q 1)) o 2 ((mU (mU M o 0 (bv (M q 0))) o 1 ((mU M o 0 (bv (M q 0))) q 1)) q 2)) o 3 ((mU (mU (mU M o 0 (bv (M q 0))) o 1 ((mU M o 0 (bv (M q 0))) q 1)) o 2 ((mU (mU M o 0 (bv (M q 0))) o 1 ((mU M o 0 (bv (M q 0))) q 1)) q 2)) q 3)) q 4)) q 5)) o 6 ((mU (mU (mU (mU (mU (mU M o 0 (bv (M q 0))) o 1 ((mU M o 0 (bv (M q 0))) q 1)) o 2 ((mU (mU M o 0 (bv (M q 0))) o 1 ((mU M o 0 (bv (M q 0))) q 1)) q 2)) o 3 ((mU (mU (mU M o 0 (bv (M q 0))) o 1 ((mU M o 0 (bv (M q 0))) q 1)) o 2 ((mU (mU M o 0 (bv (M q 0))) o 1 ((mU M o 0 (bv (M q 0))) q 1)) q 2)) q 3)) o 4 ((mU (mU (mU (mU M o 0 (bv (M q 0))) o 1 ((mU M o 0 (bv (M q 0))) q 1)) o 2 ((mU (mU M o 0 (bv (M q 0))) o 1 ((mU M o 0 (bv (M q 0))) q 1)) q 2)) o 3 ((mU (mU (mU M o 0 (bv (M q 0))) o 1 ((mU M o 0 (bv (M q 0))) q 1)) o 2 ((mU (mU M o 0 (bv (M q 0))) o 1 ((mU M o 0 (bv (M q 0))) q 1)) q 2)) q 3)) q 4)) o 5 ((mU (mU (mU (mU (mU M o 0 (bv (M q 0))) o 1 ((mU M o 0 (bv (M q 0))) q 1)) o 2 ((mU (mU M o 0 (bv (M q 0))) o 1 ((mU M o 0 (bv (M q 0))) q 1)) q 2)) o 3 ((mU (mU (mU M o 0 (bv (M q 0))) o 1 ((mU M o 0 (bv (M q 0))) q 1)) o 2 ((mU (mU M o 0 (bv (M q 0))) o 1 ((mU M o 0 (bv (M q 0))) q 1)) q 2)) q 3)) o 4 ((mU (mU (mU (mU M o 0 (bv (M q 0))) o 1 ((mU M o 0 (bv (M q 0))) q 1)) o 2 ((mU (mU M o 0 (bv (M q 0))) o 1 ((mU M o 0 (bv (M q 0))) q 1)) q 2)) o 3 ((mU (mU (mU M o 0 (bv (M q 0))) o 1 ((mU M o 0 (bv (M q 0))) q 1)) o 2 ((mU (mU M o 0 (bv (M q 0))) o 1 ((mU M o 0 (bv (M q 0))) q 1)) q 2)) q 3)) q 4)) q 5)) q 6)) o 7 ((mU (mU (mU (mU (mU (mU (mU M o 0 (bv (M q 0))) o 1 ((mU M o 0 (bv (M q 0))) q 1)) o 2 ((mU (mU M o 0 (bv (M q 0))) o 1 ((mU M o 0 (bv (M q 0))) q 1)) q 2)) o 3 ((mU (mU (mU M o 0 (bv (M q 0))) o 1 ((mU M o 0 (bv (M q 0))) q 1)) o 2 ((mU (mU M o 0 (bv (M q 0))) o 1 ((mU M o 0 (bv (M q 0))) q 1)) q 2)) q 3)) o 4 ((mU (mU (mU (mU M o 0 (bv (M q 0))) o 1 ((mU M o 0 (bv (M q 0))) q 1)) o 2 ((mU (mU M o 0 (bv (M q 0))) o 1 ((mU M o 0 (bv (M q 0))) q 1)) q 2)) o 3 ((mU (mU (mU M o 0 (bv (M q 0))) o 1 ((mU M o 0 (bv (M q 0))) q 1)) o 2 ((mU (mU M o 0 (bv (M q 0))) o 1 ((mU M o 0 (bv (M q 0))) q 1)) q 2)) q 3)) q 4)) o 5 ((mU (mU (mU (mU (mU M o 0 (bv (M q 0))) o 1 ((mU M o 0 (bv (M q 0))) q 1)) o 2 ((mU (mU M o 0 (bv (M q 0))) o 1 ((mU M o 0 (bv (M q 0))) q 1)) q 2)) o 3 ((mU (mU (mU M o 0 (bv (M q 0))) o 1 ((mU M o 0 (bv (M q 0))) q 1)) o 2 ((mU (mU M o 0 (bv (M q 0))) o 1 ((mU M o 0 (bv (M q 0))) q 1)) q 2)) q 3)) o 4 ((mU (mU (mU (mU M o 0 (bv (M q 0))) o 1 ((mU M o 0 (bv (M q 0))) q 1)) o 2 ((mU (mU M o 0 (bv (M q 0))) o 1 ((mU M o 0 (bv (M q 0))) q 1)) q 2)) o 3 ((mU (mU (mU M o 0 (bv (M q 0))) o 1 ((mU M o 0 (bv (M q 0))) q 1)) o 2 ((mU (mU M o 0 (bv (M q 0))) o 1 ((mU M o 0 (bv (M q 0))) q 1)) q 2)) q 3)) q 4)) q 5)) o 6 ((mU (mU (mU (mU (mU (mU M o 0 (bv (M q 0))) o 1 ((mU M o 0 (bv (M q 0))) q 1)) o 2 ((mU (mU M o 0 (bv (M q 0))) o 1 ((mU M o 0 (bv (M q 0))) q 1)) q 2)) o 3 ((mU (mU (mU M o 0 (bv (M q 0))) o 1 ((mU M o 0 (bv (M q 0))) q 1)) o 2 ((mU (mU M o 0 (bv (M q 0))) o 1 ((mU M o 0 (bv (M q 0))) q 1)) q 2)) q 3)) o 4 ((mU (mU (mU (mU M o 0 (bv (M q 0))) o 1 ((mU M o 0 (bv (M q 0))) q 1)) o 2 ((mU (mU M o 0 (bv (M q 0))) o 1 ((mU M o 0 (bv (M q 0))) q 1)) q 2)) o 3 ((mU (mU (mU M o 0 (bv (M q 0))) o 1 ((mU M o 0 (bv (M q 0))) q 1)) o 2 ((mU (mU M o 0 (bv (M q 0))) o 1 ((mU M o 0 (bv (M q 0))) q 1)) q 2)) q 3)) q 4)) o 5 ((mU (mU (mU (mU (mU M o 0 (bv (M q 0))) o 1 ((mU M o 0 (bv (M q 0))) q 1)) o 2 ((mU (mU M o 0 (bv (M q 0))) o 1 ((mU M o 0 (bv (M q 0))) q 1)) q 2)) o 3 ((mU (mU (mU M o 0 (bv (M q 0))) o 1 ((mU M o 0 (bv (M q 0))) q 1)) o 2 ((mU (mU M o 0 (bv (M q 0))) o 1 ((mU M o 0 (bv (M q 0))) q 1)) q 2)) q 3)) o 4 ((mU (mU (mU (mU M o 0 (bv (M q 0))) o 1 ((mU M o 0 (bv (M q 0))) q 1)) o 2 ((mU (mU M o 0 (bv (M q 0))) o 1 ((mU M o 0 (bv (M q 0))) q 1)) q 2)) o 3 ((mU (mU (mU M o 0 (bv (M q 0))) o 1 ((mU M o 0 (bv (M q 0))) q 1)) o 2 ((mU (mU M o 0 (bv (M q 0))) o 1 ((mU M o 0 (bv (M q 0))) q 1)) q 2)) q 3)) q 4)) q 5)) q 6)) q 7)) q 8)) hx hb hts inc1 hown hK hP (kI_lt h_q hn) (cell1 h_q) rfl 8 (by decide) lk8 (fun _ h => h) rfl dX1_copyFrom_66 ?_
  refine xp (C := RX1) (T := TX1) (N := 9) (ci := 1) (ty := .int) (x := (mU (mU (mU (mU (mU (mU (mU (mU M o 0 (bv (M q 0))) o 1 ((mU M o 0 (bv (M q 0))) q 1)) o 2 ((mU (mU M o 0 (bv (M q 0))) o 1 ((mU M o 0 (bv (M q 0))) q 1)) q 2)) o 3 ((mU (mU (mU M o 0 (bv (M q 0))) o 1 ((mU M o 0 (bv (M q 0))) q 1)) o 2 ((mU (mU M o 0 (bv (M q 0))) o 1 ((mU M o 0 (bv (M q 0))) q 1)) q 2)) q 3)) o 4 ((mU (mU (mU (mU M o 0 (bv (M q 0))) o 1 ((mU M o 0 (bv (M q 0))) q 1)) o 2 ((mU (mU M o 0 (bv (M q 0))) o 1 ((mU M o 0 (bv (M q 0))) q 1)) q 2)) o 3 ((mU (mU (mU M o 0 (bv (M q 0))) o 1 ((mU M o 0 (bv (M q 0))) q 1)) o 2 ((mU (mU M o 0 (bv (M q 0))) o 1 ((mU M o 0 (bv (M q 0))) q 1)) q 2)) q 3)) q 4)) o 5 ((mU (mU (mU (mU (mU M o 0 (bv (M q 0))) o 1 ((mU M o 0 (bv (M q 0))) q 1)) o 2 ((mU (mU M o 0 (bv (M q 0))) o 1 ((mU M o 0 (bv (M q 0))) q 1)) q 2)) o 3 ((mU (mU (mU M o 0 (bv (M q 0))) o 1 ((mU M o 0 (bv (M q 0))) q 1)) o 2 ((mU (mU M o 0 (bv (M q 0))) o 1 ((mU M o 0 (bv (M q 0))) q 1)) q 2)) q 3)) o 4 ((mU (mU (mU (mU M o 0 (bv (M q 0))) o 1 ((mU M o 0 (bv (M q 0))) q 1)) o 2 ((mU (mU M o 0 (bv (M q 0))) o 1 ((mU M o 0 (bv (M q 0))) q 1)) q 2)) o 3 ((mU (mU (mU M o 0 (bv (M q 0))) o 1 ((mU M o 0 (bv (M q 0))) q 1)) o 2 ((mU (mU M o 0 (bv (M q 0))) o 1 ((mU M o 0 (bv (M q 0))) q 1)) q 2)) q 3)) q 4)) q 5)) o 6 ((mU (mU (mU (mU (mU (mU M o 0 (bv (M q 0))) o 1 ((mU M o 0 (bv (M q 0))) q 1)) o 2 ((mU (mU M o 0 (bv (M q 0))) o 1 ((mU M o 0 (bv (M q 0))) q 1)) q 2)) o 3 ((mU (mU (mU M o 0 (bv (M q 0))) o 1 ((mU M o 0 (bv (M q 0))) q 1)) o 2 ((mU (mU M o 0 (bv (M q 0))) o 1 ((mU M o 0 (bv (M q 0))) q 1)) q 2)) q 3)) o 4 ((mU (mU (mU (mU M o 0 (bv (M q 0))) o 1 ((mU M o 0 (bv (M q 0))) q 1)) o 2 ((mU (mU M o 0 (bv (M q 0))) o 1 ((mU M o 0 (bv (M q 0))) q 1)) q 2)) o 3 ((mU (mU (mU M o 0 (bv (M q 0))) o 1 ((mU M o 0 (bv (M q 0))) q 1)) o 2 ((mU (mU M o 0 (bv (M q 0))) o 1 ((mU M o 0 (bv (M q 0))) q 1)) q 2)) q 3)) q 4)) o 5 ((mU (mU (mU (mU (mU M o 0 (bv (M q 0))) o 1 ((mU M o 0 (bv (M q 0))) q 1)) o 2 ((mU (mU M o 0 (bv (M q 0))) o 1 ((mU M o 0 (bv (M q 0))) q 1)) q 2)) o 3 ((mU (mU (mU M o 0 (bv (M q 0))) o 1 ((mU M o 0 (bv (M q 0))) q 1)) o 2 ((mU (mU M o 0 (bv (M q 0))) o 1 ((mU M o 0 (bv (M q 0))) q 1)) q 2)) q 3)) o 4 ((mU (mU (mU (mU M o 0 (bv (M q 0))) o 1 ((mU M o 0 (bv (M q 0))) q 1)) o 2 ((mU (mU M o 0 (bv (M q 0))) o 1 ((mU M o 0 (bv (M q 0))) q 1)) q 2)) o 3 ((mU (mU (mU M o 0 (bv (M q 0))) o 1 ((mU M o 0 (bv (M q 0))) q 1)) o 2 ((mU (mU M o 0 (bv (M q 0))) o 1 ((mU M o 0 (bv (M q 0))) q 1)) q 2)) q 3)) q 4)) q 5)) q 6)) o 7 ((mU (mU (mU (mU (mU (mU (mU M o 0 (bv (M q 0))) o 1 ((mU M o 0 (bv (M q 0))) q 1)) o 2 ((mU (mU M o 0 (bv (M q 0))) o 1 ((mU M o 0 (bv (M q 0))) q 1)) q 2)) o 3 ((mU (mU (mU M o 0 (bv (M q 0))) o 1 ((mU M o 0 (bv (M q 0))) q 1)) o 2 ((mU (mU M o 0 (bv (M q 0))) o 1 ((mU M o 0 (bv (M q 0))) q 1)) q 2)) q 3)) o 4 ((mU (mU (mU (mU M o 0 (bv (M q 0))) o 1 ((mU M o 0 (bv (M q 0))) q 1)) o 2 ((mU (mU M o 0 (bv (M q 0))) o 1 ((mU M o 0 (bv (M q 0))) q 1)) q 2)) o 3 ((mU (mU (mU M o 0 (bv (M q 0))) o 1 ((mU M o 0 (bv (M q 0))) q 1)) o 2 ((mU (mU M o 0 (bv (M q 0))) o 1 ((mU M o 0 (bv (M q 0))) q 1)) q 2)) q 3)) q 4)) o 5 ((mU (mU (mU (mU (mU M o 0 (bv (M q 0))) o 1 ((mU M o 0 (bv (M q 0))) q 1)) o 2 ((mU (mU M o 0 (bv (M q 0))) o 1 ((mU M o 0 (bv (M q 0))) q 1)) q 2)) o 3 ((mU (mU (mU M o 0 (bv (M q 0))) o 1 ((mU M o 0 (bv (M q 0))) q 1)) o 2 ((mU (mU M o 0 (bv (M q 0))) o 1 ((mU M o 0 (bv (M q 0))) q 1)) q 2)) q 3)) o 4 ((mU (mU (mU (mU M o 0 (bv (M q 0))) o 1 ((mU M o 0 (bv (M q 0))) q 1)) o 2 ((mU (mU M o 0 (bv (M q 0))) o 1 ((mU M o 0 (bv (M q 0))) q 1)) q 2)) o 3 ((mU (mU (mU M o 0 (bv (M q 0))) o 1 ((mU M o 0 (bv (M q 0))) q 1)) o 2 ((mU (mU M o 0 (bv (M q 0))) o 1 ((mU M o 0 (bv (M q 0))) q 1)) q 2)) q 3)) q 4)) q 5)) o 6 ((mU (mU (mU (mU (mU (mU M o 0 (bv (M q 0))) o 1 ((mU M o 0 (bv (M q 0))) q 1)) o 2 ((mU (mU M o 0 (bv (M q 0))) o 1 ((mU M o 0 (bv (M q 0))) q 1)) q 2)) o 3 ((mU (mU (mU M o 0 (bv (M q 0))) o 1 ((mU M o 0 (bv (M q 0))) q 1)) o 2 ((mU (mU M o 0 (bv (M q 0))) o 1 ((mU M o 0 (bv (M q 0))) q 1)) q 2)) q 3)) o 4 ((mU (mU (mU (mU M o 0 (bv (M q 0))) o 1 ((mU M o 0 (bv (M q 0))) q 1)) o 2 ((mU (mU M o 0 (bv (M q 0))) o 1 ((mU M o 0 (bv (M q 0))) q 1)) q 2)) o 3 ((mU (mU (mU M o 0 (bv (M q 0))) o 1 ((mU M o 0 (bv (M q 0))) q 1)) o 2 ((mU (mU M o 0 (bv (M q 0))) o 1 ((mU M o 0 (bv (M q 0))) q 1)) q 2)) q 3)) q 4)) o 5 ((mU (mU (mU (mU (mU M o 0 (bv (M q 0))) o 1 ((mU M o 0 (bv (M q 0))) q 1)) o 2 ((mU (mU M o 0 (bv (M q 0))) o 1 ((mU M o 0 (bv (M q 0))) q 1)) q 2)) o 3 ((mU (mU (mU M o 0 (bv (M q 0))) o 1 ((mU M o 0 (bv (M q 0))) q 1)) o 2 ((mU (mU M o 0 (bv (M q 0))) o 1 ((mU M o 0 (bv (M q 0))) q 1)) q 2)) q 3)) o 4 ((mU (mU (mU (mU M o 0 (bv (M q 0))) o 1 ((mU M o 0 (bv (M q 0))) q 1)) o 2 ((mU (mU M o 0 (bv (M q 0))) o 1 ((mU M o 0 (bv (M q 0))) q 1)) q 2)) o 3 ((mU (mU (mU M o 0 (bv (M q 0))) o 1 ((mU M o 0 (bv (M q 0))) q 1)) o 2 ((mU (mU M o 0 (bv (M q 0))) o 1 ((mU M o 0 (bv (M q 0))) q 1)) q 2)) q 3)) q 4)) q 5)) q 6)) q 7)) q 8) hx hb hts inc1 tyX1 tyX1_ok nmX1 hown hK hP hS (kI_lt h_o hn) (fun _ => cell1 h_o) rfl 8 (by decide) rfl lk8 (fun _ h => h) rfl (tyX1_ok 8 (by decide)) rfl rfl (Nat.le_of_ble_eq_true rfl) dX1_copyFrom_69 (fun H locs hP hS => ?_)
  exact xe_v hx hb hr hlocks hP hS rfl (by rw [gX1_copyFrom] <;> rfl) (Nat.le_of_ble_eq_true rfl) (Nat.le_of_ble_eq_true rfl) dX1_copyFrom_72
def fX1_isBoxed (M : Mem) (o : Nat) : Int32 := if (M o 8) = ((-1) : Int32) then (0 : Int32) else (1 : Int32)
set_option maxHeartbeats 4000000 in
set_option maxRecDepth 100000 in
theorem c_X1_isBoxed (l : Launch) (D : va_G) (cy : Nat → ClassId) (b n : Nat) (hn : 124 ≤ n) (M : Mem) (o : Nat) (h_o : kd o = 1) : Met l yX1_isBoxed wsX1_isBoxed ({ frames := 0, cells := 0, slots := 0, locals := 0 } : Room) (CP D cy b n fT M [.ref (b + o)]) (CQi D cy b n fT (fX1_isBoxed M o) M) 0 0 (fr b) := by
  refine Met.ofW (cc := cX1_isBoxed) (maxL := 1) (ret := (some .boolean)) (by decide) rfl ?_
  intro p e s m args below meth c s₁ B hml hv
  obtain ⟨rfl, hP, hK, hX⟩ := hv
  have hx := B.exec
  have hb := B.bytes
  have hr := B.returns
  have hts := atoms_spec (ws := wsX1_isBoxed) B.pre
  have hown : s.vm.findClass RX1 = some m.cls := findClass_of_methodNamed B.named
  have hlocks := B.notSynchronized
  have lk0 := hts (.fieldLink RX1 9 "HygrometerRoom$Instrument" "box" "I") (by decide +kernel)
  have inc1 : ∀ w ∈ u_ws RX1 TX1 9, w ∈ wsX1_isBoxed := by decide +kernel
  have hS : va_S (fr b) s.heap s.heap [] := va_S.rf
  have hl := lv_entry ([.ref (b + o)]) (n := 1) (Nat.le_of_ble_eq_true rfl)
  rw [lg_entry_eq]
  generalize (lg_sl ([.ref (b + o)]) ++ List.replicate (1 - (lg_sl ([.ref (b + o)])).length) Slot.unset).toArray = ls at hl ⊢
  have hl : lv_has ls 1 [(0, .ref (b + o))] := hl
  refine lv_aload_n hx hb dX1_isBoxed_0 rfl (lv_at hl 0 rfl) ?_
  refine xg (C := RX1) (T := TX1) (N := 9) (v := .int (M o 8)) hx hb hts inc1 hown hK hP (kI_lt h_o hn) (cell1 h_o) rfl 8 (by decide) lk0 (fun _ h => h) rfl dX1_isBoxed_1 ?_
  refine lv_iconst (v := (-1)) hx hb dX1_isBoxed_4 (by decide) ?_
  refine lv_icmp_eq (tgt := 12) hx hb dX1_isBoxed_5 (by decide) (fun c5 => ?_) (fun c5 => ?_)
  · refine lv_iconst (v := 0) hx hb dX1_isBoxed_12 (by decide) ?_
    exact xe_z hx hb hr hlocks hP hS rfl rfl (by rw [fX1_isBoxed, if_pos c5] <;> rfl) rfl (Nat.le_of_ble_eq_true rfl) (Nat.le_of_ble_eq_true rfl) dX1_isBoxed_13
  · refine lv_iconst (v := 1) hx hb dX1_isBoxed_8 (by decide) ?_
    refine lv_goto (tgt := 13) hx hb dX1_isBoxed_9 (by decide) ?_
    exact xe_z hx hb hr hlocks hP hS rfl rfl (by rw [fX1_isBoxed, if_neg c5] <;> rfl) rfl (Nat.le_of_ble_eq_true rfl) (Nat.le_of_ble_eq_true rfl) dX1_isBoxed_13
def fX1_flaw (M : Mem) (o : Nat) : Int32 := if (fX1_isBoxed M o) = 0 then (if (bv (M o 0)) = 0 then (if (M o 6) = 0 then (2 : Int32) else (if (M o 5) ≤ (25 : Int32) then (0 : Int32) else (3 : Int32))) else (if (M o 1) = 0 then (2 : Int32) else (if (M o 5) ≤ (25 : Int32) then (0 : Int32) else (3 : Int32)))) else (1 : Int32)
set_option maxHeartbeats 4000000 in
set_option maxRecDepth 100000 in
theorem c_X1_flaw (l : Launch) (D : va_G) (cy : Nat → ClassId) (b n : Nat) (hn : 124 ≤ n) (M : Mem) (o : Nat) (h_o : kd o = 1) : Met l yX1_flaw wsX1_flaw ({ frames := 1, cells := 0, slots := 0, locals := 20 } : Room) (CP D cy b n fT M [.ref (b + o)]) (CQi D cy b n fT (fX1_flaw M o) M) 0 0 (fr b) := by
  refine Met.ofW (cc := cX1_flaw) (maxL := 1) (ret := (some .int)) (by decide) rfl ?_
  intro p e s m args below meth c s₁ B hml hv
  obtain ⟨rfl, hP, hK, hX⟩ := hv
  have hx := B.exec
  have hb := B.bytes
  have hr := B.returns
  have hts := atoms_spec (ws := wsX1_flaw) B.pre
  have hown : s.vm.findClass RX1 = some m.cls := findClass_of_methodNamed B.named
  have hlocks := B.notSynchronized
  have lk0 := hts (.fieldLink RX1 18 "HygrometerRoom$Instrument" "hair" "Z") (by decide +kernel)
  have lk1 := hts (.fieldLink RX1 31 "HygrometerRoom$Instrument" "water" "I") (by decide +kernel)
  have lk2 := hts (.fieldLink RX1 37 "HygrometerRoom$Instrument" "slack" "I") (by decide +kernel)
  have lk3 := hts (.fieldLink RX1 22 "HygrometerRoom$Instrument" "hairs" "I") (by decide +kernel)
  have inc1 : ∀ w ∈ u_ws RX1 TX1 9, w ∈ wsX1_flaw := by decide +kernel
  have hS : va_S (fr b) s.heap s.heap [] := va_S.rf
  have hl := lv_entry ([.ref (b + o)]) (n := 1) (Nat.le_of_ble_eq_true rfl)
  rw [lg_entry_eq]
  generalize (lg_sl ([.ref (b + o)]) ++ List.replicate (1 - (lg_sl ([.ref (b + o)])).length) Slot.unset).toArray = ls at hl ⊢
  have hl : lv_has ls 1 [(0, .ref (b + o))] := hl
  refine lv_aload_n hx hb dX1_flaw_0 rfl (lv_at hl 0 rfl) ?_
  refine xc_i (va_runV (As := []) (rest := []) ⟨hx, hb, hml, hown, hts⟩ (c_X1_isBoxed l D cy b n hn M o h_o) (cwV 0 hts gX1_flaw_X1_isBoxed rfl rfl rfl (by decide +kernel) ⟨Nat.le_of_ble_eq_true rfl, Nat.le_of_ble_eq_true rfl⟩) (xPreV hP hK hX hS (kI_lt h_o hn) (cell1 h_o) rfl) rfl rfl hl.1 rfl (lv_room (Nat.le_of_ble_eq_true rfl)) dX1_flaw_1 ⟨Nat.le_of_ble_eq_true rfl, Nat.le_of_ble_eq_true rfl⟩) hS (fun H locs hP hS => ?_)
  refine lv_if_eq (tgt := 9) hx hb dX1_flaw_4 (by decide) (fun c4 => ?_) (fun c4 => ?_)
  · refine lv_aload_n hx hb dX1_flaw_9 rfl (lv_at hl 0 rfl) ?_
    refine xg (C := RX1) (T := TX1) (N := 9) (v := .int (bv (M o 0))) hx hb hts inc1 hown hK hP (kI_lt h_o hn) (cell1 h_o) rfl 0 (by decide) lk0 (fun _ h => h) rfl dX1_flaw_10 ?_
    refine lv_if_eq (tgt := 26) hx hb dX1_flaw_13 (by decide) (fun c13 => ?_) (fun c13 => ?_)
    · refine lv_aload_n hx hb dX1_flaw_26 rfl (lv_at hl 0 rfl) ?_
      refine xg (C := RX1) (T := TX1) (N := 9) (v := .int (M o 6)) hx hb hts inc1 hown hK hP (kI_lt h_o hn) (cell1 h_o) rfl 6 (by decide) lk1 (fun _ h => h) rfl dX1_flaw_27 ?_
      refine lv_if_ne (tgt := 35) hx hb dX1_flaw_30 (by decide) (fun c30 => ?_) (fun c30 => ?_)
      · refine lv_aload_n hx hb dX1_flaw_35 rfl (lv_at hl 0 rfl) ?_
        refine xg (C := RX1) (T := TX1) (N := 9) (v := .int (M o 5)) hx hb hts inc1 hown hK hP (kI_lt h_o hn) (cell1 h_o) rfl 5 (by decide) lk2 (fun _ h => h) rfl dX1_flaw_36 ?_
        refine lv_bipush (v := 25) hx hb dX1_flaw_39 (by decide) ?_
        refine lv_icmp_le (tgt := 48) hx hb dX1_flaw_41 (by decide) (fun c41 => ?_) (fun c41 => ?_)
        · refine lv_iconst (v := 0) hx hb dX1_flaw_48 (by decide) ?_
          exact xe_i hx hb hr hlocks hP hS rfl rfl (by rw [fX1_flaw, if_pos c4, if_pos c13, if_neg c30, if_pos c41] <;> rfl) (Nat.le_of_ble_eq_true rfl) (Nat.le_of_ble_eq_true rfl) dX1_flaw_49
        · refine lv_iconst (v := 3) hx hb dX1_flaw_44 (by decide) ?_
          refine lv_goto (tgt := 49) hx hb dX1_flaw_45 (by decide) ?_
          exact xe_i hx hb hr hlocks hP hS rfl rfl (by rw [fX1_flaw, if_pos c4, if_pos c13, if_neg c30, if_neg c41] <;> rfl) (Nat.le_of_ble_eq_true rfl) (Nat.le_of_ble_eq_true rfl) dX1_flaw_49
      · refine lv_iconst (v := 2) hx hb dX1_flaw_33 (by decide) ?_
        exact xe_i hx hb hr hlocks hP hS rfl rfl (by rw [fX1_flaw, if_pos c4, if_pos c13, if_pos c30] <;> rfl) (Nat.le_of_ble_eq_true rfl) (Nat.le_of_ble_eq_true rfl) dX1_flaw_34
    · refine lv_aload_n hx hb dX1_flaw_16 rfl (lv_at hl 0 rfl) ?_
      refine xg (C := RX1) (T := TX1) (N := 9) (v := .int (M o 1)) hx hb hts inc1 hown hK hP (kI_lt h_o hn) (cell1 h_o) rfl 1 (by decide) lk3 (fun _ h => h) rfl dX1_flaw_17 ?_
      refine lv_if_ne (tgt := 35) hx hb dX1_flaw_20 (by decide) (fun c20 => ?_) (fun c20 => ?_)
      · refine lv_aload_n hx hb dX1_flaw_35 rfl (lv_at hl 0 rfl) ?_
        refine xg (C := RX1) (T := TX1) (N := 9) (v := .int (M o 5)) hx hb hts inc1 hown hK hP (kI_lt h_o hn) (cell1 h_o) rfl 5 (by decide) lk2 (fun _ h => h) rfl dX1_flaw_36 ?_
        refine lv_bipush (v := 25) hx hb dX1_flaw_39 (by decide) ?_
        refine lv_icmp_le (tgt := 48) hx hb dX1_flaw_41 (by decide) (fun c41 => ?_) (fun c41 => ?_)
        · refine lv_iconst (v := 0) hx hb dX1_flaw_48 (by decide) ?_
          exact xe_i hx hb hr hlocks hP hS rfl rfl (by rw [fX1_flaw, if_pos c4, if_neg c13, if_neg c20, if_pos c41] <;> rfl) (Nat.le_of_ble_eq_true rfl) (Nat.le_of_ble_eq_true rfl) dX1_flaw_49
        · refine lv_iconst (v := 3) hx hb dX1_flaw_44 (by decide) ?_
          refine lv_goto (tgt := 49) hx hb dX1_flaw_45 (by decide) ?_
          exact xe_i hx hb hr hlocks hP hS rfl rfl (by rw [fX1_flaw, if_pos c4, if_neg c13, if_neg c20, if_neg c41] <;> rfl) (Nat.le_of_ble_eq_true rfl) (Nat.le_of_ble_eq_true rfl) dX1_flaw_49
      · refine lv_goto (tgt := 33) hx hb dX1_flaw_23 (by decide) ?_
        refine lv_iconst (v := 2) hx hb dX1_flaw_33 (by decide) ?_
        exact xe_i hx hb hr hlocks hP hS rfl rfl (by rw [fX1_flaw, if_pos c4, if_neg c13, if_pos c20] <;> rfl) (Nat.le_of_ble_eq_true rfl) (Nat.le_of_ble_eq_true rfl) dX1_flaw_34
  · refine lv_iconst (v := 1) hx hb dX1_flaw_7 (by decide) ?_
    exact xe_i hx hb hr hlocks hP hS rfl rfl (by rw [fX1_flaw, if_neg c4] <;> rfl) (Nat.le_of_ble_eq_true rfl) (Nat.le_of_ble_eq_true rfl) dX1_flaw_8
def fX1_weight (M : Mem) (o : Nat) : Int32 := if (fX1_flaw M o) = 0 then (if (bv (M o 0)) = 0 then (5 : Int32) else (M o 1)) else (0 : Int32)
set_option maxHeartbeats 4000000 in
set_option maxRecDepth 100000 in
theorem c_X1_weight (l : Launch) (D : va_G) (cy : Nat → ClassId) (b n : Nat) (hn : 124 ≤ n) (M : Mem) (o : Nat) (h_o : kd o = 1) : Met l yX1_weight wsX1_weight ({ frames := 2, cells := 0, slots := 0, locals := 40 } : Room) (CP D cy b n fT M [.ref (b + o)]) (CQi D cy b n fT (fX1_weight M o) M) 0 0 (fr b) := by
  refine Met.ofW (cc := cX1_weight) (maxL := 1) (ret := (some .int)) (by decide) rfl ?_
  intro p e s m args below meth c s₁ B hml hv
  obtain ⟨rfl, hP, hK, hX⟩ := hv
  have hx := B.exec
  have hb := B.bytes
  have hr := B.returns
  have hts := atoms_spec (ws := wsX1_weight) B.pre
  have hown : s.vm.findClass RX1 = some m.cls := findClass_of_methodNamed B.named
  have hlocks := B.notSynchronized
  have lk0 := hts (.fieldLink RX1 18 "HygrometerRoom$Instrument" "hair" "Z") (by decide +kernel)
  have lk1 := hts (.fieldLink RX1 22 "HygrometerRoom$Instrument" "hairs" "I") (by decide +kernel)
  have inc1 : ∀ w ∈ u_ws RX1 TX1 9, w ∈ wsX1_weight := by decide +kernel
  have hS : va_S (fr b) s.heap s.heap [] := va_S.rf
  have hl := lv_entry ([.ref (b + o)]) (n := 1) (Nat.le_of_ble_eq_true rfl)
  rw [lg_entry_eq]
  generalize (lg_sl ([.ref (b + o)]) ++ List.replicate (1 - (lg_sl ([.ref (b + o)])).length) Slot.unset).toArray = ls at hl ⊢
  have hl : lv_has ls 1 [(0, .ref (b + o))] := hl
  refine lv_aload_n hx hb dX1_weight_0 rfl (lv_at hl 0 rfl) ?_
  refine xc_i (va_runV (As := []) (rest := []) ⟨hx, hb, hml, hown, hts⟩ (c_X1_flaw l D cy b n hn M o h_o) (cwV 0 hts gX1_weight_X1_flaw rfl rfl rfl (by decide +kernel) ⟨Nat.le_of_ble_eq_true rfl, Nat.le_of_ble_eq_true rfl⟩) (xPreV hP hK hX hS (kI_lt h_o hn) (cell1 h_o) rfl) rfl rfl hl.1 rfl (lv_room (Nat.le_of_ble_eq_true rfl)) dX1_weight_1 ⟨Nat.le_of_ble_eq_true rfl, Nat.le_of_ble_eq_true rfl⟩) hS (fun H locs hP hS => ?_)
  refine lv_if_eq (tgt := 9) hx hb dX1_weight_4 (by decide) (fun c4 => ?_) (fun c4 => ?_)
  · refine lv_aload_n hx hb dX1_weight_9 rfl (lv_at hl 0 rfl) ?_
    refine xg (C := RX1) (T := TX1) (N := 9) (v := .int (bv (M o 0))) hx hb hts inc1 hown hK hP (kI_lt h_o hn) (cell1 h_o) rfl 0 (by decide) lk0 (fun _ h => h) rfl dX1_weight_10 ?_
    refine lv_if_eq (tgt := 23) hx hb dX1_weight_13 (by decide) (fun c13 => ?_) (fun c13 => ?_)
    · refine lv_iconst (v := 5) hx hb dX1_weight_23 (by decide) ?_
      exact xe_i hx hb hr hlocks hP hS rfl rfl (by rw [fX1_weight, if_pos c4, if_pos c13] <;> rfl) (Nat.le_of_ble_eq_true rfl) (Nat.le_of_ble_eq_true rfl) dX1_weight_24
    · refine lv_aload_n hx hb dX1_weight_16 rfl (lv_at hl 0 rfl) ?_
      refine xg (C := RX1) (T := TX1) (N := 9) (v := .int (M o 1)) hx hb hts inc1 hown hK hP (kI_lt h_o hn) (cell1 h_o) rfl 1 (by decide) lk1 (fun _ h => h) rfl dX1_weight_17 ?_
      refine lv_goto (tgt := 24) hx hb dX1_weight_20 (by decide) ?_
      exact xe_i hx hb hr hlocks hP hS rfl rfl (by rw [fX1_weight, if_pos c4, if_neg c13] <;> rfl) (Nat.le_of_ble_eq_true rfl) (Nat.le_of_ble_eq_true rfl) dX1_weight_24
  · refine lv_iconst (v := 0) hx hb dX1_weight_7 (by decide) ?_
    exact xe_i hx hb hr hlocks hP hS rfl rfl (by rw [fX1_weight, if_neg c4] <;> rfl) (Nat.le_of_ble_eq_true rfl) (Nat.le_of_ble_eq_true rfl) dX1_weight_8
def gX1_moveWetness (M : Mem) (o : Nat) (x : Int32) (y : Int32) : Mem := if x ≤ (M o 4) then (mU M o 4 (xmax x ((M o 4) - y))) else (mU M o 4 (xmin x ((M o 4) + y)))
set_option maxHeartbeats 4000000 in
set_option maxRecDepth 100000 in
theorem c_X1_moveWetness (l : Launch) (D : va_G) (cy : Nat → ClassId) (b n : Nat) (hn : 124 ≤ n) (M : Mem) (o : Nat) (x : Int32) (y : Int32) (h_o : kd o = 1) : Met l yX1_moveWetness wsX1_moveWetness ({ frames := 1, cells := 0, slots := 0, locals := 21 } : Room) (CP D cy b n fT M [.ref (b + o), .int x, .int y]) (CQv D cy b n fT (gX1_moveWetness M o x y)) 0 0 (fr b) := by
  refine Met.ofW (cc := cX1_moveWetness) (maxL := 3) (ret := none) (by decide) rfl ?_
  intro p e s m args below meth c s₁ B hml hv
  obtain ⟨rfl, hP, hK, hX⟩ := hv
  have hx := B.exec
  have hb := B.bytes
  have hr := B.returns
  have hts := atoms_spec (ws := wsX1_moveWetness) B.pre
  have hown : s.vm.findClass RX1 = some m.cls := findClass_of_methodNamed B.named
  have hlocks := B.notSynchronized
  have lk0 := hts (.fieldLink RX1 28 "HygrometerRoom$Instrument" "wetness" "I") (by decide +kernel)
  have lk1 := hts (.methodLink RX1 51 Lib.Math.max.name) (by decide +kernel)
  have lk2 := hts (.static Lib.Math.max.name) (by decide +kernel)
  have lk3 := hts (.initialized "java/lang/Math") (by decide +kernel)
  have lk4 := hts (.code Lib.Math.max.name Lib.Math.max.code 2 (some .int)) (by decide +kernel)
  have lk5 := hts (.methodLink RX1 64 Lib.Math.min.name) (by decide +kernel)
  have lk6 := hts (.static Lib.Math.min.name) (by decide +kernel)
  have lk7 := hts (.code Lib.Math.min.name Lib.Math.min.code 2 (some .int)) (by decide +kernel)
  have inc1 : ∀ w ∈ u_ws RX1 TX1 9, w ∈ wsX1_moveWetness := by decide +kernel
  have hS : va_S (fr b) s.heap s.heap [] := va_S.rf
  have hl := lv_entry ([.ref (b + o), .int x, .int y]) (n := 3) (Nat.le_of_ble_eq_true rfl)
  rw [lg_entry_eq]
  generalize (lg_sl ([.ref (b + o), .int x, .int y]) ++ List.replicate (3 - (lg_sl ([.ref (b + o), .int x, .int y])).length) Slot.unset).toArray = ls at hl ⊢
  have hl : lv_has ls 3 [(0, .ref (b + o)), (1, .int x), (2, .int y)] := hl
  refine lv_aload_n hx hb dX1_moveWetness_0 rfl (lv_at hl 0 rfl) ?_
  refine xg (C := RX1) (T := TX1) (N := 9) (v := .int (M o 4)) hx hb hts inc1 hown hK hP (kI_lt h_o hn) (cell1 h_o) rfl 4 (by decide) lk0 (fun _ h => h) rfl dX1_moveWetness_1 ?_
  refine lv_iload_n hx hb dX1_moveWetness_4 rfl (lv_at hl 1 rfl) ?_
  refine lv_icmp_ge (tgt := 25) hx hb dX1_moveWetness_5 (by decide) (fun c5 => ?_) (fun c5 => ?_)
  · refine lv_aload_n hx hb dX1_moveWetness_25 rfl (lv_at hl 0 rfl) ?_
    refine lv_iload_n hx hb dX1_moveWetness_26 rfl (lv_at hl 1 rfl) ?_
    refine lv_aload_n hx hb dX1_moveWetness_27 rfl (lv_at hl 0 rfl) ?_
    refine xg (C := RX1) (T := TX1) (N := 9) (v := .int (M o 4)) hx hb hts inc1 hown hK hP (kI_lt h_o hn) (cell1 h_o) rfl 4 (by decide) lk0 (fun _ h => h) rfl dX1_moveWetness_28 ?_
    refine lv_iload_n hx hb dX1_moveWetness_31 rfl (lv_at hl 2 rfl) ?_
    refine lv_isub hx hb dX1_moveWetness_32 ?_
    refine x_mmax hx hb (hml.trans hl.1.symm) hown lk1 lk2 lk3 lk4 (Nat.le_of_ble_eq_true rfl) (Nat.le_of_ble_eq_true rfl) (Nat.le_of_ble_eq_true rfl) (Nat.le_of_ble_eq_true rfl) dX1_moveWetness_33 ?_
    refine xp (C := RX1) (T := TX1) (N := 9) (ci := 1) (ty := .int) (x := xmax x ((M o 4) - y)) hx hb hts inc1 tyX1 tyX1_ok nmX1 hown hK hP hS (kI_lt h_o hn) (fun _ => cell1 h_o) rfl 4 (by decide) rfl lk0 (fun _ h => h) rfl (tyX1_ok 4 (by decide)) rfl rfl (Nat.le_of_ble_eq_true rfl) dX1_moveWetness_36 (fun H locs hP hS => ?_)
    exact xe_v hx hb hr hlocks hP hS rfl (by rw [gX1_moveWetness, if_pos c5] <;> rfl) (Nat.le_of_ble_eq_true rfl) (Nat.le_of_ble_eq_true rfl) dX1_moveWetness_39
  · refine lv_aload_n hx hb dX1_moveWetness_8 rfl (lv_at hl 0 rfl) ?_
    refine lv_iload_n hx hb dX1_moveWetness_9 rfl (lv_at hl 1 rfl) ?_
    refine lv_aload_n hx hb dX1_moveWetness_10 rfl (lv_at hl 0 rfl) ?_
    refine xg (C := RX1) (T := TX1) (N := 9) (v := .int (M o 4)) hx hb hts inc1 hown hK hP (kI_lt h_o hn) (cell1 h_o) rfl 4 (by decide) lk0 (fun _ h => h) rfl dX1_moveWetness_11 ?_
    refine lv_iload_n hx hb dX1_moveWetness_14 rfl (lv_at hl 2 rfl) ?_
    refine lv_iadd hx hb dX1_moveWetness_15 ?_
    refine x_mmin hx hb (hml.trans hl.1.symm) hown lk5 lk6 lk3 lk7 (Nat.le_of_ble_eq_true rfl) (Nat.le_of_ble_eq_true rfl) (Nat.le_of_ble_eq_true rfl) (Nat.le_of_ble_eq_true rfl) dX1_moveWetness_16 ?_
    refine xp (C := RX1) (T := TX1) (N := 9) (ci := 1) (ty := .int) (x := xmin x ((M o 4) + y)) hx hb hts inc1 tyX1 tyX1_ok nmX1 hown hK hP hS (kI_lt h_o hn) (fun _ => cell1 h_o) rfl 4 (by decide) rfl lk0 (fun _ h => h) rfl (tyX1_ok 4 (by decide)) rfl rfl (Nat.le_of_ble_eq_true rfl) dX1_moveWetness_19 (fun H locs hP hS => ?_)
    refine lv_goto (tgt := 39) hx hb dX1_moveWetness_22 (by decide) ?_
    exact xe_v hx hb hr hlocks hP hS rfl (by rw [gX1_moveWetness, if_neg c5] <;> rfl) (Nat.le_of_ble_eq_true rfl) (Nat.le_of_ble_eq_true rfl) dX1_moveWetness_39
def gX1_age (M : Mem) (o : Nat) (x : Int32) (y : Int32) : Mem := if (bv (M o 0)) = 0 then (mU M o 6 (xmax (0 : Int32) ((M o 6) - (1 : Int32)))) else (if (M o 1) ≤ 0 then (if (x - x / (10 : Int32) * (10 : Int32)) = 0 then (mU M o 5 (xmin (50 : Int32) ((M o 5) + (1 : Int32)))) else M) else (if (x - x / (10 : Int32) * (10 : Int32)) = 0 then (mU (gX1_moveWetness M o y ((1 : Int32) + (fX7_quotient M (20 : Int32) (M o 1)))) o 5 (xmin (50 : Int32) (((gX1_moveWetness M o y ((1 : Int32) + (fX7_quotient M (20 : Int32) (M o 1)))) o 5) + (1 : Int32)))) else (gX1_moveWetness M o y ((1 : Int32) + (fX7_quotient M (20 : Int32) (M o 1))))))
set_option maxHeartbeats 4000000 in
set_option maxRecDepth 100000 in
theorem c_X1_age (l : Launch) (D : va_G) (cy : Nat → ClassId) (b n : Nat) (hn : 124 ≤ n) (M : Mem) (o : Nat) (x : Int32) (y : Int32) (h_o : kd o = 1) : Met l yX1_age wsX1_age ({ frames := 2, cells := 0, slots := 0, locals := 43 } : Room) (CP D cy b n fT M [.ref (b + o), .int x, .int y]) (CQv D cy b n fT (gX1_age M o x y)) 0 0 (fr b) := by
  refine Met.ofW (cc := cX1_age) (maxL := 3) (ret := none) (by decide) rfl ?_
  intro p e s m args below meth c s₁ B hml hv
  obtain ⟨rfl, hP, hK, hX⟩ := hv
  have hx := B.exec
  have hb := B.bytes
  have hr := B.returns
  have hts := atoms_spec (ws := wsX1_age) B.pre
  have hown : s.vm.findClass RX1 = some m.cls := findClass_of_methodNamed B.named
  have hlocks := B.notSynchronized
  have lk0 := hts (.fieldLink RX1 18 "HygrometerRoom$Instrument" "hair" "Z") (by decide +kernel)
  have lk1 := hts (.fieldLink RX1 22 "HygrometerRoom$Instrument" "hairs" "I") (by decide +kernel)
  have lk2 := hts (.fieldLink RX1 37 "HygrometerRoom$Instrument" "slack" "I") (by decide +kernel)
  have lk3 := hts (.methodLink RX1 64 Lib.Math.min.name) (by decide +kernel)
  have lk4 := hts (.static Lib.Math.min.name) (by decide +kernel)
  have lk5 := hts (.initialized "java/lang/Math") (by decide +kernel)
  have lk6 := hts (.code Lib.Math.min.name Lib.Math.min.code 2 (some .int)) (by decide +kernel)
  have lk7 := hts (.static yX7_quotient) (by decide +kernel)
  have lk8 := hts (.initialized RX7) (by decide +kernel)
  have lk9 := hts (.fieldLink RX1 31 "HygrometerRoom$Instrument" "water" "I") (by decide +kernel)
  have lk10 := hts (.methodLink RX1 51 Lib.Math.max.name) (by decide +kernel)
  have lk11 := hts (.static Lib.Math.max.name) (by decide +kernel)
  have lk12 := hts (.code Lib.Math.max.name Lib.Math.max.code 2 (some .int)) (by decide +kernel)
  have inc1 : ∀ w ∈ u_ws RX1 TX1 9, w ∈ wsX1_age := by decide +kernel
  have hS : va_S (fr b) s.heap s.heap [] := va_S.rf
  have hl := lv_entry ([.ref (b + o), .int x, .int y]) (n := 3) (Nat.le_of_ble_eq_true rfl)
  rw [lg_entry_eq]
  generalize (lg_sl ([.ref (b + o), .int x, .int y]) ++ List.replicate (3 - (lg_sl ([.ref (b + o), .int x, .int y])).length) Slot.unset).toArray = ls at hl ⊢
  have hl : lv_has ls 3 [(0, .ref (b + o)), (1, .int x), (2, .int y)] := hl
  refine lv_aload_n hx hb dX1_age_0 rfl (lv_at hl 0 rfl) ?_
  refine xg (C := RX1) (T := TX1) (N := 9) (v := .int (bv (M o 0))) hx hb hts inc1 hown hK hP (kI_lt h_o hn) (cell1 h_o) rfl 0 (by decide) lk0 (fun _ h => h) rfl dX1_age_1 ?_
  refine lv_if_ne (tgt := 22) hx hb dX1_age_4 (by decide) (fun c4 => ?_) (fun c4 => ?_)
  · refine lv_aload_n hx hb dX1_age_22 rfl (lv_at hl 0 rfl) ?_
    refine xg (C := RX1) (T := TX1) (N := 9) (v := .int (M o 1)) hx hb hts inc1 hown hK hP (kI_lt h_o hn) (cell1 h_o) rfl 1 (by decide) lk1 (fun _ h => h) rfl dX1_age_23 ?_
    refine lv_if_le (tgt := 45) hx hb dX1_age_26 (by decide) (fun c26 => ?_) (fun c26 => ?_)
    · refine lv_iload_n hx hb dX1_age_45 rfl (lv_at hl 1 rfl) ?_
      refine lv_bipush (v := 10) hx hb dX1_age_46 (by decide) ?_
      refine lv_irem hx hb dX1_age_48 (by decide) ?_
      refine lv_if_ne (tgt := 67) hx hb dX1_age_49 (by decide) (fun c49 => ?_) (fun c49 => ?_)
      · exact xe_v hx hb hr hlocks hP hS rfl (by rw [gX1_age, if_neg c4, if_pos c26, if_neg c49] <;> rfl) (Nat.le_of_ble_eq_true rfl) (Nat.le_of_ble_eq_true rfl) dX1_age_67
      · refine lv_aload_n hx hb dX1_age_52 rfl (lv_at hl 0 rfl) ?_
        refine lv_bipush (v := 50) hx hb dX1_age_53 (by decide) ?_
        refine lv_aload_n hx hb dX1_age_55 rfl (lv_at hl 0 rfl) ?_
        refine xg (C := RX1) (T := TX1) (N := 9) (v := .int (M o 5)) hx hb hts inc1 hown hK hP (kI_lt h_o hn) (cell1 h_o) rfl 5 (by decide) lk2 (fun _ h => h) rfl dX1_age_56 ?_
        refine lv_iconst (v := 1) hx hb dX1_age_59 (by decide) ?_
        refine lv_iadd hx hb dX1_age_60 ?_
        refine x_mmin hx hb (hml.trans hl.1.symm) hown lk3 lk4 lk5 lk6 (Nat.le_of_ble_eq_true rfl) (Nat.le_of_ble_eq_true rfl) (Nat.le_of_ble_eq_true rfl) (Nat.le_of_ble_eq_true rfl) dX1_age_61 ?_
        refine xp (C := RX1) (T := TX1) (N := 9) (ci := 1) (ty := .int) (x := xmin (50 : Int32) ((M o 5) + (1 : Int32))) hx hb hts inc1 tyX1 tyX1_ok nmX1 hown hK hP hS (kI_lt h_o hn) (fun _ => cell1 h_o) rfl 5 (by decide) rfl lk2 (fun _ h => h) rfl (tyX1_ok 5 (by decide)) rfl rfl (Nat.le_of_ble_eq_true rfl) dX1_age_64 (fun H locs hP hS => ?_)
        exact xe_v hx hb hr hlocks hP hS rfl (by rw [gX1_age, if_neg c4, if_pos c26, if_pos c49] <;> rfl) (Nat.le_of_ble_eq_true rfl) (Nat.le_of_ble_eq_true rfl) dX1_age_67
    · refine lv_aload_n hx hb dX1_age_29 rfl (lv_at hl 0 rfl) ?_
      refine lv_iload_n hx hb dX1_age_30 rfl (lv_at hl 2 rfl) ?_
      refine lv_iconst (v := 1) hx hb dX1_age_31 (by decide) ?_
      refine lv_bipush (v := 20) hx hb dX1_age_32 (by decide) ?_
      refine lv_aload_n hx hb dX1_age_34 rfl (lv_at hl 0 rfl) ?_
      refine xg (C := RX1) (T := TX1) (N := 9) (v := .int (M o 1)) hx hb hts inc1 hown hK hP (kI_lt h_o hn) (cell1 h_o) rfl 1 (by decide) lk1 (fun _ h => h) rfl dX1_age_35 ?_
      refine xc_i (va_runSN (As := [.int (20 : Int32), .int (M o 1)]) (rest := [.int (1 : Int32), .int y, .ref (b + o)]) ⟨hx, hb, hml, hown, hts⟩ (c_X7_quotient l D cy b n hn M (20 : Int32) (M o 1)) ⟨va_cnB 2 hts gX1_age_X7_quotient_n57 rfl rfl rfl (hX.2.2.2.2.2.1 (RX1, 57, yX7_quotient) (by decide +kernel)) lk8 (by decide +kernel) ⟨Nat.le_of_ble_eq_true rfl, Nat.le_of_ble_eq_true rfl⟩, lk7, trivial⟩ (xPreS hP hK hX hS) rfl rfl hl.1 rfl (lv_room (Nat.le_of_ble_eq_true rfl)) dX1_age_38 ⟨Nat.le_of_ble_eq_true rfl, Nat.le_of_ble_eq_true rfl⟩) hS (fun H locs hP hS => ?_)
      refine lv_iadd hx hb dX1_age_41 ?_
      refine xc_v (va_runV (As := [.int y, .int ((1 : Int32) + (fX7_quotient M (20 : Int32) (M o 1)))]) (rest := []) ⟨hx, hb, hml, hown, hts⟩ (c_X1_moveWetness l D cy b n hn M o y ((1 : Int32) + (fX7_quotient M (20 : Int32) (M o 1))) h_o) (cwV 2 hts gX1_age_X1_moveWetness rfl rfl rfl (by decide +kernel) ⟨Nat.le_of_ble_eq_true rfl, Nat.le_of_ble_eq_true rfl⟩) (xPreV hP hK hX hS (kI_lt h_o hn) (cell1 h_o) rfl) rfl rfl hl.1 rfl (lv_room (Nat.le_of_ble_eq_true rfl)) dX1_age_42 ⟨Nat.le_of_ble_eq_true rfl, Nat.le_of_ble_eq_true rfl⟩) hS (fun H locs hP hS => ?_)
      refine lv_iload_n hx hb dX1_age_45 rfl (lv_at hl 1 rfl) ?_
      refine lv_bipush (v := 10) hx hb dX1_age_46 (by decide) ?_
      refine lv_irem hx hb dX1_age_48 (by decide) ?_
      refine lv_if_ne (tgt := 67) hx hb dX1_age_49 (by decide) (fun c49 => ?_) (fun c49 => ?_)
      · exact xe_v hx hb hr hlocks hP hS rfl (by rw [gX1_age, if_neg c4, if_neg c26, if_neg c49] <;> rfl) (Nat.le_of_ble_eq_true rfl) (Nat.le_of_ble_eq_true rfl) dX1_age_67
      · refine lv_aload_n hx hb dX1_age_52 rfl (lv_at hl 0 rfl) ?_
        refine lv_bipush (v := 50) hx hb dX1_age_53 (by decide) ?_
        refine lv_aload_n hx hb dX1_age_55 rfl (lv_at hl 0 rfl) ?_
        refine xg (C := RX1) (T := TX1) (N := 9) (v := .int ((gX1_moveWetness M o y ((1 : Int32) + (fX7_quotient M (20 : Int32) (M o 1)))) o 5)) hx hb hts inc1 hown hK hP (kI_lt h_o hn) (cell1 h_o) rfl 5 (by decide) lk2 (fun _ h => h) rfl dX1_age_56 ?_
        refine lv_iconst (v := 1) hx hb dX1_age_59 (by decide) ?_
        refine lv_iadd hx hb dX1_age_60 ?_
        refine x_mmin hx hb (hml.trans hl.1.symm) hown lk3 lk4 lk5 lk6 (Nat.le_of_ble_eq_true rfl) (Nat.le_of_ble_eq_true rfl) (Nat.le_of_ble_eq_true rfl) (Nat.le_of_ble_eq_true rfl) dX1_age_61 ?_
        refine xp (C := RX1) (T := TX1) (N := 9) (ci := 1) (ty := .int) (x := xmin (50 : Int32) (((gX1_moveWetness M o y ((1 : Int32) + (fX7_quotient M (20 : Int32) (M o 1)))) o 5) + (1 : Int32))) hx hb hts inc1 tyX1 tyX1_ok nmX1 hown hK hP hS (kI_lt h_o hn) (fun _ => cell1 h_o) rfl 5 (by decide) rfl lk2 (fun _ h => h) rfl (tyX1_ok 5 (by decide)) rfl rfl (Nat.le_of_ble_eq_true rfl) dX1_age_64 (fun H locs hP hS => ?_)
        exact xe_v hx hb hr hlocks hP hS rfl (by rw [gX1_age, if_neg c4, if_neg c26, if_pos c49] <;> rfl) (Nat.le_of_ble_eq_true rfl) (Nat.le_of_ble_eq_true rfl) dX1_age_67
  · refine lv_aload_n hx hb dX1_age_7 rfl (lv_at hl 0 rfl) ?_
    refine lv_iconst (v := 0) hx hb dX1_age_8 (by decide) ?_
    refine lv_aload_n hx hb dX1_age_9 rfl (lv_at hl 0 rfl) ?_
    refine xg (C := RX1) (T := TX1) (N := 9) (v := .int (M o 6)) hx hb hts inc1 hown hK hP (kI_lt h_o hn) (cell1 h_o) rfl 6 (by decide) lk9 (fun _ h => h) rfl dX1_age_10 ?_
    refine lv_iconst (v := 1) hx hb dX1_age_13 (by decide) ?_
    refine lv_isub hx hb dX1_age_14 ?_
    refine x_mmax hx hb (hml.trans hl.1.symm) hown lk10 lk11 lk5 lk12 (Nat.le_of_ble_eq_true rfl) (Nat.le_of_ble_eq_true rfl) (Nat.le_of_ble_eq_true rfl) (Nat.le_of_ble_eq_true rfl) dX1_age_15 ?_
    refine xp (C := RX1) (T := TX1) (N := 9) (ci := 1) (ty := .int) (x := xmax (0 : Int32) ((M o 6) - (1 : Int32))) hx hb hts inc1 tyX1 tyX1_ok nmX1 hown hK hP hS (kI_lt h_o hn) (fun _ => cell1 h_o) rfl 6 (by decide) rfl lk9 (fun _ h => h) rfl (tyX1_ok 6 (by decide)) rfl rfl (Nat.le_of_ble_eq_true rfl) dX1_age_18 (fun H locs hP hS => ?_)
    exact xe_v hx hb hr hlocks hP hS rfl (by rw [gX1_age, if_pos c4] <;> rfl) (Nat.le_of_ble_eq_true rfl) (Nat.le_of_ble_eq_true rfl) dX1_age_21
def gX1_tightenSpring (M : Mem) (o : Nat) : Mem := if (20 : Int32) ≤ ((mU M o 5 (0 : Int32)) o 4) then (mU M o 5 (0 : Int32)) else (mU (mU (mU M o 5 (0 : Int32)) o 1 (((mU M o 5 (0 : Int32)) o 1) - (1 : Int32))) o 3 (((mU (mU M o 5 (0 : Int32)) o 1 (((mU M o 5 (0 : Int32)) o 1) - (1 : Int32))) o 3) + (1 : Int32)))
set_option maxHeartbeats 4000000 in
set_option maxRecDepth 100000 in
theorem c_X1_tightenSpring (l : Launch) (D : va_G) (cy : Nat → ClassId) (b n : Nat) (hn : 124 ≤ n) (M : Mem) (o : Nat) (h_o : kd o = 1) : Met l yX1_tightenSpring wsX1_tightenSpring ({ frames := 0, cells := 0, slots := 0, locals := 0 } : Room) (CP D cy b n fT M [.ref (b + o)]) (CQv D cy b n fT (gX1_tightenSpring M o)) 0 0 (fr b) := by
  refine Met.ofW (cc := cX1_tightenSpring) (maxL := 1) (ret := none) (by decide) rfl ?_
  intro p e s m args below meth c s₁ B hml hv
  obtain ⟨rfl, hP, hK, hX⟩ := hv
  have hx := B.exec
  have hb := B.bytes
  have hr := B.returns
  have hts := atoms_spec (ws := wsX1_tightenSpring) B.pre
  have hown : s.vm.findClass RX1 = some m.cls := findClass_of_methodNamed B.named
  have hlocks := B.notSynchronized
  have lk0 := hts (.fieldLink RX1 37 "HygrometerRoom$Instrument" "slack" "I") (by decide +kernel)
  have lk1 := hts (.fieldLink RX1 28 "HygrometerRoom$Instrument" "wetness" "I") (by decide +kernel)
  have lk2 := hts (.fieldLink RX1 22 "HygrometerRoom$Instrument" "hairs" "I") (by decide +kernel)
  have lk3 := hts (.fieldLink RX1 34 "HygrometerRoom$Instrument" "broken" "I") (by decide +kernel)
  have inc1 : ∀ w ∈ u_ws RX1 TX1 9, w ∈ wsX1_tightenSpring := by decide +kernel
  have hS : va_S (fr b) s.heap s.heap [] := va_S.rf
  have hl := lv_entry ([.ref (b + o)]) (n := 1) (Nat.le_of_ble_eq_true rfl)
  rw [lg_entry_eq]
  generalize (lg_sl ([.ref (b + o)]) ++ List.replicate (1 - (lg_sl ([.ref (b + o)])).length) Slot.unset).toArray = ls at hl ⊢
  have hl : lv_has ls 1 [(0, .ref (b + o))] := hl
  refine lv_aload_n hx hb dX1_tightenSpring_0 rfl (lv_at hl 0 rfl) ?_
  refine lv_iconst (v := 0) hx hb dX1_tightenSpring_1 (by decide) ?_
  refine xp (C := RX1) (T := TX1) (N := 9) (ci := 1) (ty := .int) (x := (0 : Int32)) hx hb hts inc1 tyX1 tyX1_ok nmX1 hown hK hP hS (kI_lt h_o hn) (fun _ => cell1 h_o) rfl 5 (by decide) rfl lk0 (fun _ h => h) rfl (tyX1_ok 5 (by decide)) rfl rfl (Nat.le_of_ble_eq_true rfl) dX1_tightenSpring_2 (fun H locs hP hS => ?_)
  refine lv_aload_n hx hb dX1_tightenSpring_5 rfl (lv_at hl 0 rfl) ?_
  refine xg (C := RX1) (T := TX1) (N := 9) (v := .int ((mU M o 5 (0 : Int32)) o 4)) hx hb hts inc1 hown hK hP (kI_lt h_o hn) (cell1 h_o) rfl 4 (by decide) lk1 (fun _ h => h) rfl dX1_tightenSpring_6 ?_
  refine lv_bipush (v := 20) hx hb dX1_tightenSpring_9 (by decide) ?_
  refine lv_icmp_ge (tgt := 34) hx hb dX1_tightenSpring_11 (by decide) (fun c11 => ?_) (fun c11 => ?_)
  · exact xe_v hx hb hr hlocks hP hS rfl (by rw [gX1_tightenSpring, if_pos c11] <;> rfl) (Nat.le_of_ble_eq_true rfl) (Nat.le_of_ble_eq_true rfl) dX1_tightenSpring_34
  · refine lv_aload_n hx hb dX1_tightenSpring_14 rfl (lv_at hl 0 rfl) ?_
    refine lv_dup hx hb dX1_tightenSpring_15 rfl ?_
    refine xg (C := RX1) (T := TX1) (N := 9) (v := .int ((mU M o 5 (0 : Int32)) o 1)) hx hb hts inc1 hown hK hP (kI_lt h_o hn) (cell1 h_o) rfl 1 (by decide) lk2 (fun _ h => h) rfl dX1_tightenSpring_16 ?_
    refine lv_iconst (v := 1) hx hb dX1_tightenSpring_19 (by decide) ?_
    refine lv_isub hx hb dX1_tightenSpring_20 ?_
    refine xp (C := RX1) (T := TX1) (N := 9) (ci := 1) (ty := .int) (x := ((mU M o 5 (0 : Int32)) o 1) - (1 : Int32)) hx hb hts inc1 tyX1 tyX1_ok nmX1 hown hK hP hS (kI_lt h_o hn) (fun _ => cell1 h_o) rfl 1 (by decide) rfl lk2 (fun _ h => h) rfl (tyX1_ok 1 (by decide)) rfl rfl (Nat.le_of_ble_eq_true rfl) dX1_tightenSpring_21 (fun H locs hP hS => ?_)
    refine lv_aload_n hx hb dX1_tightenSpring_24 rfl (lv_at hl 0 rfl) ?_
    refine lv_dup hx hb dX1_tightenSpring_25 rfl ?_
    refine xg (C := RX1) (T := TX1) (N := 9) (v := .int ((mU (mU M o 5 (0 : Int32)) o 1 (((mU M o 5 (0 : Int32)) o 1) - (1 : Int32))) o 3)) hx hb hts inc1 hown hK hP (kI_lt h_o hn) (cell1 h_o) rfl 3 (by decide) lk3 (fun _ h => h) rfl dX1_tightenSpring_26 ?_
    refine lv_iconst (v := 1) hx hb dX1_tightenSpring_29 (by decide) ?_
    refine lv_iadd hx hb dX1_tightenSpring_30 ?_
    refine xp (C := RX1) (T := TX1) (N := 9) (ci := 1) (ty := .int) (x := ((mU (mU M o 5 (0 : Int32)) o 1 (((mU M o 5 (0 : Int32)) o 1) - (1 : Int32))) o 3) + (1 : Int32)) hx hb hts inc1 tyX1 tyX1_ok nmX1 hown hK hP hS (kI_lt h_o hn) (fun _ => cell1 h_o) rfl 3 (by decide) rfl lk3 (fun _ h => h) rfl (tyX1_ok 3 (by decide)) rfl rfl (Nat.le_of_ble_eq_true rfl) dX1_tightenSpring_31 (fun H locs hP hS => ?_)
    exact xe_v hx hb hr hlocks hP hS rfl (by rw [gX1_tightenSpring, if_neg c11] <;> rfl) (Nat.le_of_ble_eq_true rfl) (Nat.le_of_ble_eq_true rfl) dX1_tightenSpring_34

