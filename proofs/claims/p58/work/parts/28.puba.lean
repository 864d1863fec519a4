/-! the class's own methods -/
theorem exn_ne {T : Nat} {E : String} (h : EXN T E) : ¬ T = 0 := by rcases h with h | h | h <;> (rw [h.1]; decide)
def tX7_instrumentAt (M : Mem) (x : Int32) : Nat := if x < 0 then 1 else if M 1 1 ≤ x then 1 else 0
theorem iat_none {M : Mem} {x : Int32} (h : fX4_find M 1 x = none) : EXN (tX7_instrumentAt M x) "java/lang/IndexOutOfBoundsException" := by
  unfold fX4_find at h
  unfold tX7_instrumentAt
  split at h
  · rename_i h0
    rw [if_pos h0]; exact Or.inl ⟨rfl, rfl⟩
  · rename_i h0
    rw [if_neg h0]
    split at h
    · rename_i h1
      rw [if_pos h1]; exact Or.inl ⟨rfl, rfl⟩
    · cases h
theorem iat_some {M : Mem} {x : Int32} {o : Nat} (h : fX4_find M 1 x = some o) : tX7_instrumentAt M x = 0 ∧ o = 1 + 1 + 1 + x.toNatClampNeg := by
  unfold fX4_find at h
  unfold tX7_instrumentAt
  split at h
  · cases h
  · rename_i h0
    rw [if_neg h0]
    split at h
    · cases h
    · rename_i h1
      cases h
      exact ⟨if_neg h1, rfl⟩
theorem iat_lt {M : Mem} {x : Int32} (hc : CNT M 1) (h : tX7_instrumentAt M x = 0) : x.toNatClampNeg < 6 := by
  unfold tX7_instrumentAt at h
  split at h
  · cases h
  · rename_i h0
    split at h
    · cases h
    · rename_i h1
      exact xfind_lt hc h0 h1
theorem iat_kd {M : Mem} {x : Int32} (hc : CNT M 1) (h : tX7_instrumentAt M x = 0) : kd (1 + 1 + 1 + x.toNatClampNeg) = 1 := kd_ins (r := 1) (by decide) (iat_lt hc h)
set_option maxHeartbeats 4000000 in
set_option maxRecDepth 100000 in
theorem c_X7_instrumentAt (l : Launch) (hl0 : l.stackTraces = false) (D : va_G) (cy : Nat → ClassId) (b n : Nat) (hn : 124 ≤ n) (M : Mem) (x : Int32) (hcnt : CNT M 1) : vx_Met l yX7_instrumentAt wsX7_instrumentAt ({ frames := 6, cells := 1, slots := 6, locals := 90 } : Room) (CP D cy b n fT M [.ref (b + 0), .int x]) (CTq D cy b n fT (tX7_instrumentAt M x) (some (b + (1 + 1 + 1 + x.toNatClampNeg))) M) (CX D cy b n fT (tX7_instrumentAt M x) M) 1 6 (fr b) := by
  refine vx_ofW (cc := cX7_instrumentAt) (maxL := 3) (ret := (some (.object "HygrometerRoom$Instrument"))) (by decide) rfl ?_
  intro p e s m args below meth c s₁ B hml hout hv
  obtain ⟨rfl, hP, hK, hX⟩ := hv
  have hx := B.exec
  have hb := B.bytes
  have hr := B.returns
  have hts := atoms_spec (ws := wsX7_instrumentAt) B.pre
  have hown : s.vm.findClass RX7 = some m.cls := findClass_of_methodNamed B.named
  have hlocks := B.notSynchronized
  have lk0 := hts (.fieldLink RX7 10 "HygrometerRoom" "room" "LHygrometerRoom$Room;") (by decide +kernel)
  have lk1 := hts (.classLink RX7 96 "java/lang/IndexOutOfBoundsException") (by decide +kernel)
  have lk2 := hts (.initialized "java/lang/IndexOutOfBoundsException") (by decide +kernel)
  have at100 : ∀ w ∈ (vx_atS RX7 100 "java/lang/IndexOutOfBoundsException" ["java/lang/RuntimeException", "java/lang/Exception"]).filter goodWord, w ∈ wsX7_instrumentAt := by decide +kernel
  have inc7 : ∀ w ∈ u_ws RX7 TX7 6, w ∈ wsX7_instrumentAt := by decide +kernel
  have hS : va_S (fr b) s.heap s.heap [] := va_S.rf
  have hl := lv_entry ([.ref (b + 0), .int x]) (n := 3) (Nat.le_of_ble_eq_true rfl)
  rw [lg_entry_eq]
  generalize (lg_sl ([.ref (b + 0), .int x]) ++ List.replicate (3 - (lg_sl ([.ref (b + 0), .int x])).length) Slot.unset).toArray = ls at hl ⊢
  have hl : lv_has ls 3 [(0, .ref (b + 0)), (1, .int x)] := hl
  refine lv_aload_n hx hb dX7_instrumentAt_0 rfl (lv_at hl 0 rfl) ?_
  refine xg (C := RX7) (T := TX7) (N := 6) (v := .ref (b + 1)) hx hb hts inc7 hown hK hP (by omega) (cell7 (by decide)) rfl 0 (by decide) lk0 (fun _ h => h) rfl dX7_instrumentAt_1 ?_
  refine lv_iload_n hx hb dX7_instrumentAt_4 rfl (lv_at hl 1 rfl) ?_
  refine xc_q (va_runV (As := [.int x]) (rest := []) ⟨hx, hb, hml, hown, hts⟩ (c_X4_find l D cy b n hn M 1 x (by decide) hcnt) (cwV 1 hts gX7_instrumentAt_X4_find rfl rfl rfl (by decide +kernel) ⟨Nat.le_of_ble_eq_true rfl, Nat.le_of_ble_eq_true rfl⟩) (xPreV hP hK hX hS (by omega) (cell4 (by decide)) rfl) rfl rfl hl.1 rfl (lv_room (Nat.le_of_ble_eq_true rfl)) dX7_instrumentAt_5 ⟨Nat.le_of_ble_eq_true rfl, Nat.le_of_ble_eq_true rfl⟩) hS (fun H locs hP hS => ?_)
  cases hq5 : fX4_find M 1 x with
  | none =>
    refine W.eq (g2 := F0 m 8 ls (.null :: [])) rfl ?_
    refine lv_astore_nN (lv' := [(2, .null), (0, .ref (b + 0)), (1, .int x)]) hx hb dX7_instrumentAt_8 rfl hl (by decide) rfl (fun ls hl => ?_)
    refine lv_aload_nN hx hb dX7_instrumentAt_9 rfl (lv_at hl 0 rfl) ?_
    refine lv_ifnonnullN hx hb dX7_instrumentAt_10 ?_
    exact xthW (cls := "java/lang/IndexOutOfBoundsException") (text := "no such instrument") hx hb hl0 hown hX (by decide +kernel) (by decide +kernel) (by decide +kernel) lk1 lk2 (fun w h => hts w (at100 w h)) (by decide +kernel) (by decide +kernel) hP hS rfl rfl (iat_none hq5) (hl.1.trans hml.symm) dX7_instrumentAt_13 dX7_instrumentAt_16 dX7_instrumentAt_17 dX7_instrumentAt_20 dX7_instrumentAt_23 hout (Nat.le_of_ble_eq_true rfl) (Nat.le_of_ble_eq_true rfl) (Nat.le_of_ble_eq_true rfl) (Nat.le_of_ble_eq_true rfl) hlocks (Nat.le_of_ble_eq_true rfl) (Nat.le_of_ble_eq_true rfl)
  | some o5 =>
    refine W.eq (g2 := F0 m 8 ls (.ref (b + o5) :: [])) rfl ?_
    refine lv_astore_n (lv' := [(2, .ref (b + o5)), (0, .ref (b + 0)), (1, .int x)]) hx hb dX7_instrumentAt_8 rfl hl (by decide) rfl (fun ls hl => ?_)
    refine lv_aload_n hx hb dX7_instrumentAt_9 rfl (lv_at hl 0 rfl) ?_
    refine lv_ifnonnull (tgt := 24) hx hb dX7_instrumentAt_10 (by decide) ?_
    refine lv_aload_n hx hb dX7_instrumentAt_24 rfl (lv_at hl 0 rfl) ?_
    exact xt_q (r := some (b + (1 + 1 + 1 + x.toNatClampNeg))) hx hb hr hlocks hP hS rfl (iat_some hq5).1 rfl (by rw [(iat_some hq5).2]; rfl) (Nat.le_of_ble_eq_true rfl) (Nat.le_of_ble_eq_true rfl) dX7_instrumentAt_25
def fX7_minute (M : Mem) : Int32 := M 1 2
set_option maxHeartbeats 4000000 in
set_option maxRecDepth 100000 in
theorem c_X7_minute (l : Launch) (D : va_G) (cy : Nat → ClassId) (b n : Nat) (hn : 124 ≤ n) (M : Mem)   : Met l yX7_minute wsX7_minute ({ frames := 0, cells := 0, slots := 0, locals := 0 } : Room) (CP D cy b n fT M [.ref (b + 0)]) (CQi D cy b n fT (fX7_minute M) M) 0 0 (fr b) := by
  refine Met.ofW (cc := cX7_minute) (maxL := 1) (ret := (some .int)) (by decide) rfl ?_
  intro p e s m args below meth c s₁ B hml hv
  obtain ⟨rfl, hP, hK, hX⟩ := hv
  have hx := B.exec
  have hb := B.bytes
  have hr := B.returns
  have hts := atoms_spec (ws := wsX7_minute) B.pre
  have hown : s.vm.findClass RX7 = some m.cls := findClass_of_methodNamed B.named
  have hlocks := B.notSynchronized
  have lk0 := hts (.fieldLink RX7 10 "HygrometerRoom" "room" "LHygrometerRoom$Room;") (by decide +kernel)
  have lk1 := hts (.fieldLink RX7 129 "HygrometerRoom$Room" "minute" "I") (by decide +kernel)
  have inc4 : ∀ w ∈ u_ws RX4 TX4 8, w ∈ wsX7_minute := by decide +kernel
  have inc7 : ∀ w ∈ u_ws RX7 TX7 6, w ∈ wsX7_minute := by decide +kernel
  have hS : va_S (fr b) s.heap s.heap [] := va_S.rf
  have hl := lv_entry ([.ref (b + 0)]) (n := 1) (Nat.le_of_ble_eq_true rfl)
  rw [lg_entry_eq]
  generalize (lg_sl ([.ref (b + 0)]) ++ List.replicate (1 - (lg_sl ([.ref (b + 0)])).length) Slot.unset).toArray = ls at hl ⊢
  have hl : lv_has ls 1 [(0, .ref (b + 0))] := hl
  refine lv_aload_n hx hb dX7_minute_0 rfl (lv_at hl 0 rfl) ?_
  refine xg (C := RX7) (T := TX7) (N := 6) (v := .ref (b + 1)) hx hb hts inc7 hown hK hP (by omega) (cell7 (by decide)) rfl 0 (by decide) lk0 (fun _ h => h) rfl dX7_minute_1 ?_
  refine xg (C := RX4) (T := TX4) (N := 8) (v := .int (M 1 2)) hx hb hts inc4 hown hK hP (by omega) (cell4 (by decide)) rfl 2 (by decide) lk1 (fun _ h => h) rfl dX7_minute_4 ?_
  exact xe_i hx hb hr hlocks hP hS rfl rfl (by rw [fX7_minute] <;> rfl) (Nat.le_of_ble_eq_true rfl) (Nat.le_of_ble_eq_true rfl) dX7_minute_7
def fX7_humidity (M : Mem) : Int32 := M 1 3
set_option maxHeartbeats 4000000 in
set_option maxRecDepth 100000 in
theorem c_X7_humidity (l : Launch) (D : va_G) (cy : Nat → ClassId) (b n : Nat) (hn : 124 ≤ n) (M : Mem)   : Met l yX7_humidity wsX7_humidity ({ frames := 0, cells := 0, slots := 0, locals := 0 } : Room) (CP D cy b n fT M [.ref (b + 0)]) (CQi D cy b n fT (fX7_humidity M) M) 0 0 (fr b) := by
  refine Met.ofW (cc := cX7_humidity) (maxL := 1) (ret := (some .int)) (by decide) rfl ?_
  intro p e s m args below meth c s₁ B hml hv
  obtain ⟨rfl, hP, hK, hX⟩ := hv
  have hx := B.exec
  have hb := B.bytes
  have hr := B.returns
  have hts := atoms_spec (ws := wsX7_humidity) B.pre
  have hown : s.vm.findClass RX7 = some m.cls := findClass_of_methodNamed B.named
  have hlocks := B.notSynchronized
  have lk0 := hts (.fieldLink RX7 10 "HygrometerRoom" "room" "LHygrometerRoom$Room;") (by decide +kernel)
  have lk1 := hts (.fieldLink RX7 62 "HygrometerRoom$Room" "humidity" "I") (by decide +kernel)
  have inc4 : ∀ w ∈ u_ws RX4 TX4 8, w ∈ wsX7_humidity := by decide +kernel
  have inc7 : ∀ w ∈ u_ws RX7 TX7 6, w ∈ wsX7_humidity := by decide +kernel
  have hS : va_S (fr b) s.heap s.heap [] := va_S.rf
  have hl := lv_entry ([.ref (b + 0)]) (n := 1) (Nat.le_of_ble_eq_true rfl)
  rw [lg_entry_eq]
  generalize (lg_sl ([.ref (b + 0)]) ++ List.replicate (1 - (lg_sl ([.ref (b + 0)])).length) Slot.unset).toArray = ls at hl ⊢
  have hl : lv_has ls 1 [(0, .ref (b + 0))] := hl
  refine lv_aload_n hx hb dX7_humidity_0 rfl (lv_at hl 0 rfl) ?_
  refine xg (C := RX7) (T := TX7) (N := 6) (v := .ref (b + 1)) hx hb hts inc7 hown hK hP (by omega) (cell7 (by decide)) rfl 0 (by decide) lk0 (fun _ h => h) rfl dX7_humidity_1 ?_
  refine xg (C := RX4) (T := TX4) (N := 8) (v := .int (M 1 3)) hx hb hts inc4 hown hK hP (by omega) (cell4 (by decide)) rfl 3 (by decide) lk1 (fun _ h => h) rfl dX7_humidity_4 ?_
  exact xe_i hx hb hr hlocks hP hS rfl rfl (by rw [fX7_humidity] <;> rfl) (Nat.le_of_ble_eq_true rfl) (Nat.le_of_ble_eq_true rfl) dX7_humidity_7
def fX7_temperature (M : Mem) : Int32 := M 1 4
set_option maxHeartbeats 4000000 in
set_option maxRecDepth 100000 in
theorem c_X7_temperature (l : Launch) (D : va_G) (cy : Nat → ClassId) (b n : Nat) (hn : 124 ≤ n) (M : Mem)   : Met l yX7_temperature wsX7_temperature ({ frames := 0, cells := 0, slots := 0, locals := 0 } : Room) (CP D cy b n fT M [.ref (b + 0)]) (CQi D cy b n fT (fX7_temperature M) M) 0 0 (fr b) := by
  refine Met.ofW (cc := cX7_temperature) (maxL := 1) (ret := (some .int)) (by decide) rfl ?_
  intro p e s m args below meth c s₁ B hml hv
  obtain ⟨rfl, hP, hK, hX⟩ := hv
  have hx := B.exec
  have hb := B.bytes
  have hr := B.returns
  have hts := atoms_spec (ws := wsX7_temperature) B.pre
  have hown : s.vm.findClass RX7 = some m.cls := findClass_of_methodNamed B.named
  have hlocks := B.notSynchronized
  have lk0 := hts (.fieldLink RX7 10 "HygrometerRoom" "room" "LHygrometerRoom$Room;") (by decide +kernel)
  have lk1 := hts (.fieldLink RX7 132 "HygrometerRoom$Room" "temperature" "I") (by decide +kernel)
  have inc4 : ∀ w ∈ u_ws RX4 TX4 8, w ∈ wsX7_temperature := by decide +kernel
  have inc7 : ∀ w ∈ u_ws RX7 TX7 6, w ∈ wsX7_temperature := by decide +kernel
  have hS : va_S (fr b) s.heap s.heap [] := va_S.rf
  have hl := lv_entry ([.ref (b + 0)]) (n := 1) (Nat.le_of_ble_eq_true rfl)
  rw [lg_entry_eq]
  generalize (lg_sl ([.ref (b + 0)]) ++ List.replicate (1 - (lg_sl ([.ref (b + 0)])).length) Slot.unset).toArray = ls at hl ⊢
  have hl : lv_has ls 1 [(0, .ref (b + 0))] := hl
  refine lv_aload_n hx hb dX7_temperature_0 rfl (lv_at hl 0 rfl) ?_
  refine xg (C := RX7) (T := TX7) (N := 6) (v := .ref (b + 1)) hx hb hts inc7 hown hK hP (by omega) (cell7 (by decide)) rfl 0 (by decide) lk0 (fun _ h => h) rfl dX7_temperature_1 ?_
  refine xg (C := RX4) (T := TX4) (N := 8) (v := .int (M 1 4)) hx hb hts inc4 hown hK hP (by omega) (cell4 (by decide)) rfl 4 (by decide) lk1 (fun _ h => h) rfl dX7_temperature_4 ?_
  exact xe_i hx hb hr hlocks hP hS rfl rfl (by rw [fX7_temperature] <;> rfl) (Nat.le_of_ble_eq_true rfl) (Nat.le_of_ble_eq_true rfl) dX7_temperature_7
def fX7_skill (M : Mem) : Int32 := M 1 5
set_option maxHeartbeats 4000000 in
set_option maxRecDepth 100000 in
theorem c_X7_skill (l : Launch) (D : va_G) (cy : Nat → ClassId) (b n : Nat) (hn : 124 ≤ n) (M : Mem)   : Met l yX7_skill wsX7_skill ({ frames := 0, cells := 0, slots := 0, locals := 0 } : Room) (CP D cy b n fT M [.ref (b + 0)]) (CQi D cy b n fT (fX7_skill M) M) 0 0 (fr b) := by
  refine Met.ofW (cc := cX7_skill) (maxL := 1) (ret := (some .int)) (by decide) rfl ?_
  intro p e s m args below meth c s₁ B hml hv
  obtain ⟨rfl, hP, hK, hX⟩ := hv
  have hx := B.exec
  have hb := B.bytes
  have hr := B.returns
  have hts := atoms_spec (ws := wsX7_skill) B.pre
  have hown : s.vm.findClass RX7 = some m.cls := findClass_of_methodNamed B.named
  have hlocks := B.notSynchronized
  have lk0 := hts (.fieldLink RX7 10 "HygrometerRoom" "room" "LHygrometerRoom$Room;") (by decide +kernel)
  have lk1 := hts (.fieldLink RX7 135 "HygrometerRoom$Room" "skill" "I") (by decide +kernel)
  have inc4 : ∀ w ∈ u_ws RX4 TX4 8, w ∈ wsX7_skill := by decide +kernel
  have inc7 : ∀ w ∈ u_ws RX7 TX7 6, w ∈ wsX7_skill := by decide +kernel
  have hS : va_S (fr b) s.heap s.heap [] := va_S.rf
  have hl := lv_entry ([.ref (b + 0)]) (n := 1) (Nat.le_of_ble_eq_true rfl)
  rw [lg_entry_eq]
  generalize (lg_sl ([.ref (b + 0)]) ++ List.replicate (1 - (lg_sl ([.ref (b + 0)])).length) Slot.unset).toArray = ls at hl ⊢
  have hl : lv_has ls 1 [(0, .ref (b + 0))] := hl
  refine lv_aload_n hx hb dX7_skill_0 rfl (lv_at hl 0 rfl) ?_
  refine xg (C := RX7) (T := TX7) (N := 6) (v := .ref (b + 1)) hx hb hts inc7 hown hK hP (by omega) (cell7 (by decide)) rfl 0 (by decide) lk0 (fun _ h => h) rfl dX7_skill_1 ?_
  refine xg (C := RX4) (T := TX4) (N := 8) (v := .int (M 1 5)) hx hb hts inc4 hown hK hP (by omega) (cell4 (by decide)) rfl 5 (by decide) lk1 (fun _ h => h) rfl dX7_skill_4 ?_
  exact xe_i hx hb hr hlocks hP hS rfl rfl (by rw [fX7_skill] <;> rfl) (Nat.le_of_ble_eq_true rfl) (Nat.le_of_ble_eq_true rfl) dX7_skill_7
def fX7_hairStock (M : Mem) : Int32 := M 1 6
set_option maxHeartbeats 4000000 in
set_option maxRecDepth 100000 in
theorem c_X7_hairStock (l : Launch) (D : va_G) (cy : Nat → ClassId) (b n : Nat) (hn : 124 ≤ n) (M : Mem)   : Met l yX7_hairStock wsX7_hairStock ({ frames := 0, cells := 0, slots := 0, locals := 0 } : Room) (CP D cy b n fT M [.ref (b + 0)]) (CQi D cy b n fT (fX7_hairStock M) M) 0 0 (fr b) := by
  refine Met.ofW (cc := cX7_hairStock) (maxL := 1) (ret := (some .int)) (by decide) rfl ?_
  intro p e s m args below meth c s₁ B hml hv
  obtain ⟨rfl, hP, hK, hX⟩ := hv
  have hx := B.exec
  have hb := B.bytes
  have hr := B.returns
  have hts := atoms_spec (ws := wsX7_hairStock) B.pre
  have hown : s.vm.findClass RX7 = some m.cls := findClass_of_methodNamed B.named
  have hlocks := B.notSynchronized
  have lk0 := hts (.fieldLink RX7 10 "HygrometerRoom" "room" "LHygrometerRoom$Room;") (by decide +kernel)
  have lk1 := hts (.fieldLink RX7 138 "HygrometerRoom$Room" "stock" "I") (by decide +kernel)
  have inc4 : ∀ w ∈ u_ws RX4 TX4 8, w ∈ wsX7_hairStock := by decide +kernel
  have inc7 : ∀ w ∈ u_ws RX7 TX7 6, w ∈ wsX7_hairStock := by decide +kernel
  have hS : va_S (fr b) s.heap s.heap [] := va_S.rf
  have hl := lv_entry ([.ref (b + 0)]) (n := 1) (Nat.le_of_ble_eq_true rfl)
  rw [lg_entry_eq]
  generalize (lg_sl ([.ref (b + 0)]) ++ List.replicate (1 - (lg_sl ([.ref (b + 0)])).length) Slot.unset).toArray = ls at hl ⊢
  have hl : lv_has ls 1 [(0, .ref (b + 0))] := hl
  refine lv_aload_n hx hb dX7_hairStock_0 rfl (lv_at hl 0 rfl) ?_
  refine xg (C := RX7) (T := TX7) (N := 6) (v := .ref (b + 1)) hx hb hts inc7 hown hK hP (by omega) (cell7 (by decide)) rfl 0 (by decide) lk0 (fun _ h => h) rfl dX7_hairStock_1 ?_
  refine xg (C := RX4) (T := TX4) (N := 8) (v := .int (M 1 6)) hx hb hts inc4 hown hK hP (by omega) (cell4 (by decide)) rfl 6 (by decide) lk1 (fun _ h => h) rfl dX7_hairStock_4 ?_
  exact xe_i hx hb hr hlocks hP hS rfl rfl (by rw [fX7_hairStock] <;> rfl) (Nat.le_of_ble_eq_true rfl) (Nat.le_of_ble_eq_true rfl) dX7_hairStock_7
def fX7_instrumentCount (M : Mem) : Int32 := M 1 1
set_option maxHeartbeats 4000000 in
set_option maxRecDepth 100000 in
theorem c_X7_instrumentCount (l : Launch) (D : va_G) (cy : Nat → ClassId) (b n : Nat) (hn : 124 ≤ n) (M : Mem)   : Met l yX7_instrumentCount wsX7_instrumentCount ({ frames := 0, cells := 0, slots := 0, locals := 0 } : Room) (CP D cy b n fT M [.ref (b + 0)]) (CQi D cy b n fT (fX7_instrumentCount M) M) 0 0 (fr b) := by
  refine Met.ofW (cc := cX7_instrumentCount) (maxL := 1) (ret := (some .int)) (by decide) rfl ?_
  intro p e s m args below meth c s₁ B hml hv
  obtain ⟨rfl, hP, hK, hX⟩ := hv
  have hx := B.exec
  have hb := B.bytes
  have hr := B.returns
  have hts := atoms_spec (ws := wsX7_instrumentCount) B.pre
  have hown : s.vm.findClass RX7 = some m.cls := findClass_of_methodNamed B.named
  have hlocks := B.notSynchronized
  have lk0 := hts (.fieldLink RX7 10 "HygrometerRoom" "room" "LHygrometerRoom$Room;") (by decide +kernel)
  have lk1 := hts (.fieldLink RX7 123 "HygrometerRoom$Room" "count" "I") (by decide +kernel)
  have inc4 : ∀ w ∈ u_ws RX4 TX4 8, w ∈ wsX7_instrumentCount := by decide +kernel
  have inc7 : ∀ w ∈ u_ws RX7 TX7 6, w ∈ wsX7_instrumentCount := by decide +kernel
  have hS : va_S (fr b) s.heap s.heap [] := va_S.rf
  have hl := lv_entry ([.ref (b + 0)]) (n := 1) (Nat.le_of_ble_eq_true rfl)
  rw [lg_entry_eq]
  generalize (lg_sl ([.ref (b + 0)]) ++ List.replicate (1 - (lg_sl ([.ref (b + 0)])).length) Slot.unset).toArray = ls at hl ⊢
  have hl : lv_has ls 1 [(0, .ref (b + 0))] := hl
  refine lv_aload_n hx hb dX7_instrumentCount_0 rfl (lv_at hl 0 rfl) ?_
  refine xg (C := RX7) (T := TX7) (N := 6) (v := .ref (b + 1)) hx hb hts inc7 hown hK hP (by omega) (cell7 (by decide)) rfl 0 (by decide) lk0 (fun _ h => h) rfl dX7_instrumentCount_1 ?_
  refine xg (C := RX4) (T := TX4) (N := 8) (v := .int (M 1 1)) hx hb hts inc4 hown hK hP (by omega) (cell4 (by decide)) rfl 1 (by decide) lk1 (fun _ h => h) rfl dX7_instrumentCount_4 ?_
  exact xe_i hx hb hr hlocks hP hS rfl rfl (by rw [fX7_instrumentCount] <;> rfl) (Nat.le_of_ble_eq_true rfl) (Nat.le_of_ble_eq_true rfl) dX7_instrumentCount_7
def fX7_fixedPoint (M : Mem) (x : Int32) : Int32 := if (fX7_isSalt M x) = 0 then 0 else (fX7_fixedPointOr M x ((-1) : Int32))
def tX7_fixedPoint (M : Mem) (x : Int32) : Nat := if (fX7_isSalt M x) = 0 then 2 else 0
set_option maxHeartbeats 4000000 in
set_option maxRecDepth 100000 in
theorem c_X7_fixedPoint (l : Launch) (hl0 : l.stackTraces = false) (D : va_G) (cy : Nat → ClassId) (b n : Nat) (hn : 124 ≤ n) (M : Mem) (x : Int32)  : vx_Met l yX7_fixedPoint wsX7_fixedPoint ({ frames := 6, cells := 1, slots := 6, locals := 90 } : Room) (CP D cy b n fT M [.ref (b + 0), .int x]) (CTi D cy b n fT (tX7_fixedPoint M x) (fX7_fixedPoint M x) M) (CX D cy b n fT (tX7_fixedPoint M x) M) 1 6 (fr b) := by
  refine vx_ofW (cc := cX7_fixedPoint) (maxL := 2) (ret := (some .int)) (by decide) rfl ?_
  intro p e s m args below meth c s₁ B hml hout hv
  obtain ⟨rfl, hP, hK, hX⟩ := hv
  have hx := B.exec
  have hb := B.bytes
  have hr := B.returns
  have hts := atoms_spec (ws := wsX7_fixedPoint) B.pre
  have hown : s.vm.findClass RX7 = some m.cls := findClass_of_methodNamed B.named
  have hlocks := B.notSynchronized
  have lk0 := hts (.classLink RX7 107 "java/lang/IllegalArgumentException") (by decide +kernel)
  have lk1 := hts (.initialized "java/lang/IllegalArgumentException") (by decide +kernel)
  have at111 : ∀ w ∈ (vx_atS RX7 111 "java/lang/IllegalArgumentException" ["java/lang/RuntimeException", "java/lang/Exception"]).filter goodWord, w ∈ wsX7_fixedPoint := by decide +kernel
  have hS : va_S (fr b) s.heap s.heap [] := va_S.rf
  have hl := lv_entry ([.ref (b + 0), .int x]) (n := 2) (Nat.le_of_ble_eq_true rfl)
  rw [lg_entry_eq]
  generalize (lg_sl ([.ref (b + 0), .int x]) ++ List.replicate (2 - (lg_sl ([.ref (b + 0), .int x])).length) Slot.unset).toArray = ls at hl ⊢
  have hl : lv_has ls 2 [(0, .ref (b + 0)), (1, .int x)] := hl
  refine lv_iload_n hx hb dX7_fixedPoint_0 rfl (lv_at hl 1 rfl) ?_
  refine xc_i (va_runS (As := [.int x]) (rest := []) ⟨hx, hb, hml, hown, hts⟩ (c_X7_isSalt l D cy b n hn M x) (va_cwS 1 hts gX7_fixedPoint_X7_isSalt rfl rfl rfl (by decide +kernel) ⟨Nat.le_of_ble_eq_true rfl, Nat.le_of_ble_eq_true rfl⟩) (xPreS hP hK hX hS) rfl rfl hl.1 rfl (lv_room (Nat.le_of_ble_eq_true rfl)) dX7_fixedPoint_1 ⟨Nat.le_of_ble_eq_true rfl, Nat.le_of_ble_eq_true rfl⟩) hS (fun H locs hP hS => ?_)
  refine lv_if_ne (tgt := 17) hx hb dX7_fixedPoint_4 (by decide) (fun c4 => ?_) (fun c4 => ?_)
  · refine lv_iload_n hx hb dX7_fixedPoint_17 rfl (lv_at hl 1 rfl) ?_
    refine lv_iconst (v := (-1)) hx hb dX7_fixedPoint_18 (by decide) ?_
    refine xc_i (va_runS (As := [.int x, .int ((-1) : Int32)]) (rest := []) ⟨hx, hb, hml, hown, hts⟩ (c_X7_fixedPointOr l D cy b n hn M x ((-1) : Int32)) (va_cwS 2 hts gX7_fixedPoint_X7_fixedPointOr rfl rfl rfl (by decide +kernel) ⟨Nat.le_of_ble_eq_true rfl, Nat.le_of_ble_eq_true rfl⟩) (xPreS hP hK hX hS) rfl rfl hl.1 rfl (lv_room (Nat.le_of_ble_eq_true rfl)) dX7_fixedPoint_19 ⟨Nat.le_of_ble_eq_true rfl, Nat.le_of_ble_eq_true rfl⟩) hS (fun H locs hP hS => ?_)
    exact xt_i hx hb hr hlocks hP hS rfl (by rw [tX7_fixedPoint, if_neg c4] <;> rfl) rfl (by rw [fX7_fixedPoint, if_neg c4] <;> rfl) (by unfold fX7_fixedPointOr; (repeat' split) <;> rfl) (Nat.le_of_ble_eq_true rfl) (Nat.le_of_ble_eq_true rfl) dX7_fixedPoint_22
  · exact xth (cls := "java/lang/IllegalArgumentException") (text := "no such salt") hx hb hl0 hown hX (by decide +kernel) (by decide +kernel) (by decide +kernel) lk0 lk1 (fun w h => hts w (at111 w h)) (by decide +kernel) (by decide +kernel) hP hS rfl rfl (by rw [tX7_fixedPoint, if_pos c4]; exact Or.inr (Or.inl ⟨rfl, rfl⟩)) (hl.1.trans hml.symm) dX7_fixedPoint_7 dX7_fixedPoint_10 dX7_fixedPoint_11 dX7_fixedPoint_13 dX7_fixedPoint_16 hout (Nat.le_of_ble_eq_true rfl) (Nat.le_of_ble_eq_true rfl) (Nat.le_of_ble_eq_true rfl) (Nat.le_of_ble_eq_true rfl) hlocks (Nat.le_of_ble_eq_true rfl) (Nat.le_of_ble_eq_true rfl)
def fX7_isHair (M : Mem) (x : Int32) : Int32 := bv (M (1 + 1 + 1 + x.toNatClampNeg) 0)
def tX7_isHair (M : Mem) (x : Int32) : Nat := if (tX7_instrumentAt M x) = 0 then 0 else (tX7_instrumentAt M x)
set_option maxHeartbeats 4000000 in
set_option maxRecDepth 100000 in
theorem c_X7_isHair (l : Launch) (hl0 : l.stackTraces = false) (D : va_G) (cy : Nat → ClassId) (b n : Nat) (hn : 124 ≤ n) (M : Mem) (x : Int32) (hcnt : CNT M 1) : vx_Met l yX7_isHair wsX7_isHair ({ frames := 7, cells := 1, slots := 6, locals := 112 } : Room) (CP D cy b n fT M [.ref (b + 0), .int x]) (CTi D cy b n fT (tX7_isHair M x) (fX7_isHair M x) M) (CX D cy b n fT (tX7_isHair M x) M) 1 6 (fr b) := by
  refine vx_ofW (cc := cX7_isHair) (maxL := 2) (ret := (some .boolean)) (by decide) rfl ?_
  intro p e s m args below meth c s₁ B hml hout hv
  obtain ⟨rfl, hP, hK, hX⟩ := hv
  have hx := B.exec
  have hb := B.bytes
  have hr := B.returns
  have hts := atoms_spec (ws := wsX7_isHair) B.pre
  have hown : s.vm.findClass RX7 = some m.cls := findClass_of_methodNamed B.named
  have hlocks := B.notSynchronized
  have lk0 := hts (.fieldLink RX7 155 "HygrometerRoom$Instrument" "hair" "Z") (by decide +kernel)
  have inc1 : ∀ w ∈ u_ws RX1 TX1 9, w ∈ wsX7_isHair := by decide +kernel
  have hS : va_S (fr b) s.heap s.heap [] := va_S.rf
  have hl := lv_entry ([.ref (b + 0), .int x]) (n := 2) (Nat.le_of_ble_eq_true rfl)
  rw [lg_entry_eq]
  generalize (lg_sl ([.ref (b + 0), .int x]) ++ List.replicate (2 - (lg_sl ([.ref (b + 0), .int x])).length) Slot.unset).toArray = ls at hl ⊢
  have hl : lv_has ls 2 [(0, .ref (b + 0)), (1, .int x)] := hl
  refine lv_aload_n hx hb dX7_isHair_0 rfl (lv_at hl 0 rfl) ?_
  refine lv_iload_n hx hb dX7_isHair_1 rfl (lv_at hl 1 rfl) ?_
  refine xct_q (vx_runV (As := [.int x]) (rest := []) ⟨hx, hb, hml, hown, hts⟩ (c_X7_instrumentAt l hl0 D cy b n hn M x hcnt) (cwV 1 hts gX7_isHair_X7_instrumentAt rfl rfl rfl (by decide +kernel) ⟨Nat.le_of_ble_eq_true rfl, Nat.le_of_ble_eq_true rfl⟩) (xPreV hP hK hX hS (by omega) (cell7 (by decide)) rfl) rfl rfl hl.1 rfl (lv_room (Nat.le_of_ble_eq_true rfl)) dX7_isHair_2 ⟨Nat.le_of_ble_eq_true rfl, Nat.le_of_ble_eq_true rfl⟩) hS (fun E ce q H locs hE hP hS hc hv hcl => xpass hout hlocks hc hv hcl hP hS rfl rfl (by rw [tX7_isHair, if_neg (exn_ne hE)]; exact hE) (Nat.le_of_ble_eq_true rfl) (Nat.le_of_ble_eq_true rfl)) (fun H locs hT2 hP hS => ?_)
  refine W.eq (g2 := F0 m 5 ls (.ref (b + (1 + 1 + 1 + x.toNatClampNeg)) :: [])) rfl ?_
  refine xg (C := RX1) (T := TX1) (N := 9) (v := .int (bv (M (1 + 1 + 1 + x.toNatClampNeg) 0))) hx hb hts inc1 hown hK hP (kI_lt (iat_kd hcnt hT2) hn) (cell1 (iat_kd hcnt hT2)) rfl 0 (by decide) lk0 (fun _ h => h) rfl dX7_isHair_5 ?_
  exact xt_i hx hb hr hlocks hP hS rfl (by rw [tX7_isHair, if_pos hT2] <;> rfl) rfl (by rw [fX7_isHair] <;> rfl) (bv_nar _) (Nat.le_of_ble_eq_true rfl) (Nat.le_of_ble_eq_true rfl) dX7_isHair_8
def fX7_hairsOf (M : Mem) (x : Int32) : Int32 := if (bv (M (1 + 1 + 1 + x.toNatClampNeg) 0)) = 0 then ((-1) : Int32) else (M (1 + 1 + 1 + x.toNatClampNeg) 1)
def tX7_hairsOf (M : Mem) (x : Int32) : Nat := if (tX7_instrumentAt M x) = 0 then (if (bv (M (1 + 1 + 1 + x.toNatClampNeg) 0)) = 0 then 0 else 0) else (tX7_instrumentAt M x)
set_option maxHeartbeats 4000000 in
set_option maxRecDepth 100000 in
theorem c_X7_hairsOf (l : Launch) (hl0 : l.stackTraces = false) (D : va_G) (cy : Nat → ClassId) (b n : Nat) (hn : 124 ≤ n) (M : Mem) (x : Int32) (hcnt : CNT M 1) : vx_Met l yX7_hairsOf wsX7_hairsOf ({ frames := 7, cells := 1, slots := 6, locals := 112 } : Room) (CP D cy b n fT M [.ref (b + 0), .int x]) (CTi D cy b n fT (tX7_hairsOf M x) (fX7_hairsOf M x) M) (CX D cy b n fT (tX7_hairsOf M x) M) 1 6 (fr b) := by
  refine vx_ofW (cc := cX7_hairsOf) (maxL := 3) (ret := (some .int)) (by decide) rfl ?_
  intro p e s m args below meth c s₁ B hml hout hv
  obtain ⟨rfl, hP, hK, hX⟩ := hv
  have hx := B.exec
  have hb := B.bytes
  have hr := B.returns
  have hts := atoms_spec (ws := wsX7_hairsOf) B.pre
  have hown : s.vm.findClass RX7 = some m.cls := findClass_of_methodNamed B.named
  have hlocks := B.notSynchronized
  have lk0 := hts (.fieldLink RX7 155 "HygrometerRoom$Instrument" "hair" "Z") (by decide +kernel)
  have lk1 := hts (.fieldLink RX7 159 "HygrometerRoom$Instrument" "hairs" "I") (by decide +kernel)
  have inc1 : ∀ w ∈ u_ws RX1 TX1 9, w ∈ wsX7_hairsOf := by decide +kernel
  have hS : va_S (fr b) s.heap s.heap [] := va_S.rf
  have hl := lv_entry ([.ref (b + 0), .int x]) (n := 3) (Nat.le_of_ble_eq_true rfl)
  rw [lg_entry_eq]
  generalize (lg_sl ([.ref (b + 0), .int x]) ++ List.replicate (3 - (lg_sl ([.ref (b + 0), .int x])).length) Slot.unset).toArray = ls at hl ⊢
  have hl : lv_has ls 3 [(0, .ref (b + 0)), (1, .int x)] := hl
  refine lv_aload_n hx hb dX7_hairsOf_0 rfl (lv_at hl 0 rfl) ?_
  refine lv_iload_n hx hb dX7_hairsOf_1 rfl (lv_at hl 1 rfl) ?_
  refine xct_q (vx_runV (As := [.int x]) (rest := []) ⟨hx, hb, hml, hown, hts⟩ (c_X7_instrumentAt l hl0 D cy b n hn M x hcnt) (cwV 1 hts gX7_hairsOf_X7_instrumentAt rfl rfl rfl (by decide +kernel) ⟨Nat.le_of_ble_eq_true rfl, Nat.le_of_ble_eq_true rfl⟩) (xPreV hP hK hX hS (by omega) (cell7 (by decide)) rfl) rfl rfl hl.1 rfl (lv_room (Nat.le_of_ble_eq_true rfl)) dX7_hairsOf_2 ⟨Nat.le_of_ble_eq_true rfl, Nat.le_of_ble_eq_true rfl⟩) hS (fun E ce q H locs hE hP hS hc hv hcl => xpass hout hlocks hc hv hcl hP hS rfl rfl (by rw [tX7_hairsOf, if_neg (exn_ne hE)]; exact hE) (Nat.le_of_ble_eq_true rfl) (Nat.le_of_ble_eq_true rfl)) (fun H locs hT2 hP hS => ?_)
  refine W.eq (g2 := F0 m 5 ls (.ref (b + (1 + 1 + 1 + x.toNatClampNeg)) :: [])) rfl ?_
  refine lv_astore_n (lv' := [(2, .ref (b + (1 + 1 + 1 + x.toNatClampNeg))), (0, .ref (b + 0)), (1, .int x)]) hx hb dX7_hairsOf_5 rfl hl (by decide) rfl (fun ls hl => ?_)
  refine lv_aload_n hx hb dX7_hairsOf_6 rfl (lv_at hl 0 rfl) ?_
  refine xg (C := RX1) (T := TX1) (N := 9) (v := .int (bv (M (1 + 1 + 1 + x.toNatClampNeg) 0))) hx hb hts inc1 hown hK hP (kI_lt (iat_kd hcnt hT2) hn) (cell1 (iat_kd hcnt hT2)) rfl 0 (by decide) lk0 (fun _ h => h) rfl dX7_hairsOf_7 ?_
  refine lv_if_eq (tgt := 20) hx hb dX7_hairsOf_10 (by decide) (fun c10 => ?_) (fun c10 => ?_)
  · refine lv_iconst (v := (-1)) hx hb dX7_hairsOf_20 (by decide) ?_
    exact xt_i hx hb hr hlocks hP hS rfl (by rw [tX7_hairsOf, if_pos hT2, if_pos c10] <;> rfl) rfl (by rw [fX7_hairsOf, if_pos c10] <;> rfl) rfl (Nat.le_of_ble_eq_true rfl) (Nat.le_of_ble_eq_true rfl) dX7_hairsOf_21
  · refine lv_aload_n hx hb dX7_hairsOf_13 rfl (lv_at hl 0 rfl) ?_
    refine xg (C := RX1) (T := TX1) (N := 9) (v := .int (M (1 + 1 + 1 + x.toNatClampNeg) 1)) hx hb hts inc1 hown hK hP (kI_lt (iat_kd hcnt hT2) hn) (cell1 (iat_kd hcnt hT2)) rfl 1 (by decide) lk1 (fun _ h => h) rfl dX7_hairsOf_14 ?_
    refine lv_goto (tgt := 21) hx hb dX7_hairsOf_17 (by decide) ?_
    exact xt_i hx hb hr hlocks hP hS rfl (by rw [tX7_hairsOf, if_pos hT2, if_neg c10] <;> rfl) rfl (by rw [fX7_hairsOf, if_neg c10] <;> rfl) rfl (Nat.le_of_ble_eq_true rfl) (Nat.le_of_ble_eq_true rfl) dX7_hairsOf_21
def fX7_brokenOf (M : Mem) (x : Int32) : Int32 := if (bv (M (1 + 1 + 1 + x.toNatClampNeg) 0)) = 0 then ((-1) : Int32) else (M (1 + 1 + 1 + x.toNatClampNeg) 3)
def tX7_brokenOf (M : Mem) (x : Int32) : Nat := if (tX7_instrumentAt M x) = 0 then (if (bv (M (1 + 1 + 1 + x.toNatClampNeg) 0)) = 0 then 0 else 0) else (tX7_instrumentAt M x)
set_option maxHeartbeats 4000000 in
set_option maxRecDepth 100000 in
theorem c_X7_brokenOf (l : Launch) (hl0 : l.stackTraces = false) (D : va_G) (cy : Nat → ClassId) (b n : Nat) (hn : 124 ≤ n) (M : Mem) (x : Int32) (hcnt : CNT M 1) : vx_Met l yX7_brokenOf wsX7_brokenOf ({ frames := 7, cells := 1, slots := 6, locals := 112 } : Room) (CP D cy b n fT M [.ref (b + 0), .int x]) (CTi D cy b n fT (tX7_brokenOf M x) (fX7_brokenOf M x) M) (CX D cy b n fT (tX7_brokenOf M x) M) 1 6 (fr b) := by
  refine vx_ofW (cc := cX7_brokenOf) (maxL := 3) (ret := (some .int)) (by decide) rfl ?_
  intro p e s m args below meth c s₁ B hml hout hv
  obtain ⟨rfl, hP, hK, hX⟩ := hv
  have hx := B.exec
  have hb := B.bytes
  have hr := B.returns
  have hts := atoms_spec (ws := wsX7_brokenOf) B.pre
  have hown : s.vm.findClass RX7 = some m.cls := findClass_of_methodNamed B.named
  have hlocks := B.notSynchronized
  have lk0 := hts (.fieldLink RX7 155 "HygrometerRoom$Instrument" "hair" "Z") (by decide +kernel)
  have lk1 := hts (.fieldLink RX7 162 "HygrometerRoom$Instrument" "broken" "I") (by decide +kernel)
  have inc1 : ∀ w ∈ u_ws RX1 TX1 9, w ∈ wsX7_brokenOf := by decide +kernel
  have hS : va_S (fr b) s.heap s.heap [] := va_S.rf
  have hl := lv_entry ([.ref (b + 0), .int x]) (n := 3) (Nat.le_of_ble_eq_true rfl)
  rw [lg_entry_eq]
  generalize (lg_sl ([.ref (b + 0), .int x]) ++ List.replicate (3 - (lg_sl ([.ref (b + 0), .int x])).length) Slot.unset).toArray = ls at hl ⊢
  have hl : lv_has ls 3 [(0, .ref (b + 0)), (1, .int x)] := hl
  refine lv_aload_n hx hb dX7_brokenOf_0 rfl (lv_at hl 0 rfl) ?_
  refine lv_iload_n hx hb dX7_brokenOf_1 rfl (lv_at hl 1 rfl) ?_
  refine xct_q (vx_runV (As := [.int x]) (rest := []) ⟨hx, hb, hml, hown, hts⟩ (c_X7_instrumentAt l hl0 D cy b n hn M x hcnt) (cwV 1 hts gX7_brokenOf_X7_instrumentAt rfl rfl rfl (by decide +kernel) ⟨Nat.le_of_ble_eq_true rfl, Nat.le_of_ble_eq_true rfl⟩) (xPreV hP hK hX hS (by omega) (cell7 (by decide)) rfl) rfl rfl hl.1 rfl (lv_room (Nat.le_of_ble_eq_true rfl)) dX7_brokenOf_2 ⟨Nat.le_of_ble_eq_true rfl, Nat.le_of_ble_eq_true rfl⟩) hS (fun E ce q H locs hE hP hS hc hv hcl => xpass hout hlocks hc hv hcl hP hS rfl rfl (by rw [tX7_brokenOf, if_neg (exn_ne hE)]; exact hE) (Nat.le_of_ble_eq_true rfl) (Nat.le_of_ble_eq_true rfl)) (fun H locs hT2 hP hS => ?_)
  refine W.eq (g2 := F0 m 5 ls (.ref (b + (1 + 1 + 1 + x.toNatClampNeg)) :: [])) rfl ?_
  refine lv_astore_n (lv' := [(2, .ref (b + (1 + 1 + 1 + x.toNatClampNeg))), (0, .ref (b + 0)), (1, .int x)]) hx hb dX7_brokenOf_5 rfl hl (by decide) rfl (fun ls hl => ?_)
  refine lv_aload_n hx hb dX7_brokenOf_6 rfl (lv_at hl 0 rfl) ?_
  refine xg (C := RX1) (T := TX1) (N := 9) (v := .int (bv (M (1 + 1 + 1 + x.toNatClampNeg) 0))) hx hb hts inc1 hown hK hP (kI_lt (iat_kd hcnt hT2) hn) (cell1 (iat_kd hcnt hT2)) rfl 0 (by decide) lk0 (fun _ h => h) rfl dX7_brokenOf_7 ?_
  refine lv_if_eq (tgt := 20) hx hb dX7_brokenOf_10 (by decide) (fun c10 => ?_) (fun c10 => ?_)
  · refine lv_iconst (v := (-1)) hx hb dX7_brokenOf_20 (by decide) ?_
    exact xt_i hx hb hr hlocks hP hS rfl (by rw [tX7_brokenOf, if_pos hT2, if_pos c10] <;> rfl) rfl (by rw [fX7_brokenOf, if_pos c10] <;> rfl) rfl (Nat.le_of_ble_eq_true rfl) (Nat.le_of_ble_eq_true rfl) dX7_brokenOf_21
  · refine lv_aload_n hx hb dX7_brokenOf_13 rfl (lv_at hl 0 rfl) ?_
    refine xg (C := RX1) (T := TX1) (N := 9) (v := .int (M (1 + 1 + 1 + x.toNatClampNeg) 3)) hx hb hts inc1 hown hK hP (kI_lt (iat_kd hcnt hT2) hn) (cell1 (iat_kd hcnt hT2)) rfl 3 (by decide) lk1 (fun _ h => h) rfl dX7_brokenOf_14 ?_
    refine lv_goto (tgt := 21) hx hb dX7_brokenOf_17 (by decide) ?_
    exact xt_i hx hb hr hlocks hP hS rfl (by rw [tX7_brokenOf, if_pos hT2, if_neg c10] <;> rfl) rfl (by rw [fX7_brokenOf, if_neg c10] <;> rfl) rfl (Nat.le_of_ble_eq_true rfl) (Nat.le_of_ble_eq_true rfl) dX7_brokenOf_21
def fX7_wetnessOf (M : Mem) (x : Int32) : Int32 := if (bv (M (1 + 1 + 1 + x.toNatClampNeg) 0)) = 0 then ((-1) : Int32) else (M (1 + 1 + 1 + x.toNatClampNeg) 4)
def tX7_wetnessOf (M : Mem) (x : Int32) : Nat := if (tX7_instrumentAt M x) = 0 then (if (bv (M (1 + 1 + 1 + x.toNatClampNeg) 0)) = 0 then 0 else 0) else (tX7_instrumentAt M x)
set_option maxHeartbeats 4000000 in
set_option maxRecDepth 100000 in
theorem c_X7_wetnessOf (l : Launch) (hl0 : l.stackTraces = false) (D : va_G) (cy : Nat → ClassId) (b n : Nat) (hn : 124 ≤ n) (M : Mem) (x : Int32) (hcnt : CNT M 1) : vx_Met l yX7_wetnessOf wsX7_wetnessOf ({ frames := 7, cells := 1, slots := 6, locals := 112 } : Room) (CP D cy b n fT M [.ref (b + 0), .int x]) (CTi D cy b n fT (tX7_wetnessOf M x) (fX7_wetnessOf M x) M) (CX D cy b n fT (tX7_wetnessOf M x) M) 1 6 (fr b) := by
  refine vx_ofW (cc := cX7_wetnessOf) (maxL := 3) (ret := (some .int)) (by decide) rfl ?_
  intro p e s m args below meth c s₁ B hml hout hv
  obtain ⟨rfl, hP, hK, hX⟩ := hv
  have hx := B.exec
  have hb := B.bytes
  have hr := B.returns
  have hts := atoms_spec (ws := wsX7_wetnessOf) B.pre
  have hown : s.vm.findClass RX7 = some m.cls := findClass_of_methodNamed B.named
  have hlocks := B.notSynchronized
  have lk0 := hts (.fieldLink RX7 155 "HygrometerRoom$Instrument" "hair" "Z") (by decide +kernel)
  have lk1 := hts (.fieldLink RX7 165 "HygrometerRoom$Instrument" "wetness" "I") (by decide +kernel)
  have inc1 : ∀ w ∈ u_ws RX1 TX1 9, w ∈ wsX7_wetnessOf := by decide +kernel
  have hS : va_S (fr b) s.heap s.heap [] := va_S.rf
  have hl := lv_entry ([.ref (b + 0), .int x]) (n := 3) (Nat.le_of_ble_eq_true rfl)
  rw [lg_entry_eq]
  generalize (lg_sl ([.ref (b + 0), .int x]) ++ List.replicate (3 - (lg_sl ([.ref (b + 0), .int x])).length) Slot.unset).toArray = ls at hl ⊢
  have hl : lv_has ls 3 [(0, .ref (b + 0)), (1, .int x)] := hl
  refine lv_aload_n hx hb dX7_wetnessOf_0 rfl (lv_at hl 0 rfl) ?_
  refine lv_iload_n hx hb dX7_wetnessOf_1 rfl (lv_at hl 1 rfl) ?_
  refine xct_q (vx_runV (As := [.int x]) (rest := []) ⟨hx, hb, hml, hown, hts⟩ (c_X7_instrumentAt l hl0 D cy b n hn M x hcnt) (cwV 1 hts gX7_wetnessOf_X7_instrumentAt rfl rfl rfl (by decide +kernel) ⟨Nat.le_of_ble_eq_true rfl, Nat.le_of_ble_eq_true rfl⟩) (xPreV hP hK hX hS (by omega) (cell7 (by decide)) rfl) rfl rfl hl.1 rfl (lv_room (Nat.le_of_ble_eq_true rfl)) dX7_wetnessOf_2 ⟨Nat.le_of_ble_eq_true rfl, Nat.le_of_ble_eq_true rfl⟩) hS (fun E ce q H locs hE hP hS hc hv hcl => xpass hout hlocks hc hv hcl hP hS rfl rfl (by rw [tX7_wetnessOf, if_neg (exn_ne hE)]; exact hE) (Nat.le_of_ble_eq_true rfl) (Nat.le_of_ble_eq_true rfl)) (fun H locs hT2 hP hS => ?_)
  refine W.eq (g2 := F0 m 5 ls (.ref (b + (1 + 1 + 1 + x.toNatClampNeg)) :: [])) rfl ?_
  refine lv_astore_n (lv' := [(2, .ref (b + (1 + 1 + 1 + x.toNatClampNeg))), (0, .ref (b + 0)), (1, .int x)]) hx hb dX7_wetnessOf_5 rfl hl (by decide) rfl (fun ls hl => ?_)
  refine lv_aload_n hx hb dX7_wetnessOf_6 rfl (lv_at hl 0 rfl) ?_
  refine xg (C := RX1) (T := TX1) (N := 9) (v := .int (bv (M (1 + 1 + 1 + x.toNatClampNeg) 0))) hx hb hts inc1 hown hK hP (kI_lt (iat_kd hcnt hT2) hn) (cell1 (iat_kd hcnt hT2)) rfl 0 (by decide) lk0 (fun _ h => h) rfl dX7_wetnessOf_7 ?_
  refine lv_if_eq (tgt := 20) hx hb dX7_wetnessOf_10 (by decide) (fun c10 => ?_) (fun c10 => ?_)
  · refine lv_iconst (v := (-1)) hx hb dX7_wetnessOf_20 (by decide) ?_
    exact xt_i hx hb hr hlocks hP hS rfl (by rw [tX7_wetnessOf, if_pos hT2, if_pos c10] <;> rfl) rfl (by rw [fX7_wetnessOf, if_pos c10] <;> rfl) rfl (Nat.le_of_ble_eq_true rfl) (Nat.le_of_ble_eq_true rfl) dX7_wetnessOf_21
  · refine lv_aload_n hx hb dX7_wetnessOf_13 rfl (lv_at hl 0 rfl) ?_
    refine xg (C := RX1) (T := TX1) (N := 9) (v := .int (M (1 + 1 + 1 + x.toNatClampNeg) 4)) hx hb hts inc1 hown hK hP (kI_lt (iat_kd hcnt hT2) hn) (cell1 (iat_kd hcnt hT2)) rfl 4 (by decide) lk1 (fun _ h => h) rfl dX7_wetnessOf_14 ?_
    refine lv_goto (tgt := 21) hx hb dX7_wetnessOf_17 (by decide) ?_
    exact xt_i hx hb hr hlocks hP hS rfl (by rw [tX7_wetnessOf, if_pos hT2, if_neg c10] <;> rfl) rfl (by rw [fX7_wetnessOf, if_neg c10] <;> rfl) rfl (Nat.le_of_ble_eq_true rfl) (Nat.le_of_ble_eq_true rfl) dX7_wetnessOf_21
def fX7_slackOf (M : Mem) (x : Int32) : Int32 := if (bv (M (1 + 1 + 1 + x.toNatClampNeg) 0)) = 0 then ((-1) : Int32) else (M (1 + 1 + 1 + x.toNatClampNeg) 5)
def tX7_slackOf (M : Mem) (x : Int32) : Nat := if (tX7_instrumentAt M x) = 0 then (if (bv (M (1 + 1 + 1 + x.toNatClampNeg) 0)) = 0 then 0 else 0) else (tX7_instrumentAt M x)
set_option maxHeartbeats 4000000 in
set_option maxRecDepth 100000 in
theorem c_X7_slackOf (l : Launch) (hl0 : l.stackTraces = false) (D : va_G) (cy : Nat → ClassId) (b n : Nat) (hn : 124 ≤ n) (M : Mem) (x : Int32) (hcnt : CNT M 1) : vx_Met l yX7_slackOf wsX7_slackOf ({ frames := 7, cells := 1, slots := 6, locals := 112 } : Room) (CP D cy b n fT M [.ref (b + 0), .int x]) (CTi D cy b n fT (tX7_slackOf M x) (fX7_slackOf M x) M) (CX D cy b n fT (tX7_slackOf M x) M) 1 6 (fr b) := by
  refine vx_ofW (cc := cX7_slackOf) (maxL := 3) (ret := (some .int)) (by decide) rfl ?_
  intro p e s m args below meth c s₁ B hml hout hv
  obtain ⟨rfl, hP, hK, hX⟩ := hv
  have hx := B.exec
  have hb := B.bytes
  have hr := B.returns
  have hts := atoms_spec (ws := wsX7_slackOf) B.pre
  have hown : s.vm.findClass RX7 = some m.cls := findClass_of_methodNamed B.named
  have hlocks := B.notSynchronized
  have lk0 := hts (.fieldLink RX7 155 "HygrometerRoom$Instrument" "hair" "Z") (by decide +kernel)
  have lk1 := hts (.fieldLink RX7 168 "HygrometerRoom$Instrument" "slack" "I") (by decide +kernel)
  have inc1 : ∀ w ∈ u_ws RX1 TX1 9, w ∈ wsX7_slackOf := by decide +kernel
  have hS : va_S (fr b) s.heap s.heap [] := va_S.rf
  have hl := lv_entry ([.ref (b + 0), .int x]) (n := 3) (Nat.le_of_ble_eq_true rfl)
  rw [lg_entry_eq]
  generalize (lg_sl ([.ref (b + 0), .int x]) ++ List.replicate (3 - (lg_sl ([.ref (b + 0), .int x])).length) Slot.unset).toArray = ls at hl ⊢
  have hl : lv_has ls 3 [(0, .ref (b + 0)), (1, .int x)] := hl
  refine lv_aload_n hx hb dX7_slackOf_0 rfl (lv_at hl 0 rfl) ?_
  refine lv_iload_n hx hb dX7_slackOf_1 rfl (lv_at hl 1 rfl) ?_
  refine xct_q (vx_runV (As := [.int x]) (rest := []) ⟨hx, hb, hml, hown, hts⟩ (c_X7_instrumentAt l hl0 D cy b n hn M x hcnt) (cwV 1 hts gX7_slackOf_X7_instrumentAt rfl rfl rfl (by decide +kernel) ⟨Nat.le_of_ble_eq_true rfl, Nat.le_of_ble_eq_true rfl⟩) (xPreV hP hK hX hS (by omega) (cell7 (by decide)) rfl) rfl rfl hl.1 rfl (lv_room (Nat.le_of_ble_eq_true rfl)) dX7_slackOf_2 ⟨Nat.le_of_ble_eq_true rfl, Nat.le_of_ble_eq_true rfl⟩) hS (fun E ce q H locs hE hP hS hc hv hcl => xpass hout hlocks hc hv hcl hP hS rfl rfl (by rw [tX7_slackOf, if_neg (exn_ne hE)]; exact hE) (Nat.le_of_ble_eq_true rfl) (Nat.le_of_ble_eq_true rfl)) (fun H locs hT2 hP hS => ?_)
  refine W.eq (g2 := F0 m 5 ls (.ref (b + (1 + 1 + 1 + x.toNatClampNeg)) :: [])) rfl ?_
  refine lv_astore_n (lv' := [(2, .ref (b + (1 + 1 + 1 + x.toNatClampNeg))), (0, .ref (b + 0)), (1, .int x)]) hx hb dX7_slackOf_5 rfl hl (by decide) rfl (fun ls hl => ?_)
  refine lv_aload_n hx hb dX7_slackOf_6 rfl (lv_at hl 0 rfl) ?_
  refine xg (C := RX1) (T := TX1) (N := 9) (v := .int (bv (M (1 + 1 + 1 + x.toNatClampNeg) 0))) hx hb hts inc1 hown hK hP (kI_lt (iat_kd hcnt hT2) hn) (cell1 (iat_kd hcnt hT2)) rfl 0 (by decide) lk0 (fun _ h => h) rfl dX7_slackOf_7 ?_
  refine lv_if_eq (tgt := 20) hx hb dX7_slackOf_10 (by decide) (fun c10 => ?_) (fun c10 => ?_)
  · refine lv_iconst (v := (-1)) hx hb dX7_slackOf_20 (by decide) ?_
    exact xt_i hx hb hr hlocks hP hS rfl (by rw [tX7_slackOf, if_pos hT2, if_pos c10] <;> rfl) rfl (by rw [fX7_slackOf, if_pos c10] <;> rfl) rfl (Nat.le_of_ble_eq_true rfl) (Nat.le_of_ble_eq_true rfl) dX7_slackOf_21
  · refine lv_aload_n hx hb dX7_slackOf_13 rfl (lv_at hl 0 rfl) ?_
    refine xg (C := RX1) (T := TX1) (N := 9) (v := .int (M (1 + 1 + 1 + x.toNatClampNeg) 5)) hx hb hts inc1 hown hK hP (kI_lt (iat_kd hcnt hT2) hn) (cell1 (iat_kd hcnt hT2)) rfl 5 (by decide) lk1 (fun _ h => h) rfl dX7_slackOf_14 ?_
    refine lv_goto (tgt := 21) hx hb dX7_slackOf_17 (by decide) ?_
    exact xt_i hx hb hr hlocks hP hS rfl (by rw [tX7_slackOf, if_pos hT2, if_neg c10] <;> rfl) rfl (by rw [fX7_slackOf, if_neg c10] <;> rfl) rfl (Nat.le_of_ble_eq_true rfl) (Nat.le_of_ble_eq_true rfl) dX7_slackOf_21
def fX7_waterOf (M : Mem) (x : Int32) : Int32 := if (bv (M (1 + 1 + 1 + x.toNatClampNeg) 0)) = 0 then (M (1 + 1 + 1 + x.toNatClampNeg) 6) else ((-1) : Int32)
def tX7_waterOf (M : Mem) (x : Int32) : Nat := if (tX7_instrumentAt M x) = 0 then (if (bv (M (1 + 1 + 1 + x.toNatClampNeg) 0)) = 0 then 0 else 0) else (tX7_instrumentAt M x)
set_option maxHeartbeats 4000000 in
set_option maxRecDepth 100000 in
theorem c_X7_waterOf (l : Launch) (hl0 : l.stackTraces = false) (D : va_G) (cy : Nat → ClassId) (b n : Nat) (hn : 124 ≤ n) (M : Mem) (x : Int32) (hcnt : CNT M 1) : vx_Met l yX7_waterOf wsX7_waterOf ({ frames := 7, cells := 1, slots := 6, locals := 112 } : Room) (CP D cy b n fT M [.ref (b + 0), .int x]) (CTi D cy b n fT (tX7_waterOf M x) (fX7_waterOf M x) M) (CX D cy b n fT (tX7_waterOf M x) M) 1 6 (fr b) := by
  refine vx_ofW (cc := cX7_waterOf) (maxL := 3) (ret := (some .int)) (by decide) rfl ?_
  intro p e s m args below meth c s₁ B hml hout hv
  obtain ⟨rfl, hP, hK, hX⟩ := hv
  have hx := B.exec
  have hb := B.bytes
  have hr := B.returns
  have hts := atoms_spec (ws := wsX7_waterOf) B.pre
  have hown : s.vm.findClass RX7 = some m.cls := findClass_of_methodNamed B.named
  have hlocks := B.notSynchronized
  have lk0 := hts (.fieldLink RX7 155 "HygrometerRoom$Instrument" "hair" "Z") (by decide +kernel)
  have lk1 := hts (.fieldLink RX7 171 "HygrometerRoom$Instrument" "water" "I") (by decide +kernel)
  have inc1 : ∀ w ∈ u_ws RX1 TX1 9, w ∈ wsX7_waterOf := by decide +kernel
  have hS : va_S (fr b) s.heap s.heap [] := va_S.rf
  have hl := lv_entry ([.ref (b + 0), .int x]) (n := 3) (Nat.le_of_ble_eq_true rfl)
  rw [lg_entry_eq]
  generalize (lg_sl ([.ref (b + 0), .int x]) ++ List.replicate (3 - (lg_sl ([.ref (b + 0), .int x])).length) Slot.unset).toArray = ls at hl ⊢
  have hl : lv_has ls 3 [(0, .ref (b + 0)), (1, .int x)] := hl
  refine lv_aload_n hx hb dX7_waterOf_0 rfl (lv_at hl 0 rfl) ?_
  refine lv_iload_n hx hb dX7_waterOf_1 rfl (lv_at hl 1 rfl) ?_
  refine xct_q (vx_runV (As := [.int x]) (rest := []) ⟨hx, hb, hml, hown, hts⟩ (c_X7_instrumentAt l hl0 D cy b n hn M x hcnt) (cwV 1 hts gX7_waterOf_X7_instrumentAt rfl rfl rfl (by decide +kernel) ⟨Nat.le_of_ble_eq_true rfl, Nat.le_of_ble_eq_true rfl⟩) (xPreV hP hK hX hS (by omega) (cell7 (by decide)) rfl) rfl rfl hl.1 rfl (lv_room (Nat.le_of_ble_eq_true rfl)) dX7_waterOf_2 ⟨Nat.le_of_ble_eq_true rfl, Nat.le_of_ble_eq_true rfl⟩) hS (fun E ce q H locs hE hP hS hc hv hcl => xpass hout hlocks hc hv hcl hP hS rfl rfl (by rw [tX7_waterOf, if_neg (exn_ne hE)]; exact hE) (Nat.le_of_ble_eq_true rfl) (Nat.le_of_ble_eq_true rfl)) (fun H locs hT2 hP hS => ?_)
  refine W.eq (g2 := F0 m 5 ls (.ref (b + (1 + 1 + 1 + x.toNatClampNeg)) :: [])) rfl ?_
  refine lv_astore_n (lv' := [(2, .ref (b + (1 + 1 + 1 + x.toNatClampNeg))), (0, .ref (b + 0)), (1, .int x)]) hx hb dX7_waterOf_5 rfl hl (by decide) rfl (fun ls hl => ?_)
  refine lv_aload_n hx hb dX7_waterOf_6 rfl (lv_at hl 0 rfl) ?_
  refine xg (C := RX1) (T := TX1) (N := 9) (v := .int (bv (M (1 + 1 + 1 + x.toNatClampNeg) 0))) hx hb hts inc1 hown hK hP (kI_lt (iat_kd hcnt hT2) hn) (cell1 (iat_kd hcnt hT2)) rfl 0 (by decide) lk0 (fun _ h => h) rfl dX7_waterOf_7 ?_
  refine lv_if_eq (tgt := 17) hx hb dX7_waterOf_10 (by decide) (fun c10 => ?_) (fun c10 => ?_)
  · refine lv_aload_n hx hb dX7_waterOf_17 rfl (lv_at hl 0 rfl) ?_
    refine xg (C := RX1) (T := TX1) (N := 9) (v := .int (M (1 + 1 + 1 + x.toNatClampNeg) 6)) hx hb hts inc1 hown hK hP (kI_lt (iat_kd hcnt hT2) hn) (cell1 (iat_kd hcnt hT2)) rfl 6 (by decide) lk1 (fun _ h => h) rfl dX7_waterOf_18 ?_
    exact xt_i hx hb hr hlocks hP hS rfl (by rw [tX7_waterOf, if_pos hT2, if_pos c10] <;> rfl) rfl (by rw [fX7_waterOf, if_pos c10] <;> rfl) rfl (Nat.le_of_ble_eq_true rfl) (Nat.le_of_ble_eq_true rfl) dX7_waterOf_21
  · refine lv_iconst (v := (-1)) hx hb dX7_waterOf_13 (by decide) ?_
    refine lv_goto (tgt := 21) hx hb dX7_waterOf_14 (by decide) ?_
    exact xt_i hx hb hr hlocks hP hS rfl (by rw [tX7_waterOf, if_pos hT2, if_neg c10] <;> rfl) rfl (by rw [fX7_waterOf, if_neg c10] <;> rfl) rfl (Nat.le_of_ble_eq_true rfl) (Nat.le_of_ble_eq_true rfl) dX7_waterOf_21
def fX7_depressionOf (M : Mem) (x : Int32) : Int32 := if (bv (M (1 + 1 + 1 + x.toNatClampNeg) 0)) = 0 then (fX4_depression M 1 (1 + 1 + 1 + x.toNatClampNeg)) else ((-1) : Int32)
def tX7_depressionOf (M : Mem) (x : Int32) : Nat := if (tX7_instrumentAt M x) = 0 then (if (bv (M (1 + 1 + 1 + x.toNatClampNeg) 0)) = 0 then 0 else 0) else (tX7_instrumentAt M x)
set_option maxHeartbeats 4000000 in
set_option maxRecDepth 100000 in
theorem c_X7_depressionOf (l : Launch) (hl0 : l.stackTraces = false) (D : va_G) (cy : Nat → ClassId) (b n : Nat) (hn : 124 ≤ n) (M : Mem) (x : Int32) (hcnt : CNT M 1) : vx_Met l yX7_depressionOf wsX7_depressionOf ({ frames := 7, cells := 1, slots := 6, locals := 112 } : Room) (CP D cy b n fT M [.ref (b + 0), .int x]) (CTi D cy b n fT (tX7_depressionOf M x) (fX7_depressionOf M x) M) (CX D cy b n fT (tX7_depressionOf M x) M) 1 6 (fr b) := by
  refine vx_ofW (cc := cX7_depressionOf) (maxL := 3) (ret := (some .int)) (by decide) rfl ?_
  intro p e s m args below meth c s₁ B hml hout hv
  obtain ⟨rfl, hP, hK, hX⟩ := hv
  have hx := B.exec
  have hb := B.bytes
  have hr := B.returns
  have hts := atoms_spec (ws := wsX7_depressionOf) B.pre
  have hown : s.vm.findClass RX7 = some m.cls := findClass_of_methodNamed B.named
  have hlocks := B.notSynchronized
  have lk0 := hts (.fieldLink RX7 155 "HygrometerRoom$Instrument" "hair" "Z") (by decide +kernel)
  have lk1 := hts (.fieldLink RX7 10 "HygrometerRoom" "room" "LHygrometerRoom$Room;") (by decide +kernel)
  have inc1 : ∀ w ∈ u_ws RX1 TX1 9, w ∈ wsX7_depressionOf := by decide +kernel
  have inc7 : ∀ w ∈ u_ws RX7 TX7 6, w ∈ wsX7_depressionOf := by decide +kernel
  have hS : va_S (fr b) s.heap s.heap [] := va_S.rf
  have hl := lv_entry ([.ref (b + 0), .int x]) (n := 3) (Nat.le_of_ble_eq_true rfl)
  rw [lg_entry_eq]
  generalize (lg_sl ([.ref (b + 0), .int x]) ++ List.replicate (3 - (lg_sl ([.ref (b + 0), .int x])).length) Slot.unset).toArray = ls at hl ⊢
  have hl : lv_has ls 3 [(0, .ref (b + 0)), (1, .int x)] := hl
  refine lv_aload_n hx hb dX7_depressionOf_0 rfl (lv_at hl 0 rfl) ?_
  refine lv_iload_n hx hb dX7_depressionOf_1 rfl (lv_at hl 1 rfl) ?_
  refine xct_q (vx_runV (As := [.int x]) (rest := []) ⟨hx, hb, hml, hown, hts⟩ (c_X7_instrumentAt l hl0 D cy b n hn M x hcnt) (cwV 1 hts gX7_depressionOf_X7_instrumentAt rfl rfl rfl (by decide +kernel) ⟨Nat.le_of_ble_eq_true rfl, Nat.le_of_ble_eq_true rfl⟩) (xPreV hP hK hX hS (by omega) (cell7 (by decide)) rfl) rfl rfl hl.1 rfl (lv_room (Nat.le_of_ble_eq_true rfl)) dX7_depressionOf_2 ⟨Nat.le_of_ble_eq_true rfl, Nat.le_of_ble_eq_true rfl⟩) hS (fun E ce q H locs hE hP hS hc hv hcl => xpass hout hlocks hc hv hcl hP hS rfl rfl (by rw [tX7_depressionOf, if_neg (exn_ne hE)]; exact hE) (Nat.le_of_ble_eq_true rfl) (Nat.le_of_ble_eq_true rfl)) (fun H locs hT2 hP hS => ?_)
  refine W.eq (g2 := F0 m 5 ls (.ref (b + (1 + 1 + 1 + x.toNatClampNeg)) :: [])) rfl ?_
  refine lv_astore_n (lv' := [(2, .ref (b + (1 + 1 + 1 + x.toNatClampNeg))), (0, .ref (b + 0)), (1, .int x)]) hx hb dX7_depressionOf_5 rfl hl (by decide) rfl (fun ls hl => ?_)
  refine lv_aload_n hx hb dX7_depressionOf_6 rfl (lv_at hl 0 rfl) ?_
  refine xg (C := RX1) (T := TX1) (N := 9) (v := .int (bv (M (1 + 1 + 1 + x.toNatClampNeg) 0))) hx hb hts inc1 hown hK hP (kI_lt (iat_kd hcnt hT2) hn) (cell1 (iat_kd hcnt hT2)) rfl 0 (by decide) lk0 (fun _ h => h) rfl dX7_depressionOf_7 ?_
  refine lv_if_eq (tgt := 17) hx hb dX7_depressionOf_10 (by decide) (fun c10 => ?_) (fun c10 => ?_)
  · refine lv_aload_n hx hb dX7_depressionOf_17 rfl (lv_at hl 1 rfl) ?_
    refine xg (C := RX7) (T := TX7) (N := 6) (v := .ref (b + 1)) hx hb hts inc7 hown hK hP (by omega) (cell7 (by decide)) rfl 0 (by decide) lk1 (fun _ h => h) rfl dX7_depressionOf_18 ?_
    refine lv_aload_n hx hb dX7_depressionOf_21 rfl (lv_at hl 0 rfl) ?_
    refine xc_i (va_runV (As := [.ref (b + (1 + 1 + 1 + x.toNatClampNeg))]) (rest := []) ⟨hx, hb, hml, hown, hts⟩ (c_X4_depression l D cy b n hn M 1 (1 + 1 + 1 + x.toNatClampNeg) (by decide) (iat_kd hcnt hT2)) (cwV 1 hts gX7_depressionOf_X4_depression rfl rfl rfl (by decide +kernel) ⟨Nat.le_of_ble_eq_true rfl, Nat.le_of_ble_eq_true rfl⟩) (xPreV hP hK hX hS (by omega) (cell4 (by decide)) rfl) rfl rfl hl.1 rfl (lv_room (Nat.le_of_ble_eq_true rfl)) dX7_depressionOf_22 ⟨Nat.le_of_ble_eq_true rfl, Nat.le_of_ble_eq_true rfl⟩) hS (fun H locs hP hS => ?_)
    exact xt_i hx hb hr hlocks hP hS rfl (by rw [tX7_depressionOf, if_pos hT2, if_pos c10] <;> rfl) rfl (by rw [fX7_depressionOf, if_pos c10] <;> rfl) (by unfold fX4_depression; (repeat' split) <;> rfl) (Nat.le_of_ble_eq_true rfl) (Nat.le_of_ble_eq_true rfl) dX7_depressionOf_25
  · refine lv_iconst (v := (-1)) hx hb dX7_depressionOf_13 (by decide) ?_
    refine lv_goto (tgt := 25) hx hb dX7_depressionOf_14 (by decide) ?_
    exact xt_i hx hb hr hlocks hP hS rfl (by rw [tX7_depressionOf, if_pos hT2, if_neg c10] <;> rfl) rfl (by rw [fX7_depressionOf, if_neg c10] <;> rfl) rfl (Nat.le_of_ble_eq_true rfl) (Nat.le_of_ble_eq_true rfl) dX7_depressionOf_25
def fX7_zeroOf (M : Mem) (x : Int32) : Int32 := M (1 + 1 + 1 + x.toNatClampNeg) 7
def tX7_zeroOf (M : Mem) (x : Int32) : Nat := if (tX7_instrumentAt M x) = 0 then 0 else (tX7_instrumentAt M x)
set_option maxHeartbeats 4000000 in
set_option maxRecDepth 100000 in
theorem c_X7_zeroOf (l : Launch) (hl0 : l.stackTraces = false) (D : va_G) (cy : Nat → ClassId) (b n : Nat) (hn : 124 ≤ n) (M : Mem) (x : Int32) (hcnt : CNT M 1) : vx_Met l yX7_zeroOf wsX7_zeroOf ({ frames := 7, cells := 1, slots := 6, locals := 112 } : Room) (CP D cy b n fT M [.ref (b + 0), .int x]) (CTi D cy b n fT (tX7_zeroOf M x) (fX7_zeroOf M x) M) (CX D cy b n fT (tX7_zeroOf M x) M) 1 6 (fr b) := by
  refine vx_ofW (cc := cX7_zeroOf) (maxL := 2) (ret := (some .int)) (by decide) rfl ?_
  intro p e s m args below meth c s₁ B hml hout hv
  obtain ⟨rfl, hP, hK, hX⟩ := hv
  have hx := B.exec
  have hb := B.bytes
  have hr := B.returns
  have hts := atoms_spec (ws := wsX7_zeroOf) B.pre
  have hown : s.vm.findClass RX7 = some m.cls := findClass_of_methodNamed B.named
  have hlocks := B.notSynchronized
  have lk0 := hts (.fieldLink RX7 178 "HygrometerRoom$Instrument" "zero" "I") (by decide +kernel)
  have inc1 : ∀ w ∈ u_ws RX1 TX1 9, w ∈ wsX7_zeroOf := by decide +kernel
  have hS : va_S (fr b) s.heap s.heap [] := va_S.rf
  have hl := lv_entry ([.ref (b + 0), .int x]) (n := 2) (Nat.le_of_ble_eq_true rfl)
  rw [lg_entry_eq]
  generalize (lg_sl ([.ref (b + 0), .int x]) ++ List.replicate (2 - (lg_sl ([.ref (b + 0), .int x])).length) Slot.unset).toArray = ls at hl ⊢
  have hl : lv_has ls 2 [(0, .ref (b + 0)), (1, .int x)] := hl
  refine lv_aload_n hx hb dX7_zeroOf_0 rfl (lv_at hl 0 rfl) ?_
  refine lv_iload_n hx hb dX7_zeroOf_1 rfl (lv_at hl 1 rfl) ?_
  refine xct_q (vx_runV (As := [.int x]) (rest := []) ⟨hx, hb, hml, hown, hts⟩ (c_X7_instrumentAt l hl0 D cy b n hn M x hcnt) (cwV 1 hts gX7_zeroOf_X7_instrumentAt rfl rfl rfl (by decide +kernel) ⟨Nat.le_of_ble_eq_true rfl, Nat.le_of_ble_eq_true rfl⟩) (xPreV hP hK hX hS (by omega) (cell7 (by decide)) rfl) rfl rfl hl.1 rfl (lv_room (Nat.le_of_ble_eq_true rfl)) dX7_zeroOf_2 ⟨Nat.le_of_ble_eq_true rfl, Nat.le_of_ble_eq_true rfl⟩) hS (fun E ce q H locs hE hP hS hc hv hcl => xpass hout hlocks hc hv hcl hP hS rfl rfl (by rw [tX7_zeroOf, if_neg (exn_ne hE)]; exact hE) (Nat.le_of_ble_eq_true rfl) (Nat.le_of_ble_eq_true rfl)) (fun H locs hT2 hP hS => ?_)
  refine W.eq (g2 := F0 m 5 ls (.ref (b + (1 + 1 + 1 + x.toNatClampNeg)) :: [])) rfl ?_
  refine xg (C := RX1) (T := TX1) (N := 9) (v := .int (M (1 + 1 + 1 + x.toNatClampNeg) 7)) hx hb hts inc1 hown hK hP (kI_lt (iat_kd hcnt hT2) hn) (cell1 (iat_kd hcnt hT2)) rfl 7 (by decide) lk0 (fun _ h => h) rfl dX7_zeroOf_5 ?_
  exact xt_i hx hb hr hlocks hP hS rfl (by rw [tX7_zeroOf, if_pos hT2] <;> rfl) rfl (by rw [fX7_zeroOf] <;> rfl) rfl (Nat.le_of_ble_eq_true rfl) (Nat.le_of_ble_eq_true rfl) dX7_zeroOf_8
def fX7_boxOf (M : Mem) (x : Int32) : Int32 := M (1 + 1 + 1 + x.toNatClampNeg) 8
def tX7_boxOf (M : Mem) (x : Int32) : Nat := if (tX7_instrumentAt M x) = 0 then 0 else (tX7_instrumentAt M x)
set_option maxHeartbeats 4000000 in
set_option maxRecDepth 100000 in
theorem c_X7_boxOf (l : Launch) (hl0 : l.stackTraces = false) (D : va_G) (cy : Nat → ClassId) (b n : Nat) (hn : 124 ≤ n) (M : Mem) (x : Int32) (hcnt : CNT M 1) : vx_Met l yX7_boxOf wsX7_boxOf ({ frames := 7, cells := 1, slots := 6, locals := 112 } : Room) (CP D cy b n fT M [.ref (b + 0), .int x]) (CTi D cy b n fT (tX7_boxOf M x) (fX7_boxOf M x) M) (CX D cy b n fT (tX7_boxOf M x) M) 1 6 (fr b) := by
  refine vx_ofW (cc := cX7_boxOf) (maxL := 2) (ret := (some .int)) (by decide) rfl ?_
  intro p e s m args below meth c s₁ B hml hout hv
  obtain ⟨rfl, hP, hK, hX⟩ := hv
  have hx := B.exec
  have hb := B.bytes
  have hr := B.returns
  have hts := atoms_spec (ws := wsX7_boxOf) B.pre
  have hown : s.vm.findClass RX7 = some m.cls := findClass_of_methodNamed B.named
  have hlocks := B.notSynchronized
  have lk0 := hts (.fieldLink RX7 74 "HygrometerRoom$Instrument" "box" "I") (by decide +kernel)
  have inc1 : ∀ w ∈ u_ws RX1 TX1 9, w ∈ wsX7_boxOf := by decide +kernel
  have hS : va_S (fr b) s.heap s.heap [] := va_S.rf
  have hl := lv_entry ([.ref (b + 0), .int x]) (n := 2) (Nat.le_of_ble_eq_true rfl)
  rw [lg_entry_eq]
  generalize (lg_sl ([.ref (b + 0), .int x]) ++ List.replicate (2 - (lg_sl ([.ref (b + 0), .int x])).length) Slot.unset).toArray = ls at hl ⊢
  have hl : lv_has ls 2 [(0, .ref (b + 0)), (1, .int x)] := hl
  refine lv_aload_n hx hb dX7_boxOf_0 rfl (lv_at hl 0 rfl) ?_
  refine lv_iload_n hx hb dX7_boxOf_1 rfl (lv_at hl 1 rfl) ?_
  refine xct_q (vx_runV (As := [.int x]) (rest := []) ⟨hx, hb, hml, hown, hts⟩ (c_X7_instrumentAt l hl0 D cy b n hn M x hcnt) (cwV 1 hts gX7_boxOf_X7_instrumentAt rfl rfl rfl (by decide +kernel) ⟨Nat.le_of_ble_eq_true rfl, Nat.le_of_ble_eq_true rfl⟩) (xPreV hP hK hX hS (by omega) (cell7 (by decide)) rfl) rfl rfl hl.1 rfl (lv_room (Nat.le_of_ble_eq_true rfl)) dX7_boxOf_2 ⟨Nat.le_of_ble_eq_true rfl, Nat.le_of_ble_eq_true rfl⟩) hS (fun E ce q H locs hE hP hS hc hv hcl => xpass hout hlocks hc hv hcl hP hS rfl rfl (by rw [tX7_boxOf, if_neg (exn_ne hE)]; exact hE) (Nat.le_of_ble_eq_true rfl) (Nat.le_of_ble_eq_true rfl)) (fun H locs hT2 hP hS => ?_)
  refine W.eq (g2 := F0 m 5 ls (.ref (b + (1 + 1 + 1 + x.toNatClampNeg)) :: [])) rfl ?_
  refine xg (C := RX1) (T := TX1) (N := 9) (v := .int (M (1 + 1 + 1 + x.toNatClampNeg) 8)) hx hb hts inc1 hown hK hP (kI_lt (iat_kd hcnt hT2) hn) (cell1 (iat_kd hcnt hT2)) rfl 8 (by decide) lk0 (fun _ h => h) rfl dX7_boxOf_5 ?_
  exact xt_i hx hb hr hlocks hP hS rfl (by rw [tX7_boxOf, if_pos hT2] <;> rfl) rfl (by rw [fX7_boxOf] <;> rfl) rfl (Nat.le_of_ble_eq_true rfl) (Nat.le_of_ble_eq_true rfl) dX7_boxOf_8
def fX7_surroundingOf (M : Mem) (x : Int32) : Int32 := fX4_surrounding M 1 (1 + 1 + 1 + x.toNatClampNeg)
def tX7_surroundingOf (M : Mem) (x : Int32) : Nat := if (tX7_instrumentAt M x) = 0 then 0 else (tX7_instrumentAt M x)
set_option maxHeartbeats 4000000 in
set_option maxRecDepth 100000 in
theorem c_X7_surroundingOf (l : Launch) (hl0 : l.stackTraces = false) (D : va_G) (cy : Nat → ClassId) (b n : Nat) (hn : 124 ≤ n) (M : Mem) (x : Int32) (hcnt : CNT M 1) : vx_Met l yX7_surroundingOf wsX7_surroundingOf ({ frames := 7, cells := 1, slots := 6, locals := 112 } : Room) (CP D cy b n fT M [.ref (b + 0), .int x]) (CTi D cy b n fT (tX7_surroundingOf M x) (fX7_surroundingOf M x) M) (CX D cy b n fT (tX7_surroundingOf M x) M) 1 6 (fr b) := by
  refine vx_ofW (cc := cX7_surroundingOf) (maxL := 2) (ret := (some .int)) (by decide) rfl ?_
  intro p e s m args below meth c s₁ B hml hout hv
  obtain ⟨rfl, hP, hK, hX⟩ := hv
  have hx := B.exec
  have hb := B.bytes
  have hr := B.returns
  have hts := atoms_spec (ws := wsX7_surroundingOf) B.pre
  have hown : s.vm.findClass RX7 = some m.cls := findClass_of_methodNamed B.named
  have hlocks := B.notSynchronized
  have lk0 := hts (.fieldLink RX7 10 "HygrometerRoom" "room" "LHygrometerRoom$Room;") (by decide +kernel)
  have inc7 : ∀ w ∈ u_ws RX7 TX7 6, w ∈ wsX7_surroundingOf := by decide +kernel
  have hS : va_S (fr b) s.heap s.heap [] := va_S.rf
  have hl := lv_entry ([.ref (b + 0), .int x]) (n := 2) (Nat.le_of_ble_eq_true rfl)
  rw [lg_entry_eq]
  generalize (lg_sl ([.ref (b + 0), .int x]) ++ List.replicate (2 - (lg_sl ([.ref (b + 0), .int x])).length) Slot.unset).toArray = ls at hl ⊢
  have hl : lv_has ls 2 [(0, .ref (b + 0)), (1, .int x)] := hl
  refine lv_aload_n hx hb dX7_surroundingOf_0 rfl (lv_at hl 0 rfl) ?_
  refine xg (C := RX7) (T := TX7) (N := 6) (v := .ref (b + 1)) hx hb hts inc7 hown hK hP (by omega) (cell7 (by decide)) rfl 0 (by decide) lk0 (fun _ h => h) rfl dX7_surroundingOf_1 ?_
  refine lv_aload_n hx hb dX7_surroundingOf_4 rfl (lv_at hl 0 rfl) ?_
  refine lv_iload_n hx hb dX7_surroundingOf_5 rfl (lv_at hl 1 rfl) ?_
  refine xct_q (vx_runV (As := [.int x]) (rest := [.ref (b + 1)]) ⟨hx, hb, hml, hown, hts⟩ (c_X7_instrumentAt l hl0 D cy b n hn M x hcnt) (cwV 1 hts gX7_surroundingOf_X7_instrumentAt rfl rfl rfl (by decide +kernel) ⟨Nat.le_of_ble_eq_true rfl, Nat.le_of_ble_eq_true rfl⟩) (xPreV hP hK hX hS (by omega) (cell7 (by decide)) rfl) rfl rfl hl.1 rfl (lv_room (Nat.le_of_ble_eq_true rfl)) dX7_surroundingOf_6 ⟨Nat.le_of_ble_eq_true rfl, Nat.le_of_ble_eq_true rfl⟩) hS (fun E ce q H locs hE hP hS hc hv hcl => xpass hout hlocks hc hv hcl hP hS rfl rfl (by rw [tX7_surroundingOf, if_neg (exn_ne hE)]; exact hE) (Nat.le_of_ble_eq_true rfl) (Nat.le_of_ble_eq_true rfl)) (fun H locs hT6 hP hS => ?_)
  refine W.eq (g2 := F0 m 9 ls (.ref (b + (1 + 1 + 1 + x.toNatClampNeg)) :: .ref (b + 1) :: [])) rfl ?_
  refine xc_i (va_runV (As := [.ref (b + (1 + 1 + 1 + x.toNatClampNeg))]) (rest := []) ⟨hx, hb, hml, hown, hts⟩ (c_X4_surrounding l D cy b n hn M 1 (1 + 1 + 1 + x.toNatClampNeg) (by decide) (iat_kd hcnt hT6)) (cwV 1 hts gX7_surroundingOf_X4_surrounding rfl rfl rfl (by decide +kernel) ⟨Nat.le_of_ble_eq_true rfl, Nat.le_of_ble_eq_true rfl⟩) (xPreV hP hK hX hS (by omega) (cell4 (by decide)) rfl) rfl rfl hl.1 rfl (lv_room (Nat.le_of_ble_eq_true rfl)) dX7_surroundingOf_9 ⟨Nat.le_of_ble_eq_true rfl, Nat.le_of_ble_eq_true rfl⟩) hS (fun H locs hP hS => ?_)
  exact xt_i hx hb hr hlocks hP hS rfl (by rw [tX7_surroundingOf, if_pos hT6] <;> rfl) rfl (by rw [fX7_surroundingOf] <;> rfl) (by unfold fX4_surrounding; (repeat' split) <;> rfl) (Nat.le_of_ble_eq_true rfl) (Nat.le_of_ble_eq_true rfl) dX7_surroundingOf_12
def fX7_rawValue (M : Mem) (x : Int32) : Int32 := fX4_raw M 1 (1 + 1 + 1 + x.toNatClampNeg)
def tX7_rawValue (M : Mem) (x : Int32) : Nat := if (tX7_instrumentAt M x) = 0 then 0 else (tX7_instrumentAt M x)
set_option maxHeartbeats 4000000 in
set_option maxRecDepth 100000 in
theorem c_X7_rawValue (l : Launch) (hl0 : l.stackTraces = false) (D : va_G) (cy : Nat → ClassId) (b n : Nat) (hn : 124 ≤ n) (M : Mem) (x : Int32) (hcnt : CNT M 1) : vx_Met l yX7_rawValue wsX7_rawValue ({ frames := 7, cells := 1, slots := 6, locals := 112 } : Room) (CP D cy b n fT M [.ref (b + 0), .int x]) (CTi D cy b n fT (tX7_rawValue M x) (fX7_rawValue M x) M) (CX D cy b n fT (tX7_rawValue M x) M) 1 6 (fr b) := by
  refine vx_ofW (cc := cX7_rawValue) (maxL := 2) (ret := (some .int)) (by decide) rfl ?_
  intro p e s m args below meth c s₁ B hml hout hv
  obtain ⟨rfl, hP, hK, hX⟩ := hv
  have hx := B.exec
  have hb := B.bytes
  have hr := B.returns
  have hts := atoms_spec (ws := wsX7_rawValue) B.pre
  have hown : s.vm.findClass RX7 = some m.cls := findClass_of_methodNamed B.named
  have hlocks := B.notSynchronized
  have lk0 := hts (.fieldLink RX7 10 "HygrometerRoom" "room" "LHygrometerRoom$Room;") (by decide +kernel)
  have inc7 : ∀ w ∈ u_ws RX7 TX7 6, w ∈ wsX7_rawValue := by decide +kernel
  have hS : va_S (fr b) s.heap s.heap [] := va_S.rf
  have hl := lv_entry ([.ref (b + 0), .int x]) (n := 2) (Nat.le_of_ble_eq_true rfl)
  rw [lg_entry_eq]
  generalize (lg_sl ([.ref (b + 0), .int x]) ++ List.replicate (2 - (lg_sl ([.ref (b + 0), .int x])).length) Slot.unset).toArray = ls at hl ⊢
  have hl : lv_has ls 2 [(0, .ref (b + 0)), (1, .int x)] := hl
  refine lv_aload_n hx hb dX7_rawValue_0 rfl (lv_at hl 0 rfl) ?_
  refine xg (C := RX7) (T := TX7) (N := 6) (v := .ref (b + 1)) hx hb hts inc7 hown hK hP (by omega) (cell7 (by decide)) rfl 0 (by decide) lk0 (fun _ h => h) rfl dX7_rawValue_1 ?_
  refine lv_aload_n hx hb dX7_rawValue_4 rfl (lv_at hl 0 rfl) ?_
  refine lv_iload_n hx hb dX7_rawValue_5 rfl (lv_at hl 1 rfl) ?_
  refine xct_q (vx_runV (As := [.int x]) (rest := [.ref (b + 1)]) ⟨hx, hb, hml, hown, hts⟩ (c_X7_instrumentAt l hl0 D cy b n hn M x hcnt) (cwV 1 hts gX7_rawValue_X7_instrumentAt rfl rfl rfl (by decide +kernel) ⟨Nat.le_of_ble_eq_true rfl, Nat.le_of_ble_eq_true rfl⟩) (xPreV hP hK hX hS (by omega) (cell7 (by decide)) rfl) rfl rfl hl.1 rfl (lv_room (Nat.le_of_ble_eq_true rfl)) dX7_rawValue_6 ⟨Nat.le_of_ble_eq_true rfl, Nat.le_of_ble_eq_true rfl⟩) hS (fun E ce q H locs hE hP hS hc hv hcl => xpass hout hlocks hc hv hcl hP hS rfl rfl (by rw [tX7_rawValue, if_neg (exn_ne hE)]; exact hE) (Nat.le_of_ble_eq_true rfl) (Nat.le_of_ble_eq_true rfl)) (fun H locs hT6 hP hS => ?_)
  refine W.eq (g2 := F0 m 9 ls (.ref (b + (1 + 1 + 1 + x.toNatClampNeg)) :: .ref (b + 1) :: [])) rfl ?_
  refine xc_i (va_runV (As := [.ref (b + (1 + 1 + 1 + x.toNatClampNeg))]) (rest := []) ⟨hx, hb, hml, hown, hts⟩ (c_X4_raw l D cy b n hn M 1 (1 + 1 + 1 + x.toNatClampNeg) (by decide) (iat_kd hcnt hT6)) (cwV 1 hts gX7_rawValue_X4_raw rfl rfl rfl (by decide +kernel) ⟨Nat.le_of_ble_eq_true rfl, Nat.le_of_ble_eq_true rfl⟩) (xPreV hP hK hX hS (by omega) (cell4 (by decide)) rfl) rfl rfl hl.1 rfl (lv_room (Nat.le_of_ble_eq_true rfl)) dX7_rawValue_9 ⟨Nat.le_of_ble_eq_true rfl, Nat.le_of_ble_eq_true rfl⟩) hS (fun H locs hP hS => ?_)
  exact xt_i hx hb hr hlocks hP hS rfl (by rw [tX7_rawValue, if_pos hT6] <;> rfl) rfl (by rw [fX7_rawValue] <;> rfl) (by unfold fX4_raw; (repeat' split) <;> rfl) (Nat.le_of_ble_eq_true rfl) (Nat.le_of_ble_eq_true rfl) dX7_rawValue_12
def fX7_readingOf (M : Mem) (x : Int32) : Int32 := fX4_reading M 1 (1 + 1 + 1 + x.toNatClampNeg)
def tX7_readingOf (M : Mem) (x : Int32) : Nat := if (tX7_instrumentAt M x) = 0 then 0 else (tX7_instrumentAt M x)
set_option maxHeartbeats 4000000 in
set_option maxRecDepth 100000 in
theorem c_X7_readingOf (l : Launch) (hl0 : l.stackTraces = false) (D : va_G) (cy : Nat → ClassId) (b n : Nat) (hn : 124 ≤ n) (M : Mem) (x : Int32) (hcnt : CNT M 1) : vx_Met l yX7_readingOf wsX7_readingOf ({ frames := 7, cells := 1, slots := 6, locals := 112 } : Room) (CP D cy b n fT M [.ref (b + 0), .int x]) (CTi D cy b n fT (tX7_readingOf M x) (fX7_readingOf M x) M) (CX D cy b n fT (tX7_readingOf M x) M) 1 6 (fr b) := by
  refine vx_ofW (cc := cX7_readingOf) (maxL := 2) (ret := (some .int)) (by decide) rfl ?_
  intro p e s m args below meth c s₁ B hml hout hv
  obtain ⟨rfl, hP, hK, hX⟩ := hv
  have hx := B.exec
  have hb := B.bytes
  have hr := B.returns
  have hts := atoms_spec (ws := wsX7_readingOf) B.pre
  have hown : s.vm.findClass RX7 = some m.cls := findClass_of_methodNamed B.named
  have hlocks := B.notSynchronized
  have lk0 := hts (.fieldLink RX7 10 "HygrometerRoom" "room" "LHygrometerRoom$Room;") (by decide +kernel)
  have inc7 : ∀ w ∈ u_ws RX7 TX7 6, w ∈ wsX7_readingOf := by decide +kernel
  have hS : va_S (fr b) s.heap s.heap [] := va_S.rf
  have hl := lv_entry ([.ref (b + 0), .int x]) (n := 2) (Nat.le_of_ble_eq_true rfl)
  rw [lg_entry_eq]
  generalize (lg_sl ([.ref (b + 0), .int x]) ++ List.replicate (2 - (lg_sl ([.ref (b + 0), .int x])).length) Slot.unset).toArray = ls at hl ⊢
  have hl : lv_has ls 2 [(0, .ref (b + 0)), (1, .int x)] := hl
  refine lv_aload_n hx hb dX7_readingOf_0 rfl (lv_at hl 0 rfl) ?_
  refine xg (C := RX7) (T := TX7) (N := 6) (v := .ref (b + 1)) hx hb hts inc7 hown hK hP (by omega) (cell7 (by decide)) rfl 0 (by decide) lk0 (fun _ h => h) rfl dX7_readingOf_1 ?_
  refine lv_aload_n hx hb dX7_readingOf_4 rfl (lv_at hl 0 rfl) ?_
  refine lv_iload_n hx hb dX7_readingOf_5 rfl (lv_at hl 1 rfl) ?_
  refine xct_q (vx_runV (As := [.int x]) (rest := [.ref (b + 1)]) ⟨hx, hb, hml, hown, hts⟩ (c_X7_instrumentAt l hl0 D cy b n hn M x hcnt) (cwV 1 hts gX7_readingOf_X7_instrumentAt rfl rfl rfl (by decide +kernel) ⟨Nat.le_of_ble_eq_true rfl, Nat.le_of_ble_eq_true rfl⟩) (xPreV hP hK hX hS (by omega) (cell7 (by decide)) rfl) rfl rfl hl.1 rfl (lv_room (Nat.le_of_ble_eq_true rfl)) dX7_readingOf_6 ⟨Nat.le_of_ble_eq_true rfl, Nat.le_of_ble_eq_true rfl⟩) hS (fun E ce q H locs hE hP hS hc hv hcl => xpass hout hlocks hc hv hcl hP hS rfl rfl (by rw [tX7_readingOf, if_neg (exn_ne hE)]; exact hE) (Nat.le_of_ble_eq_true rfl) (Nat.le_of_ble_eq_true rfl)) (fun H locs hT6 hP hS => ?_)
  refine W.eq (g2 := F0 m 9 ls (.ref (b + (1 + 1 + 1 + x.toNatClampNeg)) :: .ref (b + 1) :: [])) rfl ?_
  refine xc_i (va_runV (As := [.ref (b + (1 + 1 + 1 + x.toNatClampNeg))]) (rest := []) ⟨hx, hb, hml, hown, hts⟩ (c_X4_reading l D cy b n hn M 1 (1 + 1 + 1 + x.toNatClampNeg) (by decide) (iat_kd hcnt hT6)) (cwV 1 hts gX7_readingOf_X4_reading rfl rfl rfl (by decide +kernel) ⟨Nat.le_of_ble_eq_true rfl, Nat.le_of_ble_eq_true rfl⟩) (xPreV hP hK hX hS (by omega) (cell4 (by decide)) rfl) rfl rfl hl.1 rfl (lv_room (Nat.le_of_ble_eq_true rfl)) dX7_readingOf_9 ⟨Nat.le_of_ble_eq_true rfl, Nat.le_of_ble_eq_true rfl⟩) hS (fun H locs hP hS => ?_)
  exact xt_i hx hb hr hlocks hP hS rfl (by rw [tX7_readingOf, if_pos hT6] <;> rfl) rfl (by rw [fX7_readingOf] <;> rfl) (by unfold fX4_reading; (repeat' split) <;> rfl) (Nat.le_of_ble_eq_true rfl) (Nat.le_of_ble_eq_true rfl) dX7_readingOf_12
def fX7_errorOf (M : Mem) (x : Int32) : Int32 := (fX4_reading M 1 (1 + 1 + 1 + x.toNatClampNeg)) - (fX4_surrounding M 1 (1 + 1 + 1 + x.toNatClampNeg))
def tX7_errorOf (M : Mem) (x : Int32) : Nat := if (tX7_instrumentAt M x) = 0 then 0 else (tX7_instrumentAt M x)
set_option maxHeartbeats 4000000 in
set_option maxRecDepth 100000 in
theorem c_X7_errorOf (l : Launch) (hl0 : l.stackTraces = false) (D : va_G) (cy : Nat → ClassId) (b n : Nat) (hn : 124 ≤ n) (M : Mem) (x : Int32) (hcnt : CNT M 1) : vx_Met l yX7_errorOf wsX7_errorOf ({ frames := 7, cells := 1, slots := 6, locals := 112 } : Room) (CP D cy b n fT M [.ref (b + 0), .int x]) (CTi D cy b n fT (tX7_errorOf M x) (fX7_errorOf M x) M) (CX D cy b n fT (tX7_errorOf M x) M) 1 6 (fr b) := by
  refine vx_ofW (cc := cX7_errorOf) (maxL := 3) (ret := (some .int)) (by decide) rfl ?_
  intro p e s m args below meth c s₁ B hml hout hv
  obtain ⟨rfl, hP, hK, hX⟩ := hv
  have hx := B.exec
  have hb := B.bytes
  have hr := B.returns
  have hts := atoms_spec (ws := wsX7_errorOf) B.pre
  have hown : s.vm.findClass RX7 = some m.cls := findClass_of_methodNamed B.named
  have hlocks := B.notSynchronized
  have lk0 := hts (.fieldLink RX7 10 "HygrometerRoom" "room" "LHygrometerRoom$Room;") (by decide +kernel)
  have inc7 : ∀ w ∈ u_ws RX7 TX7 6, w ∈ wsX7_errorOf := by decide +kernel
  have hS : va_S (fr b) s.heap s.heap [] := va_S.rf
  have hl := lv_entry ([.ref (b + 0), .int x]) (n := 3) (Nat.le_of_ble_eq_true rfl)
  rw [lg_entry_eq]
  generalize (lg_sl ([.ref (b + 0), .int x]) ++ List.replicate (3 - (lg_sl ([.ref (b + 0), .int x])).length) Slot.unset).toArray = ls at hl ⊢
  have hl : lv_has ls 3 [(0, .ref (b + 0)), (1, .int x)] := hl
  refine lv_aload_n hx hb dX7_errorOf_0 rfl (lv_at hl 0 rfl) ?_
  refine lv_iload_n hx hb dX7_errorOf_1 rfl (lv_at hl 1 rfl) ?_
  refine xct_q (vx_runV (As := [.int x]) (rest := []) ⟨hx, hb, hml, hown, hts⟩ (c_X7_instrumentAt l hl0 D cy b n hn M x hcnt) (cwV 1 hts gX7_errorOf_X7_instrumentAt rfl rfl rfl (by decide +kernel) ⟨Nat.le_of_ble_eq_true rfl, Nat.le_of_ble_eq_true rfl⟩) (xPreV hP hK hX hS (by omega) (cell7 (by decide)) rfl) rfl rfl hl.1 rfl (lv_room (Nat.le_of_ble_eq_true rfl)) dX7_errorOf_2 ⟨Nat.le_of_ble_eq_true rfl, Nat.le_of_ble_eq_true rfl⟩) hS (fun E ce q H locs hE hP hS hc hv hcl => xpass hout hlocks hc hv hcl hP hS rfl rfl (by rw [tX7_errorOf, if_neg (exn_ne hE)]; exact hE) (Nat.le_of_ble_eq_true rfl) (Nat.le_of_ble_eq_true rfl)) (fun H locs hT2 hP hS => ?_)
  refine W.eq (g2 := F0 m 5 ls (.ref (b + (1 + 1 + 1 + x.toNatClampNeg)) :: [])) rfl ?_
  refine lv_astore_n (lv' := [(2, .ref (b + (1 + 1 + 1 + x.toNatClampNeg))), (0, .ref (b + 0)), (1, .int x)]) hx hb dX7_errorOf_5 rfl hl (by decide) rfl (fun ls hl => ?_)
  refine lv_aload_n hx hb dX7_errorOf_6 rfl (lv_at hl 1 rfl) ?_
  refine xg (C := RX7) (T := TX7) (N := 6) (v := .ref (b + 1)) hx hb hts inc7 hown hK hP (by omega) (cell7 (by decide)) rfl 0 (by decide) lk0 (fun _ h => h) rfl dX7_errorOf_7 ?_
  refine lv_aload_n hx hb dX7_errorOf_10 rfl (lv_at hl 0 rfl) ?_
  refine xc_i (va_runV (As := [.ref (b + (1 + 1 + 1 + x.toNatClampNeg))]) (rest := []) ⟨hx, hb, hml, hown, hts⟩ (c_X4_reading l D cy b n hn M 1 (1 + 1 + 1 + x.toNatClampNeg) (by decide) (iat_kd hcnt hT2)) (cwV 1 hts gX7_errorOf_X4_reading rfl rfl rfl (by decide +kernel) ⟨Nat.le_of_ble_eq_true rfl, Nat.le_of_ble_eq_true rfl⟩) (xPreV hP hK hX hS (by omega) (cell4 (by decide)) rfl) rfl rfl hl.1 rfl (lv_room (Nat.le_of_ble_eq_true rfl)) dX7_errorOf_11 ⟨Nat.le_of_ble_eq_true rfl, Nat.le_of_ble_eq_true rfl⟩) hS (fun H locs hP hS => ?_)
  refine lv_aload_n hx hb dX7_errorOf_14 rfl (lv_at hl 1 rfl) ?_
  refine xg (C := RX7) (T := TX7) (N := 6) (v := .ref (b + 1)) hx hb hts inc7 hown hK hP (by omega) (cell7 (by decide)) rfl 0 (by decide) lk0 (fun _ h => h) rfl dX7_errorOf_15 ?_
  refine lv_aload_n hx hb dX7_errorOf_18 rfl (lv_at hl 0 rfl) ?_
  refine xc_i (va_runV (As := [.ref (b + (1 + 1 + 1 + x.toNatClampNeg))]) (rest := [.int (fX4_reading M 1 (1 + 1 + 1 + x.toNatClampNeg))]) ⟨hx, hb, hml, hown, hts⟩ (c_X4_surrounding l D cy b n hn M 1 (1 + 1 + 1 + x.toNatClampNeg) (by decide) (iat_kd hcnt hT2)) (cwV 1 hts gX7_errorOf_X4_surrounding rfl rfl rfl (by decide +kernel) ⟨Nat.le_of_ble_eq_true rfl, Nat.le_of_ble_eq_true rfl⟩) (xPreV hP hK hX hS (by omega) (cell4 (by decide)) rfl) rfl rfl hl.1 rfl (lv_room (Nat.le_of_ble_eq_true rfl)) dX7_errorOf_19 ⟨Nat.le_of_ble_eq_true rfl, Nat.le_of_ble_eq_true rfl⟩) hS (fun H locs hP hS => ?_)
  refine lv_isub hx hb dX7_errorOf_22 ?_
  exact xt_i hx hb hr hlocks hP hS rfl (by rw [tX7_errorOf, if_pos hT2] <;> rfl) rfl (by rw [fX7_errorOf] <;> rfl) rfl (Nat.le_of_ble_eq_true rfl) (Nat.le_of_ble_eq_true rfl) dX7_errorOf_23
def fX7_isSettled (M : Mem) (x : Int32) : Int32 := fX4_settled M 1 (1 + 1 + 1 + x.toNatClampNeg)
def tX7_isSettled (M : Mem) (x : Int32) : Nat := if (tX7_instrumentAt M x) = 0 then 0 else (tX7_instrumentAt M x)
set_option maxHeartbeats 4000000 in
set_option maxRecDepth 100000 in
theorem c_X7_isSettled (l : Launch) (hl0 : l.stackTraces = false) (D : va_G) (cy : Nat → ClassId) (b n : Nat) (hn : 124 ≤ n) (M : Mem) (x : Int32) (hcnt : CNT M 1) : vx_Met l yX7_isSettled wsX7_isSettled ({ frames := 7, cells := 1, slots := 6, locals := 112 } : Room) (CP D cy b n fT M [.ref (b + 0), .int x]) (CTi D cy b n fT (tX7_isSettled M x) (fX7_isSettled M x) M) (CX D cy b n fT (tX7_isSettled M x) M) 1 6 (fr b) := by
  refine vx_ofW (cc := cX7_isSettled) (maxL := 2) (ret := (some .boolean)) (by decide) rfl ?_
  intro p e s m args below meth c s₁ B hml hout hv
  obtain ⟨rfl, hP, hK, hX⟩ := hv
  have hx := B.exec
  have hb := B.bytes
  have hr := B.returns
  have hts := atoms_spec (ws := wsX7_isSettled) B.pre
  have hown : s.vm.findClass RX7 = some m.cls := findClass_of_methodNamed B.named
  have hlocks := B.notSynchronized
  have lk0 := hts (.fieldLink RX7 10 "HygrometerRoom" "room" "LHygrometerRoom$Room;") (by decide +kernel)
  have inc7 : ∀ w ∈ u_ws RX7 TX7 6, w ∈ wsX7_isSettled := by decide +kernel
  have hS : va_S (fr b) s.heap s.heap [] := va_S.rf
  have hl := lv_entry ([.ref (b + 0), .int x]) (n := 2) (Nat.le_of_ble_eq_true rfl)
  rw [lg_entry_eq]
  generalize (lg_sl ([.ref (b + 0), .int x]) ++ List.replicate (2 - (lg_sl ([.ref (b + 0), .int x])).length) Slot.unset).toArray = ls at hl ⊢
  have hl : lv_has ls 2 [(0, .ref (b + 0)), (1, .int x)] := hl
  refine lv_aload_n hx hb dX7_isSettled_0 rfl (lv_at hl 0 rfl) ?_
  refine xg (C := RX7) (T := TX7) (N := 6) (v := .ref (b + 1)) hx hb hts inc7 hown hK hP (by omega) (cell7 (by decide)) rfl 0 (by decide) lk0 (fun _ h => h) rfl dX7_isSettled_1 ?_
  refine lv_aload_n hx hb dX7_isSettled_4 rfl (lv_at hl 0 rfl) ?_
  refine lv_iload_n hx hb dX7_isSettled_5 rfl (lv_at hl 1 rfl) ?_
  refine xct_q (vx_runV (As := [.int x]) (rest := [.ref (b + 1)]) ⟨hx, hb, hml, hown, hts⟩ (c_X7_instrumentAt l hl0 D cy b n hn M x hcnt) (cwV 1 hts gX7_isSettled_X7_instrumentAt rfl rfl rfl (by decide +kernel) ⟨Nat.le_of_ble_eq_true rfl, Nat.le_of_ble_eq_true rfl⟩) (xPreV hP hK hX hS (by omega) (cell7 (by decide)) rfl) rfl rfl hl.1 rfl (lv_room (Nat.le_of_ble_eq_true rfl)) dX7_isSettled_6 ⟨Nat.le_of_ble_eq_true rfl, Nat.le_of_ble_eq_true rfl⟩) hS (fun E ce q H locs hE hP hS hc hv hcl => xpass hout hlocks hc hv hcl hP hS rfl rfl (by rw [tX7_isSettled, if_neg (exn_ne hE)]; exact hE) (Nat.le_of_ble_eq_true rfl) (Nat.le_of_ble_eq_true rfl)) (fun H locs hT6 hP hS => ?_)
  refine W.eq (g2 := F0 m 9 ls (.ref (b + (1 + 1 + 1 + x.toNatClampNeg)) :: .ref (b + 1) :: [])) rfl ?_
  refine xc_i (va_runV (As := [.ref (b + (1 + 1 + 1 + x.toNatClampNeg))]) (rest := []) ⟨hx, hb, hml, hown, hts⟩ (c_X4_settled l D cy b n hn M 1 (1 + 1 + 1 + x.toNatClampNeg) (by decide) (iat_kd hcnt hT6)) (cwV 1 hts gX7_isSettled_X4_settled rfl rfl rfl (by decide +kernel) ⟨Nat.le_of_ble_eq_true rfl, Nat.le_of_ble_eq_true rfl⟩) (xPreV hP hK hX hS (by omega) (cell4 (by decide)) rfl) rfl rfl hl.1 rfl (lv_room (Nat.le_of_ble_eq_true rfl)) dX7_isSettled_9 ⟨Nat.le_of_ble_eq_true rfl, Nat.le_of_ble_eq_true rfl⟩) hS (fun H locs hP hS => ?_)
  exact xt_i hx hb hr hlocks hP hS rfl (by rw [tX7_isSettled, if_pos hT6] <;> rfl) rfl (by rw [fX7_isSettled] <;> rfl) (by unfold fX4_settled; (repeat' split) <;> rfl) (Nat.le_of_ble_eq_true rfl) (Nat.le_of_ble_eq_true rfl) dX7_isSettled_12
def fX7_whyUnusable (M : Mem) (x : Int32) : Int32 := fX1_flaw M (1 + 1 + 1 + x.toNatClampNeg)
def tX7_whyUnusable (M : Mem) (x : Int32) : Nat := if (tX7_instrumentAt M x) = 0 then 0 else (tX7_instrumentAt M x)
set_option maxHeartbeats 4000000 in
set_option maxRecDepth 100000 in
theorem c_X7_whyUnusable (l : Launch) (hl0 : l.stackTraces = false) (D : va_G) (cy : Nat → ClassId) (b n : Nat) (hn : 124 ≤ n) (M : Mem) (x : Int32) (hcnt : CNT M 1) : vx_Met l yX7_whyUnusable wsX7_whyUnusable ({ frames := 7, cells := 1, slots := 6, locals := 112 } : Room) (CP D cy b n fT M [.ref (b + 0), .int x]) (CTi D cy b n fT (tX7_whyUnusable M x) (fX7_whyUnusable M x) M) (CX D cy b n fT (tX7_whyUnusable M x) M) 1 6 (fr b) := by
  refine vx_ofW (cc := cX7_whyUnusable) (maxL := 2) (ret := (some .int)) (by decide) rfl ?_
  intro p e s m args below meth c s₁ B hml hout hv
  obtain ⟨rfl, hP, hK, hX⟩ := hv
  have hx := B.exec
  have hb := B.bytes
  have hr := B.returns
  have hts := atoms_spec (ws := wsX7_whyUnusable) B.pre
  have hown : s.vm.findClass RX7 = some m.cls := findClass_of_methodNamed B.named
  have hlocks := B.notSynchronized
  have hS : va_S (fr b) s.heap s.heap [] := va_S.rf
  have hl := lv_entry ([.ref (b + 0), .int x]) (n := 2) (Nat.le_of_ble_eq_true rfl)
  rw [lg_entry_eq]
  generalize (lg_sl ([.ref (b + 0), .int x]) ++ List.replicate (2 - (lg_sl ([.ref (b + 0), .int x])).length) Slot.unset).toArray = ls at hl ⊢
  have hl : lv_has ls 2 [(0, .ref (b + 0)), (1, .int x)] := hl
  refine lv_aload_n hx hb dX7_whyUnusable_0 rfl (lv_at hl 0 rfl) ?_
  refine lv_iload_n hx hb dX7_whyUnusable_1 rfl (lv_at hl 1 rfl) ?_
  refine xct_q (vx_runV (As := [.int x]) (rest := []) ⟨hx, hb, hml, hown, hts⟩ (c_X7_instrumentAt l hl0 D cy b n hn M x hcnt) (cwV 1 hts gX7_whyUnusable_X7_instrumentAt rfl rfl rfl (by decide +kernel) ⟨Nat.le_of_ble_eq_true rfl, Nat.le_of_ble_eq_true rfl⟩) (xPreV hP hK hX hS (by omega) (cell7 (by decide)) rfl) rfl rfl hl.1 rfl (lv_room (Nat.le_of_ble_eq_true rfl)) dX7_whyUnusable_2 ⟨Nat.le_of_ble_eq_true rfl, Nat.le_of_ble_eq_true rfl⟩) hS (fun E ce q H locs hE hP hS hc hv hcl => xpass hout hlocks hc hv hcl hP hS rfl rfl (by rw [tX7_whyUnusable, if_neg (exn_ne hE)]; exact hE) (Nat.le_of_ble_eq_true rfl) (Nat.le_of_ble_eq_true rfl)) (fun H locs hT2 hP hS => ?_)
  refine W.eq (g2 := F0 m 5 ls (.ref (b + (1 + 1 + 1 + x.toNatClampNeg)) :: [])) rfl ?_
  refine xc_i (va_runV (As := []) (rest := []) ⟨hx, hb, hml, hown, hts⟩ (c_X1_flaw l D cy b n hn M (1 + 1 + 1 + x.toNatClampNeg) (iat_kd hcnt hT2)) (cwV 0 hts gX7_whyUnusable_X1_flaw rfl rfl rfl (by decide +kernel) ⟨Nat.le_of_ble_eq_true rfl, Nat.le_of_ble_eq_true rfl⟩) (xPreV hP hK hX hS (kI_lt (iat_kd hcnt hT2) hn) (cell1 (iat_kd hcnt hT2)) rfl) rfl rfl hl.1 rfl (lv_room (Nat.le_of_ble_eq_true rfl)) dX7_whyUnusable_5 ⟨Nat.le_of_ble_eq_true rfl, Nat.le_of_ble_eq_true rfl⟩) hS (fun H locs hP hS => ?_)
  exact xt_i hx hb hr hlocks hP hS rfl (by rw [tX7_whyUnusable, if_pos hT2] <;> rfl) rfl (by rw [fX7_whyUnusable] <;> rfl) (by unfold fX1_flaw; (repeat' split) <;> rfl) (Nat.le_of_ble_eq_true rfl) (Nat.le_of_ble_eq_true rfl) dX7_whyUnusable_8
def fX7_weightOf (M : Mem) (x : Int32) : Int32 := fX1_weight M (1 + 1 + 1 + x.toNatClampNeg)
def tX7_weightOf (M : Mem) (x : Int32) : Nat := if (tX7_instrumentAt M x) = 0 then 0 else (tX7_instrumentAt M x)
set_option maxHeartbeats 4000000 in
set_option maxRecDepth 100000 in
theorem c_X7_weightOf (l : Launch) (hl0 : l.stackTraces = false) (D : va_G) (cy : Nat → ClassId) (b n : Nat) (hn : 124 ≤ n) (M : Mem) (x : Int32) (hcnt : CNT M 1) : vx_Met l yX7_weightOf wsX7_weightOf ({ frames := 7, cells := 1, slots := 6, locals := 112 } : Room) (CP D cy b n fT M [.ref (b + 0), .int x]) (CTi D cy b n fT (tX7_weightOf M x) (fX7_weightOf M x) M) (CX D cy b n fT (tX7_weightOf M x) M) 1 6 (fr b) := by
  refine vx_ofW (cc := cX7_weightOf) (maxL := 2) (ret := (some .int)) (by decide) rfl ?_
  intro p e s m args below meth c s₁ B hml hout hv
  obtain ⟨rfl, hP, hK, hX⟩ := hv
  have hx := B.exec
  have hb := B.bytes
  have hr := B.returns
  have hts := atoms_spec (ws := wsX7_weightOf) B.pre
  have hown : s.vm.findClass RX7 = some m.cls := findClass_of_methodNamed B.named
  have hlocks := B.notSynchronized
  have hS : va_S (fr b) s.heap s.heap [] := va_S.rf
  have hl := lv_entry ([.ref (b + 0), .int x]) (n := 2) (Nat.le_of_ble_eq_true rfl)
  rw [lg_entry_eq]
  generalize (lg_sl ([.ref (b + 0), .int x]) ++ List.replicate (2 - (lg_sl ([.ref (b + 0), .int x])).length) Slot.unset).toArray = ls at hl ⊢
  have hl : lv_has ls 2 [(0, .ref (b + 0)), (1, .int x)] := hl
  refine lv_aload_n hx hb dX7_weightOf_0 rfl (lv_at hl 0 rfl) ?_
  refine lv_iload_n hx hb dX7_weightOf_1 rfl (lv_at hl 1 rfl) ?_
  refine xct_q (vx_runV (As := [.int x]) (rest := []) ⟨hx, hb, hml, hown, hts⟩ (c_X7_instrumentAt l hl0 D cy b n hn M x hcnt) (cwV 1 hts gX7_weightOf_X7_instrumentAt rfl rfl rfl (by decide +kernel) ⟨Nat.le_of_ble_eq_true rfl, Nat.le_of_ble_eq_true rfl⟩) (xPreV hP hK hX hS (by omega) (cell7 (by decide)) rfl) rfl rfl hl.1 rfl (lv_room (Nat.le_of_ble_eq_true rfl)) dX7_weightOf_2 ⟨Nat.le_of_ble_eq_true rfl, Nat.le_of_ble_eq_true rfl⟩) hS (fun E ce q H locs hE hP hS hc hv hcl => xpass hout hlocks hc hv hcl hP hS rfl rfl (by rw [tX7_weightOf, if_neg (exn_ne hE)]; exact hE) (Nat.le_of_ble_eq_true rfl) (Nat.le_of_ble_eq_true rfl)) (fun H locs hT2 hP hS => ?_)
  refine W.eq (g2 := F0 m 5 ls (.ref (b + (1 + 1 + 1 + x.toNatClampNeg)) :: [])) rfl ?_
  refine xc_i (va_runV (As := []) (rest := []) ⟨hx, hb, hml, hown, hts⟩ (c_X1_weight l D cy b n hn M (1 + 1 + 1 + x.toNatClampNeg) (iat_kd hcnt hT2)) (cwV 0 hts gX7_weightOf_X1_weight rfl rfl rfl (by decide +kernel) ⟨Nat.le_of_ble_eq_true rfl, Nat.le_of_ble_eq_true rfl⟩) (xPreV hP hK hX hS (kI_lt (iat_kd hcnt hT2) hn) (cell1 (iat_kd hcnt hT2)) rfl) rfl rfl hl.1 rfl (lv_room (Nat.le_of_ble_eq_true rfl)) dX7_weightOf_5 ⟨Nat.le_of_ble_eq_true rfl, Nat.le_of_ble_eq_true rfl⟩) hS (fun H locs hP hS => ?_)
  exact xt_i hx hb hr hlocks hP hS rfl (by rw [tX7_weightOf, if_pos hT2] <;> rfl) rfl (by rw [fX7_weightOf] <;> rfl) (by unfold fX1_weight; (repeat' split) <;> rfl) (Nat.le_of_ble_eq_true rfl) (Nat.le_of_ble_eq_true rfl) dX7_weightOf_8
def fX7_calibrationObstacle (M : Mem) (x : Int32) : Int32 := fX4_obstacle M 1 (1 + 1 + 1 + x.toNatClampNeg)
def tX7_calibrationObstacle (M : Mem) (x : Int32) : Nat := if (tX7_instrumentAt M x) = 0 then 0 else (tX7_instrumentAt M x)
set_option maxHeartbeats 4000000 in
set_option maxRecDepth 100000 in
theorem c_X7_calibrationObstacle (l : Launch) (hl0 : l.stackTraces = false) (D : va_G) (cy : Nat → ClassId) (b n : Nat) (hn : 124 ≤ n) (M : Mem) (x : Int32) (hcnt : CNT M 1) : vx_Met l yX7_calibrationObstacle wsX7_calibrationObstacle ({ frames := 7, cells := 1, slots := 6, locals := 112 } : Room) (CP D cy b n fT M [.ref (b + 0), .int x]) (CTi D cy b n fT (tX7_calibrationObstacle M x) (fX7_calibrationObstacle M x) M) (CX D cy b n fT (tX7_calibrationObstacle M x) M) 1 6 (fr b) := by
  refine vx_ofW (cc := cX7_calibrationObstacle) (maxL := 2) (ret := (some .int)) (by decide) rfl ?_
  intro p e s m args below meth c s₁ B hml hout hv
  obtain ⟨rfl, hP, hK, hX⟩ := hv
  have hx := B.exec
  have hb := B.bytes
  have hr := B.returns
  have hts := atoms_spec (ws := wsX7_calibrationObstacle) B.pre
  have hown : s.vm.findClass RX7 = some m.cls := findClass_of_methodNamed B.named
  have hlocks := B.notSynchronized
  have lk0 := hts (.fieldLink RX7 10 "HygrometerRoom" "room" "LHygrometerRoom$Room;") (by decide +kernel)
  have inc7 : ∀ w ∈ u_ws RX7 TX7 6, w ∈ wsX7_calibrationObstacle := by decide +kernel
  have hS : va_S (fr b) s.heap s.heap [] := va_S.rf
  have hl := lv_entry ([.ref (b + 0), .int x]) (n := 2) (Nat.le_of_ble_eq_true rfl)
  rw [lg_entry_eq]
  generalize (lg_sl ([.ref (b + 0), .int x]) ++ List.replicate (2 - (lg_sl ([.ref (b + 0), .int x])).length) Slot.unset).toArray = ls at hl ⊢
  have hl : lv_has ls 2 [(0, .ref (b + 0)), (1, .int x)] := hl
  refine lv_aload_n hx hb dX7_calibrationObstacle_0 rfl (lv_at hl 0 rfl) ?_
  refine xg (C := RX7) (T := TX7) (N := 6) (v := .ref (b + 1)) hx hb hts inc7 hown hK hP (by omega) (cell7 (by decide)) rfl 0 (by decide) lk0 (fun _ h => h) rfl dX7_calibrationObstacle_1 ?_
  refine lv_aload_n hx hb dX7_calibrationObstacle_4 rfl (lv_at hl 0 rfl) ?_
  refine lv_iload_n hx hb dX7_calibrationObstacle_5 rfl (lv_at hl 1 rfl) ?_
  refine xct_q (vx_runV (As := [.int x]) (rest := [.ref (b + 1)]) ⟨hx, hb, hml, hown, hts⟩ (c_X7_instrumentAt l hl0 D cy b n hn M x hcnt) (cwV 1 hts gX7_calibrationObstacle_X7_instrumentAt rfl rfl rfl (by decide +kernel) ⟨Nat.le_of_ble_eq_true rfl, Nat.le_of_ble_eq_true rfl⟩) (xPreV hP hK hX hS (by omega) (cell7 (by decide)) rfl) rfl rfl hl.1 rfl (lv_room (Nat.le_of_ble_eq_true rfl)) dX7_calibrationObstacle_6 ⟨Nat.le_of_ble_eq_true rfl, Nat.le_of_ble_eq_true rfl⟩) hS (fun E ce q H locs hE hP hS hc hv hcl => xpass hout hlocks hc hv hcl hP hS rfl rfl (by rw [tX7_calibrationObstacle, if_neg (exn_ne hE)]; exact hE) (Nat.le_of_ble_eq_true rfl) (Nat.le_of_ble_eq_true rfl)) (fun H locs hT6 hP hS => ?_)
  refine W.eq (g2 := F0 m 9 ls (.ref (b + (1 + 1 + 1 + x.toNatClampNeg)) :: .ref (b + 1) :: [])) rfl ?_
  refine xc_i (va_runV (As := [.ref (b + (1 + 1 + 1 + x.toNatClampNeg))]) (rest := []) ⟨hx, hb, hml, hown, hts⟩ (c_X4_obstacle l D cy b n hn M 1 (1 + 1 + 1 + x.toNatClampNeg) (by decide) (iat_kd hcnt hT6)) (cwV 1 hts gX7_calibrationObstacle_X4_obstacle rfl rfl rfl (by decide +kernel) ⟨Nat.le_of_ble_eq_true rfl, Nat.le_of_ble_eq_true rfl⟩) (xPreV hP hK hX hS (by omega) (cell4 (by decide)) rfl) rfl rfl hl.1 rfl (lv_room (Nat.le_of_ble_eq_true rfl)) dX7_calibrationObstacle_9 ⟨Nat.le_of_ble_eq_true rfl, Nat.le_of_ble_eq_true rfl⟩) hS (fun H locs hP hS => ?_)
  exact xt_i hx hb hr hlocks hP hS rfl (by rw [tX7_calibrationObstacle, if_pos hT6] <;> rfl) rfl (by rw [fX7_calibrationObstacle] <;> rfl) (by unfold fX4_obstacle; (repeat' split) <;> rfl) (Nat.le_of_ble_eq_true rfl) (Nat.le_of_ble_eq_true rfl) dX7_calibrationObstacle_12
def fX7_usableInstruments (M : Mem) : Int32 := fX4_countUsable M 1
set_option maxHeartbeats 4000000 in
set_option maxRecDepth 100000 in
theorem c_X7_usableInstruments (l : Launch) (D : va_G) (cy : Nat → ClassId) (b n : Nat) (hn : 124 ≤ n) (M : Mem)  (hcnt : CNT M 1) : Met l yX7_usableInstruments wsX7_usableInstruments ({ frames := 3, cells := 0, slots := 0, locals := 62 } : Room) (CP D cy b n fT M [.ref (b + 0)]) (CQi D cy b n fT (fX7_usableInstruments M) M) 0 0 (fr b) := by
  refine Met.ofW (cc := cX7_usableInstruments) (maxL := 1) (ret := (some .int)) (by decide) rfl ?_
  intro p e s m args below meth c s₁ B hml hv
  obtain ⟨rfl, hP, hK, hX⟩ := hv
  have hx := B.exec
  have hb := B.bytes
  have hr := B.returns
  have hts := atoms_spec (ws := wsX7_usableInstruments) B.pre
  have hown : s.vm.findClass RX7 = some m.cls := findClass_of_methodNamed B.named
  have hlocks := B.notSynchronized
  have lk0 := hts (.fieldLink RX7 10 "HygrometerRoom" "room" "LHygrometerRoom$Room;") (by decide +kernel)
  have inc7 : ∀ w ∈ u_ws RX7 TX7 6, w ∈ wsX7_usableInstruments := by decide +kernel
  have hS : va_S (fr b) s.heap s.heap [] := va_S.rf
  have hl := lv_entry ([.ref (b + 0)]) (n := 1) (Nat.le_of_ble_eq_true rfl)
  rw [lg_entry_eq]
  generalize (lg_sl ([.ref (b + 0)]) ++ List.replicate (1 - (lg_sl ([.ref (b + 0)])).length) Slot.unset).toArray = ls at hl ⊢
  have hl : lv_has ls 1 [(0, .ref (b + 0))] := hl
  refine lv_aload_n hx hb dX7_usableInstruments_0 rfl (lv_at hl 0 rfl) ?_
  refine xg (C := RX7) (T := TX7) (N := 6) (v := .ref (b + 1)) hx hb hts inc7 hown hK hP (by omega) (cell7 (by decide)) rfl 0 (by decide) lk0 (fun _ h => h) rfl dX7_usableInstruments_1 ?_
  refine xc_i (va_runV (As := []) (rest := []) ⟨hx, hb, hml, hown, hts⟩ (c_X4_countUsable l D cy b n hn M 1 (by decide) (by first | assumption | omega)) (cwV 0 hts gX7_usableInstruments_X4_countUsable rfl rfl rfl (by decide +kernel) ⟨Nat.le_of_ble_eq_true rfl, Nat.le_of_ble_eq_true rfl⟩) (xPreV hP hK hX hS (by omega) (cell4 (by decide)) rfl) rfl rfl hl.1 rfl (lv_room (Nat.le_of_ble_eq_true rfl)) dX7_usableInstruments_4 ⟨Nat.le_of_ble_eq_true rfl, Nat.le_of_ble_eq_true rfl⟩) hS (fun H locs hP hS => ?_)
  exact xe_i hx hb hr hlocks hP hS rfl rfl (by rw [fX7_usableInstruments] <;> rfl) (Nat.le_of_ble_eq_true rfl) (Nat.le_of_ble_eq_true rfl) dX7_usableInstruments_7
def fX7_blend (M : Mem) : Int32 := fX4_blended M 1
set_option maxHeartbeats 4000000 in
set_option maxRecDepth 100000 in
theorem c_X7_blend (l : Launch) (D : va_G) (cy : Nat → ClassId) (b n : Nat) (hn : 124 ≤ n) (M : Mem)  (hcnt : CNT M 1) : Met l yX7_blend wsX7_blend ({ frames := 6, cells := 0, slots := 0, locals := 129 } : Room) (CP D cy b n fT M [.ref (b + 0)]) (CQi D cy b n fT (fX7_blend M) M) 0 0 (fr b) := by
  refine Met.ofW (cc := cX7_blend) (maxL := 1) (ret := (some .int)) (by decide) rfl ?_
  intro p e s m args below meth c s₁ B hml hv
  obtain ⟨rfl, hP, hK, hX⟩ := hv
  have hx := B.exec
  have hb := B.bytes
  have hr := B.returns
  have hts := atoms_spec (ws := wsX7_blend) B.pre
  have hown : s.vm.findClass RX7 = some m.cls := findClass_of_methodNamed B.named
  have hlocks := B.notSynchronized
  have lk0 := hts (.fieldLink RX7 10 "HygrometerRoom" "room" "LHygrometerRoom$Room;") (by decide +kernel)
  have inc7 : ∀ w ∈ u_ws RX7 TX7 6, w ∈ wsX7_blend := by decide +kernel
  have hS : va_S (fr b) s.heap s.heap [] := va_S.rf
  have hl := lv_entry ([.ref (b + 0)]) (n := 1) (Nat.le_of_ble_eq_true rfl)
  rw [lg_entry_eq]
  generalize (lg_sl ([.ref (b + 0)]) ++ List.replicate (1 - (lg_sl ([.ref (b + 0)])).length) Slot.unset).toArray = ls at hl ⊢
  have hl : lv_has ls 1 [(0, .ref (b + 0))] := hl
  refine lv_aload_n hx hb dX7_blend_0 rfl (lv_at hl 0 rfl) ?_
  refine xg (C := RX7) (T := TX7) (N := 6) (v := .ref (b + 1)) hx hb hts inc7 hown hK hP (by omega) (cell7 (by decide)) rfl 0 (by decide) lk0 (fun _ h => h) rfl dX7_blend_1 ?_
  refine xc_i (va_runV (As := []) (rest := []) ⟨hx, hb, hml, hown, hts⟩ (c_X4_blended l D cy b n hn M 1 (by decide) (by first | assumption | omega)) (cwV 0 hts gX7_blend_X4_blended rfl rfl rfl (by decide +kernel) ⟨Nat.le_of_ble_eq_true rfl, Nat.le_of_ble_eq_true rfl⟩) (xPreV hP hK hX hS (by omega) (cell4 (by decide)) rfl) rfl rfl hl.1 rfl (lv_room (Nat.le_of_ble_eq_true rfl)) dX7_blend_4 ⟨Nat.le_of_ble_eq_true rfl, Nat.le_of_ble_eq_true rfl⟩) hS (fun H locs hP hS => ?_)
  exact xe_i hx hb hr hlocks hP hS rfl rfl (by rw [fX7_blend] <;> rfl) (Nat.le_of_ble_eq_true rfl) (Nat.le_of_ble_eq_true rfl) dX7_blend_7
def fX7_bestInstrument (M : Mem) : Int32 := fX4_nearest M 1
set_option maxHeartbeats 4000000 in
set_option maxRecDepth 100000 in
theorem c_X7_bestInstrument (l : Launch) (D : va_G) (cy : Nat → ClassId) (b n : Nat) (hn : 124 ≤ n) (M : Mem)  (hcnt : CNT M 1) : Met l yX7_bestInstrument wsX7_bestInstrument ({ frames := 6, cells := 0, slots := 0, locals := 129 } : Room) (CP D cy b n fT M [.ref (b + 0)]) (CQi D cy b n fT (fX7_bestInstrument M) M) 0 0 (fr b) := by
  refine Met.ofW (cc := cX7_bestInstrument) (maxL := 1) (ret := (some .int)) (by decide) rfl ?_
  intro p e s m args below meth c s₁ B hml hv
  obtain ⟨rfl, hP, hK, hX⟩ := hv
  have hx := B.exec
  have hb := B.bytes
  have hr := B.returns
  have hts := atoms_spec (ws := wsX7_bestInstrument) B.pre
  have hown : s.vm.findClass RX7 = some m.cls := findClass_of_methodNamed B.named
  have hlocks := B.notSynchronized
  have lk0 := hts (.fieldLink RX7 10 "HygrometerRoom" "room" "LHygrometerRoom$Room;") (by decide +kernel)
  have inc7 : ∀ w ∈ u_ws RX7 TX7 6, w ∈ wsX7_bestInstrument := by decide +kernel
  have hS : va_S (fr b) s.heap s.heap [] := va_S.rf
  have hl := lv_entry ([.ref (b + 0)]) (n := 1) (Nat.le_of_ble_eq_true rfl)
  rw [lg_entry_eq]
  generalize (lg_sl ([.ref (b + 0)]) ++ List.replicate (1 - (lg_sl ([.ref (b + 0)])).length) Slot.unset).toArray = ls at hl ⊢
  have hl : lv_has ls 1 [(0, .ref (b + 0))] := hl
  refine lv_aload_n hx hb dX7_bestInstrument_0 rfl (lv_at hl 0 rfl) ?_
  refine xg (C := RX7) (T := TX7) (N := 6) (v := .ref (b + 1)) hx hb hts inc7 hown hK hP (by omega) (cell7 (by decide)) rfl 0 (by decide) lk0 (fun _ h => h) rfl dX7_bestInstrument_1 ?_
  refine xc_i (va_runV (As := []) (rest := []) ⟨hx, hb, hml, hown, hts⟩ (c_X4_nearest l D cy b n hn M 1 (by decide) (by first | assumption | omega)) (cwV 0 hts gX7_bestInstrument_X4_nearest rfl rfl rfl (by decide +kernel) ⟨Nat.le_of_ble_eq_true rfl, Nat.le_of_ble_eq_true rfl⟩) (xPreV hP hK hX hS (by omega) (cell4 (by decide)) rfl) rfl rfl hl.1 rfl (lv_room (Nat.le_of_ble_eq_true rfl)) dX7_bestInstrument_4 ⟨Nat.le_of_ble_eq_true rfl, Nat.le_of_ble_eq_true rfl⟩) hS (fun H locs hP hS => ?_)
  exact xe_i hx hb hr hlocks hP hS rfl rfl (by rw [fX7_bestInstrument] <;> rfl) (Nat.le_of_ble_eq_true rfl) (Nat.le_of_ble_eq_true rfl) dX7_bestInstrument_7
def fX7_slackestInstrument (M : Mem) : Int32 := fX4_slackest M 1
set_option maxHeartbeats 4000000 in
set_option maxRecDepth 100000 in
theorem c_X7_slackestInstrument (l : Launch) (D : va_G) (cy : Nat → ClassId) (b n : Nat) (hn : 124 ≤ n) (M : Mem)  (hcnt : CNT M 1) : Met l yX7_slackestInstrument wsX7_slackestInstrument ({ frames := 1, cells := 0, slots := 0, locals := 24 } : Room) (CP D cy b n fT M [.ref (b + 0)]) (CQi D cy b n fT (fX7_slackestInstrument M) M) 0 0 (fr b) := by
  refine Met.ofW (cc := cX7_slackestInstrument) (maxL := 1) (ret := (some .int)) (by decide) rfl ?_
  intro p e s m args below meth c s₁ B hml hv
  obtain ⟨rfl, hP, hK, hX⟩ := hv
  have hx := B.exec
  have hb := B.bytes
  have hr := B.returns
  have hts := atoms_spec (ws := wsX7_slackestInstrument) B.pre
  have hown : s.vm.findClass RX7 = some m.cls := findClass_of_methodNamed B.named
  have hlocks := B.notSynchronized
  have lk0 := hts (.fieldLink RX7 10 "HygrometerRoom" "room" "LHygrometerRoom$Room;") (by decide +kernel)
  have inc7 : ∀ w ∈ u_ws RX7 TX7 6, w ∈ wsX7_slackestInstrument := by decide +kernel
  have hS : va_S (fr b) s.heap s.heap [] := va_S.rf
  have hl := lv_entry ([.ref (b + 0)]) (n := 1) (Nat.le_of_ble_eq_true rfl)
  rw [lg_entry_eq]
  generalize (lg_sl ([.ref (b + 0)]) ++ List.replicate (1 - (lg_sl ([.ref (b + 0)])).length) Slot.unset).toArray = ls at hl ⊢
  have hl : lv_has ls 1 [(0, .ref (b + 0))] := hl
  refine lv_aload_n hx hb dX7_slackestInstrument_0 rfl (lv_at hl 0 rfl) ?_
  refine xg (C := RX7) (T := TX7) (N := 6) (v := .ref (b + 1)) hx hb hts inc7 hown hK hP (by omega) (cell7 (by decide)) rfl 0 (by decide) lk0 (fun _ h => h) rfl dX7_slackestInstrument_1 ?_
  refine xc_i (va_runV (As := []) (rest := []) ⟨hx, hb, hml, hown, hts⟩ (c_X4_slackest l D cy b n hn M 1 (by decide) (by first | assumption | omega)) (cwV 0 hts gX7_slackestInstrument_X4_slackest rfl rfl rfl (by decide +kernel) ⟨Nat.le_of_ble_eq_true rfl, Nat.le_of_ble_eq_true rfl⟩) (xPreV hP hK hX hS (by omega) (cell4 (by decide)) rfl) rfl rfl hl.1 rfl (lv_room (Nat.le_of_ble_eq_true rfl)) dX7_slackestInstrument_4 ⟨Nat.le_of_ble_eq_true rfl, Nat.le_of_ble_eq_true rfl⟩) hS (fun H locs hP hS => ?_)
  exact xe_i hx hb hr hlocks hP hS rfl rfl (by rw [fX7_slackestInstrument] <;> rfl) (Nat.le_of_ble_eq_true rfl) (Nat.le_of_ble_eq_true rfl) dX7_slackestInstrument_7
def fX7_disagreements (M : Mem) : Int32 := fX4_countDisagreeing M 1
set_option maxHeartbeats 4000000 in
set_option maxRecDepth 100000 in
theorem c_X7_disagreements (l : Launch) (D : va_G) (cy : Nat → ClassId) (b n : Nat) (hn : 124 ≤ n) (M : Mem)  (hcnt : CNT M 1) : Met l yX7_disagreements wsX7_disagreements ({ frames := 6, cells := 0, slots := 0, locals := 128 } : Room) (CP D cy b n fT M [.ref (b + 0)]) (CQi D cy b n fT (fX7_disagreements M) M) 0 0 (fr b) := by
  refine Met.ofW (cc := cX7_disagreements) (maxL := 1) (ret := (some .int)) (by decide) rfl ?_
  intro p e s m args below meth c s₁ B hml hv
  obtain ⟨rfl, hP, hK, hX⟩ := hv
  have hx := B.exec
  have hb := B.bytes
  have hr := B.returns
  have hts := atoms_spec (ws := wsX7_disagreements) B.pre
  have hown : s.vm.findClass RX7 = some m.cls := findClass_of_methodNamed B.named
  have hlocks := B.notSynchronized
  have lk0 := hts (.fieldLink RX7 10 "HygrometerRoom" "room" "LHygrometerRoom$Room;") (by decide +kernel)
  have inc7 : ∀ w ∈ u_ws RX7 TX7 6, w ∈ wsX7_disagreements := by decide +kernel
  have hS : va_S (fr b) s.heap s.heap [] := va_S.rf
  have hl := lv_entry ([.ref (b + 0)]) (n := 1) (Nat.le_of_ble_eq_true rfl)
  rw [lg_entry_eq]
  generalize (lg_sl ([.ref (b + 0)]) ++ List.replicate (1 - (lg_sl ([.ref (b + 0)])).length) Slot.unset).toArray = ls at hl ⊢
  have hl : lv_has ls 1 [(0, .ref (b + 0))] := hl
  refine lv_aload_n hx hb dX7_disagreements_0 rfl (lv_at hl 0 rfl) ?_
  refine xg (C := RX7) (T := TX7) (N := 6) (v := .ref (b + 1)) hx hb hts inc7 hown hK hP (by omega) (cell7 (by decide)) rfl 0 (by decide) lk0 (fun _ h => h) rfl dX7_disagreements_1 ?_
  refine xc_i (va_runV (As := []) (rest := []) ⟨hx, hb, hml, hown, hts⟩ (c_X4_countDisagreeing l D cy b n hn M 1 (by decide) (by first | assumption | omega)) (cwV 0 hts gX7_disagreements_X4_countDisagreeing rfl rfl rfl (by decide +kernel) ⟨Nat.le_of_ble_eq_true rfl, Nat.le_of_ble_eq_true rfl⟩) (xPreV hP hK hX hS (by omega) (cell4 (by decide)) rfl) rfl rfl hl.1 rfl (lv_room (Nat.le_of_ble_eq_true rfl)) dX7_disagreements_4 ⟨Nat.le_of_ble_eq_true rfl, Nat.le_of_ble_eq_true rfl⟩) hS (fun H locs hP hS => ?_)
  exact xe_i hx hb hr hlocks hP hS rfl rfl (by rw [fX7_disagreements] <;> rfl) (Nat.le_of_ble_eq_true rfl) (Nat.le_of_ble_eq_true rfl) dX7_disagreements_7
def fX7_spread (M : Mem) : Int32 := fX4_readingSpan M 1
set_option maxHeartbeats 4000000 in
set_option maxRecDepth 100000 in
theorem c_X7_spread (l : Launch) (D : va_G) (cy : Nat → ClassId) (b n : Nat) (hn : 124 ≤ n) (M : Mem)  (hcnt : CNT M 1) : Met l yX7_spread wsX7_spread ({ frames := 6, cells := 0, slots := 0, locals := 128 } : Room) (CP D cy b n fT M [.ref (b + 0)]) (CQi D cy b n fT (fX7_spread M) M) 0 0 (fr b) := by
  refine Met.ofW (cc := cX7_spread) (maxL := 1) (ret := (some .int)) (by decide) rfl ?_
  intro p e s m args below meth c s₁ B hml hv
  obtain ⟨rfl, hP, hK, hX⟩ := hv
  have hx := B.exec
  have hb := B.bytes
  have hr := B.returns
  have hts := atoms_spec (ws := wsX7_spread) B.pre
  have hown : s.vm.findClass RX7 = some m.cls := findClass_of_methodNamed B.named
  have hlocks := B.notSynchronized
  have lk0 := hts (.fieldLink RX7 10 "HygrometerRoom" "room" "LHygrometerRoom$Room;") (by decide +kernel)
  have inc7 : ∀ w ∈ u_ws RX7 TX7 6, w ∈ wsX7_spread := by decide +kernel
  have hS : va_S (fr b) s.heap s.heap [] := va_S.rf
  have hl := lv_entry ([.ref (b + 0)]) (n := 1) (Nat.le_of_ble_eq_true rfl)
  rw [lg_entry_eq]
  generalize (lg_sl ([.ref (b + 0)]) ++ List.replicate (1 - (lg_sl ([.ref (b + 0)])).length) Slot.unset).toArray = ls at hl ⊢
  have hl : lv_has ls 1 [(0, .ref (b + 0))] := hl
  refine lv_aload_n hx hb dX7_spread_0 rfl (lv_at hl 0 rfl) ?_
  refine xg (C := RX7) (T := TX7) (N := 6) (v := .ref (b + 1)) hx hb hts inc7 hown hK hP (by omega) (cell7 (by decide)) rfl 0 (by decide) lk0 (fun _ h => h) rfl dX7_spread_1 ?_
  refine xc_i (va_runV (As := []) (rest := []) ⟨hx, hb, hml, hown, hts⟩ (c_X4_readingSpan l D cy b n hn M 1 (by decide) (by first | assumption | omega)) (cwV 0 hts gX7_spread_X4_readingSpan rfl rfl rfl (by decide +kernel) ⟨Nat.le_of_ble_eq_true rfl, Nat.le_of_ble_eq_true rfl⟩) (xPreV hP hK hX hS (by omega) (cell4 (by decide)) rfl) rfl rfl hl.1 rfl (lv_room (Nat.le_of_ble_eq_true rfl)) dX7_spread_4 ⟨Nat.le_of_ble_eq_true rfl, Nat.le_of_ble_eq_true rfl⟩) hS (fun H locs hP hS => ?_)
  exact xe_i hx hb hr hlocks hP hS rfl rfl (by rw [fX7_spread] <;> rfl) (Nat.le_of_ble_eq_true rfl) (Nat.le_of_ble_eq_true rfl) dX7_spread_7
def fX7_hairDifference (M : Mem) : Int32 := xabs ((fX4_hairsHere M 1) - (fX4_hairsThatCame M 1))
set_option maxHeartbeats 4000000 in
set_option maxRecDepth 100000 in
theorem c_X7_hairDifference (l : Launch) (D : va_G) (cy : Nat → ClassId) (b n : Nat) (hn : 124 ≤ n) (M : Mem)  (hcnt : CNT M 1) : Met l yX7_hairDifference wsX7_hairDifference ({ frames := 1, cells := 0, slots := 0, locals := 22 } : Room) (CP D cy b n fT M [.ref (b + 0)]) (CQi D cy b n fT (fX7_hairDifference M) M) 0 0 (fr b) := by
  refine Met.ofW (cc := cX7_hairDifference) (maxL := 1) (ret := (some .int)) (by decide) rfl ?_
  intro p e s m args below meth c s₁ B hml hv
  obtain ⟨rfl, hP, hK, hX⟩ := hv
  have hx := B.exec
  have hb := B.bytes
  have hr := B.returns
  have hts := atoms_spec (ws := wsX7_hairDifference) B.pre
  have hown : s.vm.findClass RX7 = some m.cls := findClass_of_methodNamed B.named
  have hlocks := B.notSynchronized
  have lk0 := hts (.fieldLink RX7 10 "HygrometerRoom" "room" "LHygrometerRoom$Room;") (by decide +kernel)
  have lk1 := hts (.methodLink RX7 240 Lib.Math.abs.name) (by decide +kernel)
  have lk2 := hts (.static Lib.Math.abs.name) (by decide +kernel)
  have lk3 := hts (.initialized "java/lang/Math") (by decide +kernel)
  have lk4 := hts (.code Lib.Math.abs.name Lib.Math.abs.code 1 (some .int)) (by decide +kernel)
  have inc7 : ∀ w ∈ u_ws RX7 TX7 6, w ∈ wsX7_hairDifference := by decide +kernel
  have hS : va_S (fr b) s.heap s.heap [] := va_S.rf
  have hl := lv_entry ([.ref (b + 0)]) (n := 1) (Nat.le_of_ble_eq_true rfl)
  rw [lg_entry_eq]
  generalize (lg_sl ([.ref (b + 0)]) ++ List.replicate (1 - (lg_sl ([.ref (b + 0)])).length) Slot.unset).toArray = ls at hl ⊢
  have hl : lv_has ls 1 [(0, .ref (b + 0))] := hl
  refine lv_aload_n hx hb dX7_hairDifference_0 rfl (lv_at hl 0 rfl) ?_
  refine xg (C := RX7) (T := TX7) (N := 6) (v := .ref (b + 1)) hx hb hts inc7 hown hK hP (by omega) (cell7 (by decide)) rfl 0 (by decide) lk0 (fun _ h => h) rfl dX7_hairDifference_1 ?_
  refine xc_i (va_runV (As := []) (rest := []) ⟨hx, hb, hml, hown, hts⟩ (c_X4_hairsHere l D cy b n hn M 1 (by decide) (by first | assumption | omega)) (cwV 0 hts gX7_hairDifference_X4_hairsHere rfl rfl rfl (by decide +kernel) ⟨Nat.le_of_ble_eq_true rfl, Nat.le_of_ble_eq_true rfl⟩) (xPreV hP hK hX hS (by omega) (cell4 (by decide)) rfl) rfl rfl hl.1 rfl (lv_room (Nat.le_of_ble_eq_true rfl)) dX7_hairDifference_4 ⟨Nat.le_of_ble_eq_true rfl, Nat.le_of_ble_eq_true rfl⟩) hS (fun H locs hP hS => ?_)
  refine lv_aload_n hx hb dX7_hairDifference_7 rfl (lv_at hl 0 rfl) ?_
  refine xg (C := RX7) (T := TX7) (N := 6) (v := .ref (b + 1)) hx hb hts inc7 hown hK hP (by omega) (cell7 (by decide)) rfl 0 (by decide) lk0 (fun _ h => h) rfl dX7_hairDifference_8 ?_
  refine xc_i (va_runV (As := []) (rest := [.int (fX4_hairsHere M 1)]) ⟨hx, hb, hml, hown, hts⟩ (c_X4_hairsThatCame l D cy b n hn M 1 (by decide) (by first | assumption | omega)) (cwV 0 hts gX7_hairDifference_X4_hairsThatCame rfl rfl rfl (by decide +kernel) ⟨Nat.le_of_ble_eq_true rfl, Nat.le_of_ble_eq_true rfl⟩) (xPreV hP hK hX hS (by omega) (cell4 (by decide)) rfl) rfl rfl hl.1 rfl (lv_room (Nat.le_of_ble_eq_true rfl)) dX7_hairDifference_11 ⟨Nat.le_of_ble_eq_true rfl, Nat.le_of_ble_eq_true rfl⟩) hS (fun H locs hP hS => ?_)
  refine lv_isub hx hb dX7_hairDifference_14 ?_
  refine x_mabs hx hb (hml.trans hl.1.symm) hown lk1 lk2 lk3 lk4 (Nat.le_of_ble_eq_true rfl) (Nat.le_of_ble_eq_true rfl) (Nat.le_of_ble_eq_true rfl) (Nat.le_of_ble_eq_true rfl) dX7_hairDifference_15 ?_
  exact xe_i hx hb hr hlocks hP hS rfl rfl (by rw [fX7_hairDifference] <;> rfl) (Nat.le_of_ble_eq_true rfl) (Nat.le_of_ble_eq_true rfl) dX7_hairDifference_18

