/-! the reference's answers -/
theorem is_iv {M : Mem} {x : Int32} (hm : MNY M) (h : ¬ fX8_is M x = 0) : IV x := by
  obtain ⟨r1, r2⟩ := in_rng (M := M) h
  obtain ⟨c, hc, ec⟩ := hm
  obtain ⟨j, hj, rfl⟩ := nI_of r1
  refine ⟨r1, ?_⟩
  rw [nI_clamp hj]
  rcases Nat.lt_or_ge j c with h6 | h6
  · omega
  · exfalso
    rw [ec] at r2
    have := Int32.le_iff_toInt_le.mp r2
    rw [nI_toInt hj, show (1 : Int32) = nI 1 from rfl, pk_sub_toInt (by omega) (by omega)] at this
    omega
theorem ub_in {x : Int32} {N L : Nat} (h : UB x N) (hl : N < L) (hL : L < 2 ^ 31 := by decide) : vp_in x L := by
  obtain ⟨k, hk, rfl⟩ := h
  exact vp_in_nI (by omega) hL
theorem z_of {M : Mem} {k : Nat} : fX8_isOfHair M k = 0 ∨ fX8_isOfHair M k = 1 := by unfold fX8_isOfHair; split <;> first | exact Or.inl rfl | exact Or.inr rfl
theorem z_hs {M : Mem} {k : Nat} : fX8_hasSettled M k = 0 ∨ fX8_hasSettled M k = 1 := by unfold fX8_hasSettled; split <;> first | exact Or.inl rfl | exact Or.inr rfl
theorem nar01 {x : Int32} (h : x = 0 ∨ x = 1) : narrow .boolean (.int x) = .int x := by rcases h with h | h <;> subst h <;> rfl
theorem th_nk (M : Mem) (v : Int32) (k : Nat) (j : Nat) : mU M 124 k v 127 j = M 127 j := by rw [mU_ne _ _ _ (by decide)]
def fX8_says (M : Mem) (x : Int32) : Int32 := x
def gX8_says (M : Mem) (x : Int32) : Mem := mU M 124 2 (0 : Int32)
set_option maxHeartbeats 4000000 in
set_option maxRecDepth 100000 in
theorem c_X8_says (l : Launch) (D : va_G) (cy : Nat → ClassId) (b n : Nat) (hn : 133 ≤ n) (M : Mem) (x : Int32) (hz : x = 0 ∨ x = 1) : Met l yX8_says wsX8_says ({ frames := 0, cells := 0, slots := 0, locals := 0 } : Room) (CP D cy b n fT M [.ref (b + 124), .int x]) (CQi D cy b n fT (fX8_says M x) (gX8_says M x)) 0 0 (fr b) := by
  refine Met.ofW (cc := cX8_says) (maxL := 2) (ret := (some .boolean)) (by decide) rfl ?_
  intro p e s m args below meth c s₁ B hml hv
  obtain ⟨rfl, hP, hK, hX⟩ := hv
  have hx := B.exec
  have hb := B.bytes
  have hr := B.returns
  have hts := atoms_spec (ws := wsX8_says) B.pre
  have hown : s.vm.findClass RX8 = some m.cls := findClass_of_methodNamed B.named
  have hlocks := B.notSynchronized
  have lk0 := hts (.fieldLink RX8 53 "HygrometerRoomModel" "thrown" "I") (by decide +kernel)
  have inc8 : ∀ w ∈ u_ws RX8 TX8 22, w ∈ wsX8_says := by decide +kernel
  have hS : va_S (fr b) s.heap s.heap [] := va_S.rf
  have hl := lv_entry ([.ref (b + 124), .int x]) (n := 2) (Nat.le_of_ble_eq_true rfl)
  rw [lg_entry_eq]
  generalize (lg_sl ([.ref (b + 124), .int x]) ++ List.replicate (2 - (lg_sl ([.ref (b + 124), .int x])).length) Slot.unset).toArray = ls at hl ⊢
  have hl : lv_has ls 2 [(0, .ref (b + 124)), (1, .int x)] := hl
  refine lv_aload_n hx hb dX8_says_0 rfl (lv_at hl 0 rfl) ?_
  refine lv_iconst (v := 0) hx hb dX8_says_1 (by decide) ?_
  refine xp (C := RX8) (T := TX8) (N := 22) (ci := 8) (ty := .int) (x := (0 : Int32)) hx hb hts inc8 tyX8 tyX8_ok nmX8 hown hK hP hS (by omega) (fun _ => cell8 (by decide)) rfl 2 (by decide) rfl lk0 (fun _ h => h) rfl (tyX8_ok 2 (by decide)) rfl rfl (Nat.le_of_ble_eq_true rfl) dX8_says_2 (fun H locs hP hS => ?_)
  refine lv_iload_n hx hb dX8_says_5 rfl (lv_at hl 1 rfl) ?_
  exact xe_z hx hb hr hlocks hP hS rfl (by rw [gX8_says] <;> rfl) (by rw [fX8_says] <;> rfl) (nar01 hz) (Nat.le_of_ble_eq_true rfl) (Nat.le_of_ble_eq_true rfl) dX8_says_6
def fX8_errorKind (M : Mem) : Int32 := fX8_told M (M 124 13)
def gX8_errorKind (M : Mem) : Mem := gX8_told M (M 124 13)
set_option maxHeartbeats 4000000 in
set_option maxRecDepth 100000 in
theorem c_X8_errorKind (l : Launch) (D : va_G) (cy : Nat → ClassId) (b n : Nat) (hn : 133 ≤ n) (M : Mem)   : Met l yX8_errorKind wsX8_errorKind ({ frames := 1, cells := 0, slots := 0, locals := 21 } : Room) (CP D cy b n fT M [.ref (b + 124)]) (CQi D cy b n fT (fX8_errorKind M) (gX8_errorKind M)) 0 0 (fr b) := by
  refine Met.ofW (cc := cX8_errorKind) (maxL := 1) (ret := (some .int)) (by decide) rfl ?_
  intro p e s m args below meth c s₁ B hml hv
  obtain ⟨rfl, hP, hK, hX⟩ := hv
  have hx := B.exec
  have hb := B.bytes
  have hr := B.returns
  have hts := atoms_spec (ws := wsX8_errorKind) B.pre
  have hown : s.vm.findClass RX8 = some m.cls := findClass_of_methodNamed B.named
  have hlocks := B.notSynchronized
  have lk0 := hts (.fieldLink RX8 221 "HygrometerRoomModel" "errorKind" "I") (by decide +kernel)
  have inc8 : ∀ w ∈ u_ws RX8 TX8 22, w ∈ wsX8_errorKind := by decide +kernel
  have hS : va_S (fr b) s.heap s.heap [] := va_S.rf
  have hl := lv_entry ([.ref (b + 124)]) (n := 1) (Nat.le_of_ble_eq_true rfl)
  rw [lg_entry_eq]
  generalize (lg_sl ([.ref (b + 124)]) ++ List.replicate (1 - (lg_sl ([.ref (b + 124)])).length) Slot.unset).toArray = ls at hl ⊢
  have hl : lv_has ls 1 [(0, .ref (b + 124))] := hl
  refine lv_aload_n hx hb dX8_errorKind_0 rfl (lv_at hl 0 rfl) ?_
  refine lv_aload_n hx hb dX8_errorKind_1 rfl (lv_at hl 0 rfl) ?_
  refine xg (C := RX8) (T := TX8) (N := 22) (v := .int (M 124 13)) hx hb hts inc8 hown hK hP (by omega) (cell8 (by decide)) rfl 13 (by decide) lk0 (fun _ h => h) rfl dX8_errorKind_2 ?_
  refine xc_i (va_runV (As := [.int (M 124 13)]) (rest := []) ⟨hx, hb, hml, hown, hts⟩ (c_X8_told l D cy b n hn M (M 124 13)) (cwV 1 hts gX8_errorKind_X8_told rfl rfl rfl (by decide +kernel) ⟨Nat.le_of_ble_eq_true rfl, Nat.le_of_ble_eq_true rfl⟩) (xPreV hP hK hX hS (by omega) (cell8 (by decide)) rfl) rfl rfl hl.1 rfl (lv_room (Nat.le_of_ble_eq_true rfl)) dX8_errorKind_5 ⟨Nat.le_of_ble_eq_true rfl, Nat.le_of_ble_eq_true rfl⟩) hS (fun H locs hP hS => ?_)
  exact xe_i hx hb hr hlocks hP hS rfl (by rw [gX8_errorKind] <;> rfl) (by rw [fX8_errorKind] <;> rfl) (Nat.le_of_ble_eq_true rfl) (Nat.le_of_ble_eq_true rfl) dX8_errorKind_8
def fX8_errorOffset (M : Mem) : Int32 := fX8_told M (M 124 14)
def gX8_errorOffset (M : Mem) : Mem := gX8_told M (M 124 14)
set_option maxHeartbeats 4000000 in
set_option maxRecDepth 100000 in
theorem c_X8_errorOffset (l : Launch) (D : va_G) (cy : Nat → ClassId) (b n : Nat) (hn : 133 ≤ n) (M : Mem)   : Met l yX8_errorOffset wsX8_errorOffset ({ frames := 1, cells := 0, slots := 0, locals := 21 } : Room) (CP D cy b n fT M [.ref (b + 124)]) (CQi D cy b n fT (fX8_errorOffset M) (gX8_errorOffset M)) 0 0 (fr b) := by
  refine Met.ofW (cc := cX8_errorOffset) (maxL := 1) (ret := (some .int)) (by decide) rfl ?_
  intro p e s m args below meth c s₁ B hml hv
  obtain ⟨rfl, hP, hK, hX⟩ := hv
  have hx := B.exec
  have hb := B.bytes
  have hr := B.returns
  have hts := atoms_spec (ws := wsX8_errorOffset) B.pre
  have hown : s.vm.findClass RX8 = some m.cls := findClass_of_methodNamed B.named
  have hlocks := B.notSynchronized
  have lk0 := hts (.fieldLink RX8 35 "HygrometerRoomModel" "errorOffset" "I") (by decide +kernel)
  have inc8 : ∀ w ∈ u_ws RX8 TX8 22, w ∈ wsX8_errorOffset := by decide +kernel
  have hS : va_S (fr b) s.heap s.heap [] := va_S.rf
  have hl := lv_entry ([.ref (b + 124)]) (n := 1) (Nat.le_of_ble_eq_true rfl)
  rw [lg_entry_eq]
  generalize (lg_sl ([.ref (b + 124)]) ++ List.replicate (1 - (lg_sl ([.ref (b + 124)])).length) Slot.unset).toArray = ls at hl ⊢
  have hl : lv_has ls 1 [(0, .ref (b + 124))] := hl
  refine lv_aload_n hx hb dX8_errorOffset_0 rfl (lv_at hl 0 rfl) ?_
  refine lv_aload_n hx hb dX8_errorOffset_1 rfl (lv_at hl 0 rfl) ?_
  refine xg (C := RX8) (T := TX8) (N := 22) (v := .int (M 124 14)) hx hb hts inc8 hown hK hP (by omega) (cell8 (by decide)) rfl 14 (by decide) lk0 (fun _ h => h) rfl dX8_errorOffset_2 ?_
  refine xc_i (va_runV (As := [.int (M 124 14)]) (rest := []) ⟨hx, hb, hml, hown, hts⟩ (c_X8_told l D cy b n hn M (M 124 14)) (cwV 1 hts gX8_errorOffset_X8_told rfl rfl rfl (by decide +kernel) ⟨Nat.le_of_ble_eq_true rfl, Nat.le_of_ble_eq_true rfl⟩) (xPreV hP hK hX hS (by omega) (cell8 (by decide)) rfl) rfl rfl hl.1 rfl (lv_room (Nat.le_of_ble_eq_true rfl)) dX8_errorOffset_5 ⟨Nat.le_of_ble_eq_true rfl, Nat.le_of_ble_eq_true rfl⟩) hS (fun H locs hP hS => ?_)
  exact xe_i hx hb hr hlocks hP hS rfl (by rw [gX8_errorOffset] <;> rfl) (by rw [fX8_errorOffset] <;> rfl) (Nat.le_of_ble_eq_true rfl) (Nat.le_of_ble_eq_true rfl) dX8_errorOffset_8
def fX8_minute (M : Mem) : Int32 := fX8_told M (M 127 0)
def gX8_minute (M : Mem) : Mem := gX8_told M (M 127 0)
set_option maxHeartbeats 4000000 in
set_option maxRecDepth 100000 in
theorem c_X8_minute (l : Launch) (D : va_G) (cy : Nat → ClassId) (b n : Nat) (hn : 133 ≤ n) (M : Mem)   : Met l yX8_minute wsX8_minute ({ frames := 1, cells := 0, slots := 0, locals := 21 } : Room) (CP D cy b n fT M [.ref (b + 124)]) (CQi D cy b n fT (fX8_minute M) (gX8_minute M)) 0 0 (fr b) := by
  refine Met.ofW (cc := cX8_minute) (maxL := 1) (ret := (some .int)) (by decide) rfl ?_
  intro p e s m args below meth c s₁ B hml hv
  obtain ⟨rfl, hP, hK, hX⟩ := hv
  have hx := B.exec
  have hb := B.bytes
  have hr := B.returns
  have hts := atoms_spec (ws := wsX8_minute) B.pre
  have hown : s.vm.findClass RX8 = some m.cls := findClass_of_methodNamed B.named
  have hlocks := B.notSynchronized
  have lk0 := hts (.fieldLink RX8 16 "HygrometerRoomModel" "now" "[I") (by decide +kernel)
  have inc8 : ∀ w ∈ u_ws RX8 TX8 22, w ∈ wsX8_minute := by decide +kernel
  have hS : va_S (fr b) s.heap s.heap [] := va_S.rf
  have hl := lv_entry ([.ref (b + 124)]) (n := 1) (Nat.le_of_ble_eq_true rfl)
  rw [lg_entry_eq]
  generalize (lg_sl ([.ref (b + 124)]) ++ List.replicate (1 - (lg_sl ([.ref (b + 124)])).length) Slot.unset).toArray = ls at hl ⊢
  have hl : lv_has ls 1 [(0, .ref (b + 124))] := hl
  refine lv_aload_n hx hb dX8_minute_0 rfl (lv_at hl 0 rfl) ?_
  refine lv_aload_n hx hb dX8_minute_1 rfl (lv_at hl 0 rfl) ?_
  refine xg (C := RX8) (T := TX8) (N := 22) (v := .ref (b + 127)) hx hb hts inc8 hown hK hP (by omega) (cell8 (by decide)) rfl 3 (by decide) lk0 (fun _ h => h) rfl dX8_minute_2 ?_
  refine lv_iconst (v := 0) hx hb dX8_minute_5 (by decide) ?_
  refine xil (j := 0) hx hb hK hP (by omega) (by decide) (ixIn (a := 0) rfl (by first | decide | (simp only [lenOf]; omega) | omega) (by decide)) rfl dX8_minute_6 ?_
  refine xc_i (va_runV (As := [.int (M 127 0)]) (rest := []) ⟨hx, hb, hml, hown, hts⟩ (c_X8_told l D cy b n hn M (M 127 0)) (cwV 1 hts gX8_minute_X8_told rfl rfl rfl (by decide +kernel) ⟨Nat.le_of_ble_eq_true rfl, Nat.le_of_ble_eq_true rfl⟩) (xPreV hP hK hX hS (by omega) (cell8 (by decide)) rfl) rfl rfl hl.1 rfl (lv_room (Nat.le_of_ble_eq_true rfl)) dX8_minute_7 ⟨Nat.le_of_ble_eq_true rfl, Nat.le_of_ble_eq_true rfl⟩) hS (fun H locs hP hS => ?_)
  exact xe_i hx hb hr hlocks hP hS rfl (by rw [gX8_minute] <;> rfl) (by rw [fX8_minute] <;> rfl) (Nat.le_of_ble_eq_true rfl) (Nat.le_of_ble_eq_true rfl) dX8_minute_10
def fX8_humidity (M : Mem) : Int32 := fX8_told M (M 127 1)
def gX8_humidity (M : Mem) : Mem := gX8_told M (M 127 1)
set_option maxHeartbeats 4000000 in
set_option maxRecDepth 100000 in
theorem c_X8_humidity (l : Launch) (D : va_G) (cy : Nat → ClassId) (b n : Nat) (hn : 133 ≤ n) (M : Mem)   : Met l yX8_humidity wsX8_humidity ({ frames := 1, cells := 0, slots := 0, locals := 21 } : Room) (CP D cy b n fT M [.ref (b + 124)]) (CQi D cy b n fT (fX8_humidity M) (gX8_humidity M)) 0 0 (fr b) := by
  refine Met.ofW (cc := cX8_humidity) (maxL := 1) (ret := (some .int)) (by decide) rfl ?_
  intro p e s m args below meth c s₁ B hml hv
  obtain ⟨rfl, hP, hK, hX⟩ := hv
  have hx := B.exec
  have hb := B.bytes
  have hr := B.returns
  have hts := atoms_spec (ws := wsX8_humidity) B.pre
  have hown : s.vm.findClass RX8 = some m.cls := findClass_of_methodNamed B.named
  have hlocks := B.notSynchronized
  have lk0 := hts (.fieldLink RX8 16 "HygrometerRoomModel" "now" "[I") (by decide +kernel)
  have inc8 : ∀ w ∈ u_ws RX8 TX8 22, w ∈ wsX8_humidity := by decide +kernel
  have hS : va_S (fr b) s.heap s.heap [] := va_S.rf
  have hl := lv_entry ([.ref (b + 124)]) (n := 1) (Nat.le_of_ble_eq_true rfl)
  rw [lg_entry_eq]
  generalize (lg_sl ([.ref (b + 124)]) ++ List.replicate (1 - (lg_sl ([.ref (b + 124)])).length) Slot.unset).toArray = ls at hl ⊢
  have hl : lv_has ls 1 [(0, .ref (b + 124))] := hl
  refine lv_aload_n hx hb dX8_humidity_0 rfl (lv_at hl 0 rfl) ?_
  refine lv_aload_n hx hb dX8_humidity_1 rfl (lv_at hl 0 rfl) ?_
  refine xg (C := RX8) (T := TX8) (N := 22) (v := .ref (b + 127)) hx hb hts inc8 hown hK hP (by omega) (cell8 (by decide)) rfl 3 (by decide) lk0 (fun _ h => h) rfl dX8_humidity_2 ?_
  refine lv_iconst (v := 1) hx hb dX8_humidity_5 (by decide) ?_
  refine xil (j := 1) hx hb hK hP (by omega) (by decide) (ixIn (a := 1) rfl (by first | decide | (simp only [lenOf]; omega) | omega) (by decide)) rfl dX8_humidity_6 ?_
  refine xc_i (va_runV (As := [.int (M 127 1)]) (rest := []) ⟨hx, hb, hml, hown, hts⟩ (c_X8_told l D cy b n hn M (M 127 1)) (cwV 1 hts gX8_humidity_X8_told rfl rfl rfl (by decide +kernel) ⟨Nat.le_of_ble_eq_true rfl, Nat.le_of_ble_eq_true rfl⟩) (xPreV hP hK hX hS (by omega) (cell8 (by decide)) rfl) rfl rfl hl.1 rfl (lv_room (Nat.le_of_ble_eq_true rfl)) dX8_humidity_7 ⟨Nat.le_of_ble_eq_true rfl, Nat.le_of_ble_eq_true rfl⟩) hS (fun H locs hP hS => ?_)
  exact xe_i hx hb hr hlocks hP hS rfl (by rw [gX8_humidity] <;> rfl) (by rw [fX8_humidity] <;> rfl) (Nat.le_of_ble_eq_true rfl) (Nat.le_of_ble_eq_true rfl) dX8_humidity_10
def fX8_temperature (M : Mem) : Int32 := fX8_told M (M 127 2)
def gX8_temperature (M : Mem) : Mem := gX8_told M (M 127 2)
set_option maxHeartbeats 4000000 in
set_option maxRecDepth 100000 in
theorem c_X8_temperature (l : Launch) (D : va_G) (cy : Nat → ClassId) (b n : Nat) (hn : 133 ≤ n) (M : Mem)   : Met l yX8_temperature wsX8_temperature ({ frames := 1, cells := 0, slots := 0, locals := 21 } : Room) (CP D cy b n fT M [.ref (b + 124)]) (CQi D cy b n fT (fX8_temperature M) (gX8_temperature M)) 0 0 (fr b) := by
  refine Met.ofW (cc := cX8_temperature) (maxL := 1) (ret := (some .int)) (by decide) rfl ?_
  intro p e s m args below meth c s₁ B hml hv
  obtain ⟨rfl, hP, hK, hX⟩ := hv
  have hx := B.exec
  have hb := B.bytes
  have hr := B.returns
  have hts := atoms_spec (ws := wsX8_temperature) B.pre
  have hown : s.vm.findClass RX8 = some m.cls := findClass_of_methodNamed B.named
  have hlocks := B.notSynchronized
  have lk0 := hts (.fieldLink RX8 16 "HygrometerRoomModel" "now" "[I") (by decide +kernel)
  have inc8 : ∀ w ∈ u_ws RX8 TX8 22, w ∈ wsX8_temperature := by decide +kernel
  have hS : va_S (fr b) s.heap s.heap [] := va_S.rf
  have hl := lv_entry ([.ref (b + 124)]) (n := 1) (Nat.le_of_ble_eq_true rfl)
  rw [lg_entry_eq]
  generalize (lg_sl ([.ref (b + 124)]) ++ List.replicate (1 - (lg_sl ([.ref (b + 124)])).length) Slot.unset).toArray = ls at hl ⊢
  have hl : lv_has ls 1 [(0, .ref (b + 124))] := hl
  refine lv_aload_n hx hb dX8_temperature_0 rfl (lv_at hl 0 rfl) ?_
  refine lv_aload_n hx hb dX8_temperature_1 rfl (lv_at hl 0 rfl) ?_
  refine xg (C := RX8) (T := TX8) (N := 22) (v := .ref (b + 127)) hx hb hts inc8 hown hK hP (by omega) (cell8 (by decide)) rfl 3 (by decide) lk0 (fun _ h => h) rfl dX8_temperature_2 ?_
  refine lv_iconst (v := 2) hx hb dX8_temperature_5 (by decide) ?_
  refine xil (j := 2) hx hb hK hP (by omega) (by decide) (ixIn (a := 2) rfl (by first | decide | (simp only [lenOf]; omega) | omega) (by decide)) rfl dX8_temperature_6 ?_
  refine xc_i (va_runV (As := [.int (M 127 2)]) (rest := []) ⟨hx, hb, hml, hown, hts⟩ (c_X8_told l D cy b n hn M (M 127 2)) (cwV 1 hts gX8_temperature_X8_told rfl rfl rfl (by decide +kernel) ⟨Nat.le_of_ble_eq_true rfl, Nat.le_of_ble_eq_true rfl⟩) (xPreV hP hK hX hS (by omega) (cell8 (by decide)) rfl) rfl rfl hl.1 rfl (lv_room (Nat.le_of_ble_eq_true rfl)) dX8_temperature_7 ⟨Nat.le_of_ble_eq_true rfl, Nat.le_of_ble_eq_true rfl⟩) hS (fun H locs hP hS => ?_)
  exact xe_i hx hb hr hlocks hP hS rfl (by rw [gX8_temperature] <;> rfl) (by rw [fX8_temperature] <;> rfl) (Nat.le_of_ble_eq_true rfl) (Nat.le_of_ble_eq_true rfl) dX8_temperature_10
def fX8_skill (M : Mem) : Int32 := fX8_told M (M 127 3)
def gX8_skill (M : Mem) : Mem := gX8_told M (M 127 3)
set_option maxHeartbeats 4000000 in
set_option maxRecDepth 100000 in
theorem c_X8_skill (l : Launch) (D : va_G) (cy : Nat → ClassId) (b n : Nat) (hn : 133 ≤ n) (M : Mem)   : Met l yX8_skill wsX8_skill ({ frames := 1, cells := 0, slots := 0, locals := 21 } : Room) (CP D cy b n fT M [.ref (b + 124)]) (CQi D cy b n fT (fX8_skill M) (gX8_skill M)) 0 0 (fr b) := by
  refine Met.ofW (cc := cX8_skill) (maxL := 1) (ret := (some .int)) (by decide) rfl ?_
  intro p e s m args below meth c s₁ B hml hv
  obtain ⟨rfl, hP, hK, hX⟩ := hv
  have hx := B.exec
  have hb := B.bytes
  have hr := B.returns
  have hts := atoms_spec (ws := wsX8_skill) B.pre
  have hown : s.vm.findClass RX8 = some m.cls := findClass_of_methodNamed B.named
  have hlocks := B.notSynchronized
  have lk0 := hts (.fieldLink RX8 16 "HygrometerRoomModel" "now" "[I") (by decide +kernel)
  have inc8 : ∀ w ∈ u_ws RX8 TX8 22, w ∈ wsX8_skill := by decide +kernel
  have hS : va_S (fr b) s.heap s.heap [] := va_S.rf
  have hl := lv_entry ([.ref (b + 124)]) (n := 1) (Nat.le_of_ble_eq_true rfl)
  rw [lg_entry_eq]
  generalize (lg_sl ([.ref (b + 124)]) ++ List.replicate (1 - (lg_sl ([.ref (b + 124)])).length) Slot.unset).toArray = ls at hl ⊢
  have hl : lv_has ls 1 [(0, .ref (b + 124))] := hl
  refine lv_aload_n hx hb dX8_skill_0 rfl (lv_at hl 0 rfl) ?_
  refine lv_aload_n hx hb dX8_skill_1 rfl (lv_at hl 0 rfl) ?_
  refine xg (C := RX8) (T := TX8) (N := 22) (v := .ref (b + 127)) hx hb hts inc8 hown hK hP (by omega) (cell8 (by decide)) rfl 3 (by decide) lk0 (fun _ h => h) rfl dX8_skill_2 ?_
  refine lv_iconst (v := 3) hx hb dX8_skill_5 (by decide) ?_
  refine xil (j := 3) hx hb hK hP (by omega) (by decide) (ixIn (a := 3) rfl (by first | decide | (simp only [lenOf]; omega) | omega) (by decide)) rfl dX8_skill_6 ?_
  refine xc_i (va_runV (As := [.int (M 127 3)]) (rest := []) ⟨hx, hb, hml, hown, hts⟩ (c_X8_told l D cy b n hn M (M 127 3)) (cwV 1 hts gX8_skill_X8_told rfl rfl rfl (by decide +kernel) ⟨Nat.le_of_ble_eq_true rfl, Nat.le_of_ble_eq_true rfl⟩) (xPreV hP hK hX hS (by omega) (cell8 (by decide)) rfl) rfl rfl hl.1 rfl (lv_room (Nat.le_of_ble_eq_true rfl)) dX8_skill_7 ⟨Nat.le_of_ble_eq_true rfl, Nat.le_of_ble_eq_true rfl⟩) hS (fun H locs hP hS => ?_)
  exact xe_i hx hb hr hlocks hP hS rfl (by rw [gX8_skill] <;> rfl) (by rw [fX8_skill] <;> rfl) (Nat.le_of_ble_eq_true rfl) (Nat.le_of_ble_eq_true rfl) dX8_skill_10
def fX8_hairStock (M : Mem) : Int32 := fX8_told M (M 127 4)
def gX8_hairStock (M : Mem) : Mem := gX8_told M (M 127 4)
set_option maxHeartbeats 4000000 in
set_option maxRecDepth 100000 in
theorem c_X8_hairStock (l : Launch) (D : va_G) (cy : Nat → ClassId) (b n : Nat) (hn : 133 ≤ n) (M : Mem)   : Met l yX8_hairStock wsX8_hairStock ({ frames := 1, cells := 0, slots := 0, locals := 21 } : Room) (CP D cy b n fT M [.ref (b + 124)]) (CQi D cy b n fT (fX8_hairStock M) (gX8_hairStock M)) 0 0 (fr b) := by
  refine Met.ofW (cc := cX8_hairStock) (maxL := 1) (ret := (some .int)) (by decide) rfl ?_
  intro p e s m args below meth c s₁ B hml hv
  obtain ⟨rfl, hP, hK, hX⟩ := hv
  have hx := B.exec
  have hb := B.bytes
  have hr := B.returns
  have hts := atoms_spec (ws := wsX8_hairStock) B.pre
  have hown : s.vm.findClass RX8 = some m.cls := findClass_of_methodNamed B.named
  have hlocks := B.notSynchronized
  have lk0 := hts (.fieldLink RX8 16 "HygrometerRoomModel" "now" "[I") (by decide +kernel)
  have inc8 : ∀ w ∈ u_ws RX8 TX8 22, w ∈ wsX8_hairStock := by decide +kernel
  have hS : va_S (fr b) s.heap s.heap [] := va_S.rf
  have hl := lv_entry ([.ref (b + 124)]) (n := 1) (Nat.le_of_ble_eq_true rfl)
  rw [lg_entry_eq]
  generalize (lg_sl ([.ref (b + 124)]) ++ List.replicate (1 - (lg_sl ([.ref (b + 124)])).length) Slot.unset).toArray = ls at hl ⊢
  have hl : lv_has ls 1 [(0, .ref (b + 124))] := hl
  refine lv_aload_n hx hb dX8_hairStock_0 rfl (lv_at hl 0 rfl) ?_
  refine lv_aload_n hx hb dX8_hairStock_1 rfl (lv_at hl 0 rfl) ?_
  refine xg (C := RX8) (T := TX8) (N := 22) (v := .ref (b + 127)) hx hb hts inc8 hown hK hP (by omega) (cell8 (by decide)) rfl 3 (by decide) lk0 (fun _ h => h) rfl dX8_hairStock_2 ?_
  refine lv_iconst (v := 4) hx hb dX8_hairStock_5 (by decide) ?_
  refine xil (j := 4) hx hb hK hP (by omega) (by decide) (ixIn (a := 4) rfl (by first | decide | (simp only [lenOf]; omega) | omega) (by decide)) rfl dX8_hairStock_6 ?_
  refine xc_i (va_runV (As := [.int (M 127 4)]) (rest := []) ⟨hx, hb, hml, hown, hts⟩ (c_X8_told l D cy b n hn M (M 127 4)) (cwV 1 hts gX8_hairStock_X8_told rfl rfl rfl (by decide +kernel) ⟨Nat.le_of_ble_eq_true rfl, Nat.le_of_ble_eq_true rfl⟩) (xPreV hP hK hX hS (by omega) (cell8 (by decide)) rfl) rfl rfl hl.1 rfl (lv_room (Nat.le_of_ble_eq_true rfl)) dX8_hairStock_7 ⟨Nat.le_of_ble_eq_true rfl, Nat.le_of_ble_eq_true rfl⟩) hS (fun H locs hP hS => ?_)
  exact xe_i hx hb hr hlocks hP hS rfl (by rw [gX8_hairStock] <;> rfl) (by rw [fX8_hairStock] <;> rfl) (Nat.le_of_ble_eq_true rfl) (Nat.le_of_ble_eq_true rfl) dX8_hairStock_10
def fX8_instrumentCount (M : Mem) : Int32 := fX8_told M (M 127 5)
def gX8_instrumentCount (M : Mem) : Mem := gX8_told M (M 127 5)
set_option maxHeartbeats 4000000 in
set_option maxRecDepth 100000 in
theorem c_X8_instrumentCount (l : Launch) (D : va_G) (cy : Nat → ClassId) (b n : Nat) (hn : 133 ≤ n) (M : Mem)   : Met l yX8_instrumentCount wsX8_instrumentCount ({ frames := 1, cells := 0, slots := 0, locals := 21 } : Room) (CP D cy b n fT M [.ref (b + 124)]) (CQi D cy b n fT (fX8_instrumentCount M) (gX8_instrumentCount M)) 0 0 (fr b) := by
  refine Met.ofW (cc := cX8_instrumentCount) (maxL := 1) (ret := (some .int)) (by decide) rfl ?_
  intro p e s m args below meth c s₁ B hml hv
  obtain ⟨rfl, hP, hK, hX⟩ := hv
  have hx := B.exec
  have hb := B.bytes
  have hr := B.returns
  have hts := atoms_spec (ws := wsX8_instrumentCount) B.pre
  have hown : s.vm.findClass RX8 = some m.cls := findClass_of_methodNamed B.named
  have hlocks := B.notSynchronized
  have lk0 := hts (.fieldLink RX8 16 "HygrometerRoomModel" "now" "[I") (by decide +kernel)
  have inc8 : ∀ w ∈ u_ws RX8 TX8 22, w ∈ wsX8_instrumentCount := by decide +kernel
  have hS : va_S (fr b) s.heap s.heap [] := va_S.rf
  have hl := lv_entry ([.ref (b + 124)]) (n := 1) (Nat.le_of_ble_eq_true rfl)
  rw [lg_entry_eq]
  generalize (lg_sl ([.ref (b + 124)]) ++ List.replicate (1 - (lg_sl ([.ref (b + 124)])).length) Slot.unset).toArray = ls at hl ⊢
  have hl : lv_has ls 1 [(0, .ref (b + 124))] := hl
  refine lv_aload_n hx hb dX8_instrumentCount_0 rfl (lv_at hl 0 rfl) ?_
  refine lv_aload_n hx hb dX8_instrumentCount_1 rfl (lv_at hl 0 rfl) ?_
  refine xg (C := RX8) (T := TX8) (N := 22) (v := .ref (b + 127)) hx hb hts inc8 hown hK hP (by omega) (cell8 (by decide)) rfl 3 (by decide) lk0 (fun _ h => h) rfl dX8_instrumentCount_2 ?_
  refine lv_iconst (v := 5) hx hb dX8_instrumentCount_5 (by decide) ?_
  refine xil (j := 5) hx hb hK hP (by omega) (by decide) (ixIn (a := 5) rfl (by first | decide | (simp only [lenOf]; omega) | omega) (by decide)) rfl dX8_instrumentCount_6 ?_
  refine xc_i (va_runV (As := [.int (M 127 5)]) (rest := []) ⟨hx, hb, hml, hown, hts⟩ (c_X8_told l D cy b n hn M (M 127 5)) (cwV 1 hts gX8_instrumentCount_X8_told rfl rfl rfl (by decide +kernel) ⟨Nat.le_of_ble_eq_true rfl, Nat.le_of_ble_eq_true rfl⟩) (xPreV hP hK hX hS (by omega) (cell8 (by decide)) rfl) rfl rfl hl.1 rfl (lv_room (Nat.le_of_ble_eq_true rfl)) dX8_instrumentCount_7 ⟨Nat.le_of_ble_eq_true rfl, Nat.le_of_ble_eq_true rfl⟩) hS (fun H locs hP hS => ?_)
  exact xe_i hx hb hr hlocks hP hS rfl (by rw [gX8_instrumentCount] <;> rfl) (by rw [fX8_instrumentCount] <;> rfl) (Nat.le_of_ble_eq_true rfl) (Nat.le_of_ble_eq_true rfl) dX8_instrumentCount_10
def fX8_fixedPoint (M : Mem) (x : Int32) : Int32 := if (fX8_in M x (0 : Int32) (3 : Int32)) = 0 then (fX8_refuse M (1 : Int32)) else (fX8_told M (M 125 x.toNatClampNeg))
def gX8_fixedPoint (M : Mem) (x : Int32) : Mem := if (fX8_in M x (0 : Int32) (3 : Int32)) = 0 then (gX8_refuse M (1 : Int32)) else (gX8_told M (M 125 x.toNatClampNeg))
set_option maxHeartbeats 4000000 in
set_option maxRecDepth 100000 in
theorem c_X8_fixedPoint (l : Launch) (D : va_G) (cy : Nat → ClassId) (b n : Nat) (hn : 133 ≤ n) (M : Mem) (x : Int32)  : Met l yX8_fixedPoint wsX8_fixedPoint ({ frames := 1, cells := 0, slots := 0, locals := 22 } : Room) (CP D cy b n fT M [.ref (b + 124), .int x]) (CQi D cy b n fT (fX8_fixedPoint M x) (gX8_fixedPoint M x)) 0 0 (fr b) := by
  refine Met.ofW (cc := cX8_fixedPoint) (maxL := 2) (ret := (some .int)) (by decide) rfl ?_
  intro p e s m args below meth c s₁ B hml hv
  obtain ⟨rfl, hP, hK, hX⟩ := hv
  have hx := B.exec
  have hb := B.bytes
  have hr := B.returns
  have hts := atoms_spec (ws := wsX8_fixedPoint) B.pre
  have hown : s.vm.findClass RX8 = some m.cls := findClass_of_methodNamed B.named
  have hlocks := B.notSynchronized
  have lk0 := hts (.fieldLink RX8 7 "HygrometerRoomModel" "points" "[I") (by decide +kernel)
  have inc8 : ∀ w ∈ u_ws RX8 TX8 22, w ∈ wsX8_fixedPoint := by decide +kernel
  have hS : va_S (fr b) s.heap s.heap [] := va_S.rf
  have hl := lv_entry ([.ref (b + 124), .int x]) (n := 2) (Nat.le_of_ble_eq_true rfl)
  rw [lg_entry_eq]
  generalize (lg_sl ([.ref (b + 124), .int x]) ++ List.replicate (2 - (lg_sl ([.ref (b + 124), .int x])).length) Slot.unset).toArray = ls at hl ⊢
  have hl : lv_has ls 2 [(0, .ref (b + 124)), (1, .int x)] := hl
  refine lv_iload_n hx hb dX8_fixedPoint_0 rfl (lv_at hl 1 rfl) ?_
  refine lv_iconst (v := 0) hx hb dX8_fixedPoint_1 (by decide) ?_
  refine lv_iconst (v := 3) hx hb dX8_fixedPoint_2 (by decide) ?_
  refine xc_i (va_runS (As := [.int x, .int (0 : Int32), .int (3 : Int32)]) (rest := []) ⟨hx, hb, hml, hown, hts⟩ (c_X8_in l D cy b n hn M x (0 : Int32) (3 : Int32)) (va_cwS 3 hts gX8_fixedPoint_X8_in rfl rfl rfl (by decide +kernel) ⟨Nat.le_of_ble_eq_true rfl, Nat.le_of_ble_eq_true rfl⟩) (xPreS hP hK hX hS) rfl rfl hl.1 rfl (lv_room (Nat.le_of_ble_eq_true rfl)) dX8_fixedPoint_3 ⟨Nat.le_of_ble_eq_true rfl, Nat.le_of_ble_eq_true rfl⟩) hS (fun H locs hP hS => ?_)
  refine lv_if_ne (tgt := 15) hx hb dX8_fixedPoint_6 (by decide) (fun c6 => ?_) (fun c6 => ?_)
  · refine lv_aload_n hx hb dX8_fixedPoint_15 rfl (lv_at hl 0 rfl) ?_
    refine lv_aload_n hx hb dX8_fixedPoint_16 rfl (lv_at hl 0 rfl) ?_
    refine xg (C := RX8) (T := TX8) (N := 22) (v := .ref (b + 125)) hx hb hts inc8 hown hK hP (by omega) (cell8 (by decide)) rfl 0 (by decide) lk0 (fun _ h => h) rfl dX8_fixedPoint_17 ?_
    refine lv_iload_n hx hb dX8_fixedPoint_20 rfl (lv_at hl 1 rfl) ?_
    refine xil (j := x.toNatClampNeg) hx hb hK hP (by omega) (by decide) (ub_in (in_ub (N := 3) c6 ⟨3, by decide, rfl⟩) (by decide)) rfl dX8_fixedPoint_21 ?_
    refine xc_i (va_runV (As := [.int (M 125 x.toNatClampNeg)]) (rest := []) ⟨hx, hb, hml, hown, hts⟩ (c_X8_told l D cy b n hn M (M 125 x.toNatClampNeg)) (cwV 1 hts gX8_fixedPoint_X8_told rfl rfl rfl (by decide +kernel) ⟨Nat.le_of_ble_eq_true rfl, Nat.le_of_ble_eq_true rfl⟩) (xPreV hP hK hX hS (by omega) (cell8 (by decide)) rfl) rfl rfl hl.1 rfl (lv_room (Nat.le_of_ble_eq_true rfl)) dX8_fixedPoint_22 ⟨Nat.le_of_ble_eq_true rfl, Nat.le_of_ble_eq_true rfl⟩) hS (fun H locs hP hS => ?_)
    exact xe_i hx hb hr hlocks hP hS rfl (by rw [gX8_fixedPoint, if_neg c6] <;> rfl) (by rw [fX8_fixedPoint, if_neg c6] <;> rfl) (Nat.le_of_ble_eq_true rfl) (Nat.le_of_ble_eq_true rfl) dX8_fixedPoint_25
  · refine lv_aload_n hx hb dX8_fixedPoint_9 rfl (lv_at hl 0 rfl) ?_
    refine lv_iconst (v := 1) hx hb dX8_fixedPoint_10 (by decide) ?_
    refine xc_i (va_runV (As := [.int (1 : Int32)]) (rest := []) ⟨hx, hb, hml, hown, hts⟩ (c_X8_refuse l D cy b n hn M (1 : Int32)) (cwV 1 hts gX8_fixedPoint_X8_refuse rfl rfl rfl (by decide +kernel) ⟨Nat.le_of_ble_eq_true rfl, Nat.le_of_ble_eq_true rfl⟩) (xPreV hP hK hX hS (by omega) (cell8 (by decide)) rfl) rfl rfl hl.1 rfl (lv_room (Nat.le_of_ble_eq_true rfl)) dX8_fixedPoint_11 ⟨Nat.le_of_ble_eq_true rfl, Nat.le_of_ble_eq_true rfl⟩) hS (fun H locs hP hS => ?_)
    exact xe_i hx hb hr hlocks hP hS rfl (by rw [gX8_fixedPoint, if_pos c6] <;> rfl) (by rw [fX8_fixedPoint, if_pos c6] <;> rfl) (Nat.le_of_ble_eq_true rfl) (Nat.le_of_ble_eq_true rfl) dX8_fixedPoint_14
def fX8_isHair (M : Mem) (x : Int32) : Int32 := if (fX8_is M x) = 0 then (fX8_refuses M) else (fX8_says M (fX8_isOfHair M x.toNatClampNeg))
def gX8_isHair (M : Mem) (x : Int32) : Mem := if (fX8_is M x) = 0 then (gX8_refuses M) else (gX8_says M (fX8_isOfHair M x.toNatClampNeg))
set_option maxHeartbeats 4000000 in
set_option maxRecDepth 100000 in
theorem c_X8_isHair (l : Launch) (D : va_G) (cy : Nat → ClassId) (b n : Nat) (hn : 133 ≤ n) (M : Mem) (x : Int32) (hmy : MNY M) : Met l yX8_isHair wsX8_isHair ({ frames := 2, cells := 0, slots := 0, locals := 43 } : Room) (CP D cy b n fT M [.ref (b + 124), .int x]) (CQi D cy b n fT (fX8_isHair M x) (gX8_isHair M x)) 0 0 (fr b) := by
  refine Met.ofW (cc := cX8_isHair) (maxL := 2) (ret := (some .boolean)) (by decide) rfl ?_
  intro p e s m args below meth c s₁ B hml hv
  obtain ⟨rfl, hP, hK, hX⟩ := hv
  have hx := B.exec
  have hb := B.bytes
  have hr := B.returns
  have hts := atoms_spec (ws := wsX8_isHair) B.pre
  have hown : s.vm.findClass RX8 = some m.cls := findClass_of_methodNamed B.named
  have hlocks := B.notSynchronized
  have hS : va_S (fr b) s.heap s.heap [] := va_S.rf
  have hl := lv_entry ([.ref (b + 124), .int x]) (n := 2) (Nat.le_of_ble_eq_true rfl)
  rw [lg_entry_eq]
  generalize (lg_sl ([.ref (b + 124), .int x]) ++ List.replicate (2 - (lg_sl ([.ref (b + 124), .int x])).length) Slot.unset).toArray = ls at hl ⊢
  have hl : lv_has ls 2 [(0, .ref (b + 124)), (1, .int x)] := hl
  refine lv_aload_n hx hb dX8_isHair_0 rfl (lv_at hl 0 rfl) ?_
  refine lv_iload_n hx hb dX8_isHair_1 rfl (lv_at hl 1 rfl) ?_
  refine xc_i (va_runV (As := [.int x]) (rest := []) ⟨hx, hb, hml, hown, hts⟩ (c_X8_is l D cy b n hn M x) (cwV 1 hts gX8_isHair_X8_is rfl rfl rfl (by decide +kernel) ⟨Nat.le_of_ble_eq_true rfl, Nat.le_of_ble_eq_true rfl⟩) (xPreV hP hK hX hS (by omega) (cell8 (by decide)) rfl) rfl rfl hl.1 rfl (lv_room (Nat.le_of_ble_eq_true rfl)) dX8_isHair_2 ⟨Nat.le_of_ble_eq_true rfl, Nat.le_of_ble_eq_true rfl⟩) hS (fun H locs hP hS => ?_)
  refine lv_if_ne (tgt := 13) hx hb dX8_isHair_5 (by decide) (fun c5 => ?_) (fun c5 => ?_)
  · refine lv_aload_n hx hb dX8_isHair_13 rfl (lv_at hl 0 rfl) ?_
    refine lv_aload_n hx hb dX8_isHair_14 rfl (lv_at hl 0 rfl) ?_
    refine lv_iload_n hx hb dX8_isHair_15 rfl (lv_at hl 1 rfl) ?_
    refine W.eq (g2 := F0 m 16 ls (.int (nI (x.toNatClampNeg)) :: .ref (b + 124) :: .ref (b + 124) :: [])) (congrArg (fun z => F0 m 16 ls (.int z :: .ref (b + 124) :: .ref (b + 124) :: [])) (nat_of (is_iv hmy c5).1)) ?_
    refine xc_i (va_runV (As := [.int (nI (x.toNatClampNeg))]) (rest := [.ref (b + 124)]) ⟨hx, hb, hml, hown, hts⟩ (c_X8_isOfHair l D cy b n hn M x.toNatClampNeg (is_iv hmy c5).2) (cwV 1 hts gX8_isHair_X8_isOfHair rfl rfl rfl (by decide +kernel) ⟨Nat.le_of_ble_eq_true rfl, Nat.le_of_ble_eq_true rfl⟩) (xPreV hP hK hX hS (by omega) (cell8 (by decide)) rfl) rfl rfl hl.1 rfl (lv_room (Nat.le_of_ble_eq_true rfl)) dX8_isHair_16 ⟨Nat.le_of_ble_eq_true rfl, Nat.le_of_ble_eq_true rfl⟩) hS (fun H locs hP hS => ?_)
    refine xc_i (va_runV (As := [.int (fX8_isOfHair M x.toNatClampNeg)]) (rest := []) ⟨hx, hb, hml, hown, hts⟩ (c_X8_says l D cy b n hn M (fX8_isOfHair M x.toNatClampNeg) z_of) (cwV 1 hts gX8_isHair_X8_says rfl rfl rfl (by decide +kernel) ⟨Nat.le_of_ble_eq_true rfl, Nat.le_of_ble_eq_true rfl⟩) (xPreV hP hK hX hS (by omega) (cell8 (by decide)) rfl) rfl rfl hl.1 rfl (lv_room (Nat.le_of_ble_eq_true rfl)) dX8_isHair_19 ⟨Nat.le_of_ble_eq_true rfl, Nat.le_of_ble_eq_true rfl⟩) hS (fun H locs hP hS => ?_)
    exact xe_z hx hb hr hlocks hP hS rfl (by rw [gX8_isHair, if_neg c5] <;> rfl) (by rw [fX8_isHair, if_neg c5] <;> rfl) (by unfold fX8_says; exact nar01 (by first | exact z_of | exact z_hs)) (Nat.le_of_ble_eq_true rfl) (Nat.le_of_ble_eq_true rfl) dX8_isHair_22
  · refine lv_aload_n hx hb dX8_isHair_8 rfl (lv_at hl 0 rfl) ?_
    refine xc_i (va_runV (As := []) (rest := []) ⟨hx, hb, hml, hown, hts⟩ (c_X8_refuses l D cy b n hn M ) (cwV 0 hts gX8_isHair_X8_refuses rfl rfl rfl (by decide +kernel) ⟨Nat.le_of_ble_eq_true rfl, Nat.le_of_ble_eq_true rfl⟩) (xPreV hP hK hX hS (by omega) (cell8 (by decide)) rfl) rfl rfl hl.1 rfl (lv_room (Nat.le_of_ble_eq_true rfl)) dX8_isHair_9 ⟨Nat.le_of_ble_eq_true rfl, Nat.le_of_ble_eq_true rfl⟩) hS (fun H locs hP hS => ?_)
    exact xe_z hx hb hr hlocks hP hS rfl (by rw [gX8_isHair, if_pos c5] <;> rfl) (by rw [fX8_isHair, if_pos c5] <;> rfl) (by unfold fX8_refuses; (repeat' split) <;> rfl) (Nat.le_of_ble_eq_true rfl) (Nat.le_of_ble_eq_true rfl) dX8_isHair_12
def fX8_ofKind (M : Mem) (x : Int32) (y : Int32) (z : Nat) : Int32 := if (fX8_is M x) = 0 then (fX8_refuse M (1 : Int32)) else (if (fX8_isOfHair M x.toNatClampNeg) = y then (fX8_told M (M 127 (8 * x.toNatClampNeg + z + 8))) else (fX8_told M ((-1) : Int32)))
def gX8_ofKind (M : Mem) (x : Int32) (y : Int32) (z : Nat) : Mem := if (fX8_is M x) = 0 then (gX8_refuse M (1 : Int32)) else (if (fX8_isOfHair M x.toNatClampNeg) = y then (gX8_told M (M 127 (8 * x.toNatClampNeg + z + 8))) else (gX8_told M ((-1) : Int32)))
set_option maxHeartbeats 4000000 in
set_option maxRecDepth 100000 in
theorem c_X8_ofKind (l : Launch) (D : va_G) (cy : Nat → ClassId) (b n : Nat) (hn : 133 ≤ n) (M : Mem) (x : Int32) (y : Int32) (z : Nat) (hmy : MNY M) (hz8 : z < 8) : Met l yX8_ofKind wsX8_ofKind ({ frames := 2, cells := 0, slots := 0, locals := 43 } : Room) (CP D cy b n fT M [.ref (b + 124), .int x, .int y, .int (nI (z))]) (CQi D cy b n fT (fX8_ofKind M x y z) (gX8_ofKind M x y z)) 0 0 (fr b) := by
  refine Met.ofW (cc := cX8_ofKind) (maxL := 4) (ret := (some .int)) (by decide) rfl ?_
  intro p e s m args below meth c s₁ B hml hv
  obtain ⟨rfl, hP, hK, hX⟩ := hv
  have hx := B.exec
  have hb := B.bytes
  have hr := B.returns
  have hts := atoms_spec (ws := wsX8_ofKind) B.pre
  have hown : s.vm.findClass RX8 = some m.cls := findClass_of_methodNamed B.named
  have hlocks := B.notSynchronized
  have lk0 := hts (.fieldLink RX8 16 "HygrometerRoomModel" "now" "[I") (by decide +kernel)
  have inc8 : ∀ w ∈ u_ws RX8 TX8 22, w ∈ wsX8_ofKind := by decide +kernel
  have hS : va_S (fr b) s.heap s.heap [] := va_S.rf
  have hl := lv_entry ([.ref (b + 124), .int x, .int y, .int (nI (z))]) (n := 4) (Nat.le_of_ble_eq_true rfl)
  rw [lg_entry_eq]
  generalize (lg_sl ([.ref (b + 124), .int x, .int y, .int (nI (z))]) ++ List.replicate (4 - (lg_sl ([.ref (b + 124), .int x, .int y, .int (nI (z))])).length) Slot.unset).toArray = ls at hl ⊢
  have hl : lv_has ls 4 [(0, .ref (b + 124)), (1, .int x), (2, .int y), (3, .int (nI (z)))] := hl
  refine lv_aload_n hx hb dX8_ofKind_0 rfl (lv_at hl 0 rfl) ?_
  refine lv_iload_n hx hb dX8_ofKind_1 rfl (lv_at hl 1 rfl) ?_
  refine xc_i (va_runV (As := [.int x]) (rest := []) ⟨hx, hb, hml, hown, hts⟩ (c_X8_is l D cy b n hn M x) (cwV 1 hts gX8_ofKind_X8_is rfl rfl rfl (by decide +kernel) ⟨Nat.le_of_ble_eq_true rfl, Nat.le_of_ble_eq_true rfl⟩) (xPreV hP hK hX hS (by omega) (cell8 (by decide)) rfl) rfl rfl hl.1 rfl (lv_room (Nat.le_of_ble_eq_true rfl)) dX8_ofKind_2 ⟨Nat.le_of_ble_eq_true rfl, Nat.le_of_ble_eq_true rfl⟩) hS (fun H locs hP hS => ?_)
  refine lv_if_ne (tgt := 14) hx hb dX8_ofKind_5 (by decide) (fun c5 => ?_) (fun c5 => ?_)
  · refine lv_aload_n hx hb dX8_ofKind_14 rfl (lv_at hl 0 rfl) ?_
    refine lv_iload_n hx hb dX8_ofKind_15 rfl (lv_at hl 1 rfl) ?_
    refine W.eq (g2 := F0 m 16 ls (.int (nI (x.toNatClampNeg)) :: .ref (b + 124) :: [])) (congrArg (fun z => F0 m 16 ls (.int z :: .ref (b + 124) :: [])) (nat_of (is_iv hmy c5).1)) ?_
    refine xc_i (va_runV (As := [.int (nI (x.toNatClampNeg))]) (rest := []) ⟨hx, hb, hml, hown, hts⟩ (c_X8_isOfHair l D cy b n hn M x.toNatClampNeg (is_iv hmy c5).2) (cwV 1 hts gX8_ofKind_X8_isOfHair rfl rfl rfl (by decide +kernel) ⟨Nat.le_of_ble_eq_true rfl, Nat.le_of_ble_eq_true rfl⟩) (xPreV hP hK hX hS (by omega) (cell8 (by decide)) rfl) rfl rfl hl.1 rfl (lv_room (Nat.le_of_ble_eq_true rfl)) dX8_ofKind_16 ⟨Nat.le_of_ble_eq_true rfl, Nat.le_of_ble_eq_true rfl⟩) hS (fun H locs hP hS => ?_)
    refine lv_iload_n hx hb dX8_ofKind_19 rfl (lv_at hl 2 rfl) ?_
    refine lv_icmp_eq (tgt := 29) hx hb dX8_ofKind_20 (by decide) (fun c20 => ?_) (fun c20 => ?_)
    · refine lv_aload_n hx hb dX8_ofKind_29 rfl (lv_at hl 0 rfl) ?_
      refine lv_aload_n hx hb dX8_ofKind_30 rfl (lv_at hl 0 rfl) ?_
      refine xg (C := RX8) (T := TX8) (N := 22) (v := .ref (b + 127)) hx hb hts inc8 hown hK hP (by omega) (cell8 (by decide)) rfl 3 (by decide) lk0 (fun _ h => h) rfl dX8_ofKind_31 ?_
      refine lv_iload_n hx hb dX8_ofKind_34 rfl (lv_at hl 1 rfl) ?_
      have hk6 := (is_iv hmy c5).2
      refine W.eq (g2 := F0 m 35 ls (.int (nI (x.toNatClampNeg)) :: .ref (b + 127) :: .ref (b + 124) :: [])) (congrArg (fun z => F0 m 35 ls (.int z :: .ref (b + 127) :: .ref (b + 124) :: [])) (nat_of (is_iv hmy c5).1)) ?_
      refine xc_i (va_runS (As := [.int (nI (x.toNatClampNeg))]) (rest := [.ref (b + 127), .ref (b + 124)]) ⟨hx, hb, hml, hown, hts⟩ (c_X8_i l D cy b n hn M x.toNatClampNeg) (va_cwS 1 hts gX8_ofKind_X8_i rfl rfl rfl (by decide +kernel) ⟨Nat.le_of_ble_eq_true rfl, Nat.le_of_ble_eq_true rfl⟩) (xPreS hP hK hX hS) rfl rfl hl.1 rfl (lv_room (Nat.le_of_ble_eq_true rfl)) dX8_ofKind_35 ⟨Nat.le_of_ble_eq_true rfl, Nat.le_of_ble_eq_true rfl⟩) hS (fun H locs hP hS => ?_)
      refine W.eq (g2 := F0 m 38 ls (.int (nI (8 * x.toNatClampNeg + 8)) :: .ref (b + 127) :: .ref (b + 124) :: [])) (congrArg (fun z => F0 m 38 ls (.int z :: .ref (b + 127) :: .ref (b + 124) :: [])) (show fX8_i M x.toNatClampNeg = nI (8 * x.toNatClampNeg + 8) from by unfold fX8_i; exact congrArg nI (by omega))) ?_
      refine lv_iload_n hx hb dX8_ofKind_38 rfl (lv_at hl 3 rfl) ?_
      refine xadd (z := nI (8 * x.toNatClampNeg + z + 8)) hx hb (ixAdd (a := 8 * x.toNatClampNeg + 8) (c := z) (d := 8 * x.toNatClampNeg + z + 8) rfl rfl (by omega)) dX8_ofKind_39 ?_
      refine xil (j := 8 * x.toNatClampNeg + z + 8) hx hb hK hP (by omega) (by decide) (ixIn (a := 8 * x.toNatClampNeg + z + 8) rfl (by first | decide | (simp only [lenOf]; omega) | omega) (by decide)) (ixAt (a := 8 * x.toNatClampNeg + z + 8) rfl (by omega)) dX8_ofKind_40 ?_
      refine xc_i (va_runV (As := [.int (M 127 (8 * x.toNatClampNeg + z + 8))]) (rest := []) ⟨hx, hb, hml, hown, hts⟩ (c_X8_told l D cy b n hn M (M 127 (8 * x.toNatClampNeg + z + 8))) (cwV 1 hts gX8_ofKind_X8_told rfl rfl rfl (by decide +kernel) ⟨Nat.le_of_ble_eq_true rfl, Nat.le_of_ble_eq_true rfl⟩) (xPreV hP hK hX hS (by omega) (cell8 (by decide)) rfl) rfl rfl hl.1 rfl (lv_room (Nat.le_of_ble_eq_true rfl)) dX8_ofKind_41 ⟨Nat.le_of_ble_eq_true rfl, Nat.le_of_ble_eq_true rfl⟩) hS (fun H locs hP hS => ?_)
      exact xe_i hx hb hr hlocks hP hS rfl (by rw [gX8_ofKind, if_neg c5, if_pos c20] <;> rfl) (by rw [fX8_ofKind, if_neg c5, if_pos c20] <;> rfl) (Nat.le_of_ble_eq_true rfl) (Nat.le_of_ble_eq_true rfl) dX8_ofKind_44
    · refine lv_aload_n hx hb dX8_ofKind_23 rfl (lv_at hl 0 rfl) ?_
      refine lv_iconst (v := (-1)) hx hb dX8_ofKind_24 (by decide) ?_
      refine xc_i (va_runV (As := [.int ((-1) : Int32)]) (rest := []) ⟨hx, hb, hml, hown, hts⟩ (c_X8_told l D cy b n hn M ((-1) : Int32)) (cwV 1 hts gX8_ofKind_X8_told rfl rfl rfl (by decide +kernel) ⟨Nat.le_of_ble_eq_true rfl, Nat.le_of_ble_eq_true rfl⟩) (xPreV hP hK hX hS (by omega) (cell8 (by decide)) rfl) rfl rfl hl.1 rfl (lv_room (Nat.le_of_ble_eq_true rfl)) dX8_ofKind_25 ⟨Nat.le_of_ble_eq_true rfl, Nat.le_of_ble_eq_true rfl⟩) hS (fun H locs hP hS => ?_)
      exact xe_i hx hb hr hlocks hP hS rfl (by rw [gX8_ofKind, if_neg c5, if_neg c20] <;> rfl) (by rw [fX8_ofKind, if_neg c5, if_neg c20] <;> rfl) (Nat.le_of_ble_eq_true rfl) (Nat.le_of_ble_eq_true rfl) dX8_ofKind_28
  · refine lv_aload_n hx hb dX8_ofKind_8 rfl (lv_at hl 0 rfl) ?_
    refine lv_iconst (v := 1) hx hb dX8_ofKind_9 (by decide) ?_
    refine xc_i (va_runV (As := [.int (1 : Int32)]) (rest := []) ⟨hx, hb, hml, hown, hts⟩ (c_X8_refuse l D cy b n hn M (1 : Int32)) (cwV 1 hts gX8_ofKind_X8_refuse rfl rfl rfl (by decide +kernel) ⟨Nat.le_of_ble_eq_true rfl, Nat.le_of_ble_eq_true rfl⟩) (xPreV hP hK hX hS (by omega) (cell8 (by decide)) rfl) rfl rfl hl.1 rfl (lv_room (Nat.le_of_ble_eq_true rfl)) dX8_ofKind_10 ⟨Nat.le_of_ble_eq_true rfl, Nat.le_of_ble_eq_true rfl⟩) hS (fun H locs hP hS => ?_)
    exact xe_i hx hb hr hlocks hP hS rfl (by rw [gX8_ofKind, if_pos c5] <;> rfl) (by rw [fX8_ofKind, if_pos c5] <;> rfl) (Nat.le_of_ble_eq_true rfl) (Nat.le_of_ble_eq_true rfl) dX8_ofKind_13
def fX8_hairsOf (M : Mem) (x : Int32) : Int32 := fX8_ofKind M x (1 : Int32) 1
def gX8_hairsOf (M : Mem) (x : Int32) : Mem := gX8_ofKind M x (1 : Int32) 1
set_option maxHeartbeats 4000000 in
set_option maxRecDepth 100000 in
theorem c_X8_hairsOf (l : Launch) (D : va_G) (cy : Nat → ClassId) (b n : Nat) (hn : 133 ≤ n) (M : Mem) (x : Int32) (hmy : MNY M) : Met l yX8_hairsOf wsX8_hairsOf ({ frames := 3, cells := 0, slots := 0, locals := 66 } : Room) (CP D cy b n fT M [.ref (b + 124), .int x]) (CQi D cy b n fT (fX8_hairsOf M x) (gX8_hairsOf M x)) 0 0 (fr b) := by
  refine Met.ofW (cc := cX8_hairsOf) (maxL := 2) (ret := (some .int)) (by decide) rfl ?_
  intro p e s m args below meth c s₁ B hml hv
  obtain ⟨rfl, hP, hK, hX⟩ := hv
  have hx := B.exec
  have hb := B.bytes
  have hr := B.returns
  have hts := atoms_spec (ws := wsX8_hairsOf) B.pre
  have hown : s.vm.findClass RX8 = some m.cls := findClass_of_methodNamed B.named
  have hlocks := B.notSynchronized
  have hS : va_S (fr b) s.heap s.heap [] := va_S.rf
  have hl := lv_entry ([.ref (b + 124), .int x]) (n := 2) (Nat.le_of_ble_eq_true rfl)
  rw [lg_entry_eq]
  generalize (lg_sl ([.ref (b + 124), .int x]) ++ List.replicate (2 - (lg_sl ([.ref (b + 124), .int x])).length) Slot.unset).toArray = ls at hl ⊢
  have hl : lv_has ls 2 [(0, .ref (b + 124)), (1, .int x)] := hl
  refine lv_aload_n hx hb dX8_hairsOf_0 rfl (lv_at hl 0 rfl) ?_
  refine lv_iload_n hx hb dX8_hairsOf_1 rfl (lv_at hl 1 rfl) ?_
  refine lv_iconst (v := 1) hx hb dX8_hairsOf_2 (by decide) ?_
  refine lv_iconst (v := 1) hx hb dX8_hairsOf_3 (by decide) ?_
  refine xc_i (va_runV (As := [.int x, .int (1 : Int32), .int (1 : Int32)]) (rest := []) ⟨hx, hb, hml, hown, hts⟩ (c_X8_ofKind l D cy b n hn M x (1 : Int32) 1 hmy (by decide)) (cwV 3 hts gX8_hairsOf_X8_ofKind rfl rfl rfl (by decide +kernel) ⟨Nat.le_of_ble_eq_true rfl, Nat.le_of_ble_eq_true rfl⟩) (xPreV hP hK hX hS (by omega) (cell8 (by decide)) rfl) rfl rfl hl.1 rfl (lv_room (Nat.le_of_ble_eq_true rfl)) dX8_hairsOf_4 ⟨Nat.le_of_ble_eq_true rfl, Nat.le_of_ble_eq_true rfl⟩) hS (fun H locs hP hS => ?_)
  exact xe_i hx hb hr hlocks hP hS rfl (by rw [gX8_hairsOf] <;> rfl) (by rw [fX8_hairsOf] <;> rfl) (Nat.le_of_ble_eq_true rfl) (Nat.le_of_ble_eq_true rfl) dX8_hairsOf_7
def fX8_brokenOf (M : Mem) (x : Int32) : Int32 := fX8_ofKind M x (1 : Int32) 2
def gX8_brokenOf (M : Mem) (x : Int32) : Mem := gX8_ofKind M x (1 : Int32) 2
set_option maxHeartbeats 4000000 in
set_option maxRecDepth 100000 in
theorem c_X8_brokenOf (l : Launch) (D : va_G) (cy : Nat → ClassId) (b n : Nat) (hn : 133 ≤ n) (M : Mem) (x : Int32) (hmy : MNY M) : Met l yX8_brokenOf wsX8_brokenOf ({ frames := 3, cells := 0, slots := 0, locals := 66 } : Room) (CP D cy b n fT M [.ref (b + 124), .int x]) (CQi D cy b n fT (fX8_brokenOf M x) (gX8_brokenOf M x)) 0 0 (fr b) := by
  refine Met.ofW (cc := cX8_brokenOf) (maxL := 2) (ret := (some .int)) (by decide) rfl ?_
  intro p e s m args below meth c s₁ B hml hv
  obtain ⟨rfl, hP, hK, hX⟩ := hv
  have hx := B.exec
  have hb := B.bytes
  have hr := B.returns
  have hts := atoms_spec (ws := wsX8_brokenOf) B.pre
  have hown : s.vm.findClass RX8 = some m.cls := findClass_of_methodNamed B.named
  have hlocks := B.notSynchronized
  have hS : va_S (fr b) s.heap s.heap [] := va_S.rf
  have hl := lv_entry ([.ref (b + 124), .int x]) (n := 2) (Nat.le_of_ble_eq_true rfl)
  rw [lg_entry_eq]
  generalize (lg_sl ([.ref (b + 124), .int x]) ++ List.replicate (2 - (lg_sl ([.ref (b + 124), .int x])).length) Slot.unset).toArray = ls at hl ⊢
  have hl : lv_has ls 2 [(0, .ref (b + 124)), (1, .int x)] := hl
  refine lv_aload_n hx hb dX8_brokenOf_0 rfl (lv_at hl 0 rfl) ?_
  refine lv_iload_n hx hb dX8_brokenOf_1 rfl (lv_at hl 1 rfl) ?_
  refine lv_iconst (v := 1) hx hb dX8_brokenOf_2 (by decide) ?_
  refine lv_iconst (v := 2) hx hb dX8_brokenOf_3 (by decide) ?_
  refine xc_i (va_runV (As := [.int x, .int (1 : Int32), .int (2 : Int32)]) (rest := []) ⟨hx, hb, hml, hown, hts⟩ (c_X8_ofKind l D cy b n hn M x (1 : Int32) 2 hmy (by decide)) (cwV 3 hts gX8_brokenOf_X8_ofKind rfl rfl rfl (by decide +kernel) ⟨Nat.le_of_ble_eq_true rfl, Nat.le_of_ble_eq_true rfl⟩) (xPreV hP hK hX hS (by omega) (cell8 (by decide)) rfl) rfl rfl hl.1 rfl (lv_room (Nat.le_of_ble_eq_true rfl)) dX8_brokenOf_4 ⟨Nat.le_of_ble_eq_true rfl, Nat.le_of_ble_eq_true rfl⟩) hS (fun H locs hP hS => ?_)
  exact xe_i hx hb hr hlocks hP hS rfl (by rw [gX8_brokenOf] <;> rfl) (by rw [fX8_brokenOf] <;> rfl) (Nat.le_of_ble_eq_true rfl) (Nat.le_of_ble_eq_true rfl) dX8_brokenOf_7
def fX8_wetnessOf (M : Mem) (x : Int32) : Int32 := fX8_ofKind M x (1 : Int32) 3
def gX8_wetnessOf (M : Mem) (x : Int32) : Mem := gX8_ofKind M x (1 : Int32) 3
set_option maxHeartbeats 4000000 in
set_option maxRecDepth 100000 in
theorem c_X8_wetnessOf (l : Launch) (D : va_G) (cy : Nat → ClassId) (b n : Nat) (hn : 133 ≤ n) (M : Mem) (x : Int32) (hmy : MNY M) : Met l yX8_wetnessOf wsX8_wetnessOf ({ frames := 3, cells := 0, slots := 0, locals := 66 } : Room) (CP D cy b n fT M [.ref (b + 124), .int x]) (CQi D cy b n fT (fX8_wetnessOf M x) (gX8_wetnessOf M x)) 0 0 (fr b) := by
  refine Met.ofW (cc := cX8_wetnessOf) (maxL := 2) (ret := (some .int)) (by decide) rfl ?_
  intro p e s m args below meth c s₁ B hml hv
  obtain ⟨rfl, hP, hK, hX⟩ := hv
  have hx := B.exec
  have hb := B.bytes
  have hr := B.returns
  have hts := atoms_spec (ws := wsX8_wetnessOf) B.pre
  have hown : s.vm.findClass RX8 = some m.cls := findClass_of_methodNamed B.named
  have hlocks := B.notSynchronized
  have hS : va_S (fr b) s.heap s.heap [] := va_S.rf
  have hl := lv_entry ([.ref (b + 124), .int x]) (n := 2) (Nat.le_of_ble_eq_true rfl)
  rw [lg_entry_eq]
  generalize (lg_sl ([.ref (b + 124), .int x]) ++ List.replicate (2 - (lg_sl ([.ref (b + 124), .int x])).length) Slot.unset).toArray = ls at hl ⊢
  have hl : lv_has ls 2 [(0, .ref (b + 124)), (1, .int x)] := hl
  refine lv_aload_n hx hb dX8_wetnessOf_0 rfl (lv_at hl 0 rfl) ?_
  refine lv_iload_n hx hb dX8_wetnessOf_1 rfl (lv_at hl 1 rfl) ?_
  refine lv_iconst (v := 1) hx hb dX8_wetnessOf_2 (by decide) ?_
  refine lv_iconst (v := 3) hx hb dX8_wetnessOf_3 (by decide) ?_
  refine xc_i (va_runV (As := [.int x, .int (1 : Int32), .int (3 : Int32)]) (rest := []) ⟨hx, hb, hml, hown, hts⟩ (c_X8_ofKind l D cy b n hn M x (1 : Int32) 3 hmy (by decide)) (cwV 3 hts gX8_wetnessOf_X8_ofKind rfl rfl rfl (by decide +kernel) ⟨Nat.le_of_ble_eq_true rfl, Nat.le_of_ble_eq_true rfl⟩) (xPreV hP hK hX hS (by omega) (cell8 (by decide)) rfl) rfl rfl hl.1 rfl (lv_room (Nat.le_of_ble_eq_true rfl)) dX8_wetnessOf_4 ⟨Nat.le_of_ble_eq_true rfl, Nat.le_of_ble_eq_true rfl⟩) hS (fun H locs hP hS => ?_)
  exact xe_i hx hb hr hlocks hP hS rfl (by rw [gX8_wetnessOf] <;> rfl) (by rw [fX8_wetnessOf] <;> rfl) (Nat.le_of_ble_eq_true rfl) (Nat.le_of_ble_eq_true rfl) dX8_wetnessOf_7
def fX8_slackOf (M : Mem) (x : Int32) : Int32 := fX8_ofKind M x (1 : Int32) 4
def gX8_slackOf (M : Mem) (x : Int32) : Mem := gX8_ofKind M x (1 : Int32) 4
set_option maxHeartbeats 4000000 in
set_option maxRecDepth 100000 in
theorem c_X8_slackOf (l : Launch) (D : va_G) (cy : Nat → ClassId) (b n : Nat) (hn : 133 ≤ n) (M : Mem) (x : Int32) (hmy : MNY M) : Met l yX8_slackOf wsX8_slackOf ({ frames := 3, cells := 0, slots := 0, locals := 66 } : Room) (CP D cy b n fT M [.ref (b + 124), .int x]) (CQi D cy b n fT (fX8_slackOf M x) (gX8_slackOf M x)) 0 0 (fr b) := by
  refine Met.ofW (cc := cX8_slackOf) (maxL := 2) (ret := (some .int)) (by decide) rfl ?_
  intro p e s m args below meth c s₁ B hml hv
  obtain ⟨rfl, hP, hK, hX⟩ := hv
  have hx := B.exec
  have hb := B.bytes
  have hr := B.returns
  have hts := atoms_spec (ws := wsX8_slackOf) B.pre
  have hown : s.vm.findClass RX8 = some m.cls := findClass_of_methodNamed B.named
  have hlocks := B.notSynchronized
  have hS : va_S (fr b) s.heap s.heap [] := va_S.rf
  have hl := lv_entry ([.ref (b + 124), .int x]) (n := 2) (Nat.le_of_ble_eq_true rfl)
  rw [lg_entry_eq]
  generalize (lg_sl ([.ref (b + 124), .int x]) ++ List.replicate (2 - (lg_sl ([.ref (b + 124), .int x])).length) Slot.unset).toArray = ls at hl ⊢
  have hl : lv_has ls 2 [(0, .ref (b + 124)), (1, .int x)] := hl
  refine lv_aload_n hx hb dX8_slackOf_0 rfl (lv_at hl 0 rfl) ?_
  refine lv_iload_n hx hb dX8_slackOf_1 rfl (lv_at hl 1 rfl) ?_
  refine lv_iconst (v := 1) hx hb dX8_slackOf_2 (by decide) ?_
  refine lv_iconst (v := 4) hx hb dX8_slackOf_3 (by decide) ?_
  refine xc_i (va_runV (As := [.int x, .int (1 : Int32), .int (4 : Int32)]) (rest := []) ⟨hx, hb, hml, hown, hts⟩ (c_X8_ofKind l D cy b n hn M x (1 : Int32) 4 hmy (by decide)) (cwV 3 hts gX8_slackOf_X8_ofKind rfl rfl rfl (by decide +kernel) ⟨Nat.le_of_ble_eq_true rfl, Nat.le_of_ble_eq_true rfl⟩) (xPreV hP hK hX hS (by omega) (cell8 (by decide)) rfl) rfl rfl hl.1 rfl (lv_room (Nat.le_of_ble_eq_true rfl)) dX8_slackOf_4 ⟨Nat.le_of_ble_eq_true rfl, Nat.le_of_ble_eq_true rfl⟩) hS (fun H locs hP hS => ?_)
  exact xe_i hx hb hr hlocks hP hS rfl (by rw [gX8_slackOf] <;> rfl) (by rw [fX8_slackOf] <;> rfl) (Nat.le_of_ble_eq_true rfl) (Nat.le_of_ble_eq_true rfl) dX8_slackOf_7
def fX8_waterOf (M : Mem) (x : Int32) : Int32 := fX8_ofKind M x (0 : Int32) 5
def gX8_waterOf (M : Mem) (x : Int32) : Mem := gX8_ofKind M x (0 : Int32) 5
set_option maxHeartbeats 4000000 in
set_option maxRecDepth 100000 in
theorem c_X8_waterOf (l : Launch) (D : va_G) (cy : Nat → ClassId) (b n : Nat) (hn : 133 ≤ n) (M : Mem) (x : Int32) (hmy : MNY M) : Met l yX8_waterOf wsX8_waterOf ({ frames := 3, cells := 0, slots := 0, locals := 66 } : Room) (CP D cy b n fT M [.ref (b + 124), .int x]) (CQi D cy b n fT (fX8_waterOf M x) (gX8_waterOf M x)) 0 0 (fr b) := by
  refine Met.ofW (cc := cX8_waterOf) (maxL := 2) (ret := (some .int)) (by decide) rfl ?_
  intro p e s m args below meth c s₁ B hml hv
  obtain ⟨rfl, hP, hK, hX⟩ := hv
  have hx := B.exec
  have hb := B.bytes
  have hr := B.returns
  have hts := atoms_spec (ws := wsX8_waterOf) B.pre
  have hown : s.vm.findClass RX8 = some m.cls := findClass_of_methodNamed B.named
  have hlocks := B.notSynchronized
  have hS : va_S (fr b) s.heap s.heap [] := va_S.rf
  have hl := lv_entry ([.ref (b + 124), .int x]) (n := 2) (Nat.le_of_ble_eq_true rfl)
  rw [lg_entry_eq]
  generalize (lg_sl ([.ref (b + 124), .int x]) ++ List.replicate (2 - (lg_sl ([.ref (b + 124), .int x])).length) Slot.unset).toArray = ls at hl ⊢
  have hl : lv_has ls 2 [(0, .ref (b + 124)), (1, .int x)] := hl
  refine lv_aload_n hx hb dX8_waterOf_0 rfl (lv_at hl 0 rfl) ?_
  refine lv_iload_n hx hb dX8_waterOf_1 rfl (lv_at hl 1 rfl) ?_
  refine lv_iconst (v := 0) hx hb dX8_waterOf_2 (by decide) ?_
  refine lv_iconst (v := 5) hx hb dX8_waterOf_3 (by decide) ?_
  refine xc_i (va_runV (As := [.int x, .int (0 : Int32), .int (5 : Int32)]) (rest := []) ⟨hx, hb, hml, hown, hts⟩ (c_X8_ofKind l D cy b n hn M x (0 : Int32) 5 hmy (by decide)) (cwV 3 hts gX8_waterOf_X8_ofKind rfl rfl rfl (by decide +kernel) ⟨Nat.le_of_ble_eq_true rfl, Nat.le_of_ble_eq_true rfl⟩) (xPreV hP hK hX hS (by omega) (cell8 (by decide)) rfl) rfl rfl hl.1 rfl (lv_room (Nat.le_of_ble_eq_true rfl)) dX8_waterOf_4 ⟨Nat.le_of_ble_eq_true rfl, Nat.le_of_ble_eq_true rfl⟩) hS (fun H locs hP hS => ?_)
  exact xe_i hx hb hr hlocks hP hS rfl (by rw [gX8_waterOf] <;> rfl) (by rw [fX8_waterOf] <;> rfl) (Nat.le_of_ble_eq_true rfl) (Nat.le_of_ble_eq_true rfl) dX8_waterOf_7
def fX8_depressionOf (M : Mem) (x : Int32) : Int32 := if (fX8_is M x) = 0 then (fX8_refuse M (1 : Int32)) else (if (fX8_isOfHair M x.toNatClampNeg) = 0 then (fX8_told M (fX8_depression M x.toNatClampNeg)) else (fX8_told M ((-1) : Int32)))
def gX8_depressionOf (M : Mem) (x : Int32) : Mem := if (fX8_is M x) = 0 then (gX8_refuse M (1 : Int32)) else (if (fX8_isOfHair M x.toNatClampNeg) = 0 then (gX8_told M (fX8_depression M x.toNatClampNeg)) else (gX8_told M ((-1) : Int32)))
set_option maxHeartbeats 4000000 in
set_option maxRecDepth 100000 in
theorem c_X8_depressionOf (l : Launch) (D : va_G) (cy : Nat → ClassId) (b n : Nat) (hn : 133 ≤ n) (M : Mem) (x : Int32) (hmy : MNY M) (hbx : BXS M) : Met l yX8_depressionOf wsX8_depressionOf ({ frames := 4, cells := 0, slots := 0, locals := 83 } : Room) (CP D cy b n fT M [.ref (b + 124), .int x]) (CQi D cy b n fT (fX8_depressionOf M x) (gX8_depressionOf M x)) 0 0 (fr b) := by
  refine Met.ofW (cc := cX8_depressionOf) (maxL := 2) (ret := (some .int)) (by decide) rfl ?_
  intro p e s m args below meth c s₁ B hml hv
  obtain ⟨rfl, hP, hK, hX⟩ := hv
  have hx := B.exec
  have hb := B.bytes
  have hr := B.returns
  have hts := atoms_spec (ws := wsX8_depressionOf) B.pre
  have hown : s.vm.findClass RX8 = some m.cls := findClass_of_methodNamed B.named
  have hlocks := B.notSynchronized
  have hS : va_S (fr b) s.heap s.heap [] := va_S.rf
  have hl := lv_entry ([.ref (b + 124), .int x]) (n := 2) (Nat.le_of_ble_eq_true rfl)
  rw [lg_entry_eq]
  generalize (lg_sl ([.ref (b + 124), .int x]) ++ List.replicate (2 - (lg_sl ([.ref (b + 124), .int x])).length) Slot.unset).toArray = ls at hl ⊢
  have hl : lv_has ls 2 [(0, .ref (b + 124)), (1, .int x)] := hl
  refine lv_aload_n hx hb dX8_depressionOf_0 rfl (lv_at hl 0 rfl) ?_
  refine lv_iload_n hx hb dX8_depressionOf_1 rfl (lv_at hl 1 rfl) ?_
  refine xc_i (va_runV (As := [.int x]) (rest := []) ⟨hx, hb, hml, hown, hts⟩ (c_X8_is l D cy b n hn M x) (cwV 1 hts gX8_depressionOf_X8_is rfl rfl rfl (by decide +kernel) ⟨Nat.le_of_ble_eq_true rfl, Nat.le_of_ble_eq_true rfl⟩) (xPreV hP hK hX hS (by omega) (cell8 (by decide)) rfl) rfl rfl hl.1 rfl (lv_room (Nat.le_of_ble_eq_true rfl)) dX8_depressionOf_2 ⟨Nat.le_of_ble_eq_true rfl, Nat.le_of_ble_eq_true rfl⟩) hS (fun H locs hP hS => ?_)
  refine lv_if_ne (tgt := 14) hx hb dX8_depressionOf_5 (by decide) (fun c5 => ?_) (fun c5 => ?_)
  · refine lv_aload_n hx hb dX8_depressionOf_14 rfl (lv_at hl 0 rfl) ?_
    refine lv_iload_n hx hb dX8_depressionOf_15 rfl (lv_at hl 1 rfl) ?_
    refine W.eq (g2 := F0 m 16 ls (.int (nI (x.toNatClampNeg)) :: .ref (b + 124) :: [])) (congrArg (fun z => F0 m 16 ls (.int z :: .ref (b + 124) :: [])) (nat_of (is_iv hmy c5).1)) ?_
    refine xc_i (va_runV (As := [.int (nI (x.toNatClampNeg))]) (rest := []) ⟨hx, hb, hml, hown, hts⟩ (c_X8_isOfHair l D cy b n hn M x.toNatClampNeg (is_iv hmy c5).2) (cwV 1 hts gX8_depressionOf_X8_isOfHair rfl rfl rfl (by decide +kernel) ⟨Nat.le_of_ble_eq_true rfl, Nat.le_of_ble_eq_true rfl⟩) (xPreV hP hK hX hS (by omega) (cell8 (by decide)) rfl) rfl rfl hl.1 rfl (lv_room (Nat.le_of_ble_eq_true rfl)) dX8_depressionOf_16 ⟨Nat.le_of_ble_eq_true rfl, Nat.le_of_ble_eq_true rfl⟩) hS (fun H locs hP hS => ?_)
    refine lv_if_eq (tgt := 28) hx hb dX8_depressionOf_19 (by decide) (fun c19 => ?_) (fun c19 => ?_)
    · refine lv_aload_n hx hb dX8_depressionOf_28 rfl (lv_at hl 0 rfl) ?_
      refine lv_aload_n hx hb dX8_depressionOf_29 rfl (lv_at hl 0 rfl) ?_
      refine lv_iload_n hx hb dX8_depressionOf_30 rfl (lv_at hl 1 rfl) ?_
      refine W.eq (g2 := F0 m 31 ls (.int (nI (x.toNatClampNeg)) :: .ref (b + 124) :: .ref (b + 124) :: [])) (congrArg (fun z => F0 m 31 ls (.int z :: .ref (b + 124) :: .ref (b + 124) :: [])) (nat_of (is_iv hmy c5).1)) ?_
      refine xc_i (va_runV (As := [.int (nI (x.toNatClampNeg))]) (rest := [.ref (b + 124)]) ⟨hx, hb, hml, hown, hts⟩ (c_X8_depression l D cy b n hn M x.toNatClampNeg (is_iv hmy c5).2 hbx) (cwV 1 hts gX8_depressionOf_X8_depression rfl rfl rfl (by decide +kernel) ⟨Nat.le_of_ble_eq_true rfl, Nat.le_of_ble_eq_true rfl⟩) (xPreV hP hK hX hS (by omega) (cell8 (by decide)) rfl) rfl rfl hl.1 rfl (lv_room (Nat.le_of_ble_eq_true rfl)) dX8_depressionOf_31 ⟨Nat.le_of_ble_eq_true rfl, Nat.le_of_ble_eq_true rfl⟩) hS (fun H locs hP hS => ?_)
      refine xc_i (va_runV (As := [.int (fX8_depression M x.toNatClampNeg)]) (rest := []) ⟨hx, hb, hml, hown, hts⟩ (c_X8_told l D cy b n hn M (fX8_depression M x.toNatClampNeg)) (cwV 1 hts gX8_depressionOf_X8_told rfl rfl rfl (by decide +kernel) ⟨Nat.le_of_ble_eq_true rfl, Nat.le_of_ble_eq_true rfl⟩) (xPreV hP hK hX hS (by omega) (cell8 (by decide)) rfl) rfl rfl hl.1 rfl (lv_room (Nat.le_of_ble_eq_true rfl)) dX8_depressionOf_34 ⟨Nat.le_of_ble_eq_true rfl, Nat.le_of_ble_eq_true rfl⟩) hS (fun H locs hP hS => ?_)
      exact xe_i hx hb hr hlocks hP hS rfl (by rw [gX8_depressionOf, if_neg c5, if_pos c19] <;> rfl) (by rw [fX8_depressionOf, if_neg c5, if_pos c19] <;> rfl) (Nat.le_of_ble_eq_true rfl) (Nat.le_of_ble_eq_true rfl) dX8_depressionOf_37
    · refine lv_aload_n hx hb dX8_depressionOf_22 rfl (lv_at hl 0 rfl) ?_
      refine lv_iconst (v := (-1)) hx hb dX8_depressionOf_23 (by decide) ?_
      refine xc_i (va_runV (As := [.int ((-1) : Int32)]) (rest := []) ⟨hx, hb, hml, hown, hts⟩ (c_X8_told l D cy b n hn M ((-1) : Int32)) (cwV 1 hts gX8_depressionOf_X8_told rfl rfl rfl (by decide +kernel) ⟨Nat.le_of_ble_eq_true rfl, Nat.le_of_ble_eq_true rfl⟩) (xPreV hP hK hX hS (by omega) (cell8 (by decide)) rfl) rfl rfl hl.1 rfl (lv_room (Nat.le_of_ble_eq_true rfl)) dX8_depressionOf_24 ⟨Nat.le_of_ble_eq_true rfl, Nat.le_of_ble_eq_true rfl⟩) hS (fun H locs hP hS => ?_)
      exact xe_i hx hb hr hlocks hP hS rfl (by rw [gX8_depressionOf, if_neg c5, if_neg c19] <;> rfl) (by rw [fX8_depressionOf, if_neg c5, if_neg c19] <;> rfl) (Nat.le_of_ble_eq_true rfl) (Nat.le_of_ble_eq_true rfl) dX8_depressionOf_27
  · refine lv_aload_n hx hb dX8_depressionOf_8 rfl (lv_at hl 0 rfl) ?_
    refine lv_iconst (v := 1) hx hb dX8_depressionOf_9 (by decide) ?_
    refine xc_i (va_runV (As := [.int (1 : Int32)]) (rest := []) ⟨hx, hb, hml, hown, hts⟩ (c_X8_refuse l D cy b n hn M (1 : Int32)) (cwV 1 hts gX8_depressionOf_X8_refuse rfl rfl rfl (by decide +kernel) ⟨Nat.le_of_ble_eq_true rfl, Nat.le_of_ble_eq_true rfl⟩) (xPreV hP hK hX hS (by omega) (cell8 (by decide)) rfl) rfl rfl hl.1 rfl (lv_room (Nat.le_of_ble_eq_true rfl)) dX8_depressionOf_10 ⟨Nat.le_of_ble_eq_true rfl, Nat.le_of_ble_eq_true rfl⟩) hS (fun H locs hP hS => ?_)
    exact xe_i hx hb hr hlocks hP hS rfl (by rw [gX8_depressionOf, if_pos c5] <;> rfl) (by rw [fX8_depressionOf, if_pos c5] <;> rfl) (Nat.le_of_ble_eq_true rfl) (Nat.le_of_ble_eq_true rfl) dX8_depressionOf_13
def fX8_zeroOf (M : Mem) (x : Int32) : Int32 := if (fX8_is M x) = 0 then (fX8_refuse M (1 : Int32)) else (fX8_told M (M 127 (8 * x.toNatClampNeg + 14)))
def gX8_zeroOf (M : Mem) (x : Int32) : Mem := if (fX8_is M x) = 0 then (gX8_refuse M (1 : Int32)) else (gX8_told M (M 127 (8 * x.toNatClampNeg + 14)))
set_option maxHeartbeats 4000000 in
set_option maxRecDepth 100000 in
theorem c_X8_zeroOf (l : Launch) (D : va_G) (cy : Nat → ClassId) (b n : Nat) (hn : 133 ≤ n) (M : Mem) (x : Int32) (hmy : MNY M) : Met l yX8_zeroOf wsX8_zeroOf ({ frames := 2, cells := 0, slots := 0, locals := 43 } : Room) (CP D cy b n fT M [.ref (b + 124), .int x]) (CQi D cy b n fT (fX8_zeroOf M x) (gX8_zeroOf M x)) 0 0 (fr b) := by
  refine Met.ofW (cc := cX8_zeroOf) (maxL := 2) (ret := (some .int)) (by decide) rfl ?_
  intro p e s m args below meth c s₁ B hml hv
  obtain ⟨rfl, hP, hK, hX⟩ := hv
  have hx := B.exec
  have hb := B.bytes
  have hr := B.returns
  have hts := atoms_spec (ws := wsX8_zeroOf) B.pre
  have hown : s.vm.findClass RX8 = some m.cls := findClass_of_methodNamed B.named
  have hlocks := B.notSynchronized
  have lk0 := hts (.fieldLink RX8 16 "HygrometerRoomModel" "now" "[I") (by decide +kernel)
  have inc8 : ∀ w ∈ u_ws RX8 TX8 22, w ∈ wsX8_zeroOf := by decide +kernel
  have hS : va_S (fr b) s.heap s.heap [] := va_S.rf
  have hl := lv_entry ([.ref (b + 124), .int x]) (n := 2) (Nat.le_of_ble_eq_true rfl)
  rw [lg_entry_eq]
  generalize (lg_sl ([.ref (b + 124), .int x]) ++ List.replicate (2 - (lg_sl ([.ref (b + 124), .int x])).length) Slot.unset).toArray = ls at hl ⊢
  have hl : lv_has ls 2 [(0, .ref (b + 124)), (1, .int x)] := hl
  refine lv_aload_n hx hb dX8_zeroOf_0 rfl (lv_at hl 0 rfl) ?_
  refine lv_iload_n hx hb dX8_zeroOf_1 rfl (lv_at hl 1 rfl) ?_
  refine xc_i (va_runV (As := [.int x]) (rest := []) ⟨hx, hb, hml, hown, hts⟩ (c_X8_is l D cy b n hn M x) (cwV 1 hts gX8_zeroOf_X8_is rfl rfl rfl (by decide +kernel) ⟨Nat.le_of_ble_eq_true rfl, Nat.le_of_ble_eq_true rfl⟩) (xPreV hP hK hX hS (by omega) (cell8 (by decide)) rfl) rfl rfl hl.1 rfl (lv_room (Nat.le_of_ble_eq_true rfl)) dX8_zeroOf_2 ⟨Nat.le_of_ble_eq_true rfl, Nat.le_of_ble_eq_true rfl⟩) hS (fun H locs hP hS => ?_)
  refine lv_if_ne (tgt := 14) hx hb dX8_zeroOf_5 (by decide) (fun c5 => ?_) (fun c5 => ?_)
  · refine lv_aload_n hx hb dX8_zeroOf_14 rfl (lv_at hl 0 rfl) ?_
    refine lv_aload_n hx hb dX8_zeroOf_15 rfl (lv_at hl 0 rfl) ?_
    refine xg (C := RX8) (T := TX8) (N := 22) (v := .ref (b + 127)) hx hb hts inc8 hown hK hP (by omega) (cell8 (by decide)) rfl 3 (by decide) lk0 (fun _ h => h) rfl dX8_zeroOf_16 ?_
    refine lv_iload_n hx hb dX8_zeroOf_19 rfl (lv_at hl 1 rfl) ?_
    have hk6 := (is_iv hmy c5).2
    refine W.eq (g2 := F0 m 20 ls (.int (nI (x.toNatClampNeg)) :: .ref (b + 127) :: .ref (b + 124) :: [])) (congrArg (fun z => F0 m 20 ls (.int z :: .ref (b + 127) :: .ref (b + 124) :: [])) (nat_of (is_iv hmy c5).1)) ?_
    refine xc_i (va_runS (As := [.int (nI (x.toNatClampNeg))]) (rest := [.ref (b + 127), .ref (b + 124)]) ⟨hx, hb, hml, hown, hts⟩ (c_X8_i l D cy b n hn M x.toNatClampNeg) (va_cwS 1 hts gX8_zeroOf_X8_i rfl rfl rfl (by decide +kernel) ⟨Nat.le_of_ble_eq_true rfl, Nat.le_of_ble_eq_true rfl⟩) (xPreS hP hK hX hS) rfl rfl hl.1 rfl (lv_room (Nat.le_of_ble_eq_true rfl)) dX8_zeroOf_20 ⟨Nat.le_of_ble_eq_true rfl, Nat.le_of_ble_eq_true rfl⟩) hS (fun H locs hP hS => ?_)
    refine W.eq (g2 := F0 m 23 ls (.int (nI (8 * x.toNatClampNeg + 8)) :: .ref (b + 127) :: .ref (b + 124) :: [])) (congrArg (fun z => F0 m 23 ls (.int z :: .ref (b + 127) :: .ref (b + 124) :: [])) (show fX8_i M x.toNatClampNeg = nI (8 * x.toNatClampNeg + 8) from by unfold fX8_i; exact congrArg nI (by omega))) ?_
    refine lv_bipush (v := 6) hx hb dX8_zeroOf_23 (by decide) ?_
    refine xadd (z := nI (8 * x.toNatClampNeg + 14)) hx hb (ixAdd (a := 8 * x.toNatClampNeg + 8) (c := 6) (d := 8 * x.toNatClampNeg + 14) rfl rfl (by omega)) dX8_zeroOf_25 ?_
    refine xil (j := 8 * x.toNatClampNeg + 14) hx hb hK hP (by omega) (by decide) (ixIn (a := 8 * x.toNatClampNeg + 14) rfl (by first | decide | (simp only [lenOf]; omega) | omega) (by decide)) (ixAt (a := 8 * x.toNatClampNeg + 14) rfl (by omega)) dX8_zeroOf_26 ?_
    refine xc_i (va_runV (As := [.int (M 127 (8 * x.toNatClampNeg + 14))]) (rest := []) ⟨hx, hb, hml, hown, hts⟩ (c_X8_told l D cy b n hn M (M 127 (8 * x.toNatClampNeg + 14))) (cwV 1 hts gX8_zeroOf_X8_told rfl rfl rfl (by decide +kernel) ⟨Nat.le_of_ble_eq_true rfl, Nat.le_of_ble_eq_true rfl⟩) (xPreV hP hK hX hS (by omega) (cell8 (by decide)) rfl) rfl rfl hl.1 rfl (lv_room (Nat.le_of_ble_eq_true rfl)) dX8_zeroOf_27 ⟨Nat.le_of_ble_eq_true rfl, Nat.le_of_ble_eq_true rfl⟩) hS (fun H locs hP hS => ?_)
    exact xe_i hx hb hr hlocks hP hS rfl (by rw [gX8_zeroOf, if_neg c5] <;> rfl) (by rw [fX8_zeroOf, if_neg c5] <;> rfl) (Nat.le_of_ble_eq_true rfl) (Nat.le_of_ble_eq_true rfl) dX8_zeroOf_30
  · refine lv_aload_n hx hb dX8_zeroOf_8 rfl (lv_at hl 0 rfl) ?_
    refine lv_iconst (v := 1) hx hb dX8_zeroOf_9 (by decide) ?_
    refine xc_i (va_runV (As := [.int (1 : Int32)]) (rest := []) ⟨hx, hb, hml, hown, hts⟩ (c_X8_refuse l D cy b n hn M (1 : Int32)) (cwV 1 hts gX8_zeroOf_X8_refuse rfl rfl rfl (by decide +kernel) ⟨Nat.le_of_ble_eq_true rfl, Nat.le_of_ble_eq_true rfl⟩) (xPreV hP hK hX hS (by omega) (cell8 (by decide)) rfl) rfl rfl hl.1 rfl (lv_room (Nat.le_of_ble_eq_true rfl)) dX8_zeroOf_10 ⟨Nat.le_of_ble_eq_true rfl, Nat.le_of_ble_eq_true rfl⟩) hS (fun H locs hP hS => ?_)
    exact xe_i hx hb hr hlocks hP hS rfl (by rw [gX8_zeroOf, if_pos c5] <;> rfl) (by rw [fX8_zeroOf, if_pos c5] <;> rfl) (Nat.le_of_ble_eq_true rfl) (Nat.le_of_ble_eq_true rfl) dX8_zeroOf_13
def fX8_boxOf (M : Mem) (x : Int32) : Int32 := if (fX8_is M x) = 0 then (fX8_refuse M (1 : Int32)) else (fX8_told M (M 127 (8 * x.toNatClampNeg + 15)))
def gX8_boxOf (M : Mem) (x : Int32) : Mem := if (fX8_is M x) = 0 then (gX8_refuse M (1 : Int32)) else (gX8_told M (M 127 (8 * x.toNatClampNeg + 15)))
set_option maxHeartbeats 4000000 in
set_option maxRecDepth 100000 in
theorem c_X8_boxOf (l : Launch) (D : va_G) (cy : Nat → ClassId) (b n : Nat) (hn : 133 ≤ n) (M : Mem) (x : Int32) (hmy : MNY M) : Met l yX8_boxOf wsX8_boxOf ({ frames := 2, cells := 0, slots := 0, locals := 43 } : Room) (CP D cy b n fT M [.ref (b + 124), .int x]) (CQi D cy b n fT (fX8_boxOf M x) (gX8_boxOf M x)) 0 0 (fr b) := by
  refine Met.ofW (cc := cX8_boxOf) (maxL := 2) (ret := (some .int)) (by decide) rfl ?_
  intro p e s m args below meth c s₁ B hml hv
  obtain ⟨rfl, hP, hK, hX⟩ := hv
  have hx := B.exec
  have hb := B.bytes
  have hr := B.returns
  have hts := atoms_spec (ws := wsX8_boxOf) B.pre
  have hown : s.vm.findClass RX8 = some m.cls := findClass_of_methodNamed B.named
  have hlocks := B.notSynchronized
  have lk0 := hts (.fieldLink RX8 16 "HygrometerRoomModel" "now" "[I") (by decide +kernel)
  have inc8 : ∀ w ∈ u_ws RX8 TX8 22, w ∈ wsX8_boxOf := by decide +kernel
  have hS : va_S (fr b) s.heap s.heap [] := va_S.rf
  have hl := lv_entry ([.ref (b + 124), .int x]) (n := 2) (Nat.le_of_ble_eq_true rfl)
  rw [lg_entry_eq]
  generalize (lg_sl ([.ref (b + 124), .int x]) ++ List.replicate (2 - (lg_sl ([.ref (b + 124), .int x])).length) Slot.unset).toArray = ls at hl ⊢
  have hl : lv_has ls 2 [(0, .ref (b + 124)), (1, .int x)] := hl
  refine lv_aload_n hx hb dX8_boxOf_0 rfl (lv_at hl 0 rfl) ?_
  refine lv_iload_n hx hb dX8_boxOf_1 rfl (lv_at hl 1 rfl) ?_
  refine xc_i (va_runV (As := [.int x]) (rest := []) ⟨hx, hb, hml, hown, hts⟩ (c_X8_is l D cy b n hn M x) (cwV 1 hts gX8_boxOf_X8_is rfl rfl rfl (by decide +kernel) ⟨Nat.le_of_ble_eq_true rfl, Nat.le_of_ble_eq_true rfl⟩) (xPreV hP hK hX hS (by omega) (cell8 (by decide)) rfl) rfl rfl hl.1 rfl (lv_room (Nat.le_of_ble_eq_true rfl)) dX8_boxOf_2 ⟨Nat.le_of_ble_eq_true rfl, Nat.le_of_ble_eq_true rfl⟩) hS (fun H locs hP hS => ?_)
  refine lv_if_ne (tgt := 14) hx hb dX8_boxOf_5 (by decide) (fun c5 => ?_) (fun c5 => ?_)
  · refine lv_aload_n hx hb dX8_boxOf_14 rfl (lv_at hl 0 rfl) ?_
    refine lv_aload_n hx hb dX8_boxOf_15 rfl (lv_at hl 0 rfl) ?_
    refine xg (C := RX8) (T := TX8) (N := 22) (v := .ref (b + 127)) hx hb hts inc8 hown hK hP (by omega) (cell8 (by decide)) rfl 3 (by decide) lk0 (fun _ h => h) rfl dX8_boxOf_16 ?_
    refine lv_iload_n hx hb dX8_boxOf_19 rfl (lv_at hl 1 rfl) ?_
    have hk6 := (is_iv hmy c5).2
    refine W.eq (g2 := F0 m 20 ls (.int (nI (x.toNatClampNeg)) :: .ref (b + 127) :: .ref (b + 124) :: [])) (congrArg (fun z => F0 m 20 ls (.int z :: .ref (b + 127) :: .ref (b + 124) :: [])) (nat_of (is_iv hmy c5).1)) ?_
    refine xc_i (va_runS (As := [.int (nI (x.toNatClampNeg))]) (rest := [.ref (b + 127), .ref (b + 124)]) ⟨hx, hb, hml, hown, hts⟩ (c_X8_i l D cy b n hn M x.toNatClampNeg) (va_cwS 1 hts gX8_boxOf_X8_i rfl rfl rfl (by decide +kernel) ⟨Nat.le_of_ble_eq_true rfl, Nat.le_of_ble_eq_true rfl⟩) (xPreS hP hK hX hS) rfl rfl hl.1 rfl (lv_room (Nat.le_of_ble_eq_true rfl)) dX8_boxOf_20 ⟨Nat.le_of_ble_eq_true rfl, Nat.le_of_ble_eq_true rfl⟩) hS (fun H locs hP hS => ?_)
    refine W.eq (g2 := F0 m 23 ls (.int (nI (8 * x.toNatClampNeg + 8)) :: .ref (b + 127) :: .ref (b + 124) :: [])) (congrArg (fun z => F0 m 23 ls (.int z :: .ref (b + 127) :: .ref (b + 124) :: [])) (show fX8_i M x.toNatClampNeg = nI (8 * x.toNatClampNeg + 8) from by unfold fX8_i; exact congrArg nI (by omega))) ?_
    refine lv_bipush (v := 7) hx hb dX8_boxOf_23 (by decide) ?_
    refine xadd (z := nI (8 * x.toNatClampNeg + 15)) hx hb (ixAdd (a := 8 * x.toNatClampNeg + 8) (c := 7) (d := 8 * x.toNatClampNeg + 15) rfl rfl (by omega)) dX8_boxOf_25 ?_
    refine xil (j := 8 * x.toNatClampNeg + 15) hx hb hK hP (by omega) (by decide) (ixIn (a := 8 * x.toNatClampNeg + 15) rfl (by first | decide | (simp only [lenOf]; omega) | omega) (by decide)) (ixAt (a := 8 * x.toNatClampNeg + 15) rfl (by omega)) dX8_boxOf_26 ?_
    refine xc_i (va_runV (As := [.int (M 127 (8 * x.toNatClampNeg + 15))]) (rest := []) ⟨hx, hb, hml, hown, hts⟩ (c_X8_told l D cy b n hn M (M 127 (8 * x.toNatClampNeg + 15))) (cwV 1 hts gX8_boxOf_X8_told rfl rfl rfl (by decide +kernel) ⟨Nat.le_of_ble_eq_true rfl, Nat.le_of_ble_eq_true rfl⟩) (xPreV hP hK hX hS (by omega) (cell8 (by decide)) rfl) rfl rfl hl.1 rfl (lv_room (Nat.le_of_ble_eq_true rfl)) dX8_boxOf_27 ⟨Nat.le_of_ble_eq_true rfl, Nat.le_of_ble_eq_true rfl⟩) hS (fun H locs hP hS => ?_)
    exact xe_i hx hb hr hlocks hP hS rfl (by rw [gX8_boxOf, if_neg c5] <;> rfl) (by rw [fX8_boxOf, if_neg c5] <;> rfl) (Nat.le_of_ble_eq_true rfl) (Nat.le_of_ble_eq_true rfl) dX8_boxOf_30
  · refine lv_aload_n hx hb dX8_boxOf_8 rfl (lv_at hl 0 rfl) ?_
    refine lv_iconst (v := 1) hx hb dX8_boxOf_9 (by decide) ?_
    refine xc_i (va_runV (As := [.int (1 : Int32)]) (rest := []) ⟨hx, hb, hml, hown, hts⟩ (c_X8_refuse l D cy b n hn M (1 : Int32)) (cwV 1 hts gX8_boxOf_X8_refuse rfl rfl rfl (by decide +kernel) ⟨Nat.le_of_ble_eq_true rfl, Nat.le_of_ble_eq_true rfl⟩) (xPreV hP hK hX hS (by omega) (cell8 (by decide)) rfl) rfl rfl hl.1 rfl (lv_room (Nat.le_of_ble_eq_true rfl)) dX8_boxOf_10 ⟨Nat.le_of_ble_eq_true rfl, Nat.le_of_ble_eq_true rfl⟩) hS (fun H locs hP hS => ?_)
    exact xe_i hx hb hr hlocks hP hS rfl (by rw [gX8_boxOf, if_pos c5] <;> rfl) (by rw [fX8_boxOf, if_pos c5] <;> rfl) (Nat.le_of_ble_eq_true rfl) (Nat.le_of_ble_eq_true rfl) dX8_boxOf_13
def fX8_surroundingOf (M : Mem) (x : Int32) : Int32 := if (fX8_is M x) = 0 then (fX8_refuse M (1 : Int32)) else (fX8_told M (fX8_around M x.toNatClampNeg))
def gX8_surroundingOf (M : Mem) (x : Int32) : Mem := if (fX8_is M x) = 0 then (gX8_refuse M (1 : Int32)) else (gX8_told M (fX8_around M x.toNatClampNeg))
set_option maxHeartbeats 4000000 in
set_option maxRecDepth 100000 in
theorem c_X8_surroundingOf (l : Launch) (D : va_G) (cy : Nat → ClassId) (b n : Nat) (hn : 133 ≤ n) (M : Mem) (x : Int32) (hmy : MNY M) (hbx : BXS M) : Met l yX8_surroundingOf wsX8_surroundingOf ({ frames := 3, cells := 0, slots := 0, locals := 62 } : Room) (CP D cy b n fT M [.ref (b + 124), .int x]) (CQi D cy b n fT (fX8_surroundingOf M x) (gX8_surroundingOf M x)) 0 0 (fr b) := by
  refine Met.ofW (cc := cX8_surroundingOf) (maxL := 2) (ret := (some .int)) (by decide) rfl ?_
  intro p e s m args below meth c s₁ B hml hv
  obtain ⟨rfl, hP, hK, hX⟩ := hv
  have hx := B.exec
  have hb := B.bytes
  have hr := B.returns
  have hts := atoms_spec (ws := wsX8_surroundingOf) B.pre
  have hown : s.vm.findClass RX8 = some m.cls := findClass_of_methodNamed B.named
  have hlocks := B.notSynchronized
  have hS : va_S (fr b) s.heap s.heap [] := va_S.rf
  have hl := lv_entry ([.ref (b + 124), .int x]) (n := 2) (Nat.le_of_ble_eq_true rfl)
  rw [lg_entry_eq]
  generalize (lg_sl ([.ref (b + 124), .int x]) ++ List.replicate (2 - (lg_sl ([.ref (b + 124), .int x])).length) Slot.unset).toArray = ls at hl ⊢
  have hl : lv_has ls 2 [(0, .ref (b + 124)), (1, .int x)] := hl
  refine lv_aload_n hx hb dX8_surroundingOf_0 rfl (lv_at hl 0 rfl) ?_
  refine lv_iload_n hx hb dX8_surroundingOf_1 rfl (lv_at hl 1 rfl) ?_
  refine xc_i (va_runV (As := [.int x]) (rest := []) ⟨hx, hb, hml, hown, hts⟩ (c_X8_is l D cy b n hn M x) (cwV 1 hts gX8_surroundingOf_X8_is rfl rfl rfl (by decide +kernel) ⟨Nat.le_of_ble_eq_true rfl, Nat.le_of_ble_eq_true rfl⟩) (xPreV hP hK hX hS (by omega) (cell8 (by decide)) rfl) rfl rfl hl.1 rfl (lv_room (Nat.le_of_ble_eq_true rfl)) dX8_surroundingOf_2 ⟨Nat.le_of_ble_eq_true rfl, Nat.le_of_ble_eq_true rfl⟩) hS (fun H locs hP hS => ?_)
  refine lv_if_ne (tgt := 14) hx hb dX8_surroundingOf_5 (by decide) (fun c5 => ?_) (fun c5 => ?_)
  · refine lv_aload_n hx hb dX8_surroundingOf_14 rfl (lv_at hl 0 rfl) ?_
    refine lv_aload_n hx hb dX8_surroundingOf_15 rfl (lv_at hl 0 rfl) ?_
    refine lv_iload_n hx hb dX8_surroundingOf_16 rfl (lv_at hl 1 rfl) ?_
    refine W.eq (g2 := F0 m 17 ls (.int (nI (x.toNatClampNeg)) :: .ref (b + 124) :: .ref (b + 124) :: [])) (congrArg (fun z => F0 m 17 ls (.int z :: .ref (b + 124) :: .ref (b + 124) :: [])) (nat_of (is_iv hmy c5).1)) ?_
    refine xc_i (va_runV (As := [.int (nI (x.toNatClampNeg))]) (rest := [.ref (b + 124)]) ⟨hx, hb, hml, hown, hts⟩ (c_X8_around l D cy b n hn M x.toNatClampNeg (is_iv hmy c5).2 hbx) (cwV 1 hts gX8_surroundingOf_X8_around rfl rfl rfl (by decide +kernel) ⟨Nat.le_of_ble_eq_true rfl, Nat.le_of_ble_eq_true rfl⟩) (xPreV hP hK hX hS (by omega) (cell8 (by decide)) rfl) rfl rfl hl.1 rfl (lv_room (Nat.le_of_ble_eq_true rfl)) dX8_surroundingOf_17 ⟨Nat.le_of_ble_eq_true rfl, Nat.le_of_ble_eq_true rfl⟩) hS (fun H locs hP hS => ?_)
    refine xc_i (va_runV (As := [.int (fX8_around M x.toNatClampNeg)]) (rest := []) ⟨hx, hb, hml, hown, hts⟩ (c_X8_told l D cy b n hn M (fX8_around M x.toNatClampNeg)) (cwV 1 hts gX8_surroundingOf_X8_told rfl rfl rfl (by decide +kernel) ⟨Nat.le_of_ble_eq_true rfl, Nat.le_of_ble_eq_true rfl⟩) (xPreV hP hK hX hS (by omega) (cell8 (by decide)) rfl) rfl rfl hl.1 rfl (lv_room (Nat.le_of_ble_eq_true rfl)) dX8_surroundingOf_20 ⟨Nat.le_of_ble_eq_true rfl, Nat.le_of_ble_eq_true rfl⟩) hS (fun H locs hP hS => ?_)
    exact xe_i hx hb hr hlocks hP hS rfl (by rw [gX8_surroundingOf, if_neg c5] <;> rfl) (by rw [fX8_surroundingOf, if_neg c5] <;> rfl) (Nat.le_of_ble_eq_true rfl) (Nat.le_of_ble_eq_true rfl) dX8_surroundingOf_23
  · refine lv_aload_n hx hb dX8_surroundingOf_8 rfl (lv_at hl 0 rfl) ?_
    refine lv_iconst (v := 1) hx hb dX8_surroundingOf_9 (by decide) ?_
    refine xc_i (va_runV (As := [.int (1 : Int32)]) (rest := []) ⟨hx, hb, hml, hown, hts⟩ (c_X8_refuse l D cy b n hn M (1 : Int32)) (cwV 1 hts gX8_surroundingOf_X8_refuse rfl rfl rfl (by decide +kernel) ⟨Nat.le_of_ble_eq_true rfl, Nat.le_of_ble_eq_true rfl⟩) (xPreV hP hK hX hS (by omega) (cell8 (by decide)) rfl) rfl rfl hl.1 rfl (lv_room (Nat.le_of_ble_eq_true rfl)) dX8_surroundingOf_10 ⟨Nat.le_of_ble_eq_true rfl, Nat.le_of_ble_eq_true rfl⟩) hS (fun H locs hP hS => ?_)
    exact xe_i hx hb hr hlocks hP hS rfl (by rw [gX8_surroundingOf, if_pos c5] <;> rfl) (by rw [fX8_surroundingOf, if_pos c5] <;> rfl) (Nat.le_of_ble_eq_true rfl) (Nat.le_of_ble_eq_true rfl) dX8_surroundingOf_13
def fX8_rawValue (M : Mem) (x : Int32) : Int32 := if (fX8_is M x) = 0 then (fX8_refuse M (1 : Int32)) else (fX8_told M (fX8_raw M x.toNatClampNeg))
def gX8_rawValue (M : Mem) (x : Int32) : Mem := if (fX8_is M x) = 0 then (gX8_refuse M (1 : Int32)) else (gX8_told M (fX8_raw M x.toNatClampNeg))
set_option maxHeartbeats 4000000 in
set_option maxRecDepth 100000 in
theorem c_X8_rawValue (l : Launch) (D : va_G) (cy : Nat → ClassId) (b n : Nat) (hn : 133 ≤ n) (M : Mem) (x : Int32) (hmy : MNY M) (hbx : BXS M) (htp : TMP M) : Met l yX8_rawValue wsX8_rawValue ({ frames := 5, cells := 0, slots := 0, locals := 104 } : Room) (CP D cy b n fT M [.ref (b + 124), .int x]) (CQi D cy b n fT (fX8_rawValue M x) (gX8_rawValue M x)) 0 0 (fr b) := by
  refine Met.ofW (cc := cX8_rawValue) (maxL := 2) (ret := (some .int)) (by decide) rfl ?_
  intro p e s m args below meth c s₁ B hml hv
  obtain ⟨rfl, hP, hK, hX⟩ := hv
  have hx := B.exec
  have hb := B.bytes
  have hr := B.returns
  have hts := atoms_spec (ws := wsX8_rawValue) B.pre
  have hown : s.vm.findClass RX8 = some m.cls := findClass_of_methodNamed B.named
  have hlocks := B.notSynchronized
  have hS : va_S (fr b) s.heap s.heap [] := va_S.rf
  have hl := lv_entry ([.ref (b + 124), .int x]) (n := 2) (Nat.le_of_ble_eq_true rfl)
  rw [lg_entry_eq]
  generalize (lg_sl ([.ref (b + 124), .int x]) ++ List.replicate (2 - (lg_sl ([.ref (b + 124), .int x])).length) Slot.unset).toArray = ls at hl ⊢
  have hl : lv_has ls 2 [(0, .ref (b + 124)), (1, .int x)] := hl
  refine lv_aload_n hx hb dX8_rawValue_0 rfl (lv_at hl 0 rfl) ?_
  refine lv_iload_n hx hb dX8_rawValue_1 rfl (lv_at hl 1 rfl) ?_
  refine xc_i (va_runV (As := [.int x]) (rest := []) ⟨hx, hb, hml, hown, hts⟩ (c_X8_is l D cy b n hn M x) (cwV 1 hts gX8_rawValue_X8_is rfl rfl rfl (by decide +kernel) ⟨Nat.le_of_ble_eq_true rfl, Nat.le_of_ble_eq_true rfl⟩) (xPreV hP hK hX hS (by omega) (cell8 (by decide)) rfl) rfl rfl hl.1 rfl (lv_room (Nat.le_of_ble_eq_true rfl)) dX8_rawValue_2 ⟨Nat.le_of_ble_eq_true rfl, Nat.le_of_ble_eq_true rfl⟩) hS (fun H locs hP hS => ?_)
  refine lv_if_ne (tgt := 14) hx hb dX8_rawValue_5 (by decide) (fun c5 => ?_) (fun c5 => ?_)
  · refine lv_aload_n hx hb dX8_rawValue_14 rfl (lv_at hl 0 rfl) ?_
    refine lv_aload_n hx hb dX8_rawValue_15 rfl (lv_at hl 0 rfl) ?_
    refine lv_iload_n hx hb dX8_rawValue_16 rfl (lv_at hl 1 rfl) ?_
    refine W.eq (g2 := F0 m 17 ls (.int (nI (x.toNatClampNeg)) :: .ref (b + 124) :: .ref (b + 124) :: [])) (congrArg (fun z => F0 m 17 ls (.int z :: .ref (b + 124) :: .ref (b + 124) :: [])) (nat_of (is_iv hmy c5).1)) ?_
    refine xc_i (va_runV (As := [.int (nI (x.toNatClampNeg))]) (rest := [.ref (b + 124)]) ⟨hx, hb, hml, hown, hts⟩ (c_X8_raw l D cy b n hn M x.toNatClampNeg (is_iv hmy c5).2 hbx htp) (cwV 1 hts gX8_rawValue_X8_raw rfl rfl rfl (by decide +kernel) ⟨Nat.le_of_ble_eq_true rfl, Nat.le_of_ble_eq_true rfl⟩) (xPreV hP hK hX hS (by omega) (cell8 (by decide)) rfl) rfl rfl hl.1 rfl (lv_room (Nat.le_of_ble_eq_true rfl)) dX8_rawValue_17 ⟨Nat.le_of_ble_eq_true rfl, Nat.le_of_ble_eq_true rfl⟩) hS (fun H locs hP hS => ?_)
    refine xc_i (va_runV (As := [.int (fX8_raw M x.toNatClampNeg)]) (rest := []) ⟨hx, hb, hml, hown, hts⟩ (c_X8_told l D cy b n hn M (fX8_raw M x.toNatClampNeg)) (cwV 1 hts gX8_rawValue_X8_told rfl rfl rfl (by decide +kernel) ⟨Nat.le_of_ble_eq_true rfl, Nat.le_of_ble_eq_true rfl⟩) (xPreV hP hK hX hS (by omega) (cell8 (by decide)) rfl) rfl rfl hl.1 rfl (lv_room (Nat.le_of_ble_eq_true rfl)) dX8_rawValue_20 ⟨Nat.le_of_ble_eq_true rfl, Nat.le_of_ble_eq_true rfl⟩) hS (fun H locs hP hS => ?_)
    exact xe_i hx hb hr hlocks hP hS rfl (by rw [gX8_rawValue, if_neg c5] <;> rfl) (by rw [fX8_rawValue, if_neg c5] <;> rfl) (Nat.le_of_ble_eq_true rfl) (Nat.le_of_ble_eq_true rfl) dX8_rawValue_23
  · refine lv_aload_n hx hb dX8_rawValue_8 rfl (lv_at hl 0 rfl) ?_
    refine lv_iconst (v := 1) hx hb dX8_rawValue_9 (by decide) ?_
    refine xc_i (va_runV (As := [.int (1 : Int32)]) (rest := []) ⟨hx, hb, hml, hown, hts⟩ (c_X8_refuse l D cy b n hn M (1 : Int32)) (cwV 1 hts gX8_rawValue_X8_refuse rfl rfl rfl (by decide +kernel) ⟨Nat.le_of_ble_eq_true rfl, Nat.le_of_ble_eq_true rfl⟩) (xPreV hP hK hX hS (by omega) (cell8 (by decide)) rfl) rfl rfl hl.1 rfl (lv_room (Nat.le_of_ble_eq_true rfl)) dX8_rawValue_10 ⟨Nat.le_of_ble_eq_true rfl, Nat.le_of_ble_eq_true rfl⟩) hS (fun H locs hP hS => ?_)
    exact xe_i hx hb hr hlocks hP hS rfl (by rw [gX8_rawValue, if_pos c5] <;> rfl) (by rw [fX8_rawValue, if_pos c5] <;> rfl) (Nat.le_of_ble_eq_true rfl) (Nat.le_of_ble_eq_true rfl) dX8_rawValue_13
def fX8_readingOf (M : Mem) (x : Int32) : Int32 := if (fX8_is M x) = 0 then (fX8_refuse M (1 : Int32)) else (fX8_told M (fX8_reading M x.toNatClampNeg))
def gX8_readingOf (M : Mem) (x : Int32) : Mem := if (fX8_is M x) = 0 then (gX8_refuse M (1 : Int32)) else (gX8_told M (fX8_reading M x.toNatClampNeg))
set_option maxHeartbeats 4000000 in
set_option maxRecDepth 100000 in
theorem c_X8_readingOf (l : Launch) (D : va_G) (cy : Nat → ClassId) (b n : Nat) (hn : 133 ≤ n) (M : Mem) (x : Int32) (hmy : MNY M) (hbx : BXS M) (htp : TMP M) : Met l yX8_readingOf wsX8_readingOf ({ frames := 6, cells := 0, slots := 0, locals := 126 } : Room) (CP D cy b n fT M [.ref (b + 124), .int x]) (CQi D cy b n fT (fX8_readingOf M x) (gX8_readingOf M x)) 0 0 (fr b) := by
  refine Met.ofW (cc := cX8_readingOf) (maxL := 2) (ret := (some .int)) (by decide) rfl ?_
  intro p e s m args below meth c s₁ B hml hv
  obtain ⟨rfl, hP, hK, hX⟩ := hv
  have hx := B.exec
  have hb := B.bytes
  have hr := B.returns
  have hts := atoms_spec (ws := wsX8_readingOf) B.pre
  have hown : s.vm.findClass RX8 = some m.cls := findClass_of_methodNamed B.named
  have hlocks := B.notSynchronized
  have hS : va_S (fr b) s.heap s.heap [] := va_S.rf
  have hl := lv_entry ([.ref (b + 124), .int x]) (n := 2) (Nat.le_of_ble_eq_true rfl)
  rw [lg_entry_eq]
  generalize (lg_sl ([.ref (b + 124), .int x]) ++ List.replicate (2 - (lg_sl ([.ref (b + 124), .int x])).length) Slot.unset).toArray = ls at hl ⊢
  have hl : lv_has ls 2 [(0, .ref (b + 124)), (1, .int x)] := hl
  refine lv_aload_n hx hb dX8_readingOf_0 rfl (lv_at hl 0 rfl) ?_
  refine lv_iload_n hx hb dX8_readingOf_1 rfl (lv_at hl 1 rfl) ?_
  refine xc_i (va_runV (As := [.int x]) (rest := []) ⟨hx, hb, hml, hown, hts⟩ (c_X8_is l D cy b n hn M x) (cwV 1 hts gX8_readingOf_X8_is rfl rfl rfl (by decide +kernel) ⟨Nat.le_of_ble_eq_true rfl, Nat.le_of_ble_eq_true rfl⟩) (xPreV hP hK hX hS (by omega) (cell8 (by decide)) rfl) rfl rfl hl.1 rfl (lv_room (Nat.le_of_ble_eq_true rfl)) dX8_readingOf_2 ⟨Nat.le_of_ble_eq_true rfl, Nat.le_of_ble_eq_true rfl⟩) hS (fun H locs hP hS => ?_)
  refine lv_if_ne (tgt := 14) hx hb dX8_readingOf_5 (by decide) (fun c5 => ?_) (fun c5 => ?_)
  · refine lv_aload_n hx hb dX8_readingOf_14 rfl (lv_at hl 0 rfl) ?_
    refine lv_aload_n hx hb dX8_readingOf_15 rfl (lv_at hl 0 rfl) ?_
    refine lv_iload_n hx hb dX8_readingOf_16 rfl (lv_at hl 1 rfl) ?_
    refine W.eq (g2 := F0 m 17 ls (.int (nI (x.toNatClampNeg)) :: .ref (b + 124) :: .ref (b + 124) :: [])) (congrArg (fun z => F0 m 17 ls (.int z :: .ref (b + 124) :: .ref (b + 124) :: [])) (nat_of (is_iv hmy c5).1)) ?_
    refine xc_i (va_runV (As := [.int (nI (x.toNatClampNeg))]) (rest := [.ref (b + 124)]) ⟨hx, hb, hml, hown, hts⟩ (c_X8_reading l D cy b n hn M x.toNatClampNeg (is_iv hmy c5).2 hbx htp) (cwV 1 hts gX8_readingOf_X8_reading rfl rfl rfl (by decide +kernel) ⟨Nat.le_of_ble_eq_true rfl, Nat.le_of_ble_eq_true rfl⟩) (xPreV hP hK hX hS (by omega) (cell8 (by decide)) rfl) rfl rfl hl.1 rfl (lv_room (Nat.le_of_ble_eq_true rfl)) dX8_readingOf_17 ⟨Nat.le_of_ble_eq_true rfl, Nat.le_of_ble_eq_true rfl⟩) hS (fun H locs hP hS => ?_)
    refine xc_i (va_runV (As := [.int (fX8_reading M x.toNatClampNeg)]) (rest := []) ⟨hx, hb, hml, hown, hts⟩ (c_X8_told l D cy b n hn M (fX8_reading M x.toNatClampNeg)) (cwV 1 hts gX8_readingOf_X8_told rfl rfl rfl (by decide +kernel) ⟨Nat.le_of_ble_eq_true rfl, Nat.le_of_ble_eq_true rfl⟩) (xPreV hP hK hX hS (by omega) (cell8 (by decide)) rfl) rfl rfl hl.1 rfl (lv_room (Nat.le_of_ble_eq_true rfl)) dX8_readingOf_20 ⟨Nat.le_of_ble_eq_true rfl, Nat.le_of_ble_eq_true rfl⟩) hS (fun H locs hP hS => ?_)
    exact xe_i hx hb hr hlocks hP hS rfl (by rw [gX8_readingOf, if_neg c5] <;> rfl) (by rw [fX8_readingOf, if_neg c5] <;> rfl) (Nat.le_of_ble_eq_true rfl) (Nat.le_of_ble_eq_true rfl) dX8_readingOf_23
  · refine lv_aload_n hx hb dX8_readingOf_8 rfl (lv_at hl 0 rfl) ?_
    refine lv_iconst (v := 1) hx hb dX8_readingOf_9 (by decide) ?_
    refine xc_i (va_runV (As := [.int (1 : Int32)]) (rest := []) ⟨hx, hb, hml, hown, hts⟩ (c_X8_refuse l D cy b n hn M (1 : Int32)) (cwV 1 hts gX8_readingOf_X8_refuse rfl rfl rfl (by decide +kernel) ⟨Nat.le_of_ble_eq_true rfl, Nat.le_of_ble_eq_true rfl⟩) (xPreV hP hK hX hS (by omega) (cell8 (by decide)) rfl) rfl rfl hl.1 rfl (lv_room (Nat.le_of_ble_eq_true rfl)) dX8_readingOf_10 ⟨Nat.le_of_ble_eq_true rfl, Nat.le_of_ble_eq_true rfl⟩) hS (fun H locs hP hS => ?_)
    exact xe_i hx hb hr hlocks hP hS rfl (by rw [gX8_readingOf, if_pos c5] <;> rfl) (by rw [fX8_readingOf, if_pos c5] <;> rfl) (Nat.le_of_ble_eq_true rfl) (Nat.le_of_ble_eq_true rfl) dX8_readingOf_13
def fX8_errorOf (M : Mem) (x : Int32) : Int32 := if (fX8_is M x) = 0 then (fX8_refuse M (1 : Int32)) else (fX8_told M ((fX8_reading M x.toNatClampNeg) - (fX8_around M x.toNatClampNeg)))
def gX8_errorOf (M : Mem) (x : Int32) : Mem := if (fX8_is M x) = 0 then (gX8_refuse M (1 : Int32)) else (gX8_told M ((fX8_reading M x.toNatClampNeg) - (fX8_around M x.toNatClampNeg)))
set_option maxHeartbeats 4000000 in
set_option maxRecDepth 100000 in
theorem c_X8_errorOf (l : Launch) (D : va_G) (cy : Nat → ClassId) (b n : Nat) (hn : 133 ≤ n) (M : Mem) (x : Int32) (hmy : MNY M) (hbx : BXS M) (htp : TMP M) : Met l yX8_errorOf wsX8_errorOf ({ frames := 6, cells := 0, slots := 0, locals := 126 } : Room) (CP D cy b n fT M [.ref (b + 124), .int x]) (CQi D cy b n fT (fX8_errorOf M x) (gX8_errorOf M x)) 0 0 (fr b) := by
  refine Met.ofW (cc := cX8_errorOf) (maxL := 2) (ret := (some .int)) (by decide) rfl ?_
  intro p e s m args below meth c s₁ B hml hv
  obtain ⟨rfl, hP, hK, hX⟩ := hv
  have hx := B.exec
  have hb := B.bytes
  have hr := B.returns
  have hts := atoms_spec (ws := wsX8_errorOf) B.pre
  have hown : s.vm.findClass RX8 = some m.cls := findClass_of_methodNamed B.named
  have hlocks := B.notSynchronized
  have hS : va_S (fr b) s.heap s.heap [] := va_S.rf
  have hl := lv_entry ([.ref (b + 124), .int x]) (n := 2) (Nat.le_of_ble_eq_true rfl)
  rw [lg_entry_eq]
  generalize (lg_sl ([.ref (b + 124), .int x]) ++ List.replicate (2 - (lg_sl ([.ref (b + 124), .int x])).length) Slot.unset).toArray = ls at hl ⊢
  have hl : lv_has ls 2 [(0, .ref (b + 124)), (1, .int x)] := hl
  refine lv_aload_n hx hb dX8_errorOf_0 rfl (lv_at hl 0 rfl) ?_
  refine lv_iload_n hx hb dX8_errorOf_1 rfl (lv_at hl 1 rfl) ?_
  refine xc_i (va_runV (As := [.int x]) (rest := []) ⟨hx, hb, hml, hown, hts⟩ (c_X8_is l D cy b n hn M x) (cwV 1 hts gX8_errorOf_X8_is rfl rfl rfl (by decide +kernel) ⟨Nat.le_of_ble_eq_true rfl, Nat.le_of_ble_eq_true rfl⟩) (xPreV hP hK hX hS (by omega) (cell8 (by decide)) rfl) rfl rfl hl.1 rfl (lv_room (Nat.le_of_ble_eq_true rfl)) dX8_errorOf_2 ⟨Nat.le_of_ble_eq_true rfl, Nat.le_of_ble_eq_true rfl⟩) hS (fun H locs hP hS => ?_)
  refine lv_if_ne (tgt := 14) hx hb dX8_errorOf_5 (by decide) (fun c5 => ?_) (fun c5 => ?_)
  · refine lv_aload_n hx hb dX8_errorOf_14 rfl (lv_at hl 0 rfl) ?_
    refine lv_aload_n hx hb dX8_errorOf_15 rfl (lv_at hl 0 rfl) ?_
    refine lv_iload_n hx hb dX8_errorOf_16 rfl (lv_at hl 1 rfl) ?_
    refine W.eq (g2 := F0 m 17 ls (.int (nI (x.toNatClampNeg)) :: .ref (b + 124) :: .ref (b + 124) :: [])) (congrArg (fun z => F0 m 17 ls (.int z :: .ref (b + 124) :: .ref (b + 124) :: [])) (nat_of (is_iv hmy c5).1)) ?_
    refine xc_i (va_runV (As := [.int (nI (x.toNatClampNeg))]) (rest := [.ref (b + 124)]) ⟨hx, hb, hml, hown, hts⟩ (c_X8_reading l D cy b n hn M x.toNatClampNeg (is_iv hmy c5).2 hbx htp) (cwV 1 hts gX8_errorOf_X8_reading rfl rfl rfl (by decide +kernel) ⟨Nat.le_of_ble_eq_true rfl, Nat.le_of_ble_eq_true rfl⟩) (xPreV hP hK hX hS (by omega) (cell8 (by decide)) rfl) rfl rfl hl.1 rfl (lv_room (Nat.le_of_ble_eq_true rfl)) dX8_errorOf_17 ⟨Nat.le_of_ble_eq_true rfl, Nat.le_of_ble_eq_true rfl⟩) hS (fun H locs hP hS => ?_)
    refine lv_aload_n hx hb dX8_errorOf_20 rfl (lv_at hl 0 rfl) ?_
    refine lv_iload_n hx hb dX8_errorOf_21 rfl (lv_at hl 1 rfl) ?_
    refine W.eq (g2 := F0 m 22 ls (.int (nI (x.toNatClampNeg)) :: .ref (b + 124) :: .int (fX8_reading M x.toNatClampNeg) :: .ref (b + 124) :: [])) (congrArg (fun z => F0 m 22 ls (.int z :: .ref (b + 124) :: .int (fX8_reading M x.toNatClampNeg) :: .ref (b + 124) :: [])) (nat_of (is_iv hmy c5).1)) ?_
    refine xc_i (va_runV (As := [.int (nI (x.toNatClampNeg))]) (rest := [.int (fX8_reading M x.toNatClampNeg), .ref (b + 124)]) ⟨hx, hb, hml, hown, hts⟩ (c_X8_around l D cy b n hn M x.toNatClampNeg (is_iv hmy c5).2 hbx) (cwV 1 hts gX8_errorOf_X8_around rfl rfl rfl (by decide +kernel) ⟨Nat.le_of_ble_eq_true rfl, Nat.le_of_ble_eq_true rfl⟩) (xPreV hP hK hX hS (by omega) (cell8 (by decide)) rfl) rfl rfl hl.1 rfl (lv_room (Nat.le_of_ble_eq_true rfl)) dX8_errorOf_22 ⟨Nat.le_of_ble_eq_true rfl, Nat.le_of_ble_eq_true rfl⟩) hS (fun H locs hP hS => ?_)
    refine lv_isub hx hb dX8_errorOf_25 ?_
    refine xc_i (va_runV (As := [.int ((fX8_reading M x.toNatClampNeg) - (fX8_around M x.toNatClampNeg))]) (rest := []) ⟨hx, hb, hml, hown, hts⟩ (c_X8_told l D cy b n hn M ((fX8_reading M x.toNatClampNeg) - (fX8_around M x.toNatClampNeg))) (cwV 1 hts gX8_errorOf_X8_told rfl rfl rfl (by decide +kernel) ⟨Nat.le_of_ble_eq_true rfl, Nat.le_of_ble_eq_true rfl⟩) (xPreV hP hK hX hS (by omega) (cell8 (by decide)) rfl) rfl rfl hl.1 rfl (lv_room (Nat.le_of_ble_eq_true rfl)) dX8_errorOf_26 ⟨Nat.le_of_ble_eq_true rfl, Nat.le_of_ble_eq_true rfl⟩) hS (fun H locs hP hS => ?_)
    exact xe_i hx hb hr hlocks hP hS rfl (by rw [gX8_errorOf, if_neg c5] <;> rfl) (by rw [fX8_errorOf, if_neg c5] <;> rfl) (Nat.le_of_ble_eq_true rfl) (Nat.le_of_ble_eq_true rfl) dX8_errorOf_29
  · refine lv_aload_n hx hb dX8_errorOf_8 rfl (lv_at hl 0 rfl) ?_
    refine lv_iconst (v := 1) hx hb dX8_errorOf_9 (by decide) ?_
    refine xc_i (va_runV (As := [.int (1 : Int32)]) (rest := []) ⟨hx, hb, hml, hown, hts⟩ (c_X8_refuse l D cy b n hn M (1 : Int32)) (cwV 1 hts gX8_errorOf_X8_refuse rfl rfl rfl (by decide +kernel) ⟨Nat.le_of_ble_eq_true rfl, Nat.le_of_ble_eq_true rfl⟩) (xPreV hP hK hX hS (by omega) (cell8 (by decide)) rfl) rfl rfl hl.1 rfl (lv_room (Nat.le_of_ble_eq_true rfl)) dX8_errorOf_10 ⟨Nat.le_of_ble_eq_true rfl, Nat.le_of_ble_eq_true rfl⟩) hS (fun H locs hP hS => ?_)
    exact xe_i hx hb hr hlocks hP hS rfl (by rw [gX8_errorOf, if_pos c5] <;> rfl) (by rw [fX8_errorOf, if_pos c5] <;> rfl) (Nat.le_of_ble_eq_true rfl) (Nat.le_of_ble_eq_true rfl) dX8_errorOf_13
def fX8_isSettled (M : Mem) (x : Int32) : Int32 := if (fX8_is M x) = 0 then (fX8_refuses M) else (fX8_says M (fX8_hasSettled M x.toNatClampNeg))
def gX8_isSettled (M : Mem) (x : Int32) : Mem := if (fX8_is M x) = 0 then (gX8_refuses M) else (gX8_says M (fX8_hasSettled M x.toNatClampNeg))
set_option maxHeartbeats 4000000 in
set_option maxRecDepth 100000 in
theorem c_X8_isSettled (l : Launch) (D : va_G) (cy : Nat → ClassId) (b n : Nat) (hn : 133 ≤ n) (M : Mem) (x : Int32) (hmy : MNY M) (hbx : BXS M) : Met l yX8_isSettled wsX8_isSettled ({ frames := 5, cells := 0, slots := 0, locals := 104 } : Room) (CP D cy b n fT M [.ref (b + 124), .int x]) (CQi D cy b n fT (fX8_isSettled M x) (gX8_isSettled M x)) 0 0 (fr b) := by
  refine Met.ofW (cc := cX8_isSettled) (maxL := 2) (ret := (some .boolean)) (by decide) rfl ?_
  intro p e s m args below meth c s₁ B hml hv
  obtain ⟨rfl, hP, hK, hX⟩ := hv
  have hx := B.exec
  have hb := B.bytes
  have hr := B.returns
  have hts := atoms_spec (ws := wsX8_isSettled) B.pre
  have hown : s.vm.findClass RX8 = some m.cls := findClass_of_methodNamed B.named
  have hlocks := B.notSynchronized
  have hS : va_S (fr b) s.heap s.heap [] := va_S.rf
  have hl := lv_entry ([.ref (b + 124), .int x]) (n := 2) (Nat.le_of_ble_eq_true rfl)
  rw [lg_entry_eq]
  generalize (lg_sl ([.ref (b + 124), .int x]) ++ List.replicate (2 - (lg_sl ([.ref (b + 124), .int x])).length) Slot.unset).toArray = ls at hl ⊢
  have hl : lv_has ls 2 [(0, .ref (b + 124)), (1, .int x)] := hl
  refine lv_aload_n hx hb dX8_isSettled_0 rfl (lv_at hl 0 rfl) ?_
  refine lv_iload_n hx hb dX8_isSettled_1 rfl (lv_at hl 1 rfl) ?_
  refine xc_i (va_runV (As := [.int x]) (rest := []) ⟨hx, hb, hml, hown, hts⟩ (c_X8_is l D cy b n hn M x) (cwV 1 hts gX8_isSettled_X8_is rfl rfl rfl (by decide +kernel) ⟨Nat.le_of_ble_eq_true rfl, Nat.le_of_ble_eq_true rfl⟩) (xPreV hP hK hX hS (by omega) (cell8 (by decide)) rfl) rfl rfl hl.1 rfl (lv_room (Nat.le_of_ble_eq_true rfl)) dX8_isSettled_2 ⟨Nat.le_of_ble_eq_true rfl, Nat.le_of_ble_eq_true rfl⟩) hS (fun H locs hP hS => ?_)
  refine lv_if_ne (tgt := 13) hx hb dX8_isSettled_5 (by decide) (fun c5 => ?_) (fun c5 => ?_)
  · refine lv_aload_n hx hb dX8_isSettled_13 rfl (lv_at hl 0 rfl) ?_
    refine lv_aload_n hx hb dX8_isSettled_14 rfl (lv_at hl 0 rfl) ?_
    refine lv_iload_n hx hb dX8_isSettled_15 rfl (lv_at hl 1 rfl) ?_
    refine W.eq (g2 := F0 m 16 ls (.int (nI (x.toNatClampNeg)) :: .ref (b + 124) :: .ref (b + 124) :: [])) (congrArg (fun z => F0 m 16 ls (.int z :: .ref (b + 124) :: .ref (b + 124) :: [])) (nat_of (is_iv hmy c5).1)) ?_
    refine xc_i (va_runV (As := [.int (nI (x.toNatClampNeg))]) (rest := [.ref (b + 124)]) ⟨hx, hb, hml, hown, hts⟩ (c_X8_hasSettled l D cy b n hn M x.toNatClampNeg (is_iv hmy c5).2 hbx) (cwV 1 hts gX8_isSettled_X8_hasSettled rfl rfl rfl (by decide +kernel) ⟨Nat.le_of_ble_eq_true rfl, Nat.le_of_ble_eq_true rfl⟩) (xPreV hP hK hX hS (by omega) (cell8 (by decide)) rfl) rfl rfl hl.1 rfl (lv_room (Nat.le_of_ble_eq_true rfl)) dX8_isSettled_16 ⟨Nat.le_of_ble_eq_true rfl, Nat.le_of_ble_eq_true rfl⟩) hS (fun H locs hP hS => ?_)
    refine xc_i (va_runV (As := [.int (fX8_hasSettled M x.toNatClampNeg)]) (rest := []) ⟨hx, hb, hml, hown, hts⟩ (c_X8_says l D cy b n hn M (fX8_hasSettled M x.toNatClampNeg) z_hs) (cwV 1 hts gX8_isSettled_X8_says rfl rfl rfl (by decide +kernel) ⟨Nat.le_of_ble_eq_true rfl, Nat.le_of_ble_eq_true rfl⟩) (xPreV hP hK hX hS (by omega) (cell8 (by decide)) rfl) rfl rfl hl.1 rfl (lv_room (Nat.le_of_ble_eq_true rfl)) dX8_isSettled_19 ⟨Nat.le_of_ble_eq_true rfl, Nat.le_of_ble_eq_true rfl⟩) hS (fun H locs hP hS => ?_)
    exact xe_z hx hb hr hlocks hP hS rfl (by rw [gX8_isSettled, if_neg c5] <;> rfl) (by rw [fX8_isSettled, if_neg c5] <;> rfl) (by unfold fX8_says; exact nar01 (by first | exact z_of | exact z_hs)) (Nat.le_of_ble_eq_true rfl) (Nat.le_of_ble_eq_true rfl) dX8_isSettled_22
  · refine lv_aload_n hx hb dX8_isSettled_8 rfl (lv_at hl 0 rfl) ?_
    refine xc_i (va_runV (As := []) (rest := []) ⟨hx, hb, hml, hown, hts⟩ (c_X8_refuses l D cy b n hn M ) (cwV 0 hts gX8_isSettled_X8_refuses rfl rfl rfl (by decide +kernel) ⟨Nat.le_of_ble_eq_true rfl, Nat.le_of_ble_eq_true rfl⟩) (xPreV hP hK hX hS (by omega) (cell8 (by decide)) rfl) rfl rfl hl.1 rfl (lv_room (Nat.le_of_ble_eq_true rfl)) dX8_isSettled_9 ⟨Nat.le_of_ble_eq_true rfl, Nat.le_of_ble_eq_true rfl⟩) hS (fun H locs hP hS => ?_)
    exact xe_z hx hb hr hlocks hP hS rfl (by rw [gX8_isSettled, if_pos c5] <;> rfl) (by rw [fX8_isSettled, if_pos c5] <;> rfl) (by unfold fX8_refuses; (repeat' split) <;> rfl) (Nat.le_of_ble_eq_true rfl) (Nat.le_of_ble_eq_true rfl) dX8_isSettled_12
def fX8_whyUnusable (M : Mem) (x : Int32) : Int32 := if (fX8_is M x) = 0 then (fX8_refuse M (1 : Int32)) else (fX8_told M (fX8_flaw M x.toNatClampNeg))
def gX8_whyUnusable (M : Mem) (x : Int32) : Mem := if (fX8_is M x) = 0 then (gX8_refuse M (1 : Int32)) else (gX8_told M (fX8_flaw M x.toNatClampNeg))
set_option maxHeartbeats 4000000 in
set_option maxRecDepth 100000 in
theorem c_X8_whyUnusable (l : Launch) (D : va_G) (cy : Nat → ClassId) (b n : Nat) (hn : 133 ≤ n) (M : Mem) (x : Int32) (hmy : MNY M) : Met l yX8_whyUnusable wsX8_whyUnusable ({ frames := 3, cells := 0, slots := 0, locals := 63 } : Room) (CP D cy b n fT M [.ref (b + 124), .int x]) (CQi D cy b n fT (fX8_whyUnusable M x) (gX8_whyUnusable M x)) 0 0 (fr b) := by
  refine Met.ofW (cc := cX8_whyUnusable) (maxL := 2) (ret := (some .int)) (by decide) rfl ?_
  intro p e s m args below meth c s₁ B hml hv
  obtain ⟨rfl, hP, hK, hX⟩ := hv
  have hx := B.exec
  have hb := B.bytes
  have hr := B.returns
  have hts := atoms_spec (ws := wsX8_whyUnusable) B.pre
  have hown : s.vm.findClass RX8 = some m.cls := findClass_of_methodNamed B.named
  have hlocks := B.notSynchronized
  have hS : va_S (fr b) s.heap s.heap [] := va_S.rf
  have hl := lv_entry ([.ref (b + 124), .int x]) (n := 2) (Nat.le_of_ble_eq_true rfl)
  rw [lg_entry_eq]
  generalize (lg_sl ([.ref (b + 124), .int x]) ++ List.replicate (2 - (lg_sl ([.ref (b + 124), .int x])).length) Slot.unset).toArray = ls at hl ⊢
  have hl : lv_has ls 2 [(0, .ref (b + 124)), (1, .int x)] := hl
  refine lv_aload_n hx hb dX8_whyUnusable_0 rfl (lv_at hl 0 rfl) ?_
  refine lv_iload_n hx hb dX8_whyUnusable_1 rfl (lv_at hl 1 rfl) ?_
  refine xc_i (va_runV (As := [.int x]) (rest := []) ⟨hx, hb, hml, hown, hts⟩ (c_X8_is l D cy b n hn M x) (cwV 1 hts gX8_whyUnusable_X8_is rfl rfl rfl (by decide +kernel) ⟨Nat.le_of_ble_eq_true rfl, Nat.le_of_ble_eq_true rfl⟩) (xPreV hP hK hX hS (by omega) (cell8 (by decide)) rfl) rfl rfl hl.1 rfl (lv_room (Nat.le_of_ble_eq_true rfl)) dX8_whyUnusable_2 ⟨Nat.le_of_ble_eq_true rfl, Nat.le_of_ble_eq_true rfl⟩) hS (fun H locs hP hS => ?_)
  refine lv_if_ne (tgt := 14) hx hb dX8_whyUnusable_5 (by decide) (fun c5 => ?_) (fun c5 => ?_)
  · refine lv_aload_n hx hb dX8_whyUnusable_14 rfl (lv_at hl 0 rfl) ?_
    refine lv_aload_n hx hb dX8_whyUnusable_15 rfl (lv_at hl 0 rfl) ?_
    refine lv_iload_n hx hb dX8_whyUnusable_16 rfl (lv_at hl 1 rfl) ?_
    refine W.eq (g2 := F0 m 17 ls (.int (nI (x.toNatClampNeg)) :: .ref (b + 124) :: .ref (b + 124) :: [])) (congrArg (fun z => F0 m 17 ls (.int z :: .ref (b + 124) :: .ref (b + 124) :: [])) (nat_of (is_iv hmy c5).1)) ?_
    refine xc_i (va_runV (As := [.int (nI (x.toNatClampNeg))]) (rest := [.ref (b + 124)]) ⟨hx, hb, hml, hown, hts⟩ (c_X8_flaw l D cy b n hn M x.toNatClampNeg (is_iv hmy c5).2) (cwV 1 hts gX8_whyUnusable_X8_flaw rfl rfl rfl (by decide +kernel) ⟨Nat.le_of_ble_eq_true rfl, Nat.le_of_ble_eq_true rfl⟩) (xPreV hP hK hX hS (by omega) (cell8 (by decide)) rfl) rfl rfl hl.1 rfl (lv_room (Nat.le_of_ble_eq_true rfl)) dX8_whyUnusable_17 ⟨Nat.le_of_ble_eq_true rfl, Nat.le_of_ble_eq_true rfl⟩) hS (fun H locs hP hS => ?_)
    refine xc_i (va_runV (As := [.int (fX8_flaw M x.toNatClampNeg)]) (rest := []) ⟨hx, hb, hml, hown, hts⟩ (c_X8_told l D cy b n hn M (fX8_flaw M x.toNatClampNeg)) (cwV 1 hts gX8_whyUnusable_X8_told rfl rfl rfl (by decide +kernel) ⟨Nat.le_of_ble_eq_true rfl, Nat.le_of_ble_eq_true rfl⟩) (xPreV hP hK hX hS (by omega) (cell8 (by decide)) rfl) rfl rfl hl.1 rfl (lv_room (Nat.le_of_ble_eq_true rfl)) dX8_whyUnusable_20 ⟨Nat.le_of_ble_eq_true rfl, Nat.le_of_ble_eq_true rfl⟩) hS (fun H locs hP hS => ?_)
    exact xe_i hx hb hr hlocks hP hS rfl (by rw [gX8_whyUnusable, if_neg c5] <;> rfl) (by rw [fX8_whyUnusable, if_neg c5] <;> rfl) (Nat.le_of_ble_eq_true rfl) (Nat.le_of_ble_eq_true rfl) dX8_whyUnusable_23
  · refine lv_aload_n hx hb dX8_whyUnusable_8 rfl (lv_at hl 0 rfl) ?_
    refine lv_iconst (v := 1) hx hb dX8_whyUnusable_9 (by decide) ?_
    refine xc_i (va_runV (As := [.int (1 : Int32)]) (rest := []) ⟨hx, hb, hml, hown, hts⟩ (c_X8_refuse l D cy b n hn M (1 : Int32)) (cwV 1 hts gX8_whyUnusable_X8_refuse rfl rfl rfl (by decide +kernel) ⟨Nat.le_of_ble_eq_true rfl, Nat.le_of_ble_eq_true rfl⟩) (xPreV hP hK hX hS (by omega) (cell8 (by decide)) rfl) rfl rfl hl.1 rfl (lv_room (Nat.le_of_ble_eq_true rfl)) dX8_whyUnusable_10 ⟨Nat.le_of_ble_eq_true rfl, Nat.le_of_ble_eq_true rfl⟩) hS (fun H locs hP hS => ?_)
    exact xe_i hx hb hr hlocks hP hS rfl (by rw [gX8_whyUnusable, if_pos c5] <;> rfl) (by rw [fX8_whyUnusable, if_pos c5] <;> rfl) (Nat.le_of_ble_eq_true rfl) (Nat.le_of_ble_eq_true rfl) dX8_whyUnusable_13
def fX8_weightOf (M : Mem) (x : Int32) : Int32 := if (fX8_is M x) = 0 then (fX8_refuse M (1 : Int32)) else (fX8_told M (fX8_weight M x.toNatClampNeg))
def gX8_weightOf (M : Mem) (x : Int32) : Mem := if (fX8_is M x) = 0 then (gX8_refuse M (1 : Int32)) else (gX8_told M (fX8_weight M x.toNatClampNeg))
set_option maxHeartbeats 4000000 in
set_option maxRecDepth 100000 in
theorem c_X8_weightOf (l : Launch) (D : va_G) (cy : Nat → ClassId) (b n : Nat) (hn : 133 ≤ n) (M : Mem) (x : Int32) (hmy : MNY M) : Met l yX8_weightOf wsX8_weightOf ({ frames := 4, cells := 0, slots := 0, locals := 84 } : Room) (CP D cy b n fT M [.ref (b + 124), .int x]) (CQi D cy b n fT (fX8_weightOf M x) (gX8_weightOf M x)) 0 0 (fr b) := by
  refine Met.ofW (cc := cX8_weightOf) (maxL := 2) (ret := (some .int)) (by decide) rfl ?_
  intro p e s m args below meth c s₁ B hml hv
  obtain ⟨rfl, hP, hK, hX⟩ := hv
  have hx := B.exec
  have hb := B.bytes
  have hr := B.returns
  have hts := atoms_spec (ws := wsX8_weightOf) B.pre
  have hown : s.vm.findClass RX8 = some m.cls := findClass_of_methodNamed B.named
  have hlocks := B.notSynchronized
  have hS : va_S (fr b) s.heap s.heap [] := va_S.rf
  have hl := lv_entry ([.ref (b + 124), .int x]) (n := 2) (Nat.le_of_ble_eq_true rfl)
  rw [lg_entry_eq]
  generalize (lg_sl ([.ref (b + 124), .int x]) ++ List.replicate (2 - (lg_sl ([.ref (b + 124), .int x])).length) Slot.unset).toArray = ls at hl ⊢
  have hl : lv_has ls 2 [(0, .ref (b + 124)), (1, .int x)] := hl
  refine lv_aload_n hx hb dX8_weightOf_0 rfl (lv_at hl 0 rfl) ?_
  refine lv_iload_n hx hb dX8_weightOf_1 rfl (lv_at hl 1 rfl) ?_
  refine xc_i (va_runV (As := [.int x]) (rest := []) ⟨hx, hb, hml, hown, hts⟩ (c_X8_is l D cy b n hn M x) (cwV 1 hts gX8_weightOf_X8_is rfl rfl rfl (by decide +kernel) ⟨Nat.le_of_ble_eq_true rfl, Nat.le_of_ble_eq_true rfl⟩) (xPreV hP hK hX hS (by omega) (cell8 (by decide)) rfl) rfl rfl hl.1 rfl (lv_room (Nat.le_of_ble_eq_true rfl)) dX8_weightOf_2 ⟨Nat.le_of_ble_eq_true rfl, Nat.le_of_ble_eq_true rfl⟩) hS (fun H locs hP hS => ?_)
  refine lv_if_ne (tgt := 14) hx hb dX8_weightOf_5 (by decide) (fun c5 => ?_) (fun c5 => ?_)
  · refine lv_aload_n hx hb dX8_weightOf_14 rfl (lv_at hl 0 rfl) ?_
    refine lv_aload_n hx hb dX8_weightOf_15 rfl (lv_at hl 0 rfl) ?_
    refine lv_iload_n hx hb dX8_weightOf_16 rfl (lv_at hl 1 rfl) ?_
    refine W.eq (g2 := F0 m 17 ls (.int (nI (x.toNatClampNeg)) :: .ref (b + 124) :: .ref (b + 124) :: [])) (congrArg (fun z => F0 m 17 ls (.int z :: .ref (b + 124) :: .ref (b + 124) :: [])) (nat_of (is_iv hmy c5).1)) ?_
    refine xc_i (va_runV (As := [.int (nI (x.toNatClampNeg))]) (rest := [.ref (b + 124)]) ⟨hx, hb, hml, hown, hts⟩ (c_X8_weight l D cy b n hn M x.toNatClampNeg (is_iv hmy c5).2) (cwV 1 hts gX8_weightOf_X8_weight rfl rfl rfl (by decide +kernel) ⟨Nat.le_of_ble_eq_true rfl, Nat.le_of_ble_eq_true rfl⟩) (xPreV hP hK hX hS (by omega) (cell8 (by decide)) rfl) rfl rfl hl.1 rfl (lv_room (Nat.le_of_ble_eq_true rfl)) dX8_weightOf_17 ⟨Nat.le_of_ble_eq_true rfl, Nat.le_of_ble_eq_true rfl⟩) hS (fun H locs hP hS => ?_)
    refine xc_i (va_runV (As := [.int (fX8_weight M x.toNatClampNeg)]) (rest := []) ⟨hx, hb, hml, hown, hts⟩ (c_X8_told l D cy b n hn M (fX8_weight M x.toNatClampNeg)) (cwV 1 hts gX8_weightOf_X8_told rfl rfl rfl (by decide +kernel) ⟨Nat.le_of_ble_eq_true rfl, Nat.le_of_ble_eq_true rfl⟩) (xPreV hP hK hX hS (by omega) (cell8 (by decide)) rfl) rfl rfl hl.1 rfl (lv_room (Nat.le_of_ble_eq_true rfl)) dX8_weightOf_20 ⟨Nat.le_of_ble_eq_true rfl, Nat.le_of_ble_eq_true rfl⟩) hS (fun H locs hP hS => ?_)
    exact xe_i hx hb hr hlocks hP hS rfl (by rw [gX8_weightOf, if_neg c5] <;> rfl) (by rw [fX8_weightOf, if_neg c5] <;> rfl) (Nat.le_of_ble_eq_true rfl) (Nat.le_of_ble_eq_true rfl) dX8_weightOf_23
  · refine lv_aload_n hx hb dX8_weightOf_8 rfl (lv_at hl 0 rfl) ?_
    refine lv_iconst (v := 1) hx hb dX8_weightOf_9 (by decide) ?_
    refine xc_i (va_runV (As := [.int (1 : Int32)]) (rest := []) ⟨hx, hb, hml, hown, hts⟩ (c_X8_refuse l D cy b n hn M (1 : Int32)) (cwV 1 hts gX8_weightOf_X8_refuse rfl rfl rfl (by decide +kernel) ⟨Nat.le_of_ble_eq_true rfl, Nat.le_of_ble_eq_true rfl⟩) (xPreV hP hK hX hS (by omega) (cell8 (by decide)) rfl) rfl rfl hl.1 rfl (lv_room (Nat.le_of_ble_eq_true rfl)) dX8_weightOf_10 ⟨Nat.le_of_ble_eq_true rfl, Nat.le_of_ble_eq_true rfl⟩) hS (fun H locs hP hS => ?_)
    exact xe_i hx hb hr hlocks hP hS rfl (by rw [gX8_weightOf, if_pos c5] <;> rfl) (by rw [fX8_weightOf, if_pos c5] <;> rfl) (Nat.le_of_ble_eq_true rfl) (Nat.le_of_ble_eq_true rfl) dX8_weightOf_13
def fX8_calibrationObstacle (M : Mem) (x : Int32) : Int32 := if (fX8_is M x) = 0 then (fX8_refuse M (1 : Int32)) else (fX8_told M (fX8_hindrance M x.toNatClampNeg))
def gX8_calibrationObstacle (M : Mem) (x : Int32) : Mem := if (fX8_is M x) = 0 then (gX8_refuse M (1 : Int32)) else (gX8_told M (fX8_hindrance M x.toNatClampNeg))
set_option maxHeartbeats 4000000 in
set_option maxRecDepth 100000 in
theorem c_X8_calibrationObstacle (l : Launch) (D : va_G) (cy : Nat → ClassId) (b n : Nat) (hn : 133 ≤ n) (M : Mem) (x : Int32) (hmy : MNY M) (hbx : BXS M) : Met l yX8_calibrationObstacle wsX8_calibrationObstacle ({ frames := 6, cells := 0, slots := 0, locals := 125 } : Room) (CP D cy b n fT M [.ref (b + 124), .int x]) (CQi D cy b n fT (fX8_calibrationObstacle M x) (gX8_calibrationObstacle M x)) 0 0 (fr b) := by
  refine Met.ofW (cc := cX8_calibrationObstacle) (maxL := 2) (ret := (some .int)) (by decide) rfl ?_
  intro p e s m args below meth c s₁ B hml hv
  obtain ⟨rfl, hP, hK, hX⟩ := hv
  have hx := B.exec
  have hb := B.bytes
  have hr := B.returns
  have hts := atoms_spec (ws := wsX8_calibrationObstacle) B.pre
  have hown : s.vm.findClass RX8 = some m.cls := findClass_of_methodNamed B.named
  have hlocks := B.notSynchronized
  have hS : va_S (fr b) s.heap s.heap [] := va_S.rf
  have hl := lv_entry ([.ref (b + 124), .int x]) (n := 2) (Nat.le_of_ble_eq_true rfl)
  rw [lg_entry_eq]
  generalize (lg_sl ([.ref (b + 124), .int x]) ++ List.replicate (2 - (lg_sl ([.ref (b + 124), .int x])).length) Slot.unset).toArray = ls at hl ⊢
  have hl : lv_has ls 2 [(0, .ref (b + 124)), (1, .int x)] := hl
  refine lv_aload_n hx hb dX8_calibrationObstacle_0 rfl (lv_at hl 0 rfl) ?_
  refine lv_iload_n hx hb dX8_calibrationObstacle_1 rfl (lv_at hl 1 rfl) ?_
  refine xc_i (va_runV (As := [.int x]) (rest := []) ⟨hx, hb, hml, hown, hts⟩ (c_X8_is l D cy b n hn M x) (cwV 1 hts gX8_calibrationObstacle_X8_is rfl rfl rfl (by decide +kernel) ⟨Nat.le_of_ble_eq_true rfl, Nat.le_of_ble_eq_true rfl⟩) (xPreV hP hK hX hS (by omega) (cell8 (by decide)) rfl) rfl rfl hl.1 rfl (lv_room (Nat.le_of_ble_eq_true rfl)) dX8_calibrationObstacle_2 ⟨Nat.le_of_ble_eq_true rfl, Nat.le_of_ble_eq_true rfl⟩) hS (fun H locs hP hS => ?_)
  refine lv_if_ne (tgt := 14) hx hb dX8_calibrationObstacle_5 (by decide) (fun c5 => ?_) (fun c5 => ?_)
  · refine lv_aload_n hx hb dX8_calibrationObstacle_14 rfl (lv_at hl 0 rfl) ?_
    refine lv_aload_n hx hb dX8_calibrationObstacle_15 rfl (lv_at hl 0 rfl) ?_
    refine lv_iload_n hx hb dX8_calibrationObstacle_16 rfl (lv_at hl 1 rfl) ?_
    refine W.eq (g2 := F0 m 17 ls (.int (nI (x.toNatClampNeg)) :: .ref (b + 124) :: .ref (b + 124) :: [])) (congrArg (fun z => F0 m 17 ls (.int z :: .ref (b + 124) :: .ref (b + 124) :: [])) (nat_of (is_iv hmy c5).1)) ?_
    refine xc_i (va_runV (As := [.int (nI (x.toNatClampNeg))]) (rest := [.ref (b + 124)]) ⟨hx, hb, hml, hown, hts⟩ (c_X8_hindrance l D cy b n hn M x.toNatClampNeg (is_iv hmy c5).2 hbx) (cwV 1 hts gX8_calibrationObstacle_X8_hindrance rfl rfl rfl (by decide +kernel) ⟨Nat.le_of_ble_eq_true rfl, Nat.le_of_ble_eq_true rfl⟩) (xPreV hP hK hX hS (by omega) (cell8 (by decide)) rfl) rfl rfl hl.1 rfl (lv_room (Nat.le_of_ble_eq_true rfl)) dX8_calibrationObstacle_17 ⟨Nat.le_of_ble_eq_true rfl, Nat.le_of_ble_eq_true rfl⟩) hS (fun H locs hP hS => ?_)
    refine xc_i (va_runV (As := [.int (fX8_hindrance M x.toNatClampNeg)]) (rest := []) ⟨hx, hb, hml, hown, hts⟩ (c_X8_told l D cy b n hn M (fX8_hindrance M x.toNatClampNeg)) (cwV 1 hts gX8_calibrationObstacle_X8_told rfl rfl rfl (by decide +kernel) ⟨Nat.le_of_ble_eq_true rfl, Nat.le_of_ble_eq_true rfl⟩) (xPreV hP hK hX hS (by omega) (cell8 (by decide)) rfl) rfl rfl hl.1 rfl (lv_room (Nat.le_of_ble_eq_true rfl)) dX8_calibrationObstacle_20 ⟨Nat.le_of_ble_eq_true rfl, Nat.le_of_ble_eq_true rfl⟩) hS (fun H locs hP hS => ?_)
    exact xe_i hx hb hr hlocks hP hS rfl (by rw [gX8_calibrationObstacle, if_neg c5] <;> rfl) (by rw [fX8_calibrationObstacle, if_neg c5] <;> rfl) (Nat.le_of_ble_eq_true rfl) (Nat.le_of_ble_eq_true rfl) dX8_calibrationObstacle_23
  · refine lv_aload_n hx hb dX8_calibrationObstacle_8 rfl (lv_at hl 0 rfl) ?_
    refine lv_iconst (v := 1) hx hb dX8_calibrationObstacle_9 (by decide) ?_
    refine xc_i (va_runV (As := [.int (1 : Int32)]) (rest := []) ⟨hx, hb, hml, hown, hts⟩ (c_X8_refuse l D cy b n hn M (1 : Int32)) (cwV 1 hts gX8_calibrationObstacle_X8_refuse rfl rfl rfl (by decide +kernel) ⟨Nat.le_of_ble_eq_true rfl, Nat.le_of_ble_eq_true rfl⟩) (xPreV hP hK hX hS (by omega) (cell8 (by decide)) rfl) rfl rfl hl.1 rfl (lv_room (Nat.le_of_ble_eq_true rfl)) dX8_calibrationObstacle_10 ⟨Nat.le_of_ble_eq_true rfl, Nat.le_of_ble_eq_true rfl⟩) hS (fun H locs hP hS => ?_)
    exact xe_i hx hb hr hlocks hP hS rfl (by rw [gX8_calibrationObstacle, if_pos c5] <;> rfl) (by rw [fX8_calibrationObstacle, if_pos c5] <;> rfl) (Nat.le_of_ble_eq_true rfl) (Nat.le_of_ble_eq_true rfl) dX8_calibrationObstacle_13
def LX8_usable_4f  : Nat → Mem → Int32 → Nat → Int32
  | 0, _, _, _ => 0
  | k + 1, M, v, j => if (M 127 5) ≤ (nI (j)) then v else (if (fX8_flaw M j) = 0 then (LX8_usable_4f k M (v + 1) (j + 1)) else (LX8_usable_4f k M v (j + 1)))
set_option maxHeartbeats 4000000 in
set_option maxRecDepth 100000 in
theorem cl_X8_usable_4 (l : Launch) (D : va_G) (cy : Nat → ClassId) (b n : Nat) (hn : 133 ≤ n)   {p : Program} {e : Env} {s : State} {m : MethodId} {args : Array Value} {below : List Frame} {meth : Method} {c : Code} (hx : p.tables.exec = Jvm.exec) (hb : c.code = cX8_usable) (hr : meth.sig.returnType = (some .int)) (hlocks : meth.locks = false) (hml : c.maxLocals = 3) (hown : s.vm.findClass RX8 = some m.cls) (hts : ∀ w ∈ wsX8_usable, w.before args s = true) (hK : va_K D vwCl (tysW cy) s) (hX : SX b s)  : ∀ (k : Nat) (M : Mem) (v : Int32) (j : Nat) (H : Heap) (locs : List Loc) (ls : Array Slot), MNY M → j ≤ 6 → 7 ≤ j + k → va_P D vwCl (wL cy b fT M n) H → va_S (fr b) s.heap H locs → lv_has ls 3 [(0, .ref (b + 124)), (1, .int v), (2, .int (nI (j)))] → W p l e (headSpec wsX8_usable ({ frames := 3, cells := 0, slots := 0, locals := 63 } : Room)).room s m args below meth c H locs 0 0 (MQ below (CQi D cy b n fT (LX8_usable_4f k M v j) M) args s 0 0 (fr b)) (F0 m 4 ls []) := by
  have lk0 := hts (.fieldLink RX8 16 "HygrometerRoomModel" "now" "[I") (by decide +kernel)
  have inc8 : ∀ w ∈ u_ws RX8 TX8 22, w ∈ wsX8_usable := by decide +kernel
  intro k
  induction k with
  | zero => intro M v j H locs ls hmy hj hk hP hS hl; omega
  | succ k ih =>
    intro M v j H locs ls hmy hj hk hP hS hl
    refine lv_iload_n hx hb dX8_usable_4 rfl (lv_at hl 2 rfl) ?_
    refine lv_aload_n hx hb dX8_usable_5 rfl (lv_at hl 0 rfl) ?_
    refine xg (C := RX8) (T := TX8) (N := 22) (v := .ref (b + 127)) hx hb hts inc8 hown hK hP (by omega) (cell8 (by decide)) rfl 3 (by decide) lk0 (fun _ h => h) rfl dX8_usable_6 ?_
    refine lv_iconst (v := 5) hx hb dX8_usable_9 (by decide) ?_
    refine xil (j := 5) hx hb hK hP (by omega) (by decide) (ixIn (a := 5) rfl (by first | decide | (simp only [lenOf]; omega) | omega) (by decide)) rfl dX8_usable_10 ?_
    refine lv_icmp_ge (tgt := 31) hx hb dX8_usable_11 (by decide) (fun c11 => ?_) (fun c11 => ?_)
    · refine lv_iload_n hx hb dX8_usable_31 rfl (lv_at hl 1 rfl) ?_
      exact xe_i hx hb hr hlocks hP hS rfl rfl (by rw [LX8_usable_4f, if_pos c11] <;> rfl) (Nat.le_of_ble_eq_true rfl) (Nat.le_of_ble_eq_true rfl) dX8_usable_32
    · have hj6 := ub_lt hmy hj c11
      refine lv_aload_n hx hb dX8_usable_14 rfl (lv_at hl 0 rfl) ?_
      refine lv_iload_n hx hb dX8_usable_15 rfl (lv_at hl 2 rfl) ?_
      refine xc_i (va_runV (As := [.int (nI (j))]) (rest := []) ⟨hx, hb, hml, hown, hts⟩ (c_X8_flaw l D cy b n hn M j (by omega)) (cwV 1 hts gX8_usable_X8_flaw rfl rfl rfl (by decide +kernel) ⟨Nat.le_of_ble_eq_true rfl, Nat.le_of_ble_eq_true rfl⟩) (xPreV hP hK hX hS (by omega) (cell8 (by decide)) rfl) rfl rfl hl.1 rfl (lv_room (Nat.le_of_ble_eq_true rfl)) dX8_usable_16 ⟨Nat.le_of_ble_eq_true rfl, Nat.le_of_ble_eq_true rfl⟩) hS (fun H locs hP hS => ?_)
      refine lv_if_ne (tgt := 25) hx hb dX8_usable_19 (by decide) (fun c19 => ?_) (fun c19 => ?_)
      · refine lv_iinc (v := nI (j + 1)) (lv' := [(2, .int (nI (j + 1))), (0, .ref (b + 124)), (1, .int v)]) hx hb dX8_usable_25 hl (k := 2) rfl (ixAdd (a := j) (c := 1) (d := j + 1) rfl rfl (by omega)) (by decide) rfl (fun ls hl => ?_)
        refine lv_goto (tgt := 4) hx hb dX8_usable_28 (by decide) ?_
        rw [show LX8_usable_4f (k + 1) M v j = LX8_usable_4f k M v (j + 1) from (by rw [LX8_usable_4f, if_neg c11, if_neg c19])]
        exact ih M v (j + 1) H locs ls hmy (by omega) (by omega) hP hS (lv_sub hl [1, 2, 0] rfl)
      · refine lv_iinc (v := v + 1) (lv' := [(1, .int (v + 1)), (0, .ref (b + 124)), (2, .int (nI (j)))]) hx hb dX8_usable_22 hl (k := 1) rfl rfl (by decide) rfl (fun ls hl => ?_)
        refine lv_iinc (v := nI (j + 1)) (lv' := [(2, .int (nI (j + 1))), (1, .int (v + 1)), (0, .ref (b + 124))]) hx hb dX8_usable_25 hl (k := 2) rfl (ixAdd (a := j) (c := 1) (d := j + 1) rfl rfl (by omega)) (by decide) rfl (fun ls hl => ?_)
        refine lv_goto (tgt := 4) hx hb dX8_usable_28 (by decide) ?_
        rw [show LX8_usable_4f (k + 1) M v j = LX8_usable_4f k M (v + 1) (j + 1) from (by rw [LX8_usable_4f, if_neg c11, if_pos c19])]
        exact ih M (v + 1) (j + 1) H locs ls hmy (by omega) (by omega) hP hS (lv_sub hl [2, 1, 0] rfl)

def fX8_usable (M : Mem) : Int32 := LX8_usable_4f 7 M (0 : Int32) 0
set_option maxHeartbeats 4000000 in
set_option maxRecDepth 100000 in
theorem c_X8_usable (l : Launch) (D : va_G) (cy : Nat → ClassId) (b n : Nat) (hn : 133 ≤ n) (M : Mem)  (hmy : MNY M) : Met l yX8_usable wsX8_usable ({ frames := 3, cells := 0, slots := 0, locals := 63 } : Room) (CP D cy b n fT M [.ref (b + 124)]) (CQi D cy b n fT (fX8_usable M) M) 0 0 (fr b) := by
  refine Met.ofW (cc := cX8_usable) (maxL := 3) (ret := (some .int)) (by decide) rfl ?_
  intro p e s m args below meth c s₁ B hml hv
  obtain ⟨rfl, hP, hK, hX⟩ := hv
  have hx := B.exec
  have hb := B.bytes
  have hr := B.returns
  have hts := atoms_spec (ws := wsX8_usable) B.pre
  have hown : s.vm.findClass RX8 = some m.cls := findClass_of_methodNamed B.named
  have hlocks := B.notSynchronized
  have hS : va_S (fr b) s.heap s.heap [] := va_S.rf
  have hl := lv_entry ([.ref (b + 124)]) (n := 3) (Nat.le_of_ble_eq_true rfl)
  rw [lg_entry_eq]
  generalize (lg_sl ([.ref (b + 124)]) ++ List.replicate (3 - (lg_sl ([.ref (b + 124)])).length) Slot.unset).toArray = ls at hl ⊢
  have hl : lv_has ls 3 [(0, .ref (b + 124))] := hl
  refine lv_iconst (v := 0) hx hb dX8_usable_0 (by decide) ?_
  refine lv_istore_n (lv' := [(1, .int (0 : Int32)), (0, .ref (b + 124))]) hx hb dX8_usable_1 rfl hl (by decide) rfl (fun ls hl => ?_)
  refine lv_iconst (v := 0) hx hb dX8_usable_2 (by decide) ?_
  refine lv_istore_n (lv' := [(2, .int (0 : Int32)), (1, .int (0 : Int32)), (0, .ref (b + 124))]) hx hb dX8_usable_3 rfl hl (by decide) rfl (fun ls hl => ?_)
  rw [show fX8_usable M = LX8_usable_4f 7 M (0 : Int32) 0 from (by rw [fX8_usable])]
  exact cl_X8_usable_4 l D cy b n hn  hx hb hr hlocks hml hown hts hK hX 7 M (0 : Int32) 0 s.heap [] ls hmy (by omega) (by omega) hP hS (lv_sub hl [2, 1, 0] rfl)
def fX8_usableInstruments (M : Mem) : Int32 := fX8_told M (fX8_usable M)
def gX8_usableInstruments (M : Mem) : Mem := gX8_told M (fX8_usable M)
set_option maxHeartbeats 4000000 in
set_option maxRecDepth 100000 in
theorem c_X8_usableInstruments (l : Launch) (D : va_G) (cy : Nat → ClassId) (b n : Nat) (hn : 133 ≤ n) (M : Mem)  (hmy : MNY M) : Met l yX8_usableInstruments wsX8_usableInstruments ({ frames := 4, cells := 0, slots := 0, locals := 85 } : Room) (CP D cy b n fT M [.ref (b + 124)]) (CQi D cy b n fT (fX8_usableInstruments M) (gX8_usableInstruments M)) 0 0 (fr b) := by
  refine Met.ofW (cc := cX8_usableInstruments) (maxL := 1) (ret := (some .int)) (by decide) rfl ?_
  intro p e s m args below meth c s₁ B hml hv
  obtain ⟨rfl, hP, hK, hX⟩ := hv
  have hx := B.exec
  have hb := B.bytes
  have hr := B.returns
  have hts := atoms_spec (ws := wsX8_usableInstruments) B.pre
  have hown : s.vm.findClass RX8 = some m.cls := findClass_of_methodNamed B.named
  have hlocks := B.notSynchronized
  have hS : va_S (fr b) s.heap s.heap [] := va_S.rf
  have hl := lv_entry ([.ref (b + 124)]) (n := 1) (Nat.le_of_ble_eq_true rfl)
  rw [lg_entry_eq]
  generalize (lg_sl ([.ref (b + 124)]) ++ List.replicate (1 - (lg_sl ([.ref (b + 124)])).length) Slot.unset).toArray = ls at hl ⊢
  have hl : lv_has ls 1 [(0, .ref (b + 124))] := hl
  refine lv_aload_n hx hb dX8_usableInstruments_0 rfl (lv_at hl 0 rfl) ?_
  refine lv_aload_n hx hb dX8_usableInstruments_1 rfl (lv_at hl 0 rfl) ?_
  refine xc_i (va_runV (As := []) (rest := [.ref (b + 124)]) ⟨hx, hb, hml, hown, hts⟩ (c_X8_usable l D cy b n hn M (by first | assumption | omega)) (cwV 0 hts gX8_usableInstruments_X8_usable rfl rfl rfl (by decide +kernel) ⟨Nat.le_of_ble_eq_true rfl, Nat.le_of_ble_eq_true rfl⟩) (xPreV hP hK hX hS (by omega) (cell8 (by decide)) rfl) rfl rfl hl.1 rfl (lv_room (Nat.le_of_ble_eq_true rfl)) dX8_usableInstruments_2 ⟨Nat.le_of_ble_eq_true rfl, Nat.le_of_ble_eq_true rfl⟩) hS (fun H locs hP hS => ?_)
  refine xc_i (va_runV (As := [.int (fX8_usable M)]) (rest := []) ⟨hx, hb, hml, hown, hts⟩ (c_X8_told l D cy b n hn M (fX8_usable M)) (cwV 1 hts gX8_usableInstruments_X8_told rfl rfl rfl (by decide +kernel) ⟨Nat.le_of_ble_eq_true rfl, Nat.le_of_ble_eq_true rfl⟩) (xPreV hP hK hX hS (by omega) (cell8 (by decide)) rfl) rfl rfl hl.1 rfl (lv_room (Nat.le_of_ble_eq_true rfl)) dX8_usableInstruments_5 ⟨Nat.le_of_ble_eq_true rfl, Nat.le_of_ble_eq_true rfl⟩) hS (fun H locs hP hS => ?_)
  exact xe_i hx hb hr hlocks hP hS rfl (by rw [gX8_usableInstruments] <;> rfl) (by rw [fX8_usableInstruments] <;> rfl) (Nat.le_of_ble_eq_true rfl) (Nat.le_of_ble_eq_true rfl) dX8_usableInstruments_8
def LX8_blend_6f  : Nat → Mem → Int32 → Int32 → Nat → Int32
  | 0, _, _, _, _ => 0
  | k + 1, M, v, w, j => if (M 127 5) ≤ (nI (j)) then (if w = 0 then (fX8_told M ((-1) : Int32)) else (fX8_told M (v / w))) else (LX8_blend_6f k M (v + ((fX8_reading M j) * (fX8_weight M j))) (w + (fX8_weight M j)) (j + 1))
def LX8_blend_6g  : Nat → Mem → Int32 → Int32 → Nat → Mem
  | 0, M, _, _, _ => M
  | k + 1, M, v, w, j => if (M 127 5) ≤ (nI (j)) then (if w = 0 then (gX8_told M ((-1) : Int32)) else (gX8_told M (v / w))) else (LX8_blend_6g k M (v + ((fX8_reading M j) * (fX8_weight M j))) (w + (fX8_weight M j)) (j + 1))
set_option maxHeartbeats 4000000 in
set_option maxRecDepth 100000 in
theorem cl_X8_blend_6 (l : Launch) (D : va_G) (cy : Nat → ClassId) (b n : Nat) (hn : 133 ≤ n)   {p : Program} {e : Env} {s : State} {m : MethodId} {args : Array Value} {below : List Frame} {meth : Method} {c : Code} (hx : p.tables.exec = Jvm.exec) (hb : c.code = cX8_blend) (hr : meth.sig.returnType = (some .int)) (hlocks : meth.locks = false) (hml : c.maxLocals = 4) (hown : s.vm.findClass RX8 = some m.cls) (hts : ∀ w ∈ wsX8_blend, w.before args s = true) (hK : va_K D vwCl (tysW cy) s) (hX : SX b s)  : ∀ (k : Nat) (M : Mem) (v : Int32) (w : Int32) (j : Nat) (H : Heap) (locs : List Loc) (ls : Array Slot), MNY M → BXS M → TMP M → j ≤ 6 → 7 ≤ j + k → va_P D vwCl (wL cy b fT M n) H → va_S (fr b) s.heap H locs → lv_has ls 4 [(0, .ref (b + 124)), (1, .int v), (2, .int w), (3, .int (nI (j)))] → W p l e (headSpec wsX8_blend ({ frames := 6, cells := 0, slots := 0, locals := 126 } : Room)).room s m args below meth c H locs 0 0 (MQ below (CQi D cy b n fT (LX8_blend_6f k M v w j) (LX8_blend_6g k M v w j)) args s 0 0 (fr b)) (F0 m 6 ls []) := by
  have lk0 := hts (.fieldLink RX8 16 "HygrometerRoomModel" "now" "[I") (by decide +kernel)
  have inc8 : ∀ w ∈ u_ws RX8 TX8 22, w ∈ wsX8_blend := by decide +kernel
  intro k
  induction k with
  | zero => intro M v w j H locs ls hmy hbx htp hj hk hP hS hl; omega
  | succ k ih =>
    intro M v w j H locs ls hmy hbx htp hj hk hP hS hl
    refine lv_iload_n hx hb dX8_blend_6 rfl (lv_at hl 3 rfl) ?_
    refine lv_aload_n hx hb dX8_blend_7 rfl (lv_at hl 0 rfl) ?_
    refine xg (C := RX8) (T := TX8) (N := 22) (v := .ref (b + 127)) hx hb hts inc8 hown hK hP (by omega) (cell8 (by decide)) rfl 3 (by decide) lk0 (fun _ h => h) rfl dX8_blend_8 ?_
    refine lv_iconst (v := 5) hx hb dX8_blend_11 (by decide) ?_
    refine xil (j := 5) hx hb hK hP (by omega) (by decide) (ixIn (a := 5) rfl (by first | decide | (simp only [lenOf]; omega) | omega) (by decide)) rfl dX8_blend_12 ?_
    refine lv_icmp_ge (tgt := 44) hx hb dX8_blend_13 (by decide) (fun c13 => ?_) (fun c13 => ?_)
    · refine lv_iload_n hx hb dX8_blend_44 rfl (lv_at hl 2 rfl) ?_
      refine lv_if_ne (tgt := 54) hx hb dX8_blend_45 (by decide) (fun c45 => ?_) (fun c45 => ?_)
      · refine lv_aload_n hx hb dX8_blend_54 rfl (lv_at hl 0 rfl) ?_
        refine lv_iload_n hx hb dX8_blend_55 rfl (lv_at hl 1 rfl) ?_
        refine lv_iload_n hx hb dX8_blend_56 rfl (lv_at hl 2 rfl) ?_
        refine lv_idiv hx hb dX8_blend_57 c45 ?_
        refine xc_i (va_runV (As := [.int (v / w)]) (rest := []) ⟨hx, hb, hml, hown, hts⟩ (c_X8_told l D cy b n hn M (v / w)) (cwV 1 hts gX8_blend_X8_told rfl rfl rfl (by decide +kernel) ⟨Nat.le_of_ble_eq_true rfl, Nat.le_of_ble_eq_true rfl⟩) (xPreV hP hK hX hS (by omega) (cell8 (by decide)) rfl) rfl rfl hl.1 rfl (lv_room (Nat.le_of_ble_eq_true rfl)) dX8_blend_58 ⟨Nat.le_of_ble_eq_true rfl, Nat.le_of_ble_eq_true rfl⟩) hS (fun H locs hP hS => ?_)
        exact xe_i hx hb hr hlocks hP hS rfl (by rw [LX8_blend_6g, if_pos c13, if_neg c45] <;> rfl) (by rw [LX8_blend_6f, if_pos c13, if_neg c45] <;> rfl) (Nat.le_of_ble_eq_true rfl) (Nat.le_of_ble_eq_true rfl) dX8_blend_61
      · refine lv_aload_n hx hb dX8_blend_48 rfl (lv_at hl 0 rfl) ?_
        refine lv_iconst (v := (-1)) hx hb dX8_blend_49 (by decide) ?_
        refine xc_i (va_runV (As := [.int ((-1) : Int32)]) (rest := []) ⟨hx, hb, hml, hown, hts⟩ (c_X8_told l D cy b n hn M ((-1) : Int32)) (cwV 1 hts gX8_blend_X8_told rfl rfl rfl (by decide +kernel) ⟨Nat.le_of_ble_eq_true rfl, Nat.le_of_ble_eq_true rfl⟩) (xPreV hP hK hX hS (by omega) (cell8 (by decide)) rfl) rfl rfl hl.1 rfl (lv_room (Nat.le_of_ble_eq_true rfl)) dX8_blend_50 ⟨Nat.le_of_ble_eq_true rfl, Nat.le_of_ble_eq_true rfl⟩) hS (fun H locs hP hS => ?_)
        exact xe_i hx hb hr hlocks hP hS rfl (by rw [LX8_blend_6g, if_pos c13, if_pos c45] <;> rfl) (by rw [LX8_blend_6f, if_pos c13, if_pos c45] <;> rfl) (Nat.le_of_ble_eq_true rfl) (Nat.le_of_ble_eq_true rfl) dX8_blend_53
    · have hj6 := ub_lt hmy hj c13
      refine lv_iload_n hx hb dX8_blend_16 rfl (lv_at hl 1 rfl) ?_
      refine lv_aload_n hx hb dX8_blend_17 rfl (lv_at hl 0 rfl) ?_
      refine lv_iload_n hx hb dX8_blend_18 rfl (lv_at hl 3 rfl) ?_
      refine xc_i (va_runV (As := [.int (nI (j))]) (rest := [.int v]) ⟨hx, hb, hml, hown, hts⟩ (c_X8_reading l D cy b n hn M j (by omega) hbx htp) (cwV 1 hts gX8_blend_X8_reading rfl rfl rfl (by decide +kernel) ⟨Nat.le_of_ble_eq_true rfl, Nat.le_of_ble_eq_true rfl⟩) (xPreV hP hK hX hS (by omega) (cell8 (by decide)) rfl) rfl rfl hl.1 rfl (lv_room (Nat.le_of_ble_eq_true rfl)) dX8_blend_19 ⟨Nat.le_of_ble_eq_true rfl, Nat.le_of_ble_eq_true rfl⟩) hS (fun H locs hP hS => ?_)
      refine lv_aload_n hx hb dX8_blend_22 rfl (lv_at hl 0 rfl) ?_
      refine lv_iload_n hx hb dX8_blend_23 rfl (lv_at hl 3 rfl) ?_
      refine xc_i (va_runV (As := [.int (nI (j))]) (rest := [.int (fX8_reading M j), .int v]) ⟨hx, hb, hml, hown, hts⟩ (c_X8_weight l D cy b n hn M j (by omega)) (cwV 1 hts gX8_blend_X8_weight rfl rfl rfl (by decide +kernel) ⟨Nat.le_of_ble_eq_true rfl, Nat.le_of_ble_eq_true rfl⟩) (xPreV hP hK hX hS (by omega) (cell8 (by decide)) rfl) rfl rfl hl.1 rfl (lv_room (Nat.le_of_ble_eq_true rfl)) dX8_blend_24 ⟨Nat.le_of_ble_eq_true rfl, Nat.le_of_ble_eq_true rfl⟩) hS (fun H locs hP hS => ?_)
      refine lv_imul hx hb dX8_blend_27 ?_
      refine lv_iadd hx hb dX8_blend_28 ?_
      refine lv_istore_n (lv' := [(1, .int (v + ((fX8_reading M j) * (fX8_weight M j)))), (0, .ref (b + 124)), (2, .int w), (3, .int (nI (j)))]) hx hb dX8_blend_29 rfl hl (by decide) rfl (fun ls hl => ?_)
      refine lv_iload_n hx hb dX8_blend_30 rfl (lv_at hl 2 rfl) ?_
      refine lv_aload_n hx hb dX8_blend_31 rfl (lv_at hl 1 rfl) ?_
      refine lv_iload_n hx hb dX8_blend_32 rfl (lv_at hl 3 rfl) ?_
      refine xc_i (va_runV (As := [.int (nI (j))]) (rest := [.int w]) ⟨hx, hb, hml, hown, hts⟩ (c_X8_weight l D cy b n hn M j (by omega)) (cwV 1 hts gX8_blend_X8_weight rfl rfl rfl (by decide +kernel) ⟨Nat.le_of_ble_eq_true rfl, Nat.le_of_ble_eq_true rfl⟩) (xPreV hP hK hX hS (by omega) (cell8 (by decide)) rfl) rfl rfl hl.1 rfl (lv_room (Nat.le_of_ble_eq_true rfl)) dX8_blend_33 ⟨Nat.le_of_ble_eq_true rfl, Nat.le_of_ble_eq_true rfl⟩) hS (fun H locs hP hS => ?_)
      refine lv_iadd hx hb dX8_blend_36 ?_
      refine lv_istore_n (lv' := [(2, .int (w + (fX8_weight M j))), (1, .int (v + ((fX8_reading M j) * (fX8_weight M j)))), (0, .ref (b + 124)), (3, .int (nI (j)))]) hx hb dX8_blend_37 rfl hl (by decide) rfl (fun ls hl => ?_)
      refine lv_iinc (v := nI (j + 1)) (lv' := [(3, .int (nI (j + 1))), (2, .int (w + (fX8_weight M j))), (1, .int (v + ((fX8_reading M j) * (fX8_weight M j)))), (0, .ref (b + 124))]) hx hb dX8_blend_38 hl (k := 3) rfl (ixAdd (a := j) (c := 1) (d := j + 1) rfl rfl (by omega)) (by decide) rfl (fun ls hl => ?_)
      refine lv_goto (tgt := 6) hx hb dX8_blend_41 (by decide) ?_
      rw [show LX8_blend_6f (k + 1) M v w j = LX8_blend_6f k M (v + ((fX8_reading M j) * (fX8_weight M j))) (w + (fX8_weight M j)) (j + 1) from (by rw [LX8_blend_6f, if_neg c13]), show LX8_blend_6g (k + 1) M v w j = LX8_blend_6g k M (v + ((fX8_reading M j) * (fX8_weight M j))) (w + (fX8_weight M j)) (j + 1) from (by rw [LX8_blend_6g, if_neg c13])]
      exact ih M (v + ((fX8_reading M j) * (fX8_weight M j))) (w + (fX8_weight M j)) (j + 1) H locs ls hmy hbx htp (by omega) (by omega) hP hS (lv_sub hl [3, 2, 1, 0] rfl)

def fX8_blend (M : Mem) : Int32 := LX8_blend_6f 7 M (0 : Int32) (0 : Int32) 0
def gX8_blend (M : Mem) : Mem := LX8_blend_6g 7 M (0 : Int32) (0 : Int32) 0
set_option maxHeartbeats 4000000 in
set_option maxRecDepth 100000 in
theorem c_X8_blend (l : Launch) (D : va_G) (cy : Nat → ClassId) (b n : Nat) (hn : 133 ≤ n) (M : Mem)  (hmy : MNY M) (hbx : BXS M) (htp : TMP M) : Met l yX8_blend wsX8_blend ({ frames := 6, cells := 0, slots := 0, locals := 126 } : Room) (CP D cy b n fT M [.ref (b + 124)]) (CQi D cy b n fT (fX8_blend M) (gX8_blend M)) 0 0 (fr b) := by
  refine Met.ofW (cc := cX8_blend) (maxL := 4) (ret := (some .int)) (by decide) rfl ?_
  intro p e s m args below meth c s₁ B hml hv
  obtain ⟨rfl, hP, hK, hX⟩ := hv
  have hx := B.exec
  have hb := B.bytes
  have hr := B.returns
  have hts := atoms_spec (ws := wsX8_blend) B.pre
  have hown : s.vm.findClass RX8 = some m.cls := findClass_of_methodNamed B.named
  have hlocks := B.notSynchronized
  have hS : va_S (fr b) s.heap s.heap [] := va_S.rf
  have hl := lv_entry ([.ref (b + 124)]) (n := 4) (Nat.le_of_ble_eq_true rfl)
  rw [lg_entry_eq]
  generalize (lg_sl ([.ref (b + 124)]) ++ List.replicate (4 - (lg_sl ([.ref (b + 124)])).length) Slot.unset).toArray = ls at hl ⊢
  have hl : lv_has ls 4 [(0, .ref (b + 124))] := hl
  refine lv_iconst (v := 0) hx hb dX8_blend_0 (by decide) ?_
  refine lv_istore_n (lv' := [(1, .int (0 : Int32)), (0, .ref (b + 124))]) hx hb dX8_blend_1 rfl hl (by decide) rfl (fun ls hl => ?_)
  refine lv_iconst (v := 0) hx hb dX8_blend_2 (by decide) ?_
  refine lv_istore_n (lv' := [(2, .int (0 : Int32)), (1, .int (0 : Int32)), (0, .ref (b + 124))]) hx hb dX8_blend_3 rfl hl (by decide) rfl (fun ls hl => ?_)
  refine lv_iconst (v := 0) hx hb dX8_blend_4 (by decide) ?_
  refine lv_istore_n (lv' := [(3, .int (0 : Int32)), (2, .int (0 : Int32)), (1, .int (0 : Int32)), (0, .ref (b + 124))]) hx hb dX8_blend_5 rfl hl (by decide) rfl (fun ls hl => ?_)
  rw [show fX8_blend M = LX8_blend_6f 7 M (0 : Int32) (0 : Int32) 0 from (by rw [fX8_blend]), show gX8_blend M = LX8_blend_6g 7 M (0 : Int32) (0 : Int32) 0 from (by rw [gX8_blend])]
  exact cl_X8_blend_6 l D cy b n hn  hx hb hr hlocks hml hown hts hK hX 7 M (0 : Int32) (0 : Int32) 0 s.heap [] ls hmy hbx htp (by omega) (by omega) hP hS (lv_sub hl [3, 2, 1, 0] rfl)
def fX8_distance (M : Mem) (k : Nat) : Int32 := fX8_without M ((fX8_reading M k) - (M 127 1))
set_option maxHeartbeats 4000000 in
set_option maxRecDepth 100000 in
theorem c_X8_distance (l : Launch) (D : va_G) (cy : Nat → ClassId) (b n : Nat) (hn : 133 ≤ n) (M : Mem) (k : Nat) (hk6 : k < 6) (hbx : BXS M) (htp : TMP M) : Met l yX8_distance wsX8_distance ({ frames := 6, cells := 0, slots := 0, locals := 126 } : Room) (CP D cy b n fT M [.ref (b + 124), .int (nI (k))]) (CQi D cy b n fT (fX8_distance M k) M) 0 0 (fr b) := by
  refine Met.ofW (cc := cX8_distance) (maxL := 2) (ret := (some .int)) (by decide) rfl ?_
  intro p e s m args below meth c s₁ B hml hv
  obtain ⟨rfl, hP, hK, hX⟩ := hv
  have hx := B.exec
  have hb := B.bytes
  have hr := B.returns
  have hts := atoms_spec (ws := wsX8_distance) B.pre
  have hown : s.vm.findClass RX8 = some m.cls := findClass_of_methodNamed B.named
  have hlocks := B.notSynchronized
  have lk0 := hts (.fieldLink RX8 16 "HygrometerRoomModel" "now" "[I") (by decide +kernel)
  have inc8 : ∀ w ∈ u_ws RX8 TX8 22, w ∈ wsX8_distance := by decide +kernel
  have hS : va_S (fr b) s.heap s.heap [] := va_S.rf
  have hl := lv_entry ([.ref (b + 124), .int (nI (k))]) (n := 2) (Nat.le_of_ble_eq_true rfl)
  rw [lg_entry_eq]
  generalize (lg_sl ([.ref (b + 124), .int (nI (k))]) ++ List.replicate (2 - (lg_sl ([.ref (b + 124), .int (nI (k))])).length) Slot.unset).toArray = ls at hl ⊢
  have hl : lv_has ls 2 [(0, .ref (b + 124)), (1, .int (nI (k)))] := hl
  refine lv_aload_n hx hb dX8_distance_0 rfl (lv_at hl 0 rfl) ?_
  refine lv_iload_n hx hb dX8_distance_1 rfl (lv_at hl 1 rfl) ?_
  refine xc_i (va_runV (As := [.int (nI (k))]) (rest := []) ⟨hx, hb, hml, hown, hts⟩ (c_X8_reading l D cy b n hn M k (by first | assumption | omega) (by first | assumption | omega) (by first | assumption | omega)) (cwV 1 hts gX8_distance_X8_reading rfl rfl rfl (by decide +kernel) ⟨Nat.le_of_ble_eq_true rfl, Nat.le_of_ble_eq_true rfl⟩) (xPreV hP hK hX hS (by omega) (cell8 (by decide)) rfl) rfl rfl hl.1 rfl (lv_room (Nat.le_of_ble_eq_true rfl)) dX8_distance_2 ⟨Nat.le_of_ble_eq_true rfl, Nat.le_of_ble_eq_true rfl⟩) hS (fun H locs hP hS => ?_)
  refine lv_aload_n hx hb dX8_distance_5 rfl (lv_at hl 0 rfl) ?_
  refine xg (C := RX8) (T := TX8) (N := 22) (v := .ref (b + 127)) hx hb hts inc8 hown hK hP (by omega) (cell8 (by decide)) rfl 3 (by decide) lk0 (fun _ h => h) rfl dX8_distance_6 ?_
  refine lv_iconst (v := 1) hx hb dX8_distance_9 (by decide) ?_
  refine xil (j := 1) hx hb hK hP (by omega) (by decide) (ixIn (a := 1) rfl (by first | decide | (simp only [lenOf]; omega) | omega) (by decide)) rfl dX8_distance_10 ?_
  refine lv_isub hx hb dX8_distance_11 ?_
  refine xc_i (va_runS (As := [.int ((fX8_reading M k) - (M 127 1))]) (rest := []) ⟨hx, hb, hml, hown, hts⟩ (c_X8_without l D cy b n hn M ((fX8_reading M k) - (M 127 1))) (va_cwS 1 hts gX8_distance_X8_without rfl rfl rfl (by decide +kernel) ⟨Nat.le_of_ble_eq_true rfl, Nat.le_of_ble_eq_true rfl⟩) (xPreS hP hK hX hS) rfl rfl hl.1 rfl (lv_room (Nat.le_of_ble_eq_true rfl)) dX8_distance_12 ⟨Nat.le_of_ble_eq_true rfl, Nat.le_of_ble_eq_true rfl⟩) hS (fun H locs hP hS => ?_)
  exact xe_i hx hb hr hlocks hP hS rfl rfl (by rw [fX8_distance] <;> rfl) (Nat.le_of_ble_eq_true rfl) (Nat.le_of_ble_eq_true rfl) dX8_distance_15
theorem iv_nI {j : Nat} (h : j < 6) : IV (nI j) := ⟨fun hh => absurd hh (by rw [show (0 : Int32) = nI 0 from rfl, nI_ltI (by omega) (by omega)]; omega), by rw [nI_clamp (by omega)]; exact h⟩
theorem iv_of {v : Int32} (h : v = -1 ∨ IV v) (hc : ¬ v = -1) : IV v := h.resolve_left hc
def LX8_bestInstrument_4f  : Nat → Mem → Int32 → Nat → Int32
  | 0, _, _, _ => 0
  | k + 1, M, v, j => if (M 127 5) ≤ (nI (j)) then (fX8_told M v) else (if (fX8_flaw M j) = 0 then (if v = ((-1) : Int32) then (LX8_bestInstrument_4f k M (nI (j)) (j + 1)) else (if (fX8_distance M v.toNatClampNeg) ≤ (fX8_distance M j) then (LX8_bestInstrument_4f k M v (j + 1)) else (LX8_bestInstrument_4f k M (nI (j)) (j + 1)))) else (LX8_bestInstrument_4f k M v (j + 1)))
def LX8_bestInstrument_4g  : Nat → Mem → Int32 → Nat → Mem
  | 0, M, _, _ => M
  | k + 1, M, v, j => if (M 127 5) ≤ (nI (j)) then (gX8_told M v) else (if (fX8_flaw M j) = 0 then (if v = ((-1) : Int32) then (LX8_bestInstrument_4g k M (nI (j)) (j + 1)) else (if (fX8_distance M v.toNatClampNeg) ≤ (fX8_distance M j) then (LX8_bestInstrument_4g k M v (j + 1)) else (LX8_bestInstrument_4g k M (nI (j)) (j + 1)))) else (LX8_bestInstrument_4g k M v (j + 1)))
set_option maxHeartbeats 4000000 in
set_option maxRecDepth 100000 in
theorem cl_X8_bestInstrument_4 (l : Launch) (D : va_G) (cy : Nat → ClassId) (b n : Nat) (hn : 133 ≤ n)   {p : Program} {e : Env} {s : State} {m : MethodId} {args : Array Value} {below : List Frame} {meth : Method} {c : Code} (hx : p.tables.exec = Jvm.exec) (hb : c.code = cX8_bestInstrument) (hr : meth.sig.returnType = (some .int)) (hlocks : meth.locks = false) (hml : c.maxLocals = 3) (hown : s.vm.findClass RX8 = some m.cls) (hts : ∀ w ∈ wsX8_bestInstrument, w.before args s = true) (hK : va_K D vwCl (tysW cy) s) (hX : SX b s)  : ∀ (k : Nat) (M : Mem) (v : Int32) (j : Nat) (H : Heap) (locs : List Loc) (ls : Array Slot), MNY M → BXS M → TMP M → (v = -1 ∨ IV v) → j ≤ 6 → 7 ≤ j + k → va_P D vwCl (wL cy b fT M n) H → va_S (fr b) s.heap H locs → lv_has ls 3 [(0, .ref (b + 124)), (1, .int v), (2, .int (nI (j)))] → W p l e (headSpec wsX8_bestInstrument ({ frames := 7, cells := 0, slots := 0, locals := 147 } : Room)).room s m args below meth c H locs 0 0 (MQ below (CQi D cy b n fT (LX8_bestInstrument_4f k M v j) (LX8_bestInstrument_4g k M v j)) args s 0 0 (fr b)) (F0 m 4 ls []) := by
  have lk0 := hts (.fieldLink RX8 16 "HygrometerRoomModel" "now" "[I") (by decide +kernel)
  have inc8 : ∀ w ∈ u_ws RX8 TX8 22, w ∈ wsX8_bestInstrument := by decide +kernel
  intro k
  induction k with
  | zero => intro M v j H locs ls hmy hbx htp hv hj hk hP hS hl; omega
  | succ k ih =>
    intro M v j H locs ls hmy hbx htp hv hj hk hP hS hl
    refine lv_iload_n hx hb dX8_bestInstrument_4 rfl (lv_at hl 2 rfl) ?_
    refine lv_aload_n hx hb dX8_bestInstrument_5 rfl (lv_at hl 0 rfl) ?_
    refine xg (C := RX8) (T := TX8) (N := 22) (v := .ref (b + 127)) hx hb hts inc8 hown hK hP (by omega) (cell8 (by decide)) rfl 3 (by decide) lk0 (fun _ h => h) rfl dX8_bestInstrument_6 ?_
    refine lv_iconst (v := 5) hx hb dX8_bestInstrument_9 (by decide) ?_
    refine xil (j := 5) hx hb hK hP (by omega) (by decide) (ixIn (a := 5) rfl (by first | decide | (simp only [lenOf]; omega) | omega) (by decide)) rfl dX8_bestInstrument_10 ?_
    refine lv_icmp_ge (tgt := 48) hx hb dX8_bestInstrument_11 (by decide) (fun c11 => ?_) (fun c11 => ?_)
    · refine lv_aload_n hx hb dX8_bestInstrument_48 rfl (lv_at hl 0 rfl) ?_
      refine lv_iload_n hx hb dX8_bestInstrument_49 rfl (lv_at hl 1 rfl) ?_
      refine xc_i (va_runV (As := [.int v]) (rest := []) ⟨hx, hb, hml, hown, hts⟩ (c_X8_told l D cy b n hn M v) (cwV 1 hts gX8_bestInstrument_X8_told rfl rfl rfl (by decide +kernel) ⟨Nat.le_of_ble_eq_true rfl, Nat.le_of_ble_eq_true rfl⟩) (xPreV hP hK hX hS (by omega) (cell8 (by decide)) rfl) rfl rfl hl.1 rfl (lv_room (Nat.le_of_ble_eq_true rfl)) dX8_bestInstrument_50 ⟨Nat.le_of_ble_eq_true rfl, Nat.le_of_ble_eq_true rfl⟩) hS (fun H locs hP hS => ?_)
      exact xe_i hx hb hr hlocks hP hS rfl (by rw [LX8_bestInstrument_4g, if_pos c11] <;> rfl) (by rw [LX8_bestInstrument_4f, if_pos c11] <;> rfl) (Nat.le_of_ble_eq_true rfl) (Nat.le_of_ble_eq_true rfl) dX8_bestInstrument_53
    · have hj6 := ub_lt hmy hj c11
      refine lv_aload_n hx hb dX8_bestInstrument_14 rfl (lv_at hl 0 rfl) ?_
      refine lv_iload_n hx hb dX8_bestInstrument_15 rfl (lv_at hl 2 rfl) ?_
      refine xc_i (va_runV (As := [.int (nI (j))]) (rest := []) ⟨hx, hb, hml, hown, hts⟩ (c_X8_flaw l D cy b n hn M j (by omega)) (cwV 1 hts gX8_bestInstrument_X8_flaw rfl rfl rfl (by decide +kernel) ⟨Nat.le_of_ble_eq_true rfl, Nat.le_of_ble_eq_true rfl⟩) (xPreV hP hK hX hS (by omega) (cell8 (by decide)) rfl) rfl rfl hl.1 rfl (lv_room (Nat.le_of_ble_eq_true rfl)) dX8_bestInstrument_16 ⟨Nat.le_of_ble_eq_true rfl, Nat.le_of_ble_eq_true rfl⟩) hS (fun H locs hP hS => ?_)
      refine lv_if_ne (tgt := 42) hx hb dX8_bestInstrument_19 (by decide) (fun c19 => ?_) (fun c19 => ?_)
      · refine lv_iinc (v := nI (j + 1)) (lv' := [(2, .int (nI (j + 1))), (0, .ref (b + 124)), (1, .int v)]) hx hb dX8_bestInstrument_42 hl (k := 2) rfl (ixAdd (a := j) (c := 1) (d := j + 1) rfl rfl (by omega)) (by decide) rfl (fun ls hl => ?_)
        refine lv_goto (tgt := 4) hx hb dX8_bestInstrument_45 (by decide) ?_
        rw [show LX8_bestInstrument_4f (k + 1) M v j = LX8_bestInstrument_4f k M v (j + 1) from (by rw [LX8_bestInstrument_4f, if_neg c11, if_neg c19]), show LX8_bestInstrument_4g (k + 1) M v j = LX8_bestInstrument_4g k M v (j + 1) from (by rw [LX8_bestInstrument_4g, if_neg c11, if_neg c19])]
        exact ih M v (j + 1) H locs ls hmy hbx htp (by first | exact hv | exact Or.inr (iv_nI hj6)) (by omega) (by omega) hP hS (lv_sub hl [1, 2, 0] rfl)
      · refine lv_iload_n hx hb dX8_bestInstrument_22 rfl (lv_at hl 1 rfl) ?_
        refine lv_iconst (v := (-1)) hx hb dX8_bestInstrument_23 (by decide) ?_
        refine lv_icmp_eq (tgt := 40) hx hb dX8_bestInstrument_24 (by decide) (fun c24 => ?_) (fun c24 => ?_)
        · refine lv_iload_n hx hb dX8_bestInstrument_40 rfl (lv_at hl 2 rfl) ?_
          refine lv_istore_n (lv' := [(1, .int (nI (j))), (0, .ref (b + 124)), (2, .int (nI (j)))]) hx hb dX8_bestInstrument_41 rfl hl (by decide) rfl (fun ls hl => ?_)
          refine lv_iinc (v := nI (j + 1)) (lv' := [(2, .int (nI (j + 1))), (1, .int (nI (j))), (0, .ref (b + 124))]) hx hb dX8_bestInstrument_42 hl (k := 2) rfl (ixAdd (a := j) (c := 1) (d := j + 1) rfl rfl (by omega)) (by decide) rfl (fun ls hl => ?_)
          refine lv_goto (tgt := 4) hx hb dX8_bestInstrument_45 (by decide) ?_
          rw [show LX8_bestInstrument_4f (k + 1) M v j = LX8_bestInstrument_4f k M (nI (j)) (j + 1) from (by rw [LX8_bestInstrument_4f, if_neg c11, if_pos c19, if_pos c24]), show LX8_bestInstrument_4g (k + 1) M v j = LX8_bestInstrument_4g k M (nI (j)) (j + 1) from (by rw [LX8_bestInstrument_4g, if_neg c11, if_pos c19, if_pos c24])]
          exact ih M (nI (j)) (j + 1) H locs ls hmy hbx htp (by first | exact hv | exact Or.inr (iv_nI hj6)) (by omega) (by omega) hP hS (lv_sub hl [2, 1, 0] rfl)
        · refine lv_aload_n hx hb dX8_bestInstrument_27 rfl (lv_at hl 0 rfl) ?_
          refine lv_iload_n hx hb dX8_bestInstrument_28 rfl (lv_at hl 2 rfl) ?_
          refine xc_i (va_runV (As := [.int (nI (j))]) (rest := []) ⟨hx, hb, hml, hown, hts⟩ (c_X8_distance l D cy b n hn M j (by omega) hbx htp) (cwV 1 hts gX8_bestInstrument_X8_distance rfl rfl rfl (by decide +kernel) ⟨Nat.le_of_ble_eq_true rfl, Nat.le_of_ble_eq_true rfl⟩) (xPreV hP hK hX hS (by omega) (cell8 (by decide)) rfl) rfl rfl hl.1 rfl (lv_room (Nat.le_of_ble_eq_true rfl)) dX8_bestInstrument_29 ⟨Nat.le_of_ble_eq_true rfl, Nat.le_of_ble_eq_true rfl⟩) hS (fun H locs hP hS => ?_)
          refine lv_aload_n hx hb dX8_bestInstrument_32 rfl (lv_at hl 0 rfl) ?_
          refine lv_iload_n hx hb dX8_bestInstrument_33 rfl (lv_at hl 1 rfl) ?_
          refine W.eq (g2 := F0 m 34 ls (.int (nI (v.toNatClampNeg)) :: .ref (b + 124) :: .int (fX8_distance M j) :: [])) (congrArg (fun z => F0 m 34 ls (.int z :: .ref (b + 124) :: .int (fX8_distance M j) :: [])) (nat_of (iv_of hv c24).1)) ?_
          refine xc_i (va_runV (As := [.int (nI (v.toNatClampNeg))]) (rest := [.int (fX8_distance M j)]) ⟨hx, hb, hml, hown, hts⟩ (c_X8_distance l D cy b n hn M v.toNatClampNeg (iv_of hv c24).2 hbx htp) (cwV 1 hts gX8_bestInstrument_X8_distance rfl rfl rfl (by decide +kernel) ⟨Nat.le_of_ble_eq_true rfl, Nat.le_of_ble_eq_true rfl⟩) (xPreV hP hK hX hS (by omega) (cell8 (by decide)) rfl) rfl rfl hl.1 rfl (lv_room (Nat.le_of_ble_eq_true rfl)) dX8_bestInstrument_34 ⟨Nat.le_of_ble_eq_true rfl, Nat.le_of_ble_eq_true rfl⟩) hS (fun H locs hP hS => ?_)
          refine lv_icmp_ge (tgt := 42) hx hb dX8_bestInstrument_37 (by decide) (fun c37 => ?_) (fun c37 => ?_)
          · refine lv_iinc (v := nI (j + 1)) (lv' := [(2, .int (nI (j + 1))), (0, .ref (b + 124)), (1, .int v)]) hx hb dX8_bestInstrument_42 hl (k := 2) rfl (ixAdd (a := j) (c := 1) (d := j + 1) rfl rfl (by omega)) (by decide) rfl (fun ls hl => ?_)
            refine lv_goto (tgt := 4) hx hb dX8_bestInstrument_45 (by decide) ?_
            rw [show LX8_bestInstrument_4f (k + 1) M v j = LX8_bestInstrument_4f k M v (j + 1) from (by rw [LX8_bestInstrument_4f, if_neg c11, if_pos c19, if_neg c24, if_pos c37]), show LX8_bestInstrument_4g (k + 1) M v j = LX8_bestInstrument_4g k M v (j + 1) from (by rw [LX8_bestInstrument_4g, if_neg c11, if_pos c19, if_neg c24, if_pos c37])]
            exact ih M v (j + 1) H locs ls hmy hbx htp (by first | exact hv | exact Or.inr (iv_nI hj6)) (by omega) (by omega) hP hS (lv_sub hl [1, 2, 0] rfl)
          · refine lv_iload_n hx hb dX8_bestInstrument_40 rfl (lv_at hl 2 rfl) ?_
            refine lv_istore_n (lv' := [(1, .int (nI (j))), (0, .ref (b + 124)), (2, .int (nI (j)))]) hx hb dX8_bestInstrument_41 rfl hl (by decide) rfl (fun ls hl => ?_)
            refine lv_iinc (v := nI (j + 1)) (lv' := [(2, .int (nI (j + 1))), (1, .int (nI (j))), (0, .ref (b + 124))]) hx hb dX8_bestInstrument_42 hl (k := 2) rfl (ixAdd (a := j) (c := 1) (d := j + 1) rfl rfl (by omega)) (by decide) rfl (fun ls hl => ?_)
            refine lv_goto (tgt := 4) hx hb dX8_bestInstrument_45 (by decide) ?_
            rw [show LX8_bestInstrument_4f (k + 1) M v j = LX8_bestInstrument_4f k M (nI (j)) (j + 1) from (by rw [LX8_bestInstrument_4f, if_neg c11, if_pos c19, if_neg c24, if_neg c37]), show LX8_bestInstrument_4g (k + 1) M v j = LX8_bestInstrument_4g k M (nI (j)) (j + 1) from (by rw [LX8_bestInstrument_4g, if_neg c11, if_pos c19, if_neg c24, if_neg c37])]
            exact ih M (nI (j)) (j + 1) H locs ls hmy hbx htp (by first | exact hv | exact Or.inr (iv_nI hj6)) (by omega) (by omega) hP hS (lv_sub hl [2, 1, 0] rfl)

def fX8_bestInstrument (M : Mem) : Int32 := LX8_bestInstrument_4f 7 M ((-1) : Int32) 0
def gX8_bestInstrument (M : Mem) : Mem := LX8_bestInstrument_4g 7 M ((-1) : Int32) 0
set_option maxHeartbeats 4000000 in
set_option maxRecDepth 100000 in
theorem c_X8_bestInstrument (l : Launch) (D : va_G) (cy : Nat → ClassId) (b n : Nat) (hn : 133 ≤ n) (M : Mem)  (hmy : MNY M) (hbx : BXS M) (htp : TMP M) : Met l yX8_bestInstrument wsX8_bestInstrument ({ frames := 7, cells := 0, slots := 0, locals := 147 } : Room) (CP D cy b n fT M [.ref (b + 124)]) (CQi D cy b n fT (fX8_bestInstrument M) (gX8_bestInstrument M)) 0 0 (fr b) := by
  refine Met.ofW (cc := cX8_bestInstrument) (maxL := 3) (ret := (some .int)) (by decide) rfl ?_
  intro p e s m args below meth c s₁ B hml hv
  obtain ⟨rfl, hP, hK, hX⟩ := hv
  have hx := B.exec
  have hb := B.bytes
  have hr := B.returns
  have hts := atoms_spec (ws := wsX8_bestInstrument) B.pre
  have hown : s.vm.findClass RX8 = some m.cls := findClass_of_methodNamed B.named
  have hlocks := B.notSynchronized
  have hS : va_S (fr b) s.heap s.heap [] := va_S.rf
  have hl := lv_entry ([.ref (b + 124)]) (n := 3) (Nat.le_of_ble_eq_true rfl)
  rw [lg_entry_eq]
  generalize (lg_sl ([.ref (b + 124)]) ++ List.replicate (3 - (lg_sl ([.ref (b + 124)])).length) Slot.unset).toArray = ls at hl ⊢
  have hl : lv_has ls 3 [(0, .ref (b + 124))] := hl
  refine lv_iconst (v := (-1)) hx hb dX8_bestInstrument_0 (by decide) ?_
  refine lv_istore_n (lv' := [(1, .int ((-1) : Int32)), (0, .ref (b + 124))]) hx hb dX8_bestInstrument_1 rfl hl (by decide) rfl (fun ls hl => ?_)
  refine lv_iconst (v := 0) hx hb dX8_bestInstrument_2 (by decide) ?_
  refine lv_istore_n (lv' := [(2, .int (0 : Int32)), (1, .int ((-1) : Int32)), (0, .ref (b + 124))]) hx hb dX8_bestInstrument_3 rfl hl (by decide) rfl (fun ls hl => ?_)
  rw [show fX8_bestInstrument M = LX8_bestInstrument_4f 7 M ((-1) : Int32) 0 from (by rw [fX8_bestInstrument]), show gX8_bestInstrument M = LX8_bestInstrument_4g 7 M ((-1) : Int32) 0 from (by rw [gX8_bestInstrument])]
  exact cl_X8_bestInstrument_4 l D cy b n hn  hx hb hr hlocks hml hown hts hK hX 7 M ((-1) : Int32) 0 s.heap [] ls hmy hbx htp (Or.inl rfl) (by omega) (by omega) hP hS (lv_sub hl [2, 1, 0] rfl)
def LX8_slackestInstrument_4f  : Nat → Mem → Int32 → Nat → Int32
  | 0, _, _, _ => 0
  | k + 1, M, v, j => if (M 127 5) ≤ (nI (j)) then (fX8_told M v) else (if (fX8_isOfHair M j) = 0 then (LX8_slackestInstrument_4f k M v (j + 1)) else (if v = ((-1) : Int32) then (LX8_slackestInstrument_4f k M (nI (j)) (j + 1)) else (if (M 127 (8 * j + 12)) ≤ (M 127 (8 * v.toNatClampNeg + 12)) then (LX8_slackestInstrument_4f k M v (j + 1)) else (LX8_slackestInstrument_4f k M (nI (j)) (j + 1)))))
def LX8_slackestInstrument_4g  : Nat → Mem → Int32 → Nat → Mem
  | 0, M, _, _ => M
  | k + 1, M, v, j => if (M 127 5) ≤ (nI (j)) then (gX8_told M v) else (if (fX8_isOfHair M j) = 0 then (LX8_slackestInstrument_4g k M v (j + 1)) else (if v = ((-1) : Int32) then (LX8_slackestInstrument_4g k M (nI (j)) (j + 1)) else (if (M 127 (8 * j + 12)) ≤ (M 127 (8 * v.toNatClampNeg + 12)) then (LX8_slackestInstrument_4g k M v (j + 1)) else (LX8_slackestInstrument_4g k M (nI (j)) (j + 1)))))
set_option maxHeartbeats 4000000 in
set_option maxRecDepth 100000 in
theorem cl_X8_slackestInstrument_4 (l : Launch) (D : va_G) (cy : Nat → ClassId) (b n : Nat) (hn : 133 ≤ n)   {p : Program} {e : Env} {s : State} {m : MethodId} {args : Array Value} {below : List Frame} {meth : Method} {c : Code} (hx : p.tables.exec = Jvm.exec) (hb : c.code = cX8_slackestInstrument) (hr : meth.sig.returnType = (some .int)) (hlocks : meth.locks = false) (hml : c.maxLocals = 3) (hown : s.vm.findClass RX8 = some m.cls) (hts : ∀ w ∈ wsX8_slackestInstrument, w.before args s = true) (hK : va_K D vwCl (tysW cy) s) (hX : SX b s)  : ∀ (k : Nat) (M : Mem) (v : Int32) (j : Nat) (H : Heap) (locs : List Loc) (ls : Array Slot), MNY M → (v = -1 ∨ IV v) → j ≤ 6 → 7 ≤ j + k → va_P D vwCl (wL cy b fT M n) H → va_S (fr b) s.heap H locs → lv_has ls 3 [(0, .ref (b + 124)), (1, .int v), (2, .int (nI (j)))] → W p l e (headSpec wsX8_slackestInstrument ({ frames := 2, cells := 0, slots := 0, locals := 41 } : Room)).room s m args below meth c H locs 0 0 (MQ below (CQi D cy b n fT (LX8_slackestInstrument_4f k M v j) (LX8_slackestInstrument_4g k M v j)) args s 0 0 (fr b)) (F0 m 4 ls []) := by
  have lk0 := hts (.fieldLink RX8 16 "HygrometerRoomModel" "now" "[I") (by decide +kernel)
  have inc8 : ∀ w ∈ u_ws RX8 TX8 22, w ∈ wsX8_slackestInstrument := by decide +kernel
  intro k
  induction k with
  | zero => intro M v j H locs ls hmy hv hj hk hP hS hl; omega
  | succ k ih =>
    intro M v j H locs ls hmy hv hj hk hP hS hl
    refine lv_iload_n hx hb dX8_slackestInstrument_4 rfl (lv_at hl 2 rfl) ?_
    refine lv_aload_n hx hb dX8_slackestInstrument_5 rfl (lv_at hl 0 rfl) ?_
    refine xg (C := RX8) (T := TX8) (N := 22) (v := .ref (b + 127)) hx hb hts inc8 hown hK hP (by omega) (cell8 (by decide)) rfl 3 (by decide) lk0 (fun _ h => h) rfl dX8_slackestInstrument_6 ?_
    refine lv_iconst (v := 5) hx hb dX8_slackestInstrument_9 (by decide) ?_
    refine xil (j := 5) hx hb hK hP (by omega) (by decide) (ixIn (a := 5) rfl (by first | decide | (simp only [lenOf]; omega) | omega) (by decide)) rfl dX8_slackestInstrument_10 ?_
    refine lv_icmp_ge (tgt := 60) hx hb dX8_slackestInstrument_11 (by decide) (fun c11 => ?_) (fun c11 => ?_)
    · refine lv_aload_n hx hb dX8_slackestInstrument_60 rfl (lv_at hl 0 rfl) ?_
      refine lv_iload_n hx hb dX8_slackestInstrument_61 rfl (lv_at hl 1 rfl) ?_
      refine xc_i (va_runV (As := [.int v]) (rest := []) ⟨hx, hb, hml, hown, hts⟩ (c_X8_told l D cy b n hn M v) (cwV 1 hts gX8_slackestInstrument_X8_told rfl rfl rfl (by decide +kernel) ⟨Nat.le_of_ble_eq_true rfl, Nat.le_of_ble_eq_true rfl⟩) (xPreV hP hK hX hS (by omega) (cell8 (by decide)) rfl) rfl rfl hl.1 rfl (lv_room (Nat.le_of_ble_eq_true rfl)) dX8_slackestInstrument_62 ⟨Nat.le_of_ble_eq_true rfl, Nat.le_of_ble_eq_true rfl⟩) hS (fun H locs hP hS => ?_)
      exact xe_i hx hb hr hlocks hP hS rfl (by rw [LX8_slackestInstrument_4g, if_pos c11] <;> rfl) (by rw [LX8_slackestInstrument_4f, if_pos c11] <;> rfl) (Nat.le_of_ble_eq_true rfl) (Nat.le_of_ble_eq_true rfl) dX8_slackestInstrument_65
    · have hj6 := ub_lt hmy hj c11
      refine lv_aload_n hx hb dX8_slackestInstrument_14 rfl (lv_at hl 0 rfl) ?_
      refine lv_iload_n hx hb dX8_slackestInstrument_15 rfl (lv_at hl 2 rfl) ?_
      refine xc_i (va_runV (As := [.int (nI (j))]) (rest := []) ⟨hx, hb, hml, hown, hts⟩ (c_X8_isOfHair l D cy b n hn M j (by omega)) (cwV 1 hts gX8_slackestInstrument_X8_isOfHair rfl rfl rfl (by decide +kernel) ⟨Nat.le_of_ble_eq_true rfl, Nat.le_of_ble_eq_true rfl⟩) (xPreV hP hK hX hS (by omega) (cell8 (by decide)) rfl) rfl rfl hl.1 rfl (lv_room (Nat.le_of_ble_eq_true rfl)) dX8_slackestInstrument_16 ⟨Nat.le_of_ble_eq_true rfl, Nat.le_of_ble_eq_true rfl⟩) hS (fun H locs hP hS => ?_)
      refine lv_if_eq (tgt := 54) hx hb dX8_slackestInstrument_19 (by decide) (fun c19 => ?_) (fun c19 => ?_)
      · refine lv_iinc (v := nI (j + 1)) (lv' := [(2, .int (nI (j + 1))), (0, .ref (b + 124)), (1, .int v)]) hx hb dX8_slackestInstrument_54 hl (k := 2) rfl (ixAdd (a := j) (c := 1) (d := j + 1) rfl rfl (by omega)) (by decide) rfl (fun ls hl => ?_)
        refine lv_goto (tgt := 4) hx hb dX8_slackestInstrument_57 (by decide) ?_
        rw [show LX8_slackestInstrument_4f (k + 1) M v j = LX8_slackestInstrument_4f k M v (j + 1) from (by rw [LX8_slackestInstrument_4f, if_neg c11, if_pos c19]), show LX8_slackestInstrument_4g (k + 1) M v j = LX8_slackestInstrument_4g k M v (j + 1) from (by rw [LX8_slackestInstrument_4g, if_neg c11, if_pos c19])]
        exact ih M v (j + 1) H locs ls hmy (by first | exact hv | exact Or.inr (iv_nI hj6)) (by omega) (by omega) hP hS (lv_sub hl [1, 2, 0] rfl)
      · refine lv_iload_n hx hb dX8_slackestInstrument_22 rfl (lv_at hl 1 rfl) ?_
        refine lv_iconst (v := (-1)) hx hb dX8_slackestInstrument_23 (by decide) ?_
        refine lv_icmp_eq (tgt := 52) hx hb dX8_slackestInstrument_24 (by decide) (fun c24 => ?_) (fun c24 => ?_)
        · refine lv_iload_n hx hb dX8_slackestInstrument_52 rfl (lv_at hl 2 rfl) ?_
          refine lv_istore_n (lv' := [(1, .int (nI (j))), (0, .ref (b + 124)), (2, .int (nI (j)))]) hx hb dX8_slackestInstrument_53 rfl hl (by decide) rfl (fun ls hl => ?_)
          refine lv_iinc (v := nI (j + 1)) (lv' := [(2, .int (nI (j + 1))), (1, .int (nI (j))), (0, .ref (b + 124))]) hx hb dX8_slackestInstrument_54 hl (k := 2) rfl (ixAdd (a := j) (c := 1) (d := j + 1) rfl rfl (by omega)) (by decide) rfl (fun ls hl => ?_)
          refine lv_goto (tgt := 4) hx hb dX8_slackestInstrument_57 (by decide) ?_
          rw [show LX8_slackestInstrument_4f (k + 1) M v j = LX8_slackestInstrument_4f k M (nI (j)) (j + 1) from (by rw [LX8_slackestInstrument_4f, if_neg c11, if_neg c19, if_pos c24]), show LX8_slackestInstrument_4g (k + 1) M v j = LX8_slackestInstrument_4g k M (nI (j)) (j + 1) from (by rw [LX8_slackestInstrument_4g, if_neg c11, if_neg c19, if_pos c24])]
          exact ih M (nI (j)) (j + 1) H locs ls hmy (by first | exact hv | exact Or.inr (iv_nI hj6)) (by omega) (by omega) hP hS (lv_sub hl [2, 1, 0] rfl)
        · refine lv_aload_n hx hb dX8_slackestInstrument_27 rfl (lv_at hl 0 rfl) ?_
          refine xg (C := RX8) (T := TX8) (N := 22) (v := .ref (b + 127)) hx hb hts inc8 hown hK hP (by omega) (cell8 (by decide)) rfl 3 (by decide) lk0 (fun _ h => h) rfl dX8_slackestInstrument_28 ?_
          refine lv_iload_n hx hb dX8_slackestInstrument_31 rfl (lv_at hl 2 rfl) ?_
          refine xc_i (va_runS (As := [.int (nI (j))]) (rest := [.ref (b + 127)]) ⟨hx, hb, hml, hown, hts⟩ (c_X8_i l D cy b n hn M j) (va_cwS 1 hts gX8_slackestInstrument_X8_i rfl rfl rfl (by decide +kernel) ⟨Nat.le_of_ble_eq_true rfl, Nat.le_of_ble_eq_true rfl⟩) (xPreS hP hK hX hS) rfl rfl hl.1 rfl (lv_room (Nat.le_of_ble_eq_true rfl)) dX8_slackestInstrument_32 ⟨Nat.le_of_ble_eq_true rfl, Nat.le_of_ble_eq_true rfl⟩) hS (fun H locs hP hS => ?_)
          refine W.eq (g2 := F0 m 35 ls (.int (nI (8 * j + 8)) :: .ref (b + 127) :: [])) (congrArg (fun z => F0 m 35 ls (.int z :: .ref (b + 127) :: [])) (show fX8_i M j = nI (8 * j + 8) from by unfold fX8_i; exact congrArg nI (by omega))) ?_
          refine lv_iconst (v := 4) hx hb dX8_slackestInstrument_35 (by decide) ?_
          refine xadd (z := nI (8 * j + 12)) hx hb (ixAdd (a := 8 * j + 8) (c := 4) (d := 8 * j + 12) rfl rfl (by omega)) dX8_slackestInstrument_36 ?_
          refine xil (j := 8 * j + 12) hx hb hK hP (by omega) (by decide) (ixIn (a := 8 * j + 12) rfl (by first | decide | (simp only [lenOf]; omega) | omega) (by decide)) (ixAt (a := 8 * j + 12) rfl (by omega)) dX8_slackestInstrument_37 ?_
          refine lv_aload_n hx hb dX8_slackestInstrument_38 rfl (lv_at hl 0 rfl) ?_
          refine xg (C := RX8) (T := TX8) (N := 22) (v := .ref (b + 127)) hx hb hts inc8 hown hK hP (by omega) (cell8 (by decide)) rfl 3 (by decide) lk0 (fun _ h => h) rfl dX8_slackestInstrument_39 ?_
          refine lv_iload_n hx hb dX8_slackestInstrument_42 rfl (lv_at hl 1 rfl) ?_
          have hv6 := (iv_of hv c24).2
          refine W.eq (g2 := F0 m 43 ls (.int (nI (v.toNatClampNeg)) :: .ref (b + 127) :: .int (M 127 (8 * j + 12)) :: [])) (congrArg (fun z => F0 m 43 ls (.int z :: .ref (b + 127) :: .int (M 127 (8 * j + 12)) :: [])) (nat_of (iv_of hv c24).1)) ?_
          refine xc_i (va_runS (As := [.int (nI (v.toNatClampNeg))]) (rest := [.ref (b + 127), .int (M 127 (8 * j + 12))]) ⟨hx, hb, hml, hown, hts⟩ (c_X8_i l D cy b n hn M v.toNatClampNeg) (va_cwS 1 hts gX8_slackestInstrument_X8_i rfl rfl rfl (by decide +kernel) ⟨Nat.le_of_ble_eq_true rfl, Nat.le_of_ble_eq_true rfl⟩) (xPreS hP hK hX hS) rfl rfl hl.1 rfl (lv_room (Nat.le_of_ble_eq_true rfl)) dX8_slackestInstrument_43 ⟨Nat.le_of_ble_eq_true rfl, Nat.le_of_ble_eq_true rfl⟩) hS (fun H locs hP hS => ?_)
          refine W.eq (g2 := F0 m 46 ls (.int (nI (8 * v.toNatClampNeg + 8)) :: .ref (b + 127) :: .int (M 127 (8 * j + 12)) :: [])) (congrArg (fun z => F0 m 46 ls (.int z :: .ref (b + 127) :: .int (M 127 (8 * j + 12)) :: [])) (show fX8_i M v.toNatClampNeg = nI (8 * v.toNatClampNeg + 8) from by unfold fX8_i; exact congrArg nI (by omega))) ?_
          refine lv_iconst (v := 4) hx hb dX8_slackestInstrument_46 (by decide) ?_
          refine xadd (z := nI (8 * v.toNatClampNeg + 12)) hx hb (ixAdd (a := 8 * v.toNatClampNeg + 8) (c := 4) (d := 8 * v.toNatClampNeg + 12) rfl rfl (by omega)) dX8_slackestInstrument_47 ?_
          refine xil (j := 8 * v.toNatClampNeg + 12) hx hb hK hP (by omega) (by decide) (ixIn (a := 8 * v.toNatClampNeg + 12) rfl (by first | decide | (simp only [lenOf]; omega) | omega) (by decide)) (ixAt (a := 8 * v.toNatClampNeg + 12) rfl (by omega)) dX8_slackestInstrument_48 ?_
          refine lv_icmp_le (tgt := 54) hx hb dX8_slackestInstrument_49 (by decide) (fun c49 => ?_) (fun c49 => ?_)
          · refine lv_iinc (v := nI (j + 1)) (lv' := [(2, .int (nI (j + 1))), (0, .ref (b + 124)), (1, .int v)]) hx hb dX8_slackestInstrument_54 hl (k := 2) rfl (ixAdd (a := j) (c := 1) (d := j + 1) rfl rfl (by omega)) (by decide) rfl (fun ls hl => ?_)
            refine lv_goto (tgt := 4) hx hb dX8_slackestInstrument_57 (by decide) ?_
            rw [show LX8_slackestInstrument_4f (k + 1) M v j = LX8_slackestInstrument_4f k M v (j + 1) from (by rw [LX8_slackestInstrument_4f, if_neg c11, if_neg c19, if_neg c24, if_pos c49]), show LX8_slackestInstrument_4g (k + 1) M v j = LX8_slackestInstrument_4g k M v (j + 1) from (by rw [LX8_slackestInstrument_4g, if_neg c11, if_neg c19, if_neg c24, if_pos c49])]
            exact ih M v (j + 1) H locs ls hmy (by first | exact hv | exact Or.inr (iv_nI hj6)) (by omega) (by omega) hP hS (lv_sub hl [1, 2, 0] rfl)
          · refine lv_iload_n hx hb dX8_slackestInstrument_52 rfl (lv_at hl 2 rfl) ?_
            refine lv_istore_n (lv' := [(1, .int (nI (j))), (0, .ref (b + 124)), (2, .int (nI (j)))]) hx hb dX8_slackestInstrument_53 rfl hl (by decide) rfl (fun ls hl => ?_)
            refine lv_iinc (v := nI (j + 1)) (lv' := [(2, .int (nI (j + 1))), (1, .int (nI (j))), (0, .ref (b + 124))]) hx hb dX8_slackestInstrument_54 hl (k := 2) rfl (ixAdd (a := j) (c := 1) (d := j + 1) rfl rfl (by omega)) (by decide) rfl (fun ls hl => ?_)
            refine lv_goto (tgt := 4) hx hb dX8_slackestInstrument_57 (by decide) ?_
            rw [show LX8_slackestInstrument_4f (k + 1) M v j = LX8_slackestInstrument_4f k M (nI (j)) (j + 1) from (by rw [LX8_slackestInstrument_4f, if_neg c11, if_neg c19, if_neg c24, if_neg c49]), show LX8_slackestInstrument_4g (k + 1) M v j = LX8_slackestInstrument_4g k M (nI (j)) (j + 1) from (by rw [LX8_slackestInstrument_4g, if_neg c11, if_neg c19, if_neg c24, if_neg c49])]
            exact ih M (nI (j)) (j + 1) H locs ls hmy (by first | exact hv | exact Or.inr (iv_nI hj6)) (by omega) (by omega) hP hS (lv_sub hl [2, 1, 0] rfl)

def fX8_slackestInstrument (M : Mem) : Int32 := LX8_slackestInstrument_4f 7 M ((-1) : Int32) 0
def gX8_slackestInstrument (M : Mem) : Mem := LX8_slackestInstrument_4g 7 M ((-1) : Int32) 0
set_option maxHeartbeats 4000000 in
set_option maxRecDepth 100000 in
theorem c_X8_slackestInstrument (l : Launch) (D : va_G) (cy : Nat → ClassId) (b n : Nat) (hn : 133 ≤ n) (M : Mem)  (hmy : MNY M) : Met l yX8_slackestInstrument wsX8_slackestInstrument ({ frames := 2, cells := 0, slots := 0, locals := 41 } : Room) (CP D cy b n fT M [.ref (b + 124)]) (CQi D cy b n fT (fX8_slackestInstrument M) (gX8_slackestInstrument M)) 0 0 (fr b) := by
  refine Met.ofW (cc := cX8_slackestInstrument) (maxL := 3) (ret := (some .int)) (by decide) rfl ?_
  intro p e s m args below meth c s₁ B hml hv
  obtain ⟨rfl, hP, hK, hX⟩ := hv
  have hx := B.exec
  have hb := B.bytes
  have hr := B.returns
  have hts := atoms_spec (ws := wsX8_slackestInstrument) B.pre
  have hown : s.vm.findClass RX8 = some m.cls := findClass_of_methodNamed B.named
  have hlocks := B.notSynchronized
  have hS : va_S (fr b) s.heap s.heap [] := va_S.rf
  have hl := lv_entry ([.ref (b + 124)]) (n := 3) (Nat.le_of_ble_eq_true rfl)
  rw [lg_entry_eq]
  generalize (lg_sl ([.ref (b + 124)]) ++ List.replicate (3 - (lg_sl ([.ref (b + 124)])).length) Slot.unset).toArray = ls at hl ⊢
  have hl : lv_has ls 3 [(0, .ref (b + 124))] := hl
  refine lv_iconst (v := (-1)) hx hb dX8_slackestInstrument_0 (by decide) ?_
  refine lv_istore_n (lv' := [(1, .int ((-1) : Int32)), (0, .ref (b + 124))]) hx hb dX8_slackestInstrument_1 rfl hl (by decide) rfl (fun ls hl => ?_)
  refine lv_iconst (v := 0) hx hb dX8_slackestInstrument_2 (by decide) ?_
  refine lv_istore_n (lv' := [(2, .int (0 : Int32)), (1, .int ((-1) : Int32)), (0, .ref (b + 124))]) hx hb dX8_slackestInstrument_3 rfl hl (by decide) rfl (fun ls hl => ?_)
  rw [show fX8_slackestInstrument M = LX8_slackestInstrument_4f 7 M ((-1) : Int32) 0 from (by rw [fX8_slackestInstrument]), show gX8_slackestInstrument M = LX8_slackestInstrument_4g 7 M ((-1) : Int32) 0 from (by rw [gX8_slackestInstrument])]
  exact cl_X8_slackestInstrument_4 l D cy b n hn  hx hb hr hlocks hml hown hts hK hX 7 M ((-1) : Int32) 0 s.heap [] ls hmy (Or.inl rfl) (by omega) (by omega) hP hS (lv_sub hl [2, 1, 0] rfl)
def LX8_disagreements_4f  : Nat → Mem → Int32 → Nat → Int32
  | 0, _, _, _ => 0
  | k + 1, M, v, j => if (M 127 5) ≤ (nI (j)) then (fX8_told M v) else (if (fX8_hindrance M j) = 0 then (if (fX8_reading M j) = (fX8_around M j) then (LX8_disagreements_4f k M v (j + 1)) else (LX8_disagreements_4f k M (v + 1) (j + 1))) else (LX8_disagreements_4f k M v (j + 1)))
def LX8_disagreements_4g  : Nat → Mem → Int32 → Nat → Mem
  | 0, M, _, _ => M
  | k + 1, M, v, j => if (M 127 5) ≤ (nI (j)) then (gX8_told M v) else (if (fX8_hindrance M j) = 0 then (if (fX8_reading M j) = (fX8_around M j) then (LX8_disagreements_4g k M v (j + 1)) else (LX8_disagreements_4g k M (v + 1) (j + 1))) else (LX8_disagreements_4g k M v (j + 1)))
set_option maxHeartbeats 4000000 in
set_option maxRecDepth 100000 in
theorem cl_X8_disagreements_4 (l : Launch) (D : va_G) (cy : Nat → ClassId) (b n : Nat) (hn : 133 ≤ n)   {p : Program} {e : Env} {s : State} {m : MethodId} {args : Array Value} {below : List Frame} {meth : Method} {c : Code} (hx : p.tables.exec = Jvm.exec) (hb : c.code = cX8_disagreements) (hr : meth.sig.returnType = (some .int)) (hlocks : meth.locks = false) (hml : c.maxLocals = 3) (hown : s.vm.findClass RX8 = some m.cls) (hts : ∀ w ∈ wsX8_disagreements, w.before args s = true) (hK : va_K D vwCl (tysW cy) s) (hX : SX b s)  : ∀ (k : Nat) (M : Mem) (v : Int32) (j : Nat) (H : Heap) (locs : List Loc) (ls : Array Slot), MNY M → BXS M → TMP M → j ≤ 6 → 7 ≤ j + k → va_P D vwCl (wL cy b fT M n) H → va_S (fr b) s.heap H locs → lv_has ls 3 [(0, .ref (b + 124)), (1, .int v), (2, .int (nI (j)))] → W p l e (headSpec wsX8_disagreements ({ frames := 6, cells := 0, slots := 0, locals := 126 } : Room)).room s m args below meth c H locs 0 0 (MQ below (CQi D cy b n fT (LX8_disagreements_4f k M v j) (LX8_disagreements_4g k M v j)) args s 0 0 (fr b)) (F0 m 4 ls []) := by
  have lk0 := hts (.fieldLink RX8 16 "HygrometerRoomModel" "now" "[I") (by decide +kernel)
  have inc8 : ∀ w ∈ u_ws RX8 TX8 22, w ∈ wsX8_disagreements := by decide +kernel
  intro k
  induction k with
  | zero => intro M v j H locs ls hmy hbx htp hj hk hP hS hl; omega
  | succ k ih =>
    intro M v j H locs ls hmy hbx htp hj hk hP hS hl
    refine lv_iload_n hx hb dX8_disagreements_4 rfl (lv_at hl 2 rfl) ?_
    refine lv_aload_n hx hb dX8_disagreements_5 rfl (lv_at hl 0 rfl) ?_
    refine xg (C := RX8) (T := TX8) (N := 22) (v := .ref (b + 127)) hx hb hts inc8 hown hK hP (by omega) (cell8 (by decide)) rfl 3 (by decide) lk0 (fun _ h => h) rfl dX8_disagreements_6 ?_
    refine lv_iconst (v := 5) hx hb dX8_disagreements_9 (by decide) ?_
    refine xil (j := 5) hx hb hK hP (by omega) (by decide) (ixIn (a := 5) rfl (by first | decide | (simp only [lenOf]; omega) | omega) (by decide)) rfl dX8_disagreements_10 ?_
    refine lv_icmp_ge (tgt := 44) hx hb dX8_disagreements_11 (by decide) (fun c11 => ?_) (fun c11 => ?_)
    · refine lv_aload_n hx hb dX8_disagreements_44 rfl (lv_at hl 0 rfl) ?_
      refine lv_iload_n hx hb dX8_disagreements_45 rfl (lv_at hl 1 rfl) ?_
      refine xc_i (va_runV (As := [.int v]) (rest := []) ⟨hx, hb, hml, hown, hts⟩ (c_X8_told l D cy b n hn M v) (cwV 1 hts gX8_disagreements_X8_told rfl rfl rfl (by decide +kernel) ⟨Nat.le_of_ble_eq_true rfl, Nat.le_of_ble_eq_true rfl⟩) (xPreV hP hK hX hS (by omega) (cell8 (by decide)) rfl) rfl rfl hl.1 rfl (lv_room (Nat.le_of_ble_eq_true rfl)) dX8_disagreements_46 ⟨Nat.le_of_ble_eq_true rfl, Nat.le_of_ble_eq_true rfl⟩) hS (fun H locs hP hS => ?_)
      exact xe_i hx hb hr hlocks hP hS rfl (by rw [LX8_disagreements_4g, if_pos c11] <;> rfl) (by rw [LX8_disagreements_4f, if_pos c11] <;> rfl) (Nat.le_of_ble_eq_true rfl) (Nat.le_of_ble_eq_true rfl) dX8_disagreements_49
    · have hj6 := ub_lt hmy hj c11
      refine lv_aload_n hx hb dX8_disagreements_14 rfl (lv_at hl 0 rfl) ?_
      refine lv_iload_n hx hb dX8_disagreements_15 rfl (lv_at hl 2 rfl) ?_
      refine xc_i (va_runV (As := [.int (nI (j))]) (rest := []) ⟨hx, hb, hml, hown, hts⟩ (c_X8_hindrance l D cy b n hn M j (by omega) hbx) (cwV 1 hts gX8_disagreements_X8_hindrance rfl rfl rfl (by decide +kernel) ⟨Nat.le_of_ble_eq_true rfl, Nat.le_of_ble_eq_true rfl⟩) (xPreV hP hK hX hS (by omega) (cell8 (by decide)) rfl) rfl rfl hl.1 rfl (lv_room (Nat.le_of_ble_eq_true rfl)) dX8_disagreements_16 ⟨Nat.le_of_ble_eq_true rfl, Nat.le_of_ble_eq_true rfl⟩) hS (fun H locs hP hS => ?_)
      refine lv_if_ne (tgt := 38) hx hb dX8_disagreements_19 (by decide) (fun c19 => ?_) (fun c19 => ?_)
      · refine lv_iinc (v := nI (j + 1)) (lv' := [(2, .int (nI (j + 1))), (0, .ref (b + 124)), (1, .int v)]) hx hb dX8_disagreements_38 hl (k := 2) rfl (ixAdd (a := j) (c := 1) (d := j + 1) rfl rfl (by omega)) (by decide) rfl (fun ls hl => ?_)
        refine lv_goto (tgt := 4) hx hb dX8_disagreements_41 (by decide) ?_
        rw [show LX8_disagreements_4f (k + 1) M v j = LX8_disagreements_4f k M v (j + 1) from (by rw [LX8_disagreements_4f, if_neg c11, if_neg c19]), show LX8_disagreements_4g (k + 1) M v j = LX8_disagreements_4g k M v (j + 1) from (by rw [LX8_disagreements_4g, if_neg c11, if_neg c19])]
        exact ih M v (j + 1) H locs ls hmy hbx htp (by omega) (by omega) hP hS (lv_sub hl [1, 2, 0] rfl)
      · refine lv_aload_n hx hb dX8_disagreements_22 rfl (lv_at hl 0 rfl) ?_
        refine lv_iload_n hx hb dX8_disagreements_23 rfl (lv_at hl 2 rfl) ?_
        refine xc_i (va_runV (As := [.int (nI (j))]) (rest := []) ⟨hx, hb, hml, hown, hts⟩ (c_X8_reading l D cy b n hn M j (by omega) hbx htp) (cwV 1 hts gX8_disagreements_X8_reading rfl rfl rfl (by decide +kernel) ⟨Nat.le_of_ble_eq_true rfl, Nat.le_of_ble_eq_true rfl⟩) (xPreV hP hK hX hS (by omega) (cell8 (by decide)) rfl) rfl rfl hl.1 rfl (lv_room (Nat.le_of_ble_eq_true rfl)) dX8_disagreements_24 ⟨Nat.le_of_ble_eq_true rfl, Nat.le_of_ble_eq_true rfl⟩) hS (fun H locs hP hS => ?_)
        refine lv_aload_n hx hb dX8_disagreements_27 rfl (lv_at hl 0 rfl) ?_
        refine lv_iload_n hx hb dX8_disagreements_28 rfl (lv_at hl 2 rfl) ?_
        refine xc_i (va_runV (As := [.int (nI (j))]) (rest := [.int (fX8_reading M j)]) ⟨hx, hb, hml, hown, hts⟩ (c_X8_around l D cy b n hn M j (by omega) hbx) (cwV 1 hts gX8_disagreements_X8_around rfl rfl rfl (by decide +kernel) ⟨Nat.le_of_ble_eq_true rfl, Nat.le_of_ble_eq_true rfl⟩) (xPreV hP hK hX hS (by omega) (cell8 (by decide)) rfl) rfl rfl hl.1 rfl (lv_room (Nat.le_of_ble_eq_true rfl)) dX8_disagreements_29 ⟨Nat.le_of_ble_eq_true rfl, Nat.le_of_ble_eq_true rfl⟩) hS (fun H locs hP hS => ?_)
        refine lv_icmp_eq (tgt := 38) hx hb dX8_disagreements_32 (by decide) (fun c32 => ?_) (fun c32 => ?_)
        · refine lv_iinc (v := nI (j + 1)) (lv' := [(2, .int (nI (j + 1))), (0, .ref (b + 124)), (1, .int v)]) hx hb dX8_disagreements_38 hl (k := 2) rfl (ixAdd (a := j) (c := 1) (d := j + 1) rfl rfl (by omega)) (by decide) rfl (fun ls hl => ?_)
          refine lv_goto (tgt := 4) hx hb dX8_disagreements_41 (by decide) ?_
          rw [show LX8_disagreements_4f (k + 1) M v j = LX8_disagreements_4f k M v (j + 1) from (by rw [LX8_disagreements_4f, if_neg c11, if_pos c19, if_pos c32]), show LX8_disagreements_4g (k + 1) M v j = LX8_disagreements_4g k M v (j + 1) from (by rw [LX8_disagreements_4g, if_neg c11, if_pos c19, if_pos c32])]
          exact ih M v (j + 1) H locs ls hmy hbx htp (by omega) (by omega) hP hS (lv_sub hl [1, 2, 0] rfl)
        · refine lv_iinc (v := v + 1) (lv' := [(1, .int (v + 1)), (0, .ref (b + 124)), (2, .int (nI (j)))]) hx hb dX8_disagreements_35 hl (k := 1) rfl rfl (by decide) rfl (fun ls hl => ?_)
          refine lv_iinc (v := nI (j + 1)) (lv' := [(2, .int (nI (j + 1))), (1, .int (v + 1)), (0, .ref (b + 124))]) hx hb dX8_disagreements_38 hl (k := 2) rfl (ixAdd (a := j) (c := 1) (d := j + 1) rfl rfl (by omega)) (by decide) rfl (fun ls hl => ?_)
          refine lv_goto (tgt := 4) hx hb dX8_disagreements_41 (by decide) ?_
          rw [show LX8_disagreements_4f (k + 1) M v j = LX8_disagreements_4f k M (v + 1) (j + 1) from (by rw [LX8_disagreements_4f, if_neg c11, if_pos c19, if_neg c32]), show LX8_disagreements_4g (k + 1) M v j = LX8_disagreements_4g k M (v + 1) (j + 1) from (by rw [LX8_disagreements_4g, if_neg c11, if_pos c19, if_neg c32])]
          exact ih M (v + 1) (j + 1) H locs ls hmy hbx htp (by omega) (by omega) hP hS (lv_sub hl [2, 1, 0] rfl)

def fX8_disagreements (M : Mem) : Int32 := LX8_disagreements_4f 7 M (0 : Int32) 0
def gX8_disagreements (M : Mem) : Mem := LX8_disagreements_4g 7 M (0 : Int32) 0
set_option maxHeartbeats 4000000 in
set_option maxRecDepth 100000 in
theorem c_X8_disagreements (l : Launch) (D : va_G) (cy : Nat → ClassId) (b n : Nat) (hn : 133 ≤ n) (M : Mem)  (hmy : MNY M) (hbx : BXS M) (htp : TMP M) : Met l yX8_disagreements wsX8_disagreements ({ frames := 6, cells := 0, slots := 0, locals := 126 } : Room) (CP D cy b n fT M [.ref (b + 124)]) (CQi D cy b n fT (fX8_disagreements M) (gX8_disagreements M)) 0 0 (fr b) := by
  refine Met.ofW (cc := cX8_disagreements) (maxL := 3) (ret := (some .int)) (by decide) rfl ?_
  intro p e s m args below meth c s₁ B hml hv
  obtain ⟨rfl, hP, hK, hX⟩ := hv
  have hx := B.exec
  have hb := B.bytes
  have hr := B.returns
  have hts := atoms_spec (ws := wsX8_disagreements) B.pre
  have hown : s.vm.findClass RX8 = some m.cls := findClass_of_methodNamed B.named
  have hlocks := B.notSynchronized
  have hS : va_S (fr b) s.heap s.heap [] := va_S.rf
  have hl := lv_entry ([.ref (b + 124)]) (n := 3) (Nat.le_of_ble_eq_true rfl)
  rw [lg_entry_eq]
  generalize (lg_sl ([.ref (b + 124)]) ++ List.replicate (3 - (lg_sl ([.ref (b + 124)])).length) Slot.unset).toArray = ls at hl ⊢
  have hl : lv_has ls 3 [(0, .ref (b + 124))] := hl
  refine lv_iconst (v := 0) hx hb dX8_disagreements_0 (by decide) ?_
  refine lv_istore_n (lv' := [(1, .int (0 : Int32)), (0, .ref (b + 124))]) hx hb dX8_disagreements_1 rfl hl (by decide) rfl (fun ls hl => ?_)
  refine lv_iconst (v := 0) hx hb dX8_disagreements_2 (by decide) ?_
  refine lv_istore_n (lv' := [(2, .int (0 : Int32)), (1, .int (0 : Int32)), (0, .ref (b + 124))]) hx hb dX8_disagreements_3 rfl hl (by decide) rfl (fun ls hl => ?_)
  rw [show fX8_disagreements M = LX8_disagreements_4f 7 M (0 : Int32) 0 from (by rw [fX8_disagreements]), show gX8_disagreements M = LX8_disagreements_4g 7 M (0 : Int32) 0 from (by rw [gX8_disagreements])]
  exact cl_X8_disagreements_4 l D cy b n hn  hx hb hr hlocks hml hown hts hK hX 7 M (0 : Int32) 0 s.heap [] ls hmy hbx htp (by omega) (by omega) hP hS (lv_sub hl [2, 1, 0] rfl)
def LX8_spread_7f  : Nat → Mem → Int32 → Int32 → Nat → Int32
  | 0, _, _, _, _ => 0
  | k + 1, M, lo, hi, j => if (M 127 5) ≤ (nI (j)) then (if (2 : Int32) ≤ (fX8_usable M) then (fX8_told M (hi - lo)) else (fX8_told M (0 : Int32))) else (if (fX8_flaw M j) = 0 then (if lo ≤ (fX8_reading M j) then (if (fX8_flaw M j) = 0 then (if (fX8_reading M j) ≤ hi then (LX8_spread_7f k M lo hi (j + 1)) else (LX8_spread_7f k M lo (fX8_reading M j) (j + 1))) else (LX8_spread_7f k M lo hi (j + 1))) else (if (fX8_flaw M j) = 0 then (if (fX8_reading M j) ≤ hi then (LX8_spread_7f k M (fX8_reading M j) hi (j + 1)) else (LX8_spread_7f k M (fX8_reading M j) (fX8_reading M j) (j + 1))) else (LX8_spread_7f k M (fX8_reading M j) hi (j + 1)))) else (if (fX8_flaw M j) = 0 then (if (fX8_reading M j) ≤ hi then (LX8_spread_7f k M lo hi (j + 1)) else (LX8_spread_7f k M lo (fX8_reading M j) (j + 1))) else (LX8_spread_7f k M lo hi (j + 1))))
def LX8_spread_7g  : Nat → Mem → Int32 → Int32 → Nat → Mem
  | 0, M, _, _, _ => M
  | k + 1, M, lo, hi, j => if (M 127 5) ≤ (nI (j)) then (if (2 : Int32) ≤ (fX8_usable M) then (gX8_told M (hi - lo)) else (gX8_told M (0 : Int32))) else (if (fX8_flaw M j) = 0 then (if lo ≤ (fX8_reading M j) then (if (fX8_flaw M j) = 0 then (if (fX8_reading M j) ≤ hi then (LX8_spread_7g k M lo hi (j + 1)) else (LX8_spread_7g k M lo (fX8_reading M j) (j + 1))) else (LX8_spread_7g k M lo hi (j + 1))) else (if (fX8_flaw M j) = 0 then (if (fX8_reading M j) ≤ hi then (LX8_spread_7g k M (fX8_reading M j) hi (j + 1)) else (LX8_spread_7g k M (fX8_reading M j) (fX8_reading M j) (j + 1))) else (LX8_spread_7g k M (fX8_reading M j) hi (j + 1)))) else (if (fX8_flaw M j) = 0 then (if (fX8_reading M j) ≤ hi then (LX8_spread_7g k M lo hi (j + 1)) else (LX8_spread_7g k M lo (fX8_reading M j) (j + 1))) else (LX8_spread_7g k M lo hi (j + 1))))
set_option maxHeartbeats 4000000 in
set_option maxRecDepth 100000 in
theorem cl_X8_spread_7 (l : Launch) (D : va_G) (cy : Nat → ClassId) (b n : Nat) (hn : 133 ≤ n)   {p : Program} {e : Env} {s : State} {m : MethodId} {args : Array Value} {below : List Frame} {meth : Method} {c : Code} (hx : p.tables.exec = Jvm.exec) (hb : c.code = cX8_spread) (hr : meth.sig.returnType = (some .int)) (hlocks : meth.locks = false) (hml : c.maxLocals = 4) (hown : s.vm.findClass RX8 = some m.cls) (hts : ∀ w ∈ wsX8_spread, w.before args s = true) (hK : va_K D vwCl (tysW cy) s) (hX : SX b s)  : ∀ (k : Nat) (M : Mem) (lo : Int32) (hi : Int32) (j : Nat) (H : Heap) (locs : List Loc) (ls : Array Slot), MNY M → BXS M → TMP M → j ≤ 6 → 7 ≤ j + k → va_P D vwCl (wL cy b fT M n) H → va_S (fr b) s.heap H locs → lv_has ls 4 [(0, .ref (b + 124)), (1, .int lo), (2, .int hi), (3, .int (nI (j)))] → W p l e (headSpec wsX8_spread ({ frames := 6, cells := 0, slots := 0, locals := 126 } : Room)).room s m args below meth c H locs 0 0 (MQ below (CQi D cy b n fT (LX8_spread_7f k M lo hi j) (LX8_spread_7g k M lo hi j)) args s 0 0 (fr b)) (F0 m 7 ls []) := by
  have lk0 := hts (.fieldLink RX8 16 "HygrometerRoomModel" "now" "[I") (by decide +kernel)
  have inc8 : ∀ w ∈ u_ws RX8 TX8 22, w ∈ wsX8_spread := by decide +kernel
  intro k
  induction k with
  | zero => intro M lo hi j H locs ls hmy hbx htp hj hk hP hS hl; omega
  | succ k ih =>
    intro M lo hi j H locs ls hmy hbx htp hj hk hP hS hl
    refine lv_iload_n hx hb dX8_spread_7 rfl (lv_at hl 3 rfl) ?_
    refine lv_aload_n hx hb dX8_spread_8 rfl (lv_at hl 0 rfl) ?_
    refine xg (C := RX8) (T := TX8) (N := 22) (v := .ref (b + 127)) hx hb hts inc8 hown hK hP (by omega) (cell8 (by decide)) rfl 3 (by decide) lk0 (fun _ h => h) rfl dX8_spread_9 ?_
    refine lv_iconst (v := 5) hx hb dX8_spread_12 (by decide) ?_
    refine xil (j := 5) hx hb hK hP (by omega) (by decide) (ixIn (a := 5) rfl (by first | decide | (simp only [lenOf]; omega) | omega) (by decide)) rfl dX8_spread_13 ?_
    refine lv_icmp_ge (tgt := 69) hx hb dX8_spread_14 (by decide) (fun c14 => ?_) (fun c14 => ?_)
    · refine lv_aload_n hx hb dX8_spread_69 rfl (lv_at hl 0 rfl) ?_
      refine xc_i (va_runV (As := []) (rest := []) ⟨hx, hb, hml, hown, hts⟩ (c_X8_usable l D cy b n hn M hmy) (cwV 0 hts gX8_spread_X8_usable rfl rfl rfl (by decide +kernel) ⟨Nat.le_of_ble_eq_true rfl, Nat.le_of_ble_eq_true rfl⟩) (xPreV hP hK hX hS (by omega) (cell8 (by decide)) rfl) rfl rfl hl.1 rfl (lv_room (Nat.le_of_ble_eq_true rfl)) dX8_spread_70 ⟨Nat.le_of_ble_eq_true rfl, Nat.le_of_ble_eq_true rfl⟩) hS (fun H locs hP hS => ?_)
      refine lv_iconst (v := 2) hx hb dX8_spread_73 (by decide) ?_
      refine lv_icmp_ge (tgt := 83) hx hb dX8_spread_74 (by decide) (fun c74 => ?_) (fun c74 => ?_)
      · refine lv_aload_n hx hb dX8_spread_83 rfl (lv_at hl 0 rfl) ?_
        refine lv_iload_n hx hb dX8_spread_84 rfl (lv_at hl 2 rfl) ?_
        refine lv_iload_n hx hb dX8_spread_85 rfl (lv_at hl 1 rfl) ?_
        refine lv_isub hx hb dX8_spread_86 ?_
        refine xc_i (va_runV (As := [.int (hi - lo)]) (rest := []) ⟨hx, hb, hml, hown, hts⟩ (c_X8_told l D cy b n hn M (hi - lo)) (cwV 1 hts gX8_spread_X8_told rfl rfl rfl (by decide +kernel) ⟨Nat.le_of_ble_eq_true rfl, Nat.le_of_ble_eq_true rfl⟩) (xPreV hP hK hX hS (by omega) (cell8 (by decide)) rfl) rfl rfl hl.1 rfl (lv_room (Nat.le_of_ble_eq_true rfl)) dX8_spread_87 ⟨Nat.le_of_ble_eq_true rfl, Nat.le_of_ble_eq_true rfl⟩) hS (fun H locs hP hS => ?_)
        exact xe_i hx hb hr hlocks hP hS rfl (by rw [LX8_spread_7g, if_pos c14, if_pos c74] <;> rfl) (by rw [LX8_spread_7f, if_pos c14, if_pos c74] <;> rfl) (Nat.le_of_ble_eq_true rfl) (Nat.le_of_ble_eq_true rfl) dX8_spread_90
      · refine lv_aload_n hx hb dX8_spread_77 rfl (lv_at hl 0 rfl) ?_
        refine lv_iconst (v := 0) hx hb dX8_spread_78 (by decide) ?_
        refine xc_i (va_runV (As := [.int (0 : Int32)]) (rest := []) ⟨hx, hb, hml, hown, hts⟩ (c_X8_told l D cy b n hn M (0 : Int32)) (cwV 1 hts gX8_spread_X8_told rfl rfl rfl (by decide +kernel) ⟨Nat.le_of_ble_eq_true rfl, Nat.le_of_ble_eq_true rfl⟩) (xPreV hP hK hX hS (by omega) (cell8 (by decide)) rfl) rfl rfl hl.1 rfl (lv_room (Nat.le_of_ble_eq_true rfl)) dX8_spread_79 ⟨Nat.le_of_ble_eq_true rfl, Nat.le_of_ble_eq_true rfl⟩) hS (fun H locs hP hS => ?_)
        exact xe_i hx hb hr hlocks hP hS rfl (by rw [LX8_spread_7g, if_pos c14, if_neg c74] <;> rfl) (by rw [LX8_spread_7f, if_pos c14, if_neg c74] <;> rfl) (Nat.le_of_ble_eq_true rfl) (Nat.le_of_ble_eq_true rfl) dX8_spread_82
    · have hj6 := ub_lt hmy hj c14
      refine lv_aload_n hx hb dX8_spread_17 rfl (lv_at hl 0 rfl) ?_
      refine lv_iload_n hx hb dX8_spread_18 rfl (lv_at hl 3 rfl) ?_
      refine xc_i (va_runV (As := [.int (nI (j))]) (rest := []) ⟨hx, hb, hml, hown, hts⟩ (c_X8_flaw l D cy b n hn M j (by omega)) (cwV 1 hts gX8_spread_X8_flaw rfl rfl rfl (by decide +kernel) ⟨Nat.le_of_ble_eq_true rfl, Nat.le_of_ble_eq_true rfl⟩) (xPreV hP hK hX hS (by omega) (cell8 (by decide)) rfl) rfl rfl hl.1 rfl (lv_room (Nat.le_of_ble_eq_true rfl)) dX8_spread_19 ⟨Nat.le_of_ble_eq_true rfl, Nat.le_of_ble_eq_true rfl⟩) hS (fun H locs hP hS => ?_)
      refine lv_if_ne (tgt := 40) hx hb dX8_spread_22 (by decide) (fun c22 => ?_) (fun c22 => ?_)
      · refine lv_aload_n hx hb dX8_spread_40 rfl (lv_at hl 0 rfl) ?_
        refine lv_iload_n hx hb dX8_spread_41 rfl (lv_at hl 3 rfl) ?_
        refine xc_i (va_runV (As := [.int (nI (j))]) (rest := []) ⟨hx, hb, hml, hown, hts⟩ (c_X8_flaw l D cy b n hn M j (by omega)) (cwV 1 hts gX8_spread_X8_flaw rfl rfl rfl (by decide +kernel) ⟨Nat.le_of_ble_eq_true rfl, Nat.le_of_ble_eq_true rfl⟩) (xPreV hP hK hX hS (by omega) (cell8 (by decide)) rfl) rfl rfl hl.1 rfl (lv_room (Nat.le_of_ble_eq_true rfl)) dX8_spread_42 ⟨Nat.le_of_ble_eq_true rfl, Nat.le_of_ble_eq_true rfl⟩) hS (fun H locs hP hS => ?_)
        refine lv_if_ne (tgt := 63) hx hb dX8_spread_45 (by decide) (fun c45 => ?_) (fun c45 => ?_)
        · refine lv_iinc (v := nI (j + 1)) (lv' := [(3, .int (nI (j + 1))), (0, .ref (b + 124)), (1, .int lo), (2, .int hi)]) hx hb dX8_spread_63 hl (k := 3) rfl (ixAdd (a := j) (c := 1) (d := j + 1) rfl rfl (by omega)) (by decide) rfl (fun ls hl => ?_)
          refine lv_goto (tgt := 7) hx hb dX8_spread_66 (by decide) ?_
          rw [show LX8_spread_7f (k + 1) M lo hi j = LX8_spread_7f k M lo hi (j + 1) from (by rw [LX8_spread_7f, if_neg c14, if_neg c22, if_neg c45]), show LX8_spread_7g (k + 1) M lo hi j = LX8_spread_7g k M lo hi (j + 1) from (by rw [LX8_spread_7g, if_neg c14, if_neg c22, if_neg c45])]
          exact ih M lo hi (j + 1) H locs ls hmy hbx htp (by omega) (by omega) hP hS (lv_sub hl [1, 2, 3, 0] rfl)
        · refine lv_aload_n hx hb dX8_spread_48 rfl (lv_at hl 0 rfl) ?_
          refine lv_iload_n hx hb dX8_spread_49 rfl (lv_at hl 3 rfl) ?_
          refine xc_i (va_runV (As := [.int (nI (j))]) (rest := []) ⟨hx, hb, hml, hown, hts⟩ (c_X8_reading l D cy b n hn M j (by omega) hbx htp) (cwV 1 hts gX8_spread_X8_reading rfl rfl rfl (by decide +kernel) ⟨Nat.le_of_ble_eq_true rfl, Nat.le_of_ble_eq_true rfl⟩) (xPreV hP hK hX hS (by omega) (cell8 (by decide)) rfl) rfl rfl hl.1 rfl (lv_room (Nat.le_of_ble_eq_true rfl)) dX8_spread_50 ⟨Nat.le_of_ble_eq_true rfl, Nat.le_of_ble_eq_true rfl⟩) hS (fun H locs hP hS => ?_)
          refine lv_iload_n hx hb dX8_spread_53 rfl (lv_at hl 2 rfl) ?_
          refine lv_icmp_le (tgt := 63) hx hb dX8_spread_54 (by decide) (fun c54 => ?_) (fun c54 => ?_)
          · refine lv_iinc (v := nI (j + 1)) (lv' := [(3, .int (nI (j + 1))), (0, .ref (b + 124)), (1, .int lo), (2, .int hi)]) hx hb dX8_spread_63 hl (k := 3) rfl (ixAdd (a := j) (c := 1) (d := j + 1) rfl rfl (by omega)) (by decide) rfl (fun ls hl => ?_)
            refine lv_goto (tgt := 7) hx hb dX8_spread_66 (by decide) ?_
            rw [show LX8_spread_7f (k + 1) M lo hi j = LX8_spread_7f k M lo hi (j + 1) from (by rw [LX8_spread_7f, if_neg c14, if_neg c22, if_pos c45, if_pos c54]), show LX8_spread_7g (k + 1) M lo hi j = LX8_spread_7g k M lo hi (j + 1) from (by rw [LX8_spread_7g, if_neg c14, if_neg c22, if_pos c45, if_pos c54])]
            exact ih M lo hi (j + 1) H locs ls hmy hbx htp (by omega) (by omega) hP hS (lv_sub hl [1, 2, 3, 0] rfl)
          · refine lv_aload_n hx hb dX8_spread_57 rfl (lv_at hl 0 rfl) ?_
            refine lv_iload_n hx hb dX8_spread_58 rfl (lv_at hl 3 rfl) ?_
            refine xc_i (va_runV (As := [.int (nI (j))]) (rest := []) ⟨hx, hb, hml, hown, hts⟩ (c_X8_reading l D cy b n hn M j (by omega) hbx htp) (cwV 1 hts gX8_spread_X8_reading rfl rfl rfl (by decide +kernel) ⟨Nat.le_of_ble_eq_true rfl, Nat.le_of_ble_eq_true rfl⟩) (xPreV hP hK hX hS (by omega) (cell8 (by decide)) rfl) rfl rfl hl.1 rfl (lv_room (Nat.le_of_ble_eq_true rfl)) dX8_spread_59 ⟨Nat.le_of_ble_eq_true rfl, Nat.le_of_ble_eq_true rfl⟩) hS (fun H locs hP hS => ?_)
            refine lv_istore_n (lv' := [(2, .int (fX8_reading M j)), (0, .ref (b + 124)), (1, .int lo), (3, .int (nI (j)))]) hx hb dX8_spread_62 rfl hl (by decide) rfl (fun ls hl => ?_)
            refine lv_iinc (v := nI (j + 1)) (lv' := [(3, .int (nI (j + 1))), (2, .int (fX8_reading M j)), (0, .ref (b + 124)), (1, .int lo)]) hx hb dX8_spread_63 hl (k := 3) rfl (ixAdd (a := j) (c := 1) (d := j + 1) rfl rfl (by omega)) (by decide) rfl (fun ls hl => ?_)
            refine lv_goto (tgt := 7) hx hb dX8_spread_66 (by decide) ?_
            rw [show LX8_spread_7f (k + 1) M lo hi j = LX8_spread_7f k M lo (fX8_reading M j) (j + 1) from (by rw [LX8_spread_7f, if_neg c14, if_neg c22, if_pos c45, if_neg c54]), show LX8_spread_7g (k + 1) M lo hi j = LX8_spread_7g k M lo (fX8_reading M j) (j + 1) from (by rw [LX8_spread_7g, if_neg c14, if_neg c22, if_pos c45, if_neg c54])]
            exact ih M lo (fX8_reading M j) (j + 1) H locs ls hmy hbx htp (by omega) (by omega) hP hS (lv_sub hl [2, 3, 1, 0] rfl)
      · refine lv_aload_n hx hb dX8_spread_25 rfl (lv_at hl 0 rfl) ?_
        refine lv_iload_n hx hb dX8_spread_26 rfl (lv_at hl 3 rfl) ?_
        refine xc_i (va_runV (As := [.int (nI (j))]) (rest := []) ⟨hx, hb, hml, hown, hts⟩ (c_X8_reading l D cy b n hn M j (by omega) hbx htp) (cwV 1 hts gX8_spread_X8_reading rfl rfl rfl (by decide +kernel) ⟨Nat.le_of_ble_eq_true rfl, Nat.le_of_ble_eq_true rfl⟩) (xPreV hP hK hX hS (by omega) (cell8 (by decide)) rfl) rfl rfl hl.1 rfl (lv_room (Nat.le_of_ble_eq_true rfl)) dX8_spread_27 ⟨Nat.le_of_ble_eq_true rfl, Nat.le_of_ble_eq_true rfl⟩) hS (fun H locs hP hS => ?_)
        refine lv_iload_n hx hb dX8_spread_30 rfl (lv_at hl 1 rfl) ?_
        refine lv_icmp_ge (tgt := 40) hx hb dX8_spread_31 (by decide) (fun c31 => ?_) (fun c31 => ?_)
        · refine lv_aload_n hx hb dX8_spread_40 rfl (lv_at hl 0 rfl) ?_
          refine lv_iload_n hx hb dX8_spread_41 rfl (lv_at hl 3 rfl) ?_
          refine xc_i (va_runV (As := [.int (nI (j))]) (rest := []) ⟨hx, hb, hml, hown, hts⟩ (c_X8_flaw l D cy b n hn M j (by omega)) (cwV 1 hts gX8_spread_X8_flaw rfl rfl rfl (by decide +kernel) ⟨Nat.le_of_ble_eq_true rfl, Nat.le_of_ble_eq_true rfl⟩) (xPreV hP hK hX hS (by omega) (cell8 (by decide)) rfl) rfl rfl hl.1 rfl (lv_room (Nat.le_of_ble_eq_true rfl)) dX8_spread_42 ⟨Nat.le_of_ble_eq_true rfl, Nat.le_of_ble_eq_true rfl⟩) hS (fun H locs hP hS => ?_)
          refine lv_if_ne (tgt := 63) hx hb dX8_spread_45 (by decide) (fun c45 => ?_) (fun c45 => ?_)
          · refine lv_iinc (v := nI (j + 1)) (lv' := [(3, .int (nI (j + 1))), (0, .ref (b + 124)), (1, .int lo), (2, .int hi)]) hx hb dX8_spread_63 hl (k := 3) rfl (ixAdd (a := j) (c := 1) (d := j + 1) rfl rfl (by omega)) (by decide) rfl (fun ls hl => ?_)
            refine lv_goto (tgt := 7) hx hb dX8_spread_66 (by decide) ?_
            rw [show LX8_spread_7f (k + 1) M lo hi j = LX8_spread_7f k M lo hi (j + 1) from (by rw [LX8_spread_7f, if_neg c14, if_pos c22, if_pos c31, if_neg c45]), show LX8_spread_7g (k + 1) M lo hi j = LX8_spread_7g k M lo hi (j + 1) from (by rw [LX8_spread_7g, if_neg c14, if_pos c22, if_pos c31, if_neg c45])]
            exact ih M lo hi (j + 1) H locs ls hmy hbx htp (by omega) (by omega) hP hS (lv_sub hl [1, 2, 3, 0] rfl)
          · refine lv_aload_n hx hb dX8_spread_48 rfl (lv_at hl 0 rfl) ?_
            refine lv_iload_n hx hb dX8_spread_49 rfl (lv_at hl 3 rfl) ?_
            refine xc_i (va_runV (As := [.int (nI (j))]) (rest := []) ⟨hx, hb, hml, hown, hts⟩ (c_X8_reading l D cy b n hn M j (by omega) hbx htp) (cwV 1 hts gX8_spread_X8_reading rfl rfl rfl (by decide +kernel) ⟨Nat.le_of_ble_eq_true rfl, Nat.le_of_ble_eq_true rfl⟩) (xPreV hP hK hX hS (by omega) (cell8 (by decide)) rfl) rfl rfl hl.1 rfl (lv_room (Nat.le_of_ble_eq_true rfl)) dX8_spread_50 ⟨Nat.le_of_ble_eq_true rfl, Nat.le_of_ble_eq_true rfl⟩) hS (fun H locs hP hS => ?_)
            refine lv_iload_n hx hb dX8_spread_53 rfl (lv_at hl 2 rfl) ?_
            refine lv_icmp_le (tgt := 63) hx hb dX8_spread_54 (by decide) (fun c54 => ?_) (fun c54 => ?_)
            · refine lv_iinc (v := nI (j + 1)) (lv' := [(3, .int (nI (j + 1))), (0, .ref (b + 124)), (1, .int lo), (2, .int hi)]) hx hb dX8_spread_63 hl (k := 3) rfl (ixAdd (a := j) (c := 1) (d := j + 1) rfl rfl (by omega)) (by decide) rfl (fun ls hl => ?_)
              refine lv_goto (tgt := 7) hx hb dX8_spread_66 (by decide) ?_
              rw [show LX8_spread_7f (k + 1) M lo hi j = LX8_spread_7f k M lo hi (j + 1) from (by rw [LX8_spread_7f, if_neg c14, if_pos c22, if_pos c31, if_pos c45, if_pos c54]), show LX8_spread_7g (k + 1) M lo hi j = LX8_spread_7g k M lo hi (j + 1) from (by rw [LX8_spread_7g, if_neg c14, if_pos c22, if_pos c31, if_pos c45, if_pos c54])]
              exact ih M lo hi (j + 1) H locs ls hmy hbx htp (by omega) (by omega) hP hS (lv_sub hl [1, 2, 3, 0] rfl)
            · refine lv_aload_n hx hb dX8_spread_57 rfl (lv_at hl 0 rfl) ?_
              refine lv_iload_n hx hb dX8_spread_58 rfl (lv_at hl 3 rfl) ?_
              refine xc_i (va_runV (As := [.int (nI (j))]) (rest := []) ⟨hx, hb, hml, hown, hts⟩ (c_X8_reading l D cy b n hn M j (by omega) hbx htp) (cwV 1 hts gX8_spread_X8_reading rfl rfl rfl (by decide +kernel) ⟨Nat.le_of_ble_eq_true rfl, Nat.le_of_ble_eq_true rfl⟩) (xPreV hP hK hX hS (by omega) (cell8 (by decide)) rfl) rfl rfl hl.1 rfl (lv_room (Nat.le_of_ble_eq_true rfl)) dX8_spread_59 ⟨Nat.le_of_ble_eq_true rfl, Nat.le_of_ble_eq_true rfl⟩) hS (fun H locs hP hS => ?_)
              refine lv_istore_n (lv' := [(2, .int (fX8_reading M j)), (0, .ref (b + 124)), (1, .int lo), (3, .int (nI (j)))]) hx hb dX8_spread_62 rfl hl (by decide) rfl (fun ls hl => ?_)
              refine lv_iinc (v := nI (j + 1)) (lv' := [(3, .int (nI (j + 1))), (2, .int (fX8_reading M j)), (0, .ref (b + 124)), (1, .int lo)]) hx hb dX8_spread_63 hl (k := 3) rfl (ixAdd (a := j) (c := 1) (d := j + 1) rfl rfl (by omega)) (by decide) rfl (fun ls hl => ?_)
              refine lv_goto (tgt := 7) hx hb dX8_spread_66 (by decide) ?_
              rw [show LX8_spread_7f (k + 1) M lo hi j = LX8_spread_7f k M lo (fX8_reading M j) (j + 1) from (by rw [LX8_spread_7f, if_neg c14, if_pos c22, if_pos c31, if_pos c45, if_neg c54]), show LX8_spread_7g (k + 1) M lo hi j = LX8_spread_7g k M lo (fX8_reading M j) (j + 1) from (by rw [LX8_spread_7g, if_neg c14, if_pos c22, if_pos c31, if_pos c45, if_neg c54])]
              exact ih M lo (fX8_reading M j) (j + 1) H locs ls hmy hbx htp (by omega) (by omega) hP hS (lv_sub hl [2, 3, 1, 0] rfl)
        · refine lv_aload_n hx hb dX8_spread_34 rfl (lv_at hl 0 rfl) ?_
          refine lv_iload_n hx hb dX8_spread_35 rfl (lv_at hl 3 rfl) ?_
          refine xc_i (va_runV (As := [.int (nI (j))]) (rest := []) ⟨hx, hb, hml, hown, hts⟩ (c_X8_reading l D cy b n hn M j (by omega) hbx htp) (cwV 1 hts gX8_spread_X8_reading rfl rfl rfl (by decide +kernel) ⟨Nat.le_of_ble_eq_true rfl, Nat.le_of_ble_eq_true rfl⟩) (xPreV hP hK hX hS (by omega) (cell8 (by decide)) rfl) rfl rfl hl.1 rfl (lv_room (Nat.le_of_ble_eq_true rfl)) dX8_spread_36 ⟨Nat.le_of_ble_eq_true rfl, Nat.le_of_ble_eq_true rfl⟩) hS (fun H locs hP hS => ?_)
          refine lv_istore_n (lv' := [(1, .int (fX8_reading M j)), (0, .ref (b + 124)), (2, .int hi), (3, .int (nI (j)))]) hx hb dX8_spread_39 rfl hl (by decide) rfl (fun ls hl => ?_)
          refine lv_aload_n hx hb dX8_spread_40 rfl (lv_at hl 1 rfl) ?_
          refine lv_iload_n hx hb dX8_spread_41 rfl (lv_at hl 3 rfl) ?_
          refine xc_i (va_runV (As := [.int (nI (j))]) (rest := []) ⟨hx, hb, hml, hown, hts⟩ (c_X8_flaw l D cy b n hn M j (by omega)) (cwV 1 hts gX8_spread_X8_flaw rfl rfl rfl (by decide +kernel) ⟨Nat.le_of_ble_eq_true rfl, Nat.le_of_ble_eq_true rfl⟩) (xPreV hP hK hX hS (by omega) (cell8 (by decide)) rfl) rfl rfl hl.1 rfl (lv_room (Nat.le_of_ble_eq_true rfl)) dX8_spread_42 ⟨Nat.le_of_ble_eq_true rfl, Nat.le_of_ble_eq_true rfl⟩) hS (fun H locs hP hS => ?_)
          refine lv_if_ne (tgt := 63) hx hb dX8_spread_45 (by decide) (fun c45 => ?_) (fun c45 => ?_)
          · refine lv_iinc (v := nI (j + 1)) (lv' := [(3, .int (nI (j + 1))), (1, .int (fX8_reading M j)), (0, .ref (b + 124)), (2, .int hi)]) hx hb dX8_spread_63 hl (k := 3) rfl (ixAdd (a := j) (c := 1) (d := j + 1) rfl rfl (by omega)) (by decide) rfl (fun ls hl => ?_)
            refine lv_goto (tgt := 7) hx hb dX8_spread_66 (by decide) ?_
            rw [show LX8_spread_7f (k + 1) M lo hi j = LX8_spread_7f k M (fX8_reading M j) hi (j + 1) from (by rw [LX8_spread_7f, if_neg c14, if_pos c22, if_neg c31, if_neg c45]), show LX8_spread_7g (k + 1) M lo hi j = LX8_spread_7g k M (fX8_reading M j) hi (j + 1) from (by rw [LX8_spread_7g, if_neg c14, if_pos c22, if_neg c31, if_neg c45])]
            exact ih M (fX8_reading M j) hi (j + 1) H locs ls hmy hbx htp (by omega) (by omega) hP hS (lv_sub hl [2, 1, 3, 0] rfl)
          · refine lv_aload_n hx hb dX8_spread_48 rfl (lv_at hl 1 rfl) ?_
            refine lv_iload_n hx hb dX8_spread_49 rfl (lv_at hl 3 rfl) ?_
            refine xc_i (va_runV (As := [.int (nI (j))]) (rest := []) ⟨hx, hb, hml, hown, hts⟩ (c_X8_reading l D cy b n hn M j (by omega) hbx htp) (cwV 1 hts gX8_spread_X8_reading rfl rfl rfl (by decide +kernel) ⟨Nat.le_of_ble_eq_true rfl, Nat.le_of_ble_eq_true rfl⟩) (xPreV hP hK hX hS (by omega) (cell8 (by decide)) rfl) rfl rfl hl.1 rfl (lv_room (Nat.le_of_ble_eq_true rfl)) dX8_spread_50 ⟨Nat.le_of_ble_eq_true rfl, Nat.le_of_ble_eq_true rfl⟩) hS (fun H locs hP hS => ?_)
            refine lv_iload_n hx hb dX8_spread_53 rfl (lv_at hl 2 rfl) ?_
            refine lv_icmp_le (tgt := 63) hx hb dX8_spread_54 (by decide) (fun c54 => ?_) (fun c54 => ?_)
            · refine lv_iinc (v := nI (j + 1)) (lv' := [(3, .int (nI (j + 1))), (1, .int (fX8_reading M j)), (0, .ref (b + 124)), (2, .int hi)]) hx hb dX8_spread_63 hl (k := 3) rfl (ixAdd (a := j) (c := 1) (d := j + 1) rfl rfl (by omega)) (by decide) rfl (fun ls hl => ?_)
              refine lv_goto (tgt := 7) hx hb dX8_spread_66 (by decide) ?_
              rw [show LX8_spread_7f (k + 1) M lo hi j = LX8_spread_7f k M (fX8_reading M j) hi (j + 1) from (by rw [LX8_spread_7f, if_neg c14, if_pos c22, if_neg c31, if_pos c45, if_pos c54]), show LX8_spread_7g (k + 1) M lo hi j = LX8_spread_7g k M (fX8_reading M j) hi (j + 1) from (by rw [LX8_spread_7g, if_neg c14, if_pos c22, if_neg c31, if_pos c45, if_pos c54])]
              exact ih M (fX8_reading M j) hi (j + 1) H locs ls hmy hbx htp (by omega) (by omega) hP hS (lv_sub hl [2, 1, 3, 0] rfl)
            · refine lv_aload_n hx hb dX8_spread_57 rfl (lv_at hl 1 rfl) ?_
              refine lv_iload_n hx hb dX8_spread_58 rfl (lv_at hl 3 rfl) ?_
              refine xc_i (va_runV (As := [.int (nI (j))]) (rest := []) ⟨hx, hb, hml, hown, hts⟩ (c_X8_reading l D cy b n hn M j (by omega) hbx htp) (cwV 1 hts gX8_spread_X8_reading rfl rfl rfl (by decide +kernel) ⟨Nat.le_of_ble_eq_true rfl, Nat.le_of_ble_eq_true rfl⟩) (xPreV hP hK hX hS (by omega) (cell8 (by decide)) rfl) rfl rfl hl.1 rfl (lv_room (Nat.le_of_ble_eq_true rfl)) dX8_spread_59 ⟨Nat.le_of_ble_eq_true rfl, Nat.le_of_ble_eq_true rfl⟩) hS (fun H locs hP hS => ?_)
              refine lv_istore_n (lv' := [(2, .int (fX8_reading M j)), (1, .int (fX8_reading M j)), (0, .ref (b + 124)), (3, .int (nI (j)))]) hx hb dX8_spread_62 rfl hl (by decide) rfl (fun ls hl => ?_)
              refine lv_iinc (v := nI (j + 1)) (lv' := [(3, .int (nI (j + 1))), (2, .int (fX8_reading M j)), (1, .int (fX8_reading M j)), (0, .ref (b + 124))]) hx hb dX8_spread_63 hl (k := 3) rfl (ixAdd (a := j) (c := 1) (d := j + 1) rfl rfl (by omega)) (by decide) rfl (fun ls hl => ?_)
              refine lv_goto (tgt := 7) hx hb dX8_spread_66 (by decide) ?_
              rw [show LX8_spread_7f (k + 1) M lo hi j = LX8_spread_7f k M (fX8_reading M j) (fX8_reading M j) (j + 1) from (by rw [LX8_spread_7f, if_neg c14, if_pos c22, if_neg c31, if_pos c45, if_neg c54]), show LX8_spread_7g (k + 1) M lo hi j = LX8_spread_7g k M (fX8_reading M j) (fX8_reading M j) (j + 1) from (by rw [LX8_spread_7g, if_neg c14, if_pos c22, if_neg c31, if_pos c45, if_neg c54])]
              exact ih M (fX8_reading M j) (fX8_reading M j) (j + 1) H locs ls hmy hbx htp (by omega) (by omega) hP hS (lv_sub hl [3, 2, 1, 0] rfl)

def fX8_spread (M : Mem) : Int32 := LX8_spread_7f 7 M (100 : Int32) (0 : Int32) 0
def gX8_spread (M : Mem) : Mem := LX8_spread_7g 7 M (100 : Int32) (0 : Int32) 0
set_option maxHeartbeats 4000000 in
set_option maxRecDepth 100000 in
theorem c_X8_spread (l : Launch) (D : va_G) (cy : Nat → ClassId) (b n : Nat) (hn : 133 ≤ n) (M : Mem)  (hmy : MNY M) (hbx : BXS M) (htp : TMP M) : Met l yX8_spread wsX8_spread ({ frames := 6, cells := 0, slots := 0, locals := 126 } : Room) (CP D cy b n fT M [.ref (b + 124)]) (CQi D cy b n fT (fX8_spread M) (gX8_spread M)) 0 0 (fr b) := by
  refine Met.ofW (cc := cX8_spread) (maxL := 4) (ret := (some .int)) (by decide) rfl ?_
  intro p e s m args below meth c s₁ B hml hv
  obtain ⟨rfl, hP, hK, hX⟩ := hv
  have hx := B.exec
  have hb := B.bytes
  have hr := B.returns
  have hts := atoms_spec (ws := wsX8_spread) B.pre
  have hown : s.vm.findClass RX8 = some m.cls := findClass_of_methodNamed B.named
  have hlocks := B.notSynchronized
  have hS : va_S (fr b) s.heap s.heap [] := va_S.rf
  have hl := lv_entry ([.ref (b + 124)]) (n := 4) (Nat.le_of_ble_eq_true rfl)
  rw [lg_entry_eq]
  generalize (lg_sl ([.ref (b + 124)]) ++ List.replicate (4 - (lg_sl ([.ref (b + 124)])).length) Slot.unset).toArray = ls at hl ⊢
  have hl : lv_has ls 4 [(0, .ref (b + 124))] := hl
  refine lv_bipush (v := 100) hx hb dX8_spread_0 (by decide) ?_
  refine lv_istore_n (lv' := [(1, .int (100 : Int32)), (0, .ref (b + 124))]) hx hb dX8_spread_2 rfl hl (by decide) rfl (fun ls hl => ?_)
  refine lv_iconst (v := 0) hx hb dX8_spread_3 (by decide) ?_
  refine lv_istore_n (lv' := [(2, .int (0 : Int32)), (1, .int (100 : Int32)), (0, .ref (b + 124))]) hx hb dX8_spread_4 rfl hl (by decide) rfl (fun ls hl => ?_)
  refine lv_iconst (v := 0) hx hb dX8_spread_5 (by decide) ?_
  refine lv_istore_n (lv' := [(3, .int (0 : Int32)), (2, .int (0 : Int32)), (1, .int (100 : Int32)), (0, .ref (b + 124))]) hx hb dX8_spread_6 rfl hl (by decide) rfl (fun ls hl => ?_)
  rw [show fX8_spread M = LX8_spread_7f 7 M (100 : Int32) (0 : Int32) 0 from (by rw [fX8_spread]), show gX8_spread M = LX8_spread_7g 7 M (100 : Int32) (0 : Int32) 0 from (by rw [gX8_spread])]
  exact cl_X8_spread_7 l D cy b n hn  hx hb hr hlocks hml hown hts hK hX 7 M (100 : Int32) (0 : Int32) 0 s.heap [] ls hmy hbx htp (by omega) (by omega) hP hS (lv_sub hl [3, 2, 1, 0] rfl)
