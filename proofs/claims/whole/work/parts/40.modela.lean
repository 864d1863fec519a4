/-! the reference: one object, its arrays -/
theorem nat_of {x : Int32} (h : ¬ x < 0) : x = nI x.toNatClampNeg := by
  obtain ⟨j, hj, rfl⟩ := nI_of h
  rw [nI_clamp hj]
theorem nat_ub {x : Int32} {N : Nat} (h : UB x N) (hN : N < 2 ^ 31 := by decide) : x = nI x.toNatClampNeg := nat_of (ub_ge h hN)
/-- a box, or none -/
def BX (v : Int32) : Prop := v = -1 ∨ UB v 3
def BXS (M : Mem) : Prop := ∀ j, j < 6 → BX (M 127 (8 * j + 15))
abbrev MNY (M : Mem) : Prop := UB (M 127 5) 6
theorem bx_in {v : Int32} (h : BX v) (hc : ¬ v = -1) : vp_in v 4 := by
  rcases h with h | ⟨k, hk, rfl⟩
  · exact absurd h hc
  · exact vp_in_nI (by omega) (by decide)
def fX8_thrown (M : Mem) : Int32 := M 124 2
set_option maxHeartbeats 4000000 in
set_option maxRecDepth 100000 in
theorem c_X8_thrown (l : Launch) (D : va_G) (cy : Nat → ClassId) (b n : Nat) (hn : 133 ≤ n) (M : Mem)   : Met l yX8_thrown wsX8_thrown ({ frames := 0, cells := 0, slots := 0, locals := 0 } : Room) (CP D cy b n fT M [.ref (b + 124)]) (CQi D cy b n fT (fX8_thrown M) M) 0 0 (fr b) := by
  refine Met.ofW (cc := cX8_thrown) (maxL := 1) (ret := (some .int)) (by decide) rfl ?_
  intro p e s m args below meth c s₁ B hml hv
  obtain ⟨rfl, hP, hK, hX⟩ := hv
  have hx := B.exec
  have hb := B.bytes
  have hr := B.returns
  have hts := atoms_spec (ws := wsX8_thrown) B.pre
  have hown : s.vm.findClass RX8 = some m.cls := findClass_of_methodNamed B.named
  have hlocks := B.notSynchronized
  have lk0 := hts (.fieldLink RX8 53 "HygrometerRoomModel" "thrown" "I") (by decide +kernel)
  have inc8 : ∀ w ∈ u_ws RX8 TX8 22, w ∈ wsX8_thrown := by decide +kernel
  have hS : va_S (fr b) s.heap s.heap [] := va_S.rf
  have hl := lv_entry ([.ref (b + 124)]) (n := 1) (Nat.le_of_ble_eq_true rfl)
  rw [lg_entry_eq]
  generalize (lg_sl ([.ref (b + 124)]) ++ List.replicate (1 - (lg_sl ([.ref (b + 124)])).length) Slot.unset).toArray = ls at hl ⊢
  have hl : lv_has ls 1 [(0, .ref (b + 124))] := hl
  refine lv_aload_n hx hb dX8_thrown_0 rfl (lv_at hl 0 rfl) ?_
  refine xg (C := RX8) (T := TX8) (N := 22) (v := .int (M 124 2)) hx hb hts inc8 hown hK hP (by omega) (cell8 (by decide)) rfl 2 (by decide) lk0 (fun _ h => h) rfl dX8_thrown_1 ?_
  exact xe_i hx hb hr hlocks hP hS rfl rfl (by rw [fX8_thrown] <;> rfl) (Nat.le_of_ble_eq_true rfl) (Nat.le_of_ble_eq_true rfl) dX8_thrown_4
def fX8_refuse (M : Mem) (x : Int32) : Int32 := (0 : Int32)
def gX8_refuse (M : Mem) (x : Int32) : Mem := mU M 124 2 x
set_option maxHeartbeats 4000000 in
set_option maxRecDepth 100000 in
theorem c_X8_refuse (l : Launch) (D : va_G) (cy : Nat → ClassId) (b n : Nat) (hn : 133 ≤ n) (M : Mem) (x : Int32)  : Met l yX8_refuse wsX8_refuse ({ frames := 0, cells := 0, slots := 0, locals := 0 } : Room) (CP D cy b n fT M [.ref (b + 124), .int x]) (CQi D cy b n fT (fX8_refuse M x) (gX8_refuse M x)) 0 0 (fr b) := by
  refine Met.ofW (cc := cX8_refuse) (maxL := 2) (ret := (some .int)) (by decide) rfl ?_
  intro p e s m args below meth c s₁ B hml hv
  obtain ⟨rfl, hP, hK, hX⟩ := hv
  have hx := B.exec
  have hb := B.bytes
  have hr := B.returns
  have hts := atoms_spec (ws := wsX8_refuse) B.pre
  have hown : s.vm.findClass RX8 = some m.cls := findClass_of_methodNamed B.named
  have hlocks := B.notSynchronized
  have lk0 := hts (.fieldLink RX8 53 "HygrometerRoomModel" "thrown" "I") (by decide +kernel)
  have inc8 : ∀ w ∈ u_ws RX8 TX8 22, w ∈ wsX8_refuse := by decide +kernel
  have hS : va_S (fr b) s.heap s.heap [] := va_S.rf
  have hl := lv_entry ([.ref (b + 124), .int x]) (n := 2) (Nat.le_of_ble_eq_true rfl)
  rw [lg_entry_eq]
  generalize (lg_sl ([.ref (b + 124), .int x]) ++ List.replicate (2 - (lg_sl ([.ref (b + 124), .int x])).length) Slot.unset).toArray = ls at hl ⊢
  have hl : lv_has ls 2 [(0, .ref (b + 124)), (1, .int x)] := hl
  refine lv_aload_n hx hb dX8_refuse_0 rfl (lv_at hl 0 rfl) ?_
  refine lv_iload_n hx hb dX8_refuse_1 rfl (lv_at hl 1 rfl) ?_
  refine xp (C := RX8) (T := TX8) (N := 22) (ci := 8) (ty := .int) (x := x) hx hb hts inc8 tyX8 tyX8_ok nmX8 hown hK hP hS (by omega) (fun _ => cell8 (by decide)) rfl 2 (by decide) rfl lk0 (fun _ h => h) rfl (tyX8_ok 2 (by decide)) rfl rfl (Nat.le_of_ble_eq_true rfl) dX8_refuse_2 (fun H locs hP hS => ?_)
  refine lv_iconst (v := 0) hx hb dX8_refuse_5 (by decide) ?_
  exact xe_i hx hb hr hlocks hP hS rfl (by rw [gX8_refuse] <;> rfl) (by rw [fX8_refuse] <;> rfl) (Nat.le_of_ble_eq_true rfl) (Nat.le_of_ble_eq_true rfl) dX8_refuse_6
def fX8_told (M : Mem) (x : Int32) : Int32 := x
def gX8_told (M : Mem) (x : Int32) : Mem := mU M 124 2 (0 : Int32)
set_option maxHeartbeats 4000000 in
set_option maxRecDepth 100000 in
theorem c_X8_told (l : Launch) (D : va_G) (cy : Nat → ClassId) (b n : Nat) (hn : 133 ≤ n) (M : Mem) (x : Int32)  : Met l yX8_told wsX8_told ({ frames := 0, cells := 0, slots := 0, locals := 0 } : Room) (CP D cy b n fT M [.ref (b + 124), .int x]) (CQi D cy b n fT (fX8_told M x) (gX8_told M x)) 0 0 (fr b) := by
  refine Met.ofW (cc := cX8_told) (maxL := 2) (ret := (some .int)) (by decide) rfl ?_
  intro p e s m args below meth c s₁ B hml hv
  obtain ⟨rfl, hP, hK, hX⟩ := hv
  have hx := B.exec
  have hb := B.bytes
  have hr := B.returns
  have hts := atoms_spec (ws := wsX8_told) B.pre
  have hown : s.vm.findClass RX8 = some m.cls := findClass_of_methodNamed B.named
  have hlocks := B.notSynchronized
  have lk0 := hts (.fieldLink RX8 53 "HygrometerRoomModel" "thrown" "I") (by decide +kernel)
  have inc8 : ∀ w ∈ u_ws RX8 TX8 22, w ∈ wsX8_told := by decide +kernel
  have hS : va_S (fr b) s.heap s.heap [] := va_S.rf
  have hl := lv_entry ([.ref (b + 124), .int x]) (n := 2) (Nat.le_of_ble_eq_true rfl)
  rw [lg_entry_eq]
  generalize (lg_sl ([.ref (b + 124), .int x]) ++ List.replicate (2 - (lg_sl ([.ref (b + 124), .int x])).length) Slot.unset).toArray = ls at hl ⊢
  have hl : lv_has ls 2 [(0, .ref (b + 124)), (1, .int x)] := hl
  refine lv_aload_n hx hb dX8_told_0 rfl (lv_at hl 0 rfl) ?_
  refine lv_iconst (v := 0) hx hb dX8_told_1 (by decide) ?_
  refine xp (C := RX8) (T := TX8) (N := 22) (ci := 8) (ty := .int) (x := (0 : Int32)) hx hb hts inc8 tyX8 tyX8_ok nmX8 hown hK hP hS (by omega) (fun _ => cell8 (by decide)) rfl 2 (by decide) rfl lk0 (fun _ h => h) rfl (tyX8_ok 2 (by decide)) rfl rfl (Nat.le_of_ble_eq_true rfl) dX8_told_2 (fun H locs hP hS => ?_)
  refine lv_iload_n hx hb dX8_told_5 rfl (lv_at hl 1 rfl) ?_
  exact xe_i hx hb hr hlocks hP hS rfl (by rw [gX8_told] <;> rfl) (by rw [fX8_told] <;> rfl) (Nat.le_of_ble_eq_true rfl) (Nat.le_of_ble_eq_true rfl) dX8_told_6
def fX8_refuses (M : Mem) : Int32 := (0 : Int32)
def gX8_refuses (M : Mem) : Mem := mU M 124 2 (1 : Int32)
set_option maxHeartbeats 4000000 in
set_option maxRecDepth 100000 in
theorem c_X8_refuses (l : Launch) (D : va_G) (cy : Nat → ClassId) (b n : Nat) (hn : 133 ≤ n) (M : Mem)   : Met l yX8_refuses wsX8_refuses ({ frames := 0, cells := 0, slots := 0, locals := 0 } : Room) (CP D cy b n fT M [.ref (b + 124)]) (CQi D cy b n fT (fX8_refuses M) (gX8_refuses M)) 0 0 (fr b) := by
  refine Met.ofW (cc := cX8_refuses) (maxL := 1) (ret := (some .boolean)) (by decide) rfl ?_
  intro p e s m args below meth c s₁ B hml hv
  obtain ⟨rfl, hP, hK, hX⟩ := hv
  have hx := B.exec
  have hb := B.bytes
  have hr := B.returns
  have hts := atoms_spec (ws := wsX8_refuses) B.pre
  have hown : s.vm.findClass RX8 = some m.cls := findClass_of_methodNamed B.named
  have hlocks := B.notSynchronized
  have lk0 := hts (.fieldLink RX8 53 "HygrometerRoomModel" "thrown" "I") (by decide +kernel)
  have inc8 : ∀ w ∈ u_ws RX8 TX8 22, w ∈ wsX8_refuses := by decide +kernel
  have hS : va_S (fr b) s.heap s.heap [] := va_S.rf
  have hl := lv_entry ([.ref (b + 124)]) (n := 1) (Nat.le_of_ble_eq_true rfl)
  rw [lg_entry_eq]
  generalize (lg_sl ([.ref (b + 124)]) ++ List.replicate (1 - (lg_sl ([.ref (b + 124)])).length) Slot.unset).toArray = ls at hl ⊢
  have hl : lv_has ls 1 [(0, .ref (b + 124))] := hl
  refine lv_aload_n hx hb dX8_refuses_0 rfl (lv_at hl 0 rfl) ?_
  refine lv_iconst (v := 1) hx hb dX8_refuses_1 (by decide) ?_
  refine xp (C := RX8) (T := TX8) (N := 22) (ci := 8) (ty := .int) (x := (1 : Int32)) hx hb hts inc8 tyX8 tyX8_ok nmX8 hown hK hP hS (by omega) (fun _ => cell8 (by decide)) rfl 2 (by decide) rfl lk0 (fun _ h => h) rfl (tyX8_ok 2 (by decide)) rfl rfl (Nat.le_of_ble_eq_true rfl) dX8_refuses_2 (fun H locs hP hS => ?_)
  refine lv_iconst (v := 0) hx hb dX8_refuses_5 (by decide) ?_
  exact xe_z hx hb hr hlocks hP hS rfl (by rw [gX8_refuses] <;> rfl) (by rw [fX8_refuses] <;> rfl) rfl (Nat.le_of_ble_eq_true rfl) (Nat.le_of_ble_eq_true rfl) dX8_refuses_6
def fX8_in (M : Mem) (x : Int32) (y : Int32) (z : Int32) : Int32 := if x < y then (0 : Int32) else (if z < x then (0 : Int32) else (1 : Int32))
set_option maxHeartbeats 4000000 in
set_option maxRecDepth 100000 in
theorem c_X8_in (l : Launch) (D : va_G) (cy : Nat → ClassId) (b n : Nat) (hn : 133 ≤ n) (M : Mem) (x : Int32) (y : Int32) (z : Int32)  : Met l yX8_in wsX8_in ({ frames := 0, cells := 0, slots := 0, locals := 0 } : Room) (CP D cy b n fT M [.int x, .int y, .int z]) (CQi D cy b n fT (fX8_in M x y z) M) 0 0 (fr b) := by
  refine Met.ofW (cc := cX8_in) (maxL := 3) (ret := (some .boolean)) (by decide) rfl ?_
  intro p e s m args below meth c s₁ B hml hv
  obtain ⟨rfl, hP, hK, hX⟩ := hv
  have hx := B.exec
  have hb := B.bytes
  have hr := B.returns
  have hts := atoms_spec (ws := wsX8_in) B.pre
  have hown : s.vm.findClass RX8 = some m.cls := findClass_of_methodNamed B.named
  have hlocks := B.notSynchronized
  have hS : va_S (fr b) s.heap s.heap [] := va_S.rf
  have hl := lv_entry ([.int x, .int y, .int z]) (n := 3) (Nat.le_of_ble_eq_true rfl)
  rw [lg_entry_eq]
  generalize (lg_sl ([.int x, .int y, .int z]) ++ List.replicate (3 - (lg_sl ([.int x, .int y, .int z])).length) Slot.unset).toArray = ls at hl ⊢
  have hl : lv_has ls 3 [(0, .int x), (1, .int y), (2, .int z)] := hl
  refine lv_iload_n hx hb dX8_in_0 rfl (lv_at hl 0 rfl) ?_
  refine lv_iload_n hx hb dX8_in_1 rfl (lv_at hl 1 rfl) ?_
  refine lv_icmp_lt (tgt := 14) hx hb dX8_in_2 (by decide) (fun c2 => ?_) (fun c2 => ?_)
  · refine lv_iconst (v := 0) hx hb dX8_in_14 (by decide) ?_
    exact xe_z hx hb hr hlocks hP hS rfl rfl (by rw [fX8_in, if_pos c2] <;> rfl) rfl (Nat.le_of_ble_eq_true rfl) (Nat.le_of_ble_eq_true rfl) dX8_in_15
  · refine lv_iload_n hx hb dX8_in_5 rfl (lv_at hl 0 rfl) ?_
    refine lv_iload_n hx hb dX8_in_6 rfl (lv_at hl 2 rfl) ?_
    refine lv_icmp_gt (tgt := 14) hx hb dX8_in_7 (by decide) (fun c7 => ?_) (fun c7 => ?_)
    · refine lv_iconst (v := 0) hx hb dX8_in_14 (by decide) ?_
      exact xe_z hx hb hr hlocks hP hS rfl rfl (by rw [fX8_in, if_neg c2, if_pos c7] <;> rfl) rfl (Nat.le_of_ble_eq_true rfl) (Nat.le_of_ble_eq_true rfl) dX8_in_15
    · refine lv_iconst (v := 1) hx hb dX8_in_10 (by decide) ?_
      refine lv_goto (tgt := 15) hx hb dX8_in_11 (by decide) ?_
      exact xe_z hx hb hr hlocks hP hS rfl rfl (by rw [fX8_in, if_neg c2, if_neg c7] <;> rfl) rfl (Nat.le_of_ble_eq_true rfl) (Nat.le_of_ble_eq_true rfl) dX8_in_15
def fX8_without (M : Mem) (x : Int32) : Int32 := if 0 ≤ x then x else (-x)
set_option maxHeartbeats 4000000 in
set_option maxRecDepth 100000 in
theorem c_X8_without (l : Launch) (D : va_G) (cy : Nat → ClassId) (b n : Nat) (hn : 133 ≤ n) (M : Mem) (x : Int32)  : Met l yX8_without wsX8_without ({ frames := 0, cells := 0, slots := 0, locals := 0 } : Room) (CP D cy b n fT M [.int x]) (CQi D cy b n fT (fX8_without M x) M) 0 0 (fr b) := by
  refine Met.ofW (cc := cX8_without) (maxL := 1) (ret := (some .int)) (by decide) rfl ?_
  intro p e s m args below meth c s₁ B hml hv
  obtain ⟨rfl, hP, hK, hX⟩ := hv
  have hx := B.exec
  have hb := B.bytes
  have hr := B.returns
  have hts := atoms_spec (ws := wsX8_without) B.pre
  have hown : s.vm.findClass RX8 = some m.cls := findClass_of_methodNamed B.named
  have hlocks := B.notSynchronized
  have hS : va_S (fr b) s.heap s.heap [] := va_S.rf
  have hl := lv_entry ([.int x]) (n := 1) (Nat.le_of_ble_eq_true rfl)
  rw [lg_entry_eq]
  generalize (lg_sl ([.int x]) ++ List.replicate (1 - (lg_sl ([.int x])).length) Slot.unset).toArray = ls at hl ⊢
  have hl : lv_has ls 1 [(0, .int x)] := hl
  refine lv_iload_n hx hb dX8_without_0 rfl (lv_at hl 0 rfl) ?_
  refine lv_if_ge (tgt := 7) hx hb dX8_without_1 (by decide) (fun c1 => ?_) (fun c1 => ?_)
  · refine lv_iload_n hx hb dX8_without_7 rfl (lv_at hl 0 rfl) ?_
    exact xe_i hx hb hr hlocks hP hS rfl rfl (by rw [fX8_without, if_pos c1] <;> rfl) (Nat.le_of_ble_eq_true rfl) (Nat.le_of_ble_eq_true rfl) dX8_without_8
  · refine lv_iload_n hx hb dX8_without_4 rfl (lv_at hl 0 rfl) ?_
    refine lv_ineg hx hb dX8_without_5 ?_
    exact xe_i hx hb hr hlocks hP hS rfl rfl (by rw [fX8_without, if_neg c1] <;> rfl) (Nat.le_of_ble_eq_true rfl) (Nat.le_of_ble_eq_true rfl) dX8_without_6
def fX8_i (M : Mem) (k : Nat) : Int32 := nI (8 * k + 8)
set_option maxHeartbeats 4000000 in
set_option maxRecDepth 100000 in
theorem c_X8_i (l : Launch) (D : va_G) (cy : Nat → ClassId) (b n : Nat) (hn : 133 ≤ n) (M : Mem) (k : Nat)  : Met l yX8_i wsX8_i ({ frames := 0, cells := 0, slots := 0, locals := 0 } : Room) (CP D cy b n fT M [.int (nI (k))]) (CQi D cy b n fT (fX8_i M k) M) 0 0 (fr b) := by
  refine Met.ofW (cc := cX8_i) (maxL := 1) (ret := (some .int)) (by decide) rfl ?_
  intro p e s m args below meth c s₁ B hml hv
  obtain ⟨rfl, hP, hK, hX⟩ := hv
  have hx := B.exec
  have hb := B.bytes
  have hr := B.returns
  have hts := atoms_spec (ws := wsX8_i) B.pre
  have hown : s.vm.findClass RX8 = some m.cls := findClass_of_methodNamed B.named
  have hlocks := B.notSynchronized
  have hS : va_S (fr b) s.heap s.heap [] := va_S.rf
  have hl := lv_entry ([.int (nI (k))]) (n := 1) (Nat.le_of_ble_eq_true rfl)
  rw [lg_entry_eq]
  generalize (lg_sl ([.int (nI (k))]) ++ List.replicate (1 - (lg_sl ([.int (nI (k))])).length) Slot.unset).toArray = ls at hl ⊢
  have hl : lv_has ls 1 [(0, .int (nI (k)))] := hl
  refine lv_bipush (v := 8) hx hb dX8_i_0 (by decide) ?_
  refine lv_bipush (v := 8) hx hb dX8_i_2 (by decide) ?_
  refine lv_iload_n hx hb dX8_i_4 rfl (lv_at hl 0 rfl) ?_
  refine xmul (z := nI (8 * k)) hx hb (ixMul (a := 8) (c := k) (d := 8 * k) rfl rfl (by omega)) dX8_i_5 ?_
  refine xadd (z := nI (8 * k + 8)) hx hb (ixAdd (a := 8) (c := 8 * k) (d := 8 * k + 8) rfl rfl (by omega)) dX8_i_6 ?_
  exact xe_i hx hb hr hlocks hP hS rfl rfl (by rw [fX8_i] <;> rfl) (Nat.le_of_ble_eq_true rfl) (Nat.le_of_ble_eq_true rfl) dX8_i_7
def fX8_is (M : Mem) (x : Int32) : Int32 := fX8_in M x (0 : Int32) ((M 127 5) - (1 : Int32))
set_option maxHeartbeats 4000000 in
set_option maxRecDepth 100000 in
theorem c_X8_is (l : Launch) (D : va_G) (cy : Nat → ClassId) (b n : Nat) (hn : 133 ≤ n) (M : Mem) (x : Int32)  : Met l yX8_is wsX8_is ({ frames := 1, cells := 0, slots := 0, locals := 22 } : Room) (CP D cy b n fT M [.ref (b + 124), .int x]) (CQi D cy b n fT (fX8_is M x) M) 0 0 (fr b) := by
  refine Met.ofW (cc := cX8_is) (maxL := 2) (ret := (some .boolean)) (by decide) rfl ?_
  intro p e s m args below meth c s₁ B hml hv
  obtain ⟨rfl, hP, hK, hX⟩ := hv
  have hx := B.exec
  have hb := B.bytes
  have hr := B.returns
  have hts := atoms_spec (ws := wsX8_is) B.pre
  have hown : s.vm.findClass RX8 = some m.cls := findClass_of_methodNamed B.named
  have hlocks := B.notSynchronized
  have lk0 := hts (.fieldLink RX8 16 "HygrometerRoomModel" "now" "[I") (by decide +kernel)
  have inc8 : ∀ w ∈ u_ws RX8 TX8 22, w ∈ wsX8_is := by decide +kernel
  have hS : va_S (fr b) s.heap s.heap [] := va_S.rf
  have hl := lv_entry ([.ref (b + 124), .int x]) (n := 2) (Nat.le_of_ble_eq_true rfl)
  rw [lg_entry_eq]
  generalize (lg_sl ([.ref (b + 124), .int x]) ++ List.replicate (2 - (lg_sl ([.ref (b + 124), .int x])).length) Slot.unset).toArray = ls at hl ⊢
  have hl : lv_has ls 2 [(0, .ref (b + 124)), (1, .int x)] := hl
  refine lv_iload_n hx hb dX8_is_0 rfl (lv_at hl 1 rfl) ?_
  refine lv_iconst (v := 0) hx hb dX8_is_1 (by decide) ?_
  refine lv_aload_n hx hb dX8_is_2 rfl (lv_at hl 0 rfl) ?_
  refine xg (C := RX8) (T := TX8) (N := 22) (v := .ref (b + 127)) hx hb hts inc8 hown hK hP (by omega) (cell8 (by decide)) rfl 3 (by decide) lk0 (fun _ h => h) rfl dX8_is_3 ?_
  refine lv_iconst (v := 5) hx hb dX8_is_6 (by decide) ?_
  refine xil (j := 5) hx hb hK hP (by omega) (by decide) (ixIn (a := 5) rfl (by first | decide | (simp only [lenOf]; omega) | omega) (by decide)) rfl dX8_is_7 ?_
  refine lv_iconst (v := 1) hx hb dX8_is_8 (by decide) ?_
  refine lv_isub hx hb dX8_is_9 ?_
  refine xc_i (va_runS (As := [.int x, .int (0 : Int32), .int ((M 127 5) - (1 : Int32))]) (rest := []) ⟨hx, hb, hml, hown, hts⟩ (c_X8_in l D cy b n hn M x (0 : Int32) ((M 127 5) - (1 : Int32))) (va_cwS 3 hts gX8_is_X8_in rfl rfl rfl (by decide +kernel) ⟨Nat.le_of_ble_eq_true rfl, Nat.le_of_ble_eq_true rfl⟩) (xPreS hP hK hX hS) rfl rfl hl.1 rfl (lv_room (Nat.le_of_ble_eq_true rfl)) dX8_is_10 ⟨Nat.le_of_ble_eq_true rfl, Nat.le_of_ble_eq_true rfl⟩) hS (fun H locs hP hS => ?_)
  exact xe_z hx hb hr hlocks hP hS rfl rfl (by rw [fX8_is] <;> rfl) (by unfold fX8_in; (repeat' split) <;> rfl) (Nat.le_of_ble_eq_true rfl) (Nat.le_of_ble_eq_true rfl) dX8_is_13
def fX8_isLetter (M : Mem) (x : Int32) : Int32 := if x < (97 : Int32) then (0 : Int32) else (if (122 : Int32) < x then (0 : Int32) else (1 : Int32))
set_option maxHeartbeats 4000000 in
set_option maxRecDepth 100000 in
theorem c_X8_isLetter (l : Launch) (D : va_G) (cy : Nat → ClassId) (b n : Nat) (hn : 133 ≤ n) (M : Mem) (x : Int32)  : Met l yX8_isLetter wsX8_isLetter ({ frames := 0, cells := 0, slots := 0, locals := 0 } : Room) (CP D cy b n fT M [.int x]) (CQi D cy b n fT (fX8_isLetter M x) M) 0 0 (fr b) := by
  refine Met.ofW (cc := cX8_isLetter) (maxL := 1) (ret := (some .boolean)) (by decide) rfl ?_
  intro p e s m args below meth c s₁ B hml hv
  obtain ⟨rfl, hP, hK, hX⟩ := hv
  have hx := B.exec
  have hb := B.bytes
  have hr := B.returns
  have hts := atoms_spec (ws := wsX8_isLetter) B.pre
  have hown : s.vm.findClass RX8 = some m.cls := findClass_of_methodNamed B.named
  have hlocks := B.notSynchronized
  have hS : va_S (fr b) s.heap s.heap [] := va_S.rf
  have hl := lv_entry ([.int x]) (n := 1) (Nat.le_of_ble_eq_true rfl)
  rw [lg_entry_eq]
  generalize (lg_sl ([.int x]) ++ List.replicate (1 - (lg_sl ([.int x])).length) Slot.unset).toArray = ls at hl ⊢
  have hl : lv_has ls 1 [(0, .int x)] := hl
  refine lv_iload_n hx hb dX8_isLetter_0 rfl (lv_at hl 0 rfl) ?_
  refine lv_bipush (v := 97) hx hb dX8_isLetter_1 (by decide) ?_
  refine lv_icmp_lt (tgt := 16) hx hb dX8_isLetter_3 (by decide) (fun c3 => ?_) (fun c3 => ?_)
  · refine lv_iconst (v := 0) hx hb dX8_isLetter_16 (by decide) ?_
    exact xe_z hx hb hr hlocks hP hS rfl rfl (by rw [fX8_isLetter, if_pos c3] <;> rfl) rfl (Nat.le_of_ble_eq_true rfl) (Nat.le_of_ble_eq_true rfl) dX8_isLetter_17
  · refine lv_iload_n hx hb dX8_isLetter_6 rfl (lv_at hl 0 rfl) ?_
    refine lv_bipush (v := 122) hx hb dX8_isLetter_7 (by decide) ?_
    refine lv_icmp_gt (tgt := 16) hx hb dX8_isLetter_9 (by decide) (fun c9 => ?_) (fun c9 => ?_)
    · refine lv_iconst (v := 0) hx hb dX8_isLetter_16 (by decide) ?_
      exact xe_z hx hb hr hlocks hP hS rfl rfl (by rw [fX8_isLetter, if_neg c3, if_pos c9] <;> rfl) rfl (Nat.le_of_ble_eq_true rfl) (Nat.le_of_ble_eq_true rfl) dX8_isLetter_17
    · refine lv_iconst (v := 1) hx hb dX8_isLetter_12 (by decide) ?_
      refine lv_goto (tgt := 17) hx hb dX8_isLetter_13 (by decide) ?_
      exact xe_z hx hb hr hlocks hP hS rfl rfl (by rw [fX8_isLetter, if_neg c3, if_neg c9] <;> rfl) rfl (Nat.le_of_ble_eq_true rfl) (Nat.le_of_ble_eq_true rfl) dX8_isLetter_17
def fX8_isDigit (M : Mem) (x : Int32) : Int32 := if x < (48 : Int32) then (0 : Int32) else (if (57 : Int32) < x then (0 : Int32) else (1 : Int32))
set_option maxHeartbeats 4000000 in
set_option maxRecDepth 100000 in
theorem c_X8_isDigit (l : Launch) (D : va_G) (cy : Nat → ClassId) (b n : Nat) (hn : 133 ≤ n) (M : Mem) (x : Int32)  : Met l yX8_isDigit wsX8_isDigit ({ frames := 0, cells := 0, slots := 0, locals := 0 } : Room) (CP D cy b n fT M [.int x]) (CQi D cy b n fT (fX8_isDigit M x) M) 0 0 (fr b) := by
  refine Met.ofW (cc := cX8_isDigit) (maxL := 1) (ret := (some .boolean)) (by decide) rfl ?_
  intro p e s m args below meth c s₁ B hml hv
  obtain ⟨rfl, hP, hK, hX⟩ := hv
  have hx := B.exec
  have hb := B.bytes
  have hr := B.returns
  have hts := atoms_spec (ws := wsX8_isDigit) B.pre
  have hown : s.vm.findClass RX8 = some m.cls := findClass_of_methodNamed B.named
  have hlocks := B.notSynchronized
  have hS : va_S (fr b) s.heap s.heap [] := va_S.rf
  have hl := lv_entry ([.int x]) (n := 1) (Nat.le_of_ble_eq_true rfl)
  rw [lg_entry_eq]
  generalize (lg_sl ([.int x]) ++ List.replicate (1 - (lg_sl ([.int x])).length) Slot.unset).toArray = ls at hl ⊢
  have hl : lv_has ls 1 [(0, .int x)] := hl
  refine lv_iload_n hx hb dX8_isDigit_0 rfl (lv_at hl 0 rfl) ?_
  refine lv_bipush (v := 48) hx hb dX8_isDigit_1 (by decide) ?_
  refine lv_icmp_lt (tgt := 16) hx hb dX8_isDigit_3 (by decide) (fun c3 => ?_) (fun c3 => ?_)
  · refine lv_iconst (v := 0) hx hb dX8_isDigit_16 (by decide) ?_
    exact xe_z hx hb hr hlocks hP hS rfl rfl (by rw [fX8_isDigit, if_pos c3] <;> rfl) rfl (Nat.le_of_ble_eq_true rfl) (Nat.le_of_ble_eq_true rfl) dX8_isDigit_17
  · refine lv_iload_n hx hb dX8_isDigit_6 rfl (lv_at hl 0 rfl) ?_
    refine lv_bipush (v := 57) hx hb dX8_isDigit_7 (by decide) ?_
    refine lv_icmp_gt (tgt := 16) hx hb dX8_isDigit_9 (by decide) (fun c9 => ?_) (fun c9 => ?_)
    · refine lv_iconst (v := 0) hx hb dX8_isDigit_16 (by decide) ?_
      exact xe_z hx hb hr hlocks hP hS rfl rfl (by rw [fX8_isDigit, if_neg c3, if_pos c9] <;> rfl) rfl (Nat.le_of_ble_eq_true rfl) (Nat.le_of_ble_eq_true rfl) dX8_isDigit_17
    · refine lv_iconst (v := 1) hx hb dX8_isDigit_12 (by decide) ?_
      refine lv_goto (tgt := 17) hx hb dX8_isDigit_13 (by decide) ?_
      exact xe_z hx hb hr hlocks hP hS rfl rfl (by rw [fX8_isDigit, if_neg c3, if_neg c9] <;> rfl) rfl (Nat.le_of_ble_eq_true rfl) (Nat.le_of_ble_eq_true rfl) dX8_isDigit_17
def fX8_isOfHair (M : Mem) (k : Nat) : Int32 := if (M 127 (8 * k + 8)) = (1 : Int32) then (1 : Int32) else (0 : Int32)
set_option maxHeartbeats 4000000 in
set_option maxRecDepth 100000 in
theorem c_X8_isOfHair (l : Launch) (D : va_G) (cy : Nat → ClassId) (b n : Nat) (hn : 133 ≤ n) (M : Mem) (k : Nat) (hk6 : k < 6) : Met l yX8_isOfHair wsX8_isOfHair ({ frames := 1, cells := 0, slots := 0, locals := 20 } : Room) (CP D cy b n fT M [.ref (b + 124), .int (nI (k))]) (CQi D cy b n fT (fX8_isOfHair M k) M) 0 0 (fr b) := by
  refine Met.ofW (cc := cX8_isOfHair) (maxL := 2) (ret := (some .boolean)) (by decide) rfl ?_
  intro p e s m args below meth c s₁ B hml hv
  obtain ⟨rfl, hP, hK, hX⟩ := hv
  have hx := B.exec
  have hb := B.bytes
  have hr := B.returns
  have hts := atoms_spec (ws := wsX8_isOfHair) B.pre
  have hown : s.vm.findClass RX8 = some m.cls := findClass_of_methodNamed B.named
  have hlocks := B.notSynchronized
  have lk0 := hts (.fieldLink RX8 16 "HygrometerRoomModel" "now" "[I") (by decide +kernel)
  have inc8 : ∀ w ∈ u_ws RX8 TX8 22, w ∈ wsX8_isOfHair := by decide +kernel
  have hS : va_S (fr b) s.heap s.heap [] := va_S.rf
  have hl := lv_entry ([.ref (b + 124), .int (nI (k))]) (n := 2) (Nat.le_of_ble_eq_true rfl)
  rw [lg_entry_eq]
  generalize (lg_sl ([.ref (b + 124), .int (nI (k))]) ++ List.replicate (2 - (lg_sl ([.ref (b + 124), .int (nI (k))])).length) Slot.unset).toArray = ls at hl ⊢
  have hl : lv_has ls 2 [(0, .ref (b + 124)), (1, .int (nI (k)))] := hl
  refine lv_aload_n hx hb dX8_isOfHair_0 rfl (lv_at hl 0 rfl) ?_
  refine xg (C := RX8) (T := TX8) (N := 22) (v := .ref (b + 127)) hx hb hts inc8 hown hK hP (by omega) (cell8 (by decide)) rfl 3 (by decide) lk0 (fun _ h => h) rfl dX8_isOfHair_1 ?_
  refine lv_iload_n hx hb dX8_isOfHair_4 rfl (lv_at hl 1 rfl) ?_
  refine xc_i (va_runS (As := [.int (nI (k))]) (rest := [.ref (b + 127)]) ⟨hx, hb, hml, hown, hts⟩ (c_X8_i l D cy b n hn M k) (va_cwS 1 hts gX8_isOfHair_X8_i rfl rfl rfl (by decide +kernel) ⟨Nat.le_of_ble_eq_true rfl, Nat.le_of_ble_eq_true rfl⟩) (xPreS hP hK hX hS) rfl rfl hl.1 rfl (lv_room (Nat.le_of_ble_eq_true rfl)) dX8_isOfHair_5 ⟨Nat.le_of_ble_eq_true rfl, Nat.le_of_ble_eq_true rfl⟩) hS (fun H locs hP hS => ?_)
  refine W.eq (g2 := F0 m 8 ls (.int (nI (8 * k + 8)) :: .ref (b + 127) :: [])) (congrArg (fun z => F0 m 8 ls (.int z :: .ref (b + 127) :: [])) (show fX8_i M k = nI (8 * k + 8) from by unfold fX8_i; exact congrArg nI (by omega))) ?_
  refine lv_iconst (v := 0) hx hb dX8_isOfHair_8 (by decide) ?_
  refine xadd (z := nI (8 * k + 8)) hx hb (ixAdd (a := 8 * k + 8) (c := 0) (d := 8 * k + 8) rfl rfl (by omega)) dX8_isOfHair_9 ?_
  refine xil (j := 8 * k + 8) hx hb hK hP (by omega) (by decide) (ixIn (a := 8 * k + 8) rfl (by first | decide | (simp only [lenOf]; omega) | omega) (by decide)) (ixAt (a := 8 * k + 8) rfl (by omega)) dX8_isOfHair_10 ?_
  refine lv_iconst (v := 1) hx hb dX8_isOfHair_11 (by decide) ?_
  refine lv_icmp_ne (tgt := 19) hx hb dX8_isOfHair_12 (by decide) (fun c12 => ?_) (fun c12 => ?_)
  · refine lv_iconst (v := 0) hx hb dX8_isOfHair_19 (by decide) ?_
    exact xe_z hx hb hr hlocks hP hS rfl rfl (by rw [fX8_isOfHair, if_neg c12] <;> rfl) rfl (Nat.le_of_ble_eq_true rfl) (Nat.le_of_ble_eq_true rfl) dX8_isOfHair_20
  · refine lv_iconst (v := 1) hx hb dX8_isOfHair_15 (by decide) ?_
    refine lv_goto (tgt := 20) hx hb dX8_isOfHair_16 (by decide) ?_
    exact xe_z hx hb hr hlocks hP hS rfl rfl (by rw [fX8_isOfHair, if_pos c12] <;> rfl) rfl (Nat.le_of_ble_eq_true rfl) (Nat.le_of_ble_eq_true rfl) dX8_isOfHair_20
def fX8_isBoxed (M : Mem) (k : Nat) : Int32 := if (M 127 (8 * k + 15)) = ((-1) : Int32) then (0 : Int32) else (1 : Int32)
set_option maxHeartbeats 4000000 in
set_option maxRecDepth 100000 in
theorem c_X8_isBoxed (l : Launch) (D : va_G) (cy : Nat → ClassId) (b n : Nat) (hn : 133 ≤ n) (M : Mem) (k : Nat) (hk6 : k < 6) : Met l yX8_isBoxed wsX8_isBoxed ({ frames := 1, cells := 0, slots := 0, locals := 20 } : Room) (CP D cy b n fT M [.ref (b + 124), .int (nI (k))]) (CQi D cy b n fT (fX8_isBoxed M k) M) 0 0 (fr b) := by
  refine Met.ofW (cc := cX8_isBoxed) (maxL := 2) (ret := (some .boolean)) (by decide) rfl ?_
  intro p e s m args below meth c s₁ B hml hv
  obtain ⟨rfl, hP, hK, hX⟩ := hv
  have hx := B.exec
  have hb := B.bytes
  have hr := B.returns
  have hts := atoms_spec (ws := wsX8_isBoxed) B.pre
  have hown : s.vm.findClass RX8 = some m.cls := findClass_of_methodNamed B.named
  have hlocks := B.notSynchronized
  have lk0 := hts (.fieldLink RX8 16 "HygrometerRoomModel" "now" "[I") (by decide +kernel)
  have inc8 : ∀ w ∈ u_ws RX8 TX8 22, w ∈ wsX8_isBoxed := by decide +kernel
  have hS : va_S (fr b) s.heap s.heap [] := va_S.rf
  have hl := lv_entry ([.ref (b + 124), .int (nI (k))]) (n := 2) (Nat.le_of_ble_eq_true rfl)
  rw [lg_entry_eq]
  generalize (lg_sl ([.ref (b + 124), .int (nI (k))]) ++ List.replicate (2 - (lg_sl ([.ref (b + 124), .int (nI (k))])).length) Slot.unset).toArray = ls at hl ⊢
  have hl : lv_has ls 2 [(0, .ref (b + 124)), (1, .int (nI (k)))] := hl
  refine lv_aload_n hx hb dX8_isBoxed_0 rfl (lv_at hl 0 rfl) ?_
  refine xg (C := RX8) (T := TX8) (N := 22) (v := .ref (b + 127)) hx hb hts inc8 hown hK hP (by omega) (cell8 (by decide)) rfl 3 (by decide) lk0 (fun _ h => h) rfl dX8_isBoxed_1 ?_
  refine lv_iload_n hx hb dX8_isBoxed_4 rfl (lv_at hl 1 rfl) ?_
  refine xc_i (va_runS (As := [.int (nI (k))]) (rest := [.ref (b + 127)]) ⟨hx, hb, hml, hown, hts⟩ (c_X8_i l D cy b n hn M k) (va_cwS 1 hts gX8_isBoxed_X8_i rfl rfl rfl (by decide +kernel) ⟨Nat.le_of_ble_eq_true rfl, Nat.le_of_ble_eq_true rfl⟩) (xPreS hP hK hX hS) rfl rfl hl.1 rfl (lv_room (Nat.le_of_ble_eq_true rfl)) dX8_isBoxed_5 ⟨Nat.le_of_ble_eq_true rfl, Nat.le_of_ble_eq_true rfl⟩) hS (fun H locs hP hS => ?_)
  refine W.eq (g2 := F0 m 8 ls (.int (nI (8 * k + 8)) :: .ref (b + 127) :: [])) (congrArg (fun z => F0 m 8 ls (.int z :: .ref (b + 127) :: [])) (show fX8_i M k = nI (8 * k + 8) from by unfold fX8_i; exact congrArg nI (by omega))) ?_
  refine lv_bipush (v := 7) hx hb dX8_isBoxed_8 (by decide) ?_
  refine xadd (z := nI (8 * k + 15)) hx hb (ixAdd (a := 8 * k + 8) (c := 7) (d := 8 * k + 15) rfl rfl (by omega)) dX8_isBoxed_10 ?_
  refine xil (j := 8 * k + 15) hx hb hK hP (by omega) (by decide) (ixIn (a := 8 * k + 15) rfl (by first | decide | (simp only [lenOf]; omega) | omega) (by decide)) (ixAt (a := 8 * k + 15) rfl (by omega)) dX8_isBoxed_11 ?_
  refine lv_iconst (v := (-1)) hx hb dX8_isBoxed_12 (by decide) ?_
  refine lv_icmp_eq (tgt := 20) hx hb dX8_isBoxed_13 (by decide) (fun c13 => ?_) (fun c13 => ?_)
  · refine lv_iconst (v := 0) hx hb dX8_isBoxed_20 (by decide) ?_
    exact xe_z hx hb hr hlocks hP hS rfl rfl (by rw [fX8_isBoxed, if_pos c13] <;> rfl) rfl (Nat.le_of_ble_eq_true rfl) (Nat.le_of_ble_eq_true rfl) dX8_isBoxed_21
  · refine lv_iconst (v := 1) hx hb dX8_isBoxed_16 (by decide) ?_
    refine lv_goto (tgt := 21) hx hb dX8_isBoxed_17 (by decide) ?_
    exact xe_z hx hb hr hlocks hP hS rfl rfl (by rw [fX8_isBoxed, if_neg c13] <;> rfl) rfl (Nat.le_of_ble_eq_true rfl) (Nat.le_of_ble_eq_true rfl) dX8_isBoxed_21
theorem lit_lt {N j : Nat} {x : Int32} (hc : ¬ x ≤ nI j) (hx : x = nI N) (hj : j ≤ N) (hN : N < 2 ^ 31 := by decide) : j < N := by
  rw [hx, nI_leI hN (by omega)] at hc
  omega
theorem ib_ne {M : Mem} {k : Nat} (h : ¬ fX8_isBoxed M k = 0) : ¬ M 127 (8 * k + 15) = (-1 : Int32) := fun e => h (by unfold fX8_isBoxed; rw [if_pos e])
abbrev TMP (M : Mem) : Prop := UB (M 127 2) 40
theorem tmp_ne {x : Int32} (h : UB x 40) : ¬ x + 10 = 0 := by
  obtain ⟨k, hk, rfl⟩ := h
  rw [show (10 : Int32) = nI 10 from rfl, nI_add]
  exact nI_ne0 (by omega) (by omega)
def LX8_hangs_12g  : Nat → Mem → Nat → Nat → Mem
  | 0, M, _, _ => M
  | k + 1, M, a, j => if (8 : Int32) ≤ (nI (j)) then (mU (mU M 127 (a + 7) ((-1) : Int32)) 127 5 (((mU M 127 (a + 7) ((-1) : Int32)) 127 5) + (1 : Int32))) else (LX8_hangs_12g k (mU M 127 (a + j) (0 : Int32)) a (j + 1))
set_option maxHeartbeats 4000000 in
set_option maxRecDepth 100000 in
theorem cl_X8_hangs_12 (l : Launch) (D : va_G) (cy : Nat → ClassId) (b n : Nat) (hn : 133 ≤ n)   {p : Program} {e : Env} {s : State} {m : MethodId} {args : Array Value} {below : List Frame} {meth : Method} {c : Code} (hx : p.tables.exec = Jvm.exec) (hb : c.code = cX8_hangs) (hr : meth.sig.returnType = none) (hlocks : meth.locks = false) (hml : c.maxLocals = 3) (hown : s.vm.findClass RX8 = some m.cls) (hts : ∀ w ∈ wsX8_hangs, w.before args s = true) (hK : va_K D vwCl (tysW cy) s) (hX : SX b s)  : ∀ (k : Nat) (M : Mem) (a : Nat) (j : Nat) (H : Heap) (locs : List Loc) (ls : Array Slot), a + 8 ≤ 56 → j ≤ 8 → 9 ≤ j + k → va_P D vwCl (wL cy b fT M n) H → va_S (fr b) s.heap H locs → lv_has ls 3 [(0, .ref (b + 124)), (1, .int (nI (a))), (2, .int (nI (j)))] → W p l e (headSpec wsX8_hangs ({ frames := 1, cells := 0, slots := 0, locals := 20 } : Room)).room s m args below meth c H locs 0 0 (MQ below (CQv D cy b n fT (LX8_hangs_12g k M a j)) args s 0 0 (fr b)) (F0 m 12 ls []) := by
  have lk0 := hts (.fieldLink RX8 16 "HygrometerRoomModel" "now" "[I") (by decide +kernel)
  have inc8 : ∀ w ∈ u_ws RX8 TX8 22, w ∈ wsX8_hangs := by decide +kernel
  intro k
  induction k with
  | zero => intro M a j H locs ls ha hj hk hP hS hl; omega
  | succ k ih =>
    intro M a j H locs ls ha hj hk hP hS hl
    refine lv_iload_n hx hb dX8_hangs_12 rfl (lv_at hl 2 rfl) ?_
    refine lv_bipush (v := 8) hx hb dX8_hangs_13 (by decide) ?_
    refine lv_icmp_ge (tgt := 33) hx hb dX8_hangs_15 (by decide) (fun c15 => ?_) (fun c15 => ?_)
    · refine lv_aload_n hx hb dX8_hangs_33 rfl (lv_at hl 0 rfl) ?_
      refine xg (C := RX8) (T := TX8) (N := 22) (v := .ref (b + 127)) hx hb hts inc8 hown hK hP (by omega) (cell8 (by decide)) rfl 3 (by decide) lk0 (fun _ h => h) rfl dX8_hangs_34 ?_
      refine lv_iload_n hx hb dX8_hangs_37 rfl (lv_at hl 1 rfl) ?_
      refine lv_bipush (v := 7) hx hb dX8_hangs_38 (by decide) ?_
      refine xadd (z := nI (a + 7)) hx hb (ixAdd (a := a) (c := 7) (d := a + 7) rfl rfl (by omega)) dX8_hangs_40 ?_
      refine lv_iconst (v := (-1)) hx hb dX8_hangs_41 (by decide) ?_
      refine xis (j := a + 7) (x := ((-1) : Int32)) hx hb hK hP hS (by omega) (by decide) (ixIn (a := a + 7) rfl (by first | decide | (simp only [lenOf]; omega) | omega) (by decide)) (ixAt (a := a + 7) rfl (by omega)) dX8_hangs_42 (fun H locs hP hS => ?_)
      refine lv_aload_n hx hb dX8_hangs_43 rfl (lv_at hl 0 rfl) ?_
      refine xg (C := RX8) (T := TX8) (N := 22) (v := .ref (b + 127)) hx hb hts inc8 hown hK hP (by omega) (cell8 (by decide)) rfl 3 (by decide) lk0 (fun _ h => h) rfl dX8_hangs_44 ?_
      refine lv_iconst (v := 5) hx hb dX8_hangs_47 (by decide) ?_
      refine lv_dup2_11 hx hb dX8_hangs_48 rfl rfl ?_
      refine xil (j := 5) hx hb hK hP (by omega) (by decide) (ixIn (a := 5) rfl (by first | decide | (simp only [lenOf]; omega) | omega) (by decide)) rfl dX8_hangs_49 ?_
      refine lv_iconst (v := 1) hx hb dX8_hangs_50 (by decide) ?_
      refine lv_iadd hx hb dX8_hangs_51 ?_
      refine xis (j := 5) (x := ((mU M 127 (a + 7) ((-1) : Int32)) 127 5) + (1 : Int32)) hx hb hK hP hS (by omega) (by decide) (ixIn (a := 5) rfl (by first | decide | (simp only [lenOf]; omega) | omega) (by decide)) rfl dX8_hangs_52 (fun H locs hP hS => ?_)
      exact xe_v hx hb hr hlocks hP hS rfl (by rw [LX8_hangs_12g, if_pos c15] <;> rfl) (Nat.le_of_ble_eq_true rfl) (Nat.le_of_ble_eq_true rfl) dX8_hangs_53
    · have hj8 := lit_lt (N := 8) c15 rfl hj
      refine lv_aload_n hx hb dX8_hangs_18 rfl (lv_at hl 0 rfl) ?_
      refine xg (C := RX8) (T := TX8) (N := 22) (v := .ref (b + 127)) hx hb hts inc8 hown hK hP (by omega) (cell8 (by decide)) rfl 3 (by decide) lk0 (fun _ h => h) rfl dX8_hangs_19 ?_
      refine lv_iload_n hx hb dX8_hangs_22 rfl (lv_at hl 1 rfl) ?_
      refine lv_iload_n hx hb dX8_hangs_23 rfl (lv_at hl 2 rfl) ?_
      refine xadd (z := nI (a + j)) hx hb (ixAdd (a := a) (c := j) (d := a + j) rfl rfl (by omega)) dX8_hangs_24 ?_
      refine lv_iconst (v := 0) hx hb dX8_hangs_25 (by decide) ?_
      refine xis (j := a + j) (x := (0 : Int32)) hx hb hK hP hS (by omega) (by decide) (ixIn (a := a + j) rfl (by first | decide | (simp only [lenOf]; omega) | omega) (by decide)) (ixAt (a := a + j) rfl (by omega)) dX8_hangs_26 (fun H locs hP hS => ?_)
      refine lv_iinc (v := nI (j + 1)) (lv' := [(2, .int (nI (j + 1))), (0, .ref (b + 124)), (1, .int (nI (a)))]) hx hb dX8_hangs_27 hl (k := 2) rfl (ixAdd (a := j) (c := 1) (d := j + 1) rfl rfl (by omega)) (by decide) rfl (fun ls hl => ?_)
      refine lv_goto (tgt := 12) hx hb dX8_hangs_30 (by decide) ?_
      rw [show LX8_hangs_12g (k + 1) M a j = LX8_hangs_12g k (mU M 127 (a + j) (0 : Int32)) a (j + 1) from (by rw [LX8_hangs_12g, if_neg c15])]
      exact ih (mU M 127 (a + j) (0 : Int32)) a (j + 1) H locs ls (by omega) (by omega) (by omega) hP hS (lv_sub hl [1, 2, 0] rfl)
theorem hangs12 : ∀ (k : Nat) (M : Mem) (a j : Nat), 8 ≤ a → 9 ≤ j + k → j ≤ 8 → (LX8_hangs_12g k M a j) 127 5 = M 127 5 + 1 ∧ (∀ p, p ≠ 127 → LX8_hangs_12g k M a j p = M p) := by
  intro k
  induction k with
  | zero => intro M a j ha hk hj; omega
  | succ k ih =>
    intro M a j ha hk hj
    rw [LX8_hangs_12g]
    split
    · refine ⟨?_, fun p hp => by rw [mU_ne _ _ _ hp, mU_ne _ _ _ hp]⟩
      rw [mU_at, show ∀ (f : Nat → Int32) (v : Int32), upd f 5 v 5 = v from fun _ _ => rfl, mU_row (by omega)]
    · rename_i hc
      have hj8 := lit_lt (N := 8) hc rfl hj
      obtain ⟨i1, i2⟩ := ih (mU M 127 (a + j) 0) a (j + 1) ha (by omega) (by omega)
      exact ⟨i1.trans (by rw [mU_row (by omega)]), fun p hp => (i2 p hp).trans (mU_ne _ _ _ hp)⟩
def gX8_hangs (M : Mem) : Mem := LX8_hangs_12g 9 M (8 * ((M 127 5).toNatClampNeg) + 8) 0
set_option maxHeartbeats 4000000 in
set_option maxRecDepth 100000 in
theorem c_X8_hangs (l : Launch) (D : va_G) (cy : Nat → ClassId) (b n : Nat) (hn : 133 ≤ n) (M : Mem)  (hm0 : ¬ M 127 5 < 0) (hm6 : (M 127 5).toNatClampNeg < 6) : Met l yX8_hangs wsX8_hangs ({ frames := 1, cells := 0, slots := 0, locals := 20 } : Room) (CP D cy b n fT M [.ref (b + 124)]) (CQv D cy b n fT (gX8_hangs M)) 0 0 (fr b) := by
  refine Met.ofW (cc := cX8_hangs) (maxL := 3) (ret := none) (by decide) rfl ?_
  intro p e s m args below meth c s₁ B hml hv
  obtain ⟨rfl, hP, hK, hX⟩ := hv
  have hx := B.exec
  have hb := B.bytes
  have hr := B.returns
  have hts := atoms_spec (ws := wsX8_hangs) B.pre
  have hown : s.vm.findClass RX8 = some m.cls := findClass_of_methodNamed B.named
  have hlocks := B.notSynchronized
  have lk0 := hts (.fieldLink RX8 16 "HygrometerRoomModel" "now" "[I") (by decide +kernel)
  have inc8 : ∀ w ∈ u_ws RX8 TX8 22, w ∈ wsX8_hangs := by decide +kernel
  have hS : va_S (fr b) s.heap s.heap [] := va_S.rf
  have hl := lv_entry ([.ref (b + 124)]) (n := 3) (Nat.le_of_ble_eq_true rfl)
  rw [lg_entry_eq]
  generalize (lg_sl ([.ref (b + 124)]) ++ List.replicate (3 - (lg_sl ([.ref (b + 124)])).length) Slot.unset).toArray = ls at hl ⊢
  have hl : lv_has ls 3 [(0, .ref (b + 124))] := hl
  refine lv_aload_n hx hb dX8_hangs_0 rfl (lv_at hl 0 rfl) ?_
  refine xg (C := RX8) (T := TX8) (N := 22) (v := .ref (b + 127)) hx hb hts inc8 hown hK hP (by omega) (cell8 (by decide)) rfl 3 (by decide) lk0 (fun _ h => h) rfl dX8_hangs_1 ?_
  refine lv_iconst (v := 5) hx hb dX8_hangs_4 (by decide) ?_
  refine xil (j := 5) hx hb hK hP (by omega) (by decide) (ixIn (a := 5) rfl (by first | decide | (simp only [lenOf]; omega) | omega) (by decide)) rfl dX8_hangs_5 ?_
  refine W.eq (g2 := F0 m 6 ls (.int (nI (((M 127 5).toNatClampNeg))) :: [])) (congrArg (fun z => F0 m 6 ls (.int z :: [])) (nat_of hm0)) ?_
  refine xc_i (va_runS (As := [.int (nI (((M 127 5).toNatClampNeg)))]) (rest := []) ⟨hx, hb, hml, hown, hts⟩ (c_X8_i l D cy b n hn M ((M 127 5).toNatClampNeg)) (va_cwS 1 hts gX8_hangs_X8_i rfl rfl rfl (by decide +kernel) ⟨Nat.le_of_ble_eq_true rfl, Nat.le_of_ble_eq_true rfl⟩) (xPreS hP hK hX hS) rfl rfl hl.1 rfl (lv_room (Nat.le_of_ble_eq_true rfl)) dX8_hangs_6 ⟨Nat.le_of_ble_eq_true rfl, Nat.le_of_ble_eq_true rfl⟩) hS (fun H locs hP hS => ?_)
  refine W.eq (g2 := F0 m 9 ls (.int (nI (8 * ((M 127 5).toNatClampNeg) + 8)) :: [])) (congrArg (fun z => F0 m 9 ls (.int z :: [])) (show fX8_i M ((M 127 5).toNatClampNeg) = nI (8 * ((M 127 5).toNatClampNeg) + 8) from by unfold fX8_i; exact congrArg nI (by omega))) ?_
  refine lv_istore_n (lv' := [(1, .int (nI (8 * ((M 127 5).toNatClampNeg) + 8))), (0, .ref (b + 124))]) hx hb dX8_hangs_9 rfl hl (by decide) rfl (fun ls hl => ?_)
  refine lv_iconst (v := 0) hx hb dX8_hangs_10 (by decide) ?_
  refine lv_istore_n (lv' := [(2, .int (0 : Int32)), (1, .int (nI (8 * ((M 127 5).toNatClampNeg) + 8))), (0, .ref (b + 124))]) hx hb dX8_hangs_11 rfl hl (by decide) rfl (fun ls hl => ?_)
  rw [show gX8_hangs M = LX8_hangs_12g 9 M (8 * ((M 127 5).toNatClampNeg) + 8) 0 from (by rw [gX8_hangs])]
  exact cl_X8_hangs_12 l D cy b n hn  hx hb hr hlocks hml hown hts hK hX 9 M (8 * ((M 127 5).toNatClampNeg) + 8) 0 H locs ls (by omega) (by omega) (by omega) hP hS (lv_sub hl [2, 1, 0] rfl)
theorem hangs_many (M : Mem) : gX8_hangs M 127 5 = M 127 5 + 1 := (hangs12 9 M _ 0 (by omega) (by omega) (by omega)).1
theorem hangs_at {M : Mem} (h0 : ¬ M 127 5 < 0) : gX8_hangs M 127 5 - 1 = nI (M 127 5).toNatClampNeg := by
  rw [hangs_many, nat_of h0, nI_1, show (1 : Int32) = nI 1 from rfl, pk_sub (by omega), nI_clamp (by obtain ⟨j, hj, e⟩ := nI_of h0; rw [e, nI_clamp hj]; exact hj)]
  rfl
def gX8_hangsHair (M : Mem) (x : Int32) : Mem := mU (mU (mU (mU (gX8_hangs M) 127 (8 * ((M 127 5).toNatClampNeg) + 8) (1 : Int32)) 127 (8 * ((M 127 5).toNatClampNeg) + 9) x) 127 (8 * ((M 127 5).toNatClampNeg) + 11) ((mU (mU (gX8_hangs M) 127 (8 * ((M 127 5).toNatClampNeg) + 8) (1 : Int32)) 127 (8 * ((M 127 5).toNatClampNeg) + 9) x) 127 1)) 127 6 (((mU (mU (mU (gX8_hangs M) 127 (8 * ((M 127 5).toNatClampNeg) + 8) (1 : Int32)) 127 (8 * ((M 127 5).toNatClampNeg) + 9) x) 127 (8 * ((M 127 5).toNatClampNeg) + 11) ((mU (mU (gX8_hangs M) 127 (8 * ((M 127 5).toNatClampNeg) + 8) (1 : Int32)) 127 (8 * ((M 127 5).toNatClampNeg) + 9) x) 127 1)) 127 6) + x)
set_option maxHeartbeats 4000000 in
set_option maxRecDepth 100000 in
theorem c_X8_hangsHair (l : Launch) (D : va_G) (cy : Nat → ClassId) (b n : Nat) (hn : 133 ≤ n) (M : Mem) (x : Int32) (hm0 : ¬ M 127 5 < 0) (hm6 : (M 127 5).toNatClampNeg < 6) : Met l yX8_hangsHair wsX8_hangsHair ({ frames := 2, cells := 0, slots := 0, locals := 42 } : Room) (CP D cy b n fT M [.ref (b + 124), .int x]) (CQv D cy b n fT (gX8_hangsHair M x)) 0 0 (fr b) := by
  refine Met.ofW (cc := cX8_hangsHair) (maxL := 3) (ret := none) (by decide) rfl ?_
  intro p e s m args below meth c s₁ B hml hv
  obtain ⟨rfl, hP, hK, hX⟩ := hv
  have hx := B.exec
  have hb := B.bytes
  have hr := B.returns
  have hts := atoms_spec (ws := wsX8_hangsHair) B.pre
  have hown : s.vm.findClass RX8 = some m.cls := findClass_of_methodNamed B.named
  have hlocks := B.notSynchronized
  have lk0 := hts (.fieldLink RX8 16 "HygrometerRoomModel" "now" "[I") (by decide +kernel)
  have inc8 : ∀ w ∈ u_ws RX8 TX8 22, w ∈ wsX8_hangsHair := by decide +kernel
  have hS : va_S (fr b) s.heap s.heap [] := va_S.rf
  have hl := lv_entry ([.ref (b + 124), .int x]) (n := 3) (Nat.le_of_ble_eq_true rfl)
  rw [lg_entry_eq]
  generalize (lg_sl ([.ref (b + 124), .int x]) ++ List.replicate (3 - (lg_sl ([.ref (b + 124), .int x])).length) Slot.unset).toArray = ls at hl ⊢
  have hl : lv_has ls 3 [(0, .ref (b + 124)), (1, .int x)] := hl
  refine lv_aload_n hx hb dX8_hangsHair_0 rfl (lv_at hl 0 rfl) ?_
  refine xc_v (va_runV (As := []) (rest := []) ⟨hx, hb, hml, hown, hts⟩ (c_X8_hangs l D cy b n hn M hm0 hm6) (cwV 0 hts gX8_hangsHair_X8_hangs rfl rfl rfl (by decide +kernel) ⟨Nat.le_of_ble_eq_true rfl, Nat.le_of_ble_eq_true rfl⟩) (xPreV hP hK hX hS (by omega) (cell8 (by decide)) rfl) rfl rfl hl.1 rfl (lv_room (Nat.le_of_ble_eq_true rfl)) dX8_hangsHair_1 ⟨Nat.le_of_ble_eq_true rfl, Nat.le_of_ble_eq_true rfl⟩) hS (fun H locs hP hS => ?_)
  refine lv_aload_n hx hb dX8_hangsHair_4 rfl (lv_at hl 0 rfl) ?_
  refine xg (C := RX8) (T := TX8) (N := 22) (v := .ref (b + 127)) hx hb hts inc8 hown hK hP (by omega) (cell8 (by decide)) rfl 3 (by decide) lk0 (fun _ h => h) rfl dX8_hangsHair_5 ?_
  refine lv_iconst (v := 5) hx hb dX8_hangsHair_8 (by decide) ?_
  refine xil (j := 5) hx hb hK hP (by omega) (by decide) (ixIn (a := 5) rfl (by first | decide | (simp only [lenOf]; omega) | omega) (by decide)) rfl dX8_hangsHair_9 ?_
  refine lv_iconst (v := 1) hx hb dX8_hangsHair_10 (by decide) ?_
  refine lv_isub hx hb dX8_hangsHair_11 ?_
  refine W.eq (g2 := F0 m 12 ls (.int (nI (((M 127 5).toNatClampNeg))) :: [])) (congrArg (fun z => F0 m 12 ls (.int z :: [])) (hangs_at hm0)) ?_
  refine xc_i (va_runS (As := [.int (nI (((M 127 5).toNatClampNeg)))]) (rest := []) ⟨hx, hb, hml, hown, hts⟩ (c_X8_i l D cy b n hn (gX8_hangs M) ((M 127 5).toNatClampNeg)) (va_cwS 1 hts gX8_hangsHair_X8_i rfl rfl rfl (by decide +kernel) ⟨Nat.le_of_ble_eq_true rfl, Nat.le_of_ble_eq_true rfl⟩) (xPreS hP hK hX hS) rfl rfl hl.1 rfl (lv_room (Nat.le_of_ble_eq_true rfl)) dX8_hangsHair_12 ⟨Nat.le_of_ble_eq_true rfl, Nat.le_of_ble_eq_true rfl⟩) hS (fun H locs hP hS => ?_)
  refine W.eq (g2 := F0 m 15 ls (.int (nI (8 * ((M 127 5).toNatClampNeg) + 8)) :: [])) (congrArg (fun z => F0 m 15 ls (.int z :: [])) (show fX8_i (gX8_hangs M) ((M 127 5).toNatClampNeg) = nI (8 * ((M 127 5).toNatClampNeg) + 8) from by unfold fX8_i; exact congrArg nI (by omega))) ?_
  refine lv_istore_n (lv' := [(2, .int (nI (8 * ((M 127 5).toNatClampNeg) + 8))), (0, .ref (b + 124)), (1, .int x)]) hx hb dX8_hangsHair_15 rfl hl (by decide) rfl (fun ls hl => ?_)
  refine lv_aload_n hx hb dX8_hangsHair_16 rfl (lv_at hl 1 rfl) ?_
  refine xg (C := RX8) (T := TX8) (N := 22) (v := .ref (b + 127)) hx hb hts inc8 hown hK hP (by omega) (cell8 (by decide)) rfl 3 (by decide) lk0 (fun _ h => h) rfl dX8_hangsHair_17 ?_
  refine lv_iload_n hx hb dX8_hangsHair_20 rfl (lv_at hl 0 rfl) ?_
  refine lv_iconst (v := 0) hx hb dX8_hangsHair_21 (by decide) ?_
  refine xadd (z := nI (8 * ((M 127 5).toNatClampNeg) + 8)) hx hb (ixAdd (a := 8 * ((M 127 5).toNatClampNeg) + 8) (c := 0) (d := 8 * ((M 127 5).toNatClampNeg) + 8) rfl rfl (by omega)) dX8_hangsHair_22 ?_
  refine lv_iconst (v := 1) hx hb dX8_hangsHair_23 (by decide) ?_
  refine xis (j := 8 * ((M 127 5).toNatClampNeg) + 8) (x := (1 : Int32)) hx hb hK hP hS (by omega) (by decide) (ixIn (a := 8 * ((M 127 5).toNatClampNeg) + 8) rfl (by first | decide | (simp only [lenOf]; omega) | omega) (by decide)) (ixAt (a := 8 * ((M 127 5).toNatClampNeg) + 8) rfl (by omega)) dX8_hangsHair_24 (fun H locs hP hS => ?_)
  refine lv_aload_n hx hb dX8_hangsHair_25 rfl (lv_at hl 1 rfl) ?_
  refine xg (C := RX8) (T := TX8) (N := 22) (v := .ref (b + 127)) hx hb hts inc8 hown hK hP (by omega) (cell8 (by decide)) rfl 3 (by decide) lk0 (fun _ h => h) rfl dX8_hangsHair_26 ?_
  refine lv_iload_n hx hb dX8_hangsHair_29 rfl (lv_at hl 0 rfl) ?_
  refine lv_iconst (v := 1) hx hb dX8_hangsHair_30 (by decide) ?_
  refine xadd (z := nI (8 * ((M 127 5).toNatClampNeg) + 9)) hx hb (ixAdd (a := 8 * ((M 127 5).toNatClampNeg) + 8) (c := 1) (d := 8 * ((M 127 5).toNatClampNeg) + 9) rfl rfl (by omega)) dX8_hangsHair_31 ?_
  refine lv_iload_n hx hb dX8_hangsHair_32 rfl (lv_at hl 2 rfl) ?_
  refine xis (j := 8 * ((M 127 5).toNatClampNeg) + 9) (x := x) hx hb hK hP hS (by omega) (by decide) (ixIn (a := 8 * ((M 127 5).toNatClampNeg) + 9) rfl (by first | decide | (simp only [lenOf]; omega) | omega) (by decide)) (ixAt (a := 8 * ((M 127 5).toNatClampNeg) + 9) rfl (by omega)) dX8_hangsHair_33 (fun H locs hP hS => ?_)
  refine lv_aload_n hx hb dX8_hangsHair_34 rfl (lv_at hl 1 rfl) ?_
  refine xg (C := RX8) (T := TX8) (N := 22) (v := .ref (b + 127)) hx hb hts inc8 hown hK hP (by omega) (cell8 (by decide)) rfl 3 (by decide) lk0 (fun _ h => h) rfl dX8_hangsHair_35 ?_
  refine lv_iload_n hx hb dX8_hangsHair_38 rfl (lv_at hl 0 rfl) ?_
  refine lv_iconst (v := 3) hx hb dX8_hangsHair_39 (by decide) ?_
  refine xadd (z := nI (8 * ((M 127 5).toNatClampNeg) + 11)) hx hb (ixAdd (a := 8 * ((M 127 5).toNatClampNeg) + 8) (c := 3) (d := 8 * ((M 127 5).toNatClampNeg) + 11) rfl rfl (by omega)) dX8_hangsHair_40 ?_
  refine lv_aload_n hx hb dX8_hangsHair_41 rfl (lv_at hl 1 rfl) ?_
  refine xg (C := RX8) (T := TX8) (N := 22) (v := .ref (b + 127)) hx hb hts inc8 hown hK hP (by omega) (cell8 (by decide)) rfl 3 (by decide) lk0 (fun _ h => h) rfl dX8_hangsHair_42 ?_
  refine lv_iconst (v := 1) hx hb dX8_hangsHair_45 (by decide) ?_
  refine xil (j := 1) hx hb hK hP (by omega) (by decide) (ixIn (a := 1) rfl (by first | decide | (simp only [lenOf]; omega) | omega) (by decide)) rfl dX8_hangsHair_46 ?_
  refine xis (j := 8 * ((M 127 5).toNatClampNeg) + 11) (x := (mU (mU (gX8_hangs M) 127 (8 * ((M 127 5).toNatClampNeg) + 8) (1 : Int32)) 127 (8 * ((M 127 5).toNatClampNeg) + 9) x) 127 1) hx hb hK hP hS (by omega) (by decide) (ixIn (a := 8 * ((M 127 5).toNatClampNeg) + 11) rfl (by first | decide | (simp only [lenOf]; omega) | omega) (by decide)) (ixAt (a := 8 * ((M 127 5).toNatClampNeg) + 11) rfl (by omega)) dX8_hangsHair_47 (fun H locs hP hS => ?_)
  refine lv_aload_n hx hb dX8_hangsHair_48 rfl (lv_at hl 1 rfl) ?_
  refine xg (C := RX8) (T := TX8) (N := 22) (v := .ref (b + 127)) hx hb hts inc8 hown hK hP (by omega) (cell8 (by decide)) rfl 3 (by decide) lk0 (fun _ h => h) rfl dX8_hangsHair_49 ?_
  refine lv_bipush (v := 6) hx hb dX8_hangsHair_52 (by decide) ?_
  refine lv_dup2_11 hx hb dX8_hangsHair_54 rfl rfl ?_
  refine xil (j := 6) hx hb hK hP (by omega) (by decide) (ixIn (a := 6) rfl (by first | decide | (simp only [lenOf]; omega) | omega) (by decide)) rfl dX8_hangsHair_55 ?_
  refine lv_iload_n hx hb dX8_hangsHair_56 rfl (lv_at hl 2 rfl) ?_
  refine lv_iadd hx hb dX8_hangsHair_57 ?_
  refine xis (j := 6) (x := ((mU (mU (mU (gX8_hangs M) 127 (8 * ((M 127 5).toNatClampNeg) + 8) (1 : Int32)) 127 (8 * ((M 127 5).toNatClampNeg) + 9) x) 127 (8 * ((M 127 5).toNatClampNeg) + 11) ((mU (mU (gX8_hangs M) 127 (8 * ((M 127 5).toNatClampNeg) + 8) (1 : Int32)) 127 (8 * ((M 127 5).toNatClampNeg) + 9) x) 127 1)) 127 6) + x) hx hb hK hP hS (by omega) (by decide) (ixIn (a := 6) rfl (by first | decide | (simp only [lenOf]; omega) | omega) (by decide)) rfl dX8_hangsHair_58 (fun H locs hP hS => ?_)
  exact xe_v hx hb hr hlocks hP hS rfl (by rw [gX8_hangsHair] <;> rfl) (Nat.le_of_ble_eq_true rfl) (Nat.le_of_ble_eq_true rfl) dX8_hangsHair_59
def gX8_hangsBulb (M : Mem) (x : Int32) : Mem := mU (gX8_hangs M) 127 (8 * ((M 127 5).toNatClampNeg) + 13) x
set_option maxHeartbeats 4000000 in
set_option maxRecDepth 100000 in
theorem c_X8_hangsBulb (l : Launch) (D : va_G) (cy : Nat → ClassId) (b n : Nat) (hn : 133 ≤ n) (M : Mem) (x : Int32) (hm0 : ¬ M 127 5 < 0) (hm6 : (M 127 5).toNatClampNeg < 6) : Met l yX8_hangsBulb wsX8_hangsBulb ({ frames := 2, cells := 0, slots := 0, locals := 42 } : Room) (CP D cy b n fT M [.ref (b + 124), .int x]) (CQv D cy b n fT (gX8_hangsBulb M x)) 0 0 (fr b) := by
  refine Met.ofW (cc := cX8_hangsBulb) (maxL := 2) (ret := none) (by decide) rfl ?_
  intro p e s m args below meth c s₁ B hml hv
  obtain ⟨rfl, hP, hK, hX⟩ := hv
  have hx := B.exec
  have hb := B.bytes
  have hr := B.returns
  have hts := atoms_spec (ws := wsX8_hangsBulb) B.pre
  have hown : s.vm.findClass RX8 = some m.cls := findClass_of_methodNamed B.named
  have hlocks := B.notSynchronized
  have lk0 := hts (.fieldLink RX8 16 "HygrometerRoomModel" "now" "[I") (by decide +kernel)
  have inc8 : ∀ w ∈ u_ws RX8 TX8 22, w ∈ wsX8_hangsBulb := by decide +kernel
  have hS : va_S (fr b) s.heap s.heap [] := va_S.rf
  have hl := lv_entry ([.ref (b + 124), .int x]) (n := 2) (Nat.le_of_ble_eq_true rfl)
  rw [lg_entry_eq]
  generalize (lg_sl ([.ref (b + 124), .int x]) ++ List.replicate (2 - (lg_sl ([.ref (b + 124), .int x])).length) Slot.unset).toArray = ls at hl ⊢
  have hl : lv_has ls 2 [(0, .ref (b + 124)), (1, .int x)] := hl
  refine lv_aload_n hx hb dX8_hangsBulb_0 rfl (lv_at hl 0 rfl) ?_
  refine xc_v (va_runV (As := []) (rest := []) ⟨hx, hb, hml, hown, hts⟩ (c_X8_hangs l D cy b n hn M hm0 hm6) (cwV 0 hts gX8_hangsBulb_X8_hangs rfl rfl rfl (by decide +kernel) ⟨Nat.le_of_ble_eq_true rfl, Nat.le_of_ble_eq_true rfl⟩) (xPreV hP hK hX hS (by omega) (cell8 (by decide)) rfl) rfl rfl hl.1 rfl (lv_room (Nat.le_of_ble_eq_true rfl)) dX8_hangsBulb_1 ⟨Nat.le_of_ble_eq_true rfl, Nat.le_of_ble_eq_true rfl⟩) hS (fun H locs hP hS => ?_)
  refine lv_aload_n hx hb dX8_hangsBulb_4 rfl (lv_at hl 0 rfl) ?_
  refine xg (C := RX8) (T := TX8) (N := 22) (v := .ref (b + 127)) hx hb hts inc8 hown hK hP (by omega) (cell8 (by decide)) rfl 3 (by decide) lk0 (fun _ h => h) rfl dX8_hangsBulb_5 ?_
  refine lv_aload_n hx hb dX8_hangsBulb_8 rfl (lv_at hl 0 rfl) ?_
  refine xg (C := RX8) (T := TX8) (N := 22) (v := .ref (b + 127)) hx hb hts inc8 hown hK hP (by omega) (cell8 (by decide)) rfl 3 (by decide) lk0 (fun _ h => h) rfl dX8_hangsBulb_9 ?_
  refine lv_iconst (v := 5) hx hb dX8_hangsBulb_12 (by decide) ?_
  refine xil (j := 5) hx hb hK hP (by omega) (by decide) (ixIn (a := 5) rfl (by first | decide | (simp only [lenOf]; omega) | omega) (by decide)) rfl dX8_hangsBulb_13 ?_
  refine lv_iconst (v := 1) hx hb dX8_hangsBulb_14 (by decide) ?_
  refine lv_isub hx hb dX8_hangsBulb_15 ?_
  refine W.eq (g2 := F0 m 16 ls (.int (nI (((M 127 5).toNatClampNeg))) :: .ref (b + 127) :: [])) (congrArg (fun z => F0 m 16 ls (.int z :: .ref (b + 127) :: [])) (hangs_at hm0)) ?_
  refine xc_i (va_runS (As := [.int (nI (((M 127 5).toNatClampNeg)))]) (rest := [.ref (b + 127)]) ⟨hx, hb, hml, hown, hts⟩ (c_X8_i l D cy b n hn (gX8_hangs M) ((M 127 5).toNatClampNeg)) (va_cwS 1 hts gX8_hangsBulb_X8_i rfl rfl rfl (by decide +kernel) ⟨Nat.le_of_ble_eq_true rfl, Nat.le_of_ble_eq_true rfl⟩) (xPreS hP hK hX hS) rfl rfl hl.1 rfl (lv_room (Nat.le_of_ble_eq_true rfl)) dX8_hangsBulb_16 ⟨Nat.le_of_ble_eq_true rfl, Nat.le_of_ble_eq_true rfl⟩) hS (fun H locs hP hS => ?_)
  refine W.eq (g2 := F0 m 19 ls (.int (nI (8 * ((M 127 5).toNatClampNeg) + 8)) :: .ref (b + 127) :: [])) (congrArg (fun z => F0 m 19 ls (.int z :: .ref (b + 127) :: [])) (show fX8_i (gX8_hangs M) ((M 127 5).toNatClampNeg) = nI (8 * ((M 127 5).toNatClampNeg) + 8) from by unfold fX8_i; exact congrArg nI (by omega))) ?_
  refine lv_iconst (v := 5) hx hb dX8_hangsBulb_19 (by decide) ?_
  refine xadd (z := nI (8 * ((M 127 5).toNatClampNeg) + 13)) hx hb (ixAdd (a := 8 * ((M 127 5).toNatClampNeg) + 8) (c := 5) (d := 8 * ((M 127 5).toNatClampNeg) + 13) rfl rfl (by omega)) dX8_hangsBulb_20 ?_
  refine lv_iload_n hx hb dX8_hangsBulb_21 rfl (lv_at hl 1 rfl) ?_
  refine xis (j := 8 * ((M 127 5).toNatClampNeg) + 13) (x := x) hx hb hK hP hS (by omega) (by decide) (ixIn (a := 8 * ((M 127 5).toNatClampNeg) + 13) rfl (by first | decide | (simp only [lenOf]; omega) | omega) (by decide)) (ixAt (a := 8 * ((M 127 5).toNatClampNeg) + 13) rfl (by omega)) dX8_hangsBulb_22 (fun H locs hP hS => ?_)
  exact xe_v hx hb hr hlocks hP hS rfl (by rw [gX8_hangsBulb] <;> rfl) (Nat.le_of_ble_eq_true rfl) (Nat.le_of_ble_eq_true rfl) dX8_hangsBulb_23
def fX8_around (M : Mem) (k : Nat) : Int32 := if (fX8_isBoxed M k) = 0 then (M 127 1) else (M 125 ((M 127 (8 * k + 15)).toNatClampNeg))
set_option maxHeartbeats 4000000 in
set_option maxRecDepth 100000 in
theorem c_X8_around (l : Launch) (D : va_G) (cy : Nat → ClassId) (b n : Nat) (hn : 133 ≤ n) (M : Mem) (k : Nat) (hk6 : k < 6) (hbx : BXS M) : Met l yX8_around wsX8_around ({ frames := 2, cells := 0, slots := 0, locals := 41 } : Room) (CP D cy b n fT M [.ref (b + 124), .int (nI (k))]) (CQi D cy b n fT (fX8_around M k) M) 0 0 (fr b) := by
  refine Met.ofW (cc := cX8_around) (maxL := 2) (ret := (some .int)) (by decide) rfl ?_
  intro p e s m args below meth c s₁ B hml hv
  obtain ⟨rfl, hP, hK, hX⟩ := hv
  have hx := B.exec
  have hb := B.bytes
  have hr := B.returns
  have hts := atoms_spec (ws := wsX8_around) B.pre
  have hown : s.vm.findClass RX8 = some m.cls := findClass_of_methodNamed B.named
  have hlocks := B.notSynchronized
  have lk0 := hts (.fieldLink RX8 16 "HygrometerRoomModel" "now" "[I") (by decide +kernel)
  have lk1 := hts (.fieldLink RX8 7 "HygrometerRoomModel" "points" "[I") (by decide +kernel)
  have inc8 : ∀ w ∈ u_ws RX8 TX8 22, w ∈ wsX8_around := by decide +kernel
  have hS : va_S (fr b) s.heap s.heap [] := va_S.rf
  have hl := lv_entry ([.ref (b + 124), .int (nI (k))]) (n := 2) (Nat.le_of_ble_eq_true rfl)
  rw [lg_entry_eq]
  generalize (lg_sl ([.ref (b + 124), .int (nI (k))]) ++ List.replicate (2 - (lg_sl ([.ref (b + 124), .int (nI (k))])).length) Slot.unset).toArray = ls at hl ⊢
  have hl : lv_has ls 2 [(0, .ref (b + 124)), (1, .int (nI (k)))] := hl
  refine lv_aload_n hx hb dX8_around_0 rfl (lv_at hl 0 rfl) ?_
  refine lv_iload_n hx hb dX8_around_1 rfl (lv_at hl 1 rfl) ?_
  refine xc_i (va_runV (As := [.int (nI (k))]) (rest := []) ⟨hx, hb, hml, hown, hts⟩ (c_X8_isBoxed l D cy b n hn M k (by first | assumption | omega)) (cwV 1 hts gX8_around_X8_isBoxed rfl rfl rfl (by decide +kernel) ⟨Nat.le_of_ble_eq_true rfl, Nat.le_of_ble_eq_true rfl⟩) (xPreV hP hK hX hS (by omega) (cell8 (by decide)) rfl) rfl rfl hl.1 rfl (lv_room (Nat.le_of_ble_eq_true rfl)) dX8_around_2 ⟨Nat.le_of_ble_eq_true rfl, Nat.le_of_ble_eq_true rfl⟩) hS (fun H locs hP hS => ?_)
  refine lv_if_eq (tgt := 26) hx hb dX8_around_5 (by decide) (fun c5 => ?_) (fun c5 => ?_)
  · refine lv_aload_n hx hb dX8_around_26 rfl (lv_at hl 0 rfl) ?_
    refine xg (C := RX8) (T := TX8) (N := 22) (v := .ref (b + 127)) hx hb hts inc8 hown hK hP (by omega) (cell8 (by decide)) rfl 3 (by decide) lk0 (fun _ h => h) rfl dX8_around_27 ?_
    refine lv_iconst (v := 1) hx hb dX8_around_30 (by decide) ?_
    refine xil (j := 1) hx hb hK hP (by omega) (by decide) (ixIn (a := 1) rfl (by first | decide | (simp only [lenOf]; omega) | omega) (by decide)) rfl dX8_around_31 ?_
    exact xe_i hx hb hr hlocks hP hS rfl rfl (by rw [fX8_around, if_pos c5] <;> rfl) (Nat.le_of_ble_eq_true rfl) (Nat.le_of_ble_eq_true rfl) dX8_around_32
  · refine lv_aload_n hx hb dX8_around_8 rfl (lv_at hl 0 rfl) ?_
    refine xg (C := RX8) (T := TX8) (N := 22) (v := .ref (b + 125)) hx hb hts inc8 hown hK hP (by omega) (cell8 (by decide)) rfl 0 (by decide) lk1 (fun _ h => h) rfl dX8_around_9 ?_
    refine lv_aload_n hx hb dX8_around_12 rfl (lv_at hl 0 rfl) ?_
    refine xg (C := RX8) (T := TX8) (N := 22) (v := .ref (b + 127)) hx hb hts inc8 hown hK hP (by omega) (cell8 (by decide)) rfl 3 (by decide) lk0 (fun _ h => h) rfl dX8_around_13 ?_
    refine lv_iload_n hx hb dX8_around_16 rfl (lv_at hl 1 rfl) ?_
    refine xc_i (va_runS (As := [.int (nI (k))]) (rest := [.ref (b + 127), .ref (b + 125)]) ⟨hx, hb, hml, hown, hts⟩ (c_X8_i l D cy b n hn M k) (va_cwS 1 hts gX8_around_X8_i rfl rfl rfl (by decide +kernel) ⟨Nat.le_of_ble_eq_true rfl, Nat.le_of_ble_eq_true rfl⟩) (xPreS hP hK hX hS) rfl rfl hl.1 rfl (lv_room (Nat.le_of_ble_eq_true rfl)) dX8_around_17 ⟨Nat.le_of_ble_eq_true rfl, Nat.le_of_ble_eq_true rfl⟩) hS (fun H locs hP hS => ?_)
    refine W.eq (g2 := F0 m 20 ls (.int (nI (8 * k + 8)) :: .ref (b + 127) :: .ref (b + 125) :: [])) (congrArg (fun z => F0 m 20 ls (.int z :: .ref (b + 127) :: .ref (b + 125) :: [])) (show fX8_i M k = nI (8 * k + 8) from by unfold fX8_i; exact congrArg nI (by omega))) ?_
    refine lv_bipush (v := 7) hx hb dX8_around_20 (by decide) ?_
    refine xadd (z := nI (8 * k + 15)) hx hb (ixAdd (a := 8 * k + 8) (c := 7) (d := 8 * k + 15) rfl rfl (by omega)) dX8_around_22 ?_
    refine xil (j := 8 * k + 15) hx hb hK hP (by omega) (by decide) (ixIn (a := 8 * k + 15) rfl (by first | decide | (simp only [lenOf]; omega) | omega) (by decide)) (ixAt (a := 8 * k + 15) rfl (by omega)) dX8_around_23 ?_
    refine xil (j := (M 127 (8 * k + 15)).toNatClampNeg) hx hb hK hP (by omega) (by decide) (bx_in (hbx k hk6) (ib_ne c5)) rfl dX8_around_24 ?_
    exact xe_i hx hb hr hlocks hP hS rfl rfl (by rw [fX8_around, if_neg c5] <;> rfl) (Nat.le_of_ble_eq_true rfl) (Nat.le_of_ble_eq_true rfl) dX8_around_25
def fX8_depression (M : Mem) (k : Nat) : Int32 := if (M 127 (8 * k + 13)) = 0 then (0 : Int32) else ((((100 : Int32) - (fX8_around M k)) * ((M 127 2) + (10 : Int32))) / (100 : Int32))
set_option maxHeartbeats 4000000 in
set_option maxRecDepth 100000 in
theorem c_X8_depression (l : Launch) (D : va_G) (cy : Nat → ClassId) (b n : Nat) (hn : 133 ≤ n) (M : Mem) (k : Nat) (hk6 : k < 6) (hbx : BXS M) : Met l yX8_depression wsX8_depression ({ frames := 3, cells := 0, slots := 0, locals := 62 } : Room) (CP D cy b n fT M [.ref (b + 124), .int (nI (k))]) (CQi D cy b n fT (fX8_depression M k) M) 0 0 (fr b) := by
  refine Met.ofW (cc := cX8_depression) (maxL := 2) (ret := (some .int)) (by decide) rfl ?_
  intro p e s m args below meth c s₁ B hml hv
  obtain ⟨rfl, hP, hK, hX⟩ := hv
  have hx := B.exec
  have hb := B.bytes
  have hr := B.returns
  have hts := atoms_spec (ws := wsX8_depression) B.pre
  have hown : s.vm.findClass RX8 = some m.cls := findClass_of_methodNamed B.named
  have hlocks := B.notSynchronized
  have lk0 := hts (.fieldLink RX8 16 "HygrometerRoomModel" "now" "[I") (by decide +kernel)
  have inc8 : ∀ w ∈ u_ws RX8 TX8 22, w ∈ wsX8_depression := by decide +kernel
  have hS : va_S (fr b) s.heap s.heap [] := va_S.rf
  have hl := lv_entry ([.ref (b + 124), .int (nI (k))]) (n := 2) (Nat.le_of_ble_eq_true rfl)
  rw [lg_entry_eq]
  generalize (lg_sl ([.ref (b + 124), .int (nI (k))]) ++ List.replicate (2 - (lg_sl ([.ref (b + 124), .int (nI (k))])).length) Slot.unset).toArray = ls at hl ⊢
  have hl : lv_has ls 2 [(0, .ref (b + 124)), (1, .int (nI (k)))] := hl
  refine lv_aload_n hx hb dX8_depression_0 rfl (lv_at hl 0 rfl) ?_
  refine xg (C := RX8) (T := TX8) (N := 22) (v := .ref (b + 127)) hx hb hts inc8 hown hK hP (by omega) (cell8 (by decide)) rfl 3 (by decide) lk0 (fun _ h => h) rfl dX8_depression_1 ?_
  refine lv_iload_n hx hb dX8_depression_4 rfl (lv_at hl 1 rfl) ?_
  refine xc_i (va_runS (As := [.int (nI (k))]) (rest := [.ref (b + 127)]) ⟨hx, hb, hml, hown, hts⟩ (c_X8_i l D cy b n hn M k) (va_cwS 1 hts gX8_depression_X8_i rfl rfl rfl (by decide +kernel) ⟨Nat.le_of_ble_eq_true rfl, Nat.le_of_ble_eq_true rfl⟩) (xPreS hP hK hX hS) rfl rfl hl.1 rfl (lv_room (Nat.le_of_ble_eq_true rfl)) dX8_depression_5 ⟨Nat.le_of_ble_eq_true rfl, Nat.le_of_ble_eq_true rfl⟩) hS (fun H locs hP hS => ?_)
  refine W.eq (g2 := F0 m 8 ls (.int (nI (8 * k + 8)) :: .ref (b + 127) :: [])) (congrArg (fun z => F0 m 8 ls (.int z :: .ref (b + 127) :: [])) (show fX8_i M k = nI (8 * k + 8) from by unfold fX8_i; exact congrArg nI (by omega))) ?_
  refine lv_iconst (v := 5) hx hb dX8_depression_8 (by decide) ?_
  refine xadd (z := nI (8 * k + 13)) hx hb (ixAdd (a := 8 * k + 8) (c := 5) (d := 8 * k + 13) rfl rfl (by omega)) dX8_depression_9 ?_
  refine xil (j := 8 * k + 13) hx hb hK hP (by omega) (by decide) (ixIn (a := 8 * k + 13) rfl (by first | decide | (simp only [lenOf]; omega) | omega) (by decide)) (ixAt (a := 8 * k + 13) rfl (by omega)) dX8_depression_10 ?_
  refine lv_if_ne (tgt := 16) hx hb dX8_depression_11 (by decide) (fun c11 => ?_) (fun c11 => ?_)
  · refine lv_bipush (v := 100) hx hb dX8_depression_16 (by decide) ?_
    refine lv_aload_n hx hb dX8_depression_18 rfl (lv_at hl 0 rfl) ?_
    refine lv_iload_n hx hb dX8_depression_19 rfl (lv_at hl 1 rfl) ?_
    refine xc_i (va_runV (As := [.int (nI (k))]) (rest := [.int (100 : Int32)]) ⟨hx, hb, hml, hown, hts⟩ (c_X8_around l D cy b n hn M k (by first | assumption | omega) (by first | assumption | omega)) (cwV 1 hts gX8_depression_X8_around rfl rfl rfl (by decide +kernel) ⟨Nat.le_of_ble_eq_true rfl, Nat.le_of_ble_eq_true rfl⟩) (xPreV hP hK hX hS (by omega) (cell8 (by decide)) rfl) rfl rfl hl.1 rfl (lv_room (Nat.le_of_ble_eq_true rfl)) dX8_depression_20 ⟨Nat.le_of_ble_eq_true rfl, Nat.le_of_ble_eq_true rfl⟩) hS (fun H locs hP hS => ?_)
    refine lv_isub hx hb dX8_depression_23 ?_
    refine lv_aload_n hx hb dX8_depression_24 rfl (lv_at hl 0 rfl) ?_
    refine xg (C := RX8) (T := TX8) (N := 22) (v := .ref (b + 127)) hx hb hts inc8 hown hK hP (by omega) (cell8 (by decide)) rfl 3 (by decide) lk0 (fun _ h => h) rfl dX8_depression_25 ?_
    refine lv_iconst (v := 2) hx hb dX8_depression_28 (by decide) ?_
    refine xil (j := 2) hx hb hK hP (by omega) (by decide) (ixIn (a := 2) rfl (by first | decide | (simp only [lenOf]; omega) | omega) (by decide)) rfl dX8_depression_29 ?_
    refine lv_bipush (v := 10) hx hb dX8_depression_30 (by decide) ?_
    refine lv_iadd hx hb dX8_depression_32 ?_
    refine lv_imul hx hb dX8_depression_33 ?_
    refine lv_bipush (v := 100) hx hb dX8_depression_34 (by decide) ?_
    refine lv_idiv hx hb dX8_depression_36 (by decide) ?_
    exact xe_i hx hb hr hlocks hP hS rfl rfl (by rw [fX8_depression, if_neg c11] <;> rfl) (Nat.le_of_ble_eq_true rfl) (Nat.le_of_ble_eq_true rfl) dX8_depression_37
  · refine lv_iconst (v := 0) hx hb dX8_depression_14 (by decide) ?_
    exact xe_i hx hb hr hlocks hP hS rfl rfl (by rw [fX8_depression, if_pos c11] <;> rfl) (Nat.le_of_ble_eq_true rfl) (Nat.le_of_ble_eq_true rfl) dX8_depression_15
def fX8_raw (M : Mem) (k : Nat) : Int32 := if (fX8_isOfHair M k) = 0 then ((100 : Int32) - (((fX8_depression M k) * (100 : Int32)) / ((M 127 2) + (10 : Int32)))) else ((M 127 (8 * k + 11)) - ((M 127 (8 * k + 12)) / (5 : Int32)))
set_option maxHeartbeats 4000000 in
set_option maxRecDepth 100000 in
theorem c_X8_raw (l : Launch) (D : va_G) (cy : Nat → ClassId) (b n : Nat) (hn : 133 ≤ n) (M : Mem) (k : Nat) (hk6 : k < 6) (hbx : BXS M) (htp : TMP M) : Met l yX8_raw wsX8_raw ({ frames := 4, cells := 0, slots := 0, locals := 83 } : Room) (CP D cy b n fT M [.ref (b + 124), .int (nI (k))]) (CQi D cy b n fT (fX8_raw M k) M) 0 0 (fr b) := by
  refine Met.ofW (cc := cX8_raw) (maxL := 2) (ret := (some .int)) (by decide) rfl ?_
  intro p e s m args below meth c s₁ B hml hv
  obtain ⟨rfl, hP, hK, hX⟩ := hv
  have hx := B.exec
  have hb := B.bytes
  have hr := B.returns
  have hts := atoms_spec (ws := wsX8_raw) B.pre
  have hown : s.vm.findClass RX8 = some m.cls := findClass_of_methodNamed B.named
  have hlocks := B.notSynchronized
  have lk0 := hts (.fieldLink RX8 16 "HygrometerRoomModel" "now" "[I") (by decide +kernel)
  have inc8 : ∀ w ∈ u_ws RX8 TX8 22, w ∈ wsX8_raw := by decide +kernel
  have hS : va_S (fr b) s.heap s.heap [] := va_S.rf
  have hl := lv_entry ([.ref (b + 124), .int (nI (k))]) (n := 2) (Nat.le_of_ble_eq_true rfl)
  rw [lg_entry_eq]
  generalize (lg_sl ([.ref (b + 124), .int (nI (k))]) ++ List.replicate (2 - (lg_sl ([.ref (b + 124), .int (nI (k))])).length) Slot.unset).toArray = ls at hl ⊢
  have hl : lv_has ls 2 [(0, .ref (b + 124)), (1, .int (nI (k)))] := hl
  refine lv_aload_n hx hb dX8_raw_0 rfl (lv_at hl 0 rfl) ?_
  refine lv_iload_n hx hb dX8_raw_1 rfl (lv_at hl 1 rfl) ?_
  refine xc_i (va_runV (As := [.int (nI (k))]) (rest := []) ⟨hx, hb, hml, hown, hts⟩ (c_X8_isOfHair l D cy b n hn M k (by first | assumption | omega)) (cwV 1 hts gX8_raw_X8_isOfHair rfl rfl rfl (by decide +kernel) ⟨Nat.le_of_ble_eq_true rfl, Nat.le_of_ble_eq_true rfl⟩) (xPreV hP hK hX hS (by omega) (cell8 (by decide)) rfl) rfl rfl hl.1 rfl (lv_room (Nat.le_of_ble_eq_true rfl)) dX8_raw_2 ⟨Nat.le_of_ble_eq_true rfl, Nat.le_of_ble_eq_true rfl⟩) hS (fun H locs hP hS => ?_)
  refine lv_if_eq (tgt := 34) hx hb dX8_raw_5 (by decide) (fun c5 => ?_) (fun c5 => ?_)
  · refine lv_bipush (v := 100) hx hb dX8_raw_34 (by decide) ?_
    refine lv_aload_n hx hb dX8_raw_36 rfl (lv_at hl 0 rfl) ?_
    refine lv_iload_n hx hb dX8_raw_37 rfl (lv_at hl 1 rfl) ?_
    refine xc_i (va_runV (As := [.int (nI (k))]) (rest := [.int (100 : Int32)]) ⟨hx, hb, hml, hown, hts⟩ (c_X8_depression l D cy b n hn M k (by first | assumption | omega) (by first | assumption | omega)) (cwV 1 hts gX8_raw_X8_depression rfl rfl rfl (by decide +kernel) ⟨Nat.le_of_ble_eq_true rfl, Nat.le_of_ble_eq_true rfl⟩) (xPreV hP hK hX hS (by omega) (cell8 (by decide)) rfl) rfl rfl hl.1 rfl (lv_room (Nat.le_of_ble_eq_true rfl)) dX8_raw_38 ⟨Nat.le_of_ble_eq_true rfl, Nat.le_of_ble_eq_true rfl⟩) hS (fun H locs hP hS => ?_)
    refine lv_bipush (v := 100) hx hb dX8_raw_41 (by decide) ?_
    refine lv_imul hx hb dX8_raw_43 ?_
    refine lv_aload_n hx hb dX8_raw_44 rfl (lv_at hl 0 rfl) ?_
    refine xg (C := RX8) (T := TX8) (N := 22) (v := .ref (b + 127)) hx hb hts inc8 hown hK hP (by omega) (cell8 (by decide)) rfl 3 (by decide) lk0 (fun _ h => h) rfl dX8_raw_45 ?_
    refine lv_iconst (v := 2) hx hb dX8_raw_48 (by decide) ?_
    refine xil (j := 2) hx hb hK hP (by omega) (by decide) (ixIn (a := 2) rfl (by first | decide | (simp only [lenOf]; omega) | omega) (by decide)) rfl dX8_raw_49 ?_
    refine lv_bipush (v := 10) hx hb dX8_raw_50 (by decide) ?_
    refine lv_iadd hx hb dX8_raw_52 ?_
    refine lv_idiv hx hb dX8_raw_53 (tmp_ne htp) ?_
    refine lv_isub hx hb dX8_raw_54 ?_
    exact xe_i hx hb hr hlocks hP hS rfl rfl (by rw [fX8_raw, if_pos c5] <;> rfl) (Nat.le_of_ble_eq_true rfl) (Nat.le_of_ble_eq_true rfl) dX8_raw_55
  · refine lv_aload_n hx hb dX8_raw_8 rfl (lv_at hl 0 rfl) ?_
    refine xg (C := RX8) (T := TX8) (N := 22) (v := .ref (b + 127)) hx hb hts inc8 hown hK hP (by omega) (cell8 (by decide)) rfl 3 (by decide) lk0 (fun _ h => h) rfl dX8_raw_9 ?_
    refine lv_iload_n hx hb dX8_raw_12 rfl (lv_at hl 1 rfl) ?_
    refine xc_i (va_runS (As := [.int (nI (k))]) (rest := [.ref (b + 127)]) ⟨hx, hb, hml, hown, hts⟩ (c_X8_i l D cy b n hn M k) (va_cwS 1 hts gX8_raw_X8_i rfl rfl rfl (by decide +kernel) ⟨Nat.le_of_ble_eq_true rfl, Nat.le_of_ble_eq_true rfl⟩) (xPreS hP hK hX hS) rfl rfl hl.1 rfl (lv_room (Nat.le_of_ble_eq_true rfl)) dX8_raw_13 ⟨Nat.le_of_ble_eq_true rfl, Nat.le_of_ble_eq_true rfl⟩) hS (fun H locs hP hS => ?_)
    refine W.eq (g2 := F0 m 16 ls (.int (nI (8 * k + 8)) :: .ref (b + 127) :: [])) (congrArg (fun z => F0 m 16 ls (.int z :: .ref (b + 127) :: [])) (show fX8_i M k = nI (8 * k + 8) from by unfold fX8_i; exact congrArg nI (by omega))) ?_
    refine lv_iconst (v := 3) hx hb dX8_raw_16 (by decide) ?_
    refine xadd (z := nI (8 * k + 11)) hx hb (ixAdd (a := 8 * k + 8) (c := 3) (d := 8 * k + 11) rfl rfl (by omega)) dX8_raw_17 ?_
    refine xil (j := 8 * k + 11) hx hb hK hP (by omega) (by decide) (ixIn (a := 8 * k + 11) rfl (by first | decide | (simp only [lenOf]; omega) | omega) (by decide)) (ixAt (a := 8 * k + 11) rfl (by omega)) dX8_raw_18 ?_
    refine lv_aload_n hx hb dX8_raw_19 rfl (lv_at hl 0 rfl) ?_
    refine xg (C := RX8) (T := TX8) (N := 22) (v := .ref (b + 127)) hx hb hts inc8 hown hK hP (by omega) (cell8 (by decide)) rfl 3 (by decide) lk0 (fun _ h => h) rfl dX8_raw_20 ?_
    refine lv_iload_n hx hb dX8_raw_23 rfl (lv_at hl 1 rfl) ?_
    refine xc_i (va_runS (As := [.int (nI (k))]) (rest := [.ref (b + 127), .int (M 127 (8 * k + 11))]) ⟨hx, hb, hml, hown, hts⟩ (c_X8_i l D cy b n hn M k) (va_cwS 1 hts gX8_raw_X8_i rfl rfl rfl (by decide +kernel) ⟨Nat.le_of_ble_eq_true rfl, Nat.le_of_ble_eq_true rfl⟩) (xPreS hP hK hX hS) rfl rfl hl.1 rfl (lv_room (Nat.le_of_ble_eq_true rfl)) dX8_raw_24 ⟨Nat.le_of_ble_eq_true rfl, Nat.le_of_ble_eq_true rfl⟩) hS (fun H locs hP hS => ?_)
    refine W.eq (g2 := F0 m 27 ls (.int (nI (8 * k + 8)) :: .ref (b + 127) :: .int (M 127 (8 * k + 11)) :: [])) (congrArg (fun z => F0 m 27 ls (.int z :: .ref (b + 127) :: .int (M 127 (8 * k + 11)) :: [])) (show fX8_i M k = nI (8 * k + 8) from by unfold fX8_i; exact congrArg nI (by omega))) ?_
    refine lv_iconst (v := 4) hx hb dX8_raw_27 (by decide) ?_
    refine xadd (z := nI (8 * k + 12)) hx hb (ixAdd (a := 8 * k + 8) (c := 4) (d := 8 * k + 12) rfl rfl (by omega)) dX8_raw_28 ?_
    refine xil (j := 8 * k + 12) hx hb hK hP (by omega) (by decide) (ixIn (a := 8 * k + 12) rfl (by first | decide | (simp only [lenOf]; omega) | omega) (by decide)) (ixAt (a := 8 * k + 12) rfl (by omega)) dX8_raw_29 ?_
    refine lv_iconst (v := 5) hx hb dX8_raw_30 (by decide) ?_
    refine lv_idiv hx hb dX8_raw_31 (by decide) ?_
    refine lv_isub hx hb dX8_raw_32 ?_
    exact xe_i hx hb hr hlocks hP hS rfl rfl (by rw [fX8_raw, if_neg c5] <;> rfl) (Nat.le_of_ble_eq_true rfl) (Nat.le_of_ble_eq_true rfl) dX8_raw_33
def fX8_reading (M : Mem) (k : Nat) : Int32 := if 0 ≤ ((fX8_raw M k) + (M 127 (8 * k + 14))) then (if ((fX8_raw M k) + (M 127 (8 * k + 14))) ≤ (100 : Int32) then ((fX8_raw M k) + (M 127 (8 * k + 14))) else (100 : Int32)) else (0 : Int32)
set_option maxHeartbeats 4000000 in
set_option maxRecDepth 100000 in
theorem c_X8_reading (l : Launch) (D : va_G) (cy : Nat → ClassId) (b n : Nat) (hn : 133 ≤ n) (M : Mem) (k : Nat) (hk6 : k < 6) (hbx : BXS M) (htp : TMP M) : Met l yX8_reading wsX8_reading ({ frames := 5, cells := 0, slots := 0, locals := 104 } : Room) (CP D cy b n fT M [.ref (b + 124), .int (nI (k))]) (CQi D cy b n fT (fX8_reading M k) M) 0 0 (fr b) := by
  refine Met.ofW (cc := cX8_reading) (maxL := 3) (ret := (some .int)) (by decide) rfl ?_
  intro p e s m args below meth c s₁ B hml hv
  obtain ⟨rfl, hP, hK, hX⟩ := hv
  have hx := B.exec
  have hb := B.bytes
  have hr := B.returns
  have hts := atoms_spec (ws := wsX8_reading) B.pre
  have hown : s.vm.findClass RX8 = some m.cls := findClass_of_methodNamed B.named
  have hlocks := B.notSynchronized
  have lk0 := hts (.fieldLink RX8 16 "HygrometerRoomModel" "now" "[I") (by decide +kernel)
  have inc8 : ∀ w ∈ u_ws RX8 TX8 22, w ∈ wsX8_reading := by decide +kernel
  have hS : va_S (fr b) s.heap s.heap [] := va_S.rf
  have hl := lv_entry ([.ref (b + 124), .int (nI (k))]) (n := 3) (Nat.le_of_ble_eq_true rfl)
  rw [lg_entry_eq]
  generalize (lg_sl ([.ref (b + 124), .int (nI (k))]) ++ List.replicate (3 - (lg_sl ([.ref (b + 124), .int (nI (k))])).length) Slot.unset).toArray = ls at hl ⊢
  have hl : lv_has ls 3 [(0, .ref (b + 124)), (1, .int (nI (k)))] := hl
  refine lv_aload_n hx hb dX8_reading_0 rfl (lv_at hl 0 rfl) ?_
  refine lv_iload_n hx hb dX8_reading_1 rfl (lv_at hl 1 rfl) ?_
  refine xc_i (va_runV (As := [.int (nI (k))]) (rest := []) ⟨hx, hb, hml, hown, hts⟩ (c_X8_raw l D cy b n hn M k (by first | assumption | omega) (by first | assumption | omega) (by first | assumption | omega)) (cwV 1 hts gX8_reading_X8_raw rfl rfl rfl (by decide +kernel) ⟨Nat.le_of_ble_eq_true rfl, Nat.le_of_ble_eq_true rfl⟩) (xPreV hP hK hX hS (by omega) (cell8 (by decide)) rfl) rfl rfl hl.1 rfl (lv_room (Nat.le_of_ble_eq_true rfl)) dX8_reading_2 ⟨Nat.le_of_ble_eq_true rfl, Nat.le_of_ble_eq_true rfl⟩) hS (fun H locs hP hS => ?_)
  refine lv_aload_n hx hb dX8_reading_5 rfl (lv_at hl 0 rfl) ?_
  refine xg (C := RX8) (T := TX8) (N := 22) (v := .ref (b + 127)) hx hb hts inc8 hown hK hP (by omega) (cell8 (by decide)) rfl 3 (by decide) lk0 (fun _ h => h) rfl dX8_reading_6 ?_
  refine lv_iload_n hx hb dX8_reading_9 rfl (lv_at hl 1 rfl) ?_
  refine xc_i (va_runS (As := [.int (nI (k))]) (rest := [.ref (b + 127), .int (fX8_raw M k)]) ⟨hx, hb, hml, hown, hts⟩ (c_X8_i l D cy b n hn M k) (va_cwS 1 hts gX8_reading_X8_i rfl rfl rfl (by decide +kernel) ⟨Nat.le_of_ble_eq_true rfl, Nat.le_of_ble_eq_true rfl⟩) (xPreS hP hK hX hS) rfl rfl hl.1 rfl (lv_room (Nat.le_of_ble_eq_true rfl)) dX8_reading_10 ⟨Nat.le_of_ble_eq_true rfl, Nat.le_of_ble_eq_true rfl⟩) hS (fun H locs hP hS => ?_)
  refine W.eq (g2 := F0 m 13 ls (.int (nI (8 * k + 8)) :: .ref (b + 127) :: .int (fX8_raw M k) :: [])) (congrArg (fun z => F0 m 13 ls (.int z :: .ref (b + 127) :: .int (fX8_raw M k) :: [])) (show fX8_i M k = nI (8 * k + 8) from by unfold fX8_i; exact congrArg nI (by omega))) ?_
  refine lv_bipush (v := 6) hx hb dX8_reading_13 (by decide) ?_
  refine xadd (z := nI (8 * k + 14)) hx hb (ixAdd (a := 8 * k + 8) (c := 6) (d := 8 * k + 14) rfl rfl (by omega)) dX8_reading_15 ?_
  refine xil (j := 8 * k + 14) hx hb hK hP (by omega) (by decide) (ixIn (a := 8 * k + 14) rfl (by first | decide | (simp only [lenOf]; omega) | omega) (by decide)) (ixAt (a := 8 * k + 14) rfl (by omega)) dX8_reading_16 ?_
  refine lv_iadd hx hb dX8_reading_17 ?_
  refine lv_istore_n (lv' := [(2, .int ((fX8_raw M k) + (M 127 (8 * k + 14)))), (0, .ref (b + 124)), (1, .int (nI (k)))]) hx hb dX8_reading_18 rfl hl (by decide) rfl (fun ls hl => ?_)
  refine lv_iload_n hx hb dX8_reading_19 rfl (lv_at hl 0 rfl) ?_
  refine lv_if_ge (tgt := 25) hx hb dX8_reading_20 (by decide) (fun c20 => ?_) (fun c20 => ?_)
  · refine lv_iload_n hx hb dX8_reading_25 rfl (lv_at hl 0 rfl) ?_
    refine lv_bipush (v := 100) hx hb dX8_reading_26 (by decide) ?_
    refine lv_icmp_le (tgt := 34) hx hb dX8_reading_28 (by decide) (fun c28 => ?_) (fun c28 => ?_)
    · refine lv_iload_n hx hb dX8_reading_34 rfl (lv_at hl 0 rfl) ?_
      exact xe_i hx hb hr hlocks hP hS rfl rfl (by rw [fX8_reading, if_pos c20, if_pos c28] <;> rfl) (Nat.le_of_ble_eq_true rfl) (Nat.le_of_ble_eq_true rfl) dX8_reading_35
    · refine lv_bipush (v := 100) hx hb dX8_reading_31 (by decide) ?_
      exact xe_i hx hb hr hlocks hP hS rfl rfl (by rw [fX8_reading, if_pos c20, if_neg c28] <;> rfl) (Nat.le_of_ble_eq_true rfl) (Nat.le_of_ble_eq_true rfl) dX8_reading_33
  · refine lv_iconst (v := 0) hx hb dX8_reading_23 (by decide) ?_
    exact xe_i hx hb hr hlocks hP hS rfl rfl (by rw [fX8_reading, if_neg c20] <;> rfl) (Nat.le_of_ble_eq_true rfl) (Nat.le_of_ble_eq_true rfl) dX8_reading_24
def fX8_isStill (M : Mem) (k : Nat) : Int32 := if (fX8_isOfHair M k) = 0 then (if (M 127 (8 * k + 13)) = 0 then (1 : Int32) else (0 : Int32)) else (if (M 127 (8 * k + 11)) = (fX8_around M k) then (1 : Int32) else (0 : Int32))
set_option maxHeartbeats 4000000 in
set_option maxRecDepth 100000 in
theorem c_X8_isStill (l : Launch) (D : va_G) (cy : Nat → ClassId) (b n : Nat) (hn : 133 ≤ n) (M : Mem) (k : Nat) (hk6 : k < 6) (hbx : BXS M) : Met l yX8_isStill wsX8_isStill ({ frames := 3, cells := 0, slots := 0, locals := 62 } : Room) (CP D cy b n fT M [.ref (b + 124), .int (nI (k))]) (CQi D cy b n fT (fX8_isStill M k) M) 0 0 (fr b) := by
  refine Met.ofW (cc := cX8_isStill) (maxL := 2) (ret := (some .boolean)) (by decide) rfl ?_
  intro p e s m args below meth c s₁ B hml hv
  obtain ⟨rfl, hP, hK, hX⟩ := hv
  have hx := B.exec
  have hb := B.bytes
  have hr := B.returns
  have hts := atoms_spec (ws := wsX8_isStill) B.pre
  have hown : s.vm.findClass RX8 = some m.cls := findClass_of_methodNamed B.named
  have hlocks := B.notSynchronized
  have lk0 := hts (.fieldLink RX8 16 "HygrometerRoomModel" "now" "[I") (by decide +kernel)
  have inc8 : ∀ w ∈ u_ws RX8 TX8 22, w ∈ wsX8_isStill := by decide +kernel
  have hS : va_S (fr b) s.heap s.heap [] := va_S.rf
  have hl := lv_entry ([.ref (b + 124), .int (nI (k))]) (n := 2) (Nat.le_of_ble_eq_true rfl)
  rw [lg_entry_eq]
  generalize (lg_sl ([.ref (b + 124), .int (nI (k))]) ++ List.replicate (2 - (lg_sl ([.ref (b + 124), .int (nI (k))])).length) Slot.unset).toArray = ls at hl ⊢
  have hl : lv_has ls 2 [(0, .ref (b + 124)), (1, .int (nI (k)))] := hl
  refine lv_aload_n hx hb dX8_isStill_0 rfl (lv_at hl 0 rfl) ?_
  refine lv_iload_n hx hb dX8_isStill_1 rfl (lv_at hl 1 rfl) ?_
  refine xc_i (va_runV (As := [.int (nI (k))]) (rest := []) ⟨hx, hb, hml, hown, hts⟩ (c_X8_isOfHair l D cy b n hn M k (by first | assumption | omega)) (cwV 1 hts gX8_isStill_X8_isOfHair rfl rfl rfl (by decide +kernel) ⟨Nat.le_of_ble_eq_true rfl, Nat.le_of_ble_eq_true rfl⟩) (xPreV hP hK hX hS (by omega) (cell8 (by decide)) rfl) rfl rfl hl.1 rfl (lv_room (Nat.le_of_ble_eq_true rfl)) dX8_isStill_2 ⟨Nat.le_of_ble_eq_true rfl, Nat.le_of_ble_eq_true rfl⟩) hS (fun H locs hP hS => ?_)
  refine lv_if_eq (tgt := 33) hx hb dX8_isStill_5 (by decide) (fun c5 => ?_) (fun c5 => ?_)
  · refine lv_aload_n hx hb dX8_isStill_33 rfl (lv_at hl 0 rfl) ?_
    refine xg (C := RX8) (T := TX8) (N := 22) (v := .ref (b + 127)) hx hb hts inc8 hown hK hP (by omega) (cell8 (by decide)) rfl 3 (by decide) lk0 (fun _ h => h) rfl dX8_isStill_34 ?_
    refine lv_iload_n hx hb dX8_isStill_37 rfl (lv_at hl 1 rfl) ?_
    refine xc_i (va_runS (As := [.int (nI (k))]) (rest := [.ref (b + 127)]) ⟨hx, hb, hml, hown, hts⟩ (c_X8_i l D cy b n hn M k) (va_cwS 1 hts gX8_isStill_X8_i rfl rfl rfl (by decide +kernel) ⟨Nat.le_of_ble_eq_true rfl, Nat.le_of_ble_eq_true rfl⟩) (xPreS hP hK hX hS) rfl rfl hl.1 rfl (lv_room (Nat.le_of_ble_eq_true rfl)) dX8_isStill_38 ⟨Nat.le_of_ble_eq_true rfl, Nat.le_of_ble_eq_true rfl⟩) hS (fun H locs hP hS => ?_)
    refine W.eq (g2 := F0 m 41 ls (.int (nI (8 * k + 8)) :: .ref (b + 127) :: [])) (congrArg (fun z => F0 m 41 ls (.int z :: .ref (b + 127) :: [])) (show fX8_i M k = nI (8 * k + 8) from by unfold fX8_i; exact congrArg nI (by omega))) ?_
    refine lv_iconst (v := 5) hx hb dX8_isStill_41 (by decide) ?_
    refine xadd (z := nI (8 * k + 13)) hx hb (ixAdd (a := 8 * k + 8) (c := 5) (d := 8 * k + 13) rfl rfl (by omega)) dX8_isStill_42 ?_
    refine xil (j := 8 * k + 13) hx hb hK hP (by omega) (by decide) (ixIn (a := 8 * k + 13) rfl (by first | decide | (simp only [lenOf]; omega) | omega) (by decide)) (ixAt (a := 8 * k + 13) rfl (by omega)) dX8_isStill_43 ?_
    refine lv_if_ne (tgt := 51) hx hb dX8_isStill_44 (by decide) (fun c44 => ?_) (fun c44 => ?_)
    · refine lv_iconst (v := 0) hx hb dX8_isStill_51 (by decide) ?_
      exact xe_z hx hb hr hlocks hP hS rfl rfl (by rw [fX8_isStill, if_pos c5, if_neg c44] <;> rfl) rfl (Nat.le_of_ble_eq_true rfl) (Nat.le_of_ble_eq_true rfl) dX8_isStill_52
    · refine lv_iconst (v := 1) hx hb dX8_isStill_47 (by decide) ?_
      refine lv_goto (tgt := 52) hx hb dX8_isStill_48 (by decide) ?_
      exact xe_z hx hb hr hlocks hP hS rfl rfl (by rw [fX8_isStill, if_pos c5, if_pos c44] <;> rfl) rfl (Nat.le_of_ble_eq_true rfl) (Nat.le_of_ble_eq_true rfl) dX8_isStill_52
  · refine lv_aload_n hx hb dX8_isStill_8 rfl (lv_at hl 0 rfl) ?_
    refine xg (C := RX8) (T := TX8) (N := 22) (v := .ref (b + 127)) hx hb hts inc8 hown hK hP (by omega) (cell8 (by decide)) rfl 3 (by decide) lk0 (fun _ h => h) rfl dX8_isStill_9 ?_
    refine lv_iload_n hx hb dX8_isStill_12 rfl (lv_at hl 1 rfl) ?_
    refine xc_i (va_runS (As := [.int (nI (k))]) (rest := [.ref (b + 127)]) ⟨hx, hb, hml, hown, hts⟩ (c_X8_i l D cy b n hn M k) (va_cwS 1 hts gX8_isStill_X8_i rfl rfl rfl (by decide +kernel) ⟨Nat.le_of_ble_eq_true rfl, Nat.le_of_ble_eq_true rfl⟩) (xPreS hP hK hX hS) rfl rfl hl.1 rfl (lv_room (Nat.le_of_ble_eq_true rfl)) dX8_isStill_13 ⟨Nat.le_of_ble_eq_true rfl, Nat.le_of_ble_eq_true rfl⟩) hS (fun H locs hP hS => ?_)
    refine W.eq (g2 := F0 m 16 ls (.int (nI (8 * k + 8)) :: .ref (b + 127) :: [])) (congrArg (fun z => F0 m 16 ls (.int z :: .ref (b + 127) :: [])) (show fX8_i M k = nI (8 * k + 8) from by unfold fX8_i; exact congrArg nI (by omega))) ?_
    refine lv_iconst (v := 3) hx hb dX8_isStill_16 (by decide) ?_
    refine xadd (z := nI (8 * k + 11)) hx hb (ixAdd (a := 8 * k + 8) (c := 3) (d := 8 * k + 11) rfl rfl (by omega)) dX8_isStill_17 ?_
    refine xil (j := 8 * k + 11) hx hb hK hP (by omega) (by decide) (ixIn (a := 8 * k + 11) rfl (by first | decide | (simp only [lenOf]; omega) | omega) (by decide)) (ixAt (a := 8 * k + 11) rfl (by omega)) dX8_isStill_18 ?_
    refine lv_aload_n hx hb dX8_isStill_19 rfl (lv_at hl 0 rfl) ?_
    refine lv_iload_n hx hb dX8_isStill_20 rfl (lv_at hl 1 rfl) ?_
    refine xc_i (va_runV (As := [.int (nI (k))]) (rest := [.int (M 127 (8 * k + 11))]) ⟨hx, hb, hml, hown, hts⟩ (c_X8_around l D cy b n hn M k (by first | assumption | omega) (by first | assumption | omega)) (cwV 1 hts gX8_isStill_X8_around rfl rfl rfl (by decide +kernel) ⟨Nat.le_of_ble_eq_true rfl, Nat.le_of_ble_eq_true rfl⟩) (xPreV hP hK hX hS (by omega) (cell8 (by decide)) rfl) rfl rfl hl.1 rfl (lv_room (Nat.le_of_ble_eq_true rfl)) dX8_isStill_21 ⟨Nat.le_of_ble_eq_true rfl, Nat.le_of_ble_eq_true rfl⟩) hS (fun H locs hP hS => ?_)
    refine lv_icmp_ne (tgt := 31) hx hb dX8_isStill_24 (by decide) (fun c24 => ?_) (fun c24 => ?_)
    · refine lv_iconst (v := 0) hx hb dX8_isStill_31 (by decide) ?_
      exact xe_z hx hb hr hlocks hP hS rfl rfl (by rw [fX8_isStill, if_neg c5, if_neg c24] <;> rfl) rfl (Nat.le_of_ble_eq_true rfl) (Nat.le_of_ble_eq_true rfl) dX8_isStill_32
    · refine lv_iconst (v := 1) hx hb dX8_isStill_27 (by decide) ?_
      refine lv_goto (tgt := 32) hx hb dX8_isStill_28 (by decide) ?_
      exact xe_z hx hb hr hlocks hP hS rfl rfl (by rw [fX8_isStill, if_neg c5, if_pos c24] <;> rfl) rfl (Nat.le_of_ble_eq_true rfl) (Nat.le_of_ble_eq_true rfl) dX8_isStill_32
def fX8_hasSettled (M : Mem) (k : Nat) : Int32 := if (fX8_isOfHair M k) = (fX8_isStill M k) then (1 : Int32) else (0 : Int32)
set_option maxHeartbeats 4000000 in
set_option maxRecDepth 100000 in
theorem c_X8_hasSettled (l : Launch) (D : va_G) (cy : Nat → ClassId) (b n : Nat) (hn : 133 ≤ n) (M : Mem) (k : Nat) (hk6 : k < 6) (hbx : BXS M) : Met l yX8_hasSettled wsX8_hasSettled ({ frames := 4, cells := 0, slots := 0, locals := 83 } : Room) (CP D cy b n fT M [.ref (b + 124), .int (nI (k))]) (CQi D cy b n fT (fX8_hasSettled M k) M) 0 0 (fr b) := by
  refine Met.ofW (cc := cX8_hasSettled) (maxL := 2) (ret := (some .boolean)) (by decide) rfl ?_
  intro p e s m args below meth c s₁ B hml hv
  obtain ⟨rfl, hP, hK, hX⟩ := hv
  have hx := B.exec
  have hb := B.bytes
  have hr := B.returns
  have hts := atoms_spec (ws := wsX8_hasSettled) B.pre
  have hown : s.vm.findClass RX8 = some m.cls := findClass_of_methodNamed B.named
  have hlocks := B.notSynchronized
  have hS : va_S (fr b) s.heap s.heap [] := va_S.rf
  have hl := lv_entry ([.ref (b + 124), .int (nI (k))]) (n := 2) (Nat.le_of_ble_eq_true rfl)
  rw [lg_entry_eq]
  generalize (lg_sl ([.ref (b + 124), .int (nI (k))]) ++ List.replicate (2 - (lg_sl ([.ref (b + 124), .int (nI (k))])).length) Slot.unset).toArray = ls at hl ⊢
  have hl : lv_has ls 2 [(0, .ref (b + 124)), (1, .int (nI (k)))] := hl
  refine lv_aload_n hx hb dX8_hasSettled_0 rfl (lv_at hl 0 rfl) ?_
  refine lv_iload_n hx hb dX8_hasSettled_1 rfl (lv_at hl 1 rfl) ?_
  refine xc_i (va_runV (As := [.int (nI (k))]) (rest := []) ⟨hx, hb, hml, hown, hts⟩ (c_X8_isOfHair l D cy b n hn M k (by first | assumption | omega)) (cwV 1 hts gX8_hasSettled_X8_isOfHair rfl rfl rfl (by decide +kernel) ⟨Nat.le_of_ble_eq_true rfl, Nat.le_of_ble_eq_true rfl⟩) (xPreV hP hK hX hS (by omega) (cell8 (by decide)) rfl) rfl rfl hl.1 rfl (lv_room (Nat.le_of_ble_eq_true rfl)) dX8_hasSettled_2 ⟨Nat.le_of_ble_eq_true rfl, Nat.le_of_ble_eq_true rfl⟩) hS (fun H locs hP hS => ?_)
  refine lv_aload_n hx hb dX8_hasSettled_5 rfl (lv_at hl 0 rfl) ?_
  refine lv_iload_n hx hb dX8_hasSettled_6 rfl (lv_at hl 1 rfl) ?_
  refine xc_i (va_runV (As := [.int (nI (k))]) (rest := [.int (fX8_isOfHair M k)]) ⟨hx, hb, hml, hown, hts⟩ (c_X8_isStill l D cy b n hn M k (by first | assumption | omega) (by first | assumption | omega)) (cwV 1 hts gX8_hasSettled_X8_isStill rfl rfl rfl (by decide +kernel) ⟨Nat.le_of_ble_eq_true rfl, Nat.le_of_ble_eq_true rfl⟩) (xPreV hP hK hX hS (by omega) (cell8 (by decide)) rfl) rfl rfl hl.1 rfl (lv_room (Nat.le_of_ble_eq_true rfl)) dX8_hasSettled_7 ⟨Nat.le_of_ble_eq_true rfl, Nat.le_of_ble_eq_true rfl⟩) hS (fun H locs hP hS => ?_)
  refine lv_icmp_ne (tgt := 17) hx hb dX8_hasSettled_10 (by decide) (fun c10 => ?_) (fun c10 => ?_)
  · refine lv_iconst (v := 0) hx hb dX8_hasSettled_17 (by decide) ?_
    exact xe_z hx hb hr hlocks hP hS rfl rfl (by rw [fX8_hasSettled, if_neg c10] <;> rfl) rfl (Nat.le_of_ble_eq_true rfl) (Nat.le_of_ble_eq_true rfl) dX8_hasSettled_18
  · refine lv_iconst (v := 1) hx hb dX8_hasSettled_13 (by decide) ?_
    refine lv_goto (tgt := 18) hx hb dX8_hasSettled_14 (by decide) ?_
    exact xe_z hx hb hr hlocks hP hS rfl rfl (by rw [fX8_hasSettled, if_pos c10] <;> rfl) rfl (Nat.le_of_ble_eq_true rfl) (Nat.le_of_ble_eq_true rfl) dX8_hasSettled_18
def fX8_flaw (M : Mem) (k : Nat) : Int32 := if (fX8_isBoxed M k) = 0 then (if (fX8_isOfHair M k) = 0 then (if (M 127 (8 * k + 13)) = 0 then (2 : Int32) else (0 : Int32)) else (if (M 127 (8 * k + 9)) = 0 then (2 : Int32) else (if (M 127 (8 * k + 12)) ≤ (25 : Int32) then (0 : Int32) else (3 : Int32)))) else (1 : Int32)
set_option maxHeartbeats 4000000 in
set_option maxRecDepth 100000 in
theorem c_X8_flaw (l : Launch) (D : va_G) (cy : Nat → ClassId) (b n : Nat) (hn : 133 ≤ n) (M : Mem) (k : Nat) (hk6 : k < 6) : Met l yX8_flaw wsX8_flaw ({ frames := 2, cells := 0, slots := 0, locals := 41 } : Room) (CP D cy b n fT M [.ref (b + 124), .int (nI (k))]) (CQi D cy b n fT (fX8_flaw M k) M) 0 0 (fr b) := by
  refine Met.ofW (cc := cX8_flaw) (maxL := 3) (ret := (some .int)) (by decide) rfl ?_
  intro p e s m args below meth c s₁ B hml hv
  obtain ⟨rfl, hP, hK, hX⟩ := hv
  have hx := B.exec
  have hb := B.bytes
  have hr := B.returns
  have hts := atoms_spec (ws := wsX8_flaw) B.pre
  have hown : s.vm.findClass RX8 = some m.cls := findClass_of_methodNamed B.named
  have hlocks := B.notSynchronized
  have lk0 := hts (.fieldLink RX8 16 "HygrometerRoomModel" "now" "[I") (by decide +kernel)
  have inc8 : ∀ w ∈ u_ws RX8 TX8 22, w ∈ wsX8_flaw := by decide +kernel
  have hS : va_S (fr b) s.heap s.heap [] := va_S.rf
  have hl := lv_entry ([.ref (b + 124), .int (nI (k))]) (n := 3) (Nat.le_of_ble_eq_true rfl)
  rw [lg_entry_eq]
  generalize (lg_sl ([.ref (b + 124), .int (nI (k))]) ++ List.replicate (3 - (lg_sl ([.ref (b + 124), .int (nI (k))])).length) Slot.unset).toArray = ls at hl ⊢
  have hl : lv_has ls 3 [(0, .ref (b + 124)), (1, .int (nI (k)))] := hl
  refine lv_iload_n hx hb dX8_flaw_0 rfl (lv_at hl 1 rfl) ?_
  refine xc_i (va_runS (As := [.int (nI (k))]) (rest := []) ⟨hx, hb, hml, hown, hts⟩ (c_X8_i l D cy b n hn M k) (va_cwS 1 hts gX8_flaw_X8_i rfl rfl rfl (by decide +kernel) ⟨Nat.le_of_ble_eq_true rfl, Nat.le_of_ble_eq_true rfl⟩) (xPreS hP hK hX hS) rfl rfl hl.1 rfl (lv_room (Nat.le_of_ble_eq_true rfl)) dX8_flaw_1 ⟨Nat.le_of_ble_eq_true rfl, Nat.le_of_ble_eq_true rfl⟩) hS (fun H locs hP hS => ?_)
  refine W.eq (g2 := F0 m 4 ls (.int (nI (8 * k + 8)) :: [])) (congrArg (fun z => F0 m 4 ls (.int z :: [])) (show fX8_i M k = nI (8 * k + 8) from by unfold fX8_i; exact congrArg nI (by omega))) ?_
  refine lv_istore_n (lv' := [(2, .int (nI (8 * k + 8))), (0, .ref (b + 124)), (1, .int (nI (k)))]) hx hb dX8_flaw_4 rfl hl (by decide) rfl (fun ls hl => ?_)
  refine lv_aload_n hx hb dX8_flaw_5 rfl (lv_at hl 1 rfl) ?_
  refine lv_iload_n hx hb dX8_flaw_6 rfl (lv_at hl 2 rfl) ?_
  refine xc_i (va_runV (As := [.int (nI (k))]) (rest := []) ⟨hx, hb, hml, hown, hts⟩ (c_X8_isBoxed l D cy b n hn M k (by first | assumption | omega)) (cwV 1 hts gX8_flaw_X8_isBoxed rfl rfl rfl (by decide +kernel) ⟨Nat.le_of_ble_eq_true rfl, Nat.le_of_ble_eq_true rfl⟩) (xPreV hP hK hX hS (by omega) (cell8 (by decide)) rfl) rfl rfl hl.1 rfl (lv_room (Nat.le_of_ble_eq_true rfl)) dX8_flaw_7 ⟨Nat.le_of_ble_eq_true rfl, Nat.le_of_ble_eq_true rfl⟩) hS (fun H locs hP hS => ?_)
  refine lv_if_eq (tgt := 15) hx hb dX8_flaw_10 (by decide) (fun c10 => ?_) (fun c10 => ?_)
  · refine lv_aload_n hx hb dX8_flaw_15 rfl (lv_at hl 1 rfl) ?_
    refine lv_iload_n hx hb dX8_flaw_16 rfl (lv_at hl 2 rfl) ?_
    refine xc_i (va_runV (As := [.int (nI (k))]) (rest := []) ⟨hx, hb, hml, hown, hts⟩ (c_X8_isOfHair l D cy b n hn M k (by first | assumption | omega)) (cwV 1 hts gX8_flaw_X8_isOfHair rfl rfl rfl (by decide +kernel) ⟨Nat.le_of_ble_eq_true rfl, Nat.le_of_ble_eq_true rfl⟩) (xPreV hP hK hX hS (by omega) (cell8 (by decide)) rfl) rfl rfl hl.1 rfl (lv_room (Nat.le_of_ble_eq_true rfl)) dX8_flaw_17 ⟨Nat.le_of_ble_eq_true rfl, Nat.le_of_ble_eq_true rfl⟩) hS (fun H locs hP hS => ?_)
    refine lv_if_eq (tgt := 53) hx hb dX8_flaw_20 (by decide) (fun c20 => ?_) (fun c20 => ?_)
    · refine lv_aload_n hx hb dX8_flaw_53 rfl (lv_at hl 1 rfl) ?_
      refine xg (C := RX8) (T := TX8) (N := 22) (v := .ref (b + 127)) hx hb hts inc8 hown hK hP (by omega) (cell8 (by decide)) rfl 3 (by decide) lk0 (fun _ h => h) rfl dX8_flaw_54 ?_
      refine lv_iload_n hx hb dX8_flaw_57 rfl (lv_at hl 0 rfl) ?_
      refine lv_iconst (v := 5) hx hb dX8_flaw_58 (by decide) ?_
      refine xadd (z := nI (8 * k + 13)) hx hb (ixAdd (a := 8 * k + 8) (c := 5) (d := 8 * k + 13) rfl rfl (by omega)) dX8_flaw_59 ?_
      refine xil (j := 8 * k + 13) hx hb hK hP (by omega) (by decide) (ixIn (a := 8 * k + 13) rfl (by first | decide | (simp only [lenOf]; omega) | omega) (by decide)) (ixAt (a := 8 * k + 13) rfl (by omega)) dX8_flaw_60 ?_
      refine lv_if_ne (tgt := 66) hx hb dX8_flaw_61 (by decide) (fun c61 => ?_) (fun c61 => ?_)
      · refine lv_iconst (v := 0) hx hb dX8_flaw_66 (by decide) ?_
        exact xe_i hx hb hr hlocks hP hS rfl rfl (by rw [fX8_flaw, if_pos c10, if_pos c20, if_neg c61] <;> rfl) (Nat.le_of_ble_eq_true rfl) (Nat.le_of_ble_eq_true rfl) dX8_flaw_67
      · refine lv_iconst (v := 2) hx hb dX8_flaw_64 (by decide) ?_
        exact xe_i hx hb hr hlocks hP hS rfl rfl (by rw [fX8_flaw, if_pos c10, if_pos c20, if_pos c61] <;> rfl) (Nat.le_of_ble_eq_true rfl) (Nat.le_of_ble_eq_true rfl) dX8_flaw_65
    · refine lv_aload_n hx hb dX8_flaw_23 rfl (lv_at hl 1 rfl) ?_
      refine xg (C := RX8) (T := TX8) (N := 22) (v := .ref (b + 127)) hx hb hts inc8 hown hK hP (by omega) (cell8 (by decide)) rfl 3 (by decide) lk0 (fun _ h => h) rfl dX8_flaw_24 ?_
      refine lv_iload_n hx hb dX8_flaw_27 rfl (lv_at hl 0 rfl) ?_
      refine lv_iconst (v := 1) hx hb dX8_flaw_28 (by decide) ?_
      refine xadd (z := nI (8 * k + 9)) hx hb (ixAdd (a := 8 * k + 8) (c := 1) (d := 8 * k + 9) rfl rfl (by omega)) dX8_flaw_29 ?_
      refine xil (j := 8 * k + 9) hx hb hK hP (by omega) (by decide) (ixIn (a := 8 * k + 9) rfl (by first | decide | (simp only [lenOf]; omega) | omega) (by decide)) (ixAt (a := 8 * k + 9) rfl (by omega)) dX8_flaw_30 ?_
      refine lv_if_ne (tgt := 36) hx hb dX8_flaw_31 (by decide) (fun c31 => ?_) (fun c31 => ?_)
      · refine lv_aload_n hx hb dX8_flaw_36 rfl (lv_at hl 1 rfl) ?_
        refine xg (C := RX8) (T := TX8) (N := 22) (v := .ref (b + 127)) hx hb hts inc8 hown hK hP (by omega) (cell8 (by decide)) rfl 3 (by decide) lk0 (fun _ h => h) rfl dX8_flaw_37 ?_
        refine lv_iload_n hx hb dX8_flaw_40 rfl (lv_at hl 0 rfl) ?_
        refine lv_iconst (v := 4) hx hb dX8_flaw_41 (by decide) ?_
        refine xadd (z := nI (8 * k + 12)) hx hb (ixAdd (a := 8 * k + 8) (c := 4) (d := 8 * k + 12) rfl rfl (by omega)) dX8_flaw_42 ?_
        refine xil (j := 8 * k + 12) hx hb hK hP (by omega) (by decide) (ixIn (a := 8 * k + 12) rfl (by first | decide | (simp only [lenOf]; omega) | omega) (by decide)) (ixAt (a := 8 * k + 12) rfl (by omega)) dX8_flaw_43 ?_
        refine lv_bipush (v := 25) hx hb dX8_flaw_44 (by decide) ?_
        refine lv_icmp_le (tgt := 51) hx hb dX8_flaw_46 (by decide) (fun c46 => ?_) (fun c46 => ?_)
        · refine lv_iconst (v := 0) hx hb dX8_flaw_51 (by decide) ?_
          exact xe_i hx hb hr hlocks hP hS rfl rfl (by rw [fX8_flaw, if_pos c10, if_neg c20, if_neg c31, if_pos c46] <;> rfl) (Nat.le_of_ble_eq_true rfl) (Nat.le_of_ble_eq_true rfl) dX8_flaw_52
        · refine lv_iconst (v := 3) hx hb dX8_flaw_49 (by decide) ?_
          exact xe_i hx hb hr hlocks hP hS rfl rfl (by rw [fX8_flaw, if_pos c10, if_neg c20, if_neg c31, if_neg c46] <;> rfl) (Nat.le_of_ble_eq_true rfl) (Nat.le_of_ble_eq_true rfl) dX8_flaw_50
      · refine lv_iconst (v := 2) hx hb dX8_flaw_34 (by decide) ?_
        exact xe_i hx hb hr hlocks hP hS rfl rfl (by rw [fX8_flaw, if_pos c10, if_neg c20, if_pos c31] <;> rfl) (Nat.le_of_ble_eq_true rfl) (Nat.le_of_ble_eq_true rfl) dX8_flaw_35
  · refine lv_iconst (v := 1) hx hb dX8_flaw_13 (by decide) ?_
    exact xe_i hx hb hr hlocks hP hS rfl rfl (by rw [fX8_flaw, if_neg c10] <;> rfl) (Nat.le_of_ble_eq_true rfl) (Nat.le_of_ble_eq_true rfl) dX8_flaw_14
def fX8_weight (M : Mem) (k : Nat) : Int32 := if (fX8_flaw M k) = 0 then (if (fX8_isOfHair M k) = 0 then (5 : Int32) else (M 127 (8 * k + 9))) else (0 : Int32)
set_option maxHeartbeats 4000000 in
set_option maxRecDepth 100000 in
theorem c_X8_weight (l : Launch) (D : va_G) (cy : Nat → ClassId) (b n : Nat) (hn : 133 ≤ n) (M : Mem) (k : Nat) (hk6 : k < 6) : Met l yX8_weight wsX8_weight ({ frames := 3, cells := 0, slots := 0, locals := 63 } : Room) (CP D cy b n fT M [.ref (b + 124), .int (nI (k))]) (CQi D cy b n fT (fX8_weight M k) M) 0 0 (fr b) := by
  refine Met.ofW (cc := cX8_weight) (maxL := 2) (ret := (some .int)) (by decide) rfl ?_
  intro p e s m args below meth c s₁ B hml hv
  obtain ⟨rfl, hP, hK, hX⟩ := hv
  have hx := B.exec
  have hb := B.bytes
  have hr := B.returns
  have hts := atoms_spec (ws := wsX8_weight) B.pre
  have hown : s.vm.findClass RX8 = some m.cls := findClass_of_methodNamed B.named
  have hlocks := B.notSynchronized
  have lk0 := hts (.fieldLink RX8 16 "HygrometerRoomModel" "now" "[I") (by decide +kernel)
  have inc8 : ∀ w ∈ u_ws RX8 TX8 22, w ∈ wsX8_weight := by decide +kernel
  have hS : va_S (fr b) s.heap s.heap [] := va_S.rf
  have hl := lv_entry ([.ref (b + 124), .int (nI (k))]) (n := 2) (Nat.le_of_ble_eq_true rfl)
  rw [lg_entry_eq]
  generalize (lg_sl ([.ref (b + 124), .int (nI (k))]) ++ List.replicate (2 - (lg_sl ([.ref (b + 124), .int (nI (k))])).length) Slot.unset).toArray = ls at hl ⊢
  have hl : lv_has ls 2 [(0, .ref (b + 124)), (1, .int (nI (k)))] := hl
  refine lv_aload_n hx hb dX8_weight_0 rfl (lv_at hl 0 rfl) ?_
  refine lv_iload_n hx hb dX8_weight_1 rfl (lv_at hl 1 rfl) ?_
  refine xc_i (va_runV (As := [.int (nI (k))]) (rest := []) ⟨hx, hb, hml, hown, hts⟩ (c_X8_flaw l D cy b n hn M k (by first | assumption | omega)) (cwV 1 hts gX8_weight_X8_flaw rfl rfl rfl (by decide +kernel) ⟨Nat.le_of_ble_eq_true rfl, Nat.le_of_ble_eq_true rfl⟩) (xPreV hP hK hX hS (by omega) (cell8 (by decide)) rfl) rfl rfl hl.1 rfl (lv_room (Nat.le_of_ble_eq_true rfl)) dX8_weight_2 ⟨Nat.le_of_ble_eq_true rfl, Nat.le_of_ble_eq_true rfl⟩) hS (fun H locs hP hS => ?_)
  refine lv_if_eq (tgt := 10) hx hb dX8_weight_5 (by decide) (fun c5 => ?_) (fun c5 => ?_)
  · refine lv_aload_n hx hb dX8_weight_10 rfl (lv_at hl 0 rfl) ?_
    refine lv_iload_n hx hb dX8_weight_11 rfl (lv_at hl 1 rfl) ?_
    refine xc_i (va_runV (As := [.int (nI (k))]) (rest := []) ⟨hx, hb, hml, hown, hts⟩ (c_X8_isOfHair l D cy b n hn M k (by first | assumption | omega)) (cwV 1 hts gX8_weight_X8_isOfHair rfl rfl rfl (by decide +kernel) ⟨Nat.le_of_ble_eq_true rfl, Nat.le_of_ble_eq_true rfl⟩) (xPreV hP hK hX hS (by omega) (cell8 (by decide)) rfl) rfl rfl hl.1 rfl (lv_room (Nat.le_of_ble_eq_true rfl)) dX8_weight_12 ⟨Nat.le_of_ble_eq_true rfl, Nat.le_of_ble_eq_true rfl⟩) hS (fun H locs hP hS => ?_)
    refine lv_if_eq (tgt := 30) hx hb dX8_weight_15 (by decide) (fun c15 => ?_) (fun c15 => ?_)
    · refine lv_iconst (v := 5) hx hb dX8_weight_30 (by decide) ?_
      exact xe_i hx hb hr hlocks hP hS rfl rfl (by rw [fX8_weight, if_pos c5, if_pos c15] <;> rfl) (Nat.le_of_ble_eq_true rfl) (Nat.le_of_ble_eq_true rfl) dX8_weight_31
    · refine lv_aload_n hx hb dX8_weight_18 rfl (lv_at hl 0 rfl) ?_
      refine xg (C := RX8) (T := TX8) (N := 22) (v := .ref (b + 127)) hx hb hts inc8 hown hK hP (by omega) (cell8 (by decide)) rfl 3 (by decide) lk0 (fun _ h => h) rfl dX8_weight_19 ?_
      refine lv_iload_n hx hb dX8_weight_22 rfl (lv_at hl 1 rfl) ?_
      refine xc_i (va_runS (As := [.int (nI (k))]) (rest := [.ref (b + 127)]) ⟨hx, hb, hml, hown, hts⟩ (c_X8_i l D cy b n hn M k) (va_cwS 1 hts gX8_weight_X8_i rfl rfl rfl (by decide +kernel) ⟨Nat.le_of_ble_eq_true rfl, Nat.le_of_ble_eq_true rfl⟩) (xPreS hP hK hX hS) rfl rfl hl.1 rfl (lv_room (Nat.le_of_ble_eq_true rfl)) dX8_weight_23 ⟨Nat.le_of_ble_eq_true rfl, Nat.le_of_ble_eq_true rfl⟩) hS (fun H locs hP hS => ?_)
      refine W.eq (g2 := F0 m 26 ls (.int (nI (8 * k + 8)) :: .ref (b + 127) :: [])) (congrArg (fun z => F0 m 26 ls (.int z :: .ref (b + 127) :: [])) (show fX8_i M k = nI (8 * k + 8) from by unfold fX8_i; exact congrArg nI (by omega))) ?_
      refine lv_iconst (v := 1) hx hb dX8_weight_26 (by decide) ?_
      refine xadd (z := nI (8 * k + 9)) hx hb (ixAdd (a := 8 * k + 8) (c := 1) (d := 8 * k + 9) rfl rfl (by omega)) dX8_weight_27 ?_
      refine xil (j := 8 * k + 9) hx hb hK hP (by omega) (by decide) (ixIn (a := 8 * k + 9) rfl (by first | decide | (simp only [lenOf]; omega) | omega) (by decide)) (ixAt (a := 8 * k + 9) rfl (by omega)) dX8_weight_28 ?_
      exact xe_i hx hb hr hlocks hP hS rfl rfl (by rw [fX8_weight, if_pos c5, if_neg c15] <;> rfl) (Nat.le_of_ble_eq_true rfl) (Nat.le_of_ble_eq_true rfl) dX8_weight_29
  · refine lv_iconst (v := 0) hx hb dX8_weight_8 (by decide) ?_
    exact xe_i hx hb hr hlocks hP hS rfl rfl (by rw [fX8_weight, if_neg c5] <;> rfl) (Nat.le_of_ble_eq_true rfl) (Nat.le_of_ble_eq_true rfl) dX8_weight_9
def fX8_hindrance (M : Mem) (k : Nat) : Int32 := if (fX8_isBoxed M k) = 0 then (1 : Int32) else (if (fX8_hasSettled M k) = 0 then (2 : Int32) else (0 : Int32))
set_option maxHeartbeats 4000000 in
set_option maxRecDepth 100000 in
theorem c_X8_hindrance (l : Launch) (D : va_G) (cy : Nat → ClassId) (b n : Nat) (hn : 133 ≤ n) (M : Mem) (k : Nat) (hk6 : k < 6) (hbx : BXS M) : Met l yX8_hindrance wsX8_hindrance ({ frames := 5, cells := 0, slots := 0, locals := 104 } : Room) (CP D cy b n fT M [.ref (b + 124), .int (nI (k))]) (CQi D cy b n fT (fX8_hindrance M k) M) 0 0 (fr b) := by
  refine Met.ofW (cc := cX8_hindrance) (maxL := 2) (ret := (some .int)) (by decide) rfl ?_
  intro p e s m args below meth c s₁ B hml hv
  obtain ⟨rfl, hP, hK, hX⟩ := hv
  have hx := B.exec
  have hb := B.bytes
  have hr := B.returns
  have hts := atoms_spec (ws := wsX8_hindrance) B.pre
  have hown : s.vm.findClass RX8 = some m.cls := findClass_of_methodNamed B.named
  have hlocks := B.notSynchronized
  have hS : va_S (fr b) s.heap s.heap [] := va_S.rf
  have hl := lv_entry ([.ref (b + 124), .int (nI (k))]) (n := 2) (Nat.le_of_ble_eq_true rfl)
  rw [lg_entry_eq]
  generalize (lg_sl ([.ref (b + 124), .int (nI (k))]) ++ List.replicate (2 - (lg_sl ([.ref (b + 124), .int (nI (k))])).length) Slot.unset).toArray = ls at hl ⊢
  have hl : lv_has ls 2 [(0, .ref (b + 124)), (1, .int (nI (k)))] := hl
  refine lv_aload_n hx hb dX8_hindrance_0 rfl (lv_at hl 0 rfl) ?_
  refine lv_iload_n hx hb dX8_hindrance_1 rfl (lv_at hl 1 rfl) ?_
  refine xc_i (va_runV (As := [.int (nI (k))]) (rest := []) ⟨hx, hb, hml, hown, hts⟩ (c_X8_isBoxed l D cy b n hn M k (by first | assumption | omega)) (cwV 1 hts gX8_hindrance_X8_isBoxed rfl rfl rfl (by decide +kernel) ⟨Nat.le_of_ble_eq_true rfl, Nat.le_of_ble_eq_true rfl⟩) (xPreV hP hK hX hS (by omega) (cell8 (by decide)) rfl) rfl rfl hl.1 rfl (lv_room (Nat.le_of_ble_eq_true rfl)) dX8_hindrance_2 ⟨Nat.le_of_ble_eq_true rfl, Nat.le_of_ble_eq_true rfl⟩) hS (fun H locs hP hS => ?_)
  refine lv_if_ne (tgt := 10) hx hb dX8_hindrance_5 (by decide) (fun c5 => ?_) (fun c5 => ?_)
  · refine lv_aload_n hx hb dX8_hindrance_10 rfl (lv_at hl 0 rfl) ?_
    refine lv_iload_n hx hb dX8_hindrance_11 rfl (lv_at hl 1 rfl) ?_
    refine xc_i (va_runV (As := [.int (nI (k))]) (rest := []) ⟨hx, hb, hml, hown, hts⟩ (c_X8_hasSettled l D cy b n hn M k (by first | assumption | omega) (by first | assumption | omega)) (cwV 1 hts gX8_hindrance_X8_hasSettled rfl rfl rfl (by decide +kernel) ⟨Nat.le_of_ble_eq_true rfl, Nat.le_of_ble_eq_true rfl⟩) (xPreV hP hK hX hS (by omega) (cell8 (by decide)) rfl) rfl rfl hl.1 rfl (lv_room (Nat.le_of_ble_eq_true rfl)) dX8_hindrance_12 ⟨Nat.le_of_ble_eq_true rfl, Nat.le_of_ble_eq_true rfl⟩) hS (fun H locs hP hS => ?_)
    refine lv_if_ne (tgt := 20) hx hb dX8_hindrance_15 (by decide) (fun c15 => ?_) (fun c15 => ?_)
    · refine lv_iconst (v := 0) hx hb dX8_hindrance_20 (by decide) ?_
      exact xe_i hx hb hr hlocks hP hS rfl rfl (by rw [fX8_hindrance, if_neg c5, if_neg c15] <;> rfl) (Nat.le_of_ble_eq_true rfl) (Nat.le_of_ble_eq_true rfl) dX8_hindrance_21
    · refine lv_iconst (v := 2) hx hb dX8_hindrance_18 (by decide) ?_
      exact xe_i hx hb hr hlocks hP hS rfl rfl (by rw [fX8_hindrance, if_neg c5, if_pos c15] <;> rfl) (Nat.le_of_ble_eq_true rfl) (Nat.le_of_ble_eq_true rfl) dX8_hindrance_19
  · refine lv_iconst (v := 1) hx hb dX8_hindrance_8 (by decide) ?_
    exact xe_i hx hb hr hlocks hP hS rfl rfl (by rw [fX8_hindrance, if_pos c5] <;> rfl) (Nat.le_of_ble_eq_true rfl) (Nat.le_of_ble_eq_true rfl) dX8_hindrance_9
def gX8_soaks (M : Mem) (k : Nat) : Mem := if ((fX8_around M k) - (M 127 (8 * k + 11))) ≤ ((1 : Int32) + ((20 : Int32) / (M 127 (8 * k + 9)))) then (if (-((1 : Int32) + ((20 : Int32) / (M 127 (8 * k + 9))))) ≤ ((fX8_around M k) - (M 127 (8 * k + 11))) then (mU M 127 (8 * k + 11) ((M 127 (8 * k + 11)) + ((fX8_around M k) - (M 127 (8 * k + 11))))) else (mU M 127 (8 * k + 11) ((M 127 (8 * k + 11)) + (-((1 : Int32) + ((20 : Int32) / (M 127 (8 * k + 9)))))))) else (if (-((1 : Int32) + ((20 : Int32) / (M 127 (8 * k + 9))))) ≤ ((1 : Int32) + ((20 : Int32) / (M 127 (8 * k + 9)))) then (mU M 127 (8 * k + 11) ((M 127 (8 * k + 11)) + ((1 : Int32) + ((20 : Int32) / (M 127 (8 * k + 9)))))) else (mU M 127 (8 * k + 11) ((M 127 (8 * k + 11)) + (-((1 : Int32) + ((20 : Int32) / (M 127 (8 * k + 9))))))))
set_option maxHeartbeats 4000000 in
set_option maxRecDepth 100000 in
theorem c_X8_soaks (l : Launch) (D : va_G) (cy : Nat → ClassId) (b n : Nat) (hn : 133 ≤ n) (M : Mem) (k : Nat) (hk6 : k < 6) (hbx : BXS M) (hne : ¬ M 127 (8 * k + 9) = 0) : Met l yX8_soaks wsX8_soaks ({ frames := 3, cells := 0, slots := 0, locals := 62 } : Room) (CP D cy b n fT M [.ref (b + 124), .int (nI (k))]) (CQv D cy b n fT (gX8_soaks M k)) 0 0 (fr b) := by
  refine Met.ofW (cc := cX8_soaks) (maxL := 5) (ret := none) (by decide) rfl ?_
  intro p e s m args below meth c s₁ B hml hv
  obtain ⟨rfl, hP, hK, hX⟩ := hv
  have hx := B.exec
  have hb := B.bytes
  have hr := B.returns
  have hts := atoms_spec (ws := wsX8_soaks) B.pre
  have hown : s.vm.findClass RX8 = some m.cls := findClass_of_methodNamed B.named
  have hlocks := B.notSynchronized
  have lk0 := hts (.fieldLink RX8 16 "HygrometerRoomModel" "now" "[I") (by decide +kernel)
  have inc8 : ∀ w ∈ u_ws RX8 TX8 22, w ∈ wsX8_soaks := by decide +kernel
  have hS : va_S (fr b) s.heap s.heap [] := va_S.rf
  have hl := lv_entry ([.ref (b + 124), .int (nI (k))]) (n := 5) (Nat.le_of_ble_eq_true rfl)
  rw [lg_entry_eq]
  generalize (lg_sl ([.ref (b + 124), .int (nI (k))]) ++ List.replicate (5 - (lg_sl ([.ref (b + 124), .int (nI (k))])).length) Slot.unset).toArray = ls at hl ⊢
  have hl : lv_has ls 5 [(0, .ref (b + 124)), (1, .int (nI (k)))] := hl
  refine lv_iload_n hx hb dX8_soaks_0 rfl (lv_at hl 1 rfl) ?_
  refine xc_i (va_runS (As := [.int (nI (k))]) (rest := []) ⟨hx, hb, hml, hown, hts⟩ (c_X8_i l D cy b n hn M k) (va_cwS 1 hts gX8_soaks_X8_i rfl rfl rfl (by decide +kernel) ⟨Nat.le_of_ble_eq_true rfl, Nat.le_of_ble_eq_true rfl⟩) (xPreS hP hK hX hS) rfl rfl hl.1 rfl (lv_room (Nat.le_of_ble_eq_true rfl)) dX8_soaks_1 ⟨Nat.le_of_ble_eq_true rfl, Nat.le_of_ble_eq_true rfl⟩) hS (fun H locs hP hS => ?_)
  refine W.eq (g2 := F0 m 4 ls (.int (nI (8 * k + 8)) :: [])) (congrArg (fun z => F0 m 4 ls (.int z :: [])) (show fX8_i M k = nI (8 * k + 8) from by unfold fX8_i; exact congrArg nI (by omega))) ?_
  refine lv_istore_n (lv' := [(2, .int (nI (8 * k + 8))), (0, .ref (b + 124)), (1, .int (nI (k)))]) hx hb dX8_soaks_4 rfl hl (by decide) rfl (fun ls hl => ?_)
  refine lv_iconst (v := 1) hx hb dX8_soaks_5 (by decide) ?_
  refine lv_bipush (v := 20) hx hb dX8_soaks_6 (by decide) ?_
  refine lv_aload_n hx hb dX8_soaks_8 rfl (lv_at hl 1 rfl) ?_
  refine xg (C := RX8) (T := TX8) (N := 22) (v := .ref (b + 127)) hx hb hts inc8 hown hK hP (by omega) (cell8 (by decide)) rfl 3 (by decide) lk0 (fun _ h => h) rfl dX8_soaks_9 ?_
  refine lv_iload_n hx hb dX8_soaks_12 rfl (lv_at hl 0 rfl) ?_
  refine lv_iconst (v := 1) hx hb dX8_soaks_13 (by decide) ?_
  refine xadd (z := nI (8 * k + 9)) hx hb (ixAdd (a := 8 * k + 8) (c := 1) (d := 8 * k + 9) rfl rfl (by omega)) dX8_soaks_14 ?_
  refine xil (j := 8 * k + 9) hx hb hK hP (by omega) (by decide) (ixIn (a := 8 * k + 9) rfl (by first | decide | (simp only [lenOf]; omega) | omega) (by decide)) (ixAt (a := 8 * k + 9) rfl (by omega)) dX8_soaks_15 ?_
  refine lv_idiv hx hb dX8_soaks_16 hne ?_
  refine lv_iadd hx hb dX8_soaks_17 ?_
  refine lv_istore_n (lv' := [(3, .int ((1 : Int32) + ((20 : Int32) / (M 127 (8 * k + 9))))), (2, .int (nI (8 * k + 8))), (0, .ref (b + 124)), (1, .int (nI (k)))]) hx hb dX8_soaks_18 rfl hl (by decide) rfl (fun ls hl => ?_)
  refine lv_aload_n hx hb dX8_soaks_19 rfl (lv_at hl 2 rfl) ?_
  refine lv_iload_n hx hb dX8_soaks_20 rfl (lv_at hl 3 rfl) ?_
  refine xc_i (va_runV (As := [.int (nI (k))]) (rest := []) ⟨hx, hb, hml, hown, hts⟩ (c_X8_around l D cy b n hn M k (by first | assumption | omega) (by first | assumption | omega)) (cwV 1 hts gX8_soaks_X8_around rfl rfl rfl (by decide +kernel) ⟨Nat.le_of_ble_eq_true rfl, Nat.le_of_ble_eq_true rfl⟩) (xPreV hP hK hX hS (by omega) (cell8 (by decide)) rfl) rfl rfl hl.1 rfl (lv_room (Nat.le_of_ble_eq_true rfl)) dX8_soaks_21 ⟨Nat.le_of_ble_eq_true rfl, Nat.le_of_ble_eq_true rfl⟩) hS (fun H locs hP hS => ?_)
  refine lv_aload_n hx hb dX8_soaks_24 rfl (lv_at hl 2 rfl) ?_
  refine xg (C := RX8) (T := TX8) (N := 22) (v := .ref (b + 127)) hx hb hts inc8 hown hK hP (by omega) (cell8 (by decide)) rfl 3 (by decide) lk0 (fun _ h => h) rfl dX8_soaks_25 ?_
  refine lv_iload_n hx hb dX8_soaks_28 rfl (lv_at hl 1 rfl) ?_
  refine lv_iconst (v := 3) hx hb dX8_soaks_29 (by decide) ?_
  refine xadd (z := nI (8 * k + 11)) hx hb (ixAdd (a := 8 * k + 8) (c := 3) (d := 8 * k + 11) rfl rfl (by omega)) dX8_soaks_30 ?_
  refine xil (j := 8 * k + 11) hx hb hK hP (by omega) (by decide) (ixIn (a := 8 * k + 11) rfl (by first | decide | (simp only [lenOf]; omega) | omega) (by decide)) (ixAt (a := 8 * k + 11) rfl (by omega)) dX8_soaks_31 ?_
  refine lv_isub hx hb dX8_soaks_32 ?_
  refine lv_istore (lv' := [(4, .int ((fX8_around M k) - (M 127 (8 * k + 11)))), (3, .int ((1 : Int32) + ((20 : Int32) / (M 127 (8 * k + 9))))), (2, .int (nI (8 * k + 8))), (0, .ref (b + 124)), (1, .int (nI (k)))]) hx hb dX8_soaks_33 hl (by decide) rfl (fun ls hl => ?_)
  refine lv_iload hx hb dX8_soaks_35 (lv_at hl 0 rfl) ?_
  refine lv_iload_n hx hb dX8_soaks_37 rfl (lv_at hl 1 rfl) ?_
  refine lv_icmp_le (tgt := 44) hx hb dX8_soaks_38 (by decide) (fun c38 => ?_) (fun c38 => ?_)
  · refine lv_iload hx hb dX8_soaks_44 (lv_at hl 0 rfl) ?_
    refine lv_iload_n hx hb dX8_soaks_46 rfl (lv_at hl 1 rfl) ?_
    refine lv_ineg hx hb dX8_soaks_47 ?_
    refine lv_icmp_ge (tgt := 55) hx hb dX8_soaks_48 (by decide) (fun c48 => ?_) (fun c48 => ?_)
    · refine lv_aload_n hx hb dX8_soaks_55 rfl (lv_at hl 3 rfl) ?_
      refine xg (C := RX8) (T := TX8) (N := 22) (v := .ref (b + 127)) hx hb hts inc8 hown hK hP (by omega) (cell8 (by decide)) rfl 3 (by decide) lk0 (fun _ h => h) rfl dX8_soaks_56 ?_
      refine lv_iload_n hx hb dX8_soaks_59 rfl (lv_at hl 2 rfl) ?_
      refine lv_iconst (v := 3) hx hb dX8_soaks_60 (by decide) ?_
      refine xadd (z := nI (8 * k + 11)) hx hb (ixAdd (a := 8 * k + 8) (c := 3) (d := 8 * k + 11) rfl rfl (by omega)) dX8_soaks_61 ?_
      refine lv_dup2_11 hx hb dX8_soaks_62 rfl rfl ?_
      refine xil (j := 8 * k + 11) hx hb hK hP (by omega) (by decide) (ixIn (a := 8 * k + 11) rfl (by first | decide | (simp only [lenOf]; omega) | omega) (by decide)) (ixAt (a := 8 * k + 11) rfl (by omega)) dX8_soaks_63 ?_
      refine lv_iload hx hb dX8_soaks_64 (lv_at hl 0 rfl) ?_
      refine lv_iadd hx hb dX8_soaks_66 ?_
      refine xis (j := 8 * k + 11) (x := (M 127 (8 * k + 11)) + ((fX8_around M k) - (M 127 (8 * k + 11)))) hx hb hK hP hS (by omega) (by decide) (ixIn (a := 8 * k + 11) rfl (by first | decide | (simp only [lenOf]; omega) | omega) (by decide)) (ixAt (a := 8 * k + 11) rfl (by omega)) dX8_soaks_67 (fun H locs hP hS => ?_)
      exact xe_v hx hb hr hlocks hP hS rfl (by rw [gX8_soaks, if_pos c38, if_pos c48] <;> rfl) (Nat.le_of_ble_eq_true rfl) (Nat.le_of_ble_eq_true rfl) dX8_soaks_68
    · refine lv_iload_n hx hb dX8_soaks_51 rfl (lv_at hl 1 rfl) ?_
      refine lv_ineg hx hb dX8_soaks_52 ?_
      refine lv_istore (lv' := [(4, .int (-((1 : Int32) + ((20 : Int32) / (M 127 (8 * k + 9)))))), (3, .int ((1 : Int32) + ((20 : Int32) / (M 127 (8 * k + 9))))), (2, .int (nI (8 * k + 8))), (0, .ref (b + 124)), (1, .int (nI (k)))]) hx hb dX8_soaks_53 hl (by decide) rfl (fun ls hl => ?_)
      refine lv_aload_n hx hb dX8_soaks_55 rfl (lv_at hl 3 rfl) ?_
      refine xg (C := RX8) (T := TX8) (N := 22) (v := .ref (b + 127)) hx hb hts inc8 hown hK hP (by omega) (cell8 (by decide)) rfl 3 (by decide) lk0 (fun _ h => h) rfl dX8_soaks_56 ?_
      refine lv_iload_n hx hb dX8_soaks_59 rfl (lv_at hl 2 rfl) ?_
      refine lv_iconst (v := 3) hx hb dX8_soaks_60 (by decide) ?_
      refine xadd (z := nI (8 * k + 11)) hx hb (ixAdd (a := 8 * k + 8) (c := 3) (d := 8 * k + 11) rfl rfl (by omega)) dX8_soaks_61 ?_
      refine lv_dup2_11 hx hb dX8_soaks_62 rfl rfl ?_
      refine xil (j := 8 * k + 11) hx hb hK hP (by omega) (by decide) (ixIn (a := 8 * k + 11) rfl (by first | decide | (simp only [lenOf]; omega) | omega) (by decide)) (ixAt (a := 8 * k + 11) rfl (by omega)) dX8_soaks_63 ?_
      refine lv_iload hx hb dX8_soaks_64 (lv_at hl 0 rfl) ?_
      refine lv_iadd hx hb dX8_soaks_66 ?_
      refine xis (j := 8 * k + 11) (x := (M 127 (8 * k + 11)) + (-((1 : Int32) + ((20 : Int32) / (M 127 (8 * k + 9)))))) hx hb hK hP hS (by omega) (by decide) (ixIn (a := 8 * k + 11) rfl (by first | decide | (simp only [lenOf]; omega) | omega) (by decide)) (ixAt (a := 8 * k + 11) rfl (by omega)) dX8_soaks_67 (fun H locs hP hS => ?_)
      exact xe_v hx hb hr hlocks hP hS rfl (by rw [gX8_soaks, if_pos c38, if_neg c48] <;> rfl) (Nat.le_of_ble_eq_true rfl) (Nat.le_of_ble_eq_true rfl) dX8_soaks_68
  · refine lv_iload_n hx hb dX8_soaks_41 rfl (lv_at hl 1 rfl) ?_
    refine lv_istore (lv' := [(4, .int ((1 : Int32) + ((20 : Int32) / (M 127 (8 * k + 9))))), (3, .int ((1 : Int32) + ((20 : Int32) / (M 127 (8 * k + 9))))), (2, .int (nI (8 * k + 8))), (0, .ref (b + 124)), (1, .int (nI (k)))]) hx hb dX8_soaks_42 hl (by decide) rfl (fun ls hl => ?_)
    refine lv_iload hx hb dX8_soaks_44 (lv_at hl 0 rfl) ?_
    refine lv_iload_n hx hb dX8_soaks_46 rfl (lv_at hl 1 rfl) ?_
    refine lv_ineg hx hb dX8_soaks_47 ?_
    refine lv_icmp_ge (tgt := 55) hx hb dX8_soaks_48 (by decide) (fun c48 => ?_) (fun c48 => ?_)
    · refine lv_aload_n hx hb dX8_soaks_55 rfl (lv_at hl 3 rfl) ?_
      refine xg (C := RX8) (T := TX8) (N := 22) (v := .ref (b + 127)) hx hb hts inc8 hown hK hP (by omega) (cell8 (by decide)) rfl 3 (by decide) lk0 (fun _ h => h) rfl dX8_soaks_56 ?_
      refine lv_iload_n hx hb dX8_soaks_59 rfl (lv_at hl 2 rfl) ?_
      refine lv_iconst (v := 3) hx hb dX8_soaks_60 (by decide) ?_
      refine xadd (z := nI (8 * k + 11)) hx hb (ixAdd (a := 8 * k + 8) (c := 3) (d := 8 * k + 11) rfl rfl (by omega)) dX8_soaks_61 ?_
      refine lv_dup2_11 hx hb dX8_soaks_62 rfl rfl ?_
      refine xil (j := 8 * k + 11) hx hb hK hP (by omega) (by decide) (ixIn (a := 8 * k + 11) rfl (by first | decide | (simp only [lenOf]; omega) | omega) (by decide)) (ixAt (a := 8 * k + 11) rfl (by omega)) dX8_soaks_63 ?_
      refine lv_iload hx hb dX8_soaks_64 (lv_at hl 0 rfl) ?_
      refine lv_iadd hx hb dX8_soaks_66 ?_
      refine xis (j := 8 * k + 11) (x := (M 127 (8 * k + 11)) + ((1 : Int32) + ((20 : Int32) / (M 127 (8 * k + 9))))) hx hb hK hP hS (by omega) (by decide) (ixIn (a := 8 * k + 11) rfl (by first | decide | (simp only [lenOf]; omega) | omega) (by decide)) (ixAt (a := 8 * k + 11) rfl (by omega)) dX8_soaks_67 (fun H locs hP hS => ?_)
      exact xe_v hx hb hr hlocks hP hS rfl (by rw [gX8_soaks, if_neg c38, if_pos c48] <;> rfl) (Nat.le_of_ble_eq_true rfl) (Nat.le_of_ble_eq_true rfl) dX8_soaks_68
    · refine lv_iload_n hx hb dX8_soaks_51 rfl (lv_at hl 1 rfl) ?_
      refine lv_ineg hx hb dX8_soaks_52 ?_
      refine lv_istore (lv' := [(4, .int (-((1 : Int32) + ((20 : Int32) / (M 127 (8 * k + 9)))))), (3, .int ((1 : Int32) + ((20 : Int32) / (M 127 (8 * k + 9))))), (2, .int (nI (8 * k + 8))), (0, .ref (b + 124)), (1, .int (nI (k)))]) hx hb dX8_soaks_53 hl (by decide) rfl (fun ls hl => ?_)
      refine lv_aload_n hx hb dX8_soaks_55 rfl (lv_at hl 3 rfl) ?_
      refine xg (C := RX8) (T := TX8) (N := 22) (v := .ref (b + 127)) hx hb hts inc8 hown hK hP (by omega) (cell8 (by decide)) rfl 3 (by decide) lk0 (fun _ h => h) rfl dX8_soaks_56 ?_
      refine lv_iload_n hx hb dX8_soaks_59 rfl (lv_at hl 2 rfl) ?_
      refine lv_iconst (v := 3) hx hb dX8_soaks_60 (by decide) ?_
      refine xadd (z := nI (8 * k + 11)) hx hb (ixAdd (a := 8 * k + 8) (c := 3) (d := 8 * k + 11) rfl rfl (by omega)) dX8_soaks_61 ?_
      refine lv_dup2_11 hx hb dX8_soaks_62 rfl rfl ?_
      refine xil (j := 8 * k + 11) hx hb hK hP (by omega) (by decide) (ixIn (a := 8 * k + 11) rfl (by first | decide | (simp only [lenOf]; omega) | omega) (by decide)) (ixAt (a := 8 * k + 11) rfl (by omega)) dX8_soaks_63 ?_
      refine lv_iload hx hb dX8_soaks_64 (lv_at hl 0 rfl) ?_
      refine lv_iadd hx hb dX8_soaks_66 ?_
      refine xis (j := 8 * k + 11) (x := (M 127 (8 * k + 11)) + (-((1 : Int32) + ((20 : Int32) / (M 127 (8 * k + 9)))))) hx hb hK hP hS (by omega) (by decide) (ixIn (a := 8 * k + 11) rfl (by first | decide | (simp only [lenOf]; omega) | omega) (by decide)) (ixAt (a := 8 * k + 11) rfl (by omega)) dX8_soaks_67 (fun H locs hP hS => ?_)
      exact xe_v hx hb hr hlocks hP hS rfl (by rw [gX8_soaks, if_neg c38, if_neg c48] <;> rfl) (Nat.le_of_ble_eq_true rfl) (Nat.le_of_ble_eq_true rfl) dX8_soaks_68
def gX8_ages (M : Mem) (k : Nat) : Mem := if (fX8_isOfHair M k) = 0 then (if (M 127 (8 * k + 13)) ≤ 0 then M else (mU M 127 (8 * k + 13) ((M 127 (8 * k + 13)) - (1 : Int32)))) else (if (M 127 (8 * k + 9)) ≤ 0 then M else (gX8_soaks M k))
set_option maxHeartbeats 4000000 in
set_option maxRecDepth 100000 in
theorem c_X8_ages (l : Launch) (D : va_G) (cy : Nat → ClassId) (b n : Nat) (hn : 133 ≤ n) (M : Mem) (k : Nat) (hk6 : k < 6) (hbx : BXS M) : Met l yX8_ages wsX8_ages ({ frames := 4, cells := 0, slots := 0, locals := 86 } : Room) (CP D cy b n fT M [.ref (b + 124), .int (nI (k))]) (CQv D cy b n fT (gX8_ages M k)) 0 0 (fr b) := by
  refine Met.ofW (cc := cX8_ages) (maxL := 3) (ret := none) (by decide) rfl ?_
  intro p e s m args below meth c s₁ B hml hv
  obtain ⟨rfl, hP, hK, hX⟩ := hv
  have hx := B.exec
  have hb := B.bytes
  have hr := B.returns
  have hts := atoms_spec (ws := wsX8_ages) B.pre
  have hown : s.vm.findClass RX8 = some m.cls := findClass_of_methodNamed B.named
  have hlocks := B.notSynchronized
  have lk0 := hts (.fieldLink RX8 16 "HygrometerRoomModel" "now" "[I") (by decide +kernel)
  have inc8 : ∀ w ∈ u_ws RX8 TX8 22, w ∈ wsX8_ages := by decide +kernel
  have hS : va_S (fr b) s.heap s.heap [] := va_S.rf
  have hl := lv_entry ([.ref (b + 124), .int (nI (k))]) (n := 3) (Nat.le_of_ble_eq_true rfl)
  rw [lg_entry_eq]
  generalize (lg_sl ([.ref (b + 124), .int (nI (k))]) ++ List.replicate (3 - (lg_sl ([.ref (b + 124), .int (nI (k))])).length) Slot.unset).toArray = ls at hl ⊢
  have hl : lv_has ls 3 [(0, .ref (b + 124)), (1, .int (nI (k)))] := hl
  refine lv_iload_n hx hb dX8_ages_0 rfl (lv_at hl 1 rfl) ?_
  refine xc_i (va_runS (As := [.int (nI (k))]) (rest := []) ⟨hx, hb, hml, hown, hts⟩ (c_X8_i l D cy b n hn M k) (va_cwS 1 hts gX8_ages_X8_i rfl rfl rfl (by decide +kernel) ⟨Nat.le_of_ble_eq_true rfl, Nat.le_of_ble_eq_true rfl⟩) (xPreS hP hK hX hS) rfl rfl hl.1 rfl (lv_room (Nat.le_of_ble_eq_true rfl)) dX8_ages_1 ⟨Nat.le_of_ble_eq_true rfl, Nat.le_of_ble_eq_true rfl⟩) hS (fun H locs hP hS => ?_)
  refine W.eq (g2 := F0 m 4 ls (.int (nI (8 * k + 8)) :: [])) (congrArg (fun z => F0 m 4 ls (.int z :: [])) (show fX8_i M k = nI (8 * k + 8) from by unfold fX8_i; exact congrArg nI (by omega))) ?_
  refine lv_istore_n (lv' := [(2, .int (nI (8 * k + 8))), (0, .ref (b + 124)), (1, .int (nI (k)))]) hx hb dX8_ages_4 rfl hl (by decide) rfl (fun ls hl => ?_)
  refine lv_aload_n hx hb dX8_ages_5 rfl (lv_at hl 1 rfl) ?_
  refine lv_iload_n hx hb dX8_ages_6 rfl (lv_at hl 2 rfl) ?_
  refine xc_i (va_runV (As := [.int (nI (k))]) (rest := []) ⟨hx, hb, hml, hown, hts⟩ (c_X8_isOfHair l D cy b n hn M k (by first | assumption | omega)) (cwV 1 hts gX8_ages_X8_isOfHair rfl rfl rfl (by decide +kernel) ⟨Nat.le_of_ble_eq_true rfl, Nat.le_of_ble_eq_true rfl⟩) (xPreV hP hK hX hS (by omega) (cell8 (by decide)) rfl) rfl rfl hl.1 rfl (lv_room (Nat.le_of_ble_eq_true rfl)) dX8_ages_7 ⟨Nat.le_of_ble_eq_true rfl, Nat.le_of_ble_eq_true rfl⟩) hS (fun H locs hP hS => ?_)
  refine lv_if_eq (tgt := 32) hx hb dX8_ages_10 (by decide) (fun c10 => ?_) (fun c10 => ?_)
  · refine lv_aload_n hx hb dX8_ages_32 rfl (lv_at hl 1 rfl) ?_
    refine xg (C := RX8) (T := TX8) (N := 22) (v := .ref (b + 127)) hx hb hts inc8 hown hK hP (by omega) (cell8 (by decide)) rfl 3 (by decide) lk0 (fun _ h => h) rfl dX8_ages_33 ?_
    refine lv_iload_n hx hb dX8_ages_36 rfl (lv_at hl 0 rfl) ?_
    refine lv_iconst (v := 5) hx hb dX8_ages_37 (by decide) ?_
    refine xadd (z := nI (8 * k + 13)) hx hb (ixAdd (a := 8 * k + 8) (c := 5) (d := 8 * k + 13) rfl rfl (by omega)) dX8_ages_38 ?_
    refine xil (j := 8 * k + 13) hx hb hK hP (by omega) (by decide) (ixIn (a := 8 * k + 13) rfl (by first | decide | (simp only [lenOf]; omega) | omega) (by decide)) (ixAt (a := 8 * k + 13) rfl (by omega)) dX8_ages_39 ?_
    refine lv_if_le (tgt := 55) hx hb dX8_ages_40 (by decide) (fun c40 => ?_) (fun c40 => ?_)
    · exact xe_v hx hb hr hlocks hP hS rfl (by rw [gX8_ages, if_pos c10, if_pos c40] <;> rfl) (Nat.le_of_ble_eq_true rfl) (Nat.le_of_ble_eq_true rfl) dX8_ages_55
    · refine lv_aload_n hx hb dX8_ages_43 rfl (lv_at hl 1 rfl) ?_
      refine xg (C := RX8) (T := TX8) (N := 22) (v := .ref (b + 127)) hx hb hts inc8 hown hK hP (by omega) (cell8 (by decide)) rfl 3 (by decide) lk0 (fun _ h => h) rfl dX8_ages_44 ?_
      refine lv_iload_n hx hb dX8_ages_47 rfl (lv_at hl 0 rfl) ?_
      refine lv_iconst (v := 5) hx hb dX8_ages_48 (by decide) ?_
      refine xadd (z := nI (8 * k + 13)) hx hb (ixAdd (a := 8 * k + 8) (c := 5) (d := 8 * k + 13) rfl rfl (by omega)) dX8_ages_49 ?_
      refine lv_dup2_11 hx hb dX8_ages_50 rfl rfl ?_
      refine xil (j := 8 * k + 13) hx hb hK hP (by omega) (by decide) (ixIn (a := 8 * k + 13) rfl (by first | decide | (simp only [lenOf]; omega) | omega) (by decide)) (ixAt (a := 8 * k + 13) rfl (by omega)) dX8_ages_51 ?_
      refine lv_iconst (v := 1) hx hb dX8_ages_52 (by decide) ?_
      refine lv_isub hx hb dX8_ages_53 ?_
      refine xis (j := 8 * k + 13) (x := (M 127 (8 * k + 13)) - (1 : Int32)) hx hb hK hP hS (by omega) (by decide) (ixIn (a := 8 * k + 13) rfl (by first | decide | (simp only [lenOf]; omega) | omega) (by decide)) (ixAt (a := 8 * k + 13) rfl (by omega)) dX8_ages_54 (fun H locs hP hS => ?_)
      exact xe_v hx hb hr hlocks hP hS rfl (by rw [gX8_ages, if_pos c10, if_neg c40] <;> rfl) (Nat.le_of_ble_eq_true rfl) (Nat.le_of_ble_eq_true rfl) dX8_ages_55
  · refine lv_aload_n hx hb dX8_ages_13 rfl (lv_at hl 1 rfl) ?_
    refine xg (C := RX8) (T := TX8) (N := 22) (v := .ref (b + 127)) hx hb hts inc8 hown hK hP (by omega) (cell8 (by decide)) rfl 3 (by decide) lk0 (fun _ h => h) rfl dX8_ages_14 ?_
    refine lv_iload_n hx hb dX8_ages_17 rfl (lv_at hl 0 rfl) ?_
    refine lv_iconst (v := 1) hx hb dX8_ages_18 (by decide) ?_
    refine xadd (z := nI (8 * k + 9)) hx hb (ixAdd (a := 8 * k + 8) (c := 1) (d := 8 * k + 9) rfl rfl (by omega)) dX8_ages_19 ?_
    refine xil (j := 8 * k + 9) hx hb hK hP (by omega) (by decide) (ixIn (a := 8 * k + 9) rfl (by first | decide | (simp only [lenOf]; omega) | omega) (by decide)) (ixAt (a := 8 * k + 9) rfl (by omega)) dX8_ages_20 ?_
    refine lv_if_le (tgt := 55) hx hb dX8_ages_21 (by decide) (fun c21 => ?_) (fun c21 => ?_)
    · exact xe_v hx hb hr hlocks hP hS rfl (by rw [gX8_ages, if_neg c10, if_pos c21] <;> rfl) (Nat.le_of_ble_eq_true rfl) (Nat.le_of_ble_eq_true rfl) dX8_ages_55
    · refine lv_aload_n hx hb dX8_ages_24 rfl (lv_at hl 1 rfl) ?_
      refine lv_iload_n hx hb dX8_ages_25 rfl (lv_at hl 2 rfl) ?_
      refine xc_v (va_runV (As := [.int (nI (k))]) (rest := []) ⟨hx, hb, hml, hown, hts⟩ (c_X8_soaks l D cy b n hn M k hk6 hbx (fun e => c21 (by rw [e]; decide))) (cwV 1 hts gX8_ages_X8_soaks rfl rfl rfl (by decide +kernel) ⟨Nat.le_of_ble_eq_true rfl, Nat.le_of_ble_eq_true rfl⟩) (xPreV hP hK hX hS (by omega) (cell8 (by decide)) rfl) rfl rfl hl.1 rfl (lv_room (Nat.le_of_ble_eq_true rfl)) dX8_ages_26 ⟨Nat.le_of_ble_eq_true rfl, Nat.le_of_ble_eq_true rfl⟩) hS (fun H locs hP hS => ?_)
      refine lv_goto (tgt := 55) hx hb dX8_ages_29 (by decide) ?_
      exact xe_v hx hb hr hlocks hP hS rfl (by rw [gX8_ages, if_neg c10, if_neg c21] <;> rfl) (Nat.le_of_ble_eq_true rfl) (Nat.le_of_ble_eq_true rfl) dX8_ages_55
def gX8_slackens (M : Mem) (k : Nat) : Mem := if (fX8_isOfHair M k) = 0 then M else (if (50 : Int32) ≤ (M 127 (8 * k + 12)) then M else (mU M 127 (8 * k + 12) ((M 127 (8 * k + 12)) + (1 : Int32))))
set_option maxHeartbeats 4000000 in
set_option maxRecDepth 100000 in
theorem c_X8_slackens (l : Launch) (D : va_G) (cy : Nat → ClassId) (b n : Nat) (hn : 133 ≤ n) (M : Mem) (k : Nat) (hk6 : k < 6) : Met l yX8_slackens wsX8_slackens ({ frames := 2, cells := 0, slots := 0, locals := 41 } : Room) (CP D cy b n fT M [.ref (b + 124), .int (nI (k))]) (CQv D cy b n fT (gX8_slackens M k)) 0 0 (fr b) := by
  refine Met.ofW (cc := cX8_slackens) (maxL := 2) (ret := none) (by decide) rfl ?_
  intro p e s m args below meth c s₁ B hml hv
  obtain ⟨rfl, hP, hK, hX⟩ := hv
  have hx := B.exec
  have hb := B.bytes
  have hr := B.returns
  have hts := atoms_spec (ws := wsX8_slackens) B.pre
  have hown : s.vm.findClass RX8 = some m.cls := findClass_of_methodNamed B.named
  have hlocks := B.notSynchronized
  have lk0 := hts (.fieldLink RX8 16 "HygrometerRoomModel" "now" "[I") (by decide +kernel)
  have inc8 : ∀ w ∈ u_ws RX8 TX8 22, w ∈ wsX8_slackens := by decide +kernel
  have hS : va_S (fr b) s.heap s.heap [] := va_S.rf
  have hl := lv_entry ([.ref (b + 124), .int (nI (k))]) (n := 2) (Nat.le_of_ble_eq_true rfl)
  rw [lg_entry_eq]
  generalize (lg_sl ([.ref (b + 124), .int (nI (k))]) ++ List.replicate (2 - (lg_sl ([.ref (b + 124), .int (nI (k))])).length) Slot.unset).toArray = ls at hl ⊢
  have hl : lv_has ls 2 [(0, .ref (b + 124)), (1, .int (nI (k)))] := hl
  refine lv_aload_n hx hb dX8_slackens_0 rfl (lv_at hl 0 rfl) ?_
  refine lv_iload_n hx hb dX8_slackens_1 rfl (lv_at hl 1 rfl) ?_
  refine xc_i (va_runV (As := [.int (nI (k))]) (rest := []) ⟨hx, hb, hml, hown, hts⟩ (c_X8_isOfHair l D cy b n hn M k (by first | assumption | omega)) (cwV 1 hts gX8_slackens_X8_isOfHair rfl rfl rfl (by decide +kernel) ⟨Nat.le_of_ble_eq_true rfl, Nat.le_of_ble_eq_true rfl⟩) (xPreV hP hK hX hS (by omega) (cell8 (by decide)) rfl) rfl rfl hl.1 rfl (lv_room (Nat.le_of_ble_eq_true rfl)) dX8_slackens_2 ⟨Nat.le_of_ble_eq_true rfl, Nat.le_of_ble_eq_true rfl⟩) hS (fun H locs hP hS => ?_)
  refine lv_if_eq (tgt := 39) hx hb dX8_slackens_5 (by decide) (fun c5 => ?_) (fun c5 => ?_)
  · exact xe_v hx hb hr hlocks hP hS rfl (by rw [gX8_slackens, if_pos c5] <;> rfl) (Nat.le_of_ble_eq_true rfl) (Nat.le_of_ble_eq_true rfl) dX8_slackens_39
  · refine lv_aload_n hx hb dX8_slackens_8 rfl (lv_at hl 0 rfl) ?_
    refine xg (C := RX8) (T := TX8) (N := 22) (v := .ref (b + 127)) hx hb hts inc8 hown hK hP (by omega) (cell8 (by decide)) rfl 3 (by decide) lk0 (fun _ h => h) rfl dX8_slackens_9 ?_
    refine lv_iload_n hx hb dX8_slackens_12 rfl (lv_at hl 1 rfl) ?_
    refine xc_i (va_runS (As := [.int (nI (k))]) (rest := [.ref (b + 127)]) ⟨hx, hb, hml, hown, hts⟩ (c_X8_i l D cy b n hn M k) (va_cwS 1 hts gX8_slackens_X8_i rfl rfl rfl (by decide +kernel) ⟨Nat.le_of_ble_eq_true rfl, Nat.le_of_ble_eq_true rfl⟩) (xPreS hP hK hX hS) rfl rfl hl.1 rfl (lv_room (Nat.le_of_ble_eq_true rfl)) dX8_slackens_13 ⟨Nat.le_of_ble_eq_true rfl, Nat.le_of_ble_eq_true rfl⟩) hS (fun H locs hP hS => ?_)
    refine W.eq (g2 := F0 m 16 ls (.int (nI (8 * k + 8)) :: .ref (b + 127) :: [])) (congrArg (fun z => F0 m 16 ls (.int z :: .ref (b + 127) :: [])) (show fX8_i M k = nI (8 * k + 8) from by unfold fX8_i; exact congrArg nI (by omega))) ?_
    refine lv_iconst (v := 4) hx hb dX8_slackens_16 (by decide) ?_
    refine xadd (z := nI (8 * k + 12)) hx hb (ixAdd (a := 8 * k + 8) (c := 4) (d := 8 * k + 12) rfl rfl (by omega)) dX8_slackens_17 ?_
    refine xil (j := 8 * k + 12) hx hb hK hP (by omega) (by decide) (ixIn (a := 8 * k + 12) rfl (by first | decide | (simp only [lenOf]; omega) | omega) (by decide)) (ixAt (a := 8 * k + 12) rfl (by omega)) dX8_slackens_18 ?_
    refine lv_bipush (v := 50) hx hb dX8_slackens_19 (by decide) ?_
    refine lv_icmp_ge (tgt := 39) hx hb dX8_slackens_21 (by decide) (fun c21 => ?_) (fun c21 => ?_)
    · exact xe_v hx hb hr hlocks hP hS rfl (by rw [gX8_slackens, if_neg c5, if_pos c21] <;> rfl) (Nat.le_of_ble_eq_true rfl) (Nat.le_of_ble_eq_true rfl) dX8_slackens_39
    · refine lv_aload_n hx hb dX8_slackens_24 rfl (lv_at hl 0 rfl) ?_
      refine xg (C := RX8) (T := TX8) (N := 22) (v := .ref (b + 127)) hx hb hts inc8 hown hK hP (by omega) (cell8 (by decide)) rfl 3 (by decide) lk0 (fun _ h => h) rfl dX8_slackens_25 ?_
      refine lv_iload_n hx hb dX8_slackens_28 rfl (lv_at hl 1 rfl) ?_
      refine xc_i (va_runS (As := [.int (nI (k))]) (rest := [.ref (b + 127)]) ⟨hx, hb, hml, hown, hts⟩ (c_X8_i l D cy b n hn M k) (va_cwS 1 hts gX8_slackens_X8_i rfl rfl rfl (by decide +kernel) ⟨Nat.le_of_ble_eq_true rfl, Nat.le_of_ble_eq_true rfl⟩) (xPreS hP hK hX hS) rfl rfl hl.1 rfl (lv_room (Nat.le_of_ble_eq_true rfl)) dX8_slackens_29 ⟨Nat.le_of_ble_eq_true rfl, Nat.le_of_ble_eq_true rfl⟩) hS (fun H locs hP hS => ?_)
      refine W.eq (g2 := F0 m 32 ls (.int (nI (8 * k + 8)) :: .ref (b + 127) :: [])) (congrArg (fun z => F0 m 32 ls (.int z :: .ref (b + 127) :: [])) (show fX8_i M k = nI (8 * k + 8) from by unfold fX8_i; exact congrArg nI (by omega))) ?_
      refine lv_iconst (v := 4) hx hb dX8_slackens_32 (by decide) ?_
      refine xadd (z := nI (8 * k + 12)) hx hb (ixAdd (a := 8 * k + 8) (c := 4) (d := 8 * k + 12) rfl rfl (by omega)) dX8_slackens_33 ?_
      refine lv_dup2_11 hx hb dX8_slackens_34 rfl rfl ?_
      refine xil (j := 8 * k + 12) hx hb hK hP (by omega) (by decide) (ixIn (a := 8 * k + 12) rfl (by first | decide | (simp only [lenOf]; omega) | omega) (by decide)) (ixAt (a := 8 * k + 12) rfl (by omega)) dX8_slackens_35 ?_
      refine lv_iconst (v := 1) hx hb dX8_slackens_36 (by decide) ?_
      refine lv_iadd hx hb dX8_slackens_37 ?_
      refine xis (j := 8 * k + 12) (x := (M 127 (8 * k + 12)) + (1 : Int32)) hx hb hK hP hS (by omega) (by decide) (ixIn (a := 8 * k + 12) rfl (by first | decide | (simp only [lenOf]; omega) | omega) (by decide)) (ixAt (a := 8 * k + 12) rfl (by omega)) dX8_slackens_38 (fun H locs hP hS => ?_)
      exact xe_v hx hb hr hlocks hP hS rfl (by rw [gX8_slackens, if_neg c5, if_neg c21] <;> rfl) (Nat.le_of_ble_eq_true rfl) (Nat.le_of_ble_eq_true rfl) dX8_slackens_39
def fX8_brings (M : Mem) : Int32 := if ((M 127 4) + (M 127 3)) ≤ (99 : Int32) then (M 127 3) else ((99 : Int32) - (M 127 4))
def gX8_brings (M : Mem) : Mem := if ((M 127 4) + (M 127 3)) ≤ (99 : Int32) then (mU (mU M 127 4 ((M 127 4) + (M 127 3))) 127 7 (((mU M 127 4 ((M 127 4) + (M 127 3))) 127 7) + (M 127 3))) else (mU (mU M 127 4 ((M 127 4) + ((99 : Int32) - (M 127 4)))) 127 7 (((mU M 127 4 ((M 127 4) + ((99 : Int32) - (M 127 4)))) 127 7) + ((99 : Int32) - (M 127 4))))
set_option maxHeartbeats 4000000 in
set_option maxRecDepth 100000 in
theorem c_X8_brings (l : Launch) (D : va_G) (cy : Nat → ClassId) (b n : Nat) (hn : 133 ≤ n) (M : Mem)   : Met l yX8_brings wsX8_brings ({ frames := 0, cells := 0, slots := 0, locals := 0 } : Room) (CP D cy b n fT M [.ref (b + 124)]) (CQi D cy b n fT (fX8_brings M) (gX8_brings M)) 0 0 (fr b) := by
  refine Met.ofW (cc := cX8_brings) (maxL := 2) (ret := (some .int)) (by decide) rfl ?_
  intro p e s m args below meth c s₁ B hml hv
  obtain ⟨rfl, hP, hK, hX⟩ := hv
  have hx := B.exec
  have hb := B.bytes
  have hr := B.returns
  have hts := atoms_spec (ws := wsX8_brings) B.pre
  have hown : s.vm.findClass RX8 = some m.cls := findClass_of_methodNamed B.named
  have hlocks := B.notSynchronized
  have lk0 := hts (.fieldLink RX8 16 "HygrometerRoomModel" "now" "[I") (by decide +kernel)
  have inc8 : ∀ w ∈ u_ws RX8 TX8 22, w ∈ wsX8_brings := by decide +kernel
  have hS : va_S (fr b) s.heap s.heap [] := va_S.rf
  have hl := lv_entry ([.ref (b + 124)]) (n := 2) (Nat.le_of_ble_eq_true rfl)
  rw [lg_entry_eq]
  generalize (lg_sl ([.ref (b + 124)]) ++ List.replicate (2 - (lg_sl ([.ref (b + 124)])).length) Slot.unset).toArray = ls at hl ⊢
  have hl : lv_has ls 2 [(0, .ref (b + 124))] := hl
  refine lv_aload_n hx hb dX8_brings_0 rfl (lv_at hl 0 rfl) ?_
  refine xg (C := RX8) (T := TX8) (N := 22) (v := .ref (b + 127)) hx hb hts inc8 hown hK hP (by omega) (cell8 (by decide)) rfl 3 (by decide) lk0 (fun _ h => h) rfl dX8_brings_1 ?_
  refine lv_iconst (v := 3) hx hb dX8_brings_4 (by decide) ?_
  refine xil (j := 3) hx hb hK hP (by omega) (by decide) (ixIn (a := 3) rfl (by first | decide | (simp only [lenOf]; omega) | omega) (by decide)) rfl dX8_brings_5 ?_
  refine lv_istore_n (lv' := [(1, .int (M 127 3)), (0, .ref (b + 124))]) hx hb dX8_brings_6 rfl hl (by decide) rfl (fun ls hl => ?_)
  refine lv_aload_n hx hb dX8_brings_7 rfl (lv_at hl 1 rfl) ?_
  refine xg (C := RX8) (T := TX8) (N := 22) (v := .ref (b + 127)) hx hb hts inc8 hown hK hP (by omega) (cell8 (by decide)) rfl 3 (by decide) lk0 (fun _ h => h) rfl dX8_brings_8 ?_
  refine lv_iconst (v := 4) hx hb dX8_brings_11 (by decide) ?_
  refine xil (j := 4) hx hb hK hP (by omega) (by decide) (ixIn (a := 4) rfl (by first | decide | (simp only [lenOf]; omega) | omega) (by decide)) rfl dX8_brings_12 ?_
  refine lv_iload_n hx hb dX8_brings_13 rfl (lv_at hl 0 rfl) ?_
  refine lv_iadd hx hb dX8_brings_14 ?_
  refine lv_bipush (v := 99) hx hb dX8_brings_15 (by decide) ?_
  refine lv_icmp_le (tgt := 30) hx hb dX8_brings_17 (by decide) (fun c17 => ?_) (fun c17 => ?_)
  · refine lv_aload_n hx hb dX8_brings_30 rfl (lv_at hl 1 rfl) ?_
    refine xg (C := RX8) (T := TX8) (N := 22) (v := .ref (b + 127)) hx hb hts inc8 hown hK hP (by omega) (cell8 (by decide)) rfl 3 (by decide) lk0 (fun _ h => h) rfl dX8_brings_31 ?_
    refine lv_iconst (v := 4) hx hb dX8_brings_34 (by decide) ?_
    refine lv_dup2_11 hx hb dX8_brings_35 rfl rfl ?_
    refine xil (j := 4) hx hb hK hP (by omega) (by decide) (ixIn (a := 4) rfl (by first | decide | (simp only [lenOf]; omega) | omega) (by decide)) rfl dX8_brings_36 ?_
    refine lv_iload_n hx hb dX8_brings_37 rfl (lv_at hl 0 rfl) ?_
    refine lv_iadd hx hb dX8_brings_38 ?_
    refine xis (j := 4) (x := (M 127 4) + (M 127 3)) hx hb hK hP hS (by omega) (by decide) (ixIn (a := 4) rfl (by first | decide | (simp only [lenOf]; omega) | omega) (by decide)) rfl dX8_brings_39 (fun H locs hP hS => ?_)
    refine lv_aload_n hx hb dX8_brings_40 rfl (lv_at hl 1 rfl) ?_
    refine xg (C := RX8) (T := TX8) (N := 22) (v := .ref (b + 127)) hx hb hts inc8 hown hK hP (by omega) (cell8 (by decide)) rfl 3 (by decide) lk0 (fun _ h => h) rfl dX8_brings_41 ?_
    refine lv_bipush (v := 7) hx hb dX8_brings_44 (by decide) ?_
    refine lv_dup2_11 hx hb dX8_brings_46 rfl rfl ?_
    refine xil (j := 7) hx hb hK hP (by omega) (by decide) (ixIn (a := 7) rfl (by first | decide | (simp only [lenOf]; omega) | omega) (by decide)) rfl dX8_brings_47 ?_
    refine lv_iload_n hx hb dX8_brings_48 rfl (lv_at hl 0 rfl) ?_
    refine lv_iadd hx hb dX8_brings_49 ?_
    refine xis (j := 7) (x := ((mU M 127 4 ((M 127 4) + (M 127 3))) 127 7) + (M 127 3)) hx hb hK hP hS (by omega) (by decide) (ixIn (a := 7) rfl (by first | decide | (simp only [lenOf]; omega) | omega) (by decide)) rfl dX8_brings_50 (fun H locs hP hS => ?_)
    refine lv_iload_n hx hb dX8_brings_51 rfl (lv_at hl 0 rfl) ?_
    exact xe_i hx hb hr hlocks hP hS rfl (by rw [gX8_brings, if_pos c17] <;> rfl) (by rw [fX8_brings, if_pos c17] <;> rfl) (Nat.le_of_ble_eq_true rfl) (Nat.le_of_ble_eq_true rfl) dX8_brings_52
  · refine lv_bipush (v := 99) hx hb dX8_brings_20 (by decide) ?_
    refine lv_aload_n hx hb dX8_brings_22 rfl (lv_at hl 1 rfl) ?_
    refine xg (C := RX8) (T := TX8) (N := 22) (v := .ref (b + 127)) hx hb hts inc8 hown hK hP (by omega) (cell8 (by decide)) rfl 3 (by decide) lk0 (fun _ h => h) rfl dX8_brings_23 ?_
    refine lv_iconst (v := 4) hx hb dX8_brings_26 (by decide) ?_
    refine xil (j := 4) hx hb hK hP (by omega) (by decide) (ixIn (a := 4) rfl (by first | decide | (simp only [lenOf]; omega) | omega) (by decide)) rfl dX8_brings_27 ?_
    refine lv_isub hx hb dX8_brings_28 ?_
    refine lv_istore_n (lv' := [(1, .int ((99 : Int32) - (M 127 4))), (0, .ref (b + 124))]) hx hb dX8_brings_29 rfl hl (by decide) rfl (fun ls hl => ?_)
    refine lv_aload_n hx hb dX8_brings_30 rfl (lv_at hl 1 rfl) ?_
    refine xg (C := RX8) (T := TX8) (N := 22) (v := .ref (b + 127)) hx hb hts inc8 hown hK hP (by omega) (cell8 (by decide)) rfl 3 (by decide) lk0 (fun _ h => h) rfl dX8_brings_31 ?_
    refine lv_iconst (v := 4) hx hb dX8_brings_34 (by decide) ?_
    refine lv_dup2_11 hx hb dX8_brings_35 rfl rfl ?_
    refine xil (j := 4) hx hb hK hP (by omega) (by decide) (ixIn (a := 4) rfl (by first | decide | (simp only [lenOf]; omega) | omega) (by decide)) rfl dX8_brings_36 ?_
    refine lv_iload_n hx hb dX8_brings_37 rfl (lv_at hl 0 rfl) ?_
    refine lv_iadd hx hb dX8_brings_38 ?_
    refine xis (j := 4) (x := (M 127 4) + ((99 : Int32) - (M 127 4))) hx hb hK hP hS (by omega) (by decide) (ixIn (a := 4) rfl (by first | decide | (simp only [lenOf]; omega) | omega) (by decide)) rfl dX8_brings_39 (fun H locs hP hS => ?_)
    refine lv_aload_n hx hb dX8_brings_40 rfl (lv_at hl 1 rfl) ?_
    refine xg (C := RX8) (T := TX8) (N := 22) (v := .ref (b + 127)) hx hb hts inc8 hown hK hP (by omega) (cell8 (by decide)) rfl 3 (by decide) lk0 (fun _ h => h) rfl dX8_brings_41 ?_
    refine lv_bipush (v := 7) hx hb dX8_brings_44 (by decide) ?_
    refine lv_dup2_11 hx hb dX8_brings_46 rfl rfl ?_
    refine xil (j := 7) hx hb hK hP (by omega) (by decide) (ixIn (a := 7) rfl (by first | decide | (simp only [lenOf]; omega) | omega) (by decide)) rfl dX8_brings_47 ?_
    refine lv_iload_n hx hb dX8_brings_48 rfl (lv_at hl 0 rfl) ?_
    refine lv_iadd hx hb dX8_brings_49 ?_
    refine xis (j := 7) (x := ((mU M 127 4 ((M 127 4) + ((99 : Int32) - (M 127 4)))) 127 7) + ((99 : Int32) - (M 127 4))) hx hb hK hP hS (by omega) (by decide) (ixIn (a := 7) rfl (by first | decide | (simp only [lenOf]; omega) | omega) (by decide)) rfl dX8_brings_50 (fun H locs hP hS => ?_)
    refine lv_iload_n hx hb dX8_brings_51 rfl (lv_at hl 0 rfl) ?_
    exact xe_i hx hb hr hlocks hP hS rfl (by rw [gX8_brings, if_neg c17] <;> rfl) (by rw [fX8_brings, if_neg c17] <;> rfl) (Nat.le_of_ble_eq_true rfl) (Nat.le_of_ble_eq_true rfl) dX8_brings_52
theorem soaks_at {M : Mem} {k j : Nat} (h : j ≠ 8 * k + 11) : gX8_soaks M k 127 j = M 127 j := by unfold gX8_soaks; (repeat' split) <;> exact mU_row h
theorem soaks_ne {M : Mem} {k p : Nat} (h : p ≠ 127) : gX8_soaks M k p = M p := by unfold gX8_soaks; (repeat' split) <;> exact mU_ne _ _ _ h
theorem ages_at {M : Mem} {k j : Nat} (h : j ≠ 8 * k + 11) (h2 : j ≠ 8 * k + 13) : gX8_ages M k 127 j = M 127 j := by unfold gX8_ages; (repeat' split) <;> first | rfl | exact mU_row h2 | exact soaks_at h
theorem ages_ne {M : Mem} {k p : Nat} (h : p ≠ 127) : gX8_ages M k p = M p := by unfold gX8_ages; (repeat' split) <;> first | rfl | exact mU_ne _ _ _ h | exact soaks_ne h
theorem slackens_at {M : Mem} {k j : Nat} (h : j ≠ 8 * k + 12) : gX8_slackens M k 127 j = M 127 j := by unfold gX8_slackens; (repeat' split) <;> first | rfl | exact mU_row h
theorem slackens_ne {M : Mem} {k p : Nat} (h : p ≠ 127) : gX8_slackens M k p = M p := by unfold gX8_slackens; (repeat' split) <;> first | rfl | exact mU_ne _ _ _ h
theorem brings_at {M : Mem} {j : Nat} (h : j ≠ 4) (h2 : j ≠ 7) : gX8_brings M 127 j = M 127 j := by unfold gX8_brings; (repeat' split) <;> rw [mU_row h2, mU_row h]
theorem brings_ne {M : Mem} {p : Nat} (h : p ≠ 127) : gX8_brings M p = M p := by unfold gX8_brings; (repeat' split) <;> rw [mU_ne _ _ _ h, mU_ne _ _ _ h]
/-- the reference's now: what a minute keeps -/
def NK (M M' : Mem) : Prop := (∀ p, p ≠ 127 → M' p = M p) ∧ (∀ j, j = 1 ∨ j = 2 ∨ j = 3 ∨ j = 5 ∨ j = 6 → M' 127 j = M 127 j) ∧ ∀ j, j < 6 → M' 127 (8 * j + 15) = M 127 (8 * j + 15)
theorem NK.refl (M : Mem) : NK M M := ⟨fun _ _ => rfl, fun _ _ => rfl, fun _ _ => rfl⟩
theorem NK.trans {M M1 M2 : Mem} (h : NK M M1) (h2 : NK M1 M2) : NK M M2 := ⟨fun p hp => (h2.1 p hp).trans (h.1 p hp), fun j hj => (h2.2.1 j hj).trans (h.2.1 j hj), fun j hj => (h2.2.2 j hj).trans (h.2.2 j hj)⟩
theorem NK.mny {M M' : Mem} (h : NK M M') (hm : MNY M) : MNY M' := by unfold MNY; rw [h.2.1 5 (by decide)]; exact hm
theorem NK.bxs {M M' : Mem} (h : NK M M') (hm : BXS M) : BXS M' := fun j hj => by rw [h.2.2 j hj]; exact hm j hj
theorem NK.tmp {M M' : Mem} (h : NK M M') (hm : TMP M) : TMP M' := by unfold TMP; rw [h.2.1 2 (by decide)]; exact hm
theorem nk_ages (M : Mem) (k : Nat) : NK M (gX8_ages M k) := ⟨fun p hp => ages_ne hp, fun j hj => ages_at (by omega) (by omega), fun j hj => ages_at (by omega) (by omega)⟩
theorem nk_slackens (M : Mem) (k : Nat) : NK M (gX8_slackens M k) := ⟨fun p hp => slackens_ne hp, fun j hj => slackens_at (by omega), fun j hj => slackens_at (by omega)⟩
theorem nk_brings (M : Mem) : NK M (gX8_brings M) := ⟨fun p hp => brings_ne hp, fun j hj => brings_at (by omega) (by omega), fun j hj => brings_at (by omega) (by omega)⟩
theorem nk_put (M : Mem) (v : Int32) : NK M (mU M 127 0 v) := ⟨fun p hp => mU_ne _ _ _ hp, fun j hj => mU_row (by omega), fun j hj => mU_row (by omega)⟩
def LX8_passesMinute_12f  : Nat → Mem → Nat → Int32
  | 0, _, _ => 0
  | k + 1, M, j => if (M 127 5) ≤ (nI (j)) then (if ((M 127 0) - (M 127 0) / (60 : Int32) * (60 : Int32)) = 0 then (fX8_brings M) else (0 : Int32)) else (if (((gX8_ages M j) 127 0) - ((gX8_ages M j) 127 0) / (10 : Int32) * (10 : Int32)) = 0 then (LX8_passesMinute_12f k (gX8_slackens (gX8_ages M j) j) (j + 1)) else (LX8_passesMinute_12f k (gX8_ages M j) (j + 1)))
def LX8_passesMinute_12g  : Nat → Mem → Nat → Mem
  | 0, M, _ => M
  | k + 1, M, j => if (M 127 5) ≤ (nI (j)) then (if ((M 127 0) - (M 127 0) / (60 : Int32) * (60 : Int32)) = 0 then (gX8_brings M) else M) else (if (((gX8_ages M j) 127 0) - ((gX8_ages M j) 127 0) / (10 : Int32) * (10 : Int32)) = 0 then (LX8_passesMinute_12g k (gX8_slackens (gX8_ages M j) j) (j + 1)) else (LX8_passesMinute_12g k (gX8_ages M j) (j + 1)))
set_option maxHeartbeats 4000000 in
set_option maxRecDepth 100000 in
theorem cl_X8_passesMinute_12 (l : Launch) (D : va_G) (cy : Nat → ClassId) (b n : Nat) (hn : 133 ≤ n)   {p : Program} {e : Env} {s : State} {m : MethodId} {args : Array Value} {below : List Frame} {meth : Method} {c : Code} (hx : p.tables.exec = Jvm.exec) (hb : c.code = cX8_passesMinute) (hr : meth.sig.returnType = (some .int)) (hlocks : meth.locks = false) (hml : c.maxLocals = 2) (hown : s.vm.findClass RX8 = some m.cls) (hts : ∀ w ∈ wsX8_passesMinute, w.before args s = true) (hK : va_K D vwCl (tysW cy) s) (hX : SX b s)  : ∀ (k : Nat) (M : Mem) (j : Nat) (H : Heap) (locs : List Loc) (ls : Array Slot), MNY M → BXS M → j ≤ 6 → 7 ≤ j + k → va_P D vwCl (wL cy b fT M n) H → va_S (fr b) s.heap H locs → lv_has ls 2 [(0, .ref (b + 124)), (1, .int (nI (j)))] → W p l e (headSpec wsX8_passesMinute ({ frames := 5, cells := 0, slots := 0, locals := 108 } : Room)).room s m args below meth c H locs 0 0 (MQ below (CQi D cy b n fT (LX8_passesMinute_12f k M j) (LX8_passesMinute_12g k M j)) args s 0 0 (fr b)) (F0 m 12 ls []) := by
  have lk0 := hts (.fieldLink RX8 16 "HygrometerRoomModel" "now" "[I") (by decide +kernel)
  have inc8 : ∀ w ∈ u_ws RX8 TX8 22, w ∈ wsX8_passesMinute := by decide +kernel
  intro k
  induction k with
  | zero => intro M j H locs ls hmy hbx hj hk hP hS hl; omega
  | succ k ih =>
    intro M j H locs ls hmy hbx hj hk hP hS hl
    refine lv_iload_n hx hb dX8_passesMinute_12 rfl (lv_at hl 1 rfl) ?_
    refine lv_aload_n hx hb dX8_passesMinute_13 rfl (lv_at hl 0 rfl) ?_
    refine xg (C := RX8) (T := TX8) (N := 22) (v := .ref (b + 127)) hx hb hts inc8 hown hK hP (by omega) (cell8 (by decide)) rfl 3 (by decide) lk0 (fun _ h => h) rfl dX8_passesMinute_14 ?_
    refine lv_iconst (v := 5) hx hb dX8_passesMinute_17 (by decide) ?_
    refine xil (j := 5) hx hb hK hP (by omega) (by decide) (ixIn (a := 5) rfl (by first | decide | (simp only [lenOf]; omega) | omega) (by decide)) rfl dX8_passesMinute_18 ?_
    refine lv_icmp_ge (tgt := 50) hx hb dX8_passesMinute_19 (by decide) (fun c19 => ?_) (fun c19 => ?_)
    · refine lv_aload_n hx hb dX8_passesMinute_50 rfl (lv_at hl 0 rfl) ?_
      refine xg (C := RX8) (T := TX8) (N := 22) (v := .ref (b + 127)) hx hb hts inc8 hown hK hP (by omega) (cell8 (by decide)) rfl 3 (by decide) lk0 (fun _ h => h) rfl dX8_passesMinute_51 ?_
      refine lv_iconst (v := 0) hx hb dX8_passesMinute_54 (by decide) ?_
      refine xil (j := 0) hx hb hK hP (by omega) (by decide) (ixIn (a := 0) rfl (by first | decide | (simp only [lenOf]; omega) | omega) (by decide)) rfl dX8_passesMinute_55 ?_
      refine lv_bipush (v := 60) hx hb dX8_passesMinute_56 (by decide) ?_
      refine lv_irem hx hb dX8_passesMinute_58 (by decide) ?_
      refine lv_if_ne (tgt := 67) hx hb dX8_passesMinute_59 (by decide) (fun c59 => ?_) (fun c59 => ?_)
      · refine lv_iconst (v := 0) hx hb dX8_passesMinute_67 (by decide) ?_
        exact xe_i hx hb hr hlocks hP hS rfl (by rw [LX8_passesMinute_12g, if_pos c19, if_neg c59] <;> rfl) (by rw [LX8_passesMinute_12f, if_pos c19, if_neg c59] <;> rfl) (Nat.le_of_ble_eq_true rfl) (Nat.le_of_ble_eq_true rfl) dX8_passesMinute_68
      · refine lv_aload_n hx hb dX8_passesMinute_62 rfl (lv_at hl 0 rfl) ?_
        refine xc_i (va_runV (As := []) (rest := []) ⟨hx, hb, hml, hown, hts⟩ (c_X8_brings l D cy b n hn M ) (cwV 0 hts gX8_passesMinute_X8_brings rfl rfl rfl (by decide +kernel) ⟨Nat.le_of_ble_eq_true rfl, Nat.le_of_ble_eq_true rfl⟩) (xPreV hP hK hX hS (by omega) (cell8 (by decide)) rfl) rfl rfl hl.1 rfl (lv_room (Nat.le_of_ble_eq_true rfl)) dX8_passesMinute_63 ⟨Nat.le_of_ble_eq_true rfl, Nat.le_of_ble_eq_true rfl⟩) hS (fun H locs hP hS => ?_)
        exact xe_i hx hb hr hlocks hP hS rfl (by rw [LX8_passesMinute_12g, if_pos c19, if_pos c59] <;> rfl) (by rw [LX8_passesMinute_12f, if_pos c19, if_pos c59] <;> rfl) (Nat.le_of_ble_eq_true rfl) (Nat.le_of_ble_eq_true rfl) dX8_passesMinute_66
    · have hj6 := ub_lt hmy hj c19
      refine lv_aload_n hx hb dX8_passesMinute_22 rfl (lv_at hl 0 rfl) ?_
      refine lv_iload_n hx hb dX8_passesMinute_23 rfl (lv_at hl 1 rfl) ?_
      refine xc_v (va_runV (As := [.int (nI (j))]) (rest := []) ⟨hx, hb, hml, hown, hts⟩ (c_X8_ages l D cy b n hn M j (by omega) hbx) (cwV 1 hts gX8_passesMinute_X8_ages rfl rfl rfl (by decide +kernel) ⟨Nat.le_of_ble_eq_true rfl, Nat.le_of_ble_eq_true rfl⟩) (xPreV hP hK hX hS (by omega) (cell8 (by decide)) rfl) rfl rfl hl.1 rfl (lv_room (Nat.le_of_ble_eq_true rfl)) dX8_passesMinute_24 ⟨Nat.le_of_ble_eq_true rfl, Nat.le_of_ble_eq_true rfl⟩) hS (fun H locs hP hS => ?_)
      refine lv_aload_n hx hb dX8_passesMinute_27 rfl (lv_at hl 0 rfl) ?_
      refine xg (C := RX8) (T := TX8) (N := 22) (v := .ref (b + 127)) hx hb hts inc8 hown hK hP (by omega) (cell8 (by decide)) rfl 3 (by decide) lk0 (fun _ h => h) rfl dX8_passesMinute_28 ?_
      refine lv_iconst (v := 0) hx hb dX8_passesMinute_31 (by decide) ?_
      refine xil (j := 0) hx hb hK hP (by omega) (by decide) (ixIn (a := 0) rfl (by first | decide | (simp only [lenOf]; omega) | omega) (by decide)) rfl dX8_passesMinute_32 ?_
      refine lv_bipush (v := 10) hx hb dX8_passesMinute_33 (by decide) ?_
      refine lv_irem hx hb dX8_passesMinute_35 (by decide) ?_
      refine lv_if_ne (tgt := 44) hx hb dX8_passesMinute_36 (by decide) (fun c36 => ?_) (fun c36 => ?_)
      · refine lv_iinc (v := nI (j + 1)) (lv' := [(1, .int (nI (j + 1))), (0, .ref (b + 124))]) hx hb dX8_passesMinute_44 hl (k := 1) rfl (ixAdd (a := j) (c := 1) (d := j + 1) rfl rfl (by omega)) (by decide) rfl (fun ls hl => ?_)
        refine lv_goto (tgt := 12) hx hb dX8_passesMinute_47 (by decide) ?_
        rw [show LX8_passesMinute_12f (k + 1) M j = LX8_passesMinute_12f k (gX8_ages M j) (j + 1) from (by rw [LX8_passesMinute_12f, if_neg c19, if_neg c36]), show LX8_passesMinute_12g (k + 1) M j = LX8_passesMinute_12g k (gX8_ages M j) (j + 1) from (by rw [LX8_passesMinute_12g, if_neg c19, if_neg c36])]
        exact ih (gX8_ages M j) (j + 1) H locs ls (by first | exact ((nk_ages M j).trans (nk_slackens _ j)).mny hmy | exact (nk_ages M j).mny hmy) (by first | exact ((nk_ages M j).trans (nk_slackens _ j)).bxs hbx | exact (nk_ages M j).bxs hbx) (by omega) (by omega) hP hS (lv_sub hl [1, 0] rfl)
      · refine lv_aload_n hx hb dX8_passesMinute_39 rfl (lv_at hl 0 rfl) ?_
        refine lv_iload_n hx hb dX8_passesMinute_40 rfl (lv_at hl 1 rfl) ?_
        refine xc_v (va_runV (As := [.int (nI (j))]) (rest := []) ⟨hx, hb, hml, hown, hts⟩ (c_X8_slackens l D cy b n hn (gX8_ages M j) j (by omega)) (cwV 1 hts gX8_passesMinute_X8_slackens rfl rfl rfl (by decide +kernel) ⟨Nat.le_of_ble_eq_true rfl, Nat.le_of_ble_eq_true rfl⟩) (xPreV hP hK hX hS (by omega) (cell8 (by decide)) rfl) rfl rfl hl.1 rfl (lv_room (Nat.le_of_ble_eq_true rfl)) dX8_passesMinute_41 ⟨Nat.le_of_ble_eq_true rfl, Nat.le_of_ble_eq_true rfl⟩) hS (fun H locs hP hS => ?_)
        refine lv_iinc (v := nI (j + 1)) (lv' := [(1, .int (nI (j + 1))), (0, .ref (b + 124))]) hx hb dX8_passesMinute_44 hl (k := 1) rfl (ixAdd (a := j) (c := 1) (d := j + 1) rfl rfl (by omega)) (by decide) rfl (fun ls hl => ?_)
        refine lv_goto (tgt := 12) hx hb dX8_passesMinute_47 (by decide) ?_
        rw [show LX8_passesMinute_12f (k + 1) M j = LX8_passesMinute_12f k (gX8_slackens (gX8_ages M j) j) (j + 1) from (by rw [LX8_passesMinute_12f, if_neg c19, if_pos c36]), show LX8_passesMinute_12g (k + 1) M j = LX8_passesMinute_12g k (gX8_slackens (gX8_ages M j) j) (j + 1) from (by rw [LX8_passesMinute_12g, if_neg c19, if_pos c36])]
        exact ih (gX8_slackens (gX8_ages M j) j) (j + 1) H locs ls (by first | exact ((nk_ages M j).trans (nk_slackens _ j)).mny hmy | exact (nk_ages M j).mny hmy) (by first | exact ((nk_ages M j).trans (nk_slackens _ j)).bxs hbx | exact (nk_ages M j).bxs hbx) (by omega) (by omega) hP hS (lv_sub hl [1, 0] rfl)
theorem nk_pm12 : ∀ (k : Nat) (M : Mem) (j : Nat), NK M (LX8_passesMinute_12g k M j) := by
  intro k
  induction k with
  | zero => intro M j; exact NK.refl M
  | succ k ih =>
    intro M j
    rw [LX8_passesMinute_12g]
    (repeat' split) <;> first | exact nk_brings M | exact NK.refl M | exact ((nk_ages M j).trans (nk_slackens _ j)).trans (ih _ _) | exact (nk_ages M j).trans (ih _ _)
def fX8_passesMinute (M : Mem) : Int32 := LX8_passesMinute_12f 7 (mU M 127 0 ((M 127 0) + (1 : Int32))) 0
def gX8_passesMinute (M : Mem) : Mem := LX8_passesMinute_12g 7 (mU M 127 0 ((M 127 0) + (1 : Int32))) 0
set_option maxHeartbeats 4000000 in
set_option maxRecDepth 100000 in
theorem c_X8_passesMinute (l : Launch) (D : va_G) (cy : Nat → ClassId) (b n : Nat) (hn : 133 ≤ n) (M : Mem)  (hmy : MNY M) (hbx : BXS M) : Met l yX8_passesMinute wsX8_passesMinute ({ frames := 5, cells := 0, slots := 0, locals := 108 } : Room) (CP D cy b n fT M [.ref (b + 124)]) (CQi D cy b n fT (fX8_passesMinute M) (gX8_passesMinute M)) 0 0 (fr b) := by
  refine Met.ofW (cc := cX8_passesMinute) (maxL := 2) (ret := (some .int)) (by decide) rfl ?_
  intro p e s m args below meth c s₁ B hml hv
  obtain ⟨rfl, hP, hK, hX⟩ := hv
  have hx := B.exec
  have hb := B.bytes
  have hr := B.returns
  have hts := atoms_spec (ws := wsX8_passesMinute) B.pre
  have hown : s.vm.findClass RX8 = some m.cls := findClass_of_methodNamed B.named
  have hlocks := B.notSynchronized
  have lk0 := hts (.fieldLink RX8 16 "HygrometerRoomModel" "now" "[I") (by decide +kernel)
  have inc8 : ∀ w ∈ u_ws RX8 TX8 22, w ∈ wsX8_passesMinute := by decide +kernel
  have hS : va_S (fr b) s.heap s.heap [] := va_S.rf
  have hl := lv_entry ([.ref (b + 124)]) (n := 2) (Nat.le_of_ble_eq_true rfl)
  rw [lg_entry_eq]
  generalize (lg_sl ([.ref (b + 124)]) ++ List.replicate (2 - (lg_sl ([.ref (b + 124)])).length) Slot.unset).toArray = ls at hl ⊢
  have hl : lv_has ls 2 [(0, .ref (b + 124))] := hl
  refine lv_aload_n hx hb dX8_passesMinute_0 rfl (lv_at hl 0 rfl) ?_
  refine xg (C := RX8) (T := TX8) (N := 22) (v := .ref (b + 127)) hx hb hts inc8 hown hK hP (by omega) (cell8 (by decide)) rfl 3 (by decide) lk0 (fun _ h => h) rfl dX8_passesMinute_1 ?_
  refine lv_iconst (v := 0) hx hb dX8_passesMinute_4 (by decide) ?_
  refine lv_dup2_11 hx hb dX8_passesMinute_5 rfl rfl ?_
  refine xil (j := 0) hx hb hK hP (by omega) (by decide) (ixIn (a := 0) rfl (by first | decide | (simp only [lenOf]; omega) | omega) (by decide)) rfl dX8_passesMinute_6 ?_
  refine lv_iconst (v := 1) hx hb dX8_passesMinute_7 (by decide) ?_
  refine lv_iadd hx hb dX8_passesMinute_8 ?_
  refine xis (j := 0) (x := (M 127 0) + (1 : Int32)) hx hb hK hP hS (by omega) (by decide) (ixIn (a := 0) rfl (by first | decide | (simp only [lenOf]; omega) | omega) (by decide)) rfl dX8_passesMinute_9 (fun H locs hP hS => ?_)
  refine lv_iconst (v := 0) hx hb dX8_passesMinute_10 (by decide) ?_
  refine lv_istore_n (lv' := [(1, .int (0 : Int32)), (0, .ref (b + 124))]) hx hb dX8_passesMinute_11 rfl hl (by decide) rfl (fun ls hl => ?_)
  rw [show fX8_passesMinute M = LX8_passesMinute_12f 7 (mU M 127 0 ((M 127 0) + (1 : Int32))) 0 from (by rw [fX8_passesMinute]), show gX8_passesMinute M = LX8_passesMinute_12g 7 (mU M 127 0 ((M 127 0) + (1 : Int32))) 0 from (by rw [gX8_passesMinute])]
  exact cl_X8_passesMinute_12 l D cy b n hn  hx hb hr hlocks hml hown hts hK hX 7 (mU M 127 0 ((M 127 0) + (1 : Int32))) 0 H locs ls ((nk_put M _).mny hmy) ((nk_put M _).bxs hbx) (by omega) (by omega) hP hS (lv_sub hl [1, 0] rfl)
theorem nk_pm (M : Mem) : NK M (gX8_passesMinute M) := (nk_put M _).trans (nk_pm12 _ _ _)
def LX8_passes_4f (x : Int32) : Nat → Mem → Int32 → Nat → Int32
  | 0, _, _, _ => 0
  | k + 1, M, w, i => if x ≤ (nI (i)) then w else (LX8_passes_4f x k (gX8_passesMinute M) (w + (fX8_passesMinute M)) (i + 1))
def LX8_passes_4g (x : Int32) : Nat → Mem → Int32 → Nat → Mem
  | 0, M, _, _ => M
  | k + 1, M, w, i => if x ≤ (nI (i)) then M else (LX8_passes_4g x k (gX8_passesMinute M) (w + (fX8_passesMinute M)) (i + 1))
set_option maxHeartbeats 4000000 in
set_option maxRecDepth 100000 in
theorem cl_X8_passes_4 (l : Launch) (D : va_G) (cy : Nat → ClassId) (b n : Nat) (hn : 133 ≤ n) (x : Int32) (hx2 : UB x 200) {p : Program} {e : Env} {s : State} {m : MethodId} {args : Array Value} {below : List Frame} {meth : Method} {c : Code} (hx : p.tables.exec = Jvm.exec) (hb : c.code = cX8_passes) (hr : meth.sig.returnType = (some .int)) (hlocks : meth.locks = false) (hml : c.maxLocals = 4) (hown : s.vm.findClass RX8 = some m.cls) (hts : ∀ w ∈ wsX8_passes, w.before args s = true) (hK : va_K D vwCl (tysW cy) s) (hX : SX b s)  : ∀ (k : Nat) (M : Mem) (w : Int32) (i : Nat) (H : Heap) (locs : List Loc) (ls : Array Slot), MNY M → BXS M → i ≤ 200 → 201 ≤ i + k → va_P D vwCl (wL cy b fT M n) H → va_S (fr b) s.heap H locs → lv_has ls 4 [(0, .ref (b + 124)), (1, .int x), (2, .int w), (3, .int (nI (i)))] → W p l e (headSpec wsX8_passes ({ frames := 6, cells := 0, slots := 0, locals := 129 } : Room)).room s m args below meth c H locs 0 0 (MQ below (CQi D cy b n fT (LX8_passes_4f x k M w i) (LX8_passes_4g x k M w i)) args s 0 0 (fr b)) (F0 m 4 ls []) := by
  intro k
  induction k with
  | zero => intro M w i H locs ls hmy hbx hj hk hP hS hl; omega
  | succ k ih =>
    intro M w i H locs ls hmy hbx hj hk hP hS hl
    refine lv_iload_n hx hb dX8_passes_4 rfl (lv_at hl 3 rfl) ?_
    refine lv_iload_n hx hb dX8_passes_5 rfl (lv_at hl 1 rfl) ?_
    refine lv_icmp_ge (tgt := 22) hx hb dX8_passes_6 (by decide) (fun c6 => ?_) (fun c6 => ?_)
    · refine lv_iload_n hx hb dX8_passes_22 rfl (lv_at hl 2 rfl) ?_
      exact xe_i hx hb hr hlocks hP hS rfl (by rw [LX8_passes_4g, if_pos c6] <;> rfl) (by rw [LX8_passes_4f, if_pos c6] <;> rfl) (Nat.le_of_ble_eq_true rfl) (Nat.le_of_ble_eq_true rfl) dX8_passes_23
    · have hi2 := ub_lt hx2 hj c6
      refine lv_iload_n hx hb dX8_passes_9 rfl (lv_at hl 2 rfl) ?_
      refine lv_aload_n hx hb dX8_passes_10 rfl (lv_at hl 0 rfl) ?_
      refine xc_i (va_runV (As := []) (rest := [.int w]) ⟨hx, hb, hml, hown, hts⟩ (c_X8_passesMinute l D cy b n hn M hmy hbx) (cwV 0 hts gX8_passes_X8_passesMinute rfl rfl rfl (by decide +kernel) ⟨Nat.le_of_ble_eq_true rfl, Nat.le_of_ble_eq_true rfl⟩) (xPreV hP hK hX hS (by omega) (cell8 (by decide)) rfl) rfl rfl hl.1 rfl (lv_room (Nat.le_of_ble_eq_true rfl)) dX8_passes_11 ⟨Nat.le_of_ble_eq_true rfl, Nat.le_of_ble_eq_true rfl⟩) hS (fun H locs hP hS => ?_)
      refine lv_iadd hx hb dX8_passes_14 ?_
      refine lv_istore_n (lv' := [(2, .int (w + (fX8_passesMinute M))), (0, .ref (b + 124)), (1, .int x), (3, .int (nI (i)))]) hx hb dX8_passes_15 rfl hl (by decide) rfl (fun ls hl => ?_)
      refine lv_iinc (v := nI (i + 1)) (lv' := [(3, .int (nI (i + 1))), (2, .int (w + (fX8_passesMinute M))), (0, .ref (b + 124)), (1, .int x)]) hx hb dX8_passes_16 hl (k := 3) rfl (ixAdd (a := i) (c := 1) (d := i + 1) rfl rfl (by omega)) (by decide) rfl (fun ls hl => ?_)
      refine lv_goto (tgt := 4) hx hb dX8_passes_19 (by decide) ?_
      rw [show LX8_passes_4f x (k + 1) M w i = LX8_passes_4f x k (gX8_passesMinute M) (w + (fX8_passesMinute M)) (i + 1) from (by rw [LX8_passes_4f, if_neg c6]), show LX8_passes_4g x (k + 1) M w i = LX8_passes_4g x k (gX8_passesMinute M) (w + (fX8_passesMinute M)) (i + 1) from (by rw [LX8_passes_4g, if_neg c6])]
      exact ih (gX8_passesMinute M) (w + (fX8_passesMinute M)) (i + 1) H locs ls ((nk_pm M).mny hmy) ((nk_pm M).bxs hbx) (by omega) (by omega) hP hS (lv_sub hl [2, 3, 1, 0] rfl)
theorem nk_ps4 (x : Int32) : ∀ (k : Nat) (M : Mem) (w : Int32) (i : Nat), NK M (LX8_passes_4g x k M w i) := by
  intro k
  induction k with
  | zero => intro M w i; exact NK.refl M
  | succ k ih =>
    intro M w i
    rw [LX8_passes_4g]
    split
    · exact NK.refl M
    · exact (nk_pm M).trans (ih _ _ _)
def fX8_passes (M : Mem) (x : Int32) : Int32 := LX8_passes_4f x 201 M (0 : Int32) 0
def gX8_passes (M : Mem) (x : Int32) : Mem := LX8_passes_4g x 201 M (0 : Int32) 0
set_option maxHeartbeats 4000000 in
set_option maxRecDepth 100000 in
theorem c_X8_passes (l : Launch) (D : va_G) (cy : Nat → ClassId) (b n : Nat) (hn : 133 ≤ n) (M : Mem) (x : Int32) (hx2 : UB x 200) (hmy : MNY M) (hbx : BXS M) : Met l yX8_passes wsX8_passes ({ frames := 6, cells := 0, slots := 0, locals := 129 } : Room) (CP D cy b n fT M [.ref (b + 124), .int x]) (CQi D cy b n fT (fX8_passes M x) (gX8_passes M x)) 0 0 (fr b) := by
  refine Met.ofW (cc := cX8_passes) (maxL := 4) (ret := (some .int)) (by decide) rfl ?_
  intro p e s m args below meth c s₁ B hml hv
  obtain ⟨rfl, hP, hK, hX⟩ := hv
  have hx := B.exec
  have hb := B.bytes
  have hr := B.returns
  have hts := atoms_spec (ws := wsX8_passes) B.pre
  have hown : s.vm.findClass RX8 = some m.cls := findClass_of_methodNamed B.named
  have hlocks := B.notSynchronized
  have hS : va_S (fr b) s.heap s.heap [] := va_S.rf
  have hl := lv_entry ([.ref (b + 124), .int x]) (n := 4) (Nat.le_of_ble_eq_true rfl)
  rw [lg_entry_eq]
  generalize (lg_sl ([.ref (b + 124), .int x]) ++ List.replicate (4 - (lg_sl ([.ref (b + 124), .int x])).length) Slot.unset).toArray = ls at hl ⊢
  have hl : lv_has ls 4 [(0, .ref (b + 124)), (1, .int x)] := hl
  refine lv_iconst (v := 0) hx hb dX8_passes_0 (by decide) ?_
  refine lv_istore_n (lv' := [(2, .int (0 : Int32)), (0, .ref (b + 124)), (1, .int x)]) hx hb dX8_passes_1 rfl hl (by decide) rfl (fun ls hl => ?_)
  refine lv_iconst (v := 0) hx hb dX8_passes_2 (by decide) ?_
  refine lv_istore_n (lv' := [(3, .int (0 : Int32)), (2, .int (0 : Int32)), (0, .ref (b + 124)), (1, .int x)]) hx hb dX8_passes_3 rfl hl (by decide) rfl (fun ls hl => ?_)
  rw [show fX8_passes M x = LX8_passes_4f x 201 M (0 : Int32) 0 from (by rw [fX8_passes]), show gX8_passes M x = LX8_passes_4g x 201 M (0 : Int32) 0 from (by rw [gX8_passes])]
  exact cl_X8_passes_4 l D cy b n hn x hx2 hx hb hr hlocks hml hown hts hK hX 201 M (0 : Int32) 0 s.heap [] ls hmy hbx (by omega) (by omega) hP hS (lv_sub hl [2, 3, 1, 0] rfl)
theorem nk_ps (M : Mem) (x : Int32) : NK M (gX8_passes M x) := nk_ps4 _ _ _ _ _
def fX8_tightens (M : Mem) (k : Nat) : Int32 := if (20 : Int32) ≤ ((mU M 127 (8 * k + 12) (0 : Int32)) 127 (8 * k + 11)) then (M 127 (8 * k + 12)) else (M 127 (8 * k + 12))
def gX8_tightens (M : Mem) (k : Nat) : Mem := if (20 : Int32) ≤ ((mU M 127 (8 * k + 12) (0 : Int32)) 127 (8 * k + 11)) then (mU M 127 (8 * k + 12) (0 : Int32)) else (mU (mU (mU M 127 (8 * k + 12) (0 : Int32)) 127 (8 * k + 9) (((mU M 127 (8 * k + 12) (0 : Int32)) 127 (8 * k + 9)) - (1 : Int32))) 127 (8 * k + 10) (((mU (mU M 127 (8 * k + 12) (0 : Int32)) 127 (8 * k + 9) (((mU M 127 (8 * k + 12) (0 : Int32)) 127 (8 * k + 9)) - (1 : Int32))) 127 (8 * k + 10)) + (1 : Int32)))
set_option maxHeartbeats 4000000 in
set_option maxRecDepth 100000 in
theorem c_X8_tightens (l : Launch) (D : va_G) (cy : Nat → ClassId) (b n : Nat) (hn : 133 ≤ n) (M : Mem) (k : Nat) (hk6 : k < 6) : Met l yX8_tightens wsX8_tightens ({ frames := 1, cells := 0, slots := 0, locals := 20 } : Room) (CP D cy b n fT M [.ref (b + 124), .int (nI (k))]) (CQi D cy b n fT (fX8_tightens M k) (gX8_tightens M k)) 0 0 (fr b) := by
  refine Met.ofW (cc := cX8_tightens) (maxL := 4) (ret := (some .int)) (by decide) rfl ?_
  intro p e s m args below meth c s₁ B hml hv
  obtain ⟨rfl, hP, hK, hX⟩ := hv
  have hx := B.exec
  have hb := B.bytes
  have hr := B.returns
  have hts := atoms_spec (ws := wsX8_tightens) B.pre
  have hown : s.vm.findClass RX8 = some m.cls := findClass_of_methodNamed B.named
  have hlocks := B.notSynchronized
  have lk0 := hts (.fieldLink RX8 16 "HygrometerRoomModel" "now" "[I") (by decide +kernel)
  have inc8 : ∀ w ∈ u_ws RX8 TX8 22, w ∈ wsX8_tightens := by decide +kernel
  have hS : va_S (fr b) s.heap s.heap [] := va_S.rf
  have hl := lv_entry ([.ref (b + 124), .int (nI (k))]) (n := 4) (Nat.le_of_ble_eq_true rfl)
  rw [lg_entry_eq]
  generalize (lg_sl ([.ref (b + 124), .int (nI (k))]) ++ List.replicate (4 - (lg_sl ([.ref (b + 124), .int (nI (k))])).length) Slot.unset).toArray = ls at hl ⊢
  have hl : lv_has ls 4 [(0, .ref (b + 124)), (1, .int (nI (k)))] := hl
  refine lv_iload_n hx hb dX8_tightens_0 rfl (lv_at hl 1 rfl) ?_
  refine xc_i (va_runS (As := [.int (nI (k))]) (rest := []) ⟨hx, hb, hml, hown, hts⟩ (c_X8_i l D cy b n hn M k) (va_cwS 1 hts gX8_tightens_X8_i rfl rfl rfl (by decide +kernel) ⟨Nat.le_of_ble_eq_true rfl, Nat.le_of_ble_eq_true rfl⟩) (xPreS hP hK hX hS) rfl rfl hl.1 rfl (lv_room (Nat.le_of_ble_eq_true rfl)) dX8_tightens_1 ⟨Nat.le_of_ble_eq_true rfl, Nat.le_of_ble_eq_true rfl⟩) hS (fun H locs hP hS => ?_)
  refine W.eq (g2 := F0 m 4 ls (.int (nI (8 * k + 8)) :: [])) (congrArg (fun z => F0 m 4 ls (.int z :: [])) (show fX8_i M k = nI (8 * k + 8) from by unfold fX8_i; exact congrArg nI (by omega))) ?_
  refine lv_istore_n (lv' := [(2, .int (nI (8 * k + 8))), (0, .ref (b + 124)), (1, .int (nI (k)))]) hx hb dX8_tightens_4 rfl hl (by decide) rfl (fun ls hl => ?_)
  refine lv_aload_n hx hb dX8_tightens_5 rfl (lv_at hl 1 rfl) ?_
  refine xg (C := RX8) (T := TX8) (N := 22) (v := .ref (b + 127)) hx hb hts inc8 hown hK hP (by omega) (cell8 (by decide)) rfl 3 (by decide) lk0 (fun _ h => h) rfl dX8_tightens_6 ?_
  refine lv_iload_n hx hb dX8_tightens_9 rfl (lv_at hl 0 rfl) ?_
  refine lv_iconst (v := 4) hx hb dX8_tightens_10 (by decide) ?_
  refine xadd (z := nI (8 * k + 12)) hx hb (ixAdd (a := 8 * k + 8) (c := 4) (d := 8 * k + 12) rfl rfl (by omega)) dX8_tightens_11 ?_
  refine xil (j := 8 * k + 12) hx hb hK hP (by omega) (by decide) (ixIn (a := 8 * k + 12) rfl (by first | decide | (simp only [lenOf]; omega) | omega) (by decide)) (ixAt (a := 8 * k + 12) rfl (by omega)) dX8_tightens_12 ?_
  refine lv_istore_n (lv' := [(3, .int (M 127 (8 * k + 12))), (2, .int (nI (8 * k + 8))), (0, .ref (b + 124)), (1, .int (nI (k)))]) hx hb dX8_tightens_13 rfl hl (by decide) rfl (fun ls hl => ?_)
  refine lv_aload_n hx hb dX8_tightens_14 rfl (lv_at hl 2 rfl) ?_
  refine xg (C := RX8) (T := TX8) (N := 22) (v := .ref (b + 127)) hx hb hts inc8 hown hK hP (by omega) (cell8 (by decide)) rfl 3 (by decide) lk0 (fun _ h => h) rfl dX8_tightens_15 ?_
  refine lv_iload_n hx hb dX8_tightens_18 rfl (lv_at hl 1 rfl) ?_
  refine lv_iconst (v := 4) hx hb dX8_tightens_19 (by decide) ?_
  refine xadd (z := nI (8 * k + 12)) hx hb (ixAdd (a := 8 * k + 8) (c := 4) (d := 8 * k + 12) rfl rfl (by omega)) dX8_tightens_20 ?_
  refine lv_iconst (v := 0) hx hb dX8_tightens_21 (by decide) ?_
  refine xis (j := 8 * k + 12) (x := (0 : Int32)) hx hb hK hP hS (by omega) (by decide) (ixIn (a := 8 * k + 12) rfl (by first | decide | (simp only [lenOf]; omega) | omega) (by decide)) (ixAt (a := 8 * k + 12) rfl (by omega)) dX8_tightens_22 (fun H locs hP hS => ?_)
  refine lv_aload_n hx hb dX8_tightens_23 rfl (lv_at hl 2 rfl) ?_
  refine xg (C := RX8) (T := TX8) (N := 22) (v := .ref (b + 127)) hx hb hts inc8 hown hK hP (by omega) (cell8 (by decide)) rfl 3 (by decide) lk0 (fun _ h => h) rfl dX8_tightens_24 ?_
  refine lv_iload_n hx hb dX8_tightens_27 rfl (lv_at hl 1 rfl) ?_
  refine lv_iconst (v := 3) hx hb dX8_tightens_28 (by decide) ?_
  refine xadd (z := nI (8 * k + 11)) hx hb (ixAdd (a := 8 * k + 8) (c := 3) (d := 8 * k + 11) rfl rfl (by omega)) dX8_tightens_29 ?_
  refine xil (j := 8 * k + 11) hx hb hK hP (by omega) (by decide) (ixIn (a := 8 * k + 11) rfl (by first | decide | (simp only [lenOf]; omega) | omega) (by decide)) (ixAt (a := 8 * k + 11) rfl (by omega)) dX8_tightens_30 ?_
  refine lv_bipush (v := 20) hx hb dX8_tightens_31 (by decide) ?_
  refine lv_icmp_ge (tgt := 60) hx hb dX8_tightens_33 (by decide) (fun c33 => ?_) (fun c33 => ?_)
  · refine lv_iload_n hx hb dX8_tightens_60 rfl (lv_at hl 0 rfl) ?_
    exact xe_i hx hb hr hlocks hP hS rfl (by rw [gX8_tightens, if_pos c33] <;> rfl) (by rw [fX8_tightens, if_pos c33] <;> rfl) (Nat.le_of_ble_eq_true rfl) (Nat.le_of_ble_eq_true rfl) dX8_tightens_61
  · refine lv_aload_n hx hb dX8_tightens_36 rfl (lv_at hl 2 rfl) ?_
    refine xg (C := RX8) (T := TX8) (N := 22) (v := .ref (b + 127)) hx hb hts inc8 hown hK hP (by omega) (cell8 (by decide)) rfl 3 (by decide) lk0 (fun _ h => h) rfl dX8_tightens_37 ?_
    refine lv_iload_n hx hb dX8_tightens_40 rfl (lv_at hl 1 rfl) ?_
    refine lv_iconst (v := 1) hx hb dX8_tightens_41 (by decide) ?_
    refine xadd (z := nI (8 * k + 9)) hx hb (ixAdd (a := 8 * k + 8) (c := 1) (d := 8 * k + 9) rfl rfl (by omega)) dX8_tightens_42 ?_
    refine lv_dup2_11 hx hb dX8_tightens_43 rfl rfl ?_
    refine xil (j := 8 * k + 9) hx hb hK hP (by omega) (by decide) (ixIn (a := 8 * k + 9) rfl (by first | decide | (simp only [lenOf]; omega) | omega) (by decide)) (ixAt (a := 8 * k + 9) rfl (by omega)) dX8_tightens_44 ?_
    refine lv_iconst (v := 1) hx hb dX8_tightens_45 (by decide) ?_
    refine lv_isub hx hb dX8_tightens_46 ?_
    refine xis (j := 8 * k + 9) (x := ((mU M 127 (8 * k + 12) (0 : Int32)) 127 (8 * k + 9)) - (1 : Int32)) hx hb hK hP hS (by omega) (by decide) (ixIn (a := 8 * k + 9) rfl (by first | decide | (simp only [lenOf]; omega) | omega) (by decide)) (ixAt (a := 8 * k + 9) rfl (by omega)) dX8_tightens_47 (fun H locs hP hS => ?_)
    refine lv_aload_n hx hb dX8_tightens_48 rfl (lv_at hl 2 rfl) ?_
    refine xg (C := RX8) (T := TX8) (N := 22) (v := .ref (b + 127)) hx hb hts inc8 hown hK hP (by omega) (cell8 (by decide)) rfl 3 (by decide) lk0 (fun _ h => h) rfl dX8_tightens_49 ?_
    refine lv_iload_n hx hb dX8_tightens_52 rfl (lv_at hl 1 rfl) ?_
    refine lv_iconst (v := 2) hx hb dX8_tightens_53 (by decide) ?_
    refine xadd (z := nI (8 * k + 10)) hx hb (ixAdd (a := 8 * k + 8) (c := 2) (d := 8 * k + 10) rfl rfl (by omega)) dX8_tightens_54 ?_
    refine lv_dup2_11 hx hb dX8_tightens_55 rfl rfl ?_
    refine xil (j := 8 * k + 10) hx hb hK hP (by omega) (by decide) (ixIn (a := 8 * k + 10) rfl (by first | decide | (simp only [lenOf]; omega) | omega) (by decide)) (ixAt (a := 8 * k + 10) rfl (by omega)) dX8_tightens_56 ?_
    refine lv_iconst (v := 1) hx hb dX8_tightens_57 (by decide) ?_
    refine lv_iadd hx hb dX8_tightens_58 ?_
    refine xis (j := 8 * k + 10) (x := ((mU (mU M 127 (8 * k + 12) (0 : Int32)) 127 (8 * k + 9) (((mU M 127 (8 * k + 12) (0 : Int32)) 127 (8 * k + 9)) - (1 : Int32))) 127 (8 * k + 10)) + (1 : Int32)) hx hb hK hP hS (by omega) (by decide) (ixIn (a := 8 * k + 10) rfl (by first | decide | (simp only [lenOf]; omega) | omega) (by decide)) (ixAt (a := 8 * k + 10) rfl (by omega)) dX8_tightens_59 (fun H locs hP hS => ?_)
    refine lv_iload_n hx hb dX8_tightens_60 rfl (lv_at hl 0 rfl) ?_
    exact xe_i hx hb hr hlocks hP hS rfl (by rw [gX8_tightens, if_neg c33] <;> rfl) (by rw [fX8_tightens, if_neg c33] <;> rfl) (Nat.le_of_ble_eq_true rfl) (Nat.le_of_ble_eq_true rfl) dX8_tightens_61
def fX8_moistens (M : Mem) (k : Nat) : Int32 := M 127 (8 * k + 13)
def gX8_moistens (M : Mem) (k : Nat) : Mem := mU M 127 (8 * k + 13) (60 : Int32)
set_option maxHeartbeats 4000000 in
set_option maxRecDepth 100000 in
theorem c_X8_moistens (l : Launch) (D : va_G) (cy : Nat → ClassId) (b n : Nat) (hn : 133 ≤ n) (M : Mem) (k : Nat) (hk6 : k < 6) : Met l yX8_moistens wsX8_moistens ({ frames := 1, cells := 0, slots := 0, locals := 20 } : Room) (CP D cy b n fT M [.ref (b + 124), .int (nI (k))]) (CQi D cy b n fT (fX8_moistens M k) (gX8_moistens M k)) 0 0 (fr b) := by
  refine Met.ofW (cc := cX8_moistens) (maxL := 3) (ret := (some .int)) (by decide) rfl ?_
  intro p e s m args below meth c s₁ B hml hv
  obtain ⟨rfl, hP, hK, hX⟩ := hv
  have hx := B.exec
  have hb := B.bytes
  have hr := B.returns
  have hts := atoms_spec (ws := wsX8_moistens) B.pre
  have hown : s.vm.findClass RX8 = some m.cls := findClass_of_methodNamed B.named
  have hlocks := B.notSynchronized
  have lk0 := hts (.fieldLink RX8 16 "HygrometerRoomModel" "now" "[I") (by decide +kernel)
  have inc8 : ∀ w ∈ u_ws RX8 TX8 22, w ∈ wsX8_moistens := by decide +kernel
  have hS : va_S (fr b) s.heap s.heap [] := va_S.rf
  have hl := lv_entry ([.ref (b + 124), .int (nI (k))]) (n := 3) (Nat.le_of_ble_eq_true rfl)
  rw [lg_entry_eq]
  generalize (lg_sl ([.ref (b + 124), .int (nI (k))]) ++ List.replicate (3 - (lg_sl ([.ref (b + 124), .int (nI (k))])).length) Slot.unset).toArray = ls at hl ⊢
  have hl : lv_has ls 3 [(0, .ref (b + 124)), (1, .int (nI (k)))] := hl
  refine lv_aload_n hx hb dX8_moistens_0 rfl (lv_at hl 0 rfl) ?_
  refine xg (C := RX8) (T := TX8) (N := 22) (v := .ref (b + 127)) hx hb hts inc8 hown hK hP (by omega) (cell8 (by decide)) rfl 3 (by decide) lk0 (fun _ h => h) rfl dX8_moistens_1 ?_
  refine lv_iload_n hx hb dX8_moistens_4 rfl (lv_at hl 1 rfl) ?_
  refine xc_i (va_runS (As := [.int (nI (k))]) (rest := [.ref (b + 127)]) ⟨hx, hb, hml, hown, hts⟩ (c_X8_i l D cy b n hn M k) (va_cwS 1 hts gX8_moistens_X8_i rfl rfl rfl (by decide +kernel) ⟨Nat.le_of_ble_eq_true rfl, Nat.le_of_ble_eq_true rfl⟩) (xPreS hP hK hX hS) rfl rfl hl.1 rfl (lv_room (Nat.le_of_ble_eq_true rfl)) dX8_moistens_5 ⟨Nat.le_of_ble_eq_true rfl, Nat.le_of_ble_eq_true rfl⟩) hS (fun H locs hP hS => ?_)
  refine W.eq (g2 := F0 m 8 ls (.int (nI (8 * k + 8)) :: .ref (b + 127) :: [])) (congrArg (fun z => F0 m 8 ls (.int z :: .ref (b + 127) :: [])) (show fX8_i M k = nI (8 * k + 8) from by unfold fX8_i; exact congrArg nI (by omega))) ?_
  refine lv_iconst (v := 5) hx hb dX8_moistens_8 (by decide) ?_
  refine xadd (z := nI (8 * k + 13)) hx hb (ixAdd (a := 8 * k + 8) (c := 5) (d := 8 * k + 13) rfl rfl (by omega)) dX8_moistens_9 ?_
  refine xil (j := 8 * k + 13) hx hb hK hP (by omega) (by decide) (ixIn (a := 8 * k + 13) rfl (by first | decide | (simp only [lenOf]; omega) | omega) (by decide)) (ixAt (a := 8 * k + 13) rfl (by omega)) dX8_moistens_10 ?_
  refine lv_istore_n (lv' := [(2, .int (M 127 (8 * k + 13))), (0, .ref (b + 124)), (1, .int (nI (k)))]) hx hb dX8_moistens_11 rfl hl (by decide) rfl (fun ls hl => ?_)
  refine lv_aload_n hx hb dX8_moistens_12 rfl (lv_at hl 1 rfl) ?_
  refine xg (C := RX8) (T := TX8) (N := 22) (v := .ref (b + 127)) hx hb hts inc8 hown hK hP (by omega) (cell8 (by decide)) rfl 3 (by decide) lk0 (fun _ h => h) rfl dX8_moistens_13 ?_
  refine lv_iload_n hx hb dX8_moistens_16 rfl (lv_at hl 2 rfl) ?_
  refine xc_i (va_runS (As := [.int (nI (k))]) (rest := [.ref (b + 127)]) ⟨hx, hb, hml, hown, hts⟩ (c_X8_i l D cy b n hn M k) (va_cwS 1 hts gX8_moistens_X8_i rfl rfl rfl (by decide +kernel) ⟨Nat.le_of_ble_eq_true rfl, Nat.le_of_ble_eq_true rfl⟩) (xPreS hP hK hX hS) rfl rfl hl.1 rfl (lv_room (Nat.le_of_ble_eq_true rfl)) dX8_moistens_17 ⟨Nat.le_of_ble_eq_true rfl, Nat.le_of_ble_eq_true rfl⟩) hS (fun H locs hP hS => ?_)
  refine W.eq (g2 := F0 m 20 ls (.int (nI (8 * k + 8)) :: .ref (b + 127) :: [])) (congrArg (fun z => F0 m 20 ls (.int z :: .ref (b + 127) :: [])) (show fX8_i M k = nI (8 * k + 8) from by unfold fX8_i; exact congrArg nI (by omega))) ?_
  refine lv_iconst (v := 5) hx hb dX8_moistens_20 (by decide) ?_
  refine xadd (z := nI (8 * k + 13)) hx hb (ixAdd (a := 8 * k + 8) (c := 5) (d := 8 * k + 13) rfl rfl (by omega)) dX8_moistens_21 ?_
  refine lv_bipush (v := 60) hx hb dX8_moistens_22 (by decide) ?_
  refine xis (j := 8 * k + 13) (x := (60 : Int32)) hx hb hK hP hS (by omega) (by decide) (ixIn (a := 8 * k + 13) rfl (by first | decide | (simp only [lenOf]; omega) | omega) (by decide)) (ixAt (a := 8 * k + 13) rfl (by omega)) dX8_moistens_24 (fun H locs hP hS => ?_)
  refine lv_iload_n hx hb dX8_moistens_25 rfl (lv_at hl 0 rfl) ?_
  exact xe_i hx hb hr hlocks hP hS rfl (by rw [gX8_moistens] <;> rfl) (by rw [fX8_moistens] <;> rfl) (Nat.le_of_ble_eq_true rfl) (Nat.le_of_ble_eq_true rfl) dX8_moistens_26
def LX8_forgetsOldest_3g  : Nat → Mem → Nat → Mem
  | 0, M, _ => M
  | k + 1, M, j => if (560 : Int32) ≤ (nI (j + 56)) then (mU M 124 6 ((M 124 6) - (1 : Int32))) else (LX8_forgetsOldest_3g k (mU M 129 j (M 129 (j + 56))) (j + 1))
set_option maxHeartbeats 4000000 in
set_option maxRecDepth 100000 in
theorem cl_X8_forgetsOldest_3 (l : Launch) (D : va_G) (cy : Nat → ClassId) (b n : Nat) (hn : 133 ≤ n)   {p : Program} {e : Env} {s : State} {m : MethodId} {args : Array Value} {below : List Frame} {meth : Method} {c : Code} (hx : p.tables.exec = Jvm.exec) (hb : c.code = cX8_forgetsOldest) (hr : meth.sig.returnType = none) (hlocks : meth.locks = false) (hml : c.maxLocals = 2) (hown : s.vm.findClass RX8 = some m.cls) (hts : ∀ w ∈ wsX8_forgetsOldest, w.before args s = true) (hK : va_K D vwCl (tysW cy) s) (hX : SX b s)  : ∀ (k : Nat) (M : Mem) (j : Nat) (H : Heap) (locs : List Loc) (ls : Array Slot), j ≤ 504 → 505 ≤ j + k → va_P D vwCl (wL cy b fT M n) H → va_S (fr b) s.heap H locs → lv_has ls 2 [(0, .ref (b + 124)), (1, .int (nI (j + 56)))] → W p l e (headSpec wsX8_forgetsOldest ({ frames := 0, cells := 0, slots := 0, locals := 0 } : Room)).room s m args below meth c H locs 0 0 (MQ below (CQv D cy b n fT (LX8_forgetsOldest_3g k M j)) args s 0 0 (fr b)) (F0 m 3 ls []) := by
  have lk0 := hts (.fieldLink RX8 104 "HygrometerRoomModel" "oldMany" "I") (by decide +kernel)
  have lk1 := hts (.fieldLink RX8 22 "HygrometerRoomModel" "old" "[I") (by decide +kernel)
  have inc8 : ∀ w ∈ u_ws RX8 TX8 22, w ∈ wsX8_forgetsOldest := by decide +kernel
  intro k
  induction k with
  | zero => intro M j H locs ls hj hk hP hS hl; omega
  | succ k ih =>
    intro M j H locs ls hj hk hP hS hl
    refine lv_iload_n hx hb dX8_forgetsOldest_3 rfl (lv_at hl 1 rfl) ?_
    refine lv_sipush (v := 560) hx hb dX8_forgetsOldest_4 (by decide) ?_
    refine lv_icmp_ge (tgt := 31) hx hb dX8_forgetsOldest_7 (by decide) (fun c7 => ?_) (fun c7 => ?_)
    · refine lv_aload_n hx hb dX8_forgetsOldest_31 rfl (lv_at hl 0 rfl) ?_
      refine lv_dup hx hb dX8_forgetsOldest_32 rfl ?_
      refine xg (C := RX8) (T := TX8) (N := 22) (v := .int (M 124 6)) hx hb hts inc8 hown hK hP (by omega) (cell8 (by decide)) rfl 6 (by decide) lk0 (fun _ h => h) rfl dX8_forgetsOldest_33 ?_
      refine lv_iconst (v := 1) hx hb dX8_forgetsOldest_36 (by decide) ?_
      refine lv_isub hx hb dX8_forgetsOldest_37 ?_
      refine xp (C := RX8) (T := TX8) (N := 22) (ci := 8) (ty := .int) (x := (M 124 6) - (1 : Int32)) hx hb hts inc8 tyX8 tyX8_ok nmX8 hown hK hP hS (by omega) (fun _ => cell8 (by decide)) rfl 6 (by decide) rfl lk0 (fun _ h => h) rfl (tyX8_ok 6 (by decide)) rfl rfl (Nat.le_of_ble_eq_true rfl) dX8_forgetsOldest_38 (fun H locs hP hS => ?_)
      exact xe_v hx hb hr hlocks hP hS rfl (by rw [LX8_forgetsOldest_3g, if_pos c7] <;> rfl) (Nat.le_of_ble_eq_true rfl) (Nat.le_of_ble_eq_true rfl) dX8_forgetsOldest_41
    · have hj6 := lit_lt (N := 560) (j := j + 56) c7 rfl (by omega)
      refine lv_aload_n hx hb dX8_forgetsOldest_10 rfl (lv_at hl 0 rfl) ?_
      refine xg (C := RX8) (T := TX8) (N := 22) (v := .ref (b + 129)) hx hb hts inc8 hown hK hP (by omega) (cell8 (by decide)) rfl 5 (by decide) lk1 (fun _ h => h) rfl dX8_forgetsOldest_11 ?_
      refine lv_iload_n hx hb dX8_forgetsOldest_14 rfl (lv_at hl 1 rfl) ?_
      refine lv_bipush (v := 56) hx hb dX8_forgetsOldest_15 (by decide) ?_
      refine xsub (z := nI (j)) hx hb (ixSub (a := j + 56) (c := 56) (d := j) rfl rfl (by omega)) dX8_forgetsOldest_17 ?_
      refine lv_aload_n hx hb dX8_forgetsOldest_18 rfl (lv_at hl 0 rfl) ?_
      refine xg (C := RX8) (T := TX8) (N := 22) (v := .ref (b + 129)) hx hb hts inc8 hown hK hP (by omega) (cell8 (by decide)) rfl 5 (by decide) lk1 (fun _ h => h) rfl dX8_forgetsOldest_19 ?_
      refine lv_iload_n hx hb dX8_forgetsOldest_22 rfl (lv_at hl 1 rfl) ?_
      refine xil (j := j + 56) hx hb hK hP (by omega) (by decide) (ixIn (a := j + 56) rfl (by first | decide | (simp only [lenOf]; omega) | omega) (by decide)) (ixAt (a := j + 56) rfl (by omega)) dX8_forgetsOldest_23 ?_
      refine xis (j := j) (x := M 129 (j + 56)) hx hb hK hP hS (by omega) (by decide) (ixIn (a := j) rfl (by first | decide | (simp only [lenOf]; omega) | omega) (by decide)) (ixAt (a := j) rfl (by omega)) dX8_forgetsOldest_24 (fun H locs hP hS => ?_)
      refine lv_iinc (v := nI (j + 57)) (lv' := [(1, .int (nI (j + 57))), (0, .ref (b + 124))]) hx hb dX8_forgetsOldest_25 hl (k := 1) rfl (ixAdd (a := j + 56) (c := 1) (d := j + 57) rfl rfl (by omega)) (by decide) rfl (fun ls hl => ?_)
      refine lv_goto (tgt := 3) hx hb dX8_forgetsOldest_28 (by decide) ?_
      rw [show LX8_forgetsOldest_3g (k + 1) M j = LX8_forgetsOldest_3g k (mU M 129 j (M 129 (j + 56))) (j + 1) from (by rw [LX8_forgetsOldest_3g, if_neg c7])]
      exact ih (mU M 129 j (M 129 (j + 56))) (j + 1) H locs ls (by omega) (by omega) hP hS (lv_sub hl [1, 0] rfl)

def gX8_forgetsOldest (M : Mem) : Mem := LX8_forgetsOldest_3g 505 M 0
set_option maxHeartbeats 4000000 in
set_option maxRecDepth 100000 in
theorem c_X8_forgetsOldest (l : Launch) (D : va_G) (cy : Nat → ClassId) (b n : Nat) (hn : 133 ≤ n) (M : Mem)   : Met l yX8_forgetsOldest wsX8_forgetsOldest ({ frames := 0, cells := 0, slots := 0, locals := 0 } : Room) (CP D cy b n fT M [.ref (b + 124)]) (CQv D cy b n fT (gX8_forgetsOldest M)) 0 0 (fr b) := by
  refine Met.ofW (cc := cX8_forgetsOldest) (maxL := 2) (ret := none) (by decide) rfl ?_
  intro p e s m args below meth c s₁ B hml hv
  obtain ⟨rfl, hP, hK, hX⟩ := hv
  have hx := B.exec
  have hb := B.bytes
  have hr := B.returns
  have hts := atoms_spec (ws := wsX8_forgetsOldest) B.pre
  have hown : s.vm.findClass RX8 = some m.cls := findClass_of_methodNamed B.named
  have hlocks := B.notSynchronized
  have hS : va_S (fr b) s.heap s.heap [] := va_S.rf
  have hl := lv_entry ([.ref (b + 124)]) (n := 2) (Nat.le_of_ble_eq_true rfl)
  rw [lg_entry_eq]
  generalize (lg_sl ([.ref (b + 124)]) ++ List.replicate (2 - (lg_sl ([.ref (b + 124)])).length) Slot.unset).toArray = ls at hl ⊢
  have hl : lv_has ls 2 [(0, .ref (b + 124))] := hl
  refine lv_bipush (v := 56) hx hb dX8_forgetsOldest_0 (by decide) ?_
  refine lv_istore_n (lv' := [(1, .int (56 : Int32)), (0, .ref (b + 124))]) hx hb dX8_forgetsOldest_2 rfl hl (by decide) rfl (fun ls hl => ?_)
  rw [show gX8_forgetsOldest M = LX8_forgetsOldest_3g 505 M 0 from (by rw [gX8_forgetsOldest])]
  exact cl_X8_forgetsOldest_3 l D cy b n hn  hx hb hr hlocks hml hown hts hK hX 505 M 0 s.heap [] ls (by omega) (by omega) hP hS (lv_sub hl [1, 0] rfl)
theorem ub_nine {x : Int32} (h : UB x 10) (hc : ¬ x = 10) : UB x 9 := by
  obtain ⟨k, hk, rfl⟩ := h
  refine ⟨k, ?_, rfl⟩
  rcases Nat.lt_or_ge k 10 with h | h
  · omega
  · exact absurd (by rw [show k = 10 by omega]; rfl) hc
theorem fo3 : ∀ (k : Nat) (M : Mem) (j : Nat), 505 ≤ j + k → j ≤ 504 → LX8_forgetsOldest_3g k M j 124 6 = M 124 6 - 1 ∧ (∀ i, i ≠ 6 → LX8_forgetsOldest_3g k M j 124 i = M 124 i) ∧ (∀ p, p ≠ 124 → p ≠ 129 → LX8_forgetsOldest_3g k M j p = M p) := by
  intro k
  induction k with
  | zero => intro M j hk hj; omega
  | succ k ih =>
    intro M j hk hj
    rw [LX8_forgetsOldest_3g]
    split
    · exact ⟨by rw [mU_at]; rfl, fun i hi => mU_row hi, fun p h1 h2 => mU_ne _ _ _ h1⟩
    · rename_i hc
      have hj6 := lit_lt (N := 560) (j := j + 56) hc rfl (by omega)
      obtain ⟨i1, i2, i3⟩ := ih (mU M 129 j (M 129 (j + 56))) (j + 1) (by omega) (by omega)
      exact ⟨i1, i2, fun p h1 h2 => (i3 p h1 h2).trans (mU_ne _ _ _ h2)⟩
theorem fo_many {M : Mem} (hc : M 124 6 = 10) : UB (gX8_forgetsOldest M 124 6) 9 := by
  unfold gX8_forgetsOldest
  rw [(fo3 505 M 0 (by omega) (by omega)).1, hc]
  exact ⟨9, by decide, rfl⟩
def LX8_remembers_15g  : Nat → Mem → Nat → Mem
  | 0, M, _ => M
  | k + 1, M, j => if (56 : Int32) ≤ (nI (j)) then (mU M 124 6 ((M 124 6) + (1 : Int32))) else (LX8_remembers_15g k (mU M 129 (56 * ((M 124 6).toNatClampNeg) + j) (M 127 j)) (j + 1))
set_option maxHeartbeats 4000000 in
set_option maxRecDepth 100000 in
theorem cl_X8_remembers_15 (l : Launch) (D : va_G) (cy : Nat → ClassId) (b n : Nat) (hn : 133 ≤ n)   {p : Program} {e : Env} {s : State} {m : MethodId} {args : Array Value} {below : List Frame} {meth : Method} {c : Code} (hx : p.tables.exec = Jvm.exec) (hb : c.code = cX8_remembers) (hr : meth.sig.returnType = none) (hlocks : meth.locks = false) (hml : c.maxLocals = 2) (hown : s.vm.findClass RX8 = some m.cls) (hts : ∀ w ∈ wsX8_remembers, w.before args s = true) (hK : va_K D vwCl (tysW cy) s) (hX : SX b s)  : ∀ (k : Nat) (M : Mem) (j : Nat) (H : Heap) (locs : List Loc) (ls : Array Slot), UB (M 124 6) 9 → j ≤ 56 → 57 ≤ j + k → va_P D vwCl (wL cy b fT M n) H → va_S (fr b) s.heap H locs → lv_has ls 2 [(0, .ref (b + 124)), (1, .int (nI (j)))] → W p l e (headSpec wsX8_remembers ({ frames := 1, cells := 0, slots := 0, locals := 21 } : Room)).room s m args below meth c H locs 0 0 (MQ below (CQv D cy b n fT (LX8_remembers_15g k M j)) args s 0 0 (fr b)) (F0 m 15 ls []) := by
  have lk0 := hts (.fieldLink RX8 104 "HygrometerRoomModel" "oldMany" "I") (by decide +kernel)
  have lk1 := hts (.fieldLink RX8 22 "HygrometerRoomModel" "old" "[I") (by decide +kernel)
  have lk2 := hts (.fieldLink RX8 16 "HygrometerRoomModel" "now" "[I") (by decide +kernel)
  have inc8 : ∀ w ∈ u_ws RX8 TX8 22, w ∈ wsX8_remembers := by decide +kernel
  intro k
  induction k with
  | zero => intro M j H locs ls ho hj hk hP hS hl; omega
  | succ k ih =>
    intro M j H locs ls ho hj hk hP hS hl
    refine lv_iload_n hx hb dX8_remembers_15 rfl (lv_at hl 1 rfl) ?_
    refine lv_bipush (v := 56) hx hb dX8_remembers_16 (by decide) ?_
    refine lv_icmp_ge (tgt := 47) hx hb dX8_remembers_18 (by decide) (fun c18 => ?_) (fun c18 => ?_)
    · refine lv_aload_n hx hb dX8_remembers_47 rfl (lv_at hl 0 rfl) ?_
      refine lv_dup hx hb dX8_remembers_48 rfl ?_
      refine xg (C := RX8) (T := TX8) (N := 22) (v := .int (M 124 6)) hx hb hts inc8 hown hK hP (by omega) (cell8 (by decide)) rfl 6 (by decide) lk0 (fun _ h => h) rfl dX8_remembers_49 ?_
      refine lv_iconst (v := 1) hx hb dX8_remembers_52 (by decide) ?_
      refine lv_iadd hx hb dX8_remembers_53 ?_
      refine xp (C := RX8) (T := TX8) (N := 22) (ci := 8) (ty := .int) (x := (M 124 6) + (1 : Int32)) hx hb hts inc8 tyX8 tyX8_ok nmX8 hown hK hP hS (by omega) (fun _ => cell8 (by decide)) rfl 6 (by decide) rfl lk0 (fun _ h => h) rfl (tyX8_ok 6 (by decide)) rfl rfl (Nat.le_of_ble_eq_true rfl) dX8_remembers_54 (fun H locs hP hS => ?_)
      exact xe_v hx hb hr hlocks hP hS rfl (by rw [LX8_remembers_15g, if_pos c18] <;> rfl) (Nat.le_of_ble_eq_true rfl) (Nat.le_of_ble_eq_true rfl) dX8_remembers_57
    · have hj6 := lit_lt (N := 56) c18 rfl hj
      have ho9 := ub_at ho
      refine lv_aload_n hx hb dX8_remembers_21 rfl (lv_at hl 0 rfl) ?_
      refine xg (C := RX8) (T := TX8) (N := 22) (v := .ref (b + 129)) hx hb hts inc8 hown hK hP (by omega) (cell8 (by decide)) rfl 5 (by decide) lk1 (fun _ h => h) rfl dX8_remembers_22 ?_
      refine lv_aload_n hx hb dX8_remembers_25 rfl (lv_at hl 0 rfl) ?_
      refine xg (C := RX8) (T := TX8) (N := 22) (v := .int (M 124 6)) hx hb hts inc8 hown hK hP (by omega) (cell8 (by decide)) rfl 6 (by decide) lk0 (fun _ h => h) rfl dX8_remembers_26 ?_
      refine lv_bipush (v := 56) hx hb dX8_remembers_29 (by decide) ?_
      refine W.eq (g2 := F0 m 31 ls (.int (56 : Int32) :: .int (nI (((M 124 6).toNatClampNeg))) :: .ref (b + 129) :: [])) (congrArg (fun z => F0 m 31 ls (.int (56 : Int32) :: .int z :: .ref (b + 129) :: [])) (nat_ub ho)) ?_
      refine xmul (z := nI (56 * ((M 124 6).toNatClampNeg))) hx hb (ixMul (a := ((M 124 6).toNatClampNeg)) (c := 56) (d := 56 * ((M 124 6).toNatClampNeg)) rfl rfl (by omega)) dX8_remembers_31 ?_
      refine lv_iload_n hx hb dX8_remembers_32 rfl (lv_at hl 1 rfl) ?_
      refine xadd (z := nI (56 * ((M 124 6).toNatClampNeg) + j)) hx hb (ixAdd (a := 56 * ((M 124 6).toNatClampNeg)) (c := j) (d := 56 * ((M 124 6).toNatClampNeg) + j) rfl rfl (by omega)) dX8_remembers_33 ?_
      refine lv_aload_n hx hb dX8_remembers_34 rfl (lv_at hl 0 rfl) ?_
      refine xg (C := RX8) (T := TX8) (N := 22) (v := .ref (b + 127)) hx hb hts inc8 hown hK hP (by omega) (cell8 (by decide)) rfl 3 (by decide) lk2 (fun _ h => h) rfl dX8_remembers_35 ?_
      refine lv_iload_n hx hb dX8_remembers_38 rfl (lv_at hl 1 rfl) ?_
      refine xil (j := j) hx hb hK hP (by omega) (by decide) (ixIn (a := j) rfl (by first | decide | (simp only [lenOf]; omega) | omega) (by decide)) (ixAt (a := j) rfl (by omega)) dX8_remembers_39 ?_
      refine xis (j := 56 * ((M 124 6).toNatClampNeg) + j) (x := M 127 j) hx hb hK hP hS (by omega) (by decide) (ixIn (a := 56 * ((M 124 6).toNatClampNeg) + j) rfl (by first | decide | (simp only [lenOf]; omega) | omega) (by decide)) (ixAt (a := 56 * ((M 124 6).toNatClampNeg) + j) rfl (by omega)) dX8_remembers_40 (fun H locs hP hS => ?_)
      refine lv_iinc (v := nI (j + 1)) (lv' := [(1, .int (nI (j + 1))), (0, .ref (b + 124))]) hx hb dX8_remembers_41 hl (k := 1) rfl (ixAdd (a := j) (c := 1) (d := j + 1) rfl rfl (by omega)) (by decide) rfl (fun ls hl => ?_)
      refine lv_goto (tgt := 15) hx hb dX8_remembers_44 (by decide) ?_
      rw [show LX8_remembers_15g (k + 1) M j = LX8_remembers_15g k (mU M 129 (56 * ((M 124 6).toNatClampNeg) + j) (M 127 j)) (j + 1) from (by rw [LX8_remembers_15g, if_neg c18])]
      exact ih (mU M 129 (56 * ((M 124 6).toNatClampNeg) + j) (M 127 j)) (j + 1) H locs ls ho (by omega) (by omega) hP hS (lv_sub hl [1, 0] rfl)

def gX8_remembers (M : Mem) : Mem := if (M 124 6) = (10 : Int32) then (LX8_remembers_15g 57 (gX8_forgetsOldest M) 0) else (LX8_remembers_15g 57 M 0)
set_option maxHeartbeats 4000000 in
set_option maxRecDepth 100000 in
theorem c_X8_remembers (l : Launch) (D : va_G) (cy : Nat → ClassId) (b n : Nat) (hn : 133 ≤ n) (M : Mem)  (ho : UB (M 124 6) 10) : Met l yX8_remembers wsX8_remembers ({ frames := 1, cells := 0, slots := 0, locals := 21 } : Room) (CP D cy b n fT M [.ref (b + 124)]) (CQv D cy b n fT (gX8_remembers M)) 0 0 (fr b) := by
  refine Met.ofW (cc := cX8_remembers) (maxL := 2) (ret := none) (by decide) rfl ?_
  intro p e s m args below meth c s₁ B hml hv
  obtain ⟨rfl, hP, hK, hX⟩ := hv
  have hx := B.exec
  have hb := B.bytes
  have hr := B.returns
  have hts := atoms_spec (ws := wsX8_remembers) B.pre
  have hown : s.vm.findClass RX8 = some m.cls := findClass_of_methodNamed B.named
  have hlocks := B.notSynchronized
  have lk0 := hts (.fieldLink RX8 104 "HygrometerRoomModel" "oldMany" "I") (by decide +kernel)
  have inc8 : ∀ w ∈ u_ws RX8 TX8 22, w ∈ wsX8_remembers := by decide +kernel
  have hS : va_S (fr b) s.heap s.heap [] := va_S.rf
  have hl := lv_entry ([.ref (b + 124)]) (n := 2) (Nat.le_of_ble_eq_true rfl)
  rw [lg_entry_eq]
  generalize (lg_sl ([.ref (b + 124)]) ++ List.replicate (2 - (lg_sl ([.ref (b + 124)])).length) Slot.unset).toArray = ls at hl ⊢
  have hl : lv_has ls 2 [(0, .ref (b + 124))] := hl
  refine lv_aload_n hx hb dX8_remembers_0 rfl (lv_at hl 0 rfl) ?_
  refine xg (C := RX8) (T := TX8) (N := 22) (v := .int (M 124 6)) hx hb hts inc8 hown hK hP (by omega) (cell8 (by decide)) rfl 6 (by decide) lk0 (fun _ h => h) rfl dX8_remembers_1 ?_
  refine lv_bipush (v := 10) hx hb dX8_remembers_4 (by decide) ?_
  refine lv_icmp_ne (tgt := 13) hx hb dX8_remembers_6 (by decide) (fun c6 => ?_) (fun c6 => ?_)
  · refine lv_iconst (v := 0) hx hb dX8_remembers_13 (by decide) ?_
    refine lv_istore_n (lv' := [(1, .int (0 : Int32)), (0, .ref (b + 124))]) hx hb dX8_remembers_14 rfl hl (by decide) rfl (fun ls hl => ?_)
    rw [show gX8_remembers M = LX8_remembers_15g 57 M 0 from (by rw [gX8_remembers, if_neg c6])]
    exact cl_X8_remembers_15 l D cy b n hn  hx hb hr hlocks hml hown hts hK hX 57 M 0 s.heap [] ls (by first | exact fo_many c6 | exact ub_nine ho c6) (by omega) (by omega) hP hS (lv_sub hl [1, 0] rfl)
  · refine lv_aload_n hx hb dX8_remembers_9 rfl (lv_at hl 0 rfl) ?_
    refine xc_v (va_runV (As := []) (rest := []) ⟨hx, hb, hml, hown, hts⟩ (c_X8_forgetsOldest l D cy b n hn M ) (cwV 0 hts gX8_remembers_X8_forgetsOldest rfl rfl rfl (by decide +kernel) ⟨Nat.le_of_ble_eq_true rfl, Nat.le_of_ble_eq_true rfl⟩) (xPreV hP hK hX hS (by omega) (cell8 (by decide)) rfl) rfl rfl hl.1 rfl (lv_room (Nat.le_of_ble_eq_true rfl)) dX8_remembers_10 ⟨Nat.le_of_ble_eq_true rfl, Nat.le_of_ble_eq_true rfl⟩) hS (fun H locs hP hS => ?_)
    refine lv_iconst (v := 0) hx hb dX8_remembers_13 (by decide) ?_
    refine lv_istore_n (lv' := [(1, .int (0 : Int32)), (0, .ref (b + 124))]) hx hb dX8_remembers_14 rfl hl (by decide) rfl (fun ls hl => ?_)
    rw [show gX8_remembers M = LX8_remembers_15g 57 (gX8_forgetsOldest M) 0 from (by rw [gX8_remembers, if_pos c6])]
    exact cl_X8_remembers_15 l D cy b n hn  hx hb hr hlocks hml hown hts hK hX 57 (gX8_forgetsOldest M) 0 H locs ls (by first | exact fo_many c6 | exact ub_nine ho c6) (by omega) (by omega) hP hS (lv_sub hl [1, 0] rfl)
def LX8_putsAside_2g  : Nat → Mem → Nat → Mem
  | 0, M, _ => M
  | k + 1, M, j => if (56 : Int32) ≤ (nI (j)) then M else (LX8_putsAside_2g k (mU M 128 j (M 127 j)) (j + 1))
set_option maxHeartbeats 4000000 in
set_option maxRecDepth 100000 in
theorem cl_X8_putsAside_2 (l : Launch) (D : va_G) (cy : Nat → ClassId) (b n : Nat) (hn : 133 ≤ n)   {p : Program} {e : Env} {s : State} {m : MethodId} {args : Array Value} {below : List Frame} {meth : Method} {c : Code} (hx : p.tables.exec = Jvm.exec) (hb : c.code = cX8_putsAside) (hr : meth.sig.returnType = none) (hlocks : meth.locks = false) (hml : c.maxLocals = 2) (hown : s.vm.findClass RX8 = some m.cls) (hts : ∀ w ∈ wsX8_putsAside, w.before args s = true) (hK : va_K D vwCl (tysW cy) s) (hX : SX b s)  : ∀ (k : Nat) (M : Mem) (j : Nat) (H : Heap) (locs : List Loc) (ls : Array Slot), j ≤ 56 → 57 ≤ j + k → va_P D vwCl (wL cy b fT M n) H → va_S (fr b) s.heap H locs → lv_has ls 2 [(0, .ref (b + 124)), (1, .int (nI (j)))] → W p l e (headSpec wsX8_putsAside ({ frames := 0, cells := 0, slots := 0, locals := 0 } : Room)).room s m args below meth c H locs 0 0 (MQ below (CQv D cy b n fT (LX8_putsAside_2g k M j)) args s 0 0 (fr b)) (F0 m 2 ls []) := by
  have lk0 := hts (.fieldLink RX8 19 "HygrometerRoomModel" "aside" "[I") (by decide +kernel)
  have lk1 := hts (.fieldLink RX8 16 "HygrometerRoomModel" "now" "[I") (by decide +kernel)
  have inc8 : ∀ w ∈ u_ws RX8 TX8 22, w ∈ wsX8_putsAside := by decide +kernel
  intro k
  induction k with
  | zero => intro M j H locs ls hj hk hP hS hl; omega
  | succ k ih =>
    intro M j H locs ls hj hk hP hS hl
    refine lv_iload_n hx hb dX8_putsAside_2 rfl (lv_at hl 1 rfl) ?_
    refine lv_bipush (v := 56) hx hb dX8_putsAside_3 (by decide) ?_
    refine lv_icmp_ge (tgt := 26) hx hb dX8_putsAside_5 (by decide) (fun c5 => ?_) (fun c5 => ?_)
    · exact xe_v hx hb hr hlocks hP hS rfl (by rw [LX8_putsAside_2g, if_pos c5] <;> rfl) (Nat.le_of_ble_eq_true rfl) (Nat.le_of_ble_eq_true rfl) dX8_putsAside_26
    · have hj6 := lit_lt (N := 56) c5 rfl hj
      refine lv_aload_n hx hb dX8_putsAside_8 rfl (lv_at hl 0 rfl) ?_
      refine xg (C := RX8) (T := TX8) (N := 22) (v := .ref (b + 128)) hx hb hts inc8 hown hK hP (by omega) (cell8 (by decide)) rfl 4 (by decide) lk0 (fun _ h => h) rfl dX8_putsAside_9 ?_
      refine lv_iload_n hx hb dX8_putsAside_12 rfl (lv_at hl 1 rfl) ?_
      refine lv_aload_n hx hb dX8_putsAside_13 rfl (lv_at hl 0 rfl) ?_
      refine xg (C := RX8) (T := TX8) (N := 22) (v := .ref (b + 127)) hx hb hts inc8 hown hK hP (by omega) (cell8 (by decide)) rfl 3 (by decide) lk1 (fun _ h => h) rfl dX8_putsAside_14 ?_
      refine lv_iload_n hx hb dX8_putsAside_17 rfl (lv_at hl 1 rfl) ?_
      refine xil (j := j) hx hb hK hP (by omega) (by decide) (ixIn (a := j) rfl (by first | decide | (simp only [lenOf]; omega) | omega) (by decide)) (ixAt (a := j) rfl (by omega)) dX8_putsAside_18 ?_
      refine xis (j := j) (x := M 127 j) hx hb hK hP hS (by omega) (by decide) (ixIn (a := j) rfl (by first | decide | (simp only [lenOf]; omega) | omega) (by decide)) (ixAt (a := j) rfl (by omega)) dX8_putsAside_19 (fun H locs hP hS => ?_)
      refine lv_iinc (v := nI (j + 1)) (lv' := [(1, .int (nI (j + 1))), (0, .ref (b + 124))]) hx hb dX8_putsAside_20 hl (k := 1) rfl (ixAdd (a := j) (c := 1) (d := j + 1) rfl rfl (by omega)) (by decide) rfl (fun ls hl => ?_)
      refine lv_goto (tgt := 2) hx hb dX8_putsAside_23 (by decide) ?_
      rw [show LX8_putsAside_2g (k + 1) M j = LX8_putsAside_2g k (mU M 128 j (M 127 j)) (j + 1) from (by rw [LX8_putsAside_2g, if_neg c5])]
      exact ih (mU M 128 j (M 127 j)) (j + 1) H locs ls (by omega) (by omega) hP hS (lv_sub hl [1, 0] rfl)

def gX8_putsAside (M : Mem) : Mem := LX8_putsAside_2g 57 M 0
set_option maxHeartbeats 4000000 in
set_option maxRecDepth 100000 in
theorem c_X8_putsAside (l : Launch) (D : va_G) (cy : Nat → ClassId) (b n : Nat) (hn : 133 ≤ n) (M : Mem)   : Met l yX8_putsAside wsX8_putsAside ({ frames := 0, cells := 0, slots := 0, locals := 0 } : Room) (CP D cy b n fT M [.ref (b + 124)]) (CQv D cy b n fT (gX8_putsAside M)) 0 0 (fr b) := by
  refine Met.ofW (cc := cX8_putsAside) (maxL := 2) (ret := none) (by decide) rfl ?_
  intro p e s m args below meth c s₁ B hml hv
  obtain ⟨rfl, hP, hK, hX⟩ := hv
  have hx := B.exec
  have hb := B.bytes
  have hr := B.returns
  have hts := atoms_spec (ws := wsX8_putsAside) B.pre
  have hown : s.vm.findClass RX8 = some m.cls := findClass_of_methodNamed B.named
  have hlocks := B.notSynchronized
  have hS : va_S (fr b) s.heap s.heap [] := va_S.rf
  have hl := lv_entry ([.ref (b + 124)]) (n := 2) (Nat.le_of_ble_eq_true rfl)
  rw [lg_entry_eq]
  generalize (lg_sl ([.ref (b + 124)]) ++ List.replicate (2 - (lg_sl ([.ref (b + 124)])).length) Slot.unset).toArray = ls at hl ⊢
  have hl : lv_has ls 2 [(0, .ref (b + 124))] := hl
  refine lv_iconst (v := 0) hx hb dX8_putsAside_0 (by decide) ?_
  refine lv_istore_n (lv' := [(1, .int (0 : Int32)), (0, .ref (b + 124))]) hx hb dX8_putsAside_1 rfl hl (by decide) rfl (fun ls hl => ?_)
  rw [show gX8_putsAside M = LX8_putsAside_2g 57 M 0 from (by rw [gX8_putsAside])]
  exact cl_X8_putsAside_2 l D cy b n hn  hx hb hr hlocks hml hown hts hK hX 57 M 0 s.heap [] ls (by omega) (by omega) hP hS (lv_sub hl [1, 0] rfl)
def LX8_putsBack_2g  : Nat → Mem → Nat → Mem
  | 0, M, _ => M
  | k + 1, M, j => if (56 : Int32) ≤ (nI (j)) then M else (LX8_putsBack_2g k (mU M 127 j (M 128 j)) (j + 1))
set_option maxHeartbeats 4000000 in
set_option maxRecDepth 100000 in
theorem cl_X8_putsBack_2 (l : Launch) (D : va_G) (cy : Nat → ClassId) (b n : Nat) (hn : 133 ≤ n)   {p : Program} {e : Env} {s : State} {m : MethodId} {args : Array Value} {below : List Frame} {meth : Method} {c : Code} (hx : p.tables.exec = Jvm.exec) (hb : c.code = cX8_putsBack) (hr : meth.sig.returnType = none) (hlocks : meth.locks = false) (hml : c.maxLocals = 2) (hown : s.vm.findClass RX8 = some m.cls) (hts : ∀ w ∈ wsX8_putsBack, w.before args s = true) (hK : va_K D vwCl (tysW cy) s) (hX : SX b s)  : ∀ (k : Nat) (M : Mem) (j : Nat) (H : Heap) (locs : List Loc) (ls : Array Slot), j ≤ 56 → 57 ≤ j + k → va_P D vwCl (wL cy b fT M n) H → va_S (fr b) s.heap H locs → lv_has ls 2 [(0, .ref (b + 124)), (1, .int (nI (j)))] → W p l e (headSpec wsX8_putsBack ({ frames := 0, cells := 0, slots := 0, locals := 0 } : Room)).room s m args below meth c H locs 0 0 (MQ below (CQv D cy b n fT (LX8_putsBack_2g k M j)) args s 0 0 (fr b)) (F0 m 2 ls []) := by
  have lk0 := hts (.fieldLink RX8 16 "HygrometerRoomModel" "now" "[I") (by decide +kernel)
  have lk1 := hts (.fieldLink RX8 19 "HygrometerRoomModel" "aside" "[I") (by decide +kernel)
  have inc8 : ∀ w ∈ u_ws RX8 TX8 22, w ∈ wsX8_putsBack := by decide +kernel
  intro k
  induction k with
  | zero => intro M j H locs ls hj hk hP hS hl; omega
  | succ k ih =>
    intro M j H locs ls hj hk hP hS hl
    refine lv_iload_n hx hb dX8_putsBack_2 rfl (lv_at hl 1 rfl) ?_
    refine lv_bipush (v := 56) hx hb dX8_putsBack_3 (by decide) ?_
    refine lv_icmp_ge (tgt := 26) hx hb dX8_putsBack_5 (by decide) (fun c5 => ?_) (fun c5 => ?_)
    · exact xe_v hx hb hr hlocks hP hS rfl (by rw [LX8_putsBack_2g, if_pos c5] <;> rfl) (Nat.le_of_ble_eq_true rfl) (Nat.le_of_ble_eq_true rfl) dX8_putsBack_26
    · have hj6 := lit_lt (N := 56) c5 rfl hj
      refine lv_aload_n hx hb dX8_putsBack_8 rfl (lv_at hl 0 rfl) ?_
      refine xg (C := RX8) (T := TX8) (N := 22) (v := .ref (b + 127)) hx hb hts inc8 hown hK hP (by omega) (cell8 (by decide)) rfl 3 (by decide) lk0 (fun _ h => h) rfl dX8_putsBack_9 ?_
      refine lv_iload_n hx hb dX8_putsBack_12 rfl (lv_at hl 1 rfl) ?_
      refine lv_aload_n hx hb dX8_putsBack_13 rfl (lv_at hl 0 rfl) ?_
      refine xg (C := RX8) (T := TX8) (N := 22) (v := .ref (b + 128)) hx hb hts inc8 hown hK hP (by omega) (cell8 (by decide)) rfl 4 (by decide) lk1 (fun _ h => h) rfl dX8_putsBack_14 ?_
      refine lv_iload_n hx hb dX8_putsBack_17 rfl (lv_at hl 1 rfl) ?_
      refine xil (j := j) hx hb hK hP (by omega) (by decide) (ixIn (a := j) rfl (by first | decide | (simp only [lenOf]; omega) | omega) (by decide)) (ixAt (a := j) rfl (by omega)) dX8_putsBack_18 ?_
      refine xis (j := j) (x := M 128 j) hx hb hK hP hS (by omega) (by decide) (ixIn (a := j) rfl (by first | decide | (simp only [lenOf]; omega) | omega) (by decide)) (ixAt (a := j) rfl (by omega)) dX8_putsBack_19 (fun H locs hP hS => ?_)
      refine lv_iinc (v := nI (j + 1)) (lv' := [(1, .int (nI (j + 1))), (0, .ref (b + 124))]) hx hb dX8_putsBack_20 hl (k := 1) rfl (ixAdd (a := j) (c := 1) (d := j + 1) rfl rfl (by omega)) (by decide) rfl (fun ls hl => ?_)
      refine lv_goto (tgt := 2) hx hb dX8_putsBack_23 (by decide) ?_
      rw [show LX8_putsBack_2g (k + 1) M j = LX8_putsBack_2g k (mU M 127 j (M 128 j)) (j + 1) from (by rw [LX8_putsBack_2g, if_neg c5])]
      exact ih (mU M 127 j (M 128 j)) (j + 1) H locs ls (by omega) (by omega) hP hS (lv_sub hl [1, 0] rfl)

def gX8_putsBack (M : Mem) : Mem := LX8_putsBack_2g 57 M 0
set_option maxHeartbeats 4000000 in
set_option maxRecDepth 100000 in
theorem c_X8_putsBack (l : Launch) (D : va_G) (cy : Nat → ClassId) (b n : Nat) (hn : 133 ≤ n) (M : Mem)   : Met l yX8_putsBack wsX8_putsBack ({ frames := 0, cells := 0, slots := 0, locals := 0 } : Room) (CP D cy b n fT M [.ref (b + 124)]) (CQv D cy b n fT (gX8_putsBack M)) 0 0 (fr b) := by
  refine Met.ofW (cc := cX8_putsBack) (maxL := 2) (ret := none) (by decide) rfl ?_
  intro p e s m args below meth c s₁ B hml hv
  obtain ⟨rfl, hP, hK, hX⟩ := hv
  have hx := B.exec
  have hb := B.bytes
  have hr := B.returns
  have hts := atoms_spec (ws := wsX8_putsBack) B.pre
  have hown : s.vm.findClass RX8 = some m.cls := findClass_of_methodNamed B.named
  have hlocks := B.notSynchronized
  have hS : va_S (fr b) s.heap s.heap [] := va_S.rf
  have hl := lv_entry ([.ref (b + 124)]) (n := 2) (Nat.le_of_ble_eq_true rfl)
  rw [lg_entry_eq]
  generalize (lg_sl ([.ref (b + 124)]) ++ List.replicate (2 - (lg_sl ([.ref (b + 124)])).length) Slot.unset).toArray = ls at hl ⊢
  have hl : lv_has ls 2 [(0, .ref (b + 124))] := hl
  refine lv_iconst (v := 0) hx hb dX8_putsBack_0 (by decide) ?_
  refine lv_istore_n (lv' := [(1, .int (0 : Int32)), (0, .ref (b + 124))]) hx hb dX8_putsBack_1 rfl hl (by decide) rfl (fun ls hl => ?_)
  rw [show gX8_putsBack M = LX8_putsBack_2g 57 M 0 from (by rw [gX8_putsBack])]
  exact cl_X8_putsBack_2 l D cy b n hn  hx hb hr hlocks hml hown hts hK hX 57 M 0 s.heap [] ls (by omega) (by omega) hP hS (lv_sub hl [1, 0] rfl)
