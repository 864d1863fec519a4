/-! the reference reads its lines -/
def RV (M : Mem) : Prop := WX M ∧ MNY M ∧ BXS M
theorem rv_of {M M' : Mem} (h : RV M) (hw : WX M') (e : M' 127 = M 127) : RV M' := ⟨hw, by unfold MNY; rw [e]; exact h.2.1, fun j hj => by rw [e]; exact h.2.2 j hj⟩
theorem rv_nx {M : Mem} (h : RV M) : RV (gX8_next M) := rv_of h (wx_nx h.1) ((n8_nx M).1.1 127 (by decide))
theorem rv_er {M : Mem} {x : Int32} (h : RV M) : RV (gX8_errs M x) := rv_of h (wx_er h.1) ((nr_er M x).1 127 (by decide))
theorem rv_ih {M : Mem} (h : RV M) : RV (gX8_instrumentHere M) := rv_of h (wx_ih h.1) ((nr_ih M).1 127 (by decide))
theorem rv_tn {M : Mem} {x y : Int32} (h : RV M) : RV (gX8_takesNumber M x y) := rv_of h (wx_tn h.1) ((nr_tn M x y).1 127 (by decide))
theorem rv_go {M : Mem} (h : RV M) : RV (gX8_goesOn M) := rv_of h (wx_go h.1) ((nr_go M).1 127 (by decide))
theorem nr_hr (M : Mem) : NR M (gX8_hasRoom M) := by unfold gX8_hasRoom; split <;> first | exact nr_er M _ | exact nr_nx M
theorem wx_hr {M : Mem} (h : WX M) : WX (gX8_hasRoom M) := by unfold gX8_hasRoom; split <;> first | exact wx_er h | exact wx_nx h
theorem rv_hr {M : Mem} (h : RV M) : RV (gX8_hasRoom M) := rv_of h (wx_hr h.1) ((nr_hr M).1 127 (by decide))
theorem hr_six {M : Mem} (h : ¬ fX8_hasRoom M = 0) : ¬ M 127 5 = (6 : Int32) := fun e => h (by unfold fX8_hasRoom; rw [if_pos e])
theorem mny_hm {M M' : Mem} (h : MNY M) (h6 : ¬ M 127 5 = (6 : Int32)) (e : M' 127 = M 127) : ¬ M' 127 5 < 0 ∧ (M' 127 5).toNatClampNeg < 6 := by
  obtain ⟨c, hc, e0⟩ := h
  rw [e0] at h6
  rw [e, e0]
  have h5 : c < 6 := by
    rcases Nat.lt_or_ge c 6 with h | h
    · exact h
    · exact absurd (by rw [show c = 6 by omega]; rfl) h6
  exact ⟨fun hh => absurd hh (by rw [show (0 : Int32) = nI 0 from rfl, nI_ltI (by omega) (by omega)]; omega), by rw [nI_clamp (by omega)]; exact h5⟩
theorem hm_tn {M : Mem} {x y : Int32} (h : RV M) (h6 : ¬ fX8_hasRoom M = 0) : ¬ gX8_takesNumber (gX8_hasRoom M) x y 127 5 < 0 ∧ (gX8_takesNumber (gX8_hasRoom M) x y 127 5).toNatClampNeg < 6 := mny_hm h.2.1 (hr_six h6) (((nr_tn _ x y).1 127 (by decide)).trans ((nr_hr M).1 127 (by decide)))
/-- the number at the reader's hand is one of an instrument -/
def IV (v : Int32) : Prop := ¬ v < 0 ∧ v.toNatClampNeg < 6
theorem iv_ih {M : Mem} (h : RV M) (h0 : gX8_instrumentHere M 124 20 = 0) : IV (fX8_instrumentHere M) := ⟨(fz_ih h.2.1 h0).2.2.1, (fz_ih h.2.1 h0).2.2.2.1⟩
theorem go_z {M : Mem} {x y : Int32} (h : gX8_takesNumber (gX8_goesOn M) x y 124 20 = 0) : M 124 20 = 0 := (fz_go (M := M)).symm.trans (fz_tn h).1
theorem mm_ub {M : Mem} {mx : Int32} (h : gX8_takesNumber M 1 mx 124 20 = 0) (hm : mx ≤ 99) : UB (fX8_takesNumber M 1 mx) 200 := by
  obtain ⟨h1, h2, h3⟩ := fz_tn h
  obtain ⟨r1, r2⟩ := in_rng h3
  rw [h2]
  exact (ub_1 (N := 99) r1 (Int32.le_trans r2 hm) rfl).mono (by omega)
theorem tx_row {M M' : Mem} (e : M' 124 = M 124) (h : TX M) : TX M' := by unfold TX; rw [e]; exact h
theorem wx_row {M M' : Mem} (e : M' 124 = M 124) (h : WX M) : WX M' := by unfold WX; rw [e]; exact h
theorem ti_ne {M : Mem} {k p : Nat} (hp : p ≠ 127) : gX8_tightens M k p = M p := by
  unfold gX8_tightens
  (repeat' split) <;> repeat rw [mU_ne _ _ _ hp]
theorem mo_ne {M : Mem} {k p : Nat} (hp : p ≠ 127) : gX8_moistens M k p = M p := by
  unfold gX8_moistens
  (repeat' split) <;> repeat rw [mU_ne _ _ _ hp]
theorem tx_ti {M : Mem} {k : Nat} (h : TX M) : TX (gX8_tightens M k) := tx_row (ti_ne (by decide)) h
theorem tx_mo {M : Mem} {k : Nat} (h : TX M) : TX (gX8_moistens M k) := tx_row (mo_ne (by decide)) h
def gX8_readsHair (M : Mem) : Mem := if (fX8_hasRoom M) = 0 then (gX8_hasRoom M) else (if ((gX8_takesNumber (gX8_hasRoom M) (1 : Int32) (20 : Int32)) 124 20) = 0 then (gX8_hangsHair (gX8_takesNumber (gX8_hasRoom M) (1 : Int32) (20 : Int32)) (fX8_takesNumber (gX8_hasRoom M) (1 : Int32) (20 : Int32))) else (gX8_takesNumber (gX8_hasRoom M) (1 : Int32) (20 : Int32)))
set_option maxHeartbeats 4000000 in
set_option maxRecDepth 100000 in
theorem c_X8_readsHair (l : Launch) (D : va_G) (cy : Nat → ClassId) (b n : Nat) (hn : 133 ≤ n) (M : Mem)  (hrv : RV M) : Met l yX8_readsHair wsX8_readsHair ({ frames := 5, cells := 0, slots := 0, locals := 106 } : Room) (CP D cy b n fT M [.ref (b + 124)]) (CQv D cy b n fT (gX8_readsHair M)) 0 0 (fr b) := by
  refine Met.ofW (cc := cX8_readsHair) (maxL := 2) (ret := none) (by decide) rfl ?_
  intro p e s m args below meth c s₁ B hml hv
  obtain ⟨rfl, hP, hK, hX⟩ := hv
  have hx := B.exec
  have hb := B.bytes
  have hr := B.returns
  have hts := atoms_spec (ws := wsX8_readsHair) B.pre
  have hown : s.vm.findClass RX8 = some m.cls := findClass_of_methodNamed B.named
  have hlocks := B.notSynchronized
  have lk0 := hts (.fieldLink RX8 138 "HygrometerRoomModel" "fault" "I") (by decide +kernel)
  have inc8 : ∀ w ∈ u_ws RX8 TX8 22, w ∈ wsX8_readsHair := by decide +kernel
  have hS : va_S (fr b) s.heap s.heap [] := va_S.rf
  have hl := lv_entry ([.ref (b + 124)]) (n := 2) (Nat.le_of_ble_eq_true rfl)
  rw [lg_entry_eq]
  generalize (lg_sl ([.ref (b + 124)]) ++ List.replicate (2 - (lg_sl ([.ref (b + 124)])).length) Slot.unset).toArray = ls at hl ⊢
  have hl : lv_has ls 2 [(0, .ref (b + 124))] := hl
  refine lv_aload_n hx hb dX8_readsHair_0 rfl (lv_at hl 0 rfl) ?_
  refine xc_i (va_runV (As := []) (rest := []) ⟨hx, hb, hml, hown, hts⟩ (c_X8_hasRoom l D cy b n hn M hrv.1) (cwV 0 hts gX8_readsHair_X8_hasRoom rfl rfl rfl (by decide +kernel) ⟨Nat.le_of_ble_eq_true rfl, Nat.le_of_ble_eq_true rfl⟩) (xPreV hP hK hX hS (by omega) (cell8 (by decide)) rfl) rfl rfl hl.1 rfl (lv_room (Nat.le_of_ble_eq_true rfl)) dX8_readsHair_1 ⟨Nat.le_of_ble_eq_true rfl, Nat.le_of_ble_eq_true rfl⟩) hS (fun H locs hP hS => ?_)
  refine lv_if_ne (tgt := 8) hx hb dX8_readsHair_4 (by decide) (fun c4 => ?_) (fun c4 => ?_)
  · refine lv_aload_n hx hb dX8_readsHair_8 rfl (lv_at hl 0 rfl) ?_
    refine lv_iconst (v := 1) hx hb dX8_readsHair_9 (by decide) ?_
    refine lv_bipush (v := 20) hx hb dX8_readsHair_10 (by decide) ?_
    refine xc_i (va_runV (As := [.int (1 : Int32), .int (20 : Int32)]) (rest := []) ⟨hx, hb, hml, hown, hts⟩ (c_X8_takesNumber l D cy b n hn (gX8_hasRoom M) (1 : Int32) (20 : Int32) (wx_hr hrv.1)) (cwV 2 hts gX8_readsHair_X8_takesNumber rfl rfl rfl (by decide +kernel) ⟨Nat.le_of_ble_eq_true rfl, Nat.le_of_ble_eq_true rfl⟩) (xPreV hP hK hX hS (by omega) (cell8 (by decide)) rfl) rfl rfl hl.1 rfl (lv_room (Nat.le_of_ble_eq_true rfl)) dX8_readsHair_12 ⟨Nat.le_of_ble_eq_true rfl, Nat.le_of_ble_eq_true rfl⟩) hS (fun H locs hP hS => ?_)
    refine lv_istore_n (lv' := [(1, .int (fX8_takesNumber (gX8_hasRoom M) (1 : Int32) (20 : Int32))), (0, .ref (b + 124))]) hx hb dX8_readsHair_15 rfl hl (by decide) rfl (fun ls hl => ?_)
    refine lv_aload_n hx hb dX8_readsHair_16 rfl (lv_at hl 1 rfl) ?_
    refine xg (C := RX8) (T := TX8) (N := 22) (v := .int ((gX8_takesNumber (gX8_hasRoom M) (1 : Int32) (20 : Int32)) 124 20)) hx hb hts inc8 hown hK hP (by omega) (cell8 (by decide)) rfl 20 (by decide) lk0 (fun _ h => h) rfl dX8_readsHair_17 ?_
    refine lv_if_ne (tgt := 28) hx hb dX8_readsHair_20 (by decide) (fun c20 => ?_) (fun c20 => ?_)
    · exact xe_v hx hb hr hlocks hP hS rfl (by rw [gX8_readsHair, if_neg c4, if_neg c20] <;> rfl) (Nat.le_of_ble_eq_true rfl) (Nat.le_of_ble_eq_true rfl) dX8_readsHair_28
    · refine lv_aload_n hx hb dX8_readsHair_23 rfl (lv_at hl 1 rfl) ?_
      refine lv_iload_n hx hb dX8_readsHair_24 rfl (lv_at hl 0 rfl) ?_
      refine xc_v (va_runV (As := [.int (fX8_takesNumber (gX8_hasRoom M) (1 : Int32) (20 : Int32))]) (rest := []) ⟨hx, hb, hml, hown, hts⟩ (c_X8_hangsHair l D cy b n hn (gX8_takesNumber (gX8_hasRoom M) (1 : Int32) (20 : Int32)) (fX8_takesNumber (gX8_hasRoom M) (1 : Int32) (20 : Int32)) (hm_tn hrv c4).1 (hm_tn hrv c4).2) (cwV 1 hts gX8_readsHair_X8_hangsHair rfl rfl rfl (by decide +kernel) ⟨Nat.le_of_ble_eq_true rfl, Nat.le_of_ble_eq_true rfl⟩) (xPreV hP hK hX hS (by omega) (cell8 (by decide)) rfl) rfl rfl hl.1 rfl (lv_room (Nat.le_of_ble_eq_true rfl)) dX8_readsHair_25 ⟨Nat.le_of_ble_eq_true rfl, Nat.le_of_ble_eq_true rfl⟩) hS (fun H locs hP hS => ?_)
      exact xe_v hx hb hr hlocks hP hS rfl (by rw [gX8_readsHair, if_neg c4, if_pos c20] <;> rfl) (Nat.le_of_ble_eq_true rfl) (Nat.le_of_ble_eq_true rfl) dX8_readsHair_28
  · exact xe_v hx hb hr hlocks hP hS rfl (by rw [gX8_readsHair, if_pos c4] <;> rfl) (Nat.le_of_ble_eq_true rfl) (Nat.le_of_ble_eq_true rfl) dX8_readsHair_7
def gX8_readsBulb (M : Mem) : Mem := if (fX8_hasRoom M) = 0 then (gX8_hasRoom M) else (if ((gX8_takesNumber (gX8_hasRoom M) (0 : Int32) (60 : Int32)) 124 20) = 0 then (gX8_hangsBulb (gX8_takesNumber (gX8_hasRoom M) (0 : Int32) (60 : Int32)) (fX8_takesNumber (gX8_hasRoom M) (0 : Int32) (60 : Int32))) else (gX8_takesNumber (gX8_hasRoom M) (0 : Int32) (60 : Int32)))
set_option maxHeartbeats 4000000 in
set_option maxRecDepth 100000 in
theorem c_X8_readsBulb (l : Launch) (D : va_G) (cy : Nat → ClassId) (b n : Nat) (hn : 133 ≤ n) (M : Mem)  (hrv : RV M) : Met l yX8_readsBulb wsX8_readsBulb ({ frames := 5, cells := 0, slots := 0, locals := 106 } : Room) (CP D cy b n fT M [.ref (b + 124)]) (CQv D cy b n fT (gX8_readsBulb M)) 0 0 (fr b) := by
  refine Met.ofW (cc := cX8_readsBulb) (maxL := 2) (ret := none) (by decide) rfl ?_
  intro p e s m args below meth c s₁ B hml hv
  obtain ⟨rfl, hP, hK, hX⟩ := hv
  have hx := B.exec
  have hb := B.bytes
  have hr := B.returns
  have hts := atoms_spec (ws := wsX8_readsBulb) B.pre
  have hown : s.vm.findClass RX8 = some m.cls := findClass_of_methodNamed B.named
  have hlocks := B.notSynchronized
  have lk0 := hts (.fieldLink RX8 138 "HygrometerRoomModel" "fault" "I") (by decide +kernel)
  have inc8 : ∀ w ∈ u_ws RX8 TX8 22, w ∈ wsX8_readsBulb := by decide +kernel
  have hS : va_S (fr b) s.heap s.heap [] := va_S.rf
  have hl := lv_entry ([.ref (b + 124)]) (n := 2) (Nat.le_of_ble_eq_true rfl)
  rw [lg_entry_eq]
  generalize (lg_sl ([.ref (b + 124)]) ++ List.replicate (2 - (lg_sl ([.ref (b + 124)])).length) Slot.unset).toArray = ls at hl ⊢
  have hl : lv_has ls 2 [(0, .ref (b + 124))] := hl
  refine lv_aload_n hx hb dX8_readsBulb_0 rfl (lv_at hl 0 rfl) ?_
  refine xc_i (va_runV (As := []) (rest := []) ⟨hx, hb, hml, hown, hts⟩ (c_X8_hasRoom l D cy b n hn M hrv.1) (cwV 0 hts gX8_readsBulb_X8_hasRoom rfl rfl rfl (by decide +kernel) ⟨Nat.le_of_ble_eq_true rfl, Nat.le_of_ble_eq_true rfl⟩) (xPreV hP hK hX hS (by omega) (cell8 (by decide)) rfl) rfl rfl hl.1 rfl (lv_room (Nat.le_of_ble_eq_true rfl)) dX8_readsBulb_1 ⟨Nat.le_of_ble_eq_true rfl, Nat.le_of_ble_eq_true rfl⟩) hS (fun H locs hP hS => ?_)
  refine lv_if_ne (tgt := 8) hx hb dX8_readsBulb_4 (by decide) (fun c4 => ?_) (fun c4 => ?_)
  · refine lv_aload_n hx hb dX8_readsBulb_8 rfl (lv_at hl 0 rfl) ?_
    refine lv_iconst (v := 0) hx hb dX8_readsBulb_9 (by decide) ?_
    refine lv_bipush (v := 60) hx hb dX8_readsBulb_10 (by decide) ?_
    refine xc_i (va_runV (As := [.int (0 : Int32), .int (60 : Int32)]) (rest := []) ⟨hx, hb, hml, hown, hts⟩ (c_X8_takesNumber l D cy b n hn (gX8_hasRoom M) (0 : Int32) (60 : Int32) (wx_hr hrv.1)) (cwV 2 hts gX8_readsBulb_X8_takesNumber rfl rfl rfl (by decide +kernel) ⟨Nat.le_of_ble_eq_true rfl, Nat.le_of_ble_eq_true rfl⟩) (xPreV hP hK hX hS (by omega) (cell8 (by decide)) rfl) rfl rfl hl.1 rfl (lv_room (Nat.le_of_ble_eq_true rfl)) dX8_readsBulb_12 ⟨Nat.le_of_ble_eq_true rfl, Nat.le_of_ble_eq_true rfl⟩) hS (fun H locs hP hS => ?_)
    refine lv_istore_n (lv' := [(1, .int (fX8_takesNumber (gX8_hasRoom M) (0 : Int32) (60 : Int32))), (0, .ref (b + 124))]) hx hb dX8_readsBulb_15 rfl hl (by decide) rfl (fun ls hl => ?_)
    refine lv_aload_n hx hb dX8_readsBulb_16 rfl (lv_at hl 1 rfl) ?_
    refine xg (C := RX8) (T := TX8) (N := 22) (v := .int ((gX8_takesNumber (gX8_hasRoom M) (0 : Int32) (60 : Int32)) 124 20)) hx hb hts inc8 hown hK hP (by omega) (cell8 (by decide)) rfl 20 (by decide) lk0 (fun _ h => h) rfl dX8_readsBulb_17 ?_
    refine lv_if_ne (tgt := 28) hx hb dX8_readsBulb_20 (by decide) (fun c20 => ?_) (fun c20 => ?_)
    · exact xe_v hx hb hr hlocks hP hS rfl (by rw [gX8_readsBulb, if_neg c4, if_neg c20] <;> rfl) (Nat.le_of_ble_eq_true rfl) (Nat.le_of_ble_eq_true rfl) dX8_readsBulb_28
    · refine lv_aload_n hx hb dX8_readsBulb_23 rfl (lv_at hl 1 rfl) ?_
      refine lv_iload_n hx hb dX8_readsBulb_24 rfl (lv_at hl 0 rfl) ?_
      refine xc_v (va_runV (As := [.int (fX8_takesNumber (gX8_hasRoom M) (0 : Int32) (60 : Int32))]) (rest := []) ⟨hx, hb, hml, hown, hts⟩ (c_X8_hangsBulb l D cy b n hn (gX8_takesNumber (gX8_hasRoom M) (0 : Int32) (60 : Int32)) (fX8_takesNumber (gX8_hasRoom M) (0 : Int32) (60 : Int32)) (hm_tn hrv c4).1 (hm_tn hrv c4).2) (cwV 1 hts gX8_readsBulb_X8_hangsBulb rfl rfl rfl (by decide +kernel) ⟨Nat.le_of_ble_eq_true rfl, Nat.le_of_ble_eq_true rfl⟩) (xPreV hP hK hX hS (by omega) (cell8 (by decide)) rfl) rfl rfl hl.1 rfl (lv_room (Nat.le_of_ble_eq_true rfl)) dX8_readsBulb_25 ⟨Nat.le_of_ble_eq_true rfl, Nat.le_of_ble_eq_true rfl⟩) hS (fun H locs hP hS => ?_)
      exact xe_v hx hb hr hlocks hP hS rfl (by rw [gX8_readsBulb, if_neg c4, if_pos c20] <;> rfl) (Nat.le_of_ble_eq_true rfl) (Nat.le_of_ble_eq_true rfl) dX8_readsBulb_28
  · exact xe_v hx hb hr hlocks hP hS rfl (by rw [gX8_readsBulb, if_pos c4] <;> rfl) (Nat.le_of_ble_eq_true rfl) (Nat.le_of_ble_eq_true rfl) dX8_readsBulb_7
def LX8_readsBox_29g  : Nat → Mem → Int32 → Mem
  | 0, M, _ => M
  | k + 1, M, v => if ((gX8_takesNumber (gX8_goesOn M) (0 : Int32) (3 : Int32)) 124 20) = 0 then (mU (gX8_takesNumber (gX8_goesOn M) (0 : Int32) (3 : Int32)) 127 (8 * v.toNatClampNeg + 15) (fX8_takesNumber (gX8_goesOn M) (0 : Int32) (3 : Int32))) else (gX8_takesNumber (gX8_goesOn M) (0 : Int32) (3 : Int32))
set_option maxHeartbeats 4000000 in
set_option maxRecDepth 100000 in
theorem cl_X8_readsBox_29 (l : Launch) (D : va_G) (cy : Nat → ClassId) (b n : Nat) (hn : 133 ≤ n)   {p : Program} {e : Env} {s : State} {m : MethodId} {args : Array Value} {below : List Frame} {meth : Method} {c : Code} (hx : p.tables.exec = Jvm.exec) (hb : c.code = cX8_readsBox) (hr : meth.sig.returnType = none) (hlocks : meth.locks = false) (hml : c.maxLocals = 3) (hown : s.vm.findClass RX8 = some m.cls) (hts : ∀ w ∈ wsX8_readsBox, w.before args s = true) (hK : va_K D vwCl (tysW cy) s) (hX : SX b s)  : ∀ (k : Nat) (M : Mem) (v : Int32) (H : Heap) (locs : List Loc) (ls : Array Slot), RV M → (M 124 20 = 0 → IV v) → 0 < k → va_P D vwCl (wL cy b fT M n) H → va_S (fr b) s.heap H locs → lv_has ls 3 [(0, .ref (b + 124)), (1, .int v)] → W p l e (headSpec wsX8_readsBox ({ frames := 5, cells := 0, slots := 0, locals := 106 } : Room)).room s m args below meth c H locs 0 0 (MQ below (CQv D cy b n fT (LX8_readsBox_29g k M v)) args s 0 0 (fr b)) (F0 m 29 ls []) := by
  have lk0 := hts (.fieldLink RX8 138 "HygrometerRoomModel" "fault" "I") (by decide +kernel)
  have lk1 := hts (.fieldLink RX8 16 "HygrometerRoomModel" "now" "[I") (by decide +kernel)
  have inc8 : ∀ w ∈ u_ws RX8 TX8 22, w ∈ wsX8_readsBox := by decide +kernel
  intro k
  induction k with
  | zero => intro M v H locs ls hrv hv hk hP hS hl; omega
  | succ k ih =>
    intro M v H locs ls hrv hv hk hP hS hl
    refine lv_aload_n hx hb dX8_readsBox_29 rfl (lv_at hl 0 rfl) ?_
    refine xc_v (va_runV (As := []) (rest := []) ⟨hx, hb, hml, hown, hts⟩ (c_X8_goesOn l D cy b n hn M hrv.1) (cwV 0 hts gX8_readsBox_X8_goesOn rfl rfl rfl (by decide +kernel) ⟨Nat.le_of_ble_eq_true rfl, Nat.le_of_ble_eq_true rfl⟩) (xPreV hP hK hX hS (by omega) (cell8 (by decide)) rfl) rfl rfl hl.1 rfl (lv_room (Nat.le_of_ble_eq_true rfl)) dX8_readsBox_30 ⟨Nat.le_of_ble_eq_true rfl, Nat.le_of_ble_eq_true rfl⟩) hS (fun H locs hP hS => ?_)
    refine lv_aload_n hx hb dX8_readsBox_33 rfl (lv_at hl 0 rfl) ?_
    refine lv_iconst (v := 0) hx hb dX8_readsBox_34 (by decide) ?_
    refine lv_iconst (v := 3) hx hb dX8_readsBox_35 (by decide) ?_
    refine xc_i (va_runV (As := [.int (0 : Int32), .int (3 : Int32)]) (rest := []) ⟨hx, hb, hml, hown, hts⟩ (c_X8_takesNumber l D cy b n hn (gX8_goesOn M) (0 : Int32) (3 : Int32) (wx_go hrv.1)) (cwV 2 hts gX8_readsBox_X8_takesNumber rfl rfl rfl (by decide +kernel) ⟨Nat.le_of_ble_eq_true rfl, Nat.le_of_ble_eq_true rfl⟩) (xPreV hP hK hX hS (by omega) (cell8 (by decide)) rfl) rfl rfl hl.1 rfl (lv_room (Nat.le_of_ble_eq_true rfl)) dX8_readsBox_36 ⟨Nat.le_of_ble_eq_true rfl, Nat.le_of_ble_eq_true rfl⟩) hS (fun H locs hP hS => ?_)
    refine lv_istore_n (lv' := [(2, .int (fX8_takesNumber (gX8_goesOn M) (0 : Int32) (3 : Int32))), (0, .ref (b + 124)), (1, .int v)]) hx hb dX8_readsBox_39 rfl hl (by decide) rfl (fun ls hl => ?_)
    refine lv_aload_n hx hb dX8_readsBox_40 rfl (lv_at hl 1 rfl) ?_
    refine xg (C := RX8) (T := TX8) (N := 22) (v := .int ((gX8_takesNumber (gX8_goesOn M) (0 : Int32) (3 : Int32)) 124 20)) hx hb hts inc8 hown hK hP (by omega) (cell8 (by decide)) rfl 20 (by decide) lk0 (fun _ h => h) rfl dX8_readsBox_41 ?_
    refine lv_if_ne (tgt := 60) hx hb dX8_readsBox_44 (by decide) (fun c44 => ?_) (fun c44 => ?_)
    · exact xe_v hx hb hr hlocks hP hS rfl (by rw [LX8_readsBox_29g, if_neg c44] <;> rfl) (Nat.le_of_ble_eq_true rfl) (Nat.le_of_ble_eq_true rfl) dX8_readsBox_60
    · refine lv_aload_n hx hb dX8_readsBox_47 rfl (lv_at hl 1 rfl) ?_
      refine xg (C := RX8) (T := TX8) (N := 22) (v := .ref (b + 127)) hx hb hts inc8 hown hK hP (by omega) (cell8 (by decide)) rfl 3 (by decide) lk1 (fun _ h => h) rfl dX8_readsBox_48 ?_
      refine lv_iload_n hx hb dX8_readsBox_51 rfl (lv_at hl 2 rfl) ?_
      have hk6 := (hv (go_z c44)).2
      refine W.eq (g2 := F0 m 52 ls (.int (nI (v.toNatClampNeg)) :: .ref (b + 127) :: [])) (congrArg (fun z => F0 m 52 ls (.int z :: .ref (b + 127) :: [])) (nat_of (hv (go_z c44)).1)) ?_
      refine xc_i (va_runS (As := [.int (nI (v.toNatClampNeg))]) (rest := [.ref (b + 127)]) ⟨hx, hb, hml, hown, hts⟩ (c_X8_i l D cy b n hn (gX8_takesNumber (gX8_goesOn M) (0 : Int32) (3 : Int32)) v.toNatClampNeg) (va_cwS 1 hts gX8_readsBox_X8_i rfl rfl rfl (by decide +kernel) ⟨Nat.le_of_ble_eq_true rfl, Nat.le_of_ble_eq_true rfl⟩) (xPreS hP hK hX hS) rfl rfl hl.1 rfl (lv_room (Nat.le_of_ble_eq_true rfl)) dX8_readsBox_52 ⟨Nat.le_of_ble_eq_true rfl, Nat.le_of_ble_eq_true rfl⟩) hS (fun H locs hP hS => ?_)
      refine W.eq (g2 := F0 m 55 ls (.int (nI (8 * v.toNatClampNeg + 8)) :: .ref (b + 127) :: [])) (congrArg (fun z => F0 m 55 ls (.int z :: .ref (b + 127) :: [])) (show fX8_i (gX8_takesNumber (gX8_goesOn M) (0 : Int32) (3 : Int32)) v.toNatClampNeg = nI (8 * v.toNatClampNeg + 8) from by unfold fX8_i; exact congrArg nI (by omega))) ?_
      refine lv_bipush (v := 7) hx hb dX8_readsBox_55 (by decide) ?_
      refine xadd (z := nI (8 * v.toNatClampNeg + 15)) hx hb (ixAdd (a := 8 * v.toNatClampNeg + 8) (c := 7) (d := 8 * v.toNatClampNeg + 15) rfl rfl (by omega)) dX8_readsBox_57 ?_
      refine lv_iload_n hx hb dX8_readsBox_58 rfl (lv_at hl 0 rfl) ?_
      refine xis (j := 8 * v.toNatClampNeg + 15) (x := fX8_takesNumber (gX8_goesOn M) (0 : Int32) (3 : Int32)) hx hb hK hP hS (by omega) (by decide) (ixIn (a := 8 * v.toNatClampNeg + 15) rfl (by first | decide | (simp only [lenOf]; omega) | omega) (by decide)) (ixAt (a := 8 * v.toNatClampNeg + 15) rfl (by omega)) dX8_readsBox_59 (fun H locs hP hS => ?_)
      exact xe_v hx hb hr hlocks hP hS rfl (by rw [LX8_readsBox_29g, if_pos c44] <;> rfl) (Nat.le_of_ble_eq_true rfl) (Nat.le_of_ble_eq_true rfl) dX8_readsBox_60

def gX8_readsBox (M : Mem) : Mem := if ((gX8_instrumentHere (gX8_next M)) 124 20) = 0 then (if (fX8_isBoxed (gX8_instrumentHere (gX8_next M)) ((fX8_instrumentHere (gX8_next M)).toNatClampNeg)) = 0 then (LX8_readsBox_29g 1 (gX8_instrumentHere (gX8_next M)) (fX8_instrumentHere (gX8_next M))) else (LX8_readsBox_29g 1 (gX8_errs (gX8_instrumentHere (gX8_next M)) (5 : Int32)) (fX8_instrumentHere (gX8_next M)))) else (LX8_readsBox_29g 1 (gX8_instrumentHere (gX8_next M)) (fX8_instrumentHere (gX8_next M)))
set_option maxHeartbeats 4000000 in
set_option maxRecDepth 100000 in
theorem c_X8_readsBox (l : Launch) (D : va_G) (cy : Nat → ClassId) (b n : Nat) (hn : 133 ≤ n) (M : Mem)  (hrv : RV M) : Met l yX8_readsBox wsX8_readsBox ({ frames := 5, cells := 0, slots := 0, locals := 106 } : Room) (CP D cy b n fT M [.ref (b + 124)]) (CQv D cy b n fT (gX8_readsBox M)) 0 0 (fr b) := by
  refine Met.ofW (cc := cX8_readsBox) (maxL := 3) (ret := none) (by decide) rfl ?_
  intro p e s m args below meth c s₁ B hml hv
  obtain ⟨rfl, hP, hK, hX⟩ := hv
  have hx := B.exec
  have hb := B.bytes
  have hr := B.returns
  have hts := atoms_spec (ws := wsX8_readsBox) B.pre
  have hown : s.vm.findClass RX8 = some m.cls := findClass_of_methodNamed B.named
  have hlocks := B.notSynchronized
  have lk0 := hts (.fieldLink RX8 138 "HygrometerRoomModel" "fault" "I") (by decide +kernel)
  have inc8 : ∀ w ∈ u_ws RX8 TX8 22, w ∈ wsX8_readsBox := by decide +kernel
  have hS : va_S (fr b) s.heap s.heap [] := va_S.rf
  have hl := lv_entry ([.ref (b + 124)]) (n := 3) (Nat.le_of_ble_eq_true rfl)
  rw [lg_entry_eq]
  generalize (lg_sl ([.ref (b + 124)]) ++ List.replicate (3 - (lg_sl ([.ref (b + 124)])).length) Slot.unset).toArray = ls at hl ⊢
  have hl : lv_has ls 3 [(0, .ref (b + 124))] := hl
  refine lv_aload_n hx hb dX8_readsBox_0 rfl (lv_at hl 0 rfl) ?_
  refine xc_v (va_runV (As := []) (rest := []) ⟨hx, hb, hml, hown, hts⟩ (c_X8_next l D cy b n hn M hrv.1.tx) (cwV 0 hts gX8_readsBox_X8_next rfl rfl rfl (by decide +kernel) ⟨Nat.le_of_ble_eq_true rfl, Nat.le_of_ble_eq_true rfl⟩) (xPreV hP hK hX hS (by omega) (cell8 (by decide)) rfl) rfl rfl hl.1 rfl (lv_room (Nat.le_of_ble_eq_true rfl)) dX8_readsBox_1 ⟨Nat.le_of_ble_eq_true rfl, Nat.le_of_ble_eq_true rfl⟩) hS (fun H locs hP hS => ?_)
  refine lv_aload_n hx hb dX8_readsBox_4 rfl (lv_at hl 0 rfl) ?_
  refine xc_i (va_runV (As := []) (rest := []) ⟨hx, hb, hml, hown, hts⟩ (c_X8_instrumentHere l D cy b n hn (gX8_next M) ) (cwV 0 hts gX8_readsBox_X8_instrumentHere rfl rfl rfl (by decide +kernel) ⟨Nat.le_of_ble_eq_true rfl, Nat.le_of_ble_eq_true rfl⟩) (xPreV hP hK hX hS (by omega) (cell8 (by decide)) rfl) rfl rfl hl.1 rfl (lv_room (Nat.le_of_ble_eq_true rfl)) dX8_readsBox_5 ⟨Nat.le_of_ble_eq_true rfl, Nat.le_of_ble_eq_true rfl⟩) hS (fun H locs hP hS => ?_)
  refine lv_istore_n (lv' := [(1, .int (fX8_instrumentHere (gX8_next M))), (0, .ref (b + 124))]) hx hb dX8_readsBox_8 rfl hl (by decide) rfl (fun ls hl => ?_)
  refine lv_aload_n hx hb dX8_readsBox_9 rfl (lv_at hl 1 rfl) ?_
  refine xg (C := RX8) (T := TX8) (N := 22) (v := .int ((gX8_instrumentHere (gX8_next M)) 124 20)) hx hb hts inc8 hown hK hP (by omega) (cell8 (by decide)) rfl 20 (by decide) lk0 (fun _ h => h) rfl dX8_readsBox_10 ?_
  refine lv_if_ne (tgt := 29) hx hb dX8_readsBox_13 (by decide) (fun c13 => ?_) (fun c13 => ?_)
  · rw [show gX8_readsBox M = LX8_readsBox_29g 1 (gX8_instrumentHere (gX8_next M)) (fX8_instrumentHere (gX8_next M)) from (by rw [gX8_readsBox, if_neg c13])]
    exact cl_X8_readsBox_29 l D cy b n hn  hx hb hr hlocks hml hown hts hK hX 1 (gX8_instrumentHere (gX8_next M)) (fX8_instrumentHere (gX8_next M)) H locs ls (by first | exact rv_ih (rv_nx hrv) | exact rv_er (rv_ih (rv_nx hrv))) (by first | exact fun h => absurd h c13 | exact fun h => absurd h (er_ne (by decide)) | exact fun h => iv_ih (rv_nx hrv) c13) (by decide) hP hS (lv_sub hl [1, 0] rfl)
  · refine lv_aload_n hx hb dX8_readsBox_16 rfl (lv_at hl 1 rfl) ?_
    refine lv_iload_n hx hb dX8_readsBox_17 rfl (lv_at hl 0 rfl) ?_
    refine W.eq (g2 := F0 m 18 ls (.int (nI (((fX8_instrumentHere (gX8_next M)).toNatClampNeg))) :: .ref (b + 124) :: [])) (congrArg (fun z => F0 m 18 ls (.int z :: .ref (b + 124) :: [])) (nat_of (iv_ih (rv_nx hrv) c13).1)) ?_
    refine xc_i (va_runV (As := [.int (nI (((fX8_instrumentHere (gX8_next M)).toNatClampNeg)))]) (rest := []) ⟨hx, hb, hml, hown, hts⟩ (c_X8_isBoxed l D cy b n hn (gX8_instrumentHere (gX8_next M)) ((fX8_instrumentHere (gX8_next M)).toNatClampNeg) (iv_ih (rv_nx hrv) c13).2) (cwV 1 hts gX8_readsBox_X8_isBoxed rfl rfl rfl (by decide +kernel) ⟨Nat.le_of_ble_eq_true rfl, Nat.le_of_ble_eq_true rfl⟩) (xPreV hP hK hX hS (by omega) (cell8 (by decide)) rfl) rfl rfl hl.1 rfl (lv_room (Nat.le_of_ble_eq_true rfl)) dX8_readsBox_18 ⟨Nat.le_of_ble_eq_true rfl, Nat.le_of_ble_eq_true rfl⟩) hS (fun H locs hP hS => ?_)
    refine lv_if_eq (tgt := 29) hx hb dX8_readsBox_21 (by decide) (fun c21 => ?_) (fun c21 => ?_)
    · rw [show gX8_readsBox M = LX8_readsBox_29g 1 (gX8_instrumentHere (gX8_next M)) (fX8_instrumentHere (gX8_next M)) from (by rw [gX8_readsBox, if_pos c13, if_pos c21])]
      exact cl_X8_readsBox_29 l D cy b n hn  hx hb hr hlocks hml hown hts hK hX 1 (gX8_instrumentHere (gX8_next M)) (fX8_instrumentHere (gX8_next M)) H locs ls (by first | exact rv_ih (rv_nx hrv) | exact rv_er (rv_ih (rv_nx hrv))) (by first | exact fun h => absurd h c13 | exact fun h => absurd h (er_ne (by decide)) | exact fun h => iv_ih (rv_nx hrv) c13) (by decide) hP hS (lv_sub hl [1, 0] rfl)
    · refine lv_aload_n hx hb dX8_readsBox_24 rfl (lv_at hl 1 rfl) ?_
      refine lv_iconst (v := 5) hx hb dX8_readsBox_25 (by decide) ?_
      refine xc_v (va_runV (As := [.int (5 : Int32)]) (rest := []) ⟨hx, hb, hml, hown, hts⟩ (c_X8_errs l D cy b n hn (gX8_instrumentHere (gX8_next M)) (5 : Int32)) (cwV 1 hts gX8_readsBox_X8_errs rfl rfl rfl (by decide +kernel) ⟨Nat.le_of_ble_eq_true rfl, Nat.le_of_ble_eq_true rfl⟩) (xPreV hP hK hX hS (by omega) (cell8 (by decide)) rfl) rfl rfl hl.1 rfl (lv_room (Nat.le_of_ble_eq_true rfl)) dX8_readsBox_26 ⟨Nat.le_of_ble_eq_true rfl, Nat.le_of_ble_eq_true rfl⟩) hS (fun H locs hP hS => ?_)
      rw [show gX8_readsBox M = LX8_readsBox_29g 1 (gX8_errs (gX8_instrumentHere (gX8_next M)) (5 : Int32)) (fX8_instrumentHere (gX8_next M)) from (by rw [gX8_readsBox, if_pos c13, if_neg c21])]
      exact cl_X8_readsBox_29 l D cy b n hn  hx hb hr hlocks hml hown hts hK hX 1 (gX8_errs (gX8_instrumentHere (gX8_next M)) (5 : Int32)) (fX8_instrumentHere (gX8_next M)) H locs ls (by first | exact rv_ih (rv_nx hrv) | exact rv_er (rv_ih (rv_nx hrv))) (by first | exact fun h => absurd h c13 | exact fun h => absurd h (er_ne (by decide)) | exact fun h => iv_ih (rv_nx hrv) c13) (by decide) hP hS (lv_sub hl [1, 0] rfl)
def LX8_readsOut_29g  : Nat → Mem → Int32 → Mem
  | 0, M, _ => M
  | k + 1, M, v => if (M 124 20) = 0 then (gX8_next (mU M 127 (8 * v.toNatClampNeg + 15) ((-1) : Int32))) else M
set_option maxHeartbeats 4000000 in
set_option maxRecDepth 100000 in
theorem cl_X8_readsOut_29 (l : Launch) (D : va_G) (cy : Nat → ClassId) (b n : Nat) (hn : 133 ≤ n)   {p : Program} {e : Env} {s : State} {m : MethodId} {args : Array Value} {below : List Frame} {meth : Method} {c : Code} (hx : p.tables.exec = Jvm.exec) (hb : c.code = cX8_readsOut) (hr : meth.sig.returnType = none) (hlocks : meth.locks = false) (hml : c.maxLocals = 2) (hown : s.vm.findClass RX8 = some m.cls) (hts : ∀ w ∈ wsX8_readsOut, w.before args s = true) (hK : va_K D vwCl (tysW cy) s) (hX : SX b s)  : ∀ (k : Nat) (M : Mem) (v : Int32) (H : Heap) (locs : List Loc) (ls : Array Slot), RV M → (M 124 20 = 0 → IV v) → 0 < k → va_P D vwCl (wL cy b fT M n) H → va_S (fr b) s.heap H locs → lv_has ls 2 [(0, .ref (b + 124)), (1, .int v)] → W p l e (headSpec wsX8_readsOut ({ frames := 3, cells := 0, slots := 0, locals := 64 } : Room)).room s m args below meth c H locs 0 0 (MQ below (CQv D cy b n fT (LX8_readsOut_29g k M v)) args s 0 0 (fr b)) (F0 m 29 ls []) := by
  have lk0 := hts (.fieldLink RX8 138 "HygrometerRoomModel" "fault" "I") (by decide +kernel)
  have lk1 := hts (.fieldLink RX8 16 "HygrometerRoomModel" "now" "[I") (by decide +kernel)
  have inc8 : ∀ w ∈ u_ws RX8 TX8 22, w ∈ wsX8_readsOut := by decide +kernel
  intro k
  induction k with
  | zero => intro M v H locs ls hrv hv hk hP hS hl; omega
  | succ k ih =>
    intro M v H locs ls hrv hv hk hP hS hl
    refine lv_aload_n hx hb dX8_readsOut_29 rfl (lv_at hl 0 rfl) ?_
    refine xg (C := RX8) (T := TX8) (N := 22) (v := .int (M 124 20)) hx hb hts inc8 hown hK hP (by omega) (cell8 (by decide)) rfl 20 (by decide) lk0 (fun _ h => h) rfl dX8_readsOut_30 ?_
    refine lv_if_ne (tgt := 53) hx hb dX8_readsOut_33 (by decide) (fun c33 => ?_) (fun c33 => ?_)
    · exact xe_v hx hb hr hlocks hP hS rfl (by rw [LX8_readsOut_29g, if_neg c33] <;> rfl) (Nat.le_of_ble_eq_true rfl) (Nat.le_of_ble_eq_true rfl) dX8_readsOut_53
    · refine lv_aload_n hx hb dX8_readsOut_36 rfl (lv_at hl 0 rfl) ?_
      refine xg (C := RX8) (T := TX8) (N := 22) (v := .ref (b + 127)) hx hb hts inc8 hown hK hP (by omega) (cell8 (by decide)) rfl 3 (by decide) lk1 (fun _ h => h) rfl dX8_readsOut_37 ?_
      refine lv_iload_n hx hb dX8_readsOut_40 rfl (lv_at hl 1 rfl) ?_
      have hk6 := (hv c33).2
      refine W.eq (g2 := F0 m 41 ls (.int (nI (v.toNatClampNeg)) :: .ref (b + 127) :: [])) (congrArg (fun z => F0 m 41 ls (.int z :: .ref (b + 127) :: [])) (nat_of (hv c33).1)) ?_
      refine xc_i (va_runS (As := [.int (nI (v.toNatClampNeg))]) (rest := [.ref (b + 127)]) ⟨hx, hb, hml, hown, hts⟩ (c_X8_i l D cy b n hn M v.toNatClampNeg) (va_cwS 1 hts gX8_readsOut_X8_i rfl rfl rfl (by decide +kernel) ⟨Nat.le_of_ble_eq_true rfl, Nat.le_of_ble_eq_true rfl⟩) (xPreS hP hK hX hS) rfl rfl hl.1 rfl (lv_room (Nat.le_of_ble_eq_true rfl)) dX8_readsOut_41 ⟨Nat.le_of_ble_eq_true rfl, Nat.le_of_ble_eq_true rfl⟩) hS (fun H locs hP hS => ?_)
      refine W.eq (g2 := F0 m 44 ls (.int (nI (8 * v.toNatClampNeg + 8)) :: .ref (b + 127) :: [])) (congrArg (fun z => F0 m 44 ls (.int z :: .ref (b + 127) :: [])) (show fX8_i M v.toNatClampNeg = nI (8 * v.toNatClampNeg + 8) from by unfold fX8_i; exact congrArg nI (by omega))) ?_
      refine lv_bipush (v := 7) hx hb dX8_readsOut_44 (by decide) ?_
      refine xadd (z := nI (8 * v.toNatClampNeg + 15)) hx hb (ixAdd (a := 8 * v.toNatClampNeg + 8) (c := 7) (d := 8 * v.toNatClampNeg + 15) rfl rfl (by omega)) dX8_readsOut_46 ?_
      refine lv_iconst (v := (-1)) hx hb dX8_readsOut_47 (by decide) ?_
      refine xis (j := 8 * v.toNatClampNeg + 15) (x := ((-1) : Int32)) hx hb hK hP hS (by omega) (by decide) (ixIn (a := 8 * v.toNatClampNeg + 15) rfl (by first | decide | (simp only [lenOf]; omega) | omega) (by decide)) (ixAt (a := 8 * v.toNatClampNeg + 15) rfl (by omega)) dX8_readsOut_48 (fun H locs hP hS => ?_)
      refine lv_aload_n hx hb dX8_readsOut_49 rfl (lv_at hl 0 rfl) ?_
      refine xc_v (va_runV (As := []) (rest := []) ⟨hx, hb, hml, hown, hts⟩ (c_X8_next l D cy b n hn (mU M 127 (8 * v.toNatClampNeg + 15) ((-1) : Int32)) hrv.1.tx) (cwV 0 hts gX8_readsOut_X8_next rfl rfl rfl (by decide +kernel) ⟨Nat.le_of_ble_eq_true rfl, Nat.le_of_ble_eq_true rfl⟩) (xPreV hP hK hX hS (by omega) (cell8 (by decide)) rfl) rfl rfl hl.1 rfl (lv_room (Nat.le_of_ble_eq_true rfl)) dX8_readsOut_50 ⟨Nat.le_of_ble_eq_true rfl, Nat.le_of_ble_eq_true rfl⟩) hS (fun H locs hP hS => ?_)
      exact xe_v hx hb hr hlocks hP hS rfl (by rw [LX8_readsOut_29g, if_pos c33] <;> rfl) (Nat.le_of_ble_eq_true rfl) (Nat.le_of_ble_eq_true rfl) dX8_readsOut_53

def gX8_readsOut (M : Mem) : Mem := if ((gX8_instrumentHere (gX8_next M)) 124 20) = 0 then (if (fX8_isBoxed (gX8_instrumentHere (gX8_next M)) ((fX8_instrumentHere (gX8_next M)).toNatClampNeg)) = 0 then (LX8_readsOut_29g 1 (gX8_errs (gX8_instrumentHere (gX8_next M)) (5 : Int32)) (fX8_instrumentHere (gX8_next M))) else (LX8_readsOut_29g 1 (gX8_instrumentHere (gX8_next M)) (fX8_instrumentHere (gX8_next M)))) else (LX8_readsOut_29g 1 (gX8_instrumentHere (gX8_next M)) (fX8_instrumentHere (gX8_next M)))
set_option maxHeartbeats 4000000 in
set_option maxRecDepth 100000 in
theorem c_X8_readsOut (l : Launch) (D : va_G) (cy : Nat → ClassId) (b n : Nat) (hn : 133 ≤ n) (M : Mem)  (hrv : RV M) : Met l yX8_readsOut wsX8_readsOut ({ frames := 3, cells := 0, slots := 0, locals := 64 } : Room) (CP D cy b n fT M [.ref (b + 124)]) (CQv D cy b n fT (gX8_readsOut M)) 0 0 (fr b) := by
  refine Met.ofW (cc := cX8_readsOut) (maxL := 2) (ret := none) (by decide) rfl ?_
  intro p e s m args below meth c s₁ B hml hv
  obtain ⟨rfl, hP, hK, hX⟩ := hv
  have hx := B.exec
  have hb := B.bytes
  have hr := B.returns
  have hts := atoms_spec (ws := wsX8_readsOut) B.pre
  have hown : s.vm.findClass RX8 = some m.cls := findClass_of_methodNamed B.named
  have hlocks := B.notSynchronized
  have lk0 := hts (.fieldLink RX8 138 "HygrometerRoomModel" "fault" "I") (by decide +kernel)
  have inc8 : ∀ w ∈ u_ws RX8 TX8 22, w ∈ wsX8_readsOut := by decide +kernel
  have hS : va_S (fr b) s.heap s.heap [] := va_S.rf
  have hl := lv_entry ([.ref (b + 124)]) (n := 2) (Nat.le_of_ble_eq_true rfl)
  rw [lg_entry_eq]
  generalize (lg_sl ([.ref (b + 124)]) ++ List.replicate (2 - (lg_sl ([.ref (b + 124)])).length) Slot.unset).toArray = ls at hl ⊢
  have hl : lv_has ls 2 [(0, .ref (b + 124))] := hl
  refine lv_aload_n hx hb dX8_readsOut_0 rfl (lv_at hl 0 rfl) ?_
  refine xc_v (va_runV (As := []) (rest := []) ⟨hx, hb, hml, hown, hts⟩ (c_X8_next l D cy b n hn M hrv.1.tx) (cwV 0 hts gX8_readsOut_X8_next rfl rfl rfl (by decide +kernel) ⟨Nat.le_of_ble_eq_true rfl, Nat.le_of_ble_eq_true rfl⟩) (xPreV hP hK hX hS (by omega) (cell8 (by decide)) rfl) rfl rfl hl.1 rfl (lv_room (Nat.le_of_ble_eq_true rfl)) dX8_readsOut_1 ⟨Nat.le_of_ble_eq_true rfl, Nat.le_of_ble_eq_true rfl⟩) hS (fun H locs hP hS => ?_)
  refine lv_aload_n hx hb dX8_readsOut_4 rfl (lv_at hl 0 rfl) ?_
  refine xc_i (va_runV (As := []) (rest := []) ⟨hx, hb, hml, hown, hts⟩ (c_X8_instrumentHere l D cy b n hn (gX8_next M) ) (cwV 0 hts gX8_readsOut_X8_instrumentHere rfl rfl rfl (by decide +kernel) ⟨Nat.le_of_ble_eq_true rfl, Nat.le_of_ble_eq_true rfl⟩) (xPreV hP hK hX hS (by omega) (cell8 (by decide)) rfl) rfl rfl hl.1 rfl (lv_room (Nat.le_of_ble_eq_true rfl)) dX8_readsOut_5 ⟨Nat.le_of_ble_eq_true rfl, Nat.le_of_ble_eq_true rfl⟩) hS (fun H locs hP hS => ?_)
  refine lv_istore_n (lv' := [(1, .int (fX8_instrumentHere (gX8_next M))), (0, .ref (b + 124))]) hx hb dX8_readsOut_8 rfl hl (by decide) rfl (fun ls hl => ?_)
  refine lv_aload_n hx hb dX8_readsOut_9 rfl (lv_at hl 1 rfl) ?_
  refine xg (C := RX8) (T := TX8) (N := 22) (v := .int ((gX8_instrumentHere (gX8_next M)) 124 20)) hx hb hts inc8 hown hK hP (by omega) (cell8 (by decide)) rfl 20 (by decide) lk0 (fun _ h => h) rfl dX8_readsOut_10 ?_
  refine lv_if_ne (tgt := 29) hx hb dX8_readsOut_13 (by decide) (fun c13 => ?_) (fun c13 => ?_)
  · rw [show gX8_readsOut M = LX8_readsOut_29g 1 (gX8_instrumentHere (gX8_next M)) (fX8_instrumentHere (gX8_next M)) from (by rw [gX8_readsOut, if_neg c13])]
    exact cl_X8_readsOut_29 l D cy b n hn  hx hb hr hlocks hml hown hts hK hX 1 (gX8_instrumentHere (gX8_next M)) (fX8_instrumentHere (gX8_next M)) H locs ls (by first | exact rv_ih (rv_nx hrv) | exact rv_er (rv_ih (rv_nx hrv))) (by first | exact fun h => absurd h c13 | exact fun h => absurd h (er_ne (by decide)) | exact fun h => iv_ih (rv_nx hrv) c13) (by decide) hP hS (lv_sub hl [1, 0] rfl)
  · refine lv_aload_n hx hb dX8_readsOut_16 rfl (lv_at hl 1 rfl) ?_
    refine lv_iload_n hx hb dX8_readsOut_17 rfl (lv_at hl 0 rfl) ?_
    refine W.eq (g2 := F0 m 18 ls (.int (nI (((fX8_instrumentHere (gX8_next M)).toNatClampNeg))) :: .ref (b + 124) :: [])) (congrArg (fun z => F0 m 18 ls (.int z :: .ref (b + 124) :: [])) (nat_of (iv_ih (rv_nx hrv) c13).1)) ?_
    refine xc_i (va_runV (As := [.int (nI (((fX8_instrumentHere (gX8_next M)).toNatClampNeg)))]) (rest := []) ⟨hx, hb, hml, hown, hts⟩ (c_X8_isBoxed l D cy b n hn (gX8_instrumentHere (gX8_next M)) ((fX8_instrumentHere (gX8_next M)).toNatClampNeg) (iv_ih (rv_nx hrv) c13).2) (cwV 1 hts gX8_readsOut_X8_isBoxed rfl rfl rfl (by decide +kernel) ⟨Nat.le_of_ble_eq_true rfl, Nat.le_of_ble_eq_true rfl⟩) (xPreV hP hK hX hS (by omega) (cell8 (by decide)) rfl) rfl rfl hl.1 rfl (lv_room (Nat.le_of_ble_eq_true rfl)) dX8_readsOut_18 ⟨Nat.le_of_ble_eq_true rfl, Nat.le_of_ble_eq_true rfl⟩) hS (fun H locs hP hS => ?_)
    refine lv_if_ne (tgt := 29) hx hb dX8_readsOut_21 (by decide) (fun c21 => ?_) (fun c21 => ?_)
    · rw [show gX8_readsOut M = LX8_readsOut_29g 1 (gX8_instrumentHere (gX8_next M)) (fX8_instrumentHere (gX8_next M)) from (by rw [gX8_readsOut, if_pos c13, if_neg c21])]
      exact cl_X8_readsOut_29 l D cy b n hn  hx hb hr hlocks hml hown hts hK hX 1 (gX8_instrumentHere (gX8_next M)) (fX8_instrumentHere (gX8_next M)) H locs ls (by first | exact rv_ih (rv_nx hrv) | exact rv_er (rv_ih (rv_nx hrv))) (by first | exact fun h => absurd h c13 | exact fun h => absurd h (er_ne (by decide)) | exact fun h => iv_ih (rv_nx hrv) c13) (by decide) hP hS (lv_sub hl [1, 0] rfl)
    · refine lv_aload_n hx hb dX8_readsOut_24 rfl (lv_at hl 1 rfl) ?_
      refine lv_iconst (v := 5) hx hb dX8_readsOut_25 (by decide) ?_
      refine xc_v (va_runV (As := [.int (5 : Int32)]) (rest := []) ⟨hx, hb, hml, hown, hts⟩ (c_X8_errs l D cy b n hn (gX8_instrumentHere (gX8_next M)) (5 : Int32)) (cwV 1 hts gX8_readsOut_X8_errs rfl rfl rfl (by decide +kernel) ⟨Nat.le_of_ble_eq_true rfl, Nat.le_of_ble_eq_true rfl⟩) (xPreV hP hK hX hS (by omega) (cell8 (by decide)) rfl) rfl rfl hl.1 rfl (lv_room (Nat.le_of_ble_eq_true rfl)) dX8_readsOut_26 ⟨Nat.le_of_ble_eq_true rfl, Nat.le_of_ble_eq_true rfl⟩) hS (fun H locs hP hS => ?_)
      rw [show gX8_readsOut M = LX8_readsOut_29g 1 (gX8_errs (gX8_instrumentHere (gX8_next M)) (5 : Int32)) (fX8_instrumentHere (gX8_next M)) from (by rw [gX8_readsOut, if_pos c13, if_pos c21])]
      exact cl_X8_readsOut_29 l D cy b n hn  hx hb hr hlocks hml hown hts hK hX 1 (gX8_errs (gX8_instrumentHere (gX8_next M)) (5 : Int32)) (fX8_instrumentHere (gX8_next M)) H locs ls (by first | exact rv_ih (rv_nx hrv) | exact rv_er (rv_ih (rv_nx hrv))) (by first | exact fun h => absurd h c13 | exact fun h => absurd h (er_ne (by decide)) | exact fun h => iv_ih (rv_nx hrv) c13) (by decide) hP hS (lv_sub hl [1, 0] rfl)
def LX8_readsTighten_55g  : Nat → Mem → Int32 → Mem
  | 0, M, _ => M
  | k + 1, M, v => if (M 124 20) = 0 then (gX8_next (gX8_tightens M v.toNatClampNeg)) else M
set_option maxHeartbeats 4000000 in
set_option maxRecDepth 100000 in
theorem cl_X8_readsTighten_55 (l : Launch) (D : va_G) (cy : Nat → ClassId) (b n : Nat) (hn : 133 ≤ n)   {p : Program} {e : Env} {s : State} {m : MethodId} {args : Array Value} {below : List Frame} {meth : Method} {c : Code} (hx : p.tables.exec = Jvm.exec) (hb : c.code = cX8_readsTighten) (hr : meth.sig.returnType = none) (hlocks : meth.locks = false) (hml : c.maxLocals = 3) (hown : s.vm.findClass RX8 = some m.cls) (hts : ∀ w ∈ wsX8_readsTighten, w.before args s = true) (hK : va_K D vwCl (tysW cy) s) (hX : SX b s)  : ∀ (k : Nat) (M : Mem) (v : Int32) (H : Heap) (locs : List Loc) (ls : Array Slot), RV M → (M 124 20 = 0 → IV v) → 0 < k → va_P D vwCl (wL cy b fT M n) H → va_S (fr b) s.heap H locs → lv_has ls 3 [(0, .ref (b + 124)), (1, .int v)] → W p l e (headSpec wsX8_readsTighten ({ frames := 3, cells := 0, slots := 0, locals := 64 } : Room)).room s m args below meth c H locs 0 0 (MQ below (CQv D cy b n fT (LX8_readsTighten_55g k M v)) args s 0 0 (fr b)) (F0 m 55 ls []) := by
  have lk0 := hts (.fieldLink RX8 138 "HygrometerRoomModel" "fault" "I") (by decide +kernel)
  have inc8 : ∀ w ∈ u_ws RX8 TX8 22, w ∈ wsX8_readsTighten := by decide +kernel
  intro k
  induction k with
  | zero => intro M v H locs ls hrv hv hk hP hS hl; omega
  | succ k ih =>
    intro M v H locs ls hrv hv hk hP hS hl
    refine lv_aload_n hx hb dX8_readsTighten_55 rfl (lv_at hl 0 rfl) ?_
    refine xg (C := RX8) (T := TX8) (N := 22) (v := .int (M 124 20)) hx hb hts inc8 hown hK hP (by omega) (cell8 (by decide)) rfl 20 (by decide) lk0 (fun _ h => h) rfl dX8_readsTighten_56 ?_
    refine lv_if_ne (tgt := 72) hx hb dX8_readsTighten_59 (by decide) (fun c59 => ?_) (fun c59 => ?_)
    · exact xe_v hx hb hr hlocks hP hS rfl (by rw [LX8_readsTighten_55g, if_neg c59] <;> rfl) (Nat.le_of_ble_eq_true rfl) (Nat.le_of_ble_eq_true rfl) dX8_readsTighten_72
    · refine lv_aload_n hx hb dX8_readsTighten_62 rfl (lv_at hl 0 rfl) ?_
      refine lv_iload_n hx hb dX8_readsTighten_63 rfl (lv_at hl 1 rfl) ?_
      have hk6 := (hv c59).2
      refine W.eq (g2 := F0 m 64 ls (.int (nI (v.toNatClampNeg)) :: .ref (b + 124) :: [])) (congrArg (fun z => F0 m 64 ls (.int z :: .ref (b + 124) :: [])) (nat_of (hv c59).1)) ?_
      refine xc_i (va_runV (As := [.int (nI (v.toNatClampNeg))]) (rest := []) ⟨hx, hb, hml, hown, hts⟩ (c_X8_tightens l D cy b n hn M v.toNatClampNeg hk6) (cwV 1 hts gX8_readsTighten_X8_tightens rfl rfl rfl (by decide +kernel) ⟨Nat.le_of_ble_eq_true rfl, Nat.le_of_ble_eq_true rfl⟩) (xPreV hP hK hX hS (by omega) (cell8 (by decide)) rfl) rfl rfl hl.1 rfl (lv_room (Nat.le_of_ble_eq_true rfl)) dX8_readsTighten_64 ⟨Nat.le_of_ble_eq_true rfl, Nat.le_of_ble_eq_true rfl⟩) hS (fun H locs hP hS => ?_)
      refine lv_istore_n (lv' := [(2, .int (fX8_tightens M v.toNatClampNeg)), (0, .ref (b + 124)), (1, .int v)]) hx hb dX8_readsTighten_67 rfl hl (by decide) rfl (fun ls hl => ?_)
      refine lv_aload_n hx hb dX8_readsTighten_68 rfl (lv_at hl 1 rfl) ?_
      refine xc_v (va_runV (As := []) (rest := []) ⟨hx, hb, hml, hown, hts⟩ (c_X8_next l D cy b n hn (gX8_tightens M v.toNatClampNeg) (tx_ti hrv.1.tx)) (cwV 0 hts gX8_readsTighten_X8_next rfl rfl rfl (by decide +kernel) ⟨Nat.le_of_ble_eq_true rfl, Nat.le_of_ble_eq_true rfl⟩) (xPreV hP hK hX hS (by omega) (cell8 (by decide)) rfl) rfl rfl hl.1 rfl (lv_room (Nat.le_of_ble_eq_true rfl)) dX8_readsTighten_69 ⟨Nat.le_of_ble_eq_true rfl, Nat.le_of_ble_eq_true rfl⟩) hS (fun H locs hP hS => ?_)
      exact xe_v hx hb hr hlocks hP hS rfl (by rw [LX8_readsTighten_55g, if_pos c59] <;> rfl) (Nat.le_of_ble_eq_true rfl) (Nat.le_of_ble_eq_true rfl) dX8_readsTighten_72

def LX8_readsTighten_29g  : Nat → Mem → Int32 → Mem
  | 0, M, _ => M
  | k + 1, M, v => if (M 124 20) = 0 then (if (M 127 (8 * v.toNatClampNeg + 9)) = 0 then (LX8_readsTighten_55g 1 (gX8_errs M (5 : Int32)) v) else (LX8_readsTighten_55g 1 M v)) else (LX8_readsTighten_55g 1 M v)
set_option maxHeartbeats 4000000 in
set_option maxRecDepth 100000 in
theorem cl_X8_readsTighten_29 (l : Launch) (D : va_G) (cy : Nat → ClassId) (b n : Nat) (hn : 133 ≤ n)   {p : Program} {e : Env} {s : State} {m : MethodId} {args : Array Value} {below : List Frame} {meth : Method} {c : Code} (hx : p.tables.exec = Jvm.exec) (hb : c.code = cX8_readsTighten) (hr : meth.sig.returnType = none) (hlocks : meth.locks = false) (hml : c.maxLocals = 3) (hown : s.vm.findClass RX8 = some m.cls) (hts : ∀ w ∈ wsX8_readsTighten, w.before args s = true) (hK : va_K D vwCl (tysW cy) s) (hX : SX b s)  : ∀ (k : Nat) (M : Mem) (v : Int32) (H : Heap) (locs : List Loc) (ls : Array Slot), RV M → (M 124 20 = 0 → IV v) → 0 < k → va_P D vwCl (wL cy b fT M n) H → va_S (fr b) s.heap H locs → lv_has ls 3 [(0, .ref (b + 124)), (1, .int v)] → W p l e (headSpec wsX8_readsTighten ({ frames := 3, cells := 0, slots := 0, locals := 64 } : Room)).room s m args below meth c H locs 0 0 (MQ below (CQv D cy b n fT (LX8_readsTighten_29g k M v)) args s 0 0 (fr b)) (F0 m 29 ls []) := by
  have lk0 := hts (.fieldLink RX8 138 "HygrometerRoomModel" "fault" "I") (by decide +kernel)
  have lk1 := hts (.fieldLink RX8 16 "HygrometerRoomModel" "now" "[I") (by decide +kernel)
  have inc8 : ∀ w ∈ u_ws RX8 TX8 22, w ∈ wsX8_readsTighten := by decide +kernel
  intro k
  induction k with
  | zero => intro M v H locs ls hrv hv hk hP hS hl; omega
  | succ k ih =>
    intro M v H locs ls hrv hv hk hP hS hl
    refine lv_aload_n hx hb dX8_readsTighten_29 rfl (lv_at hl 0 rfl) ?_
    refine xg (C := RX8) (T := TX8) (N := 22) (v := .int (M 124 20)) hx hb hts inc8 hown hK hP (by omega) (cell8 (by decide)) rfl 20 (by decide) lk0 (fun _ h => h) rfl dX8_readsTighten_30 ?_
    refine lv_if_ne (tgt := 55) hx hb dX8_readsTighten_33 (by decide) (fun c33 => ?_) (fun c33 => ?_)
    · rw [show LX8_readsTighten_29g (k + 1) M v = LX8_readsTighten_55g 1 M v from (by rw [LX8_readsTighten_29g, if_neg c33])]
      exact cl_X8_readsTighten_55 l D cy b n hn  hx hb hr hlocks hml hown hts hK hX 1 M v H locs ls (by first | exact hrv | exact rv_er hrv) (by first | exact hv | exact fun h => absurd h (er_ne (by decide))) (by decide) hP hS (lv_sub hl [0, 1] rfl)
    · refine lv_aload_n hx hb dX8_readsTighten_36 rfl (lv_at hl 0 rfl) ?_
      refine xg (C := RX8) (T := TX8) (N := 22) (v := .ref (b + 127)) hx hb hts inc8 hown hK hP (by omega) (cell8 (by decide)) rfl 3 (by decide) lk1 (fun _ h => h) rfl dX8_readsTighten_37 ?_
      refine lv_iload_n hx hb dX8_readsTighten_40 rfl (lv_at hl 1 rfl) ?_
      have hk6 := (hv c33).2
      refine W.eq (g2 := F0 m 41 ls (.int (nI (v.toNatClampNeg)) :: .ref (b + 127) :: [])) (congrArg (fun z => F0 m 41 ls (.int z :: .ref (b + 127) :: [])) (nat_of (hv c33).1)) ?_
      refine xc_i (va_runS (As := [.int (nI (v.toNatClampNeg))]) (rest := [.ref (b + 127)]) ⟨hx, hb, hml, hown, hts⟩ (c_X8_i l D cy b n hn M v.toNatClampNeg) (va_cwS 1 hts gX8_readsTighten_X8_i rfl rfl rfl (by decide +kernel) ⟨Nat.le_of_ble_eq_true rfl, Nat.le_of_ble_eq_true rfl⟩) (xPreS hP hK hX hS) rfl rfl hl.1 rfl (lv_room (Nat.le_of_ble_eq_true rfl)) dX8_readsTighten_41 ⟨Nat.le_of_ble_eq_true rfl, Nat.le_of_ble_eq_true rfl⟩) hS (fun H locs hP hS => ?_)
      refine W.eq (g2 := F0 m 44 ls (.int (nI (8 * v.toNatClampNeg + 8)) :: .ref (b + 127) :: [])) (congrArg (fun z => F0 m 44 ls (.int z :: .ref (b + 127) :: [])) (show fX8_i M v.toNatClampNeg = nI (8 * v.toNatClampNeg + 8) from by unfold fX8_i; exact congrArg nI (by omega))) ?_
      refine lv_iconst (v := 1) hx hb dX8_readsTighten_44 (by decide) ?_
      refine xadd (z := nI (8 * v.toNatClampNeg + 9)) hx hb (ixAdd (a := 8 * v.toNatClampNeg + 8) (c := 1) (d := 8 * v.toNatClampNeg + 9) rfl rfl (by omega)) dX8_readsTighten_45 ?_
      refine xil (j := 8 * v.toNatClampNeg + 9) hx hb hK hP (by omega) (by decide) (ixIn (a := 8 * v.toNatClampNeg + 9) rfl (by first | decide | (simp only [lenOf]; omega) | omega) (by decide)) (ixAt (a := 8 * v.toNatClampNeg + 9) rfl (by omega)) dX8_readsTighten_46 ?_
      refine lv_if_ne (tgt := 55) hx hb dX8_readsTighten_47 (by decide) (fun c47 => ?_) (fun c47 => ?_)
      · rw [show LX8_readsTighten_29g (k + 1) M v = LX8_readsTighten_55g 1 M v from (by rw [LX8_readsTighten_29g, if_pos c33, if_neg c47])]
        exact cl_X8_readsTighten_55 l D cy b n hn  hx hb hr hlocks hml hown hts hK hX 1 M v H locs ls (by first | exact hrv | exact rv_er hrv) (by first | exact hv | exact fun h => absurd h (er_ne (by decide))) (by decide) hP hS (lv_sub hl [0, 1] rfl)
      · refine lv_aload_n hx hb dX8_readsTighten_50 rfl (lv_at hl 0 rfl) ?_
        refine lv_iconst (v := 5) hx hb dX8_readsTighten_51 (by decide) ?_
        refine xc_v (va_runV (As := [.int (5 : Int32)]) (rest := []) ⟨hx, hb, hml, hown, hts⟩ (c_X8_errs l D cy b n hn M (5 : Int32)) (cwV 1 hts gX8_readsTighten_X8_errs rfl rfl rfl (by decide +kernel) ⟨Nat.le_of_ble_eq_true rfl, Nat.le_of_ble_eq_true rfl⟩) (xPreV hP hK hX hS (by omega) (cell8 (by decide)) rfl) rfl rfl hl.1 rfl (lv_room (Nat.le_of_ble_eq_true rfl)) dX8_readsTighten_52 ⟨Nat.le_of_ble_eq_true rfl, Nat.le_of_ble_eq_true rfl⟩) hS (fun H locs hP hS => ?_)
        rw [show LX8_readsTighten_29g (k + 1) M v = LX8_readsTighten_55g 1 (gX8_errs M (5 : Int32)) v from (by rw [LX8_readsTighten_29g, if_pos c33, if_pos c47])]
        exact cl_X8_readsTighten_55 l D cy b n hn  hx hb hr hlocks hml hown hts hK hX 1 (gX8_errs M (5 : Int32)) v H locs ls (by first | exact hrv | exact rv_er hrv) (by first | exact hv | exact fun h => absurd h (er_ne (by decide))) (by decide) hP hS (lv_sub hl [0, 1] rfl)

def gX8_readsTighten (M : Mem) : Mem := if ((gX8_instrumentHere (gX8_next M)) 124 20) = 0 then (if (fX8_isOfHair (gX8_instrumentHere (gX8_next M)) ((fX8_instrumentHere (gX8_next M)).toNatClampNeg)) = 0 then (LX8_readsTighten_29g 1 (gX8_errs (gX8_instrumentHere (gX8_next M)) (3 : Int32)) (fX8_instrumentHere (gX8_next M))) else (LX8_readsTighten_29g 1 (gX8_instrumentHere (gX8_next M)) (fX8_instrumentHere (gX8_next M)))) else (LX8_readsTighten_29g 1 (gX8_instrumentHere (gX8_next M)) (fX8_instrumentHere (gX8_next M)))
set_option maxHeartbeats 4000000 in
set_option maxRecDepth 100000 in
theorem c_X8_readsTighten (l : Launch) (D : va_G) (cy : Nat → ClassId) (b n : Nat) (hn : 133 ≤ n) (M : Mem)  (hrv : RV M) : Met l yX8_readsTighten wsX8_readsTighten ({ frames := 3, cells := 0, slots := 0, locals := 64 } : Room) (CP D cy b n fT M [.ref (b + 124)]) (CQv D cy b n fT (gX8_readsTighten M)) 0 0 (fr b) := by
  refine Met.ofW (cc := cX8_readsTighten) (maxL := 3) (ret := none) (by decide) rfl ?_
  intro p e s m args below meth c s₁ B hml hv
  obtain ⟨rfl, hP, hK, hX⟩ := hv
  have hx := B.exec
  have hb := B.bytes
  have hr := B.returns
  have hts := atoms_spec (ws := wsX8_readsTighten) B.pre
  have hown : s.vm.findClass RX8 = some m.cls := findClass_of_methodNamed B.named
  have hlocks := B.notSynchronized
  have lk0 := hts (.fieldLink RX8 138 "HygrometerRoomModel" "fault" "I") (by decide +kernel)
  have inc8 : ∀ w ∈ u_ws RX8 TX8 22, w ∈ wsX8_readsTighten := by decide +kernel
  have hS : va_S (fr b) s.heap s.heap [] := va_S.rf
  have hl := lv_entry ([.ref (b + 124)]) (n := 3) (Nat.le_of_ble_eq_true rfl)
  rw [lg_entry_eq]
  generalize (lg_sl ([.ref (b + 124)]) ++ List.replicate (3 - (lg_sl ([.ref (b + 124)])).length) Slot.unset).toArray = ls at hl ⊢
  have hl : lv_has ls 3 [(0, .ref (b + 124))] := hl
  refine lv_aload_n hx hb dX8_readsTighten_0 rfl (lv_at hl 0 rfl) ?_
  refine xc_v (va_runV (As := []) (rest := []) ⟨hx, hb, hml, hown, hts⟩ (c_X8_next l D cy b n hn M hrv.1.tx) (cwV 0 hts gX8_readsTighten_X8_next rfl rfl rfl (by decide +kernel) ⟨Nat.le_of_ble_eq_true rfl, Nat.le_of_ble_eq_true rfl⟩) (xPreV hP hK hX hS (by omega) (cell8 (by decide)) rfl) rfl rfl hl.1 rfl (lv_room (Nat.le_of_ble_eq_true rfl)) dX8_readsTighten_1 ⟨Nat.le_of_ble_eq_true rfl, Nat.le_of_ble_eq_true rfl⟩) hS (fun H locs hP hS => ?_)
  refine lv_aload_n hx hb dX8_readsTighten_4 rfl (lv_at hl 0 rfl) ?_
  refine xc_i (va_runV (As := []) (rest := []) ⟨hx, hb, hml, hown, hts⟩ (c_X8_instrumentHere l D cy b n hn (gX8_next M) ) (cwV 0 hts gX8_readsTighten_X8_instrumentHere rfl rfl rfl (by decide +kernel) ⟨Nat.le_of_ble_eq_true rfl, Nat.le_of_ble_eq_true rfl⟩) (xPreV hP hK hX hS (by omega) (cell8 (by decide)) rfl) rfl rfl hl.1 rfl (lv_room (Nat.le_of_ble_eq_true rfl)) dX8_readsTighten_5 ⟨Nat.le_of_ble_eq_true rfl, Nat.le_of_ble_eq_true rfl⟩) hS (fun H locs hP hS => ?_)
  refine lv_istore_n (lv' := [(1, .int (fX8_instrumentHere (gX8_next M))), (0, .ref (b + 124))]) hx hb dX8_readsTighten_8 rfl hl (by decide) rfl (fun ls hl => ?_)
  refine lv_aload_n hx hb dX8_readsTighten_9 rfl (lv_at hl 1 rfl) ?_
  refine xg (C := RX8) (T := TX8) (N := 22) (v := .int ((gX8_instrumentHere (gX8_next M)) 124 20)) hx hb hts inc8 hown hK hP (by omega) (cell8 (by decide)) rfl 20 (by decide) lk0 (fun _ h => h) rfl dX8_readsTighten_10 ?_
  refine lv_if_ne (tgt := 29) hx hb dX8_readsTighten_13 (by decide) (fun c13 => ?_) (fun c13 => ?_)
  · rw [show gX8_readsTighten M = LX8_readsTighten_29g 1 (gX8_instrumentHere (gX8_next M)) (fX8_instrumentHere (gX8_next M)) from (by rw [gX8_readsTighten, if_neg c13])]
    exact cl_X8_readsTighten_29 l D cy b n hn  hx hb hr hlocks hml hown hts hK hX 1 (gX8_instrumentHere (gX8_next M)) (fX8_instrumentHere (gX8_next M)) H locs ls (by first | exact rv_ih (rv_nx hrv) | exact rv_er (rv_ih (rv_nx hrv))) (by first | exact fun h => absurd h c13 | exact fun h => absurd h (er_ne (by decide)) | exact fun h => iv_ih (rv_nx hrv) c13) (by decide) hP hS (lv_sub hl [1, 0] rfl)
  · refine lv_aload_n hx hb dX8_readsTighten_16 rfl (lv_at hl 1 rfl) ?_
    refine lv_iload_n hx hb dX8_readsTighten_17 rfl (lv_at hl 0 rfl) ?_
    refine W.eq (g2 := F0 m 18 ls (.int (nI (((fX8_instrumentHere (gX8_next M)).toNatClampNeg))) :: .ref (b + 124) :: [])) (congrArg (fun z => F0 m 18 ls (.int z :: .ref (b + 124) :: [])) (nat_of (iv_ih (rv_nx hrv) c13).1)) ?_
    refine xc_i (va_runV (As := [.int (nI (((fX8_instrumentHere (gX8_next M)).toNatClampNeg)))]) (rest := []) ⟨hx, hb, hml, hown, hts⟩ (c_X8_isOfHair l D cy b n hn (gX8_instrumentHere (gX8_next M)) ((fX8_instrumentHere (gX8_next M)).toNatClampNeg) (iv_ih (rv_nx hrv) c13).2) (cwV 1 hts gX8_readsTighten_X8_isOfHair rfl rfl rfl (by decide +kernel) ⟨Nat.le_of_ble_eq_true rfl, Nat.le_of_ble_eq_true rfl⟩) (xPreV hP hK hX hS (by omega) (cell8 (by decide)) rfl) rfl rfl hl.1 rfl (lv_room (Nat.le_of_ble_eq_true rfl)) dX8_readsTighten_18 ⟨Nat.le_of_ble_eq_true rfl, Nat.le_of_ble_eq_true rfl⟩) hS (fun H locs hP hS => ?_)
    refine lv_if_ne (tgt := 29) hx hb dX8_readsTighten_21 (by decide) (fun c21 => ?_) (fun c21 => ?_)
    · rw [show gX8_readsTighten M = LX8_readsTighten_29g 1 (gX8_instrumentHere (gX8_next M)) (fX8_instrumentHere (gX8_next M)) from (by rw [gX8_readsTighten, if_pos c13, if_neg c21])]
      exact cl_X8_readsTighten_29 l D cy b n hn  hx hb hr hlocks hml hown hts hK hX 1 (gX8_instrumentHere (gX8_next M)) (fX8_instrumentHere (gX8_next M)) H locs ls (by first | exact rv_ih (rv_nx hrv) | exact rv_er (rv_ih (rv_nx hrv))) (by first | exact fun h => absurd h c13 | exact fun h => absurd h (er_ne (by decide)) | exact fun h => iv_ih (rv_nx hrv) c13) (by decide) hP hS (lv_sub hl [1, 0] rfl)
    · refine lv_aload_n hx hb dX8_readsTighten_24 rfl (lv_at hl 1 rfl) ?_
      refine lv_iconst (v := 3) hx hb dX8_readsTighten_25 (by decide) ?_
      refine xc_v (va_runV (As := [.int (3 : Int32)]) (rest := []) ⟨hx, hb, hml, hown, hts⟩ (c_X8_errs l D cy b n hn (gX8_instrumentHere (gX8_next M)) (3 : Int32)) (cwV 1 hts gX8_readsTighten_X8_errs rfl rfl rfl (by decide +kernel) ⟨Nat.le_of_ble_eq_true rfl, Nat.le_of_ble_eq_true rfl⟩) (xPreV hP hK hX hS (by omega) (cell8 (by decide)) rfl) rfl rfl hl.1 rfl (lv_room (Nat.le_of_ble_eq_true rfl)) dX8_readsTighten_26 ⟨Nat.le_of_ble_eq_true rfl, Nat.le_of_ble_eq_true rfl⟩) hS (fun H locs hP hS => ?_)
      rw [show gX8_readsTighten M = LX8_readsTighten_29g 1 (gX8_errs (gX8_instrumentHere (gX8_next M)) (3 : Int32)) (fX8_instrumentHere (gX8_next M)) from (by rw [gX8_readsTighten, if_pos c13, if_pos c21])]
      exact cl_X8_readsTighten_29 l D cy b n hn  hx hb hr hlocks hml hown hts hK hX 1 (gX8_errs (gX8_instrumentHere (gX8_next M)) (3 : Int32)) (fX8_instrumentHere (gX8_next M)) H locs ls (by first | exact rv_ih (rv_nx hrv) | exact rv_er (rv_ih (rv_nx hrv))) (by first | exact fun h => absurd h c13 | exact fun h => absurd h (er_ne (by decide)) | exact fun h => iv_ih (rv_nx hrv) c13) (by decide) hP hS (lv_sub hl [1, 0] rfl)
def LX8_readsMoisten_29g  : Nat → Mem → Int32 → Mem
  | 0, M, _ => M
  | k + 1, M, v => if (M 124 20) = 0 then (gX8_next (gX8_moistens M v.toNatClampNeg)) else M
set_option maxHeartbeats 4000000 in
set_option maxRecDepth 100000 in
theorem cl_X8_readsMoisten_29 (l : Launch) (D : va_G) (cy : Nat → ClassId) (b n : Nat) (hn : 133 ≤ n)   {p : Program} {e : Env} {s : State} {m : MethodId} {args : Array Value} {below : List Frame} {meth : Method} {c : Code} (hx : p.tables.exec = Jvm.exec) (hb : c.code = cX8_readsMoisten) (hr : meth.sig.returnType = none) (hlocks : meth.locks = false) (hml : c.maxLocals = 3) (hown : s.vm.findClass RX8 = some m.cls) (hts : ∀ w ∈ wsX8_readsMoisten, w.before args s = true) (hK : va_K D vwCl (tysW cy) s) (hX : SX b s)  : ∀ (k : Nat) (M : Mem) (v : Int32) (H : Heap) (locs : List Loc) (ls : Array Slot), RV M → (M 124 20 = 0 → IV v) → 0 < k → va_P D vwCl (wL cy b fT M n) H → va_S (fr b) s.heap H locs → lv_has ls 3 [(0, .ref (b + 124)), (1, .int v)] → W p l e (headSpec wsX8_readsMoisten ({ frames := 3, cells := 0, slots := 0, locals := 64 } : Room)).room s m args below meth c H locs 0 0 (MQ below (CQv D cy b n fT (LX8_readsMoisten_29g k M v)) args s 0 0 (fr b)) (F0 m 29 ls []) := by
  have lk0 := hts (.fieldLink RX8 138 "HygrometerRoomModel" "fault" "I") (by decide +kernel)
  have inc8 : ∀ w ∈ u_ws RX8 TX8 22, w ∈ wsX8_readsMoisten := by decide +kernel
  intro k
  induction k with
  | zero => intro M v H locs ls hrv hv hk hP hS hl; omega
  | succ k ih =>
    intro M v H locs ls hrv hv hk hP hS hl
    refine lv_aload_n hx hb dX8_readsMoisten_29 rfl (lv_at hl 0 rfl) ?_
    refine xg (C := RX8) (T := TX8) (N := 22) (v := .int (M 124 20)) hx hb hts inc8 hown hK hP (by omega) (cell8 (by decide)) rfl 20 (by decide) lk0 (fun _ h => h) rfl dX8_readsMoisten_30 ?_
    refine lv_if_ne (tgt := 46) hx hb dX8_readsMoisten_33 (by decide) (fun c33 => ?_) (fun c33 => ?_)
    · exact xe_v hx hb hr hlocks hP hS rfl (by rw [LX8_readsMoisten_29g, if_neg c33] <;> rfl) (Nat.le_of_ble_eq_true rfl) (Nat.le_of_ble_eq_true rfl) dX8_readsMoisten_46
    · refine lv_aload_n hx hb dX8_readsMoisten_36 rfl (lv_at hl 0 rfl) ?_
      refine lv_iload_n hx hb dX8_readsMoisten_37 rfl (lv_at hl 1 rfl) ?_
      have hk6 := (hv c33).2
      refine W.eq (g2 := F0 m 38 ls (.int (nI (v.toNatClampNeg)) :: .ref (b + 124) :: [])) (congrArg (fun z => F0 m 38 ls (.int z :: .ref (b + 124) :: [])) (nat_of (hv c33).1)) ?_
      refine xc_i (va_runV (As := [.int (nI (v.toNatClampNeg))]) (rest := []) ⟨hx, hb, hml, hown, hts⟩ (c_X8_moistens l D cy b n hn M v.toNatClampNeg hk6) (cwV 1 hts gX8_readsMoisten_X8_moistens rfl rfl rfl (by decide +kernel) ⟨Nat.le_of_ble_eq_true rfl, Nat.le_of_ble_eq_true rfl⟩) (xPreV hP hK hX hS (by omega) (cell8 (by decide)) rfl) rfl rfl hl.1 rfl (lv_room (Nat.le_of_ble_eq_true rfl)) dX8_readsMoisten_38 ⟨Nat.le_of_ble_eq_true rfl, Nat.le_of_ble_eq_true rfl⟩) hS (fun H locs hP hS => ?_)
      refine lv_istore_n (lv' := [(2, .int (fX8_moistens M v.toNatClampNeg)), (0, .ref (b + 124)), (1, .int v)]) hx hb dX8_readsMoisten_41 rfl hl (by decide) rfl (fun ls hl => ?_)
      refine lv_aload_n hx hb dX8_readsMoisten_42 rfl (lv_at hl 1 rfl) ?_
      refine xc_v (va_runV (As := []) (rest := []) ⟨hx, hb, hml, hown, hts⟩ (c_X8_next l D cy b n hn (gX8_moistens M v.toNatClampNeg) (tx_mo hrv.1.tx)) (cwV 0 hts gX8_readsMoisten_X8_next rfl rfl rfl (by decide +kernel) ⟨Nat.le_of_ble_eq_true rfl, Nat.le_of_ble_eq_true rfl⟩) (xPreV hP hK hX hS (by omega) (cell8 (by decide)) rfl) rfl rfl hl.1 rfl (lv_room (Nat.le_of_ble_eq_true rfl)) dX8_readsMoisten_43 ⟨Nat.le_of_ble_eq_true rfl, Nat.le_of_ble_eq_true rfl⟩) hS (fun H locs hP hS => ?_)
      exact xe_v hx hb hr hlocks hP hS rfl (by rw [LX8_readsMoisten_29g, if_pos c33] <;> rfl) (Nat.le_of_ble_eq_true rfl) (Nat.le_of_ble_eq_true rfl) dX8_readsMoisten_46

def gX8_readsMoisten (M : Mem) : Mem := if ((gX8_instrumentHere (gX8_next M)) 124 20) = 0 then (if (fX8_isOfHair (gX8_instrumentHere (gX8_next M)) ((fX8_instrumentHere (gX8_next M)).toNatClampNeg)) = 0 then (LX8_readsMoisten_29g 1 (gX8_instrumentHere (gX8_next M)) (fX8_instrumentHere (gX8_next M))) else (LX8_readsMoisten_29g 1 (gX8_errs (gX8_instrumentHere (gX8_next M)) (3 : Int32)) (fX8_instrumentHere (gX8_next M)))) else (LX8_readsMoisten_29g 1 (gX8_instrumentHere (gX8_next M)) (fX8_instrumentHere (gX8_next M)))
set_option maxHeartbeats 4000000 in
set_option maxRecDepth 100000 in
theorem c_X8_readsMoisten (l : Launch) (D : va_G) (cy : Nat → ClassId) (b n : Nat) (hn : 133 ≤ n) (M : Mem)  (hrv : RV M) : Met l yX8_readsMoisten wsX8_readsMoisten ({ frames := 3, cells := 0, slots := 0, locals := 64 } : Room) (CP D cy b n fT M [.ref (b + 124)]) (CQv D cy b n fT (gX8_readsMoisten M)) 0 0 (fr b) := by
  refine Met.ofW (cc := cX8_readsMoisten) (maxL := 3) (ret := none) (by decide) rfl ?_
  intro p e s m args below meth c s₁ B hml hv
  obtain ⟨rfl, hP, hK, hX⟩ := hv
  have hx := B.exec
  have hb := B.bytes
  have hr := B.returns
  have hts := atoms_spec (ws := wsX8_readsMoisten) B.pre
  have hown : s.vm.findClass RX8 = some m.cls := findClass_of_methodNamed B.named
  have hlocks := B.notSynchronized
  have lk0 := hts (.fieldLink RX8 138 "HygrometerRoomModel" "fault" "I") (by decide +kernel)
  have inc8 : ∀ w ∈ u_ws RX8 TX8 22, w ∈ wsX8_readsMoisten := by decide +kernel
  have hS : va_S (fr b) s.heap s.heap [] := va_S.rf
  have hl := lv_entry ([.ref (b + 124)]) (n := 3) (Nat.le_of_ble_eq_true rfl)
  rw [lg_entry_eq]
  generalize (lg_sl ([.ref (b + 124)]) ++ List.replicate (3 - (lg_sl ([.ref (b + 124)])).length) Slot.unset).toArray = ls at hl ⊢
  have hl : lv_has ls 3 [(0, .ref (b + 124))] := hl
  refine lv_aload_n hx hb dX8_readsMoisten_0 rfl (lv_at hl 0 rfl) ?_
  refine xc_v (va_runV (As := []) (rest := []) ⟨hx, hb, hml, hown, hts⟩ (c_X8_next l D cy b n hn M hrv.1.tx) (cwV 0 hts gX8_readsMoisten_X8_next rfl rfl rfl (by decide +kernel) ⟨Nat.le_of_ble_eq_true rfl, Nat.le_of_ble_eq_true rfl⟩) (xPreV hP hK hX hS (by omega) (cell8 (by decide)) rfl) rfl rfl hl.1 rfl (lv_room (Nat.le_of_ble_eq_true rfl)) dX8_readsMoisten_1 ⟨Nat.le_of_ble_eq_true rfl, Nat.le_of_ble_eq_true rfl⟩) hS (fun H locs hP hS => ?_)
  refine lv_aload_n hx hb dX8_readsMoisten_4 rfl (lv_at hl 0 rfl) ?_
  refine xc_i (va_runV (As := []) (rest := []) ⟨hx, hb, hml, hown, hts⟩ (c_X8_instrumentHere l D cy b n hn (gX8_next M) ) (cwV 0 hts gX8_readsMoisten_X8_instrumentHere rfl rfl rfl (by decide +kernel) ⟨Nat.le_of_ble_eq_true rfl, Nat.le_of_ble_eq_true rfl⟩) (xPreV hP hK hX hS (by omega) (cell8 (by decide)) rfl) rfl rfl hl.1 rfl (lv_room (Nat.le_of_ble_eq_true rfl)) dX8_readsMoisten_5 ⟨Nat.le_of_ble_eq_true rfl, Nat.le_of_ble_eq_true rfl⟩) hS (fun H locs hP hS => ?_)
  refine lv_istore_n (lv' := [(1, .int (fX8_instrumentHere (gX8_next M))), (0, .ref (b + 124))]) hx hb dX8_readsMoisten_8 rfl hl (by decide) rfl (fun ls hl => ?_)
  refine lv_aload_n hx hb dX8_readsMoisten_9 rfl (lv_at hl 1 rfl) ?_
  refine xg (C := RX8) (T := TX8) (N := 22) (v := .int ((gX8_instrumentHere (gX8_next M)) 124 20)) hx hb hts inc8 hown hK hP (by omega) (cell8 (by decide)) rfl 20 (by decide) lk0 (fun _ h => h) rfl dX8_readsMoisten_10 ?_
  refine lv_if_ne (tgt := 29) hx hb dX8_readsMoisten_13 (by decide) (fun c13 => ?_) (fun c13 => ?_)
  · rw [show gX8_readsMoisten M = LX8_readsMoisten_29g 1 (gX8_instrumentHere (gX8_next M)) (fX8_instrumentHere (gX8_next M)) from (by rw [gX8_readsMoisten, if_neg c13])]
    exact cl_X8_readsMoisten_29 l D cy b n hn  hx hb hr hlocks hml hown hts hK hX 1 (gX8_instrumentHere (gX8_next M)) (fX8_instrumentHere (gX8_next M)) H locs ls (by first | exact rv_ih (rv_nx hrv) | exact rv_er (rv_ih (rv_nx hrv))) (by first | exact fun h => absurd h c13 | exact fun h => absurd h (er_ne (by decide)) | exact fun h => iv_ih (rv_nx hrv) c13) (by decide) hP hS (lv_sub hl [1, 0] rfl)
  · refine lv_aload_n hx hb dX8_readsMoisten_16 rfl (lv_at hl 1 rfl) ?_
    refine lv_iload_n hx hb dX8_readsMoisten_17 rfl (lv_at hl 0 rfl) ?_
    refine W.eq (g2 := F0 m 18 ls (.int (nI (((fX8_instrumentHere (gX8_next M)).toNatClampNeg))) :: .ref (b + 124) :: [])) (congrArg (fun z => F0 m 18 ls (.int z :: .ref (b + 124) :: [])) (nat_of (iv_ih (rv_nx hrv) c13).1)) ?_
    refine xc_i (va_runV (As := [.int (nI (((fX8_instrumentHere (gX8_next M)).toNatClampNeg)))]) (rest := []) ⟨hx, hb, hml, hown, hts⟩ (c_X8_isOfHair l D cy b n hn (gX8_instrumentHere (gX8_next M)) ((fX8_instrumentHere (gX8_next M)).toNatClampNeg) (iv_ih (rv_nx hrv) c13).2) (cwV 1 hts gX8_readsMoisten_X8_isOfHair rfl rfl rfl (by decide +kernel) ⟨Nat.le_of_ble_eq_true rfl, Nat.le_of_ble_eq_true rfl⟩) (xPreV hP hK hX hS (by omega) (cell8 (by decide)) rfl) rfl rfl hl.1 rfl (lv_room (Nat.le_of_ble_eq_true rfl)) dX8_readsMoisten_18 ⟨Nat.le_of_ble_eq_true rfl, Nat.le_of_ble_eq_true rfl⟩) hS (fun H locs hP hS => ?_)
    refine lv_if_eq (tgt := 29) hx hb dX8_readsMoisten_21 (by decide) (fun c21 => ?_) (fun c21 => ?_)
    · rw [show gX8_readsMoisten M = LX8_readsMoisten_29g 1 (gX8_instrumentHere (gX8_next M)) (fX8_instrumentHere (gX8_next M)) from (by rw [gX8_readsMoisten, if_pos c13, if_pos c21])]
      exact cl_X8_readsMoisten_29 l D cy b n hn  hx hb hr hlocks hml hown hts hK hX 1 (gX8_instrumentHere (gX8_next M)) (fX8_instrumentHere (gX8_next M)) H locs ls (by first | exact rv_ih (rv_nx hrv) | exact rv_er (rv_ih (rv_nx hrv))) (by first | exact fun h => absurd h c13 | exact fun h => absurd h (er_ne (by decide)) | exact fun h => iv_ih (rv_nx hrv) c13) (by decide) hP hS (lv_sub hl [1, 0] rfl)
    · refine lv_aload_n hx hb dX8_readsMoisten_24 rfl (lv_at hl 1 rfl) ?_
      refine lv_iconst (v := 3) hx hb dX8_readsMoisten_25 (by decide) ?_
      refine xc_v (va_runV (As := [.int (3 : Int32)]) (rest := []) ⟨hx, hb, hml, hown, hts⟩ (c_X8_errs l D cy b n hn (gX8_instrumentHere (gX8_next M)) (3 : Int32)) (cwV 1 hts gX8_readsMoisten_X8_errs rfl rfl rfl (by decide +kernel) ⟨Nat.le_of_ble_eq_true rfl, Nat.le_of_ble_eq_true rfl⟩) (xPreV hP hK hX hS (by omega) (cell8 (by decide)) rfl) rfl rfl hl.1 rfl (lv_room (Nat.le_of_ble_eq_true rfl)) dX8_readsMoisten_26 ⟨Nat.le_of_ble_eq_true rfl, Nat.le_of_ble_eq_true rfl⟩) hS (fun H locs hP hS => ?_)
      rw [show gX8_readsMoisten M = LX8_readsMoisten_29g 1 (gX8_errs (gX8_instrumentHere (gX8_next M)) (3 : Int32)) (fX8_instrumentHere (gX8_next M)) from (by rw [gX8_readsMoisten, if_pos c13, if_neg c21])]
      exact cl_X8_readsMoisten_29 l D cy b n hn  hx hb hr hlocks hml hown hts hK hX 1 (gX8_errs (gX8_instrumentHere (gX8_next M)) (3 : Int32)) (fX8_instrumentHere (gX8_next M)) H locs ls (by first | exact rv_ih (rv_nx hrv) | exact rv_er (rv_ih (rv_nx hrv))) (by first | exact fun h => absurd h c13 | exact fun h => absurd h (er_ne (by decide)) | exact fun h => iv_ih (rv_nx hrv) c13) (by decide) hP hS (lv_sub hl [1, 0] rfl)
def gX8_readsHumidity (M : Mem) : Mem := if ((gX8_takesNumber (gX8_next M) (0 : Int32) (100 : Int32)) 124 20) = 0 then (mU (gX8_takesNumber (gX8_next M) (0 : Int32) (100 : Int32)) 127 1 (fX8_takesNumber (gX8_next M) (0 : Int32) (100 : Int32))) else (gX8_takesNumber (gX8_next M) (0 : Int32) (100 : Int32))
set_option maxHeartbeats 4000000 in
set_option maxRecDepth 100000 in
theorem c_X8_readsHumidity (l : Launch) (D : va_G) (cy : Nat → ClassId) (b n : Nat) (hn : 133 ≤ n) (M : Mem)  (hrv : RV M) : Met l yX8_readsHumidity wsX8_readsHumidity ({ frames := 5, cells := 0, slots := 0, locals := 106 } : Room) (CP D cy b n fT M [.ref (b + 124)]) (CQv D cy b n fT (gX8_readsHumidity M)) 0 0 (fr b) := by
  refine Met.ofW (cc := cX8_readsHumidity) (maxL := 2) (ret := none) (by decide) rfl ?_
  intro p e s m args below meth c s₁ B hml hv
  obtain ⟨rfl, hP, hK, hX⟩ := hv
  have hx := B.exec
  have hb := B.bytes
  have hr := B.returns
  have hts := atoms_spec (ws := wsX8_readsHumidity) B.pre
  have hown : s.vm.findClass RX8 = some m.cls := findClass_of_methodNamed B.named
  have hlocks := B.notSynchronized
  have lk0 := hts (.fieldLink RX8 138 "HygrometerRoomModel" "fault" "I") (by decide +kernel)
  have lk1 := hts (.fieldLink RX8 16 "HygrometerRoomModel" "now" "[I") (by decide +kernel)
  have inc8 : ∀ w ∈ u_ws RX8 TX8 22, w ∈ wsX8_readsHumidity := by decide +kernel
  have hS : va_S (fr b) s.heap s.heap [] := va_S.rf
  have hl := lv_entry ([.ref (b + 124)]) (n := 2) (Nat.le_of_ble_eq_true rfl)
  rw [lg_entry_eq]
  generalize (lg_sl ([.ref (b + 124)]) ++ List.replicate (2 - (lg_sl ([.ref (b + 124)])).length) Slot.unset).toArray = ls at hl ⊢
  have hl : lv_has ls 2 [(0, .ref (b + 124))] := hl
  refine lv_aload_n hx hb dX8_readsHumidity_0 rfl (lv_at hl 0 rfl) ?_
  refine xc_v (va_runV (As := []) (rest := []) ⟨hx, hb, hml, hown, hts⟩ (c_X8_next l D cy b n hn M hrv.1.tx) (cwV 0 hts gX8_readsHumidity_X8_next rfl rfl rfl (by decide +kernel) ⟨Nat.le_of_ble_eq_true rfl, Nat.le_of_ble_eq_true rfl⟩) (xPreV hP hK hX hS (by omega) (cell8 (by decide)) rfl) rfl rfl hl.1 rfl (lv_room (Nat.le_of_ble_eq_true rfl)) dX8_readsHumidity_1 ⟨Nat.le_of_ble_eq_true rfl, Nat.le_of_ble_eq_true rfl⟩) hS (fun H locs hP hS => ?_)
  refine lv_aload_n hx hb dX8_readsHumidity_4 rfl (lv_at hl 0 rfl) ?_
  refine lv_iconst (v := 0) hx hb dX8_readsHumidity_5 (by decide) ?_
  refine lv_bipush (v := 100) hx hb dX8_readsHumidity_6 (by decide) ?_
  refine xc_i (va_runV (As := [.int (0 : Int32), .int (100 : Int32)]) (rest := []) ⟨hx, hb, hml, hown, hts⟩ (c_X8_takesNumber l D cy b n hn (gX8_next M) (0 : Int32) (100 : Int32) (wx_nx hrv.1)) (cwV 2 hts gX8_readsHumidity_X8_takesNumber rfl rfl rfl (by decide +kernel) ⟨Nat.le_of_ble_eq_true rfl, Nat.le_of_ble_eq_true rfl⟩) (xPreV hP hK hX hS (by omega) (cell8 (by decide)) rfl) rfl rfl hl.1 rfl (lv_room (Nat.le_of_ble_eq_true rfl)) dX8_readsHumidity_8 ⟨Nat.le_of_ble_eq_true rfl, Nat.le_of_ble_eq_true rfl⟩) hS (fun H locs hP hS => ?_)
  refine lv_istore_n (lv' := [(1, .int (fX8_takesNumber (gX8_next M) (0 : Int32) (100 : Int32))), (0, .ref (b + 124))]) hx hb dX8_readsHumidity_11 rfl hl (by decide) rfl (fun ls hl => ?_)
  refine lv_aload_n hx hb dX8_readsHumidity_12 rfl (lv_at hl 1 rfl) ?_
  refine xg (C := RX8) (T := TX8) (N := 22) (v := .int ((gX8_takesNumber (gX8_next M) (0 : Int32) (100 : Int32)) 124 20)) hx hb hts inc8 hown hK hP (by omega) (cell8 (by decide)) rfl 20 (by decide) lk0 (fun _ h => h) rfl dX8_readsHumidity_13 ?_
  refine lv_if_ne (tgt := 26) hx hb dX8_readsHumidity_16 (by decide) (fun c16 => ?_) (fun c16 => ?_)
  · exact xe_v hx hb hr hlocks hP hS rfl (by rw [gX8_readsHumidity, if_neg c16] <;> rfl) (Nat.le_of_ble_eq_true rfl) (Nat.le_of_ble_eq_true rfl) dX8_readsHumidity_26
  · refine lv_aload_n hx hb dX8_readsHumidity_19 rfl (lv_at hl 1 rfl) ?_
    refine xg (C := RX8) (T := TX8) (N := 22) (v := .ref (b + 127)) hx hb hts inc8 hown hK hP (by omega) (cell8 (by decide)) rfl 3 (by decide) lk1 (fun _ h => h) rfl dX8_readsHumidity_20 ?_
    refine lv_iconst (v := 1) hx hb dX8_readsHumidity_23 (by decide) ?_
    refine lv_iload_n hx hb dX8_readsHumidity_24 rfl (lv_at hl 0 rfl) ?_
    refine xis (j := 1) (x := fX8_takesNumber (gX8_next M) (0 : Int32) (100 : Int32)) hx hb hK hP hS (by omega) (by decide) (ixIn (a := 1) rfl (by first | decide | (simp only [lenOf]; omega) | omega) (by decide)) rfl dX8_readsHumidity_25 (fun H locs hP hS => ?_)
    exact xe_v hx hb hr hlocks hP hS rfl (by rw [gX8_readsHumidity, if_pos c16] <;> rfl) (Nat.le_of_ble_eq_true rfl) (Nat.le_of_ble_eq_true rfl) dX8_readsHumidity_26
def LX8_readsMinutes_24g  : Nat → Mem → Int32 → Mem
  | 0, M, _ => M
  | k + 1, M, mx => if ((gX8_takesNumber M (1 : Int32) mx) 124 20) = 0 then (gX8_passes (gX8_takesNumber M (1 : Int32) mx) (fX8_takesNumber M (1 : Int32) mx)) else (gX8_takesNumber M (1 : Int32) mx)
set_option maxHeartbeats 4000000 in
set_option maxRecDepth 100000 in
theorem cl_X8_readsMinutes_24 (l : Launch) (D : va_G) (cy : Nat → ClassId) (b n : Nat) (hn : 133 ≤ n)   {p : Program} {e : Env} {s : State} {m : MethodId} {args : Array Value} {below : List Frame} {meth : Method} {c : Code} (hx : p.tables.exec = Jvm.exec) (hb : c.code = cX8_readsMinutes) (hr : meth.sig.returnType = none) (hlocks : meth.locks = false) (hml : c.maxLocals = 4) (hown : s.vm.findClass RX8 = some m.cls) (hts : ∀ w ∈ wsX8_readsMinutes, w.before args s = true) (hK : va_K D vwCl (tysW cy) s) (hX : SX b s)  : ∀ (k : Nat) (M : Mem) (mx : Int32) (H : Heap) (locs : List Loc) (ls : Array Slot), RV M → mx ≤ 99 → 0 < k → va_P D vwCl (wL cy b fT M n) H → va_S (fr b) s.heap H locs → lv_has ls 4 [(0, .ref (b + 124)), (1, .int mx)] → W p l e (headSpec wsX8_readsMinutes ({ frames := 7, cells := 0, slots := 0, locals := 152 } : Room)).room s m args below meth c H locs 0 0 (MQ below (CQv D cy b n fT (LX8_readsMinutes_24g k M mx)) args s 0 0 (fr b)) (F0 m 24 ls []) := by
  have lk0 := hts (.fieldLink RX8 138 "HygrometerRoomModel" "fault" "I") (by decide +kernel)
  have inc8 : ∀ w ∈ u_ws RX8 TX8 22, w ∈ wsX8_readsMinutes := by decide +kernel
  intro k
  induction k with
  | zero => intro M mx H locs ls hrv hmx hk hP hS hl; omega
  | succ k ih =>
    intro M mx H locs ls hrv hmx hk hP hS hl
    refine lv_aload_n hx hb dX8_readsMinutes_24 rfl (lv_at hl 0 rfl) ?_
    refine lv_iconst (v := 1) hx hb dX8_readsMinutes_25 (by decide) ?_
    refine lv_iload_n hx hb dX8_readsMinutes_26 rfl (lv_at hl 1 rfl) ?_
    refine xc_i (va_runV (As := [.int (1 : Int32), .int mx]) (rest := []) ⟨hx, hb, hml, hown, hts⟩ (c_X8_takesNumber l D cy b n hn M (1 : Int32) mx hrv.1) (cwV 2 hts gX8_readsMinutes_X8_takesNumber rfl rfl rfl (by decide +kernel) ⟨Nat.le_of_ble_eq_true rfl, Nat.le_of_ble_eq_true rfl⟩) (xPreV hP hK hX hS (by omega) (cell8 (by decide)) rfl) rfl rfl hl.1 rfl (lv_room (Nat.le_of_ble_eq_true rfl)) dX8_readsMinutes_27 ⟨Nat.le_of_ble_eq_true rfl, Nat.le_of_ble_eq_true rfl⟩) hS (fun H locs hP hS => ?_)
    refine lv_istore_n (lv' := [(2, .int (fX8_takesNumber M (1 : Int32) mx)), (0, .ref (b + 124)), (1, .int mx)]) hx hb dX8_readsMinutes_30 rfl hl (by decide) rfl (fun ls hl => ?_)
    refine lv_aload_n hx hb dX8_readsMinutes_31 rfl (lv_at hl 1 rfl) ?_
    refine xg (C := RX8) (T := TX8) (N := 22) (v := .int ((gX8_takesNumber M (1 : Int32) mx) 124 20)) hx hb hts inc8 hown hK hP (by omega) (cell8 (by decide)) rfl 20 (by decide) lk0 (fun _ h => h) rfl dX8_readsMinutes_32 ?_
    refine lv_if_ne (tgt := 44) hx hb dX8_readsMinutes_35 (by decide) (fun c35 => ?_) (fun c35 => ?_)
    · exact xe_v hx hb hr hlocks hP hS rfl (by rw [LX8_readsMinutes_24g, if_neg c35] <;> rfl) (Nat.le_of_ble_eq_true rfl) (Nat.le_of_ble_eq_true rfl) dX8_readsMinutes_44
    · refine lv_aload_n hx hb dX8_readsMinutes_38 rfl (lv_at hl 1 rfl) ?_
      refine lv_iload_n hx hb dX8_readsMinutes_39 rfl (lv_at hl 0 rfl) ?_
      refine xc_i (va_runV (As := [.int (fX8_takesNumber M (1 : Int32) mx)]) (rest := []) ⟨hx, hb, hml, hown, hts⟩ (c_X8_passes l D cy b n hn (gX8_takesNumber M (1 : Int32) mx) (fX8_takesNumber M (1 : Int32) mx) (mm_ub c35 hmx) (rv_tn hrv).2.1 (rv_tn hrv).2.2) (cwV 1 hts gX8_readsMinutes_X8_passes rfl rfl rfl (by decide +kernel) ⟨Nat.le_of_ble_eq_true rfl, Nat.le_of_ble_eq_true rfl⟩) (xPreV hP hK hX hS (by omega) (cell8 (by decide)) rfl) rfl rfl hl.1 rfl (lv_room (Nat.le_of_ble_eq_true rfl)) dX8_readsMinutes_40 ⟨Nat.le_of_ble_eq_true rfl, Nat.le_of_ble_eq_true rfl⟩) hS (fun H locs hP hS => ?_)
      refine lv_istore_n (lv' := [(3, .int (fX8_passes (gX8_takesNumber M (1 : Int32) mx) (fX8_takesNumber M (1 : Int32) mx))), (2, .int (fX8_takesNumber M (1 : Int32) mx)), (0, .ref (b + 124)), (1, .int mx)]) hx hb dX8_readsMinutes_43 rfl hl (by decide) rfl (fun ls hl => ?_)
      exact xe_v hx hb hr hlocks hP hS rfl (by rw [LX8_readsMinutes_24g, if_pos c35] <;> rfl) (Nat.le_of_ble_eq_true rfl) (Nat.le_of_ble_eq_true rfl) dX8_readsMinutes_44

def gX8_readsMinutes (M : Mem) : Mem := if ((9999 : Int32) - ((gX8_next M) 127 0)) ≤ (99 : Int32) then (LX8_readsMinutes_24g 1 (gX8_next M) ((9999 : Int32) - ((gX8_next M) 127 0))) else (LX8_readsMinutes_24g 1 (gX8_next M) (99 : Int32))
set_option maxHeartbeats 4000000 in
set_option maxRecDepth 100000 in
theorem c_X8_readsMinutes (l : Launch) (D : va_G) (cy : Nat → ClassId) (b n : Nat) (hn : 133 ≤ n) (M : Mem)  (hrv : RV M) : Met l yX8_readsMinutes wsX8_readsMinutes ({ frames := 7, cells := 0, slots := 0, locals := 152 } : Room) (CP D cy b n fT M [.ref (b + 124)]) (CQv D cy b n fT (gX8_readsMinutes M)) 0 0 (fr b) := by
  refine Met.ofW (cc := cX8_readsMinutes) (maxL := 4) (ret := none) (by decide) rfl ?_
  intro p e s m args below meth c s₁ B hml hv
  obtain ⟨rfl, hP, hK, hX⟩ := hv
  have hx := B.exec
  have hb := B.bytes
  have hr := B.returns
  have hts := atoms_spec (ws := wsX8_readsMinutes) B.pre
  have hown : s.vm.findClass RX8 = some m.cls := findClass_of_methodNamed B.named
  have hlocks := B.notSynchronized
  have lk0 := hts (.fieldLink RX8 16 "HygrometerRoomModel" "now" "[I") (by decide +kernel)
  have inc8 : ∀ w ∈ u_ws RX8 TX8 22, w ∈ wsX8_readsMinutes := by decide +kernel
  have hS : va_S (fr b) s.heap s.heap [] := va_S.rf
  have hl := lv_entry ([.ref (b + 124)]) (n := 4) (Nat.le_of_ble_eq_true rfl)
  rw [lg_entry_eq]
  generalize (lg_sl ([.ref (b + 124)]) ++ List.replicate (4 - (lg_sl ([.ref (b + 124)])).length) Slot.unset).toArray = ls at hl ⊢
  have hl : lv_has ls 4 [(0, .ref (b + 124))] := hl
  refine lv_aload_n hx hb dX8_readsMinutes_0 rfl (lv_at hl 0 rfl) ?_
  refine xc_v (va_runV (As := []) (rest := []) ⟨hx, hb, hml, hown, hts⟩ (c_X8_next l D cy b n hn M hrv.1.tx) (cwV 0 hts gX8_readsMinutes_X8_next rfl rfl rfl (by decide +kernel) ⟨Nat.le_of_ble_eq_true rfl, Nat.le_of_ble_eq_true rfl⟩) (xPreV hP hK hX hS (by omega) (cell8 (by decide)) rfl) rfl rfl hl.1 rfl (lv_room (Nat.le_of_ble_eq_true rfl)) dX8_readsMinutes_1 ⟨Nat.le_of_ble_eq_true rfl, Nat.le_of_ble_eq_true rfl⟩) hS (fun H locs hP hS => ?_)
  refine lv_sipush (v := 9999) hx hb dX8_readsMinutes_4 (by decide) ?_
  refine lv_aload_n hx hb dX8_readsMinutes_7 rfl (lv_at hl 0 rfl) ?_
  refine xg (C := RX8) (T := TX8) (N := 22) (v := .ref (b + 127)) hx hb hts inc8 hown hK hP (by omega) (cell8 (by decide)) rfl 3 (by decide) lk0 (fun _ h => h) rfl dX8_readsMinutes_8 ?_
  refine lv_iconst (v := 0) hx hb dX8_readsMinutes_11 (by decide) ?_
  refine xil (j := 0) hx hb hK hP (by omega) (by decide) (ixIn (a := 0) rfl (by first | decide | (simp only [lenOf]; omega) | omega) (by decide)) rfl dX8_readsMinutes_12 ?_
  refine lv_isub hx hb dX8_readsMinutes_13 ?_
  refine lv_istore_n (lv' := [(1, .int ((9999 : Int32) - ((gX8_next M) 127 0))), (0, .ref (b + 124))]) hx hb dX8_readsMinutes_14 rfl hl (by decide) rfl (fun ls hl => ?_)
  refine lv_iload_n hx hb dX8_readsMinutes_15 rfl (lv_at hl 0 rfl) ?_
  refine lv_bipush (v := 99) hx hb dX8_readsMinutes_16 (by decide) ?_
  refine lv_icmp_le (tgt := 24) hx hb dX8_readsMinutes_18 (by decide) (fun c18 => ?_) (fun c18 => ?_)
  · rw [show gX8_readsMinutes M = LX8_readsMinutes_24g 1 (gX8_next M) ((9999 : Int32) - ((gX8_next M) 127 0)) from (by rw [gX8_readsMinutes, if_pos c18])]
    exact cl_X8_readsMinutes_24 l D cy b n hn  hx hb hr hlocks hml hown hts hK hX 1 (gX8_next M) ((9999 : Int32) - ((gX8_next M) 127 0)) H locs ls (rv_nx hrv) (by first | exact c18 | decide) (by decide) hP hS (lv_sub hl [1, 0] rfl)
  · refine lv_bipush (v := 99) hx hb dX8_readsMinutes_21 (by decide) ?_
    refine lv_istore_n (lv' := [(1, .int (99 : Int32)), (0, .ref (b + 124))]) hx hb dX8_readsMinutes_23 rfl hl (by decide) rfl (fun ls hl => ?_)
    rw [show gX8_readsMinutes M = LX8_readsMinutes_24g 1 (gX8_next M) (99 : Int32) from (by rw [gX8_readsMinutes, if_neg c18])]
    exact cl_X8_readsMinutes_24 l D cy b n hn  hx hb hr hlocks hml hown hts hK hX 1 (gX8_next M) (99 : Int32) H locs ls (rv_nx hrv) (by first | exact c18 | decide) (by decide) hP hS (lv_sub hl [1, 0] rfl)
def gX8_readsLine (M : Mem) : Mem := if (fX8_isKey M 1) = 0 then (if (fX8_isKey M 2) = 0 then (if (fX8_isKey M 3) = 0 then (if (fX8_isKey M 4) = 0 then (if (fX8_isKey M 5) = 0 then (if (fX8_isKey M 6) = 0 then (if (fX8_isKey M 7) = 0 then (if (fX8_isKey M 8) = 0 then (gX8_errs M (1 : Int32)) else (gX8_readsMinutes M)) else (gX8_readsHumidity M)) else (gX8_readsMoisten M)) else (gX8_readsTighten M)) else (gX8_readsOut M)) else (gX8_readsBox M)) else (gX8_readsBulb M)) else (gX8_readsHair M)
set_option maxHeartbeats 4000000 in
set_option maxRecDepth 100000 in
theorem c_X8_readsLine (l : Launch) (D : va_G) (cy : Nat → ClassId) (b n : Nat) (hn : 133 ≤ n) (M : Mem)  (hrv : RV M) : Met l yX8_readsLine wsX8_readsLine ({ frames := 8, cells := 0, slots := 0, locals := 175 } : Room) (CP D cy b n fT M [.ref (b + 124)]) (CQv D cy b n fT (gX8_readsLine M)) 0 0 (fr b) := by
  refine Met.ofW (cc := cX8_readsLine) (maxL := 1) (ret := none) (by decide) rfl ?_
  intro p e s m args below meth c s₁ B hml hv
  obtain ⟨rfl, hP, hK, hX⟩ := hv
  have hx := B.exec
  have hb := B.bytes
  have hr := B.returns
  have hts := atoms_spec (ws := wsX8_readsLine) B.pre
  have hown : s.vm.findClass RX8 = some m.cls := findClass_of_methodNamed B.named
  have hlocks := B.notSynchronized
  have hS : va_S (fr b) s.heap s.heap [] := va_S.rf
  have hl := lv_entry ([.ref (b + 124)]) (n := 1) (Nat.le_of_ble_eq_true rfl)
  rw [lg_entry_eq]
  generalize (lg_sl ([.ref (b + 124)]) ++ List.replicate (1 - (lg_sl ([.ref (b + 124)])).length) Slot.unset).toArray = ls at hl ⊢
  have hl : lv_has ls 1 [(0, .ref (b + 124))] := hl
  refine lv_aload_n hx hb dX8_readsLine_0 rfl (lv_at hl 0 rfl) ?_
  refine lv_iconst (v := 1) hx hb dX8_readsLine_1 (by decide) ?_
  refine xc_i (va_runV (As := [.int (1 : Int32)]) (rest := []) ⟨hx, hb, hml, hown, hts⟩ (c_X8_isKey l D cy b n hn M 1 (by decide) hrv.1) (cwV 1 hts gX8_readsLine_X8_isKey rfl rfl rfl (by decide +kernel) ⟨Nat.le_of_ble_eq_true rfl, Nat.le_of_ble_eq_true rfl⟩) (xPreV hP hK hX hS (by omega) (cell8 (by decide)) rfl) rfl rfl hl.1 rfl (lv_room (Nat.le_of_ble_eq_true rfl)) dX8_readsLine_2 ⟨Nat.le_of_ble_eq_true rfl, Nat.le_of_ble_eq_true rfl⟩) hS (fun H locs hP hS => ?_)
  refine lv_if_eq (tgt := 15) hx hb dX8_readsLine_5 (by decide) (fun c5 => ?_) (fun c5 => ?_)
  · refine lv_aload_n hx hb dX8_readsLine_15 rfl (lv_at hl 0 rfl) ?_
    refine lv_iconst (v := 2) hx hb dX8_readsLine_16 (by decide) ?_
    refine xc_i (va_runV (As := [.int (2 : Int32)]) (rest := []) ⟨hx, hb, hml, hown, hts⟩ (c_X8_isKey l D cy b n hn M 2 (by decide) hrv.1) (cwV 1 hts gX8_readsLine_X8_isKey rfl rfl rfl (by decide +kernel) ⟨Nat.le_of_ble_eq_true rfl, Nat.le_of_ble_eq_true rfl⟩) (xPreV hP hK hX hS (by omega) (cell8 (by decide)) rfl) rfl rfl hl.1 rfl (lv_room (Nat.le_of_ble_eq_true rfl)) dX8_readsLine_17 ⟨Nat.le_of_ble_eq_true rfl, Nat.le_of_ble_eq_true rfl⟩) hS (fun H locs hP hS => ?_)
    refine lv_if_eq (tgt := 30) hx hb dX8_readsLine_20 (by decide) (fun c20 => ?_) (fun c20 => ?_)
    · refine lv_aload_n hx hb dX8_readsLine_30 rfl (lv_at hl 0 rfl) ?_
      refine lv_iconst (v := 3) hx hb dX8_readsLine_31 (by decide) ?_
      refine xc_i (va_runV (As := [.int (3 : Int32)]) (rest := []) ⟨hx, hb, hml, hown, hts⟩ (c_X8_isKey l D cy b n hn M 3 (by decide) hrv.1) (cwV 1 hts gX8_readsLine_X8_isKey rfl rfl rfl (by decide +kernel) ⟨Nat.le_of_ble_eq_true rfl, Nat.le_of_ble_eq_true rfl⟩) (xPreV hP hK hX hS (by omega) (cell8 (by decide)) rfl) rfl rfl hl.1 rfl (lv_room (Nat.le_of_ble_eq_true rfl)) dX8_readsLine_32 ⟨Nat.le_of_ble_eq_true rfl, Nat.le_of_ble_eq_true rfl⟩) hS (fun H locs hP hS => ?_)
      refine lv_if_eq (tgt := 45) hx hb dX8_readsLine_35 (by decide) (fun c35 => ?_) (fun c35 => ?_)
      · refine lv_aload_n hx hb dX8_readsLine_45 rfl (lv_at hl 0 rfl) ?_
        refine lv_iconst (v := 4) hx hb dX8_readsLine_46 (by decide) ?_
        refine xc_i (va_runV (As := [.int (4 : Int32)]) (rest := []) ⟨hx, hb, hml, hown, hts⟩ (c_X8_isKey l D cy b n hn M 4 (by decide) hrv.1) (cwV 1 hts gX8_readsLine_X8_isKey rfl rfl rfl (by decide +kernel) ⟨Nat.le_of_ble_eq_true rfl, Nat.le_of_ble_eq_true rfl⟩) (xPreV hP hK hX hS (by omega) (cell8 (by decide)) rfl) rfl rfl hl.1 rfl (lv_room (Nat.le_of_ble_eq_true rfl)) dX8_readsLine_47 ⟨Nat.le_of_ble_eq_true rfl, Nat.le_of_ble_eq_true rfl⟩) hS (fun H locs hP hS => ?_)
        refine lv_if_eq (tgt := 60) hx hb dX8_readsLine_50 (by decide) (fun c50 => ?_) (fun c50 => ?_)
        · refine lv_aload_n hx hb dX8_readsLine_60 rfl (lv_at hl 0 rfl) ?_
          refine lv_iconst (v := 5) hx hb dX8_readsLine_61 (by decide) ?_
          refine xc_i (va_runV (As := [.int (5 : Int32)]) (rest := []) ⟨hx, hb, hml, hown, hts⟩ (c_X8_isKey l D cy b n hn M 5 (by decide) hrv.1) (cwV 1 hts gX8_readsLine_X8_isKey rfl rfl rfl (by decide +kernel) ⟨Nat.le_of_ble_eq_true rfl, Nat.le_of_ble_eq_true rfl⟩) (xPreV hP hK hX hS (by omega) (cell8 (by decide)) rfl) rfl rfl hl.1 rfl (lv_room (Nat.le_of_ble_eq_true rfl)) dX8_readsLine_62 ⟨Nat.le_of_ble_eq_true rfl, Nat.le_of_ble_eq_true rfl⟩) hS (fun H locs hP hS => ?_)
          refine lv_if_eq (tgt := 75) hx hb dX8_readsLine_65 (by decide) (fun c65 => ?_) (fun c65 => ?_)
          · refine lv_aload_n hx hb dX8_readsLine_75 rfl (lv_at hl 0 rfl) ?_
            refine lv_bipush (v := 6) hx hb dX8_readsLine_76 (by decide) ?_
            refine xc_i (va_runV (As := [.int (6 : Int32)]) (rest := []) ⟨hx, hb, hml, hown, hts⟩ (c_X8_isKey l D cy b n hn M 6 (by decide) hrv.1) (cwV 1 hts gX8_readsLine_X8_isKey rfl rfl rfl (by decide +kernel) ⟨Nat.le_of_ble_eq_true rfl, Nat.le_of_ble_eq_true rfl⟩) (xPreV hP hK hX hS (by omega) (cell8 (by decide)) rfl) rfl rfl hl.1 rfl (lv_room (Nat.le_of_ble_eq_true rfl)) dX8_readsLine_78 ⟨Nat.le_of_ble_eq_true rfl, Nat.le_of_ble_eq_true rfl⟩) hS (fun H locs hP hS => ?_)
            refine lv_if_eq (tgt := 91) hx hb dX8_readsLine_81 (by decide) (fun c81 => ?_) (fun c81 => ?_)
            · refine lv_aload_n hx hb dX8_readsLine_91 rfl (lv_at hl 0 rfl) ?_
              refine lv_bipush (v := 7) hx hb dX8_readsLine_92 (by decide) ?_
              refine xc_i (va_runV (As := [.int (7 : Int32)]) (rest := []) ⟨hx, hb, hml, hown, hts⟩ (c_X8_isKey l D cy b n hn M 7 (by decide) hrv.1) (cwV 1 hts gX8_readsLine_X8_isKey rfl rfl rfl (by decide +kernel) ⟨Nat.le_of_ble_eq_true rfl, Nat.le_of_ble_eq_true rfl⟩) (xPreV hP hK hX hS (by omega) (cell8 (by decide)) rfl) rfl rfl hl.1 rfl (lv_room (Nat.le_of_ble_eq_true rfl)) dX8_readsLine_94 ⟨Nat.le_of_ble_eq_true rfl, Nat.le_of_ble_eq_true rfl⟩) hS (fun H locs hP hS => ?_)
              refine lv_if_eq (tgt := 107) hx hb dX8_readsLine_97 (by decide) (fun c97 => ?_) (fun c97 => ?_)
              · refine lv_aload_n hx hb dX8_readsLine_107 rfl (lv_at hl 0 rfl) ?_
                refine lv_bipush (v := 8) hx hb dX8_readsLine_108 (by decide) ?_
                refine xc_i (va_runV (As := [.int (8 : Int32)]) (rest := []) ⟨hx, hb, hml, hown, hts⟩ (c_X8_isKey l D cy b n hn M 8 (by decide) hrv.1) (cwV 1 hts gX8_readsLine_X8_isKey rfl rfl rfl (by decide +kernel) ⟨Nat.le_of_ble_eq_true rfl, Nat.le_of_ble_eq_true rfl⟩) (xPreV hP hK hX hS (by omega) (cell8 (by decide)) rfl) rfl rfl hl.1 rfl (lv_room (Nat.le_of_ble_eq_true rfl)) dX8_readsLine_110 ⟨Nat.le_of_ble_eq_true rfl, Nat.le_of_ble_eq_true rfl⟩) hS (fun H locs hP hS => ?_)
                refine lv_if_eq (tgt := 123) hx hb dX8_readsLine_113 (by decide) (fun c113 => ?_) (fun c113 => ?_)
                · refine lv_aload_n hx hb dX8_readsLine_123 rfl (lv_at hl 0 rfl) ?_
                  refine lv_iconst (v := 1) hx hb dX8_readsLine_124 (by decide) ?_
                  refine xc_v (va_runV (As := [.int (1 : Int32)]) (rest := []) ⟨hx, hb, hml, hown, hts⟩ (c_X8_errs l D cy b n hn M (1 : Int32)) (cwV 1 hts gX8_readsLine_X8_errs rfl rfl rfl (by decide +kernel) ⟨Nat.le_of_ble_eq_true rfl, Nat.le_of_ble_eq_true rfl⟩) (xPreV hP hK hX hS (by omega) (cell8 (by decide)) rfl) rfl rfl hl.1 rfl (lv_room (Nat.le_of_ble_eq_true rfl)) dX8_readsLine_125 ⟨Nat.le_of_ble_eq_true rfl, Nat.le_of_ble_eq_true rfl⟩) hS (fun H locs hP hS => ?_)
                  exact xe_v hx hb hr hlocks hP hS rfl (by rw [gX8_readsLine, if_pos c5, if_pos c20, if_pos c35, if_pos c50, if_pos c65, if_pos c81, if_pos c97, if_pos c113] <;> rfl) (Nat.le_of_ble_eq_true rfl) (Nat.le_of_ble_eq_true rfl) dX8_readsLine_128
                · refine lv_aload_n hx hb dX8_readsLine_116 rfl (lv_at hl 0 rfl) ?_
                  refine xc_v (va_runV (As := []) (rest := []) ⟨hx, hb, hml, hown, hts⟩ (c_X8_readsMinutes l D cy b n hn M (by first | assumption | omega)) (cwV 0 hts gX8_readsLine_X8_readsMinutes rfl rfl rfl (by decide +kernel) ⟨Nat.le_of_ble_eq_true rfl, Nat.le_of_ble_eq_true rfl⟩) (xPreV hP hK hX hS (by omega) (cell8 (by decide)) rfl) rfl rfl hl.1 rfl (lv_room (Nat.le_of_ble_eq_true rfl)) dX8_readsLine_117 ⟨Nat.le_of_ble_eq_true rfl, Nat.le_of_ble_eq_true rfl⟩) hS (fun H locs hP hS => ?_)
                  refine lv_goto (tgt := 128) hx hb dX8_readsLine_120 (by decide) ?_
                  exact xe_v hx hb hr hlocks hP hS rfl (by rw [gX8_readsLine, if_pos c5, if_pos c20, if_pos c35, if_pos c50, if_pos c65, if_pos c81, if_pos c97, if_neg c113] <;> rfl) (Nat.le_of_ble_eq_true rfl) (Nat.le_of_ble_eq_true rfl) dX8_readsLine_128
              · refine lv_aload_n hx hb dX8_readsLine_100 rfl (lv_at hl 0 rfl) ?_
                refine xc_v (va_runV (As := []) (rest := []) ⟨hx, hb, hml, hown, hts⟩ (c_X8_readsHumidity l D cy b n hn M (by first | assumption | omega)) (cwV 0 hts gX8_readsLine_X8_readsHumidity rfl rfl rfl (by decide +kernel) ⟨Nat.le_of_ble_eq_true rfl, Nat.le_of_ble_eq_true rfl⟩) (xPreV hP hK hX hS (by omega) (cell8 (by decide)) rfl) rfl rfl hl.1 rfl (lv_room (Nat.le_of_ble_eq_true rfl)) dX8_readsLine_101 ⟨Nat.le_of_ble_eq_true rfl, Nat.le_of_ble_eq_true rfl⟩) hS (fun H locs hP hS => ?_)
                refine lv_goto (tgt := 128) hx hb dX8_readsLine_104 (by decide) ?_
                exact xe_v hx hb hr hlocks hP hS rfl (by rw [gX8_readsLine, if_pos c5, if_pos c20, if_pos c35, if_pos c50, if_pos c65, if_pos c81, if_neg c97] <;> rfl) (Nat.le_of_ble_eq_true rfl) (Nat.le_of_ble_eq_true rfl) dX8_readsLine_128
            · refine lv_aload_n hx hb dX8_readsLine_84 rfl (lv_at hl 0 rfl) ?_
              refine xc_v (va_runV (As := []) (rest := []) ⟨hx, hb, hml, hown, hts⟩ (c_X8_readsMoisten l D cy b n hn M (by first | assumption | omega)) (cwV 0 hts gX8_readsLine_X8_readsMoisten rfl rfl rfl (by decide +kernel) ⟨Nat.le_of_ble_eq_true rfl, Nat.le_of_ble_eq_true rfl⟩) (xPreV hP hK hX hS (by omega) (cell8 (by decide)) rfl) rfl rfl hl.1 rfl (lv_room (Nat.le_of_ble_eq_true rfl)) dX8_readsLine_85 ⟨Nat.le_of_ble_eq_true rfl, Nat.le_of_ble_eq_true rfl⟩) hS (fun H locs hP hS => ?_)
              refine lv_goto (tgt := 128) hx hb dX8_readsLine_88 (by decide) ?_
              exact xe_v hx hb hr hlocks hP hS rfl (by rw [gX8_readsLine, if_pos c5, if_pos c20, if_pos c35, if_pos c50, if_pos c65, if_neg c81] <;> rfl) (Nat.le_of_ble_eq_true rfl) (Nat.le_of_ble_eq_true rfl) dX8_readsLine_128
          · refine lv_aload_n hx hb dX8_readsLine_68 rfl (lv_at hl 0 rfl) ?_
            refine xc_v (va_runV (As := []) (rest := []) ⟨hx, hb, hml, hown, hts⟩ (c_X8_readsTighten l D cy b n hn M (by first | assumption | omega)) (cwV 0 hts gX8_readsLine_X8_readsTighten rfl rfl rfl (by decide +kernel) ⟨Nat.le_of_ble_eq_true rfl, Nat.le_of_ble_eq_true rfl⟩) (xPreV hP hK hX hS (by omega) (cell8 (by decide)) rfl) rfl rfl hl.1 rfl (lv_room (Nat.le_of_ble_eq_true rfl)) dX8_readsLine_69 ⟨Nat.le_of_ble_eq_true rfl, Nat.le_of_ble_eq_true rfl⟩) hS (fun H locs hP hS => ?_)
            refine lv_goto (tgt := 128) hx hb dX8_readsLine_72 (by decide) ?_
            exact xe_v hx hb hr hlocks hP hS rfl (by rw [gX8_readsLine, if_pos c5, if_pos c20, if_pos c35, if_pos c50, if_neg c65] <;> rfl) (Nat.le_of_ble_eq_true rfl) (Nat.le_of_ble_eq_true rfl) dX8_readsLine_128
        · refine lv_aload_n hx hb dX8_readsLine_53 rfl (lv_at hl 0 rfl) ?_
          refine xc_v (va_runV (As := []) (rest := []) ⟨hx, hb, hml, hown, hts⟩ (c_X8_readsOut l D cy b n hn M (by first | assumption | omega)) (cwV 0 hts gX8_readsLine_X8_readsOut rfl rfl rfl (by decide +kernel) ⟨Nat.le_of_ble_eq_true rfl, Nat.le_of_ble_eq_true rfl⟩) (xPreV hP hK hX hS (by omega) (cell8 (by decide)) rfl) rfl rfl hl.1 rfl (lv_room (Nat.le_of_ble_eq_true rfl)) dX8_readsLine_54 ⟨Nat.le_of_ble_eq_true rfl, Nat.le_of_ble_eq_true rfl⟩) hS (fun H locs hP hS => ?_)
          refine lv_goto (tgt := 128) hx hb dX8_readsLine_57 (by decide) ?_
          exact xe_v hx hb hr hlocks hP hS rfl (by rw [gX8_readsLine, if_pos c5, if_pos c20, if_pos c35, if_neg c50] <;> rfl) (Nat.le_of_ble_eq_true rfl) (Nat.le_of_ble_eq_true rfl) dX8_readsLine_128
      · refine lv_aload_n hx hb dX8_readsLine_38 rfl (lv_at hl 0 rfl) ?_
        refine xc_v (va_runV (As := []) (rest := []) ⟨hx, hb, hml, hown, hts⟩ (c_X8_readsBox l D cy b n hn M (by first | assumption | omega)) (cwV 0 hts gX8_readsLine_X8_readsBox rfl rfl rfl (by decide +kernel) ⟨Nat.le_of_ble_eq_true rfl, Nat.le_of_ble_eq_true rfl⟩) (xPreV hP hK hX hS (by omega) (cell8 (by decide)) rfl) rfl rfl hl.1 rfl (lv_room (Nat.le_of_ble_eq_true rfl)) dX8_readsLine_39 ⟨Nat.le_of_ble_eq_true rfl, Nat.le_of_ble_eq_true rfl⟩) hS (fun H locs hP hS => ?_)
        refine lv_goto (tgt := 128) hx hb dX8_readsLine_42 (by decide) ?_
        exact xe_v hx hb hr hlocks hP hS rfl (by rw [gX8_readsLine, if_pos c5, if_pos c20, if_neg c35] <;> rfl) (Nat.le_of_ble_eq_true rfl) (Nat.le_of_ble_eq_true rfl) dX8_readsLine_128
    · refine lv_aload_n hx hb dX8_readsLine_23 rfl (lv_at hl 0 rfl) ?_
      refine xc_v (va_runV (As := []) (rest := []) ⟨hx, hb, hml, hown, hts⟩ (c_X8_readsBulb l D cy b n hn M (by first | assumption | omega)) (cwV 0 hts gX8_readsLine_X8_readsBulb rfl rfl rfl (by decide +kernel) ⟨Nat.le_of_ble_eq_true rfl, Nat.le_of_ble_eq_true rfl⟩) (xPreV hP hK hX hS (by omega) (cell8 (by decide)) rfl) rfl rfl hl.1 rfl (lv_room (Nat.le_of_ble_eq_true rfl)) dX8_readsLine_24 ⟨Nat.le_of_ble_eq_true rfl, Nat.le_of_ble_eq_true rfl⟩) hS (fun H locs hP hS => ?_)
      refine lv_goto (tgt := 128) hx hb dX8_readsLine_27 (by decide) ?_
      exact xe_v hx hb hr hlocks hP hS rfl (by rw [gX8_readsLine, if_pos c5, if_neg c20] <;> rfl) (Nat.le_of_ble_eq_true rfl) (Nat.le_of_ble_eq_true rfl) dX8_readsLine_128
  · refine lv_aload_n hx hb dX8_readsLine_8 rfl (lv_at hl 0 rfl) ?_
    refine xc_v (va_runV (As := []) (rest := []) ⟨hx, hb, hml, hown, hts⟩ (c_X8_readsHair l D cy b n hn M (by first | assumption | omega)) (cwV 0 hts gX8_readsLine_X8_readsHair rfl rfl rfl (by decide +kernel) ⟨Nat.le_of_ble_eq_true rfl, Nat.le_of_ble_eq_true rfl⟩) (xPreV hP hK hX hS (by omega) (cell8 (by decide)) rfl) rfl rfl hl.1 rfl (lv_room (Nat.le_of_ble_eq_true rfl)) dX8_readsLine_9 ⟨Nat.le_of_ble_eq_true rfl, Nat.le_of_ble_eq_true rfl⟩) hS (fun H locs hP hS => ?_)
    refine lv_goto (tgt := 128) hx hb dX8_readsLine_12 (by decide) ?_
    exact xe_v hx hb hr hlocks hP hS rfl (by rw [gX8_readsLine, if_neg c5] <;> rfl) (Nat.le_of_ble_eq_true rfl) (Nat.le_of_ble_eq_true rfl) dX8_readsLine_128
