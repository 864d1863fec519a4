/-! the reference's tokens -/
def TX (M : Mem) : Prop := ∃ e t, e ≤ 600 ∧ t ≤ e ∧ M 124 15 = nI e ∧ M 124 18 = nI t
def FX (M : Mem) : Prop := ∃ e f, e ≤ 600 ∧ f ≤ e ∧ M 124 15 = nI e ∧ M 124 17 = nI f
def WX (M : Mem) : Prop := ∃ e t f, e ≤ 600 ∧ f ≤ t ∧ t ≤ e ∧ M 124 15 = nI e ∧ M 124 18 = nI t ∧ M 124 17 = nI f
theorem WX.tx {M : Mem} (h : WX M) : TX M := by obtain ⟨e, t, f, h1, h2, h3, h4, h5, h6⟩ := h; exact ⟨e, t, h1, h3, h4, h5⟩
theorem tx_ub {M : Mem} (h : TX M) : UB (M 124 18) 600 := by obtain ⟨e, t, h1, h2, h3, h4⟩ := h; exact ⟨t, by omega, h4⟩
theorem fx_ub {M : Mem} (h : FX M) : UB (M 124 17) 600 := by obtain ⟨e, t, h1, h2, h3, h4⟩ := h; exact ⟨t, by omega, h4⟩
theorem tx_lt {M : Mem} (h : TX M) (hc : ¬ M 124 15 ≤ M 124 18) : (M 124 18).toNatClampNeg < 600 := by
  obtain ⟨e, t, h1, h2, h3, h4⟩ := h
  rw [h3, h4, nI_leI (by omega) (by omega)] at hc
  rw [h4, nI_clamp (by omega)]; omega
theorem fx_lt {M : Mem} (h : FX M) (hc : ¬ M 124 15 ≤ M 124 17) : (M 124 17).toNatClampNeg < 600 := by
  obtain ⟨e, t, h1, h2, h3, h4⟩ := h
  rw [h3, h4, nI_leI (by omega) (by omega)] at hc
  rw [h4, nI_clamp (by omega)]; omega
theorem fx_lt' {M : Mem} (h : FX M) (hc : ¬ M 124 17 = M 124 15) : (M 124 17).toNatClampNeg < 600 := by
  obtain ⟨e, t, h1, h2, h3, h4⟩ := h
  rw [h3, h4, nI_eq (by omega) (by omega)] at hc
  rw [h4, nI_clamp (by omega)]; omega
theorem tx_step {M : Mem} (h : TX M) (hc : ¬ M 124 15 ≤ M 124 18) : TX (mU M 124 18 (M 124 18 + 1)) := by
  obtain ⟨e, t, h1, h2, h3, h4⟩ := h
  rw [h3, h4, nI_leI (by omega) (by omega)] at hc
  exact ⟨e, t + 1, h1, by omega, by rw [mU_row (by decide)]; exact h3, by rw [mU_at]; show M 124 18 + 1 = _; rw [h4, nI_1]⟩
theorem fx_step {M : Mem} (h : FX M) (hc : ¬ M 124 15 ≤ M 124 17) : FX (mU M 124 17 (M 124 17 + 1)) := by
  obtain ⟨e, t, h1, h2, h3, h4⟩ := h
  rw [h3, h4, nI_leI (by omega) (by omega)] at hc
  exact ⟨e, t + 1, h1, by omega, by rw [mU_row (by decide)]; exact h3, by rw [mU_at]; show M 124 17 + 1 = _; rw [h4, nI_1]⟩
theorem tx_fuel {M : Mem} {k : Nat} (h : TX M) (hk : 601 ≤ (M 124 18).toNatClampNeg + (k + 1)) : 601 ≤ (mU M 124 18 (M 124 18 + 1) 124 18).toNatClampNeg + k := by
  obtain ⟨e, t, h1, h2, h3, h4⟩ := h
  rw [mU_at]
  show 601 ≤ (M 124 18 + 1).toNatClampNeg + k
  rw [h4, nI_1, nI_clamp (by omega)]
  rw [h4, nI_clamp (by omega)] at hk
  omega
theorem fx_fuel {M : Mem} {k : Nat} (h : FX M) (hk : 601 ≤ (M 124 17).toNatClampNeg + (k + 1)) : 601 ≤ (mU M 124 17 (M 124 17 + 1) 124 17).toNatClampNeg + k := by
  obtain ⟨e, t, h1, h2, h3, h4⟩ := h
  rw [mU_at]
  show 601 ≤ (M 124 17 + 1).toNatClampNeg + k
  rw [h4, nI_1, nI_clamp (by omega)]
  rw [h4, nI_clamp (by omega)] at hk
  omega
theorem tx_zero {M : Mem} {P : Prop} (h : TX M) (hk : 601 ≤ (M 124 18).toNatClampNeg + 0) : P := by
  have := ub_at (tx_ub h); omega
theorem fx_zero {M : Mem} {P : Prop} (h : FX M) (hk : 601 ≤ (M 124 17).toNatClampNeg + 0) : P := by
  have := ub_at (fx_ub h); omega
theorem fx_tx {M : Mem} (h : FX M) : TX (mU M 124 18 (M 124 17)) := h
def LX8_scansWord_0g (x : Int32) : Nat → Mem → Mem
  | 0, M => M
  | k + 1, M => if (M 124 15) ≤ (M 124 18) then (if x = 0 then (mU M 124 16 (1 : Int32)) else (mU (mU M 124 16 (1 : Int32)) 124 16 (4 : Int32))) else (if (fX8_isLetter M (M 131 ((M 124 18).toNatClampNeg))) = 0 then (if x = 0 then (mU M 124 16 (1 : Int32)) else (mU (mU M 124 16 (1 : Int32)) 124 16 (4 : Int32))) else (LX8_scansWord_0g x k (mU M 124 18 ((M 124 18) + (1 : Int32)))))
set_option maxHeartbeats 4000000 in
set_option maxRecDepth 100000 in
theorem cl_X8_scansWord_0 (l : Launch) (D : va_G) (cy : Nat → ClassId) (b n : Nat) (hn : 133 ≤ n) (x : Int32)  {p : Program} {e : Env} {s : State} {m : MethodId} {args : Array Value} {below : List Frame} {meth : Method} {c : Code} (hx : p.tables.exec = Jvm.exec) (hb : c.code = cX8_scansWord) (hr : meth.sig.returnType = none) (hlocks : meth.locks = false) (hml : c.maxLocals = 2) (hown : s.vm.findClass RX8 = some m.cls) (hts : ∀ w ∈ wsX8_scansWord, w.before args s = true) (hK : va_K D vwCl (tysW cy) s) (hX : SX b s)  : ∀ (k : Nat) (M : Mem)  (H : Heap) (locs : List Loc) (ls : Array Slot), TX M → 601 ≤ (M 124 18).toNatClampNeg + k → va_P D vwCl (wL cy b fT M n) H → va_S (fr b) s.heap H locs → lv_has ls 2 [(0, .ref (b + 124)), (1, .int x)] → W p l e (headSpec wsX8_scansWord ({ frames := 1, cells := 0, slots := 0, locals := 20 } : Room)).room s m args below meth c H locs 0 0 (MQ below (CQv D cy b n fT (LX8_scansWord_0g x k M)) args s 0 0 (fr b)) (F0 m 0 ls []) := by
  have lk0 := hts (.fieldLink RX8 113 "HygrometerRoomModel" "to" "I") (by decide +kernel)
  have lk1 := hts (.fieldLink RX8 119 "HygrometerRoomModel" "textEnd" "I") (by decide +kernel)
  have lk2 := hts (.fieldLink RX8 110 "HygrometerRoomModel" "kind" "I") (by decide +kernel)
  have lk3 := hts (.fieldLink RX8 28 "HygrometerRoomModel" "input" "[B") (by decide +kernel)
  have inc8 : ∀ w ∈ u_ws RX8 TX8 22, w ∈ wsX8_scansWord := by decide +kernel
  intro k
  induction k with
  | zero => intro M H locs ls htx hk hP hS hl; exact tx_zero htx hk
  | succ k ih =>
    intro M H locs ls htx hk hP hS hl
    refine lv_aload_n hx hb dX8_scansWord_0 rfl (lv_at hl 0 rfl) ?_
    refine xg (C := RX8) (T := TX8) (N := 22) (v := .int (M 124 18)) hx hb hts inc8 hown hK hP (by omega) (cell8 (by decide)) rfl 18 (by decide) lk0 (fun _ h => h) rfl dX8_scansWord_1 ?_
    refine lv_aload_n hx hb dX8_scansWord_4 rfl (lv_at hl 0 rfl) ?_
    refine xg (C := RX8) (T := TX8) (N := 22) (v := .int (M 124 15)) hx hb hts inc8 hown hK hP (by omega) (cell8 (by decide)) rfl 15 (by decide) lk1 (fun _ h => h) rfl dX8_scansWord_5 ?_
    refine lv_icmp_ge (tgt := 39) hx hb dX8_scansWord_8 (by decide) (fun c8 => ?_) (fun c8 => ?_)
    · refine lv_aload_n hx hb dX8_scansWord_39 rfl (lv_at hl 0 rfl) ?_
      refine lv_iconst (v := 1) hx hb dX8_scansWord_40 (by decide) ?_
      refine xp (C := RX8) (T := TX8) (N := 22) (ci := 8) (ty := .int) (x := (1 : Int32)) hx hb hts inc8 tyX8 tyX8_ok nmX8 hown hK hP hS (by omega) (fun _ => cell8 (by decide)) rfl 16 (by decide) rfl lk2 (fun _ h => h) rfl (tyX8_ok 16 (by decide)) rfl rfl (Nat.le_of_ble_eq_true rfl) dX8_scansWord_41 (fun H locs hP hS => ?_)
      refine lv_iload_n hx hb dX8_scansWord_44 rfl (lv_at hl 1 rfl) ?_
      refine lv_if_eq (tgt := 53) hx hb dX8_scansWord_45 (by decide) (fun c45 => ?_) (fun c45 => ?_)
      · exact xe_v hx hb hr hlocks hP hS rfl (by rw [LX8_scansWord_0g, if_pos c8, if_pos c45] <;> rfl) (Nat.le_of_ble_eq_true rfl) (Nat.le_of_ble_eq_true rfl) dX8_scansWord_53
      · refine lv_aload_n hx hb dX8_scansWord_48 rfl (lv_at hl 0 rfl) ?_
        refine lv_iconst (v := 4) hx hb dX8_scansWord_49 (by decide) ?_
        refine xp (C := RX8) (T := TX8) (N := 22) (ci := 8) (ty := .int) (x := (4 : Int32)) hx hb hts inc8 tyX8 tyX8_ok nmX8 hown hK hP hS (by omega) (fun _ => cell8 (by decide)) rfl 16 (by decide) rfl lk2 (fun _ h => h) rfl (tyX8_ok 16 (by decide)) rfl rfl (Nat.le_of_ble_eq_true rfl) dX8_scansWord_50 (fun H locs hP hS => ?_)
        exact xe_v hx hb hr hlocks hP hS rfl (by rw [LX8_scansWord_0g, if_pos c8, if_neg c45] <;> rfl) (Nat.le_of_ble_eq_true rfl) (Nat.le_of_ble_eq_true rfl) dX8_scansWord_53
    · refine lv_aload_n hx hb dX8_scansWord_11 rfl (lv_at hl 0 rfl) ?_
      refine xg (C := RX8) (T := TX8) (N := 22) (v := .ref (b + 131)) hx hb hts inc8 hown hK hP (by omega) (cell8 (by decide)) rfl 9 (by decide) lk3 (fun _ h => h) rfl dX8_scansWord_12 ?_
      refine lv_aload_n hx hb dX8_scansWord_15 rfl (lv_at hl 0 rfl) ?_
      refine xg (C := RX8) (T := TX8) (N := 22) (v := .int (M 124 18)) hx hb hts inc8 hown hK hP (by omega) (cell8 (by decide)) rfl 18 (by decide) lk0 (fun _ h => h) rfl dX8_scansWord_16 ?_
      refine xbl (j := (M 124 18).toNatClampNeg) hx hb hK hP (by omega) (by decide) (vin_cl (ub_ge (tx_ub htx)) (tx_lt htx c8)) rfl dX8_scansWord_19 ?_
      refine xc_i (va_runS (As := [.int (M 131 ((M 124 18).toNatClampNeg))]) (rest := []) ⟨hx, hb, hml, hown, hts⟩ (c_X8_isLetter l D cy b n hn M (M 131 ((M 124 18).toNatClampNeg))) (va_cwS 1 hts gX8_scansWord_X8_isLetter rfl rfl rfl (by decide +kernel) ⟨Nat.le_of_ble_eq_true rfl, Nat.le_of_ble_eq_true rfl⟩) (xPreS hP hK hX hS) rfl rfl hl.1 rfl (lv_room (Nat.le_of_ble_eq_true rfl)) dX8_scansWord_20 ⟨Nat.le_of_ble_eq_true rfl, Nat.le_of_ble_eq_true rfl⟩) hS (fun H locs hP hS => ?_)
      refine lv_if_eq (tgt := 39) hx hb dX8_scansWord_23 (by decide) (fun c23 => ?_) (fun c23 => ?_)
      · refine lv_aload_n hx hb dX8_scansWord_39 rfl (lv_at hl 0 rfl) ?_
        refine lv_iconst (v := 1) hx hb dX8_scansWord_40 (by decide) ?_
        refine xp (C := RX8) (T := TX8) (N := 22) (ci := 8) (ty := .int) (x := (1 : Int32)) hx hb hts inc8 tyX8 tyX8_ok nmX8 hown hK hP hS (by omega) (fun _ => cell8 (by decide)) rfl 16 (by decide) rfl lk2 (fun _ h => h) rfl (tyX8_ok 16 (by decide)) rfl rfl (Nat.le_of_ble_eq_true rfl) dX8_scansWord_41 (fun H locs hP hS => ?_)
        refine lv_iload_n hx hb dX8_scansWord_44 rfl (lv_at hl 1 rfl) ?_
        refine lv_if_eq (tgt := 53) hx hb dX8_scansWord_45 (by decide) (fun c45 => ?_) (fun c45 => ?_)
        · exact xe_v hx hb hr hlocks hP hS rfl (by rw [LX8_scansWord_0g, if_neg c8, if_pos c23, if_pos c45] <;> rfl) (Nat.le_of_ble_eq_true rfl) (Nat.le_of_ble_eq_true rfl) dX8_scansWord_53
        · refine lv_aload_n hx hb dX8_scansWord_48 rfl (lv_at hl 0 rfl) ?_
          refine lv_iconst (v := 4) hx hb dX8_scansWord_49 (by decide) ?_
          refine xp (C := RX8) (T := TX8) (N := 22) (ci := 8) (ty := .int) (x := (4 : Int32)) hx hb hts inc8 tyX8 tyX8_ok nmX8 hown hK hP hS (by omega) (fun _ => cell8 (by decide)) rfl 16 (by decide) rfl lk2 (fun _ h => h) rfl (tyX8_ok 16 (by decide)) rfl rfl (Nat.le_of_ble_eq_true rfl) dX8_scansWord_50 (fun H locs hP hS => ?_)
          exact xe_v hx hb hr hlocks hP hS rfl (by rw [LX8_scansWord_0g, if_neg c8, if_pos c23, if_neg c45] <;> rfl) (Nat.le_of_ble_eq_true rfl) (Nat.le_of_ble_eq_true rfl) dX8_scansWord_53
      · refine lv_aload_n hx hb dX8_scansWord_26 rfl (lv_at hl 0 rfl) ?_
        refine lv_dup hx hb dX8_scansWord_27 rfl ?_
        refine xg (C := RX8) (T := TX8) (N := 22) (v := .int (M 124 18)) hx hb hts inc8 hown hK hP (by omega) (cell8 (by decide)) rfl 18 (by decide) lk0 (fun _ h => h) rfl dX8_scansWord_28 ?_
        refine lv_iconst (v := 1) hx hb dX8_scansWord_31 (by decide) ?_
        refine lv_iadd hx hb dX8_scansWord_32 ?_
        refine xp (C := RX8) (T := TX8) (N := 22) (ci := 8) (ty := .int) (x := (M 124 18) + (1 : Int32)) hx hb hts inc8 tyX8 tyX8_ok nmX8 hown hK hP hS (by omega) (fun _ => cell8 (by decide)) rfl 18 (by decide) rfl lk0 (fun _ h => h) rfl (tyX8_ok 18 (by decide)) rfl rfl (Nat.le_of_ble_eq_true rfl) dX8_scansWord_33 (fun H locs hP hS => ?_)
        refine lv_goto (tgt := 0) hx hb dX8_scansWord_36 (by decide) ?_
        rw [show LX8_scansWord_0g x (k + 1) M = LX8_scansWord_0g x k (mU M 124 18 ((M 124 18) + (1 : Int32))) from (by rw [LX8_scansWord_0g, if_neg c8, if_neg c23])]
        exact ih (mU M 124 18 ((M 124 18) + (1 : Int32))) H locs ls (tx_step htx c8) (tx_fuel htx hk) hP hS (lv_sub hl [0, 1] rfl)

def gX8_scansWord (M : Mem) (x : Int32) : Mem := LX8_scansWord_0g x 601 M
set_option maxHeartbeats 4000000 in
set_option maxRecDepth 100000 in
theorem c_X8_scansWord (l : Launch) (D : va_G) (cy : Nat → ClassId) (b n : Nat) (hn : 133 ≤ n) (M : Mem) (x : Int32) (htx : TX M) : Met l yX8_scansWord wsX8_scansWord ({ frames := 1, cells := 0, slots := 0, locals := 20 } : Room) (CP D cy b n fT M [.ref (b + 124), .int x]) (CQv D cy b n fT (gX8_scansWord M x)) 0 0 (fr b) := by
  refine Met.ofW (cc := cX8_scansWord) (maxL := 2) (ret := none) (by decide) rfl ?_
  intro p e s m args below meth c s₁ B hml hv
  obtain ⟨rfl, hP, hK, hX⟩ := hv
  have hx := B.exec
  have hb := B.bytes
  have hr := B.returns
  have hts := atoms_spec (ws := wsX8_scansWord) B.pre
  have hown : s.vm.findClass RX8 = some m.cls := findClass_of_methodNamed B.named
  have hlocks := B.notSynchronized
  have hS : va_S (fr b) s.heap s.heap [] := va_S.rf
  have hl := lv_entry ([.ref (b + 124), .int x]) (n := 2) (Nat.le_of_ble_eq_true rfl)
  rw [lg_entry_eq]
  generalize (lg_sl ([.ref (b + 124), .int x]) ++ List.replicate (2 - (lg_sl ([.ref (b + 124), .int x])).length) Slot.unset).toArray = ls at hl ⊢
  have hl : lv_has ls 2 [(0, .ref (b + 124)), (1, .int x)] := hl
  rw [show gX8_scansWord M x = LX8_scansWord_0g x 601 M from (by rw [gX8_scansWord])]
  exact cl_X8_scansWord_0 l D cy b n hn x hx hb hr hlocks hml hown hts hK hX 601 M s.heap [] ls htx (by omega) hP hS (lv_sub hl [0, 1] rfl)
def LX8_scansNumber_81g (x : Int32) : Nat → Mem → Mem
  | 0, M => M
  | k + 1, M => if x = 0 then (if (((mU M 124 16 (2 : Int32)) 124 18) - ((mU M 124 16 (2 : Int32)) 124 17)) ≤ (3 : Int32) then (mU M 124 16 (2 : Int32)) else (mU (mU M 124 16 (2 : Int32)) 124 16 (4 : Int32))) else (mU (mU M 124 16 (2 : Int32)) 124 16 (4 : Int32))
set_option maxHeartbeats 4000000 in
set_option maxRecDepth 100000 in
theorem cl_X8_scansNumber_81 (l : Launch) (D : va_G) (cy : Nat → ClassId) (b n : Nat) (hn : 133 ≤ n) (x : Int32)  {p : Program} {e : Env} {s : State} {m : MethodId} {args : Array Value} {below : List Frame} {meth : Method} {c : Code} (hx : p.tables.exec = Jvm.exec) (hb : c.code = cX8_scansNumber) (hr : meth.sig.returnType = none) (hlocks : meth.locks = false) (hml : c.maxLocals = 2) (hown : s.vm.findClass RX8 = some m.cls) (hts : ∀ w ∈ wsX8_scansNumber, w.before args s = true) (hK : va_K D vwCl (tysW cy) s) (hX : SX b s)  : ∀ (k : Nat) (M : Mem)  (H : Heap) (locs : List Loc) (ls : Array Slot), 0 < k → va_P D vwCl (wL cy b fT M n) H → va_S (fr b) s.heap H locs → lv_has ls 2 [(0, .ref (b + 124)), (1, .int x)] → W p l e (headSpec wsX8_scansNumber ({ frames := 1, cells := 0, slots := 0, locals := 20 } : Room)).room s m args below meth c H locs 0 0 (MQ below (CQv D cy b n fT (LX8_scansNumber_81g x k M)) args s 0 0 (fr b)) (F0 m 81 ls []) := by
  have lk0 := hts (.fieldLink RX8 110 "HygrometerRoomModel" "kind" "I") (by decide +kernel)
  have lk1 := hts (.fieldLink RX8 113 "HygrometerRoomModel" "to" "I") (by decide +kernel)
  have lk2 := hts (.fieldLink RX8 116 "HygrometerRoomModel" "from" "I") (by decide +kernel)
  have inc8 : ∀ w ∈ u_ws RX8 TX8 22, w ∈ wsX8_scansNumber := by decide +kernel
  intro k
  induction k with
  | zero => intro M H locs ls hk hP hS hl; omega
  | succ k ih =>
    intro M H locs ls hk hP hS hl
    refine lv_aload_n hx hb dX8_scansNumber_81 rfl (lv_at hl 0 rfl) ?_
    refine lv_iconst (v := 2) hx hb dX8_scansNumber_82 (by decide) ?_
    refine xp (C := RX8) (T := TX8) (N := 22) (ci := 8) (ty := .int) (x := (2 : Int32)) hx hb hts inc8 tyX8 tyX8_ok nmX8 hown hK hP hS (by omega) (fun _ => cell8 (by decide)) rfl 16 (by decide) rfl lk0 (fun _ h => h) rfl (tyX8_ok 16 (by decide)) rfl rfl (Nat.le_of_ble_eq_true rfl) dX8_scansNumber_83 (fun H locs hP hS => ?_)
    refine lv_iload_n hx hb dX8_scansNumber_86 rfl (lv_at hl 1 rfl) ?_
    refine lv_if_ne (tgt := 103) hx hb dX8_scansNumber_87 (by decide) (fun c87 => ?_) (fun c87 => ?_)
    · refine lv_aload_n hx hb dX8_scansNumber_103 rfl (lv_at hl 0 rfl) ?_
      refine lv_iconst (v := 4) hx hb dX8_scansNumber_104 (by decide) ?_
      refine xp (C := RX8) (T := TX8) (N := 22) (ci := 8) (ty := .int) (x := (4 : Int32)) hx hb hts inc8 tyX8 tyX8_ok nmX8 hown hK hP hS (by omega) (fun _ => cell8 (by decide)) rfl 16 (by decide) rfl lk0 (fun _ h => h) rfl (tyX8_ok 16 (by decide)) rfl rfl (Nat.le_of_ble_eq_true rfl) dX8_scansNumber_105 (fun H locs hP hS => ?_)
      exact xe_v hx hb hr hlocks hP hS rfl (by rw [LX8_scansNumber_81g, if_neg c87] <;> rfl) (Nat.le_of_ble_eq_true rfl) (Nat.le_of_ble_eq_true rfl) dX8_scansNumber_108
    · refine lv_aload_n hx hb dX8_scansNumber_90 rfl (lv_at hl 0 rfl) ?_
      refine xg (C := RX8) (T := TX8) (N := 22) (v := .int ((mU M 124 16 (2 : Int32)) 124 18)) hx hb hts inc8 hown hK hP (by omega) (cell8 (by decide)) rfl 18 (by decide) lk1 (fun _ h => h) rfl dX8_scansNumber_91 ?_
      refine lv_aload_n hx hb dX8_scansNumber_94 rfl (lv_at hl 0 rfl) ?_
      refine xg (C := RX8) (T := TX8) (N := 22) (v := .int ((mU M 124 16 (2 : Int32)) 124 17)) hx hb hts inc8 hown hK hP (by omega) (cell8 (by decide)) rfl 17 (by decide) lk2 (fun _ h => h) rfl dX8_scansNumber_95 ?_
      refine lv_isub hx hb dX8_scansNumber_98 ?_
      refine lv_iconst (v := 3) hx hb dX8_scansNumber_99 (by decide) ?_
      refine lv_icmp_le (tgt := 108) hx hb dX8_scansNumber_100 (by decide) (fun c100 => ?_) (fun c100 => ?_)
      · exact xe_v hx hb hr hlocks hP hS rfl (by rw [LX8_scansNumber_81g, if_pos c87, if_pos c100] <;> rfl) (Nat.le_of_ble_eq_true rfl) (Nat.le_of_ble_eq_true rfl) dX8_scansNumber_108
      · refine lv_aload_n hx hb dX8_scansNumber_103 rfl (lv_at hl 0 rfl) ?_
        refine lv_iconst (v := 4) hx hb dX8_scansNumber_104 (by decide) ?_
        refine xp (C := RX8) (T := TX8) (N := 22) (ci := 8) (ty := .int) (x := (4 : Int32)) hx hb hts inc8 tyX8 tyX8_ok nmX8 hown hK hP hS (by omega) (fun _ => cell8 (by decide)) rfl 16 (by decide) rfl lk0 (fun _ h => h) rfl (tyX8_ok 16 (by decide)) rfl rfl (Nat.le_of_ble_eq_true rfl) dX8_scansNumber_105 (fun H locs hP hS => ?_)
        exact xe_v hx hb hr hlocks hP hS rfl (by rw [LX8_scansNumber_81g, if_pos c87, if_neg c100] <;> rfl) (Nat.le_of_ble_eq_true rfl) (Nat.le_of_ble_eq_true rfl) dX8_scansNumber_108

def LX8_scansNumber_5g (x : Int32) : Nat → Mem → Mem
  | 0, M => M
  | k + 1, M => if (M 124 15) ≤ (M 124 18) then (LX8_scansNumber_81g x 1 M) else (if (fX8_isDigit M (M 131 ((M 124 18).toNatClampNeg))) = 0 then (LX8_scansNumber_81g x 1 M) else (if (3 : Int32) ≤ ((M 124 18) - (M 124 17)) then (LX8_scansNumber_5g x k (mU M 124 18 ((M 124 18) + (1 : Int32)))) else (LX8_scansNumber_5g x k (mU (mU M 124 19 ((((10 : Int32) * (M 124 19)) + (M 131 ((M 124 18).toNatClampNeg))) - (48 : Int32))) 124 18 (((mU M 124 19 ((((10 : Int32) * (M 124 19)) + (M 131 ((M 124 18).toNatClampNeg))) - (48 : Int32))) 124 18) + (1 : Int32))))))
set_option maxHeartbeats 4000000 in
set_option maxRecDepth 100000 in
theorem cl_X8_scansNumber_5 (l : Launch) (D : va_G) (cy : Nat → ClassId) (b n : Nat) (hn : 133 ≤ n) (x : Int32)  {p : Program} {e : Env} {s : State} {m : MethodId} {args : Array Value} {below : List Frame} {meth : Method} {c : Code} (hx : p.tables.exec = Jvm.exec) (hb : c.code = cX8_scansNumber) (hr : meth.sig.returnType = none) (hlocks : meth.locks = false) (hml : c.maxLocals = 2) (hown : s.vm.findClass RX8 = some m.cls) (hts : ∀ w ∈ wsX8_scansNumber, w.before args s = true) (hK : va_K D vwCl (tysW cy) s) (hX : SX b s)  : ∀ (k : Nat) (M : Mem)  (H : Heap) (locs : List Loc) (ls : Array Slot), TX M → 601 ≤ (M 124 18).toNatClampNeg + k → va_P D vwCl (wL cy b fT M n) H → va_S (fr b) s.heap H locs → lv_has ls 2 [(0, .ref (b + 124)), (1, .int x)] → W p l e (headSpec wsX8_scansNumber ({ frames := 1, cells := 0, slots := 0, locals := 20 } : Room)).room s m args below meth c H locs 0 0 (MQ below (CQv D cy b n fT (LX8_scansNumber_5g x k M)) args s 0 0 (fr b)) (F0 m 5 ls []) := by
  have lk0 := hts (.fieldLink RX8 113 "HygrometerRoomModel" "to" "I") (by decide +kernel)
  have lk1 := hts (.fieldLink RX8 119 "HygrometerRoomModel" "textEnd" "I") (by decide +kernel)
  have lk2 := hts (.fieldLink RX8 28 "HygrometerRoomModel" "input" "[B") (by decide +kernel)
  have lk3 := hts (.fieldLink RX8 116 "HygrometerRoomModel" "from" "I") (by decide +kernel)
  have lk4 := hts (.fieldLink RX8 135 "HygrometerRoomModel" "value" "I") (by decide +kernel)
  have inc8 : ∀ w ∈ u_ws RX8 TX8 22, w ∈ wsX8_scansNumber := by decide +kernel
  intro k
  induction k with
  | zero => intro M H locs ls htx hk hP hS hl; exact tx_zero htx hk
  | succ k ih =>
    intro M H locs ls htx hk hP hS hl
    refine lv_aload_n hx hb dX8_scansNumber_5 rfl (lv_at hl 0 rfl) ?_
    refine xg (C := RX8) (T := TX8) (N := 22) (v := .int (M 124 18)) hx hb hts inc8 hown hK hP (by omega) (cell8 (by decide)) rfl 18 (by decide) lk0 (fun _ h => h) rfl dX8_scansNumber_6 ?_
    refine lv_aload_n hx hb dX8_scansNumber_9 rfl (lv_at hl 0 rfl) ?_
    refine xg (C := RX8) (T := TX8) (N := 22) (v := .int (M 124 15)) hx hb hts inc8 hown hK hP (by omega) (cell8 (by decide)) rfl 15 (by decide) lk1 (fun _ h => h) rfl dX8_scansNumber_10 ?_
    refine lv_icmp_ge (tgt := 81) hx hb dX8_scansNumber_13 (by decide) (fun c13 => ?_) (fun c13 => ?_)
    · rw [show LX8_scansNumber_5g x (k + 1) M = LX8_scansNumber_81g x 1 M from (by rw [LX8_scansNumber_5g, if_pos c13])]
      exact cl_X8_scansNumber_81 l D cy b n hn x hx hb hr hlocks hml hown hts hK hX 1 M H locs ls (by decide) hP hS (lv_sub hl [0, 1] rfl)
    · refine lv_aload_n hx hb dX8_scansNumber_16 rfl (lv_at hl 0 rfl) ?_
      refine xg (C := RX8) (T := TX8) (N := 22) (v := .ref (b + 131)) hx hb hts inc8 hown hK hP (by omega) (cell8 (by decide)) rfl 9 (by decide) lk2 (fun _ h => h) rfl dX8_scansNumber_17 ?_
      refine lv_aload_n hx hb dX8_scansNumber_20 rfl (lv_at hl 0 rfl) ?_
      refine xg (C := RX8) (T := TX8) (N := 22) (v := .int (M 124 18)) hx hb hts inc8 hown hK hP (by omega) (cell8 (by decide)) rfl 18 (by decide) lk0 (fun _ h => h) rfl dX8_scansNumber_21 ?_
      refine xbl (j := (M 124 18).toNatClampNeg) hx hb hK hP (by omega) (by decide) (vin_cl (ub_ge (tx_ub htx)) (tx_lt htx c13)) rfl dX8_scansNumber_24 ?_
      refine xc_i (va_runS (As := [.int (M 131 ((M 124 18).toNatClampNeg))]) (rest := []) ⟨hx, hb, hml, hown, hts⟩ (c_X8_isDigit l D cy b n hn M (M 131 ((M 124 18).toNatClampNeg))) (va_cwS 1 hts gX8_scansNumber_X8_isDigit rfl rfl rfl (by decide +kernel) ⟨Nat.le_of_ble_eq_true rfl, Nat.le_of_ble_eq_true rfl⟩) (xPreS hP hK hX hS) rfl rfl hl.1 rfl (lv_room (Nat.le_of_ble_eq_true rfl)) dX8_scansNumber_25 ⟨Nat.le_of_ble_eq_true rfl, Nat.le_of_ble_eq_true rfl⟩) hS (fun H locs hP hS => ?_)
      refine lv_if_eq (tgt := 81) hx hb dX8_scansNumber_28 (by decide) (fun c28 => ?_) (fun c28 => ?_)
      · rw [show LX8_scansNumber_5g x (k + 1) M = LX8_scansNumber_81g x 1 M from (by rw [LX8_scansNumber_5g, if_neg c13, if_pos c28])]
        exact cl_X8_scansNumber_81 l D cy b n hn x hx hb hr hlocks hml hown hts hK hX 1 M H locs ls (by decide) hP hS (lv_sub hl [0, 1] rfl)
      · refine lv_aload_n hx hb dX8_scansNumber_31 rfl (lv_at hl 0 rfl) ?_
        refine xg (C := RX8) (T := TX8) (N := 22) (v := .int (M 124 18)) hx hb hts inc8 hown hK hP (by omega) (cell8 (by decide)) rfl 18 (by decide) lk0 (fun _ h => h) rfl dX8_scansNumber_32 ?_
        refine lv_aload_n hx hb dX8_scansNumber_35 rfl (lv_at hl 0 rfl) ?_
        refine xg (C := RX8) (T := TX8) (N := 22) (v := .int (M 124 17)) hx hb hts inc8 hown hK hP (by omega) (cell8 (by decide)) rfl 17 (by decide) lk3 (fun _ h => h) rfl dX8_scansNumber_36 ?_
        refine lv_isub hx hb dX8_scansNumber_39 ?_
        refine lv_iconst (v := 3) hx hb dX8_scansNumber_40 (by decide) ?_
        refine lv_icmp_ge (tgt := 68) hx hb dX8_scansNumber_41 (by decide) (fun c41 => ?_) (fun c41 => ?_)
        · refine lv_aload_n hx hb dX8_scansNumber_68 rfl (lv_at hl 0 rfl) ?_
          refine lv_dup hx hb dX8_scansNumber_69 rfl ?_
          refine xg (C := RX8) (T := TX8) (N := 22) (v := .int (M 124 18)) hx hb hts inc8 hown hK hP (by omega) (cell8 (by decide)) rfl 18 (by decide) lk0 (fun _ h => h) rfl dX8_scansNumber_70 ?_
          refine lv_iconst (v := 1) hx hb dX8_scansNumber_73 (by decide) ?_
          refine lv_iadd hx hb dX8_scansNumber_74 ?_
          refine xp (C := RX8) (T := TX8) (N := 22) (ci := 8) (ty := .int) (x := (M 124 18) + (1 : Int32)) hx hb hts inc8 tyX8 tyX8_ok nmX8 hown hK hP hS (by omega) (fun _ => cell8 (by decide)) rfl 18 (by decide) rfl lk0 (fun _ h => h) rfl (tyX8_ok 18 (by decide)) rfl rfl (Nat.le_of_ble_eq_true rfl) dX8_scansNumber_75 (fun H locs hP hS => ?_)
          refine lv_goto (tgt := 5) hx hb dX8_scansNumber_78 (by decide) ?_
          rw [show LX8_scansNumber_5g x (k + 1) M = LX8_scansNumber_5g x k (mU M 124 18 ((M 124 18) + (1 : Int32))) from (by rw [LX8_scansNumber_5g, if_neg c13, if_neg c28, if_pos c41])]
          exact ih (mU M 124 18 ((M 124 18) + (1 : Int32))) H locs ls (by first | exact tx_step (M := mU M 124 19 _) htx c13 | exact tx_step htx c13) (by first | exact tx_fuel (M := mU M 124 19 _) htx hk | exact tx_fuel htx hk) hP hS (lv_sub hl [0, 1] rfl)
        · refine lv_aload_n hx hb dX8_scansNumber_44 rfl (lv_at hl 0 rfl) ?_
          refine lv_bipush (v := 10) hx hb dX8_scansNumber_45 (by decide) ?_
          refine lv_aload_n hx hb dX8_scansNumber_47 rfl (lv_at hl 0 rfl) ?_
          refine xg (C := RX8) (T := TX8) (N := 22) (v := .int (M 124 19)) hx hb hts inc8 hown hK hP (by omega) (cell8 (by decide)) rfl 19 (by decide) lk4 (fun _ h => h) rfl dX8_scansNumber_48 ?_
          refine lv_imul hx hb dX8_scansNumber_51 ?_
          refine lv_aload_n hx hb dX8_scansNumber_52 rfl (lv_at hl 0 rfl) ?_
          refine xg (C := RX8) (T := TX8) (N := 22) (v := .ref (b + 131)) hx hb hts inc8 hown hK hP (by omega) (cell8 (by decide)) rfl 9 (by decide) lk2 (fun _ h => h) rfl dX8_scansNumber_53 ?_
          refine lv_aload_n hx hb dX8_scansNumber_56 rfl (lv_at hl 0 rfl) ?_
          refine xg (C := RX8) (T := TX8) (N := 22) (v := .int (M 124 18)) hx hb hts inc8 hown hK hP (by omega) (cell8 (by decide)) rfl 18 (by decide) lk0 (fun _ h => h) rfl dX8_scansNumber_57 ?_
          refine xbl (j := (M 124 18).toNatClampNeg) hx hb hK hP (by omega) (by decide) (vin_cl (ub_ge (tx_ub htx)) (tx_lt htx c13)) rfl dX8_scansNumber_60 ?_
          refine lv_iadd hx hb dX8_scansNumber_61 ?_
          refine lv_bipush (v := 48) hx hb dX8_scansNumber_62 (by decide) ?_
          refine lv_isub hx hb dX8_scansNumber_64 ?_
          refine xp (C := RX8) (T := TX8) (N := 22) (ci := 8) (ty := .int) (x := (((10 : Int32) * (M 124 19)) + (M 131 ((M 124 18).toNatClampNeg))) - (48 : Int32)) hx hb hts inc8 tyX8 tyX8_ok nmX8 hown hK hP hS (by omega) (fun _ => cell8 (by decide)) rfl 19 (by decide) rfl lk4 (fun _ h => h) rfl (tyX8_ok 19 (by decide)) rfl rfl (Nat.le_of_ble_eq_true rfl) dX8_scansNumber_65 (fun H locs hP hS => ?_)
          refine lv_aload_n hx hb dX8_scansNumber_68 rfl (lv_at hl 0 rfl) ?_
          refine lv_dup hx hb dX8_scansNumber_69 rfl ?_
          refine xg (C := RX8) (T := TX8) (N := 22) (v := .int ((mU M 124 19 ((((10 : Int32) * (M 124 19)) + (M 131 ((M 124 18).toNatClampNeg))) - (48 : Int32))) 124 18)) hx hb hts inc8 hown hK hP (by omega) (cell8 (by decide)) rfl 18 (by decide) lk0 (fun _ h => h) rfl dX8_scansNumber_70 ?_
          refine lv_iconst (v := 1) hx hb dX8_scansNumber_73 (by decide) ?_
          refine lv_iadd hx hb dX8_scansNumber_74 ?_
          refine xp (C := RX8) (T := TX8) (N := 22) (ci := 8) (ty := .int) (x := ((mU M 124 19 ((((10 : Int32) * (M 124 19)) + (M 131 ((M 124 18).toNatClampNeg))) - (48 : Int32))) 124 18) + (1 : Int32)) hx hb hts inc8 tyX8 tyX8_ok nmX8 hown hK hP hS (by omega) (fun _ => cell8 (by decide)) rfl 18 (by decide) rfl lk0 (fun _ h => h) rfl (tyX8_ok 18 (by decide)) rfl rfl (Nat.le_of_ble_eq_true rfl) dX8_scansNumber_75 (fun H locs hP hS => ?_)
          refine lv_goto (tgt := 5) hx hb dX8_scansNumber_78 (by decide) ?_
          rw [show LX8_scansNumber_5g x (k + 1) M = LX8_scansNumber_5g x k (mU (mU M 124 19 ((((10 : Int32) * (M 124 19)) + (M 131 ((M 124 18).toNatClampNeg))) - (48 : Int32))) 124 18 (((mU M 124 19 ((((10 : Int32) * (M 124 19)) + (M 131 ((M 124 18).toNatClampNeg))) - (48 : Int32))) 124 18) + (1 : Int32))) from (by rw [LX8_scansNumber_5g, if_neg c13, if_neg c28, if_neg c41])]
          exact ih (mU (mU M 124 19 ((((10 : Int32) * (M 124 19)) + (M 131 ((M 124 18).toNatClampNeg))) - (48 : Int32))) 124 18 (((mU M 124 19 ((((10 : Int32) * (M 124 19)) + (M 131 ((M 124 18).toNatClampNeg))) - (48 : Int32))) 124 18) + (1 : Int32))) H locs ls (by first | exact tx_step (M := mU M 124 19 _) htx c13 | exact tx_step htx c13) (by first | exact tx_fuel (M := mU M 124 19 _) htx hk | exact tx_fuel htx hk) hP hS (lv_sub hl [0, 1] rfl)

def gX8_scansNumber (M : Mem) (x : Int32) : Mem := LX8_scansNumber_5g x 601 (mU M 124 19 (0 : Int32))
set_option maxHeartbeats 4000000 in
set_option maxRecDepth 100000 in
theorem c_X8_scansNumber (l : Launch) (D : va_G) (cy : Nat → ClassId) (b n : Nat) (hn : 133 ≤ n) (M : Mem) (x : Int32) (htx : TX M) : Met l yX8_scansNumber wsX8_scansNumber ({ frames := 1, cells := 0, slots := 0, locals := 20 } : Room) (CP D cy b n fT M [.ref (b + 124), .int x]) (CQv D cy b n fT (gX8_scansNumber M x)) 0 0 (fr b) := by
  refine Met.ofW (cc := cX8_scansNumber) (maxL := 2) (ret := none) (by decide) rfl ?_
  intro p e s m args below meth c s₁ B hml hv
  obtain ⟨rfl, hP, hK, hX⟩ := hv
  have hx := B.exec
  have hb := B.bytes
  have hr := B.returns
  have hts := atoms_spec (ws := wsX8_scansNumber) B.pre
  have hown : s.vm.findClass RX8 = some m.cls := findClass_of_methodNamed B.named
  have hlocks := B.notSynchronized
  have lk0 := hts (.fieldLink RX8 135 "HygrometerRoomModel" "value" "I") (by decide +kernel)
  have inc8 : ∀ w ∈ u_ws RX8 TX8 22, w ∈ wsX8_scansNumber := by decide +kernel
  have hS : va_S (fr b) s.heap s.heap [] := va_S.rf
  have hl := lv_entry ([.ref (b + 124), .int x]) (n := 2) (Nat.le_of_ble_eq_true rfl)
  rw [lg_entry_eq]
  generalize (lg_sl ([.ref (b + 124), .int x]) ++ List.replicate (2 - (lg_sl ([.ref (b + 124), .int x])).length) Slot.unset).toArray = ls at hl ⊢
  have hl : lv_has ls 2 [(0, .ref (b + 124)), (1, .int x)] := hl
  refine lv_aload_n hx hb dX8_scansNumber_0 rfl (lv_at hl 0 rfl) ?_
  refine lv_iconst (v := 0) hx hb dX8_scansNumber_1 (by decide) ?_
  refine xp (C := RX8) (T := TX8) (N := 22) (ci := 8) (ty := .int) (x := (0 : Int32)) hx hb hts inc8 tyX8 tyX8_ok nmX8 hown hK hP hS (by omega) (fun _ => cell8 (by decide)) rfl 19 (by decide) rfl lk0 (fun _ h => h) rfl (tyX8_ok 19 (by decide)) rfl rfl (Nat.le_of_ble_eq_true rfl) dX8_scansNumber_2 (fun H locs hP hS => ?_)
  rw [show gX8_scansNumber M x = LX8_scansNumber_5g x 601 (mU M 124 19 (0 : Int32)) from (by rw [gX8_scansNumber])]
  exact cl_X8_scansNumber_5 l D cy b n hn x hx hb hr hlocks hml hown hts hK hX 601 (mU M 124 19 (0 : Int32)) H locs ls htx (by show 601 ≤ (M 124 18).toNatClampNeg + 601; omega) hP hS (lv_sub hl [0, 1] rfl)
def LX8_next_103g  : Nat → Mem → Int32 → Mem
  | 0, M, _ => M
  | k + 1, M, gl => if ((mU M 124 18 (M 124 17)) 124 17) = ((mU M 124 18 (M 124 17)) 124 15) then (mU (mU M 124 18 (M 124 17)) 124 16 (0 : Int32)) else (if (fX8_isLetter (mU M 124 18 (M 124 17)) ((mU M 124 18 (M 124 17)) 131 (((mU M 124 18 (M 124 17)) 124 17).toNatClampNeg))) = 0 then (if (fX8_isDigit (mU M 124 18 (M 124 17)) ((mU M 124 18 (M 124 17)) 131 (((mU M 124 18 (M 124 17)) 124 17).toNatClampNeg))) = 0 then (if ((mU (mU M 124 18 (M 124 17)) 124 18 (((mU M 124 18 (M 124 17)) 124 17) + (1 : Int32))) 131 (((mU (mU M 124 18 (M 124 17)) 124 18 (((mU M 124 18 (M 124 17)) 124 17) + (1 : Int32))) 124 17).toNatClampNeg)) = (59 : Int32) then (mU (mU (mU M 124 18 (M 124 17)) 124 18 (((mU M 124 18 (M 124 17)) 124 17) + (1 : Int32))) 124 16 (3 : Int32)) else (mU (mU (mU M 124 18 (M 124 17)) 124 18 (((mU M 124 18 (M 124 17)) 124 17) + (1 : Int32))) 124 16 (4 : Int32))) else (gX8_scansNumber (mU M 124 18 (M 124 17)) gl)) else (gX8_scansWord (mU M 124 18 (M 124 17)) gl))
set_option maxHeartbeats 4000000 in
set_option maxRecDepth 100000 in
theorem cl_X8_next_103 (l : Launch) (D : va_G) (cy : Nat → ClassId) (b n : Nat) (hn : 133 ≤ n)   {p : Program} {e : Env} {s : State} {m : MethodId} {args : Array Value} {below : List Frame} {meth : Method} {c : Code} (hx : p.tables.exec = Jvm.exec) (hb : c.code = cX8_next) (hr : meth.sig.returnType = none) (hlocks : meth.locks = false) (hml : c.maxLocals = 3) (hown : s.vm.findClass RX8 = some m.cls) (hts : ∀ w ∈ wsX8_next, w.before args s = true) (hK : va_K D vwCl (tysW cy) s) (hX : SX b s)  : ∀ (k : Nat) (M : Mem) (gl : Int32) (H : Heap) (locs : List Loc) (ls : Array Slot), FX M → 0 < k → va_P D vwCl (wL cy b fT M n) H → va_S (fr b) s.heap H locs → lv_has ls 3 [(0, .ref (b + 124)), (2, .int gl)] → W p l e (headSpec wsX8_next ({ frames := 2, cells := 0, slots := 0, locals := 41 } : Room)).room s m args below meth c H locs 0 0 (MQ below (CQv D cy b n fT (LX8_next_103g k M gl)) args s 0 0 (fr b)) (F0 m 103 ls []) := by
  have lk0 := hts (.fieldLink RX8 116 "HygrometerRoomModel" "from" "I") (by decide +kernel)
  have lk1 := hts (.fieldLink RX8 113 "HygrometerRoomModel" "to" "I") (by decide +kernel)
  have lk2 := hts (.fieldLink RX8 119 "HygrometerRoomModel" "textEnd" "I") (by decide +kernel)
  have lk3 := hts (.fieldLink RX8 28 "HygrometerRoomModel" "input" "[B") (by decide +kernel)
  have lk4 := hts (.fieldLink RX8 110 "HygrometerRoomModel" "kind" "I") (by decide +kernel)
  have inc8 : ∀ w ∈ u_ws RX8 TX8 22, w ∈ wsX8_next := by decide +kernel
  intro k
  induction k with
  | zero => intro M gl H locs ls hfx hk hP hS hl; omega
  | succ k ih =>
    intro M gl H locs ls hfx hk hP hS hl
    refine lv_aload_n hx hb dX8_next_103 rfl (lv_at hl 0 rfl) ?_
    refine lv_aload_n hx hb dX8_next_104 rfl (lv_at hl 0 rfl) ?_
    refine xg (C := RX8) (T := TX8) (N := 22) (v := .int (M 124 17)) hx hb hts inc8 hown hK hP (by omega) (cell8 (by decide)) rfl 17 (by decide) lk0 (fun _ h => h) rfl dX8_next_105 ?_
    refine xp (C := RX8) (T := TX8) (N := 22) (ci := 8) (ty := .int) (x := M 124 17) hx hb hts inc8 tyX8 tyX8_ok nmX8 hown hK hP hS (by omega) (fun _ => cell8 (by decide)) rfl 18 (by decide) rfl lk1 (fun _ h => h) rfl (tyX8_ok 18 (by decide)) rfl rfl (Nat.le_of_ble_eq_true rfl) dX8_next_108 (fun H locs hP hS => ?_)
    refine lv_aload_n hx hb dX8_next_111 rfl (lv_at hl 0 rfl) ?_
    refine xg (C := RX8) (T := TX8) (N := 22) (v := .int ((mU M 124 18 (M 124 17)) 124 17)) hx hb hts inc8 hown hK hP (by omega) (cell8 (by decide)) rfl 17 (by decide) lk0 (fun _ h => h) rfl dX8_next_112 ?_
    refine lv_aload_n hx hb dX8_next_115 rfl (lv_at hl 0 rfl) ?_
    refine xg (C := RX8) (T := TX8) (N := 22) (v := .int ((mU M 124 18 (M 124 17)) 124 15)) hx hb hts inc8 hown hK hP (by omega) (cell8 (by decide)) rfl 15 (by decide) lk2 (fun _ h => h) rfl dX8_next_116 ?_
    refine lv_icmp_ne (tgt := 130) hx hb dX8_next_119 (by decide) (fun c119 => ?_) (fun c119 => ?_)
    · refine lv_aload_n hx hb dX8_next_130 rfl (lv_at hl 0 rfl) ?_
      refine xg (C := RX8) (T := TX8) (N := 22) (v := .ref (b + 131)) hx hb hts inc8 hown hK hP (by omega) (cell8 (by decide)) rfl 9 (by decide) lk3 (fun _ h => h) rfl dX8_next_131 ?_
      refine lv_aload_n hx hb dX8_next_134 rfl (lv_at hl 0 rfl) ?_
      refine xg (C := RX8) (T := TX8) (N := 22) (v := .int ((mU M 124 18 (M 124 17)) 124 17)) hx hb hts inc8 hown hK hP (by omega) (cell8 (by decide)) rfl 17 (by decide) lk0 (fun _ h => h) rfl dX8_next_135 ?_
      refine xbl (j := ((mU M 124 18 (M 124 17)) 124 17).toNatClampNeg) hx hb hK hP (by omega) (by decide) (vin_cl (ub_ge (fx_ub hfx)) (fx_lt' hfx c119)) rfl dX8_next_138 ?_
      refine xc_i (va_runS (As := [.int ((mU M 124 18 (M 124 17)) 131 (((mU M 124 18 (M 124 17)) 124 17).toNatClampNeg))]) (rest := []) ⟨hx, hb, hml, hown, hts⟩ (c_X8_isLetter l D cy b n hn (mU M 124 18 (M 124 17)) ((mU M 124 18 (M 124 17)) 131 (((mU M 124 18 (M 124 17)) 124 17).toNatClampNeg))) (va_cwS 1 hts gX8_next_X8_isLetter rfl rfl rfl (by decide +kernel) ⟨Nat.le_of_ble_eq_true rfl, Nat.le_of_ble_eq_true rfl⟩) (xPreS hP hK hX hS) rfl rfl hl.1 rfl (lv_room (Nat.le_of_ble_eq_true rfl)) dX8_next_139 ⟨Nat.le_of_ble_eq_true rfl, Nat.le_of_ble_eq_true rfl⟩) hS (fun H locs hP hS => ?_)
      refine lv_if_eq (tgt := 153) hx hb dX8_next_142 (by decide) (fun c142 => ?_) (fun c142 => ?_)
      · refine lv_aload_n hx hb dX8_next_153 rfl (lv_at hl 0 rfl) ?_
        refine xg (C := RX8) (T := TX8) (N := 22) (v := .ref (b + 131)) hx hb hts inc8 hown hK hP (by omega) (cell8 (by decide)) rfl 9 (by decide) lk3 (fun _ h => h) rfl dX8_next_154 ?_
        refine lv_aload_n hx hb dX8_next_157 rfl (lv_at hl 0 rfl) ?_
        refine xg (C := RX8) (T := TX8) (N := 22) (v := .int ((mU M 124 18 (M 124 17)) 124 17)) hx hb hts inc8 hown hK hP (by omega) (cell8 (by decide)) rfl 17 (by decide) lk0 (fun _ h => h) rfl dX8_next_158 ?_
        refine xbl (j := ((mU M 124 18 (M 124 17)) 124 17).toNatClampNeg) hx hb hK hP (by omega) (by decide) (vin_cl (ub_ge (fx_ub hfx)) (fx_lt' hfx c119)) rfl dX8_next_161 ?_
        refine xc_i (va_runS (As := [.int ((mU M 124 18 (M 124 17)) 131 (((mU M 124 18 (M 124 17)) 124 17).toNatClampNeg))]) (rest := []) ⟨hx, hb, hml, hown, hts⟩ (c_X8_isDigit l D cy b n hn (mU M 124 18 (M 124 17)) ((mU M 124 18 (M 124 17)) 131 (((mU M 124 18 (M 124 17)) 124 17).toNatClampNeg))) (va_cwS 1 hts gX8_next_X8_isDigit rfl rfl rfl (by decide +kernel) ⟨Nat.le_of_ble_eq_true rfl, Nat.le_of_ble_eq_true rfl⟩) (xPreS hP hK hX hS) rfl rfl hl.1 rfl (lv_room (Nat.le_of_ble_eq_true rfl)) dX8_next_162 ⟨Nat.le_of_ble_eq_true rfl, Nat.le_of_ble_eq_true rfl⟩) hS (fun H locs hP hS => ?_)
        refine lv_if_eq (tgt := 176) hx hb dX8_next_165 (by decide) (fun c165 => ?_) (fun c165 => ?_)
        · refine lv_aload_n hx hb dX8_next_176 rfl (lv_at hl 0 rfl) ?_
          refine lv_aload_n hx hb dX8_next_177 rfl (lv_at hl 0 rfl) ?_
          refine xg (C := RX8) (T := TX8) (N := 22) (v := .int ((mU M 124 18 (M 124 17)) 124 17)) hx hb hts inc8 hown hK hP (by omega) (cell8 (by decide)) rfl 17 (by decide) lk0 (fun _ h => h) rfl dX8_next_178 ?_
          refine lv_iconst (v := 1) hx hb dX8_next_181 (by decide) ?_
          refine lv_iadd hx hb dX8_next_182 ?_
          refine xp (C := RX8) (T := TX8) (N := 22) (ci := 8) (ty := .int) (x := ((mU M 124 18 (M 124 17)) 124 17) + (1 : Int32)) hx hb hts inc8 tyX8 tyX8_ok nmX8 hown hK hP hS (by omega) (fun _ => cell8 (by decide)) rfl 18 (by decide) rfl lk1 (fun _ h => h) rfl (tyX8_ok 18 (by decide)) rfl rfl (Nat.le_of_ble_eq_true rfl) dX8_next_183 (fun H locs hP hS => ?_)
          refine lv_aload_n hx hb dX8_next_186 rfl (lv_at hl 0 rfl) ?_
          refine lv_aload_n hx hb dX8_next_187 rfl (lv_at hl 0 rfl) ?_
          refine xg (C := RX8) (T := TX8) (N := 22) (v := .ref (b + 131)) hx hb hts inc8 hown hK hP (by omega) (cell8 (by decide)) rfl 9 (by decide) lk3 (fun _ h => h) rfl dX8_next_188 ?_
          refine lv_aload_n hx hb dX8_next_191 rfl (lv_at hl 0 rfl) ?_
          refine xg (C := RX8) (T := TX8) (N := 22) (v := .int ((mU (mU M 124 18 (M 124 17)) 124 18 (((mU M 124 18 (M 124 17)) 124 17) + (1 : Int32))) 124 17)) hx hb hts inc8 hown hK hP (by omega) (cell8 (by decide)) rfl 17 (by decide) lk0 (fun _ h => h) rfl dX8_next_192 ?_
          refine xbl (j := ((mU (mU M 124 18 (M 124 17)) 124 18 (((mU M 124 18 (M 124 17)) 124 17) + (1 : Int32))) 124 17).toNatClampNeg) hx hb hK hP (by omega) (by decide) (vin_cl (ub_ge (fx_ub hfx)) (fx_lt' hfx c119)) rfl dX8_next_195 ?_
          refine lv_bipush (v := 59) hx hb dX8_next_196 (by decide) ?_
          refine lv_icmp_ne (tgt := 205) hx hb dX8_next_198 (by decide) (fun c198 => ?_) (fun c198 => ?_)
          · refine lv_iconst (v := 4) hx hb dX8_next_205 (by decide) ?_
            refine xp (C := RX8) (T := TX8) (N := 22) (ci := 8) (ty := .int) (x := (4 : Int32)) hx hb hts inc8 tyX8 tyX8_ok nmX8 hown hK hP hS (by omega) (fun _ => cell8 (by decide)) rfl 16 (by decide) rfl lk4 (fun _ h => h) rfl (tyX8_ok 16 (by decide)) rfl rfl (Nat.le_of_ble_eq_true rfl) dX8_next_206 (fun H locs hP hS => ?_)
            exact xe_v hx hb hr hlocks hP hS rfl (by rw [LX8_next_103g, if_neg c119, if_pos c142, if_pos c165, if_neg c198] <;> rfl) (Nat.le_of_ble_eq_true rfl) (Nat.le_of_ble_eq_true rfl) dX8_next_209
          · refine lv_iconst (v := 3) hx hb dX8_next_201 (by decide) ?_
            refine lv_goto (tgt := 206) hx hb dX8_next_202 (by decide) ?_
            refine xp (C := RX8) (T := TX8) (N := 22) (ci := 8) (ty := .int) (x := (3 : Int32)) hx hb hts inc8 tyX8 tyX8_ok nmX8 hown hK hP hS (by omega) (fun _ => cell8 (by decide)) rfl 16 (by decide) rfl lk4 (fun _ h => h) rfl (tyX8_ok 16 (by decide)) rfl rfl (Nat.le_of_ble_eq_true rfl) dX8_next_206 (fun H locs hP hS => ?_)
            exact xe_v hx hb hr hlocks hP hS rfl (by rw [LX8_next_103g, if_neg c119, if_pos c142, if_pos c165, if_pos c198] <;> rfl) (Nat.le_of_ble_eq_true rfl) (Nat.le_of_ble_eq_true rfl) dX8_next_209
        · refine lv_aload_n hx hb dX8_next_168 rfl (lv_at hl 0 rfl) ?_
          refine lv_iload_n hx hb dX8_next_169 rfl (lv_at hl 1 rfl) ?_
          refine xc_v (va_runV (As := [.int gl]) (rest := []) ⟨hx, hb, hml, hown, hts⟩ (c_X8_scansNumber l D cy b n hn (mU M 124 18 (M 124 17)) gl hfx) (cwV 1 hts gX8_next_X8_scansNumber rfl rfl rfl (by decide +kernel) ⟨Nat.le_of_ble_eq_true rfl, Nat.le_of_ble_eq_true rfl⟩) (xPreV hP hK hX hS (by omega) (cell8 (by decide)) rfl) rfl rfl hl.1 rfl (lv_room (Nat.le_of_ble_eq_true rfl)) dX8_next_170 ⟨Nat.le_of_ble_eq_true rfl, Nat.le_of_ble_eq_true rfl⟩) hS (fun H locs hP hS => ?_)
          refine lv_goto (tgt := 209) hx hb dX8_next_173 (by decide) ?_
          exact xe_v hx hb hr hlocks hP hS rfl (by rw [LX8_next_103g, if_neg c119, if_pos c142, if_neg c165] <;> rfl) (Nat.le_of_ble_eq_true rfl) (Nat.le_of_ble_eq_true rfl) dX8_next_209
      · refine lv_aload_n hx hb dX8_next_145 rfl (lv_at hl 0 rfl) ?_
        refine lv_iload_n hx hb dX8_next_146 rfl (lv_at hl 1 rfl) ?_
        refine xc_v (va_runV (As := [.int gl]) (rest := []) ⟨hx, hb, hml, hown, hts⟩ (c_X8_scansWord l D cy b n hn (mU M 124 18 (M 124 17)) gl hfx) (cwV 1 hts gX8_next_X8_scansWord rfl rfl rfl (by decide +kernel) ⟨Nat.le_of_ble_eq_true rfl, Nat.le_of_ble_eq_true rfl⟩) (xPreV hP hK hX hS (by omega) (cell8 (by decide)) rfl) rfl rfl hl.1 rfl (lv_room (Nat.le_of_ble_eq_true rfl)) dX8_next_147 ⟨Nat.le_of_ble_eq_true rfl, Nat.le_of_ble_eq_true rfl⟩) hS (fun H locs hP hS => ?_)
        refine lv_goto (tgt := 209) hx hb dX8_next_150 (by decide) ?_
        exact xe_v hx hb hr hlocks hP hS rfl (by rw [LX8_next_103g, if_neg c119, if_neg c142] <;> rfl) (Nat.le_of_ble_eq_true rfl) (Nat.le_of_ble_eq_true rfl) dX8_next_209
    · refine lv_aload_n hx hb dX8_next_122 rfl (lv_at hl 0 rfl) ?_
      refine lv_iconst (v := 0) hx hb dX8_next_123 (by decide) ?_
      refine xp (C := RX8) (T := TX8) (N := 22) (ci := 8) (ty := .int) (x := (0 : Int32)) hx hb hts inc8 tyX8 tyX8_ok nmX8 hown hK hP hS (by omega) (fun _ => cell8 (by decide)) rfl 16 (by decide) rfl lk4 (fun _ h => h) rfl (tyX8_ok 16 (by decide)) rfl rfl (Nat.le_of_ble_eq_true rfl) dX8_next_124 (fun H locs hP hS => ?_)
      refine lv_goto (tgt := 209) hx hb dX8_next_127 (by decide) ?_
      exact xe_v hx hb hr hlocks hP hS rfl (by rw [LX8_next_103g, if_pos c119] <;> rfl) (Nat.le_of_ble_eq_true rfl) (Nat.le_of_ble_eq_true rfl) dX8_next_209

def LX8_next_82g  : Nat → Mem → Int32 → Mem
  | 0, M, _ => M
  | k + 1, M, nd => if nd = 0 then (LX8_next_103g 1 M (0 : Int32)) else (if (M 124 17) = (M 124 18) then (LX8_next_103g 1 M (1 : Int32)) else (LX8_next_103g 1 M (0 : Int32)))
set_option maxHeartbeats 4000000 in
set_option maxRecDepth 100000 in
theorem cl_X8_next_82 (l : Launch) (D : va_G) (cy : Nat → ClassId) (b n : Nat) (hn : 133 ≤ n)   {p : Program} {e : Env} {s : State} {m : MethodId} {args : Array Value} {below : List Frame} {meth : Method} {c : Code} (hx : p.tables.exec = Jvm.exec) (hb : c.code = cX8_next) (hr : meth.sig.returnType = none) (hlocks : meth.locks = false) (hml : c.maxLocals = 3) (hown : s.vm.findClass RX8 = some m.cls) (hts : ∀ w ∈ wsX8_next, w.before args s = true) (hK : va_K D vwCl (tysW cy) s) (hX : SX b s)  : ∀ (k : Nat) (M : Mem) (nd : Int32) (H : Heap) (locs : List Loc) (ls : Array Slot), FX M → 0 < k → va_P D vwCl (wL cy b fT M n) H → va_S (fr b) s.heap H locs → lv_has ls 3 [(0, .ref (b + 124)), (1, .int nd)] → W p l e (headSpec wsX8_next ({ frames := 2, cells := 0, slots := 0, locals := 41 } : Room)).room s m args below meth c H locs 0 0 (MQ below (CQv D cy b n fT (LX8_next_82g k M nd)) args s 0 0 (fr b)) (F0 m 82 ls []) := by
  have lk0 := hts (.fieldLink RX8 116 "HygrometerRoomModel" "from" "I") (by decide +kernel)
  have lk1 := hts (.fieldLink RX8 113 "HygrometerRoomModel" "to" "I") (by decide +kernel)
  have inc8 : ∀ w ∈ u_ws RX8 TX8 22, w ∈ wsX8_next := by decide +kernel
  intro k
  induction k with
  | zero => intro M nd H locs ls hfx hk hP hS hl; omega
  | succ k ih =>
    intro M nd H locs ls hfx hk hP hS hl
    refine lv_iload_n hx hb dX8_next_82 rfl (lv_at hl 1 rfl) ?_
    refine lv_if_eq (tgt := 101) hx hb dX8_next_83 (by decide) (fun c83 => ?_) (fun c83 => ?_)
    · refine lv_iconst (v := 0) hx hb dX8_next_101 (by decide) ?_
      refine lv_istore_n (lv' := [(2, .int (0 : Int32)), (0, .ref (b + 124)), (1, .int nd)]) hx hb dX8_next_102 rfl hl (by decide) rfl (fun ls hl => ?_)
      rw [show LX8_next_82g (k + 1) M nd = LX8_next_103g 1 M (0 : Int32) from (by rw [LX8_next_82g, if_pos c83])]
      exact cl_X8_next_103 l D cy b n hn  hx hb hr hlocks hml hown hts hK hX 1 M (0 : Int32) H locs ls hfx (by decide) hP hS (lv_sub hl [1, 0] rfl)
    · refine lv_aload_n hx hb dX8_next_86 rfl (lv_at hl 0 rfl) ?_
      refine xg (C := RX8) (T := TX8) (N := 22) (v := .int (M 124 17)) hx hb hts inc8 hown hK hP (by omega) (cell8 (by decide)) rfl 17 (by decide) lk0 (fun _ h => h) rfl dX8_next_87 ?_
      refine lv_aload_n hx hb dX8_next_90 rfl (lv_at hl 0 rfl) ?_
      refine xg (C := RX8) (T := TX8) (N := 22) (v := .int (M 124 18)) hx hb hts inc8 hown hK hP (by omega) (cell8 (by decide)) rfl 18 (by decide) lk1 (fun _ h => h) rfl dX8_next_91 ?_
      refine lv_icmp_ne (tgt := 101) hx hb dX8_next_94 (by decide) (fun c94 => ?_) (fun c94 => ?_)
      · refine lv_iconst (v := 0) hx hb dX8_next_101 (by decide) ?_
        refine lv_istore_n (lv' := [(2, .int (0 : Int32)), (0, .ref (b + 124)), (1, .int nd)]) hx hb dX8_next_102 rfl hl (by decide) rfl (fun ls hl => ?_)
        rw [show LX8_next_82g (k + 1) M nd = LX8_next_103g 1 M (0 : Int32) from (by rw [LX8_next_82g, if_neg c83, if_neg c94])]
        exact cl_X8_next_103 l D cy b n hn  hx hb hr hlocks hml hown hts hK hX 1 M (0 : Int32) H locs ls hfx (by decide) hP hS (lv_sub hl [1, 0] rfl)
      · refine lv_iconst (v := 1) hx hb dX8_next_97 (by decide) ?_
        refine lv_goto (tgt := 102) hx hb dX8_next_98 (by decide) ?_
        refine lv_istore_n (lv' := [(2, .int (1 : Int32)), (0, .ref (b + 124)), (1, .int nd)]) hx hb dX8_next_102 rfl hl (by decide) rfl (fun ls hl => ?_)
        rw [show LX8_next_82g (k + 1) M nd = LX8_next_103g 1 M (1 : Int32) from (by rw [LX8_next_82g, if_neg c83, if_pos c94])]
        exact cl_X8_next_103 l D cy b n hn  hx hb hr hlocks hml hown hts hK hX 1 M (1 : Int32) H locs ls hfx (by decide) hP hS (lv_sub hl [1, 0] rfl)

def LX8_next_30g  : Nat → Mem → Int32 → Mem
  | 0, M, _ => M
  | k + 1, M, nd => if (M 124 15) ≤ (M 124 17) then (LX8_next_82g 1 M nd) else (if (M 131 ((M 124 17).toNatClampNeg)) = (32 : Int32) then (LX8_next_30g k (mU M 124 17 ((M 124 17) + (1 : Int32))) nd) else (if (M 131 ((M 124 17).toNatClampNeg)) = (10 : Int32) then (LX8_next_30g k (mU M 124 17 ((M 124 17) + (1 : Int32))) nd) else (LX8_next_82g 1 M nd)))
set_option maxHeartbeats 4000000 in
set_option maxRecDepth 100000 in
theorem cl_X8_next_30 (l : Launch) (D : va_G) (cy : Nat → ClassId) (b n : Nat) (hn : 133 ≤ n)   {p : Program} {e : Env} {s : State} {m : MethodId} {args : Array Value} {below : List Frame} {meth : Method} {c : Code} (hx : p.tables.exec = Jvm.exec) (hb : c.code = cX8_next) (hr : meth.sig.returnType = none) (hlocks : meth.locks = false) (hml : c.maxLocals = 3) (hown : s.vm.findClass RX8 = some m.cls) (hts : ∀ w ∈ wsX8_next, w.before args s = true) (hK : va_K D vwCl (tysW cy) s) (hX : SX b s)  : ∀ (k : Nat) (M : Mem) (nd : Int32) (H : Heap) (locs : List Loc) (ls : Array Slot), FX M → 601 ≤ (M 124 17).toNatClampNeg + k → va_P D vwCl (wL cy b fT M n) H → va_S (fr b) s.heap H locs → lv_has ls 3 [(0, .ref (b + 124)), (1, .int nd)] → W p l e (headSpec wsX8_next ({ frames := 2, cells := 0, slots := 0, locals := 41 } : Room)).room s m args below meth c H locs 0 0 (MQ below (CQv D cy b n fT (LX8_next_30g k M nd)) args s 0 0 (fr b)) (F0 m 30 ls []) := by
  have lk0 := hts (.fieldLink RX8 116 "HygrometerRoomModel" "from" "I") (by decide +kernel)
  have lk1 := hts (.fieldLink RX8 119 "HygrometerRoomModel" "textEnd" "I") (by decide +kernel)
  have lk2 := hts (.fieldLink RX8 28 "HygrometerRoomModel" "input" "[B") (by decide +kernel)
  have inc8 : ∀ w ∈ u_ws RX8 TX8 22, w ∈ wsX8_next := by decide +kernel
  intro k
  induction k with
  | zero => intro M nd H locs ls hfx hk hP hS hl; exact fx_zero hfx hk
  | succ k ih =>
    intro M nd H locs ls hfx hk hP hS hl
    refine lv_aload_n hx hb dX8_next_30 rfl (lv_at hl 0 rfl) ?_
    refine xg (C := RX8) (T := TX8) (N := 22) (v := .int (M 124 17)) hx hb hts inc8 hown hK hP (by omega) (cell8 (by decide)) rfl 17 (by decide) lk0 (fun _ h => h) rfl dX8_next_31 ?_
    refine lv_aload_n hx hb dX8_next_34 rfl (lv_at hl 0 rfl) ?_
    refine xg (C := RX8) (T := TX8) (N := 22) (v := .int (M 124 15)) hx hb hts inc8 hown hK hP (by omega) (cell8 (by decide)) rfl 15 (by decide) lk1 (fun _ h => h) rfl dX8_next_35 ?_
    refine lv_icmp_ge (tgt := 82) hx hb dX8_next_38 (by decide) (fun c38 => ?_) (fun c38 => ?_)
    · rw [show LX8_next_30g (k + 1) M nd = LX8_next_82g 1 M nd from (by rw [LX8_next_30g, if_pos c38])]
      exact cl_X8_next_82 l D cy b n hn  hx hb hr hlocks hml hown hts hK hX 1 M nd H locs ls hfx (by decide) hP hS (lv_sub hl [0, 1] rfl)
    · refine lv_aload_n hx hb dX8_next_41 rfl (lv_at hl 0 rfl) ?_
      refine xg (C := RX8) (T := TX8) (N := 22) (v := .ref (b + 131)) hx hb hts inc8 hown hK hP (by omega) (cell8 (by decide)) rfl 9 (by decide) lk2 (fun _ h => h) rfl dX8_next_42 ?_
      refine lv_aload_n hx hb dX8_next_45 rfl (lv_at hl 0 rfl) ?_
      refine xg (C := RX8) (T := TX8) (N := 22) (v := .int (M 124 17)) hx hb hts inc8 hown hK hP (by omega) (cell8 (by decide)) rfl 17 (by decide) lk0 (fun _ h => h) rfl dX8_next_46 ?_
      refine xbl (j := (M 124 17).toNatClampNeg) hx hb hK hP (by omega) (by decide) (vin_cl (ub_ge (fx_ub hfx)) (fx_lt hfx c38)) rfl dX8_next_49 ?_
      refine lv_bipush (v := 32) hx hb dX8_next_50 (by decide) ?_
      refine lv_icmp_eq (tgt := 69) hx hb dX8_next_52 (by decide) (fun c52 => ?_) (fun c52 => ?_)
      · refine lv_aload_n hx hb dX8_next_69 rfl (lv_at hl 0 rfl) ?_
        refine lv_dup hx hb dX8_next_70 rfl ?_
        refine xg (C := RX8) (T := TX8) (N := 22) (v := .int (M 124 17)) hx hb hts inc8 hown hK hP (by omega) (cell8 (by decide)) rfl 17 (by decide) lk0 (fun _ h => h) rfl dX8_next_71 ?_
        refine lv_iconst (v := 1) hx hb dX8_next_74 (by decide) ?_
        refine lv_iadd hx hb dX8_next_75 ?_
        refine xp (C := RX8) (T := TX8) (N := 22) (ci := 8) (ty := .int) (x := (M 124 17) + (1 : Int32)) hx hb hts inc8 tyX8 tyX8_ok nmX8 hown hK hP hS (by omega) (fun _ => cell8 (by decide)) rfl 17 (by decide) rfl lk0 (fun _ h => h) rfl (tyX8_ok 17 (by decide)) rfl rfl (Nat.le_of_ble_eq_true rfl) dX8_next_76 (fun H locs hP hS => ?_)
        refine lv_goto (tgt := 30) hx hb dX8_next_79 (by decide) ?_
        rw [show LX8_next_30g (k + 1) M nd = LX8_next_30g k (mU M 124 17 ((M 124 17) + (1 : Int32))) nd from (by rw [LX8_next_30g, if_neg c38, if_pos c52])]
        exact ih (mU M 124 17 ((M 124 17) + (1 : Int32))) nd H locs ls (fx_step hfx c38) (fx_fuel hfx hk) hP hS (lv_sub hl [0, 1] rfl)
      · refine lv_aload_n hx hb dX8_next_55 rfl (lv_at hl 0 rfl) ?_
        refine xg (C := RX8) (T := TX8) (N := 22) (v := .ref (b + 131)) hx hb hts inc8 hown hK hP (by omega) (cell8 (by decide)) rfl 9 (by decide) lk2 (fun _ h => h) rfl dX8_next_56 ?_
        refine lv_aload_n hx hb dX8_next_59 rfl (lv_at hl 0 rfl) ?_
        refine xg (C := RX8) (T := TX8) (N := 22) (v := .int (M 124 17)) hx hb hts inc8 hown hK hP (by omega) (cell8 (by decide)) rfl 17 (by decide) lk0 (fun _ h => h) rfl dX8_next_60 ?_
        refine xbl (j := (M 124 17).toNatClampNeg) hx hb hK hP (by omega) (by decide) (vin_cl (ub_ge (fx_ub hfx)) (fx_lt hfx c38)) rfl dX8_next_63 ?_
        refine lv_bipush (v := 10) hx hb dX8_next_64 (by decide) ?_
        refine lv_icmp_ne (tgt := 82) hx hb dX8_next_66 (by decide) (fun c66 => ?_) (fun c66 => ?_)
        · rw [show LX8_next_30g (k + 1) M nd = LX8_next_82g 1 M nd from (by rw [LX8_next_30g, if_neg c38, if_neg c52, if_neg c66])]
          exact cl_X8_next_82 l D cy b n hn  hx hb hr hlocks hml hown hts hK hX 1 M nd H locs ls hfx (by decide) hP hS (lv_sub hl [0, 1] rfl)
        · refine lv_aload_n hx hb dX8_next_69 rfl (lv_at hl 0 rfl) ?_
          refine lv_dup hx hb dX8_next_70 rfl ?_
          refine xg (C := RX8) (T := TX8) (N := 22) (v := .int (M 124 17)) hx hb hts inc8 hown hK hP (by omega) (cell8 (by decide)) rfl 17 (by decide) lk0 (fun _ h => h) rfl dX8_next_71 ?_
          refine lv_iconst (v := 1) hx hb dX8_next_74 (by decide) ?_
          refine lv_iadd hx hb dX8_next_75 ?_
          refine xp (C := RX8) (T := TX8) (N := 22) (ci := 8) (ty := .int) (x := (M 124 17) + (1 : Int32)) hx hb hts inc8 tyX8 tyX8_ok nmX8 hown hK hP hS (by omega) (fun _ => cell8 (by decide)) rfl 17 (by decide) rfl lk0 (fun _ h => h) rfl (tyX8_ok 17 (by decide)) rfl rfl (Nat.le_of_ble_eq_true rfl) dX8_next_76 (fun H locs hP hS => ?_)
          refine lv_goto (tgt := 30) hx hb dX8_next_79 (by decide) ?_
          rw [show LX8_next_30g (k + 1) M nd = LX8_next_30g k (mU M 124 17 ((M 124 17) + (1 : Int32))) nd from (by rw [LX8_next_30g, if_neg c38, if_neg c52, if_pos c66])]
          exact ih (mU M 124 17 ((M 124 17) + (1 : Int32))) nd H locs ls (fx_step hfx c38) (fx_fuel hfx hk) hP hS (lv_sub hl [0, 1] rfl)

def LX8_next_22g  : Nat → Mem → Int32 → Mem
  | 0, M, _ => M
  | k + 1, M, nd => LX8_next_30g 601 (mU M 124 17 (M 124 18)) nd
set_option maxHeartbeats 4000000 in
set_option maxRecDepth 100000 in
theorem cl_X8_next_22 (l : Launch) (D : va_G) (cy : Nat → ClassId) (b n : Nat) (hn : 133 ≤ n)   {p : Program} {e : Env} {s : State} {m : MethodId} {args : Array Value} {below : List Frame} {meth : Method} {c : Code} (hx : p.tables.exec = Jvm.exec) (hb : c.code = cX8_next) (hr : meth.sig.returnType = none) (hlocks : meth.locks = false) (hml : c.maxLocals = 3) (hown : s.vm.findClass RX8 = some m.cls) (hts : ∀ w ∈ wsX8_next, w.before args s = true) (hK : va_K D vwCl (tysW cy) s) (hX : SX b s)  : ∀ (k : Nat) (M : Mem) (nd : Int32) (H : Heap) (locs : List Loc) (ls : Array Slot), TX M → 0 < k → va_P D vwCl (wL cy b fT M n) H → va_S (fr b) s.heap H locs → lv_has ls 3 [(0, .ref (b + 124)), (1, .int nd)] → W p l e (headSpec wsX8_next ({ frames := 2, cells := 0, slots := 0, locals := 41 } : Room)).room s m args below meth c H locs 0 0 (MQ below (CQv D cy b n fT (LX8_next_22g k M nd)) args s 0 0 (fr b)) (F0 m 22 ls []) := by
  have lk0 := hts (.fieldLink RX8 113 "HygrometerRoomModel" "to" "I") (by decide +kernel)
  have lk1 := hts (.fieldLink RX8 116 "HygrometerRoomModel" "from" "I") (by decide +kernel)
  have inc8 : ∀ w ∈ u_ws RX8 TX8 22, w ∈ wsX8_next := by decide +kernel
  intro k
  induction k with
  | zero => intro M nd H locs ls htx hk hP hS hl; omega
  | succ k ih =>
    intro M nd H locs ls htx hk hP hS hl
    refine lv_aload_n hx hb dX8_next_22 rfl (lv_at hl 0 rfl) ?_
    refine lv_aload_n hx hb dX8_next_23 rfl (lv_at hl 0 rfl) ?_
    refine xg (C := RX8) (T := TX8) (N := 22) (v := .int (M 124 18)) hx hb hts inc8 hown hK hP (by omega) (cell8 (by decide)) rfl 18 (by decide) lk0 (fun _ h => h) rfl dX8_next_24 ?_
    refine xp (C := RX8) (T := TX8) (N := 22) (ci := 8) (ty := .int) (x := M 124 18) hx hb hts inc8 tyX8 tyX8_ok nmX8 hown hK hP hS (by omega) (fun _ => cell8 (by decide)) rfl 17 (by decide) rfl lk1 (fun _ h => h) rfl (tyX8_ok 17 (by decide)) rfl rfl (Nat.le_of_ble_eq_true rfl) dX8_next_27 (fun H locs hP hS => ?_)
    rw [show LX8_next_22g (k + 1) M nd = LX8_next_30g 601 (mU M 124 17 (M 124 18)) nd from (by rw [LX8_next_22g])]
    exact cl_X8_next_30 l D cy b n hn  hx hb hr hlocks hml hown hts hK hX 601 (mU M 124 17 (M 124 18)) nd H locs ls htx (by omega) hP hS (lv_sub hl [0, 1] rfl)

def gX8_next (M : Mem) : Mem := if (M 124 16) = (1 : Int32) then (LX8_next_22g 1 M (1 : Int32)) else (if (M 124 16) = (2 : Int32) then (LX8_next_22g 1 M (1 : Int32)) else (LX8_next_22g 1 M (0 : Int32)))
set_option maxHeartbeats 4000000 in
set_option maxRecDepth 100000 in
theorem c_X8_next (l : Launch) (D : va_G) (cy : Nat → ClassId) (b n : Nat) (hn : 133 ≤ n) (M : Mem)  (htx : TX M) : Met l yX8_next wsX8_next ({ frames := 2, cells := 0, slots := 0, locals := 41 } : Room) (CP D cy b n fT M [.ref (b + 124)]) (CQv D cy b n fT (gX8_next M)) 0 0 (fr b) := by
  refine Met.ofW (cc := cX8_next) (maxL := 3) (ret := none) (by decide) rfl ?_
  intro p e s m args below meth c s₁ B hml hv
  obtain ⟨rfl, hP, hK, hX⟩ := hv
  have hx := B.exec
  have hb := B.bytes
  have hr := B.returns
  have hts := atoms_spec (ws := wsX8_next) B.pre
  have hown : s.vm.findClass RX8 = some m.cls := findClass_of_methodNamed B.named
  have hlocks := B.notSynchronized
  have lk0 := hts (.fieldLink RX8 110 "HygrometerRoomModel" "kind" "I") (by decide +kernel)
  have inc8 : ∀ w ∈ u_ws RX8 TX8 22, w ∈ wsX8_next := by decide +kernel
  have hS : va_S (fr b) s.heap s.heap [] := va_S.rf
  have hl := lv_entry ([.ref (b + 124)]) (n := 3) (Nat.le_of_ble_eq_true rfl)
  rw [lg_entry_eq]
  generalize (lg_sl ([.ref (b + 124)]) ++ List.replicate (3 - (lg_sl ([.ref (b + 124)])).length) Slot.unset).toArray = ls at hl ⊢
  have hl : lv_has ls 3 [(0, .ref (b + 124))] := hl
  refine lv_aload_n hx hb dX8_next_0 rfl (lv_at hl 0 rfl) ?_
  refine xg (C := RX8) (T := TX8) (N := 22) (v := .int (M 124 16)) hx hb hts inc8 hown hK hP (by omega) (cell8 (by decide)) rfl 16 (by decide) lk0 (fun _ h => h) rfl dX8_next_1 ?_
  refine lv_iconst (v := 1) hx hb dX8_next_4 (by decide) ?_
  refine lv_icmp_eq (tgt := 16) hx hb dX8_next_5 (by decide) (fun c5 => ?_) (fun c5 => ?_)
  · refine lv_iconst (v := 1) hx hb dX8_next_16 (by decide) ?_
    refine lv_goto (tgt := 21) hx hb dX8_next_17 (by decide) ?_
    refine lv_istore_n (lv' := [(1, .int (1 : Int32)), (0, .ref (b + 124))]) hx hb dX8_next_21 rfl hl (by decide) rfl (fun ls hl => ?_)
    rw [show gX8_next M = LX8_next_22g 1 M (1 : Int32) from (by rw [gX8_next, if_pos c5])]
    exact cl_X8_next_22 l D cy b n hn  hx hb hr hlocks hml hown hts hK hX 1 M (1 : Int32) s.heap [] ls htx (by decide) hP hS (lv_sub hl [1, 0] rfl)
  · refine lv_aload_n hx hb dX8_next_8 rfl (lv_at hl 0 rfl) ?_
    refine xg (C := RX8) (T := TX8) (N := 22) (v := .int (M 124 16)) hx hb hts inc8 hown hK hP (by omega) (cell8 (by decide)) rfl 16 (by decide) lk0 (fun _ h => h) rfl dX8_next_9 ?_
    refine lv_iconst (v := 2) hx hb dX8_next_12 (by decide) ?_
    refine lv_icmp_ne (tgt := 20) hx hb dX8_next_13 (by decide) (fun c13 => ?_) (fun c13 => ?_)
    · refine lv_iconst (v := 0) hx hb dX8_next_20 (by decide) ?_
      refine lv_istore_n (lv' := [(1, .int (0 : Int32)), (0, .ref (b + 124))]) hx hb dX8_next_21 rfl hl (by decide) rfl (fun ls hl => ?_)
      rw [show gX8_next M = LX8_next_22g 1 M (0 : Int32) from (by rw [gX8_next, if_neg c5, if_neg c13])]
      exact cl_X8_next_22 l D cy b n hn  hx hb hr hlocks hml hown hts hK hX 1 M (0 : Int32) s.heap [] ls htx (by decide) hP hS (lv_sub hl [1, 0] rfl)
    · refine lv_iconst (v := 1) hx hb dX8_next_16 (by decide) ?_
      refine lv_goto (tgt := 21) hx hb dX8_next_17 (by decide) ?_
      refine lv_istore_n (lv' := [(1, .int (1 : Int32)), (0, .ref (b + 124))]) hx hb dX8_next_21 rfl hl (by decide) rfl (fun ls hl => ?_)
      rw [show gX8_next M = LX8_next_22g 1 M (1 : Int32) from (by rw [gX8_next, if_neg c5, if_pos c13])]
      exact cl_X8_next_22 l D cy b n hn  hx hb hr hlocks hml hown hts hK hX 1 M (1 : Int32) s.heap [] ls htx (by decide) hP hS (lv_sub hl [1, 0] rfl)
def gX8_errs (M : Mem) (x : Int32) : Mem := if (M 124 20) = 0 then (mU (mU M 124 20 x) 124 21 ((mU M 124 20 x) 124 17)) else M
set_option maxHeartbeats 4000000 in
set_option maxRecDepth 100000 in
theorem c_X8_errs (l : Launch) (D : va_G) (cy : Nat → ClassId) (b n : Nat) (hn : 133 ≤ n) (M : Mem) (x : Int32)  : Met l yX8_errs wsX8_errs ({ frames := 0, cells := 0, slots := 0, locals := 0 } : Room) (CP D cy b n fT M [.ref (b + 124), .int x]) (CQv D cy b n fT (gX8_errs M x)) 0 0 (fr b) := by
  refine Met.ofW (cc := cX8_errs) (maxL := 2) (ret := none) (by decide) rfl ?_
  intro p e s m args below meth c s₁ B hml hv
  obtain ⟨rfl, hP, hK, hX⟩ := hv
  have hx := B.exec
  have hb := B.bytes
  have hr := B.returns
  have hts := atoms_spec (ws := wsX8_errs) B.pre
  have hown : s.vm.findClass RX8 = some m.cls := findClass_of_methodNamed B.named
  have hlocks := B.notSynchronized
  have lk0 := hts (.fieldLink RX8 138 "HygrometerRoomModel" "fault" "I") (by decide +kernel)
  have lk1 := hts (.fieldLink RX8 116 "HygrometerRoomModel" "from" "I") (by decide +kernel)
  have lk2 := hts (.fieldLink RX8 141 "HygrometerRoomModel" "faultAt" "I") (by decide +kernel)
  have inc8 : ∀ w ∈ u_ws RX8 TX8 22, w ∈ wsX8_errs := by decide +kernel
  have hS : va_S (fr b) s.heap s.heap [] := va_S.rf
  have hl := lv_entry ([.ref (b + 124), .int x]) (n := 2) (Nat.le_of_ble_eq_true rfl)
  rw [lg_entry_eq]
  generalize (lg_sl ([.ref (b + 124), .int x]) ++ List.replicate (2 - (lg_sl ([.ref (b + 124), .int x])).length) Slot.unset).toArray = ls at hl ⊢
  have hl : lv_has ls 2 [(0, .ref (b + 124)), (1, .int x)] := hl
  refine lv_aload_n hx hb dX8_errs_0 rfl (lv_at hl 0 rfl) ?_
  refine xg (C := RX8) (T := TX8) (N := 22) (v := .int (M 124 20)) hx hb hts inc8 hown hK hP (by omega) (cell8 (by decide)) rfl 20 (by decide) lk0 (fun _ h => h) rfl dX8_errs_1 ?_
  refine lv_if_ne (tgt := 20) hx hb dX8_errs_4 (by decide) (fun c4 => ?_) (fun c4 => ?_)
  · exact xe_v hx hb hr hlocks hP hS rfl (by rw [gX8_errs, if_neg c4] <;> rfl) (Nat.le_of_ble_eq_true rfl) (Nat.le_of_ble_eq_true rfl) dX8_errs_20
  · refine lv_aload_n hx hb dX8_errs_7 rfl (lv_at hl 0 rfl) ?_
    refine lv_iload_n hx hb dX8_errs_8 rfl (lv_at hl 1 rfl) ?_
    refine xp (C := RX8) (T := TX8) (N := 22) (ci := 8) (ty := .int) (x := x) hx hb hts inc8 tyX8 tyX8_ok nmX8 hown hK hP hS (by omega) (fun _ => cell8 (by decide)) rfl 20 (by decide) rfl lk0 (fun _ h => h) rfl (tyX8_ok 20 (by decide)) rfl rfl (Nat.le_of_ble_eq_true rfl) dX8_errs_9 (fun H locs hP hS => ?_)
    refine lv_aload_n hx hb dX8_errs_12 rfl (lv_at hl 0 rfl) ?_
    refine lv_aload_n hx hb dX8_errs_13 rfl (lv_at hl 0 rfl) ?_
    refine xg (C := RX8) (T := TX8) (N := 22) (v := .int ((mU M 124 20 x) 124 17)) hx hb hts inc8 hown hK hP (by omega) (cell8 (by decide)) rfl 17 (by decide) lk1 (fun _ h => h) rfl dX8_errs_14 ?_
    refine xp (C := RX8) (T := TX8) (N := 22) (ci := 8) (ty := .int) (x := (mU M 124 20 x) 124 17) hx hb hts inc8 tyX8 tyX8_ok nmX8 hown hK hP hS (by omega) (fun _ => cell8 (by decide)) rfl 21 (by decide) rfl lk2 (fun _ h => h) rfl (tyX8_ok 21 (by decide)) rfl rfl (Nat.le_of_ble_eq_true rfl) dX8_errs_17 (fun H locs hP hS => ?_)
    exact xe_v hx hb hr hlocks hP hS rfl (by rw [gX8_errs, if_pos c4] <;> rfl) (Nat.le_of_ble_eq_true rfl) (Nat.le_of_ble_eq_true rfl) dX8_errs_20
