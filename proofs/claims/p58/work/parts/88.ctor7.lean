def LX7_init_134g  : Nat → Mem → Mem
  | 0, M => M
  | k + 1, M => gX4_pass (mU M (1 + 1 + 1 + 1) 8 (2 : Int32)) 1 (2 : Int32)
set_option maxHeartbeats 4000000 in
set_option maxRecDepth 100000 in
theorem cl_X7_init_134 (l : Launch) (D : va_G) (cy : Nat → ClassId) (b n : Nat) (hn : 124 ≤ n)   {p : Program} {e : Env} {s : State} {m : MethodId} {args : Array Value} {below : List Frame} {meth : Method} {c : Code} (hx : p.tables.exec = Jvm.exec) (hb : c.code = cX7_init) (hr : meth.sig.returnType = none) (hlocks : meth.locks = false) (hml : c.maxLocals = 1) (hown : s.vm.findClass RX7 = some m.cls) (hts : ∀ w ∈ wsX7_init, w.before args s = true) (hK : va_K D vwCl (tysW cy) s) (hX : SX b s)  : ∀ (k : Nat) (M : Mem)  (H : Heap) (locs : List Loc) (ls : Array Slot), CNT M 1 → 0 < k → va_P D vwCl (wL cy b fT M n) H → va_S (fr b) s.heap H locs → lv_has ls 1 [(0, .ref (b + 0))] → W p l e (headSpec wsX7_init ({ frames := 6, cells := 123, slots := 1616, locals := 130 } : Room)).room s m args below meth c H locs 123 1616 (MQ below (CQv D cy b n fT (LX7_init_134g k M)) args s 123 1616 (fr b)) (F0 m 134 ls []) := by
  have lk0 := hts (.fieldLink RX7 10 "HygrometerRoom" "room" "LHygrometerRoom$Room;") (by decide +kernel)
  have lk1 := hts (.fieldLink RX7 70 "HygrometerRoom$Room" "instruments" "[LHygrometerRoom$Instrument;") (by decide +kernel)
  have lk2 := hts (.fieldLink RX7 74 "HygrometerRoom$Instrument" "box" "I") (by decide +kernel)
  have inc1 : ∀ w ∈ u_ws RX1 TX1 9, w ∈ wsX7_init := by decide +kernel
  have inc4 : ∀ w ∈ u_ws RX4 TX4 8, w ∈ wsX7_init := by decide +kernel
  have inc7 : ∀ w ∈ u_ws RX7 TX7 6, w ∈ wsX7_init := by decide +kernel
  intro k
  induction k with
  | zero => intro M H locs ls hcnt hk hP hS hl; omega
  | succ k ih =>
    intro M H locs ls hcnt hk hP hS hl
    refine lv_aload_n hx hb dX7_init_134 rfl (lv_at hl 0 rfl) ?_
    refine xg (C := RX7) (T := TX7) (N := 6) (v := .ref (b + 1)) hx hb hts inc7 hown hK hP (by omega) (cell7 (by decide)) rfl 0 (by decide) lk0 (fun _ h => h) rfl dX7_init_135 ?_
    refine xg (C := RX4) (T := TX4) (N := 8) (v := .ref (b + (1 + 1))) hx hb hts inc4 hown hK hP (by omega) (cell4 (by decide)) rfl 0 (by decide) lk1 (fun _ h => h) rfl dX7_init_138 ?_
    refine lv_iconst (v := 1) hx hb dX7_init_141 (by decide) ?_
    refine xnl (j := 1) hx hb hK hP (kA_lt (by decide) hn) (kd_arr (by decide)) (ixIn (a := 1) rfl (by first | decide | (simp only [lenOf]; omega) | omega) (by decide)) rfl dX7_init_142 ?_
    refine lv_iconst (v := 2) hx hb dX7_init_143 (by decide) ?_
    refine xp (C := RX1) (T := TX1) (N := 9) (ci := 1) (ty := .int) (x := (2 : Int32)) hx hb hts inc1 tyX1 tyX1_ok nmX1 hown hK hP hS (kI_lt (kd_ins (by decide) (by omega)) hn) (fun _ => cell1 (kd_ins (by decide) (by omega))) rfl 8 (by decide) rfl lk2 (fun _ h => h) rfl (tyX1_ok 8 (by decide)) rfl rfl (Nat.le_of_ble_eq_true rfl) dX7_init_144 (fun H locs hP hS => ?_)
    refine lv_aload_n hx hb dX7_init_147 rfl (lv_at hl 0 rfl) ?_
    refine xg (C := RX7) (T := TX7) (N := 6) (v := .ref (b + 1)) hx hb hts inc7 hown hK hP (by omega) (cell7 (by decide)) rfl 0 (by decide) lk0 (fun _ h => h) rfl dX7_init_148 ?_
    refine lv_iconst (v := 2) hx hb dX7_init_151 (by decide) ?_
    refine xc_i (va_runV (As := [.int (2 : Int32)]) (rest := []) ⟨hx, hb, hml, hown, hts⟩ (c_X4_pass l D cy b n hn (mU M (1 + 1 + 1 + 1) 8 (2 : Int32)) 1 (2 : Int32) (by decide) (cnt_row (mU_ne _ _ _ (by decide)) hcnt) ⟨2, by decide, rfl⟩) (cwV 1 hts gX7_init_X4_pass rfl rfl rfl (by decide +kernel) ⟨Nat.le_of_ble_eq_true rfl, Nat.le_of_ble_eq_true rfl⟩) (xPreV hP hK hX hS (by omega) (cell4 (by decide)) rfl) rfl rfl hl.1 rfl (lv_room (Nat.le_of_ble_eq_true rfl)) dX7_init_152 ⟨Nat.le_of_ble_eq_true rfl, Nat.le_of_ble_eq_true rfl⟩) hS (fun H locs hP hS => ?_)
    refine lv_pop hx hb dX7_init_155 rfl ?_
    exact xe_v hx hb hr hlocks hP hS rfl (by rw [LX7_init_134g] <;> rfl) (Nat.le_of_ble_eq_true rfl) (Nat.le_of_ble_eq_true rfl) dX7_init_156
def LX7_init_125g  : Nat → Mem → Mem
  | 0, M => M
  | k + 1, M => LX7_init_134g 1 (gX4_pass M 1 (3 : Int32))
set_option maxHeartbeats 4000000 in
set_option maxRecDepth 100000 in
theorem cl_X7_init_125 (l : Launch) (D : va_G) (cy : Nat → ClassId) (b n : Nat) (hn : 124 ≤ n)   {p : Program} {e : Env} {s : State} {m : MethodId} {args : Array Value} {below : List Frame} {meth : Method} {c : Code} (hx : p.tables.exec = Jvm.exec) (hb : c.code = cX7_init) (hr : meth.sig.returnType = none) (hlocks : meth.locks = false) (hml : c.maxLocals = 1) (hown : s.vm.findClass RX7 = some m.cls) (hts : ∀ w ∈ wsX7_init, w.before args s = true) (hK : va_K D vwCl (tysW cy) s) (hX : SX b s)  : ∀ (k : Nat) (M : Mem)  (H : Heap) (locs : List Loc) (ls : Array Slot), CNT M 1 → 0 < k → va_P D vwCl (wL cy b fT M n) H → va_S (fr b) s.heap H locs → lv_has ls 1 [(0, .ref (b + 0))] → W p l e (headSpec wsX7_init ({ frames := 6, cells := 123, slots := 1616, locals := 130 } : Room)).room s m args below meth c H locs 123 1616 (MQ below (CQv D cy b n fT (LX7_init_125g k M)) args s 123 1616 (fr b)) (F0 m 125 ls []) := by
  have lk0 := hts (.fieldLink RX7 10 "HygrometerRoom" "room" "LHygrometerRoom$Room;") (by decide +kernel)
  have inc7 : ∀ w ∈ u_ws RX7 TX7 6, w ∈ wsX7_init := by decide +kernel
  intro k
  induction k with
  | zero => intro M H locs ls hcnt hk hP hS hl; omega
  | succ k ih =>
    intro M H locs ls hcnt hk hP hS hl
    refine lv_aload_n hx hb dX7_init_125 rfl (lv_at hl 0 rfl) ?_
    refine xg (C := RX7) (T := TX7) (N := 6) (v := .ref (b + 1)) hx hb hts inc7 hown hK hP (by omega) (cell7 (by decide)) rfl 0 (by decide) lk0 (fun _ h => h) rfl dX7_init_126 ?_
    refine lv_iconst (v := 3) hx hb dX7_init_129 (by decide) ?_
    refine xc_i (va_runV (As := [.int (3 : Int32)]) (rest := []) ⟨hx, hb, hml, hown, hts⟩ (c_X4_pass l D cy b n hn M 1 (3 : Int32) (by decide) hcnt ⟨3, by decide, rfl⟩) (cwV 1 hts gX7_init_X4_pass rfl rfl rfl (by decide +kernel) ⟨Nat.le_of_ble_eq_true rfl, Nat.le_of_ble_eq_true rfl⟩) (xPreV hP hK hX hS (by omega) (cell4 (by decide)) rfl) rfl rfl hl.1 rfl (lv_room (Nat.le_of_ble_eq_true rfl)) dX7_init_130 ⟨Nat.le_of_ble_eq_true rfl, Nat.le_of_ble_eq_true rfl⟩) hS (fun H locs hP hS => ?_)
    refine lv_pop hx hb dX7_init_133 rfl ?_
    rw [show LX7_init_125g (k + 1) M = LX7_init_134g 1 (gX4_pass M 1 (3 : Int32)) from (by rw [LX7_init_125g])]
    exact cl_X7_init_134 l D cy b n hn  hx hb hr hlocks hml hown hts hK hX 1 (gX4_pass M 1 (3 : Int32)) H locs ls (pass_cnt hcnt) (by decide) hP hS (lv_sub hl [0] rfl)
def LX7_init_116g  : Nat → Mem → Mem
  | 0, M => M
  | k + 1, M => LX7_init_125g 1 (mU M 1 3 (50 : Int32))
set_option maxHeartbeats 4000000 in
set_option maxRecDepth 100000 in
theorem cl_X7_init_116 (l : Launch) (D : va_G) (cy : Nat → ClassId) (b n : Nat) (hn : 124 ≤ n)   {p : Program} {e : Env} {s : State} {m : MethodId} {args : Array Value} {below : List Frame} {meth : Method} {c : Code} (hx : p.tables.exec = Jvm.exec) (hb : c.code = cX7_init) (hr : meth.sig.returnType = none) (hlocks : meth.locks = false) (hml : c.maxLocals = 1) (hown : s.vm.findClass RX7 = some m.cls) (hts : ∀ w ∈ wsX7_init, w.before args s = true) (hK : va_K D vwCl (tysW cy) s) (hX : SX b s)  : ∀ (k : Nat) (M : Mem)  (H : Heap) (locs : List Loc) (ls : Array Slot), CNT M 1 → 0 < k → va_P D vwCl (wL cy b fT M n) H → va_S (fr b) s.heap H locs → lv_has ls 1 [(0, .ref (b + 0))] → W p l e (headSpec wsX7_init ({ frames := 6, cells := 123, slots := 1616, locals := 130 } : Room)).room s m args below meth c H locs 123 1616 (MQ below (CQv D cy b n fT (LX7_init_116g k M)) args s 123 1616 (fr b)) (F0 m 116 ls []) := by
  have lk0 := hts (.fieldLink RX7 10 "HygrometerRoom" "room" "LHygrometerRoom$Room;") (by decide +kernel)
  have lk1 := hts (.fieldLink RX7 62 "HygrometerRoom$Room" "humidity" "I") (by decide +kernel)
  have inc4 : ∀ w ∈ u_ws RX4 TX4 8, w ∈ wsX7_init := by decide +kernel
  have inc7 : ∀ w ∈ u_ws RX7 TX7 6, w ∈ wsX7_init := by decide +kernel
  intro k
  induction k with
  | zero => intro M H locs ls hcnt hk hP hS hl; omega
  | succ k ih =>
    intro M H locs ls hcnt hk hP hS hl
    refine lv_aload_n hx hb dX7_init_116 rfl (lv_at hl 0 rfl) ?_
    refine xg (C := RX7) (T := TX7) (N := 6) (v := .ref (b + 1)) hx hb hts inc7 hown hK hP (by omega) (cell7 (by decide)) rfl 0 (by decide) lk0 (fun _ h => h) rfl dX7_init_117 ?_
    refine lv_bipush (v := 50) hx hb dX7_init_120 (by decide) ?_
    refine xp (C := RX4) (T := TX4) (N := 8) (ci := 4) (ty := .int) (x := (50 : Int32)) hx hb hts inc4 tyX4 tyX4_ok nmX4 hown hK hP hS (by omega) (fun _ => cell4 (by decide)) rfl 3 (by decide) rfl lk1 (fun _ h => h) rfl (tyX4_ok 3 (by decide)) rfl rfl (Nat.le_of_ble_eq_true rfl) dX7_init_122 (fun H locs hP hS => ?_)
    rw [show LX7_init_116g (k + 1) M = LX7_init_125g 1 (mU M 1 3 (50 : Int32)) from (by rw [LX7_init_116g])]
    exact cl_X7_init_125 l D cy b n hn  hx hb hr hlocks hml hown hts hK hX 1 (mU M 1 3 (50 : Int32)) H locs ls (cnt_put (by decide) hcnt) (by decide) hP hS (lv_sub hl [0] rfl)
def LX7_init_108g  : Nat → Mem → Mem
  | 0, M => M
  | k + 1, M => LX7_init_116g 1 (gX4_newBulb M 1 (3 : Int32))
set_option maxHeartbeats 4000000 in
set_option maxRecDepth 100000 in
theorem cl_X7_init_108 (l : Launch) (D : va_G) (cy : Nat → ClassId) (b n : Nat) (hn : 124 ≤ n)   {p : Program} {e : Env} {s : State} {m : MethodId} {args : Array Value} {below : List Frame} {meth : Method} {c : Code} (hx : p.tables.exec = Jvm.exec) (hb : c.code = cX7_init) (hr : meth.sig.returnType = none) (hlocks : meth.locks = false) (hml : c.maxLocals = 1) (hown : s.vm.findClass RX7 = some m.cls) (hts : ∀ w ∈ wsX7_init, w.before args s = true) (hK : va_K D vwCl (tysW cy) s) (hX : SX b s)  : ∀ (k : Nat) (M : Mem)  (H : Heap) (locs : List Loc) (ls : Array Slot), CNT M 1 → 0 < k → va_P D vwCl (wL cy b fT M n) H → va_S (fr b) s.heap H locs → lv_has ls 1 [(0, .ref (b + 0))] → W p l e (headSpec wsX7_init ({ frames := 6, cells := 123, slots := 1616, locals := 130 } : Room)).room s m args below meth c H locs 123 1616 (MQ below (CQv D cy b n fT (LX7_init_108g k M)) args s 123 1616 (fr b)) (F0 m 108 ls []) := by
  have lk0 := hts (.fieldLink RX7 10 "HygrometerRoom" "room" "LHygrometerRoom$Room;") (by decide +kernel)
  have inc7 : ∀ w ∈ u_ws RX7 TX7 6, w ∈ wsX7_init := by decide +kernel
  intro k
  induction k with
  | zero => intro M H locs ls hcnt hk hP hS hl; omega
  | succ k ih =>
    intro M H locs ls hcnt hk hP hS hl
    refine lv_aload_n hx hb dX7_init_108 rfl (lv_at hl 0 rfl) ?_
    refine xg (C := RX7) (T := TX7) (N := 6) (v := .ref (b + 1)) hx hb hts inc7 hown hK hP (by omega) (cell7 (by decide)) rfl 0 (by decide) lk0 (fun _ h => h) rfl dX7_init_109 ?_
    refine lv_iconst (v := 3) hx hb dX7_init_112 (by decide) ?_
    refine xc_v (va_runV (As := [.int (3 : Int32)]) (rest := []) ⟨hx, hb, hml, hown, hts⟩ (c_X4_newBulb l D cy b n hn M 1 (3 : Int32) (by decide) hcnt) (cwV 1 hts gX7_init_X4_newBulb rfl rfl rfl (by decide +kernel) ⟨Nat.le_of_ble_eq_true rfl, Nat.le_of_ble_eq_true rfl⟩) (xPreV hP hK hX hS (by omega) (cell4 (by decide)) rfl) rfl rfl hl.1 rfl (lv_room (Nat.le_of_ble_eq_true rfl)) dX7_init_113 ⟨Nat.le_of_ble_eq_true rfl, Nat.le_of_ble_eq_true rfl⟩) hS (fun H locs hP hS => ?_)
    rw [show LX7_init_108g (k + 1) M = LX7_init_116g 1 (gX4_newBulb M 1 (3 : Int32)) from (by rw [LX7_init_108g])]
    exact cl_X7_init_116 l D cy b n hn  hx hb hr hlocks hml hown hts hK hX 1 (gX4_newBulb M 1 (3 : Int32)) H locs ls (newBulb_cnt hcnt) (by decide) hP hS (lv_sub hl [0] rfl)
def LX7_init_99g  : Nat → Mem → Mem
  | 0, M => M
  | k + 1, M => LX7_init_108g 1 (gX4_newBulb M 1 (30 : Int32))
set_option maxHeartbeats 4000000 in
set_option maxRecDepth 100000 in
theorem cl_X7_init_99 (l : Launch) (D : va_G) (cy : Nat → ClassId) (b n : Nat) (hn : 124 ≤ n)   {p : Program} {e : Env} {s : State} {m : MethodId} {args : Array Value} {below : List Frame} {meth : Method} {c : Code} (hx : p.tables.exec = Jvm.exec) (hb : c.code = cX7_init) (hr : meth.sig.returnType = none) (hlocks : meth.locks = false) (hml : c.maxLocals = 1) (hown : s.vm.findClass RX7 = some m.cls) (hts : ∀ w ∈ wsX7_init, w.before args s = true) (hK : va_K D vwCl (tysW cy) s) (hX : SX b s)  : ∀ (k : Nat) (M : Mem)  (H : Heap) (locs : List Loc) (ls : Array Slot), CNT M 1 → 0 < k → va_P D vwCl (wL cy b fT M n) H → va_S (fr b) s.heap H locs → lv_has ls 1 [(0, .ref (b + 0))] → W p l e (headSpec wsX7_init ({ frames := 6, cells := 123, slots := 1616, locals := 130 } : Room)).room s m args below meth c H locs 123 1616 (MQ below (CQv D cy b n fT (LX7_init_99g k M)) args s 123 1616 (fr b)) (F0 m 99 ls []) := by
  have lk0 := hts (.fieldLink RX7 10 "HygrometerRoom" "room" "LHygrometerRoom$Room;") (by decide +kernel)
  have inc7 : ∀ w ∈ u_ws RX7 TX7 6, w ∈ wsX7_init := by decide +kernel
  intro k
  induction k with
  | zero => intro M H locs ls hcnt hk hP hS hl; omega
  | succ k ih =>
    intro M H locs ls hcnt hk hP hS hl
    refine lv_aload_n hx hb dX7_init_99 rfl (lv_at hl 0 rfl) ?_
    refine xg (C := RX7) (T := TX7) (N := 6) (v := .ref (b + 1)) hx hb hts inc7 hown hK hP (by omega) (cell7 (by decide)) rfl 0 (by decide) lk0 (fun _ h => h) rfl dX7_init_100 ?_
    refine lv_bipush (v := 30) hx hb dX7_init_103 (by decide) ?_
    refine xc_v (va_runV (As := [.int (30 : Int32)]) (rest := []) ⟨hx, hb, hml, hown, hts⟩ (c_X4_newBulb l D cy b n hn M 1 (30 : Int32) (by decide) hcnt) (cwV 1 hts gX7_init_X4_newBulb rfl rfl rfl (by decide +kernel) ⟨Nat.le_of_ble_eq_true rfl, Nat.le_of_ble_eq_true rfl⟩) (xPreV hP hK hX hS (by omega) (cell4 (by decide)) rfl) rfl rfl hl.1 rfl (lv_room (Nat.le_of_ble_eq_true rfl)) dX7_init_105 ⟨Nat.le_of_ble_eq_true rfl, Nat.le_of_ble_eq_true rfl⟩) hS (fun H locs hP hS => ?_)
    rw [show LX7_init_99g (k + 1) M = LX7_init_108g 1 (gX4_newBulb M 1 (30 : Int32)) from (by rw [LX7_init_99g])]
    exact cl_X7_init_108 l D cy b n hn  hx hb hr hlocks hml hown hts hK hX 1 (gX4_newBulb M 1 (30 : Int32)) H locs ls (newBulb_cnt hcnt) (by decide) hP hS (lv_sub hl [0] rfl)
def LX7_init_91g  : Nat → Mem → Mem
  | 0, M => M
  | k + 1, M => LX7_init_99g 1 (gX4_newHair M 1 (4 : Int32))
set_option maxHeartbeats 4000000 in
set_option maxRecDepth 100000 in
theorem cl_X7_init_91 (l : Launch) (D : va_G) (cy : Nat → ClassId) (b n : Nat) (hn : 124 ≤ n)   {p : Program} {e : Env} {s : State} {m : MethodId} {args : Array Value} {below : List Frame} {meth : Method} {c : Code} (hx : p.tables.exec = Jvm.exec) (hb : c.code = cX7_init) (hr : meth.sig.returnType = none) (hlocks : meth.locks = false) (hml : c.maxLocals = 1) (hown : s.vm.findClass RX7 = some m.cls) (hts : ∀ w ∈ wsX7_init, w.before args s = true) (hK : va_K D vwCl (tysW cy) s) (hX : SX b s)  : ∀ (k : Nat) (M : Mem)  (H : Heap) (locs : List Loc) (ls : Array Slot), CNT M 1 → 0 < k → va_P D vwCl (wL cy b fT M n) H → va_S (fr b) s.heap H locs → lv_has ls 1 [(0, .ref (b + 0))] → W p l e (headSpec wsX7_init ({ frames := 6, cells := 123, slots := 1616, locals := 130 } : Room)).room s m args below meth c H locs 123 1616 (MQ below (CQv D cy b n fT (LX7_init_91g k M)) args s 123 1616 (fr b)) (F0 m 91 ls []) := by
  have lk0 := hts (.fieldLink RX7 10 "HygrometerRoom" "room" "LHygrometerRoom$Room;") (by decide +kernel)
  have inc7 : ∀ w ∈ u_ws RX7 TX7 6, w ∈ wsX7_init := by decide +kernel
  intro k
  induction k with
  | zero => intro M H locs ls hcnt hk hP hS hl; omega
  | succ k ih =>
    intro M H locs ls hcnt hk hP hS hl
    refine lv_aload_n hx hb dX7_init_91 rfl (lv_at hl 0 rfl) ?_
    refine xg (C := RX7) (T := TX7) (N := 6) (v := .ref (b + 1)) hx hb hts inc7 hown hK hP (by omega) (cell7 (by decide)) rfl 0 (by decide) lk0 (fun _ h => h) rfl dX7_init_92 ?_
    refine lv_iconst (v := 4) hx hb dX7_init_95 (by decide) ?_
    refine xc_v (va_runV (As := [.int (4 : Int32)]) (rest := []) ⟨hx, hb, hml, hown, hts⟩ (c_X4_newHair l D cy b n hn M 1 (4 : Int32) (by decide) hcnt) (cwV 1 hts gX7_init_X4_newHair rfl rfl rfl (by decide +kernel) ⟨Nat.le_of_ble_eq_true rfl, Nat.le_of_ble_eq_true rfl⟩) (xPreV hP hK hX hS (by omega) (cell4 (by decide)) rfl) rfl rfl hl.1 rfl (lv_room (Nat.le_of_ble_eq_true rfl)) dX7_init_96 ⟨Nat.le_of_ble_eq_true rfl, Nat.le_of_ble_eq_true rfl⟩) hS (fun H locs hP hS => ?_)
    rw [show LX7_init_91g (k + 1) M = LX7_init_99g 1 (gX4_newHair M 1 (4 : Int32)) from (by rw [LX7_init_91g])]
    exact cl_X7_init_99 l D cy b n hn  hx hb hr hlocks hml hown hts hK hX 1 (gX4_newHair M 1 (4 : Int32)) H locs ls (newHair_cnt hcnt) (by decide) hP hS (lv_sub hl [0] rfl)
def LX7_init_82g  : Nat → Mem → Mem
  | 0, M => M
  | k + 1, M => LX7_init_91g 1 (gX4_newHair M 1 (10 : Int32))
set_option maxHeartbeats 4000000 in
set_option maxRecDepth 100000 in
theorem cl_X7_init_82 (l : Launch) (D : va_G) (cy : Nat → ClassId) (b n : Nat) (hn : 124 ≤ n)   {p : Program} {e : Env} {s : State} {m : MethodId} {args : Array Value} {below : List Frame} {meth : Method} {c : Code} (hx : p.tables.exec = Jvm.exec) (hb : c.code = cX7_init) (hr : meth.sig.returnType = none) (hlocks : meth.locks = false) (hml : c.maxLocals = 1) (hown : s.vm.findClass RX7 = some m.cls) (hts : ∀ w ∈ wsX7_init, w.before args s = true) (hK : va_K D vwCl (tysW cy) s) (hX : SX b s)  : ∀ (k : Nat) (M : Mem)  (H : Heap) (locs : List Loc) (ls : Array Slot), CNT M 1 → 0 < k → va_P D vwCl (wL cy b fT M n) H → va_S (fr b) s.heap H locs → lv_has ls 1 [(0, .ref (b + 0))] → W p l e (headSpec wsX7_init ({ frames := 6, cells := 123, slots := 1616, locals := 130 } : Room)).room s m args below meth c H locs 123 1616 (MQ below (CQv D cy b n fT (LX7_init_82g k M)) args s 123 1616 (fr b)) (F0 m 82 ls []) := by
  have lk0 := hts (.fieldLink RX7 10 "HygrometerRoom" "room" "LHygrometerRoom$Room;") (by decide +kernel)
  have inc7 : ∀ w ∈ u_ws RX7 TX7 6, w ∈ wsX7_init := by decide +kernel
  intro k
  induction k with
  | zero => intro M H locs ls hcnt hk hP hS hl; omega
  | succ k ih =>
    intro M H locs ls hcnt hk hP hS hl
    refine lv_aload_n hx hb dX7_init_82 rfl (lv_at hl 0 rfl) ?_
    refine xg (C := RX7) (T := TX7) (N := 6) (v := .ref (b + 1)) hx hb hts inc7 hown hK hP (by omega) (cell7 (by decide)) rfl 0 (by decide) lk0 (fun _ h => h) rfl dX7_init_83 ?_
    refine lv_bipush (v := 10) hx hb dX7_init_86 (by decide) ?_
    refine xc_v (va_runV (As := [.int (10 : Int32)]) (rest := []) ⟨hx, hb, hml, hown, hts⟩ (c_X4_newHair l D cy b n hn M 1 (10 : Int32) (by decide) hcnt) (cwV 1 hts gX7_init_X4_newHair rfl rfl rfl (by decide +kernel) ⟨Nat.le_of_ble_eq_true rfl, Nat.le_of_ble_eq_true rfl⟩) (xPreV hP hK hX hS (by omega) (cell4 (by decide)) rfl) rfl rfl hl.1 rfl (lv_room (Nat.le_of_ble_eq_true rfl)) dX7_init_88 ⟨Nat.le_of_ble_eq_true rfl, Nat.le_of_ble_eq_true rfl⟩) hS (fun H locs hP hS => ?_)
    rw [show LX7_init_82g (k + 1) M = LX7_init_91g 1 (gX4_newHair M 1 (10 : Int32)) from (by rw [LX7_init_82g])]
    exact cl_X7_init_91 l D cy b n hn  hx hb hr hlocks hml hown hts hK hX 1 (gX4_newHair M 1 (10 : Int32)) H locs ls (newHair_cnt hcnt) (by decide) hP hS (lv_sub hl [0] rfl)
def LX7_init_70g  : Nat → Mem → Mem
  | 0, M => M
  | k + 1, M => LX7_init_82g 1 (gX4_begin M 1 (60 : Int32) (20 : Int32) (2 : Int32))
set_option maxHeartbeats 4000000 in
set_option maxRecDepth 100000 in
theorem cl_X7_init_70 (l : Launch) (D : va_G) (cy : Nat → ClassId) (b n : Nat) (hn : 124 ≤ n)   {p : Program} {e : Env} {s : State} {m : MethodId} {args : Array Value} {below : List Frame} {meth : Method} {c : Code} (hx : p.tables.exec = Jvm.exec) (hb : c.code = cX7_init) (hr : meth.sig.returnType = none) (hlocks : meth.locks = false) (hml : c.maxLocals = 1) (hown : s.vm.findClass RX7 = some m.cls) (hts : ∀ w ∈ wsX7_init, w.before args s = true) (hK : va_K D vwCl (tysW cy) s) (hX : SX b s)  : ∀ (k : Nat) (M : Mem)  (H : Heap) (locs : List Loc) (ls : Array Slot), 0 < k → va_P D vwCl (wL cy b fT M n) H → va_S (fr b) s.heap H locs → lv_has ls 1 [(0, .ref (b + 0))] → W p l e (headSpec wsX7_init ({ frames := 6, cells := 123, slots := 1616, locals := 130 } : Room)).room s m args below meth c H locs 123 1616 (MQ below (CQv D cy b n fT (LX7_init_70g k M)) args s 123 1616 (fr b)) (F0 m 70 ls []) := by
  have lk0 := hts (.fieldLink RX7 10 "HygrometerRoom" "room" "LHygrometerRoom$Room;") (by decide +kernel)
  have inc7 : ∀ w ∈ u_ws RX7 TX7 6, w ∈ wsX7_init := by decide +kernel
  intro k
  induction k with
  | zero => intro M H locs ls hk hP hS hl; omega
  | succ k ih =>
    intro M H locs ls hk hP hS hl
    refine lv_aload_n hx hb dX7_init_70 rfl (lv_at hl 0 rfl) ?_
    refine xg (C := RX7) (T := TX7) (N := 6) (v := .ref (b + 1)) hx hb hts inc7 hown hK hP (by omega) (cell7 (by decide)) rfl 0 (by decide) lk0 (fun _ h => h) rfl dX7_init_71 ?_
    refine lv_bipush (v := 60) hx hb dX7_init_74 (by decide) ?_
    refine lv_bipush (v := 20) hx hb dX7_init_76 (by decide) ?_
    refine lv_iconst (v := 2) hx hb dX7_init_78 (by decide) ?_
    refine xc_v (va_runV (As := [.int (60 : Int32), .int (20 : Int32), .int (2 : Int32)]) (rest := []) ⟨hx, hb, hml, hown, hts⟩ (c_X4_begin l D cy b n hn M 1 (60 : Int32) (20 : Int32) (2 : Int32) (by decide)) (cwV 3 hts gX7_init_X4_begin rfl rfl rfl (by decide +kernel) ⟨Nat.le_of_ble_eq_true rfl, Nat.le_of_ble_eq_true rfl⟩) (xPreV hP hK hX hS (by omega) (cell4 (by decide)) rfl) rfl rfl hl.1 rfl (lv_room (Nat.le_of_ble_eq_true rfl)) dX7_init_79 ⟨Nat.le_of_ble_eq_true rfl, Nat.le_of_ble_eq_true rfl⟩) hS (fun H locs hP hS => ?_)
    rw [show LX7_init_70g (k + 1) M = LX7_init_82g 1 (gX4_begin M 1 (60 : Int32) (20 : Int32) (2 : Int32)) from (by rw [LX7_init_70g])]
    exact cl_X7_init_82 l D cy b n hn  hx hb hr hlocks hml hown hts hK hX 1 (gX4_begin M 1 (60 : Int32) (20 : Int32) (2 : Int32)) H locs ls (begin_cnt _ _ _ _ _) (by decide) hP hS (lv_sub hl [0] rfl)
theorem gX3_ne {M : Mem} {p : Nat} (h : p ≠ 9 ∧ (p < 14 ∨ 20 ≤ p)) : gX3_init M p = M p := by
  unfold gX3_init
  rw [mU_ne _ _ _ h.1, gX4_init_ne (by omega)]
def gX7_init (M : Mem) : Mem := LX7_init_70g 1 (mU (gR5 (gR0 (gX3_init (gX4_init M 1)) 10) 2) 123 8 (-1))
set_option maxHeartbeats 4000000 in
set_option maxRecDepth 100000 in
/-- HygrometerRoom() -/
theorem c_X7_init (l : Launch) (D : va_G) (cy : Nat → ClassId) (b : Nat) (M : Mem) (hZ : ∀ p, 1 ≤ p → M p = fun _ => 0) : Met l yX7_init wsX7_init ({ frames := 6, cells := 123, slots := 1616, locals := 130 } : Room) (CPz D cy b 1 (fP fT 0) M [.ref (b + 0)]) (CQv D cy b 124 fT (gX7_init M)) 123 1616 (fr b) := by
  refine Met.ofW (cc := cX7_init) (maxL := 1) (ret := none) (by decide) rfl ?_
  intro p e s m args below meth c s₁ B hml hv
  obtain ⟨rfl, hP, hK, hX, hO, hz⟩ := hv
  have hx := B.exec
  have hb := B.bytes
  have hr := B.returns
  have hts := atoms_spec (ws := wsX7_init) B.pre
  have hown : s.vm.findClass RX7 = some m.cls := findClass_of_methodNamed B.named
  have hlocks := B.notSynchronized
  have hin2 : meth.name = "<init>" := (name_of_methodNamed B.named B.method).1
  have hs0 := hz
  have lk0 := hts (.fieldLink RX7 10 "HygrometerRoom" "room" "LHygrometerRoom$Room;") (by decide +kernel)
  have lk1 := hts (.fieldLink RX7 19 "HygrometerRoom" "reader" "LHygrometerRoom$Reader;") (by decide +kernel)
  have lk2 := hts (.fieldLink RX7 26 "HygrometerRoom" "history" "LHygrometerRoom$History;") (by decide +kernel)
  have lk3 := hts (.fieldLink RX7 33 "HygrometerRoom" "slots" "LHygrometerRoom$Slots;") (by decide +kernel)
  have lk4 := hts (.fieldLink RX7 40 "HygrometerRoom" "output" "LHygrometerRoom$Output;") (by decide +kernel)
  have lk5 := hts (.fieldLink RX7 47 "HygrometerRoom" "probe" "LHygrometerRoom$Instrument;") (by decide +kernel)
  have inc0 : ∀ w ∈ u_ws RX0 TX0 3, w ∈ wsX7_init := by decide +kernel
  have inc1 : ∀ w ∈ u_ws RX1 TX1 9, w ∈ wsX7_init := by decide +kernel
  have inc2 : ∀ w ∈ u_ws RX2 TX2 2, w ∈ wsX7_init := by decide +kernel
  have inc3 : ∀ w ∈ u_ws RX3 TX3 4, w ∈ wsX7_init := by decide +kernel
  have inc4 : ∀ w ∈ u_ws RX4 TX4 8, w ∈ wsX7_init := by decide +kernel
  have inc5 : ∀ w ∈ u_ws RX5 TX5 2, w ∈ wsX7_init := by decide +kernel
  have inc7 : ∀ w ∈ u_ws RX7 TX7 6, w ∈ wsX7_init := by decide +kernel
  have hS : va_S (fr b) s.heap s.heap [] := va_S.rf
  have hl := lv_entry ([.ref (b + 0)]) (n := 1) (Nat.le_of_ble_eq_true rfl)
  rw [lg_entry_eq]
  generalize (lg_sl ([.ref (b + 0)]) ++ List.replicate (1 - (lg_sl ([.ref (b + 0)])).length) Slot.unset).toArray = ls at hl ⊢
  have hl : lv_has ls 1 [(0, .ref (b + 0))] := hl
  refine lv_aload_n hx hb dX7_init_0 rfl (lv_at hl 0 rfl) ?_
  refine W.objInit hx hb hown (hts (.methodLink RX7 1 objectInit) (by decide +kernel)) (hts (.instanceMethod objectInit) (by decide +kernel)) (hts (.code objectInit ⟨#[0xb1]⟩ 1 none) (by decide +kernel)) rfl (by rw [hml]; exact hl.1) rfl dX7_init_1 (Nat.le_of_ble_eq_true rfl) (Nat.le_of_ble_eq_true rfl) ?_
  show W _ _ _ _ _ _ _ _ _ _ _ _ _ _ _ (F0 m 4 ls [])
  refine lv_aload_n hx hb dX7_init_4 rfl (lv_at hl 0 rfl) ?_
  refine xnewo (n := 1) (C := RX4) (T := TX4) (N := 8) (ci := 4) (fs := [.null, .int 0, .int 0, .int 0, .int 0, .int 0, .int 0, .int 0]) hx hb hts inc4 tyX4 tyX4_ok hown (hts (.classLink RX7 7 RX4) (by decide +kernel)) (hts (.instantiable RX4 8) (by decide +kernel)) (hts (.initialized RX4) (by decide +kernel)) hK hP hS hz rfl (fun j hj => by rcases (show j = 0 ∨ j = 1 ∨ j = 2 ∨ j = 3 ∨ j = 4 ∨ j = 5 ∨ j = 6 ∨ j = 7 by omega) with rfl | rfl | rfl | rfl | rfl | rfl | rfl | rfl <;> rfl) (by rw [cell4 (by decide), hZ _ (by decide)]; rfl) (Nat.le_of_ble_eq_true rfl) (Nat.le_of_ble_eq_true rfl) dX7_init_5 (fun H hP hS hz => ?_)
  refine lv_dup hx hb dX7_init_8 rfl ?_
  refine xcz (va_runI (As := []) (rest := [.ref (b + 1), .ref (b + 0)]) ⟨hx, hb, hml, hown, hts⟩ (c_X4_init l D cy b (fP fT 0) (M) 1 (by decide) (fun q hq => by rw [fP_ne _ (by omega)]) (fun q hq => hZ q (by omega))) (cwI 0 hts gX7_init_X4_init rfl rfl rfl (hts (.initialized RX4) (by decide +kernel)) (hts (.methodLink RX7 9 yX4_init) (by decide +kernel)) (hts (.instanceMethod yX4_init) (by decide +kernel)) rfl (by decide +kernel) ⟨Nat.le_of_ble_eq_true rfl, Nat.le_of_ble_eq_true rfl⟩) (xPreZ hP hK hX hO hS hz) rfl rfl hl.1 rfl (lv_room (Nat.le_of_ble_eq_true rfl)) dX7_init_9 ⟨Nat.le_of_ble_eq_true rfl, Nat.le_of_ble_eq_true rfl⟩) hS hs0 (by omega) (by omega) (fun H locs hP hS hz => ?_)
  refine xpF (C := RX7) (T := TX7) (N := 6) (ci := 7) (v := .ref (b + 1)) (o := 0) hx hb hts inc7 tyX7 tyX7_ok nmX7 hown hK hP hS (by omega) (fun _ => cell7 (by decide)) rfl 0 (by decide) rfl lk0 (fun _ h => h) rfl hin2 rfl (tyX7_ok 0 (by decide)) rfl rfl (Nat.le_of_ble_eq_true rfl) dX7_init_12 (fun H locs hP hS => ?_)
  refine lv_aload_n hx hb dX7_init_15 rfl (lv_at hl 0 rfl) ?_
  refine xsz hP hs0 rfl (by omega) (fun hz => ?_)
  refine xnewo (n := 9) (C := RX3) (T := TX3) (N := 4) (ci := 3) (fs := [.null, .null, .int 0, .int 0]) hx hb hts inc3 tyX3 tyX3_ok hown (hts (.classLink RX7 16 RX3) (by decide +kernel)) (hts (.instantiable RX3 4) (by decide +kernel)) (hts (.initialized RX3) (by decide +kernel)) hK hP hS hz rfl (fun j hj => by rcases (show j = 0 ∨ j = 1 ∨ j = 2 ∨ j = 3 by omega) with rfl | rfl | rfl | rfl <;> rfl) (by rw [cell3 (by decide), (show (gX4_init M 1) 9 = fun _ => 0 from by rw [gX4_init_ne (Or.inr (by omega))]; exact hZ _ (by decide))]; rfl) (Nat.le_of_ble_eq_true rfl) (Nat.le_of_ble_eq_true rfl) dX7_init_16 (fun H hP hS hz => ?_)
  refine lv_dup hx hb dX7_init_19 rfl ?_
  refine xcz (va_runIN (As := []) (rest := [.ref (b + 9), .ref (b + 0)]) ⟨hx, hb, hml, hown, hts⟩ (c_X3_init l D cy b (fU (fP fT 0) 0 0) (gX4_init M 1) (fun q hq => by rw [fU_ne _ _ (by omega), fP_ne _ (by omega)]) (fun q hq => by rw [gX4_init_ne (Or.inr (by omega))]; exact hZ q (by omega))) ⟨va_cnB 0 hts gX7_init_X3_init_n18 rfl rfl rfl (hX.2.2.2.2.2.1 (RX7, 18, yX3_init) (by decide +kernel)) (hts (.initialized RX3) (by decide +kernel)) (by decide +kernel) ⟨Nat.le_of_ble_eq_true rfl, Nat.le_of_ble_eq_true rfl⟩, rfl, hts (.instanceMethod yX3_init) (by decide +kernel)⟩ (xPreZ hP hK hX hO hS hz) rfl rfl hl.1 rfl (lv_room (Nat.le_of_ble_eq_true rfl)) dX7_init_20 ⟨Nat.le_of_ble_eq_true rfl, Nat.le_of_ble_eq_true rfl⟩) hS hs0 (by omega) (by omega) (fun H locs hP hS hz => ?_)
  refine xpF (C := RX7) (T := TX7) (N := 6) (ci := 7) (v := .ref (b + 9)) (o := 0) hx hb hts inc7 tyX7 tyX7_ok nmX7 hown hK hP hS (by omega) (fun _ => cell7 (by decide)) rfl 1 (by decide) rfl lk1 (fun _ h => h) rfl hin2 rfl (tyX7_ok 1 (by decide)) rfl rfl (Nat.le_of_ble_eq_true rfl) dX7_init_23 (fun H locs hP hS => ?_)
  refine lv_aload_n hx hb dX7_init_26 rfl (lv_at hl 0 rfl) ?_
  refine xsz hP hs0 rfl (by omega) (fun hz => ?_)
  refine xnewo (n := 20) (C := RX0) (T := TX0) (N := 3) (ci := 0) (fs := [.null, .int 0, .int 0]) hx hb hts inc0 tyX0 tyX0_ok hown (hts (.classLink RX7 23 RX0) (by decide +kernel)) (hts (.instantiable RX0 3) (by decide +kernel)) (hts (.initialized RX0) (by decide +kernel)) hK hP hS hz rfl (fun j hj => by rcases (show j = 0 ∨ j = 1 ∨ j = 2 by omega) with rfl | rfl | rfl <;> rfl) (by rw [cell0 (by decide), (show (gX3_init (gX4_init M 1)) 20 = fun _ => 0 from by rw [gX3_ne (by omega), gX4_init_ne (Or.inr (by omega))]; exact hZ _ (by decide))]; rfl) (Nat.le_of_ble_eq_true rfl) (Nat.le_of_ble_eq_true rfl) dX7_init_27 (fun H hP hS hz => ?_)
  refine lv_dup hx hb dX7_init_30 rfl ?_
  refine xcz (va_runI (As := []) (rest := [.ref (b + 20), .ref (b + 0)]) ⟨hx, hb, hml, hown, hts⟩ (c_X0_init l D cy b (fU (fU (fP fT 0) 0 0) 0 1) (gX3_init (gX4_init M 1)) (fun q hq => by rw [fU_ne _ _ (by omega), fU_ne _ _ (by omega), fP_ne _ (by omega)]) (fun q hq => by rw [gX3_ne (by omega), gX4_init_ne (Or.inr (by omega))]; exact hZ q (by omega))) (cwI 0 hts gX7_init_X0_init rfl rfl rfl (hts (.initialized RX0) (by decide +kernel)) (hts (.methodLink RX7 25 yX0_init) (by decide +kernel)) (hts (.instanceMethod yX0_init) (by decide +kernel)) rfl (by decide +kernel) ⟨Nat.le_of_ble_eq_true rfl, Nat.le_of_ble_eq_true rfl⟩) (xPreZ hP hK hX hO hS hz) rfl rfl hl.1 rfl (lv_room (Nat.le_of_ble_eq_true rfl)) dX7_init_31 ⟨Nat.le_of_ble_eq_true rfl, Nat.le_of_ble_eq_true rfl⟩) hS hs0 (by omega) (by omega) (fun H locs hP hS hz => ?_)
  refine xpF (C := RX7) (T := TX7) (N := 6) (ci := 7) (v := .ref (b + 20)) (o := 0) hx hb hts inc7 tyX7 tyX7_ok nmX7 hown hK hP hS (by omega) (fun _ => cell7 (by decide)) rfl 2 (by decide) rfl lk2 (fun _ h => h) rfl hin2 rfl (tyX7_ok 2 (by decide)) rfl rfl (Nat.le_of_ble_eq_true rfl) dX7_init_34 (fun H locs hP hS => ?_)
  refine lv_aload_n hx hb dX7_init_37 rfl (lv_at hl 0 rfl) ?_
  refine xsz hP hs0 rfl (by omega) (fun hz => ?_)
  refine xnewo (n := 102) (C := RX5) (T := TX5) (N := 2) (ci := 5) (fs := [.null, .null]) hx hb hts inc5 tyX5 tyX5_ok hown (hts (.classLink RX7 30 RX5) (by decide +kernel)) (hts (.instantiable RX5 2) (by decide +kernel)) (hts (.initialized RX5) (by decide +kernel)) hK hP hS hz rfl (fun j hj => by rcases (show j = 0 ∨ j = 1 by omega) with rfl | rfl <;> rfl) (by rw [cell5 (by decide)]; rfl) (Nat.le_of_ble_eq_true rfl) (Nat.le_of_ble_eq_true rfl) dX7_init_38 (fun H hP hS hz => ?_)
  refine lv_dup hx hb dX7_init_41 rfl ?_
  refine xcz (va_runI (As := []) (rest := [.ref (b + 102), .ref (b + 0)]) ⟨hx, hb, hml, hown, hts⟩ (c_X5_init l D cy b (fU (fU (fU (fP fT 0) 0 0) 0 1) 0 2) (gR0 (gX3_init (gX4_init M 1)) 10) (fun q hq => by rw [fU_ne _ _ (by omega), fU_ne _ _ (by omega), fU_ne _ _ (by omega), fP_ne _ (by omega)]) (fun q hq => by rw [gR0_ne 10 (by omega), gX3_ne (by omega), gX4_init_ne (Or.inr (by omega))]; exact hZ q (by omega))) (cwI 0 hts gX7_init_X5_init rfl rfl rfl (hts (.initialized RX5) (by decide +kernel)) (hts (.methodLink RX7 32 yX5_init) (by decide +kernel)) (hts (.instanceMethod yX5_init) (by decide +kernel)) rfl (by decide +kernel) ⟨Nat.le_of_ble_eq_true rfl, Nat.le_of_ble_eq_true rfl⟩) (xPreZ hP hK hX hO hS hz) rfl rfl hl.1 rfl (lv_room (Nat.le_of_ble_eq_true rfl)) dX7_init_42 ⟨Nat.le_of_ble_eq_true rfl, Nat.le_of_ble_eq_true rfl⟩) hS hs0 (by omega) (by omega) (fun H locs hP hS hz => ?_)
  refine xpF (C := RX7) (T := TX7) (N := 6) (ci := 7) (v := .ref (b + 102)) (o := 0) hx hb hts inc7 tyX7 tyX7_ok nmX7 hown hK hP hS (by omega) (fun _ => cell7 (by decide)) rfl 3 (by decide) rfl lk3 (fun _ h => h) rfl hin2 rfl (tyX7_ok 3 (by decide)) rfl rfl (Nat.le_of_ble_eq_true rfl) dX7_init_45 (fun H locs hP hS => ?_)
  refine lv_aload_n hx hb dX7_init_48 rfl (lv_at hl 0 rfl) ?_
  refine xsz hP hs0 rfl (by omega) (fun hz => ?_)
  refine xnewo (n := 121) (C := RX2) (T := TX2) (N := 2) (ci := 2) (fs := [.null, .int 0]) hx hb hts inc2 tyX2 tyX2_ok hown (hts (.classLink RX7 37 RX2) (by decide +kernel)) (hts (.instantiable RX2 2) (by decide +kernel)) (hts (.initialized RX2) (by decide +kernel)) hK hP hS hz rfl (fun j hj => by rcases (show j = 0 ∨ j = 1 by omega) with rfl | rfl <;> rfl) (by rw [cell2 (by decide), (show (gR5 (gR0 (gX3_init (gX4_init M 1)) 10) 2) 121 = fun _ => 0 from by rw [gR5_ne 2 (by omega), gR0_ne 10 (by omega), gX3_ne (by omega), gX4_init_ne (Or.inr (by omega))]; exact hZ _ (by decide))]; rfl) (Nat.le_of_ble_eq_true rfl) (Nat.le_of_ble_eq_true rfl) dX7_init_49 (fun H hP hS hz => ?_)
  refine lv_dup hx hb dX7_init_52 rfl ?_
  refine xcz (va_runIN (As := []) (rest := [.ref (b + 121), .ref (b + 0)]) ⟨hx, hb, hml, hown, hts⟩ (c_X2_init l D cy b (fU (fU (fU (fU (fP fT 0) 0 0) 0 1) 0 2) 0 3) (gR5 (gR0 (gX3_init (gX4_init M 1)) 10) 2) (fun q hq => by rw [fU_ne _ _ (by omega), fU_ne _ _ (by omega), fU_ne _ _ (by omega), fU_ne _ _ (by omega), fP_ne _ (by omega)]) (fun q hq => by rw [gR5_ne 2 (by omega), gR0_ne 10 (by omega), gX3_ne (by omega), gX4_init_ne (Or.inr (by omega))]; exact hZ q (by omega))) ⟨va_cnB 0 hts gX7_init_X2_init_n39 rfl rfl rfl (hX.2.2.2.2.2.1 (RX7, 39, yX2_init) (by decide +kernel)) (hts (.initialized RX2) (by decide +kernel)) (by decide +kernel) ⟨Nat.le_of_ble_eq_true rfl, Nat.le_of_ble_eq_true rfl⟩, rfl, hts (.instanceMethod yX2_init) (by decide +kernel)⟩ (xPreZ hP hK hX hO hS hz) rfl rfl hl.1 rfl (lv_room (Nat.le_of_ble_eq_true rfl)) dX7_init_53 ⟨Nat.le_of_ble_eq_true rfl, Nat.le_of_ble_eq_true rfl⟩) hS hs0 (by omega) (by omega) (fun H locs hP hS hz => ?_)
  refine xpF (C := RX7) (T := TX7) (N := 6) (ci := 7) (v := .ref (b + 121)) (o := 0) hx hb hts inc7 tyX7 tyX7_ok nmX7 hown hK hP hS (by omega) (fun _ => cell7 (by decide)) rfl 4 (by decide) rfl lk4 (fun _ h => h) rfl hin2 rfl (tyX7_ok 4 (by decide)) rfl rfl (Nat.le_of_ble_eq_true rfl) dX7_init_56 (fun H locs hP hS => ?_)
  refine lv_aload_n hx hb dX7_init_59 rfl (lv_at hl 0 rfl) ?_
  refine xsz hP hs0 rfl (by omega) (fun hz => ?_)
  refine xnewo (n := 123) (C := RX1) (T := TX1) (N := 9) (ci := 1) (fs := [.int 0, .int 0, .int 0, .int 0, .int 0, .int 0, .int 0, .int 0, .int 0]) hx hb hts inc1 tyX1 tyX1_ok hown (hts (.classLink RX7 44 RX1) (by decide +kernel)) (hts (.instantiable RX1 9) (by decide +kernel)) (hts (.initialized RX1) (by decide +kernel)) hK hP hS hz rfl (fun j hj => by rcases (show j = 0 ∨ j = 1 ∨ j = 2 ∨ j = 3 ∨ j = 4 ∨ j = 5 ∨ j = 6 ∨ j = 7 ∨ j = 8 by omega) with rfl | rfl | rfl | rfl | rfl | rfl | rfl | rfl | rfl <;> rfl) (by rw [cell1 (by decide), (show (gR5 (gR0 (gX3_init (gX4_init M 1)) 10) 2) 123 = fun _ => 0 from by rw [gR5_ne 2 (by omega), gR0_ne 10 (by omega), gX3_ne (by omega), gX4_init_ne (Or.inr (by omega))]; exact hZ _ (by decide))]; rfl) (Nat.le_of_ble_eq_true rfl) (Nat.le_of_ble_eq_true rfl) dX7_init_60 (fun H hP hS hz => ?_)
  refine lv_dup hx hb dX7_init_63 rfl ?_
  refine xcz (va_runIN (As := []) (rest := [.ref (b + 123), .ref (b + 0)]) ⟨hx, hb, hml, hown, hts⟩ (c_X1_init l D cy b 124 (fP (fU (fU (fU (fU (fU (fP fT 0) 0 0) 0 1) 0 2) 0 3) 0 4) 123) (gR5 (gR0 (gX3_init (gX4_init M 1)) 10) 2) 123 (by decide) (by decide)) ⟨va_cnB 0 hts gX7_init_X1_init_n46 rfl rfl rfl (hX.2.2.2.2.2.1 (RX7, 46, yX1_init) (by decide +kernel)) (hts (.initialized RX1) (by decide +kernel)) (by decide +kernel) ⟨Nat.le_of_ble_eq_true rfl, Nat.le_of_ble_eq_true rfl⟩, rfl, hts (.instanceMethod yX1_init) (by decide +kernel)⟩ (xPreZ hP hK hX hO hS hz) rfl rfl hl.1 rfl (lv_room (Nat.le_of_ble_eq_true rfl)) dX7_init_64 ⟨Nat.le_of_ble_eq_true rfl, Nat.le_of_ble_eq_true rfl⟩) hS hs0 (by omega) (by omega) (fun H locs hP hS hz => ?_)
  rw [wL_cell (F' := fU (fU (fU (fU (fU (fP fT 0) 0 0) 0 1) 0 2) 0 3) 0 4) (M' := mU (gR5 (gR0 (gX3_init (gX4_init M 1)) 10) 2) 123 8 (-1)) (fun q hq => by
    by_cases e1 : q = 123
    · subst e1
      rw [cell1 (by decide), cell1 (by decide)]
    · rw [fP_ne _ e1])] at hP
  refine xpF (C := RX7) (T := TX7) (N := 6) (ci := 7) (v := .ref (b + 123)) (o := 0) hx hb hts inc7 tyX7 tyX7_ok nmX7 hown hK hP hS (by omega) (fun _ => cell7 (by decide)) rfl 5 (by decide) rfl lk5 (fun _ h => h) rfl hin2 rfl (tyX7_ok 5 (by decide)) rfl rfl (Nat.le_of_ble_eq_true rfl) dX7_init_67 (fun H locs hP hS => ?_)
  have hw : wL cy b (fU (fU (fU (fU (fU (fU (fP fT 0) 0 0) 0 1) 0 2) 0 3) 0 4) 0 5) (mU (gR5 (gR0 (gX3_init (gX4_init M 1)) 10) 2) 123 8 (-1)) 124 = wL cy b fT (mU (gR5 (gR0 (gX3_init (gX4_init M 1)) 10) 2) 123 8 (-1)) 124 := wL_cell (fun q hq => by
    by_cases e1 : q = 0
    · subst e1
      rw [cell7 (by decide), cell7 (by decide)]
      rfl
    · rw [fU_ne _ _ e1, fU_ne _ _ e1, fU_ne _ _ e1, fU_ne _ _ e1, fU_ne _ _ e1, fU_ne _ _ e1, fP_ne _ e1])
  rw [hw] at hP
  exact cl_X7_init_70 l D cy b 124 (Nat.le_refl _) hx hb hr hlocks hml hown hts hK hX 1 _ _ _ _ (by decide) hP hS hl

