def LX8_init_567g  : Nat → Mem → Mem
  | 0, M => M
  | k + 1, M => gX8_passes M (2 : Int32)
set_option maxHeartbeats 4000000 in
set_option maxRecDepth 100000 in
theorem cl_X8_init_567 (l : Launch) (D : va_G) (cy : Nat → ClassId) (b n : Nat) (hn : 133 ≤ n)   {p : Program} {e : Env} {s : State} {m : MethodId} {args : Array Value} {below : List Frame} {meth : Method} {c : Code} (hx : p.tables.exec = Jvm.exec) (hb : c.code = cX8_init) (hr : meth.sig.returnType = none) (hlocks : meth.locks = false) (hml : c.maxLocals = 2) (hown : s.vm.findClass RX8 = some m.cls) (hts : ∀ w ∈ wsX8_init, w.before args s = true) (hK : va_K D vwCl (tysW cy) s) (hX : SX b s)  : ∀ (k : Nat) (M : Mem)  (H : Heap) (locs : List Loc) (ls : Array Slot), M 127 5 = nI 4 → BXS M → 0 < k → va_P D vwCl (wL cy b fT M n) H → va_S (fr b) s.heap H locs → lv_has ls 2 [(0, .ref (b + 124))] → W p l e (headSpec wsX8_init ({ frames := 8, cells := 8, slots := 1520, locals := 190 } : Room)).room s m args below meth c H locs 8 1520 (MQ below (CQv D cy b n fT (LX8_init_567g k M)) args s 8 1520 (fr b)) (F0 m 567 ls []) := by
  intro k
  induction k with
  | zero => intro M H locs ls h5 hbx hk hP hS hl; omega
  | succ k ih =>
    intro M H locs ls h5 hbx hk hP hS hl
    refine lv_aload_n hx hb dX8_init_567 rfl (lv_at hl 0 rfl) ?_
    refine lv_iconst (v := 2) hx hb dX8_init_568 (by decide) ?_
    refine xc_i (va_runV (As := [.int (2 : Int32)]) (rest := []) ⟨hx, hb, hml, hown, hts⟩ (c_X8_passes l D cy b n hn M (2 : Int32) ⟨2, by decide, rfl⟩ (⟨4, by decide, h5⟩ : MNY M) hbx) (cwV 1 hts gX8_init_X8_passes rfl rfl rfl (by decide +kernel) ⟨Nat.le_of_ble_eq_true rfl, Nat.le_of_ble_eq_true rfl⟩) (xPreV hP hK hX hS (by omega) (cell8 (by decide)) rfl) rfl rfl hl.1 rfl (lv_room (Nat.le_of_ble_eq_true rfl)) dX8_init_569 ⟨Nat.le_of_ble_eq_true rfl, Nat.le_of_ble_eq_true rfl⟩) hS (fun H locs hP hS => ?_)
    refine lv_istore_n (lv' := [(1, .int (fX8_passes M (2 : Int32))), (0, .ref (b + 124))]) hx hb dX8_init_572 rfl hl (by decide) rfl (fun ls hl => ?_)
    exact xe_v hx hb hr hlocks hP hS rfl (by rw [LX8_init_567g] <;> rfl) (Nat.le_of_ble_eq_true rfl) (Nat.le_of_ble_eq_true rfl) dX8_init_573
def LX8_init_554g  : Nat → Mem → Mem
  | 0, M => M
  | k + 1, M => LX8_init_567g 1 (mU M 127 23 (2 : Int32))
set_option maxHeartbeats 4000000 in
set_option maxRecDepth 100000 in
theorem cl_X8_init_554 (l : Launch) (D : va_G) (cy : Nat → ClassId) (b n : Nat) (hn : 133 ≤ n)   {p : Program} {e : Env} {s : State} {m : MethodId} {args : Array Value} {below : List Frame} {meth : Method} {c : Code} (hx : p.tables.exec = Jvm.exec) (hb : c.code = cX8_init) (hr : meth.sig.returnType = none) (hlocks : meth.locks = false) (hml : c.maxLocals = 2) (hown : s.vm.findClass RX8 = some m.cls) (hts : ∀ w ∈ wsX8_init, w.before args s = true) (hK : va_K D vwCl (tysW cy) s) (hX : SX b s)  : ∀ (k : Nat) (M : Mem)  (H : Heap) (locs : List Loc) (ls : Array Slot), M 127 5 = nI 4 → BXS M → 0 < k → va_P D vwCl (wL cy b fT M n) H → va_S (fr b) s.heap H locs → lv_has ls 2 [(0, .ref (b + 124))] → W p l e (headSpec wsX8_init ({ frames := 8, cells := 8, slots := 1520, locals := 190 } : Room)).room s m args below meth c H locs 8 1520 (MQ below (CQv D cy b n fT (LX8_init_554g k M)) args s 8 1520 (fr b)) (F0 m 554 ls []) := by
  have lk0 := hts (.fieldLink RX8 16 "HygrometerRoomModel" "now" "[I") (by decide +kernel)
  have inc8 : ∀ w ∈ u_ws RX8 TX8 22, w ∈ wsX8_init := by decide +kernel
  intro k
  induction k with
  | zero => intro M H locs ls h5 hbx hk hP hS hl; omega
  | succ k ih =>
    intro M H locs ls h5 hbx hk hP hS hl
    refine lv_aload_n hx hb dX8_init_554 rfl (lv_at hl 0 rfl) ?_
    refine xg (C := RX8) (T := TX8) (N := 22) (v := .ref (b + 127)) hx hb hts inc8 hown hK hP (by omega) (cell8 (by decide)) rfl 3 (by decide) lk0 (fun _ h => h) rfl dX8_init_555 ?_
    refine lv_iconst (v := 1) hx hb dX8_init_558 (by decide) ?_
    refine xc_i (va_runS (As := [.int (1 : Int32)]) (rest := [.ref (b + 127)]) ⟨hx, hb, hml, hown, hts⟩ (c_X8_i l D cy b n hn M 1) (va_cwS 1 hts gX8_init_X8_i rfl rfl rfl (by decide +kernel) ⟨Nat.le_of_ble_eq_true rfl, Nat.le_of_ble_eq_true rfl⟩) (xPreS hP hK hX hS) rfl rfl hl.1 rfl (lv_room (Nat.le_of_ble_eq_true rfl)) dX8_init_559 ⟨Nat.le_of_ble_eq_true rfl, Nat.le_of_ble_eq_true rfl⟩) hS (fun H locs hP hS => ?_)
    refine W.eq (g2 := F0 m 562 ls (.int (16 : Int32) :: .ref (b + 127) :: [])) (congrArg (fun z => F0 m 562 ls (.int z :: .ref (b + 127) :: [])) (show fX8_i M 1 = (16 : Int32) from by unfold fX8_i; decide)) ?_
    refine lv_bipush (v := 7) hx hb dX8_init_562 (by decide) ?_
    refine lv_iadd hx hb dX8_init_564 ?_
    refine lv_iconst (v := 2) hx hb dX8_init_565 (by decide) ?_
    refine W.eq (g2 := F0 m 566 ls (.int (2 : Int32) :: .int (nI (23)) :: .ref (b + 127) :: [])) (congrArg (fun z => F0 m 566 ls (.int (2 : Int32) :: .int z :: .ref (b + 127) :: [])) (show (16 : Int32) + (7 : Int32) = nI (23) from by decide)) ?_
    refine xis (j := 23) (x := (2 : Int32)) hx hb hK hP hS (by omega) (by decide) (ixIn (a := 23) rfl (by first | decide | (simp only [lenOf]; omega) | omega) (by decide)) (ixAt (a := 23) rfl (by omega)) dX8_init_566 (fun H locs hP hS => ?_)
    rw [show LX8_init_554g (k + 1) M = LX8_init_567g 1 (mU M 127 23 (2 : Int32)) from (by rw [LX8_init_554g])]
    exact cl_X8_init_567 l D cy b n hn  hx hb hr hlocks hml hown hts hK hX 1 (mU M 127 23 (2 : Int32)) H locs ls (by rw [mU_row (by decide)]; exact h5) (bxs_put (Or.inr ⟨2, by decide, rfl⟩) hbx) (by decide) hP hS (lv_sub hl [0] rfl)
def LX8_init_548g  : Nat → Mem → Mem
  | 0, M => M
  | k + 1, M => LX8_init_554g 1 (gX8_passes M (3 : Int32))
set_option maxHeartbeats 4000000 in
set_option maxRecDepth 100000 in
theorem cl_X8_init_548 (l : Launch) (D : va_G) (cy : Nat → ClassId) (b n : Nat) (hn : 133 ≤ n)   {p : Program} {e : Env} {s : State} {m : MethodId} {args : Array Value} {below : List Frame} {meth : Method} {c : Code} (hx : p.tables.exec = Jvm.exec) (hb : c.code = cX8_init) (hr : meth.sig.returnType = none) (hlocks : meth.locks = false) (hml : c.maxLocals = 2) (hown : s.vm.findClass RX8 = some m.cls) (hts : ∀ w ∈ wsX8_init, w.before args s = true) (hK : va_K D vwCl (tysW cy) s) (hX : SX b s)  : ∀ (k : Nat) (M : Mem)  (H : Heap) (locs : List Loc) (ls : Array Slot), M 127 5 = nI 4 → BXS M → 0 < k → va_P D vwCl (wL cy b fT M n) H → va_S (fr b) s.heap H locs → lv_has ls 2 [(0, .ref (b + 124))] → W p l e (headSpec wsX8_init ({ frames := 8, cells := 8, slots := 1520, locals := 190 } : Room)).room s m args below meth c H locs 8 1520 (MQ below (CQv D cy b n fT (LX8_init_548g k M)) args s 8 1520 (fr b)) (F0 m 548 ls []) := by
  intro k
  induction k with
  | zero => intro M H locs ls h5 hbx hk hP hS hl; omega
  | succ k ih =>
    intro M H locs ls h5 hbx hk hP hS hl
    refine lv_aload_n hx hb dX8_init_548 rfl (lv_at hl 0 rfl) ?_
    refine lv_iconst (v := 3) hx hb dX8_init_549 (by decide) ?_
    refine xc_i (va_runV (As := [.int (3 : Int32)]) (rest := []) ⟨hx, hb, hml, hown, hts⟩ (c_X8_passes l D cy b n hn M (3 : Int32) ⟨3, by decide, rfl⟩ (⟨4, by decide, h5⟩ : MNY M) hbx) (cwV 1 hts gX8_init_X8_passes rfl rfl rfl (by decide +kernel) ⟨Nat.le_of_ble_eq_true rfl, Nat.le_of_ble_eq_true rfl⟩) (xPreV hP hK hX hS (by omega) (cell8 (by decide)) rfl) rfl rfl hl.1 rfl (lv_room (Nat.le_of_ble_eq_true rfl)) dX8_init_550 ⟨Nat.le_of_ble_eq_true rfl, Nat.le_of_ble_eq_true rfl⟩) hS (fun H locs hP hS => ?_)
    refine lv_istore_n (lv' := [(1, .int (fX8_passes M (3 : Int32))), (0, .ref (b + 124))]) hx hb dX8_init_553 rfl hl (by decide) rfl (fun ls hl => ?_)
    rw [show LX8_init_548g (k + 1) M = LX8_init_554g 1 (gX8_passes M (3 : Int32)) from (by rw [LX8_init_548g])]
    exact cl_X8_init_554 l D cy b n hn  hx hb hr hlocks hml hown hts hK hX 1 (gX8_passes M (3 : Int32)) H locs ls (((nk_ps M _).2.1 5 (by decide)).trans h5) ((nk_ps M _).bxs hbx) (by decide) hP hS (lv_sub hl [1] rfl)
def LX8_init_540g  : Nat → Mem → Mem
  | 0, M => M
  | k + 1, M => LX8_init_548g 1 (mU M 127 1 (50 : Int32))
set_option maxHeartbeats 4000000 in
set_option maxRecDepth 100000 in
theorem cl_X8_init_540 (l : Launch) (D : va_G) (cy : Nat → ClassId) (b n : Nat) (hn : 133 ≤ n)   {p : Program} {e : Env} {s : State} {m : MethodId} {args : Array Value} {below : List Frame} {meth : Method} {c : Code} (hx : p.tables.exec = Jvm.exec) (hb : c.code = cX8_init) (hr : meth.sig.returnType = none) (hlocks : meth.locks = false) (hml : c.maxLocals = 2) (hown : s.vm.findClass RX8 = some m.cls) (hts : ∀ w ∈ wsX8_init, w.before args s = true) (hK : va_K D vwCl (tysW cy) s) (hX : SX b s)  : ∀ (k : Nat) (M : Mem)  (H : Heap) (locs : List Loc) (ls : Array Slot), M 127 5 = nI 4 → BXS M → 0 < k → va_P D vwCl (wL cy b fT M n) H → va_S (fr b) s.heap H locs → lv_has ls 2 [(0, .ref (b + 124))] → W p l e (headSpec wsX8_init ({ frames := 8, cells := 8, slots := 1520, locals := 190 } : Room)).room s m args below meth c H locs 8 1520 (MQ below (CQv D cy b n fT (LX8_init_540g k M)) args s 8 1520 (fr b)) (F0 m 540 ls []) := by
  have lk0 := hts (.fieldLink RX8 16 "HygrometerRoomModel" "now" "[I") (by decide +kernel)
  have inc8 : ∀ w ∈ u_ws RX8 TX8 22, w ∈ wsX8_init := by decide +kernel
  intro k
  induction k with
  | zero => intro M H locs ls h5 hbx hk hP hS hl; omega
  | succ k ih =>
    intro M H locs ls h5 hbx hk hP hS hl
    refine lv_aload_n hx hb dX8_init_540 rfl (lv_at hl 0 rfl) ?_
    refine xg (C := RX8) (T := TX8) (N := 22) (v := .ref (b + 127)) hx hb hts inc8 hown hK hP (by omega) (cell8 (by decide)) rfl 3 (by decide) lk0 (fun _ h => h) rfl dX8_init_541 ?_
    refine lv_iconst (v := 1) hx hb dX8_init_544 (by decide) ?_
    refine lv_bipush (v := 50) hx hb dX8_init_545 (by decide) ?_
    refine xis (j := 1) (x := (50 : Int32)) hx hb hK hP hS (by omega) (by decide) (ixIn (a := 1) rfl (by first | decide | (simp only [lenOf]; omega) | omega) (by decide)) rfl dX8_init_547 (fun H locs hP hS => ?_)
    rw [show LX8_init_540g (k + 1) M = LX8_init_548g 1 (mU M 127 1 (50 : Int32)) from (by rw [LX8_init_540g])]
    exact cl_X8_init_548 l D cy b n hn  hx hb hr hlocks hml hown hts hK hX 1 (mU M 127 1 (50 : Int32)) H locs ls (by rw [mU_row (by decide)]; exact h5) (bxs_putn (by omega) hbx) (by decide) hP hS (lv_sub hl [0] rfl)
def LX8_init_535g  : Nat → Mem → Mem
  | 0, M => M
  | k + 1, M => LX8_init_540g 1 (gX8_hangsBulb M (3 : Int32))
set_option maxHeartbeats 4000000 in
set_option maxRecDepth 100000 in
theorem cl_X8_init_535 (l : Launch) (D : va_G) (cy : Nat → ClassId) (b n : Nat) (hn : 133 ≤ n)   {p : Program} {e : Env} {s : State} {m : MethodId} {args : Array Value} {below : List Frame} {meth : Method} {c : Code} (hx : p.tables.exec = Jvm.exec) (hb : c.code = cX8_init) (hr : meth.sig.returnType = none) (hlocks : meth.locks = false) (hml : c.maxLocals = 2) (hown : s.vm.findClass RX8 = some m.cls) (hts : ∀ w ∈ wsX8_init, w.before args s = true) (hK : va_K D vwCl (tysW cy) s) (hX : SX b s)  : ∀ (k : Nat) (M : Mem)  (H : Heap) (locs : List Loc) (ls : Array Slot), M 127 5 = nI 3 → BXS M → 0 < k → va_P D vwCl (wL cy b fT M n) H → va_S (fr b) s.heap H locs → lv_has ls 2 [(0, .ref (b + 124))] → W p l e (headSpec wsX8_init ({ frames := 8, cells := 8, slots := 1520, locals := 190 } : Room)).room s m args below meth c H locs 8 1520 (MQ below (CQv D cy b n fT (LX8_init_535g k M)) args s 8 1520 (fr b)) (F0 m 535 ls []) := by
  intro k
  induction k with
  | zero => intro M H locs ls h5 hbx hk hP hS hl; omega
  | succ k ih =>
    intro M H locs ls h5 hbx hk hP hS hl
    refine lv_aload_n hx hb dX8_init_535 rfl (lv_at hl 0 rfl) ?_
    refine lv_iconst (v := 3) hx hb dX8_init_536 (by decide) ?_
    refine xc_v (va_runV (As := [.int (3 : Int32)]) (rest := []) ⟨hx, hb, hml, hown, hts⟩ (c_X8_hangsBulb l D cy b n hn M (3 : Int32) (by rw [h5]; decide) (by rw [h5]; decide)) (cwV 1 hts gX8_init_X8_hangsBulb rfl rfl rfl (by decide +kernel) ⟨Nat.le_of_ble_eq_true rfl, Nat.le_of_ble_eq_true rfl⟩) (xPreV hP hK hX hS (by omega) (cell8 (by decide)) rfl) rfl rfl hl.1 rfl (lv_room (Nat.le_of_ble_eq_true rfl)) dX8_init_537 ⟨Nat.le_of_ble_eq_true rfl, Nat.le_of_ble_eq_true rfl⟩) hS (fun H locs hP hS => ?_)
    rw [show LX8_init_535g (k + 1) M = LX8_init_540g 1 (gX8_hangsBulb M (3 : Int32)) from (by rw [LX8_init_535g])]
    exact cl_X8_init_540 l D cy b n hn  hx hb hr hlocks hml hown hts hK hX 1 (gX8_hangsBulb M (3 : Int32)) H locs ls (by rw [hb_many, h5]; decide) (hb_bxs hbx) (by decide) hP hS (lv_sub hl [0] rfl)
def LX8_init_529g  : Nat → Mem → Mem
  | 0, M => M
  | k + 1, M => LX8_init_535g 1 (gX8_hangsBulb M (30 : Int32))
set_option maxHeartbeats 4000000 in
set_option maxRecDepth 100000 in
theorem cl_X8_init_529 (l : Launch) (D : va_G) (cy : Nat → ClassId) (b n : Nat) (hn : 133 ≤ n)   {p : Program} {e : Env} {s : State} {m : MethodId} {args : Array Value} {below : List Frame} {meth : Method} {c : Code} (hx : p.tables.exec = Jvm.exec) (hb : c.code = cX8_init) (hr : meth.sig.returnType = none) (hlocks : meth.locks = false) (hml : c.maxLocals = 2) (hown : s.vm.findClass RX8 = some m.cls) (hts : ∀ w ∈ wsX8_init, w.before args s = true) (hK : va_K D vwCl (tysW cy) s) (hX : SX b s)  : ∀ (k : Nat) (M : Mem)  (H : Heap) (locs : List Loc) (ls : Array Slot), M 127 5 = nI 2 → BXS M → 0 < k → va_P D vwCl (wL cy b fT M n) H → va_S (fr b) s.heap H locs → lv_has ls 2 [(0, .ref (b + 124))] → W p l e (headSpec wsX8_init ({ frames := 8, cells := 8, slots := 1520, locals := 190 } : Room)).room s m args below meth c H locs 8 1520 (MQ below (CQv D cy b n fT (LX8_init_529g k M)) args s 8 1520 (fr b)) (F0 m 529 ls []) := by
  intro k
  induction k with
  | zero => intro M H locs ls h5 hbx hk hP hS hl; omega
  | succ k ih =>
    intro M H locs ls h5 hbx hk hP hS hl
    refine lv_aload_n hx hb dX8_init_529 rfl (lv_at hl 0 rfl) ?_
    refine lv_bipush (v := 30) hx hb dX8_init_530 (by decide) ?_
    refine xc_v (va_runV (As := [.int (30 : Int32)]) (rest := []) ⟨hx, hb, hml, hown, hts⟩ (c_X8_hangsBulb l D cy b n hn M (30 : Int32) (by rw [h5]; decide) (by rw [h5]; decide)) (cwV 1 hts gX8_init_X8_hangsBulb rfl rfl rfl (by decide +kernel) ⟨Nat.le_of_ble_eq_true rfl, Nat.le_of_ble_eq_true rfl⟩) (xPreV hP hK hX hS (by omega) (cell8 (by decide)) rfl) rfl rfl hl.1 rfl (lv_room (Nat.le_of_ble_eq_true rfl)) dX8_init_532 ⟨Nat.le_of_ble_eq_true rfl, Nat.le_of_ble_eq_true rfl⟩) hS (fun H locs hP hS => ?_)
    rw [show LX8_init_529g (k + 1) M = LX8_init_535g 1 (gX8_hangsBulb M (30 : Int32)) from (by rw [LX8_init_529g])]
    exact cl_X8_init_535 l D cy b n hn  hx hb hr hlocks hml hown hts hK hX 1 (gX8_hangsBulb M (30 : Int32)) H locs ls (by rw [hb_many, h5]; decide) (hb_bxs hbx) (by decide) hP hS (lv_sub hl [0] rfl)
def LX8_init_524g  : Nat → Mem → Mem
  | 0, M => M
  | k + 1, M => LX8_init_529g 1 (gX8_hangsHair M (4 : Int32))
set_option maxHeartbeats 4000000 in
set_option maxRecDepth 100000 in
theorem cl_X8_init_524 (l : Launch) (D : va_G) (cy : Nat → ClassId) (b n : Nat) (hn : 133 ≤ n)   {p : Program} {e : Env} {s : State} {m : MethodId} {args : Array Value} {below : List Frame} {meth : Method} {c : Code} (hx : p.tables.exec = Jvm.exec) (hb : c.code = cX8_init) (hr : meth.sig.returnType = none) (hlocks : meth.locks = false) (hml : c.maxLocals = 2) (hown : s.vm.findClass RX8 = some m.cls) (hts : ∀ w ∈ wsX8_init, w.before args s = true) (hK : va_K D vwCl (tysW cy) s) (hX : SX b s)  : ∀ (k : Nat) (M : Mem)  (H : Heap) (locs : List Loc) (ls : Array Slot), M 127 5 = nI 1 → BXS M → 0 < k → va_P D vwCl (wL cy b fT M n) H → va_S (fr b) s.heap H locs → lv_has ls 2 [(0, .ref (b + 124))] → W p l e (headSpec wsX8_init ({ frames := 8, cells := 8, slots := 1520, locals := 190 } : Room)).room s m args below meth c H locs 8 1520 (MQ below (CQv D cy b n fT (LX8_init_524g k M)) args s 8 1520 (fr b)) (F0 m 524 ls []) := by
  intro k
  induction k with
  | zero => intro M H locs ls h5 hbx hk hP hS hl; omega
  | succ k ih =>
    intro M H locs ls h5 hbx hk hP hS hl
    refine lv_aload_n hx hb dX8_init_524 rfl (lv_at hl 0 rfl) ?_
    refine lv_iconst (v := 4) hx hb dX8_init_525 (by decide) ?_
    refine xc_v (va_runV (As := [.int (4 : Int32)]) (rest := []) ⟨hx, hb, hml, hown, hts⟩ (c_X8_hangsHair l D cy b n hn M (4 : Int32) (by rw [h5]; decide) (by rw [h5]; decide)) (cwV 1 hts gX8_init_X8_hangsHair rfl rfl rfl (by decide +kernel) ⟨Nat.le_of_ble_eq_true rfl, Nat.le_of_ble_eq_true rfl⟩) (xPreV hP hK hX hS (by omega) (cell8 (by decide)) rfl) rfl rfl hl.1 rfl (lv_room (Nat.le_of_ble_eq_true rfl)) dX8_init_526 ⟨Nat.le_of_ble_eq_true rfl, Nat.le_of_ble_eq_true rfl⟩) hS (fun H locs hP hS => ?_)
    rw [show LX8_init_524g (k + 1) M = LX8_init_529g 1 (gX8_hangsHair M (4 : Int32)) from (by rw [LX8_init_524g])]
    exact cl_X8_init_529 l D cy b n hn  hx hb hr hlocks hml hown hts hK hX 1 (gX8_hangsHair M (4 : Int32)) H locs ls (by rw [hh_many, h5]; decide) (hh_bxs hbx) (by decide) hP hS (lv_sub hl [0] rfl)
def LX8_init_518g  : Nat → Mem → Mem
  | 0, M => M
  | k + 1, M => LX8_init_524g 1 (gX8_hangsHair M (10 : Int32))
set_option maxHeartbeats 4000000 in
set_option maxRecDepth 100000 in
theorem cl_X8_init_518 (l : Launch) (D : va_G) (cy : Nat → ClassId) (b n : Nat) (hn : 133 ≤ n)   {p : Program} {e : Env} {s : State} {m : MethodId} {args : Array Value} {below : List Frame} {meth : Method} {c : Code} (hx : p.tables.exec = Jvm.exec) (hb : c.code = cX8_init) (hr : meth.sig.returnType = none) (hlocks : meth.locks = false) (hml : c.maxLocals = 2) (hown : s.vm.findClass RX8 = some m.cls) (hts : ∀ w ∈ wsX8_init, w.before args s = true) (hK : va_K D vwCl (tysW cy) s) (hX : SX b s)  : ∀ (k : Nat) (M : Mem)  (H : Heap) (locs : List Loc) (ls : Array Slot), M 127 5 = nI 0 → BXS M → 0 < k → va_P D vwCl (wL cy b fT M n) H → va_S (fr b) s.heap H locs → lv_has ls 2 [(0, .ref (b + 124))] → W p l e (headSpec wsX8_init ({ frames := 8, cells := 8, slots := 1520, locals := 190 } : Room)).room s m args below meth c H locs 8 1520 (MQ below (CQv D cy b n fT (LX8_init_518g k M)) args s 8 1520 (fr b)) (F0 m 518 ls []) := by
  intro k
  induction k with
  | zero => intro M H locs ls h5 hbx hk hP hS hl; omega
  | succ k ih =>
    intro M H locs ls h5 hbx hk hP hS hl
    refine lv_aload_n hx hb dX8_init_518 rfl (lv_at hl 0 rfl) ?_
    refine lv_bipush (v := 10) hx hb dX8_init_519 (by decide) ?_
    refine xc_v (va_runV (As := [.int (10 : Int32)]) (rest := []) ⟨hx, hb, hml, hown, hts⟩ (c_X8_hangsHair l D cy b n hn M (10 : Int32) (by rw [h5]; decide) (by rw [h5]; decide)) (cwV 1 hts gX8_init_X8_hangsHair rfl rfl rfl (by decide +kernel) ⟨Nat.le_of_ble_eq_true rfl, Nat.le_of_ble_eq_true rfl⟩) (xPreV hP hK hX hS (by omega) (cell8 (by decide)) rfl) rfl rfl hl.1 rfl (lv_room (Nat.le_of_ble_eq_true rfl)) dX8_init_521 ⟨Nat.le_of_ble_eq_true rfl, Nat.le_of_ble_eq_true rfl⟩) hS (fun H locs hP hS => ?_)
    rw [show LX8_init_518g (k + 1) M = LX8_init_524g 1 (gX8_hangsHair M (10 : Int32)) from (by rw [LX8_init_518g])]
    exact cl_X8_init_524 l D cy b n hn  hx hb hr hlocks hml hown hts hK hX 1 (gX8_hangsHair M (10 : Int32)) H locs ls (by rw [hh_many, h5]; decide) (hh_bxs hbx) (by decide) hP hS (lv_sub hl [0] rfl)
def LX8_init_495g  : Nat → Mem → Mem
  | 0, M => M
  | k + 1, M => LX8_init_518g 1 (mU (mU (mU M 127 1 (60 : Int32)) 127 2 (20 : Int32)) 127 3 (2 : Int32))
set_option maxHeartbeats 4000000 in
set_option maxRecDepth 100000 in
theorem cl_X8_init_495 (l : Launch) (D : va_G) (cy : Nat → ClassId) (b n : Nat) (hn : 133 ≤ n)   {p : Program} {e : Env} {s : State} {m : MethodId} {args : Array Value} {below : List Frame} {meth : Method} {c : Code} (hx : p.tables.exec = Jvm.exec) (hb : c.code = cX8_init) (hr : meth.sig.returnType = none) (hlocks : meth.locks = false) (hml : c.maxLocals = 2) (hown : s.vm.findClass RX8 = some m.cls) (hts : ∀ w ∈ wsX8_init, w.before args s = true) (hK : va_K D vwCl (tysW cy) s) (hX : SX b s)  : ∀ (k : Nat) (M : Mem)  (H : Heap) (locs : List Loc) (ls : Array Slot), M 127 5 = nI 0 → BXS M → 0 < k → va_P D vwCl (wL cy b fT M n) H → va_S (fr b) s.heap H locs → lv_has ls 2 [(0, .ref (b + 124))] → W p l e (headSpec wsX8_init ({ frames := 8, cells := 8, slots := 1520, locals := 190 } : Room)).room s m args below meth c H locs 8 1520 (MQ below (CQv D cy b n fT (LX8_init_495g k M)) args s 8 1520 (fr b)) (F0 m 495 ls []) := by
  have lk0 := hts (.fieldLink RX8 16 "HygrometerRoomModel" "now" "[I") (by decide +kernel)
  have inc8 : ∀ w ∈ u_ws RX8 TX8 22, w ∈ wsX8_init := by decide +kernel
  intro k
  induction k with
  | zero => intro M H locs ls h5 hbx hk hP hS hl; omega
  | succ k ih =>
    intro M H locs ls h5 hbx hk hP hS hl
    refine lv_aload_n hx hb dX8_init_495 rfl (lv_at hl 0 rfl) ?_
    refine xg (C := RX8) (T := TX8) (N := 22) (v := .ref (b + 127)) hx hb hts inc8 hown hK hP (by omega) (cell8 (by decide)) rfl 3 (by decide) lk0 (fun _ h => h) rfl dX8_init_496 ?_
    refine lv_iconst (v := 1) hx hb dX8_init_499 (by decide) ?_
    refine lv_bipush (v := 60) hx hb dX8_init_500 (by decide) ?_
    refine xis (j := 1) (x := (60 : Int32)) hx hb hK hP hS (by omega) (by decide) (ixIn (a := 1) rfl (by first | decide | (simp only [lenOf]; omega) | omega) (by decide)) rfl dX8_init_502 (fun H locs hP hS => ?_)
    refine lv_aload_n hx hb dX8_init_503 rfl (lv_at hl 0 rfl) ?_
    refine xg (C := RX8) (T := TX8) (N := 22) (v := .ref (b + 127)) hx hb hts inc8 hown hK hP (by omega) (cell8 (by decide)) rfl 3 (by decide) lk0 (fun _ h => h) rfl dX8_init_504 ?_
    refine lv_iconst (v := 2) hx hb dX8_init_507 (by decide) ?_
    refine lv_bipush (v := 20) hx hb dX8_init_508 (by decide) ?_
    refine xis (j := 2) (x := (20 : Int32)) hx hb hK hP hS (by omega) (by decide) (ixIn (a := 2) rfl (by first | decide | (simp only [lenOf]; omega) | omega) (by decide)) rfl dX8_init_510 (fun H locs hP hS => ?_)
    refine lv_aload_n hx hb dX8_init_511 rfl (lv_at hl 0 rfl) ?_
    refine xg (C := RX8) (T := TX8) (N := 22) (v := .ref (b + 127)) hx hb hts inc8 hown hK hP (by omega) (cell8 (by decide)) rfl 3 (by decide) lk0 (fun _ h => h) rfl dX8_init_512 ?_
    refine lv_iconst (v := 3) hx hb dX8_init_515 (by decide) ?_
    refine lv_iconst (v := 2) hx hb dX8_init_516 (by decide) ?_
    refine xis (j := 3) (x := (2 : Int32)) hx hb hK hP hS (by omega) (by decide) (ixIn (a := 3) rfl (by first | decide | (simp only [lenOf]; omega) | omega) (by decide)) rfl dX8_init_517 (fun H locs hP hS => ?_)
    rw [show LX8_init_495g (k + 1) M = LX8_init_518g 1 (mU (mU (mU M 127 1 (60 : Int32)) 127 2 (20 : Int32)) 127 3 (2 : Int32)) from (by rw [LX8_init_495g])]
    exact cl_X8_init_518 l D cy b n hn  hx hb hr hlocks hml hown hts hK hX 1 (mU (mU (mU M 127 1 (60 : Int32)) 127 2 (20 : Int32)) 127 3 (2 : Int32)) H locs ls (by rw [mU_row (by decide), mU_row (by decide), mU_row (by decide)]; exact h5) (bxs_putn (by omega) (bxs_putn (by omega) (bxs_putn (by omega) hbx))) (by decide) hP hS (lv_sub hl [0] rfl)
def ptsV : List Int32 := [33, 43, 75, 97]
def keyV : List Int32 := [114, 111, 111, 109, 0, 0, 0, 0, 104, 97, 105, 114, 0, 0, 0, 0, 98, 117, 108, 98, 0, 0, 0, 0, 98, 111, 120, 0, 0, 0, 0, 0, 111, 117, 116, 0, 0, 0, 0, 0, 116, 105, 103, 104, 116, 101, 110, 0, 109, 111, 105, 115, 116, 101, 110, 0, 104, 117, 109, 105, 100, 105, 116, 121, 109, 105, 110, 117, 116, 101, 115, 0]
/-- an array filled, one by one -/
def gFill (o : Nat) (L : List Int32) (M : Mem) : Nat → Mem
  | 0 => M
  | j + 1 => mU (gFill o L M j) o j (L.getD j 0)
theorem gFill_s {o j j1 : Nat} {L : List Int32} {M : Mem} {v : Int32} (h1 : j1 = j + 1) (hv : L.getD j 0 = v) : mU (gFill o L M j) o j v = gFill o L M j1 := by
  subst h1; subst hv; rfl
theorem gFill_ne {o p : Nat} {L : List Int32} {M : Mem} (h : p ≠ o) : ∀ j, gFill o L M j p = M p := by
  intro j
  induction j with
  | zero => rfl
  | succ j ih =>
    show mU (gFill o L M j) o j (L.getD j 0) p = M p
    rw [mU_ne _ _ _ h, ih]
theorem gFill_at {o : Nat} {L : List Int32} {M : Mem} : ∀ (n j : Nat), j < n → gFill o L M n o j = L.getD j 0 := by
  intro n
  induction n with
  | zero => intro j h; omega
  | succ n ih =>
    intro j h
    show mU (gFill o L M n) o n (L.getD n 0) o j = L.getD j 0
    by_cases e : j = n
    · rw [e, mu_same]
    · rw [mU_row e, ih j (by omega)]
theorem gFill_hi {o : Nat} {L : List Int32} {M : Mem} : ∀ (n j : Nat), n ≤ j → gFill o L M n o j = M o j := by
  intro n
  induction n with
  | zero => intro j h; rfl
  | succ n ih =>
    intro j h
    show mU (gFill o L M n) o n (L.getD n 0) o j = M o j
    rw [mU_row (by omega), ih j (by omega)]
def gX8_init (M : Mem) : Mem := LX8_init_495g 1 (mU (gFill 126 keyV (gFill 125 ptsV M 4) 72) 124 14 (-1))
set_option maxHeartbeats 8000000 in
set_option maxRecDepth 100000 in
/-- HygrometerRoomModel() -/
theorem c_X8_init (l : Launch) (D : va_G) (cy : Nat → ClassId) (b : Nat) (M : Mem) (hZ : ∀ p, 125 ≤ p → M p = fun _ => 0) : Met l yX8_init wsX8_init ({ frames := 8, cells := 8, slots := 1520, locals := 190 } : Room) (CPz D cy b 125 (fP fT 124) M [.ref (b + 124)]) (CQv D cy b 133 fT (gX8_init M)) 8 1520 (fr b) := by
  refine Met.ofW (cc := cX8_init) (maxL := 2) (ret := none) (by decide) rfl ?_
  intro p e s m args below meth c s₁ B hml hv
  obtain ⟨rfl, hP, hK, hX, hO, hz⟩ := hv
  have hx := B.exec
  have hb := B.bytes
  have hr := B.returns
  have hts := atoms_spec (ws := wsX8_init) B.pre
  have hown : s.vm.findClass RX8 = some m.cls := findClass_of_methodNamed B.named
  have hlocks := B.notSynchronized
  have hin2 : meth.name = "<init>" := (name_of_methodNamed B.named B.method).1
  have hs0 := hz
  have lk0 := hts (.fieldLink RX8 7 "HygrometerRoomModel" "points" "[I") (by decide +kernel)
  have lk1 := hts (.fieldLink RX8 13 "HygrometerRoomModel" "keys" "[I") (by decide +kernel)
  have lk3 := hts (.fieldLink RX8 16 "HygrometerRoomModel" "now" "[I") (by decide +kernel)
  have lk4 := hts (.fieldLink RX8 19 "HygrometerRoomModel" "aside" "[I") (by decide +kernel)
  have lk5 := hts (.fieldLink RX8 22 "HygrometerRoomModel" "old" "[I") (by decide +kernel)
  have lk7 := hts (.fieldLink RX8 25 "HygrometerRoomModel" "saved" "[I") (by decide +kernel)
  have lk9 := hts (.fieldLink RX8 28 "HygrometerRoomModel" "input" "[B") (by decide +kernel)
  have lk11 := hts (.fieldLink RX8 32 "HygrometerRoomModel" "output" "[B") (by decide +kernel)
  have lk14 := hts (.fieldLink RX8 35 "HygrometerRoomModel" "errorOffset" "I") (by decide +kernel)
  have inc8 : ∀ w ∈ u_ws RX8 TX8 22, w ∈ wsX8_init := by decide +kernel
  have hS : va_S (fr b) s.heap s.heap [] := va_S.rf
  have hl := lv_entry ([.ref (b + 124)]) (n := 2) (Nat.le_of_ble_eq_true rfl)
  rw [lg_entry_eq]
  generalize (lg_sl ([.ref (b + 124)]) ++ List.replicate (2 - (lg_sl ([.ref (b + 124)])).length) Slot.unset).toArray = ls at hl ⊢
  have hl : lv_has ls 2 [(0, .ref (b + 124))] := hl
  refine lv_aload_n hx hb dX8_init_0 rfl (lv_at hl 0 rfl) ?_
  refine W.objInit hx hb hown (hts (.methodLink RX8 1 objectInit) (by decide +kernel)) (hts (.instanceMethod objectInit) (by decide +kernel)) (hts (.code objectInit ⟨#[0xb1]⟩ 1 none) (by decide +kernel)) rfl (by rw [hml]; exact hl.1) rfl dX8_init_1 (Nat.le_of_ble_eq_true rfl) (Nat.le_of_ble_eq_true rfl) ?_
  show W _ _ _ _ _ _ _ _ _ _ _ _ _ _ _ (F0 m 4 ls [])
  refine lv_aload_n hx hb dX8_init_4 rfl (lv_at hl 0 rfl) ?_
  refine lv_iconst (v := 4) hx hb dX8_init_5 (by decide) ?_
  refine xna (n := 125) (t0 := 1) (N := 4) (ty := .int) (atype := .int) (a0 := (4, .inl (fun _ => 0))) hx hb rfl (hts (.arrayClass .int) (by decide +kernel)) hK hP hS hz rfl (fun C h => by cases h) (fun cA => rfl) (by rw [cell11 (by decide), show M 125 = fun _ => 0 from hZ _ (by decide)]; rfl) (by decide) rfl (Nat.le_of_ble_eq_true rfl) (Nat.le_of_ble_eq_true rfl) (Nat.le_of_ble_eq_true rfl) dX8_init_6 (fun H hP hS hz => ?_)
  refine lv_dup hx hb dX8_init_8 rfl ?_
  refine lv_iconst (v := 0) hx hb dX8_init_9 (by decide) ?_
  refine lv_bipush (v := 33) hx hb dX8_init_10 (by decide) ?_
  refine xis (j := 0) (x := 33) (o := 125) hx hb hK hP hS (by omega) (by decide) (ixIn (a := 0) rfl (by decide) (by decide)) rfl dX8_init_12 (fun H locs hP hS => ?_)
  rw [show mU M 125 0 33 = gFill 125 ptsV M 1 from rfl] at hP
  refine lv_dup hx hb dX8_init_13 rfl ?_
  refine lv_iconst (v := 1) hx hb dX8_init_14 (by decide) ?_
  refine lv_bipush (v := 43) hx hb dX8_init_15 (by decide) ?_
  refine xis (j := 1) (x := 43) (o := 125) hx hb hK hP hS (by omega) (by decide) (ixIn (a := 1) rfl (by decide) (by decide)) rfl dX8_init_17 (fun H locs hP hS => ?_)
  rw [gFill_s (j := 1) (j1 := 2) rfl (by decide)] at hP
  refine lv_dup hx hb dX8_init_18 rfl ?_
  refine lv_iconst (v := 2) hx hb dX8_init_19 (by decide) ?_
  refine lv_bipush (v := 75) hx hb dX8_init_20 (by decide) ?_
  refine xis (j := 2) (x := 75) (o := 125) hx hb hK hP hS (by omega) (by decide) (ixIn (a := 2) rfl (by decide) (by decide)) rfl dX8_init_22 (fun H locs hP hS => ?_)
  rw [gFill_s (j := 2) (j1 := 3) rfl (by decide)] at hP
  refine lv_dup hx hb dX8_init_23 rfl ?_
  refine lv_iconst (v := 3) hx hb dX8_init_24 (by decide) ?_
  refine lv_bipush (v := 97) hx hb dX8_init_25 (by decide) ?_
  refine xis (j := 3) (x := 97) (o := 125) hx hb hK hP hS (by omega) (by decide) (ixIn (a := 3) rfl (by decide) (by decide)) rfl dX8_init_27 (fun H locs hP hS => ?_)
  rw [gFill_s (j := 3) (j1 := 4) rfl (by decide)] at hP
  refine xpF (C := RX8) (T := TX8) (N := 22) (ci := 8) (v := .ref (b + 125)) (o := 124) hx hb hts inc8 tyX8 tyX8_ok nmX8 hown hK hP hS (by omega) (fun _ => cell8 (by decide)) rfl 0 (by decide) rfl lk0 (fun _ h => h) rfl hin2 rfl (tyX8_ok 0 (by decide)) rfl rfl (Nat.le_of_ble_eq_true rfl) dX8_init_28 (fun H locs hP hS => ?_)
  refine lv_aload_n hx hb dX8_init_31 rfl (lv_at hl 0 rfl) ?_
  refine lv_bipush (v := 72) hx hb dX8_init_32 (by decide) ?_
  refine xsz hP hs0 rfl (by omega) (fun hz => ?_)
  refine xna (n := 126) (t0 := 1) (N := 72) (ty := .int) (atype := .int) (a0 := (72, .inl (fun _ => 0))) hx hb rfl (hts (.arrayClass .int) (by decide +kernel)) hK hP hS hz rfl (fun C h => by cases h) (fun cA => rfl) (by rw [cell11 (by decide), show (gFill 125 ptsV M 4) 126 = fun _ => 0 from (by rw [gFill_ne (by decide)]; exact hZ _ (by decide))]; rfl) (by decide) rfl (Nat.le_of_ble_eq_true rfl) (Nat.le_of_ble_eq_true rfl) (Nat.le_of_ble_eq_true rfl) dX8_init_34 (fun H hP hS hz => ?_)
  refine lv_dup hx hb dX8_init_36 rfl ?_
  refine lv_iconst (v := 0) hx hb dX8_init_37 (by decide) ?_
  refine lv_bipush (v := 114) hx hb dX8_init_38 (by decide) ?_
  refine xis (j := 0) (x := 114) (o := 126) hx hb hK hP hS (by omega) (by decide) (ixIn (a := 0) rfl (by decide) (by decide)) rfl dX8_init_40 (fun H locs hP hS => ?_)
  rw [show mU (gFill 125 ptsV M 4) 126 0 114 = gFill 126 keyV (gFill 125 ptsV M 4) 1 from rfl] at hP
  refine lv_dup hx hb dX8_init_41 rfl ?_
  refine lv_iconst (v := 1) hx hb dX8_init_42 (by decide) ?_
  refine lv_bipush (v := 111) hx hb dX8_init_43 (by decide) ?_
  refine xis (j := 1) (x := 111) (o := 126) hx hb hK hP hS (by omega) (by decide) (ixIn (a := 1) rfl (by decide) (by decide)) rfl dX8_init_45 (fun H locs hP hS => ?_)
  rw [gFill_s (j := 1) (j1 := 2) rfl (by decide)] at hP
  refine lv_dup hx hb dX8_init_46 rfl ?_
  refine lv_iconst (v := 2) hx hb dX8_init_47 (by decide) ?_
  refine lv_bipush (v := 111) hx hb dX8_init_48 (by decide) ?_
  refine xis (j := 2) (x := 111) (o := 126) hx hb hK hP hS (by omega) (by decide) (ixIn (a := 2) rfl (by decide) (by decide)) rfl dX8_init_50 (fun H locs hP hS => ?_)
  rw [gFill_s (j := 2) (j1 := 3) rfl (by decide)] at hP
  refine lv_dup hx hb dX8_init_51 rfl ?_
  refine lv_iconst (v := 3) hx hb dX8_init_52 (by decide) ?_
  refine lv_bipush (v := 109) hx hb dX8_init_53 (by decide) ?_
  refine xis (j := 3) (x := 109) (o := 126) hx hb hK hP hS (by omega) (by decide) (ixIn (a := 3) rfl (by decide) (by decide)) rfl dX8_init_55 (fun H locs hP hS => ?_)
  rw [gFill_s (j := 3) (j1 := 4) rfl (by decide)] at hP
  refine lv_dup hx hb dX8_init_56 rfl ?_
  refine lv_iconst (v := 4) hx hb dX8_init_57 (by decide) ?_
  refine lv_iconst (v := 0) hx hb dX8_init_58 (by decide) ?_
  refine xis (j := 4) (x := 0) (o := 126) hx hb hK hP hS (by omega) (by decide) (ixIn (a := 4) rfl (by decide) (by decide)) rfl dX8_init_59 (fun H locs hP hS => ?_)
  rw [gFill_s (j := 4) (j1 := 5) rfl (by decide)] at hP
  refine lv_dup hx hb dX8_init_60 rfl ?_
  refine lv_iconst (v := 5) hx hb dX8_init_61 (by decide) ?_
  refine lv_iconst (v := 0) hx hb dX8_init_62 (by decide) ?_
  refine xis (j := 5) (x := 0) (o := 126) hx hb hK hP hS (by omega) (by decide) (ixIn (a := 5) rfl (by decide) (by decide)) rfl dX8_init_63 (fun H locs hP hS => ?_)
  rw [gFill_s (j := 5) (j1 := 6) rfl (by decide)] at hP
  refine lv_dup hx hb dX8_init_64 rfl ?_
  refine lv_bipush (v := 6) hx hb dX8_init_65 (by decide) ?_
  refine lv_iconst (v := 0) hx hb dX8_init_67 (by decide) ?_
  refine xis (j := 6) (x := 0) (o := 126) hx hb hK hP hS (by omega) (by decide) (ixIn (a := 6) rfl (by decide) (by decide)) rfl dX8_init_68 (fun H locs hP hS => ?_)
  rw [gFill_s (j := 6) (j1 := 7) rfl (by decide)] at hP
  refine lv_dup hx hb dX8_init_69 rfl ?_
  refine lv_bipush (v := 7) hx hb dX8_init_70 (by decide) ?_
  refine lv_iconst (v := 0) hx hb dX8_init_72 (by decide) ?_
  refine xis (j := 7) (x := 0) (o := 126) hx hb hK hP hS (by omega) (by decide) (ixIn (a := 7) rfl (by decide) (by decide)) rfl dX8_init_73 (fun H locs hP hS => ?_)
  rw [gFill_s (j := 7) (j1 := 8) rfl (by decide)] at hP
  refine lv_dup hx hb dX8_init_74 rfl ?_
  refine lv_bipush (v := 8) hx hb dX8_init_75 (by decide) ?_
  refine lv_bipush (v := 104) hx hb dX8_init_77 (by decide) ?_
  refine xis (j := 8) (x := 104) (o := 126) hx hb hK hP hS (by omega) (by decide) (ixIn (a := 8) rfl (by decide) (by decide)) rfl dX8_init_79 (fun H locs hP hS => ?_)
  rw [gFill_s (j := 8) (j1 := 9) rfl (by decide)] at hP
  refine lv_dup hx hb dX8_init_80 rfl ?_
  refine lv_bipush (v := 9) hx hb dX8_init_81 (by decide) ?_
  refine lv_bipush (v := 97) hx hb dX8_init_83 (by decide) ?_
  refine xis (j := 9) (x := 97) (o := 126) hx hb hK hP hS (by omega) (by decide) (ixIn (a := 9) rfl (by decide) (by decide)) rfl dX8_init_85 (fun H locs hP hS => ?_)
  rw [gFill_s (j := 9) (j1 := 10) rfl (by decide)] at hP
  refine lv_dup hx hb dX8_init_86 rfl ?_
  refine lv_bipush (v := 10) hx hb dX8_init_87 (by decide) ?_
  refine lv_bipush (v := 105) hx hb dX8_init_89 (by decide) ?_
  refine xis (j := 10) (x := 105) (o := 126) hx hb hK hP hS (by omega) (by decide) (ixIn (a := 10) rfl (by decide) (by decide)) rfl dX8_init_91 (fun H locs hP hS => ?_)
  rw [gFill_s (j := 10) (j1 := 11) rfl (by decide)] at hP
  refine lv_dup hx hb dX8_init_92 rfl ?_
  refine lv_bipush (v := 11) hx hb dX8_init_93 (by decide) ?_
  refine lv_bipush (v := 114) hx hb dX8_init_95 (by decide) ?_
  refine xis (j := 11) (x := 114) (o := 126) hx hb hK hP hS (by omega) (by decide) (ixIn (a := 11) rfl (by decide) (by decide)) rfl dX8_init_97 (fun H locs hP hS => ?_)
  rw [gFill_s (j := 11) (j1 := 12) rfl (by decide)] at hP
  refine lv_dup hx hb dX8_init_98 rfl ?_
  refine lv_bipush (v := 12) hx hb dX8_init_99 (by decide) ?_
  refine lv_iconst (v := 0) hx hb dX8_init_101 (by decide) ?_
  refine xis (j := 12) (x := 0) (o := 126) hx hb hK hP hS (by omega) (by decide) (ixIn (a := 12) rfl (by decide) (by decide)) rfl dX8_init_102 (fun H locs hP hS => ?_)
  rw [gFill_s (j := 12) (j1 := 13) rfl (by decide)] at hP
  refine lv_dup hx hb dX8_init_103 rfl ?_
  refine lv_bipush (v := 13) hx hb dX8_init_104 (by decide) ?_
  refine lv_iconst (v := 0) hx hb dX8_init_106 (by decide) ?_
  refine xis (j := 13) (x := 0) (o := 126) hx hb hK hP hS (by omega) (by decide) (ixIn (a := 13) rfl (by decide) (by decide)) rfl dX8_init_107 (fun H locs hP hS => ?_)
  rw [gFill_s (j := 13) (j1 := 14) rfl (by decide)] at hP
  refine lv_dup hx hb dX8_init_108 rfl ?_
  refine lv_bipush (v := 14) hx hb dX8_init_109 (by decide) ?_
  refine lv_iconst (v := 0) hx hb dX8_init_111 (by decide) ?_
  refine xis (j := 14) (x := 0) (o := 126) hx hb hK hP hS (by omega) (by decide) (ixIn (a := 14) rfl (by decide) (by decide)) rfl dX8_init_112 (fun H locs hP hS => ?_)
  rw [gFill_s (j := 14) (j1 := 15) rfl (by decide)] at hP
  refine lv_dup hx hb dX8_init_113 rfl ?_
  refine lv_bipush (v := 15) hx hb dX8_init_114 (by decide) ?_
  refine lv_iconst (v := 0) hx hb dX8_init_116 (by decide) ?_
  refine xis (j := 15) (x := 0) (o := 126) hx hb hK hP hS (by omega) (by decide) (ixIn (a := 15) rfl (by decide) (by decide)) rfl dX8_init_117 (fun H locs hP hS => ?_)
  rw [gFill_s (j := 15) (j1 := 16) rfl (by decide)] at hP
  refine lv_dup hx hb dX8_init_118 rfl ?_
  refine lv_bipush (v := 16) hx hb dX8_init_119 (by decide) ?_
  refine lv_bipush (v := 98) hx hb dX8_init_121 (by decide) ?_
  refine xis (j := 16) (x := 98) (o := 126) hx hb hK hP hS (by omega) (by decide) (ixIn (a := 16) rfl (by decide) (by decide)) rfl dX8_init_123 (fun H locs hP hS => ?_)
  rw [gFill_s (j := 16) (j1 := 17) rfl (by decide)] at hP
  refine lv_dup hx hb dX8_init_124 rfl ?_
  refine lv_bipush (v := 17) hx hb dX8_init_125 (by decide) ?_
  refine lv_bipush (v := 117) hx hb dX8_init_127 (by decide) ?_
  refine xis (j := 17) (x := 117) (o := 126) hx hb hK hP hS (by omega) (by decide) (ixIn (a := 17) rfl (by decide) (by decide)) rfl dX8_init_129 (fun H locs hP hS => ?_)
  rw [gFill_s (j := 17) (j1 := 18) rfl (by decide)] at hP
  refine lv_dup hx hb dX8_init_130 rfl ?_
  refine lv_bipush (v := 18) hx hb dX8_init_131 (by decide) ?_
  refine lv_bipush (v := 108) hx hb dX8_init_133 (by decide) ?_
  refine xis (j := 18) (x := 108) (o := 126) hx hb hK hP hS (by omega) (by decide) (ixIn (a := 18) rfl (by decide) (by decide)) rfl dX8_init_135 (fun H locs hP hS => ?_)
  rw [gFill_s (j := 18) (j1 := 19) rfl (by decide)] at hP
  refine lv_dup hx hb dX8_init_136 rfl ?_
  refine lv_bipush (v := 19) hx hb dX8_init_137 (by decide) ?_
  refine lv_bipush (v := 98) hx hb dX8_init_139 (by decide) ?_
  refine xis (j := 19) (x := 98) (o := 126) hx hb hK hP hS (by omega) (by decide) (ixIn (a := 19) rfl (by decide) (by decide)) rfl dX8_init_141 (fun H locs hP hS => ?_)
  rw [gFill_s (j := 19) (j1 := 20) rfl (by decide)] at hP
  refine lv_dup hx hb dX8_init_142 rfl ?_
  refine lv_bipush (v := 20) hx hb dX8_init_143 (by decide) ?_
  refine lv_iconst (v := 0) hx hb dX8_init_145 (by decide) ?_
  refine xis (j := 20) (x := 0) (o := 126) hx hb hK hP hS (by omega) (by decide) (ixIn (a := 20) rfl (by decide) (by decide)) rfl dX8_init_146 (fun H locs hP hS => ?_)
  rw [gFill_s (j := 20) (j1 := 21) rfl (by decide)] at hP
  refine lv_dup hx hb dX8_init_147 rfl ?_
  refine lv_bipush (v := 21) hx hb dX8_init_148 (by decide) ?_
  refine lv_iconst (v := 0) hx hb dX8_init_150 (by decide) ?_
  refine xis (j := 21) (x := 0) (o := 126) hx hb hK hP hS (by omega) (by decide) (ixIn (a := 21) rfl (by decide) (by decide)) rfl dX8_init_151 (fun H locs hP hS => ?_)
  rw [gFill_s (j := 21) (j1 := 22) rfl (by decide)] at hP
  refine lv_dup hx hb dX8_init_152 rfl ?_
  refine lv_bipush (v := 22) hx hb dX8_init_153 (by decide) ?_
  refine lv_iconst (v := 0) hx hb dX8_init_155 (by decide) ?_
  refine xis (j := 22) (x := 0) (o := 126) hx hb hK hP hS (by omega) (by decide) (ixIn (a := 22) rfl (by decide) (by decide)) rfl dX8_init_156 (fun H locs hP hS => ?_)
  rw [gFill_s (j := 22) (j1 := 23) rfl (by decide)] at hP
  refine lv_dup hx hb dX8_init_157 rfl ?_
  refine lv_bipush (v := 23) hx hb dX8_init_158 (by decide) ?_
  refine lv_iconst (v := 0) hx hb dX8_init_160 (by decide) ?_
  refine xis (j := 23) (x := 0) (o := 126) hx hb hK hP hS (by omega) (by decide) (ixIn (a := 23) rfl (by decide) (by decide)) rfl dX8_init_161 (fun H locs hP hS => ?_)
  rw [gFill_s (j := 23) (j1 := 24) rfl (by decide)] at hP
  refine lv_dup hx hb dX8_init_162 rfl ?_
  refine lv_bipush (v := 24) hx hb dX8_init_163 (by decide) ?_
  refine lv_bipush (v := 98) hx hb dX8_init_165 (by decide) ?_
  refine xis (j := 24) (x := 98) (o := 126) hx hb hK hP hS (by omega) (by decide) (ixIn (a := 24) rfl (by decide) (by decide)) rfl dX8_init_167 (fun H locs hP hS => ?_)
  rw [gFill_s (j := 24) (j1 := 25) rfl (by decide)] at hP
  refine lv_dup hx hb dX8_init_168 rfl ?_
  refine lv_bipush (v := 25) hx hb dX8_init_169 (by decide) ?_
  refine lv_bipush (v := 111) hx hb dX8_init_171 (by decide) ?_
  refine xis (j := 25) (x := 111) (o := 126) hx hb hK hP hS (by omega) (by decide) (ixIn (a := 25) rfl (by decide) (by decide)) rfl dX8_init_173 (fun H locs hP hS => ?_)
  rw [gFill_s (j := 25) (j1 := 26) rfl (by decide)] at hP
  refine lv_dup hx hb dX8_init_174 rfl ?_
  refine lv_bipush (v := 26) hx hb dX8_init_175 (by decide) ?_
  refine lv_bipush (v := 120) hx hb dX8_init_177 (by decide) ?_
  refine xis (j := 26) (x := 120) (o := 126) hx hb hK hP hS (by omega) (by decide) (ixIn (a := 26) rfl (by decide) (by decide)) rfl dX8_init_179 (fun H locs hP hS => ?_)
  rw [gFill_s (j := 26) (j1 := 27) rfl (by decide)] at hP
  refine lv_dup hx hb dX8_init_180 rfl ?_
  refine lv_bipush (v := 27) hx hb dX8_init_181 (by decide) ?_
  refine lv_iconst (v := 0) hx hb dX8_init_183 (by decide) ?_
  refine xis (j := 27) (x := 0) (o := 126) hx hb hK hP hS (by omega) (by decide) (ixIn (a := 27) rfl (by decide) (by decide)) rfl dX8_init_184 (fun H locs hP hS => ?_)
  rw [gFill_s (j := 27) (j1 := 28) rfl (by decide)] at hP
  refine lv_dup hx hb dX8_init_185 rfl ?_
  refine lv_bipush (v := 28) hx hb dX8_init_186 (by decide) ?_
  refine lv_iconst (v := 0) hx hb dX8_init_188 (by decide) ?_
  refine xis (j := 28) (x := 0) (o := 126) hx hb hK hP hS (by omega) (by decide) (ixIn (a := 28) rfl (by decide) (by decide)) rfl dX8_init_189 (fun H locs hP hS => ?_)
  rw [gFill_s (j := 28) (j1 := 29) rfl (by decide)] at hP
  refine lv_dup hx hb dX8_init_190 rfl ?_
  refine lv_bipush (v := 29) hx hb dX8_init_191 (by decide) ?_
  refine lv_iconst (v := 0) hx hb dX8_init_193 (by decide) ?_
  refine xis (j := 29) (x := 0) (o := 126) hx hb hK hP hS (by omega) (by decide) (ixIn (a := 29) rfl (by decide) (by decide)) rfl dX8_init_194 (fun H locs hP hS => ?_)
  rw [gFill_s (j := 29) (j1 := 30) rfl (by decide)] at hP
  refine lv_dup hx hb dX8_init_195 rfl ?_
  refine lv_bipush (v := 30) hx hb dX8_init_196 (by decide) ?_
  refine lv_iconst (v := 0) hx hb dX8_init_198 (by decide) ?_
  refine xis (j := 30) (x := 0) (o := 126) hx hb hK hP hS (by omega) (by decide) (ixIn (a := 30) rfl (by decide) (by decide)) rfl dX8_init_199 (fun H locs hP hS => ?_)
  rw [gFill_s (j := 30) (j1 := 31) rfl (by decide)] at hP
  refine lv_dup hx hb dX8_init_200 rfl ?_
  refine lv_bipush (v := 31) hx hb dX8_init_201 (by decide) ?_
  refine lv_iconst (v := 0) hx hb dX8_init_203 (by decide) ?_
  refine xis (j := 31) (x := 0) (o := 126) hx hb hK hP hS (by omega) (by decide) (ixIn (a := 31) rfl (by decide) (by decide)) rfl dX8_init_204 (fun H locs hP hS => ?_)
  rw [gFill_s (j := 31) (j1 := 32) rfl (by decide)] at hP
  refine lv_dup hx hb dX8_init_205 rfl ?_
  refine lv_bipush (v := 32) hx hb dX8_init_206 (by decide) ?_
  refine lv_bipush (v := 111) hx hb dX8_init_208 (by decide) ?_
  refine xis (j := 32) (x := 111) (o := 126) hx hb hK hP hS (by omega) (by decide) (ixIn (a := 32) rfl (by decide) (by decide)) rfl dX8_init_210 (fun H locs hP hS => ?_)
  rw [gFill_s (j := 32) (j1 := 33) rfl (by decide)] at hP
  refine lv_dup hx hb dX8_init_211 rfl ?_
  refine lv_bipush (v := 33) hx hb dX8_init_212 (by decide) ?_
  refine lv_bipush (v := 117) hx hb dX8_init_214 (by decide) ?_
  refine xis (j := 33) (x := 117) (o := 126) hx hb hK hP hS (by omega) (by decide) (ixIn (a := 33) rfl (by decide) (by decide)) rfl dX8_init_216 (fun H locs hP hS => ?_)
  rw [gFill_s (j := 33) (j1 := 34) rfl (by decide)] at hP
  refine lv_dup hx hb dX8_init_217 rfl ?_
  refine lv_bipush (v := 34) hx hb dX8_init_218 (by decide) ?_
  refine lv_bipush (v := 116) hx hb dX8_init_220 (by decide) ?_
  refine xis (j := 34) (x := 116) (o := 126) hx hb hK hP hS (by omega) (by decide) (ixIn (a := 34) rfl (by decide) (by decide)) rfl dX8_init_222 (fun H locs hP hS => ?_)
  rw [gFill_s (j := 34) (j1 := 35) rfl (by decide)] at hP
  refine lv_dup hx hb dX8_init_223 rfl ?_
  refine lv_bipush (v := 35) hx hb dX8_init_224 (by decide) ?_
  refine lv_iconst (v := 0) hx hb dX8_init_226 (by decide) ?_
  refine xis (j := 35) (x := 0) (o := 126) hx hb hK hP hS (by omega) (by decide) (ixIn (a := 35) rfl (by decide) (by decide)) rfl dX8_init_227 (fun H locs hP hS => ?_)
  rw [gFill_s (j := 35) (j1 := 36) rfl (by decide)] at hP
  refine lv_dup hx hb dX8_init_228 rfl ?_
  refine lv_bipush (v := 36) hx hb dX8_init_229 (by decide) ?_
  refine lv_iconst (v := 0) hx hb dX8_init_231 (by decide) ?_
  refine xis (j := 36) (x := 0) (o := 126) hx hb hK hP hS (by omega) (by decide) (ixIn (a := 36) rfl (by decide) (by decide)) rfl dX8_init_232 (fun H locs hP hS => ?_)
  rw [gFill_s (j := 36) (j1 := 37) rfl (by decide)] at hP
  refine lv_dup hx hb dX8_init_233 rfl ?_
  refine lv_bipush (v := 37) hx hb dX8_init_234 (by decide) ?_
  refine lv_iconst (v := 0) hx hb dX8_init_236 (by decide) ?_
  refine xis (j := 37) (x := 0) (o := 126) hx hb hK hP hS (by omega) (by decide) (ixIn (a := 37) rfl (by decide) (by decide)) rfl dX8_init_237 (fun H locs hP hS => ?_)
  rw [gFill_s (j := 37) (j1 := 38) rfl (by decide)] at hP
  refine lv_dup hx hb dX8_init_238 rfl ?_
  refine lv_bipush (v := 38) hx hb dX8_init_239 (by decide) ?_
  refine lv_iconst (v := 0) hx hb dX8_init_241 (by decide) ?_
  refine xis (j := 38) (x := 0) (o := 126) hx hb hK hP hS (by omega) (by decide) (ixIn (a := 38) rfl (by decide) (by decide)) rfl dX8_init_242 (fun H locs hP hS => ?_)
  rw [gFill_s (j := 38) (j1 := 39) rfl (by decide)] at hP
  refine lv_dup hx hb dX8_init_243 rfl ?_
  refine lv_bipush (v := 39) hx hb dX8_init_244 (by decide) ?_
  refine lv_iconst (v := 0) hx hb dX8_init_246 (by decide) ?_
  refine xis (j := 39) (x := 0) (o := 126) hx hb hK hP hS (by omega) (by decide) (ixIn (a := 39) rfl (by decide) (by decide)) rfl dX8_init_247 (fun H locs hP hS => ?_)
  rw [gFill_s (j := 39) (j1 := 40) rfl (by decide)] at hP
  refine lv_dup hx hb dX8_init_248 rfl ?_
  refine lv_bipush (v := 40) hx hb dX8_init_249 (by decide) ?_
  refine lv_bipush (v := 116) hx hb dX8_init_251 (by decide) ?_
  refine xis (j := 40) (x := 116) (o := 126) hx hb hK hP hS (by omega) (by decide) (ixIn (a := 40) rfl (by decide) (by decide)) rfl dX8_init_253 (fun H locs hP hS => ?_)
  rw [gFill_s (j := 40) (j1 := 41) rfl (by decide)] at hP
  refine lv_dup hx hb dX8_init_254 rfl ?_
  refine lv_bipush (v := 41) hx hb dX8_init_255 (by decide) ?_
  refine lv_bipush (v := 105) hx hb dX8_init_257 (by decide) ?_
  refine xis (j := 41) (x := 105) (o := 126) hx hb hK hP hS (by omega) (by decide) (ixIn (a := 41) rfl (by decide) (by decide)) rfl dX8_init_259 (fun H locs hP hS => ?_)
  rw [gFill_s (j := 41) (j1 := 42) rfl (by decide)] at hP
  refine lv_dup hx hb dX8_init_260 rfl ?_
  refine lv_bipush (v := 42) hx hb dX8_init_261 (by decide) ?_
  refine lv_bipush (v := 103) hx hb dX8_init_263 (by decide) ?_
  refine xis (j := 42) (x := 103) (o := 126) hx hb hK hP hS (by omega) (by decide) (ixIn (a := 42) rfl (by decide) (by decide)) rfl dX8_init_265 (fun H locs hP hS => ?_)
  rw [gFill_s (j := 42) (j1 := 43) rfl (by decide)] at hP
  refine lv_dup hx hb dX8_init_266 rfl ?_
  refine lv_bipush (v := 43) hx hb dX8_init_267 (by decide) ?_
  refine lv_bipush (v := 104) hx hb dX8_init_269 (by decide) ?_
  refine xis (j := 43) (x := 104) (o := 126) hx hb hK hP hS (by omega) (by decide) (ixIn (a := 43) rfl (by decide) (by decide)) rfl dX8_init_271 (fun H locs hP hS => ?_)
  rw [gFill_s (j := 43) (j1 := 44) rfl (by decide)] at hP
  refine lv_dup hx hb dX8_init_272 rfl ?_
  refine lv_bipush (v := 44) hx hb dX8_init_273 (by decide) ?_
  refine lv_bipush (v := 116) hx hb dX8_init_275 (by decide) ?_
  refine xis (j := 44) (x := 116) (o := 126) hx hb hK hP hS (by omega) (by decide) (ixIn (a := 44) rfl (by decide) (by decide)) rfl dX8_init_277 (fun H locs hP hS => ?_)
  rw [gFill_s (j := 44) (j1 := 45) rfl (by decide)] at hP
  refine lv_dup hx hb dX8_init_278 rfl ?_
  refine lv_bipush (v := 45) hx hb dX8_init_279 (by decide) ?_
  refine lv_bipush (v := 101) hx hb dX8_init_281 (by decide) ?_
  refine xis (j := 45) (x := 101) (o := 126) hx hb hK hP hS (by omega) (by decide) (ixIn (a := 45) rfl (by decide) (by decide)) rfl dX8_init_283 (fun H locs hP hS => ?_)
  rw [gFill_s (j := 45) (j1 := 46) rfl (by decide)] at hP
  refine lv_dup hx hb dX8_init_284 rfl ?_
  refine lv_bipush (v := 46) hx hb dX8_init_285 (by decide) ?_
  refine lv_bipush (v := 110) hx hb dX8_init_287 (by decide) ?_
  refine xis (j := 46) (x := 110) (o := 126) hx hb hK hP hS (by omega) (by decide) (ixIn (a := 46) rfl (by decide) (by decide)) rfl dX8_init_289 (fun H locs hP hS => ?_)
  rw [gFill_s (j := 46) (j1 := 47) rfl (by decide)] at hP
  refine lv_dup hx hb dX8_init_290 rfl ?_
  refine lv_bipush (v := 47) hx hb dX8_init_291 (by decide) ?_
  refine lv_iconst (v := 0) hx hb dX8_init_293 (by decide) ?_
  refine xis (j := 47) (x := 0) (o := 126) hx hb hK hP hS (by omega) (by decide) (ixIn (a := 47) rfl (by decide) (by decide)) rfl dX8_init_294 (fun H locs hP hS => ?_)
  rw [gFill_s (j := 47) (j1 := 48) rfl (by decide)] at hP
  refine lv_dup hx hb dX8_init_295 rfl ?_
  refine lv_bipush (v := 48) hx hb dX8_init_296 (by decide) ?_
  refine lv_bipush (v := 109) hx hb dX8_init_298 (by decide) ?_
  refine xis (j := 48) (x := 109) (o := 126) hx hb hK hP hS (by omega) (by decide) (ixIn (a := 48) rfl (by decide) (by decide)) rfl dX8_init_300 (fun H locs hP hS => ?_)
  rw [gFill_s (j := 48) (j1 := 49) rfl (by decide)] at hP
  refine lv_dup hx hb dX8_init_301 rfl ?_
  refine lv_bipush (v := 49) hx hb dX8_init_302 (by decide) ?_
  refine lv_bipush (v := 111) hx hb dX8_init_304 (by decide) ?_
  refine xis (j := 49) (x := 111) (o := 126) hx hb hK hP hS (by omega) (by decide) (ixIn (a := 49) rfl (by decide) (by decide)) rfl dX8_init_306 (fun H locs hP hS => ?_)
  rw [gFill_s (j := 49) (j1 := 50) rfl (by decide)] at hP
  refine lv_dup hx hb dX8_init_307 rfl ?_
  refine lv_bipush (v := 50) hx hb dX8_init_308 (by decide) ?_
  refine lv_bipush (v := 105) hx hb dX8_init_310 (by decide) ?_
  refine xis (j := 50) (x := 105) (o := 126) hx hb hK hP hS (by omega) (by decide) (ixIn (a := 50) rfl (by decide) (by decide)) rfl dX8_init_312 (fun H locs hP hS => ?_)
  rw [gFill_s (j := 50) (j1 := 51) rfl (by decide)] at hP
  refine lv_dup hx hb dX8_init_313 rfl ?_
  refine lv_bipush (v := 51) hx hb dX8_init_314 (by decide) ?_
  refine lv_bipush (v := 115) hx hb dX8_init_316 (by decide) ?_
  refine xis (j := 51) (x := 115) (o := 126) hx hb hK hP hS (by omega) (by decide) (ixIn (a := 51) rfl (by decide) (by decide)) rfl dX8_init_318 (fun H locs hP hS => ?_)
  rw [gFill_s (j := 51) (j1 := 52) rfl (by decide)] at hP
  refine lv_dup hx hb dX8_init_319 rfl ?_
  refine lv_bipush (v := 52) hx hb dX8_init_320 (by decide) ?_
  refine lv_bipush (v := 116) hx hb dX8_init_322 (by decide) ?_
  refine xis (j := 52) (x := 116) (o := 126) hx hb hK hP hS (by omega) (by decide) (ixIn (a := 52) rfl (by decide) (by decide)) rfl dX8_init_324 (fun H locs hP hS => ?_)
  rw [gFill_s (j := 52) (j1 := 53) rfl (by decide)] at hP
  refine lv_dup hx hb dX8_init_325 rfl ?_
  refine lv_bipush (v := 53) hx hb dX8_init_326 (by decide) ?_
  refine lv_bipush (v := 101) hx hb dX8_init_328 (by decide) ?_
  refine xis (j := 53) (x := 101) (o := 126) hx hb hK hP hS (by omega) (by decide) (ixIn (a := 53) rfl (by decide) (by decide)) rfl dX8_init_330 (fun H locs hP hS => ?_)
  rw [gFill_s (j := 53) (j1 := 54) rfl (by decide)] at hP
  refine lv_dup hx hb dX8_init_331 rfl ?_
  refine lv_bipush (v := 54) hx hb dX8_init_332 (by decide) ?_
  refine lv_bipush (v := 110) hx hb dX8_init_334 (by decide) ?_
  refine xis (j := 54) (x := 110) (o := 126) hx hb hK hP hS (by omega) (by decide) (ixIn (a := 54) rfl (by decide) (by decide)) rfl dX8_init_336 (fun H locs hP hS => ?_)
  rw [gFill_s (j := 54) (j1 := 55) rfl (by decide)] at hP
  refine lv_dup hx hb dX8_init_337 rfl ?_
  refine lv_bipush (v := 55) hx hb dX8_init_338 (by decide) ?_
  refine lv_iconst (v := 0) hx hb dX8_init_340 (by decide) ?_
  refine xis (j := 55) (x := 0) (o := 126) hx hb hK hP hS (by omega) (by decide) (ixIn (a := 55) rfl (by decide) (by decide)) rfl dX8_init_341 (fun H locs hP hS => ?_)
  rw [gFill_s (j := 55) (j1 := 56) rfl (by decide)] at hP
  refine lv_dup hx hb dX8_init_342 rfl ?_
  refine lv_bipush (v := 56) hx hb dX8_init_343 (by decide) ?_
  refine lv_bipush (v := 104) hx hb dX8_init_345 (by decide) ?_
  refine xis (j := 56) (x := 104) (o := 126) hx hb hK hP hS (by omega) (by decide) (ixIn (a := 56) rfl (by decide) (by decide)) rfl dX8_init_347 (fun H locs hP hS => ?_)
  rw [gFill_s (j := 56) (j1 := 57) rfl (by decide)] at hP
  refine lv_dup hx hb dX8_init_348 rfl ?_
  refine lv_bipush (v := 57) hx hb dX8_init_349 (by decide) ?_
  refine lv_bipush (v := 117) hx hb dX8_init_351 (by decide) ?_
  refine xis (j := 57) (x := 117) (o := 126) hx hb hK hP hS (by omega) (by decide) (ixIn (a := 57) rfl (by decide) (by decide)) rfl dX8_init_353 (fun H locs hP hS => ?_)
  rw [gFill_s (j := 57) (j1 := 58) rfl (by decide)] at hP
  refine lv_dup hx hb dX8_init_354 rfl ?_
  refine lv_bipush (v := 58) hx hb dX8_init_355 (by decide) ?_
  refine lv_bipush (v := 109) hx hb dX8_init_357 (by decide) ?_
  refine xis (j := 58) (x := 109) (o := 126) hx hb hK hP hS (by omega) (by decide) (ixIn (a := 58) rfl (by decide) (by decide)) rfl dX8_init_359 (fun H locs hP hS => ?_)
  rw [gFill_s (j := 58) (j1 := 59) rfl (by decide)] at hP
  refine lv_dup hx hb dX8_init_360 rfl ?_
  refine lv_bipush (v := 59) hx hb dX8_init_361 (by decide) ?_
  refine lv_bipush (v := 105) hx hb dX8_init_363 (by decide) ?_
  refine xis (j := 59) (x := 105) (o := 126) hx hb hK hP hS (by omega) (by decide) (ixIn (a := 59) rfl (by decide) (by decide)) rfl dX8_init_365 (fun H locs hP hS => ?_)
  rw [gFill_s (j := 59) (j1 := 60) rfl (by decide)] at hP
  refine lv_dup hx hb dX8_init_366 rfl ?_
  refine lv_bipush (v := 60) hx hb dX8_init_367 (by decide) ?_
  refine lv_bipush (v := 100) hx hb dX8_init_369 (by decide) ?_
  refine xis (j := 60) (x := 100) (o := 126) hx hb hK hP hS (by omega) (by decide) (ixIn (a := 60) rfl (by decide) (by decide)) rfl dX8_init_371 (fun H locs hP hS => ?_)
  rw [gFill_s (j := 60) (j1 := 61) rfl (by decide)] at hP
  refine lv_dup hx hb dX8_init_372 rfl ?_
  refine lv_bipush (v := 61) hx hb dX8_init_373 (by decide) ?_
  refine lv_bipush (v := 105) hx hb dX8_init_375 (by decide) ?_
  refine xis (j := 61) (x := 105) (o := 126) hx hb hK hP hS (by omega) (by decide) (ixIn (a := 61) rfl (by decide) (by decide)) rfl dX8_init_377 (fun H locs hP hS => ?_)
  rw [gFill_s (j := 61) (j1 := 62) rfl (by decide)] at hP
  refine lv_dup hx hb dX8_init_378 rfl ?_
  refine lv_bipush (v := 62) hx hb dX8_init_379 (by decide) ?_
  refine lv_bipush (v := 116) hx hb dX8_init_381 (by decide) ?_
  refine xis (j := 62) (x := 116) (o := 126) hx hb hK hP hS (by omega) (by decide) (ixIn (a := 62) rfl (by decide) (by decide)) rfl dX8_init_383 (fun H locs hP hS => ?_)
  rw [gFill_s (j := 62) (j1 := 63) rfl (by decide)] at hP
  refine lv_dup hx hb dX8_init_384 rfl ?_
  refine lv_bipush (v := 63) hx hb dX8_init_385 (by decide) ?_
  refine lv_bipush (v := 121) hx hb dX8_init_387 (by decide) ?_
  refine xis (j := 63) (x := 121) (o := 126) hx hb hK hP hS (by omega) (by decide) (ixIn (a := 63) rfl (by decide) (by decide)) rfl dX8_init_389 (fun H locs hP hS => ?_)
  rw [gFill_s (j := 63) (j1 := 64) rfl (by decide)] at hP
  refine lv_dup hx hb dX8_init_390 rfl ?_
  refine lv_bipush (v := 64) hx hb dX8_init_391 (by decide) ?_
  refine lv_bipush (v := 109) hx hb dX8_init_393 (by decide) ?_
  refine xis (j := 64) (x := 109) (o := 126) hx hb hK hP hS (by omega) (by decide) (ixIn (a := 64) rfl (by decide) (by decide)) rfl dX8_init_395 (fun H locs hP hS => ?_)
  rw [gFill_s (j := 64) (j1 := 65) rfl (by decide)] at hP
  refine lv_dup hx hb dX8_init_396 rfl ?_
  refine lv_bipush (v := 65) hx hb dX8_init_397 (by decide) ?_
  refine lv_bipush (v := 105) hx hb dX8_init_399 (by decide) ?_
  refine xis (j := 65) (x := 105) (o := 126) hx hb hK hP hS (by omega) (by decide) (ixIn (a := 65) rfl (by decide) (by decide)) rfl dX8_init_401 (fun H locs hP hS => ?_)
  rw [gFill_s (j := 65) (j1 := 66) rfl (by decide)] at hP
  refine lv_dup hx hb dX8_init_402 rfl ?_
  refine lv_bipush (v := 66) hx hb dX8_init_403 (by decide) ?_
  refine lv_bipush (v := 110) hx hb dX8_init_405 (by decide) ?_
  refine xis (j := 66) (x := 110) (o := 126) hx hb hK hP hS (by omega) (by decide) (ixIn (a := 66) rfl (by decide) (by decide)) rfl dX8_init_407 (fun H locs hP hS => ?_)
  rw [gFill_s (j := 66) (j1 := 67) rfl (by decide)] at hP
  refine lv_dup hx hb dX8_init_408 rfl ?_
  refine lv_bipush (v := 67) hx hb dX8_init_409 (by decide) ?_
  refine lv_bipush (v := 117) hx hb dX8_init_411 (by decide) ?_
  refine xis (j := 67) (x := 117) (o := 126) hx hb hK hP hS (by omega) (by decide) (ixIn (a := 67) rfl (by decide) (by decide)) rfl dX8_init_413 (fun H locs hP hS => ?_)
  rw [gFill_s (j := 67) (j1 := 68) rfl (by decide)] at hP
  refine lv_dup hx hb dX8_init_414 rfl ?_
  refine lv_bipush (v := 68) hx hb dX8_init_415 (by decide) ?_
  refine lv_bipush (v := 116) hx hb dX8_init_417 (by decide) ?_
  refine xis (j := 68) (x := 116) (o := 126) hx hb hK hP hS (by omega) (by decide) (ixIn (a := 68) rfl (by decide) (by decide)) rfl dX8_init_419 (fun H locs hP hS => ?_)
  rw [gFill_s (j := 68) (j1 := 69) rfl (by decide)] at hP
  refine lv_dup hx hb dX8_init_420 rfl ?_
  refine lv_bipush (v := 69) hx hb dX8_init_421 (by decide) ?_
  refine lv_bipush (v := 101) hx hb dX8_init_423 (by decide) ?_
  refine xis (j := 69) (x := 101) (o := 126) hx hb hK hP hS (by omega) (by decide) (ixIn (a := 69) rfl (by decide) (by decide)) rfl dX8_init_425 (fun H locs hP hS => ?_)
  rw [gFill_s (j := 69) (j1 := 70) rfl (by decide)] at hP
  refine lv_dup hx hb dX8_init_426 rfl ?_
  refine lv_bipush (v := 70) hx hb dX8_init_427 (by decide) ?_
  refine lv_bipush (v := 115) hx hb dX8_init_429 (by decide) ?_
  refine xis (j := 70) (x := 115) (o := 126) hx hb hK hP hS (by omega) (by decide) (ixIn (a := 70) rfl (by decide) (by decide)) rfl dX8_init_431 (fun H locs hP hS => ?_)
  rw [gFill_s (j := 70) (j1 := 71) rfl (by decide)] at hP
  refine lv_dup hx hb dX8_init_432 rfl ?_
  refine lv_bipush (v := 71) hx hb dX8_init_433 (by decide) ?_
  refine lv_iconst (v := 0) hx hb dX8_init_435 (by decide) ?_
  refine xis (j := 71) (x := 0) (o := 126) hx hb hK hP hS (by omega) (by decide) (ixIn (a := 71) rfl (by decide) (by decide)) rfl dX8_init_436 (fun H locs hP hS => ?_)
  rw [gFill_s (j := 71) (j1 := 72) rfl (by decide)] at hP
  refine xpF (C := RX8) (T := TX8) (N := 22) (ci := 8) (v := .ref (b + 126)) (o := 124) hx hb hts inc8 tyX8 tyX8_ok nmX8 hown hK hP hS (by omega) (fun _ => cell8 (by decide)) rfl 1 (by decide) rfl lk1 (fun _ h => h) rfl hin2 rfl (tyX8_ok 1 (by decide)) rfl rfl (Nat.le_of_ble_eq_true rfl) dX8_init_437 (fun H locs hP hS => ?_)
  refine lv_aload_n hx hb dX8_init_440 rfl (lv_at hl 0 rfl) ?_
  refine lv_bipush (v := 56) hx hb dX8_init_441 (by decide) ?_
  refine xsz hP hs0 rfl (by omega) (fun hz => ?_)
  refine xna (n := 127) (t0 := 1) (N := 56) (ty := .int) (atype := .int) (a0 := (56, .inl (fun _ => 0))) hx hb rfl (hts (.arrayClass .int) (by decide +kernel)) hK hP hS hz rfl (fun C h => by cases h) (fun cA => rfl) (by rw [cell11 (by decide), show (gFill 126 keyV (gFill 125 ptsV M 4) 72) 127 = fun _ => 0 from (by rw [gFill_ne (by decide), gFill_ne (by decide)]; exact hZ _ (by decide))]; rfl) (by decide) rfl (Nat.le_of_ble_eq_true rfl) (Nat.le_of_ble_eq_true rfl) (Nat.le_of_ble_eq_true rfl) dX8_init_443 (fun H hP hS hz => ?_)
  refine xpF (C := RX8) (T := TX8) (N := 22) (ci := 8) (v := .ref (b + 127)) (o := 124) hx hb hts inc8 tyX8 tyX8_ok nmX8 hown hK hP hS (by omega) (fun _ => cell8 (by decide)) rfl 3 (by decide) rfl lk3 (fun _ h => h) rfl hin2 rfl (tyX8_ok 3 (by decide)) rfl rfl (Nat.le_of_ble_eq_true rfl) dX8_init_445 (fun H locs hP hS => ?_)
  refine lv_aload_n hx hb dX8_init_448 rfl (lv_at hl 0 rfl) ?_
  refine lv_bipush (v := 56) hx hb dX8_init_449 (by decide) ?_
  refine xsz hP hs0 rfl (by omega) (fun hz => ?_)
  refine xna (n := 128) (t0 := 1) (N := 56) (ty := .int) (atype := .int) (a0 := (56, .inl (fun _ => 0))) hx hb rfl (hts (.arrayClass .int) (by decide +kernel)) hK hP hS hz rfl (fun C h => by cases h) (fun cA => rfl) (by rw [cell11 (by decide), show (gFill 126 keyV (gFill 125 ptsV M 4) 72) 128 = fun _ => 0 from (by rw [gFill_ne (by decide), gFill_ne (by decide)]; exact hZ _ (by decide))]; rfl) (by decide) rfl (Nat.le_of_ble_eq_true rfl) (Nat.le_of_ble_eq_true rfl) (Nat.le_of_ble_eq_true rfl) dX8_init_451 (fun H hP hS hz => ?_)
  refine xpF (C := RX8) (T := TX8) (N := 22) (ci := 8) (v := .ref (b + 128)) (o := 124) hx hb hts inc8 tyX8 tyX8_ok nmX8 hown hK hP hS (by omega) (fun _ => cell8 (by decide)) rfl 4 (by decide) rfl lk4 (fun _ h => h) rfl hin2 rfl (tyX8_ok 4 (by decide)) rfl rfl (Nat.le_of_ble_eq_true rfl) dX8_init_453 (fun H locs hP hS => ?_)
  refine lv_aload_n hx hb dX8_init_456 rfl (lv_at hl 0 rfl) ?_
  refine lv_sipush (v := 560) hx hb dX8_init_457 (by decide) ?_
  refine xsz hP hs0 rfl (by omega) (fun hz => ?_)
  refine xna (n := 129) (t0 := 1) (N := 560) (ty := .int) (atype := .int) (a0 := (560, .inl (fun _ => 0))) hx hb rfl (hts (.arrayClass .int) (by decide +kernel)) hK hP hS hz rfl (fun C h => by cases h) (fun cA => rfl) (by rw [cell11 (by decide), show (gFill 126 keyV (gFill 125 ptsV M 4) 72) 129 = fun _ => 0 from (by rw [gFill_ne (by decide), gFill_ne (by decide)]; exact hZ _ (by decide))]; rfl) (by decide) rfl (Nat.le_of_ble_eq_true rfl) (Nat.le_of_ble_eq_true rfl) (Nat.le_of_ble_eq_true rfl) dX8_init_460 (fun H hP hS hz => ?_)
  refine xpF (C := RX8) (T := TX8) (N := 22) (ci := 8) (v := .ref (b + 129)) (o := 124) hx hb hts inc8 tyX8 tyX8_ok nmX8 hown hK hP hS (by omega) (fun _ => cell8 (by decide)) rfl 5 (by decide) rfl lk5 (fun _ h => h) rfl hin2 rfl (tyX8_ok 5 (by decide)) rfl rfl (Nat.le_of_ble_eq_true rfl) dX8_init_462 (fun H locs hP hS => ?_)
  refine lv_aload_n hx hb dX8_init_465 rfl (lv_at hl 0 rfl) ?_
  refine lv_bipush (v := 112) hx hb dX8_init_466 (by decide) ?_
  refine xsz hP hs0 rfl (by omega) (fun hz => ?_)
  refine xna (n := 130) (t0 := 1) (N := 112) (ty := .int) (atype := .int) (a0 := (112, .inl (fun _ => 0))) hx hb rfl (hts (.arrayClass .int) (by decide +kernel)) hK hP hS hz rfl (fun C h => by cases h) (fun cA => rfl) (by rw [cell11 (by decide), show (gFill 126 keyV (gFill 125 ptsV M 4) 72) 130 = fun _ => 0 from (by rw [gFill_ne (by decide), gFill_ne (by decide)]; exact hZ _ (by decide))]; rfl) (by decide) rfl (Nat.le_of_ble_eq_true rfl) (Nat.le_of_ble_eq_true rfl) (Nat.le_of_ble_eq_true rfl) dX8_init_468 (fun H hP hS hz => ?_)
  refine xpF (C := RX8) (T := TX8) (N := 22) (ci := 8) (v := .ref (b + 130)) (o := 124) hx hb hts inc8 tyX8 tyX8_ok nmX8 hown hK hP hS (by omega) (fun _ => cell8 (by decide)) rfl 7 (by decide) rfl lk7 (fun _ h => h) rfl hin2 rfl (tyX8_ok 7 (by decide)) rfl rfl (Nat.le_of_ble_eq_true rfl) dX8_init_470 (fun H locs hP hS => ?_)
  refine lv_aload_n hx hb dX8_init_473 rfl (lv_at hl 0 rfl) ?_
  refine lv_sipush (v := 600) hx hb dX8_init_474 (by decide) ?_
  refine xsz hP hs0 rfl (by omega) (fun hz => ?_)
  refine xna (n := 131) (t0 := 0) (N := 600) (ty := .byte) (atype := .byte) (a0 := (600, .inl (fun _ => 0))) hx hb rfl (hts (.arrayClass .byte) (by decide +kernel)) hK hP hS hz rfl (fun C h => by cases h) (fun cA => rfl) (by rw [cell10 (by decide), show (gFill 126 keyV (gFill 125 ptsV M 4) 72) 131 = fun _ => 0 from (by rw [gFill_ne (by decide), gFill_ne (by decide)]; exact hZ _ (by decide))]; rfl) (by decide) rfl (Nat.le_of_ble_eq_true rfl) (Nat.le_of_ble_eq_true rfl) (Nat.le_of_ble_eq_true rfl) dX8_init_477 (fun H hP hS hz => ?_)
  refine xpF (C := RX8) (T := TX8) (N := 22) (ci := 8) (v := .ref (b + 131)) (o := 124) hx hb hts inc8 tyX8 tyX8_ok nmX8 hown hK hP hS (by omega) (fun _ => cell8 (by decide)) rfl 9 (by decide) rfl lk9 (fun _ h => h) rfl hin2 rfl (tyX8_ok 9 (by decide)) rfl rfl (Nat.le_of_ble_eq_true rfl) dX8_init_479 (fun H locs hP hS => ?_)
  refine lv_aload_n hx hb dX8_init_482 rfl (lv_at hl 0 rfl) ?_
  refine lv_bipush (v := 60) hx hb dX8_init_483 (by decide) ?_
  refine xsz hP hs0 rfl (by omega) (fun hz => ?_)
  refine xna (n := 132) (t0 := 0) (N := 60) (ty := .byte) (atype := .byte) (a0 := (60, .inl (fun _ => 0))) hx hb rfl (hts (.arrayClass .byte) (by decide +kernel)) hK hP hS hz rfl (fun C h => by cases h) (fun cA => rfl) (by rw [cell10 (by decide), show (gFill 126 keyV (gFill 125 ptsV M 4) 72) 132 = fun _ => 0 from (by rw [gFill_ne (by decide), gFill_ne (by decide)]; exact hZ _ (by decide))]; rfl) (by decide) rfl (Nat.le_of_ble_eq_true rfl) (Nat.le_of_ble_eq_true rfl) (Nat.le_of_ble_eq_true rfl) dX8_init_485 (fun H hP hS hz => ?_)
  refine xpF (C := RX8) (T := TX8) (N := 22) (ci := 8) (v := .ref (b + 132)) (o := 124) hx hb hts inc8 tyX8 tyX8_ok nmX8 hown hK hP hS (by omega) (fun _ => cell8 (by decide)) rfl 11 (by decide) rfl lk11 (fun _ h => h) rfl hin2 rfl (tyX8_ok 11 (by decide)) rfl rfl (Nat.le_of_ble_eq_true rfl) dX8_init_487 (fun H locs hP hS => ?_)
  obtain ⟨MK, hMK⟩ : ∃ MK : Mem, MK = (gFill 126 keyV (gFill 125 ptsV M 4) 72) := ⟨_, rfl⟩
  rw [← hMK] at hP
  have hg : gX8_init M = LX8_init_495g 1 (mU MK 124 14 (-1)) := by rw [hMK]; rfl
  rw [hg]
  refine lv_aload_n hx hb dX8_init_490 rfl (lv_at hl 0 rfl) ?_
  refine lv_iconst (v := (-1)) hx hb dX8_init_491 (by decide) ?_
  refine xp (C := RX8) (T := TX8) (N := 22) (ci := 8) (ty := .int) (x := (-1 : Int32)) (o := 124) hx hb hts inc8 tyX8 tyX8_ok nmX8 hown hK hP hS (by omega) (fun _ => cell8 (by decide)) rfl 14 (by decide) rfl lk14 (fun _ h => h) rfl (tyX8_ok 14 (by decide)) rfl rfl (Nat.le_of_ble_eq_true rfl) dX8_init_492 (fun H locs hP hS => ?_)
  have hw : wL cy b (fU (fU (fU (fU (fU (fU (fU (fU (fP fT 124) 124 0) 124 1) 124 3) 124 4) 124 5) 124 7) 124 9) 124 11) (mU MK 124 14 (-1)) 133 = wL cy b fT (mU MK 124 14 (-1)) 133 := wL_cell (fun q hq => by
    by_cases e1 : q = 124
    · subst e1
      rw [cell8 (by decide), cell8 (by decide)]
      rfl
    · rw [fU_ne _ _ e1, fU_ne _ _ e1, fU_ne _ _ e1, fU_ne _ _ e1, fU_ne _ _ e1, fU_ne _ _ e1, fU_ne _ _ e1, fU_ne _ _ e1, fP_ne _ e1])
  rw [hw] at hP
  have r127 : mU MK 124 14 (-1) 127 = fun _ => 0 := by rw [mU_ne _ _ _ (by decide), hMK, gFill_ne (by decide), gFill_ne (by decide)]; exact hZ _ (by decide)
  exact cl_X8_init_495 l D cy b 133 (Nat.le_refl _) hx hb hr hlocks hml hown hts hK hX 1 _ _ _ _ (by rw [r127]; rfl) (fun j hj => by rw [r127]; exact Or.inr ⟨0, by decide, rfl⟩) (by decide) hP hS hl
