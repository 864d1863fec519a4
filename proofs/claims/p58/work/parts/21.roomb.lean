def LX4_copyFrom_58g (r : Nat) (q : Nat) : Nat → Mem → Nat → Mem
  | 0, M, _ => M
  | k + 1, M, j => if (M r 1) ≤ (nI (j)) then M else (LX4_copyFrom_58g r q k (gX1_copyFrom M (r + 1 + 1 + j) (q + 1 + 1 + j)) (j + 1))
set_option maxHeartbeats 4000000 in
set_option maxRecDepth 100000 in
theorem cl_X4_copyFrom_58 (l : Launch) (D : va_G) (cy : Nat → ClassId) (b n : Nat) (hn : 124 ≤ n) (r : Nat) (q : Nat) (h_r : kd r = 4) (h_q : kd q = 4) {p : Program} {e : Env} {s : State} {m : MethodId} {args : Array Value} {below : List Frame} {meth : Method} {c : Code} (hx : p.tables.exec = Jvm.exec) (hb : c.code = cX4_copyFrom) (hr : meth.sig.returnType = none) (hlocks : meth.locks = false) (hml : c.maxLocals = 3) (hown : s.vm.findClass RX4 = some m.cls) (hts : ∀ w ∈ wsX4_copyFrom, w.before args s = true) (hK : va_K D vwCl (tysW cy) s) (hX : SX b s)  : ∀ (k : Nat) (M : Mem) (j : Nat) (H : Heap) (locs : List Loc) (ls : Array Slot), CNT M r → j ≤ 6 → 7 ≤ j + k → va_P D vwCl (wL cy b fT M n) H → va_S (fr b) s.heap H locs → lv_has ls 3 [(0, .ref (b + r)), (1, .ref (b + q)), (2, .int (nI (j)))] → W p l e (headSpec wsX4_copyFrom ({ frames := 1, cells := 0, slots := 0, locals := 21 } : Room)).room s m args below meth c H locs 0 0 (MQ below (CQv D cy b n fT (LX4_copyFrom_58g r q k M j)) args s 0 0 (fr b)) (F0 m 58 ls []) := by
  have lk0 := hts (.fieldLink RX4 18 "HygrometerRoom$Room" "count" "I") (by decide +kernel)
  have lk1 := hts (.fieldLink RX4 11 "HygrometerRoom$Room" "instruments" "[LHygrometerRoom$Instrument;") (by decide +kernel)
  have inc4 : ∀ w ∈ u_ws RX4 TX4 8, w ∈ wsX4_copyFrom := by decide +kernel
  intro k
  induction k with
  | zero => intro M j H locs ls hcnt hj hk hP hS hl; omega
  | succ k ih =>
    intro M j H locs ls hcnt hj hk hP hS hl
    refine lv_iload_n hx hb dX4_copyFrom_58 rfl (lv_at hl 2 rfl) ?_
    refine lv_aload_n hx hb dX4_copyFrom_59 rfl (lv_at hl 0 rfl) ?_
    refine xg (C := RX4) (T := TX4) (N := 8) (v := .int (M r 1)) hx hb hts inc4 hown hK hP (kR_lt h_r hn) (cell4 h_r) rfl 1 (by decide) lk0 (fun _ h => h) rfl dX4_copyFrom_60 ?_
    refine lv_icmp_ge (tgt := 87) hx hb dX4_copyFrom_63 (by decide) (fun c63 => ?_) (fun c63 => ?_)
    · exact xe_v hx hb hr hlocks hP hS rfl (by rw [LX4_copyFrom_58g, if_pos c63] <;> rfl) (Nat.le_of_ble_eq_true rfl) (Nat.le_of_ble_eq_true rfl) dX4_copyFrom_87
    · refine lv_aload_n hx hb dX4_copyFrom_66 rfl (lv_at hl 0 rfl) ?_
      refine xg (C := RX4) (T := TX4) (N := 8) (v := .ref (b + (r + 1))) hx hb hts inc4 hown hK hP (kR_lt h_r hn) (cell4 h_r) rfl 0 (by decide) lk1 (fun _ h => h) rfl dX4_copyFrom_67 ?_
      refine lv_iload_n hx hb dX4_copyFrom_70 rfl (lv_at hl 2 rfl) ?_
      have hj6 := ub_lt hcnt hj c63
      refine xnl (j := j) hx hb hK hP (kA_lt h_r hn) (kd_arr h_r) (ixIn (a := j) rfl (by first | decide | (simp only [lenOf]; omega) | omega) (by decide)) (ixAt (a := j) rfl (by omega)) dX4_copyFrom_71 ?_
      refine lv_aload_n hx hb dX4_copyFrom_72 rfl (lv_at hl 1 rfl) ?_
      refine xg (C := RX4) (T := TX4) (N := 8) (v := .ref (b + (q + 1))) hx hb hts inc4 hown hK hP (kR_lt h_q hn) (cell4 h_q) rfl 0 (by decide) lk1 (fun _ h => h) rfl dX4_copyFrom_73 ?_
      refine lv_iload_n hx hb dX4_copyFrom_76 rfl (lv_at hl 2 rfl) ?_
      refine xnl (j := j) hx hb hK hP (kA_lt h_q hn) (kd_arr h_q) (ixIn (a := j) rfl (by first | decide | (simp only [lenOf]; omega) | omega) (by decide)) (ixAt (a := j) rfl (by omega)) dX4_copyFrom_77 ?_
      refine xc_v (va_runV (As := [.ref (b + (q + 1 + 1 + j))]) (rest := []) ⟨hx, hb, hml, hown, hts⟩ (c_X1_copyFrom l D cy b n hn M (r + 1 + 1 + j) (q + 1 + 1 + j) (kd_ins h_r (by omega)) (kd_ins h_q (by omega))) (cwV 1 hts gX4_copyFrom_X1_copyFrom rfl rfl rfl (by decide +kernel) ⟨Nat.le_of_ble_eq_true rfl, Nat.le_of_ble_eq_true rfl⟩) (xPreV hP hK hX hS (kI_lt (kd_ins h_r (by omega)) hn) (cell1 (kd_ins h_r (by omega))) rfl) rfl rfl hl.1 rfl (lv_room (Nat.le_of_ble_eq_true rfl)) dX4_copyFrom_78 ⟨Nat.le_of_ble_eq_true rfl, Nat.le_of_ble_eq_true rfl⟩) hS (fun H locs hP hS => ?_)
      refine lv_iinc (v := nI (j + 1)) (lv' := [(2, .int (nI (j + 1))), (0, .ref (b + r)), (1, .ref (b + q))]) hx hb dX4_copyFrom_81 hl (k := 2) rfl (ixAdd (a := j) (c := 1) (d := j + 1) rfl rfl (by omega)) (by decide) rfl (fun ls hl => ?_)
      refine lv_goto (tgt := 58) hx hb dX4_copyFrom_84 (by decide) ?_
      rw [show LX4_copyFrom_58g r q (k + 1) M j = LX4_copyFrom_58g r q k (gX1_copyFrom M (r + 1 + 1 + j) (q + 1 + 1 + j)) (j + 1) from (by rw [LX4_copyFrom_58g, if_neg c63])]
      exact ih (gX1_copyFrom M (r + 1 + 1 + j) (q + 1 + 1 + j)) (j + 1) H locs ls (cnt_row (gX1_copyFrom_ne (by omega)) hcnt) (by omega) (by omega) hP hS (lv_sub hl [1, 2, 0] rfl)

def gX4_copyFrom (M : Mem) (r : Nat) (q : Nat) : Mem := LX4_copyFrom_58g r q 7 (mU (mU (mU (mU (mU (mU (mU M r 1 (M q 1)) r 2 ((mU M r 1 (M q 1)) q 2)) r 3 ((mU (mU M r 1 (M q 1)) r 2 ((mU M r 1 (M q 1)) q 2)) q 3)) r 4 ((mU (mU (mU M r 1 (M q 1)) r 2 ((mU M r 1 (M q 1)) q 2)) r 3 ((mU (mU M r 1 (M q 1)) r 2 ((mU M r 1 (M q 1)) q 2)) q 3)) q 4)) r 5 ((mU (mU (mU (mU M r 1 (M q 1)) r 2 ((mU M r 1 (M q 1)) q 2)) r 3 ((mU (mU M r 1 (M q 1)) r 2 ((mU M r 1 (M q 1)) q 2)) q 3)) r 4 ((mU (mU (mU M r 1 (M q 1)) r 2 ((mU M r 1 (M q 1)) q 2)) r 3 ((mU (mU M r 1 (M q 1)) r 2 ((mU M r 1 (M q 1)) q 2)) q 3)) q 4)) q 5)) r 6 ((mU (mU (mU (mU (mU M r 1 (M q 1)) r 2 ((mU M r 1 (M q 1)) q 2)) r 3 ((mU (mU M r 1 (M q 1)) r 2 ((mU M r 1 (M q 1)) q 2)) q 3)) r 4 ((mU (mU (mU M r 1 (M q 1)) r 2 ((mU M r 1 (M q 1)) q 2)) r 3 ((mU (mU M r 1 (M q 1)) r 2 ((mU M r 1 (M q 1)) q 2)) q 3)) q 4)) r 5 ((mU (mU (mU (mU M r 1 (M q 1)) r 2 ((mU M r 1 (M q 1)) q 2)) r 3 ((mU (mU M r 1 (M q 1)) r 2 ((mU M r 1 (M q 1)) q 2)) q 3)) r 4 ((mU (mU (mU M r 1 (M q 1)) r 2 ((mU M r 1 (M q 1)) q 2)) r 3 ((mU (mU M r 1 (M q 1)) r 2 ((mU M r 1 (M q 1)) q 2)) q 3)) q 4)) q 5)) q 6)) r 7 ((mU (mU (mU (mU (mU (mU M r 1 (M q 1)) r 2 ((mU M r 1 (M q 1)) q 2)) r 3 ((mU (mU M r 1 (M q 1)) r 2 ((mU M r 1 (M q 1)) q 2)) q 3)) r 4 ((mU (mU (mU M r 1 (M q 1)) r 2 ((mU M r 1 (M q 1)) q 2)) r 3 ((mU (mU M r 1 (M q 1)) r 2 ((mU M r 1 (M q 1)) q 2)) q 3)) q 4)) r 5 ((mU (mU (mU (mU M r 1 (M q 1)) r 2 ((mU M r 1 (M q 1)) q 2)) r 3 ((mU (mU M r 1 (M q 1)) r 2 ((mU M r 1 (M q 1)) q 2)) q 3)) r 4 ((mU (mU (mU M r 1 (M q 1)) r 2 ((mU M r 1 (M q 1)) q 2)) r 3 ((mU (mU M r 1 (M q 1)) r 2 ((mU M r 1 (M q 1)) q 2)) q 3)) q 4)) q 5)) r 6 ((mU (mU (mU (mU (mU M r 1 (M q 1)) r 2 ((mU M r 1 (M q 1)) q 2)) r 3 ((mU (mU M r 1 (M q 1)) r 2 ((mU M r 1 (M q 1)) q 2)) q 3)) r 4 ((mU (mU (mU M r 1 (M q 1)) r 2 ((mU M r 1 (M q 1)) q 2)) r 3 ((mU (mU M r 1 (M q 1)) r 2 ((mU M r 1 (M q 1)) q 2)) q 3)) q 4)) r 5 ((mU (mU (mU (mU M r 1 (M q 1)) r 2 ((mU M r 1 (M q 1)) q 2)) r 3 ((mU (mU M r 1 (M q 1)) r 2 ((mU M r 1 (M q 1)) q 2)) q 3)) r 4 ((mU (mU (mU M r 1 (M q 1)) r 2 ((mU M r 1 (M q 1)) q 2)) r 3 ((mU (mU M r 1 (M q 1)) r 2 ((mU M r 1 (M q 1)) q 2)) q 3)) q 4)) q 5)) q 6)) q 7)) 0
set_option maxHeartbeats 4000000 in
set_option maxRecDepth 100000 in
theorem c_X4_copyFrom (l : Launch) (D : va_G) (cy : Nat → ClassId) (b n : Nat) (hn : 124 ≤ n) (M : Mem) (r : Nat) (q : Nat) (h_r : kd r = 4) (h_q : kd q = 4) (hcntq : CNT M q) : Met l yX4_copyFrom wsX4_copyFrom ({ frames := 1, cells := 0, slots := 0, locals := 21 } : Room) (CP D cy b n fT M [.ref (b + r), .ref (b + q)]) (CQv D cy b n fT (gX4_copyFrom M r q)) 0 0 (fr b) := by
  refine Met.ofW (cc := cX4_copyFrom) (maxL := 3) (ret := none) (by decide) rfl ?_
  intro p e s m args below meth c s₁ B hml hv
  obtain ⟨rfl, hP, hK, hX⟩ := hv
  have hx := B.exec
  have hb := B.bytes
  have hr := B.returns
  have hts := atoms_spec (ws := wsX4_copyFrom) B.pre
  have hown : s.vm.findClass RX4 = some m.cls := findClass_of_methodNamed B.named
  have hlocks := B.notSynchronized
  have lk0 := hts (.fieldLink RX4 18 "HygrometerRoom$Room" "count" "I") (by decide +kernel)
  have lk1 := hts (.fieldLink RX4 22 "HygrometerRoom$Room" "minute" "I") (by decide +kernel)
  have lk2 := hts (.fieldLink RX4 25 "HygrometerRoom$Room" "humidity" "I") (by decide +kernel)
  have lk3 := hts (.fieldLink RX4 28 "HygrometerRoom$Room" "temperature" "I") (by decide +kernel)
  have lk4 := hts (.fieldLink RX4 31 "HygrometerRoom$Room" "skill" "I") (by decide +kernel)
  have lk5 := hts (.fieldLink RX4 34 "HygrometerRoom$Room" "stock" "I") (by decide +kernel)
  have lk6 := hts (.fieldLink RX4 37 "HygrometerRoom$Room" "brought" "I") (by decide +kernel)
  have inc4 : ∀ w ∈ u_ws RX4 TX4 8, w ∈ wsX4_copyFrom := by decide +kernel
  have hS : va_S (fr b) s.heap s.heap [] := va_S.rf
  have hl := lv_entry ([.ref (b + r), .ref (b + q)]) (n := 3) (Nat.le_of_ble_eq_true rfl)
  rw [lg_entry_eq]
  generalize (lg_sl ([.ref (b + r), .ref (b + q)]) ++ List.replicate (3 - (lg_sl ([.ref (b + r), .ref (b + q)])).length) Slot.unset).toArray = ls at hl ⊢
  have hl : lv_has ls 3 [(0, .ref (b + r)), (1, .ref (b + q))] := hl
  refine lv_aload_n hx hb dX4_copyFrom_0 rfl (lv_at hl 0 rfl) ?_
  refine lv_aload_n hx hb dX4_copyFrom_1 rfl (lv_at hl 1 rfl) ?_
  refine xg (C := RX4) (T := TX4) (N := 8) (v := .int (M q 1)) hx hb hts inc4 hown hK hP (kR_lt h_q hn) (cell4 h_q) rfl 1 (by decide) lk0 (fun _ h => h) rfl dX4_copyFrom_2 ?_
  refine xp (C := RX4) (T := TX4) (N := 8) (ci := 4) (ty := .int) (x := M q 1) hx hb hts inc4 tyX4 tyX4_ok nmX4 hown hK hP hS (kR_lt h_r hn) (fun _ => cell4 h_r) rfl 1 (by decide) rfl lk0 (fun _ h => h) rfl (tyX4_ok 1 (by decide)) rfl rfl (Nat.le_of_ble_eq_true rfl) dX4_copyFrom_5 (fun H locs hP hS => ?_)
  refine lv_aload_n hx hb dX4_copyFrom_8 rfl (lv_at hl 0 rfl) ?_
  refine lv_aload_n hx hb dX4_copyFrom_9 rfl (lv_at hl 1 rfl) ?_
  refine xg (C := RX4) (T := TX4) (N := 8) (v := .int ((mU M r 1 (M q 1)) q 2)) hx hb hts inc4 hown hK hP (kR_lt h_q hn) (cell4 h_q) rfl 2 (by decide) lk1 (fun _ h => h) rfl dX4_copyFrom_10 ?_
  refine xp (C := RX4) (T := TX4) (N := 8) (ci := 4) (ty := .int) (x := (mU M r 1 (M q 1)) q 2) hx hb hts inc4 tyX4 tyX4_ok nmX4 hown hK hP hS (kR_lt h_r hn) (fun _ => cell4 h_r) rfl 2 (by decide) rfl lk1 (fun _ h => h) rfl (tyX4_ok 2 (by decide)) rfl rfl (Nat.le_of_ble_eq_true rfl) dX4_copyFrom_13 (fun H locs hP hS => ?_)
  refine lv_aload_n hx hb dX4_copyFrom_16 rfl (lv_at hl 0 rfl) ?_
  refine lv_aload_n hx hb dX4_copyFrom_17 rfl (lv_at hl 1 rfl) ?_
  refine xg (C := RX4) (T := TX4) (N := 8) (v := .int ((mU (mU M r 1 (M q 1)) r 2 ((mU M r 1 (M q 1)) q 2)) q 3)) hx hb hts inc4 hown hK hP (kR_lt h_q hn) (cell4 h_q) rfl 3 (by decide) lk2 (fun _ h => h) rfl dX4_copyFrom_18 ?_
  refine xp (C := RX4) (T := TX4) (N := 8) (ci := 4) (ty := .int) (x := (mU (mU M r 1 (M q 1)) r 2 ((mU M r 1 (M q 1)) q 2)) q 3) hx hb hts inc4 tyX4 tyX4_ok nmX4 hown hK hP hS (kR_lt h_r hn) (fun _ => cell4 h_r) rfl 3 (by decide) rfl lk2 (fun _ h => h) rfl (tyX4_ok 3 (by decide)) rfl rfl (Nat.le_of_ble_eq_true rfl) dX4_copyFrom_21 (fun H locs hP hS => ?_)
  refine lv_aload_n hx hb dX4_copyFrom_24 rfl (lv_at hl 0 rfl) ?_
  refine lv_aload_n hx hb dX4_copyFrom_25 rfl (lv_at hl 1 rfl) ?_
  refine xg (C := RX4) (T := TX4) (N := 8) (v := .int ((mU (mU (mU M r 1 (M q 1)) r 2 ((mU M r 1 (M q 1)) q 2)) r 3 ((mU (mU M r 1 (M q 1)) r 2 ((mU M r 1 (M q 1)) q 2)) q 3)) q 4)) hx hb hts inc4 hown hK hP (kR_lt h_q hn) (cell4 h_q) rfl 4 (by decide) lk3 (fun _ h => h) rfl dX4_copyFrom_26 ?_
  refine xp (C := RX4) (T := TX4) (N := 8) (ci := 4) (ty := .int) (x := (mU (mU (mU M r 1 (M q 1)) r 2 ((mU M r 1 (M q 1)) q 2)) r 3 ((mU (mU M r 1 (M q 1)) r 2 ((mU M r 1 (M q 1)) q 2)) q 3)) q 4) hx hb hts inc4 tyX4 tyX4_ok nmX4 hown hK hP hS (kR_lt h_r hn) (fun _ => cell4 h_r) rfl 4 (by decide) rfl lk3 (fun _ h => h) rfl (tyX4_ok 4 (by decide)) rfl rfl (Nat.le_of_ble_eq_true rfl) dX4_copyFrom_29 (fun H locs hP hS => ?_)
  refine lv_aload_n hx hb dX4_copyFrom_32 rfl (lv_at hl 0 rfl) ?_
  refine lv_aload_n hx hb dX4_copyFrom_33 rfl (lv_at hl 1 rfl) ?_
  refine xg (C := RX4) (T := TX4) (N := 8) (v := .int ((mU (mU (mU (mU M r 1 (M q 1)) r 2 ((mU M r 1 (M q 1)) q 2)) r 3 ((mU (mU M r 1 (M q 1)) r 2 ((mU M r 1 (M q 1)) q 2)) q 3)) r 4 ((mU (mU (mU M r 1 (M q 1)) r 2 ((mU M r 1 (M q 1)) q 2)) r 3 ((mU (mU M r 1 (M q 1)) r 2 ((mU M r 1 (M q 1)) q 2)) q 3)) q 4)) q 5)) hx hb hts inc4 hown hK hP (kR_lt h_q hn) (cell4 h_q) rfl 5 (by decide) lk4 (fun _ h => h) rfl dX4_copyFrom_34 ?_
  refine xp (C := RX4) (T := TX4) (N := 8) (ci := 4) (ty := .int) (x := (mU (mU (mU (mU M r 1 (M q 1)) r 2 ((mU M r 1 (M q 1)) q 2)) r 3 ((mU (mU M r 1 (M q 1)) r 2 ((mU M r 1 (M q 1)) q 2)) q 3)) r 4 ((mU (mU (mU M r 1 (M q 1)) r 2 ((mU M r 1 (M q 1)) q 2)) r 3 ((mU (mU M r 1 (M q 1)) r 2 ((mU M r 1 (M q 1)) q 2)) q 3)) q 4)) q 5) hx hb hts inc4 tyX4 tyX4_ok nmX4 hown hK hP hS (kR_lt h_r hn) (fun _ => cell4 h_r) rfl 5 (by decide) rfl lk4 (fun _ h => h) rfl (tyX4_ok 5 (by decide)) rfl rfl (Nat.le_of_ble_eq_true rfl) dX4_copyFrom_37 (fun H locs hP hS => ?_)
  refine lv_aload_n hx hb dX4_copyFrom_40 rfl (lv_at hl 0 rfl) ?_
  refine lv_aload_n hx hb dX4_copyFrom_41 rfl (lv_at hl 1 rfl) ?_
  refine xg (C := RX4) (T := TX4) (N := 8) (v := .int ((mU (mU (mU (mU (mU M r 1 (M q 1)) r 2 ((mU M r 1 (M q 1)) q 2)) r 3 ((mU (mU M r 1 (M q 1)) r 2 ((mU M r 1 (M q 1)) q 2)) q 3)) r 4 ((mU (mU (mU M r 1 (M q 1)) r 2 ((mU M r 1 (M q 1)) q 2)) r 3 ((mU (mU M r 1 (M q 1)) r 2 ((mU M r 1 (M q 1)) q 2)) q 3)) q 4)) r 5 ((mU (mU (mU (mU M r 1 (M q 1)) r 2 ((mU M r 1 (M q 1)) q 2)) r 3 ((mU (mU M r 1 (M q 1)) r 2 ((mU M r 1 (M q 1)) q 2)) q 3)) r 4 ((mU (mU (mU M r 1 (M q 1)) r 2 ((mU M r 1 (M q 1)) q 2)) r 3 ((mU (mU M r 1 (M q 1)) r 2 ((mU M r 1 (M q 1)) q 2)) q 3)) q 4)) q 5)) q 6)) hx hb hts inc4 hown hK hP (kR_lt h_q hn) (cell4 h_q) rfl 6 (by decide) lk5 (fun _ h => h) rfl dX4_copyFrom_42 ?_
  refine xp (C := RX4) (T := TX4) (N := 8) (ci := 4) (ty := .int) (x := (mU (mU (mU (mU (mU M r 1 (M q 1)) r 2 ((mU M r 1 (M q 1)) q 2)) r 3 ((mU (mU M r 1 (M q 1)) r 2 ((mU M r 1 (M q 1)) q 2)) q 3)) r 4 ((mU (mU (mU M r 1 (M q 1)) r 2 ((mU M r 1 (M q 1)) q 2)) r 3 ((mU (mU M r 1 (M q 1)) r 2 ((mU M r 1 (M q 1)) q 2)) q 3)) q 4)) r 5 ((mU (mU (mU (mU M r 1 (M q 1)) r 2 ((mU M r 1 (M q 1)) q 2)) r 3 ((mU (mU M r 1 (M q 1)) r 2 ((mU M r 1 (M q 1)) q 2)) q 3)) r 4 ((mU (mU (mU M r 1 (M q 1)) r 2 ((mU M r 1 (M q 1)) q 2)) r 3 ((mU (mU M r 1 (M q 1)) r 2 ((mU M r 1 (M q 1)) q 2)) q 3)) q 4)) q 5)) q 6) hx hb hts inc4 tyX4 tyX4_ok nmX4 hown hK hP hS (kR_lt h_r hn) (fun _ => cell4 h_r) rfl 6 (by decide) rfl lk5 (fun _ h => h) rfl (tyX4_ok 6 (by decide)) rfl rfl (Nat.le_of_ble_eq_true rfl) dX4_copyFrom_45 (fun H locs hP hS => ?_)
  refine lv_aload_n hx hb dX4_copyFrom_48 rfl (lv_at hl 0 rfl) ?_
  refine lv_aload_n hx hb dX4_copyFrom_49 rfl (lv_at hl 1 rfl) ?_
  refine xg (C := RX4) (T := TX4) (N := 8) (v := .int ((mU (mU (mU (mU (mU (mU M r 1 (M q 1)) r 2 ((mU M r 1 (M q 1)) q 2)) r 3 ((mU (mU M r 1 (M q 1)) r 2 ((mU M r 1 (M q 1)) q 2)) q 3)) r 4 ((mU (mU (mU M r 1 (M q 1)) r 2 ((mU M r 1 (M q 1)) q 2)) r 3 ((mU (mU M r 1 (M q 1)) r 2 ((mU M r 1 (M q 1)) q 2)) q 3)) q 4)) r 5 ((mU (mU (mU (mU M r 1 (M q 1)) r 2 ((mU M r 1 (M q 1)) q 2)) r 3 ((mU (mU M r 1 (M q 1)) r 2 ((mU M r 1 (M q 1)) q 2)) q 3)) r 4 ((mU (mU (mU M r 1 (M q 1)) r 2 ((mU M r 1 (M q 1)) q 2)) r 3 ((mU (mU M r 1 (M q 1)) r 2 ((mU M r 1 (M q 1)) q 2)) q 3)) q 4)) q 5)) r 6 ((mU (mU (mU (mU (mU M r 1 (M q 1)) r 2 ((mU M r 1 (M q 1)) q 2)) r 3 ((mU (mU M r 1 (M q 1)) r 2 ((mU M r 1 (M q 1)) q 2)) q 3)) r 4 ((mU (mU (mU M r 1 (M q 1)) r 2 ((mU M r 1 (M q 1)) q 2)) r 3 ((mU (mU M r 1 (M q 1)) r 2 ((mU M r 1 (M q 1)) q 2)) q 3)) q 4)) r 5 ((mU (mU (mU (mU M r 1 (M q 1)) r 2 ((mU M r 1 (M q 1)) q 2)) r 3 ((mU (mU M r 1 (M q 1)) r 2 ((mU M r 1 (M q 1)) q 2)) q 3)) r 4 ((mU (mU (mU M r 1 (M q 1)) r 2 ((mU M r 1 (M q 1)) q 2)) r 3 ((mU (mU M r 1 (M q 1)) r 2 ((mU M r 1 (M q 1)) q 2)) q 3)) q 4)) q 5)) q 6)) q 7)) hx hb hts inc4 hown hK hP (kR_lt h_q hn) (cell4 h_q) rfl 7 (by decide) lk6 (fun _ h => h) rfl dX4_copyFrom_50 ?_
  refine xp (C := RX4) (T := TX4) (N := 8) (ci := 4) (ty := .int) (x := (mU (mU (mU (mU (mU (mU M r 1 (M q 1)) r 2 ((mU M r 1 (M q 1)) q 2)) r 3 ((mU (mU M r 1 (M q 1)) r 2 ((mU M r 1 (M q 1)) q 2)) q 3)) r 4 ((mU (mU (mU M r 1 (M q 1)) r 2 ((mU M r 1 (M q 1)) q 2)) r 3 ((mU (mU M r 1 (M q 1)) r 2 ((mU M r 1 (M q 1)) q 2)) q 3)) q 4)) r 5 ((mU (mU (mU (mU M r 1 (M q 1)) r 2 ((mU M r 1 (M q 1)) q 2)) r 3 ((mU (mU M r 1 (M q 1)) r 2 ((mU M r 1 (M q 1)) q 2)) q 3)) r 4 ((mU (mU (mU M r 1 (M q 1)) r 2 ((mU M r 1 (M q 1)) q 2)) r 3 ((mU (mU M r 1 (M q 1)) r 2 ((mU M r 1 (M q 1)) q 2)) q 3)) q 4)) q 5)) r 6 ((mU (mU (mU (mU (mU M r 1 (M q 1)) r 2 ((mU M r 1 (M q 1)) q 2)) r 3 ((mU (mU M r 1 (M q 1)) r 2 ((mU M r 1 (M q 1)) q 2)) q 3)) r 4 ((mU (mU (mU M r 1 (M q 1)) r 2 ((mU M r 1 (M q 1)) q 2)) r 3 ((mU (mU M r 1 (M q 1)) r 2 ((mU M r 1 (M q 1)) q 2)) q 3)) q 4)) r 5 ((mU (mU (mU (mU M r 1 (M q 1)) r 2 ((mU M r 1 (M q 1)) q 2)) r 3 ((mU (mU M r 1 (M q 1)) r 2 ((mU M r 1 (M q 1)) q 2)) q 3)) r 4 ((mU (mU (mU M r 1 (M q 1)) r 2 ((mU M r 1 (M q 1)) q 2)) r 3 ((mU (mU M r 1 (M q 1)) r 2 ((mU M r 1 (M q 1)) q 2)) q 3)) q 4)) q 5)) q 6)) q 7) hx hb hts inc4 tyX4 tyX4_ok nmX4 hown hK hP hS (kR_lt h_r hn) (fun _ => cell4 h_r) rfl 7 (by decide) rfl lk6 (fun _ h => h) rfl (tyX4_ok 7 (by decide)) rfl rfl (Nat.le_of_ble_eq_true rfl) dX4_copyFrom_53 (fun H locs hP hS => ?_)
  refine lv_iconst (v := 0) hx hb dX4_copyFrom_56 (by decide) ?_
  refine lv_istore_n (lv' := [(2, .int (0 : Int32)), (0, .ref (b + r)), (1, .ref (b + q))]) hx hb dX4_copyFrom_57 rfl hl (by decide) rfl (fun ls hl => ?_)
  rw [show gX4_copyFrom M r q = LX4_copyFrom_58g r q 7 (mU (mU (mU (mU (mU (mU (mU M r 1 (M q 1)) r 2 ((mU M r 1 (M q 1)) q 2)) r 3 ((mU (mU M r 1 (M q 1)) r 2 ((mU M r 1 (M q 1)) q 2)) q 3)) r 4 ((mU (mU (mU M r 1 (M q 1)) r 2 ((mU M r 1 (M q 1)) q 2)) r 3 ((mU (mU M r 1 (M q 1)) r 2 ((mU M r 1 (M q 1)) q 2)) q 3)) q 4)) r 5 ((mU (mU (mU (mU M r 1 (M q 1)) r 2 ((mU M r 1 (M q 1)) q 2)) r 3 ((mU (mU M r 1 (M q 1)) r 2 ((mU M r 1 (M q 1)) q 2)) q 3)) r 4 ((mU (mU (mU M r 1 (M q 1)) r 2 ((mU M r 1 (M q 1)) q 2)) r 3 ((mU (mU M r 1 (M q 1)) r 2 ((mU M r 1 (M q 1)) q 2)) q 3)) q 4)) q 5)) r 6 ((mU (mU (mU (mU (mU M r 1 (M q 1)) r 2 ((mU M r 1 (M q 1)) q 2)) r 3 ((mU (mU M r 1 (M q 1)) r 2 ((mU M r 1 (M q 1)) q 2)) q 3)) r 4 ((mU (mU (mU M r 1 (M q 1)) r 2 ((mU M r 1 (M q 1)) q 2)) r 3 ((mU (mU M r 1 (M q 1)) r 2 ((mU M r 1 (M q 1)) q 2)) q 3)) q 4)) r 5 ((mU (mU (mU (mU M r 1 (M q 1)) r 2 ((mU M r 1 (M q 1)) q 2)) r 3 ((mU (mU M r 1 (M q 1)) r 2 ((mU M r 1 (M q 1)) q 2)) q 3)) r 4 ((mU (mU (mU M r 1 (M q 1)) r 2 ((mU M r 1 (M q 1)) q 2)) r 3 ((mU (mU M r 1 (M q 1)) r 2 ((mU M r 1 (M q 1)) q 2)) q 3)) q 4)) q 5)) q 6)) r 7 ((mU (mU (mU (mU (mU (mU M r 1 (M q 1)) r 2 ((mU M r 1 (M q 1)) q 2)) r 3 ((mU (mU M r 1 (M q 1)) r 2 ((mU M r 1 (M q 1)) q 2)) q 3)) r 4 ((mU (mU (mU M r 1 (M q 1)) r 2 ((mU M r 1 (M q 1)) q 2)) r 3 ((mU (mU M r 1 (M q 1)) r 2 ((mU M r 1 (M q 1)) q 2)) q 3)) q 4)) r 5 ((mU (mU (mU (mU M r 1 (M q 1)) r 2 ((mU M r 1 (M q 1)) q 2)) r 3 ((mU (mU M r 1 (M q 1)) r 2 ((mU M r 1 (M q 1)) q 2)) q 3)) r 4 ((mU (mU (mU M r 1 (M q 1)) r 2 ((mU M r 1 (M q 1)) q 2)) r 3 ((mU (mU M r 1 (M q 1)) r 2 ((mU M r 1 (M q 1)) q 2)) q 3)) q 4)) q 5)) r 6 ((mU (mU (mU (mU (mU M r 1 (M q 1)) r 2 ((mU M r 1 (M q 1)) q 2)) r 3 ((mU (mU M r 1 (M q 1)) r 2 ((mU M r 1 (M q 1)) q 2)) q 3)) r 4 ((mU (mU (mU M r 1 (M q 1)) r 2 ((mU M r 1 (M q 1)) q 2)) r 3 ((mU (mU M r 1 (M q 1)) r 2 ((mU M r 1 (M q 1)) q 2)) q 3)) q 4)) r 5 ((mU (mU (mU (mU M r 1 (M q 1)) r 2 ((mU M r 1 (M q 1)) q 2)) r 3 ((mU (mU M r 1 (M q 1)) r 2 ((mU M r 1 (M q 1)) q 2)) q 3)) r 4 ((mU (mU (mU M r 1 (M q 1)) r 2 ((mU M r 1 (M q 1)) q 2)) r 3 ((mU (mU M r 1 (M q 1)) r 2 ((mU M r 1 (M q 1)) q 2)) q 3)) q 4)) q 5)) q 6)) q 7)) 0 from (by rw [gX4_copyFrom])]
  exact cl_X4_copyFrom_58 l D cy b n hn r q h_r h_q hx hb hr hlocks hml hown hts hK hX 7 (mU (mU (mU (mU (mU (mU (mU M r 1 (M q 1)) r 2 ((mU M r 1 (M q 1)) q 2)) r 3 ((mU (mU M r 1 (M q 1)) r 2 ((mU M r 1 (M q 1)) q 2)) q 3)) r 4 ((mU (mU (mU M r 1 (M q 1)) r 2 ((mU M r 1 (M q 1)) q 2)) r 3 ((mU (mU M r 1 (M q 1)) r 2 ((mU M r 1 (M q 1)) q 2)) q 3)) q 4)) r 5 ((mU (mU (mU (mU M r 1 (M q 1)) r 2 ((mU M r 1 (M q 1)) q 2)) r 3 ((mU (mU M r 1 (M q 1)) r 2 ((mU M r 1 (M q 1)) q 2)) q 3)) r 4 ((mU (mU (mU M r 1 (M q 1)) r 2 ((mU M r 1 (M q 1)) q 2)) r 3 ((mU (mU M r 1 (M q 1)) r 2 ((mU M r 1 (M q 1)) q 2)) q 3)) q 4)) q 5)) r 6 ((mU (mU (mU (mU (mU M r 1 (M q 1)) r 2 ((mU M r 1 (M q 1)) q 2)) r 3 ((mU (mU M r 1 (M q 1)) r 2 ((mU M r 1 (M q 1)) q 2)) q 3)) r 4 ((mU (mU (mU M r 1 (M q 1)) r 2 ((mU M r 1 (M q 1)) q 2)) r 3 ((mU (mU M r 1 (M q 1)) r 2 ((mU M r 1 (M q 1)) q 2)) q 3)) q 4)) r 5 ((mU (mU (mU (mU M r 1 (M q 1)) r 2 ((mU M r 1 (M q 1)) q 2)) r 3 ((mU (mU M r 1 (M q 1)) r 2 ((mU M r 1 (M q 1)) q 2)) q 3)) r 4 ((mU (mU (mU M r 1 (M q 1)) r 2 ((mU M r 1 (M q 1)) q 2)) r 3 ((mU (mU M r 1 (M q 1)) r 2 ((mU M r 1 (M q 1)) q 2)) q 3)) q 4)) q 5)) q 6)) r 7 ((mU (mU (mU (mU (mU (mU M r 1 (M q 1)) r 2 ((mU M r 1 (M q 1)) q 2)) r 3 ((mU (mU M r 1 (M q 1)) r 2 ((mU M r 1 (M q 1)) q 2)) q 3)) r 4 ((mU (mU (mU M r 1 (M q 1)) r 2 ((mU M r 1 (M q 1)) q 2)) r 3 ((mU (mU M r 1 (M q 1)) r 2 ((mU M r 1 (M q 1)) q 2)) q 3)) q 4)) r 5 ((mU (mU (mU (mU M r 1 (M q 1)) r 2 ((mU M r 1 (M q 1)) q 2)) r 3 ((mU (mU M r 1 (M q 1)) r 2 ((mU M r 1 (M q 1)) q 2)) q 3)) r 4 ((mU (mU (mU M r 1 (M q 1)) r 2 ((mU M r 1 (M q 1)) q 2)) r 3 ((mU (mU M r 1 (M q 1)) r 2 ((mU M r 1 (M q 1)) q 2)) q 3)) q 4)) q 5)) r 6 ((mU (mU (mU (mU (mU M r 1 (M q 1)) r 2 ((mU M r 1 (M q 1)) q 2)) r 3 ((mU (mU M r 1 (M q 1)) r 2 ((mU M r 1 (M q 1)) q 2)) q 3)) r 4 ((mU (mU (mU M r 1 (M q 1)) r 2 ((mU M r 1 (M q 1)) q 2)) r 3 ((mU (mU M r 1 (M q 1)) r 2 ((mU M r 1 (M q 1)) q 2)) q 3)) q 4)) r 5 ((mU (mU (mU (mU M r 1 (M q 1)) r 2 ((mU M r 1 (M q 1)) q 2)) r 3 ((mU (mU M r 1 (M q 1)) r 2 ((mU M r 1 (M q 1)) q 2)) q 3)) r 4 ((mU (mU (mU M r 1 (M q 1)) r 2 ((mU M r 1 (M q 1)) q 2)) r 3 ((mU (mU M r 1 (M q 1)) r 2 ((mU M r 1 (M q 1)) q 2)) q 3)) q 4)) q 5)) q 6)) q 7)) 0 H locs ls (cnt_put (by decide) (cnt_put (by decide) (cnt_put (by decide) (cnt_put (by decide) (cnt_put (by decide) (cnt_put (by decide) (by unfold CNT; rw [mU_at]; exact hcntq))))))) (by omega) (by omega) hP hS (lv_sub hl [1, 2, 0] rfl)
def LX4_pass_25g (r : Nat) (x : Int32) : Nat → Mem → Nat → Mem
  | 0, M, _ => M
  | k + 1, M, j => if (M r 1) ≤ (nI (j)) then M else (LX4_pass_25g r x k (gX1_age M (r + 1 + 1 + j) (M r 2) (fX4_surrounding M r (r + 1 + 1 + j))) (j + 1))
set_option maxHeartbeats 4000000 in
set_option maxRecDepth 100000 in
theorem cl_X4_pass_25 (l : Launch) (D : va_G) (cy : Nat → ClassId) (b n : Nat) (hn : 124 ≤ n) (r : Nat) (x : Int32) (h_r : kd r = 4) {p : Program} {e : Env} {s : State} {m : MethodId} {args : Array Value} {below : List Frame} {meth : Method} {c : Code} {Q : State → Prop} (hx : p.tables.exec = Jvm.exec) (hb : c.code = cX4_pass) (hr : meth.sig.returnType = (some .int)) (hlocks : meth.locks = false) (hml : c.maxLocals = 5) (hown : s.vm.findClass RX4 = some m.cls) (hts : ∀ w ∈ wsX4_pass, w.before args s = true) (hK : va_K D vwCl (tysW cy) s) (hX : SX b s) (w : Int32) (i : Nat) : ∀ (k : Nat) (M : Mem) (j : Nat) (H : Heap) (locs : List Loc) (ls : Array Slot), CNT M r → j ≤ 6 → 7 ≤ j + k → va_P D vwCl (wL cy b fT M n) H → va_S (fr b) s.heap H locs → lv_has ls 5 [(0, .ref (b + r)), (1, .int x), (2, .int w), (3, .int (nI (i))), (4, .int (nI (j)))] → (∀ (H : Heap) (locs : List Loc) (ls : Array Slot), va_P D vwCl (wL cy b fT (LX4_pass_25g r x k M j) n) H → va_S (fr b) s.heap H locs → lv_has ls 5 [(0, .ref (b + r)), (1, .int x), (2, .int w), (3, .int (nI (i)))] → W p l e (headSpec wsX4_pass ({ frames := 3, cells := 0, slots := 0, locals := 65 } : Room)).room s m args below meth c H locs 0 0 Q (F0 m 65 ls [])) → W p l e (headSpec wsX4_pass ({ frames := 3, cells := 0, slots := 0, locals := 65 } : Room)).room s m args below meth c H locs 0 0 Q (F0 m 25 ls []) := by
  have lk0 := hts (.fieldLink RX4 18 "HygrometerRoom$Room" "count" "I") (by decide +kernel)
  have lk1 := hts (.fieldLink RX4 11 "HygrometerRoom$Room" "instruments" "[LHygrometerRoom$Instrument;") (by decide +kernel)
  have lk2 := hts (.fieldLink RX4 22 "HygrometerRoom$Room" "minute" "I") (by decide +kernel)
  have inc4 : ∀ w ∈ u_ws RX4 TX4 8, w ∈ wsX4_pass := by decide +kernel
  intro k
  induction k with
  | zero => intro M j H locs ls hcnt hj hk hP hS hl kk; omega
  | succ k ih =>
    intro M j H locs ls hcnt hj hk hP hS hl kk
    refine lv_iload hx hb dX4_pass_25 (lv_at hl 4 rfl) ?_
    refine lv_aload_n hx hb dX4_pass_27 rfl (lv_at hl 0 rfl) ?_
    refine xg (C := RX4) (T := TX4) (N := 8) (v := .int (M r 1)) hx hb hts inc4 hown hK hP (kR_lt h_r hn) (cell4 h_r) rfl 1 (by decide) lk0 (fun _ h => h) rfl dX4_pass_28 ?_
    refine lv_icmp_ge (tgt := 65) hx hb dX4_pass_31 (by decide) (fun c31 => ?_) (fun c31 => ?_)
    · rw [show LX4_pass_25g r x (k + 1) M j = M from by rw [LX4_pass_25g, if_pos c31]] at kk
      exact kk H locs ls hP hS (lv_sub hl [0, 1, 2, 3] rfl)
    · refine lv_aload_n hx hb dX4_pass_34 rfl (lv_at hl 0 rfl) ?_
      refine xg (C := RX4) (T := TX4) (N := 8) (v := .ref (b + (r + 1))) hx hb hts inc4 hown hK hP (kR_lt h_r hn) (cell4 h_r) rfl 0 (by decide) lk1 (fun _ h => h) rfl dX4_pass_35 ?_
      have hj6 := ub_lt hcnt hj c31
      refine lv_iload hx hb dX4_pass_38 (lv_at hl 4 rfl) ?_
      refine xnl (j := j) hx hb hK hP (kA_lt h_r hn) (kd_arr h_r) (ixIn (a := j) rfl (by first | decide | (simp only [lenOf]; omega) | omega) (by decide)) (ixAt (a := j) rfl (by omega)) dX4_pass_40 ?_
      refine lv_aload_n hx hb dX4_pass_41 rfl (lv_at hl 0 rfl) ?_
      refine xg (C := RX4) (T := TX4) (N := 8) (v := .int (M r 2)) hx hb hts inc4 hown hK hP (kR_lt h_r hn) (cell4 h_r) rfl 2 (by decide) lk2 (fun _ h => h) rfl dX4_pass_42 ?_
      refine lv_aload_n hx hb dX4_pass_45 rfl (lv_at hl 0 rfl) ?_
      refine lv_aload_n hx hb dX4_pass_46 rfl (lv_at hl 0 rfl) ?_
      refine xg (C := RX4) (T := TX4) (N := 8) (v := .ref (b + (r + 1))) hx hb hts inc4 hown hK hP (kR_lt h_r hn) (cell4 h_r) rfl 0 (by decide) lk1 (fun _ h => h) rfl dX4_pass_47 ?_
      refine lv_iload hx hb dX4_pass_50 (lv_at hl 4 rfl) ?_
      refine xnl (j := j) hx hb hK hP (kA_lt h_r hn) (kd_arr h_r) (ixIn (a := j) rfl (by first | decide | (simp only [lenOf]; omega) | omega) (by decide)) (ixAt (a := j) rfl (by omega)) dX4_pass_52 ?_
      refine xc_i (va_runV (As := [.ref (b + (r + 1 + 1 + j))]) (rest := [.int (M r 2), .ref (b + (r + 1 + 1 + j))]) ⟨hx, hb, hml, hown, hts⟩ (c_X4_surrounding l D cy b n hn M r (r + 1 + 1 + j) h_r (kd_ins h_r (by omega))) (cwV 1 hts gX4_pass_X4_surrounding rfl rfl rfl (by decide +kernel) ⟨Nat.le_of_ble_eq_true rfl, Nat.le_of_ble_eq_true rfl⟩) (xPreV hP hK hX hS (kR_lt h_r hn) (cell4 h_r) rfl) rfl rfl hl.1 rfl (lv_room (Nat.le_of_ble_eq_true rfl)) dX4_pass_53 ⟨Nat.le_of_ble_eq_true rfl, Nat.le_of_ble_eq_true rfl⟩) hS (fun H locs hP hS => ?_)
      refine xc_v (va_runV (As := [.int (M r 2), .int (fX4_surrounding M r (r + 1 + 1 + j))]) (rest := []) ⟨hx, hb, hml, hown, hts⟩ (c_X1_age l D cy b n hn M (r + 1 + 1 + j) (M r 2) (fX4_surrounding M r (r + 1 + 1 + j)) (kd_ins h_r (by omega))) (cwV 2 hts gX4_pass_X1_age rfl rfl rfl (by decide +kernel) ⟨Nat.le_of_ble_eq_true rfl, Nat.le_of_ble_eq_true rfl⟩) (xPreV hP hK hX hS (kI_lt (kd_ins h_r (by omega)) hn) (cell1 (kd_ins h_r (by omega))) rfl) rfl rfl hl.1 rfl (lv_room (Nat.le_of_ble_eq_true rfl)) dX4_pass_56 ⟨Nat.le_of_ble_eq_true rfl, Nat.le_of_ble_eq_true rfl⟩) hS (fun H locs hP hS => ?_)
      refine lv_iinc (v := nI (j + 1)) (lv' := [(4, .int (nI (j + 1))), (0, .ref (b + r)), (1, .int x), (2, .int w), (3, .int (nI (i)))]) hx hb dX4_pass_59 hl (k := 4) rfl (ixAdd (a := j) (c := 1) (d := j + 1) rfl rfl (by omega)) (by decide) rfl (fun ls hl => ?_)
      refine lv_goto (tgt := 25) hx hb dX4_pass_62 (by decide) ?_
      rw [show LX4_pass_25g r x (k + 1) M j = LX4_pass_25g r x k (gX1_age M (r + 1 + 1 + j) (M r 2) (fX4_surrounding M r (r + 1 + 1 + j))) (j + 1) from (by rw [LX4_pass_25g, if_neg c31])] at kk
      exact ih (gX1_age M (r + 1 + 1 + j) (M r 2) (fX4_surrounding M r (r + 1 + 1 + j))) (j + 1) H locs ls (cnt_row (gX1_age_ne (by omega)) hcnt) (by omega) (by omega) hP hS (lv_sub hl [1, 2, 3, 4, 0] rfl) kk
theorem LX4_pass_25_row (r : Nat) (x : Int32) : ∀ (k : Nat) (M : Mem) (j : Nat), LX4_pass_25g r x k M j r = M r := by
  intro k
  induction k with
  | zero => intro M j; rfl
  | succ k ih =>
    intro M j
    rw [LX4_pass_25g]
    split
    · rfl
    · rw [ih, gX1_age_ne (by omega)]
def LX4_pass_7f (r : Nat) (x : Int32) : Nat → Mem → Int32 → Nat → Int32
  | 0, _, _, _ => 0
  | k + 1, M, w, i => if x ≤ (nI (i)) then ((M r 7) - w) else (if (((LX4_pass_25g r x 7 (mU M r 2 ((M r 2) + (1 : Int32))) 0) r 2) - ((LX4_pass_25g r x 7 (mU M r 2 ((M r 2) + (1 : Int32))) 0) r 2) / (60 : Int32) * (60 : Int32)) = 0 then (LX4_pass_7f r x k (gX4_bringHairs (LX4_pass_25g r x 7 (mU M r 2 ((M r 2) + (1 : Int32))) 0) r) w (i + 1)) else (LX4_pass_7f r x k (LX4_pass_25g r x 7 (mU M r 2 ((M r 2) + (1 : Int32))) 0) w (i + 1)))
def LX4_pass_7g (r : Nat) (x : Int32) : Nat → Mem → Int32 → Nat → Mem
  | 0, M, _, _ => M
  | k + 1, M, w, i => if x ≤ (nI (i)) then M else (if (((LX4_pass_25g r x 7 (mU M r 2 ((M r 2) + (1 : Int32))) 0) r 2) - ((LX4_pass_25g r x 7 (mU M r 2 ((M r 2) + (1 : Int32))) 0) r 2) / (60 : Int32) * (60 : Int32)) = 0 then (LX4_pass_7g r x k (gX4_bringHairs (LX4_pass_25g r x 7 (mU M r 2 ((M r 2) + (1 : Int32))) 0) r) w (i + 1)) else (LX4_pass_7g r x k (LX4_pass_25g r x 7 (mU M r 2 ((M r 2) + (1 : Int32))) 0) w (i + 1)))
set_option maxHeartbeats 4000000 in
set_option maxRecDepth 100000 in
theorem cl_X4_pass_7 (l : Launch) (D : va_G) (cy : Nat → ClassId) (b n : Nat) (hn : 124 ≤ n) (r : Nat) (x : Int32) (h_r : kd r = 4) (hx2 : UB x 200) {p : Program} {e : Env} {s : State} {m : MethodId} {args : Array Value} {below : List Frame} {meth : Method} {c : Code} (hx : p.tables.exec = Jvm.exec) (hb : c.code = cX4_pass) (hr : meth.sig.returnType = (some .int)) (hlocks : meth.locks = false) (hml : c.maxLocals = 5) (hown : s.vm.findClass RX4 = some m.cls) (hts : ∀ w ∈ wsX4_pass, w.before args s = true) (hK : va_K D vwCl (tysW cy) s) (hX : SX b s)  : ∀ (k : Nat) (M : Mem) (w : Int32) (i : Nat) (H : Heap) (locs : List Loc) (ls : Array Slot), CNT M r → i ≤ 200 → 201 ≤ i + k → va_P D vwCl (wL cy b fT M n) H → va_S (fr b) s.heap H locs → lv_has ls 5 [(0, .ref (b + r)), (1, .int x), (2, .int w), (3, .int (nI (i)))] → W p l e (headSpec wsX4_pass ({ frames := 3, cells := 0, slots := 0, locals := 65 } : Room)).room s m args below meth c H locs 0 0 (MQ below (CQi D cy b n fT (LX4_pass_7f r x k M w i) (LX4_pass_7g r x k M w i)) args s 0 0 (fr b)) (F0 m 7 ls []) := by
  have lk0 := hts (.fieldLink RX4 37 "HygrometerRoom$Room" "brought" "I") (by decide +kernel)
  have lk1 := hts (.fieldLink RX4 22 "HygrometerRoom$Room" "minute" "I") (by decide +kernel)
  have inc4 : ∀ w ∈ u_ws RX4 TX4 8, w ∈ wsX4_pass := by decide +kernel
  intro k
  induction k with
  | zero => intro M w i H locs ls hcnt hj hk hP hS hl; omega
  | succ k ih =>
    intro M w i H locs ls hcnt hj hk hP hS hl
    refine lv_iload_n hx hb dX4_pass_7 rfl (lv_at hl 3 rfl) ?_
    refine lv_iload_n hx hb dX4_pass_8 rfl (lv_at hl 1 rfl) ?_
    refine lv_icmp_ge (tgt := 85) hx hb dX4_pass_9 (by decide) (fun c9 => ?_) (fun c9 => ?_)
    · refine lv_aload_n hx hb dX4_pass_85 rfl (lv_at hl 0 rfl) ?_
      refine xg (C := RX4) (T := TX4) (N := 8) (v := .int (M r 7)) hx hb hts inc4 hown hK hP (kR_lt h_r hn) (cell4 h_r) rfl 7 (by decide) lk0 (fun _ h => h) rfl dX4_pass_86 ?_
      refine lv_iload_n hx hb dX4_pass_89 rfl (lv_at hl 2 rfl) ?_
      refine lv_isub hx hb dX4_pass_90 ?_
      exact xe_i hx hb hr hlocks hP hS rfl (by rw [LX4_pass_7g, if_pos c9] <;> rfl) (by rw [LX4_pass_7f, if_pos c9] <;> rfl) (Nat.le_of_ble_eq_true rfl) (Nat.le_of_ble_eq_true rfl) dX4_pass_91
    · have hi2 := ub_lt hx2 hj c9
      refine lv_aload_n hx hb dX4_pass_12 rfl (lv_at hl 0 rfl) ?_
      refine lv_dup hx hb dX4_pass_13 rfl ?_
      refine xg (C := RX4) (T := TX4) (N := 8) (v := .int (M r 2)) hx hb hts inc4 hown hK hP (kR_lt h_r hn) (cell4 h_r) rfl 2 (by decide) lk1 (fun _ h => h) rfl dX4_pass_14 ?_
      refine lv_iconst (v := 1) hx hb dX4_pass_17 (by decide) ?_
      refine lv_iadd hx hb dX4_pass_18 ?_
      refine xp (C := RX4) (T := TX4) (N := 8) (ci := 4) (ty := .int) (x := (M r 2) + (1 : Int32)) hx hb hts inc4 tyX4 tyX4_ok nmX4 hown hK hP hS (kR_lt h_r hn) (fun _ => cell4 h_r) rfl 2 (by decide) rfl lk1 (fun _ h => h) rfl (tyX4_ok 2 (by decide)) rfl rfl (Nat.le_of_ble_eq_true rfl) dX4_pass_19 (fun H locs hP hS => ?_)
      refine lv_iconst (v := 0) hx hb dX4_pass_22 (by decide) ?_
      refine lv_istore (lv' := [(4, .int (0 : Int32)), (0, .ref (b + r)), (1, .int x), (2, .int w), (3, .int (nI (i)))]) hx hb dX4_pass_23 hl (by decide) rfl (fun ls hl => ?_)
      refine cl_X4_pass_25 l D cy b n hn r x h_r hx hb hr hlocks hml hown hts hK hX w i 7 (mU M r 2 ((M r 2) + (1 : Int32))) 0 H locs ls (cnt_put (by decide) hcnt) (by omega) (by omega) hP hS (lv_sub hl [1, 2, 3, 4, 0] rfl) (fun H locs ls hP hS hl => ?_)
      refine lv_aload_n hx hb dX4_pass_65 rfl (lv_at hl 0 rfl) ?_
      refine xg (C := RX4) (T := TX4) (N := 8) (v := .int ((LX4_pass_25g r x 7 (mU M r 2 ((M r 2) + (1 : Int32))) 0) r 2)) hx hb hts inc4 hown hK hP (kR_lt h_r hn) (cell4 h_r) rfl 2 (by decide) lk1 (fun _ h => h) rfl dX4_pass_66 ?_
      refine lv_bipush (v := 60) hx hb dX4_pass_69 (by decide) ?_
      refine lv_irem hx hb dX4_pass_71 (by decide) ?_
      refine lv_if_ne (tgt := 79) hx hb dX4_pass_72 (by decide) (fun c72 => ?_) (fun c72 => ?_)
      · refine lv_iinc (v := nI (i + 1)) (lv' := [(3, .int (nI (i + 1))), (0, .ref (b + r)), (1, .int x), (2, .int w)]) hx hb dX4_pass_79 hl (k := 3) rfl (ixAdd (a := i) (c := 1) (d := i + 1) rfl rfl (by omega)) (by decide) rfl (fun ls hl => ?_)
        refine lv_goto (tgt := 7) hx hb dX4_pass_82 (by decide) ?_
        rw [show LX4_pass_7f r x (k + 1) M w i = LX4_pass_7f r x k (LX4_pass_25g r x 7 (mU M r 2 ((M r 2) + (1 : Int32))) 0) w (i + 1) from (by rw [LX4_pass_7f, if_neg c9, if_neg c72]), show LX4_pass_7g r x (k + 1) M w i = LX4_pass_7g r x k (LX4_pass_25g r x 7 (mU M r 2 ((M r 2) + (1 : Int32))) 0) w (i + 1) from (by rw [LX4_pass_7g, if_neg c9, if_neg c72])]
        exact ih (LX4_pass_25g r x 7 (mU M r 2 ((M r 2) + (1 : Int32))) 0) w (i + 1) H locs ls (by first | exact cnt_row (LX4_pass_25_row r x _ _ _) (cnt_put (by decide) hcnt) | exact gX4_bringHairs_cnt (cnt_row (LX4_pass_25_row r x _ _ _) (cnt_put (by decide) hcnt))) (by omega) (by omega) hP hS (lv_sub hl [1, 2, 3, 0] rfl)
      · refine lv_aload_n hx hb dX4_pass_75 rfl (lv_at hl 0 rfl) ?_
        refine xc_v (va_runV (As := []) (rest := []) ⟨hx, hb, hml, hown, hts⟩ (c_X4_bringHairs l D cy b n hn (LX4_pass_25g r x 7 (mU M r 2 ((M r 2) + (1 : Int32))) 0) r h_r) (cwV 0 hts gX4_pass_X4_bringHairs rfl rfl rfl (by decide +kernel) ⟨Nat.le_of_ble_eq_true rfl, Nat.le_of_ble_eq_true rfl⟩) (xPreV hP hK hX hS (kR_lt h_r hn) (cell4 h_r) rfl) rfl rfl hl.1 rfl (lv_room (Nat.le_of_ble_eq_true rfl)) dX4_pass_76 ⟨Nat.le_of_ble_eq_true rfl, Nat.le_of_ble_eq_true rfl⟩) hS (fun H locs hP hS => ?_)
        refine lv_iinc (v := nI (i + 1)) (lv' := [(3, .int (nI (i + 1))), (0, .ref (b + r)), (1, .int x), (2, .int w)]) hx hb dX4_pass_79 hl (k := 3) rfl (ixAdd (a := i) (c := 1) (d := i + 1) rfl rfl (by omega)) (by decide) rfl (fun ls hl => ?_)
        refine lv_goto (tgt := 7) hx hb dX4_pass_82 (by decide) ?_
        rw [show LX4_pass_7f r x (k + 1) M w i = LX4_pass_7f r x k (gX4_bringHairs (LX4_pass_25g r x 7 (mU M r 2 ((M r 2) + (1 : Int32))) 0) r) w (i + 1) from (by rw [LX4_pass_7f, if_neg c9, if_pos c72]), show LX4_pass_7g r x (k + 1) M w i = LX4_pass_7g r x k (gX4_bringHairs (LX4_pass_25g r x 7 (mU M r 2 ((M r 2) + (1 : Int32))) 0) r) w (i + 1) from (by rw [LX4_pass_7g, if_neg c9, if_pos c72])]
        exact ih (gX4_bringHairs (LX4_pass_25g r x 7 (mU M r 2 ((M r 2) + (1 : Int32))) 0) r) w (i + 1) H locs ls (by first | exact cnt_row (LX4_pass_25_row r x _ _ _) (cnt_put (by decide) hcnt) | exact gX4_bringHairs_cnt (cnt_row (LX4_pass_25_row r x _ _ _) (cnt_put (by decide) hcnt))) (by omega) (by omega) hP hS (lv_sub hl [1, 2, 3, 0] rfl)

def fX4_pass (M : Mem) (r : Nat) (x : Int32) : Int32 := LX4_pass_7f r x 201 M (M r 7) 0
def gX4_pass (M : Mem) (r : Nat) (x : Int32) : Mem := LX4_pass_7g r x 201 M (M r 7) 0
set_option maxHeartbeats 4000000 in
set_option maxRecDepth 100000 in
theorem c_X4_pass (l : Launch) (D : va_G) (cy : Nat → ClassId) (b n : Nat) (hn : 124 ≤ n) (M : Mem) (r : Nat) (x : Int32) (h_r : kd r = 4) (hcnt : CNT M r) (hx2 : UB x 200) : Met l yX4_pass wsX4_pass ({ frames := 3, cells := 0, slots := 0, locals := 65 } : Room) (CP D cy b n fT M [.ref (b + r), .int x]) (CQi D cy b n fT (fX4_pass M r x) (gX4_pass M r x)) 0 0 (fr b) := by
  refine Met.ofW (cc := cX4_pass) (maxL := 5) (ret := (some .int)) (by decide) rfl ?_
  intro p e s m args below meth c s₁ B hml hv
  obtain ⟨rfl, hP, hK, hX⟩ := hv
  have hx := B.exec
  have hb := B.bytes
  have hr := B.returns
  have hts := atoms_spec (ws := wsX4_pass) B.pre
  have hown : s.vm.findClass RX4 = some m.cls := findClass_of_methodNamed B.named
  have hlocks := B.notSynchronized
  have lk0 := hts (.fieldLink RX4 37 "HygrometerRoom$Room" "brought" "I") (by decide +kernel)
  have inc4 : ∀ w ∈ u_ws RX4 TX4 8, w ∈ wsX4_pass := by decide +kernel
  have hS : va_S (fr b) s.heap s.heap [] := va_S.rf
  have hl := lv_entry ([.ref (b + r), .int x]) (n := 5) (Nat.le_of_ble_eq_true rfl)
  rw [lg_entry_eq]
  generalize (lg_sl ([.ref (b + r), .int x]) ++ List.replicate (5 - (lg_sl ([.ref (b + r), .int x])).length) Slot.unset).toArray = ls at hl ⊢
  have hl : lv_has ls 5 [(0, .ref (b + r)), (1, .int x)] := hl
  refine lv_aload_n hx hb dX4_pass_0 rfl (lv_at hl 0 rfl) ?_
  refine xg (C := RX4) (T := TX4) (N := 8) (v := .int (M r 7)) hx hb hts inc4 hown hK hP (kR_lt h_r hn) (cell4 h_r) rfl 7 (by decide) lk0 (fun _ h => h) rfl dX4_pass_1 ?_
  refine lv_istore_n (lv' := [(2, .int (M r 7)), (0, .ref (b + r)), (1, .int x)]) hx hb dX4_pass_4 rfl hl (by decide) rfl (fun ls hl => ?_)
  refine lv_iconst (v := 0) hx hb dX4_pass_5 (by decide) ?_
  refine lv_istore_n (lv' := [(3, .int (0 : Int32)), (2, .int (M r 7)), (0, .ref (b + r)), (1, .int x)]) hx hb dX4_pass_6 rfl hl (by decide) rfl (fun ls hl => ?_)
  rw [show fX4_pass M r x = LX4_pass_7f r x 201 M (M r 7) 0 from (by rw [fX4_pass]), show gX4_pass M r x = LX4_pass_7g r x 201 M (M r 7) 0 from (by rw [gX4_pass])]
  exact cl_X4_pass_7 l D cy b n hn r x h_r hx2 hx hb hr hlocks hml hown hts hK hX 201 M (M r 7) 0 s.heap [] ls hcnt (by omega) (by omega) hP hS (lv_sub hl [2, 3, 1, 0] rfl)

