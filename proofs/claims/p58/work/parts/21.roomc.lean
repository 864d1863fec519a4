def LX4_countUsable_4f (r : Nat) : Nat → Mem → Int32 → Nat → Int32
  | 0, _, _, _ => 0
  | k + 1, M, u, j => if (M r 1) ≤ (nI (j)) then u else (if (fX1_flaw M (r + 1 + 1 + j)) = 0 then (LX4_countUsable_4f r k M (u + 1) (j + 1)) else (LX4_countUsable_4f r k M u (j + 1)))
set_option maxHeartbeats 4000000 in
set_option maxRecDepth 100000 in
theorem cl_X4_countUsable_4 (l : Launch) (D : va_G) (cy : Nat → ClassId) (b n : Nat) (hn : 124 ≤ n) (r : Nat) (h_r : kd r = 4) {p : Program} {e : Env} {s : State} {m : MethodId} {args : Array Value} {below : List Frame} {meth : Method} {c : Code} (hx : p.tables.exec = Jvm.exec) (hb : c.code = cX4_countUsable) (hr : meth.sig.returnType = (some .int)) (hlocks : meth.locks = false) (hml : c.maxLocals = 3) (hown : s.vm.findClass RX4 = some m.cls) (hts : ∀ w ∈ wsX4_countUsable, w.before args s = true) (hK : va_K D vwCl (tysW cy) s) (hX : SX b s)  : ∀ (k : Nat) (M : Mem) (u : Int32) (j : Nat) (H : Heap) (locs : List Loc) (ls : Array Slot), CNT M r → j ≤ 6 → 7 ≤ j + k → va_P D vwCl (wL cy b fT M n) H → va_S (fr b) s.heap H locs → lv_has ls 3 [(0, .ref (b + r)), (1, .int u), (2, .int (nI (j)))] → W p l e (headSpec wsX4_countUsable ({ frames := 2, cells := 0, slots := 0, locals := 40 } : Room)).room s m args below meth c H locs 0 0 (MQ below (CQi D cy b n fT (LX4_countUsable_4f r k M u j) M) args s 0 0 (fr b)) (F0 m 4 ls []) := by
  have lk0 := hts (.fieldLink RX4 18 "HygrometerRoom$Room" "count" "I") (by decide +kernel)
  have lk1 := hts (.fieldLink RX4 11 "HygrometerRoom$Room" "instruments" "[LHygrometerRoom$Instrument;") (by decide +kernel)
  have inc4 : ∀ w ∈ u_ws RX4 TX4 8, w ∈ wsX4_countUsable := by decide +kernel
  intro k
  induction k with
  | zero => intro M u j H locs ls hcnt hj hk hP hS hl; omega
  | succ k ih =>
    intro M u j H locs ls hcnt hj hk hP hS hl
    refine lv_iload_n hx hb dX4_countUsable_4 rfl (lv_at hl 2 rfl) ?_
    refine lv_aload_n hx hb dX4_countUsable_5 rfl (lv_at hl 0 rfl) ?_
    refine xg (C := RX4) (T := TX4) (N := 8) (v := .int (M r 1)) hx hb hts inc4 hown hK hP (kR_lt h_r hn) (cell4 h_r) rfl 1 (by decide) lk0 (fun _ h => h) rfl dX4_countUsable_6 ?_
    refine lv_icmp_ge (tgt := 33) hx hb dX4_countUsable_9 (by decide) (fun c9 => ?_) (fun c9 => ?_)
    · refine lv_iload_n hx hb dX4_countUsable_33 rfl (lv_at hl 1 rfl) ?_
      exact xe_i hx hb hr hlocks hP hS rfl rfl (by rw [LX4_countUsable_4f, if_pos c9] <;> rfl) (Nat.le_of_ble_eq_true rfl) (Nat.le_of_ble_eq_true rfl) dX4_countUsable_34
    · have hj6 := ub_lt hcnt hj c9
      refine lv_aload_n hx hb dX4_countUsable_12 rfl (lv_at hl 0 rfl) ?_
      refine xg (C := RX4) (T := TX4) (N := 8) (v := .ref (b + (r + 1))) hx hb hts inc4 hown hK hP (kR_lt h_r hn) (cell4 h_r) rfl 0 (by decide) lk1 (fun _ h => h) rfl dX4_countUsable_13 ?_
      refine lv_iload_n hx hb dX4_countUsable_16 rfl (lv_at hl 2 rfl) ?_
      refine xnl (j := j) hx hb hK hP (kA_lt h_r hn) (kd_arr h_r) (ixIn (a := j) rfl (by first | decide | (simp only [lenOf]; omega) | omega) (by decide)) (ixAt (a := j) rfl (by omega)) dX4_countUsable_17 ?_
      refine xc_i (va_runV (As := []) (rest := []) ⟨hx, hb, hml, hown, hts⟩ (c_X1_flaw l D cy b n hn M (r + 1 + 1 + j) (kd_ins h_r (by omega))) (cwV 0 hts gX4_countUsable_X1_flaw rfl rfl rfl (by decide +kernel) ⟨Nat.le_of_ble_eq_true rfl, Nat.le_of_ble_eq_true rfl⟩) (xPreV hP hK hX hS (kI_lt (kd_ins h_r (by omega)) hn) (cell1 (kd_ins h_r (by omega))) rfl) rfl rfl hl.1 rfl (lv_room (Nat.le_of_ble_eq_true rfl)) dX4_countUsable_18 ⟨Nat.le_of_ble_eq_true rfl, Nat.le_of_ble_eq_true rfl⟩) hS (fun H locs hP hS => ?_)
      refine lv_if_ne (tgt := 27) hx hb dX4_countUsable_21 (by decide) (fun c21 => ?_) (fun c21 => ?_)
      · refine lv_iinc (v := nI (j + 1)) (lv' := [(2, .int (nI (j + 1))), (0, .ref (b + r)), (1, .int u)]) hx hb dX4_countUsable_27 hl (k := 2) rfl (ixAdd (a := j) (c := 1) (d := j + 1) rfl rfl (by omega)) (by decide) rfl (fun ls hl => ?_)
        refine lv_goto (tgt := 4) hx hb dX4_countUsable_30 (by decide) ?_
        rw [show LX4_countUsable_4f r (k + 1) M u j = LX4_countUsable_4f r k M u (j + 1) from (by rw [LX4_countUsable_4f, if_neg c9, if_neg c21])]
        exact ih M u (j + 1) H locs ls hcnt (by omega) (by omega) hP hS (lv_sub hl [1, 2, 0] rfl)
      · refine lv_iinc (v := u + 1) (lv' := [(1, .int (u + 1)), (0, .ref (b + r)), (2, .int (nI (j)))]) hx hb dX4_countUsable_24 hl (k := 1) rfl rfl (by decide) rfl (fun ls hl => ?_)
        refine lv_iinc (v := nI (j + 1)) (lv' := [(2, .int (nI (j + 1))), (1, .int (u + 1)), (0, .ref (b + r))]) hx hb dX4_countUsable_27 hl (k := 2) rfl (ixAdd (a := j) (c := 1) (d := j + 1) rfl rfl (by omega)) (by decide) rfl (fun ls hl => ?_)
        refine lv_goto (tgt := 4) hx hb dX4_countUsable_30 (by decide) ?_
        rw [show LX4_countUsable_4f r (k + 1) M u j = LX4_countUsable_4f r k M (u + 1) (j + 1) from (by rw [LX4_countUsable_4f, if_neg c9, if_pos c21])]
        exact ih M (u + 1) (j + 1) H locs ls hcnt (by omega) (by omega) hP hS (lv_sub hl [2, 1, 0] rfl)

def fX4_countUsable (M : Mem) (r : Nat) : Int32 := LX4_countUsable_4f r 7 M (0 : Int32) 0
set_option maxHeartbeats 4000000 in
set_option maxRecDepth 100000 in
theorem c_X4_countUsable (l : Launch) (D : va_G) (cy : Nat → ClassId) (b n : Nat) (hn : 124 ≤ n) (M : Mem) (r : Nat) (h_r : kd r = 4) (hcnt : CNT M r) : Met l yX4_countUsable wsX4_countUsable ({ frames := 2, cells := 0, slots := 0, locals := 40 } : Room) (CP D cy b n fT M [.ref (b + r)]) (CQi D cy b n fT (fX4_countUsable M r) M) 0 0 (fr b) := by
  refine Met.ofW (cc := cX4_countUsable) (maxL := 3) (ret := (some .int)) (by decide) rfl ?_
  intro p e s m args below meth c s₁ B hml hv
  obtain ⟨rfl, hP, hK, hX⟩ := hv
  have hx := B.exec
  have hb := B.bytes
  have hr := B.returns
  have hts := atoms_spec (ws := wsX4_countUsable) B.pre
  have hown : s.vm.findClass RX4 = some m.cls := findClass_of_methodNamed B.named
  have hlocks := B.notSynchronized
  have hS : va_S (fr b) s.heap s.heap [] := va_S.rf
  have hl := lv_entry ([.ref (b + r)]) (n := 3) (Nat.le_of_ble_eq_true rfl)
  rw [lg_entry_eq]
  generalize (lg_sl ([.ref (b + r)]) ++ List.replicate (3 - (lg_sl ([.ref (b + r)])).length) Slot.unset).toArray = ls at hl ⊢
  have hl : lv_has ls 3 [(0, .ref (b + r))] := hl
  refine lv_iconst (v := 0) hx hb dX4_countUsable_0 (by decide) ?_
  refine lv_istore_n (lv' := [(1, .int (0 : Int32)), (0, .ref (b + r))]) hx hb dX4_countUsable_1 rfl hl (by decide) rfl (fun ls hl => ?_)
  refine lv_iconst (v := 0) hx hb dX4_countUsable_2 (by decide) ?_
  refine lv_istore_n (lv' := [(2, .int (0 : Int32)), (1, .int (0 : Int32)), (0, .ref (b + r))]) hx hb dX4_countUsable_3 rfl hl (by decide) rfl (fun ls hl => ?_)
  rw [show fX4_countUsable M r = LX4_countUsable_4f r 7 M (0 : Int32) 0 from (by rw [fX4_countUsable])]
  exact cl_X4_countUsable_4 l D cy b n hn r h_r hx hb hr hlocks hml hown hts hK hX 7 M (0 : Int32) 0 s.heap [] ls hcnt (by omega) (by omega) hP hS (lv_sub hl [2, 1, 0] rfl)
def LX4_blended_6f (r : Nat) : Nat → Mem → Int32 → Int32 → Nat → Int32
  | 0, _, _, _, _ => 0
  | k + 1, M, u, w, j => if (M r 1) ≤ (nI (j)) then (if w = 0 then ((-1) : Int32) else (fX7_quotient M u w)) else (LX4_blended_6f r k M (u + ((fX4_reading M r (r + 1 + 1 + j)) * (fX1_weight M (r + 1 + 1 + j)))) (w + (fX1_weight M (r + 1 + 1 + j))) (j + 1))
set_option maxHeartbeats 4000000 in
set_option maxRecDepth 100000 in
theorem cl_X4_blended_6 (l : Launch) (D : va_G) (cy : Nat → ClassId) (b n : Nat) (hn : 124 ≤ n) (r : Nat) (h_r : kd r = 4) {p : Program} {e : Env} {s : State} {m : MethodId} {args : Array Value} {below : List Frame} {meth : Method} {c : Code} (hx : p.tables.exec = Jvm.exec) (hb : c.code = cX4_blended) (hr : meth.sig.returnType = (some .int)) (hlocks : meth.locks = false) (hml : c.maxLocals = 5) (hown : s.vm.findClass RX4 = some m.cls) (hts : ∀ w ∈ wsX4_blended, w.before args s = true) (hK : va_K D vwCl (tysW cy) s) (hX : SX b s)  : ∀ (k : Nat) (M : Mem) (u : Int32) (w : Int32) (j : Nat) (H : Heap) (locs : List Loc) (ls : Array Slot), CNT M r → j ≤ 6 → 7 ≤ j + k → va_P D vwCl (wL cy b fT M n) H → va_S (fr b) s.heap H locs → lv_has ls 5 [(0, .ref (b + r)), (1, .int u), (2, .int w), (3, .int (nI (j)))] → W p l e (headSpec wsX4_blended ({ frames := 5, cells := 0, slots := 0, locals := 105 } : Room)).room s m args below meth c H locs 0 0 (MQ below (CQi D cy b n fT (LX4_blended_6f r k M u w j) M) args s 0 0 (fr b)) (F0 m 6 ls []) := by
  have lk0 := hts (.fieldLink RX4 18 "HygrometerRoom$Room" "count" "I") (by decide +kernel)
  have lk1 := hts (.static yX7_quotient) (by decide +kernel)
  have lk2 := hts (.initialized RX7) (by decide +kernel)
  have lk3 := hts (.fieldLink RX4 11 "HygrometerRoom$Room" "instruments" "[LHygrometerRoom$Instrument;") (by decide +kernel)
  have inc4 : ∀ w ∈ u_ws RX4 TX4 8, w ∈ wsX4_blended := by decide +kernel
  intro k
  induction k with
  | zero => intro M u w j H locs ls hcnt hj hk hP hS hl; omega
  | succ k ih =>
    intro M u w j H locs ls hcnt hj hk hP hS hl
    refine lv_iload_n hx hb dX4_blended_6 rfl (lv_at hl 3 rfl) ?_
    refine lv_aload_n hx hb dX4_blended_7 rfl (lv_at hl 0 rfl) ?_
    refine xg (C := RX4) (T := TX4) (N := 8) (v := .int (M r 1)) hx hb hts inc4 hown hK hP (kR_lt h_r hn) (cell4 h_r) rfl 1 (by decide) lk0 (fun _ h => h) rfl dX4_blended_8 ?_
    refine lv_icmp_ge (tgt := 52) hx hb dX4_blended_11 (by decide) (fun c11 => ?_) (fun c11 => ?_)
    · refine lv_iload_n hx hb dX4_blended_52 rfl (lv_at hl 2 rfl) ?_
      refine lv_if_ne (tgt := 60) hx hb dX4_blended_53 (by decide) (fun c53 => ?_) (fun c53 => ?_)
      · refine lv_iload_n hx hb dX4_blended_60 rfl (lv_at hl 1 rfl) ?_
        refine lv_iload_n hx hb dX4_blended_61 rfl (lv_at hl 2 rfl) ?_
        refine xc_i (va_runSN (As := [.int u, .int w]) (rest := []) ⟨hx, hb, hml, hown, hts⟩ (c_X7_quotient l D cy b n hn M u w) ⟨va_cnB 2 hts gX4_blended_X7_quotient_n90 rfl rfl rfl (hX.2.2.2.2.2.1 (RX4, 90, yX7_quotient) (by decide +kernel)) lk2 (by decide +kernel) ⟨Nat.le_of_ble_eq_true rfl, Nat.le_of_ble_eq_true rfl⟩, lk1, trivial⟩ (xPreS hP hK hX hS) rfl rfl hl.1 rfl (lv_room (Nat.le_of_ble_eq_true rfl)) dX4_blended_62 ⟨Nat.le_of_ble_eq_true rfl, Nat.le_of_ble_eq_true rfl⟩) hS (fun H locs hP hS => ?_)
        exact xe_i hx hb hr hlocks hP hS rfl rfl (by rw [LX4_blended_6f, if_pos c11, if_neg c53] <;> rfl) (Nat.le_of_ble_eq_true rfl) (Nat.le_of_ble_eq_true rfl) dX4_blended_65
      · refine lv_iconst (v := (-1)) hx hb dX4_blended_56 (by decide) ?_
        refine lv_goto (tgt := 65) hx hb dX4_blended_57 (by decide) ?_
        exact xe_i hx hb hr hlocks hP hS rfl rfl (by rw [LX4_blended_6f, if_pos c11, if_pos c53] <;> rfl) (Nat.le_of_ble_eq_true rfl) (Nat.le_of_ble_eq_true rfl) dX4_blended_65
    · have hj6 := ub_lt hcnt hj c11
      refine lv_aload_n hx hb dX4_blended_14 rfl (lv_at hl 0 rfl) ?_
      refine xg (C := RX4) (T := TX4) (N := 8) (v := .ref (b + (r + 1))) hx hb hts inc4 hown hK hP (kR_lt h_r hn) (cell4 h_r) rfl 0 (by decide) lk3 (fun _ h => h) rfl dX4_blended_15 ?_
      refine lv_iload_n hx hb dX4_blended_18 rfl (lv_at hl 3 rfl) ?_
      refine xnl (j := j) hx hb hK hP (kA_lt h_r hn) (kd_arr h_r) (ixIn (a := j) rfl (by first | decide | (simp only [lenOf]; omega) | omega) (by decide)) (ixAt (a := j) rfl (by omega)) dX4_blended_19 ?_
      refine xc_i (va_runV (As := []) (rest := []) ⟨hx, hb, hml, hown, hts⟩ (c_X1_weight l D cy b n hn M (r + 1 + 1 + j) (kd_ins h_r (by omega))) (cwV 0 hts gX4_blended_X1_weight rfl rfl rfl (by decide +kernel) ⟨Nat.le_of_ble_eq_true rfl, Nat.le_of_ble_eq_true rfl⟩) (xPreV hP hK hX hS (kI_lt (kd_ins h_r (by omega)) hn) (cell1 (kd_ins h_r (by omega))) rfl) rfl rfl hl.1 rfl (lv_room (Nat.le_of_ble_eq_true rfl)) dX4_blended_20 ⟨Nat.le_of_ble_eq_true rfl, Nat.le_of_ble_eq_true rfl⟩) hS (fun H locs hP hS => ?_)
      refine lv_istore (lv' := [(4, .int (fX1_weight M (r + 1 + 1 + j))), (0, .ref (b + r)), (1, .int u), (2, .int w), (3, .int (nI (j)))]) hx hb dX4_blended_23 hl (by decide) rfl (fun ls hl => ?_)
      refine lv_iload_n hx hb dX4_blended_25 rfl (lv_at hl 2 rfl) ?_
      refine lv_aload_n hx hb dX4_blended_26 rfl (lv_at hl 1 rfl) ?_
      refine lv_aload_n hx hb dX4_blended_27 rfl (lv_at hl 1 rfl) ?_
      refine xg (C := RX4) (T := TX4) (N := 8) (v := .ref (b + (r + 1))) hx hb hts inc4 hown hK hP (kR_lt h_r hn) (cell4 h_r) rfl 0 (by decide) lk3 (fun _ h => h) rfl dX4_blended_28 ?_
      refine lv_iload_n hx hb dX4_blended_31 rfl (lv_at hl 4 rfl) ?_
      refine xnl (j := j) hx hb hK hP (kA_lt h_r hn) (kd_arr h_r) (ixIn (a := j) rfl (by first | decide | (simp only [lenOf]; omega) | omega) (by decide)) (ixAt (a := j) rfl (by omega)) dX4_blended_32 ?_
      refine xc_i (va_runV (As := [.ref (b + (r + 1 + 1 + j))]) (rest := [.int u]) ⟨hx, hb, hml, hown, hts⟩ (c_X4_reading l D cy b n hn M r (r + 1 + 1 + j) h_r (kd_ins h_r (by omega))) (cwV 1 hts gX4_blended_X4_reading rfl rfl rfl (by decide +kernel) ⟨Nat.le_of_ble_eq_true rfl, Nat.le_of_ble_eq_true rfl⟩) (xPreV hP hK hX hS (kR_lt h_r hn) (cell4 h_r) rfl) rfl rfl hl.1 rfl (lv_room (Nat.le_of_ble_eq_true rfl)) dX4_blended_33 ⟨Nat.le_of_ble_eq_true rfl, Nat.le_of_ble_eq_true rfl⟩) hS (fun H locs hP hS => ?_)
      refine lv_iload hx hb dX4_blended_36 (lv_at hl 0 rfl) ?_
      refine lv_imul hx hb dX4_blended_38 ?_
      refine lv_iadd hx hb dX4_blended_39 ?_
      refine lv_istore_n (lv' := [(1, .int (u + ((fX4_reading M r (r + 1 + 1 + j)) * (fX1_weight M (r + 1 + 1 + j))))), (4, .int (fX1_weight M (r + 1 + 1 + j))), (0, .ref (b + r)), (2, .int w), (3, .int (nI (j)))]) hx hb dX4_blended_40 rfl hl (by decide) rfl (fun ls hl => ?_)
      refine lv_iload_n hx hb dX4_blended_41 rfl (lv_at hl 3 rfl) ?_
      refine lv_iload hx hb dX4_blended_42 (lv_at hl 1 rfl) ?_
      refine lv_iadd hx hb dX4_blended_44 ?_
      refine lv_istore_n (lv' := [(2, .int (w + (fX1_weight M (r + 1 + 1 + j)))), (1, .int (u + ((fX4_reading M r (r + 1 + 1 + j)) * (fX1_weight M (r + 1 + 1 + j))))), (4, .int (fX1_weight M (r + 1 + 1 + j))), (0, .ref (b + r)), (3, .int (nI (j)))]) hx hb dX4_blended_45 rfl hl (by decide) rfl (fun ls hl => ?_)
      refine lv_iinc (v := nI (j + 1)) (lv' := [(3, .int (nI (j + 1))), (2, .int (w + (fX1_weight M (r + 1 + 1 + j)))), (1, .int (u + ((fX4_reading M r (r + 1 + 1 + j)) * (fX1_weight M (r + 1 + 1 + j))))), (4, .int (fX1_weight M (r + 1 + 1 + j))), (0, .ref (b + r))]) hx hb dX4_blended_46 hl (k := 4) rfl (ixAdd (a := j) (c := 1) (d := j + 1) rfl rfl (by omega)) (by decide) rfl (fun ls hl => ?_)
      refine lv_goto (tgt := 6) hx hb dX4_blended_49 (by decide) ?_
      rw [show LX4_blended_6f r (k + 1) M u w j = LX4_blended_6f r k M (u + ((fX4_reading M r (r + 1 + 1 + j)) * (fX1_weight M (r + 1 + 1 + j)))) (w + (fX1_weight M (r + 1 + 1 + j))) (j + 1) from (by rw [LX4_blended_6f, if_neg c11])]
      exact ih M (u + ((fX4_reading M r (r + 1 + 1 + j)) * (fX1_weight M (r + 1 + 1 + j)))) (w + (fX1_weight M (r + 1 + 1 + j))) (j + 1) H locs ls hcnt (by omega) (by omega) hP hS (lv_sub hl [4, 2, 1, 0] rfl)

def fX4_blended (M : Mem) (r : Nat) : Int32 := LX4_blended_6f r 7 M (0 : Int32) (0 : Int32) 0
set_option maxHeartbeats 4000000 in
set_option maxRecDepth 100000 in
theorem c_X4_blended (l : Launch) (D : va_G) (cy : Nat → ClassId) (b n : Nat) (hn : 124 ≤ n) (M : Mem) (r : Nat) (h_r : kd r = 4) (hcnt : CNT M r) : Met l yX4_blended wsX4_blended ({ frames := 5, cells := 0, slots := 0, locals := 105 } : Room) (CP D cy b n fT M [.ref (b + r)]) (CQi D cy b n fT (fX4_blended M r) M) 0 0 (fr b) := by
  refine Met.ofW (cc := cX4_blended) (maxL := 5) (ret := (some .int)) (by decide) rfl ?_
  intro p e s m args below meth c s₁ B hml hv
  obtain ⟨rfl, hP, hK, hX⟩ := hv
  have hx := B.exec
  have hb := B.bytes
  have hr := B.returns
  have hts := atoms_spec (ws := wsX4_blended) B.pre
  have hown : s.vm.findClass RX4 = some m.cls := findClass_of_methodNamed B.named
  have hlocks := B.notSynchronized
  have hS : va_S (fr b) s.heap s.heap [] := va_S.rf
  have hl := lv_entry ([.ref (b + r)]) (n := 5) (Nat.le_of_ble_eq_true rfl)
  rw [lg_entry_eq]
  generalize (lg_sl ([.ref (b + r)]) ++ List.replicate (5 - (lg_sl ([.ref (b + r)])).length) Slot.unset).toArray = ls at hl ⊢
  have hl : lv_has ls 5 [(0, .ref (b + r))] := hl
  refine lv_iconst (v := 0) hx hb dX4_blended_0 (by decide) ?_
  refine lv_istore_n (lv' := [(1, .int (0 : Int32)), (0, .ref (b + r))]) hx hb dX4_blended_1 rfl hl (by decide) rfl (fun ls hl => ?_)
  refine lv_iconst (v := 0) hx hb dX4_blended_2 (by decide) ?_
  refine lv_istore_n (lv' := [(2, .int (0 : Int32)), (1, .int (0 : Int32)), (0, .ref (b + r))]) hx hb dX4_blended_3 rfl hl (by decide) rfl (fun ls hl => ?_)
  refine lv_iconst (v := 0) hx hb dX4_blended_4 (by decide) ?_
  refine lv_istore_n (lv' := [(3, .int (0 : Int32)), (2, .int (0 : Int32)), (1, .int (0 : Int32)), (0, .ref (b + r))]) hx hb dX4_blended_5 rfl hl (by decide) rfl (fun ls hl => ?_)
  rw [show fX4_blended M r = LX4_blended_6f r 7 M (0 : Int32) (0 : Int32) 0 from (by rw [fX4_blended])]
  exact cl_X4_blended_6 l D cy b n hn r h_r hx hb hr hlocks hml hown hts hK hX 7 M (0 : Int32) (0 : Int32) 0 s.heap [] ls hcnt (by omega) (by omega) hP hS (lv_sub hl [3, 2, 1, 0] rfl)
def LX4_nearest_6f (r : Nat) : Nat → Mem → Int32 → Int32 → Nat → Int32
  | 0, _, _, _, _ => 0
  | k + 1, M, u, w, j => if (M r 1) ≤ (nI (j)) then u else (if (fX1_flaw M (r + 1 + 1 + j)) = 0 then (if u = ((-1) : Int32) then (LX4_nearest_6f r k M (nI (j)) (xabs ((fX4_reading M r (r + 1 + 1 + j)) - (M r 3))) (j + 1)) else (if w ≤ (xabs ((fX4_reading M r (r + 1 + 1 + j)) - (M r 3))) then (LX4_nearest_6f r k M u w (j + 1)) else (LX4_nearest_6f r k M (nI (j)) (xabs ((fX4_reading M r (r + 1 + 1 + j)) - (M r 3))) (j + 1)))) else (LX4_nearest_6f r k M u w (j + 1)))
set_option maxHeartbeats 4000000 in
set_option maxRecDepth 100000 in
theorem cl_X4_nearest_6 (l : Launch) (D : va_G) (cy : Nat → ClassId) (b n : Nat) (hn : 124 ≤ n) (r : Nat) (h_r : kd r = 4) {p : Program} {e : Env} {s : State} {m : MethodId} {args : Array Value} {below : List Frame} {meth : Method} {c : Code} (hx : p.tables.exec = Jvm.exec) (hb : c.code = cX4_nearest) (hr : meth.sig.returnType = (some .int)) (hlocks : meth.locks = false) (hml : c.maxLocals = 5) (hown : s.vm.findClass RX4 = some m.cls) (hts : ∀ w ∈ wsX4_nearest, w.before args s = true) (hK : va_K D vwCl (tysW cy) s) (hX : SX b s)  : ∀ (k : Nat) (M : Mem) (u : Int32) (w : Int32) (j : Nat) (H : Heap) (locs : List Loc) (ls : Array Slot), CNT M r → j ≤ 6 → 7 ≤ j + k → va_P D vwCl (wL cy b fT M n) H → va_S (fr b) s.heap H locs → lv_has ls 5 [(0, .ref (b + r)), (1, .int u), (2, .int w), (3, .int (nI (j)))] → W p l e (headSpec wsX4_nearest ({ frames := 5, cells := 0, slots := 0, locals := 105 } : Room)).room s m args below meth c H locs 0 0 (MQ below (CQi D cy b n fT (LX4_nearest_6f r k M u w j) M) args s 0 0 (fr b)) (F0 m 6 ls []) := by
  have lk0 := hts (.fieldLink RX4 18 "HygrometerRoom$Room" "count" "I") (by decide +kernel)
  have lk1 := hts (.fieldLink RX4 11 "HygrometerRoom$Room" "instruments" "[LHygrometerRoom$Instrument;") (by decide +kernel)
  have lk2 := hts (.fieldLink RX4 25 "HygrometerRoom$Room" "humidity" "I") (by decide +kernel)
  have lk3 := hts (.methodLink RX4 120 Lib.Math.abs.name) (by decide +kernel)
  have lk4 := hts (.static Lib.Math.abs.name) (by decide +kernel)
  have lk5 := hts (.initialized "java/lang/Math") (by decide +kernel)
  have lk6 := hts (.code Lib.Math.abs.name Lib.Math.abs.code 1 (some .int)) (by decide +kernel)
  have inc4 : ∀ w ∈ u_ws RX4 TX4 8, w ∈ wsX4_nearest := by decide +kernel
  intro k
  induction k with
  | zero => intro M u w j H locs ls hcnt hj hk hP hS hl; omega
  | succ k ih =>
    intro M u w j H locs ls hcnt hj hk hP hS hl
    refine lv_iload_n hx hb dX4_nearest_6 rfl (lv_at hl 3 rfl) ?_
    refine lv_aload_n hx hb dX4_nearest_7 rfl (lv_at hl 0 rfl) ?_
    refine xg (C := RX4) (T := TX4) (N := 8) (v := .int (M r 1)) hx hb hts inc4 hown hK hP (kR_lt h_r hn) (cell4 h_r) rfl 1 (by decide) lk0 (fun _ h => h) rfl dX4_nearest_8 ?_
    refine lv_icmp_ge (tgt := 68) hx hb dX4_nearest_11 (by decide) (fun c11 => ?_) (fun c11 => ?_)
    · refine lv_iload_n hx hb dX4_nearest_68 rfl (lv_at hl 1 rfl) ?_
      exact xe_i hx hb hr hlocks hP hS rfl rfl (by rw [LX4_nearest_6f, if_pos c11] <;> rfl) (Nat.le_of_ble_eq_true rfl) (Nat.le_of_ble_eq_true rfl) dX4_nearest_69
    · have hj6 := ub_lt hcnt hj c11
      refine lv_aload_n hx hb dX4_nearest_14 rfl (lv_at hl 0 rfl) ?_
      refine lv_aload_n hx hb dX4_nearest_15 rfl (lv_at hl 0 rfl) ?_
      refine xg (C := RX4) (T := TX4) (N := 8) (v := .ref (b + (r + 1))) hx hb hts inc4 hown hK hP (kR_lt h_r hn) (cell4 h_r) rfl 0 (by decide) lk1 (fun _ h => h) rfl dX4_nearest_16 ?_
      refine lv_iload_n hx hb dX4_nearest_19 rfl (lv_at hl 3 rfl) ?_
      refine xnl (j := j) hx hb hK hP (kA_lt h_r hn) (kd_arr h_r) (ixIn (a := j) rfl (by first | decide | (simp only [lenOf]; omega) | omega) (by decide)) (ixAt (a := j) rfl (by omega)) dX4_nearest_20 ?_
      refine xc_i (va_runV (As := [.ref (b + (r + 1 + 1 + j))]) (rest := []) ⟨hx, hb, hml, hown, hts⟩ (c_X4_reading l D cy b n hn M r (r + 1 + 1 + j) h_r (kd_ins h_r (by omega))) (cwV 1 hts gX4_nearest_X4_reading rfl rfl rfl (by decide +kernel) ⟨Nat.le_of_ble_eq_true rfl, Nat.le_of_ble_eq_true rfl⟩) (xPreV hP hK hX hS (kR_lt h_r hn) (cell4 h_r) rfl) rfl rfl hl.1 rfl (lv_room (Nat.le_of_ble_eq_true rfl)) dX4_nearest_21 ⟨Nat.le_of_ble_eq_true rfl, Nat.le_of_ble_eq_true rfl⟩) hS (fun H locs hP hS => ?_)
      refine lv_aload_n hx hb dX4_nearest_24 rfl (lv_at hl 0 rfl) ?_
      refine xg (C := RX4) (T := TX4) (N := 8) (v := .int (M r 3)) hx hb hts inc4 hown hK hP (kR_lt h_r hn) (cell4 h_r) rfl 3 (by decide) lk2 (fun _ h => h) rfl dX4_nearest_25 ?_
      refine lv_isub hx hb dX4_nearest_28 ?_
      refine x_mabs hx hb (hml.trans hl.1.symm) hown lk3 lk4 lk5 lk6 (Nat.le_of_ble_eq_true rfl) (Nat.le_of_ble_eq_true rfl) (Nat.le_of_ble_eq_true rfl) (Nat.le_of_ble_eq_true rfl) dX4_nearest_29 ?_
      refine lv_istore (lv' := [(4, .int (xabs ((fX4_reading M r (r + 1 + 1 + j)) - (M r 3)))), (0, .ref (b + r)), (1, .int u), (2, .int w), (3, .int (nI (j)))]) hx hb dX4_nearest_32 hl (by decide) rfl (fun ls hl => ?_)
      refine lv_aload_n hx hb dX4_nearest_34 rfl (lv_at hl 1 rfl) ?_
      refine xg (C := RX4) (T := TX4) (N := 8) (v := .ref (b + (r + 1))) hx hb hts inc4 hown hK hP (kR_lt h_r hn) (cell4 h_r) rfl 0 (by decide) lk1 (fun _ h => h) rfl dX4_nearest_35 ?_
      refine lv_iload_n hx hb dX4_nearest_38 rfl (lv_at hl 4 rfl) ?_
      refine xnl (j := j) hx hb hK hP (kA_lt h_r hn) (kd_arr h_r) (ixIn (a := j) rfl (by first | decide | (simp only [lenOf]; omega) | omega) (by decide)) (ixAt (a := j) rfl (by omega)) dX4_nearest_39 ?_
      refine xc_i (va_runV (As := []) (rest := []) ⟨hx, hb, hml, hown, hts⟩ (c_X1_flaw l D cy b n hn M (r + 1 + 1 + j) (kd_ins h_r (by omega))) (cwV 0 hts gX4_nearest_X1_flaw rfl rfl rfl (by decide +kernel) ⟨Nat.le_of_ble_eq_true rfl, Nat.le_of_ble_eq_true rfl⟩) (xPreV hP hK hX hS (kI_lt (kd_ins h_r (by omega)) hn) (cell1 (kd_ins h_r (by omega))) rfl) rfl rfl hl.1 rfl (lv_room (Nat.le_of_ble_eq_true rfl)) dX4_nearest_40 ⟨Nat.le_of_ble_eq_true rfl, Nat.le_of_ble_eq_true rfl⟩) hS (fun H locs hP hS => ?_)
      refine lv_if_ne (tgt := 62) hx hb dX4_nearest_43 (by decide) (fun c43 => ?_) (fun c43 => ?_)
      · refine lv_iinc (v := nI (j + 1)) (lv' := [(3, .int (nI (j + 1))), (4, .int (xabs ((fX4_reading M r (r + 1 + 1 + j)) - (M r 3)))), (0, .ref (b + r)), (1, .int u), (2, .int w)]) hx hb dX4_nearest_62 hl (k := 4) rfl (ixAdd (a := j) (c := 1) (d := j + 1) rfl rfl (by omega)) (by decide) rfl (fun ls hl => ?_)
        refine lv_goto (tgt := 6) hx hb dX4_nearest_65 (by decide) ?_
        rw [show LX4_nearest_6f r (k + 1) M u w j = LX4_nearest_6f r k M u w (j + 1) from (by rw [LX4_nearest_6f, if_neg c11, if_neg c43])]
        exact ih M u w (j + 1) H locs ls hcnt (by omega) (by omega) hP hS (lv_sub hl [2, 3, 4, 0] rfl)
      · refine lv_iload_n hx hb dX4_nearest_46 rfl (lv_at hl 2 rfl) ?_
        refine lv_iconst (v := (-1)) hx hb dX4_nearest_47 (by decide) ?_
        refine lv_icmp_eq (tgt := 57) hx hb dX4_nearest_48 (by decide) (fun c48 => ?_) (fun c48 => ?_)
        · refine lv_iload_n hx hb dX4_nearest_57 rfl (lv_at hl 4 rfl) ?_
          refine lv_istore_n (lv' := [(1, .int (nI (j))), (4, .int (xabs ((fX4_reading M r (r + 1 + 1 + j)) - (M r 3)))), (0, .ref (b + r)), (2, .int w), (3, .int (nI (j)))]) hx hb dX4_nearest_58 rfl hl (by decide) rfl (fun ls hl => ?_)
          refine lv_iload hx hb dX4_nearest_59 (lv_at hl 1 rfl) ?_
          refine lv_istore_n (lv' := [(2, .int (xabs ((fX4_reading M r (r + 1 + 1 + j)) - (M r 3)))), (1, .int (nI (j))), (4, .int (xabs ((fX4_reading M r (r + 1 + 1 + j)) - (M r 3)))), (0, .ref (b + r)), (3, .int (nI (j)))]) hx hb dX4_nearest_61 rfl hl (by decide) rfl (fun ls hl => ?_)
          refine lv_iinc (v := nI (j + 1)) (lv' := [(3, .int (nI (j + 1))), (2, .int (xabs ((fX4_reading M r (r + 1 + 1 + j)) - (M r 3)))), (1, .int (nI (j))), (4, .int (xabs ((fX4_reading M r (r + 1 + 1 + j)) - (M r 3)))), (0, .ref (b + r))]) hx hb dX4_nearest_62 hl (k := 4) rfl (ixAdd (a := j) (c := 1) (d := j + 1) rfl rfl (by omega)) (by decide) rfl (fun ls hl => ?_)
          refine lv_goto (tgt := 6) hx hb dX4_nearest_65 (by decide) ?_
          rw [show LX4_nearest_6f r (k + 1) M u w j = LX4_nearest_6f r k M (nI (j)) (xabs ((fX4_reading M r (r + 1 + 1 + j)) - (M r 3))) (j + 1) from (by rw [LX4_nearest_6f, if_neg c11, if_pos c43, if_pos c48])]
          exact ih M (nI (j)) (xabs ((fX4_reading M r (r + 1 + 1 + j)) - (M r 3))) (j + 1) H locs ls hcnt (by omega) (by omega) hP hS (lv_sub hl [4, 2, 1, 0] rfl)
        · refine lv_iload hx hb dX4_nearest_51 (lv_at hl 0 rfl) ?_
          refine lv_iload_n hx hb dX4_nearest_53 rfl (lv_at hl 3 rfl) ?_
          refine lv_icmp_ge (tgt := 62) hx hb dX4_nearest_54 (by decide) (fun c54 => ?_) (fun c54 => ?_)
          · refine lv_iinc (v := nI (j + 1)) (lv' := [(3, .int (nI (j + 1))), (4, .int (xabs ((fX4_reading M r (r + 1 + 1 + j)) - (M r 3)))), (0, .ref (b + r)), (1, .int u), (2, .int w)]) hx hb dX4_nearest_62 hl (k := 4) rfl (ixAdd (a := j) (c := 1) (d := j + 1) rfl rfl (by omega)) (by decide) rfl (fun ls hl => ?_)
            refine lv_goto (tgt := 6) hx hb dX4_nearest_65 (by decide) ?_
            rw [show LX4_nearest_6f r (k + 1) M u w j = LX4_nearest_6f r k M u w (j + 1) from (by rw [LX4_nearest_6f, if_neg c11, if_pos c43, if_neg c48, if_pos c54])]
            exact ih M u w (j + 1) H locs ls hcnt (by omega) (by omega) hP hS (lv_sub hl [2, 3, 4, 0] rfl)
          · refine lv_iload_n hx hb dX4_nearest_57 rfl (lv_at hl 4 rfl) ?_
            refine lv_istore_n (lv' := [(1, .int (nI (j))), (4, .int (xabs ((fX4_reading M r (r + 1 + 1 + j)) - (M r 3)))), (0, .ref (b + r)), (2, .int w), (3, .int (nI (j)))]) hx hb dX4_nearest_58 rfl hl (by decide) rfl (fun ls hl => ?_)
            refine lv_iload hx hb dX4_nearest_59 (lv_at hl 1 rfl) ?_
            refine lv_istore_n (lv' := [(2, .int (xabs ((fX4_reading M r (r + 1 + 1 + j)) - (M r 3)))), (1, .int (nI (j))), (4, .int (xabs ((fX4_reading M r (r + 1 + 1 + j)) - (M r 3)))), (0, .ref (b + r)), (3, .int (nI (j)))]) hx hb dX4_nearest_61 rfl hl (by decide) rfl (fun ls hl => ?_)
            refine lv_iinc (v := nI (j + 1)) (lv' := [(3, .int (nI (j + 1))), (2, .int (xabs ((fX4_reading M r (r + 1 + 1 + j)) - (M r 3)))), (1, .int (nI (j))), (4, .int (xabs ((fX4_reading M r (r + 1 + 1 + j)) - (M r 3)))), (0, .ref (b + r))]) hx hb dX4_nearest_62 hl (k := 4) rfl (ixAdd (a := j) (c := 1) (d := j + 1) rfl rfl (by omega)) (by decide) rfl (fun ls hl => ?_)
            refine lv_goto (tgt := 6) hx hb dX4_nearest_65 (by decide) ?_
            rw [show LX4_nearest_6f r (k + 1) M u w j = LX4_nearest_6f r k M (nI (j)) (xabs ((fX4_reading M r (r + 1 + 1 + j)) - (M r 3))) (j + 1) from (by rw [LX4_nearest_6f, if_neg c11, if_pos c43, if_neg c48, if_neg c54])]
            exact ih M (nI (j)) (xabs ((fX4_reading M r (r + 1 + 1 + j)) - (M r 3))) (j + 1) H locs ls hcnt (by omega) (by omega) hP hS (lv_sub hl [4, 2, 1, 0] rfl)

def fX4_nearest (M : Mem) (r : Nat) : Int32 := LX4_nearest_6f r 7 M ((-1) : Int32) (0 : Int32) 0
set_option maxHeartbeats 4000000 in
set_option maxRecDepth 100000 in
theorem c_X4_nearest (l : Launch) (D : va_G) (cy : Nat → ClassId) (b n : Nat) (hn : 124 ≤ n) (M : Mem) (r : Nat) (h_r : kd r = 4) (hcnt : CNT M r) : Met l yX4_nearest wsX4_nearest ({ frames := 5, cells := 0, slots := 0, locals := 105 } : Room) (CP D cy b n fT M [.ref (b + r)]) (CQi D cy b n fT (fX4_nearest M r) M) 0 0 (fr b) := by
  refine Met.ofW (cc := cX4_nearest) (maxL := 5) (ret := (some .int)) (by decide) rfl ?_
  intro p e s m args below meth c s₁ B hml hv
  obtain ⟨rfl, hP, hK, hX⟩ := hv
  have hx := B.exec
  have hb := B.bytes
  have hr := B.returns
  have hts := atoms_spec (ws := wsX4_nearest) B.pre
  have hown : s.vm.findClass RX4 = some m.cls := findClass_of_methodNamed B.named
  have hlocks := B.notSynchronized
  have hS : va_S (fr b) s.heap s.heap [] := va_S.rf
  have hl := lv_entry ([.ref (b + r)]) (n := 5) (Nat.le_of_ble_eq_true rfl)
  rw [lg_entry_eq]
  generalize (lg_sl ([.ref (b + r)]) ++ List.replicate (5 - (lg_sl ([.ref (b + r)])).length) Slot.unset).toArray = ls at hl ⊢
  have hl : lv_has ls 5 [(0, .ref (b + r))] := hl
  refine lv_iconst (v := (-1)) hx hb dX4_nearest_0 (by decide) ?_
  refine lv_istore_n (lv' := [(1, .int ((-1) : Int32)), (0, .ref (b + r))]) hx hb dX4_nearest_1 rfl hl (by decide) rfl (fun ls hl => ?_)
  refine lv_iconst (v := 0) hx hb dX4_nearest_2 (by decide) ?_
  refine lv_istore_n (lv' := [(2, .int (0 : Int32)), (1, .int ((-1) : Int32)), (0, .ref (b + r))]) hx hb dX4_nearest_3 rfl hl (by decide) rfl (fun ls hl => ?_)
  refine lv_iconst (v := 0) hx hb dX4_nearest_4 (by decide) ?_
  refine lv_istore_n (lv' := [(3, .int (0 : Int32)), (2, .int (0 : Int32)), (1, .int ((-1) : Int32)), (0, .ref (b + r))]) hx hb dX4_nearest_5 rfl hl (by decide) rfl (fun ls hl => ?_)
  rw [show fX4_nearest M r = LX4_nearest_6f r 7 M ((-1) : Int32) (0 : Int32) 0 from (by rw [fX4_nearest])]
  exact cl_X4_nearest_6 l D cy b n hn r h_r hx hb hr hlocks hml hown hts hK hX 7 M ((-1) : Int32) (0 : Int32) 0 s.heap [] ls hcnt (by omega) (by omega) hP hS (lv_sub hl [3, 2, 1, 0] rfl)
def LX4_slackest_6f (r : Nat) : Nat → Mem → Int32 → Int32 → Nat → Int32
  | 0, _, _, _, _ => 0
  | k + 1, M, u, w, j => if (M r 1) ≤ (nI (j)) then u else (if (bv (M (r + 1 + 1 + j) 0)) = 0 then (LX4_slackest_6f r k M u w (j + 1)) else (if u = ((-1) : Int32) then (LX4_slackest_6f r k M (nI (j)) (M (r + 1 + 1 + j) 5) (j + 1)) else (if (M (r + 1 + 1 + j) 5) ≤ w then (LX4_slackest_6f r k M u w (j + 1)) else (LX4_slackest_6f r k M (nI (j)) (M (r + 1 + 1 + j) 5) (j + 1)))))
set_option maxHeartbeats 4000000 in
set_option maxRecDepth 100000 in
theorem cl_X4_slackest_6 (l : Launch) (D : va_G) (cy : Nat → ClassId) (b n : Nat) (hn : 124 ≤ n) (r : Nat) (h_r : kd r = 4) {p : Program} {e : Env} {s : State} {m : MethodId} {args : Array Value} {below : List Frame} {meth : Method} {c : Code} (hx : p.tables.exec = Jvm.exec) (hb : c.code = cX4_slackest) (hr : meth.sig.returnType = (some .int)) (hlocks : meth.locks = false) (hml : c.maxLocals = 5) (hown : s.vm.findClass RX4 = some m.cls) (hts : ∀ w ∈ wsX4_slackest, w.before args s = true) (hK : va_K D vwCl (tysW cy) s) (hX : SX b s)  : ∀ (k : Nat) (M : Mem) (u : Int32) (w : Int32) (j : Nat) (H : Heap) (locs : List Loc) (ls : Array Slot), CNT M r → j ≤ 6 → 7 ≤ j + k → va_P D vwCl (wL cy b fT M n) H → va_S (fr b) s.heap H locs → lv_has ls 5 [(0, .ref (b + r)), (1, .int u), (2, .int w), (3, .int (nI (j)))] → W p l e (headSpec wsX4_slackest ({ frames := 0, cells := 0, slots := 0, locals := 0 } : Room)).room s m args below meth c H locs 0 0 (MQ below (CQi D cy b n fT (LX4_slackest_6f r k M u w j) M) args s 0 0 (fr b)) (F0 m 6 ls []) := by
  have lk0 := hts (.fieldLink RX4 18 "HygrometerRoom$Room" "count" "I") (by decide +kernel)
  have lk1 := hts (.fieldLink RX4 11 "HygrometerRoom$Room" "instruments" "[LHygrometerRoom$Instrument;") (by decide +kernel)
  have lk2 := hts (.fieldLink RX4 77 "HygrometerRoom$Instrument" "hair" "Z") (by decide +kernel)
  have lk3 := hts (.fieldLink RX4 84 "HygrometerRoom$Instrument" "slack" "I") (by decide +kernel)
  have inc1 : ∀ w ∈ u_ws RX1 TX1 9, w ∈ wsX4_slackest := by decide +kernel
  have inc4 : ∀ w ∈ u_ws RX4 TX4 8, w ∈ wsX4_slackest := by decide +kernel
  intro k
  induction k with
  | zero => intro M u w j H locs ls hcnt hj hk hP hS hl; omega
  | succ k ih =>
    intro M u w j H locs ls hcnt hj hk hP hS hl
    refine lv_iload_n hx hb dX4_slackest_6 rfl (lv_at hl 3 rfl) ?_
    refine lv_aload_n hx hb dX4_slackest_7 rfl (lv_at hl 0 rfl) ?_
    refine xg (C := RX4) (T := TX4) (N := 8) (v := .int (M r 1)) hx hb hts inc4 hown hK hP (kR_lt h_r hn) (cell4 h_r) rfl 1 (by decide) lk0 (fun _ h => h) rfl dX4_slackest_8 ?_
    refine lv_icmp_ge (tgt := 58) hx hb dX4_slackest_11 (by decide) (fun c11 => ?_) (fun c11 => ?_)
    · refine lv_iload_n hx hb dX4_slackest_58 rfl (lv_at hl 1 rfl) ?_
      exact xe_i hx hb hr hlocks hP hS rfl rfl (by rw [LX4_slackest_6f, if_pos c11] <;> rfl) (Nat.le_of_ble_eq_true rfl) (Nat.le_of_ble_eq_true rfl) dX4_slackest_59
    · have hj6 := ub_lt hcnt hj c11
      refine lv_aload_n hx hb dX4_slackest_14 rfl (lv_at hl 0 rfl) ?_
      refine xg (C := RX4) (T := TX4) (N := 8) (v := .ref (b + (r + 1))) hx hb hts inc4 hown hK hP (kR_lt h_r hn) (cell4 h_r) rfl 0 (by decide) lk1 (fun _ h => h) rfl dX4_slackest_15 ?_
      refine lv_iload_n hx hb dX4_slackest_18 rfl (lv_at hl 3 rfl) ?_
      refine xnl (j := j) hx hb hK hP (kA_lt h_r hn) (kd_arr h_r) (ixIn (a := j) rfl (by first | decide | (simp only [lenOf]; omega) | omega) (by decide)) (ixAt (a := j) rfl (by omega)) dX4_slackest_19 ?_
      refine lv_astore (lv' := [(4, .ref (b + (r + 1 + 1 + j))), (0, .ref (b + r)), (1, .int u), (2, .int w), (3, .int (nI (j)))]) hx hb dX4_slackest_20 hl (by decide) rfl (fun ls hl => ?_)
      refine lv_aload hx hb dX4_slackest_22 (lv_at hl 0 rfl) ?_
      refine xg (C := RX1) (T := TX1) (N := 9) (v := .int (bv (M (r + 1 + 1 + j) 0))) hx hb hts inc1 hown hK hP (kI_lt (kd_ins h_r (by omega)) hn) (cell1 (kd_ins h_r (by omega))) rfl 0 (by decide) lk2 (fun _ h => h) rfl dX4_slackest_24 ?_
      refine lv_if_eq (tgt := 52) hx hb dX4_slackest_27 (by decide) (fun c27 => ?_) (fun c27 => ?_)
      · refine lv_iinc (v := nI (j + 1)) (lv' := [(3, .int (nI (j + 1))), (4, .ref (b + (r + 1 + 1 + j))), (0, .ref (b + r)), (1, .int u), (2, .int w)]) hx hb dX4_slackest_52 hl (k := 4) rfl (ixAdd (a := j) (c := 1) (d := j + 1) rfl rfl (by omega)) (by decide) rfl (fun ls hl => ?_)
        refine lv_goto (tgt := 6) hx hb dX4_slackest_55 (by decide) ?_
        rw [show LX4_slackest_6f r (k + 1) M u w j = LX4_slackest_6f r k M u w (j + 1) from (by rw [LX4_slackest_6f, if_neg c11, if_pos c27])]
        exact ih M u w (j + 1) H locs ls hcnt (by omega) (by omega) hP hS (lv_sub hl [2, 3, 4, 0] rfl)
      · refine lv_iload_n hx hb dX4_slackest_30 rfl (lv_at hl 2 rfl) ?_
        refine lv_iconst (v := (-1)) hx hb dX4_slackest_31 (by decide) ?_
        refine lv_icmp_eq (tgt := 44) hx hb dX4_slackest_32 (by decide) (fun c32 => ?_) (fun c32 => ?_)
        · refine lv_iload_n hx hb dX4_slackest_44 rfl (lv_at hl 4 rfl) ?_
          refine lv_istore_n (lv' := [(1, .int (nI (j))), (4, .ref (b + (r + 1 + 1 + j))), (0, .ref (b + r)), (2, .int w), (3, .int (nI (j)))]) hx hb dX4_slackest_45 rfl hl (by decide) rfl (fun ls hl => ?_)
          refine lv_aload hx hb dX4_slackest_46 (lv_at hl 1 rfl) ?_
          refine xg (C := RX1) (T := TX1) (N := 9) (v := .int (M (r + 1 + 1 + j) 5)) hx hb hts inc1 hown hK hP (kI_lt (kd_ins h_r (by omega)) hn) (cell1 (kd_ins h_r (by omega))) rfl 5 (by decide) lk3 (fun _ h => h) rfl dX4_slackest_48 ?_
          refine lv_istore_n (lv' := [(2, .int (M (r + 1 + 1 + j) 5)), (1, .int (nI (j))), (4, .ref (b + (r + 1 + 1 + j))), (0, .ref (b + r)), (3, .int (nI (j)))]) hx hb dX4_slackest_51 rfl hl (by decide) rfl (fun ls hl => ?_)
          refine lv_iinc (v := nI (j + 1)) (lv' := [(3, .int (nI (j + 1))), (2, .int (M (r + 1 + 1 + j) 5)), (1, .int (nI (j))), (4, .ref (b + (r + 1 + 1 + j))), (0, .ref (b + r))]) hx hb dX4_slackest_52 hl (k := 4) rfl (ixAdd (a := j) (c := 1) (d := j + 1) rfl rfl (by omega)) (by decide) rfl (fun ls hl => ?_)
          refine lv_goto (tgt := 6) hx hb dX4_slackest_55 (by decide) ?_
          rw [show LX4_slackest_6f r (k + 1) M u w j = LX4_slackest_6f r k M (nI (j)) (M (r + 1 + 1 + j) 5) (j + 1) from (by rw [LX4_slackest_6f, if_neg c11, if_neg c27, if_pos c32])]
          exact ih M (nI (j)) (M (r + 1 + 1 + j) 5) (j + 1) H locs ls hcnt (by omega) (by omega) hP hS (lv_sub hl [4, 2, 1, 0] rfl)
        · refine lv_aload hx hb dX4_slackest_35 (lv_at hl 0 rfl) ?_
          refine xg (C := RX1) (T := TX1) (N := 9) (v := .int (M (r + 1 + 1 + j) 5)) hx hb hts inc1 hown hK hP (kI_lt (kd_ins h_r (by omega)) hn) (cell1 (kd_ins h_r (by omega))) rfl 5 (by decide) lk3 (fun _ h => h) rfl dX4_slackest_37 ?_
          refine lv_iload_n hx hb dX4_slackest_40 rfl (lv_at hl 3 rfl) ?_
          refine lv_icmp_le (tgt := 52) hx hb dX4_slackest_41 (by decide) (fun c41 => ?_) (fun c41 => ?_)
          · refine lv_iinc (v := nI (j + 1)) (lv' := [(3, .int (nI (j + 1))), (4, .ref (b + (r + 1 + 1 + j))), (0, .ref (b + r)), (1, .int u), (2, .int w)]) hx hb dX4_slackest_52 hl (k := 4) rfl (ixAdd (a := j) (c := 1) (d := j + 1) rfl rfl (by omega)) (by decide) rfl (fun ls hl => ?_)
            refine lv_goto (tgt := 6) hx hb dX4_slackest_55 (by decide) ?_
            rw [show LX4_slackest_6f r (k + 1) M u w j = LX4_slackest_6f r k M u w (j + 1) from (by rw [LX4_slackest_6f, if_neg c11, if_neg c27, if_neg c32, if_pos c41])]
            exact ih M u w (j + 1) H locs ls hcnt (by omega) (by omega) hP hS (lv_sub hl [2, 3, 4, 0] rfl)
          · refine lv_iload_n hx hb dX4_slackest_44 rfl (lv_at hl 4 rfl) ?_
            refine lv_istore_n (lv' := [(1, .int (nI (j))), (4, .ref (b + (r + 1 + 1 + j))), (0, .ref (b + r)), (2, .int w), (3, .int (nI (j)))]) hx hb dX4_slackest_45 rfl hl (by decide) rfl (fun ls hl => ?_)
            refine lv_aload hx hb dX4_slackest_46 (lv_at hl 1 rfl) ?_
            refine xg (C := RX1) (T := TX1) (N := 9) (v := .int (M (r + 1 + 1 + j) 5)) hx hb hts inc1 hown hK hP (kI_lt (kd_ins h_r (by omega)) hn) (cell1 (kd_ins h_r (by omega))) rfl 5 (by decide) lk3 (fun _ h => h) rfl dX4_slackest_48 ?_
            refine lv_istore_n (lv' := [(2, .int (M (r + 1 + 1 + j) 5)), (1, .int (nI (j))), (4, .ref (b + (r + 1 + 1 + j))), (0, .ref (b + r)), (3, .int (nI (j)))]) hx hb dX4_slackest_51 rfl hl (by decide) rfl (fun ls hl => ?_)
            refine lv_iinc (v := nI (j + 1)) (lv' := [(3, .int (nI (j + 1))), (2, .int (M (r + 1 + 1 + j) 5)), (1, .int (nI (j))), (4, .ref (b + (r + 1 + 1 + j))), (0, .ref (b + r))]) hx hb dX4_slackest_52 hl (k := 4) rfl (ixAdd (a := j) (c := 1) (d := j + 1) rfl rfl (by omega)) (by decide) rfl (fun ls hl => ?_)
            refine lv_goto (tgt := 6) hx hb dX4_slackest_55 (by decide) ?_
            rw [show LX4_slackest_6f r (k + 1) M u w j = LX4_slackest_6f r k M (nI (j)) (M (r + 1 + 1 + j) 5) (j + 1) from (by rw [LX4_slackest_6f, if_neg c11, if_neg c27, if_neg c32, if_neg c41])]
            exact ih M (nI (j)) (M (r + 1 + 1 + j) 5) (j + 1) H locs ls hcnt (by omega) (by omega) hP hS (lv_sub hl [4, 2, 1, 0] rfl)

def fX4_slackest (M : Mem) (r : Nat) : Int32 := LX4_slackest_6f r 7 M ((-1) : Int32) (0 : Int32) 0
set_option maxHeartbeats 4000000 in
set_option maxRecDepth 100000 in
theorem c_X4_slackest (l : Launch) (D : va_G) (cy : Nat → ClassId) (b n : Nat) (hn : 124 ≤ n) (M : Mem) (r : Nat) (h_r : kd r = 4) (hcnt : CNT M r) : Met l yX4_slackest wsX4_slackest ({ frames := 0, cells := 0, slots := 0, locals := 0 } : Room) (CP D cy b n fT M [.ref (b + r)]) (CQi D cy b n fT (fX4_slackest M r) M) 0 0 (fr b) := by
  refine Met.ofW (cc := cX4_slackest) (maxL := 5) (ret := (some .int)) (by decide) rfl ?_
  intro p e s m args below meth c s₁ B hml hv
  obtain ⟨rfl, hP, hK, hX⟩ := hv
  have hx := B.exec
  have hb := B.bytes
  have hr := B.returns
  have hts := atoms_spec (ws := wsX4_slackest) B.pre
  have hown : s.vm.findClass RX4 = some m.cls := findClass_of_methodNamed B.named
  have hlocks := B.notSynchronized
  have hS : va_S (fr b) s.heap s.heap [] := va_S.rf
  have hl := lv_entry ([.ref (b + r)]) (n := 5) (Nat.le_of_ble_eq_true rfl)
  rw [lg_entry_eq]
  generalize (lg_sl ([.ref (b + r)]) ++ List.replicate (5 - (lg_sl ([.ref (b + r)])).length) Slot.unset).toArray = ls at hl ⊢
  have hl : lv_has ls 5 [(0, .ref (b + r))] := hl
  refine lv_iconst (v := (-1)) hx hb dX4_slackest_0 (by decide) ?_
  refine lv_istore_n (lv' := [(1, .int ((-1) : Int32)), (0, .ref (b + r))]) hx hb dX4_slackest_1 rfl hl (by decide) rfl (fun ls hl => ?_)
  refine lv_iconst (v := 0) hx hb dX4_slackest_2 (by decide) ?_
  refine lv_istore_n (lv' := [(2, .int (0 : Int32)), (1, .int ((-1) : Int32)), (0, .ref (b + r))]) hx hb dX4_slackest_3 rfl hl (by decide) rfl (fun ls hl => ?_)
  refine lv_iconst (v := 0) hx hb dX4_slackest_4 (by decide) ?_
  refine lv_istore_n (lv' := [(3, .int (0 : Int32)), (2, .int (0 : Int32)), (1, .int ((-1) : Int32)), (0, .ref (b + r))]) hx hb dX4_slackest_5 rfl hl (by decide) rfl (fun ls hl => ?_)
  rw [show fX4_slackest M r = LX4_slackest_6f r 7 M ((-1) : Int32) (0 : Int32) 0 from (by rw [fX4_slackest])]
  exact cl_X4_slackest_6 l D cy b n hn r h_r hx hb hr hlocks hml hown hts hK hX 7 M ((-1) : Int32) (0 : Int32) 0 s.heap [] ls hcnt (by omega) (by omega) hP hS (lv_sub hl [3, 2, 1, 0] rfl)
def LX4_countDisagreeing_4f (r : Nat) : Nat → Mem → Int32 → Nat → Int32
  | 0, _, _, _ => 0
  | k + 1, M, u, j => if (M r 1) ≤ (nI (j)) then u else (if (fX1_isBoxed M (r + 1 + 1 + j)) = 0 then (LX4_countDisagreeing_4f r k M u (j + 1)) else (if (fX4_settled M r (r + 1 + 1 + j)) = 0 then (LX4_countDisagreeing_4f r k M u (j + 1)) else (if (fX4_reading M r (r + 1 + 1 + j)) = (fX4_surrounding M r (r + 1 + 1 + j)) then (LX4_countDisagreeing_4f r k M u (j + 1)) else (LX4_countDisagreeing_4f r k M (u + 1) (j + 1)))))
set_option maxHeartbeats 4000000 in
set_option maxRecDepth 100000 in
theorem cl_X4_countDisagreeing_4 (l : Launch) (D : va_G) (cy : Nat → ClassId) (b n : Nat) (hn : 124 ≤ n) (r : Nat) (h_r : kd r = 4) {p : Program} {e : Env} {s : State} {m : MethodId} {args : Array Value} {below : List Frame} {meth : Method} {c : Code} (hx : p.tables.exec = Jvm.exec) (hb : c.code = cX4_countDisagreeing) (hr : meth.sig.returnType = (some .int)) (hlocks : meth.locks = false) (hml : c.maxLocals = 4) (hown : s.vm.findClass RX4 = some m.cls) (hts : ∀ w ∈ wsX4_countDisagreeing, w.before args s = true) (hK : va_K D vwCl (tysW cy) s) (hX : SX b s)  : ∀ (k : Nat) (M : Mem) (u : Int32) (j : Nat) (H : Heap) (locs : List Loc) (ls : Array Slot), CNT M r → j ≤ 6 → 7 ≤ j + k → va_P D vwCl (wL cy b fT M n) H → va_S (fr b) s.heap H locs → lv_has ls 4 [(0, .ref (b + r)), (1, .int u), (2, .int (nI (j)))] → W p l e (headSpec wsX4_countDisagreeing ({ frames := 5, cells := 0, slots := 0, locals := 105 } : Room)).room s m args below meth c H locs 0 0 (MQ below (CQi D cy b n fT (LX4_countDisagreeing_4f r k M u j) M) args s 0 0 (fr b)) (F0 m 4 ls []) := by
  have lk0 := hts (.fieldLink RX4 18 "HygrometerRoom$Room" "count" "I") (by decide +kernel)
  have lk1 := hts (.fieldLink RX4 11 "HygrometerRoom$Room" "instruments" "[LHygrometerRoom$Instrument;") (by decide +kernel)
  have inc4 : ∀ w ∈ u_ws RX4 TX4 8, w ∈ wsX4_countDisagreeing := by decide +kernel
  intro k
  induction k with
  | zero => intro M u j H locs ls hcnt hj hk hP hS hl; omega
  | succ k ih =>
    intro M u j H locs ls hcnt hj hk hP hS hl
    refine lv_iload_n hx hb dX4_countDisagreeing_4 rfl (lv_at hl 2 rfl) ?_
    refine lv_aload_n hx hb dX4_countDisagreeing_5 rfl (lv_at hl 0 rfl) ?_
    refine xg (C := RX4) (T := TX4) (N := 8) (v := .int (M r 1)) hx hb hts inc4 hown hK hP (kR_lt h_r hn) (cell4 h_r) rfl 1 (by decide) lk0 (fun _ h => h) rfl dX4_countDisagreeing_6 ?_
    refine lv_icmp_ge (tgt := 56) hx hb dX4_countDisagreeing_9 (by decide) (fun c9 => ?_) (fun c9 => ?_)
    · refine lv_iload_n hx hb dX4_countDisagreeing_56 rfl (lv_at hl 1 rfl) ?_
      exact xe_i hx hb hr hlocks hP hS rfl rfl (by rw [LX4_countDisagreeing_4f, if_pos c9] <;> rfl) (Nat.le_of_ble_eq_true rfl) (Nat.le_of_ble_eq_true rfl) dX4_countDisagreeing_57
    · have hj6 := ub_lt hcnt hj c9
      refine lv_aload_n hx hb dX4_countDisagreeing_12 rfl (lv_at hl 0 rfl) ?_
      refine xg (C := RX4) (T := TX4) (N := 8) (v := .ref (b + (r + 1))) hx hb hts inc4 hown hK hP (kR_lt h_r hn) (cell4 h_r) rfl 0 (by decide) lk1 (fun _ h => h) rfl dX4_countDisagreeing_13 ?_
      refine lv_iload_n hx hb dX4_countDisagreeing_16 rfl (lv_at hl 2 rfl) ?_
      refine xnl (j := j) hx hb hK hP (kA_lt h_r hn) (kd_arr h_r) (ixIn (a := j) rfl (by first | decide | (simp only [lenOf]; omega) | omega) (by decide)) (ixAt (a := j) rfl (by omega)) dX4_countDisagreeing_17 ?_
      refine lv_astore_n (lv' := [(3, .ref (b + (r + 1 + 1 + j))), (0, .ref (b + r)), (1, .int u), (2, .int (nI (j)))]) hx hb dX4_countDisagreeing_18 rfl hl (by decide) rfl (fun ls hl => ?_)
      refine lv_aload_n hx hb dX4_countDisagreeing_19 rfl (lv_at hl 0 rfl) ?_
      refine xc_i (va_runV (As := []) (rest := []) ⟨hx, hb, hml, hown, hts⟩ (c_X1_isBoxed l D cy b n hn M (r + 1 + 1 + j) (kd_ins h_r (by omega))) (cwV 0 hts gX4_countDisagreeing_X1_isBoxed rfl rfl rfl (by decide +kernel) ⟨Nat.le_of_ble_eq_true rfl, Nat.le_of_ble_eq_true rfl⟩) (xPreV hP hK hX hS (kI_lt (kd_ins h_r (by omega)) hn) (cell1 (kd_ins h_r (by omega))) rfl) rfl rfl hl.1 rfl (lv_room (Nat.le_of_ble_eq_true rfl)) dX4_countDisagreeing_20 ⟨Nat.le_of_ble_eq_true rfl, Nat.le_of_ble_eq_true rfl⟩) hS (fun H locs hP hS => ?_)
      refine lv_if_eq (tgt := 50) hx hb dX4_countDisagreeing_23 (by decide) (fun c23 => ?_) (fun c23 => ?_)
      · refine lv_iinc (v := nI (j + 1)) (lv' := [(2, .int (nI (j + 1))), (3, .ref (b + (r + 1 + 1 + j))), (0, .ref (b + r)), (1, .int u)]) hx hb dX4_countDisagreeing_50 hl (k := 3) rfl (ixAdd (a := j) (c := 1) (d := j + 1) rfl rfl (by omega)) (by decide) rfl (fun ls hl => ?_)
        refine lv_goto (tgt := 4) hx hb dX4_countDisagreeing_53 (by decide) ?_
        rw [show LX4_countDisagreeing_4f r (k + 1) M u j = LX4_countDisagreeing_4f r k M u (j + 1) from (by rw [LX4_countDisagreeing_4f, if_neg c9, if_pos c23])]
        exact ih M u (j + 1) H locs ls hcnt (by omega) (by omega) hP hS (lv_sub hl [2, 3, 0] rfl)
      · refine lv_aload_n hx hb dX4_countDisagreeing_26 rfl (lv_at hl 1 rfl) ?_
        refine lv_aload_n hx hb dX4_countDisagreeing_27 rfl (lv_at hl 0 rfl) ?_
        refine xc_i (va_runV (As := [.ref (b + (r + 1 + 1 + j))]) (rest := []) ⟨hx, hb, hml, hown, hts⟩ (c_X4_settled l D cy b n hn M r (r + 1 + 1 + j) h_r (kd_ins h_r (by omega))) (cwV 1 hts gX4_countDisagreeing_X4_settled rfl rfl rfl (by decide +kernel) ⟨Nat.le_of_ble_eq_true rfl, Nat.le_of_ble_eq_true rfl⟩) (xPreV hP hK hX hS (kR_lt h_r hn) (cell4 h_r) rfl) rfl rfl hl.1 rfl (lv_room (Nat.le_of_ble_eq_true rfl)) dX4_countDisagreeing_28 ⟨Nat.le_of_ble_eq_true rfl, Nat.le_of_ble_eq_true rfl⟩) hS (fun H locs hP hS => ?_)
        refine lv_if_eq (tgt := 50) hx hb dX4_countDisagreeing_31 (by decide) (fun c31 => ?_) (fun c31 => ?_)
        · refine lv_iinc (v := nI (j + 1)) (lv' := [(2, .int (nI (j + 1))), (3, .ref (b + (r + 1 + 1 + j))), (0, .ref (b + r)), (1, .int u)]) hx hb dX4_countDisagreeing_50 hl (k := 3) rfl (ixAdd (a := j) (c := 1) (d := j + 1) rfl rfl (by omega)) (by decide) rfl (fun ls hl => ?_)
          refine lv_goto (tgt := 4) hx hb dX4_countDisagreeing_53 (by decide) ?_
          rw [show LX4_countDisagreeing_4f r (k + 1) M u j = LX4_countDisagreeing_4f r k M u (j + 1) from (by rw [LX4_countDisagreeing_4f, if_neg c9, if_neg c23, if_pos c31])]
          exact ih M u (j + 1) H locs ls hcnt (by omega) (by omega) hP hS (lv_sub hl [2, 3, 0] rfl)
        · refine lv_aload_n hx hb dX4_countDisagreeing_34 rfl (lv_at hl 1 rfl) ?_
          refine lv_aload_n hx hb dX4_countDisagreeing_35 rfl (lv_at hl 0 rfl) ?_
          refine xc_i (va_runV (As := [.ref (b + (r + 1 + 1 + j))]) (rest := []) ⟨hx, hb, hml, hown, hts⟩ (c_X4_reading l D cy b n hn M r (r + 1 + 1 + j) h_r (kd_ins h_r (by omega))) (cwV 1 hts gX4_countDisagreeing_X4_reading rfl rfl rfl (by decide +kernel) ⟨Nat.le_of_ble_eq_true rfl, Nat.le_of_ble_eq_true rfl⟩) (xPreV hP hK hX hS (kR_lt h_r hn) (cell4 h_r) rfl) rfl rfl hl.1 rfl (lv_room (Nat.le_of_ble_eq_true rfl)) dX4_countDisagreeing_36 ⟨Nat.le_of_ble_eq_true rfl, Nat.le_of_ble_eq_true rfl⟩) hS (fun H locs hP hS => ?_)
          refine lv_aload_n hx hb dX4_countDisagreeing_39 rfl (lv_at hl 1 rfl) ?_
          refine lv_aload_n hx hb dX4_countDisagreeing_40 rfl (lv_at hl 0 rfl) ?_
          refine xc_i (va_runV (As := [.ref (b + (r + 1 + 1 + j))]) (rest := [.int (fX4_reading M r (r + 1 + 1 + j))]) ⟨hx, hb, hml, hown, hts⟩ (c_X4_surrounding l D cy b n hn M r (r + 1 + 1 + j) h_r (kd_ins h_r (by omega))) (cwV 1 hts gX4_countDisagreeing_X4_surrounding rfl rfl rfl (by decide +kernel) ⟨Nat.le_of_ble_eq_true rfl, Nat.le_of_ble_eq_true rfl⟩) (xPreV hP hK hX hS (kR_lt h_r hn) (cell4 h_r) rfl) rfl rfl hl.1 rfl (lv_room (Nat.le_of_ble_eq_true rfl)) dX4_countDisagreeing_41 ⟨Nat.le_of_ble_eq_true rfl, Nat.le_of_ble_eq_true rfl⟩) hS (fun H locs hP hS => ?_)
          refine lv_icmp_eq (tgt := 50) hx hb dX4_countDisagreeing_44 (by decide) (fun c44 => ?_) (fun c44 => ?_)
          · refine lv_iinc (v := nI (j + 1)) (lv' := [(2, .int (nI (j + 1))), (3, .ref (b + (r + 1 + 1 + j))), (0, .ref (b + r)), (1, .int u)]) hx hb dX4_countDisagreeing_50 hl (k := 3) rfl (ixAdd (a := j) (c := 1) (d := j + 1) rfl rfl (by omega)) (by decide) rfl (fun ls hl => ?_)
            refine lv_goto (tgt := 4) hx hb dX4_countDisagreeing_53 (by decide) ?_
            rw [show LX4_countDisagreeing_4f r (k + 1) M u j = LX4_countDisagreeing_4f r k M u (j + 1) from (by rw [LX4_countDisagreeing_4f, if_neg c9, if_neg c23, if_neg c31, if_pos c44])]
            exact ih M u (j + 1) H locs ls hcnt (by omega) (by omega) hP hS (lv_sub hl [2, 3, 0] rfl)
          · refine lv_iinc (v := u + 1) (lv' := [(1, .int (u + 1)), (3, .ref (b + (r + 1 + 1 + j))), (0, .ref (b + r)), (2, .int (nI (j)))]) hx hb dX4_countDisagreeing_47 hl (k := 2) rfl rfl (by decide) rfl (fun ls hl => ?_)
            refine lv_iinc (v := nI (j + 1)) (lv' := [(2, .int (nI (j + 1))), (1, .int (u + 1)), (3, .ref (b + (r + 1 + 1 + j))), (0, .ref (b + r))]) hx hb dX4_countDisagreeing_50 hl (k := 3) rfl (ixAdd (a := j) (c := 1) (d := j + 1) rfl rfl (by omega)) (by decide) rfl (fun ls hl => ?_)
            refine lv_goto (tgt := 4) hx hb dX4_countDisagreeing_53 (by decide) ?_
            rw [show LX4_countDisagreeing_4f r (k + 1) M u j = LX4_countDisagreeing_4f r k M (u + 1) (j + 1) from (by rw [LX4_countDisagreeing_4f, if_neg c9, if_neg c23, if_neg c31, if_neg c44])]
            exact ih M (u + 1) (j + 1) H locs ls hcnt (by omega) (by omega) hP hS (lv_sub hl [3, 1, 0] rfl)

def fX4_countDisagreeing (M : Mem) (r : Nat) : Int32 := LX4_countDisagreeing_4f r 7 M (0 : Int32) 0
set_option maxHeartbeats 4000000 in
set_option maxRecDepth 100000 in
theorem c_X4_countDisagreeing (l : Launch) (D : va_G) (cy : Nat → ClassId) (b n : Nat) (hn : 124 ≤ n) (M : Mem) (r : Nat) (h_r : kd r = 4) (hcnt : CNT M r) : Met l yX4_countDisagreeing wsX4_countDisagreeing ({ frames := 5, cells := 0, slots := 0, locals := 105 } : Room) (CP D cy b n fT M [.ref (b + r)]) (CQi D cy b n fT (fX4_countDisagreeing M r) M) 0 0 (fr b) := by
  refine Met.ofW (cc := cX4_countDisagreeing) (maxL := 4) (ret := (some .int)) (by decide) rfl ?_
  intro p e s m args below meth c s₁ B hml hv
  obtain ⟨rfl, hP, hK, hX⟩ := hv
  have hx := B.exec
  have hb := B.bytes
  have hr := B.returns
  have hts := atoms_spec (ws := wsX4_countDisagreeing) B.pre
  have hown : s.vm.findClass RX4 = some m.cls := findClass_of_methodNamed B.named
  have hlocks := B.notSynchronized
  have hS : va_S (fr b) s.heap s.heap [] := va_S.rf
  have hl := lv_entry ([.ref (b + r)]) (n := 4) (Nat.le_of_ble_eq_true rfl)
  rw [lg_entry_eq]
  generalize (lg_sl ([.ref (b + r)]) ++ List.replicate (4 - (lg_sl ([.ref (b + r)])).length) Slot.unset).toArray = ls at hl ⊢
  have hl : lv_has ls 4 [(0, .ref (b + r))] := hl
  refine lv_iconst (v := 0) hx hb dX4_countDisagreeing_0 (by decide) ?_
  refine lv_istore_n (lv' := [(1, .int (0 : Int32)), (0, .ref (b + r))]) hx hb dX4_countDisagreeing_1 rfl hl (by decide) rfl (fun ls hl => ?_)
  refine lv_iconst (v := 0) hx hb dX4_countDisagreeing_2 (by decide) ?_
  refine lv_istore_n (lv' := [(2, .int (0 : Int32)), (1, .int (0 : Int32)), (0, .ref (b + r))]) hx hb dX4_countDisagreeing_3 rfl hl (by decide) rfl (fun ls hl => ?_)
  rw [show fX4_countDisagreeing M r = LX4_countDisagreeing_4f r 7 M (0 : Int32) 0 from (by rw [fX4_countDisagreeing])]
  exact cl_X4_countDisagreeing_4 l D cy b n hn r h_r hx hb hr hlocks hml hown hts hK hX 7 M (0 : Int32) 0 s.heap [] ls hcnt (by omega) (by omega) hP hS (lv_sub hl [2, 1, 0] rfl)
def LX4_readingSpan_7f (r : Nat) : Nat → Mem → Int32 → Int32 → Nat → Int32
  | 0, _, _, _, _ => 0
  | k + 1, M, u, w, j => if (M r 1) ≤ (nI (j)) then (xmax (0 : Int32) (w - u)) else (if (fX1_flaw M (r + 1 + 1 + j)) = 0 then (LX4_readingSpan_7f r k M (xmin u (fX4_reading M r (r + 1 + 1 + j))) (xmax w (fX4_reading M r (r + 1 + 1 + j))) (j + 1)) else (LX4_readingSpan_7f r k M u w (j + 1)))
set_option maxHeartbeats 4000000 in
set_option maxRecDepth 100000 in
theorem cl_X4_readingSpan_7 (l : Launch) (D : va_G) (cy : Nat → ClassId) (b n : Nat) (hn : 124 ≤ n) (r : Nat) (h_r : kd r = 4) {p : Program} {e : Env} {s : State} {m : MethodId} {args : Array Value} {below : List Frame} {meth : Method} {c : Code} (hx : p.tables.exec = Jvm.exec) (hb : c.code = cX4_readingSpan) (hr : meth.sig.returnType = (some .int)) (hlocks : meth.locks = false) (hml : c.maxLocals = 4) (hown : s.vm.findClass RX4 = some m.cls) (hts : ∀ w ∈ wsX4_readingSpan, w.before args s = true) (hK : va_K D vwCl (tysW cy) s) (hX : SX b s)  : ∀ (k : Nat) (M : Mem) (u : Int32) (w : Int32) (j : Nat) (H : Heap) (locs : List Loc) (ls : Array Slot), CNT M r → j ≤ 6 → 7 ≤ j + k → va_P D vwCl (wL cy b fT M n) H → va_S (fr b) s.heap H locs → lv_has ls 4 [(0, .ref (b + r)), (1, .int u), (2, .int w), (3, .int (nI (j)))] → W p l e (headSpec wsX4_readingSpan ({ frames := 5, cells := 0, slots := 0, locals := 105 } : Room)).room s m args below meth c H locs 0 0 (MQ below (CQi D cy b n fT (LX4_readingSpan_7f r k M u w j) M) args s 0 0 (fr b)) (F0 m 7 ls []) := by
  have lk0 := hts (.fieldLink RX4 18 "HygrometerRoom$Room" "count" "I") (by decide +kernel)
  have lk1 := hts (.methodLink RX4 99 Lib.Math.max.name) (by decide +kernel)
  have lk2 := hts (.static Lib.Math.max.name) (by decide +kernel)
  have lk3 := hts (.initialized "java/lang/Math") (by decide +kernel)
  have lk4 := hts (.code Lib.Math.max.name Lib.Math.max.code 2 (some .int)) (by decide +kernel)
  have lk5 := hts (.fieldLink RX4 11 "HygrometerRoom$Room" "instruments" "[LHygrometerRoom$Instrument;") (by decide +kernel)
  have lk6 := hts (.methodLink RX4 62 Lib.Math.min.name) (by decide +kernel)
  have lk7 := hts (.static Lib.Math.min.name) (by decide +kernel)
  have lk8 := hts (.code Lib.Math.min.name Lib.Math.min.code 2 (some .int)) (by decide +kernel)
  have inc4 : ∀ w ∈ u_ws RX4 TX4 8, w ∈ wsX4_readingSpan := by decide +kernel
  intro k
  induction k with
  | zero => intro M u w j H locs ls hcnt hj hk hP hS hl; omega
  | succ k ih =>
    intro M u w j H locs ls hcnt hj hk hP hS hl
    refine lv_iload_n hx hb dX4_readingSpan_7 rfl (lv_at hl 3 rfl) ?_
    refine lv_aload_n hx hb dX4_readingSpan_8 rfl (lv_at hl 0 rfl) ?_
    refine xg (C := RX4) (T := TX4) (N := 8) (v := .int (M r 1)) hx hb hts inc4 hown hK hP (kR_lt h_r hn) (cell4 h_r) rfl 1 (by decide) lk0 (fun _ h => h) rfl dX4_readingSpan_9 ?_
    refine lv_icmp_ge (tgt := 63) hx hb dX4_readingSpan_12 (by decide) (fun c12 => ?_) (fun c12 => ?_)
    · refine lv_iconst (v := 0) hx hb dX4_readingSpan_63 (by decide) ?_
      refine lv_iload_n hx hb dX4_readingSpan_64 rfl (lv_at hl 2 rfl) ?_
      refine lv_iload_n hx hb dX4_readingSpan_65 rfl (lv_at hl 1 rfl) ?_
      refine lv_isub hx hb dX4_readingSpan_66 ?_
      refine x_mmax hx hb (hml.trans hl.1.symm) hown lk1 lk2 lk3 lk4 (Nat.le_of_ble_eq_true rfl) (Nat.le_of_ble_eq_true rfl) (Nat.le_of_ble_eq_true rfl) (Nat.le_of_ble_eq_true rfl) dX4_readingSpan_67 ?_
      exact xe_i hx hb hr hlocks hP hS rfl rfl (by rw [LX4_readingSpan_7f, if_pos c12] <;> rfl) (Nat.le_of_ble_eq_true rfl) (Nat.le_of_ble_eq_true rfl) dX4_readingSpan_70
    · have hj6 := ub_lt hcnt hj c12
      refine lv_aload_n hx hb dX4_readingSpan_15 rfl (lv_at hl 0 rfl) ?_
      refine xg (C := RX4) (T := TX4) (N := 8) (v := .ref (b + (r + 1))) hx hb hts inc4 hown hK hP (kR_lt h_r hn) (cell4 h_r) rfl 0 (by decide) lk5 (fun _ h => h) rfl dX4_readingSpan_16 ?_
      refine lv_iload_n hx hb dX4_readingSpan_19 rfl (lv_at hl 3 rfl) ?_
      refine xnl (j := j) hx hb hK hP (kA_lt h_r hn) (kd_arr h_r) (ixIn (a := j) rfl (by first | decide | (simp only [lenOf]; omega) | omega) (by decide)) (ixAt (a := j) rfl (by omega)) dX4_readingSpan_20 ?_
      refine xc_i (va_runV (As := []) (rest := []) ⟨hx, hb, hml, hown, hts⟩ (c_X1_flaw l D cy b n hn M (r + 1 + 1 + j) (kd_ins h_r (by omega))) (cwV 0 hts gX4_readingSpan_X1_flaw rfl rfl rfl (by decide +kernel) ⟨Nat.le_of_ble_eq_true rfl, Nat.le_of_ble_eq_true rfl⟩) (xPreV hP hK hX hS (kI_lt (kd_ins h_r (by omega)) hn) (cell1 (kd_ins h_r (by omega))) rfl) rfl rfl hl.1 rfl (lv_room (Nat.le_of_ble_eq_true rfl)) dX4_readingSpan_21 ⟨Nat.le_of_ble_eq_true rfl, Nat.le_of_ble_eq_true rfl⟩) hS (fun H locs hP hS => ?_)
      refine lv_if_ne (tgt := 57) hx hb dX4_readingSpan_24 (by decide) (fun c24 => ?_) (fun c24 => ?_)
      · refine lv_iinc (v := nI (j + 1)) (lv' := [(3, .int (nI (j + 1))), (0, .ref (b + r)), (1, .int u), (2, .int w)]) hx hb dX4_readingSpan_57 hl (k := 3) rfl (ixAdd (a := j) (c := 1) (d := j + 1) rfl rfl (by omega)) (by decide) rfl (fun ls hl => ?_)
        refine lv_goto (tgt := 7) hx hb dX4_readingSpan_60 (by decide) ?_
        rw [show LX4_readingSpan_7f r (k + 1) M u w j = LX4_readingSpan_7f r k M u w (j + 1) from (by rw [LX4_readingSpan_7f, if_neg c12, if_neg c24])]
        exact ih M u w (j + 1) H locs ls hcnt (by omega) (by omega) hP hS (lv_sub hl [1, 2, 3, 0] rfl)
      · refine lv_iload_n hx hb dX4_readingSpan_27 rfl (lv_at hl 1 rfl) ?_
        refine lv_aload_n hx hb dX4_readingSpan_28 rfl (lv_at hl 0 rfl) ?_
        refine lv_aload_n hx hb dX4_readingSpan_29 rfl (lv_at hl 0 rfl) ?_
        refine xg (C := RX4) (T := TX4) (N := 8) (v := .ref (b + (r + 1))) hx hb hts inc4 hown hK hP (kR_lt h_r hn) (cell4 h_r) rfl 0 (by decide) lk5 (fun _ h => h) rfl dX4_readingSpan_30 ?_
        refine lv_iload_n hx hb dX4_readingSpan_33 rfl (lv_at hl 3 rfl) ?_
        refine xnl (j := j) hx hb hK hP (kA_lt h_r hn) (kd_arr h_r) (ixIn (a := j) rfl (by first | decide | (simp only [lenOf]; omega) | omega) (by decide)) (ixAt (a := j) rfl (by omega)) dX4_readingSpan_34 ?_
        refine xc_i (va_runV (As := [.ref (b + (r + 1 + 1 + j))]) (rest := [.int u]) ⟨hx, hb, hml, hown, hts⟩ (c_X4_reading l D cy b n hn M r (r + 1 + 1 + j) h_r (kd_ins h_r (by omega))) (cwV 1 hts gX4_readingSpan_X4_reading rfl rfl rfl (by decide +kernel) ⟨Nat.le_of_ble_eq_true rfl, Nat.le_of_ble_eq_true rfl⟩) (xPreV hP hK hX hS (kR_lt h_r hn) (cell4 h_r) rfl) rfl rfl hl.1 rfl (lv_room (Nat.le_of_ble_eq_true rfl)) dX4_readingSpan_35 ⟨Nat.le_of_ble_eq_true rfl, Nat.le_of_ble_eq_true rfl⟩) hS (fun H locs hP hS => ?_)
        refine x_mmin hx hb (hml.trans hl.1.symm) hown lk6 lk7 lk3 lk8 (Nat.le_of_ble_eq_true rfl) (Nat.le_of_ble_eq_true rfl) (Nat.le_of_ble_eq_true rfl) (Nat.le_of_ble_eq_true rfl) dX4_readingSpan_38 ?_
        refine lv_istore_n (lv' := [(1, .int (xmin u (fX4_reading M r (r + 1 + 1 + j)))), (0, .ref (b + r)), (2, .int w), (3, .int (nI (j)))]) hx hb dX4_readingSpan_41 rfl hl (by decide) rfl (fun ls hl => ?_)
        refine lv_iload_n hx hb dX4_readingSpan_42 rfl (lv_at hl 2 rfl) ?_
        refine lv_aload_n hx hb dX4_readingSpan_43 rfl (lv_at hl 1 rfl) ?_
        refine lv_aload_n hx hb dX4_readingSpan_44 rfl (lv_at hl 1 rfl) ?_
        refine xg (C := RX4) (T := TX4) (N := 8) (v := .ref (b + (r + 1))) hx hb hts inc4 hown hK hP (kR_lt h_r hn) (cell4 h_r) rfl 0 (by decide) lk5 (fun _ h => h) rfl dX4_readingSpan_45 ?_
        refine lv_iload_n hx hb dX4_readingSpan_48 rfl (lv_at hl 3 rfl) ?_
        refine xnl (j := j) hx hb hK hP (kA_lt h_r hn) (kd_arr h_r) (ixIn (a := j) rfl (by first | decide | (simp only [lenOf]; omega) | omega) (by decide)) (ixAt (a := j) rfl (by omega)) dX4_readingSpan_49 ?_
        refine xc_i (va_runV (As := [.ref (b + (r + 1 + 1 + j))]) (rest := [.int w]) ⟨hx, hb, hml, hown, hts⟩ (c_X4_reading l D cy b n hn M r (r + 1 + 1 + j) h_r (kd_ins h_r (by omega))) (cwV 1 hts gX4_readingSpan_X4_reading rfl rfl rfl (by decide +kernel) ⟨Nat.le_of_ble_eq_true rfl, Nat.le_of_ble_eq_true rfl⟩) (xPreV hP hK hX hS (kR_lt h_r hn) (cell4 h_r) rfl) rfl rfl hl.1 rfl (lv_room (Nat.le_of_ble_eq_true rfl)) dX4_readingSpan_50 ⟨Nat.le_of_ble_eq_true rfl, Nat.le_of_ble_eq_true rfl⟩) hS (fun H locs hP hS => ?_)
        refine x_mmax hx hb (hml.trans hl.1.symm) hown lk1 lk2 lk3 lk4 (Nat.le_of_ble_eq_true rfl) (Nat.le_of_ble_eq_true rfl) (Nat.le_of_ble_eq_true rfl) (Nat.le_of_ble_eq_true rfl) dX4_readingSpan_53 ?_
        refine lv_istore_n (lv' := [(2, .int (xmax w (fX4_reading M r (r + 1 + 1 + j)))), (1, .int (xmin u (fX4_reading M r (r + 1 + 1 + j)))), (0, .ref (b + r)), (3, .int (nI (j)))]) hx hb dX4_readingSpan_56 rfl hl (by decide) rfl (fun ls hl => ?_)
        refine lv_iinc (v := nI (j + 1)) (lv' := [(3, .int (nI (j + 1))), (2, .int (xmax w (fX4_reading M r (r + 1 + 1 + j)))), (1, .int (xmin u (fX4_reading M r (r + 1 + 1 + j)))), (0, .ref (b + r))]) hx hb dX4_readingSpan_57 hl (k := 3) rfl (ixAdd (a := j) (c := 1) (d := j + 1) rfl rfl (by omega)) (by decide) rfl (fun ls hl => ?_)
        refine lv_goto (tgt := 7) hx hb dX4_readingSpan_60 (by decide) ?_
        rw [show LX4_readingSpan_7f r (k + 1) M u w j = LX4_readingSpan_7f r k M (xmin u (fX4_reading M r (r + 1 + 1 + j))) (xmax w (fX4_reading M r (r + 1 + 1 + j))) (j + 1) from (by rw [LX4_readingSpan_7f, if_neg c12, if_pos c24])]
        exact ih M (xmin u (fX4_reading M r (r + 1 + 1 + j))) (xmax w (fX4_reading M r (r + 1 + 1 + j))) (j + 1) H locs ls hcnt (by omega) (by omega) hP hS (lv_sub hl [3, 2, 1, 0] rfl)

def fX4_readingSpan (M : Mem) (r : Nat) : Int32 := LX4_readingSpan_7f r 7 M (100 : Int32) (0 : Int32) 0
set_option maxHeartbeats 4000000 in
set_option maxRecDepth 100000 in
theorem c_X4_readingSpan (l : Launch) (D : va_G) (cy : Nat → ClassId) (b n : Nat) (hn : 124 ≤ n) (M : Mem) (r : Nat) (h_r : kd r = 4) (hcnt : CNT M r) : Met l yX4_readingSpan wsX4_readingSpan ({ frames := 5, cells := 0, slots := 0, locals := 105 } : Room) (CP D cy b n fT M [.ref (b + r)]) (CQi D cy b n fT (fX4_readingSpan M r) M) 0 0 (fr b) := by
  refine Met.ofW (cc := cX4_readingSpan) (maxL := 4) (ret := (some .int)) (by decide) rfl ?_
  intro p e s m args below meth c s₁ B hml hv
  obtain ⟨rfl, hP, hK, hX⟩ := hv
  have hx := B.exec
  have hb := B.bytes
  have hr := B.returns
  have hts := atoms_spec (ws := wsX4_readingSpan) B.pre
  have hown : s.vm.findClass RX4 = some m.cls := findClass_of_methodNamed B.named
  have hlocks := B.notSynchronized
  have hS : va_S (fr b) s.heap s.heap [] := va_S.rf
  have hl := lv_entry ([.ref (b + r)]) (n := 4) (Nat.le_of_ble_eq_true rfl)
  rw [lg_entry_eq]
  generalize (lg_sl ([.ref (b + r)]) ++ List.replicate (4 - (lg_sl ([.ref (b + r)])).length) Slot.unset).toArray = ls at hl ⊢
  have hl : lv_has ls 4 [(0, .ref (b + r))] := hl
  refine lv_bipush (v := 100) hx hb dX4_readingSpan_0 (by decide) ?_
  refine lv_istore_n (lv' := [(1, .int (100 : Int32)), (0, .ref (b + r))]) hx hb dX4_readingSpan_2 rfl hl (by decide) rfl (fun ls hl => ?_)
  refine lv_iconst (v := 0) hx hb dX4_readingSpan_3 (by decide) ?_
  refine lv_istore_n (lv' := [(2, .int (0 : Int32)), (1, .int (100 : Int32)), (0, .ref (b + r))]) hx hb dX4_readingSpan_4 rfl hl (by decide) rfl (fun ls hl => ?_)
  refine lv_iconst (v := 0) hx hb dX4_readingSpan_5 (by decide) ?_
  refine lv_istore_n (lv' := [(3, .int (0 : Int32)), (2, .int (0 : Int32)), (1, .int (100 : Int32)), (0, .ref (b + r))]) hx hb dX4_readingSpan_6 rfl hl (by decide) rfl (fun ls hl => ?_)
  rw [show fX4_readingSpan M r = LX4_readingSpan_7f r 7 M (100 : Int32) (0 : Int32) 0 from (by rw [fX4_readingSpan])]
  exact cl_X4_readingSpan_7 l D cy b n hn r h_r hx hb hr hlocks hml hown hts hK hX 7 M (100 : Int32) (0 : Int32) 0 s.heap [] ls hcnt (by omega) (by omega) hP hS (lv_sub hl [3, 2, 1, 0] rfl)
def LX4_sumOfReadings_4f (r : Nat) : Nat → Mem → Int32 → Nat → Int32
  | 0, _, _, _ => 0
  | k + 1, M, u, j => if (M r 1) ≤ (nI (j)) then u else (LX4_sumOfReadings_4f r k M (u + (fX4_reading M r (r + 1 + 1 + j))) (j + 1))
set_option maxHeartbeats 4000000 in
set_option maxRecDepth 100000 in
theorem cl_X4_sumOfReadings_4 (l : Launch) (D : va_G) (cy : Nat → ClassId) (b n : Nat) (hn : 124 ≤ n) (r : Nat) (h_r : kd r = 4) {p : Program} {e : Env} {s : State} {m : MethodId} {args : Array Value} {below : List Frame} {meth : Method} {c : Code} (hx : p.tables.exec = Jvm.exec) (hb : c.code = cX4_sumOfReadings) (hr : meth.sig.returnType = (some .int)) (hlocks : meth.locks = false) (hml : c.maxLocals = 3) (hown : s.vm.findClass RX4 = some m.cls) (hts : ∀ w ∈ wsX4_sumOfReadings, w.before args s = true) (hK : va_K D vwCl (tysW cy) s) (hX : SX b s)  : ∀ (k : Nat) (M : Mem) (u : Int32) (j : Nat) (H : Heap) (locs : List Loc) (ls : Array Slot), CNT M r → j ≤ 6 → 7 ≤ j + k → va_P D vwCl (wL cy b fT M n) H → va_S (fr b) s.heap H locs → lv_has ls 3 [(0, .ref (b + r)), (1, .int u), (2, .int (nI (j)))] → W p l e (headSpec wsX4_sumOfReadings ({ frames := 5, cells := 0, slots := 0, locals := 105 } : Room)).room s m args below meth c H locs 0 0 (MQ below (CQi D cy b n fT (LX4_sumOfReadings_4f r k M u j) M) args s 0 0 (fr b)) (F0 m 4 ls []) := by
  have lk0 := hts (.fieldLink RX4 18 "HygrometerRoom$Room" "count" "I") (by decide +kernel)
  have lk1 := hts (.fieldLink RX4 11 "HygrometerRoom$Room" "instruments" "[LHygrometerRoom$Instrument;") (by decide +kernel)
  have inc4 : ∀ w ∈ u_ws RX4 TX4 8, w ∈ wsX4_sumOfReadings := by decide +kernel
  intro k
  induction k with
  | zero => intro M u j H locs ls hcnt hj hk hP hS hl; omega
  | succ k ih =>
    intro M u j H locs ls hcnt hj hk hP hS hl
    refine lv_iload_n hx hb dX4_sumOfReadings_4 rfl (lv_at hl 2 rfl) ?_
    refine lv_aload_n hx hb dX4_sumOfReadings_5 rfl (lv_at hl 0 rfl) ?_
    refine xg (C := RX4) (T := TX4) (N := 8) (v := .int (M r 1)) hx hb hts inc4 hown hK hP (kR_lt h_r hn) (cell4 h_r) rfl 1 (by decide) lk0 (fun _ h => h) rfl dX4_sumOfReadings_6 ?_
    refine lv_icmp_ge (tgt := 31) hx hb dX4_sumOfReadings_9 (by decide) (fun c9 => ?_) (fun c9 => ?_)
    · refine lv_iload_n hx hb dX4_sumOfReadings_31 rfl (lv_at hl 1 rfl) ?_
      exact xe_i hx hb hr hlocks hP hS rfl rfl (by rw [LX4_sumOfReadings_4f, if_pos c9] <;> rfl) (Nat.le_of_ble_eq_true rfl) (Nat.le_of_ble_eq_true rfl) dX4_sumOfReadings_32
    · have hj6 := ub_lt hcnt hj c9
      refine lv_iload_n hx hb dX4_sumOfReadings_12 rfl (lv_at hl 1 rfl) ?_
      refine lv_aload_n hx hb dX4_sumOfReadings_13 rfl (lv_at hl 0 rfl) ?_
      refine lv_aload_n hx hb dX4_sumOfReadings_14 rfl (lv_at hl 0 rfl) ?_
      refine xg (C := RX4) (T := TX4) (N := 8) (v := .ref (b + (r + 1))) hx hb hts inc4 hown hK hP (kR_lt h_r hn) (cell4 h_r) rfl 0 (by decide) lk1 (fun _ h => h) rfl dX4_sumOfReadings_15 ?_
      refine lv_iload_n hx hb dX4_sumOfReadings_18 rfl (lv_at hl 2 rfl) ?_
      refine xnl (j := j) hx hb hK hP (kA_lt h_r hn) (kd_arr h_r) (ixIn (a := j) rfl (by first | decide | (simp only [lenOf]; omega) | omega) (by decide)) (ixAt (a := j) rfl (by omega)) dX4_sumOfReadings_19 ?_
      refine xc_i (va_runV (As := [.ref (b + (r + 1 + 1 + j))]) (rest := [.int u]) ⟨hx, hb, hml, hown, hts⟩ (c_X4_reading l D cy b n hn M r (r + 1 + 1 + j) h_r (kd_ins h_r (by omega))) (cwV 1 hts gX4_sumOfReadings_X4_reading rfl rfl rfl (by decide +kernel) ⟨Nat.le_of_ble_eq_true rfl, Nat.le_of_ble_eq_true rfl⟩) (xPreV hP hK hX hS (kR_lt h_r hn) (cell4 h_r) rfl) rfl rfl hl.1 rfl (lv_room (Nat.le_of_ble_eq_true rfl)) dX4_sumOfReadings_20 ⟨Nat.le_of_ble_eq_true rfl, Nat.le_of_ble_eq_true rfl⟩) hS (fun H locs hP hS => ?_)
      refine lv_iadd hx hb dX4_sumOfReadings_23 ?_
      refine lv_istore_n (lv' := [(1, .int (u + (fX4_reading M r (r + 1 + 1 + j)))), (0, .ref (b + r)), (2, .int (nI (j)))]) hx hb dX4_sumOfReadings_24 rfl hl (by decide) rfl (fun ls hl => ?_)
      refine lv_iinc (v := nI (j + 1)) (lv' := [(2, .int (nI (j + 1))), (1, .int (u + (fX4_reading M r (r + 1 + 1 + j)))), (0, .ref (b + r))]) hx hb dX4_sumOfReadings_25 hl (k := 2) rfl (ixAdd (a := j) (c := 1) (d := j + 1) rfl rfl (by omega)) (by decide) rfl (fun ls hl => ?_)
      refine lv_goto (tgt := 4) hx hb dX4_sumOfReadings_28 (by decide) ?_
      rw [show LX4_sumOfReadings_4f r (k + 1) M u j = LX4_sumOfReadings_4f r k M (u + (fX4_reading M r (r + 1 + 1 + j))) (j + 1) from (by rw [LX4_sumOfReadings_4f, if_neg c9])]
      exact ih M (u + (fX4_reading M r (r + 1 + 1 + j))) (j + 1) H locs ls hcnt (by omega) (by omega) hP hS (lv_sub hl [2, 1, 0] rfl)

def fX4_sumOfReadings (M : Mem) (r : Nat) : Int32 := LX4_sumOfReadings_4f r 7 M (0 : Int32) 0
set_option maxHeartbeats 4000000 in
set_option maxRecDepth 100000 in
theorem c_X4_sumOfReadings (l : Launch) (D : va_G) (cy : Nat → ClassId) (b n : Nat) (hn : 124 ≤ n) (M : Mem) (r : Nat) (h_r : kd r = 4) (hcnt : CNT M r) : Met l yX4_sumOfReadings wsX4_sumOfReadings ({ frames := 5, cells := 0, slots := 0, locals := 105 } : Room) (CP D cy b n fT M [.ref (b + r)]) (CQi D cy b n fT (fX4_sumOfReadings M r) M) 0 0 (fr b) := by
  refine Met.ofW (cc := cX4_sumOfReadings) (maxL := 3) (ret := (some .int)) (by decide) rfl ?_
  intro p e s m args below meth c s₁ B hml hv
  obtain ⟨rfl, hP, hK, hX⟩ := hv
  have hx := B.exec
  have hb := B.bytes
  have hr := B.returns
  have hts := atoms_spec (ws := wsX4_sumOfReadings) B.pre
  have hown : s.vm.findClass RX4 = some m.cls := findClass_of_methodNamed B.named
  have hlocks := B.notSynchronized
  have hS : va_S (fr b) s.heap s.heap [] := va_S.rf
  have hl := lv_entry ([.ref (b + r)]) (n := 3) (Nat.le_of_ble_eq_true rfl)
  rw [lg_entry_eq]
  generalize (lg_sl ([.ref (b + r)]) ++ List.replicate (3 - (lg_sl ([.ref (b + r)])).length) Slot.unset).toArray = ls at hl ⊢
  have hl : lv_has ls 3 [(0, .ref (b + r))] := hl
  refine lv_iconst (v := 0) hx hb dX4_sumOfReadings_0 (by decide) ?_
  refine lv_istore_n (lv' := [(1, .int (0 : Int32)), (0, .ref (b + r))]) hx hb dX4_sumOfReadings_1 rfl hl (by decide) rfl (fun ls hl => ?_)
  refine lv_iconst (v := 0) hx hb dX4_sumOfReadings_2 (by decide) ?_
  refine lv_istore_n (lv' := [(2, .int (0 : Int32)), (1, .int (0 : Int32)), (0, .ref (b + r))]) hx hb dX4_sumOfReadings_3 rfl hl (by decide) rfl (fun ls hl => ?_)
  rw [show fX4_sumOfReadings M r = LX4_sumOfReadings_4f r 7 M (0 : Int32) 0 from (by rw [fX4_sumOfReadings])]
  exact cl_X4_sumOfReadings_4 l D cy b n hn r h_r hx hb hr hlocks hml hown hts hK hX 7 M (0 : Int32) 0 s.heap [] ls hcnt (by omega) (by omega) hP hS (lv_sub hl [2, 1, 0] rfl)
def LX4_hairsHere_7f (r : Nat) : Nat → Mem → Int32 → Nat → Int32
  | 0, _, _, _ => 0
  | k + 1, M, u, j => if (M r 1) ≤ (nI (j)) then u else (LX4_hairsHere_7f r k M (u + ((M (r + 1 + 1 + j) 1) + (M (r + 1 + 1 + j) 3))) (j + 1))
set_option maxHeartbeats 4000000 in
set_option maxRecDepth 100000 in
theorem cl_X4_hairsHere_7 (l : Launch) (D : va_G) (cy : Nat → ClassId) (b n : Nat) (hn : 124 ≤ n) (r : Nat) (h_r : kd r = 4) {p : Program} {e : Env} {s : State} {m : MethodId} {args : Array Value} {below : List Frame} {meth : Method} {c : Code} (hx : p.tables.exec = Jvm.exec) (hb : c.code = cX4_hairsHere) (hr : meth.sig.returnType = (some .int)) (hlocks : meth.locks = false) (hml : c.maxLocals = 3) (hown : s.vm.findClass RX4 = some m.cls) (hts : ∀ w ∈ wsX4_hairsHere, w.before args s = true) (hK : va_K D vwCl (tysW cy) s) (hX : SX b s)  : ∀ (k : Nat) (M : Mem) (u : Int32) (j : Nat) (H : Heap) (locs : List Loc) (ls : Array Slot), CNT M r → j ≤ 6 → 7 ≤ j + k → va_P D vwCl (wL cy b fT M n) H → va_S (fr b) s.heap H locs → lv_has ls 3 [(0, .ref (b + r)), (1, .int u), (2, .int (nI (j)))] → W p l e (headSpec wsX4_hairsHere ({ frames := 0, cells := 0, slots := 0, locals := 0 } : Room)).room s m args below meth c H locs 0 0 (MQ below (CQi D cy b n fT (LX4_hairsHere_7f r k M u j) M) args s 0 0 (fr b)) (F0 m 7 ls []) := by
  have lk0 := hts (.fieldLink RX4 18 "HygrometerRoom$Room" "count" "I") (by decide +kernel)
  have lk1 := hts (.fieldLink RX4 11 "HygrometerRoom$Room" "instruments" "[LHygrometerRoom$Instrument;") (by decide +kernel)
  have lk2 := hts (.fieldLink RX4 124 "HygrometerRoom$Instrument" "hairs" "I") (by decide +kernel)
  have lk3 := hts (.fieldLink RX4 127 "HygrometerRoom$Instrument" "broken" "I") (by decide +kernel)
  have inc1 : ∀ w ∈ u_ws RX1 TX1 9, w ∈ wsX4_hairsHere := by decide +kernel
  have inc4 : ∀ w ∈ u_ws RX4 TX4 8, w ∈ wsX4_hairsHere := by decide +kernel
  intro k
  induction k with
  | zero => intro M u j H locs ls hcnt hj hk hP hS hl; omega
  | succ k ih =>
    intro M u j H locs ls hcnt hj hk hP hS hl
    refine lv_iload_n hx hb dX4_hairsHere_7 rfl (lv_at hl 2 rfl) ?_
    refine lv_aload_n hx hb dX4_hairsHere_8 rfl (lv_at hl 0 rfl) ?_
    refine xg (C := RX4) (T := TX4) (N := 8) (v := .int (M r 1)) hx hb hts inc4 hown hK hP (kR_lt h_r hn) (cell4 h_r) rfl 1 (by decide) lk0 (fun _ h => h) rfl dX4_hairsHere_9 ?_
    refine lv_icmp_ge (tgt := 43) hx hb dX4_hairsHere_12 (by decide) (fun c12 => ?_) (fun c12 => ?_)
    · refine lv_iload_n hx hb dX4_hairsHere_43 rfl (lv_at hl 1 rfl) ?_
      exact xe_i hx hb hr hlocks hP hS rfl rfl (by rw [LX4_hairsHere_7f, if_pos c12] <;> rfl) (Nat.le_of_ble_eq_true rfl) (Nat.le_of_ble_eq_true rfl) dX4_hairsHere_44
    · have hj6 := ub_lt hcnt hj c12
      refine lv_iload_n hx hb dX4_hairsHere_15 rfl (lv_at hl 1 rfl) ?_
      refine lv_aload_n hx hb dX4_hairsHere_16 rfl (lv_at hl 0 rfl) ?_
      refine xg (C := RX4) (T := TX4) (N := 8) (v := .ref (b + (r + 1))) hx hb hts inc4 hown hK hP (kR_lt h_r hn) (cell4 h_r) rfl 0 (by decide) lk1 (fun _ h => h) rfl dX4_hairsHere_17 ?_
      refine lv_iload_n hx hb dX4_hairsHere_20 rfl (lv_at hl 2 rfl) ?_
      refine xnl (j := j) hx hb hK hP (kA_lt h_r hn) (kd_arr h_r) (ixIn (a := j) rfl (by first | decide | (simp only [lenOf]; omega) | omega) (by decide)) (ixAt (a := j) rfl (by omega)) dX4_hairsHere_21 ?_
      refine xg (C := RX1) (T := TX1) (N := 9) (v := .int (M (r + 1 + 1 + j) 1)) hx hb hts inc1 hown hK hP (kI_lt (kd_ins h_r (by omega)) hn) (cell1 (kd_ins h_r (by omega))) rfl 1 (by decide) lk2 (fun _ h => h) rfl dX4_hairsHere_22 ?_
      refine lv_aload_n hx hb dX4_hairsHere_25 rfl (lv_at hl 0 rfl) ?_
      refine xg (C := RX4) (T := TX4) (N := 8) (v := .ref (b + (r + 1))) hx hb hts inc4 hown hK hP (kR_lt h_r hn) (cell4 h_r) rfl 0 (by decide) lk1 (fun _ h => h) rfl dX4_hairsHere_26 ?_
      refine lv_iload_n hx hb dX4_hairsHere_29 rfl (lv_at hl 2 rfl) ?_
      refine xnl (j := j) hx hb hK hP (kA_lt h_r hn) (kd_arr h_r) (ixIn (a := j) rfl (by first | decide | (simp only [lenOf]; omega) | omega) (by decide)) (ixAt (a := j) rfl (by omega)) dX4_hairsHere_30 ?_
      refine xg (C := RX1) (T := TX1) (N := 9) (v := .int (M (r + 1 + 1 + j) 3)) hx hb hts inc1 hown hK hP (kI_lt (kd_ins h_r (by omega)) hn) (cell1 (kd_ins h_r (by omega))) rfl 3 (by decide) lk3 (fun _ h => h) rfl dX4_hairsHere_31 ?_
      refine lv_iadd hx hb dX4_hairsHere_34 ?_
      refine lv_iadd hx hb dX4_hairsHere_35 ?_
      refine lv_istore_n (lv' := [(1, .int (u + ((M (r + 1 + 1 + j) 1) + (M (r + 1 + 1 + j) 3)))), (0, .ref (b + r)), (2, .int (nI (j)))]) hx hb dX4_hairsHere_36 rfl hl (by decide) rfl (fun ls hl => ?_)
      refine lv_iinc (v := nI (j + 1)) (lv' := [(2, .int (nI (j + 1))), (1, .int (u + ((M (r + 1 + 1 + j) 1) + (M (r + 1 + 1 + j) 3)))), (0, .ref (b + r))]) hx hb dX4_hairsHere_37 hl (k := 2) rfl (ixAdd (a := j) (c := 1) (d := j + 1) rfl rfl (by omega)) (by decide) rfl (fun ls hl => ?_)
      refine lv_goto (tgt := 7) hx hb dX4_hairsHere_40 (by decide) ?_
      rw [show LX4_hairsHere_7f r (k + 1) M u j = LX4_hairsHere_7f r k M (u + ((M (r + 1 + 1 + j) 1) + (M (r + 1 + 1 + j) 3))) (j + 1) from (by rw [LX4_hairsHere_7f, if_neg c12])]
      exact ih M (u + ((M (r + 1 + 1 + j) 1) + (M (r + 1 + 1 + j) 3))) (j + 1) H locs ls hcnt (by omega) (by omega) hP hS (lv_sub hl [2, 1, 0] rfl)

def fX4_hairsHere (M : Mem) (r : Nat) : Int32 := LX4_hairsHere_7f r 7 M (M r 6) 0
set_option maxHeartbeats 4000000 in
set_option maxRecDepth 100000 in
theorem c_X4_hairsHere (l : Launch) (D : va_G) (cy : Nat → ClassId) (b n : Nat) (hn : 124 ≤ n) (M : Mem) (r : Nat) (h_r : kd r = 4) (hcnt : CNT M r) : Met l yX4_hairsHere wsX4_hairsHere ({ frames := 0, cells := 0, slots := 0, locals := 0 } : Room) (CP D cy b n fT M [.ref (b + r)]) (CQi D cy b n fT (fX4_hairsHere M r) M) 0 0 (fr b) := by
  refine Met.ofW (cc := cX4_hairsHere) (maxL := 3) (ret := (some .int)) (by decide) rfl ?_
  intro p e s m args below meth c s₁ B hml hv
  obtain ⟨rfl, hP, hK, hX⟩ := hv
  have hx := B.exec
  have hb := B.bytes
  have hr := B.returns
  have hts := atoms_spec (ws := wsX4_hairsHere) B.pre
  have hown : s.vm.findClass RX4 = some m.cls := findClass_of_methodNamed B.named
  have hlocks := B.notSynchronized
  have lk0 := hts (.fieldLink RX4 34 "HygrometerRoom$Room" "stock" "I") (by decide +kernel)
  have inc4 : ∀ w ∈ u_ws RX4 TX4 8, w ∈ wsX4_hairsHere := by decide +kernel
  have hS : va_S (fr b) s.heap s.heap [] := va_S.rf
  have hl := lv_entry ([.ref (b + r)]) (n := 3) (Nat.le_of_ble_eq_true rfl)
  rw [lg_entry_eq]
  generalize (lg_sl ([.ref (b + r)]) ++ List.replicate (3 - (lg_sl ([.ref (b + r)])).length) Slot.unset).toArray = ls at hl ⊢
  have hl : lv_has ls 3 [(0, .ref (b + r))] := hl
  refine lv_aload_n hx hb dX4_hairsHere_0 rfl (lv_at hl 0 rfl) ?_
  refine xg (C := RX4) (T := TX4) (N := 8) (v := .int (M r 6)) hx hb hts inc4 hown hK hP (kR_lt h_r hn) (cell4 h_r) rfl 6 (by decide) lk0 (fun _ h => h) rfl dX4_hairsHere_1 ?_
  refine lv_istore_n (lv' := [(1, .int (M r 6)), (0, .ref (b + r))]) hx hb dX4_hairsHere_4 rfl hl (by decide) rfl (fun ls hl => ?_)
  refine lv_iconst (v := 0) hx hb dX4_hairsHere_5 (by decide) ?_
  refine lv_istore_n (lv' := [(2, .int (0 : Int32)), (1, .int (M r 6)), (0, .ref (b + r))]) hx hb dX4_hairsHere_6 rfl hl (by decide) rfl (fun ls hl => ?_)
  rw [show fX4_hairsHere M r = LX4_hairsHere_7f r 7 M (M r 6) 0 from (by rw [fX4_hairsHere])]
  exact cl_X4_hairsHere_7 l D cy b n hn r h_r hx hb hr hlocks hml hown hts hK hX 7 M (M r 6) 0 s.heap [] ls hcnt (by omega) (by omega) hP hS (lv_sub hl [2, 1, 0] rfl)
def LX4_hairsThatCame_7f (r : Nat) : Nat → Mem → Int32 → Nat → Int32
  | 0, _, _, _ => 0
  | k + 1, M, u, j => if (M r 1) ≤ (nI (j)) then u else (LX4_hairsThatCame_7f r k M (u + (M (r + 1 + 1 + j) 2)) (j + 1))
set_option maxHeartbeats 4000000 in
set_option maxRecDepth 100000 in
theorem cl_X4_hairsThatCame_7 (l : Launch) (D : va_G) (cy : Nat → ClassId) (b n : Nat) (hn : 124 ≤ n) (r : Nat) (h_r : kd r = 4) {p : Program} {e : Env} {s : State} {m : MethodId} {args : Array Value} {below : List Frame} {meth : Method} {c : Code} (hx : p.tables.exec = Jvm.exec) (hb : c.code = cX4_hairsThatCame) (hr : meth.sig.returnType = (some .int)) (hlocks : meth.locks = false) (hml : c.maxLocals = 3) (hown : s.vm.findClass RX4 = some m.cls) (hts : ∀ w ∈ wsX4_hairsThatCame, w.before args s = true) (hK : va_K D vwCl (tysW cy) s) (hX : SX b s)  : ∀ (k : Nat) (M : Mem) (u : Int32) (j : Nat) (H : Heap) (locs : List Loc) (ls : Array Slot), CNT M r → j ≤ 6 → 7 ≤ j + k → va_P D vwCl (wL cy b fT M n) H → va_S (fr b) s.heap H locs → lv_has ls 3 [(0, .ref (b + r)), (1, .int u), (2, .int (nI (j)))] → W p l e (headSpec wsX4_hairsThatCame ({ frames := 0, cells := 0, slots := 0, locals := 0 } : Room)).room s m args below meth c H locs 0 0 (MQ below (CQi D cy b n fT (LX4_hairsThatCame_7f r k M u j) M) args s 0 0 (fr b)) (F0 m 7 ls []) := by
  have lk0 := hts (.fieldLink RX4 18 "HygrometerRoom$Room" "count" "I") (by decide +kernel)
  have lk1 := hts (.fieldLink RX4 11 "HygrometerRoom$Room" "instruments" "[LHygrometerRoom$Instrument;") (by decide +kernel)
  have lk2 := hts (.fieldLink RX4 130 "HygrometerRoom$Instrument" "hairsAtFirst" "I") (by decide +kernel)
  have inc1 : ∀ w ∈ u_ws RX1 TX1 9, w ∈ wsX4_hairsThatCame := by decide +kernel
  have inc4 : ∀ w ∈ u_ws RX4 TX4 8, w ∈ wsX4_hairsThatCame := by decide +kernel
  intro k
  induction k with
  | zero => intro M u j H locs ls hcnt hj hk hP hS hl; omega
  | succ k ih =>
    intro M u j H locs ls hcnt hj hk hP hS hl
    refine lv_iload_n hx hb dX4_hairsThatCame_7 rfl (lv_at hl 2 rfl) ?_
    refine lv_aload_n hx hb dX4_hairsThatCame_8 rfl (lv_at hl 0 rfl) ?_
    refine xg (C := RX4) (T := TX4) (N := 8) (v := .int (M r 1)) hx hb hts inc4 hown hK hP (kR_lt h_r hn) (cell4 h_r) rfl 1 (by decide) lk0 (fun _ h => h) rfl dX4_hairsThatCame_9 ?_
    refine lv_icmp_ge (tgt := 33) hx hb dX4_hairsThatCame_12 (by decide) (fun c12 => ?_) (fun c12 => ?_)
    · refine lv_iload_n hx hb dX4_hairsThatCame_33 rfl (lv_at hl 1 rfl) ?_
      exact xe_i hx hb hr hlocks hP hS rfl rfl (by rw [LX4_hairsThatCame_7f, if_pos c12] <;> rfl) (Nat.le_of_ble_eq_true rfl) (Nat.le_of_ble_eq_true rfl) dX4_hairsThatCame_34
    · have hj6 := ub_lt hcnt hj c12
      refine lv_iload_n hx hb dX4_hairsThatCame_15 rfl (lv_at hl 1 rfl) ?_
      refine lv_aload_n hx hb dX4_hairsThatCame_16 rfl (lv_at hl 0 rfl) ?_
      refine xg (C := RX4) (T := TX4) (N := 8) (v := .ref (b + (r + 1))) hx hb hts inc4 hown hK hP (kR_lt h_r hn) (cell4 h_r) rfl 0 (by decide) lk1 (fun _ h => h) rfl dX4_hairsThatCame_17 ?_
      refine lv_iload_n hx hb dX4_hairsThatCame_20 rfl (lv_at hl 2 rfl) ?_
      refine xnl (j := j) hx hb hK hP (kA_lt h_r hn) (kd_arr h_r) (ixIn (a := j) rfl (by first | decide | (simp only [lenOf]; omega) | omega) (by decide)) (ixAt (a := j) rfl (by omega)) dX4_hairsThatCame_21 ?_
      refine xg (C := RX1) (T := TX1) (N := 9) (v := .int (M (r + 1 + 1 + j) 2)) hx hb hts inc1 hown hK hP (kI_lt (kd_ins h_r (by omega)) hn) (cell1 (kd_ins h_r (by omega))) rfl 2 (by decide) lk2 (fun _ h => h) rfl dX4_hairsThatCame_22 ?_
      refine lv_iadd hx hb dX4_hairsThatCame_25 ?_
      refine lv_istore_n (lv' := [(1, .int (u + (M (r + 1 + 1 + j) 2))), (0, .ref (b + r)), (2, .int (nI (j)))]) hx hb dX4_hairsThatCame_26 rfl hl (by decide) rfl (fun ls hl => ?_)
      refine lv_iinc (v := nI (j + 1)) (lv' := [(2, .int (nI (j + 1))), (1, .int (u + (M (r + 1 + 1 + j) 2))), (0, .ref (b + r))]) hx hb dX4_hairsThatCame_27 hl (k := 2) rfl (ixAdd (a := j) (c := 1) (d := j + 1) rfl rfl (by omega)) (by decide) rfl (fun ls hl => ?_)
      refine lv_goto (tgt := 7) hx hb dX4_hairsThatCame_30 (by decide) ?_
      rw [show LX4_hairsThatCame_7f r (k + 1) M u j = LX4_hairsThatCame_7f r k M (u + (M (r + 1 + 1 + j) 2)) (j + 1) from (by rw [LX4_hairsThatCame_7f, if_neg c12])]
      exact ih M (u + (M (r + 1 + 1 + j) 2)) (j + 1) H locs ls hcnt (by omega) (by omega) hP hS (lv_sub hl [2, 1, 0] rfl)

def fX4_hairsThatCame (M : Mem) (r : Nat) : Int32 := LX4_hairsThatCame_7f r 7 M (M r 7) 0
set_option maxHeartbeats 4000000 in
set_option maxRecDepth 100000 in
theorem c_X4_hairsThatCame (l : Launch) (D : va_G) (cy : Nat → ClassId) (b n : Nat) (hn : 124 ≤ n) (M : Mem) (r : Nat) (h_r : kd r = 4) (hcnt : CNT M r) : Met l yX4_hairsThatCame wsX4_hairsThatCame ({ frames := 0, cells := 0, slots := 0, locals := 0 } : Room) (CP D cy b n fT M [.ref (b + r)]) (CQi D cy b n fT (fX4_hairsThatCame M r) M) 0 0 (fr b) := by
  refine Met.ofW (cc := cX4_hairsThatCame) (maxL := 3) (ret := (some .int)) (by decide) rfl ?_
  intro p e s m args below meth c s₁ B hml hv
  obtain ⟨rfl, hP, hK, hX⟩ := hv
  have hx := B.exec
  have hb := B.bytes
  have hr := B.returns
  have hts := atoms_spec (ws := wsX4_hairsThatCame) B.pre
  have hown : s.vm.findClass RX4 = some m.cls := findClass_of_methodNamed B.named
  have hlocks := B.notSynchronized
  have lk0 := hts (.fieldLink RX4 37 "HygrometerRoom$Room" "brought" "I") (by decide +kernel)
  have inc4 : ∀ w ∈ u_ws RX4 TX4 8, w ∈ wsX4_hairsThatCame := by decide +kernel
  have hS : va_S (fr b) s.heap s.heap [] := va_S.rf
  have hl := lv_entry ([.ref (b + r)]) (n := 3) (Nat.le_of_ble_eq_true rfl)
  rw [lg_entry_eq]
  generalize (lg_sl ([.ref (b + r)]) ++ List.replicate (3 - (lg_sl ([.ref (b + r)])).length) Slot.unset).toArray = ls at hl ⊢
  have hl : lv_has ls 3 [(0, .ref (b + r))] := hl
  refine lv_aload_n hx hb dX4_hairsThatCame_0 rfl (lv_at hl 0 rfl) ?_
  refine xg (C := RX4) (T := TX4) (N := 8) (v := .int (M r 7)) hx hb hts inc4 hown hK hP (kR_lt h_r hn) (cell4 h_r) rfl 7 (by decide) lk0 (fun _ h => h) rfl dX4_hairsThatCame_1 ?_
  refine lv_istore_n (lv' := [(1, .int (M r 7)), (0, .ref (b + r))]) hx hb dX4_hairsThatCame_4 rfl hl (by decide) rfl (fun ls hl => ?_)
  refine lv_iconst (v := 0) hx hb dX4_hairsThatCame_5 (by decide) ?_
  refine lv_istore_n (lv' := [(2, .int (0 : Int32)), (1, .int (M r 7)), (0, .ref (b + r))]) hx hb dX4_hairsThatCame_6 rfl hl (by decide) rfl (fun ls hl => ?_)
  rw [show fX4_hairsThatCame M r = LX4_hairsThatCame_7f r 7 M (M r 7) 0 from (by rw [fX4_hairsThatCame])]
  exact cl_X4_hairsThatCame_7 l D cy b n hn r h_r hx hb hr hlocks hml hown hts hK hX 7 M (M r 7) 0 s.heap [] ls hcnt (by omega) (by omega) hP hS (lv_sub hl [2, 1, 0] rfl)

