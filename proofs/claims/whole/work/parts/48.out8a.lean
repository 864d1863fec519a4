/-! the reference's states kept, its output -/
theorem ud_ub {M : Mem} (h : UB (M 124 6) 10) (hc : ¬ M 124 6 = 0) : UB (mU M 124 6 (M 124 6 - 1) 124 6) 9 := by
  obtain ⟨k, hk, e⟩ := h
  rw [mU_at, show upd (M 124) 6 (M 124 6 - 1) 6 = M 124 6 - 1 from if_pos rfl, e]
  have h0 : k ≠ 0 := fun h0 => hc (by rw [e, h0]; rfl)
  refine ⟨k - 1, by omega, ?_⟩
  rw [show (1 : Int32) = nI 1 from rfl, pk_sub (by omega)]
theorem ob_in {M : Mem} {x : Int32} (h : UB (M 124 12) 60) (hc : ¬ fX8_in M x 0 (M 124 12 - 1) = 0) : vp_in x 60 := by
  obtain ⟨r1, r2⟩ := in_rng (M := M) hc
  obtain ⟨c, hc, ec⟩ := h
  obtain ⟨j, hj, rfl⟩ := nI_of r1
  refine vp_in_nI ?_ (by decide)
  rcases Nat.lt_or_ge j c with h6 | h6
  · omega
  · exfalso
    rw [ec] at r2
    have := Int32.le_iff_toInt_le.mp r2
    rw [nI_toInt hj, show (1 : Int32) = nI 1 from rfl, pk_sub_toInt (by omega) (by omega)] at this
    omega
def LX8_restore_38f (x : Int32) : Nat → Mem → Nat → Int32
  | 0, _, _ => 0
  | k + 1, M, j => if (56 : Int32) ≤ (nI (j)) then (fX8_told M (M 127 0)) else (LX8_restore_38f x k (mU M 127 j (M 130 (j + 56 * x.toNatClampNeg))) (j + 1))
def LX8_restore_38g (x : Int32) : Nat → Mem → Nat → Mem
  | 0, M, _ => M
  | k + 1, M, j => if (56 : Int32) ≤ (nI (j)) then (gX8_told M (M 127 0)) else (LX8_restore_38g x k (mU M 127 j (M 130 (j + 56 * x.toNatClampNeg))) (j + 1))
set_option maxHeartbeats 4000000 in
set_option maxRecDepth 100000 in
theorem cl_X8_restore_38 (l : Launch) (D : va_G) (cy : Nat → ClassId) (b n : Nat) (hn : 133 ≤ n) (x : Int32)  {p : Program} {e : Env} {s : State} {m : MethodId} {args : Array Value} {below : List Frame} {meth : Method} {c : Code} (hx : p.tables.exec = Jvm.exec) (hb : c.code = cX8_restore) (hr : meth.sig.returnType = (some .int)) (hlocks : meth.locks = false) (hml : c.maxLocals = 3) (hown : s.vm.findClass RX8 = some m.cls) (hts : ∀ w ∈ wsX8_restore, w.before args s = true) (hK : va_K D vwCl (tysW cy) s) (hX : SX b s)  : ∀ (k : Nat) (M : Mem) (j : Nat) (H : Heap) (locs : List Loc) (ls : Array Slot), UB x 1 → j ≤ 56 → 57 ≤ j + k → va_P D vwCl (wL cy b fT M n) H → va_S (fr b) s.heap H locs → lv_has ls 3 [(0, .ref (b + 124)), (1, .int x), (2, .int (nI (j)))] → W p l e (headSpec wsX8_restore ({ frames := 2, cells := 0, slots := 0, locals := 42 } : Room)).room s m args below meth c H locs 0 0 (MQ below (CQi D cy b n fT (LX8_restore_38f x k M j) (LX8_restore_38g x k M j)) args s 0 0 (fr b)) (F0 m 38 ls []) := by
  have lk0 := hts (.fieldLink RX8 16 "HygrometerRoomModel" "now" "[I") (by decide +kernel)
  have lk1 := hts (.fieldLink RX8 25 "HygrometerRoomModel" "saved" "[I") (by decide +kernel)
  have inc8 : ∀ w ∈ u_ws RX8 TX8 22, w ∈ wsX8_restore := by decide +kernel
  intro k
  induction k with
  | zero => intro M j H locs ls hx1 hj hk hP hS hl; omega
  | succ k ih =>
    intro M j H locs ls hx1 hj hk hP hS hl
    refine lv_iload_n hx hb dX8_restore_38 rfl (lv_at hl 2 rfl) ?_
    refine lv_bipush (v := 56) hx hb dX8_restore_39 (by decide) ?_
    refine lv_icmp_ge (tgt := 67) hx hb dX8_restore_41 (by decide) (fun c41 => ?_) (fun c41 => ?_)
    · refine lv_aload_n hx hb dX8_restore_67 rfl (lv_at hl 0 rfl) ?_
      refine lv_aload_n hx hb dX8_restore_68 rfl (lv_at hl 0 rfl) ?_
      refine xg (C := RX8) (T := TX8) (N := 22) (v := .ref (b + 127)) hx hb hts inc8 hown hK hP (by omega) (cell8 (by decide)) rfl 3 (by decide) lk0 (fun _ h => h) rfl dX8_restore_69 ?_
      refine lv_iconst (v := 0) hx hb dX8_restore_72 (by decide) ?_
      refine xil (j := 0) hx hb hK hP (by omega) (by decide) (ixIn (a := 0) rfl (by first | decide | (simp only [lenOf]; omega) | omega) (by decide)) rfl dX8_restore_73 ?_
      refine xc_i (va_runV (As := [.int (M 127 0)]) (rest := []) ⟨hx, hb, hml, hown, hts⟩ (c_X8_told l D cy b n hn M (M 127 0)) (cwV 1 hts gX8_restore_X8_told rfl rfl rfl (by decide +kernel) ⟨Nat.le_of_ble_eq_true rfl, Nat.le_of_ble_eq_true rfl⟩) (xPreV hP hK hX hS (by omega) (cell8 (by decide)) rfl) rfl rfl hl.1 rfl (lv_room (Nat.le_of_ble_eq_true rfl)) dX8_restore_74 ⟨Nat.le_of_ble_eq_true rfl, Nat.le_of_ble_eq_true rfl⟩) hS (fun H locs hP hS => ?_)
      exact xe_i hx hb hr hlocks hP hS rfl (by rw [LX8_restore_38g, if_pos c41] <;> rfl) (by rw [LX8_restore_38f, if_pos c41] <;> rfl) (Nat.le_of_ble_eq_true rfl) (Nat.le_of_ble_eq_true rfl) dX8_restore_77
    · have hj6 := lit_lt (N := 56) c41 rfl hj
      have hx2 := ub_cl2 hx1
      refine lv_aload_n hx hb dX8_restore_44 rfl (lv_at hl 0 rfl) ?_
      refine xg (C := RX8) (T := TX8) (N := 22) (v := .ref (b + 127)) hx hb hts inc8 hown hK hP (by omega) (cell8 (by decide)) rfl 3 (by decide) lk0 (fun _ h => h) rfl dX8_restore_45 ?_
      refine lv_iload_n hx hb dX8_restore_48 rfl (lv_at hl 2 rfl) ?_
      refine lv_aload_n hx hb dX8_restore_49 rfl (lv_at hl 0 rfl) ?_
      refine xg (C := RX8) (T := TX8) (N := 22) (v := .ref (b + 130)) hx hb hts inc8 hown hK hP (by omega) (cell8 (by decide)) rfl 7 (by decide) lk1 (fun _ h => h) rfl dX8_restore_50 ?_
      refine lv_iload_n hx hb dX8_restore_53 rfl (lv_at hl 1 rfl) ?_
      refine W.eq (g2 := F0 m 54 ls (.int (nI (x.toNatClampNeg)) :: .ref (b + 130) :: .int (nI (j)) :: .ref (b + 127) :: [])) (congrArg (fun z => F0 m 54 ls (.int z :: .ref (b + 130) :: .int (nI (j)) :: .ref (b + 127) :: [])) (nat_ub hx1)) ?_
      refine lv_bipush (v := 56) hx hb dX8_restore_54 (by decide) ?_
      refine xmul (z := nI (56 * x.toNatClampNeg)) hx hb (ixMul (a := x.toNatClampNeg) (c := 56) (d := 56 * x.toNatClampNeg) rfl rfl (by omega)) dX8_restore_56 ?_
      refine lv_iload_n hx hb dX8_restore_57 rfl (lv_at hl 2 rfl) ?_
      refine xadd (z := nI (j + 56 * x.toNatClampNeg)) hx hb (ixAdd (a := 56 * x.toNatClampNeg) (c := j) (d := j + 56 * x.toNatClampNeg) rfl rfl (by omega)) dX8_restore_58 ?_
      refine xil (j := j + 56 * x.toNatClampNeg) hx hb hK hP (by omega) (by decide) (ixIn (a := j + 56 * x.toNatClampNeg) rfl (by first | decide | (simp only [lenOf]; omega) | omega) (by decide)) (ixAt (a := j + 56 * x.toNatClampNeg) rfl (by omega)) dX8_restore_59 ?_
      refine xis (j := j) (x := M 130 (j + 56 * x.toNatClampNeg)) hx hb hK hP hS (by omega) (by decide) (ixIn (a := j) rfl (by first | decide | (simp only [lenOf]; omega) | omega) (by decide)) (ixAt (a := j) rfl (by omega)) dX8_restore_60 (fun H locs hP hS => ?_)
      refine lv_iinc (v := nI (j + 1)) (lv' := [(2, .int (nI (j + 1))), (0, .ref (b + 124)), (1, .int x)]) hx hb dX8_restore_61 hl (k := 2) rfl (ixAdd (a := j) (c := 1) (d := j + 1) rfl rfl (by omega)) (by decide) rfl (fun ls hl => ?_)
      refine lv_goto (tgt := 38) hx hb dX8_restore_64 (by decide) ?_
      rw [show LX8_restore_38f x (k + 1) M j = LX8_restore_38f x k (mU M 127 j (M 130 (j + 56 * x.toNatClampNeg))) (j + 1) from (by rw [LX8_restore_38f, if_neg c41]), show LX8_restore_38g x (k + 1) M j = LX8_restore_38g x k (mU M 127 j (M 130 (j + 56 * x.toNatClampNeg))) (j + 1) from (by rw [LX8_restore_38g, if_neg c41])]
      exact ih (mU M 127 j (M 130 (j + 56 * x.toNatClampNeg))) (j + 1) H locs ls hx1 (by omega) (by omega) hP hS (lv_sub hl [1, 2, 0] rfl)

def fX8_restore (M : Mem) (x : Int32) : Int32 := if (fX8_in M x (0 : Int32) (1 : Int32)) = 0 then (fX8_refuse M (1 : Int32)) else (if (((M 124 8) >>> (x &&& 31)) &&& (1 : Int32)) = 0 then (fX8_refuse M (2 : Int32)) else (LX8_restore_38f x 57 (gX8_remembers M) 0))
def gX8_restore (M : Mem) (x : Int32) : Mem := if (fX8_in M x (0 : Int32) (1 : Int32)) = 0 then (gX8_refuse M (1 : Int32)) else (if (((M 124 8) >>> (x &&& 31)) &&& (1 : Int32)) = 0 then (gX8_refuse M (2 : Int32)) else (LX8_restore_38g x 57 (gX8_remembers M) 0))
set_option maxHeartbeats 4000000 in
set_option maxRecDepth 100000 in
theorem c_X8_restore (l : Launch) (D : va_G) (cy : Nat → ClassId) (b n : Nat) (hn : 133 ≤ n) (M : Mem) (x : Int32) (ho : UB (M 124 6) 10) : Met l yX8_restore wsX8_restore ({ frames := 2, cells := 0, slots := 0, locals := 42 } : Room) (CP D cy b n fT M [.ref (b + 124), .int x]) (CQi D cy b n fT (fX8_restore M x) (gX8_restore M x)) 0 0 (fr b) := by
  refine Met.ofW (cc := cX8_restore) (maxL := 3) (ret := (some .int)) (by decide) rfl ?_
  intro p e s m args below meth c s₁ B hml hv
  obtain ⟨rfl, hP, hK, hX⟩ := hv
  have hx := B.exec
  have hb := B.bytes
  have hr := B.returns
  have hts := atoms_spec (ws := wsX8_restore) B.pre
  have hown : s.vm.findClass RX8 = some m.cls := findClass_of_methodNamed B.named
  have hlocks := B.notSynchronized
  have lk0 := hts (.fieldLink RX8 227 "HygrometerRoomModel" "savedSet" "I") (by decide +kernel)
  have inc8 : ∀ w ∈ u_ws RX8 TX8 22, w ∈ wsX8_restore := by decide +kernel
  have hS : va_S (fr b) s.heap s.heap [] := va_S.rf
  have hl := lv_entry ([.ref (b + 124), .int x]) (n := 3) (Nat.le_of_ble_eq_true rfl)
  rw [lg_entry_eq]
  generalize (lg_sl ([.ref (b + 124), .int x]) ++ List.replicate (3 - (lg_sl ([.ref (b + 124), .int x])).length) Slot.unset).toArray = ls at hl ⊢
  have hl : lv_has ls 3 [(0, .ref (b + 124)), (1, .int x)] := hl
  refine lv_iload_n hx hb dX8_restore_0 rfl (lv_at hl 1 rfl) ?_
  refine lv_iconst (v := 0) hx hb dX8_restore_1 (by decide) ?_
  refine lv_iconst (v := 1) hx hb dX8_restore_2 (by decide) ?_
  refine xc_i (va_runS (As := [.int x, .int (0 : Int32), .int (1 : Int32)]) (rest := []) ⟨hx, hb, hml, hown, hts⟩ (c_X8_in l D cy b n hn M x (0 : Int32) (1 : Int32)) (va_cwS 3 hts gX8_restore_X8_in rfl rfl rfl (by decide +kernel) ⟨Nat.le_of_ble_eq_true rfl, Nat.le_of_ble_eq_true rfl⟩) (xPreS hP hK hX hS) rfl rfl hl.1 rfl (lv_room (Nat.le_of_ble_eq_true rfl)) dX8_restore_3 ⟨Nat.le_of_ble_eq_true rfl, Nat.le_of_ble_eq_true rfl⟩) hS (fun H locs hP hS => ?_)
  refine lv_if_ne (tgt := 15) hx hb dX8_restore_6 (by decide) (fun c6 => ?_) (fun c6 => ?_)
  · refine lv_aload_n hx hb dX8_restore_15 rfl (lv_at hl 0 rfl) ?_
    refine xg (C := RX8) (T := TX8) (N := 22) (v := .int (M 124 8)) hx hb hts inc8 hown hK hP (by omega) (cell8 (by decide)) rfl 8 (by decide) lk0 (fun _ h => h) rfl dX8_restore_16 ?_
    refine lv_iload_n hx hb dX8_restore_19 rfl (lv_at hl 1 rfl) ?_
    refine lv_ishr hx hb dX8_restore_20 ?_
    refine lv_iconst (v := 1) hx hb dX8_restore_21 (by decide) ?_
    refine lv_iand hx hb dX8_restore_22 ?_
    refine lv_if_ne (tgt := 32) hx hb dX8_restore_23 (by decide) (fun c23 => ?_) (fun c23 => ?_)
    · refine lv_aload_n hx hb dX8_restore_32 rfl (lv_at hl 0 rfl) ?_
      refine xc_v (va_runV (As := []) (rest := []) ⟨hx, hb, hml, hown, hts⟩ (c_X8_remembers l D cy b n hn M ho) (cwV 0 hts gX8_restore_X8_remembers rfl rfl rfl (by decide +kernel) ⟨Nat.le_of_ble_eq_true rfl, Nat.le_of_ble_eq_true rfl⟩) (xPreV hP hK hX hS (by omega) (cell8 (by decide)) rfl) rfl rfl hl.1 rfl (lv_room (Nat.le_of_ble_eq_true rfl)) dX8_restore_33 ⟨Nat.le_of_ble_eq_true rfl, Nat.le_of_ble_eq_true rfl⟩) hS (fun H locs hP hS => ?_)
      refine lv_iconst (v := 0) hx hb dX8_restore_36 (by decide) ?_
      refine lv_istore_n (lv' := [(2, .int (0 : Int32)), (0, .ref (b + 124)), (1, .int x)]) hx hb dX8_restore_37 rfl hl (by decide) rfl (fun ls hl => ?_)
      rw [show fX8_restore M x = LX8_restore_38f x 57 (gX8_remembers M) 0 from (by rw [fX8_restore, if_neg c6, if_neg c23]), show gX8_restore M x = LX8_restore_38g x 57 (gX8_remembers M) 0 from (by rw [gX8_restore, if_neg c6, if_neg c23])]
      exact cl_X8_restore_38 l D cy b n hn x hx hb hr hlocks hml hown hts hK hX 57 (gX8_remembers M) 0 H locs ls (in_1 c6) (by omega) (by omega) hP hS (lv_sub hl [1, 2, 0] rfl)
    · refine lv_aload_n hx hb dX8_restore_26 rfl (lv_at hl 0 rfl) ?_
      refine lv_iconst (v := 2) hx hb dX8_restore_27 (by decide) ?_
      refine xc_i (va_runV (As := [.int (2 : Int32)]) (rest := []) ⟨hx, hb, hml, hown, hts⟩ (c_X8_refuse l D cy b n hn M (2 : Int32)) (cwV 1 hts gX8_restore_X8_refuse rfl rfl rfl (by decide +kernel) ⟨Nat.le_of_ble_eq_true rfl, Nat.le_of_ble_eq_true rfl⟩) (xPreV hP hK hX hS (by omega) (cell8 (by decide)) rfl) rfl rfl hl.1 rfl (lv_room (Nat.le_of_ble_eq_true rfl)) dX8_restore_28 ⟨Nat.le_of_ble_eq_true rfl, Nat.le_of_ble_eq_true rfl⟩) hS (fun H locs hP hS => ?_)
      exact xe_i hx hb hr hlocks hP hS rfl (by rw [gX8_restore, if_neg c6, if_pos c23] <;> rfl) (by rw [fX8_restore, if_neg c6, if_pos c23] <;> rfl) (Nat.le_of_ble_eq_true rfl) (Nat.le_of_ble_eq_true rfl) dX8_restore_31
  · refine lv_aload_n hx hb dX8_restore_9 rfl (lv_at hl 0 rfl) ?_
    refine lv_iconst (v := 1) hx hb dX8_restore_10 (by decide) ?_
    refine xc_i (va_runV (As := [.int (1 : Int32)]) (rest := []) ⟨hx, hb, hml, hown, hts⟩ (c_X8_refuse l D cy b n hn M (1 : Int32)) (cwV 1 hts gX8_restore_X8_refuse rfl rfl rfl (by decide +kernel) ⟨Nat.le_of_ble_eq_true rfl, Nat.le_of_ble_eq_true rfl⟩) (xPreV hP hK hX hS (by omega) (cell8 (by decide)) rfl) rfl rfl hl.1 rfl (lv_room (Nat.le_of_ble_eq_true rfl)) dX8_restore_11 ⟨Nat.le_of_ble_eq_true rfl, Nat.le_of_ble_eq_true rfl⟩) hS (fun H locs hP hS => ?_)
    exact xe_i hx hb hr hlocks hP hS rfl (by rw [gX8_restore, if_pos c6] <;> rfl) (by rw [fX8_restore, if_pos c6] <;> rfl) (Nat.le_of_ble_eq_true rfl) (Nat.le_of_ble_eq_true rfl) dX8_restore_14
def LX8_undo_25f  : Nat → Mem → Nat → Int32
  | 0, _, _ => 0
  | k + 1, M, j => if (56 : Int32) ≤ (nI (j)) then (fX8_told M (M 124 6)) else (LX8_undo_25f k (mU M 127 j (M 129 (56 * ((M 124 6).toNatClampNeg) + j))) (j + 1))
def LX8_undo_25g  : Nat → Mem → Nat → Mem
  | 0, M, _ => M
  | k + 1, M, j => if (56 : Int32) ≤ (nI (j)) then (gX8_told M (M 124 6)) else (LX8_undo_25g k (mU M 127 j (M 129 (56 * ((M 124 6).toNatClampNeg) + j))) (j + 1))
set_option maxHeartbeats 4000000 in
set_option maxRecDepth 100000 in
theorem cl_X8_undo_25 (l : Launch) (D : va_G) (cy : Nat → ClassId) (b n : Nat) (hn : 133 ≤ n)   {p : Program} {e : Env} {s : State} {m : MethodId} {args : Array Value} {below : List Frame} {meth : Method} {c : Code} (hx : p.tables.exec = Jvm.exec) (hb : c.code = cX8_undo) (hr : meth.sig.returnType = (some .int)) (hlocks : meth.locks = false) (hml : c.maxLocals = 2) (hown : s.vm.findClass RX8 = some m.cls) (hts : ∀ w ∈ wsX8_undo, w.before args s = true) (hK : va_K D vwCl (tysW cy) s) (hX : SX b s)  : ∀ (k : Nat) (M : Mem) (j : Nat) (H : Heap) (locs : List Loc) (ls : Array Slot), UB (M 124 6) 9 → j ≤ 56 → 57 ≤ j + k → va_P D vwCl (wL cy b fT M n) H → va_S (fr b) s.heap H locs → lv_has ls 2 [(0, .ref (b + 124)), (1, .int (nI (j)))] → W p l e (headSpec wsX8_undo ({ frames := 1, cells := 0, slots := 0, locals := 21 } : Room)).room s m args below meth c H locs 0 0 (MQ below (CQi D cy b n fT (LX8_undo_25f k M j) (LX8_undo_25g k M j)) args s 0 0 (fr b)) (F0 m 25 ls []) := by
  have lk0 := hts (.fieldLink RX8 104 "HygrometerRoomModel" "oldMany" "I") (by decide +kernel)
  have lk1 := hts (.fieldLink RX8 16 "HygrometerRoomModel" "now" "[I") (by decide +kernel)
  have lk2 := hts (.fieldLink RX8 22 "HygrometerRoomModel" "old" "[I") (by decide +kernel)
  have inc8 : ∀ w ∈ u_ws RX8 TX8 22, w ∈ wsX8_undo := by decide +kernel
  intro k
  induction k with
  | zero => intro M j H locs ls hu hj hk hP hS hl; omega
  | succ k ih =>
    intro M j H locs ls hu hj hk hP hS hl
    refine lv_iload_n hx hb dX8_undo_25 rfl (lv_at hl 1 rfl) ?_
    refine lv_bipush (v := 56) hx hb dX8_undo_26 (by decide) ?_
    refine lv_icmp_ge (tgt := 57) hx hb dX8_undo_28 (by decide) (fun c28 => ?_) (fun c28 => ?_)
    · refine lv_aload_n hx hb dX8_undo_57 rfl (lv_at hl 0 rfl) ?_
      refine lv_aload_n hx hb dX8_undo_58 rfl (lv_at hl 0 rfl) ?_
      refine xg (C := RX8) (T := TX8) (N := 22) (v := .int (M 124 6)) hx hb hts inc8 hown hK hP (by omega) (cell8 (by decide)) rfl 6 (by decide) lk0 (fun _ h => h) rfl dX8_undo_59 ?_
      refine xc_i (va_runV (As := [.int (M 124 6)]) (rest := []) ⟨hx, hb, hml, hown, hts⟩ (c_X8_told l D cy b n hn M (M 124 6)) (cwV 1 hts gX8_undo_X8_told rfl rfl rfl (by decide +kernel) ⟨Nat.le_of_ble_eq_true rfl, Nat.le_of_ble_eq_true rfl⟩) (xPreV hP hK hX hS (by omega) (cell8 (by decide)) rfl) rfl rfl hl.1 rfl (lv_room (Nat.le_of_ble_eq_true rfl)) dX8_undo_62 ⟨Nat.le_of_ble_eq_true rfl, Nat.le_of_ble_eq_true rfl⟩) hS (fun H locs hP hS => ?_)
      exact xe_i hx hb hr hlocks hP hS rfl (by rw [LX8_undo_25g, if_pos c28] <;> rfl) (by rw [LX8_undo_25f, if_pos c28] <;> rfl) (Nat.le_of_ble_eq_true rfl) (Nat.le_of_ble_eq_true rfl) dX8_undo_65
    · have hj6 := lit_lt (N := 56) c28 rfl hj
      have hu9 := ub_cl2 hu
      refine lv_aload_n hx hb dX8_undo_31 rfl (lv_at hl 0 rfl) ?_
      refine xg (C := RX8) (T := TX8) (N := 22) (v := .ref (b + 127)) hx hb hts inc8 hown hK hP (by omega) (cell8 (by decide)) rfl 3 (by decide) lk1 (fun _ h => h) rfl dX8_undo_32 ?_
      refine lv_iload_n hx hb dX8_undo_35 rfl (lv_at hl 1 rfl) ?_
      refine lv_aload_n hx hb dX8_undo_36 rfl (lv_at hl 0 rfl) ?_
      refine xg (C := RX8) (T := TX8) (N := 22) (v := .ref (b + 129)) hx hb hts inc8 hown hK hP (by omega) (cell8 (by decide)) rfl 5 (by decide) lk2 (fun _ h => h) rfl dX8_undo_37 ?_
      refine lv_aload_n hx hb dX8_undo_40 rfl (lv_at hl 0 rfl) ?_
      refine xg (C := RX8) (T := TX8) (N := 22) (v := .int (M 124 6)) hx hb hts inc8 hown hK hP (by omega) (cell8 (by decide)) rfl 6 (by decide) lk0 (fun _ h => h) rfl dX8_undo_41 ?_
      refine W.eq (g2 := F0 m 44 ls (.int (nI (((M 124 6).toNatClampNeg))) :: .ref (b + 129) :: .int (nI (j)) :: .ref (b + 127) :: [])) (congrArg (fun z => F0 m 44 ls (.int z :: .ref (b + 129) :: .int (nI (j)) :: .ref (b + 127) :: [])) (nat_ub hu)) ?_
      refine lv_bipush (v := 56) hx hb dX8_undo_44 (by decide) ?_
      refine xmul (z := nI (56 * ((M 124 6).toNatClampNeg))) hx hb (ixMul (a := ((M 124 6).toNatClampNeg)) (c := 56) (d := 56 * ((M 124 6).toNatClampNeg)) rfl rfl (by omega)) dX8_undo_46 ?_
      refine lv_iload_n hx hb dX8_undo_47 rfl (lv_at hl 1 rfl) ?_
      refine xadd (z := nI (56 * ((M 124 6).toNatClampNeg) + j)) hx hb (ixAdd (a := 56 * ((M 124 6).toNatClampNeg)) (c := j) (d := 56 * ((M 124 6).toNatClampNeg) + j) rfl rfl (by omega)) dX8_undo_48 ?_
      refine xil (j := 56 * ((M 124 6).toNatClampNeg) + j) hx hb hK hP (by omega) (by decide) (ixIn (a := 56 * ((M 124 6).toNatClampNeg) + j) rfl (by first | decide | (simp only [lenOf]; omega) | omega) (by decide)) (ixAt (a := 56 * ((M 124 6).toNatClampNeg) + j) rfl (by omega)) dX8_undo_49 ?_
      refine xis (j := j) (x := M 129 (56 * ((M 124 6).toNatClampNeg) + j)) hx hb hK hP hS (by omega) (by decide) (ixIn (a := j) rfl (by first | decide | (simp only [lenOf]; omega) | omega) (by decide)) (ixAt (a := j) rfl (by omega)) dX8_undo_50 (fun H locs hP hS => ?_)
      refine lv_iinc (v := nI (j + 1)) (lv' := [(1, .int (nI (j + 1))), (0, .ref (b + 124))]) hx hb dX8_undo_51 hl (k := 1) rfl (ixAdd (a := j) (c := 1) (d := j + 1) rfl rfl (by omega)) (by decide) rfl (fun ls hl => ?_)
      refine lv_goto (tgt := 25) hx hb dX8_undo_54 (by decide) ?_
      rw [show LX8_undo_25f (k + 1) M j = LX8_undo_25f k (mU M 127 j (M 129 (56 * ((M 124 6).toNatClampNeg) + j))) (j + 1) from (by rw [LX8_undo_25f, if_neg c28]), show LX8_undo_25g (k + 1) M j = LX8_undo_25g k (mU M 127 j (M 129 (56 * ((M 124 6).toNatClampNeg) + j))) (j + 1) from (by rw [LX8_undo_25g, if_neg c28])]
      exact ih (mU M 127 j (M 129 (56 * ((M 124 6).toNatClampNeg) + j))) (j + 1) H locs ls hu (by omega) (by omega) hP hS (lv_sub hl [1, 0] rfl)

def fX8_undo (M : Mem) : Int32 := if (M 124 6) = 0 then (fX8_refuse M (1 : Int32)) else (LX8_undo_25f 57 (mU M 124 6 ((M 124 6) - (1 : Int32))) 0)
def gX8_undo (M : Mem) : Mem := if (M 124 6) = 0 then (gX8_refuse M (1 : Int32)) else (LX8_undo_25g 57 (mU M 124 6 ((M 124 6) - (1 : Int32))) 0)
set_option maxHeartbeats 4000000 in
set_option maxRecDepth 100000 in
theorem c_X8_undo (l : Launch) (D : va_G) (cy : Nat → ClassId) (b n : Nat) (hn : 133 ≤ n) (M : Mem)  (ho : UB (M 124 6) 10) : Met l yX8_undo wsX8_undo ({ frames := 1, cells := 0, slots := 0, locals := 21 } : Room) (CP D cy b n fT M [.ref (b + 124)]) (CQi D cy b n fT (fX8_undo M) (gX8_undo M)) 0 0 (fr b) := by
  refine Met.ofW (cc := cX8_undo) (maxL := 2) (ret := (some .int)) (by decide) rfl ?_
  intro p e s m args below meth c s₁ B hml hv
  obtain ⟨rfl, hP, hK, hX⟩ := hv
  have hx := B.exec
  have hb := B.bytes
  have hr := B.returns
  have hts := atoms_spec (ws := wsX8_undo) B.pre
  have hown : s.vm.findClass RX8 = some m.cls := findClass_of_methodNamed B.named
  have hlocks := B.notSynchronized
  have lk0 := hts (.fieldLink RX8 104 "HygrometerRoomModel" "oldMany" "I") (by decide +kernel)
  have inc8 : ∀ w ∈ u_ws RX8 TX8 22, w ∈ wsX8_undo := by decide +kernel
  have hS : va_S (fr b) s.heap s.heap [] := va_S.rf
  have hl := lv_entry ([.ref (b + 124)]) (n := 2) (Nat.le_of_ble_eq_true rfl)
  rw [lg_entry_eq]
  generalize (lg_sl ([.ref (b + 124)]) ++ List.replicate (2 - (lg_sl ([.ref (b + 124)])).length) Slot.unset).toArray = ls at hl ⊢
  have hl : lv_has ls 2 [(0, .ref (b + 124))] := hl
  refine lv_aload_n hx hb dX8_undo_0 rfl (lv_at hl 0 rfl) ?_
  refine xg (C := RX8) (T := TX8) (N := 22) (v := .int (M 124 6)) hx hb hts inc8 hown hK hP (by omega) (cell8 (by decide)) rfl 6 (by decide) lk0 (fun _ h => h) rfl dX8_undo_1 ?_
  refine lv_if_ne (tgt := 13) hx hb dX8_undo_4 (by decide) (fun c4 => ?_) (fun c4 => ?_)
  · refine lv_aload_n hx hb dX8_undo_13 rfl (lv_at hl 0 rfl) ?_
    refine lv_dup hx hb dX8_undo_14 rfl ?_
    refine xg (C := RX8) (T := TX8) (N := 22) (v := .int (M 124 6)) hx hb hts inc8 hown hK hP (by omega) (cell8 (by decide)) rfl 6 (by decide) lk0 (fun _ h => h) rfl dX8_undo_15 ?_
    refine lv_iconst (v := 1) hx hb dX8_undo_18 (by decide) ?_
    refine lv_isub hx hb dX8_undo_19 ?_
    refine xp (C := RX8) (T := TX8) (N := 22) (ci := 8) (ty := .int) (x := (M 124 6) - (1 : Int32)) hx hb hts inc8 tyX8 tyX8_ok nmX8 hown hK hP hS (by omega) (fun _ => cell8 (by decide)) rfl 6 (by decide) rfl lk0 (fun _ h => h) rfl (tyX8_ok 6 (by decide)) rfl rfl (Nat.le_of_ble_eq_true rfl) dX8_undo_20 (fun H locs hP hS => ?_)
    refine lv_iconst (v := 0) hx hb dX8_undo_23 (by decide) ?_
    refine lv_istore_n (lv' := [(1, .int (0 : Int32)), (0, .ref (b + 124))]) hx hb dX8_undo_24 rfl hl (by decide) rfl (fun ls hl => ?_)
    rw [show fX8_undo M = LX8_undo_25f 57 (mU M 124 6 ((M 124 6) - (1 : Int32))) 0 from (by rw [fX8_undo, if_neg c4]), show gX8_undo M = LX8_undo_25g 57 (mU M 124 6 ((M 124 6) - (1 : Int32))) 0 from (by rw [gX8_undo, if_neg c4])]
    exact cl_X8_undo_25 l D cy b n hn  hx hb hr hlocks hml hown hts hK hX 57 (mU M 124 6 ((M 124 6) - (1 : Int32))) 0 H locs ls (ud_ub ho c4) (by omega) (by omega) hP hS (lv_sub hl [1, 0] rfl)
  · refine lv_aload_n hx hb dX8_undo_7 rfl (lv_at hl 0 rfl) ?_
    refine lv_iconst (v := 1) hx hb dX8_undo_8 (by decide) ?_
    refine xc_i (va_runV (As := [.int (1 : Int32)]) (rest := []) ⟨hx, hb, hml, hown, hts⟩ (c_X8_refuse l D cy b n hn M (1 : Int32)) (cwV 1 hts gX8_undo_X8_refuse rfl rfl rfl (by decide +kernel) ⟨Nat.le_of_ble_eq_true rfl, Nat.le_of_ble_eq_true rfl⟩) (xPreV hP hK hX hS (by omega) (cell8 (by decide)) rfl) rfl rfl hl.1 rfl (lv_room (Nat.le_of_ble_eq_true rfl)) dX8_undo_9 ⟨Nat.le_of_ble_eq_true rfl, Nat.le_of_ble_eq_true rfl⟩) hS (fun H locs hP hS => ?_)
    exact xe_i hx hb hr hlocks hP hS rfl (by rw [gX8_undo, if_pos c4] <;> rfl) (by rw [fX8_undo, if_pos c4] <;> rfl) (Nat.le_of_ble_eq_true rfl) (Nat.le_of_ble_eq_true rfl) dX8_undo_12
def LX8_save_17f (x : Int32) : Nat → Mem → Nat → Int32
  | 0, _, _ => 0
  | k + 1, M, j => if (56 : Int32) ≤ (nI (j)) then (fX8_told (mU M 124 8 ((M 124 8) ||| ((1 : Int32) <<< (x &&& 31)))) ((mU M 124 8 ((M 124 8) ||| ((1 : Int32) <<< (x &&& 31)))) 127 0)) else (LX8_save_17f x k (mU M 130 (j + 56 * x.toNatClampNeg) (M 127 j)) (j + 1))
def LX8_save_17g (x : Int32) : Nat → Mem → Nat → Mem
  | 0, M, _ => M
  | k + 1, M, j => if (56 : Int32) ≤ (nI (j)) then (gX8_told (mU M 124 8 ((M 124 8) ||| ((1 : Int32) <<< (x &&& 31)))) ((mU M 124 8 ((M 124 8) ||| ((1 : Int32) <<< (x &&& 31)))) 127 0)) else (LX8_save_17g x k (mU M 130 (j + 56 * x.toNatClampNeg) (M 127 j)) (j + 1))
set_option maxHeartbeats 4000000 in
set_option maxRecDepth 100000 in
theorem cl_X8_save_17 (l : Launch) (D : va_G) (cy : Nat → ClassId) (b n : Nat) (hn : 133 ≤ n) (x : Int32)  {p : Program} {e : Env} {s : State} {m : MethodId} {args : Array Value} {below : List Frame} {meth : Method} {c : Code} (hx : p.tables.exec = Jvm.exec) (hb : c.code = cX8_save) (hr : meth.sig.returnType = (some .int)) (hlocks : meth.locks = false) (hml : c.maxLocals = 3) (hown : s.vm.findClass RX8 = some m.cls) (hts : ∀ w ∈ wsX8_save, w.before args s = true) (hK : va_K D vwCl (tysW cy) s) (hX : SX b s)  : ∀ (k : Nat) (M : Mem) (j : Nat) (H : Heap) (locs : List Loc) (ls : Array Slot), UB x 1 → j ≤ 56 → 57 ≤ j + k → va_P D vwCl (wL cy b fT M n) H → va_S (fr b) s.heap H locs → lv_has ls 3 [(0, .ref (b + 124)), (1, .int x), (2, .int (nI (j)))] → W p l e (headSpec wsX8_save ({ frames := 1, cells := 0, slots := 0, locals := 22 } : Room)).room s m args below meth c H locs 0 0 (MQ below (CQi D cy b n fT (LX8_save_17f x k M j) (LX8_save_17g x k M j)) args s 0 0 (fr b)) (F0 m 17 ls []) := by
  have lk0 := hts (.fieldLink RX8 227 "HygrometerRoomModel" "savedSet" "I") (by decide +kernel)
  have lk1 := hts (.fieldLink RX8 16 "HygrometerRoomModel" "now" "[I") (by decide +kernel)
  have lk2 := hts (.fieldLink RX8 25 "HygrometerRoomModel" "saved" "[I") (by decide +kernel)
  have inc8 : ∀ w ∈ u_ws RX8 TX8 22, w ∈ wsX8_save := by decide +kernel
  intro k
  induction k with
  | zero => intro M j H locs ls hx1 hj hk hP hS hl; omega
  | succ k ih =>
    intro M j H locs ls hx1 hj hk hP hS hl
    refine lv_iload_n hx hb dX8_save_17 rfl (lv_at hl 2 rfl) ?_
    refine lv_bipush (v := 56) hx hb dX8_save_18 (by decide) ?_
    refine lv_icmp_ge (tgt := 46) hx hb dX8_save_20 (by decide) (fun c20 => ?_) (fun c20 => ?_)
    · refine lv_aload_n hx hb dX8_save_46 rfl (lv_at hl 0 rfl) ?_
      refine lv_dup hx hb dX8_save_47 rfl ?_
      refine xg (C := RX8) (T := TX8) (N := 22) (v := .int (M 124 8)) hx hb hts inc8 hown hK hP (by omega) (cell8 (by decide)) rfl 8 (by decide) lk0 (fun _ h => h) rfl dX8_save_48 ?_
      refine lv_iconst (v := 1) hx hb dX8_save_51 (by decide) ?_
      refine lv_iload_n hx hb dX8_save_52 rfl (lv_at hl 1 rfl) ?_
      refine lv_ishl hx hb dX8_save_53 ?_
      refine lv_ior hx hb dX8_save_54 ?_
      refine xp (C := RX8) (T := TX8) (N := 22) (ci := 8) (ty := .int) (x := (M 124 8) ||| ((1 : Int32) <<< (x &&& 31))) hx hb hts inc8 tyX8 tyX8_ok nmX8 hown hK hP hS (by omega) (fun _ => cell8 (by decide)) rfl 8 (by decide) rfl lk0 (fun _ h => h) rfl (tyX8_ok 8 (by decide)) rfl rfl (Nat.le_of_ble_eq_true rfl) dX8_save_55 (fun H locs hP hS => ?_)
      refine lv_aload_n hx hb dX8_save_58 rfl (lv_at hl 0 rfl) ?_
      refine lv_aload_n hx hb dX8_save_59 rfl (lv_at hl 0 rfl) ?_
      refine xg (C := RX8) (T := TX8) (N := 22) (v := .ref (b + 127)) hx hb hts inc8 hown hK hP (by omega) (cell8 (by decide)) rfl 3 (by decide) lk1 (fun _ h => h) rfl dX8_save_60 ?_
      refine lv_iconst (v := 0) hx hb dX8_save_63 (by decide) ?_
      refine xil (j := 0) hx hb hK hP (by omega) (by decide) (ixIn (a := 0) rfl (by first | decide | (simp only [lenOf]; omega) | omega) (by decide)) rfl dX8_save_64 ?_
      refine xc_i (va_runV (As := [.int ((mU M 124 8 ((M 124 8) ||| ((1 : Int32) <<< (x &&& 31)))) 127 0)]) (rest := []) ⟨hx, hb, hml, hown, hts⟩ (c_X8_told l D cy b n hn (mU M 124 8 ((M 124 8) ||| ((1 : Int32) <<< (x &&& 31)))) ((mU M 124 8 ((M 124 8) ||| ((1 : Int32) <<< (x &&& 31)))) 127 0)) (cwV 1 hts gX8_save_X8_told rfl rfl rfl (by decide +kernel) ⟨Nat.le_of_ble_eq_true rfl, Nat.le_of_ble_eq_true rfl⟩) (xPreV hP hK hX hS (by omega) (cell8 (by decide)) rfl) rfl rfl hl.1 rfl (lv_room (Nat.le_of_ble_eq_true rfl)) dX8_save_65 ⟨Nat.le_of_ble_eq_true rfl, Nat.le_of_ble_eq_true rfl⟩) hS (fun H locs hP hS => ?_)
      exact xe_i hx hb hr hlocks hP hS rfl (by rw [LX8_save_17g, if_pos c20] <;> rfl) (by rw [LX8_save_17f, if_pos c20] <;> rfl) (Nat.le_of_ble_eq_true rfl) (Nat.le_of_ble_eq_true rfl) dX8_save_68
    · have hj6 := lit_lt (N := 56) c20 rfl hj
      have hx2 := ub_cl2 hx1
      refine lv_aload_n hx hb dX8_save_23 rfl (lv_at hl 0 rfl) ?_
      refine xg (C := RX8) (T := TX8) (N := 22) (v := .ref (b + 130)) hx hb hts inc8 hown hK hP (by omega) (cell8 (by decide)) rfl 7 (by decide) lk2 (fun _ h => h) rfl dX8_save_24 ?_
      refine lv_iload_n hx hb dX8_save_27 rfl (lv_at hl 1 rfl) ?_
      refine W.eq (g2 := F0 m 28 ls (.int (nI (x.toNatClampNeg)) :: .ref (b + 130) :: [])) (congrArg (fun z => F0 m 28 ls (.int z :: .ref (b + 130) :: [])) (nat_ub hx1)) ?_
      refine lv_bipush (v := 56) hx hb dX8_save_28 (by decide) ?_
      refine xmul (z := nI (56 * x.toNatClampNeg)) hx hb (ixMul (a := x.toNatClampNeg) (c := 56) (d := 56 * x.toNatClampNeg) rfl rfl (by omega)) dX8_save_30 ?_
      refine lv_iload_n hx hb dX8_save_31 rfl (lv_at hl 2 rfl) ?_
      refine xadd (z := nI (j + 56 * x.toNatClampNeg)) hx hb (ixAdd (a := 56 * x.toNatClampNeg) (c := j) (d := j + 56 * x.toNatClampNeg) rfl rfl (by omega)) dX8_save_32 ?_
      refine lv_aload_n hx hb dX8_save_33 rfl (lv_at hl 0 rfl) ?_
      refine xg (C := RX8) (T := TX8) (N := 22) (v := .ref (b + 127)) hx hb hts inc8 hown hK hP (by omega) (cell8 (by decide)) rfl 3 (by decide) lk1 (fun _ h => h) rfl dX8_save_34 ?_
      refine lv_iload_n hx hb dX8_save_37 rfl (lv_at hl 2 rfl) ?_
      refine xil (j := j) hx hb hK hP (by omega) (by decide) (ixIn (a := j) rfl (by first | decide | (simp only [lenOf]; omega) | omega) (by decide)) (ixAt (a := j) rfl (by omega)) dX8_save_38 ?_
      refine xis (j := j + 56 * x.toNatClampNeg) (x := M 127 j) hx hb hK hP hS (by omega) (by decide) (ixIn (a := j + 56 * x.toNatClampNeg) rfl (by first | decide | (simp only [lenOf]; omega) | omega) (by decide)) (ixAt (a := j + 56 * x.toNatClampNeg) rfl (by omega)) dX8_save_39 (fun H locs hP hS => ?_)
      refine lv_iinc (v := nI (j + 1)) (lv' := [(2, .int (nI (j + 1))), (0, .ref (b + 124)), (1, .int x)]) hx hb dX8_save_40 hl (k := 2) rfl (ixAdd (a := j) (c := 1) (d := j + 1) rfl rfl (by omega)) (by decide) rfl (fun ls hl => ?_)
      refine lv_goto (tgt := 17) hx hb dX8_save_43 (by decide) ?_
      rw [show LX8_save_17f x (k + 1) M j = LX8_save_17f x k (mU M 130 (j + 56 * x.toNatClampNeg) (M 127 j)) (j + 1) from (by rw [LX8_save_17f, if_neg c20]), show LX8_save_17g x (k + 1) M j = LX8_save_17g x k (mU M 130 (j + 56 * x.toNatClampNeg) (M 127 j)) (j + 1) from (by rw [LX8_save_17g, if_neg c20])]
      exact ih (mU M 130 (j + 56 * x.toNatClampNeg) (M 127 j)) (j + 1) H locs ls hx1 (by omega) (by omega) hP hS (lv_sub hl [1, 2, 0] rfl)

def fX8_save (M : Mem) (x : Int32) : Int32 := if (fX8_in M x (0 : Int32) (1 : Int32)) = 0 then (fX8_refuse M (1 : Int32)) else (LX8_save_17f x 57 M 0)
def gX8_save (M : Mem) (x : Int32) : Mem := if (fX8_in M x (0 : Int32) (1 : Int32)) = 0 then (gX8_refuse M (1 : Int32)) else (LX8_save_17g x 57 M 0)
set_option maxHeartbeats 4000000 in
set_option maxRecDepth 100000 in
theorem c_X8_save (l : Launch) (D : va_G) (cy : Nat → ClassId) (b n : Nat) (hn : 133 ≤ n) (M : Mem) (x : Int32)  : Met l yX8_save wsX8_save ({ frames := 1, cells := 0, slots := 0, locals := 22 } : Room) (CP D cy b n fT M [.ref (b + 124), .int x]) (CQi D cy b n fT (fX8_save M x) (gX8_save M x)) 0 0 (fr b) := by
  refine Met.ofW (cc := cX8_save) (maxL := 3) (ret := (some .int)) (by decide) rfl ?_
  intro p e s m args below meth c s₁ B hml hv
  obtain ⟨rfl, hP, hK, hX⟩ := hv
  have hx := B.exec
  have hb := B.bytes
  have hr := B.returns
  have hts := atoms_spec (ws := wsX8_save) B.pre
  have hown : s.vm.findClass RX8 = some m.cls := findClass_of_methodNamed B.named
  have hlocks := B.notSynchronized
  have hS : va_S (fr b) s.heap s.heap [] := va_S.rf
  have hl := lv_entry ([.ref (b + 124), .int x]) (n := 3) (Nat.le_of_ble_eq_true rfl)
  rw [lg_entry_eq]
  generalize (lg_sl ([.ref (b + 124), .int x]) ++ List.replicate (3 - (lg_sl ([.ref (b + 124), .int x])).length) Slot.unset).toArray = ls at hl ⊢
  have hl : lv_has ls 3 [(0, .ref (b + 124)), (1, .int x)] := hl
  refine lv_iload_n hx hb dX8_save_0 rfl (lv_at hl 1 rfl) ?_
  refine lv_iconst (v := 0) hx hb dX8_save_1 (by decide) ?_
  refine lv_iconst (v := 1) hx hb dX8_save_2 (by decide) ?_
  refine xc_i (va_runS (As := [.int x, .int (0 : Int32), .int (1 : Int32)]) (rest := []) ⟨hx, hb, hml, hown, hts⟩ (c_X8_in l D cy b n hn M x (0 : Int32) (1 : Int32)) (va_cwS 3 hts gX8_save_X8_in rfl rfl rfl (by decide +kernel) ⟨Nat.le_of_ble_eq_true rfl, Nat.le_of_ble_eq_true rfl⟩) (xPreS hP hK hX hS) rfl rfl hl.1 rfl (lv_room (Nat.le_of_ble_eq_true rfl)) dX8_save_3 ⟨Nat.le_of_ble_eq_true rfl, Nat.le_of_ble_eq_true rfl⟩) hS (fun H locs hP hS => ?_)
  refine lv_if_ne (tgt := 15) hx hb dX8_save_6 (by decide) (fun c6 => ?_) (fun c6 => ?_)
  · refine lv_iconst (v := 0) hx hb dX8_save_15 (by decide) ?_
    refine lv_istore_n (lv' := [(2, .int (0 : Int32)), (0, .ref (b + 124)), (1, .int x)]) hx hb dX8_save_16 rfl hl (by decide) rfl (fun ls hl => ?_)
    rw [show fX8_save M x = LX8_save_17f x 57 M 0 from (by rw [fX8_save, if_neg c6]), show gX8_save M x = LX8_save_17g x 57 M 0 from (by rw [gX8_save, if_neg c6])]
    exact cl_X8_save_17 l D cy b n hn x hx hb hr hlocks hml hown hts hK hX 57 M 0 H locs ls (in_1 c6) (by omega) (by omega) hP hS (lv_sub hl [1, 2, 0] rfl)
  · refine lv_aload_n hx hb dX8_save_9 rfl (lv_at hl 0 rfl) ?_
    refine lv_iconst (v := 1) hx hb dX8_save_10 (by decide) ?_
    refine xc_i (va_runV (As := [.int (1 : Int32)]) (rest := []) ⟨hx, hb, hml, hown, hts⟩ (c_X8_refuse l D cy b n hn M (1 : Int32)) (cwV 1 hts gX8_save_X8_refuse rfl rfl rfl (by decide +kernel) ⟨Nat.le_of_ble_eq_true rfl, Nat.le_of_ble_eq_true rfl⟩) (xPreV hP hK hX hS (by omega) (cell8 (by decide)) rfl) rfl rfl hl.1 rfl (lv_room (Nat.le_of_ble_eq_true rfl)) dX8_save_11 ⟨Nat.le_of_ble_eq_true rfl, Nat.le_of_ble_eq_true rfl⟩) hS (fun H locs hP hS => ?_)
    exact xe_i hx hb hr hlocks hP hS rfl (by rw [gX8_save, if_pos c6] <;> rfl) (by rw [fX8_save, if_pos c6] <;> rfl) (Nat.le_of_ble_eq_true rfl) (Nat.le_of_ble_eq_true rfl) dX8_save_14
def gX8_writes (M : Mem) (x : Int32) : Mem := mU (mU M 132 ((M 124 12).toNatClampNeg) x.toInt8.toInt32.toInt8.toInt32) 124 12 (((mU M 132 ((M 124 12).toNatClampNeg) x.toInt8.toInt32.toInt8.toInt32) 124 12) + (1 : Int32))
set_option maxHeartbeats 4000000 in
set_option maxRecDepth 100000 in
theorem c_X8_writes (l : Launch) (D : va_G) (cy : Nat → ClassId) (b n : Nat) (hn : 133 ≤ n) (M : Mem) (x : Int32) (how : UB (M 124 12) 59) : Met l yX8_writes wsX8_writes ({ frames := 0, cells := 0, slots := 0, locals := 0 } : Room) (CP D cy b n fT M [.ref (b + 124), .int x]) (CQv D cy b n fT (gX8_writes M x)) 0 0 (fr b) := by
  refine Met.ofW (cc := cX8_writes) (maxL := 2) (ret := none) (by decide) rfl ?_
  intro p e s m args below meth c s₁ B hml hv
  obtain ⟨rfl, hP, hK, hX⟩ := hv
  have hx := B.exec
  have hb := B.bytes
  have hr := B.returns
  have hts := atoms_spec (ws := wsX8_writes) B.pre
  have hown : s.vm.findClass RX8 = some m.cls := findClass_of_methodNamed B.named
  have hlocks := B.notSynchronized
  have lk0 := hts (.fieldLink RX8 32 "HygrometerRoomModel" "output" "[B") (by decide +kernel)
  have lk1 := hts (.fieldLink RX8 268 "HygrometerRoomModel" "outputMany" "I") (by decide +kernel)
  have inc8 : ∀ w ∈ u_ws RX8 TX8 22, w ∈ wsX8_writes := by decide +kernel
  have hS : va_S (fr b) s.heap s.heap [] := va_S.rf
  have hl := lv_entry ([.ref (b + 124), .int x]) (n := 2) (Nat.le_of_ble_eq_true rfl)
  rw [lg_entry_eq]
  generalize (lg_sl ([.ref (b + 124), .int x]) ++ List.replicate (2 - (lg_sl ([.ref (b + 124), .int x])).length) Slot.unset).toArray = ls at hl ⊢
  have hl : lv_has ls 2 [(0, .ref (b + 124)), (1, .int x)] := hl
  have ho9 := ub_cl2 how
  refine lv_aload_n hx hb dX8_writes_0 rfl (lv_at hl 0 rfl) ?_
  refine xg (C := RX8) (T := TX8) (N := 22) (v := .ref (b + 132)) hx hb hts inc8 hown hK hP (by omega) (cell8 (by decide)) rfl 11 (by decide) lk0 (fun _ h => h) rfl dX8_writes_1 ?_
  refine lv_aload_n hx hb dX8_writes_4 rfl (lv_at hl 0 rfl) ?_
  refine xg (C := RX8) (T := TX8) (N := 22) (v := .int (M 124 12)) hx hb hts inc8 hown hK hP (by omega) (cell8 (by decide)) rfl 12 (by decide) lk1 (fun _ h => h) rfl dX8_writes_5 ?_
  refine W.eq (g2 := F0 m 8 ls (.int (nI (((M 124 12).toNatClampNeg))) :: .ref (b + 132) :: [])) (congrArg (fun z => F0 m 8 ls (.int z :: .ref (b + 132) :: [])) (nat_ub how)) ?_
  refine lv_iload_n hx hb dX8_writes_8 rfl (lv_at hl 1 rfl) ?_
  refine lv_i2b hx hb dX8_writes_9 rfl ?_
  refine xbs (j := ((M 124 12).toNatClampNeg)) (x := x.toInt8.toInt32) hx hb hK hP hS (by omega) (by decide) (ixIn (a := ((M 124 12).toNatClampNeg)) rfl (by first | decide | (simp only [lenOf]; omega) | omega) (by decide)) (ixAt (a := ((M 124 12).toNatClampNeg)) rfl (by omega)) dX8_writes_10 (fun H locs hP hS => ?_)
  refine lv_aload_n hx hb dX8_writes_11 rfl (lv_at hl 0 rfl) ?_
  refine lv_dup hx hb dX8_writes_12 rfl ?_
  refine xg (C := RX8) (T := TX8) (N := 22) (v := .int ((mU M 132 ((M 124 12).toNatClampNeg) x.toInt8.toInt32.toInt8.toInt32) 124 12)) hx hb hts inc8 hown hK hP (by omega) (cell8 (by decide)) rfl 12 (by decide) lk1 (fun _ h => h) rfl dX8_writes_13 ?_
  refine lv_iconst (v := 1) hx hb dX8_writes_16 (by decide) ?_
  refine lv_iadd hx hb dX8_writes_17 ?_
  refine xp (C := RX8) (T := TX8) (N := 22) (ci := 8) (ty := .int) (x := ((mU M 132 ((M 124 12).toNatClampNeg) x.toInt8.toInt32.toInt8.toInt32) 124 12) + (1 : Int32)) hx hb hts inc8 tyX8 tyX8_ok nmX8 hown hK hP hS (by omega) (fun _ => cell8 (by decide)) rfl 12 (by decide) rfl lk1 (fun _ h => h) rfl (tyX8_ok 12 (by decide)) rfl rfl (Nat.le_of_ble_eq_true rfl) dX8_writes_18 (fun H locs hP hS => ?_)
  exact xe_v hx hb hr hlocks hP hS rfl (by rw [gX8_writes] <;> rfl) (Nat.le_of_ble_eq_true rfl) (Nat.le_of_ble_eq_true rfl) dX8_writes_21
theorem wr_many (M : Mem) (x : Int32) : gX8_writes M x 124 12 = M 124 12 + 1 := by
  unfold gX8_writes
  rw [mU_at]
  exact (if_pos rfl).trans (by rw [mU_ne _ _ _ (by decide)])
theorem wr_ub {M : Mem} {x : Int32} {N L : Nat} (h : UB (M 124 12) N) (hk : N + 1 ≤ L) : UB (gX8_writes M x 124 12) L := by
  obtain ⟨k, hk2, e⟩ := h
  exact ⟨k + 1, by omega, by rw [wr_many, e, nI_1]⟩
theorem wr_ne {M : Mem} {x : Int32} {p : Nat} (h1 : p ≠ 124) (h2 : p ≠ 132) : gX8_writes M x p = M p := by
  unfold gX8_writes
  rw [mU_ne _ _ _ h1, mU_ne _ _ _ h2]
theorem wr_127 {M : Mem} {x : Int32} : gX8_writes M x 127 = M 127 := wr_ne (by decide) (by decide)
theorem rd8_100 (M : Mem) (k : Nat) : UB (fX8_reading M k) 100 := by
  unfold fX8_reading
  split
  · rename_i h0
    split
    · rename_i h1
      exact ub_le (N := 100) (fun h => absurd h0 (Int32.not_le.mpr h)) h1 rfl
    · exact ⟨100, by decide, rfl⟩
  · exact ⟨0, by decide, rfl⟩
def gX8_writesReading (M : Mem) (k : Nat) : Mem := if (fX8_reading M k) = (100 : Int32) then (if (fX8_reading M k) ≤ (9 : Int32) then (gX8_writes (gX8_writes M (49 : Int32)) ((48 : Int32) + ((fX8_reading M k) - (fX8_reading M k) / (10 : Int32) * (10 : Int32)))) else (gX8_writes (gX8_writes (gX8_writes M (49 : Int32)) ((48 : Int32) + (((fX8_reading M k) / (10 : Int32)) - ((fX8_reading M k) / (10 : Int32)) / (10 : Int32) * (10 : Int32)))) ((48 : Int32) + ((fX8_reading M k) - (fX8_reading M k) / (10 : Int32) * (10 : Int32))))) else (if (fX8_reading M k) ≤ (9 : Int32) then (gX8_writes M ((48 : Int32) + ((fX8_reading M k) - (fX8_reading M k) / (10 : Int32) * (10 : Int32)))) else (gX8_writes (gX8_writes M ((48 : Int32) + (((fX8_reading M k) / (10 : Int32)) - ((fX8_reading M k) / (10 : Int32)) / (10 : Int32) * (10 : Int32)))) ((48 : Int32) + ((fX8_reading M k) - (fX8_reading M k) / (10 : Int32) * (10 : Int32)))))
set_option maxHeartbeats 4000000 in
set_option maxRecDepth 100000 in
theorem c_X8_writesReading (l : Launch) (D : va_G) (cy : Nat → ClassId) (b n : Nat) (hn : 133 ≤ n) (M : Mem) (k : Nat) (hk6 : k < 6) (hbx : BXS M) (htp : TMP M) (how : UB (M 124 12) 56) : Met l yX8_writesReading wsX8_writesReading ({ frames := 6, cells := 0, slots := 0, locals := 126 } : Room) (CP D cy b n fT M [.ref (b + 124), .int (nI (k))]) (CQv D cy b n fT (gX8_writesReading M k)) 0 0 (fr b) := by
  refine Met.ofW (cc := cX8_writesReading) (maxL := 3) (ret := none) (by decide) rfl ?_
  intro p e s m args below meth c s₁ B hml hv
  obtain ⟨rfl, hP, hK, hX⟩ := hv
  have hx := B.exec
  have hb := B.bytes
  have hr := B.returns
  have hts := atoms_spec (ws := wsX8_writesReading) B.pre
  have hown : s.vm.findClass RX8 = some m.cls := findClass_of_methodNamed B.named
  have hlocks := B.notSynchronized
  have hS : va_S (fr b) s.heap s.heap [] := va_S.rf
  have hl := lv_entry ([.ref (b + 124), .int (nI (k))]) (n := 3) (Nat.le_of_ble_eq_true rfl)
  rw [lg_entry_eq]
  generalize (lg_sl ([.ref (b + 124), .int (nI (k))]) ++ List.replicate (3 - (lg_sl ([.ref (b + 124), .int (nI (k))])).length) Slot.unset).toArray = ls at hl ⊢
  have hl : lv_has ls 3 [(0, .ref (b + 124)), (1, .int (nI (k)))] := hl
  refine lv_aload_n hx hb dX8_writesReading_0 rfl (lv_at hl 0 rfl) ?_
  refine lv_iload_n hx hb dX8_writesReading_1 rfl (lv_at hl 1 rfl) ?_
  refine xc_i (va_runV (As := [.int (nI (k))]) (rest := []) ⟨hx, hb, hml, hown, hts⟩ (c_X8_reading l D cy b n hn M k hk6 hbx htp) (cwV 1 hts gX8_writesReading_X8_reading rfl rfl rfl (by decide +kernel) ⟨Nat.le_of_ble_eq_true rfl, Nat.le_of_ble_eq_true rfl⟩) (xPreV hP hK hX hS (by omega) (cell8 (by decide)) rfl) rfl rfl hl.1 rfl (lv_room (Nat.le_of_ble_eq_true rfl)) dX8_writesReading_2 ⟨Nat.le_of_ble_eq_true rfl, Nat.le_of_ble_eq_true rfl⟩) hS (fun H locs hP hS => ?_)
  refine lv_istore_n (lv' := [(2, .int (fX8_reading M k)), (0, .ref (b + 124)), (1, .int (nI (k)))]) hx hb dX8_writesReading_5 rfl hl (by decide) rfl (fun ls hl => ?_)
  refine lv_iload_n hx hb dX8_writesReading_6 rfl (lv_at hl 0 rfl) ?_
  refine lv_bipush (v := 100) hx hb dX8_writesReading_7 (by decide) ?_
  refine lv_icmp_ne (tgt := 18) hx hb dX8_writesReading_9 (by decide) (fun c9 => ?_) (fun c9 => ?_)
  · refine lv_iload_n hx hb dX8_writesReading_18 rfl (lv_at hl 0 rfl) ?_
    refine lv_bipush (v := 9) hx hb dX8_writesReading_19 (by decide) ?_
    refine lv_icmp_le (tgt := 38) hx hb dX8_writesReading_21 (by decide) (fun c21 => ?_) (fun c21 => ?_)
    · refine lv_aload_n hx hb dX8_writesReading_38 rfl (lv_at hl 1 rfl) ?_
      refine lv_bipush (v := 48) hx hb dX8_writesReading_39 (by decide) ?_
      refine lv_iload_n hx hb dX8_writesReading_41 rfl (lv_at hl 0 rfl) ?_
      refine lv_bipush (v := 10) hx hb dX8_writesReading_42 (by decide) ?_
      refine lv_irem hx hb dX8_writesReading_44 (by decide) ?_
      refine lv_iadd hx hb dX8_writesReading_45 ?_
      refine xc_v (va_runV (As := [.int ((48 : Int32) + ((fX8_reading M k) - (fX8_reading M k) / (10 : Int32) * (10 : Int32)))]) (rest := []) ⟨hx, hb, hml, hown, hts⟩ (c_X8_writes l D cy b n hn M ((48 : Int32) + ((fX8_reading M k) - (fX8_reading M k) / (10 : Int32) * (10 : Int32))) (by first | with_reducible exact UB.mono how (by decide) | with_reducible exact wr_ub (L := 59) how (by decide) | with_reducible exact wr_ub (L := 59) (wr_ub (L := 58) how (by decide)) (by decide))) (cwV 1 hts gX8_writesReading_X8_writes rfl rfl rfl (by decide +kernel) ⟨Nat.le_of_ble_eq_true rfl, Nat.le_of_ble_eq_true rfl⟩) (xPreV hP hK hX hS (by omega) (cell8 (by decide)) rfl) rfl rfl hl.1 rfl (lv_room (Nat.le_of_ble_eq_true rfl)) dX8_writesReading_46 ⟨Nat.le_of_ble_eq_true rfl, Nat.le_of_ble_eq_true rfl⟩) hS (fun H locs hP hS => ?_)
      exact xe_v hx hb hr hlocks hP hS rfl (by rw [gX8_writesReading, if_neg c9, if_pos c21] <;> rfl) (Nat.le_of_ble_eq_true rfl) (Nat.le_of_ble_eq_true rfl) dX8_writesReading_49
    · refine lv_aload_n hx hb dX8_writesReading_24 rfl (lv_at hl 1 rfl) ?_
      refine lv_bipush (v := 48) hx hb dX8_writesReading_25 (by decide) ?_
      refine lv_iload_n hx hb dX8_writesReading_27 rfl (lv_at hl 0 rfl) ?_
      refine lv_bipush (v := 10) hx hb dX8_writesReading_28 (by decide) ?_
      refine lv_idiv hx hb dX8_writesReading_30 (by decide) ?_
      refine lv_bipush (v := 10) hx hb dX8_writesReading_31 (by decide) ?_
      refine lv_irem hx hb dX8_writesReading_33 (by decide) ?_
      refine lv_iadd hx hb dX8_writesReading_34 ?_
      refine xc_v (va_runV (As := [.int ((48 : Int32) + (((fX8_reading M k) / (10 : Int32)) - ((fX8_reading M k) / (10 : Int32)) / (10 : Int32) * (10 : Int32)))]) (rest := []) ⟨hx, hb, hml, hown, hts⟩ (c_X8_writes l D cy b n hn M ((48 : Int32) + (((fX8_reading M k) / (10 : Int32)) - ((fX8_reading M k) / (10 : Int32)) / (10 : Int32) * (10 : Int32))) (by first | with_reducible exact UB.mono how (by decide) | with_reducible exact wr_ub (L := 59) how (by decide) | with_reducible exact wr_ub (L := 59) (wr_ub (L := 58) how (by decide)) (by decide))) (cwV 1 hts gX8_writesReading_X8_writes rfl rfl rfl (by decide +kernel) ⟨Nat.le_of_ble_eq_true rfl, Nat.le_of_ble_eq_true rfl⟩) (xPreV hP hK hX hS (by omega) (cell8 (by decide)) rfl) rfl rfl hl.1 rfl (lv_room (Nat.le_of_ble_eq_true rfl)) dX8_writesReading_35 ⟨Nat.le_of_ble_eq_true rfl, Nat.le_of_ble_eq_true rfl⟩) hS (fun H locs hP hS => ?_)
      refine lv_aload_n hx hb dX8_writesReading_38 rfl (lv_at hl 1 rfl) ?_
      refine lv_bipush (v := 48) hx hb dX8_writesReading_39 (by decide) ?_
      refine lv_iload_n hx hb dX8_writesReading_41 rfl (lv_at hl 0 rfl) ?_
      refine lv_bipush (v := 10) hx hb dX8_writesReading_42 (by decide) ?_
      refine lv_irem hx hb dX8_writesReading_44 (by decide) ?_
      refine lv_iadd hx hb dX8_writesReading_45 ?_
      refine xc_v (va_runV (As := [.int ((48 : Int32) + ((fX8_reading M k) - (fX8_reading M k) / (10 : Int32) * (10 : Int32)))]) (rest := []) ⟨hx, hb, hml, hown, hts⟩ (c_X8_writes l D cy b n hn (gX8_writes M ((48 : Int32) + (((fX8_reading M k) / (10 : Int32)) - ((fX8_reading M k) / (10 : Int32)) / (10 : Int32) * (10 : Int32)))) ((48 : Int32) + ((fX8_reading M k) - (fX8_reading M k) / (10 : Int32) * (10 : Int32))) (by first | with_reducible exact UB.mono how (by decide) | with_reducible exact wr_ub (L := 59) how (by decide) | with_reducible exact wr_ub (L := 59) (wr_ub (L := 58) how (by decide)) (by decide))) (cwV 1 hts gX8_writesReading_X8_writes rfl rfl rfl (by decide +kernel) ⟨Nat.le_of_ble_eq_true rfl, Nat.le_of_ble_eq_true rfl⟩) (xPreV hP hK hX hS (by omega) (cell8 (by decide)) rfl) rfl rfl hl.1 rfl (lv_room (Nat.le_of_ble_eq_true rfl)) dX8_writesReading_46 ⟨Nat.le_of_ble_eq_true rfl, Nat.le_of_ble_eq_true rfl⟩) hS (fun H locs hP hS => ?_)
      exact xe_v hx hb hr hlocks hP hS rfl (by rw [gX8_writesReading, if_neg c9, if_neg c21] <;> rfl) (Nat.le_of_ble_eq_true rfl) (Nat.le_of_ble_eq_true rfl) dX8_writesReading_49
  · refine lv_aload_n hx hb dX8_writesReading_12 rfl (lv_at hl 1 rfl) ?_
    refine lv_bipush (v := 49) hx hb dX8_writesReading_13 (by decide) ?_
    refine xc_v (va_runV (As := [.int (49 : Int32)]) (rest := []) ⟨hx, hb, hml, hown, hts⟩ (c_X8_writes l D cy b n hn M (49 : Int32) (by first | with_reducible exact UB.mono how (by decide) | with_reducible exact wr_ub (L := 59) how (by decide) | with_reducible exact wr_ub (L := 59) (wr_ub (L := 58) how (by decide)) (by decide))) (cwV 1 hts gX8_writesReading_X8_writes rfl rfl rfl (by decide +kernel) ⟨Nat.le_of_ble_eq_true rfl, Nat.le_of_ble_eq_true rfl⟩) (xPreV hP hK hX hS (by omega) (cell8 (by decide)) rfl) rfl rfl hl.1 rfl (lv_room (Nat.le_of_ble_eq_true rfl)) dX8_writesReading_15 ⟨Nat.le_of_ble_eq_true rfl, Nat.le_of_ble_eq_true rfl⟩) hS (fun H locs hP hS => ?_)
    refine lv_iload_n hx hb dX8_writesReading_18 rfl (lv_at hl 0 rfl) ?_
    refine lv_bipush (v := 9) hx hb dX8_writesReading_19 (by decide) ?_
    refine lv_icmp_le (tgt := 38) hx hb dX8_writesReading_21 (by decide) (fun c21 => ?_) (fun c21 => ?_)
    · refine lv_aload_n hx hb dX8_writesReading_38 rfl (lv_at hl 1 rfl) ?_
      refine lv_bipush (v := 48) hx hb dX8_writesReading_39 (by decide) ?_
      refine lv_iload_n hx hb dX8_writesReading_41 rfl (lv_at hl 0 rfl) ?_
      refine lv_bipush (v := 10) hx hb dX8_writesReading_42 (by decide) ?_
      refine lv_irem hx hb dX8_writesReading_44 (by decide) ?_
      refine lv_iadd hx hb dX8_writesReading_45 ?_
      refine xc_v (va_runV (As := [.int ((48 : Int32) + ((fX8_reading M k) - (fX8_reading M k) / (10 : Int32) * (10 : Int32)))]) (rest := []) ⟨hx, hb, hml, hown, hts⟩ (c_X8_writes l D cy b n hn (gX8_writes M (49 : Int32)) ((48 : Int32) + ((fX8_reading M k) - (fX8_reading M k) / (10 : Int32) * (10 : Int32))) (by first | with_reducible exact UB.mono how (by decide) | with_reducible exact wr_ub (L := 59) how (by decide) | with_reducible exact wr_ub (L := 59) (wr_ub (L := 58) how (by decide)) (by decide))) (cwV 1 hts gX8_writesReading_X8_writes rfl rfl rfl (by decide +kernel) ⟨Nat.le_of_ble_eq_true rfl, Nat.le_of_ble_eq_true rfl⟩) (xPreV hP hK hX hS (by omega) (cell8 (by decide)) rfl) rfl rfl hl.1 rfl (lv_room (Nat.le_of_ble_eq_true rfl)) dX8_writesReading_46 ⟨Nat.le_of_ble_eq_true rfl, Nat.le_of_ble_eq_true rfl⟩) hS (fun H locs hP hS => ?_)
      exact xe_v hx hb hr hlocks hP hS rfl (by rw [gX8_writesReading, if_pos c9, if_pos c21] <;> rfl) (Nat.le_of_ble_eq_true rfl) (Nat.le_of_ble_eq_true rfl) dX8_writesReading_49
    · refine lv_aload_n hx hb dX8_writesReading_24 rfl (lv_at hl 1 rfl) ?_
      refine lv_bipush (v := 48) hx hb dX8_writesReading_25 (by decide) ?_
      refine lv_iload_n hx hb dX8_writesReading_27 rfl (lv_at hl 0 rfl) ?_
      refine lv_bipush (v := 10) hx hb dX8_writesReading_28 (by decide) ?_
      refine lv_idiv hx hb dX8_writesReading_30 (by decide) ?_
      refine lv_bipush (v := 10) hx hb dX8_writesReading_31 (by decide) ?_
      refine lv_irem hx hb dX8_writesReading_33 (by decide) ?_
      refine lv_iadd hx hb dX8_writesReading_34 ?_
      refine xc_v (va_runV (As := [.int ((48 : Int32) + (((fX8_reading M k) / (10 : Int32)) - ((fX8_reading M k) / (10 : Int32)) / (10 : Int32) * (10 : Int32)))]) (rest := []) ⟨hx, hb, hml, hown, hts⟩ (c_X8_writes l D cy b n hn (gX8_writes M (49 : Int32)) ((48 : Int32) + (((fX8_reading M k) / (10 : Int32)) - ((fX8_reading M k) / (10 : Int32)) / (10 : Int32) * (10 : Int32))) (by first | with_reducible exact UB.mono how (by decide) | with_reducible exact wr_ub (L := 59) how (by decide) | with_reducible exact wr_ub (L := 59) (wr_ub (L := 58) how (by decide)) (by decide))) (cwV 1 hts gX8_writesReading_X8_writes rfl rfl rfl (by decide +kernel) ⟨Nat.le_of_ble_eq_true rfl, Nat.le_of_ble_eq_true rfl⟩) (xPreV hP hK hX hS (by omega) (cell8 (by decide)) rfl) rfl rfl hl.1 rfl (lv_room (Nat.le_of_ble_eq_true rfl)) dX8_writesReading_35 ⟨Nat.le_of_ble_eq_true rfl, Nat.le_of_ble_eq_true rfl⟩) hS (fun H locs hP hS => ?_)
      refine lv_aload_n hx hb dX8_writesReading_38 rfl (lv_at hl 1 rfl) ?_
      refine lv_bipush (v := 48) hx hb dX8_writesReading_39 (by decide) ?_
      refine lv_iload_n hx hb dX8_writesReading_41 rfl (lv_at hl 0 rfl) ?_
      refine lv_bipush (v := 10) hx hb dX8_writesReading_42 (by decide) ?_
      refine lv_irem hx hb dX8_writesReading_44 (by decide) ?_
      refine lv_iadd hx hb dX8_writesReading_45 ?_
      refine xc_v (va_runV (As := [.int ((48 : Int32) + ((fX8_reading M k) - (fX8_reading M k) / (10 : Int32) * (10 : Int32)))]) (rest := []) ⟨hx, hb, hml, hown, hts⟩ (c_X8_writes l D cy b n hn (gX8_writes (gX8_writes M (49 : Int32)) ((48 : Int32) + (((fX8_reading M k) / (10 : Int32)) - ((fX8_reading M k) / (10 : Int32)) / (10 : Int32) * (10 : Int32)))) ((48 : Int32) + ((fX8_reading M k) - (fX8_reading M k) / (10 : Int32) * (10 : Int32))) (by first | with_reducible exact UB.mono how (by decide) | with_reducible exact wr_ub (L := 59) how (by decide) | with_reducible exact wr_ub (L := 59) (wr_ub (L := 58) how (by decide)) (by decide))) (cwV 1 hts gX8_writesReading_X8_writes rfl rfl rfl (by decide +kernel) ⟨Nat.le_of_ble_eq_true rfl, Nat.le_of_ble_eq_true rfl⟩) (xPreV hP hK hX hS (by omega) (cell8 (by decide)) rfl) rfl rfl hl.1 rfl (lv_room (Nat.le_of_ble_eq_true rfl)) dX8_writesReading_46 ⟨Nat.le_of_ble_eq_true rfl, Nat.le_of_ble_eq_true rfl⟩) hS (fun H locs hP hS => ?_)
      exact xe_v hx hb hr hlocks hP hS rfl (by rw [gX8_writesReading, if_pos c9, if_neg c21] <;> rfl) (Nat.le_of_ble_eq_true rfl) (Nat.le_of_ble_eq_true rfl) dX8_writesReading_49
theorem wd_ub {M : Mem} {k : Nat} {N L : Nat} (h : UB (M 124 12) N) (hk : N + 3 ≤ L) : UB (gX8_writesReading M k 124 12) L := by
  unfold gX8_writesReading
  (repeat' split) <;> first
    | with_reducible exact wr_ub (N := N + 2) (wr_ub (N := N + 1) (wr_ub h (Nat.le_refl _)) (Nat.le_refl _)) hk
    | with_reducible exact wr_ub (N := N + 1) (wr_ub h (Nat.le_refl _)) (by omega)
    | with_reducible exact wr_ub h (by omega)
theorem wd_127 {M : Mem} {k : Nat} : gX8_writesReading M k 127 = M 127 := by
  unfold gX8_writesReading
  (repeat' split) <;> repeat (first | rfl | rw [wr_127])
theorem wo_0 (M : Mem) : UB (mU M 124 12 0 124 12) 0 := ⟨0, Nat.le_refl _, by rw [mU_at]; exact if_pos rfl⟩
def LX8_writeInstrument_94f (x : Int32) : Nat → Mem → Int32
  | 0, _ => 0
  | k + 1, M => fX8_told M (M 124 12)
def LX8_writeInstrument_94g (x : Int32) : Nat → Mem → Mem
  | 0, M => M
  | k + 1, M => gX8_told M (M 124 12)
set_option maxHeartbeats 4000000 in
set_option maxRecDepth 100000 in
theorem cl_X8_writeInstrument_94 (l : Launch) (D : va_G) (cy : Nat → ClassId) (b n : Nat) (hn : 133 ≤ n) (x : Int32)  {p : Program} {e : Env} {s : State} {m : MethodId} {args : Array Value} {below : List Frame} {meth : Method} {c : Code} (hx : p.tables.exec = Jvm.exec) (hb : c.code = cX8_writeInstrument) (hr : meth.sig.returnType = (some .int)) (hlocks : meth.locks = false) (hml : c.maxLocals = 2) (hown : s.vm.findClass RX8 = some m.cls) (hts : ∀ w ∈ wsX8_writeInstrument, w.before args s = true) (hK : va_K D vwCl (tysW cy) s) (hX : SX b s)  : ∀ (k : Nat) (M : Mem)  (H : Heap) (locs : List Loc) (ls : Array Slot), 0 < k → va_P D vwCl (wL cy b fT M n) H → va_S (fr b) s.heap H locs → lv_has ls 2 [(0, .ref (b + 124))] → W p l e (headSpec wsX8_writeInstrument ({ frames := 7, cells := 0, slots := 0, locals := 148 } : Room)).room s m args below meth c H locs 0 0 (MQ below (CQi D cy b n fT (LX8_writeInstrument_94f x k M) (LX8_writeInstrument_94g x k M)) args s 0 0 (fr b)) (F0 m 94 ls []) := by
  have lk0 := hts (.fieldLink RX8 268 "HygrometerRoomModel" "outputMany" "I") (by decide +kernel)
  have inc8 : ∀ w ∈ u_ws RX8 TX8 22, w ∈ wsX8_writeInstrument := by decide +kernel
  intro k
  induction k with
  | zero => intro M H locs ls hk hP hS hl; omega
  | succ k ih =>
    intro M H locs ls hk hP hS hl
    refine lv_aload_n hx hb dX8_writeInstrument_94 rfl (lv_at hl 0 rfl) ?_
    refine lv_aload_n hx hb dX8_writeInstrument_95 rfl (lv_at hl 0 rfl) ?_
    refine xg (C := RX8) (T := TX8) (N := 22) (v := .int (M 124 12)) hx hb hts inc8 hown hK hP (by omega) (cell8 (by decide)) rfl 12 (by decide) lk0 (fun _ h => h) rfl dX8_writeInstrument_96 ?_
    refine xc_i (va_runV (As := [.int (M 124 12)]) (rest := []) ⟨hx, hb, hml, hown, hts⟩ (c_X8_told l D cy b n hn M (M 124 12)) (cwV 1 hts gX8_writeInstrument_X8_told rfl rfl rfl (by decide +kernel) ⟨Nat.le_of_ble_eq_true rfl, Nat.le_of_ble_eq_true rfl⟩) (xPreV hP hK hX hS (by omega) (cell8 (by decide)) rfl) rfl rfl hl.1 rfl (lv_room (Nat.le_of_ble_eq_true rfl)) dX8_writeInstrument_99 ⟨Nat.le_of_ble_eq_true rfl, Nat.le_of_ble_eq_true rfl⟩) hS (fun H locs hP hS => ?_)
    exact xe_i hx hb hr hlocks hP hS rfl (by rw [LX8_writeInstrument_94g] <;> rfl) (by rw [LX8_writeInstrument_94f] <;> rfl) (Nat.le_of_ble_eq_true rfl) (Nat.le_of_ble_eq_true rfl) dX8_writeInstrument_102

def LX8_writeInstrument_61f (x : Int32) : Nat → Mem → Int32
  | 0, _ => 0
  | k + 1, M => if (fX8_isBoxed M x.toNatClampNeg) = 0 then (LX8_writeInstrument_94f x 1 M) else (LX8_writeInstrument_94f x 1 (gX8_writes (gX8_writes M (115 : Int32)) ((48 : Int32) + ((gX8_writes M (115 : Int32)) 127 (8 * x.toNatClampNeg + 15)))))
def LX8_writeInstrument_61g (x : Int32) : Nat → Mem → Mem
  | 0, M => M
  | k + 1, M => if (fX8_isBoxed M x.toNatClampNeg) = 0 then (LX8_writeInstrument_94g x 1 M) else (LX8_writeInstrument_94g x 1 (gX8_writes (gX8_writes M (115 : Int32)) ((48 : Int32) + ((gX8_writes M (115 : Int32)) 127 (8 * x.toNatClampNeg + 15)))))
set_option maxHeartbeats 4000000 in
set_option maxRecDepth 100000 in
theorem cl_X8_writeInstrument_61 (l : Launch) (D : va_G) (cy : Nat → ClassId) (b n : Nat) (hn : 133 ≤ n) (x : Int32)  {p : Program} {e : Env} {s : State} {m : MethodId} {args : Array Value} {below : List Frame} {meth : Method} {c : Code} (hx : p.tables.exec = Jvm.exec) (hb : c.code = cX8_writeInstrument) (hr : meth.sig.returnType = (some .int)) (hlocks : meth.locks = false) (hml : c.maxLocals = 2) (hown : s.vm.findClass RX8 = some m.cls) (hts : ∀ w ∈ wsX8_writeInstrument, w.before args s = true) (hK : va_K D vwCl (tysW cy) s) (hX : SX b s)  : ∀ (k : Nat) (M : Mem)  (H : Heap) (locs : List Loc) (ls : Array Slot), IV x → UB (M 124 12) 5 → 0 < k → va_P D vwCl (wL cy b fT M n) H → va_S (fr b) s.heap H locs → lv_has ls 2 [(0, .ref (b + 124)), (1, .int x)] → W p l e (headSpec wsX8_writeInstrument ({ frames := 7, cells := 0, slots := 0, locals := 148 } : Room)).room s m args below meth c H locs 0 0 (MQ below (CQi D cy b n fT (LX8_writeInstrument_61f x k M) (LX8_writeInstrument_61g x k M)) args s 0 0 (fr b)) (F0 m 61 ls []) := by
  have lk0 := hts (.fieldLink RX8 16 "HygrometerRoomModel" "now" "[I") (by decide +kernel)
  have inc8 : ∀ w ∈ u_ws RX8 TX8 22, w ∈ wsX8_writeInstrument := by decide +kernel
  intro k
  induction k with
  | zero => intro M H locs ls hxv how hk hP hS hl; omega
  | succ k ih =>
    intro M H locs ls hxv how hk hP hS hl
    refine lv_aload_n hx hb dX8_writeInstrument_61 rfl (lv_at hl 0 rfl) ?_
    refine lv_iload_n hx hb dX8_writeInstrument_62 rfl (lv_at hl 1 rfl) ?_
    refine W.eq (g2 := F0 m 63 ls (.int (nI (x.toNatClampNeg)) :: .ref (b + 124) :: [])) (congrArg (fun z => F0 m 63 ls (.int z :: .ref (b + 124) :: [])) (nat_of hxv.1)) ?_
    refine xc_i (va_runV (As := [.int (nI (x.toNatClampNeg))]) (rest := []) ⟨hx, hb, hml, hown, hts⟩ (c_X8_isBoxed l D cy b n hn M x.toNatClampNeg hxv.2) (cwV 1 hts gX8_writeInstrument_X8_isBoxed rfl rfl rfl (by decide +kernel) ⟨Nat.le_of_ble_eq_true rfl, Nat.le_of_ble_eq_true rfl⟩) (xPreV hP hK hX hS (by omega) (cell8 (by decide)) rfl) rfl rfl hl.1 rfl (lv_room (Nat.le_of_ble_eq_true rfl)) dX8_writeInstrument_63 ⟨Nat.le_of_ble_eq_true rfl, Nat.le_of_ble_eq_true rfl⟩) hS (fun H locs hP hS => ?_)
    refine lv_if_eq (tgt := 94) hx hb dX8_writeInstrument_66 (by decide) (fun c66 => ?_) (fun c66 => ?_)
    · rw [show LX8_writeInstrument_61f x (k + 1) M = LX8_writeInstrument_94f x 1 M from (by rw [LX8_writeInstrument_61f, if_pos c66]), show LX8_writeInstrument_61g x (k + 1) M = LX8_writeInstrument_94g x 1 M from (by rw [LX8_writeInstrument_61g, if_pos c66])]
      exact cl_X8_writeInstrument_94 l D cy b n hn x hx hb hr hlocks hml hown hts hK hX 1 M H locs ls (by decide) hP hS (lv_sub hl [0] rfl)
    · refine lv_aload_n hx hb dX8_writeInstrument_69 rfl (lv_at hl 0 rfl) ?_
      refine lv_bipush (v := 115) hx hb dX8_writeInstrument_70 (by decide) ?_
      refine xc_v (va_runV (As := [.int (115 : Int32)]) (rest := []) ⟨hx, hb, hml, hown, hts⟩ (c_X8_writes l D cy b n hn M (115 : Int32) (how.mono (by decide))) (cwV 1 hts gX8_writeInstrument_X8_writes rfl rfl rfl (by decide +kernel) ⟨Nat.le_of_ble_eq_true rfl, Nat.le_of_ble_eq_true rfl⟩) (xPreV hP hK hX hS (by omega) (cell8 (by decide)) rfl) rfl rfl hl.1 rfl (lv_room (Nat.le_of_ble_eq_true rfl)) dX8_writeInstrument_72 ⟨Nat.le_of_ble_eq_true rfl, Nat.le_of_ble_eq_true rfl⟩) hS (fun H locs hP hS => ?_)
      refine lv_aload_n hx hb dX8_writeInstrument_75 rfl (lv_at hl 0 rfl) ?_
      refine lv_bipush (v := 48) hx hb dX8_writeInstrument_76 (by decide) ?_
      refine lv_aload_n hx hb dX8_writeInstrument_78 rfl (lv_at hl 0 rfl) ?_
      refine xg (C := RX8) (T := TX8) (N := 22) (v := .ref (b + 127)) hx hb hts inc8 hown hK hP (by omega) (cell8 (by decide)) rfl 3 (by decide) lk0 (fun _ h => h) rfl dX8_writeInstrument_79 ?_
      refine lv_iload_n hx hb dX8_writeInstrument_82 rfl (lv_at hl 1 rfl) ?_
      have hk6 := hxv.2
      refine W.eq (g2 := F0 m 83 ls (.int (nI (x.toNatClampNeg)) :: .ref (b + 127) :: .int (48 : Int32) :: .ref (b + 124) :: [])) (congrArg (fun z => F0 m 83 ls (.int z :: .ref (b + 127) :: .int (48 : Int32) :: .ref (b + 124) :: [])) (nat_of hxv.1)) ?_
      refine xc_i (va_runS (As := [.int (nI (x.toNatClampNeg))]) (rest := [.ref (b + 127), .int (48 : Int32), .ref (b + 124)]) ⟨hx, hb, hml, hown, hts⟩ (c_X8_i l D cy b n hn (gX8_writes M (115 : Int32)) x.toNatClampNeg) (va_cwS 1 hts gX8_writeInstrument_X8_i rfl rfl rfl (by decide +kernel) ⟨Nat.le_of_ble_eq_true rfl, Nat.le_of_ble_eq_true rfl⟩) (xPreS hP hK hX hS) rfl rfl hl.1 rfl (lv_room (Nat.le_of_ble_eq_true rfl)) dX8_writeInstrument_83 ⟨Nat.le_of_ble_eq_true rfl, Nat.le_of_ble_eq_true rfl⟩) hS (fun H locs hP hS => ?_)
      refine W.eq (g2 := F0 m 86 ls (.int (nI (8 * x.toNatClampNeg + 8)) :: .ref (b + 127) :: .int (48 : Int32) :: .ref (b + 124) :: [])) (congrArg (fun z => F0 m 86 ls (.int z :: .ref (b + 127) :: .int (48 : Int32) :: .ref (b + 124) :: [])) (show fX8_i (gX8_writes M (115 : Int32)) x.toNatClampNeg = nI (8 * x.toNatClampNeg + 8) from by unfold fX8_i; exact congrArg nI (by omega))) ?_
      refine lv_bipush (v := 7) hx hb dX8_writeInstrument_86 (by decide) ?_
      refine xadd (z := nI (8 * x.toNatClampNeg + 15)) hx hb (ixAdd (a := 8 * x.toNatClampNeg + 8) (c := 7) (d := 8 * x.toNatClampNeg + 15) rfl rfl (by omega)) dX8_writeInstrument_88 ?_
      refine xil (j := 8 * x.toNatClampNeg + 15) hx hb hK hP (by omega) (by decide) (ixIn (a := 8 * x.toNatClampNeg + 15) rfl (by first | decide | (simp only [lenOf]; omega) | omega) (by decide)) (ixAt (a := 8 * x.toNatClampNeg + 15) rfl (by omega)) dX8_writeInstrument_89 ?_
      refine lv_iadd hx hb dX8_writeInstrument_90 ?_
      refine xc_v (va_runV (As := [.int ((48 : Int32) + ((gX8_writes M (115 : Int32)) 127 (8 * x.toNatClampNeg + 15)))]) (rest := []) ⟨hx, hb, hml, hown, hts⟩ (c_X8_writes l D cy b n hn (gX8_writes M (115 : Int32)) ((48 : Int32) + ((gX8_writes M (115 : Int32)) 127 (8 * x.toNatClampNeg + 15))) (UB.mono (wr_ub (L := 6) how (by decide)) (by decide))) (cwV 1 hts gX8_writeInstrument_X8_writes rfl rfl rfl (by decide +kernel) ⟨Nat.le_of_ble_eq_true rfl, Nat.le_of_ble_eq_true rfl⟩) (xPreV hP hK hX hS (by omega) (cell8 (by decide)) rfl) rfl rfl hl.1 rfl (lv_room (Nat.le_of_ble_eq_true rfl)) dX8_writeInstrument_91 ⟨Nat.le_of_ble_eq_true rfl, Nat.le_of_ble_eq_true rfl⟩) hS (fun H locs hP hS => ?_)
      rw [show LX8_writeInstrument_61f x (k + 1) M = LX8_writeInstrument_94f x 1 (gX8_writes (gX8_writes M (115 : Int32)) ((48 : Int32) + ((gX8_writes M (115 : Int32)) 127 (8 * x.toNatClampNeg + 15)))) from (by rw [LX8_writeInstrument_61f, if_neg c66]), show LX8_writeInstrument_61g x (k + 1) M = LX8_writeInstrument_94g x 1 (gX8_writes (gX8_writes M (115 : Int32)) ((48 : Int32) + ((gX8_writes M (115 : Int32)) 127 (8 * x.toNatClampNeg + 15)))) from (by rw [LX8_writeInstrument_61g, if_neg c66])]
      exact cl_X8_writeInstrument_94 l D cy b n hn x hx hb hr hlocks hml hown hts hK hX 1 (gX8_writes (gX8_writes M (115 : Int32)) ((48 : Int32) + ((gX8_writes M (115 : Int32)) 127 (8 * x.toNatClampNeg + 15)))) H locs ls (by decide) hP hS (lv_sub hl [0] rfl)

def LX8_writeInstrument_42f (x : Int32) : Nat → Mem → Int32
  | 0, _ => 0
  | k + 1, M => if (fX8_hasSettled (gX8_writesReading M x.toNatClampNeg) x.toNatClampNeg) = 0 then (LX8_writeInstrument_61f x 1 (gX8_writesReading M x.toNatClampNeg)) else (LX8_writeInstrument_61f x 1 (gX8_writes (gX8_writesReading M x.toNatClampNeg) (42 : Int32)))
def LX8_writeInstrument_42g (x : Int32) : Nat → Mem → Mem
  | 0, M => M
  | k + 1, M => if (fX8_hasSettled (gX8_writesReading M x.toNatClampNeg) x.toNatClampNeg) = 0 then (LX8_writeInstrument_61g x 1 (gX8_writesReading M x.toNatClampNeg)) else (LX8_writeInstrument_61g x 1 (gX8_writes (gX8_writesReading M x.toNatClampNeg) (42 : Int32)))
set_option maxHeartbeats 4000000 in
set_option maxRecDepth 100000 in
theorem cl_X8_writeInstrument_42 (l : Launch) (D : va_G) (cy : Nat → ClassId) (b n : Nat) (hn : 133 ≤ n) (x : Int32)  {p : Program} {e : Env} {s : State} {m : MethodId} {args : Array Value} {below : List Frame} {meth : Method} {c : Code} (hx : p.tables.exec = Jvm.exec) (hb : c.code = cX8_writeInstrument) (hr : meth.sig.returnType = (some .int)) (hlocks : meth.locks = false) (hml : c.maxLocals = 2) (hown : s.vm.findClass RX8 = some m.cls) (hts : ∀ w ∈ wsX8_writeInstrument, w.before args s = true) (hK : va_K D vwCl (tysW cy) s) (hX : SX b s)  : ∀ (k : Nat) (M : Mem)  (H : Heap) (locs : List Loc) (ls : Array Slot), MNY M → BXS M → TMP M → IV x → UB (M 124 12) 1 → 0 < k → va_P D vwCl (wL cy b fT M n) H → va_S (fr b) s.heap H locs → lv_has ls 2 [(0, .ref (b + 124)), (1, .int x)] → W p l e (headSpec wsX8_writeInstrument ({ frames := 7, cells := 0, slots := 0, locals := 148 } : Room)).room s m args below meth c H locs 0 0 (MQ below (CQi D cy b n fT (LX8_writeInstrument_42f x k M) (LX8_writeInstrument_42g x k M)) args s 0 0 (fr b)) (F0 m 42 ls []) := by
  intro k
  induction k with
  | zero => intro M H locs ls hmy hbx htp hxv how hk hP hS hl; omega
  | succ k ih =>
    intro M H locs ls hmy hbx htp hxv how hk hP hS hl
    refine lv_aload_n hx hb dX8_writeInstrument_42 rfl (lv_at hl 0 rfl) ?_
    refine lv_iload_n hx hb dX8_writeInstrument_43 rfl (lv_at hl 1 rfl) ?_
    refine W.eq (g2 := F0 m 44 ls (.int (nI (x.toNatClampNeg)) :: .ref (b + 124) :: [])) (congrArg (fun z => F0 m 44 ls (.int z :: .ref (b + 124) :: [])) (nat_of hxv.1)) ?_
    refine xc_v (va_runV (As := [.int (nI (x.toNatClampNeg))]) (rest := []) ⟨hx, hb, hml, hown, hts⟩ (c_X8_writesReading l D cy b n hn M x.toNatClampNeg hxv.2 hbx htp (how.mono (by decide))) (cwV 1 hts gX8_writeInstrument_X8_writesReading rfl rfl rfl (by decide +kernel) ⟨Nat.le_of_ble_eq_true rfl, Nat.le_of_ble_eq_true rfl⟩) (xPreV hP hK hX hS (by omega) (cell8 (by decide)) rfl) rfl rfl hl.1 rfl (lv_room (Nat.le_of_ble_eq_true rfl)) dX8_writeInstrument_44 ⟨Nat.le_of_ble_eq_true rfl, Nat.le_of_ble_eq_true rfl⟩) hS (fun H locs hP hS => ?_)
    refine lv_aload_n hx hb dX8_writeInstrument_47 rfl (lv_at hl 0 rfl) ?_
    refine lv_iload_n hx hb dX8_writeInstrument_48 rfl (lv_at hl 1 rfl) ?_
    refine W.eq (g2 := F0 m 49 ls (.int (nI (x.toNatClampNeg)) :: .ref (b + 124) :: [])) (congrArg (fun z => F0 m 49 ls (.int z :: .ref (b + 124) :: [])) (nat_of hxv.1)) ?_
    refine xc_i (va_runV (As := [.int (nI (x.toNatClampNeg))]) (rest := []) ⟨hx, hb, hml, hown, hts⟩ (c_X8_hasSettled l D cy b n hn (gX8_writesReading M x.toNatClampNeg) x.toNatClampNeg hxv.2 (bxs_r wd_127 hbx)) (cwV 1 hts gX8_writeInstrument_X8_hasSettled rfl rfl rfl (by decide +kernel) ⟨Nat.le_of_ble_eq_true rfl, Nat.le_of_ble_eq_true rfl⟩) (xPreV hP hK hX hS (by omega) (cell8 (by decide)) rfl) rfl rfl hl.1 rfl (lv_room (Nat.le_of_ble_eq_true rfl)) dX8_writeInstrument_49 ⟨Nat.le_of_ble_eq_true rfl, Nat.le_of_ble_eq_true rfl⟩) hS (fun H locs hP hS => ?_)
    refine lv_if_eq (tgt := 61) hx hb dX8_writeInstrument_52 (by decide) (fun c52 => ?_) (fun c52 => ?_)
    · rw [show LX8_writeInstrument_42f x (k + 1) M = LX8_writeInstrument_61f x 1 (gX8_writesReading M x.toNatClampNeg) from (by rw [LX8_writeInstrument_42f, if_pos c52]), show LX8_writeInstrument_42g x (k + 1) M = LX8_writeInstrument_61g x 1 (gX8_writesReading M x.toNatClampNeg) from (by rw [LX8_writeInstrument_42g, if_pos c52])]
      exact cl_X8_writeInstrument_61 l D cy b n hn x hx hb hr hlocks hml hown hts hK hX 1 (gX8_writesReading M x.toNatClampNeg) H locs ls hxv (by first | with_reducible exact wr_ub (wd_ub (L := 4) how (by decide)) (by decide) | with_reducible exact wd_ub how (by decide)) (by decide) hP hS (lv_sub hl [0, 1] rfl)
    · refine lv_aload_n hx hb dX8_writeInstrument_55 rfl (lv_at hl 0 rfl) ?_
      refine lv_bipush (v := 42) hx hb dX8_writeInstrument_56 (by decide) ?_
      refine xc_v (va_runV (As := [.int (42 : Int32)]) (rest := []) ⟨hx, hb, hml, hown, hts⟩ (c_X8_writes l D cy b n hn (gX8_writesReading M x.toNatClampNeg) (42 : Int32) (UB.mono (wd_ub (L := 4) how (by decide)) (by decide))) (cwV 1 hts gX8_writeInstrument_X8_writes rfl rfl rfl (by decide +kernel) ⟨Nat.le_of_ble_eq_true rfl, Nat.le_of_ble_eq_true rfl⟩) (xPreV hP hK hX hS (by omega) (cell8 (by decide)) rfl) rfl rfl hl.1 rfl (lv_room (Nat.le_of_ble_eq_true rfl)) dX8_writeInstrument_58 ⟨Nat.le_of_ble_eq_true rfl, Nat.le_of_ble_eq_true rfl⟩) hS (fun H locs hP hS => ?_)
      rw [show LX8_writeInstrument_42f x (k + 1) M = LX8_writeInstrument_61f x 1 (gX8_writes (gX8_writesReading M x.toNatClampNeg) (42 : Int32)) from (by rw [LX8_writeInstrument_42f, if_neg c52]), show LX8_writeInstrument_42g x (k + 1) M = LX8_writeInstrument_61g x 1 (gX8_writes (gX8_writesReading M x.toNatClampNeg) (42 : Int32)) from (by rw [LX8_writeInstrument_42g, if_neg c52])]
      exact cl_X8_writeInstrument_61 l D cy b n hn x hx hb hr hlocks hml hown hts hK hX 1 (gX8_writes (gX8_writesReading M x.toNatClampNeg) (42 : Int32)) H locs ls hxv (by first | with_reducible exact wr_ub (wd_ub (L := 4) how (by decide)) (by decide) | with_reducible exact wd_ub how (by decide)) (by decide) hP hS (lv_sub hl [0, 1] rfl)

def fX8_writeInstrument (M : Mem) (x : Int32) : Int32 := if (fX8_is M x) = 0 then (fX8_refuse M (1 : Int32)) else (if (fX8_isOfHair (mU M 124 12 (0 : Int32)) x.toNatClampNeg) = 0 then (LX8_writeInstrument_42f x 1 (gX8_writes (mU M 124 12 (0 : Int32)) (98 : Int32))) else (LX8_writeInstrument_42f x 1 (gX8_writes (mU M 124 12 (0 : Int32)) (104 : Int32))))
def gX8_writeInstrument (M : Mem) (x : Int32) : Mem := if (fX8_is M x) = 0 then (gX8_refuse M (1 : Int32)) else (if (fX8_isOfHair (mU M 124 12 (0 : Int32)) x.toNatClampNeg) = 0 then (LX8_writeInstrument_42g x 1 (gX8_writes (mU M 124 12 (0 : Int32)) (98 : Int32))) else (LX8_writeInstrument_42g x 1 (gX8_writes (mU M 124 12 (0 : Int32)) (104 : Int32))))
set_option maxHeartbeats 4000000 in
set_option maxRecDepth 100000 in
theorem c_X8_writeInstrument (l : Launch) (D : va_G) (cy : Nat → ClassId) (b n : Nat) (hn : 133 ≤ n) (M : Mem) (x : Int32) (hmy : MNY M) (hbx : BXS M) (htp : TMP M) : Met l yX8_writeInstrument wsX8_writeInstrument ({ frames := 7, cells := 0, slots := 0, locals := 148 } : Room) (CP D cy b n fT M [.ref (b + 124), .int x]) (CQi D cy b n fT (fX8_writeInstrument M x) (gX8_writeInstrument M x)) 0 0 (fr b) := by
  refine Met.ofW (cc := cX8_writeInstrument) (maxL := 2) (ret := (some .int)) (by decide) rfl ?_
  intro p e s m args below meth c s₁ B hml hv
  obtain ⟨rfl, hP, hK, hX⟩ := hv
  have hx := B.exec
  have hb := B.bytes
  have hr := B.returns
  have hts := atoms_spec (ws := wsX8_writeInstrument) B.pre
  have hown : s.vm.findClass RX8 = some m.cls := findClass_of_methodNamed B.named
  have hlocks := B.notSynchronized
  have lk0 := hts (.fieldLink RX8 268 "HygrometerRoomModel" "outputMany" "I") (by decide +kernel)
  have inc8 : ∀ w ∈ u_ws RX8 TX8 22, w ∈ wsX8_writeInstrument := by decide +kernel
  have hS : va_S (fr b) s.heap s.heap [] := va_S.rf
  have hl := lv_entry ([.ref (b + 124), .int x]) (n := 2) (Nat.le_of_ble_eq_true rfl)
  rw [lg_entry_eq]
  generalize (lg_sl ([.ref (b + 124), .int x]) ++ List.replicate (2 - (lg_sl ([.ref (b + 124), .int x])).length) Slot.unset).toArray = ls at hl ⊢
  have hl : lv_has ls 2 [(0, .ref (b + 124)), (1, .int x)] := hl
  refine lv_aload_n hx hb dX8_writeInstrument_0 rfl (lv_at hl 0 rfl) ?_
  refine lv_iload_n hx hb dX8_writeInstrument_1 rfl (lv_at hl 1 rfl) ?_
  refine xc_i (va_runV (As := [.int x]) (rest := []) ⟨hx, hb, hml, hown, hts⟩ (c_X8_is l D cy b n hn M x) (cwV 1 hts gX8_writeInstrument_X8_is rfl rfl rfl (by decide +kernel) ⟨Nat.le_of_ble_eq_true rfl, Nat.le_of_ble_eq_true rfl⟩) (xPreV hP hK hX hS (by omega) (cell8 (by decide)) rfl) rfl rfl hl.1 rfl (lv_room (Nat.le_of_ble_eq_true rfl)) dX8_writeInstrument_2 ⟨Nat.le_of_ble_eq_true rfl, Nat.le_of_ble_eq_true rfl⟩) hS (fun H locs hP hS => ?_)
  refine lv_if_ne (tgt := 14) hx hb dX8_writeInstrument_5 (by decide) (fun c5 => ?_) (fun c5 => ?_)
  · refine lv_aload_n hx hb dX8_writeInstrument_14 rfl (lv_at hl 0 rfl) ?_
    refine lv_iconst (v := 0) hx hb dX8_writeInstrument_15 (by decide) ?_
    refine xp (C := RX8) (T := TX8) (N := 22) (ci := 8) (ty := .int) (x := (0 : Int32)) hx hb hts inc8 tyX8 tyX8_ok nmX8 hown hK hP hS (by omega) (fun _ => cell8 (by decide)) rfl 12 (by decide) rfl lk0 (fun _ h => h) rfl (tyX8_ok 12 (by decide)) rfl rfl (Nat.le_of_ble_eq_true rfl) dX8_writeInstrument_16 (fun H locs hP hS => ?_)
    refine lv_aload_n hx hb dX8_writeInstrument_19 rfl (lv_at hl 0 rfl) ?_
    refine lv_iload_n hx hb dX8_writeInstrument_20 rfl (lv_at hl 1 rfl) ?_
    refine W.eq (g2 := F0 m 21 ls (.int (nI (x.toNatClampNeg)) :: .ref (b + 124) :: [])) (congrArg (fun z => F0 m 21 ls (.int z :: .ref (b + 124) :: [])) (nat_of (is_iv hmy c5).1)) ?_
    refine xc_i (va_runV (As := [.int (nI (x.toNatClampNeg))]) (rest := []) ⟨hx, hb, hml, hown, hts⟩ (c_X8_isOfHair l D cy b n hn (mU M 124 12 (0 : Int32)) x.toNatClampNeg (is_iv hmy c5).2) (cwV 1 hts gX8_writeInstrument_X8_isOfHair rfl rfl rfl (by decide +kernel) ⟨Nat.le_of_ble_eq_true rfl, Nat.le_of_ble_eq_true rfl⟩) (xPreV hP hK hX hS (by omega) (cell8 (by decide)) rfl) rfl rfl hl.1 rfl (lv_room (Nat.le_of_ble_eq_true rfl)) dX8_writeInstrument_21 ⟨Nat.le_of_ble_eq_true rfl, Nat.le_of_ble_eq_true rfl⟩) hS (fun H locs hP hS => ?_)
    refine lv_if_eq (tgt := 36) hx hb dX8_writeInstrument_24 (by decide) (fun c24 => ?_) (fun c24 => ?_)
    · refine lv_aload_n hx hb dX8_writeInstrument_36 rfl (lv_at hl 0 rfl) ?_
      refine lv_bipush (v := 98) hx hb dX8_writeInstrument_37 (by decide) ?_
      refine xc_v (va_runV (As := [.int (98 : Int32)]) (rest := []) ⟨hx, hb, hml, hown, hts⟩ (c_X8_writes l D cy b n hn (mU M 124 12 (0 : Int32)) (98 : Int32) ((wo_0 M).mono (by decide))) (cwV 1 hts gX8_writeInstrument_X8_writes rfl rfl rfl (by decide +kernel) ⟨Nat.le_of_ble_eq_true rfl, Nat.le_of_ble_eq_true rfl⟩) (xPreV hP hK hX hS (by omega) (cell8 (by decide)) rfl) rfl rfl hl.1 rfl (lv_room (Nat.le_of_ble_eq_true rfl)) dX8_writeInstrument_39 ⟨Nat.le_of_ble_eq_true rfl, Nat.le_of_ble_eq_true rfl⟩) hS (fun H locs hP hS => ?_)
      rw [show fX8_writeInstrument M x = LX8_writeInstrument_42f x 1 (gX8_writes (mU M 124 12 (0 : Int32)) (98 : Int32)) from (by rw [fX8_writeInstrument, if_neg c5, if_pos c24]), show gX8_writeInstrument M x = LX8_writeInstrument_42g x 1 (gX8_writes (mU M 124 12 (0 : Int32)) (98 : Int32)) from (by rw [gX8_writeInstrument, if_neg c5, if_pos c24])]
      exact cl_X8_writeInstrument_42 l D cy b n hn x hx hb hr hlocks hml hown hts hK hX 1 (gX8_writes (mU M 124 12 (0 : Int32)) (98 : Int32)) H locs ls (mny_r wr_127 hmy) (bxs_r wr_127 hbx) (tmp_r wr_127 htp) (is_iv hmy c5) (wr_ub (wo_0 M) (by decide)) (by decide) hP hS (lv_sub hl [0, 1] rfl)
    · refine lv_aload_n hx hb dX8_writeInstrument_27 rfl (lv_at hl 0 rfl) ?_
      refine lv_bipush (v := 104) hx hb dX8_writeInstrument_28 (by decide) ?_
      refine xc_v (va_runV (As := [.int (104 : Int32)]) (rest := []) ⟨hx, hb, hml, hown, hts⟩ (c_X8_writes l D cy b n hn (mU M 124 12 (0 : Int32)) (104 : Int32) ((wo_0 M).mono (by decide))) (cwV 1 hts gX8_writeInstrument_X8_writes rfl rfl rfl (by decide +kernel) ⟨Nat.le_of_ble_eq_true rfl, Nat.le_of_ble_eq_true rfl⟩) (xPreV hP hK hX hS (by omega) (cell8 (by decide)) rfl) rfl rfl hl.1 rfl (lv_room (Nat.le_of_ble_eq_true rfl)) dX8_writeInstrument_30 ⟨Nat.le_of_ble_eq_true rfl, Nat.le_of_ble_eq_true rfl⟩) hS (fun H locs hP hS => ?_)
      refine lv_goto (tgt := 42) hx hb dX8_writeInstrument_33 (by decide) ?_
      rw [show fX8_writeInstrument M x = LX8_writeInstrument_42f x 1 (gX8_writes (mU M 124 12 (0 : Int32)) (104 : Int32)) from (by rw [fX8_writeInstrument, if_neg c5, if_neg c24]), show gX8_writeInstrument M x = LX8_writeInstrument_42g x 1 (gX8_writes (mU M 124 12 (0 : Int32)) (104 : Int32)) from (by rw [gX8_writeInstrument, if_neg c5, if_neg c24])]
      exact cl_X8_writeInstrument_42 l D cy b n hn x hx hb hr hlocks hml hown hts hK hX 1 (gX8_writes (mU M 124 12 (0 : Int32)) (104 : Int32)) H locs ls (mny_r wr_127 hmy) (bxs_r wr_127 hbx) (tmp_r wr_127 htp) (is_iv hmy c5) (wr_ub (wo_0 M) (by decide)) (by decide) hP hS (lv_sub hl [0, 1] rfl)
  · refine lv_aload_n hx hb dX8_writeInstrument_8 rfl (lv_at hl 0 rfl) ?_
    refine lv_iconst (v := 1) hx hb dX8_writeInstrument_9 (by decide) ?_
    refine xc_i (va_runV (As := [.int (1 : Int32)]) (rest := []) ⟨hx, hb, hml, hown, hts⟩ (c_X8_refuse l D cy b n hn M (1 : Int32)) (cwV 1 hts gX8_writeInstrument_X8_refuse rfl rfl rfl (by decide +kernel) ⟨Nat.le_of_ble_eq_true rfl, Nat.le_of_ble_eq_true rfl⟩) (xPreV hP hK hX hS (by omega) (cell8 (by decide)) rfl) rfl rfl hl.1 rfl (lv_room (Nat.le_of_ble_eq_true rfl)) dX8_writeInstrument_10 ⟨Nat.le_of_ble_eq_true rfl, Nat.le_of_ble_eq_true rfl⟩) hS (fun H locs hP hS => ?_)
    exact xe_i hx hb hr hlocks hP hS rfl (by rw [gX8_writeInstrument, if_pos c5] <;> rfl) (by rw [fX8_writeInstrument, if_pos c5] <;> rfl) (Nat.le_of_ble_eq_true rfl) (Nat.le_of_ble_eq_true rfl) dX8_writeInstrument_13
def LX8_writeReadings_7f  : Nat → Mem → Nat → Int32
  | 0, _, _ => 0
  | k + 1, M, j => if (M 127 5) ≤ (nI (j)) then (fX8_told M (M 124 12)) else (if (nI (j)) ≤ 0 then (LX8_writeReadings_7f k (gX8_writesReading M j) (j + 1)) else (LX8_writeReadings_7f k (gX8_writesReading (gX8_writes M (32 : Int32)) j) (j + 1)))
def LX8_writeReadings_7g  : Nat → Mem → Nat → Mem
  | 0, M, _ => M
  | k + 1, M, j => if (M 127 5) ≤ (nI (j)) then (gX8_told M (M 124 12)) else (if (nI (j)) ≤ 0 then (LX8_writeReadings_7g k (gX8_writesReading M j) (j + 1)) else (LX8_writeReadings_7g k (gX8_writesReading (gX8_writes M (32 : Int32)) j) (j + 1)))
set_option maxHeartbeats 4000000 in
set_option maxRecDepth 100000 in
theorem cl_X8_writeReadings_7 (l : Launch) (D : va_G) (cy : Nat → ClassId) (b n : Nat) (hn : 133 ≤ n)   {p : Program} {e : Env} {s : State} {m : MethodId} {args : Array Value} {below : List Frame} {meth : Method} {c : Code} (hx : p.tables.exec = Jvm.exec) (hb : c.code = cX8_writeReadings) (hr : meth.sig.returnType = (some .int)) (hlocks : meth.locks = false) (hml : c.maxLocals = 2) (hown : s.vm.findClass RX8 = some m.cls) (hts : ∀ w ∈ wsX8_writeReadings, w.before args s = true) (hK : va_K D vwCl (tysW cy) s) (hX : SX b s)  : ∀ (k : Nat) (M : Mem) (j : Nat) (H : Heap) (locs : List Loc) (ls : Array Slot), MNY M → BXS M → TMP M → UB (M 124 12) (4 * j) → j ≤ 6 → 7 ≤ j + k → va_P D vwCl (wL cy b fT M n) H → va_S (fr b) s.heap H locs → lv_has ls 2 [(0, .ref (b + 124)), (1, .int (nI (j)))] → W p l e (headSpec wsX8_writeReadings ({ frames := 7, cells := 0, slots := 0, locals := 148 } : Room)).room s m args below meth c H locs 0 0 (MQ below (CQi D cy b n fT (LX8_writeReadings_7f k M j) (LX8_writeReadings_7g k M j)) args s 0 0 (fr b)) (F0 m 7 ls []) := by
  have lk0 := hts (.fieldLink RX8 16 "HygrometerRoomModel" "now" "[I") (by decide +kernel)
  have lk1 := hts (.fieldLink RX8 268 "HygrometerRoomModel" "outputMany" "I") (by decide +kernel)
  have inc8 : ∀ w ∈ u_ws RX8 TX8 22, w ∈ wsX8_writeReadings := by decide +kernel
  intro k
  induction k with
  | zero => intro M j H locs ls hmy hbx htp how hj hk hP hS hl; omega
  | succ k ih =>
    intro M j H locs ls hmy hbx htp how hj hk hP hS hl
    refine lv_iload_n hx hb dX8_writeReadings_7 rfl (lv_at hl 1 rfl) ?_
    refine lv_aload_n hx hb dX8_writeReadings_8 rfl (lv_at hl 0 rfl) ?_
    refine xg (C := RX8) (T := TX8) (N := 22) (v := .ref (b + 127)) hx hb hts inc8 hown hK hP (by omega) (cell8 (by decide)) rfl 3 (by decide) lk0 (fun _ h => h) rfl dX8_writeReadings_9 ?_
    refine lv_iconst (v := 5) hx hb dX8_writeReadings_12 (by decide) ?_
    refine xil (j := 5) hx hb hK hP (by omega) (by decide) (ixIn (a := 5) rfl (by first | decide | (simp only [lenOf]; omega) | omega) (by decide)) rfl dX8_writeReadings_13 ?_
    refine lv_icmp_ge (tgt := 38) hx hb dX8_writeReadings_14 (by decide) (fun c14 => ?_) (fun c14 => ?_)
    · refine lv_aload_n hx hb dX8_writeReadings_38 rfl (lv_at hl 0 rfl) ?_
      refine lv_aload_n hx hb dX8_writeReadings_39 rfl (lv_at hl 0 rfl) ?_
      refine xg (C := RX8) (T := TX8) (N := 22) (v := .int (M 124 12)) hx hb hts inc8 hown hK hP (by omega) (cell8 (by decide)) rfl 12 (by decide) lk1 (fun _ h => h) rfl dX8_writeReadings_40 ?_
      refine xc_i (va_runV (As := [.int (M 124 12)]) (rest := []) ⟨hx, hb, hml, hown, hts⟩ (c_X8_told l D cy b n hn M (M 124 12)) (cwV 1 hts gX8_writeReadings_X8_told rfl rfl rfl (by decide +kernel) ⟨Nat.le_of_ble_eq_true rfl, Nat.le_of_ble_eq_true rfl⟩) (xPreV hP hK hX hS (by omega) (cell8 (by decide)) rfl) rfl rfl hl.1 rfl (lv_room (Nat.le_of_ble_eq_true rfl)) dX8_writeReadings_43 ⟨Nat.le_of_ble_eq_true rfl, Nat.le_of_ble_eq_true rfl⟩) hS (fun H locs hP hS => ?_)
      exact xe_i hx hb hr hlocks hP hS rfl (by rw [LX8_writeReadings_7g, if_pos c14] <;> rfl) (by rw [LX8_writeReadings_7f, if_pos c14] <;> rfl) (Nat.le_of_ble_eq_true rfl) (Nat.le_of_ble_eq_true rfl) dX8_writeReadings_46
    · have hj6 := ub_lt hmy hj c14
      refine lv_iload_n hx hb dX8_writeReadings_17 rfl (lv_at hl 1 rfl) ?_
      refine lv_if_le (tgt := 27) hx hb dX8_writeReadings_18 (by decide) (fun c18 => ?_) (fun c18 => ?_)
      · refine lv_aload_n hx hb dX8_writeReadings_27 rfl (lv_at hl 0 rfl) ?_
        refine lv_iload_n hx hb dX8_writeReadings_28 rfl (lv_at hl 1 rfl) ?_
        refine xc_v (va_runV (As := [.int (nI (j))]) (rest := []) ⟨hx, hb, hml, hown, hts⟩ (c_X8_writesReading l D cy b n hn M j (by omega) (by first | exact hbx | exact bxs_r wr_127 hbx) (by first | exact htp | exact tmp_r wr_127 htp) (by first | with_reducible exact UB.mono how (by omega) | with_reducible exact wr_ub how (by omega))) (cwV 1 hts gX8_writeReadings_X8_writesReading rfl rfl rfl (by decide +kernel) ⟨Nat.le_of_ble_eq_true rfl, Nat.le_of_ble_eq_true rfl⟩) (xPreV hP hK hX hS (by omega) (cell8 (by decide)) rfl) rfl rfl hl.1 rfl (lv_room (Nat.le_of_ble_eq_true rfl)) dX8_writeReadings_29 ⟨Nat.le_of_ble_eq_true rfl, Nat.le_of_ble_eq_true rfl⟩) hS (fun H locs hP hS => ?_)
        refine lv_iinc (v := nI (j + 1)) (lv' := [(1, .int (nI (j + 1))), (0, .ref (b + 124))]) hx hb dX8_writeReadings_32 hl (k := 1) rfl (ixAdd (a := j) (c := 1) (d := j + 1) rfl rfl (by omega)) (by decide) rfl (fun ls hl => ?_)
        refine lv_goto (tgt := 7) hx hb dX8_writeReadings_35 (by decide) ?_
        rw [show LX8_writeReadings_7f (k + 1) M j = LX8_writeReadings_7f k (gX8_writesReading M j) (j + 1) from (by rw [LX8_writeReadings_7f, if_neg c14, if_pos c18]), show LX8_writeReadings_7g (k + 1) M j = LX8_writeReadings_7g k (gX8_writesReading M j) (j + 1) from (by rw [LX8_writeReadings_7g, if_neg c14, if_pos c18])]
        exact ih (gX8_writesReading M j) (j + 1) H locs ls (mny_r (by first | exact wd_127 | exact wd_127.trans wr_127) hmy) (bxs_r (by first | exact wd_127 | exact wd_127.trans wr_127) hbx) (tmp_r (by first | exact wd_127 | exact wd_127.trans wr_127) htp) (by first | with_reducible exact wd_ub (wr_ub how (Nat.le_refl _)) (by omega) | with_reducible exact wd_ub how (by omega)) (by omega) (by omega) hP hS (lv_sub hl [1, 0] rfl)
      · refine lv_aload_n hx hb dX8_writeReadings_21 rfl (lv_at hl 0 rfl) ?_
        refine lv_bipush (v := 32) hx hb dX8_writeReadings_22 (by decide) ?_
        refine xc_v (va_runV (As := [.int (32 : Int32)]) (rest := []) ⟨hx, hb, hml, hown, hts⟩ (c_X8_writes l D cy b n hn M (32 : Int32) (how.mono (by omega))) (cwV 1 hts gX8_writeReadings_X8_writes rfl rfl rfl (by decide +kernel) ⟨Nat.le_of_ble_eq_true rfl, Nat.le_of_ble_eq_true rfl⟩) (xPreV hP hK hX hS (by omega) (cell8 (by decide)) rfl) rfl rfl hl.1 rfl (lv_room (Nat.le_of_ble_eq_true rfl)) dX8_writeReadings_24 ⟨Nat.le_of_ble_eq_true rfl, Nat.le_of_ble_eq_true rfl⟩) hS (fun H locs hP hS => ?_)
        refine lv_aload_n hx hb dX8_writeReadings_27 rfl (lv_at hl 0 rfl) ?_
        refine lv_iload_n hx hb dX8_writeReadings_28 rfl (lv_at hl 1 rfl) ?_
        refine xc_v (va_runV (As := [.int (nI (j))]) (rest := []) ⟨hx, hb, hml, hown, hts⟩ (c_X8_writesReading l D cy b n hn (gX8_writes M (32 : Int32)) j (by omega) (by first | exact hbx | exact bxs_r wr_127 hbx) (by first | exact htp | exact tmp_r wr_127 htp) (by first | with_reducible exact UB.mono how (by omega) | with_reducible exact wr_ub how (by omega))) (cwV 1 hts gX8_writeReadings_X8_writesReading rfl rfl rfl (by decide +kernel) ⟨Nat.le_of_ble_eq_true rfl, Nat.le_of_ble_eq_true rfl⟩) (xPreV hP hK hX hS (by omega) (cell8 (by decide)) rfl) rfl rfl hl.1 rfl (lv_room (Nat.le_of_ble_eq_true rfl)) dX8_writeReadings_29 ⟨Nat.le_of_ble_eq_true rfl, Nat.le_of_ble_eq_true rfl⟩) hS (fun H locs hP hS => ?_)
        refine lv_iinc (v := nI (j + 1)) (lv' := [(1, .int (nI (j + 1))), (0, .ref (b + 124))]) hx hb dX8_writeReadings_32 hl (k := 1) rfl (ixAdd (a := j) (c := 1) (d := j + 1) rfl rfl (by omega)) (by decide) rfl (fun ls hl => ?_)
        refine lv_goto (tgt := 7) hx hb dX8_writeReadings_35 (by decide) ?_
        rw [show LX8_writeReadings_7f (k + 1) M j = LX8_writeReadings_7f k (gX8_writesReading (gX8_writes M (32 : Int32)) j) (j + 1) from (by rw [LX8_writeReadings_7f, if_neg c14, if_neg c18]), show LX8_writeReadings_7g (k + 1) M j = LX8_writeReadings_7g k (gX8_writesReading (gX8_writes M (32 : Int32)) j) (j + 1) from (by rw [LX8_writeReadings_7g, if_neg c14, if_neg c18])]
        exact ih (gX8_writesReading (gX8_writes M (32 : Int32)) j) (j + 1) H locs ls (mny_r (by first | exact wd_127 | exact wd_127.trans wr_127) hmy) (bxs_r (by first | exact wd_127 | exact wd_127.trans wr_127) hbx) (tmp_r (by first | exact wd_127 | exact wd_127.trans wr_127) htp) (by first | with_reducible exact wd_ub (wr_ub how (Nat.le_refl _)) (by omega) | with_reducible exact wd_ub how (by omega)) (by omega) (by omega) hP hS (lv_sub hl [1, 0] rfl)

def fX8_writeReadings (M : Mem) : Int32 := LX8_writeReadings_7f 7 (mU M 124 12 (0 : Int32)) 0
def gX8_writeReadings (M : Mem) : Mem := LX8_writeReadings_7g 7 (mU M 124 12 (0 : Int32)) 0
set_option maxHeartbeats 4000000 in
set_option maxRecDepth 100000 in
theorem c_X8_writeReadings (l : Launch) (D : va_G) (cy : Nat → ClassId) (b n : Nat) (hn : 133 ≤ n) (M : Mem)  (hmy : MNY M) (hbx : BXS M) (htp : TMP M) : Met l yX8_writeReadings wsX8_writeReadings ({ frames := 7, cells := 0, slots := 0, locals := 148 } : Room) (CP D cy b n fT M [.ref (b + 124)]) (CQi D cy b n fT (fX8_writeReadings M) (gX8_writeReadings M)) 0 0 (fr b) := by
  refine Met.ofW (cc := cX8_writeReadings) (maxL := 2) (ret := (some .int)) (by decide) rfl ?_
  intro p e s m args below meth c s₁ B hml hv
  obtain ⟨rfl, hP, hK, hX⟩ := hv
  have hx := B.exec
  have hb := B.bytes
  have hr := B.returns
  have hts := atoms_spec (ws := wsX8_writeReadings) B.pre
  have hown : s.vm.findClass RX8 = some m.cls := findClass_of_methodNamed B.named
  have hlocks := B.notSynchronized
  have lk0 := hts (.fieldLink RX8 268 "HygrometerRoomModel" "outputMany" "I") (by decide +kernel)
  have inc8 : ∀ w ∈ u_ws RX8 TX8 22, w ∈ wsX8_writeReadings := by decide +kernel
  have hS : va_S (fr b) s.heap s.heap [] := va_S.rf
  have hl := lv_entry ([.ref (b + 124)]) (n := 2) (Nat.le_of_ble_eq_true rfl)
  rw [lg_entry_eq]
  generalize (lg_sl ([.ref (b + 124)]) ++ List.replicate (2 - (lg_sl ([.ref (b + 124)])).length) Slot.unset).toArray = ls at hl ⊢
  have hl : lv_has ls 2 [(0, .ref (b + 124))] := hl
  refine lv_aload_n hx hb dX8_writeReadings_0 rfl (lv_at hl 0 rfl) ?_
  refine lv_iconst (v := 0) hx hb dX8_writeReadings_1 (by decide) ?_
  refine xp (C := RX8) (T := TX8) (N := 22) (ci := 8) (ty := .int) (x := (0 : Int32)) hx hb hts inc8 tyX8 tyX8_ok nmX8 hown hK hP hS (by omega) (fun _ => cell8 (by decide)) rfl 12 (by decide) rfl lk0 (fun _ h => h) rfl (tyX8_ok 12 (by decide)) rfl rfl (Nat.le_of_ble_eq_true rfl) dX8_writeReadings_2 (fun H locs hP hS => ?_)
  refine lv_iconst (v := 0) hx hb dX8_writeReadings_5 (by decide) ?_
  refine lv_istore_n (lv' := [(1, .int (0 : Int32)), (0, .ref (b + 124))]) hx hb dX8_writeReadings_6 rfl hl (by decide) rfl (fun ls hl => ?_)
  rw [show fX8_writeReadings M = LX8_writeReadings_7f 7 (mU M 124 12 (0 : Int32)) 0 from (by rw [fX8_writeReadings]), show gX8_writeReadings M = LX8_writeReadings_7g 7 (mU M 124 12 (0 : Int32)) 0 from (by rw [gX8_writeReadings])]
  exact cl_X8_writeReadings_7 l D cy b n hn  hx hb hr hlocks hml hown hts hK hX 7 (mU M 124 12 (0 : Int32)) 0 H locs ls hmy hbx htp (wo_0 M) (by omega) (by omega) hP hS (lv_sub hl [1, 0] rfl)
def fX8_outputByte (M : Mem) (x : Int32) : Int32 := if (fX8_in M x (0 : Int32) ((M 124 12) - (1 : Int32))) = 0 then (fX8_refuse M (1 : Int32)) else (fX8_told M (M 132 x.toNatClampNeg))
def gX8_outputByte (M : Mem) (x : Int32) : Mem := if (fX8_in M x (0 : Int32) ((M 124 12) - (1 : Int32))) = 0 then (gX8_refuse M (1 : Int32)) else (gX8_told M (M 132 x.toNatClampNeg))
set_option maxHeartbeats 4000000 in
set_option maxRecDepth 100000 in
theorem c_X8_outputByte (l : Launch) (D : va_G) (cy : Nat → ClassId) (b n : Nat) (hn : 133 ≤ n) (M : Mem) (x : Int32) (how : UB (M 124 12) 60) : Met l yX8_outputByte wsX8_outputByte ({ frames := 1, cells := 0, slots := 0, locals := 22 } : Room) (CP D cy b n fT M [.ref (b + 124), .int x]) (CQi D cy b n fT (fX8_outputByte M x) (gX8_outputByte M x)) 0 0 (fr b) := by
  refine Met.ofW (cc := cX8_outputByte) (maxL := 2) (ret := (some .int)) (by decide) rfl ?_
  intro p e s m args below meth c s₁ B hml hv
  obtain ⟨rfl, hP, hK, hX⟩ := hv
  have hx := B.exec
  have hb := B.bytes
  have hr := B.returns
  have hts := atoms_spec (ws := wsX8_outputByte) B.pre
  have hown : s.vm.findClass RX8 = some m.cls := findClass_of_methodNamed B.named
  have hlocks := B.notSynchronized
  have lk0 := hts (.fieldLink RX8 268 "HygrometerRoomModel" "outputMany" "I") (by decide +kernel)
  have lk1 := hts (.fieldLink RX8 32 "HygrometerRoomModel" "output" "[B") (by decide +kernel)
  have inc8 : ∀ w ∈ u_ws RX8 TX8 22, w ∈ wsX8_outputByte := by decide +kernel
  have hS : va_S (fr b) s.heap s.heap [] := va_S.rf
  have hl := lv_entry ([.ref (b + 124), .int x]) (n := 2) (Nat.le_of_ble_eq_true rfl)
  rw [lg_entry_eq]
  generalize (lg_sl ([.ref (b + 124), .int x]) ++ List.replicate (2 - (lg_sl ([.ref (b + 124), .int x])).length) Slot.unset).toArray = ls at hl ⊢
  have hl : lv_has ls 2 [(0, .ref (b + 124)), (1, .int x)] := hl
  refine lv_iload_n hx hb dX8_outputByte_0 rfl (lv_at hl 1 rfl) ?_
  refine lv_iconst (v := 0) hx hb dX8_outputByte_1 (by decide) ?_
  refine lv_aload_n hx hb dX8_outputByte_2 rfl (lv_at hl 0 rfl) ?_
  refine xg (C := RX8) (T := TX8) (N := 22) (v := .int (M 124 12)) hx hb hts inc8 hown hK hP (by omega) (cell8 (by decide)) rfl 12 (by decide) lk0 (fun _ h => h) rfl dX8_outputByte_3 ?_
  refine lv_iconst (v := 1) hx hb dX8_outputByte_6 (by decide) ?_
  refine lv_isub hx hb dX8_outputByte_7 ?_
  refine xc_i (va_runS (As := [.int x, .int (0 : Int32), .int ((M 124 12) - (1 : Int32))]) (rest := []) ⟨hx, hb, hml, hown, hts⟩ (c_X8_in l D cy b n hn M x (0 : Int32) ((M 124 12) - (1 : Int32))) (va_cwS 3 hts gX8_outputByte_X8_in rfl rfl rfl (by decide +kernel) ⟨Nat.le_of_ble_eq_true rfl, Nat.le_of_ble_eq_true rfl⟩) (xPreS hP hK hX hS) rfl rfl hl.1 rfl (lv_room (Nat.le_of_ble_eq_true rfl)) dX8_outputByte_8 ⟨Nat.le_of_ble_eq_true rfl, Nat.le_of_ble_eq_true rfl⟩) hS (fun H locs hP hS => ?_)
  refine lv_if_ne (tgt := 20) hx hb dX8_outputByte_11 (by decide) (fun c11 => ?_) (fun c11 => ?_)
  · refine lv_aload_n hx hb dX8_outputByte_20 rfl (lv_at hl 0 rfl) ?_
    refine lv_aload_n hx hb dX8_outputByte_21 rfl (lv_at hl 0 rfl) ?_
    refine xg (C := RX8) (T := TX8) (N := 22) (v := .ref (b + 132)) hx hb hts inc8 hown hK hP (by omega) (cell8 (by decide)) rfl 11 (by decide) lk1 (fun _ h => h) rfl dX8_outputByte_22 ?_
    refine lv_iload_n hx hb dX8_outputByte_25 rfl (lv_at hl 1 rfl) ?_
    refine xbl (j := x.toNatClampNeg) hx hb hK hP (by omega) (by decide) (ob_in how c11) rfl dX8_outputByte_26 ?_
    refine xc_i (va_runV (As := [.int (M 132 x.toNatClampNeg)]) (rest := []) ⟨hx, hb, hml, hown, hts⟩ (c_X8_told l D cy b n hn M (M 132 x.toNatClampNeg)) (cwV 1 hts gX8_outputByte_X8_told rfl rfl rfl (by decide +kernel) ⟨Nat.le_of_ble_eq_true rfl, Nat.le_of_ble_eq_true rfl⟩) (xPreV hP hK hX hS (by omega) (cell8 (by decide)) rfl) rfl rfl hl.1 rfl (lv_room (Nat.le_of_ble_eq_true rfl)) dX8_outputByte_27 ⟨Nat.le_of_ble_eq_true rfl, Nat.le_of_ble_eq_true rfl⟩) hS (fun H locs hP hS => ?_)
    exact xe_i hx hb hr hlocks hP hS rfl (by rw [gX8_outputByte, if_neg c11] <;> rfl) (by rw [fX8_outputByte, if_neg c11] <;> rfl) (Nat.le_of_ble_eq_true rfl) (Nat.le_of_ble_eq_true rfl) dX8_outputByte_30
  · refine lv_aload_n hx hb dX8_outputByte_14 rfl (lv_at hl 0 rfl) ?_
    refine lv_iconst (v := 1) hx hb dX8_outputByte_15 (by decide) ?_
    refine xc_i (va_runV (As := [.int (1 : Int32)]) (rest := []) ⟨hx, hb, hml, hown, hts⟩ (c_X8_refuse l D cy b n hn M (1 : Int32)) (cwV 1 hts gX8_outputByte_X8_refuse rfl rfl rfl (by decide +kernel) ⟨Nat.le_of_ble_eq_true rfl, Nat.le_of_ble_eq_true rfl⟩) (xPreV hP hK hX hS (by omega) (cell8 (by decide)) rfl) rfl rfl hl.1 rfl (lv_room (Nat.le_of_ble_eq_true rfl)) dX8_outputByte_16 ⟨Nat.le_of_ble_eq_true rfl, Nat.le_of_ble_eq_true rfl⟩) hS (fun H locs hP hS => ?_)
    exact xe_i hx hb hr hlocks hP hS rfl (by rw [gX8_outputByte, if_pos c11] <;> rfl) (by rw [fX8_outputByte, if_pos c11] <;> rfl) (Nat.le_of_ble_eq_true rfl) (Nat.le_of_ble_eq_true rfl) dX8_outputByte_19
def FN64 : Prop := ∀ s n : Nat, s ≤ 600 → 0 < n → n ≤ 6 → vf_n64 (FP.ddiv (FP.i2d (nI s)) (FP.i2d (nI n)))
def FN32 : Prop := ∀ s n : Nat, s ≤ 6 → 0 < n → n ≤ 6 → vf_n32 (FP.fdiv (FP.i2f (nI s)) (FP.i2f (nI n)))
theorem mean_nn {M : Mem} {x : Int32} (hnn : FN64) (hs : UB x 600) (hm : MNY M) (h0 : ¬ M 127 5 = 0) : vf_n64 (FP.ddiv (FP.i2d x) (FP.i2d (M 127 5))) := by
  obtain ⟨a, ha, rfl⟩ := hs
  obtain ⟨c, hc, ec⟩ := hm
  rw [ec]
  exact hnn a c ha (Nat.pos_of_ne_zero (fun h => h0 (by rw [ec, h]; rfl))) hc
theorem share_nn {M : Mem} {x : Int32} (hnn : FN32) (hs : UB x 6) (hm : MNY M) (h0 : ¬ M 127 5 = 0) : vf_n32 (FP.fdiv (FP.i2f x) (FP.i2f (M 127 5))) := by
  obtain ⟨a, ha, rfl⟩ := hs
  obtain ⟨c, hc, ec⟩ := hm
  rw [ec]
  exact hnn a c ha (Nat.pos_of_ne_zero (fun h => h0 (by rw [ec, h]; rfl))) hc
theorem ub_plus {x y : Int32} {A B L : Nat} (hx : UB x A) (hy : UB y B) (h : A + B ≤ L) : UB (x + y) L := by
  obtain ⟨a, ha, rfl⟩ := hx
  obtain ⟨c, hc, rfl⟩ := hy
  exact ⟨a + c, by omega, nI_add _ _⟩
theorem us_ub : ∀ (k : Nat) (M : Mem) (v : Int32) (j : Nat), MNY M → UB v j → j ≤ 6 → UB (LX8_usable_4f k M v j) 6 := by
  intro k
  induction k with
  | zero => intro M v j hm hv hj; exact ⟨0, by decide, rfl⟩
  | succ k ih =>
    intro M v j hm hv hj
    rw [LX8_usable_4f]
    split
    · exact hv.mono hj
    · rename_i hc
      have hj6 := ub_lt hm hj hc
      split
      · exact ih _ _ _ hm (ub_plus hv ⟨1, Nat.le_refl _, rfl⟩ (Nat.le_refl _)) (by omega)
      · exact ih _ _ _ hm (hv.mono (by omega)) (by omega)
theorem usable_6 {M : Mem} (hm : MNY M) : UB (fX8_usable M) 6 := us_ub 7 M 0 0 hm ⟨0, by decide, rfl⟩ (by decide)
def LX8_meanReading_20f  : Nat → Mem → Int32 → Nat → UInt64
  | 0, _, _, _ => 0
  | k + 1, M, v, j => if (M 127 5) ≤ (nI (j)) then (FP.ddiv (FP.i2d v) (FP.i2d (M 127 5))) else (LX8_meanReading_20f k M (v + (fX8_reading M j)) (j + 1))
def LX8_meanReading_20g  : Nat → Mem → Int32 → Nat → Mem
  | 0, M, _, _ => M
  | k + 1, M, v, j => if (M 127 5) ≤ (nI (j)) then M else (LX8_meanReading_20g k M (v + (fX8_reading M j)) (j + 1))
set_option maxHeartbeats 4000000 in
set_option maxRecDepth 100000 in
theorem cl_X8_meanReading_20 (l : Launch) (D : va_G) (cy : Nat → ClassId) (b n : Nat) (hn : 133 ≤ n)  (hnn : FN64) {p : Program} {e : Env} {s : State} {m : MethodId} {args : Array Value} {below : List Frame} {meth : Method} {c : Code} (hx : p.tables.exec = Jvm.exec) (hb : c.code = cX8_meanReading) (hr : meth.sig.returnType = (some .double)) (hlocks : meth.locks = false) (hml : c.maxLocals = 3) (hown : s.vm.findClass RX8 = some m.cls) (hts : ∀ w ∈ wsX8_meanReading, w.before args s = true) (hK : va_K D vwCl (tysW cy) s) (hX : SX b s)  : ∀ (k : Nat) (M : Mem) (v : Int32) (j : Nat) (H : Heap) (locs : List Loc) (ls : Array Slot), MNY M → BXS M → TMP M → UB v (100 * j) → ¬ M 127 5 = 0 → j ≤ 6 → 7 ≤ j + k → va_P D vwCl (wL cy b fT M n) H → va_S (fr b) s.heap H locs → lv_has ls 3 [(0, .ref (b + 124)), (1, .int v), (2, .int (nI (j)))] → W p l e (headSpec wsX8_meanReading ({ frames := 6, cells := 0, slots := 0, locals := 126 } : Room)).room s m args below meth c H locs 0 0 (MQ below (CQd D cy b n fT (LX8_meanReading_20f k M v j) (LX8_meanReading_20g k M v j)) args s 0 0 (fr b)) (F0 m 20 ls []) := by
  have lk0 := hts (.fieldLink RX8 16 "HygrometerRoomModel" "now" "[I") (by decide +kernel)
  have inc8 : ∀ w ∈ u_ws RX8 TX8 22, w ∈ wsX8_meanReading := by decide +kernel
  intro k
  induction k with
  | zero => intro M v j H locs ls hmy hbx htp hs hn0 hj hk hP hS hl; omega
  | succ k ih =>
    intro M v j H locs ls hmy hbx htp hs hn0 hj hk hP hS hl
    refine lv_iload_n hx hb dX8_meanReading_20 rfl (lv_at hl 2 rfl) ?_
    refine lv_aload_n hx hb dX8_meanReading_21 rfl (lv_at hl 0 rfl) ?_
    refine xg (C := RX8) (T := TX8) (N := 22) (v := .ref (b + 127)) hx hb hts inc8 hown hK hP (by omega) (cell8 (by decide)) rfl 3 (by decide) lk0 (fun _ h => h) rfl dX8_meanReading_22 ?_
    refine lv_iconst (v := 5) hx hb dX8_meanReading_25 (by decide) ?_
    refine xil (j := 5) hx hb hK hP (by omega) (by decide) (ixIn (a := 5) rfl (by first | decide | (simp only [lenOf]; omega) | omega) (by decide)) rfl dX8_meanReading_26 ?_
    refine lv_icmp_ge (tgt := 44) hx hb dX8_meanReading_27 (by decide) (fun c27 => ?_) (fun c27 => ?_)
    · refine lv_iload_n hx hb dX8_meanReading_44 rfl (lv_at hl 1 rfl) ?_
      refine lv_i2d hx hb dX8_meanReading_45 ?_
      refine lv_aload_n hx hb dX8_meanReading_46 rfl (lv_at hl 0 rfl) ?_
      refine xg (C := RX8) (T := TX8) (N := 22) (v := .ref (b + 127)) hx hb hts inc8 hown hK hP (by omega) (cell8 (by decide)) rfl 3 (by decide) lk0 (fun _ h => h) rfl dX8_meanReading_47 ?_
      refine lv_iconst (v := 5) hx hb dX8_meanReading_50 (by decide) ?_
      refine xil (j := 5) hx hb hK hP (by omega) (by decide) (ixIn (a := 5) rfl (by first | decide | (simp only [lenOf]; omega) | omega) (by decide)) rfl dX8_meanReading_51 ?_
      refine lv_i2d hx hb dX8_meanReading_52 ?_
      refine lv_ddiv hx hb dX8_meanReading_53 (mean_nn hnn (hs.mono (by omega)) hmy hn0) ?_
      exact xe_d hx hb hr hlocks hP hS rfl (by rw [LX8_meanReading_20g, if_pos c27] <;> rfl) (by rw [LX8_meanReading_20f, if_pos c27] <;> rfl) (Nat.le_of_ble_eq_true rfl) (Nat.le_of_ble_eq_true rfl) dX8_meanReading_54
    · have hj6 := ub_lt hmy hj c27
      refine lv_iload_n hx hb dX8_meanReading_30 rfl (lv_at hl 1 rfl) ?_
      refine lv_aload_n hx hb dX8_meanReading_31 rfl (lv_at hl 0 rfl) ?_
      refine lv_iload_n hx hb dX8_meanReading_32 rfl (lv_at hl 2 rfl) ?_
      refine xc_i (va_runV (As := [.int (nI (j))]) (rest := [.int v]) ⟨hx, hb, hml, hown, hts⟩ (c_X8_reading l D cy b n hn M j (by omega) hbx htp) (cwV 1 hts gX8_meanReading_X8_reading rfl rfl rfl (by decide +kernel) ⟨Nat.le_of_ble_eq_true rfl, Nat.le_of_ble_eq_true rfl⟩) (xPreV hP hK hX hS (by omega) (cell8 (by decide)) rfl) rfl rfl hl.1 rfl (lv_room (Nat.le_of_ble_eq_true rfl)) dX8_meanReading_33 ⟨Nat.le_of_ble_eq_true rfl, Nat.le_of_ble_eq_true rfl⟩) hS (fun H locs hP hS => ?_)
      refine lv_iadd hx hb dX8_meanReading_36 ?_
      refine lv_istore_n (lv' := [(1, .int (v + (fX8_reading M j))), (0, .ref (b + 124)), (2, .int (nI (j)))]) hx hb dX8_meanReading_37 rfl hl (by decide) rfl (fun ls hl => ?_)
      refine lv_iinc (v := nI (j + 1)) (lv' := [(2, .int (nI (j + 1))), (1, .int (v + (fX8_reading M j))), (0, .ref (b + 124))]) hx hb dX8_meanReading_38 hl (k := 2) rfl (ixAdd (a := j) (c := 1) (d := j + 1) rfl rfl (by omega)) (by decide) rfl (fun ls hl => ?_)
      refine lv_goto (tgt := 20) hx hb dX8_meanReading_41 (by decide) ?_
      rw [show LX8_meanReading_20f (k + 1) M v j = LX8_meanReading_20f k M (v + (fX8_reading M j)) (j + 1) from (by rw [LX8_meanReading_20f, if_neg c27]), show LX8_meanReading_20g (k + 1) M v j = LX8_meanReading_20g k M (v + (fX8_reading M j)) (j + 1) from (by rw [LX8_meanReading_20g, if_neg c27])]
      exact ih M (v + (fX8_reading M j)) (j + 1) H locs ls hmy hbx htp (ub_plus hs (rd8_100 M j) (by omega)) hn0 (by omega) (by omega) hP hS (lv_sub hl [2, 1, 0] rfl)

def fX8_meanReading (M : Mem) : UInt64 := if ((mU M 124 2 (0 : Int32)) 127 5) = 0 then FP.dconst0 else (LX8_meanReading_20f 7 (mU M 124 2 (0 : Int32)) (0 : Int32) 0)
def gX8_meanReading (M : Mem) : Mem := if ((mU M 124 2 (0 : Int32)) 127 5) = 0 then (mU M 124 2 (0 : Int32)) else (LX8_meanReading_20g 7 (mU M 124 2 (0 : Int32)) (0 : Int32) 0)
set_option maxHeartbeats 4000000 in
set_option maxRecDepth 100000 in
theorem c_X8_meanReading (l : Launch) (D : va_G) (cy : Nat → ClassId) (b n : Nat) (hn : 133 ≤ n) (M : Mem)  (hmy : MNY M) (hbx : BXS M) (htp : TMP M) (hnn : FN64) : Met l yX8_meanReading wsX8_meanReading ({ frames := 6, cells := 0, slots := 0, locals := 126 } : Room) (CP D cy b n fT M [.ref (b + 124)]) (CQd D cy b n fT (fX8_meanReading M) (gX8_meanReading M)) 0 0 (fr b) := by
  refine Met.ofW (cc := cX8_meanReading) (maxL := 3) (ret := (some .double)) (by decide) rfl ?_
  intro p e s m args below meth c s₁ B hml hv
  obtain ⟨rfl, hP, hK, hX⟩ := hv
  have hx := B.exec
  have hb := B.bytes
  have hr := B.returns
  have hts := atoms_spec (ws := wsX8_meanReading) B.pre
  have hown : s.vm.findClass RX8 = some m.cls := findClass_of_methodNamed B.named
  have hlocks := B.notSynchronized
  have lk0 := hts (.fieldLink RX8 53 "HygrometerRoomModel" "thrown" "I") (by decide +kernel)
  have lk1 := hts (.fieldLink RX8 16 "HygrometerRoomModel" "now" "[I") (by decide +kernel)
  have inc8 : ∀ w ∈ u_ws RX8 TX8 22, w ∈ wsX8_meanReading := by decide +kernel
  have hS : va_S (fr b) s.heap s.heap [] := va_S.rf
  have hl := lv_entry ([.ref (b + 124)]) (n := 3) (Nat.le_of_ble_eq_true rfl)
  rw [lg_entry_eq]
  generalize (lg_sl ([.ref (b + 124)]) ++ List.replicate (3 - (lg_sl ([.ref (b + 124)])).length) Slot.unset).toArray = ls at hl ⊢
  have hl : lv_has ls 3 [(0, .ref (b + 124))] := hl
  refine lv_aload_n hx hb dX8_meanReading_0 rfl (lv_at hl 0 rfl) ?_
  refine lv_iconst (v := 0) hx hb dX8_meanReading_1 (by decide) ?_
  refine xp (C := RX8) (T := TX8) (N := 22) (ci := 8) (ty := .int) (x := (0 : Int32)) hx hb hts inc8 tyX8 tyX8_ok nmX8 hown hK hP hS (by omega) (fun _ => cell8 (by decide)) rfl 2 (by decide) rfl lk0 (fun _ h => h) rfl (tyX8_ok 2 (by decide)) rfl rfl (Nat.le_of_ble_eq_true rfl) dX8_meanReading_2 (fun H locs hP hS => ?_)
  refine lv_aload_n hx hb dX8_meanReading_5 rfl (lv_at hl 0 rfl) ?_
  refine xg (C := RX8) (T := TX8) (N := 22) (v := .ref (b + 127)) hx hb hts inc8 hown hK hP (by omega) (cell8 (by decide)) rfl 3 (by decide) lk1 (fun _ h => h) rfl dX8_meanReading_6 ?_
  refine lv_iconst (v := 5) hx hb dX8_meanReading_9 (by decide) ?_
  refine xil (j := 5) hx hb hK hP (by omega) (by decide) (ixIn (a := 5) rfl (by first | decide | (simp only [lenOf]; omega) | omega) (by decide)) rfl dX8_meanReading_10 ?_
  refine lv_if_ne (tgt := 16) hx hb dX8_meanReading_11 (by decide) (fun c11 => ?_) (fun c11 => ?_)
  · refine lv_iconst (v := 0) hx hb dX8_meanReading_16 (by decide) ?_
    refine lv_istore_n (lv' := [(1, .int (0 : Int32)), (0, .ref (b + 124))]) hx hb dX8_meanReading_17 rfl hl (by decide) rfl (fun ls hl => ?_)
    refine lv_iconst (v := 0) hx hb dX8_meanReading_18 (by decide) ?_
    refine lv_istore_n (lv' := [(2, .int (0 : Int32)), (1, .int (0 : Int32)), (0, .ref (b + 124))]) hx hb dX8_meanReading_19 rfl hl (by decide) rfl (fun ls hl => ?_)
    rw [show fX8_meanReading M = LX8_meanReading_20f 7 (mU M 124 2 (0 : Int32)) (0 : Int32) 0 from (by rw [fX8_meanReading, if_neg c11]), show gX8_meanReading M = LX8_meanReading_20g 7 (mU M 124 2 (0 : Int32)) (0 : Int32) 0 from (by rw [gX8_meanReading, if_neg c11])]
    exact cl_X8_meanReading_20 l D cy b n hn hnn hx hb hr hlocks hml hown hts hK hX 7 (mU M 124 2 (0 : Int32)) (0 : Int32) 0 H locs ls (mny_r (mU_ne _ _ _ (by decide)) hmy) (bxs_r (mU_ne _ _ _ (by decide)) hbx) (tmp_r (mU_ne _ _ _ (by decide)) htp) ⟨0, by decide, rfl⟩ c11 (by omega) (by omega) hP hS (lv_sub hl [2, 1, 0] rfl)
  · refine lv_dconst0 hx hb dX8_meanReading_14 ?_
    exact xe_d hx hb hr hlocks hP hS rfl (by rw [gX8_meanReading, if_pos c11] <;> rfl) (by rw [fX8_meanReading, if_pos c11] <;> rfl) (Nat.le_of_ble_eq_true rfl) (Nat.le_of_ble_eq_true rfl) dX8_meanReading_15
def fX8_usableShare (M : Mem) : UInt32 := if ((mU M 124 2 (0 : Int32)) 127 5) = 0 then FP.fconst0 else (FP.fdiv (FP.i2f (fX8_usable (mU M 124 2 (0 : Int32)))) (FP.i2f ((mU M 124 2 (0 : Int32)) 127 5)))
def gX8_usableShare (M : Mem) : Mem := if ((mU M 124 2 (0 : Int32)) 127 5) = 0 then (mU M 124 2 (0 : Int32)) else (mU M 124 2 (0 : Int32))
set_option maxHeartbeats 4000000 in
set_option maxRecDepth 100000 in
theorem c_X8_usableShare (l : Launch) (D : va_G) (cy : Nat → ClassId) (b n : Nat) (hn : 133 ≤ n) (M : Mem)  (hmy : MNY M) (hnn : FN32) : Met l yX8_usableShare wsX8_usableShare ({ frames := 4, cells := 0, slots := 0, locals := 85 } : Room) (CP D cy b n fT M [.ref (b + 124)]) (CQf D cy b n fT (fX8_usableShare M) (gX8_usableShare M)) 0 0 (fr b) := by
  refine Met.ofW (cc := cX8_usableShare) (maxL := 1) (ret := (some .float)) (by decide) rfl ?_
  intro p e s m args below meth c s₁ B hml hv
  obtain ⟨rfl, hP, hK, hX⟩ := hv
  have hx := B.exec
  have hb := B.bytes
  have hr := B.returns
  have hts := atoms_spec (ws := wsX8_usableShare) B.pre
  have hown : s.vm.findClass RX8 = some m.cls := findClass_of_methodNamed B.named
  have hlocks := B.notSynchronized
  have lk0 := hts (.fieldLink RX8 53 "HygrometerRoomModel" "thrown" "I") (by decide +kernel)
  have lk1 := hts (.fieldLink RX8 16 "HygrometerRoomModel" "now" "[I") (by decide +kernel)
  have inc8 : ∀ w ∈ u_ws RX8 TX8 22, w ∈ wsX8_usableShare := by decide +kernel
  have hS : va_S (fr b) s.heap s.heap [] := va_S.rf
  have hl := lv_entry ([.ref (b + 124)]) (n := 1) (Nat.le_of_ble_eq_true rfl)
  rw [lg_entry_eq]
  generalize (lg_sl ([.ref (b + 124)]) ++ List.replicate (1 - (lg_sl ([.ref (b + 124)])).length) Slot.unset).toArray = ls at hl ⊢
  have hl : lv_has ls 1 [(0, .ref (b + 124))] := hl
  refine lv_aload_n hx hb dX8_usableShare_0 rfl (lv_at hl 0 rfl) ?_
  refine lv_iconst (v := 0) hx hb dX8_usableShare_1 (by decide) ?_
  refine xp (C := RX8) (T := TX8) (N := 22) (ci := 8) (ty := .int) (x := (0 : Int32)) hx hb hts inc8 tyX8 tyX8_ok nmX8 hown hK hP hS (by omega) (fun _ => cell8 (by decide)) rfl 2 (by decide) rfl lk0 (fun _ h => h) rfl (tyX8_ok 2 (by decide)) rfl rfl (Nat.le_of_ble_eq_true rfl) dX8_usableShare_2 (fun H locs hP hS => ?_)
  refine lv_aload_n hx hb dX8_usableShare_5 rfl (lv_at hl 0 rfl) ?_
  refine xg (C := RX8) (T := TX8) (N := 22) (v := .ref (b + 127)) hx hb hts inc8 hown hK hP (by omega) (cell8 (by decide)) rfl 3 (by decide) lk1 (fun _ h => h) rfl dX8_usableShare_6 ?_
  refine lv_iconst (v := 5) hx hb dX8_usableShare_9 (by decide) ?_
  refine xil (j := 5) hx hb hK hP (by omega) (by decide) (ixIn (a := 5) rfl (by first | decide | (simp only [lenOf]; omega) | omega) (by decide)) rfl dX8_usableShare_10 ?_
  refine lv_if_ne (tgt := 16) hx hb dX8_usableShare_11 (by decide) (fun c11 => ?_) (fun c11 => ?_)
  · refine lv_aload_n hx hb dX8_usableShare_16 rfl (lv_at hl 0 rfl) ?_
    refine xc_i (va_runV (As := []) (rest := []) ⟨hx, hb, hml, hown, hts⟩ (c_X8_usable l D cy b n hn (mU M 124 2 (0 : Int32)) (mny_r (mU_ne _ _ _ (by decide)) hmy)) (cwV 0 hts gX8_usableShare_X8_usable rfl rfl rfl (by decide +kernel) ⟨Nat.le_of_ble_eq_true rfl, Nat.le_of_ble_eq_true rfl⟩) (xPreV hP hK hX hS (by omega) (cell8 (by decide)) rfl) rfl rfl hl.1 rfl (lv_room (Nat.le_of_ble_eq_true rfl)) dX8_usableShare_17 ⟨Nat.le_of_ble_eq_true rfl, Nat.le_of_ble_eq_true rfl⟩) hS (fun H locs hP hS => ?_)
    refine lv_i2f hx hb dX8_usableShare_20 ?_
    refine lv_aload_n hx hb dX8_usableShare_21 rfl (lv_at hl 0 rfl) ?_
    refine xg (C := RX8) (T := TX8) (N := 22) (v := .ref (b + 127)) hx hb hts inc8 hown hK hP (by omega) (cell8 (by decide)) rfl 3 (by decide) lk1 (fun _ h => h) rfl dX8_usableShare_22 ?_
    refine lv_iconst (v := 5) hx hb dX8_usableShare_25 (by decide) ?_
    refine xil (j := 5) hx hb hK hP (by omega) (by decide) (ixIn (a := 5) rfl (by first | decide | (simp only [lenOf]; omega) | omega) (by decide)) rfl dX8_usableShare_26 ?_
    refine lv_i2f hx hb dX8_usableShare_27 ?_
    refine lv_fdiv hx hb dX8_usableShare_28 (share_nn (M := mU M 124 2 0) hnn (usable_6 (mny_r (mU_ne _ _ _ (by decide)) hmy)) (mny_r (mU_ne _ _ _ (by decide)) hmy) c11) ?_
    exact xe_f hx hb hr hlocks hP hS rfl (by rw [gX8_usableShare, if_neg c11] <;> rfl) (by rw [fX8_usableShare, if_neg c11] <;> rfl) (Nat.le_of_ble_eq_true rfl) (Nat.le_of_ble_eq_true rfl) dX8_usableShare_29
  · refine lv_fconst0 hx hb dX8_usableShare_14 ?_
    exact xe_f hx hb hr hlocks hP hS rfl (by rw [gX8_usableShare, if_pos c11] <;> rfl) (by rw [fX8_usableShare, if_pos c11] <;> rfl) (Nat.le_of_ble_eq_true rfl) (Nat.le_of_ble_eq_true rfl) dX8_usableShare_15
