/-! the output, the tokens -/
def OUT (M : Mem) : Prop := UB (M 121 1) 24
theorem ub_succ {x : Int32} {N : Nat} (h : UB x N) (hc : ¬ nI N ≤ x) (hN : N < 2 ^ 31 := by decide) : UB (x + 1) N := by
  obtain ⟨k, hk, rfl⟩ := h
  rw [nI_leI (by omega) (by omega)] at hc
  exact ⟨k + 1, by omega, nI_1 k⟩
/-- the tokens: how much is filled, how much is parsed, where -/
def TF (M : Mem) : Prop := UB (M 10 1) 600
def TL (M : Mem) : Prop := UB (M 10 2) 600 ∧ UB (M 10 4) 600
def shv (k : Nat) : Int32 := match k with
  | 5 => 24
  | 4 => 16
  | 3 => 8
  | 2 => 0
  | _ => -8
theorem shv_step {k : Nat} {v : Int32} (hv : v = shv (k + 1)) (h5 : k + 1 ≤ 5) (h : ¬ v < 0) : v + (-8) = shv k ∧ 1 ≤ k := by
  subst hv
  rcases (show k = 0 ∨ k = 1 ∨ k = 2 ∨ k = 3 ∨ k = 4 by omega) with rfl | rfl | rfl | rfl | rfl
  · exact absurd (by decide) h
  all_goals exact ⟨by decide, by decide⟩
theorem tf_step {M : Mem} {j : Nat} {v : Int32} (h : TF M) (hc : ¬ nI 600 ≤ M 10 1) : TF (mU (mU M 11 j v) 10 1 ((mU M 11 j v) 10 1 + 1)) := by
  unfold TF
  rw [mU_at]
  exact ub_succ h hc
def LX6_put_3g (x : Int32) : Nat → Mem → Int32 → Mem
  | 0, M, _ => M
  | k + 1, M, v => if v < 0 then M else (if (600 : Int32) ≤ (M 10 1) then M else (LX6_put_3g x k (mU (mU M 11 ((M 10 1).toNatClampNeg) (((x >>> (v &&& 31)).toInt8.toInt32).toInt8.toInt32)) 10 1 (((mU M 11 ((M 10 1).toNatClampNeg) (((x >>> (v &&& 31)).toInt8.toInt32).toInt8.toInt32)) 10 1) + (1 : Int32))) (v + (-8))))
set_option maxHeartbeats 4000000 in
set_option maxRecDepth 100000 in
theorem cl_X6_put_3 (l : Launch) (D : va_G) (cy : Nat → ClassId) (b n : Nat) (hn : 124 ≤ n) (x : Int32)  {p : Program} {e : Env} {s : State} {m : MethodId} {args : Array Value} {below : List Frame} {meth : Method} {c : Code} (hx : p.tables.exec = Jvm.exec) (hb : c.code = cX6_put) (hr : meth.sig.returnType = none) (hlocks : meth.locks = false) (hml : c.maxLocals = 3) (hown : s.vm.findClass RX6 = some m.cls) (hts : ∀ w ∈ wsX6_put, w.before args s = true) (hK : va_K D vwCl (tysW cy) s) (hX : SX b s)  : ∀ (k : Nat) (M : Mem) (v : Int32) (H : Heap) (locs : List Loc) (ls : Array Slot), TF M → v = shv k → 1 ≤ k → k ≤ 5 → va_P D vwCl (wL cy b fT M n) H → va_S (fr b) s.heap H locs → lv_has ls 3 [(0, .ref (b + 10)), (1, .int x), (2, .int v)] → W p l e (headSpec wsX6_put ({ frames := 0, cells := 0, slots := 0, locals := 0 } : Room)).room s m args below meth c H locs 0 0 (MQ below (CQv D cy b n fT (LX6_put_3g x k M v)) args s 0 0 (fr b)) (F0 m 3 ls []) := by
  have lk0 := hts (.fieldLink RX6 15 "HygrometerRoom$Tokens" "filled" "I") (by decide +kernel)
  have lk1 := hts (.fieldLink RX6 9 "HygrometerRoom$Tokens" "bytes" "[B") (by decide +kernel)
  have inc6 : ∀ w ∈ u_ws RX6 TX6 6, w ∈ wsX6_put := by decide +kernel
  intro k
  induction k with
  | zero => intro M v H locs ls htf hv h1 h5 hP hS hl; omega
  | succ k ih =>
    intro M v H locs ls htf hv h1 h5 hP hS hl
    refine lv_iload_n hx hb dX6_put_3 rfl (lv_at hl 2 rfl) ?_
    refine lv_if_lt (tgt := 48) hx hb dX6_put_4 (by decide) (fun c4 => ?_) (fun c4 => ?_)
    · exact xe_v hx hb hr hlocks hP hS rfl (by rw [LX6_put_3g, if_pos c4] <;> rfl) (Nat.le_of_ble_eq_true rfl) (Nat.le_of_ble_eq_true rfl) dX6_put_48
    · refine lv_aload_n hx hb dX6_put_7 rfl (lv_at hl 0 rfl) ?_
      refine xg (C := RX6) (T := TX6) (N := 6) (v := .int (M 10 1)) hx hb hts inc6 hown hK hP (by omega) (cell6 (by decide)) rfl 1 (by decide) lk0 (fun _ h => h) rfl dX6_put_8 ?_
      refine lv_aload_n hx hb dX6_put_11 rfl (lv_at hl 0 rfl) ?_
      refine xg (C := RX6) (T := TX6) (N := 6) (v := .ref (b + 11)) hx hb hts inc6 hown hK hP (by omega) (cell6 (by decide)) rfl 0 (by decide) lk1 (fun _ h => h) rfl dX6_put_12 ?_
      refine xlen (v := 600) hx hb hK hP (by omega) 0 (cell10 (by decide)) rfl rfl dX6_put_15 ?_
      refine lv_icmp_ge (tgt := 48) hx hb dX6_put_16 (by decide) (fun c16 => ?_) (fun c16 => ?_)
      · exact xe_v hx hb hr hlocks hP hS rfl (by rw [LX6_put_3g, if_neg c4, if_pos c16] <;> rfl) (Nat.le_of_ble_eq_true rfl) (Nat.le_of_ble_eq_true rfl) dX6_put_48
      · refine lv_aload_n hx hb dX6_put_19 rfl (lv_at hl 0 rfl) ?_
        refine xg (C := RX6) (T := TX6) (N := 6) (v := .ref (b + 11)) hx hb hts inc6 hown hK hP (by omega) (cell6 (by decide)) rfl 0 (by decide) lk1 (fun _ h => h) rfl dX6_put_20 ?_
        refine lv_aload_n hx hb dX6_put_23 rfl (lv_at hl 0 rfl) ?_
        refine xg (C := RX6) (T := TX6) (N := 6) (v := .int (M 10 1)) hx hb hts inc6 hown hK hP (by omega) (cell6 (by decide)) rfl 1 (by decide) lk0 (fun _ h => h) rfl dX6_put_24 ?_
        refine lv_iload_n hx hb dX6_put_27 rfl (lv_at hl 1 rfl) ?_
        refine lv_iload_n hx hb dX6_put_28 rfl (lv_at hl 2 rfl) ?_
        refine lv_ishr hx hb dX6_put_29 ?_
        refine lv_i2b hx hb dX6_put_30 rfl ?_
        refine xbs (j := (M 10 1).toNatClampNeg) (x := (x >>> (v &&& 31)).toInt8.toInt32) hx hb hK hP hS (by omega) (by decide) (vin_cl (ub_ge htf) (ub_cl (N := 600) htf c16)) rfl dX6_put_31 (fun H locs hP hS => ?_)
        refine lv_aload_n hx hb dX6_put_32 rfl (lv_at hl 0 rfl) ?_
        refine lv_dup hx hb dX6_put_33 rfl ?_
        refine xg (C := RX6) (T := TX6) (N := 6) (v := .int ((mU M 11 ((M 10 1).toNatClampNeg) (((x >>> (v &&& 31)).toInt8.toInt32).toInt8.toInt32)) 10 1)) hx hb hts inc6 hown hK hP (by omega) (cell6 (by decide)) rfl 1 (by decide) lk0 (fun _ h => h) rfl dX6_put_34 ?_
        refine lv_iconst (v := 1) hx hb dX6_put_37 (by decide) ?_
        refine lv_iadd hx hb dX6_put_38 ?_
        refine xp (C := RX6) (T := TX6) (N := 6) (ci := 6) (ty := .int) (x := ((mU M 11 ((M 10 1).toNatClampNeg) (((x >>> (v &&& 31)).toInt8.toInt32).toInt8.toInt32)) 10 1) + (1 : Int32)) hx hb hts inc6 tyX6 tyX6_ok nmX6 hown hK hP hS (by omega) (fun _ => cell6 (by decide)) rfl 1 (by decide) rfl lk0 (fun _ h => h) rfl (tyX6_ok 1 (by decide)) rfl rfl (Nat.le_of_ble_eq_true rfl) dX6_put_39 (fun H locs hP hS => ?_)
        refine lv_iinc (v := v + (-8)) (lv' := [(2, .int (v + (-8))), (0, .ref (b + 10)), (1, .int x)]) hx hb dX6_put_42 hl (k := 2) rfl rfl (by decide) rfl (fun ls hl => ?_)
        refine lv_goto (tgt := 3) hx hb dX6_put_45 (by decide) ?_
        rw [show LX6_put_3g x (k + 1) M v = LX6_put_3g x k (mU (mU M 11 ((M 10 1).toNatClampNeg) (((x >>> (v &&& 31)).toInt8.toInt32).toInt8.toInt32)) 10 1 (((mU M 11 ((M 10 1).toNatClampNeg) (((x >>> (v &&& 31)).toInt8.toInt32).toInt8.toInt32)) 10 1) + (1 : Int32))) (v + (-8)) from (by rw [LX6_put_3g, if_neg c4, if_neg c16])]
        exact ih (mU (mU M 11 ((M 10 1).toNatClampNeg) (((x >>> (v &&& 31)).toInt8.toInt32).toInt8.toInt32)) 10 1 (((mU M 11 ((M 10 1).toNatClampNeg) (((x >>> (v &&& 31)).toInt8.toInt32).toInt8.toInt32)) 10 1) + (1 : Int32))) (v + (-8)) H locs ls (tf_step htf c16) (shv_step hv h5 c4).1 (shv_step hv h5 c4).2 (by omega) hP hS (lv_sub hl [1, 2, 0] rfl)

def gX6_put (M : Mem) (x : Int32) : Mem := LX6_put_3g x 5 M (24 : Int32)
set_option maxHeartbeats 4000000 in
set_option maxRecDepth 100000 in
theorem c_X6_put (l : Launch) (D : va_G) (cy : Nat → ClassId) (b n : Nat) (hn : 124 ≤ n) (M : Mem) (x : Int32) (htf : TF M) : Met l yX6_put wsX6_put ({ frames := 0, cells := 0, slots := 0, locals := 0 } : Room) (CP D cy b n fT M [.ref (b + 10), .int x]) (CQv D cy b n fT (gX6_put M x)) 0 0 (fr b) := by
  refine Met.ofW (cc := cX6_put) (maxL := 3) (ret := none) (by decide) rfl ?_
  intro p e s m args below meth c s₁ B hml hv
  obtain ⟨rfl, hP, hK, hX⟩ := hv
  have hx := B.exec
  have hb := B.bytes
  have hr := B.returns
  have hts := atoms_spec (ws := wsX6_put) B.pre
  have hown : s.vm.findClass RX6 = some m.cls := findClass_of_methodNamed B.named
  have hlocks := B.notSynchronized
  have hS : va_S (fr b) s.heap s.heap [] := va_S.rf
  have hl := lv_entry ([.ref (b + 10), .int x]) (n := 3) (Nat.le_of_ble_eq_true rfl)
  rw [lg_entry_eq]
  generalize (lg_sl ([.ref (b + 10), .int x]) ++ List.replicate (3 - (lg_sl ([.ref (b + 10), .int x])).length) Slot.unset).toArray = ls at hl ⊢
  have hl : lv_has ls 3 [(0, .ref (b + 10)), (1, .int x)] := hl
  refine lv_bipush (v := 24) hx hb dX6_put_0 (by decide) ?_
  refine lv_istore_n (lv' := [(2, .int (24 : Int32)), (0, .ref (b + 10)), (1, .int x)]) hx hb dX6_put_2 rfl hl (by decide) rfl (fun ls hl => ?_)
  rw [show gX6_put M x = LX6_put_3g x 5 M (24 : Int32) from (by rw [gX6_put])]
  exact cl_X6_put_3 l D cy b n hn x hx hb hr hlocks hml hown hts hK hX 5 M (24 : Int32) s.heap [] ls htf rfl (by decide) (by decide) hP hS (lv_sub hl [1, 2, 0] rfl)
def gX6_begin (M : Mem) (x : Int32) : Mem := mU (mU (mU (mU M 10 2 (xmin x (M 10 1))) 10 3 (0 : Int32)) 10 4 (0 : Int32)) 10 5 (0 : Int32)
set_option maxHeartbeats 4000000 in
set_option maxRecDepth 100000 in
theorem c_X6_begin (l : Launch) (D : va_G) (cy : Nat → ClassId) (b n : Nat) (hn : 124 ≤ n) (M : Mem) (x : Int32)  : Met l yX6_begin wsX6_begin ({ frames := 1, cells := 0, slots := 0, locals := 21 } : Room) (CP D cy b n fT M [.ref (b + 10), .int x]) (CQv D cy b n fT (gX6_begin M x)) 0 0 (fr b) := by
  refine Met.ofW (cc := cX6_begin) (maxL := 2) (ret := none) (by decide) rfl ?_
  intro p e s m args below meth c s₁ B hml hv
  obtain ⟨rfl, hP, hK, hX⟩ := hv
  have hx := B.exec
  have hb := B.bytes
  have hr := B.returns
  have hts := atoms_spec (ws := wsX6_begin) B.pre
  have hown : s.vm.findClass RX6 = some m.cls := findClass_of_methodNamed B.named
  have hlocks := B.notSynchronized
  have lk0 := hts (.fieldLink RX6 15 "HygrometerRoom$Tokens" "filled" "I") (by decide +kernel)
  have lk1 := hts (.methodLink RX6 19 Lib.Math.min.name) (by decide +kernel)
  have lk2 := hts (.static Lib.Math.min.name) (by decide +kernel)
  have lk3 := hts (.initialized "java/lang/Math") (by decide +kernel)
  have lk4 := hts (.code Lib.Math.min.name Lib.Math.min.code 2 (some .int)) (by decide +kernel)
  have lk5 := hts (.fieldLink RX6 25 "HygrometerRoom$Tokens" "length" "I") (by decide +kernel)
  have lk6 := hts (.fieldLink RX6 28 "HygrometerRoom$Tokens" "start" "I") (by decide +kernel)
  have lk7 := hts (.fieldLink RX6 31 "HygrometerRoom$Tokens" "end" "I") (by decide +kernel)
  have lk8 := hts (.fieldLink RX6 34 "HygrometerRoom$Tokens" "kind" "I") (by decide +kernel)
  have inc6 : ∀ w ∈ u_ws RX6 TX6 6, w ∈ wsX6_begin := by decide +kernel
  have hS : va_S (fr b) s.heap s.heap [] := va_S.rf
  have hl := lv_entry ([.ref (b + 10), .int x]) (n := 2) (Nat.le_of_ble_eq_true rfl)
  rw [lg_entry_eq]
  generalize (lg_sl ([.ref (b + 10), .int x]) ++ List.replicate (2 - (lg_sl ([.ref (b + 10), .int x])).length) Slot.unset).toArray = ls at hl ⊢
  have hl : lv_has ls 2 [(0, .ref (b + 10)), (1, .int x)] := hl
  refine lv_aload_n hx hb dX6_begin_0 rfl (lv_at hl 0 rfl) ?_
  refine lv_iload_n hx hb dX6_begin_1 rfl (lv_at hl 1 rfl) ?_
  refine lv_aload_n hx hb dX6_begin_2 rfl (lv_at hl 0 rfl) ?_
  refine xg (C := RX6) (T := TX6) (N := 6) (v := .int (M 10 1)) hx hb hts inc6 hown hK hP (by omega) (cell6 (by decide)) rfl 1 (by decide) lk0 (fun _ h => h) rfl dX6_begin_3 ?_
  refine x_mmin hx hb (hml.trans hl.1.symm) hown lk1 lk2 lk3 lk4 (Nat.le_of_ble_eq_true rfl) (Nat.le_of_ble_eq_true rfl) (Nat.le_of_ble_eq_true rfl) (Nat.le_of_ble_eq_true rfl) dX6_begin_6 ?_
  refine xp (C := RX6) (T := TX6) (N := 6) (ci := 6) (ty := .int) (x := xmin x (M 10 1)) hx hb hts inc6 tyX6 tyX6_ok nmX6 hown hK hP hS (by omega) (fun _ => cell6 (by decide)) rfl 2 (by decide) rfl lk5 (fun _ h => h) rfl (tyX6_ok 2 (by decide)) rfl rfl (Nat.le_of_ble_eq_true rfl) dX6_begin_9 (fun H locs hP hS => ?_)
  refine lv_aload_n hx hb dX6_begin_12 rfl (lv_at hl 0 rfl) ?_
  refine lv_iconst (v := 0) hx hb dX6_begin_13 (by decide) ?_
  refine xp (C := RX6) (T := TX6) (N := 6) (ci := 6) (ty := .int) (x := (0 : Int32)) hx hb hts inc6 tyX6 tyX6_ok nmX6 hown hK hP hS (by omega) (fun _ => cell6 (by decide)) rfl 3 (by decide) rfl lk6 (fun _ h => h) rfl (tyX6_ok 3 (by decide)) rfl rfl (Nat.le_of_ble_eq_true rfl) dX6_begin_14 (fun H locs hP hS => ?_)
  refine lv_aload_n hx hb dX6_begin_17 rfl (lv_at hl 0 rfl) ?_
  refine lv_iconst (v := 0) hx hb dX6_begin_18 (by decide) ?_
  refine xp (C := RX6) (T := TX6) (N := 6) (ci := 6) (ty := .int) (x := (0 : Int32)) hx hb hts inc6 tyX6 tyX6_ok nmX6 hown hK hP hS (by omega) (fun _ => cell6 (by decide)) rfl 4 (by decide) rfl lk7 (fun _ h => h) rfl (tyX6_ok 4 (by decide)) rfl rfl (Nat.le_of_ble_eq_true rfl) dX6_begin_19 (fun H locs hP hS => ?_)
  refine lv_aload_n hx hb dX6_begin_22 rfl (lv_at hl 0 rfl) ?_
  refine lv_iconst (v := 0) hx hb dX6_begin_23 (by decide) ?_
  refine xp (C := RX6) (T := TX6) (N := 6) (ci := 6) (ty := .int) (x := (0 : Int32)) hx hb hts inc6 tyX6 tyX6_ok nmX6 hown hK hP hS (by omega) (fun _ => cell6 (by decide)) rfl 5 (by decide) rfl lk8 (fun _ h => h) rfl (tyX6_ok 5 (by decide)) rfl rfl (Nat.le_of_ble_eq_true rfl) dX6_begin_24 (fun H locs hP hS => ?_)
  exact xe_v hx hb hr hlocks hP hS rfl (by rw [gX6_begin] <;> rfl) (Nat.le_of_ble_eq_true rfl) (Nat.le_of_ble_eq_true rfl) dX6_begin_27
def fX6_isRun (M : Mem) : Int32 := if (M 10 5) = (1 : Int32) then (1 : Int32) else (if (M 10 5) = (2 : Int32) then (1 : Int32) else (0 : Int32))
set_option maxHeartbeats 4000000 in
set_option maxRecDepth 100000 in
theorem c_X6_isRun (l : Launch) (D : va_G) (cy : Nat → ClassId) (b n : Nat) (hn : 124 ≤ n) (M : Mem)   : Met l yX6_isRun wsX6_isRun ({ frames := 0, cells := 0, slots := 0, locals := 0 } : Room) (CP D cy b n fT M [.ref (b + 10)]) (CQi D cy b n fT (fX6_isRun M) M) 0 0 (fr b) := by
  refine Met.ofW (cc := cX6_isRun) (maxL := 1) (ret := (some .boolean)) (by decide) rfl ?_
  intro p e s m args below meth c s₁ B hml hv
  obtain ⟨rfl, hP, hK, hX⟩ := hv
  have hx := B.exec
  have hb := B.bytes
  have hr := B.returns
  have hts := atoms_spec (ws := wsX6_isRun) B.pre
  have hown : s.vm.findClass RX6 = some m.cls := findClass_of_methodNamed B.named
  have hlocks := B.notSynchronized
  have lk0 := hts (.fieldLink RX6 34 "HygrometerRoom$Tokens" "kind" "I") (by decide +kernel)
  have inc6 : ∀ w ∈ u_ws RX6 TX6 6, w ∈ wsX6_isRun := by decide +kernel
  have hS : va_S (fr b) s.heap s.heap [] := va_S.rf
  have hl := lv_entry ([.ref (b + 10)]) (n := 1) (Nat.le_of_ble_eq_true rfl)
  rw [lg_entry_eq]
  generalize (lg_sl ([.ref (b + 10)]) ++ List.replicate (1 - (lg_sl ([.ref (b + 10)])).length) Slot.unset).toArray = ls at hl ⊢
  have hl : lv_has ls 1 [(0, .ref (b + 10))] := hl
  refine lv_aload_n hx hb dX6_isRun_0 rfl (lv_at hl 0 rfl) ?_
  refine xg (C := RX6) (T := TX6) (N := 6) (v := .int (M 10 5)) hx hb hts inc6 hown hK hP (by omega) (cell6 (by decide)) rfl 5 (by decide) lk0 (fun _ h => h) rfl dX6_isRun_1 ?_
  refine lv_iconst (v := 1) hx hb dX6_isRun_4 (by decide) ?_
  refine lv_icmp_eq (tgt := 16) hx hb dX6_isRun_5 (by decide) (fun c5 => ?_) (fun c5 => ?_)
  · refine lv_iconst (v := 1) hx hb dX6_isRun_16 (by decide) ?_
    refine lv_goto (tgt := 21) hx hb dX6_isRun_17 (by decide) ?_
    exact xe_z hx hb hr hlocks hP hS rfl rfl (by rw [fX6_isRun, if_pos c5] <;> rfl) rfl (Nat.le_of_ble_eq_true rfl) (Nat.le_of_ble_eq_true rfl) dX6_isRun_21
  · refine lv_aload_n hx hb dX6_isRun_8 rfl (lv_at hl 0 rfl) ?_
    refine xg (C := RX6) (T := TX6) (N := 6) (v := .int (M 10 5)) hx hb hts inc6 hown hK hP (by omega) (cell6 (by decide)) rfl 5 (by decide) lk0 (fun _ h => h) rfl dX6_isRun_9 ?_
    refine lv_iconst (v := 2) hx hb dX6_isRun_12 (by decide) ?_
    refine lv_icmp_ne (tgt := 20) hx hb dX6_isRun_13 (by decide) (fun c13 => ?_) (fun c13 => ?_)
    · refine lv_iconst (v := 0) hx hb dX6_isRun_20 (by decide) ?_
      exact xe_z hx hb hr hlocks hP hS rfl rfl (by rw [fX6_isRun, if_neg c5, if_neg c13] <;> rfl) rfl (Nat.le_of_ble_eq_true rfl) (Nat.le_of_ble_eq_true rfl) dX6_isRun_21
    · refine lv_iconst (v := 1) hx hb dX6_isRun_16 (by decide) ?_
      refine lv_goto (tgt := 21) hx hb dX6_isRun_17 (by decide) ?_
      exact xe_z hx hb hr hlocks hP hS rfl rfl (by rw [fX6_isRun, if_neg c5, if_pos c13] <;> rfl) rfl (Nat.le_of_ble_eq_true rfl) (Nat.le_of_ble_eq_true rfl) dX6_isRun_21
def fX6_kindOf (M : Mem) (x : Int32) : Int32 := if x < (97 : Int32) then (if x < (48 : Int32) then (if x = (59 : Int32) then (3 : Int32) else (if x = (32 : Int32) then (4 : Int32) else (if x = (10 : Int32) then (4 : Int32) else (5 : Int32)))) else (if (57 : Int32) < x then (if x = (59 : Int32) then (3 : Int32) else (if x = (32 : Int32) then (4 : Int32) else (if x = (10 : Int32) then (4 : Int32) else (5 : Int32)))) else (2 : Int32))) else (if (122 : Int32) < x then (if x < (48 : Int32) then (if x = (59 : Int32) then (3 : Int32) else (if x = (32 : Int32) then (4 : Int32) else (if x = (10 : Int32) then (4 : Int32) else (5 : Int32)))) else (if (57 : Int32) < x then (if x = (59 : Int32) then (3 : Int32) else (if x = (32 : Int32) then (4 : Int32) else (if x = (10 : Int32) then (4 : Int32) else (5 : Int32)))) else (2 : Int32))) else (1 : Int32))
set_option maxHeartbeats 4000000 in
set_option maxRecDepth 100000 in
theorem c_X6_kindOf (l : Launch) (D : va_G) (cy : Nat → ClassId) (b n : Nat) (hn : 124 ≤ n) (M : Mem) (x : Int32)  : Met l yX6_kindOf wsX6_kindOf ({ frames := 0, cells := 0, slots := 0, locals := 0 } : Room) (CP D cy b n fT M [.int x]) (CQi D cy b n fT (fX6_kindOf M x) M) 0 0 (fr b) := by
  refine Met.ofW (cc := cX6_kindOf) (maxL := 1) (ret := (some .int)) (by decide) rfl ?_
  intro p e s m args below meth c s₁ B hml hv
  obtain ⟨rfl, hP, hK, hX⟩ := hv
  have hx := B.exec
  have hb := B.bytes
  have hr := B.returns
  have hts := atoms_spec (ws := wsX6_kindOf) B.pre
  have hown : s.vm.findClass RX6 = some m.cls := findClass_of_methodNamed B.named
  have hlocks := B.notSynchronized
  have hS : va_S (fr b) s.heap s.heap [] := va_S.rf
  have hl := lv_entry ([.int x]) (n := 1) (Nat.le_of_ble_eq_true rfl)
  rw [lg_entry_eq]
  generalize (lg_sl ([.int x]) ++ List.replicate (1 - (lg_sl ([.int x])).length) Slot.unset).toArray = ls at hl ⊢
  have hl : lv_has ls 1 [(0, .int x)] := hl
  refine lv_iload_n hx hb dX6_kindOf_0 rfl (lv_at hl 0 rfl) ?_
  refine lv_bipush (v := 97) hx hb dX6_kindOf_1 (by decide) ?_
  refine lv_icmp_lt (tgt := 14) hx hb dX6_kindOf_3 (by decide) (fun c3 => ?_) (fun c3 => ?_)
  · refine lv_iload_n hx hb dX6_kindOf_14 rfl (lv_at hl 0 rfl) ?_
    refine lv_bipush (v := 48) hx hb dX6_kindOf_15 (by decide) ?_
    refine lv_icmp_lt (tgt := 28) hx hb dX6_kindOf_17 (by decide) (fun c17 => ?_) (fun c17 => ?_)
    · refine lv_iload_n hx hb dX6_kindOf_28 rfl (lv_at hl 0 rfl) ?_
      refine lv_bipush (v := 59) hx hb dX6_kindOf_29 (by decide) ?_
      refine lv_icmp_ne (tgt := 36) hx hb dX6_kindOf_31 (by decide) (fun c31 => ?_) (fun c31 => ?_)
      · refine lv_iload_n hx hb dX6_kindOf_36 rfl (lv_at hl 0 rfl) ?_
        refine lv_bipush (v := 32) hx hb dX6_kindOf_37 (by decide) ?_
        refine lv_icmp_eq (tgt := 48) hx hb dX6_kindOf_39 (by decide) (fun c39 => ?_) (fun c39 => ?_)
        · refine lv_iconst (v := 4) hx hb dX6_kindOf_48 (by decide) ?_
          refine lv_goto (tgt := 53) hx hb dX6_kindOf_49 (by decide) ?_
          exact xe_i hx hb hr hlocks hP hS rfl rfl (by rw [fX6_kindOf, if_pos c3, if_pos c17, if_neg c31, if_pos c39] <;> rfl) (Nat.le_of_ble_eq_true rfl) (Nat.le_of_ble_eq_true rfl) dX6_kindOf_53
        · refine lv_iload_n hx hb dX6_kindOf_42 rfl (lv_at hl 0 rfl) ?_
          refine lv_bipush (v := 10) hx hb dX6_kindOf_43 (by decide) ?_
          refine lv_icmp_ne (tgt := 52) hx hb dX6_kindOf_45 (by decide) (fun c45 => ?_) (fun c45 => ?_)
          · refine lv_iconst (v := 5) hx hb dX6_kindOf_52 (by decide) ?_
            exact xe_i hx hb hr hlocks hP hS rfl rfl (by rw [fX6_kindOf, if_pos c3, if_pos c17, if_neg c31, if_neg c39, if_neg c45] <;> rfl) (Nat.le_of_ble_eq_true rfl) (Nat.le_of_ble_eq_true rfl) dX6_kindOf_53
          · refine lv_iconst (v := 4) hx hb dX6_kindOf_48 (by decide) ?_
            refine lv_goto (tgt := 53) hx hb dX6_kindOf_49 (by decide) ?_
            exact xe_i hx hb hr hlocks hP hS rfl rfl (by rw [fX6_kindOf, if_pos c3, if_pos c17, if_neg c31, if_neg c39, if_pos c45] <;> rfl) (Nat.le_of_ble_eq_true rfl) (Nat.le_of_ble_eq_true rfl) dX6_kindOf_53
      · refine lv_iconst (v := 3) hx hb dX6_kindOf_34 (by decide) ?_
        exact xe_i hx hb hr hlocks hP hS rfl rfl (by rw [fX6_kindOf, if_pos c3, if_pos c17, if_pos c31] <;> rfl) (Nat.le_of_ble_eq_true rfl) (Nat.le_of_ble_eq_true rfl) dX6_kindOf_35
    · refine lv_iload_n hx hb dX6_kindOf_20 rfl (lv_at hl 0 rfl) ?_
      refine lv_bipush (v := 57) hx hb dX6_kindOf_21 (by decide) ?_
      refine lv_icmp_gt (tgt := 28) hx hb dX6_kindOf_23 (by decide) (fun c23 => ?_) (fun c23 => ?_)
      · refine lv_iload_n hx hb dX6_kindOf_28 rfl (lv_at hl 0 rfl) ?_
        refine lv_bipush (v := 59) hx hb dX6_kindOf_29 (by decide) ?_
        refine lv_icmp_ne (tgt := 36) hx hb dX6_kindOf_31 (by decide) (fun c31 => ?_) (fun c31 => ?_)
        · refine lv_iload_n hx hb dX6_kindOf_36 rfl (lv_at hl 0 rfl) ?_
          refine lv_bipush (v := 32) hx hb dX6_kindOf_37 (by decide) ?_
          refine lv_icmp_eq (tgt := 48) hx hb dX6_kindOf_39 (by decide) (fun c39 => ?_) (fun c39 => ?_)
          · refine lv_iconst (v := 4) hx hb dX6_kindOf_48 (by decide) ?_
            refine lv_goto (tgt := 53) hx hb dX6_kindOf_49 (by decide) ?_
            exact xe_i hx hb hr hlocks hP hS rfl rfl (by rw [fX6_kindOf, if_pos c3, if_neg c17, if_pos c23, if_neg c31, if_pos c39] <;> rfl) (Nat.le_of_ble_eq_true rfl) (Nat.le_of_ble_eq_true rfl) dX6_kindOf_53
          · refine lv_iload_n hx hb dX6_kindOf_42 rfl (lv_at hl 0 rfl) ?_
            refine lv_bipush (v := 10) hx hb dX6_kindOf_43 (by decide) ?_
            refine lv_icmp_ne (tgt := 52) hx hb dX6_kindOf_45 (by decide) (fun c45 => ?_) (fun c45 => ?_)
            · refine lv_iconst (v := 5) hx hb dX6_kindOf_52 (by decide) ?_
              exact xe_i hx hb hr hlocks hP hS rfl rfl (by rw [fX6_kindOf, if_pos c3, if_neg c17, if_pos c23, if_neg c31, if_neg c39, if_neg c45] <;> rfl) (Nat.le_of_ble_eq_true rfl) (Nat.le_of_ble_eq_true rfl) dX6_kindOf_53
            · refine lv_iconst (v := 4) hx hb dX6_kindOf_48 (by decide) ?_
              refine lv_goto (tgt := 53) hx hb dX6_kindOf_49 (by decide) ?_
              exact xe_i hx hb hr hlocks hP hS rfl rfl (by rw [fX6_kindOf, if_pos c3, if_neg c17, if_pos c23, if_neg c31, if_neg c39, if_pos c45] <;> rfl) (Nat.le_of_ble_eq_true rfl) (Nat.le_of_ble_eq_true rfl) dX6_kindOf_53
        · refine lv_iconst (v := 3) hx hb dX6_kindOf_34 (by decide) ?_
          exact xe_i hx hb hr hlocks hP hS rfl rfl (by rw [fX6_kindOf, if_pos c3, if_neg c17, if_pos c23, if_pos c31] <;> rfl) (Nat.le_of_ble_eq_true rfl) (Nat.le_of_ble_eq_true rfl) dX6_kindOf_35
      · refine lv_iconst (v := 2) hx hb dX6_kindOf_26 (by decide) ?_
        exact xe_i hx hb hr hlocks hP hS rfl rfl (by rw [fX6_kindOf, if_pos c3, if_neg c17, if_neg c23] <;> rfl) (Nat.le_of_ble_eq_true rfl) (Nat.le_of_ble_eq_true rfl) dX6_kindOf_27
  · refine lv_iload_n hx hb dX6_kindOf_6 rfl (lv_at hl 0 rfl) ?_
    refine lv_bipush (v := 122) hx hb dX6_kindOf_7 (by decide) ?_
    refine lv_icmp_gt (tgt := 14) hx hb dX6_kindOf_9 (by decide) (fun c9 => ?_) (fun c9 => ?_)
    · refine lv_iload_n hx hb dX6_kindOf_14 rfl (lv_at hl 0 rfl) ?_
      refine lv_bipush (v := 48) hx hb dX6_kindOf_15 (by decide) ?_
      refine lv_icmp_lt (tgt := 28) hx hb dX6_kindOf_17 (by decide) (fun c17 => ?_) (fun c17 => ?_)
      · refine lv_iload_n hx hb dX6_kindOf_28 rfl (lv_at hl 0 rfl) ?_
        refine lv_bipush (v := 59) hx hb dX6_kindOf_29 (by decide) ?_
        refine lv_icmp_ne (tgt := 36) hx hb dX6_kindOf_31 (by decide) (fun c31 => ?_) (fun c31 => ?_)
        · refine lv_iload_n hx hb dX6_kindOf_36 rfl (lv_at hl 0 rfl) ?_
          refine lv_bipush (v := 32) hx hb dX6_kindOf_37 (by decide) ?_
          refine lv_icmp_eq (tgt := 48) hx hb dX6_kindOf_39 (by decide) (fun c39 => ?_) (fun c39 => ?_)
          · refine lv_iconst (v := 4) hx hb dX6_kindOf_48 (by decide) ?_
            refine lv_goto (tgt := 53) hx hb dX6_kindOf_49 (by decide) ?_
            exact xe_i hx hb hr hlocks hP hS rfl rfl (by rw [fX6_kindOf, if_neg c3, if_pos c9, if_pos c17, if_neg c31, if_pos c39] <;> rfl) (Nat.le_of_ble_eq_true rfl) (Nat.le_of_ble_eq_true rfl) dX6_kindOf_53
          · refine lv_iload_n hx hb dX6_kindOf_42 rfl (lv_at hl 0 rfl) ?_
            refine lv_bipush (v := 10) hx hb dX6_kindOf_43 (by decide) ?_
            refine lv_icmp_ne (tgt := 52) hx hb dX6_kindOf_45 (by decide) (fun c45 => ?_) (fun c45 => ?_)
            · refine lv_iconst (v := 5) hx hb dX6_kindOf_52 (by decide) ?_
              exact xe_i hx hb hr hlocks hP hS rfl rfl (by rw [fX6_kindOf, if_neg c3, if_pos c9, if_pos c17, if_neg c31, if_neg c39, if_neg c45] <;> rfl) (Nat.le_of_ble_eq_true rfl) (Nat.le_of_ble_eq_true rfl) dX6_kindOf_53
            · refine lv_iconst (v := 4) hx hb dX6_kindOf_48 (by decide) ?_
              refine lv_goto (tgt := 53) hx hb dX6_kindOf_49 (by decide) ?_
              exact xe_i hx hb hr hlocks hP hS rfl rfl (by rw [fX6_kindOf, if_neg c3, if_pos c9, if_pos c17, if_neg c31, if_neg c39, if_pos c45] <;> rfl) (Nat.le_of_ble_eq_true rfl) (Nat.le_of_ble_eq_true rfl) dX6_kindOf_53
        · refine lv_iconst (v := 3) hx hb dX6_kindOf_34 (by decide) ?_
          exact xe_i hx hb hr hlocks hP hS rfl rfl (by rw [fX6_kindOf, if_neg c3, if_pos c9, if_pos c17, if_pos c31] <;> rfl) (Nat.le_of_ble_eq_true rfl) (Nat.le_of_ble_eq_true rfl) dX6_kindOf_35
      · refine lv_iload_n hx hb dX6_kindOf_20 rfl (lv_at hl 0 rfl) ?_
        refine lv_bipush (v := 57) hx hb dX6_kindOf_21 (by decide) ?_
        refine lv_icmp_gt (tgt := 28) hx hb dX6_kindOf_23 (by decide) (fun c23 => ?_) (fun c23 => ?_)
        · refine lv_iload_n hx hb dX6_kindOf_28 rfl (lv_at hl 0 rfl) ?_
          refine lv_bipush (v := 59) hx hb dX6_kindOf_29 (by decide) ?_
          refine lv_icmp_ne (tgt := 36) hx hb dX6_kindOf_31 (by decide) (fun c31 => ?_) (fun c31 => ?_)
          · refine lv_iload_n hx hb dX6_kindOf_36 rfl (lv_at hl 0 rfl) ?_
            refine lv_bipush (v := 32) hx hb dX6_kindOf_37 (by decide) ?_
            refine lv_icmp_eq (tgt := 48) hx hb dX6_kindOf_39 (by decide) (fun c39 => ?_) (fun c39 => ?_)
            · refine lv_iconst (v := 4) hx hb dX6_kindOf_48 (by decide) ?_
              refine lv_goto (tgt := 53) hx hb dX6_kindOf_49 (by decide) ?_
              exact xe_i hx hb hr hlocks hP hS rfl rfl (by rw [fX6_kindOf, if_neg c3, if_pos c9, if_neg c17, if_pos c23, if_neg c31, if_pos c39] <;> rfl) (Nat.le_of_ble_eq_true rfl) (Nat.le_of_ble_eq_true rfl) dX6_kindOf_53
            · refine lv_iload_n hx hb dX6_kindOf_42 rfl (lv_at hl 0 rfl) ?_
              refine lv_bipush (v := 10) hx hb dX6_kindOf_43 (by decide) ?_
              refine lv_icmp_ne (tgt := 52) hx hb dX6_kindOf_45 (by decide) (fun c45 => ?_) (fun c45 => ?_)
              · refine lv_iconst (v := 5) hx hb dX6_kindOf_52 (by decide) ?_
                exact xe_i hx hb hr hlocks hP hS rfl rfl (by rw [fX6_kindOf, if_neg c3, if_pos c9, if_neg c17, if_pos c23, if_neg c31, if_neg c39, if_neg c45] <;> rfl) (Nat.le_of_ble_eq_true rfl) (Nat.le_of_ble_eq_true rfl) dX6_kindOf_53
              · refine lv_iconst (v := 4) hx hb dX6_kindOf_48 (by decide) ?_
                refine lv_goto (tgt := 53) hx hb dX6_kindOf_49 (by decide) ?_
                exact xe_i hx hb hr hlocks hP hS rfl rfl (by rw [fX6_kindOf, if_neg c3, if_pos c9, if_neg c17, if_pos c23, if_neg c31, if_neg c39, if_pos c45] <;> rfl) (Nat.le_of_ble_eq_true rfl) (Nat.le_of_ble_eq_true rfl) dX6_kindOf_53
          · refine lv_iconst (v := 3) hx hb dX6_kindOf_34 (by decide) ?_
            exact xe_i hx hb hr hlocks hP hS rfl rfl (by rw [fX6_kindOf, if_neg c3, if_pos c9, if_neg c17, if_pos c23, if_pos c31] <;> rfl) (Nat.le_of_ble_eq_true rfl) (Nat.le_of_ble_eq_true rfl) dX6_kindOf_35
        · refine lv_iconst (v := 2) hx hb dX6_kindOf_26 (by decide) ?_
          exact xe_i hx hb hr hlocks hP hS rfl rfl (by rw [fX6_kindOf, if_neg c3, if_pos c9, if_neg c17, if_neg c23] <;> rfl) (Nat.le_of_ble_eq_true rfl) (Nat.le_of_ble_eq_true rfl) dX6_kindOf_27
    · refine lv_iconst (v := 1) hx hb dX6_kindOf_12 (by decide) ?_
      exact xe_i hx hb hr hlocks hP hS rfl rfl (by rw [fX6_kindOf, if_neg c3, if_neg c9] <;> rfl) (Nat.le_of_ble_eq_true rfl) (Nat.le_of_ble_eq_true rfl) dX6_kindOf_13
theorem tl_len {M : Mem} (h : TL M) (hc : ¬ M 10 2 ≤ M 10 4) : ¬ nI 600 ≤ M 10 4 := by
  obtain ⟨⟨a, ha, ea⟩, ⟨c, hc', ec⟩⟩ := h
  rw [ea, ec, nI_leI (by omega) (by omega)] at hc
  rw [ec, nI_leI (by omega) (by omega)]
  omega
theorem tl_at {M : Mem} (h : TL M) (hc : ¬ M 10 2 ≤ M 10 4) : (M 10 4).toNatClampNeg < 600 := ub_cl h.2 (tl_len h hc)
theorem tl_step {M : Mem} (h : TL M) (hc : ¬ M 10 2 ≤ M 10 4) : TL (mU M 10 4 (M 10 4 + 1)) := ⟨by rw [mU_at]; exact h.1, by rw [mU_at]; exact ub_succ h.2 (tl_len h hc)⟩
theorem tl_fuel {M : Mem} {k : Nat} (h : TL M) (hc : ¬ M 10 2 ≤ M 10 4) (hk : 601 ≤ (M 10 4).toNatClampNeg + (k + 1)) : 601 ≤ (mU M 10 4 (M 10 4 + 1) 10 4).toNatClampNeg + k := by
  have h6 := tl_at h hc
  obtain ⟨a, ha, ea⟩ := h.2
  rw [mU_at, show upd (M 10) 4 (M 10 4 + 1) 4 = M 10 4 + 1 from rfl, ea, nI_1, nI_clamp (by omega)]
  rw [ea, nI_clamp (by omega)] at hk
  omega
theorem tl_zero {M : Mem} (h : TL M) (hk : 601 ≤ (M 10 4).toNatClampNeg + 0) : False := by
  obtain ⟨a, ha, ea⟩ := h.2
  rw [ea, nI_clamp (by omega)] at hk
  omega
theorem tl_a {M : Mem} {v : Int32} (h : TL M) (hc : ¬ (mU M 10 3 (M 10 4)) 10 2 ≤ (mU M 10 3 (M 10 4)) 10 3) : TL (mU (mU (mU M 10 3 (M 10 4)) 10 5 v) 10 4 ((mU (mU M 10 3 (M 10 4)) 10 5 v) 10 4 + 1)) := ⟨h.1, ub_succ h.2 (tl_len h hc)⟩
theorem tl_b {M : Mem} {v : Int32} (h : TL M) : TL (mU (mU M 10 3 (M 10 4)) 10 5 v) := h
theorem tl_c {M : Mem} {v : Int32} {P : Prop} (hv : v = 0) (hc : ¬ (mU (mU M 10 3 (M 10 4)) 10 5 v) 10 5 = 0) : P := absurd hv hc
theorem tl_d {M : Mem} {v : Int32} (h : TL M) : ¬ (mU (mU M 10 3 (M 10 4)) 10 5 v) 10 5 = 0 → ¬ v = 0 := fun hc => hc
theorem tl_e {M : Mem} (h : TL M) (hc : ¬ M 10 2 ≤ M 10 4) : TL (mU M 10 4 (M 10 4 + 1)) := tl_step h hc
def LX6_next_181g  : Nat → Mem → Int32 → Mem
  | 0, M, _ => M
  | k + 1, M, jn => if jn = 0 then (if (M 10 5) = (2 : Int32) then (if ((M 10 4) - (M 10 3)) ≤ (3 : Int32) then M else (mU M 10 5 (5 : Int32))) else M) else (mU M 10 5 (5 : Int32))
set_option maxHeartbeats 4000000 in
set_option maxRecDepth 100000 in
theorem cl_X6_next_181 (l : Launch) (D : va_G) (cy : Nat → ClassId) (b n : Nat) (hn : 124 ≤ n)   {p : Program} {e : Env} {s : State} {m : MethodId} {args : Array Value} {below : List Frame} {meth : Method} {c : Code} (hx : p.tables.exec = Jvm.exec) (hb : c.code = cX6_next) (hr : meth.sig.returnType = none) (hlocks : meth.locks = false) (hml : c.maxLocals = 4) (hown : s.vm.findClass RX6 = some m.cls) (hts : ∀ w ∈ wsX6_next, w.before args s = true) (hK : va_K D vwCl (tysW cy) s) (hX : SX b s)  : ∀ (k : Nat) (M : Mem) (jn : Int32) (H : Heap) (locs : List Loc) (ls : Array Slot), 0 < k → va_P D vwCl (wL cy b fT M n) H → va_S (fr b) s.heap H locs → lv_has ls 4 [(0, .ref (b + 10)), (3, .int jn)] → W p l e (headSpec wsX6_next ({ frames := 1, cells := 0, slots := 0, locals := 20 } : Room)).room s m args below meth c H locs 0 0 (MQ below (CQv D cy b n fT (LX6_next_181g k M jn)) args s 0 0 (fr b)) (F0 m 181 ls []) := by
  have lk0 := hts (.fieldLink RX6 34 "HygrometerRoom$Tokens" "kind" "I") (by decide +kernel)
  have lk1 := hts (.fieldLink RX6 31 "HygrometerRoom$Tokens" "end" "I") (by decide +kernel)
  have lk2 := hts (.fieldLink RX6 28 "HygrometerRoom$Tokens" "start" "I") (by decide +kernel)
  have inc6 : ∀ w ∈ u_ws RX6 TX6 6, w ∈ wsX6_next := by decide +kernel
  intro k
  induction k with
  | zero => intro M jn H locs ls hk hP hS hl; omega
  | succ k ih =>
    intro M jn H locs ls hk hP hS hl
    refine lv_iload_n hx hb dX6_next_181 rfl (lv_at hl 1 rfl) ?_
    refine lv_if_ne (tgt := 206) hx hb dX6_next_182 (by decide) (fun c182 => ?_) (fun c182 => ?_)
    · refine lv_aload_n hx hb dX6_next_206 rfl (lv_at hl 0 rfl) ?_
      refine lv_iconst (v := 5) hx hb dX6_next_207 (by decide) ?_
      refine xp (C := RX6) (T := TX6) (N := 6) (ci := 6) (ty := .int) (x := (5 : Int32)) hx hb hts inc6 tyX6 tyX6_ok nmX6 hown hK hP hS (by omega) (fun _ => cell6 (by decide)) rfl 5 (by decide) rfl lk0 (fun _ h => h) rfl (tyX6_ok 5 (by decide)) rfl rfl (Nat.le_of_ble_eq_true rfl) dX6_next_208 (fun H locs hP hS => ?_)
      exact xe_v hx hb hr hlocks hP hS rfl (by rw [LX6_next_181g, if_neg c182] <;> rfl) (Nat.le_of_ble_eq_true rfl) (Nat.le_of_ble_eq_true rfl) dX6_next_211
    · refine lv_aload_n hx hb dX6_next_185 rfl (lv_at hl 0 rfl) ?_
      refine xg (C := RX6) (T := TX6) (N := 6) (v := .int (M 10 5)) hx hb hts inc6 hown hK hP (by omega) (cell6 (by decide)) rfl 5 (by decide) lk0 (fun _ h => h) rfl dX6_next_186 ?_
      refine lv_iconst (v := 2) hx hb dX6_next_189 (by decide) ?_
      refine lv_icmp_ne (tgt := 211) hx hb dX6_next_190 (by decide) (fun c190 => ?_) (fun c190 => ?_)
      · exact xe_v hx hb hr hlocks hP hS rfl (by rw [LX6_next_181g, if_pos c182, if_neg c190] <;> rfl) (Nat.le_of_ble_eq_true rfl) (Nat.le_of_ble_eq_true rfl) dX6_next_211
      · refine lv_aload_n hx hb dX6_next_193 rfl (lv_at hl 0 rfl) ?_
        refine xg (C := RX6) (T := TX6) (N := 6) (v := .int (M 10 4)) hx hb hts inc6 hown hK hP (by omega) (cell6 (by decide)) rfl 4 (by decide) lk1 (fun _ h => h) rfl dX6_next_194 ?_
        refine lv_aload_n hx hb dX6_next_197 rfl (lv_at hl 0 rfl) ?_
        refine xg (C := RX6) (T := TX6) (N := 6) (v := .int (M 10 3)) hx hb hts inc6 hown hK hP (by omega) (cell6 (by decide)) rfl 3 (by decide) lk2 (fun _ h => h) rfl dX6_next_198 ?_
        refine lv_isub hx hb dX6_next_201 ?_
        refine lv_iconst (v := 3) hx hb dX6_next_202 (by decide) ?_
        refine lv_icmp_le (tgt := 211) hx hb dX6_next_203 (by decide) (fun c203 => ?_) (fun c203 => ?_)
        · exact xe_v hx hb hr hlocks hP hS rfl (by rw [LX6_next_181g, if_pos c182, if_pos c190, if_pos c203] <;> rfl) (Nat.le_of_ble_eq_true rfl) (Nat.le_of_ble_eq_true rfl) dX6_next_211
        · refine lv_aload_n hx hb dX6_next_206 rfl (lv_at hl 0 rfl) ?_
          refine lv_iconst (v := 5) hx hb dX6_next_207 (by decide) ?_
          refine xp (C := RX6) (T := TX6) (N := 6) (ci := 6) (ty := .int) (x := (5 : Int32)) hx hb hts inc6 tyX6 tyX6_ok nmX6 hown hK hP hS (by omega) (fun _ => cell6 (by decide)) rfl 5 (by decide) rfl lk0 (fun _ h => h) rfl (tyX6_ok 5 (by decide)) rfl rfl (Nat.le_of_ble_eq_true rfl) dX6_next_208 (fun H locs hP hS => ?_)
          exact xe_v hx hb hr hlocks hP hS rfl (by rw [LX6_next_181g, if_pos c182, if_pos c190, if_neg c203] <;> rfl) (Nat.le_of_ble_eq_true rfl) (Nat.le_of_ble_eq_true rfl) dX6_next_211

def LX6_next_156g  : Nat → Mem → Int32 → Int32 → Mem
  | 0, M, _, _ => M
  | k + 1, M, eb, rb => if (fX6_isRun M) = 0 then (LX6_next_181g 1 M (0 : Int32)) else (if rb = 0 then (LX6_next_181g 1 M (0 : Int32)) else (if (M 10 3) = eb then (LX6_next_181g 1 M (1 : Int32)) else (LX6_next_181g 1 M (0 : Int32))))
set_option maxHeartbeats 4000000 in
set_option maxRecDepth 100000 in
theorem cl_X6_next_156 (l : Launch) (D : va_G) (cy : Nat → ClassId) (b n : Nat) (hn : 124 ≤ n)   {p : Program} {e : Env} {s : State} {m : MethodId} {args : Array Value} {below : List Frame} {meth : Method} {c : Code} (hx : p.tables.exec = Jvm.exec) (hb : c.code = cX6_next) (hr : meth.sig.returnType = none) (hlocks : meth.locks = false) (hml : c.maxLocals = 4) (hown : s.vm.findClass RX6 = some m.cls) (hts : ∀ w ∈ wsX6_next, w.before args s = true) (hK : va_K D vwCl (tysW cy) s) (hX : SX b s)  : ∀ (k : Nat) (M : Mem) (eb : Int32) (rb : Int32) (H : Heap) (locs : List Loc) (ls : Array Slot), 0 < k → va_P D vwCl (wL cy b fT M n) H → va_S (fr b) s.heap H locs → lv_has ls 4 [(0, .ref (b + 10)), (1, .int eb), (2, .int rb)] → W p l e (headSpec wsX6_next ({ frames := 1, cells := 0, slots := 0, locals := 20 } : Room)).room s m args below meth c H locs 0 0 (MQ below (CQv D cy b n fT (LX6_next_156g k M eb rb)) args s 0 0 (fr b)) (F0 m 156 ls []) := by
  have lk0 := hts (.fieldLink RX6 28 "HygrometerRoom$Tokens" "start" "I") (by decide +kernel)
  have inc6 : ∀ w ∈ u_ws RX6 TX6 6, w ∈ wsX6_next := by decide +kernel
  intro k
  induction k with
  | zero => intro M eb rb H locs ls hk hP hS hl; omega
  | succ k ih =>
    intro M eb rb H locs ls hk hP hS hl
    refine lv_aload_n hx hb dX6_next_156 rfl (lv_at hl 0 rfl) ?_
    refine xc_i (va_runV (As := []) (rest := []) ⟨hx, hb, hml, hown, hts⟩ (c_X6_isRun l D cy b n hn M ) (cwV 0 hts gX6_next_X6_isRun rfl rfl rfl (by decide +kernel) ⟨Nat.le_of_ble_eq_true rfl, Nat.le_of_ble_eq_true rfl⟩) (xPreV hP hK hX hS (by omega) (cell6 (by decide)) rfl) rfl rfl hl.1 rfl (lv_room (Nat.le_of_ble_eq_true rfl)) dX6_next_157 ⟨Nat.le_of_ble_eq_true rfl, Nat.le_of_ble_eq_true rfl⟩) hS (fun H locs hP hS => ?_)
    refine lv_if_eq (tgt := 179) hx hb dX6_next_160 (by decide) (fun c160 => ?_) (fun c160 => ?_)
    · refine lv_iconst (v := 0) hx hb dX6_next_179 (by decide) ?_
      refine lv_istore_n (lv' := [(3, .int (0 : Int32)), (0, .ref (b + 10)), (1, .int eb), (2, .int rb)]) hx hb dX6_next_180 rfl hl (by decide) rfl (fun ls hl => ?_)
      rw [show LX6_next_156g (k + 1) M eb rb = LX6_next_181g 1 M (0 : Int32) from (by rw [LX6_next_156g, if_pos c160])]
      exact cl_X6_next_181 l D cy b n hn  hx hb hr hlocks hml hown hts hK hX 1 M (0 : Int32) H locs ls (by decide) hP hS (lv_sub hl [1, 0] rfl)
    · refine lv_iload_n hx hb dX6_next_163 rfl (lv_at hl 2 rfl) ?_
      refine lv_if_eq (tgt := 179) hx hb dX6_next_164 (by decide) (fun c164 => ?_) (fun c164 => ?_)
      · refine lv_iconst (v := 0) hx hb dX6_next_179 (by decide) ?_
        refine lv_istore_n (lv' := [(3, .int (0 : Int32)), (0, .ref (b + 10)), (1, .int eb), (2, .int rb)]) hx hb dX6_next_180 rfl hl (by decide) rfl (fun ls hl => ?_)
        rw [show LX6_next_156g (k + 1) M eb rb = LX6_next_181g 1 M (0 : Int32) from (by rw [LX6_next_156g, if_neg c160, if_pos c164])]
        exact cl_X6_next_181 l D cy b n hn  hx hb hr hlocks hml hown hts hK hX 1 M (0 : Int32) H locs ls (by decide) hP hS (lv_sub hl [1, 0] rfl)
      · refine lv_aload_n hx hb dX6_next_167 rfl (lv_at hl 0 rfl) ?_
        refine xg (C := RX6) (T := TX6) (N := 6) (v := .int (M 10 3)) hx hb hts inc6 hown hK hP (by omega) (cell6 (by decide)) rfl 3 (by decide) lk0 (fun _ h => h) rfl dX6_next_168 ?_
        refine lv_iload_n hx hb dX6_next_171 rfl (lv_at hl 1 rfl) ?_
        refine lv_icmp_ne (tgt := 179) hx hb dX6_next_172 (by decide) (fun c172 => ?_) (fun c172 => ?_)
        · refine lv_iconst (v := 0) hx hb dX6_next_179 (by decide) ?_
          refine lv_istore_n (lv' := [(3, .int (0 : Int32)), (0, .ref (b + 10)), (1, .int eb), (2, .int rb)]) hx hb dX6_next_180 rfl hl (by decide) rfl (fun ls hl => ?_)
          rw [show LX6_next_156g (k + 1) M eb rb = LX6_next_181g 1 M (0 : Int32) from (by rw [LX6_next_156g, if_neg c160, if_neg c164, if_neg c172])]
          exact cl_X6_next_181 l D cy b n hn  hx hb hr hlocks hml hown hts hK hX 1 M (0 : Int32) H locs ls (by decide) hP hS (lv_sub hl [1, 0] rfl)
        · refine lv_iconst (v := 1) hx hb dX6_next_175 (by decide) ?_
          refine lv_goto (tgt := 180) hx hb dX6_next_176 (by decide) ?_
          refine lv_istore_n (lv' := [(3, .int (1 : Int32)), (0, .ref (b + 10)), (1, .int eb), (2, .int rb)]) hx hb dX6_next_180 rfl hl (by decide) rfl (fun ls hl => ?_)
          rw [show LX6_next_156g (k + 1) M eb rb = LX6_next_181g 1 M (1 : Int32) from (by rw [LX6_next_156g, if_neg c160, if_neg c164, if_pos c172])]
          exact cl_X6_next_181 l D cy b n hn  hx hb hr hlocks hml hown hts hK hX 1 M (1 : Int32) H locs ls (by decide) hP hS (lv_sub hl [1, 0] rfl)

def LX6_next_106g  : Nat → Mem → Int32 → Int32 → Mem
  | 0, M, _, _ => M
  | k + 1, M, eb, rb => if (fX6_isRun M) = 0 then (LX6_next_156g 1 M eb rb) else (if (M 10 2) ≤ (M 10 4) then (LX6_next_156g 1 M eb rb) else (if (fX6_kindOf M (M 11 ((M 10 4).toNatClampNeg))) = (M 10 5) then (LX6_next_106g k (mU M 10 4 ((M 10 4) + (1 : Int32))) eb rb) else (LX6_next_156g 1 M eb rb)))
set_option maxHeartbeats 4000000 in
set_option maxRecDepth 100000 in
theorem cl_X6_next_106 (l : Launch) (D : va_G) (cy : Nat → ClassId) (b n : Nat) (hn : 124 ≤ n)   {p : Program} {e : Env} {s : State} {m : MethodId} {args : Array Value} {below : List Frame} {meth : Method} {c : Code} (hx : p.tables.exec = Jvm.exec) (hb : c.code = cX6_next) (hr : meth.sig.returnType = none) (hlocks : meth.locks = false) (hml : c.maxLocals = 4) (hown : s.vm.findClass RX6 = some m.cls) (hts : ∀ w ∈ wsX6_next, w.before args s = true) (hK : va_K D vwCl (tysW cy) s) (hX : SX b s)  : ∀ (k : Nat) (M : Mem) (eb : Int32) (rb : Int32) (H : Heap) (locs : List Loc) (ls : Array Slot), TL M → 601 ≤ (M 10 4).toNatClampNeg + k → va_P D vwCl (wL cy b fT M n) H → va_S (fr b) s.heap H locs → lv_has ls 4 [(0, .ref (b + 10)), (1, .int eb), (2, .int rb)] → W p l e (headSpec wsX6_next ({ frames := 1, cells := 0, slots := 0, locals := 20 } : Room)).room s m args below meth c H locs 0 0 (MQ below (CQv D cy b n fT (LX6_next_106g k M eb rb)) args s 0 0 (fr b)) (F0 m 106 ls []) := by
  have lk0 := hts (.fieldLink RX6 31 "HygrometerRoom$Tokens" "end" "I") (by decide +kernel)
  have lk1 := hts (.fieldLink RX6 25 "HygrometerRoom$Tokens" "length" "I") (by decide +kernel)
  have lk2 := hts (.fieldLink RX6 9 "HygrometerRoom$Tokens" "bytes" "[B") (by decide +kernel)
  have lk3 := hts (.fieldLink RX6 34 "HygrometerRoom$Tokens" "kind" "I") (by decide +kernel)
  have inc6 : ∀ w ∈ u_ws RX6 TX6 6, w ∈ wsX6_next := by decide +kernel
  intro k
  induction k with
  | zero => intro M eb rb H locs ls htl hk hP hS hl; exact (tl_zero htl hk).elim
  | succ k ih =>
    intro M eb rb H locs ls htl hk hP hS hl
    refine lv_aload_n hx hb dX6_next_106 rfl (lv_at hl 0 rfl) ?_
    refine xc_i (va_runV (As := []) (rest := []) ⟨hx, hb, hml, hown, hts⟩ (c_X6_isRun l D cy b n hn M ) (cwV 0 hts gX6_next_X6_isRun rfl rfl rfl (by decide +kernel) ⟨Nat.le_of_ble_eq_true rfl, Nat.le_of_ble_eq_true rfl⟩) (xPreV hP hK hX hS (by omega) (cell6 (by decide)) rfl) rfl rfl hl.1 rfl (lv_room (Nat.le_of_ble_eq_true rfl)) dX6_next_107 ⟨Nat.le_of_ble_eq_true rfl, Nat.le_of_ble_eq_true rfl⟩) hS (fun H locs hP hS => ?_)
    refine lv_if_eq (tgt := 156) hx hb dX6_next_110 (by decide) (fun c110 => ?_) (fun c110 => ?_)
    · rw [show LX6_next_106g (k + 1) M eb rb = LX6_next_156g 1 M eb rb from (by rw [LX6_next_106g, if_pos c110])]
      exact cl_X6_next_156 l D cy b n hn  hx hb hr hlocks hml hown hts hK hX 1 M eb rb H locs ls (by decide) hP hS (lv_sub hl [0, 1, 2] rfl)
    · refine lv_aload_n hx hb dX6_next_113 rfl (lv_at hl 0 rfl) ?_
      refine xg (C := RX6) (T := TX6) (N := 6) (v := .int (M 10 4)) hx hb hts inc6 hown hK hP (by omega) (cell6 (by decide)) rfl 4 (by decide) lk0 (fun _ h => h) rfl dX6_next_114 ?_
      refine lv_aload_n hx hb dX6_next_117 rfl (lv_at hl 0 rfl) ?_
      refine xg (C := RX6) (T := TX6) (N := 6) (v := .int (M 10 2)) hx hb hts inc6 hown hK hP (by omega) (cell6 (by decide)) rfl 2 (by decide) lk1 (fun _ h => h) rfl dX6_next_118 ?_
      refine lv_icmp_ge (tgt := 156) hx hb dX6_next_121 (by decide) (fun c121 => ?_) (fun c121 => ?_)
      · rw [show LX6_next_106g (k + 1) M eb rb = LX6_next_156g 1 M eb rb from (by rw [LX6_next_106g, if_neg c110, if_pos c121])]
        exact cl_X6_next_156 l D cy b n hn  hx hb hr hlocks hml hown hts hK hX 1 M eb rb H locs ls (by decide) hP hS (lv_sub hl [0, 1, 2] rfl)
      · refine lv_aload_n hx hb dX6_next_124 rfl (lv_at hl 0 rfl) ?_
        refine xg (C := RX6) (T := TX6) (N := 6) (v := .ref (b + 11)) hx hb hts inc6 hown hK hP (by omega) (cell6 (by decide)) rfl 0 (by decide) lk2 (fun _ h => h) rfl dX6_next_125 ?_
        refine lv_aload_n hx hb dX6_next_128 rfl (lv_at hl 0 rfl) ?_
        refine xg (C := RX6) (T := TX6) (N := 6) (v := .int (M 10 4)) hx hb hts inc6 hown hK hP (by omega) (cell6 (by decide)) rfl 4 (by decide) lk0 (fun _ h => h) rfl dX6_next_129 ?_
        refine xbl (j := (M 10 4).toNatClampNeg) hx hb hK hP (by omega) (by decide) (vin_cl (ub_ge htl.2) (tl_at htl c121)) rfl dX6_next_132 ?_
        refine xc_i (va_runS (As := [.int (M 11 ((M 10 4).toNatClampNeg))]) (rest := []) ⟨hx, hb, hml, hown, hts⟩ (c_X6_kindOf l D cy b n hn M (M 11 ((M 10 4).toNatClampNeg))) (va_cwS 1 hts gX6_next_X6_kindOf rfl rfl rfl (by decide +kernel) ⟨Nat.le_of_ble_eq_true rfl, Nat.le_of_ble_eq_true rfl⟩) (xPreS hP hK hX hS) rfl rfl hl.1 rfl (lv_room (Nat.le_of_ble_eq_true rfl)) dX6_next_133 ⟨Nat.le_of_ble_eq_true rfl, Nat.le_of_ble_eq_true rfl⟩) hS (fun H locs hP hS => ?_)
        refine lv_aload_n hx hb dX6_next_136 rfl (lv_at hl 0 rfl) ?_
        refine xg (C := RX6) (T := TX6) (N := 6) (v := .int (M 10 5)) hx hb hts inc6 hown hK hP (by omega) (cell6 (by decide)) rfl 5 (by decide) lk3 (fun _ h => h) rfl dX6_next_137 ?_
        refine lv_icmp_ne (tgt := 156) hx hb dX6_next_140 (by decide) (fun c140 => ?_) (fun c140 => ?_)
        · rw [show LX6_next_106g (k + 1) M eb rb = LX6_next_156g 1 M eb rb from (by rw [LX6_next_106g, if_neg c110, if_neg c121, if_neg c140])]
          exact cl_X6_next_156 l D cy b n hn  hx hb hr hlocks hml hown hts hK hX 1 M eb rb H locs ls (by decide) hP hS (lv_sub hl [0, 1, 2] rfl)
        · refine lv_aload_n hx hb dX6_next_143 rfl (lv_at hl 0 rfl) ?_
          refine lv_dup hx hb dX6_next_144 rfl ?_
          refine xg (C := RX6) (T := TX6) (N := 6) (v := .int (M 10 4)) hx hb hts inc6 hown hK hP (by omega) (cell6 (by decide)) rfl 4 (by decide) lk0 (fun _ h => h) rfl dX6_next_145 ?_
          refine lv_iconst (v := 1) hx hb dX6_next_148 (by decide) ?_
          refine lv_iadd hx hb dX6_next_149 ?_
          refine xp (C := RX6) (T := TX6) (N := 6) (ci := 6) (ty := .int) (x := (M 10 4) + (1 : Int32)) hx hb hts inc6 tyX6 tyX6_ok nmX6 hown hK hP hS (by omega) (fun _ => cell6 (by decide)) rfl 4 (by decide) rfl lk0 (fun _ h => h) rfl (tyX6_ok 4 (by decide)) rfl rfl (Nat.le_of_ble_eq_true rfl) dX6_next_150 (fun H locs hP hS => ?_)
          refine lv_goto (tgt := 106) hx hb dX6_next_153 (by decide) ?_
          rw [show LX6_next_106g (k + 1) M eb rb = LX6_next_106g k (mU M 10 4 ((M 10 4) + (1 : Int32))) eb rb from (by rw [LX6_next_106g, if_neg c110, if_neg c121, if_pos c140])]
          exact ih (mU M 10 4 ((M 10 4) + (1 : Int32))) eb rb H locs ls (tl_step htl c121) (tl_fuel htl c121 hk) hP hS (lv_sub hl [0, 1, 2] rfl)

def LX6_next_89g  : Nat → Mem → Int32 → Int32 → Mem
  | 0, M, _, _ => M
  | k + 1, M, eb, rb => if (M 10 5) = 0 then (LX6_next_106g 601 M eb rb) else (LX6_next_106g 601 (mU M 10 4 ((M 10 4) + (1 : Int32))) eb rb)
set_option maxHeartbeats 4000000 in
set_option maxRecDepth 100000 in
theorem cl_X6_next_89 (l : Launch) (D : va_G) (cy : Nat → ClassId) (b n : Nat) (hn : 124 ≤ n)   {p : Program} {e : Env} {s : State} {m : MethodId} {args : Array Value} {below : List Frame} {meth : Method} {c : Code} (hx : p.tables.exec = Jvm.exec) (hb : c.code = cX6_next) (hr : meth.sig.returnType = none) (hlocks : meth.locks = false) (hml : c.maxLocals = 4) (hown : s.vm.findClass RX6 = some m.cls) (hts : ∀ w ∈ wsX6_next, w.before args s = true) (hK : va_K D vwCl (tysW cy) s) (hX : SX b s)  : ∀ (k : Nat) (M : Mem) (eb : Int32) (rb : Int32) (H : Heap) (locs : List Loc) (ls : Array Slot), TL M → (¬ M 10 5 = 0 → ¬ M 10 2 ≤ M 10 4) → 0 < k → va_P D vwCl (wL cy b fT M n) H → va_S (fr b) s.heap H locs → lv_has ls 4 [(0, .ref (b + 10)), (1, .int eb), (2, .int rb)] → W p l e (headSpec wsX6_next ({ frames := 1, cells := 0, slots := 0, locals := 20 } : Room)).room s m args below meth c H locs 0 0 (MQ below (CQv D cy b n fT (LX6_next_89g k M eb rb)) args s 0 0 (fr b)) (F0 m 89 ls []) := by
  have lk0 := hts (.fieldLink RX6 34 "HygrometerRoom$Tokens" "kind" "I") (by decide +kernel)
  have lk1 := hts (.fieldLink RX6 31 "HygrometerRoom$Tokens" "end" "I") (by decide +kernel)
  have inc6 : ∀ w ∈ u_ws RX6 TX6 6, w ∈ wsX6_next := by decide +kernel
  intro k
  induction k with
  | zero => intro M eb rb H locs ls htl he hk hP hS hl; omega
  | succ k ih =>
    intro M eb rb H locs ls htl he hk hP hS hl
    refine lv_aload_n hx hb dX6_next_89 rfl (lv_at hl 0 rfl) ?_
    refine xg (C := RX6) (T := TX6) (N := 6) (v := .int (M 10 5)) hx hb hts inc6 hown hK hP (by omega) (cell6 (by decide)) rfl 5 (by decide) lk0 (fun _ h => h) rfl dX6_next_90 ?_
    refine lv_if_eq (tgt := 106) hx hb dX6_next_93 (by decide) (fun c93 => ?_) (fun c93 => ?_)
    · rw [show LX6_next_89g (k + 1) M eb rb = LX6_next_106g 601 M eb rb from (by rw [LX6_next_89g, if_pos c93])]
      exact cl_X6_next_106 l D cy b n hn  hx hb hr hlocks hml hown hts hK hX 601 M eb rb H locs ls (by first | exact htl | exact tl_step htl (he c93)) (by omega) hP hS (lv_sub hl [0, 1, 2] rfl)
    · refine lv_aload_n hx hb dX6_next_96 rfl (lv_at hl 0 rfl) ?_
      refine lv_dup hx hb dX6_next_97 rfl ?_
      refine xg (C := RX6) (T := TX6) (N := 6) (v := .int (M 10 4)) hx hb hts inc6 hown hK hP (by omega) (cell6 (by decide)) rfl 4 (by decide) lk1 (fun _ h => h) rfl dX6_next_98 ?_
      refine lv_iconst (v := 1) hx hb dX6_next_101 (by decide) ?_
      refine lv_iadd hx hb dX6_next_102 ?_
      refine xp (C := RX6) (T := TX6) (N := 6) (ci := 6) (ty := .int) (x := (M 10 4) + (1 : Int32)) hx hb hts inc6 tyX6 tyX6_ok nmX6 hown hK hP hS (by omega) (fun _ => cell6 (by decide)) rfl 4 (by decide) rfl lk1 (fun _ h => h) rfl (tyX6_ok 4 (by decide)) rfl rfl (Nat.le_of_ble_eq_true rfl) dX6_next_103 (fun H locs hP hS => ?_)
      rw [show LX6_next_89g (k + 1) M eb rb = LX6_next_106g 601 (mU M 10 4 ((M 10 4) + (1 : Int32))) eb rb from (by rw [LX6_next_89g, if_neg c93])]
      exact cl_X6_next_106 l D cy b n hn  hx hb hr hlocks hml hown hts hK hX 601 (mU M 10 4 ((M 10 4) + (1 : Int32))) eb rb H locs ls (by first | exact htl | exact tl_step htl (he c93)) (by omega) hP hS (lv_sub hl [0, 1, 2] rfl)

def LX6_next_50g  : Nat → Mem → Int32 → Int32 → Mem
  | 0, M, _, _ => M
  | k + 1, M, eb, rb => if ((mU M 10 3 (M 10 4)) 10 2) ≤ ((mU M 10 3 (M 10 4)) 10 3) then (LX6_next_89g 1 (mU (mU M 10 3 (M 10 4)) 10 5 (0 : Int32)) eb rb) else (LX6_next_89g 1 (mU (mU M 10 3 (M 10 4)) 10 5 (fX6_kindOf (mU M 10 3 (M 10 4)) ((mU M 10 3 (M 10 4)) 11 (((mU M 10 3 (M 10 4)) 10 3).toNatClampNeg)))) eb rb)
set_option maxHeartbeats 4000000 in
set_option maxRecDepth 100000 in
theorem cl_X6_next_50 (l : Launch) (D : va_G) (cy : Nat → ClassId) (b n : Nat) (hn : 124 ≤ n)   {p : Program} {e : Env} {s : State} {m : MethodId} {args : Array Value} {below : List Frame} {meth : Method} {c : Code} (hx : p.tables.exec = Jvm.exec) (hb : c.code = cX6_next) (hr : meth.sig.returnType = none) (hlocks : meth.locks = false) (hml : c.maxLocals = 4) (hown : s.vm.findClass RX6 = some m.cls) (hts : ∀ w ∈ wsX6_next, w.before args s = true) (hK : va_K D vwCl (tysW cy) s) (hX : SX b s)  : ∀ (k : Nat) (M : Mem) (eb : Int32) (rb : Int32) (H : Heap) (locs : List Loc) (ls : Array Slot), TL M → 0 < k → va_P D vwCl (wL cy b fT M n) H → va_S (fr b) s.heap H locs → lv_has ls 4 [(0, .ref (b + 10)), (1, .int eb), (2, .int rb)] → W p l e (headSpec wsX6_next ({ frames := 1, cells := 0, slots := 0, locals := 20 } : Room)).room s m args below meth c H locs 0 0 (MQ below (CQv D cy b n fT (LX6_next_50g k M eb rb)) args s 0 0 (fr b)) (F0 m 50 ls []) := by
  have lk0 := hts (.fieldLink RX6 31 "HygrometerRoom$Tokens" "end" "I") (by decide +kernel)
  have lk1 := hts (.fieldLink RX6 28 "HygrometerRoom$Tokens" "start" "I") (by decide +kernel)
  have lk2 := hts (.fieldLink RX6 25 "HygrometerRoom$Tokens" "length" "I") (by decide +kernel)
  have lk3 := hts (.fieldLink RX6 34 "HygrometerRoom$Tokens" "kind" "I") (by decide +kernel)
  have lk4 := hts (.fieldLink RX6 9 "HygrometerRoom$Tokens" "bytes" "[B") (by decide +kernel)
  have inc6 : ∀ w ∈ u_ws RX6 TX6 6, w ∈ wsX6_next := by decide +kernel
  intro k
  induction k with
  | zero => intro M eb rb H locs ls htl hk hP hS hl; omega
  | succ k ih =>
    intro M eb rb H locs ls htl hk hP hS hl
    refine lv_aload_n hx hb dX6_next_50 rfl (lv_at hl 0 rfl) ?_
    refine lv_aload_n hx hb dX6_next_51 rfl (lv_at hl 0 rfl) ?_
    refine xg (C := RX6) (T := TX6) (N := 6) (v := .int (M 10 4)) hx hb hts inc6 hown hK hP (by omega) (cell6 (by decide)) rfl 4 (by decide) lk0 (fun _ h => h) rfl dX6_next_52 ?_
    refine xp (C := RX6) (T := TX6) (N := 6) (ci := 6) (ty := .int) (x := M 10 4) hx hb hts inc6 tyX6 tyX6_ok nmX6 hown hK hP hS (by omega) (fun _ => cell6 (by decide)) rfl 3 (by decide) rfl lk1 (fun _ h => h) rfl (tyX6_ok 3 (by decide)) rfl rfl (Nat.le_of_ble_eq_true rfl) dX6_next_55 (fun H locs hP hS => ?_)
    refine lv_aload_n hx hb dX6_next_58 rfl (lv_at hl 0 rfl) ?_
    refine lv_aload_n hx hb dX6_next_59 rfl (lv_at hl 0 rfl) ?_
    refine xg (C := RX6) (T := TX6) (N := 6) (v := .int ((mU M 10 3 (M 10 4)) 10 3)) hx hb hts inc6 hown hK hP (by omega) (cell6 (by decide)) rfl 3 (by decide) lk1 (fun _ h => h) rfl dX6_next_60 ?_
    refine lv_aload_n hx hb dX6_next_63 rfl (lv_at hl 0 rfl) ?_
    refine xg (C := RX6) (T := TX6) (N := 6) (v := .int ((mU M 10 3 (M 10 4)) 10 2)) hx hb hts inc6 hown hK hP (by omega) (cell6 (by decide)) rfl 2 (by decide) lk2 (fun _ h => h) rfl dX6_next_64 ?_
    refine lv_icmp_ge (tgt := 85) hx hb dX6_next_67 (by decide) (fun c67 => ?_) (fun c67 => ?_)
    · refine lv_iconst (v := 0) hx hb dX6_next_85 (by decide) ?_
      refine xp (C := RX6) (T := TX6) (N := 6) (ci := 6) (ty := .int) (x := (0 : Int32)) hx hb hts inc6 tyX6 tyX6_ok nmX6 hown hK hP hS (by omega) (fun _ => cell6 (by decide)) rfl 5 (by decide) rfl lk3 (fun _ h => h) rfl (tyX6_ok 5 (by decide)) rfl rfl (Nat.le_of_ble_eq_true rfl) dX6_next_86 (fun H locs hP hS => ?_)
      rw [show LX6_next_50g (k + 1) M eb rb = LX6_next_89g 1 (mU (mU M 10 3 (M 10 4)) 10 5 (0 : Int32)) eb rb from (by rw [LX6_next_50g, if_pos c67])]
      exact cl_X6_next_89 l D cy b n hn  hx hb hr hlocks hml hown hts hK hX 1 (mU (mU M 10 3 (M 10 4)) 10 5 (0 : Int32)) eb rb H locs ls htl (by first | exact fun h => absurd rfl h | exact fun _ => c67) (by decide) hP hS (lv_sub hl [0, 1, 2] rfl)
    · refine lv_aload_n hx hb dX6_next_70 rfl (lv_at hl 0 rfl) ?_
      refine xg (C := RX6) (T := TX6) (N := 6) (v := .ref (b + 11)) hx hb hts inc6 hown hK hP (by omega) (cell6 (by decide)) rfl 0 (by decide) lk4 (fun _ h => h) rfl dX6_next_71 ?_
      refine lv_aload_n hx hb dX6_next_74 rfl (lv_at hl 0 rfl) ?_
      refine xg (C := RX6) (T := TX6) (N := 6) (v := .int ((mU M 10 3 (M 10 4)) 10 3)) hx hb hts inc6 hown hK hP (by omega) (cell6 (by decide)) rfl 3 (by decide) lk1 (fun _ h => h) rfl dX6_next_75 ?_
      refine xbl (j := ((mU M 10 3 (M 10 4)) 10 3).toNatClampNeg) hx hb hK hP (by omega) (by decide) (vin_cl (ub_ge htl.2) (tl_at htl c67)) rfl dX6_next_78 ?_
      refine xc_i (va_runS (As := [.int ((mU M 10 3 (M 10 4)) 11 (((mU M 10 3 (M 10 4)) 10 3).toNatClampNeg))]) (rest := [.ref (b + 10)]) ⟨hx, hb, hml, hown, hts⟩ (c_X6_kindOf l D cy b n hn (mU M 10 3 (M 10 4)) ((mU M 10 3 (M 10 4)) 11 (((mU M 10 3 (M 10 4)) 10 3).toNatClampNeg))) (va_cwS 1 hts gX6_next_X6_kindOf rfl rfl rfl (by decide +kernel) ⟨Nat.le_of_ble_eq_true rfl, Nat.le_of_ble_eq_true rfl⟩) (xPreS hP hK hX hS) rfl rfl hl.1 rfl (lv_room (Nat.le_of_ble_eq_true rfl)) dX6_next_79 ⟨Nat.le_of_ble_eq_true rfl, Nat.le_of_ble_eq_true rfl⟩) hS (fun H locs hP hS => ?_)
      refine lv_goto (tgt := 86) hx hb dX6_next_82 (by decide) ?_
      refine xp (C := RX6) (T := TX6) (N := 6) (ci := 6) (ty := .int) (x := fX6_kindOf (mU M 10 3 (M 10 4)) ((mU M 10 3 (M 10 4)) 11 (((mU M 10 3 (M 10 4)) 10 3).toNatClampNeg))) hx hb hts inc6 tyX6 tyX6_ok nmX6 hown hK hP hS (by omega) (fun _ => cell6 (by decide)) rfl 5 (by decide) rfl lk3 (fun _ h => h) rfl (tyX6_ok 5 (by decide)) rfl rfl (Nat.le_of_ble_eq_true rfl) dX6_next_86 (fun H locs hP hS => ?_)
      rw [show LX6_next_50g (k + 1) M eb rb = LX6_next_89g 1 (mU (mU M 10 3 (M 10 4)) 10 5 (fX6_kindOf (mU M 10 3 (M 10 4)) ((mU M 10 3 (M 10 4)) 11 (((mU M 10 3 (M 10 4)) 10 3).toNatClampNeg)))) eb rb from (by rw [LX6_next_50g, if_neg c67])]
      exact cl_X6_next_89 l D cy b n hn  hx hb hr hlocks hml hown hts hK hX 1 (mU (mU M 10 3 (M 10 4)) 10 5 (fX6_kindOf (mU M 10 3 (M 10 4)) ((mU M 10 3 (M 10 4)) 11 (((mU M 10 3 (M 10 4)) 10 3).toNatClampNeg)))) eb rb H locs ls htl (by first | exact fun h => absurd rfl h | exact fun _ => c67) (by decide) hP hS (lv_sub hl [0, 1, 2] rfl)

def LX6_next_10g  : Nat → Mem → Int32 → Int32 → Mem
  | 0, M, _, _ => M
  | k + 1, M, eb, rb => if (M 10 2) ≤ (M 10 4) then (LX6_next_50g 1 M eb rb) else (if (fX6_kindOf M (M 11 ((M 10 4).toNatClampNeg))) = (4 : Int32) then (LX6_next_10g k (mU M 10 4 ((M 10 4) + (1 : Int32))) eb rb) else (LX6_next_50g 1 M eb rb))
set_option maxHeartbeats 4000000 in
set_option maxRecDepth 100000 in
theorem cl_X6_next_10 (l : Launch) (D : va_G) (cy : Nat → ClassId) (b n : Nat) (hn : 124 ≤ n)   {p : Program} {e : Env} {s : State} {m : MethodId} {args : Array Value} {below : List Frame} {meth : Method} {c : Code} (hx : p.tables.exec = Jvm.exec) (hb : c.code = cX6_next) (hr : meth.sig.returnType = none) (hlocks : meth.locks = false) (hml : c.maxLocals = 4) (hown : s.vm.findClass RX6 = some m.cls) (hts : ∀ w ∈ wsX6_next, w.before args s = true) (hK : va_K D vwCl (tysW cy) s) (hX : SX b s)  : ∀ (k : Nat) (M : Mem) (eb : Int32) (rb : Int32) (H : Heap) (locs : List Loc) (ls : Array Slot), TL M → 601 ≤ (M 10 4).toNatClampNeg + k → va_P D vwCl (wL cy b fT M n) H → va_S (fr b) s.heap H locs → lv_has ls 4 [(0, .ref (b + 10)), (1, .int eb), (2, .int rb)] → W p l e (headSpec wsX6_next ({ frames := 1, cells := 0, slots := 0, locals := 20 } : Room)).room s m args below meth c H locs 0 0 (MQ below (CQv D cy b n fT (LX6_next_10g k M eb rb)) args s 0 0 (fr b)) (F0 m 10 ls []) := by
  have lk0 := hts (.fieldLink RX6 31 "HygrometerRoom$Tokens" "end" "I") (by decide +kernel)
  have lk1 := hts (.fieldLink RX6 25 "HygrometerRoom$Tokens" "length" "I") (by decide +kernel)
  have lk2 := hts (.fieldLink RX6 9 "HygrometerRoom$Tokens" "bytes" "[B") (by decide +kernel)
  have inc6 : ∀ w ∈ u_ws RX6 TX6 6, w ∈ wsX6_next := by decide +kernel
  intro k
  induction k with
  | zero => intro M eb rb H locs ls htl hk hP hS hl; exact (tl_zero htl hk).elim
  | succ k ih =>
    intro M eb rb H locs ls htl hk hP hS hl
    refine lv_aload_n hx hb dX6_next_10 rfl (lv_at hl 0 rfl) ?_
    refine xg (C := RX6) (T := TX6) (N := 6) (v := .int (M 10 4)) hx hb hts inc6 hown hK hP (by omega) (cell6 (by decide)) rfl 4 (by decide) lk0 (fun _ h => h) rfl dX6_next_11 ?_
    refine lv_aload_n hx hb dX6_next_14 rfl (lv_at hl 0 rfl) ?_
    refine xg (C := RX6) (T := TX6) (N := 6) (v := .int (M 10 2)) hx hb hts inc6 hown hK hP (by omega) (cell6 (by decide)) rfl 2 (by decide) lk1 (fun _ h => h) rfl dX6_next_15 ?_
    refine lv_icmp_ge (tgt := 50) hx hb dX6_next_18 (by decide) (fun c18 => ?_) (fun c18 => ?_)
    · rw [show LX6_next_10g (k + 1) M eb rb = LX6_next_50g 1 M eb rb from (by rw [LX6_next_10g, if_pos c18])]
      exact cl_X6_next_50 l D cy b n hn  hx hb hr hlocks hml hown hts hK hX 1 M eb rb H locs ls htl (by decide) hP hS (lv_sub hl [0, 1, 2] rfl)
    · refine lv_aload_n hx hb dX6_next_21 rfl (lv_at hl 0 rfl) ?_
      refine xg (C := RX6) (T := TX6) (N := 6) (v := .ref (b + 11)) hx hb hts inc6 hown hK hP (by omega) (cell6 (by decide)) rfl 0 (by decide) lk2 (fun _ h => h) rfl dX6_next_22 ?_
      refine lv_aload_n hx hb dX6_next_25 rfl (lv_at hl 0 rfl) ?_
      refine xg (C := RX6) (T := TX6) (N := 6) (v := .int (M 10 4)) hx hb hts inc6 hown hK hP (by omega) (cell6 (by decide)) rfl 4 (by decide) lk0 (fun _ h => h) rfl dX6_next_26 ?_
      refine xbl (j := (M 10 4).toNatClampNeg) hx hb hK hP (by omega) (by decide) (vin_cl (ub_ge htl.2) (tl_at htl c18)) rfl dX6_next_29 ?_
      refine xc_i (va_runS (As := [.int (M 11 ((M 10 4).toNatClampNeg))]) (rest := []) ⟨hx, hb, hml, hown, hts⟩ (c_X6_kindOf l D cy b n hn M (M 11 ((M 10 4).toNatClampNeg))) (va_cwS 1 hts gX6_next_X6_kindOf rfl rfl rfl (by decide +kernel) ⟨Nat.le_of_ble_eq_true rfl, Nat.le_of_ble_eq_true rfl⟩) (xPreS hP hK hX hS) rfl rfl hl.1 rfl (lv_room (Nat.le_of_ble_eq_true rfl)) dX6_next_30 ⟨Nat.le_of_ble_eq_true rfl, Nat.le_of_ble_eq_true rfl⟩) hS (fun H locs hP hS => ?_)
      refine lv_iconst (v := 4) hx hb dX6_next_33 (by decide) ?_
      refine lv_icmp_ne (tgt := 50) hx hb dX6_next_34 (by decide) (fun c34 => ?_) (fun c34 => ?_)
      · rw [show LX6_next_10g (k + 1) M eb rb = LX6_next_50g 1 M eb rb from (by rw [LX6_next_10g, if_neg c18, if_neg c34])]
        exact cl_X6_next_50 l D cy b n hn  hx hb hr hlocks hml hown hts hK hX 1 M eb rb H locs ls htl (by decide) hP hS (lv_sub hl [0, 1, 2] rfl)
      · refine lv_aload_n hx hb dX6_next_37 rfl (lv_at hl 0 rfl) ?_
        refine lv_dup hx hb dX6_next_38 rfl ?_
        refine xg (C := RX6) (T := TX6) (N := 6) (v := .int (M 10 4)) hx hb hts inc6 hown hK hP (by omega) (cell6 (by decide)) rfl 4 (by decide) lk0 (fun _ h => h) rfl dX6_next_39 ?_
        refine lv_iconst (v := 1) hx hb dX6_next_42 (by decide) ?_
        refine lv_iadd hx hb dX6_next_43 ?_
        refine xp (C := RX6) (T := TX6) (N := 6) (ci := 6) (ty := .int) (x := (M 10 4) + (1 : Int32)) hx hb hts inc6 tyX6 tyX6_ok nmX6 hown hK hP hS (by omega) (fun _ => cell6 (by decide)) rfl 4 (by decide) rfl lk0 (fun _ h => h) rfl (tyX6_ok 4 (by decide)) rfl rfl (Nat.le_of_ble_eq_true rfl) dX6_next_44 (fun H locs hP hS => ?_)
        refine lv_goto (tgt := 10) hx hb dX6_next_47 (by decide) ?_
        rw [show LX6_next_10g (k + 1) M eb rb = LX6_next_10g k (mU M 10 4 ((M 10 4) + (1 : Int32))) eb rb from (by rw [LX6_next_10g, if_neg c18, if_pos c34])]
        exact ih (mU M 10 4 ((M 10 4) + (1 : Int32))) eb rb H locs ls (tl_step htl c18) (tl_fuel htl c18 hk) hP hS (lv_sub hl [0, 1, 2] rfl)

def gX6_next (M : Mem) : Mem := LX6_next_10g 601 M (M 10 4) (fX6_isRun M)
set_option maxHeartbeats 4000000 in
set_option maxRecDepth 100000 in
theorem c_X6_next (l : Launch) (D : va_G) (cy : Nat → ClassId) (b n : Nat) (hn : 124 ≤ n) (M : Mem)  (htl : TL M) : Met l yX6_next wsX6_next ({ frames := 1, cells := 0, slots := 0, locals := 20 } : Room) (CP D cy b n fT M [.ref (b + 10)]) (CQv D cy b n fT (gX6_next M)) 0 0 (fr b) := by
  refine Met.ofW (cc := cX6_next) (maxL := 4) (ret := none) (by decide) rfl ?_
  intro p e s m args below meth c s₁ B hml hv
  obtain ⟨rfl, hP, hK, hX⟩ := hv
  have hx := B.exec
  have hb := B.bytes
  have hr := B.returns
  have hts := atoms_spec (ws := wsX6_next) B.pre
  have hown : s.vm.findClass RX6 = some m.cls := findClass_of_methodNamed B.named
  have hlocks := B.notSynchronized
  have lk0 := hts (.fieldLink RX6 31 "HygrometerRoom$Tokens" "end" "I") (by decide +kernel)
  have inc6 : ∀ w ∈ u_ws RX6 TX6 6, w ∈ wsX6_next := by decide +kernel
  have hS : va_S (fr b) s.heap s.heap [] := va_S.rf
  have hl := lv_entry ([.ref (b + 10)]) (n := 4) (Nat.le_of_ble_eq_true rfl)
  rw [lg_entry_eq]
  generalize (lg_sl ([.ref (b + 10)]) ++ List.replicate (4 - (lg_sl ([.ref (b + 10)])).length) Slot.unset).toArray = ls at hl ⊢
  have hl : lv_has ls 4 [(0, .ref (b + 10))] := hl
  refine lv_aload_n hx hb dX6_next_0 rfl (lv_at hl 0 rfl) ?_
  refine xg (C := RX6) (T := TX6) (N := 6) (v := .int (M 10 4)) hx hb hts inc6 hown hK hP (by omega) (cell6 (by decide)) rfl 4 (by decide) lk0 (fun _ h => h) rfl dX6_next_1 ?_
  refine lv_istore_n (lv' := [(1, .int (M 10 4)), (0, .ref (b + 10))]) hx hb dX6_next_4 rfl hl (by decide) rfl (fun ls hl => ?_)
  refine lv_aload_n hx hb dX6_next_5 rfl (lv_at hl 1 rfl) ?_
  refine xc_i (va_runV (As := []) (rest := []) ⟨hx, hb, hml, hown, hts⟩ (c_X6_isRun l D cy b n hn M ) (cwV 0 hts gX6_next_X6_isRun rfl rfl rfl (by decide +kernel) ⟨Nat.le_of_ble_eq_true rfl, Nat.le_of_ble_eq_true rfl⟩) (xPreV hP hK hX hS (by omega) (cell6 (by decide)) rfl) rfl rfl hl.1 rfl (lv_room (Nat.le_of_ble_eq_true rfl)) dX6_next_6 ⟨Nat.le_of_ble_eq_true rfl, Nat.le_of_ble_eq_true rfl⟩) hS (fun H locs hP hS => ?_)
  refine lv_istore_n (lv' := [(2, .int (fX6_isRun M)), (1, .int (M 10 4)), (0, .ref (b + 10))]) hx hb dX6_next_9 rfl hl (by decide) rfl (fun ls hl => ?_)
  rw [show gX6_next M = LX6_next_10g 601 M (M 10 4) (fX6_isRun M) from (by rw [gX6_next])]
  exact cl_X6_next_10 l D cy b n hn  hx hb hr hlocks hml hown hts hK hX 601 M (M 10 4) (fX6_isRun M) H locs ls htl (by omega) hP hS (lv_sub hl [2, 1, 0] rfl)

