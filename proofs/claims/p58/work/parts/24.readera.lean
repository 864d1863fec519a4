/-! the tokens' next: what it leaves as it is -/
def SR (o : Nat) (M M' : Mem) : Prop := ∀ p, p ≠ o → M' p = M p
theorem n181 (k : Nat) (M : Mem) (jn : Int32) : SR 10 M (LX6_next_181g k M jn) ∧ ∀ j, j ≠ 5 → LX6_next_181g k M jn 10 j = M 10 j := by
  cases k with
  | zero => exact ⟨fun _ _ => rfl, fun _ _ => rfl⟩
  | succ k =>
    rw [LX6_next_181g]
    (repeat' split) <;> first | exact ⟨fun _ _ => rfl, fun _ _ => rfl⟩ | exact ⟨fun p hp => mU_ne M 5 _ hp, fun j hj => mU_row hj⟩
theorem n156 (k : Nat) (M : Mem) (eb rb : Int32) : SR 10 M (LX6_next_156g k M eb rb) ∧ ∀ j, j ≠ 5 → LX6_next_156g k M eb rb 10 j = M 10 j := by
  cases k with
  | zero => exact ⟨fun _ _ => rfl, fun _ _ => rfl⟩
  | succ k =>
    rw [LX6_next_156g]
    (repeat' split) <;> exact n181 _ _ _
theorem n106_sr (eb rb : Int32) : ∀ (k : Nat) (M : Mem), SR 10 M (LX6_next_106g k M eb rb) ∧ ∀ j, j ≠ 5 → j ≠ 4 → LX6_next_106g k M eb rb 10 j = M 10 j := by
  intro k
  induction k with
  | zero => intro M; exact ⟨fun _ _ => rfl, fun _ _ _ => rfl⟩
  | succ k ih =>
    intro M
    rw [LX6_next_106g]
    split
    · exact ⟨(n156 _ _ _ _).1, fun j h5 _ => (n156 _ _ _ _).2 j h5⟩
    · split
      · exact ⟨(n156 _ _ _ _).1, fun j h5 _ => (n156 _ _ _ _).2 j h5⟩
      · split
        · exact ⟨fun p hp => ((ih _).1 p hp).trans (mU_ne M 4 _ hp), fun j h5 h4 => ((ih _).2 j h5 h4).trans (mU_row h4)⟩
        · exact ⟨(n156 _ _ _ _).1, fun j h5 _ => (n156 _ _ _ _).2 j h5⟩
theorem n106_tl (eb rb : Int32) : ∀ (k : Nat) (M : Mem), TL M → TL (LX6_next_106g k M eb rb) := by
  intro k
  induction k with
  | zero => intro M h; exact h
  | succ k ih =>
    intro M h
    have h156 : TL (LX6_next_156g 1 M eb rb) := ⟨by rw [(n156 1 M eb rb).2 2 (by decide)]; exact h.1, by rw [(n156 1 M eb rb).2 4 (by decide)]; exact h.2⟩
    rw [LX6_next_106g]
    split
    · exact h156
    · split
      · exact h156
      · rename_i hc
        split
        · exact ih _ (tl_step h hc)
        · exact h156
theorem n89 (k : Nat) (M : Mem) (eb rb : Int32) : SR 10 M (LX6_next_89g k M eb rb) ∧ ∀ j, j ≠ 5 → j ≠ 4 → LX6_next_89g k M eb rb 10 j = M 10 j := by
  cases k with
  | zero => exact ⟨fun _ _ => rfl, fun _ _ _ => rfl⟩
  | succ k =>
    rw [LX6_next_89g]
    split
    · exact n106_sr _ _ _ _
    · exact ⟨fun p hp => ((n106_sr _ _ _ _).1 p hp).trans (mU_ne M 4 _ hp), fun j h5 h4 => ((n106_sr _ _ _ _).2 j h5 h4).trans (mU_row h4)⟩
theorem n89_tl (k : Nat) (M : Mem) (eb rb : Int32) (h : TL M) (he : ¬ M 10 5 = 0 → ¬ M 10 2 ≤ M 10 4) : TL (LX6_next_89g k M eb rb) := by
  cases k with
  | zero => exact h
  | succ k =>
    rw [LX6_next_89g]
    split
    · exact n106_tl _ _ _ _ h
    · rename_i hc
      exact n106_tl _ _ _ _ (tl_step h (he hc))
theorem n50 (k : Nat) (M : Mem) (eb rb : Int32) : SR 10 M (LX6_next_50g k M eb rb) ∧ (∀ j, j < 3 → LX6_next_50g k M eb rb 10 j = M 10 j) ∧ (0 < k → LX6_next_50g k M eb rb 10 3 = M 10 4) ∧ (TL M → TL (LX6_next_50g k M eb rb)) := by
  cases k with
  | zero => exact ⟨fun _ _ => rfl, fun _ _ => rfl, fun h => absurd h (by decide), fun h => h⟩
  | succ k =>
    rw [LX6_next_50g]
    split
    · exact ⟨fun p hp => ((n89 _ _ _ _).1 p hp).trans ((mU_ne _ 5 _ hp).trans (mU_ne M 3 _ hp)), fun j hj => ((n89 _ _ _ _).2 j (by omega) (by omega)).trans ((mU_row (by omega)).trans (mU_row (by omega))), fun _ => ((n89 _ _ _ _).2 3 (by decide) (by decide)), fun h => n89_tl _ _ _ _ h (fun hc => absurd rfl hc)⟩
    · rename_i hc
      exact ⟨fun p hp => ((n89 _ _ _ _).1 p hp).trans ((mU_ne _ 5 _ hp).trans (mU_ne M 3 _ hp)), fun j hj => ((n89 _ _ _ _).2 j (by omega) (by omega)).trans ((mU_row (by omega)).trans (mU_row (by omega))), fun _ => ((n89 _ _ _ _).2 3 (by decide) (by decide)), fun h => n89_tl _ _ _ _ h (fun _ => hc)⟩
theorem n10 (eb rb : Int32) : ∀ (k : Nat) (M : Mem), SR 10 M (LX6_next_10g k M eb rb) ∧ (∀ j, j < 3 → LX6_next_10g k M eb rb 10 j = M 10 j) ∧ (TL M → TL (LX6_next_10g k M eb rb)) ∧ (TL M → 601 ≤ (M 10 4).toNatClampNeg + k → UB (LX6_next_10g k M eb rb 10 3) 600) := by
  intro k
  induction k with
  | zero => intro M; exact ⟨fun _ _ => rfl, fun _ _ => rfl, fun h => h, fun h hk => (tl_zero h hk).elim⟩
  | succ k ih =>
    intro M
    have h50 := n50 1 M eb rb
    have g50 : SR 10 M (LX6_next_50g 1 M eb rb) ∧ (∀ j, j < 3 → LX6_next_50g 1 M eb rb 10 j = M 10 j) ∧ (TL M → TL (LX6_next_50g 1 M eb rb)) ∧ (TL M → 601 ≤ (M 10 4).toNatClampNeg + (k + 1) → UB (LX6_next_50g 1 M eb rb 10 3) 600) := ⟨h50.1, h50.2.1, h50.2.2.2, fun h _ => by rw [h50.2.2.1 (by decide)]; exact h.2⟩
    rw [LX6_next_10g]
    split
    · exact g50
    · rename_i hc
      split
      · obtain ⟨i1, i2, i3, i4⟩ := ih (mU M 10 4 (M 10 4 + 1))
        exact ⟨fun p hp => (i1 p hp).trans (mU_ne M 4 _ hp), fun j hj => (i2 j hj).trans (mU_row (by omega)), fun h => i3 (tl_step h hc), fun h hk => i4 (tl_step h hc) (tl_fuel h hc hk)⟩
      · exact g50
theorem nx_sr (M : Mem) : SR 10 M (gX6_next M) := (n10 _ _ _ _).1
theorem nx_lo (M : Mem) {j : Nat} (hj : j < 3) : gX6_next M 10 j = M 10 j := (n10 _ _ _ _).2.1 j hj
theorem nx_tl {M : Mem} (h : TL M) : TL (gX6_next M) := (n10 _ _ _ _).2.2.1 h
theorem nx_st {M : Mem} (h : TL M) : UB (gX6_next M 10 3) 600 := (n10 _ _ _ _).2.2.2 h (by omega)
theorem nx_tv {M : Mem} (h : TL M) : UB (gX6_next M 10 3) 600 ∧ UB (gX6_next M 10 4) 600 := ⟨nx_st h, (nx_tl h).2⟩
theorem nx_cnt {M : Mem} {r : Nat} (hr : r ≠ 10) (h : CNT M r) : CNT (gX6_next M) r := cnt_row (nx_sr M r hr) h
theorem ub_at {x : Int32} {N : Nat} (h : UB x N) (hN : N < 2 ^ 31 := by decide) : x.toNatClampNeg ≤ N := by
  obtain ⟨k, hk, rfl⟩ := h
  rw [nI_clamp (by omega)]; exact hk
theorem ub_up {i e : Int32} (hi : UB i 600) (he : UB e 600) (hc : ¬ e ≤ i) : i.toNatClampNeg < 600 ∧ UB (i + 1) 600 ∧ (i + 1).toNatClampNeg = i.toNatClampNeg + 1 := by
  obtain ⟨a, ha, rfl⟩ := hi
  obtain ⟨c, hc', rfl⟩ := he
  rw [nI_leI (by omega) (by omega)] at hc
  rw [nI_1, nI_clamp (by omega), nI_clamp (by omega)]
  exact ⟨by omega, ⟨a + 1, by omega, rfl⟩, rfl⟩
def LX6_value_7f  : Nat → Mem → Int32 → Int32 → Int32
  | 0, _, _, _ => 0
  | k + 1, M, v, i => if (M 10 4) ≤ i then v else (LX6_value_7f k M ((v * (10 : Int32)) + ((M 11 i.toNatClampNeg) - (48 : Int32))) (i + 1))
set_option maxHeartbeats 4000000 in
set_option maxRecDepth 100000 in
theorem cl_X6_value_7 (l : Launch) (D : va_G) (cy : Nat → ClassId) (b n : Nat) (hn : 124 ≤ n)   {p : Program} {e : Env} {s : State} {m : MethodId} {args : Array Value} {below : List Frame} {meth : Method} {c : Code} (hx : p.tables.exec = Jvm.exec) (hb : c.code = cX6_value) (hr : meth.sig.returnType = (some .int)) (hlocks : meth.locks = false) (hml : c.maxLocals = 3) (hown : s.vm.findClass RX6 = some m.cls) (hts : ∀ w ∈ wsX6_value, w.before args s = true) (hK : va_K D vwCl (tysW cy) s) (hX : SX b s)  : ∀ (k : Nat) (M : Mem) (v : Int32) (i : Int32) (H : Heap) (locs : List Loc) (ls : Array Slot), UB (M 10 4) 600 → UB i 600 → 601 ≤ i.toNatClampNeg + k → va_P D vwCl (wL cy b fT M n) H → va_S (fr b) s.heap H locs → lv_has ls 3 [(0, .ref (b + 10)), (1, .int v), (2, .int i)] → W p l e (headSpec wsX6_value ({ frames := 0, cells := 0, slots := 0, locals := 0 } : Room)).room s m args below meth c H locs 0 0 (MQ below (CQi D cy b n fT (LX6_value_7f k M v i) M) args s 0 0 (fr b)) (F0 m 7 ls []) := by
  have lk0 := hts (.fieldLink RX6 31 "HygrometerRoom$Tokens" "end" "I") (by decide +kernel)
  have lk1 := hts (.fieldLink RX6 9 "HygrometerRoom$Tokens" "bytes" "[B") (by decide +kernel)
  have inc6 : ∀ w ∈ u_ws RX6 TX6 6, w ∈ wsX6_value := by decide +kernel
  intro k
  induction k with
  | zero => intro M v i H locs ls he hi hk hP hS hl; exact absurd (ub_at hi) (by omega)
  | succ k ih =>
    intro M v i H locs ls he hi hk hP hS hl
    refine lv_iload_n hx hb dX6_value_7 rfl (lv_at hl 2 rfl) ?_
    refine lv_aload_n hx hb dX6_value_8 rfl (lv_at hl 0 rfl) ?_
    refine xg (C := RX6) (T := TX6) (N := 6) (v := .int (M 10 4)) hx hb hts inc6 hown hK hP (by omega) (cell6 (by decide)) rfl 4 (by decide) lk0 (fun _ h => h) rfl dX6_value_9 ?_
    refine lv_icmp_ge (tgt := 36) hx hb dX6_value_12 (by decide) (fun c12 => ?_) (fun c12 => ?_)
    · refine lv_iload_n hx hb dX6_value_36 rfl (lv_at hl 1 rfl) ?_
      exact xe_i hx hb hr hlocks hP hS rfl rfl (by rw [LX6_value_7f, if_pos c12] <;> rfl) (Nat.le_of_ble_eq_true rfl) (Nat.le_of_ble_eq_true rfl) dX6_value_37
    · have hu := ub_up hi he c12
      refine lv_iload_n hx hb dX6_value_15 rfl (lv_at hl 1 rfl) ?_
      refine lv_bipush (v := 10) hx hb dX6_value_16 (by decide) ?_
      refine lv_imul hx hb dX6_value_18 ?_
      refine lv_aload_n hx hb dX6_value_19 rfl (lv_at hl 0 rfl) ?_
      refine xg (C := RX6) (T := TX6) (N := 6) (v := .ref (b + 11)) hx hb hts inc6 hown hK hP (by omega) (cell6 (by decide)) rfl 0 (by decide) lk1 (fun _ h => h) rfl dX6_value_20 ?_
      refine lv_iload_n hx hb dX6_value_23 rfl (lv_at hl 2 rfl) ?_
      refine xbl (j := i.toNatClampNeg) hx hb hK hP (by omega) (by decide) (vin_cl (ub_ge hi) hu.1) rfl dX6_value_24 ?_
      refine lv_bipush (v := 48) hx hb dX6_value_25 (by decide) ?_
      refine lv_isub hx hb dX6_value_27 ?_
      refine lv_iadd hx hb dX6_value_28 ?_
      refine lv_istore_n (lv' := [(1, .int ((v * (10 : Int32)) + ((M 11 i.toNatClampNeg) - (48 : Int32)))), (0, .ref (b + 10)), (2, .int i)]) hx hb dX6_value_29 rfl hl (by decide) rfl (fun ls hl => ?_)
      refine lv_iinc (v := i + 1) (lv' := [(2, .int (i + 1)), (1, .int ((v * (10 : Int32)) + ((M 11 i.toNatClampNeg) - (48 : Int32)))), (0, .ref (b + 10))]) hx hb dX6_value_30 hl (k := 2) rfl rfl (by decide) rfl (fun ls hl => ?_)
      refine lv_goto (tgt := 7) hx hb dX6_value_33 (by decide) ?_
      rw [show LX6_value_7f (k + 1) M v i = LX6_value_7f k M ((v * (10 : Int32)) + ((M 11 i.toNatClampNeg) - (48 : Int32))) (i + 1) from (by rw [LX6_value_7f, if_neg c12])]
      exact ih M ((v * (10 : Int32)) + ((M 11 i.toNatClampNeg) - (48 : Int32))) (i + 1) H locs ls he hu.2.1 (by rw [hu.2.2]; omega) hP hS (lv_sub hl [2, 1, 0] rfl)

def fX6_value (M : Mem) : Int32 := LX6_value_7f 601 M (0 : Int32) (M 10 3)
set_option maxHeartbeats 4000000 in
set_option maxRecDepth 100000 in
theorem c_X6_value (l : Launch) (D : va_G) (cy : Nat → ClassId) (b n : Nat) (hn : 124 ≤ n) (M : Mem)  (hs : UB (M 10 3) 600) (he : UB (M 10 4) 600) : Met l yX6_value wsX6_value ({ frames := 0, cells := 0, slots := 0, locals := 0 } : Room) (CP D cy b n fT M [.ref (b + 10)]) (CQi D cy b n fT (fX6_value M) M) 0 0 (fr b) := by
  refine Met.ofW (cc := cX6_value) (maxL := 3) (ret := (some .int)) (by decide) rfl ?_
  intro p e s m args below meth c s₁ B hml hv
  obtain ⟨rfl, hP, hK, hX⟩ := hv
  have hx := B.exec
  have hb := B.bytes
  have hr := B.returns
  have hts := atoms_spec (ws := wsX6_value) B.pre
  have hown : s.vm.findClass RX6 = some m.cls := findClass_of_methodNamed B.named
  have hlocks := B.notSynchronized
  have lk0 := hts (.fieldLink RX6 28 "HygrometerRoom$Tokens" "start" "I") (by decide +kernel)
  have inc6 : ∀ w ∈ u_ws RX6 TX6 6, w ∈ wsX6_value := by decide +kernel
  have hS : va_S (fr b) s.heap s.heap [] := va_S.rf
  have hl := lv_entry ([.ref (b + 10)]) (n := 3) (Nat.le_of_ble_eq_true rfl)
  rw [lg_entry_eq]
  generalize (lg_sl ([.ref (b + 10)]) ++ List.replicate (3 - (lg_sl ([.ref (b + 10)])).length) Slot.unset).toArray = ls at hl ⊢
  have hl : lv_has ls 3 [(0, .ref (b + 10))] := hl
  refine lv_iconst (v := 0) hx hb dX6_value_0 (by decide) ?_
  refine lv_istore_n (lv' := [(1, .int (0 : Int32)), (0, .ref (b + 10))]) hx hb dX6_value_1 rfl hl (by decide) rfl (fun ls hl => ?_)
  refine lv_aload_n hx hb dX6_value_2 rfl (lv_at hl 1 rfl) ?_
  refine xg (C := RX6) (T := TX6) (N := 6) (v := .int (M 10 3)) hx hb hts inc6 hown hK hP (by omega) (cell6 (by decide)) rfl 3 (by decide) lk0 (fun _ h => h) rfl dX6_value_3 ?_
  refine lv_istore_n (lv' := [(2, .int (M 10 3)), (1, .int (0 : Int32)), (0, .ref (b + 10))]) hx hb dX6_value_6 rfl hl (by decide) rfl (fun ls hl => ?_)
  rw [show fX6_value M = LX6_value_7f 601 M (0 : Int32) (M 10 3) from (by rw [fX6_value])]
  exact cl_X6_value_7 l D cy b n hn  hx hb hr hlocks hml hown hts hK hX 601 M (0 : Int32) (M 10 3) s.heap [] ls he hs (by omega) hP hS (lv_sub hl [2, 1, 0] rfl)
def gX3_fail (M : Mem) (x : Int32) : Mem := mU (mU M 9 2 x) 9 3 ((mU M 9 2 x) 10 3)
set_option maxHeartbeats 4000000 in
set_option maxRecDepth 100000 in
theorem c_X3_fail (l : Launch) (D : va_G) (cy : Nat → ClassId) (b n : Nat) (hn : 124 ≤ n) (M : Mem) (x : Int32)  : Met l yX3_fail wsX3_fail ({ frames := 0, cells := 0, slots := 0, locals := 0 } : Room) (CP D cy b n fT M [.ref (b + 9), .int x]) (CQv D cy b n fT (gX3_fail M x)) 0 0 (fr b) := by
  refine Met.ofW (cc := cX3_fail) (maxL := 2) (ret := none) (by decide) rfl ?_
  intro p e s m args below meth c s₁ B hml hv
  obtain ⟨rfl, hP, hK, hX⟩ := hv
  have hx := B.exec
  have hb := B.bytes
  have hr := B.returns
  have hts := atoms_spec (ws := wsX3_fail) B.pre
  have hown : s.vm.findClass RX3 = some m.cls := findClass_of_methodNamed B.named
  have hlocks := B.notSynchronized
  have lk0 := hts (.fieldLink RX3 29 "HygrometerRoom$Reader" "errorKind" "I") (by decide +kernel)
  have lk1 := hts (.fieldLink RX3 12 "HygrometerRoom$Reader" "tokens" "LHygrometerRoom$Tokens;") (by decide +kernel)
  have lk2 := hts (.fieldLink RX3 167 "HygrometerRoom$Tokens" "start" "I") (by decide +kernel)
  have lk3 := hts (.fieldLink RX3 25 "HygrometerRoom$Reader" "errorOffset" "I") (by decide +kernel)
  have inc3 : ∀ w ∈ u_ws RX3 TX3 4, w ∈ wsX3_fail := by decide +kernel
  have inc6 : ∀ w ∈ u_ws RX6 TX6 6, w ∈ wsX3_fail := by decide +kernel
  have hS : va_S (fr b) s.heap s.heap [] := va_S.rf
  have hl := lv_entry ([.ref (b + 9), .int x]) (n := 2) (Nat.le_of_ble_eq_true rfl)
  rw [lg_entry_eq]
  generalize (lg_sl ([.ref (b + 9), .int x]) ++ List.replicate (2 - (lg_sl ([.ref (b + 9), .int x])).length) Slot.unset).toArray = ls at hl ⊢
  have hl : lv_has ls 2 [(0, .ref (b + 9)), (1, .int x)] := hl
  refine lv_aload_n hx hb dX3_fail_0 rfl (lv_at hl 0 rfl) ?_
  refine lv_iload_n hx hb dX3_fail_1 rfl (lv_at hl 1 rfl) ?_
  refine xp (C := RX3) (T := TX3) (N := 4) (ci := 3) (ty := .int) (x := x) hx hb hts inc3 tyX3 tyX3_ok nmX3 hown hK hP hS (by omega) (fun _ => cell3 (by decide)) rfl 2 (by decide) rfl lk0 (fun _ h => h) rfl (tyX3_ok 2 (by decide)) rfl rfl (Nat.le_of_ble_eq_true rfl) dX3_fail_2 (fun H locs hP hS => ?_)
  refine lv_aload_n hx hb dX3_fail_5 rfl (lv_at hl 0 rfl) ?_
  refine lv_aload_n hx hb dX3_fail_6 rfl (lv_at hl 0 rfl) ?_
  refine xg (C := RX3) (T := TX3) (N := 4) (v := .ref (b + 10)) hx hb hts inc3 hown hK hP (by omega) (cell3 (by decide)) rfl 0 (by decide) lk1 (fun _ h => h) rfl dX3_fail_7 ?_
  refine xg (C := RX6) (T := TX6) (N := 6) (v := .int ((mU M 9 2 x) 10 3)) hx hb hts inc6 hown hK hP (by omega) (cell6 (by decide)) rfl 3 (by decide) lk2 (fun _ h => h) rfl dX3_fail_10 ?_
  refine xp (C := RX3) (T := TX3) (N := 4) (ci := 3) (ty := .int) (x := (mU M 9 2 x) 10 3) hx hb hts inc3 tyX3 tyX3_ok nmX3 hown hK hP hS (by omega) (fun _ => cell3 (by decide)) rfl 3 (by decide) rfl lk3 (fun _ h => h) rfl (tyX3_ok 3 (by decide)) rfl rfl (Nat.le_of_ble_eq_true rfl) dX3_fail_13 (fun H locs hP hS => ?_)
  exact xe_v hx hb hr hlocks hP hS rfl (by rw [gX3_fail] <;> rfl) (Nat.le_of_ble_eq_true rfl) (Nat.le_of_ble_eq_true rfl) dX3_fail_16
theorem fl_sr (M : Mem) (x : Int32) : SR 9 M (gX3_fail M x) := fun p hp => by unfold gX3_fail; rw [mU_ne _ _ _ hp, mU_ne _ _ _ hp]
theorem fl_tl {M : Mem} {x : Int32} (h : TL M) : TL (gX3_fail M x) := by unfold TL; rw [fl_sr M x 10 (by decide)]; exact h
theorem fl_cnt {M : Mem} {x : Int32} {r : Nat} (hr : r ≠ 9) (h : CNT M r) : CNT (gX3_fail M x) r := cnt_row (fl_sr M x r hr) h
theorem fl_ek (M : Mem) (x : Int32) : gX3_fail M x 9 2 = x := by unfold gX3_fail; rw [mU_row (by decide), mU_at]; rfl
def fX3_takeNumber (M : Mem) (x : Int32) (y : Int32) : Int32 := if (M 9 2) = 0 then (if ((gX6_next M) 10 5) = (2 : Int32) then (if (fX6_value (gX6_next M)) < x then ((-1) : Int32) else (if (fX6_value (gX6_next M)) ≤ y then (fX6_value (gX6_next M)) else ((-1) : Int32))) else ((-1) : Int32)) else ((-1) : Int32)
def gX3_takeNumber (M : Mem) (x : Int32) (y : Int32) : Mem := if (M 9 2) = 0 then (if ((gX6_next M) 10 5) = (2 : Int32) then (if (fX6_value (gX6_next M)) < x then (gX3_fail (gX6_next M) (2 : Int32)) else (if (fX6_value (gX6_next M)) ≤ y then (gX6_next M) else (gX3_fail (gX6_next M) (2 : Int32)))) else (gX3_fail (gX6_next M) (1 : Int32))) else M
set_option maxHeartbeats 4000000 in
set_option maxRecDepth 100000 in
theorem c_X3_takeNumber (l : Launch) (D : va_G) (cy : Nat → ClassId) (b n : Nat) (hn : 124 ≤ n) (M : Mem) (x : Int32) (y : Int32) (htl : TL M) : Met l yX3_takeNumber wsX3_takeNumber ({ frames := 2, cells := 0, slots := 0, locals := 43 } : Room) (CP D cy b n fT M [.ref (b + 9), .int x, .int y]) (CQi D cy b n fT (fX3_takeNumber M x y) (gX3_takeNumber M x y)) 0 0 (fr b) := by
  refine Met.ofW (cc := cX3_takeNumber) (maxL := 4) (ret := (some .int)) (by decide) rfl ?_
  intro p e s m args below meth c s₁ B hml hv
  obtain ⟨rfl, hP, hK, hX⟩ := hv
  have hx := B.exec
  have hb := B.bytes
  have hr := B.returns
  have hts := atoms_spec (ws := wsX3_takeNumber) B.pre
  have hown : s.vm.findClass RX3 = some m.cls := findClass_of_methodNamed B.named
  have hlocks := B.notSynchronized
  have lk0 := hts (.fieldLink RX3 29 "HygrometerRoom$Reader" "errorKind" "I") (by decide +kernel)
  have lk1 := hts (.fieldLink RX3 12 "HygrometerRoom$Reader" "tokens" "LHygrometerRoom$Tokens;") (by decide +kernel)
  have lk2 := hts (.fieldLink RX3 42 "HygrometerRoom$Tokens" "kind" "I") (by decide +kernel)
  have inc3 : ∀ w ∈ u_ws RX3 TX3 4, w ∈ wsX3_takeNumber := by decide +kernel
  have inc6 : ∀ w ∈ u_ws RX6 TX6 6, w ∈ wsX3_takeNumber := by decide +kernel
  have hS : va_S (fr b) s.heap s.heap [] := va_S.rf
  have hl := lv_entry ([.ref (b + 9), .int x, .int y]) (n := 4) (Nat.le_of_ble_eq_true rfl)
  rw [lg_entry_eq]
  generalize (lg_sl ([.ref (b + 9), .int x, .int y]) ++ List.replicate (4 - (lg_sl ([.ref (b + 9), .int x, .int y])).length) Slot.unset).toArray = ls at hl ⊢
  have hl : lv_has ls 4 [(0, .ref (b + 9)), (1, .int x), (2, .int y)] := hl
  refine lv_aload_n hx hb dX3_takeNumber_0 rfl (lv_at hl 0 rfl) ?_
  refine xg (C := RX3) (T := TX3) (N := 4) (v := .int (M 9 2)) hx hb hts inc3 hown hK hP (by omega) (cell3 (by decide)) rfl 2 (by decide) lk0 (fun _ h => h) rfl dX3_takeNumber_1 ?_
  refine lv_if_eq (tgt := 9) hx hb dX3_takeNumber_4 (by decide) (fun c4 => ?_) (fun c4 => ?_)
  · refine lv_aload_n hx hb dX3_takeNumber_9 rfl (lv_at hl 0 rfl) ?_
    refine xg (C := RX3) (T := TX3) (N := 4) (v := .ref (b + 10)) hx hb hts inc3 hown hK hP (by omega) (cell3 (by decide)) rfl 0 (by decide) lk1 (fun _ h => h) rfl dX3_takeNumber_10 ?_
    refine xc_v (va_runV (As := []) (rest := []) ⟨hx, hb, hml, hown, hts⟩ (c_X6_next l D cy b n hn M (by first | assumption | omega)) (cwV 0 hts gX3_takeNumber_X6_next rfl rfl rfl (by decide +kernel) ⟨Nat.le_of_ble_eq_true rfl, Nat.le_of_ble_eq_true rfl⟩) (xPreV hP hK hX hS (by omega) (cell6 (by decide)) rfl) rfl rfl hl.1 rfl (lv_room (Nat.le_of_ble_eq_true rfl)) dX3_takeNumber_13 ⟨Nat.le_of_ble_eq_true rfl, Nat.le_of_ble_eq_true rfl⟩) hS (fun H locs hP hS => ?_)
    refine lv_aload_n hx hb dX3_takeNumber_16 rfl (lv_at hl 0 rfl) ?_
    refine xg (C := RX3) (T := TX3) (N := 4) (v := .ref (b + 10)) hx hb hts inc3 hown hK hP (by omega) (cell3 (by decide)) rfl 0 (by decide) lk1 (fun _ h => h) rfl dX3_takeNumber_17 ?_
    refine xg (C := RX6) (T := TX6) (N := 6) (v := .int ((gX6_next M) 10 5)) hx hb hts inc6 hown hK hP (by omega) (cell6 (by decide)) rfl 5 (by decide) lk2 (fun _ h => h) rfl dX3_takeNumber_20 ?_
    refine lv_iconst (v := 2) hx hb dX3_takeNumber_23 (by decide) ?_
    refine lv_icmp_eq (tgt := 34) hx hb dX3_takeNumber_24 (by decide) (fun c24 => ?_) (fun c24 => ?_)
    · refine lv_aload_n hx hb dX3_takeNumber_34 rfl (lv_at hl 0 rfl) ?_
      refine xg (C := RX3) (T := TX3) (N := 4) (v := .ref (b + 10)) hx hb hts inc3 hown hK hP (by omega) (cell3 (by decide)) rfl 0 (by decide) lk1 (fun _ h => h) rfl dX3_takeNumber_35 ?_
      refine xc_i (va_runV (As := []) (rest := []) ⟨hx, hb, hml, hown, hts⟩ (c_X6_value l D cy b n hn (gX6_next M) (nx_tv htl).1 (nx_tv htl).2) (cwV 0 hts gX3_takeNumber_X6_value rfl rfl rfl (by decide +kernel) ⟨Nat.le_of_ble_eq_true rfl, Nat.le_of_ble_eq_true rfl⟩) (xPreV hP hK hX hS (by omega) (cell6 (by decide)) rfl) rfl rfl hl.1 rfl (lv_room (Nat.le_of_ble_eq_true rfl)) dX3_takeNumber_38 ⟨Nat.le_of_ble_eq_true rfl, Nat.le_of_ble_eq_true rfl⟩) hS (fun H locs hP hS => ?_)
      refine lv_istore_n (lv' := [(3, .int (fX6_value (gX6_next M))), (0, .ref (b + 9)), (1, .int x), (2, .int y)]) hx hb dX3_takeNumber_41 rfl hl (by decide) rfl (fun ls hl => ?_)
      refine lv_iload_n hx hb dX3_takeNumber_42 rfl (lv_at hl 0 rfl) ?_
      refine lv_iload_n hx hb dX3_takeNumber_43 rfl (lv_at hl 2 rfl) ?_
      refine lv_icmp_lt (tgt := 52) hx hb dX3_takeNumber_44 (by decide) (fun c44 => ?_) (fun c44 => ?_)
      · refine lv_aload_n hx hb dX3_takeNumber_52 rfl (lv_at hl 1 rfl) ?_
        refine lv_iconst (v := 2) hx hb dX3_takeNumber_53 (by decide) ?_
        refine xc_v (va_runV (As := [.int (2 : Int32)]) (rest := []) ⟨hx, hb, hml, hown, hts⟩ (c_X3_fail l D cy b n hn (gX6_next M) (2 : Int32)) (cwV 1 hts gX3_takeNumber_X3_fail rfl rfl rfl (by decide +kernel) ⟨Nat.le_of_ble_eq_true rfl, Nat.le_of_ble_eq_true rfl⟩) (xPreV hP hK hX hS (by omega) (cell3 (by decide)) rfl) rfl rfl hl.1 rfl (lv_room (Nat.le_of_ble_eq_true rfl)) dX3_takeNumber_54 ⟨Nat.le_of_ble_eq_true rfl, Nat.le_of_ble_eq_true rfl⟩) hS (fun H locs hP hS => ?_)
        refine lv_iconst (v := (-1)) hx hb dX3_takeNumber_57 (by decide) ?_
        exact xe_i hx hb hr hlocks hP hS rfl (by rw [gX3_takeNumber, if_pos c4, if_pos c24, if_pos c44] <;> rfl) (by rw [fX3_takeNumber, if_pos c4, if_pos c24, if_pos c44] <;> rfl) (Nat.le_of_ble_eq_true rfl) (Nat.le_of_ble_eq_true rfl) dX3_takeNumber_58
      · refine lv_iload_n hx hb dX3_takeNumber_47 rfl (lv_at hl 0 rfl) ?_
        refine lv_iload_n hx hb dX3_takeNumber_48 rfl (lv_at hl 3 rfl) ?_
        refine lv_icmp_le (tgt := 59) hx hb dX3_takeNumber_49 (by decide) (fun c49 => ?_) (fun c49 => ?_)
        · refine lv_iload_n hx hb dX3_takeNumber_59 rfl (lv_at hl 0 rfl) ?_
          exact xe_i hx hb hr hlocks hP hS rfl (by rw [gX3_takeNumber, if_pos c4, if_pos c24, if_neg c44, if_pos c49] <;> rfl) (by rw [fX3_takeNumber, if_pos c4, if_pos c24, if_neg c44, if_pos c49] <;> rfl) (Nat.le_of_ble_eq_true rfl) (Nat.le_of_ble_eq_true rfl) dX3_takeNumber_60
        · refine lv_aload_n hx hb dX3_takeNumber_52 rfl (lv_at hl 1 rfl) ?_
          refine lv_iconst (v := 2) hx hb dX3_takeNumber_53 (by decide) ?_
          refine xc_v (va_runV (As := [.int (2 : Int32)]) (rest := []) ⟨hx, hb, hml, hown, hts⟩ (c_X3_fail l D cy b n hn (gX6_next M) (2 : Int32)) (cwV 1 hts gX3_takeNumber_X3_fail rfl rfl rfl (by decide +kernel) ⟨Nat.le_of_ble_eq_true rfl, Nat.le_of_ble_eq_true rfl⟩) (xPreV hP hK hX hS (by omega) (cell3 (by decide)) rfl) rfl rfl hl.1 rfl (lv_room (Nat.le_of_ble_eq_true rfl)) dX3_takeNumber_54 ⟨Nat.le_of_ble_eq_true rfl, Nat.le_of_ble_eq_true rfl⟩) hS (fun H locs hP hS => ?_)
          refine lv_iconst (v := (-1)) hx hb dX3_takeNumber_57 (by decide) ?_
          exact xe_i hx hb hr hlocks hP hS rfl (by rw [gX3_takeNumber, if_pos c4, if_pos c24, if_neg c44, if_neg c49] <;> rfl) (by rw [fX3_takeNumber, if_pos c4, if_pos c24, if_neg c44, if_neg c49] <;> rfl) (Nat.le_of_ble_eq_true rfl) (Nat.le_of_ble_eq_true rfl) dX3_takeNumber_58
    · refine lv_aload_n hx hb dX3_takeNumber_27 rfl (lv_at hl 0 rfl) ?_
      refine lv_iconst (v := 1) hx hb dX3_takeNumber_28 (by decide) ?_
      refine xc_v (va_runV (As := [.int (1 : Int32)]) (rest := []) ⟨hx, hb, hml, hown, hts⟩ (c_X3_fail l D cy b n hn (gX6_next M) (1 : Int32)) (cwV 1 hts gX3_takeNumber_X3_fail rfl rfl rfl (by decide +kernel) ⟨Nat.le_of_ble_eq_true rfl, Nat.le_of_ble_eq_true rfl⟩) (xPreV hP hK hX hS (by omega) (cell3 (by decide)) rfl) rfl rfl hl.1 rfl (lv_room (Nat.le_of_ble_eq_true rfl)) dX3_takeNumber_29 ⟨Nat.le_of_ble_eq_true rfl, Nat.le_of_ble_eq_true rfl⟩) hS (fun H locs hP hS => ?_)
      refine lv_iconst (v := (-1)) hx hb dX3_takeNumber_32 (by decide) ?_
      exact xe_i hx hb hr hlocks hP hS rfl (by rw [gX3_takeNumber, if_pos c4, if_neg c24] <;> rfl) (by rw [fX3_takeNumber, if_pos c4, if_neg c24] <;> rfl) (Nat.le_of_ble_eq_true rfl) (Nat.le_of_ble_eq_true rfl) dX3_takeNumber_33
  · refine lv_iconst (v := (-1)) hx hb dX3_takeNumber_7 (by decide) ?_
    exact xe_i hx hb hr hlocks hP hS rfl (by rw [gX3_takeNumber, if_neg c4] <;> rfl) (by rw [fX3_takeNumber, if_neg c4] <;> rfl) (Nat.le_of_ble_eq_true rfl) (Nat.le_of_ble_eq_true rfl) dX3_takeNumber_8
theorem tk_sr (M : Mem) (x y : Int32) {p : Nat} (h9 : p ≠ 9) (h10 : p ≠ 10) : gX3_takeNumber M x y p = M p := by
  unfold gX3_takeNumber
  (repeat' split) <;> first | rfl | exact nx_sr M p h10 | exact (fl_sr _ _ p h9).trans (nx_sr M p h10)
theorem tk_tl {M : Mem} {x y : Int32} (h : TL M) : TL (gX3_takeNumber M x y) := by
  unfold gX3_takeNumber
  (repeat' split) <;> first | exact h | exact nx_tl h | exact fl_tl (nx_tl h)
theorem tk_cnt {M : Mem} {x y : Int32} {r : Nat} (h9 : r ≠ 9) (h10 : r ≠ 10) (h : CNT M r) : CNT (gX3_takeNumber M x y) r := cnt_row (tk_sr M x y h9 h10) h
theorem tk_rng {M : Mem} {x y : Int32} (h : gX3_takeNumber M x y 9 2 = 0) : ¬ fX3_takeNumber M x y < x ∧ fX3_takeNumber M x y ≤ y := by
  unfold gX3_takeNumber at h
  unfold fX3_takeNumber
  by_cases h1 : M 9 2 = 0
  · rw [if_pos h1] at h ⊢
    by_cases h2 : gX6_next M 10 5 = (2 : Int32)
    · rw [if_pos h2] at h ⊢
      by_cases h3 : fX6_value (gX6_next M) < x
      · rw [if_pos h3, fl_ek] at h; exact absurd h (by decide)
      · rw [if_neg h3] at h ⊢
        by_cases h4 : fX6_value (gX6_next M) ≤ y
        · rw [if_pos h4]; exact ⟨h3, h4⟩
        · rw [if_neg h4, fl_ek] at h; exact absurd h (by decide)
    · rw [if_neg h2, fl_ek] at h; exact absurd h (by decide)
  · rw [if_neg h1] at h; exact absurd h h1
theorem tk_ub {M : Mem} {z : Int32} (h : gX3_takeNumber M 1 (xmin 99 z) 9 2 = 0) : UB (fX3_takeNumber M 1 (xmin 99 z)) 200 := by
  obtain ⟨h1, h2⟩ := tk_rng h
  have h3 : xmin 99 z ≤ 99 := by unfold xmin; split <;> first | exact Int32.le_of_lt ‹_› | exact Int32.le_refl _
  have h4 := Int32.le_trans h2 h3
  obtain ⟨j, hj, e⟩ := nI_of (x := fX3_takeNumber M 1 (xmin 99 z)) (fun hh => h1 (Int32.lt_trans hh (by decide)))
  rw [e, show (99 : Int32) = nI 99 from rfl, nI_leI hj (by decide)] at h4
  exact ⟨j, by omega, e⟩
def fX3_takeInstrument (M : Mem) : Option Nat := fX4_find (gX3_takeNumber M (0 : Int32) ((M 12 1) - (1 : Int32))) 12 (fX3_takeNumber M (0 : Int32) ((M 12 1) - (1 : Int32)))
def gX3_takeInstrument (M : Mem) : Mem := gX3_takeNumber M (0 : Int32) ((M 12 1) - (1 : Int32))
set_option maxHeartbeats 4000000 in
set_option maxRecDepth 100000 in
theorem c_X3_takeInstrument (l : Launch) (D : va_G) (cy : Nat → ClassId) (b n : Nat) (hn : 124 ≤ n) (M : Mem)  (htl : TL M) (hcd : CNT M 12) : Met l yX3_takeInstrument wsX3_takeInstrument ({ frames := 3, cells := 0, slots := 0, locals := 66 } : Room) (CP D cy b n fT M [.ref (b + 9)]) (CQq D cy b n fT ((fX3_takeInstrument M).map (fun o => b + o)) (gX3_takeInstrument M)) 0 0 (fr b) := by
  refine Met.ofW (cc := cX3_takeInstrument) (maxL := 1) (ret := (some (.object "HygrometerRoom$Instrument"))) (by decide) rfl ?_
  intro p e s m args below meth c s₁ B hml hv
  obtain ⟨rfl, hP, hK, hX⟩ := hv
  have hx := B.exec
  have hb := B.bytes
  have hr := B.returns
  have hts := atoms_spec (ws := wsX3_takeInstrument) B.pre
  have hown : s.vm.findClass RX3 = some m.cls := findClass_of_methodNamed B.named
  have hlocks := B.notSynchronized
  have lk0 := hts (.fieldLink RX3 21 "HygrometerRoom$Reader" "draft" "LHygrometerRoom$Room;") (by decide +kernel)
  have lk1 := hts (.fieldLink RX3 112 "HygrometerRoom$Room" "count" "I") (by decide +kernel)
  have inc3 : ∀ w ∈ u_ws RX3 TX3 4, w ∈ wsX3_takeInstrument := by decide +kernel
  have inc4 : ∀ w ∈ u_ws RX4 TX4 8, w ∈ wsX3_takeInstrument := by decide +kernel
  have hS : va_S (fr b) s.heap s.heap [] := va_S.rf
  have hl := lv_entry ([.ref (b + 9)]) (n := 1) (Nat.le_of_ble_eq_true rfl)
  rw [lg_entry_eq]
  generalize (lg_sl ([.ref (b + 9)]) ++ List.replicate (1 - (lg_sl ([.ref (b + 9)])).length) Slot.unset).toArray = ls at hl ⊢
  have hl : lv_has ls 1 [(0, .ref (b + 9))] := hl
  refine lv_aload_n hx hb dX3_takeInstrument_0 rfl (lv_at hl 0 rfl) ?_
  refine xg (C := RX3) (T := TX3) (N := 4) (v := .ref (b + 12)) hx hb hts inc3 hown hK hP (by omega) (cell3 (by decide)) rfl 1 (by decide) lk0 (fun _ h => h) rfl dX3_takeInstrument_1 ?_
  refine lv_aload_n hx hb dX3_takeInstrument_4 rfl (lv_at hl 0 rfl) ?_
  refine lv_iconst (v := 0) hx hb dX3_takeInstrument_5 (by decide) ?_
  refine lv_aload_n hx hb dX3_takeInstrument_6 rfl (lv_at hl 0 rfl) ?_
  refine xg (C := RX3) (T := TX3) (N := 4) (v := .ref (b + 12)) hx hb hts inc3 hown hK hP (by omega) (cell3 (by decide)) rfl 1 (by decide) lk0 (fun _ h => h) rfl dX3_takeInstrument_7 ?_
  refine xg (C := RX4) (T := TX4) (N := 8) (v := .int (M 12 1)) hx hb hts inc4 hown hK hP (by omega) (cell4 (by decide)) rfl 1 (by decide) lk1 (fun _ h => h) rfl dX3_takeInstrument_10 ?_
  refine lv_iconst (v := 1) hx hb dX3_takeInstrument_13 (by decide) ?_
  refine lv_isub hx hb dX3_takeInstrument_14 ?_
  refine xc_i (va_runV (As := [.int (0 : Int32), .int ((M 12 1) - (1 : Int32))]) (rest := [.ref (b + 12)]) ⟨hx, hb, hml, hown, hts⟩ (c_X3_takeNumber l D cy b n hn M (0 : Int32) ((M 12 1) - (1 : Int32)) htl) (cwV 2 hts gX3_takeInstrument_X3_takeNumber rfl rfl rfl (by decide +kernel) ⟨Nat.le_of_ble_eq_true rfl, Nat.le_of_ble_eq_true rfl⟩) (xPreV hP hK hX hS (by omega) (cell3 (by decide)) rfl) rfl rfl hl.1 rfl (lv_room (Nat.le_of_ble_eq_true rfl)) dX3_takeInstrument_15 ⟨Nat.le_of_ble_eq_true rfl, Nat.le_of_ble_eq_true rfl⟩) hS (fun H locs hP hS => ?_)
  refine xc_q (va_runV (As := [.int (fX3_takeNumber M (0 : Int32) ((M 12 1) - (1 : Int32)))]) (rest := []) ⟨hx, hb, hml, hown, hts⟩ (c_X4_find l D cy b n hn (gX3_takeNumber M (0 : Int32) ((M 12 1) - (1 : Int32))) 12 (fX3_takeNumber M (0 : Int32) ((M 12 1) - (1 : Int32))) (by decide) (by repeat (first | assumption | apply tk_cnt (by decide) (by decide) | apply fl_cnt (by decide) | apply nx_cnt (by decide)))) (cwV 1 hts gX3_takeInstrument_X4_find rfl rfl rfl (by decide +kernel) ⟨Nat.le_of_ble_eq_true rfl, Nat.le_of_ble_eq_true rfl⟩) (xPreV hP hK hX hS (by omega) (cell4 (by decide)) rfl) rfl rfl hl.1 rfl (lv_room (Nat.le_of_ble_eq_true rfl)) dX3_takeInstrument_18 ⟨Nat.le_of_ble_eq_true rfl, Nat.le_of_ble_eq_true rfl⟩) hS (fun H locs hP hS => ?_)
  exact xe_q hx hb hr hlocks hP hS rfl (by rw [gX3_takeInstrument] <;> rfl) (by rw [fX3_takeInstrument] <;> rfl) (Nat.le_of_ble_eq_true rfl) (Nat.le_of_ble_eq_true rfl) dX3_takeInstrument_21
theorem ti_tl {M : Mem} (h : TL M) : TL (gX3_takeInstrument M) := tk_tl h
theorem ti_sr (M : Mem) {p : Nat} (h9 : p ≠ 9) (h10 : p ≠ 10) : gX3_takeInstrument M p = M p := tk_sr M _ _ h9 h10
theorem ti_cnt {M : Mem} {r : Nat} (h9 : r ≠ 9) (h10 : r ≠ 10) (h : CNT M r) : CNT (gX3_takeInstrument M) r := cnt_row (ti_sr M h9 h10) h
theorem find_kd {M : Mem} {r o : Nat} {x : Int32} (hr : kd r = 4) (hc : CNT M r) (h : fX4_find M r x = some o) : kd o = 1 := by
  unfold fX4_find at h
  split at h
  · cases h
  · rename_i h0
    split at h
    · cases h
    · rename_i h1
      cases h
      exact kd_ins hr (xfind_lt hc h0 h1)
theorem ti_kd {M : Mem} {o : Nat} (hc : CNT M 12) (h : fX3_takeInstrument M = some o) : kd o = 1 := find_kd (M := gX3_takeNumber M 0 (M 12 1 - 1)) (by decide) (tk_cnt (by decide) (by decide) hc) h
def gX3_readHumidity (M : Mem) : Mem := if ((gX3_takeNumber M (0 : Int32) (100 : Int32)) 9 2) = 0 then (mU (gX3_takeNumber M (0 : Int32) (100 : Int32)) 12 3 (fX3_takeNumber M (0 : Int32) (100 : Int32))) else (gX3_takeNumber M (0 : Int32) (100 : Int32))
set_option maxHeartbeats 4000000 in
set_option maxRecDepth 100000 in
theorem c_X3_readHumidity (l : Launch) (D : va_G) (cy : Nat → ClassId) (b n : Nat) (hn : 124 ≤ n) (M : Mem)  (htl : TL M) : Met l yX3_readHumidity wsX3_readHumidity ({ frames := 3, cells := 0, slots := 0, locals := 66 } : Room) (CP D cy b n fT M [.ref (b + 9)]) (CQv D cy b n fT (gX3_readHumidity M)) 0 0 (fr b) := by
  refine Met.ofW (cc := cX3_readHumidity) (maxL := 2) (ret := none) (by decide) rfl ?_
  intro p e s m args below meth c s₁ B hml hv
  obtain ⟨rfl, hP, hK, hX⟩ := hv
  have hx := B.exec
  have hb := B.bytes
  have hr := B.returns
  have hts := atoms_spec (ws := wsX3_readHumidity) B.pre
  have hown : s.vm.findClass RX3 = some m.cls := findClass_of_methodNamed B.named
  have hlocks := B.notSynchronized
  have lk0 := hts (.fieldLink RX3 29 "HygrometerRoom$Reader" "errorKind" "I") (by decide +kernel)
  have lk1 := hts (.fieldLink RX3 21 "HygrometerRoom$Reader" "draft" "LHygrometerRoom$Room;") (by decide +kernel)
  have lk2 := hts (.fieldLink RX3 145 "HygrometerRoom$Room" "humidity" "I") (by decide +kernel)
  have inc3 : ∀ w ∈ u_ws RX3 TX3 4, w ∈ wsX3_readHumidity := by decide +kernel
  have inc4 : ∀ w ∈ u_ws RX4 TX4 8, w ∈ wsX3_readHumidity := by decide +kernel
  have hS : va_S (fr b) s.heap s.heap [] := va_S.rf
  have hl := lv_entry ([.ref (b + 9)]) (n := 2) (Nat.le_of_ble_eq_true rfl)
  rw [lg_entry_eq]
  generalize (lg_sl ([.ref (b + 9)]) ++ List.replicate (2 - (lg_sl ([.ref (b + 9)])).length) Slot.unset).toArray = ls at hl ⊢
  have hl : lv_has ls 2 [(0, .ref (b + 9))] := hl
  refine lv_aload_n hx hb dX3_readHumidity_0 rfl (lv_at hl 0 rfl) ?_
  refine lv_iconst (v := 0) hx hb dX3_readHumidity_1 (by decide) ?_
  refine lv_bipush (v := 100) hx hb dX3_readHumidity_2 (by decide) ?_
  refine xc_i (va_runV (As := [.int (0 : Int32), .int (100 : Int32)]) (rest := []) ⟨hx, hb, hml, hown, hts⟩ (c_X3_takeNumber l D cy b n hn M (0 : Int32) (100 : Int32) (by repeat (first | assumption | apply tk_tl | apply fl_tl | apply nx_tl))) (cwV 2 hts gX3_readHumidity_X3_takeNumber rfl rfl rfl (by decide +kernel) ⟨Nat.le_of_ble_eq_true rfl, Nat.le_of_ble_eq_true rfl⟩) (xPreV hP hK hX hS (by omega) (cell3 (by decide)) rfl) rfl rfl hl.1 rfl (lv_room (Nat.le_of_ble_eq_true rfl)) dX3_readHumidity_4 ⟨Nat.le_of_ble_eq_true rfl, Nat.le_of_ble_eq_true rfl⟩) hS (fun H locs hP hS => ?_)
  refine lv_istore_n (lv' := [(1, .int (fX3_takeNumber M (0 : Int32) (100 : Int32))), (0, .ref (b + 9))]) hx hb dX3_readHumidity_7 rfl hl (by decide) rfl (fun ls hl => ?_)
  refine lv_aload_n hx hb dX3_readHumidity_8 rfl (lv_at hl 1 rfl) ?_
  refine xg (C := RX3) (T := TX3) (N := 4) (v := .int ((gX3_takeNumber M (0 : Int32) (100 : Int32)) 9 2)) hx hb hts inc3 hown hK hP (by omega) (cell3 (by decide)) rfl 2 (by decide) lk0 (fun _ h => h) rfl dX3_readHumidity_9 ?_
  refine lv_if_ne (tgt := 23) hx hb dX3_readHumidity_12 (by decide) (fun c12 => ?_) (fun c12 => ?_)
  · exact xe_v hx hb hr hlocks hP hS rfl (by rw [gX3_readHumidity, if_neg c12] <;> rfl) (Nat.le_of_ble_eq_true rfl) (Nat.le_of_ble_eq_true rfl) dX3_readHumidity_23
  · refine lv_aload_n hx hb dX3_readHumidity_15 rfl (lv_at hl 1 rfl) ?_
    refine xg (C := RX3) (T := TX3) (N := 4) (v := .ref (b + 12)) hx hb hts inc3 hown hK hP (by omega) (cell3 (by decide)) rfl 1 (by decide) lk1 (fun _ h => h) rfl dX3_readHumidity_16 ?_
    refine lv_iload_n hx hb dX3_readHumidity_19 rfl (lv_at hl 0 rfl) ?_
    refine xp (C := RX4) (T := TX4) (N := 8) (ci := 4) (ty := .int) (x := fX3_takeNumber M (0 : Int32) (100 : Int32)) hx hb hts inc4 tyX4 tyX4_ok nmX4 hown hK hP hS (by omega) (fun _ => cell4 (by decide)) rfl 3 (by decide) rfl lk2 (fun _ h => h) rfl (tyX4_ok 3 (by decide)) rfl rfl (Nat.le_of_ble_eq_true rfl) dX3_readHumidity_20 (fun H locs hP hS => ?_)
    exact xe_v hx hb hr hlocks hP hS rfl (by rw [gX3_readHumidity, if_pos c12] <;> rfl) (Nat.le_of_ble_eq_true rfl) (Nat.le_of_ble_eq_true rfl) dX3_readHumidity_23
def gX3_readMinutes (M : Mem) : Mem := if ((gX3_takeNumber M (1 : Int32) (xmin (99 : Int32) ((9999 : Int32) - (M 12 2)))) 9 2) = 0 then (gX4_pass (gX3_takeNumber M (1 : Int32) (xmin (99 : Int32) ((9999 : Int32) - (M 12 2)))) 12 (fX3_takeNumber M (1 : Int32) (xmin (99 : Int32) ((9999 : Int32) - (M 12 2))))) else (gX3_takeNumber M (1 : Int32) (xmin (99 : Int32) ((9999 : Int32) - (M 12 2))))
set_option maxHeartbeats 4000000 in
set_option maxRecDepth 100000 in
theorem c_X3_readMinutes (l : Launch) (D : va_G) (cy : Nat → ClassId) (b n : Nat) (hn : 124 ≤ n) (M : Mem)  (htl : TL M) (hcd : CNT M 12) : Met l yX3_readMinutes wsX3_readMinutes ({ frames := 4, cells := 0, slots := 0, locals := 89 } : Room) (CP D cy b n fT M [.ref (b + 9)]) (CQv D cy b n fT (gX3_readMinutes M)) 0 0 (fr b) := by
  refine Met.ofW (cc := cX3_readMinutes) (maxL := 2) (ret := none) (by decide) rfl ?_
  intro p e s m args below meth c s₁ B hml hv
  obtain ⟨rfl, hP, hK, hX⟩ := hv
  have hx := B.exec
  have hb := B.bytes
  have hr := B.returns
  have hts := atoms_spec (ws := wsX3_readMinutes) B.pre
  have hown : s.vm.findClass RX3 = some m.cls := findClass_of_methodNamed B.named
  have hlocks := B.notSynchronized
  have lk0 := hts (.fieldLink RX3 21 "HygrometerRoom$Reader" "draft" "LHygrometerRoom$Room;") (by decide +kernel)
  have lk1 := hts (.fieldLink RX3 147 "HygrometerRoom$Room" "minute" "I") (by decide +kernel)
  have lk2 := hts (.methodLink RX3 150 Lib.Math.min.name) (by decide +kernel)
  have lk3 := hts (.static Lib.Math.min.name) (by decide +kernel)
  have lk4 := hts (.initialized "java/lang/Math") (by decide +kernel)
  have lk5 := hts (.code Lib.Math.min.name Lib.Math.min.code 2 (some .int)) (by decide +kernel)
  have lk6 := hts (.fieldLink RX3 29 "HygrometerRoom$Reader" "errorKind" "I") (by decide +kernel)
  have inc3 : ∀ w ∈ u_ws RX3 TX3 4, w ∈ wsX3_readMinutes := by decide +kernel
  have inc4 : ∀ w ∈ u_ws RX4 TX4 8, w ∈ wsX3_readMinutes := by decide +kernel
  have hS : va_S (fr b) s.heap s.heap [] := va_S.rf
  have hl := lv_entry ([.ref (b + 9)]) (n := 2) (Nat.le_of_ble_eq_true rfl)
  rw [lg_entry_eq]
  generalize (lg_sl ([.ref (b + 9)]) ++ List.replicate (2 - (lg_sl ([.ref (b + 9)])).length) Slot.unset).toArray = ls at hl ⊢
  have hl : lv_has ls 2 [(0, .ref (b + 9))] := hl
  refine lv_aload_n hx hb dX3_readMinutes_0 rfl (lv_at hl 0 rfl) ?_
  refine lv_iconst (v := 1) hx hb dX3_readMinutes_1 (by decide) ?_
  refine lv_bipush (v := 99) hx hb dX3_readMinutes_2 (by decide) ?_
  refine lv_sipush (v := 9999) hx hb dX3_readMinutes_4 (by decide) ?_
  refine lv_aload_n hx hb dX3_readMinutes_7 rfl (lv_at hl 0 rfl) ?_
  refine xg (C := RX3) (T := TX3) (N := 4) (v := .ref (b + 12)) hx hb hts inc3 hown hK hP (by omega) (cell3 (by decide)) rfl 1 (by decide) lk0 (fun _ h => h) rfl dX3_readMinutes_8 ?_
  refine xg (C := RX4) (T := TX4) (N := 8) (v := .int (M 12 2)) hx hb hts inc4 hown hK hP (by omega) (cell4 (by decide)) rfl 2 (by decide) lk1 (fun _ h => h) rfl dX3_readMinutes_11 ?_
  refine lv_isub hx hb dX3_readMinutes_14 ?_
  refine x_mmin hx hb (hml.trans hl.1.symm) hown lk2 lk3 lk4 lk5 (Nat.le_of_ble_eq_true rfl) (Nat.le_of_ble_eq_true rfl) (Nat.le_of_ble_eq_true rfl) (Nat.le_of_ble_eq_true rfl) dX3_readMinutes_15 ?_
  refine xc_i (va_runV (As := [.int (1 : Int32), .int (xmin (99 : Int32) ((9999 : Int32) - (M 12 2)))]) (rest := []) ⟨hx, hb, hml, hown, hts⟩ (c_X3_takeNumber l D cy b n hn M (1 : Int32) (xmin (99 : Int32) ((9999 : Int32) - (M 12 2))) (by repeat (first | assumption | apply tk_tl | apply fl_tl | apply nx_tl))) (cwV 2 hts gX3_readMinutes_X3_takeNumber rfl rfl rfl (by decide +kernel) ⟨Nat.le_of_ble_eq_true rfl, Nat.le_of_ble_eq_true rfl⟩) (xPreV hP hK hX hS (by omega) (cell3 (by decide)) rfl) rfl rfl hl.1 rfl (lv_room (Nat.le_of_ble_eq_true rfl)) dX3_readMinutes_18 ⟨Nat.le_of_ble_eq_true rfl, Nat.le_of_ble_eq_true rfl⟩) hS (fun H locs hP hS => ?_)
  refine lv_istore_n (lv' := [(1, .int (fX3_takeNumber M (1 : Int32) (xmin (99 : Int32) ((9999 : Int32) - (M 12 2))))), (0, .ref (b + 9))]) hx hb dX3_readMinutes_21 rfl hl (by decide) rfl (fun ls hl => ?_)
  refine lv_aload_n hx hb dX3_readMinutes_22 rfl (lv_at hl 1 rfl) ?_
  refine xg (C := RX3) (T := TX3) (N := 4) (v := .int ((gX3_takeNumber M (1 : Int32) (xmin (99 : Int32) ((9999 : Int32) - (M 12 2)))) 9 2)) hx hb hts inc3 hown hK hP (by omega) (cell3 (by decide)) rfl 2 (by decide) lk6 (fun _ h => h) rfl dX3_readMinutes_23 ?_
  refine lv_if_ne (tgt := 38) hx hb dX3_readMinutes_26 (by decide) (fun c26 => ?_) (fun c26 => ?_)
  · exact xe_v hx hb hr hlocks hP hS rfl (by rw [gX3_readMinutes, if_neg c26] <;> rfl) (Nat.le_of_ble_eq_true rfl) (Nat.le_of_ble_eq_true rfl) dX3_readMinutes_38
  · refine lv_aload_n hx hb dX3_readMinutes_29 rfl (lv_at hl 1 rfl) ?_
    refine xg (C := RX3) (T := TX3) (N := 4) (v := .ref (b + 12)) hx hb hts inc3 hown hK hP (by omega) (cell3 (by decide)) rfl 1 (by decide) lk0 (fun _ h => h) rfl dX3_readMinutes_30 ?_
    refine lv_iload_n hx hb dX3_readMinutes_33 rfl (lv_at hl 0 rfl) ?_
    refine xc_i (va_runV (As := [.int (fX3_takeNumber M (1 : Int32) (xmin (99 : Int32) ((9999 : Int32) - (M 12 2))))]) (rest := []) ⟨hx, hb, hml, hown, hts⟩ (c_X4_pass l D cy b n hn (gX3_takeNumber M (1 : Int32) (xmin (99 : Int32) ((9999 : Int32) - (M 12 2)))) 12 (fX3_takeNumber M (1 : Int32) (xmin (99 : Int32) ((9999 : Int32) - (M 12 2)))) (by decide) (by repeat (first | assumption | apply tk_cnt (by decide) (by decide) | apply fl_cnt (by decide) | apply nx_cnt (by decide))) (tk_ub c26)) (cwV 1 hts gX3_readMinutes_X4_pass rfl rfl rfl (by decide +kernel) ⟨Nat.le_of_ble_eq_true rfl, Nat.le_of_ble_eq_true rfl⟩) (xPreV hP hK hX hS (by omega) (cell4 (by decide)) rfl) rfl rfl hl.1 rfl (lv_room (Nat.le_of_ble_eq_true rfl)) dX3_readMinutes_34 ⟨Nat.le_of_ble_eq_true rfl, Nat.le_of_ble_eq_true rfl⟩) hS (fun H locs hP hS => ?_)
    refine lv_pop hx hb dX3_readMinutes_37 rfl ?_
    exact xe_v hx hb hr hlocks hP hS rfl (by rw [gX3_readMinutes, if_pos c26] <;> rfl) (Nat.le_of_ble_eq_true rfl) (Nat.le_of_ble_eq_true rfl) dX3_readMinutes_38
def gX3_readHair (M : Mem) : Mem := if (M 12 1) = (6 : Int32) then (if ((gX3_takeNumber (gX3_fail M (4 : Int32)) (1 : Int32) (20 : Int32)) 9 2) = 0 then (gX4_newHair (gX3_takeNumber (gX3_fail M (4 : Int32)) (1 : Int32) (20 : Int32)) 12 (fX3_takeNumber (gX3_fail M (4 : Int32)) (1 : Int32) (20 : Int32))) else (gX3_takeNumber (gX3_fail M (4 : Int32)) (1 : Int32) (20 : Int32))) else (if ((gX3_takeNumber M (1 : Int32) (20 : Int32)) 9 2) = 0 then (gX4_newHair (gX3_takeNumber M (1 : Int32) (20 : Int32)) 12 (fX3_takeNumber M (1 : Int32) (20 : Int32))) else (gX3_takeNumber M (1 : Int32) (20 : Int32)))
set_option maxHeartbeats 4000000 in
set_option maxRecDepth 100000 in
theorem c_X3_readHair (l : Launch) (D : va_G) (cy : Nat → ClassId) (b n : Nat) (hn : 124 ≤ n) (M : Mem)  (htl : TL M) (hcd : CNT M 12) : Met l yX3_readHair wsX3_readHair ({ frames := 3, cells := 0, slots := 0, locals := 66 } : Room) (CP D cy b n fT M [.ref (b + 9)]) (CQv D cy b n fT (gX3_readHair M)) 0 0 (fr b) := by
  refine Met.ofW (cc := cX3_readHair) (maxL := 2) (ret := none) (by decide) rfl ?_
  intro p e s m args below meth c s₁ B hml hv
  obtain ⟨rfl, hP, hK, hX⟩ := hv
  have hx := B.exec
  have hb := B.bytes
  have hr := B.returns
  have hts := atoms_spec (ws := wsX3_readHair) B.pre
  have hown : s.vm.findClass RX3 = some m.cls := findClass_of_methodNamed B.named
  have hlocks := B.notSynchronized
  have lk0 := hts (.fieldLink RX3 21 "HygrometerRoom$Reader" "draft" "LHygrometerRoom$Room;") (by decide +kernel)
  have lk1 := hts (.fieldLink RX3 112 "HygrometerRoom$Room" "count" "I") (by decide +kernel)
  have lk2 := hts (.fieldLink RX3 29 "HygrometerRoom$Reader" "errorKind" "I") (by decide +kernel)
  have inc3 : ∀ w ∈ u_ws RX3 TX3 4, w ∈ wsX3_readHair := by decide +kernel
  have inc4 : ∀ w ∈ u_ws RX4 TX4 8, w ∈ wsX3_readHair := by decide +kernel
  have hS : va_S (fr b) s.heap s.heap [] := va_S.rf
  have hl := lv_entry ([.ref (b + 9)]) (n := 2) (Nat.le_of_ble_eq_true rfl)
  rw [lg_entry_eq]
  generalize (lg_sl ([.ref (b + 9)]) ++ List.replicate (2 - (lg_sl ([.ref (b + 9)])).length) Slot.unset).toArray = ls at hl ⊢
  have hl : lv_has ls 2 [(0, .ref (b + 9))] := hl
  refine lv_aload_n hx hb dX3_readHair_0 rfl (lv_at hl 0 rfl) ?_
  refine xg (C := RX3) (T := TX3) (N := 4) (v := .ref (b + 12)) hx hb hts inc3 hown hK hP (by omega) (cell3 (by decide)) rfl 1 (by decide) lk0 (fun _ h => h) rfl dX3_readHair_1 ?_
  refine xg (C := RX4) (T := TX4) (N := 8) (v := .int (M 12 1)) hx hb hts inc4 hown hK hP (by omega) (cell4 (by decide)) rfl 1 (by decide) lk1 (fun _ h => h) rfl dX3_readHair_4 ?_
  refine lv_bipush (v := 6) hx hb dX3_readHair_7 (by decide) ?_
  refine lv_icmp_ne (tgt := 17) hx hb dX3_readHair_9 (by decide) (fun c9 => ?_) (fun c9 => ?_)
  · refine lv_aload_n hx hb dX3_readHair_17 rfl (lv_at hl 0 rfl) ?_
    refine lv_iconst (v := 1) hx hb dX3_readHair_18 (by decide) ?_
    refine lv_bipush (v := 20) hx hb dX3_readHair_19 (by decide) ?_
    refine xc_i (va_runV (As := [.int (1 : Int32), .int (20 : Int32)]) (rest := []) ⟨hx, hb, hml, hown, hts⟩ (c_X3_takeNumber l D cy b n hn M (1 : Int32) (20 : Int32) (by repeat (first | assumption | apply tk_tl | apply fl_tl | apply nx_tl))) (cwV 2 hts gX3_readHair_X3_takeNumber rfl rfl rfl (by decide +kernel) ⟨Nat.le_of_ble_eq_true rfl, Nat.le_of_ble_eq_true rfl⟩) (xPreV hP hK hX hS (by omega) (cell3 (by decide)) rfl) rfl rfl hl.1 rfl (lv_room (Nat.le_of_ble_eq_true rfl)) dX3_readHair_21 ⟨Nat.le_of_ble_eq_true rfl, Nat.le_of_ble_eq_true rfl⟩) hS (fun H locs hP hS => ?_)
    refine lv_istore_n (lv' := [(1, .int (fX3_takeNumber M (1 : Int32) (20 : Int32))), (0, .ref (b + 9))]) hx hb dX3_readHair_24 rfl hl (by decide) rfl (fun ls hl => ?_)
    refine lv_aload_n hx hb dX3_readHair_25 rfl (lv_at hl 1 rfl) ?_
    refine xg (C := RX3) (T := TX3) (N := 4) (v := .int ((gX3_takeNumber M (1 : Int32) (20 : Int32)) 9 2)) hx hb hts inc3 hown hK hP (by omega) (cell3 (by decide)) rfl 2 (by decide) lk2 (fun _ h => h) rfl dX3_readHair_26 ?_
    refine lv_if_ne (tgt := 40) hx hb dX3_readHair_29 (by decide) (fun c29 => ?_) (fun c29 => ?_)
    · exact xe_v hx hb hr hlocks hP hS rfl (by rw [gX3_readHair, if_neg c9, if_neg c29] <;> rfl) (Nat.le_of_ble_eq_true rfl) (Nat.le_of_ble_eq_true rfl) dX3_readHair_40
    · refine lv_aload_n hx hb dX3_readHair_32 rfl (lv_at hl 1 rfl) ?_
      refine xg (C := RX3) (T := TX3) (N := 4) (v := .ref (b + 12)) hx hb hts inc3 hown hK hP (by omega) (cell3 (by decide)) rfl 1 (by decide) lk0 (fun _ h => h) rfl dX3_readHair_33 ?_
      refine lv_iload_n hx hb dX3_readHair_36 rfl (lv_at hl 0 rfl) ?_
      refine xc_v (va_runV (As := [.int (fX3_takeNumber M (1 : Int32) (20 : Int32))]) (rest := []) ⟨hx, hb, hml, hown, hts⟩ (c_X4_newHair l D cy b n hn (gX3_takeNumber M (1 : Int32) (20 : Int32)) 12 (fX3_takeNumber M (1 : Int32) (20 : Int32)) (by decide) (by repeat (first | assumption | apply tk_cnt (by decide) (by decide) | apply fl_cnt (by decide) | apply nx_cnt (by decide)))) (cwV 1 hts gX3_readHair_X4_newHair rfl rfl rfl (by decide +kernel) ⟨Nat.le_of_ble_eq_true rfl, Nat.le_of_ble_eq_true rfl⟩) (xPreV hP hK hX hS (by omega) (cell4 (by decide)) rfl) rfl rfl hl.1 rfl (lv_room (Nat.le_of_ble_eq_true rfl)) dX3_readHair_37 ⟨Nat.le_of_ble_eq_true rfl, Nat.le_of_ble_eq_true rfl⟩) hS (fun H locs hP hS => ?_)
      exact xe_v hx hb hr hlocks hP hS rfl (by rw [gX3_readHair, if_neg c9, if_pos c29] <;> rfl) (Nat.le_of_ble_eq_true rfl) (Nat.le_of_ble_eq_true rfl) dX3_readHair_40
  · refine lv_aload_n hx hb dX3_readHair_12 rfl (lv_at hl 0 rfl) ?_
    refine lv_iconst (v := 4) hx hb dX3_readHair_13 (by decide) ?_
    refine xc_v (va_runV (As := [.int (4 : Int32)]) (rest := []) ⟨hx, hb, hml, hown, hts⟩ (c_X3_fail l D cy b n hn M (4 : Int32)) (cwV 1 hts gX3_readHair_X3_fail rfl rfl rfl (by decide +kernel) ⟨Nat.le_of_ble_eq_true rfl, Nat.le_of_ble_eq_true rfl⟩) (xPreV hP hK hX hS (by omega) (cell3 (by decide)) rfl) rfl rfl hl.1 rfl (lv_room (Nat.le_of_ble_eq_true rfl)) dX3_readHair_14 ⟨Nat.le_of_ble_eq_true rfl, Nat.le_of_ble_eq_true rfl⟩) hS (fun H locs hP hS => ?_)
    refine lv_aload_n hx hb dX3_readHair_17 rfl (lv_at hl 0 rfl) ?_
    refine lv_iconst (v := 1) hx hb dX3_readHair_18 (by decide) ?_
    refine lv_bipush (v := 20) hx hb dX3_readHair_19 (by decide) ?_
    refine xc_i (va_runV (As := [.int (1 : Int32), .int (20 : Int32)]) (rest := []) ⟨hx, hb, hml, hown, hts⟩ (c_X3_takeNumber l D cy b n hn (gX3_fail M (4 : Int32)) (1 : Int32) (20 : Int32) (by repeat (first | assumption | apply tk_tl | apply fl_tl | apply nx_tl))) (cwV 2 hts gX3_readHair_X3_takeNumber rfl rfl rfl (by decide +kernel) ⟨Nat.le_of_ble_eq_true rfl, Nat.le_of_ble_eq_true rfl⟩) (xPreV hP hK hX hS (by omega) (cell3 (by decide)) rfl) rfl rfl hl.1 rfl (lv_room (Nat.le_of_ble_eq_true rfl)) dX3_readHair_21 ⟨Nat.le_of_ble_eq_true rfl, Nat.le_of_ble_eq_true rfl⟩) hS (fun H locs hP hS => ?_)
    refine lv_istore_n (lv' := [(1, .int (fX3_takeNumber (gX3_fail M (4 : Int32)) (1 : Int32) (20 : Int32))), (0, .ref (b + 9))]) hx hb dX3_readHair_24 rfl hl (by decide) rfl (fun ls hl => ?_)
    refine lv_aload_n hx hb dX3_readHair_25 rfl (lv_at hl 1 rfl) ?_
    refine xg (C := RX3) (T := TX3) (N := 4) (v := .int ((gX3_takeNumber (gX3_fail M (4 : Int32)) (1 : Int32) (20 : Int32)) 9 2)) hx hb hts inc3 hown hK hP (by omega) (cell3 (by decide)) rfl 2 (by decide) lk2 (fun _ h => h) rfl dX3_readHair_26 ?_
    refine lv_if_ne (tgt := 40) hx hb dX3_readHair_29 (by decide) (fun c29 => ?_) (fun c29 => ?_)
    · exact xe_v hx hb hr hlocks hP hS rfl (by rw [gX3_readHair, if_pos c9, if_neg c29] <;> rfl) (Nat.le_of_ble_eq_true rfl) (Nat.le_of_ble_eq_true rfl) dX3_readHair_40
    · refine lv_aload_n hx hb dX3_readHair_32 rfl (lv_at hl 1 rfl) ?_
      refine xg (C := RX3) (T := TX3) (N := 4) (v := .ref (b + 12)) hx hb hts inc3 hown hK hP (by omega) (cell3 (by decide)) rfl 1 (by decide) lk0 (fun _ h => h) rfl dX3_readHair_33 ?_
      refine lv_iload_n hx hb dX3_readHair_36 rfl (lv_at hl 0 rfl) ?_
      refine xc_v (va_runV (As := [.int (fX3_takeNumber (gX3_fail M (4 : Int32)) (1 : Int32) (20 : Int32))]) (rest := []) ⟨hx, hb, hml, hown, hts⟩ (c_X4_newHair l D cy b n hn (gX3_takeNumber (gX3_fail M (4 : Int32)) (1 : Int32) (20 : Int32)) 12 (fX3_takeNumber (gX3_fail M (4 : Int32)) (1 : Int32) (20 : Int32)) (by decide) (by repeat (first | assumption | apply tk_cnt (by decide) (by decide) | apply fl_cnt (by decide) | apply nx_cnt (by decide)))) (cwV 1 hts gX3_readHair_X4_newHair rfl rfl rfl (by decide +kernel) ⟨Nat.le_of_ble_eq_true rfl, Nat.le_of_ble_eq_true rfl⟩) (xPreV hP hK hX hS (by omega) (cell4 (by decide)) rfl) rfl rfl hl.1 rfl (lv_room (Nat.le_of_ble_eq_true rfl)) dX3_readHair_37 ⟨Nat.le_of_ble_eq_true rfl, Nat.le_of_ble_eq_true rfl⟩) hS (fun H locs hP hS => ?_)
      exact xe_v hx hb hr hlocks hP hS rfl (by rw [gX3_readHair, if_pos c9, if_pos c29] <;> rfl) (Nat.le_of_ble_eq_true rfl) (Nat.le_of_ble_eq_true rfl) dX3_readHair_40
def gX3_readBulb (M : Mem) : Mem := if (M 12 1) = (6 : Int32) then (if ((gX3_takeNumber (gX3_fail M (4 : Int32)) (0 : Int32) (60 : Int32)) 9 2) = 0 then (gX4_newBulb (gX3_takeNumber (gX3_fail M (4 : Int32)) (0 : Int32) (60 : Int32)) 12 (fX3_takeNumber (gX3_fail M (4 : Int32)) (0 : Int32) (60 : Int32))) else (gX3_takeNumber (gX3_fail M (4 : Int32)) (0 : Int32) (60 : Int32))) else (if ((gX3_takeNumber M (0 : Int32) (60 : Int32)) 9 2) = 0 then (gX4_newBulb (gX3_takeNumber M (0 : Int32) (60 : Int32)) 12 (fX3_takeNumber M (0 : Int32) (60 : Int32))) else (gX3_takeNumber M (0 : Int32) (60 : Int32)))
set_option maxHeartbeats 4000000 in
set_option maxRecDepth 100000 in
theorem c_X3_readBulb (l : Launch) (D : va_G) (cy : Nat → ClassId) (b n : Nat) (hn : 124 ≤ n) (M : Mem)  (htl : TL M) (hcd : CNT M 12) : Met l yX3_readBulb wsX3_readBulb ({ frames := 3, cells := 0, slots := 0, locals := 66 } : Room) (CP D cy b n fT M [.ref (b + 9)]) (CQv D cy b n fT (gX3_readBulb M)) 0 0 (fr b) := by
  refine Met.ofW (cc := cX3_readBulb) (maxL := 2) (ret := none) (by decide) rfl ?_
  intro p e s m args below meth c s₁ B hml hv
  obtain ⟨rfl, hP, hK, hX⟩ := hv
  have hx := B.exec
  have hb := B.bytes
  have hr := B.returns
  have hts := atoms_spec (ws := wsX3_readBulb) B.pre
  have hown : s.vm.findClass RX3 = some m.cls := findClass_of_methodNamed B.named
  have hlocks := B.notSynchronized
  have lk0 := hts (.fieldLink RX3 21 "HygrometerRoom$Reader" "draft" "LHygrometerRoom$Room;") (by decide +kernel)
  have lk1 := hts (.fieldLink RX3 112 "HygrometerRoom$Room" "count" "I") (by decide +kernel)
  have lk2 := hts (.fieldLink RX3 29 "HygrometerRoom$Reader" "errorKind" "I") (by decide +kernel)
  have inc3 : ∀ w ∈ u_ws RX3 TX3 4, w ∈ wsX3_readBulb := by decide +kernel
  have inc4 : ∀ w ∈ u_ws RX4 TX4 8, w ∈ wsX3_readBulb := by decide +kernel
  have hS : va_S (fr b) s.heap s.heap [] := va_S.rf
  have hl := lv_entry ([.ref (b + 9)]) (n := 2) (Nat.le_of_ble_eq_true rfl)
  rw [lg_entry_eq]
  generalize (lg_sl ([.ref (b + 9)]) ++ List.replicate (2 - (lg_sl ([.ref (b + 9)])).length) Slot.unset).toArray = ls at hl ⊢
  have hl : lv_has ls 2 [(0, .ref (b + 9))] := hl
  refine lv_aload_n hx hb dX3_readBulb_0 rfl (lv_at hl 0 rfl) ?_
  refine xg (C := RX3) (T := TX3) (N := 4) (v := .ref (b + 12)) hx hb hts inc3 hown hK hP (by omega) (cell3 (by decide)) rfl 1 (by decide) lk0 (fun _ h => h) rfl dX3_readBulb_1 ?_
  refine xg (C := RX4) (T := TX4) (N := 8) (v := .int (M 12 1)) hx hb hts inc4 hown hK hP (by omega) (cell4 (by decide)) rfl 1 (by decide) lk1 (fun _ h => h) rfl dX3_readBulb_4 ?_
  refine lv_bipush (v := 6) hx hb dX3_readBulb_7 (by decide) ?_
  refine lv_icmp_ne (tgt := 17) hx hb dX3_readBulb_9 (by decide) (fun c9 => ?_) (fun c9 => ?_)
  · refine lv_aload_n hx hb dX3_readBulb_17 rfl (lv_at hl 0 rfl) ?_
    refine lv_iconst (v := 0) hx hb dX3_readBulb_18 (by decide) ?_
    refine lv_bipush (v := 60) hx hb dX3_readBulb_19 (by decide) ?_
    refine xc_i (va_runV (As := [.int (0 : Int32), .int (60 : Int32)]) (rest := []) ⟨hx, hb, hml, hown, hts⟩ (c_X3_takeNumber l D cy b n hn M (0 : Int32) (60 : Int32) (by repeat (first | assumption | apply tk_tl | apply fl_tl | apply nx_tl))) (cwV 2 hts gX3_readBulb_X3_takeNumber rfl rfl rfl (by decide +kernel) ⟨Nat.le_of_ble_eq_true rfl, Nat.le_of_ble_eq_true rfl⟩) (xPreV hP hK hX hS (by omega) (cell3 (by decide)) rfl) rfl rfl hl.1 rfl (lv_room (Nat.le_of_ble_eq_true rfl)) dX3_readBulb_21 ⟨Nat.le_of_ble_eq_true rfl, Nat.le_of_ble_eq_true rfl⟩) hS (fun H locs hP hS => ?_)
    refine lv_istore_n (lv' := [(1, .int (fX3_takeNumber M (0 : Int32) (60 : Int32))), (0, .ref (b + 9))]) hx hb dX3_readBulb_24 rfl hl (by decide) rfl (fun ls hl => ?_)
    refine lv_aload_n hx hb dX3_readBulb_25 rfl (lv_at hl 1 rfl) ?_
    refine xg (C := RX3) (T := TX3) (N := 4) (v := .int ((gX3_takeNumber M (0 : Int32) (60 : Int32)) 9 2)) hx hb hts inc3 hown hK hP (by omega) (cell3 (by decide)) rfl 2 (by decide) lk2 (fun _ h => h) rfl dX3_readBulb_26 ?_
    refine lv_if_ne (tgt := 40) hx hb dX3_readBulb_29 (by decide) (fun c29 => ?_) (fun c29 => ?_)
    · exact xe_v hx hb hr hlocks hP hS rfl (by rw [gX3_readBulb, if_neg c9, if_neg c29] <;> rfl) (Nat.le_of_ble_eq_true rfl) (Nat.le_of_ble_eq_true rfl) dX3_readBulb_40
    · refine lv_aload_n hx hb dX3_readBulb_32 rfl (lv_at hl 1 rfl) ?_
      refine xg (C := RX3) (T := TX3) (N := 4) (v := .ref (b + 12)) hx hb hts inc3 hown hK hP (by omega) (cell3 (by decide)) rfl 1 (by decide) lk0 (fun _ h => h) rfl dX3_readBulb_33 ?_
      refine lv_iload_n hx hb dX3_readBulb_36 rfl (lv_at hl 0 rfl) ?_
      refine xc_v (va_runV (As := [.int (fX3_takeNumber M (0 : Int32) (60 : Int32))]) (rest := []) ⟨hx, hb, hml, hown, hts⟩ (c_X4_newBulb l D cy b n hn (gX3_takeNumber M (0 : Int32) (60 : Int32)) 12 (fX3_takeNumber M (0 : Int32) (60 : Int32)) (by decide) (by repeat (first | assumption | apply tk_cnt (by decide) (by decide) | apply fl_cnt (by decide) | apply nx_cnt (by decide)))) (cwV 1 hts gX3_readBulb_X4_newBulb rfl rfl rfl (by decide +kernel) ⟨Nat.le_of_ble_eq_true rfl, Nat.le_of_ble_eq_true rfl⟩) (xPreV hP hK hX hS (by omega) (cell4 (by decide)) rfl) rfl rfl hl.1 rfl (lv_room (Nat.le_of_ble_eq_true rfl)) dX3_readBulb_37 ⟨Nat.le_of_ble_eq_true rfl, Nat.le_of_ble_eq_true rfl⟩) hS (fun H locs hP hS => ?_)
      exact xe_v hx hb hr hlocks hP hS rfl (by rw [gX3_readBulb, if_neg c9, if_pos c29] <;> rfl) (Nat.le_of_ble_eq_true rfl) (Nat.le_of_ble_eq_true rfl) dX3_readBulb_40
  · refine lv_aload_n hx hb dX3_readBulb_12 rfl (lv_at hl 0 rfl) ?_
    refine lv_iconst (v := 4) hx hb dX3_readBulb_13 (by decide) ?_
    refine xc_v (va_runV (As := [.int (4 : Int32)]) (rest := []) ⟨hx, hb, hml, hown, hts⟩ (c_X3_fail l D cy b n hn M (4 : Int32)) (cwV 1 hts gX3_readBulb_X3_fail rfl rfl rfl (by decide +kernel) ⟨Nat.le_of_ble_eq_true rfl, Nat.le_of_ble_eq_true rfl⟩) (xPreV hP hK hX hS (by omega) (cell3 (by decide)) rfl) rfl rfl hl.1 rfl (lv_room (Nat.le_of_ble_eq_true rfl)) dX3_readBulb_14 ⟨Nat.le_of_ble_eq_true rfl, Nat.le_of_ble_eq_true rfl⟩) hS (fun H locs hP hS => ?_)
    refine lv_aload_n hx hb dX3_readBulb_17 rfl (lv_at hl 0 rfl) ?_
    refine lv_iconst (v := 0) hx hb dX3_readBulb_18 (by decide) ?_
    refine lv_bipush (v := 60) hx hb dX3_readBulb_19 (by decide) ?_
    refine xc_i (va_runV (As := [.int (0 : Int32), .int (60 : Int32)]) (rest := []) ⟨hx, hb, hml, hown, hts⟩ (c_X3_takeNumber l D cy b n hn (gX3_fail M (4 : Int32)) (0 : Int32) (60 : Int32) (by repeat (first | assumption | apply tk_tl | apply fl_tl | apply nx_tl))) (cwV 2 hts gX3_readBulb_X3_takeNumber rfl rfl rfl (by decide +kernel) ⟨Nat.le_of_ble_eq_true rfl, Nat.le_of_ble_eq_true rfl⟩) (xPreV hP hK hX hS (by omega) (cell3 (by decide)) rfl) rfl rfl hl.1 rfl (lv_room (Nat.le_of_ble_eq_true rfl)) dX3_readBulb_21 ⟨Nat.le_of_ble_eq_true rfl, Nat.le_of_ble_eq_true rfl⟩) hS (fun H locs hP hS => ?_)
    refine lv_istore_n (lv' := [(1, .int (fX3_takeNumber (gX3_fail M (4 : Int32)) (0 : Int32) (60 : Int32))), (0, .ref (b + 9))]) hx hb dX3_readBulb_24 rfl hl (by decide) rfl (fun ls hl => ?_)
    refine lv_aload_n hx hb dX3_readBulb_25 rfl (lv_at hl 1 rfl) ?_
    refine xg (C := RX3) (T := TX3) (N := 4) (v := .int ((gX3_takeNumber (gX3_fail M (4 : Int32)) (0 : Int32) (60 : Int32)) 9 2)) hx hb hts inc3 hown hK hP (by omega) (cell3 (by decide)) rfl 2 (by decide) lk2 (fun _ h => h) rfl dX3_readBulb_26 ?_
    refine lv_if_ne (tgt := 40) hx hb dX3_readBulb_29 (by decide) (fun c29 => ?_) (fun c29 => ?_)
    · exact xe_v hx hb hr hlocks hP hS rfl (by rw [gX3_readBulb, if_pos c9, if_neg c29] <;> rfl) (Nat.le_of_ble_eq_true rfl) (Nat.le_of_ble_eq_true rfl) dX3_readBulb_40
    · refine lv_aload_n hx hb dX3_readBulb_32 rfl (lv_at hl 1 rfl) ?_
      refine xg (C := RX3) (T := TX3) (N := 4) (v := .ref (b + 12)) hx hb hts inc3 hown hK hP (by omega) (cell3 (by decide)) rfl 1 (by decide) lk0 (fun _ h => h) rfl dX3_readBulb_33 ?_
      refine lv_iload_n hx hb dX3_readBulb_36 rfl (lv_at hl 0 rfl) ?_
      refine xc_v (va_runV (As := [.int (fX3_takeNumber (gX3_fail M (4 : Int32)) (0 : Int32) (60 : Int32))]) (rest := []) ⟨hx, hb, hml, hown, hts⟩ (c_X4_newBulb l D cy b n hn (gX3_takeNumber (gX3_fail M (4 : Int32)) (0 : Int32) (60 : Int32)) 12 (fX3_takeNumber (gX3_fail M (4 : Int32)) (0 : Int32) (60 : Int32)) (by decide) (by repeat (first | assumption | apply tk_cnt (by decide) (by decide) | apply fl_cnt (by decide) | apply nx_cnt (by decide)))) (cwV 1 hts gX3_readBulb_X4_newBulb rfl rfl rfl (by decide +kernel) ⟨Nat.le_of_ble_eq_true rfl, Nat.le_of_ble_eq_true rfl⟩) (xPreV hP hK hX hS (by omega) (cell4 (by decide)) rfl) rfl rfl hl.1 rfl (lv_room (Nat.le_of_ble_eq_true rfl)) dX3_readBulb_37 ⟨Nat.le_of_ble_eq_true rfl, Nat.le_of_ble_eq_true rfl⟩) hS (fun H locs hP hS => ?_)
      exact xe_v hx hb hr hlocks hP hS rfl (by rw [gX3_readBulb, if_pos c9, if_pos c29] <;> rfl) (Nat.le_of_ble_eq_true rfl) (Nat.le_of_ble_eq_true rfl) dX3_readBulb_40
def gX3_readBox_null (M : Mem) : Mem := M
set_option maxHeartbeats 4000000 in
set_option maxRecDepth 100000 in
theorem c_X3_readBox_null (l : Launch) (D : va_G) (cy : Nat → ClassId) (b n : Nat) (hn : 124 ≤ n) (M : Mem)   : Met l yX3_readBox wsX3_readBox ({ frames := 0, cells := 0, slots := 0, locals := 0 } : Room) (CP D cy b n fT M [.ref (b + 9), .null]) (CQv D cy b n fT (gX3_readBox_null M)) 0 0 (fr b) := by
  refine Met.ofW (cc := cX3_readBox) (maxL := 3) (ret := none) (by decide) rfl ?_
  intro p e s m args below meth c s₁ B hml hv
  obtain ⟨rfl, hP, hK, hX⟩ := hv
  have hx := B.exec
  have hb := B.bytes
  have hr := B.returns
  have hts := atoms_spec (ws := wsX3_readBox) B.pre
  have hown : s.vm.findClass RX3 = some m.cls := findClass_of_methodNamed B.named
  have hlocks := B.notSynchronized
  obtain ⟨⟨t, hZ, hT⟩, -⟩ := id hX
  have hS : va_S (fr b) s.heap s.heap [] := va_S.rf
  have hl := lv_entry ([.ref (b + 9), .null]) (n := 3) (Nat.le_of_ble_eq_true rfl)
  rw [lg_entry_eq]
  generalize (lg_sl ([.ref (b + 9), .null]) ++ List.replicate (3 - (lg_sl ([.ref (b + 9), .null])).length) Slot.unset).toArray = ls at hl ⊢
  have hl : lv_has ls 3 [(0, .ref (b + 9)), (1, .null)] := hl
  refine lv_aload_nN hx hb dX3_readBox_0 rfl (lv_at hl 1 rfl) ?_
  refine lv_ifnonnullN hx hb dX3_readBox_1 ?_
  exact xe_v hx hb hr hlocks hP hS rfl (by rw [gX3_readBox_null] <;> rfl) (Nat.le_of_ble_eq_true rfl) (Nat.le_of_ble_eq_true rfl) dX3_readBox_4
def gX3_readOut_null (M : Mem) : Mem := M
set_option maxHeartbeats 4000000 in
set_option maxRecDepth 100000 in
theorem c_X3_readOut_null (l : Launch) (D : va_G) (cy : Nat → ClassId) (b n : Nat) (hn : 124 ≤ n) (M : Mem)   : Met l yX3_readOut wsX3_readOut ({ frames := 0, cells := 0, slots := 0, locals := 0 } : Room) (CP D cy b n fT M [.ref (b + 9), .null]) (CQv D cy b n fT (gX3_readOut_null M)) 0 0 (fr b) := by
  refine Met.ofW (cc := cX3_readOut) (maxL := 2) (ret := none) (by decide) rfl ?_
  intro p e s m args below meth c s₁ B hml hv
  obtain ⟨rfl, hP, hK, hX⟩ := hv
  have hx := B.exec
  have hb := B.bytes
  have hr := B.returns
  have hts := atoms_spec (ws := wsX3_readOut) B.pre
  have hown : s.vm.findClass RX3 = some m.cls := findClass_of_methodNamed B.named
  have hlocks := B.notSynchronized
  have hS : va_S (fr b) s.heap s.heap [] := va_S.rf
  have hl := lv_entry ([.ref (b + 9), .null]) (n := 2) (Nat.le_of_ble_eq_true rfl)
  rw [lg_entry_eq]
  generalize (lg_sl ([.ref (b + 9), .null]) ++ List.replicate (2 - (lg_sl ([.ref (b + 9), .null])).length) Slot.unset).toArray = ls at hl ⊢
  have hl : lv_has ls 2 [(0, .ref (b + 9)), (1, .null)] := hl
  refine lv_aload_nN hx hb dX3_readOut_0 rfl (lv_at hl 1 rfl) ?_
  refine lv_ifnonnullN hx hb dX3_readOut_1 ?_
  exact xe_v hx hb hr hlocks hP hS rfl (by rw [gX3_readOut_null] <;> rfl) (Nat.le_of_ble_eq_true rfl) (Nat.le_of_ble_eq_true rfl) dX3_readOut_4
def gX3_readTighten_null (M : Mem) : Mem := M
set_option maxHeartbeats 4000000 in
set_option maxRecDepth 100000 in
theorem c_X3_readTighten_null (l : Launch) (D : va_G) (cy : Nat → ClassId) (b n : Nat) (hn : 124 ≤ n) (M : Mem)   : Met l yX3_readTighten wsX3_readTighten ({ frames := 0, cells := 0, slots := 0, locals := 0 } : Room) (CP D cy b n fT M [.ref (b + 9), .null]) (CQv D cy b n fT (gX3_readTighten_null M)) 0 0 (fr b) := by
  refine Met.ofW (cc := cX3_readTighten) (maxL := 2) (ret := none) (by decide) rfl ?_
  intro p e s m args below meth c s₁ B hml hv
  obtain ⟨rfl, hP, hK, hX⟩ := hv
  have hx := B.exec
  have hb := B.bytes
  have hr := B.returns
  have hts := atoms_spec (ws := wsX3_readTighten) B.pre
  have hown : s.vm.findClass RX3 = some m.cls := findClass_of_methodNamed B.named
  have hlocks := B.notSynchronized
  have hS : va_S (fr b) s.heap s.heap [] := va_S.rf
  have hl := lv_entry ([.ref (b + 9), .null]) (n := 2) (Nat.le_of_ble_eq_true rfl)
  rw [lg_entry_eq]
  generalize (lg_sl ([.ref (b + 9), .null]) ++ List.replicate (2 - (lg_sl ([.ref (b + 9), .null])).length) Slot.unset).toArray = ls at hl ⊢
  have hl : lv_has ls 2 [(0, .ref (b + 9)), (1, .null)] := hl
  refine lv_aload_nN hx hb dX3_readTighten_0 rfl (lv_at hl 1 rfl) ?_
  refine lv_ifnonnullN hx hb dX3_readTighten_1 ?_
  exact xe_v hx hb hr hlocks hP hS rfl (by rw [gX3_readTighten_null] <;> rfl) (Nat.le_of_ble_eq_true rfl) (Nat.le_of_ble_eq_true rfl) dX3_readTighten_4
def gX3_readMoisten_null (M : Mem) : Mem := M
set_option maxHeartbeats 4000000 in
set_option maxRecDepth 100000 in
theorem c_X3_readMoisten_null (l : Launch) (D : va_G) (cy : Nat → ClassId) (b n : Nat) (hn : 124 ≤ n) (M : Mem)   : Met l yX3_readMoisten wsX3_readMoisten ({ frames := 0, cells := 0, slots := 0, locals := 0 } : Room) (CP D cy b n fT M [.ref (b + 9), .null]) (CQv D cy b n fT (gX3_readMoisten_null M)) 0 0 (fr b) := by
  refine Met.ofW (cc := cX3_readMoisten) (maxL := 2) (ret := none) (by decide) rfl ?_
  intro p e s m args below meth c s₁ B hml hv
  obtain ⟨rfl, hP, hK, hX⟩ := hv
  have hx := B.exec
  have hb := B.bytes
  have hr := B.returns
  have hts := atoms_spec (ws := wsX3_readMoisten) B.pre
  have hown : s.vm.findClass RX3 = some m.cls := findClass_of_methodNamed B.named
  have hlocks := B.notSynchronized
  have hS : va_S (fr b) s.heap s.heap [] := va_S.rf
  have hl := lv_entry ([.ref (b + 9), .null]) (n := 2) (Nat.le_of_ble_eq_true rfl)
  rw [lg_entry_eq]
  generalize (lg_sl ([.ref (b + 9), .null]) ++ List.replicate (2 - (lg_sl ([.ref (b + 9), .null])).length) Slot.unset).toArray = ls at hl ⊢
  have hl : lv_has ls 2 [(0, .ref (b + 9)), (1, .null)] := hl
  refine lv_aload_nN hx hb dX3_readMoisten_0 rfl (lv_at hl 1 rfl) ?_
  refine lv_ifnonnullN hx hb dX3_readMoisten_1 ?_
  exact xe_v hx hb hr hlocks hP hS rfl (by rw [gX3_readMoisten_null] <;> rfl) (Nat.le_of_ble_eq_true rfl) (Nat.le_of_ble_eq_true rfl) dX3_readMoisten_4
def gX3_readBox (M : Mem) (x : Nat) : Mem := if (fX1_isBoxed M x) = 0 then (if ((gX3_takeNumber M (0 : Int32) ((4 : Int32) - (1 : Int32))) 9 2) = 0 then (mU (gX3_takeNumber M (0 : Int32) ((4 : Int32) - (1 : Int32))) x 8 (fX3_takeNumber M (0 : Int32) ((4 : Int32) - (1 : Int32)))) else (gX3_takeNumber M (0 : Int32) ((4 : Int32) - (1 : Int32)))) else (if ((gX3_takeNumber (gX3_fail M (5 : Int32)) (0 : Int32) ((4 : Int32) - (1 : Int32))) 9 2) = 0 then (mU (gX3_takeNumber (gX3_fail M (5 : Int32)) (0 : Int32) ((4 : Int32) - (1 : Int32))) x 8 (fX3_takeNumber (gX3_fail M (5 : Int32)) (0 : Int32) ((4 : Int32) - (1 : Int32)))) else (gX3_takeNumber (gX3_fail M (5 : Int32)) (0 : Int32) ((4 : Int32) - (1 : Int32))))
set_option maxHeartbeats 4000000 in
set_option maxRecDepth 100000 in
theorem c_X3_readBox (l : Launch) (D : va_G) (cy : Nat → ClassId) (b n : Nat) (hn : 124 ≤ n) (M : Mem) (x : Nat) (h_x : kd x = 1) (htl : TL M) : Met l yX3_readBox wsX3_readBox ({ frames := 3, cells := 0, slots := 0, locals := 66 } : Room) (CP D cy b n fT M [.ref (b + 9), .ref (b + x)]) (CQv D cy b n fT (gX3_readBox M x)) 0 0 (fr b) := by
  refine Met.ofW (cc := cX3_readBox) (maxL := 3) (ret := none) (by decide) rfl ?_
  intro p e s m args below meth c s₁ B hml hv
  obtain ⟨rfl, hP, hK, hX⟩ := hv
  have hx := B.exec
  have hb := B.bytes
  have hr := B.returns
  have hts := atoms_spec (ws := wsX3_readBox) B.pre
  have hown : s.vm.findClass RX3 = some m.cls := findClass_of_methodNamed B.named
  have hlocks := B.notSynchronized
  have lk0 := hts (.fieldLink RX3 29 "HygrometerRoom$Reader" "errorKind" "I") (by decide +kernel)
  have lk1 := hts (.fieldLink RX3 131 "HygrometerRoom$Instrument" "box" "I") (by decide +kernel)
  have inc1 : ∀ w ∈ u_ws RX1 TX1 9, w ∈ wsX3_readBox := by decide +kernel
  have inc3 : ∀ w ∈ u_ws RX3 TX3 4, w ∈ wsX3_readBox := by decide +kernel
  obtain ⟨⟨t, hZ, hT⟩, -⟩ := id hX
  have hS : va_S (fr b) s.heap s.heap [] := va_S.rf
  have hl := lv_entry ([.ref (b + 9), .ref (b + x)]) (n := 3) (Nat.le_of_ble_eq_true rfl)
  rw [lg_entry_eq]
  generalize (lg_sl ([.ref (b + 9), .ref (b + x)]) ++ List.replicate (3 - (lg_sl ([.ref (b + 9), .ref (b + x)])).length) Slot.unset).toArray = ls at hl ⊢
  have hl : lv_has ls 3 [(0, .ref (b + 9)), (1, .ref (b + x))] := hl
  refine lv_aload_n hx hb dX3_readBox_0 rfl (lv_at hl 1 rfl) ?_
  refine lv_ifnonnull (tgt := 5) hx hb dX3_readBox_1 (by decide) ?_
  refine lv_aload_n hx hb dX3_readBox_5 rfl (lv_at hl 1 rfl) ?_
  refine xc_i (va_runV (As := []) (rest := []) ⟨hx, hb, hml, hown, hts⟩ (c_X1_isBoxed l D cy b n hn M x h_x) (cwV 0 hts gX3_readBox_X1_isBoxed rfl rfl rfl (by decide +kernel) ⟨Nat.le_of_ble_eq_true rfl, Nat.le_of_ble_eq_true rfl⟩) (xPreV hP hK hX hS (kI_lt h_x hn) (cell1 h_x) rfl) rfl rfl hl.1 rfl (lv_room (Nat.le_of_ble_eq_true rfl)) dX3_readBox_6 ⟨Nat.le_of_ble_eq_true rfl, Nat.le_of_ble_eq_true rfl⟩) hS (fun H locs hP hS => ?_)
  refine lv_if_eq (tgt := 17) hx hb dX3_readBox_9 (by decide) (fun c9 => ?_) (fun c9 => ?_)
  · refine lv_aload_n hx hb dX3_readBox_17 rfl (lv_at hl 0 rfl) ?_
    refine lv_iconst (v := 0) hx hb dX3_readBox_18 (by decide) ?_
    refine va_getsN hx hb hZ hS hown (va_Nw.use rfl hX.2.2.2.2.2.2.2.2.2.2.1) (fun _ h => h) dX3_readBox_19 ?_
    refine xfl (t := t) hx hb hT hS dX3_readBox_22 ?_
    refine lv_iconst (v := 1) hx hb dX3_readBox_23 (by decide) ?_
    refine lv_isub hx hb dX3_readBox_24 ?_
    refine xc_i (va_runV (As := [.int (0 : Int32), .int ((4 : Int32) - (1 : Int32))]) (rest := []) ⟨hx, hb, hml, hown, hts⟩ (c_X3_takeNumber l D cy b n hn M (0 : Int32) ((4 : Int32) - (1 : Int32)) (by repeat (first | assumption | apply tk_tl | apply fl_tl | apply nx_tl))) (cwV 2 hts gX3_readBox_X3_takeNumber rfl rfl rfl (by decide +kernel) ⟨Nat.le_of_ble_eq_true rfl, Nat.le_of_ble_eq_true rfl⟩) (xPreV hP hK hX hS (by omega) (cell3 (by decide)) rfl) rfl rfl hl.1 rfl (lv_room (Nat.le_of_ble_eq_true rfl)) dX3_readBox_25 ⟨Nat.le_of_ble_eq_true rfl, Nat.le_of_ble_eq_true rfl⟩) hS (fun H locs hP hS => ?_)
    refine lv_istore_n (lv' := [(2, .int (fX3_takeNumber M (0 : Int32) ((4 : Int32) - (1 : Int32)))), (0, .ref (b + 9)), (1, .ref (b + x))]) hx hb dX3_readBox_28 rfl hl (by decide) rfl (fun ls hl => ?_)
    refine lv_aload_n hx hb dX3_readBox_29 rfl (lv_at hl 1 rfl) ?_
    refine xg (C := RX3) (T := TX3) (N := 4) (v := .int ((gX3_takeNumber M (0 : Int32) ((4 : Int32) - (1 : Int32))) 9 2)) hx hb hts inc3 hown hK hP (by omega) (cell3 (by decide)) rfl 2 (by decide) lk0 (fun _ h => h) rfl dX3_readBox_30 ?_
    refine lv_if_ne (tgt := 41) hx hb dX3_readBox_33 (by decide) (fun c33 => ?_) (fun c33 => ?_)
    · exact xe_v hx hb hr hlocks hP hS rfl (by rw [gX3_readBox, if_pos c9, if_neg c33] <;> rfl) (Nat.le_of_ble_eq_true rfl) (Nat.le_of_ble_eq_true rfl) dX3_readBox_41
    · refine lv_aload_n hx hb dX3_readBox_36 rfl (lv_at hl 2 rfl) ?_
      refine lv_iload_n hx hb dX3_readBox_37 rfl (lv_at hl 0 rfl) ?_
      refine xp (C := RX1) (T := TX1) (N := 9) (ci := 1) (ty := .int) (x := fX3_takeNumber M (0 : Int32) ((4 : Int32) - (1 : Int32))) hx hb hts inc1 tyX1 tyX1_ok nmX1 hown hK hP hS (kI_lt h_x hn) (fun _ => cell1 h_x) rfl 8 (by decide) rfl lk1 (fun _ h => h) rfl (tyX1_ok 8 (by decide)) rfl rfl (Nat.le_of_ble_eq_true rfl) dX3_readBox_38 (fun H locs hP hS => ?_)
      exact xe_v hx hb hr hlocks hP hS rfl (by rw [gX3_readBox, if_pos c9, if_pos c33] <;> rfl) (Nat.le_of_ble_eq_true rfl) (Nat.le_of_ble_eq_true rfl) dX3_readBox_41
  · refine lv_aload_n hx hb dX3_readBox_12 rfl (lv_at hl 0 rfl) ?_
    refine lv_iconst (v := 5) hx hb dX3_readBox_13 (by decide) ?_
    refine xc_v (va_runV (As := [.int (5 : Int32)]) (rest := []) ⟨hx, hb, hml, hown, hts⟩ (c_X3_fail l D cy b n hn M (5 : Int32)) (cwV 1 hts gX3_readBox_X3_fail rfl rfl rfl (by decide +kernel) ⟨Nat.le_of_ble_eq_true rfl, Nat.le_of_ble_eq_true rfl⟩) (xPreV hP hK hX hS (by omega) (cell3 (by decide)) rfl) rfl rfl hl.1 rfl (lv_room (Nat.le_of_ble_eq_true rfl)) dX3_readBox_14 ⟨Nat.le_of_ble_eq_true rfl, Nat.le_of_ble_eq_true rfl⟩) hS (fun H locs hP hS => ?_)
    refine lv_aload_n hx hb dX3_readBox_17 rfl (lv_at hl 0 rfl) ?_
    refine lv_iconst (v := 0) hx hb dX3_readBox_18 (by decide) ?_
    refine va_getsN hx hb hZ hS hown (va_Nw.use rfl hX.2.2.2.2.2.2.2.2.2.2.1) (fun _ h => h) dX3_readBox_19 ?_
    refine xfl (t := t) hx hb hT hS dX3_readBox_22 ?_
    refine lv_iconst (v := 1) hx hb dX3_readBox_23 (by decide) ?_
    refine lv_isub hx hb dX3_readBox_24 ?_
    refine xc_i (va_runV (As := [.int (0 : Int32), .int ((4 : Int32) - (1 : Int32))]) (rest := []) ⟨hx, hb, hml, hown, hts⟩ (c_X3_takeNumber l D cy b n hn (gX3_fail M (5 : Int32)) (0 : Int32) ((4 : Int32) - (1 : Int32)) (by repeat (first | assumption | apply tk_tl | apply fl_tl | apply nx_tl))) (cwV 2 hts gX3_readBox_X3_takeNumber rfl rfl rfl (by decide +kernel) ⟨Nat.le_of_ble_eq_true rfl, Nat.le_of_ble_eq_true rfl⟩) (xPreV hP hK hX hS (by omega) (cell3 (by decide)) rfl) rfl rfl hl.1 rfl (lv_room (Nat.le_of_ble_eq_true rfl)) dX3_readBox_25 ⟨Nat.le_of_ble_eq_true rfl, Nat.le_of_ble_eq_true rfl⟩) hS (fun H locs hP hS => ?_)
    refine lv_istore_n (lv' := [(2, .int (fX3_takeNumber (gX3_fail M (5 : Int32)) (0 : Int32) ((4 : Int32) - (1 : Int32)))), (0, .ref (b + 9)), (1, .ref (b + x))]) hx hb dX3_readBox_28 rfl hl (by decide) rfl (fun ls hl => ?_)
    refine lv_aload_n hx hb dX3_readBox_29 rfl (lv_at hl 1 rfl) ?_
    refine xg (C := RX3) (T := TX3) (N := 4) (v := .int ((gX3_takeNumber (gX3_fail M (5 : Int32)) (0 : Int32) ((4 : Int32) - (1 : Int32))) 9 2)) hx hb hts inc3 hown hK hP (by omega) (cell3 (by decide)) rfl 2 (by decide) lk0 (fun _ h => h) rfl dX3_readBox_30 ?_
    refine lv_if_ne (tgt := 41) hx hb dX3_readBox_33 (by decide) (fun c33 => ?_) (fun c33 => ?_)
    · exact xe_v hx hb hr hlocks hP hS rfl (by rw [gX3_readBox, if_neg c9, if_neg c33] <;> rfl) (Nat.le_of_ble_eq_true rfl) (Nat.le_of_ble_eq_true rfl) dX3_readBox_41
    · refine lv_aload_n hx hb dX3_readBox_36 rfl (lv_at hl 2 rfl) ?_
      refine lv_iload_n hx hb dX3_readBox_37 rfl (lv_at hl 0 rfl) ?_
      refine xp (C := RX1) (T := TX1) (N := 9) (ci := 1) (ty := .int) (x := fX3_takeNumber (gX3_fail M (5 : Int32)) (0 : Int32) ((4 : Int32) - (1 : Int32))) hx hb hts inc1 tyX1 tyX1_ok nmX1 hown hK hP hS (kI_lt h_x hn) (fun _ => cell1 h_x) rfl 8 (by decide) rfl lk1 (fun _ h => h) rfl (tyX1_ok 8 (by decide)) rfl rfl (Nat.le_of_ble_eq_true rfl) dX3_readBox_38 (fun H locs hP hS => ?_)
      exact xe_v hx hb hr hlocks hP hS rfl (by rw [gX3_readBox, if_neg c9, if_pos c33] <;> rfl) (Nat.le_of_ble_eq_true rfl) (Nat.le_of_ble_eq_true rfl) dX3_readBox_41
def gX3_readOut (M : Mem) (x : Nat) : Mem := if (fX1_isBoxed M x) = 0 then (gX3_fail M (5 : Int32)) else (mU M x 8 ((-1) : Int32))
set_option maxHeartbeats 4000000 in
set_option maxRecDepth 100000 in
theorem c_X3_readOut (l : Launch) (D : va_G) (cy : Nat → ClassId) (b n : Nat) (hn : 124 ≤ n) (M : Mem) (x : Nat) (h_x : kd x = 1) : Met l yX3_readOut wsX3_readOut ({ frames := 1, cells := 0, slots := 0, locals := 21 } : Room) (CP D cy b n fT M [.ref (b + 9), .ref (b + x)]) (CQv D cy b n fT (gX3_readOut M x)) 0 0 (fr b) := by
  refine Met.ofW (cc := cX3_readOut) (maxL := 2) (ret := none) (by decide) rfl ?_
  intro p e s m args below meth c s₁ B hml hv
  obtain ⟨rfl, hP, hK, hX⟩ := hv
  have hx := B.exec
  have hb := B.bytes
  have hr := B.returns
  have hts := atoms_spec (ws := wsX3_readOut) B.pre
  have hown : s.vm.findClass RX3 = some m.cls := findClass_of_methodNamed B.named
  have hlocks := B.notSynchronized
  have lk0 := hts (.fieldLink RX3 131 "HygrometerRoom$Instrument" "box" "I") (by decide +kernel)
  have inc1 : ∀ w ∈ u_ws RX1 TX1 9, w ∈ wsX3_readOut := by decide +kernel
  have hS : va_S (fr b) s.heap s.heap [] := va_S.rf
  have hl := lv_entry ([.ref (b + 9), .ref (b + x)]) (n := 2) (Nat.le_of_ble_eq_true rfl)
  rw [lg_entry_eq]
  generalize (lg_sl ([.ref (b + 9), .ref (b + x)]) ++ List.replicate (2 - (lg_sl ([.ref (b + 9), .ref (b + x)])).length) Slot.unset).toArray = ls at hl ⊢
  have hl : lv_has ls 2 [(0, .ref (b + 9)), (1, .ref (b + x))] := hl
  refine lv_aload_n hx hb dX3_readOut_0 rfl (lv_at hl 1 rfl) ?_
  refine lv_ifnonnull (tgt := 5) hx hb dX3_readOut_1 (by decide) ?_
  refine lv_aload_n hx hb dX3_readOut_5 rfl (lv_at hl 1 rfl) ?_
  refine xc_i (va_runV (As := []) (rest := []) ⟨hx, hb, hml, hown, hts⟩ (c_X1_isBoxed l D cy b n hn M x h_x) (cwV 0 hts gX3_readOut_X1_isBoxed rfl rfl rfl (by decide +kernel) ⟨Nat.le_of_ble_eq_true rfl, Nat.le_of_ble_eq_true rfl⟩) (xPreV hP hK hX hS (kI_lt h_x hn) (cell1 h_x) rfl) rfl rfl hl.1 rfl (lv_room (Nat.le_of_ble_eq_true rfl)) dX3_readOut_6 ⟨Nat.le_of_ble_eq_true rfl, Nat.le_of_ble_eq_true rfl⟩) hS (fun H locs hP hS => ?_)
  refine lv_if_eq (tgt := 20) hx hb dX3_readOut_9 (by decide) (fun c9 => ?_) (fun c9 => ?_)
  · refine lv_aload_n hx hb dX3_readOut_20 rfl (lv_at hl 0 rfl) ?_
    refine lv_iconst (v := 5) hx hb dX3_readOut_21 (by decide) ?_
    refine xc_v (va_runV (As := [.int (5 : Int32)]) (rest := []) ⟨hx, hb, hml, hown, hts⟩ (c_X3_fail l D cy b n hn M (5 : Int32)) (cwV 1 hts gX3_readOut_X3_fail rfl rfl rfl (by decide +kernel) ⟨Nat.le_of_ble_eq_true rfl, Nat.le_of_ble_eq_true rfl⟩) (xPreV hP hK hX hS (by omega) (cell3 (by decide)) rfl) rfl rfl hl.1 rfl (lv_room (Nat.le_of_ble_eq_true rfl)) dX3_readOut_22 ⟨Nat.le_of_ble_eq_true rfl, Nat.le_of_ble_eq_true rfl⟩) hS (fun H locs hP hS => ?_)
    exact xe_v hx hb hr hlocks hP hS rfl (by rw [gX3_readOut, if_pos c9] <;> rfl) (Nat.le_of_ble_eq_true rfl) (Nat.le_of_ble_eq_true rfl) dX3_readOut_25
  · refine lv_aload_n hx hb dX3_readOut_12 rfl (lv_at hl 1 rfl) ?_
    refine lv_iconst (v := (-1)) hx hb dX3_readOut_13 (by decide) ?_
    refine xp (C := RX1) (T := TX1) (N := 9) (ci := 1) (ty := .int) (x := ((-1) : Int32)) hx hb hts inc1 tyX1 tyX1_ok nmX1 hown hK hP hS (kI_lt h_x hn) (fun _ => cell1 h_x) rfl 8 (by decide) rfl lk0 (fun _ h => h) rfl (tyX1_ok 8 (by decide)) rfl rfl (Nat.le_of_ble_eq_true rfl) dX3_readOut_14 (fun H locs hP hS => ?_)
    refine lv_goto (tgt := 25) hx hb dX3_readOut_17 (by decide) ?_
    exact xe_v hx hb hr hlocks hP hS rfl (by rw [gX3_readOut, if_neg c9] <;> rfl) (Nat.le_of_ble_eq_true rfl) (Nat.le_of_ble_eq_true rfl) dX3_readOut_25
def gX3_readTighten (M : Mem) (x : Nat) : Mem := if (bv (M x 0)) = 0 then (gX3_fail M (3 : Int32)) else (if (M x 1) = 0 then (gX3_fail M (5 : Int32)) else (gX1_tightenSpring M x))
set_option maxHeartbeats 4000000 in
set_option maxRecDepth 100000 in
theorem c_X3_readTighten (l : Launch) (D : va_G) (cy : Nat → ClassId) (b n : Nat) (hn : 124 ≤ n) (M : Mem) (x : Nat) (h_x : kd x = 1) : Met l yX3_readTighten wsX3_readTighten ({ frames := 1, cells := 0, slots := 0, locals := 21 } : Room) (CP D cy b n fT M [.ref (b + 9), .ref (b + x)]) (CQv D cy b n fT (gX3_readTighten M x)) 0 0 (fr b) := by
  refine Met.ofW (cc := cX3_readTighten) (maxL := 2) (ret := none) (by decide) rfl ?_
  intro p e s m args below meth c s₁ B hml hv
  obtain ⟨rfl, hP, hK, hX⟩ := hv
  have hx := B.exec
  have hb := B.bytes
  have hr := B.returns
  have hts := atoms_spec (ws := wsX3_readTighten) B.pre
  have hown : s.vm.findClass RX3 = some m.cls := findClass_of_methodNamed B.named
  have hlocks := B.notSynchronized
  have lk0 := hts (.fieldLink RX3 133 "HygrometerRoom$Instrument" "hair" "Z") (by decide +kernel)
  have lk1 := hts (.fieldLink RX3 136 "HygrometerRoom$Instrument" "hairs" "I") (by decide +kernel)
  have inc1 : ∀ w ∈ u_ws RX1 TX1 9, w ∈ wsX3_readTighten := by decide +kernel
  have hS : va_S (fr b) s.heap s.heap [] := va_S.rf
  have hl := lv_entry ([.ref (b + 9), .ref (b + x)]) (n := 2) (Nat.le_of_ble_eq_true rfl)
  rw [lg_entry_eq]
  generalize (lg_sl ([.ref (b + 9), .ref (b + x)]) ++ List.replicate (2 - (lg_sl ([.ref (b + 9), .ref (b + x)])).length) Slot.unset).toArray = ls at hl ⊢
  have hl : lv_has ls 2 [(0, .ref (b + 9)), (1, .ref (b + x))] := hl
  refine lv_aload_n hx hb dX3_readTighten_0 rfl (lv_at hl 1 rfl) ?_
  refine lv_ifnonnull (tgt := 5) hx hb dX3_readTighten_1 (by decide) ?_
  refine lv_aload_n hx hb dX3_readTighten_5 rfl (lv_at hl 1 rfl) ?_
  refine xg (C := RX1) (T := TX1) (N := 9) (v := .int (bv (M x 0))) hx hb hts inc1 hown hK hP (kI_lt h_x hn) (cell1 h_x) rfl 0 (by decide) lk0 (fun _ h => h) rfl dX3_readTighten_6 ?_
  refine lv_if_ne (tgt := 20) hx hb dX3_readTighten_9 (by decide) (fun c9 => ?_) (fun c9 => ?_)
  · refine lv_aload_n hx hb dX3_readTighten_20 rfl (lv_at hl 1 rfl) ?_
    refine xg (C := RX1) (T := TX1) (N := 9) (v := .int (M x 1)) hx hb hts inc1 hown hK hP (kI_lt h_x hn) (cell1 h_x) rfl 1 (by decide) lk1 (fun _ h => h) rfl dX3_readTighten_21 ?_
    refine lv_if_ne (tgt := 35) hx hb dX3_readTighten_24 (by decide) (fun c24 => ?_) (fun c24 => ?_)
    · refine lv_aload_n hx hb dX3_readTighten_35 rfl (lv_at hl 1 rfl) ?_
      refine xc_v (va_runV (As := []) (rest := []) ⟨hx, hb, hml, hown, hts⟩ (c_X1_tightenSpring l D cy b n hn M x h_x) (cwV 0 hts gX3_readTighten_X1_tightenSpring rfl rfl rfl (by decide +kernel) ⟨Nat.le_of_ble_eq_true rfl, Nat.le_of_ble_eq_true rfl⟩) (xPreV hP hK hX hS (kI_lt h_x hn) (cell1 h_x) rfl) rfl rfl hl.1 rfl (lv_room (Nat.le_of_ble_eq_true rfl)) dX3_readTighten_36 ⟨Nat.le_of_ble_eq_true rfl, Nat.le_of_ble_eq_true rfl⟩) hS (fun H locs hP hS => ?_)
      exact xe_v hx hb hr hlocks hP hS rfl (by rw [gX3_readTighten, if_neg c9, if_neg c24] <;> rfl) (Nat.le_of_ble_eq_true rfl) (Nat.le_of_ble_eq_true rfl) dX3_readTighten_39
    · refine lv_aload_n hx hb dX3_readTighten_27 rfl (lv_at hl 0 rfl) ?_
      refine lv_iconst (v := 5) hx hb dX3_readTighten_28 (by decide) ?_
      refine xc_v (va_runV (As := [.int (5 : Int32)]) (rest := []) ⟨hx, hb, hml, hown, hts⟩ (c_X3_fail l D cy b n hn M (5 : Int32)) (cwV 1 hts gX3_readTighten_X3_fail rfl rfl rfl (by decide +kernel) ⟨Nat.le_of_ble_eq_true rfl, Nat.le_of_ble_eq_true rfl⟩) (xPreV hP hK hX hS (by omega) (cell3 (by decide)) rfl) rfl rfl hl.1 rfl (lv_room (Nat.le_of_ble_eq_true rfl)) dX3_readTighten_29 ⟨Nat.le_of_ble_eq_true rfl, Nat.le_of_ble_eq_true rfl⟩) hS (fun H locs hP hS => ?_)
      refine lv_goto (tgt := 39) hx hb dX3_readTighten_32 (by decide) ?_
      exact xe_v hx hb hr hlocks hP hS rfl (by rw [gX3_readTighten, if_neg c9, if_pos c24] <;> rfl) (Nat.le_of_ble_eq_true rfl) (Nat.le_of_ble_eq_true rfl) dX3_readTighten_39
  · refine lv_aload_n hx hb dX3_readTighten_12 rfl (lv_at hl 0 rfl) ?_
    refine lv_iconst (v := 3) hx hb dX3_readTighten_13 (by decide) ?_
    refine xc_v (va_runV (As := [.int (3 : Int32)]) (rest := []) ⟨hx, hb, hml, hown, hts⟩ (c_X3_fail l D cy b n hn M (3 : Int32)) (cwV 1 hts gX3_readTighten_X3_fail rfl rfl rfl (by decide +kernel) ⟨Nat.le_of_ble_eq_true rfl, Nat.le_of_ble_eq_true rfl⟩) (xPreV hP hK hX hS (by omega) (cell3 (by decide)) rfl) rfl rfl hl.1 rfl (lv_room (Nat.le_of_ble_eq_true rfl)) dX3_readTighten_14 ⟨Nat.le_of_ble_eq_true rfl, Nat.le_of_ble_eq_true rfl⟩) hS (fun H locs hP hS => ?_)
    refine lv_goto (tgt := 39) hx hb dX3_readTighten_17 (by decide) ?_
    exact xe_v hx hb hr hlocks hP hS rfl (by rw [gX3_readTighten, if_pos c9] <;> rfl) (Nat.le_of_ble_eq_true rfl) (Nat.le_of_ble_eq_true rfl) dX3_readTighten_39
def gX3_readMoisten (M : Mem) (x : Nat) : Mem := if (bv (M x 0)) = 0 then (mU M x 6 (60 : Int32)) else (gX3_fail M (3 : Int32))
set_option maxHeartbeats 4000000 in
set_option maxRecDepth 100000 in
theorem c_X3_readMoisten (l : Launch) (D : va_G) (cy : Nat → ClassId) (b n : Nat) (hn : 124 ≤ n) (M : Mem) (x : Nat) (h_x : kd x = 1) : Met l yX3_readMoisten wsX3_readMoisten ({ frames := 1, cells := 0, slots := 0, locals := 21 } : Room) (CP D cy b n fT M [.ref (b + 9), .ref (b + x)]) (CQv D cy b n fT (gX3_readMoisten M x)) 0 0 (fr b) := by
  refine Met.ofW (cc := cX3_readMoisten) (maxL := 2) (ret := none) (by decide) rfl ?_
  intro p e s m args below meth c s₁ B hml hv
  obtain ⟨rfl, hP, hK, hX⟩ := hv
  have hx := B.exec
  have hb := B.bytes
  have hr := B.returns
  have hts := atoms_spec (ws := wsX3_readMoisten) B.pre
  have hown : s.vm.findClass RX3 = some m.cls := findClass_of_methodNamed B.named
  have hlocks := B.notSynchronized
  have lk0 := hts (.fieldLink RX3 133 "HygrometerRoom$Instrument" "hair" "Z") (by decide +kernel)
  have lk1 := hts (.fieldLink RX3 142 "HygrometerRoom$Instrument" "water" "I") (by decide +kernel)
  have inc1 : ∀ w ∈ u_ws RX1 TX1 9, w ∈ wsX3_readMoisten := by decide +kernel
  have hS : va_S (fr b) s.heap s.heap [] := va_S.rf
  have hl := lv_entry ([.ref (b + 9), .ref (b + x)]) (n := 2) (Nat.le_of_ble_eq_true rfl)
  rw [lg_entry_eq]
  generalize (lg_sl ([.ref (b + 9), .ref (b + x)]) ++ List.replicate (2 - (lg_sl ([.ref (b + 9), .ref (b + x)])).length) Slot.unset).toArray = ls at hl ⊢
  have hl : lv_has ls 2 [(0, .ref (b + 9)), (1, .ref (b + x))] := hl
  refine lv_aload_n hx hb dX3_readMoisten_0 rfl (lv_at hl 1 rfl) ?_
  refine lv_ifnonnull (tgt := 5) hx hb dX3_readMoisten_1 (by decide) ?_
  refine lv_aload_n hx hb dX3_readMoisten_5 rfl (lv_at hl 1 rfl) ?_
  refine xg (C := RX1) (T := TX1) (N := 9) (v := .int (bv (M x 0))) hx hb hts inc1 hown hK hP (kI_lt h_x hn) (cell1 h_x) rfl 0 (by decide) lk0 (fun _ h => h) rfl dX3_readMoisten_6 ?_
  refine lv_if_eq (tgt := 20) hx hb dX3_readMoisten_9 (by decide) (fun c9 => ?_) (fun c9 => ?_)
  · refine lv_aload_n hx hb dX3_readMoisten_20 rfl (lv_at hl 1 rfl) ?_
    refine lv_bipush (v := 60) hx hb dX3_readMoisten_21 (by decide) ?_
    refine xp (C := RX1) (T := TX1) (N := 9) (ci := 1) (ty := .int) (x := (60 : Int32)) hx hb hts inc1 tyX1 tyX1_ok nmX1 hown hK hP hS (kI_lt h_x hn) (fun _ => cell1 h_x) rfl 6 (by decide) rfl lk1 (fun _ h => h) rfl (tyX1_ok 6 (by decide)) rfl rfl (Nat.le_of_ble_eq_true rfl) dX3_readMoisten_23 (fun H locs hP hS => ?_)
    exact xe_v hx hb hr hlocks hP hS rfl (by rw [gX3_readMoisten, if_pos c9] <;> rfl) (Nat.le_of_ble_eq_true rfl) (Nat.le_of_ble_eq_true rfl) dX3_readMoisten_26
  · refine lv_aload_n hx hb dX3_readMoisten_12 rfl (lv_at hl 0 rfl) ?_
    refine lv_iconst (v := 3) hx hb dX3_readMoisten_13 (by decide) ?_
    refine xc_v (va_runV (As := [.int (3 : Int32)]) (rest := []) ⟨hx, hb, hml, hown, hts⟩ (c_X3_fail l D cy b n hn M (3 : Int32)) (cwV 1 hts gX3_readMoisten_X3_fail rfl rfl rfl (by decide +kernel) ⟨Nat.le_of_ble_eq_true rfl, Nat.le_of_ble_eq_true rfl⟩) (xPreV hP hK hX hS (by omega) (cell3 (by decide)) rfl) rfl rfl hl.1 rfl (lv_room (Nat.le_of_ble_eq_true rfl)) dX3_readMoisten_14 ⟨Nat.le_of_ble_eq_true rfl, Nat.le_of_ble_eq_true rfl⟩) hS (fun H locs hP hS => ?_)
    refine lv_goto (tgt := 26) hx hb dX3_readMoisten_17 (by decide) ?_
    exact xe_v hx hb hr hlocks hP hS rfl (by rw [gX3_readMoisten, if_neg c9] <;> rfl) (Nat.le_of_ble_eq_true rfl) (Nat.le_of_ble_eq_true rfl) dX3_readMoisten_26

