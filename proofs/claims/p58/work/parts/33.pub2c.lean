def fX7_append (M : Mem) (p1 : Int32) (p2 : Int32) (p3 : Int32) (p4 : Int32) (p5 : Int32) : Int32 := if (M 10 1) ≤ (580 : Int32) then ((gX6_put (gX6_put (gX6_put (gX6_put (gX6_put M p1) p2) p3) p4) p5) 10 1) else 0
def gX7_append (M : Mem) (p1 : Int32) (p2 : Int32) (p3 : Int32) (p4 : Int32) (p5 : Int32) : Mem := if (M 10 1) ≤ (580 : Int32) then (gX6_put (gX6_put (gX6_put (gX6_put (gX6_put M p1) p2) p3) p4) p5) else M
def tX7_append (M : Mem) (p1 : Int32) (p2 : Int32) (p3 : Int32) (p4 : Int32) (p5 : Int32) : Nat := if (M 10 1) ≤ (580 : Int32) then 0 else 3
set_option maxHeartbeats 4000000 in
set_option maxRecDepth 100000 in
theorem c_X7_append (l : Launch) (hl0 : l.stackTraces = false) (D : va_G) (cy : Nat → ClassId) (b n : Nat) (hn : 124 ≤ n) (M : Mem) (p1 : Int32) (p2 : Int32) (p3 : Int32) (p4 : Int32) (p5 : Int32) (htf : TF M) : vx_Met l yX7_append wsX7_append ({ frames := 6, cells := 1, slots := 6, locals := 90 } : Room) (CP D cy b n fT M [.ref (b + 0), .int p1, .int p2, .int p3, .int p4, .int p5]) (CTi D cy b n fT (tX7_append M p1 p2 p3 p4 p5) (fX7_append M p1 p2 p3 p4 p5) (gX7_append M p1 p2 p3 p4 p5)) (CX D cy b n fT (tX7_append M p1 p2 p3 p4 p5) (gX7_append M p1 p2 p3 p4 p5)) 1 6 (fr b) := by
  refine vx_ofW (cc := cX7_append) (maxL := 6) (ret := (some .int)) (by decide) rfl ?_
  intro p e s m args below meth c s₁ B hml hout hv
  obtain ⟨rfl, hP, hK, hX⟩ := hv
  have hx := B.exec
  have hb := B.bytes
  have hr := B.returns
  have hts := atoms_spec (ws := wsX7_append) B.pre
  have hown : s.vm.findClass RX7 = some m.cls := findClass_of_methodNamed B.named
  have hlocks := B.notSynchronized
  have lk0 := hts (.fieldLink RX7 19 "HygrometerRoom" "reader" "LHygrometerRoom$Reader;") (by decide +kernel)
  have lk1 := hts (.fieldLink RX7 77 "HygrometerRoom$Reader" "tokens" "LHygrometerRoom$Tokens;") (by decide +kernel)
  have lk2 := hts (.fieldLink RX7 81 "HygrometerRoom$Tokens" "filled" "I") (by decide +kernel)
  have lk3 := hts (.classLink RX7 86 "java/lang/IllegalStateException") (by decide +kernel)
  have lk4 := hts (.initialized "java/lang/IllegalStateException") (by decide +kernel)
  have at90 : ∀ w ∈ (vx_atS RX7 90 "java/lang/IllegalStateException" ["java/lang/RuntimeException", "java/lang/Exception"]).filter goodWord, w ∈ wsX7_append := by decide +kernel
  have inc3 : ∀ w ∈ u_ws RX3 TX3 4, w ∈ wsX7_append := by decide +kernel
  have inc6 : ∀ w ∈ u_ws RX6 TX6 6, w ∈ wsX7_append := by decide +kernel
  have inc7 : ∀ w ∈ u_ws RX7 TX7 6, w ∈ wsX7_append := by decide +kernel
  have hS : va_S (fr b) s.heap s.heap [] := va_S.rf
  have hl := lv_entry ([.ref (b + 0), .int p1, .int p2, .int p3, .int p4, .int p5]) (n := 6) (Nat.le_of_ble_eq_true rfl)
  rw [lg_entry_eq]
  generalize (lg_sl ([.ref (b + 0), .int p1, .int p2, .int p3, .int p4, .int p5]) ++ List.replicate (6 - (lg_sl ([.ref (b + 0), .int p1, .int p2, .int p3, .int p4, .int p5])).length) Slot.unset).toArray = ls at hl ⊢
  have hl : lv_has ls 6 [(0, .ref (b + 0)), (1, .int p1), (2, .int p2), (3, .int p3), (4, .int p4), (5, .int p5)] := hl
  refine lv_aload_n hx hb dX7_append_0 rfl (lv_at hl 0 rfl) ?_
  refine xg (C := RX7) (T := TX7) (N := 6) (v := .ref (b + 9)) hx hb hts inc7 hown hK hP (by omega) (cell7 (by decide)) rfl 1 (by decide) lk0 (fun _ h => h) rfl dX7_append_1 ?_
  refine xg (C := RX3) (T := TX3) (N := 4) (v := .ref (b + 10)) hx hb hts inc3 hown hK hP (by omega) (cell3 (by decide)) rfl 0 (by decide) lk1 (fun _ h => h) rfl dX7_append_4 ?_
  refine xg (C := RX6) (T := TX6) (N := 6) (v := .int (M 10 1)) hx hb hts inc6 hown hK hP (by omega) (cell6 (by decide)) rfl 1 (by decide) lk2 (fun _ h => h) rfl dX7_append_7 ?_
  refine lv_sipush (v := 580) hx hb dX7_append_10 (by decide) ?_
  refine lv_icmp_le (tgt := 26) hx hb dX7_append_13 (by decide) (fun c13 => ?_) (fun c13 => ?_)
  · refine lv_aload_n hx hb dX7_append_26 rfl (lv_at hl 0 rfl) ?_
    refine xg (C := RX7) (T := TX7) (N := 6) (v := .ref (b + 9)) hx hb hts inc7 hown hK hP (by omega) (cell7 (by decide)) rfl 1 (by decide) lk0 (fun _ h => h) rfl dX7_append_27 ?_
    refine xg (C := RX3) (T := TX3) (N := 4) (v := .ref (b + 10)) hx hb hts inc3 hown hK hP (by omega) (cell3 (by decide)) rfl 0 (by decide) lk1 (fun _ h => h) rfl dX7_append_30 ?_
    refine lv_iload_n hx hb dX7_append_33 rfl (lv_at hl 1 rfl) ?_
    refine xc_v (va_runV (As := [.int p1]) (rest := []) ⟨hx, hb, hml, hown, hts⟩ (c_X6_put l D cy b n hn M p1 (by repeat (first | exact htf | apply put_tf))) (cwV 1 hts gX7_append_X6_put rfl rfl rfl (by decide +kernel) ⟨Nat.le_of_ble_eq_true rfl, Nat.le_of_ble_eq_true rfl⟩) (xPreV hP hK hX hS (by omega) (cell6 (by decide)) rfl) rfl rfl hl.1 rfl (lv_room (Nat.le_of_ble_eq_true rfl)) dX7_append_34 ⟨Nat.le_of_ble_eq_true rfl, Nat.le_of_ble_eq_true rfl⟩) hS (fun H locs hP hS => ?_)
    refine lv_aload_n hx hb dX7_append_37 rfl (lv_at hl 0 rfl) ?_
    refine xg (C := RX7) (T := TX7) (N := 6) (v := .ref (b + 9)) hx hb hts inc7 hown hK hP (by omega) (cell7 (by decide)) rfl 1 (by decide) lk0 (fun _ h => h) rfl dX7_append_38 ?_
    refine xg (C := RX3) (T := TX3) (N := 4) (v := .ref (b + 10)) hx hb hts inc3 hown hK hP (by omega) (cell3 (by decide)) rfl 0 (by decide) lk1 (fun _ h => h) rfl dX7_append_41 ?_
    refine lv_iload_n hx hb dX7_append_44 rfl (lv_at hl 2 rfl) ?_
    refine xc_v (va_runV (As := [.int p2]) (rest := []) ⟨hx, hb, hml, hown, hts⟩ (c_X6_put l D cy b n hn (gX6_put M p1) p2 (by repeat (first | exact htf | apply put_tf))) (cwV 1 hts gX7_append_X6_put rfl rfl rfl (by decide +kernel) ⟨Nat.le_of_ble_eq_true rfl, Nat.le_of_ble_eq_true rfl⟩) (xPreV hP hK hX hS (by omega) (cell6 (by decide)) rfl) rfl rfl hl.1 rfl (lv_room (Nat.le_of_ble_eq_true rfl)) dX7_append_45 ⟨Nat.le_of_ble_eq_true rfl, Nat.le_of_ble_eq_true rfl⟩) hS (fun H locs hP hS => ?_)
    refine lv_aload_n hx hb dX7_append_48 rfl (lv_at hl 0 rfl) ?_
    refine xg (C := RX7) (T := TX7) (N := 6) (v := .ref (b + 9)) hx hb hts inc7 hown hK hP (by omega) (cell7 (by decide)) rfl 1 (by decide) lk0 (fun _ h => h) rfl dX7_append_49 ?_
    refine xg (C := RX3) (T := TX3) (N := 4) (v := .ref (b + 10)) hx hb hts inc3 hown hK hP (by omega) (cell3 (by decide)) rfl 0 (by decide) lk1 (fun _ h => h) rfl dX7_append_52 ?_
    refine lv_iload_n hx hb dX7_append_55 rfl (lv_at hl 3 rfl) ?_
    refine xc_v (va_runV (As := [.int p3]) (rest := []) ⟨hx, hb, hml, hown, hts⟩ (c_X6_put l D cy b n hn (gX6_put (gX6_put M p1) p2) p3 (by repeat (first | exact htf | apply put_tf))) (cwV 1 hts gX7_append_X6_put rfl rfl rfl (by decide +kernel) ⟨Nat.le_of_ble_eq_true rfl, Nat.le_of_ble_eq_true rfl⟩) (xPreV hP hK hX hS (by omega) (cell6 (by decide)) rfl) rfl rfl hl.1 rfl (lv_room (Nat.le_of_ble_eq_true rfl)) dX7_append_56 ⟨Nat.le_of_ble_eq_true rfl, Nat.le_of_ble_eq_true rfl⟩) hS (fun H locs hP hS => ?_)
    refine lv_aload_n hx hb dX7_append_59 rfl (lv_at hl 0 rfl) ?_
    refine xg (C := RX7) (T := TX7) (N := 6) (v := .ref (b + 9)) hx hb hts inc7 hown hK hP (by omega) (cell7 (by decide)) rfl 1 (by decide) lk0 (fun _ h => h) rfl dX7_append_60 ?_
    refine xg (C := RX3) (T := TX3) (N := 4) (v := .ref (b + 10)) hx hb hts inc3 hown hK hP (by omega) (cell3 (by decide)) rfl 0 (by decide) lk1 (fun _ h => h) rfl dX7_append_63 ?_
    refine lv_iload hx hb dX7_append_66 (lv_at hl 4 rfl) ?_
    refine xc_v (va_runV (As := [.int p4]) (rest := []) ⟨hx, hb, hml, hown, hts⟩ (c_X6_put l D cy b n hn (gX6_put (gX6_put (gX6_put M p1) p2) p3) p4 (by repeat (first | exact htf | apply put_tf))) (cwV 1 hts gX7_append_X6_put rfl rfl rfl (by decide +kernel) ⟨Nat.le_of_ble_eq_true rfl, Nat.le_of_ble_eq_true rfl⟩) (xPreV hP hK hX hS (by omega) (cell6 (by decide)) rfl) rfl rfl hl.1 rfl (lv_room (Nat.le_of_ble_eq_true rfl)) dX7_append_68 ⟨Nat.le_of_ble_eq_true rfl, Nat.le_of_ble_eq_true rfl⟩) hS (fun H locs hP hS => ?_)
    refine lv_aload_n hx hb dX7_append_71 rfl (lv_at hl 0 rfl) ?_
    refine xg (C := RX7) (T := TX7) (N := 6) (v := .ref (b + 9)) hx hb hts inc7 hown hK hP (by omega) (cell7 (by decide)) rfl 1 (by decide) lk0 (fun _ h => h) rfl dX7_append_72 ?_
    refine xg (C := RX3) (T := TX3) (N := 4) (v := .ref (b + 10)) hx hb hts inc3 hown hK hP (by omega) (cell3 (by decide)) rfl 0 (by decide) lk1 (fun _ h => h) rfl dX7_append_75 ?_
    refine lv_iload hx hb dX7_append_78 (lv_at hl 5 rfl) ?_
    refine xc_v (va_runV (As := [.int p5]) (rest := []) ⟨hx, hb, hml, hown, hts⟩ (c_X6_put l D cy b n hn (gX6_put (gX6_put (gX6_put (gX6_put M p1) p2) p3) p4) p5 (by repeat (first | exact htf | apply put_tf))) (cwV 1 hts gX7_append_X6_put rfl rfl rfl (by decide +kernel) ⟨Nat.le_of_ble_eq_true rfl, Nat.le_of_ble_eq_true rfl⟩) (xPreV hP hK hX hS (by omega) (cell6 (by decide)) rfl) rfl rfl hl.1 rfl (lv_room (Nat.le_of_ble_eq_true rfl)) dX7_append_80 ⟨Nat.le_of_ble_eq_true rfl, Nat.le_of_ble_eq_true rfl⟩) hS (fun H locs hP hS => ?_)
    refine lv_aload_n hx hb dX7_append_83 rfl (lv_at hl 0 rfl) ?_
    refine xg (C := RX7) (T := TX7) (N := 6) (v := .ref (b + 9)) hx hb hts inc7 hown hK hP (by omega) (cell7 (by decide)) rfl 1 (by decide) lk0 (fun _ h => h) rfl dX7_append_84 ?_
    refine xg (C := RX3) (T := TX3) (N := 4) (v := .ref (b + 10)) hx hb hts inc3 hown hK hP (by omega) (cell3 (by decide)) rfl 0 (by decide) lk1 (fun _ h => h) rfl dX7_append_87 ?_
    refine xg (C := RX6) (T := TX6) (N := 6) (v := .int ((gX6_put (gX6_put (gX6_put (gX6_put (gX6_put M p1) p2) p3) p4) p5) 10 1)) hx hb hts inc6 hown hK hP (by omega) (cell6 (by decide)) rfl 1 (by decide) lk2 (fun _ h => h) rfl dX7_append_90 ?_
    exact xt_i hx hb hr hlocks hP hS rfl (by rw [tX7_append, if_pos c13] <;> rfl) (by rw [gX7_append, if_pos c13] <;> rfl) (by rw [fX7_append, if_pos c13] <;> rfl) rfl (Nat.le_of_ble_eq_true rfl) (Nat.le_of_ble_eq_true rfl) dX7_append_93
  · exact xth (cls := "java/lang/IllegalStateException") (text := "the input buffer is full") hx hb hl0 hown hX (by decide +kernel) (by decide +kernel) (by decide +kernel) lk3 lk4 (fun w h => hts w (at90 w h)) (by decide +kernel) (by decide +kernel) hP hS rfl (by rw [gX7_append, if_neg c13] <;> rfl) (by rw [tX7_append, if_neg c13]; exact Or.inr (Or.inr ⟨rfl, rfl⟩)) (hl.1.trans hml.symm) dX7_append_16 dX7_append_19 dX7_append_20 dX7_append_22 dX7_append_25 hout (Nat.le_of_ble_eq_true rfl) (Nat.le_of_ble_eq_true rfl) (Nat.le_of_ble_eq_true rfl) (Nat.le_of_ble_eq_true rfl) hlocks (Nat.le_of_ble_eq_true rfl) (Nat.le_of_ble_eq_true rfl)
theorem up_le {y : Int32} {N j : Nat} (h : UB y N) (hc : ¬ y < nI j) (hj : j ≤ N + 1) (hN : N < 2 ^ 30 := by decide) : j ≤ N := by
  obtain ⟨k, hk, rfl⟩ := h
  rw [nI_ltI (by omega) (by omega)] at hc
  omega
def LX7_readingAfter_35f (x : Int32) (y : Int32) : Nat → Mem → Nat → Int32
  | 0, _, _ => 0
  | k + 1, M, j => if y < (nI (j)) then (fX4_reading M 1 123) else (LX7_readingAfter_35f x y k (gX1_age M 123 ((M 1 2) + (nI (j))) (fX4_surrounding M 1 123)) (j + 1))
def LX7_readingAfter_35g (x : Int32) (y : Int32) : Nat → Mem → Nat → Mem
  | 0, M, _ => M
  | k + 1, M, j => if y < (nI (j)) then M else (LX7_readingAfter_35g x y k (gX1_age M 123 ((M 1 2) + (nI (j))) (fX4_surrounding M 1 123)) (j + 1))
set_option maxHeartbeats 4000000 in
set_option maxRecDepth 100000 in
theorem cl_X7_readingAfter_35 (l : Launch) (D : va_G) (cy : Nat → ClassId) (b n : Nat) (hn : 124 ≤ n) (x : Int32) (y : Int32)  {p : Program} {e : Env} {s : State} {m : MethodId} {args : Array Value} {below : List Frame} {meth : Method} {c : Code} {XC : String → State → State → Prop} (hx : p.tables.exec = Jvm.exec) (hb : c.code = cX7_readingAfter) (hr : meth.sig.returnType = (some .int)) (hlocks : meth.locks = false) (hml : c.maxLocals = 4) (hown : s.vm.findClass RX7 = some m.cls) (hts : ∀ w ∈ wsX7_readingAfter, w.before args s = true) (hK : va_K D vwCl (tysW cy) s) (hX : SX b s)  : ∀ (k : Nat) (M : Mem) (j : Nat) (H : Heap) (locs : List Loc) (ls : Array Slot), UB y 200 → j ≤ 201 → 202 ≤ j + k → va_P D vwCl (wL cy b fT M n) H → va_S (fr b) s.heap H locs → lv_has ls 4 [(0, .ref (b + 0)), (1, .int x), (2, .int y), (3, .int (nI (j)))] → W p l e (headSpec wsX7_readingAfter ({ frames := 7, cells := 2, slots := 12, locals := 112 } : Room)).room s m args below meth c H locs 1 6 (vx_MQ below (CTi D cy b n fT (0) (LX7_readingAfter_35f x y k M j) (LX7_readingAfter_35g x y k M j)) XC args s 2 12 (fr b)) (F0 m 35 ls []) := by
  have lk0 := hts (.fieldLink RX7 10 "HygrometerRoom" "room" "LHygrometerRoom$Room;") (by decide +kernel)
  have lk1 := hts (.fieldLink RX7 47 "HygrometerRoom" "probe" "LHygrometerRoom$Instrument;") (by decide +kernel)
  have lk2 := hts (.fieldLink RX7 129 "HygrometerRoom$Room" "minute" "I") (by decide +kernel)
  have inc4 : ∀ w ∈ u_ws RX4 TX4 8, w ∈ wsX7_readingAfter := by decide +kernel
  have inc7 : ∀ w ∈ u_ws RX7 TX7 6, w ∈ wsX7_readingAfter := by decide +kernel
  intro k
  induction k with
  | zero => intro M j H locs ls hx2 hj hk hP hS hl; omega
  | succ k ih =>
    intro M j H locs ls hx2 hj hk hP hS hl
    refine lv_iload_n hx hb dX7_readingAfter_35 rfl (lv_at hl 3 rfl) ?_
    refine lv_iload_n hx hb dX7_readingAfter_36 rfl (lv_at hl 2 rfl) ?_
    refine lv_icmp_gt (tgt := 73) hx hb dX7_readingAfter_37 (by decide) (fun c37 => ?_) (fun c37 => ?_)
    · refine lv_aload_n hx hb dX7_readingAfter_73 rfl (lv_at hl 0 rfl) ?_
      refine xg (C := RX7) (T := TX7) (N := 6) (v := .ref (b + 1)) hx hb hts inc7 hown hK hP (by omega) (cell7 (by decide)) rfl 0 (by decide) lk0 (fun _ h => h) rfl dX7_readingAfter_74 ?_
      refine lv_aload_n hx hb dX7_readingAfter_77 rfl (lv_at hl 0 rfl) ?_
      refine xg (C := RX7) (T := TX7) (N := 6) (v := .ref (b + 123)) hx hb hts inc7 hown hK hP (by omega) (cell7 (by decide)) rfl 5 (by decide) lk1 (fun _ h => h) rfl dX7_readingAfter_78 ?_
      refine xc_i (va_runV (As := [.ref (b + 123)]) (rest := []) ⟨hx, hb, hml, hown, hts⟩ (c_X4_reading l D cy b n hn M 1 123 (by decide) (by decide)) (cwV 1 hts gX7_readingAfter_X4_reading rfl rfl rfl (by decide +kernel) ⟨Nat.le_of_ble_eq_true rfl, Nat.le_of_ble_eq_true rfl⟩) (xPreV hP hK hX hS (by omega) (cell4 (by decide)) rfl) rfl rfl hl.1 rfl (lv_room (Nat.le_of_ble_eq_true rfl)) dX7_readingAfter_81 ⟨Nat.le_of_ble_eq_true rfl, Nat.le_of_ble_eq_true rfl⟩) hS (fun H locs hP hS => ?_)
      exact xt_i hx hb hr hlocks hP hS rfl rfl (by rw [LX7_readingAfter_35g, if_pos c37] <;> rfl) (by rw [LX7_readingAfter_35f, if_pos c37] <;> rfl) (by unfold fX4_reading; (repeat' split) <;> rfl) (Nat.le_of_ble_eq_true rfl) (Nat.le_of_ble_eq_true rfl) dX7_readingAfter_84
    · have hj2 := up_le hx2 c37 hj
      refine lv_aload_n hx hb dX7_readingAfter_40 rfl (lv_at hl 0 rfl) ?_
      refine xg (C := RX7) (T := TX7) (N := 6) (v := .ref (b + 123)) hx hb hts inc7 hown hK hP (by omega) (cell7 (by decide)) rfl 5 (by decide) lk1 (fun _ h => h) rfl dX7_readingAfter_41 ?_
      refine lv_aload_n hx hb dX7_readingAfter_44 rfl (lv_at hl 0 rfl) ?_
      refine xg (C := RX7) (T := TX7) (N := 6) (v := .ref (b + 1)) hx hb hts inc7 hown hK hP (by omega) (cell7 (by decide)) rfl 0 (by decide) lk0 (fun _ h => h) rfl dX7_readingAfter_45 ?_
      refine xg (C := RX4) (T := TX4) (N := 8) (v := .int (M 1 2)) hx hb hts inc4 hown hK hP (by omega) (cell4 (by decide)) rfl 2 (by decide) lk2 (fun _ h => h) rfl dX7_readingAfter_48 ?_
      refine lv_iload_n hx hb dX7_readingAfter_51 rfl (lv_at hl 3 rfl) ?_
      refine lv_iadd hx hb dX7_readingAfter_52 ?_
      refine lv_aload_n hx hb dX7_readingAfter_53 rfl (lv_at hl 0 rfl) ?_
      refine xg (C := RX7) (T := TX7) (N := 6) (v := .ref (b + 1)) hx hb hts inc7 hown hK hP (by omega) (cell7 (by decide)) rfl 0 (by decide) lk0 (fun _ h => h) rfl dX7_readingAfter_54 ?_
      refine lv_aload_n hx hb dX7_readingAfter_57 rfl (lv_at hl 0 rfl) ?_
      refine xg (C := RX7) (T := TX7) (N := 6) (v := .ref (b + 123)) hx hb hts inc7 hown hK hP (by omega) (cell7 (by decide)) rfl 5 (by decide) lk1 (fun _ h => h) rfl dX7_readingAfter_58 ?_
      refine xc_i (va_runV (As := [.ref (b + 123)]) (rest := [.int ((M 1 2) + (nI (j))), .ref (b + 123)]) ⟨hx, hb, hml, hown, hts⟩ (c_X4_surrounding l D cy b n hn M 1 123 (by decide) (by decide)) (cwV 1 hts gX7_readingAfter_X4_surrounding rfl rfl rfl (by decide +kernel) ⟨Nat.le_of_ble_eq_true rfl, Nat.le_of_ble_eq_true rfl⟩) (xPreV hP hK hX hS (by omega) (cell4 (by decide)) rfl) rfl rfl hl.1 rfl (lv_room (Nat.le_of_ble_eq_true rfl)) dX7_readingAfter_61 ⟨Nat.le_of_ble_eq_true rfl, Nat.le_of_ble_eq_true rfl⟩) hS (fun H locs hP hS => ?_)
      refine xc_v (va_runV (As := [.int ((M 1 2) + (nI (j))), .int (fX4_surrounding M 1 123)]) (rest := []) ⟨hx, hb, hml, hown, hts⟩ (c_X1_age l D cy b n hn M 123 ((M 1 2) + (nI (j))) (fX4_surrounding M 1 123) (by decide)) (cwV 2 hts gX7_readingAfter_X1_age rfl rfl rfl (by decide +kernel) ⟨Nat.le_of_ble_eq_true rfl, Nat.le_of_ble_eq_true rfl⟩) (xPreV hP hK hX hS (by omega) (cell1 (by decide)) rfl) rfl rfl hl.1 rfl (lv_room (Nat.le_of_ble_eq_true rfl)) dX7_readingAfter_64 ⟨Nat.le_of_ble_eq_true rfl, Nat.le_of_ble_eq_true rfl⟩) hS (fun H locs hP hS => ?_)
      refine lv_iinc (v := nI (j + 1)) (lv' := [(3, .int (nI (j + 1))), (0, .ref (b + 0)), (1, .int x), (2, .int y)]) hx hb dX7_readingAfter_67 hl (k := 3) rfl (ixAdd (a := j) (c := 1) (d := j + 1) rfl rfl (by omega)) (by decide) rfl (fun ls hl => ?_)
      refine lv_goto (tgt := 35) hx hb dX7_readingAfter_70 (by decide) ?_
      rw [show LX7_readingAfter_35f x y (k + 1) M j = LX7_readingAfter_35f x y k (gX1_age M 123 ((M 1 2) + (nI (j))) (fX4_surrounding M 1 123)) (j + 1) from (by rw [LX7_readingAfter_35f, if_neg c37]), show LX7_readingAfter_35g x y (k + 1) M j = LX7_readingAfter_35g x y k (gX1_age M 123 ((M 1 2) + (nI (j))) (fX4_surrounding M 1 123)) (j + 1) from (by rw [LX7_readingAfter_35g, if_neg c37])]
      exact ih (gX1_age M 123 ((M 1 2) + (nI (j))) (fX4_surrounding M 1 123)) (j + 1) H locs ls hx2 (by omega) (by omega) hP hS (lv_sub hl [1, 2, 3, 0] rfl)

def fX7_readingAfter (M : Mem) (x : Int32) (y : Int32) : Int32 := if y < 0 then 0 else (if y ≤ (200 : Int32) then (LX7_readingAfter_35f x y 201 (gX1_copyFrom M 123 (1 + 1 + 1 + x.toNatClampNeg)) 1) else 0)
def gX7_readingAfter (M : Mem) (x : Int32) (y : Int32) : Mem := if (tX7_instrumentAt M x) = 0 then (if y < 0 then (gX1_copyFrom M 123 (1 + 1 + 1 + x.toNatClampNeg)) else (if y ≤ (200 : Int32) then (LX7_readingAfter_35g x y 201 (gX1_copyFrom M 123 (1 + 1 + 1 + x.toNatClampNeg)) 1) else (gX1_copyFrom M 123 (1 + 1 + 1 + x.toNatClampNeg)))) else M
def tX7_readingAfter (M : Mem) (x : Int32) (y : Int32) : Nat := if (tX7_instrumentAt M x) = 0 then (if y < 0 then 2 else (if y ≤ (200 : Int32) then 0 else 2)) else (tX7_instrumentAt M x)
set_option maxHeartbeats 4000000 in
set_option maxRecDepth 100000 in
theorem c_X7_readingAfter (l : Launch) (hl0 : l.stackTraces = false) (D : va_G) (cy : Nat → ClassId) (b n : Nat) (hn : 124 ≤ n) (M : Mem) (x : Int32) (y : Int32) (hcnt : CNT M 1) : vx_Met l yX7_readingAfter wsX7_readingAfter ({ frames := 7, cells := 2, slots := 12, locals := 112 } : Room) (CP D cy b n fT M [.ref (b + 0), .int x, .int y]) (CTi D cy b n fT (tX7_readingAfter M x y) (fX7_readingAfter M x y) (gX7_readingAfter M x y)) (CX D cy b n fT (tX7_readingAfter M x y) (gX7_readingAfter M x y)) 2 12 (fr b) := by
  refine vx_ofW (cc := cX7_readingAfter) (maxL := 4) (ret := (some .int)) (by decide) rfl ?_
  intro p e s m args below meth c s₁ B hml hout hv
  obtain ⟨rfl, hP, hK, hX⟩ := hv
  have hx := B.exec
  have hb := B.bytes
  have hr := B.returns
  have hts := atoms_spec (ws := wsX7_readingAfter) B.pre
  have hown : s.vm.findClass RX7 = some m.cls := findClass_of_methodNamed B.named
  have hlocks := B.notSynchronized
  have lk0 := hts (.fieldLink RX7 47 "HygrometerRoom" "probe" "LHygrometerRoom$Instrument;") (by decide +kernel)
  have lk1 := hts (.classLink RX7 107 "java/lang/IllegalArgumentException") (by decide +kernel)
  have lk2 := hts (.initialized "java/lang/IllegalArgumentException") (by decide +kernel)
  have at111 : ∀ w ∈ (vx_atS RX7 111 "java/lang/IllegalArgumentException" ["java/lang/RuntimeException", "java/lang/Exception"]).filter goodWord, w ∈ wsX7_readingAfter := by decide +kernel
  have inc7 : ∀ w ∈ u_ws RX7 TX7 6, w ∈ wsX7_readingAfter := by decide +kernel
  have hS : va_S (fr b) s.heap s.heap [] := va_S.rf
  have hl := lv_entry ([.ref (b + 0), .int x, .int y]) (n := 4) (Nat.le_of_ble_eq_true rfl)
  rw [lg_entry_eq]
  generalize (lg_sl ([.ref (b + 0), .int x, .int y]) ++ List.replicate (4 - (lg_sl ([.ref (b + 0), .int x, .int y])).length) Slot.unset).toArray = ls at hl ⊢
  have hl : lv_has ls 4 [(0, .ref (b + 0)), (1, .int x), (2, .int y)] := hl
  refine lv_aload_n hx hb dX7_readingAfter_0 rfl (lv_at hl 0 rfl) ?_
  refine xg (C := RX7) (T := TX7) (N := 6) (v := .ref (b + 123)) hx hb hts inc7 hown hK hP (by omega) (cell7 (by decide)) rfl 5 (by decide) lk0 (fun _ h => h) rfl dX7_readingAfter_1 ?_
  refine lv_aload_n hx hb dX7_readingAfter_4 rfl (lv_at hl 0 rfl) ?_
  refine lv_iload_n hx hb dX7_readingAfter_5 rfl (lv_at hl 1 rfl) ?_
  refine xct_q (vx_runV (As := [.int x]) (rest := [.ref (b + 123)]) ⟨hx, hb, hml, hown, hts⟩ (c_X7_instrumentAt l hl0 D cy b n hn M x hcnt) (cwV 1 hts gX7_readingAfter_X7_instrumentAt rfl rfl rfl (by decide +kernel) ⟨Nat.le_of_ble_eq_true rfl, Nat.le_of_ble_eq_true rfl⟩) (xPreV hP hK hX hS (by omega) (cell7 (by decide)) rfl) rfl rfl hl.1 rfl (lv_room (Nat.le_of_ble_eq_true rfl)) dX7_readingAfter_6 ⟨Nat.le_of_ble_eq_true rfl, Nat.le_of_ble_eq_true rfl⟩) hS (fun E ce q H locs hE hP hS hc hv hcl => xpass hout hlocks hc hv hcl hP hS rfl (by rw [gX7_readingAfter, if_neg (exn_ne hE)] <;> rfl) (by rw [tX7_readingAfter, if_neg (exn_ne hE)]; exact hE) (Nat.le_of_ble_eq_true rfl) (Nat.le_of_ble_eq_true rfl)) (fun H locs hT6 hP hS => ?_)
  refine W.eq (g2 := F0 m 9 ls (.ref (b + (1 + 1 + 1 + x.toNatClampNeg)) :: .ref (b + 123) :: [])) rfl ?_
  refine xc_v (va_runV (As := [.ref (b + (1 + 1 + 1 + x.toNatClampNeg))]) (rest := []) ⟨hx, hb, hml, hown, hts⟩ (c_X1_copyFrom l D cy b n hn M 123 (1 + 1 + 1 + x.toNatClampNeg) (by decide) (iat_kd hcnt hT6)) (cwV 1 hts gX7_readingAfter_X1_copyFrom rfl rfl rfl (by decide +kernel) ⟨Nat.le_of_ble_eq_true rfl, Nat.le_of_ble_eq_true rfl⟩) (xPreV hP hK hX hS (by omega) (cell1 (by decide)) rfl) rfl rfl hl.1 rfl (lv_room (Nat.le_of_ble_eq_true rfl)) dX7_readingAfter_9 ⟨Nat.le_of_ble_eq_true rfl, Nat.le_of_ble_eq_true rfl⟩) hS (fun H locs hP hS => ?_)
  refine lv_iload_n hx hb dX7_readingAfter_12 rfl (lv_at hl 2 rfl) ?_
  refine lv_if_lt (tgt := 23) hx hb dX7_readingAfter_13 (by decide) (fun c13 => ?_) (fun c13 => ?_)
  · exact xth (cls := "java/lang/IllegalArgumentException") (text := "the minutes are out of range") hx hb hl0 hown hX (by decide +kernel) (by decide +kernel) (by decide +kernel) lk1 lk2 (fun w h => hts w (at111 w h)) (by decide +kernel) (by decide +kernel) hP hS rfl (by rw [gX7_readingAfter, if_pos hT6, if_pos c13] <;> rfl) (by rw [tX7_readingAfter, if_pos hT6, if_pos c13]; exact Or.inr (Or.inl ⟨rfl, rfl⟩)) (hl.1.trans hml.symm) dX7_readingAfter_23 dX7_readingAfter_26 dX7_readingAfter_27 dX7_readingAfter_29 dX7_readingAfter_32 hout (Nat.le_of_ble_eq_true rfl) (Nat.le_of_ble_eq_true rfl) (Nat.le_of_ble_eq_true rfl) (Nat.le_of_ble_eq_true rfl) hlocks (Nat.le_of_ble_eq_true rfl) (Nat.le_of_ble_eq_true rfl)
  · refine lv_iload_n hx hb dX7_readingAfter_16 rfl (lv_at hl 2 rfl) ?_
    refine lv_sipush (v := 200) hx hb dX7_readingAfter_17 (by decide) ?_
    refine lv_icmp_le (tgt := 33) hx hb dX7_readingAfter_20 (by decide) (fun c20 => ?_) (fun c20 => ?_)
    · refine lv_iconst (v := 1) hx hb dX7_readingAfter_33 (by decide) ?_
      refine lv_istore_n (lv' := [(3, .int (1 : Int32)), (0, .ref (b + 0)), (1, .int x), (2, .int y)]) hx hb dX7_readingAfter_34 rfl hl (by decide) rfl (fun ls hl => ?_)
      rw [show fX7_readingAfter M x y = LX7_readingAfter_35f x y 201 (gX1_copyFrom M 123 (1 + 1 + 1 + x.toNatClampNeg)) 1 from (by rw [fX7_readingAfter, if_neg c13, if_pos c20]), show gX7_readingAfter M x y = LX7_readingAfter_35g x y 201 (gX1_copyFrom M 123 (1 + 1 + 1 + x.toNatClampNeg)) 1 from (by rw [gX7_readingAfter, if_pos hT6, if_neg c13, if_pos c20]), show tX7_readingAfter M x y = 0 from (by rw [tX7_readingAfter, if_pos hT6, if_neg c13, if_pos c20])]
      exact cl_X7_readingAfter_35 l D cy b n hn x y hx hb hr hlocks hml hown hts hK hX 201 (gX1_copyFrom M 123 (1 + 1 + 1 + x.toNatClampNeg)) 1 H locs ls (ub_le c13 c20 rfl) (by omega) (by omega) hP hS (lv_sub hl [1, 2, 3, 0] rfl)
    · exact xth (cls := "java/lang/IllegalArgumentException") (text := "the minutes are out of range") hx hb hl0 hown hX (by decide +kernel) (by decide +kernel) (by decide +kernel) lk1 lk2 (fun w h => hts w (at111 w h)) (by decide +kernel) (by decide +kernel) hP hS rfl (by rw [gX7_readingAfter, if_pos hT6, if_neg c13, if_neg c20] <;> rfl) (by rw [tX7_readingAfter, if_pos hT6, if_neg c13, if_neg c20]; exact Or.inr (Or.inl ⟨rfl, rfl⟩)) (hl.1.trans hml.symm) dX7_readingAfter_23 dX7_readingAfter_26 dX7_readingAfter_27 dX7_readingAfter_29 dX7_readingAfter_32 hout (Nat.le_of_ble_eq_true rfl) (Nat.le_of_ble_eq_true rfl) (Nat.le_of_ble_eq_true rfl) (Nat.le_of_ble_eq_true rfl) hlocks (Nat.le_of_ble_eq_true rfl) (Nat.le_of_ble_eq_true rfl)
def LX7_minutesUntilStill_14f (x : Int32) : Nat → Mem → Nat → Int32
  | 0, _, _ => 0
  | k + 1, M, j => if (200 : Int32) < (nI (j)) then ((-1) : Int32) else (if (fX4_still M 1 123) = 0 then (LX7_minutesUntilStill_14f x k (gX1_age M 123 (((M 1 2) + (nI (j))) + (1 : Int32)) (fX4_surrounding M 1 123)) (j + 1)) else (nI (j)))
def LX7_minutesUntilStill_14g (x : Int32) : Nat → Mem → Nat → Mem
  | 0, M, _ => M
  | k + 1, M, j => if (200 : Int32) < (nI (j)) then M else (if (fX4_still M 1 123) = 0 then (LX7_minutesUntilStill_14g x k (gX1_age M 123 (((M 1 2) + (nI (j))) + (1 : Int32)) (fX4_surrounding M 1 123)) (j + 1)) else M)
set_option maxHeartbeats 4000000 in
set_option maxRecDepth 100000 in
theorem cl_X7_minutesUntilStill_14 (l : Launch) (D : va_G) (cy : Nat → ClassId) (b n : Nat) (hn : 124 ≤ n) (x : Int32)  {p : Program} {e : Env} {s : State} {m : MethodId} {args : Array Value} {below : List Frame} {meth : Method} {c : Code} {XC : String → State → State → Prop} (hx : p.tables.exec = Jvm.exec) (hb : c.code = cX7_minutesUntilStill) (hr : meth.sig.returnType = (some .int)) (hlocks : meth.locks = false) (hml : c.maxLocals = 3) (hown : s.vm.findClass RX7 = some m.cls) (hts : ∀ w ∈ wsX7_minutesUntilStill, w.before args s = true) (hK : va_K D vwCl (tysW cy) s) (hX : SX b s)  : ∀ (k : Nat) (M : Mem) (j : Nat) (H : Heap) (locs : List Loc) (ls : Array Slot), j ≤ 201 → 202 ≤ j + k → va_P D vwCl (wL cy b fT M n) H → va_S (fr b) s.heap H locs → lv_has ls 3 [(0, .ref (b + 0)), (1, .int x), (2, .int (nI (j)))] → W p l e (headSpec wsX7_minutesUntilStill ({ frames := 7, cells := 1, slots := 6, locals := 112 } : Room)).room s m args below meth c H locs 1 6 (vx_MQ below (CTi D cy b n fT (0) (LX7_minutesUntilStill_14f x k M j) (LX7_minutesUntilStill_14g x k M j)) XC args s 1 6 (fr b)) (F0 m 14 ls []) := by
  have lk0 := hts (.fieldLink RX7 10 "HygrometerRoom" "room" "LHygrometerRoom$Room;") (by decide +kernel)
  have lk1 := hts (.fieldLink RX7 47 "HygrometerRoom" "probe" "LHygrometerRoom$Instrument;") (by decide +kernel)
  have lk2 := hts (.fieldLink RX7 129 "HygrometerRoom$Room" "minute" "I") (by decide +kernel)
  have inc4 : ∀ w ∈ u_ws RX4 TX4 8, w ∈ wsX7_minutesUntilStill := by decide +kernel
  have inc7 : ∀ w ∈ u_ws RX7 TX7 6, w ∈ wsX7_minutesUntilStill := by decide +kernel
  intro k
  induction k with
  | zero => intro M j H locs ls hj hk hP hS hl; omega
  | succ k ih =>
    intro M j H locs ls hj hk hP hS hl
    refine lv_iload_n hx hb dX7_minutesUntilStill_14 rfl (lv_at hl 2 rfl) ?_
    refine lv_sipush (v := 200) hx hb dX7_minutesUntilStill_15 (by decide) ?_
    refine lv_icmp_gt (tgt := 72) hx hb dX7_minutesUntilStill_18 (by decide) (fun c18 => ?_) (fun c18 => ?_)
    · refine lv_iconst (v := (-1)) hx hb dX7_minutesUntilStill_72 (by decide) ?_
      exact xt_i hx hb hr hlocks hP hS rfl rfl (by rw [LX7_minutesUntilStill_14g, if_pos c18] <;> rfl) (by rw [LX7_minutesUntilStill_14f, if_pos c18] <;> rfl) rfl (Nat.le_of_ble_eq_true rfl) (Nat.le_of_ble_eq_true rfl) dX7_minutesUntilStill_73
    · have hj2 := up_le (y := 200) (N := 200) ⟨200, by decide, rfl⟩ c18 hj
      refine lv_aload_n hx hb dX7_minutesUntilStill_21 rfl (lv_at hl 0 rfl) ?_
      refine xg (C := RX7) (T := TX7) (N := 6) (v := .ref (b + 1)) hx hb hts inc7 hown hK hP (by omega) (cell7 (by decide)) rfl 0 (by decide) lk0 (fun _ h => h) rfl dX7_minutesUntilStill_22 ?_
      refine lv_aload_n hx hb dX7_minutesUntilStill_25 rfl (lv_at hl 0 rfl) ?_
      refine xg (C := RX7) (T := TX7) (N := 6) (v := .ref (b + 123)) hx hb hts inc7 hown hK hP (by omega) (cell7 (by decide)) rfl 5 (by decide) lk1 (fun _ h => h) rfl dX7_minutesUntilStill_26 ?_
      refine xc_i (va_runV (As := [.ref (b + 123)]) (rest := []) ⟨hx, hb, hml, hown, hts⟩ (c_X4_still l D cy b n hn M 1 123 (by decide) (by decide)) (cwV 1 hts gX7_minutesUntilStill_X4_still rfl rfl rfl (by decide +kernel) ⟨Nat.le_of_ble_eq_true rfl, Nat.le_of_ble_eq_true rfl⟩) (xPreV hP hK hX hS (by omega) (cell4 (by decide)) rfl) rfl rfl hl.1 rfl (lv_room (Nat.le_of_ble_eq_true rfl)) dX7_minutesUntilStill_29 ⟨Nat.le_of_ble_eq_true rfl, Nat.le_of_ble_eq_true rfl⟩) hS (fun H locs hP hS => ?_)
      refine lv_if_eq (tgt := 37) hx hb dX7_minutesUntilStill_32 (by decide) (fun c32 => ?_) (fun c32 => ?_)
      · refine lv_aload_n hx hb dX7_minutesUntilStill_37 rfl (lv_at hl 0 rfl) ?_
        refine xg (C := RX7) (T := TX7) (N := 6) (v := .ref (b + 123)) hx hb hts inc7 hown hK hP (by omega) (cell7 (by decide)) rfl 5 (by decide) lk1 (fun _ h => h) rfl dX7_minutesUntilStill_38 ?_
        refine lv_aload_n hx hb dX7_minutesUntilStill_41 rfl (lv_at hl 0 rfl) ?_
        refine xg (C := RX7) (T := TX7) (N := 6) (v := .ref (b + 1)) hx hb hts inc7 hown hK hP (by omega) (cell7 (by decide)) rfl 0 (by decide) lk0 (fun _ h => h) rfl dX7_minutesUntilStill_42 ?_
        refine xg (C := RX4) (T := TX4) (N := 8) (v := .int (M 1 2)) hx hb hts inc4 hown hK hP (by omega) (cell4 (by decide)) rfl 2 (by decide) lk2 (fun _ h => h) rfl dX7_minutesUntilStill_45 ?_
        refine lv_iload_n hx hb dX7_minutesUntilStill_48 rfl (lv_at hl 2 rfl) ?_
        refine lv_iadd hx hb dX7_minutesUntilStill_49 ?_
        refine lv_iconst (v := 1) hx hb dX7_minutesUntilStill_50 (by decide) ?_
        refine lv_iadd hx hb dX7_minutesUntilStill_51 ?_
        refine lv_aload_n hx hb dX7_minutesUntilStill_52 rfl (lv_at hl 0 rfl) ?_
        refine xg (C := RX7) (T := TX7) (N := 6) (v := .ref (b + 1)) hx hb hts inc7 hown hK hP (by omega) (cell7 (by decide)) rfl 0 (by decide) lk0 (fun _ h => h) rfl dX7_minutesUntilStill_53 ?_
        refine lv_aload_n hx hb dX7_minutesUntilStill_56 rfl (lv_at hl 0 rfl) ?_
        refine xg (C := RX7) (T := TX7) (N := 6) (v := .ref (b + 123)) hx hb hts inc7 hown hK hP (by omega) (cell7 (by decide)) rfl 5 (by decide) lk1 (fun _ h => h) rfl dX7_minutesUntilStill_57 ?_
        refine xc_i (va_runV (As := [.ref (b + 123)]) (rest := [.int (((M 1 2) + (nI (j))) + (1 : Int32)), .ref (b + 123)]) ⟨hx, hb, hml, hown, hts⟩ (c_X4_surrounding l D cy b n hn M 1 123 (by decide) (by decide)) (cwV 1 hts gX7_minutesUntilStill_X4_surrounding rfl rfl rfl (by decide +kernel) ⟨Nat.le_of_ble_eq_true rfl, Nat.le_of_ble_eq_true rfl⟩) (xPreV hP hK hX hS (by omega) (cell4 (by decide)) rfl) rfl rfl hl.1 rfl (lv_room (Nat.le_of_ble_eq_true rfl)) dX7_minutesUntilStill_60 ⟨Nat.le_of_ble_eq_true rfl, Nat.le_of_ble_eq_true rfl⟩) hS (fun H locs hP hS => ?_)
        refine xc_v (va_runV (As := [.int (((M 1 2) + (nI (j))) + (1 : Int32)), .int (fX4_surrounding M 1 123)]) (rest := []) ⟨hx, hb, hml, hown, hts⟩ (c_X1_age l D cy b n hn M 123 (((M 1 2) + (nI (j))) + (1 : Int32)) (fX4_surrounding M 1 123) (by decide)) (cwV 2 hts gX7_minutesUntilStill_X1_age rfl rfl rfl (by decide +kernel) ⟨Nat.le_of_ble_eq_true rfl, Nat.le_of_ble_eq_true rfl⟩) (xPreV hP hK hX hS (by omega) (cell1 (by decide)) rfl) rfl rfl hl.1 rfl (lv_room (Nat.le_of_ble_eq_true rfl)) dX7_minutesUntilStill_63 ⟨Nat.le_of_ble_eq_true rfl, Nat.le_of_ble_eq_true rfl⟩) hS (fun H locs hP hS => ?_)
        refine lv_iinc (v := nI (j + 1)) (lv' := [(2, .int (nI (j + 1))), (0, .ref (b + 0)), (1, .int x)]) hx hb dX7_minutesUntilStill_66 hl (k := 2) rfl (ixAdd (a := j) (c := 1) (d := j + 1) rfl rfl (by omega)) (by decide) rfl (fun ls hl => ?_)
        refine lv_goto (tgt := 14) hx hb dX7_minutesUntilStill_69 (by decide) ?_
        rw [show LX7_minutesUntilStill_14f x (k + 1) M j = LX7_minutesUntilStill_14f x k (gX1_age M 123 (((M 1 2) + (nI (j))) + (1 : Int32)) (fX4_surrounding M 1 123)) (j + 1) from (by rw [LX7_minutesUntilStill_14f, if_neg c18, if_pos c32]), show LX7_minutesUntilStill_14g x (k + 1) M j = LX7_minutesUntilStill_14g x k (gX1_age M 123 (((M 1 2) + (nI (j))) + (1 : Int32)) (fX4_surrounding M 1 123)) (j + 1) from (by rw [LX7_minutesUntilStill_14g, if_neg c18, if_pos c32])]
        exact ih (gX1_age M 123 (((M 1 2) + (nI (j))) + (1 : Int32)) (fX4_surrounding M 1 123)) (j + 1) H locs ls (by omega) (by omega) hP hS (lv_sub hl [1, 2, 0] rfl)
      · refine lv_iload_n hx hb dX7_minutesUntilStill_35 rfl (lv_at hl 2 rfl) ?_
        exact xt_i hx hb hr hlocks hP hS rfl rfl (by rw [LX7_minutesUntilStill_14g, if_neg c18, if_neg c32] <;> rfl) (by rw [LX7_minutesUntilStill_14f, if_neg c18, if_neg c32] <;> rfl) rfl (Nat.le_of_ble_eq_true rfl) (Nat.le_of_ble_eq_true rfl) dX7_minutesUntilStill_36

def fX7_minutesUntilStill (M : Mem) (x : Int32) : Int32 := LX7_minutesUntilStill_14f x 202 (gX1_copyFrom M 123 (1 + 1 + 1 + x.toNatClampNeg)) 0
def gX7_minutesUntilStill (M : Mem) (x : Int32) : Mem := if (tX7_instrumentAt M x) = 0 then (LX7_minutesUntilStill_14g x 202 (gX1_copyFrom M 123 (1 + 1 + 1 + x.toNatClampNeg)) 0) else M
def tX7_minutesUntilStill (M : Mem) (x : Int32) : Nat := if (tX7_instrumentAt M x) = 0 then 0 else (tX7_instrumentAt M x)
set_option maxHeartbeats 4000000 in
set_option maxRecDepth 100000 in
theorem c_X7_minutesUntilStill (l : Launch) (hl0 : l.stackTraces = false) (D : va_G) (cy : Nat → ClassId) (b n : Nat) (hn : 124 ≤ n) (M : Mem) (x : Int32) (hcnt : CNT M 1) : vx_Met l yX7_minutesUntilStill wsX7_minutesUntilStill ({ frames := 7, cells := 1, slots := 6, locals := 112 } : Room) (CP D cy b n fT M [.ref (b + 0), .int x]) (CTi D cy b n fT (tX7_minutesUntilStill M x) (fX7_minutesUntilStill M x) (gX7_minutesUntilStill M x)) (CX D cy b n fT (tX7_minutesUntilStill M x) (gX7_minutesUntilStill M x)) 1 6 (fr b) := by
  refine vx_ofW (cc := cX7_minutesUntilStill) (maxL := 3) (ret := (some .int)) (by decide) rfl ?_
  intro p e s m args below meth c s₁ B hml hout hv
  obtain ⟨rfl, hP, hK, hX⟩ := hv
  have hx := B.exec
  have hb := B.bytes
  have hr := B.returns
  have hts := atoms_spec (ws := wsX7_minutesUntilStill) B.pre
  have hown : s.vm.findClass RX7 = some m.cls := findClass_of_methodNamed B.named
  have hlocks := B.notSynchronized
  have lk0 := hts (.fieldLink RX7 47 "HygrometerRoom" "probe" "LHygrometerRoom$Instrument;") (by decide +kernel)
  have inc7 : ∀ w ∈ u_ws RX7 TX7 6, w ∈ wsX7_minutesUntilStill := by decide +kernel
  have hS : va_S (fr b) s.heap s.heap [] := va_S.rf
  have hl := lv_entry ([.ref (b + 0), .int x]) (n := 3) (Nat.le_of_ble_eq_true rfl)
  rw [lg_entry_eq]
  generalize (lg_sl ([.ref (b + 0), .int x]) ++ List.replicate (3 - (lg_sl ([.ref (b + 0), .int x])).length) Slot.unset).toArray = ls at hl ⊢
  have hl : lv_has ls 3 [(0, .ref (b + 0)), (1, .int x)] := hl
  refine lv_aload_n hx hb dX7_minutesUntilStill_0 rfl (lv_at hl 0 rfl) ?_
  refine xg (C := RX7) (T := TX7) (N := 6) (v := .ref (b + 123)) hx hb hts inc7 hown hK hP (by omega) (cell7 (by decide)) rfl 5 (by decide) lk0 (fun _ h => h) rfl dX7_minutesUntilStill_1 ?_
  refine lv_aload_n hx hb dX7_minutesUntilStill_4 rfl (lv_at hl 0 rfl) ?_
  refine lv_iload_n hx hb dX7_minutesUntilStill_5 rfl (lv_at hl 1 rfl) ?_
  refine xct_q (vx_runV (As := [.int x]) (rest := [.ref (b + 123)]) ⟨hx, hb, hml, hown, hts⟩ (c_X7_instrumentAt l hl0 D cy b n hn M x hcnt) (cwV 1 hts gX7_minutesUntilStill_X7_instrumentAt rfl rfl rfl (by decide +kernel) ⟨Nat.le_of_ble_eq_true rfl, Nat.le_of_ble_eq_true rfl⟩) (xPreV hP hK hX hS (by omega) (cell7 (by decide)) rfl) rfl rfl hl.1 rfl (lv_room (Nat.le_of_ble_eq_true rfl)) dX7_minutesUntilStill_6 ⟨Nat.le_of_ble_eq_true rfl, Nat.le_of_ble_eq_true rfl⟩) hS (fun E ce q H locs hE hP hS hc hv hcl => xpass hout hlocks hc hv hcl hP hS rfl (by rw [gX7_minutesUntilStill, if_neg (exn_ne hE)] <;> rfl) (by rw [tX7_minutesUntilStill, if_neg (exn_ne hE)]; exact hE) (Nat.le_of_ble_eq_true rfl) (Nat.le_of_ble_eq_true rfl)) (fun H locs hT6 hP hS => ?_)
  refine W.eq (g2 := F0 m 9 ls (.ref (b + (1 + 1 + 1 + x.toNatClampNeg)) :: .ref (b + 123) :: [])) rfl ?_
  refine xc_v (va_runV (As := [.ref (b + (1 + 1 + 1 + x.toNatClampNeg))]) (rest := []) ⟨hx, hb, hml, hown, hts⟩ (c_X1_copyFrom l D cy b n hn M 123 (1 + 1 + 1 + x.toNatClampNeg) (by decide) (iat_kd hcnt hT6)) (cwV 1 hts gX7_minutesUntilStill_X1_copyFrom rfl rfl rfl (by decide +kernel) ⟨Nat.le_of_ble_eq_true rfl, Nat.le_of_ble_eq_true rfl⟩) (xPreV hP hK hX hS (by omega) (cell1 (by decide)) rfl) rfl rfl hl.1 rfl (lv_room (Nat.le_of_ble_eq_true rfl)) dX7_minutesUntilStill_9 ⟨Nat.le_of_ble_eq_true rfl, Nat.le_of_ble_eq_true rfl⟩) hS (fun H locs hP hS => ?_)
  refine lv_iconst (v := 0) hx hb dX7_minutesUntilStill_12 (by decide) ?_
  refine lv_istore_n (lv' := [(2, .int (0 : Int32)), (0, .ref (b + 0)), (1, .int x)]) hx hb dX7_minutesUntilStill_13 rfl hl (by decide) rfl (fun ls hl => ?_)
  rw [show fX7_minutesUntilStill M x = LX7_minutesUntilStill_14f x 202 (gX1_copyFrom M 123 (1 + 1 + 1 + x.toNatClampNeg)) 0 from (by rw [fX7_minutesUntilStill]), show gX7_minutesUntilStill M x = LX7_minutesUntilStill_14g x 202 (gX1_copyFrom M 123 (1 + 1 + 1 + x.toNatClampNeg)) 0 from (by rw [gX7_minutesUntilStill, if_pos hT6]), show tX7_minutesUntilStill M x = 0 from (by rw [tX7_minutesUntilStill, if_pos hT6])]
  exact cl_X7_minutesUntilStill_14 l D cy b n hn x hx hb hr hlocks hml hown hts hK hX 202 (gX1_copyFrom M 123 (1 + 1 + 1 + x.toNatClampNeg)) 0 H locs ls (by omega) (by omega) hP hS (lv_sub hl [1, 2, 0] rfl)

