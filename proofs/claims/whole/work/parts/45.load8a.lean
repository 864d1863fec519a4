/-! the rest of the text's calls -/
theorem fd_nat {M M' : Mem} (h : UB (M 124 10) 596) (e : M' 124 = M 124) : M' 124 10 = nI (M 124 10).toNatClampNeg := by rw [e]; exact nat_ub h
theorem cn_app {M : Mem} (h : UB (M 124 10) 600) (hc : M 124 10 ≤ 580) : UB (M 124 10) 580 := by
  obtain ⟨k, hk, e⟩ := h
  rw [e, show (580 : Int32) = nI 580 from rfl, nI_leI (by omega) (by omega)] at hc
  exact ⟨k, hc, e⟩
theorem ub_cl2 {x : Int32} {N : Nat} (h : UB x N) (hN : N < 2 ^ 31 := by decide) : x.toNatClampNeg ≤ N := by
  obtain ⟨k, hk, rfl⟩ := h
  rw [nI_clamp (by omega)]
  exact hk
def LX8_feeds_59g (x : Int32) : Nat → Mem → Mem
  | 0, M => M
  | k + 1, M => mU M 124 10 (nI (((M 124 10).toNatClampNeg) + 4))
set_option maxHeartbeats 4000000 in
set_option maxRecDepth 100000 in
theorem cl_X8_feeds_59 (l : Launch) (D : va_G) (cy : Nat → ClassId) (b n : Nat) (hn : 133 ≤ n) (x : Int32)  {p : Program} {e : Env} {s : State} {m : MethodId} {args : Array Value} {below : List Frame} {meth : Method} {c : Code} (hx : p.tables.exec = Jvm.exec) (hb : c.code = cX8_feeds) (hr : meth.sig.returnType = none) (hlocks : meth.locks = false) (hml : c.maxLocals = 2) (hown : s.vm.findClass RX8 = some m.cls) (hts : ∀ w ∈ wsX8_feeds, w.before args s = true) (hK : va_K D vwCl (tysW cy) s) (hX : SX b s)  : ∀ (k : Nat) (M : Mem)  (H : Heap) (locs : List Loc) (ls : Array Slot), UB (M 124 10) 596 → 0 < k → va_P D vwCl (wL cy b fT M n) H → va_S (fr b) s.heap H locs → lv_has ls 2 [(0, .ref (b + 124))] → W p l e (headSpec wsX8_feeds ({ frames := 0, cells := 0, slots := 0, locals := 0 } : Room)).room s m args below meth c H locs 0 0 (MQ below (CQv D cy b n fT (LX8_feeds_59g x k M)) args s 0 0 (fr b)) (F0 m 59 ls []) := by
  have lk0 := hts (.fieldLink RX8 203 "HygrometerRoomModel" "inputMany" "I") (by decide +kernel)
  have inc8 : ∀ w ∈ u_ws RX8 TX8 22, w ∈ wsX8_feeds := by decide +kernel
  intro k
  induction k with
  | zero => intro M H locs ls hib hk hP hS hl; omega
  | succ k ih =>
    intro M H locs ls hib hk hP hS hl
    refine lv_aload_n hx hb dX8_feeds_59 rfl (lv_at hl 0 rfl) ?_
    refine lv_dup hx hb dX8_feeds_60 rfl ?_
    refine xg (C := RX8) (T := TX8) (N := 22) (v := .int (M 124 10)) hx hb hts inc8 hown hK hP (by omega) (cell8 (by decide)) rfl 10 (by decide) lk0 (fun _ h => h) rfl dX8_feeds_61 ?_
    refine W.eq (g2 := F0 m 64 ls (.int (nI (((M 124 10).toNatClampNeg))) :: .ref (b + 124) :: [])) (congrArg (fun z => F0 m 64 ls (.int z :: .ref (b + 124) :: [])) (nat_ub hib)) ?_
    refine lv_iconst (v := 4) hx hb dX8_feeds_64 (by decide) ?_
    refine xadd (z := nI (((M 124 10).toNatClampNeg) + 4)) hx hb (ixAdd (a := ((M 124 10).toNatClampNeg)) (c := 4) (d := ((M 124 10).toNatClampNeg) + 4) rfl rfl (by omega)) dX8_feeds_65 ?_
    refine xp (C := RX8) (T := TX8) (N := 22) (ci := 8) (ty := .int) (x := nI (((M 124 10).toNatClampNeg) + 4)) hx hb hts inc8 tyX8 tyX8_ok nmX8 hown hK hP hS (by omega) (fun _ => cell8 (by decide)) rfl 10 (by decide) rfl lk0 (fun _ h => h) rfl (tyX8_ok 10 (by decide)) rfl rfl (Nat.le_of_ble_eq_true rfl) dX8_feeds_66 (fun H locs hP hS => ?_)
    exact xe_v hx hb hr hlocks hP hS rfl (by rw [LX8_feeds_59g] <;> rfl) (Nat.le_of_ble_eq_true rfl) (Nat.le_of_ble_eq_true rfl) dX8_feeds_69

def gX8_feeds (M : Mem) (x : Int32) : Mem := LX8_feeds_59g x 1 (mU (mU (mU (mU M 131 ((M 124 10).toNatClampNeg) (((x >>> ((24 : Int32) &&& 31)).toInt8.toInt32).toInt8.toInt32)) 131 (((M 124 10).toNatClampNeg) + 1) (((x >>> ((16 : Int32) &&& 31)).toInt8.toInt32).toInt8.toInt32)) 131 (((M 124 10).toNatClampNeg) + 2) (((x >>> ((8 : Int32) &&& 31)).toInt8.toInt32).toInt8.toInt32)) 131 (((M 124 10).toNatClampNeg) + 3) x.toInt8.toInt32.toInt8.toInt32)
set_option maxHeartbeats 4000000 in
set_option maxRecDepth 100000 in
theorem c_X8_feeds (l : Launch) (D : va_G) (cy : Nat → ClassId) (b n : Nat) (hn : 133 ≤ n) (M : Mem) (x : Int32) (hib : UB (M 124 10) 596) : Met l yX8_feeds wsX8_feeds ({ frames := 0, cells := 0, slots := 0, locals := 0 } : Room) (CP D cy b n fT M [.ref (b + 124), .int x]) (CQv D cy b n fT (gX8_feeds M x)) 0 0 (fr b) := by
  refine Met.ofW (cc := cX8_feeds) (maxL := 2) (ret := none) (by decide) rfl ?_
  intro p e s m args below meth c s₁ B hml hv
  obtain ⟨rfl, hP, hK, hX⟩ := hv
  have hx := B.exec
  have hb := B.bytes
  have hr := B.returns
  have hts := atoms_spec (ws := wsX8_feeds) B.pre
  have hown : s.vm.findClass RX8 = some m.cls := findClass_of_methodNamed B.named
  have hlocks := B.notSynchronized
  have lk0 := hts (.fieldLink RX8 28 "HygrometerRoomModel" "input" "[B") (by decide +kernel)
  have lk1 := hts (.fieldLink RX8 203 "HygrometerRoomModel" "inputMany" "I") (by decide +kernel)
  have inc8 : ∀ w ∈ u_ws RX8 TX8 22, w ∈ wsX8_feeds := by decide +kernel
  have hS : va_S (fr b) s.heap s.heap [] := va_S.rf
  have hl := lv_entry ([.ref (b + 124), .int x]) (n := 2) (Nat.le_of_ble_eq_true rfl)
  rw [lg_entry_eq]
  generalize (lg_sl ([.ref (b + 124), .int x]) ++ List.replicate (2 - (lg_sl ([.ref (b + 124), .int x])).length) Slot.unset).toArray = ls at hl ⊢
  have hl : lv_has ls 2 [(0, .ref (b + 124)), (1, .int x)] := hl
  have hib6 := ub_cl2 hib
  refine lv_aload_n hx hb dX8_feeds_0 rfl (lv_at hl 0 rfl) ?_
  refine xg (C := RX8) (T := TX8) (N := 22) (v := .ref (b + 131)) hx hb hts inc8 hown hK hP (by omega) (cell8 (by decide)) rfl 9 (by decide) lk0 (fun _ h => h) rfl dX8_feeds_1 ?_
  refine lv_aload_n hx hb dX8_feeds_4 rfl (lv_at hl 0 rfl) ?_
  refine xg (C := RX8) (T := TX8) (N := 22) (v := .int (M 124 10)) hx hb hts inc8 hown hK hP (by omega) (cell8 (by decide)) rfl 10 (by decide) lk1 (fun _ h => h) rfl dX8_feeds_5 ?_
  refine W.eq (g2 := F0 m 8 ls (.int (nI (((M 124 10).toNatClampNeg))) :: .ref (b + 131) :: [])) (congrArg (fun z => F0 m 8 ls (.int z :: .ref (b + 131) :: [])) (nat_ub hib)) ?_
  refine lv_iload_n hx hb dX8_feeds_8 rfl (lv_at hl 1 rfl) ?_
  refine lv_bipush (v := 24) hx hb dX8_feeds_9 (by decide) ?_
  refine lv_ishr hx hb dX8_feeds_11 ?_
  refine lv_i2b hx hb dX8_feeds_12 rfl ?_
  refine xbs (j := ((M 124 10).toNatClampNeg)) (x := (x >>> ((24 : Int32) &&& 31)).toInt8.toInt32) hx hb hK hP hS (by omega) (by decide) (ixIn (a := ((M 124 10).toNatClampNeg)) rfl (by first | decide | (simp only [lenOf]; omega) | omega) (by decide)) (ixAt (a := ((M 124 10).toNatClampNeg)) rfl (by omega)) dX8_feeds_13 (fun H locs hP hS => ?_)
  refine lv_aload_n hx hb dX8_feeds_14 rfl (lv_at hl 0 rfl) ?_
  refine xg (C := RX8) (T := TX8) (N := 22) (v := .ref (b + 131)) hx hb hts inc8 hown hK hP (by omega) (cell8 (by decide)) rfl 9 (by decide) lk0 (fun _ h => h) rfl dX8_feeds_15 ?_
  refine lv_aload_n hx hb dX8_feeds_18 rfl (lv_at hl 0 rfl) ?_
  refine xg (C := RX8) (T := TX8) (N := 22) (v := .int ((mU M 131 ((M 124 10).toNatClampNeg) (((x >>> ((24 : Int32) &&& 31)).toInt8.toInt32).toInt8.toInt32)) 124 10)) hx hb hts inc8 hown hK hP (by omega) (cell8 (by decide)) rfl 10 (by decide) lk1 (fun _ h => h) rfl dX8_feeds_19 ?_
  refine W.eq (g2 := F0 m 22 ls (.int (nI (((M 124 10).toNatClampNeg))) :: .ref (b + 131) :: [])) (congrArg (fun z => F0 m 22 ls (.int z :: .ref (b + 131) :: [])) (fd_nat hib (by repeat (first | rfl | rw [mU_ne _ _ _ (by decide)])))) ?_
  refine lv_iconst (v := 1) hx hb dX8_feeds_22 (by decide) ?_
  refine xadd (z := nI (((M 124 10).toNatClampNeg) + 1)) hx hb (ixAdd (a := ((M 124 10).toNatClampNeg)) (c := 1) (d := ((M 124 10).toNatClampNeg) + 1) rfl rfl (by omega)) dX8_feeds_23 ?_
  refine lv_iload_n hx hb dX8_feeds_24 rfl (lv_at hl 1 rfl) ?_
  refine lv_bipush (v := 16) hx hb dX8_feeds_25 (by decide) ?_
  refine lv_ishr hx hb dX8_feeds_27 ?_
  refine lv_i2b hx hb dX8_feeds_28 rfl ?_
  refine xbs (j := ((M 124 10).toNatClampNeg) + 1) (x := (x >>> ((16 : Int32) &&& 31)).toInt8.toInt32) hx hb hK hP hS (by omega) (by decide) (ixIn (a := ((M 124 10).toNatClampNeg) + 1) rfl (by first | decide | (simp only [lenOf]; omega) | omega) (by decide)) (ixAt (a := ((M 124 10).toNatClampNeg) + 1) rfl (by omega)) dX8_feeds_29 (fun H locs hP hS => ?_)
  refine lv_aload_n hx hb dX8_feeds_30 rfl (lv_at hl 0 rfl) ?_
  refine xg (C := RX8) (T := TX8) (N := 22) (v := .ref (b + 131)) hx hb hts inc8 hown hK hP (by omega) (cell8 (by decide)) rfl 9 (by decide) lk0 (fun _ h => h) rfl dX8_feeds_31 ?_
  refine lv_aload_n hx hb dX8_feeds_34 rfl (lv_at hl 0 rfl) ?_
  refine xg (C := RX8) (T := TX8) (N := 22) (v := .int ((mU (mU M 131 ((M 124 10).toNatClampNeg) (((x >>> ((24 : Int32) &&& 31)).toInt8.toInt32).toInt8.toInt32)) 131 (((M 124 10).toNatClampNeg) + 1) (((x >>> ((16 : Int32) &&& 31)).toInt8.toInt32).toInt8.toInt32)) 124 10)) hx hb hts inc8 hown hK hP (by omega) (cell8 (by decide)) rfl 10 (by decide) lk1 (fun _ h => h) rfl dX8_feeds_35 ?_
  refine W.eq (g2 := F0 m 38 ls (.int (nI (((M 124 10).toNatClampNeg))) :: .ref (b + 131) :: [])) (congrArg (fun z => F0 m 38 ls (.int z :: .ref (b + 131) :: [])) (fd_nat hib (by repeat (first | rfl | rw [mU_ne _ _ _ (by decide)])))) ?_
  refine lv_iconst (v := 2) hx hb dX8_feeds_38 (by decide) ?_
  refine xadd (z := nI (((M 124 10).toNatClampNeg) + 2)) hx hb (ixAdd (a := ((M 124 10).toNatClampNeg)) (c := 2) (d := ((M 124 10).toNatClampNeg) + 2) rfl rfl (by omega)) dX8_feeds_39 ?_
  refine lv_iload_n hx hb dX8_feeds_40 rfl (lv_at hl 1 rfl) ?_
  refine lv_bipush (v := 8) hx hb dX8_feeds_41 (by decide) ?_
  refine lv_ishr hx hb dX8_feeds_43 ?_
  refine lv_i2b hx hb dX8_feeds_44 rfl ?_
  refine xbs (j := ((M 124 10).toNatClampNeg) + 2) (x := (x >>> ((8 : Int32) &&& 31)).toInt8.toInt32) hx hb hK hP hS (by omega) (by decide) (ixIn (a := ((M 124 10).toNatClampNeg) + 2) rfl (by first | decide | (simp only [lenOf]; omega) | omega) (by decide)) (ixAt (a := ((M 124 10).toNatClampNeg) + 2) rfl (by omega)) dX8_feeds_45 (fun H locs hP hS => ?_)
  refine lv_aload_n hx hb dX8_feeds_46 rfl (lv_at hl 0 rfl) ?_
  refine xg (C := RX8) (T := TX8) (N := 22) (v := .ref (b + 131)) hx hb hts inc8 hown hK hP (by omega) (cell8 (by decide)) rfl 9 (by decide) lk0 (fun _ h => h) rfl dX8_feeds_47 ?_
  refine lv_aload_n hx hb dX8_feeds_50 rfl (lv_at hl 0 rfl) ?_
  refine xg (C := RX8) (T := TX8) (N := 22) (v := .int ((mU (mU (mU M 131 ((M 124 10).toNatClampNeg) (((x >>> ((24 : Int32) &&& 31)).toInt8.toInt32).toInt8.toInt32)) 131 (((M 124 10).toNatClampNeg) + 1) (((x >>> ((16 : Int32) &&& 31)).toInt8.toInt32).toInt8.toInt32)) 131 (((M 124 10).toNatClampNeg) + 2) (((x >>> ((8 : Int32) &&& 31)).toInt8.toInt32).toInt8.toInt32)) 124 10)) hx hb hts inc8 hown hK hP (by omega) (cell8 (by decide)) rfl 10 (by decide) lk1 (fun _ h => h) rfl dX8_feeds_51 ?_
  refine W.eq (g2 := F0 m 54 ls (.int (nI (((M 124 10).toNatClampNeg))) :: .ref (b + 131) :: [])) (congrArg (fun z => F0 m 54 ls (.int z :: .ref (b + 131) :: [])) (fd_nat hib (by repeat (first | rfl | rw [mU_ne _ _ _ (by decide)])))) ?_
  refine lv_iconst (v := 3) hx hb dX8_feeds_54 (by decide) ?_
  refine xadd (z := nI (((M 124 10).toNatClampNeg) + 3)) hx hb (ixAdd (a := ((M 124 10).toNatClampNeg)) (c := 3) (d := ((M 124 10).toNatClampNeg) + 3) rfl rfl (by omega)) dX8_feeds_55 ?_
  refine lv_iload_n hx hb dX8_feeds_56 rfl (lv_at hl 1 rfl) ?_
  refine lv_i2b hx hb dX8_feeds_57 rfl ?_
  refine xbs (j := ((M 124 10).toNatClampNeg) + 3) (x := x.toInt8.toInt32) hx hb hK hP hS (by omega) (by decide) (ixIn (a := ((M 124 10).toNatClampNeg) + 3) rfl (by first | decide | (simp only [lenOf]; omega) | omega) (by decide)) (ixAt (a := ((M 124 10).toNatClampNeg) + 3) rfl (by omega)) dX8_feeds_58 (fun H locs hP hS => ?_)
  rw [show gX8_feeds M x = LX8_feeds_59g x 1 (mU (mU (mU (mU M 131 ((M 124 10).toNatClampNeg) (((x >>> ((24 : Int32) &&& 31)).toInt8.toInt32).toInt8.toInt32)) 131 (((M 124 10).toNatClampNeg) + 1) (((x >>> ((16 : Int32) &&& 31)).toInt8.toInt32).toInt8.toInt32)) 131 (((M 124 10).toNatClampNeg) + 2) (((x >>> ((8 : Int32) &&& 31)).toInt8.toInt32).toInt8.toInt32)) 131 (((M 124 10).toNatClampNeg) + 3) x.toInt8.toInt32.toInt8.toInt32) from (by rw [gX8_feeds])]
  exact cl_X8_feeds_59 l D cy b n hn x hx hb hr hlocks hml hown hts hK hX 1 (mU (mU (mU (mU M 131 ((M 124 10).toNatClampNeg) (((x >>> ((24 : Int32) &&& 31)).toInt8.toInt32).toInt8.toInt32)) 131 (((M 124 10).toNatClampNeg) + 1) (((x >>> ((16 : Int32) &&& 31)).toInt8.toInt32).toInt8.toInt32)) 131 (((M 124 10).toNatClampNeg) + 2) (((x >>> ((8 : Int32) &&& 31)).toInt8.toInt32).toInt8.toInt32)) 131 (((M 124 10).toNatClampNeg) + 3) x.toInt8.toInt32.toInt8.toInt32) H locs ls (by repeat rw [mU_ne _ _ _ (show (124 : Nat) ≠ 131 by decide)]; exact hib) (by decide) hP hS (lv_sub hl [0] rfl)
theorem fd_many (M : Mem) (x : Int32) : gX8_feeds M x 124 10 = nI ((M 124 10).toNatClampNeg + 4) := by
  unfold gX8_feeds
  rw [LX8_feeds_59g, mU_at]
  repeat rw [mU_ne _ _ _ (show (124 : Nat) ≠ 131 by decide)]
  exact if_pos rfl
theorem fd_ub {M : Mem} {x : Int32} {N K : Nat} (h : UB (M 124 10) N) (hk : N + 4 ≤ K) (hN : N < 2 ^ 31 := by decide) : UB (gX8_feeds M x 124 10) K := ⟨(M 124 10).toNatClampNeg + 4, by have := ub_cl2 h hN; omega, fd_many M x⟩
def fX8_append (M : Mem) (p1 : Int32) (p2 : Int32) (p3 : Int32) (p4 : Int32) (p5 : Int32) : Int32 := if (M 124 10) ≤ (580 : Int32) then (fX8_told (gX8_feeds (gX8_feeds (gX8_feeds (gX8_feeds (gX8_feeds M p1) p2) p3) p4) p5) ((gX8_feeds (gX8_feeds (gX8_feeds (gX8_feeds (gX8_feeds M p1) p2) p3) p4) p5) 124 10)) else (fX8_refuse M (1 : Int32))
def gX8_append (M : Mem) (p1 : Int32) (p2 : Int32) (p3 : Int32) (p4 : Int32) (p5 : Int32) : Mem := if (M 124 10) ≤ (580 : Int32) then (gX8_told (gX8_feeds (gX8_feeds (gX8_feeds (gX8_feeds (gX8_feeds M p1) p2) p3) p4) p5) ((gX8_feeds (gX8_feeds (gX8_feeds (gX8_feeds (gX8_feeds M p1) p2) p3) p4) p5) 124 10)) else (gX8_refuse M (1 : Int32))
set_option maxHeartbeats 4000000 in
set_option maxRecDepth 100000 in
theorem c_X8_append (l : Launch) (D : va_G) (cy : Nat → ClassId) (b n : Nat) (hn : 133 ≤ n) (M : Mem) (p1 : Int32) (p2 : Int32) (p3 : Int32) (p4 : Int32) (p5 : Int32) (hcn : UB (M 124 10) 600) : Met l yX8_append wsX8_append ({ frames := 1, cells := 0, slots := 0, locals := 21 } : Room) (CP D cy b n fT M [.ref (b + 124), .int p1, .int p2, .int p3, .int p4, .int p5]) (CQi D cy b n fT (fX8_append M p1 p2 p3 p4 p5) (gX8_append M p1 p2 p3 p4 p5)) 0 0 (fr b) := by
  refine Met.ofW (cc := cX8_append) (maxL := 6) (ret := (some .int)) (by decide) rfl ?_
  intro p e s m args below meth c s₁ B hml hv
  obtain ⟨rfl, hP, hK, hX⟩ := hv
  have hx := B.exec
  have hb := B.bytes
  have hr := B.returns
  have hts := atoms_spec (ws := wsX8_append) B.pre
  have hown : s.vm.findClass RX8 = some m.cls := findClass_of_methodNamed B.named
  have hlocks := B.notSynchronized
  have lk0 := hts (.fieldLink RX8 203 "HygrometerRoomModel" "inputMany" "I") (by decide +kernel)
  have inc8 : ∀ w ∈ u_ws RX8 TX8 22, w ∈ wsX8_append := by decide +kernel
  have hS : va_S (fr b) s.heap s.heap [] := va_S.rf
  have hl := lv_entry ([.ref (b + 124), .int p1, .int p2, .int p3, .int p4, .int p5]) (n := 6) (Nat.le_of_ble_eq_true rfl)
  rw [lg_entry_eq]
  generalize (lg_sl ([.ref (b + 124), .int p1, .int p2, .int p3, .int p4, .int p5]) ++ List.replicate (6 - (lg_sl ([.ref (b + 124), .int p1, .int p2, .int p3, .int p4, .int p5])).length) Slot.unset).toArray = ls at hl ⊢
  have hl : lv_has ls 6 [(0, .ref (b + 124)), (1, .int p1), (2, .int p2), (3, .int p3), (4, .int p4), (5, .int p5)] := hl
  refine lv_aload_n hx hb dX8_append_0 rfl (lv_at hl 0 rfl) ?_
  refine xg (C := RX8) (T := TX8) (N := 22) (v := .int (M 124 10)) hx hb hts inc8 hown hK hP (by omega) (cell8 (by decide)) rfl 10 (by decide) lk0 (fun _ h => h) rfl dX8_append_1 ?_
  refine lv_sipush (v := 580) hx hb dX8_append_4 (by decide) ?_
  refine lv_icmp_le (tgt := 16) hx hb dX8_append_7 (by decide) (fun c7 => ?_) (fun c7 => ?_)
  · refine lv_aload_n hx hb dX8_append_16 rfl (lv_at hl 0 rfl) ?_
    refine lv_iload_n hx hb dX8_append_17 rfl (lv_at hl 1 rfl) ?_
    refine xc_v (va_runV (As := [.int p1]) (rest := []) ⟨hx, hb, hml, hown, hts⟩ (c_X8_feeds l D cy b n hn M p1 ((cn_app hcn c7).mono (by decide))) (cwV 1 hts gX8_append_X8_feeds rfl rfl rfl (by decide +kernel) ⟨Nat.le_of_ble_eq_true rfl, Nat.le_of_ble_eq_true rfl⟩) (xPreV hP hK hX hS (by omega) (cell8 (by decide)) rfl) rfl rfl hl.1 rfl (lv_room (Nat.le_of_ble_eq_true rfl)) dX8_append_18 ⟨Nat.le_of_ble_eq_true rfl, Nat.le_of_ble_eq_true rfl⟩) hS (fun H locs hP hS => ?_)
    refine lv_aload_n hx hb dX8_append_21 rfl (lv_at hl 0 rfl) ?_
    refine lv_iload_n hx hb dX8_append_22 rfl (lv_at hl 2 rfl) ?_
    refine xc_v (va_runV (As := [.int p2]) (rest := []) ⟨hx, hb, hml, hown, hts⟩ (c_X8_feeds l D cy b n hn (gX8_feeds M p1) p2 (UB.mono (K := 596) (fd_ub (K := 584) (cn_app hcn c7) (by decide)) (by decide))) (cwV 1 hts gX8_append_X8_feeds rfl rfl rfl (by decide +kernel) ⟨Nat.le_of_ble_eq_true rfl, Nat.le_of_ble_eq_true rfl⟩) (xPreV hP hK hX hS (by omega) (cell8 (by decide)) rfl) rfl rfl hl.1 rfl (lv_room (Nat.le_of_ble_eq_true rfl)) dX8_append_23 ⟨Nat.le_of_ble_eq_true rfl, Nat.le_of_ble_eq_true rfl⟩) hS (fun H locs hP hS => ?_)
    refine lv_aload_n hx hb dX8_append_26 rfl (lv_at hl 0 rfl) ?_
    refine lv_iload_n hx hb dX8_append_27 rfl (lv_at hl 3 rfl) ?_
    refine xc_v (va_runV (As := [.int p3]) (rest := []) ⟨hx, hb, hml, hown, hts⟩ (c_X8_feeds l D cy b n hn (gX8_feeds (gX8_feeds M p1) p2) p3 (UB.mono (K := 596) (fd_ub (K := 588) (fd_ub (K := 584) (cn_app hcn c7) (by decide)) (by decide)) (by decide))) (cwV 1 hts gX8_append_X8_feeds rfl rfl rfl (by decide +kernel) ⟨Nat.le_of_ble_eq_true rfl, Nat.le_of_ble_eq_true rfl⟩) (xPreV hP hK hX hS (by omega) (cell8 (by decide)) rfl) rfl rfl hl.1 rfl (lv_room (Nat.le_of_ble_eq_true rfl)) dX8_append_28 ⟨Nat.le_of_ble_eq_true rfl, Nat.le_of_ble_eq_true rfl⟩) hS (fun H locs hP hS => ?_)
    refine lv_aload_n hx hb dX8_append_31 rfl (lv_at hl 0 rfl) ?_
    refine lv_iload hx hb dX8_append_32 (lv_at hl 4 rfl) ?_
    refine xc_v (va_runV (As := [.int p4]) (rest := []) ⟨hx, hb, hml, hown, hts⟩ (c_X8_feeds l D cy b n hn (gX8_feeds (gX8_feeds (gX8_feeds M p1) p2) p3) p4 (UB.mono (K := 596) (fd_ub (K := 592) (fd_ub (K := 588) (fd_ub (K := 584) (cn_app hcn c7) (by decide)) (by decide)) (by decide)) (by decide))) (cwV 1 hts gX8_append_X8_feeds rfl rfl rfl (by decide +kernel) ⟨Nat.le_of_ble_eq_true rfl, Nat.le_of_ble_eq_true rfl⟩) (xPreV hP hK hX hS (by omega) (cell8 (by decide)) rfl) rfl rfl hl.1 rfl (lv_room (Nat.le_of_ble_eq_true rfl)) dX8_append_34 ⟨Nat.le_of_ble_eq_true rfl, Nat.le_of_ble_eq_true rfl⟩) hS (fun H locs hP hS => ?_)
    refine lv_aload_n hx hb dX8_append_37 rfl (lv_at hl 0 rfl) ?_
    refine lv_iload hx hb dX8_append_38 (lv_at hl 5 rfl) ?_
    refine xc_v (va_runV (As := [.int p5]) (rest := []) ⟨hx, hb, hml, hown, hts⟩ (c_X8_feeds l D cy b n hn (gX8_feeds (gX8_feeds (gX8_feeds (gX8_feeds M p1) p2) p3) p4) p5 (UB.mono (K := 596) (fd_ub (K := 596) (fd_ub (K := 592) (fd_ub (K := 588) (fd_ub (K := 584) (cn_app hcn c7) (by decide)) (by decide)) (by decide)) (by decide)) (by decide))) (cwV 1 hts gX8_append_X8_feeds rfl rfl rfl (by decide +kernel) ⟨Nat.le_of_ble_eq_true rfl, Nat.le_of_ble_eq_true rfl⟩) (xPreV hP hK hX hS (by omega) (cell8 (by decide)) rfl) rfl rfl hl.1 rfl (lv_room (Nat.le_of_ble_eq_true rfl)) dX8_append_40 ⟨Nat.le_of_ble_eq_true rfl, Nat.le_of_ble_eq_true rfl⟩) hS (fun H locs hP hS => ?_)
    refine lv_aload_n hx hb dX8_append_43 rfl (lv_at hl 0 rfl) ?_
    refine lv_aload_n hx hb dX8_append_44 rfl (lv_at hl 0 rfl) ?_
    refine xg (C := RX8) (T := TX8) (N := 22) (v := .int ((gX8_feeds (gX8_feeds (gX8_feeds (gX8_feeds (gX8_feeds M p1) p2) p3) p4) p5) 124 10)) hx hb hts inc8 hown hK hP (by omega) (cell8 (by decide)) rfl 10 (by decide) lk0 (fun _ h => h) rfl dX8_append_45 ?_
    refine xc_i (va_runV (As := [.int ((gX8_feeds (gX8_feeds (gX8_feeds (gX8_feeds (gX8_feeds M p1) p2) p3) p4) p5) 124 10)]) (rest := []) ⟨hx, hb, hml, hown, hts⟩ (c_X8_told l D cy b n hn (gX8_feeds (gX8_feeds (gX8_feeds (gX8_feeds (gX8_feeds M p1) p2) p3) p4) p5) ((gX8_feeds (gX8_feeds (gX8_feeds (gX8_feeds (gX8_feeds M p1) p2) p3) p4) p5) 124 10)) (cwV 1 hts gX8_append_X8_told rfl rfl rfl (by decide +kernel) ⟨Nat.le_of_ble_eq_true rfl, Nat.le_of_ble_eq_true rfl⟩) (xPreV hP hK hX hS (by omega) (cell8 (by decide)) rfl) rfl rfl hl.1 rfl (lv_room (Nat.le_of_ble_eq_true rfl)) dX8_append_48 ⟨Nat.le_of_ble_eq_true rfl, Nat.le_of_ble_eq_true rfl⟩) hS (fun H locs hP hS => ?_)
    exact xe_i hx hb hr hlocks hP hS rfl (by rw [gX8_append, if_pos c7] <;> rfl) (by rw [fX8_append, if_pos c7] <;> rfl) (Nat.le_of_ble_eq_true rfl) (Nat.le_of_ble_eq_true rfl) dX8_append_51
  · refine lv_aload_n hx hb dX8_append_10 rfl (lv_at hl 0 rfl) ?_
    refine lv_iconst (v := 1) hx hb dX8_append_11 (by decide) ?_
    refine xc_i (va_runV (As := [.int (1 : Int32)]) (rest := []) ⟨hx, hb, hml, hown, hts⟩ (c_X8_refuse l D cy b n hn M (1 : Int32)) (cwV 1 hts gX8_append_X8_refuse rfl rfl rfl (by decide +kernel) ⟨Nat.le_of_ble_eq_true rfl, Nat.le_of_ble_eq_true rfl⟩) (xPreV hP hK hX hS (by omega) (cell8 (by decide)) rfl) rfl rfl hl.1 rfl (lv_room (Nat.le_of_ble_eq_true rfl)) dX8_append_12 ⟨Nat.le_of_ble_eq_true rfl, Nat.le_of_ble_eq_true rfl⟩) hS (fun H locs hP hS => ?_)
    exact xe_i hx hb hr hlocks hP hS rfl (by rw [gX8_append, if_neg c7] <;> rfl) (by rw [fX8_append, if_neg c7] <;> rfl) (Nat.le_of_ble_eq_true rfl) (Nat.le_of_ble_eq_true rfl) dX8_append_15
theorem in_ub {M : Mem} {x y : Int32} {N : Nat} (h : ¬ fX8_in M x 0 y = 0) (hy : UB y N) (hN : N < 2 ^ 31 := by decide) : UB x N := by
  obtain ⟨r1, r2⟩ := in_rng h
  obtain ⟨k, hk, e⟩ := hy
  exact (ub_le (N := k) r1 r2 e (by omega)).mono hk
def LX8_load_27f (x : Int32) : Nat → Mem → Int32
  | 0, _ => 0
  | k + 1, M => if ((mU (mU (mU M 124 10 (0 : Int32)) 124 13 ((mU M 124 10 (0 : Int32)) 124 20)) 124 14 ((-1) : Int32)) 124 20) = 0 then (fX8_told (mU (mU (mU (mU (mU M 124 10 (0 : Int32)) 124 13 ((mU M 124 10 (0 : Int32)) 124 20)) 124 14 ((-1) : Int32)) 124 6 (0 : Int32)) 124 8 (0 : Int32)) ((mU (mU (mU (mU (mU M 124 10 (0 : Int32)) 124 13 ((mU M 124 10 (0 : Int32)) 124 20)) 124 14 ((-1) : Int32)) 124 6 (0 : Int32)) 124 8 (0 : Int32)) 127 5)) else (fX8_refuse (gX8_putsBack (mU (mU (mU (mU M 124 10 (0 : Int32)) 124 13 ((mU M 124 10 (0 : Int32)) 124 20)) 124 14 ((-1) : Int32)) 124 14 ((mU (mU (mU M 124 10 (0 : Int32)) 124 13 ((mU M 124 10 (0 : Int32)) 124 20)) 124 14 ((-1) : Int32)) 124 21))) (2 : Int32))
def LX8_load_27g (x : Int32) : Nat → Mem → Mem
  | 0, M => M
  | k + 1, M => if ((mU (mU (mU M 124 10 (0 : Int32)) 124 13 ((mU M 124 10 (0 : Int32)) 124 20)) 124 14 ((-1) : Int32)) 124 20) = 0 then (gX8_told (mU (mU (mU (mU (mU M 124 10 (0 : Int32)) 124 13 ((mU M 124 10 (0 : Int32)) 124 20)) 124 14 ((-1) : Int32)) 124 6 (0 : Int32)) 124 8 (0 : Int32)) ((mU (mU (mU (mU (mU M 124 10 (0 : Int32)) 124 13 ((mU M 124 10 (0 : Int32)) 124 20)) 124 14 ((-1) : Int32)) 124 6 (0 : Int32)) 124 8 (0 : Int32)) 127 5)) else (gX8_refuse (gX8_putsBack (mU (mU (mU (mU M 124 10 (0 : Int32)) 124 13 ((mU M 124 10 (0 : Int32)) 124 20)) 124 14 ((-1) : Int32)) 124 14 ((mU (mU (mU M 124 10 (0 : Int32)) 124 13 ((mU M 124 10 (0 : Int32)) 124 20)) 124 14 ((-1) : Int32)) 124 21))) (2 : Int32))
set_option maxHeartbeats 4000000 in
set_option maxRecDepth 100000 in
theorem cl_X8_load_27 (l : Launch) (D : va_G) (cy : Nat → ClassId) (b n : Nat) (hn : 133 ≤ n) (x : Int32)  {p : Program} {e : Env} {s : State} {m : MethodId} {args : Array Value} {below : List Frame} {meth : Method} {c : Code} (hx : p.tables.exec = Jvm.exec) (hb : c.code = cX8_load) (hr : meth.sig.returnType = (some .int)) (hlocks : meth.locks = false) (hml : c.maxLocals = 2) (hown : s.vm.findClass RX8 = some m.cls) (hts : ∀ w ∈ wsX8_load, w.before args s = true) (hK : va_K D vwCl (tysW cy) s) (hX : SX b s)  : ∀ (k : Nat) (M : Mem)  (H : Heap) (locs : List Loc) (ls : Array Slot), 0 < k → va_P D vwCl (wL cy b fT M n) H → va_S (fr b) s.heap H locs → lv_has ls 2 [(0, .ref (b + 124))] → W p l e (headSpec wsX8_load ({ frames := 10, cells := 0, slots := 0, locals := 217 } : Room)).room s m args below meth c H locs 0 0 (MQ below (CQi D cy b n fT (LX8_load_27f x k M) (LX8_load_27g x k M)) args s 0 0 (fr b)) (F0 m 27 ls []) := by
  have lk0 := hts (.fieldLink RX8 203 "HygrometerRoomModel" "inputMany" "I") (by decide +kernel)
  have lk1 := hts (.fieldLink RX8 138 "HygrometerRoomModel" "fault" "I") (by decide +kernel)
  have lk2 := hts (.fieldLink RX8 221 "HygrometerRoomModel" "errorKind" "I") (by decide +kernel)
  have lk3 := hts (.fieldLink RX8 35 "HygrometerRoomModel" "errorOffset" "I") (by decide +kernel)
  have lk4 := hts (.fieldLink RX8 104 "HygrometerRoomModel" "oldMany" "I") (by decide +kernel)
  have lk5 := hts (.fieldLink RX8 227 "HygrometerRoomModel" "savedSet" "I") (by decide +kernel)
  have lk6 := hts (.fieldLink RX8 16 "HygrometerRoomModel" "now" "[I") (by decide +kernel)
  have lk7 := hts (.fieldLink RX8 141 "HygrometerRoomModel" "faultAt" "I") (by decide +kernel)
  have inc8 : ∀ w ∈ u_ws RX8 TX8 22, w ∈ wsX8_load := by decide +kernel
  intro k
  induction k with
  | zero => intro M H locs ls hk hP hS hl; omega
  | succ k ih =>
    intro M H locs ls hk hP hS hl
    refine lv_aload_n hx hb dX8_load_27 rfl (lv_at hl 0 rfl) ?_
    refine lv_iconst (v := 0) hx hb dX8_load_28 (by decide) ?_
    refine xp (C := RX8) (T := TX8) (N := 22) (ci := 8) (ty := .int) (x := (0 : Int32)) hx hb hts inc8 tyX8 tyX8_ok nmX8 hown hK hP hS (by omega) (fun _ => cell8 (by decide)) rfl 10 (by decide) rfl lk0 (fun _ h => h) rfl (tyX8_ok 10 (by decide)) rfl rfl (Nat.le_of_ble_eq_true rfl) dX8_load_29 (fun H locs hP hS => ?_)
    refine lv_aload_n hx hb dX8_load_32 rfl (lv_at hl 0 rfl) ?_
    refine lv_aload_n hx hb dX8_load_33 rfl (lv_at hl 0 rfl) ?_
    refine xg (C := RX8) (T := TX8) (N := 22) (v := .int ((mU M 124 10 (0 : Int32)) 124 20)) hx hb hts inc8 hown hK hP (by omega) (cell8 (by decide)) rfl 20 (by decide) lk1 (fun _ h => h) rfl dX8_load_34 ?_
    refine xp (C := RX8) (T := TX8) (N := 22) (ci := 8) (ty := .int) (x := (mU M 124 10 (0 : Int32)) 124 20) hx hb hts inc8 tyX8 tyX8_ok nmX8 hown hK hP hS (by omega) (fun _ => cell8 (by decide)) rfl 13 (by decide) rfl lk2 (fun _ h => h) rfl (tyX8_ok 13 (by decide)) rfl rfl (Nat.le_of_ble_eq_true rfl) dX8_load_37 (fun H locs hP hS => ?_)
    refine lv_aload_n hx hb dX8_load_40 rfl (lv_at hl 0 rfl) ?_
    refine lv_iconst (v := (-1)) hx hb dX8_load_41 (by decide) ?_
    refine xp (C := RX8) (T := TX8) (N := 22) (ci := 8) (ty := .int) (x := ((-1) : Int32)) hx hb hts inc8 tyX8 tyX8_ok nmX8 hown hK hP hS (by omega) (fun _ => cell8 (by decide)) rfl 14 (by decide) rfl lk3 (fun _ h => h) rfl (tyX8_ok 14 (by decide)) rfl rfl (Nat.le_of_ble_eq_true rfl) dX8_load_42 (fun H locs hP hS => ?_)
    refine lv_aload_n hx hb dX8_load_45 rfl (lv_at hl 0 rfl) ?_
    refine xg (C := RX8) (T := TX8) (N := 22) (v := .int ((mU (mU (mU M 124 10 (0 : Int32)) 124 13 ((mU M 124 10 (0 : Int32)) 124 20)) 124 14 ((-1) : Int32)) 124 20)) hx hb hts inc8 hown hK hP (by omega) (cell8 (by decide)) rfl 20 (by decide) lk1 (fun _ h => h) rfl dX8_load_46 ?_
    refine lv_if_eq (tgt := 70) hx hb dX8_load_49 (by decide) (fun c49 => ?_) (fun c49 => ?_)
    · refine lv_aload_n hx hb dX8_load_70 rfl (lv_at hl 0 rfl) ?_
      refine lv_iconst (v := 0) hx hb dX8_load_71 (by decide) ?_
      refine xp (C := RX8) (T := TX8) (N := 22) (ci := 8) (ty := .int) (x := (0 : Int32)) hx hb hts inc8 tyX8 tyX8_ok nmX8 hown hK hP hS (by omega) (fun _ => cell8 (by decide)) rfl 6 (by decide) rfl lk4 (fun _ h => h) rfl (tyX8_ok 6 (by decide)) rfl rfl (Nat.le_of_ble_eq_true rfl) dX8_load_72 (fun H locs hP hS => ?_)
      refine lv_aload_n hx hb dX8_load_75 rfl (lv_at hl 0 rfl) ?_
      refine lv_iconst (v := 0) hx hb dX8_load_76 (by decide) ?_
      refine xp (C := RX8) (T := TX8) (N := 22) (ci := 8) (ty := .int) (x := (0 : Int32)) hx hb hts inc8 tyX8 tyX8_ok nmX8 hown hK hP hS (by omega) (fun _ => cell8 (by decide)) rfl 8 (by decide) rfl lk5 (fun _ h => h) rfl (tyX8_ok 8 (by decide)) rfl rfl (Nat.le_of_ble_eq_true rfl) dX8_load_77 (fun H locs hP hS => ?_)
      refine lv_aload_n hx hb dX8_load_80 rfl (lv_at hl 0 rfl) ?_
      refine lv_aload_n hx hb dX8_load_81 rfl (lv_at hl 0 rfl) ?_
      refine xg (C := RX8) (T := TX8) (N := 22) (v := .ref (b + 127)) hx hb hts inc8 hown hK hP (by omega) (cell8 (by decide)) rfl 3 (by decide) lk6 (fun _ h => h) rfl dX8_load_82 ?_
      refine lv_iconst (v := 5) hx hb dX8_load_85 (by decide) ?_
      refine xil (j := 5) hx hb hK hP (by omega) (by decide) (ixIn (a := 5) rfl (by first | decide | (simp only [lenOf]; omega) | omega) (by decide)) rfl dX8_load_86 ?_
      refine xc_i (va_runV (As := [.int ((mU (mU (mU (mU (mU M 124 10 (0 : Int32)) 124 13 ((mU M 124 10 (0 : Int32)) 124 20)) 124 14 ((-1) : Int32)) 124 6 (0 : Int32)) 124 8 (0 : Int32)) 127 5)]) (rest := []) ⟨hx, hb, hml, hown, hts⟩ (c_X8_told l D cy b n hn (mU (mU (mU (mU (mU M 124 10 (0 : Int32)) 124 13 ((mU M 124 10 (0 : Int32)) 124 20)) 124 14 ((-1) : Int32)) 124 6 (0 : Int32)) 124 8 (0 : Int32)) ((mU (mU (mU (mU (mU M 124 10 (0 : Int32)) 124 13 ((mU M 124 10 (0 : Int32)) 124 20)) 124 14 ((-1) : Int32)) 124 6 (0 : Int32)) 124 8 (0 : Int32)) 127 5)) (cwV 1 hts gX8_load_X8_told rfl rfl rfl (by decide +kernel) ⟨Nat.le_of_ble_eq_true rfl, Nat.le_of_ble_eq_true rfl⟩) (xPreV hP hK hX hS (by omega) (cell8 (by decide)) rfl) rfl rfl hl.1 rfl (lv_room (Nat.le_of_ble_eq_true rfl)) dX8_load_87 ⟨Nat.le_of_ble_eq_true rfl, Nat.le_of_ble_eq_true rfl⟩) hS (fun H locs hP hS => ?_)
      exact xe_i hx hb hr hlocks hP hS rfl (by rw [LX8_load_27g, if_pos c49] <;> rfl) (by rw [LX8_load_27f, if_pos c49] <;> rfl) (Nat.le_of_ble_eq_true rfl) (Nat.le_of_ble_eq_true rfl) dX8_load_90
    · refine lv_aload_n hx hb dX8_load_52 rfl (lv_at hl 0 rfl) ?_
      refine lv_aload_n hx hb dX8_load_53 rfl (lv_at hl 0 rfl) ?_
      refine xg (C := RX8) (T := TX8) (N := 22) (v := .int ((mU (mU (mU M 124 10 (0 : Int32)) 124 13 ((mU M 124 10 (0 : Int32)) 124 20)) 124 14 ((-1) : Int32)) 124 21)) hx hb hts inc8 hown hK hP (by omega) (cell8 (by decide)) rfl 21 (by decide) lk7 (fun _ h => h) rfl dX8_load_54 ?_
      refine xp (C := RX8) (T := TX8) (N := 22) (ci := 8) (ty := .int) (x := (mU (mU (mU M 124 10 (0 : Int32)) 124 13 ((mU M 124 10 (0 : Int32)) 124 20)) 124 14 ((-1) : Int32)) 124 21) hx hb hts inc8 tyX8 tyX8_ok nmX8 hown hK hP hS (by omega) (fun _ => cell8 (by decide)) rfl 14 (by decide) rfl lk3 (fun _ h => h) rfl (tyX8_ok 14 (by decide)) rfl rfl (Nat.le_of_ble_eq_true rfl) dX8_load_57 (fun H locs hP hS => ?_)
      refine lv_aload_n hx hb dX8_load_60 rfl (lv_at hl 0 rfl) ?_
      refine xc_v (va_runV (As := []) (rest := []) ⟨hx, hb, hml, hown, hts⟩ (c_X8_putsBack l D cy b n hn (mU (mU (mU (mU M 124 10 (0 : Int32)) 124 13 ((mU M 124 10 (0 : Int32)) 124 20)) 124 14 ((-1) : Int32)) 124 14 ((mU (mU (mU M 124 10 (0 : Int32)) 124 13 ((mU M 124 10 (0 : Int32)) 124 20)) 124 14 ((-1) : Int32)) 124 21)) ) (cwV 0 hts gX8_load_X8_putsBack rfl rfl rfl (by decide +kernel) ⟨Nat.le_of_ble_eq_true rfl, Nat.le_of_ble_eq_true rfl⟩) (xPreV hP hK hX hS (by omega) (cell8 (by decide)) rfl) rfl rfl hl.1 rfl (lv_room (Nat.le_of_ble_eq_true rfl)) dX8_load_61 ⟨Nat.le_of_ble_eq_true rfl, Nat.le_of_ble_eq_true rfl⟩) hS (fun H locs hP hS => ?_)
      refine lv_aload_n hx hb dX8_load_64 rfl (lv_at hl 0 rfl) ?_
      refine lv_iconst (v := 2) hx hb dX8_load_65 (by decide) ?_
      refine xc_i (va_runV (As := [.int (2 : Int32)]) (rest := []) ⟨hx, hb, hml, hown, hts⟩ (c_X8_refuse l D cy b n hn (gX8_putsBack (mU (mU (mU (mU M 124 10 (0 : Int32)) 124 13 ((mU M 124 10 (0 : Int32)) 124 20)) 124 14 ((-1) : Int32)) 124 14 ((mU (mU (mU M 124 10 (0 : Int32)) 124 13 ((mU M 124 10 (0 : Int32)) 124 20)) 124 14 ((-1) : Int32)) 124 21))) (2 : Int32)) (cwV 1 hts gX8_load_X8_refuse rfl rfl rfl (by decide +kernel) ⟨Nat.le_of_ble_eq_true rfl, Nat.le_of_ble_eq_true rfl⟩) (xPreV hP hK hX hS (by omega) (cell8 (by decide)) rfl) rfl rfl hl.1 rfl (lv_room (Nat.le_of_ble_eq_true rfl)) dX8_load_66 ⟨Nat.le_of_ble_eq_true rfl, Nat.le_of_ble_eq_true rfl⟩) hS (fun H locs hP hS => ?_)
      exact xe_i hx hb hr hlocks hP hS rfl (by rw [LX8_load_27g, if_neg c49] <;> rfl) (by rw [LX8_load_27f, if_neg c49] <;> rfl) (Nat.le_of_ble_eq_true rfl) (Nat.le_of_ble_eq_true rfl) dX8_load_69

def fX8_load (M : Mem) (x : Int32) : Int32 := if (fX8_in M x (0 : Int32) (M 124 10)) = 0 then (fX8_refuse M (1 : Int32)) else (LX8_load_27f x 1 (gX8_readsText (gX8_putsAside M) x))
def gX8_load (M : Mem) (x : Int32) : Mem := if (fX8_in M x (0 : Int32) (M 124 10)) = 0 then (gX8_refuse M (1 : Int32)) else (LX8_load_27g x 1 (gX8_readsText (gX8_putsAside M) x))
set_option maxHeartbeats 4000000 in
set_option maxRecDepth 100000 in
theorem c_X8_load (l : Launch) (D : va_G) (cy : Nat → ClassId) (b n : Nat) (hn : 133 ≤ n) (M : Mem) (x : Int32) (hcn : UB (M 124 10) 600) : Met l yX8_load wsX8_load ({ frames := 10, cells := 0, slots := 0, locals := 217 } : Room) (CP D cy b n fT M [.ref (b + 124), .int x]) (CQi D cy b n fT (fX8_load M x) (gX8_load M x)) 0 0 (fr b) := by
  refine Met.ofW (cc := cX8_load) (maxL := 2) (ret := (some .int)) (by decide) rfl ?_
  intro p e s m args below meth c s₁ B hml hv
  obtain ⟨rfl, hP, hK, hX⟩ := hv
  have hx := B.exec
  have hb := B.bytes
  have hr := B.returns
  have hts := atoms_spec (ws := wsX8_load) B.pre
  have hown : s.vm.findClass RX8 = some m.cls := findClass_of_methodNamed B.named
  have hlocks := B.notSynchronized
  have lk0 := hts (.fieldLink RX8 203 "HygrometerRoomModel" "inputMany" "I") (by decide +kernel)
  have inc8 : ∀ w ∈ u_ws RX8 TX8 22, w ∈ wsX8_load := by decide +kernel
  have hS : va_S (fr b) s.heap s.heap [] := va_S.rf
  have hl := lv_entry ([.ref (b + 124), .int x]) (n := 2) (Nat.le_of_ble_eq_true rfl)
  rw [lg_entry_eq]
  generalize (lg_sl ([.ref (b + 124), .int x]) ++ List.replicate (2 - (lg_sl ([.ref (b + 124), .int x])).length) Slot.unset).toArray = ls at hl ⊢
  have hl : lv_has ls 2 [(0, .ref (b + 124)), (1, .int x)] := hl
  refine lv_iload_n hx hb dX8_load_0 rfl (lv_at hl 1 rfl) ?_
  refine lv_iconst (v := 0) hx hb dX8_load_1 (by decide) ?_
  refine lv_aload_n hx hb dX8_load_2 rfl (lv_at hl 0 rfl) ?_
  refine xg (C := RX8) (T := TX8) (N := 22) (v := .int (M 124 10)) hx hb hts inc8 hown hK hP (by omega) (cell8 (by decide)) rfl 10 (by decide) lk0 (fun _ h => h) rfl dX8_load_3 ?_
  refine xc_i (va_runS (As := [.int x, .int (0 : Int32), .int (M 124 10)]) (rest := []) ⟨hx, hb, hml, hown, hts⟩ (c_X8_in l D cy b n hn M x (0 : Int32) (M 124 10)) (va_cwS 3 hts gX8_load_X8_in rfl rfl rfl (by decide +kernel) ⟨Nat.le_of_ble_eq_true rfl, Nat.le_of_ble_eq_true rfl⟩) (xPreS hP hK hX hS) rfl rfl hl.1 rfl (lv_room (Nat.le_of_ble_eq_true rfl)) dX8_load_6 ⟨Nat.le_of_ble_eq_true rfl, Nat.le_of_ble_eq_true rfl⟩) hS (fun H locs hP hS => ?_)
  refine lv_if_ne (tgt := 18) hx hb dX8_load_9 (by decide) (fun c9 => ?_) (fun c9 => ?_)
  · refine lv_aload_n hx hb dX8_load_18 rfl (lv_at hl 0 rfl) ?_
    refine xc_v (va_runV (As := []) (rest := []) ⟨hx, hb, hml, hown, hts⟩ (c_X8_putsAside l D cy b n hn M ) (cwV 0 hts gX8_load_X8_putsAside rfl rfl rfl (by decide +kernel) ⟨Nat.le_of_ble_eq_true rfl, Nat.le_of_ble_eq_true rfl⟩) (xPreV hP hK hX hS (by omega) (cell8 (by decide)) rfl) rfl rfl hl.1 rfl (lv_room (Nat.le_of_ble_eq_true rfl)) dX8_load_19 ⟨Nat.le_of_ble_eq_true rfl, Nat.le_of_ble_eq_true rfl⟩) hS (fun H locs hP hS => ?_)
    refine lv_aload_n hx hb dX8_load_22 rfl (lv_at hl 0 rfl) ?_
    refine lv_iload_n hx hb dX8_load_23 rfl (lv_at hl 1 rfl) ?_
    refine xc_v (va_runV (As := [.int x]) (rest := []) ⟨hx, hb, hml, hown, hts⟩ (c_X8_readsText l D cy b n hn (gX8_putsAside M) x (in_ub c9 hcn)) (cwV 1 hts gX8_load_X8_readsText rfl rfl rfl (by decide +kernel) ⟨Nat.le_of_ble_eq_true rfl, Nat.le_of_ble_eq_true rfl⟩) (xPreV hP hK hX hS (by omega) (cell8 (by decide)) rfl) rfl rfl hl.1 rfl (lv_room (Nat.le_of_ble_eq_true rfl)) dX8_load_24 ⟨Nat.le_of_ble_eq_true rfl, Nat.le_of_ble_eq_true rfl⟩) hS (fun H locs hP hS => ?_)
    rw [show fX8_load M x = LX8_load_27f x 1 (gX8_readsText (gX8_putsAside M) x) from (by rw [fX8_load, if_neg c9]), show gX8_load M x = LX8_load_27g x 1 (gX8_readsText (gX8_putsAside M) x) from (by rw [gX8_load, if_neg c9])]
    exact cl_X8_load_27 l D cy b n hn x hx hb hr hlocks hml hown hts hK hX 1 (gX8_readsText (gX8_putsAside M) x) H locs ls (by decide) hP hS (lv_sub hl [0] rfl)
  · refine lv_aload_n hx hb dX8_load_12 rfl (lv_at hl 0 rfl) ?_
    refine lv_iconst (v := 1) hx hb dX8_load_13 (by decide) ?_
    refine xc_i (va_runV (As := [.int (1 : Int32)]) (rest := []) ⟨hx, hb, hml, hown, hts⟩ (c_X8_refuse l D cy b n hn M (1 : Int32)) (cwV 1 hts gX8_load_X8_refuse rfl rfl rfl (by decide +kernel) ⟨Nat.le_of_ble_eq_true rfl, Nat.le_of_ble_eq_true rfl⟩) (xPreV hP hK hX hS (by omega) (cell8 (by decide)) rfl) rfl rfl hl.1 rfl (lv_room (Nat.le_of_ble_eq_true rfl)) dX8_load_14 ⟨Nat.le_of_ble_eq_true rfl, Nat.le_of_ble_eq_true rfl⟩) hS (fun H locs hP hS => ?_)
    exact xe_i hx hb hr hlocks hP hS rfl (by rw [gX8_load, if_pos c9] <;> rfl) (by rw [fX8_load, if_pos c9] <;> rfl) (Nat.le_of_ble_eq_true rfl) (Nat.le_of_ble_eq_true rfl) dX8_load_17
