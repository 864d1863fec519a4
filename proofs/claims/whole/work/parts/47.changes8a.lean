/-! the reference's changes -/
theorem pa2 : ∀ (k : Nat) (M : Mem) (j : Nat), ∀ p, p ≠ 128 → LX8_putsAside_2g k M j p = M p := by
  intro k
  induction k with
  | zero => intro M j p hp; rfl
  | succ k ih =>
    intro M j p hp
    rw [LX8_putsAside_2g]
    split
    · rfl
    · exact (ih _ _ p hp).trans (mU_ne _ _ _ hp)
theorem pa_ne {M : Mem} {p : Nat} (hp : p ≠ 128) : gX8_putsAside M p = M p := pa2 _ _ _ p hp
theorem rm15 : ∀ (k : Nat) (M : Mem) (j : Nat), (∀ p, p ≠ 124 → p ≠ 129 → LX8_remembers_15g k M j p = M p) ∧ ∀ i, i ≠ 6 → LX8_remembers_15g k M j 124 i = M 124 i := by
  intro k
  induction k with
  | zero => intro M j; exact ⟨fun p h1 h2 => rfl, fun i hi => rfl⟩
  | succ k ih =>
    intro M j
    rw [LX8_remembers_15g]
    split
    · exact ⟨fun p h1 h2 => mU_ne _ _ _ h1, fun i hi => mU_row hi⟩
    · obtain ⟨i1, i2⟩ := ih (mU M 129 _ _) (j + 1)
      exact ⟨fun p h1 h2 => (i1 p h1 h2).trans (mU_ne _ _ _ h2), fun i hi => (i2 i hi).trans (by rw [mU_ne _ _ _ (by decide)])⟩
theorem rm_ne {M : Mem} {p : Nat} (h1 : p ≠ 124) (h2 : p ≠ 129) : gX8_remembers M p = M p := by
  unfold gX8_remembers
  split
  · exact ((rm15 _ _ _).1 p h1 h2).trans ((fo3 505 M 0 (by omega) (by omega)).2.2 p h1 h2)
  · exact (rm15 _ _ _).1 p h1 h2
theorem rm_127 (M : Mem) : gX8_remembers M 127 = M 127 := rm_ne (by decide) (by decide)
theorem mny_r {M M' : Mem} (e : M' 127 = M 127) (h : MNY M) : MNY M' := by unfold MNY; rw [e]; exact h
theorem bxs_r {M M' : Mem} (e : M' 127 = M 127) (h : BXS M) : BXS M' := fun j hj => by rw [e]; exact h j hj
theorem tmp_r {M M' : Mem} (e : M' 127 = M 127) (h : TMP M) : TMP M' := by unfold TMP; rw [e]; exact h
theorem in_200 {M : Mem} {y : Int32} (h : ¬ fX8_in M y 0 200 = 0) : UB y 200 := in_ub (N := 200) h ⟨200, by decide, rfl⟩
theorem in_99 {M : Mem} {x : Int32} (h : ¬ fX8_in M x 1 99 = 0) : UB x 200 := by
  obtain ⟨r1, r2⟩ := in_rng h
  exact (ub_1 (N := 99) r1 r2 rfl).mono (by omega)
theorem in_3 {M : Mem} {x : Int32} (h : ¬ fX8_in M x 0 3 = 0) : UB x 3 := in_ub (N := 3) h ⟨3, by decide, rfl⟩
theorem in_1 {M : Mem} {x : Int32} (h : ¬ fX8_in M x 0 1 = 0) : UB x 1 := in_ub (N := 1) h ⟨1, by decide, rfl⟩
def LX8_readingAfter_41f (x : Int32) (y : Int32) : Nat → Mem → Int32
  | 0, _ => 0
  | k + 1, M => fX8_told (gX8_putsBack M) (fX8_reading M x.toNatClampNeg)
def LX8_readingAfter_41g (x : Int32) (y : Int32) : Nat → Mem → Mem
  | 0, M => M
  | k + 1, M => gX8_told (gX8_putsBack M) (fX8_reading M x.toNatClampNeg)
set_option maxHeartbeats 4000000 in
set_option maxRecDepth 100000 in
theorem cl_X8_readingAfter_41 (l : Launch) (D : va_G) (cy : Nat → ClassId) (b n : Nat) (hn : 133 ≤ n) (x : Int32) (y : Int32)  {p : Program} {e : Env} {s : State} {m : MethodId} {args : Array Value} {below : List Frame} {meth : Method} {c : Code} (hx : p.tables.exec = Jvm.exec) (hb : c.code = cX8_readingAfter) (hr : meth.sig.returnType = (some .int)) (hlocks : meth.locks = false) (hml : c.maxLocals = 5) (hown : s.vm.findClass RX8 = some m.cls) (hts : ∀ w ∈ wsX8_readingAfter, w.before args s = true) (hK : va_K D vwCl (tysW cy) s) (hX : SX b s)  : ∀ (k : Nat) (M : Mem)  (H : Heap) (locs : List Loc) (ls : Array Slot), MNY M → BXS M → TMP M → IV x → 0 < k → va_P D vwCl (wL cy b fT M n) H → va_S (fr b) s.heap H locs → lv_has ls 5 [(0, .ref (b + 124)), (1, .int x)] → W p l e (headSpec wsX8_readingAfter ({ frames := 7, cells := 0, slots := 0, locals := 152 } : Room)).room s m args below meth c H locs 0 0 (MQ below (CQi D cy b n fT (LX8_readingAfter_41f x y k M) (LX8_readingAfter_41g x y k M)) args s 0 0 (fr b)) (F0 m 41 ls []) := by
  intro k
  induction k with
  | zero => intro M H locs ls hmy hbx htp hxv hk hP hS hl; omega
  | succ k ih =>
    intro M H locs ls hmy hbx htp hxv hk hP hS hl
    refine lv_aload_n hx hb dX8_readingAfter_41 rfl (lv_at hl 0 rfl) ?_
    refine lv_iload_n hx hb dX8_readingAfter_42 rfl (lv_at hl 1 rfl) ?_
    refine W.eq (g2 := F0 m 43 ls (.int (nI (x.toNatClampNeg)) :: .ref (b + 124) :: [])) (congrArg (fun z => F0 m 43 ls (.int z :: .ref (b + 124) :: [])) (nat_of hxv.1)) ?_
    refine xc_i (va_runV (As := [.int (nI (x.toNatClampNeg))]) (rest := []) ⟨hx, hb, hml, hown, hts⟩ (c_X8_reading l D cy b n hn M x.toNatClampNeg hxv.2 hbx htp) (cwV 1 hts gX8_readingAfter_X8_reading rfl rfl rfl (by decide +kernel) ⟨Nat.le_of_ble_eq_true rfl, Nat.le_of_ble_eq_true rfl⟩) (xPreV hP hK hX hS (by omega) (cell8 (by decide)) rfl) rfl rfl hl.1 rfl (lv_room (Nat.le_of_ble_eq_true rfl)) dX8_readingAfter_43 ⟨Nat.le_of_ble_eq_true rfl, Nat.le_of_ble_eq_true rfl⟩) hS (fun H locs hP hS => ?_)
    refine lv_istore (lv' := [(4, .int (fX8_reading M x.toNatClampNeg)), (0, .ref (b + 124)), (1, .int x)]) hx hb dX8_readingAfter_46 hl (by decide) rfl (fun ls hl => ?_)
    refine lv_aload_n hx hb dX8_readingAfter_48 rfl (lv_at hl 1 rfl) ?_
    refine xc_v (va_runV (As := []) (rest := []) ⟨hx, hb, hml, hown, hts⟩ (c_X8_putsBack l D cy b n hn M ) (cwV 0 hts gX8_readingAfter_X8_putsBack rfl rfl rfl (by decide +kernel) ⟨Nat.le_of_ble_eq_true rfl, Nat.le_of_ble_eq_true rfl⟩) (xPreV hP hK hX hS (by omega) (cell8 (by decide)) rfl) rfl rfl hl.1 rfl (lv_room (Nat.le_of_ble_eq_true rfl)) dX8_readingAfter_49 ⟨Nat.le_of_ble_eq_true rfl, Nat.le_of_ble_eq_true rfl⟩) hS (fun H locs hP hS => ?_)
    refine lv_aload_n hx hb dX8_readingAfter_52 rfl (lv_at hl 1 rfl) ?_
    refine lv_iload hx hb dX8_readingAfter_53 (lv_at hl 0 rfl) ?_
    refine xc_i (va_runV (As := [.int (fX8_reading M x.toNatClampNeg)]) (rest := []) ⟨hx, hb, hml, hown, hts⟩ (c_X8_told l D cy b n hn (gX8_putsBack M) (fX8_reading M x.toNatClampNeg)) (cwV 1 hts gX8_readingAfter_X8_told rfl rfl rfl (by decide +kernel) ⟨Nat.le_of_ble_eq_true rfl, Nat.le_of_ble_eq_true rfl⟩) (xPreV hP hK hX hS (by omega) (cell8 (by decide)) rfl) rfl rfl hl.1 rfl (lv_room (Nat.le_of_ble_eq_true rfl)) dX8_readingAfter_55 ⟨Nat.le_of_ble_eq_true rfl, Nat.le_of_ble_eq_true rfl⟩) hS (fun H locs hP hS => ?_)
    exact xe_i hx hb hr hlocks hP hS rfl (by rw [LX8_readingAfter_41g] <;> rfl) (by rw [LX8_readingAfter_41f] <;> rfl) (Nat.le_of_ble_eq_true rfl) (Nat.le_of_ble_eq_true rfl) dX8_readingAfter_58

def fX8_readingAfter (M : Mem) (x : Int32) (y : Int32) : Int32 := if (fX8_is M x) = 0 then (fX8_refuse M (1 : Int32)) else (if (fX8_in M y (0 : Int32) (200 : Int32)) = 0 then (fX8_refuse M (2 : Int32)) else (LX8_readingAfter_41f x y 1 (gX8_passes (gX8_putsAside M) y)))
def gX8_readingAfter (M : Mem) (x : Int32) (y : Int32) : Mem := if (fX8_is M x) = 0 then (gX8_refuse M (1 : Int32)) else (if (fX8_in M y (0 : Int32) (200 : Int32)) = 0 then (gX8_refuse M (2 : Int32)) else (LX8_readingAfter_41g x y 1 (gX8_passes (gX8_putsAside M) y)))
set_option maxHeartbeats 4000000 in
set_option maxRecDepth 100000 in
theorem c_X8_readingAfter (l : Launch) (D : va_G) (cy : Nat → ClassId) (b n : Nat) (hn : 133 ≤ n) (M : Mem) (x : Int32) (y : Int32) (hmy : MNY M) (hbx : BXS M) (htp : TMP M) : Met l yX8_readingAfter wsX8_readingAfter ({ frames := 7, cells := 0, slots := 0, locals := 152 } : Room) (CP D cy b n fT M [.ref (b + 124), .int x, .int y]) (CQi D cy b n fT (fX8_readingAfter M x y) (gX8_readingAfter M x y)) 0 0 (fr b) := by
  refine Met.ofW (cc := cX8_readingAfter) (maxL := 5) (ret := (some .int)) (by decide) rfl ?_
  intro p e s m args below meth c s₁ B hml hv
  obtain ⟨rfl, hP, hK, hX⟩ := hv
  have hx := B.exec
  have hb := B.bytes
  have hr := B.returns
  have hts := atoms_spec (ws := wsX8_readingAfter) B.pre
  have hown : s.vm.findClass RX8 = some m.cls := findClass_of_methodNamed B.named
  have hlocks := B.notSynchronized
  have hS : va_S (fr b) s.heap s.heap [] := va_S.rf
  have hl := lv_entry ([.ref (b + 124), .int x, .int y]) (n := 5) (Nat.le_of_ble_eq_true rfl)
  rw [lg_entry_eq]
  generalize (lg_sl ([.ref (b + 124), .int x, .int y]) ++ List.replicate (5 - (lg_sl ([.ref (b + 124), .int x, .int y])).length) Slot.unset).toArray = ls at hl ⊢
  have hl : lv_has ls 5 [(0, .ref (b + 124)), (1, .int x), (2, .int y)] := hl
  refine lv_aload_n hx hb dX8_readingAfter_0 rfl (lv_at hl 0 rfl) ?_
  refine lv_iload_n hx hb dX8_readingAfter_1 rfl (lv_at hl 1 rfl) ?_
  refine xc_i (va_runV (As := [.int x]) (rest := []) ⟨hx, hb, hml, hown, hts⟩ (c_X8_is l D cy b n hn M x) (cwV 1 hts gX8_readingAfter_X8_is rfl rfl rfl (by decide +kernel) ⟨Nat.le_of_ble_eq_true rfl, Nat.le_of_ble_eq_true rfl⟩) (xPreV hP hK hX hS (by omega) (cell8 (by decide)) rfl) rfl rfl hl.1 rfl (lv_room (Nat.le_of_ble_eq_true rfl)) dX8_readingAfter_2 ⟨Nat.le_of_ble_eq_true rfl, Nat.le_of_ble_eq_true rfl⟩) hS (fun H locs hP hS => ?_)
  refine lv_if_ne (tgt := 14) hx hb dX8_readingAfter_5 (by decide) (fun c5 => ?_) (fun c5 => ?_)
  · refine lv_iload_n hx hb dX8_readingAfter_14 rfl (lv_at hl 2 rfl) ?_
    refine lv_iconst (v := 0) hx hb dX8_readingAfter_15 (by decide) ?_
    refine lv_sipush (v := 200) hx hb dX8_readingAfter_16 (by decide) ?_
    refine xc_i (va_runS (As := [.int y, .int (0 : Int32), .int (200 : Int32)]) (rest := []) ⟨hx, hb, hml, hown, hts⟩ (c_X8_in l D cy b n hn M y (0 : Int32) (200 : Int32)) (va_cwS 3 hts gX8_readingAfter_X8_in rfl rfl rfl (by decide +kernel) ⟨Nat.le_of_ble_eq_true rfl, Nat.le_of_ble_eq_true rfl⟩) (xPreS hP hK hX hS) rfl rfl hl.1 rfl (lv_room (Nat.le_of_ble_eq_true rfl)) dX8_readingAfter_19 ⟨Nat.le_of_ble_eq_true rfl, Nat.le_of_ble_eq_true rfl⟩) hS (fun H locs hP hS => ?_)
    refine lv_if_ne (tgt := 31) hx hb dX8_readingAfter_22 (by decide) (fun c22 => ?_) (fun c22 => ?_)
    · refine lv_aload_n hx hb dX8_readingAfter_31 rfl (lv_at hl 0 rfl) ?_
      refine xc_v (va_runV (As := []) (rest := []) ⟨hx, hb, hml, hown, hts⟩ (c_X8_putsAside l D cy b n hn M ) (cwV 0 hts gX8_readingAfter_X8_putsAside rfl rfl rfl (by decide +kernel) ⟨Nat.le_of_ble_eq_true rfl, Nat.le_of_ble_eq_true rfl⟩) (xPreV hP hK hX hS (by omega) (cell8 (by decide)) rfl) rfl rfl hl.1 rfl (lv_room (Nat.le_of_ble_eq_true rfl)) dX8_readingAfter_32 ⟨Nat.le_of_ble_eq_true rfl, Nat.le_of_ble_eq_true rfl⟩) hS (fun H locs hP hS => ?_)
      refine lv_aload_n hx hb dX8_readingAfter_35 rfl (lv_at hl 0 rfl) ?_
      refine lv_iload_n hx hb dX8_readingAfter_36 rfl (lv_at hl 2 rfl) ?_
      refine xc_i (va_runV (As := [.int y]) (rest := []) ⟨hx, hb, hml, hown, hts⟩ (c_X8_passes l D cy b n hn (gX8_putsAside M) y (in_200 c22) (mny_r (pa_ne (p := 127) (by decide)) hmy) (bxs_r (pa_ne (p := 127) (by decide)) hbx)) (cwV 1 hts gX8_readingAfter_X8_passes rfl rfl rfl (by decide +kernel) ⟨Nat.le_of_ble_eq_true rfl, Nat.le_of_ble_eq_true rfl⟩) (xPreV hP hK hX hS (by omega) (cell8 (by decide)) rfl) rfl rfl hl.1 rfl (lv_room (Nat.le_of_ble_eq_true rfl)) dX8_readingAfter_37 ⟨Nat.le_of_ble_eq_true rfl, Nat.le_of_ble_eq_true rfl⟩) hS (fun H locs hP hS => ?_)
      refine lv_istore_n (lv' := [(3, .int (fX8_passes (gX8_putsAside M) y)), (0, .ref (b + 124)), (1, .int x), (2, .int y)]) hx hb dX8_readingAfter_40 rfl hl (by decide) rfl (fun ls hl => ?_)
      rw [show fX8_readingAfter M x y = LX8_readingAfter_41f x y 1 (gX8_passes (gX8_putsAside M) y) from (by rw [fX8_readingAfter, if_neg c5, if_neg c22]), show gX8_readingAfter M x y = LX8_readingAfter_41g x y 1 (gX8_passes (gX8_putsAside M) y) from (by rw [gX8_readingAfter, if_neg c5, if_neg c22])]
      exact cl_X8_readingAfter_41 l D cy b n hn x y hx hb hr hlocks hml hown hts hK hX 1 (gX8_passes (gX8_putsAside M) y) H locs ls ((nk_ps _ _).mny (mny_r (pa_ne (p := 127) (by decide)) hmy)) ((nk_ps _ _).bxs (bxs_r (pa_ne (p := 127) (by decide)) hbx)) ((nk_ps _ _).tmp (tmp_r (pa_ne (p := 127) (by decide)) htp)) (is_iv hmy c5) (by decide) hP hS (lv_sub hl [1, 2] rfl)
    · refine lv_aload_n hx hb dX8_readingAfter_25 rfl (lv_at hl 0 rfl) ?_
      refine lv_iconst (v := 2) hx hb dX8_readingAfter_26 (by decide) ?_
      refine xc_i (va_runV (As := [.int (2 : Int32)]) (rest := []) ⟨hx, hb, hml, hown, hts⟩ (c_X8_refuse l D cy b n hn M (2 : Int32)) (cwV 1 hts gX8_readingAfter_X8_refuse rfl rfl rfl (by decide +kernel) ⟨Nat.le_of_ble_eq_true rfl, Nat.le_of_ble_eq_true rfl⟩) (xPreV hP hK hX hS (by omega) (cell8 (by decide)) rfl) rfl rfl hl.1 rfl (lv_room (Nat.le_of_ble_eq_true rfl)) dX8_readingAfter_27 ⟨Nat.le_of_ble_eq_true rfl, Nat.le_of_ble_eq_true rfl⟩) hS (fun H locs hP hS => ?_)
      exact xe_i hx hb hr hlocks hP hS rfl (by rw [gX8_readingAfter, if_neg c5, if_pos c22] <;> rfl) (by rw [fX8_readingAfter, if_neg c5, if_pos c22] <;> rfl) (Nat.le_of_ble_eq_true rfl) (Nat.le_of_ble_eq_true rfl) dX8_readingAfter_30
  · refine lv_aload_n hx hb dX8_readingAfter_8 rfl (lv_at hl 0 rfl) ?_
    refine lv_iconst (v := 1) hx hb dX8_readingAfter_9 (by decide) ?_
    refine xc_i (va_runV (As := [.int (1 : Int32)]) (rest := []) ⟨hx, hb, hml, hown, hts⟩ (c_X8_refuse l D cy b n hn M (1 : Int32)) (cwV 1 hts gX8_readingAfter_X8_refuse rfl rfl rfl (by decide +kernel) ⟨Nat.le_of_ble_eq_true rfl, Nat.le_of_ble_eq_true rfl⟩) (xPreV hP hK hX hS (by omega) (cell8 (by decide)) rfl) rfl rfl hl.1 rfl (lv_room (Nat.le_of_ble_eq_true rfl)) dX8_readingAfter_10 ⟨Nat.le_of_ble_eq_true rfl, Nat.le_of_ble_eq_true rfl⟩) hS (fun H locs hP hS => ?_)
    exact xe_i hx hb hr hlocks hP hS rfl (by rw [gX8_readingAfter, if_pos c5] <;> rfl) (by rw [fX8_readingAfter, if_pos c5] <;> rfl) (Nat.le_of_ble_eq_true rfl) (Nat.le_of_ble_eq_true rfl) dX8_readingAfter_13
def LX8_minutesUntilStill_46f (x : Int32) : Nat → Mem → Int32 → Int32
  | 0, _, _ => 0
  | k + 1, M, w => if (fX8_isStill M x.toNatClampNeg) = 0 then (fX8_told (gX8_putsBack M) ((-1) : Int32)) else (fX8_told (gX8_putsBack M) w)
def LX8_minutesUntilStill_46g (x : Int32) : Nat → Mem → Int32 → Mem
  | 0, M, _ => M
  | k + 1, M, w => if (fX8_isStill M x.toNatClampNeg) = 0 then (gX8_told (gX8_putsBack M) ((-1) : Int32)) else (gX8_told (gX8_putsBack M) w)
set_option maxHeartbeats 4000000 in
set_option maxRecDepth 100000 in
theorem cl_X8_minutesUntilStill_46 (l : Launch) (D : va_G) (cy : Nat → ClassId) (b n : Nat) (hn : 133 ≤ n) (x : Int32)  {p : Program} {e : Env} {s : State} {m : MethodId} {args : Array Value} {below : List Frame} {meth : Method} {c : Code} (hx : p.tables.exec = Jvm.exec) (hb : c.code = cX8_minutesUntilStill) (hr : meth.sig.returnType = (some .int)) (hlocks : meth.locks = false) (hml : c.maxLocals = 4) (hown : s.vm.findClass RX8 = some m.cls) (hts : ∀ w ∈ wsX8_minutesUntilStill, w.before args s = true) (hK : va_K D vwCl (tysW cy) s) (hX : SX b s)  : ∀ (k : Nat) (M : Mem) (w : Int32) (H : Heap) (locs : List Loc) (ls : Array Slot), BXS M → IV x → 0 < k → va_P D vwCl (wL cy b fT M n) H → va_S (fr b) s.heap H locs → lv_has ls 4 [(0, .ref (b + 124)), (1, .int x), (2, .int w)] → W p l e (headSpec wsX8_minutesUntilStill ({ frames := 6, cells := 0, slots := 0, locals := 129 } : Room)).room s m args below meth c H locs 0 0 (MQ below (CQi D cy b n fT (LX8_minutesUntilStill_46f x k M w) (LX8_minutesUntilStill_46g x k M w)) args s 0 0 (fr b)) (F0 m 46 ls []) := by
  intro k
  induction k with
  | zero => intro M w H locs ls hbx hxv hk hP hS hl; omega
  | succ k ih =>
    intro M w H locs ls hbx hxv hk hP hS hl
    refine lv_aload_n hx hb dX8_minutesUntilStill_46 rfl (lv_at hl 0 rfl) ?_
    refine lv_iload_n hx hb dX8_minutesUntilStill_47 rfl (lv_at hl 1 rfl) ?_
    refine W.eq (g2 := F0 m 48 ls (.int (nI (x.toNatClampNeg)) :: .ref (b + 124) :: [])) (congrArg (fun z => F0 m 48 ls (.int z :: .ref (b + 124) :: [])) (nat_of hxv.1)) ?_
    refine xc_i (va_runV (As := [.int (nI (x.toNatClampNeg))]) (rest := []) ⟨hx, hb, hml, hown, hts⟩ (c_X8_isStill l D cy b n hn M x.toNatClampNeg hxv.2 hbx) (cwV 1 hts gX8_minutesUntilStill_X8_isStill rfl rfl rfl (by decide +kernel) ⟨Nat.le_of_ble_eq_true rfl, Nat.le_of_ble_eq_true rfl⟩) (xPreV hP hK hX hS (by omega) (cell8 (by decide)) rfl) rfl rfl hl.1 rfl (lv_room (Nat.le_of_ble_eq_true rfl)) dX8_minutesUntilStill_48 ⟨Nat.le_of_ble_eq_true rfl, Nat.le_of_ble_eq_true rfl⟩) hS (fun H locs hP hS => ?_)
    refine lv_istore_n (lv' := [(3, .int (fX8_isStill M x.toNatClampNeg)), (0, .ref (b + 124)), (1, .int x), (2, .int w)]) hx hb dX8_minutesUntilStill_51 rfl hl (by decide) rfl (fun ls hl => ?_)
    refine lv_aload_n hx hb dX8_minutesUntilStill_52 rfl (lv_at hl 1 rfl) ?_
    refine xc_v (va_runV (As := []) (rest := []) ⟨hx, hb, hml, hown, hts⟩ (c_X8_putsBack l D cy b n hn M ) (cwV 0 hts gX8_minutesUntilStill_X8_putsBack rfl rfl rfl (by decide +kernel) ⟨Nat.le_of_ble_eq_true rfl, Nat.le_of_ble_eq_true rfl⟩) (xPreV hP hK hX hS (by omega) (cell8 (by decide)) rfl) rfl rfl hl.1 rfl (lv_room (Nat.le_of_ble_eq_true rfl)) dX8_minutesUntilStill_53 ⟨Nat.le_of_ble_eq_true rfl, Nat.le_of_ble_eq_true rfl⟩) hS (fun H locs hP hS => ?_)
    refine lv_iload_n hx hb dX8_minutesUntilStill_56 rfl (lv_at hl 0 rfl) ?_
    refine lv_if_ne (tgt := 66) hx hb dX8_minutesUntilStill_57 (by decide) (fun c57 => ?_) (fun c57 => ?_)
    · refine lv_aload_n hx hb dX8_minutesUntilStill_66 rfl (lv_at hl 1 rfl) ?_
      refine lv_iload_n hx hb dX8_minutesUntilStill_67 rfl (lv_at hl 3 rfl) ?_
      refine xc_i (va_runV (As := [.int w]) (rest := []) ⟨hx, hb, hml, hown, hts⟩ (c_X8_told l D cy b n hn (gX8_putsBack M) w) (cwV 1 hts gX8_minutesUntilStill_X8_told rfl rfl rfl (by decide +kernel) ⟨Nat.le_of_ble_eq_true rfl, Nat.le_of_ble_eq_true rfl⟩) (xPreV hP hK hX hS (by omega) (cell8 (by decide)) rfl) rfl rfl hl.1 rfl (lv_room (Nat.le_of_ble_eq_true rfl)) dX8_minutesUntilStill_68 ⟨Nat.le_of_ble_eq_true rfl, Nat.le_of_ble_eq_true rfl⟩) hS (fun H locs hP hS => ?_)
      exact xe_i hx hb hr hlocks hP hS rfl (by rw [LX8_minutesUntilStill_46g, if_neg c57] <;> rfl) (by rw [LX8_minutesUntilStill_46f, if_neg c57] <;> rfl) (Nat.le_of_ble_eq_true rfl) (Nat.le_of_ble_eq_true rfl) dX8_minutesUntilStill_71
    · refine lv_aload_n hx hb dX8_minutesUntilStill_60 rfl (lv_at hl 1 rfl) ?_
      refine lv_iconst (v := (-1)) hx hb dX8_minutesUntilStill_61 (by decide) ?_
      refine xc_i (va_runV (As := [.int ((-1) : Int32)]) (rest := []) ⟨hx, hb, hml, hown, hts⟩ (c_X8_told l D cy b n hn (gX8_putsBack M) ((-1) : Int32)) (cwV 1 hts gX8_minutesUntilStill_X8_told rfl rfl rfl (by decide +kernel) ⟨Nat.le_of_ble_eq_true rfl, Nat.le_of_ble_eq_true rfl⟩) (xPreV hP hK hX hS (by omega) (cell8 (by decide)) rfl) rfl rfl hl.1 rfl (lv_room (Nat.le_of_ble_eq_true rfl)) dX8_minutesUntilStill_62 ⟨Nat.le_of_ble_eq_true rfl, Nat.le_of_ble_eq_true rfl⟩) hS (fun H locs hP hS => ?_)
      exact xe_i hx hb hr hlocks hP hS rfl (by rw [LX8_minutesUntilStill_46g, if_pos c57] <;> rfl) (by rw [LX8_minutesUntilStill_46f, if_pos c57] <;> rfl) (Nat.le_of_ble_eq_true rfl) (Nat.le_of_ble_eq_true rfl) dX8_minutesUntilStill_65

def LX8_minutesUntilStill_20f (x : Int32) : Nat → Mem → Nat → Int32
  | 0, _, _ => 0
  | k + 1, M, j => if (fX8_isStill M x.toNatClampNeg) = 0 then (if (200 : Int32) ≤ (nI (j)) then (LX8_minutesUntilStill_46f x 1 M (nI (j))) else (LX8_minutesUntilStill_20f x k (gX8_passesMinute M) (j + 1))) else (LX8_minutesUntilStill_46f x 1 M (nI (j)))
def LX8_minutesUntilStill_20g (x : Int32) : Nat → Mem → Nat → Mem
  | 0, M, _ => M
  | k + 1, M, j => if (fX8_isStill M x.toNatClampNeg) = 0 then (if (200 : Int32) ≤ (nI (j)) then (LX8_minutesUntilStill_46g x 1 M (nI (j))) else (LX8_minutesUntilStill_20g x k (gX8_passesMinute M) (j + 1))) else (LX8_minutesUntilStill_46g x 1 M (nI (j)))
set_option maxHeartbeats 4000000 in
set_option maxRecDepth 100000 in
theorem cl_X8_minutesUntilStill_20 (l : Launch) (D : va_G) (cy : Nat → ClassId) (b n : Nat) (hn : 133 ≤ n) (x : Int32)  {p : Program} {e : Env} {s : State} {m : MethodId} {args : Array Value} {below : List Frame} {meth : Method} {c : Code} (hx : p.tables.exec = Jvm.exec) (hb : c.code = cX8_minutesUntilStill) (hr : meth.sig.returnType = (some .int)) (hlocks : meth.locks = false) (hml : c.maxLocals = 4) (hown : s.vm.findClass RX8 = some m.cls) (hts : ∀ w ∈ wsX8_minutesUntilStill, w.before args s = true) (hK : va_K D vwCl (tysW cy) s) (hX : SX b s)  : ∀ (k : Nat) (M : Mem) (j : Nat) (H : Heap) (locs : List Loc) (ls : Array Slot), MNY M → BXS M → IV x → j ≤ 200 → 201 ≤ j + k → va_P D vwCl (wL cy b fT M n) H → va_S (fr b) s.heap H locs → lv_has ls 4 [(0, .ref (b + 124)), (1, .int x), (2, .int (nI (j)))] → W p l e (headSpec wsX8_minutesUntilStill ({ frames := 6, cells := 0, slots := 0, locals := 129 } : Room)).room s m args below meth c H locs 0 0 (MQ below (CQi D cy b n fT (LX8_minutesUntilStill_20f x k M j) (LX8_minutesUntilStill_20g x k M j)) args s 0 0 (fr b)) (F0 m 20 ls []) := by
  intro k
  induction k with
  | zero => intro M j H locs ls hmy hbx hxv hj hk hP hS hl; omega
  | succ k ih =>
    intro M j H locs ls hmy hbx hxv hj hk hP hS hl
    refine lv_aload_n hx hb dX8_minutesUntilStill_20 rfl (lv_at hl 0 rfl) ?_
    refine lv_iload_n hx hb dX8_minutesUntilStill_21 rfl (lv_at hl 1 rfl) ?_
    refine W.eq (g2 := F0 m 22 ls (.int (nI (x.toNatClampNeg)) :: .ref (b + 124) :: [])) (congrArg (fun z => F0 m 22 ls (.int z :: .ref (b + 124) :: [])) (nat_of hxv.1)) ?_
    refine xc_i (va_runV (As := [.int (nI (x.toNatClampNeg))]) (rest := []) ⟨hx, hb, hml, hown, hts⟩ (c_X8_isStill l D cy b n hn M x.toNatClampNeg hxv.2 hbx) (cwV 1 hts gX8_minutesUntilStill_X8_isStill rfl rfl rfl (by decide +kernel) ⟨Nat.le_of_ble_eq_true rfl, Nat.le_of_ble_eq_true rfl⟩) (xPreV hP hK hX hS (by omega) (cell8 (by decide)) rfl) rfl rfl hl.1 rfl (lv_room (Nat.le_of_ble_eq_true rfl)) dX8_minutesUntilStill_22 ⟨Nat.le_of_ble_eq_true rfl, Nat.le_of_ble_eq_true rfl⟩) hS (fun H locs hP hS => ?_)
    refine lv_if_ne (tgt := 46) hx hb dX8_minutesUntilStill_25 (by decide) (fun c25 => ?_) (fun c25 => ?_)
    · rw [show LX8_minutesUntilStill_20f x (k + 1) M j = LX8_minutesUntilStill_46f x 1 M (nI (j)) from (by rw [LX8_minutesUntilStill_20f, if_neg c25]), show LX8_minutesUntilStill_20g x (k + 1) M j = LX8_minutesUntilStill_46g x 1 M (nI (j)) from (by rw [LX8_minutesUntilStill_20g, if_neg c25])]
      exact cl_X8_minutesUntilStill_46 l D cy b n hn x hx hb hr hlocks hml hown hts hK hX 1 M (nI (j)) H locs ls hbx hxv (by decide) hP hS (lv_sub hl [0, 1, 2] rfl)
    · refine lv_iload_n hx hb dX8_minutesUntilStill_28 rfl (lv_at hl 2 rfl) ?_
      refine lv_sipush (v := 200) hx hb dX8_minutesUntilStill_29 (by decide) ?_
      refine lv_icmp_ge (tgt := 46) hx hb dX8_minutesUntilStill_32 (by decide) (fun c32 => ?_) (fun c32 => ?_)
      · rw [show LX8_minutesUntilStill_20f x (k + 1) M j = LX8_minutesUntilStill_46f x 1 M (nI (j)) from (by rw [LX8_minutesUntilStill_20f, if_pos c25, if_pos c32]), show LX8_minutesUntilStill_20g x (k + 1) M j = LX8_minutesUntilStill_46g x 1 M (nI (j)) from (by rw [LX8_minutesUntilStill_20g, if_pos c25, if_pos c32])]
        exact cl_X8_minutesUntilStill_46 l D cy b n hn x hx hb hr hlocks hml hown hts hK hX 1 M (nI (j)) H locs ls hbx hxv (by decide) hP hS (lv_sub hl [0, 1, 2] rfl)
      · have hj2 := lit_lt (N := 200) c32 rfl hj
        refine lv_aload_n hx hb dX8_minutesUntilStill_35 rfl (lv_at hl 0 rfl) ?_
        refine xc_i (va_runV (As := []) (rest := []) ⟨hx, hb, hml, hown, hts⟩ (c_X8_passesMinute l D cy b n hn M hmy hbx) (cwV 0 hts gX8_minutesUntilStill_X8_passesMinute rfl rfl rfl (by decide +kernel) ⟨Nat.le_of_ble_eq_true rfl, Nat.le_of_ble_eq_true rfl⟩) (xPreV hP hK hX hS (by omega) (cell8 (by decide)) rfl) rfl rfl hl.1 rfl (lv_room (Nat.le_of_ble_eq_true rfl)) dX8_minutesUntilStill_36 ⟨Nat.le_of_ble_eq_true rfl, Nat.le_of_ble_eq_true rfl⟩) hS (fun H locs hP hS => ?_)
        refine lv_istore_n (lv' := [(3, .int (fX8_passesMinute M)), (0, .ref (b + 124)), (1, .int x), (2, .int (nI (j)))]) hx hb dX8_minutesUntilStill_39 rfl hl (by decide) rfl (fun ls hl => ?_)
        refine lv_iinc (v := nI (j + 1)) (lv' := [(2, .int (nI (j + 1))), (3, .int (fX8_passesMinute M)), (0, .ref (b + 124)), (1, .int x)]) hx hb dX8_minutesUntilStill_40 hl (k := 3) rfl (ixAdd (a := j) (c := 1) (d := j + 1) rfl rfl (by omega)) (by decide) rfl (fun ls hl => ?_)
        refine lv_goto (tgt := 20) hx hb dX8_minutesUntilStill_43 (by decide) ?_
        rw [show LX8_minutesUntilStill_20f x (k + 1) M j = LX8_minutesUntilStill_20f x k (gX8_passesMinute M) (j + 1) from (by rw [LX8_minutesUntilStill_20f, if_pos c25, if_neg c32]), show LX8_minutesUntilStill_20g x (k + 1) M j = LX8_minutesUntilStill_20g x k (gX8_passesMinute M) (j + 1) from (by rw [LX8_minutesUntilStill_20g, if_pos c25, if_neg c32])]
        exact ih (gX8_passesMinute M) (j + 1) H locs ls ((nk_pm _).mny hmy) ((nk_pm _).bxs hbx) hxv (by omega) (by omega) hP hS (lv_sub hl [2, 3, 0] rfl)

def fX8_minutesUntilStill (M : Mem) (x : Int32) : Int32 := if (fX8_is M x) = 0 then (fX8_refuse M (1 : Int32)) else (LX8_minutesUntilStill_20f x 201 (gX8_putsAside M) 0)
def gX8_minutesUntilStill (M : Mem) (x : Int32) : Mem := if (fX8_is M x) = 0 then (gX8_refuse M (1 : Int32)) else (LX8_minutesUntilStill_20g x 201 (gX8_putsAside M) 0)
set_option maxHeartbeats 4000000 in
set_option maxRecDepth 100000 in
theorem c_X8_minutesUntilStill (l : Launch) (D : va_G) (cy : Nat → ClassId) (b n : Nat) (hn : 133 ≤ n) (M : Mem) (x : Int32) (hmy : MNY M) (hbx : BXS M) : Met l yX8_minutesUntilStill wsX8_minutesUntilStill ({ frames := 6, cells := 0, slots := 0, locals := 129 } : Room) (CP D cy b n fT M [.ref (b + 124), .int x]) (CQi D cy b n fT (fX8_minutesUntilStill M x) (gX8_minutesUntilStill M x)) 0 0 (fr b) := by
  refine Met.ofW (cc := cX8_minutesUntilStill) (maxL := 4) (ret := (some .int)) (by decide) rfl ?_
  intro p e s m args below meth c s₁ B hml hv
  obtain ⟨rfl, hP, hK, hX⟩ := hv
  have hx := B.exec
  have hb := B.bytes
  have hr := B.returns
  have hts := atoms_spec (ws := wsX8_minutesUntilStill) B.pre
  have hown : s.vm.findClass RX8 = some m.cls := findClass_of_methodNamed B.named
  have hlocks := B.notSynchronized
  have hS : va_S (fr b) s.heap s.heap [] := va_S.rf
  have hl := lv_entry ([.ref (b + 124), .int x]) (n := 4) (Nat.le_of_ble_eq_true rfl)
  rw [lg_entry_eq]
  generalize (lg_sl ([.ref (b + 124), .int x]) ++ List.replicate (4 - (lg_sl ([.ref (b + 124), .int x])).length) Slot.unset).toArray = ls at hl ⊢
  have hl : lv_has ls 4 [(0, .ref (b + 124)), (1, .int x)] := hl
  refine lv_aload_n hx hb dX8_minutesUntilStill_0 rfl (lv_at hl 0 rfl) ?_
  refine lv_iload_n hx hb dX8_minutesUntilStill_1 rfl (lv_at hl 1 rfl) ?_
  refine xc_i (va_runV (As := [.int x]) (rest := []) ⟨hx, hb, hml, hown, hts⟩ (c_X8_is l D cy b n hn M x) (cwV 1 hts gX8_minutesUntilStill_X8_is rfl rfl rfl (by decide +kernel) ⟨Nat.le_of_ble_eq_true rfl, Nat.le_of_ble_eq_true rfl⟩) (xPreV hP hK hX hS (by omega) (cell8 (by decide)) rfl) rfl rfl hl.1 rfl (lv_room (Nat.le_of_ble_eq_true rfl)) dX8_minutesUntilStill_2 ⟨Nat.le_of_ble_eq_true rfl, Nat.le_of_ble_eq_true rfl⟩) hS (fun H locs hP hS => ?_)
  refine lv_if_ne (tgt := 14) hx hb dX8_minutesUntilStill_5 (by decide) (fun c5 => ?_) (fun c5 => ?_)
  · refine lv_aload_n hx hb dX8_minutesUntilStill_14 rfl (lv_at hl 0 rfl) ?_
    refine xc_v (va_runV (As := []) (rest := []) ⟨hx, hb, hml, hown, hts⟩ (c_X8_putsAside l D cy b n hn M ) (cwV 0 hts gX8_minutesUntilStill_X8_putsAside rfl rfl rfl (by decide +kernel) ⟨Nat.le_of_ble_eq_true rfl, Nat.le_of_ble_eq_true rfl⟩) (xPreV hP hK hX hS (by omega) (cell8 (by decide)) rfl) rfl rfl hl.1 rfl (lv_room (Nat.le_of_ble_eq_true rfl)) dX8_minutesUntilStill_15 ⟨Nat.le_of_ble_eq_true rfl, Nat.le_of_ble_eq_true rfl⟩) hS (fun H locs hP hS => ?_)
    refine lv_iconst (v := 0) hx hb dX8_minutesUntilStill_18 (by decide) ?_
    refine lv_istore_n (lv' := [(2, .int (0 : Int32)), (0, .ref (b + 124)), (1, .int x)]) hx hb dX8_minutesUntilStill_19 rfl hl (by decide) rfl (fun ls hl => ?_)
    rw [show fX8_minutesUntilStill M x = LX8_minutesUntilStill_20f x 201 (gX8_putsAside M) 0 from (by rw [fX8_minutesUntilStill, if_neg c5]), show gX8_minutesUntilStill M x = LX8_minutesUntilStill_20g x 201 (gX8_putsAside M) 0 from (by rw [gX8_minutesUntilStill, if_neg c5])]
    exact cl_X8_minutesUntilStill_20 l D cy b n hn x hx hb hr hlocks hml hown hts hK hX 201 (gX8_putsAside M) 0 H locs ls (mny_r (pa_ne (p := 127) (by decide)) hmy) (bxs_r (pa_ne (p := 127) (by decide)) hbx) (is_iv hmy c5) (by omega) (by omega) hP hS (lv_sub hl [1, 2, 0] rfl)
  · refine lv_aload_n hx hb dX8_minutesUntilStill_8 rfl (lv_at hl 0 rfl) ?_
    refine lv_iconst (v := 1) hx hb dX8_minutesUntilStill_9 (by decide) ?_
    refine xc_i (va_runV (As := [.int (1 : Int32)]) (rest := []) ⟨hx, hb, hml, hown, hts⟩ (c_X8_refuse l D cy b n hn M (1 : Int32)) (cwV 1 hts gX8_minutesUntilStill_X8_refuse rfl rfl rfl (by decide +kernel) ⟨Nat.le_of_ble_eq_true rfl, Nat.le_of_ble_eq_true rfl⟩) (xPreV hP hK hX hS (by omega) (cell8 (by decide)) rfl) rfl rfl hl.1 rfl (lv_room (Nat.le_of_ble_eq_true rfl)) dX8_minutesUntilStill_10 ⟨Nat.le_of_ble_eq_true rfl, Nat.le_of_ble_eq_true rfl⟩) hS (fun H locs hP hS => ?_)
    exact xe_i hx hb hr hlocks hP hS rfl (by rw [gX8_minutesUntilStill, if_pos c5] <;> rfl) (by rw [fX8_minutesUntilStill, if_pos c5] <;> rfl) (Nat.le_of_ble_eq_true rfl) (Nat.le_of_ble_eq_true rfl) dX8_minutesUntilStill_13
def LX8_hairDifference_9f  : Nat → Mem → Int32 → Nat → Int32
  | 0, _, _, _ => 0
  | k + 1, M, v, j => if (M 127 5) ≤ (nI (j)) then (fX8_told M (fX8_without M ((v - (M 127 6)) - (M 127 7)))) else (LX8_hairDifference_9f k M (v + ((M 127 (8 * j + 9)) + (M 127 (8 * j + 10)))) (j + 1))
def LX8_hairDifference_9g  : Nat → Mem → Int32 → Nat → Mem
  | 0, M, _, _ => M
  | k + 1, M, v, j => if (M 127 5) ≤ (nI (j)) then (gX8_told M (fX8_without M ((v - (M 127 6)) - (M 127 7)))) else (LX8_hairDifference_9g k M (v + ((M 127 (8 * j + 9)) + (M 127 (8 * j + 10)))) (j + 1))
set_option maxHeartbeats 4000000 in
set_option maxRecDepth 100000 in
theorem cl_X8_hairDifference_9 (l : Launch) (D : va_G) (cy : Nat → ClassId) (b n : Nat) (hn : 133 ≤ n)   {p : Program} {e : Env} {s : State} {m : MethodId} {args : Array Value} {below : List Frame} {meth : Method} {c : Code} (hx : p.tables.exec = Jvm.exec) (hb : c.code = cX8_hairDifference) (hr : meth.sig.returnType = (some .int)) (hlocks : meth.locks = false) (hml : c.maxLocals = 3) (hown : s.vm.findClass RX8 = some m.cls) (hts : ∀ w ∈ wsX8_hairDifference, w.before args s = true) (hK : va_K D vwCl (tysW cy) s) (hX : SX b s)  : ∀ (k : Nat) (M : Mem) (v : Int32) (j : Nat) (H : Heap) (locs : List Loc) (ls : Array Slot), MNY M → j ≤ 6 → 7 ≤ j + k → va_P D vwCl (wL cy b fT M n) H → va_S (fr b) s.heap H locs → lv_has ls 3 [(0, .ref (b + 124)), (1, .int v), (2, .int (nI (j)))] → W p l e (headSpec wsX8_hairDifference ({ frames := 1, cells := 0, slots := 0, locals := 21 } : Room)).room s m args below meth c H locs 0 0 (MQ below (CQi D cy b n fT (LX8_hairDifference_9f k M v j) (LX8_hairDifference_9g k M v j)) args s 0 0 (fr b)) (F0 m 9 ls []) := by
  have lk0 := hts (.fieldLink RX8 16 "HygrometerRoomModel" "now" "[I") (by decide +kernel)
  have inc8 : ∀ w ∈ u_ws RX8 TX8 22, w ∈ wsX8_hairDifference := by decide +kernel
  intro k
  induction k with
  | zero => intro M v j H locs ls hmy hj hk hP hS hl; omega
  | succ k ih =>
    intro M v j H locs ls hmy hj hk hP hS hl
    refine lv_iload_n hx hb dX8_hairDifference_9 rfl (lv_at hl 2 rfl) ?_
    refine lv_aload_n hx hb dX8_hairDifference_10 rfl (lv_at hl 0 rfl) ?_
    refine xg (C := RX8) (T := TX8) (N := 22) (v := .ref (b + 127)) hx hb hts inc8 hown hK hP (by omega) (cell8 (by decide)) rfl 3 (by decide) lk0 (fun _ h => h) rfl dX8_hairDifference_11 ?_
    refine lv_iconst (v := 5) hx hb dX8_hairDifference_14 (by decide) ?_
    refine xil (j := 5) hx hb hK hP (by omega) (by decide) (ixIn (a := 5) rfl (by first | decide | (simp only [lenOf]; omega) | omega) (by decide)) rfl dX8_hairDifference_15 ?_
    refine lv_icmp_ge (tgt := 51) hx hb dX8_hairDifference_16 (by decide) (fun c16 => ?_) (fun c16 => ?_)
    · refine lv_aload_n hx hb dX8_hairDifference_51 rfl (lv_at hl 0 rfl) ?_
      refine lv_iload_n hx hb dX8_hairDifference_52 rfl (lv_at hl 1 rfl) ?_
      refine lv_aload_n hx hb dX8_hairDifference_53 rfl (lv_at hl 0 rfl) ?_
      refine xg (C := RX8) (T := TX8) (N := 22) (v := .ref (b + 127)) hx hb hts inc8 hown hK hP (by omega) (cell8 (by decide)) rfl 3 (by decide) lk0 (fun _ h => h) rfl dX8_hairDifference_54 ?_
      refine lv_bipush (v := 6) hx hb dX8_hairDifference_57 (by decide) ?_
      refine xil (j := 6) hx hb hK hP (by omega) (by decide) (ixIn (a := 6) rfl (by first | decide | (simp only [lenOf]; omega) | omega) (by decide)) rfl dX8_hairDifference_59 ?_
      refine lv_isub hx hb dX8_hairDifference_60 ?_
      refine lv_aload_n hx hb dX8_hairDifference_61 rfl (lv_at hl 0 rfl) ?_
      refine xg (C := RX8) (T := TX8) (N := 22) (v := .ref (b + 127)) hx hb hts inc8 hown hK hP (by omega) (cell8 (by decide)) rfl 3 (by decide) lk0 (fun _ h => h) rfl dX8_hairDifference_62 ?_
      refine lv_bipush (v := 7) hx hb dX8_hairDifference_65 (by decide) ?_
      refine xil (j := 7) hx hb hK hP (by omega) (by decide) (ixIn (a := 7) rfl (by first | decide | (simp only [lenOf]; omega) | omega) (by decide)) rfl dX8_hairDifference_67 ?_
      refine lv_isub hx hb dX8_hairDifference_68 ?_
      refine xc_i (va_runS (As := [.int ((v - (M 127 6)) - (M 127 7))]) (rest := [.ref (b + 124)]) ⟨hx, hb, hml, hown, hts⟩ (c_X8_without l D cy b n hn M ((v - (M 127 6)) - (M 127 7))) (va_cwS 1 hts gX8_hairDifference_X8_without rfl rfl rfl (by decide +kernel) ⟨Nat.le_of_ble_eq_true rfl, Nat.le_of_ble_eq_true rfl⟩) (xPreS hP hK hX hS) rfl rfl hl.1 rfl (lv_room (Nat.le_of_ble_eq_true rfl)) dX8_hairDifference_69 ⟨Nat.le_of_ble_eq_true rfl, Nat.le_of_ble_eq_true rfl⟩) hS (fun H locs hP hS => ?_)
      refine xc_i (va_runV (As := [.int (fX8_without M ((v - (M 127 6)) - (M 127 7)))]) (rest := []) ⟨hx, hb, hml, hown, hts⟩ (c_X8_told l D cy b n hn M (fX8_without M ((v - (M 127 6)) - (M 127 7)))) (cwV 1 hts gX8_hairDifference_X8_told rfl rfl rfl (by decide +kernel) ⟨Nat.le_of_ble_eq_true rfl, Nat.le_of_ble_eq_true rfl⟩) (xPreV hP hK hX hS (by omega) (cell8 (by decide)) rfl) rfl rfl hl.1 rfl (lv_room (Nat.le_of_ble_eq_true rfl)) dX8_hairDifference_72 ⟨Nat.le_of_ble_eq_true rfl, Nat.le_of_ble_eq_true rfl⟩) hS (fun H locs hP hS => ?_)
      exact xe_i hx hb hr hlocks hP hS rfl (by rw [LX8_hairDifference_9g, if_pos c16] <;> rfl) (by rw [LX8_hairDifference_9f, if_pos c16] <;> rfl) (Nat.le_of_ble_eq_true rfl) (Nat.le_of_ble_eq_true rfl) dX8_hairDifference_75
    · have hj6 := ub_lt hmy hj c16
      refine lv_iload_n hx hb dX8_hairDifference_19 rfl (lv_at hl 1 rfl) ?_
      refine lv_aload_n hx hb dX8_hairDifference_20 rfl (lv_at hl 0 rfl) ?_
      refine xg (C := RX8) (T := TX8) (N := 22) (v := .ref (b + 127)) hx hb hts inc8 hown hK hP (by omega) (cell8 (by decide)) rfl 3 (by decide) lk0 (fun _ h => h) rfl dX8_hairDifference_21 ?_
      refine lv_iload_n hx hb dX8_hairDifference_24 rfl (lv_at hl 2 rfl) ?_
      refine xc_i (va_runS (As := [.int (nI (j))]) (rest := [.ref (b + 127), .int v]) ⟨hx, hb, hml, hown, hts⟩ (c_X8_i l D cy b n hn M j) (va_cwS 1 hts gX8_hairDifference_X8_i rfl rfl rfl (by decide +kernel) ⟨Nat.le_of_ble_eq_true rfl, Nat.le_of_ble_eq_true rfl⟩) (xPreS hP hK hX hS) rfl rfl hl.1 rfl (lv_room (Nat.le_of_ble_eq_true rfl)) dX8_hairDifference_25 ⟨Nat.le_of_ble_eq_true rfl, Nat.le_of_ble_eq_true rfl⟩) hS (fun H locs hP hS => ?_)
      refine W.eq (g2 := F0 m 28 ls (.int (nI (8 * j + 8)) :: .ref (b + 127) :: .int v :: [])) (congrArg (fun z => F0 m 28 ls (.int z :: .ref (b + 127) :: .int v :: [])) (show fX8_i M j = nI (8 * j + 8) from by unfold fX8_i; exact congrArg nI (by omega))) ?_
      refine lv_iconst (v := 1) hx hb dX8_hairDifference_28 (by decide) ?_
      refine xadd (z := nI (8 * j + 9)) hx hb (ixAdd (a := 8 * j + 8) (c := 1) (d := 8 * j + 9) rfl rfl (by omega)) dX8_hairDifference_29 ?_
      refine xil (j := 8 * j + 9) hx hb hK hP (by omega) (by decide) (ixIn (a := 8 * j + 9) rfl (by first | decide | (simp only [lenOf]; omega) | omega) (by decide)) (ixAt (a := 8 * j + 9) rfl (by omega)) dX8_hairDifference_30 ?_
      refine lv_aload_n hx hb dX8_hairDifference_31 rfl (lv_at hl 0 rfl) ?_
      refine xg (C := RX8) (T := TX8) (N := 22) (v := .ref (b + 127)) hx hb hts inc8 hown hK hP (by omega) (cell8 (by decide)) rfl 3 (by decide) lk0 (fun _ h => h) rfl dX8_hairDifference_32 ?_
      refine lv_iload_n hx hb dX8_hairDifference_35 rfl (lv_at hl 2 rfl) ?_
      refine xc_i (va_runS (As := [.int (nI (j))]) (rest := [.ref (b + 127), .int (M 127 (8 * j + 9)), .int v]) ⟨hx, hb, hml, hown, hts⟩ (c_X8_i l D cy b n hn M j) (va_cwS 1 hts gX8_hairDifference_X8_i rfl rfl rfl (by decide +kernel) ⟨Nat.le_of_ble_eq_true rfl, Nat.le_of_ble_eq_true rfl⟩) (xPreS hP hK hX hS) rfl rfl hl.1 rfl (lv_room (Nat.le_of_ble_eq_true rfl)) dX8_hairDifference_36 ⟨Nat.le_of_ble_eq_true rfl, Nat.le_of_ble_eq_true rfl⟩) hS (fun H locs hP hS => ?_)
      refine W.eq (g2 := F0 m 39 ls (.int (nI (8 * j + 8)) :: .ref (b + 127) :: .int (M 127 (8 * j + 9)) :: .int v :: [])) (congrArg (fun z => F0 m 39 ls (.int z :: .ref (b + 127) :: .int (M 127 (8 * j + 9)) :: .int v :: [])) (show fX8_i M j = nI (8 * j + 8) from by unfold fX8_i; exact congrArg nI (by omega))) ?_
      refine lv_iconst (v := 2) hx hb dX8_hairDifference_39 (by decide) ?_
      refine xadd (z := nI (8 * j + 10)) hx hb (ixAdd (a := 8 * j + 8) (c := 2) (d := 8 * j + 10) rfl rfl (by omega)) dX8_hairDifference_40 ?_
      refine xil (j := 8 * j + 10) hx hb hK hP (by omega) (by decide) (ixIn (a := 8 * j + 10) rfl (by first | decide | (simp only [lenOf]; omega) | omega) (by decide)) (ixAt (a := 8 * j + 10) rfl (by omega)) dX8_hairDifference_41 ?_
      refine lv_iadd hx hb dX8_hairDifference_42 ?_
      refine lv_iadd hx hb dX8_hairDifference_43 ?_
      refine lv_istore_n (lv' := [(1, .int (v + ((M 127 (8 * j + 9)) + (M 127 (8 * j + 10))))), (0, .ref (b + 124)), (2, .int (nI (j)))]) hx hb dX8_hairDifference_44 rfl hl (by decide) rfl (fun ls hl => ?_)
      refine lv_iinc (v := nI (j + 1)) (lv' := [(2, .int (nI (j + 1))), (1, .int (v + ((M 127 (8 * j + 9)) + (M 127 (8 * j + 10))))), (0, .ref (b + 124))]) hx hb dX8_hairDifference_45 hl (k := 2) rfl (ixAdd (a := j) (c := 1) (d := j + 1) rfl rfl (by omega)) (by decide) rfl (fun ls hl => ?_)
      refine lv_goto (tgt := 9) hx hb dX8_hairDifference_48 (by decide) ?_
      rw [show LX8_hairDifference_9f (k + 1) M v j = LX8_hairDifference_9f k M (v + ((M 127 (8 * j + 9)) + (M 127 (8 * j + 10)))) (j + 1) from (by rw [LX8_hairDifference_9f, if_neg c16]), show LX8_hairDifference_9g (k + 1) M v j = LX8_hairDifference_9g k M (v + ((M 127 (8 * j + 9)) + (M 127 (8 * j + 10)))) (j + 1) from (by rw [LX8_hairDifference_9g, if_neg c16])]
      exact ih M (v + ((M 127 (8 * j + 9)) + (M 127 (8 * j + 10)))) (j + 1) H locs ls hmy (by omega) (by omega) hP hS (lv_sub hl [2, 1, 0] rfl)

def fX8_hairDifference (M : Mem) : Int32 := LX8_hairDifference_9f 7 M (M 127 4) 0
def gX8_hairDifference (M : Mem) : Mem := LX8_hairDifference_9g 7 M (M 127 4) 0
set_option maxHeartbeats 4000000 in
set_option maxRecDepth 100000 in
theorem c_X8_hairDifference (l : Launch) (D : va_G) (cy : Nat → ClassId) (b n : Nat) (hn : 133 ≤ n) (M : Mem)  (hmy : MNY M) : Met l yX8_hairDifference wsX8_hairDifference ({ frames := 1, cells := 0, slots := 0, locals := 21 } : Room) (CP D cy b n fT M [.ref (b + 124)]) (CQi D cy b n fT (fX8_hairDifference M) (gX8_hairDifference M)) 0 0 (fr b) := by
  refine Met.ofW (cc := cX8_hairDifference) (maxL := 3) (ret := (some .int)) (by decide) rfl ?_
  intro p e s m args below meth c s₁ B hml hv
  obtain ⟨rfl, hP, hK, hX⟩ := hv
  have hx := B.exec
  have hb := B.bytes
  have hr := B.returns
  have hts := atoms_spec (ws := wsX8_hairDifference) B.pre
  have hown : s.vm.findClass RX8 = some m.cls := findClass_of_methodNamed B.named
  have hlocks := B.notSynchronized
  have lk0 := hts (.fieldLink RX8 16 "HygrometerRoomModel" "now" "[I") (by decide +kernel)
  have inc8 : ∀ w ∈ u_ws RX8 TX8 22, w ∈ wsX8_hairDifference := by decide +kernel
  have hS : va_S (fr b) s.heap s.heap [] := va_S.rf
  have hl := lv_entry ([.ref (b + 124)]) (n := 3) (Nat.le_of_ble_eq_true rfl)
  rw [lg_entry_eq]
  generalize (lg_sl ([.ref (b + 124)]) ++ List.replicate (3 - (lg_sl ([.ref (b + 124)])).length) Slot.unset).toArray = ls at hl ⊢
  have hl : lv_has ls 3 [(0, .ref (b + 124))] := hl
  refine lv_aload_n hx hb dX8_hairDifference_0 rfl (lv_at hl 0 rfl) ?_
  refine xg (C := RX8) (T := TX8) (N := 22) (v := .ref (b + 127)) hx hb hts inc8 hown hK hP (by omega) (cell8 (by decide)) rfl 3 (by decide) lk0 (fun _ h => h) rfl dX8_hairDifference_1 ?_
  refine lv_iconst (v := 4) hx hb dX8_hairDifference_4 (by decide) ?_
  refine xil (j := 4) hx hb hK hP (by omega) (by decide) (ixIn (a := 4) rfl (by first | decide | (simp only [lenOf]; omega) | omega) (by decide)) rfl dX8_hairDifference_5 ?_
  refine lv_istore_n (lv' := [(1, .int (M 127 4)), (0, .ref (b + 124))]) hx hb dX8_hairDifference_6 rfl hl (by decide) rfl (fun ls hl => ?_)
  refine lv_iconst (v := 0) hx hb dX8_hairDifference_7 (by decide) ?_
  refine lv_istore_n (lv' := [(2, .int (0 : Int32)), (1, .int (M 127 4)), (0, .ref (b + 124))]) hx hb dX8_hairDifference_8 rfl hl (by decide) rfl (fun ls hl => ?_)
  rw [show fX8_hairDifference M = LX8_hairDifference_9f 7 M (M 127 4) 0 from (by rw [fX8_hairDifference]), show gX8_hairDifference M = LX8_hairDifference_9g 7 M (M 127 4) 0 from (by rw [gX8_hairDifference])]
  exact cl_X8_hairDifference_9 l D cy b n hn  hx hb hr hlocks hml hown hts hK hX 7 M (M 127 4) 0 s.heap [] ls hmy (by omega) (by omega) hP hS (lv_sub hl [2, 1, 0] rfl)
def fX8_advance (M : Mem) (x : Int32) : Int32 := if (fX8_in M x (1 : Int32) (99 : Int32)) = 0 then (fX8_refuse M (1 : Int32)) else (if ((M 127 0) + x) ≤ (9999 : Int32) then (fX8_told (gX8_passes (gX8_remembers M) x) (fX8_passes (gX8_remembers M) x)) else (fX8_refuse M (2 : Int32)))
def gX8_advance (M : Mem) (x : Int32) : Mem := if (fX8_in M x (1 : Int32) (99 : Int32)) = 0 then (gX8_refuse M (1 : Int32)) else (if ((M 127 0) + x) ≤ (9999 : Int32) then (gX8_told (gX8_passes (gX8_remembers M) x) (fX8_passes (gX8_remembers M) x)) else (gX8_refuse M (2 : Int32)))
set_option maxHeartbeats 4000000 in
set_option maxRecDepth 100000 in
theorem c_X8_advance (l : Launch) (D : va_G) (cy : Nat → ClassId) (b n : Nat) (hn : 133 ≤ n) (M : Mem) (x : Int32) (hmy : MNY M) (hbx : BXS M) (ho : UB (M 124 6) 10) : Met l yX8_advance wsX8_advance ({ frames := 7, cells := 0, slots := 0, locals := 152 } : Room) (CP D cy b n fT M [.ref (b + 124), .int x]) (CQi D cy b n fT (fX8_advance M x) (gX8_advance M x)) 0 0 (fr b) := by
  refine Met.ofW (cc := cX8_advance) (maxL := 2) (ret := (some .int)) (by decide) rfl ?_
  intro p e s m args below meth c s₁ B hml hv
  obtain ⟨rfl, hP, hK, hX⟩ := hv
  have hx := B.exec
  have hb := B.bytes
  have hr := B.returns
  have hts := atoms_spec (ws := wsX8_advance) B.pre
  have hown : s.vm.findClass RX8 = some m.cls := findClass_of_methodNamed B.named
  have hlocks := B.notSynchronized
  have lk0 := hts (.fieldLink RX8 16 "HygrometerRoomModel" "now" "[I") (by decide +kernel)
  have inc8 : ∀ w ∈ u_ws RX8 TX8 22, w ∈ wsX8_advance := by decide +kernel
  have hS : va_S (fr b) s.heap s.heap [] := va_S.rf
  have hl := lv_entry ([.ref (b + 124), .int x]) (n := 2) (Nat.le_of_ble_eq_true rfl)
  rw [lg_entry_eq]
  generalize (lg_sl ([.ref (b + 124), .int x]) ++ List.replicate (2 - (lg_sl ([.ref (b + 124), .int x])).length) Slot.unset).toArray = ls at hl ⊢
  have hl : lv_has ls 2 [(0, .ref (b + 124)), (1, .int x)] := hl
  refine lv_iload_n hx hb dX8_advance_0 rfl (lv_at hl 1 rfl) ?_
  refine lv_iconst (v := 1) hx hb dX8_advance_1 (by decide) ?_
  refine lv_bipush (v := 99) hx hb dX8_advance_2 (by decide) ?_
  refine xc_i (va_runS (As := [.int x, .int (1 : Int32), .int (99 : Int32)]) (rest := []) ⟨hx, hb, hml, hown, hts⟩ (c_X8_in l D cy b n hn M x (1 : Int32) (99 : Int32)) (va_cwS 3 hts gX8_advance_X8_in rfl rfl rfl (by decide +kernel) ⟨Nat.le_of_ble_eq_true rfl, Nat.le_of_ble_eq_true rfl⟩) (xPreS hP hK hX hS) rfl rfl hl.1 rfl (lv_room (Nat.le_of_ble_eq_true rfl)) dX8_advance_4 ⟨Nat.le_of_ble_eq_true rfl, Nat.le_of_ble_eq_true rfl⟩) hS (fun H locs hP hS => ?_)
  refine lv_if_ne (tgt := 16) hx hb dX8_advance_7 (by decide) (fun c7 => ?_) (fun c7 => ?_)
  · refine lv_aload_n hx hb dX8_advance_16 rfl (lv_at hl 0 rfl) ?_
    refine xg (C := RX8) (T := TX8) (N := 22) (v := .ref (b + 127)) hx hb hts inc8 hown hK hP (by omega) (cell8 (by decide)) rfl 3 (by decide) lk0 (fun _ h => h) rfl dX8_advance_17 ?_
    refine lv_iconst (v := 0) hx hb dX8_advance_20 (by decide) ?_
    refine xil (j := 0) hx hb hK hP (by omega) (by decide) (ixIn (a := 0) rfl (by first | decide | (simp only [lenOf]; omega) | omega) (by decide)) rfl dX8_advance_21 ?_
    refine lv_iload_n hx hb dX8_advance_22 rfl (lv_at hl 1 rfl) ?_
    refine lv_iadd hx hb dX8_advance_23 ?_
    refine lv_sipush (v := 9999) hx hb dX8_advance_24 (by decide) ?_
    refine lv_icmp_le (tgt := 36) hx hb dX8_advance_27 (by decide) (fun c27 => ?_) (fun c27 => ?_)
    · refine lv_aload_n hx hb dX8_advance_36 rfl (lv_at hl 0 rfl) ?_
      refine xc_v (va_runV (As := []) (rest := []) ⟨hx, hb, hml, hown, hts⟩ (c_X8_remembers l D cy b n hn M ho) (cwV 0 hts gX8_advance_X8_remembers rfl rfl rfl (by decide +kernel) ⟨Nat.le_of_ble_eq_true rfl, Nat.le_of_ble_eq_true rfl⟩) (xPreV hP hK hX hS (by omega) (cell8 (by decide)) rfl) rfl rfl hl.1 rfl (lv_room (Nat.le_of_ble_eq_true rfl)) dX8_advance_37 ⟨Nat.le_of_ble_eq_true rfl, Nat.le_of_ble_eq_true rfl⟩) hS (fun H locs hP hS => ?_)
      refine lv_aload_n hx hb dX8_advance_40 rfl (lv_at hl 0 rfl) ?_
      refine lv_aload_n hx hb dX8_advance_41 rfl (lv_at hl 0 rfl) ?_
      refine lv_iload_n hx hb dX8_advance_42 rfl (lv_at hl 1 rfl) ?_
      refine xc_i (va_runV (As := [.int x]) (rest := [.ref (b + 124)]) ⟨hx, hb, hml, hown, hts⟩ (c_X8_passes l D cy b n hn (gX8_remembers M) x (in_99 c7) (mny_r (rm_127 M) hmy) (bxs_r (rm_127 M) hbx)) (cwV 1 hts gX8_advance_X8_passes rfl rfl rfl (by decide +kernel) ⟨Nat.le_of_ble_eq_true rfl, Nat.le_of_ble_eq_true rfl⟩) (xPreV hP hK hX hS (by omega) (cell8 (by decide)) rfl) rfl rfl hl.1 rfl (lv_room (Nat.le_of_ble_eq_true rfl)) dX8_advance_43 ⟨Nat.le_of_ble_eq_true rfl, Nat.le_of_ble_eq_true rfl⟩) hS (fun H locs hP hS => ?_)
      refine xc_i (va_runV (As := [.int (fX8_passes (gX8_remembers M) x)]) (rest := []) ⟨hx, hb, hml, hown, hts⟩ (c_X8_told l D cy b n hn (gX8_passes (gX8_remembers M) x) (fX8_passes (gX8_remembers M) x)) (cwV 1 hts gX8_advance_X8_told rfl rfl rfl (by decide +kernel) ⟨Nat.le_of_ble_eq_true rfl, Nat.le_of_ble_eq_true rfl⟩) (xPreV hP hK hX hS (by omega) (cell8 (by decide)) rfl) rfl rfl hl.1 rfl (lv_room (Nat.le_of_ble_eq_true rfl)) dX8_advance_46 ⟨Nat.le_of_ble_eq_true rfl, Nat.le_of_ble_eq_true rfl⟩) hS (fun H locs hP hS => ?_)
      exact xe_i hx hb hr hlocks hP hS rfl (by rw [gX8_advance, if_neg c7, if_pos c27] <;> rfl) (by rw [fX8_advance, if_neg c7, if_pos c27] <;> rfl) (Nat.le_of_ble_eq_true rfl) (Nat.le_of_ble_eq_true rfl) dX8_advance_49
    · refine lv_aload_n hx hb dX8_advance_30 rfl (lv_at hl 0 rfl) ?_
      refine lv_iconst (v := 2) hx hb dX8_advance_31 (by decide) ?_
      refine xc_i (va_runV (As := [.int (2 : Int32)]) (rest := []) ⟨hx, hb, hml, hown, hts⟩ (c_X8_refuse l D cy b n hn M (2 : Int32)) (cwV 1 hts gX8_advance_X8_refuse rfl rfl rfl (by decide +kernel) ⟨Nat.le_of_ble_eq_true rfl, Nat.le_of_ble_eq_true rfl⟩) (xPreV hP hK hX hS (by omega) (cell8 (by decide)) rfl) rfl rfl hl.1 rfl (lv_room (Nat.le_of_ble_eq_true rfl)) dX8_advance_32 ⟨Nat.le_of_ble_eq_true rfl, Nat.le_of_ble_eq_true rfl⟩) hS (fun H locs hP hS => ?_)
      exact xe_i hx hb hr hlocks hP hS rfl (by rw [gX8_advance, if_neg c7, if_neg c27] <;> rfl) (by rw [fX8_advance, if_neg c7, if_neg c27] <;> rfl) (Nat.le_of_ble_eq_true rfl) (Nat.le_of_ble_eq_true rfl) dX8_advance_35
  · refine lv_aload_n hx hb dX8_advance_10 rfl (lv_at hl 0 rfl) ?_
    refine lv_iconst (v := 1) hx hb dX8_advance_11 (by decide) ?_
    refine xc_i (va_runV (As := [.int (1 : Int32)]) (rest := []) ⟨hx, hb, hml, hown, hts⟩ (c_X8_refuse l D cy b n hn M (1 : Int32)) (cwV 1 hts gX8_advance_X8_refuse rfl rfl rfl (by decide +kernel) ⟨Nat.le_of_ble_eq_true rfl, Nat.le_of_ble_eq_true rfl⟩) (xPreV hP hK hX hS (by omega) (cell8 (by decide)) rfl) rfl rfl hl.1 rfl (lv_room (Nat.le_of_ble_eq_true rfl)) dX8_advance_12 ⟨Nat.le_of_ble_eq_true rfl, Nat.le_of_ble_eq_true rfl⟩) hS (fun H locs hP hS => ?_)
    exact xe_i hx hb hr hlocks hP hS rfl (by rw [gX8_advance, if_pos c7] <;> rfl) (by rw [fX8_advance, if_pos c7] <;> rfl) (Nat.le_of_ble_eq_true rfl) (Nat.le_of_ble_eq_true rfl) dX8_advance_15
def fX8_sets (M : Mem) (k : Nat) (x : Int32) : Int32 := fX8_told (mU (gX8_remembers M) 127 k x) ((gX8_remembers M) 127 k)
def gX8_sets (M : Mem) (k : Nat) (x : Int32) : Mem := gX8_told (mU (gX8_remembers M) 127 k x) ((gX8_remembers M) 127 k)
set_option maxHeartbeats 4000000 in
set_option maxRecDepth 100000 in
theorem c_X8_sets (l : Launch) (D : va_G) (cy : Nat → ClassId) (b n : Nat) (hn : 133 ≤ n) (M : Mem) (k : Nat) (x : Int32) (hk56 : k < 56) (ho : UB (M 124 6) 10) : Met l yX8_sets wsX8_sets ({ frames := 2, cells := 0, slots := 0, locals := 42 } : Room) (CP D cy b n fT M [.ref (b + 124), .int (nI (k)), .int x]) (CQi D cy b n fT (fX8_sets M k x) (gX8_sets M k x)) 0 0 (fr b) := by
  refine Met.ofW (cc := cX8_sets) (maxL := 4) (ret := (some .int)) (by decide) rfl ?_
  intro p e s m args below meth c s₁ B hml hv
  obtain ⟨rfl, hP, hK, hX⟩ := hv
  have hx := B.exec
  have hb := B.bytes
  have hr := B.returns
  have hts := atoms_spec (ws := wsX8_sets) B.pre
  have hown : s.vm.findClass RX8 = some m.cls := findClass_of_methodNamed B.named
  have hlocks := B.notSynchronized
  have lk0 := hts (.fieldLink RX8 16 "HygrometerRoomModel" "now" "[I") (by decide +kernel)
  have inc8 : ∀ w ∈ u_ws RX8 TX8 22, w ∈ wsX8_sets := by decide +kernel
  have hS : va_S (fr b) s.heap s.heap [] := va_S.rf
  have hl := lv_entry ([.ref (b + 124), .int (nI (k)), .int x]) (n := 4) (Nat.le_of_ble_eq_true rfl)
  rw [lg_entry_eq]
  generalize (lg_sl ([.ref (b + 124), .int (nI (k)), .int x]) ++ List.replicate (4 - (lg_sl ([.ref (b + 124), .int (nI (k)), .int x])).length) Slot.unset).toArray = ls at hl ⊢
  have hl : lv_has ls 4 [(0, .ref (b + 124)), (1, .int (nI (k))), (2, .int x)] := hl
  refine lv_aload_n hx hb dX8_sets_0 rfl (lv_at hl 0 rfl) ?_
  refine xc_v (va_runV (As := []) (rest := []) ⟨hx, hb, hml, hown, hts⟩ (c_X8_remembers l D cy b n hn M ho) (cwV 0 hts gX8_sets_X8_remembers rfl rfl rfl (by decide +kernel) ⟨Nat.le_of_ble_eq_true rfl, Nat.le_of_ble_eq_true rfl⟩) (xPreV hP hK hX hS (by omega) (cell8 (by decide)) rfl) rfl rfl hl.1 rfl (lv_room (Nat.le_of_ble_eq_true rfl)) dX8_sets_1 ⟨Nat.le_of_ble_eq_true rfl, Nat.le_of_ble_eq_true rfl⟩) hS (fun H locs hP hS => ?_)
  refine lv_aload_n hx hb dX8_sets_4 rfl (lv_at hl 0 rfl) ?_
  refine xg (C := RX8) (T := TX8) (N := 22) (v := .ref (b + 127)) hx hb hts inc8 hown hK hP (by omega) (cell8 (by decide)) rfl 3 (by decide) lk0 (fun _ h => h) rfl dX8_sets_5 ?_
  refine lv_iload_n hx hb dX8_sets_8 rfl (lv_at hl 1 rfl) ?_
  refine xil (j := k) hx hb hK hP (by omega) (by decide) (ixIn (a := k) rfl (by first | decide | (simp only [lenOf]; omega) | omega) (by decide)) (ixAt (a := k) rfl (by omega)) dX8_sets_9 ?_
  refine lv_istore_n (lv' := [(3, .int ((gX8_remembers M) 127 k)), (0, .ref (b + 124)), (1, .int (nI (k))), (2, .int x)]) hx hb dX8_sets_10 rfl hl (by decide) rfl (fun ls hl => ?_)
  refine lv_aload_n hx hb dX8_sets_11 rfl (lv_at hl 1 rfl) ?_
  refine xg (C := RX8) (T := TX8) (N := 22) (v := .ref (b + 127)) hx hb hts inc8 hown hK hP (by omega) (cell8 (by decide)) rfl 3 (by decide) lk0 (fun _ h => h) rfl dX8_sets_12 ?_
  refine lv_iload_n hx hb dX8_sets_15 rfl (lv_at hl 2 rfl) ?_
  refine lv_iload_n hx hb dX8_sets_16 rfl (lv_at hl 3 rfl) ?_
  refine xis (j := k) (x := x) hx hb hK hP hS (by omega) (by decide) (ixIn (a := k) rfl (by first | decide | (simp only [lenOf]; omega) | omega) (by decide)) (ixAt (a := k) rfl (by omega)) dX8_sets_17 (fun H locs hP hS => ?_)
  refine lv_aload_n hx hb dX8_sets_18 rfl (lv_at hl 1 rfl) ?_
  refine lv_iload_n hx hb dX8_sets_19 rfl (lv_at hl 0 rfl) ?_
  refine xc_i (va_runV (As := [.int ((gX8_remembers M) 127 k)]) (rest := []) ⟨hx, hb, hml, hown, hts⟩ (c_X8_told l D cy b n hn (mU (gX8_remembers M) 127 k x) ((gX8_remembers M) 127 k)) (cwV 1 hts gX8_sets_X8_told rfl rfl rfl (by decide +kernel) ⟨Nat.le_of_ble_eq_true rfl, Nat.le_of_ble_eq_true rfl⟩) (xPreV hP hK hX hS (by omega) (cell8 (by decide)) rfl) rfl rfl hl.1 rfl (lv_room (Nat.le_of_ble_eq_true rfl)) dX8_sets_20 ⟨Nat.le_of_ble_eq_true rfl, Nat.le_of_ble_eq_true rfl⟩) hS (fun H locs hP hS => ?_)
  exact xe_i hx hb hr hlocks hP hS rfl (by rw [gX8_sets] <;> rfl) (by rw [fX8_sets] <;> rfl) (Nat.le_of_ble_eq_true rfl) (Nat.le_of_ble_eq_true rfl) dX8_sets_23
def fX8_setHumidity (M : Mem) (x : Int32) : Int32 := if (fX8_in M x (0 : Int32) (100 : Int32)) = 0 then (fX8_refuse M (1 : Int32)) else (fX8_sets M 1 x)
def gX8_setHumidity (M : Mem) (x : Int32) : Mem := if (fX8_in M x (0 : Int32) (100 : Int32)) = 0 then (gX8_refuse M (1 : Int32)) else (gX8_sets M 1 x)
set_option maxHeartbeats 4000000 in
set_option maxRecDepth 100000 in
theorem c_X8_setHumidity (l : Launch) (D : va_G) (cy : Nat → ClassId) (b n : Nat) (hn : 133 ≤ n) (M : Mem) (x : Int32) (ho : UB (M 124 6) 10) : Met l yX8_setHumidity wsX8_setHumidity ({ frames := 3, cells := 0, slots := 0, locals := 65 } : Room) (CP D cy b n fT M [.ref (b + 124), .int x]) (CQi D cy b n fT (fX8_setHumidity M x) (gX8_setHumidity M x)) 0 0 (fr b) := by
  refine Met.ofW (cc := cX8_setHumidity) (maxL := 2) (ret := (some .int)) (by decide) rfl ?_
  intro p e s m args below meth c s₁ B hml hv
  obtain ⟨rfl, hP, hK, hX⟩ := hv
  have hx := B.exec
  have hb := B.bytes
  have hr := B.returns
  have hts := atoms_spec (ws := wsX8_setHumidity) B.pre
  have hown : s.vm.findClass RX8 = some m.cls := findClass_of_methodNamed B.named
  have hlocks := B.notSynchronized
  have hS : va_S (fr b) s.heap s.heap [] := va_S.rf
  have hl := lv_entry ([.ref (b + 124), .int x]) (n := 2) (Nat.le_of_ble_eq_true rfl)
  rw [lg_entry_eq]
  generalize (lg_sl ([.ref (b + 124), .int x]) ++ List.replicate (2 - (lg_sl ([.ref (b + 124), .int x])).length) Slot.unset).toArray = ls at hl ⊢
  have hl : lv_has ls 2 [(0, .ref (b + 124)), (1, .int x)] := hl
  refine lv_iload_n hx hb dX8_setHumidity_0 rfl (lv_at hl 1 rfl) ?_
  refine lv_iconst (v := 0) hx hb dX8_setHumidity_1 (by decide) ?_
  refine lv_bipush (v := 100) hx hb dX8_setHumidity_2 (by decide) ?_
  refine xc_i (va_runS (As := [.int x, .int (0 : Int32), .int (100 : Int32)]) (rest := []) ⟨hx, hb, hml, hown, hts⟩ (c_X8_in l D cy b n hn M x (0 : Int32) (100 : Int32)) (va_cwS 3 hts gX8_setHumidity_X8_in rfl rfl rfl (by decide +kernel) ⟨Nat.le_of_ble_eq_true rfl, Nat.le_of_ble_eq_true rfl⟩) (xPreS hP hK hX hS) rfl rfl hl.1 rfl (lv_room (Nat.le_of_ble_eq_true rfl)) dX8_setHumidity_4 ⟨Nat.le_of_ble_eq_true rfl, Nat.le_of_ble_eq_true rfl⟩) hS (fun H locs hP hS => ?_)
  refine lv_if_ne (tgt := 16) hx hb dX8_setHumidity_7 (by decide) (fun c7 => ?_) (fun c7 => ?_)
  · refine lv_aload_n hx hb dX8_setHumidity_16 rfl (lv_at hl 0 rfl) ?_
    refine lv_iconst (v := 1) hx hb dX8_setHumidity_17 (by decide) ?_
    refine lv_iload_n hx hb dX8_setHumidity_18 rfl (lv_at hl 1 rfl) ?_
    refine xc_i (va_runV (As := [.int (1 : Int32), .int x]) (rest := []) ⟨hx, hb, hml, hown, hts⟩ (c_X8_sets l D cy b n hn M 1 x (by decide) ho) (cwV 2 hts gX8_setHumidity_X8_sets rfl rfl rfl (by decide +kernel) ⟨Nat.le_of_ble_eq_true rfl, Nat.le_of_ble_eq_true rfl⟩) (xPreV hP hK hX hS (by omega) (cell8 (by decide)) rfl) rfl rfl hl.1 rfl (lv_room (Nat.le_of_ble_eq_true rfl)) dX8_setHumidity_19 ⟨Nat.le_of_ble_eq_true rfl, Nat.le_of_ble_eq_true rfl⟩) hS (fun H locs hP hS => ?_)
    exact xe_i hx hb hr hlocks hP hS rfl (by rw [gX8_setHumidity, if_neg c7] <;> rfl) (by rw [fX8_setHumidity, if_neg c7] <;> rfl) (Nat.le_of_ble_eq_true rfl) (Nat.le_of_ble_eq_true rfl) dX8_setHumidity_22
  · refine lv_aload_n hx hb dX8_setHumidity_10 rfl (lv_at hl 0 rfl) ?_
    refine lv_iconst (v := 1) hx hb dX8_setHumidity_11 (by decide) ?_
    refine xc_i (va_runV (As := [.int (1 : Int32)]) (rest := []) ⟨hx, hb, hml, hown, hts⟩ (c_X8_refuse l D cy b n hn M (1 : Int32)) (cwV 1 hts gX8_setHumidity_X8_refuse rfl rfl rfl (by decide +kernel) ⟨Nat.le_of_ble_eq_true rfl, Nat.le_of_ble_eq_true rfl⟩) (xPreV hP hK hX hS (by omega) (cell8 (by decide)) rfl) rfl rfl hl.1 rfl (lv_room (Nat.le_of_ble_eq_true rfl)) dX8_setHumidity_12 ⟨Nat.le_of_ble_eq_true rfl, Nat.le_of_ble_eq_true rfl⟩) hS (fun H locs hP hS => ?_)
    exact xe_i hx hb hr hlocks hP hS rfl (by rw [gX8_setHumidity, if_pos c7] <;> rfl) (by rw [fX8_setHumidity, if_pos c7] <;> rfl) (Nat.le_of_ble_eq_true rfl) (Nat.le_of_ble_eq_true rfl) dX8_setHumidity_15
def fX8_setTemperature (M : Mem) (x : Int32) : Int32 := if (fX8_in M x (0 : Int32) (40 : Int32)) = 0 then (fX8_refuse M (1 : Int32)) else (fX8_sets M 2 x)
def gX8_setTemperature (M : Mem) (x : Int32) : Mem := if (fX8_in M x (0 : Int32) (40 : Int32)) = 0 then (gX8_refuse M (1 : Int32)) else (gX8_sets M 2 x)
set_option maxHeartbeats 4000000 in
set_option maxRecDepth 100000 in
theorem c_X8_setTemperature (l : Launch) (D : va_G) (cy : Nat → ClassId) (b n : Nat) (hn : 133 ≤ n) (M : Mem) (x : Int32) (ho : UB (M 124 6) 10) : Met l yX8_setTemperature wsX8_setTemperature ({ frames := 3, cells := 0, slots := 0, locals := 65 } : Room) (CP D cy b n fT M [.ref (b + 124), .int x]) (CQi D cy b n fT (fX8_setTemperature M x) (gX8_setTemperature M x)) 0 0 (fr b) := by
  refine Met.ofW (cc := cX8_setTemperature) (maxL := 2) (ret := (some .int)) (by decide) rfl ?_
  intro p e s m args below meth c s₁ B hml hv
  obtain ⟨rfl, hP, hK, hX⟩ := hv
  have hx := B.exec
  have hb := B.bytes
  have hr := B.returns
  have hts := atoms_spec (ws := wsX8_setTemperature) B.pre
  have hown : s.vm.findClass RX8 = some m.cls := findClass_of_methodNamed B.named
  have hlocks := B.notSynchronized
  have hS : va_S (fr b) s.heap s.heap [] := va_S.rf
  have hl := lv_entry ([.ref (b + 124), .int x]) (n := 2) (Nat.le_of_ble_eq_true rfl)
  rw [lg_entry_eq]
  generalize (lg_sl ([.ref (b + 124), .int x]) ++ List.replicate (2 - (lg_sl ([.ref (b + 124), .int x])).length) Slot.unset).toArray = ls at hl ⊢
  have hl : lv_has ls 2 [(0, .ref (b + 124)), (1, .int x)] := hl
  refine lv_iload_n hx hb dX8_setTemperature_0 rfl (lv_at hl 1 rfl) ?_
  refine lv_iconst (v := 0) hx hb dX8_setTemperature_1 (by decide) ?_
  refine lv_bipush (v := 40) hx hb dX8_setTemperature_2 (by decide) ?_
  refine xc_i (va_runS (As := [.int x, .int (0 : Int32), .int (40 : Int32)]) (rest := []) ⟨hx, hb, hml, hown, hts⟩ (c_X8_in l D cy b n hn M x (0 : Int32) (40 : Int32)) (va_cwS 3 hts gX8_setTemperature_X8_in rfl rfl rfl (by decide +kernel) ⟨Nat.le_of_ble_eq_true rfl, Nat.le_of_ble_eq_true rfl⟩) (xPreS hP hK hX hS) rfl rfl hl.1 rfl (lv_room (Nat.le_of_ble_eq_true rfl)) dX8_setTemperature_4 ⟨Nat.le_of_ble_eq_true rfl, Nat.le_of_ble_eq_true rfl⟩) hS (fun H locs hP hS => ?_)
  refine lv_if_ne (tgt := 16) hx hb dX8_setTemperature_7 (by decide) (fun c7 => ?_) (fun c7 => ?_)
  · refine lv_aload_n hx hb dX8_setTemperature_16 rfl (lv_at hl 0 rfl) ?_
    refine lv_iconst (v := 2) hx hb dX8_setTemperature_17 (by decide) ?_
    refine lv_iload_n hx hb dX8_setTemperature_18 rfl (lv_at hl 1 rfl) ?_
    refine xc_i (va_runV (As := [.int (2 : Int32), .int x]) (rest := []) ⟨hx, hb, hml, hown, hts⟩ (c_X8_sets l D cy b n hn M 2 x (by decide) ho) (cwV 2 hts gX8_setTemperature_X8_sets rfl rfl rfl (by decide +kernel) ⟨Nat.le_of_ble_eq_true rfl, Nat.le_of_ble_eq_true rfl⟩) (xPreV hP hK hX hS (by omega) (cell8 (by decide)) rfl) rfl rfl hl.1 rfl (lv_room (Nat.le_of_ble_eq_true rfl)) dX8_setTemperature_19 ⟨Nat.le_of_ble_eq_true rfl, Nat.le_of_ble_eq_true rfl⟩) hS (fun H locs hP hS => ?_)
    exact xe_i hx hb hr hlocks hP hS rfl (by rw [gX8_setTemperature, if_neg c7] <;> rfl) (by rw [fX8_setTemperature, if_neg c7] <;> rfl) (Nat.le_of_ble_eq_true rfl) (Nat.le_of_ble_eq_true rfl) dX8_setTemperature_22
  · refine lv_aload_n hx hb dX8_setTemperature_10 rfl (lv_at hl 0 rfl) ?_
    refine lv_iconst (v := 1) hx hb dX8_setTemperature_11 (by decide) ?_
    refine xc_i (va_runV (As := [.int (1 : Int32)]) (rest := []) ⟨hx, hb, hml, hown, hts⟩ (c_X8_refuse l D cy b n hn M (1 : Int32)) (cwV 1 hts gX8_setTemperature_X8_refuse rfl rfl rfl (by decide +kernel) ⟨Nat.le_of_ble_eq_true rfl, Nat.le_of_ble_eq_true rfl⟩) (xPreV hP hK hX hS (by omega) (cell8 (by decide)) rfl) rfl rfl hl.1 rfl (lv_room (Nat.le_of_ble_eq_true rfl)) dX8_setTemperature_12 ⟨Nat.le_of_ble_eq_true rfl, Nat.le_of_ble_eq_true rfl⟩) hS (fun H locs hP hS => ?_)
    exact xe_i hx hb hr hlocks hP hS rfl (by rw [gX8_setTemperature, if_pos c7] <;> rfl) (by rw [fX8_setTemperature, if_pos c7] <;> rfl) (Nat.le_of_ble_eq_true rfl) (Nat.le_of_ble_eq_true rfl) dX8_setTemperature_15
def fX8_setSkill (M : Mem) (x : Int32) : Int32 := if (fX8_in M x (0 : Int32) (5 : Int32)) = 0 then (fX8_refuse M (1 : Int32)) else (fX8_sets M 3 x)
def gX8_setSkill (M : Mem) (x : Int32) : Mem := if (fX8_in M x (0 : Int32) (5 : Int32)) = 0 then (gX8_refuse M (1 : Int32)) else (gX8_sets M 3 x)
set_option maxHeartbeats 4000000 in
set_option maxRecDepth 100000 in
theorem c_X8_setSkill (l : Launch) (D : va_G) (cy : Nat → ClassId) (b n : Nat) (hn : 133 ≤ n) (M : Mem) (x : Int32) (ho : UB (M 124 6) 10) : Met l yX8_setSkill wsX8_setSkill ({ frames := 3, cells := 0, slots := 0, locals := 65 } : Room) (CP D cy b n fT M [.ref (b + 124), .int x]) (CQi D cy b n fT (fX8_setSkill M x) (gX8_setSkill M x)) 0 0 (fr b) := by
  refine Met.ofW (cc := cX8_setSkill) (maxL := 2) (ret := (some .int)) (by decide) rfl ?_
  intro p e s m args below meth c s₁ B hml hv
  obtain ⟨rfl, hP, hK, hX⟩ := hv
  have hx := B.exec
  have hb := B.bytes
  have hr := B.returns
  have hts := atoms_spec (ws := wsX8_setSkill) B.pre
  have hown : s.vm.findClass RX8 = some m.cls := findClass_of_methodNamed B.named
  have hlocks := B.notSynchronized
  have hS : va_S (fr b) s.heap s.heap [] := va_S.rf
  have hl := lv_entry ([.ref (b + 124), .int x]) (n := 2) (Nat.le_of_ble_eq_true rfl)
  rw [lg_entry_eq]
  generalize (lg_sl ([.ref (b + 124), .int x]) ++ List.replicate (2 - (lg_sl ([.ref (b + 124), .int x])).length) Slot.unset).toArray = ls at hl ⊢
  have hl : lv_has ls 2 [(0, .ref (b + 124)), (1, .int x)] := hl
  refine lv_iload_n hx hb dX8_setSkill_0 rfl (lv_at hl 1 rfl) ?_
  refine lv_iconst (v := 0) hx hb dX8_setSkill_1 (by decide) ?_
  refine lv_iconst (v := 5) hx hb dX8_setSkill_2 (by decide) ?_
  refine xc_i (va_runS (As := [.int x, .int (0 : Int32), .int (5 : Int32)]) (rest := []) ⟨hx, hb, hml, hown, hts⟩ (c_X8_in l D cy b n hn M x (0 : Int32) (5 : Int32)) (va_cwS 3 hts gX8_setSkill_X8_in rfl rfl rfl (by decide +kernel) ⟨Nat.le_of_ble_eq_true rfl, Nat.le_of_ble_eq_true rfl⟩) (xPreS hP hK hX hS) rfl rfl hl.1 rfl (lv_room (Nat.le_of_ble_eq_true rfl)) dX8_setSkill_3 ⟨Nat.le_of_ble_eq_true rfl, Nat.le_of_ble_eq_true rfl⟩) hS (fun H locs hP hS => ?_)
  refine lv_if_ne (tgt := 15) hx hb dX8_setSkill_6 (by decide) (fun c6 => ?_) (fun c6 => ?_)
  · refine lv_aload_n hx hb dX8_setSkill_15 rfl (lv_at hl 0 rfl) ?_
    refine lv_iconst (v := 3) hx hb dX8_setSkill_16 (by decide) ?_
    refine lv_iload_n hx hb dX8_setSkill_17 rfl (lv_at hl 1 rfl) ?_
    refine xc_i (va_runV (As := [.int (3 : Int32), .int x]) (rest := []) ⟨hx, hb, hml, hown, hts⟩ (c_X8_sets l D cy b n hn M 3 x (by decide) ho) (cwV 2 hts gX8_setSkill_X8_sets rfl rfl rfl (by decide +kernel) ⟨Nat.le_of_ble_eq_true rfl, Nat.le_of_ble_eq_true rfl⟩) (xPreV hP hK hX hS (by omega) (cell8 (by decide)) rfl) rfl rfl hl.1 rfl (lv_room (Nat.le_of_ble_eq_true rfl)) dX8_setSkill_18 ⟨Nat.le_of_ble_eq_true rfl, Nat.le_of_ble_eq_true rfl⟩) hS (fun H locs hP hS => ?_)
    exact xe_i hx hb hr hlocks hP hS rfl (by rw [gX8_setSkill, if_neg c6] <;> rfl) (by rw [fX8_setSkill, if_neg c6] <;> rfl) (Nat.le_of_ble_eq_true rfl) (Nat.le_of_ble_eq_true rfl) dX8_setSkill_21
  · refine lv_aload_n hx hb dX8_setSkill_9 rfl (lv_at hl 0 rfl) ?_
    refine lv_iconst (v := 1) hx hb dX8_setSkill_10 (by decide) ?_
    refine xc_i (va_runV (As := [.int (1 : Int32)]) (rest := []) ⟨hx, hb, hml, hown, hts⟩ (c_X8_refuse l D cy b n hn M (1 : Int32)) (cwV 1 hts gX8_setSkill_X8_refuse rfl rfl rfl (by decide +kernel) ⟨Nat.le_of_ble_eq_true rfl, Nat.le_of_ble_eq_true rfl⟩) (xPreV hP hK hX hS (by omega) (cell8 (by decide)) rfl) rfl rfl hl.1 rfl (lv_room (Nat.le_of_ble_eq_true rfl)) dX8_setSkill_11 ⟨Nat.le_of_ble_eq_true rfl, Nat.le_of_ble_eq_true rfl⟩) hS (fun H locs hP hS => ?_)
    exact xe_i hx hb hr hlocks hP hS rfl (by rw [gX8_setSkill, if_pos c6] <;> rfl) (by rw [fX8_setSkill, if_pos c6] <;> rfl) (Nat.le_of_ble_eq_true rfl) (Nat.le_of_ble_eq_true rfl) dX8_setSkill_14
def fX8_putInBox (M : Mem) (x : Int32) (y : Int32) : Int32 := if (fX8_is M x) = 0 then (fX8_refuse M (1 : Int32)) else (if (fX8_in M y (0 : Int32) (3 : Int32)) = 0 then (fX8_refuse M (2 : Int32)) else (if (fX8_isBoxed M x.toNatClampNeg) = 0 then (fX8_told (mU (gX8_remembers M) 127 (8 * x.toNatClampNeg + 15) y) ((mU (gX8_remembers M) 127 (8 * x.toNatClampNeg + 15) y) 125 y.toNatClampNeg)) else (fX8_refuse M (3 : Int32))))
def gX8_putInBox (M : Mem) (x : Int32) (y : Int32) : Mem := if (fX8_is M x) = 0 then (gX8_refuse M (1 : Int32)) else (if (fX8_in M y (0 : Int32) (3 : Int32)) = 0 then (gX8_refuse M (2 : Int32)) else (if (fX8_isBoxed M x.toNatClampNeg) = 0 then (gX8_told (mU (gX8_remembers M) 127 (8 * x.toNatClampNeg + 15) y) ((mU (gX8_remembers M) 127 (8 * x.toNatClampNeg + 15) y) 125 y.toNatClampNeg)) else (gX8_refuse M (3 : Int32))))
set_option maxHeartbeats 4000000 in
set_option maxRecDepth 100000 in
theorem c_X8_putInBox (l : Launch) (D : va_G) (cy : Nat → ClassId) (b n : Nat) (hn : 133 ≤ n) (M : Mem) (x : Int32) (y : Int32) (hmy : MNY M) (hbx : BXS M) (ho : UB (M 124 6) 10) : Met l yX8_putInBox wsX8_putInBox ({ frames := 2, cells := 0, slots := 0, locals := 43 } : Room) (CP D cy b n fT M [.ref (b + 124), .int x, .int y]) (CQi D cy b n fT (fX8_putInBox M x y) (gX8_putInBox M x y)) 0 0 (fr b) := by
  refine Met.ofW (cc := cX8_putInBox) (maxL := 3) (ret := (some .int)) (by decide) rfl ?_
  intro p e s m args below meth c s₁ B hml hv
  obtain ⟨rfl, hP, hK, hX⟩ := hv
  have hx := B.exec
  have hb := B.bytes
  have hr := B.returns
  have hts := atoms_spec (ws := wsX8_putInBox) B.pre
  have hown : s.vm.findClass RX8 = some m.cls := findClass_of_methodNamed B.named
  have hlocks := B.notSynchronized
  have lk0 := hts (.fieldLink RX8 16 "HygrometerRoomModel" "now" "[I") (by decide +kernel)
  have lk1 := hts (.fieldLink RX8 7 "HygrometerRoomModel" "points" "[I") (by decide +kernel)
  have inc8 : ∀ w ∈ u_ws RX8 TX8 22, w ∈ wsX8_putInBox := by decide +kernel
  have hS : va_S (fr b) s.heap s.heap [] := va_S.rf
  have hl := lv_entry ([.ref (b + 124), .int x, .int y]) (n := 3) (Nat.le_of_ble_eq_true rfl)
  rw [lg_entry_eq]
  generalize (lg_sl ([.ref (b + 124), .int x, .int y]) ++ List.replicate (3 - (lg_sl ([.ref (b + 124), .int x, .int y])).length) Slot.unset).toArray = ls at hl ⊢
  have hl : lv_has ls 3 [(0, .ref (b + 124)), (1, .int x), (2, .int y)] := hl
  refine lv_aload_n hx hb dX8_putInBox_0 rfl (lv_at hl 0 rfl) ?_
  refine lv_iload_n hx hb dX8_putInBox_1 rfl (lv_at hl 1 rfl) ?_
  refine xc_i (va_runV (As := [.int x]) (rest := []) ⟨hx, hb, hml, hown, hts⟩ (c_X8_is l D cy b n hn M x) (cwV 1 hts gX8_putInBox_X8_is rfl rfl rfl (by decide +kernel) ⟨Nat.le_of_ble_eq_true rfl, Nat.le_of_ble_eq_true rfl⟩) (xPreV hP hK hX hS (by omega) (cell8 (by decide)) rfl) rfl rfl hl.1 rfl (lv_room (Nat.le_of_ble_eq_true rfl)) dX8_putInBox_2 ⟨Nat.le_of_ble_eq_true rfl, Nat.le_of_ble_eq_true rfl⟩) hS (fun H locs hP hS => ?_)
  refine lv_if_ne (tgt := 14) hx hb dX8_putInBox_5 (by decide) (fun c5 => ?_) (fun c5 => ?_)
  · refine lv_iload_n hx hb dX8_putInBox_14 rfl (lv_at hl 2 rfl) ?_
    refine lv_iconst (v := 0) hx hb dX8_putInBox_15 (by decide) ?_
    refine lv_iconst (v := 3) hx hb dX8_putInBox_16 (by decide) ?_
    refine xc_i (va_runS (As := [.int y, .int (0 : Int32), .int (3 : Int32)]) (rest := []) ⟨hx, hb, hml, hown, hts⟩ (c_X8_in l D cy b n hn M y (0 : Int32) (3 : Int32)) (va_cwS 3 hts gX8_putInBox_X8_in rfl rfl rfl (by decide +kernel) ⟨Nat.le_of_ble_eq_true rfl, Nat.le_of_ble_eq_true rfl⟩) (xPreS hP hK hX hS) rfl rfl hl.1 rfl (lv_room (Nat.le_of_ble_eq_true rfl)) dX8_putInBox_17 ⟨Nat.le_of_ble_eq_true rfl, Nat.le_of_ble_eq_true rfl⟩) hS (fun H locs hP hS => ?_)
    refine lv_if_ne (tgt := 29) hx hb dX8_putInBox_20 (by decide) (fun c20 => ?_) (fun c20 => ?_)
    · refine lv_aload_n hx hb dX8_putInBox_29 rfl (lv_at hl 0 rfl) ?_
      refine lv_iload_n hx hb dX8_putInBox_30 rfl (lv_at hl 1 rfl) ?_
      refine W.eq (g2 := F0 m 31 ls (.int (nI (x.toNatClampNeg)) :: .ref (b + 124) :: [])) (congrArg (fun z => F0 m 31 ls (.int z :: .ref (b + 124) :: [])) (nat_of (is_iv hmy c5).1)) ?_
      refine xc_i (va_runV (As := [.int (nI (x.toNatClampNeg))]) (rest := []) ⟨hx, hb, hml, hown, hts⟩ (c_X8_isBoxed l D cy b n hn M x.toNatClampNeg (is_iv hmy c5).2) (cwV 1 hts gX8_putInBox_X8_isBoxed rfl rfl rfl (by decide +kernel) ⟨Nat.le_of_ble_eq_true rfl, Nat.le_of_ble_eq_true rfl⟩) (xPreV hP hK hX hS (by omega) (cell8 (by decide)) rfl) rfl rfl hl.1 rfl (lv_room (Nat.le_of_ble_eq_true rfl)) dX8_putInBox_31 ⟨Nat.le_of_ble_eq_true rfl, Nat.le_of_ble_eq_true rfl⟩) hS (fun H locs hP hS => ?_)
      refine lv_if_eq (tgt := 43) hx hb dX8_putInBox_34 (by decide) (fun c34 => ?_) (fun c34 => ?_)
      · refine lv_aload_n hx hb dX8_putInBox_43 rfl (lv_at hl 0 rfl) ?_
        refine xc_v (va_runV (As := []) (rest := []) ⟨hx, hb, hml, hown, hts⟩ (c_X8_remembers l D cy b n hn M ho) (cwV 0 hts gX8_putInBox_X8_remembers rfl rfl rfl (by decide +kernel) ⟨Nat.le_of_ble_eq_true rfl, Nat.le_of_ble_eq_true rfl⟩) (xPreV hP hK hX hS (by omega) (cell8 (by decide)) rfl) rfl rfl hl.1 rfl (lv_room (Nat.le_of_ble_eq_true rfl)) dX8_putInBox_44 ⟨Nat.le_of_ble_eq_true rfl, Nat.le_of_ble_eq_true rfl⟩) hS (fun H locs hP hS => ?_)
        refine lv_aload_n hx hb dX8_putInBox_47 rfl (lv_at hl 0 rfl) ?_
        refine xg (C := RX8) (T := TX8) (N := 22) (v := .ref (b + 127)) hx hb hts inc8 hown hK hP (by omega) (cell8 (by decide)) rfl 3 (by decide) lk0 (fun _ h => h) rfl dX8_putInBox_48 ?_
        refine lv_iload_n hx hb dX8_putInBox_51 rfl (lv_at hl 1 rfl) ?_
        have hk6 := (is_iv hmy c5).2
        refine W.eq (g2 := F0 m 52 ls (.int (nI (x.toNatClampNeg)) :: .ref (b + 127) :: [])) (congrArg (fun z => F0 m 52 ls (.int z :: .ref (b + 127) :: [])) (nat_of (is_iv hmy c5).1)) ?_
        refine xc_i (va_runS (As := [.int (nI (x.toNatClampNeg))]) (rest := [.ref (b + 127)]) ⟨hx, hb, hml, hown, hts⟩ (c_X8_i l D cy b n hn (gX8_remembers M) x.toNatClampNeg) (va_cwS 1 hts gX8_putInBox_X8_i rfl rfl rfl (by decide +kernel) ⟨Nat.le_of_ble_eq_true rfl, Nat.le_of_ble_eq_true rfl⟩) (xPreS hP hK hX hS) rfl rfl hl.1 rfl (lv_room (Nat.le_of_ble_eq_true rfl)) dX8_putInBox_52 ⟨Nat.le_of_ble_eq_true rfl, Nat.le_of_ble_eq_true rfl⟩) hS (fun H locs hP hS => ?_)
        refine W.eq (g2 := F0 m 55 ls (.int (nI (8 * x.toNatClampNeg + 8)) :: .ref (b + 127) :: [])) (congrArg (fun z => F0 m 55 ls (.int z :: .ref (b + 127) :: [])) (show fX8_i (gX8_remembers M) x.toNatClampNeg = nI (8 * x.toNatClampNeg + 8) from by unfold fX8_i; exact congrArg nI (by omega))) ?_
        refine lv_bipush (v := 7) hx hb dX8_putInBox_55 (by decide) ?_
        refine xadd (z := nI (8 * x.toNatClampNeg + 15)) hx hb (ixAdd (a := 8 * x.toNatClampNeg + 8) (c := 7) (d := 8 * x.toNatClampNeg + 15) rfl rfl (by omega)) dX8_putInBox_57 ?_
        refine lv_iload_n hx hb dX8_putInBox_58 rfl (lv_at hl 2 rfl) ?_
        refine xis (j := 8 * x.toNatClampNeg + 15) (x := y) hx hb hK hP hS (by omega) (by decide) (ixIn (a := 8 * x.toNatClampNeg + 15) rfl (by first | decide | (simp only [lenOf]; omega) | omega) (by decide)) (ixAt (a := 8 * x.toNatClampNeg + 15) rfl (by omega)) dX8_putInBox_59 (fun H locs hP hS => ?_)
        refine lv_aload_n hx hb dX8_putInBox_60 rfl (lv_at hl 0 rfl) ?_
        refine lv_aload_n hx hb dX8_putInBox_61 rfl (lv_at hl 0 rfl) ?_
        refine xg (C := RX8) (T := TX8) (N := 22) (v := .ref (b + 125)) hx hb hts inc8 hown hK hP (by omega) (cell8 (by decide)) rfl 0 (by decide) lk1 (fun _ h => h) rfl dX8_putInBox_62 ?_
        refine lv_iload_n hx hb dX8_putInBox_65 rfl (lv_at hl 2 rfl) ?_
        refine xil (j := y.toNatClampNeg) hx hb hK hP (by omega) (by decide) (ub_in (in_3 c20) (by decide)) rfl dX8_putInBox_66 ?_
        refine xc_i (va_runV (As := [.int ((mU (gX8_remembers M) 127 (8 * x.toNatClampNeg + 15) y) 125 y.toNatClampNeg)]) (rest := []) ⟨hx, hb, hml, hown, hts⟩ (c_X8_told l D cy b n hn (mU (gX8_remembers M) 127 (8 * x.toNatClampNeg + 15) y) ((mU (gX8_remembers M) 127 (8 * x.toNatClampNeg + 15) y) 125 y.toNatClampNeg)) (cwV 1 hts gX8_putInBox_X8_told rfl rfl rfl (by decide +kernel) ⟨Nat.le_of_ble_eq_true rfl, Nat.le_of_ble_eq_true rfl⟩) (xPreV hP hK hX hS (by omega) (cell8 (by decide)) rfl) rfl rfl hl.1 rfl (lv_room (Nat.le_of_ble_eq_true rfl)) dX8_putInBox_67 ⟨Nat.le_of_ble_eq_true rfl, Nat.le_of_ble_eq_true rfl⟩) hS (fun H locs hP hS => ?_)
        exact xe_i hx hb hr hlocks hP hS rfl (by rw [gX8_putInBox, if_neg c5, if_neg c20, if_pos c34] <;> rfl) (by rw [fX8_putInBox, if_neg c5, if_neg c20, if_pos c34] <;> rfl) (Nat.le_of_ble_eq_true rfl) (Nat.le_of_ble_eq_true rfl) dX8_putInBox_70
      · refine lv_aload_n hx hb dX8_putInBox_37 rfl (lv_at hl 0 rfl) ?_
        refine lv_iconst (v := 3) hx hb dX8_putInBox_38 (by decide) ?_
        refine xc_i (va_runV (As := [.int (3 : Int32)]) (rest := []) ⟨hx, hb, hml, hown, hts⟩ (c_X8_refuse l D cy b n hn M (3 : Int32)) (cwV 1 hts gX8_putInBox_X8_refuse rfl rfl rfl (by decide +kernel) ⟨Nat.le_of_ble_eq_true rfl, Nat.le_of_ble_eq_true rfl⟩) (xPreV hP hK hX hS (by omega) (cell8 (by decide)) rfl) rfl rfl hl.1 rfl (lv_room (Nat.le_of_ble_eq_true rfl)) dX8_putInBox_39 ⟨Nat.le_of_ble_eq_true rfl, Nat.le_of_ble_eq_true rfl⟩) hS (fun H locs hP hS => ?_)
        exact xe_i hx hb hr hlocks hP hS rfl (by rw [gX8_putInBox, if_neg c5, if_neg c20, if_neg c34] <;> rfl) (by rw [fX8_putInBox, if_neg c5, if_neg c20, if_neg c34] <;> rfl) (Nat.le_of_ble_eq_true rfl) (Nat.le_of_ble_eq_true rfl) dX8_putInBox_42
    · refine lv_aload_n hx hb dX8_putInBox_23 rfl (lv_at hl 0 rfl) ?_
      refine lv_iconst (v := 2) hx hb dX8_putInBox_24 (by decide) ?_
      refine xc_i (va_runV (As := [.int (2 : Int32)]) (rest := []) ⟨hx, hb, hml, hown, hts⟩ (c_X8_refuse l D cy b n hn M (2 : Int32)) (cwV 1 hts gX8_putInBox_X8_refuse rfl rfl rfl (by decide +kernel) ⟨Nat.le_of_ble_eq_true rfl, Nat.le_of_ble_eq_true rfl⟩) (xPreV hP hK hX hS (by omega) (cell8 (by decide)) rfl) rfl rfl hl.1 rfl (lv_room (Nat.le_of_ble_eq_true rfl)) dX8_putInBox_25 ⟨Nat.le_of_ble_eq_true rfl, Nat.le_of_ble_eq_true rfl⟩) hS (fun H locs hP hS => ?_)
      exact xe_i hx hb hr hlocks hP hS rfl (by rw [gX8_putInBox, if_neg c5, if_pos c20] <;> rfl) (by rw [fX8_putInBox, if_neg c5, if_pos c20] <;> rfl) (Nat.le_of_ble_eq_true rfl) (Nat.le_of_ble_eq_true rfl) dX8_putInBox_28
  · refine lv_aload_n hx hb dX8_putInBox_8 rfl (lv_at hl 0 rfl) ?_
    refine lv_iconst (v := 1) hx hb dX8_putInBox_9 (by decide) ?_
    refine xc_i (va_runV (As := [.int (1 : Int32)]) (rest := []) ⟨hx, hb, hml, hown, hts⟩ (c_X8_refuse l D cy b n hn M (1 : Int32)) (cwV 1 hts gX8_putInBox_X8_refuse rfl rfl rfl (by decide +kernel) ⟨Nat.le_of_ble_eq_true rfl, Nat.le_of_ble_eq_true rfl⟩) (xPreV hP hK hX hS (by omega) (cell8 (by decide)) rfl) rfl rfl hl.1 rfl (lv_room (Nat.le_of_ble_eq_true rfl)) dX8_putInBox_10 ⟨Nat.le_of_ble_eq_true rfl, Nat.le_of_ble_eq_true rfl⟩) hS (fun H locs hP hS => ?_)
    exact xe_i hx hb hr hlocks hP hS rfl (by rw [gX8_putInBox, if_pos c5] <;> rfl) (by rw [fX8_putInBox, if_pos c5] <;> rfl) (Nat.le_of_ble_eq_true rfl) (Nat.le_of_ble_eq_true rfl) dX8_putInBox_13
def fX8_takeOut (M : Mem) (x : Int32) : Int32 := if (fX8_is M x) = 0 then (fX8_refuse M (1 : Int32)) else (if (fX8_isBoxed M x.toNatClampNeg) = 0 then (fX8_refuse M (2 : Int32)) else (fX8_sets M (8 * x.toNatClampNeg + 15) ((-1) : Int32)))
def gX8_takeOut (M : Mem) (x : Int32) : Mem := if (fX8_is M x) = 0 then (gX8_refuse M (1 : Int32)) else (if (fX8_isBoxed M x.toNatClampNeg) = 0 then (gX8_refuse M (2 : Int32)) else (gX8_sets M (8 * x.toNatClampNeg + 15) ((-1) : Int32)))
set_option maxHeartbeats 4000000 in
set_option maxRecDepth 100000 in
theorem c_X8_takeOut (l : Launch) (D : va_G) (cy : Nat → ClassId) (b n : Nat) (hn : 133 ≤ n) (M : Mem) (x : Int32) (hmy : MNY M) (ho : UB (M 124 6) 10) : Met l yX8_takeOut wsX8_takeOut ({ frames := 3, cells := 0, slots := 0, locals := 65 } : Room) (CP D cy b n fT M [.ref (b + 124), .int x]) (CQi D cy b n fT (fX8_takeOut M x) (gX8_takeOut M x)) 0 0 (fr b) := by
  refine Met.ofW (cc := cX8_takeOut) (maxL := 2) (ret := (some .int)) (by decide) rfl ?_
  intro p e s m args below meth c s₁ B hml hv
  obtain ⟨rfl, hP, hK, hX⟩ := hv
  have hx := B.exec
  have hb := B.bytes
  have hr := B.returns
  have hts := atoms_spec (ws := wsX8_takeOut) B.pre
  have hown : s.vm.findClass RX8 = some m.cls := findClass_of_methodNamed B.named
  have hlocks := B.notSynchronized
  have hS : va_S (fr b) s.heap s.heap [] := va_S.rf
  have hl := lv_entry ([.ref (b + 124), .int x]) (n := 2) (Nat.le_of_ble_eq_true rfl)
  rw [lg_entry_eq]
  generalize (lg_sl ([.ref (b + 124), .int x]) ++ List.replicate (2 - (lg_sl ([.ref (b + 124), .int x])).length) Slot.unset).toArray = ls at hl ⊢
  have hl : lv_has ls 2 [(0, .ref (b + 124)), (1, .int x)] := hl
  refine lv_aload_n hx hb dX8_takeOut_0 rfl (lv_at hl 0 rfl) ?_
  refine lv_iload_n hx hb dX8_takeOut_1 rfl (lv_at hl 1 rfl) ?_
  refine xc_i (va_runV (As := [.int x]) (rest := []) ⟨hx, hb, hml, hown, hts⟩ (c_X8_is l D cy b n hn M x) (cwV 1 hts gX8_takeOut_X8_is rfl rfl rfl (by decide +kernel) ⟨Nat.le_of_ble_eq_true rfl, Nat.le_of_ble_eq_true rfl⟩) (xPreV hP hK hX hS (by omega) (cell8 (by decide)) rfl) rfl rfl hl.1 rfl (lv_room (Nat.le_of_ble_eq_true rfl)) dX8_takeOut_2 ⟨Nat.le_of_ble_eq_true rfl, Nat.le_of_ble_eq_true rfl⟩) hS (fun H locs hP hS => ?_)
  refine lv_if_ne (tgt := 14) hx hb dX8_takeOut_5 (by decide) (fun c5 => ?_) (fun c5 => ?_)
  · refine lv_aload_n hx hb dX8_takeOut_14 rfl (lv_at hl 0 rfl) ?_
    refine lv_iload_n hx hb dX8_takeOut_15 rfl (lv_at hl 1 rfl) ?_
    refine W.eq (g2 := F0 m 16 ls (.int (nI (x.toNatClampNeg)) :: .ref (b + 124) :: [])) (congrArg (fun z => F0 m 16 ls (.int z :: .ref (b + 124) :: [])) (nat_of (is_iv hmy c5).1)) ?_
    refine xc_i (va_runV (As := [.int (nI (x.toNatClampNeg))]) (rest := []) ⟨hx, hb, hml, hown, hts⟩ (c_X8_isBoxed l D cy b n hn M x.toNatClampNeg (is_iv hmy c5).2) (cwV 1 hts gX8_takeOut_X8_isBoxed rfl rfl rfl (by decide +kernel) ⟨Nat.le_of_ble_eq_true rfl, Nat.le_of_ble_eq_true rfl⟩) (xPreV hP hK hX hS (by omega) (cell8 (by decide)) rfl) rfl rfl hl.1 rfl (lv_room (Nat.le_of_ble_eq_true rfl)) dX8_takeOut_16 ⟨Nat.le_of_ble_eq_true rfl, Nat.le_of_ble_eq_true rfl⟩) hS (fun H locs hP hS => ?_)
    refine lv_if_ne (tgt := 28) hx hb dX8_takeOut_19 (by decide) (fun c19 => ?_) (fun c19 => ?_)
    · refine lv_aload_n hx hb dX8_takeOut_28 rfl (lv_at hl 0 rfl) ?_
      refine lv_iload_n hx hb dX8_takeOut_29 rfl (lv_at hl 1 rfl) ?_
      have hk6 := (is_iv hmy c5).2
      refine W.eq (g2 := F0 m 30 ls (.int (nI (x.toNatClampNeg)) :: .ref (b + 124) :: [])) (congrArg (fun z => F0 m 30 ls (.int z :: .ref (b + 124) :: [])) (nat_of (is_iv hmy c5).1)) ?_
      refine xc_i (va_runS (As := [.int (nI (x.toNatClampNeg))]) (rest := [.ref (b + 124)]) ⟨hx, hb, hml, hown, hts⟩ (c_X8_i l D cy b n hn M x.toNatClampNeg) (va_cwS 1 hts gX8_takeOut_X8_i rfl rfl rfl (by decide +kernel) ⟨Nat.le_of_ble_eq_true rfl, Nat.le_of_ble_eq_true rfl⟩) (xPreS hP hK hX hS) rfl rfl hl.1 rfl (lv_room (Nat.le_of_ble_eq_true rfl)) dX8_takeOut_30 ⟨Nat.le_of_ble_eq_true rfl, Nat.le_of_ble_eq_true rfl⟩) hS (fun H locs hP hS => ?_)
      refine W.eq (g2 := F0 m 33 ls (.int (nI (8 * x.toNatClampNeg + 8)) :: .ref (b + 124) :: [])) (congrArg (fun z => F0 m 33 ls (.int z :: .ref (b + 124) :: [])) (show fX8_i M x.toNatClampNeg = nI (8 * x.toNatClampNeg + 8) from by unfold fX8_i; exact congrArg nI (by omega))) ?_
      refine lv_bipush (v := 7) hx hb dX8_takeOut_33 (by decide) ?_
      refine xadd (z := nI (8 * x.toNatClampNeg + 15)) hx hb (ixAdd (a := 8 * x.toNatClampNeg + 8) (c := 7) (d := 8 * x.toNatClampNeg + 15) rfl rfl (by omega)) dX8_takeOut_35 ?_
      refine lv_iconst (v := (-1)) hx hb dX8_takeOut_36 (by decide) ?_
      refine xc_i (va_runV (As := [.int (nI (8 * x.toNatClampNeg + 15)), .int ((-1) : Int32)]) (rest := []) ⟨hx, hb, hml, hown, hts⟩ (c_X8_sets l D cy b n hn M (8 * x.toNatClampNeg + 15) ((-1) : Int32) (by omega) ho) (cwV 2 hts gX8_takeOut_X8_sets rfl rfl rfl (by decide +kernel) ⟨Nat.le_of_ble_eq_true rfl, Nat.le_of_ble_eq_true rfl⟩) (xPreV hP hK hX hS (by omega) (cell8 (by decide)) rfl) rfl rfl hl.1 rfl (lv_room (Nat.le_of_ble_eq_true rfl)) dX8_takeOut_37 ⟨Nat.le_of_ble_eq_true rfl, Nat.le_of_ble_eq_true rfl⟩) hS (fun H locs hP hS => ?_)
      exact xe_i hx hb hr hlocks hP hS rfl (by rw [gX8_takeOut, if_neg c5, if_neg c19] <;> rfl) (by rw [fX8_takeOut, if_neg c5, if_neg c19] <;> rfl) (Nat.le_of_ble_eq_true rfl) (Nat.le_of_ble_eq_true rfl) dX8_takeOut_40
    · refine lv_aload_n hx hb dX8_takeOut_22 rfl (lv_at hl 0 rfl) ?_
      refine lv_iconst (v := 2) hx hb dX8_takeOut_23 (by decide) ?_
      refine xc_i (va_runV (As := [.int (2 : Int32)]) (rest := []) ⟨hx, hb, hml, hown, hts⟩ (c_X8_refuse l D cy b n hn M (2 : Int32)) (cwV 1 hts gX8_takeOut_X8_refuse rfl rfl rfl (by decide +kernel) ⟨Nat.le_of_ble_eq_true rfl, Nat.le_of_ble_eq_true rfl⟩) (xPreV hP hK hX hS (by omega) (cell8 (by decide)) rfl) rfl rfl hl.1 rfl (lv_room (Nat.le_of_ble_eq_true rfl)) dX8_takeOut_24 ⟨Nat.le_of_ble_eq_true rfl, Nat.le_of_ble_eq_true rfl⟩) hS (fun H locs hP hS => ?_)
      exact xe_i hx hb hr hlocks hP hS rfl (by rw [gX8_takeOut, if_neg c5, if_pos c19] <;> rfl) (by rw [fX8_takeOut, if_neg c5, if_pos c19] <;> rfl) (Nat.le_of_ble_eq_true rfl) (Nat.le_of_ble_eq_true rfl) dX8_takeOut_27
  · refine lv_aload_n hx hb dX8_takeOut_8 rfl (lv_at hl 0 rfl) ?_
    refine lv_iconst (v := 1) hx hb dX8_takeOut_9 (by decide) ?_
    refine xc_i (va_runV (As := [.int (1 : Int32)]) (rest := []) ⟨hx, hb, hml, hown, hts⟩ (c_X8_refuse l D cy b n hn M (1 : Int32)) (cwV 1 hts gX8_takeOut_X8_refuse rfl rfl rfl (by decide +kernel) ⟨Nat.le_of_ble_eq_true rfl, Nat.le_of_ble_eq_true rfl⟩) (xPreV hP hK hX hS (by omega) (cell8 (by decide)) rfl) rfl rfl hl.1 rfl (lv_room (Nat.le_of_ble_eq_true rfl)) dX8_takeOut_10 ⟨Nat.le_of_ble_eq_true rfl, Nat.le_of_ble_eq_true rfl⟩) hS (fun H locs hP hS => ?_)
    exact xe_i hx hb hr hlocks hP hS rfl (by rw [gX8_takeOut, if_pos c5] <;> rfl) (by rw [fX8_takeOut, if_pos c5] <;> rfl) (Nat.le_of_ble_eq_true rfl) (Nat.le_of_ble_eq_true rfl) dX8_takeOut_13
def fX8_calibrate (M : Mem) (x : Int32) : Int32 := if (fX8_is M x) = 0 then (fX8_refuse M (1 : Int32)) else (if (fX8_hindrance M x.toNatClampNeg) = 0 then (fX8_sets M (8 * x.toNatClampNeg + 14) ((fX8_around M x.toNatClampNeg) - (fX8_raw M x.toNatClampNeg))) else (fX8_refuse M (2 : Int32)))
def gX8_calibrate (M : Mem) (x : Int32) : Mem := if (fX8_is M x) = 0 then (gX8_refuse M (1 : Int32)) else (if (fX8_hindrance M x.toNatClampNeg) = 0 then (gX8_sets M (8 * x.toNatClampNeg + 14) ((fX8_around M x.toNatClampNeg) - (fX8_raw M x.toNatClampNeg))) else (gX8_refuse M (2 : Int32)))
set_option maxHeartbeats 4000000 in
set_option maxRecDepth 100000 in
theorem c_X8_calibrate (l : Launch) (D : va_G) (cy : Nat → ClassId) (b n : Nat) (hn : 133 ≤ n) (M : Mem) (x : Int32) (hmy : MNY M) (hbx : BXS M) (htp : TMP M) (ho : UB (M 124 6) 10) : Met l yX8_calibrate wsX8_calibrate ({ frames := 6, cells := 0, slots := 0, locals := 125 } : Room) (CP D cy b n fT M [.ref (b + 124), .int x]) (CQi D cy b n fT (fX8_calibrate M x) (gX8_calibrate M x)) 0 0 (fr b) := by
  refine Met.ofW (cc := cX8_calibrate) (maxL := 2) (ret := (some .int)) (by decide) rfl ?_
  intro p e s m args below meth c s₁ B hml hv
  obtain ⟨rfl, hP, hK, hX⟩ := hv
  have hx := B.exec
  have hb := B.bytes
  have hr := B.returns
  have hts := atoms_spec (ws := wsX8_calibrate) B.pre
  have hown : s.vm.findClass RX8 = some m.cls := findClass_of_methodNamed B.named
  have hlocks := B.notSynchronized
  have hS : va_S (fr b) s.heap s.heap [] := va_S.rf
  have hl := lv_entry ([.ref (b + 124), .int x]) (n := 2) (Nat.le_of_ble_eq_true rfl)
  rw [lg_entry_eq]
  generalize (lg_sl ([.ref (b + 124), .int x]) ++ List.replicate (2 - (lg_sl ([.ref (b + 124), .int x])).length) Slot.unset).toArray = ls at hl ⊢
  have hl : lv_has ls 2 [(0, .ref (b + 124)), (1, .int x)] := hl
  refine lv_aload_n hx hb dX8_calibrate_0 rfl (lv_at hl 0 rfl) ?_
  refine lv_iload_n hx hb dX8_calibrate_1 rfl (lv_at hl 1 rfl) ?_
  refine xc_i (va_runV (As := [.int x]) (rest := []) ⟨hx, hb, hml, hown, hts⟩ (c_X8_is l D cy b n hn M x) (cwV 1 hts gX8_calibrate_X8_is rfl rfl rfl (by decide +kernel) ⟨Nat.le_of_ble_eq_true rfl, Nat.le_of_ble_eq_true rfl⟩) (xPreV hP hK hX hS (by omega) (cell8 (by decide)) rfl) rfl rfl hl.1 rfl (lv_room (Nat.le_of_ble_eq_true rfl)) dX8_calibrate_2 ⟨Nat.le_of_ble_eq_true rfl, Nat.le_of_ble_eq_true rfl⟩) hS (fun H locs hP hS => ?_)
  refine lv_if_ne (tgt := 14) hx hb dX8_calibrate_5 (by decide) (fun c5 => ?_) (fun c5 => ?_)
  · refine lv_aload_n hx hb dX8_calibrate_14 rfl (lv_at hl 0 rfl) ?_
    refine lv_iload_n hx hb dX8_calibrate_15 rfl (lv_at hl 1 rfl) ?_
    refine W.eq (g2 := F0 m 16 ls (.int (nI (x.toNatClampNeg)) :: .ref (b + 124) :: [])) (congrArg (fun z => F0 m 16 ls (.int z :: .ref (b + 124) :: [])) (nat_of (is_iv hmy c5).1)) ?_
    refine xc_i (va_runV (As := [.int (nI (x.toNatClampNeg))]) (rest := []) ⟨hx, hb, hml, hown, hts⟩ (c_X8_hindrance l D cy b n hn M x.toNatClampNeg (is_iv hmy c5).2 hbx) (cwV 1 hts gX8_calibrate_X8_hindrance rfl rfl rfl (by decide +kernel) ⟨Nat.le_of_ble_eq_true rfl, Nat.le_of_ble_eq_true rfl⟩) (xPreV hP hK hX hS (by omega) (cell8 (by decide)) rfl) rfl rfl hl.1 rfl (lv_room (Nat.le_of_ble_eq_true rfl)) dX8_calibrate_16 ⟨Nat.le_of_ble_eq_true rfl, Nat.le_of_ble_eq_true rfl⟩) hS (fun H locs hP hS => ?_)
    refine lv_if_eq (tgt := 28) hx hb dX8_calibrate_19 (by decide) (fun c19 => ?_) (fun c19 => ?_)
    · refine lv_aload_n hx hb dX8_calibrate_28 rfl (lv_at hl 0 rfl) ?_
      refine lv_iload_n hx hb dX8_calibrate_29 rfl (lv_at hl 1 rfl) ?_
      have hk6 := (is_iv hmy c5).2
      refine W.eq (g2 := F0 m 30 ls (.int (nI (x.toNatClampNeg)) :: .ref (b + 124) :: [])) (congrArg (fun z => F0 m 30 ls (.int z :: .ref (b + 124) :: [])) (nat_of (is_iv hmy c5).1)) ?_
      refine xc_i (va_runS (As := [.int (nI (x.toNatClampNeg))]) (rest := [.ref (b + 124)]) ⟨hx, hb, hml, hown, hts⟩ (c_X8_i l D cy b n hn M x.toNatClampNeg) (va_cwS 1 hts gX8_calibrate_X8_i rfl rfl rfl (by decide +kernel) ⟨Nat.le_of_ble_eq_true rfl, Nat.le_of_ble_eq_true rfl⟩) (xPreS hP hK hX hS) rfl rfl hl.1 rfl (lv_room (Nat.le_of_ble_eq_true rfl)) dX8_calibrate_30 ⟨Nat.le_of_ble_eq_true rfl, Nat.le_of_ble_eq_true rfl⟩) hS (fun H locs hP hS => ?_)
      refine W.eq (g2 := F0 m 33 ls (.int (nI (8 * x.toNatClampNeg + 8)) :: .ref (b + 124) :: [])) (congrArg (fun z => F0 m 33 ls (.int z :: .ref (b + 124) :: [])) (show fX8_i M x.toNatClampNeg = nI (8 * x.toNatClampNeg + 8) from by unfold fX8_i; exact congrArg nI (by omega))) ?_
      refine lv_bipush (v := 6) hx hb dX8_calibrate_33 (by decide) ?_
      refine xadd (z := nI (8 * x.toNatClampNeg + 14)) hx hb (ixAdd (a := 8 * x.toNatClampNeg + 8) (c := 6) (d := 8 * x.toNatClampNeg + 14) rfl rfl (by omega)) dX8_calibrate_35 ?_
      refine lv_aload_n hx hb dX8_calibrate_36 rfl (lv_at hl 0 rfl) ?_
      refine lv_iload_n hx hb dX8_calibrate_37 rfl (lv_at hl 1 rfl) ?_
      refine W.eq (g2 := F0 m 38 ls (.int (nI (x.toNatClampNeg)) :: .ref (b + 124) :: .int (nI (8 * x.toNatClampNeg + 14)) :: .ref (b + 124) :: [])) (congrArg (fun z => F0 m 38 ls (.int z :: .ref (b + 124) :: .int (nI (8 * x.toNatClampNeg + 14)) :: .ref (b + 124) :: [])) (nat_of (is_iv hmy c5).1)) ?_
      refine xc_i (va_runV (As := [.int (nI (x.toNatClampNeg))]) (rest := [.int (nI (8 * x.toNatClampNeg + 14)), .ref (b + 124)]) ⟨hx, hb, hml, hown, hts⟩ (c_X8_around l D cy b n hn M x.toNatClampNeg (is_iv hmy c5).2 hbx) (cwV 1 hts gX8_calibrate_X8_around rfl rfl rfl (by decide +kernel) ⟨Nat.le_of_ble_eq_true rfl, Nat.le_of_ble_eq_true rfl⟩) (xPreV hP hK hX hS (by omega) (cell8 (by decide)) rfl) rfl rfl hl.1 rfl (lv_room (Nat.le_of_ble_eq_true rfl)) dX8_calibrate_38 ⟨Nat.le_of_ble_eq_true rfl, Nat.le_of_ble_eq_true rfl⟩) hS (fun H locs hP hS => ?_)
      refine lv_aload_n hx hb dX8_calibrate_41 rfl (lv_at hl 0 rfl) ?_
      refine lv_iload_n hx hb dX8_calibrate_42 rfl (lv_at hl 1 rfl) ?_
      refine W.eq (g2 := F0 m 43 ls (.int (nI (x.toNatClampNeg)) :: .ref (b + 124) :: .int (fX8_around M x.toNatClampNeg) :: .int (nI (8 * x.toNatClampNeg + 14)) :: .ref (b + 124) :: [])) (congrArg (fun z => F0 m 43 ls (.int z :: .ref (b + 124) :: .int (fX8_around M x.toNatClampNeg) :: .int (nI (8 * x.toNatClampNeg + 14)) :: .ref (b + 124) :: [])) (nat_of (is_iv hmy c5).1)) ?_
      refine xc_i (va_runV (As := [.int (nI (x.toNatClampNeg))]) (rest := [.int (fX8_around M x.toNatClampNeg), .int (nI (8 * x.toNatClampNeg + 14)), .ref (b + 124)]) ⟨hx, hb, hml, hown, hts⟩ (c_X8_raw l D cy b n hn M x.toNatClampNeg (is_iv hmy c5).2 hbx htp) (cwV 1 hts gX8_calibrate_X8_raw rfl rfl rfl (by decide +kernel) ⟨Nat.le_of_ble_eq_true rfl, Nat.le_of_ble_eq_true rfl⟩) (xPreV hP hK hX hS (by omega) (cell8 (by decide)) rfl) rfl rfl hl.1 rfl (lv_room (Nat.le_of_ble_eq_true rfl)) dX8_calibrate_43 ⟨Nat.le_of_ble_eq_true rfl, Nat.le_of_ble_eq_true rfl⟩) hS (fun H locs hP hS => ?_)
      refine lv_isub hx hb dX8_calibrate_46 ?_
      refine xc_i (va_runV (As := [.int (nI (8 * x.toNatClampNeg + 14)), .int ((fX8_around M x.toNatClampNeg) - (fX8_raw M x.toNatClampNeg))]) (rest := []) ⟨hx, hb, hml, hown, hts⟩ (c_X8_sets l D cy b n hn M (8 * x.toNatClampNeg + 14) ((fX8_around M x.toNatClampNeg) - (fX8_raw M x.toNatClampNeg)) (by omega) ho) (cwV 2 hts gX8_calibrate_X8_sets rfl rfl rfl (by decide +kernel) ⟨Nat.le_of_ble_eq_true rfl, Nat.le_of_ble_eq_true rfl⟩) (xPreV hP hK hX hS (by omega) (cell8 (by decide)) rfl) rfl rfl hl.1 rfl (lv_room (Nat.le_of_ble_eq_true rfl)) dX8_calibrate_47 ⟨Nat.le_of_ble_eq_true rfl, Nat.le_of_ble_eq_true rfl⟩) hS (fun H locs hP hS => ?_)
      exact xe_i hx hb hr hlocks hP hS rfl (by rw [gX8_calibrate, if_neg c5, if_pos c19] <;> rfl) (by rw [fX8_calibrate, if_neg c5, if_pos c19] <;> rfl) (Nat.le_of_ble_eq_true rfl) (Nat.le_of_ble_eq_true rfl) dX8_calibrate_50
    · refine lv_aload_n hx hb dX8_calibrate_22 rfl (lv_at hl 0 rfl) ?_
      refine lv_iconst (v := 2) hx hb dX8_calibrate_23 (by decide) ?_
      refine xc_i (va_runV (As := [.int (2 : Int32)]) (rest := []) ⟨hx, hb, hml, hown, hts⟩ (c_X8_refuse l D cy b n hn M (2 : Int32)) (cwV 1 hts gX8_calibrate_X8_refuse rfl rfl rfl (by decide +kernel) ⟨Nat.le_of_ble_eq_true rfl, Nat.le_of_ble_eq_true rfl⟩) (xPreV hP hK hX hS (by omega) (cell8 (by decide)) rfl) rfl rfl hl.1 rfl (lv_room (Nat.le_of_ble_eq_true rfl)) dX8_calibrate_24 ⟨Nat.le_of_ble_eq_true rfl, Nat.le_of_ble_eq_true rfl⟩) hS (fun H locs hP hS => ?_)
      exact xe_i hx hb hr hlocks hP hS rfl (by rw [gX8_calibrate, if_neg c5, if_neg c19] <;> rfl) (by rw [fX8_calibrate, if_neg c5, if_neg c19] <;> rfl) (Nat.le_of_ble_eq_true rfl) (Nat.le_of_ble_eq_true rfl) dX8_calibrate_27
  · refine lv_aload_n hx hb dX8_calibrate_8 rfl (lv_at hl 0 rfl) ?_
    refine lv_iconst (v := 1) hx hb dX8_calibrate_9 (by decide) ?_
    refine xc_i (va_runV (As := [.int (1 : Int32)]) (rest := []) ⟨hx, hb, hml, hown, hts⟩ (c_X8_refuse l D cy b n hn M (1 : Int32)) (cwV 1 hts gX8_calibrate_X8_refuse rfl rfl rfl (by decide +kernel) ⟨Nat.le_of_ble_eq_true rfl, Nat.le_of_ble_eq_true rfl⟩) (xPreV hP hK hX hS (by omega) (cell8 (by decide)) rfl) rfl rfl hl.1 rfl (lv_room (Nat.le_of_ble_eq_true rfl)) dX8_calibrate_10 ⟨Nat.le_of_ble_eq_true rfl, Nat.le_of_ble_eq_true rfl⟩) hS (fun H locs hP hS => ?_)
    exact xe_i hx hb hr hlocks hP hS rfl (by rw [gX8_calibrate, if_pos c5] <;> rfl) (by rw [fX8_calibrate, if_pos c5] <;> rfl) (Nat.le_of_ble_eq_true rfl) (Nat.le_of_ble_eq_true rfl) dX8_calibrate_13
def fX8_tighten (M : Mem) (x : Int32) : Int32 := if (fX8_is M x) = 0 then (fX8_refuse M (1 : Int32)) else (if (fX8_isOfHair M x.toNatClampNeg) = 0 then (fX8_refuse M (2 : Int32)) else (if (M 127 (8 * x.toNatClampNeg + 9)) = 0 then (fX8_refuse M (2 : Int32)) else (fX8_told (gX8_tightens (gX8_remembers M) x.toNatClampNeg) (fX8_tightens (gX8_remembers M) x.toNatClampNeg))))
def gX8_tighten (M : Mem) (x : Int32) : Mem := if (fX8_is M x) = 0 then (gX8_refuse M (1 : Int32)) else (if (fX8_isOfHair M x.toNatClampNeg) = 0 then (gX8_refuse M (2 : Int32)) else (if (M 127 (8 * x.toNatClampNeg + 9)) = 0 then (gX8_refuse M (2 : Int32)) else (gX8_told (gX8_tightens (gX8_remembers M) x.toNatClampNeg) (fX8_tightens (gX8_remembers M) x.toNatClampNeg))))
set_option maxHeartbeats 4000000 in
set_option maxRecDepth 100000 in
theorem c_X8_tighten (l : Launch) (D : va_G) (cy : Nat → ClassId) (b n : Nat) (hn : 133 ≤ n) (M : Mem) (x : Int32) (hmy : MNY M) (ho : UB (M 124 6) 10) : Met l yX8_tighten wsX8_tighten ({ frames := 2, cells := 0, slots := 0, locals := 43 } : Room) (CP D cy b n fT M [.ref (b + 124), .int x]) (CQi D cy b n fT (fX8_tighten M x) (gX8_tighten M x)) 0 0 (fr b) := by
  refine Met.ofW (cc := cX8_tighten) (maxL := 2) (ret := (some .int)) (by decide) rfl ?_
  intro p e s m args below meth c s₁ B hml hv
  obtain ⟨rfl, hP, hK, hX⟩ := hv
  have hx := B.exec
  have hb := B.bytes
  have hr := B.returns
  have hts := atoms_spec (ws := wsX8_tighten) B.pre
  have hown : s.vm.findClass RX8 = some m.cls := findClass_of_methodNamed B.named
  have hlocks := B.notSynchronized
  have lk0 := hts (.fieldLink RX8 16 "HygrometerRoomModel" "now" "[I") (by decide +kernel)
  have inc8 : ∀ w ∈ u_ws RX8 TX8 22, w ∈ wsX8_tighten := by decide +kernel
  have hS : va_S (fr b) s.heap s.heap [] := va_S.rf
  have hl := lv_entry ([.ref (b + 124), .int x]) (n := 2) (Nat.le_of_ble_eq_true rfl)
  rw [lg_entry_eq]
  generalize (lg_sl ([.ref (b + 124), .int x]) ++ List.replicate (2 - (lg_sl ([.ref (b + 124), .int x])).length) Slot.unset).toArray = ls at hl ⊢
  have hl : lv_has ls 2 [(0, .ref (b + 124)), (1, .int x)] := hl
  refine lv_aload_n hx hb dX8_tighten_0 rfl (lv_at hl 0 rfl) ?_
  refine lv_iload_n hx hb dX8_tighten_1 rfl (lv_at hl 1 rfl) ?_
  refine xc_i (va_runV (As := [.int x]) (rest := []) ⟨hx, hb, hml, hown, hts⟩ (c_X8_is l D cy b n hn M x) (cwV 1 hts gX8_tighten_X8_is rfl rfl rfl (by decide +kernel) ⟨Nat.le_of_ble_eq_true rfl, Nat.le_of_ble_eq_true rfl⟩) (xPreV hP hK hX hS (by omega) (cell8 (by decide)) rfl) rfl rfl hl.1 rfl (lv_room (Nat.le_of_ble_eq_true rfl)) dX8_tighten_2 ⟨Nat.le_of_ble_eq_true rfl, Nat.le_of_ble_eq_true rfl⟩) hS (fun H locs hP hS => ?_)
  refine lv_if_ne (tgt := 14) hx hb dX8_tighten_5 (by decide) (fun c5 => ?_) (fun c5 => ?_)
  · refine lv_aload_n hx hb dX8_tighten_14 rfl (lv_at hl 0 rfl) ?_
    refine lv_iload_n hx hb dX8_tighten_15 rfl (lv_at hl 1 rfl) ?_
    refine W.eq (g2 := F0 m 16 ls (.int (nI (x.toNatClampNeg)) :: .ref (b + 124) :: [])) (congrArg (fun z => F0 m 16 ls (.int z :: .ref (b + 124) :: [])) (nat_of (is_iv hmy c5).1)) ?_
    refine xc_i (va_runV (As := [.int (nI (x.toNatClampNeg))]) (rest := []) ⟨hx, hb, hml, hown, hts⟩ (c_X8_isOfHair l D cy b n hn M x.toNatClampNeg (is_iv hmy c5).2) (cwV 1 hts gX8_tighten_X8_isOfHair rfl rfl rfl (by decide +kernel) ⟨Nat.le_of_ble_eq_true rfl, Nat.le_of_ble_eq_true rfl⟩) (xPreV hP hK hX hS (by omega) (cell8 (by decide)) rfl) rfl rfl hl.1 rfl (lv_room (Nat.le_of_ble_eq_true rfl)) dX8_tighten_16 ⟨Nat.le_of_ble_eq_true rfl, Nat.le_of_ble_eq_true rfl⟩) hS (fun H locs hP hS => ?_)
    refine lv_if_eq (tgt := 36) hx hb dX8_tighten_19 (by decide) (fun c19 => ?_) (fun c19 => ?_)
    · refine lv_aload_n hx hb dX8_tighten_36 rfl (lv_at hl 0 rfl) ?_
      refine lv_iconst (v := 2) hx hb dX8_tighten_37 (by decide) ?_
      refine xc_i (va_runV (As := [.int (2 : Int32)]) (rest := []) ⟨hx, hb, hml, hown, hts⟩ (c_X8_refuse l D cy b n hn M (2 : Int32)) (cwV 1 hts gX8_tighten_X8_refuse rfl rfl rfl (by decide +kernel) ⟨Nat.le_of_ble_eq_true rfl, Nat.le_of_ble_eq_true rfl⟩) (xPreV hP hK hX hS (by omega) (cell8 (by decide)) rfl) rfl rfl hl.1 rfl (lv_room (Nat.le_of_ble_eq_true rfl)) dX8_tighten_38 ⟨Nat.le_of_ble_eq_true rfl, Nat.le_of_ble_eq_true rfl⟩) hS (fun H locs hP hS => ?_)
      exact xe_i hx hb hr hlocks hP hS rfl (by rw [gX8_tighten, if_neg c5, if_pos c19] <;> rfl) (by rw [fX8_tighten, if_neg c5, if_pos c19] <;> rfl) (Nat.le_of_ble_eq_true rfl) (Nat.le_of_ble_eq_true rfl) dX8_tighten_41
    · refine lv_aload_n hx hb dX8_tighten_22 rfl (lv_at hl 0 rfl) ?_
      refine xg (C := RX8) (T := TX8) (N := 22) (v := .ref (b + 127)) hx hb hts inc8 hown hK hP (by omega) (cell8 (by decide)) rfl 3 (by decide) lk0 (fun _ h => h) rfl dX8_tighten_23 ?_
      refine lv_iload_n hx hb dX8_tighten_26 rfl (lv_at hl 1 rfl) ?_
      have hk6 := (is_iv hmy c5).2
      refine W.eq (g2 := F0 m 27 ls (.int (nI (x.toNatClampNeg)) :: .ref (b + 127) :: [])) (congrArg (fun z => F0 m 27 ls (.int z :: .ref (b + 127) :: [])) (nat_of (is_iv hmy c5).1)) ?_
      refine xc_i (va_runS (As := [.int (nI (x.toNatClampNeg))]) (rest := [.ref (b + 127)]) ⟨hx, hb, hml, hown, hts⟩ (c_X8_i l D cy b n hn M x.toNatClampNeg) (va_cwS 1 hts gX8_tighten_X8_i rfl rfl rfl (by decide +kernel) ⟨Nat.le_of_ble_eq_true rfl, Nat.le_of_ble_eq_true rfl⟩) (xPreS hP hK hX hS) rfl rfl hl.1 rfl (lv_room (Nat.le_of_ble_eq_true rfl)) dX8_tighten_27 ⟨Nat.le_of_ble_eq_true rfl, Nat.le_of_ble_eq_true rfl⟩) hS (fun H locs hP hS => ?_)
      refine W.eq (g2 := F0 m 30 ls (.int (nI (8 * x.toNatClampNeg + 8)) :: .ref (b + 127) :: [])) (congrArg (fun z => F0 m 30 ls (.int z :: .ref (b + 127) :: [])) (show fX8_i M x.toNatClampNeg = nI (8 * x.toNatClampNeg + 8) from by unfold fX8_i; exact congrArg nI (by omega))) ?_
      refine lv_iconst (v := 1) hx hb dX8_tighten_30 (by decide) ?_
      refine xadd (z := nI (8 * x.toNatClampNeg + 9)) hx hb (ixAdd (a := 8 * x.toNatClampNeg + 8) (c := 1) (d := 8 * x.toNatClampNeg + 9) rfl rfl (by omega)) dX8_tighten_31 ?_
      refine xil (j := 8 * x.toNatClampNeg + 9) hx hb hK hP (by omega) (by decide) (ixIn (a := 8 * x.toNatClampNeg + 9) rfl (by first | decide | (simp only [lenOf]; omega) | omega) (by decide)) (ixAt (a := 8 * x.toNatClampNeg + 9) rfl (by omega)) dX8_tighten_32 ?_
      refine lv_if_ne (tgt := 42) hx hb dX8_tighten_33 (by decide) (fun c33 => ?_) (fun c33 => ?_)
      · refine lv_aload_n hx hb dX8_tighten_42 rfl (lv_at hl 0 rfl) ?_
        refine xc_v (va_runV (As := []) (rest := []) ⟨hx, hb, hml, hown, hts⟩ (c_X8_remembers l D cy b n hn M ho) (cwV 0 hts gX8_tighten_X8_remembers rfl rfl rfl (by decide +kernel) ⟨Nat.le_of_ble_eq_true rfl, Nat.le_of_ble_eq_true rfl⟩) (xPreV hP hK hX hS (by omega) (cell8 (by decide)) rfl) rfl rfl hl.1 rfl (lv_room (Nat.le_of_ble_eq_true rfl)) dX8_tighten_43 ⟨Nat.le_of_ble_eq_true rfl, Nat.le_of_ble_eq_true rfl⟩) hS (fun H locs hP hS => ?_)
        refine lv_aload_n hx hb dX8_tighten_46 rfl (lv_at hl 0 rfl) ?_
        refine lv_aload_n hx hb dX8_tighten_47 rfl (lv_at hl 0 rfl) ?_
        refine lv_iload_n hx hb dX8_tighten_48 rfl (lv_at hl 1 rfl) ?_
        refine W.eq (g2 := F0 m 49 ls (.int (nI (x.toNatClampNeg)) :: .ref (b + 124) :: .ref (b + 124) :: [])) (congrArg (fun z => F0 m 49 ls (.int z :: .ref (b + 124) :: .ref (b + 124) :: [])) (nat_of (is_iv hmy c5).1)) ?_
        refine xc_i (va_runV (As := [.int (nI (x.toNatClampNeg))]) (rest := [.ref (b + 124)]) ⟨hx, hb, hml, hown, hts⟩ (c_X8_tightens l D cy b n hn (gX8_remembers M) x.toNatClampNeg (is_iv hmy c5).2) (cwV 1 hts gX8_tighten_X8_tightens rfl rfl rfl (by decide +kernel) ⟨Nat.le_of_ble_eq_true rfl, Nat.le_of_ble_eq_true rfl⟩) (xPreV hP hK hX hS (by omega) (cell8 (by decide)) rfl) rfl rfl hl.1 rfl (lv_room (Nat.le_of_ble_eq_true rfl)) dX8_tighten_49 ⟨Nat.le_of_ble_eq_true rfl, Nat.le_of_ble_eq_true rfl⟩) hS (fun H locs hP hS => ?_)
        refine xc_i (va_runV (As := [.int (fX8_tightens (gX8_remembers M) x.toNatClampNeg)]) (rest := []) ⟨hx, hb, hml, hown, hts⟩ (c_X8_told l D cy b n hn (gX8_tightens (gX8_remembers M) x.toNatClampNeg) (fX8_tightens (gX8_remembers M) x.toNatClampNeg)) (cwV 1 hts gX8_tighten_X8_told rfl rfl rfl (by decide +kernel) ⟨Nat.le_of_ble_eq_true rfl, Nat.le_of_ble_eq_true rfl⟩) (xPreV hP hK hX hS (by omega) (cell8 (by decide)) rfl) rfl rfl hl.1 rfl (lv_room (Nat.le_of_ble_eq_true rfl)) dX8_tighten_52 ⟨Nat.le_of_ble_eq_true rfl, Nat.le_of_ble_eq_true rfl⟩) hS (fun H locs hP hS => ?_)
        exact xe_i hx hb hr hlocks hP hS rfl (by rw [gX8_tighten, if_neg c5, if_neg c19, if_neg c33] <;> rfl) (by rw [fX8_tighten, if_neg c5, if_neg c19, if_neg c33] <;> rfl) (Nat.le_of_ble_eq_true rfl) (Nat.le_of_ble_eq_true rfl) dX8_tighten_55
      · refine lv_aload_n hx hb dX8_tighten_36 rfl (lv_at hl 0 rfl) ?_
        refine lv_iconst (v := 2) hx hb dX8_tighten_37 (by decide) ?_
        refine xc_i (va_runV (As := [.int (2 : Int32)]) (rest := []) ⟨hx, hb, hml, hown, hts⟩ (c_X8_refuse l D cy b n hn M (2 : Int32)) (cwV 1 hts gX8_tighten_X8_refuse rfl rfl rfl (by decide +kernel) ⟨Nat.le_of_ble_eq_true rfl, Nat.le_of_ble_eq_true rfl⟩) (xPreV hP hK hX hS (by omega) (cell8 (by decide)) rfl) rfl rfl hl.1 rfl (lv_room (Nat.le_of_ble_eq_true rfl)) dX8_tighten_38 ⟨Nat.le_of_ble_eq_true rfl, Nat.le_of_ble_eq_true rfl⟩) hS (fun H locs hP hS => ?_)
        exact xe_i hx hb hr hlocks hP hS rfl (by rw [gX8_tighten, if_neg c5, if_neg c19, if_pos c33] <;> rfl) (by rw [fX8_tighten, if_neg c5, if_neg c19, if_pos c33] <;> rfl) (Nat.le_of_ble_eq_true rfl) (Nat.le_of_ble_eq_true rfl) dX8_tighten_41
  · refine lv_aload_n hx hb dX8_tighten_8 rfl (lv_at hl 0 rfl) ?_
    refine lv_iconst (v := 1) hx hb dX8_tighten_9 (by decide) ?_
    refine xc_i (va_runV (As := [.int (1 : Int32)]) (rest := []) ⟨hx, hb, hml, hown, hts⟩ (c_X8_refuse l D cy b n hn M (1 : Int32)) (cwV 1 hts gX8_tighten_X8_refuse rfl rfl rfl (by decide +kernel) ⟨Nat.le_of_ble_eq_true rfl, Nat.le_of_ble_eq_true rfl⟩) (xPreV hP hK hX hS (by omega) (cell8 (by decide)) rfl) rfl rfl hl.1 rfl (lv_room (Nat.le_of_ble_eq_true rfl)) dX8_tighten_10 ⟨Nat.le_of_ble_eq_true rfl, Nat.le_of_ble_eq_true rfl⟩) hS (fun H locs hP hS => ?_)
    exact xe_i hx hb hr hlocks hP hS rfl (by rw [gX8_tighten, if_pos c5] <;> rfl) (by rw [fX8_tighten, if_pos c5] <;> rfl) (Nat.le_of_ble_eq_true rfl) (Nat.le_of_ble_eq_true rfl) dX8_tighten_13
def fX8_moisten (M : Mem) (x : Int32) : Int32 := if (fX8_is M x) = 0 then (fX8_refuse M (1 : Int32)) else (if (fX8_isOfHair M x.toNatClampNeg) = 0 then (fX8_told (gX8_moistens (gX8_remembers M) x.toNatClampNeg) (fX8_moistens (gX8_remembers M) x.toNatClampNeg)) else (fX8_refuse M (2 : Int32)))
def gX8_moisten (M : Mem) (x : Int32) : Mem := if (fX8_is M x) = 0 then (gX8_refuse M (1 : Int32)) else (if (fX8_isOfHair M x.toNatClampNeg) = 0 then (gX8_told (gX8_moistens (gX8_remembers M) x.toNatClampNeg) (fX8_moistens (gX8_remembers M) x.toNatClampNeg)) else (gX8_refuse M (2 : Int32)))
set_option maxHeartbeats 4000000 in
set_option maxRecDepth 100000 in
theorem c_X8_moisten (l : Launch) (D : va_G) (cy : Nat → ClassId) (b n : Nat) (hn : 133 ≤ n) (M : Mem) (x : Int32) (hmy : MNY M) (ho : UB (M 124 6) 10) : Met l yX8_moisten wsX8_moisten ({ frames := 2, cells := 0, slots := 0, locals := 43 } : Room) (CP D cy b n fT M [.ref (b + 124), .int x]) (CQi D cy b n fT (fX8_moisten M x) (gX8_moisten M x)) 0 0 (fr b) := by
  refine Met.ofW (cc := cX8_moisten) (maxL := 2) (ret := (some .int)) (by decide) rfl ?_
  intro p e s m args below meth c s₁ B hml hv
  obtain ⟨rfl, hP, hK, hX⟩ := hv
  have hx := B.exec
  have hb := B.bytes
  have hr := B.returns
  have hts := atoms_spec (ws := wsX8_moisten) B.pre
  have hown : s.vm.findClass RX8 = some m.cls := findClass_of_methodNamed B.named
  have hlocks := B.notSynchronized
  have hS : va_S (fr b) s.heap s.heap [] := va_S.rf
  have hl := lv_entry ([.ref (b + 124), .int x]) (n := 2) (Nat.le_of_ble_eq_true rfl)
  rw [lg_entry_eq]
  generalize (lg_sl ([.ref (b + 124), .int x]) ++ List.replicate (2 - (lg_sl ([.ref (b + 124), .int x])).length) Slot.unset).toArray = ls at hl ⊢
  have hl : lv_has ls 2 [(0, .ref (b + 124)), (1, .int x)] := hl
  refine lv_aload_n hx hb dX8_moisten_0 rfl (lv_at hl 0 rfl) ?_
  refine lv_iload_n hx hb dX8_moisten_1 rfl (lv_at hl 1 rfl) ?_
  refine xc_i (va_runV (As := [.int x]) (rest := []) ⟨hx, hb, hml, hown, hts⟩ (c_X8_is l D cy b n hn M x) (cwV 1 hts gX8_moisten_X8_is rfl rfl rfl (by decide +kernel) ⟨Nat.le_of_ble_eq_true rfl, Nat.le_of_ble_eq_true rfl⟩) (xPreV hP hK hX hS (by omega) (cell8 (by decide)) rfl) rfl rfl hl.1 rfl (lv_room (Nat.le_of_ble_eq_true rfl)) dX8_moisten_2 ⟨Nat.le_of_ble_eq_true rfl, Nat.le_of_ble_eq_true rfl⟩) hS (fun H locs hP hS => ?_)
  refine lv_if_ne (tgt := 14) hx hb dX8_moisten_5 (by decide) (fun c5 => ?_) (fun c5 => ?_)
  · refine lv_aload_n hx hb dX8_moisten_14 rfl (lv_at hl 0 rfl) ?_
    refine lv_iload_n hx hb dX8_moisten_15 rfl (lv_at hl 1 rfl) ?_
    refine W.eq (g2 := F0 m 16 ls (.int (nI (x.toNatClampNeg)) :: .ref (b + 124) :: [])) (congrArg (fun z => F0 m 16 ls (.int z :: .ref (b + 124) :: [])) (nat_of (is_iv hmy c5).1)) ?_
    refine xc_i (va_runV (As := [.int (nI (x.toNatClampNeg))]) (rest := []) ⟨hx, hb, hml, hown, hts⟩ (c_X8_isOfHair l D cy b n hn M x.toNatClampNeg (is_iv hmy c5).2) (cwV 1 hts gX8_moisten_X8_isOfHair rfl rfl rfl (by decide +kernel) ⟨Nat.le_of_ble_eq_true rfl, Nat.le_of_ble_eq_true rfl⟩) (xPreV hP hK hX hS (by omega) (cell8 (by decide)) rfl) rfl rfl hl.1 rfl (lv_room (Nat.le_of_ble_eq_true rfl)) dX8_moisten_16 ⟨Nat.le_of_ble_eq_true rfl, Nat.le_of_ble_eq_true rfl⟩) hS (fun H locs hP hS => ?_)
    refine lv_if_eq (tgt := 28) hx hb dX8_moisten_19 (by decide) (fun c19 => ?_) (fun c19 => ?_)
    · refine lv_aload_n hx hb dX8_moisten_28 rfl (lv_at hl 0 rfl) ?_
      refine xc_v (va_runV (As := []) (rest := []) ⟨hx, hb, hml, hown, hts⟩ (c_X8_remembers l D cy b n hn M ho) (cwV 0 hts gX8_moisten_X8_remembers rfl rfl rfl (by decide +kernel) ⟨Nat.le_of_ble_eq_true rfl, Nat.le_of_ble_eq_true rfl⟩) (xPreV hP hK hX hS (by omega) (cell8 (by decide)) rfl) rfl rfl hl.1 rfl (lv_room (Nat.le_of_ble_eq_true rfl)) dX8_moisten_29 ⟨Nat.le_of_ble_eq_true rfl, Nat.le_of_ble_eq_true rfl⟩) hS (fun H locs hP hS => ?_)
      refine lv_aload_n hx hb dX8_moisten_32 rfl (lv_at hl 0 rfl) ?_
      refine lv_aload_n hx hb dX8_moisten_33 rfl (lv_at hl 0 rfl) ?_
      refine lv_iload_n hx hb dX8_moisten_34 rfl (lv_at hl 1 rfl) ?_
      refine W.eq (g2 := F0 m 35 ls (.int (nI (x.toNatClampNeg)) :: .ref (b + 124) :: .ref (b + 124) :: [])) (congrArg (fun z => F0 m 35 ls (.int z :: .ref (b + 124) :: .ref (b + 124) :: [])) (nat_of (is_iv hmy c5).1)) ?_
      refine xc_i (va_runV (As := [.int (nI (x.toNatClampNeg))]) (rest := [.ref (b + 124)]) ⟨hx, hb, hml, hown, hts⟩ (c_X8_moistens l D cy b n hn (gX8_remembers M) x.toNatClampNeg (is_iv hmy c5).2) (cwV 1 hts gX8_moisten_X8_moistens rfl rfl rfl (by decide +kernel) ⟨Nat.le_of_ble_eq_true rfl, Nat.le_of_ble_eq_true rfl⟩) (xPreV hP hK hX hS (by omega) (cell8 (by decide)) rfl) rfl rfl hl.1 rfl (lv_room (Nat.le_of_ble_eq_true rfl)) dX8_moisten_35 ⟨Nat.le_of_ble_eq_true rfl, Nat.le_of_ble_eq_true rfl⟩) hS (fun H locs hP hS => ?_)
      refine xc_i (va_runV (As := [.int (fX8_moistens (gX8_remembers M) x.toNatClampNeg)]) (rest := []) ⟨hx, hb, hml, hown, hts⟩ (c_X8_told l D cy b n hn (gX8_moistens (gX8_remembers M) x.toNatClampNeg) (fX8_moistens (gX8_remembers M) x.toNatClampNeg)) (cwV 1 hts gX8_moisten_X8_told rfl rfl rfl (by decide +kernel) ⟨Nat.le_of_ble_eq_true rfl, Nat.le_of_ble_eq_true rfl⟩) (xPreV hP hK hX hS (by omega) (cell8 (by decide)) rfl) rfl rfl hl.1 rfl (lv_room (Nat.le_of_ble_eq_true rfl)) dX8_moisten_38 ⟨Nat.le_of_ble_eq_true rfl, Nat.le_of_ble_eq_true rfl⟩) hS (fun H locs hP hS => ?_)
      exact xe_i hx hb hr hlocks hP hS rfl (by rw [gX8_moisten, if_neg c5, if_pos c19] <;> rfl) (by rw [fX8_moisten, if_neg c5, if_pos c19] <;> rfl) (Nat.le_of_ble_eq_true rfl) (Nat.le_of_ble_eq_true rfl) dX8_moisten_41
    · refine lv_aload_n hx hb dX8_moisten_22 rfl (lv_at hl 0 rfl) ?_
      refine lv_iconst (v := 2) hx hb dX8_moisten_23 (by decide) ?_
      refine xc_i (va_runV (As := [.int (2 : Int32)]) (rest := []) ⟨hx, hb, hml, hown, hts⟩ (c_X8_refuse l D cy b n hn M (2 : Int32)) (cwV 1 hts gX8_moisten_X8_refuse rfl rfl rfl (by decide +kernel) ⟨Nat.le_of_ble_eq_true rfl, Nat.le_of_ble_eq_true rfl⟩) (xPreV hP hK hX hS (by omega) (cell8 (by decide)) rfl) rfl rfl hl.1 rfl (lv_room (Nat.le_of_ble_eq_true rfl)) dX8_moisten_24 ⟨Nat.le_of_ble_eq_true rfl, Nat.le_of_ble_eq_true rfl⟩) hS (fun H locs hP hS => ?_)
      exact xe_i hx hb hr hlocks hP hS rfl (by rw [gX8_moisten, if_neg c5, if_neg c19] <;> rfl) (by rw [fX8_moisten, if_neg c5, if_neg c19] <;> rfl) (Nat.le_of_ble_eq_true rfl) (Nat.le_of_ble_eq_true rfl) dX8_moisten_27
  · refine lv_aload_n hx hb dX8_moisten_8 rfl (lv_at hl 0 rfl) ?_
    refine lv_iconst (v := 1) hx hb dX8_moisten_9 (by decide) ?_
    refine xc_i (va_runV (As := [.int (1 : Int32)]) (rest := []) ⟨hx, hb, hml, hown, hts⟩ (c_X8_refuse l D cy b n hn M (1 : Int32)) (cwV 1 hts gX8_moisten_X8_refuse rfl rfl rfl (by decide +kernel) ⟨Nat.le_of_ble_eq_true rfl, Nat.le_of_ble_eq_true rfl⟩) (xPreV hP hK hX hS (by omega) (cell8 (by decide)) rfl) rfl rfl hl.1 rfl (lv_room (Nat.le_of_ble_eq_true rfl)) dX8_moisten_10 ⟨Nat.le_of_ble_eq_true rfl, Nat.le_of_ble_eq_true rfl⟩) hS (fun H locs hP hS => ?_)
    exact xe_i hx hb hr hlocks hP hS rfl (by rw [gX8_moisten, if_pos c5] <;> rfl) (by rw [fX8_moisten, if_pos c5] <;> rfl) (Nat.le_of_ble_eq_true rfl) (Nat.le_of_ble_eq_true rfl) dX8_moisten_13
def fX8_addHairs (M : Mem) (x : Int32) (y : Int32) : Int32 := if (fX8_is M x) = 0 then (fX8_refuse M (1 : Int32)) else (if (fX8_in M y (1 : Int32) (20 : Int32)) = 0 then (fX8_refuse M (2 : Int32)) else (if (fX8_isOfHair M x.toNatClampNeg) = 0 then (fX8_refuse M (3 : Int32)) else (if y ≤ (M 127 4) then (if ((M 127 (8 * x.toNatClampNeg + 9)) + y) ≤ (20 : Int32) then (fX8_told (mU (mU (gX8_remembers M) 127 4 (((gX8_remembers M) 127 4) - y)) 127 (8 * x.toNatClampNeg + 9) (((mU (gX8_remembers M) 127 4 (((gX8_remembers M) 127 4) - y)) 127 (8 * x.toNatClampNeg + 9)) + y)) ((mU (mU (gX8_remembers M) 127 4 (((gX8_remembers M) 127 4) - y)) 127 (8 * x.toNatClampNeg + 9) (((mU (gX8_remembers M) 127 4 (((gX8_remembers M) 127 4) - y)) 127 (8 * x.toNatClampNeg + 9)) + y)) 127 (8 * x.toNatClampNeg + 9))) else (fX8_refuse M (3 : Int32))) else (fX8_refuse M (3 : Int32)))))
def gX8_addHairs (M : Mem) (x : Int32) (y : Int32) : Mem := if (fX8_is M x) = 0 then (gX8_refuse M (1 : Int32)) else (if (fX8_in M y (1 : Int32) (20 : Int32)) = 0 then (gX8_refuse M (2 : Int32)) else (if (fX8_isOfHair M x.toNatClampNeg) = 0 then (gX8_refuse M (3 : Int32)) else (if y ≤ (M 127 4) then (if ((M 127 (8 * x.toNatClampNeg + 9)) + y) ≤ (20 : Int32) then (gX8_told (mU (mU (gX8_remembers M) 127 4 (((gX8_remembers M) 127 4) - y)) 127 (8 * x.toNatClampNeg + 9) (((mU (gX8_remembers M) 127 4 (((gX8_remembers M) 127 4) - y)) 127 (8 * x.toNatClampNeg + 9)) + y)) ((mU (mU (gX8_remembers M) 127 4 (((gX8_remembers M) 127 4) - y)) 127 (8 * x.toNatClampNeg + 9) (((mU (gX8_remembers M) 127 4 (((gX8_remembers M) 127 4) - y)) 127 (8 * x.toNatClampNeg + 9)) + y)) 127 (8 * x.toNatClampNeg + 9))) else (gX8_refuse M (3 : Int32))) else (gX8_refuse M (3 : Int32)))))
set_option maxHeartbeats 4000000 in
set_option maxRecDepth 100000 in
theorem c_X8_addHairs (l : Launch) (D : va_G) (cy : Nat → ClassId) (b n : Nat) (hn : 133 ≤ n) (M : Mem) (x : Int32) (y : Int32) (hmy : MNY M) (ho : UB (M 124 6) 10) : Met l yX8_addHairs wsX8_addHairs ({ frames := 2, cells := 0, slots := 0, locals := 43 } : Room) (CP D cy b n fT M [.ref (b + 124), .int x, .int y]) (CQi D cy b n fT (fX8_addHairs M x y) (gX8_addHairs M x y)) 0 0 (fr b) := by
  refine Met.ofW (cc := cX8_addHairs) (maxL := 3) (ret := (some .int)) (by decide) rfl ?_
  intro p e s m args below meth c s₁ B hml hv
  obtain ⟨rfl, hP, hK, hX⟩ := hv
  have hx := B.exec
  have hb := B.bytes
  have hr := B.returns
  have hts := atoms_spec (ws := wsX8_addHairs) B.pre
  have hown : s.vm.findClass RX8 = some m.cls := findClass_of_methodNamed B.named
  have hlocks := B.notSynchronized
  have lk0 := hts (.fieldLink RX8 16 "HygrometerRoomModel" "now" "[I") (by decide +kernel)
  have inc8 : ∀ w ∈ u_ws RX8 TX8 22, w ∈ wsX8_addHairs := by decide +kernel
  have hS : va_S (fr b) s.heap s.heap [] := va_S.rf
  have hl := lv_entry ([.ref (b + 124), .int x, .int y]) (n := 3) (Nat.le_of_ble_eq_true rfl)
  rw [lg_entry_eq]
  generalize (lg_sl ([.ref (b + 124), .int x, .int y]) ++ List.replicate (3 - (lg_sl ([.ref (b + 124), .int x, .int y])).length) Slot.unset).toArray = ls at hl ⊢
  have hl : lv_has ls 3 [(0, .ref (b + 124)), (1, .int x), (2, .int y)] := hl
  refine lv_aload_n hx hb dX8_addHairs_0 rfl (lv_at hl 0 rfl) ?_
  refine lv_iload_n hx hb dX8_addHairs_1 rfl (lv_at hl 1 rfl) ?_
  refine xc_i (va_runV (As := [.int x]) (rest := []) ⟨hx, hb, hml, hown, hts⟩ (c_X8_is l D cy b n hn M x) (cwV 1 hts gX8_addHairs_X8_is rfl rfl rfl (by decide +kernel) ⟨Nat.le_of_ble_eq_true rfl, Nat.le_of_ble_eq_true rfl⟩) (xPreV hP hK hX hS (by omega) (cell8 (by decide)) rfl) rfl rfl hl.1 rfl (lv_room (Nat.le_of_ble_eq_true rfl)) dX8_addHairs_2 ⟨Nat.le_of_ble_eq_true rfl, Nat.le_of_ble_eq_true rfl⟩) hS (fun H locs hP hS => ?_)
  refine lv_if_ne (tgt := 14) hx hb dX8_addHairs_5 (by decide) (fun c5 => ?_) (fun c5 => ?_)
  · refine lv_iload_n hx hb dX8_addHairs_14 rfl (lv_at hl 2 rfl) ?_
    refine lv_iconst (v := 1) hx hb dX8_addHairs_15 (by decide) ?_
    refine lv_bipush (v := 20) hx hb dX8_addHairs_16 (by decide) ?_
    refine xc_i (va_runS (As := [.int y, .int (1 : Int32), .int (20 : Int32)]) (rest := []) ⟨hx, hb, hml, hown, hts⟩ (c_X8_in l D cy b n hn M y (1 : Int32) (20 : Int32)) (va_cwS 3 hts gX8_addHairs_X8_in rfl rfl rfl (by decide +kernel) ⟨Nat.le_of_ble_eq_true rfl, Nat.le_of_ble_eq_true rfl⟩) (xPreS hP hK hX hS) rfl rfl hl.1 rfl (lv_room (Nat.le_of_ble_eq_true rfl)) dX8_addHairs_18 ⟨Nat.le_of_ble_eq_true rfl, Nat.le_of_ble_eq_true rfl⟩) hS (fun H locs hP hS => ?_)
    refine lv_if_ne (tgt := 30) hx hb dX8_addHairs_21 (by decide) (fun c21 => ?_) (fun c21 => ?_)
    · refine lv_aload_n hx hb dX8_addHairs_30 rfl (lv_at hl 0 rfl) ?_
      refine lv_iload_n hx hb dX8_addHairs_31 rfl (lv_at hl 1 rfl) ?_
      refine W.eq (g2 := F0 m 32 ls (.int (nI (x.toNatClampNeg)) :: .ref (b + 124) :: [])) (congrArg (fun z => F0 m 32 ls (.int z :: .ref (b + 124) :: [])) (nat_of (is_iv hmy c5).1)) ?_
      refine xc_i (va_runV (As := [.int (nI (x.toNatClampNeg))]) (rest := []) ⟨hx, hb, hml, hown, hts⟩ (c_X8_isOfHair l D cy b n hn M x.toNatClampNeg (is_iv hmy c5).2) (cwV 1 hts gX8_addHairs_X8_isOfHair rfl rfl rfl (by decide +kernel) ⟨Nat.le_of_ble_eq_true rfl, Nat.le_of_ble_eq_true rfl⟩) (xPreV hP hK hX hS (by omega) (cell8 (by decide)) rfl) rfl rfl hl.1 rfl (lv_room (Nat.le_of_ble_eq_true rfl)) dX8_addHairs_32 ⟨Nat.le_of_ble_eq_true rfl, Nat.le_of_ble_eq_true rfl⟩) hS (fun H locs hP hS => ?_)
      refine lv_if_eq (tgt := 48) hx hb dX8_addHairs_35 (by decide) (fun c35 => ?_) (fun c35 => ?_)
      · refine lv_aload_n hx hb dX8_addHairs_48 rfl (lv_at hl 0 rfl) ?_
        refine lv_iconst (v := 3) hx hb dX8_addHairs_49 (by decide) ?_
        refine xc_i (va_runV (As := [.int (3 : Int32)]) (rest := []) ⟨hx, hb, hml, hown, hts⟩ (c_X8_refuse l D cy b n hn M (3 : Int32)) (cwV 1 hts gX8_addHairs_X8_refuse rfl rfl rfl (by decide +kernel) ⟨Nat.le_of_ble_eq_true rfl, Nat.le_of_ble_eq_true rfl⟩) (xPreV hP hK hX hS (by omega) (cell8 (by decide)) rfl) rfl rfl hl.1 rfl (lv_room (Nat.le_of_ble_eq_true rfl)) dX8_addHairs_50 ⟨Nat.le_of_ble_eq_true rfl, Nat.le_of_ble_eq_true rfl⟩) hS (fun H locs hP hS => ?_)
        exact xe_i hx hb hr hlocks hP hS rfl (by rw [gX8_addHairs, if_neg c5, if_neg c21, if_pos c35] <;> rfl) (by rw [fX8_addHairs, if_neg c5, if_neg c21, if_pos c35] <;> rfl) (Nat.le_of_ble_eq_true rfl) (Nat.le_of_ble_eq_true rfl) dX8_addHairs_53
      · refine lv_aload_n hx hb dX8_addHairs_38 rfl (lv_at hl 0 rfl) ?_
        refine xg (C := RX8) (T := TX8) (N := 22) (v := .ref (b + 127)) hx hb hts inc8 hown hK hP (by omega) (cell8 (by decide)) rfl 3 (by decide) lk0 (fun _ h => h) rfl dX8_addHairs_39 ?_
        refine lv_iconst (v := 4) hx hb dX8_addHairs_42 (by decide) ?_
        refine xil (j := 4) hx hb hK hP (by omega) (by decide) (ixIn (a := 4) rfl (by first | decide | (simp only [lenOf]; omega) | omega) (by decide)) rfl dX8_addHairs_43 ?_
        refine lv_iload_n hx hb dX8_addHairs_44 rfl (lv_at hl 2 rfl) ?_
        refine lv_icmp_ge (tgt := 54) hx hb dX8_addHairs_45 (by decide) (fun c45 => ?_) (fun c45 => ?_)
        · refine lv_aload_n hx hb dX8_addHairs_54 rfl (lv_at hl 0 rfl) ?_
          refine xg (C := RX8) (T := TX8) (N := 22) (v := .ref (b + 127)) hx hb hts inc8 hown hK hP (by omega) (cell8 (by decide)) rfl 3 (by decide) lk0 (fun _ h => h) rfl dX8_addHairs_55 ?_
          refine lv_iload_n hx hb dX8_addHairs_58 rfl (lv_at hl 1 rfl) ?_
          have hk6 := (is_iv hmy c5).2
          refine W.eq (g2 := F0 m 59 ls (.int (nI (x.toNatClampNeg)) :: .ref (b + 127) :: [])) (congrArg (fun z => F0 m 59 ls (.int z :: .ref (b + 127) :: [])) (nat_of (is_iv hmy c5).1)) ?_
          refine xc_i (va_runS (As := [.int (nI (x.toNatClampNeg))]) (rest := [.ref (b + 127)]) ⟨hx, hb, hml, hown, hts⟩ (c_X8_i l D cy b n hn M x.toNatClampNeg) (va_cwS 1 hts gX8_addHairs_X8_i rfl rfl rfl (by decide +kernel) ⟨Nat.le_of_ble_eq_true rfl, Nat.le_of_ble_eq_true rfl⟩) (xPreS hP hK hX hS) rfl rfl hl.1 rfl (lv_room (Nat.le_of_ble_eq_true rfl)) dX8_addHairs_59 ⟨Nat.le_of_ble_eq_true rfl, Nat.le_of_ble_eq_true rfl⟩) hS (fun H locs hP hS => ?_)
          refine W.eq (g2 := F0 m 62 ls (.int (nI (8 * x.toNatClampNeg + 8)) :: .ref (b + 127) :: [])) (congrArg (fun z => F0 m 62 ls (.int z :: .ref (b + 127) :: [])) (show fX8_i M x.toNatClampNeg = nI (8 * x.toNatClampNeg + 8) from by unfold fX8_i; exact congrArg nI (by omega))) ?_
          refine lv_iconst (v := 1) hx hb dX8_addHairs_62 (by decide) ?_
          refine xadd (z := nI (8 * x.toNatClampNeg + 9)) hx hb (ixAdd (a := 8 * x.toNatClampNeg + 8) (c := 1) (d := 8 * x.toNatClampNeg + 9) rfl rfl (by omega)) dX8_addHairs_63 ?_
          refine xil (j := 8 * x.toNatClampNeg + 9) hx hb hK hP (by omega) (by decide) (ixIn (a := 8 * x.toNatClampNeg + 9) rfl (by first | decide | (simp only [lenOf]; omega) | omega) (by decide)) (ixAt (a := 8 * x.toNatClampNeg + 9) rfl (by omega)) dX8_addHairs_64 ?_
          refine lv_iload_n hx hb dX8_addHairs_65 rfl (lv_at hl 2 rfl) ?_
          refine lv_iadd hx hb dX8_addHairs_66 ?_
          refine lv_bipush (v := 20) hx hb dX8_addHairs_67 (by decide) ?_
          refine lv_icmp_le (tgt := 78) hx hb dX8_addHairs_69 (by decide) (fun c69 => ?_) (fun c69 => ?_)
          · refine lv_aload_n hx hb dX8_addHairs_78 rfl (lv_at hl 0 rfl) ?_
            refine xc_v (va_runV (As := []) (rest := []) ⟨hx, hb, hml, hown, hts⟩ (c_X8_remembers l D cy b n hn M ho) (cwV 0 hts gX8_addHairs_X8_remembers rfl rfl rfl (by decide +kernel) ⟨Nat.le_of_ble_eq_true rfl, Nat.le_of_ble_eq_true rfl⟩) (xPreV hP hK hX hS (by omega) (cell8 (by decide)) rfl) rfl rfl hl.1 rfl (lv_room (Nat.le_of_ble_eq_true rfl)) dX8_addHairs_79 ⟨Nat.le_of_ble_eq_true rfl, Nat.le_of_ble_eq_true rfl⟩) hS (fun H locs hP hS => ?_)
            refine lv_aload_n hx hb dX8_addHairs_82 rfl (lv_at hl 0 rfl) ?_
            refine xg (C := RX8) (T := TX8) (N := 22) (v := .ref (b + 127)) hx hb hts inc8 hown hK hP (by omega) (cell8 (by decide)) rfl 3 (by decide) lk0 (fun _ h => h) rfl dX8_addHairs_83 ?_
            refine lv_iconst (v := 4) hx hb dX8_addHairs_86 (by decide) ?_
            refine lv_dup2_11 hx hb dX8_addHairs_87 rfl rfl ?_
            refine xil (j := 4) hx hb hK hP (by omega) (by decide) (ixIn (a := 4) rfl (by first | decide | (simp only [lenOf]; omega) | omega) (by decide)) rfl dX8_addHairs_88 ?_
            refine lv_iload_n hx hb dX8_addHairs_89 rfl (lv_at hl 2 rfl) ?_
            refine lv_isub hx hb dX8_addHairs_90 ?_
            refine xis (j := 4) (x := ((gX8_remembers M) 127 4) - y) hx hb hK hP hS (by omega) (by decide) (ixIn (a := 4) rfl (by first | decide | (simp only [lenOf]; omega) | omega) (by decide)) rfl dX8_addHairs_91 (fun H locs hP hS => ?_)
            refine lv_aload_n hx hb dX8_addHairs_92 rfl (lv_at hl 0 rfl) ?_
            refine xg (C := RX8) (T := TX8) (N := 22) (v := .ref (b + 127)) hx hb hts inc8 hown hK hP (by omega) (cell8 (by decide)) rfl 3 (by decide) lk0 (fun _ h => h) rfl dX8_addHairs_93 ?_
            refine lv_iload_n hx hb dX8_addHairs_96 rfl (lv_at hl 1 rfl) ?_
            have hk6 := (is_iv hmy c5).2
            refine W.eq (g2 := F0 m 97 ls (.int (nI (x.toNatClampNeg)) :: .ref (b + 127) :: [])) (congrArg (fun z => F0 m 97 ls (.int z :: .ref (b + 127) :: [])) (nat_of (is_iv hmy c5).1)) ?_
            refine xc_i (va_runS (As := [.int (nI (x.toNatClampNeg))]) (rest := [.ref (b + 127)]) ⟨hx, hb, hml, hown, hts⟩ (c_X8_i l D cy b n hn (mU (gX8_remembers M) 127 4 (((gX8_remembers M) 127 4) - y)) x.toNatClampNeg) (va_cwS 1 hts gX8_addHairs_X8_i rfl rfl rfl (by decide +kernel) ⟨Nat.le_of_ble_eq_true rfl, Nat.le_of_ble_eq_true rfl⟩) (xPreS hP hK hX hS) rfl rfl hl.1 rfl (lv_room (Nat.le_of_ble_eq_true rfl)) dX8_addHairs_97 ⟨Nat.le_of_ble_eq_true rfl, Nat.le_of_ble_eq_true rfl⟩) hS (fun H locs hP hS => ?_)
            refine W.eq (g2 := F0 m 100 ls (.int (nI (8 * x.toNatClampNeg + 8)) :: .ref (b + 127) :: [])) (congrArg (fun z => F0 m 100 ls (.int z :: .ref (b + 127) :: [])) (show fX8_i (mU (gX8_remembers M) 127 4 (((gX8_remembers M) 127 4) - y)) x.toNatClampNeg = nI (8 * x.toNatClampNeg + 8) from by unfold fX8_i; exact congrArg nI (by omega))) ?_
            refine lv_iconst (v := 1) hx hb dX8_addHairs_100 (by decide) ?_
            refine xadd (z := nI (8 * x.toNatClampNeg + 9)) hx hb (ixAdd (a := 8 * x.toNatClampNeg + 8) (c := 1) (d := 8 * x.toNatClampNeg + 9) rfl rfl (by omega)) dX8_addHairs_101 ?_
            refine lv_dup2_11 hx hb dX8_addHairs_102 rfl rfl ?_
            refine xil (j := 8 * x.toNatClampNeg + 9) hx hb hK hP (by omega) (by decide) (ixIn (a := 8 * x.toNatClampNeg + 9) rfl (by first | decide | (simp only [lenOf]; omega) | omega) (by decide)) (ixAt (a := 8 * x.toNatClampNeg + 9) rfl (by omega)) dX8_addHairs_103 ?_
            refine lv_iload_n hx hb dX8_addHairs_104 rfl (lv_at hl 2 rfl) ?_
            refine lv_iadd hx hb dX8_addHairs_105 ?_
            refine xis (j := 8 * x.toNatClampNeg + 9) (x := ((mU (gX8_remembers M) 127 4 (((gX8_remembers M) 127 4) - y)) 127 (8 * x.toNatClampNeg + 9)) + y) hx hb hK hP hS (by omega) (by decide) (ixIn (a := 8 * x.toNatClampNeg + 9) rfl (by first | decide | (simp only [lenOf]; omega) | omega) (by decide)) (ixAt (a := 8 * x.toNatClampNeg + 9) rfl (by omega)) dX8_addHairs_106 (fun H locs hP hS => ?_)
            refine lv_aload_n hx hb dX8_addHairs_107 rfl (lv_at hl 0 rfl) ?_
            refine lv_aload_n hx hb dX8_addHairs_108 rfl (lv_at hl 0 rfl) ?_
            refine xg (C := RX8) (T := TX8) (N := 22) (v := .ref (b + 127)) hx hb hts inc8 hown hK hP (by omega) (cell8 (by decide)) rfl 3 (by decide) lk0 (fun _ h => h) rfl dX8_addHairs_109 ?_
            refine lv_iload_n hx hb dX8_addHairs_112 rfl (lv_at hl 1 rfl) ?_
            have hk6 := (is_iv hmy c5).2
            refine W.eq (g2 := F0 m 113 ls (.int (nI (x.toNatClampNeg)) :: .ref (b + 127) :: .ref (b + 124) :: [])) (congrArg (fun z => F0 m 113 ls (.int z :: .ref (b + 127) :: .ref (b + 124) :: [])) (nat_of (is_iv hmy c5).1)) ?_
            refine xc_i (va_runS (As := [.int (nI (x.toNatClampNeg))]) (rest := [.ref (b + 127), .ref (b + 124)]) ⟨hx, hb, hml, hown, hts⟩ (c_X8_i l D cy b n hn (mU (mU (gX8_remembers M) 127 4 (((gX8_remembers M) 127 4) - y)) 127 (8 * x.toNatClampNeg + 9) (((mU (gX8_remembers M) 127 4 (((gX8_remembers M) 127 4) - y)) 127 (8 * x.toNatClampNeg + 9)) + y)) x.toNatClampNeg) (va_cwS 1 hts gX8_addHairs_X8_i rfl rfl rfl (by decide +kernel) ⟨Nat.le_of_ble_eq_true rfl, Nat.le_of_ble_eq_true rfl⟩) (xPreS hP hK hX hS) rfl rfl hl.1 rfl (lv_room (Nat.le_of_ble_eq_true rfl)) dX8_addHairs_113 ⟨Nat.le_of_ble_eq_true rfl, Nat.le_of_ble_eq_true rfl⟩) hS (fun H locs hP hS => ?_)
            refine W.eq (g2 := F0 m 116 ls (.int (nI (8 * x.toNatClampNeg + 8)) :: .ref (b + 127) :: .ref (b + 124) :: [])) (congrArg (fun z => F0 m 116 ls (.int z :: .ref (b + 127) :: .ref (b + 124) :: [])) (show fX8_i (mU (mU (gX8_remembers M) 127 4 (((gX8_remembers M) 127 4) - y)) 127 (8 * x.toNatClampNeg + 9) (((mU (gX8_remembers M) 127 4 (((gX8_remembers M) 127 4) - y)) 127 (8 * x.toNatClampNeg + 9)) + y)) x.toNatClampNeg = nI (8 * x.toNatClampNeg + 8) from by unfold fX8_i; exact congrArg nI (by omega))) ?_
            refine lv_iconst (v := 1) hx hb dX8_addHairs_116 (by decide) ?_
            refine xadd (z := nI (8 * x.toNatClampNeg + 9)) hx hb (ixAdd (a := 8 * x.toNatClampNeg + 8) (c := 1) (d := 8 * x.toNatClampNeg + 9) rfl rfl (by omega)) dX8_addHairs_117 ?_
            refine xil (j := 8 * x.toNatClampNeg + 9) hx hb hK hP (by omega) (by decide) (ixIn (a := 8 * x.toNatClampNeg + 9) rfl (by first | decide | (simp only [lenOf]; omega) | omega) (by decide)) (ixAt (a := 8 * x.toNatClampNeg + 9) rfl (by omega)) dX8_addHairs_118 ?_
            refine xc_i (va_runV (As := [.int ((mU (mU (gX8_remembers M) 127 4 (((gX8_remembers M) 127 4) - y)) 127 (8 * x.toNatClampNeg + 9) (((mU (gX8_remembers M) 127 4 (((gX8_remembers M) 127 4) - y)) 127 (8 * x.toNatClampNeg + 9)) + y)) 127 (8 * x.toNatClampNeg + 9))]) (rest := []) ⟨hx, hb, hml, hown, hts⟩ (c_X8_told l D cy b n hn (mU (mU (gX8_remembers M) 127 4 (((gX8_remembers M) 127 4) - y)) 127 (8 * x.toNatClampNeg + 9) (((mU (gX8_remembers M) 127 4 (((gX8_remembers M) 127 4) - y)) 127 (8 * x.toNatClampNeg + 9)) + y)) ((mU (mU (gX8_remembers M) 127 4 (((gX8_remembers M) 127 4) - y)) 127 (8 * x.toNatClampNeg + 9) (((mU (gX8_remembers M) 127 4 (((gX8_remembers M) 127 4) - y)) 127 (8 * x.toNatClampNeg + 9)) + y)) 127 (8 * x.toNatClampNeg + 9))) (cwV 1 hts gX8_addHairs_X8_told rfl rfl rfl (by decide +kernel) ⟨Nat.le_of_ble_eq_true rfl, Nat.le_of_ble_eq_true rfl⟩) (xPreV hP hK hX hS (by omega) (cell8 (by decide)) rfl) rfl rfl hl.1 rfl (lv_room (Nat.le_of_ble_eq_true rfl)) dX8_addHairs_119 ⟨Nat.le_of_ble_eq_true rfl, Nat.le_of_ble_eq_true rfl⟩) hS (fun H locs hP hS => ?_)
            exact xe_i hx hb hr hlocks hP hS rfl (by rw [gX8_addHairs, if_neg c5, if_neg c21, if_neg c35, if_pos c45, if_pos c69] <;> rfl) (by rw [fX8_addHairs, if_neg c5, if_neg c21, if_neg c35, if_pos c45, if_pos c69] <;> rfl) (Nat.le_of_ble_eq_true rfl) (Nat.le_of_ble_eq_true rfl) dX8_addHairs_122
          · refine lv_aload_n hx hb dX8_addHairs_72 rfl (lv_at hl 0 rfl) ?_
            refine lv_iconst (v := 3) hx hb dX8_addHairs_73 (by decide) ?_
            refine xc_i (va_runV (As := [.int (3 : Int32)]) (rest := []) ⟨hx, hb, hml, hown, hts⟩ (c_X8_refuse l D cy b n hn M (3 : Int32)) (cwV 1 hts gX8_addHairs_X8_refuse rfl rfl rfl (by decide +kernel) ⟨Nat.le_of_ble_eq_true rfl, Nat.le_of_ble_eq_true rfl⟩) (xPreV hP hK hX hS (by omega) (cell8 (by decide)) rfl) rfl rfl hl.1 rfl (lv_room (Nat.le_of_ble_eq_true rfl)) dX8_addHairs_74 ⟨Nat.le_of_ble_eq_true rfl, Nat.le_of_ble_eq_true rfl⟩) hS (fun H locs hP hS => ?_)
            exact xe_i hx hb hr hlocks hP hS rfl (by rw [gX8_addHairs, if_neg c5, if_neg c21, if_neg c35, if_pos c45, if_neg c69] <;> rfl) (by rw [fX8_addHairs, if_neg c5, if_neg c21, if_neg c35, if_pos c45, if_neg c69] <;> rfl) (Nat.le_of_ble_eq_true rfl) (Nat.le_of_ble_eq_true rfl) dX8_addHairs_77
        · refine lv_aload_n hx hb dX8_addHairs_48 rfl (lv_at hl 0 rfl) ?_
          refine lv_iconst (v := 3) hx hb dX8_addHairs_49 (by decide) ?_
          refine xc_i (va_runV (As := [.int (3 : Int32)]) (rest := []) ⟨hx, hb, hml, hown, hts⟩ (c_X8_refuse l D cy b n hn M (3 : Int32)) (cwV 1 hts gX8_addHairs_X8_refuse rfl rfl rfl (by decide +kernel) ⟨Nat.le_of_ble_eq_true rfl, Nat.le_of_ble_eq_true rfl⟩) (xPreV hP hK hX hS (by omega) (cell8 (by decide)) rfl) rfl rfl hl.1 rfl (lv_room (Nat.le_of_ble_eq_true rfl)) dX8_addHairs_50 ⟨Nat.le_of_ble_eq_true rfl, Nat.le_of_ble_eq_true rfl⟩) hS (fun H locs hP hS => ?_)
          exact xe_i hx hb hr hlocks hP hS rfl (by rw [gX8_addHairs, if_neg c5, if_neg c21, if_neg c35, if_neg c45] <;> rfl) (by rw [fX8_addHairs, if_neg c5, if_neg c21, if_neg c35, if_neg c45] <;> rfl) (Nat.le_of_ble_eq_true rfl) (Nat.le_of_ble_eq_true rfl) dX8_addHairs_53
    · refine lv_aload_n hx hb dX8_addHairs_24 rfl (lv_at hl 0 rfl) ?_
      refine lv_iconst (v := 2) hx hb dX8_addHairs_25 (by decide) ?_
      refine xc_i (va_runV (As := [.int (2 : Int32)]) (rest := []) ⟨hx, hb, hml, hown, hts⟩ (c_X8_refuse l D cy b n hn M (2 : Int32)) (cwV 1 hts gX8_addHairs_X8_refuse rfl rfl rfl (by decide +kernel) ⟨Nat.le_of_ble_eq_true rfl, Nat.le_of_ble_eq_true rfl⟩) (xPreV hP hK hX hS (by omega) (cell8 (by decide)) rfl) rfl rfl hl.1 rfl (lv_room (Nat.le_of_ble_eq_true rfl)) dX8_addHairs_26 ⟨Nat.le_of_ble_eq_true rfl, Nat.le_of_ble_eq_true rfl⟩) hS (fun H locs hP hS => ?_)
      exact xe_i hx hb hr hlocks hP hS rfl (by rw [gX8_addHairs, if_neg c5, if_pos c21] <;> rfl) (by rw [fX8_addHairs, if_neg c5, if_pos c21] <;> rfl) (Nat.le_of_ble_eq_true rfl) (Nat.le_of_ble_eq_true rfl) dX8_addHairs_29
  · refine lv_aload_n hx hb dX8_addHairs_8 rfl (lv_at hl 0 rfl) ?_
    refine lv_iconst (v := 1) hx hb dX8_addHairs_9 (by decide) ?_
    refine xc_i (va_runV (As := [.int (1 : Int32)]) (rest := []) ⟨hx, hb, hml, hown, hts⟩ (c_X8_refuse l D cy b n hn M (1 : Int32)) (cwV 1 hts gX8_addHairs_X8_refuse rfl rfl rfl (by decide +kernel) ⟨Nat.le_of_ble_eq_true rfl, Nat.le_of_ble_eq_true rfl⟩) (xPreV hP hK hX hS (by omega) (cell8 (by decide)) rfl) rfl rfl hl.1 rfl (lv_room (Nat.le_of_ble_eq_true rfl)) dX8_addHairs_10 ⟨Nat.le_of_ble_eq_true rfl, Nat.le_of_ble_eq_true rfl⟩) hS (fun H locs hP hS => ?_)
    exact xe_i hx hb hr hlocks hP hS rfl (by rw [gX8_addHairs, if_pos c5] <;> rfl) (by rw [fX8_addHairs, if_pos c5] <;> rfl) (Nat.le_of_ble_eq_true rfl) (Nat.le_of_ble_eq_true rfl) dX8_addHairs_13
