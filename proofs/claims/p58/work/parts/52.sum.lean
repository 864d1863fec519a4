def sumStep (M : Mem) (v : Int64) (j : Nat) : Int64 := ((31 : Int64) * (((31 : Int64) * (((31 : Int64) * (((31 : Int64) * (((31 : Int64) * (((31 : Int64) * (((31 : Int64) * v) + ((fX7_hairsOf M (nI (j))).toInt64))) + ((fX7_brokenOf M (nI (j))).toInt64))) + ((fX7_wetnessOf M (nI (j))).toInt64))) + ((fX7_slackOf M (nI (j))).toInt64))) + ((fX7_waterOf M (nI (j))).toInt64))) + ((fX7_zeroOf M (nI (j))).toInt64))) + ((fX7_boxOf M (nI (j))).toInt64)
def sumL (M : Mem) : Nat → Int64 → Nat → Int64
  | 0, v, _ => v
  | k + 1, v, j => if M 1 1 ≤ nI j then v else sumL M k (sumStep M v j) (j + 1)
set_option maxHeartbeats 4000000 in
set_option maxRecDepth 100000 in
theorem cl_L_sum (l : Launch) (hl0 : l.stackTraces = false) (D : va_G) (cy : Nat → ClassId) (b n : Nat) (hn : 124 ≤ n) (M : Mem) (hcnt : CNT M 1) {p : Program} {e : Env} {s : State} {m : MethodId} {args : Array Value} {below : List Frame} {meth : Method} {c : Code} (hx : p.tables.exec = Jvm.exec) (hb : c.code = cL_sum) (hr : meth.sig.returnType = (some .long)) (hlocks : meth.locks = false) (hml : c.maxLocals = 4) (hown : s.vm.findClass RL = some m.cls) (hts : ∀ w ∈ wsL_sum, w.before args s = true) (hK : va_K D vwCl (tysW cy) s) (hX : SX b s) : ∀ (k : Nat) (v : Int64) (j cells slots : Nat) (H : Heap) (locs : List Loc) (ls : Array Slot), j ≤ 6 → 7 ≤ j + k → cells + 7 * (6 - j) ≤ 42 → slots + 42 * (6 - j) ≤ 252 → va_P D vwCl (wL cy b fT M n) H → va_S (fr b) s.heap H locs → lv_has ls 4 [(1, .long v), (3, .int (nI (j))), (0, .ref (b + 0))] → W p l e (headSpec wsL_sum ({ frames := 8, cells := 42, slots := 252, locals := 134 } : Room)).room s m args below meth c H locs cells slots (MQ below (CQl D cy b n fT (sumL M k v j) M) args s 42 252 (fr b)) (F0 m 48 ls []) := by
  have lk0 := hts (.constantLong RL 104 (31)) (by decide +kernel)
  intro k
  induction k with
  | zero => intro v j cells slots H locs ls hj hk; omega
  | succ k ih =>
    intro v j cells slots H locs ls hj hk hcl hsl hP hS hl
    refine lv_iload_n hx hb dL_sum_48 rfl (lv_at hl 1 rfl) ?_
    refine lv_aload_n hx hb dL_sum_49 rfl (lv_at hl 2 rfl) ?_
    refine xc_i (va_runV (As := []) (rest := [.int (nI (j))]) ⟨hx, hb, hml, hown, hts⟩ (c_X7_instrumentCount l D cy b n (by omega) M ) (cwV 0 hts gL_sum_X7_instrumentCount rfl rfl rfl (by decide +kernel) ⟨Nat.le_of_ble_eq_true rfl, Nat.le_of_ble_eq_true rfl⟩) (xPreV hP hK hX hS (by omega) (cell7 (by decide)) rfl) rfl rfl hl.1 rfl (lv_room (Nat.le_of_ble_eq_true rfl)) dL_sum_50 ⟨by show _ ≤ 42; omega, by show _ ≤ 252; omega⟩) hS (fun H locs hP hS => ?_)
    refine lv_icmp_ge (tgt := 143) hx hb dL_sum_53 (by decide) (fun c53 => ?_) (fun c53 => ?_)
    · have c53 : M 1 1 ≤ nI j := c53
      refine lv_lload_n hx hb dL_sum_143 rfl (lv_at hl 0 rfl) ?_
      exact xe_l hx hb hr hlocks hP hS rfl rfl (by rw [sumL, if_pos c53]) (by omega) (by omega) dL_sum_144
    · have c53 : ¬ M 1 1 ≤ nI j := c53
      obtain ⟨c0, hc6, h1⟩ := id hcnt
      have hjc : j < c0 := by rw [h1, nI_leI (by omega) (by omega)] at c53; omega
      refine lv_ldc2 (v := 31) hx hb hown lk0 dL_sum_56 ?_
      refine lv_ldc2 (v := 31) hx hb hown lk0 dL_sum_59 ?_
      refine lv_ldc2 (v := 31) hx hb hown lk0 dL_sum_62 ?_
      refine lv_ldc2 (v := 31) hx hb hown lk0 dL_sum_65 ?_
      refine lv_lload_n hx hb dL_sum_68 rfl (lv_at hl 0 rfl) ?_
      refine lv_lmul hx hb dL_sum_69 ?_
      refine lv_aload_n hx hb dL_sum_70 rfl (lv_at hl 2 rfl) ?_
      refine lv_iload_n hx hb dL_sum_71 rfl (lv_at hl 1 rfl) ?_
      refine xct_i (vx_runV (As := [.int (nI (j))]) (rest := [.long ((31 : Int64) * v), .long (31 : Int64), .long (31 : Int64), .long (31 : Int64)]) ⟨hx, hb, hml, hown, hts⟩ (c_X7_hairsOf l hl0 D cy b n (by omega) M (nI (j)) hcnt) (cwV 1 hts gL_sum_X7_hairsOf rfl rfl rfl (by decide +kernel) ⟨Nat.le_of_ble_eq_true rfl, Nat.le_of_ble_eq_true rfl⟩) (xPreV hP hK hX hS (by omega) (cell7 (by decide)) rfl) rfl rfl hl.1 rfl (lv_room (Nat.le_of_ble_eq_true rfl)) dL_sum_72 ⟨by show _ ≤ 42; omega, by show _ ≤ 252; omega⟩) hS (fun E ce q H locs hE _ _ _ _ _ => absurd (t0_hairsOf (t0_at h1 hc6 hjc)) (exn_ne hE)) (fun H locs _ hP hS => ?_)
      refine lv_i2l hx hb dL_sum_75 rfl ?_
      refine lv_ladd hx hb dL_sum_76 ?_
      refine lv_lmul hx hb dL_sum_77 ?_
      refine lv_aload_n hx hb dL_sum_78 rfl (lv_at hl 2 rfl) ?_
      refine lv_iload_n hx hb dL_sum_79 rfl (lv_at hl 1 rfl) ?_
      refine xct_i (vx_runV (As := [.int (nI (j))]) (rest := [.long ((31 : Int64) * (((31 : Int64) * v) + ((fX7_hairsOf M (nI (j))).toInt64))), .long (31 : Int64), .long (31 : Int64)]) ⟨hx, hb, hml, hown, hts⟩ (c_X7_brokenOf l hl0 D cy b n (by omega) M (nI (j)) hcnt) (cwV 1 hts gL_sum_X7_brokenOf rfl rfl rfl (by decide +kernel) ⟨Nat.le_of_ble_eq_true rfl, Nat.le_of_ble_eq_true rfl⟩) (xPreV hP hK hX hS (by omega) (cell7 (by decide)) rfl) rfl rfl hl.1 rfl (lv_room (Nat.le_of_ble_eq_true rfl)) dL_sum_80 ⟨by show _ ≤ 42; omega, by show _ ≤ 252; omega⟩) hS (fun E ce q H locs hE _ _ _ _ _ => absurd (t0_brokenOf (t0_at h1 hc6 hjc)) (exn_ne hE)) (fun H locs _ hP hS => ?_)
      refine lv_i2l hx hb dL_sum_83 rfl ?_
      refine lv_ladd hx hb dL_sum_84 ?_
      refine lv_lmul hx hb dL_sum_85 ?_
      refine lv_aload_n hx hb dL_sum_86 rfl (lv_at hl 2 rfl) ?_
      refine lv_iload_n hx hb dL_sum_87 rfl (lv_at hl 1 rfl) ?_
      refine xct_i (vx_runV (As := [.int (nI (j))]) (rest := [.long ((31 : Int64) * (((31 : Int64) * (((31 : Int64) * v) + ((fX7_hairsOf M (nI (j))).toInt64))) + ((fX7_brokenOf M (nI (j))).toInt64))), .long (31 : Int64)]) ⟨hx, hb, hml, hown, hts⟩ (c_X7_wetnessOf l hl0 D cy b n (by omega) M (nI (j)) hcnt) (cwV 1 hts gL_sum_X7_wetnessOf rfl rfl rfl (by decide +kernel) ⟨Nat.le_of_ble_eq_true rfl, Nat.le_of_ble_eq_true rfl⟩) (xPreV hP hK hX hS (by omega) (cell7 (by decide)) rfl) rfl rfl hl.1 rfl (lv_room (Nat.le_of_ble_eq_true rfl)) dL_sum_88 ⟨by show _ ≤ 42; omega, by show _ ≤ 252; omega⟩) hS (fun E ce q H locs hE _ _ _ _ _ => absurd (t0_wetnessOf (t0_at h1 hc6 hjc)) (exn_ne hE)) (fun H locs _ hP hS => ?_)
      refine lv_i2l hx hb dL_sum_91 rfl ?_
      refine lv_ladd hx hb dL_sum_92 ?_
      refine lv_lmul hx hb dL_sum_93 ?_
      refine lv_aload_n hx hb dL_sum_94 rfl (lv_at hl 2 rfl) ?_
      refine lv_iload_n hx hb dL_sum_95 rfl (lv_at hl 1 rfl) ?_
      refine xct_i (vx_runV (As := [.int (nI (j))]) (rest := [.long ((31 : Int64) * (((31 : Int64) * (((31 : Int64) * (((31 : Int64) * v) + ((fX7_hairsOf M (nI (j))).toInt64))) + ((fX7_brokenOf M (nI (j))).toInt64))) + ((fX7_wetnessOf M (nI (j))).toInt64)))]) ⟨hx, hb, hml, hown, hts⟩ (c_X7_slackOf l hl0 D cy b n (by omega) M (nI (j)) hcnt) (cwV 1 hts gL_sum_X7_slackOf rfl rfl rfl (by decide +kernel) ⟨Nat.le_of_ble_eq_true rfl, Nat.le_of_ble_eq_true rfl⟩) (xPreV hP hK hX hS (by omega) (cell7 (by decide)) rfl) rfl rfl hl.1 rfl (lv_room (Nat.le_of_ble_eq_true rfl)) dL_sum_96 ⟨by show _ ≤ 42; omega, by show _ ≤ 252; omega⟩) hS (fun E ce q H locs hE _ _ _ _ _ => absurd (t0_slackOf (t0_at h1 hc6 hjc)) (exn_ne hE)) (fun H locs _ hP hS => ?_)
      refine lv_i2l hx hb dL_sum_99 rfl ?_
      refine lv_ladd hx hb dL_sum_100 ?_
      refine lv_lstore_n (lv' := [(1, .long (((31 : Int64) * (((31 : Int64) * (((31 : Int64) * (((31 : Int64) * v) + ((fX7_hairsOf M (nI (j))).toInt64))) + ((fX7_brokenOf M (nI (j))).toInt64))) + ((fX7_wetnessOf M (nI (j))).toInt64))) + ((fX7_slackOf M (nI (j))).toInt64))), (3, .int (nI (j))), (0, .ref (b + 0))]) hx hb dL_sum_101 rfl hl (by decide) rfl (fun ls hl => ?_)
      refine lv_ldc2 (v := 31) hx hb hown lk0 dL_sum_102 ?_
      refine lv_ldc2 (v := 31) hx hb hown lk0 dL_sum_105 ?_
      refine lv_ldc2 (v := 31) hx hb hown lk0 dL_sum_108 ?_
      refine lv_lload_n hx hb dL_sum_111 rfl (lv_at hl 0 rfl) ?_
      refine lv_lmul hx hb dL_sum_112 ?_
      refine lv_aload_n hx hb dL_sum_113 rfl (lv_at hl 2 rfl) ?_
      refine lv_iload_n hx hb dL_sum_114 rfl (lv_at hl 1 rfl) ?_
      refine xct_i (vx_runV (As := [.int (nI (j))]) (rest := [.long ((31 : Int64) * (((31 : Int64) * (((31 : Int64) * (((31 : Int64) * (((31 : Int64) * v) + ((fX7_hairsOf M (nI (j))).toInt64))) + ((fX7_brokenOf M (nI (j))).toInt64))) + ((fX7_wetnessOf M (nI (j))).toInt64))) + ((fX7_slackOf M (nI (j))).toInt64))), .long (31 : Int64), .long (31 : Int64)]) ⟨hx, hb, hml, hown, hts⟩ (c_X7_waterOf l hl0 D cy b n (by omega) M (nI (j)) hcnt) (cwV 1 hts gL_sum_X7_waterOf rfl rfl rfl (by decide +kernel) ⟨Nat.le_of_ble_eq_true rfl, Nat.le_of_ble_eq_true rfl⟩) (xPreV hP hK hX hS (by omega) (cell7 (by decide)) rfl) rfl rfl hl.1 rfl (lv_room (Nat.le_of_ble_eq_true rfl)) dL_sum_115 ⟨by show _ ≤ 42; omega, by show _ ≤ 252; omega⟩) hS (fun E ce q H locs hE _ _ _ _ _ => absurd (t0_waterOf (t0_at h1 hc6 hjc)) (exn_ne hE)) (fun H locs _ hP hS => ?_)
      refine lv_i2l hx hb dL_sum_118 rfl ?_
      refine lv_ladd hx hb dL_sum_119 ?_
      refine lv_lmul hx hb dL_sum_120 ?_
      refine lv_aload_n hx hb dL_sum_121 rfl (lv_at hl 2 rfl) ?_
      refine lv_iload_n hx hb dL_sum_122 rfl (lv_at hl 1 rfl) ?_
      refine xct_i (vx_runV (As := [.int (nI (j))]) (rest := [.long ((31 : Int64) * (((31 : Int64) * (((31 : Int64) * (((31 : Int64) * (((31 : Int64) * (((31 : Int64) * v) + ((fX7_hairsOf M (nI (j))).toInt64))) + ((fX7_brokenOf M (nI (j))).toInt64))) + ((fX7_wetnessOf M (nI (j))).toInt64))) + ((fX7_slackOf M (nI (j))).toInt64))) + ((fX7_waterOf M (nI (j))).toInt64))), .long (31 : Int64)]) ⟨hx, hb, hml, hown, hts⟩ (c_X7_zeroOf l hl0 D cy b n (by omega) M (nI (j)) hcnt) (cwV 1 hts gL_sum_X7_zeroOf rfl rfl rfl (by decide +kernel) ⟨Nat.le_of_ble_eq_true rfl, Nat.le_of_ble_eq_true rfl⟩) (xPreV hP hK hX hS (by omega) (cell7 (by decide)) rfl) rfl rfl hl.1 rfl (lv_room (Nat.le_of_ble_eq_true rfl)) dL_sum_123 ⟨by show _ ≤ 42; omega, by show _ ≤ 252; omega⟩) hS (fun E ce q H locs hE _ _ _ _ _ => absurd (t0_zeroOf (t0_at h1 hc6 hjc)) (exn_ne hE)) (fun H locs _ hP hS => ?_)
      refine lv_i2l hx hb dL_sum_126 rfl ?_
      refine lv_ladd hx hb dL_sum_127 ?_
      refine lv_lmul hx hb dL_sum_128 ?_
      refine lv_aload_n hx hb dL_sum_129 rfl (lv_at hl 2 rfl) ?_
      refine lv_iload_n hx hb dL_sum_130 rfl (lv_at hl 1 rfl) ?_
      refine xct_i (vx_runV (As := [.int (nI (j))]) (rest := [.long ((31 : Int64) * (((31 : Int64) * (((31 : Int64) * (((31 : Int64) * (((31 : Int64) * (((31 : Int64) * (((31 : Int64) * v) + ((fX7_hairsOf M (nI (j))).toInt64))) + ((fX7_brokenOf M (nI (j))).toInt64))) + ((fX7_wetnessOf M (nI (j))).toInt64))) + ((fX7_slackOf M (nI (j))).toInt64))) + ((fX7_waterOf M (nI (j))).toInt64))) + ((fX7_zeroOf M (nI (j))).toInt64)))]) ⟨hx, hb, hml, hown, hts⟩ (c_X7_boxOf l hl0 D cy b n (by omega) M (nI (j)) hcnt) (cwV 1 hts gL_sum_X7_boxOf rfl rfl rfl (by decide +kernel) ⟨Nat.le_of_ble_eq_true rfl, Nat.le_of_ble_eq_true rfl⟩) (xPreV hP hK hX hS (by omega) (cell7 (by decide)) rfl) rfl rfl hl.1 rfl (lv_room (Nat.le_of_ble_eq_true rfl)) dL_sum_131 ⟨by show _ ≤ 42; omega, by show _ ≤ 252; omega⟩) hS (fun E ce q H locs hE _ _ _ _ _ => absurd (t0_boxOf (t0_at h1 hc6 hjc)) (exn_ne hE)) (fun H locs _ hP hS => ?_)
      refine lv_i2l hx hb dL_sum_134 rfl ?_
      refine lv_ladd hx hb dL_sum_135 ?_
      refine lv_lstore_n (lv' := [(1, .long (((31 : Int64) * (((31 : Int64) * (((31 : Int64) * (((31 : Int64) * (((31 : Int64) * (((31 : Int64) * (((31 : Int64) * v) + ((fX7_hairsOf M (nI (j))).toInt64))) + ((fX7_brokenOf M (nI (j))).toInt64))) + ((fX7_wetnessOf M (nI (j))).toInt64))) + ((fX7_slackOf M (nI (j))).toInt64))) + ((fX7_waterOf M (nI (j))).toInt64))) + ((fX7_zeroOf M (nI (j))).toInt64))) + ((fX7_boxOf M (nI (j))).toInt64))), (3, .int (nI (j))), (0, .ref (b + 0))]) hx hb dL_sum_136 rfl hl (by decide) rfl (fun ls hl => ?_)
      refine lv_iinc (v := nI (j + 1)) (lv' := [(3, .int (nI (j + 1))), (1, .long (((31 : Int64) * (((31 : Int64) * (((31 : Int64) * (((31 : Int64) * (((31 : Int64) * (((31 : Int64) * (((31 : Int64) * v) + ((fX7_hairsOf M (nI (j))).toInt64))) + ((fX7_brokenOf M (nI (j))).toInt64))) + ((fX7_wetnessOf M (nI (j))).toInt64))) + ((fX7_slackOf M (nI (j))).toInt64))) + ((fX7_waterOf M (nI (j))).toInt64))) + ((fX7_zeroOf M (nI (j))).toInt64))) + ((fX7_boxOf M (nI (j))).toInt64))), (0, .ref (b + 0))]) hx hb dL_sum_137 hl (k := 1) rfl (ixAdd (a := j) (c := 1) (d := j + 1) rfl rfl (by omega)) (by decide) rfl (fun ls hl => ?_)
      refine lv_goto (tgt := 48) hx hb dL_sum_140 (by decide) ?_
      rw [show sumL M (k + 1) v j = sumL M k (sumStep M v j) (j + 1) from by rw [sumL, if_neg c53]]
      exact ih (sumStep M v j) (j + 1) (cells + 7) (slots + 42) H locs ls (by omega) (by omega) (by omega) (by omega) hP hS (lv_sub hl [1, 0, 2] rfl)
def sumHead (M : Mem) : Int64 := ((31 : Int64) * (((31 : Int64) * (((31 : Int64) * (((31 : Int64) * ((fX7_minute M).toInt64)) + ((fX7_humidity M).toInt64))) + ((fX7_temperature M).toInt64))) + ((fX7_skill M).toInt64))) + ((fX7_hairStock M).toInt64)
def sumF (M : Mem) : Int64 := sumL M 7 (sumHead M) 0
set_option maxHeartbeats 4000000 in
set_option maxRecDepth 100000 in
theorem c_L_sum (l : Launch) (hl0 : l.stackTraces = false) (D : va_G) (cy : Nat → ClassId) (b n : Nat) (hn : 124 ≤ n) (M : Mem) (hcnt : CNT M 1) : Met l yL_sum wsL_sum ({ frames := 8, cells := 42, slots := 252, locals := 134 } : Room) (CP D cy b n fT M [.ref (b + 0)]) (CQl D cy b n fT (sumF M) M) 42 252 (fr b) := by
  refine Met.ofW (cc := cL_sum) (maxL := 4) (ret := some .long) (by decide) rfl ?_
  intro p e s m args below meth c s₁ B hml hv
  obtain ⟨rfl, hP, hK, hX⟩ := hv
  have hx := B.exec
  have hb := B.bytes
  have hr := B.returns
  have hts := atoms_spec (ws := wsL_sum) B.pre
  have hown : s.vm.findClass RL = some m.cls := findClass_of_methodNamed B.named
  have hlocks := B.notSynchronized
  have hS : va_S (fr b) s.heap s.heap [] := va_S.rf
  have hl := lv_entry ([.ref (b + 0)]) (n := 4) (Nat.le_of_ble_eq_true rfl)
  rw [lg_entry_eq]
  generalize (lg_sl ([.ref (b + 0)]) ++ List.replicate (4 - (lg_sl ([.ref (b + 0)])).length) Slot.unset).toArray = ls at hl ⊢
  have hl : lv_has ls 4 [(0, .ref (b + 0))] := hl
  have lk0 := hts (.constantLong RL 104 (31)) (by decide +kernel)
  refine lv_ldc2 (v := 31) hx hb hown lk0 dL_sum_0 ?_
  refine lv_ldc2 (v := 31) hx hb hown lk0 dL_sum_3 ?_
  refine lv_ldc2 (v := 31) hx hb hown lk0 dL_sum_6 ?_
  refine lv_ldc2 (v := 31) hx hb hown lk0 dL_sum_9 ?_
  refine lv_aload_n hx hb dL_sum_12 rfl (lv_at hl 0 rfl) ?_
  refine xc_i (va_runV (As := []) (rest := [.long (31 : Int64), .long (31 : Int64), .long (31 : Int64), .long (31 : Int64)]) ⟨hx, hb, hml, hown, hts⟩ (c_X7_minute l D cy b n (by omega) M ) (cwV 0 hts gL_sum_X7_minute rfl rfl rfl (by decide +kernel) ⟨Nat.le_of_ble_eq_true rfl, Nat.le_of_ble_eq_true rfl⟩) (xPreV hP hK hX hS (by omega) (cell7 (by decide)) rfl) rfl rfl hl.1 rfl (lv_room (Nat.le_of_ble_eq_true rfl)) dL_sum_13 ⟨Nat.le_of_ble_eq_true rfl, Nat.le_of_ble_eq_true rfl⟩) hS (fun H locs hP hS => ?_)
  refine lv_i2l hx hb dL_sum_16 rfl ?_
  refine lv_lmul hx hb dL_sum_17 ?_
  refine lv_aload_n hx hb dL_sum_18 rfl (lv_at hl 0 rfl) ?_
  refine xc_i (va_runV (As := []) (rest := [.long ((31 : Int64) * ((fX7_minute M).toInt64)), .long (31 : Int64), .long (31 : Int64), .long (31 : Int64)]) ⟨hx, hb, hml, hown, hts⟩ (c_X7_humidity l D cy b n (by omega) M ) (cwV 0 hts gL_sum_X7_humidity rfl rfl rfl (by decide +kernel) ⟨Nat.le_of_ble_eq_true rfl, Nat.le_of_ble_eq_true rfl⟩) (xPreV hP hK hX hS (by omega) (cell7 (by decide)) rfl) rfl rfl hl.1 rfl (lv_room (Nat.le_of_ble_eq_true rfl)) dL_sum_19 ⟨Nat.le_of_ble_eq_true rfl, Nat.le_of_ble_eq_true rfl⟩) hS (fun H locs hP hS => ?_)
  refine lv_i2l hx hb dL_sum_22 rfl ?_
  refine lv_ladd hx hb dL_sum_23 ?_
  refine lv_lmul hx hb dL_sum_24 ?_
  refine lv_aload_n hx hb dL_sum_25 rfl (lv_at hl 0 rfl) ?_
  refine xc_i (va_runV (As := []) (rest := [.long ((31 : Int64) * (((31 : Int64) * ((fX7_minute M).toInt64)) + ((fX7_humidity M).toInt64))), .long (31 : Int64), .long (31 : Int64)]) ⟨hx, hb, hml, hown, hts⟩ (c_X7_temperature l D cy b n (by omega) M ) (cwV 0 hts gL_sum_X7_temperature rfl rfl rfl (by decide +kernel) ⟨Nat.le_of_ble_eq_true rfl, Nat.le_of_ble_eq_true rfl⟩) (xPreV hP hK hX hS (by omega) (cell7 (by decide)) rfl) rfl rfl hl.1 rfl (lv_room (Nat.le_of_ble_eq_true rfl)) dL_sum_26 ⟨Nat.le_of_ble_eq_true rfl, Nat.le_of_ble_eq_true rfl⟩) hS (fun H locs hP hS => ?_)
  refine lv_i2l hx hb dL_sum_29 rfl ?_
  refine lv_ladd hx hb dL_sum_30 ?_
  refine lv_lmul hx hb dL_sum_31 ?_
  refine lv_aload_n hx hb dL_sum_32 rfl (lv_at hl 0 rfl) ?_
  refine xc_i (va_runV (As := []) (rest := [.long ((31 : Int64) * (((31 : Int64) * (((31 : Int64) * ((fX7_minute M).toInt64)) + ((fX7_humidity M).toInt64))) + ((fX7_temperature M).toInt64))), .long (31 : Int64)]) ⟨hx, hb, hml, hown, hts⟩ (c_X7_skill l D cy b n (by omega) M ) (cwV 0 hts gL_sum_X7_skill rfl rfl rfl (by decide +kernel) ⟨Nat.le_of_ble_eq_true rfl, Nat.le_of_ble_eq_true rfl⟩) (xPreV hP hK hX hS (by omega) (cell7 (by decide)) rfl) rfl rfl hl.1 rfl (lv_room (Nat.le_of_ble_eq_true rfl)) dL_sum_33 ⟨Nat.le_of_ble_eq_true rfl, Nat.le_of_ble_eq_true rfl⟩) hS (fun H locs hP hS => ?_)
  refine lv_i2l hx hb dL_sum_36 rfl ?_
  refine lv_ladd hx hb dL_sum_37 ?_
  refine lv_lmul hx hb dL_sum_38 ?_
  refine lv_aload_n hx hb dL_sum_39 rfl (lv_at hl 0 rfl) ?_
  refine xc_i (va_runV (As := []) (rest := [.long ((31 : Int64) * (((31 : Int64) * (((31 : Int64) * (((31 : Int64) * ((fX7_minute M).toInt64)) + ((fX7_humidity M).toInt64))) + ((fX7_temperature M).toInt64))) + ((fX7_skill M).toInt64)))]) ⟨hx, hb, hml, hown, hts⟩ (c_X7_hairStock l D cy b n (by omega) M ) (cwV 0 hts gL_sum_X7_hairStock rfl rfl rfl (by decide +kernel) ⟨Nat.le_of_ble_eq_true rfl, Nat.le_of_ble_eq_true rfl⟩) (xPreV hP hK hX hS (by omega) (cell7 (by decide)) rfl) rfl rfl hl.1 rfl (lv_room (Nat.le_of_ble_eq_true rfl)) dL_sum_40 ⟨Nat.le_of_ble_eq_true rfl, Nat.le_of_ble_eq_true rfl⟩) hS (fun H locs hP hS => ?_)
  refine lv_i2l hx hb dL_sum_43 rfl ?_
  refine lv_ladd hx hb dL_sum_44 ?_
  refine lv_lstore_n (lv' := [(1, .long (((31 : Int64) * (((31 : Int64) * (((31 : Int64) * (((31 : Int64) * ((fX7_minute M).toInt64)) + ((fX7_humidity M).toInt64))) + ((fX7_temperature M).toInt64))) + ((fX7_skill M).toInt64))) + ((fX7_hairStock M).toInt64))), (0, .ref (b + 0))]) hx hb dL_sum_45 rfl hl (by decide) rfl (fun ls hl => ?_)
  refine lv_iconst (v := 0) hx hb dL_sum_46 (by decide) ?_
  refine lv_istore_n (lv' := [(3, .int (0 : Int32)), (1, .long (((31 : Int64) * (((31 : Int64) * (((31 : Int64) * (((31 : Int64) * ((fX7_minute M).toInt64)) + ((fX7_humidity M).toInt64))) + ((fX7_temperature M).toInt64))) + ((fX7_skill M).toInt64))) + ((fX7_hairStock M).toInt64))), (0, .ref (b + 0))]) hx hb dL_sum_47 rfl hl (by decide) rfl (fun ls hl => ?_)
  exact cl_L_sum l hl0 D cy b n hn M hcnt hx hb hr hlocks hml hown hts hK hX 7 (sumHead M) 0 0 0 H locs ls (by omega) (by omega) (by omega) (by omega) hP hS (lv_sub hl [1, 0, 2] rfl)
