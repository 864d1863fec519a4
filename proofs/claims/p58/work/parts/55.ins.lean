set_option maxHeartbeats 4000000 in
set_option maxRecDepth 100000 in
theorem cl_L_instruments (l : Launch) (hl0 : l.stackTraces = false) (D : va_G) (cy : Nat → ClassId) (b n : Nat) (hn : 124 ≤ n) (M0 : Mem) {mx : Nat} (hI0 : INV mx M0) {p : Program} {e : Env} {s : State} {m : MethodId} {args : Array Value} {below : List Frame} {meth : Method} {c : Code} (hx : p.tables.exec = Jvm.exec) (hb : c.code = cL_instruments) (hr : meth.sig.returnType = (some .boolean)) (hlocks : meth.locks = false) (hml : c.maxLocals = 14) (hown : s.vm.findClass RL = some m.cls) (hts : ∀ w ∈ wsL_instruments, w.before args s = true) (hK : va_K D vwCl (tysW cy) s) (hX : SX b s) : ∀ (k : Nat) (M : Mem) (j cells slots : Nat) (H : Heap) (locs : List Loc) (ls : Array Slot), EQP M0 M → j ≤ 6 → 7 ≤ j + k → cells + 26 * (6 - j) ≤ 156 → slots + 156 * (6 - j) ≤ 936 → va_P D vwCl (wL cy b fT M n) H → va_S (fr b) s.heap H locs → lv_has ls 14 [(1, .int (1 : Int32)), (2, .int (nI (j))), (0, .ref (b + 0))] → W p l e (headSpec wsL_instruments ({ frames := 8, cells := 156, slots := 936, locals := 135 } : Room)).room s m args below meth c H locs cells slots (MQ below (CQe D cy b n 1 (EQP M0)) args s 156 936 (fr b)) (F0 m 15 ls []) := by
  have lk0 := hts (.methodLink RL 155 Lib.Math.min.name) (by decide +kernel)
  have lk1 := hts (.static Lib.Math.min.name) (by decide +kernel)
  have lk2 := hts (.initialized "java/lang/Math") (by decide +kernel)
  have lk3 := hts (.code Lib.Math.min.name Lib.Math.min.code 2 (some .int)) (by decide +kernel)
  have lk4 := hts (.methodLink RL 160 Lib.Math.max.name) (by decide +kernel)
  have lk5 := hts (.static Lib.Math.max.name) (by decide +kernel)
  have lk6 := hts (.code Lib.Math.max.name Lib.Math.max.code 2 (some .int)) (by decide +kernel)
  intro k
  induction k with
  | zero => intro M j cells slots H locs ls hE hj hk; omega
  | succ k ih =>
    intro M j cells slots H locs ls hE hj hk hcl hsl hP hS hl
    have hI1 := hI0.eqp hE
    obtain ⟨c0, hc6, h1⟩ := inv_cnt hI1
    have hcn : CNT M 1 := ⟨c0, hc6, h1⟩
    refine lv_iload_n hx hb dL_instruments_15 rfl (lv_at hl 1 rfl) ?_
    refine lv_aload_n hx hb dL_instruments_16 rfl (lv_at hl 2 rfl) ?_
    refine xc_i (va_runV (As := []) (rest := [.int (nI (j))]) ⟨hx, hb, hml, hown, hts⟩ (c_X7_instrumentCount l D cy b n (by omega) M ) (cwV 0 hts gL_instruments_X7_instrumentCount rfl rfl rfl (by decide +kernel) ⟨Nat.le_of_ble_eq_true rfl, Nat.le_of_ble_eq_true rfl⟩) (xPreV hP hK hX hS (by omega) (cell7 (by decide)) rfl) rfl rfl hl.1 rfl (lv_room (Nat.le_of_ble_eq_true rfl)) dL_instruments_17 ⟨by show _ ≤ 156; omega, by show _ ≤ 936; omega⟩) hS (fun H locs hP hS => ?_)
    refine lv_icmp_ge (tgt := 451) hx hb dL_instruments_20 (by decide) (fun c20 => ?_) (fun c20 => ?_)
    · have c20 : M 1 1 ≤ nI j := c20
      refine lv_iload_n hx hb dL_instruments_451 rfl (lv_at hl 0 rfl) ?_
      exact xe_e hx hb hr hlocks hP hS hE rfl rfl (by omega) (by omega) dL_instruments_452
    · have c20 : ¬ M 1 1 ≤ nI j := c20
      have hjc : j < c0 := by rw [h1, nI_leI (by omega) (by omega)] at c20; omega
      have hj6 : j < 6 := by omega
      have hI : I1 M (nI j) := inv_i1 hI1 h1 hc6 hjc
      refine lv_iload_n hx hb dL_instruments_23 rfl (lv_at hl 0 rfl) ?_
      refine lv_if_eq (tgt := 451) hx hb dL_instruments_24 (by decide) (fun c24 => absurd c24 (by decide)) (fun c24 => ?_)
      refine lv_aload_n hx hb dL_instruments_27 rfl (lv_at hl 2 rfl) ?_
      refine lv_iload_n hx hb dL_instruments_28 rfl (lv_at hl 1 rfl) ?_
      refine xct_i (vx_runV (As := [.int (nI (j))]) (rest := []) ⟨hx, hb, hml, hown, hts⟩ (c_X7_isHair l hl0 D cy b n (by omega) M (nI (j)) hcn) (cwV 1 hts gL_instruments_X7_isHair rfl rfl rfl (by decide +kernel) ⟨Nat.le_of_ble_eq_true rfl, Nat.le_of_ble_eq_true rfl⟩) (xPreV hP hK hX hS (by omega) (cell7 (by decide)) rfl) rfl rfl hl.1 rfl (lv_room (Nat.le_of_ble_eq_true rfl)) dL_instruments_29 ⟨by show _ ≤ 156; omega, by show _ ≤ 936; omega⟩) hS (fun E ce q H locs hE _ _ _ _ _ => absurd (t0_isHair (t0_at h1 hc6 hjc)) (exn_ne hE)) (fun H locs _ hP hS => ?_)
      refine lv_istore_n (lv' := [(3, .int (fX7_isHair M (nI (j)))), (1, .int (1 : Int32)), (2, .int (nI (j))), (0, .ref (b + 0))]) hx hb dL_instruments_32 rfl hl (by decide) rfl (fun ls hl => ?_)
      refine lv_aload_n hx hb dL_instruments_33 rfl (lv_at hl 3 rfl) ?_
      refine lv_iload_n hx hb dL_instruments_34 rfl (lv_at hl 2 rfl) ?_
      refine xct_i (vx_runV (As := [.int (nI (j))]) (rest := []) ⟨hx, hb, hml, hown, hts⟩ (c_X7_boxOf l hl0 D cy b n (by omega) M (nI (j)) hcn) (cwV 1 hts gL_instruments_X7_boxOf rfl rfl rfl (by decide +kernel) ⟨Nat.le_of_ble_eq_true rfl, Nat.le_of_ble_eq_true rfl⟩) (xPreV hP hK hX hS (by omega) (cell7 (by decide)) rfl) rfl rfl hl.1 rfl (lv_room (Nat.le_of_ble_eq_true rfl)) dL_instruments_35 ⟨by show _ ≤ 156; omega, by show _ ≤ 936; omega⟩) hS (fun E ce q H locs hE _ _ _ _ _ => absurd (t0_boxOf (t0_at h1 hc6 hjc)) (exn_ne hE)) (fun H locs _ hP hS => ?_)
      refine lv_iconst (v := (-1)) hx hb dL_instruments_38 (by decide) ?_
      have k47 : ∀ (H : Heap) (locs : List Loc) (ls : Array Slot), va_P D vwCl (wL cy b fT M n) H → va_S (fr b) s.heap H locs → lv_has ls 14 [(3, .int (fX7_isHair M (nI (j)))), (1, .int (1 : Int32)), (2, .int (nI (j))), (0, .ref (b + 0))] → W p l e (headSpec wsL_instruments ({ frames := 8, cells := 156, slots := 936, locals := 135 } : Room)).room s m args below meth c H locs (cells + 2) (slots + 12) (MQ below (CQe D cy b n 1 (EQP M0)) args s 156 936 (fr b)) (F0 m 47 ls (.int (outF M (nI j)) :: [])) := by
        intro H locs ls hP hS hl
        refine lv_istore (lv' := [(4, .int (outF M (nI j))), (3, .int (fX7_isHair M (nI (j)))), (1, .int (1 : Int32)), (2, .int (nI (j))), (0, .ref (b + 0))]) hx hb dL_instruments_47 hl (by decide) rfl (fun ls hl => ?_)
        refine lv_iload hx hb dL_instruments_49 (lv_at hl 0 rfl) ?_
        have k70 : ∀ (H : Heap) (locs : List Loc) (ls : Array Slot), va_P D vwCl (wL cy b fT M n) H → va_S (fr b) s.heap H locs → lv_has ls 14 [(4, .int (outF M (nI j))), (3, .int (fX7_isHair M (nI (j)))), (1, .int (1 : Int32)), (2, .int (nI (j))), (0, .ref (b + 0))] → W p l e (headSpec wsL_instruments ({ frames := 8, cells := 156, slots := 936, locals := 135 } : Room)).room s m args below meth c H locs (cells + 4) (slots + 24) (MQ below (CQe D cy b n 1 (EQP M0)) args s 156 936 (fr b)) (F0 m 70 ls (.int (fX7_surroundingOf M (nI j)) :: [])) := by
          intro H locs ls hP hS hl
          refine lv_istore (lv' := [(5, .int (fX7_surroundingOf M (nI j))), (4, .int (outF M (nI j))), (3, .int (fX7_isHair M (nI (j)))), (1, .int (1 : Int32)), (2, .int (nI (j))), (0, .ref (b + 0))]) hx hb dL_instruments_70 hl (by decide) rfl (fun ls hl => ?_)
          refine lv_aload_n hx hb dL_instruments_72 rfl (lv_at hl 5 rfl) ?_
          refine xc_i (va_runV (As := []) (rest := []) ⟨hx, hb, hml, hown, hts⟩ (c_X7_temperature l D cy b n (by omega) M ) (cwV 0 hts gL_instruments_X7_temperature rfl rfl rfl (by decide +kernel) ⟨Nat.le_of_ble_eq_true rfl, Nat.le_of_ble_eq_true rfl⟩) (xPreV hP hK hX hS (by omega) (cell7 (by decide)) rfl) rfl rfl hl.1 rfl (lv_room (Nat.le_of_ble_eq_true rfl)) dL_instruments_73 ⟨by show _ ≤ 156; omega, by show _ ≤ 936; omega⟩) hS (fun H locs hP hS => ?_)
          refine lv_bipush (v := 10) hx hb dL_instruments_76 (by decide) ?_
          refine lv_iadd hx hb dL_instruments_78 ?_
          refine lv_istore (lv' := [(6, .int ((fX7_temperature M) + (10 : Int32))), (5, .int (fX7_surroundingOf M (nI j))), (4, .int (outF M (nI j))), (3, .int (fX7_isHair M (nI (j)))), (1, .int (1 : Int32)), (2, .int (nI (j))), (0, .ref (b + 0))]) hx hb dL_instruments_79 hl (by decide) rfl (fun ls hl => ?_)
          refine lv_aload_n hx hb dL_instruments_81 rfl (lv_at hl 6 rfl) ?_
          refine lv_iload_n hx hb dL_instruments_82 rfl (lv_at hl 5 rfl) ?_
          refine xct_i (vx_runV (As := [.int (nI (j))]) (rest := []) ⟨hx, hb, hml, hown, hts⟩ (c_X7_waterOf l hl0 D cy b n (by omega) M (nI (j)) hcn) (cwV 1 hts gL_instruments_X7_waterOf rfl rfl rfl (by decide +kernel) ⟨Nat.le_of_ble_eq_true rfl, Nat.le_of_ble_eq_true rfl⟩) (xPreV hP hK hX hS (by omega) (cell7 (by decide)) rfl) rfl rfl hl.1 rfl (lv_room (Nat.le_of_ble_eq_true rfl)) dL_instruments_83 ⟨by show _ ≤ 156; omega, by show _ ≤ 936; omega⟩) hS (fun E ce q H locs hE _ _ _ _ _ => absurd (t0_waterOf (t0_at h1 hc6 hjc)) (exn_ne hE)) (fun H locs _ hP hS => ?_)
          have k104 : ∀ (H : Heap) (locs : List Loc) (ls : Array Slot), va_P D vwCl (wL cy b fT M n) H → va_S (fr b) s.heap H locs → lv_has ls 14 [(6, .int ((fX7_temperature M) + (10 : Int32))), (5, .int (fX7_surroundingOf M (nI j))), (4, .int (outF M (nI j))), (3, .int (fX7_isHair M (nI (j)))), (1, .int (1 : Int32)), (2, .int (nI (j))), (0, .ref (b + 0))] → W p l e (headSpec wsL_instruments ({ frames := 8, cells := 156, slots := 936, locals := 135 } : Room)).room s m args below meth c H locs (cells + 5) (slots + 30) (MQ below (CQe D cy b n 1 (EQP M0)) args s 156 936 (fr b)) (F0 m 104 ls (.int (fX4_depression M 1 (pl (nI j))) :: [])) := by
            intro H locs ls hP hS hl
            refine lv_istore (lv' := [(7, .int (fX4_depression M 1 (pl (nI j)))), (6, .int ((fX7_temperature M) + (10 : Int32))), (5, .int (fX7_surroundingOf M (nI j))), (4, .int (outF M (nI j))), (3, .int (fX7_isHair M (nI (j)))), (1, .int (1 : Int32)), (2, .int (nI (j))), (0, .ref (b + 0))]) hx hb dL_instruments_104 hl (by decide) rfl (fun ls hl => ?_)
            refine lv_iload_n hx hb dL_instruments_106 rfl (lv_at hl 4 rfl) ?_
            have k137 : ∀ (H : Heap) (locs : List Loc) (ls : Array Slot), va_P D vwCl (wL cy b fT M n) H → va_S (fr b) s.heap H locs → lv_has ls 14 [(7, .int (fX4_depression M 1 (pl (nI j)))), (6, .int ((fX7_temperature M) + (10 : Int32))), (5, .int (fX7_surroundingOf M (nI j))), (4, .int (outF M (nI j))), (3, .int (fX7_isHair M (nI (j)))), (1, .int (1 : Int32)), (2, .int (nI (j))), (0, .ref (b + 0))] → W p l e (headSpec wsL_instruments ({ frames := 8, cells := 156, slots := 936, locals := 135 } : Room)).room s m args below meth c H locs (cells + 7) (slots + 42) (MQ below (CQe D cy b n 1 (EQP M0)) args s 156 936 (fr b)) (F0 m 137 ls (.int (fX7_rawValue M (nI j)) :: [])) := by
              intro H locs ls hP hS hl
              refine lv_istore (lv' := [(8, .int (fX7_rawValue M (nI j))), (7, .int (fX4_depression M 1 (pl (nI j)))), (6, .int ((fX7_temperature M) + (10 : Int32))), (5, .int (fX7_surroundingOf M (nI j))), (4, .int (outF M (nI j))), (3, .int (fX7_isHair M (nI (j)))), (1, .int (1 : Int32)), (2, .int (nI (j))), (0, .ref (b + 0))]) hx hb dL_instruments_137 hl (by decide) rfl (fun ls hl => ?_)
              refine lv_iconst (v := 0) hx hb dL_instruments_139 (by decide) ?_
              refine lv_bipush (v := 100) hx hb dL_instruments_140 (by decide) ?_
              refine lv_iload hx hb dL_instruments_142 (lv_at hl 0 rfl) ?_
              refine lv_aload_n hx hb dL_instruments_144 rfl (lv_at hl 8 rfl) ?_
              refine lv_iload_n hx hb dL_instruments_145 rfl (lv_at hl 7 rfl) ?_
              refine xct_i (vx_runV (As := [.int (nI (j))]) (rest := [.int (fX7_rawValue M (nI j)), .int (100 : Int32), .int (0 : Int32)]) ⟨hx, hb, hml, hown, hts⟩ (c_X7_zeroOf l hl0 D cy b n (by omega) M (nI (j)) hcn) (cwV 1 hts gL_instruments_X7_zeroOf rfl rfl rfl (by decide +kernel) ⟨Nat.le_of_ble_eq_true rfl, Nat.le_of_ble_eq_true rfl⟩) (xPreV hP hK hX hS (by omega) (cell7 (by decide)) rfl) rfl rfl hl.1 rfl (lv_room (Nat.le_of_ble_eq_true rfl)) dL_instruments_146 ⟨by show _ ≤ 156; omega, by show _ ≤ 936; omega⟩) hS (fun E ce q H locs hE _ _ _ _ _ => absurd (t0_zeroOf (t0_at h1 hc6 hjc)) (exn_ne hE)) (fun H locs _ hP hS => ?_)
              refine lv_iadd hx hb dL_instruments_149 ?_
              refine x_mmin hx hb (hml.trans hl.1.symm) hown lk0 lk1 lk2 lk3 (Nat.le_of_ble_eq_true rfl) (Nat.le_of_ble_eq_true rfl) (by show _ ≤ 156; omega) (by show _ ≤ 936; omega) dL_instruments_150 ?_
              refine x_mmax hx hb (hml.trans hl.1.symm) hown lk4 lk5 lk2 lk6 (Nat.le_of_ble_eq_true rfl) (Nat.le_of_ble_eq_true rfl) (by show _ ≤ 156; omega) (by show _ ≤ 936; omega) dL_instruments_153 ?_
              refine W.eq (g2 := F0 m 156 ls (.int (fX7_readingOf M (nI j)) :: [])) (congrArg (fun z => F0 m 156 ls (.int z :: [])) rfl) ?_
              refine lv_istore (lv' := [(9, .int (fX7_readingOf M (nI j))), (8, .int (fX7_rawValue M (nI j))), (7, .int (fX4_depression M 1 (pl (nI j)))), (6, .int ((fX7_temperature M) + (10 : Int32))), (5, .int (fX7_surroundingOf M (nI j))), (4, .int (outF M (nI j))), (3, .int (fX7_isHair M (nI (j)))), (1, .int (1 : Int32)), (2, .int (nI (j))), (0, .ref (b + 0))]) hx hb dL_instruments_156 hl (by decide) rfl (fun ls hl => ?_)
              refine lv_iload_n hx hb dL_instruments_158 rfl (lv_at hl 6 rfl) ?_
              have k193 : ∀ (H : Heap) (locs : List Loc) (ls : Array Slot), va_P D vwCl (wL cy b fT M n) H → va_S (fr b) s.heap H locs → lv_has ls 14 [(9, .int (fX7_readingOf M (nI j))), (8, .int (fX7_rawValue M (nI j))), (7, .int (fX4_depression M 1 (pl (nI j)))), (6, .int ((fX7_temperature M) + (10 : Int32))), (5, .int (fX7_surroundingOf M (nI j))), (4, .int (outF M (nI j))), (3, .int (fX7_isHair M (nI (j)))), (1, .int (1 : Int32)), (2, .int (nI (j))), (0, .ref (b + 0))] → W p l e (headSpec wsL_instruments ({ frames := 8, cells := 156, slots := 936, locals := 135 } : Room)).room s m args below meth c H locs (cells + 9) (slots + 54) (MQ below (CQe D cy b n 1 (EQP M0)) args s 156 936 (fr b)) (F0 m 193 ls (.int (fX7_isSettled M (nI j)) :: [])) := by
                intro H locs ls hP hS hl
                refine lv_istore (lv' := [(10, .int (fX7_isSettled M (nI j))), (9, .int (fX7_readingOf M (nI j))), (8, .int (fX7_rawValue M (nI j))), (7, .int (fX4_depression M 1 (pl (nI j)))), (6, .int ((fX7_temperature M) + (10 : Int32))), (5, .int (fX7_surroundingOf M (nI j))), (4, .int (outF M (nI j))), (3, .int (fX7_isHair M (nI (j)))), (1, .int (1 : Int32)), (2, .int (nI (j))), (0, .ref (b + 0))]) hx hb dL_instruments_193 hl (by decide) rfl (fun ls hl => ?_)
                refine lv_iload hx hb dL_instruments_195 (lv_at hl 6 rfl) ?_
                have k239 : ∀ (H : Heap) (locs : List Loc) (ls : Array Slot), va_P D vwCl (wL cy b fT M n) H → va_S (fr b) s.heap H locs → lv_has ls 14 [(10, .int (fX7_isSettled M (nI j))), (9, .int (fX7_readingOf M (nI j))), (8, .int (fX7_rawValue M (nI j))), (7, .int (fX4_depression M 1 (pl (nI j)))), (6, .int ((fX7_temperature M) + (10 : Int32))), (5, .int (fX7_surroundingOf M (nI j))), (4, .int (outF M (nI j))), (3, .int (fX7_isHair M (nI (j)))), (1, .int (1 : Int32)), (2, .int (nI (j))), (0, .ref (b + 0))] → W p l e (headSpec wsL_instruments ({ frames := 8, cells := 156, slots := 936, locals := 135 } : Room)).room s m args below meth c H locs (cells + 12) (slots + 72) (MQ below (CQe D cy b n 1 (EQP M0)) args s 156 936 (fr b)) (F0 m 239 ls (.int (fX7_whyUnusable M (nI j)) :: [])) := by
                  intro H locs ls hP hS hl
                  refine lv_istore (lv' := [(11, .int (fX7_whyUnusable M (nI j))), (10, .int (fX7_isSettled M (nI j))), (9, .int (fX7_readingOf M (nI j))), (8, .int (fX7_rawValue M (nI j))), (7, .int (fX4_depression M 1 (pl (nI j)))), (6, .int ((fX7_temperature M) + (10 : Int32))), (5, .int (fX7_surroundingOf M (nI j))), (4, .int (outF M (nI j))), (3, .int (fX7_isHair M (nI (j)))), (1, .int (1 : Int32)), (2, .int (nI (j))), (0, .ref (b + 0))]) hx hb dL_instruments_239 hl (by decide) rfl (fun ls hl => ?_)
                  refine lv_iload hx hb dL_instruments_241 (lv_at hl 0 rfl) ?_
                  have k263 : ∀ (H : Heap) (locs : List Loc) (ls : Array Slot), va_P D vwCl (wL cy b fT M n) H → va_S (fr b) s.heap H locs → lv_has ls 14 [(11, .int (fX7_whyUnusable M (nI j))), (10, .int (fX7_isSettled M (nI j))), (9, .int (fX7_readingOf M (nI j))), (8, .int (fX7_rawValue M (nI j))), (7, .int (fX4_depression M 1 (pl (nI j)))), (6, .int ((fX7_temperature M) + (10 : Int32))), (5, .int (fX7_surroundingOf M (nI j))), (4, .int (outF M (nI j))), (3, .int (fX7_isHair M (nI (j)))), (1, .int (1 : Int32)), (2, .int (nI (j))), (0, .ref (b + 0))] → W p l e (headSpec wsL_instruments ({ frames := 8, cells := 156, slots := 936, locals := 135 } : Room)).room s m args below meth c H locs (cells + 13) (slots + 78) (MQ below (CQe D cy b n 1 (EQP M0)) args s 156 936 (fr b)) (F0 m 263 ls (.int (fX7_weightOf M (nI j)) :: [])) := by
                    intro H locs ls hP hS hl
                    refine lv_istore (lv' := [(12, .int (fX7_weightOf M (nI j))), (11, .int (fX7_whyUnusable M (nI j))), (10, .int (fX7_isSettled M (nI j))), (9, .int (fX7_readingOf M (nI j))), (8, .int (fX7_rawValue M (nI j))), (7, .int (fX4_depression M 1 (pl (nI j)))), (6, .int ((fX7_temperature M) + (10 : Int32))), (5, .int (fX7_surroundingOf M (nI j))), (4, .int (outF M (nI j))), (3, .int (fX7_isHair M (nI (j)))), (1, .int (1 : Int32)), (2, .int (nI (j))), (0, .ref (b + 0))]) hx hb dL_instruments_263 hl (by decide) rfl (fun ls hl => ?_)
                    refine lv_aload_n hx hb dL_instruments_265 rfl (lv_at hl 12 rfl) ?_
                    refine lv_iload_n hx hb dL_instruments_266 rfl (lv_at hl 11 rfl) ?_
                    refine xct_i (vx_runV (As := [.int (nI (j))]) (rest := []) ⟨hx, hb, hml, hown, hts⟩ (c_X7_minutesUntilStill l hl0 D cy b n (by omega) M (nI (j)) hcn) (cwV 1 hts gL_instruments_X7_minutesUntilStill rfl rfl rfl (by decide +kernel) ⟨Nat.le_of_ble_eq_true rfl, Nat.le_of_ble_eq_true rfl⟩) (xPreV hP hK hX hS (by omega) (cell7 (by decide)) rfl) rfl rfl hl.1 rfl (lv_room (Nat.le_of_ble_eq_true rfl)) dL_instruments_267 ⟨by show _ ≤ 156; omega, by show _ ≤ 936; omega⟩) hS (fun E ce q H locs hE _ _ _ _ _ => absurd (t0_minutesUntilStill (t0_at h1 hc6 hjc)) (exn_ne hE)) (fun H locs _ hP hS => ?_)
                    have hq := mus_q M (nI j)
                    have huz := mus_zero hI (t0_at h1 hc6 hjc)
                    have hun := mus_none hI (t0_at h1 hc6 hjc)
                    obtain ⟨M1, hM1⟩ : ∃ z, z = gX7_minutesUntilStill M (nI j) := ⟨_, rfl⟩
                    rw [← hM1] at hP hq
                    have h1b : M1 1 1 = nI c0 := (congrFun (hq 1 (by decide)) 1).trans h1
                    have hcn1 : CNT M1 1 := ⟨c0, hc6, h1b⟩
                    refine lv_istore (lv' := [(13, .int (fX7_minutesUntilStill M (nI (j)))), (12, .int (fX7_weightOf M (nI j))), (11, .int (fX7_whyUnusable M (nI j))), (10, .int (fX7_isSettled M (nI j))), (9, .int (fX7_readingOf M (nI j))), (8, .int (fX7_rawValue M (nI j))), (7, .int (fX4_depression M 1 (pl (nI j)))), (6, .int ((fX7_temperature M) + (10 : Int32))), (5, .int (fX7_surroundingOf M (nI j))), (4, .int (outF M (nI j))), (3, .int (fX7_isHair M (nI (j)))), (1, .int (1 : Int32)), (2, .int (nI (j))), (0, .ref (b + 0))]) hx hb dL_instruments_270 hl (by decide) rfl (fun ls hl => ?_)
                    refine lv_aload_n hx hb dL_instruments_272 rfl (lv_at hl 13 rfl) ?_
                    refine lv_iload_n hx hb dL_instruments_273 rfl (lv_at hl 12 rfl) ?_
                    refine xct_i (vx_runV (As := [.int (nI (j))]) (rest := []) ⟨hx, hb, hml, hown, hts⟩ (c_X7_surroundingOf l hl0 D cy b n (by omega) M1 (nI (j)) hcn1) (cwV 1 hts gL_instruments_X7_surroundingOf rfl rfl rfl (by decide +kernel) ⟨Nat.le_of_ble_eq_true rfl, Nat.le_of_ble_eq_true rfl⟩) (xPreV hP hK hX hS (by omega) (cell7 (by decide)) rfl) rfl rfl hl.1 rfl (lv_room (Nat.le_of_ble_eq_true rfl)) dL_instruments_274 ⟨by show _ ≤ 156; omega, by show _ ≤ 936; omega⟩) hS (fun E ce q H locs hE _ _ _ _ _ => absurd (t0_surroundingOf (t0_at h1b hc6 hjc)) (exn_ne hE)) (fun H locs _ hP hS => ?_)
                    refine lv_iload hx hb dL_instruments_277 (lv_at hl 8 rfl) ?_
                    refine lv_icmp_ne (tgt := 443) hx hb dL_instruments_279 (by decide) (fun c279 => absurd (ob_surroundingOf hq (nI_100 hj6)) c279) (fun c279 => ?_)
                    refine lv_aload_n hx hb dL_instruments_282 rfl (lv_at hl 13 rfl) ?_
                    refine lv_iload_n hx hb dL_instruments_283 rfl (lv_at hl 12 rfl) ?_
                    refine xct_i (vx_runV (As := [.int (nI (j))]) (rest := []) ⟨hx, hb, hml, hown, hts⟩ (c_X7_depressionOf l hl0 D cy b n (by omega) M1 (nI (j)) hcn1) (cwV 1 hts gL_instruments_X7_depressionOf rfl rfl rfl (by decide +kernel) ⟨Nat.le_of_ble_eq_true rfl, Nat.le_of_ble_eq_true rfl⟩) (xPreV hP hK hX hS (by omega) (cell7 (by decide)) rfl) rfl rfl hl.1 rfl (lv_room (Nat.le_of_ble_eq_true rfl)) dL_instruments_284 ⟨by show _ ≤ 156; omega, by show _ ≤ 936; omega⟩) hS (fun E ce q H locs hE _ _ _ _ _ => absurd (t0_depressionOf (t0_at h1b hc6 hjc)) (exn_ne hE)) (fun H locs _ hP hS => ?_)
                    refine lv_iload_n hx hb dL_instruments_287 rfl (lv_at hl 10 rfl) ?_
                    have k297 : ∀ (H : Heap) (locs : List Loc) (ls : Array Slot), va_P D vwCl (wL cy b fT M1 n) H → va_S (fr b) s.heap H locs → lv_has ls 14 [(13, .int (fX7_minutesUntilStill M (nI (j)))), (12, .int (fX7_weightOf M (nI j))), (11, .int (fX7_whyUnusable M (nI j))), (10, .int (fX7_isSettled M (nI j))), (9, .int (fX7_readingOf M (nI j))), (8, .int (fX7_rawValue M (nI j))), (7, .int (fX4_depression M 1 (pl (nI j)))), (6, .int ((fX7_temperature M) + (10 : Int32))), (5, .int (fX7_surroundingOf M (nI j))), (4, .int (outF M (nI j))), (3, .int (fX7_isHair M (nI (j)))), (1, .int (1 : Int32)), (2, .int (nI (j))), (0, .ref (b + 0))] → W p l e (headSpec wsL_instruments ({ frames := 8, cells := 156, slots := 936, locals := 135 } : Room)).room s m args below meth c H locs (cells + 16) (slots + 96) (MQ below (CQe D cy b n 1 (EQP M0)) args s 156 936 (fr b)) (F0 m 297 ls (.int (fX7_depressionOf M (nI j)) :: .int (fX7_depressionOf M1 (nI (j))) :: [])) := by
                      intro H locs ls hP hS hl
                      refine lv_icmp_ne (tgt := 443) hx hb dL_instruments_297 (by decide) (fun c297 => absurd (ob_depressionOf hq (nI_100 hj6)) c297) (fun c297 => ?_)
                      refine lv_aload_n hx hb dL_instruments_300 rfl (lv_at hl 13 rfl) ?_
                      refine lv_iload_n hx hb dL_instruments_301 rfl (lv_at hl 12 rfl) ?_
                      refine xct_i (vx_runV (As := [.int (nI (j))]) (rest := []) ⟨hx, hb, hml, hown, hts⟩ (c_X7_rawValue l hl0 D cy b n (by omega) M1 (nI (j)) hcn1) (cwV 1 hts gL_instruments_X7_rawValue rfl rfl rfl (by decide +kernel) ⟨Nat.le_of_ble_eq_true rfl, Nat.le_of_ble_eq_true rfl⟩) (xPreV hP hK hX hS (by omega) (cell7 (by decide)) rfl) rfl rfl hl.1 rfl (lv_room (Nat.le_of_ble_eq_true rfl)) dL_instruments_302 ⟨by show _ ≤ 156; omega, by show _ ≤ 936; omega⟩) hS (fun E ce q H locs hE _ _ _ _ _ => absurd (t0_rawValue (t0_at h1b hc6 hjc)) (exn_ne hE)) (fun H locs _ hP hS => ?_)
                      refine lv_iload hx hb dL_instruments_305 (lv_at hl 5 rfl) ?_
                      refine lv_icmp_ne (tgt := 443) hx hb dL_instruments_307 (by decide) (fun c307 => absurd (ob_rawValue hq (nI_100 hj6)) c307) (fun c307 => ?_)
                      refine lv_aload_n hx hb dL_instruments_310 rfl (lv_at hl 13 rfl) ?_
                      refine lv_iload_n hx hb dL_instruments_311 rfl (lv_at hl 12 rfl) ?_
                      refine xct_i (vx_runV (As := [.int (nI (j))]) (rest := []) ⟨hx, hb, hml, hown, hts⟩ (c_X7_readingOf l hl0 D cy b n (by omega) M1 (nI (j)) hcn1) (cwV 1 hts gL_instruments_X7_readingOf rfl rfl rfl (by decide +kernel) ⟨Nat.le_of_ble_eq_true rfl, Nat.le_of_ble_eq_true rfl⟩) (xPreV hP hK hX hS (by omega) (cell7 (by decide)) rfl) rfl rfl hl.1 rfl (lv_room (Nat.le_of_ble_eq_true rfl)) dL_instruments_312 ⟨by show _ ≤ 156; omega, by show _ ≤ 936; omega⟩) hS (fun E ce q H locs hE _ _ _ _ _ => absurd (t0_readingOf (t0_at h1b hc6 hjc)) (exn_ne hE)) (fun H locs _ hP hS => ?_)
                      refine lv_iload hx hb dL_instruments_315 (lv_at hl 4 rfl) ?_
                      refine lv_icmp_ne (tgt := 443) hx hb dL_instruments_317 (by decide) (fun c317 => absurd (ob_readingOf hq (nI_100 hj6)) c317) (fun c317 => ?_)
                      refine lv_aload_n hx hb dL_instruments_320 rfl (lv_at hl 13 rfl) ?_
                      refine lv_iload_n hx hb dL_instruments_321 rfl (lv_at hl 12 rfl) ?_
                      refine xct_i (vx_runV (As := [.int (nI (j))]) (rest := []) ⟨hx, hb, hml, hown, hts⟩ (c_X7_errorOf l hl0 D cy b n (by omega) M1 (nI (j)) hcn1) (cwV 1 hts gL_instruments_X7_errorOf rfl rfl rfl (by decide +kernel) ⟨Nat.le_of_ble_eq_true rfl, Nat.le_of_ble_eq_true rfl⟩) (xPreV hP hK hX hS (by omega) (cell7 (by decide)) rfl) rfl rfl hl.1 rfl (lv_room (Nat.le_of_ble_eq_true rfl)) dL_instruments_322 ⟨by show _ ≤ 156; omega, by show _ ≤ 936; omega⟩) hS (fun E ce q H locs hE _ _ _ _ _ => absurd (t0_errorOf (t0_at h1b hc6 hjc)) (exn_ne hE)) (fun H locs _ hP hS => ?_)
                      refine lv_iload hx hb dL_instruments_325 (lv_at hl 4 rfl) ?_
                      refine lv_iload hx hb dL_instruments_327 (lv_at hl 8 rfl) ?_
                      refine lv_isub hx hb dL_instruments_329 ?_
                      refine lv_icmp_ne (tgt := 443) hx hb dL_instruments_330 (by decide) (fun c330 => absurd (ob_errorOf hq (nI_100 hj6)) c330) (fun c330 => ?_)
                      refine lv_aload_n hx hb dL_instruments_333 rfl (lv_at hl 13 rfl) ?_
                      refine lv_iload_n hx hb dL_instruments_334 rfl (lv_at hl 12 rfl) ?_
                      refine xct_i (vx_runV (As := [.int (nI (j))]) (rest := []) ⟨hx, hb, hml, hown, hts⟩ (c_X7_isSettled l hl0 D cy b n (by omega) M1 (nI (j)) hcn1) (cwV 1 hts gL_instruments_X7_isSettled rfl rfl rfl (by decide +kernel) ⟨Nat.le_of_ble_eq_true rfl, Nat.le_of_ble_eq_true rfl⟩) (xPreV hP hK hX hS (by omega) (cell7 (by decide)) rfl) rfl rfl hl.1 rfl (lv_room (Nat.le_of_ble_eq_true rfl)) dL_instruments_335 ⟨by show _ ≤ 156; omega, by show _ ≤ 936; omega⟩) hS (fun E ce q H locs hE _ _ _ _ _ => absurd (t0_isSettled (t0_at h1b hc6 hjc)) (exn_ne hE)) (fun H locs _ hP hS => ?_)
                      refine lv_iload hx hb dL_instruments_338 (lv_at hl 3 rfl) ?_
                      refine lv_icmp_ne (tgt := 443) hx hb dL_instruments_340 (by decide) (fun c340 => absurd (ob_isSettled hq (nI_100 hj6)) c340) (fun c340 => ?_)
                      refine lv_aload_n hx hb dL_instruments_343 rfl (lv_at hl 13 rfl) ?_
                      refine lv_iload_n hx hb dL_instruments_344 rfl (lv_at hl 12 rfl) ?_
                      refine xct_i (vx_runV (As := [.int (nI (j))]) (rest := []) ⟨hx, hb, hml, hown, hts⟩ (c_X7_whyUnusable l hl0 D cy b n (by omega) M1 (nI (j)) hcn1) (cwV 1 hts gL_instruments_X7_whyUnusable rfl rfl rfl (by decide +kernel) ⟨Nat.le_of_ble_eq_true rfl, Nat.le_of_ble_eq_true rfl⟩) (xPreV hP hK hX hS (by omega) (cell7 (by decide)) rfl) rfl rfl hl.1 rfl (lv_room (Nat.le_of_ble_eq_true rfl)) dL_instruments_345 ⟨by show _ ≤ 156; omega, by show _ ≤ 936; omega⟩) hS (fun E ce q H locs hE _ _ _ _ _ => absurd (t0_whyUnusable (t0_at h1b hc6 hjc)) (exn_ne hE)) (fun H locs _ hP hS => ?_)
                      refine lv_iload hx hb dL_instruments_348 (lv_at hl 2 rfl) ?_
                      refine lv_icmp_ne (tgt := 443) hx hb dL_instruments_350 (by decide) (fun c350 => absurd (ob_whyUnusable hq (nI_100 hj6)) c350) (fun c350 => ?_)
                      refine lv_aload_n hx hb dL_instruments_353 rfl (lv_at hl 13 rfl) ?_
                      refine lv_iload_n hx hb dL_instruments_354 rfl (lv_at hl 12 rfl) ?_
                      refine xct_i (vx_runV (As := [.int (nI (j))]) (rest := []) ⟨hx, hb, hml, hown, hts⟩ (c_X7_weightOf l hl0 D cy b n (by omega) M1 (nI (j)) hcn1) (cwV 1 hts gL_instruments_X7_weightOf rfl rfl rfl (by decide +kernel) ⟨Nat.le_of_ble_eq_true rfl, Nat.le_of_ble_eq_true rfl⟩) (xPreV hP hK hX hS (by omega) (cell7 (by decide)) rfl) rfl rfl hl.1 rfl (lv_room (Nat.le_of_ble_eq_true rfl)) dL_instruments_355 ⟨by show _ ≤ 156; omega, by show _ ≤ 936; omega⟩) hS (fun E ce q H locs hE _ _ _ _ _ => absurd (t0_weightOf (t0_at h1b hc6 hjc)) (exn_ne hE)) (fun H locs _ hP hS => ?_)
                      refine lv_iload hx hb dL_instruments_358 (lv_at hl 1 rfl) ?_
                      refine lv_icmp_ne (tgt := 443) hx hb dL_instruments_360 (by decide) (fun c360 => absurd (ob_weightOf hq (nI_100 hj6)) c360) (fun c360 => ?_)
                      refine lv_aload_n hx hb dL_instruments_363 rfl (lv_at hl 13 rfl) ?_
                      refine lv_iload_n hx hb dL_instruments_364 rfl (lv_at hl 12 rfl) ?_
                      refine xct_i (vx_runV (As := [.int (nI (j))]) (rest := []) ⟨hx, hb, hml, hown, hts⟩ (c_X7_calibrationObstacle l hl0 D cy b n (by omega) M1 (nI (j)) hcn1) (cwV 1 hts gL_instruments_X7_calibrationObstacle rfl rfl rfl (by decide +kernel) ⟨Nat.le_of_ble_eq_true rfl, Nat.le_of_ble_eq_true rfl⟩) (xPreV hP hK hX hS (by omega) (cell7 (by decide)) rfl) rfl rfl hl.1 rfl (lv_room (Nat.le_of_ble_eq_true rfl)) dL_instruments_365 ⟨by show _ ≤ 156; omega, by show _ ≤ 936; omega⟩) hS (fun E ce q H locs hE _ _ _ _ _ => absurd (t0_calibrationObstacle (t0_at h1b hc6 hjc)) (exn_ne hE)) (fun H locs _ hP hS => ?_)
                      refine lv_iload hx hb dL_instruments_368 (lv_at hl 9 rfl) ?_
                      have k387 : ∀ (H : Heap) (locs : List Loc) (ls : Array Slot), va_P D vwCl (wL cy b fT M1 n) H → va_S (fr b) s.heap H locs → lv_has ls 14 [(13, .int (fX7_minutesUntilStill M (nI (j)))), (12, .int (fX7_weightOf M (nI j))), (11, .int (fX7_whyUnusable M (nI j))), (10, .int (fX7_isSettled M (nI j))), (9, .int (fX7_readingOf M (nI j))), (8, .int (fX7_rawValue M (nI j))), (7, .int (fX4_depression M 1 (pl (nI j)))), (6, .int ((fX7_temperature M) + (10 : Int32))), (5, .int (fX7_surroundingOf M (nI j))), (4, .int (outF M (nI j))), (3, .int (fX7_isHair M (nI (j)))), (1, .int (1 : Int32)), (2, .int (nI (j))), (0, .ref (b + 0))] → W p l e (headSpec wsL_instruments ({ frames := 8, cells := 156, slots := 936, locals := 135 } : Room)).room s m args below meth c H locs (cells + 23) (slots + 138) (MQ below (CQe D cy b n 1 (EQP M0)) args s 156 936 (fr b)) (F0 m 387 ls (.int (fX7_calibrationObstacle M (nI j)) :: .int (fX7_calibrationObstacle M1 (nI (j))) :: [])) := by
                        intro H locs ls hP hS hl
                        refine lv_icmp_ne (tgt := 443) hx hb dL_instruments_387 (by decide) (fun c387 => absurd (ob_calibrationObstacle hq (nI_100 hj6)) c387) (fun c387 => ?_)
                        refine lv_iload hx hb dL_instruments_390 (lv_at hl 0 rfl) ?_
                        have k400 : ∀ (H : Heap) (locs : List Loc) (ls : Array Slot), va_P D vwCl (wL cy b fT M1 n) H → va_S (fr b) s.heap H locs → lv_has ls 14 [(13, .int (fX7_minutesUntilStill M (nI (j)))), (12, .int (fX7_weightOf M (nI j))), (11, .int (fX7_whyUnusable M (nI j))), (10, .int (fX7_isSettled M (nI j))), (9, .int (fX7_readingOf M (nI j))), (8, .int (fX7_rawValue M (nI j))), (7, .int (fX4_depression M 1 (pl (nI j)))), (6, .int ((fX7_temperature M) + (10 : Int32))), (5, .int (fX7_surroundingOf M (nI j))), (4, .int (outF M (nI j))), (3, .int (fX7_isHair M (nI (j)))), (1, .int (1 : Int32)), (2, .int (nI (j))), (0, .ref (b + 0))] → W p l e (headSpec wsL_instruments ({ frames := 8, cells := 156, slots := 936, locals := 135 } : Room)).room s m args below meth c H locs (cells + 23) (slots + 138) (MQ below (CQe D cy b n 1 (EQP M0)) args s 156 936 (fr b)) (F0 m 400 ls (.int (if fX7_minutesUntilStill M (nI j) = 0 then 1 else 0) :: [])) := by
                          intro H locs ls hP hS hl
                          refine lv_iload_n hx hb dL_instruments_400 rfl (lv_at hl 10 rfl) ?_
                          refine lv_iload hx hb dL_instruments_401 (lv_at hl 3 rfl) ?_
                          have k411 : ∀ (H : Heap) (locs : List Loc) (ls : Array Slot), va_P D vwCl (wL cy b fT M1 n) H → va_S (fr b) s.heap H locs → lv_has ls 14 [(13, .int (fX7_minutesUntilStill M (nI (j)))), (12, .int (fX7_weightOf M (nI j))), (11, .int (fX7_whyUnusable M (nI j))), (10, .int (fX7_isSettled M (nI j))), (9, .int (fX7_readingOf M (nI j))), (8, .int (fX7_rawValue M (nI j))), (7, .int (fX4_depression M 1 (pl (nI j)))), (6, .int ((fX7_temperature M) + (10 : Int32))), (5, .int (fX7_surroundingOf M (nI j))), (4, .int (outF M (nI j))), (3, .int (fX7_isHair M (nI (j)))), (1, .int (1 : Int32)), (2, .int (nI (j))), (0, .ref (b + 0))] → W p l e (headSpec wsL_instruments ({ frames := 8, cells := 156, slots := 936, locals := 135 } : Room)).room s m args below meth c H locs (cells + 23) (slots + 138) (MQ below (CQe D cy b n 1 (EQP M0)) args s 156 936 (fr b)) (F0 m 411 ls (.int (if fX7_isHair M (nI j) = fX7_isSettled M (nI j) then 1 else 0) :: .int (if fX7_minutesUntilStill M (nI j) = 0 then 1 else 0) :: [])) := by
                            intro H locs ls hP hS hl
                            refine lv_icmp_ne (tgt := 443) hx hb dL_instruments_411 (by decide) (fun c411 => absurd huz c411) (fun c411 => ?_)
                            refine lv_iload hx hb dL_instruments_414 (lv_at hl 0 rfl) ?_
                            refine lv_iconst (v := (-1)) hx hb dL_instruments_416 (by decide) ?_
                            have k428 : ∀ (H : Heap) (locs : List Loc) (ls : Array Slot), va_P D vwCl (wL cy b fT M1 n) H → va_S (fr b) s.heap H locs → lv_has ls 14 [(13, .int (fX7_minutesUntilStill M (nI (j)))), (12, .int (fX7_weightOf M (nI j))), (11, .int (fX7_whyUnusable M (nI j))), (10, .int (fX7_isSettled M (nI j))), (9, .int (fX7_readingOf M (nI j))), (8, .int (fX7_rawValue M (nI j))), (7, .int (fX4_depression M 1 (pl (nI j)))), (6, .int ((fX7_temperature M) + (10 : Int32))), (5, .int (fX7_surroundingOf M (nI j))), (4, .int (outF M (nI j))), (3, .int (fX7_isHair M (nI (j)))), (1, .int (1 : Int32)), (2, .int (nI (j))), (0, .ref (b + 0))] → W p l e (headSpec wsL_instruments ({ frames := 8, cells := 156, slots := 936, locals := 135 } : Room)).room s m args below meth c H locs (cells + 24) (slots + 144) (MQ below (CQe D cy b n 1 (EQP M0)) args s 156 936 (fr b)) (F0 m 428 ls ([])) := by
                              intro H locs ls hP hS hl
                              refine lv_aload_n hx hb dL_instruments_428 rfl (lv_at hl 13 rfl) ?_
                              refine lv_iload_n hx hb dL_instruments_429 rfl (lv_at hl 12 rfl) ?_
                              refine lv_iconst (v := 0) hx hb dL_instruments_430 (by decide) ?_
                              refine xct_i (vx_runV (As := [.int (nI (j)), .int (0 : Int32)]) (rest := []) ⟨hx, hb, hml, hown, hts⟩ (c_X7_readingAfter l hl0 D cy b n (by omega) M1 (nI (j)) (0 : Int32) hcn1) (cwV 2 hts gL_instruments_X7_readingAfter rfl rfl rfl (by decide +kernel) ⟨Nat.le_of_ble_eq_true rfl, Nat.le_of_ble_eq_true rfl⟩) (xPreV hP hK hX hS (by omega) (cell7 (by decide)) rfl) rfl rfl hl.1 rfl (lv_room (Nat.le_of_ble_eq_true rfl)) dL_instruments_431 ⟨by show _ ≤ 156; omega, by show _ ≤ 936; omega⟩) hS (fun E ce q H locs hE _ _ _ _ _ => absurd (ra_t0 (t0_at h1b hc6 hjc)) (exn_ne hE)) (fun H locs _ hP hS => ?_)
                              have hq2 := ra_q M1 (nI j) 0
                              have hra := ra_zero (t0_at h1b hc6 hjc)
                              obtain ⟨M2, hM2⟩ : ∃ z, z = gX7_readingAfter M1 (nI j) 0 := ⟨_, rfl⟩
                              rw [← hM2] at hP hq2
                              refine lv_iload hx hb dL_instruments_434 (lv_at hl 4 rfl) ?_
                              refine lv_icmp_ne (tgt := 443) hx hb dL_instruments_436 (by decide) (fun c436 => absurd (hra.trans (ob_readingOf hq (nI_100 hj6))) c436) (fun c436 => ?_)
                              refine lv_iconst (v := 1) hx hb dL_instruments_439 (by decide) ?_
                              refine lv_goto (tgt := 444) hx hb dL_instruments_440 (by decide) ?_
                              refine lv_istore_n (lv' := [(1, .int (1 : Int32)), (13, .int (fX7_minutesUntilStill M (nI (j)))), (12, .int (fX7_weightOf M (nI j))), (11, .int (fX7_whyUnusable M (nI j))), (10, .int (fX7_isSettled M (nI j))), (9, .int (fX7_readingOf M (nI j))), (8, .int (fX7_rawValue M (nI j))), (7, .int (fX4_depression M 1 (pl (nI j)))), (6, .int ((fX7_temperature M) + (10 : Int32))), (5, .int (fX7_surroundingOf M (nI j))), (4, .int (outF M (nI j))), (3, .int (fX7_isHair M (nI (j)))), (2, .int (nI (j))), (0, .ref (b + 0))]) hx hb dL_instruments_444 rfl hl (by decide) rfl (fun ls hl => ?_)
                              refine lv_iinc (v := nI (j + 1)) (lv' := [(2, .int (nI (j + 1))), (1, .int (1 : Int32)), (13, .int (fX7_minutesUntilStill M (nI (j)))), (12, .int (fX7_weightOf M (nI j))), (11, .int (fX7_whyUnusable M (nI j))), (10, .int (fX7_isSettled M (nI j))), (9, .int (fX7_readingOf M (nI j))), (8, .int (fX7_rawValue M (nI j))), (7, .int (fX4_depression M 1 (pl (nI j)))), (6, .int ((fX7_temperature M) + (10 : Int32))), (5, .int (fX7_surroundingOf M (nI j))), (4, .int (outF M (nI j))), (3, .int (fX7_isHair M (nI (j)))), (0, .ref (b + 0))]) hx hb dL_instruments_445 hl (k := 12) rfl (ixAdd (a := j) (c := 1) (d := j + 1) rfl rfl (by omega)) (by decide) rfl (fun ls hl => ?_)
                              refine lv_goto (tgt := 15) hx hb dL_instruments_448 (by decide) ?_
                              exact ih M2 (j + 1) (cells + 26) (slots + 156) H locs ls (hE.trans (hq.trans hq2)) (by omega) (by omega) (by omega) (by omega) hP hS (lv_sub hl [1, 0, 13] rfl)
                            refine lv_icmp_ne (tgt := 428) hx hb dL_instruments_417 (by decide) (fun c417 => ?_) (fun c417 => ?_)
                            · refine W.widen (k := cells + 24) (n := slots + 144) (by omega) (by omega) ?_
                              exact k428 H locs ls hP hS (lv_sub hl [0, 1, 2, 3, 4, 5, 6, 7, 8, 9, 10, 11, 12, 13] rfl)
                            · refine lv_aload_n hx hb dL_instruments_420 rfl (lv_at hl 13 rfl) ?_
                              refine lv_iload_n hx hb dL_instruments_421 rfl (lv_at hl 12 rfl) ?_
                              refine xct_i (vx_runV (As := [.int (nI (j))]) (rest := []) ⟨hx, hb, hml, hown, hts⟩ (c_X7_hairsOf l hl0 D cy b n (by omega) M1 (nI (j)) hcn1) (cwV 1 hts gL_instruments_X7_hairsOf rfl rfl rfl (by decide +kernel) ⟨Nat.le_of_ble_eq_true rfl, Nat.le_of_ble_eq_true rfl⟩) (xPreV hP hK hX hS (by omega) (cell7 (by decide)) rfl) rfl rfl hl.1 rfl (lv_room (Nat.le_of_ble_eq_true rfl)) dL_instruments_422 ⟨by show _ ≤ 156; omega, by show _ ≤ 936; omega⟩) hS (fun E ce q H locs hE _ _ _ _ _ => absurd (t0_hairsOf (t0_at h1b hc6 hjc)) (exn_ne hE)) (fun H locs _ hP hS => ?_)
                              refine lv_if_ne (tgt := 443) hx hb dL_instruments_425 (by decide) (fun c425 => absurd ((ob_hairsOf hq (nI_100 hj6)).trans (hun c417)) c425) (fun c425 => ?_)
                              refine W.widen (k := cells + 24) (n := slots + 144) (by omega) (by omega) ?_
                              exact k428 H locs ls hP hS (lv_sub hl [0, 1, 2, 3, 4, 5, 6, 7, 8, 9, 10, 11, 12, 13] rfl)
                          refine lv_icmp_ne (tgt := 410) hx hb dL_instruments_403 (by decide) (fun c403 => ?_) (fun c403 => ?_)
                          · refine lv_iconst (v := 0) hx hb dL_instruments_410 (by decide) ?_
                            refine W.eq (g2 := F0 m 411 ls (.int (if fX7_isHair M (nI j) = fX7_isSettled M (nI j) then 1 else 0) :: .int (if fX7_minutesUntilStill M (nI j) = 0 then 1 else 0) :: [])) (congrArg (fun z => F0 m 411 ls (.int z :: .int (if fX7_minutesUntilStill M (nI j) = 0 then 1 else 0) :: [])) (if_neg c403).symm) ?_
                            refine W.widen (k := cells + 23) (n := slots + 138) (by omega) (by omega) ?_
                            exact k411 H locs ls hP hS (lv_sub hl [0, 1, 2, 3, 4, 5, 6, 7, 8, 9, 10, 11, 12, 13] rfl)
                          · refine lv_iconst (v := 1) hx hb dL_instruments_406 (by decide) ?_
                            refine lv_goto (tgt := 411) hx hb dL_instruments_407 (by decide) ?_
                            refine W.eq (g2 := F0 m 411 ls (.int (if fX7_isHair M (nI j) = fX7_isSettled M (nI j) then 1 else 0) :: .int (if fX7_minutesUntilStill M (nI j) = 0 then 1 else 0) :: [])) (congrArg (fun z => F0 m 411 ls (.int z :: .int (if fX7_minutesUntilStill M (nI j) = 0 then 1 else 0) :: [])) (if_pos c403).symm) ?_
                            refine W.widen (k := cells + 23) (n := slots + 138) (by omega) (by omega) ?_
                            exact k411 H locs ls hP hS (lv_sub hl [0, 1, 2, 3, 4, 5, 6, 7, 8, 9, 10, 11, 12, 13] rfl)
                        refine lv_if_ne (tgt := 399) hx hb dL_instruments_392 (by decide) (fun c392 => ?_) (fun c392 => ?_)
                        · refine lv_iconst (v := 0) hx hb dL_instruments_399 (by decide) ?_
                          refine W.eq (g2 := F0 m 400 ls (.int (if fX7_minutesUntilStill M (nI j) = 0 then 1 else 0) :: [])) (congrArg (fun z => F0 m 400 ls (.int z :: [])) (if_neg c392).symm) ?_
                          refine W.widen (k := cells + 23) (n := slots + 138) (by omega) (by omega) ?_
                          exact k400 H locs ls hP hS (lv_sub hl [0, 1, 2, 3, 4, 5, 6, 7, 8, 9, 10, 11, 12, 13] rfl)
                        · refine lv_iconst (v := 1) hx hb dL_instruments_395 (by decide) ?_
                          refine lv_goto (tgt := 400) hx hb dL_instruments_396 (by decide) ?_
                          refine W.eq (g2 := F0 m 400 ls (.int (if fX7_minutesUntilStill M (nI j) = 0 then 1 else 0) :: [])) (congrArg (fun z => F0 m 400 ls (.int z :: [])) (if_pos c392).symm) ?_
                          refine W.widen (k := cells + 23) (n := slots + 138) (by omega) (by omega) ?_
                          exact k400 H locs ls hP hS (lv_sub hl [0, 1, 2, 3, 4, 5, 6, 7, 8, 9, 10, 11, 12, 13] rfl)
                      refine lv_if_eq (tgt := 377) hx hb dL_instruments_370 (by decide) (fun c370 => ?_) (fun c370 => ?_)
                      · refine lv_iload hx hb dL_instruments_377 (lv_at hl 3 rfl) ?_
                        refine lv_if_eq (tgt := 386) hx hb dL_instruments_379 (by decide) (fun c379 => ?_) (fun c379 => ?_)
                        · refine lv_iconst (v := 2) hx hb dL_instruments_386 (by decide) ?_
                          refine W.eq (g2 := F0 m 387 ls (.int (fX7_calibrationObstacle M (nI j)) :: .int (fX7_calibrationObstacle M1 (nI (j))) :: [])) (congrArg (fun z => F0 m 387 ls (.int z :: .int (fX7_calibrationObstacle M1 (nI (j))) :: [])) (ob2_2 c370 c379)) ?_
                          refine W.widen (k := cells + 23) (n := slots + 138) (by omega) (by omega) ?_
                          exact k387 H locs ls hP hS (lv_sub hl [0, 1, 2, 3, 4, 5, 6, 7, 8, 9, 10, 11, 12, 13] rfl)
                        · refine lv_iconst (v := 0) hx hb dL_instruments_382 (by decide) ?_
                          refine lv_goto (tgt := 387) hx hb dL_instruments_383 (by decide) ?_
                          refine W.eq (g2 := F0 m 387 ls (.int (fX7_calibrationObstacle M (nI j)) :: .int (fX7_calibrationObstacle M1 (nI (j))) :: [])) (congrArg (fun z => F0 m 387 ls (.int z :: .int (fX7_calibrationObstacle M1 (nI (j))) :: [])) (ob2_0 c370 c379)) ?_
                          refine W.widen (k := cells + 23) (n := slots + 138) (by omega) (by omega) ?_
                          exact k387 H locs ls hP hS (lv_sub hl [0, 1, 2, 3, 4, 5, 6, 7, 8, 9, 10, 11, 12, 13] rfl)
                      · refine lv_iconst (v := 1) hx hb dL_instruments_373 (by decide) ?_
                        refine lv_goto (tgt := 387) hx hb dL_instruments_374 (by decide) ?_
                        refine W.eq (g2 := F0 m 387 ls (.int (fX7_calibrationObstacle M (nI j)) :: .int (fX7_calibrationObstacle M1 (nI (j))) :: [])) (congrArg (fun z => F0 m 387 ls (.int z :: .int (fX7_calibrationObstacle M1 (nI (j))) :: [])) (ob2_1 c370)) ?_
                        refine W.widen (k := cells + 23) (n := slots + 138) (by omega) (by omega) ?_
                        exact k387 H locs ls hP hS (lv_sub hl [0, 1, 2, 3, 4, 5, 6, 7, 8, 9, 10, 11, 12, 13] rfl)
                    refine lv_if_eq (tgt := 295) hx hb dL_instruments_288 (by decide) (fun c288 => ?_) (fun c288 => ?_)
                    · refine lv_iload hx hb dL_instruments_295 (lv_at hl 6 rfl) ?_
                      refine W.eq (g2 := F0 m 297 ls (.int (fX7_depressionOf M (nI j)) :: .int (fX7_depressionOf M1 (nI (j))) :: [])) (congrArg (fun z => F0 m 297 ls (.int z :: .int (fX7_depressionOf M1 (nI (j))) :: [])) (depOf_b c288)) ?_
                      refine W.widen (k := cells + 16) (n := slots + 96) (by omega) (by omega) ?_
                      exact k297 H locs ls hP hS (lv_sub hl [0, 1, 2, 3, 4, 5, 6, 7, 8, 9, 10, 11, 12, 13] rfl)
                    · refine lv_iconst (v := (-1)) hx hb dL_instruments_291 (by decide) ?_
                      refine lv_goto (tgt := 297) hx hb dL_instruments_292 (by decide) ?_
                      refine W.eq (g2 := F0 m 297 ls (.int (fX7_depressionOf M (nI j)) :: .int (fX7_depressionOf M1 (nI (j))) :: [])) (congrArg (fun z => F0 m 297 ls (.int z :: .int (fX7_depressionOf M1 (nI (j))) :: [])) (depOf_h c288)) ?_
                      refine W.widen (k := cells + 16) (n := slots + 96) (by omega) (by omega) ?_
                      exact k297 H locs ls hP hS (lv_sub hl [0, 1, 2, 3, 4, 5, 6, 7, 8, 9, 10, 11, 12, 13] rfl)
                  refine lv_if_eq (tgt := 250) hx hb dL_instruments_243 (by decide) (fun c243 => ?_) (fun c243 => ?_)
                  · refine lv_iload_n hx hb dL_instruments_250 rfl (lv_at hl 8 rfl) ?_
                    refine lv_if_eq (tgt := 262) hx hb dL_instruments_251 (by decide) (fun c251 => ?_) (fun c251 => ?_)
                    · refine lv_iconst (v := 5) hx hb dL_instruments_262 (by decide) ?_
                      refine W.eq (g2 := F0 m 263 ls (.int (fX7_weightOf M (nI j)) :: [])) (congrArg (fun z => F0 m 263 ls (.int z :: [])) (wt_b c243 c251)) ?_
                      refine W.widen (k := cells + 13) (n := slots + 78) (by omega) (by omega) ?_
                      exact k263 H locs ls hP hS (lv_sub hl [0, 1, 2, 3, 4, 5, 6, 7, 8, 9, 10, 11] rfl)
                    · refine lv_aload_n hx hb dL_instruments_254 rfl (lv_at hl 11 rfl) ?_
                      refine lv_iload_n hx hb dL_instruments_255 rfl (lv_at hl 10 rfl) ?_
                      refine xct_i (vx_runV (As := [.int (nI (j))]) (rest := []) ⟨hx, hb, hml, hown, hts⟩ (c_X7_hairsOf l hl0 D cy b n (by omega) M (nI (j)) hcn) (cwV 1 hts gL_instruments_X7_hairsOf rfl rfl rfl (by decide +kernel) ⟨Nat.le_of_ble_eq_true rfl, Nat.le_of_ble_eq_true rfl⟩) (xPreV hP hK hX hS (by omega) (cell7 (by decide)) rfl) rfl rfl hl.1 rfl (lv_room (Nat.le_of_ble_eq_true rfl)) dL_instruments_256 ⟨by show _ ≤ 156; omega, by show _ ≤ 936; omega⟩) hS (fun E ce q H locs hE _ _ _ _ _ => absurd (t0_hairsOf (t0_at h1 hc6 hjc)) (exn_ne hE)) (fun H locs _ hP hS => ?_)
                      refine lv_goto (tgt := 263) hx hb dL_instruments_259 (by decide) ?_
                      refine W.eq (g2 := F0 m 263 ls (.int (fX7_weightOf M (nI j)) :: [])) (congrArg (fun z => F0 m 263 ls (.int z :: [])) (wt_h c243 c251)) ?_
                      refine W.widen (k := cells + 13) (n := slots + 78) (by omega) (by omega) ?_
                      exact k263 H locs ls hP hS (lv_sub hl [0, 1, 2, 3, 4, 5, 6, 7, 8, 9, 10, 11] rfl)
                  · refine lv_iconst (v := 0) hx hb dL_instruments_246 (by decide) ?_
                    refine lv_goto (tgt := 263) hx hb dL_instruments_247 (by decide) ?_
                    refine W.eq (g2 := F0 m 263 ls (.int (fX7_weightOf M (nI j)) :: [])) (congrArg (fun z => F0 m 263 ls (.int z :: [])) (wt_0 c243)) ?_
                    refine W.widen (k := cells + 13) (n := slots + 78) (by omega) (by omega) ?_
                    exact k263 H locs ls hP hS (lv_sub hl [0, 1, 2, 3, 4, 5, 6, 7, 8, 9, 10, 11] rfl)
                refine lv_if_ne (tgt := 204) hx hb dL_instruments_197 (by decide) (fun c197 => ?_) (fun c197 => ?_)
                · refine lv_aload_n hx hb dL_instruments_204 rfl (lv_at hl 10 rfl) ?_
                  refine lv_iload_n hx hb dL_instruments_205 rfl (lv_at hl 9 rfl) ?_
                  refine xct_i (vx_runV (As := [.int (nI (j))]) (rest := []) ⟨hx, hb, hml, hown, hts⟩ (c_X7_hairsOf l hl0 D cy b n (by omega) M (nI (j)) hcn) (cwV 1 hts gL_instruments_X7_hairsOf rfl rfl rfl (by decide +kernel) ⟨Nat.le_of_ble_eq_true rfl, Nat.le_of_ble_eq_true rfl⟩) (xPreV hP hK hX hS (by omega) (cell7 (by decide)) rfl) rfl rfl hl.1 rfl (lv_room (Nat.le_of_ble_eq_true rfl)) dL_instruments_206 ⟨by show _ ≤ 156; omega, by show _ ≤ 936; omega⟩) hS (fun E ce q H locs hE _ _ _ _ _ => absurd (t0_hairsOf (t0_at h1 hc6 hjc)) (exn_ne hE)) (fun H locs _ hP hS => ?_)
                  refine lv_if_eq (tgt := 220) hx hb dL_instruments_209 (by decide) (fun c209 => ?_) (fun c209 => ?_)
                  · refine lv_iconst (v := 2) hx hb dL_instruments_220 (by decide) ?_
                    refine lv_goto (tgt := 239) hx hb dL_instruments_221 (by decide) ?_
                    refine W.eq (g2 := F0 m 239 ls (.int (fX7_whyUnusable M (nI j)) :: [])) (congrArg (fun z => F0 m 239 ls (.int z :: [])) (why_h0 hI c197 c209)) ?_
                    refine W.widen (k := cells + 12) (n := slots + 72) (by omega) (by omega) ?_
                    exact k239 H locs ls hP hS (lv_sub hl [0, 1, 2, 3, 4, 5, 6, 7, 8, 9, 10] rfl)
                  · refine lv_aload_n hx hb dL_instruments_212 rfl (lv_at hl 10 rfl) ?_
                    refine lv_iload_n hx hb dL_instruments_213 rfl (lv_at hl 9 rfl) ?_
                    refine xct_i (vx_runV (As := [.int (nI (j))]) (rest := []) ⟨hx, hb, hml, hown, hts⟩ (c_X7_waterOf l hl0 D cy b n (by omega) M (nI (j)) hcn) (cwV 1 hts gL_instruments_X7_waterOf rfl rfl rfl (by decide +kernel) ⟨Nat.le_of_ble_eq_true rfl, Nat.le_of_ble_eq_true rfl⟩) (xPreV hP hK hX hS (by omega) (cell7 (by decide)) rfl) rfl rfl hl.1 rfl (lv_room (Nat.le_of_ble_eq_true rfl)) dL_instruments_214 ⟨by show _ ≤ 156; omega, by show _ ≤ 936; omega⟩) hS (fun E ce q H locs hE _ _ _ _ _ => absurd (t0_waterOf (t0_at h1 hc6 hjc)) (exn_ne hE)) (fun H locs _ hP hS => ?_)
                    refine lv_if_ne (tgt := 224) hx hb dL_instruments_217 (by decide) (fun c217 => ?_) (fun c217 => ?_)
                    · refine lv_aload_n hx hb dL_instruments_224 rfl (lv_at hl 10 rfl) ?_
                      refine lv_iload_n hx hb dL_instruments_225 rfl (lv_at hl 9 rfl) ?_
                      refine xct_i (vx_runV (As := [.int (nI (j))]) (rest := []) ⟨hx, hb, hml, hown, hts⟩ (c_X7_slackOf l hl0 D cy b n (by omega) M (nI (j)) hcn) (cwV 1 hts gL_instruments_X7_slackOf rfl rfl rfl (by decide +kernel) ⟨Nat.le_of_ble_eq_true rfl, Nat.le_of_ble_eq_true rfl⟩) (xPreV hP hK hX hS (by omega) (cell7 (by decide)) rfl) rfl rfl hl.1 rfl (lv_room (Nat.le_of_ble_eq_true rfl)) dL_instruments_226 ⟨by show _ ≤ 156; omega, by show _ ≤ 936; omega⟩) hS (fun E ce q H locs hE _ _ _ _ _ => absurd (t0_slackOf (t0_at h1 hc6 hjc)) (exn_ne hE)) (fun H locs _ hP hS => ?_)
                      refine lv_bipush (v := 25) hx hb dL_instruments_229 (by decide) ?_
                      refine lv_icmp_le (tgt := 238) hx hb dL_instruments_231 (by decide) (fun c231 => ?_) (fun c231 => ?_)
                      · refine lv_iconst (v := 0) hx hb dL_instruments_238 (by decide) ?_
                        refine W.eq (g2 := F0 m 239 ls (.int (fX7_whyUnusable M (nI j)) :: [])) (congrArg (fun z => F0 m 239 ls (.int z :: [])) (why_ok hI c197 c209 c217 c231)) ?_
                        refine W.widen (k := cells + 12) (n := slots + 72) (by omega) (by omega) ?_
                        exact k239 H locs ls hP hS (lv_sub hl [0, 1, 2, 3, 4, 5, 6, 7, 8, 9, 10] rfl)
                      · refine lv_iconst (v := 3) hx hb dL_instruments_234 (by decide) ?_
                        refine lv_goto (tgt := 239) hx hb dL_instruments_235 (by decide) ?_
                        refine W.eq (g2 := F0 m 239 ls (.int (fX7_whyUnusable M (nI j)) :: [])) (congrArg (fun z => F0 m 239 ls (.int z :: [])) (why_sl hI c197 c209 c217 c231)) ?_
                        refine W.widen (k := cells + 12) (n := slots + 72) (by omega) (by omega) ?_
                        exact k239 H locs ls hP hS (lv_sub hl [0, 1, 2, 3, 4, 5, 6, 7, 8, 9, 10] rfl)
                    · refine lv_iconst (v := 2) hx hb dL_instruments_220 (by decide) ?_
                      refine lv_goto (tgt := 239) hx hb dL_instruments_221 (by decide) ?_
                      refine W.eq (g2 := F0 m 239 ls (.int (fX7_whyUnusable M (nI j)) :: [])) (congrArg (fun z => F0 m 239 ls (.int z :: [])) (why_w0 hI c197 c209 c217)) ?_
                      refine W.widen (k := cells + 12) (n := slots + 72) (by omega) (by omega) ?_
                      exact k239 H locs ls hP hS (lv_sub hl [0, 1, 2, 3, 4, 5, 6, 7, 8, 9, 10] rfl)
                · refine lv_iconst (v := 1) hx hb dL_instruments_200 (by decide) ?_
                  refine lv_goto (tgt := 239) hx hb dL_instruments_201 (by decide) ?_
                  refine W.eq (g2 := F0 m 239 ls (.int (fX7_whyUnusable M (nI j)) :: [])) (congrArg (fun z => F0 m 239 ls (.int z :: [])) (why_box c197)) ?_
                  refine W.widen (k := cells + 12) (n := slots + 72) (by omega) (by omega) ?_
                  exact k239 H locs ls hP hS (lv_sub hl [0, 1, 2, 3, 4, 5, 6, 7, 8, 9, 10] rfl)
              refine lv_if_eq (tgt := 180) hx hb dL_instruments_159 (by decide) (fun c159 => ?_) (fun c159 => ?_)
              · refine lv_aload_n hx hb dL_instruments_180 rfl (lv_at hl 9 rfl) ?_
                refine lv_iload_n hx hb dL_instruments_181 rfl (lv_at hl 8 rfl) ?_
                refine xct_i (vx_runV (As := [.int (nI (j))]) (rest := []) ⟨hx, hb, hml, hown, hts⟩ (c_X7_waterOf l hl0 D cy b n (by omega) M (nI (j)) hcn) (cwV 1 hts gL_instruments_X7_waterOf rfl rfl rfl (by decide +kernel) ⟨Nat.le_of_ble_eq_true rfl, Nat.le_of_ble_eq_true rfl⟩) (xPreV hP hK hX hS (by omega) (cell7 (by decide)) rfl) rfl rfl hl.1 rfl (lv_room (Nat.le_of_ble_eq_true rfl)) dL_instruments_182 ⟨by show _ ≤ 156; omega, by show _ ≤ 936; omega⟩) hS (fun E ce q H locs hE _ _ _ _ _ => absurd (t0_waterOf (t0_at h1 hc6 hjc)) (exn_ne hE)) (fun H locs _ hP hS => ?_)
                refine lv_if_le (tgt := 192) hx hb dL_instruments_185 (by decide) (fun c185 => ?_) (fun c185 => ?_)
                · refine lv_iconst (v := 0) hx hb dL_instruments_192 (by decide) ?_
                  refine W.eq (g2 := F0 m 193 ls (.int (fX7_isSettled M (nI j)) :: [])) (congrArg (fun z => F0 m 193 ls (.int z :: [])) (set_b0 c159 c185)) ?_
                  refine W.widen (k := cells + 9) (n := slots + 54) (by omega) (by omega) ?_
                  exact k193 H locs ls hP hS (lv_sub hl [0, 1, 2, 3, 4, 5, 6, 7, 8, 9] rfl)
                · refine lv_iconst (v := 1) hx hb dL_instruments_188 (by decide) ?_
                  refine lv_goto (tgt := 193) hx hb dL_instruments_189 (by decide) ?_
                  refine W.eq (g2 := F0 m 193 ls (.int (fX7_isSettled M (nI j)) :: [])) (congrArg (fun z => F0 m 193 ls (.int z :: [])) (set_b1 hI c159 c185)) ?_
                  refine W.widen (k := cells + 9) (n := slots + 54) (by omega) (by omega) ?_
                  exact k193 H locs ls hP hS (lv_sub hl [0, 1, 2, 3, 4, 5, 6, 7, 8, 9] rfl)
              · refine lv_aload_n hx hb dL_instruments_162 rfl (lv_at hl 9 rfl) ?_
                refine lv_iload_n hx hb dL_instruments_163 rfl (lv_at hl 8 rfl) ?_
                refine xct_i (vx_runV (As := [.int (nI (j))]) (rest := []) ⟨hx, hb, hml, hown, hts⟩ (c_X7_wetnessOf l hl0 D cy b n (by omega) M (nI (j)) hcn) (cwV 1 hts gL_instruments_X7_wetnessOf rfl rfl rfl (by decide +kernel) ⟨Nat.le_of_ble_eq_true rfl, Nat.le_of_ble_eq_true rfl⟩) (xPreV hP hK hX hS (by omega) (cell7 (by decide)) rfl) rfl rfl hl.1 rfl (lv_room (Nat.le_of_ble_eq_true rfl)) dL_instruments_164 ⟨by show _ ≤ 156; omega, by show _ ≤ 936; omega⟩) hS (fun E ce q H locs hE _ _ _ _ _ => absurd (t0_wetnessOf (t0_at h1 hc6 hjc)) (exn_ne hE)) (fun H locs _ hP hS => ?_)
                refine lv_iload hx hb dL_instruments_167 (lv_at hl 4 rfl) ?_
                refine lv_icmp_ne (tgt := 176) hx hb dL_instruments_169 (by decide) (fun c169 => ?_) (fun c169 => ?_)
                · refine lv_iconst (v := 0) hx hb dL_instruments_176 (by decide) ?_
                  refine lv_goto (tgt := 193) hx hb dL_instruments_177 (by decide) ?_
                  refine W.eq (g2 := F0 m 193 ls (.int (fX7_isSettled M (nI j)) :: [])) (congrArg (fun z => F0 m 193 ls (.int z :: [])) (set_h0 c159 c169)) ?_
                  refine W.widen (k := cells + 9) (n := slots + 54) (by omega) (by omega) ?_
                  exact k193 H locs ls hP hS (lv_sub hl [0, 1, 2, 3, 4, 5, 6, 7, 8, 9] rfl)
                · refine lv_iconst (v := 1) hx hb dL_instruments_172 (by decide) ?_
                  refine lv_goto (tgt := 193) hx hb dL_instruments_173 (by decide) ?_
                  refine W.eq (g2 := F0 m 193 ls (.int (fX7_isSettled M (nI j)) :: [])) (congrArg (fun z => F0 m 193 ls (.int z :: [])) (set_h1 c159 c169)) ?_
                  refine W.widen (k := cells + 9) (n := slots + 54) (by omega) (by omega) ?_
                  exact k193 H locs ls hP hS (lv_sub hl [0, 1, 2, 3, 4, 5, 6, 7, 8, 9] rfl)
            refine lv_if_eq (tgt := 126) hx hb dL_instruments_107 (by decide) (fun c107 => ?_) (fun c107 => ?_)
            · refine lv_bipush (v := 100) hx hb dL_instruments_126 (by decide) ?_
              refine lv_iload hx hb dL_instruments_128 (lv_at hl 0 rfl) ?_
              refine lv_bipush (v := 100) hx hb dL_instruments_130 (by decide) ?_
              refine lv_imul hx hb dL_instruments_132 ?_
              refine lv_iload hx hb dL_instruments_133 (lv_at hl 1 rfl) ?_
              refine lv_idiv hx hb dL_instruments_135 (tmp10 hI) ?_
              refine lv_isub hx hb dL_instruments_136 ?_
              refine W.eq (g2 := F0 m 137 ls (.int (fX7_rawValue M (nI j)) :: [])) (congrArg (fun z => F0 m 137 ls (.int z :: [])) (raw_bulb hI c107)) ?_
              refine W.widen (k := cells + 7) (n := slots + 42) (by omega) (by omega) ?_
              exact k137 H locs ls hP hS (lv_sub hl [0, 1, 2, 3, 4, 5, 6, 7] rfl)
            · refine lv_aload_n hx hb dL_instruments_110 rfl (lv_at hl 7 rfl) ?_
              refine lv_iload_n hx hb dL_instruments_111 rfl (lv_at hl 6 rfl) ?_
              refine xct_i (vx_runV (As := [.int (nI (j))]) (rest := []) ⟨hx, hb, hml, hown, hts⟩ (c_X7_wetnessOf l hl0 D cy b n (by omega) M (nI (j)) hcn) (cwV 1 hts gL_instruments_X7_wetnessOf rfl rfl rfl (by decide +kernel) ⟨Nat.le_of_ble_eq_true rfl, Nat.le_of_ble_eq_true rfl⟩) (xPreV hP hK hX hS (by omega) (cell7 (by decide)) rfl) rfl rfl hl.1 rfl (lv_room (Nat.le_of_ble_eq_true rfl)) dL_instruments_112 ⟨by show _ ≤ 156; omega, by show _ ≤ 936; omega⟩) hS (fun E ce q H locs hE _ _ _ _ _ => absurd (t0_wetnessOf (t0_at h1 hc6 hjc)) (exn_ne hE)) (fun H locs _ hP hS => ?_)
              refine lv_aload_n hx hb dL_instruments_115 rfl (lv_at hl 7 rfl) ?_
              refine lv_iload_n hx hb dL_instruments_116 rfl (lv_at hl 6 rfl) ?_
              refine xct_i (vx_runV (As := [.int (nI (j))]) (rest := [.int (fX7_wetnessOf M (nI (j)))]) ⟨hx, hb, hml, hown, hts⟩ (c_X7_slackOf l hl0 D cy b n (by omega) M (nI (j)) hcn) (cwV 1 hts gL_instruments_X7_slackOf rfl rfl rfl (by decide +kernel) ⟨Nat.le_of_ble_eq_true rfl, Nat.le_of_ble_eq_true rfl⟩) (xPreV hP hK hX hS (by omega) (cell7 (by decide)) rfl) rfl rfl hl.1 rfl (lv_room (Nat.le_of_ble_eq_true rfl)) dL_instruments_117 ⟨by show _ ≤ 156; omega, by show _ ≤ 936; omega⟩) hS (fun E ce q H locs hE _ _ _ _ _ => absurd (t0_slackOf (t0_at h1 hc6 hjc)) (exn_ne hE)) (fun H locs _ hP hS => ?_)
              refine lv_iconst (v := 5) hx hb dL_instruments_120 (by decide) ?_
              refine lv_idiv hx hb dL_instruments_121 (by decide) ?_
              refine lv_isub hx hb dL_instruments_122 ?_
              refine lv_goto (tgt := 137) hx hb dL_instruments_123 (by decide) ?_
              refine W.eq (g2 := F0 m 137 ls (.int (fX7_rawValue M (nI j)) :: [])) (congrArg (fun z => F0 m 137 ls (.int z :: [])) (raw_hair hI c107)) ?_
              refine W.widen (k := cells + 7) (n := slots + 42) (by omega) (by omega) ?_
              exact k137 H locs ls hP hS (lv_sub hl [0, 1, 2, 3, 4, 5, 6, 7] rfl)
          refine lv_if_le (tgt := 103) hx hb dL_instruments_86 (by decide) (fun c86 => ?_) (fun c86 => ?_)
          · refine lv_iconst (v := 0) hx hb dL_instruments_103 (by decide) ?_
            refine W.eq (g2 := F0 m 104 ls (.int (fX4_depression M 1 (pl (nI j))) :: [])) (congrArg (fun z => F0 m 104 ls (.int z :: [])) (dep_none hI c86)) ?_
            refine W.widen (k := cells + 5) (n := slots + 30) (by omega) (by omega) ?_
            exact k104 H locs ls hP hS (lv_sub hl [0, 1, 2, 3, 4, 5, 6] rfl)
          · refine lv_bipush (v := 100) hx hb dL_instruments_89 (by decide) ?_
            refine lv_iload hx hb dL_instruments_91 (lv_at hl 1 rfl) ?_
            refine lv_isub hx hb dL_instruments_93 ?_
            refine lv_iload hx hb dL_instruments_94 (lv_at hl 0 rfl) ?_
            refine lv_imul hx hb dL_instruments_96 ?_
            refine lv_bipush (v := 100) hx hb dL_instruments_97 (by decide) ?_
            refine lv_idiv hx hb dL_instruments_99 (by decide) ?_
            refine lv_goto (tgt := 104) hx hb dL_instruments_100 (by decide) ?_
            refine W.eq (g2 := F0 m 104 ls (.int (fX4_depression M 1 (pl (nI j))) :: [])) (congrArg (fun z => F0 m 104 ls (.int z :: [])) (dep_some hI c86)) ?_
            refine W.widen (k := cells + 5) (n := slots + 30) (by omega) (by omega) ?_
            exact k104 H locs ls hP hS (lv_sub hl [0, 1, 2, 3, 4, 5, 6] rfl)
        refine lv_if_eq (tgt := 61) hx hb dL_instruments_51 (by decide) (fun c51 => ?_) (fun c51 => ?_)
        · have hbx := outF_box c51
          refine lv_aload_n hx hb dL_instruments_61 rfl (lv_at hl 4 rfl) ?_
          refine lv_aload_n hx hb dL_instruments_62 rfl (lv_at hl 4 rfl) ?_
          refine lv_iload_n hx hb dL_instruments_63 rfl (lv_at hl 3 rfl) ?_
          refine xct_i (vx_runV (As := [.int (nI (j))]) (rest := [.ref (b + 0)]) ⟨hx, hb, hml, hown, hts⟩ (c_X7_boxOf l hl0 D cy b n (by omega) M (nI (j)) hcn) (cwV 1 hts gL_instruments_X7_boxOf rfl rfl rfl (by decide +kernel) ⟨Nat.le_of_ble_eq_true rfl, Nat.le_of_ble_eq_true rfl⟩) (xPreV hP hK hX hS (by omega) (cell7 (by decide)) rfl) rfl rfl hl.1 rfl (lv_room (Nat.le_of_ble_eq_true rfl)) dL_instruments_64 ⟨by show _ ≤ 156; omega, by show _ ≤ 936; omega⟩) hS (fun E ce q H locs hE _ _ _ _ _ => absurd (t0_boxOf (t0_at h1 hc6 hjc)) (exn_ne hE)) (fun H locs _ hP hS => ?_)
          refine xct_i (vx_runV (As := [.int (fX7_boxOf M (nI (j)))]) (rest := []) ⟨hx, hb, hml, hown, hts⟩ (c_X7_fixedPoint l hl0 D cy b n (by omega) M (fX7_boxOf M (nI (j))) ) (cwV 1 hts gL_instruments_X7_fixedPoint rfl rfl rfl (by decide +kernel) ⟨Nat.le_of_ble_eq_true rfl, Nat.le_of_ble_eq_true rfl⟩) (xPreV hP hK hX hS (by omega) (cell7 (by decide)) rfl) rfl rfl hl.1 rfl (lv_room (Nat.le_of_ble_eq_true rfl)) dL_instruments_67 ⟨by show _ ≤ 156; omega, by show _ ≤ 936; omega⟩) hS (fun E ce q H locs hE _ _ _ _ _ => absurd (fp_t0 hI hbx) (exn_ne hE)) (fun H locs _ hP hS => ?_)
          refine W.eq (g2 := F0 m 70 ls (.int (fX7_surroundingOf M (nI j)) :: [])) (congrArg (fun z => F0 m 70 ls (.int z :: [])) (sur_box hI c51)) ?_
          refine W.widen (k := cells + 4) (n := slots + 24) (by omega) (by omega) ?_
          exact k70 H locs ls hP hS (lv_sub hl [0, 1, 2, 3, 4] rfl)
        · refine lv_aload_n hx hb dL_instruments_54 rfl (lv_at hl 4 rfl) ?_
          refine xc_i (va_runV (As := []) (rest := []) ⟨hx, hb, hml, hown, hts⟩ (c_X7_humidity l D cy b n (by omega) M ) (cwV 0 hts gL_instruments_X7_humidity rfl rfl rfl (by decide +kernel) ⟨Nat.le_of_ble_eq_true rfl, Nat.le_of_ble_eq_true rfl⟩) (xPreV hP hK hX hS (by omega) (cell7 (by decide)) rfl) rfl rfl hl.1 rfl (lv_room (Nat.le_of_ble_eq_true rfl)) dL_instruments_55 ⟨by show _ ≤ 156; omega, by show _ ≤ 936; omega⟩) hS (fun H locs hP hS => ?_)
          refine lv_goto (tgt := 70) hx hb dL_instruments_58 (by decide) ?_
          refine W.eq (g2 := F0 m 70 ls (.int (fX7_surroundingOf M (nI j)) :: [])) (congrArg (fun z => F0 m 70 ls (.int z :: [])) (sur_out c51)) ?_
          refine W.widen (k := cells + 4) (n := slots + 24) (by omega) (by omega) ?_
          exact k70 H locs ls hP hS (lv_sub hl [0, 1, 2, 3, 4] rfl)
      refine lv_icmp_ne (tgt := 46) hx hb dL_instruments_39 (by decide) (fun c39 => ?_) (fun c39 => ?_)
      · refine lv_iconst (v := 0) hx hb dL_instruments_46 (by decide) ?_
        refine W.eq (g2 := F0 m 47 ls (.int (outF M (nI j)) :: [])) (congrArg (fun z => F0 m 47 ls (.int z :: [])) (outF_0 c39).symm) ?_
        refine W.widen (k := cells + 2) (n := slots + 12) (by omega) (by omega) ?_
        exact k47 H locs ls hP hS (lv_sub hl [0, 1, 2, 3] rfl)
      · refine lv_iconst (v := 1) hx hb dL_instruments_42 (by decide) ?_
        refine lv_goto (tgt := 47) hx hb dL_instruments_43 (by decide) ?_
        refine W.eq (g2 := F0 m 47 ls (.int (outF M (nI j)) :: [])) (congrArg (fun z => F0 m 47 ls (.int z :: [])) (outF_1 c39).symm) ?_
        refine W.widen (k := cells + 2) (n := slots + 12) (by omega) (by omega) ?_
        exact k47 H locs ls hP hS (lv_sub hl [0, 1, 2, 3] rfl)
set_option maxHeartbeats 4000000 in
set_option maxRecDepth 100000 in
theorem c_L_instruments (l : Launch) (hl0 : l.stackTraces = false) (D : va_G) (cy : Nat → ClassId) (b n : Nat) (hn : 124 ≤ n) (M : Mem) {mx : Nat} (hI0 : INV mx M) : Met l yL_instruments wsL_instruments ({ frames := 8, cells := 156, slots := 936, locals := 135 } : Room) (CP D cy b n fT M [.ref (b + 0)]) (CQe D cy b n 1 (EQP M)) 156 936 (fr b) := by
  refine Met.ofW (cc := cL_instruments) (maxL := 14) (ret := some .boolean) (by decide) rfl ?_
  intro p e s m args below meth c s₁ B hml hv
  obtain ⟨rfl, hP, hK, hX⟩ := hv
  have hx := B.exec
  have hb := B.bytes
  have hr := B.returns
  have hts := atoms_spec (ws := wsL_instruments) B.pre
  have hown : s.vm.findClass RL = some m.cls := findClass_of_methodNamed B.named
  have hlocks := B.notSynchronized
  have hS : va_S (fr b) s.heap s.heap [] := va_S.rf
  have hl := lv_entry ([.ref (b + 0)]) (n := 14) (Nat.le_of_ble_eq_true rfl)
  rw [lg_entry_eq]
  generalize (lg_sl ([.ref (b + 0)]) ++ List.replicate (14 - (lg_sl ([.ref (b + 0)])).length) Slot.unset).toArray = ls at hl ⊢
  have hl : lv_has ls 14 [(0, .ref (b + 0))] := hl
  refine lv_aload_n hx hb dL_instruments_0 rfl (lv_at hl 0 rfl) ?_
  refine xc_i (va_runV (As := []) (rest := []) ⟨hx, hb, hml, hown, hts⟩ (c_X7_hairDifference l D cy b n (by omega) M (inv_cnt hI0)) (cwV 0 hts gL_instruments_X7_hairDifference rfl rfl rfl (by decide +kernel) ⟨Nat.le_of_ble_eq_true rfl, Nat.le_of_ble_eq_true rfl⟩) (xPreV hP hK hX hS (by omega) (cell7 (by decide)) rfl) rfl rfl hl.1 rfl (lv_room (Nat.le_of_ble_eq_true rfl)) dL_instruments_1 ⟨Nat.le_of_ble_eq_true rfl, Nat.le_of_ble_eq_true rfl⟩) hS (fun H locs hP hS => ?_)
  refine lv_if_ne (tgt := 11) hx hb dL_instruments_4 (by decide) (fun c4 => absurd (inv_hd hI0) c4) (fun c4 => ?_)
  refine lv_iconst (v := 1) hx hb dL_instruments_7 (by decide) ?_
  refine lv_goto (tgt := 12) hx hb dL_instruments_8 (by decide) ?_
  refine lv_istore_n (lv' := [(1, .int (1 : Int32)), (0, .ref (b + 0))]) hx hb dL_instruments_12 rfl hl (by decide) rfl (fun ls hl => ?_)
  refine lv_iconst (v := 0) hx hb dL_instruments_13 (by decide) ?_
  refine lv_istore_n (lv' := [(2, .int (0 : Int32)), (1, .int (1 : Int32)), (0, .ref (b + 0))]) hx hb dL_instruments_14 rfl hl (by decide) rfl (fun ls hl => ?_)
  exact cl_L_instruments l hl0 D cy b n hn M hI0 hx hb hr hlocks hml hown hts hK hX 7 M 0 0 0 H locs ls (fun _ _ => rfl) (by omega) (by omega) (by omega) (by omega) hP hS (lv_sub hl [1, 0, 2] rfl)
