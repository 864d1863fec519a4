/-! the law's inner loop (laid by a program) -/
set_option maxHeartbeats 4000000 in
set_option maxRecDepth 100000 in
theorem law_u (l : Launch) (hl0 : l.stackTraces = false) (D : va_G) (cy : Nat → ClassId) (b ba LN : Nat) (xs : Nat → Int32) (aR aH aB aU : Nat) {p : Program} {e : Env} {s : State} {m : MethodId} {below : List Frame} {meth : Method} {c : Code} (hx : p.tables.exec = Jvm.exec) (hb : c.code = cL_law) (hml : c.maxLocals = 11) (hown : s.vm.findClass RL = some m.cls) (hts : ∀ w ∈ wsL_law, w.before #[Value.ref ba] s = true) (hK : va_K D vwCl (tysW cy) s) (hX : SX b s) (hJ : SJ (fr b) s) (hTx : TXs (fr b) (rtx aR aH aB aU) s) (hV : VR aR aH aB aU s) (hXs : va_X ba LN xs s s.heap) (hbl : ba < s.heap.size) (hbs : b = s.heap.size) (hLN : LN ≤ 260) (q c0 : Nat) (Mb : Mem) (hq : q < 2) (hc0 : c0 ≤ 6) (K0 S0 : Nat) (hK0 : K0 + 6000 ≤ 600086) (hS0 : S0 + 36000 ≤ 7301442) (hkk : ∀ (M : Mem) (H : Heap) (locs : List Loc) (ls : Array Slot) (cz sz : Nat), IU q c0 Mb 14 M → va_P D vwCl (wL cy b fT M 125) H → va_S (fr b) s.heap H locs → lv_has ls 11 [(3, .int (1 : Int32)), (6, .long (sumF Mb)), (4, .int (nI (q))), (1, .ref (b + 0)), (2, .ref (b + 124)), (0, .ref ba)] → cz ≤ K0 + 5600 → sz ≤ S0 + 35000 → W p l e room_1 s m #[Value.ref ba] below meth c H locs cz sz (lw_Z below #[Value.ref ba] s) (F0 m 331 ls [])) : ∀ (d u : Nat), u + d = 14 → ∀ (M : Mem) (H : Heap) (locs : List Loc) (ls : Array Slot) (cz sz : Nat), IU q c0 Mb u M → va_P D vwCl (wL cy b fT M 125) H → va_S (fr b) s.heap H locs → lv_has ls 11 [(8, .int (nI (u))), (3, .int (1 : Int32)), (6, .long (sumF Mb)), (4, .int (nI (q))), (1, .ref (b + 0)), (2, .ref (b + 124)), (0, .ref ba)] → cz ≤ K0 + 400 * u → sz ≤ S0 + 2500 * u → W p l e room_1 s m #[Value.ref ba] below meth c H locs cz sz (lw_Z below #[Value.ref ba] s) (F0 m 113 ls []) := by
  intro d
  induction d with
  | zero =>
    intro u hu M H locs ls cz sz hIU hP hS hl hcz hsz
    obtain rfl : u = 14 := by omega
    refine lv_iload hx hb dL_law_113 (lv_at hl 0 rfl) ?_
    refine lv_bipush (v := 14) hx hb dL_law_115 (by decide) ?_
    refine lv_icmp_ge (tgt := 331) hx hb dL_law_117 (by decide) (fun c117 => ?_) (fun c117 => absurd (by decide) c117)
    exact hkk M H locs ls cz sz hIU hP hS (lv_sub hl [1, 2, 3, 4, 5, 6] rfl) (by omega) (by omega)
  | succ d ih =>
    intro u hu' M H locs ls cz sz hIU hP hS hl hcz hsz
    have hu : u < 14 := by omega
    obtain ⟨c', hA⟩ := id hIU.1
    refine lv_iload hx hb dL_law_113 (lv_at hl 0 rfl) ?_
    refine lv_bipush (v := 14) hx hb dL_law_115 (by decide) ?_
    refine lv_icmp_ge (tgt := 331) hx hb dL_law_117 (by decide) (fun c117 => absurd c117 (by rw [show (14 : Int32) = nI 14 from rfl, nI_leI (by omega) (by omega)]; omega)) (fun c117 => ?_)
    refine lv_iload_n hx hb dL_law_120 rfl (lv_at hl 1 rfl) ?_
    refine lv_if_eq (tgt := 331) hx hb dL_law_121 (by decide) (fun c121 => absurd c121 (by decide)) (fun c121 => ?_)
    refine lv_aload_n hx hb dL_law_124 rfl (lv_at hl 4 rfl) ?_
    refine xc_l (va_runS (As := [.ref (b + 0)]) (rest := []) ⟨hx, hb, hml, hown, hts⟩ (c_L_sum l hl0 D cy b 125 (by omega) M hA.cnt) (va_cwS 1 hts gL_law_L_sum rfl rfl rfl (by decide +kernel) ⟨Nat.le_of_ble_eq_true rfl, Nat.le_of_ble_eq_true rfl⟩) (xPreS hP hK hX hS) rfl rfl hl.1 rfl (lv_room (Nat.le_of_ble_eq_true rfl)) dL_law_125 ⟨by show _ ≤ 600086; omega, by show _ ≤ 7301442; omega⟩) hS (fun H locs hP hS => ?_)
    refine lv_lstore (lv' := [(9, .long (sumF M)), (8, .int (nI (u))), (3, .int (1 : Int32)), (6, .long (sumF Mb)), (4, .int (nI (q))), (1, .ref (b + 0)), (2, .ref (b + 124)), (0, .ref ba)]) hx hb dL_law_128 hl (by decide) rfl (fun ls hl => ?_)
    refine lv_aload_n hx hb dL_law_130 rfl (lv_at hl 5 rfl) ?_
    refine lv_bipush (v := 100) hx hb dL_law_131 (by decide) ?_
    refine xc_i (vx_runSW (As := [.ref (b + 0), .int (100 : Int32)]) (rest := []) ⟨hx, hb, hml, hown, hts⟩ (c_L_advanced l hl0 D cy b 125 (by omega) M (100 : Int32) hA.cnt hA.2.2.2.1) (vx_cwSW 2 hts gL_law_L_advanced rfl rfl rfl (by decide +kernel) ⟨Nat.le_of_ble_eq_true rfl, Nat.le_of_ble_eq_true rfl⟩) (xPreS hP hK hX hS) rfl rfl hl.1 rfl (lv_room (Nat.le_of_ble_eq_true rfl)) dL_law_133 ⟨by show _ ≤ 600086; omega, by show _ ≤ 7301442; omega⟩) hS (fun H locs hP hS => ?_)
    rw [(ref_adv M).2] at hP
    refine W.eq (g2 := F0 m 136 ls (.int ((-2) : Int32) :: [])) (congrArg (fun z => F0 m 136 ls (.int z :: [])) (by rw [(ref_adv M).1]; rfl)) ?_
    refine lv_bipush (v := (-2)) hx hb dL_law_136 (by decide) ?_
    refine lv_icmp_ne (tgt := 255) hx hb dL_law_138 (by decide) (fun c138 => absurd rfl c138) (fun c138 => ?_)
    refine lv_aload_n hx hb dL_law_141 rfl (lv_at hl 5 rfl) ?_
    refine lv_iconst (v := (-1)) hx hb dL_law_142 (by decide) ?_
    refine xc_i (vx_runSW (As := [.ref (b + 0), .int ((-1) : Int32)]) (rest := []) ⟨hx, hb, hml, hown, hts⟩ (c_L_damped l hl0 D cy b 125 (by omega) M ((-1) : Int32) hA.cnt hA.2.2.2.1) (vx_cwSW 2 hts gL_law_L_damped rfl rfl rfl (by decide +kernel) ⟨Nat.le_of_ble_eq_true rfl, Nat.le_of_ble_eq_true rfl⟩) (xPreS hP hK hX hS) rfl rfl hl.1 rfl (lv_room (Nat.le_of_ble_eq_true rfl)) dL_law_143 ⟨by show _ ≤ 600086; omega, by show _ ≤ 7301442; omega⟩) hS (fun H locs hP hS => ?_)
    rw [(ref_hum M).2] at hP
    refine W.eq (g2 := F0 m 146 ls (.int ((-2) : Int32) :: [])) (congrArg (fun z => F0 m 146 ls (.int z :: [])) (by rw [(ref_hum M).1]; rfl)) ?_
    refine lv_bipush (v := (-2)) hx hb dL_law_146 (by decide) ?_
    refine lv_icmp_ne (tgt := 255) hx hb dL_law_148 (by decide) (fun c148 => absurd rfl c148) (fun c148 => ?_)
    refine lv_aload_n hx hb dL_law_151 rfl (lv_at hl 5 rfl) ?_
    refine lv_bipush (v := 41) hx hb dL_law_152 (by decide) ?_
    refine xc_i (vx_runSW (As := [.ref (b + 0), .int (41 : Int32)]) (rest := []) ⟨hx, hb, hml, hown, hts⟩ (c_L_warmed l hl0 D cy b 125 (by omega) M (41 : Int32) hA.cnt hA.2.2.2.1) (vx_cwSW 2 hts gL_law_L_warmed rfl rfl rfl (by decide +kernel) ⟨Nat.le_of_ble_eq_true rfl, Nat.le_of_ble_eq_true rfl⟩) (xPreS hP hK hX hS) rfl rfl hl.1 rfl (lv_room (Nat.le_of_ble_eq_true rfl)) dL_law_154 ⟨by show _ ≤ 600086; omega, by show _ ≤ 7301442; omega⟩) hS (fun H locs hP hS => ?_)
    rw [(ref_tmp M).2] at hP
    refine W.eq (g2 := F0 m 157 ls (.int ((-2) : Int32) :: [])) (congrArg (fun z => F0 m 157 ls (.int z :: [])) (by rw [(ref_tmp M).1]; rfl)) ?_
    refine lv_bipush (v := (-2)) hx hb dL_law_157 (by decide) ?_
    refine lv_icmp_ne (tgt := 255) hx hb dL_law_159 (by decide) (fun c159 => absurd rfl c159) (fun c159 => ?_)
    refine lv_aload_n hx hb dL_law_162 rfl (lv_at hl 5 rfl) ?_
    refine lv_bipush (v := 6) hx hb dL_law_163 (by decide) ?_
    refine xc_i (vx_runSW (As := [.ref (b + 0), .int (6 : Int32)]) (rest := []) ⟨hx, hb, hml, hown, hts⟩ (c_L_taught l hl0 D cy b 125 (by omega) M (6 : Int32) hA.cnt hA.2.2.2.1) (vx_cwSW 2 hts gL_law_L_taught rfl rfl rfl (by decide +kernel) ⟨Nat.le_of_ble_eq_true rfl, Nat.le_of_ble_eq_true rfl⟩) (xPreS hP hK hX hS) rfl rfl hl.1 rfl (lv_room (Nat.le_of_ble_eq_true rfl)) dL_law_165 ⟨by show _ ≤ 600086; omega, by show _ ≤ 7301442; omega⟩) hS (fun H locs hP hS => ?_)
    rw [(ref_skl M).2] at hP
    refine W.eq (g2 := F0 m 168 ls (.int ((-2) : Int32) :: [])) (congrArg (fun z => F0 m 168 ls (.int z :: [])) (by rw [(ref_skl M).1]; rfl)) ?_
    refine lv_bipush (v := (-2)) hx hb dL_law_168 (by decide) ?_
    refine lv_icmp_ne (tgt := 255) hx hb dL_law_170 (by decide) (fun c170 => absurd rfl c170) (fun c170 => ?_)
    refine lv_aload_n hx hb dL_law_173 rfl (lv_at hl 5 rfl) ?_
    refine lv_bipush (v := 6) hx hb dL_law_174 (by decide) ?_
    refine lv_iconst (v := 0) hx hb dL_law_176 (by decide) ?_
    refine xc_i (vx_runSW (As := [.ref (b + 0), .int (6 : Int32), .int (0 : Int32)]) (rest := []) ⟨hx, hb, hml, hown, hts⟩ (c_L_boxed l hl0 D cy b 125 (by omega) M (6 : Int32) (0 : Int32) hA.cnt hA.2.2.2.1) (vx_cwSW 3 hts gL_law_L_boxed rfl rfl rfl (by decide +kernel) ⟨Nat.le_of_ble_eq_true rfl, Nat.le_of_ble_eq_true rfl⟩) (xPreS hP hK hX hS) rfl rfl hl.1 rfl (lv_room (Nat.le_of_ble_eq_true rfl)) dL_law_177 ⟨by show _ ≤ 600086; omega, by show _ ≤ 7301442; omega⟩) hS (fun H locs hP hS => ?_)
    rw [(no_box (y := 0) (at_6 hA.1)).2] at hP
    refine W.eq (g2 := F0 m 180 ls (.int ((-5) : Int32) :: [])) (congrArg (fun z => F0 m 180 ls (.int z :: [])) (by rw [(no_box (y := 0) (at_6 hA.1)).1]; rfl)) ?_
    refine lv_bipush (v := (-5)) hx hb dL_law_180 (by decide) ?_
    refine lv_icmp_ne (tgt := 255) hx hb dL_law_182 (by decide) (fun c182 => absurd rfl c182) (fun c182 => ?_)
    refine lv_aload_n hx hb dL_law_185 rfl (lv_at hl 5 rfl) ?_
    refine lv_iconst (v := (-1)) hx hb dL_law_186 (by decide) ?_
    refine xc_i (vx_runSW (As := [.ref (b + 0), .int ((-1) : Int32)]) (rest := []) ⟨hx, hb, hml, hown, hts⟩ (c_L_taken l hl0 D cy b 125 (by omega) M ((-1) : Int32) hA.cnt hA.2.2.2.1) (vx_cwSW 2 hts gL_law_L_taken rfl rfl rfl (by decide +kernel) ⟨Nat.le_of_ble_eq_true rfl, Nat.le_of_ble_eq_true rfl⟩) (xPreS hP hK hX hS) rfl rfl hl.1 rfl (lv_room (Nat.le_of_ble_eq_true rfl)) dL_law_187 ⟨by show _ ≤ 600086; omega, by show _ ≤ 7301442; omega⟩) hS (fun H locs hP hS => ?_)
    rw [(ref_out (M := M)).2] at hP
    refine W.eq (g2 := F0 m 190 ls (.int ((-5) : Int32) :: [])) (congrArg (fun z => F0 m 190 ls (.int z :: [])) (by rw [(ref_out (M := M)).1]; rfl)) ?_
    refine lv_bipush (v := (-5)) hx hb dL_law_190 (by decide) ?_
    refine lv_icmp_ne (tgt := 255) hx hb dL_law_192 (by decide) (fun c192 => absurd rfl c192) (fun c192 => ?_)
    refine lv_aload_n hx hb dL_law_195 rfl (lv_at hl 5 rfl) ?_
    refine lv_bipush (v := 6) hx hb dL_law_196 (by decide) ?_
    refine xc_i (vx_runSW (As := [.ref (b + 0), .int (6 : Int32)]) (rest := []) ⟨hx, hb, hml, hown, hts⟩ (c_L_calibrated l hl0 D cy b 125 (by omega) M (6 : Int32) hA.cnt hA.2.2.2.1) (vx_cwSW 2 hts gL_law_L_calibrated rfl rfl rfl (by decide +kernel) ⟨Nat.le_of_ble_eq_true rfl, Nat.le_of_ble_eq_true rfl⟩) (xPreS hP hK hX hS) rfl rfl hl.1 rfl (lv_room (Nat.le_of_ble_eq_true rfl)) dL_law_198 ⟨by show _ ≤ 600086; omega, by show _ ≤ 7301442; omega⟩) hS (fun H locs hP hS => ?_)
    rw [(no_cal (at_6 hA.1)).2] at hP
    refine W.eq (g2 := F0 m 201 ls (.int ((-995) : Int32) :: [])) (congrArg (fun z => F0 m 201 ls (.int z :: [])) (by rw [(no_cal (at_6 hA.1)).1]; rfl)) ?_
    refine lv_sipush (v := (-995)) hx hb dL_law_201 (by decide) ?_
    refine lv_icmp_ne (tgt := 255) hx hb dL_law_204 (by decide) (fun c204 => absurd rfl c204) (fun c204 => ?_)
    refine lv_aload_n hx hb dL_law_207 rfl (lv_at hl 5 rfl) ?_
    refine lv_bipush (v := 6) hx hb dL_law_208 (by decide) ?_
    refine xc_i (vx_runSW (As := [.ref (b + 0), .int (6 : Int32)]) (rest := []) ⟨hx, hb, hml, hown, hts⟩ (c_L_tightened l hl0 D cy b 125 (by omega) M (6 : Int32) hA.cnt hA.2.2.2.1) (vx_cwSW 2 hts gL_law_L_tightened rfl rfl rfl (by decide +kernel) ⟨Nat.le_of_ble_eq_true rfl, Nat.le_of_ble_eq_true rfl⟩) (xPreS hP hK hX hS) rfl rfl hl.1 rfl (lv_room (Nat.le_of_ble_eq_true rfl)) dL_law_210 ⟨by show _ ≤ 600086; omega, by show _ ≤ 7301442; omega⟩) hS (fun H locs hP hS => ?_)
    rw [(no_tig (at_6 hA.1)).2] at hP
    refine W.eq (g2 := F0 m 213 ls (.int ((-5) : Int32) :: [])) (congrArg (fun z => F0 m 213 ls (.int z :: [])) (by rw [(no_tig (at_6 hA.1)).1]; rfl)) ?_
    refine lv_bipush (v := (-5)) hx hb dL_law_213 (by decide) ?_
    refine lv_icmp_ne (tgt := 255) hx hb dL_law_215 (by decide) (fun c215 => absurd rfl c215) (fun c215 => ?_)
    refine lv_aload_n hx hb dL_law_218 rfl (lv_at hl 5 rfl) ?_
    refine lv_bipush (v := 6) hx hb dL_law_219 (by decide) ?_
    refine xc_i (vx_runSW (As := [.ref (b + 0), .int (6 : Int32)]) (rest := []) ⟨hx, hb, hml, hown, hts⟩ (c_L_moistened l hl0 D cy b 125 (by omega) M (6 : Int32) hA.cnt hA.2.2.2.1) (vx_cwSW 2 hts gL_law_L_moistened rfl rfl rfl (by decide +kernel) ⟨Nat.le_of_ble_eq_true rfl, Nat.le_of_ble_eq_true rfl⟩) (xPreS hP hK hX hS) rfl rfl hl.1 rfl (lv_room (Nat.le_of_ble_eq_true rfl)) dL_law_221 ⟨by show _ ≤ 600086; omega, by show _ ≤ 7301442; omega⟩) hS (fun H locs hP hS => ?_)
    rw [(no_moi (at_6 hA.1)).2] at hP
    refine W.eq (g2 := F0 m 224 ls (.int ((-5) : Int32) :: [])) (congrArg (fun z => F0 m 224 ls (.int z :: [])) (by rw [(no_moi (at_6 hA.1)).1]; rfl)) ?_
    refine lv_bipush (v := (-5)) hx hb dL_law_224 (by decide) ?_
    refine lv_icmp_ne (tgt := 255) hx hb dL_law_226 (by decide) (fun c226 => absurd rfl c226) (fun c226 => ?_)
    refine lv_aload_n hx hb dL_law_229 rfl (lv_at hl 5 rfl) ?_
    refine lv_bipush (v := 6) hx hb dL_law_230 (by decide) ?_
    refine lv_iconst (v := 1) hx hb dL_law_232 (by decide) ?_
    refine xc_i (vx_runSW (As := [.ref (b + 0), .int (6 : Int32), .int (1 : Int32)]) (rest := []) ⟨hx, hb, hml, hown, hts⟩ (c_L_added l hl0 D cy b 125 (by omega) M (6 : Int32) (1 : Int32) hA.cnt hA.2.2.2.1) (vx_cwSW 3 hts gL_law_L_added rfl rfl rfl (by decide +kernel) ⟨Nat.le_of_ble_eq_true rfl, Nat.le_of_ble_eq_true rfl⟩) (xPreS hP hK hX hS) rfl rfl hl.1 rfl (lv_room (Nat.le_of_ble_eq_true rfl)) dL_law_233 ⟨by show _ ≤ 600086; omega, by show _ ≤ 7301442; omega⟩) hS (fun H locs hP hS => ?_)
    rw [(no_add (y := 1) (at_6 hA.1)).2] at hP
    refine W.eq (g2 := F0 m 236 ls (.int ((-5) : Int32) :: [])) (congrArg (fun z => F0 m 236 ls (.int z :: [])) (by rw [(no_add (y := 1) (at_6 hA.1)).1]; rfl)) ?_
    refine lv_bipush (v := (-5)) hx hb dL_law_236 (by decide) ?_
    refine lv_icmp_ne (tgt := 255) hx hb dL_law_238 (by decide) (fun c238 => absurd rfl c238) (fun c238 => ?_)
    refine lv_aload_n hx hb dL_law_241 rfl (lv_at hl 5 rfl) ?_
    refine xc_l (va_runS (As := [.ref (b + 0)]) (rest := []) ⟨hx, hb, hml, hown, hts⟩ (c_L_sum l hl0 D cy b 125 (by omega) M hA.cnt) (va_cwS 1 hts gL_law_L_sum rfl rfl rfl (by decide +kernel) ⟨Nat.le_of_ble_eq_true rfl, Nat.le_of_ble_eq_true rfl⟩) (xPreS hP hK hX hS) rfl rfl hl.1 rfl (lv_room (Nat.le_of_ble_eq_true rfl)) dL_law_242 ⟨by show _ ≤ 600086; omega, by show _ ≤ 7301442; omega⟩) hS (fun H locs hP hS => ?_)
    refine lv_lload hx hb dL_law_245 (lv_at hl 0 rfl) ?_
    refine W.lcmp hx hb dL_law_247 ?_
    refine W.eq (g2 := F0 m 248 ls (.int (0 : Int32) :: [])) (congrArg (fun z => F0 m 248 ls (.int z :: [])) (lg_self _)) ?_
    refine lv_if_ne (tgt := 255) hx hb dL_law_248 (by decide) (fun c248 => absurd rfl c248) (fun c248 => ?_)
    refine lv_iconst (v := 1) hx hb dL_law_251 (by decide) ?_
    refine lv_goto (tgt := 256) hx hb dL_law_252 (by decide) ?_
    refine lv_istore_n (lv' := [(3, .int (1 : Int32)), (9, .long (sumF M)), (8, .int (nI (u))), (6, .long (sumF Mb)), (4, .int (nI (q))), (1, .ref (b + 0)), (2, .ref (b + 124)), (0, .ref ba)]) hx hb dL_law_256 rfl hl (by decide) rfl (fun ls hl => ?_)
    refine lv_iload_n hx hb dL_law_257 rfl (lv_at hl 0 rfl) ?_
    refine lv_if_eq (tgt := 287) hx hb dL_law_258 (by decide) (fun c258 => absurd c258 (by decide)) (fun c258 => ?_)
    refine lv_aload_n hx hb dL_law_261 rfl (lv_at hl 5 rfl) ?_
    refine lv_aload_n hx hb dL_law_262 rfl (lv_at hl 6 rfl) ?_
    refine xc_e (va_runS (As := [.ref (b + 0), .ref (b + 124)]) (rest := []) ⟨hx, hb, hml, hown, hts⟩ (c_L_act l hl0 D cy b 125 (by omega) M hA) (va_cwS 2 hts gL_law_L_act rfl rfl rfl (by decide +kernel) ⟨Nat.le_of_ble_eq_true rfl, Nat.le_of_ble_eq_true rfl⟩) (xPreS hP hK hX hS) rfl rfl hl.1 rfl (lv_room (Nat.le_of_ble_eq_true rfl)) dL_law_263 ⟨by show _ ≤ 600086; omega, by show _ ≤ 7301442; omega⟩) hS (fun M1 H locs hM1 hP hS => ?_)
    refine lv_if_eq (tgt := 287) hx hb dL_law_266 (by decide) (fun c266 => absurd c266 (by decide)) (fun c266 => ?_)
    refine lv_aload_n hx hb dL_law_269 rfl (lv_at hl 5 rfl) ?_
    refine xc_e (va_runS (As := [.ref (b + 0)]) (rest := []) ⟨hx, hb, hml, hown, hts⟩ (c_L_instruments l hl0 D cy b 125 (by omega) M1 hM1.1) (va_cwS 1 hts gL_law_L_instruments rfl rfl rfl (by decide +kernel) ⟨Nat.le_of_ble_eq_true rfl, Nat.le_of_ble_eq_true rfl⟩) (xPreS hP hK hX hS) rfl rfl hl.1 rfl (lv_room (Nat.le_of_ble_eq_true rfl)) dL_law_270 ⟨by show _ ≤ 600086; omega, by show _ ≤ 7301442; omega⟩) hS (fun M2 H locs hE2 hP hS => ?_)
    have hI2 : INV (70 * u + 70) M2 := hM1.1.eqp hE2
    refine lv_if_eq (tgt := 287) hx hb dL_law_273 (by decide) (fun c273 => absurd c273 (by decide)) (fun c273 => ?_)
    refine lv_aload_n hx hb dL_law_276 rfl (lv_at hl 5 rfl) ?_
    refine xc_i (va_runS (As := [.ref (b + 0)]) (rest := []) ⟨hx, hb, hml, hown, hts⟩ (c_L_comparisons l hl0 D cy b 125 (by omega) M2 hI2) (va_cwS 1 hts gL_law_L_comparisons rfl rfl rfl (by decide +kernel) ⟨Nat.le_of_ble_eq_true rfl, Nat.le_of_ble_eq_true rfl⟩) (xPreS hP hK hX hS) rfl rfl hl.1 rfl (lv_room (Nat.le_of_ble_eq_true rfl)) dL_law_277 ⟨by show _ ≤ 600086; omega, by show _ ≤ 7301442; omega⟩) hS (fun H locs hP hS => ?_)
    refine lv_if_eq (tgt := 287) hx hb dL_law_280 (by decide) (fun c280 => absurd c280 (by decide)) (fun c280 => ?_)
    refine lv_iconst (v := 1) hx hb dL_law_283 (by decide) ?_
    refine lv_goto (tgt := 288) hx hb dL_law_284 (by decide) ?_
    refine lv_istore_n (lv' := [(3, .int (1 : Int32)), (9, .long (sumF M)), (8, .int (nI (u))), (6, .long (sumF Mb)), (4, .int (nI (q))), (1, .ref (b + 0)), (2, .ref (b + 124)), (0, .ref ba)]) hx hb dL_law_288 rfl hl (by decide) rfl (fun ls hl => ?_)
    refine lv_iload_n hx hb dL_law_289 rfl (lv_at hl 0 rfl) ?_
    refine lv_if_eq (tgt := 325) hx hb dL_law_290 (by decide) (fun c290 => absurd c290 (by decide)) (fun c290 => ?_)
    refine lv_aload_n hx hb dL_law_293 rfl (lv_at hl 6 rfl) ?_
    refine xc_i (va_runS (As := [.ref (b + 124)]) (rest := []) ⟨hx, hb, hml, hown, hts⟩ (c_L_next l D cy b 125 (by omega) M2 ) (va_cwS 1 hts gL_law_L_next rfl rfl rfl (by decide +kernel) ⟨Nat.le_of_ble_eq_true rfl, Nat.le_of_ble_eq_true rfl⟩) (xPreS hP hK hX hS) rfl rfl hl.1 rfl (lv_room (Nat.le_of_ble_eq_true rfl)) dL_law_294 ⟨by show _ ≤ 600086; omega, by show _ ≤ 7301442; omega⟩) hS (fun H locs hP hS => ?_)
    obtain ⟨M3, e3⟩ : ∃ z, z = mU M2 124 0 (nxS (M2 124 0)) := ⟨_, rfl⟩
    rw [← e3] at hP
    have hE3 : EQR M1 M3 := (EQR.of hE2).trans (by rw [e3]; exact eqr_put _ _ _)
    have hC3 : CHG M c' M3 := hM1.2.out hA.2.2.1 hE3
    have hI3 : INV (70 * (u + 1)) M3 := by rw [show 70 * (u + 1) = 70 * u + 70 by omega]; exact hM1.1.rows (fun p _ h8 => hE3 p (by omega) (by omega))
    have hU3 : IU q c0 Mb (u + 1) M3 := hIU.act hq hc0 hA hu hI3 hC3
    have hO3 := hU3.2.1
    obtain ⟨u1, u2, u3, u4, u5⟩ := undo_chg hA hC3
    obtain ⟨c3, hA3⟩ := id hU3.1
    refine lv_iconst (v := 4) hx hb dL_law_297 (by decide) ?_
    refine lv_irem hx hb dL_law_298 (by decide) ?_
    refine lv_if_ne (tgt := 325) hx hb dL_law_299 (by decide) (fun c299 => ?_) (fun c299 => ?_)
    · refine lv_iinc (v := nI (u + 1)) (lv' := [(8, .int (nI (u + 1))), (3, .int (1 : Int32)), (9, .long (sumF M)), (6, .long (sumF Mb)), (4, .int (nI (q))), (1, .ref (b + 0)), (2, .ref (b + 124)), (0, .ref ba)]) hx hb dL_law_325 hl (k := 2) rfl (ixAdd (a := u) (c := 1) (d := u + 1) rfl rfl (by omega)) (by decide) rfl (fun ls hl => ?_)
      refine lv_goto (tgt := 113) hx hb dL_law_328 (by decide) ?_
      exact ih (u + 1) (by omega) M3 H locs ls _ _ hU3 hP hS (lv_sub hl [0, 1, 3, 4, 5, 6, 7] rfl) (by omega) (by omega)
    · refine lv_aload_n hx hb dL_law_302 rfl (lv_at hl 5 rfl) ?_
      refine xc_i (vx_runSW (As := [.ref (b + 0)]) (rest := []) ⟨hx, hb, hml, hown, hts⟩ (c_L_undone l hl0 D cy b 125 (by omega) M3 hA3.2.2.2.1 hO3.2.2.1) (vx_cwSW 1 hts gL_law_L_undone rfl rfl rfl (by decide +kernel) ⟨Nat.le_of_ble_eq_true rfl, Nat.le_of_ble_eq_true rfl⟩) (xPreS hP hK hX hS) rfl rfl hl.1 rfl (lv_room (Nat.le_of_ble_eq_true rfl)) dL_law_303 ⟨by show _ ≤ 600086; omega, by show _ ≤ 7301442; omega⟩) hS (fun H locs hP hS => ?_)
      refine W.eq (g2 := F0 m 306 ls (.int (fX7_undo M3) :: [])) (congrArg (fun z => F0 m 306 ls (.int z :: [])) (by rw [u1]; rfl)) ?_
      refine lv_if_lt (tgt := 323) hx hb dL_law_306 (by decide) (fun c306 => absurd c306 u2) (fun c306 => ?_)
      refine lv_aload_n hx hb dL_law_309 rfl (lv_at hl 5 rfl) ?_
      refine xc_l (va_runS (As := [.ref (b + 0)]) (rest := []) ⟨hx, hb, hml, hown, hts⟩ (c_L_sum l hl0 D cy b 125 (by omega) (gX7_undo M3) u3.cnt) (va_cwS 1 hts gL_law_L_sum rfl rfl rfl (by decide +kernel) ⟨Nat.le_of_ble_eq_true rfl, Nat.le_of_ble_eq_true rfl⟩) (xPreS hP hK hX hS) rfl rfl hl.1 rfl (lv_room (Nat.le_of_ble_eq_true rfl)) dL_law_310 ⟨by show _ ≤ 600086; omega, by show _ ≤ 7301442; omega⟩) hS (fun H locs hP hS => ?_)
      refine lv_lload hx hb dL_law_313 (lv_at hl 1 rfl) ?_
      refine W.lcmp hx hb dL_law_315 ?_
      refine W.eq (g2 := F0 m 316 ls (.int (0 : Int32) :: [])) (congrArg (fun z => F0 m 316 ls (.int z :: [])) (by rw [sum_rmq hA.2.2.1 hA.2.1 u4]; exact lg_self _)) ?_
      refine lv_if_ne (tgt := 323) hx hb dL_law_316 (by decide) (fun c316 => absurd rfl c316) (fun c316 => ?_)
      refine lv_iconst (v := 1) hx hb dL_law_319 (by decide) ?_
      refine lv_goto (tgt := 324) hx hb dL_law_320 (by decide) ?_
      refine lv_istore_n (lv' := [(3, .int (1 : Int32)), (9, .long (sumF M)), (8, .int (nI (u))), (6, .long (sumF Mb)), (4, .int (nI (q))), (1, .ref (b + 0)), (2, .ref (b + 124)), (0, .ref ba)]) hx hb dL_law_324 rfl hl (by decide) rfl (fun ls hl => ?_)
      refine lv_iinc (v := nI (u + 1)) (lv' := [(8, .int (nI (u + 1))), (3, .int (1 : Int32)), (9, .long (sumF M)), (6, .long (sumF Mb)), (4, .int (nI (q))), (1, .ref (b + 0)), (2, .ref (b + 124)), (0, .ref ba)]) hx hb dL_law_325 hl (k := 2) rfl (ixAdd (a := u) (c := 1) (d := u + 1) rfl rfl (by omega)) (by decide) rfl (fun ls hl => ?_)
      refine lv_goto (tgt := 113) hx hb dL_law_328 (by decide) ?_
      exact ih (u + 1) (by omega) (gX7_undo M3) H locs ls _ _ (hIU.undo hq hc0 hA hu hC3) hP hS (lv_sub hl [0, 1, 3, 4, 5, 6, 7] rfl) (by omega) (by omega)
