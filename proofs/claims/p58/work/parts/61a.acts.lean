set_option maxHeartbeats 4000000 in
set_option maxRecDepth 100000 in
theorem act_advN (l : Launch) (hl0 : l.stackTraces = false) (D : va_G) (cy : Nat → ClassId) (b n : Nat) (hn : 125 ≤ n) {mx c0 : Nat} {Pst : Mem → Prop} {p : Program} {e : Env} {s : State} {m : MethodId} {args : Array Value} {below : List Frame} {meth : Method} {c : Code} (hx : p.tables.exec = Jvm.exec) (hb : c.code = cL_act) (hr : meth.sig.returnType = (some .boolean)) (hlocks : meth.locks = false) (hml : c.maxLocals = 32) (hown : s.vm.findClass RL = some m.cls) (hts : ∀ w ∈ wsL_act, w.before args s = true) (hK : va_K D vwCl (tysW cy) s) (hX : SX b s) (P : Mem) (j : Nat) (hj : j < c0) (cells slots : Nat) (H : Heap) (locs : List Loc) (ls : Array Slot) (hA : AST mx P c0) (hpost : ∀ M1, APOST mx P c0 M1 → Pst M1) (hcl : cells ≤ 2) (hsl : slots ≤ 12) (hP : va_P D vwCl (wL cy b fT P n) H) (hS : va_S (fr b) s.heap H locs) (hl : lv_has ls 32 [(0, .ref (b + 0)), (1, .ref (b + 124)), (2, .int (nI c0)), (3, .int (nI j)), (4, .int (fX7_isHair P (nI j))), (5, .int (outF P (nI j))), (6, .int ((-3) : Int32))]) : W p l e (headSpec wsL_act ({ frames := 9, cells := 9, slots := 54, locals := 158 } : Room)).room s m args below meth c H locs cells slots (MQ below (CQe D cy b n 1 Pst) args s 9 54 (fr b)) (F0 m 132 ls []) := by
  have hc6 := hA.2.2.1
  have hc0 : 0 < c0 := by omega
  have hj6 : j < 6 := by omega
  refine lv_iconst (v := 1) hx hb dL_act_132 (by decide) ?_
  refine lv_aload_n hx hb dL_act_133 rfl (lv_at hl 1 rfl) ?_
  refine xc_i (va_runS (As := [.ref (b + 124)]) (rest := [.int (1 : Int32)]) ⟨hx, hb, hml, hown, hts⟩ (c_L_next l D cy b n (by omega) P ) (va_cwS 1 hts gL_act_L_next rfl rfl rfl (by decide +kernel) ⟨Nat.le_of_ble_eq_true rfl, Nat.le_of_ble_eq_true rfl⟩) (xPreS hP hK hX hS) rfl rfl hl.1 rfl (lv_room (Nat.le_of_ble_eq_true rfl)) dL_act_134 ⟨by show _ ≤ 9; omega, by show _ ≤ 54; omega⟩) hS (fun H locs hP hS => ?_)
  obtain ⟨P1, hP1⟩ : ∃ z, z = mU P 124 0 (nxS (P 124 0)) := ⟨_, rfl⟩
  rw [← hP1] at hP
  have hE1 : EQR P P1 := by rw [hP1]; exact eqr_put _ _ _
  have hA1 : AST mx P1 c0 := hA.eqr hE1
  obtain ⟨q, hq, eq⟩ := nx_mod (P 124 0) (k := 70) (by decide) (by decide)
  refine lv_bipush (v := 70) hx hb dL_act_137 (by decide) ?_
  refine lv_irem hx hb dL_act_139 (by decide) ?_
  refine W.eq (g2 := F0 m 140 ls (.int (nI q) :: .int (1 : Int32) :: [])) (congrArg (fun z => F0 m 140 ls (.int z :: .int (1 : Int32) :: [])) eq) ?_
  refine lv_iadd hx hb dL_act_140 ?_
  refine W.eq (g2 := F0 m 141 ls (.int (nI (q + 1)) :: [])) (congrArg (fun z => F0 m 141 ls (.int z :: [])) (show (1 : Int32) + nI q = nI (q + 1) by rw [show (1 : Int32) = nI 1 from rfl, nI_add, Nat.add_comm])) ?_
  refine lv_istore (lv' := [(7, .int (nI (q + 1))), (0, .ref (b + 0)), (1, .ref (b + 124)), (2, .int (nI c0)), (3, .int (nI j)), (4, .int (fX7_isHair P (nI j))), (5, .int (outF P (nI j))), (6, .int ((-3) : Int32))]) hx hb dL_act_141 hl (by decide) rfl (fun ls hl => ?_)
  refine lv_iload_n hx hb dL_act_143 rfl (lv_at hl 3 rfl) ?_
  refine lv_if_ne (tgt := 151) hx hb dL_act_144 (by decide) (fun c144 => ?_) (fun c144 => absurd c144 (nI_ne0 hc0 (by omega)))
  refine lv_aload_n hx hb dL_act_151 rfl (lv_at hl 1 rfl) ?_
  refine lv_iload_n hx hb dL_act_152 rfl (lv_at hl 4 rfl) ?_
  refine lv_iload hx hb dL_act_153 (lv_at hl 0 rfl) ?_
  refine xct_i (vx_runV (As := [.int (nI j), .int (nI (q + 1))]) (rest := []) ⟨hx, hb, hml, hown, hts⟩ (c_X7_readingAfter l hl0 D cy b n (by omega) P1 (nI j) (nI (q + 1)) hA1.cnt) (cwV 2 hts gL_act_X7_readingAfter rfl rfl rfl (by decide +kernel) ⟨Nat.le_of_ble_eq_true rfl, Nat.le_of_ble_eq_true rfl⟩) (xPreV hP hK hX hS (by omega) (cell7 (by decide)) rfl) rfl rfl hl.1 rfl (lv_room (Nat.le_of_ble_eq_true rfl)) dL_act_155 ⟨by show _ ≤ 9; omega, by show _ ≤ 54; omega⟩) hS (fun E ce qx H locs hE _ _ _ _ _ => absurd (ra_tm (t0_at hA1.2.1 hc6 hj) (m := q + 1) (by omega)) (exn_ne hE)) (fun H locs _ hP hS => ?_)
  have hE2 : EQR P1 (gX7_readingAfter P1 (nI j) (nI (q + 1))) := EQR.of (ra_q _ _ _)
  obtain ⟨P2, hP2⟩ : ∃ z, z = gX7_readingAfter P1 (nI j) (nI (q + 1)) := ⟨_, rfl⟩
  rw [← hP2] at hP hE2
  have hA2 : AST mx P2 c0 := hA1.eqr hE2
  refine lv_istore (lv' := [(8, .int (fX7_readingAfter P1 (nI j) (nI (q + 1)))), (7, .int (nI (q + 1))), (0, .ref (b + 0)), (1, .ref (b + 124)), (2, .int (nI c0)), (3, .int (nI j)), (4, .int (fX7_isHair P (nI j))), (5, .int (outF P (nI j))), (6, .int ((-3) : Int32))]) hx hb dL_act_158 hl (by decide) rfl (fun ls hl => ?_)
  refine lv_aload_n hx hb dL_act_160 rfl (lv_at hl 2 rfl) ?_
  refine xc_i (va_runV (As := []) (rest := []) ⟨hx, hb, hml, hown, hts⟩ (c_X7_hairStock l D cy b n (by omega) P2 ) (cwV 0 hts gL_act_X7_hairStock rfl rfl rfl (by decide +kernel) ⟨Nat.le_of_ble_eq_true rfl, Nat.le_of_ble_eq_true rfl⟩) (xPreV hP hK hX hS (by omega) (cell7 (by decide)) rfl) rfl rfl hl.1 rfl (lv_room (Nat.le_of_ble_eq_true rfl)) dL_act_161 ⟨by show _ ≤ 9; omega, by show _ ≤ 54; omega⟩) hS (fun H locs hP hS => ?_)
  refine lv_istore (lv' := [(9, .int (fX7_hairStock P2)), (8, .int (fX7_readingAfter P1 (nI j) (nI (q + 1)))), (7, .int (nI (q + 1))), (0, .ref (b + 0)), (1, .ref (b + 124)), (2, .int (nI c0)), (3, .int (nI j)), (4, .int (fX7_isHair P (nI j))), (5, .int (outF P (nI j))), (6, .int ((-3) : Int32))]) hx hb dL_act_164 hl (by decide) rfl (fun ls hl => ?_)
  refine lv_aload_n hx hb dL_act_166 rfl (lv_at hl 3 rfl) ?_
  refine lv_iload hx hb dL_act_167 (lv_at hl 2 rfl) ?_
  refine xc_i (vx_runSW (As := [.ref (b + 0), .int (nI (q + 1))]) (rest := []) ⟨hx, hb, hml, hown, hts⟩ (c_L_advanced l hl0 D cy b n (by omega) P2 (nI (q + 1)) hA2.cnt hA2.2.2.2.1) (vx_cwSW 2 hts gL_act_L_advanced rfl rfl rfl (by decide +kernel) ⟨Nat.le_of_ble_eq_true rfl, Nat.le_of_ble_eq_true rfl⟩) (xPreS hP hK hX hS) rfl rfl hl.1 rfl (lv_room (Nat.le_of_ble_eq_true rfl)) dL_act_169 ⟨by show _ ≤ 9; omega, by show _ ≤ 54; omega⟩) hS (fun H locs hP hS => ?_)
  obtain ⟨o1, o2, o3, o4, o5⟩ := op_adv hA2 (m := q + 1) (by omega) (by omega)
  obtain ⟨R, hR⟩ : ∃ z, z = gX7_advance P2 (nI (q + 1)) := ⟨_, rfl⟩
  rw [← hR] at hP o2 o3 o4 o5
  have h1R : R 1 1 = nI c0 := o4
  refine W.eq (g2 := F0 m 172 ls (.int (fX7_advance P2 (nI (q + 1))) :: [])) (congrArg (fun z => F0 m 172 ls (.int z :: [])) (by rw [o1]; rfl)) ?_
  refine lv_aload_n hx hb dL_act_172 rfl (lv_at hl 3 rfl) ?_
  refine xc_i (va_runV (As := []) (rest := [.int (fX7_advance P2 (nI (q + 1)))]) ⟨hx, hb, hml, hown, hts⟩ (c_X7_hairStock l D cy b n (by omega) R ) (cwV 0 hts gL_act_X7_hairStock rfl rfl rfl (by decide +kernel) ⟨Nat.le_of_ble_eq_true rfl, Nat.le_of_ble_eq_true rfl⟩) (xPreV hP hK hX hS (by omega) (cell7 (by decide)) rfl) rfl rfl hl.1 rfl (lv_room (Nat.le_of_ble_eq_true rfl)) dL_act_173 ⟨by show _ ≤ 9; omega, by show _ ≤ 54; omega⟩) hS (fun H locs hP hS => ?_)
  refine lv_iload hx hb dL_act_176 (lv_at hl 0 rfl) ?_
  refine lv_isub hx hb dL_act_178 ?_
  refine lv_icmp_ne (tgt := 200) hx hb dL_act_179 (by decide) (fun c179 => absurd o3 c179) (fun c179 => ?_)
  refine lv_iload_n hx hb dL_act_182 rfl (lv_at hl 5 rfl) ?_
  refine lv_if_eq (tgt := 196) hx hb dL_act_183 (by decide) (fun c183 => absurd c183 (nI_ne0 hc0 (by omega))) (fun c183 => ?_)
  refine lv_aload_n hx hb dL_act_186 rfl (lv_at hl 3 rfl) ?_
  refine lv_iload_n hx hb dL_act_187 rfl (lv_at hl 6 rfl) ?_
  refine xct_i (vx_runV (As := [.int (nI j)]) (rest := []) ⟨hx, hb, hml, hown, hts⟩ (c_X7_readingOf l hl0 D cy b n (by omega) R (nI j) ⟨c0, hc6, h1R⟩) (cwV 1 hts gL_act_X7_readingOf rfl rfl rfl (by decide +kernel) ⟨Nat.le_of_ble_eq_true rfl, Nat.le_of_ble_eq_true rfl⟩) (xPreV hP hK hX hS (by omega) (cell7 (by decide)) rfl) rfl rfl hl.1 rfl (lv_room (Nat.le_of_ble_eq_true rfl)) dL_act_188 ⟨by show _ ≤ 9; omega, by show _ ≤ 54; omega⟩) hS (fun E ce qx H locs hE _ _ _ _ _ => absurd (t0_readingOf (t0_at h1R hc6 hj)) (exn_ne hE)) (fun H locs _ hP hS => ?_)
  refine lv_iload hx hb dL_act_191 (lv_at hl 1 rfl) ?_
  refine lv_icmp_ne (tgt := 200) hx hb dL_act_193 (by decide) (fun c193 => absurd ((o5 j hj).trans (ra_eqr hE2 (nI_100 hj6) (by omega))) c193) (fun c193 => ?_)
  refine lv_iconst (v := 1) hx hb dL_act_196 (by decide) ?_
  refine lv_goto (tgt := 201) hx hb dL_act_197 (by decide) ?_
  exact xe_e hx hb hr hlocks hP hS (hpost _ ((o2.eqr hc6 hE2).eqr hc6 hE1)) rfl rfl (by omega) (by omega) dL_act_201
set_option maxHeartbeats 4000000 in
set_option maxRecDepth 100000 in
theorem act_advZ (l : Launch) (hl0 : l.stackTraces = false) (D : va_G) (cy : Nat → ClassId) (b n : Nat) (hn : 125 ≤ n) {mx c0 : Nat} {Pst : Mem → Prop} {p : Program} {e : Env} {s : State} {m : MethodId} {args : Array Value} {below : List Frame} {meth : Method} {c : Code} (hx : p.tables.exec = Jvm.exec) (hb : c.code = cL_act) (hr : meth.sig.returnType = (some .boolean)) (hlocks : meth.locks = false) (hml : c.maxLocals = 32) (hown : s.vm.findClass RL = some m.cls) (hts : ∀ w ∈ wsL_act, w.before args s = true) (hK : va_K D vwCl (tysW cy) s) (hX : SX b s) (P : Mem) (hz : c0 = 0) (cells slots : Nat) (H : Heap) (locs : List Loc) (ls : Array Slot) (hA : AST mx P c0) (hpost : ∀ M1, APOST mx P c0 M1 → Pst M1) (hcl : cells ≤ 2) (hsl : slots ≤ 12) (hP : va_P D vwCl (wL cy b fT P n) H) (hS : va_S (fr b) s.heap H locs) (hl : lv_has ls 32 [(0, .ref (b + 0)), (1, .ref (b + 124)), (2, .int (0 : Int32)), (3, .int (0 : Int32)), (4, .int (0 : Int32)), (5, .int (1 : Int32)), (6, .int ((-5) : Int32))]) : W p l e (headSpec wsL_act ({ frames := 9, cells := 9, slots := 54, locals := 158 } : Room)).room s m args below meth c H locs cells slots (MQ below (CQe D cy b n 1 Pst) args s 9 54 (fr b)) (F0 m 132 ls []) := by
  have hc6 := hA.2.2.1
  refine lv_iconst (v := 1) hx hb dL_act_132 (by decide) ?_
  refine lv_aload_n hx hb dL_act_133 rfl (lv_at hl 1 rfl) ?_
  refine xc_i (va_runS (As := [.ref (b + 124)]) (rest := [.int (1 : Int32)]) ⟨hx, hb, hml, hown, hts⟩ (c_L_next l D cy b n (by omega) P ) (va_cwS 1 hts gL_act_L_next rfl rfl rfl (by decide +kernel) ⟨Nat.le_of_ble_eq_true rfl, Nat.le_of_ble_eq_true rfl⟩) (xPreS hP hK hX hS) rfl rfl hl.1 rfl (lv_room (Nat.le_of_ble_eq_true rfl)) dL_act_134 ⟨by show _ ≤ 9; omega, by show _ ≤ 54; omega⟩) hS (fun H locs hP hS => ?_)
  obtain ⟨P1, hP1⟩ : ∃ z, z = mU P 124 0 (nxS (P 124 0)) := ⟨_, rfl⟩
  rw [← hP1] at hP
  have hE1 : EQR P P1 := by rw [hP1]; exact eqr_put _ _ _
  have hA1 : AST mx P1 c0 := hA.eqr hE1
  obtain ⟨q, hq, eq⟩ := nx_mod (P 124 0) (k := 70) (by decide) (by decide)
  refine lv_bipush (v := 70) hx hb dL_act_137 (by decide) ?_
  refine lv_irem hx hb dL_act_139 (by decide) ?_
  refine W.eq (g2 := F0 m 140 ls (.int (nI q) :: .int (1 : Int32) :: [])) (congrArg (fun z => F0 m 140 ls (.int z :: .int (1 : Int32) :: [])) eq) ?_
  refine lv_iadd hx hb dL_act_140 ?_
  refine W.eq (g2 := F0 m 141 ls (.int (nI (q + 1)) :: [])) (congrArg (fun z => F0 m 141 ls (.int z :: [])) (show (1 : Int32) + nI q = nI (q + 1) by rw [show (1 : Int32) = nI 1 from rfl, nI_add, Nat.add_comm])) ?_
  refine lv_istore (lv' := [(7, .int (nI (q + 1))), (0, .ref (b + 0)), (1, .ref (b + 124)), (2, .int (0 : Int32)), (3, .int (0 : Int32)), (4, .int (0 : Int32)), (5, .int (1 : Int32)), (6, .int ((-5) : Int32))]) hx hb dL_act_141 hl (by decide) rfl (fun ls hl => ?_)
  refine lv_iload_n hx hb dL_act_143 rfl (lv_at hl 3 rfl) ?_
  refine lv_if_ne (tgt := 151) hx hb dL_act_144 (by decide) (fun c144 => absurd rfl c144) (fun c144 => ?_)
  refine lv_iconst (v := 0) hx hb dL_act_147 (by decide) ?_
  refine lv_goto (tgt := 158) hx hb dL_act_148 (by decide) ?_
  refine lv_istore (lv' := [(8, .int (0 : Int32)), (7, .int (nI (q + 1))), (0, .ref (b + 0)), (1, .ref (b + 124)), (2, .int (0 : Int32)), (3, .int (0 : Int32)), (4, .int (0 : Int32)), (5, .int (1 : Int32)), (6, .int ((-5) : Int32))]) hx hb dL_act_158 hl (by decide) rfl (fun ls hl => ?_)
  refine lv_aload_n hx hb dL_act_160 rfl (lv_at hl 2 rfl) ?_
  refine xc_i (va_runV (As := []) (rest := []) ⟨hx, hb, hml, hown, hts⟩ (c_X7_hairStock l D cy b n (by omega) P1 ) (cwV 0 hts gL_act_X7_hairStock rfl rfl rfl (by decide +kernel) ⟨Nat.le_of_ble_eq_true rfl, Nat.le_of_ble_eq_true rfl⟩) (xPreV hP hK hX hS (by omega) (cell7 (by decide)) rfl) rfl rfl hl.1 rfl (lv_room (Nat.le_of_ble_eq_true rfl)) dL_act_161 ⟨by show _ ≤ 9; omega, by show _ ≤ 54; omega⟩) hS (fun H locs hP hS => ?_)
  refine lv_istore (lv' := [(9, .int (fX7_hairStock P1)), (8, .int (0 : Int32)), (7, .int (nI (q + 1))), (0, .ref (b + 0)), (1, .ref (b + 124)), (2, .int (0 : Int32)), (3, .int (0 : Int32)), (4, .int (0 : Int32)), (5, .int (1 : Int32)), (6, .int ((-5) : Int32))]) hx hb dL_act_164 hl (by decide) rfl (fun ls hl => ?_)
  refine lv_aload_n hx hb dL_act_166 rfl (lv_at hl 3 rfl) ?_
  refine lv_iload hx hb dL_act_167 (lv_at hl 2 rfl) ?_
  refine xc_i (vx_runSW (As := [.ref (b + 0), .int (nI (q + 1))]) (rest := []) ⟨hx, hb, hml, hown, hts⟩ (c_L_advanced l hl0 D cy b n (by omega) P1 (nI (q + 1)) hA1.cnt hA1.2.2.2.1) (vx_cwSW 2 hts gL_act_L_advanced rfl rfl rfl (by decide +kernel) ⟨Nat.le_of_ble_eq_true rfl, Nat.le_of_ble_eq_true rfl⟩) (xPreS hP hK hX hS) rfl rfl hl.1 rfl (lv_room (Nat.le_of_ble_eq_true rfl)) dL_act_169 ⟨by show _ ≤ 9; omega, by show _ ≤ 54; omega⟩) hS (fun H locs hP hS => ?_)
  obtain ⟨o1, o2, o3, o4, o5⟩ := op_adv hA1 (m := q + 1) (by omega) (by omega)
  obtain ⟨R, hR⟩ : ∃ z, z = gX7_advance P1 (nI (q + 1)) := ⟨_, rfl⟩
  rw [← hR] at hP o2 o3 o4 o5
  have h1R : R 1 1 = nI c0 := o4
  refine W.eq (g2 := F0 m 172 ls (.int (fX7_advance P1 (nI (q + 1))) :: [])) (congrArg (fun z => F0 m 172 ls (.int z :: [])) (by rw [o1]; rfl)) ?_
  refine lv_aload_n hx hb dL_act_172 rfl (lv_at hl 3 rfl) ?_
  refine xc_i (va_runV (As := []) (rest := [.int (fX7_advance P1 (nI (q + 1)))]) ⟨hx, hb, hml, hown, hts⟩ (c_X7_hairStock l D cy b n (by omega) R ) (cwV 0 hts gL_act_X7_hairStock rfl rfl rfl (by decide +kernel) ⟨Nat.le_of_ble_eq_true rfl, Nat.le_of_ble_eq_true rfl⟩) (xPreV hP hK hX hS (by omega) (cell7 (by decide)) rfl) rfl rfl hl.1 rfl (lv_room (Nat.le_of_ble_eq_true rfl)) dL_act_173 ⟨by show _ ≤ 9; omega, by show _ ≤ 54; omega⟩) hS (fun H locs hP hS => ?_)
  refine lv_iload hx hb dL_act_176 (lv_at hl 0 rfl) ?_
  refine lv_isub hx hb dL_act_178 ?_
  refine lv_icmp_ne (tgt := 200) hx hb dL_act_179 (by decide) (fun c179 => absurd o3 c179) (fun c179 => ?_)
  refine lv_iload_n hx hb dL_act_182 rfl (lv_at hl 5 rfl) ?_
  refine lv_if_eq (tgt := 196) hx hb dL_act_183 (by decide) (fun c183 => ?_) (fun c183 => absurd rfl c183)
  refine lv_iconst (v := 1) hx hb dL_act_196 (by decide) ?_
  refine lv_goto (tgt := 201) hx hb dL_act_197 (by decide) ?_
  exact xe_e hx hb hr hlocks hP hS (hpost _ (o2.eqr hc6 hE1)) rfl rfl (by omega) (by omega) dL_act_201
set_option maxHeartbeats 4000000 in
set_option maxRecDepth 100000 in
theorem act_hum (l : Launch) (hl0 : l.stackTraces = false) (D : va_G) (cy : Nat → ClassId) (b n : Nat) (hn : 125 ≤ n) {mx c0 : Nat} {Pst : Mem → Prop} {p : Program} {e : Env} {s : State} {m : MethodId} {args : Array Value} {below : List Frame} {meth : Method} {c : Code} (hx : p.tables.exec = Jvm.exec) (hb : c.code = cL_act) (hr : meth.sig.returnType = (some .boolean)) (hlocks : meth.locks = false) (hml : c.maxLocals = 32) (hown : s.vm.findClass RL = some m.cls) (hts : ∀ w ∈ wsL_act, w.before args s = true) (hK : va_K D vwCl (tysW cy) s) (hX : SX b s) (P : Mem) (cells slots : Nat) (H : Heap) (locs : List Loc) (ls : Array Slot) (hA : AST mx P c0) (hpost : ∀ M1, APOST mx P c0 M1 → Pst M1) (hcl : cells ≤ 2) (hsl : slots ≤ 12) (hP : va_P D vwCl (wL cy b fT P n) H) (hS : va_S (fr b) s.heap H locs) (hl : lv_has ls 32 [(0, .ref (b + 0)), (1, .ref (b + 124))]) : W p l e (headSpec wsL_act ({ frames := 9, cells := 9, slots := 54, locals := 158 } : Room)).room s m args below meth c H locs cells slots (MQ below (CQe D cy b n 1 Pst) args s 9 54 (fr b)) (F0 m 202 ls []) := by
  have hc6 := hA.2.2.1
  refine lv_aload_n hx hb dL_act_202 rfl (lv_at hl 0 rfl) ?_
  refine xc_i (va_runV (As := []) (rest := []) ⟨hx, hb, hml, hown, hts⟩ (c_X7_humidity l D cy b n (by omega) P ) (cwV 0 hts gL_act_X7_humidity rfl rfl rfl (by decide +kernel) ⟨Nat.le_of_ble_eq_true rfl, Nat.le_of_ble_eq_true rfl⟩) (xPreV hP hK hX hS (by omega) (cell7 (by decide)) rfl) rfl rfl hl.1 rfl (lv_room (Nat.le_of_ble_eq_true rfl)) dL_act_203 ⟨by show _ ≤ 9; omega, by show _ ≤ 54; omega⟩) hS (fun H locs hP hS => ?_)
  refine lv_istore (lv' := [(10, .int (fX7_humidity P)), (0, .ref (b + 0)), (1, .ref (b + 124))]) hx hb dL_act_206 hl (by decide) rfl (fun ls hl => ?_)
  refine lv_aload_n hx hb dL_act_208 rfl (lv_at hl 2 rfl) ?_
  refine xc_i (va_runS (As := [.ref (b + 124)]) (rest := []) ⟨hx, hb, hml, hown, hts⟩ (c_L_next l D cy b n (by omega) P ) (va_cwS 1 hts gL_act_L_next rfl rfl rfl (by decide +kernel) ⟨Nat.le_of_ble_eq_true rfl, Nat.le_of_ble_eq_true rfl⟩) (xPreS hP hK hX hS) rfl rfl hl.1 rfl (lv_room (Nat.le_of_ble_eq_true rfl)) dL_act_209 ⟨by show _ ≤ 9; omega, by show _ ≤ 54; omega⟩) hS (fun H locs hP hS => ?_)
  obtain ⟨P1, hP1⟩ : ∃ z, z = mU P 124 0 (nxS (P 124 0)) := ⟨_, rfl⟩
  rw [← hP1] at hP
  have hE1 : EQR P P1 := by rw [hP1]; exact eqr_put _ _ _
  have hA1 : AST mx P1 c0 := hA.eqr hE1
  obtain ⟨q, hq, eq⟩ := nx_mod (P 124 0) (k := 101) (by decide) (by decide)
  refine lv_bipush (v := 101) hx hb dL_act_212 (by decide) ?_
  refine lv_irem hx hb dL_act_214 (by decide) ?_
  refine W.eq (g2 := F0 m 215 ls (.int (nI q) :: [])) (congrArg (fun z => F0 m 215 ls (.int z :: [])) eq) ?_
  refine lv_istore (lv' := [(11, .int (nI q)), (10, .int (fX7_humidity P)), (0, .ref (b + 0)), (1, .ref (b + 124))]) hx hb dL_act_215 hl (by decide) rfl (fun ls hl => ?_)
  refine lv_aload_n hx hb dL_act_217 rfl (lv_at hl 2 rfl) ?_
  refine lv_iload hx hb dL_act_218 (lv_at hl 0 rfl) ?_
  refine xc_i (vx_runSW (As := [.ref (b + 0), .int (nI q)]) (rest := []) ⟨hx, hb, hml, hown, hts⟩ (c_L_damped l hl0 D cy b n (by omega) P1 (nI q) hA1.cnt hA1.2.2.2.1) (vx_cwSW 2 hts gL_act_L_damped rfl rfl rfl (by decide +kernel) ⟨Nat.le_of_ble_eq_true rfl, Nat.le_of_ble_eq_true rfl⟩) (xPreS hP hK hX hS) rfl rfl hl.1 rfl (lv_room (Nat.le_of_ble_eq_true rfl)) dL_act_220 ⟨by show _ ≤ 9; omega, by show _ ≤ 54; omega⟩) hS (fun H locs hP hS => ?_)
  obtain ⟨o1, o2, o3, o4⟩ := op_hum hA1 (v := q) (by omega)
  obtain ⟨R, hR⟩ : ∃ z, z = gX7_setHumidity P1 (nI q) := ⟨_, rfl⟩
  rw [← hR] at hP o3 o4
  refine W.eq (g2 := F0 m 223 ls (.int (fX7_humidity P) :: [])) (congrArg (fun z => F0 m 223 ls (.int z :: [])) (by rw [o1]; exact o2.trans (congrFun (hE1 1 (by decide) (by decide)) 3))) ?_
  refine lv_iload hx hb dL_act_223 (lv_at hl 1 rfl) ?_
  refine lv_icmp_ne (tgt := 241) hx hb dL_act_225 (by decide) (fun c225 => absurd rfl c225) (fun c225 => ?_)
  refine lv_aload_n hx hb dL_act_228 rfl (lv_at hl 2 rfl) ?_
  refine xc_i (va_runV (As := []) (rest := []) ⟨hx, hb, hml, hown, hts⟩ (c_X7_humidity l D cy b n (by omega) R ) (cwV 0 hts gL_act_X7_humidity rfl rfl rfl (by decide +kernel) ⟨Nat.le_of_ble_eq_true rfl, Nat.le_of_ble_eq_true rfl⟩) (xPreV hP hK hX hS (by omega) (cell7 (by decide)) rfl) rfl rfl hl.1 rfl (lv_room (Nat.le_of_ble_eq_true rfl)) dL_act_229 ⟨by show _ ≤ 9; omega, by show _ ≤ 54; omega⟩) hS (fun H locs hP hS => ?_)
  refine lv_iload hx hb dL_act_232 (lv_at hl 0 rfl) ?_
  refine lv_icmp_ne (tgt := 241) hx hb dL_act_234 (by decide) (fun c234 => absurd o4 c234) (fun c234 => ?_)
  refine lv_iconst (v := 1) hx hb dL_act_237 (by decide) ?_
  refine lv_goto (tgt := 242) hx hb dL_act_238 (by decide) ?_
  exact xe_e hx hb hr hlocks hP hS (hpost _ (o3.eqr hc6 hE1)) rfl rfl (by omega) (by omega) dL_act_242
set_option maxHeartbeats 4000000 in
set_option maxRecDepth 100000 in
theorem act_tmp (l : Launch) (hl0 : l.stackTraces = false) (D : va_G) (cy : Nat → ClassId) (b n : Nat) (hn : 125 ≤ n) {mx c0 : Nat} {Pst : Mem → Prop} {p : Program} {e : Env} {s : State} {m : MethodId} {args : Array Value} {below : List Frame} {meth : Method} {c : Code} (hx : p.tables.exec = Jvm.exec) (hb : c.code = cL_act) (hr : meth.sig.returnType = (some .boolean)) (hlocks : meth.locks = false) (hml : c.maxLocals = 32) (hown : s.vm.findClass RL = some m.cls) (hts : ∀ w ∈ wsL_act, w.before args s = true) (hK : va_K D vwCl (tysW cy) s) (hX : SX b s) (P : Mem) (cells slots : Nat) (H : Heap) (locs : List Loc) (ls : Array Slot) (hA : AST mx P c0) (hpost : ∀ M1, APOST mx P c0 M1 → Pst M1) (hcl : cells ≤ 2) (hsl : slots ≤ 12) (hP : va_P D vwCl (wL cy b fT P n) H) (hS : va_S (fr b) s.heap H locs) (hl : lv_has ls 32 [(0, .ref (b + 0)), (1, .ref (b + 124))]) : W p l e (headSpec wsL_act ({ frames := 9, cells := 9, slots := 54, locals := 158 } : Room)).room s m args below meth c H locs cells slots (MQ below (CQe D cy b n 1 Pst) args s 9 54 (fr b)) (F0 m 826 ls []) := by
  have hc6 := hA.2.2.1
  refine lv_aload_n hx hb dL_act_826 rfl (lv_at hl 0 rfl) ?_
  refine xc_i (va_runV (As := []) (rest := []) ⟨hx, hb, hml, hown, hts⟩ (c_X7_temperature l D cy b n (by omega) P ) (cwV 0 hts gL_act_X7_temperature rfl rfl rfl (by decide +kernel) ⟨Nat.le_of_ble_eq_true rfl, Nat.le_of_ble_eq_true rfl⟩) (xPreV hP hK hX hS (by omega) (cell7 (by decide)) rfl) rfl rfl hl.1 rfl (lv_room (Nat.le_of_ble_eq_true rfl)) dL_act_827 ⟨by show _ ≤ 9; omega, by show _ ≤ 54; omega⟩) hS (fun H locs hP hS => ?_)
  refine lv_istore (lv' := [(30, .int (fX7_temperature P)), (0, .ref (b + 0)), (1, .ref (b + 124))]) hx hb dL_act_830 hl (by decide) rfl (fun ls hl => ?_)
  refine lv_aload_n hx hb dL_act_832 rfl (lv_at hl 2 rfl) ?_
  refine xc_i (va_runS (As := [.ref (b + 124)]) (rest := []) ⟨hx, hb, hml, hown, hts⟩ (c_L_next l D cy b n (by omega) P ) (va_cwS 1 hts gL_act_L_next rfl rfl rfl (by decide +kernel) ⟨Nat.le_of_ble_eq_true rfl, Nat.le_of_ble_eq_true rfl⟩) (xPreS hP hK hX hS) rfl rfl hl.1 rfl (lv_room (Nat.le_of_ble_eq_true rfl)) dL_act_833 ⟨by show _ ≤ 9; omega, by show _ ≤ 54; omega⟩) hS (fun H locs hP hS => ?_)
  obtain ⟨P1, hP1⟩ : ∃ z, z = mU P 124 0 (nxS (P 124 0)) := ⟨_, rfl⟩
  rw [← hP1] at hP
  have hE1 : EQR P P1 := by rw [hP1]; exact eqr_put _ _ _
  have hA1 : AST mx P1 c0 := hA.eqr hE1
  obtain ⟨q, hq, eq⟩ := nx_mod (P 124 0) (k := 41) (by decide) (by decide)
  refine lv_bipush (v := 41) hx hb dL_act_836 (by decide) ?_
  refine lv_irem hx hb dL_act_838 (by decide) ?_
  refine W.eq (g2 := F0 m 839 ls (.int (nI q) :: [])) (congrArg (fun z => F0 m 839 ls (.int z :: [])) eq) ?_
  refine lv_istore (lv' := [(31, .int (nI q)), (30, .int (fX7_temperature P)), (0, .ref (b + 0)), (1, .ref (b + 124))]) hx hb dL_act_839 hl (by decide) rfl (fun ls hl => ?_)
  refine lv_aload_n hx hb dL_act_841 rfl (lv_at hl 2 rfl) ?_
  refine lv_iload hx hb dL_act_842 (lv_at hl 0 rfl) ?_
  refine xc_i (vx_runSW (As := [.ref (b + 0), .int (nI q)]) (rest := []) ⟨hx, hb, hml, hown, hts⟩ (c_L_warmed l hl0 D cy b n (by omega) P1 (nI q) hA1.cnt hA1.2.2.2.1) (vx_cwSW 2 hts gL_act_L_warmed rfl rfl rfl (by decide +kernel) ⟨Nat.le_of_ble_eq_true rfl, Nat.le_of_ble_eq_true rfl⟩) (xPreS hP hK hX hS) rfl rfl hl.1 rfl (lv_room (Nat.le_of_ble_eq_true rfl)) dL_act_844 ⟨by show _ ≤ 9; omega, by show _ ≤ 54; omega⟩) hS (fun H locs hP hS => ?_)
  obtain ⟨o1, o2, o3, o4⟩ := op_tmp hA1 (v := q) (by omega)
  obtain ⟨R, hR⟩ : ∃ z, z = gX7_setTemperature P1 (nI q) := ⟨_, rfl⟩
  rw [← hR] at hP o3 o4
  refine W.eq (g2 := F0 m 847 ls (.int (fX7_temperature P) :: [])) (congrArg (fun z => F0 m 847 ls (.int z :: [])) (by rw [o1]; exact o2.trans (congrFun (hE1 1 (by decide) (by decide)) 4))) ?_
  refine lv_iload hx hb dL_act_847 (lv_at hl 1 rfl) ?_
  refine lv_icmp_ne (tgt := 865) hx hb dL_act_849 (by decide) (fun c849 => absurd rfl c849) (fun c849 => ?_)
  refine lv_aload_n hx hb dL_act_852 rfl (lv_at hl 2 rfl) ?_
  refine xc_i (va_runV (As := []) (rest := []) ⟨hx, hb, hml, hown, hts⟩ (c_X7_temperature l D cy b n (by omega) R ) (cwV 0 hts gL_act_X7_temperature rfl rfl rfl (by decide +kernel) ⟨Nat.le_of_ble_eq_true rfl, Nat.le_of_ble_eq_true rfl⟩) (xPreV hP hK hX hS (by omega) (cell7 (by decide)) rfl) rfl rfl hl.1 rfl (lv_room (Nat.le_of_ble_eq_true rfl)) dL_act_853 ⟨by show _ ≤ 9; omega, by show _ ≤ 54; omega⟩) hS (fun H locs hP hS => ?_)
  refine lv_iload hx hb dL_act_856 (lv_at hl 0 rfl) ?_
  refine lv_icmp_ne (tgt := 865) hx hb dL_act_858 (by decide) (fun c858 => absurd o4 c858) (fun c858 => ?_)
  refine lv_iconst (v := 1) hx hb dL_act_861 (by decide) ?_
  refine lv_goto (tgt := 866) hx hb dL_act_862 (by decide) ?_
  exact xe_e hx hb hr hlocks hP hS (hpost _ (o3.eqr hc6 hE1)) rfl rfl (by omega) (by omega) dL_act_866
set_option maxHeartbeats 4000000 in
set_option maxRecDepth 100000 in
theorem act_boxN (l : Launch) (hl0 : l.stackTraces = false) (D : va_G) (cy : Nat → ClassId) (b n : Nat) (hn : 125 ≤ n) {mx c0 : Nat} {Pst : Mem → Prop} {p : Program} {e : Env} {s : State} {m : MethodId} {args : Array Value} {below : List Frame} {meth : Method} {c : Code} (hx : p.tables.exec = Jvm.exec) (hb : c.code = cL_act) (hr : meth.sig.returnType = (some .boolean)) (hlocks : meth.locks = false) (hml : c.maxLocals = 32) (hown : s.vm.findClass RL = some m.cls) (hts : ∀ w ∈ wsL_act, w.before args s = true) (hK : va_K D vwCl (tysW cy) s) (hX : SX b s) (P : Mem) (j : Nat) (hj : j < c0) (cells slots : Nat) (H : Heap) (locs : List Loc) (ls : Array Slot) (hA : AST mx P c0) (hpost : ∀ M1, APOST mx P c0 M1 → Pst M1) (hcl : cells ≤ 2) (hsl : slots ≤ 12) (hP : va_P D vwCl (wL cy b fT P n) H) (hS : va_S (fr b) s.heap H locs) (hl : lv_has ls 32 [(0, .ref (b + 0)), (1, .ref (b + 124)), (2, .int (nI c0)), (3, .int (nI j)), (4, .int (fX7_isHair P (nI j))), (5, .int (outF P (nI j))), (6, .int ((-3) : Int32))]) : W p l e (headSpec wsL_act ({ frames := 9, cells := 9, slots := 54, locals := 158 } : Room)).room s m args below meth c H locs cells slots (MQ below (CQe D cy b n 1 Pst) args s 9 54 (fr b)) (F0 m 243 ls []) := by
  have hc6 := hA.2.2.1
  have hc0 : 0 < c0 := by omega
  have hj6 : j < 6 := by omega
  by_cases ho : outF P (nI j) = 0
  · refine lv_aload_n hx hb dL_act_243 rfl (lv_at hl 1 rfl) ?_
    refine xc_i (va_runS (As := [.ref (b + 124)]) (rest := []) ⟨hx, hb, hml, hown, hts⟩ (c_L_next l D cy b n (by omega) P ) (va_cwS 1 hts gL_act_L_next rfl rfl rfl (by decide +kernel) ⟨Nat.le_of_ble_eq_true rfl, Nat.le_of_ble_eq_true rfl⟩) (xPreS hP hK hX hS) rfl rfl hl.1 rfl (lv_room (Nat.le_of_ble_eq_true rfl)) dL_act_244 ⟨by show _ ≤ 9; omega, by show _ ≤ 54; omega⟩) hS (fun H locs hP hS => ?_)
    obtain ⟨P1, hP1⟩ : ∃ z, z = mU P 124 0 (nxS (P 124 0)) := ⟨_, rfl⟩
    rw [← hP1] at hP
    have hE1 : EQR P P1 := by rw [hP1]; exact eqr_put _ _ _
    have hA1 : AST mx P1 c0 := hA.eqr hE1
    obtain ⟨q, hq, eq⟩ := nx_mod (P 124 0) (k := 4) (by decide) (by decide)
    refine lv_iconst (v := 4) hx hb dL_act_247 (by decide) ?_
    refine lv_irem hx hb dL_act_248 (by decide) ?_
    refine W.eq (g2 := F0 m 249 ls (.int (nI q) :: [])) (congrArg (fun z => F0 m 249 ls (.int z :: [])) eq) ?_
    refine lv_istore (lv' := [(12, .int (nI q)), (0, .ref (b + 0)), (1, .ref (b + 124)), (2, .int (nI c0)), (3, .int (nI j)), (4, .int (fX7_isHair P (nI j))), (5, .int (outF P (nI j))), (6, .int ((-3) : Int32))]) hx hb dL_act_249 hl (by decide) rfl (fun ls hl => ?_)
    refine lv_aload_n hx hb dL_act_251 rfl (lv_at hl 1 rfl) ?_
    refine lv_iload_n hx hb dL_act_252 rfl (lv_at hl 4 rfl) ?_
    refine lv_iload hx hb dL_act_253 (lv_at hl 0 rfl) ?_
    refine xc_i (vx_runSW (As := [.ref (b + 0), .int (nI j), .int (nI q)]) (rest := []) ⟨hx, hb, hml, hown, hts⟩ (c_L_boxed l hl0 D cy b n (by omega) P1 (nI j) (nI q) hA1.cnt hA1.2.2.2.1) (vx_cwSW 3 hts gL_act_L_boxed rfl rfl rfl (by decide +kernel) ⟨Nat.le_of_ble_eq_true rfl, Nat.le_of_ble_eq_true rfl⟩) (xPreS hP hK hX hS) rfl rfl hl.1 rfl (lv_room (Nat.le_of_ble_eq_true rfl)) dL_act_255 ⟨by show _ ≤ 9; omega, by show _ ≤ 54; omega⟩) hS (fun H locs hP hS => ?_)
    obtain ⟨o1, o2⟩ := op_boxR hA1 hj hq (by rw [outF_eqr hE1 hj6]; exact ho)
    rw [o2] at hP
    refine W.eq (g2 := F0 m 258 ls (.int (-3) :: [])) (congrArg (fun z => F0 m 258 ls (.int z :: [])) (by rw [o1]; rfl)) ?_
    refine lv_istore (lv' := [(13, .int (-3)), (12, .int (nI q)), (0, .ref (b + 0)), (1, .ref (b + 124)), (2, .int (nI c0)), (3, .int (nI j)), (4, .int (fX7_isHair P (nI j))), (5, .int (outF P (nI j))), (6, .int ((-3) : Int32))]) hx hb dL_act_258 hl (by decide) rfl (fun ls hl => ?_)
    refine lv_iload_n hx hb dL_act_260 rfl (lv_at hl 4 rfl) ?_
    refine lv_if_le (tgt := 298) hx hb dL_act_261 (by decide) (fun c261 => absurd c261 (by rw [show (0 : Int32) = nI 0 from rfl, nI_leI (by omega) (by omega)]; omega)) (fun c261 => ?_)
    refine lv_iload hx hb dL_act_264 (lv_at hl 7 rfl) ?_
    refine lv_if_eq (tgt := 298) hx hb dL_act_266 (by decide) (fun c266 => ?_) (fun c266 => absurd ho c266)
    refine lv_iload hx hb dL_act_298 (lv_at hl 0 rfl) ?_
    refine lv_iload hx hb dL_act_300 (lv_at hl 8 rfl) ?_
    refine lv_icmp_ne (tgt := 317) hx hb dL_act_302 (by decide) (fun c302 => absurd rfl c302) (fun c302 => ?_)
    refine lv_aload_n hx hb dL_act_305 rfl (lv_at hl 2 rfl) ?_
    refine lv_iconst (v := 3) hx hb dL_act_306 (by decide) ?_
    refine W.eq (g2 := F0 m 307 ls (.int (nI 3) :: .ref (b + 0) :: [])) (congrArg (fun z => F0 m 307 ls (.int z :: .ref (b + 0) :: [])) rfl) ?_
    refine xc_i (vx_runSW (As := [.ref (b + 0), .int (nI 3)]) (rest := []) ⟨hx, hb, hml, hown, hts⟩ (c_L_taught l hl0 D cy b n (by omega) P1 (nI 3) hA1.cnt hA1.2.2.2.1) (vx_cwSW 2 hts gL_act_L_taught rfl rfl rfl (by decide +kernel) ⟨Nat.le_of_ble_eq_true rfl, Nat.le_of_ble_eq_true rfl⟩) (xPreS hP hK hX hS) rfl rfl hl.1 rfl (lv_room (Nat.le_of_ble_eq_true rfl)) dL_act_307 ⟨by show _ ≤ 9; omega, by show _ ≤ 54; omega⟩) hS (fun H locs hP hS => ?_)
    obtain ⟨s1, s2, s3⟩ := op_skl hA1 (v := 3) (by decide)
    obtain ⟨R, hR⟩ : ∃ z, z = gX7_setSkill P1 (nI 3) := ⟨_, rfl⟩
    rw [← hR] at hP s3
    refine W.eq (g2 := F0 m 310 ls (.int (fX7_setSkill P1 (nI 3)) :: [])) (congrArg (fun z => F0 m 310 ls (.int z :: [])) (by rw [s1]; rfl)) ?_
    refine lv_if_lt (tgt := 317) hx hb dL_act_310 (by decide) (fun c310 => absurd c310 s2) (fun c310 => ?_)
    refine lv_iconst (v := 1) hx hb dL_act_313 (by decide) ?_
    refine lv_goto (tgt := 318) hx hb dL_act_314 (by decide) ?_
    exact xe_e hx hb hr hlocks hP hS (hpost _ (s3.eqr hc6 hE1)) rfl rfl (by omega) (by omega) dL_act_318
  · refine lv_aload_n hx hb dL_act_243 rfl (lv_at hl 1 rfl) ?_
    refine xc_i (va_runS (As := [.ref (b + 124)]) (rest := []) ⟨hx, hb, hml, hown, hts⟩ (c_L_next l D cy b n (by omega) P ) (va_cwS 1 hts gL_act_L_next rfl rfl rfl (by decide +kernel) ⟨Nat.le_of_ble_eq_true rfl, Nat.le_of_ble_eq_true rfl⟩) (xPreS hP hK hX hS) rfl rfl hl.1 rfl (lv_room (Nat.le_of_ble_eq_true rfl)) dL_act_244 ⟨by show _ ≤ 9; omega, by show _ ≤ 54; omega⟩) hS (fun H locs hP hS => ?_)
    obtain ⟨P1, hP1⟩ : ∃ z, z = mU P 124 0 (nxS (P 124 0)) := ⟨_, rfl⟩
    rw [← hP1] at hP
    have hE1 : EQR P P1 := by rw [hP1]; exact eqr_put _ _ _
    have hA1 : AST mx P1 c0 := hA.eqr hE1
    obtain ⟨q, hq, eq⟩ := nx_mod (P 124 0) (k := 4) (by decide) (by decide)
    refine lv_iconst (v := 4) hx hb dL_act_247 (by decide) ?_
    refine lv_irem hx hb dL_act_248 (by decide) ?_
    refine W.eq (g2 := F0 m 249 ls (.int (nI q) :: [])) (congrArg (fun z => F0 m 249 ls (.int z :: [])) eq) ?_
    refine lv_istore (lv' := [(12, .int (nI q)), (0, .ref (b + 0)), (1, .ref (b + 124)), (2, .int (nI c0)), (3, .int (nI j)), (4, .int (fX7_isHair P (nI j))), (5, .int (outF P (nI j))), (6, .int ((-3) : Int32))]) hx hb dL_act_249 hl (by decide) rfl (fun ls hl => ?_)
    refine lv_aload_n hx hb dL_act_251 rfl (lv_at hl 1 rfl) ?_
    refine lv_iload_n hx hb dL_act_252 rfl (lv_at hl 4 rfl) ?_
    refine lv_iload hx hb dL_act_253 (lv_at hl 0 rfl) ?_
    refine xc_i (vx_runSW (As := [.ref (b + 0), .int (nI j), .int (nI q)]) (rest := []) ⟨hx, hb, hml, hown, hts⟩ (c_L_boxed l hl0 D cy b n (by omega) P1 (nI j) (nI q) hA1.cnt hA1.2.2.2.1) (vx_cwSW 3 hts gL_act_L_boxed rfl rfl rfl (by decide +kernel) ⟨Nat.le_of_ble_eq_true rfl, Nat.le_of_ble_eq_true rfl⟩) (xPreS hP hK hX hS) rfl rfl hl.1 rfl (lv_room (Nat.le_of_ble_eq_true rfl)) dL_act_255 ⟨by show _ ≤ 9; omega, by show _ ≤ 54; omega⟩) hS (fun H locs hP hS => ?_)
    obtain ⟨o1, o2, o3, o4, o5, o6⟩ := op_box hA1 hj hq (by rw [outF_eqr hE1 hj6]; exact ho)
    obtain ⟨R, hR⟩ : ∃ z, z = gX7_putInBox P1 (nI j) (nI q) := ⟨_, rfl⟩
    rw [← hR] at hP o2 o3 o4 o5 o6
    have h1R : R 1 1 = nI c0 := o5
    refine W.eq (g2 := F0 m 258 ls (.int (fX7_putInBox P1 (nI j) (nI q)) :: [])) (congrArg (fun z => F0 m 258 ls (.int z :: [])) (by rw [o1]; rfl)) ?_
    refine lv_istore (lv' := [(13, .int (fX7_putInBox P1 (nI j) (nI q))), (12, .int (nI q)), (0, .ref (b + 0)), (1, .ref (b + 124)), (2, .int (nI c0)), (3, .int (nI j)), (4, .int (fX7_isHair P (nI j))), (5, .int (outF P (nI j))), (6, .int ((-3) : Int32))]) hx hb dL_act_258 hl (by decide) rfl (fun ls hl => ?_)
    refine lv_iload_n hx hb dL_act_260 rfl (lv_at hl 4 rfl) ?_
    refine lv_if_le (tgt := 298) hx hb dL_act_261 (by decide) (fun c261 => absurd c261 (by rw [show (0 : Int32) = nI 0 from rfl, nI_leI (by omega) (by omega)]; omega)) (fun c261 => ?_)
    refine lv_iload hx hb dL_act_264 (lv_at hl 7 rfl) ?_
    refine lv_if_eq (tgt := 298) hx hb dL_act_266 (by decide) (fun c266 => absurd c266 ho) (fun c266 => ?_)
    refine lv_iload hx hb dL_act_269 (lv_at hl 0 rfl) ?_
    refine lv_aload_n hx hb dL_act_271 rfl (lv_at hl 2 rfl) ?_
    refine lv_iload hx hb dL_act_272 (lv_at hl 1 rfl) ?_
    refine xct_i (vx_runV (As := [.int (nI q)]) (rest := [.int (fX7_putInBox P1 (nI j) (nI q))]) ⟨hx, hb, hml, hown, hts⟩ (c_X7_fixedPoint l hl0 D cy b n (by omega) R (nI q) ) (cwV 1 hts gL_act_X7_fixedPoint rfl rfl rfl (by decide +kernel) ⟨Nat.le_of_ble_eq_true rfl, Nat.le_of_ble_eq_true rfl⟩) (xPreV hP hK hX hS (by omega) (cell7 (by decide)) rfl) rfl rfl hl.1 rfl (lv_room (Nat.le_of_ble_eq_true rfl)) dL_act_274 ⟨by show _ ≤ 9; omega, by show _ ≤ 54; omega⟩) hS (fun E ce qx H locs hE _ _ _ _ _ => absurd o3 (exn_ne hE)) (fun H locs _ hP hS => ?_)
    refine lv_icmp_ne (tgt := 294) hx hb dL_act_277 (by decide) (fun c277 => absurd o4 c277) (fun c277 => ?_)
    refine lv_aload_n hx hb dL_act_280 rfl (lv_at hl 2 rfl) ?_
    refine lv_iload_n hx hb dL_act_281 rfl (lv_at hl 5 rfl) ?_
    refine xct_i (vx_runV (As := [.int (nI j)]) (rest := []) ⟨hx, hb, hml, hown, hts⟩ (c_X7_boxOf l hl0 D cy b n (by omega) R (nI j) ⟨c0, hc6, h1R⟩) (cwV 1 hts gL_act_X7_boxOf rfl rfl rfl (by decide +kernel) ⟨Nat.le_of_ble_eq_true rfl, Nat.le_of_ble_eq_true rfl⟩) (xPreV hP hK hX hS (by omega) (cell7 (by decide)) rfl) rfl rfl hl.1 rfl (lv_room (Nat.le_of_ble_eq_true rfl)) dL_act_282 ⟨by show _ ≤ 9; omega, by show _ ≤ 54; omega⟩) hS (fun E ce qx H locs hE _ _ _ _ _ => absurd (t0_boxOf (t0_at h1R hc6 hj)) (exn_ne hE)) (fun H locs _ hP hS => ?_)
    refine lv_iload hx hb dL_act_285 (lv_at hl 1 rfl) ?_
    refine lv_icmp_ne (tgt := 294) hx hb dL_act_287 (by decide) (fun c287 => absurd o6 c287) (fun c287 => ?_)
    refine lv_iconst (v := 1) hx hb dL_act_290 (by decide) ?_
    refine lv_goto (tgt := 318) hx hb dL_act_291 (by decide) ?_
    exact xe_e hx hb hr hlocks hP hS (hpost _ (o2.eqr hc6 hE1)) rfl rfl (by omega) (by omega) dL_act_318
set_option maxHeartbeats 4000000 in
set_option maxRecDepth 100000 in
theorem act_boxZ (l : Launch) (hl0 : l.stackTraces = false) (D : va_G) (cy : Nat → ClassId) (b n : Nat) (hn : 125 ≤ n) {mx c0 : Nat} {Pst : Mem → Prop} {p : Program} {e : Env} {s : State} {m : MethodId} {args : Array Value} {below : List Frame} {meth : Method} {c : Code} (hx : p.tables.exec = Jvm.exec) (hb : c.code = cL_act) (hr : meth.sig.returnType = (some .boolean)) (hlocks : meth.locks = false) (hml : c.maxLocals = 32) (hown : s.vm.findClass RL = some m.cls) (hts : ∀ w ∈ wsL_act, w.before args s = true) (hK : va_K D vwCl (tysW cy) s) (hX : SX b s) (P : Mem) (hz : c0 = 0) (cells slots : Nat) (H : Heap) (locs : List Loc) (ls : Array Slot) (hA : AST mx P c0) (hpost : ∀ M1, APOST mx P c0 M1 → Pst M1) (hcl : cells ≤ 2) (hsl : slots ≤ 12) (hP : va_P D vwCl (wL cy b fT P n) H) (hS : va_S (fr b) s.heap H locs) (hl : lv_has ls 32 [(0, .ref (b + 0)), (1, .ref (b + 124)), (2, .int (0 : Int32)), (3, .int (0 : Int32)), (4, .int (0 : Int32)), (5, .int (1 : Int32)), (6, .int ((-5) : Int32))]) : W p l e (headSpec wsL_act ({ frames := 9, cells := 9, slots := 54, locals := 158 } : Room)).room s m args below meth c H locs cells slots (MQ below (CQe D cy b n 1 Pst) args s 9 54 (fr b)) (F0 m 243 ls []) := by
  have hc6 := hA.2.2.1
  refine lv_aload_n hx hb dL_act_243 rfl (lv_at hl 1 rfl) ?_
  refine xc_i (va_runS (As := [.ref (b + 124)]) (rest := []) ⟨hx, hb, hml, hown, hts⟩ (c_L_next l D cy b n (by omega) P ) (va_cwS 1 hts gL_act_L_next rfl rfl rfl (by decide +kernel) ⟨Nat.le_of_ble_eq_true rfl, Nat.le_of_ble_eq_true rfl⟩) (xPreS hP hK hX hS) rfl rfl hl.1 rfl (lv_room (Nat.le_of_ble_eq_true rfl)) dL_act_244 ⟨by show _ ≤ 9; omega, by show _ ≤ 54; omega⟩) hS (fun H locs hP hS => ?_)
  obtain ⟨P1, hP1⟩ : ∃ z, z = mU P 124 0 (nxS (P 124 0)) := ⟨_, rfl⟩
  rw [← hP1] at hP
  have hE1 : EQR P P1 := by rw [hP1]; exact eqr_put _ _ _
  have hA1 : AST mx P1 c0 := hA.eqr hE1
  obtain ⟨q, hq, eq⟩ := nx_mod (P 124 0) (k := 4) (by decide) (by decide)
  refine lv_iconst (v := 4) hx hb dL_act_247 (by decide) ?_
  refine lv_irem hx hb dL_act_248 (by decide) ?_
  refine W.eq (g2 := F0 m 249 ls (.int (nI q) :: [])) (congrArg (fun z => F0 m 249 ls (.int z :: [])) eq) ?_
  refine lv_istore (lv' := [(12, .int (nI q)), (0, .ref (b + 0)), (1, .ref (b + 124)), (2, .int (0 : Int32)), (3, .int (0 : Int32)), (4, .int (0 : Int32)), (5, .int (1 : Int32)), (6, .int ((-5) : Int32))]) hx hb dL_act_249 hl (by decide) rfl (fun ls hl => ?_)
  refine lv_aload_n hx hb dL_act_251 rfl (lv_at hl 1 rfl) ?_
  refine lv_iload_n hx hb dL_act_252 rfl (lv_at hl 4 rfl) ?_
  refine lv_iload hx hb dL_act_253 (lv_at hl 0 rfl) ?_
  refine xc_i (vx_runSW (As := [.ref (b + 0), .int (0 : Int32), .int (nI q)]) (rest := []) ⟨hx, hb, hml, hown, hts⟩ (c_L_boxed l hl0 D cy b n (by omega) P1 (0 : Int32) (nI q) hA1.cnt hA1.2.2.2.1) (vx_cwSW 3 hts gL_act_L_boxed rfl rfl rfl (by decide +kernel) ⟨Nat.le_of_ble_eq_true rfl, Nat.le_of_ble_eq_true rfl⟩) (xPreS hP hK hX hS) rfl rfl hl.1 rfl (lv_room (Nat.le_of_ble_eq_true rfl)) dL_act_255 ⟨by show _ ≤ 9; omega, by show _ ≤ 54; omega⟩) hS (fun H locs hP hS => ?_)
  obtain ⟨o1, o2⟩ := no_box (y := nI q) (at_no (M := P1) (x := 0) (Or.inr (by rw [hA1.2.1, hz]; decide)))
  rw [o2] at hP
  refine W.eq (g2 := F0 m 258 ls (.int (-5) :: [])) (congrArg (fun z => F0 m 258 ls (.int z :: [])) (by rw [o1]; rfl)) ?_
  refine lv_istore (lv' := [(13, .int (-5)), (12, .int (nI q)), (0, .ref (b + 0)), (1, .ref (b + 124)), (2, .int (0 : Int32)), (3, .int (0 : Int32)), (4, .int (0 : Int32)), (5, .int (1 : Int32)), (6, .int ((-5) : Int32))]) hx hb dL_act_258 hl (by decide) rfl (fun ls hl => ?_)
  refine lv_iload_n hx hb dL_act_260 rfl (lv_at hl 4 rfl) ?_
  refine lv_if_le (tgt := 298) hx hb dL_act_261 (by decide) (fun c261 => ?_) (fun c261 => absurd (by decide) c261)
  refine lv_iload hx hb dL_act_298 (lv_at hl 0 rfl) ?_
  refine lv_iload hx hb dL_act_300 (lv_at hl 8 rfl) ?_
  refine lv_icmp_ne (tgt := 317) hx hb dL_act_302 (by decide) (fun c302 => absurd rfl c302) (fun c302 => ?_)
  refine lv_aload_n hx hb dL_act_305 rfl (lv_at hl 2 rfl) ?_
  refine lv_iconst (v := 3) hx hb dL_act_306 (by decide) ?_
  refine W.eq (g2 := F0 m 307 ls (.int (nI 3) :: .ref (b + 0) :: [])) (congrArg (fun z => F0 m 307 ls (.int z :: .ref (b + 0) :: [])) rfl) ?_
  refine xc_i (vx_runSW (As := [.ref (b + 0), .int (nI 3)]) (rest := []) ⟨hx, hb, hml, hown, hts⟩ (c_L_taught l hl0 D cy b n (by omega) P1 (nI 3) hA1.cnt hA1.2.2.2.1) (vx_cwSW 2 hts gL_act_L_taught rfl rfl rfl (by decide +kernel) ⟨Nat.le_of_ble_eq_true rfl, Nat.le_of_ble_eq_true rfl⟩) (xPreS hP hK hX hS) rfl rfl hl.1 rfl (lv_room (Nat.le_of_ble_eq_true rfl)) dL_act_307 ⟨by show _ ≤ 9; omega, by show _ ≤ 54; omega⟩) hS (fun H locs hP hS => ?_)
  obtain ⟨s1, s2, s3⟩ := op_skl hA1 (v := 3) (by decide)
  obtain ⟨R, hR⟩ : ∃ z, z = gX7_setSkill P1 (nI 3) := ⟨_, rfl⟩
  rw [← hR] at hP s3
  refine W.eq (g2 := F0 m 310 ls (.int (fX7_setSkill P1 (nI 3)) :: [])) (congrArg (fun z => F0 m 310 ls (.int z :: [])) (by rw [s1]; rfl)) ?_
  refine lv_if_lt (tgt := 317) hx hb dL_act_310 (by decide) (fun c310 => absurd c310 s2) (fun c310 => ?_)
  refine lv_iconst (v := 1) hx hb dL_act_313 (by decide) ?_
  refine lv_goto (tgt := 318) hx hb dL_act_314 (by decide) ?_
  exact xe_e hx hb hr hlocks hP hS (hpost _ (s3.eqr hc6 hE1)) rfl rfl (by omega) (by omega) dL_act_318
set_option maxHeartbeats 4000000 in
set_option maxRecDepth 100000 in
theorem act_outN (l : Launch) (hl0 : l.stackTraces = false) (D : va_G) (cy : Nat → ClassId) (b n : Nat) (hn : 125 ≤ n) {mx c0 : Nat} {Pst : Mem → Prop} {p : Program} {e : Env} {s : State} {m : MethodId} {args : Array Value} {below : List Frame} {meth : Method} {c : Code} (hx : p.tables.exec = Jvm.exec) (hb : c.code = cL_act) (hr : meth.sig.returnType = (some .boolean)) (hlocks : meth.locks = false) (hml : c.maxLocals = 32) (hown : s.vm.findClass RL = some m.cls) (hts : ∀ w ∈ wsL_act, w.before args s = true) (hK : va_K D vwCl (tysW cy) s) (hX : SX b s) (P : Mem) (j : Nat) (hj : j < c0) (cells slots : Nat) (H : Heap) (locs : List Loc) (ls : Array Slot) (hA : AST mx P c0) (hpost : ∀ M1, APOST mx P c0 M1 → Pst M1) (hcl : cells ≤ 2) (hsl : slots ≤ 12) (hP : va_P D vwCl (wL cy b fT P n) H) (hS : va_S (fr b) s.heap H locs) (hl : lv_has ls 32 [(0, .ref (b + 0)), (1, .ref (b + 124)), (2, .int (nI c0)), (3, .int (nI j)), (4, .int (fX7_isHair P (nI j))), (5, .int (outF P (nI j))), (6, .int ((-3) : Int32))]) : W p l e (headSpec wsL_act ({ frames := 9, cells := 9, slots := 54, locals := 158 } : Room)).room s m args below meth c H locs cells slots (MQ below (CQe D cy b n 1 Pst) args s 9 54 (fr b)) (F0 m 319 ls []) := by
  have hc6 := hA.2.2.1
  have hc0 : 0 < c0 := by omega
  have hj6 : j < 6 := by omega
  by_cases ho : outF P (nI j) = 0
  · refine lv_iload_n hx hb dL_act_319 rfl (lv_at hl 2 rfl) ?_
    refine lv_if_ne (tgt := 327) hx hb dL_act_320 (by decide) (fun c320 => ?_) (fun c320 => absurd c320 (nI_ne0 hc0 (by omega)))
    refine lv_aload_n hx hb dL_act_327 rfl (lv_at hl 0 rfl) ?_
    refine lv_iload_n hx hb dL_act_328 rfl (lv_at hl 3 rfl) ?_
    refine xct_i (vx_runV (As := [.int (nI j)]) (rest := []) ⟨hx, hb, hml, hown, hts⟩ (c_X7_boxOf l hl0 D cy b n (by omega) P (nI j) hA.cnt) (cwV 1 hts gL_act_X7_boxOf rfl rfl rfl (by decide +kernel) ⟨Nat.le_of_ble_eq_true rfl, Nat.le_of_ble_eq_true rfl⟩) (xPreV hP hK hX hS (by omega) (cell7 (by decide)) rfl) rfl rfl hl.1 rfl (lv_room (Nat.le_of_ble_eq_true rfl)) dL_act_329 ⟨by show _ ≤ 9; omega, by show _ ≤ 54; omega⟩) hS (fun E ce qx H locs hE _ _ _ _ _ => absurd (t0_boxOf (t0_at hA.2.1 hc6 hj)) (exn_ne hE)) (fun H locs _ hP hS => ?_)
    refine lv_istore (lv' := [(14, .int (fX7_boxOf P (nI j))), (0, .ref (b + 0)), (1, .ref (b + 124)), (2, .int (nI c0)), (3, .int (nI j)), (4, .int (fX7_isHair P (nI j))), (5, .int (outF P (nI j))), (6, .int ((-3) : Int32))]) hx hb dL_act_332 hl (by decide) rfl (fun ls hl => ?_)
    refine lv_aload_n hx hb dL_act_334 rfl (lv_at hl 1 rfl) ?_
    refine lv_iload_n hx hb dL_act_335 rfl (lv_at hl 4 rfl) ?_
    refine xc_i (vx_runSW (As := [.ref (b + 0), .int (nI j)]) (rest := []) ⟨hx, hb, hml, hown, hts⟩ (c_L_taken l hl0 D cy b n (by omega) P (nI j) hA.cnt hA.2.2.2.1) (vx_cwSW 2 hts gL_act_L_taken rfl rfl rfl (by decide +kernel) ⟨Nat.le_of_ble_eq_true rfl, Nat.le_of_ble_eq_true rfl⟩) (xPreS hP hK hX hS) rfl rfl hl.1 rfl (lv_room (Nat.le_of_ble_eq_true rfl)) dL_act_336 ⟨by show _ ≤ 9; omega, by show _ ≤ 54; omega⟩) hS (fun H locs hP hS => ?_)
    obtain ⟨o1, o2, o3, o4, o5⟩ := op_out hA hj ho
    obtain ⟨R, hR⟩ : ∃ z, z = gX7_takeOut P (nI j) := ⟨_, rfl⟩
    rw [← hR] at hP o2 o4 o5
    have h1R : R 1 1 = nI c0 := o4
    refine W.eq (g2 := F0 m 339 ls (.int (fX7_boxOf P (nI j)) :: [])) (congrArg (fun z => F0 m 339 ls (.int z :: [])) (by rw [o1]; exact o3)) ?_
    refine lv_istore (lv' := [(15, .int (fX7_boxOf P (nI j))), (14, .int (fX7_boxOf P (nI j))), (0, .ref (b + 0)), (1, .ref (b + 124)), (2, .int (nI c0)), (3, .int (nI j)), (4, .int (fX7_isHair P (nI j))), (5, .int (outF P (nI j))), (6, .int ((-3) : Int32))]) hx hb dL_act_339 hl (by decide) rfl (fun ls hl => ?_)
    refine lv_iload hx hb dL_act_341 (lv_at hl 1 rfl) ?_
    refine lv_if_lt (tgt := 370) hx hb dL_act_343 (by decide) (fun c343 => absurd c343 (bx_in (inv_i1 hA.1 hA.2.1 hc6 hj).1.2.2.2.2.1 (outF_box ho)).1) (fun c343 => ?_)
    refine lv_iload hx hb dL_act_346 (lv_at hl 0 rfl) ?_
    refine lv_iload hx hb dL_act_348 (lv_at hl 1 rfl) ?_
    refine lv_icmp_ne (tgt := 366) hx hb dL_act_350 (by decide) (fun c350 => absurd rfl c350) (fun c350 => ?_)
    refine lv_aload_n hx hb dL_act_353 rfl (lv_at hl 2 rfl) ?_
    refine lv_iload_n hx hb dL_act_354 rfl (lv_at hl 5 rfl) ?_
    refine xct_i (vx_runV (As := [.int (nI j)]) (rest := []) ⟨hx, hb, hml, hown, hts⟩ (c_X7_boxOf l hl0 D cy b n (by omega) R (nI j) ⟨c0, hc6, h1R⟩) (cwV 1 hts gL_act_X7_boxOf rfl rfl rfl (by decide +kernel) ⟨Nat.le_of_ble_eq_true rfl, Nat.le_of_ble_eq_true rfl⟩) (xPreV hP hK hX hS (by omega) (cell7 (by decide)) rfl) rfl rfl hl.1 rfl (lv_room (Nat.le_of_ble_eq_true rfl)) dL_act_355 ⟨by show _ ≤ 9; omega, by show _ ≤ 54; omega⟩) hS (fun E ce qx H locs hE _ _ _ _ _ => absurd (t0_boxOf (t0_at h1R hc6 hj)) (exn_ne hE)) (fun H locs _ hP hS => ?_)
    refine lv_iconst (v := (-1)) hx hb dL_act_358 (by decide) ?_
    refine lv_icmp_ne (tgt := 366) hx hb dL_act_359 (by decide) (fun c359 => absurd o5 c359) (fun c359 => ?_)
    refine lv_iconst (v := 1) hx hb dL_act_362 (by decide) ?_
    refine lv_goto (tgt := 390) hx hb dL_act_363 (by decide) ?_
    exact xe_e hx hb hr hlocks hP hS (hpost _ o2) rfl rfl (by omega) (by omega) dL_act_390
  · refine lv_iload_n hx hb dL_act_319 rfl (lv_at hl 2 rfl) ?_
    refine lv_if_ne (tgt := 327) hx hb dL_act_320 (by decide) (fun c320 => ?_) (fun c320 => absurd c320 (nI_ne0 hc0 (by omega)))
    refine lv_aload_n hx hb dL_act_327 rfl (lv_at hl 0 rfl) ?_
    refine lv_iload_n hx hb dL_act_328 rfl (lv_at hl 3 rfl) ?_
    refine xct_i (vx_runV (As := [.int (nI j)]) (rest := []) ⟨hx, hb, hml, hown, hts⟩ (c_X7_boxOf l hl0 D cy b n (by omega) P (nI j) hA.cnt) (cwV 1 hts gL_act_X7_boxOf rfl rfl rfl (by decide +kernel) ⟨Nat.le_of_ble_eq_true rfl, Nat.le_of_ble_eq_true rfl⟩) (xPreV hP hK hX hS (by omega) (cell7 (by decide)) rfl) rfl rfl hl.1 rfl (lv_room (Nat.le_of_ble_eq_true rfl)) dL_act_329 ⟨by show _ ≤ 9; omega, by show _ ≤ 54; omega⟩) hS (fun E ce qx H locs hE _ _ _ _ _ => absurd (t0_boxOf (t0_at hA.2.1 hc6 hj)) (exn_ne hE)) (fun H locs _ hP hS => ?_)
    refine lv_istore (lv' := [(14, .int (fX7_boxOf P (nI j))), (0, .ref (b + 0)), (1, .ref (b + 124)), (2, .int (nI c0)), (3, .int (nI j)), (4, .int (fX7_isHair P (nI j))), (5, .int (outF P (nI j))), (6, .int ((-3) : Int32))]) hx hb dL_act_332 hl (by decide) rfl (fun ls hl => ?_)
    refine lv_aload_n hx hb dL_act_334 rfl (lv_at hl 1 rfl) ?_
    refine lv_iload_n hx hb dL_act_335 rfl (lv_at hl 4 rfl) ?_
    refine xc_i (vx_runSW (As := [.ref (b + 0), .int (nI j)]) (rest := []) ⟨hx, hb, hml, hown, hts⟩ (c_L_taken l hl0 D cy b n (by omega) P (nI j) hA.cnt hA.2.2.2.1) (vx_cwSW 2 hts gL_act_L_taken rfl rfl rfl (by decide +kernel) ⟨Nat.le_of_ble_eq_true rfl, Nat.le_of_ble_eq_true rfl⟩) (xPreS hP hK hX hS) rfl rfl hl.1 rfl (lv_room (Nat.le_of_ble_eq_true rfl)) dL_act_336 ⟨by show _ ≤ 9; omega, by show _ ≤ 54; omega⟩) hS (fun H locs hP hS => ?_)
    obtain ⟨o1, o2⟩ := op_outR hA hj ho
    rw [o2] at hP
    refine W.eq (g2 := F0 m 339 ls (.int (-3) :: [])) (congrArg (fun z => F0 m 339 ls (.int z :: [])) (by rw [o1]; rfl)) ?_
    refine lv_istore (lv' := [(15, .int (-3)), (14, .int (fX7_boxOf P (nI j))), (0, .ref (b + 0)), (1, .ref (b + 124)), (2, .int (nI c0)), (3, .int (nI j)), (4, .int (fX7_isHair P (nI j))), (5, .int (outF P (nI j))), (6, .int ((-3) : Int32))]) hx hb dL_act_339 hl (by decide) rfl (fun ls hl => ?_)
    refine lv_iload hx hb dL_act_341 (lv_at hl 1 rfl) ?_
    refine lv_if_lt (tgt := 370) hx hb dL_act_343 (by decide) (fun c343 => ?_) (fun c343 => absurd (by rw [show fX7_boxOf P (nI j) = -1 from outF_out ho]; decide) c343)
    refine lv_iload hx hb dL_act_370 (lv_at hl 0 rfl) ?_
    refine lv_iload hx hb dL_act_372 (lv_at hl 8 rfl) ?_
    refine lv_icmp_ne (tgt := 389) hx hb dL_act_374 (by decide) (fun c374 => absurd rfl c374) (fun c374 => ?_)
    refine lv_aload_n hx hb dL_act_377 rfl (lv_at hl 2 rfl) ?_
    refine lv_iconst (v := 4) hx hb dL_act_378 (by decide) ?_
    refine W.eq (g2 := F0 m 379 ls (.int (nI 4) :: .ref (b + 0) :: [])) (congrArg (fun z => F0 m 379 ls (.int z :: .ref (b + 0) :: [])) rfl) ?_
    refine xc_i (vx_runSW (As := [.ref (b + 0), .int (nI 4)]) (rest := []) ⟨hx, hb, hml, hown, hts⟩ (c_L_taught l hl0 D cy b n (by omega) P (nI 4) hA.cnt hA.2.2.2.1) (vx_cwSW 2 hts gL_act_L_taught rfl rfl rfl (by decide +kernel) ⟨Nat.le_of_ble_eq_true rfl, Nat.le_of_ble_eq_true rfl⟩) (xPreS hP hK hX hS) rfl rfl hl.1 rfl (lv_room (Nat.le_of_ble_eq_true rfl)) dL_act_379 ⟨by show _ ≤ 9; omega, by show _ ≤ 54; omega⟩) hS (fun H locs hP hS => ?_)
    obtain ⟨s1, s2, s3⟩ := op_skl hA (v := 4) (by decide)
    obtain ⟨R, hR⟩ : ∃ z, z = gX7_setSkill P (nI 4) := ⟨_, rfl⟩
    rw [← hR] at hP s3
    refine W.eq (g2 := F0 m 382 ls (.int (fX7_setSkill P (nI 4)) :: [])) (congrArg (fun z => F0 m 382 ls (.int z :: [])) (by rw [s1]; rfl)) ?_
    refine lv_if_lt (tgt := 389) hx hb dL_act_382 (by decide) (fun c382 => absurd c382 s2) (fun c382 => ?_)
    refine lv_iconst (v := 1) hx hb dL_act_385 (by decide) ?_
    refine lv_goto (tgt := 390) hx hb dL_act_386 (by decide) ?_
    exact xe_e hx hb hr hlocks hP hS (hpost _ s3) rfl rfl (by omega) (by omega) dL_act_390
set_option maxHeartbeats 4000000 in
set_option maxRecDepth 100000 in
theorem act_outZ (l : Launch) (hl0 : l.stackTraces = false) (D : va_G) (cy : Nat → ClassId) (b n : Nat) (hn : 125 ≤ n) {mx c0 : Nat} {Pst : Mem → Prop} {p : Program} {e : Env} {s : State} {m : MethodId} {args : Array Value} {below : List Frame} {meth : Method} {c : Code} (hx : p.tables.exec = Jvm.exec) (hb : c.code = cL_act) (hr : meth.sig.returnType = (some .boolean)) (hlocks : meth.locks = false) (hml : c.maxLocals = 32) (hown : s.vm.findClass RL = some m.cls) (hts : ∀ w ∈ wsL_act, w.before args s = true) (hK : va_K D vwCl (tysW cy) s) (hX : SX b s) (P : Mem) (hz : c0 = 0) (cells slots : Nat) (H : Heap) (locs : List Loc) (ls : Array Slot) (hA : AST mx P c0) (hpost : ∀ M1, APOST mx P c0 M1 → Pst M1) (hcl : cells ≤ 2) (hsl : slots ≤ 12) (hP : va_P D vwCl (wL cy b fT P n) H) (hS : va_S (fr b) s.heap H locs) (hl : lv_has ls 32 [(0, .ref (b + 0)), (1, .ref (b + 124)), (2, .int (0 : Int32)), (3, .int (0 : Int32)), (4, .int (0 : Int32)), (5, .int (1 : Int32)), (6, .int ((-5) : Int32))]) : W p l e (headSpec wsL_act ({ frames := 9, cells := 9, slots := 54, locals := 158 } : Room)).room s m args below meth c H locs cells slots (MQ below (CQe D cy b n 1 Pst) args s 9 54 (fr b)) (F0 m 319 ls []) := by
  have hc6 := hA.2.2.1
  refine lv_iload_n hx hb dL_act_319 rfl (lv_at hl 2 rfl) ?_
  refine lv_if_ne (tgt := 327) hx hb dL_act_320 (by decide) (fun c320 => absurd rfl c320) (fun c320 => ?_)
  refine lv_iconst (v := (-1)) hx hb dL_act_323 (by decide) ?_
  refine lv_goto (tgt := 332) hx hb dL_act_324 (by decide) ?_
  refine lv_istore (lv' := [(14, .int ((-1) : Int32)), (0, .ref (b + 0)), (1, .ref (b + 124)), (2, .int (0 : Int32)), (3, .int (0 : Int32)), (4, .int (0 : Int32)), (5, .int (1 : Int32)), (6, .int ((-5) : Int32))]) hx hb dL_act_332 hl (by decide) rfl (fun ls hl => ?_)
  refine lv_aload_n hx hb dL_act_334 rfl (lv_at hl 1 rfl) ?_
  refine lv_iload_n hx hb dL_act_335 rfl (lv_at hl 4 rfl) ?_
  refine xc_i (vx_runSW (As := [.ref (b + 0), .int (0 : Int32)]) (rest := []) ⟨hx, hb, hml, hown, hts⟩ (c_L_taken l hl0 D cy b n (by omega) P (0 : Int32) hA.cnt hA.2.2.2.1) (vx_cwSW 2 hts gL_act_L_taken rfl rfl rfl (by decide +kernel) ⟨Nat.le_of_ble_eq_true rfl, Nat.le_of_ble_eq_true rfl⟩) (xPreS hP hK hX hS) rfl rfl hl.1 rfl (lv_room (Nat.le_of_ble_eq_true rfl)) dL_act_336 ⟨by show _ ≤ 9; omega, by show _ ≤ 54; omega⟩) hS (fun H locs hP hS => ?_)
  obtain ⟨o1, o2⟩ := no_out (at_no (M := P) (x := 0) (Or.inr (by rw [hA.2.1, hz]; decide)))
  rw [o2] at hP
  refine W.eq (g2 := F0 m 339 ls (.int (-5) :: [])) (congrArg (fun z => F0 m 339 ls (.int z :: [])) (by rw [o1]; rfl)) ?_
  refine lv_istore (lv' := [(15, .int (-5)), (14, .int ((-1) : Int32)), (0, .ref (b + 0)), (1, .ref (b + 124)), (2, .int (0 : Int32)), (3, .int (0 : Int32)), (4, .int (0 : Int32)), (5, .int (1 : Int32)), (6, .int ((-5) : Int32))]) hx hb dL_act_339 hl (by decide) rfl (fun ls hl => ?_)
  refine lv_iload hx hb dL_act_341 (lv_at hl 1 rfl) ?_
  refine lv_if_lt (tgt := 370) hx hb dL_act_343 (by decide) (fun c343 => ?_) (fun c343 => absurd (by decide) c343)
  refine lv_iload hx hb dL_act_370 (lv_at hl 0 rfl) ?_
  refine lv_iload hx hb dL_act_372 (lv_at hl 8 rfl) ?_
  refine lv_icmp_ne (tgt := 389) hx hb dL_act_374 (by decide) (fun c374 => absurd rfl c374) (fun c374 => ?_)
  refine lv_aload_n hx hb dL_act_377 rfl (lv_at hl 2 rfl) ?_
  refine lv_iconst (v := 4) hx hb dL_act_378 (by decide) ?_
  refine W.eq (g2 := F0 m 379 ls (.int (nI 4) :: .ref (b + 0) :: [])) (congrArg (fun z => F0 m 379 ls (.int z :: .ref (b + 0) :: [])) rfl) ?_
  refine xc_i (vx_runSW (As := [.ref (b + 0), .int (nI 4)]) (rest := []) ⟨hx, hb, hml, hown, hts⟩ (c_L_taught l hl0 D cy b n (by omega) P (nI 4) hA.cnt hA.2.2.2.1) (vx_cwSW 2 hts gL_act_L_taught rfl rfl rfl (by decide +kernel) ⟨Nat.le_of_ble_eq_true rfl, Nat.le_of_ble_eq_true rfl⟩) (xPreS hP hK hX hS) rfl rfl hl.1 rfl (lv_room (Nat.le_of_ble_eq_true rfl)) dL_act_379 ⟨by show _ ≤ 9; omega, by show _ ≤ 54; omega⟩) hS (fun H locs hP hS => ?_)
  obtain ⟨s1, s2, s3⟩ := op_skl hA (v := 4) (by decide)
  obtain ⟨R, hR⟩ : ∃ z, z = gX7_setSkill P (nI 4) := ⟨_, rfl⟩
  rw [← hR] at hP s3
  refine W.eq (g2 := F0 m 382 ls (.int (fX7_setSkill P (nI 4)) :: [])) (congrArg (fun z => F0 m 382 ls (.int z :: [])) (by rw [s1]; rfl)) ?_
  refine lv_if_lt (tgt := 389) hx hb dL_act_382 (by decide) (fun c382 => absurd c382 s2) (fun c382 => ?_)
  refine lv_iconst (v := 1) hx hb dL_act_385 (by decide) ?_
  refine lv_goto (tgt := 390) hx hb dL_act_386 (by decide) ?_
  exact xe_e hx hb hr hlocks hP hS (hpost _ s3) rfl rfl (by omega) (by omega) dL_act_390
