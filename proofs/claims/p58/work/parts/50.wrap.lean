/-! the law's wrappers: a call, its answer, what is caught -/
/-- the answer of a wrapper: T tells what was thrown -/
def cw (T : Nat) (v a1 a2 a3 : Int32) : Int32 := if T = 0 then v else if T = 1 then a1 else if T = 2 then a2 else a3
theorem met_ofWH {l : Launch} {y : MethodName} {ws ws' : List Cond} {rm : Room} {Pc : Array Value → State → Prop} {Qc : Array Value → State → Outcome → State → Prop} {mc ms : Nat} {free : Addr → Prop} {cc : ByteArray} {maxL : Nat} {ret : Option FieldType} {hh : List (Nat × Nat × Nat × Nat)}
    (hy : plainName y.cls = true) (hw : ws = Cond.codeWith y cc maxL ret hh :: ws')
    (body : ∀ p e s m args below meth c s₁, BodyLoose p l y (headSpec ws rm) cc maxL ret e s m args below meth c s₁ → c.maxLocals = maxL → Pc args s →
      W p l e (headSpec ws rm).room s m args below meth c s.heap [] 0 0 (MQ below Qc args s mc ms free) (entryFrame m args maxL)) : Met l y ws rm Pc Qc mc ms free := by
  refine MetFree.of_bodyS (code := cc) (maxLocals := maxL) (ret := ret) hy ?_ ?_
  · intro args s m h hn
    obtain ⟨m9, meth, c, hn9, h1, h2, h3, h4, -, h5, h6, -⟩ := Cond.codeWith_spec (atoms_spec (ws := ws) h _ (by rw [hw]; exact List.mem_cons_self))
    cases hn.symm.trans hn9
    exact ⟨meth, c, h1, h2, h3, h4, h5, h6⟩
  · intro p e s m args below meth c s₁ B hml hP _
    have hh0 : s₁.heap = s.heap := by rw [B.state]; rfl
    obtain ⟨t, a1, o, b1, b2, b3⟩ := body p e s m args below meth c s₁ B hml hP s₁ hh0 (Stand.of_body B)
    exact ⟨t, o, a1, b1, b2, ⟨b3.1, b3.2⟩⟩
theorem tL_undone (M : Mem)  : tX7_undo M = 0 ∨ tX7_undo M = 3 := by
  unfold tX7_undo
  (repeat' split) <;> simp_all
set_option maxHeartbeats 4000000 in
set_option maxRecDepth 100000 in
theorem c_L_undone (l : Launch) (hl0 : l.stackTraces = false) (D : va_G) (cy : Nat → ClassId) (b n : Nat) (hn : 124 ≤ n) (M : Mem)  (hnx : UB (M 20 1) 9) (hh : HC10 M) : Met l yL_undone wsL_undone ({ frames := 7, cells := 1, slots := 6, locals := 110 } : Room) (CP D cy b n fT M [.ref (b + 0)]) (CQi D cy b n fT (cw (tX7_undo M) (fX7_undo M) 0 0 (-1)) (gX7_undo M)) 1 6 (fr b) := by
  refine met_ofWH (cc := cL_undone) (maxL := 2) (ret := some .int) (hh := [(0, 4, 5, 41)]) (by decide) rfl ?_
  intro p e s m args below meth c s₁ B hml hv
  obtain ⟨rfl, hP, hK, hX⟩ := hv
  have hx := B.exec
  have hb := B.bytes
  have hr := B.returns
  have hts := atoms_spec (ws := wsL_undone) B.pre
  have hown : s.vm.findClass RL = some m.cls := findClass_of_methodNamed B.named
  have hlocks := B.notSynchronized
  have hS : va_S (fr b) s.heap s.heap [] := va_S.rf
  have hl := lv_entry ([.ref (b + 0)]) (n := 2) (Nat.le_of_ble_eq_true rfl)
  rw [lg_entry_eq]
  generalize (lg_sl ([.ref (b + 0)]) ++ List.replicate (2 - (lg_sl ([.ref (b + 0)])).length) Slot.unset).toArray = ls at hl ⊢
  have hl : lv_has ls 2 [(0, .ref (b + 0))] := hl
  have htab := vx_table (x := yL_undone) B (hts _ List.mem_cons_self)
  refine lv_aload_n hx hb dL_undone_0 rfl (lv_at hl 0 rfl) ?_
  refine xct_i (vx_runV (As := []) (rest := []) ⟨hx, hb, hml, hown, hts⟩ (c_X7_undo l hl0 D cy b n (by omega) M hnx hh) (cwV 0 hts gL_undone_X7_undo rfl rfl rfl (by decide +kernel) ⟨Nat.le_of_ble_eq_true rfl, Nat.le_of_ble_eq_true rfl⟩) (xPreV hP hK hX hS (by omega) (cell7 (by decide)) rfl) rfl rfl hl.1 rfl (lv_room (Nat.le_of_ble_eq_true rfl)) dL_undone_1 ⟨Nat.le_of_ble_eq_true rfl, Nat.le_of_ble_eq_true rfl⟩) hS (fun E ce q H locs hE hP hS hc hv hcl => ?_) (fun H locs hT hP hS => ?_)
  · have hcs := tL_undone M
    rcases hE with ⟨e1, rfl⟩ | ⟨e1, rfl⟩ | ⟨e1, rfl⟩
    · exfalso; rw [e1] at hcs; revert hcs; decide
    · exfalso; rw [e1] at hcs; revert hcs; decide
    · refine vx_catch hown [] ⟨0, 4, 5, 41⟩ [] (by rw [htab]; rfl) (fun z hz => absurd hz List.not_mem_nil) rfl (by decide) (hts (.classLink RL 41 "java/lang/IllegalStateException") (by decide +kernel)) (va_Nw.use rfl (hX.2.2.2.2.2.2.2.1 "java/lang/IllegalStateException" (by decide))) hc hv hcl ?_
      refine lv_astore_n (lv' := [(1, .ref q), (0, .ref (b + 0))]) hx hb dL_undone_5 rfl hl (by decide) rfl (fun ls hl => ?_)
      refine lv_iconst (v := (-1)) hx hb dL_undone_6 (by decide) ?_
      exact xe_i hx hb hr hlocks hP hS rfl rfl (by rw [e1]; rfl) (Nat.le_of_ble_eq_true rfl) (Nat.le_of_ble_eq_true rfl) dL_undone_7
  · exact xe_i hx hb hr hlocks hP hS rfl rfl (by rw [hT]; rfl) (Nat.le_of_ble_eq_true rfl) (Nat.le_of_ble_eq_true rfl) dL_undone_4
theorem tL_advanced (M : Mem) (x : Int32) : tX7_advance M x = 0 ∨ tX7_advance M x = 2 ∨ tX7_advance M x = 3 := by
  unfold tX7_advance
  (repeat' split) <;> simp_all
set_option maxHeartbeats 4000000 in
set_option maxRecDepth 100000 in
theorem c_L_advanced (l : Launch) (hl0 : l.stackTraces = false) (D : va_G) (cy : Nat → ClassId) (b n : Nat) (hn : 124 ≤ n) (M : Mem) (x : Int32) (hcnt : CNT M 1) (hnx : UB (M 20 1) 9) : Met l yL_advanced wsL_advanced ({ frames := 7, cells := 1, slots := 6, locals := 111 } : Room) (CP D cy b n fT M [.ref (b + 0), .int x]) (CQi D cy b n fT (cw (tX7_advance M x) (fX7_advance M x) 0 (-2) (-3)) (gX7_advance M x)) 1 6 (fr b) := by
  refine met_ofWH (cc := cL_advanced) (maxL := 3) (ret := some .int) (hh := [(0, 5, 6, 36), (0, 5, 10, 41)]) (by decide) rfl ?_
  intro p e s m args below meth c s₁ B hml hv
  obtain ⟨rfl, hP, hK, hX⟩ := hv
  have hx := B.exec
  have hb := B.bytes
  have hr := B.returns
  have hts := atoms_spec (ws := wsL_advanced) B.pre
  have hown : s.vm.findClass RL = some m.cls := findClass_of_methodNamed B.named
  have hlocks := B.notSynchronized
  have hS : va_S (fr b) s.heap s.heap [] := va_S.rf
  have hl := lv_entry ([.ref (b + 0), .int x]) (n := 3) (Nat.le_of_ble_eq_true rfl)
  rw [lg_entry_eq]
  generalize (lg_sl ([.ref (b + 0), .int x]) ++ List.replicate (3 - (lg_sl ([.ref (b + 0), .int x])).length) Slot.unset).toArray = ls at hl ⊢
  have hl : lv_has ls 3 [(0, .ref (b + 0)), (1, .int x)] := hl
  have htab := vx_table (x := yL_advanced) B (hts _ List.mem_cons_self)
  refine lv_aload_n hx hb dL_advanced_0 rfl (lv_at hl 0 rfl) ?_
  refine lv_iload_n hx hb dL_advanced_1 rfl (lv_at hl 1 rfl) ?_
  refine xct_i (vx_runV (As := [.int x]) (rest := []) ⟨hx, hb, hml, hown, hts⟩ (c_X7_advance l hl0 D cy b n (by omega) M x hcnt hnx) (cwV 1 hts gL_advanced_X7_advance rfl rfl rfl (by decide +kernel) ⟨Nat.le_of_ble_eq_true rfl, Nat.le_of_ble_eq_true rfl⟩) (xPreV hP hK hX hS (by omega) (cell7 (by decide)) rfl) rfl rfl hl.1 rfl (lv_room (Nat.le_of_ble_eq_true rfl)) dL_advanced_2 ⟨Nat.le_of_ble_eq_true rfl, Nat.le_of_ble_eq_true rfl⟩) hS (fun E ce q H locs hE hP hS hc hv hcl => ?_) (fun H locs hT hP hS => ?_)
  · have hcs := tL_advanced M x
    rcases hE with ⟨e1, rfl⟩ | ⟨e1, rfl⟩ | ⟨e1, rfl⟩
    · exfalso; rw [e1] at hcs; revert hcs; decide
    · refine vx_catch hown [] ⟨0, 5, 6, 36⟩ [⟨0, 5, 10, 41⟩] (by rw [htab]; rfl) (fun z hz => absurd hz List.not_mem_nil) rfl (by decide) (hts (.classLink RL 36 "java/lang/IllegalArgumentException") (by decide +kernel)) (va_Nw.use rfl (hX.2.2.2.2.2.2.2.1 "java/lang/IllegalArgumentException" (by decide))) hc hv hcl ?_
      refine lv_astore_n (lv' := [(2, .ref q), (0, .ref (b + 0)), (1, .int x)]) hx hb dL_advanced_6 rfl hl (by decide) rfl (fun ls hl => ?_)
      refine lv_bipush (v := (-2)) hx hb dL_advanced_7 (by decide) ?_
      exact xe_i hx hb hr hlocks hP hS rfl rfl (by rw [e1]; rfl) (Nat.le_of_ble_eq_true rfl) (Nat.le_of_ble_eq_true rfl) dL_advanced_9
    · refine vx_catch hown [⟨0, 5, 6, 36⟩] ⟨0, 5, 10, 41⟩ [] (by rw [htab]; rfl) (fun z hz => by rw [List.mem_singleton.mp hz]; exact Or.inr ⟨by decide, "java/lang/IllegalArgumentException", hts (.classLink RL 36 "java/lang/IllegalArgumentException") (by decide +kernel), hX.2.2.2.2.2.2.2.2.1 ("java/lang/IllegalStateException", "java/lang/IllegalArgumentException") (by decide)⟩) rfl (by decide) (hts (.classLink RL 41 "java/lang/IllegalStateException") (by decide +kernel)) (va_Nw.use rfl (hX.2.2.2.2.2.2.2.1 "java/lang/IllegalStateException" (by decide))) hc hv hcl ?_
      refine lv_astore_n (lv' := [(2, .ref q), (0, .ref (b + 0)), (1, .int x)]) hx hb dL_advanced_10 rfl hl (by decide) rfl (fun ls hl => ?_)
      refine lv_bipush (v := (-3)) hx hb dL_advanced_11 (by decide) ?_
      exact xe_i hx hb hr hlocks hP hS rfl rfl (by rw [e1]; rfl) (Nat.le_of_ble_eq_true rfl) (Nat.le_of_ble_eq_true rfl) dL_advanced_13
  · exact xe_i hx hb hr hlocks hP hS rfl rfl (by rw [hT]; rfl) (Nat.le_of_ble_eq_true rfl) (Nat.le_of_ble_eq_true rfl) dL_advanced_5
theorem tL_damped (M : Mem) (x : Int32) : tX7_setHumidity M x = 0 ∨ tX7_setHumidity M x = 2 := by
  unfold tX7_setHumidity
  (repeat' split) <;> simp_all
set_option maxHeartbeats 4000000 in
set_option maxRecDepth 100000 in
theorem c_L_damped (l : Launch) (hl0 : l.stackTraces = false) (D : va_G) (cy : Nat → ClassId) (b n : Nat) (hn : 124 ≤ n) (M : Mem) (x : Int32) (hcnt : CNT M 1) (hnx : UB (M 20 1) 9) : Met l yL_damped wsL_damped ({ frames := 7, cells := 1, slots := 6, locals := 112 } : Room) (CP D cy b n fT M [.ref (b + 0), .int x]) (CQi D cy b n fT (cw (tX7_setHumidity M x) (fX7_setHumidity M x) 0 (-2) 0) (gX7_setHumidity M x)) 1 6 (fr b) := by
  refine met_ofWH (cc := cL_damped) (maxL := 3) (ret := some .int) (hh := [(0, 5, 6, 36)]) (by decide) rfl ?_
  intro p e s m args below meth c s₁ B hml hv
  obtain ⟨rfl, hP, hK, hX⟩ := hv
  have hx := B.exec
  have hb := B.bytes
  have hr := B.returns
  have hts := atoms_spec (ws := wsL_damped) B.pre
  have hown : s.vm.findClass RL = some m.cls := findClass_of_methodNamed B.named
  have hlocks := B.notSynchronized
  have hS : va_S (fr b) s.heap s.heap [] := va_S.rf
  have hl := lv_entry ([.ref (b + 0), .int x]) (n := 3) (Nat.le_of_ble_eq_true rfl)
  rw [lg_entry_eq]
  generalize (lg_sl ([.ref (b + 0), .int x]) ++ List.replicate (3 - (lg_sl ([.ref (b + 0), .int x])).length) Slot.unset).toArray = ls at hl ⊢
  have hl : lv_has ls 3 [(0, .ref (b + 0)), (1, .int x)] := hl
  have htab := vx_table (x := yL_damped) B (hts _ List.mem_cons_self)
  refine lv_aload_n hx hb dL_damped_0 rfl (lv_at hl 0 rfl) ?_
  refine lv_iload_n hx hb dL_damped_1 rfl (lv_at hl 1 rfl) ?_
  refine xct_i (vx_runV (As := [.int x]) (rest := []) ⟨hx, hb, hml, hown, hts⟩ (c_X7_setHumidity l hl0 D cy b n (by omega) M x hcnt hnx) (cwV 1 hts gL_damped_X7_setHumidity rfl rfl rfl (by decide +kernel) ⟨Nat.le_of_ble_eq_true rfl, Nat.le_of_ble_eq_true rfl⟩) (xPreV hP hK hX hS (by omega) (cell7 (by decide)) rfl) rfl rfl hl.1 rfl (lv_room (Nat.le_of_ble_eq_true rfl)) dL_damped_2 ⟨Nat.le_of_ble_eq_true rfl, Nat.le_of_ble_eq_true rfl⟩) hS (fun E ce q H locs hE hP hS hc hv hcl => ?_) (fun H locs hT hP hS => ?_)
  · have hcs := tL_damped M x
    rcases hE with ⟨e1, rfl⟩ | ⟨e1, rfl⟩ | ⟨e1, rfl⟩
    · exfalso; rw [e1] at hcs; revert hcs; decide
    · refine vx_catch hown [] ⟨0, 5, 6, 36⟩ [] (by rw [htab]; rfl) (fun z hz => absurd hz List.not_mem_nil) rfl (by decide) (hts (.classLink RL 36 "java/lang/IllegalArgumentException") (by decide +kernel)) (va_Nw.use rfl (hX.2.2.2.2.2.2.2.1 "java/lang/IllegalArgumentException" (by decide))) hc hv hcl ?_
      refine lv_astore_n (lv' := [(2, .ref q), (0, .ref (b + 0)), (1, .int x)]) hx hb dL_damped_6 rfl hl (by decide) rfl (fun ls hl => ?_)
      refine lv_bipush (v := (-2)) hx hb dL_damped_7 (by decide) ?_
      exact xe_i hx hb hr hlocks hP hS rfl rfl (by rw [e1]; rfl) (Nat.le_of_ble_eq_true rfl) (Nat.le_of_ble_eq_true rfl) dL_damped_9
    · exfalso; rw [e1] at hcs; revert hcs; decide
  · exact xe_i hx hb hr hlocks hP hS rfl rfl (by rw [hT]; rfl) (Nat.le_of_ble_eq_true rfl) (Nat.le_of_ble_eq_true rfl) dL_damped_5
theorem tL_warmed (M : Mem) (x : Int32) : tX7_setTemperature M x = 0 ∨ tX7_setTemperature M x = 2 := by
  unfold tX7_setTemperature
  (repeat' split) <;> simp_all
set_option maxHeartbeats 4000000 in
set_option maxRecDepth 100000 in
theorem c_L_warmed (l : Launch) (hl0 : l.stackTraces = false) (D : va_G) (cy : Nat → ClassId) (b n : Nat) (hn : 124 ≤ n) (M : Mem) (x : Int32) (hcnt : CNT M 1) (hnx : UB (M 20 1) 9) : Met l yL_warmed wsL_warmed ({ frames := 7, cells := 1, slots := 6, locals := 112 } : Room) (CP D cy b n fT M [.ref (b + 0), .int x]) (CQi D cy b n fT (cw (tX7_setTemperature M x) (fX7_setTemperature M x) 0 (-2) 0) (gX7_setTemperature M x)) 1 6 (fr b) := by
  refine met_ofWH (cc := cL_warmed) (maxL := 3) (ret := some .int) (hh := [(0, 5, 6, 36)]) (by decide) rfl ?_
  intro p e s m args below meth c s₁ B hml hv
  obtain ⟨rfl, hP, hK, hX⟩ := hv
  have hx := B.exec
  have hb := B.bytes
  have hr := B.returns
  have hts := atoms_spec (ws := wsL_warmed) B.pre
  have hown : s.vm.findClass RL = some m.cls := findClass_of_methodNamed B.named
  have hlocks := B.notSynchronized
  have hS : va_S (fr b) s.heap s.heap [] := va_S.rf
  have hl := lv_entry ([.ref (b + 0), .int x]) (n := 3) (Nat.le_of_ble_eq_true rfl)
  rw [lg_entry_eq]
  generalize (lg_sl ([.ref (b + 0), .int x]) ++ List.replicate (3 - (lg_sl ([.ref (b + 0), .int x])).length) Slot.unset).toArray = ls at hl ⊢
  have hl : lv_has ls 3 [(0, .ref (b + 0)), (1, .int x)] := hl
  have htab := vx_table (x := yL_warmed) B (hts _ List.mem_cons_self)
  refine lv_aload_n hx hb dL_warmed_0 rfl (lv_at hl 0 rfl) ?_
  refine lv_iload_n hx hb dL_warmed_1 rfl (lv_at hl 1 rfl) ?_
  refine xct_i (vx_runV (As := [.int x]) (rest := []) ⟨hx, hb, hml, hown, hts⟩ (c_X7_setTemperature l hl0 D cy b n (by omega) M x hcnt hnx) (cwV 1 hts gL_warmed_X7_setTemperature rfl rfl rfl (by decide +kernel) ⟨Nat.le_of_ble_eq_true rfl, Nat.le_of_ble_eq_true rfl⟩) (xPreV hP hK hX hS (by omega) (cell7 (by decide)) rfl) rfl rfl hl.1 rfl (lv_room (Nat.le_of_ble_eq_true rfl)) dL_warmed_2 ⟨Nat.le_of_ble_eq_true rfl, Nat.le_of_ble_eq_true rfl⟩) hS (fun E ce q H locs hE hP hS hc hv hcl => ?_) (fun H locs hT hP hS => ?_)
  · have hcs := tL_warmed M x
    rcases hE with ⟨e1, rfl⟩ | ⟨e1, rfl⟩ | ⟨e1, rfl⟩
    · exfalso; rw [e1] at hcs; revert hcs; decide
    · refine vx_catch hown [] ⟨0, 5, 6, 36⟩ [] (by rw [htab]; rfl) (fun z hz => absurd hz List.not_mem_nil) rfl (by decide) (hts (.classLink RL 36 "java/lang/IllegalArgumentException") (by decide +kernel)) (va_Nw.use rfl (hX.2.2.2.2.2.2.2.1 "java/lang/IllegalArgumentException" (by decide))) hc hv hcl ?_
      refine lv_astore_n (lv' := [(2, .ref q), (0, .ref (b + 0)), (1, .int x)]) hx hb dL_warmed_6 rfl hl (by decide) rfl (fun ls hl => ?_)
      refine lv_bipush (v := (-2)) hx hb dL_warmed_7 (by decide) ?_
      exact xe_i hx hb hr hlocks hP hS rfl rfl (by rw [e1]; rfl) (Nat.le_of_ble_eq_true rfl) (Nat.le_of_ble_eq_true rfl) dL_warmed_9
    · exfalso; rw [e1] at hcs; revert hcs; decide
  · exact xe_i hx hb hr hlocks hP hS rfl rfl (by rw [hT]; rfl) (Nat.le_of_ble_eq_true rfl) (Nat.le_of_ble_eq_true rfl) dL_warmed_5
theorem tL_taught (M : Mem) (x : Int32) : tX7_setSkill M x = 0 ∨ tX7_setSkill M x = 2 := by
  unfold tX7_setSkill
  (repeat' split) <;> simp_all
set_option maxHeartbeats 4000000 in
set_option maxRecDepth 100000 in
theorem c_L_taught (l : Launch) (hl0 : l.stackTraces = false) (D : va_G) (cy : Nat → ClassId) (b n : Nat) (hn : 124 ≤ n) (M : Mem) (x : Int32) (hcnt : CNT M 1) (hnx : UB (M 20 1) 9) : Met l yL_taught wsL_taught ({ frames := 7, cells := 1, slots := 6, locals := 112 } : Room) (CP D cy b n fT M [.ref (b + 0), .int x]) (CQi D cy b n fT (cw (tX7_setSkill M x) (fX7_setSkill M x) 0 (-2) 0) (gX7_setSkill M x)) 1 6 (fr b) := by
  refine met_ofWH (cc := cL_taught) (maxL := 3) (ret := some .int) (hh := [(0, 5, 6, 36)]) (by decide) rfl ?_
  intro p e s m args below meth c s₁ B hml hv
  obtain ⟨rfl, hP, hK, hX⟩ := hv
  have hx := B.exec
  have hb := B.bytes
  have hr := B.returns
  have hts := atoms_spec (ws := wsL_taught) B.pre
  have hown : s.vm.findClass RL = some m.cls := findClass_of_methodNamed B.named
  have hlocks := B.notSynchronized
  have hS : va_S (fr b) s.heap s.heap [] := va_S.rf
  have hl := lv_entry ([.ref (b + 0), .int x]) (n := 3) (Nat.le_of_ble_eq_true rfl)
  rw [lg_entry_eq]
  generalize (lg_sl ([.ref (b + 0), .int x]) ++ List.replicate (3 - (lg_sl ([.ref (b + 0), .int x])).length) Slot.unset).toArray = ls at hl ⊢
  have hl : lv_has ls 3 [(0, .ref (b + 0)), (1, .int x)] := hl
  have htab := vx_table (x := yL_taught) B (hts _ List.mem_cons_self)
  refine lv_aload_n hx hb dL_taught_0 rfl (lv_at hl 0 rfl) ?_
  refine lv_iload_n hx hb dL_taught_1 rfl (lv_at hl 1 rfl) ?_
  refine xct_i (vx_runV (As := [.int x]) (rest := []) ⟨hx, hb, hml, hown, hts⟩ (c_X7_setSkill l hl0 D cy b n (by omega) M x hcnt hnx) (cwV 1 hts gL_taught_X7_setSkill rfl rfl rfl (by decide +kernel) ⟨Nat.le_of_ble_eq_true rfl, Nat.le_of_ble_eq_true rfl⟩) (xPreV hP hK hX hS (by omega) (cell7 (by decide)) rfl) rfl rfl hl.1 rfl (lv_room (Nat.le_of_ble_eq_true rfl)) dL_taught_2 ⟨Nat.le_of_ble_eq_true rfl, Nat.le_of_ble_eq_true rfl⟩) hS (fun E ce q H locs hE hP hS hc hv hcl => ?_) (fun H locs hT hP hS => ?_)
  · have hcs := tL_taught M x
    rcases hE with ⟨e1, rfl⟩ | ⟨e1, rfl⟩ | ⟨e1, rfl⟩
    · exfalso; rw [e1] at hcs; revert hcs; decide
    · refine vx_catch hown [] ⟨0, 5, 6, 36⟩ [] (by rw [htab]; rfl) (fun z hz => absurd hz List.not_mem_nil) rfl (by decide) (hts (.classLink RL 36 "java/lang/IllegalArgumentException") (by decide +kernel)) (va_Nw.use rfl (hX.2.2.2.2.2.2.2.1 "java/lang/IllegalArgumentException" (by decide))) hc hv hcl ?_
      refine lv_astore_n (lv' := [(2, .ref q), (0, .ref (b + 0)), (1, .int x)]) hx hb dL_taught_6 rfl hl (by decide) rfl (fun ls hl => ?_)
      refine lv_bipush (v := (-2)) hx hb dL_taught_7 (by decide) ?_
      exact xe_i hx hb hr hlocks hP hS rfl rfl (by rw [e1]; rfl) (Nat.le_of_ble_eq_true rfl) (Nat.le_of_ble_eq_true rfl) dL_taught_9
    · exfalso; rw [e1] at hcs; revert hcs; decide
  · exact xe_i hx hb hr hlocks hP hS rfl rfl (by rw [hT]; rfl) (Nat.le_of_ble_eq_true rfl) (Nat.le_of_ble_eq_true rfl) dL_taught_5
theorem tL_boxed (M : Mem) (x : Int32) (y : Int32) : tX7_putInBox M x y = 0 ∨ tX7_putInBox M x y = 1 ∨ tX7_putInBox M x y = 2 ∨ tX7_putInBox M x y = 3 := by
  unfold tX7_putInBox tX7_instrumentAt
  (repeat' split) <;> simp_all
set_option maxHeartbeats 4000000 in
set_option maxRecDepth 100000 in
theorem c_L_boxed (l : Launch) (hl0 : l.stackTraces = false) (D : va_G) (cy : Nat → ClassId) (b n : Nat) (hn : 124 ≤ n) (M : Mem) (x : Int32) (y : Int32) (hcnt : CNT M 1) (hnx : UB (M 20 1) 9) : Met l yL_boxed wsL_boxed ({ frames := 8, cells := 2, slots := 12, locals := 135 } : Room) (CP D cy b n fT M [.ref (b + 0), .int x, .int y]) (CQi D cy b n fT (cw (tX7_putInBox M x y) (fX7_putInBox M x y) (-5) (-2) (-3)) (gX7_putInBox M x y)) 2 12 (fr b) := by
  refine met_ofWH (cc := cL_boxed) (maxL := 4) (ret := some .int) (hh := [(0, 6, 7, 34), (0, 6, 11, 36), (0, 6, 15, 41)]) (by decide) rfl ?_
  intro p e s m args below meth c s₁ B hml hv
  obtain ⟨rfl, hP, hK, hX⟩ := hv
  have hx := B.exec
  have hb := B.bytes
  have hr := B.returns
  have hts := atoms_spec (ws := wsL_boxed) B.pre
  have hown : s.vm.findClass RL = some m.cls := findClass_of_methodNamed B.named
  have hlocks := B.notSynchronized
  have hS : va_S (fr b) s.heap s.heap [] := va_S.rf
  have hl := lv_entry ([.ref (b + 0), .int x, .int y]) (n := 4) (Nat.le_of_ble_eq_true rfl)
  rw [lg_entry_eq]
  generalize (lg_sl ([.ref (b + 0), .int x, .int y]) ++ List.replicate (4 - (lg_sl ([.ref (b + 0), .int x, .int y])).length) Slot.unset).toArray = ls at hl ⊢
  have hl : lv_has ls 4 [(0, .ref (b + 0)), (1, .int x), (2, .int y)] := hl
  have htab := vx_table (x := yL_boxed) B (hts _ List.mem_cons_self)
  refine lv_aload_n hx hb dL_boxed_0 rfl (lv_at hl 0 rfl) ?_
  refine lv_iload_n hx hb dL_boxed_1 rfl (lv_at hl 1 rfl) ?_
  refine lv_iload_n hx hb dL_boxed_2 rfl (lv_at hl 2 rfl) ?_
  refine xct_i (vx_runV (As := [.int x, .int y]) (rest := []) ⟨hx, hb, hml, hown, hts⟩ (c_X7_putInBox l hl0 D cy b n (by omega) M x y hcnt hnx) (cwV 2 hts gL_boxed_X7_putInBox rfl rfl rfl (by decide +kernel) ⟨Nat.le_of_ble_eq_true rfl, Nat.le_of_ble_eq_true rfl⟩) (xPreV hP hK hX hS (by omega) (cell7 (by decide)) rfl) rfl rfl hl.1 rfl (lv_room (Nat.le_of_ble_eq_true rfl)) dL_boxed_3 ⟨Nat.le_of_ble_eq_true rfl, Nat.le_of_ble_eq_true rfl⟩) hS (fun E ce q H locs hE hP hS hc hv hcl => ?_) (fun H locs hT hP hS => ?_)
  · have hcs := tL_boxed M x y
    rcases hE with ⟨e1, rfl⟩ | ⟨e1, rfl⟩ | ⟨e1, rfl⟩
    · refine vx_catch hown [] ⟨0, 6, 7, 34⟩ [⟨0, 6, 11, 36⟩, ⟨0, 6, 15, 41⟩] (by rw [htab]; rfl) (fun z hz => absurd hz List.not_mem_nil) rfl (by decide) (hts (.classLink RL 34 "java/lang/IndexOutOfBoundsException") (by decide +kernel)) (va_Nw.use rfl (hX.2.2.2.2.2.2.2.1 "java/lang/IndexOutOfBoundsException" (by decide))) hc hv hcl ?_
      refine lv_astore_n (lv' := [(3, .ref q), (0, .ref (b + 0)), (1, .int x), (2, .int y)]) hx hb dL_boxed_7 rfl hl (by decide) rfl (fun ls hl => ?_)
      refine lv_bipush (v := (-5)) hx hb dL_boxed_8 (by decide) ?_
      exact xe_i hx hb hr hlocks hP hS rfl rfl (by rw [e1]; rfl) (Nat.le_of_ble_eq_true rfl) (Nat.le_of_ble_eq_true rfl) dL_boxed_10
    · refine vx_catch hown [⟨0, 6, 7, 34⟩] ⟨0, 6, 11, 36⟩ [⟨0, 6, 15, 41⟩] (by rw [htab]; rfl) (fun z hz => by rw [List.mem_singleton.mp hz]; exact Or.inr ⟨by decide, "java/lang/IndexOutOfBoundsException", hts (.classLink RL 34 "java/lang/IndexOutOfBoundsException") (by decide +kernel), hX.2.2.2.2.2.2.2.2.1 ("java/lang/IllegalArgumentException", "java/lang/IndexOutOfBoundsException") (by decide)⟩) rfl (by decide) (hts (.classLink RL 36 "java/lang/IllegalArgumentException") (by decide +kernel)) (va_Nw.use rfl (hX.2.2.2.2.2.2.2.1 "java/lang/IllegalArgumentException" (by decide))) hc hv hcl ?_
      refine lv_astore_n (lv' := [(3, .ref q), (0, .ref (b + 0)), (1, .int x), (2, .int y)]) hx hb dL_boxed_11 rfl hl (by decide) rfl (fun ls hl => ?_)
      refine lv_bipush (v := (-2)) hx hb dL_boxed_12 (by decide) ?_
      exact xe_i hx hb hr hlocks hP hS rfl rfl (by rw [e1]; rfl) (Nat.le_of_ble_eq_true rfl) (Nat.le_of_ble_eq_true rfl) dL_boxed_14
    · refine vx_catch hown [⟨0, 6, 7, 34⟩, ⟨0, 6, 11, 36⟩] ⟨0, 6, 15, 41⟩ [] (by rw [htab]; rfl) (fun z hz => by rcases List.mem_cons.mp hz with h | h; (rw [h]; exact Or.inr ⟨by decide, "java/lang/IndexOutOfBoundsException", hts (.classLink RL 34 "java/lang/IndexOutOfBoundsException") (by decide +kernel), hX.2.2.2.2.2.2.2.2.1 ("java/lang/IllegalStateException", "java/lang/IndexOutOfBoundsException") (by decide)⟩); (rw [List.mem_singleton.mp h]; exact Or.inr ⟨by decide, "java/lang/IllegalArgumentException", hts (.classLink RL 36 "java/lang/IllegalArgumentException") (by decide +kernel), hX.2.2.2.2.2.2.2.2.1 ("java/lang/IllegalStateException", "java/lang/IllegalArgumentException") (by decide)⟩)) rfl (by decide) (hts (.classLink RL 41 "java/lang/IllegalStateException") (by decide +kernel)) (va_Nw.use rfl (hX.2.2.2.2.2.2.2.1 "java/lang/IllegalStateException" (by decide))) hc hv hcl ?_
      refine lv_astore_n (lv' := [(3, .ref q), (0, .ref (b + 0)), (1, .int x), (2, .int y)]) hx hb dL_boxed_15 rfl hl (by decide) rfl (fun ls hl => ?_)
      refine lv_bipush (v := (-3)) hx hb dL_boxed_16 (by decide) ?_
      exact xe_i hx hb hr hlocks hP hS rfl rfl (by rw [e1]; rfl) (Nat.le_of_ble_eq_true rfl) (Nat.le_of_ble_eq_true rfl) dL_boxed_18
  · exact xe_i hx hb hr hlocks hP hS rfl rfl (by rw [hT]; rfl) (Nat.le_of_ble_eq_true rfl) (Nat.le_of_ble_eq_true rfl) dL_boxed_6
theorem tL_taken (M : Mem) (x : Int32) : tX7_takeOut M x = 0 ∨ tX7_takeOut M x = 1 ∨ tX7_takeOut M x = 3 := by
  unfold tX7_takeOut tX7_instrumentAt
  (repeat' split) <;> simp_all
set_option maxHeartbeats 4000000 in
set_option maxRecDepth 100000 in
theorem c_L_taken (l : Launch) (hl0 : l.stackTraces = false) (D : va_G) (cy : Nat → ClassId) (b n : Nat) (hn : 124 ≤ n) (M : Mem) (x : Int32) (hcnt : CNT M 1) (hnx : UB (M 20 1) 9) : Met l yL_taken wsL_taken ({ frames := 8, cells := 2, slots := 12, locals := 135 } : Room) (CP D cy b n fT M [.ref (b + 0), .int x]) (CQi D cy b n fT (cw (tX7_takeOut M x) (fX7_takeOut M x) (-5) 0 (-3)) (gX7_takeOut M x)) 2 12 (fr b) := by
  refine met_ofWH (cc := cL_taken) (maxL := 3) (ret := some .int) (hh := [(0, 5, 6, 34), (0, 5, 10, 41)]) (by decide) rfl ?_
  intro p e s m args below meth c s₁ B hml hv
  obtain ⟨rfl, hP, hK, hX⟩ := hv
  have hx := B.exec
  have hb := B.bytes
  have hr := B.returns
  have hts := atoms_spec (ws := wsL_taken) B.pre
  have hown : s.vm.findClass RL = some m.cls := findClass_of_methodNamed B.named
  have hlocks := B.notSynchronized
  have hS : va_S (fr b) s.heap s.heap [] := va_S.rf
  have hl := lv_entry ([.ref (b + 0), .int x]) (n := 3) (Nat.le_of_ble_eq_true rfl)
  rw [lg_entry_eq]
  generalize (lg_sl ([.ref (b + 0), .int x]) ++ List.replicate (3 - (lg_sl ([.ref (b + 0), .int x])).length) Slot.unset).toArray = ls at hl ⊢
  have hl : lv_has ls 3 [(0, .ref (b + 0)), (1, .int x)] := hl
  have htab := vx_table (x := yL_taken) B (hts _ List.mem_cons_self)
  refine lv_aload_n hx hb dL_taken_0 rfl (lv_at hl 0 rfl) ?_
  refine lv_iload_n hx hb dL_taken_1 rfl (lv_at hl 1 rfl) ?_
  refine xct_i (vx_runV (As := [.int x]) (rest := []) ⟨hx, hb, hml, hown, hts⟩ (c_X7_takeOut l hl0 D cy b n (by omega) M x hcnt hnx) (cwV 1 hts gL_taken_X7_takeOut rfl rfl rfl (by decide +kernel) ⟨Nat.le_of_ble_eq_true rfl, Nat.le_of_ble_eq_true rfl⟩) (xPreV hP hK hX hS (by omega) (cell7 (by decide)) rfl) rfl rfl hl.1 rfl (lv_room (Nat.le_of_ble_eq_true rfl)) dL_taken_2 ⟨Nat.le_of_ble_eq_true rfl, Nat.le_of_ble_eq_true rfl⟩) hS (fun E ce q H locs hE hP hS hc hv hcl => ?_) (fun H locs hT hP hS => ?_)
  · have hcs := tL_taken M x
    rcases hE with ⟨e1, rfl⟩ | ⟨e1, rfl⟩ | ⟨e1, rfl⟩
    · refine vx_catch hown [] ⟨0, 5, 6, 34⟩ [⟨0, 5, 10, 41⟩] (by rw [htab]; rfl) (fun z hz => absurd hz List.not_mem_nil) rfl (by decide) (hts (.classLink RL 34 "java/lang/IndexOutOfBoundsException") (by decide +kernel)) (va_Nw.use rfl (hX.2.2.2.2.2.2.2.1 "java/lang/IndexOutOfBoundsException" (by decide))) hc hv hcl ?_
      refine lv_astore_n (lv' := [(2, .ref q), (0, .ref (b + 0)), (1, .int x)]) hx hb dL_taken_6 rfl hl (by decide) rfl (fun ls hl => ?_)
      refine lv_bipush (v := (-5)) hx hb dL_taken_7 (by decide) ?_
      exact xe_i hx hb hr hlocks hP hS rfl rfl (by rw [e1]; rfl) (Nat.le_of_ble_eq_true rfl) (Nat.le_of_ble_eq_true rfl) dL_taken_9
    · exfalso; rw [e1] at hcs; revert hcs; decide
    · refine vx_catch hown [⟨0, 5, 6, 34⟩] ⟨0, 5, 10, 41⟩ [] (by rw [htab]; rfl) (fun z hz => by rw [List.mem_singleton.mp hz]; exact Or.inr ⟨by decide, "java/lang/IndexOutOfBoundsException", hts (.classLink RL 34 "java/lang/IndexOutOfBoundsException") (by decide +kernel), hX.2.2.2.2.2.2.2.2.1 ("java/lang/IllegalStateException", "java/lang/IndexOutOfBoundsException") (by decide)⟩) rfl (by decide) (hts (.classLink RL 41 "java/lang/IllegalStateException") (by decide +kernel)) (va_Nw.use rfl (hX.2.2.2.2.2.2.2.1 "java/lang/IllegalStateException" (by decide))) hc hv hcl ?_
      refine lv_astore_n (lv' := [(2, .ref q), (0, .ref (b + 0)), (1, .int x)]) hx hb dL_taken_10 rfl hl (by decide) rfl (fun ls hl => ?_)
      refine lv_bipush (v := (-3)) hx hb dL_taken_11 (by decide) ?_
      exact xe_i hx hb hr hlocks hP hS rfl rfl (by rw [e1]; rfl) (Nat.le_of_ble_eq_true rfl) (Nat.le_of_ble_eq_true rfl) dL_taken_13
  · exact xe_i hx hb hr hlocks hP hS rfl rfl (by rw [hT]; rfl) (Nat.le_of_ble_eq_true rfl) (Nat.le_of_ble_eq_true rfl) dL_taken_5
theorem tL_calibrated (M : Mem) (x : Int32) : tX7_calibrate M x = 0 ∨ tX7_calibrate M x = 1 ∨ tX7_calibrate M x = 3 := by
  unfold tX7_calibrate tX7_instrumentAt
  (repeat' split) <;> simp_all
set_option maxHeartbeats 4000000 in
set_option maxRecDepth 100000 in
theorem c_L_calibrated (l : Launch) (hl0 : l.stackTraces = false) (D : va_G) (cy : Nat → ClassId) (b n : Nat) (hn : 124 ≤ n) (M : Mem) (x : Int32) (hcnt : CNT M 1) (hnx : UB (M 20 1) 9) : Met l yL_calibrated wsL_calibrated ({ frames := 8, cells := 2, slots := 12, locals := 135 } : Room) (CP D cy b n fT M [.ref (b + 0), .int x]) (CQi D cy b n fT (cw (tX7_calibrate M x) (fX7_calibrate M x) (-995) 0 (-993)) (gX7_calibrate M x)) 2 12 (fr b) := by
  refine met_ofWH (cc := cL_calibrated) (maxL := 3) (ret := some .int) (hh := [(0, 5, 6, 34), (0, 5, 11, 41)]) (by decide) rfl ?_
  intro p e s m args below meth c s₁ B hml hv
  obtain ⟨rfl, hP, hK, hX⟩ := hv
  have hx := B.exec
  have hb := B.bytes
  have hr := B.returns
  have hts := atoms_spec (ws := wsL_calibrated) B.pre
  have hown : s.vm.findClass RL = some m.cls := findClass_of_methodNamed B.named
  have hlocks := B.notSynchronized
  have hS : va_S (fr b) s.heap s.heap [] := va_S.rf
  have hl := lv_entry ([.ref (b + 0), .int x]) (n := 3) (Nat.le_of_ble_eq_true rfl)
  rw [lg_entry_eq]
  generalize (lg_sl ([.ref (b + 0), .int x]) ++ List.replicate (3 - (lg_sl ([.ref (b + 0), .int x])).length) Slot.unset).toArray = ls at hl ⊢
  have hl : lv_has ls 3 [(0, .ref (b + 0)), (1, .int x)] := hl
  have htab := vx_table (x := yL_calibrated) B (hts _ List.mem_cons_self)
  refine lv_aload_n hx hb dL_calibrated_0 rfl (lv_at hl 0 rfl) ?_
  refine lv_iload_n hx hb dL_calibrated_1 rfl (lv_at hl 1 rfl) ?_
  refine xct_i (vx_runV (As := [.int x]) (rest := []) ⟨hx, hb, hml, hown, hts⟩ (c_X7_calibrate l hl0 D cy b n (by omega) M x hcnt hnx) (cwV 1 hts gL_calibrated_X7_calibrate rfl rfl rfl (by decide +kernel) ⟨Nat.le_of_ble_eq_true rfl, Nat.le_of_ble_eq_true rfl⟩) (xPreV hP hK hX hS (by omega) (cell7 (by decide)) rfl) rfl rfl hl.1 rfl (lv_room (Nat.le_of_ble_eq_true rfl)) dL_calibrated_2 ⟨Nat.le_of_ble_eq_true rfl, Nat.le_of_ble_eq_true rfl⟩) hS (fun E ce q H locs hE hP hS hc hv hcl => ?_) (fun H locs hT hP hS => ?_)
  · have hcs := tL_calibrated M x
    rcases hE with ⟨e1, rfl⟩ | ⟨e1, rfl⟩ | ⟨e1, rfl⟩
    · refine vx_catch hown [] ⟨0, 5, 6, 34⟩ [⟨0, 5, 11, 41⟩] (by rw [htab]; rfl) (fun z hz => absurd hz List.not_mem_nil) rfl (by decide) (hts (.classLink RL 34 "java/lang/IndexOutOfBoundsException") (by decide +kernel)) (va_Nw.use rfl (hX.2.2.2.2.2.2.2.1 "java/lang/IndexOutOfBoundsException" (by decide))) hc hv hcl ?_
      refine lv_astore_n (lv' := [(2, .ref q), (0, .ref (b + 0)), (1, .int x)]) hx hb dL_calibrated_6 rfl hl (by decide) rfl (fun ls hl => ?_)
      refine lv_sipush (v := (-995)) hx hb dL_calibrated_7 (by decide) ?_
      exact xe_i hx hb hr hlocks hP hS rfl rfl (by rw [e1]; rfl) (Nat.le_of_ble_eq_true rfl) (Nat.le_of_ble_eq_true rfl) dL_calibrated_10
    · exfalso; rw [e1] at hcs; revert hcs; decide
    · refine vx_catch hown [⟨0, 5, 6, 34⟩] ⟨0, 5, 11, 41⟩ [] (by rw [htab]; rfl) (fun z hz => by rw [List.mem_singleton.mp hz]; exact Or.inr ⟨by decide, "java/lang/IndexOutOfBoundsException", hts (.classLink RL 34 "java/lang/IndexOutOfBoundsException") (by decide +kernel), hX.2.2.2.2.2.2.2.2.1 ("java/lang/IllegalStateException", "java/lang/IndexOutOfBoundsException") (by decide)⟩) rfl (by decide) (hts (.classLink RL 41 "java/lang/IllegalStateException") (by decide +kernel)) (va_Nw.use rfl (hX.2.2.2.2.2.2.2.1 "java/lang/IllegalStateException" (by decide))) hc hv hcl ?_
      refine lv_astore_n (lv' := [(2, .ref q), (0, .ref (b + 0)), (1, .int x)]) hx hb dL_calibrated_11 rfl hl (by decide) rfl (fun ls hl => ?_)
      refine lv_sipush (v := (-993)) hx hb dL_calibrated_12 (by decide) ?_
      exact xe_i hx hb hr hlocks hP hS rfl rfl (by rw [e1]; rfl) (Nat.le_of_ble_eq_true rfl) (Nat.le_of_ble_eq_true rfl) dL_calibrated_15
  · exact xe_i hx hb hr hlocks hP hS rfl rfl (by rw [hT]; rfl) (Nat.le_of_ble_eq_true rfl) (Nat.le_of_ble_eq_true rfl) dL_calibrated_5
theorem tL_tightened (M : Mem) (x : Int32) : tX7_tighten M x = 0 ∨ tX7_tighten M x = 1 ∨ tX7_tighten M x = 3 := by
  unfold tX7_tighten tX7_instrumentAt
  (repeat' split) <;> simp_all
set_option maxHeartbeats 4000000 in
set_option maxRecDepth 100000 in
theorem c_L_tightened (l : Launch) (hl0 : l.stackTraces = false) (D : va_G) (cy : Nat → ClassId) (b n : Nat) (hn : 124 ≤ n) (M : Mem) (x : Int32) (hcnt : CNT M 1) (hnx : UB (M 20 1) 9) : Met l yL_tightened wsL_tightened ({ frames := 8, cells := 2, slots := 12, locals := 135 } : Room) (CP D cy b n fT M [.ref (b + 0), .int x]) (CQi D cy b n fT (cw (tX7_tighten M x) (fX7_tighten M x) (-5) 0 (-3)) (gX7_tighten M x)) 2 12 (fr b) := by
  refine met_ofWH (cc := cL_tightened) (maxL := 3) (ret := some .int) (hh := [(0, 5, 6, 34), (0, 5, 10, 41)]) (by decide) rfl ?_
  intro p e s m args below meth c s₁ B hml hv
  obtain ⟨rfl, hP, hK, hX⟩ := hv
  have hx := B.exec
  have hb := B.bytes
  have hr := B.returns
  have hts := atoms_spec (ws := wsL_tightened) B.pre
  have hown : s.vm.findClass RL = some m.cls := findClass_of_methodNamed B.named
  have hlocks := B.notSynchronized
  have hS : va_S (fr b) s.heap s.heap [] := va_S.rf
  have hl := lv_entry ([.ref (b + 0), .int x]) (n := 3) (Nat.le_of_ble_eq_true rfl)
  rw [lg_entry_eq]
  generalize (lg_sl ([.ref (b + 0), .int x]) ++ List.replicate (3 - (lg_sl ([.ref (b + 0), .int x])).length) Slot.unset).toArray = ls at hl ⊢
  have hl : lv_has ls 3 [(0, .ref (b + 0)), (1, .int x)] := hl
  have htab := vx_table (x := yL_tightened) B (hts _ List.mem_cons_self)
  refine lv_aload_n hx hb dL_tightened_0 rfl (lv_at hl 0 rfl) ?_
  refine lv_iload_n hx hb dL_tightened_1 rfl (lv_at hl 1 rfl) ?_
  refine xct_i (vx_runV (As := [.int x]) (rest := []) ⟨hx, hb, hml, hown, hts⟩ (c_X7_tighten l hl0 D cy b n (by omega) M x hcnt hnx) (cwV 1 hts gL_tightened_X7_tighten rfl rfl rfl (by decide +kernel) ⟨Nat.le_of_ble_eq_true rfl, Nat.le_of_ble_eq_true rfl⟩) (xPreV hP hK hX hS (by omega) (cell7 (by decide)) rfl) rfl rfl hl.1 rfl (lv_room (Nat.le_of_ble_eq_true rfl)) dL_tightened_2 ⟨Nat.le_of_ble_eq_true rfl, Nat.le_of_ble_eq_true rfl⟩) hS (fun E ce q H locs hE hP hS hc hv hcl => ?_) (fun H locs hT hP hS => ?_)
  · have hcs := tL_tightened M x
    rcases hE with ⟨e1, rfl⟩ | ⟨e1, rfl⟩ | ⟨e1, rfl⟩
    · refine vx_catch hown [] ⟨0, 5, 6, 34⟩ [⟨0, 5, 10, 41⟩] (by rw [htab]; rfl) (fun z hz => absurd hz List.not_mem_nil) rfl (by decide) (hts (.classLink RL 34 "java/lang/IndexOutOfBoundsException") (by decide +kernel)) (va_Nw.use rfl (hX.2.2.2.2.2.2.2.1 "java/lang/IndexOutOfBoundsException" (by decide))) hc hv hcl ?_
      refine lv_astore_n (lv' := [(2, .ref q), (0, .ref (b + 0)), (1, .int x)]) hx hb dL_tightened_6 rfl hl (by decide) rfl (fun ls hl => ?_)
      refine lv_bipush (v := (-5)) hx hb dL_tightened_7 (by decide) ?_
      exact xe_i hx hb hr hlocks hP hS rfl rfl (by rw [e1]; rfl) (Nat.le_of_ble_eq_true rfl) (Nat.le_of_ble_eq_true rfl) dL_tightened_9
    · exfalso; rw [e1] at hcs; revert hcs; decide
    · refine vx_catch hown [⟨0, 5, 6, 34⟩] ⟨0, 5, 10, 41⟩ [] (by rw [htab]; rfl) (fun z hz => by rw [List.mem_singleton.mp hz]; exact Or.inr ⟨by decide, "java/lang/IndexOutOfBoundsException", hts (.classLink RL 34 "java/lang/IndexOutOfBoundsException") (by decide +kernel), hX.2.2.2.2.2.2.2.2.1 ("java/lang/IllegalStateException", "java/lang/IndexOutOfBoundsException") (by decide)⟩) rfl (by decide) (hts (.classLink RL 41 "java/lang/IllegalStateException") (by decide +kernel)) (va_Nw.use rfl (hX.2.2.2.2.2.2.2.1 "java/lang/IllegalStateException" (by decide))) hc hv hcl ?_
      refine lv_astore_n (lv' := [(2, .ref q), (0, .ref (b + 0)), (1, .int x)]) hx hb dL_tightened_10 rfl hl (by decide) rfl (fun ls hl => ?_)
      refine lv_bipush (v := (-3)) hx hb dL_tightened_11 (by decide) ?_
      exact xe_i hx hb hr hlocks hP hS rfl rfl (by rw [e1]; rfl) (Nat.le_of_ble_eq_true rfl) (Nat.le_of_ble_eq_true rfl) dL_tightened_13
  · exact xe_i hx hb hr hlocks hP hS rfl rfl (by rw [hT]; rfl) (Nat.le_of_ble_eq_true rfl) (Nat.le_of_ble_eq_true rfl) dL_tightened_5
theorem tL_moistened (M : Mem) (x : Int32) : tX7_moisten M x = 0 ∨ tX7_moisten M x = 1 ∨ tX7_moisten M x = 3 := by
  unfold tX7_moisten tX7_instrumentAt
  (repeat' split) <;> simp_all
set_option maxHeartbeats 4000000 in
set_option maxRecDepth 100000 in
theorem c_L_moistened (l : Launch) (hl0 : l.stackTraces = false) (D : va_G) (cy : Nat → ClassId) (b n : Nat) (hn : 124 ≤ n) (M : Mem) (x : Int32) (hcnt : CNT M 1) (hnx : UB (M 20 1) 9) : Met l yL_moistened wsL_moistened ({ frames := 8, cells := 2, slots := 12, locals := 135 } : Room) (CP D cy b n fT M [.ref (b + 0), .int x]) (CQi D cy b n fT (cw (tX7_moisten M x) (fX7_moisten M x) (-5) 0 (-3)) (gX7_moisten M x)) 2 12 (fr b) := by
  refine met_ofWH (cc := cL_moistened) (maxL := 3) (ret := some .int) (hh := [(0, 5, 6, 34), (0, 5, 10, 41)]) (by decide) rfl ?_
  intro p e s m args below meth c s₁ B hml hv
  obtain ⟨rfl, hP, hK, hX⟩ := hv
  have hx := B.exec
  have hb := B.bytes
  have hr := B.returns
  have hts := atoms_spec (ws := wsL_moistened) B.pre
  have hown : s.vm.findClass RL = some m.cls := findClass_of_methodNamed B.named
  have hlocks := B.notSynchronized
  have hS : va_S (fr b) s.heap s.heap [] := va_S.rf
  have hl := lv_entry ([.ref (b + 0), .int x]) (n := 3) (Nat.le_of_ble_eq_true rfl)
  rw [lg_entry_eq]
  generalize (lg_sl ([.ref (b + 0), .int x]) ++ List.replicate (3 - (lg_sl ([.ref (b + 0), .int x])).length) Slot.unset).toArray = ls at hl ⊢
  have hl : lv_has ls 3 [(0, .ref (b + 0)), (1, .int x)] := hl
  have htab := vx_table (x := yL_moistened) B (hts _ List.mem_cons_self)
  refine lv_aload_n hx hb dL_moistened_0 rfl (lv_at hl 0 rfl) ?_
  refine lv_iload_n hx hb dL_moistened_1 rfl (lv_at hl 1 rfl) ?_
  refine xct_i (vx_runV (As := [.int x]) (rest := []) ⟨hx, hb, hml, hown, hts⟩ (c_X7_moisten l hl0 D cy b n (by omega) M x hcnt hnx) (cwV 1 hts gL_moistened_X7_moisten rfl rfl rfl (by decide +kernel) ⟨Nat.le_of_ble_eq_true rfl, Nat.le_of_ble_eq_true rfl⟩) (xPreV hP hK hX hS (by omega) (cell7 (by decide)) rfl) rfl rfl hl.1 rfl (lv_room (Nat.le_of_ble_eq_true rfl)) dL_moistened_2 ⟨Nat.le_of_ble_eq_true rfl, Nat.le_of_ble_eq_true rfl⟩) hS (fun E ce q H locs hE hP hS hc hv hcl => ?_) (fun H locs hT hP hS => ?_)
  · have hcs := tL_moistened M x
    rcases hE with ⟨e1, rfl⟩ | ⟨e1, rfl⟩ | ⟨e1, rfl⟩
    · refine vx_catch hown [] ⟨0, 5, 6, 34⟩ [⟨0, 5, 10, 41⟩] (by rw [htab]; rfl) (fun z hz => absurd hz List.not_mem_nil) rfl (by decide) (hts (.classLink RL 34 "java/lang/IndexOutOfBoundsException") (by decide +kernel)) (va_Nw.use rfl (hX.2.2.2.2.2.2.2.1 "java/lang/IndexOutOfBoundsException" (by decide))) hc hv hcl ?_
      refine lv_astore_n (lv' := [(2, .ref q), (0, .ref (b + 0)), (1, .int x)]) hx hb dL_moistened_6 rfl hl (by decide) rfl (fun ls hl => ?_)
      refine lv_bipush (v := (-5)) hx hb dL_moistened_7 (by decide) ?_
      exact xe_i hx hb hr hlocks hP hS rfl rfl (by rw [e1]; rfl) (Nat.le_of_ble_eq_true rfl) (Nat.le_of_ble_eq_true rfl) dL_moistened_9
    · exfalso; rw [e1] at hcs; revert hcs; decide
    · refine vx_catch hown [⟨0, 5, 6, 34⟩] ⟨0, 5, 10, 41⟩ [] (by rw [htab]; rfl) (fun z hz => by rw [List.mem_singleton.mp hz]; exact Or.inr ⟨by decide, "java/lang/IndexOutOfBoundsException", hts (.classLink RL 34 "java/lang/IndexOutOfBoundsException") (by decide +kernel), hX.2.2.2.2.2.2.2.2.1 ("java/lang/IllegalStateException", "java/lang/IndexOutOfBoundsException") (by decide)⟩) rfl (by decide) (hts (.classLink RL 41 "java/lang/IllegalStateException") (by decide +kernel)) (va_Nw.use rfl (hX.2.2.2.2.2.2.2.1 "java/lang/IllegalStateException" (by decide))) hc hv hcl ?_
      refine lv_astore_n (lv' := [(2, .ref q), (0, .ref (b + 0)), (1, .int x)]) hx hb dL_moistened_10 rfl hl (by decide) rfl (fun ls hl => ?_)
      refine lv_bipush (v := (-3)) hx hb dL_moistened_11 (by decide) ?_
      exact xe_i hx hb hr hlocks hP hS rfl rfl (by rw [e1]; rfl) (Nat.le_of_ble_eq_true rfl) (Nat.le_of_ble_eq_true rfl) dL_moistened_13
  · exact xe_i hx hb hr hlocks hP hS rfl rfl (by rw [hT]; rfl) (Nat.le_of_ble_eq_true rfl) (Nat.le_of_ble_eq_true rfl) dL_moistened_5
theorem tL_added (M : Mem) (x : Int32) (y : Int32) : tX7_addHairs M x y = 0 ∨ tX7_addHairs M x y = 1 ∨ tX7_addHairs M x y = 2 ∨ tX7_addHairs M x y = 3 := by
  unfold tX7_addHairs tX7_instrumentAt
  (repeat' split) <;> simp_all
set_option maxHeartbeats 4000000 in
set_option maxRecDepth 100000 in
theorem c_L_added (l : Launch) (hl0 : l.stackTraces = false) (D : va_G) (cy : Nat → ClassId) (b n : Nat) (hn : 124 ≤ n) (M : Mem) (x : Int32) (y : Int32) (hcnt : CNT M 1) (hnx : UB (M 20 1) 9) : Met l yL_added wsL_added ({ frames := 8, cells := 2, slots := 12, locals := 135 } : Room) (CP D cy b n fT M [.ref (b + 0), .int x, .int y]) (CQi D cy b n fT (cw (tX7_addHairs M x y) (fX7_addHairs M x y) (-5) (-2) (-3)) (gX7_addHairs M x y)) 2 12 (fr b) := by
  refine met_ofWH (cc := cL_added) (maxL := 4) (ret := some .int) (hh := [(0, 6, 7, 34), (0, 6, 11, 36), (0, 6, 15, 41)]) (by decide) rfl ?_
  intro p e s m args below meth c s₁ B hml hv
  obtain ⟨rfl, hP, hK, hX⟩ := hv
  have hx := B.exec
  have hb := B.bytes
  have hr := B.returns
  have hts := atoms_spec (ws := wsL_added) B.pre
  have hown : s.vm.findClass RL = some m.cls := findClass_of_methodNamed B.named
  have hlocks := B.notSynchronized
  have hS : va_S (fr b) s.heap s.heap [] := va_S.rf
  have hl := lv_entry ([.ref (b + 0), .int x, .int y]) (n := 4) (Nat.le_of_ble_eq_true rfl)
  rw [lg_entry_eq]
  generalize (lg_sl ([.ref (b + 0), .int x, .int y]) ++ List.replicate (4 - (lg_sl ([.ref (b + 0), .int x, .int y])).length) Slot.unset).toArray = ls at hl ⊢
  have hl : lv_has ls 4 [(0, .ref (b + 0)), (1, .int x), (2, .int y)] := hl
  have htab := vx_table (x := yL_added) B (hts _ List.mem_cons_self)
  refine lv_aload_n hx hb dL_added_0 rfl (lv_at hl 0 rfl) ?_
  refine lv_iload_n hx hb dL_added_1 rfl (lv_at hl 1 rfl) ?_
  refine lv_iload_n hx hb dL_added_2 rfl (lv_at hl 2 rfl) ?_
  refine xct_i (vx_runV (As := [.int x, .int y]) (rest := []) ⟨hx, hb, hml, hown, hts⟩ (c_X7_addHairs l hl0 D cy b n (by omega) M x y hcnt hnx) (cwV 2 hts gL_added_X7_addHairs rfl rfl rfl (by decide +kernel) ⟨Nat.le_of_ble_eq_true rfl, Nat.le_of_ble_eq_true rfl⟩) (xPreV hP hK hX hS (by omega) (cell7 (by decide)) rfl) rfl rfl hl.1 rfl (lv_room (Nat.le_of_ble_eq_true rfl)) dL_added_3 ⟨Nat.le_of_ble_eq_true rfl, Nat.le_of_ble_eq_true rfl⟩) hS (fun E ce q H locs hE hP hS hc hv hcl => ?_) (fun H locs hT hP hS => ?_)
  · have hcs := tL_added M x y
    rcases hE with ⟨e1, rfl⟩ | ⟨e1, rfl⟩ | ⟨e1, rfl⟩
    · refine vx_catch hown [] ⟨0, 6, 7, 34⟩ [⟨0, 6, 11, 36⟩, ⟨0, 6, 15, 41⟩] (by rw [htab]; rfl) (fun z hz => absurd hz List.not_mem_nil) rfl (by decide) (hts (.classLink RL 34 "java/lang/IndexOutOfBoundsException") (by decide +kernel)) (va_Nw.use rfl (hX.2.2.2.2.2.2.2.1 "java/lang/IndexOutOfBoundsException" (by decide))) hc hv hcl ?_
      refine lv_astore_n (lv' := [(3, .ref q), (0, .ref (b + 0)), (1, .int x), (2, .int y)]) hx hb dL_added_7 rfl hl (by decide) rfl (fun ls hl => ?_)
      refine lv_bipush (v := (-5)) hx hb dL_added_8 (by decide) ?_
      exact xe_i hx hb hr hlocks hP hS rfl rfl (by rw [e1]; rfl) (Nat.le_of_ble_eq_true rfl) (Nat.le_of_ble_eq_true rfl) dL_added_10
    · refine vx_catch hown [⟨0, 6, 7, 34⟩] ⟨0, 6, 11, 36⟩ [⟨0, 6, 15, 41⟩] (by rw [htab]; rfl) (fun z hz => by rw [List.mem_singleton.mp hz]; exact Or.inr ⟨by decide, "java/lang/IndexOutOfBoundsException", hts (.classLink RL 34 "java/lang/IndexOutOfBoundsException") (by decide +kernel), hX.2.2.2.2.2.2.2.2.1 ("java/lang/IllegalArgumentException", "java/lang/IndexOutOfBoundsException") (by decide)⟩) rfl (by decide) (hts (.classLink RL 36 "java/lang/IllegalArgumentException") (by decide +kernel)) (va_Nw.use rfl (hX.2.2.2.2.2.2.2.1 "java/lang/IllegalArgumentException" (by decide))) hc hv hcl ?_
      refine lv_astore_n (lv' := [(3, .ref q), (0, .ref (b + 0)), (1, .int x), (2, .int y)]) hx hb dL_added_11 rfl hl (by decide) rfl (fun ls hl => ?_)
      refine lv_bipush (v := (-2)) hx hb dL_added_12 (by decide) ?_
      exact xe_i hx hb hr hlocks hP hS rfl rfl (by rw [e1]; rfl) (Nat.le_of_ble_eq_true rfl) (Nat.le_of_ble_eq_true rfl) dL_added_14
    · refine vx_catch hown [⟨0, 6, 7, 34⟩, ⟨0, 6, 11, 36⟩] ⟨0, 6, 15, 41⟩ [] (by rw [htab]; rfl) (fun z hz => by rcases List.mem_cons.mp hz with h | h; (rw [h]; exact Or.inr ⟨by decide, "java/lang/IndexOutOfBoundsException", hts (.classLink RL 34 "java/lang/IndexOutOfBoundsException") (by decide +kernel), hX.2.2.2.2.2.2.2.2.1 ("java/lang/IllegalStateException", "java/lang/IndexOutOfBoundsException") (by decide)⟩); (rw [List.mem_singleton.mp h]; exact Or.inr ⟨by decide, "java/lang/IllegalArgumentException", hts (.classLink RL 36 "java/lang/IllegalArgumentException") (by decide +kernel), hX.2.2.2.2.2.2.2.2.1 ("java/lang/IllegalStateException", "java/lang/IllegalArgumentException") (by decide)⟩)) rfl (by decide) (hts (.classLink RL 41 "java/lang/IllegalStateException") (by decide +kernel)) (va_Nw.use rfl (hX.2.2.2.2.2.2.2.1 "java/lang/IllegalStateException" (by decide))) hc hv hcl ?_
      refine lv_astore_n (lv' := [(3, .ref q), (0, .ref (b + 0)), (1, .int x), (2, .int y)]) hx hb dL_added_15 rfl hl (by decide) rfl (fun ls hl => ?_)
      refine lv_bipush (v := (-3)) hx hb dL_added_16 (by decide) ?_
      exact xe_i hx hb hr hlocks hP hS rfl rfl (by rw [e1]; rfl) (Nat.le_of_ble_eq_true rfl) (Nat.le_of_ble_eq_true rfl) dL_added_18
  · exact xe_i hx hb hr hlocks hP hS rfl rfl (by rw [hT]; rfl) (Nat.le_of_ble_eq_true rfl) (Nat.le_of_ble_eq_true rfl) dL_added_6
