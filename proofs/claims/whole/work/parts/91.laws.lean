/-! the law's wrappers: a call, its answer, what is caught -/
theorem met_ofWH {l : Launch} {y : MethodName} {ws ws' : List Cond} {rm : Room} {Pc : Array Value → State → Prop} {Qc : Array Value → State → Outcome → State → Prop} {mc ms : Nat} {free : Addr → Prop} {cc : ByteArray} {maxL : Nat} {ret : Option FieldType} {hh : List (Nat × Nat × Nat × Nat)}
    (hy : plainName y.cls = true) (hw : ws = Cond.codeWith y cc maxL ret hh :: ws')
    (body : ∀ p e s m args below meth c s₁, BodyLoose p l y (headSpec ws rm) cc maxL ret e s m args below meth c s₁ → c.maxLocals = maxL → Pc args s →
      W p l e (headSpec ws rm).room s m args below meth c s.heap [] 0 0 (MQ below Qc args s mc ms free) (entryFrame m args maxL)) : Met l y ws rm Pc Qc mc ms free := by
  refine MetFree.of_bodyS (code := cc) (maxLocals := maxL) (ret := ret) hy ?_ ?_
  · intro args s m h hn
    obtain ⟨m9, meth, c, hn9, h1, h2, h3, h4, -, h5, h6, -⟩ := Cond.codeWith_spec (atoms_spec (ws := ws) h _ (by rw [hw]; exact List.mem_cons_self))
    cases hn.symm.trans hn9
    exact ⟨meth, c, h1, h2, h3, h4, h5, h6⟩
  · intro p e s m args below meth c s₁ B hml hP _
    have hh0 : s₁.heap = s.heap := by rw [B.state]; rfl
    obtain ⟨t, a1, o, b1, b2, b3⟩ := body p e s m args below meth c s₁ B hml hP s₁ hh0 (Stand.of_body B)
    exact ⟨t, o, a1, b1, b2, ⟨b3.1, b3.2⟩⟩
section XL
variable {p : Program} {l : Launch} {e : Env} {R : Room} {s : State} {m : MethodId} {args : Array Value} {below : List Frame} {meth : Method} {c : Code} {H : Heap} {locs : List Loc} {cells slots : Nat} {Q : State → Prop}
variable {cc : ByteArray} {pc : Nat} {ls : Array Slot} {rest : List Value} {D : va_G} {cy : Nat → ClassId} {b n : Nat} {F : Fla} {M : Mem} {H0 : Heap}
/-- a number written into the long array, and read -/
theorem xls (hexec : p.tables.exec = Jvm.exec) (hb : c.code = cc) (hK : va_K D vwCl (tysW cy) s) (hP : va_P D vwCl (wL cy b F M n) H) (hS : va_S (fr b) H0 H locs) {o : Nat} (ho : o < n) (hk : kd o = 15) {i x : Int32} {j : Nat} (hin : vp_in i (lenOf o)) (hj : i.toNatClampNeg = j) (hdg : decode cc pc = .ok (.lastore, 1))
    (kk : ∀ (H1 : Heap) (locs1 : List Loc), va_P D vwCl (wL cy b F (mU M o j x) n) H1 → va_S (fr b) H0 H1 locs1 → W p l e R s m args below meth c H1 locs1 cells slots Q (F0 m (pc + 1) ls rest)) : W p l e R s m args below meth c H locs cells slots Q (F0 m pc ls (.long x.toInt64 :: .int i :: .ref (b + o) :: rest)) := by
  subst hj
  refine va_last hexec hb hK hP wL_D hS o 5 (by rw [wL_get ho, cell15 hk]) rfl hin hdg (fun H1 locs1 hP1 _ hS1 => kk H1 locs1 ?_ hS1)
  rw [wL_set (F' := F) (M' := mU M o i.toNatClampNeg x) (by
    rw [mU_at, cell15 hk]
    congr 5
    funext k
    unfold vp_updL upd
    split <;> rfl) (fun p _ => rfl) (fun p hp => mU_ne M _ x hp)] at hP1
  exact hP1
theorem xll (hexec : p.tables.exec = Jvm.exec) (hb : c.code = cc) (hK : va_K D vwCl (tysW cy) s) (hP : va_P D vwCl (wL cy b F M n) H) {o : Nat} (ho : o < n) (hk : kd o = 15) {i : Int32} {j : Nat} (hin : vp_in i (lenOf o)) (hj : i.toNatClampNeg = j) (hdg : decode cc pc = .ok (.laload, 1))
    (kk : W p l e R s m args below meth c H locs cells slots Q (F0 m (pc + 1) ls (.long (M o j).toInt64 :: rest))) : W p l e R s m args below meth c H locs cells slots Q (F0 m pc ls (.int i :: .ref (b + o) :: rest)) := by
  subst hj
  exact va_lald hexec hb hK hP o 5 (by rw [wL_get ho, cell15 hk]) rfl hin hdg kk
end XL
def gL_append (M : Mem) (p1 : Int32) (p2 : Int32) (p3 : Int32) (p4 : Int32) (p5 : Int32) : Mem := if tX7_append M p1 p2 p3 p4 p5 = 0 then mU (gX7_append M p1 p2 p3 p4 p5) 133 0 (fX7_append M p1 p2 p3 p4 p5) else (gX7_append M p1 p2 p3 p4 p5)
theorem tL_append (M : Mem) (p1 : Int32) (p2 : Int32) (p3 : Int32) (p4 : Int32) (p5 : Int32) : tX7_append M p1 p2 p3 p4 p5 = 0 ∨ tX7_append M p1 p2 p3 p4 p5 = 3 := by
  unfold tX7_append
  (repeat' split) <;> simp_all
set_option maxHeartbeats 4000000 in
set_option maxRecDepth 100000 in
theorem c_L_append (l : Launch) (hl0 : l.stackTraces = false) (D : va_G) (cy : Nat → ClassId) (b n : Nat) (hn : 134 ≤ n) (M : Mem) (p1 : Int32) (p2 : Int32) (p3 : Int32) (p4 : Int32) (p5 : Int32) (htf : TF M) : Met l yL_append wsL_append ({ frames := 7, cells := 1, slots := 6, locals := 115 } : Room) (CP D cy b n fT M [.ref (b + 0), .int p1, .int p2, .int p3, .int p4, .int p5, .ref (b + 133)]) (CQi D cy b n fT (cd [3] (tX7_append M p1 p2 p3 p4 p5)) (gL_append M p1 p2 p3 p4 p5)) 1 6 (fr b) := by
  refine met_ofWH (cc := cL_append) (maxL := 8) (ret := some .int) (hh := [(0, 16, 19, 13)]) (by decide) rfl ?_
  intro p e s m args below meth c s₁ B hml hv
  obtain ⟨rfl, hP, hK, hX⟩ := hv
  have hx := B.exec
  have hb := B.bytes
  have hr := B.returns
  have hts := atoms_spec (ws := wsL_append) B.pre
  have htab := vx_table (x := yL_append) B (hts _ List.mem_cons_self)
  have hown : s.vm.findClass RL = some m.cls := findClass_of_methodNamed B.named
  have hlocks := B.notSynchronized
  have hS : va_S (fr b) s.heap s.heap [] := va_S.rf
  have hl := lv_entry ([.ref (b + 0), .int p1, .int p2, .int p3, .int p4, .int p5, .ref (b + 133)]) (n := 8) (Nat.le_of_ble_eq_true rfl)
  rw [lg_entry_eq]
  generalize (lg_sl ([.ref (b + 0), .int p1, .int p2, .int p3, .int p4, .int p5, .ref (b + 133)]) ++ List.replicate (8 - (lg_sl ([.ref (b + 0), .int p1, .int p2, .int p3, .int p4, .int p5, .ref (b + 133)])).length) Slot.unset).toArray = ls at hl ⊢
  have hl : lv_has ls 8 [(0, .ref (b + 0)), (1, .int p1), (2, .int p2), (3, .int p3), (4, .int p4), (5, .int p5), (6, .ref (b + 133))] := hl
  refine lv_aload hx hb dL_append_0 (lv_at hl 6 rfl) ?_
  refine lv_iconst (v := 0) hx hb dL_append_2 (by decide) ?_
  refine lv_aload_n hx hb dL_append_3 rfl (lv_at hl 0 rfl) ?_
  refine lv_iload_n hx hb dL_append_4 rfl (lv_at hl 1 rfl) ?_
  refine lv_iload_n hx hb dL_append_5 rfl (lv_at hl 2 rfl) ?_
  refine lv_iload_n hx hb dL_append_6 rfl (lv_at hl 3 rfl) ?_
  refine lv_iload hx hb dL_append_7 (lv_at hl 4 rfl) ?_
  refine lv_iload hx hb dL_append_9 (lv_at hl 5 rfl) ?_
  refine xct_i (vx_runV (As := [.int p1, .int p2, .int p3, .int p4, .int p5]) (rest := [.int 0, .ref (b + 133)]) ⟨hx, hb, hml, hown, hts⟩ (c_X7_append l hl0 D cy b n (by omega) M p1 p2 p3 p4 p5 htf) (cwV 5 hts gL_append_X7_append rfl rfl rfl (by decide +kernel) ⟨Nat.le_of_ble_eq_true rfl, Nat.le_of_ble_eq_true rfl⟩) (xPreV hP hK hX hS (by omega) (cell7 (by decide)) rfl) rfl rfl hl.1 rfl (lv_room (Nat.le_of_ble_eq_true rfl)) dL_append_11 ⟨Nat.le_of_ble_eq_true rfl, Nat.le_of_ble_eq_true rfl⟩) hS (fun E ce q H locs hE hP hS hc hv hcl => ?_) (fun H locs hT hP hS => ?_)
  · have hcs := tL_append M p1 p2 p3 p4 p5
    rcases hE with ⟨e1, rfl⟩ | ⟨e1, rfl⟩ | ⟨e1, rfl⟩
    · exfalso; rw [e1] at hcs; revert hcs; decide
    · exfalso; rw [e1] at hcs; revert hcs; decide
    · refine vx_catch hown [] ⟨0, 16, 19, 13⟩ [] (by rw [htab]; rfl) (fun z hz => absurd hz List.not_mem_nil) rfl (by decide) (hts (.classLink RL 13 "java/lang/IllegalStateException") (by decide +kernel)) (va_Nw.use rfl (hX.2.2.2.2.2.2.2.1 "java/lang/IllegalStateException" (by decide))) hc hv hcl ?_
      refine lv_astore (lv' := [(7, .ref q), (0, .ref (b + 0)), (1, .int p1), (2, .int p2), (3, .int p3), (4, .int p4), (5, .int p5), (6, .ref (b + 133))]) hx hb dL_append_19 hl (by decide) rfl (fun ls hl => ?_)
      refine lv_iconst (v := 1) hx hb dL_append_21 (by decide) ?_
      exact xe_i hx hb hr hlocks hP hS rfl (by unfold gL_append; rw [if_neg (by rw [e1]; decide)]) (by rw [e1]; decide) (Nat.le_of_ble_eq_true rfl) (Nat.le_of_ble_eq_true rfl) dL_append_22
  · refine lv_i2l hx hb dL_append_14 rfl ?_
    refine xls (j := 0) (x := fX7_append M p1 p2 p3 p4 p5) (o := 133) hx hb hK hP hS (by omega) (by decide) (ixIn (a := 0) rfl (by decide) (by decide)) rfl dL_append_15 (fun H locs hP hS => ?_)
    refine lv_goto (tgt := 23) hx hb dL_append_16 (by decide) ?_
    refine lv_iconst (v := 0) hx hb dL_append_23 (by decide) ?_
    exact xe_i hx hb hr hlocks hP hS rfl (by unfold gL_append; rw [if_pos hT]) (by rw [hT]; rfl) (Nat.le_of_ble_eq_true rfl) (Nat.le_of_ble_eq_true rfl) dL_append_24
def gL_load (M : Mem) (x : Int32) : Mem := if tX7_load M x = 0 then mU (gX7_load M x) 133 0 (fX7_load M x) else (gX7_load M x)
theorem tL_load (M : Mem) (x : Int32) : tX7_load M x = 0 ∨ tX7_load M x = 1 ∨ tX7_load M x = 2 := by
  unfold tX7_load
  (repeat' split) <;> simp_all
set_option maxHeartbeats 4000000 in
set_option maxRecDepth 100000 in
theorem c_L_load (l : Launch) (hl0 : l.stackTraces = false) (D : va_G) (cy : Nat → ClassId) (b n : Nat) (hn : 134 ≤ n) (M : Mem) (x : Int32) (htf : TF M) (hcd : CNT M 12) : Met l yL_load wsL_load ({ frames := 8, cells := 1, slots := 6, locals := 173 } : Room) (CP D cy b n fT M [.ref (b + 0), .int x, .ref (b + 133)]) (CQi D cy b n fT (cd [1, 2] (tX7_load M x)) (gL_load M x)) 1 6 (fr b) := by
  refine met_ofWH (cc := cL_load) (maxL := 4) (ret := some .int) (hh := [(0, 9, 12, 19), (0, 9, 15, 21)]) (by decide) rfl ?_
  intro p e s m args below meth c s₁ B hml hv
  obtain ⟨rfl, hP, hK, hX⟩ := hv
  have hx := B.exec
  have hb := B.bytes
  have hr := B.returns
  have hts := atoms_spec (ws := wsL_load) B.pre
  have htab := vx_table (x := yL_load) B (hts _ List.mem_cons_self)
  have hown : s.vm.findClass RL = some m.cls := findClass_of_methodNamed B.named
  have hlocks := B.notSynchronized
  have hS : va_S (fr b) s.heap s.heap [] := va_S.rf
  have hl := lv_entry ([.ref (b + 0), .int x, .ref (b + 133)]) (n := 4) (Nat.le_of_ble_eq_true rfl)
  rw [lg_entry_eq]
  generalize (lg_sl ([.ref (b + 0), .int x, .ref (b + 133)]) ++ List.replicate (4 - (lg_sl ([.ref (b + 0), .int x, .ref (b + 133)])).length) Slot.unset).toArray = ls at hl ⊢
  have hl : lv_has ls 4 [(0, .ref (b + 0)), (1, .int x), (2, .ref (b + 133))] := hl
  refine lv_aload_n hx hb dL_load_0 rfl (lv_at hl 2 rfl) ?_
  refine lv_iconst (v := 0) hx hb dL_load_1 (by decide) ?_
  refine lv_aload_n hx hb dL_load_2 rfl (lv_at hl 0 rfl) ?_
  refine lv_iload_n hx hb dL_load_3 rfl (lv_at hl 1 rfl) ?_
  refine xct_i (vx_runV (As := [.int x]) (rest := [.int 0, .ref (b + 133)]) ⟨hx, hb, hml, hown, hts⟩ (c_X7_load l hl0 D cy b n (by omega) M x htf hcd) (cwV 1 hts gL_load_X7_load rfl rfl rfl (by decide +kernel) ⟨Nat.le_of_ble_eq_true rfl, Nat.le_of_ble_eq_true rfl⟩) (xPreV hP hK hX hS (by omega) (cell7 (by decide)) rfl) rfl rfl hl.1 rfl (lv_room (Nat.le_of_ble_eq_true rfl)) dL_load_4 ⟨Nat.le_of_ble_eq_true rfl, Nat.le_of_ble_eq_true rfl⟩) hS (fun E ce q H locs hE hP hS hc hv hcl => ?_) (fun H locs hT hP hS => ?_)
  · have hcs := tL_load M x
    rcases hE with ⟨e1, rfl⟩ | ⟨e1, rfl⟩ | ⟨e1, rfl⟩
    · refine vx_catch hown [] ⟨0, 9, 12, 19⟩ [⟨0, 9, 15, 21⟩] (by rw [htab]; rfl) (fun z hz => absurd hz List.not_mem_nil) rfl (by decide) (hts (.classLink RL 19 "java/lang/IndexOutOfBoundsException") (by decide +kernel)) (va_Nw.use rfl (hX.2.2.2.2.2.2.2.1 "java/lang/IndexOutOfBoundsException" (by decide))) hc hv hcl ?_
      refine lv_astore_n (lv' := [(3, .ref q), (0, .ref (b + 0)), (1, .int x), (2, .ref (b + 133))]) hx hb dL_load_12 rfl hl (by decide) rfl (fun ls hl => ?_)
      refine lv_iconst (v := 1) hx hb dL_load_13 (by decide) ?_
      exact xe_i hx hb hr hlocks hP hS rfl (by unfold gL_load; rw [if_neg (by rw [e1]; decide)]) (by rw [e1]; decide) (Nat.le_of_ble_eq_true rfl) (Nat.le_of_ble_eq_true rfl) dL_load_14
    · refine vx_catch hown [⟨0, 9, 12, 19⟩] ⟨0, 9, 15, 21⟩ [] (by rw [htab]; rfl) (fun z hz => by rw [List.mem_singleton.mp hz]; exact Or.inr ⟨by decide, "java/lang/IndexOutOfBoundsException", hts (.classLink RL 19 "java/lang/IndexOutOfBoundsException") (by decide +kernel), hX.2.2.2.2.2.2.2.2.1 ("java/lang/IllegalArgumentException", "java/lang/IndexOutOfBoundsException") (by decide)⟩) rfl (by decide) (hts (.classLink RL 21 "java/lang/IllegalArgumentException") (by decide +kernel)) (va_Nw.use rfl (hX.2.2.2.2.2.2.2.1 "java/lang/IllegalArgumentException" (by decide))) hc hv hcl ?_
      refine lv_astore_n (lv' := [(3, .ref q), (0, .ref (b + 0)), (1, .int x), (2, .ref (b + 133))]) hx hb dL_load_15 rfl hl (by decide) rfl (fun ls hl => ?_)
      refine lv_iconst (v := 2) hx hb dL_load_16 (by decide) ?_
      exact xe_i hx hb hr hlocks hP hS rfl (by unfold gL_load; rw [if_neg (by rw [e1]; decide)]) (by rw [e1]; decide) (Nat.le_of_ble_eq_true rfl) (Nat.le_of_ble_eq_true rfl) dL_load_17
    · exfalso; rw [e1] at hcs; revert hcs; decide
  · refine lv_i2l hx hb dL_load_7 rfl ?_
    refine xls (j := 0) (x := fX7_load M x) (o := 133) hx hb hK hP hS (by omega) (by decide) (ixIn (a := 0) rfl (by decide) (by decide)) rfl dL_load_8 (fun H locs hP hS => ?_)
    refine lv_goto (tgt := 18) hx hb dL_load_9 (by decide) ?_
    refine lv_iconst (v := 0) hx hb dL_load_18 (by decide) ?_
    exact xe_i hx hb hr hlocks hP hS rfl (by unfold gL_load; rw [if_pos hT]) (by rw [hT]; rfl) (Nat.le_of_ble_eq_true rfl) (Nat.le_of_ble_eq_true rfl) dL_load_19
def gL_fixedPoint (M : Mem) (x : Int32) : Mem := if tX7_fixedPoint M x = 0 then mU M 133 0 (fX7_fixedPoint M x) else M
theorem tL_fixedPoint (M : Mem) (x : Int32) : tX7_fixedPoint M x = 0 ∨ tX7_fixedPoint M x = 2 := by
  unfold tX7_fixedPoint
  (repeat' split) <;> simp_all
set_option maxHeartbeats 4000000 in
set_option maxRecDepth 100000 in
theorem c_L_fixedPoint (l : Launch) (hl0 : l.stackTraces = false) (D : va_G) (cy : Nat → ClassId) (b n : Nat) (hn : 134 ≤ n) (M : Mem) (x : Int32)  : Met l yL_fixedPoint wsL_fixedPoint ({ frames := 7, cells := 1, slots := 6, locals := 111 } : Room) (CP D cy b n fT M [.ref (b + 0), .int x, .ref (b + 133)]) (CQi D cy b n fT (cd [2] (tX7_fixedPoint M x)) (gL_fixedPoint M x)) 1 6 (fr b) := by
  refine met_ofWH (cc := cL_fixedPoint) (maxL := 4) (ret := some .int) (hh := [(0, 9, 12, 21)]) (by decide) rfl ?_
  intro p e s m args below meth c s₁ B hml hv
  obtain ⟨rfl, hP, hK, hX⟩ := hv
  have hx := B.exec
  have hb := B.bytes
  have hr := B.returns
  have hts := atoms_spec (ws := wsL_fixedPoint) B.pre
  have htab := vx_table (x := yL_fixedPoint) B (hts _ List.mem_cons_self)
  have hown : s.vm.findClass RL = some m.cls := findClass_of_methodNamed B.named
  have hlocks := B.notSynchronized
  have hS : va_S (fr b) s.heap s.heap [] := va_S.rf
  have hl := lv_entry ([.ref (b + 0), .int x, .ref (b + 133)]) (n := 4) (Nat.le_of_ble_eq_true rfl)
  rw [lg_entry_eq]
  generalize (lg_sl ([.ref (b + 0), .int x, .ref (b + 133)]) ++ List.replicate (4 - (lg_sl ([.ref (b + 0), .int x, .ref (b + 133)])).length) Slot.unset).toArray = ls at hl ⊢
  have hl : lv_has ls 4 [(0, .ref (b + 0)), (1, .int x), (2, .ref (b + 133))] := hl
  refine lv_aload_n hx hb dL_fixedPoint_0 rfl (lv_at hl 2 rfl) ?_
  refine lv_iconst (v := 0) hx hb dL_fixedPoint_1 (by decide) ?_
  refine lv_aload_n hx hb dL_fixedPoint_2 rfl (lv_at hl 0 rfl) ?_
  refine lv_iload_n hx hb dL_fixedPoint_3 rfl (lv_at hl 1 rfl) ?_
  refine xct_i (vx_runV (As := [.int x]) (rest := [.int 0, .ref (b + 133)]) ⟨hx, hb, hml, hown, hts⟩ (c_X7_fixedPoint l hl0 D cy b n (by omega) M x ) (cwV 1 hts gL_fixedPoint_X7_fixedPoint rfl rfl rfl (by decide +kernel) ⟨Nat.le_of_ble_eq_true rfl, Nat.le_of_ble_eq_true rfl⟩) (xPreV hP hK hX hS (by omega) (cell7 (by decide)) rfl) rfl rfl hl.1 rfl (lv_room (Nat.le_of_ble_eq_true rfl)) dL_fixedPoint_4 ⟨Nat.le_of_ble_eq_true rfl, Nat.le_of_ble_eq_true rfl⟩) hS (fun E ce q H locs hE hP hS hc hv hcl => ?_) (fun H locs hT hP hS => ?_)
  · have hcs := tL_fixedPoint M x
    rcases hE with ⟨e1, rfl⟩ | ⟨e1, rfl⟩ | ⟨e1, rfl⟩
    · exfalso; rw [e1] at hcs; revert hcs; decide
    · refine vx_catch hown [] ⟨0, 9, 12, 21⟩ [] (by rw [htab]; rfl) (fun z hz => absurd hz List.not_mem_nil) rfl (by decide) (hts (.classLink RL 21 "java/lang/IllegalArgumentException") (by decide +kernel)) (va_Nw.use rfl (hX.2.2.2.2.2.2.2.1 "java/lang/IllegalArgumentException" (by decide))) hc hv hcl ?_
      refine lv_astore_n (lv' := [(3, .ref q), (0, .ref (b + 0)), (1, .int x), (2, .ref (b + 133))]) hx hb dL_fixedPoint_12 rfl hl (by decide) rfl (fun ls hl => ?_)
      refine lv_iconst (v := 1) hx hb dL_fixedPoint_13 (by decide) ?_
      exact xe_i hx hb hr hlocks hP hS rfl (by unfold gL_fixedPoint; rw [if_neg (by rw [e1]; decide)]) (by rw [e1]; decide) (Nat.le_of_ble_eq_true rfl) (Nat.le_of_ble_eq_true rfl) dL_fixedPoint_14
    · exfalso; rw [e1] at hcs; revert hcs; decide
  · refine lv_i2l hx hb dL_fixedPoint_7 rfl ?_
    refine xls (j := 0) (x := fX7_fixedPoint M x) (o := 133) hx hb hK hP hS (by omega) (by decide) (ixIn (a := 0) rfl (by decide) (by decide)) rfl dL_fixedPoint_8 (fun H locs hP hS => ?_)
    refine lv_goto (tgt := 15) hx hb dL_fixedPoint_9 (by decide) ?_
    refine lv_iconst (v := 0) hx hb dL_fixedPoint_15 (by decide) ?_
    exact xe_i hx hb hr hlocks hP hS rfl (by unfold gL_fixedPoint; rw [if_pos hT]) (by rw [hT]; rfl) (Nat.le_of_ble_eq_true rfl) (Nat.le_of_ble_eq_true rfl) dL_fixedPoint_16
def gL_isHair (M : Mem) (x : Int32) : Mem := if tX7_isHair M x = 0 then mU M 133 0 (if fX7_isHair M x = 0 then 0 else 1) else M
theorem tL_isHair (M : Mem) (x : Int32) : tX7_isHair M x = 0 ∨ tX7_isHair M x = 1 := by
  unfold tX7_isHair tX7_instrumentAt
  (repeat' split) <;> simp_all
set_option maxHeartbeats 4000000 in
set_option maxRecDepth 100000 in
theorem c_L_isHair (l : Launch) (hl0 : l.stackTraces = false) (D : va_G) (cy : Nat → ClassId) (b n : Nat) (hn : 134 ≤ n) (M : Mem) (x : Int32) (hcnt : CNT M 1) : Met l yL_isHair wsL_isHair ({ frames := 8, cells := 1, slots := 6, locals := 133 } : Room) (CP D cy b n fT M [.ref (b + 0), .int x, .ref (b + 133)]) (CQi D cy b n fT (cd [1] (tX7_isHair M x)) (gL_isHair M x)) 1 6 (fr b) := by
  refine met_ofWH (cc := cL_isHair) (maxL := 4) (ret := some .int) (hh := [(0, 16, 19, 19)]) (by decide) rfl ?_
  intro p e s m args below meth c s₁ B hml hv
  obtain ⟨rfl, hP, hK, hX⟩ := hv
  have hx := B.exec
  have hb := B.bytes
  have hr := B.returns
  have hts := atoms_spec (ws := wsL_isHair) B.pre
  have htab := vx_table (x := yL_isHair) B (hts _ List.mem_cons_self)
  have hown : s.vm.findClass RL = some m.cls := findClass_of_methodNamed B.named
  have hlocks := B.notSynchronized
  have hS : va_S (fr b) s.heap s.heap [] := va_S.rf
  have hl := lv_entry ([.ref (b + 0), .int x, .ref (b + 133)]) (n := 4) (Nat.le_of_ble_eq_true rfl)
  rw [lg_entry_eq]
  generalize (lg_sl ([.ref (b + 0), .int x, .ref (b + 133)]) ++ List.replicate (4 - (lg_sl ([.ref (b + 0), .int x, .ref (b + 133)])).length) Slot.unset).toArray = ls at hl ⊢
  have hl : lv_has ls 4 [(0, .ref (b + 0)), (1, .int x), (2, .ref (b + 133))] := hl
  refine lv_aload_n hx hb dL_isHair_0 rfl (lv_at hl 2 rfl) ?_
  refine lv_iconst (v := 0) hx hb dL_isHair_1 (by decide) ?_
  refine lv_aload_n hx hb dL_isHair_2 rfl (lv_at hl 0 rfl) ?_
  refine lv_iload_n hx hb dL_isHair_3 rfl (lv_at hl 1 rfl) ?_
  refine xct_i (vx_runV (As := [.int x]) (rest := [.int 0, .ref (b + 133)]) ⟨hx, hb, hml, hown, hts⟩ (c_X7_isHair l hl0 D cy b n (by omega) M x hcnt) (cwV 1 hts gL_isHair_X7_isHair rfl rfl rfl (by decide +kernel) ⟨Nat.le_of_ble_eq_true rfl, Nat.le_of_ble_eq_true rfl⟩) (xPreV hP hK hX hS (by omega) (cell7 (by decide)) rfl) rfl rfl hl.1 rfl (lv_room (Nat.le_of_ble_eq_true rfl)) dL_isHair_4 ⟨Nat.le_of_ble_eq_true rfl, Nat.le_of_ble_eq_true rfl⟩) hS (fun E ce q H locs hE hP hS hc hv hcl => ?_) (fun H locs hT hP hS => ?_)
  · have hcs := tL_isHair M x
    rcases hE with ⟨e1, rfl⟩ | ⟨e1, rfl⟩ | ⟨e1, rfl⟩
    · refine vx_catch hown [] ⟨0, 16, 19, 19⟩ [] (by rw [htab]; rfl) (fun z hz => absurd hz List.not_mem_nil) rfl (by decide) (hts (.classLink RL 19 "java/lang/IndexOutOfBoundsException") (by decide +kernel)) (va_Nw.use rfl (hX.2.2.2.2.2.2.2.1 "java/lang/IndexOutOfBoundsException" (by decide))) hc hv hcl ?_
      refine lv_astore_n (lv' := [(3, .ref q), (0, .ref (b + 0)), (1, .int x), (2, .ref (b + 133))]) hx hb dL_isHair_19 rfl hl (by decide) rfl (fun ls hl => ?_)
      refine lv_iconst (v := 1) hx hb dL_isHair_20 (by decide) ?_
      exact xe_i hx hb hr hlocks hP hS rfl (by unfold gL_isHair; rw [if_neg (by rw [e1]; decide)]) (by rw [e1]; decide) (Nat.le_of_ble_eq_true rfl) (Nat.le_of_ble_eq_true rfl) dL_isHair_21
    · exfalso; rw [e1] at hcs; revert hcs; decide
    · exfalso; rw [e1] at hcs; revert hcs; decide
  · refine lv_if_eq (tgt := 14) hx hb dL_isHair_7 (by decide) (fun c0 => ?_) (fun c0 => ?_)
    · refine lv_lconst (v := (0 : Int32).toInt64) hx hb dL_isHair_14 rfl ?_
      refine xls (j := 0) (x := 0) (o := 133) hx hb hK hP hS (by omega) (by decide) (ixIn (a := 0) rfl (by decide) (by decide)) rfl dL_isHair_15 (fun H locs hP hS => ?_)
      refine lv_goto (tgt := 22) hx hb dL_isHair_16 (by decide) ?_
      refine lv_iconst (v := 0) hx hb dL_isHair_22 (by decide) ?_
      exact xe_i hx hb hr hlocks hP hS rfl (by unfold gL_isHair; rw [if_pos hT, if_pos c0]) (by rw [hT]; rfl) (Nat.le_of_ble_eq_true rfl) (Nat.le_of_ble_eq_true rfl) dL_isHair_23
    · refine lv_lconst (v := (1 : Int32).toInt64) hx hb dL_isHair_10 rfl ?_
      refine lv_goto (tgt := 15) hx hb dL_isHair_11 (by decide) ?_
      refine xls (j := 0) (x := 1) (o := 133) hx hb hK hP hS (by omega) (by decide) (ixIn (a := 0) rfl (by decide) (by decide)) rfl dL_isHair_15 (fun H locs hP hS => ?_)
      refine lv_goto (tgt := 22) hx hb dL_isHair_16 (by decide) ?_
      refine lv_iconst (v := 0) hx hb dL_isHair_22 (by decide) ?_
      exact xe_i hx hb hr hlocks hP hS rfl (by unfold gL_isHair; rw [if_pos hT, if_neg c0]) (by rw [hT]; rfl) (Nat.le_of_ble_eq_true rfl) (Nat.le_of_ble_eq_true rfl) dL_isHair_23
def gL_hairsOf (M : Mem) (x : Int32) : Mem := if tX7_hairsOf M x = 0 then mU M 133 0 (fX7_hairsOf M x) else M
theorem tL_hairsOf (M : Mem) (x : Int32) : tX7_hairsOf M x = 0 ∨ tX7_hairsOf M x = 1 := by
  unfold tX7_hairsOf tX7_instrumentAt
  (repeat' split) <;> simp_all
set_option maxHeartbeats 4000000 in
set_option maxRecDepth 100000 in
theorem c_L_hairsOf (l : Launch) (hl0 : l.stackTraces = false) (D : va_G) (cy : Nat → ClassId) (b n : Nat) (hn : 134 ≤ n) (M : Mem) (x : Int32) (hcnt : CNT M 1) : Met l yL_hairsOf wsL_hairsOf ({ frames := 8, cells := 1, slots := 6, locals := 134 } : Room) (CP D cy b n fT M [.ref (b + 0), .int x, .ref (b + 133)]) (CQi D cy b n fT (cd [1] (tX7_hairsOf M x)) (gL_hairsOf M x)) 1 6 (fr b) := by
  refine met_ofWH (cc := cL_hairsOf) (maxL := 4) (ret := some .int) (hh := [(0, 9, 12, 19)]) (by decide) rfl ?_
  intro p e s m args below meth c s₁ B hml hv
  obtain ⟨rfl, hP, hK, hX⟩ := hv
  have hx := B.exec
  have hb := B.bytes
  have hr := B.returns
  have hts := atoms_spec (ws := wsL_hairsOf) B.pre
  have htab := vx_table (x := yL_hairsOf) B (hts _ List.mem_cons_self)
  have hown : s.vm.findClass RL = some m.cls := findClass_of_methodNamed B.named
  have hlocks := B.notSynchronized
  have hS : va_S (fr b) s.heap s.heap [] := va_S.rf
  have hl := lv_entry ([.ref (b + 0), .int x, .ref (b + 133)]) (n := 4) (Nat.le_of_ble_eq_true rfl)
  rw [lg_entry_eq]
  generalize (lg_sl ([.ref (b + 0), .int x, .ref (b + 133)]) ++ List.replicate (4 - (lg_sl ([.ref (b + 0), .int x, .ref (b + 133)])).length) Slot.unset).toArray = ls at hl ⊢
  have hl : lv_has ls 4 [(0, .ref (b + 0)), (1, .int x), (2, .ref (b + 133))] := hl
  refine lv_aload_n hx hb dL_hairsOf_0 rfl (lv_at hl 2 rfl) ?_
  refine lv_iconst (v := 0) hx hb dL_hairsOf_1 (by decide) ?_
  refine lv_aload_n hx hb dL_hairsOf_2 rfl (lv_at hl 0 rfl) ?_
  refine lv_iload_n hx hb dL_hairsOf_3 rfl (lv_at hl 1 rfl) ?_
  refine xct_i (vx_runV (As := [.int x]) (rest := [.int 0, .ref (b + 133)]) ⟨hx, hb, hml, hown, hts⟩ (c_X7_hairsOf l hl0 D cy b n (by omega) M x hcnt) (cwV 1 hts gL_hairsOf_X7_hairsOf rfl rfl rfl (by decide +kernel) ⟨Nat.le_of_ble_eq_true rfl, Nat.le_of_ble_eq_true rfl⟩) (xPreV hP hK hX hS (by omega) (cell7 (by decide)) rfl) rfl rfl hl.1 rfl (lv_room (Nat.le_of_ble_eq_true rfl)) dL_hairsOf_4 ⟨Nat.le_of_ble_eq_true rfl, Nat.le_of_ble_eq_true rfl⟩) hS (fun E ce q H locs hE hP hS hc hv hcl => ?_) (fun H locs hT hP hS => ?_)
  · have hcs := tL_hairsOf M x
    rcases hE with ⟨e1, rfl⟩ | ⟨e1, rfl⟩ | ⟨e1, rfl⟩
    · refine vx_catch hown [] ⟨0, 9, 12, 19⟩ [] (by rw [htab]; rfl) (fun z hz => absurd hz List.not_mem_nil) rfl (by decide) (hts (.classLink RL 19 "java/lang/IndexOutOfBoundsException") (by decide +kernel)) (va_Nw.use rfl (hX.2.2.2.2.2.2.2.1 "java/lang/IndexOutOfBoundsException" (by decide))) hc hv hcl ?_
      refine lv_astore_n (lv' := [(3, .ref q), (0, .ref (b + 0)), (1, .int x), (2, .ref (b + 133))]) hx hb dL_hairsOf_12 rfl hl (by decide) rfl (fun ls hl => ?_)
      refine lv_iconst (v := 1) hx hb dL_hairsOf_13 (by decide) ?_
      exact xe_i hx hb hr hlocks hP hS rfl (by unfold gL_hairsOf; rw [if_neg (by rw [e1]; decide)]) (by rw [e1]; decide) (Nat.le_of_ble_eq_true rfl) (Nat.le_of_ble_eq_true rfl) dL_hairsOf_14
    · exfalso; rw [e1] at hcs; revert hcs; decide
    · exfalso; rw [e1] at hcs; revert hcs; decide
  · refine lv_i2l hx hb dL_hairsOf_7 rfl ?_
    refine xls (j := 0) (x := fX7_hairsOf M x) (o := 133) hx hb hK hP hS (by omega) (by decide) (ixIn (a := 0) rfl (by decide) (by decide)) rfl dL_hairsOf_8 (fun H locs hP hS => ?_)
    refine lv_goto (tgt := 15) hx hb dL_hairsOf_9 (by decide) ?_
    refine lv_iconst (v := 0) hx hb dL_hairsOf_15 (by decide) ?_
    exact xe_i hx hb hr hlocks hP hS rfl (by unfold gL_hairsOf; rw [if_pos hT]) (by rw [hT]; rfl) (Nat.le_of_ble_eq_true rfl) (Nat.le_of_ble_eq_true rfl) dL_hairsOf_16
def gL_brokenOf (M : Mem) (x : Int32) : Mem := if tX7_brokenOf M x = 0 then mU M 133 0 (fX7_brokenOf M x) else M
theorem tL_brokenOf (M : Mem) (x : Int32) : tX7_brokenOf M x = 0 ∨ tX7_brokenOf M x = 1 := by
  unfold tX7_brokenOf tX7_instrumentAt
  (repeat' split) <;> simp_all
set_option maxHeartbeats 4000000 in
set_option maxRecDepth 100000 in
theorem c_L_brokenOf (l : Launch) (hl0 : l.stackTraces = false) (D : va_G) (cy : Nat → ClassId) (b n : Nat) (hn : 134 ≤ n) (M : Mem) (x : Int32) (hcnt : CNT M 1) : Met l yL_brokenOf wsL_brokenOf ({ frames := 8, cells := 1, slots := 6, locals := 134 } : Room) (CP D cy b n fT M [.ref (b + 0), .int x, .ref (b + 133)]) (CQi D cy b n fT (cd [1] (tX7_brokenOf M x)) (gL_brokenOf M x)) 1 6 (fr b) := by
  refine met_ofWH (cc := cL_brokenOf) (maxL := 4) (ret := some .int) (hh := [(0, 9, 12, 19)]) (by decide) rfl ?_
  intro p e s m args below meth c s₁ B hml hv
  obtain ⟨rfl, hP, hK, hX⟩ := hv
  have hx := B.exec
  have hb := B.bytes
  have hr := B.returns
  have hts := atoms_spec (ws := wsL_brokenOf) B.pre
  have htab := vx_table (x := yL_brokenOf) B (hts _ List.mem_cons_self)
  have hown : s.vm.findClass RL = some m.cls := findClass_of_methodNamed B.named
  have hlocks := B.notSynchronized
  have hS : va_S (fr b) s.heap s.heap [] := va_S.rf
  have hl := lv_entry ([.ref (b + 0), .int x, .ref (b + 133)]) (n := 4) (Nat.le_of_ble_eq_true rfl)
  rw [lg_entry_eq]
  generalize (lg_sl ([.ref (b + 0), .int x, .ref (b + 133)]) ++ List.replicate (4 - (lg_sl ([.ref (b + 0), .int x, .ref (b + 133)])).length) Slot.unset).toArray = ls at hl ⊢
  have hl : lv_has ls 4 [(0, .ref (b + 0)), (1, .int x), (2, .ref (b + 133))] := hl
  refine lv_aload_n hx hb dL_brokenOf_0 rfl (lv_at hl 2 rfl) ?_
  refine lv_iconst (v := 0) hx hb dL_brokenOf_1 (by decide) ?_
  refine lv_aload_n hx hb dL_brokenOf_2 rfl (lv_at hl 0 rfl) ?_
  refine lv_iload_n hx hb dL_brokenOf_3 rfl (lv_at hl 1 rfl) ?_
  refine xct_i (vx_runV (As := [.int x]) (rest := [.int 0, .ref (b + 133)]) ⟨hx, hb, hml, hown, hts⟩ (c_X7_brokenOf l hl0 D cy b n (by omega) M x hcnt) (cwV 1 hts gL_brokenOf_X7_brokenOf rfl rfl rfl (by decide +kernel) ⟨Nat.le_of_ble_eq_true rfl, Nat.le_of_ble_eq_true rfl⟩) (xPreV hP hK hX hS (by omega) (cell7 (by decide)) rfl) rfl rfl hl.1 rfl (lv_room (Nat.le_of_ble_eq_true rfl)) dL_brokenOf_4 ⟨Nat.le_of_ble_eq_true rfl, Nat.le_of_ble_eq_true rfl⟩) hS (fun E ce q H locs hE hP hS hc hv hcl => ?_) (fun H locs hT hP hS => ?_)
  · have hcs := tL_brokenOf M x
    rcases hE with ⟨e1, rfl⟩ | ⟨e1, rfl⟩ | ⟨e1, rfl⟩
    · refine vx_catch hown [] ⟨0, 9, 12, 19⟩ [] (by rw [htab]; rfl) (fun z hz => absurd hz List.not_mem_nil) rfl (by decide) (hts (.classLink RL 19 "java/lang/IndexOutOfBoundsException") (by decide +kernel)) (va_Nw.use rfl (hX.2.2.2.2.2.2.2.1 "java/lang/IndexOutOfBoundsException" (by decide))) hc hv hcl ?_
      refine lv_astore_n (lv' := [(3, .ref q), (0, .ref (b + 0)), (1, .int x), (2, .ref (b + 133))]) hx hb dL_brokenOf_12 rfl hl (by decide) rfl (fun ls hl => ?_)
      refine lv_iconst (v := 1) hx hb dL_brokenOf_13 (by decide) ?_
      exact xe_i hx hb hr hlocks hP hS rfl (by unfold gL_brokenOf; rw [if_neg (by rw [e1]; decide)]) (by rw [e1]; decide) (Nat.le_of_ble_eq_true rfl) (Nat.le_of_ble_eq_true rfl) dL_brokenOf_14
    · exfalso; rw [e1] at hcs; revert hcs; decide
    · exfalso; rw [e1] at hcs; revert hcs; decide
  · refine lv_i2l hx hb dL_brokenOf_7 rfl ?_
    refine xls (j := 0) (x := fX7_brokenOf M x) (o := 133) hx hb hK hP hS (by omega) (by decide) (ixIn (a := 0) rfl (by decide) (by decide)) rfl dL_brokenOf_8 (fun H locs hP hS => ?_)
    refine lv_goto (tgt := 15) hx hb dL_brokenOf_9 (by decide) ?_
    refine lv_iconst (v := 0) hx hb dL_brokenOf_15 (by decide) ?_
    exact xe_i hx hb hr hlocks hP hS rfl (by unfold gL_brokenOf; rw [if_pos hT]) (by rw [hT]; rfl) (Nat.le_of_ble_eq_true rfl) (Nat.le_of_ble_eq_true rfl) dL_brokenOf_16
def gL_wetnessOf (M : Mem) (x : Int32) : Mem := if tX7_wetnessOf M x = 0 then mU M 133 0 (fX7_wetnessOf M x) else M
theorem tL_wetnessOf (M : Mem) (x : Int32) : tX7_wetnessOf M x = 0 ∨ tX7_wetnessOf M x = 1 := by
  unfold tX7_wetnessOf tX7_instrumentAt
  (repeat' split) <;> simp_all
set_option maxHeartbeats 4000000 in
set_option maxRecDepth 100000 in
theorem c_L_wetnessOf (l : Launch) (hl0 : l.stackTraces = false) (D : va_G) (cy : Nat → ClassId) (b n : Nat) (hn : 134 ≤ n) (M : Mem) (x : Int32) (hcnt : CNT M 1) : Met l yL_wetnessOf wsL_wetnessOf ({ frames := 8, cells := 1, slots := 6, locals := 134 } : Room) (CP D cy b n fT M [.ref (b + 0), .int x, .ref (b + 133)]) (CQi D cy b n fT (cd [1] (tX7_wetnessOf M x)) (gL_wetnessOf M x)) 1 6 (fr b) := by
  refine met_ofWH (cc := cL_wetnessOf) (maxL := 4) (ret := some .int) (hh := [(0, 9, 12, 19)]) (by decide) rfl ?_
  intro p e s m args below meth c s₁ B hml hv
  obtain ⟨rfl, hP, hK, hX⟩ := hv
  have hx := B.exec
  have hb := B.bytes
  have hr := B.returns
  have hts := atoms_spec (ws := wsL_wetnessOf) B.pre
  have htab := vx_table (x := yL_wetnessOf) B (hts _ List.mem_cons_self)
  have hown : s.vm.findClass RL = some m.cls := findClass_of_methodNamed B.named
  have hlocks := B.notSynchronized
  have hS : va_S (fr b) s.heap s.heap [] := va_S.rf
  have hl := lv_entry ([.ref (b + 0), .int x, .ref (b + 133)]) (n := 4) (Nat.le_of_ble_eq_true rfl)
  rw [lg_entry_eq]
  generalize (lg_sl ([.ref (b + 0), .int x, .ref (b + 133)]) ++ List.replicate (4 - (lg_sl ([.ref (b + 0), .int x, .ref (b + 133)])).length) Slot.unset).toArray = ls at hl ⊢
  have hl : lv_has ls 4 [(0, .ref (b + 0)), (1, .int x), (2, .ref (b + 133))] := hl
  refine lv_aload_n hx hb dL_wetnessOf_0 rfl (lv_at hl 2 rfl) ?_
  refine lv_iconst (v := 0) hx hb dL_wetnessOf_1 (by decide) ?_
  refine lv_aload_n hx hb dL_wetnessOf_2 rfl (lv_at hl 0 rfl) ?_
  refine lv_iload_n hx hb dL_wetnessOf_3 rfl (lv_at hl 1 rfl) ?_
  refine xct_i (vx_runV (As := [.int x]) (rest := [.int 0, .ref (b + 133)]) ⟨hx, hb, hml, hown, hts⟩ (c_X7_wetnessOf l hl0 D cy b n (by omega) M x hcnt) (cwV 1 hts gL_wetnessOf_X7_wetnessOf rfl rfl rfl (by decide +kernel) ⟨Nat.le_of_ble_eq_true rfl, Nat.le_of_ble_eq_true rfl⟩) (xPreV hP hK hX hS (by omega) (cell7 (by decide)) rfl) rfl rfl hl.1 rfl (lv_room (Nat.le_of_ble_eq_true rfl)) dL_wetnessOf_4 ⟨Nat.le_of_ble_eq_true rfl, Nat.le_of_ble_eq_true rfl⟩) hS (fun E ce q H locs hE hP hS hc hv hcl => ?_) (fun H locs hT hP hS => ?_)
  · have hcs := tL_wetnessOf M x
    rcases hE with ⟨e1, rfl⟩ | ⟨e1, rfl⟩ | ⟨e1, rfl⟩
    · refine vx_catch hown [] ⟨0, 9, 12, 19⟩ [] (by rw [htab]; rfl) (fun z hz => absurd hz List.not_mem_nil) rfl (by decide) (hts (.classLink RL 19 "java/lang/IndexOutOfBoundsException") (by decide +kernel)) (va_Nw.use rfl (hX.2.2.2.2.2.2.2.1 "java/lang/IndexOutOfBoundsException" (by decide))) hc hv hcl ?_
      refine lv_astore_n (lv' := [(3, .ref q), (0, .ref (b + 0)), (1, .int x), (2, .ref (b + 133))]) hx hb dL_wetnessOf_12 rfl hl (by decide) rfl (fun ls hl => ?_)
      refine lv_iconst (v := 1) hx hb dL_wetnessOf_13 (by decide) ?_
      exact xe_i hx hb hr hlocks hP hS rfl (by unfold gL_wetnessOf; rw [if_neg (by rw [e1]; decide)]) (by rw [e1]; decide) (Nat.le_of_ble_eq_true rfl) (Nat.le_of_ble_eq_true rfl) dL_wetnessOf_14
    · exfalso; rw [e1] at hcs; revert hcs; decide
    · exfalso; rw [e1] at hcs; revert hcs; decide
  · refine lv_i2l hx hb dL_wetnessOf_7 rfl ?_
    refine xls (j := 0) (x := fX7_wetnessOf M x) (o := 133) hx hb hK hP hS (by omega) (by decide) (ixIn (a := 0) rfl (by decide) (by decide)) rfl dL_wetnessOf_8 (fun H locs hP hS => ?_)
    refine lv_goto (tgt := 15) hx hb dL_wetnessOf_9 (by decide) ?_
    refine lv_iconst (v := 0) hx hb dL_wetnessOf_15 (by decide) ?_
    exact xe_i hx hb hr hlocks hP hS rfl (by unfold gL_wetnessOf; rw [if_pos hT]) (by rw [hT]; rfl) (Nat.le_of_ble_eq_true rfl) (Nat.le_of_ble_eq_true rfl) dL_wetnessOf_16
def gL_slackOf (M : Mem) (x : Int32) : Mem := if tX7_slackOf M x = 0 then mU M 133 0 (fX7_slackOf M x) else M
theorem tL_slackOf (M : Mem) (x : Int32) : tX7_slackOf M x = 0 ∨ tX7_slackOf M x = 1 := by
  unfold tX7_slackOf tX7_instrumentAt
  (repeat' split) <;> simp_all
set_option maxHeartbeats 4000000 in
set_option maxRecDepth 100000 in
theorem c_L_slackOf (l : Launch) (hl0 : l.stackTraces = false) (D : va_G) (cy : Nat → ClassId) (b n : Nat) (hn : 134 ≤ n) (M : Mem) (x : Int32) (hcnt : CNT M 1) : Met l yL_slackOf wsL_slackOf ({ frames := 8, cells := 1, slots := 6, locals := 134 } : Room) (CP D cy b n fT M [.ref (b + 0), .int x, .ref (b + 133)]) (CQi D cy b n fT (cd [1] (tX7_slackOf M x)) (gL_slackOf M x)) 1 6 (fr b) := by
  refine met_ofWH (cc := cL_slackOf) (maxL := 4) (ret := some .int) (hh := [(0, 9, 12, 19)]) (by decide) rfl ?_
  intro p e s m args below meth c s₁ B hml hv
  obtain ⟨rfl, hP, hK, hX⟩ := hv
  have hx := B.exec
  have hb := B.bytes
  have hr := B.returns
  have hts := atoms_spec (ws := wsL_slackOf) B.pre
  have htab := vx_table (x := yL_slackOf) B (hts _ List.mem_cons_self)
  have hown : s.vm.findClass RL = some m.cls := findClass_of_methodNamed B.named
  have hlocks := B.notSynchronized
  have hS : va_S (fr b) s.heap s.heap [] := va_S.rf
  have hl := lv_entry ([.ref (b + 0), .int x, .ref (b + 133)]) (n := 4) (Nat.le_of_ble_eq_true rfl)
  rw [lg_entry_eq]
  generalize (lg_sl ([.ref (b + 0), .int x, .ref (b + 133)]) ++ List.replicate (4 - (lg_sl ([.ref (b + 0), .int x, .ref (b + 133)])).length) Slot.unset).toArray = ls at hl ⊢
  have hl : lv_has ls 4 [(0, .ref (b + 0)), (1, .int x), (2, .ref (b + 133))] := hl
  refine lv_aload_n hx hb dL_slackOf_0 rfl (lv_at hl 2 rfl) ?_
  refine lv_iconst (v := 0) hx hb dL_slackOf_1 (by decide) ?_
  refine lv_aload_n hx hb dL_slackOf_2 rfl (lv_at hl 0 rfl) ?_
  refine lv_iload_n hx hb dL_slackOf_3 rfl (lv_at hl 1 rfl) ?_
  refine xct_i (vx_runV (As := [.int x]) (rest := [.int 0, .ref (b + 133)]) ⟨hx, hb, hml, hown, hts⟩ (c_X7_slackOf l hl0 D cy b n (by omega) M x hcnt) (cwV 1 hts gL_slackOf_X7_slackOf rfl rfl rfl (by decide +kernel) ⟨Nat.le_of_ble_eq_true rfl, Nat.le_of_ble_eq_true rfl⟩) (xPreV hP hK hX hS (by omega) (cell7 (by decide)) rfl) rfl rfl hl.1 rfl (lv_room (Nat.le_of_ble_eq_true rfl)) dL_slackOf_4 ⟨Nat.le_of_ble_eq_true rfl, Nat.le_of_ble_eq_true rfl⟩) hS (fun E ce q H locs hE hP hS hc hv hcl => ?_) (fun H locs hT hP hS => ?_)
  · have hcs := tL_slackOf M x
    rcases hE with ⟨e1, rfl⟩ | ⟨e1, rfl⟩ | ⟨e1, rfl⟩
    · refine vx_catch hown [] ⟨0, 9, 12, 19⟩ [] (by rw [htab]; rfl) (fun z hz => absurd hz List.not_mem_nil) rfl (by decide) (hts (.classLink RL 19 "java/lang/IndexOutOfBoundsException") (by decide +kernel)) (va_Nw.use rfl (hX.2.2.2.2.2.2.2.1 "java/lang/IndexOutOfBoundsException" (by decide))) hc hv hcl ?_
      refine lv_astore_n (lv' := [(3, .ref q), (0, .ref (b + 0)), (1, .int x), (2, .ref (b + 133))]) hx hb dL_slackOf_12 rfl hl (by decide) rfl (fun ls hl => ?_)
      refine lv_iconst (v := 1) hx hb dL_slackOf_13 (by decide) ?_
      exact xe_i hx hb hr hlocks hP hS rfl (by unfold gL_slackOf; rw [if_neg (by rw [e1]; decide)]) (by rw [e1]; decide) (Nat.le_of_ble_eq_true rfl) (Nat.le_of_ble_eq_true rfl) dL_slackOf_14
    · exfalso; rw [e1] at hcs; revert hcs; decide
    · exfalso; rw [e1] at hcs; revert hcs; decide
  · refine lv_i2l hx hb dL_slackOf_7 rfl ?_
    refine xls (j := 0) (x := fX7_slackOf M x) (o := 133) hx hb hK hP hS (by omega) (by decide) (ixIn (a := 0) rfl (by decide) (by decide)) rfl dL_slackOf_8 (fun H locs hP hS => ?_)
    refine lv_goto (tgt := 15) hx hb dL_slackOf_9 (by decide) ?_
    refine lv_iconst (v := 0) hx hb dL_slackOf_15 (by decide) ?_
    exact xe_i hx hb hr hlocks hP hS rfl (by unfold gL_slackOf; rw [if_pos hT]) (by rw [hT]; rfl) (Nat.le_of_ble_eq_true rfl) (Nat.le_of_ble_eq_true rfl) dL_slackOf_16
def gL_waterOf (M : Mem) (x : Int32) : Mem := if tX7_waterOf M x = 0 then mU M 133 0 (fX7_waterOf M x) else M
theorem tL_waterOf (M : Mem) (x : Int32) : tX7_waterOf M x = 0 ∨ tX7_waterOf M x = 1 := by
  unfold tX7_waterOf tX7_instrumentAt
  (repeat' split) <;> simp_all
set_option maxHeartbeats 4000000 in
set_option maxRecDepth 100000 in
theorem c_L_waterOf (l : Launch) (hl0 : l.stackTraces = false) (D : va_G) (cy : Nat → ClassId) (b n : Nat) (hn : 134 ≤ n) (M : Mem) (x : Int32) (hcnt : CNT M 1) : Met l yL_waterOf wsL_waterOf ({ frames := 8, cells := 1, slots := 6, locals := 134 } : Room) (CP D cy b n fT M [.ref (b + 0), .int x, .ref (b + 133)]) (CQi D cy b n fT (cd [1] (tX7_waterOf M x)) (gL_waterOf M x)) 1 6 (fr b) := by
  refine met_ofWH (cc := cL_waterOf) (maxL := 4) (ret := some .int) (hh := [(0, 9, 12, 19)]) (by decide) rfl ?_
  intro p e s m args below meth c s₁ B hml hv
  obtain ⟨rfl, hP, hK, hX⟩ := hv
  have hx := B.exec
  have hb := B.bytes
  have hr := B.returns
  have hts := atoms_spec (ws := wsL_waterOf) B.pre
  have htab := vx_table (x := yL_waterOf) B (hts _ List.mem_cons_self)
  have hown : s.vm.findClass RL = some m.cls := findClass_of_methodNamed B.named
  have hlocks := B.notSynchronized
  have hS : va_S (fr b) s.heap s.heap [] := va_S.rf
  have hl := lv_entry ([.ref (b + 0), .int x, .ref (b + 133)]) (n := 4) (Nat.le_of_ble_eq_true rfl)
  rw [lg_entry_eq]
  generalize (lg_sl ([.ref (b + 0), .int x, .ref (b + 133)]) ++ List.replicate (4 - (lg_sl ([.ref (b + 0), .int x, .ref (b + 133)])).length) Slot.unset).toArray = ls at hl ⊢
  have hl : lv_has ls 4 [(0, .ref (b + 0)), (1, .int x), (2, .ref (b + 133))] := hl
  refine lv_aload_n hx hb dL_waterOf_0 rfl (lv_at hl 2 rfl) ?_
  refine lv_iconst (v := 0) hx hb dL_waterOf_1 (by decide) ?_
  refine lv_aload_n hx hb dL_waterOf_2 rfl (lv_at hl 0 rfl) ?_
  refine lv_iload_n hx hb dL_waterOf_3 rfl (lv_at hl 1 rfl) ?_
  refine xct_i (vx_runV (As := [.int x]) (rest := [.int 0, .ref (b + 133)]) ⟨hx, hb, hml, hown, hts⟩ (c_X7_waterOf l hl0 D cy b n (by omega) M x hcnt) (cwV 1 hts gL_waterOf_X7_waterOf rfl rfl rfl (by decide +kernel) ⟨Nat.le_of_ble_eq_true rfl, Nat.le_of_ble_eq_true rfl⟩) (xPreV hP hK hX hS (by omega) (cell7 (by decide)) rfl) rfl rfl hl.1 rfl (lv_room (Nat.le_of_ble_eq_true rfl)) dL_waterOf_4 ⟨Nat.le_of_ble_eq_true rfl, Nat.le_of_ble_eq_true rfl⟩) hS (fun E ce q H locs hE hP hS hc hv hcl => ?_) (fun H locs hT hP hS => ?_)
  · have hcs := tL_waterOf M x
    rcases hE with ⟨e1, rfl⟩ | ⟨e1, rfl⟩ | ⟨e1, rfl⟩
    · refine vx_catch hown [] ⟨0, 9, 12, 19⟩ [] (by rw [htab]; rfl) (fun z hz => absurd hz List.not_mem_nil) rfl (by decide) (hts (.classLink RL 19 "java/lang/IndexOutOfBoundsException") (by decide +kernel)) (va_Nw.use rfl (hX.2.2.2.2.2.2.2.1 "java/lang/IndexOutOfBoundsException" (by decide))) hc hv hcl ?_
      refine lv_astore_n (lv' := [(3, .ref q), (0, .ref (b + 0)), (1, .int x), (2, .ref (b + 133))]) hx hb dL_waterOf_12 rfl hl (by decide) rfl (fun ls hl => ?_)
      refine lv_iconst (v := 1) hx hb dL_waterOf_13 (by decide) ?_
      exact xe_i hx hb hr hlocks hP hS rfl (by unfold gL_waterOf; rw [if_neg (by rw [e1]; decide)]) (by rw [e1]; decide) (Nat.le_of_ble_eq_true rfl) (Nat.le_of_ble_eq_true rfl) dL_waterOf_14
    · exfalso; rw [e1] at hcs; revert hcs; decide
    · exfalso; rw [e1] at hcs; revert hcs; decide
  · refine lv_i2l hx hb dL_waterOf_7 rfl ?_
    refine xls (j := 0) (x := fX7_waterOf M x) (o := 133) hx hb hK hP hS (by omega) (by decide) (ixIn (a := 0) rfl (by decide) (by decide)) rfl dL_waterOf_8 (fun H locs hP hS => ?_)
    refine lv_goto (tgt := 15) hx hb dL_waterOf_9 (by decide) ?_
    refine lv_iconst (v := 0) hx hb dL_waterOf_15 (by decide) ?_
    exact xe_i hx hb hr hlocks hP hS rfl (by unfold gL_waterOf; rw [if_pos hT]) (by rw [hT]; rfl) (Nat.le_of_ble_eq_true rfl) (Nat.le_of_ble_eq_true rfl) dL_waterOf_16
def gL_depressionOf (M : Mem) (x : Int32) : Mem := if tX7_depressionOf M x = 0 then mU M 133 0 (fX7_depressionOf M x) else M
theorem tL_depressionOf (M : Mem) (x : Int32) : tX7_depressionOf M x = 0 ∨ tX7_depressionOf M x = 1 := by
  unfold tX7_depressionOf tX7_instrumentAt
  (repeat' split) <;> simp_all
set_option maxHeartbeats 4000000 in
set_option maxRecDepth 100000 in
theorem c_L_depressionOf (l : Launch) (hl0 : l.stackTraces = false) (D : va_G) (cy : Nat → ClassId) (b n : Nat) (hn : 134 ≤ n) (M : Mem) (x : Int32) (hcnt : CNT M 1) : Met l yL_depressionOf wsL_depressionOf ({ frames := 8, cells := 1, slots := 6, locals := 134 } : Room) (CP D cy b n fT M [.ref (b + 0), .int x, .ref (b + 133)]) (CQi D cy b n fT (cd [1] (tX7_depressionOf M x)) (gL_depressionOf M x)) 1 6 (fr b) := by
  refine met_ofWH (cc := cL_depressionOf) (maxL := 4) (ret := some .int) (hh := [(0, 9, 12, 19)]) (by decide) rfl ?_
  intro p e s m args below meth c s₁ B hml hv
  obtain ⟨rfl, hP, hK, hX⟩ := hv
  have hx := B.exec
  have hb := B.bytes
  have hr := B.returns
  have hts := atoms_spec (ws := wsL_depressionOf) B.pre
  have htab := vx_table (x := yL_depressionOf) B (hts _ List.mem_cons_self)
  have hown : s.vm.findClass RL = some m.cls := findClass_of_methodNamed B.named
  have hlocks := B.notSynchronized
  have hS : va_S (fr b) s.heap s.heap [] := va_S.rf
  have hl := lv_entry ([.ref (b + 0), .int x, .ref (b + 133)]) (n := 4) (Nat.le_of_ble_eq_true rfl)
  rw [lg_entry_eq]
  generalize (lg_sl ([.ref (b + 0), .int x, .ref (b + 133)]) ++ List.replicate (4 - (lg_sl ([.ref (b + 0), .int x, .ref (b + 133)])).length) Slot.unset).toArray = ls at hl ⊢
  have hl : lv_has ls 4 [(0, .ref (b + 0)), (1, .int x), (2, .ref (b + 133))] := hl
  refine lv_aload_n hx hb dL_depressionOf_0 rfl (lv_at hl 2 rfl) ?_
  refine lv_iconst (v := 0) hx hb dL_depressionOf_1 (by decide) ?_
  refine lv_aload_n hx hb dL_depressionOf_2 rfl (lv_at hl 0 rfl) ?_
  refine lv_iload_n hx hb dL_depressionOf_3 rfl (lv_at hl 1 rfl) ?_
  refine xct_i (vx_runV (As := [.int x]) (rest := [.int 0, .ref (b + 133)]) ⟨hx, hb, hml, hown, hts⟩ (c_X7_depressionOf l hl0 D cy b n (by omega) M x hcnt) (cwV 1 hts gL_depressionOf_X7_depressionOf rfl rfl rfl (by decide +kernel) ⟨Nat.le_of_ble_eq_true rfl, Nat.le_of_ble_eq_true rfl⟩) (xPreV hP hK hX hS (by omega) (cell7 (by decide)) rfl) rfl rfl hl.1 rfl (lv_room (Nat.le_of_ble_eq_true rfl)) dL_depressionOf_4 ⟨Nat.le_of_ble_eq_true rfl, Nat.le_of_ble_eq_true rfl⟩) hS (fun E ce q H locs hE hP hS hc hv hcl => ?_) (fun H locs hT hP hS => ?_)
  · have hcs := tL_depressionOf M x
    rcases hE with ⟨e1, rfl⟩ | ⟨e1, rfl⟩ | ⟨e1, rfl⟩
    · refine vx_catch hown [] ⟨0, 9, 12, 19⟩ [] (by rw [htab]; rfl) (fun z hz => absurd hz List.not_mem_nil) rfl (by decide) (hts (.classLink RL 19 "java/lang/IndexOutOfBoundsException") (by decide +kernel)) (va_Nw.use rfl (hX.2.2.2.2.2.2.2.1 "java/lang/IndexOutOfBoundsException" (by decide))) hc hv hcl ?_
      refine lv_astore_n (lv' := [(3, .ref q), (0, .ref (b + 0)), (1, .int x), (2, .ref (b + 133))]) hx hb dL_depressionOf_12 rfl hl (by decide) rfl (fun ls hl => ?_)
      refine lv_iconst (v := 1) hx hb dL_depressionOf_13 (by decide) ?_
      exact xe_i hx hb hr hlocks hP hS rfl (by unfold gL_depressionOf; rw [if_neg (by rw [e1]; decide)]) (by rw [e1]; decide) (Nat.le_of_ble_eq_true rfl) (Nat.le_of_ble_eq_true rfl) dL_depressionOf_14
    · exfalso; rw [e1] at hcs; revert hcs; decide
    · exfalso; rw [e1] at hcs; revert hcs; decide
  · refine lv_i2l hx hb dL_depressionOf_7 rfl ?_
    refine xls (j := 0) (x := fX7_depressionOf M x) (o := 133) hx hb hK hP hS (by omega) (by decide) (ixIn (a := 0) rfl (by decide) (by decide)) rfl dL_depressionOf_8 (fun H locs hP hS => ?_)
    refine lv_goto (tgt := 15) hx hb dL_depressionOf_9 (by decide) ?_
    refine lv_iconst (v := 0) hx hb dL_depressionOf_15 (by decide) ?_
    exact xe_i hx hb hr hlocks hP hS rfl (by unfold gL_depressionOf; rw [if_pos hT]) (by rw [hT]; rfl) (Nat.le_of_ble_eq_true rfl) (Nat.le_of_ble_eq_true rfl) dL_depressionOf_16
def gL_zeroOf (M : Mem) (x : Int32) : Mem := if tX7_zeroOf M x = 0 then mU M 133 0 (fX7_zeroOf M x) else M
theorem tL_zeroOf (M : Mem) (x : Int32) : tX7_zeroOf M x = 0 ∨ tX7_zeroOf M x = 1 := by
  unfold tX7_zeroOf tX7_instrumentAt
  (repeat' split) <;> simp_all
set_option maxHeartbeats 4000000 in
set_option maxRecDepth 100000 in
theorem c_L_zeroOf (l : Launch) (hl0 : l.stackTraces = false) (D : va_G) (cy : Nat → ClassId) (b n : Nat) (hn : 134 ≤ n) (M : Mem) (x : Int32) (hcnt : CNT M 1) : Met l yL_zeroOf wsL_zeroOf ({ frames := 8, cells := 1, slots := 6, locals := 133 } : Room) (CP D cy b n fT M [.ref (b + 0), .int x, .ref (b + 133)]) (CQi D cy b n fT (cd [1] (tX7_zeroOf M x)) (gL_zeroOf M x)) 1 6 (fr b) := by
  refine met_ofWH (cc := cL_zeroOf) (maxL := 4) (ret := some .int) (hh := [(0, 9, 12, 19)]) (by decide) rfl ?_
  intro p e s m args below meth c s₁ B hml hv
  obtain ⟨rfl, hP, hK, hX⟩ := hv
  have hx := B.exec
  have hb := B.bytes
  have hr := B.returns
  have hts := atoms_spec (ws := wsL_zeroOf) B.pre
  have htab := vx_table (x := yL_zeroOf) B (hts _ List.mem_cons_self)
  have hown : s.vm.findClass RL = some m.cls := findClass_of_methodNamed B.named
  have hlocks := B.notSynchronized
  have hS : va_S (fr b) s.heap s.heap [] := va_S.rf
  have hl := lv_entry ([.ref (b + 0), .int x, .ref (b + 133)]) (n := 4) (Nat.le_of_ble_eq_true rfl)
  rw [lg_entry_eq]
  generalize (lg_sl ([.ref (b + 0), .int x, .ref (b + 133)]) ++ List.replicate (4 - (lg_sl ([.ref (b + 0), .int x, .ref (b + 133)])).length) Slot.unset).toArray = ls at hl ⊢
  have hl : lv_has ls 4 [(0, .ref (b + 0)), (1, .int x), (2, .ref (b + 133))] := hl
  refine lv_aload_n hx hb dL_zeroOf_0 rfl (lv_at hl 2 rfl) ?_
  refine lv_iconst (v := 0) hx hb dL_zeroOf_1 (by decide) ?_
  refine lv_aload_n hx hb dL_zeroOf_2 rfl (lv_at hl 0 rfl) ?_
  refine lv_iload_n hx hb dL_zeroOf_3 rfl (lv_at hl 1 rfl) ?_
  refine xct_i (vx_runV (As := [.int x]) (rest := [.int 0, .ref (b + 133)]) ⟨hx, hb, hml, hown, hts⟩ (c_X7_zeroOf l hl0 D cy b n (by omega) M x hcnt) (cwV 1 hts gL_zeroOf_X7_zeroOf rfl rfl rfl (by decide +kernel) ⟨Nat.le_of_ble_eq_true rfl, Nat.le_of_ble_eq_true rfl⟩) (xPreV hP hK hX hS (by omega) (cell7 (by decide)) rfl) rfl rfl hl.1 rfl (lv_room (Nat.le_of_ble_eq_true rfl)) dL_zeroOf_4 ⟨Nat.le_of_ble_eq_true rfl, Nat.le_of_ble_eq_true rfl⟩) hS (fun E ce q H locs hE hP hS hc hv hcl => ?_) (fun H locs hT hP hS => ?_)
  · have hcs := tL_zeroOf M x
    rcases hE with ⟨e1, rfl⟩ | ⟨e1, rfl⟩ | ⟨e1, rfl⟩
    · refine vx_catch hown [] ⟨0, 9, 12, 19⟩ [] (by rw [htab]; rfl) (fun z hz => absurd hz List.not_mem_nil) rfl (by decide) (hts (.classLink RL 19 "java/lang/IndexOutOfBoundsException") (by decide +kernel)) (va_Nw.use rfl (hX.2.2.2.2.2.2.2.1 "java/lang/IndexOutOfBoundsException" (by decide))) hc hv hcl ?_
      refine lv_astore_n (lv' := [(3, .ref q), (0, .ref (b + 0)), (1, .int x), (2, .ref (b + 133))]) hx hb dL_zeroOf_12 rfl hl (by decide) rfl (fun ls hl => ?_)
      refine lv_iconst (v := 1) hx hb dL_zeroOf_13 (by decide) ?_
      exact xe_i hx hb hr hlocks hP hS rfl (by unfold gL_zeroOf; rw [if_neg (by rw [e1]; decide)]) (by rw [e1]; decide) (Nat.le_of_ble_eq_true rfl) (Nat.le_of_ble_eq_true rfl) dL_zeroOf_14
    · exfalso; rw [e1] at hcs; revert hcs; decide
    · exfalso; rw [e1] at hcs; revert hcs; decide
  · refine lv_i2l hx hb dL_zeroOf_7 rfl ?_
    refine xls (j := 0) (x := fX7_zeroOf M x) (o := 133) hx hb hK hP hS (by omega) (by decide) (ixIn (a := 0) rfl (by decide) (by decide)) rfl dL_zeroOf_8 (fun H locs hP hS => ?_)
    refine lv_goto (tgt := 15) hx hb dL_zeroOf_9 (by decide) ?_
    refine lv_iconst (v := 0) hx hb dL_zeroOf_15 (by decide) ?_
    exact xe_i hx hb hr hlocks hP hS rfl (by unfold gL_zeroOf; rw [if_pos hT]) (by rw [hT]; rfl) (Nat.le_of_ble_eq_true rfl) (Nat.le_of_ble_eq_true rfl) dL_zeroOf_16
def gL_boxOf (M : Mem) (x : Int32) : Mem := if tX7_boxOf M x = 0 then mU M 133 0 (fX7_boxOf M x) else M
theorem tL_boxOf (M : Mem) (x : Int32) : tX7_boxOf M x = 0 ∨ tX7_boxOf M x = 1 := by
  unfold tX7_boxOf tX7_instrumentAt
  (repeat' split) <;> simp_all
set_option maxHeartbeats 4000000 in
set_option maxRecDepth 100000 in
theorem c_L_boxOf (l : Launch) (hl0 : l.stackTraces = false) (D : va_G) (cy : Nat → ClassId) (b n : Nat) (hn : 134 ≤ n) (M : Mem) (x : Int32) (hcnt : CNT M 1) : Met l yL_boxOf wsL_boxOf ({ frames := 8, cells := 1, slots := 6, locals := 133 } : Room) (CP D cy b n fT M [.ref (b + 0), .int x, .ref (b + 133)]) (CQi D cy b n fT (cd [1] (tX7_boxOf M x)) (gL_boxOf M x)) 1 6 (fr b) := by
  refine met_ofWH (cc := cL_boxOf) (maxL := 4) (ret := some .int) (hh := [(0, 9, 12, 19)]) (by decide) rfl ?_
  intro p e s m args below meth c s₁ B hml hv
  obtain ⟨rfl, hP, hK, hX⟩ := hv
  have hx := B.exec
  have hb := B.bytes
  have hr := B.returns
  have hts := atoms_spec (ws := wsL_boxOf) B.pre
  have htab := vx_table (x := yL_boxOf) B (hts _ List.mem_cons_self)
  have hown : s.vm.findClass RL = some m.cls := findClass_of_methodNamed B.named
  have hlocks := B.notSynchronized
  have hS : va_S (fr b) s.heap s.heap [] := va_S.rf
  have hl := lv_entry ([.ref (b + 0), .int x, .ref (b + 133)]) (n := 4) (Nat.le_of_ble_eq_true rfl)
  rw [lg_entry_eq]
  generalize (lg_sl ([.ref (b + 0), .int x, .ref (b + 133)]) ++ List.replicate (4 - (lg_sl ([.ref (b + 0), .int x, .ref (b + 133)])).length) Slot.unset).toArray = ls at hl ⊢
  have hl : lv_has ls 4 [(0, .ref (b + 0)), (1, .int x), (2, .ref (b + 133))] := hl
  refine lv_aload_n hx hb dL_boxOf_0 rfl (lv_at hl 2 rfl) ?_
  refine lv_iconst (v := 0) hx hb dL_boxOf_1 (by decide) ?_
  refine lv_aload_n hx hb dL_boxOf_2 rfl (lv_at hl 0 rfl) ?_
  refine lv_iload_n hx hb dL_boxOf_3 rfl (lv_at hl 1 rfl) ?_
  refine xct_i (vx_runV (As := [.int x]) (rest := [.int 0, .ref (b + 133)]) ⟨hx, hb, hml, hown, hts⟩ (c_X7_boxOf l hl0 D cy b n (by omega) M x hcnt) (cwV 1 hts gL_boxOf_X7_boxOf rfl rfl rfl (by decide +kernel) ⟨Nat.le_of_ble_eq_true rfl, Nat.le_of_ble_eq_true rfl⟩) (xPreV hP hK hX hS (by omega) (cell7 (by decide)) rfl) rfl rfl hl.1 rfl (lv_room (Nat.le_of_ble_eq_true rfl)) dL_boxOf_4 ⟨Nat.le_of_ble_eq_true rfl, Nat.le_of_ble_eq_true rfl⟩) hS (fun E ce q H locs hE hP hS hc hv hcl => ?_) (fun H locs hT hP hS => ?_)
  · have hcs := tL_boxOf M x
    rcases hE with ⟨e1, rfl⟩ | ⟨e1, rfl⟩ | ⟨e1, rfl⟩
    · refine vx_catch hown [] ⟨0, 9, 12, 19⟩ [] (by rw [htab]; rfl) (fun z hz => absurd hz List.not_mem_nil) rfl (by decide) (hts (.classLink RL 19 "java/lang/IndexOutOfBoundsException") (by decide +kernel)) (va_Nw.use rfl (hX.2.2.2.2.2.2.2.1 "java/lang/IndexOutOfBoundsException" (by decide))) hc hv hcl ?_
      refine lv_astore_n (lv' := [(3, .ref q), (0, .ref (b + 0)), (1, .int x), (2, .ref (b + 133))]) hx hb dL_boxOf_12 rfl hl (by decide) rfl (fun ls hl => ?_)
      refine lv_iconst (v := 1) hx hb dL_boxOf_13 (by decide) ?_
      exact xe_i hx hb hr hlocks hP hS rfl (by unfold gL_boxOf; rw [if_neg (by rw [e1]; decide)]) (by rw [e1]; decide) (Nat.le_of_ble_eq_true rfl) (Nat.le_of_ble_eq_true rfl) dL_boxOf_14
    · exfalso; rw [e1] at hcs; revert hcs; decide
    · exfalso; rw [e1] at hcs; revert hcs; decide
  · refine lv_i2l hx hb dL_boxOf_7 rfl ?_
    refine xls (j := 0) (x := fX7_boxOf M x) (o := 133) hx hb hK hP hS (by omega) (by decide) (ixIn (a := 0) rfl (by decide) (by decide)) rfl dL_boxOf_8 (fun H locs hP hS => ?_)
    refine lv_goto (tgt := 15) hx hb dL_boxOf_9 (by decide) ?_
    refine lv_iconst (v := 0) hx hb dL_boxOf_15 (by decide) ?_
    exact xe_i hx hb hr hlocks hP hS rfl (by unfold gL_boxOf; rw [if_pos hT]) (by rw [hT]; rfl) (Nat.le_of_ble_eq_true rfl) (Nat.le_of_ble_eq_true rfl) dL_boxOf_16
def gL_surroundingOf (M : Mem) (x : Int32) : Mem := if tX7_surroundingOf M x = 0 then mU M 133 0 (fX7_surroundingOf M x) else M
theorem tL_surroundingOf (M : Mem) (x : Int32) : tX7_surroundingOf M x = 0 ∨ tX7_surroundingOf M x = 1 := by
  unfold tX7_surroundingOf tX7_instrumentAt
  (repeat' split) <;> simp_all
set_option maxHeartbeats 4000000 in
set_option maxRecDepth 100000 in
theorem c_L_surroundingOf (l : Launch) (hl0 : l.stackTraces = false) (D : va_G) (cy : Nat → ClassId) (b n : Nat) (hn : 134 ≤ n) (M : Mem) (x : Int32) (hcnt : CNT M 1) : Met l yL_surroundingOf wsL_surroundingOf ({ frames := 8, cells := 1, slots := 6, locals := 133 } : Room) (CP D cy b n fT M [.ref (b + 0), .int x, .ref (b + 133)]) (CQi D cy b n fT (cd [1] (tX7_surroundingOf M x)) (gL_surroundingOf M x)) 1 6 (fr b) := by
  refine met_ofWH (cc := cL_surroundingOf) (maxL := 4) (ret := some .int) (hh := [(0, 9, 12, 19)]) (by decide) rfl ?_
  intro p e s m args below meth c s₁ B hml hv
  obtain ⟨rfl, hP, hK, hX⟩ := hv
  have hx := B.exec
  have hb := B.bytes
  have hr := B.returns
  have hts := atoms_spec (ws := wsL_surroundingOf) B.pre
  have htab := vx_table (x := yL_surroundingOf) B (hts _ List.mem_cons_self)
  have hown : s.vm.findClass RL = some m.cls := findClass_of_methodNamed B.named
  have hlocks := B.notSynchronized
  have hS : va_S (fr b) s.heap s.heap [] := va_S.rf
  have hl := lv_entry ([.ref (b + 0), .int x, .ref (b + 133)]) (n := 4) (Nat.le_of_ble_eq_true rfl)
  rw [lg_entry_eq]
  generalize (lg_sl ([.ref (b + 0), .int x, .ref (b + 133)]) ++ List.replicate (4 - (lg_sl ([.ref (b + 0), .int x, .ref (b + 133)])).length) Slot.unset).toArray = ls at hl ⊢
  have hl : lv_has ls 4 [(0, .ref (b + 0)), (1, .int x), (2, .ref (b + 133))] := hl
  refine lv_aload_n hx hb dL_surroundingOf_0 rfl (lv_at hl 2 rfl) ?_
  refine lv_iconst (v := 0) hx hb dL_surroundingOf_1 (by decide) ?_
  refine lv_aload_n hx hb dL_surroundingOf_2 rfl (lv_at hl 0 rfl) ?_
  refine lv_iload_n hx hb dL_surroundingOf_3 rfl (lv_at hl 1 rfl) ?_
  refine xct_i (vx_runV (As := [.int x]) (rest := [.int 0, .ref (b + 133)]) ⟨hx, hb, hml, hown, hts⟩ (c_X7_surroundingOf l hl0 D cy b n (by omega) M x hcnt) (cwV 1 hts gL_surroundingOf_X7_surroundingOf rfl rfl rfl (by decide +kernel) ⟨Nat.le_of_ble_eq_true rfl, Nat.le_of_ble_eq_true rfl⟩) (xPreV hP hK hX hS (by omega) (cell7 (by decide)) rfl) rfl rfl hl.1 rfl (lv_room (Nat.le_of_ble_eq_true rfl)) dL_surroundingOf_4 ⟨Nat.le_of_ble_eq_true rfl, Nat.le_of_ble_eq_true rfl⟩) hS (fun E ce q H locs hE hP hS hc hv hcl => ?_) (fun H locs hT hP hS => ?_)
  · have hcs := tL_surroundingOf M x
    rcases hE with ⟨e1, rfl⟩ | ⟨e1, rfl⟩ | ⟨e1, rfl⟩
    · refine vx_catch hown [] ⟨0, 9, 12, 19⟩ [] (by rw [htab]; rfl) (fun z hz => absurd hz List.not_mem_nil) rfl (by decide) (hts (.classLink RL 19 "java/lang/IndexOutOfBoundsException") (by decide +kernel)) (va_Nw.use rfl (hX.2.2.2.2.2.2.2.1 "java/lang/IndexOutOfBoundsException" (by decide))) hc hv hcl ?_
      refine lv_astore_n (lv' := [(3, .ref q), (0, .ref (b + 0)), (1, .int x), (2, .ref (b + 133))]) hx hb dL_surroundingOf_12 rfl hl (by decide) rfl (fun ls hl => ?_)
      refine lv_iconst (v := 1) hx hb dL_surroundingOf_13 (by decide) ?_
      exact xe_i hx hb hr hlocks hP hS rfl (by unfold gL_surroundingOf; rw [if_neg (by rw [e1]; decide)]) (by rw [e1]; decide) (Nat.le_of_ble_eq_true rfl) (Nat.le_of_ble_eq_true rfl) dL_surroundingOf_14
    · exfalso; rw [e1] at hcs; revert hcs; decide
    · exfalso; rw [e1] at hcs; revert hcs; decide
  · refine lv_i2l hx hb dL_surroundingOf_7 rfl ?_
    refine xls (j := 0) (x := fX7_surroundingOf M x) (o := 133) hx hb hK hP hS (by omega) (by decide) (ixIn (a := 0) rfl (by decide) (by decide)) rfl dL_surroundingOf_8 (fun H locs hP hS => ?_)
    refine lv_goto (tgt := 15) hx hb dL_surroundingOf_9 (by decide) ?_
    refine lv_iconst (v := 0) hx hb dL_surroundingOf_15 (by decide) ?_
    exact xe_i hx hb hr hlocks hP hS rfl (by unfold gL_surroundingOf; rw [if_pos hT]) (by rw [hT]; rfl) (Nat.le_of_ble_eq_true rfl) (Nat.le_of_ble_eq_true rfl) dL_surroundingOf_16
def gL_rawValue (M : Mem) (x : Int32) : Mem := if tX7_rawValue M x = 0 then mU M 133 0 (fX7_rawValue M x) else M
theorem tL_rawValue (M : Mem) (x : Int32) : tX7_rawValue M x = 0 ∨ tX7_rawValue M x = 1 := by
  unfold tX7_rawValue tX7_instrumentAt
  (repeat' split) <;> simp_all
set_option maxHeartbeats 4000000 in
set_option maxRecDepth 100000 in
theorem c_L_rawValue (l : Launch) (hl0 : l.stackTraces = false) (D : va_G) (cy : Nat → ClassId) (b n : Nat) (hn : 134 ≤ n) (M : Mem) (x : Int32) (hcnt : CNT M 1) : Met l yL_rawValue wsL_rawValue ({ frames := 8, cells := 1, slots := 6, locals := 133 } : Room) (CP D cy b n fT M [.ref (b + 0), .int x, .ref (b + 133)]) (CQi D cy b n fT (cd [1] (tX7_rawValue M x)) (gL_rawValue M x)) 1 6 (fr b) := by
  refine met_ofWH (cc := cL_rawValue) (maxL := 4) (ret := some .int) (hh := [(0, 9, 12, 19)]) (by decide) rfl ?_
  intro p e s m args below meth c s₁ B hml hv
  obtain ⟨rfl, hP, hK, hX⟩ := hv
  have hx := B.exec
  have hb := B.bytes
  have hr := B.returns
  have hts := atoms_spec (ws := wsL_rawValue) B.pre
  have htab := vx_table (x := yL_rawValue) B (hts _ List.mem_cons_self)
  have hown : s.vm.findClass RL = some m.cls := findClass_of_methodNamed B.named
  have hlocks := B.notSynchronized
  have hS : va_S (fr b) s.heap s.heap [] := va_S.rf
  have hl := lv_entry ([.ref (b + 0), .int x, .ref (b + 133)]) (n := 4) (Nat.le_of_ble_eq_true rfl)
  rw [lg_entry_eq]
  generalize (lg_sl ([.ref (b + 0), .int x, .ref (b + 133)]) ++ List.replicate (4 - (lg_sl ([.ref (b + 0), .int x, .ref (b + 133)])).length) Slot.unset).toArray = ls at hl ⊢
  have hl : lv_has ls 4 [(0, .ref (b + 0)), (1, .int x), (2, .ref (b + 133))] := hl
  refine lv_aload_n hx hb dL_rawValue_0 rfl (lv_at hl 2 rfl) ?_
  refine lv_iconst (v := 0) hx hb dL_rawValue_1 (by decide) ?_
  refine lv_aload_n hx hb dL_rawValue_2 rfl (lv_at hl 0 rfl) ?_
  refine lv_iload_n hx hb dL_rawValue_3 rfl (lv_at hl 1 rfl) ?_
  refine xct_i (vx_runV (As := [.int x]) (rest := [.int 0, .ref (b + 133)]) ⟨hx, hb, hml, hown, hts⟩ (c_X7_rawValue l hl0 D cy b n (by omega) M x hcnt) (cwV 1 hts gL_rawValue_X7_rawValue rfl rfl rfl (by decide +kernel) ⟨Nat.le_of_ble_eq_true rfl, Nat.le_of_ble_eq_true rfl⟩) (xPreV hP hK hX hS (by omega) (cell7 (by decide)) rfl) rfl rfl hl.1 rfl (lv_room (Nat.le_of_ble_eq_true rfl)) dL_rawValue_4 ⟨Nat.le_of_ble_eq_true rfl, Nat.le_of_ble_eq_true rfl⟩) hS (fun E ce q H locs hE hP hS hc hv hcl => ?_) (fun H locs hT hP hS => ?_)
  · have hcs := tL_rawValue M x
    rcases hE with ⟨e1, rfl⟩ | ⟨e1, rfl⟩ | ⟨e1, rfl⟩
    · refine vx_catch hown [] ⟨0, 9, 12, 19⟩ [] (by rw [htab]; rfl) (fun z hz => absurd hz List.not_mem_nil) rfl (by decide) (hts (.classLink RL 19 "java/lang/IndexOutOfBoundsException") (by decide +kernel)) (va_Nw.use rfl (hX.2.2.2.2.2.2.2.1 "java/lang/IndexOutOfBoundsException" (by decide))) hc hv hcl ?_
      refine lv_astore_n (lv' := [(3, .ref q), (0, .ref (b + 0)), (1, .int x), (2, .ref (b + 133))]) hx hb dL_rawValue_12 rfl hl (by decide) rfl (fun ls hl => ?_)
      refine lv_iconst (v := 1) hx hb dL_rawValue_13 (by decide) ?_
      exact xe_i hx hb hr hlocks hP hS rfl (by unfold gL_rawValue; rw [if_neg (by rw [e1]; decide)]) (by rw [e1]; decide) (Nat.le_of_ble_eq_true rfl) (Nat.le_of_ble_eq_true rfl) dL_rawValue_14
    · exfalso; rw [e1] at hcs; revert hcs; decide
    · exfalso; rw [e1] at hcs; revert hcs; decide
  · refine lv_i2l hx hb dL_rawValue_7 rfl ?_
    refine xls (j := 0) (x := fX7_rawValue M x) (o := 133) hx hb hK hP hS (by omega) (by decide) (ixIn (a := 0) rfl (by decide) (by decide)) rfl dL_rawValue_8 (fun H locs hP hS => ?_)
    refine lv_goto (tgt := 15) hx hb dL_rawValue_9 (by decide) ?_
    refine lv_iconst (v := 0) hx hb dL_rawValue_15 (by decide) ?_
    exact xe_i hx hb hr hlocks hP hS rfl (by unfold gL_rawValue; rw [if_pos hT]) (by rw [hT]; rfl) (Nat.le_of_ble_eq_true rfl) (Nat.le_of_ble_eq_true rfl) dL_rawValue_16
def gL_readingOf (M : Mem) (x : Int32) : Mem := if tX7_readingOf M x = 0 then mU M 133 0 (fX7_readingOf M x) else M
theorem tL_readingOf (M : Mem) (x : Int32) : tX7_readingOf M x = 0 ∨ tX7_readingOf M x = 1 := by
  unfold tX7_readingOf tX7_instrumentAt
  (repeat' split) <;> simp_all
set_option maxHeartbeats 4000000 in
set_option maxRecDepth 100000 in
theorem c_L_readingOf (l : Launch) (hl0 : l.stackTraces = false) (D : va_G) (cy : Nat → ClassId) (b n : Nat) (hn : 134 ≤ n) (M : Mem) (x : Int32) (hcnt : CNT M 1) : Met l yL_readingOf wsL_readingOf ({ frames := 8, cells := 1, slots := 6, locals := 133 } : Room) (CP D cy b n fT M [.ref (b + 0), .int x, .ref (b + 133)]) (CQi D cy b n fT (cd [1] (tX7_readingOf M x)) (gL_readingOf M x)) 1 6 (fr b) := by
  refine met_ofWH (cc := cL_readingOf) (maxL := 4) (ret := some .int) (hh := [(0, 9, 12, 19)]) (by decide) rfl ?_
  intro p e s m args below meth c s₁ B hml hv
  obtain ⟨rfl, hP, hK, hX⟩ := hv
  have hx := B.exec
  have hb := B.bytes
  have hr := B.returns
  have hts := atoms_spec (ws := wsL_readingOf) B.pre
  have htab := vx_table (x := yL_readingOf) B (hts _ List.mem_cons_self)
  have hown : s.vm.findClass RL = some m.cls := findClass_of_methodNamed B.named
  have hlocks := B.notSynchronized
  have hS : va_S (fr b) s.heap s.heap [] := va_S.rf
  have hl := lv_entry ([.ref (b + 0), .int x, .ref (b + 133)]) (n := 4) (Nat.le_of_ble_eq_true rfl)
  rw [lg_entry_eq]
  generalize (lg_sl ([.ref (b + 0), .int x, .ref (b + 133)]) ++ List.replicate (4 - (lg_sl ([.ref (b + 0), .int x, .ref (b + 133)])).length) Slot.unset).toArray = ls at hl ⊢
  have hl : lv_has ls 4 [(0, .ref (b + 0)), (1, .int x), (2, .ref (b + 133))] := hl
  refine lv_aload_n hx hb dL_readingOf_0 rfl (lv_at hl 2 rfl) ?_
  refine lv_iconst (v := 0) hx hb dL_readingOf_1 (by decide) ?_
  refine lv_aload_n hx hb dL_readingOf_2 rfl (lv_at hl 0 rfl) ?_
  refine lv_iload_n hx hb dL_readingOf_3 rfl (lv_at hl 1 rfl) ?_
  refine xct_i (vx_runV (As := [.int x]) (rest := [.int 0, .ref (b + 133)]) ⟨hx, hb, hml, hown, hts⟩ (c_X7_readingOf l hl0 D cy b n (by omega) M x hcnt) (cwV 1 hts gL_readingOf_X7_readingOf rfl rfl rfl (by decide +kernel) ⟨Nat.le_of_ble_eq_true rfl, Nat.le_of_ble_eq_true rfl⟩) (xPreV hP hK hX hS (by omega) (cell7 (by decide)) rfl) rfl rfl hl.1 rfl (lv_room (Nat.le_of_ble_eq_true rfl)) dL_readingOf_4 ⟨Nat.le_of_ble_eq_true rfl, Nat.le_of_ble_eq_true rfl⟩) hS (fun E ce q H locs hE hP hS hc hv hcl => ?_) (fun H locs hT hP hS => ?_)
  · have hcs := tL_readingOf M x
    rcases hE with ⟨e1, rfl⟩ | ⟨e1, rfl⟩ | ⟨e1, rfl⟩
    · refine vx_catch hown [] ⟨0, 9, 12, 19⟩ [] (by rw [htab]; rfl) (fun z hz => absurd hz List.not_mem_nil) rfl (by decide) (hts (.classLink RL 19 "java/lang/IndexOutOfBoundsException") (by decide +kernel)) (va_Nw.use rfl (hX.2.2.2.2.2.2.2.1 "java/lang/IndexOutOfBoundsException" (by decide))) hc hv hcl ?_
      refine lv_astore_n (lv' := [(3, .ref q), (0, .ref (b + 0)), (1, .int x), (2, .ref (b + 133))]) hx hb dL_readingOf_12 rfl hl (by decide) rfl (fun ls hl => ?_)
      refine lv_iconst (v := 1) hx hb dL_readingOf_13 (by decide) ?_
      exact xe_i hx hb hr hlocks hP hS rfl (by unfold gL_readingOf; rw [if_neg (by rw [e1]; decide)]) (by rw [e1]; decide) (Nat.le_of_ble_eq_true rfl) (Nat.le_of_ble_eq_true rfl) dL_readingOf_14
    · exfalso; rw [e1] at hcs; revert hcs; decide
    · exfalso; rw [e1] at hcs; revert hcs; decide
  · refine lv_i2l hx hb dL_readingOf_7 rfl ?_
    refine xls (j := 0) (x := fX7_readingOf M x) (o := 133) hx hb hK hP hS (by omega) (by decide) (ixIn (a := 0) rfl (by decide) (by decide)) rfl dL_readingOf_8 (fun H locs hP hS => ?_)
    refine lv_goto (tgt := 15) hx hb dL_readingOf_9 (by decide) ?_
    refine lv_iconst (v := 0) hx hb dL_readingOf_15 (by decide) ?_
    exact xe_i hx hb hr hlocks hP hS rfl (by unfold gL_readingOf; rw [if_pos hT]) (by rw [hT]; rfl) (Nat.le_of_ble_eq_true rfl) (Nat.le_of_ble_eq_true rfl) dL_readingOf_16
def gL_errorOf (M : Mem) (x : Int32) : Mem := if tX7_errorOf M x = 0 then mU M 133 0 (fX7_errorOf M x) else M
theorem tL_errorOf (M : Mem) (x : Int32) : tX7_errorOf M x = 0 ∨ tX7_errorOf M x = 1 := by
  unfold tX7_errorOf tX7_instrumentAt
  (repeat' split) <;> simp_all
set_option maxHeartbeats 4000000 in
set_option maxRecDepth 100000 in
theorem c_L_errorOf (l : Launch) (hl0 : l.stackTraces = false) (D : va_G) (cy : Nat → ClassId) (b n : Nat) (hn : 134 ≤ n) (M : Mem) (x : Int32) (hcnt : CNT M 1) : Met l yL_errorOf wsL_errorOf ({ frames := 8, cells := 1, slots := 6, locals := 134 } : Room) (CP D cy b n fT M [.ref (b + 0), .int x, .ref (b + 133)]) (CQi D cy b n fT (cd [1] (tX7_errorOf M x)) (gL_errorOf M x)) 1 6 (fr b) := by
  refine met_ofWH (cc := cL_errorOf) (maxL := 4) (ret := some .int) (hh := [(0, 9, 12, 19)]) (by decide) rfl ?_
  intro p e s m args below meth c s₁ B hml hv
  obtain ⟨rfl, hP, hK, hX⟩ := hv
  have hx := B.exec
  have hb := B.bytes
  have hr := B.returns
  have hts := atoms_spec (ws := wsL_errorOf) B.pre
  have htab := vx_table (x := yL_errorOf) B (hts _ List.mem_cons_self)
  have hown : s.vm.findClass RL = some m.cls := findClass_of_methodNamed B.named
  have hlocks := B.notSynchronized
  have hS : va_S (fr b) s.heap s.heap [] := va_S.rf
  have hl := lv_entry ([.ref (b + 0), .int x, .ref (b + 133)]) (n := 4) (Nat.le_of_ble_eq_true rfl)
  rw [lg_entry_eq]
  generalize (lg_sl ([.ref (b + 0), .int x, .ref (b + 133)]) ++ List.replicate (4 - (lg_sl ([.ref (b + 0), .int x, .ref (b + 133)])).length) Slot.unset).toArray = ls at hl ⊢
  have hl : lv_has ls 4 [(0, .ref (b + 0)), (1, .int x), (2, .ref (b + 133))] := hl
  refine lv_aload_n hx hb dL_errorOf_0 rfl (lv_at hl 2 rfl) ?_
  refine lv_iconst (v := 0) hx hb dL_errorOf_1 (by decide) ?_
  refine lv_aload_n hx hb dL_errorOf_2 rfl (lv_at hl 0 rfl) ?_
  refine lv_iload_n hx hb dL_errorOf_3 rfl (lv_at hl 1 rfl) ?_
  refine xct_i (vx_runV (As := [.int x]) (rest := [.int 0, .ref (b + 133)]) ⟨hx, hb, hml, hown, hts⟩ (c_X7_errorOf l hl0 D cy b n (by omega) M x hcnt) (cwV 1 hts gL_errorOf_X7_errorOf rfl rfl rfl (by decide +kernel) ⟨Nat.le_of_ble_eq_true rfl, Nat.le_of_ble_eq_true rfl⟩) (xPreV hP hK hX hS (by omega) (cell7 (by decide)) rfl) rfl rfl hl.1 rfl (lv_room (Nat.le_of_ble_eq_true rfl)) dL_errorOf_4 ⟨Nat.le_of_ble_eq_true rfl, Nat.le_of_ble_eq_true rfl⟩) hS (fun E ce q H locs hE hP hS hc hv hcl => ?_) (fun H locs hT hP hS => ?_)
  · have hcs := tL_errorOf M x
    rcases hE with ⟨e1, rfl⟩ | ⟨e1, rfl⟩ | ⟨e1, rfl⟩
    · refine vx_catch hown [] ⟨0, 9, 12, 19⟩ [] (by rw [htab]; rfl) (fun z hz => absurd hz List.not_mem_nil) rfl (by decide) (hts (.classLink RL 19 "java/lang/IndexOutOfBoundsException") (by decide +kernel)) (va_Nw.use rfl (hX.2.2.2.2.2.2.2.1 "java/lang/IndexOutOfBoundsException" (by decide))) hc hv hcl ?_
      refine lv_astore_n (lv' := [(3, .ref q), (0, .ref (b + 0)), (1, .int x), (2, .ref (b + 133))]) hx hb dL_errorOf_12 rfl hl (by decide) rfl (fun ls hl => ?_)
      refine lv_iconst (v := 1) hx hb dL_errorOf_13 (by decide) ?_
      exact xe_i hx hb hr hlocks hP hS rfl (by unfold gL_errorOf; rw [if_neg (by rw [e1]; decide)]) (by rw [e1]; decide) (Nat.le_of_ble_eq_true rfl) (Nat.le_of_ble_eq_true rfl) dL_errorOf_14
    · exfalso; rw [e1] at hcs; revert hcs; decide
    · exfalso; rw [e1] at hcs; revert hcs; decide
  · refine lv_i2l hx hb dL_errorOf_7 rfl ?_
    refine xls (j := 0) (x := fX7_errorOf M x) (o := 133) hx hb hK hP hS (by omega) (by decide) (ixIn (a := 0) rfl (by decide) (by decide)) rfl dL_errorOf_8 (fun H locs hP hS => ?_)
    refine lv_goto (tgt := 15) hx hb dL_errorOf_9 (by decide) ?_
    refine lv_iconst (v := 0) hx hb dL_errorOf_15 (by decide) ?_
    exact xe_i hx hb hr hlocks hP hS rfl (by unfold gL_errorOf; rw [if_pos hT]) (by rw [hT]; rfl) (Nat.le_of_ble_eq_true rfl) (Nat.le_of_ble_eq_true rfl) dL_errorOf_16
def gL_isSettled (M : Mem) (x : Int32) : Mem := if tX7_isSettled M x = 0 then mU M 133 0 (if fX7_isSettled M x = 0 then 0 else 1) else M
theorem tL_isSettled (M : Mem) (x : Int32) : tX7_isSettled M x = 0 ∨ tX7_isSettled M x = 1 := by
  unfold tX7_isSettled tX7_instrumentAt
  (repeat' split) <;> simp_all
set_option maxHeartbeats 4000000 in
set_option maxRecDepth 100000 in
theorem c_L_isSettled (l : Launch) (hl0 : l.stackTraces = false) (D : va_G) (cy : Nat → ClassId) (b n : Nat) (hn : 134 ≤ n) (M : Mem) (x : Int32) (hcnt : CNT M 1) : Met l yL_isSettled wsL_isSettled ({ frames := 8, cells := 1, slots := 6, locals := 133 } : Room) (CP D cy b n fT M [.ref (b + 0), .int x, .ref (b + 133)]) (CQi D cy b n fT (cd [1] (tX7_isSettled M x)) (gL_isSettled M x)) 1 6 (fr b) := by
  refine met_ofWH (cc := cL_isSettled) (maxL := 4) (ret := some .int) (hh := [(0, 16, 19, 19)]) (by decide) rfl ?_
  intro p e s m args below meth c s₁ B hml hv
  obtain ⟨rfl, hP, hK, hX⟩ := hv
  have hx := B.exec
  have hb := B.bytes
  have hr := B.returns
  have hts := atoms_spec (ws := wsL_isSettled) B.pre
  have htab := vx_table (x := yL_isSettled) B (hts _ List.mem_cons_self)
  have hown : s.vm.findClass RL = some m.cls := findClass_of_methodNamed B.named
  have hlocks := B.notSynchronized
  have hS : va_S (fr b) s.heap s.heap [] := va_S.rf
  have hl := lv_entry ([.ref (b + 0), .int x, .ref (b + 133)]) (n := 4) (Nat.le_of_ble_eq_true rfl)
  rw [lg_entry_eq]
  generalize (lg_sl ([.ref (b + 0), .int x, .ref (b + 133)]) ++ List.replicate (4 - (lg_sl ([.ref (b + 0), .int x, .ref (b + 133)])).length) Slot.unset).toArray = ls at hl ⊢
  have hl : lv_has ls 4 [(0, .ref (b + 0)), (1, .int x), (2, .ref (b + 133))] := hl
  refine lv_aload_n hx hb dL_isSettled_0 rfl (lv_at hl 2 rfl) ?_
  refine lv_iconst (v := 0) hx hb dL_isSettled_1 (by decide) ?_
  refine lv_aload_n hx hb dL_isSettled_2 rfl (lv_at hl 0 rfl) ?_
  refine lv_iload_n hx hb dL_isSettled_3 rfl (lv_at hl 1 rfl) ?_
  refine xct_i (vx_runV (As := [.int x]) (rest := [.int 0, .ref (b + 133)]) ⟨hx, hb, hml, hown, hts⟩ (c_X7_isSettled l hl0 D cy b n (by omega) M x hcnt) (cwV 1 hts gL_isSettled_X7_isSettled rfl rfl rfl (by decide +kernel) ⟨Nat.le_of_ble_eq_true rfl, Nat.le_of_ble_eq_true rfl⟩) (xPreV hP hK hX hS (by omega) (cell7 (by decide)) rfl) rfl rfl hl.1 rfl (lv_room (Nat.le_of_ble_eq_true rfl)) dL_isSettled_4 ⟨Nat.le_of_ble_eq_true rfl, Nat.le_of_ble_eq_true rfl⟩) hS (fun E ce q H locs hE hP hS hc hv hcl => ?_) (fun H locs hT hP hS => ?_)
  · have hcs := tL_isSettled M x
    rcases hE with ⟨e1, rfl⟩ | ⟨e1, rfl⟩ | ⟨e1, rfl⟩
    · refine vx_catch hown [] ⟨0, 16, 19, 19⟩ [] (by rw [htab]; rfl) (fun z hz => absurd hz List.not_mem_nil) rfl (by decide) (hts (.classLink RL 19 "java/lang/IndexOutOfBoundsException") (by decide +kernel)) (va_Nw.use rfl (hX.2.2.2.2.2.2.2.1 "java/lang/IndexOutOfBoundsException" (by decide))) hc hv hcl ?_
      refine lv_astore_n (lv' := [(3, .ref q), (0, .ref (b + 0)), (1, .int x), (2, .ref (b + 133))]) hx hb dL_isSettled_19 rfl hl (by decide) rfl (fun ls hl => ?_)
      refine lv_iconst (v := 1) hx hb dL_isSettled_20 (by decide) ?_
      exact xe_i hx hb hr hlocks hP hS rfl (by unfold gL_isSettled; rw [if_neg (by rw [e1]; decide)]) (by rw [e1]; decide) (Nat.le_of_ble_eq_true rfl) (Nat.le_of_ble_eq_true rfl) dL_isSettled_21
    · exfalso; rw [e1] at hcs; revert hcs; decide
    · exfalso; rw [e1] at hcs; revert hcs; decide
  · refine lv_if_eq (tgt := 14) hx hb dL_isSettled_7 (by decide) (fun c0 => ?_) (fun c0 => ?_)
    · refine lv_lconst (v := (0 : Int32).toInt64) hx hb dL_isSettled_14 rfl ?_
      refine xls (j := 0) (x := 0) (o := 133) hx hb hK hP hS (by omega) (by decide) (ixIn (a := 0) rfl (by decide) (by decide)) rfl dL_isSettled_15 (fun H locs hP hS => ?_)
      refine lv_goto (tgt := 22) hx hb dL_isSettled_16 (by decide) ?_
      refine lv_iconst (v := 0) hx hb dL_isSettled_22 (by decide) ?_
      exact xe_i hx hb hr hlocks hP hS rfl (by unfold gL_isSettled; rw [if_pos hT, if_pos c0]) (by rw [hT]; rfl) (Nat.le_of_ble_eq_true rfl) (Nat.le_of_ble_eq_true rfl) dL_isSettled_23
    · refine lv_lconst (v := (1 : Int32).toInt64) hx hb dL_isSettled_10 rfl ?_
      refine lv_goto (tgt := 15) hx hb dL_isSettled_11 (by decide) ?_
      refine xls (j := 0) (x := 1) (o := 133) hx hb hK hP hS (by omega) (by decide) (ixIn (a := 0) rfl (by decide) (by decide)) rfl dL_isSettled_15 (fun H locs hP hS => ?_)
      refine lv_goto (tgt := 22) hx hb dL_isSettled_16 (by decide) ?_
      refine lv_iconst (v := 0) hx hb dL_isSettled_22 (by decide) ?_
      exact xe_i hx hb hr hlocks hP hS rfl (by unfold gL_isSettled; rw [if_pos hT, if_neg c0]) (by rw [hT]; rfl) (Nat.le_of_ble_eq_true rfl) (Nat.le_of_ble_eq_true rfl) dL_isSettled_23
def gL_whyUnusable (M : Mem) (x : Int32) : Mem := if tX7_whyUnusable M x = 0 then mU M 133 0 (fX7_whyUnusable M x) else M
theorem tL_whyUnusable (M : Mem) (x : Int32) : tX7_whyUnusable M x = 0 ∨ tX7_whyUnusable M x = 1 := by
  unfold tX7_whyUnusable tX7_instrumentAt
  (repeat' split) <;> simp_all
set_option maxHeartbeats 4000000 in
set_option maxRecDepth 100000 in
theorem c_L_whyUnusable (l : Launch) (hl0 : l.stackTraces = false) (D : va_G) (cy : Nat → ClassId) (b n : Nat) (hn : 134 ≤ n) (M : Mem) (x : Int32) (hcnt : CNT M 1) : Met l yL_whyUnusable wsL_whyUnusable ({ frames := 8, cells := 1, slots := 6, locals := 133 } : Room) (CP D cy b n fT M [.ref (b + 0), .int x, .ref (b + 133)]) (CQi D cy b n fT (cd [1] (tX7_whyUnusable M x)) (gL_whyUnusable M x)) 1 6 (fr b) := by
  refine met_ofWH (cc := cL_whyUnusable) (maxL := 4) (ret := some .int) (hh := [(0, 9, 12, 19)]) (by decide) rfl ?_
  intro p e s m args below meth c s₁ B hml hv
  obtain ⟨rfl, hP, hK, hX⟩ := hv
  have hx := B.exec
  have hb := B.bytes
  have hr := B.returns
  have hts := atoms_spec (ws := wsL_whyUnusable) B.pre
  have htab := vx_table (x := yL_whyUnusable) B (hts _ List.mem_cons_self)
  have hown : s.vm.findClass RL = some m.cls := findClass_of_methodNamed B.named
  have hlocks := B.notSynchronized
  have hS : va_S (fr b) s.heap s.heap [] := va_S.rf
  have hl := lv_entry ([.ref (b + 0), .int x, .ref (b + 133)]) (n := 4) (Nat.le_of_ble_eq_true rfl)
  rw [lg_entry_eq]
  generalize (lg_sl ([.ref (b + 0), .int x, .ref (b + 133)]) ++ List.replicate (4 - (lg_sl ([.ref (b + 0), .int x, .ref (b + 133)])).length) Slot.unset).toArray = ls at hl ⊢
  have hl : lv_has ls 4 [(0, .ref (b + 0)), (1, .int x), (2, .ref (b + 133))] := hl
  refine lv_aload_n hx hb dL_whyUnusable_0 rfl (lv_at hl 2 rfl) ?_
  refine lv_iconst (v := 0) hx hb dL_whyUnusable_1 (by decide) ?_
  refine lv_aload_n hx hb dL_whyUnusable_2 rfl (lv_at hl 0 rfl) ?_
  refine lv_iload_n hx hb dL_whyUnusable_3 rfl (lv_at hl 1 rfl) ?_
  refine xct_i (vx_runV (As := [.int x]) (rest := [.int 0, .ref (b + 133)]) ⟨hx, hb, hml, hown, hts⟩ (c_X7_whyUnusable l hl0 D cy b n (by omega) M x hcnt) (cwV 1 hts gL_whyUnusable_X7_whyUnusable rfl rfl rfl (by decide +kernel) ⟨Nat.le_of_ble_eq_true rfl, Nat.le_of_ble_eq_true rfl⟩) (xPreV hP hK hX hS (by omega) (cell7 (by decide)) rfl) rfl rfl hl.1 rfl (lv_room (Nat.le_of_ble_eq_true rfl)) dL_whyUnusable_4 ⟨Nat.le_of_ble_eq_true rfl, Nat.le_of_ble_eq_true rfl⟩) hS (fun E ce q H locs hE hP hS hc hv hcl => ?_) (fun H locs hT hP hS => ?_)
  · have hcs := tL_whyUnusable M x
    rcases hE with ⟨e1, rfl⟩ | ⟨e1, rfl⟩ | ⟨e1, rfl⟩
    · refine vx_catch hown [] ⟨0, 9, 12, 19⟩ [] (by rw [htab]; rfl) (fun z hz => absurd hz List.not_mem_nil) rfl (by decide) (hts (.classLink RL 19 "java/lang/IndexOutOfBoundsException") (by decide +kernel)) (va_Nw.use rfl (hX.2.2.2.2.2.2.2.1 "java/lang/IndexOutOfBoundsException" (by decide))) hc hv hcl ?_
      refine lv_astore_n (lv' := [(3, .ref q), (0, .ref (b + 0)), (1, .int x), (2, .ref (b + 133))]) hx hb dL_whyUnusable_12 rfl hl (by decide) rfl (fun ls hl => ?_)
      refine lv_iconst (v := 1) hx hb dL_whyUnusable_13 (by decide) ?_
      exact xe_i hx hb hr hlocks hP hS rfl (by unfold gL_whyUnusable; rw [if_neg (by rw [e1]; decide)]) (by rw [e1]; decide) (Nat.le_of_ble_eq_true rfl) (Nat.le_of_ble_eq_true rfl) dL_whyUnusable_14
    · exfalso; rw [e1] at hcs; revert hcs; decide
    · exfalso; rw [e1] at hcs; revert hcs; decide
  · refine lv_i2l hx hb dL_whyUnusable_7 rfl ?_
    refine xls (j := 0) (x := fX7_whyUnusable M x) (o := 133) hx hb hK hP hS (by omega) (by decide) (ixIn (a := 0) rfl (by decide) (by decide)) rfl dL_whyUnusable_8 (fun H locs hP hS => ?_)
    refine lv_goto (tgt := 15) hx hb dL_whyUnusable_9 (by decide) ?_
    refine lv_iconst (v := 0) hx hb dL_whyUnusable_15 (by decide) ?_
    exact xe_i hx hb hr hlocks hP hS rfl (by unfold gL_whyUnusable; rw [if_pos hT]) (by rw [hT]; rfl) (Nat.le_of_ble_eq_true rfl) (Nat.le_of_ble_eq_true rfl) dL_whyUnusable_16
def gL_weightOf (M : Mem) (x : Int32) : Mem := if tX7_weightOf M x = 0 then mU M 133 0 (fX7_weightOf M x) else M
theorem tL_weightOf (M : Mem) (x : Int32) : tX7_weightOf M x = 0 ∨ tX7_weightOf M x = 1 := by
  unfold tX7_weightOf tX7_instrumentAt
  (repeat' split) <;> simp_all
set_option maxHeartbeats 4000000 in
set_option maxRecDepth 100000 in
theorem c_L_weightOf (l : Launch) (hl0 : l.stackTraces = false) (D : va_G) (cy : Nat → ClassId) (b n : Nat) (hn : 134 ≤ n) (M : Mem) (x : Int32) (hcnt : CNT M 1) : Met l yL_weightOf wsL_weightOf ({ frames := 8, cells := 1, slots := 6, locals := 133 } : Room) (CP D cy b n fT M [.ref (b + 0), .int x, .ref (b + 133)]) (CQi D cy b n fT (cd [1] (tX7_weightOf M x)) (gL_weightOf M x)) 1 6 (fr b) := by
  refine met_ofWH (cc := cL_weightOf) (maxL := 4) (ret := some .int) (hh := [(0, 9, 12, 19)]) (by decide) rfl ?_
  intro p e s m args below meth c s₁ B hml hv
  obtain ⟨rfl, hP, hK, hX⟩ := hv
  have hx := B.exec
  have hb := B.bytes
  have hr := B.returns
  have hts := atoms_spec (ws := wsL_weightOf) B.pre
  have htab := vx_table (x := yL_weightOf) B (hts _ List.mem_cons_self)
  have hown : s.vm.findClass RL = some m.cls := findClass_of_methodNamed B.named
  have hlocks := B.notSynchronized
  have hS : va_S (fr b) s.heap s.heap [] := va_S.rf
  have hl := lv_entry ([.ref (b + 0), .int x, .ref (b + 133)]) (n := 4) (Nat.le_of_ble_eq_true rfl)
  rw [lg_entry_eq]
  generalize (lg_sl ([.ref (b + 0), .int x, .ref (b + 133)]) ++ List.replicate (4 - (lg_sl ([.ref (b + 0), .int x, .ref (b + 133)])).length) Slot.unset).toArray = ls at hl ⊢
  have hl : lv_has ls 4 [(0, .ref (b + 0)), (1, .int x), (2, .ref (b + 133))] := hl
  refine lv_aload_n hx hb dL_weightOf_0 rfl (lv_at hl 2 rfl) ?_
  refine lv_iconst (v := 0) hx hb dL_weightOf_1 (by decide) ?_
  refine lv_aload_n hx hb dL_weightOf_2 rfl (lv_at hl 0 rfl) ?_
  refine lv_iload_n hx hb dL_weightOf_3 rfl (lv_at hl 1 rfl) ?_
  refine xct_i (vx_runV (As := [.int x]) (rest := [.int 0, .ref (b + 133)]) ⟨hx, hb, hml, hown, hts⟩ (c_X7_weightOf l hl0 D cy b n (by omega) M x hcnt) (cwV 1 hts gL_weightOf_X7_weightOf rfl rfl rfl (by decide +kernel) ⟨Nat.le_of_ble_eq_true rfl, Nat.le_of_ble_eq_true rfl⟩) (xPreV hP hK hX hS (by omega) (cell7 (by decide)) rfl) rfl rfl hl.1 rfl (lv_room (Nat.le_of_ble_eq_true rfl)) dL_weightOf_4 ⟨Nat.le_of_ble_eq_true rfl, Nat.le_of_ble_eq_true rfl⟩) hS (fun E ce q H locs hE hP hS hc hv hcl => ?_) (fun H locs hT hP hS => ?_)
  · have hcs := tL_weightOf M x
    rcases hE with ⟨e1, rfl⟩ | ⟨e1, rfl⟩ | ⟨e1, rfl⟩
    · refine vx_catch hown [] ⟨0, 9, 12, 19⟩ [] (by rw [htab]; rfl) (fun z hz => absurd hz List.not_mem_nil) rfl (by decide) (hts (.classLink RL 19 "java/lang/IndexOutOfBoundsException") (by decide +kernel)) (va_Nw.use rfl (hX.2.2.2.2.2.2.2.1 "java/lang/IndexOutOfBoundsException" (by decide))) hc hv hcl ?_
      refine lv_astore_n (lv' := [(3, .ref q), (0, .ref (b + 0)), (1, .int x), (2, .ref (b + 133))]) hx hb dL_weightOf_12 rfl hl (by decide) rfl (fun ls hl => ?_)
      refine lv_iconst (v := 1) hx hb dL_weightOf_13 (by decide) ?_
      exact xe_i hx hb hr hlocks hP hS rfl (by unfold gL_weightOf; rw [if_neg (by rw [e1]; decide)]) (by rw [e1]; decide) (Nat.le_of_ble_eq_true rfl) (Nat.le_of_ble_eq_true rfl) dL_weightOf_14
    · exfalso; rw [e1] at hcs; revert hcs; decide
    · exfalso; rw [e1] at hcs; revert hcs; decide
  · refine lv_i2l hx hb dL_weightOf_7 rfl ?_
    refine xls (j := 0) (x := fX7_weightOf M x) (o := 133) hx hb hK hP hS (by omega) (by decide) (ixIn (a := 0) rfl (by decide) (by decide)) rfl dL_weightOf_8 (fun H locs hP hS => ?_)
    refine lv_goto (tgt := 15) hx hb dL_weightOf_9 (by decide) ?_
    refine lv_iconst (v := 0) hx hb dL_weightOf_15 (by decide) ?_
    exact xe_i hx hb hr hlocks hP hS rfl (by unfold gL_weightOf; rw [if_pos hT]) (by rw [hT]; rfl) (Nat.le_of_ble_eq_true rfl) (Nat.le_of_ble_eq_true rfl) dL_weightOf_16
def gL_calibrationObstacle (M : Mem) (x : Int32) : Mem := if tX7_calibrationObstacle M x = 0 then mU M 133 0 (fX7_calibrationObstacle M x) else M
theorem tL_calibrationObstacle (M : Mem) (x : Int32) : tX7_calibrationObstacle M x = 0 ∨ tX7_calibrationObstacle M x = 1 := by
  unfold tX7_calibrationObstacle tX7_instrumentAt
  (repeat' split) <;> simp_all
set_option maxHeartbeats 4000000 in
set_option maxRecDepth 100000 in
theorem c_L_calibrationObstacle (l : Launch) (hl0 : l.stackTraces = false) (D : va_G) (cy : Nat → ClassId) (b n : Nat) (hn : 134 ≤ n) (M : Mem) (x : Int32) (hcnt : CNT M 1) : Met l yL_calibrationObstacle wsL_calibrationObstacle ({ frames := 8, cells := 1, slots := 6, locals := 133 } : Room) (CP D cy b n fT M [.ref (b + 0), .int x, .ref (b + 133)]) (CQi D cy b n fT (cd [1] (tX7_calibrationObstacle M x)) (gL_calibrationObstacle M x)) 1 6 (fr b) := by
  refine met_ofWH (cc := cL_calibrationObstacle) (maxL := 4) (ret := some .int) (hh := [(0, 9, 12, 19)]) (by decide) rfl ?_
  intro p e s m args below meth c s₁ B hml hv
  obtain ⟨rfl, hP, hK, hX⟩ := hv
  have hx := B.exec
  have hb := B.bytes
  have hr := B.returns
  have hts := atoms_spec (ws := wsL_calibrationObstacle) B.pre
  have htab := vx_table (x := yL_calibrationObstacle) B (hts _ List.mem_cons_self)
  have hown : s.vm.findClass RL = some m.cls := findClass_of_methodNamed B.named
  have hlocks := B.notSynchronized
  have hS : va_S (fr b) s.heap s.heap [] := va_S.rf
  have hl := lv_entry ([.ref (b + 0), .int x, .ref (b + 133)]) (n := 4) (Nat.le_of_ble_eq_true rfl)
  rw [lg_entry_eq]
  generalize (lg_sl ([.ref (b + 0), .int x, .ref (b + 133)]) ++ List.replicate (4 - (lg_sl ([.ref (b + 0), .int x, .ref (b + 133)])).length) Slot.unset).toArray = ls at hl ⊢
  have hl : lv_has ls 4 [(0, .ref (b + 0)), (1, .int x), (2, .ref (b + 133))] := hl
  refine lv_aload_n hx hb dL_calibrationObstacle_0 rfl (lv_at hl 2 rfl) ?_
  refine lv_iconst (v := 0) hx hb dL_calibrationObstacle_1 (by decide) ?_
  refine lv_aload_n hx hb dL_calibrationObstacle_2 rfl (lv_at hl 0 rfl) ?_
  refine lv_iload_n hx hb dL_calibrationObstacle_3 rfl (lv_at hl 1 rfl) ?_
  refine xct_i (vx_runV (As := [.int x]) (rest := [.int 0, .ref (b + 133)]) ⟨hx, hb, hml, hown, hts⟩ (c_X7_calibrationObstacle l hl0 D cy b n (by omega) M x hcnt) (cwV 1 hts gL_calibrationObstacle_X7_calibrationObstacle rfl rfl rfl (by decide +kernel) ⟨Nat.le_of_ble_eq_true rfl, Nat.le_of_ble_eq_true rfl⟩) (xPreV hP hK hX hS (by omega) (cell7 (by decide)) rfl) rfl rfl hl.1 rfl (lv_room (Nat.le_of_ble_eq_true rfl)) dL_calibrationObstacle_4 ⟨Nat.le_of_ble_eq_true rfl, Nat.le_of_ble_eq_true rfl⟩) hS (fun E ce q H locs hE hP hS hc hv hcl => ?_) (fun H locs hT hP hS => ?_)
  · have hcs := tL_calibrationObstacle M x
    rcases hE with ⟨e1, rfl⟩ | ⟨e1, rfl⟩ | ⟨e1, rfl⟩
    · refine vx_catch hown [] ⟨0, 9, 12, 19⟩ [] (by rw [htab]; rfl) (fun z hz => absurd hz List.not_mem_nil) rfl (by decide) (hts (.classLink RL 19 "java/lang/IndexOutOfBoundsException") (by decide +kernel)) (va_Nw.use rfl (hX.2.2.2.2.2.2.2.1 "java/lang/IndexOutOfBoundsException" (by decide))) hc hv hcl ?_
      refine lv_astore_n (lv' := [(3, .ref q), (0, .ref (b + 0)), (1, .int x), (2, .ref (b + 133))]) hx hb dL_calibrationObstacle_12 rfl hl (by decide) rfl (fun ls hl => ?_)
      refine lv_iconst (v := 1) hx hb dL_calibrationObstacle_13 (by decide) ?_
      exact xe_i hx hb hr hlocks hP hS rfl (by unfold gL_calibrationObstacle; rw [if_neg (by rw [e1]; decide)]) (by rw [e1]; decide) (Nat.le_of_ble_eq_true rfl) (Nat.le_of_ble_eq_true rfl) dL_calibrationObstacle_14
    · exfalso; rw [e1] at hcs; revert hcs; decide
    · exfalso; rw [e1] at hcs; revert hcs; decide
  · refine lv_i2l hx hb dL_calibrationObstacle_7 rfl ?_
    refine xls (j := 0) (x := fX7_calibrationObstacle M x) (o := 133) hx hb hK hP hS (by omega) (by decide) (ixIn (a := 0) rfl (by decide) (by decide)) rfl dL_calibrationObstacle_8 (fun H locs hP hS => ?_)
    refine lv_goto (tgt := 15) hx hb dL_calibrationObstacle_9 (by decide) ?_
    refine lv_iconst (v := 0) hx hb dL_calibrationObstacle_15 (by decide) ?_
    exact xe_i hx hb hr hlocks hP hS rfl (by unfold gL_calibrationObstacle; rw [if_pos hT]) (by rw [hT]; rfl) (Nat.le_of_ble_eq_true rfl) (Nat.le_of_ble_eq_true rfl) dL_calibrationObstacle_16
def gL_readingAfter (M : Mem) (x : Int32) (y : Int32) : Mem := if tX7_readingAfter M x y = 0 then mU (gX7_readingAfter M x y) 133 0 (fX7_readingAfter M x y) else (gX7_readingAfter M x y)
theorem tL_readingAfter (M : Mem) (x : Int32) (y : Int32) : tX7_readingAfter M x y = 0 ∨ tX7_readingAfter M x y = 1 ∨ tX7_readingAfter M x y = 2 := by
  unfold tX7_readingAfter tX7_instrumentAt
  (repeat' split) <;> simp_all
set_option maxHeartbeats 4000000 in
set_option maxRecDepth 100000 in
theorem c_L_readingAfter (l : Launch) (hl0 : l.stackTraces = false) (D : va_G) (cy : Nat → ClassId) (b n : Nat) (hn : 134 ≤ n) (M : Mem) (x : Int32) (y : Int32) (hcnt : CNT M 1) : Met l yL_readingAfter wsL_readingAfter ({ frames := 8, cells := 2, slots := 12, locals := 135 } : Room) (CP D cy b n fT M [.ref (b + 0), .int x, .int y, .ref (b + 133)]) (CQi D cy b n fT (cd [1, 2] (tX7_readingAfter M x y)) (gL_readingAfter M x y)) 2 12 (fr b) := by
  refine met_ofWH (cc := cL_readingAfter) (maxL := 5) (ret := some .int) (hh := [(0, 10, 13, 19), (0, 10, 17, 21)]) (by decide) rfl ?_
  intro p e s m args below meth c s₁ B hml hv
  obtain ⟨rfl, hP, hK, hX⟩ := hv
  have hx := B.exec
  have hb := B.bytes
  have hr := B.returns
  have hts := atoms_spec (ws := wsL_readingAfter) B.pre
  have htab := vx_table (x := yL_readingAfter) B (hts _ List.mem_cons_self)
  have hown : s.vm.findClass RL = some m.cls := findClass_of_methodNamed B.named
  have hlocks := B.notSynchronized
  have hS : va_S (fr b) s.heap s.heap [] := va_S.rf
  have hl := lv_entry ([.ref (b + 0), .int x, .int y, .ref (b + 133)]) (n := 5) (Nat.le_of_ble_eq_true rfl)
  rw [lg_entry_eq]
  generalize (lg_sl ([.ref (b + 0), .int x, .int y, .ref (b + 133)]) ++ List.replicate (5 - (lg_sl ([.ref (b + 0), .int x, .int y, .ref (b + 133)])).length) Slot.unset).toArray = ls at hl ⊢
  have hl : lv_has ls 5 [(0, .ref (b + 0)), (1, .int x), (2, .int y), (3, .ref (b + 133))] := hl
  refine lv_aload_n hx hb dL_readingAfter_0 rfl (lv_at hl 3 rfl) ?_
  refine lv_iconst (v := 0) hx hb dL_readingAfter_1 (by decide) ?_
  refine lv_aload_n hx hb dL_readingAfter_2 rfl (lv_at hl 0 rfl) ?_
  refine lv_iload_n hx hb dL_readingAfter_3 rfl (lv_at hl 1 rfl) ?_
  refine lv_iload_n hx hb dL_readingAfter_4 rfl (lv_at hl 2 rfl) ?_
  refine xct_i (vx_runV (As := [.int x, .int y]) (rest := [.int 0, .ref (b + 133)]) ⟨hx, hb, hml, hown, hts⟩ (c_X7_readingAfter l hl0 D cy b n (by omega) M x y hcnt) (cwV 2 hts gL_readingAfter_X7_readingAfter rfl rfl rfl (by decide +kernel) ⟨Nat.le_of_ble_eq_true rfl, Nat.le_of_ble_eq_true rfl⟩) (xPreV hP hK hX hS (by omega) (cell7 (by decide)) rfl) rfl rfl hl.1 rfl (lv_room (Nat.le_of_ble_eq_true rfl)) dL_readingAfter_5 ⟨Nat.le_of_ble_eq_true rfl, Nat.le_of_ble_eq_true rfl⟩) hS (fun E ce q H locs hE hP hS hc hv hcl => ?_) (fun H locs hT hP hS => ?_)
  · have hcs := tL_readingAfter M x y
    rcases hE with ⟨e1, rfl⟩ | ⟨e1, rfl⟩ | ⟨e1, rfl⟩
    · refine vx_catch hown [] ⟨0, 10, 13, 19⟩ [⟨0, 10, 17, 21⟩] (by rw [htab]; rfl) (fun z hz => absurd hz List.not_mem_nil) rfl (by decide) (hts (.classLink RL 19 "java/lang/IndexOutOfBoundsException") (by decide +kernel)) (va_Nw.use rfl (hX.2.2.2.2.2.2.2.1 "java/lang/IndexOutOfBoundsException" (by decide))) hc hv hcl ?_
      refine lv_astore (lv' := [(4, .ref q), (0, .ref (b + 0)), (1, .int x), (2, .int y), (3, .ref (b + 133))]) hx hb dL_readingAfter_13 hl (by decide) rfl (fun ls hl => ?_)
      refine lv_iconst (v := 1) hx hb dL_readingAfter_15 (by decide) ?_
      exact xe_i hx hb hr hlocks hP hS rfl (by unfold gL_readingAfter; rw [if_neg (by rw [e1]; decide)]) (by rw [e1]; decide) (Nat.le_of_ble_eq_true rfl) (Nat.le_of_ble_eq_true rfl) dL_readingAfter_16
    · refine vx_catch hown [⟨0, 10, 13, 19⟩] ⟨0, 10, 17, 21⟩ [] (by rw [htab]; rfl) (fun z hz => by rw [List.mem_singleton.mp hz]; exact Or.inr ⟨by decide, "java/lang/IndexOutOfBoundsException", hts (.classLink RL 19 "java/lang/IndexOutOfBoundsException") (by decide +kernel), hX.2.2.2.2.2.2.2.2.1 ("java/lang/IllegalArgumentException", "java/lang/IndexOutOfBoundsException") (by decide)⟩) rfl (by decide) (hts (.classLink RL 21 "java/lang/IllegalArgumentException") (by decide +kernel)) (va_Nw.use rfl (hX.2.2.2.2.2.2.2.1 "java/lang/IllegalArgumentException" (by decide))) hc hv hcl ?_
      refine lv_astore (lv' := [(4, .ref q), (0, .ref (b + 0)), (1, .int x), (2, .int y), (3, .ref (b + 133))]) hx hb dL_readingAfter_17 hl (by decide) rfl (fun ls hl => ?_)
      refine lv_iconst (v := 2) hx hb dL_readingAfter_19 (by decide) ?_
      exact xe_i hx hb hr hlocks hP hS rfl (by unfold gL_readingAfter; rw [if_neg (by rw [e1]; decide)]) (by rw [e1]; decide) (Nat.le_of_ble_eq_true rfl) (Nat.le_of_ble_eq_true rfl) dL_readingAfter_20
    · exfalso; rw [e1] at hcs; revert hcs; decide
  · refine lv_i2l hx hb dL_readingAfter_8 rfl ?_
    refine xls (j := 0) (x := fX7_readingAfter M x y) (o := 133) hx hb hK hP hS (by omega) (by decide) (ixIn (a := 0) rfl (by decide) (by decide)) rfl dL_readingAfter_9 (fun H locs hP hS => ?_)
    refine lv_goto (tgt := 21) hx hb dL_readingAfter_10 (by decide) ?_
    refine lv_iconst (v := 0) hx hb dL_readingAfter_21 (by decide) ?_
    exact xe_i hx hb hr hlocks hP hS rfl (by unfold gL_readingAfter; rw [if_pos hT]) (by rw [hT]; rfl) (Nat.le_of_ble_eq_true rfl) (Nat.le_of_ble_eq_true rfl) dL_readingAfter_22
def gL_minutesUntilStill (M : Mem) (x : Int32) : Mem := if tX7_minutesUntilStill M x = 0 then mU (gX7_minutesUntilStill M x) 133 0 (fX7_minutesUntilStill M x) else (gX7_minutesUntilStill M x)
theorem tL_minutesUntilStill (M : Mem) (x : Int32) : tX7_minutesUntilStill M x = 0 ∨ tX7_minutesUntilStill M x = 1 := by
  unfold tX7_minutesUntilStill tX7_instrumentAt
  (repeat' split) <;> simp_all
set_option maxHeartbeats 4000000 in
set_option maxRecDepth 100000 in
theorem c_L_minutesUntilStill (l : Launch) (hl0 : l.stackTraces = false) (D : va_G) (cy : Nat → ClassId) (b n : Nat) (hn : 134 ≤ n) (M : Mem) (x : Int32) (hcnt : CNT M 1) : Met l yL_minutesUntilStill wsL_minutesUntilStill ({ frames := 8, cells := 1, slots := 6, locals := 134 } : Room) (CP D cy b n fT M [.ref (b + 0), .int x, .ref (b + 133)]) (CQi D cy b n fT (cd [1] (tX7_minutesUntilStill M x)) (gL_minutesUntilStill M x)) 1 6 (fr b) := by
  refine met_ofWH (cc := cL_minutesUntilStill) (maxL := 4) (ret := some .int) (hh := [(0, 9, 12, 19)]) (by decide) rfl ?_
  intro p e s m args below meth c s₁ B hml hv
  obtain ⟨rfl, hP, hK, hX⟩ := hv
  have hx := B.exec
  have hb := B.bytes
  have hr := B.returns
  have hts := atoms_spec (ws := wsL_minutesUntilStill) B.pre
  have htab := vx_table (x := yL_minutesUntilStill) B (hts _ List.mem_cons_self)
  have hown : s.vm.findClass RL = some m.cls := findClass_of_methodNamed B.named
  have hlocks := B.notSynchronized
  have hS : va_S (fr b) s.heap s.heap [] := va_S.rf
  have hl := lv_entry ([.ref (b + 0), .int x, .ref (b + 133)]) (n := 4) (Nat.le_of_ble_eq_true rfl)
  rw [lg_entry_eq]
  generalize (lg_sl ([.ref (b + 0), .int x, .ref (b + 133)]) ++ List.replicate (4 - (lg_sl ([.ref (b + 0), .int x, .ref (b + 133)])).length) Slot.unset).toArray = ls at hl ⊢
  have hl : lv_has ls 4 [(0, .ref (b + 0)), (1, .int x), (2, .ref (b + 133))] := hl
  refine lv_aload_n hx hb dL_minutesUntilStill_0 rfl (lv_at hl 2 rfl) ?_
  refine lv_iconst (v := 0) hx hb dL_minutesUntilStill_1 (by decide) ?_
  refine lv_aload_n hx hb dL_minutesUntilStill_2 rfl (lv_at hl 0 rfl) ?_
  refine lv_iload_n hx hb dL_minutesUntilStill_3 rfl (lv_at hl 1 rfl) ?_
  refine xct_i (vx_runV (As := [.int x]) (rest := [.int 0, .ref (b + 133)]) ⟨hx, hb, hml, hown, hts⟩ (c_X7_minutesUntilStill l hl0 D cy b n (by omega) M x hcnt) (cwV 1 hts gL_minutesUntilStill_X7_minutesUntilStill rfl rfl rfl (by decide +kernel) ⟨Nat.le_of_ble_eq_true rfl, Nat.le_of_ble_eq_true rfl⟩) (xPreV hP hK hX hS (by omega) (cell7 (by decide)) rfl) rfl rfl hl.1 rfl (lv_room (Nat.le_of_ble_eq_true rfl)) dL_minutesUntilStill_4 ⟨Nat.le_of_ble_eq_true rfl, Nat.le_of_ble_eq_true rfl⟩) hS (fun E ce q H locs hE hP hS hc hv hcl => ?_) (fun H locs hT hP hS => ?_)
  · have hcs := tL_minutesUntilStill M x
    rcases hE with ⟨e1, rfl⟩ | ⟨e1, rfl⟩ | ⟨e1, rfl⟩
    · refine vx_catch hown [] ⟨0, 9, 12, 19⟩ [] (by rw [htab]; rfl) (fun z hz => absurd hz List.not_mem_nil) rfl (by decide) (hts (.classLink RL 19 "java/lang/IndexOutOfBoundsException") (by decide +kernel)) (va_Nw.use rfl (hX.2.2.2.2.2.2.2.1 "java/lang/IndexOutOfBoundsException" (by decide))) hc hv hcl ?_
      refine lv_astore_n (lv' := [(3, .ref q), (0, .ref (b + 0)), (1, .int x), (2, .ref (b + 133))]) hx hb dL_minutesUntilStill_12 rfl hl (by decide) rfl (fun ls hl => ?_)
      refine lv_iconst (v := 1) hx hb dL_minutesUntilStill_13 (by decide) ?_
      exact xe_i hx hb hr hlocks hP hS rfl (by unfold gL_minutesUntilStill; rw [if_neg (by rw [e1]; decide)]) (by rw [e1]; decide) (Nat.le_of_ble_eq_true rfl) (Nat.le_of_ble_eq_true rfl) dL_minutesUntilStill_14
    · exfalso; rw [e1] at hcs; revert hcs; decide
    · exfalso; rw [e1] at hcs; revert hcs; decide
  · refine lv_i2l hx hb dL_minutesUntilStill_7 rfl ?_
    refine xls (j := 0) (x := fX7_minutesUntilStill M x) (o := 133) hx hb hK hP hS (by omega) (by decide) (ixIn (a := 0) rfl (by decide) (by decide)) rfl dL_minutesUntilStill_8 (fun H locs hP hS => ?_)
    refine lv_goto (tgt := 15) hx hb dL_minutesUntilStill_9 (by decide) ?_
    refine lv_iconst (v := 0) hx hb dL_minutesUntilStill_15 (by decide) ?_
    exact xe_i hx hb hr hlocks hP hS rfl (by unfold gL_minutesUntilStill; rw [if_pos hT]) (by rw [hT]; rfl) (Nat.le_of_ble_eq_true rfl) (Nat.le_of_ble_eq_true rfl) dL_minutesUntilStill_16
def gL_advance (M : Mem) (x : Int32) : Mem := if tX7_advance M x = 0 then mU (gX7_advance M x) 133 0 (fX7_advance M x) else (gX7_advance M x)
theorem tL_advance (M : Mem) (x : Int32) : tX7_advance M x = 0 ∨ tX7_advance M x = 2 ∨ tX7_advance M x = 3 := by
  unfold tX7_advance
  (repeat' split) <;> simp_all
set_option maxHeartbeats 4000000 in
set_option maxRecDepth 100000 in
theorem c_L_advance (l : Launch) (hl0 : l.stackTraces = false) (D : va_G) (cy : Nat → ClassId) (b n : Nat) (hn : 134 ≤ n) (M : Mem) (x : Int32) (hcnt : CNT M 1) (hnx : UB (M 20 1) 9) : Met l yL_advance wsL_advance ({ frames := 7, cells := 1, slots := 6, locals := 111 } : Room) (CP D cy b n fT M [.ref (b + 0), .int x, .ref (b + 133)]) (CQi D cy b n fT (cd [2, 3] (tX7_advance M x)) (gL_advance M x)) 1 6 (fr b) := by
  refine met_ofWH (cc := cL_advance) (maxL := 4) (ret := some .int) (hh := [(0, 9, 12, 21), (0, 9, 15, 13)]) (by decide) rfl ?_
  intro p e s m args below meth c s₁ B hml hv
  obtain ⟨rfl, hP, hK, hX⟩ := hv
  have hx := B.exec
  have hb := B.bytes
  have hr := B.returns
  have hts := atoms_spec (ws := wsL_advance) B.pre
  have htab := vx_table (x := yL_advance) B (hts _ List.mem_cons_self)
  have hown : s.vm.findClass RL = some m.cls := findClass_of_methodNamed B.named
  have hlocks := B.notSynchronized
  have hS : va_S (fr b) s.heap s.heap [] := va_S.rf
  have hl := lv_entry ([.ref (b + 0), .int x, .ref (b + 133)]) (n := 4) (Nat.le_of_ble_eq_true rfl)
  rw [lg_entry_eq]
  generalize (lg_sl ([.ref (b + 0), .int x, .ref (b + 133)]) ++ List.replicate (4 - (lg_sl ([.ref (b + 0), .int x, .ref (b + 133)])).length) Slot.unset).toArray = ls at hl ⊢
  have hl : lv_has ls 4 [(0, .ref (b + 0)), (1, .int x), (2, .ref (b + 133))] := hl
  refine lv_aload_n hx hb dL_advance_0 rfl (lv_at hl 2 rfl) ?_
  refine lv_iconst (v := 0) hx hb dL_advance_1 (by decide) ?_
  refine lv_aload_n hx hb dL_advance_2 rfl (lv_at hl 0 rfl) ?_
  refine lv_iload_n hx hb dL_advance_3 rfl (lv_at hl 1 rfl) ?_
  refine xct_i (vx_runV (As := [.int x]) (rest := [.int 0, .ref (b + 133)]) ⟨hx, hb, hml, hown, hts⟩ (c_X7_advance l hl0 D cy b n (by omega) M x hcnt hnx) (cwV 1 hts gL_advance_X7_advance rfl rfl rfl (by decide +kernel) ⟨Nat.le_of_ble_eq_true rfl, Nat.le_of_ble_eq_true rfl⟩) (xPreV hP hK hX hS (by omega) (cell7 (by decide)) rfl) rfl rfl hl.1 rfl (lv_room (Nat.le_of_ble_eq_true rfl)) dL_advance_4 ⟨Nat.le_of_ble_eq_true rfl, Nat.le_of_ble_eq_true rfl⟩) hS (fun E ce q H locs hE hP hS hc hv hcl => ?_) (fun H locs hT hP hS => ?_)
  · have hcs := tL_advance M x
    rcases hE with ⟨e1, rfl⟩ | ⟨e1, rfl⟩ | ⟨e1, rfl⟩
    · exfalso; rw [e1] at hcs; revert hcs; decide
    · refine vx_catch hown [] ⟨0, 9, 12, 21⟩ [⟨0, 9, 15, 13⟩] (by rw [htab]; rfl) (fun z hz => absurd hz List.not_mem_nil) rfl (by decide) (hts (.classLink RL 21 "java/lang/IllegalArgumentException") (by decide +kernel)) (va_Nw.use rfl (hX.2.2.2.2.2.2.2.1 "java/lang/IllegalArgumentException" (by decide))) hc hv hcl ?_
      refine lv_astore_n (lv' := [(3, .ref q), (0, .ref (b + 0)), (1, .int x), (2, .ref (b + 133))]) hx hb dL_advance_12 rfl hl (by decide) rfl (fun ls hl => ?_)
      refine lv_iconst (v := 1) hx hb dL_advance_13 (by decide) ?_
      exact xe_i hx hb hr hlocks hP hS rfl (by unfold gL_advance; rw [if_neg (by rw [e1]; decide)]) (by rw [e1]; decide) (Nat.le_of_ble_eq_true rfl) (Nat.le_of_ble_eq_true rfl) dL_advance_14
    · refine vx_catch hown [⟨0, 9, 12, 21⟩] ⟨0, 9, 15, 13⟩ [] (by rw [htab]; rfl) (fun z hz => by rw [List.mem_singleton.mp hz]; exact Or.inr ⟨by decide, "java/lang/IllegalArgumentException", hts (.classLink RL 21 "java/lang/IllegalArgumentException") (by decide +kernel), hX.2.2.2.2.2.2.2.2.1 ("java/lang/IllegalStateException", "java/lang/IllegalArgumentException") (by decide)⟩) rfl (by decide) (hts (.classLink RL 13 "java/lang/IllegalStateException") (by decide +kernel)) (va_Nw.use rfl (hX.2.2.2.2.2.2.2.1 "java/lang/IllegalStateException" (by decide))) hc hv hcl ?_
      refine lv_astore_n (lv' := [(3, .ref q), (0, .ref (b + 0)), (1, .int x), (2, .ref (b + 133))]) hx hb dL_advance_15 rfl hl (by decide) rfl (fun ls hl => ?_)
      refine lv_iconst (v := 2) hx hb dL_advance_16 (by decide) ?_
      exact xe_i hx hb hr hlocks hP hS rfl (by unfold gL_advance; rw [if_neg (by rw [e1]; decide)]) (by rw [e1]; decide) (Nat.le_of_ble_eq_true rfl) (Nat.le_of_ble_eq_true rfl) dL_advance_17
  · refine lv_i2l hx hb dL_advance_7 rfl ?_
    refine xls (j := 0) (x := fX7_advance M x) (o := 133) hx hb hK hP hS (by omega) (by decide) (ixIn (a := 0) rfl (by decide) (by decide)) rfl dL_advance_8 (fun H locs hP hS => ?_)
    refine lv_goto (tgt := 18) hx hb dL_advance_9 (by decide) ?_
    refine lv_iconst (v := 0) hx hb dL_advance_18 (by decide) ?_
    exact xe_i hx hb hr hlocks hP hS rfl (by unfold gL_advance; rw [if_pos hT]) (by rw [hT]; rfl) (Nat.le_of_ble_eq_true rfl) (Nat.le_of_ble_eq_true rfl) dL_advance_19
def gL_setHumidity (M : Mem) (x : Int32) : Mem := if tX7_setHumidity M x = 0 then mU (gX7_setHumidity M x) 133 0 (fX7_setHumidity M x) else (gX7_setHumidity M x)
theorem tL_setHumidity (M : Mem) (x : Int32) : tX7_setHumidity M x = 0 ∨ tX7_setHumidity M x = 2 := by
  unfold tX7_setHumidity
  (repeat' split) <;> simp_all
set_option maxHeartbeats 4000000 in
set_option maxRecDepth 100000 in
theorem c_L_setHumidity (l : Launch) (hl0 : l.stackTraces = false) (D : va_G) (cy : Nat → ClassId) (b n : Nat) (hn : 134 ≤ n) (M : Mem) (x : Int32) (hcnt : CNT M 1) (hnx : UB (M 20 1) 9) : Met l yL_setHumidity wsL_setHumidity ({ frames := 7, cells := 1, slots := 6, locals := 112 } : Room) (CP D cy b n fT M [.ref (b + 0), .int x, .ref (b + 133)]) (CQi D cy b n fT (cd [2] (tX7_setHumidity M x)) (gL_setHumidity M x)) 1 6 (fr b) := by
  refine met_ofWH (cc := cL_setHumidity) (maxL := 4) (ret := some .int) (hh := [(0, 9, 12, 21)]) (by decide) rfl ?_
  intro p e s m args below meth c s₁ B hml hv
  obtain ⟨rfl, hP, hK, hX⟩ := hv
  have hx := B.exec
  have hb := B.bytes
  have hr := B.returns
  have hts := atoms_spec (ws := wsL_setHumidity) B.pre
  have htab := vx_table (x := yL_setHumidity) B (hts _ List.mem_cons_self)
  have hown : s.vm.findClass RL = some m.cls := findClass_of_methodNamed B.named
  have hlocks := B.notSynchronized
  have hS : va_S (fr b) s.heap s.heap [] := va_S.rf
  have hl := lv_entry ([.ref (b + 0), .int x, .ref (b + 133)]) (n := 4) (Nat.le_of_ble_eq_true rfl)
  rw [lg_entry_eq]
  generalize (lg_sl ([.ref (b + 0), .int x, .ref (b + 133)]) ++ List.replicate (4 - (lg_sl ([.ref (b + 0), .int x, .ref (b + 133)])).length) Slot.unset).toArray = ls at hl ⊢
  have hl : lv_has ls 4 [(0, .ref (b + 0)), (1, .int x), (2, .ref (b + 133))] := hl
  refine lv_aload_n hx hb dL_setHumidity_0 rfl (lv_at hl 2 rfl) ?_
  refine lv_iconst (v := 0) hx hb dL_setHumidity_1 (by decide) ?_
  refine lv_aload_n hx hb dL_setHumidity_2 rfl (lv_at hl 0 rfl) ?_
  refine lv_iload_n hx hb dL_setHumidity_3 rfl (lv_at hl 1 rfl) ?_
  refine xct_i (vx_runV (As := [.int x]) (rest := [.int 0, .ref (b + 133)]) ⟨hx, hb, hml, hown, hts⟩ (c_X7_setHumidity l hl0 D cy b n (by omega) M x hcnt hnx) (cwV 1 hts gL_setHumidity_X7_setHumidity rfl rfl rfl (by decide +kernel) ⟨Nat.le_of_ble_eq_true rfl, Nat.le_of_ble_eq_true rfl⟩) (xPreV hP hK hX hS (by omega) (cell7 (by decide)) rfl) rfl rfl hl.1 rfl (lv_room (Nat.le_of_ble_eq_true rfl)) dL_setHumidity_4 ⟨Nat.le_of_ble_eq_true rfl, Nat.le_of_ble_eq_true rfl⟩) hS (fun E ce q H locs hE hP hS hc hv hcl => ?_) (fun H locs hT hP hS => ?_)
  · have hcs := tL_setHumidity M x
    rcases hE with ⟨e1, rfl⟩ | ⟨e1, rfl⟩ | ⟨e1, rfl⟩
    · exfalso; rw [e1] at hcs; revert hcs; decide
    · refine vx_catch hown [] ⟨0, 9, 12, 21⟩ [] (by rw [htab]; rfl) (fun z hz => absurd hz List.not_mem_nil) rfl (by decide) (hts (.classLink RL 21 "java/lang/IllegalArgumentException") (by decide +kernel)) (va_Nw.use rfl (hX.2.2.2.2.2.2.2.1 "java/lang/IllegalArgumentException" (by decide))) hc hv hcl ?_
      refine lv_astore_n (lv' := [(3, .ref q), (0, .ref (b + 0)), (1, .int x), (2, .ref (b + 133))]) hx hb dL_setHumidity_12 rfl hl (by decide) rfl (fun ls hl => ?_)
      refine lv_iconst (v := 1) hx hb dL_setHumidity_13 (by decide) ?_
      exact xe_i hx hb hr hlocks hP hS rfl (by unfold gL_setHumidity; rw [if_neg (by rw [e1]; decide)]) (by rw [e1]; decide) (Nat.le_of_ble_eq_true rfl) (Nat.le_of_ble_eq_true rfl) dL_setHumidity_14
    · exfalso; rw [e1] at hcs; revert hcs; decide
  · refine lv_i2l hx hb dL_setHumidity_7 rfl ?_
    refine xls (j := 0) (x := fX7_setHumidity M x) (o := 133) hx hb hK hP hS (by omega) (by decide) (ixIn (a := 0) rfl (by decide) (by decide)) rfl dL_setHumidity_8 (fun H locs hP hS => ?_)
    refine lv_goto (tgt := 15) hx hb dL_setHumidity_9 (by decide) ?_
    refine lv_iconst (v := 0) hx hb dL_setHumidity_15 (by decide) ?_
    exact xe_i hx hb hr hlocks hP hS rfl (by unfold gL_setHumidity; rw [if_pos hT]) (by rw [hT]; rfl) (Nat.le_of_ble_eq_true rfl) (Nat.le_of_ble_eq_true rfl) dL_setHumidity_16
def gL_setTemperature (M : Mem) (x : Int32) : Mem := if tX7_setTemperature M x = 0 then mU (gX7_setTemperature M x) 133 0 (fX7_setTemperature M x) else (gX7_setTemperature M x)
theorem tL_setTemperature (M : Mem) (x : Int32) : tX7_setTemperature M x = 0 ∨ tX7_setTemperature M x = 2 := by
  unfold tX7_setTemperature
  (repeat' split) <;> simp_all
set_option maxHeartbeats 4000000 in
set_option maxRecDepth 100000 in
theorem c_L_setTemperature (l : Launch) (hl0 : l.stackTraces = false) (D : va_G) (cy : Nat → ClassId) (b n : Nat) (hn : 134 ≤ n) (M : Mem) (x : Int32) (hcnt : CNT M 1) (hnx : UB (M 20 1) 9) : Met l yL_setTemperature wsL_setTemperature ({ frames := 7, cells := 1, slots := 6, locals := 112 } : Room) (CP D cy b n fT M [.ref (b + 0), .int x, .ref (b + 133)]) (CQi D cy b n fT (cd [2] (tX7_setTemperature M x)) (gL_setTemperature M x)) 1 6 (fr b) := by
  refine met_ofWH (cc := cL_setTemperature) (maxL := 4) (ret := some .int) (hh := [(0, 9, 12, 21)]) (by decide) rfl ?_
  intro p e s m args below meth c s₁ B hml hv
  obtain ⟨rfl, hP, hK, hX⟩ := hv
  have hx := B.exec
  have hb := B.bytes
  have hr := B.returns
  have hts := atoms_spec (ws := wsL_setTemperature) B.pre
  have htab := vx_table (x := yL_setTemperature) B (hts _ List.mem_cons_self)
  have hown : s.vm.findClass RL = some m.cls := findClass_of_methodNamed B.named
  have hlocks := B.notSynchronized
  have hS : va_S (fr b) s.heap s.heap [] := va_S.rf
  have hl := lv_entry ([.ref (b + 0), .int x, .ref (b + 133)]) (n := 4) (Nat.le_of_ble_eq_true rfl)
  rw [lg_entry_eq]
  generalize (lg_sl ([.ref (b + 0), .int x, .ref (b + 133)]) ++ List.replicate (4 - (lg_sl ([.ref (b + 0), .int x, .ref (b + 133)])).length) Slot.unset).toArray = ls at hl ⊢
  have hl : lv_has ls 4 [(0, .ref (b + 0)), (1, .int x), (2, .ref (b + 133))] := hl
  refine lv_aload_n hx hb dL_setTemperature_0 rfl (lv_at hl 2 rfl) ?_
  refine lv_iconst (v := 0) hx hb dL_setTemperature_1 (by decide) ?_
  refine lv_aload_n hx hb dL_setTemperature_2 rfl (lv_at hl 0 rfl) ?_
  refine lv_iload_n hx hb dL_setTemperature_3 rfl (lv_at hl 1 rfl) ?_
  refine xct_i (vx_runV (As := [.int x]) (rest := [.int 0, .ref (b + 133)]) ⟨hx, hb, hml, hown, hts⟩ (c_X7_setTemperature l hl0 D cy b n (by omega) M x hcnt hnx) (cwV 1 hts gL_setTemperature_X7_setTemperature rfl rfl rfl (by decide +kernel) ⟨Nat.le_of_ble_eq_true rfl, Nat.le_of_ble_eq_true rfl⟩) (xPreV hP hK hX hS (by omega) (cell7 (by decide)) rfl) rfl rfl hl.1 rfl (lv_room (Nat.le_of_ble_eq_true rfl)) dL_setTemperature_4 ⟨Nat.le_of_ble_eq_true rfl, Nat.le_of_ble_eq_true rfl⟩) hS (fun E ce q H locs hE hP hS hc hv hcl => ?_) (fun H locs hT hP hS => ?_)
  · have hcs := tL_setTemperature M x
    rcases hE with ⟨e1, rfl⟩ | ⟨e1, rfl⟩ | ⟨e1, rfl⟩
    · exfalso; rw [e1] at hcs; revert hcs; decide
    · refine vx_catch hown [] ⟨0, 9, 12, 21⟩ [] (by rw [htab]; rfl) (fun z hz => absurd hz List.not_mem_nil) rfl (by decide) (hts (.classLink RL 21 "java/lang/IllegalArgumentException") (by decide +kernel)) (va_Nw.use rfl (hX.2.2.2.2.2.2.2.1 "java/lang/IllegalArgumentException" (by decide))) hc hv hcl ?_
      refine lv_astore_n (lv' := [(3, .ref q), (0, .ref (b + 0)), (1, .int x), (2, .ref (b + 133))]) hx hb dL_setTemperature_12 rfl hl (by decide) rfl (fun ls hl => ?_)
      refine lv_iconst (v := 1) hx hb dL_setTemperature_13 (by decide) ?_
      exact xe_i hx hb hr hlocks hP hS rfl (by unfold gL_setTemperature; rw [if_neg (by rw [e1]; decide)]) (by rw [e1]; decide) (Nat.le_of_ble_eq_true rfl) (Nat.le_of_ble_eq_true rfl) dL_setTemperature_14
    · exfalso; rw [e1] at hcs; revert hcs; decide
  · refine lv_i2l hx hb dL_setTemperature_7 rfl ?_
    refine xls (j := 0) (x := fX7_setTemperature M x) (o := 133) hx hb hK hP hS (by omega) (by decide) (ixIn (a := 0) rfl (by decide) (by decide)) rfl dL_setTemperature_8 (fun H locs hP hS => ?_)
    refine lv_goto (tgt := 15) hx hb dL_setTemperature_9 (by decide) ?_
    refine lv_iconst (v := 0) hx hb dL_setTemperature_15 (by decide) ?_
    exact xe_i hx hb hr hlocks hP hS rfl (by unfold gL_setTemperature; rw [if_pos hT]) (by rw [hT]; rfl) (Nat.le_of_ble_eq_true rfl) (Nat.le_of_ble_eq_true rfl) dL_setTemperature_16
def gL_setSkill (M : Mem) (x : Int32) : Mem := if tX7_setSkill M x = 0 then mU (gX7_setSkill M x) 133 0 (fX7_setSkill M x) else (gX7_setSkill M x)
theorem tL_setSkill (M : Mem) (x : Int32) : tX7_setSkill M x = 0 ∨ tX7_setSkill M x = 2 := by
  unfold tX7_setSkill
  (repeat' split) <;> simp_all
set_option maxHeartbeats 4000000 in
set_option maxRecDepth 100000 in
theorem c_L_setSkill (l : Launch) (hl0 : l.stackTraces = false) (D : va_G) (cy : Nat → ClassId) (b n : Nat) (hn : 134 ≤ n) (M : Mem) (x : Int32) (hcnt : CNT M 1) (hnx : UB (M 20 1) 9) : Met l yL_setSkill wsL_setSkill ({ frames := 7, cells := 1, slots := 6, locals := 112 } : Room) (CP D cy b n fT M [.ref (b + 0), .int x, .ref (b + 133)]) (CQi D cy b n fT (cd [2] (tX7_setSkill M x)) (gL_setSkill M x)) 1 6 (fr b) := by
  refine met_ofWH (cc := cL_setSkill) (maxL := 4) (ret := some .int) (hh := [(0, 9, 12, 21)]) (by decide) rfl ?_
  intro p e s m args below meth c s₁ B hml hv
  obtain ⟨rfl, hP, hK, hX⟩ := hv
  have hx := B.exec
  have hb := B.bytes
  have hr := B.returns
  have hts := atoms_spec (ws := wsL_setSkill) B.pre
  have htab := vx_table (x := yL_setSkill) B (hts _ List.mem_cons_self)
  have hown : s.vm.findClass RL = some m.cls := findClass_of_methodNamed B.named
  have hlocks := B.notSynchronized
  have hS : va_S (fr b) s.heap s.heap [] := va_S.rf
  have hl := lv_entry ([.ref (b + 0), .int x, .ref (b + 133)]) (n := 4) (Nat.le_of_ble_eq_true rfl)
  rw [lg_entry_eq]
  generalize (lg_sl ([.ref (b + 0), .int x, .ref (b + 133)]) ++ List.replicate (4 - (lg_sl ([.ref (b + 0), .int x, .ref (b + 133)])).length) Slot.unset).toArray = ls at hl ⊢
  have hl : lv_has ls 4 [(0, .ref (b + 0)), (1, .int x), (2, .ref (b + 133))] := hl
  refine lv_aload_n hx hb dL_setSkill_0 rfl (lv_at hl 2 rfl) ?_
  refine lv_iconst (v := 0) hx hb dL_setSkill_1 (by decide) ?_
  refine lv_aload_n hx hb dL_setSkill_2 rfl (lv_at hl 0 rfl) ?_
  refine lv_iload_n hx hb dL_setSkill_3 rfl (lv_at hl 1 rfl) ?_
  refine xct_i (vx_runV (As := [.int x]) (rest := [.int 0, .ref (b + 133)]) ⟨hx, hb, hml, hown, hts⟩ (c_X7_setSkill l hl0 D cy b n (by omega) M x hcnt hnx) (cwV 1 hts gL_setSkill_X7_setSkill rfl rfl rfl (by decide +kernel) ⟨Nat.le_of_ble_eq_true rfl, Nat.le_of_ble_eq_true rfl⟩) (xPreV hP hK hX hS (by omega) (cell7 (by decide)) rfl) rfl rfl hl.1 rfl (lv_room (Nat.le_of_ble_eq_true rfl)) dL_setSkill_4 ⟨Nat.le_of_ble_eq_true rfl, Nat.le_of_ble_eq_true rfl⟩) hS (fun E ce q H locs hE hP hS hc hv hcl => ?_) (fun H locs hT hP hS => ?_)
  · have hcs := tL_setSkill M x
    rcases hE with ⟨e1, rfl⟩ | ⟨e1, rfl⟩ | ⟨e1, rfl⟩
    · exfalso; rw [e1] at hcs; revert hcs; decide
    · refine vx_catch hown [] ⟨0, 9, 12, 21⟩ [] (by rw [htab]; rfl) (fun z hz => absurd hz List.not_mem_nil) rfl (by decide) (hts (.classLink RL 21 "java/lang/IllegalArgumentException") (by decide +kernel)) (va_Nw.use rfl (hX.2.2.2.2.2.2.2.1 "java/lang/IllegalArgumentException" (by decide))) hc hv hcl ?_
      refine lv_astore_n (lv' := [(3, .ref q), (0, .ref (b + 0)), (1, .int x), (2, .ref (b + 133))]) hx hb dL_setSkill_12 rfl hl (by decide) rfl (fun ls hl => ?_)
      refine lv_iconst (v := 1) hx hb dL_setSkill_13 (by decide) ?_
      exact xe_i hx hb hr hlocks hP hS rfl (by unfold gL_setSkill; rw [if_neg (by rw [e1]; decide)]) (by rw [e1]; decide) (Nat.le_of_ble_eq_true rfl) (Nat.le_of_ble_eq_true rfl) dL_setSkill_14
    · exfalso; rw [e1] at hcs; revert hcs; decide
  · refine lv_i2l hx hb dL_setSkill_7 rfl ?_
    refine xls (j := 0) (x := fX7_setSkill M x) (o := 133) hx hb hK hP hS (by omega) (by decide) (ixIn (a := 0) rfl (by decide) (by decide)) rfl dL_setSkill_8 (fun H locs hP hS => ?_)
    refine lv_goto (tgt := 15) hx hb dL_setSkill_9 (by decide) ?_
    refine lv_iconst (v := 0) hx hb dL_setSkill_15 (by decide) ?_
    exact xe_i hx hb hr hlocks hP hS rfl (by unfold gL_setSkill; rw [if_pos hT]) (by rw [hT]; rfl) (Nat.le_of_ble_eq_true rfl) (Nat.le_of_ble_eq_true rfl) dL_setSkill_16
def gL_putInBox (M : Mem) (x : Int32) (y : Int32) : Mem := if tX7_putInBox M x y = 0 then mU (gX7_putInBox M x y) 133 0 (fX7_putInBox M x y) else (gX7_putInBox M x y)
theorem tL_putInBox (M : Mem) (x : Int32) (y : Int32) : tX7_putInBox M x y = 0 ∨ tX7_putInBox M x y = 1 ∨ tX7_putInBox M x y = 2 ∨ tX7_putInBox M x y = 3 := by
  unfold tX7_putInBox tX7_instrumentAt
  (repeat' split) <;> simp_all
set_option maxHeartbeats 4000000 in
set_option maxRecDepth 100000 in
theorem c_L_putInBox (l : Launch) (hl0 : l.stackTraces = false) (D : va_G) (cy : Nat → ClassId) (b n : Nat) (hn : 134 ≤ n) (M : Mem) (x : Int32) (y : Int32) (hcnt : CNT M 1) (hnx : UB (M 20 1) 9) : Met l yL_putInBox wsL_putInBox ({ frames := 8, cells := 2, slots := 12, locals := 135 } : Room) (CP D cy b n fT M [.ref (b + 0), .int x, .int y, .ref (b + 133)]) (CQi D cy b n fT (cd [1, 2, 3] (tX7_putInBox M x y)) (gL_putInBox M x y)) 2 12 (fr b) := by
  refine met_ofWH (cc := cL_putInBox) (maxL := 5) (ret := some .int) (hh := [(0, 10, 13, 19), (0, 10, 17, 21), (0, 10, 21, 13)]) (by decide) rfl ?_
  intro p e s m args below meth c s₁ B hml hv
  obtain ⟨rfl, hP, hK, hX⟩ := hv
  have hx := B.exec
  have hb := B.bytes
  have hr := B.returns
  have hts := atoms_spec (ws := wsL_putInBox) B.pre
  have htab := vx_table (x := yL_putInBox) B (hts _ List.mem_cons_self)
  have hown : s.vm.findClass RL = some m.cls := findClass_of_methodNamed B.named
  have hlocks := B.notSynchronized
  have hS : va_S (fr b) s.heap s.heap [] := va_S.rf
  have hl := lv_entry ([.ref (b + 0), .int x, .int y, .ref (b + 133)]) (n := 5) (Nat.le_of_ble_eq_true rfl)
  rw [lg_entry_eq]
  generalize (lg_sl ([.ref (b + 0), .int x, .int y, .ref (b + 133)]) ++ List.replicate (5 - (lg_sl ([.ref (b + 0), .int x, .int y, .ref (b + 133)])).length) Slot.unset).toArray = ls at hl ⊢
  have hl : lv_has ls 5 [(0, .ref (b + 0)), (1, .int x), (2, .int y), (3, .ref (b + 133))] := hl
  refine lv_aload_n hx hb dL_putInBox_0 rfl (lv_at hl 3 rfl) ?_
  refine lv_iconst (v := 0) hx hb dL_putInBox_1 (by decide) ?_
  refine lv_aload_n hx hb dL_putInBox_2 rfl (lv_at hl 0 rfl) ?_
  refine lv_iload_n hx hb dL_putInBox_3 rfl (lv_at hl 1 rfl) ?_
  refine lv_iload_n hx hb dL_putInBox_4 rfl (lv_at hl 2 rfl) ?_
  refine xct_i (vx_runV (As := [.int x, .int y]) (rest := [.int 0, .ref (b + 133)]) ⟨hx, hb, hml, hown, hts⟩ (c_X7_putInBox l hl0 D cy b n (by omega) M x y hcnt hnx) (cwV 2 hts gL_putInBox_X7_putInBox rfl rfl rfl (by decide +kernel) ⟨Nat.le_of_ble_eq_true rfl, Nat.le_of_ble_eq_true rfl⟩) (xPreV hP hK hX hS (by omega) (cell7 (by decide)) rfl) rfl rfl hl.1 rfl (lv_room (Nat.le_of_ble_eq_true rfl)) dL_putInBox_5 ⟨Nat.le_of_ble_eq_true rfl, Nat.le_of_ble_eq_true rfl⟩) hS (fun E ce q H locs hE hP hS hc hv hcl => ?_) (fun H locs hT hP hS => ?_)
  · have hcs := tL_putInBox M x y
    rcases hE with ⟨e1, rfl⟩ | ⟨e1, rfl⟩ | ⟨e1, rfl⟩
    · refine vx_catch hown [] ⟨0, 10, 13, 19⟩ [⟨0, 10, 17, 21⟩, ⟨0, 10, 21, 13⟩] (by rw [htab]; rfl) (fun z hz => absurd hz List.not_mem_nil) rfl (by decide) (hts (.classLink RL 19 "java/lang/IndexOutOfBoundsException") (by decide +kernel)) (va_Nw.use rfl (hX.2.2.2.2.2.2.2.1 "java/lang/IndexOutOfBoundsException" (by decide))) hc hv hcl ?_
      refine lv_astore (lv' := [(4, .ref q), (0, .ref (b + 0)), (1, .int x), (2, .int y), (3, .ref (b + 133))]) hx hb dL_putInBox_13 hl (by decide) rfl (fun ls hl => ?_)
      refine lv_iconst (v := 1) hx hb dL_putInBox_15 (by decide) ?_
      exact xe_i hx hb hr hlocks hP hS rfl (by unfold gL_putInBox; rw [if_neg (by rw [e1]; decide)]) (by rw [e1]; decide) (Nat.le_of_ble_eq_true rfl) (Nat.le_of_ble_eq_true rfl) dL_putInBox_16
    · refine vx_catch hown [⟨0, 10, 13, 19⟩] ⟨0, 10, 17, 21⟩ [⟨0, 10, 21, 13⟩] (by rw [htab]; rfl) (fun z hz => by rw [List.mem_singleton.mp hz]; exact Or.inr ⟨by decide, "java/lang/IndexOutOfBoundsException", hts (.classLink RL 19 "java/lang/IndexOutOfBoundsException") (by decide +kernel), hX.2.2.2.2.2.2.2.2.1 ("java/lang/IllegalArgumentException", "java/lang/IndexOutOfBoundsException") (by decide)⟩) rfl (by decide) (hts (.classLink RL 21 "java/lang/IllegalArgumentException") (by decide +kernel)) (va_Nw.use rfl (hX.2.2.2.2.2.2.2.1 "java/lang/IllegalArgumentException" (by decide))) hc hv hcl ?_
      refine lv_astore (lv' := [(4, .ref q), (0, .ref (b + 0)), (1, .int x), (2, .int y), (3, .ref (b + 133))]) hx hb dL_putInBox_17 hl (by decide) rfl (fun ls hl => ?_)
      refine lv_iconst (v := 2) hx hb dL_putInBox_19 (by decide) ?_
      exact xe_i hx hb hr hlocks hP hS rfl (by unfold gL_putInBox; rw [if_neg (by rw [e1]; decide)]) (by rw [e1]; decide) (Nat.le_of_ble_eq_true rfl) (Nat.le_of_ble_eq_true rfl) dL_putInBox_20
    · refine vx_catch hown [⟨0, 10, 13, 19⟩, ⟨0, 10, 17, 21⟩] ⟨0, 10, 21, 13⟩ [] (by rw [htab]; rfl) (fun z hz => by rcases List.mem_cons.mp hz with h | h; (rw [h]; exact Or.inr ⟨by decide, "java/lang/IndexOutOfBoundsException", hts (.classLink RL 19 "java/lang/IndexOutOfBoundsException") (by decide +kernel), hX.2.2.2.2.2.2.2.2.1 ("java/lang/IllegalStateException", "java/lang/IndexOutOfBoundsException") (by decide)⟩); (rw [List.mem_singleton.mp h]; exact Or.inr ⟨by decide, "java/lang/IllegalArgumentException", hts (.classLink RL 21 "java/lang/IllegalArgumentException") (by decide +kernel), hX.2.2.2.2.2.2.2.2.1 ("java/lang/IllegalStateException", "java/lang/IllegalArgumentException") (by decide)⟩)) rfl (by decide) (hts (.classLink RL 13 "java/lang/IllegalStateException") (by decide +kernel)) (va_Nw.use rfl (hX.2.2.2.2.2.2.2.1 "java/lang/IllegalStateException" (by decide))) hc hv hcl ?_
      refine lv_astore (lv' := [(4, .ref q), (0, .ref (b + 0)), (1, .int x), (2, .int y), (3, .ref (b + 133))]) hx hb dL_putInBox_21 hl (by decide) rfl (fun ls hl => ?_)
      refine lv_iconst (v := 3) hx hb dL_putInBox_23 (by decide) ?_
      exact xe_i hx hb hr hlocks hP hS rfl (by unfold gL_putInBox; rw [if_neg (by rw [e1]; decide)]) (by rw [e1]; decide) (Nat.le_of_ble_eq_true rfl) (Nat.le_of_ble_eq_true rfl) dL_putInBox_24
  · refine lv_i2l hx hb dL_putInBox_8 rfl ?_
    refine xls (j := 0) (x := fX7_putInBox M x y) (o := 133) hx hb hK hP hS (by omega) (by decide) (ixIn (a := 0) rfl (by decide) (by decide)) rfl dL_putInBox_9 (fun H locs hP hS => ?_)
    refine lv_goto (tgt := 25) hx hb dL_putInBox_10 (by decide) ?_
    refine lv_iconst (v := 0) hx hb dL_putInBox_25 (by decide) ?_
    exact xe_i hx hb hr hlocks hP hS rfl (by unfold gL_putInBox; rw [if_pos hT]) (by rw [hT]; rfl) (Nat.le_of_ble_eq_true rfl) (Nat.le_of_ble_eq_true rfl) dL_putInBox_26
def gL_takeOut (M : Mem) (x : Int32) : Mem := if tX7_takeOut M x = 0 then mU (gX7_takeOut M x) 133 0 (fX7_takeOut M x) else (gX7_takeOut M x)
theorem tL_takeOut (M : Mem) (x : Int32) : tX7_takeOut M x = 0 ∨ tX7_takeOut M x = 1 ∨ tX7_takeOut M x = 3 := by
  unfold tX7_takeOut tX7_instrumentAt
  (repeat' split) <;> simp_all
set_option maxHeartbeats 4000000 in
set_option maxRecDepth 100000 in
theorem c_L_takeOut (l : Launch) (hl0 : l.stackTraces = false) (D : va_G) (cy : Nat → ClassId) (b n : Nat) (hn : 134 ≤ n) (M : Mem) (x : Int32) (hcnt : CNT M 1) (hnx : UB (M 20 1) 9) : Met l yL_takeOut wsL_takeOut ({ frames := 8, cells := 2, slots := 12, locals := 135 } : Room) (CP D cy b n fT M [.ref (b + 0), .int x, .ref (b + 133)]) (CQi D cy b n fT (cd [1, 3] (tX7_takeOut M x)) (gL_takeOut M x)) 2 12 (fr b) := by
  refine met_ofWH (cc := cL_takeOut) (maxL := 4) (ret := some .int) (hh := [(0, 9, 12, 19), (0, 9, 15, 13)]) (by decide) rfl ?_
  intro p e s m args below meth c s₁ B hml hv
  obtain ⟨rfl, hP, hK, hX⟩ := hv
  have hx := B.exec
  have hb := B.bytes
  have hr := B.returns
  have hts := atoms_spec (ws := wsL_takeOut) B.pre
  have htab := vx_table (x := yL_takeOut) B (hts _ List.mem_cons_self)
  have hown : s.vm.findClass RL = some m.cls := findClass_of_methodNamed B.named
  have hlocks := B.notSynchronized
  have hS : va_S (fr b) s.heap s.heap [] := va_S.rf
  have hl := lv_entry ([.ref (b + 0), .int x, .ref (b + 133)]) (n := 4) (Nat.le_of_ble_eq_true rfl)
  rw [lg_entry_eq]
  generalize (lg_sl ([.ref (b + 0), .int x, .ref (b + 133)]) ++ List.replicate (4 - (lg_sl ([.ref (b + 0), .int x, .ref (b + 133)])).length) Slot.unset).toArray = ls at hl ⊢
  have hl : lv_has ls 4 [(0, .ref (b + 0)), (1, .int x), (2, .ref (b + 133))] := hl
  refine lv_aload_n hx hb dL_takeOut_0 rfl (lv_at hl 2 rfl) ?_
  refine lv_iconst (v := 0) hx hb dL_takeOut_1 (by decide) ?_
  refine lv_aload_n hx hb dL_takeOut_2 rfl (lv_at hl 0 rfl) ?_
  refine lv_iload_n hx hb dL_takeOut_3 rfl (lv_at hl 1 rfl) ?_
  refine xct_i (vx_runV (As := [.int x]) (rest := [.int 0, .ref (b + 133)]) ⟨hx, hb, hml, hown, hts⟩ (c_X7_takeOut l hl0 D cy b n (by omega) M x hcnt hnx) (cwV 1 hts gL_takeOut_X7_takeOut rfl rfl rfl (by decide +kernel) ⟨Nat.le_of_ble_eq_true rfl, Nat.le_of_ble_eq_true rfl⟩) (xPreV hP hK hX hS (by omega) (cell7 (by decide)) rfl) rfl rfl hl.1 rfl (lv_room (Nat.le_of_ble_eq_true rfl)) dL_takeOut_4 ⟨Nat.le_of_ble_eq_true rfl, Nat.le_of_ble_eq_true rfl⟩) hS (fun E ce q H locs hE hP hS hc hv hcl => ?_) (fun H locs hT hP hS => ?_)
  · have hcs := tL_takeOut M x
    rcases hE with ⟨e1, rfl⟩ | ⟨e1, rfl⟩ | ⟨e1, rfl⟩
    · refine vx_catch hown [] ⟨0, 9, 12, 19⟩ [⟨0, 9, 15, 13⟩] (by rw [htab]; rfl) (fun z hz => absurd hz List.not_mem_nil) rfl (by decide) (hts (.classLink RL 19 "java/lang/IndexOutOfBoundsException") (by decide +kernel)) (va_Nw.use rfl (hX.2.2.2.2.2.2.2.1 "java/lang/IndexOutOfBoundsException" (by decide))) hc hv hcl ?_
      refine lv_astore_n (lv' := [(3, .ref q), (0, .ref (b + 0)), (1, .int x), (2, .ref (b + 133))]) hx hb dL_takeOut_12 rfl hl (by decide) rfl (fun ls hl => ?_)
      refine lv_iconst (v := 1) hx hb dL_takeOut_13 (by decide) ?_
      exact xe_i hx hb hr hlocks hP hS rfl (by unfold gL_takeOut; rw [if_neg (by rw [e1]; decide)]) (by rw [e1]; decide) (Nat.le_of_ble_eq_true rfl) (Nat.le_of_ble_eq_true rfl) dL_takeOut_14
    · exfalso; rw [e1] at hcs; revert hcs; decide
    · refine vx_catch hown [⟨0, 9, 12, 19⟩] ⟨0, 9, 15, 13⟩ [] (by rw [htab]; rfl) (fun z hz => by rw [List.mem_singleton.mp hz]; exact Or.inr ⟨by decide, "java/lang/IndexOutOfBoundsException", hts (.classLink RL 19 "java/lang/IndexOutOfBoundsException") (by decide +kernel), hX.2.2.2.2.2.2.2.2.1 ("java/lang/IllegalStateException", "java/lang/IndexOutOfBoundsException") (by decide)⟩) rfl (by decide) (hts (.classLink RL 13 "java/lang/IllegalStateException") (by decide +kernel)) (va_Nw.use rfl (hX.2.2.2.2.2.2.2.1 "java/lang/IllegalStateException" (by decide))) hc hv hcl ?_
      refine lv_astore_n (lv' := [(3, .ref q), (0, .ref (b + 0)), (1, .int x), (2, .ref (b + 133))]) hx hb dL_takeOut_15 rfl hl (by decide) rfl (fun ls hl => ?_)
      refine lv_iconst (v := 2) hx hb dL_takeOut_16 (by decide) ?_
      exact xe_i hx hb hr hlocks hP hS rfl (by unfold gL_takeOut; rw [if_neg (by rw [e1]; decide)]) (by rw [e1]; decide) (Nat.le_of_ble_eq_true rfl) (Nat.le_of_ble_eq_true rfl) dL_takeOut_17
  · refine lv_i2l hx hb dL_takeOut_7 rfl ?_
    refine xls (j := 0) (x := fX7_takeOut M x) (o := 133) hx hb hK hP hS (by omega) (by decide) (ixIn (a := 0) rfl (by decide) (by decide)) rfl dL_takeOut_8 (fun H locs hP hS => ?_)
    refine lv_goto (tgt := 18) hx hb dL_takeOut_9 (by decide) ?_
    refine lv_iconst (v := 0) hx hb dL_takeOut_18 (by decide) ?_
    exact xe_i hx hb hr hlocks hP hS rfl (by unfold gL_takeOut; rw [if_pos hT]) (by rw [hT]; rfl) (Nat.le_of_ble_eq_true rfl) (Nat.le_of_ble_eq_true rfl) dL_takeOut_19
def gL_calibrate (M : Mem) (x : Int32) : Mem := if tX7_calibrate M x = 0 then mU (gX7_calibrate M x) 133 0 (fX7_calibrate M x) else (gX7_calibrate M x)
theorem tL_calibrate (M : Mem) (x : Int32) : tX7_calibrate M x = 0 ∨ tX7_calibrate M x = 1 ∨ tX7_calibrate M x = 3 := by
  unfold tX7_calibrate tX7_instrumentAt
  (repeat' split) <;> simp_all
set_option maxHeartbeats 4000000 in
set_option maxRecDepth 100000 in
theorem c_L_calibrate (l : Launch) (hl0 : l.stackTraces = false) (D : va_G) (cy : Nat → ClassId) (b n : Nat) (hn : 134 ≤ n) (M : Mem) (x : Int32) (hcnt : CNT M 1) (hnx : UB (M 20 1) 9) : Met l yL_calibrate wsL_calibrate ({ frames := 8, cells := 2, slots := 12, locals := 135 } : Room) (CP D cy b n fT M [.ref (b + 0), .int x, .ref (b + 133)]) (CQi D cy b n fT (cd [1, 3] (tX7_calibrate M x)) (gL_calibrate M x)) 2 12 (fr b) := by
  refine met_ofWH (cc := cL_calibrate) (maxL := 4) (ret := some .int) (hh := [(0, 9, 12, 19), (0, 9, 15, 13)]) (by decide) rfl ?_
  intro p e s m args below meth c s₁ B hml hv
  obtain ⟨rfl, hP, hK, hX⟩ := hv
  have hx := B.exec
  have hb := B.bytes
  have hr := B.returns
  have hts := atoms_spec (ws := wsL_calibrate) B.pre
  have htab := vx_table (x := yL_calibrate) B (hts _ List.mem_cons_self)
  have hown : s.vm.findClass RL = some m.cls := findClass_of_methodNamed B.named
  have hlocks := B.notSynchronized
  have hS : va_S (fr b) s.heap s.heap [] := va_S.rf
  have hl := lv_entry ([.ref (b + 0), .int x, .ref (b + 133)]) (n := 4) (Nat.le_of_ble_eq_true rfl)
  rw [lg_entry_eq]
  generalize (lg_sl ([.ref (b + 0), .int x, .ref (b + 133)]) ++ List.replicate (4 - (lg_sl ([.ref (b + 0), .int x, .ref (b + 133)])).length) Slot.unset).toArray = ls at hl ⊢
  have hl : lv_has ls 4 [(0, .ref (b + 0)), (1, .int x), (2, .ref (b + 133))] := hl
  refine lv_aload_n hx hb dL_calibrate_0 rfl (lv_at hl 2 rfl) ?_
  refine lv_iconst (v := 0) hx hb dL_calibrate_1 (by decide) ?_
  refine lv_aload_n hx hb dL_calibrate_2 rfl (lv_at hl 0 rfl) ?_
  refine lv_iload_n hx hb dL_calibrate_3 rfl (lv_at hl 1 rfl) ?_
  refine xct_i (vx_runV (As := [.int x]) (rest := [.int 0, .ref (b + 133)]) ⟨hx, hb, hml, hown, hts⟩ (c_X7_calibrate l hl0 D cy b n (by omega) M x hcnt hnx) (cwV 1 hts gL_calibrate_X7_calibrate rfl rfl rfl (by decide +kernel) ⟨Nat.le_of_ble_eq_true rfl, Nat.le_of_ble_eq_true rfl⟩) (xPreV hP hK hX hS (by omega) (cell7 (by decide)) rfl) rfl rfl hl.1 rfl (lv_room (Nat.le_of_ble_eq_true rfl)) dL_calibrate_4 ⟨Nat.le_of_ble_eq_true rfl, Nat.le_of_ble_eq_true rfl⟩) hS (fun E ce q H locs hE hP hS hc hv hcl => ?_) (fun H locs hT hP hS => ?_)
  · have hcs := tL_calibrate M x
    rcases hE with ⟨e1, rfl⟩ | ⟨e1, rfl⟩ | ⟨e1, rfl⟩
    · refine vx_catch hown [] ⟨0, 9, 12, 19⟩ [⟨0, 9, 15, 13⟩] (by rw [htab]; rfl) (fun z hz => absurd hz List.not_mem_nil) rfl (by decide) (hts (.classLink RL 19 "java/lang/IndexOutOfBoundsException") (by decide +kernel)) (va_Nw.use rfl (hX.2.2.2.2.2.2.2.1 "java/lang/IndexOutOfBoundsException" (by decide))) hc hv hcl ?_
      refine lv_astore_n (lv' := [(3, .ref q), (0, .ref (b + 0)), (1, .int x), (2, .ref (b + 133))]) hx hb dL_calibrate_12 rfl hl (by decide) rfl (fun ls hl => ?_)
      refine lv_iconst (v := 1) hx hb dL_calibrate_13 (by decide) ?_
      exact xe_i hx hb hr hlocks hP hS rfl (by unfold gL_calibrate; rw [if_neg (by rw [e1]; decide)]) (by rw [e1]; decide) (Nat.le_of_ble_eq_true rfl) (Nat.le_of_ble_eq_true rfl) dL_calibrate_14
    · exfalso; rw [e1] at hcs; revert hcs; decide
    · refine vx_catch hown [⟨0, 9, 12, 19⟩] ⟨0, 9, 15, 13⟩ [] (by rw [htab]; rfl) (fun z hz => by rw [List.mem_singleton.mp hz]; exact Or.inr ⟨by decide, "java/lang/IndexOutOfBoundsException", hts (.classLink RL 19 "java/lang/IndexOutOfBoundsException") (by decide +kernel), hX.2.2.2.2.2.2.2.2.1 ("java/lang/IllegalStateException", "java/lang/IndexOutOfBoundsException") (by decide)⟩) rfl (by decide) (hts (.classLink RL 13 "java/lang/IllegalStateException") (by decide +kernel)) (va_Nw.use rfl (hX.2.2.2.2.2.2.2.1 "java/lang/IllegalStateException" (by decide))) hc hv hcl ?_
      refine lv_astore_n (lv' := [(3, .ref q), (0, .ref (b + 0)), (1, .int x), (2, .ref (b + 133))]) hx hb dL_calibrate_15 rfl hl (by decide) rfl (fun ls hl => ?_)
      refine lv_iconst (v := 2) hx hb dL_calibrate_16 (by decide) ?_
      exact xe_i hx hb hr hlocks hP hS rfl (by unfold gL_calibrate; rw [if_neg (by rw [e1]; decide)]) (by rw [e1]; decide) (Nat.le_of_ble_eq_true rfl) (Nat.le_of_ble_eq_true rfl) dL_calibrate_17
  · refine lv_i2l hx hb dL_calibrate_7 rfl ?_
    refine xls (j := 0) (x := fX7_calibrate M x) (o := 133) hx hb hK hP hS (by omega) (by decide) (ixIn (a := 0) rfl (by decide) (by decide)) rfl dL_calibrate_8 (fun H locs hP hS => ?_)
    refine lv_goto (tgt := 18) hx hb dL_calibrate_9 (by decide) ?_
    refine lv_iconst (v := 0) hx hb dL_calibrate_18 (by decide) ?_
    exact xe_i hx hb hr hlocks hP hS rfl (by unfold gL_calibrate; rw [if_pos hT]) (by rw [hT]; rfl) (Nat.le_of_ble_eq_true rfl) (Nat.le_of_ble_eq_true rfl) dL_calibrate_19
def gL_tighten (M : Mem) (x : Int32) : Mem := if tX7_tighten M x = 0 then mU (gX7_tighten M x) 133 0 (fX7_tighten M x) else (gX7_tighten M x)
theorem tL_tighten (M : Mem) (x : Int32) : tX7_tighten M x = 0 ∨ tX7_tighten M x = 1 ∨ tX7_tighten M x = 3 := by
  unfold tX7_tighten tX7_instrumentAt
  (repeat' split) <;> simp_all
set_option maxHeartbeats 4000000 in
set_option maxRecDepth 100000 in
theorem c_L_tighten (l : Launch) (hl0 : l.stackTraces = false) (D : va_G) (cy : Nat → ClassId) (b n : Nat) (hn : 134 ≤ n) (M : Mem) (x : Int32) (hcnt : CNT M 1) (hnx : UB (M 20 1) 9) : Met l yL_tighten wsL_tighten ({ frames := 8, cells := 2, slots := 12, locals := 135 } : Room) (CP D cy b n fT M [.ref (b + 0), .int x, .ref (b + 133)]) (CQi D cy b n fT (cd [1, 3] (tX7_tighten M x)) (gL_tighten M x)) 2 12 (fr b) := by
  refine met_ofWH (cc := cL_tighten) (maxL := 4) (ret := some .int) (hh := [(0, 9, 12, 19), (0, 9, 15, 13)]) (by decide) rfl ?_
  intro p e s m args below meth c s₁ B hml hv
  obtain ⟨rfl, hP, hK, hX⟩ := hv
  have hx := B.exec
  have hb := B.bytes
  have hr := B.returns
  have hts := atoms_spec (ws := wsL_tighten) B.pre
  have htab := vx_table (x := yL_tighten) B (hts _ List.mem_cons_self)
  have hown : s.vm.findClass RL = some m.cls := findClass_of_methodNamed B.named
  have hlocks := B.notSynchronized
  have hS : va_S (fr b) s.heap s.heap [] := va_S.rf
  have hl := lv_entry ([.ref (b + 0), .int x, .ref (b + 133)]) (n := 4) (Nat.le_of_ble_eq_true rfl)
  rw [lg_entry_eq]
  generalize (lg_sl ([.ref (b + 0), .int x, .ref (b + 133)]) ++ List.replicate (4 - (lg_sl ([.ref (b + 0), .int x, .ref (b + 133)])).length) Slot.unset).toArray = ls at hl ⊢
  have hl : lv_has ls 4 [(0, .ref (b + 0)), (1, .int x), (2, .ref (b + 133))] := hl
  refine lv_aload_n hx hb dL_tighten_0 rfl (lv_at hl 2 rfl) ?_
  refine lv_iconst (v := 0) hx hb dL_tighten_1 (by decide) ?_
  refine lv_aload_n hx hb dL_tighten_2 rfl (lv_at hl 0 rfl) ?_
  refine lv_iload_n hx hb dL_tighten_3 rfl (lv_at hl 1 rfl) ?_
  refine xct_i (vx_runV (As := [.int x]) (rest := [.int 0, .ref (b + 133)]) ⟨hx, hb, hml, hown, hts⟩ (c_X7_tighten l hl0 D cy b n (by omega) M x hcnt hnx) (cwV 1 hts gL_tighten_X7_tighten rfl rfl rfl (by decide +kernel) ⟨Nat.le_of_ble_eq_true rfl, Nat.le_of_ble_eq_true rfl⟩) (xPreV hP hK hX hS (by omega) (cell7 (by decide)) rfl) rfl rfl hl.1 rfl (lv_room (Nat.le_of_ble_eq_true rfl)) dL_tighten_4 ⟨Nat.le_of_ble_eq_true rfl, Nat.le_of_ble_eq_true rfl⟩) hS (fun E ce q H locs hE hP hS hc hv hcl => ?_) (fun H locs hT hP hS => ?_)
  · have hcs := tL_tighten M x
    rcases hE with ⟨e1, rfl⟩ | ⟨e1, rfl⟩ | ⟨e1, rfl⟩
    · refine vx_catch hown [] ⟨0, 9, 12, 19⟩ [⟨0, 9, 15, 13⟩] (by rw [htab]; rfl) (fun z hz => absurd hz List.not_mem_nil) rfl (by decide) (hts (.classLink RL 19 "java/lang/IndexOutOfBoundsException") (by decide +kernel)) (va_Nw.use rfl (hX.2.2.2.2.2.2.2.1 "java/lang/IndexOutOfBoundsException" (by decide))) hc hv hcl ?_
      refine lv_astore_n (lv' := [(3, .ref q), (0, .ref (b + 0)), (1, .int x), (2, .ref (b + 133))]) hx hb dL_tighten_12 rfl hl (by decide) rfl (fun ls hl => ?_)
      refine lv_iconst (v := 1) hx hb dL_tighten_13 (by decide) ?_
      exact xe_i hx hb hr hlocks hP hS rfl (by unfold gL_tighten; rw [if_neg (by rw [e1]; decide)]) (by rw [e1]; decide) (Nat.le_of_ble_eq_true rfl) (Nat.le_of_ble_eq_true rfl) dL_tighten_14
    · exfalso; rw [e1] at hcs; revert hcs; decide
    · refine vx_catch hown [⟨0, 9, 12, 19⟩] ⟨0, 9, 15, 13⟩ [] (by rw [htab]; rfl) (fun z hz => by rw [List.mem_singleton.mp hz]; exact Or.inr ⟨by decide, "java/lang/IndexOutOfBoundsException", hts (.classLink RL 19 "java/lang/IndexOutOfBoundsException") (by decide +kernel), hX.2.2.2.2.2.2.2.2.1 ("java/lang/IllegalStateException", "java/lang/IndexOutOfBoundsException") (by decide)⟩) rfl (by decide) (hts (.classLink RL 13 "java/lang/IllegalStateException") (by decide +kernel)) (va_Nw.use rfl (hX.2.2.2.2.2.2.2.1 "java/lang/IllegalStateException" (by decide))) hc hv hcl ?_
      refine lv_astore_n (lv' := [(3, .ref q), (0, .ref (b + 0)), (1, .int x), (2, .ref (b + 133))]) hx hb dL_tighten_15 rfl hl (by decide) rfl (fun ls hl => ?_)
      refine lv_iconst (v := 2) hx hb dL_tighten_16 (by decide) ?_
      exact xe_i hx hb hr hlocks hP hS rfl (by unfold gL_tighten; rw [if_neg (by rw [e1]; decide)]) (by rw [e1]; decide) (Nat.le_of_ble_eq_true rfl) (Nat.le_of_ble_eq_true rfl) dL_tighten_17
  · refine lv_i2l hx hb dL_tighten_7 rfl ?_
    refine xls (j := 0) (x := fX7_tighten M x) (o := 133) hx hb hK hP hS (by omega) (by decide) (ixIn (a := 0) rfl (by decide) (by decide)) rfl dL_tighten_8 (fun H locs hP hS => ?_)
    refine lv_goto (tgt := 18) hx hb dL_tighten_9 (by decide) ?_
    refine lv_iconst (v := 0) hx hb dL_tighten_18 (by decide) ?_
    exact xe_i hx hb hr hlocks hP hS rfl (by unfold gL_tighten; rw [if_pos hT]) (by rw [hT]; rfl) (Nat.le_of_ble_eq_true rfl) (Nat.le_of_ble_eq_true rfl) dL_tighten_19
def gL_moisten (M : Mem) (x : Int32) : Mem := if tX7_moisten M x = 0 then mU (gX7_moisten M x) 133 0 (fX7_moisten M x) else (gX7_moisten M x)
theorem tL_moisten (M : Mem) (x : Int32) : tX7_moisten M x = 0 ∨ tX7_moisten M x = 1 ∨ tX7_moisten M x = 3 := by
  unfold tX7_moisten tX7_instrumentAt
  (repeat' split) <;> simp_all
set_option maxHeartbeats 4000000 in
set_option maxRecDepth 100000 in
theorem c_L_moisten (l : Launch) (hl0 : l.stackTraces = false) (D : va_G) (cy : Nat → ClassId) (b n : Nat) (hn : 134 ≤ n) (M : Mem) (x : Int32) (hcnt : CNT M 1) (hnx : UB (M 20 1) 9) : Met l yL_moisten wsL_moisten ({ frames := 8, cells := 2, slots := 12, locals := 135 } : Room) (CP D cy b n fT M [.ref (b + 0), .int x, .ref (b + 133)]) (CQi D cy b n fT (cd [1, 3] (tX7_moisten M x)) (gL_moisten M x)) 2 12 (fr b) := by
  refine met_ofWH (cc := cL_moisten) (maxL := 4) (ret := some .int) (hh := [(0, 9, 12, 19), (0, 9, 15, 13)]) (by decide) rfl ?_
  intro p e s m args below meth c s₁ B hml hv
  obtain ⟨rfl, hP, hK, hX⟩ := hv
  have hx := B.exec
  have hb := B.bytes
  have hr := B.returns
  have hts := atoms_spec (ws := wsL_moisten) B.pre
  have htab := vx_table (x := yL_moisten) B (hts _ List.mem_cons_self)
  have hown : s.vm.findClass RL = some m.cls := findClass_of_methodNamed B.named
  have hlocks := B.notSynchronized
  have hS : va_S (fr b) s.heap s.heap [] := va_S.rf
  have hl := lv_entry ([.ref (b + 0), .int x, .ref (b + 133)]) (n := 4) (Nat.le_of_ble_eq_true rfl)
  rw [lg_entry_eq]
  generalize (lg_sl ([.ref (b + 0), .int x, .ref (b + 133)]) ++ List.replicate (4 - (lg_sl ([.ref (b + 0), .int x, .ref (b + 133)])).length) Slot.unset).toArray = ls at hl ⊢
  have hl : lv_has ls 4 [(0, .ref (b + 0)), (1, .int x), (2, .ref (b + 133))] := hl
  refine lv_aload_n hx hb dL_moisten_0 rfl (lv_at hl 2 rfl) ?_
  refine lv_iconst (v := 0) hx hb dL_moisten_1 (by decide) ?_
  refine lv_aload_n hx hb dL_moisten_2 rfl (lv_at hl 0 rfl) ?_
  refine lv_iload_n hx hb dL_moisten_3 rfl (lv_at hl 1 rfl) ?_
  refine xct_i (vx_runV (As := [.int x]) (rest := [.int 0, .ref (b + 133)]) ⟨hx, hb, hml, hown, hts⟩ (c_X7_moisten l hl0 D cy b n (by omega) M x hcnt hnx) (cwV 1 hts gL_moisten_X7_moisten rfl rfl rfl (by decide +kernel) ⟨Nat.le_of_ble_eq_true rfl, Nat.le_of_ble_eq_true rfl⟩) (xPreV hP hK hX hS (by omega) (cell7 (by decide)) rfl) rfl rfl hl.1 rfl (lv_room (Nat.le_of_ble_eq_true rfl)) dL_moisten_4 ⟨Nat.le_of_ble_eq_true rfl, Nat.le_of_ble_eq_true rfl⟩) hS (fun E ce q H locs hE hP hS hc hv hcl => ?_) (fun H locs hT hP hS => ?_)
  · have hcs := tL_moisten M x
    rcases hE with ⟨e1, rfl⟩ | ⟨e1, rfl⟩ | ⟨e1, rfl⟩
    · refine vx_catch hown [] ⟨0, 9, 12, 19⟩ [⟨0, 9, 15, 13⟩] (by rw [htab]; rfl) (fun z hz => absurd hz List.not_mem_nil) rfl (by decide) (hts (.classLink RL 19 "java/lang/IndexOutOfBoundsException") (by decide +kernel)) (va_Nw.use rfl (hX.2.2.2.2.2.2.2.1 "java/lang/IndexOutOfBoundsException" (by decide))) hc hv hcl ?_
      refine lv_astore_n (lv' := [(3, .ref q), (0, .ref (b + 0)), (1, .int x), (2, .ref (b + 133))]) hx hb dL_moisten_12 rfl hl (by decide) rfl (fun ls hl => ?_)
      refine lv_iconst (v := 1) hx hb dL_moisten_13 (by decide) ?_
      exact xe_i hx hb hr hlocks hP hS rfl (by unfold gL_moisten; rw [if_neg (by rw [e1]; decide)]) (by rw [e1]; decide) (Nat.le_of_ble_eq_true rfl) (Nat.le_of_ble_eq_true rfl) dL_moisten_14
    · exfalso; rw [e1] at hcs; revert hcs; decide
    · refine vx_catch hown [⟨0, 9, 12, 19⟩] ⟨0, 9, 15, 13⟩ [] (by rw [htab]; rfl) (fun z hz => by rw [List.mem_singleton.mp hz]; exact Or.inr ⟨by decide, "java/lang/IndexOutOfBoundsException", hts (.classLink RL 19 "java/lang/IndexOutOfBoundsException") (by decide +kernel), hX.2.2.2.2.2.2.2.2.1 ("java/lang/IllegalStateException", "java/lang/IndexOutOfBoundsException") (by decide)⟩) rfl (by decide) (hts (.classLink RL 13 "java/lang/IllegalStateException") (by decide +kernel)) (va_Nw.use rfl (hX.2.2.2.2.2.2.2.1 "java/lang/IllegalStateException" (by decide))) hc hv hcl ?_
      refine lv_astore_n (lv' := [(3, .ref q), (0, .ref (b + 0)), (1, .int x), (2, .ref (b + 133))]) hx hb dL_moisten_15 rfl hl (by decide) rfl (fun ls hl => ?_)
      refine lv_iconst (v := 2) hx hb dL_moisten_16 (by decide) ?_
      exact xe_i hx hb hr hlocks hP hS rfl (by unfold gL_moisten; rw [if_neg (by rw [e1]; decide)]) (by rw [e1]; decide) (Nat.le_of_ble_eq_true rfl) (Nat.le_of_ble_eq_true rfl) dL_moisten_17
  · refine lv_i2l hx hb dL_moisten_7 rfl ?_
    refine xls (j := 0) (x := fX7_moisten M x) (o := 133) hx hb hK hP hS (by omega) (by decide) (ixIn (a := 0) rfl (by decide) (by decide)) rfl dL_moisten_8 (fun H locs hP hS => ?_)
    refine lv_goto (tgt := 18) hx hb dL_moisten_9 (by decide) ?_
    refine lv_iconst (v := 0) hx hb dL_moisten_18 (by decide) ?_
    exact xe_i hx hb hr hlocks hP hS rfl (by unfold gL_moisten; rw [if_pos hT]) (by rw [hT]; rfl) (Nat.le_of_ble_eq_true rfl) (Nat.le_of_ble_eq_true rfl) dL_moisten_19
def gL_addHairs (M : Mem) (x : Int32) (y : Int32) : Mem := if tX7_addHairs M x y = 0 then mU (gX7_addHairs M x y) 133 0 (fX7_addHairs M x y) else (gX7_addHairs M x y)
theorem tL_addHairs (M : Mem) (x : Int32) (y : Int32) : tX7_addHairs M x y = 0 ∨ tX7_addHairs M x y = 1 ∨ tX7_addHairs M x y = 2 ∨ tX7_addHairs M x y = 3 := by
  unfold tX7_addHairs tX7_instrumentAt
  (repeat' split) <;> simp_all
set_option maxHeartbeats 4000000 in
set_option maxRecDepth 100000 in
theorem c_L_addHairs (l : Launch) (hl0 : l.stackTraces = false) (D : va_G) (cy : Nat → ClassId) (b n : Nat) (hn : 134 ≤ n) (M : Mem) (x : Int32) (y : Int32) (hcnt : CNT M 1) (hnx : UB (M 20 1) 9) : Met l yL_addHairs wsL_addHairs ({ frames := 8, cells := 2, slots := 12, locals := 135 } : Room) (CP D cy b n fT M [.ref (b + 0), .int x, .int y, .ref (b + 133)]) (CQi D cy b n fT (cd [1, 2, 3] (tX7_addHairs M x y)) (gL_addHairs M x y)) 2 12 (fr b) := by
  refine met_ofWH (cc := cL_addHairs) (maxL := 5) (ret := some .int) (hh := [(0, 10, 13, 19), (0, 10, 17, 21), (0, 10, 21, 13)]) (by decide) rfl ?_
  intro p e s m args below meth c s₁ B hml hv
  obtain ⟨rfl, hP, hK, hX⟩ := hv
  have hx := B.exec
  have hb := B.bytes
  have hr := B.returns
  have hts := atoms_spec (ws := wsL_addHairs) B.pre
  have htab := vx_table (x := yL_addHairs) B (hts _ List.mem_cons_self)
  have hown : s.vm.findClass RL = some m.cls := findClass_of_methodNamed B.named
  have hlocks := B.notSynchronized
  have hS : va_S (fr b) s.heap s.heap [] := va_S.rf
  have hl := lv_entry ([.ref (b + 0), .int x, .int y, .ref (b + 133)]) (n := 5) (Nat.le_of_ble_eq_true rfl)
  rw [lg_entry_eq]
  generalize (lg_sl ([.ref (b + 0), .int x, .int y, .ref (b + 133)]) ++ List.replicate (5 - (lg_sl ([.ref (b + 0), .int x, .int y, .ref (b + 133)])).length) Slot.unset).toArray = ls at hl ⊢
  have hl : lv_has ls 5 [(0, .ref (b + 0)), (1, .int x), (2, .int y), (3, .ref (b + 133))] := hl
  refine lv_aload_n hx hb dL_addHairs_0 rfl (lv_at hl 3 rfl) ?_
  refine lv_iconst (v := 0) hx hb dL_addHairs_1 (by decide) ?_
  refine lv_aload_n hx hb dL_addHairs_2 rfl (lv_at hl 0 rfl) ?_
  refine lv_iload_n hx hb dL_addHairs_3 rfl (lv_at hl 1 rfl) ?_
  refine lv_iload_n hx hb dL_addHairs_4 rfl (lv_at hl 2 rfl) ?_
  refine xct_i (vx_runV (As := [.int x, .int y]) (rest := [.int 0, .ref (b + 133)]) ⟨hx, hb, hml, hown, hts⟩ (c_X7_addHairs l hl0 D cy b n (by omega) M x y hcnt hnx) (cwV 2 hts gL_addHairs_X7_addHairs rfl rfl rfl (by decide +kernel) ⟨Nat.le_of_ble_eq_true rfl, Nat.le_of_ble_eq_true rfl⟩) (xPreV hP hK hX hS (by omega) (cell7 (by decide)) rfl) rfl rfl hl.1 rfl (lv_room (Nat.le_of_ble_eq_true rfl)) dL_addHairs_5 ⟨Nat.le_of_ble_eq_true rfl, Nat.le_of_ble_eq_true rfl⟩) hS (fun E ce q H locs hE hP hS hc hv hcl => ?_) (fun H locs hT hP hS => ?_)
  · have hcs := tL_addHairs M x y
    rcases hE with ⟨e1, rfl⟩ | ⟨e1, rfl⟩ | ⟨e1, rfl⟩
    · refine vx_catch hown [] ⟨0, 10, 13, 19⟩ [⟨0, 10, 17, 21⟩, ⟨0, 10, 21, 13⟩] (by rw [htab]; rfl) (fun z hz => absurd hz List.not_mem_nil) rfl (by decide) (hts (.classLink RL 19 "java/lang/IndexOutOfBoundsException") (by decide +kernel)) (va_Nw.use rfl (hX.2.2.2.2.2.2.2.1 "java/lang/IndexOutOfBoundsException" (by decide))) hc hv hcl ?_
      refine lv_astore (lv' := [(4, .ref q), (0, .ref (b + 0)), (1, .int x), (2, .int y), (3, .ref (b + 133))]) hx hb dL_addHairs_13 hl (by decide) rfl (fun ls hl => ?_)
      refine lv_iconst (v := 1) hx hb dL_addHairs_15 (by decide) ?_
      exact xe_i hx hb hr hlocks hP hS rfl (by unfold gL_addHairs; rw [if_neg (by rw [e1]; decide)]) (by rw [e1]; decide) (Nat.le_of_ble_eq_true rfl) (Nat.le_of_ble_eq_true rfl) dL_addHairs_16
    · refine vx_catch hown [⟨0, 10, 13, 19⟩] ⟨0, 10, 17, 21⟩ [⟨0, 10, 21, 13⟩] (by rw [htab]; rfl) (fun z hz => by rw [List.mem_singleton.mp hz]; exact Or.inr ⟨by decide, "java/lang/IndexOutOfBoundsException", hts (.classLink RL 19 "java/lang/IndexOutOfBoundsException") (by decide +kernel), hX.2.2.2.2.2.2.2.2.1 ("java/lang/IllegalArgumentException", "java/lang/IndexOutOfBoundsException") (by decide)⟩) rfl (by decide) (hts (.classLink RL 21 "java/lang/IllegalArgumentException") (by decide +kernel)) (va_Nw.use rfl (hX.2.2.2.2.2.2.2.1 "java/lang/IllegalArgumentException" (by decide))) hc hv hcl ?_
      refine lv_astore (lv' := [(4, .ref q), (0, .ref (b + 0)), (1, .int x), (2, .int y), (3, .ref (b + 133))]) hx hb dL_addHairs_17 hl (by decide) rfl (fun ls hl => ?_)
      refine lv_iconst (v := 2) hx hb dL_addHairs_19 (by decide) ?_
      exact xe_i hx hb hr hlocks hP hS rfl (by unfold gL_addHairs; rw [if_neg (by rw [e1]; decide)]) (by rw [e1]; decide) (Nat.le_of_ble_eq_true rfl) (Nat.le_of_ble_eq_true rfl) dL_addHairs_20
    · refine vx_catch hown [⟨0, 10, 13, 19⟩, ⟨0, 10, 17, 21⟩] ⟨0, 10, 21, 13⟩ [] (by rw [htab]; rfl) (fun z hz => by rcases List.mem_cons.mp hz with h | h; (rw [h]; exact Or.inr ⟨by decide, "java/lang/IndexOutOfBoundsException", hts (.classLink RL 19 "java/lang/IndexOutOfBoundsException") (by decide +kernel), hX.2.2.2.2.2.2.2.2.1 ("java/lang/IllegalStateException", "java/lang/IndexOutOfBoundsException") (by decide)⟩); (rw [List.mem_singleton.mp h]; exact Or.inr ⟨by decide, "java/lang/IllegalArgumentException", hts (.classLink RL 21 "java/lang/IllegalArgumentException") (by decide +kernel), hX.2.2.2.2.2.2.2.2.1 ("java/lang/IllegalStateException", "java/lang/IllegalArgumentException") (by decide)⟩)) rfl (by decide) (hts (.classLink RL 13 "java/lang/IllegalStateException") (by decide +kernel)) (va_Nw.use rfl (hX.2.2.2.2.2.2.2.1 "java/lang/IllegalStateException" (by decide))) hc hv hcl ?_
      refine lv_astore (lv' := [(4, .ref q), (0, .ref (b + 0)), (1, .int x), (2, .int y), (3, .ref (b + 133))]) hx hb dL_addHairs_21 hl (by decide) rfl (fun ls hl => ?_)
      refine lv_iconst (v := 3) hx hb dL_addHairs_23 (by decide) ?_
      exact xe_i hx hb hr hlocks hP hS rfl (by unfold gL_addHairs; rw [if_neg (by rw [e1]; decide)]) (by rw [e1]; decide) (Nat.le_of_ble_eq_true rfl) (Nat.le_of_ble_eq_true rfl) dL_addHairs_24
  · refine lv_i2l hx hb dL_addHairs_8 rfl ?_
    refine xls (j := 0) (x := fX7_addHairs M x y) (o := 133) hx hb hK hP hS (by omega) (by decide) (ixIn (a := 0) rfl (by decide) (by decide)) rfl dL_addHairs_9 (fun H locs hP hS => ?_)
    refine lv_goto (tgt := 25) hx hb dL_addHairs_10 (by decide) ?_
    refine lv_iconst (v := 0) hx hb dL_addHairs_25 (by decide) ?_
    exact xe_i hx hb hr hlocks hP hS rfl (by unfold gL_addHairs; rw [if_pos hT]) (by rw [hT]; rfl) (Nat.le_of_ble_eq_true rfl) (Nat.le_of_ble_eq_true rfl) dL_addHairs_26
def gL_restore (M : Mem) (x : Int32) : Mem := if tX7_restore M x = 0 then mU (gX7_restore M x) 133 0 (fX7_restore M x) else (gX7_restore M x)
theorem tL_restore (M : Mem) (x : Int32) : tX7_restore M x = 0 ∨ tX7_restore M x = 1 ∨ tX7_restore M x = 3 := by
  unfold tX7_restore
  (repeat' split) <;> simp_all
set_option maxHeartbeats 4000000 in
set_option maxRecDepth 100000 in
theorem c_L_restore (l : Launch) (hl0 : l.stackTraces = false) (D : va_G) (cy : Nat → ClassId) (b n : Nat) (hn : 134 ≤ n) (M : Mem) (x : Int32) (hcnt : CNT M 1) (hnx : UB (M 20 1) 9) (hsc : SC2 M) : Met l yL_restore wsL_restore ({ frames := 7, cells := 1, slots := 6, locals := 112 } : Room) (CP D cy b n fT M [.ref (b + 0), .int x, .ref (b + 133)]) (CQi D cy b n fT (cd [1, 3] (tX7_restore M x)) (gL_restore M x)) 1 6 (fr b) := by
  refine met_ofWH (cc := cL_restore) (maxL := 4) (ret := some .int) (hh := [(0, 9, 12, 19), (0, 9, 15, 13)]) (by decide) rfl ?_
  intro p e s m args below meth c s₁ B hml hv
  obtain ⟨rfl, hP, hK, hX⟩ := hv
  have hx := B.exec
  have hb := B.bytes
  have hr := B.returns
  have hts := atoms_spec (ws := wsL_restore) B.pre
  have htab := vx_table (x := yL_restore) B (hts _ List.mem_cons_self)
  have hown : s.vm.findClass RL = some m.cls := findClass_of_methodNamed B.named
  have hlocks := B.notSynchronized
  have hS : va_S (fr b) s.heap s.heap [] := va_S.rf
  have hl := lv_entry ([.ref (b + 0), .int x, .ref (b + 133)]) (n := 4) (Nat.le_of_ble_eq_true rfl)
  rw [lg_entry_eq]
  generalize (lg_sl ([.ref (b + 0), .int x, .ref (b + 133)]) ++ List.replicate (4 - (lg_sl ([.ref (b + 0), .int x, .ref (b + 133)])).length) Slot.unset).toArray = ls at hl ⊢
  have hl : lv_has ls 4 [(0, .ref (b + 0)), (1, .int x), (2, .ref (b + 133))] := hl
  refine lv_aload_n hx hb dL_restore_0 rfl (lv_at hl 2 rfl) ?_
  refine lv_iconst (v := 0) hx hb dL_restore_1 (by decide) ?_
  refine lv_aload_n hx hb dL_restore_2 rfl (lv_at hl 0 rfl) ?_
  refine lv_iload_n hx hb dL_restore_3 rfl (lv_at hl 1 rfl) ?_
  refine xct_i (vx_runV (As := [.int x]) (rest := [.int 0, .ref (b + 133)]) ⟨hx, hb, hml, hown, hts⟩ (c_X7_restore l hl0 D cy b n (by omega) M x hcnt hnx hsc) (cwV 1 hts gL_restore_X7_restore rfl rfl rfl (by decide +kernel) ⟨Nat.le_of_ble_eq_true rfl, Nat.le_of_ble_eq_true rfl⟩) (xPreV hP hK hX hS (by omega) (cell7 (by decide)) rfl) rfl rfl hl.1 rfl (lv_room (Nat.le_of_ble_eq_true rfl)) dL_restore_4 ⟨Nat.le_of_ble_eq_true rfl, Nat.le_of_ble_eq_true rfl⟩) hS (fun E ce q H locs hE hP hS hc hv hcl => ?_) (fun H locs hT hP hS => ?_)
  · have hcs := tL_restore M x
    rcases hE with ⟨e1, rfl⟩ | ⟨e1, rfl⟩ | ⟨e1, rfl⟩
    · refine vx_catch hown [] ⟨0, 9, 12, 19⟩ [⟨0, 9, 15, 13⟩] (by rw [htab]; rfl) (fun z hz => absurd hz List.not_mem_nil) rfl (by decide) (hts (.classLink RL 19 "java/lang/IndexOutOfBoundsException") (by decide +kernel)) (va_Nw.use rfl (hX.2.2.2.2.2.2.2.1 "java/lang/IndexOutOfBoundsException" (by decide))) hc hv hcl ?_
      refine lv_astore_n (lv' := [(3, .ref q), (0, .ref (b + 0)), (1, .int x), (2, .ref (b + 133))]) hx hb dL_restore_12 rfl hl (by decide) rfl (fun ls hl => ?_)
      refine lv_iconst (v := 1) hx hb dL_restore_13 (by decide) ?_
      exact xe_i hx hb hr hlocks hP hS rfl (by unfold gL_restore; rw [if_neg (by rw [e1]; decide)]) (by rw [e1]; decide) (Nat.le_of_ble_eq_true rfl) (Nat.le_of_ble_eq_true rfl) dL_restore_14
    · exfalso; rw [e1] at hcs; revert hcs; decide
    · refine vx_catch hown [⟨0, 9, 12, 19⟩] ⟨0, 9, 15, 13⟩ [] (by rw [htab]; rfl) (fun z hz => by rw [List.mem_singleton.mp hz]; exact Or.inr ⟨by decide, "java/lang/IndexOutOfBoundsException", hts (.classLink RL 19 "java/lang/IndexOutOfBoundsException") (by decide +kernel), hX.2.2.2.2.2.2.2.2.1 ("java/lang/IllegalStateException", "java/lang/IndexOutOfBoundsException") (by decide)⟩) rfl (by decide) (hts (.classLink RL 13 "java/lang/IllegalStateException") (by decide +kernel)) (va_Nw.use rfl (hX.2.2.2.2.2.2.2.1 "java/lang/IllegalStateException" (by decide))) hc hv hcl ?_
      refine lv_astore_n (lv' := [(3, .ref q), (0, .ref (b + 0)), (1, .int x), (2, .ref (b + 133))]) hx hb dL_restore_15 rfl hl (by decide) rfl (fun ls hl => ?_)
      refine lv_iconst (v := 2) hx hb dL_restore_16 (by decide) ?_
      exact xe_i hx hb hr hlocks hP hS rfl (by unfold gL_restore; rw [if_neg (by rw [e1]; decide)]) (by rw [e1]; decide) (Nat.le_of_ble_eq_true rfl) (Nat.le_of_ble_eq_true rfl) dL_restore_17
  · refine lv_i2l hx hb dL_restore_7 rfl ?_
    refine xls (j := 0) (x := fX7_restore M x) (o := 133) hx hb hK hP hS (by omega) (by decide) (ixIn (a := 0) rfl (by decide) (by decide)) rfl dL_restore_8 (fun H locs hP hS => ?_)
    refine lv_goto (tgt := 18) hx hb dL_restore_9 (by decide) ?_
    refine lv_iconst (v := 0) hx hb dL_restore_18 (by decide) ?_
    exact xe_i hx hb hr hlocks hP hS rfl (by unfold gL_restore; rw [if_pos hT]) (by rw [hT]; rfl) (Nat.le_of_ble_eq_true rfl) (Nat.le_of_ble_eq_true rfl) dL_restore_19
def gL_undo (M : Mem)  : Mem := if tX7_undo M = 0 then mU (gX7_undo M) 133 0 (fX7_undo M) else (gX7_undo M)
theorem tL_undo (M : Mem)  : tX7_undo M = 0 ∨ tX7_undo M = 3 := by
  unfold tX7_undo
  (repeat' split) <;> simp_all
set_option maxHeartbeats 4000000 in
set_option maxRecDepth 100000 in
theorem c_L_undo (l : Launch) (hl0 : l.stackTraces = false) (D : va_G) (cy : Nat → ClassId) (b n : Nat) (hn : 134 ≤ n) (M : Mem)  (hnx : UB (M 20 1) 9) (hh : HC10 M) : Met l yL_undo wsL_undo ({ frames := 7, cells := 1, slots := 6, locals := 110 } : Room) (CP D cy b n fT M [.ref (b + 0), .ref (b + 133)]) (CQi D cy b n fT (cd [3] (tX7_undo M)) (gL_undo M)) 1 6 (fr b) := by
  refine met_ofWH (cc := cL_undo) (maxL := 3) (ret := some .int) (hh := [(0, 8, 11, 13)]) (by decide) rfl ?_
  intro p e s m args below meth c s₁ B hml hv
  obtain ⟨rfl, hP, hK, hX⟩ := hv
  have hx := B.exec
  have hb := B.bytes
  have hr := B.returns
  have hts := atoms_spec (ws := wsL_undo) B.pre
  have htab := vx_table (x := yL_undo) B (hts _ List.mem_cons_self)
  have hown : s.vm.findClass RL = some m.cls := findClass_of_methodNamed B.named
  have hlocks := B.notSynchronized
  have hS : va_S (fr b) s.heap s.heap [] := va_S.rf
  have hl := lv_entry ([.ref (b + 0), .ref (b + 133)]) (n := 3) (Nat.le_of_ble_eq_true rfl)
  rw [lg_entry_eq]
  generalize (lg_sl ([.ref (b + 0), .ref (b + 133)]) ++ List.replicate (3 - (lg_sl ([.ref (b + 0), .ref (b + 133)])).length) Slot.unset).toArray = ls at hl ⊢
  have hl : lv_has ls 3 [(0, .ref (b + 0)), (1, .ref (b + 133))] := hl
  refine lv_aload_n hx hb dL_undo_0 rfl (lv_at hl 1 rfl) ?_
  refine lv_iconst (v := 0) hx hb dL_undo_1 (by decide) ?_
  refine lv_aload_n hx hb dL_undo_2 rfl (lv_at hl 0 rfl) ?_
  refine xct_i (vx_runV (As := []) (rest := [.int 0, .ref (b + 133)]) ⟨hx, hb, hml, hown, hts⟩ (c_X7_undo l hl0 D cy b n (by omega) M hnx hh) (cwV 0 hts gL_undo_X7_undo rfl rfl rfl (by decide +kernel) ⟨Nat.le_of_ble_eq_true rfl, Nat.le_of_ble_eq_true rfl⟩) (xPreV hP hK hX hS (by omega) (cell7 (by decide)) rfl) rfl rfl hl.1 rfl (lv_room (Nat.le_of_ble_eq_true rfl)) dL_undo_3 ⟨Nat.le_of_ble_eq_true rfl, Nat.le_of_ble_eq_true rfl⟩) hS (fun E ce q H locs hE hP hS hc hv hcl => ?_) (fun H locs hT hP hS => ?_)
  · have hcs := tL_undo M
    rcases hE with ⟨e1, rfl⟩ | ⟨e1, rfl⟩ | ⟨e1, rfl⟩
    · exfalso; rw [e1] at hcs; revert hcs; decide
    · exfalso; rw [e1] at hcs; revert hcs; decide
    · refine vx_catch hown [] ⟨0, 8, 11, 13⟩ [] (by rw [htab]; rfl) (fun z hz => absurd hz List.not_mem_nil) rfl (by decide) (hts (.classLink RL 13 "java/lang/IllegalStateException") (by decide +kernel)) (va_Nw.use rfl (hX.2.2.2.2.2.2.2.1 "java/lang/IllegalStateException" (by decide))) hc hv hcl ?_
      refine lv_astore_n (lv' := [(2, .ref q), (0, .ref (b + 0)), (1, .ref (b + 133))]) hx hb dL_undo_11 rfl hl (by decide) rfl (fun ls hl => ?_)
      refine lv_iconst (v := 1) hx hb dL_undo_12 (by decide) ?_
      exact xe_i hx hb hr hlocks hP hS rfl (by unfold gL_undo; rw [if_neg (by rw [e1]; decide)]) (by rw [e1]; decide) (Nat.le_of_ble_eq_true rfl) (Nat.le_of_ble_eq_true rfl) dL_undo_13
  · refine lv_i2l hx hb dL_undo_6 rfl ?_
    refine xls (j := 0) (x := fX7_undo M) (o := 133) hx hb hK hP hS (by omega) (by decide) (ixIn (a := 0) rfl (by decide) (by decide)) rfl dL_undo_7 (fun H locs hP hS => ?_)
    refine lv_goto (tgt := 14) hx hb dL_undo_8 (by decide) ?_
    refine lv_iconst (v := 0) hx hb dL_undo_14 (by decide) ?_
    exact xe_i hx hb hr hlocks hP hS rfl (by unfold gL_undo; rw [if_pos hT]) (by rw [hT]; rfl) (Nat.le_of_ble_eq_true rfl) (Nat.le_of_ble_eq_true rfl) dL_undo_15
def gL_save (M : Mem) (x : Int32) : Mem := if tX7_save M x = 0 then mU (gX7_save M x) 133 0 (fX7_save M x) else (gX7_save M x)
theorem tL_save (M : Mem) (x : Int32) : tX7_save M x = 0 ∨ tX7_save M x = 1 := by
  unfold tX7_save
  (repeat' split) <;> simp_all
set_option maxHeartbeats 4000000 in
set_option maxRecDepth 100000 in
theorem c_L_save (l : Launch) (hl0 : l.stackTraces = false) (D : va_G) (cy : Nat → ClassId) (b n : Nat) (hn : 134 ≤ n) (M : Mem) (x : Int32) (hcnt : CNT M 1) : Met l yL_save wsL_save ({ frames := 7, cells := 1, slots := 6, locals := 111 } : Room) (CP D cy b n fT M [.ref (b + 0), .int x, .ref (b + 133)]) (CQi D cy b n fT (cd [1] (tX7_save M x)) (gL_save M x)) 1 6 (fr b) := by
  refine met_ofWH (cc := cL_save) (maxL := 4) (ret := some .int) (hh := [(0, 9, 12, 19)]) (by decide) rfl ?_
  intro p e s m args below meth c s₁ B hml hv
  obtain ⟨rfl, hP, hK, hX⟩ := hv
  have hx := B.exec
  have hb := B.bytes
  have hr := B.returns
  have hts := atoms_spec (ws := wsL_save) B.pre
  have htab := vx_table (x := yL_save) B (hts _ List.mem_cons_self)
  have hown : s.vm.findClass RL = some m.cls := findClass_of_methodNamed B.named
  have hlocks := B.notSynchronized
  have hS : va_S (fr b) s.heap s.heap [] := va_S.rf
  have hl := lv_entry ([.ref (b + 0), .int x, .ref (b + 133)]) (n := 4) (Nat.le_of_ble_eq_true rfl)
  rw [lg_entry_eq]
  generalize (lg_sl ([.ref (b + 0), .int x, .ref (b + 133)]) ++ List.replicate (4 - (lg_sl ([.ref (b + 0), .int x, .ref (b + 133)])).length) Slot.unset).toArray = ls at hl ⊢
  have hl : lv_has ls 4 [(0, .ref (b + 0)), (1, .int x), (2, .ref (b + 133))] := hl
  refine lv_aload_n hx hb dL_save_0 rfl (lv_at hl 2 rfl) ?_
  refine lv_iconst (v := 0) hx hb dL_save_1 (by decide) ?_
  refine lv_aload_n hx hb dL_save_2 rfl (lv_at hl 0 rfl) ?_
  refine lv_iload_n hx hb dL_save_3 rfl (lv_at hl 1 rfl) ?_
  refine xct_i (vx_runV (As := [.int x]) (rest := [.int 0, .ref (b + 133)]) ⟨hx, hb, hml, hown, hts⟩ (c_X7_save l hl0 D cy b n (by omega) M x hcnt) (cwV 1 hts gL_save_X7_save rfl rfl rfl (by decide +kernel) ⟨Nat.le_of_ble_eq_true rfl, Nat.le_of_ble_eq_true rfl⟩) (xPreV hP hK hX hS (by omega) (cell7 (by decide)) rfl) rfl rfl hl.1 rfl (lv_room (Nat.le_of_ble_eq_true rfl)) dL_save_4 ⟨Nat.le_of_ble_eq_true rfl, Nat.le_of_ble_eq_true rfl⟩) hS (fun E ce q H locs hE hP hS hc hv hcl => ?_) (fun H locs hT hP hS => ?_)
  · have hcs := tL_save M x
    rcases hE with ⟨e1, rfl⟩ | ⟨e1, rfl⟩ | ⟨e1, rfl⟩
    · refine vx_catch hown [] ⟨0, 9, 12, 19⟩ [] (by rw [htab]; rfl) (fun z hz => absurd hz List.not_mem_nil) rfl (by decide) (hts (.classLink RL 19 "java/lang/IndexOutOfBoundsException") (by decide +kernel)) (va_Nw.use rfl (hX.2.2.2.2.2.2.2.1 "java/lang/IndexOutOfBoundsException" (by decide))) hc hv hcl ?_
      refine lv_astore_n (lv' := [(3, .ref q), (0, .ref (b + 0)), (1, .int x), (2, .ref (b + 133))]) hx hb dL_save_12 rfl hl (by decide) rfl (fun ls hl => ?_)
      refine lv_iconst (v := 1) hx hb dL_save_13 (by decide) ?_
      exact xe_i hx hb hr hlocks hP hS rfl (by unfold gL_save; rw [if_neg (by rw [e1]; decide)]) (by rw [e1]; decide) (Nat.le_of_ble_eq_true rfl) (Nat.le_of_ble_eq_true rfl) dL_save_14
    · exfalso; rw [e1] at hcs; revert hcs; decide
    · exfalso; rw [e1] at hcs; revert hcs; decide
  · refine lv_i2l hx hb dL_save_7 rfl ?_
    refine xls (j := 0) (x := fX7_save M x) (o := 133) hx hb hK hP hS (by omega) (by decide) (ixIn (a := 0) rfl (by decide) (by decide)) rfl dL_save_8 (fun H locs hP hS => ?_)
    refine lv_goto (tgt := 15) hx hb dL_save_9 (by decide) ?_
    refine lv_iconst (v := 0) hx hb dL_save_15 (by decide) ?_
    exact xe_i hx hb hr hlocks hP hS rfl (by unfold gL_save; rw [if_pos hT]) (by rw [hT]; rfl) (Nat.le_of_ble_eq_true rfl) (Nat.le_of_ble_eq_true rfl) dL_save_16
def gL_writeInstrument (M : Mem) (x : Int32) : Mem := if tX7_writeInstrument M x = 0 then mU (gX7_writeInstrument M x) 133 0 (fX7_writeInstrument M x) else (gX7_writeInstrument M x)
theorem tL_writeInstrument (M : Mem) (x : Int32) : tX7_writeInstrument M x = 0 ∨ tX7_writeInstrument M x = 1 := by
  unfold tX7_writeInstrument tX7_instrumentAt
  (repeat' split) <;> simp_all
set_option maxHeartbeats 4000000 in
set_option maxRecDepth 100000 in
theorem c_L_writeInstrument (l : Launch) (hl0 : l.stackTraces = false) (D : va_G) (cy : Nat → ClassId) (b n : Nat) (hn : 134 ≤ n) (M : Mem) (x : Int32) (hcnt : CNT M 1) : Met l yL_writeInstrument wsL_writeInstrument ({ frames := 8, cells := 1, slots := 6, locals := 134 } : Room) (CP D cy b n fT M [.ref (b + 0), .int x, .ref (b + 133)]) (CQi D cy b n fT (cd [1] (tX7_writeInstrument M x)) (gL_writeInstrument M x)) 1 6 (fr b) := by
  refine met_ofWH (cc := cL_writeInstrument) (maxL := 4) (ret := some .int) (hh := [(0, 9, 12, 19)]) (by decide) rfl ?_
  intro p e s m args below meth c s₁ B hml hv
  obtain ⟨rfl, hP, hK, hX⟩ := hv
  have hx := B.exec
  have hb := B.bytes
  have hr := B.returns
  have hts := atoms_spec (ws := wsL_writeInstrument) B.pre
  have htab := vx_table (x := yL_writeInstrument) B (hts _ List.mem_cons_self)
  have hown : s.vm.findClass RL = some m.cls := findClass_of_methodNamed B.named
  have hlocks := B.notSynchronized
  have hS : va_S (fr b) s.heap s.heap [] := va_S.rf
  have hl := lv_entry ([.ref (b + 0), .int x, .ref (b + 133)]) (n := 4) (Nat.le_of_ble_eq_true rfl)
  rw [lg_entry_eq]
  generalize (lg_sl ([.ref (b + 0), .int x, .ref (b + 133)]) ++ List.replicate (4 - (lg_sl ([.ref (b + 0), .int x, .ref (b + 133)])).length) Slot.unset).toArray = ls at hl ⊢
  have hl : lv_has ls 4 [(0, .ref (b + 0)), (1, .int x), (2, .ref (b + 133))] := hl
  refine lv_aload_n hx hb dL_writeInstrument_0 rfl (lv_at hl 2 rfl) ?_
  refine lv_iconst (v := 0) hx hb dL_writeInstrument_1 (by decide) ?_
  refine lv_aload_n hx hb dL_writeInstrument_2 rfl (lv_at hl 0 rfl) ?_
  refine lv_iload_n hx hb dL_writeInstrument_3 rfl (lv_at hl 1 rfl) ?_
  refine xct_i (vx_runV (As := [.int x]) (rest := [.int 0, .ref (b + 133)]) ⟨hx, hb, hml, hown, hts⟩ (c_X7_writeInstrument l hl0 D cy b n (by omega) M x hcnt) (cwV 1 hts gL_writeInstrument_X7_writeInstrument rfl rfl rfl (by decide +kernel) ⟨Nat.le_of_ble_eq_true rfl, Nat.le_of_ble_eq_true rfl⟩) (xPreV hP hK hX hS (by omega) (cell7 (by decide)) rfl) rfl rfl hl.1 rfl (lv_room (Nat.le_of_ble_eq_true rfl)) dL_writeInstrument_4 ⟨Nat.le_of_ble_eq_true rfl, Nat.le_of_ble_eq_true rfl⟩) hS (fun E ce q H locs hE hP hS hc hv hcl => ?_) (fun H locs hT hP hS => ?_)
  · have hcs := tL_writeInstrument M x
    rcases hE with ⟨e1, rfl⟩ | ⟨e1, rfl⟩ | ⟨e1, rfl⟩
    · refine vx_catch hown [] ⟨0, 9, 12, 19⟩ [] (by rw [htab]; rfl) (fun z hz => absurd hz List.not_mem_nil) rfl (by decide) (hts (.classLink RL 19 "java/lang/IndexOutOfBoundsException") (by decide +kernel)) (va_Nw.use rfl (hX.2.2.2.2.2.2.2.1 "java/lang/IndexOutOfBoundsException" (by decide))) hc hv hcl ?_
      refine lv_astore_n (lv' := [(3, .ref q), (0, .ref (b + 0)), (1, .int x), (2, .ref (b + 133))]) hx hb dL_writeInstrument_12 rfl hl (by decide) rfl (fun ls hl => ?_)
      refine lv_iconst (v := 1) hx hb dL_writeInstrument_13 (by decide) ?_
      exact xe_i hx hb hr hlocks hP hS rfl (by unfold gL_writeInstrument; rw [if_neg (by rw [e1]; decide)]) (by rw [e1]; decide) (Nat.le_of_ble_eq_true rfl) (Nat.le_of_ble_eq_true rfl) dL_writeInstrument_14
    · exfalso; rw [e1] at hcs; revert hcs; decide
    · exfalso; rw [e1] at hcs; revert hcs; decide
  · refine lv_i2l hx hb dL_writeInstrument_7 rfl ?_
    refine xls (j := 0) (x := fX7_writeInstrument M x) (o := 133) hx hb hK hP hS (by omega) (by decide) (ixIn (a := 0) rfl (by decide) (by decide)) rfl dL_writeInstrument_8 (fun H locs hP hS => ?_)
    refine lv_goto (tgt := 15) hx hb dL_writeInstrument_9 (by decide) ?_
    refine lv_iconst (v := 0) hx hb dL_writeInstrument_15 (by decide) ?_
    exact xe_i hx hb hr hlocks hP hS rfl (by unfold gL_writeInstrument; rw [if_pos hT]) (by rw [hT]; rfl) (Nat.le_of_ble_eq_true rfl) (Nat.le_of_ble_eq_true rfl) dL_writeInstrument_16
def gL_outputByte (M : Mem) (x : Int32) : Mem := if tX7_outputByte M x = 0 then mU M 133 0 (fX7_outputByte M x) else M
theorem tL_outputByte (M : Mem) (x : Int32) : tX7_outputByte M x = 0 ∨ tX7_outputByte M x = 1 := by
  unfold tX7_outputByte
  (repeat' split) <;> simp_all
set_option maxHeartbeats 4000000 in
set_option maxRecDepth 100000 in
theorem c_L_outputByte (l : Launch) (hl0 : l.stackTraces = false) (D : va_G) (cy : Nat → ClassId) (b n : Nat) (hn : 134 ≤ n) (M : Mem) (x : Int32) (hot : OUT M) : Met l yL_outputByte wsL_outputByte ({ frames := 7, cells := 1, slots := 6, locals := 111 } : Room) (CP D cy b n fT M [.ref (b + 0), .int x, .ref (b + 133)]) (CQi D cy b n fT (cd [1] (tX7_outputByte M x)) (gL_outputByte M x)) 1 6 (fr b) := by
  refine met_ofWH (cc := cL_outputByte) (maxL := 4) (ret := some .int) (hh := [(0, 9, 12, 19)]) (by decide) rfl ?_
  intro p e s m args below meth c s₁ B hml hv
  obtain ⟨rfl, hP, hK, hX⟩ := hv
  have hx := B.exec
  have hb := B.bytes
  have hr := B.returns
  have hts := atoms_spec (ws := wsL_outputByte) B.pre
  have htab := vx_table (x := yL_outputByte) B (hts _ List.mem_cons_self)
  have hown : s.vm.findClass RL = some m.cls := findClass_of_methodNamed B.named
  have hlocks := B.notSynchronized
  have hS : va_S (fr b) s.heap s.heap [] := va_S.rf
  have hl := lv_entry ([.ref (b + 0), .int x, .ref (b + 133)]) (n := 4) (Nat.le_of_ble_eq_true rfl)
  rw [lg_entry_eq]
  generalize (lg_sl ([.ref (b + 0), .int x, .ref (b + 133)]) ++ List.replicate (4 - (lg_sl ([.ref (b + 0), .int x, .ref (b + 133)])).length) Slot.unset).toArray = ls at hl ⊢
  have hl : lv_has ls 4 [(0, .ref (b + 0)), (1, .int x), (2, .ref (b + 133))] := hl
  refine lv_aload_n hx hb dL_outputByte_0 rfl (lv_at hl 2 rfl) ?_
  refine lv_iconst (v := 0) hx hb dL_outputByte_1 (by decide) ?_
  refine lv_aload_n hx hb dL_outputByte_2 rfl (lv_at hl 0 rfl) ?_
  refine lv_iload_n hx hb dL_outputByte_3 rfl (lv_at hl 1 rfl) ?_
  refine xct_i (vx_runV (As := [.int x]) (rest := [.int 0, .ref (b + 133)]) ⟨hx, hb, hml, hown, hts⟩ (c_X7_outputByte l hl0 D cy b n (by omega) M x hot) (cwV 1 hts gL_outputByte_X7_outputByte rfl rfl rfl (by decide +kernel) ⟨Nat.le_of_ble_eq_true rfl, Nat.le_of_ble_eq_true rfl⟩) (xPreV hP hK hX hS (by omega) (cell7 (by decide)) rfl) rfl rfl hl.1 rfl (lv_room (Nat.le_of_ble_eq_true rfl)) dL_outputByte_4 ⟨Nat.le_of_ble_eq_true rfl, Nat.le_of_ble_eq_true rfl⟩) hS (fun E ce q H locs hE hP hS hc hv hcl => ?_) (fun H locs hT hP hS => ?_)
  · have hcs := tL_outputByte M x
    rcases hE with ⟨e1, rfl⟩ | ⟨e1, rfl⟩ | ⟨e1, rfl⟩
    · refine vx_catch hown [] ⟨0, 9, 12, 19⟩ [] (by rw [htab]; rfl) (fun z hz => absurd hz List.not_mem_nil) rfl (by decide) (hts (.classLink RL 19 "java/lang/IndexOutOfBoundsException") (by decide +kernel)) (va_Nw.use rfl (hX.2.2.2.2.2.2.2.1 "java/lang/IndexOutOfBoundsException" (by decide))) hc hv hcl ?_
      refine lv_astore_n (lv' := [(3, .ref q), (0, .ref (b + 0)), (1, .int x), (2, .ref (b + 133))]) hx hb dL_outputByte_12 rfl hl (by decide) rfl (fun ls hl => ?_)
      refine lv_iconst (v := 1) hx hb dL_outputByte_13 (by decide) ?_
      exact xe_i hx hb hr hlocks hP hS rfl (by unfold gL_outputByte; rw [if_neg (by rw [e1]; decide)]) (by rw [e1]; decide) (Nat.le_of_ble_eq_true rfl) (Nat.le_of_ble_eq_true rfl) dL_outputByte_14
    · exfalso; rw [e1] at hcs; revert hcs; decide
    · exfalso; rw [e1] at hcs; revert hcs; decide
  · refine lv_i2l hx hb dL_outputByte_7 rfl ?_
    refine xls (j := 0) (x := fX7_outputByte M x) (o := 133) hx hb hK hP hS (by omega) (by decide) (ixIn (a := 0) rfl (by decide) (by decide)) rfl dL_outputByte_8 (fun H locs hP hS => ?_)
    refine lv_goto (tgt := 15) hx hb dL_outputByte_9 (by decide) ?_
    refine lv_iconst (v := 0) hx hb dL_outputByte_15 (by decide) ?_
    exact xe_i hx hb hr hlocks hP hS rfl (by unfold gL_outputByte; rw [if_pos hT]) (by rw [hT]; rfl) (Nat.le_of_ble_eq_true rfl) (Nat.le_of_ble_eq_true rfl) dL_outputByte_16
