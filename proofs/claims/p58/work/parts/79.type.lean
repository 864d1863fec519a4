/-! the law's type(d, text) (laid by a program) -/
def exz (b n z : Nat) : Nat → Prop := fun q => ex b n q ∨ z ≤ q
abbrev CPY (D : va_G) (cy : Nat → ClassId) (b : Nat) (M : Mem) (z : Nat) (tx : List (Nat × List Int32)) (av : List Value) : Array Value → State → Prop := va_Pc av (fun U => va_P D vwCl (wL cy b fT M 125) U.heap ∧ va_K D vwCl (tysW cy) U ∧ (SX b U ∧ SJ (exz b 125 z) U) ∧ TXs (exz b 125 z) tx U)
theorem va_S.wkz {b n z : Nat} {H0 H : Heap} {locs : List Loc} (h : va_S (exz b n z) H0 H locs) (hz : b + n ≤ z) : va_S (fr b) H0 H locs := ⟨h.1, fun q h1 h2 => h.2.1 q h1 (fun h3 => h2 (h3.elim (fun x => x.1) (fun x => by show b ≤ q; omega))), fun l hl => (h.2.2 l hl).elim (fun x => x.1) (fun x => by show b ≤ l.base; omega)⟩
theorem wL_DZ {cy : Nat → ClassId} {b z : Nat} {F : Fla} {M : Mem} {n : Nat} : va_D (exz b n z) (wL cy b F M n) := ⟨wL_DX.1, fun k q hk => Or.inl (wL_DX.2 k q hk)⟩
theorem jvx {cy : Nat → ClassId} {b n z v : Nat} {e : va_E} {F : Fla} {M : Mem} (h : va_D (exz b n z) ((v, e) :: wL cy b F M n)) : ¬ ex b n v := fun hv => by
  have h1 : b ≤ v := hv.1
  have h2 : v < b + n := hv.2
  have := h.1 0 (v - b + 1) (v, e) _ rfl (by rw [List.getElem?_cons_succ]; exact wL_get (o := v - b) (by omega)) (show v = b + (v - b) by omega)
  omega
theorem jvD {cy : Nat → ClassId} {b n z v : Nat} {e e' : va_E} {F : Fla} {M M' : Mem} (h : va_D (exz b n z) ((v, e) :: wL cy b F M n)) : va_D (exz b n z) ((v, e') :: wL cy b F M' n) := by
  have hv := jvx h
  have hA : exz b n z v := h.2 0 _ rfl
  refine ⟨fun i j p q hi hj hpq => ?_, fun k q hk => ?_⟩
  · cases i with
    | zero =>
      cases j with
      | zero => rfl
      | succ j =>
        cases hi
        rw [List.getElem?_cons_succ] at hj
        obtain ⟨hj1, rfl⟩ := wL_inv hj
        exact absurd (show ex b n v from by rw [show v = b + j from hpq]; exact ⟨Nat.le_add_right b j, Nat.add_lt_add_left hj1 b⟩) hv
    | succ i =>
      cases j with
      | zero =>
        cases hj
        rw [List.getElem?_cons_succ] at hi
        obtain ⟨hi1, rfl⟩ := wL_inv hi
        exact absurd (show ex b n v from by rw [show v = b + i from hpq.symm]; exact ⟨Nat.le_add_right b i, Nat.add_lt_add_left hi1 b⟩) hv
      | succ j =>
        rw [List.getElem?_cons_succ] at hi hj
        have := wL_D.1 i j p q hi hj hpq
        omega
  · cases k with
    | zero => cases hk; exact hA
    | succ k =>
      rw [List.getElem?_cons_succ] at hk
      exact wL_DZ.2 k q hk
section XTY
variable {p : Program} {l : Launch} {e : Env} {R : Room} {s : State} {m : MethodId} {args : Array Value} {below : List Frame} {meth : Method} {c : Code} {H : Heap} {locs : List Loc} {cells slots : Nat} {Q : State → Prop}
variable {cc : ByteArray} {pc : Nat} {ls : Array Slot} {rest st0 : List Value} {D : va_G} {cy : Nat → ClassId} {A : Nat → Prop} {ws : va_W} {H0 : Heap} {b z v : Nat} {M M1 : Mem} {e0 : va_E}
/-- behind append: the class's cells are those, the other cell is as it was -/
theorem xcx (hv : ¬ ex b 125 v) {mc ms : Nat} {r : Int32} {a : Array Value} (hr : va_Run p l e R s m args below meth c H locs cells slots mc ms (F0 m pc ls st0) rest (CQiX D cy b 125 fT r M1 a) (ex b 125)) (hS : va_S (exz b 125 z) H0 H locs) (hP : va_P D vwCl ((v, e0) :: wL cy b fT M 125) H)
    (kk : ∀ (H1 : Heap) (locs1 : List Loc), va_P D vwCl ((v, e0) :: wL cy b fT M1 125) H1 → True → va_S (exz b 125 z) H0 H1 locs1 → W p l e R s m args below meth c H1 locs1 (cells + mc) (slots + ms) Q (F0 m (pc + 3) ls (.int r :: rest))) : W p l e R s m args below meth c H locs cells slots Q (F0 m pc ls st0) :=
  va_calli hr hS (fun _ _ h => Or.inl h) (fun _ h => Or.inl h) (fun x u t H1 locs1 ht _ hp hB _ hk hS1 => by
    rw [show x = r from hp]
    refine kk H1 locs1 (fun k q hq => ?_) trivial hS1
    cases k with
    | zero =>
      cases hq
      have h0 := hP 0 _ rfl
      exact h0.kept (hk v h0.lt hv)
    | succ k =>
      rw [List.getElem?_cons_succ] at hq
      rw [← ht]
      exact hB k q hq)
/-- a new row of numbers -/
theorem xj_newi (hexec : p.tables.exec = Jvm.exec) (hb : c.code = cc) (harr : (Cond.arrayClass .int).before args s = true) (hK : va_K D vwCl (tysW cy) s) (hP : va_P D vwCl ws H) (hD : va_D A ws) (hS : va_S A s.heap H locs) (hX : SJ A s) {N : Nat} (hN : N ≤ 65536) (hcells : cells + 1 ≤ R.cells) (hslots : slots + N ≤ R.slots) (hdg : decode cc pc = .ok (.newarray .int, 2))
    (kk : ∀ (q : Nat) (H1 : Heap), va_P D vwCl ((q, .inl (cy 1, N, .inl (fun _ => 0))) :: ws) H1 → va_D A ((q, .inl (cy 1, N, .inl (fun _ => 0))) :: ws) → va_S A s.heap H1 locs → W p l e R s m args below meth c H1 locs (cells + 1) (slots + N) Q (F0 m (pc + 2) ls (.ref q :: rest))) : W p l e R s m args below meth c H locs cells slots Q (F0 m pc ls (.int (nI N) :: rest)) := by
  refine va_newa (atype := .int) (ty := .int) (a0 := (N, .inl (fun _ => 0))) (N' := N) hexec hb harr rfl hK hP hD hS hX.2.2.2.2.2 (fun cA => rfl) (nI_pos (by omega)) (nI_clamp (by omega)) ?_ hcells hslots hdg (fun q cA H1 hK1 hP1 hD1 hS1 => ?_)
  · show N * 4 ≤ 536870912
    omega
  have h1 : va_RA s (cy 1) .int := (hK.2 1 (cy 1, .int) rfl).2
  have h2 : va_RA s cA .int := (hK1.2 5 (cA, .int) rfl).2
  unfold va_RA at h1 h2
  cases h1.symm.trans h2
  obtain ⟨hP2, hD2⟩ := jtop ⟨hP1, hD1⟩
  exact kk q H1 hP2 hD2 hS1
end XTY
set_option maxHeartbeats 4000000 in
set_option maxRecDepth 100000 in
theorem cl_L_type_21 (l : Launch) (D : va_G) (cy : Nat → ClassId) (b : Nat) (M0 : Mem) (z a v : Nat) (X : List Int32) (hbz : b + 125 ≤ z) (hXl : X.length ≤ 74) (hXA : ASC X) {p : Program} {e : Env} {s : State} {m : MethodId} {args : Array Value} {below : List Frame} {meth : Method} {c : Code} (hx : p.tables.exec = Jvm.exec) (hb : c.code = cL_type) (hr : meth.sig.returnType = some .int) (hlocks : meth.locks = false) (hml : c.maxLocals = 6) (hown : s.vm.findClass RL = some m.cls) (hts : ∀ w ∈ wsL_type, w.before args s = true) (hK : va_K D vwCl (tysW cy) s) (hX0 : SX b s) (hX : SJ (exz b 125 z) s) (hT : TXs (exz b 125 z) [(a, X)] s) (k : Nat) (hk : k ≤ 80) (f : Nat → Int32) (M : Mem) (hkk : ∀ (H : Heap) (locs : List Loc) (ls : Array Slot), va_P D vwCl ((v, .inl (cy 1, 5, .inl (stepN (fun q => chX X (k + q)) 20 f))) :: wL cy b fT M 125) H → va_D (exz b 125 z) ((v, .inl (cy 1, 5, .inl (stepN (fun q => chX X (k + q)) 20 f))) :: wL cy b fT M 125) → va_S (exz b 125 z) s.heap H locs → lv_has ls 6 [(4, .int (nI k)), (0, .ref (b + 0)), (1, .ref a), (3, .ref v)] → W p l e ({ frames := 4, cells := 1, slots := 5, locals := 140 } : Room) s m args below meth c H locs 1 5 (MQ below (va_Qi (fun x (M1 : Mem) => x = nI X.length ∧ ∃ k, X.length ≤ k ∧ k ≤ 80 ∧ BUF M0 M1 X k) (fun M1 t => va_P D vwCl (wL cy b fT M1 125) t.heap) (exz b 125 z)) args s 1 5 (exz b 125 z)) (F0 m 76 ls [])) : ∀ (d q : Nat), q + d = 20 → ∀ (H : Heap) (locs : List Loc) (ls : Array Slot), va_P D vwCl ((v, .inl (cy 1, 5, .inl (stepN (fun q => chX X (k + q)) q f))) :: wL cy b fT M 125) H → va_D (exz b 125 z) ((v, .inl (cy 1, 5, .inl (stepN (fun q => chX X (k + q)) q f))) :: wL cy b fT M 125) → va_S (exz b 125 z) s.heap H locs → lv_has ls 6 [(5, .int (nI q)), (4, .int (nI k)), (0, .ref (b + 0)), (1, .ref a), (3, .ref v)] → W p l e ({ frames := 4, cells := 1, slots := 5, locals := 140 } : Room) s m args below meth c H locs 1 5 (MQ below (va_Qi (fun x (M1 : Mem) => x = nI X.length ∧ ∃ k, X.length ≤ k ∧ k ≤ 80 ∧ BUF M0 M1 X k) (fun M1 t => va_P D vwCl (wL cy b fT M1 125) t.heap) (exz b 125 z)) args s 1 5 (exz b 125 z)) (F0 m 21 ls []) := by
  have ha : (a, X) ∈ [(a, X)] := by simp
  have q4 : ∀ q, q < 20 → nI q / 4 = nI (q / 4) := by decide +kernel
  intro d
  induction d with
  | zero =>
    intro q hq H locs ls hP hD hS hl
    obtain rfl : q = 20 := by omega
    refine lv_iload hx hb dL_type_21 (lv_at hl 0 rfl) ?_
    refine lv_bipush (v := 20) hx hb dL_type_23 (by decide) ?_
    refine lv_icmp_ge (tgt := 76) hx hb dL_type_25 (by decide) (fun c25 => ?_) (fun c25 => absurd (by decide) c25)
    exact hkk H locs ls hP hD hS (lv_sub hl [1, 2, 3, 4] rfl)
  | succ d ih =>
    intro q hq H locs ls hP hD hS hl
    refine lv_iload hx hb dL_type_21 (lv_at hl 0 rfl) ?_
    refine lv_bipush (v := 20) hx hb dL_type_23 (by decide) ?_
    refine lv_icmp_ge (tgt := 76) hx hb dL_type_25 (by decide) (fun c25 => absurd c25 (by rw [show (20 : Int32) = nI 20 from rfl, nI_leI (by omega) (by omega)]; omega)) (fun c25 => ?_)
    refine lv_aload_n hx hb dL_type_28 rfl (lv_at hl 4 rfl) ?_
    refine lv_iload hx hb dL_type_29 (lv_at hl 0 rfl) ?_
    refine lv_iconst (v := 4) hx hb dL_type_31 (by decide) ?_
    refine lv_idiv hx hb dL_type_32 (by decide) ?_
    refine W.eq (g2 := F0 m 33 ls (.int (nI (q / 4)) :: .ref v :: [])) (congrArg (fun z => F0 m 33 ls (.int z :: .ref v :: [])) (q4 q (by omega))) ?_
    refine lv_aload_n hx hb dL_type_33 rfl (lv_at hl 4 rfl) ?_
    refine lv_iload hx hb dL_type_34 (lv_at hl 0 rfl) ?_
    refine lv_iconst (v := 4) hx hb dL_type_36 (by decide) ?_
    refine lv_idiv hx hb dL_type_37 (by decide) ?_
    refine W.eq (g2 := F0 m 38 ls (.int (nI (q / 4)) :: .ref v :: .int (nI (q / 4)) :: .ref v :: [])) (congrArg (fun z => F0 m 38 ls (.int z :: .ref v :: .int (nI (q / 4)) :: .ref v :: [])) (q4 q (by omega))) ?_
    refine va_iald hx hb hK hP 0 1 rfl rfl (vp_in_nI (n := q / 4) (by omega) (by omega)) dL_type_38 ?_
    refine W.eq (g2 := F0 m 39 ls (.int ((stepN (fun q => chX X (k + q)) q f) (q / 4)) :: .int (nI (q / 4)) :: .ref v :: [])) (congrArg (fun z => F0 m 39 ls (.int z :: .int (nI (q / 4)) :: .ref v :: [])) (by show (stepN (fun q => chX X (k + q)) q f) (nI (q / 4)).toNatClampNeg = _; rw [nI_clamp (by omega)])) ?_
    refine lv_bipush (v := 8) hx hb dL_type_39 (by decide) ?_
    refine lv_ishl hx hb dL_type_41 ?_
    refine lv_iload hx hb dL_type_42 (lv_at hl 1 rfl) ?_
    refine lv_iload hx hb dL_type_44 (lv_at hl 0 rfl) ?_
    refine xadd (z := nI (k + q)) hx hb (ixAdd (a := k) (c := q) (d := (k + q)) rfl rfl (by omega)) dL_type_46 ?_
    refine lv_aload_n hx hb dL_type_47 rfl (lv_at hl 3 rfl) ?_
    refine xj_i (va_runV (As := []) (rest := [.int (nI (k + q)), .int (((stepN (fun q => chX X (k + q)) q f) (q / 4)) <<< ((8 : Int32) &&& 31)), .int (nI (q / 4)), .ref v]) ⟨hx, hb, hml, hown, hts⟩ (c_length l D cy (exz b 125 z) ((v, .inl (cy 1, 5, .inl (stepN (fun q => chX X (k + q)) q f))) :: wL cy b fT M 125) [(a, X)] a X (by simp)) (cwV 0 hts gL_type_J0_length_8abf5 rfl rfl rfl (by decide +kernel) ⟨Nat.le_of_ble_eq_true rfl, Nat.le_of_ble_eq_true rfl⟩) (jPreVS hP hD hK hX hT hS (hT _ ha)) rfl rfl hl.1 rfl (lv_room (Nat.le_of_ble_eq_true rfl)) dL_type_48 ⟨Nat.le_of_ble_eq_true rfl, Nat.le_of_ble_eq_true rfl⟩) hS (fun H locs hP hD hS => ?_)
    refine lv_icmp_ge (tgt := 66) hx hb dL_type_51 (by decide) (fun c51 => ?_) (fun c51 => ?_)
    · refine lv_bipush (v := 32) hx hb dL_type_66 (by decide) ?_
      refine W.eq (g2 := F0 m 68 ls (.int (chX X (k + q)) :: .int (((stepN (fun q => chX X (k + q)) q f) (q / 4)) <<< ((8 : Int32) &&& 31)) :: .int (nI (q / 4)) :: .ref v :: [])) (congrArg (fun z => F0 m 68 ls (.int z :: .int (((stepN (fun q => chX X (k + q)) q f) (q / 4)) <<< ((8 : Int32) &&& 31)) :: .int (nI (q / 4)) :: .ref v :: [])) (by unfold chX; rw [if_neg (by rw [nI_leI (by omega) (by omega)] at c51; omega)])) ?_
      refine lv_ior hx hb dL_type_68 ?_
      refine va_iast hx hb hK hP hD hS 0 1 rfl rfl (vp_in_nI (by omega) (by omega)) dL_type_69 (fun H locs hP hD hS => ?_)
      rw [nI_clamp (by omega)] at hP hD
      have hP : va_P D vwCl ((v, .inl (cy 1, 5, .inl (upd (stepN (fun q => chX X (k + q)) q f) (q / 4) ((((stepN (fun q => chX X (k + q)) q f) (q / 4)) <<< ((8 : Int32) &&& 31)) ||| (chX X (k + q)))))) :: wL cy b fT M 125) H := hP
      have hD : va_D (exz b 125 z) ((v, .inl (cy 1, 5, .inl (upd (stepN (fun q => chX X (k + q)) q f) (q / 4) ((((stepN (fun q => chX X (k + q)) q f) (q / 4)) <<< ((8 : Int32) &&& 31)) ||| (chX X (k + q)))))) :: wL cy b fT M 125) := hD
      refine lv_iinc (v := nI (q + 1)) (lv' := [(5, .int (nI (q + 1))), (4, .int (nI k)), (0, .ref (b + 0)), (1, .ref a), (3, .ref v)]) hx hb dL_type_70 hl (k := 0) rfl (ixAdd (a := q) (c := 1) (d := q + 1) rfl rfl rfl) (by decide) rfl (fun ls hl => ?_)
      refine lv_goto (tgt := 21) hx hb dL_type_73 (by decide) ?_
      exact ih (q + 1) (by omega) H locs ls hP hD hS (lv_sub hl [0, 1, 2, 3, 4] rfl)
    · refine lv_aload_n hx hb dL_type_54 rfl (lv_at hl 3 rfl) ?_
      refine lv_iload hx hb dL_type_55 (lv_at hl 1 rfl) ?_
      refine lv_iload hx hb dL_type_57 (lv_at hl 0 rfl) ?_
      have hlt : k + q < X.length := by rw [nI_leI (by omega) (by omega)] at c51; omega
      refine xadd (z := nI (k + q)) hx hb (ixAdd (a := k) (c := q) (d := (k + q)) rfl rfl (by omega)) dL_type_59 ?_
      refine xj_i (va_runV (As := [.int (nI (k + q))]) (rest := [.int (((stepN (fun q => chX X (k + q)) q f) (q / 4)) <<< ((8 : Int32) &&& 31)), .int (nI (q / 4)), .ref v]) ⟨hx, hb, hml, hown, hts⟩ (c_charAt l D cy (exz b 125 z) ((v, .inl (cy 1, 5, .inl (stepN (fun q => chX X (k + q)) q f))) :: wL cy b fT M 125) [(a, X)] a X (by simp) (k + q) hlt (by omega)) (cwV 1 hts gL_type_J0_charAt_5068e rfl rfl rfl (by decide +kernel) ⟨Nat.le_of_ble_eq_true rfl, Nat.le_of_ble_eq_true rfl⟩) (jPreVS hP hD hK hX hT hS (hT _ ha)) rfl rfl hl.1 rfl (lv_room (Nat.le_of_ble_eq_true rfl)) dL_type_60 ⟨Nat.le_of_ble_eq_true rfl, Nat.le_of_ble_eq_true rfl⟩) hS (fun H locs hP hD hS => ?_)
      refine W.eq (g2 := F0 m 63 ls (.int (chX X (k + q)) :: .int (((stepN (fun q => chX X (k + q)) q f) (q / 4)) <<< ((8 : Int32) &&& 31)) :: .int (nI (q / 4)) :: .ref v :: [])) (congrArg (fun z => F0 m 63 ls (.int z :: .int (((stepN (fun q => chX X (k + q)) q f) (q / 4)) <<< ((8 : Int32) &&& 31)) :: .int (nI (q / 4)) :: .ref v :: [])) (by unfold chX; rw [if_pos hlt])) ?_
      refine lv_goto (tgt := 68) hx hb dL_type_63 (by decide) ?_
      refine lv_ior hx hb dL_type_68 ?_
      refine va_iast hx hb hK hP hD hS 0 1 rfl rfl (vp_in_nI (by omega) (by omega)) dL_type_69 (fun H locs hP hD hS => ?_)
      rw [nI_clamp (by omega)] at hP hD
      have hP : va_P D vwCl ((v, .inl (cy 1, 5, .inl (upd (stepN (fun q => chX X (k + q)) q f) (q / 4) ((((stepN (fun q => chX X (k + q)) q f) (q / 4)) <<< ((8 : Int32) &&& 31)) ||| (chX X (k + q)))))) :: wL cy b fT M 125) H := hP
      have hD : va_D (exz b 125 z) ((v, .inl (cy 1, 5, .inl (upd (stepN (fun q => chX X (k + q)) q f) (q / 4) ((((stepN (fun q => chX X (k + q)) q f) (q / 4)) <<< ((8 : Int32) &&& 31)) ||| (chX X (k + q)))))) :: wL cy b fT M 125) := hD
      refine lv_iinc (v := nI (q + 1)) (lv' := [(5, .int (nI (q + 1))), (4, .int (nI k)), (0, .ref (b + 0)), (1, .ref a), (3, .ref v)]) hx hb dL_type_70 hl (k := 0) rfl (ixAdd (a := q) (c := 1) (d := q + 1) rfl rfl rfl) (by decide) rfl (fun ls hl => ?_)
      refine lv_goto (tgt := 21) hx hb dL_type_73 (by decide) ?_
      exact ih (q + 1) (by omega) H locs ls hP hD hS (lv_sub hl [0, 1, 2, 3, 4] rfl)
set_option maxHeartbeats 4000000 in
set_option maxRecDepth 100000 in
theorem cl_L_type_9 (l : Launch) (D : va_G) (cy : Nat → ClassId) (b : Nat) (M0 : Mem) (z a v : Nat) (X : List Int32) (hbz : b + 125 ≤ z) (hXl : X.length ≤ 74) (hXA : ASC X) {p : Program} {e : Env} {s : State} {m : MethodId} {args : Array Value} {below : List Frame} {meth : Method} {c : Code} (hx : p.tables.exec = Jvm.exec) (hb : c.code = cL_type) (hr : meth.sig.returnType = some .int) (hlocks : meth.locks = false) (hml : c.maxLocals = 6) (hown : s.vm.findClass RL = some m.cls) (hts : ∀ w ∈ wsL_type, w.before args s = true) (hK : va_K D vwCl (tysW cy) s) (hX0 : SX b s) (hX : SJ (exz b 125 z) s) (hT : TXs (exz b 125 z) [(a, X)] s) : ∀ (d k : Nat), k + 20 * d = 80 → ∀ (M : Mem) (f0 : Nat → Int32) (H : Heap) (locs : List Loc) (ls : Array Slot), BUF M0 M X k → va_P D vwCl ((v, .inl (cy 1, 5, .inl f0)) :: wL cy b fT M 125) H → va_D (exz b 125 z) ((v, .inl (cy 1, 5, .inl f0)) :: wL cy b fT M 125) → va_S (exz b 125 z) s.heap H locs → lv_has ls 6 [(4, .int (nI k)), (0, .ref (b + 0)), (1, .ref a), (3, .ref v)] → W p l e ({ frames := 4, cells := 1, slots := 5, locals := 140 } : Room) s m args below meth c H locs 1 5 (MQ below (va_Qi (fun x (M1 : Mem) => x = nI X.length ∧ ∃ k, X.length ≤ k ∧ k ≤ 80 ∧ BUF M0 M1 X k) (fun M1 t => va_P D vwCl (wL cy b fT M1 125) t.heap) (exz b 125 z)) args s 1 5 (exz b 125 z)) (F0 m 9 ls []) := by
  have ha : (a, X) ∈ [(a, X)] := by simp
  intro d
  induction d with
  | zero =>
    intro k hk M f0 H locs ls hB hP hD hS hl
    refine lv_iload hx hb dL_type_9 (lv_at hl 0 rfl) ?_
    refine lv_aload_n hx hb dL_type_11 rfl (lv_at hl 2 rfl) ?_
    refine xj_i (va_runV (As := []) (rest := [.int (nI k)]) ⟨hx, hb, hml, hown, hts⟩ (c_length l D cy (exz b 125 z) ((v, .inl (cy 1, 5, .inl f0)) :: wL cy b fT M 125) [(a, X)] a X (by simp)) (cwV 0 hts gL_type_J0_length_8abf5 rfl rfl rfl (by decide +kernel) ⟨Nat.le_of_ble_eq_true rfl, Nat.le_of_ble_eq_true rfl⟩) (jPreVS hP hD hK hX hT hS (hT _ ha)) rfl rfl hl.1 rfl (lv_room (Nat.le_of_ble_eq_true rfl)) dL_type_12 ⟨Nat.le_of_ble_eq_true rfl, Nat.le_of_ble_eq_true rfl⟩) hS (fun H locs hP hD hS => ?_)
    refine lv_icmp_ge (tgt := 102) hx hb dL_type_15 (by decide) (fun c15 => ?_) (fun c15 => absurd (by show nI X.length ≤ nI k; exact nI_le (by omega) (by omega)) c15)
    refine lv_aload_n hx hb dL_type_102 rfl (lv_at hl 2 rfl) ?_
    refine xj_i (va_runV (As := []) (rest := []) ⟨hx, hb, hml, hown, hts⟩ (c_length l D cy (exz b 125 z) ((v, .inl (cy 1, 5, .inl f0)) :: wL cy b fT M 125) [(a, X)] a X (by simp)) (cwV 0 hts gL_type_J0_length_8abf5 rfl rfl rfl (by decide +kernel) ⟨Nat.le_of_ble_eq_true rfl, Nat.le_of_ble_eq_true rfl⟩) (jPreVS hP hD hK hX hT hS (hT _ ha)) rfl rfl hl.1 rfl (lv_room (Nat.le_of_ble_eq_true rfl)) dL_type_103 ⟨Nat.le_of_ble_eq_true rfl, Nat.le_of_ble_eq_true rfl⟩) hS (fun H locs hP hD hS => ?_)
    refine W.widen (k := 1) (n := 5) (Nat.le_of_ble_eq_true rfl) (Nat.le_of_ble_eq_true rfl) ?_
    exact W.iret hx hb hr (fun t ht hW => ⟨⟨nI X.length, M, rfl, ⟨rfl, k, by omega, by omega, hB⟩, by show va_P _ _ _ t.heap; rw [ht]; exact hP.of (fun q hq => List.mem_cons_of_mem _ hq)⟩, hS.F ht⟩) hS.2.2 dL_type_106 hlocks
  | succ d ih =>
    intro k hk M f0 H locs ls hB hP hD hS hl
    have hBf : TF M ∧ (M 10 1) ≤ (580 : Int32) := ⟨hB.tf (by omega), by rw [hB.1]; exact (nI_le (by omega) (by omega) : nI k ≤ nI 580)⟩
    by_cases hex : X.length ≤ k
    · refine lv_iload hx hb dL_type_9 (lv_at hl 0 rfl) ?_
      refine lv_aload_n hx hb dL_type_11 rfl (lv_at hl 2 rfl) ?_
      refine xj_i (va_runV (As := []) (rest := [.int (nI k)]) ⟨hx, hb, hml, hown, hts⟩ (c_length l D cy (exz b 125 z) ((v, .inl (cy 1, 5, .inl f0)) :: wL cy b fT M 125) [(a, X)] a X (by simp)) (cwV 0 hts gL_type_J0_length_8abf5 rfl rfl rfl (by decide +kernel) ⟨Nat.le_of_ble_eq_true rfl, Nat.le_of_ble_eq_true rfl⟩) (jPreVS hP hD hK hX hT hS (hT _ ha)) rfl rfl hl.1 rfl (lv_room (Nat.le_of_ble_eq_true rfl)) dL_type_12 ⟨Nat.le_of_ble_eq_true rfl, Nat.le_of_ble_eq_true rfl⟩) hS (fun H locs hP hD hS => ?_)
      refine lv_icmp_ge (tgt := 102) hx hb dL_type_15 (by decide) (fun c15 => ?_) (fun c15 => absurd (by show nI X.length ≤ nI k; exact nI_le (by omega) (by omega)) c15)
      refine lv_aload_n hx hb dL_type_102 rfl (lv_at hl 2 rfl) ?_
      refine xj_i (va_runV (As := []) (rest := []) ⟨hx, hb, hml, hown, hts⟩ (c_length l D cy (exz b 125 z) ((v, .inl (cy 1, 5, .inl f0)) :: wL cy b fT M 125) [(a, X)] a X (by simp)) (cwV 0 hts gL_type_J0_length_8abf5 rfl rfl rfl (by decide +kernel) ⟨Nat.le_of_ble_eq_true rfl, Nat.le_of_ble_eq_true rfl⟩) (jPreVS hP hD hK hX hT hS (hT _ ha)) rfl rfl hl.1 rfl (lv_room (Nat.le_of_ble_eq_true rfl)) dL_type_103 ⟨Nat.le_of_ble_eq_true rfl, Nat.le_of_ble_eq_true rfl⟩) hS (fun H locs hP hD hS => ?_)
      refine W.widen (k := 1) (n := 5) (Nat.le_of_ble_eq_true rfl) (Nat.le_of_ble_eq_true rfl) ?_
      exact W.iret hx hb hr (fun t ht hW => ⟨⟨nI X.length, M, rfl, ⟨rfl, k, by omega, by omega, hB⟩, by show va_P _ _ _ t.heap; rw [ht]; exact hP.of (fun q hq => List.mem_cons_of_mem _ hq)⟩, hS.F ht⟩) hS.2.2 dL_type_106 hlocks
    · refine lv_iload hx hb dL_type_9 (lv_at hl 0 rfl) ?_
      refine lv_aload_n hx hb dL_type_11 rfl (lv_at hl 2 rfl) ?_
      refine xj_i (va_runV (As := []) (rest := [.int (nI k)]) ⟨hx, hb, hml, hown, hts⟩ (c_length l D cy (exz b 125 z) ((v, .inl (cy 1, 5, .inl f0)) :: wL cy b fT M 125) [(a, X)] a X (by simp)) (cwV 0 hts gL_type_J0_length_8abf5 rfl rfl rfl (by decide +kernel) ⟨Nat.le_of_ble_eq_true rfl, Nat.le_of_ble_eq_true rfl⟩) (jPreVS hP hD hK hX hT hS (hT _ ha)) rfl rfl hl.1 rfl (lv_room (Nat.le_of_ble_eq_true rfl)) dL_type_12 ⟨Nat.le_of_ble_eq_true rfl, Nat.le_of_ble_eq_true rfl⟩) hS (fun H locs hP hD hS => ?_)
      refine lv_icmp_ge (tgt := 102) hx hb dL_type_15 (by decide) (fun c15 => absurd (by rwa [nI_leI (by omega) (by omega)] at c15) hex) (fun c15 => ?_)
      refine lv_iconst (v := 0) hx hb dL_type_18 (by decide) ?_
      refine lv_istore (lv' := [(5, .int 0), (4, .int (nI k)), (0, .ref (b + 0)), (1, .ref a), (3, .ref v)]) hx hb dL_type_19 hl (by decide) rfl (fun ls hl => ?_)
      refine cl_L_type_21 l D cy b M0 z a v X hbz hXl hXA hx hb hr hlocks hml hown hts hK hX0 hX hT k (by omega) f0 M (fun H locs ls hP hD hS hl => ?_) 20 0 rfl H locs ls hP hD hS (lv_sub hl [0, 1, 2, 3, 4] rfl)
      refine lv_aload_n hx hb dL_type_76 rfl (lv_at hl 1 rfl) ?_
      refine lv_aload_n hx hb dL_type_77 rfl (lv_at hl 3 rfl) ?_
      refine lv_iconst (v := 0) hx hb dL_type_78 (by decide) ?_
      refine va_iald hx hb hK hP 0 1 rfl rfl (vp_in_nI (n := 0) (by omega) (by omega)) dL_type_79 ?_
      refine W.eq (g2 := F0 m 80 ls (.int ((stepN (fun q => chX X (k + q)) 20 f0) 0) :: .ref (b + 0) :: [])) (congrArg (fun z => F0 m 80 ls (.int z :: .ref (b + 0) :: [])) (by show (stepN (fun q => chX X (k + q)) 20 f0) (nI 0).toNatClampNeg = _; rw [nI_clamp (by omega)])) ?_
      refine lv_aload_n hx hb dL_type_80 rfl (lv_at hl 3 rfl) ?_
      refine lv_iconst (v := 1) hx hb dL_type_81 (by decide) ?_
      refine va_iald hx hb hK hP 0 1 rfl rfl (vp_in_nI (n := 1) (by omega) (by omega)) dL_type_82 ?_
      refine W.eq (g2 := F0 m 83 ls (.int ((stepN (fun q => chX X (k + q)) 20 f0) 1) :: .int ((stepN (fun q => chX X (k + q)) 20 f0) 0) :: .ref (b + 0) :: [])) (congrArg (fun z => F0 m 83 ls (.int z :: .int ((stepN (fun q => chX X (k + q)) 20 f0) 0) :: .ref (b + 0) :: [])) (by show (stepN (fun q => chX X (k + q)) 20 f0) (nI 1).toNatClampNeg = _; rw [nI_clamp (by omega)])) ?_
      refine lv_aload_n hx hb dL_type_83 rfl (lv_at hl 3 rfl) ?_
      refine lv_iconst (v := 2) hx hb dL_type_84 (by decide) ?_
      refine va_iald hx hb hK hP 0 1 rfl rfl (vp_in_nI (n := 2) (by omega) (by omega)) dL_type_85 ?_
      refine W.eq (g2 := F0 m 86 ls (.int ((stepN (fun q => chX X (k + q)) 20 f0) 2) :: .int ((stepN (fun q => chX X (k + q)) 20 f0) 1) :: .int ((stepN (fun q => chX X (k + q)) 20 f0) 0) :: .ref (b + 0) :: [])) (congrArg (fun z => F0 m 86 ls (.int z :: .int ((stepN (fun q => chX X (k + q)) 20 f0) 1) :: .int ((stepN (fun q => chX X (k + q)) 20 f0) 0) :: .ref (b + 0) :: [])) (by show (stepN (fun q => chX X (k + q)) 20 f0) (nI 2).toNatClampNeg = _; rw [nI_clamp (by omega)])) ?_
      refine lv_aload_n hx hb dL_type_86 rfl (lv_at hl 3 rfl) ?_
      refine lv_iconst (v := 3) hx hb dL_type_87 (by decide) ?_
      refine va_iald hx hb hK hP 0 1 rfl rfl (vp_in_nI (n := 3) (by omega) (by omega)) dL_type_88 ?_
      refine W.eq (g2 := F0 m 89 ls (.int ((stepN (fun q => chX X (k + q)) 20 f0) 3) :: .int ((stepN (fun q => chX X (k + q)) 20 f0) 2) :: .int ((stepN (fun q => chX X (k + q)) 20 f0) 1) :: .int ((stepN (fun q => chX X (k + q)) 20 f0) 0) :: .ref (b + 0) :: [])) (congrArg (fun z => F0 m 89 ls (.int z :: .int ((stepN (fun q => chX X (k + q)) 20 f0) 2) :: .int ((stepN (fun q => chX X (k + q)) 20 f0) 1) :: .int ((stepN (fun q => chX X (k + q)) 20 f0) 0) :: .ref (b + 0) :: [])) (by show (stepN (fun q => chX X (k + q)) 20 f0) (nI 3).toNatClampNeg = _; rw [nI_clamp (by omega)])) ?_
      refine lv_aload_n hx hb dL_type_89 rfl (lv_at hl 3 rfl) ?_
      refine lv_iconst (v := 4) hx hb dL_type_90 (by decide) ?_
      refine va_iald hx hb hK hP 0 1 rfl rfl (vp_in_nI (n := 4) (by omega) (by omega)) dL_type_91 ?_
      refine W.eq (g2 := F0 m 92 ls (.int ((stepN (fun q => chX X (k + q)) 20 f0) 4) :: .int ((stepN (fun q => chX X (k + q)) 20 f0) 3) :: .int ((stepN (fun q => chX X (k + q)) 20 f0) 2) :: .int ((stepN (fun q => chX X (k + q)) 20 f0) 1) :: .int ((stepN (fun q => chX X (k + q)) 20 f0) 0) :: .ref (b + 0) :: [])) (congrArg (fun z => F0 m 92 ls (.int z :: .int ((stepN (fun q => chX X (k + q)) 20 f0) 3) :: .int ((stepN (fun q => chX X (k + q)) 20 f0) 2) :: .int ((stepN (fun q => chX X (k + q)) 20 f0) 1) :: .int ((stepN (fun q => chX X (k + q)) 20 f0) 0) :: .ref (b + 0) :: [])) (by show (stepN (fun q => chX X (k + q)) 20 f0) (nI 4).toNatClampNeg = _; rw [nI_clamp (by omega)])) ?_
      have hvx : ¬ ex b 125 v := jvx hD
      refine xcx hvx (M1 := gX7_append M ((stepN (fun q => chX X (k + q)) 20 f0) 0) ((stepN (fun q => chX X (k + q)) 20 f0) 1) ((stepN (fun q => chX X (k + q)) 20 f0) 2) ((stepN (fun q => chX X (k + q)) 20 f0) 3) ((stepN (fun q => chX X (k + q)) 20 f0) 4)) (va_runV (As := [.int ((stepN (fun q => chX X (k + q)) 20 f0) 0), .int ((stepN (fun q => chX X (k + q)) 20 f0) 1), .int ((stepN (fun q => chX X (k + q)) 20 f0) 2), .int ((stepN (fun q => chX X (k + q)) 20 f0) 3), .int ((stepN (fun q => chX X (k + q)) 20 f0) 4)]) (rest := []) ⟨hx, hb, hml, hown, hts⟩ (x_X7_append l D cy b 125 (by omega) M ((stepN (fun q => chX X (k + q)) 20 f0) 0) ((stepN (fun q => chX X (k + q)) 20 f0) 1) ((stepN (fun q => chX X (k + q)) 20 f0) 2) ((stepN (fun q => chX X (k + q)) 20 f0) 3) ((stepN (fun q => chX X (k + q)) 20 f0) 4) hBf.1 hBf.2) (cwV 5 hts gL_type_X7_append rfl rfl rfl (by decide +kernel) ⟨Nat.le_of_ble_eq_true rfl, Nat.le_of_ble_eq_true rfl⟩) (xPreV (hP.of (fun q hq => List.mem_cons_of_mem _ hq)) hK hX0 (hS.wkz hbz) (by omega) (cell7 (by decide)) rfl) rfl rfl hl.1 rfl (lv_room (Nat.le_of_ble_eq_true rfl)) dL_type_92 ⟨Nat.le_of_ble_eq_true rfl, Nat.le_of_ble_eq_true rfl⟩) hS hP (fun H locs hP _ hS => ?_)
      have hB2 := hB.step (by omega) hXA f0
      obtain ⟨M2, hM2⟩ : ∃ M2, M2 = gX7_append M ((stepN (fun q => chX X (k + q)) 20 f0) 0) ((stepN (fun q => chX X (k + q)) 20 f0) 1) ((stepN (fun q => chX X (k + q)) 20 f0) 2) ((stepN (fun q => chX X (k + q)) 20 f0) 3) ((stepN (fun q => chX X (k + q)) 20 f0) 4) := ⟨_, rfl⟩
      rw [← hM2] at hP hB2
      have hD := jvD (M' := M2) (e' := .inl (cy 1, 5, .inl (stepN (fun q => chX X (k + q)) 20 f0))) hD
      refine lv_istore_n (lv' := [(2, .int (fX7_append M ((stepN (fun q => chX X (k + q)) 20 f0) 0) ((stepN (fun q => chX X (k + q)) 20 f0) 1) ((stepN (fun q => chX X (k + q)) 20 f0) 2) ((stepN (fun q => chX X (k + q)) 20 f0) 3) ((stepN (fun q => chX X (k + q)) 20 f0) 4))), (4, .int (nI k)), (0, .ref (b + 0)), (1, .ref a), (3, .ref v)]) hx hb dL_type_95 rfl hl (by decide) rfl (fun ls hl => ?_)
      refine lv_iinc (v := nI (k + 20)) (lv' := [(4, .int (nI (k + 20))), (2, .int (fX7_append M ((stepN (fun q => chX X (k + q)) 20 f0) 0) ((stepN (fun q => chX X (k + q)) 20 f0) 1) ((stepN (fun q => chX X (k + q)) 20 f0) 2) ((stepN (fun q => chX X (k + q)) 20 f0) 3) ((stepN (fun q => chX X (k + q)) 20 f0) 4))), (0, .ref (b + 0)), (1, .ref a), (3, .ref v)]) hx hb dL_type_96 hl (k := 1) rfl (ixAdd (a := k) (c := 20) (d := k + 20) rfl rfl rfl) (by decide) rfl (fun ls hl => ?_)
      refine lv_goto (tgt := 9) hx hb dL_type_99 (by decide) ?_
      exact ih (k + 20) (by omega) M2 (stepN (fun q => chX X (k + q)) 20 f0) H locs ls hB2 hP hD hS (lv_sub hl [0, 2, 3, 4] rfl)
set_option maxHeartbeats 4000000 in
set_option maxRecDepth 100000 in
theorem c_L_type (l : Launch) (D : va_G) (cy : Nat → ClassId) (b : Nat) (M0 : Mem) (z a : Nat) (X : List Int32) (hbz : b + 125 ≤ z) (hXl : X.length ≤ 74) (hXA : ASC X) (hM : M0 10 1 = 0) : Met l yL_type wsL_type ({ frames := 4, cells := 1, slots := 5, locals := 140 } : Room) (CPY D cy b M0 z [(a, X)] [.ref (b + 0), .ref a]) (va_Qi (fun x (M1 : Mem) => x = nI X.length ∧ ∃ k, X.length ≤ k ∧ k ≤ 80 ∧ BUF M0 M1 X k) (fun M1 t => va_P D vwCl (wL cy b fT M1 125) t.heap) (exz b 125 z)) 1 5 (exz b 125 z) := by
  refine Met.ofW (cc := cL_type) (maxL := 6) (ret := some .int) (by decide) rfl ?_
  intro p e s m args below meth c s₁ B hml hv
  obtain ⟨rfl, hP, hK, ⟨hX0, hX⟩, hT⟩ := hv
  have hx := B.exec
  have hb := B.bytes
  have hr := B.returns
  have hts := atoms_spec (ws := wsL_type) B.pre
  have hown : s.vm.findClass RL = some m.cls := findClass_of_methodNamed B.named
  have hlocks := B.notSynchronized
  have hS : va_S (exz b 125 z) s.heap s.heap [] := va_S.rf
  have hD : va_D (exz b 125 z) (wL cy b fT M0 125) := wL_DZ
  have hl := lv_entry ([.ref (b + 0), .ref a]) (n := 6) (Nat.le_of_ble_eq_true rfl)
  rw [lg_entry_eq]
  generalize (lg_sl ([.ref (b + 0), .ref a]) ++ List.replicate (6 - (lg_sl ([.ref (b + 0), .ref a])).length) Slot.unset).toArray = ls at hl ⊢
  have hl : lv_has ls 6 [(0, .ref (b + 0)), (1, .ref a)] := hl
  refine lv_iconst (v := 0) hx hb dL_type_0 (by decide) ?_
  refine lv_istore_n (lv' := [(2, .int 0), (0, .ref (b + 0)), (1, .ref a)]) hx hb dL_type_1 rfl hl (by decide) rfl (fun ls hl => ?_)
  refine lv_iconst (v := nI 5) hx hb dL_type_2 (by decide) ?_
  refine xj_newi (N := 5) hx hb (hts (.arrayClass .int) (by decide +kernel)) hK hP hD hS hX (by omega) (Nat.le_of_ble_eq_true rfl) (Nat.le_of_ble_eq_true rfl) dL_type_3 (fun v H hP hD hS => ?_)
  refine lv_astore_n (lv' := [(3, .ref v), (2, .int 0), (0, .ref (b + 0)), (1, .ref a)]) hx hb dL_type_5 rfl hl (by decide) rfl (fun ls hl => ?_)
  refine lv_iconst (v := nI 0) hx hb dL_type_6 (by decide) ?_
  refine lv_istore (lv' := [(4, .int (nI 0)), (3, .ref v), (2, .int 0), (0, .ref (b + 0)), (1, .ref a)]) hx hb dL_type_7 hl (by decide) rfl (fun ls hl => ?_)
  exact cl_L_type_9 l D cy b M0 z a v X hbz hXl hXA hx hb hr hlocks hml hown hts hK hX0 hX hT 4 0 rfl M0 (fun _ => 0) H [] ls (BUF.z hM) hP hD hS (lv_sub hl [0, 3, 4, 1] rfl)
