/-! append once more: nothing but the class's own cells is written (laid by a program) -/
def ex (b n : Nat) : Addr → Prop := fun q => b ≤ q ∧ q < b + n
theorem wL_DX {cy : Nat → ClassId} {b : Nat} {F : Fla} {M : Mem} {n : Nat} : va_D (ex b n) (wL cy b F M n) := by
  refine ⟨wL_D.1, fun k q hk => ?_⟩
  obtain ⟨h, rfl⟩ := wL_inv hk
  exact ⟨Nat.le_add_right b k, Nat.add_lt_add_left h b⟩
theorem va_S.wk {b n : Nat} {H0 H : Heap} {locs : List Loc} (h : va_S (ex b n) H0 H locs) : va_S (fr b) H0 H locs := ⟨h.1, fun q h1 h2 => h.2.1 q h1 (fun h3 => h2 h3.1), fun l hl => (h.2.2 l hl).1⟩
abbrev CQiX (D : va_G) (cy : Nat → ClassId) (b n : Nat) (F : Fla) (r : Int32) (M : Mem) : Array Value → State → Outcome → State → Prop := va_Qi (fun x (_ : Unit) => x = r) (fun _ t => va_P D vwCl (wL cy b F M n) t.heap) (ex b n)
abbrev CQvX (D : va_G) (cy : Nat → ClassId) (b n : Nat) (F : Fla) (M : Mem) : Array Value → State → Outcome → State → Prop := va_Qv (fun (_ : Unit) => True) (fun _ t => va_P D vwCl (wL cy b F M n) t.heap) (ex b n)
section XRX
variable {p : Program} {l : Launch} {e : Env} {R : Room} {s : State} {m : MethodId} {args : Array Value} {below : List Frame} {meth : Method} {c : Code} {H : Heap} {locs : List Loc} {cells slots : Nat} {Q : State → Prop}
variable {cc : ByteArray} {pc : Nat} {ls : Array Slot} {rest st0 : List Value} {D : va_G} {cy : Nat → ClassId} {b n : Nat} {F : Fla} {M : Mem} {H0 : Heap}
theorem xpX (hexec : p.tables.exec = Jvm.exec) (hb : c.code = cc) {own ref C : String} {T : u_T} {N ci index : Nat} {Ts : List Cond} (hts : ∀ w ∈ Ts, w.before args s = true) (hin : ∀ w ∈ u_ws C T N, w ∈ Ts) (ty0 : Nat → FieldType) (hty : ∀ k, k < N → parseFieldDescriptor (T k).2.2.1 = some (ty0 k)) (hnm : ∀ a, a < N → ∀ b, b < N → a ≠ b → (T a).2.1 ≠ (T b).2.1) (hown : s.vm.findClass own = some m.cls) (hK : va_K D vwCl (tysW cy) s) (hP : va_P D vwCl (wL cy b F M n) H) (hS : va_S (ex b n) H0 H locs) {o : Nat} (ho : o < n) {fs : (Nat → Int32) → List Value} (he : ∀ m, cellR cy b o (F o) m = .inr (ci, fs m)) (hc : vwCl[ci]? = some (C, T, N)) (k : Nat) (hk : k < N) {x : Int32} (hset : (fs (M o)).set k (.int x) = fs (upd (M o) k x)) (hlink : (Cond.fieldLink own index ref (T k).2.1 (T k).2.2.1).before args s = true) (hsame : ∀ x, s.fieldFound? (T k).1 (T k).2.1 (T k).2.2.1 = some x → s.fieldFound? ref (T k).2.1 (T k).2.2.1 = some x) (hfin : (T k).2.2.2 = false) {ty : FieldType} (hd : parseFieldDescriptor (T k).2.2.1 = some ty) (hn : narrow ty (.int x) = .int x) (hfit : fits ty (.int x) = true) (hl : k < (fs (M o)).length)
    (hdg : decode cc pc = .ok (.putfield index, 3)) (kk : ∀ (H1 : Heap) (locs1 : List Loc), va_P D vwCl (wL cy b F (mU M o k x) n) H1 → va_S (ex b n) H0 H1 locs1 → W p l e R s m args below meth c H1 locs1 cells slots Q (F0 m (pc + 3) ls rest)) : W p l e R s m args below meth c H locs cells slots Q (F0 m pc ls (.int x :: .ref (b + o) :: rest)) :=
  va_put hexec hb hts hin ty0 hty hnm hown hK hP (wL_DX (cy := cy) (b := b) (F := F) (M := M) (n := n)) hS o (by rw [wL_get ho, he]) hc k hk hlink hsame hfin hd hn hfit hl hdg (fun H1 locs1 hP1 _ hS1 => kk H1 locs1 (by rw [wL_set (F' := F) (M' := mU M o k x) (by rw [mU_at, he, hset]) (fun p _ => rfl) (fun p hp => mU_ne M k x hp)] at hP1; exact hP1) hS1)
theorem xbsX (hexec : p.tables.exec = Jvm.exec) (hb : c.code = cc) (hK : va_K D vwCl (tysW cy) s) (hP : va_P D vwCl (wL cy b F M n) H) (hS : va_S (ex b n) H0 H locs) {o : Nat} (ho : o < n) (hk : kd o = 10) {i x : Int32} {j : Nat} (hin : vp_in i (lenOf o)) (hj : i.toNatClampNeg = j) (hdg : decode cc pc = .ok (.bastore, 1))
    (kk : ∀ (H1 : Heap) (locs1 : List Loc), va_P D vwCl (wL cy b F (mU M o j x.toInt8.toInt32) n) H1 → va_S (ex b n) H0 H1 locs1 → W p l e R s m args below meth c H1 locs1 cells slots Q (F0 m (pc + 1) ls rest)) : W p l e R s m args below meth c H locs cells slots Q (F0 m pc ls (.int x :: .int i :: .ref (b + o) :: rest)) := by
  subst hj
  exact va_bast hexec hb hK hP wL_DX hS o 0 (by rw [wL_get ho, cell10 hk]) rfl hin hdg (fun H1 locs1 hP1 _ hS1 => kk H1 locs1 (by rw [vp_nar_byte, wL_set (F' := F) (M' := mU M o i.toNatClampNeg x.toInt8.toInt32) (by rw [mU_at, cell10 hk]) (fun p _ => rfl) (fun p hp => mU_ne M _ _ hp)] at hP1; exact hP1) hS1)
theorem xc_iX {mc ms : Nat} {F1 : Fla} {r : Int32} {M1 : Mem} {a : Array Value} (hr : va_Run p l e R s m args below meth c H locs cells slots mc ms (F0 m pc ls st0) rest (CQiX D cy b n F1 r M1 a) (ex b n)) (hS : va_S (ex b n) H0 H locs)
    (kk : ∀ (H1 : Heap) (locs1 : List Loc), va_P D vwCl (wL cy b F1 M1 n) H1 → va_S (ex b n) H0 H1 locs1 → W p l e R s m args below meth c H1 locs1 (cells + mc) (slots + ms) Q (F0 m (pc + 3) ls (.int r :: rest))) : W p l e R s m args below meth c H locs cells slots Q (F0 m pc ls st0) :=
  va_calli hr hS (fun _ _ h => h) (fun _ h => h) (fun x u t H1 locs1 ht _ hp hB _ _ hS1 => by
    rw [show x = r from hp]
    exact kk H1 locs1 (by rw [← ht]; exact hB) hS1)
theorem xc_vX {mc ms : Nat} {F1 : Fla} {M1 : Mem} {a : Array Value} (hr : va_Run p l e R s m args below meth c H locs cells slots mc ms (F0 m pc ls st0) rest (CQvX D cy b n F1 M1 a) (ex b n)) (hS : va_S (ex b n) H0 H locs)
    (kk : ∀ (H1 : Heap) (locs1 : List Loc), va_P D vwCl (wL cy b F1 M1 n) H1 → va_S (ex b n) H0 H1 locs1 → W p l e R s m args below meth c H1 locs1 (cells + mc) (slots + ms) Q (F0 m (pc + 3) ls rest)) : W p l e R s m args below meth c H locs cells slots Q (F0 m pc ls st0) :=
  va_callv hr hS (fun _ _ h => h) (fun _ h => h) (fun u t H1 locs1 ht _ hp hB _ _ hS1 => kk H1 locs1 (by rw [← ht]; exact hB) hS1)
theorem xe_iX (hexec : p.tables.exec = Jvm.exec) (hb : c.code = cc) (hr : meth.sig.returnType = some .int) (hlocks : meth.locks = false) {mc ms : Nat} {F1 : Fla} {v r : Int32} {M1 : Mem} (hP : va_P D vwCl (wL cy b F M n) H) (hS : va_S (ex b n) s.heap H locs) (hf : F = F1) (hM : M = M1) (hv : v = r) (h1 : cells ≤ mc) (h2 : slots ≤ ms) (hdg : decode cc pc = .ok (.ireturn, 1)) : W p l e R s m args below meth c H locs cells slots (MQ below (CQiX D cy b n F1 r M1) args s mc ms (ex b n)) (F0 m pc ls [.int v]) := by
  subst hf; subst hM; subst hv
  refine W.widen h1 h2 ?_
  exact W.iret hexec hb hr (fun t ht hW => ⟨⟨v, (), rfl, rfl, by show va_P _ _ _ t.heap; rw [ht]; exact hP⟩, hS.F ht⟩) hS.2.2 hdg hlocks
theorem xe_vX (hexec : p.tables.exec = Jvm.exec) (hb : c.code = cc) (hr : meth.sig.returnType = none) (hlocks : meth.locks = false) {mc ms : Nat} {F1 : Fla} {M1 : Mem} (hP : va_P D vwCl (wL cy b F M n) H) (hS : va_S (ex b n) s.heap H locs) (hf : F = F1) (hM : M = M1) (h1 : cells ≤ mc) (h2 : slots ≤ ms) (hdg : decode cc pc = .ok (.return_, 1)) : W p l e R s m args below meth c H locs cells slots (MQ below (CQvX D cy b n F1 M1) args s mc ms (ex b n)) (F0 m pc ls []) := by
  subst hf; subst hM
  refine W.widen h1 h2 ?_
  exact W.vret hexec hb hr (fun t ht hW => ⟨⟨(), rfl, trivial, by show va_P _ _ _ t.heap; rw [ht]; exact hP⟩, hS.F ht⟩) hS.2.2 hdg hlocks
end XRX
set_option maxHeartbeats 4000000 in
set_option maxRecDepth 100000 in
theorem xl_X6_put_3 (l : Launch) (D : va_G) (cy : Nat → ClassId) (b n : Nat) (hn : 124 ≤ n) (x : Int32)  {p : Program} {e : Env} {s : State} {m : MethodId} {args : Array Value} {below : List Frame} {meth : Method} {c : Code} (hx : p.tables.exec = Jvm.exec) (hb : c.code = cX6_put) (hr : meth.sig.returnType = none) (hlocks : meth.locks = false) (hml : c.maxLocals = 3) (hown : s.vm.findClass RX6 = some m.cls) (hts : ∀ w ∈ wsX6_put, w.before args s = true) (hK : va_K D vwCl (tysW cy) s) (hX : SX b s)  : ∀ (k : Nat) (M : Mem) (v : Int32) (H : Heap) (locs : List Loc) (ls : Array Slot), TF M → v = shv k → 1 ≤ k → k ≤ 5 → va_P D vwCl (wL cy b fT M n) H → va_S (ex b n) s.heap H locs → lv_has ls 3 [(0, .ref (b + 10)), (1, .int x), (2, .int v)] → W p l e (headSpec wsX6_put ({ frames := 0, cells := 0, slots := 0, locals := 0 } : Room)).room s m args below meth c H locs 0 0 (MQ below (CQvX D cy b n fT (LX6_put_3g x k M v)) args s 0 0 (ex b n)) (F0 m 3 ls []) := by
  have lk0 := hts (.fieldLink RX6 15 "HygrometerRoom$Tokens" "filled" "I") (by decide +kernel)
  have lk1 := hts (.fieldLink RX6 9 "HygrometerRoom$Tokens" "bytes" "[B") (by decide +kernel)
  have inc6 : ∀ w ∈ u_ws RX6 TX6 6, w ∈ wsX6_put := by decide +kernel
  intro k
  induction k with
  | zero => intro M v H locs ls htf hv h1 h5 hP hS hl; omega
  | succ k ih =>
    intro M v H locs ls htf hv h1 h5 hP hS hl
    refine lv_iload_n hx hb dX6_put_3 rfl (lv_at hl 2 rfl) ?_
    refine lv_if_lt (tgt := 48) hx hb dX6_put_4 (by decide) (fun c4 => ?_) (fun c4 => ?_)
    · exact xe_vX hx hb hr hlocks hP hS rfl (by rw [LX6_put_3g, if_pos c4] <;> rfl) (Nat.le_of_ble_eq_true rfl) (Nat.le_of_ble_eq_true rfl) dX6_put_48
    · refine lv_aload_n hx hb dX6_put_7 rfl (lv_at hl 0 rfl) ?_
      refine xg (C := RX6) (T := TX6) (N := 6) (v := .int (M 10 1)) hx hb hts inc6 hown hK hP (by omega) (cell6 (by decide)) rfl 1 (by decide) lk0 (fun _ h => h) rfl dX6_put_8 ?_
      refine lv_aload_n hx hb dX6_put_11 rfl (lv_at hl 0 rfl) ?_
      refine xg (C := RX6) (T := TX6) (N := 6) (v := .ref (b + 11)) hx hb hts inc6 hown hK hP (by omega) (cell6 (by decide)) rfl 0 (by decide) lk1 (fun _ h => h) rfl dX6_put_12 ?_
      refine xlen (v := 600) hx hb hK hP (by omega) 0 (cell10 (by decide)) rfl rfl dX6_put_15 ?_
      refine lv_icmp_ge (tgt := 48) hx hb dX6_put_16 (by decide) (fun c16 => ?_) (fun c16 => ?_)
      · exact xe_vX hx hb hr hlocks hP hS rfl (by rw [LX6_put_3g, if_neg c4, if_pos c16] <;> rfl) (Nat.le_of_ble_eq_true rfl) (Nat.le_of_ble_eq_true rfl) dX6_put_48
      · refine lv_aload_n hx hb dX6_put_19 rfl (lv_at hl 0 rfl) ?_
        refine xg (C := RX6) (T := TX6) (N := 6) (v := .ref (b + 11)) hx hb hts inc6 hown hK hP (by omega) (cell6 (by decide)) rfl 0 (by decide) lk1 (fun _ h => h) rfl dX6_put_20 ?_
        refine lv_aload_n hx hb dX6_put_23 rfl (lv_at hl 0 rfl) ?_
        refine xg (C := RX6) (T := TX6) (N := 6) (v := .int (M 10 1)) hx hb hts inc6 hown hK hP (by omega) (cell6 (by decide)) rfl 1 (by decide) lk0 (fun _ h => h) rfl dX6_put_24 ?_
        refine lv_iload_n hx hb dX6_put_27 rfl (lv_at hl 1 rfl) ?_
        refine lv_iload_n hx hb dX6_put_28 rfl (lv_at hl 2 rfl) ?_
        refine lv_ishr hx hb dX6_put_29 ?_
        refine lv_i2b hx hb dX6_put_30 rfl ?_
        refine xbsX (j := (M 10 1).toNatClampNeg) (x := (x >>> (v &&& 31)).toInt8.toInt32) hx hb hK hP hS (by omega) (by decide) (vin_cl (ub_ge htf) (ub_cl (N := 600) htf c16)) rfl dX6_put_31 (fun H locs hP hS => ?_)
        refine lv_aload_n hx hb dX6_put_32 rfl (lv_at hl 0 rfl) ?_
        refine lv_dup hx hb dX6_put_33 rfl ?_
        refine xg (C := RX6) (T := TX6) (N := 6) (v := .int ((mU M 11 ((M 10 1).toNatClampNeg) (((x >>> (v &&& 31)).toInt8.toInt32).toInt8.toInt32)) 10 1)) hx hb hts inc6 hown hK hP (by omega) (cell6 (by decide)) rfl 1 (by decide) lk0 (fun _ h => h) rfl dX6_put_34 ?_
        refine lv_iconst (v := 1) hx hb dX6_put_37 (by decide) ?_
        refine lv_iadd hx hb dX6_put_38 ?_
        refine xpX (C := RX6) (T := TX6) (N := 6) (ci := 6) (ty := .int) (x := ((mU M 11 ((M 10 1).toNatClampNeg) (((x >>> (v &&& 31)).toInt8.toInt32).toInt8.toInt32)) 10 1) + (1 : Int32)) hx hb hts inc6 tyX6 tyX6_ok nmX6 hown hK hP hS (by omega) (fun _ => cell6 (by decide)) rfl 1 (by decide) rfl lk0 (fun _ h => h) rfl (tyX6_ok 1 (by decide)) rfl rfl (Nat.le_of_ble_eq_true rfl) dX6_put_39 (fun H locs hP hS => ?_)
        refine lv_iinc (v := v + (-8)) (lv' := [(2, .int (v + (-8))), (0, .ref (b + 10)), (1, .int x)]) hx hb dX6_put_42 hl (k := 2) rfl rfl (by decide) rfl (fun ls hl => ?_)
        refine lv_goto (tgt := 3) hx hb dX6_put_45 (by decide) ?_
        rw [show LX6_put_3g x (k + 1) M v = LX6_put_3g x k (mU (mU M 11 ((M 10 1).toNatClampNeg) (((x >>> (v &&& 31)).toInt8.toInt32).toInt8.toInt32)) 10 1 (((mU M 11 ((M 10 1).toNatClampNeg) (((x >>> (v &&& 31)).toInt8.toInt32).toInt8.toInt32)) 10 1) + (1 : Int32))) (v + (-8)) from (by rw [LX6_put_3g, if_neg c4, if_neg c16])]
        exact ih (mU (mU M 11 ((M 10 1).toNatClampNeg) (((x >>> (v &&& 31)).toInt8.toInt32).toInt8.toInt32)) 10 1 (((mU M 11 ((M 10 1).toNatClampNeg) (((x >>> (v &&& 31)).toInt8.toInt32).toInt8.toInt32)) 10 1) + (1 : Int32))) (v + (-8)) H locs ls (tf_step htf c16) (shv_step hv h5 c4).1 (shv_step hv h5 c4).2 (by omega) hP hS (lv_sub hl [1, 2, 0] rfl)

set_option maxHeartbeats 4000000 in
set_option maxRecDepth 100000 in
theorem x_X6_put (l : Launch) (D : va_G) (cy : Nat → ClassId) (b n : Nat) (hn : 124 ≤ n) (M : Mem) (x : Int32) (htf : TF M) : Met l yX6_put wsX6_put ({ frames := 0, cells := 0, slots := 0, locals := 0 } : Room) (CP D cy b n fT M [.ref (b + 10), .int x]) (CQvX D cy b n fT (gX6_put M x)) 0 0 (ex b n) := by
  refine Met.ofW (cc := cX6_put) (maxL := 3) (ret := none) (by decide) rfl ?_
  intro p e s m args below meth c s₁ B hml hv
  obtain ⟨rfl, hP, hK, hX⟩ := hv
  have hx := B.exec
  have hb := B.bytes
  have hr := B.returns
  have hts := atoms_spec (ws := wsX6_put) B.pre
  have hown : s.vm.findClass RX6 = some m.cls := findClass_of_methodNamed B.named
  have hlocks := B.notSynchronized
  have hS : va_S (ex b n) s.heap s.heap [] := va_S.rf
  have hl := lv_entry ([.ref (b + 10), .int x]) (n := 3) (Nat.le_of_ble_eq_true rfl)
  rw [lg_entry_eq]
  generalize (lg_sl ([.ref (b + 10), .int x]) ++ List.replicate (3 - (lg_sl ([.ref (b + 10), .int x])).length) Slot.unset).toArray = ls at hl ⊢
  have hl : lv_has ls 3 [(0, .ref (b + 10)), (1, .int x)] := hl
  refine lv_bipush (v := 24) hx hb dX6_put_0 (by decide) ?_
  refine lv_istore_n (lv' := [(2, .int (24 : Int32)), (0, .ref (b + 10)), (1, .int x)]) hx hb dX6_put_2 rfl hl (by decide) rfl (fun ls hl => ?_)
  rw [show gX6_put M x = LX6_put_3g x 5 M (24 : Int32) from (by rw [gX6_put])]
  exact xl_X6_put_3 l D cy b n hn x hx hb hr hlocks hml hown hts hK hX 5 M (24 : Int32) s.heap [] ls htf rfl (by decide) (by decide) hP hS (lv_sub hl [1, 2, 0] rfl)
set_option maxHeartbeats 4000000 in
set_option maxRecDepth 100000 in
theorem x_X7_append (l : Launch) (D : va_G) (cy : Nat → ClassId) (b n : Nat) (hn : 124 ≤ n) (M : Mem) (p1 : Int32) (p2 : Int32) (p3 : Int32) (p4 : Int32) (p5 : Int32) (htf : TF M) (hfl : (M 10 1) ≤ (580 : Int32)) : Met l yX7_append wsX7_append ({ frames := 1, cells := 0, slots := 0, locals := 40 } : Room) (CP D cy b n fT M [.ref (b + 0), .int p1, .int p2, .int p3, .int p4, .int p5]) (CQiX D cy b n fT (fX7_append M p1 p2 p3 p4 p5) (gX7_append M p1 p2 p3 p4 p5)) 0 0 (ex b n) := by
  refine Met.ofW (cc := cX7_append) (maxL := 6) (ret := (some .int)) (by decide) rfl ?_
  intro p e s m args below meth c s₁ B hml hv
  obtain ⟨rfl, hP, hK, hX⟩ := hv
  have hx := B.exec
  have hb := B.bytes
  have hr := B.returns
  have hts := atoms_spec (ws := wsX7_append) B.pre
  have hown : s.vm.findClass RX7 = some m.cls := findClass_of_methodNamed B.named
  have hlocks := B.notSynchronized
  have lk0 := hts (.fieldLink RX7 19 "HygrometerRoom" "reader" "LHygrometerRoom$Reader;") (by decide +kernel)
  have lk1 := hts (.fieldLink RX7 77 "HygrometerRoom$Reader" "tokens" "LHygrometerRoom$Tokens;") (by decide +kernel)
  have lk2 := hts (.fieldLink RX7 81 "HygrometerRoom$Tokens" "filled" "I") (by decide +kernel)
  have inc3 : ∀ w ∈ u_ws RX3 TX3 4, w ∈ wsX7_append := by decide +kernel
  have inc6 : ∀ w ∈ u_ws RX6 TX6 6, w ∈ wsX7_append := by decide +kernel
  have inc7 : ∀ w ∈ u_ws RX7 TX7 6, w ∈ wsX7_append := by decide +kernel
  have hS : va_S (ex b n) s.heap s.heap [] := va_S.rf
  have hl := lv_entry ([.ref (b + 0), .int p1, .int p2, .int p3, .int p4, .int p5]) (n := 6) (Nat.le_of_ble_eq_true rfl)
  rw [lg_entry_eq]
  generalize (lg_sl ([.ref (b + 0), .int p1, .int p2, .int p3, .int p4, .int p5]) ++ List.replicate (6 - (lg_sl ([.ref (b + 0), .int p1, .int p2, .int p3, .int p4, .int p5])).length) Slot.unset).toArray = ls at hl ⊢
  have hl : lv_has ls 6 [(0, .ref (b + 0)), (1, .int p1), (2, .int p2), (3, .int p3), (4, .int p4), (5, .int p5)] := hl
  refine lv_aload_n hx hb dX7_append_0 rfl (lv_at hl 0 rfl) ?_
  refine xg (C := RX7) (T := TX7) (N := 6) (v := .ref (b + 9)) hx hb hts inc7 hown hK hP (by omega) (cell7 (by decide)) rfl 1 (by decide) lk0 (fun _ h => h) rfl dX7_append_1 ?_
  refine xg (C := RX3) (T := TX3) (N := 4) (v := .ref (b + 10)) hx hb hts inc3 hown hK hP (by omega) (cell3 (by decide)) rfl 0 (by decide) lk1 (fun _ h => h) rfl dX7_append_4 ?_
  refine xg (C := RX6) (T := TX6) (N := 6) (v := .int (M 10 1)) hx hb hts inc6 hown hK hP (by omega) (cell6 (by decide)) rfl 1 (by decide) lk2 (fun _ h => h) rfl dX7_append_7 ?_
  refine lv_sipush (v := 580) hx hb dX7_append_10 (by decide) ?_
  refine lv_icmp_le (tgt := 26) hx hb dX7_append_13 (by decide) (fun c13 => ?_) (fun c13 => absurd hfl c13)
  · refine lv_aload_n hx hb dX7_append_26 rfl (lv_at hl 0 rfl) ?_
    refine xg (C := RX7) (T := TX7) (N := 6) (v := .ref (b + 9)) hx hb hts inc7 hown hK hP (by omega) (cell7 (by decide)) rfl 1 (by decide) lk0 (fun _ h => h) rfl dX7_append_27 ?_
    refine xg (C := RX3) (T := TX3) (N := 4) (v := .ref (b + 10)) hx hb hts inc3 hown hK hP (by omega) (cell3 (by decide)) rfl 0 (by decide) lk1 (fun _ h => h) rfl dX7_append_30 ?_
    refine lv_iload_n hx hb dX7_append_33 rfl (lv_at hl 1 rfl) ?_
    refine xc_vX (va_runV (As := [.int p1]) (rest := []) ⟨hx, hb, hml, hown, hts⟩ (x_X6_put l D cy b n hn M p1 (by repeat (first | exact htf | apply put_tf))) (cwV 1 hts gX7_append_X6_put rfl rfl rfl (by decide +kernel) ⟨Nat.le_of_ble_eq_true rfl, Nat.le_of_ble_eq_true rfl⟩) (xPreV hP hK hX hS.wk (by omega) (cell6 (by decide)) rfl) rfl rfl hl.1 rfl (lv_room (Nat.le_of_ble_eq_true rfl)) dX7_append_34 ⟨Nat.le_of_ble_eq_true rfl, Nat.le_of_ble_eq_true rfl⟩) hS (fun H locs hP hS => ?_)
    refine lv_aload_n hx hb dX7_append_37 rfl (lv_at hl 0 rfl) ?_
    refine xg (C := RX7) (T := TX7) (N := 6) (v := .ref (b + 9)) hx hb hts inc7 hown hK hP (by omega) (cell7 (by decide)) rfl 1 (by decide) lk0 (fun _ h => h) rfl dX7_append_38 ?_
    refine xg (C := RX3) (T := TX3) (N := 4) (v := .ref (b + 10)) hx hb hts inc3 hown hK hP (by omega) (cell3 (by decide)) rfl 0 (by decide) lk1 (fun _ h => h) rfl dX7_append_41 ?_
    refine lv_iload_n hx hb dX7_append_44 rfl (lv_at hl 2 rfl) ?_
    refine xc_vX (va_runV (As := [.int p2]) (rest := []) ⟨hx, hb, hml, hown, hts⟩ (x_X6_put l D cy b n hn (gX6_put M p1) p2 (by repeat (first | exact htf | apply put_tf))) (cwV 1 hts gX7_append_X6_put rfl rfl rfl (by decide +kernel) ⟨Nat.le_of_ble_eq_true rfl, Nat.le_of_ble_eq_true rfl⟩) (xPreV hP hK hX hS.wk (by omega) (cell6 (by decide)) rfl) rfl rfl hl.1 rfl (lv_room (Nat.le_of_ble_eq_true rfl)) dX7_append_45 ⟨Nat.le_of_ble_eq_true rfl, Nat.le_of_ble_eq_true rfl⟩) hS (fun H locs hP hS => ?_)
    refine lv_aload_n hx hb dX7_append_48 rfl (lv_at hl 0 rfl) ?_
    refine xg (C := RX7) (T := TX7) (N := 6) (v := .ref (b + 9)) hx hb hts inc7 hown hK hP (by omega) (cell7 (by decide)) rfl 1 (by decide) lk0 (fun _ h => h) rfl dX7_append_49 ?_
    refine xg (C := RX3) (T := TX3) (N := 4) (v := .ref (b + 10)) hx hb hts inc3 hown hK hP (by omega) (cell3 (by decide)) rfl 0 (by decide) lk1 (fun _ h => h) rfl dX7_append_52 ?_
    refine lv_iload_n hx hb dX7_append_55 rfl (lv_at hl 3 rfl) ?_
    refine xc_vX (va_runV (As := [.int p3]) (rest := []) ⟨hx, hb, hml, hown, hts⟩ (x_X6_put l D cy b n hn (gX6_put (gX6_put M p1) p2) p3 (by repeat (first | exact htf | apply put_tf))) (cwV 1 hts gX7_append_X6_put rfl rfl rfl (by decide +kernel) ⟨Nat.le_of_ble_eq_true rfl, Nat.le_of_ble_eq_true rfl⟩) (xPreV hP hK hX hS.wk (by omega) (cell6 (by decide)) rfl) rfl rfl hl.1 rfl (lv_room (Nat.le_of_ble_eq_true rfl)) dX7_append_56 ⟨Nat.le_of_ble_eq_true rfl, Nat.le_of_ble_eq_true rfl⟩) hS (fun H locs hP hS => ?_)
    refine lv_aload_n hx hb dX7_append_59 rfl (lv_at hl 0 rfl) ?_
    refine xg (C := RX7) (T := TX7) (N := 6) (v := .ref (b + 9)) hx hb hts inc7 hown hK hP (by omega) (cell7 (by decide)) rfl 1 (by decide) lk0 (fun _ h => h) rfl dX7_append_60 ?_
    refine xg (C := RX3) (T := TX3) (N := 4) (v := .ref (b + 10)) hx hb hts inc3 hown hK hP (by omega) (cell3 (by decide)) rfl 0 (by decide) lk1 (fun _ h => h) rfl dX7_append_63 ?_
    refine lv_iload hx hb dX7_append_66 (lv_at hl 4 rfl) ?_
    refine xc_vX (va_runV (As := [.int p4]) (rest := []) ⟨hx, hb, hml, hown, hts⟩ (x_X6_put l D cy b n hn (gX6_put (gX6_put (gX6_put M p1) p2) p3) p4 (by repeat (first | exact htf | apply put_tf))) (cwV 1 hts gX7_append_X6_put rfl rfl rfl (by decide +kernel) ⟨Nat.le_of_ble_eq_true rfl, Nat.le_of_ble_eq_true rfl⟩) (xPreV hP hK hX hS.wk (by omega) (cell6 (by decide)) rfl) rfl rfl hl.1 rfl (lv_room (Nat.le_of_ble_eq_true rfl)) dX7_append_68 ⟨Nat.le_of_ble_eq_true rfl, Nat.le_of_ble_eq_true rfl⟩) hS (fun H locs hP hS => ?_)
    refine lv_aload_n hx hb dX7_append_71 rfl (lv_at hl 0 rfl) ?_
    refine xg (C := RX7) (T := TX7) (N := 6) (v := .ref (b + 9)) hx hb hts inc7 hown hK hP (by omega) (cell7 (by decide)) rfl 1 (by decide) lk0 (fun _ h => h) rfl dX7_append_72 ?_
    refine xg (C := RX3) (T := TX3) (N := 4) (v := .ref (b + 10)) hx hb hts inc3 hown hK hP (by omega) (cell3 (by decide)) rfl 0 (by decide) lk1 (fun _ h => h) rfl dX7_append_75 ?_
    refine lv_iload hx hb dX7_append_78 (lv_at hl 5 rfl) ?_
    refine xc_vX (va_runV (As := [.int p5]) (rest := []) ⟨hx, hb, hml, hown, hts⟩ (x_X6_put l D cy b n hn (gX6_put (gX6_put (gX6_put (gX6_put M p1) p2) p3) p4) p5 (by repeat (first | exact htf | apply put_tf))) (cwV 1 hts gX7_append_X6_put rfl rfl rfl (by decide +kernel) ⟨Nat.le_of_ble_eq_true rfl, Nat.le_of_ble_eq_true rfl⟩) (xPreV hP hK hX hS.wk (by omega) (cell6 (by decide)) rfl) rfl rfl hl.1 rfl (lv_room (Nat.le_of_ble_eq_true rfl)) dX7_append_80 ⟨Nat.le_of_ble_eq_true rfl, Nat.le_of_ble_eq_true rfl⟩) hS (fun H locs hP hS => ?_)
    refine lv_aload_n hx hb dX7_append_83 rfl (lv_at hl 0 rfl) ?_
    refine xg (C := RX7) (T := TX7) (N := 6) (v := .ref (b + 9)) hx hb hts inc7 hown hK hP (by omega) (cell7 (by decide)) rfl 1 (by decide) lk0 (fun _ h => h) rfl dX7_append_84 ?_
    refine xg (C := RX3) (T := TX3) (N := 4) (v := .ref (b + 10)) hx hb hts inc3 hown hK hP (by omega) (cell3 (by decide)) rfl 0 (by decide) lk1 (fun _ h => h) rfl dX7_append_87 ?_
    refine xg (C := RX6) (T := TX6) (N := 6) (v := .int ((gX6_put (gX6_put (gX6_put (gX6_put (gX6_put M p1) p2) p3) p4) p5) 10 1)) hx hb hts inc6 hown hK hP (by omega) (cell6 (by decide)) rfl 1 (by decide) lk2 (fun _ h => h) rfl dX7_append_90 ?_
    exact xe_iX hx hb hr hlocks hP hS rfl (by rw [gX7_append, if_pos c13] <;> rfl) (by rw [fX7_append, if_pos c13] <;> rfl) (Nat.le_of_ble_eq_true rfl) (Nat.le_of_ble_eq_true rfl) dX7_append_93
