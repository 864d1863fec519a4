/-! methods that may throw: code T tells which (0: none), the picture stays or is M -/
def EXN (T : Nat) (E : String) : Prop := (T = 1 ∧ E = "java/lang/IndexOutOfBoundsException") ∨ (T = 2 ∧ E = "java/lang/IllegalArgumentException") ∨ (T = 3 ∧ E = "java/lang/IllegalStateException")
abbrev CX (D : va_G) (cy : Nat → ClassId) (b n : Nat) (F : Fla) (T : Nat) (M : Mem) : String → State → State → Prop := vx_X (fun _ : Unit => True) (fun E _ t => EXN T E ∧ va_P D vwCl (wL cy b F M n) t.heap) (fr b)
abbrev CTi (D : va_G) (cy : Nat → ClassId) (b n : Nat) (F : Fla) (T : Nat) (r : Int32) (M : Mem) : Array Value → State → Outcome → State → Prop := va_Qi (fun x (_ : Unit) => T = 0 ∧ x = r) (fun _ t => va_P D vwCl (wL cy b F M n) t.heap) (fun q => b ≤ q)
abbrev CTq (D : va_G) (cy : Nat → ClassId) (b n : Nat) (F : Fla) (T : Nat) (r : Option Nat) (M : Mem) : Array Value → State → Outcome → State → Prop := va_Qq (fun x (_ : Unit) => T = 0 ∧ x = r) (fun _ t => va_P D vwCl (wL cy b F M n) t.heap) (fun q => b ≤ q)
section XT
variable {p : Program} {l : Launch} {e : Env} {R : Room} {s : State} {m : MethodId} {args : Array Value} {below : List Frame} {meth : Method} {c : Code} {H : Heap} {locs : List Loc} {cells slots : Nat} {Q : State → Prop}
variable {cc : ByteArray} {pc : Nat} {ls : Array Slot} {rest st0 : List Value} {D : va_G} {cy : Nat → ClassId} {b n : Nat} {F : Fla} {M : Mem} {H0 : Heap}
theorem xt_i (hexec : p.tables.exec = Jvm.exec) (hb : c.code = cc) {ty : FieldType} (hr : meth.sig.returnType = some ty) (hlocks : meth.locks = false) {mc ms : Nat} {F1 : Fla} {T : Nat} {v r : Int32} {M1 : Mem} {XC : String → State → State → Prop} (hP : va_P D vwCl (wL cy b F M n) H) (hS : va_S (fr b) s.heap H locs) (hf : F = F1) (hT : T = 0) (hM : M = M1) (hv : v = r) (hn : narrow ty (.int v) = .int v) (h1 : cells ≤ mc) (h2 : slots ≤ ms) (hdg : decode cc pc = .ok (.ireturn, 1)) : W p l e R s m args below meth c H locs cells slots (vx_MQ below (CTi D cy b n F1 T r M1) XC args s mc ms (fr b)) (F0 m pc ls [.int v]) := by
  subst hf; subst hM; subst hv; subst hT
  refine vx_ret ?_
  refine W.widen h1 h2 ?_
  exact W.zret hexec hb hr hn (fun t ht hW => ⟨⟨v, (), rfl, ⟨rfl, rfl⟩, by show va_P _ _ _ t.heap; rw [ht]; exact hP⟩, hS.F ht⟩) hS.2.2 hdg hlocks
theorem xt_q (hexec : p.tables.exec = Jvm.exec) (hb : c.code = cc) {nm : String} (hr : meth.sig.returnType = some (.object nm)) (hlocks : meth.locks = false) {mc ms : Nat} {F1 : Fla} {T : Nat} {v : Value} {r : Option Nat} {M1 : Mem} {XC : String → State → State → Prop} (hP : va_P D vwCl (wL cy b F M n) H) (hS : va_S (fr b) s.heap H locs) (hf : F = F1) (hT : T = 0) (hM : M = M1) (hv : v = va_rf r) (h1 : cells ≤ mc) (h2 : slots ≤ ms) (hdg : decode cc pc = .ok (.areturn, 1)) : W p l e R s m args below meth c H locs cells slots (vx_MQ below (CTq D cy b n F1 T r M1) XC args s mc ms (fr b)) (F0 m pc ls [v]) := by
  subst hf; subst hM; subst hv; subst hT
  refine vx_ret ?_
  refine W.widen h1 h2 ?_
  exact W.aret hexec hb hr (Or.inl ⟨nm, rfl⟩) (va_rf_or r) (fun t ht hW => ⟨⟨r, (), rfl, ⟨rfl, rfl⟩, by show va_P _ _ _ t.heap; rw [ht]; exact hP⟩, hS.F ht⟩) hS.2.2 hdg hlocks
/-- what a throw finds behind it -/
theorem xthX {cls : String} {T : Nat} {F1 : Fla} {M1 : Mem} (hP : va_P D vwCl (wL cy b F M n) H) (hS : va_S (fr b) s.heap H locs) (hf : F = F1) (hM : M = M1) (hE : EXN T cls) (t : State) (_ : s.vm.Alike t.vm) (hz : H.size ≤ t.heap.size) (hk : ∀ q : Nat, q < H.size → t.heap[q]? = H[q]?) : CX D cy b n F1 T M1 cls s t := by
  subst hf; subst hM
  exact ⟨(), trivial, ⟨hE, hP.kept (fun k q hq => hk q.1 (hP k q hq).lt)⟩, Nat.le_trans hS.1 hz, fun q h1 h2 => by rw [hk q (Nat.lt_of_lt_of_le h1 hS.1)]; exact hS.2.1 q h1 h2⟩
def xB (X : String) : List Cond := Cond.castable X X :: dclL.map Cond.declares
/-- what a throw wants of the tables -/
theorem xth_at {own X : String} {ic : Nat} {names : List String} (hX : SX b s) (hXm : X ∈ excL) (hg : ∀ w ∈ (vx_atS own ic X names).filter goodWord, w.before args s = true) (hng : ∀ w ∈ (vx_atS own ic X names).filter (fun w => !goodWord w), w ∈ xB X) : ∀ w ∈ vx_atS own ic X names, w.before args s = true :=
  vx_hat hg hng (vx_c (va_Nw.use rfl (hX.2.2.2.2.2.2.2.1 X hXm)) (fun w hw => by
    obtain ⟨y, hy, rfl⟩ := List.mem_map.mp hw
    exact va_Nw.use rfl (hX.2.2.2.2.2.2.2.2.2.2.2 y hy)))
/-- 'throw new E("text")' -/
theorem xth (hexec : p.tables.exec = Jvm.exec) (hb : c.code = cc) (hl : l.stackTraces = false) {cls text : String} {ik is ic mc ms T : Nat} {F1 : Fla} {M1 : Mem} {Qc : Array Value → State → Outcome → State → Prop} (hown : s.vm.findClass RX7 = some m.cls) (hX : SX b s) (hmsg : (is, text) ∈ msgL) (hXm : cls ∈ excL) (hcls : Bundle.fit cls = true)
    (hk : (Cond.classLink RX7 ik cls).before args s = true) (hini : (Cond.initialized cls).before args s = true)
    (hg : ∀ w ∈ (vx_atS RX7 ic cls ["java/lang/RuntimeException", "java/lang/Exception"]).filter goodWord, w.before args s = true) (hng : ∀ w ∈ (vx_atS RX7 ic cls ["java/lang/RuntimeException", "java/lang/Exception"]).filter (fun w => !goodWord w), w ∈ xB cls)
    (hgood : ∀ w ∈ Cond.classLink RX7 ik cls :: Cond.initialized cls :: vx_atS RX7 ic cls ["java/lang/RuntimeException", "java/lang/Exception"], vx_ot w = true)
    (hP : va_P D vwCl (wL cy b F M n) H) (hS : va_S (fr b) s.heap H locs) (hf : F = F1) (hM : M = M1) (hE : EXN T cls) (hsize : ls.size = c.maxLocals)
    (d0 : decode cc pc = .ok (.new ik, 3)) (d3 : decode cc (pc + 3) = .ok (.dup, 1)) (d4 : decode cc (pc + 4) = .ok (.ldc is, 2)) (d6 : decode cc (pc + 6) = .ok (.invokespecial ic, 3)) (d9 : decode cc (pc + 9) = .ok (.athrow, 1))
    (hout : ∀ x ∈ c.exceptionTable.toList, False) (hRframes : 5 < R.frames) (hRlocals : (rest.map fun v => v.category).sum + 82 ≤ R.locals) (hRcells : cells + 1 ≤ R.cells) (hRslots : slots + 6 ≤ R.slots) (hlocks : meth.locks = false) (hc : cells + 1 ≤ mc) (hs : slots + 6 ≤ ms) :
    W p l e R s m args below meth c H locs cells slots (vx_MQ below Qc (CX D cy b n F1 T M1) args s mc ms (fr b)) (F0 m pc ls rest) := by
  obtain ⟨sa, hsa⟩ := hX.2.2.2.1 _ hmsg
  exact vx_throwS hexec hb hl hown hcls (by decide +kernel) hk hini hsa (xth_at hX hXm hg hng) hgood hX.2.1 hX.2.2.1 hS hsize d0 d3 d4 d6 d9 (fun x hx => (hout x hx).elim) hRframes hRlocals hRcells hRslots hlocks (xthX hP hS hf hM hE) hS.2.2 hc hs
theorem xthW (hexec : p.tables.exec = Jvm.exec) (hb : c.code = cc) (hl : l.stackTraces = false) {cls text : String} {ik is ic mc ms T : Nat} {F1 : Fla} {M1 : Mem} {Qc : Array Value → State → Outcome → State → Prop} (hown : s.vm.findClass RX7 = some m.cls) (hX : SX b s) (hmsg : (is, text) ∈ msgL) (hXm : cls ∈ excL) (hcls : Bundle.fit cls = true)
    (hk : (Cond.classLink RX7 ik cls).before args s = true) (hini : (Cond.initialized cls).before args s = true)
    (hg : ∀ w ∈ (vx_atS RX7 ic cls ["java/lang/RuntimeException", "java/lang/Exception"]).filter goodWord, w.before args s = true) (hng : ∀ w ∈ (vx_atS RX7 ic cls ["java/lang/RuntimeException", "java/lang/Exception"]).filter (fun w => !goodWord w), w ∈ xB cls)
    (hgood : ∀ w ∈ Cond.classLink RX7 ik cls :: Cond.initialized cls :: vx_atS RX7 ic cls ["java/lang/RuntimeException", "java/lang/Exception"], vx_ot w = true)
    (hP : va_P D vwCl (wL cy b F M n) H) (hS : va_S (fr b) s.heap H locs) (hf : F = F1) (hM : M = M1) (hE : EXN T cls) (hsize : ls.size = c.maxLocals)
    (d0 : decode cc pc = .ok (.new ik, 3)) (d3 : decode cc (pc + 3) = .ok (.dup, 1)) (d4 : decode cc (pc + 4) = .ok (.ldc_w is, 3)) (d7 : decode cc (pc + 7) = .ok (.invokespecial ic, 3)) (d10 : decode cc (pc + 10) = .ok (.athrow, 1))
    (hout : ∀ x ∈ c.exceptionTable.toList, False) (hRframes : 5 < R.frames) (hRlocals : (rest.map fun v => v.category).sum + 82 ≤ R.locals) (hRcells : cells + 1 ≤ R.cells) (hRslots : slots + 6 ≤ R.slots) (hlocks : meth.locks = false) (hc : cells + 1 ≤ mc) (hs : slots + 6 ≤ ms) :
    W p l e R s m args below meth c H locs cells slots (vx_MQ below Qc (CX D cy b n F1 T M1) args s mc ms (fr b)) (F0 m pc ls rest) := by
  obtain ⟨sa, hsa⟩ := hX.2.2.2.1 _ hmsg
  exact vx_throwSW hexec hb hl hown hcls (by decide +kernel) hk hini hsa (xth_at hX hXm hg hng) hgood hX.2.1 hX.2.2.1 hS hsize d0 d3 d4 d7 d10 (fun x hx => (hout x hx).elim) hRframes hRlocals hRcells hRslots hlocks (xthX hP hS hf hM hE) hS.2.2 hc hs
/-- a callee's throw goes on to the caller -/
theorem xpass {E : String} {ce : Cell} {q : Addr} {mc ms T : Nat} {F1 : Fla} {M1 : Mem} {Qc : Array Value → State → Outcome → State → Prop} (hout : ∀ x ∈ c.exceptionTable.toList, False) (hlocks : meth.locks = false) (hcell : H[q]? = some ce) (hv : ce.vm = .none) (hcl : s.vm.findClass E = some ce.cls) (hP : va_P D vwCl (wL cy b F M n) H) (hS : va_S (fr b) s.heap H locs) (hf : F = F1) (hM : M = M1) (hE : EXN T E) (h1 : cells ≤ mc) (h2 : slots ≤ ms) :
    vx_W p l e R s m args below meth c H locs cells slots (vx_MQ below Qc (CX D cy b n F1 T M1) args s mc ms (fr b)) (F0 m pc ls rest) q := by
  subst hf; subst hM
  exact vx_out (fun x hx => (hout x hx).elim) hlocks hcell hv hcl (fun t ht ha => ⟨(), trivial, ⟨hE, by show va_P _ _ _ t.heap; rw [ht]; exact hP⟩, hS.F ht⟩) hS.2.2 h1 h2
/-- behind a call that may throw -/
theorem xct_i {mc ms : Nat} {F1 : Fla} {T : Nat} {r : Int32} {M1 : Mem} {a : Array Value} (hr : vx_Run p l e R s m args below meth c H locs cells slots mc ms (F0 m pc ls st0) rest (CTi D cy b n F1 T r M1 a) (CX D cy b n F1 T M1) (fr b)) (hS : va_S (fr b) H0 H locs)
    (kx : ∀ (E : String) (ce : Cell) (q : Addr) (H1 : Heap) (locs1 : List Loc), EXN T E → va_P D vwCl (wL cy b F1 M1 n) H1 → va_S (fr b) H0 H1 locs1 → H1[q]? = some ce → ce.vm = .none → s.vm.findClass E = some ce.cls → vx_W p l e R s m args below meth c H1 locs1 (cells + mc) (slots + ms) Q (F0 m pc ls rest) q)
    (kk : ∀ (H1 : Heap) (locs1 : List Loc), T = 0 → va_P D vwCl (wL cy b F1 M1 n) H1 → va_S (fr b) H0 H1 locs1 → W p l e R s m args below meth c H1 locs1 (cells + mc) (slots + ms) Q (F0 m (pc + 3) ls (.int r :: rest))) : W p l e R s m args below meth c H locs cells slots Q (F0 m pc ls st0) :=
  vx_calli hr hS (fun _ _ h => h) (fun _ h => h) (fun _ _ h => h) (fun E ce q u t H1 locs1 ht _ _ hB _ _ hS1 hc hv hcl => kx E ce q H1 locs1 hB.1 (by rw [← ht]; exact hB.2) hS1 hc hv hcl) (fun x u t H1 locs1 ht _ hp hB _ _ hS1 => by
    rw [show x = r from hp.2]
    exact kk H1 locs1 hp.1 (by rw [← ht]; exact hB) hS1)
theorem vx_callq {S SX : Type} {post : Option Nat → S → Prop} {px : SX → Prop} {B : S → State → Prop} {BX : String → SX → State → Prop} {AX A0 A1 : Nat → Prop} {mc ms : Nat} {free : Addr → Prop} {a : Array Value} (hr : vx_Run p l e R s m args below meth c H locs cells slots mc ms (F0 m pc ls st0) rest (va_Qq post B A1 a) (vx_X px BX AX) free) (hS : va_S A0 H0 H locs) (hA : ∀ q, q < H.size → A1 q → A0 q) (hf : ∀ q, free q → A0 q) (hAX : ∀ q, q < H.size → AX q → A0 q)
    (kx : ∀ (E : String) (ce : Cell) (q9 : Addr) (u : SX) (t : State) (H1 : Heap) (locs1 : List Loc), t.heap = H1 → s.vm.Alike t.vm → px u → BX E u t → H.size ≤ H1.size → (∀ q : Nat, q < H.size → ¬ AX q → H1[q]? = H[q]?) → va_S A0 H0 H1 locs1 → H1[q9]? = some ce → ce.vm = .none → s.vm.findClass E = some ce.cls → vx_W p l e R s m args below meth c H1 locs1 (cells + mc) (slots + ms) Q (F0 m pc ls rest) q9)
    (kk : ∀ (r : Option Nat) (u : S) (t : State) (H1 : Heap) (locs1 : List Loc), t.heap = H1 → s.vm.Alike t.vm → post r u → B u t → H.size ≤ H1.size → (∀ q : Nat, q < H.size → ¬ A1 q → H1[q]? = H[q]?) → va_S A0 H0 H1 locs1 → W p l e R s m args below meth c H1 locs1 (cells + mc) (slots + ms) Q (F0 m (pc + 3) ls (va_rf r :: rest))) : W p l e R s m args below meth c H locs cells slots Q (F0 m pc ls st0) := by
  intro T hT X
  rcases hr T hT X with ⟨v, st₀, t, T', L, h0, X', hL, e1, e2, ⟨⟨r, u, hv, hp, hb⟩, hF⟩, st⟩ | ⟨q, st₀, t, T', L, E, ce, h0, X', hL, e1, e2, ⟨u, hp, hb, hF⟩, hce, hcv, hcl, st⟩
  · cases hv
    obtain ⟨k1, k2, k3⟩ := vx_keep h0 e1 hS hA hf hL hF
    obtain ⟨t2, a1, b1⟩ := kk r u t T'.heap (locs ++ L) e1.symm (by rw [← e2]; exact X'.warmed.alike) hp hb k1 k2 k3 T' rfl X'
    exact ⟨t2, st t2 a1, b1⟩
  · obtain ⟨k1, k2, k3⟩ := vx_keep h0 e1 hS hAX hf hL hF
    obtain ⟨t2, a1, b1⟩ := kx E ce q u t T'.heap (locs ++ L) e1.symm (by rw [← e2]; exact X'.warmed.alike) hp hb k1 k2 k3 (by rw [e1]; exact hce) hcv hcl T' rfl X'
    exact ⟨t2, st.trans a1, b1⟩
theorem xct_q {mc ms : Nat} {F1 : Fla} {T : Nat} {r : Option Nat} {M1 : Mem} {a : Array Value} (hr : vx_Run p l e R s m args below meth c H locs cells slots mc ms (F0 m pc ls st0) rest (CTq D cy b n F1 T r M1 a) (CX D cy b n F1 T M1) (fr b)) (hS : va_S (fr b) H0 H locs)
    (kx : ∀ (E : String) (ce : Cell) (q : Addr) (H1 : Heap) (locs1 : List Loc), EXN T E → va_P D vwCl (wL cy b F1 M1 n) H1 → va_S (fr b) H0 H1 locs1 → H1[q]? = some ce → ce.vm = .none → s.vm.findClass E = some ce.cls → vx_W p l e R s m args below meth c H1 locs1 (cells + mc) (slots + ms) Q (F0 m pc ls rest) q)
    (kk : ∀ (H1 : Heap) (locs1 : List Loc), T = 0 → va_P D vwCl (wL cy b F1 M1 n) H1 → va_S (fr b) H0 H1 locs1 → W p l e R s m args below meth c H1 locs1 (cells + mc) (slots + ms) Q (F0 m (pc + 3) ls (va_rf r :: rest))) : W p l e R s m args below meth c H locs cells slots Q (F0 m pc ls st0) :=
  vx_callq hr hS (fun _ _ h => h) (fun _ h => h) (fun _ _ h => h) (fun E ce q u t H1 locs1 ht _ _ hB _ _ hS1 hc hv hcl => kx E ce q H1 locs1 hB.1 (by rw [← ht]; exact hB.2) hS1 hc hv hcl) (fun x u t H1 locs1 ht _ hp hB _ _ hS1 => by
    rw [show x = r from hp.2]
    exact kk H1 locs1 hp.1 (by rw [← ht]; exact hB) hS1)
end XT

