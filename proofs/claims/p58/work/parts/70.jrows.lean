/-! the JDK's builder of strings: its world, what never changes, its rows -/
def dgO (j : Nat) : Int32 := nI (48 + j % 10)
def dgT (j : Nat) : Int32 := nI (48 + j / 10)
/-- the JDK's constants outside A -/
def SJ (A : Nat → Prop) (U : State) : Prop :=
  va_Z "java/lang/String" "COMPACT_STRINGS" "Z" (.int 1) A U U.heap ∧
  (∃ t, va_Z "java/lang/Integer" "DigitOnes" "[B" (.ref t) A U U.heap ∧ va_T .byte t 100 (fun j => .int (dgO j)) A U U.heap) ∧
  (∃ t, va_Z "java/lang/Integer" "DigitTens" "[B" (.ref t) A U U.heap ∧ va_T .byte t 100 (fun j => .int (dgT j)) A U U.heap) ∧
  va_Zq "jdk/internal/util/Preconditions" "SIOOBE_FORMATTER" "Ljava/util/function/BiFunction;" A U U.heap ∧
  va_Nw (.castable "[B" "java/lang/Cloneable") U ∧ ∀ q, U.heap.size ≤ q → A q
/-- the string at a is this row of bytes -/
def TX (A : Nat → Prop) (a : Nat) (L : List Int32) (U : State) : Prop := ∃ av, va_O "java/lang/String" a A U U.heap ∧ va_OF "java/lang/String" "coder" "B" (.int 0) a A U U.heap ∧ va_OF "java/lang/String" "value" "[B" (.ref av) a A U U.heap ∧ va_T .byte av L.length (fun j => .int (L.getD j 0)) A U U.heap
def TXs (A : Nat → Prop) (tx : List (Nat × List Int32)) (U : State) : Prop := ∀ q ∈ tx, TX A q.1 q.2 U
theorem SJ.moved {A : Nat → Prop} {s U : State} {H : Heap} {locs : List Loc} (h : SJ A s) (hH : U.heap = H) (hS : va_S A s.heap H locs) (hW : s.WarmedH U.vm) : SJ A U := by
  obtain ⟨h1, ⟨t, h2, h3⟩, ⟨t', h4, h5⟩, h6, h7, h8⟩ := h
  have hk : ∀ a : Nat, a < s.heap.size → ¬ A a → U.heap[a]? = s.heap[a]? := by rw [hH]; exact hS.2.1
  exact ⟨(h1.kept hk).moved hW.alike, ⟨t, (h2.kept hk).moved hW.alike, (h3.kept hk).moved hW.alike⟩, ⟨t', (h4.kept hk).moved hW.alike, (h5.kept hk).moved hW.alike⟩, (h6.kept hk).moved hW.alike, va_Nw.warmC hW h7, fun q hq => h8 q (Nat.le_trans hS.1 (by rw [← hH]; exact hq))⟩
theorem SJ.calling {A : Nat → Prop} {U : State} {g : JFrame} {mk : MethodId} {a : Array Value} (h : SJ A U) : SJ A (U.calling g mk a) := by
  obtain ⟨h1, ⟨t, h2, h3⟩, ⟨t', h4, h5⟩, h6, h7, h8⟩ := h
  exact ⟨h1.moved (u := U) (U := U.calling g mk a) (Vm.Alike.refl U.vm), ⟨t, h2.moved (u := U) (U := U.calling g mk a) (Vm.Alike.refl U.vm), h3.moved (u := U) (U := U.calling g mk a) (Vm.Alike.refl U.vm)⟩, ⟨t', h4.moved (u := U) (U := U.calling g mk a) (Vm.Alike.refl U.vm), h5.moved (u := U) (U := U.calling g mk a) (Vm.Alike.refl U.vm)⟩, h6.moved (u := U) (U := U.calling g mk a) (Vm.Alike.refl U.vm), va_Nw.same rfl (u := U) (U := U.calling g mk a) rfl h7, h8⟩
theorem TX.moved {A : Nat → Prop} {a : Nat} {L : List Int32} {s U : State} {H : Heap} {locs : List Loc} (h : TX A a L s) (hH : U.heap = H) (hS : va_S A s.heap H locs) (hW : s.WarmedH U.vm) : TX A a L U := by
  obtain ⟨av, h1, h2, h3, h4⟩ := h
  have hk : ∀ a : Nat, a < s.heap.size → ¬ A a → U.heap[a]? = s.heap[a]? := by rw [hH]; exact hS.2.1
  exact ⟨av, (h1.kept hk).moved hW.alike, (h2.kept hk).moved hW.alike, (h3.kept hk).moved hW.alike, (h4.kept hk).moved hW.alike⟩
theorem TX.calling {A : Nat → Prop} {a0 : Nat} {L : List Int32} {U : State} {g : JFrame} {mk : MethodId} {a : Array Value} (h : TX A a0 L U) : TX A a0 L (U.calling g mk a) := by
  obtain ⟨av, h1, h2, h3, h4⟩ := h
  exact ⟨av, h1.moved (u := U) (U := U.calling g mk a) (Vm.Alike.refl U.vm), h2.moved (u := U) (U := U.calling g mk a) (Vm.Alike.refl U.vm), h3.moved (u := U) (U := U.calling g mk a) (Vm.Alike.refl U.vm), h4.moved (u := U) (U := U.calling g mk a) (Vm.Alike.refl U.vm)⟩
theorem TXs.moved {A : Nat → Prop} {tx : List (Nat × List Int32)} {s U : State} {H : Heap} {locs : List Loc} (h : TXs A tx s) (hH : U.heap = H) (hS : va_S A s.heap H locs) (hW : s.WarmedH U.vm) : TXs A tx U := fun q hq => (h q hq).moved hH hS hW
theorem TXs.calling {A : Nat → Prop} {tx : List (Nat × List Int32)} {U : State} {g : JFrame} {mk : MethodId} {a : Array Value} (h : TXs A tx U) : TXs A tx (U.calling g mk a) := fun q hq => (h q hq).calling
/-- worlds: places in another order, some left away -/
theorem va_P.of {D : va_G} {cl : List vw_C} {ws ws' : va_W} {H : Heap} (h : va_P D cl ws H) (hs : ∀ q ∈ ws', q ∈ ws) : va_P D cl ws' H := fun k q hk => by
  obtain ⟨i, hi⟩ := List.getElem?_of_mem (hs q (List.mem_of_getElem? hk))
  exact h i q hi
theorem va_D.nd {A : Nat → Prop} {ws : va_W} (h : va_D A ws) : (ws.map (fun q => q.1)).Nodup := by
  refine List.pairwise_iff_getElem.mpr fun i j hi hj hij he => ?_
  have hi' : i < ws.length := by simpa using hi
  have hj' : j < ws.length := by simpa using hj
  rw [List.getElem_map, List.getElem_map] at he
  have := h.1 i j ws[i] ws[j] (List.getElem?_eq_getElem hi') (List.getElem?_eq_getElem hj') he
  omega
theorem va_D.of {A : Nat → Prop} {ws ws' : va_W} (h : va_D A ws) (hs : ∀ q ∈ ws', q ∈ ws) (hn : (ws'.map (fun q => q.1)).Nodup) : va_D A ws' := by
  have hne : ∀ (i j : Nat) (p q : Nat × va_E), ws'[i]? = some p → ws'[j]? = some q → p.1 = q.1 → ¬ i < j := by
    intro i j p q hi hj hpq hij
    obtain ⟨hil, rfl⟩ := List.getElem?_eq_some_iff.mp hi
    obtain ⟨hjl, rfl⟩ := List.getElem?_eq_some_iff.mp hj
    exact List.pairwise_iff_getElem.mp hn i j (by simpa using hil) (by simpa using hjl) hij (by simpa using hpq)
  refine ⟨fun i j p q hi hj hpq => ?_, fun k q hk => ?_⟩
  · have h1 := hne i j p q hi hj hpq
    have h2 := hne j i q p hj hi hpq.symm
    omega
  · obtain ⟨i, hi⟩ := List.getElem?_of_mem (hs q (List.mem_of_getElem? hk))
    exact h.2 i q hi
theorem jtop {D : va_G} {cl : List vw_C} {A : Nat → Prop} {ws : va_W} {x : Nat × va_E} {H : Heap} (h : va_P D cl (ws ++ [x]) H ∧ va_D A (ws ++ [x])) : va_P D cl (x :: ws) H ∧ va_D A (x :: ws) := by
  have hs : ∀ q ∈ x :: ws, q ∈ ws ++ [x] := fun q hq => by simp only [List.mem_cons, List.mem_append, List.not_mem_nil, or_false] at hq ⊢; exact hq.symm
  refine ⟨h.1.of hs, h.2.of hs ?_⟩
  have := h.2.nd
  simp only [List.map_append, List.map_cons, List.map_nil, List.nodup_append, List.nodup_cons, List.mem_cons, List.not_mem_nil, or_false] at this ⊢
  exact ⟨fun hm => this.2.2 _ hm _ rfl rfl, this.1⟩
/-- the builder, its bytes -/
abbrev jE0 (arr : Nat) (cnt : Int32) : va_E := .inr (8, [.ref arr, .int 0, .int 0, .int cnt])
abbrev jE1 (cy : Nat → ClassId) (m : Nat) (f : Nat → Int32) : va_E := .inl (cy 0, m, .inl f)
/-- bytes are bytes; the first of them are these -/
def JF (f : Nat → Int32) : Prop := ∀ j, fits .byte (.int (f j)) = true
def JL (f : Nat → Int32) (L : List Int32) : Prop := ∀ j, j < L.length → f j = L.getD j 0
abbrev JP (D : va_G) (cy : Nat → ClassId) (A : Nat → Prop) (ws : va_W) (tx : List (Nat × List Int32)) (av : List Value) : Array Value → State → Prop := va_Pc av (fun U => (va_P D vwCl ws U.heap ∧ va_D A ws) ∧ va_K D vwCl (tysW cy) U ∧ SJ A U ∧ TXs A tx U)
abbrev JQi (D : va_G) (A : Nat → Prop) (ws : va_W) (r : Int32) : Array Value → State → Outcome → State → Prop := va_Qi (fun x (_ : Unit) => x = r) (fun _ t => va_P D vwCl ws t.heap ∧ va_D A ws) A
abbrev JQv (D : va_G) (A : Nat → Prop) {S : Type} (P : S → Prop) (ws : S → va_W) : Array Value → State → Outcome → State → Prop := va_Qv P (fun u t => va_P D vwCl (ws u) t.heap ∧ va_D A (ws u)) A
/-- a reference that is known / that is new -/
abbrev JQa (D : va_G) (A : Nat → Prop) {S : Type} (P : S → Prop) (ws : S → va_W) (r : Nat) : Array Value → State → Outcome → State → Prop := va_Qr P (fun u a t => a = r ∧ va_P D vwCl (ws u) t.heap ∧ va_D A (ws u)) A
abbrev JQn (D : va_G) (A : Nat → Prop) {S : Type} (P : S → Prop) (ws : S → Nat → va_W) : Array Value → State → Outcome → State → Prop := va_Qr P (fun u a t => va_P D vwCl (ws u a) t.heap ∧ va_D A (ws u a)) A
theorem jBlind {D : va_G} {cy : Nat → ClassId} {A : Nat → Prop} {ws : va_W} {tx : List (Nat × List Int32)} {av : List Value} : FrameBlind (JP D cy A ws tx av) := fun a U g mk q => ⟨q.1, q.2.1, va_K.moved (u := U) (U := U.calling g mk a) (Vm.Alike.refl U.vm) q.2.2.1, q.2.2.2.1.calling, q.2.2.2.2.calling⟩
theorem j_shl0 (x : Int32) : x <<< ((0 : Int32) &&& 31) = x := by
  rw [show ((0 : Int32) &&& 31) = 0 from by decide]
  apply Int32.toBitVec_inj.mp
  simp
theorem j_shr0 (x : Int32) : x >>> ((0 : Int32) &&& 31) = x := by
  rw [show ((0 : Int32) &&& 31) = 0 from by decide]
  apply Int32.toBitVec_inj.mp
  simp
section XJ
variable {p : Program} {l : Launch} {e : Env} {R : Room} {s : State} {m : MethodId} {args : Array Value} {below : List Frame} {meth : Method} {c : Code} {H : Heap} {locs : List Loc} {cells slots : Nat} {Q : State → Prop}
variable {cc : ByteArray} {pc : Nat} {ls : Array Slot} {rest st0 : List Value} {D : va_G} {cy : Nat → ClassId} {A : Nat → Prop} {ws : va_W} {tx tx' : List (Nat × List Int32)} {H0 : Heap}
theorem jPreS {As : List Value} (hP : va_P D vwCl ws H) (hD : va_D A ws) (hK : va_K D vwCl (tysW cy) s) (hX : SJ A s) (hT : TXs A tx s) (hS : va_S A s.heap H locs) : PreS s H (JP D cy A ws tx As) As := ⟨jBlind, fun U hU hW => ⟨rfl, ⟨by rw [hU]; exact hP, hD⟩, va_K.moved hW.alike hK, hX.moved hU hS hW, hT.moved hU hS hW⟩⟩
theorem jPreV {As : List Value} {a ci N : Nat} {C : String} {T : u_T} {fs : List Value} (q0 : Nat) (hP : va_P D vwCl ws H) (hD : va_D A ws) (hK : va_K D vwCl (tysW cy) s) (hX : SJ A s) (hT : TXs A tx s) (hS : va_S A s.heap H locs) (he : ws[q0]? = some (a, .inr (ci, fs))) (hq : vwCl[ci]? = some (C, T, N)) : PreV s H C a (JP D cy A ws tx (.ref a :: As)) As :=
  ⟨jBlind, va_recv (q := (C, T, N)) hK hP hq he, fun U hU hW => ⟨rfl, ⟨by rw [hU]; exact hP, hD⟩, va_K.moved hW.alike hK, hX.moved hU hS hW, hT.moved hU hS hW⟩⟩
theorem jPreVS {As : List Value} {a : Nat} {L : List Int32} (hP : va_P D vwCl ws H) (hD : va_D A ws) (hK : va_K D vwCl (tysW cy) s) (hX : SJ A s) (hT : TXs A tx s) (hS : va_S A s.heap H locs) (ha : TX A a L s) : PreV s H "java/lang/String" a (JP D cy A ws tx (.ref a :: As)) As :=
  ⟨jBlind, by
    obtain ⟨av, h1, -⟩ := id ha
    obtain ⟨cell, g1, g2, g3, -⟩ := h1.kept hS.2.1
    exact ⟨cell, g1, g2, g3⟩, fun U hU hW => ⟨rfl, ⟨by rw [hU]; exact hP, hD⟩, va_K.moved hW.alike hK, hX.moved hU hS hW, hT.moved hU hS hW⟩⟩
/-- behind a call -/
theorem xj_i {mc ms : Nat} {r : Int32} {ws1 : va_W} {a : Array Value} (hr : va_Run p l e R s m args below meth c H locs cells slots mc ms (F0 m pc ls st0) rest (JQi D A ws1 r a) A) (hS : va_S A H0 H locs)
    (kk : ∀ (H1 : Heap) (locs1 : List Loc), va_P D vwCl ws1 H1 → va_D A ws1 → va_S A H0 H1 locs1 → W p l e R s m args below meth c H1 locs1 (cells + mc) (slots + ms) Q (F0 m (pc + 3) ls (.int r :: rest))) : W p l e R s m args below meth c H locs cells slots Q (F0 m pc ls st0) :=
  va_calli hr hS (fun _ _ h => h) (fun _ h => h) (fun x u t H1 locs1 ht _ hp hB _ _ hS1 => by
    rw [show x = r from hp]
    exact kk H1 locs1 (by rw [← ht]; exact hB.1) hB.2 hS1)
theorem xj_v {mc ms : Nat} {S : Type} {P : S → Prop} {ws1 : S → va_W} {a : Array Value} (hr : va_Run p l e R s m args below meth c H locs cells slots mc ms (F0 m pc ls st0) rest (JQv D A P ws1 a) A) (hS : va_S A H0 H locs)
    (kk : ∀ (u : S) (H1 : Heap) (locs1 : List Loc), P u → va_P D vwCl (ws1 u) H1 → va_D A (ws1 u) → va_S A H0 H1 locs1 → W p l e R s m args below meth c H1 locs1 (cells + mc) (slots + ms) Q (F0 m (pc + 3) ls rest)) : W p l e R s m args below meth c H locs cells slots Q (F0 m pc ls st0) :=
  va_callv hr hS (fun _ _ h => h) (fun _ h => h) (fun u t H1 locs1 ht _ hp hB _ _ hS1 => kk u H1 locs1 hp (by rw [← ht]; exact hB.1) hB.2 hS1)
theorem xj_a {mc ms : Nat} {S : Type} {P : S → Prop} {ws1 : S → va_W} {r : Nat} {a : Array Value} (hr : va_Run p l e R s m args below meth c H locs cells slots mc ms (F0 m pc ls st0) rest (JQa D A P ws1 r a) A) (hS : va_S A H0 H locs)
    (kk : ∀ (u : S) (H1 : Heap) (locs1 : List Loc), P u → va_P D vwCl (ws1 u) H1 → va_D A (ws1 u) → va_S A H0 H1 locs1 → W p l e R s m args below meth c H1 locs1 (cells + mc) (slots + ms) Q (F0 m (pc + 3) ls (.ref r :: rest))) : W p l e R s m args below meth c H locs cells slots Q (F0 m pc ls st0) :=
  va_callr hr hS (fun _ _ h => h) (fun _ h => h) (fun u ra t H1 locs1 ht _ hp hB _ _ hS1 => by
    rw [show ra = r from hB.1]
    exact kk u H1 locs1 hp (by rw [← ht]; exact hB.2.1) hB.2.2 hS1)
theorem xj_n {mc ms : Nat} {S : Type} {P : S → Prop} {ws1 : S → Nat → va_W} {a : Array Value} (hr : va_Run p l e R s m args below meth c H locs cells slots mc ms (F0 m pc ls st0) rest (JQn D A P ws1 a) A) (hS : va_S A H0 H locs)
    (kk : ∀ (u : S) (r : Nat) (H1 : Heap) (locs1 : List Loc), P u → va_P D vwCl (ws1 u r) H1 → va_D A (ws1 u r) → va_S A H0 H1 locs1 → W p l e R s m args below meth c H1 locs1 (cells + mc) (slots + ms) Q (F0 m (pc + 3) ls (.ref r :: rest))) : W p l e R s m args below meth c H locs cells slots Q (F0 m pc ls st0) :=
  va_callr hr hS (fun _ _ h => h) (fun _ h => h) (fun u ra t H1 locs1 ht _ hp hB _ _ hS1 => kk u ra H1 locs1 hp (by rw [← ht]; exact hB.1) hB.2 hS1)
/-- the ends -/
theorem je_i (hexec : p.tables.exec = Jvm.exec) (hb : c.code = cc) {ty : FieldType} (hr : meth.sig.returnType = some ty) (hlocks : meth.locks = false) {mc ms : Nat} {v r : Int32} {ws1 : va_W} (hP : va_P D vwCl ws H) (hD : va_D A ws) (hS : va_S A s.heap H locs) (hw : ws = ws1) (hv : v = r) (hn : narrow ty (.int v) = .int v) (h1 : cells ≤ mc) (h2 : slots ≤ ms) (hdg : decode cc pc = .ok (.ireturn, 1)) : W p l e R s m args below meth c H locs cells slots (MQ below (JQi D A ws1 r) args s mc ms A) (F0 m pc ls [.int v]) := by
  subst hw; subst hv
  refine W.widen h1 h2 ?_
  exact W.zret hexec hb hr hn (fun t ht hW => ⟨⟨v, (), rfl, rfl, by show va_P _ _ _ t.heap; rw [ht]; exact hP, hD⟩, hS.F ht⟩) hS.2.2 hdg hlocks
theorem je_v (hexec : p.tables.exec = Jvm.exec) (hb : c.code = cc) (hr : meth.sig.returnType = none) (hlocks : meth.locks = false) {mc ms : Nat} {S : Type} {P : S → Prop} {ws1 : S → va_W} (u : S) (hu : P u) (hP : va_P D vwCl ws H) (hD : va_D A ws) (hS : va_S A s.heap H locs) (hw : ws = ws1 u) (h1 : cells ≤ mc) (h2 : slots ≤ ms) (hdg : decode cc pc = .ok (.return_, 1)) : W p l e R s m args below meth c H locs cells slots (MQ below (JQv D A P ws1) args s mc ms A) (F0 m pc ls []) := by
  subst hw
  refine W.widen h1 h2 ?_
  exact W.vret hexec hb hr (fun t ht hW => ⟨⟨u, rfl, hu, by show va_P _ _ _ t.heap; rw [ht]; exact hP, hD⟩, hS.F ht⟩) hS.2.2 hdg hlocks
theorem je_a (hexec : p.tables.exec = Jvm.exec) (hb : c.code = cc) {ty : FieldType} (hr : meth.sig.returnType = some ty) (hty : (∃ nm, ty = .object nm) ∨ ∃ t, ty = .array t) (hlocks : meth.locks = false) {mc ms : Nat} {S : Type} {P : S → Prop} {ws1 : S → va_W} {r : Nat} (u : S) (hu : P u) (hP : va_P D vwCl ws H) (hD : va_D A ws) (hS : va_S A s.heap H locs) (hw : ws = ws1 u) (h1 : cells ≤ mc) (h2 : slots ≤ ms) (hdg : decode cc pc = .ok (.areturn, 1)) : W p l e R s m args below meth c H locs cells slots (MQ below (JQa D A P ws1 r) args s mc ms A) (F0 m pc ls [.ref r]) := by
  subst hw
  refine W.widen h1 h2 ?_
  exact W.aret hexec hb hr hty (va_rf_or (some r)) (fun t ht hW => ⟨⟨u, r, rfl, hu, rfl, by show va_P _ _ _ t.heap; rw [ht]; exact hP, hD⟩, hS.F ht⟩) hS.2.2 hdg hlocks
theorem je_n (hexec : p.tables.exec = Jvm.exec) (hb : c.code = cc) {ty : FieldType} (hr : meth.sig.returnType = some ty) (hty : (∃ nm, ty = .object nm) ∨ ∃ t, ty = .array t) (hlocks : meth.locks = false) {mc ms : Nat} {S : Type} {P : S → Prop} {ws1 : S → Nat → va_W} {r : Nat} (u : S) (hu : P u) (hP : va_P D vwCl ws H) (hD : va_D A ws) (hS : va_S A s.heap H locs) (hw : ws = ws1 u r) (h1 : cells ≤ mc) (h2 : slots ≤ ms) (hdg : decode cc pc = .ok (.areturn, 1)) : W p l e R s m args below meth c H locs cells slots (MQ below (JQn D A P ws1) args s mc ms A) (F0 m pc ls [.ref r]) := by
  subst hw
  refine W.widen h1 h2 ?_
  exact W.aret hexec hb hr hty (va_rf_or (some r)) (fun t ht hW => ⟨⟨u, r, rfl, hu, by show va_P _ _ _ t.heap; rw [ht]; exact hP, hD⟩, hS.F ht⟩) hS.2.2 hdg hlocks
/-- a new row of bytes -/
theorem xj_newa (hexec : p.tables.exec = Jvm.exec) (hb : c.code = cc) (harr : (Cond.arrayClass .byte).before args s = true) (hK : va_K D vwCl (tysW cy) s) (hP : va_P D vwCl ws H) (hD : va_D A ws) (hS : va_S A s.heap H locs) (hX : SJ A s) {N : Nat} (hN : N ≤ 65536) (hcells : cells + 1 ≤ R.cells) (hslots : slots + N ≤ R.slots) (hdg : decode cc pc = .ok (.newarray .byte, 2))
    (kk : ∀ (q : Nat) (H1 : Heap), va_P D vwCl ((q, jE1 cy N (fun _ => 0)) :: ws) H1 → va_D A ((q, jE1 cy N (fun _ => 0)) :: ws) → va_S A s.heap H1 locs → W p l e R s m args below meth c H1 locs (cells + 1) (slots + N) Q (F0 m (pc + 2) ls (.ref q :: rest))) : W p l e R s m args below meth c H locs cells slots Q (F0 m pc ls (.int (nI N) :: rest)) := by
  refine va_newa (atype := .byte) (ty := .byte) (a0 := (N, .inl (fun _ => 0))) (N' := N) hexec hb harr rfl hK hP hD hS hX.2.2.2.2.2 (fun cA => rfl) (nI_pos (by omega)) (nI_clamp (by omega)) ?_ hcells hslots hdg (fun q cA H1 hK1 hP1 hD1 hS1 => ?_)
  · show N * 1 ≤ 536870912
    omega
  have h1 : va_RA s (cy 0) .byte := (hK.2 0 (cy 0, .byte) rfl).2
  have h2 : va_RA s cA .byte := (hK1.2 5 (cA, .byte) rfl).2
  unfold va_RA at h1 h2
  cases h1.symm.trans h2
  obtain ⟨hP2, hD2⟩ := jtop ⟨hP1, hD1⟩
  exact kk q H1 hP2 hD2 hS1
end XJ
theorem JF_upd {f : Nat → Int32} (h : JF f) (k : Nat) (x : Int32) : JF (upd f k (vp_nar .byte x)) := by
  intro j
  unfold upd
  split
  · rw [vp_nar_byte]
    exact pk_fb _
  · exact h j
theorem JF.cpy {f g : Nat → Int32} (h : JF f) (hg : JF g) (a b n : Nat) : JF (va_cpy f g a b n) := by
  intro j
  unfold va_cpy
  split
  · exact h _
  · exact hg j
theorem JF.z : JF (fun _ => 0) := fun _ => rfl
theorem JL.app {f g : Nat → Int32} {L X : List Int32} (h : JL f L) (h1 : ∀ j, j < L.length → g j = f j) (h2 : ∀ j, j < X.length → g (L.length + j) = X.getD j 0) : JL g (L ++ X) := by
  intro j hj
  rw [List.length_append] at hj
  by_cases hl : j < L.length
  · rw [h1 j hl, h j hl, List.getD_eq_getElem?_getD, List.getD_eq_getElem?_getD, List.getElem?_append_left hl]
  · have := h2 (j - L.length) (by omega)
    rw [show L.length + (j - L.length) = j by omega] at this
    rw [this, List.getD_eq_getElem?_getD, List.getD_eq_getElem?_getD, List.getElem?_append_right (by omega)]
