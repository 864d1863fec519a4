/-! what a constructor wants: new objects behind the others -/
/-- the references of object o are not set yet -/
def fP (F : Fla) (o : Nat) : Fla := fun p => if p = o then (fun _ => false) else F p
theorem fP_at (F : Fla) (o : Nat) : fP F o o = fun _ => false := if_pos rfl
theorem fP_ne (F : Fla) {o p : Nat} (h : p ≠ o) : fP F o p = F p := if_neg h
theorem wL_cell {cy : Nat → ClassId} {b : Nat} {F F' : Fla} {M M' : Mem} {n : Nat} (h : ∀ p, p < n → cellR cy b p (F' p) (M' p) = cellR cy b p (F p) (M p)) : wL cy b F M n = wL cy b F' M' n := by
  refine List.ext_getElem? fun k => ?_
  by_cases hk : k < n
  · rw [wL_get hk, wL_get hk, h k hk]
  · rw [List.getElem?_eq_none (by rw [wL_len]; omega), List.getElem?_eq_none (by rw [wL_len]; omega)]
abbrev CPz (D : va_G) (cy : Nat → ClassId) (b n : Nat) (F : Fla) (M : Mem) (av : List Value) : Array Value → State → Prop := va_Pc av (fun U => va_P D vwCl (wL cy b F M n) U.heap ∧ va_K D vwCl (tysW cy) U ∧ SX b U ∧ (va_AO RX1 U ∧ va_AO RX4 U) ∧ U.heap.size = b + n)
theorem xBlindZ {D : va_G} {cy : Nat → ClassId} {b n : Nat} {F : Fla} {M : Mem} {av : List Value} : FrameBlind (CPz D cy b n F M av) := fun a U g mk q => ⟨q.1, q.2.1, va_K.moved (u := U) (U := U.calling g mk a) (Vm.Alike.refl U.vm) q.2.2.1, q.2.2.2.1.calling, ⟨va_AO.moved (u := U) (U := U.calling g mk a) (Vm.Alike.refl U.vm) q.2.2.2.2.1.1, va_AO.moved (u := U) (U := U.calling g mk a) (Vm.Alike.refl U.vm) q.2.2.2.2.1.2⟩, q.2.2.2.2.2⟩
section XZ
variable {p : Program} {l : Launch} {e : Env} {R : Room} {s : State} {m : MethodId} {args : Array Value} {below : List Frame} {meth : Method} {c : Code} {H : Heap} {locs : List Loc} {cells slots : Nat} {Q : State → Prop}
variable {cc : ByteArray} {pc : Nat} {ls : Array Slot} {rest st0 : List Value} {D : va_G} {cy : Nat → ClassId} {b n : Nat} {F : Fla} {M : Mem} {H0 : Heap}
theorem xPreZ {As : List Value} (hP : va_P D vwCl (wL cy b F M n) H) (hK : va_K D vwCl (tysW cy) s) (hX : SX b s) (hO : va_AO RX1 s ∧ va_AO RX4 s) (hS : va_S (fr b) s.heap H locs) (hz : H.size = b + n) : PreS s H (CPz D cy b n F M As) As := ⟨xBlindZ, fun U hU hW => ⟨rfl, by rw [hU]; exact hP, va_K.moved hW.alike hK, hX.moved hU hS hW, ⟨va_AO.moved hW.alike hO.1, va_AO.moved hW.alike hO.2⟩, by rw [hU]; exact hz⟩⟩
/-- how large the heap is, out of the count of the new cells -/
theorem xsz {n0 : Nat} (hP : va_P D vwCl (wL cy b F M n) H) (hs0 : s.heap.size = b + n0) (hn : n0 + cells = n) (h0 : 0 < n) (kk : H.size = b + n → W p l e R s m args below meth c H locs cells slots Q (F0 m pc ls st0)) : W p l e R s m args below meth c H locs cells slots Q (F0 m pc ls st0) := by
  intro T hT X
  have h1 : T.heap.size ≤ s.heap.size + cells := X.same.2.2.1
  have h2 : b + (n - 1) < H.size := (hP (n - 1) _ (wL_get (by omega))).lt
  exact kk (by rw [hT] at h1; omega) T hT X
/-- a new object -/
theorem xnewo (hexec : p.tables.exec = Jvm.exec) (hb : c.code = cc) {own C : String} {T : u_T} {N ci index : Nat} {Ts : List Cond} (hts : ∀ w ∈ Ts, w.before args s = true) (hin : ∀ w ∈ u_ws C T N, w ∈ Ts) (ty : Nat → FieldType) (hty : ∀ k, k < N → parseFieldDescriptor (T k).2.2.1 = some (ty k)) (hown : s.vm.findClass own = some m.cls) (hcl : (Cond.classLink own index C).before args s = true) (hinst : (Cond.instantiable C N).before args s = true) (hini : (Cond.initialized C).before args s = true)
    (hK : va_K D vwCl (tysW cy) s) (hP : va_P D vwCl (wL cy b F M n) H) (hS : va_S (fr b) H0 H locs) (hz : H.size = b + n) (hc : vwCl[ci]? = some (C, T, N)) {fs : List Value} (hfs : ∀ j, j < N → defaultValue (ty j) = vp_V fs j) (he : cellR cy b n (fun _ => false) (M n) = .inr (ci, fs)) (hcells : cells + 1 ≤ R.cells) (hslots : slots + N ≤ R.slots) (hdg : decode cc pc = .ok (.new index, 3))
    (kk : ∀ H1 : Heap, va_P D vwCl (wL cy b (fP F n) M (n + 1)) H1 → va_S (fr b) H0 H1 locs → H1.size = b + (n + 1) → W p l e R s m args below meth c H1 locs (cells + 1) (slots + N) Q (F0 m (pc + 3) ls (.ref (b + n) :: rest))) : W p l e R s m args below meth c H locs cells slots Q (F0 m pc ls rest) := by
  have hKn := hK.1 ci _ hc
  refine W.newcK hexec hb hown hcl hinst hini rfl hdg hcells hslots hKn.2.1 hz fun H1 kC hkC e1 z1 o1 => ?_
  have hk : ∀ (k : Nat) (x : Nat × va_E), (wL cy b F M n)[k]? = some x → H1[x.1]? = H[x.1]? := fun k x hx => o1 x.1 (by rw [← hz]; exact (hP k x hx).lt)
  have hw : wL cy b F M n ++ [(b + n, .inr (ci, fs))] = wL cy b (fP F n) M (n + 1) := by
    rw [wL_congr (F' := fP F n) (M' := M) (fun q hq => fP_ne F (by omega)) (fun _ _ => rfl)]
    exact wL_push (by rw [fP_at]; exact he)
  refine kk H1 ?_ ⟨Nat.le_trans hS.1 (by omega), fun x h1 h2 => (o1 x (by have := hS.1; omega)).trans (hS.2.1 x h1 h2), hS.2.2⟩ (by omega)
  rw [← hw]
  refine (hP.kept hk).app (fun k x hx => ?_)
  have hz1 : k < 1 := (List.getElem?_eq_some_iff.mp hx).1
  rw [show k = 0 by omega] at hx
  cases hx
  exact ⟨_, hc, (u_born ty hts hin hKn hkC e1 hty).to hfs⟩
/-- an array of numbers -/
theorem xna (hexec : p.tables.exec = Jvm.exec) (hb : c.code = cc) {atype : ArrayType} {t0 : Nat} {ty : FieldType} (hty : newarray.typeOf atype = ty) (harr : (Cond.arrayClass ty).before args s = true) (hK : va_K D vwCl (tysW cy) s) (hP : va_P D vwCl (wL cy b F M n) H) (hS : va_S (fr b) H0 H locs) (hz : H.size = b + n)
    {i : Int32} {N : Nat} (ht : (tysW cy)[t0]? = some (cy t0, ty)) (hob : ∀ C, ty ≠ .object C) {a0 : vp_A} (ha : ∀ cA : ClassId, vp_cell cA a0 = arrV cA N (fun _ => defaultValue ty)) (he : cellR cy b n (F n) (M n) = .inl (cy t0, a0)) (hn : ¬ i < 0) (hN : i.toNatClampNeg = N) (hbytes : N * componentBytes ty ≤ 536870912) (hcells : cells + 1 ≤ R.cells) (hslots : slots + N ≤ R.slots) (hdg : decode cc pc = .ok (.newarray atype, 2))
    (kk : ∀ H1 : Heap, va_P D vwCl (wL cy b F M (n + 1)) H1 → va_S (fr b) H0 H1 locs → H1.size = b + (n + 1) → W p l e R s m args below meth c H1 locs (cells + 1) (slots + N) Q (F0 m (pc + 2) ls (.ref (b + n) :: rest))) : W p l e R s m args below meth c H locs cells slots Q (F0 m pc ls (.int i :: rest)) := by
  subst hty
  refine va_newaK hexec hb harr rfl hdg rfl hn hN hbytes hcells hslots hz fun H1 cA e1 z1 o1 hAr hNm => ?_
  have hcA : cA = cy t0 := by
    have h2 := (hK.2 t0 _ ht).2
    have h3 : s.vm.findClass ("[" ++ (newarray.typeOf atype).toString) = some (cy t0) := by
      revert h2
      cases atype <;> exact fun h => h
    exact Option.some.inj (hNm.symm.trans h3)
  subst hcA
  have hk : ∀ (k : Nat) (x : Nat × va_E), (wL cy b F M n)[k]? = some x → H1[x.1]? = H[x.1]? := fun k x hx => o1 x.1 (by rw [← hz]; exact (hP k x hx).lt)
  refine kk H1 ?_ ⟨Nat.le_trans hS.1 (by omega), fun x h1 h2 => (o1 x (by have := hS.1; omega)).trans (hS.2.1 x h1 h2), hS.2.2⟩ (by omega)
  rw [← wL_push he]
  refine (hP.kept hk).app (fun k x hx => ?_)
  have hz1 : k < 1 := (List.getElem?_eq_some_iff.mp hx).1
  rw [show k = 0 by omega] at hx
  cases hx
  show H1[b + n]? = some (vp_cell _ _)
  rw [ha]
  exact e1
/-- an array of references: none is set yet -/
def fA (F : Fla) (o L k : Nat) : Fla := fun p => if p = o then (fun j => decide (j < k) || decide (L ≤ j)) else F p
theorem fA_at (F : Fla) (o L k : Nat) : fA F o L k o = fun j => decide (j < k) || decide (L ≤ j) := if_pos rfl
theorem fA_ne (F : Fla) {o L k p : Nat} (h : p ≠ o) : fA F o L k p = F p := if_neg h
theorem arrV_ext {cA : ClassId} {N : Nat} {f g : Nat → Value} (h : ∀ j, j < N → f j = g j) : arrV cA N f = arrV cA N g := by
  unfold arrV
  congr 2
  funext j
  exact h j.1 j.2
theorem xnq (hexec : p.tables.exec = Jvm.exec) (hb : c.code = cc) {own C : String} {index t0 : Nat} (hown : s.vm.findClass own = some m.cls) (hclink : (Cond.classLink own index C).before args s = true) (hover : va_AO C s) (hK : va_K D vwCl (tysW cy) s) (hP : va_P D vwCl (wL cy b F M n) H) (hS : va_S (fr b) H0 H locs) (hz : H.size = b + n)
    {i : Int32} {N : Nat} (ht : (tysW cy)[t0]? = some (cy t0, .object C)) {f : Nat → Option Nat} (hf : ∀ j, j < N → f j = none) (he : cellR cy b n (fA F n N 0 n) (M n) = .inl (cy t0, N, .inr (.inr (.inr (.inr f))))) (hn : ¬ i < 0) (hN : i.toNatClampNeg = N) (hbytes : N * 4 ≤ 536870912) (hcells : cells + 1 ≤ R.cells) (hslots : slots + N ≤ R.slots) (hdg : decode cc pc = .ok (.anewarray index, 3))
    (kk : ∀ H1 : Heap, va_P D vwCl (wL cy b (fA F n N 0) M (n + 1)) H1 → va_S (fr b) H0 H1 locs → H1.size = b + (n + 1) → W p l e R s m args below meth c H1 locs (cells + 1) (slots + N) Q (F0 m (pc + 3) ls (.ref (b + n) :: rest))) : W p l e R s m args below meth c H locs cells slots Q (F0 m pc ls (.int i :: rest)) := by
  subst hN
  refine W.anew hexec hb hown hclink (va_AO.use hover) rfl hdg rfl hn hbytes hcells hslots fun cA kA comp f1 f2 f3 f4 => ?_
  have hcA : cA = cy t0 := by
    obtain ⟨kA2, comp2, g1, g2, g3, g4⟩ : ∃ (kA : Class) (comp : ClassId), s.vm.classes[cy t0]? = some kA ∧ kA.kind = .array comp (.object C) ∧ s.vm.findClass C = some comp ∧ s.vm.findClass ("[" ++ (FieldType.object C).toString) = some (cy t0) := (hK.2 t0 _ ht).2
    exact Option.some.inj (f1.symm.trans g4)
  subst hcA
  generalize hH1 : H.push ({ cls := cy t0, slots := Array.replicate i.toNatClampNeg .null, vm := .none } : Cell) = H1
  have z1 : H1.size = H.size + 1 := by rw [← hH1, Array.size_push]
  have e1 : H1[H.size]? = some (arrV (cy t0) i.toNatClampNeg (fun _ => .null)) := by rw [← hH1, Array.getElem?_push_size, ← arrV_new]
  have o1 : ∀ q : Nat, q < H.size → H1[q]? = H[q]? := fun q hq => by rw [← hH1, Array.getElem?_push, if_neg (Nat.ne_of_lt hq)]
  have hk : ∀ (k : Nat) (x : Nat × va_E), (wL cy b F M n)[k]? = some x → H1[x.1]? = H[x.1]? := fun k x hx => o1 x.1 (hP k x hx).lt
  rw [show H.size = b + n from hz]
  refine kk H1 ?_ ⟨Nat.le_trans hS.1 (by omega), fun x h1 h2 => (o1 x (Nat.lt_of_lt_of_le h1 hS.1)).trans (hS.2.1 x h1 h2), hS.2.2⟩ (by omega)
  have hw : wL cy b F M n ++ [(b + n, .inl (cy t0, i.toNatClampNeg, .inr (.inr (.inr (.inr f)))))] = wL cy b (fA F n i.toNatClampNeg 0) M (n + 1) := by
    rw [wL_congr (F' := fA F n i.toNatClampNeg 0) (M' := M) (fun q hq => fA_ne F (by omega)) (fun _ _ => rfl)]
    exact wL_push he
  rw [← hw]
  refine (hP.kept hk).app (fun k x hx => ?_)
  have hz1 : k < 1 := (List.getElem?_eq_some_iff.mp hx).1
  rw [show k = 0 by omega] at hx
  cases hx
  show H1[b + n]? = some (vp_cell _ _)
  rw [vp_cell_q, ← hz, e1]
  exact congrArg some (arrV_ext (fun j hj => by rw [hf j hj]; rfl))
/-- a reference put into such an array -/
theorem xaq (hexec : p.tables.exec = Jvm.exec) (hb : c.code = cc) (hK : va_K D vwCl (tysW cy) s) (hP : va_P D vwCl (wL cy b F M n) H) (hS : va_S (fr b) H0 H locs) {o t0 qk ci N k : Nat} {vs : List Value} {C : vw_C} {f : Nat → Option Nat} {F' : Fla} (ho : o < n) (he : cellR cy b o (F o) (M o) = .inl (cy t0, N, .inr (.inr (.inr (.inr f))))) (he' : cellR cy b o (F' o) (M o) = .inl (cy t0, N, .inr (.inr (.inr (.inr (va_up f k (some (b + qk)))))))) (hF : ∀ q, q ≠ o → F' q = F q) (ht : (tysW cy)[t0]? = some (cy t0, .object C.1)) (hq : qk < n) (hv : cellR cy b qk (F qk) (M qk) = .inr (ci, vs)) (hc : vwCl[ci]? = some C) (hk : k < N) (hN : N < 2 ^ 31) (hdg : decode cc pc = .ok (.aastore, 1))
    (kk : ∀ (H1 : Heap) (locs1 : List Loc), va_P D vwCl (wL cy b F' M n) H1 → va_S (fr b) H0 H1 locs1 → W p l e R s m args below meth c H1 locs1 cells slots Q (F0 m (pc + 1) ls rest)) : W p l e R s m args below meth c H locs cells slots Q (F0 m pc ls (.ref (b + qk) :: .int (nI k) :: .ref (b + o) :: rest)) := by
  refine va_astq hexec hb hK hP wL_D hS o t0 qk ci (by rw [wL_get ho, he]) ht (by rw [wL_get hq, hv]) hc (vp_in_nI hk hN) hdg (fun H1 locs1 hP1 _ hS1 => kk H1 locs1 ?_ hS1)
  rw [nI_clamp (by omega), wL_set (F' := F') (M' := M) he' hF (fun _ _ => rfl)] at hP1
  exact hP1
/-- a final reference of the object that is being made -/
theorem xpF (hexec : p.tables.exec = Jvm.exec) (hb : c.code = cc) {own ref C : String} {T : u_T} {N ci index : Nat} {Ts : List Cond} (hts : ∀ w ∈ Ts, w.before args s = true) (hin : ∀ w ∈ u_ws C T N, w ∈ Ts) (ty0 : Nat → FieldType) (hty : ∀ k, k < N → parseFieldDescriptor (T k).2.2.1 = some (ty0 k)) (hnm : ∀ a, a < N → ∀ b, b < N → a ≠ b → (T a).2.1 ≠ (T b).2.1) (hown : s.vm.findClass own = some m.cls) (hK : va_K D vwCl (tysW cy) s) (hP : va_P D vwCl (wL cy b F M n) H) (hS : va_S (fr b) H0 H locs) {o : Nat} (ho : o < n) {fs : (Nat → Bool) → List Value} (he : ∀ f, cellR cy b o f (M o) = .inr (ci, fs f)) (hc : vwCl[ci]? = some (C, T, N)) (k : Nat) (hk : k < N) {v : Value} (hset : (fs (F o)).set k v = fs (fun j => if j = k then true else F o j)) (hlink : (Cond.fieldLink own index ref (T k).2.1 (T k).2.2.1).before args s = true) (hsame : ∀ x, s.fieldFound? (T k).1 (T k).2.1 (T k).2.2.1 = some x → s.fieldFound? ref (T k).2.1 (T k).2.2.1 = some x) (hfin : (T k).2.2.2 = true) (hin2 : meth.name = "<init>") (hdecl : (T k).1 = own) {ty : FieldType} (hd : parseFieldDescriptor (T k).2.2.1 = some ty) (hn : narrow ty v = v) (hfit : fits ty v = true) (hl : k < (fs (F o)).length)
    (hdg : decode cc pc = .ok (.putfield index, 3)) (kk : ∀ (H1 : Heap) (locs1 : List Loc), va_P D vwCl (wL cy b (fU F o k) M n) H1 → va_S (fr b) H0 H1 locs1 → W p l e R s m args below meth c H1 locs1 cells slots Q (F0 m (pc + 3) ls rest)) : W p l e R s m args below meth c H locs cells slots Q (F0 m pc ls (v :: .ref (b + o) :: rest)) :=
  va_putF hexec hb hts hin ty0 hty hnm hown hK hP (wL_D (cy := cy) (b := b) (F := F) (M := M) (n := n)) hS o (by rw [wL_get ho, he]) hc k hk hlink hsame hfin hin2 hdecl hd hn hfit hl hdg (fun H1 locs1 hP1 _ hS1 => kk H1 locs1 (by rw [wL_set (F' := fU F o k) (M' := M) (by rw [fU_at, he, hset]) (fun q hq => fU_ne F k hq) (fun _ _ => rfl)] at hP1; exact hP1) hS1)
/-- behind a constructor -/
theorem xcz {n0 n1 mc ms : Nat} {F1 : Fla} {M1 : Mem} {a : Array Value} (hr : va_Run p l e R s m args below meth c H locs cells slots mc ms (F0 m pc ls st0) rest (CQv D cy b n1 F1 M1 a) (fr b)) (hS : va_S (fr b) H0 H locs) (hs0 : s.heap.size = b + n0) (hn : n0 + (cells + mc) = n1) (h0 : 0 < n1)
    (kk : ∀ (H1 : Heap) (locs1 : List Loc), va_P D vwCl (wL cy b F1 M1 n1) H1 → va_S (fr b) H0 H1 locs1 → H1.size = b + n1 → W p l e R s m args below meth c H1 locs1 (cells + mc) (slots + ms) Q (F0 m (pc + 3) ls rest)) : W p l e R s m args below meth c H locs cells slots Q (F0 m pc ls st0) :=
  xc_v hr hS (fun H1 locs1 hP hS1 => xsz hP hs0 hn h0 (fun hz => kk H1 locs1 hP hS1 hz))
/-- the end: another name of the world -/
theorem xev {F1 : Fla} {M1 : Mem} {n1 : Nat} (hexec : p.tables.exec = Jvm.exec) (hb : c.code = cc) (hr : meth.sig.returnType = none) (hlocks : meth.locks = false) {mc ms : Nat} (hP : va_P D vwCl (wL cy b F M n) H) (hS : va_S (fr b) s.heap H locs) (hw : wL cy b F M n = wL cy b F1 M1 n1) (h1 : cells = mc) (h2 : slots ≤ ms) (hdg : decode cc pc = .ok (.return_, 1)) : W p l e R s m args below meth c H locs cells slots (MQ below (CQv D cy b n1 F1 M1) args s mc ms (fr b)) (F0 m pc ls []) := by
  refine W.widen (Nat.le_of_eq h1) h2 ?_
  exact W.vret hexec hb hr (fun t ht hW => ⟨⟨(), rfl, trivial, by show va_P _ _ _ t.heap; rw [ht, ← hw]; exact hP⟩, hS.F ht⟩) hS.2.2 hdg hlocks
end XZ

