/-! helpers of the builder: numbers, worlds in another order -/
def jcap (q m : Nat) : Nat := m + max (q - m) (m + 2)
theorem jcap_le {q m : Nat} (h : m < q) (hq : q ≤ 74) : jcap q m ≤ 148 := by unfold jcap; omega
theorem jcap_gt {q m : Nat} (h : m < q) : m < jcap q m := by unfold jcap; omega
theorem jcap_ge {q m : Nat} : q ≤ jcap q m := by unfold jcap; omega
theorem nI_nq {a b : Nat} (h : a ≠ b) (ha : a < 2 ^ 31) (hb : b < 2 ^ 31) : ¬ nI a = nI b := fun e => by
  have := congrArg Int32.toInt e
  rw [nI_toInt ha, nI_toInt hb] at this
  omega
theorem nI_subz {a b : Nat} (ha : a < 2 ^ 30) (hb : b < 2 ^ 30) : (nI a - nI b ≤ 0) ↔ a ≤ b := by
  rw [Int32.le_iff_toInt_le, pk_sub_toInt (by omega) (by omega), Int32.toInt_zero]
  omega
theorem xmax_nI {a b : Nat} (ha : a < 2 ^ 31) (hb : b < 2 ^ 31) : xmax (nI a) (nI b) = nI (max a b) := by
  unfold xmax
  by_cases h : a < b
  · rw [if_pos (nI_lt h hb), Nat.max_eq_right (Nat.le_of_lt h)]
  · rw [if_neg (nI_nlt (by omega) ha), Nat.max_eq_left (by omega)]
theorem xmin_nI {a b : Nat} (ha : a < b) (hb : b < 2 ^ 31) : xmin (nI a) (nI b) = nI a := by
  unfold xmin
  rw [if_neg (nI_nlt (by omega) hb)]
theorem jof {D : va_G} {cl : List vw_C} {A : Nat → Prop} {ws ws' : va_W} {H : Heap} (hP : va_P D cl ws H) (hD : va_D A ws) (hs : ∀ q ∈ ws', q ∈ ws) (hn : (ws.map (fun q => q.1)).Nodup → (ws'.map (fun q => q.1)).Nodup) : va_P D cl ws' H ∧ va_D A ws' := ⟨hP.of hs, hD.of hs (hn hD.nd)⟩
theorem jswap {D : va_G} {cl : List vw_C} {A : Nat → Prop} {x y : Nat × va_E} {w : va_W} {H : Heap} (hP : va_P D cl (x :: y :: w) H) (hD : va_D A (x :: y :: w)) : va_P D cl (y :: x :: w) H ∧ va_D A (y :: x :: w) :=
  jof hP hD (fun q hq => by grind) (fun h => by grind)
theorem jdrop1 {D : va_G} {cl : List vw_C} {A : Nat → Prop} {x : Nat × va_E} {w : va_W} {H : Heap} (hP : va_P D cl (x :: w) H) (hD : va_D A (x :: w)) : va_P D cl w H ∧ va_D A w :=
  jof hP hD (fun q hq => by grind) (fun h => by grind)
theorem jens {D : va_G} {cl : List vw_C} {A : Nat → Prop} {x y z : Nat × va_E} {w : va_W} {H : Heap} (hP : va_P D cl (x :: y :: z :: w) H) (hD : va_D A (x :: y :: z :: w)) : va_P D cl (z :: x :: w) H ∧ va_D A (z :: x :: w) :=
  jof hP hD (fun q hq => by grind) (fun h => by grind)
theorem jrot {D : va_G} {cl : List vw_C} {A : Nat → Prop} {x y z : Nat × va_E} {w : va_W} {H : Heap} (hP : va_P D cl (x :: y :: z :: w) H) (hD : va_D A (x :: y :: z :: w)) : va_P D cl (y :: z :: x :: w) H ∧ va_D A (y :: z :: x :: w) :=
  jof hP hD (fun q hq => by grind) (fun h => by grind)
theorem jrot3 {D : va_G} {cl : List vw_C} {A : Nat → Prop} {x y z : Nat × va_E} {w : va_W} {H : Heap} (hP : va_P D cl (x :: y :: z :: w) H) (hD : va_D A (x :: y :: z :: w)) : va_P D cl (z :: x :: y :: w) H ∧ va_D A (z :: x :: y :: w) :=
  jof hP hD (fun q hq => by grind) (fun h => by grind)
/-- a builder that holds this row of bytes -/
def JB (L : List Int32) (u : Nat × Nat × (Nat → Int32)) : Prop := u.2.1 ≤ 148 ∧ L.length ≤ u.2.1 ∧ JF u.2.2 ∧ JL u.2.2 L
abbrev jW (cy : Nat → ClassId) (sb : Nat) (L : List Int32) (tl : va_W) (u : Nat × Nat × (Nat → Int32)) : va_W := (sb, jE0 u.1 (nI L.length)) :: (u.1, jE1 cy u.2.1 u.2.2) :: tl
/-- the digits of a number up to 100 -/
def dig (v : Nat) : List Int32 := if v < 10 then [nI (48 + v)] else if v < 100 then [nI (48 + v / 10), nI (48 + v % 10)] else [49, 48, 48]
theorem dig1 {v : Nat} (h : v < 10) : dig v = [nI (48 + v)] := if_pos h
theorem dig2 {v : Nat} (h : ¬ v < 10) (h2 : v < 100) : dig v = [nI (48 + v / 10), nI (48 + v % 10)] := by unfold dig; rw [if_neg h, if_pos h2]
theorem dig3 {v : Nat} (h : ¬ v < 100) : dig v = [49, 48, 48] := by unfold dig; rw [if_neg (by omega), if_neg h]
theorem dig_len {v : Nat} : 1 ≤ (dig v).length ∧ (dig v).length ≤ 3 := by unfold dig; split <;> (try split) <;> simp
theorem neg_nI {v : Nat} (h : v ≤ 100) : (-(nI v)).toInt = -(v : Int) := by
  have : ∀ v, v < 101 → (-(nI v)).toInt = -(v : Int) := by decide +kernel
  exact this v (by omega)
theorem negneg {v : Nat} : -(-(nI v)) = nI v := Int32.neg_neg
/-- behind the first bytes: put, copied -/
theorem JL_put {f : Nat → Int32} {L : List Int32} (h : JL f L) (x : Int32) : JL (upd f L.length x) (L ++ [x]) := by
  refine h.app (fun j hj => ?_) (fun j hj => ?_)
  · unfold upd
    rw [if_neg (by omega)]
  · have : j = 0 := by simpa using hj
    subst this
    unfold upd
    simp
theorem JL_cpy {f g : Nat → Int32} {L X : List Int32} (h : JL g L) (hf : ∀ j, j < X.length → f j = X.getD j 0) : JL (va_cpy f g 0 L.length X.length) (L ++ X) := by
  refine h.app (fun j hj => ?_) (fun j hj => ?_)
  · unfold va_cpy
    rw [if_neg (by omega)]
  · unfold va_cpy
    rw [if_pos (by omega), ← hf j hj]
    congr 1
    omega
theorem JL.eqv {f g : Nat → Int32} {L : List Int32} (h : JL f L) (hg : ∀ j, j < L.length → g j = f j) : JL g L := fun j hj => (hg j hj).trans (h j hj)
theorem jid {D : va_G} {cl : List vw_C} {A : Nat → Prop} {w : va_W} {H : Heap} (hP : va_P D cl w H) (hD : va_D A w) : va_P D cl w H ∧ va_D A w := ⟨hP, hD⟩
theorem negle {v : Nat} (h : v ≤ 100) : ((-(nI v)) ≤ -10 ↔ 10 ≤ v) ∧ ((-(nI v)) ≤ -100 ↔ 100 ≤ v) ∧ ¬ (-(nI v)) ≤ -1000 ∧ (-(nI v) > -100 ↔ v < 100) ∧ (-(nI v) ≥ -9 ↔ v < 10) := by
  have : ∀ v, v < 101 → ((-(nI v)) ≤ -10 ↔ 10 ≤ v) ∧ ((-(nI v)) ≤ -100 ↔ 100 ≤ v) ∧ ¬ (-(nI v)) ≤ -1000 ∧ (-(nI v) > -100 ↔ v < 100) ∧ (-(nI v) ≥ -9 ↔ v < 10) := by decide +kernel
  exact this v (by omega)
theorem nI_dec1 (k : Nat) : nI (k + 1) + Int32.ofInt (-1) = nI k := by
  rw [nI_succ, show Int32.ofInt (-1) = -1 from by decide, Int32.add_assoc, show (1 : Int32) + -1 = 0 from by decide, Int32.add_zero]
theorem nar_dgO {v : Nat} (h : v < 101) : vp_nar .byte (dgO v) = dgO v ∧ fits .byte (.int (dgO v)) = true := by
  have : ∀ v, v < 101 → vp_nar .byte (dgO v) = dgO v ∧ fits .byte (.int (dgO v)) = true := by decide +kernel
  exact this v h
theorem nar_dgT {v : Nat} (h : v < 101) : vp_nar .byte (dgT v) = dgT v ∧ fits .byte (.int (dgT v)) = true := by
  have : ∀ v, v < 101 → vp_nar .byte (dgT v) = dgT v ∧ fits .byte (.int (dgT v)) = true := by decide +kernel
  exact this v h
theorem JF_put {f : Nat → Int32} (h : JF f) (k : Nat) {x : Int32} (hx : fits .byte (.int x) = true) : JF (upd f k x) := by
  intro j
  unfold upd
  split
  · exact hx
  · exact h j
theorem JL_2 {f : Nat → Int32} {L : List Int32} (h : JL f L) (x y : Int32) : JL (upd (upd f (L.length + 1) y) L.length x) (L ++ [x, y]) := by
  refine h.app (fun j hj => ?_) (fun j hj => ?_)
  · unfold upd
    rw [if_neg (by omega), if_neg (by omega)]
  · have : j = 0 ∨ j = 1 := by simp at hj; omega
    rcases this with rfl | rfl
    · unfold upd; simp
    · unfold upd; simp
theorem JL_3 {f : Nat → Int32} {L : List Int32} (h : JL f L) (x y z : Int32) : JL (upd (upd (upd f (L.length + 2) z) (L.length + 1) y) L.length x) (L ++ [x, y, z]) := by
  refine h.app (fun j hj => ?_) (fun j hj => ?_)
  · unfold upd
    rw [if_neg (by omega), if_neg (by omega), if_neg (by omega)]
  · have : j = 0 ∨ j = 1 ∨ j = 2 := by simp at hj; omega
    rcases this with rfl | rfl | rfl
    · unfold upd; simp
    · unfold upd; simp
    · unfold upd; simp
theorem jfits {cA : ClassId} {n : Nat} {f : Nat → Int32} (hf : JF f) (i : Nat) (v : Value) (h : (vp_cell cA (n, .inl f)).slots[i]? = some v) : fits .byte v = true := by
  rw [vp_cell_i] at h
  obtain ⟨hlt, he⟩ := Array.getElem?_eq_some_iff.mp h
  unfold arrV at he
  rw [← he]
  have hlt' : i < n := by simpa [arrV] using hlt
  show fits .byte ((Array.ofFn (n := n) fun j => Value.int (f ↑j))[i]'(by simpa using hlt')) = true
  rw [Array.getElem_ofFn]
  exact hf i
theorem xmin_nI' {a b : Nat} (h : b ≤ a) (ha : a < 2 ^ 31) : xmin (nI a) (nI b) = nI b := by
  unfold xmin
  by_cases hb : b < a
  · rw [if_pos (nI_lt hb ha)]
  · rw [show a = b by omega, if_neg (nI_nlt (Nat.le_refl b) (by omega))]
abbrev JQe (D : va_G) (A : Nat → Prop) {S : Type} (P : S → Prop) (ws : S → va_W) (r : Int32) : Array Value → State → Outcome → State → Prop := va_Qi (fun x u => x = r ∧ P u) (fun u t => va_P D vwCl (ws u) t.heap ∧ va_D A (ws u)) A
section XJ2
variable {p : Program} {l : Launch} {e : Env} {R : Room} {s : State} {m : MethodId} {args : Array Value} {below : List Frame} {meth : Method} {c : Code} {H : Heap} {locs : List Loc} {cells slots : Nat} {Q : State → Prop}
variable {cc : ByteArray} {pc : Nat} {ls : Array Slot} {rest st0 : List Value} {D : va_G} {cy : Nat → ClassId} {A : Nat → Prop} {ws : va_W} {H0 : Heap}
theorem xj_e {mc ms : Nat} {S : Type} {P : S → Prop} {ws1 : S → va_W} {r : Int32} {a : Array Value} (hr : va_Run p l e R s m args below meth c H locs cells slots mc ms (F0 m pc ls st0) rest (JQe D A P ws1 r a) A) (hS : va_S A H0 H locs)
    (kk : ∀ (u : S) (H1 : Heap) (locs1 : List Loc), P u → va_P D vwCl (ws1 u) H1 → va_D A (ws1 u) → va_S A H0 H1 locs1 → W p l e R s m args below meth c H1 locs1 (cells + mc) (slots + ms) Q (F0 m (pc + 3) ls (.int r :: rest))) : W p l e R s m args below meth c H locs cells slots Q (F0 m pc ls st0) :=
  va_calli hr hS (fun _ _ h => h) (fun _ h => h) (fun x u t H1 locs1 ht _ hp hB _ _ hS1 => by
    rw [show x = r from hp.1]
    exact kk u H1 locs1 hp.2 (by rw [← ht]; exact hB.1) hB.2 hS1)
theorem je_e (hexec : p.tables.exec = Jvm.exec) (hb : c.code = cc) {ty : FieldType} (hr : meth.sig.returnType = some ty) (hlocks : meth.locks = false) {mc ms : Nat} {S : Type} {P : S → Prop} {ws1 : S → va_W} {v r : Int32} (u : S) (hu : P u) (hP : va_P D vwCl ws H) (hD : va_D A ws) (hS : va_S A s.heap H locs) (hw : ws = ws1 u) (hv : v = r) (hn : narrow ty (.int v) = .int v) (h1 : cells ≤ mc) (h2 : slots ≤ ms) (hdg : decode cc pc = .ok (.ireturn, 1)) : W p l e R s m args below meth c H locs cells slots (MQ below (JQe D A P ws1 r) args s mc ms A) (F0 m pc ls [.int v]) := by
  subst hw; subst hv
  refine W.widen h1 h2 ?_
  exact W.zret hexec hb hr hn (fun t ht hW => ⟨⟨v, u, rfl, ⟨rfl, hu⟩, by show va_P _ _ _ t.heap; rw [ht]; exact hP, hD⟩, hS.F ht⟩) hS.2.2 hdg hlocks
/-- a new object behind the world -/
theorem xj_new (hexec : p.tables.exec = Jvm.exec) (hb : c.code = cc) {own C : String} {T : u_T} {N ci index : Nat} {Ts : List Cond} (hts : ∀ w ∈ Ts, w.before args s = true) (hin : ∀ w ∈ u_ws C T N, w ∈ Ts) (ty : Nat → FieldType) (hty : ∀ k, k < N → parseFieldDescriptor (T k).2.2.1 = some (ty k)) (hown : s.vm.findClass own = some m.cls) (hcl : (Cond.classLink own index C).before args s = true) (hinst : (Cond.instantiable C N).before args s = true) (hini : (Cond.initialized C).before args s = true)
    (hK : va_K D vwCl (tysW cy) s) (hP : va_P D vwCl ws H) (hD : va_D A ws) (hS : va_S A s.heap H locs) (hX : SJ A s) (hc : vwCl[ci]? = some (C, T, N)) {fs : List Value} (hfs : ∀ j, j < N → defaultValue (ty j) = vp_V fs j) (hcells : cells + 1 ≤ R.cells) (hslots : slots + N ≤ R.slots) (hdg : decode cc pc = .ok (.new index, 3))
    (kk : ∀ (q : Nat) (H1 : Heap), s.heap.size ≤ q → va_P D vwCl ((q, .inr (ci, fs)) :: ws) H1 → va_D A ((q, .inr (ci, fs)) :: ws) → va_S A s.heap H1 locs → W p l e R s m args below meth c H1 locs (cells + 1) (slots + N) Q (F0 m (pc + 3) ls (.ref q :: rest))) : W p l e R s m args below meth c H locs cells slots Q (F0 m pc ls rest) := by
  have hKn := hK.1 ci _ hc
  refine W.newcK hexec hb hown hcl hinst hini rfl hdg hcells hslots hKn.2.1 rfl fun H1 kC hkC e1 z1 o1 => ?_
  have hk : ∀ (k : Nat) (x : Nat × va_E), ws[k]? = some x → H1[x.1]? = H[x.1]? := fun k x hx => o1 x.1 ((hP k x hx).lt)
  have hP1 : va_P D vwCl (ws ++ [(H.size, .inr (ci, fs))]) H1 := (hP.kept hk).app (fun k x hx => by
    have hz : k < 1 := (List.getElem?_eq_some_iff.mp hx).1
    rw [show k = 0 by omega] at hx
    cases hx
    exact ⟨_, hc, (u_born ty hts hin hKn hkC e1 hty).to hfs⟩)
  obtain ⟨hP2, hD2⟩ := jtop ⟨hP1, hD.push (a := H.size) (e := .inr (ci, fs)) hP rfl (hX.2.2.2.2.2 _ hS.1)⟩
  exact kk H.size H1 hS.1 hP2 hD2 ⟨Nat.le_trans hS.1 (by omega), fun x h1 h2 => (o1 x (Nat.lt_of_lt_of_le h1 hS.1)).trans (hS.2.1 x h1 h2), hS.2.2⟩
end XJ2
theorem JF_cpyX {f g : Nat → Int32} {n : Nat} (hg : ∀ j, j < n → fits .byte (.int (g j)) = true) (hf : JF f) (k : Nat) : JF (va_cpy g f 0 k n) := by
  intro j
  unfold va_cpy
  split
  · exact hg _ (by omega)
  · exact hf j
theorem jfin {D : va_G} {cl : List vw_C} {A : Nat → Prop} {x y z t : Nat × va_E} {w : va_W} {H : Heap} (hP : va_P D cl (x :: y :: z :: t :: w) H) (hD : va_D A (x :: y :: z :: t :: w)) : va_P D cl (t :: x :: w) H ∧ va_D A (t :: x :: w) :=
  jof hP hD (fun q hq => by grind) (fun h => by grind)
