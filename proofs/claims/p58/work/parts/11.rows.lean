/-! rows over the picture -/
def fpV (j : Nat) : Int32 := match j with
  | 0 => 33
  | 1 => 43
  | 2 => 75
  | _ => 97
/-- the texts of the messages, by their places -/
def msgL : List (Nat × String) := [(88, "the input buffer is full"), (98, "the input buffer has no such length"), (109, "the text has an error"), (145, "no such salt"), (225, "the minutes are out of range"), (248, "the minute number would be too great"), (253, "the humidity is out of range"), (255, "the temperature is out of range"), (257, "the skill is out of range"), (263, "the instrument is in a box"), (265, "the instrument is outside"), (267, "the instrument cannot be calibrated"), (269, "the instrument has no hairs"), (274, "the instrument is a hair hygrometer"), (276, "the hairs are out of range"), (278, "the instrument cannot get so many hairs"), (283, "no such slot"), (289, "nothing is saved in the slot"), (294, "there is no change to undo"), (320, "no such instrument")]
/-- the words of a description, by their places -/
def wrdK : List Nat := [54, 67, 72, 77, 87, 92, 97, 102, 107]
def wrdT : List String := ["room", "hair", "bulb", "box", "out", "tighten", "moisten", "humidity", "minutes"]
def wrdN : List Nat := [4, 4, 4, 3, 3, 7, 7, 8, 7]
def wrdB : List (List Int32) := [[114, 111, 111, 109], [104, 97, 105, 114], [98, 117, 108, 98], [98, 111, 120], [111, 117, 116], [116, 105, 103, 104, 116, 101, 110], [109, 111, 105, 115, 116, 101, 110], [104, 117, 109, 105, 100, 105, 116, 121], [109, 105, 110, 117, 116, 101, 115]]
/-- calls between nest mates -/
def nstL : List (String × Nat × MethodName) := [(RX7, 18, yX3_init), (RX7, 39, yX2_init), (RX7, 46, yX1_init), (RX1, 57, yX7_quotient), (RX3, 11, yX6_init), (RX4, 17, yX1_init), (RX4, 71, yX7_fixedPointOr), (RX4, 90, yX7_quotient), (RX5, 22, yX7_isSlot)]
/-- the exceptions -/
def excL : List String := ["java/lang/IndexOutOfBoundsException", "java/lang/IllegalArgumentException", "java/lang/IllegalStateException"]
def ncaL : List (String × String) := [("java/lang/IllegalArgumentException", "java/lang/IndexOutOfBoundsException"), ("java/lang/IllegalStateException", "java/lang/IndexOutOfBoundsException"), ("java/lang/IllegalStateException", "java/lang/IllegalArgumentException")]
def dclL : List MethodName := [⟨"java/lang/RuntimeException", "<init>", "(Ljava/lang/String;)V"⟩, ⟨"java/lang/Exception", "<init>", "(Ljava/lang/String;)V"⟩, ⟨"java/lang/Throwable", "<init>", "(Ljava/lang/String;)V"⟩]
/-- what lies below the base and never changes: the fixed points, what a throw wants, the texts, the links between nest mates -/
def SX (b : Nat) (U : State) : Prop := (∃ t, va_Z "HygrometerRoom" "FIXED_POINTS" "[I" (.ref t) (fun q => b ≤ q) U U.heap ∧ va_T .int t 4 (fun j => .int (fpV j)) (fun q => b ≤ q) U U.heap) ∧ vx_Zq Bundle.tN "UNASSIGNED_STACK" Bundle.steD (fun q => b ≤ q) U U.heap ∧ vx_Zq Bundle.tN "SUPPRESSED_SENTINEL" Bundle.listD (fun q => b ≤ q) U U.heap ∧ (∀ q ∈ msgL, ∃ sa, vk_R RX7 q.1 q.2 sa U) ∧ (∃ adK adV : Nat → Nat, vk_S 9 wrdN wrdB adK adV (fun q => b ≤ q) U U.heap ∧ ∀ i, i < 9 → vk_R RX3 (wrdK.getD i 0) (wrdT.getD i "") (adK i) U) ∧ (∀ q ∈ nstL, va_Nw (.methodLinkNest q.1 q.2.1 q.2.2 RX7) U) ∧ va_Z "java/lang/String" "COMPACT_STRINGS" "Z" (.int 1) (fun q => b ≤ q) U U.heap ∧ (∀ X ∈ excL, va_Nw (.castable X X) U) ∧ (∀ q ∈ ncaL, va_Nc q.1 q.2 U) ∧ va_Zq "jdk/internal/util/Preconditions" "SIOOBE_FORMATTER" "Ljava/util/function/BiFunction;" (fun q => b ≤ q) U U.heap ∧ va_Nw (.fieldLinkNest RX3 127 "HygrometerRoom" "FIXED_POINTS" "[I" RX7) U ∧ (∀ y ∈ dclL, va_Nw (.declares y) U)
/-- the string at a is the w-th word of a description -/
def ST (b w a : Nat) (U : State) : Prop := ∃ av, va_O "java/lang/String" a (fun q => b ≤ q) U U.heap ∧ va_OF "java/lang/String" "coder" "B" (.int 0) a (fun q => b ≤ q) U U.heap ∧ va_OF "java/lang/String" "value" "[B" (.ref av) a (fun q => b ≤ q) U U.heap ∧ va_T .byte av (wrdN.getD w 0) (fun j => .int ((wrdB.getD w []).getD j 0)) (fun q => b ≤ q) U U.heap
/-- a method's world: the picture, the classes, what never changes -/
abbrev CP (D : va_G) (cy : Nat → ClassId) (b n : Nat) (F : Fla) (M : Mem) (av : List Value) : Array Value → State → Prop := va_Pc av (fun U => va_P D vwCl (wL cy b F M n) U.heap ∧ va_K D vwCl (tysW cy) U ∧ SX b U)
abbrev CPs (D : va_G) (cy : Nat → ClassId) (b n : Nat) (F : Fla) (M : Mem) (w a : Nat) (av : List Value) : Array Value → State → Prop := va_Pc av (fun U => va_P D vwCl (wL cy b F M n) U.heap ∧ va_K D vwCl (tysW cy) U ∧ SX b U ∧ ST b w a U)
abbrev CQi (D : va_G) (cy : Nat → ClassId) (b n : Nat) (F : Fla) (r : Int32) (M : Mem) : Array Value → State → Outcome → State → Prop := va_Qi (fun x (_ : Unit) => x = r) (fun _ t => va_P D vwCl (wL cy b F M n) t.heap) (fun q => b ≤ q)
abbrev CQv (D : va_G) (cy : Nat → ClassId) (b n : Nat) (F : Fla) (M : Mem) : Array Value → State → Outcome → State → Prop := va_Qv (fun (_ : Unit) => True) (fun _ t => va_P D vwCl (wL cy b F M n) t.heap) (fun q => b ≤ q)
abbrev CQq (D : va_G) (cy : Nat → ClassId) (b n : Nat) (F : Fla) (r : Option Nat) (M : Mem) : Array Value → State → Outcome → State → Prop := va_Qq (fun x (_ : Unit) => x = r) (fun _ t => va_P D vwCl (wL cy b F M n) t.heap) (fun q => b ≤ q)
abbrev fr (b : Nat) : Addr → Prop := fun q => b ≤ q
theorem SX.moved {b : Nat} {s U : State} {H : Heap} {locs : List Loc} (h : SX b s) (hH : U.heap = H) (hS : va_S (fr b) s.heap H locs) (hW : s.WarmedH U.vm) : SX b U := by
  obtain ⟨⟨t, h1, h2⟩, h3, h4, h5, ⟨adK, adV, h6, h7⟩, h8, h9, h10, h11, h12, h13, h14⟩ := h
  have hk : ∀ a : Nat, a < s.heap.size → ¬ b ≤ a → U.heap[a]? = s.heap[a]? := by rw [hH]; exact hS.2.1
  refine ⟨⟨t, (h1.kept hk).moved hW.alike, (h2.kept hk).moved hW.alike⟩, (h3.kept hk).moved hW.alike, (h4.kept hk).moved hW.alike, fun q hq => ?_, ⟨adK, adV, (h6.kept hk).moved hW.alike, fun i hi => (h7 i hi).warm hW⟩, fun q hq => va_Nw.warmM hW (h8 q hq), (h9.kept hk).moved hW.alike, fun X hX => va_Nw.warmC hW (h10 X hX), fun q hq => (h11 q hq).moved hW.alike, (h12.kept hk).moved hW.alike, va_Nw.warmF hW h13, fun y hy => va_Nw.warmD hW (h14 y hy)⟩
  obtain ⟨sa, hsa⟩ := h5 q hq
  exact ⟨sa, hsa.warm hW⟩
theorem SX.calling {b : Nat} {U : State} {g : JFrame} {mk : MethodId} {a : Array Value} (h : SX b U) : SX b (U.calling g mk a) := by
  obtain ⟨⟨t, h1, h2⟩, h3, h4, h5, ⟨adK, adV, h6, h7⟩, h8, h9, h10, h11, h12, h13, h14⟩ := h
  refine ⟨⟨t, h1.moved (u := U) (U := U.calling g mk a) (Vm.Alike.refl U.vm), h2.moved (u := U) (U := U.calling g mk a) (Vm.Alike.refl U.vm)⟩, h3.moved (u := U) (U := U.calling g mk a) (Vm.Alike.refl U.vm), h4.moved (u := U) (U := U.calling g mk a) (Vm.Alike.refl U.vm), fun q hq => ?_, ⟨adK, adV, h6.moved (u := U) (U := U.calling g mk a) (Vm.Alike.refl U.vm), fun i hi => (h7 i hi).same rfl⟩, fun q hq => va_Nw.same rfl (u := U) (U := U.calling g mk a) rfl (h8 q hq), h9.moved (u := U) (U := U.calling g mk a) (Vm.Alike.refl U.vm), fun X hX => va_Nw.same rfl (u := U) (U := U.calling g mk a) rfl (h10 X hX), fun q hq => (h11 q hq).moved (u := U) (U := U.calling g mk a) (Vm.Alike.refl U.vm), h12.moved (u := U) (U := U.calling g mk a) (Vm.Alike.refl U.vm), va_Nw.same rfl (u := U) (U := U.calling g mk a) rfl h13, fun y hy => va_Nw.same rfl (u := U) (U := U.calling g mk a) rfl (h14 y hy)⟩
  obtain ⟨sa, hsa⟩ := h5 q hq
  exact ⟨sa, hsa.same rfl⟩
theorem ST.moved {b w a : Nat} {s U : State} {H : Heap} {locs : List Loc} (h : ST b w a s) (hH : U.heap = H) (hS : va_S (fr b) s.heap H locs) (hW : s.WarmedH U.vm) : ST b w a U := by
  obtain ⟨av, h1, h2, h3, h4⟩ := h
  have hk : ∀ a : Nat, a < s.heap.size → ¬ b ≤ a → U.heap[a]? = s.heap[a]? := by rw [hH]; exact hS.2.1
  exact ⟨av, (h1.kept hk).moved hW.alike, (h2.kept hk).moved hW.alike, (h3.kept hk).moved hW.alike, (h4.kept hk).moved hW.alike⟩
theorem ST.calling {b w a0 : Nat} {U : State} {g : JFrame} {mk : MethodId} {a : Array Value} (h : ST b w a0 U) : ST b w a0 (U.calling g mk a) := by
  obtain ⟨av, h1, h2, h3, h4⟩ := h
  exact ⟨av, h1.moved (u := U) (U := U.calling g mk a) (Vm.Alike.refl U.vm), h2.moved (u := U) (U := U.calling g mk a) (Vm.Alike.refl U.vm), h3.moved (u := U) (U := U.calling g mk a) (Vm.Alike.refl U.vm), h4.moved (u := U) (U := U.calling g mk a) (Vm.Alike.refl U.vm)⟩
theorem xBlindS {D : va_G} {cy : Nat → ClassId} {b n w a0 : Nat} {F : Fla} {M : Mem} {av : List Value} : FrameBlind (CPs D cy b n F M w a0 av) := fun a U g mk q => ⟨q.1, q.2.1, va_K.moved (u := U) (U := U.calling g mk a) (Vm.Alike.refl U.vm) q.2.2.1, q.2.2.2.1.calling, q.2.2.2.2.calling⟩
theorem xBlind {D : va_G} {cy : Nat → ClassId} {b n : Nat} {F : Fla} {M : Mem} {av : List Value} : FrameBlind (CP D cy b n F M av) := fun a U g mk q => ⟨q.1, q.2.1, va_K.moved (u := U) (U := U.calling g mk a) (Vm.Alike.refl U.vm) q.2.2.1, q.2.2.2.calling⟩
section XR
variable {p : Program} {l : Launch} {e : Env} {R : Room} {s : State} {m : MethodId} {args : Array Value} {below : List Frame} {meth : Method} {c : Code} {H : Heap} {locs : List Loc} {cells slots : Nat} {Q : State → Prop}
variable {cc : ByteArray} {pc : Nat} {ls : Array Slot} {rest st0 : List Value} {D : va_G} {cy : Nat → ClassId} {b n : Nat} {F : Fla} {M : Mem} {H0 : Heap}
theorem xPreS {As : List Value} (hP : va_P D vwCl (wL cy b F M n) H) (hK : va_K D vwCl (tysW cy) s) (hX : SX b s) (hS : va_S (fr b) s.heap H locs) : PreS s H (CP D cy b n F M As) As := ⟨xBlind, fun U hU hW => ⟨rfl, by rw [hU]; exact hP, va_K.moved hW.alike hK, hX.moved hU hS hW⟩⟩
theorem xPreV {As : List Value} {o ci N : Nat} {C : String} {T : u_T} {fs : List Value} (hP : va_P D vwCl (wL cy b F M n) H) (hK : va_K D vwCl (tysW cy) s) (hX : SX b s) (hS : va_S (fr b) s.heap H locs) (ho : o < n) (hc : cellR cy b o (F o) (M o) = .inr (ci, fs)) (hq : vwCl[ci]? = some (C, T, N)) : PreV s H C (b + o) (CP D cy b n F M (.ref (b + o) :: As)) As :=
  ⟨xBlind, va_recv (q := (C, T, N)) hK hP hq (by rw [wL_get ho, hc]), fun U hU hW => ⟨rfl, by rw [hU]; exact hP, va_K.moved hW.alike hK, hX.moved hU hS hW⟩⟩
theorem xPreSS {As : List Value} {w a : Nat} (hP : va_P D vwCl (wL cy b F M n) H) (hK : va_K D vwCl (tysW cy) s) (hX : SX b s) (hT : ST b w a s) (hS : va_S (fr b) s.heap H locs) : PreS s H (CPs D cy b n F M w a As) As := ⟨xBlindS, fun U hU hW => ⟨rfl, by rw [hU]; exact hP, va_K.moved hW.alike hK, hX.moved hU hS hW, hT.moved hU hS hW⟩⟩
theorem xPreVS {As : List Value} {w a : Nat} (hP : va_P D vwCl (wL cy b F M n) H) (hK : va_K D vwCl (tysW cy) s) (hX : SX b s) (hT : ST b w a s) (hS : va_S (fr b) s.heap H locs) : PreV s H "java/lang/String" a (CPs D cy b n F M w a (.ref a :: As)) As :=
  ⟨xBlindS, by
    obtain ⟨av, h1, -⟩ := id hT
    obtain ⟨cell, g1, g2, g3, -⟩ := h1.kept hS.2.1
    exact ⟨cell, g1, g2, g3⟩, fun U hU hW => ⟨rfl, by rw [hU]; exact hP, va_K.moved hW.alike hK, hX.moved hU hS hW, hT.moved hU hS hW⟩⟩
theorem xPreVW {As : List Value} {w a o ci N : Nat} {C : String} {T : u_T} {fs : List Value} (hP : va_P D vwCl (wL cy b F M n) H) (hK : va_K D vwCl (tysW cy) s) (hX : SX b s) (hT : ST b w a s) (hS : va_S (fr b) s.heap H locs) (ho : o < n) (hc : cellR cy b o (F o) (M o) = .inr (ci, fs)) (hq : vwCl[ci]? = some (C, T, N)) : PreV s H C (b + o) (CPs D cy b n F M w a (.ref (b + o) :: As)) As :=
  ⟨xBlindS, va_recv (q := (C, T, N)) hK hP hq (by rw [wL_get ho, hc]), fun U hU hW => ⟨rfl, by rw [hU]; exact hP, va_K.moved hW.alike hK, hX.moved hU hS hW, hT.moved hU hS hW⟩⟩
/-- a field is read -/
theorem xg (hexec : p.tables.exec = Jvm.exec) (hb : c.code = cc) {own ref C : String} {T : u_T} {N ci index : Nat} {Ts : List Cond} (hts : ∀ w ∈ Ts, w.before args s = true) (hin : ∀ w ∈ u_ws C T N, w ∈ Ts) (hown : s.vm.findClass own = some m.cls) (hK : va_K D vwCl (tysW cy) s) (hP : va_P D vwCl (wL cy b F M n) H) {o : Nat} (ho : o < n) {fs : List Value} (he : cellR cy b o (F o) (M o) = .inr (ci, fs)) (hc : vwCl[ci]? = some (C, T, N)) (k : Nat) (hk : k < N) (hlink : (Cond.fieldLink own index ref (T k).2.1 (T k).2.2.1).before args s = true) (hsame : ∀ x, s.fieldFound? (T k).1 (T k).2.1 (T k).2.2.1 = some x → s.fieldFound? ref (T k).2.1 (T k).2.2.1 = some x) {v : Value} (hv : fs[k]? = some v) (hdg : decode cc pc = .ok (.getfield index, 3))
    (kk : W p l e R s m args below meth c H locs cells slots Q (F0 m (pc + 3) ls (v :: rest))) : W p l e R s m args below meth c H locs cells slots Q (F0 m pc ls (.ref (b + o) :: rest)) :=
  va_get hexec hb hts hin hown hK hP o (by rw [wL_get ho, he]) hc k hk hlink hsame hv hdg kk
/-- a field of numbers is written -/
theorem xp (hexec : p.tables.exec = Jvm.exec) (hb : c.code = cc) {own ref C : String} {T : u_T} {N ci index : Nat} {Ts : List Cond} (hts : ∀ w ∈ Ts, w.before args s = true) (hin : ∀ w ∈ u_ws C T N, w ∈ Ts) (ty0 : Nat → FieldType) (hty : ∀ k, k < N → parseFieldDescriptor (T k).2.2.1 = some (ty0 k)) (hnm : ∀ a, a < N → ∀ b, b < N → a ≠ b → (T a).2.1 ≠ (T b).2.1) (hown : s.vm.findClass own = some m.cls) (hK : va_K D vwCl (tysW cy) s) (hP : va_P D vwCl (wL cy b F M n) H) (hS : va_S (fr b) H0 H locs) {o : Nat} (ho : o < n) {fs : (Nat → Int32) → List Value} (he : ∀ m, cellR cy b o (F o) m = .inr (ci, fs m)) (hc : vwCl[ci]? = some (C, T, N)) (k : Nat) (hk : k < N) {x : Int32} (hset : (fs (M o)).set k (.int x) = fs (upd (M o) k x)) (hlink : (Cond.fieldLink own index ref (T k).2.1 (T k).2.2.1).before args s = true) (hsame : ∀ x, s.fieldFound? (T k).1 (T k).2.1 (T k).2.2.1 = some x → s.fieldFound? ref (T k).2.1 (T k).2.2.1 = some x) (hfin : (T k).2.2.2 = false) {ty : FieldType} (hd : parseFieldDescriptor (T k).2.2.1 = some ty) (hn : narrow ty (.int x) = .int x) (hfit : fits ty (.int x) = true) (hl : k < (fs (M o)).length)
    (hdg : decode cc pc = .ok (.putfield index, 3)) (kk : ∀ (H1 : Heap) (locs1 : List Loc), va_P D vwCl (wL cy b F (mU M o k x) n) H1 → va_S (fr b) H0 H1 locs1 → W p l e R s m args below meth c H1 locs1 cells slots Q (F0 m (pc + 3) ls rest)) : W p l e R s m args below meth c H locs cells slots Q (F0 m pc ls (.int x :: .ref (b + o) :: rest)) :=
  va_put hexec hb hts hin ty0 hty hnm hown hK hP (wL_D (cy := cy) (b := b) (F := F) (M := M) (n := n)) hS o (by rw [wL_get ho, he]) hc k hk hlink hsame hfin hd hn hfit hl hdg (fun H1 locs1 hP1 _ hS1 => kk H1 locs1 (by rw [wL_set (F' := F) (M' := mU M o k x) (by rw [mU_at, he, hset]) (fun p _ => rfl) (fun p hp => mU_ne M k x hp)] at hP1; exact hP1) hS1)
/-- a number of an array is read -/
theorem xil (hexec : p.tables.exec = Jvm.exec) (hb : c.code = cc) (hK : va_K D vwCl (tysW cy) s) (hP : va_P D vwCl (wL cy b F M n) H) {o : Nat} (ho : o < n) (hk : kd o = 11) {i : Int32} {j : Nat} (hin : vp_in i (lenOf o)) (hj : i.toNatClampNeg = j) (hdg : decode cc pc = .ok (.iaload, 1))
    (kk : W p l e R s m args below meth c H locs cells slots Q (F0 m (pc + 1) ls (.int (M o j) :: rest))) : W p l e R s m args below meth c H locs cells slots Q (F0 m pc ls (.int i :: .ref (b + o) :: rest)) := by
  subst hj
  exact va_iald hexec hb hK hP o 1 (by rw [wL_get ho, cell11 hk]) rfl hin hdg kk
theorem xbl (hexec : p.tables.exec = Jvm.exec) (hb : c.code = cc) (hK : va_K D vwCl (tysW cy) s) (hP : va_P D vwCl (wL cy b F M n) H) {o : Nat} (ho : o < n) (hk : kd o = 10) {i : Int32} {j : Nat} (hin : vp_in i (lenOf o)) (hj : i.toNatClampNeg = j) (hdg : decode cc pc = .ok (.baload, 1))
    (kk : W p l e R s m args below meth c H locs cells slots Q (F0 m (pc + 1) ls (.int (M o j) :: rest))) : W p l e R s m args below meth c H locs cells slots Q (F0 m pc ls (.int i :: .ref (b + o) :: rest)) := by
  subst hj
  exact va_bald hexec hb hK hP o 0 (by rw [wL_get ho, cell10 hk]) rfl hin hdg kk
theorem xzl (hexec : p.tables.exec = Jvm.exec) (hb : c.code = cc) (hK : va_K D vwCl (tysW cy) s) (hP : va_P D vwCl (wL cy b F M n) H) {o : Nat} (ho : o < n) (hk : kd o = 12) {i : Int32} {j : Nat} (hin : vp_in i (lenOf o)) (hj : i.toNatClampNeg = j) (hdg : decode cc pc = .ok (.baload, 1))
    (kk : W p l e R s m args below meth c H locs cells slots Q (F0 m (pc + 1) ls (.int (M o j) :: rest))) : W p l e R s m args below meth c H locs cells slots Q (F0 m pc ls (.int i :: .ref (b + o) :: rest)) := by
  subst hj
  exact va_zald hexec hb hK hP o 2 (by rw [wL_get ho, cell12 hk]) rfl hin hdg kk
/-- .. is written -/
theorem xis (hexec : p.tables.exec = Jvm.exec) (hb : c.code = cc) (hK : va_K D vwCl (tysW cy) s) (hP : va_P D vwCl (wL cy b F M n) H) (hS : va_S (fr b) H0 H locs) {o : Nat} (ho : o < n) (hk : kd o = 11) {i x : Int32} {j : Nat} (hin : vp_in i (lenOf o)) (hj : i.toNatClampNeg = j) (hdg : decode cc pc = .ok (.iastore, 1))
    (kk : ∀ (H1 : Heap) (locs1 : List Loc), va_P D vwCl (wL cy b F (mU M o j x) n) H1 → va_S (fr b) H0 H1 locs1 → W p l e R s m args below meth c H1 locs1 cells slots Q (F0 m (pc + 1) ls rest)) : W p l e R s m args below meth c H locs cells slots Q (F0 m pc ls (.int x :: .int i :: .ref (b + o) :: rest)) := by
  subst hj
  exact va_iast hexec hb hK hP wL_D hS o 1 (by rw [wL_get ho, cell11 hk]) rfl hin hdg (fun H1 locs1 hP1 _ hS1 => kk H1 locs1 (by rw [wL_set (F' := F) (M' := mU M o i.toNatClampNeg x) (by rw [mU_at, cell11 hk]) (fun p _ => rfl) (fun p hp => mU_ne M _ x hp)] at hP1; exact hP1) hS1)
theorem xbs (hexec : p.tables.exec = Jvm.exec) (hb : c.code = cc) (hK : va_K D vwCl (tysW cy) s) (hP : va_P D vwCl (wL cy b F M n) H) (hS : va_S (fr b) H0 H locs) {o : Nat} (ho : o < n) (hk : kd o = 10) {i x : Int32} {j : Nat} (hin : vp_in i (lenOf o)) (hj : i.toNatClampNeg = j) (hdg : decode cc pc = .ok (.bastore, 1))
    (kk : ∀ (H1 : Heap) (locs1 : List Loc), va_P D vwCl (wL cy b F (mU M o j x.toInt8.toInt32) n) H1 → va_S (fr b) H0 H1 locs1 → W p l e R s m args below meth c H1 locs1 cells slots Q (F0 m (pc + 1) ls rest)) : W p l e R s m args below meth c H locs cells slots Q (F0 m pc ls (.int x :: .int i :: .ref (b + o) :: rest)) := by
  subst hj
  exact va_bast hexec hb hK hP wL_D hS o 0 (by rw [wL_get ho, cell10 hk]) rfl hin hdg (fun H1 locs1 hP1 _ hS1 => kk H1 locs1 (by rw [vp_nar_byte, wL_set (F' := F) (M' := mU M o i.toNatClampNeg x.toInt8.toInt32) (by rw [mU_at, cell10 hk]) (fun p _ => rfl) (fun p hp => mU_ne M _ _ hp)] at hP1; exact hP1) hS1)
theorem xzs (hexec : p.tables.exec = Jvm.exec) (hb : c.code = cc) (hK : va_K D vwCl (tysW cy) s) (hP : va_P D vwCl (wL cy b F M n) H) (hS : va_S (fr b) H0 H locs) {o : Nat} (ho : o < n) (hk : kd o = 12) {i x : Int32} {j : Nat} (hin : vp_in i (lenOf o)) (hj : i.toNatClampNeg = j) (hx : vp_nar .boolean x = x) (hdg : decode cc pc = .ok (.bastore, 1))
    (kk : ∀ (H1 : Heap) (locs1 : List Loc), va_P D vwCl (wL cy b F (mU M o j x) n) H1 → va_S (fr b) H0 H1 locs1 → W p l e R s m args below meth c H1 locs1 cells slots Q (F0 m (pc + 1) ls rest)) : W p l e R s m args below meth c H locs cells slots Q (F0 m pc ls (.int x :: .int i :: .ref (b + o) :: rest)) := by
  subst hj
  exact va_zast hexec hb hK hP wL_D hS o 2 (by rw [wL_get ho, cell12 hk]) rfl hin hdg (fun H1 locs1 hP1 _ hS1 => kk H1 locs1 (by rw [hx, wL_set (F' := F) (M' := mU M o i.toNatClampNeg x) (by rw [mU_at, cell12 hk]) (fun p _ => rfl) (fun p hp => mU_ne M _ x hp)] at hP1; exact hP1) hS1)
/-- a reference of an array is read, where all are set -/
theorem xnl (hexec : p.tables.exec = Jvm.exec) (hb : c.code = cc) (hK : va_K D vwCl (tysW cy) s) (hP : va_P D vwCl (wL cy b fT M n) H) {o : Nat} (ho : o < n) (hk : kd o = 13) {i : Int32} {j : Nat} (hin : vp_in i 6) (hj : i.toNatClampNeg = j) (hdg : decode cc pc = .ok (.aaload, 1))
    (kk : W p l e R s m args below meth c H locs cells slots Q (F0 m (pc + 1) ls (.ref (b + (o + 1 + j)) :: rest))) : W p l e R s m args below meth c H locs cells slots Q (F0 m pc ls (.int i :: .ref (b + o) :: rest)) := by
  subst hj
  exact va_aldq (f := fun j => cond (fT o j) (some (b + (o + 1 + j))) none) hexec hb hK hP o 3 (by rw [wL_get ho, cell13 hk]) rfl hin hdg kk
theorem xml (hexec : p.tables.exec = Jvm.exec) (hb : c.code = cc) (hK : va_K D vwCl (tysW cy) s) (hP : va_P D vwCl (wL cy b fT M n) H) {o : Nat} (ho : o < n) (hk : kd o = 14) {i : Int32} {j v : Nat} (hin : vp_in i (lenOf o)) (hj : i.toNatClampNeg = j) (hv : rbOf o = v) (hdg : decode cc pc = .ok (.aaload, 1))
    (kk : W p l e R s m args below meth c H locs cells slots Q (F0 m (pc + 1) ls (.ref (b + (v + 8 * j)) :: rest))) : W p l e R s m args below meth c H locs cells slots Q (F0 m pc ls (.int i :: .ref (b + o) :: rest)) := by
  subst hj; subst hv
  exact va_aldq (f := fun j => cond (fT o j) (some (b + (rbOf o + 8 * j))) none) hexec hb hK hP o 4 (by rw [wL_get ho, cell14 hk]) rfl hin hdg kk
/-- an array's length -/
theorem xlen (hexec : p.tables.exec = Jvm.exec) (hb : c.code = cc) (hK : va_K D vwCl (tysW cy) s) (hP : va_P D vwCl (wL cy b F M n) H) {o : Nat} (ho : o < n) (t0 : Nat) {cA : ClassId} {x : vp_A} (hk : cellR cy b o (F o) (M o) = .inl (cA, x)) {ty : FieldType} (ht : (tysW cy)[t0]? = some (cA, ty)) {v : Int32} (hv : Int32.ofNat x.1 = v) (hdg : decode cc pc = .ok (.arraylength, 1))
    (kk : W p l e R s m args below meth c H locs cells slots Q (F0 m (pc + 1) ls (.int v :: rest))) : W p l e R s m args below meth c H locs cells slots Q (F0 m pc ls (.ref (b + o) :: rest)) :=
  va_alen hexec hb hK hP o t0 (by rw [wL_get ho, hk]) ht hv hdg kk
/-- behind a call -/
theorem xc_i {mc ms : Nat} {F1 : Fla} {r : Int32} {M1 : Mem} {a : Array Value} (hr : va_Run p l e R s m args below meth c H locs cells slots mc ms (F0 m pc ls st0) rest (CQi D cy b n F1 r M1 a) (fr b)) (hS : va_S (fr b) H0 H locs)
    (kk : ∀ (H1 : Heap) (locs1 : List Loc), va_P D vwCl (wL cy b F1 M1 n) H1 → va_S (fr b) H0 H1 locs1 → W p l e R s m args below meth c H1 locs1 (cells + mc) (slots + ms) Q (F0 m (pc + 3) ls (.int r :: rest))) : W p l e R s m args below meth c H locs cells slots Q (F0 m pc ls st0) :=
  va_calli hr hS (fun _ _ h => h) (fun _ h => h) (fun x u t H1 locs1 ht _ hp hB _ _ hS1 => by
    rw [show x = r from hp]
    exact kk H1 locs1 (by rw [← ht]; exact hB) hS1)
theorem xc_v {mc ms : Nat} {F1 : Fla} {M1 : Mem} {a : Array Value} (hr : va_Run p l e R s m args below meth c H locs cells slots mc ms (F0 m pc ls st0) rest (CQv D cy b n F1 M1 a) (fr b)) (hS : va_S (fr b) H0 H locs)
    (kk : ∀ (H1 : Heap) (locs1 : List Loc), va_P D vwCl (wL cy b F1 M1 n) H1 → va_S (fr b) H0 H1 locs1 → W p l e R s m args below meth c H1 locs1 (cells + mc) (slots + ms) Q (F0 m (pc + 3) ls rest)) : W p l e R s m args below meth c H locs cells slots Q (F0 m pc ls st0) :=
  va_callv hr hS (fun _ _ h => h) (fun _ h => h) (fun u t H1 locs1 ht _ hp hB _ _ hS1 => kk H1 locs1 (by rw [← ht]; exact hB) hS1)
theorem xc_q {mc ms : Nat} {F1 : Fla} {r : Option Nat} {M1 : Mem} {a : Array Value} (hr : va_Run p l e R s m args below meth c H locs cells slots mc ms (F0 m pc ls st0) rest (CQq D cy b n F1 r M1 a) (fr b)) (hS : va_S (fr b) H0 H locs)
    (kk : ∀ (H1 : Heap) (locs1 : List Loc), va_P D vwCl (wL cy b F1 M1 n) H1 → va_S (fr b) H0 H1 locs1 → W p l e R s m args below meth c H1 locs1 (cells + mc) (slots + ms) Q (F0 m (pc + 3) ls (va_rf r :: rest))) : W p l e R s m args below meth c H locs cells slots Q (F0 m pc ls st0) :=
  va_callq hr hS (fun _ _ h => h) (fun _ h => h) (fun x u t H1 locs1 ht _ hp hB _ _ hS1 => by
    rw [show x = r from hp]
    exact kk H1 locs1 (by rw [← ht]; exact hB) hS1)
/-- the ends -/
theorem xe_i (hexec : p.tables.exec = Jvm.exec) (hb : c.code = cc) (hr : meth.sig.returnType = some .int) (hlocks : meth.locks = false) {mc ms : Nat} {F1 : Fla} {v r : Int32} {M1 : Mem} (hP : va_P D vwCl (wL cy b F M n) H) (hS : va_S (fr b) s.heap H locs) (hf : F = F1) (hM : M = M1) (hv : v = r) (h1 : cells ≤ mc) (h2 : slots ≤ ms) (hdg : decode cc pc = .ok (.ireturn, 1)) : W p l e R s m args below meth c H locs cells slots (MQ below (CQi D cy b n F1 r M1) args s mc ms (fr b)) (F0 m pc ls [.int v]) := by
  subst hf; subst hM; subst hv
  refine W.widen h1 h2 ?_
  exact W.iret hexec hb hr (fun t ht hW => ⟨⟨v, (), rfl, rfl, by show va_P _ _ _ t.heap; rw [ht]; exact hP⟩, hS.F ht⟩) hS.2.2 hdg hlocks
theorem xe_z (hexec : p.tables.exec = Jvm.exec) (hb : c.code = cc) {ty : FieldType} (hr : meth.sig.returnType = some ty) (hlocks : meth.locks = false) {mc ms : Nat} {F1 : Fla} {v r : Int32} {M1 : Mem} (hP : va_P D vwCl (wL cy b F M n) H) (hS : va_S (fr b) s.heap H locs) (hf : F = F1) (hM : M = M1) (hv : v = r) (hn : narrow ty (.int v) = .int v) (h1 : cells ≤ mc) (h2 : slots ≤ ms) (hdg : decode cc pc = .ok (.ireturn, 1)) : W p l e R s m args below meth c H locs cells slots (MQ below (CQi D cy b n F1 r M1) args s mc ms (fr b)) (F0 m pc ls [.int v]) := by
  subst hf; subst hM; subst hv
  refine W.widen h1 h2 ?_
  exact W.zret hexec hb hr hn (fun t ht hW => ⟨⟨v, (), rfl, rfl, by show va_P _ _ _ t.heap; rw [ht]; exact hP⟩, hS.F ht⟩) hS.2.2 hdg hlocks
theorem xe_v (hexec : p.tables.exec = Jvm.exec) (hb : c.code = cc) (hr : meth.sig.returnType = none) (hlocks : meth.locks = false) {mc ms : Nat} {F1 : Fla} {M1 : Mem} (hP : va_P D vwCl (wL cy b F M n) H) (hS : va_S (fr b) s.heap H locs) (hf : F = F1) (hM : M = M1) (h1 : cells ≤ mc) (h2 : slots ≤ ms) (hdg : decode cc pc = .ok (.return_, 1)) : W p l e R s m args below meth c H locs cells slots (MQ below (CQv D cy b n F1 M1) args s mc ms (fr b)) (F0 m pc ls []) := by
  subst hf; subst hM
  refine W.widen h1 h2 ?_
  exact W.vret hexec hb hr (fun t ht hW => ⟨⟨(), rfl, trivial, by show va_P _ _ _ t.heap; rw [ht]; exact hP⟩, hS.F ht⟩) hS.2.2 hdg hlocks
theorem xe_q (hexec : p.tables.exec = Jvm.exec) (hb : c.code = cc) {nm : String} (hr : meth.sig.returnType = some (.object nm)) (hlocks : meth.locks = false) {mc ms : Nat} {F1 : Fla} {v : Value} {r : Option Nat} {M1 : Mem} (hP : va_P D vwCl (wL cy b F M n) H) (hS : va_S (fr b) s.heap H locs) (hf : F = F1) (hM : M = M1) (hv : v = va_rf r) (h1 : cells ≤ mc) (h2 : slots ≤ ms) (hdg : decode cc pc = .ok (.areturn, 1)) : W p l e R s m args below meth c H locs cells slots (MQ below (CQq D cy b n F1 r M1) args s mc ms (fr b)) (F0 m pc ls [v]) := by
  subst hf; subst hM; subst hv
  refine W.widen h1 h2 ?_
  exact W.aret hexec hb hr (Or.inl ⟨nm, rfl⟩) (va_rf_or r) (fun t ht hW => ⟨⟨r, (), rfl, rfl, by show va_P _ _ _ t.heap; rw [ht]; exact hP⟩, hS.F ht⟩) hS.2.2 hdg hlocks
end XR

