/-! between the class's picture and the builder's world -/
theorem SJ.at {A B : Nat → Prop} {s U : State} {H : Heap} {locs : List Loc} (h : SJ A s) (hH : U.heap = H) (hS : va_S A s.heap H locs) (hW : s.WarmedH U.vm) (hBA : ∀ q, B q → A q) (hB : ∀ q, H.size ≤ q → B q) : SJ B U := by
  obtain ⟨h1, ⟨t, h2, h3⟩, ⟨t', h4, h5⟩, h6, h7, h8⟩ := h.moved hH hS hW
  exact ⟨h1.narrow hBA, ⟨t, h2.narrow hBA, h3.narrow hBA⟩, ⟨t', h4.narrow hBA, h5.narrow hBA⟩, h6.narrow hBA, h7, fun q hq => hB q (by rw [← hH]; exact hq)⟩
theorem TX.nar {A B : Nat → Prop} {a : Nat} {L : List Int32} {U : State} (h : TX A a L U) (hBA : ∀ q, B q → A q) : TX B a L U := by
  obtain ⟨av, h1, h2, h3, h4⟩ := h
  exact ⟨av, h1.narrow hBA, h2.narrow hBA, h3.narrow hBA, h4.narrow hBA⟩
theorem TXs.nar {A B : Nat → Prop} {tx : List (Nat × List Int32)} {U : State} (h : TXs A tx U) (hBA : ∀ q, B q → A q) : TXs B tx U := fun q hq => (h q hq).nar hBA
/-- a row of the picture is another -/
def setr (M : Mem) (o : Nat) (g : Nat → Int32) : Mem := fun p => if p = o then g else M p
theorem setr_at (M : Mem) (o : Nat) (g : Nat → Int32) : setr M o g o = g := if_pos rfl
theorem setr_ne (M : Mem) {o p : Nat} (g : Nat → Int32) (h : p ≠ o) : setr M o g p = M p := if_neg h
theorem br_world {D : va_G} {cy : Nat → ClassId} {b : Nat} {M : Mem} {H H1 : Heap} {g : Nat → Int32} (hP : va_P D vwCl (wL cy b fT M 125) H) (hk : ∀ q : Nat, q < H.size → ¬ (q = b + 124 ∨ H.size ≤ q) → H1[q]? = H[q]?) (hr : va_at D vwCl (b + 124, .inl (cy 1, 1, .inl g)) H1) : va_P D vwCl (wL cy b fT (setr M 124 g) 125) H1 := by
  intro k q hq
  obtain ⟨hk1, rfl⟩ := wL_inv hq
  by_cases h : k = 124
  · subst h
    rw [setr_at, cell11 (by decide)]
    exact hr
  · rw [setr_ne _ _ h]
    have h0 := hP k _ (wL_get hk1)
    exact h0.kept (hk _ h0.lt (fun z => by have := h0.lt; have h2 : b + k < H.size := this; show False; rcases z with z | z <;> omega))
/-- the string that was made, as a text -/
def TXH (A : Nat → Prop) (a : Nat) (L : List Int32) (s : State) (H : Heap) : Prop := ∃ av, va_O "java/lang/String" a A s H ∧ va_OF "java/lang/String" "coder" "B" (.int 0) a A s H ∧ va_OF "java/lang/String" "value" "[B" (.ref av) a A s H ∧ va_T .byte av L.length (fun j => .int (L.getD j 0)) A s H
theorem TXH.tx {A : Nat → Prop} {a : Nat} {L : List Int32} {s U : State} {H : Heap} (h : TXH A a L s H) (hH : U.heap = H) (hW : s.WarmedH U.vm) : TX A a L U := by
  subst hH
  obtain ⟨av, h1, h2, h3, h4⟩ := h
  exact ⟨av, h1.moved hW.alike, h2.moved hW.alike, h3.moved hW.alike, h4.moved hW.alike⟩
theorem str_of {D : va_G} {s : State} {A : Nat → Prop} {st : Nat} {H : Heap} {fs : List Value} {Ts : List Cond} {args : Array Value} (hts : ∀ w ∈ Ts, w.before args s = true) (hin : ∀ w ∈ u_ws RJ0 TJ0 4, w ∈ Ts) {cy : Nat → ClassId} (hK : va_K D vwCl (tysW cy) s) (h : va_at D vwCl (st, .inr (9, fs)) H) (hA : ¬ A st) : va_O RJ0 st A s H ∧ ∀ k, k < 4 → va_OF (TJ0 k).1 (TJ0 k).2.1 (TJ0 k).2.2.1 (vp_V fs k) st A s H := by
  obtain ⟨r, hr, cell, c1, c2, c3, c4⟩ := h
  cases (show some r = some (RJ0, TJ0, 4) from hr.symm.trans rfl)
  obtain ⟨hsl, hfc, kC, hkC, hkind⟩ := hK.1 9 (RJ0, TJ0, 4) rfl
  have hvm : cell.vm.isStatics = false := by rw [c3]; rfl
  have hun : cell.vm ≠ .unknown := by rw [c3]; exact fun z => by cases z
  refine ⟨⟨cell, c1, hvm, by rw [c2]; exact hfc, hA⟩, fun k hk => ?_⟩
  obtain ⟨cf, kf, fi, fd, hi, hslot⟩ := hsl k hk
  have hf := u_facts hfc hkC (u_lays hts hin hk) hi
  exact ⟨cf, kf, fi, fd, cell, hi, hf.1, c1, hun, by rw [hslot]; exact c4 k hk, hA⟩
theorem br_text {D : va_G} {s : State} {A : Nat → Prop} {st arr : Nat} {H : Heap} {Ts : List Cond} {args : Array Value} (hts : ∀ w ∈ Ts, w.before args s = true) (hin : ∀ w ∈ u_ws RJ0 TJ0 4, w ∈ Ts) {cy : Nat → ClassId} (hK : va_K D vwCl (tysW cy) s) {L : List Int32} {f : Nat → Int32} (hl : L.length < 2 ^ 31) (h0 : va_at D vwCl (st, .inr (9, [.ref arr, .int 0, .int 0, .int 0])) H) (h1 : va_at D vwCl (arr, jE1 cy L.length f) H) (hL : JL f L) (hA : ¬ A st) (hA1 : ¬ A arr) : TXH A st L s H := by
  obtain ⟨a1, a2⟩ := str_of hts hin hK h0 hA
  refine ⟨arr, a1, a2 1 (by decide), a2 0 (by decide), ?_⟩
  have h1 : H[arr]? = some (vp_cell (cy 0) (L.length, .inl f)) := h1
  have hsz : (vp_cell (cy 0) (L.length, .inl f)).slots.size = L.length := by
    rw [vp_cell_i]
    simp [arrV]
  refine ⟨_, h1, (hK.2 0 (cy 0, .byte) rfl).1 L.length (fun j => .int (f j)), ?_, Nat.le_of_eq hsz.symm, by rw [hsz], fun j hj => ?_, hA1⟩
  · rw [vp_cell_i]
    exact fun z => by cases z
  · rw [vp_cell_i]
    simp [arrV, hj, hL j hj]
/-- the text's bytes are letters -/
theorem dig_asc {v : Nat} (hv : v ≤ 100) : ∀ x ∈ dig v, ∃ c, c < 128 ∧ x = nI c := by
  intro x hx
  by_cases h10 : v < 10
  · rw [dig1 h10] at hx
    exact ⟨48 + v, by omega, List.mem_singleton.mp hx⟩
  · by_cases h100 : v < 100
    · rw [dig2 h10 h100] at hx
      rcases List.mem_cons.mp hx with rfl | hx
      · exact ⟨48 + v / 10, by omega, rfl⟩
      · exact ⟨48 + v % 10, by omega, List.mem_singleton.mp hx⟩
    · rw [dig3 h100] at hx
      rcases List.mem_cons.mp hx with rfl | hx
      · exact ⟨49, by decide, rfl⟩
      · rcases List.mem_cons.mp hx with rfl | hx
        · exact ⟨48, by decide, rfl⟩
        · rw [List.mem_singleton.mp hx]
          exact ⟨48, by decide, rfl⟩
theorem asc_app {A B : List Int32} (h1 : ASC A) (h2 : ASC B) : ASC (A ++ B) := fun x hx => (List.mem_append.mp hx).elim (h1 x) (h2 x)
theorem asc_T : ASC roomT ∧ ASC hairT ∧ ASC bulbT ∧ ASC humT ∧ ASC [32] := by
  have h : ∀ L ∈ [roomT, hairT, bulbT, humT, [32]], ∀ x ∈ L, nI x.toNatClampNeg = x ∧ x.toNatClampNeg < 128 := by decide +kernel
  refine ⟨?_, ?_, ?_, ?_, ?_⟩ <;> intro x hx
  · exact ⟨_, (h roomT (by simp) x hx).2, (h roomT (by simp) x hx).1.symm⟩
  · exact ⟨_, (h hairT (by simp) x hx).2, (h hairT (by simp) x hx).1.symm⟩
  · exact ⟨_, (h bulbT (by simp) x hx).2, (h bulbT (by simp) x hx).1.symm⟩
  · exact ⟨_, (h humT (by simp) x hx).2, (h humT (by simp) x hx).1.symm⟩
  · exact ⟨_, (h [32] (by simp) x hx).2, (h [32] (by simp) x hx).1.symm⟩
theorem ins_asc {q : Bool × Nat} (h : insOk q) : ASC (insT q) := by
  unfold insT
  unfold insOk at h
  split
  · rename_i hb
    rw [if_pos hb] at h
    exact asc_app asc_T.2.1 (dig_asc (by omega))
  · rename_i hb
    rw [if_neg hb] at h
    exact asc_app asc_T.2.2.1 (dig_asc (by omega))
theorem insTs_asc : ∀ (I : List (Bool × Nat)), (∀ x ∈ I, insOk x) → ASC (insTs I)
  | [], _ => fun x hx => absurd hx List.not_mem_nil
  | x :: I, h => asc_app (ins_asc (h x List.mem_cons_self)) (insTs_asc I (fun y hy => h y (List.mem_cons_of_mem _ hy)))
theorem RTX.asc {k : Nat} {L : List Int32} (h : RTX k L) : ASC L := by
  obtain ⟨L0, h2, ⟨a, t, q, I, h1, ht, hq, h4, h5, rfl⟩, hh2, rfl⟩ := h
  exact asc_app (asc_app (asc_app (asc_app (asc_app (asc_app (asc_app (asc_app asc_T.1 (dig_asc h1)) asc_T.2.2.2.2) (dig_asc (by omega))) asc_T.2.2.2.2) (dig_asc (by omega))) (insTs_asc I h5)) asc_T.2.2.2.1) (dig_asc hh2)
