/-! the law's next(r), told of the cell of r alone; the texts of room(k, r) -/
set_option maxHeartbeats 4000000 in
set_option maxRecDepth 100000 in
theorem c_next_j (l : Launch) (D : va_G) (cy : Nat → ClassId) (A : Nat → Prop) (tl : va_W) (tx : List (Nat × List Int32)) (ra : Nat) (g : Nat → Int32) : Met l yL_next wsL_next ({ frames := 0, cells := 0, slots := 0, locals := 0 } : Room) (JP D cy A ((ra, .inl (cy 1, 1, .inl g)) :: tl) tx [.ref ra]) (JQe D A (fun _ : Nat → Int32 => True) (fun u => (ra, .inl (cy 1, 1, .inl u)) :: tl) (nxV (g 0))) 0 0 A := by
  refine Met.ofW (cc := cL_next) (maxL := 1) (ret := some .int) (by decide) rfl ?_
  intro p e s m args below meth c s₁ B hml hv
  obtain ⟨rfl, ⟨hP, hD⟩, hK, hX, hT⟩ := hv
  have hx := B.exec
  have hb := B.bytes
  have hr := B.returns
  have hts := atoms_spec (ws := wsL_next) B.pre
  have hown : s.vm.findClass RL = some m.cls := findClass_of_methodNamed B.named
  have hlocks := B.notSynchronized
  have hS : va_S A s.heap s.heap [] := va_S.rf
  have hl := lv_entry ([.ref ra]) (n := 1) (Nat.le_of_ble_eq_true rfl)
  rw [lg_entry_eq]
  generalize (lg_sl ([.ref ra]) ++ List.replicate (1 - (lg_sl ([.ref ra])).length) Slot.unset).toArray = ls at hl ⊢
  have hl : lv_has ls 1 [(0, .ref ra)] := hl
  have lk0 := hts (.constant RL 7 (1103515245)) (by decide +kernel)
  have i0 : vp_in (0 : Int32) 1 := show vp_in (nI 0) 1 from vp_in_nI (by omega) (by omega)
  refine lv_aload_n hx hb dL_next_0 rfl (lv_at hl 0 rfl) ?_
  refine lv_iconst (v := 0) hx hb dL_next_1 (by decide) ?_
  refine lv_aload_n hx hb dL_next_2 rfl (lv_at hl 0 rfl) ?_
  refine lv_iconst (v := 0) hx hb dL_next_3 (by decide) ?_
  refine va_iald hx hb hK hP 0 1 rfl rfl i0 dL_next_4 ?_
  refine lv_ldc (v := 1103515245) hx hb hown lk0 dL_next_5 ?_
  refine lv_imul hx hb dL_next_7 ?_
  refine lv_sipush (v := 12345) hx hb dL_next_8 (by decide) ?_
  refine lv_iadd hx hb dL_next_11 ?_
  refine va_iast (x := nxA (g 0)) hx hb hK hP hD hS 0 1 rfl rfl i0 dL_next_12 (fun H locs hP hD hS => ?_)
  have hP : va_P D vwCl ((ra, .inl (cy 1, 1, .inl (upd g 0 (nxA (g 0))))) :: tl) H := hP
  have hD : va_D A ((ra, .inl (cy 1, 1, .inl (upd g 0 (nxA (g 0))))) :: tl) := hD
  refine lv_aload_n hx hb dL_next_13 rfl (lv_at hl 0 rfl) ?_
  refine lv_iconst (v := 0) hx hb dL_next_14 (by decide) ?_
  refine lv_dup2_11 hx hb dL_next_15 rfl rfl ?_
  refine va_iald hx hb hK hP 0 1 rfl rfl i0 dL_next_16 ?_
  refine lv_aload_n hx hb dL_next_17 rfl (lv_at hl 0 rfl) ?_
  refine lv_iconst (v := 0) hx hb dL_next_18 (by decide) ?_
  refine va_iald hx hb hK hP 0 1 rfl rfl i0 dL_next_19 ?_
  refine lv_bipush (v := 15) hx hb dL_next_20 (by decide) ?_
  refine lv_iushr (v := ush (nxA (g 0)) 15) hx hb dL_next_22 (by rfl) ?_
  refine lv_ixor hx hb dL_next_23 ?_
  refine W.eq (g2 := F0 m 24 ls (.int (nxS (g 0)) :: .int 0 :: .ref ra :: [])) (congrArg (fun z => F0 m 24 ls (.int z :: .int 0 :: .ref ra :: [])) (by rfl)) ?_
  refine va_iast (x := nxS (g 0)) hx hb hK hP hD hS 0 1 rfl rfl i0 dL_next_24 (fun H locs hP hD hS => ?_)
  have hP : va_P D vwCl ((ra, .inl (cy 1, 1, .inl (upd (upd g 0 (nxA (g 0))) 0 (nxS (g 0))))) :: tl) H := hP
  have hD : va_D A ((ra, .inl (cy 1, 1, .inl (upd (upd g 0 (nxA (g 0))) 0 (nxS (g 0))))) :: tl) := hD
  refine lv_aload_n hx hb dL_next_25 rfl (lv_at hl 0 rfl) ?_
  refine lv_iconst (v := 0) hx hb dL_next_26 (by decide) ?_
  refine va_iald hx hb hK hP 0 1 rfl rfl i0 dL_next_27 ?_
  refine lv_bipush (v := 9) hx hb dL_next_28 (by decide) ?_
  refine lv_iushr (v := nxV (g 0)) hx hb dL_next_30 (by rfl) ?_
  exact je_e hx hb hr hlocks _ trivial hP hD hS rfl rfl rfl (Nat.le_of_ble_eq_true rfl) (Nat.le_of_ble_eq_true rfl) dL_next_31
/-- the constants of room(k, r) -/
def roomT : List Int32 := [114, 111, 111, 109, 32]
def hairT : List Int32 := [59, 104, 97, 105, 114, 32]
def bulbT : List Int32 := [59, 98, 117, 108, 98, 32]
def humT : List Int32 := [59, 104, 117, 109, 105, 100, 105, 116, 121, 32]
def VR (aR aH aB aU : Nat) (U : State) : Prop := vk_R RL 76 "room " aR U ∧ vk_R RL 91 ";hair " aH U ∧ vk_R RL 96 ";bulb " aB U ∧ vk_R RL 98 ";humidity " aU U
abbrev rtx (aR aH aB aU : Nat) : List (Nat × List Int32) := [(aR, roomT), (aH, hairT), (aB, bulbT), (aU, humT)]
theorem VR.moved {aR aH aB aU : Nat} {s U : State} (h : VR aR aH aB aU s) (hW : s.WarmedH U.vm) : VR aR aH aB aU U := ⟨h.1.warm hW, h.2.1.warm hW, h.2.2.1.warm hW, h.2.2.2.warm hW⟩
theorem VR.calling {aR aH aB aU : Nat} {U : State} {g : JFrame} {mk : MethodId} {a : Array Value} (h : VR aR aH aB aU U) : VR aR aH aB aU (U.calling g mk a) := ⟨h.1.same rfl, h.2.1.same rfl, h.2.2.1.same rfl, h.2.2.2.same rfl⟩
/-- one instrument's line -/
def insT (q : Bool × Nat) : List Int32 := if q.1 then hairT ++ dig q.2 else bulbT ++ dig q.2
def insOk (q : Bool × Nat) : Prop := if q.1 then 1 ≤ q.2 ∧ q.2 ≤ 20 else q.2 ≤ 60
def insTs (I : List (Bool × Nat)) : List Int32 := (I.map insT).flatten
def headT (h t k : Nat) : List Int32 := ((((roomT ++ dig h) ++ [32]) ++ dig t) ++ [32]) ++ dig k
/-- what room has laid after k instruments / at its end -/
def RTk (k : Nat) (L : List Int32) : Prop := ∃ h t q I, h ≤ 100 ∧ t ≤ 40 ∧ q ≤ 5 ∧ I.length = k ∧ (∀ x ∈ I, insOk x) ∧ L = headT h t q ++ insTs I
def RTX (k : Nat) (L : List Int32) : Prop := ∃ L0 h2, RTk k L0 ∧ h2 ≤ 100 ∧ L = (L0 ++ humT) ++ dig h2
theorem dig_len2 {v : Nat} (h : v < 100) : (dig v).length ≤ 2 := by
  by_cases h1 : v < 10
  · rw [dig1 h1]; exact Nat.le_succ 1
  · rw [dig2 h1 h]; exact Nat.le_refl 2
theorem dig_len1 {v : Nat} (h : v < 10) : (dig v).length = 1 := by rw [dig1 h]; rfl
theorem insT_len {q : Bool × Nat} (h : insOk q) : (insT q).length ≤ 8 := by
  unfold insT
  unfold insOk at h
  split
  · rename_i h1
    rw [if_pos h1] at h
    have := dig_len2 (v := q.2) (by omega)
    rw [List.length_append]
    show 6 + _ ≤ 8
    omega
  · rename_i h1
    rw [if_neg h1] at h
    have := dig_len2 (v := q.2) (by omega)
    rw [List.length_append]
    show 6 + _ ≤ 8
    omega
theorem insTs_len : ∀ (I : List (Bool × Nat)), (∀ x ∈ I, insOk x) → (insTs I).length ≤ 8 * I.length
  | [], _ => Nat.le_refl 0
  | x :: I, h => by
    have h1 := insT_len (h x List.mem_cons_self)
    have h2 := insTs_len I (fun y hy => h y (List.mem_cons_of_mem _ hy))
    have : insTs (x :: I) = insT x ++ insTs I := rfl
    rw [this, List.length_append, List.length_cons]
    omega
theorem headT_len {h t q : Nat} (h1 : h ≤ 100) (h2 : t ≤ 40) (h3 : q ≤ 5) : (headT h t q).length ≤ 13 := by
  have e1 := (dig_len (v := h)).2
  have e2 := dig_len2 (v := t) (by omega)
  have e3 := dig_len1 (v := q) (by omega)
  unfold headT
  simp only [List.length_append]
  show 5 + _ + 1 + _ + 1 + _ ≤ 13
  omega
theorem RTk.len {k : Nat} {L : List Int32} (h : RTk k L) : L.length ≤ 13 + 8 * k := by
  obtain ⟨a, t, q, I, h1, h2, h3, h4, h5, rfl⟩ := h
  have e1 := headT_len h1 h2 h3
  have e2 := insTs_len I h5
  rw [List.length_append]
  omega
theorem RTk.z {h t q : Nat} (h1 : h ≤ 100) (h2 : t ≤ 40) (h3 : q ≤ 5) : RTk 0 (headT h t q) := ⟨h, t, q, [], h1, h2, h3, rfl, fun x hx => absurd hx List.not_mem_nil, (List.append_nil _).symm⟩
theorem RTk.more {k : Nat} {L : List Int32} (h : RTk k L) (x : Bool × Nat) (hx : insOk x) : RTk (k + 1) (L ++ insT x) := by
  obtain ⟨a, t, q, I, h1, h2, h3, h4, h5, rfl⟩ := h
  refine ⟨a, t, q, I ++ [x], h1, h2, h3, by simp [h4], fun y hy => ?_, ?_⟩
  · rcases List.mem_append.mp hy with h | h
    · exact h5 y h
    · rw [List.mem_singleton.mp h]; exact hx
  · rw [List.append_assoc]
    congr 1
    unfold insTs
    simp
theorem RTk.hair {k : Nat} {L : List Int32} (h : RTk k L) {n : Nat} (hn : n < 20) : RTk (k + 1) ((L ++ hairT) ++ dig (n + 1)) := by
  have := h.more (true, n + 1) ⟨by show 1 ≤ n + 1; omega, by show n + 1 ≤ 20; omega⟩
  rw [List.append_assoc]
  exact this
theorem RTk.bulb {k : Nat} {L : List Int32} (h : RTk k L) {n : Nat} (hn : n < 61) : RTk (k + 1) ((L ++ bulbT) ++ dig n) := by
  have := h.more (false, n) (show n ≤ 60 by omega)
  rw [List.append_assoc]
  exact this
theorem xfT : (∀ j, j < roomT.length → fits .byte (.int (roomT.getD j 0)) = true) ∧ (∀ j, j < hairT.length → fits .byte (.int (hairT.getD j 0)) = true) ∧ (∀ j, j < bulbT.length → fits .byte (.int (bulbT.getD j 0)) = true) ∧ (∀ j, j < humT.length → fits .byte (.int (humT.getD j 0)) = true) := by decide +kernel
