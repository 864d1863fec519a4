/-! the JDK: a builder is made, a string is made of it (laid by a program) -/
set_option maxHeartbeats 4000000 in
set_option maxRecDepth 100000 in
theorem c_J5_init_a7421 (l : Launch) (D : va_G) (cy : Nat → ClassId) (A : Nat → Prop) (tl : va_W) (tx : List (Nat × List Int32)) (sb : Nat) (a : Nat) (X : List Int32) (ha : (a, X) ∈ tx) (hXf : ∀ j, j < X.length → fits .byte (.int (X.getD j 0)) = true) (hXl : X.length ≤ 74) : Met l yJ5_init_a7421 wsJ5_init_a7421 ({ frames := 7, cells := 2, slots := 300, locals := 320 } : Room) (JP D cy A ((sb, .inr (8, [.null, .int 0, .int 0, .int 0])) :: tl) tx [.ref sb, .ref a]) (JQv D A (JB X) (jW cy sb X tl)) 2 300 A := by
  refine Met.ofW (cc := cJ5_init_a7421) (maxL := 5) (ret := none) (by decide) rfl ?_
  intro p e s m args below meth c s₁ B hml hv
  obtain ⟨rfl, ⟨hP, hD⟩, hK, hX, hT⟩ := hv
  have hx := B.exec
  have hb := B.bytes
  have hr := B.returns
  have hts := atoms_spec (ws := wsJ5_init_a7421) B.pre
  have hown : s.vm.findClass RJ5 = some m.cls := findClass_of_methodNamed B.named
  have hlocks := B.notSynchronized
  have hS : va_S A s.heap s.heap [] := va_S.rf
  have hl := lv_entry ([.ref sb, .ref a]) (n := 5) (Nat.le_of_ble_eq_true rfl)
  rw [lg_entry_eq]
  generalize (lg_sl ([.ref sb, .ref a]) ++ List.replicate (5 - (lg_sl ([.ref sb, .ref a])).length) Slot.unset).toArray = ls at hl ⊢
  have hl : lv_has ls 5 [(0, .ref sb), (1, .ref a)] := hl
  have inc4 : ∀ w ∈ u_ws RJ4 TJ4 4, w ∈ wsJ5_init_a7421 := by decide +kernel
  have hinit : meth.name = "<init>" := (name_of_methodNamed B.named B.method).1
  refine lv_aload_n hx hb dJ5_init_a7421_0 rfl (lv_at hl 0 rfl) ?_
  refine W.objInit hx hb hown (hts (.methodLink RJ5 3 objectInit) (by decide +kernel)) (hts (.instanceMethod objectInit) (by decide +kernel)) (hts (.code objectInit ⟨#[0xb1]⟩ 1 none) (by decide +kernel)) rfl (by rw [hml]; exact hl.1) rfl dJ5_init_a7421_1 (Nat.le_of_ble_eq_true rfl) (Nat.le_of_ble_eq_true rfl) ?_
  refine W.eq (g2 := F0 m 4 ls ([])) rfl ?_
  refine lv_aload_n hx hb dJ5_init_a7421_4 rfl (lv_at hl 1 rfl) ?_
  refine xj_i (va_runV (As := []) (rest := []) ⟨hx, hb, hml, hown, hts⟩ (c_length l D cy A ((sb, .inr (8, [.null, .int 0, .int 0, .int 0])) :: tl) tx a X ha) (cwV 0 hts gJ5_init_a7421_J0_length_8abf5 rfl rfl rfl (by decide +kernel) ⟨Nat.le_of_ble_eq_true rfl, Nat.le_of_ble_eq_true rfl⟩) (jPreVS hP hD hK hX hT hS (hT _ ha)) rfl rfl hl.1 rfl (lv_room (Nat.le_of_ble_eq_true rfl)) dJ5_init_a7421_5 ⟨Nat.le_of_ble_eq_true rfl, Nat.le_of_ble_eq_true rfl⟩) hS (fun H locs hP hD hS => ?_)
  refine lv_istore_n (lv' := [(2, .int (nI X.length)), (0, .ref sb), (1, .ref a)]) hx hb dJ5_init_a7421_8 rfl hl (by decide) rfl (fun ls hl => ?_)
  refine lv_iload_n hx hb dJ5_init_a7421_9 rfl (lv_at hl 0 rfl) ?_
  refine lv_ldc (v := 2147483631) hx hb hown (hts (.constant RJ5 38 (2147483631)) (by decide +kernel)) dJ5_init_a7421_10 ?_
  refine lv_icmp_ge (tgt := 22) hx hb dJ5_init_a7421_12 (by decide) (fun c12 => absurd c12 (by rw [show (2147483631 : Int32) = nI 2147483631 from rfl]; exact nI_ge (by omega) (by omega))) (fun c12 => ?_)
  refine lv_iload_n hx hb dJ5_init_a7421_15 rfl (lv_at hl 0 rfl) ?_
  refine lv_bipush (v := 16) hx hb dJ5_init_a7421_16 (by decide) ?_
  refine xadd (z := nI (X.length + 16)) hx hb (ixAdd (a := X.length) (c := 16) (d := (X.length + 16)) rfl rfl (by omega)) dJ5_init_a7421_18 ?_
  refine lv_goto (tgt := 24) hx hb dJ5_init_a7421_19 (by decide) ?_
  refine lv_istore_n (lv' := [(3, .int (nI (X.length + 16))), (2, .int (nI X.length)), (0, .ref sb), (1, .ref a)]) hx hb dJ5_init_a7421_24 rfl hl (by decide) rfl (fun ls hl => ?_)
  refine lv_aload_n hx hb dJ5_init_a7421_25 rfl (lv_at hl 3 rfl) ?_
  refine xj_i (va_runV (As := []) (rest := []) ⟨hx, hb, hml, hown, hts⟩ (c_coder l D cy A ((sb, .inr (8, [.null, .int 0, .int 0, .int 0])) :: tl) tx a X ha) (cwV 0 hts gJ5_init_a7421_J0_coder_7d493 rfl rfl rfl (by decide +kernel) ⟨Nat.le_of_ble_eq_true rfl, Nat.le_of_ble_eq_true rfl⟩) (jPreVS hP hD hK hX hT hS (hT _ ha)) rfl rfl hl.1 rfl (lv_room (Nat.le_of_ble_eq_true rfl)) dJ5_init_a7421_26 ⟨Nat.le_of_ble_eq_true rfl, Nat.le_of_ble_eq_true rfl⟩) hS (fun H locs hP hD hS => ?_)
  refine lv_istore (lv' := [(4, .int 0), (3, .int (nI (X.length + 16))), (2, .int (nI X.length)), (0, .ref sb), (1, .ref a)]) hx hb dJ5_init_a7421_29 hl (by decide) rfl (fun ls hl => ?_)
  refine lv_aload_n hx hb dJ5_init_a7421_31 rfl (lv_at hl 3 rfl) ?_
  refine lv_iload hx hb dJ5_init_a7421_32 (lv_at hl 0 rfl) ?_
  refine va_put (C := RJ4) (T := TJ4) (N := 4) (ci := 8) hx hb hts inc4 tyJ4 tyJ4_ok nmJ4 hown hK hP hD hS 0 rfl rfl 1 (by decide) (hts (.fieldLink RJ5 22 "java/lang/AbstractStringBuilder" "coder" "B") (by decide +kernel)) (fun _ h => h) rfl rfl rfl rfl (Nat.le_of_ble_eq_true rfl) dJ5_init_a7421_34 (fun H locs hP hD hS => ?_)
  have hP : va_P D vwCl ((sb, .inr (8, [.null, .int 0, .int 0, .int 0])) :: tl) H := hP
  have hD : va_D A ((sb, .inr (8, [.null, .int 0, .int 0, .int 0])) :: tl) := hD
  refine lv_aload_n hx hb dJ5_init_a7421_37 rfl (lv_at hl 3 rfl) ?_
  refine lv_iload hx hb dJ5_init_a7421_38 (lv_at hl 0 rfl) ?_
  refine lv_if_ne (tgt := 49) hx hb dJ5_init_a7421_40 (by decide) (fun c40 => absurd rfl c40) (fun c40 => ?_)
  refine lv_iload_n hx hb dJ5_init_a7421_43 rfl (lv_at hl 1 rfl) ?_
  refine xj_newa (N := X.length + 16) hx hb (hts (.arrayClass .byte) (by decide +kernel)) hK hP hD hS hX (by omega) (Nat.le_of_ble_eq_true rfl) (by show 0 + 0 + 0 + (X.length + 16) ≤ 300; omega) dJ5_init_a7421_44 (fun na H hP hD hS => ?_)
  refine lv_goto (tgt := 53) hx hb dJ5_init_a7421_46 (by decide) ?_
  refine va_put (C := RJ4) (T := TJ4) (N := 4) (ci := 8) hx hb hts inc4 tyJ4 tyJ4_ok nmJ4 hown hK hP hD hS 1 rfl rfl 0 (by decide) (hts (.fieldLink RJ5 15 "java/lang/AbstractStringBuilder" "value" "[B") (by decide +kernel)) (fun _ h => h) rfl rfl rfl rfl (Nat.le_of_ble_eq_true rfl) dJ5_init_a7421_53 (fun H locs hP hD hS => ?_)
  have hP : va_P D vwCl ((na, jE1 cy (X.length + 16) (fun _ => 0)) :: (sb, jE0 na 0) :: tl) H := hP
  have hD : va_D A ((na, jE1 cy (X.length + 16) (fun _ => 0)) :: (sb, jE0 na 0) :: tl) := hD
  refine lv_aload_n hx hb dJ5_init_a7421_56 rfl (lv_at hl 3 rfl) ?_
  refine lv_aload_n hx hb dJ5_init_a7421_57 rfl (lv_at hl 4 rfl) ?_
  obtain ⟨hP, hD⟩ := jswap hP hD
  refine xj_a (va_runU (As := [.ref a]) (rest := []) ⟨hx, hb, hml, hown, hts⟩ (c_J4_append_cf1ce l D cy A tl tx sb na (X.length + 16) (fun _ => 0) [] ⟨by show X.length + 16 ≤ 148; omega, Nat.zero_le _, JF.z, fun j hj => absurd hj (Nat.not_lt_zero j)⟩ a X ha hXf (by show 0 + X.length ≤ 74; omega)) (va_cwO 1 hts gJ5_init_a7421_J4_append_cf1ce_u43J4 rfl rfl rfl (show Cond.code yJ5_append_cf1ce cJ5_append_cf1ce 3 (some (.object "java/lang/AbstractStringBuilder")) ∈ wsJ5_init_a7421 from by decide +kernel) (by decide +kernel) ⟨Nat.le_of_ble_eq_true rfl, Nat.le_of_ble_eq_true rfl⟩) (jPreV 0 hP hD hK hX hT hS rfl rfl) rfl rfl hl.1 rfl (lv_room (Nat.le_of_ble_eq_true rfl)) dJ5_init_a7421_58 ⟨Nat.le_of_ble_eq_true rfl, (by show 0 + (X.length + 16) + 148 ≤ 300; omega)⟩) hS (fun u H locs hu hP hD hS => ?_)
  have hP : va_P D vwCl ((sb, jE0 u.1 (nI (([] ++ X).length))) :: (u.1, jE1 cy u.2.1 u.2.2) :: tl) H := hP
  have hD : va_D A ((sb, jE0 u.1 (nI (([] ++ X).length))) :: (u.1, jE1 cy u.2.1 u.2.2) :: tl) := hD
  refine lv_pop hx hb dJ5_init_a7421_61 rfl ?_
  exact je_v hx hb hr hlocks (u) (hu) hP hD hS rfl (Nat.le_of_ble_eq_true rfl) (by show 0 + (X.length + 16) + 148 ≤ 300; omega) dJ5_init_a7421_62

set_option maxHeartbeats 4000000 in
set_option maxRecDepth 100000 in
theorem c_J4_init_a7421 (l : Launch) (D : va_G) (cy : Nat → ClassId) (A : Nat → Prop) (tl : va_W) (tx : List (Nat × List Int32)) (sb : Nat) (a : Nat) (X : List Int32) (ha : (a, X) ∈ tx) (hXf : ∀ j, j < X.length → fits .byte (.int (X.getD j 0)) = true) (hXl : X.length ≤ 74) : Met l yJ4_init_a7421 wsJ4_init_a7421 ({ frames := 8, cells := 2, slots := 300, locals := 350 } : Room) (JP D cy A ((sb, .inr (8, [.null, .int 0, .int 0, .int 0])) :: tl) tx [.ref sb, .ref a]) (JQv D A (JB X) (jW cy sb X tl)) 2 300 A := by
  refine Met.ofW (cc := cJ4_init_a7421) (maxL := 2) (ret := none) (by decide) rfl ?_
  intro p e s m args below meth c s₁ B hml hv
  obtain ⟨rfl, ⟨hP, hD⟩, hK, hX, hT⟩ := hv
  have hx := B.exec
  have hb := B.bytes
  have hr := B.returns
  have hts := atoms_spec (ws := wsJ4_init_a7421) B.pre
  have hown : s.vm.findClass RJ4 = some m.cls := findClass_of_methodNamed B.named
  have hlocks := B.notSynchronized
  have hS : va_S A s.heap s.heap [] := va_S.rf
  have hl := lv_entry ([.ref sb, .ref a]) (n := 2) (Nat.le_of_ble_eq_true rfl)
  rw [lg_entry_eq]
  generalize (lg_sl ([.ref sb, .ref a]) ++ List.replicate (2 - (lg_sl ([.ref sb, .ref a])).length) Slot.unset).toArray = ls at hl ⊢
  have hl : lv_has ls 2 [(0, .ref sb), (1, .ref a)] := hl
  have hinit : meth.name = "<init>" := (name_of_methodNamed B.named B.method).1
  refine lv_aload_n hx hb dJ4_init_a7421_0 rfl (lv_at hl 0 rfl) ?_
  refine lv_aload_n hx hb dJ4_init_a7421_1 rfl (lv_at hl 1 rfl) ?_
  refine xj_v (va_runI (As := [.ref a]) (rest := []) ⟨hx, hb, hml, hown, hts⟩ (c_J5_init_a7421 l D cy A tl tx sb a X ha hXf hXl) (cwI 1 hts gJ4_init_a7421_J5_init_a7421 rfl rfl rfl (hts (.initialized RJ5) (by decide +kernel)) (hts (.methodLink RJ4 7 yJ5_init_a7421) (by decide +kernel)) (hts (.instanceMethod yJ5_init_a7421) (by decide +kernel)) rfl (by decide +kernel) ⟨Nat.le_of_ble_eq_true rfl, Nat.le_of_ble_eq_true rfl⟩) (jPreS hP hD hK hX hT hS) rfl rfl hl.1 rfl (lv_room (Nat.le_of_ble_eq_true rfl)) dJ4_init_a7421_2 ⟨Nat.le_of_ble_eq_true rfl, Nat.le_of_ble_eq_true rfl⟩) hS (fun u H locs hu hP hD hS => ?_)
  have hP : va_P D vwCl ((sb, jE0 u.1 (nI X.length)) :: (u.1, jE1 cy u.2.1 u.2.2) :: tl) H := hP
  have hD : va_D A ((sb, jE0 u.1 (nI X.length)) :: (u.1, jE1 cy u.2.1 u.2.2) :: tl) := hD
  exact je_v hx hb hr hlocks (u) (hu) hP hD hS rfl (Nat.le_of_ble_eq_true rfl) (Nat.le_of_ble_eq_true rfl) dJ4_init_a7421_5

set_option maxHeartbeats 4000000 in
set_option maxRecDepth 100000 in
theorem c_J5_getValue_6d5f1 (l : Launch) (D : va_G) (cy : Nat → ClassId) (A : Nat → Prop) (tl : va_W) (tx : List (Nat × List Int32)) (sb arr : Nat) (cnt : Int32) : Met l yJ5_getValue_6d5f1 wsJ5_getValue_6d5f1 ({ frames := 0, cells := 0, slots := 0, locals := 0 } : Room) (JP D cy A ((sb, jE0 arr cnt) :: tl) tx [.ref sb]) (JQa D A (fun (_ : Unit) => True) (fun _ => (sb, jE0 arr cnt) :: tl) arr) 0 0 A := by
  refine Met.ofW (cc := cJ5_getValue_6d5f1) (maxL := 1) (ret := (some (.array .byte))) (by decide) rfl ?_
  intro p e s m args below meth c s₁ B hml hv
  obtain ⟨rfl, ⟨hP, hD⟩, hK, hX, hT⟩ := hv
  have hx := B.exec
  have hb := B.bytes
  have hr := B.returns
  have hts := atoms_spec (ws := wsJ5_getValue_6d5f1) B.pre
  have hown : s.vm.findClass RJ5 = some m.cls := findClass_of_methodNamed B.named
  have hlocks := B.notSynchronized
  have hS : va_S A s.heap s.heap [] := va_S.rf
  have hl := lv_entry ([.ref sb]) (n := 1) (Nat.le_of_ble_eq_true rfl)
  rw [lg_entry_eq]
  generalize (lg_sl ([.ref sb]) ++ List.replicate (1 - (lg_sl ([.ref sb])).length) Slot.unset).toArray = ls at hl ⊢
  have hl : lv_has ls 1 [(0, .ref sb)] := hl
  have inc4 : ∀ w ∈ u_ws RJ4 TJ4 4, w ∈ wsJ5_getValue_6d5f1 := by decide +kernel
  refine lv_aload_n hx hb dJ5_getValue_6d5f1_0 rfl (lv_at hl 0 rfl) ?_
  refine va_get (C := RJ4) (T := TJ4) (N := 4) (ci := 8) (v := .ref arr) hx hb hts inc4 hown hK hP 0 rfl rfl 0 (by decide) (hts (.fieldLink RJ5 15 "java/lang/AbstractStringBuilder" "value" "[B") (by decide +kernel)) (fun _ h => h) rfl dJ5_getValue_6d5f1_1 ?_
  exact je_a hx hb hr (Or.inr ⟨_, rfl⟩) hlocks (()) (trivial) hP hD hS rfl (Nat.le_of_ble_eq_true rfl) (Nat.le_of_ble_eq_true rfl) dJ5_getValue_6d5f1_4

set_option maxHeartbeats 4000000 in
set_option maxRecDepth 100000 in
theorem c_J5_length_8abf5 (l : Launch) (D : va_G) (cy : Nat → ClassId) (A : Nat → Prop) (tl : va_W) (tx : List (Nat × List Int32)) (sb arr : Nat) (cnt : Int32) : Met l yJ5_length_8abf5 wsJ5_length_8abf5 ({ frames := 0, cells := 0, slots := 0, locals := 0 } : Room) (JP D cy A ((sb, jE0 arr cnt) :: tl) tx [.ref sb]) (JQi D A ((sb, jE0 arr cnt) :: tl) cnt) 0 0 A := by
  refine Met.ofW (cc := cJ5_length_8abf5) (maxL := 1) (ret := (some .int)) (by decide) rfl ?_
  intro p e s m args below meth c s₁ B hml hv
  obtain ⟨rfl, ⟨hP, hD⟩, hK, hX, hT⟩ := hv
  have hx := B.exec
  have hb := B.bytes
  have hr := B.returns
  have hts := atoms_spec (ws := wsJ5_length_8abf5) B.pre
  have hown : s.vm.findClass RJ5 = some m.cls := findClass_of_methodNamed B.named
  have hlocks := B.notSynchronized
  have hS : va_S A s.heap s.heap [] := va_S.rf
  have hl := lv_entry ([.ref sb]) (n := 1) (Nat.le_of_ble_eq_true rfl)
  rw [lg_entry_eq]
  generalize (lg_sl ([.ref sb]) ++ List.replicate (1 - (lg_sl ([.ref sb])).length) Slot.unset).toArray = ls at hl ⊢
  have hl : lv_has ls 1 [(0, .ref sb)] := hl
  have inc4 : ∀ w ∈ u_ws RJ4 TJ4 4, w ∈ wsJ5_length_8abf5 := by decide +kernel
  refine lv_aload_n hx hb dJ5_length_8abf5_0 rfl (lv_at hl 0 rfl) ?_
  refine va_get (C := RJ4) (T := TJ4) (N := 4) (ci := 8) (v := .int cnt) hx hb hts inc4 hown hK hP 0 rfl rfl 3 (by decide) (hts (.fieldLink RJ5 79 "java/lang/AbstractStringBuilder" "count" "I") (by decide +kernel)) (fun _ h => h) rfl dJ5_length_8abf5_1 ?_
  exact je_i hx hb hr hlocks hP hD hS rfl rfl rfl (Nat.le_of_ble_eq_true rfl) (Nat.le_of_ble_eq_true rfl) dJ5_length_8abf5_4

set_option maxHeartbeats 4000000 in
set_option maxRecDepth 100000 in
theorem c_J4_length_8abf5 (l : Launch) (D : va_G) (cy : Nat → ClassId) (A : Nat → Prop) (tl : va_W) (tx : List (Nat × List Int32)) (sb arr : Nat) (cnt : Int32) : Met l yJ4_length_8abf5 wsJ4_length_8abf5 ({ frames := 1, cells := 0, slots := 0, locals := 40 } : Room) (JP D cy A ((sb, jE0 arr cnt) :: tl) tx [.ref sb]) (JQi D A ((sb, jE0 arr cnt) :: tl) cnt) 0 0 A := by
  refine Met.ofW (cc := cJ4_length_8abf5) (maxL := 1) (ret := (some .int)) (by decide) rfl ?_
  intro p e s m args below meth c s₁ B hml hv
  obtain ⟨rfl, ⟨hP, hD⟩, hK, hX, hT⟩ := hv
  have hx := B.exec
  have hb := B.bytes
  have hr := B.returns
  have hts := atoms_spec (ws := wsJ4_length_8abf5) B.pre
  have hown : s.vm.findClass RJ4 = some m.cls := findClass_of_methodNamed B.named
  have hlocks := B.notSynchronized
  have hS : va_S A s.heap s.heap [] := va_S.rf
  have hl := lv_entry ([.ref sb]) (n := 1) (Nat.le_of_ble_eq_true rfl)
  rw [lg_entry_eq]
  generalize (lg_sl ([.ref sb]) ++ List.replicate (1 - (lg_sl ([.ref sb])).length) Slot.unset).toArray = ls at hl ⊢
  have hl : lv_has ls 1 [(0, .ref sb)] := hl
  refine lv_aload_n hx hb dJ4_length_8abf5_0 rfl (lv_at hl 0 rfl) ?_
  refine xj_i (va_runSU (As := []) (rest := []) (hK.1 8 _ rfl).2 ⟨hx, hb, hml, hown, hts⟩ (c_J5_length_8abf5 l D cy A tl tx sb arr cnt) (va_cwSU 0 hts gJ4_length_8abf5_J5_length_8abf5_s343 rfl rfl rfl (by decide +kernel) ⟨Nat.le_of_ble_eq_true rfl, Nat.le_of_ble_eq_true rfl⟩) (jPreV 0 hP hD hK hX hT hS rfl rfl) rfl rfl hl.1 rfl (lv_room (Nat.le_of_ble_eq_true rfl)) dJ4_length_8abf5_1 ⟨Nat.le_of_ble_eq_true rfl, Nat.le_of_ble_eq_true rfl⟩) hS (fun H locs hP hD hS => ?_)
  exact je_i hx hb hr hlocks hP hD hS rfl rfl rfl (Nat.le_of_ble_eq_true rfl) (Nat.le_of_ble_eq_true rfl) dJ4_length_8abf5_4

set_option maxHeartbeats 4000000 in
set_option maxRecDepth 100000 in
theorem c_J7_checkLength_df160 (l : Launch) (D : va_G) (cy : Nat → ClassId) (A : Nat → Prop) (tl : va_W) (tx : List (Nat × List Int32)) (n : Nat) (hn : n ≤ 148) : Met l yJ7_checkLength_df160 wsJ7_checkLength_df160 ({ frames := 0, cells := 0, slots := 0, locals := 0 } : Room) (JP D cy A (tl) tx [.int 0, .int (nI n)]) (JQv D A (fun (_ : Unit) => True) (fun _ => tl)) 0 0 A := by
  refine Met.ofW (cc := cJ7_checkLength_df160) (maxL := 2) (ret := none) (by decide) rfl ?_
  intro p e s m args below meth c s₁ B hml hv
  obtain ⟨rfl, ⟨hP, hD⟩, hK, hX, hT⟩ := hv
  have hx := B.exec
  have hb := B.bytes
  have hr := B.returns
  have hts := atoms_spec (ws := wsJ7_checkLength_df160) B.pre
  have hown : s.vm.findClass RJ7 = some m.cls := findClass_of_methodNamed B.named
  have hlocks := B.notSynchronized
  have hS : va_S A s.heap s.heap [] := va_S.rf
  have hl := lv_entry ([.int 0, .int (nI n)]) (n := 2) (Nat.le_of_ble_eq_true rfl)
  rw [lg_entry_eq]
  generalize (lg_sl ([.int 0, .int (nI n)]) ++ List.replicate (2 - (lg_sl ([.int 0, .int (nI n)])).length) Slot.unset).toArray = ls at hl ⊢
  have hl : lv_has ls 2 [(0, .int 0), (1, .int (nI n))] := hl
  refine lv_iload_n hx hb dJ7_checkLength_df160_0 rfl (lv_at hl 1 rfl) ?_
  refine lv_iload_n hx hb dJ7_checkLength_df160_1 rfl (lv_at hl 0 rfl) ?_
  refine lv_icmp_ge (tgt := 37) hx hb dJ7_checkLength_df160_2 (by decide) (fun c2 => ?_) (fun c2 => absurd (show (0 : Int32) ≤ nI n from nI_pos' (by omega)) c2)
  exact je_v hx hb hr hlocks (()) (trivial) hP hD hS rfl (Nat.le_of_ble_eq_true rfl) (Nat.le_of_ble_eq_true rfl) dJ7_checkLength_df160_37

set_option maxHeartbeats 4000000 in
set_option maxRecDepth 100000 in
theorem c_J7_copyOfRangeByte_39247 (l : Launch) (D : va_G) (cy : Nat → ClassId) (A : Nat → Prop) (tl : va_W) (tx : List (Nat × List Int32)) (arr mz : Nat) (f : Nat → Int32) (n : Nat) (hn : n ≤ mz) (hm : mz ≤ 148) (hf : JF f) : Met l yJ7_copyOfRangeByte_39247 wsJ7_copyOfRangeByte_39247 ({ frames := 1, cells := 1, slots := 148, locals := 120 } : Room) (JP D cy A ((arr, jE1 cy mz f) :: tl) tx [.ref arr, .int 0, .int (nI n)]) (JQn D A (fun u : Nat → Int32 => JF u ∧ ∀ j, j < n → u j = f j) (fun u a => (a, jE1 cy n u) :: (arr, jE1 cy mz f) :: tl)) 1 148 A := by
  refine Met.ofW (cc := cJ7_copyOfRangeByte_39247) (maxL := 5) (ret := (some (.array .byte))) (by decide) rfl ?_
  intro p e s m args below meth c s₁ B hml hv
  obtain ⟨rfl, ⟨hP, hD⟩, hK, hX, hT⟩ := hv
  have hx := B.exec
  have hb := B.bytes
  have hr := B.returns
  have hts := atoms_spec (ws := wsJ7_copyOfRangeByte_39247) B.pre
  have hown : s.vm.findClass RJ7 = some m.cls := findClass_of_methodNamed B.named
  have hlocks := B.notSynchronized
  have hS : va_S A s.heap s.heap [] := va_S.rf
  have hl := lv_entry ([.ref arr, .int 0, .int (nI n)]) (n := 5) (Nat.le_of_ble_eq_true rfl)
  rw [lg_entry_eq]
  generalize (lg_sl ([.ref arr, .int 0, .int (nI n)]) ++ List.replicate (5 - (lg_sl ([.ref arr, .int 0, .int (nI n)])).length) Slot.unset).toArray = ls at hl ⊢
  have hl : lv_has ls 5 [(0, .ref arr), (1, .int 0), (2, .int (nI n))] := hl
  refine lv_iload_n hx hb dJ7_copyOfRangeByte_39247_0 rfl (lv_at hl 1 rfl) ?_
  refine lv_iload_n hx hb dJ7_copyOfRangeByte_39247_1 rfl (lv_at hl 2 rfl) ?_
  refine xj_v (va_runS (As := [.int 0, .int (nI n)]) (rest := []) ⟨hx, hb, hml, hown, hts⟩ (c_J7_checkLength_df160 l D cy A ((arr, jE1 cy mz f) :: tl) tx n (by omega)) (va_cwS 2 hts gJ7_copyOfRangeByte_39247_J7_checkLength_df160 rfl rfl rfl (by decide +kernel) ⟨Nat.le_of_ble_eq_true rfl, Nat.le_of_ble_eq_true rfl⟩) (jPreS hP hD hK hX hT hS) rfl rfl hl.1 rfl (lv_room (Nat.le_of_ble_eq_true rfl)) dJ7_copyOfRangeByte_39247_2 ⟨Nat.le_of_ble_eq_true rfl, Nat.le_of_ble_eq_true rfl⟩) hS (fun _ H locs _ hP hD hS => ?_)
  refine lv_iload_n hx hb dJ7_copyOfRangeByte_39247_5 rfl (lv_at hl 2 rfl) ?_
  refine lv_iload_n hx hb dJ7_copyOfRangeByte_39247_6 rfl (lv_at hl 1 rfl) ?_
  refine xsub (z := nI n) hx hb (ixSub (a := n) (c := 0) (d := n) rfl rfl (by omega)) dJ7_copyOfRangeByte_39247_7 ?_
  refine lv_istore_n (lv' := [(3, .int (nI n)), (0, .ref arr), (1, .int 0), (2, .int (nI n))]) hx hb dJ7_copyOfRangeByte_39247_8 rfl hl (by decide) rfl (fun ls hl => ?_)
  refine lv_iload_n hx hb dJ7_copyOfRangeByte_39247_9 rfl (lv_at hl 0 rfl) ?_
  refine xj_newa (N := n) hx hb (hts (.arrayClass .byte) (by decide +kernel)) hK hP hD hS hX (by omega) (Nat.le_of_ble_eq_true rfl) (by show 0 + 0 + n ≤ 148; omega) dJ7_copyOfRangeByte_39247_10 (fun na H hP hD hS => ?_)
  refine lv_astore (lv' := [(4, .ref na), (3, .int (nI n)), (0, .ref arr), (1, .int 0), (2, .int (nI n))]) hx hb dJ7_copyOfRangeByte_39247_12 hl (by decide) rfl (fun ls hl => ?_)
  refine lv_aload_n hx hb dJ7_copyOfRangeByte_39247_14 rfl (lv_at hl 2 rfl) ?_
  refine lv_iload_n hx hb dJ7_copyOfRangeByte_39247_15 rfl (lv_at hl 3 rfl) ?_
  refine lv_aload hx hb dJ7_copyOfRangeByte_39247_16 (lv_at hl 0 rfl) ?_
  refine lv_iconst (v := 0) hx hb dJ7_copyOfRangeByte_39247_18 (by decide) ?_
  refine lv_aload_n hx hb dJ7_copyOfRangeByte_39247_19 rfl (lv_at hl 2 rfl) ?_
  refine va_alen (v := nI mz) hx hb hK hP 1 0 rfl rfl rfl dJ7_copyOfRangeByte_39247_20 ?_
  refine lv_iload_n hx hb dJ7_copyOfRangeByte_39247_21 rfl (lv_at hl 3 rfl) ?_
  refine xsub (z := nI mz) hx hb (ixSub (a := mz) (c := 0) (d := mz) rfl rfl (by omega)) dJ7_copyOfRangeByte_39247_22 ?_
  refine lv_iload_n hx hb dJ7_copyOfRangeByte_39247_23 rfl (lv_at hl 1 rfl) ?_
  refine x_mmin hx hb (hml.trans hl.1.symm) hown (hts (.methodLink RJ7 304 Lib.Math.min.name) (by decide +kernel)) (hts (.static Lib.Math.min.name) (by decide +kernel)) (hts (.initialized "java/lang/Math") (by decide +kernel)) (hts (.code Lib.Math.min.name Lib.Math.min.code 2 (some .int)) (by decide +kernel)) (Nat.le_of_ble_eq_true rfl) (Nat.le_of_ble_eq_true rfl) (Nat.le_of_ble_eq_true rfl) (by show 0 + 0 + n ≤ 148; omega) dJ7_copyOfRangeByte_39247_24 ?_
  refine W.eq (g2 := F0 m 27 ls (.int (nI n) :: .int 0 :: .ref na :: .int 0 :: .ref arr :: [])) (congrArg (fun z => F0 m 27 ls (.int z :: .int 0 :: .ref na :: .int 0 :: .ref arr :: [])) (xmin_nI' hn (by omega))) ?_
  refine va_copyi hx hb (hml.trans hl.1.symm) hown (hts (.methodLink RJ7 150 arraycopyName) (by decide +kernel)) (hts (.native arraycopyName) (by decide +kernel)) (hts (.static arraycopyName) (by decide +kernel)) (hts (.initialized "java/lang/System") (by decide +kernel)) hK hP hD hS 1 0 0 0 rfl rfl rfl rfl rfl (by decide) (by decide) (nI_pos (by omega)) (by rw [show (0 : Int32).toNatClampNeg = 0 from rfl, nI_clamp (show n < 2 ^ 31 by omega)]; omega) (by rw [show (0 : Int32).toNatClampNeg = 0 from rfl, nI_clamp (show n < 2 ^ 31 by omega)]; omega) (fun i _ => hf _) (Nat.le_of_ble_eq_true rfl) (Nat.le_of_ble_eq_true rfl) dJ7_copyOfRangeByte_39247_27 (fun H locs hP hD hS => ?_)
  rw [show (0 : Int32).toNatClampNeg = 0 from rfl, nI_clamp (show n < 2 ^ 31 by omega)] at hP hD
  have hP : va_P D vwCl ((na, jE1 cy n (va_cpy f (fun _ => 0) 0 0 n)) :: (arr, jE1 cy mz f) :: tl) H := hP
  have hD : va_D A ((na, jE1 cy n (va_cpy f (fun _ => 0) 0 0 n)) :: (arr, jE1 cy mz f) :: tl) := hD
  refine lv_aload hx hb dJ7_copyOfRangeByte_39247_30 (lv_at hl 0 rfl) ?_
  exact je_n hx hb hr (Or.inr ⟨_, rfl⟩) hlocks (va_cpy f (fun _ => 0) 0 0 n) (⟨hf.cpy JF.z 0 0 n, fun j hj => by unfold va_cpy; rw [if_pos (by omega)]; congr 1; omega⟩) hP hD hS rfl (Nat.le_of_ble_eq_true rfl) (by show 0 + 0 + n ≤ 148; omega) dJ7_copyOfRangeByte_39247_32

set_option maxHeartbeats 4000000 in
set_option maxRecDepth 100000 in
theorem c_J7_copyOfRange_39247 (l : Launch) (D : va_G) (cy : Nat → ClassId) (A : Nat → Prop) (tl : va_W) (tx : List (Nat × List Int32)) (arr mz : Nat) (f : Nat → Int32) (n : Nat) (hn : n ≤ mz) (hm : mz ≤ 148) (hf : JF f) : Met l yJ7_copyOfRange_39247 wsJ7_copyOfRange_39247 ({ frames := 2, cells := 1, slots := 148, locals := 160 } : Room) (JP D cy A ((arr, jE1 cy mz f) :: tl) tx [.ref arr, .int 0, .int (nI n)]) (JQn D A (fun u : Nat → Int32 => JF u ∧ ∀ j, j < n → u j = f j) (fun u a => (a, jE1 cy n u) :: (arr, jE1 cy mz f) :: tl)) 1 148 A := by
  refine Met.ofW (cc := cJ7_copyOfRange_39247) (maxL := 3) (ret := (some (.array .byte))) (by decide) rfl ?_
  intro p e s m args below meth c s₁ B hml hv
  obtain ⟨rfl, ⟨hP, hD⟩, hK, hX, hT⟩ := hv
  have hx := B.exec
  have hb := B.bytes
  have hr := B.returns
  have hts := atoms_spec (ws := wsJ7_copyOfRange_39247) B.pre
  have hown : s.vm.findClass RJ7 = some m.cls := findClass_of_methodNamed B.named
  have hlocks := B.notSynchronized
  have hS : va_S A s.heap s.heap [] := va_S.rf
  have hl := lv_entry ([.ref arr, .int 0, .int (nI n)]) (n := 3) (Nat.le_of_ble_eq_true rfl)
  rw [lg_entry_eq]
  generalize (lg_sl ([.ref arr, .int 0, .int (nI n)]) ++ List.replicate (3 - (lg_sl ([.ref arr, .int 0, .int (nI n)])).length) Slot.unset).toArray = ls at hl ⊢
  have hl : lv_has ls 3 [(0, .ref arr), (1, .int 0), (2, .int (nI n))] := hl
  refine lv_iload_n hx hb dJ7_copyOfRange_39247_0 rfl (lv_at hl 1 rfl) ?_
  refine lv_if_ne (tgt := 10) hx hb dJ7_copyOfRange_39247_1 (by decide) (fun c1 => absurd rfl c1) (fun c1 => ?_)
  by_cases hnm : n = mz
  · refine lv_iload_n hx hb dJ7_copyOfRange_39247_4 rfl (lv_at hl 2 rfl) ?_
    refine lv_aload_n hx hb dJ7_copyOfRange_39247_5 rfl (lv_at hl 0 rfl) ?_
    refine va_alen (v := nI mz) hx hb hK hP 0 0 rfl rfl rfl dJ7_copyOfRange_39247_6 ?_
    refine lv_icmp_eq (tgt := 17) hx hb dJ7_copyOfRange_39247_7 (by decide) (fun c7 => ?_) (fun c7 => absurd (congrArg nI hnm) c7)
    refine lv_aload_n hx hb dJ7_copyOfRange_39247_17 rfl (lv_at hl 0 rfl) ?_
    have hcn : s.vm.findClass "[B" = some (cy 0) := (hK.2 0 (cy 0, .byte) rfl).2
    refine va_clone (ad := "[B") (x := (mz, .inl f)) hx hb (hml.trans hl.1.symm) hown (hts (.methodLink RJ7 310 ⟨"[B", "clone", "()Ljava/lang/Object;"⟩) (by decide +kernel)) (hts (.sameMethod "[B" "java/lang/Object" "clone" "()Ljava/lang/Object;") (by decide +kernel)) (hts (.native ⟨"java/lang/Object", "clone", "()Ljava/lang/Object;"⟩) (by decide +kernel)) (hts (.instanceMethod ⟨"java/lang/Object", "clone", "()Ljava/lang/Object;"⟩) (by decide +kernel)) (hts (.selects "[B" ⟨"[B", "clone", "()Ljava/lang/Object;"⟩ ⟨"java/lang/Object", "clone", "()Ljava/lang/Object;"⟩) (by decide +kernel)) hX.2.2.2.2.1 hK hP hD hS hX.2.2.2.2.2 0 0 rfl rfl hcn (fun i v h => jfits hf i v h) (Nat.le_of_ble_eq_true rfl) (Nat.le_of_ble_eq_true rfl) (Nat.le_of_ble_eq_true rfl) (by show 0 + mz ≤ 148; omega) dJ7_copyOfRange_39247_18 (fun na H hK1 hP hD hS => ?_)
    obtain ⟨hP, hD⟩ := jtop ⟨hP, hD⟩
    refine va_castA (x := (mz, .inl f)) hx hb hown (hts (.classLink RJ7 311 "[B") (by decide +kernel)) hP 0 rfl hcn dJ7_copyOfRange_39247_21 ?_
    subst hnm
    exact je_n hx hb hr (Or.inr ⟨_, rfl⟩) hlocks (f) (⟨hf, fun j hj => rfl⟩) hP hD hS rfl (Nat.le_of_ble_eq_true rfl) (by show _ ≤ 148; omega) dJ7_copyOfRange_39247_24
  · refine lv_iload_n hx hb dJ7_copyOfRange_39247_4 rfl (lv_at hl 2 rfl) ?_
    refine lv_aload_n hx hb dJ7_copyOfRange_39247_5 rfl (lv_at hl 0 rfl) ?_
    refine va_alen (v := nI mz) hx hb hK hP 0 0 rfl rfl rfl dJ7_copyOfRange_39247_6 ?_
    refine lv_icmp_eq (tgt := 17) hx hb dJ7_copyOfRange_39247_7 (by decide) (fun c7 => absurd c7 (nI_nq hnm (by omega) (by omega))) (fun c7 => ?_)
    refine lv_aload_n hx hb dJ7_copyOfRange_39247_10 rfl (lv_at hl 0 rfl) ?_
    refine lv_iload_n hx hb dJ7_copyOfRange_39247_11 rfl (lv_at hl 1 rfl) ?_
    refine lv_iload_n hx hb dJ7_copyOfRange_39247_12 rfl (lv_at hl 2 rfl) ?_
    refine xj_n (va_runS (As := [.ref arr, .int 0, .int (nI n)]) (rest := []) ⟨hx, hb, hml, hown, hts⟩ (c_J7_copyOfRangeByte_39247 l D cy A tl tx arr mz f n hn hm hf) (va_cwS 3 hts gJ7_copyOfRange_39247_J7_copyOfRangeByte_39247 rfl rfl rfl (by decide +kernel) ⟨Nat.le_of_ble_eq_true rfl, Nat.le_of_ble_eq_true rfl⟩) (jPreS hP hD hK hX hT hS) rfl rfl hl.1 rfl (lv_room (Nat.le_of_ble_eq_true rfl)) dJ7_copyOfRange_39247_13 ⟨Nat.le_of_ble_eq_true rfl, Nat.le_of_ble_eq_true rfl⟩) hS (fun u na2 H locs hu hP hD hS => ?_)
    have hP : va_P D vwCl ((na2, jE1 cy n u) :: (arr, jE1 cy mz f) :: tl) H := hP
    have hD : va_D A ((na2, jE1 cy n u) :: (arr, jE1 cy mz f) :: tl) := hD
    exact je_n hx hb hr (Or.inr ⟨_, rfl⟩) hlocks (u) (hu) hP hD hS rfl (Nat.le_of_ble_eq_true rfl) (Nat.le_of_ble_eq_true rfl) dJ7_copyOfRange_39247_16

set_option maxHeartbeats 4000000 in
set_option maxRecDepth 100000 in
theorem c_J0_init_db425 (l : Launch) (D : va_G) (cy : Nat → ClassId) (A : Nat → Prop) (tl : va_W) (tx : List (Nat × List Int32)) (st sb arr mz : Nat) (f : Nat → Int32) (L : List Int32) (hB : JB L (arr, mz, f))  : Met l yJ0_init_db425 wsJ0_init_db425 ({ frames := 5, cells := 1, slots := 148, locals := 240 } : Room) (JP D cy A ((st, .inr (9, [.null, .int 0, .int 0, .int 0])) :: (sb, jE0 arr (nI L.length)) :: (arr, jE1 cy mz f) :: tl) tx [.ref st, .ref sb, .null]) (JQv D A (fun u : Nat × (Nat → Int32) => JF u.2 ∧ JL u.2 L) (fun u => (st, .inr (9, [.ref u.1, .int 0, .int 0, .int 0])) :: (u.1, jE1 cy L.length u.2) :: tl)) 1 148 A := by
  refine Met.ofW (cc := cJ0_init_db425) (maxL := 5) (ret := none) (by decide) rfl ?_
  intro p e s m args below meth c s₁ B hml hv
  obtain ⟨rfl, ⟨hP, hD⟩, hK, hX, hT⟩ := hv
  have hx := B.exec
  have hb := B.bytes
  have hr := B.returns
  have hts := atoms_spec (ws := wsJ0_init_db425) B.pre
  have hown : s.vm.findClass RJ0 = some m.cls := findClass_of_methodNamed B.named
  have hlocks := B.notSynchronized
  have hS : va_S A s.heap s.heap [] := va_S.rf
  have hl := lv_entry ([.ref st, .ref sb, .null]) (n := 5) (Nat.le_of_ble_eq_true rfl)
  rw [lg_entry_eq]
  generalize (lg_sl ([.ref st, .ref sb, .null]) ++ List.replicate (5 - (lg_sl ([.ref st, .ref sb, .null])).length) Slot.unset).toArray = ls at hl ⊢
  have hl : lv_has ls 5 [(0, .ref st), (1, .ref sb), (2, .null)] := hl
  have inc4 : ∀ w ∈ u_ws RJ4 TJ4 4, w ∈ wsJ0_init_db425 := by decide +kernel
  have inc0 : ∀ w ∈ u_ws RJ0 TJ0 4, w ∈ wsJ0_init_db425 := by decide +kernel
  have hinit : meth.name = "<init>" := (name_of_methodNamed B.named B.method).1
  refine lv_aload_n hx hb dJ0_init_db425_0 rfl (lv_at hl 0 rfl) ?_
  refine W.objInit hx hb hown (hts (.methodLink RJ0 1 objectInit) (by decide +kernel)) (hts (.instanceMethod objectInit) (by decide +kernel)) (hts (.code objectInit ⟨#[0xb1]⟩ 1 none) (by decide +kernel)) rfl (by rw [hml]; exact hl.1) rfl dJ0_init_db425_1 (Nat.le_of_ble_eq_true rfl) (Nat.le_of_ble_eq_true rfl) ?_
  refine W.eq (g2 := F0 m 4 ls ([])) rfl ?_
  refine lv_aload_n hx hb dJ0_init_db425_4 rfl (lv_at hl 1 rfl) ?_
  obtain ⟨hP, hD⟩ := jswap hP hD
  refine xj_a (va_runU (As := []) (rest := []) ⟨hx, hb, hml, hown, hts⟩ (c_J5_getValue_6d5f1 l D cy A ((st, .inr (9, [.null, .int 0, .int 0, .int 0])) :: (arr, jE1 cy mz f) :: tl) tx sb arr (nI L.length)) (va_cwU 0 hts gJ0_init_db425_J5_getValue_6d5f1_u552J4 rfl rfl rfl rfl (by decide +kernel) ⟨Nat.le_of_ble_eq_true rfl, Nat.le_of_ble_eq_true rfl⟩) (jPreV 0 hP hD hK hX hT hS rfl rfl) rfl rfl hl.1 rfl (lv_room (Nat.le_of_ble_eq_true rfl)) dJ0_init_db425_5 ⟨Nat.le_of_ble_eq_true rfl, Nat.le_of_ble_eq_true rfl⟩) hS (fun _ H locs _ hP hD hS => ?_)
  refine lv_astore_n (lv' := [(3, .ref arr), (0, .ref st), (1, .ref sb), (2, .null)]) hx hb dJ0_init_db425_8 rfl hl (by decide) rfl (fun ls hl => ?_)
  refine lv_aload_n hx hb dJ0_init_db425_9 rfl (lv_at hl 2 rfl) ?_
  refine xj_i (va_runU (As := []) (rest := []) ⟨hx, hb, hml, hown, hts⟩ (c_J4_length_8abf5 l D cy A ((st, .inr (9, [.null, .int 0, .int 0, .int 0])) :: (arr, jE1 cy mz f) :: tl) tx sb arr (nI L.length)) (va_cwO 0 hts gJ0_init_db425_J4_length_8abf5_u549J4 rfl rfl rfl (show Cond.code yJ5_length_8abf5 cJ5_length_8abf5 1 (some .int) ∈ wsJ0_init_db425 from by decide +kernel) (by decide +kernel) ⟨Nat.le_of_ble_eq_true rfl, Nat.le_of_ble_eq_true rfl⟩) (jPreV 0 hP hD hK hX hT hS rfl rfl) rfl rfl hl.1 rfl (lv_room (Nat.le_of_ble_eq_true rfl)) dJ0_init_db425_10 ⟨Nat.le_of_ble_eq_true rfl, Nat.le_of_ble_eq_true rfl⟩) hS (fun H locs hP hD hS => ?_)
  refine lv_istore (lv' := [(4, .int (nI L.length)), (3, .ref arr), (0, .ref st), (1, .ref sb), (2, .null)]) hx hb dJ0_init_db425_13 hl (by decide) rfl (fun ls hl => ?_)
  refine lv_aload_n hx hb dJ0_init_db425_15 rfl (lv_at hl 3 rfl) ?_
  refine xj_i (va_runU (As := []) (rest := []) ⟨hx, hb, hml, hown, hts⟩ (c_J5_isLatin1_aae02 l D cy A ((st, .inr (9, [.null, .int 0, .int 0, .int 0])) :: (arr, jE1 cy mz f) :: tl) tx sb arr (nI L.length)) (va_cwU 0 hts gJ0_init_db425_J5_isLatin1_aae02_u1047J4 rfl rfl rfl rfl (by decide +kernel) ⟨Nat.le_of_ble_eq_true rfl, Nat.le_of_ble_eq_true rfl⟩) (jPreV 0 hP hD hK hX hT hS rfl rfl) rfl rfl hl.1 rfl (lv_room (Nat.le_of_ble_eq_true rfl)) dJ0_init_db425_16 ⟨Nat.le_of_ble_eq_true rfl, Nat.le_of_ble_eq_true rfl⟩) hS (fun H locs hP hD hS => ?_)
  refine lv_if_eq (tgt := 41) hx hb dJ0_init_db425_19 (by decide) (fun c19 => absurd c19 (by decide)) (fun c19 => ?_)
  refine lv_aload_n hx hb dJ0_init_db425_22 rfl (lv_at hl 2 rfl) ?_
  refine lv_iconst (v := 0) hx hb dJ0_init_db425_23 (by decide) ?_
  refine va_putF (C := RJ0) (T := TJ0) (N := 4) (ci := 9) hx hb hts inc0 tyJ0 tyJ0_ok nmJ0 hown hK hP hD hS 1 rfl rfl 1 (by decide) (hts (.fieldLink RJ0 15 "java/lang/String" "coder" "B") (by decide +kernel)) (fun _ h => h) rfl hinit rfl rfl rfl rfl (Nat.le_of_ble_eq_true rfl) dJ0_init_db425_24 (fun H locs hP hD hS => ?_)
  have hP : va_P D vwCl ((sb, jE0 arr (nI L.length)) :: (st, .inr (9, [.null, .int 0, .int 0, .int 0])) :: (arr, jE1 cy mz f) :: tl) H := hP
  have hD : va_D A ((sb, jE0 arr (nI L.length)) :: (st, .inr (9, [.null, .int 0, .int 0, .int 0])) :: (arr, jE1 cy mz f) :: tl) := hD
  refine lv_aload_n hx hb dJ0_init_db425_27 rfl (lv_at hl 2 rfl) ?_
  refine lv_aload_n hx hb dJ0_init_db425_28 rfl (lv_at hl 1 rfl) ?_
  refine lv_iconst (v := 0) hx hb dJ0_init_db425_29 (by decide) ?_
  refine lv_iload hx hb dJ0_init_db425_30 (lv_at hl 0 rfl) ?_
  obtain ⟨hP, hD⟩ := jrot3 hP hD
  refine xj_n (va_runS (As := [.ref arr, .int 0, .int (nI L.length)]) (rest := [.ref st]) ⟨hx, hb, hml, hown, hts⟩ (c_J7_copyOfRange_39247 l D cy A ((sb, jE0 arr (nI L.length)) :: (st, .inr (9, [.null, .int 0, .int 0, .int 0])) :: tl) tx arr mz f L.length hB.2.1 hB.1 hB.2.2.1) (va_cwS 3 hts gJ0_init_db425_J7_copyOfRange_39247 rfl rfl rfl (by decide +kernel) ⟨Nat.le_of_ble_eq_true rfl, Nat.le_of_ble_eq_true rfl⟩) (jPreS hP hD hK hX hT hS) rfl rfl hl.1 rfl (lv_room (Nat.le_of_ble_eq_true rfl)) dJ0_init_db425_32 ⟨Nat.le_of_ble_eq_true rfl, Nat.le_of_ble_eq_true rfl⟩) hS (fun u na H locs hu hP hD hS => ?_)
  have hP : va_P D vwCl ((na, jE1 cy L.length u) :: (arr, jE1 cy mz f) :: (sb, jE0 arr (nI L.length)) :: (st, .inr (9, [.null, .int 0, .int 0, .int 0])) :: tl) H := hP
  have hD : va_D A ((na, jE1 cy L.length u) :: (arr, jE1 cy mz f) :: (sb, jE0 arr (nI L.length)) :: (st, .inr (9, [.null, .int 0, .int 0, .int 0])) :: tl) := hD
  refine va_putF (C := RJ0) (T := TJ0) (N := 4) (ci := 9) hx hb hts inc0 tyJ0 tyJ0_ok nmJ0 hown hK hP hD hS 3 rfl rfl 0 (by decide) (hts (.fieldLink RJ0 9 "java/lang/String" "value" "[B") (by decide +kernel)) (fun _ h => h) rfl hinit rfl rfl rfl rfl (Nat.le_of_ble_eq_true rfl) dJ0_init_db425_35 (fun H locs hP hD hS => ?_)
  have hP : va_P D vwCl ((na, jE1 cy L.length u) :: (arr, jE1 cy mz f) :: (sb, jE0 arr (nI L.length)) :: (st, .inr (9, [.ref na, .int 0, .int 0, .int 0])) :: tl) H := hP
  have hD : va_D A ((na, jE1 cy L.length u) :: (arr, jE1 cy mz f) :: (sb, jE0 arr (nI L.length)) :: (st, .inr (9, [.ref na, .int 0, .int 0, .int 0])) :: tl) := hD
  refine lv_goto (tgt := 97) hx hb dJ0_init_db425_38 (by decide) ?_
  obtain ⟨hP, hD⟩ := jfin hP hD
  exact je_v hx hb hr hlocks ((na, u)) (⟨hu.1, hB.2.2.2.eqv hu.2⟩) hP hD hS rfl (Nat.le_of_ble_eq_true rfl) (Nat.le_of_ble_eq_true rfl) dJ0_init_db425_97

set_option maxHeartbeats 4000000 in
set_option maxRecDepth 100000 in
theorem c_J0_init_81219 (l : Launch) (D : va_G) (cy : Nat → ClassId) (A : Nat → Prop) (tl : va_W) (tx : List (Nat × List Int32)) (st sb arr mz : Nat) (f : Nat → Int32) (L : List Int32) (hB : JB L (arr, mz, f))  : Met l yJ0_init_81219 wsJ0_init_81219 ({ frames := 6, cells := 1, slots := 148, locals := 270 } : Room) (JP D cy A ((st, .inr (9, [.null, .int 0, .int 0, .int 0])) :: (sb, jE0 arr (nI L.length)) :: (arr, jE1 cy mz f) :: tl) tx [.ref st, .ref sb]) (JQv D A (fun u : Nat × (Nat → Int32) => JF u.2 ∧ JL u.2 L) (fun u => (st, .inr (9, [.ref u.1, .int 0, .int 0, .int 0])) :: (u.1, jE1 cy L.length u.2) :: tl)) 1 148 A := by
  refine Met.ofW (cc := cJ0_init_81219) (maxL := 2) (ret := none) (by decide) rfl ?_
  intro p e s m args below meth c s₁ B hml hv
  obtain ⟨rfl, ⟨hP, hD⟩, hK, hX, hT⟩ := hv
  have hx := B.exec
  have hb := B.bytes
  have hr := B.returns
  have hts := atoms_spec (ws := wsJ0_init_81219) B.pre
  have hown : s.vm.findClass RJ0 = some m.cls := findClass_of_methodNamed B.named
  have hlocks := B.notSynchronized
  have hS : va_S A s.heap s.heap [] := va_S.rf
  have hl := lv_entry ([.ref st, .ref sb]) (n := 2) (Nat.le_of_ble_eq_true rfl)
  rw [lg_entry_eq]
  generalize (lg_sl ([.ref st, .ref sb]) ++ List.replicate (2 - (lg_sl ([.ref st, .ref sb])).length) Slot.unset).toArray = ls at hl ⊢
  have hl : lv_has ls 2 [(0, .ref st), (1, .ref sb)] := hl
  have hinit : meth.name = "<init>" := (name_of_methodNamed B.named B.method).1
  refine lv_aload_n hx hb dJ0_init_81219_0 rfl (lv_at hl 0 rfl) ?_
  refine lv_aload_n hx hb dJ0_init_81219_1 rfl (lv_at hl 1 rfl) ?_
  refine lv_null hx hb dJ0_init_81219_2 ?_
  refine xj_v (va_runI (As := [.ref sb, .null]) (rest := []) ⟨hx, hb, hml, hown, hts⟩ (c_J0_init_db425 l D cy A tl tx st sb arr mz f L hB) (cwI 2 hts gJ0_init_81219_J0_init_db425 rfl rfl rfl (hts (.initialized RJ0) (by decide +kernel)) (hts (.methodLink RJ0 489 yJ0_init_db425) (by decide +kernel)) (hts (.instanceMethod yJ0_init_db425) (by decide +kernel)) rfl (by decide +kernel) ⟨Nat.le_of_ble_eq_true rfl, Nat.le_of_ble_eq_true rfl⟩) (jPreS hP hD hK hX hT hS) rfl rfl hl.1 rfl (lv_room (Nat.le_of_ble_eq_true rfl)) dJ0_init_81219_3 ⟨Nat.le_of_ble_eq_true rfl, Nat.le_of_ble_eq_true rfl⟩) hS (fun u H locs hu hP hD hS => ?_)
  have hP : va_P D vwCl ((st, .inr (9, [.ref u.1, .int 0, .int 0, .int 0])) :: (u.1, jE1 cy L.length u.2) :: tl) H := hP
  have hD : va_D A ((st, .inr (9, [.ref u.1, .int 0, .int 0, .int 0])) :: (u.1, jE1 cy L.length u.2) :: tl) := hD
  exact je_v hx hb hr hlocks (u) (hu) hP hD hS rfl (Nat.le_of_ble_eq_true rfl) (Nat.le_of_ble_eq_true rfl) dJ0_init_81219_6

set_option maxHeartbeats 4000000 in
set_option maxRecDepth 100000 in
theorem c_J4_toString_0e30d (l : Launch) (D : va_G) (cy : Nat → ClassId) (A : Nat → Prop) (tl : va_W) (tx : List (Nat × List Int32)) (sb arr mz : Nat) (f : Nat → Int32) (L : List Int32) (hB : JB L (arr, mz, f))  : Met l yJ4_toString_0e30d wsJ4_toString_0e30d ({ frames := 7, cells := 2, slots := 152, locals := 300 } : Room) (JP D cy A ((sb, jE0 arr (nI L.length)) :: (arr, jE1 cy mz f) :: tl) tx [.ref sb]) (JQn D A (fun u : Nat × (Nat → Int32) => JF u.2 ∧ JL u.2 L) (fun u st => (st, .inr (9, [.ref u.1, .int 0, .int 0, .int 0])) :: (u.1, jE1 cy L.length u.2) :: tl)) 2 152 A := by
  refine Met.ofW (cc := cJ4_toString_0e30d) (maxL := 1) (ret := (some (.object "java/lang/String"))) (by decide) rfl ?_
  intro p e s m args below meth c s₁ B hml hv
  obtain ⟨rfl, ⟨hP, hD⟩, hK, hX, hT⟩ := hv
  have hx := B.exec
  have hb := B.bytes
  have hr := B.returns
  have hts := atoms_spec (ws := wsJ4_toString_0e30d) B.pre
  have hown : s.vm.findClass RJ4 = some m.cls := findClass_of_methodNamed B.named
  have hlocks := B.notSynchronized
  have hS : va_S A s.heap s.heap [] := va_S.rf
  have hl := lv_entry ([.ref sb]) (n := 1) (Nat.le_of_ble_eq_true rfl)
  rw [lg_entry_eq]
  generalize (lg_sl ([.ref sb]) ++ List.replicate (1 - (lg_sl ([.ref sb])).length) Slot.unset).toArray = ls at hl ⊢
  have hl : lv_has ls 1 [(0, .ref sb)] := hl
  have inc0 : ∀ w ∈ u_ws RJ0 TJ0 4, w ∈ wsJ4_toString_0e30d := by decide +kernel
  refine xj_new (own := RJ4) (C := RJ0) (T := TJ0) (N := 4) (ci := 9) (fs := [.null, .int 0, .int 0, .int 0]) hx hb hts inc0 tyJ0 tyJ0_ok hown (hts (.classLink RJ4 18 RJ0) (by decide +kernel)) (hts (.instantiable RJ0 4) (by decide +kernel)) (hts (.initialized RJ0) (by decide +kernel)) hK hP hD hS hX rfl (by decide) (Nat.le_of_ble_eq_true rfl) (Nat.le_of_ble_eq_true rfl) dJ4_toString_0e30d_0 (fun st H hst hP hD hS => ?_)
  refine lv_dup hx hb dJ4_toString_0e30d_3 rfl ?_
  refine lv_aload_n hx hb dJ4_toString_0e30d_4 rfl (lv_at hl 0 rfl) ?_
  refine xj_v (va_runI (As := [.ref sb]) (rest := [.ref st]) ⟨hx, hb, hml, hown, hts⟩ (c_J0_init_81219 l D cy A tl tx st sb arr mz f L hB) (cwI 1 hts gJ4_toString_0e30d_J0_init_81219 rfl rfl rfl (hts (.initialized RJ0) (by decide +kernel)) (hts (.methodLink RJ4 137 yJ0_init_81219) (by decide +kernel)) (hts (.instanceMethod yJ0_init_81219) (by decide +kernel)) rfl (by decide +kernel) ⟨Nat.le_of_ble_eq_true rfl, Nat.le_of_ble_eq_true rfl⟩) (jPreS hP hD hK hX hT hS) rfl rfl hl.1 rfl (lv_room (Nat.le_of_ble_eq_true rfl)) dJ4_toString_0e30d_5 ⟨Nat.le_of_ble_eq_true rfl, Nat.le_of_ble_eq_true rfl⟩) hS (fun u H locs hu hP hD hS => ?_)
  have hP : va_P D vwCl ((st, .inr (9, [.ref u.1, .int 0, .int 0, .int 0])) :: (u.1, jE1 cy L.length u.2) :: tl) H := hP
  have hD : va_D A ((st, .inr (9, [.ref u.1, .int 0, .int 0, .int 0])) :: (u.1, jE1 cy L.length u.2) :: tl) := hD
  exact je_n hx hb hr (Or.inl ⟨_, rfl⟩) hlocks (u) (hu) hP hD hS rfl (Nat.le_of_ble_eq_true rfl) (Nat.le_of_ble_eq_true rfl) dJ4_toString_0e30d_8
