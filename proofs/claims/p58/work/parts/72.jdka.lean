/-! the JDK, the builder of strings: room, one letter more (laid by a program) -/
set_option maxHeartbeats 4000000 in
set_option maxRecDepth 100000 in
theorem c_J5_isLatin1_aae02 (l : Launch) (D : va_G) (cy : Nat → ClassId) (A : Nat → Prop) (tl : va_W) (tx : List (Nat × List Int32)) (sb arr : Nat) (cnt : Int32) : Met l yJ5_isLatin1_aae02 wsJ5_isLatin1_aae02 ({ frames := 0, cells := 0, slots := 0, locals := 0 } : Room) (JP D cy A ((sb, jE0 arr cnt) :: tl) tx [.ref sb]) (JQi D A ((sb, jE0 arr cnt) :: tl) 1) 0 0 A := by
  refine Met.ofW (cc := cJ5_isLatin1_aae02) (maxL := 1) (ret := (some .boolean)) (by decide) rfl ?_
  intro p e s m args below meth c s₁ B hml hv
  obtain ⟨rfl, ⟨hP, hD⟩, hK, hX, hT⟩ := hv
  have hx := B.exec
  have hb := B.bytes
  have hr := B.returns
  have hts := atoms_spec (ws := wsJ5_isLatin1_aae02) B.pre
  have hown : s.vm.findClass RJ5 = some m.cls := findClass_of_methodNamed B.named
  have hlocks := B.notSynchronized
  have hS : va_S A s.heap s.heap [] := va_S.rf
  have hl := lv_entry ([.ref sb]) (n := 1) (Nat.le_of_ble_eq_true rfl)
  rw [lg_entry_eq]
  generalize (lg_sl ([.ref sb]) ++ List.replicate (1 - (lg_sl ([.ref sb])).length) Slot.unset).toArray = ls at hl ⊢
  have hl : lv_has ls 1 [(0, .ref sb)] := hl
  have inc4 : ∀ w ∈ u_ws RJ4 TJ4 4, w ∈ wsJ5_isLatin1_aae02 := by decide +kernel
  refine va_gets hx hb hX.1 hS hown (hts (.fieldLink RJ5 18 "java/lang/String" "COMPACT_STRINGS" "Z") (by decide +kernel)) (fun _ h => h) dJ5_isLatin1_aae02_0 ?_
  refine lv_if_eq (tgt := 17) hx hb dJ5_isLatin1_aae02_3 (by decide) (fun c3 => absurd c3 (by decide)) (fun c3 => ?_)
  refine lv_aload_n hx hb dJ5_isLatin1_aae02_6 rfl (lv_at hl 0 rfl) ?_
  refine va_get (C := RJ4) (T := TJ4) (N := 4) (ci := 8) (v := .int 0) hx hb hts inc4 hown hK hP 0 rfl rfl 1 (by decide) (hts (.fieldLink RJ5 22 "java/lang/AbstractStringBuilder" "coder" "B") (by decide +kernel)) (fun _ h => h) rfl dJ5_isLatin1_aae02_7 ?_
  refine lv_if_ne (tgt := 17) hx hb dJ5_isLatin1_aae02_10 (by decide) (fun c10 => absurd rfl c10) (fun c10 => ?_)
  refine lv_iconst (v := 1) hx hb dJ5_isLatin1_aae02_13 (by decide) ?_
  refine lv_goto (tgt := 18) hx hb dJ5_isLatin1_aae02_14 (by decide) ?_
  exact je_i hx hb hr hlocks hP hD hS rfl rfl rfl (Nat.le_of_ble_eq_true rfl) (Nat.le_of_ble_eq_true rfl) dJ5_isLatin1_aae02_18

set_option maxHeartbeats 4000000 in
set_option maxRecDepth 100000 in
theorem c_J8_newLength_cabcc (l : Launch) (D : va_G) (cy : Nat → ClassId) (A : Nat → Prop) (tl : va_W) (tx : List (Nat × List Int32)) (q mz : Nat) (hqm : mz < q) (hq : q ≤ 74) : Met l yJ8_newLength_cabcc wsJ8_newLength_cabcc ({ frames := 1, cells := 0, slots := 0, locals := 40 } : Room) (JP D cy A (tl) tx [.int (nI mz), .int (nI (q - mz)), .int (nI (mz + 2))]) (JQi D A tl (nI (jcap q mz))) 0 0 A := by
  refine Met.ofW (cc := cJ8_newLength_cabcc) (maxL := 4) (ret := (some .int)) (by decide) rfl ?_
  intro p e s m args below meth c s₁ B hml hv
  obtain ⟨rfl, ⟨hP, hD⟩, hK, hX, hT⟩ := hv
  have hx := B.exec
  have hb := B.bytes
  have hr := B.returns
  have hts := atoms_spec (ws := wsJ8_newLength_cabcc) B.pre
  have hown : s.vm.findClass RJ8 = some m.cls := findClass_of_methodNamed B.named
  have hlocks := B.notSynchronized
  have hS : va_S A s.heap s.heap [] := va_S.rf
  have hl := lv_entry ([.int (nI mz), .int (nI (q - mz)), .int (nI (mz + 2))]) (n := 4) (Nat.le_of_ble_eq_true rfl)
  rw [lg_entry_eq]
  generalize (lg_sl ([.int (nI mz), .int (nI (q - mz)), .int (nI (mz + 2))]) ++ List.replicate (4 - (lg_sl ([.int (nI mz), .int (nI (q - mz)), .int (nI (mz + 2))])).length) Slot.unset).toArray = ls at hl ⊢
  have hl : lv_has ls 4 [(0, .int (nI mz)), (1, .int (nI (q - mz))), (2, .int (nI (mz + 2)))] := hl
  refine lv_iload_n hx hb dJ8_newLength_cabcc_0 rfl (lv_at hl 0 rfl) ?_
  refine lv_iload_n hx hb dJ8_newLength_cabcc_1 rfl (lv_at hl 1 rfl) ?_
  refine lv_iload_n hx hb dJ8_newLength_cabcc_2 rfl (lv_at hl 2 rfl) ?_
  refine x_mmax hx hb (hml.trans hl.1.symm) hown (hts (.methodLink RJ8 194 Lib.Math.max.name) (by decide +kernel)) (hts (.static Lib.Math.max.name) (by decide +kernel)) (hts (.initialized "java/lang/Math") (by decide +kernel)) (hts (.code Lib.Math.max.name Lib.Math.max.code 2 (some .int)) (by decide +kernel)) (Nat.le_of_ble_eq_true rfl) (Nat.le_of_ble_eq_true rfl) (Nat.le_of_ble_eq_true rfl) (Nat.le_of_ble_eq_true rfl) dJ8_newLength_cabcc_3 ?_
  refine W.eq (g2 := F0 m 6 ls (.int (nI (max (q - mz) (mz + 2))) :: .int (nI mz) :: [])) (congrArg (fun z => F0 m 6 ls (.int z :: .int (nI mz) :: [])) (xmax_nI (by omega) (by omega))) ?_
  have hj : jcap q mz ≤ 148 := jcap_le hqm hq
  have hj0 : mz + max (q - mz) (mz + 2) = jcap q mz := rfl
  refine xadd (z := nI (jcap q mz)) hx hb (ixAdd (a := mz) (c := (max (q - mz) (mz + 2))) (d := (jcap q mz)) rfl rfl (by omega)) dJ8_newLength_cabcc_6 ?_
  refine lv_istore_n (lv' := [(3, .int (nI (jcap q mz))), (0, .int (nI mz)), (1, .int (nI (q - mz))), (2, .int (nI (mz + 2)))]) hx hb dJ8_newLength_cabcc_7 rfl hl (by decide) rfl (fun ls hl => ?_)
  refine lv_iconst (v := 0) hx hb dJ8_newLength_cabcc_8 (by decide) ?_
  refine lv_iload_n hx hb dJ8_newLength_cabcc_9 rfl (lv_at hl 0 rfl) ?_
  refine lv_icmp_ge (tgt := 21) hx hb dJ8_newLength_cabcc_10 (by decide) (fun c10 => absurd c10 (by rw [show (0 : Int32) = nI 0 from rfl]; exact nI_ge (by have := jcap_gt hqm; omega) (by omega))) (fun c10 => ?_)
  refine lv_iload_n hx hb dJ8_newLength_cabcc_13 rfl (lv_at hl 0 rfl) ?_
  refine lv_ldc (v := 2147483639) hx hb hown (hts (.constant RJ8 200 (2147483639)) (by decide +kernel)) dJ8_newLength_cabcc_14 ?_
  refine lv_icmp_gt (tgt := 21) hx hb dJ8_newLength_cabcc_16 (by decide) (fun c16 => absurd c16 (by rw [show (2147483639 : Int32) = nI 2147483639 from rfl]; exact nI_nlt (by omega) (by omega))) (fun c16 => ?_)
  refine lv_iload_n hx hb dJ8_newLength_cabcc_19 rfl (lv_at hl 0 rfl) ?_
  exact je_i hx hb hr hlocks hP hD hS rfl rfl rfl (Nat.le_of_ble_eq_true rfl) (Nat.le_of_ble_eq_true rfl) dJ8_newLength_cabcc_20

set_option maxHeartbeats 4000000 in
set_option maxRecDepth 100000 in
theorem c_J5_newCapacity_0f7a4 (l : Launch) (D : va_G) (cy : Nat → ClassId) (A : Nat → Prop) (tl : va_W) (tx : List (Nat × List Int32)) (sb arr mz : Nat) (f : Nat → Int32) (cnt : Int32) (q : Nat) (hqm : mz < q) (hq : q ≤ 74) : Met l yJ5_newCapacity_0f7a4 wsJ5_newCapacity_0f7a4 ({ frames := 2, cells := 0, slots := 0, locals := 80 } : Room) (JP D cy A ((sb, jE0 arr cnt) :: (arr, jE1 cy mz f) :: tl) tx [.ref sb, .int (nI q)]) (JQi D A ((sb, jE0 arr cnt) :: (arr, jE1 cy mz f) :: tl) (nI (jcap q mz))) 0 0 A := by
  refine Met.ofW (cc := cJ5_newCapacity_0f7a4) (maxL := 6) (ret := (some .int)) (by decide) rfl ?_
  intro p e s m args below meth c s₁ B hml hv
  obtain ⟨rfl, ⟨hP, hD⟩, hK, hX, hT⟩ := hv
  have hx := B.exec
  have hb := B.bytes
  have hr := B.returns
  have hts := atoms_spec (ws := wsJ5_newCapacity_0f7a4) B.pre
  have hown : s.vm.findClass RJ5 = some m.cls := findClass_of_methodNamed B.named
  have hlocks := B.notSynchronized
  have hS : va_S A s.heap s.heap [] := va_S.rf
  have hl := lv_entry ([.ref sb, .int (nI q)]) (n := 6) (Nat.le_of_ble_eq_true rfl)
  rw [lg_entry_eq]
  generalize (lg_sl ([.ref sb, .int (nI q)]) ++ List.replicate (6 - (lg_sl ([.ref sb, .int (nI q)])).length) Slot.unset).toArray = ls at hl ⊢
  have hl : lv_has ls 6 [(0, .ref sb), (1, .int (nI q))] := hl
  have inc4 : ∀ w ∈ u_ws RJ4 TJ4 4, w ∈ wsJ5_newCapacity_0f7a4 := by decide +kernel
  refine lv_aload_n hx hb dJ5_newCapacity_0f7a4_0 rfl (lv_at hl 0 rfl) ?_
  refine va_get (C := RJ4) (T := TJ4) (N := 4) (ci := 8) (v := .ref arr) hx hb hts inc4 hown hK hP 0 rfl rfl 0 (by decide) (hts (.fieldLink RJ5 15 "java/lang/AbstractStringBuilder" "value" "[B") (by decide +kernel)) (fun _ h => h) rfl dJ5_newCapacity_0f7a4_1 ?_
  refine va_alen (v := nI mz) hx hb hK hP 1 0 rfl rfl rfl dJ5_newCapacity_0f7a4_4 ?_
  refine lv_istore_n (lv' := [(2, .int (nI mz)), (0, .ref sb), (1, .int (nI q))]) hx hb dJ5_newCapacity_0f7a4_5 rfl hl (by decide) rfl (fun ls hl => ?_)
  refine lv_iload_n hx hb dJ5_newCapacity_0f7a4_6 rfl (lv_at hl 2 rfl) ?_
  refine lv_aload_n hx hb dJ5_newCapacity_0f7a4_7 rfl (lv_at hl 1 rfl) ?_
  refine va_get (C := RJ4) (T := TJ4) (N := 4) (ci := 8) (v := .int 0) hx hb hts inc4 hown hK hP 0 rfl rfl 1 (by decide) (hts (.fieldLink RJ5 22 "java/lang/AbstractStringBuilder" "coder" "B") (by decide +kernel)) (fun _ h => h) rfl dJ5_newCapacity_0f7a4_8 ?_
  refine lv_ishl hx hb dJ5_newCapacity_0f7a4_11 ?_
  rw [j_shl0]
  refine lv_istore_n (lv' := [(3, .int (nI q)), (2, .int (nI mz)), (0, .ref sb), (1, .int (nI q))]) hx hb dJ5_newCapacity_0f7a4_12 rfl hl (by decide) rfl (fun ls hl => ?_)
  refine lv_iload_n hx hb dJ5_newCapacity_0f7a4_13 rfl (lv_at hl 0 rfl) ?_
  refine lv_iload_n hx hb dJ5_newCapacity_0f7a4_14 rfl (lv_at hl 1 rfl) ?_
  refine xsub (z := nI (q - mz)) hx hb (ixSub (a := q) (c := mz) (d := (q - mz)) rfl rfl (by omega)) dJ5_newCapacity_0f7a4_15 ?_
  refine lv_istore (lv' := [(4, .int (nI (q - mz))), (3, .int (nI q)), (2, .int (nI mz)), (0, .ref sb), (1, .int (nI q))]) hx hb dJ5_newCapacity_0f7a4_16 hl (by decide) rfl (fun ls hl => ?_)
  refine lv_iload_n hx hb dJ5_newCapacity_0f7a4_18 rfl (lv_at hl 2 rfl) ?_
  refine lv_iload hx hb dJ5_newCapacity_0f7a4_19 (lv_at hl 0 rfl) ?_
  refine lv_iload_n hx hb dJ5_newCapacity_0f7a4_21 rfl (lv_at hl 2 rfl) ?_
  refine lv_iconst (v := 2) hx hb dJ5_newCapacity_0f7a4_22 (by decide) ?_
  refine lv_aload_n hx hb dJ5_newCapacity_0f7a4_23 rfl (lv_at hl 3 rfl) ?_
  refine va_get (C := RJ4) (T := TJ4) (N := 4) (ci := 8) (v := .int 0) hx hb hts inc4 hown hK hP 0 rfl rfl 1 (by decide) (hts (.fieldLink RJ5 22 "java/lang/AbstractStringBuilder" "coder" "B") (by decide +kernel)) (fun _ h => h) rfl dJ5_newCapacity_0f7a4_24 ?_
  refine lv_ishl hx hb dJ5_newCapacity_0f7a4_27 ?_
  rw [j_shl0]
  refine xadd (z := nI (mz + 2)) hx hb (ixAdd (a := mz) (c := 2) (d := (mz + 2)) rfl rfl (by omega)) dJ5_newCapacity_0f7a4_28 ?_
  refine xj_i (va_runS (As := [.int (nI mz), .int (nI (q - mz)), .int (nI (mz + 2))]) (rest := []) ⟨hx, hb, hml, hown, hts⟩ (c_J8_newLength_cabcc l D cy A ((sb, jE0 arr cnt) :: (arr, jE1 cy mz f) :: tl) tx q mz hqm hq) (va_cwS 3 hts gJ5_newCapacity_0f7a4_J8_newLength_cabcc rfl rfl rfl (by decide +kernel) ⟨Nat.le_of_ble_eq_true rfl, Nat.le_of_ble_eq_true rfl⟩) (jPreS hP hD hK hX hT hS) rfl rfl hl.1 rfl (lv_room (Nat.le_of_ble_eq_true rfl)) dJ5_newCapacity_0f7a4_29 ⟨Nat.le_of_ble_eq_true rfl, Nat.le_of_ble_eq_true rfl⟩) hS (fun H locs hP hD hS => ?_)
  refine lv_istore (lv' := [(5, .int (nI (jcap q mz))), (4, .int (nI (q - mz))), (3, .int (nI q)), (2, .int (nI mz)), (0, .ref sb), (1, .int (nI q))]) hx hb dJ5_newCapacity_0f7a4_32 hl (by decide) rfl (fun ls hl => ?_)
  refine lv_iload hx hb dJ5_newCapacity_0f7a4_34 (lv_at hl 0 rfl) ?_
  have hj : jcap q mz ≤ 148 := jcap_le hqm hq
  refine lv_ldc (v := 2147483647) hx hb hown (hts (.constant RJ5 39 (2147483647)) (by decide +kernel)) dJ5_newCapacity_0f7a4_36 ?_
  refine lv_icmp_ne (tgt := 51) hx hb dJ5_newCapacity_0f7a4_38 (by decide) (fun c38 => ?_) (fun c38 => absurd c38 (by rw [show (2147483647 : Int32) = nI 2147483647 from rfl]; exact nI_nq (by omega) (by omega) (by omega)))
  refine lv_iload hx hb dJ5_newCapacity_0f7a4_51 (lv_at hl 0 rfl) ?_
  refine lv_aload_n hx hb dJ5_newCapacity_0f7a4_53 rfl (lv_at hl 4 rfl) ?_
  refine va_get (C := RJ4) (T := TJ4) (N := 4) (ci := 8) (v := .int 0) hx hb hts inc4 hown hK hP 0 rfl rfl 1 (by decide) (hts (.fieldLink RJ5 22 "java/lang/AbstractStringBuilder" "coder" "B") (by decide +kernel)) (fun _ h => h) rfl dJ5_newCapacity_0f7a4_54 ?_
  refine lv_ishr hx hb dJ5_newCapacity_0f7a4_57 ?_
  rw [j_shr0]
  exact je_i hx hb hr hlocks hP hD hS rfl rfl rfl (Nat.le_of_ble_eq_true rfl) (Nat.le_of_ble_eq_true rfl) dJ5_newCapacity_0f7a4_58

set_option maxHeartbeats 4000000 in
set_option maxRecDepth 100000 in
theorem c_J7_copyOf_9075b (l : Launch) (D : va_G) (cy : Nat → ClassId) (A : Nat → Prop) (tl : va_W) (tx : List (Nat × List Int32)) (arr mz : Nat) (f : Nat → Int32) (q : Nat) (hqm : mz < q) (hq : q ≤ 148) (hf : JF f) : Met l yJ7_copyOf_9075b wsJ7_copyOf_9075b ({ frames := 1, cells := 1, slots := 148, locals := 100 } : Room) (JP D cy A ((arr, jE1 cy mz f) :: tl) tx [.ref arr, .int (nI q)]) (JQn D A (fun (_ : Unit) => True) (fun _ a => (a, jE1 cy q (va_cpy f (fun _ => 0) 0 0 mz)) :: (arr, jE1 cy mz f) :: tl)) 1 148 A := by
  refine Met.ofW (cc := cJ7_copyOf_9075b) (maxL := 3) (ret := (some (.array .byte))) (by decide) rfl ?_
  intro p e s m args below meth c s₁ B hml hv
  obtain ⟨rfl, ⟨hP, hD⟩, hK, hX, hT⟩ := hv
  have hx := B.exec
  have hb := B.bytes
  have hr := B.returns
  have hts := atoms_spec (ws := wsJ7_copyOf_9075b) B.pre
  have hown : s.vm.findClass RJ7 = some m.cls := findClass_of_methodNamed B.named
  have hlocks := B.notSynchronized
  have hS : va_S A s.heap s.heap [] := va_S.rf
  have hl := lv_entry ([.ref arr, .int (nI q)]) (n := 3) (Nat.le_of_ble_eq_true rfl)
  rw [lg_entry_eq]
  generalize (lg_sl ([.ref arr, .int (nI q)]) ++ List.replicate (3 - (lg_sl ([.ref arr, .int (nI q)])).length) Slot.unset).toArray = ls at hl ⊢
  have hl : lv_has ls 3 [(0, .ref arr), (1, .int (nI q))] := hl
  refine lv_iload_n hx hb dJ7_copyOf_9075b_0 rfl (lv_at hl 1 rfl) ?_
  refine lv_aload_n hx hb dJ7_copyOf_9075b_1 rfl (lv_at hl 0 rfl) ?_
  refine va_alen (v := nI mz) hx hb hK hP 0 0 rfl rfl rfl dJ7_copyOf_9075b_2 ?_
  refine lv_icmp_ne (tgt := 14) hx hb dJ7_copyOf_9075b_3 (by decide) (fun c3 => ?_) (fun c3 => absurd c3 (nI_nq (by omega) (by omega) (by omega)))
  refine lv_iload_n hx hb dJ7_copyOf_9075b_14 rfl (lv_at hl 1 rfl) ?_
  refine xj_newa (N := q) hx hb (hts (.arrayClass .byte) (by decide +kernel)) hK hP hD hS hX (by omega) (Nat.le_of_ble_eq_true rfl) (by show 0 + q ≤ 148; omega) dJ7_copyOf_9075b_15 (fun na H hP hD hS => ?_)
  refine lv_astore_n (lv' := [(2, .ref na), (0, .ref arr), (1, .int (nI q))]) hx hb dJ7_copyOf_9075b_17 rfl hl (by decide) rfl (fun ls hl => ?_)
  refine lv_aload_n hx hb dJ7_copyOf_9075b_18 rfl (lv_at hl 1 rfl) ?_
  refine lv_iconst (v := 0) hx hb dJ7_copyOf_9075b_19 (by decide) ?_
  refine lv_aload_n hx hb dJ7_copyOf_9075b_20 rfl (lv_at hl 0 rfl) ?_
  refine lv_iconst (v := 0) hx hb dJ7_copyOf_9075b_21 (by decide) ?_
  refine lv_aload_n hx hb dJ7_copyOf_9075b_22 rfl (lv_at hl 1 rfl) ?_
  refine va_alen (v := nI mz) hx hb hK hP 1 0 rfl rfl rfl dJ7_copyOf_9075b_23 ?_
  refine lv_iload_n hx hb dJ7_copyOf_9075b_24 rfl (lv_at hl 2 rfl) ?_
  refine x_mmin hx hb (hml.trans hl.1.symm) hown (hts (.methodLink RJ7 304 Lib.Math.min.name) (by decide +kernel)) (hts (.static Lib.Math.min.name) (by decide +kernel)) (hts (.initialized "java/lang/Math") (by decide +kernel)) (hts (.code Lib.Math.min.name Lib.Math.min.code 2 (some .int)) (by decide +kernel)) (Nat.le_of_ble_eq_true rfl) (Nat.le_of_ble_eq_true rfl) (Nat.le_of_ble_eq_true rfl) (by show 0 + q ≤ 148; omega) dJ7_copyOf_9075b_25 ?_
  refine W.eq (g2 := F0 m 28 ls (.int (nI mz) :: .int 0 :: .ref na :: .int 0 :: .ref arr :: [])) (congrArg (fun z => F0 m 28 ls (.int z :: .int 0 :: .ref na :: .int 0 :: .ref arr :: [])) (xmin_nI (by omega) (by omega))) ?_
  refine va_copyi hx hb (hml.trans hl.1.symm) hown (hts (.methodLink RJ7 150 arraycopyName) (by decide +kernel)) (hts (.native arraycopyName) (by decide +kernel)) (hts (.static arraycopyName) (by decide +kernel)) (hts (.initialized "java/lang/System") (by decide +kernel)) hK hP hD hS 1 0 0 0 rfl rfl rfl rfl rfl (by decide) (by decide) (nI_pos (by omega)) (by rw [show (0 : Int32).toNatClampNeg = 0 from rfl, nI_clamp (show mz < 2 ^ 31 by omega)]; omega) (by rw [show (0 : Int32).toNatClampNeg = 0 from rfl, nI_clamp (show mz < 2 ^ 31 by omega)]; omega) (fun i _ => hf _) (Nat.le_of_ble_eq_true rfl) (Nat.le_of_ble_eq_true rfl) dJ7_copyOf_9075b_28 (fun H locs hP hD hS => ?_)
  rw [show (0 : Int32).toNatClampNeg = 0 from rfl, nI_clamp (show mz < 2 ^ 31 by omega)] at hP hD
  have hP : va_P D vwCl ((na, jE1 cy q (va_cpy f (fun _ => 0) 0 0 mz)) :: (arr, jE1 cy mz f) :: tl) H := hP
  have hD : va_D A ((na, jE1 cy q (va_cpy f (fun _ => 0) 0 0 mz)) :: (arr, jE1 cy mz f) :: tl) := hD
  refine lv_aload_n hx hb dJ7_copyOf_9075b_31 rfl (lv_at hl 0 rfl) ?_
  exact je_n hx hb hr (Or.inr ⟨_, rfl⟩) hlocks (()) (trivial) hP hD hS rfl (Nat.le_of_ble_eq_true rfl) (by omega) dJ7_copyOf_9075b_32

set_option maxHeartbeats 4000000 in
set_option maxRecDepth 100000 in
theorem c_J5_ensureCapacityInternal_d00df (l : Launch) (D : va_G) (cy : Nat → ClassId) (A : Nat → Prop) (tl : va_W) (tx : List (Nat × List Int32)) (sb arr mz : Nat) (f : Nat → Int32) (cnt : Int32) (q : Nat) (hm : mz ≤ 148) (hq : q ≤ 74) (hf : JF f) : Met l yJ5_ensureCapacityInternal_d00df wsJ5_ensureCapacityInternal_d00df ({ frames := 3, cells := 1, slots := 148, locals := 150 } : Room) (JP D cy A ((sb, jE0 arr cnt) :: (arr, jE1 cy mz f) :: tl) tx [.ref sb, .int (nI q)]) (JQv D A (fun u : Nat × Nat × (Nat → Int32) => q ≤ u.2.1 ∧ mz ≤ u.2.1 ∧ u.2.1 ≤ 148 ∧ JF u.2.2 ∧ ∀ j, j < mz → u.2.2 j = f j) (fun u => (sb, jE0 u.1 cnt) :: (u.1, jE1 cy u.2.1 u.2.2) :: tl)) 1 148 A := by
  refine Met.ofW (cc := cJ5_ensureCapacityInternal_d00df) (maxL := 3) (ret := none) (by decide) rfl ?_
  intro p e s m args below meth c s₁ B hml hv
  obtain ⟨rfl, ⟨hP, hD⟩, hK, hX, hT⟩ := hv
  have hx := B.exec
  have hb := B.bytes
  have hr := B.returns
  have hts := atoms_spec (ws := wsJ5_ensureCapacityInternal_d00df) B.pre
  have hown : s.vm.findClass RJ5 = some m.cls := findClass_of_methodNamed B.named
  have hlocks := B.notSynchronized
  have hS : va_S A s.heap s.heap [] := va_S.rf
  have hl := lv_entry ([.ref sb, .int (nI q)]) (n := 3) (Nat.le_of_ble_eq_true rfl)
  rw [lg_entry_eq]
  generalize (lg_sl ([.ref sb, .int (nI q)]) ++ List.replicate (3 - (lg_sl ([.ref sb, .int (nI q)])).length) Slot.unset).toArray = ls at hl ⊢
  have hl : lv_has ls 3 [(0, .ref sb), (1, .int (nI q))] := hl
  have inc4 : ∀ w ∈ u_ws RJ4 TJ4 4, w ∈ wsJ5_ensureCapacityInternal_d00df := by decide +kernel
  refine lv_aload_n hx hb dJ5_ensureCapacityInternal_d00df_0 rfl (lv_at hl 0 rfl) ?_
  refine va_get (C := RJ4) (T := TJ4) (N := 4) (ci := 8) (v := .ref arr) hx hb hts inc4 hown hK hP 0 rfl rfl 0 (by decide) (hts (.fieldLink RJ5 15 "java/lang/AbstractStringBuilder" "value" "[B") (by decide +kernel)) (fun _ h => h) rfl dJ5_ensureCapacityInternal_d00df_1 ?_
  refine va_alen (v := nI mz) hx hb hK hP 1 0 rfl rfl rfl dJ5_ensureCapacityInternal_d00df_4 ?_
  refine lv_aload_n hx hb dJ5_ensureCapacityInternal_d00df_5 rfl (lv_at hl 0 rfl) ?_
  refine va_get (C := RJ4) (T := TJ4) (N := 4) (ci := 8) (v := .int 0) hx hb hts inc4 hown hK hP 0 rfl rfl 1 (by decide) (hts (.fieldLink RJ5 22 "java/lang/AbstractStringBuilder" "coder" "B") (by decide +kernel)) (fun _ h => h) rfl dJ5_ensureCapacityInternal_d00df_6 ?_
  refine lv_ishr hx hb dJ5_ensureCapacityInternal_d00df_9 ?_
  rw [j_shr0]
  refine lv_istore_n (lv' := [(2, .int (nI mz)), (0, .ref sb), (1, .int (nI q))]) hx hb dJ5_ensureCapacityInternal_d00df_10 rfl hl (by decide) rfl (fun ls hl => ?_)
  refine lv_iload_n hx hb dJ5_ensureCapacityInternal_d00df_11 rfl (lv_at hl 2 rfl) ?_
  refine lv_iload_n hx hb dJ5_ensureCapacityInternal_d00df_12 rfl (lv_at hl 0 rfl) ?_
  by_cases hqm : q ≤ mz
  · refine lv_isub hx hb dJ5_ensureCapacityInternal_d00df_13 ?_
    refine lv_if_le (tgt := 38) hx hb dJ5_ensureCapacityInternal_d00df_14 (by decide) (fun c14 => ?_) (fun c14 => absurd ((nI_subz (by omega) (by omega)).mpr hqm) c14)
    exact je_v hx hb hr hlocks (arr, mz, f) ⟨hqm, Nat.le_refl _, hm, hf, fun _ _ => rfl⟩ hP hD hS rfl (Nat.le_of_ble_eq_true rfl) (Nat.le_of_ble_eq_true rfl) dJ5_ensureCapacityInternal_d00df_38
  · refine lv_isub hx hb dJ5_ensureCapacityInternal_d00df_13 ?_
    refine lv_if_le (tgt := 38) hx hb dJ5_ensureCapacityInternal_d00df_14 (by decide) (fun c14 => absurd ((nI_subz (by omega) (by omega)).mp c14) hqm) (fun c14 => ?_)
    refine lv_aload_n hx hb dJ5_ensureCapacityInternal_d00df_17 rfl (lv_at hl 1 rfl) ?_
    refine lv_aload_n hx hb dJ5_ensureCapacityInternal_d00df_18 rfl (lv_at hl 1 rfl) ?_
    refine va_get (C := RJ4) (T := TJ4) (N := 4) (ci := 8) (v := .ref arr) hx hb hts inc4 hown hK hP 0 rfl rfl 0 (by decide) (hts (.fieldLink RJ5 15 "java/lang/AbstractStringBuilder" "value" "[B") (by decide +kernel)) (fun _ h => h) rfl dJ5_ensureCapacityInternal_d00df_19 ?_
    refine lv_aload_n hx hb dJ5_ensureCapacityInternal_d00df_22 rfl (lv_at hl 1 rfl) ?_
    refine lv_iload_n hx hb dJ5_ensureCapacityInternal_d00df_23 rfl (lv_at hl 2 rfl) ?_
    refine xj_i (va_runU (As := [.int (nI q)]) (rest := [.ref arr, .ref sb]) ⟨hx, hb, hml, hown, hts⟩ (c_J5_newCapacity_0f7a4 l D cy A tl tx sb arr mz f cnt q (by omega) hq) (va_cwU 1 hts gJ5_ensureCapacityInternal_d00df_J5_newCapacity_0f7a4_u104J4 rfl rfl rfl rfl (by decide +kernel) ⟨Nat.le_of_ble_eq_true rfl, Nat.le_of_ble_eq_true rfl⟩) (jPreV 0 hP hD hK hX hT hS rfl rfl) rfl rfl hl.1 rfl (lv_room (Nat.le_of_ble_eq_true rfl)) dJ5_ensureCapacityInternal_d00df_24 ⟨Nat.le_of_ble_eq_true rfl, Nat.le_of_ble_eq_true rfl⟩) hS (fun H locs hP hD hS => ?_)
    refine lv_aload_n hx hb dJ5_ensureCapacityInternal_d00df_27 rfl (lv_at hl 1 rfl) ?_
    refine va_get (C := RJ4) (T := TJ4) (N := 4) (ci := 8) (v := .int 0) hx hb hts inc4 hown hK hP 0 rfl rfl 1 (by decide) (hts (.fieldLink RJ5 22 "java/lang/AbstractStringBuilder" "coder" "B") (by decide +kernel)) (fun _ h => h) rfl dJ5_ensureCapacityInternal_d00df_28 ?_
    refine lv_ishl hx hb dJ5_ensureCapacityInternal_d00df_31 ?_
    rw [j_shl0]
    obtain ⟨hP, hD⟩ := jswap hP hD
    have hj : jcap q mz ≤ 148 := jcap_le (by omega) hq
    have hj1 := jcap_gt (q := q) (m := mz) (by omega)
    have hj2 : q ≤ jcap q mz := jcap_ge
    refine xj_n (va_runS (As := [.ref arr, .int (nI (jcap q mz))]) (rest := [.ref sb]) ⟨hx, hb, hml, hown, hts⟩ (c_J7_copyOf_9075b l D cy A ((sb, jE0 arr cnt) :: tl) tx arr mz f (jcap q mz) hj1 hj hf) (va_cwS 2 hts gJ5_ensureCapacityInternal_d00df_J7_copyOf_9075b rfl rfl rfl (by decide +kernel) ⟨Nat.le_of_ble_eq_true rfl, Nat.le_of_ble_eq_true rfl⟩) (jPreS hP hD hK hX hT hS) rfl rfl hl.1 rfl (lv_room (Nat.le_of_ble_eq_true rfl)) dJ5_ensureCapacityInternal_d00df_32 ⟨Nat.le_of_ble_eq_true rfl, Nat.le_of_ble_eq_true rfl⟩) hS (fun _ a2 H locs _ hP hD hS => ?_)
    have hP : va_P D vwCl ((a2, jE1 cy (jcap q mz) (va_cpy f (fun _ => 0) 0 0 mz)) :: (arr, jE1 cy mz f) :: (sb, jE0 arr cnt) :: tl) H := hP
    have hD : va_D A ((a2, jE1 cy (jcap q mz) (va_cpy f (fun _ => 0) 0 0 mz)) :: (arr, jE1 cy mz f) :: (sb, jE0 arr cnt) :: tl) := hD
    refine va_put (C := RJ4) (T := TJ4) (N := 4) (ci := 8) hx hb hts inc4 tyJ4 tyJ4_ok nmJ4 hown hK hP hD hS 2 rfl rfl 0 (by decide) (hts (.fieldLink RJ5 15 "java/lang/AbstractStringBuilder" "value" "[B") (by decide +kernel)) (fun _ h => h) rfl rfl rfl rfl (Nat.le_of_ble_eq_true rfl) dJ5_ensureCapacityInternal_d00df_35 (fun H locs hP hD hS => ?_)
    have hP : va_P D vwCl ((a2, jE1 cy (jcap q mz) (va_cpy f (fun _ => 0) 0 0 mz)) :: (arr, jE1 cy mz f) :: (sb, jE0 a2 cnt) :: tl) H := hP
    have hD : va_D A ((a2, jE1 cy (jcap q mz) (va_cpy f (fun _ => 0) 0 0 mz)) :: (arr, jE1 cy mz f) :: (sb, jE0 a2 cnt) :: tl) := hD
    obtain ⟨hP, hD⟩ := jens hP hD
    exact je_v hx hb hr hlocks (a2, jcap q mz, va_cpy f (fun _ => 0) 0 0 mz) ⟨hj2, by show mz ≤ jcap q mz; omega, hj, hf.cpy JF.z 0 0 mz, fun j hj3 => by show va_cpy f (fun _ => 0) 0 0 mz j = f j; unfold va_cpy; rw [if_pos (by omega)]; congr 1; omega⟩ hP hD hS rfl (Nat.le_of_ble_eq_true rfl) (Nat.le_of_ble_eq_true rfl) dJ5_ensureCapacityInternal_d00df_38

set_option maxHeartbeats 4000000 in
set_option maxRecDepth 100000 in
theorem c_J1_canEncode_fc78d (l : Launch) (D : va_G) (cy : Nat → ClassId) (A : Nat → Prop) (tl : va_W) (tx : List (Nat × List Int32))  : Met l yJ1_canEncode_fc78d wsJ1_canEncode_fc78d ({ frames := 0, cells := 0, slots := 0, locals := 0 } : Room) (JP D cy A (tl) tx [.int 32]) (JQi D A tl 1) 0 0 A := by
  refine Met.ofW (cc := cJ1_canEncode_fc78d) (maxL := 1) (ret := (some .boolean)) (by decide) rfl ?_
  intro p e s m args below meth c s₁ B hml hv
  obtain ⟨rfl, ⟨hP, hD⟩, hK, hX, hT⟩ := hv
  have hx := B.exec
  have hb := B.bytes
  have hr := B.returns
  have hts := atoms_spec (ws := wsJ1_canEncode_fc78d) B.pre
  have hown : s.vm.findClass RJ1 = some m.cls := findClass_of_methodNamed B.named
  have hlocks := B.notSynchronized
  have hS : va_S A s.heap s.heap [] := va_S.rf
  have hl := lv_entry ([.int 32]) (n := 1) (Nat.le_of_ble_eq_true rfl)
  rw [lg_entry_eq]
  generalize (lg_sl ([.int 32]) ++ List.replicate (1 - (lg_sl ([.int 32])).length) Slot.unset).toArray = ls at hl ⊢
  have hl : lv_has ls 1 [(0, .int 32)] := hl
  refine lv_iload_n hx hb dJ1_canEncode_fc78d_0 rfl (lv_at hl 0 rfl) ?_
  refine lv_sipush (v := 255) hx hb dJ1_canEncode_fc78d_1 (by decide) ?_
  refine lv_icmp_gt (tgt := 11) hx hb dJ1_canEncode_fc78d_4 (by decide) (fun c4 => absurd c4 (by decide)) (fun c4 => ?_)
  refine lv_iconst (v := 1) hx hb dJ1_canEncode_fc78d_7 (by decide) ?_
  refine lv_goto (tgt := 12) hx hb dJ1_canEncode_fc78d_8 (by decide) ?_
  exact je_i hx hb hr hlocks hP hD hS rfl rfl rfl (Nat.le_of_ble_eq_true rfl) (Nat.le_of_ble_eq_true rfl) dJ1_canEncode_fc78d_12

set_option maxHeartbeats 4000000 in
set_option maxRecDepth 100000 in
theorem c_J5_append_3fe6f (l : Launch) (D : va_G) (cy : Nat → ClassId) (A : Nat → Prop) (tl : va_W) (tx : List (Nat × List Int32)) (sb arr mz : Nat) (f : Nat → Int32) (L : List Int32) (hB : JB L (arr, mz, f)) (hL : L.length + 1 ≤ 74) : Met l yJ5_append_3fe6f wsJ5_append_3fe6f ({ frames := 4, cells := 1, slots := 148, locals := 200 } : Room) (JP D cy A ((sb, jE0 arr (nI L.length)) :: (arr, jE1 cy mz f) :: tl) tx [.ref sb, .int 32]) (JQa D A (JB (L ++ [32])) (jW cy sb (L ++ [32]) tl) sb) 1 148 A := by
  refine Met.ofW (cc := cJ5_append_3fe6f) (maxL := 2) (ret := (some (.object "java/lang/AbstractStringBuilder"))) (by decide) rfl ?_
  intro p e s m args below meth c s₁ B hml hv
  obtain ⟨rfl, ⟨hP, hD⟩, hK, hX, hT⟩ := hv
  have hx := B.exec
  have hb := B.bytes
  have hr := B.returns
  have hts := atoms_spec (ws := wsJ5_append_3fe6f) B.pre
  have hown : s.vm.findClass RJ5 = some m.cls := findClass_of_methodNamed B.named
  have hlocks := B.notSynchronized
  have hS : va_S A s.heap s.heap [] := va_S.rf
  have hl := lv_entry ([.ref sb, .int 32]) (n := 2) (Nat.le_of_ble_eq_true rfl)
  rw [lg_entry_eq]
  generalize (lg_sl ([.ref sb, .int 32]) ++ List.replicate (2 - (lg_sl ([.ref sb, .int 32])).length) Slot.unset).toArray = ls at hl ⊢
  have hl : lv_has ls 2 [(0, .ref sb), (1, .int 32)] := hl
  have inc4 : ∀ w ∈ u_ws RJ4 TJ4 4, w ∈ wsJ5_append_3fe6f := by decide +kernel
  refine lv_aload_n hx hb dJ5_append_3fe6f_0 rfl (lv_at hl 0 rfl) ?_
  refine lv_aload_n hx hb dJ5_append_3fe6f_1 rfl (lv_at hl 0 rfl) ?_
  refine va_get (C := RJ4) (T := TJ4) (N := 4) (ci := 8) (v := .int (nI L.length)) hx hb hts inc4 hown hK hP 0 rfl rfl 3 (by decide) (hts (.fieldLink RJ5 79 "java/lang/AbstractStringBuilder" "count" "I") (by decide +kernel)) (fun _ h => h) rfl dJ5_append_3fe6f_2 ?_
  refine lv_iconst (v := 1) hx hb dJ5_append_3fe6f_5 (by decide) ?_
  refine xadd (z := nI (L.length + 1)) hx hb (ixAdd (a := L.length) (c := 1) (d := (L.length + 1)) rfl rfl (by omega)) dJ5_append_3fe6f_6 ?_
  refine xj_v (va_runU (As := [.int (nI (L.length + 1))]) (rest := []) ⟨hx, hb, hml, hown, hts⟩ (c_J5_ensureCapacityInternal_d00df l D cy A tl tx sb arr mz f (nI L.length) (L.length + 1) hB.1 (by omega) hB.2.2.1) (va_cwU 1 hts gJ5_append_3fe6f_J5_ensureCapacityInternal_d00df_u100J4 rfl rfl rfl rfl (by decide +kernel) ⟨Nat.le_of_ble_eq_true rfl, Nat.le_of_ble_eq_true rfl⟩) (jPreV 0 hP hD hK hX hT hS rfl rfl) rfl rfl hl.1 rfl (lv_room (Nat.le_of_ble_eq_true rfl)) dJ5_append_3fe6f_7 ⟨Nat.le_of_ble_eq_true rfl, Nat.le_of_ble_eq_true rfl⟩) hS (fun u H locs hu hP hD hS => ?_)
  obtain ⟨arr', mz', f'⟩ := u
  obtain ⟨g1, g2, g3, g4, g5⟩ := hu
  dsimp only at g1 g2 g3 g4 g5
  have hB' : JL f' L := hB.2.2.2.eqv (fun j hj => g5 j (Nat.lt_of_lt_of_le hj hB.2.1))
  have hP : va_P D vwCl ((sb, jE0 (arr') (nI L.length)) :: (arr', jE1 cy (mz') (f')) :: tl) H := hP
  have hD : va_D A ((sb, jE0 (arr') (nI L.length)) :: (arr', jE1 cy (mz') (f')) :: tl) := hD
  refine lv_aload_n hx hb dJ5_append_3fe6f_10 rfl (lv_at hl 0 rfl) ?_
  refine xj_i (va_runU (As := []) (rest := []) ⟨hx, hb, hml, hown, hts⟩ (c_J5_isLatin1_aae02 l D cy A ((arr', jE1 cy mz' f') :: tl) tx sb arr' (nI L.length)) (va_cwU 0 hts gJ5_append_3fe6f_J5_isLatin1_aae02_u83J4 rfl rfl rfl rfl (by decide +kernel) ⟨Nat.le_of_ble_eq_true rfl, Nat.le_of_ble_eq_true rfl⟩) (jPreV 0 hP hD hK hX hT hS rfl rfl) rfl rfl hl.1 rfl (lv_room (Nat.le_of_ble_eq_true rfl)) dJ5_append_3fe6f_11 ⟨Nat.le_of_ble_eq_true rfl, Nat.le_of_ble_eq_true rfl⟩) hS (fun H locs hP hD hS => ?_)
  refine lv_if_eq (tgt := 45) hx hb dJ5_append_3fe6f_14 (by decide) (fun c14 => absurd c14 (by decide)) (fun c14 => ?_)
  refine lv_iload_n hx hb dJ5_append_3fe6f_17 rfl (lv_at hl 1 rfl) ?_
  refine xj_i (va_runS (As := [.int 32]) (rest := []) ⟨hx, hb, hml, hown, hts⟩ (c_J1_canEncode_fc78d l D cy A ((sb, jE0 (arr') (nI L.length)) :: (arr', jE1 cy (mz') (f')) :: tl) tx) (va_cwS 1 hts gJ5_append_3fe6f_J1_canEncode_fc78d rfl rfl rfl (by decide +kernel) ⟨Nat.le_of_ble_eq_true rfl, Nat.le_of_ble_eq_true rfl⟩) (jPreS hP hD hK hX hT hS) rfl rfl hl.1 rfl (lv_room (Nat.le_of_ble_eq_true rfl)) dJ5_append_3fe6f_18 ⟨Nat.le_of_ble_eq_true rfl, Nat.le_of_ble_eq_true rfl⟩) hS (fun H locs hP hD hS => ?_)
  refine lv_if_eq (tgt := 45) hx hb dJ5_append_3fe6f_21 (by decide) (fun c21 => absurd c21 (by decide)) (fun c21 => ?_)
  refine lv_aload_n hx hb dJ5_append_3fe6f_24 rfl (lv_at hl 0 rfl) ?_
  refine va_get (C := RJ4) (T := TJ4) (N := 4) (ci := 8) (v := .ref (arr')) hx hb hts inc4 hown hK hP 0 rfl rfl 0 (by decide) (hts (.fieldLink RJ5 15 "java/lang/AbstractStringBuilder" "value" "[B") (by decide +kernel)) (fun _ h => h) rfl dJ5_append_3fe6f_25 ?_
  refine lv_aload_n hx hb dJ5_append_3fe6f_28 rfl (lv_at hl 0 rfl) ?_
  refine lv_dup hx hb dJ5_append_3fe6f_29 rfl ?_
  refine va_get (C := RJ4) (T := TJ4) (N := 4) (ci := 8) (v := .int (nI L.length)) hx hb hts inc4 hown hK hP 0 rfl rfl 3 (by decide) (hts (.fieldLink RJ5 79 "java/lang/AbstractStringBuilder" "count" "I") (by decide +kernel)) (fun _ h => h) rfl dJ5_append_3fe6f_30 ?_
  refine lv_dup_x1 hx hb dJ5_append_3fe6f_33 rfl rfl ?_
  refine lv_iconst (v := 1) hx hb dJ5_append_3fe6f_34 (by decide) ?_
  refine xadd (z := nI (L.length + 1)) hx hb (ixAdd (a := L.length) (c := 1) (d := (L.length + 1)) rfl rfl (by omega)) dJ5_append_3fe6f_35 ?_
  refine va_put (C := RJ4) (T := TJ4) (N := 4) (ci := 8) hx hb hts inc4 tyJ4 tyJ4_ok nmJ4 hown hK hP hD hS 0 rfl rfl 3 (by decide) (hts (.fieldLink RJ5 79 "java/lang/AbstractStringBuilder" "count" "I") (by decide +kernel)) (fun _ h => h) rfl rfl rfl rfl (Nat.le_of_ble_eq_true rfl) dJ5_append_3fe6f_36 (fun H locs hP hD hS => ?_)
  have hP : va_P D vwCl ((sb, jE0 (arr') (nI (L.length + 1))) :: (arr', jE1 cy (mz') (f')) :: tl) H := hP
  have hD : va_D A ((sb, jE0 (arr') (nI (L.length + 1))) :: (arr', jE1 cy (mz') (f')) :: tl) := hD
  refine lv_iload_n hx hb dJ5_append_3fe6f_39 rfl (lv_at hl 1 rfl) ?_
  refine lv_i2b (v := 32) hx hb dJ5_append_3fe6f_40 (by decide) ?_
  refine va_bast hx hb hK hP hD hS 1 0 rfl rfl (vp_in_nI (by omega) (by omega)) dJ5_append_3fe6f_41 (fun H locs hP hD hS => ?_)
  rw [show vp_nar .byte 32 = 32 from rfl, nI_clamp (by omega)] at hP hD
  have hP : va_P D vwCl ((sb, jE0 (arr') (nI (L.length + 1))) :: (arr', jE1 cy (mz') (upd (f') L.length 32)) :: tl) H := hP
  have hD : va_D A ((sb, jE0 (arr') (nI (L.length + 1))) :: (arr', jE1 cy (mz') (upd (f') L.length 32)) :: tl) := hD
  refine lv_goto (tgt := 75) hx hb dJ5_append_3fe6f_42 (by decide) ?_
  refine lv_aload_n hx hb dJ5_append_3fe6f_75 rfl (lv_at hl 0 rfl) ?_
  rw [show L.length + 1 = (L ++ [32]).length by simp] at hP hD
  exact je_a hx hb hr (Or.inl ⟨_, rfl⟩) hlocks ((arr', mz', upd f' L.length 32)) (⟨g3, by show (L ++ [32]).length ≤ mz'; simp; omega, by have := JF_upd g4 L.length 32; exact this, JL_put hB' 32⟩) hP hD hS rfl (Nat.le_of_ble_eq_true rfl) (Nat.le_of_ble_eq_true rfl) dJ5_append_3fe6f_76

set_option maxHeartbeats 4000000 in
set_option maxRecDepth 100000 in
theorem c_J6_stringSize_0f7a4 (l : Launch) (D : va_G) (cy : Nat → ClassId) (A : Nat → Prop) (tl : va_W) (tx : List (Nat × List Int32)) (v : Nat) (hv : v ≤ 100) : Met l yJ6_stringSize_0f7a4 wsJ6_stringSize_0f7a4 ({ frames := 0, cells := 0, slots := 0, locals := 0 } : Room) (JP D cy A (tl) tx [.int (nI v)]) (JQi D A tl (nI (dig v).length)) 0 0 A := by
  refine Met.ofW (cc := cJ6_stringSize_0f7a4) (maxL := 4) (ret := (some .int)) (by decide) rfl ?_
  intro p e s m args below meth c s₁ B hml hv
  obtain ⟨rfl, ⟨hP, hD⟩, hK, hX, hT⟩ := hv
  have hx := B.exec
  have hb := B.bytes
  have hr := B.returns
  have hts := atoms_spec (ws := wsJ6_stringSize_0f7a4) B.pre
  have hown : s.vm.findClass RJ6 = some m.cls := findClass_of_methodNamed B.named
  have hlocks := B.notSynchronized
  have hS : va_S A s.heap s.heap [] := va_S.rf
  have hl := lv_entry ([.int (nI v)]) (n := 4) (Nat.le_of_ble_eq_true rfl)
  rw [lg_entry_eq]
  generalize (lg_sl ([.int (nI v)]) ++ List.replicate (4 - (lg_sl ([.int (nI v)])).length) Slot.unset).toArray = ls at hl ⊢
  have hl : lv_has ls 4 [(0, .int (nI v))] := hl
  refine lv_iconst (v := 1) hx hb dJ6_stringSize_0f7a4_0 (by decide) ?_
  refine lv_istore_n (lv' := [(1, .int 1), (0, .int (nI v))]) hx hb dJ6_stringSize_0f7a4_1 rfl hl (by decide) rfl (fun ls hl => ?_)
  refine lv_iload_n hx hb dJ6_stringSize_0f7a4_2 rfl (lv_at hl 1 rfl) ?_
  refine lv_if_lt (tgt := 11) hx hb dJ6_stringSize_0f7a4_3 (by decide) (fun c3 => absurd c3 (nI_pos (by omega))) (fun c3 => ?_)
  refine lv_iconst (v := 0) hx hb dJ6_stringSize_0f7a4_6 (by decide) ?_
  refine lv_istore_n (lv' := [(1, .int 0), (0, .int (nI v))]) hx hb dJ6_stringSize_0f7a4_7 rfl hl (by decide) rfl (fun ls hl => ?_)
  refine lv_iload_n hx hb dJ6_stringSize_0f7a4_8 rfl (lv_at hl 1 rfl) ?_
  refine lv_ineg hx hb dJ6_stringSize_0f7a4_9 ?_
  refine lv_istore_n (lv' := [(0, .int (-(nI v))), (1, .int 0)]) hx hb dJ6_stringSize_0f7a4_10 rfl hl (by decide) rfl (fun ls hl => ?_)
  by_cases h10 : v < 10
  · refine lv_bipush (v := (-10)) hx hb dJ6_stringSize_0f7a4_11 (by decide) ?_
    refine lv_istore_n (lv' := [(2, .int (-10)), (0, .int (-(nI v))), (1, .int 0)]) hx hb dJ6_stringSize_0f7a4_13 rfl hl (by decide) rfl (fun ls hl => ?_)
    refine lv_iconst (v := 1) hx hb dJ6_stringSize_0f7a4_14 (by decide) ?_
    refine lv_istore_n (lv' := [(3, .int 1), (2, .int (-10)), (0, .int (-(nI v))), (1, .int 0)]) hx hb dJ6_stringSize_0f7a4_15 rfl hl (by decide) rfl (fun ls hl => ?_)
    refine lv_iload_n hx hb dJ6_stringSize_0f7a4_16 rfl (lv_at hl 0 rfl) ?_
    refine lv_bipush (v := 10) hx hb dJ6_stringSize_0f7a4_17 (by decide) ?_
    refine lv_icmp_ge (tgt := 42) hx hb dJ6_stringSize_0f7a4_19 (by decide) (fun c19 => absurd c19 (by decide)) (fun c19 => ?_)
    refine lv_iload_n hx hb dJ6_stringSize_0f7a4_22 rfl (lv_at hl 2 rfl) ?_
    refine lv_iload_n hx hb dJ6_stringSize_0f7a4_23 rfl (lv_at hl 1 rfl) ?_
    refine lv_icmp_le (tgt := 31) hx hb dJ6_stringSize_0f7a4_24 (by decide) (fun c24 => absurd ((negle hv).1.mp c24) (by omega)) (fun c24 => ?_)
    refine lv_iload_n hx hb dJ6_stringSize_0f7a4_27 rfl (lv_at hl 0 rfl) ?_
    refine lv_iload_n hx hb dJ6_stringSize_0f7a4_28 rfl (lv_at hl 3 rfl) ?_
    refine xadd (z := nI 1) hx hb (ixAdd (a := 1) (c := 0) (d := 1) rfl rfl (by omega)) dJ6_stringSize_0f7a4_29 ?_
    exact je_i hx hb hr hlocks hP hD hS rfl (by rw [dig1 h10]; rfl) rfl (Nat.le_of_ble_eq_true rfl) (Nat.le_of_ble_eq_true rfl) dJ6_stringSize_0f7a4_30
  · refine lv_bipush (v := (-10)) hx hb dJ6_stringSize_0f7a4_11 (by decide) ?_
    by_cases h100 : v < 100
    · refine lv_istore_n (lv' := [(2, .int (-10)), (0, .int (-(nI v))), (1, .int 0)]) hx hb dJ6_stringSize_0f7a4_13 rfl hl (by decide) rfl (fun ls hl => ?_)
      refine lv_iconst (v := 1) hx hb dJ6_stringSize_0f7a4_14 (by decide) ?_
      refine lv_istore_n (lv' := [(3, .int 1), (2, .int (-10)), (0, .int (-(nI v))), (1, .int 0)]) hx hb dJ6_stringSize_0f7a4_15 rfl hl (by decide) rfl (fun ls hl => ?_)
      refine lv_iload_n hx hb dJ6_stringSize_0f7a4_16 rfl (lv_at hl 0 rfl) ?_
      refine lv_bipush (v := 10) hx hb dJ6_stringSize_0f7a4_17 (by decide) ?_
      refine lv_icmp_ge (tgt := 42) hx hb dJ6_stringSize_0f7a4_19 (by decide) (fun c19 => absurd c19 (by decide)) (fun c19 => ?_)
      refine lv_iload_n hx hb dJ6_stringSize_0f7a4_22 rfl (lv_at hl 2 rfl) ?_
      refine lv_iload_n hx hb dJ6_stringSize_0f7a4_23 rfl (lv_at hl 1 rfl) ?_
      refine lv_icmp_le (tgt := 31) hx hb dJ6_stringSize_0f7a4_24 (by decide) (fun c24 => ?_) (fun c24 => absurd ((negle hv).1.mpr (by omega)) c24)
      refine lv_bipush (v := 10) hx hb dJ6_stringSize_0f7a4_31 (by decide) ?_
      refine lv_iload_n hx hb dJ6_stringSize_0f7a4_33 rfl (lv_at hl 1 rfl) ?_
      refine lv_imul hx hb dJ6_stringSize_0f7a4_34 ?_
      refine W.eq (g2 := F0 m 35 ls (.int (-100) :: [])) (congrArg (fun z => F0 m 35 ls (.int z :: [])) (by decide)) ?_
      refine lv_istore_n (lv' := [(2, .int (-100)), (3, .int 1), (0, .int (-(nI v))), (1, .int 0)]) hx hb dJ6_stringSize_0f7a4_35 rfl hl (by decide) rfl (fun ls hl => ?_)
      refine lv_iinc (v := nI 2) (lv' := [(3, .int (nI 2)), (2, .int (-100)), (0, .int (-(nI v))), (1, .int 0)]) hx hb dJ6_stringSize_0f7a4_36 hl (k := 1) rfl (ixAdd (a := 1) (c := 1) (d := 2) rfl rfl rfl) (by decide) rfl (fun ls hl => ?_)
      refine lv_goto (tgt := 16) hx hb dJ6_stringSize_0f7a4_39 (by decide) ?_
      refine lv_iload_n hx hb dJ6_stringSize_0f7a4_16 rfl (lv_at hl 0 rfl) ?_
      refine lv_bipush (v := 10) hx hb dJ6_stringSize_0f7a4_17 (by decide) ?_
      refine lv_icmp_ge (tgt := 42) hx hb dJ6_stringSize_0f7a4_19 (by decide) (fun c19 => absurd c19 (by decide)) (fun c19 => ?_)
      refine lv_iload_n hx hb dJ6_stringSize_0f7a4_22 rfl (lv_at hl 2 rfl) ?_
      refine lv_iload_n hx hb dJ6_stringSize_0f7a4_23 rfl (lv_at hl 1 rfl) ?_
      refine lv_icmp_le (tgt := 31) hx hb dJ6_stringSize_0f7a4_24 (by decide) (fun c24 => absurd ((negle hv).2.1.mp c24) (by omega)) (fun c24 => ?_)
      refine lv_iload_n hx hb dJ6_stringSize_0f7a4_27 rfl (lv_at hl 0 rfl) ?_
      refine lv_iload_n hx hb dJ6_stringSize_0f7a4_28 rfl (lv_at hl 3 rfl) ?_
      refine xadd (z := nI 2) hx hb (ixAdd (a := 2) (c := 0) (d := 2) rfl rfl (by omega)) dJ6_stringSize_0f7a4_29 ?_
      exact je_i hx hb hr hlocks hP hD hS rfl (by rw [dig2 h10 h100]; rfl) rfl (Nat.le_of_ble_eq_true rfl) (Nat.le_of_ble_eq_true rfl) dJ6_stringSize_0f7a4_30
    · refine lv_istore_n (lv' := [(2, .int (-10)), (0, .int (-(nI v))), (1, .int 0)]) hx hb dJ6_stringSize_0f7a4_13 rfl hl (by decide) rfl (fun ls hl => ?_)
      refine lv_iconst (v := 1) hx hb dJ6_stringSize_0f7a4_14 (by decide) ?_
      refine lv_istore_n (lv' := [(3, .int 1), (2, .int (-10)), (0, .int (-(nI v))), (1, .int 0)]) hx hb dJ6_stringSize_0f7a4_15 rfl hl (by decide) rfl (fun ls hl => ?_)
      refine lv_iload_n hx hb dJ6_stringSize_0f7a4_16 rfl (lv_at hl 0 rfl) ?_
      refine lv_bipush (v := 10) hx hb dJ6_stringSize_0f7a4_17 (by decide) ?_
      refine lv_icmp_ge (tgt := 42) hx hb dJ6_stringSize_0f7a4_19 (by decide) (fun c19 => absurd c19 (by decide)) (fun c19 => ?_)
      refine lv_iload_n hx hb dJ6_stringSize_0f7a4_22 rfl (lv_at hl 2 rfl) ?_
      refine lv_iload_n hx hb dJ6_stringSize_0f7a4_23 rfl (lv_at hl 1 rfl) ?_
      refine lv_icmp_le (tgt := 31) hx hb dJ6_stringSize_0f7a4_24 (by decide) (fun c24 => ?_) (fun c24 => absurd ((negle hv).1.mpr (by omega)) c24)
      refine lv_bipush (v := 10) hx hb dJ6_stringSize_0f7a4_31 (by decide) ?_
      refine lv_iload_n hx hb dJ6_stringSize_0f7a4_33 rfl (lv_at hl 1 rfl) ?_
      refine lv_imul hx hb dJ6_stringSize_0f7a4_34 ?_
      refine W.eq (g2 := F0 m 35 ls (.int (-100) :: [])) (congrArg (fun z => F0 m 35 ls (.int z :: [])) (by decide)) ?_
      refine lv_istore_n (lv' := [(2, .int (-100)), (3, .int 1), (0, .int (-(nI v))), (1, .int 0)]) hx hb dJ6_stringSize_0f7a4_35 rfl hl (by decide) rfl (fun ls hl => ?_)
      refine lv_iinc (v := nI 2) (lv' := [(3, .int (nI 2)), (2, .int (-100)), (0, .int (-(nI v))), (1, .int 0)]) hx hb dJ6_stringSize_0f7a4_36 hl (k := 1) rfl (ixAdd (a := 1) (c := 1) (d := 2) rfl rfl rfl) (by decide) rfl (fun ls hl => ?_)
      refine lv_goto (tgt := 16) hx hb dJ6_stringSize_0f7a4_39 (by decide) ?_
      refine lv_iload_n hx hb dJ6_stringSize_0f7a4_16 rfl (lv_at hl 0 rfl) ?_
      refine lv_bipush (v := 10) hx hb dJ6_stringSize_0f7a4_17 (by decide) ?_
      refine lv_icmp_ge (tgt := 42) hx hb dJ6_stringSize_0f7a4_19 (by decide) (fun c19 => absurd c19 (by decide)) (fun c19 => ?_)
      refine lv_iload_n hx hb dJ6_stringSize_0f7a4_22 rfl (lv_at hl 2 rfl) ?_
      refine lv_iload_n hx hb dJ6_stringSize_0f7a4_23 rfl (lv_at hl 1 rfl) ?_
      refine lv_icmp_le (tgt := 31) hx hb dJ6_stringSize_0f7a4_24 (by decide) (fun c24 => ?_) (fun c24 => absurd ((negle hv).2.1.mpr (by omega)) c24)
      refine lv_bipush (v := 10) hx hb dJ6_stringSize_0f7a4_31 (by decide) ?_
      refine lv_iload_n hx hb dJ6_stringSize_0f7a4_33 rfl (lv_at hl 1 rfl) ?_
      refine lv_imul hx hb dJ6_stringSize_0f7a4_34 ?_
      refine W.eq (g2 := F0 m 35 ls (.int (-1000) :: [])) (congrArg (fun z => F0 m 35 ls (.int z :: [])) (by decide)) ?_
      refine lv_istore_n (lv' := [(2, .int (-1000)), (3, .int (nI 2)), (0, .int (-(nI v))), (1, .int 0)]) hx hb dJ6_stringSize_0f7a4_35 rfl hl (by decide) rfl (fun ls hl => ?_)
      refine lv_iinc (v := nI 3) (lv' := [(3, .int (nI 3)), (2, .int (-1000)), (0, .int (-(nI v))), (1, .int 0)]) hx hb dJ6_stringSize_0f7a4_36 hl (k := 1) rfl (ixAdd (a := 2) (c := 1) (d := 3) rfl rfl rfl) (by decide) rfl (fun ls hl => ?_)
      refine lv_goto (tgt := 16) hx hb dJ6_stringSize_0f7a4_39 (by decide) ?_
      refine lv_iload_n hx hb dJ6_stringSize_0f7a4_16 rfl (lv_at hl 0 rfl) ?_
      refine lv_bipush (v := 10) hx hb dJ6_stringSize_0f7a4_17 (by decide) ?_
      refine lv_icmp_ge (tgt := 42) hx hb dJ6_stringSize_0f7a4_19 (by decide) (fun c19 => absurd c19 (by decide)) (fun c19 => ?_)
      refine lv_iload_n hx hb dJ6_stringSize_0f7a4_22 rfl (lv_at hl 2 rfl) ?_
      refine lv_iload_n hx hb dJ6_stringSize_0f7a4_23 rfl (lv_at hl 1 rfl) ?_
      refine lv_icmp_le (tgt := 31) hx hb dJ6_stringSize_0f7a4_24 (by decide) (fun c24 => absurd c24 (negle hv).2.2.1) (fun c24 => ?_)
      refine lv_iload_n hx hb dJ6_stringSize_0f7a4_27 rfl (lv_at hl 0 rfl) ?_
      refine lv_iload_n hx hb dJ6_stringSize_0f7a4_28 rfl (lv_at hl 3 rfl) ?_
      refine xadd (z := nI 3) hx hb (ixAdd (a := 3) (c := 0) (d := 3) rfl rfl (by omega)) dJ6_stringSize_0f7a4_29 ?_
      exact je_i hx hb hr hlocks hP hD hS rfl (by rw [dig3 h100]; rfl) rfl (Nat.le_of_ble_eq_true rfl) (Nat.le_of_ble_eq_true rfl) dJ6_stringSize_0f7a4_30

set_option maxHeartbeats 4000000 in
set_option maxRecDepth 100000 in
theorem c_getChars1 (l : Launch) (D : va_G) (cy : Nat → ClassId) (A : Nat → Prop) (tl : va_W) (tx : List (Nat × List Int32)) (sb arr mz : Nat) (f : Nat → Int32) (cnt : Int32) (L : List Int32) (v : Nat) (h10 : v < 10) (hf : JF f) (hL : JL f L) (hfit : L.length + 1 ≤ mz) (hm : mz ≤ 148) : Met l yJ6_getChars_ba4f3 wsJ6_getChars_ba4f3 ({ frames := 0, cells := 0, slots := 0, locals := 0 } : Room) (JP D cy A ((sb, jE0 arr cnt) :: (arr, jE1 cy mz f) :: tl) tx [.int (nI v), .int (nI (L.length + 1)), .ref arr]) (JQe D A (fun u => JF u ∧ JL u (L ++ [nI (48 + v % 10)])) (fun u => (sb, jE0 arr cnt) :: (arr, jE1 cy mz u) :: tl) (nI L.length)) 0 0 A := by
  refine Met.ofW (cc := cJ6_getChars_ba4f3) (maxL := 7) (ret := (some .int)) (by decide) rfl ?_
  intro p e s m args below meth c s₁ B hml hv
  obtain ⟨rfl, ⟨hP, hD⟩, hK, hX, hT⟩ := hv
  have hx := B.exec
  have hb := B.bytes
  have hr := B.returns
  have hts := atoms_spec (ws := wsJ6_getChars_ba4f3) B.pre
  have hown : s.vm.findClass RJ6 = some m.cls := findClass_of_methodNamed B.named
  have hlocks := B.notSynchronized
  have hS : va_S A s.heap s.heap [] := va_S.rf
  have hl := lv_entry ([.int (nI v), .int (nI (L.length + 1)), .ref arr]) (n := 7) (Nat.le_of_ble_eq_true rfl)
  rw [lg_entry_eq]
  generalize (lg_sl ([.int (nI v), .int (nI (L.length + 1)), .ref arr]) ++ List.replicate (7 - (lg_sl ([.int (nI v), .int (nI (L.length + 1)), .ref arr])).length) Slot.unset).toArray = ls at hl ⊢
  have hl : lv_has ls 7 [(0, .int (nI v)), (1, .int (nI (L.length + 1))), (2, .ref arr)] := hl
  obtain ⟨tO, hZ1, hT1⟩ := hX.2.1
  obtain ⟨tT, hZ2, hT2⟩ := hX.2.2.1
  refine lv_iload_n hx hb dJ6_getChars_ba4f3_0 rfl (lv_at hl 1 rfl) ?_
  refine lv_istore (lv' := [(5, .int (nI (L.length + 1))), (0, .int (nI v)), (1, .int (nI (L.length + 1))), (2, .ref arr)]) hx hb dJ6_getChars_ba4f3_1 hl (by decide) rfl (fun ls hl => ?_)
  refine lv_iload_n hx hb dJ6_getChars_ba4f3_3 rfl (lv_at hl 1 rfl) ?_
  refine lv_if_ge (tgt := 11) hx hb dJ6_getChars_ba4f3_4 (by decide) (fun c4 => ?_) (fun c4 => absurd (nI_pos' (by omega)) c4)
  refine lv_iconst (v := 0) hx hb dJ6_getChars_ba4f3_11 (by decide) ?_
  refine lv_istore (lv' := [(6, .int 0), (5, .int (nI (L.length + 1))), (0, .int (nI v)), (1, .int (nI (L.length + 1))), (2, .ref arr)]) hx hb dJ6_getChars_ba4f3_12 hl (by decide) rfl (fun ls hl => ?_)
  refine lv_iload hx hb dJ6_getChars_ba4f3_14 (lv_at hl 0 rfl) ?_
  refine lv_if_ne (tgt := 22) hx hb dJ6_getChars_ba4f3_16 (by decide) (fun c16 => absurd rfl c16) (fun c16 => ?_)
  refine lv_iload_n hx hb dJ6_getChars_ba4f3_19 rfl (lv_at hl 2 rfl) ?_
  refine lv_ineg hx hb dJ6_getChars_ba4f3_20 ?_
  refine lv_istore_n (lv' := [(0, .int (-(nI v))), (6, .int 0), (5, .int (nI (L.length + 1))), (1, .int (nI (L.length + 1))), (2, .ref arr)]) hx hb dJ6_getChars_ba4f3_21 rfl hl (by decide) rfl (fun ls hl => ?_)
  refine lv_iload_n hx hb dJ6_getChars_ba4f3_22 rfl (lv_at hl 0 rfl) ?_
  refine lv_bipush (v := (-100)) hx hb dJ6_getChars_ba4f3_23 (by decide) ?_
  refine lv_icmp_gt (tgt := 72) hx hb dJ6_getChars_ba4f3_25 (by decide) (fun c25 => ?_) (fun c25 => absurd ((negle (by omega)).2.2.2.1.mpr (by omega)) c25)
  refine lv_aload_n hx hb dJ6_getChars_ba4f3_72 rfl (lv_at hl 4 rfl) ?_
  refine lv_iinc (v := nI L.length) (lv' := [(5, .int (nI L.length)), (0, .int (-(nI v))), (6, .int 0), (1, .int (nI (L.length + 1))), (2, .ref arr)]) hx hb dJ6_getChars_ba4f3_73 hl (k := 2) rfl (nI_dec1 _) (by decide) rfl (fun ls hl => ?_)
  refine lv_iload hx hb dJ6_getChars_ba4f3_76 (lv_at hl 0 rfl) ?_
  refine va_gets hx hb hZ1 hS hown (hts (.fieldLink RJ6 83 "java/lang/Integer" "DigitOnes" "[B") (by decide +kernel)) (fun _ h => h) dJ6_getChars_ba4f3_78 ?_
  refine lv_iload_n hx hb dJ6_getChars_ba4f3_81 rfl (lv_at hl 1 rfl) ?_
  refine lv_ineg hx hb dJ6_getChars_ba4f3_82 ?_
  refine W.eq (g2 := F0 m 83 ls (.int (nI v) :: .ref tO :: .int (nI L.length) :: .ref arr :: [])) (congrArg (fun z => F0 m 83 ls (.int z :: .ref tO :: .int (nI L.length) :: .ref arr :: [])) negneg) ?_
  refine va_tb (v := .int (dgO v)) hx hb hT1 hS (vp_in_nI (by omega) (by omega)) (by show Value.int (dgO (nI v).toNatClampNeg) = _; rw [nI_clamp (by omega)]) dJ6_getChars_ba4f3_83 ?_
  refine va_bast hx hb hK hP hD hS 1 0 rfl rfl (vp_in_nI (by omega) (by omega)) dJ6_getChars_ba4f3_84 (fun H locs hP hD hS => ?_)
  rw [(nar_dgO (show v < 101 by omega)).1, nI_clamp (by omega)] at hP hD
  have hP : va_P D vwCl ((sb, jE0 arr cnt) :: (arr, jE1 cy mz (upd f L.length (dgO v))) :: tl) H := hP
  have hD : va_D A ((sb, jE0 arr cnt) :: (arr, jE1 cy mz (upd f L.length (dgO v))) :: tl) := hD
  refine lv_iload_n hx hb dJ6_getChars_ba4f3_85 rfl (lv_at hl 1 rfl) ?_
  refine lv_bipush (v := (-9)) hx hb dJ6_getChars_ba4f3_86 (by decide) ?_
  refine lv_icmp_ge (tgt := 104) hx hb dJ6_getChars_ba4f3_88 (by decide) (fun c88 => ?_) (fun c88 => absurd ((negle (by omega)).2.2.2.2.mpr (by omega)) c88)
  refine lv_iload hx hb dJ6_getChars_ba4f3_104 (lv_at hl 2 rfl) ?_
  refine lv_if_eq (tgt := 118) hx hb dJ6_getChars_ba4f3_106 (by decide) (fun c106 => ?_) (fun c106 => absurd rfl c106)
  refine lv_iload hx hb dJ6_getChars_ba4f3_118 (lv_at hl 0 rfl) ?_
  exact je_e hx hb hr hlocks (upd f L.length (dgO v)) ⟨JF_put hf _ (nar_dgO (show v < 101 by omega)).2, JL_put hL (dgO v)⟩ hP hD hS rfl rfl rfl (Nat.le_of_ble_eq_true rfl) (Nat.le_of_ble_eq_true rfl) dJ6_getChars_ba4f3_120

set_option maxHeartbeats 4000000 in
set_option maxRecDepth 100000 in
theorem c_getChars2 (l : Launch) (D : va_G) (cy : Nat → ClassId) (A : Nat → Prop) (tl : va_W) (tx : List (Nat × List Int32)) (sb arr mz : Nat) (f : Nat → Int32) (cnt : Int32) (L : List Int32) (v : Nat) (h10 : ¬ v < 10) (h100 : v < 100) (hf : JF f) (hL : JL f L) (hfit : L.length + 2 ≤ mz) (hm : mz ≤ 148) : Met l yJ6_getChars_ba4f3 wsJ6_getChars_ba4f3 ({ frames := 0, cells := 0, slots := 0, locals := 0 } : Room) (JP D cy A ((sb, jE0 arr cnt) :: (arr, jE1 cy mz f) :: tl) tx [.int (nI v), .int (nI (L.length + 2)), .ref arr]) (JQe D A (fun u => JF u ∧ JL u (L ++ [nI (48 + v / 10), nI (48 + v % 10)])) (fun u => (sb, jE0 arr cnt) :: (arr, jE1 cy mz u) :: tl) (nI L.length)) 0 0 A := by
  refine Met.ofW (cc := cJ6_getChars_ba4f3) (maxL := 7) (ret := (some .int)) (by decide) rfl ?_
  intro p e s m args below meth c s₁ B hml hv
  obtain ⟨rfl, ⟨hP, hD⟩, hK, hX, hT⟩ := hv
  have hx := B.exec
  have hb := B.bytes
  have hr := B.returns
  have hts := atoms_spec (ws := wsJ6_getChars_ba4f3) B.pre
  have hown : s.vm.findClass RJ6 = some m.cls := findClass_of_methodNamed B.named
  have hlocks := B.notSynchronized
  have hS : va_S A s.heap s.heap [] := va_S.rf
  have hl := lv_entry ([.int (nI v), .int (nI (L.length + 2)), .ref arr]) (n := 7) (Nat.le_of_ble_eq_true rfl)
  rw [lg_entry_eq]
  generalize (lg_sl ([.int (nI v), .int (nI (L.length + 2)), .ref arr]) ++ List.replicate (7 - (lg_sl ([.int (nI v), .int (nI (L.length + 2)), .ref arr])).length) Slot.unset).toArray = ls at hl ⊢
  have hl : lv_has ls 7 [(0, .int (nI v)), (1, .int (nI (L.length + 2))), (2, .ref arr)] := hl
  obtain ⟨tO, hZ1, hT1⟩ := hX.2.1
  obtain ⟨tT, hZ2, hT2⟩ := hX.2.2.1
  refine lv_iload_n hx hb dJ6_getChars_ba4f3_0 rfl (lv_at hl 1 rfl) ?_
  refine lv_istore (lv' := [(5, .int (nI (L.length + 2))), (0, .int (nI v)), (1, .int (nI (L.length + 2))), (2, .ref arr)]) hx hb dJ6_getChars_ba4f3_1 hl (by decide) rfl (fun ls hl => ?_)
  refine lv_iload_n hx hb dJ6_getChars_ba4f3_3 rfl (lv_at hl 1 rfl) ?_
  refine lv_if_ge (tgt := 11) hx hb dJ6_getChars_ba4f3_4 (by decide) (fun c4 => ?_) (fun c4 => absurd (nI_pos' (by omega)) c4)
  refine lv_iconst (v := 0) hx hb dJ6_getChars_ba4f3_11 (by decide) ?_
  refine lv_istore (lv' := [(6, .int 0), (5, .int (nI (L.length + 2))), (0, .int (nI v)), (1, .int (nI (L.length + 2))), (2, .ref arr)]) hx hb dJ6_getChars_ba4f3_12 hl (by decide) rfl (fun ls hl => ?_)
  refine lv_iload hx hb dJ6_getChars_ba4f3_14 (lv_at hl 0 rfl) ?_
  refine lv_if_ne (tgt := 22) hx hb dJ6_getChars_ba4f3_16 (by decide) (fun c16 => absurd rfl c16) (fun c16 => ?_)
  refine lv_iload_n hx hb dJ6_getChars_ba4f3_19 rfl (lv_at hl 2 rfl) ?_
  refine lv_ineg hx hb dJ6_getChars_ba4f3_20 ?_
  refine lv_istore_n (lv' := [(0, .int (-(nI v))), (6, .int 0), (5, .int (nI (L.length + 2))), (1, .int (nI (L.length + 2))), (2, .ref arr)]) hx hb dJ6_getChars_ba4f3_21 rfl hl (by decide) rfl (fun ls hl => ?_)
  refine lv_iload_n hx hb dJ6_getChars_ba4f3_22 rfl (lv_at hl 0 rfl) ?_
  refine lv_bipush (v := (-100)) hx hb dJ6_getChars_ba4f3_23 (by decide) ?_
  refine lv_icmp_gt (tgt := 72) hx hb dJ6_getChars_ba4f3_25 (by decide) (fun c25 => ?_) (fun c25 => absurd ((negle (by omega)).2.2.2.1.mpr (by omega)) c25)
  refine lv_aload_n hx hb dJ6_getChars_ba4f3_72 rfl (lv_at hl 4 rfl) ?_
  refine lv_iinc (v := nI (L.length + 1)) (lv' := [(5, .int (nI (L.length + 1))), (0, .int (-(nI v))), (6, .int 0), (1, .int (nI (L.length + 2))), (2, .ref arr)]) hx hb dJ6_getChars_ba4f3_73 hl (k := 2) rfl (nI_dec1 _) (by decide) rfl (fun ls hl => ?_)
  refine lv_iload hx hb dJ6_getChars_ba4f3_76 (lv_at hl 0 rfl) ?_
  refine va_gets hx hb hZ1 hS hown (hts (.fieldLink RJ6 83 "java/lang/Integer" "DigitOnes" "[B") (by decide +kernel)) (fun _ h => h) dJ6_getChars_ba4f3_78 ?_
  refine lv_iload_n hx hb dJ6_getChars_ba4f3_81 rfl (lv_at hl 1 rfl) ?_
  refine lv_ineg hx hb dJ6_getChars_ba4f3_82 ?_
  refine W.eq (g2 := F0 m 83 ls (.int (nI v) :: .ref tO :: .int (nI (L.length + 1)) :: .ref arr :: [])) (congrArg (fun z => F0 m 83 ls (.int z :: .ref tO :: .int (nI (L.length + 1)) :: .ref arr :: [])) negneg) ?_
  refine va_tb (v := .int (dgO v)) hx hb hT1 hS (vp_in_nI (by omega) (by omega)) (by show Value.int (dgO (nI v).toNatClampNeg) = _; rw [nI_clamp (by omega)]) dJ6_getChars_ba4f3_83 ?_
  refine va_bast hx hb hK hP hD hS 1 0 rfl rfl (vp_in_nI (by omega) (by omega)) dJ6_getChars_ba4f3_84 (fun H locs hP hD hS => ?_)
  rw [(nar_dgO (show v < 101 by omega)).1, nI_clamp (by omega)] at hP hD
  have hP : va_P D vwCl ((sb, jE0 arr cnt) :: (arr, jE1 cy mz (upd f (L.length + 1) (dgO v))) :: tl) H := hP
  have hD : va_D A ((sb, jE0 arr cnt) :: (arr, jE1 cy mz (upd f (L.length + 1) (dgO v))) :: tl) := hD
  refine lv_iload_n hx hb dJ6_getChars_ba4f3_85 rfl (lv_at hl 1 rfl) ?_
  refine lv_bipush (v := (-9)) hx hb dJ6_getChars_ba4f3_86 (by decide) ?_
  refine lv_icmp_ge (tgt := 104) hx hb dJ6_getChars_ba4f3_88 (by decide) (fun c88 => absurd ((negle (by omega)).2.2.2.2.mp c88) (by omega)) (fun c88 => ?_)
  refine lv_aload_n hx hb dJ6_getChars_ba4f3_91 rfl (lv_at hl 4 rfl) ?_
  refine lv_iinc (v := nI L.length) (lv' := [(5, .int (nI L.length)), (0, .int (-(nI v))), (6, .int 0), (1, .int (nI (L.length + 2))), (2, .ref arr)]) hx hb dJ6_getChars_ba4f3_92 hl (k := 0) rfl (nI_dec1 _) (by decide) rfl (fun ls hl => ?_)
  refine lv_iload hx hb dJ6_getChars_ba4f3_95 (lv_at hl 0 rfl) ?_
  refine va_gets hx hb hZ2 hS hown (hts (.fieldLink RJ6 87 "java/lang/Integer" "DigitTens" "[B") (by decide +kernel)) (fun _ h => h) dJ6_getChars_ba4f3_97 ?_
  refine lv_iload_n hx hb dJ6_getChars_ba4f3_100 rfl (lv_at hl 1 rfl) ?_
  refine lv_ineg hx hb dJ6_getChars_ba4f3_101 ?_
  refine W.eq (g2 := F0 m 102 ls (.int (nI v) :: .ref tT :: .int (nI L.length) :: .ref arr :: [])) (congrArg (fun z => F0 m 102 ls (.int z :: .ref tT :: .int (nI L.length) :: .ref arr :: [])) negneg) ?_
  refine va_tb (v := .int (dgT v)) hx hb hT2 hS (vp_in_nI (by omega) (by omega)) (by show Value.int (dgT (nI v).toNatClampNeg) = _; rw [nI_clamp (by omega)]) dJ6_getChars_ba4f3_102 ?_
  refine va_bast hx hb hK hP hD hS 1 0 rfl rfl (vp_in_nI (by omega) (by omega)) dJ6_getChars_ba4f3_103 (fun H locs hP hD hS => ?_)
  rw [(nar_dgT (show v < 101 by omega)).1, nI_clamp (by omega)] at hP hD
  have hP : va_P D vwCl ((sb, jE0 arr cnt) :: (arr, jE1 cy mz (upd (upd f (L.length + 1) (dgO v)) L.length (dgT v))) :: tl) H := hP
  have hD : va_D A ((sb, jE0 arr cnt) :: (arr, jE1 cy mz (upd (upd f (L.length + 1) (dgO v)) L.length (dgT v))) :: tl) := hD
  refine lv_iload hx hb dJ6_getChars_ba4f3_104 (lv_at hl 2 rfl) ?_
  refine lv_if_eq (tgt := 118) hx hb dJ6_getChars_ba4f3_106 (by decide) (fun c106 => ?_) (fun c106 => absurd rfl c106)
  refine lv_iload hx hb dJ6_getChars_ba4f3_118 (lv_at hl 0 rfl) ?_
  exact je_e hx hb hr hlocks (upd (upd f (L.length + 1) (dgO v)) L.length (dgT v)) ⟨JF_put (JF_put hf _ (nar_dgO (show v < 101 by omega)).2) _ (nar_dgT (show v < 101 by omega)).2, JL_2 hL (dgT v) (dgO v)⟩ hP hD hS rfl rfl rfl (Nat.le_of_ble_eq_true rfl) (Nat.le_of_ble_eq_true rfl) dJ6_getChars_ba4f3_120

set_option maxHeartbeats 4000000 in
set_option maxRecDepth 100000 in
theorem c_getChars3 (l : Launch) (D : va_G) (cy : Nat → ClassId) (A : Nat → Prop) (tl : va_W) (tx : List (Nat × List Int32)) (sb arr mz : Nat) (f : Nat → Int32) (cnt : Int32) (L : List Int32)  (hf : JF f) (hL : JL f L) (hfit : L.length + 3 ≤ mz) (hm : mz ≤ 148) : Met l yJ6_getChars_ba4f3 wsJ6_getChars_ba4f3 ({ frames := 0, cells := 0, slots := 0, locals := 0 } : Room) (JP D cy A ((sb, jE0 arr cnt) :: (arr, jE1 cy mz f) :: tl) tx [.int 100, .int (nI (L.length + 3)), .ref arr]) (JQe D A (fun u => JF u ∧ JL u (L ++ [49, 48, 48])) (fun u => (sb, jE0 arr cnt) :: (arr, jE1 cy mz u) :: tl) (nI L.length)) 0 0 A := by
  refine Met.ofW (cc := cJ6_getChars_ba4f3) (maxL := 7) (ret := (some .int)) (by decide) rfl ?_
  intro p e s m args below meth c s₁ B hml hv
  obtain ⟨rfl, ⟨hP, hD⟩, hK, hX, hT⟩ := hv
  have hx := B.exec
  have hb := B.bytes
  have hr := B.returns
  have hts := atoms_spec (ws := wsJ6_getChars_ba4f3) B.pre
  have hown : s.vm.findClass RJ6 = some m.cls := findClass_of_methodNamed B.named
  have hlocks := B.notSynchronized
  have hS : va_S A s.heap s.heap [] := va_S.rf
  have hl := lv_entry ([.int 100, .int (nI (L.length + 3)), .ref arr]) (n := 7) (Nat.le_of_ble_eq_true rfl)
  rw [lg_entry_eq]
  generalize (lg_sl ([.int 100, .int (nI (L.length + 3)), .ref arr]) ++ List.replicate (7 - (lg_sl ([.int 100, .int (nI (L.length + 3)), .ref arr])).length) Slot.unset).toArray = ls at hl ⊢
  have hl : lv_has ls 7 [(0, .int 100), (1, .int (nI (L.length + 3))), (2, .ref arr)] := hl
  obtain ⟨tO, hZ1, hT1⟩ := hX.2.1
  obtain ⟨tT, hZ2, hT2⟩ := hX.2.2.1
  refine lv_iload_n hx hb dJ6_getChars_ba4f3_0 rfl (lv_at hl 1 rfl) ?_
  refine lv_istore (lv' := [(5, .int (nI (L.length + 3))), (0, .int 100), (1, .int (nI (L.length + 3))), (2, .ref arr)]) hx hb dJ6_getChars_ba4f3_1 hl (by decide) rfl (fun ls hl => ?_)
  refine lv_iload_n hx hb dJ6_getChars_ba4f3_3 rfl (lv_at hl 1 rfl) ?_
  refine lv_if_ge (tgt := 11) hx hb dJ6_getChars_ba4f3_4 (by decide) (fun c4 => ?_) (fun c4 => absurd (by decide) c4)
  refine lv_iconst (v := 0) hx hb dJ6_getChars_ba4f3_11 (by decide) ?_
  refine lv_istore (lv' := [(6, .int 0), (5, .int (nI (L.length + 3))), (0, .int 100), (1, .int (nI (L.length + 3))), (2, .ref arr)]) hx hb dJ6_getChars_ba4f3_12 hl (by decide) rfl (fun ls hl => ?_)
  refine lv_iload hx hb dJ6_getChars_ba4f3_14 (lv_at hl 0 rfl) ?_
  refine lv_if_ne (tgt := 22) hx hb dJ6_getChars_ba4f3_16 (by decide) (fun c16 => absurd rfl c16) (fun c16 => ?_)
  refine lv_iload_n hx hb dJ6_getChars_ba4f3_19 rfl (lv_at hl 2 rfl) ?_
  refine lv_ineg hx hb dJ6_getChars_ba4f3_20 ?_
  refine lv_istore_n (lv' := [(0, .int (-100)), (6, .int 0), (5, .int (nI (L.length + 3))), (1, .int (nI (L.length + 3))), (2, .ref arr)]) hx hb dJ6_getChars_ba4f3_21 rfl hl (by decide) rfl (fun ls hl => ?_)
  refine lv_iload_n hx hb dJ6_getChars_ba4f3_22 rfl (lv_at hl 0 rfl) ?_
  refine lv_bipush (v := (-100)) hx hb dJ6_getChars_ba4f3_23 (by decide) ?_
  refine lv_icmp_gt (tgt := 72) hx hb dJ6_getChars_ba4f3_25 (by decide) (fun c25 => absurd c25 (by decide)) (fun c25 => ?_)
  refine lv_iload_n hx hb dJ6_getChars_ba4f3_28 rfl (lv_at hl 0 rfl) ?_
  refine lv_bipush (v := 100) hx hb dJ6_getChars_ba4f3_29 (by decide) ?_
  refine lv_idiv hx hb dJ6_getChars_ba4f3_31 (by decide) ?_
  refine W.eq (g2 := F0 m 32 ls (.int (-1) :: [])) (congrArg (fun z => F0 m 32 ls (.int z :: [])) (by decide)) ?_
  refine lv_istore_n (lv' := [(3, .int (-1)), (0, .int (-100)), (6, .int 0), (5, .int (nI (L.length + 3))), (1, .int (nI (L.length + 3))), (2, .ref arr)]) hx hb dJ6_getChars_ba4f3_32 rfl hl (by decide) rfl (fun ls hl => ?_)
  refine lv_iload_n hx hb dJ6_getChars_ba4f3_33 rfl (lv_at hl 0 rfl) ?_
  refine lv_bipush (v := 100) hx hb dJ6_getChars_ba4f3_34 (by decide) ?_
  refine lv_imul hx hb dJ6_getChars_ba4f3_36 ?_
  refine lv_iload_n hx hb dJ6_getChars_ba4f3_37 rfl (lv_at hl 1 rfl) ?_
  refine lv_isub hx hb dJ6_getChars_ba4f3_38 ?_
  refine W.eq (g2 := F0 m 39 ls (.int (nI 0) :: [])) (congrArg (fun z => F0 m 39 ls (.int z :: [])) (by decide)) ?_
  refine lv_istore (lv' := [(4, .int (nI 0)), (3, .int (-1)), (0, .int (-100)), (6, .int 0), (5, .int (nI (L.length + 3))), (1, .int (nI (L.length + 3))), (2, .ref arr)]) hx hb dJ6_getChars_ba4f3_39 hl (by decide) rfl (fun ls hl => ?_)
  refine lv_iload_n hx hb dJ6_getChars_ba4f3_41 rfl (lv_at hl 1 rfl) ?_
  refine lv_istore_n (lv' := [(0, .int (-1)), (4, .int (nI 0)), (3, .int (-1)), (6, .int 0), (5, .int (nI (L.length + 3))), (1, .int (nI (L.length + 3))), (2, .ref arr)]) hx hb dJ6_getChars_ba4f3_42 rfl hl (by decide) rfl (fun ls hl => ?_)
  refine lv_aload_n hx hb dJ6_getChars_ba4f3_43 rfl (lv_at hl 6 rfl) ?_
  refine lv_iinc (v := nI (L.length + 2)) (lv' := [(5, .int (nI (L.length + 2))), (0, .int (-1)), (4, .int (nI 0)), (3, .int (-1)), (6, .int 0), (1, .int (nI (L.length + 3))), (2, .ref arr)]) hx hb dJ6_getChars_ba4f3_44 hl (k := 4) rfl (nI_dec1 _) (by decide) rfl (fun ls hl => ?_)
  refine lv_iload hx hb dJ6_getChars_ba4f3_47 (lv_at hl 0 rfl) ?_
  refine va_gets hx hb hZ1 hS hown (hts (.fieldLink RJ6 83 "java/lang/Integer" "DigitOnes" "[B") (by decide +kernel)) (fun _ h => h) dJ6_getChars_ba4f3_49 ?_
  refine lv_iload hx hb dJ6_getChars_ba4f3_52 (lv_at hl 2 rfl) ?_
  refine va_tb (v := .int (dgO 0)) hx hb hT1 hS (vp_in_nI (by omega) (by omega)) (by show Value.int (dgO (nI 0).toNatClampNeg) = _; rw [nI_clamp (by omega)]) dJ6_getChars_ba4f3_54 ?_
  refine va_bast hx hb hK hP hD hS 1 0 rfl rfl (vp_in_nI (by omega) (by omega)) dJ6_getChars_ba4f3_55 (fun H locs hP hD hS => ?_)
  rw [(nar_dgO (show 0 < 101 by omega)).1, nI_clamp (by omega)] at hP hD
  have hP : va_P D vwCl ((sb, jE0 arr cnt) :: (arr, jE1 cy mz (upd f (L.length + 2) (dgO 0))) :: tl) H := hP
  have hD : va_D A ((sb, jE0 arr cnt) :: (arr, jE1 cy mz (upd f (L.length + 2) (dgO 0))) :: tl) := hD
  refine lv_aload_n hx hb dJ6_getChars_ba4f3_56 rfl (lv_at hl 6 rfl) ?_
  refine lv_iinc (v := nI (L.length + 1)) (lv' := [(5, .int (nI (L.length + 1))), (0, .int (-1)), (4, .int (nI 0)), (3, .int (-1)), (6, .int 0), (1, .int (nI (L.length + 3))), (2, .ref arr)]) hx hb dJ6_getChars_ba4f3_57 hl (k := 0) rfl (nI_dec1 _) (by decide) rfl (fun ls hl => ?_)
  refine lv_iload hx hb dJ6_getChars_ba4f3_60 (lv_at hl 0 rfl) ?_
  refine va_gets hx hb hZ2 hS hown (hts (.fieldLink RJ6 87 "java/lang/Integer" "DigitTens" "[B") (by decide +kernel)) (fun _ h => h) dJ6_getChars_ba4f3_62 ?_
  refine lv_iload hx hb dJ6_getChars_ba4f3_65 (lv_at hl 2 rfl) ?_
  refine va_tb (v := .int (dgT 0)) hx hb hT2 hS (vp_in_nI (by omega) (by omega)) (by show Value.int (dgT (nI 0).toNatClampNeg) = _; rw [nI_clamp (by omega)]) dJ6_getChars_ba4f3_67 ?_
  refine va_bast hx hb hK hP hD hS 1 0 rfl rfl (vp_in_nI (by omega) (by omega)) dJ6_getChars_ba4f3_68 (fun H locs hP hD hS => ?_)
  rw [(nar_dgT (show 0 < 101 by omega)).1, nI_clamp (by omega)] at hP hD
  have hP : va_P D vwCl ((sb, jE0 arr cnt) :: (arr, jE1 cy mz (upd (upd f (L.length + 2) (dgO 0)) (L.length + 1) (dgT 0))) :: tl) H := hP
  have hD : va_D A ((sb, jE0 arr cnt) :: (arr, jE1 cy mz (upd (upd f (L.length + 2) (dgO 0)) (L.length + 1) (dgT 0))) :: tl) := hD
  refine lv_goto (tgt := 22) hx hb dJ6_getChars_ba4f3_69 (by decide) ?_
  refine lv_iload_n hx hb dJ6_getChars_ba4f3_22 rfl (lv_at hl 1 rfl) ?_
  refine lv_bipush (v := (-100)) hx hb dJ6_getChars_ba4f3_23 (by decide) ?_
  refine lv_icmp_gt (tgt := 72) hx hb dJ6_getChars_ba4f3_25 (by decide) (fun c25 => ?_) (fun c25 => absurd (by decide) c25)
  refine lv_aload_n hx hb dJ6_getChars_ba4f3_72 rfl (lv_at hl 6 rfl) ?_
  refine lv_iinc (v := nI L.length) (lv' := [(5, .int (nI L.length)), (0, .int (-1)), (4, .int (nI 0)), (3, .int (-1)), (6, .int 0), (1, .int (nI (L.length + 3))), (2, .ref arr)]) hx hb dJ6_getChars_ba4f3_73 hl (k := 0) rfl (nI_dec1 _) (by decide) rfl (fun ls hl => ?_)
  refine lv_iload hx hb dJ6_getChars_ba4f3_76 (lv_at hl 0 rfl) ?_
  refine va_gets hx hb hZ1 hS hown (hts (.fieldLink RJ6 83 "java/lang/Integer" "DigitOnes" "[B") (by decide +kernel)) (fun _ h => h) dJ6_getChars_ba4f3_78 ?_
  refine lv_iload_n hx hb dJ6_getChars_ba4f3_81 rfl (lv_at hl 1 rfl) ?_
  refine lv_ineg hx hb dJ6_getChars_ba4f3_82 ?_
  refine W.eq (g2 := F0 m 83 ls (.int (nI 1) :: .ref tO :: .int (nI L.length) :: .ref arr :: [])) (congrArg (fun z => F0 m 83 ls (.int z :: .ref tO :: .int (nI L.length) :: .ref arr :: [])) (by decide)) ?_
  refine va_tb (v := .int (dgO 1)) hx hb hT1 hS (vp_in_nI (by omega) (by omega)) (by show Value.int (dgO (nI 1).toNatClampNeg) = _; rw [nI_clamp (by omega)]) dJ6_getChars_ba4f3_83 ?_
  refine va_bast hx hb hK hP hD hS 1 0 rfl rfl (vp_in_nI (by omega) (by omega)) dJ6_getChars_ba4f3_84 (fun H locs hP hD hS => ?_)
  rw [(nar_dgO (show 1 < 101 by omega)).1, nI_clamp (by omega)] at hP hD
  have hP : va_P D vwCl ((sb, jE0 arr cnt) :: (arr, jE1 cy mz (upd (upd (upd f (L.length + 2) (dgO 0)) (L.length + 1) (dgT 0)) L.length (dgO 1))) :: tl) H := hP
  have hD : va_D A ((sb, jE0 arr cnt) :: (arr, jE1 cy mz (upd (upd (upd f (L.length + 2) (dgO 0)) (L.length + 1) (dgT 0)) L.length (dgO 1))) :: tl) := hD
  refine lv_iload_n hx hb dJ6_getChars_ba4f3_85 rfl (lv_at hl 1 rfl) ?_
  refine lv_bipush (v := (-9)) hx hb dJ6_getChars_ba4f3_86 (by decide) ?_
  refine lv_icmp_ge (tgt := 104) hx hb dJ6_getChars_ba4f3_88 (by decide) (fun c88 => ?_) (fun c88 => absurd (by decide) c88)
  refine lv_iload hx hb dJ6_getChars_ba4f3_104 (lv_at hl 4 rfl) ?_
  refine lv_if_eq (tgt := 118) hx hb dJ6_getChars_ba4f3_106 (by decide) (fun c106 => ?_) (fun c106 => absurd rfl c106)
  refine lv_iload hx hb dJ6_getChars_ba4f3_118 (lv_at hl 0 rfl) ?_
  exact je_e hx hb hr hlocks (upd (upd (upd f (L.length + 2) (dgO 0)) (L.length + 1) (dgT 0)) L.length (dgO 1)) ⟨JF_put (JF_put (JF_put hf _ (nar_dgO (show 0 < 101 by omega)).2) _ (nar_dgT (show 0 < 101 by omega)).2) _ (nar_dgO (show 1 < 101 by omega)).2, JL_3 hL (dgO 1) (dgT 0) (dgO 0)⟩ hP hD hS rfl rfl rfl (Nat.le_of_ble_eq_true rfl) (Nat.le_of_ble_eq_true rfl) dJ6_getChars_ba4f3_120

theorem c_J6_getChars_ba4f3 (l : Launch) (D : va_G) (cy : Nat → ClassId) (A : Nat → Prop) (tl : va_W) (tx : List (Nat × List Int32)) (sb arr mz : Nat) (f : Nat → Int32) (cnt : Int32) (L : List Int32) (v : Nat) (hv : v ≤ 100) (hf : JF f) (hL : JL f L) (hfit : L.length + (dig v).length ≤ mz) (hm : mz ≤ 148) : Met l yJ6_getChars_ba4f3 wsJ6_getChars_ba4f3 ({ frames := 0, cells := 0, slots := 0, locals := 0 } : Room) (JP D cy A ((sb, jE0 arr cnt) :: (arr, jE1 cy mz f) :: tl) tx [.int (nI v), .int (nI (L.length + (dig v).length)), .ref arr]) (JQe D A (fun u => JF u ∧ JL u (L ++ dig v)) (fun u => (sb, jE0 arr cnt) :: (arr, jE1 cy mz u) :: tl) (nI L.length)) 0 0 A := by
  by_cases h10 : v < 10
  · have e1 : dig v = [nI (48 + v % 10)] := by rw [dig1 h10, Nat.mod_eq_of_lt h10]
    rw [e1] at hfit ⊢
    exact c_getChars1 l D cy A tl tx sb arr mz f cnt L v h10 hf hL hfit hm
  · by_cases h100 : v < 100
    · have e1 := dig2 h10 h100
      rw [e1] at hfit ⊢
      exact c_getChars2 l D cy A tl tx sb arr mz f cnt L v h10 h100 hf hL hfit hm
    · obtain rfl : v = 100 := by omega
      have e1 : dig 100 = [49, 48, 48] := dig3 h100
      rw [e1] at hfit ⊢
      exact c_getChars3 l D cy A tl tx sb arr mz f cnt L hf hL hfit hm

set_option maxHeartbeats 4000000 in
set_option maxRecDepth 100000 in
theorem c_J5_append_c97b9 (l : Launch) (D : va_G) (cy : Nat → ClassId) (A : Nat → Prop) (tl : va_W) (tx : List (Nat × List Int32)) (sb arr mz : Nat) (f : Nat → Int32) (L : List Int32) (hB : JB L (arr, mz, f)) (v : Nat) (hv : v ≤ 100) (hL : L.length + (dig v).length ≤ 74) : Met l yJ5_append_c97b9 wsJ5_append_c97b9 ({ frames := 4, cells := 1, slots := 148, locals := 200 } : Room) (JP D cy A ((sb, jE0 arr (nI L.length)) :: (arr, jE1 cy mz f) :: tl) tx [.ref sb, .int (nI v)]) (JQa D A (JB (L ++ dig v)) (jW cy sb (L ++ dig v) tl) sb) 1 148 A := by
  refine Met.ofW (cc := cJ5_append_c97b9) (maxL := 4) (ret := (some (.object "java/lang/AbstractStringBuilder"))) (by decide) rfl ?_
  intro p e s m args below meth c s₁ B hml hv
  obtain ⟨rfl, ⟨hP, hD⟩, hK, hX, hT⟩ := hv
  have hx := B.exec
  have hb := B.bytes
  have hr := B.returns
  have hts := atoms_spec (ws := wsJ5_append_c97b9) B.pre
  have hown : s.vm.findClass RJ5 = some m.cls := findClass_of_methodNamed B.named
  have hlocks := B.notSynchronized
  have hS : va_S A s.heap s.heap [] := va_S.rf
  have hl := lv_entry ([.ref sb, .int (nI v)]) (n := 4) (Nat.le_of_ble_eq_true rfl)
  rw [lg_entry_eq]
  generalize (lg_sl ([.ref sb, .int (nI v)]) ++ List.replicate (4 - (lg_sl ([.ref sb, .int (nI v)])).length) Slot.unset).toArray = ls at hl ⊢
  have hl : lv_has ls 4 [(0, .ref sb), (1, .int (nI v))] := hl
  have inc4 : ∀ w ∈ u_ws RJ4 TJ4 4, w ∈ wsJ5_append_c97b9 := by decide +kernel
  refine lv_aload_n hx hb dJ5_append_c97b9_0 rfl (lv_at hl 0 rfl) ?_
  refine va_get (C := RJ4) (T := TJ4) (N := 4) (ci := 8) (v := .int (nI L.length)) hx hb hts inc4 hown hK hP 0 rfl rfl 3 (by decide) (hts (.fieldLink RJ5 79 "java/lang/AbstractStringBuilder" "count" "I") (by decide +kernel)) (fun _ h => h) rfl dJ5_append_c97b9_1 ?_
  refine lv_istore_n (lv' := [(2, .int (nI L.length)), (0, .ref sb), (1, .int (nI v))]) hx hb dJ5_append_c97b9_4 rfl hl (by decide) rfl (fun ls hl => ?_)
  refine lv_iload_n hx hb dJ5_append_c97b9_5 rfl (lv_at hl 0 rfl) ?_
  refine lv_iload_n hx hb dJ5_append_c97b9_6 rfl (lv_at hl 2 rfl) ?_
  refine xj_i (va_runS (As := [.int (nI v)]) (rest := [.int (nI L.length)]) ⟨hx, hb, hml, hown, hts⟩ (c_J6_stringSize_0f7a4 l D cy A ((sb, jE0 arr (nI L.length)) :: (arr, jE1 cy mz f) :: tl) tx v hv) (va_cwS 1 hts gJ5_append_c97b9_J6_stringSize_0f7a4 rfl rfl rfl (by decide +kernel) ⟨Nat.le_of_ble_eq_true rfl, Nat.le_of_ble_eq_true rfl⟩) (jPreS hP hD hK hX hT hS) rfl rfl hl.1 rfl (lv_room (Nat.le_of_ble_eq_true rfl)) dJ5_append_c97b9_7 ⟨Nat.le_of_ble_eq_true rfl, Nat.le_of_ble_eq_true rfl⟩) hS (fun H locs hP hD hS => ?_)
  refine xadd (z := nI (L.length + (dig v).length)) hx hb (ixAdd (a := L.length) (c := ((dig v).length)) (d := (L.length + (dig v).length)) rfl rfl (by omega)) dJ5_append_c97b9_10 ?_
  refine lv_istore_n (lv' := [(3, .int (nI (L.length + (dig v).length))), (2, .int (nI L.length)), (0, .ref sb), (1, .int (nI v))]) hx hb dJ5_append_c97b9_11 rfl hl (by decide) rfl (fun ls hl => ?_)
  refine lv_aload_n hx hb dJ5_append_c97b9_12 rfl (lv_at hl 2 rfl) ?_
  refine lv_iload_n hx hb dJ5_append_c97b9_13 rfl (lv_at hl 0 rfl) ?_
  refine xj_v (va_runU (As := [.int (nI (L.length + (dig v).length))]) (rest := []) ⟨hx, hb, hml, hown, hts⟩ (c_J5_ensureCapacityInternal_d00df l D cy A tl tx sb arr mz f (nI L.length) (L.length + (dig v).length) hB.1 (by omega) hB.2.2.1) (va_cwU 1 hts gJ5_append_c97b9_J5_ensureCapacityInternal_d00df_u100J4 rfl rfl rfl rfl (by decide +kernel) ⟨Nat.le_of_ble_eq_true rfl, Nat.le_of_ble_eq_true rfl⟩) (jPreV 0 hP hD hK hX hT hS rfl rfl) rfl rfl hl.1 rfl (lv_room (Nat.le_of_ble_eq_true rfl)) dJ5_append_c97b9_14 ⟨Nat.le_of_ble_eq_true rfl, Nat.le_of_ble_eq_true rfl⟩) hS (fun u H locs hu hP hD hS => ?_)
  obtain ⟨arr', mz', f'⟩ := u
  obtain ⟨g1, g2, g3, g4, g5⟩ := hu
  dsimp only at g1 g2 g3 g4 g5
  have hB' : JL f' L := hB.2.2.2.eqv (fun j hj => g5 j (Nat.lt_of_lt_of_le hj hB.2.1))
  have hP : va_P D vwCl ((sb, jE0 (arr') (nI L.length)) :: (arr', jE1 cy (mz') (f')) :: tl) H := hP
  have hD : va_D A ((sb, jE0 (arr') (nI L.length)) :: (arr', jE1 cy (mz') (f')) :: tl) := hD
  refine lv_aload_n hx hb dJ5_append_c97b9_17 rfl (lv_at hl 2 rfl) ?_
  refine xj_i (va_runU (As := []) (rest := []) ⟨hx, hb, hml, hown, hts⟩ (c_J5_isLatin1_aae02 l D cy A ((arr', jE1 cy mz' f') :: tl) tx sb arr' (nI L.length)) (va_cwU 0 hts gJ5_append_c97b9_J5_isLatin1_aae02_u83J4 rfl rfl rfl rfl (by decide +kernel) ⟨Nat.le_of_ble_eq_true rfl, Nat.le_of_ble_eq_true rfl⟩) (jPreV 0 hP hD hK hX hT hS rfl rfl) rfl rfl hl.1 rfl (lv_room (Nat.le_of_ble_eq_true rfl)) dJ5_append_c97b9_18 ⟨Nat.le_of_ble_eq_true rfl, Nat.le_of_ble_eq_true rfl⟩) hS (fun H locs hP hD hS => ?_)
  refine lv_if_eq (tgt := 37) hx hb dJ5_append_c97b9_21 (by decide) (fun c21 => absurd c21 (by decide)) (fun c21 => ?_)
  refine lv_iload_n hx hb dJ5_append_c97b9_24 rfl (lv_at hl 3 rfl) ?_
  refine lv_iload_n hx hb dJ5_append_c97b9_25 rfl (lv_at hl 0 rfl) ?_
  refine lv_aload_n hx hb dJ5_append_c97b9_26 rfl (lv_at hl 2 rfl) ?_
  refine va_get (C := RJ4) (T := TJ4) (N := 4) (ci := 8) (v := .ref (arr')) hx hb hts inc4 hown hK hP 0 rfl rfl 0 (by decide) (hts (.fieldLink RJ5 15 "java/lang/AbstractStringBuilder" "value" "[B") (by decide +kernel)) (fun _ h => h) rfl dJ5_append_c97b9_27 ?_
  refine xj_e (va_runS (As := [.int (nI v), .int (nI (L.length + (dig v).length)), .ref (arr')]) (rest := []) ⟨hx, hb, hml, hown, hts⟩ (c_J6_getChars_ba4f3 l D cy A tl tx sb arr' mz' f' (nI L.length) L v hv g4 hB' g1 g3) (va_cwS 3 hts gJ5_append_c97b9_J6_getChars_ba4f3 rfl rfl rfl (by decide +kernel) ⟨Nat.le_of_ble_eq_true rfl, Nat.le_of_ble_eq_true rfl⟩) (jPreS hP hD hK hX hT hS) rfl rfl hl.1 rfl (lv_room (Nat.le_of_ble_eq_true rfl)) dJ5_append_c97b9_30 ⟨Nat.le_of_ble_eq_true rfl, Nat.le_of_ble_eq_true rfl⟩) hS (fun w H locs hw hP hD hS => ?_)
  have hP : va_P D vwCl ((sb, jE0 (arr') (nI L.length)) :: (arr', jE1 cy (mz') w) :: tl) H := hP
  have hD : va_D A ((sb, jE0 (arr') (nI L.length)) :: (arr', jE1 cy (mz') w) :: tl) := hD
  refine lv_pop hx hb dJ5_append_c97b9_33 rfl ?_
  refine lv_goto (tgt := 48) hx hb dJ5_append_c97b9_34 (by decide) ?_
  refine lv_aload_n hx hb dJ5_append_c97b9_48 rfl (lv_at hl 2 rfl) ?_
  refine lv_iload_n hx hb dJ5_append_c97b9_49 rfl (lv_at hl 0 rfl) ?_
  refine va_put (C := RJ4) (T := TJ4) (N := 4) (ci := 8) hx hb hts inc4 tyJ4 tyJ4_ok nmJ4 hown hK hP hD hS 0 rfl rfl 3 (by decide) (hts (.fieldLink RJ5 79 "java/lang/AbstractStringBuilder" "count" "I") (by decide +kernel)) (fun _ h => h) rfl rfl rfl rfl (Nat.le_of_ble_eq_true rfl) dJ5_append_c97b9_50 (fun H locs hP hD hS => ?_)
  have hP : va_P D vwCl ((sb, jE0 (arr') (nI (L.length + (dig v).length))) :: (arr', jE1 cy (mz') w) :: tl) H := hP
  have hD : va_D A ((sb, jE0 (arr') (nI (L.length + (dig v).length))) :: (arr', jE1 cy (mz') w) :: tl) := hD
  refine lv_aload_n hx hb dJ5_append_c97b9_53 rfl (lv_at hl 2 rfl) ?_
  rw [show L.length + (dig v).length = (L ++ dig v).length from (List.length_append).symm] at hP hD
  exact je_a hx hb hr (Or.inl ⟨_, rfl⟩) hlocks ((arr', mz', w)) (⟨g3, by show (L ++ dig v).length ≤ mz'; rw [List.length_append]; omega, hw.1, hw.2⟩) hP hD hS rfl (Nat.le_of_ble_eq_true rfl) (Nat.le_of_ble_eq_true rfl) dJ5_append_c97b9_54

set_option maxHeartbeats 4000000 in
set_option maxRecDepth 100000 in
theorem c_coder (l : Launch) (D : va_G) (cy : Nat → ClassId) (A : Nat → Prop) (tl : va_W) (tx : List (Nat × List Int32)) (a : Nat) (X : List Int32) (ha : (a, X) ∈ tx)  : Met l yJ0_coder_7d493 wsJ0_coder_7d493 ({ frames := 0, cells := 0, slots := 0, locals := 0 } : Room) (JP D cy A (tl) tx [.ref a]) (JQi D A tl 0) 0 0 A := by
  refine Met.ofW (cc := cJ0_coder_7d493) (maxL := 1) (ret := (some .byte)) (by decide) rfl ?_
  intro p e s m args below meth c s₁ B hml hv
  obtain ⟨rfl, ⟨hP, hD⟩, hK, hX, hT⟩ := hv
  have hx := B.exec
  have hb := B.bytes
  have hr := B.returns
  have hts := atoms_spec (ws := wsJ0_coder_7d493) B.pre
  have hown : s.vm.findClass RJ0 = some m.cls := findClass_of_methodNamed B.named
  have hlocks := B.notSynchronized
  have hS : va_S A s.heap s.heap [] := va_S.rf
  have hl := lv_entry ([.ref a]) (n := 1) (Nat.le_of_ble_eq_true rfl)
  rw [lg_entry_eq]
  generalize (lg_sl ([.ref a]) ++ List.replicate (1 - (lg_sl ([.ref a])).length) Slot.unset).toArray = ls at hl ⊢
  have hl : lv_has ls 1 [(0, .ref a)] := hl
  obtain ⟨av, hO, hco, hva, hTb⟩ := id (hT _ ha)
  have hTb : va_T .byte av X.length (fun j => .int (X.getD j 0)) A s s.heap := hTb
  refine va_gets hx hb hX.1 hS hown (hts (.fieldLink RJ0 38 "java/lang/String" "COMPACT_STRINGS" "Z") (by decide +kernel)) (fun _ h => h) dJ0_coder_7d493_0 ?_
  refine lv_if_eq (tgt := 13) hx hb dJ0_coder_7d493_3 (by decide) (fun c3 => absurd c3 (by decide)) (fun c3 => ?_)
  refine lv_aload_n hx hb dJ0_coder_7d493_6 rfl (lv_at hl 0 rfl) ?_
  refine vk_getf hx hb hco hS hown (hts (.fieldLink RJ0 15 "java/lang/String" "coder" "B") (by decide +kernel)) (fun _ h => h) dJ0_coder_7d493_7 ?_
  refine lv_goto (tgt := 14) hx hb dJ0_coder_7d493_10 (by decide) ?_
  exact je_i hx hb hr hlocks hP hD hS rfl rfl rfl (Nat.le_of_ble_eq_true rfl) (Nat.le_of_ble_eq_true rfl) dJ0_coder_7d493_14

set_option maxHeartbeats 4000000 in
set_option maxRecDepth 100000 in
theorem c_length (l : Launch) (D : va_G) (cy : Nat → ClassId) (A : Nat → Prop) (tl : va_W) (tx : List (Nat × List Int32)) (a : Nat) (X : List Int32) (ha : (a, X) ∈ tx)  : Met l yJ0_length_8abf5 wsJ0_length_8abf5 ({ frames := 1, cells := 0, slots := 0, locals := 40 } : Room) (JP D cy A (tl) tx [.ref a]) (JQi D A tl (nI X.length)) 0 0 A := by
  refine Met.ofW (cc := cJ0_length_8abf5) (maxL := 1) (ret := (some .int)) (by decide) rfl ?_
  intro p e s m args below meth c s₁ B hml hv
  obtain ⟨rfl, ⟨hP, hD⟩, hK, hX, hT⟩ := hv
  have hx := B.exec
  have hb := B.bytes
  have hr := B.returns
  have hts := atoms_spec (ws := wsJ0_length_8abf5) B.pre
  have hown : s.vm.findClass RJ0 = some m.cls := findClass_of_methodNamed B.named
  have hlocks := B.notSynchronized
  have hS : va_S A s.heap s.heap [] := va_S.rf
  have hl := lv_entry ([.ref a]) (n := 1) (Nat.le_of_ble_eq_true rfl)
  rw [lg_entry_eq]
  generalize (lg_sl ([.ref a]) ++ List.replicate (1 - (lg_sl ([.ref a])).length) Slot.unset).toArray = ls at hl ⊢
  have hl : lv_has ls 1 [(0, .ref a)] := hl
  obtain ⟨av, hO, hco, hva, hTb⟩ := id (hT _ ha)
  have hTb : va_T .byte av X.length (fun j => .int (X.getD j 0)) A s s.heap := hTb
  refine lv_aload_n hx hb dJ0_length_8abf5_0 rfl (lv_at hl 0 rfl) ?_
  refine vk_getf hx hb hva hS hown (hts (.fieldLink RJ0 9 "java/lang/String" "value" "[B") (by decide +kernel)) (fun _ h => h) dJ0_length_8abf5_1 ?_
  refine va_tlen (v := nI X.length) hx hb hTb hS rfl dJ0_length_8abf5_4 ?_
  refine lv_aload_n hx hb dJ0_length_8abf5_5 rfl (lv_at hl 0 rfl) ?_
  refine xj_i (va_runV (As := []) (rest := [.int (nI X.length)]) ⟨hx, hb, hml, hown, hts⟩ (c_coder l D cy A (tl) tx a X ha) (cwV 0 hts gJ0_length_8abf5_J0_coder_7d493 rfl rfl rfl (by decide +kernel) ⟨Nat.le_of_ble_eq_true rfl, Nat.le_of_ble_eq_true rfl⟩) (jPreVS hP hD hK hX hT hS (hT _ ha)) rfl rfl hl.1 rfl (lv_room (Nat.le_of_ble_eq_true rfl)) dJ0_length_8abf5_6 ⟨Nat.le_of_ble_eq_true rfl, Nat.le_of_ble_eq_true rfl⟩) hS (fun H locs hP hD hS => ?_)
  refine lv_ishr hx hb dJ0_length_8abf5_9 ?_
  rw [j_shr0]
  exact je_i hx hb hr hlocks hP hD hS rfl rfl rfl (Nat.le_of_ble_eq_true rfl) (Nat.le_of_ble_eq_true rfl) dJ0_length_8abf5_10

set_option maxHeartbeats 4000000 in
set_option maxRecDepth 100000 in
theorem c_J5_inflateIfNeededFor_a7421 (l : Launch) (D : va_G) (cy : Nat → ClassId) (A : Nat → Prop) (tl : va_W) (tx : List (Nat × List Int32)) (sb arr : Nat) (cnt : Int32) (a : Nat) (X : List Int32) (ha : (a, X) ∈ tx)  : Met l yJ5_inflateIfNeededFor_a7421 wsJ5_inflateIfNeededFor_a7421 ({ frames := 1, cells := 0, slots := 0, locals := 40 } : Room) (JP D cy A ((sb, jE0 arr cnt) :: tl) tx [.ref sb, .ref a]) (JQv D A (fun (_ : Unit) => True) (fun _ => (sb, jE0 arr cnt) :: tl)) 0 0 A := by
  refine Met.ofW (cc := cJ5_inflateIfNeededFor_a7421) (maxL := 2) (ret := none) (by decide) rfl ?_
  intro p e s m args below meth c s₁ B hml hv
  obtain ⟨rfl, ⟨hP, hD⟩, hK, hX, hT⟩ := hv
  have hx := B.exec
  have hb := B.bytes
  have hr := B.returns
  have hts := atoms_spec (ws := wsJ5_inflateIfNeededFor_a7421) B.pre
  have hown : s.vm.findClass RJ5 = some m.cls := findClass_of_methodNamed B.named
  have hlocks := B.notSynchronized
  have hS : va_S A s.heap s.heap [] := va_S.rf
  have hl := lv_entry ([.ref sb, .ref a]) (n := 2) (Nat.le_of_ble_eq_true rfl)
  rw [lg_entry_eq]
  generalize (lg_sl ([.ref sb, .ref a]) ++ List.replicate (2 - (lg_sl ([.ref sb, .ref a])).length) Slot.unset).toArray = ls at hl ⊢
  have hl : lv_has ls 2 [(0, .ref sb), (1, .ref a)] := hl
  have inc4 : ∀ w ∈ u_ws RJ4 TJ4 4, w ∈ wsJ5_inflateIfNeededFor_a7421 := by decide +kernel
  refine va_gets hx hb hX.1 hS hown (hts (.fieldLink RJ5 18 "java/lang/String" "COMPACT_STRINGS" "Z") (by decide +kernel)) (fun _ h => h) dJ5_inflateIfNeededFor_a7421_0 ?_
  refine lv_if_eq (tgt := 21) hx hb dJ5_inflateIfNeededFor_a7421_3 (by decide) (fun c3 => absurd c3 (by decide)) (fun c3 => ?_)
  refine lv_aload_n hx hb dJ5_inflateIfNeededFor_a7421_6 rfl (lv_at hl 0 rfl) ?_
  refine va_get (C := RJ4) (T := TJ4) (N := 4) (ci := 8) (v := .int 0) hx hb hts inc4 hown hK hP 0 rfl rfl 1 (by decide) (hts (.fieldLink RJ5 22 "java/lang/AbstractStringBuilder" "coder" "B") (by decide +kernel)) (fun _ h => h) rfl dJ5_inflateIfNeededFor_a7421_7 ?_
  refine lv_aload_n hx hb dJ5_inflateIfNeededFor_a7421_10 rfl (lv_at hl 1 rfl) ?_
  refine xj_i (va_runV (As := []) (rest := [.int 0]) ⟨hx, hb, hml, hown, hts⟩ (c_coder l D cy A ((sb, jE0 arr cnt) :: tl) tx a X ha) (cwV 0 hts gJ5_inflateIfNeededFor_a7421_J0_coder_7d493 rfl rfl rfl (by decide +kernel) ⟨Nat.le_of_ble_eq_true rfl, Nat.le_of_ble_eq_true rfl⟩) (jPreVS hP hD hK hX hT hS (hT _ ha)) rfl rfl hl.1 rfl (lv_room (Nat.le_of_ble_eq_true rfl)) dJ5_inflateIfNeededFor_a7421_11 ⟨Nat.le_of_ble_eq_true rfl, Nat.le_of_ble_eq_true rfl⟩) hS (fun H locs hP hD hS => ?_)
  refine lv_icmp_eq (tgt := 21) hx hb dJ5_inflateIfNeededFor_a7421_14 (by decide) (fun c14 => ?_) (fun c14 => absurd rfl c14)
  exact je_v hx hb hr hlocks (()) (trivial) hP hD hS rfl (Nat.le_of_ble_eq_true rfl) (Nat.le_of_ble_eq_true rfl) dJ5_inflateIfNeededFor_a7421_21

set_option maxHeartbeats 4000000 in
set_option maxRecDepth 100000 in
theorem c_J0_getBytes_840e7 (l : Launch) (D : va_G) (cy : Nat → ClassId) (A : Nat → Prop) (tl : va_W) (tx : List (Nat × List Int32)) (arr mz : Nat) (f : Nat → Int32) (k : Nat) (a : Nat) (X : List Int32) (ha : (a, X) ∈ tx) (hXf : ∀ j, j < X.length → fits .byte (.int (X.getD j 0)) = true) (hk : k + X.length ≤ mz) (hm : mz ≤ 148) : Met l yJ0_getBytes_840e7 wsJ0_getBytes_840e7 ({ frames := 1, cells := 0, slots := 0, locals := 120 } : Room) (JP D cy A ((arr, jE1 cy mz f) :: tl) tx [.ref a, .ref arr, .int (nI k), .int 0]) (JQv D A (fun (_ : Unit) => True) (fun _ => (arr, jE1 cy mz (va_cpy (fun j => X.getD j 0) f 0 k X.length)) :: tl)) 0 0 A := by
  refine Met.ofW (cc := cJ0_getBytes_840e7) (maxL := 4) (ret := none) (by decide) rfl ?_
  intro p e s m args below meth c s₁ B hml hv
  obtain ⟨rfl, ⟨hP, hD⟩, hK, hX, hT⟩ := hv
  have hx := B.exec
  have hb := B.bytes
  have hr := B.returns
  have hts := atoms_spec (ws := wsJ0_getBytes_840e7) B.pre
  have hown : s.vm.findClass RJ0 = some m.cls := findClass_of_methodNamed B.named
  have hlocks := B.notSynchronized
  have hS : va_S A s.heap s.heap [] := va_S.rf
  have hl := lv_entry ([.ref a, .ref arr, .int (nI k), .int 0]) (n := 4) (Nat.le_of_ble_eq_true rfl)
  rw [lg_entry_eq]
  generalize (lg_sl ([.ref a, .ref arr, .int (nI k), .int 0]) ++ List.replicate (4 - (lg_sl ([.ref a, .ref arr, .int (nI k), .int 0])).length) Slot.unset).toArray = ls at hl ⊢
  have hl : lv_has ls 4 [(0, .ref a), (1, .ref arr), (2, .int (nI k)), (3, .int 0)] := hl
  obtain ⟨av, hO, hco, hva, hTb⟩ := id (hT _ ha)
  have hTb : va_T .byte av X.length (fun j => .int (X.getD j 0)) A s s.heap := hTb
  refine lv_aload_n hx hb dJ0_getBytes_840e7_0 rfl (lv_at hl 0 rfl) ?_
  refine xj_i (va_runV (As := []) (rest := []) ⟨hx, hb, hml, hown, hts⟩ (c_coder l D cy A ((arr, jE1 cy mz f) :: tl) tx a X ha) (cwV 0 hts gJ0_getBytes_840e7_J0_coder_7d493 rfl rfl rfl (by decide +kernel) ⟨Nat.le_of_ble_eq_true rfl, Nat.le_of_ble_eq_true rfl⟩) (jPreVS hP hD hK hX hT hS (hT _ ha)) rfl rfl hl.1 rfl (lv_room (Nat.le_of_ble_eq_true rfl)) dJ0_getBytes_840e7_1 ⟨Nat.le_of_ble_eq_true rfl, Nat.le_of_ble_eq_true rfl⟩) hS (fun H locs hP hD hS => ?_)
  refine lv_iload_n hx hb dJ0_getBytes_840e7_4 rfl (lv_at hl 3 rfl) ?_
  refine lv_icmp_ne (tgt := 28) hx hb dJ0_getBytes_840e7_5 (by decide) (fun c5 => absurd rfl c5) (fun c5 => ?_)
  refine lv_aload_n hx hb dJ0_getBytes_840e7_8 rfl (lv_at hl 0 rfl) ?_
  refine vk_getf hx hb hva hS hown (hts (.fieldLink RJ0 9 "java/lang/String" "value" "[B") (by decide +kernel)) (fun _ h => h) dJ0_getBytes_840e7_9 ?_
  refine lv_iconst (v := 0) hx hb dJ0_getBytes_840e7_12 (by decide) ?_
  refine lv_aload_n hx hb dJ0_getBytes_840e7_13 rfl (lv_at hl 1 rfl) ?_
  refine lv_iload_n hx hb dJ0_getBytes_840e7_14 rfl (lv_at hl 2 rfl) ?_
  refine lv_iload_n hx hb dJ0_getBytes_840e7_15 rfl (lv_at hl 3 rfl) ?_
  refine lv_ishl hx hb dJ0_getBytes_840e7_16 ?_
  rw [j_shl0]
  refine lv_aload_n hx hb dJ0_getBytes_840e7_17 rfl (lv_at hl 0 rfl) ?_
  refine vk_getf hx hb hva hS hown (hts (.fieldLink RJ0 9 "java/lang/String" "value" "[B") (by decide +kernel)) (fun _ h => h) dJ0_getBytes_840e7_18 ?_
  refine va_tlen (v := nI X.length) hx hb hTb hS rfl dJ0_getBytes_840e7_21 ?_
  refine vk_copyt (f := (fun j => X.getD j 0)) hx hb (hml.trans hl.1.symm) hown (hts (.methodLink RJ0 212 arraycopyName) (by decide +kernel)) (hts (.native arraycopyName) (by decide +kernel)) (hts (.static arraycopyName) (by decide +kernel)) (hts (.initialized "java/lang/System") (by decide +kernel)) hK hP hD hS hTb 0 0 rfl rfl (by decide) (nI_pos (by omega)) (nI_pos (by omega)) (by rw [show (0 : Int32).toNatClampNeg = 0 from rfl, nI_clamp (show X.length < 2 ^ 31 by omega)]; omega) (by rw [nI_clamp (show k < 2 ^ 31 by omega), nI_clamp (show X.length < 2 ^ 31 by omega)]; omega) (fun i hi => by rw [nI_clamp (by omega)] at hi; rw [show (0 : Int32).toNatClampNeg = 0 from rfl]; exact hXf _ (by omega)) (Nat.le_of_ble_eq_true rfl) (Nat.le_of_ble_eq_true rfl) dJ0_getBytes_840e7_22 (fun H locs hP hD hS => ?_)
  rw [show (0 : Int32).toNatClampNeg = 0 from rfl, nI_clamp (show k < 2 ^ 31 by omega), nI_clamp (show X.length < 2 ^ 31 by omega)] at hP hD
  have hP : va_P D vwCl ((arr, jE1 cy mz (va_cpy (fun j => X.getD j 0) f 0 k X.length)) :: tl) H := hP
  have hD : va_D A ((arr, jE1 cy mz (va_cpy (fun j => X.getD j 0) f 0 k X.length)) :: tl) := hD
  refine lv_goto (tgt := 43) hx hb dJ0_getBytes_840e7_25 (by decide) ?_
  exact je_v hx hb hr hlocks (()) (trivial) hP hD hS rfl (Nat.le_of_ble_eq_true rfl) (Nat.le_of_ble_eq_true rfl) dJ0_getBytes_840e7_43

set_option maxHeartbeats 4000000 in
set_option maxRecDepth 100000 in
theorem c_J5_putStringAt_47b60 (l : Launch) (D : va_G) (cy : Nat → ClassId) (A : Nat → Prop) (tl : va_W) (tx : List (Nat × List Int32)) (sb arr mz : Nat) (f : Nat → Int32) (cnt : Int32) (k : Nat) (a : Nat) (X : List Int32) (ha : (a, X) ∈ tx) (hXf : ∀ j, j < X.length → fits .byte (.int (X.getD j 0)) = true) (hk : k + X.length ≤ mz) (hm : mz ≤ 148) : Met l yJ5_putStringAt_47b60 wsJ5_putStringAt_47b60 ({ frames := 2, cells := 0, slots := 0, locals := 160 } : Room) (JP D cy A ((sb, jE0 arr cnt) :: (arr, jE1 cy mz f) :: tl) tx [.ref sb, .int (nI k), .ref a]) (JQv D A (fun (_ : Unit) => True) (fun _ => (sb, jE0 arr cnt) :: (arr, jE1 cy mz (va_cpy (fun j => X.getD j 0) f 0 k X.length)) :: tl)) 0 0 A := by
  refine Met.ofW (cc := cJ5_putStringAt_47b60) (maxL := 3) (ret := none) (by decide) rfl ?_
  intro p e s m args below meth c s₁ B hml hv
  obtain ⟨rfl, ⟨hP, hD⟩, hK, hX, hT⟩ := hv
  have hx := B.exec
  have hb := B.bytes
  have hr := B.returns
  have hts := atoms_spec (ws := wsJ5_putStringAt_47b60) B.pre
  have hown : s.vm.findClass RJ5 = some m.cls := findClass_of_methodNamed B.named
  have hlocks := B.notSynchronized
  have hS : va_S A s.heap s.heap [] := va_S.rf
  have hl := lv_entry ([.ref sb, .int (nI k), .ref a]) (n := 3) (Nat.le_of_ble_eq_true rfl)
  rw [lg_entry_eq]
  generalize (lg_sl ([.ref sb, .int (nI k), .ref a]) ++ List.replicate (3 - (lg_sl ([.ref sb, .int (nI k), .ref a])).length) Slot.unset).toArray = ls at hl ⊢
  have hl : lv_has ls 3 [(0, .ref sb), (1, .int (nI k)), (2, .ref a)] := hl
  have inc4 : ∀ w ∈ u_ws RJ4 TJ4 4, w ∈ wsJ5_putStringAt_47b60 := by decide +kernel
  refine lv_aload_n hx hb dJ5_putStringAt_47b60_0 rfl (lv_at hl 0 rfl) ?_
  refine lv_aload_n hx hb dJ5_putStringAt_47b60_1 rfl (lv_at hl 2 rfl) ?_
  refine xj_v (va_runU (As := [.ref a]) (rest := []) ⟨hx, hb, hml, hown, hts⟩ (c_J5_inflateIfNeededFor_a7421 l D cy A ((arr, jE1 cy mz f) :: tl) tx sb arr cnt a X ha) (va_cwU 1 hts gJ5_putStringAt_47b60_J5_inflateIfNeededFor_a7421_u397J4 rfl rfl rfl rfl (by decide +kernel) ⟨Nat.le_of_ble_eq_true rfl, Nat.le_of_ble_eq_true rfl⟩) (jPreV 0 hP hD hK hX hT hS rfl rfl) rfl rfl hl.1 rfl (lv_room (Nat.le_of_ble_eq_true rfl)) dJ5_putStringAt_47b60_2 ⟨Nat.le_of_ble_eq_true rfl, Nat.le_of_ble_eq_true rfl⟩) hS (fun _ H locs _ hP hD hS => ?_)
  refine lv_aload_n hx hb dJ5_putStringAt_47b60_5 rfl (lv_at hl 2 rfl) ?_
  refine lv_aload_n hx hb dJ5_putStringAt_47b60_6 rfl (lv_at hl 0 rfl) ?_
  refine va_get (C := RJ4) (T := TJ4) (N := 4) (ci := 8) (v := .ref arr) hx hb hts inc4 hown hK hP 0 rfl rfl 0 (by decide) (hts (.fieldLink RJ5 15 "java/lang/AbstractStringBuilder" "value" "[B") (by decide +kernel)) (fun _ h => h) rfl dJ5_putStringAt_47b60_7 ?_
  refine lv_iload_n hx hb dJ5_putStringAt_47b60_10 rfl (lv_at hl 1 rfl) ?_
  refine lv_aload_n hx hb dJ5_putStringAt_47b60_11 rfl (lv_at hl 0 rfl) ?_
  refine va_get (C := RJ4) (T := TJ4) (N := 4) (ci := 8) (v := .int 0) hx hb hts inc4 hown hK hP 0 rfl rfl 1 (by decide) (hts (.fieldLink RJ5 22 "java/lang/AbstractStringBuilder" "coder" "B") (by decide +kernel)) (fun _ h => h) rfl dJ5_putStringAt_47b60_12 ?_
  obtain ⟨hP, hD⟩ := jswap hP hD
  refine xj_v (va_runV (As := [.ref arr, .int (nI k), .int 0]) (rest := []) ⟨hx, hb, hml, hown, hts⟩ (c_J0_getBytes_840e7 l D cy A ((sb, jE0 arr cnt) :: tl) tx arr mz f k a X ha hXf hk hm) (cwV 3 hts gJ5_putStringAt_47b60_J0_getBytes_840e7 rfl rfl rfl (by decide +kernel) ⟨Nat.le_of_ble_eq_true rfl, Nat.le_of_ble_eq_true rfl⟩) (jPreVS hP hD hK hX hT hS (hT _ ha)) rfl rfl hl.1 rfl (lv_room (Nat.le_of_ble_eq_true rfl)) dJ5_putStringAt_47b60_15 ⟨Nat.le_of_ble_eq_true rfl, Nat.le_of_ble_eq_true rfl⟩) hS (fun _ H locs _ hP hD hS => ?_)
  have hP : va_P D vwCl ((arr, jE1 cy mz (va_cpy (fun j => X.getD j 0) f 0 k X.length)) :: (sb, jE0 arr cnt) :: tl) H := hP
  have hD : va_D A ((arr, jE1 cy mz (va_cpy (fun j => X.getD j 0) f 0 k X.length)) :: (sb, jE0 arr cnt) :: tl) := hD
  obtain ⟨hP, hD⟩ := jswap hP hD
  exact je_v hx hb hr hlocks (()) (trivial) hP hD hS rfl (Nat.le_of_ble_eq_true rfl) (Nat.le_of_ble_eq_true rfl) dJ5_putStringAt_47b60_18

set_option maxHeartbeats 4000000 in
set_option maxRecDepth 100000 in
theorem c_J5_append_cf1ce (l : Launch) (D : va_G) (cy : Nat → ClassId) (A : Nat → Prop) (tl : va_W) (tx : List (Nat × List Int32)) (sb arr mz : Nat) (f : Nat → Int32) (L : List Int32) (hB : JB L (arr, mz, f)) (a : Nat) (X : List Int32) (ha : (a, X) ∈ tx) (hXf : ∀ j, j < X.length → fits .byte (.int (X.getD j 0)) = true) (hL : L.length + X.length ≤ 74) : Met l yJ5_append_cf1ce wsJ5_append_cf1ce ({ frames := 4, cells := 1, slots := 148, locals := 220 } : Room) (JP D cy A ((sb, jE0 arr (nI L.length)) :: (arr, jE1 cy mz f) :: tl) tx [.ref sb, .ref a]) (JQa D A (JB (L ++ X)) (jW cy sb (L ++ X) tl) sb) 1 148 A := by
  refine Met.ofW (cc := cJ5_append_cf1ce) (maxL := 3) (ret := (some (.object "java/lang/AbstractStringBuilder"))) (by decide) rfl ?_
  intro p e s m args below meth c s₁ B hml hv
  obtain ⟨rfl, ⟨hP, hD⟩, hK, hX, hT⟩ := hv
  have hx := B.exec
  have hb := B.bytes
  have hr := B.returns
  have hts := atoms_spec (ws := wsJ5_append_cf1ce) B.pre
  have hown : s.vm.findClass RJ5 = some m.cls := findClass_of_methodNamed B.named
  have hlocks := B.notSynchronized
  have hS : va_S A s.heap s.heap [] := va_S.rf
  have hl := lv_entry ([.ref sb, .ref a]) (n := 3) (Nat.le_of_ble_eq_true rfl)
  rw [lg_entry_eq]
  generalize (lg_sl ([.ref sb, .ref a]) ++ List.replicate (3 - (lg_sl ([.ref sb, .ref a])).length) Slot.unset).toArray = ls at hl ⊢
  have hl : lv_has ls 3 [(0, .ref sb), (1, .ref a)] := hl
  have inc4 : ∀ w ∈ u_ws RJ4 TJ4 4, w ∈ wsJ5_append_cf1ce := by decide +kernel
  refine lv_aload_n hx hb dJ5_append_cf1ce_0 rfl (lv_at hl 1 rfl) ?_
  refine lv_ifnonnull (tgt := 9) hx hb dJ5_append_cf1ce_1 (by decide) ?_
  refine lv_aload_n hx hb dJ5_append_cf1ce_9 rfl (lv_at hl 1 rfl) ?_
  refine xj_i (va_runV (As := []) (rest := []) ⟨hx, hb, hml, hown, hts⟩ (c_length l D cy A ((sb, jE0 arr (nI L.length)) :: (arr, jE1 cy mz f) :: tl) tx a X ha) (cwV 0 hts gJ5_append_cf1ce_J0_length_8abf5 rfl rfl rfl (by decide +kernel) ⟨Nat.le_of_ble_eq_true rfl, Nat.le_of_ble_eq_true rfl⟩) (jPreVS hP hD hK hX hT hS (hT _ ha)) rfl rfl hl.1 rfl (lv_room (Nat.le_of_ble_eq_true rfl)) dJ5_append_cf1ce_10 ⟨Nat.le_of_ble_eq_true rfl, Nat.le_of_ble_eq_true rfl⟩) hS (fun H locs hP hD hS => ?_)
  refine lv_istore_n (lv' := [(2, .int (nI X.length)), (0, .ref sb), (1, .ref a)]) hx hb dJ5_append_cf1ce_13 rfl hl (by decide) rfl (fun ls hl => ?_)
  refine lv_aload_n hx hb dJ5_append_cf1ce_14 rfl (lv_at hl 1 rfl) ?_
  refine lv_aload_n hx hb dJ5_append_cf1ce_15 rfl (lv_at hl 1 rfl) ?_
  refine va_get (C := RJ4) (T := TJ4) (N := 4) (ci := 8) (v := .int (nI L.length)) hx hb hts inc4 hown hK hP 0 rfl rfl 3 (by decide) (hts (.fieldLink RJ5 79 "java/lang/AbstractStringBuilder" "count" "I") (by decide +kernel)) (fun _ h => h) rfl dJ5_append_cf1ce_16 ?_
  refine lv_iload_n hx hb dJ5_append_cf1ce_19 rfl (lv_at hl 0 rfl) ?_
  refine xadd (z := nI (L.length + X.length)) hx hb (ixAdd (a := L.length) (c := X.length) (d := (L.length + X.length)) rfl rfl (by omega)) dJ5_append_cf1ce_20 ?_
  refine xj_v (va_runU (As := [.int (nI (L.length + X.length))]) (rest := []) ⟨hx, hb, hml, hown, hts⟩ (c_J5_ensureCapacityInternal_d00df l D cy A tl tx sb arr mz f (nI L.length) (L.length + X.length) hB.1 (by omega) hB.2.2.1) (va_cwU 1 hts gJ5_append_cf1ce_J5_ensureCapacityInternal_d00df_u100J4 rfl rfl rfl rfl (by decide +kernel) ⟨Nat.le_of_ble_eq_true rfl, Nat.le_of_ble_eq_true rfl⟩) (jPreV 0 hP hD hK hX hT hS rfl rfl) rfl rfl hl.1 rfl (lv_room (Nat.le_of_ble_eq_true rfl)) dJ5_append_cf1ce_21 ⟨Nat.le_of_ble_eq_true rfl, Nat.le_of_ble_eq_true rfl⟩) hS (fun u H locs hu hP hD hS => ?_)
  obtain ⟨arr', mz', f'⟩ := u
  obtain ⟨g1, g2, g3, g4, g5⟩ := hu
  dsimp only at g1 g2 g3 g4 g5
  have hB' : JL f' L := hB.2.2.2.eqv (fun j hj => g5 j (Nat.lt_of_lt_of_le hj hB.2.1))
  have hP : va_P D vwCl ((sb, jE0 (arr') (nI L.length)) :: (arr', jE1 cy (mz') (f')) :: tl) H := hP
  have hD : va_D A ((sb, jE0 (arr') (nI L.length)) :: (arr', jE1 cy (mz') (f')) :: tl) := hD
  refine lv_aload_n hx hb dJ5_append_cf1ce_24 rfl (lv_at hl 1 rfl) ?_
  refine lv_aload_n hx hb dJ5_append_cf1ce_25 rfl (lv_at hl 1 rfl) ?_
  refine va_get (C := RJ4) (T := TJ4) (N := 4) (ci := 8) (v := .int (nI L.length)) hx hb hts inc4 hown hK hP 0 rfl rfl 3 (by decide) (hts (.fieldLink RJ5 79 "java/lang/AbstractStringBuilder" "count" "I") (by decide +kernel)) (fun _ h => h) rfl dJ5_append_cf1ce_26 ?_
  refine lv_aload_n hx hb dJ5_append_cf1ce_29 rfl (lv_at hl 2 rfl) ?_
  refine xj_v (va_runU (As := [.int (nI L.length), .ref a]) (rest := []) ⟨hx, hb, hml, hown, hts⟩ (c_J5_putStringAt_47b60 l D cy A tl tx sb arr' mz' f' (nI L.length) L.length a X ha hXf g1 g3) (va_cwU 2 hts gJ5_append_cf1ce_J5_putStringAt_47b60_u208J4 rfl rfl rfl rfl (by decide +kernel) ⟨Nat.le_of_ble_eq_true rfl, Nat.le_of_ble_eq_true rfl⟩) (jPreV 0 hP hD hK hX hT hS rfl rfl) rfl rfl hl.1 rfl (lv_room (Nat.le_of_ble_eq_true rfl)) dJ5_append_cf1ce_30 ⟨Nat.le_of_ble_eq_true rfl, Nat.le_of_ble_eq_true rfl⟩) hS (fun _ H locs _ hP hD hS => ?_)
  have hP : va_P D vwCl ((sb, jE0 (arr') (nI L.length)) :: (arr', jE1 cy (mz') (va_cpy (fun j => X.getD j 0) f' 0 L.length X.length)) :: tl) H := hP
  have hD : va_D A ((sb, jE0 (arr') (nI L.length)) :: (arr', jE1 cy (mz') (va_cpy (fun j => X.getD j 0) f' 0 L.length X.length)) :: tl) := hD
  refine lv_aload_n hx hb dJ5_append_cf1ce_33 rfl (lv_at hl 1 rfl) ?_
  refine lv_dup hx hb dJ5_append_cf1ce_34 rfl ?_
  refine va_get (C := RJ4) (T := TJ4) (N := 4) (ci := 8) (v := .int (nI L.length)) hx hb hts inc4 hown hK hP 0 rfl rfl 3 (by decide) (hts (.fieldLink RJ5 79 "java/lang/AbstractStringBuilder" "count" "I") (by decide +kernel)) (fun _ h => h) rfl dJ5_append_cf1ce_35 ?_
  refine lv_iload_n hx hb dJ5_append_cf1ce_38 rfl (lv_at hl 0 rfl) ?_
  have hXl : X.length ≤ 74 := by omega
  refine xadd (z := nI (L.length + X.length)) hx hb (ixAdd (a := L.length) (c := X.length) (d := (L.length + X.length)) rfl rfl (by omega)) dJ5_append_cf1ce_39 ?_
  refine va_put (C := RJ4) (T := TJ4) (N := 4) (ci := 8) hx hb hts inc4 tyJ4 tyJ4_ok nmJ4 hown hK hP hD hS 0 rfl rfl 3 (by decide) (hts (.fieldLink RJ5 79 "java/lang/AbstractStringBuilder" "count" "I") (by decide +kernel)) (fun _ h => h) rfl rfl rfl rfl (Nat.le_of_ble_eq_true rfl) dJ5_append_cf1ce_40 (fun H locs hP hD hS => ?_)
  have hP : va_P D vwCl ((sb, jE0 (arr') (nI (L.length + X.length))) :: (arr', jE1 cy (mz') (va_cpy (fun j => X.getD j 0) f' 0 L.length X.length)) :: tl) H := hP
  have hD : va_D A ((sb, jE0 (arr') (nI (L.length + X.length))) :: (arr', jE1 cy (mz') (va_cpy (fun j => X.getD j 0) f' 0 L.length X.length)) :: tl) := hD
  refine lv_aload_n hx hb dJ5_append_cf1ce_43 rfl (lv_at hl 1 rfl) ?_
  rw [show L.length + X.length = (L ++ X).length from (List.length_append).symm] at hP hD
  exact je_a hx hb hr (Or.inl ⟨_, rfl⟩) hlocks ((arr', mz', va_cpy (fun j => X.getD j 0) f' 0 L.length X.length)) (⟨g3, by show (L ++ X).length ≤ mz'; rw [List.length_append]; omega, JF_cpyX hXf g4 L.length, JL_cpy hB' (fun j hj => rfl)⟩) hP hD hS rfl (Nat.le_of_ble_eq_true rfl) (Nat.le_of_ble_eq_true rfl) dJ5_append_cf1ce_44

set_option maxHeartbeats 4000000 in
set_option maxRecDepth 100000 in
theorem c_J4_append_15ec4 (l : Launch) (D : va_G) (cy : Nat → ClassId) (A : Nat → Prop) (tl : va_W) (tx : List (Nat × List Int32)) (sb arr mz : Nat) (f : Nat → Int32) (L : List Int32) (hB : JB L (arr, mz, f)) (a : Nat) (X : List Int32) (ha : (a, X) ∈ tx) (hXf : ∀ j, j < X.length → fits .byte (.int (X.getD j 0)) = true) (hL : L.length + X.length ≤ 74) : Met l yJ4_append_15ec4 wsJ4_append_15ec4 ({ frames := 5, cells := 1, slots := 148, locals := 250 } : Room) (JP D cy A ((sb, jE0 arr (nI L.length)) :: (arr, jE1 cy mz f) :: tl) tx [.ref sb, .ref a]) (JQa D A (JB (L ++ X)) (jW cy sb (L ++ X) tl) sb) 1 148 A := by
  refine Met.ofW (cc := cJ4_append_15ec4) (maxL := 2) (ret := (some (.object "java/lang/StringBuilder"))) (by decide) rfl ?_
  intro p e s m args below meth c s₁ B hml hv
  obtain ⟨rfl, ⟨hP, hD⟩, hK, hX, hT⟩ := hv
  have hx := B.exec
  have hb := B.bytes
  have hr := B.returns
  have hts := atoms_spec (ws := wsJ4_append_15ec4) B.pre
  have hown : s.vm.findClass RJ4 = some m.cls := findClass_of_methodNamed B.named
  have hlocks := B.notSynchronized
  have hS : va_S A s.heap s.heap [] := va_S.rf
  have hl := lv_entry ([.ref sb, .ref a]) (n := 2) (Nat.le_of_ble_eq_true rfl)
  rw [lg_entry_eq]
  generalize (lg_sl ([.ref sb, .ref a]) ++ List.replicate (2 - (lg_sl ([.ref sb, .ref a])).length) Slot.unset).toArray = ls at hl ⊢
  have hl : lv_has ls 2 [(0, .ref sb), (1, .ref a)] := hl
  refine lv_aload_n hx hb dJ4_append_15ec4_0 rfl (lv_at hl 0 rfl) ?_
  refine lv_aload_n hx hb dJ4_append_15ec4_1 rfl (lv_at hl 1 rfl) ?_
  refine xj_a (va_runSU (As := [.ref a]) (rest := []) (hK.1 8 _ rfl).2 ⟨hx, hb, hml, hown, hts⟩ (c_J5_append_cf1ce l D cy A tl tx sb arr mz f L hB a X ha hXf hL) (va_cwSU 1 hts gJ4_append_15ec4_J5_append_cf1ce_s29 rfl rfl rfl (by decide +kernel) ⟨Nat.le_of_ble_eq_true rfl, Nat.le_of_ble_eq_true rfl⟩) (jPreV 0 hP hD hK hX hT hS rfl rfl) rfl rfl hl.1 rfl (lv_room (Nat.le_of_ble_eq_true rfl)) dJ4_append_15ec4_2 ⟨Nat.le_of_ble_eq_true rfl, Nat.le_of_ble_eq_true rfl⟩) hS (fun u H locs hu hP hD hS => ?_)
  have hP : va_P D vwCl ((sb, jE0 u.1 (nI ((L ++ X).length))) :: (u.1, jE1 cy u.2.1 u.2.2) :: tl) H := hP
  have hD : va_D A ((sb, jE0 u.1 (nI ((L ++ X).length))) :: (u.1, jE1 cy u.2.1 u.2.2) :: tl) := hD
  refine lv_pop hx hb dJ4_append_15ec4_5 rfl ?_
  refine lv_aload_n hx hb dJ4_append_15ec4_6 rfl (lv_at hl 0 rfl) ?_
  exact je_a hx hb hr (Or.inl ⟨_, rfl⟩) hlocks (u) (hu) hP hD hS rfl (Nat.le_of_ble_eq_true rfl) (Nat.le_of_ble_eq_true rfl) dJ4_append_15ec4_7

set_option maxHeartbeats 4000000 in
set_option maxRecDepth 100000 in
theorem c_J4_append_cf468 (l : Launch) (D : va_G) (cy : Nat → ClassId) (A : Nat → Prop) (tl : va_W) (tx : List (Nat × List Int32)) (sb arr mz : Nat) (f : Nat → Int32) (L : List Int32) (hB : JB L (arr, mz, f)) (hL : L.length + 1 ≤ 74) : Met l yJ4_append_cf468 wsJ4_append_cf468 ({ frames := 5, cells := 1, slots := 148, locals := 250 } : Room) (JP D cy A ((sb, jE0 arr (nI L.length)) :: (arr, jE1 cy mz f) :: tl) tx [.ref sb, .int 32]) (JQa D A (JB (L ++ [32])) (jW cy sb (L ++ [32]) tl) sb) 1 148 A := by
  refine Met.ofW (cc := cJ4_append_cf468) (maxL := 2) (ret := (some (.object "java/lang/StringBuilder"))) (by decide) rfl ?_
  intro p e s m args below meth c s₁ B hml hv
  obtain ⟨rfl, ⟨hP, hD⟩, hK, hX, hT⟩ := hv
  have hx := B.exec
  have hb := B.bytes
  have hr := B.returns
  have hts := atoms_spec (ws := wsJ4_append_cf468) B.pre
  have hown : s.vm.findClass RJ4 = some m.cls := findClass_of_methodNamed B.named
  have hlocks := B.notSynchronized
  have hS : va_S A s.heap s.heap [] := va_S.rf
  have hl := lv_entry ([.ref sb, .int 32]) (n := 2) (Nat.le_of_ble_eq_true rfl)
  rw [lg_entry_eq]
  generalize (lg_sl ([.ref sb, .int 32]) ++ List.replicate (2 - (lg_sl ([.ref sb, .int 32])).length) Slot.unset).toArray = ls at hl ⊢
  have hl : lv_has ls 2 [(0, .ref sb), (1, .int 32)] := hl
  refine lv_aload_n hx hb dJ4_append_cf468_0 rfl (lv_at hl 0 rfl) ?_
  refine lv_iload_n hx hb dJ4_append_cf468_1 rfl (lv_at hl 1 rfl) ?_
  refine xj_a (va_runSU (As := [.int 32]) (rest := []) (hK.1 8 _ rfl).2 ⟨hx, hb, hml, hown, hts⟩ (c_J5_append_3fe6f l D cy A tl tx sb arr mz f L hB hL) (va_cwSU 1 hts gJ4_append_cf468_J5_append_3fe6f_s50 rfl rfl rfl (by decide +kernel) ⟨Nat.le_of_ble_eq_true rfl, Nat.le_of_ble_eq_true rfl⟩) (jPreV 0 hP hD hK hX hT hS rfl rfl) rfl rfl hl.1 rfl (lv_room (Nat.le_of_ble_eq_true rfl)) dJ4_append_cf468_2 ⟨Nat.le_of_ble_eq_true rfl, Nat.le_of_ble_eq_true rfl⟩) hS (fun u H locs hu hP hD hS => ?_)
  have hP : va_P D vwCl ((sb, jE0 u.1 (nI ((L ++ [32]).length))) :: (u.1, jE1 cy u.2.1 u.2.2) :: tl) H := hP
  have hD : va_D A ((sb, jE0 u.1 (nI ((L ++ [32]).length))) :: (u.1, jE1 cy u.2.1 u.2.2) :: tl) := hD
  refine lv_pop hx hb dJ4_append_cf468_5 rfl ?_
  refine lv_aload_n hx hb dJ4_append_cf468_6 rfl (lv_at hl 0 rfl) ?_
  exact je_a hx hb hr (Or.inl ⟨_, rfl⟩) hlocks (u) (hu) hP hD hS rfl (Nat.le_of_ble_eq_true rfl) (Nat.le_of_ble_eq_true rfl) dJ4_append_cf468_7

set_option maxHeartbeats 4000000 in
set_option maxRecDepth 100000 in
theorem c_J4_append_bf812 (l : Launch) (D : va_G) (cy : Nat → ClassId) (A : Nat → Prop) (tl : va_W) (tx : List (Nat × List Int32)) (sb arr mz : Nat) (f : Nat → Int32) (L : List Int32) (hB : JB L (arr, mz, f)) (v : Nat) (hv : v ≤ 100) (hL : L.length + (dig v).length ≤ 74) : Met l yJ4_append_bf812 wsJ4_append_bf812 ({ frames := 5, cells := 1, slots := 148, locals := 250 } : Room) (JP D cy A ((sb, jE0 arr (nI L.length)) :: (arr, jE1 cy mz f) :: tl) tx [.ref sb, .int (nI v)]) (JQa D A (JB (L ++ (dig v))) (jW cy sb (L ++ (dig v)) tl) sb) 1 148 A := by
  refine Met.ofW (cc := cJ4_append_bf812) (maxL := 2) (ret := (some (.object "java/lang/StringBuilder"))) (by decide) rfl ?_
  intro p e s m args below meth c s₁ B hml hv
  obtain ⟨rfl, ⟨hP, hD⟩, hK, hX, hT⟩ := hv
  have hx := B.exec
  have hb := B.bytes
  have hr := B.returns
  have hts := atoms_spec (ws := wsJ4_append_bf812) B.pre
  have hown : s.vm.findClass RJ4 = some m.cls := findClass_of_methodNamed B.named
  have hlocks := B.notSynchronized
  have hS : va_S A s.heap s.heap [] := va_S.rf
  have hl := lv_entry ([.ref sb, .int (nI v)]) (n := 2) (Nat.le_of_ble_eq_true rfl)
  rw [lg_entry_eq]
  generalize (lg_sl ([.ref sb, .int (nI v)]) ++ List.replicate (2 - (lg_sl ([.ref sb, .int (nI v)])).length) Slot.unset).toArray = ls at hl ⊢
  have hl : lv_has ls 2 [(0, .ref sb), (1, .int (nI v))] := hl
  refine lv_aload_n hx hb dJ4_append_bf812_0 rfl (lv_at hl 0 rfl) ?_
  refine lv_iload_n hx hb dJ4_append_bf812_1 rfl (lv_at hl 1 rfl) ?_
  refine xj_a (va_runSU (As := [.int (nI v)]) (rest := []) (hK.1 8 _ rfl).2 ⟨hx, hb, hml, hown, hts⟩ (c_J5_append_c97b9 l D cy A tl tx sb arr mz f L hB v hv hL) (va_cwSU 1 hts gJ4_append_bf812_J5_append_c97b9_s53 rfl rfl rfl (by decide +kernel) ⟨Nat.le_of_ble_eq_true rfl, Nat.le_of_ble_eq_true rfl⟩) (jPreV 0 hP hD hK hX hT hS rfl rfl) rfl rfl hl.1 rfl (lv_room (Nat.le_of_ble_eq_true rfl)) dJ4_append_bf812_2 ⟨Nat.le_of_ble_eq_true rfl, Nat.le_of_ble_eq_true rfl⟩) hS (fun u H locs hu hP hD hS => ?_)
  have hP : va_P D vwCl ((sb, jE0 u.1 (nI ((L ++ (dig v)).length))) :: (u.1, jE1 cy u.2.1 u.2.2) :: tl) H := hP
  have hD : va_D A ((sb, jE0 u.1 (nI ((L ++ (dig v)).length))) :: (u.1, jE1 cy u.2.1 u.2.2) :: tl) := hD
  refine lv_pop hx hb dJ4_append_bf812_5 rfl ?_
  refine lv_aload_n hx hb dJ4_append_bf812_6 rfl (lv_at hl 0 rfl) ?_
  exact je_a hx hb hr (Or.inl ⟨_, rfl⟩) hlocks (u) (hu) hP hD hS rfl (Nat.le_of_ble_eq_true rfl) (Nat.le_of_ble_eq_true rfl) dJ4_append_bf812_7

set_option maxHeartbeats 4000000 in
set_option maxRecDepth 100000 in
theorem c_J4_append_cf1ce (l : Launch) (D : va_G) (cy : Nat → ClassId) (A : Nat → Prop) (tl : va_W) (tx : List (Nat × List Int32)) (sb arr mz : Nat) (f : Nat → Int32) (L : List Int32) (hB : JB L (arr, mz, f)) (a : Nat) (X : List Int32) (ha : (a, X) ∈ tx) (hXf : ∀ j, j < X.length → fits .byte (.int (X.getD j 0)) = true) (hL : L.length + X.length ≤ 74) : Met l yJ4_append_cf1ce wsJ4_append_cf1ce ({ frames := 6, cells := 1, slots := 148, locals := 280 } : Room) (JP D cy A ((sb, jE0 arr (nI L.length)) :: (arr, jE1 cy mz f) :: tl) tx [.ref sb, .ref a]) (JQa D A (JB (L ++ X)) (jW cy sb (L ++ X) tl) sb) 1 148 A := by
  refine Met.ofW (cc := cJ4_append_cf1ce) (maxL := 2) (ret := (some (.object "java/lang/AbstractStringBuilder"))) (by decide) rfl ?_
  intro p e s m args below meth c s₁ B hml hv
  obtain ⟨rfl, ⟨hP, hD⟩, hK, hX, hT⟩ := hv
  have hx := B.exec
  have hb := B.bytes
  have hr := B.returns
  have hts := atoms_spec (ws := wsJ4_append_cf1ce) B.pre
  have hown : s.vm.findClass RJ4 = some m.cls := findClass_of_methodNamed B.named
  have hlocks := B.notSynchronized
  have hS : va_S A s.heap s.heap [] := va_S.rf
  have hl := lv_entry ([.ref sb, .ref a]) (n := 2) (Nat.le_of_ble_eq_true rfl)
  rw [lg_entry_eq]
  generalize (lg_sl ([.ref sb, .ref a]) ++ List.replicate (2 - (lg_sl ([.ref sb, .ref a])).length) Slot.unset).toArray = ls at hl ⊢
  have hl : lv_has ls 2 [(0, .ref sb), (1, .ref a)] := hl
  refine lv_aload_n hx hb dJ4_append_cf1ce_0 rfl (lv_at hl 0 rfl) ?_
  refine lv_aload_n hx hb dJ4_append_cf1ce_1 rfl (lv_at hl 1 rfl) ?_
  refine xj_a (va_runV (As := [.ref a]) (rest := []) ⟨hx, hb, hml, hown, hts⟩ (c_J4_append_15ec4 l D cy A tl tx sb arr mz f L hB a X ha hXf hL) (cwV 1 hts gJ4_append_cf1ce_J4_append_15ec4 rfl rfl rfl (by decide +kernel) ⟨Nat.le_of_ble_eq_true rfl, Nat.le_of_ble_eq_true rfl⟩) (jPreV 0 hP hD hK hX hT hS rfl rfl) rfl rfl hl.1 rfl (lv_room (Nat.le_of_ble_eq_true rfl)) dJ4_append_cf1ce_2 ⟨Nat.le_of_ble_eq_true rfl, Nat.le_of_ble_eq_true rfl⟩) hS (fun u H locs hu hP hD hS => ?_)
  have hP : va_P D vwCl ((sb, jE0 u.1 (nI ((L ++ X).length))) :: (u.1, jE1 cy u.2.1 u.2.2) :: tl) H := hP
  have hD : va_D A ((sb, jE0 u.1 (nI ((L ++ X).length))) :: (u.1, jE1 cy u.2.1 u.2.2) :: tl) := hD
  exact je_a hx hb hr (Or.inl ⟨_, rfl⟩) hlocks (u) (hu) hP hD hS rfl (Nat.le_of_ble_eq_true rfl) (Nat.le_of_ble_eq_true rfl) dJ4_append_cf1ce_5
