/-! the law's room(k, r) (laid by a program) -/
set_option maxHeartbeats 4000000 in
set_option maxRecDepth 100000 in
theorem cl_L_room_111 (l : Launch) (D : va_G) (cy : Nat → ClassId) (A : Nat → Prop) (tl : va_W) (ra aR aH aB aU N sb : Nat) (hN : N ≤ 6) {p : Program} {e : Env} {s : State} {m : MethodId} {args : Array Value} {below : List Frame} {meth : Method} {c : Code} (hx : p.tables.exec = Jvm.exec) (hb : c.code = cL_room) (hr : meth.sig.returnType = some (.object "java/lang/String")) (hlocks : meth.locks = false) (hml : c.maxLocals = 4) (hown : s.vm.findClass RL = some m.cls) (hts : ∀ w ∈ wsL_room, w.before args s = true) (hK : va_K D vwCl (tysW cy) s) (hX : SJ A s) (hT : TXs A (rtx aR aH aB aU) s) (hV : VR aR aH aB aU s) : ∀ (L : List Int32) (arr mz : Nat) (f g : Nat → Int32) (H : Heap) (locs : List Loc) (ls : Array Slot) (cz sz : Nat), RTk N L → JB L (arr, mz, f) → va_P D vwCl ((sb, jE0 arr (nI L.length)) :: (arr, jE1 cy mz f) :: (ra, .inl (cy 1, 1, .inl g)) :: tl) H → va_D A ((sb, jE0 arr (nI L.length)) :: (arr, jE1 cy mz f) :: (ra, .inl (cy 1, 1, .inl g)) :: tl) → va_S A s.heap H locs → lv_has ls 4 [(3, .int (nI N)), (2, .ref sb), (0, .int (nI N)), (1, .ref ra)] → cz ≤ 8 + 2 * N → sz ≤ 1044 + 296 * N → W p l e ({ frames := 9, cells := 24, slots := 3268, locals := 420 } : Room) s m args below meth c H locs cz sz (MQ below (JQn D A (fun u : List Int32 × (Nat → Int32) × Nat × (Nat → Int32) => RTX N u.1 ∧ u.1.length ≤ 74 ∧ JF u.2.2.2 ∧ JL u.2.2.2 u.1) (fun u st => (st, .inr (9, [.ref u.2.2.1, .int 0, .int 0, .int 0])) :: (u.2.2.1, jE1 cy u.1.length u.2.2.2) :: (ra, .inl (cy 1, 1, .inl u.2.1)) :: tl)) args s 24 3268 A) (F0 m 111 ls []) := by
  intro L arr mz f g H locs ls cz sz hR hB hP hD hS hl hcz hsz
  have hLb := hR.len
  have inc4 : ∀ w ∈ u_ws RJ4 TJ4 4, w ∈ wsL_room := by decide +kernel
  refine lv_aload_n hx hb dL_room_111 rfl (lv_at hl 1 rfl) ?_
  refine va_ldcS hx hb hown hV.2.2.2 dL_room_112 ?_
  refine xj_a (va_runV (As := [.ref aU]) (rest := []) ⟨hx, hb, hml, hown, hts⟩ (c_J4_append_15ec4 l D cy A ((ra, .inl (cy 1, 1, .inl g)) :: tl) (rtx aR aH aB aU) sb arr mz f L hB aU humT (by simp) xfT.2.2.2 (by show L.length + 10 ≤ 74; omega)) (cwV 1 hts gL_room_J4_append_15ec4 rfl rfl rfl (by decide +kernel) ⟨Nat.le_of_ble_eq_true rfl, Nat.le_of_ble_eq_true rfl⟩) (jPreV 0 hP hD hK hX hT hS rfl rfl) rfl rfl hl.1 rfl (lv_room (Nat.le_of_ble_eq_true rfl)) dL_room_114 ⟨by show _ ≤ 24; omega, by show _ ≤ 3268; omega⟩) hS (fun u H locs hu hP hD hS => ?_)
  obtain ⟨arr, mz, f⟩ := u
  have hB := hu
  have hP : va_P D vwCl ((sb, jE0 arr (nI ((L ++ humT).length))) :: (arr, jE1 cy mz f) :: (ra, .inl (cy 1, 1, .inl g)) :: tl) H := hP
  have hD : va_D A ((sb, jE0 arr (nI ((L ++ humT).length))) :: (arr, jE1 cy mz f) :: (ra, .inl (cy 1, 1, .inl g)) :: tl) := hD
  refine lv_aload_n hx hb dL_room_117 rfl (lv_at hl 3 rfl) ?_
  obtain ⟨hP, hD⟩ := jrot3 hP hD
  refine xj_e (va_runS (As := [.ref ra]) (rest := [.ref sb]) ⟨hx, hb, hml, hown, hts⟩ (c_next_j l D cy A ((sb, jE0 arr (nI ((L ++ humT).length))) :: (arr, jE1 cy mz f) :: tl) (rtx aR aH aB aU) ra g) (va_cwS 1 hts gL_room_L_next rfl rfl rfl (by decide +kernel) ⟨Nat.le_of_ble_eq_true rfl, Nat.le_of_ble_eq_true rfl⟩) (jPreS hP hD hK hX hT hS) rfl rfl hl.1 rfl (lv_room (Nat.le_of_ble_eq_true rfl)) dL_room_118 ⟨by show _ ≤ 24; omega, by show _ ≤ 3268; omega⟩) hS (fun g1 H locs _ hP hD hS => ?_)
  obtain ⟨v1, hv1, ev1⟩ := nx_mod (g 0) (k := 101) (by decide) (by decide)
  have hP : va_P D vwCl ((ra, .inl (cy 1, 1, .inl g1)) :: (sb, jE0 arr (nI ((L ++ humT).length))) :: (arr, jE1 cy mz f) :: tl) H := hP
  have hD : va_D A ((ra, .inl (cy 1, 1, .inl g1)) :: (sb, jE0 arr (nI ((L ++ humT).length))) :: (arr, jE1 cy mz f) :: tl) := hD
  obtain ⟨hP, hD⟩ := jrot hP hD
  refine lv_bipush (v := 101) hx hb dL_room_121 (by decide) ?_
  refine lv_irem hx hb dL_room_123 (by decide) ?_
  refine W.eq (g2 := F0 m 124 ls (.int (nI v1) :: .ref sb :: [])) (congrArg (fun z => F0 m 124 ls (.int z :: .ref sb :: [])) ev1) ?_
  refine xj_a (va_runV (As := [.int (nI v1)]) (rest := []) ⟨hx, hb, hml, hown, hts⟩ (c_J4_append_bf812 l D cy A ((ra, .inl (cy 1, 1, .inl g1)) :: tl) (rtx aR aH aB aU) sb arr mz f (L ++ humT) hB v1 (by omega) (by rw [List.length_append]; have := (dig_len (v := v1)).2; show L.length + 10 + _ ≤ 74; omega)) (cwV 1 hts gL_room_J4_append_bf812 rfl rfl rfl (by decide +kernel) ⟨Nat.le_of_ble_eq_true rfl, Nat.le_of_ble_eq_true rfl⟩) (jPreV 0 hP hD hK hX hT hS rfl rfl) rfl rfl hl.1 rfl (lv_room (Nat.le_of_ble_eq_true rfl)) dL_room_124 ⟨by show _ ≤ 24; omega, by show _ ≤ 3268; omega⟩) hS (fun u H locs hu hP hD hS => ?_)
  obtain ⟨arr, mz, f⟩ := u
  have hB := hu
  have hend : ((L ++ humT) ++ dig v1).length ≤ 74 := by rw [List.length_append, List.length_append]; have := (dig_len (v := v1)).2; show L.length + 10 + _ ≤ 74; omega
  have hP : va_P D vwCl ((sb, jE0 arr (nI (((L ++ humT) ++ dig v1).length))) :: (arr, jE1 cy mz f) :: (ra, .inl (cy 1, 1, .inl g1)) :: tl) H := hP
  have hD : va_D A ((sb, jE0 arr (nI (((L ++ humT) ++ dig v1).length))) :: (arr, jE1 cy mz f) :: (ra, .inl (cy 1, 1, .inl g1)) :: tl) := hD
  refine xj_n (va_runV (As := []) (rest := []) ⟨hx, hb, hml, hown, hts⟩ (c_J4_toString_0e30d l D cy A ((ra, .inl (cy 1, 1, .inl g1)) :: tl) (rtx aR aH aB aU) sb arr mz f ((L ++ humT) ++ dig v1) hB) (cwV 0 hts gL_room_J4_toString_0e30d rfl rfl rfl (by decide +kernel) ⟨Nat.le_of_ble_eq_true rfl, Nat.le_of_ble_eq_true rfl⟩) (jPreV 0 hP hD hK hX hT hS rfl rfl) rfl rfl hl.1 rfl (lv_room (Nat.le_of_ble_eq_true rfl)) dL_room_127 ⟨by show _ ≤ 24; omega, by show _ ≤ 3268; omega⟩) hS (fun w sn H locs hw hP hD hS => ?_)
  have hP : va_P D vwCl ((sn, .inr (9, [.ref w.1, .int 0, .int 0, .int 0])) :: (w.1, jE1 cy (((L ++ humT) ++ dig v1).length) w.2) :: (ra, .inl (cy 1, 1, .inl g1)) :: tl) H := hP
  have hD : va_D A ((sn, .inr (9, [.ref w.1, .int 0, .int 0, .int 0])) :: (w.1, jE1 cy (((L ++ humT) ++ dig v1).length) w.2) :: (ra, .inl (cy 1, 1, .inl g1)) :: tl) := hD
  exact je_n hx hb hr (Or.inl ⟨_, rfl⟩) hlocks (((L ++ humT) ++ dig v1, g1, w.1, w.2)) ⟨⟨L, v1, hR, by omega, rfl⟩, hend, hw.1, hw.2⟩ hP hD hS rfl (by omega) (by omega) dL_room_130

set_option maxHeartbeats 4000000 in
set_option maxRecDepth 100000 in
theorem cl_L_room_52 (l : Launch) (D : va_G) (cy : Nat → ClassId) (A : Nat → Prop) (tl : va_W) (ra aR aH aB aU N sb : Nat) (hN : N ≤ 6) {p : Program} {e : Env} {s : State} {m : MethodId} {args : Array Value} {below : List Frame} {meth : Method} {c : Code} (hx : p.tables.exec = Jvm.exec) (hb : c.code = cL_room) (hr : meth.sig.returnType = some (.object "java/lang/String")) (hlocks : meth.locks = false) (hml : c.maxLocals = 4) (hown : s.vm.findClass RL = some m.cls) (hts : ∀ w ∈ wsL_room, w.before args s = true) (hK : va_K D vwCl (tysW cy) s) (hX : SJ A s) (hT : TXs A (rtx aR aH aB aU) s) (hV : VR aR aH aB aU s) : ∀ d k : Nat, d + k = N → ∀ (L : List Int32) (arr mz : Nat) (f g : Nat → Int32) (H : Heap) (locs : List Loc) (ls : Array Slot) (cz sz : Nat), RTk k L → JB L (arr, mz, f) → va_P D vwCl ((sb, jE0 arr (nI L.length)) :: (arr, jE1 cy mz f) :: (ra, .inl (cy 1, 1, .inl g)) :: tl) H → va_D A ((sb, jE0 arr (nI L.length)) :: (arr, jE1 cy mz f) :: (ra, .inl (cy 1, 1, .inl g)) :: tl) → va_S A s.heap H locs → lv_has ls 4 [(3, .int (nI k)), (2, .ref sb), (0, .int (nI N)), (1, .ref ra)] → cz ≤ 8 + 2 * k → sz ≤ 1044 + 296 * k → W p l e ({ frames := 9, cells := 24, slots := 3268, locals := 420 } : Room) s m args below meth c H locs cz sz (MQ below (JQn D A (fun u : List Int32 × (Nat → Int32) × Nat × (Nat → Int32) => RTX N u.1 ∧ u.1.length ≤ 74 ∧ JF u.2.2.2 ∧ JL u.2.2.2 u.1) (fun u st => (st, .inr (9, [.ref u.2.2.1, .int 0, .int 0, .int 0])) :: (u.2.2.1, jE1 cy u.1.length u.2.2.2) :: (ra, .inl (cy 1, 1, .inl u.2.1)) :: tl)) args s 24 3268 A) (F0 m 52 ls []) := by
  have inc4 : ∀ w ∈ u_ws RJ4 TJ4 4, w ∈ wsL_room := by decide +kernel
  intro d
  induction d with
  | zero =>
    intro k hk L arr mz f g H locs ls cz sz hR hB hP hD hS hl hcz hsz
    obtain rfl : k = N := by omega
    refine lv_iload_n hx hb dL_room_52 rfl (lv_at hl 0 rfl) ?_
    refine lv_iload_n hx hb dL_room_53 rfl (lv_at hl 2 rfl) ?_
    refine lv_icmp_ge (tgt := 111) hx hb dL_room_54 (by decide) (fun c54 => ?_) (fun c54 => absurd (nI_le (Nat.le_refl _) (by omega)) c54)
    exact cl_L_room_111 l D cy A tl ra aR aH aB aU k sb hN hx hb hr hlocks hml hown hts hK hX hT hV L arr mz f g H locs ls cz sz hR hB hP hD hS hl hcz hsz
  | succ d ih =>
    intro k hk L arr mz f g H locs ls cz sz hR hB hP hD hS hl hcz hsz
    have hLb := hR.len
    refine lv_iload_n hx hb dL_room_52 rfl (lv_at hl 0 rfl) ?_
    refine lv_iload_n hx hb dL_room_53 rfl (lv_at hl 2 rfl) ?_
    refine lv_icmp_ge (tgt := 111) hx hb dL_room_54 (by decide) (fun c54 => absurd c54 (nI_ge (by omega) (by omega))) (fun c54 => ?_)
    refine lv_aload_n hx hb dL_room_57 rfl (lv_at hl 3 rfl) ?_
    obtain ⟨hP, hD⟩ := jrot3 hP hD
    refine xj_e (va_runS (As := [.ref ra]) (rest := []) ⟨hx, hb, hml, hown, hts⟩ (c_next_j l D cy A ((sb, jE0 arr (nI L.length)) :: (arr, jE1 cy mz f) :: tl) (rtx aR aH aB aU) ra g) (va_cwS 1 hts gL_room_L_next rfl rfl rfl (by decide +kernel) ⟨Nat.le_of_ble_eq_true rfl, Nat.le_of_ble_eq_true rfl⟩) (jPreS hP hD hK hX hT hS) rfl rfl hl.1 rfl (lv_room (Nat.le_of_ble_eq_true rfl)) dL_room_58 ⟨by show _ ≤ 24; omega, by show _ ≤ 3268; omega⟩) hS (fun g1 H locs _ hP hD hS => ?_)
    obtain ⟨q3, hq3, eq3⟩ := nx_mod (g 0) (k := 3) (by decide) (by decide)
    have hP : va_P D vwCl ((ra, .inl (cy 1, 1, .inl g1)) :: (sb, jE0 arr (nI L.length)) :: (arr, jE1 cy mz f) :: tl) H := hP
    have hD : va_D A ((ra, .inl (cy 1, 1, .inl g1)) :: (sb, jE0 arr (nI L.length)) :: (arr, jE1 cy mz f) :: tl) := hD
    obtain ⟨hP, hD⟩ := jrot hP hD
    refine lv_iconst (v := 3) hx hb dL_room_61 (by decide) ?_
    refine lv_irem hx hb dL_room_62 (by decide) ?_
    refine W.eq (g2 := F0 m 63 ls (.int (nI q3) :: [])) (congrArg (fun z => F0 m 63 ls (.int z :: [])) eq3) ?_
    refine lv_if_le (tgt := 88) hx hb dL_room_63 (by decide) (fun c63 => ?_) (fun c63 => ?_)
    · refine lv_aload_n hx hb dL_room_88 rfl (lv_at hl 1 rfl) ?_
      refine va_ldcS hx hb hown hV.2.2.1 dL_room_89 ?_
      refine xj_a (va_runV (As := [.ref aB]) (rest := []) ⟨hx, hb, hml, hown, hts⟩ (c_J4_append_15ec4 l D cy A ((ra, .inl (cy 1, 1, .inl g1)) :: tl) (rtx aR aH aB aU) sb arr mz f L hB aB bulbT (by simp) xfT.2.2.1 (by show L.length + 6 ≤ 74; omega)) (cwV 1 hts gL_room_J4_append_15ec4 rfl rfl rfl (by decide +kernel) ⟨Nat.le_of_ble_eq_true rfl, Nat.le_of_ble_eq_true rfl⟩) (jPreV 0 hP hD hK hX hT hS rfl rfl) rfl rfl hl.1 rfl (lv_room (Nat.le_of_ble_eq_true rfl)) dL_room_91 ⟨by show _ ≤ 24; omega, by show _ ≤ 3268; omega⟩) hS (fun u H locs hu hP hD hS => ?_)
      obtain ⟨arr, mz, f⟩ := u
      have hB := hu
      have hP : va_P D vwCl ((sb, jE0 arr (nI ((L ++ bulbT).length))) :: (arr, jE1 cy mz f) :: (ra, .inl (cy 1, 1, .inl g1)) :: tl) H := hP
      have hD : va_D A ((sb, jE0 arr (nI ((L ++ bulbT).length))) :: (arr, jE1 cy mz f) :: (ra, .inl (cy 1, 1, .inl g1)) :: tl) := hD
      refine lv_aload_n hx hb dL_room_94 rfl (lv_at hl 3 rfl) ?_
      obtain ⟨hP, hD⟩ := jrot3 hP hD
      refine xj_e (va_runS (As := [.ref ra]) (rest := [.ref sb]) ⟨hx, hb, hml, hown, hts⟩ (c_next_j l D cy A ((sb, jE0 arr (nI ((L ++ bulbT).length))) :: (arr, jE1 cy mz f) :: tl) (rtx aR aH aB aU) ra g1) (va_cwS 1 hts gL_room_L_next rfl rfl rfl (by decide +kernel) ⟨Nat.le_of_ble_eq_true rfl, Nat.le_of_ble_eq_true rfl⟩) (jPreS hP hD hK hX hT hS) rfl rfl hl.1 rfl (lv_room (Nat.le_of_ble_eq_true rfl)) dL_room_95 ⟨by show _ ≤ 24; omega, by show _ ≤ 3268; omega⟩) hS (fun g2 H locs _ hP hD hS => ?_)
      obtain ⟨v, hv, ev⟩ := nx_mod (g1 0) (k := 61) (by decide) (by decide)
      have hP : va_P D vwCl ((ra, .inl (cy 1, 1, .inl g2)) :: (sb, jE0 arr (nI ((L ++ bulbT).length))) :: (arr, jE1 cy mz f) :: tl) H := hP
      have hD : va_D A ((ra, .inl (cy 1, 1, .inl g2)) :: (sb, jE0 arr (nI ((L ++ bulbT).length))) :: (arr, jE1 cy mz f) :: tl) := hD
      obtain ⟨hP, hD⟩ := jrot hP hD
      refine lv_bipush (v := 61) hx hb dL_room_98 (by decide) ?_
      refine lv_irem hx hb dL_room_100 (by decide) ?_
      refine W.eq (g2 := F0 m 101 ls (.int (nI v) :: .ref sb :: [])) (congrArg (fun z => F0 m 101 ls (.int z :: .ref sb :: [])) ev) ?_
      refine xj_a (va_runV (As := [.int (nI v)]) (rest := []) ⟨hx, hb, hml, hown, hts⟩ (c_J4_append_bf812 l D cy A ((ra, .inl (cy 1, 1, .inl g2)) :: tl) (rtx aR aH aB aU) sb arr mz f (L ++ bulbT) hB v (by omega) (by rw [List.length_append]; have := (dig_len (v := v)).2; show L.length + 6 + _ ≤ 74; omega)) (cwV 1 hts gL_room_J4_append_bf812 rfl rfl rfl (by decide +kernel) ⟨Nat.le_of_ble_eq_true rfl, Nat.le_of_ble_eq_true rfl⟩) (jPreV 0 hP hD hK hX hT hS rfl rfl) rfl rfl hl.1 rfl (lv_room (Nat.le_of_ble_eq_true rfl)) dL_room_101 ⟨by show _ ≤ 24; omega, by show _ ≤ 3268; omega⟩) hS (fun u H locs hu hP hD hS => ?_)
      obtain ⟨arr, mz, f⟩ := u
      have hB := hu
      have hP : va_P D vwCl ((sb, jE0 arr (nI (((L ++ bulbT) ++ dig v).length))) :: (arr, jE1 cy mz f) :: (ra, .inl (cy 1, 1, .inl g2)) :: tl) H := hP
      have hD : va_D A ((sb, jE0 arr (nI (((L ++ bulbT) ++ dig v).length))) :: (arr, jE1 cy mz f) :: (ra, .inl (cy 1, 1, .inl g2)) :: tl) := hD
      refine lv_pop hx hb dL_room_104 rfl ?_
      refine lv_iinc (v := nI (k + 1)) (lv' := [(3, .int (nI (k + 1))), (2, .ref sb), (0, .int (nI N)), (1, .ref ra)]) hx hb dL_room_105 hl (k := 0) rfl (ixAdd (a := k) (c := 1) (d := k + 1) rfl rfl rfl) (by decide) rfl (fun ls hl => ?_)
      refine lv_goto (tgt := 52) hx hb dL_room_108 (by decide) ?_
      exact ih (k + 1) (by omega) ((L ++ bulbT) ++ dig v) arr mz f g2 H locs ls _ _ (hR.bulb (by omega)) hB hP hD hS (lv_sub hl [0, 1, 2, 3] rfl) (by omega) (by omega)
    · refine lv_aload_n hx hb dL_room_66 rfl (lv_at hl 1 rfl) ?_
      refine va_ldcS hx hb hown hV.2.1 dL_room_67 ?_
      refine xj_a (va_runV (As := [.ref aH]) (rest := []) ⟨hx, hb, hml, hown, hts⟩ (c_J4_append_15ec4 l D cy A ((ra, .inl (cy 1, 1, .inl g1)) :: tl) (rtx aR aH aB aU) sb arr mz f L hB aH hairT (by simp) xfT.2.1 (by show L.length + 6 ≤ 74; omega)) (cwV 1 hts gL_room_J4_append_15ec4 rfl rfl rfl (by decide +kernel) ⟨Nat.le_of_ble_eq_true rfl, Nat.le_of_ble_eq_true rfl⟩) (jPreV 0 hP hD hK hX hT hS rfl rfl) rfl rfl hl.1 rfl (lv_room (Nat.le_of_ble_eq_true rfl)) dL_room_69 ⟨by show _ ≤ 24; omega, by show _ ≤ 3268; omega⟩) hS (fun u H locs hu hP hD hS => ?_)
      obtain ⟨arr, mz, f⟩ := u
      have hB := hu
      have hP : va_P D vwCl ((sb, jE0 arr (nI ((L ++ hairT).length))) :: (arr, jE1 cy mz f) :: (ra, .inl (cy 1, 1, .inl g1)) :: tl) H := hP
      have hD : va_D A ((sb, jE0 arr (nI ((L ++ hairT).length))) :: (arr, jE1 cy mz f) :: (ra, .inl (cy 1, 1, .inl g1)) :: tl) := hD
      refine lv_iconst (v := 1) hx hb dL_room_72 (by decide) ?_
      refine lv_aload_n hx hb dL_room_73 rfl (lv_at hl 3 rfl) ?_
      obtain ⟨hP, hD⟩ := jrot3 hP hD
      refine xj_e (va_runS (As := [.ref ra]) (rest := [.int 1, .ref sb]) ⟨hx, hb, hml, hown, hts⟩ (c_next_j l D cy A ((sb, jE0 arr (nI ((L ++ hairT).length))) :: (arr, jE1 cy mz f) :: tl) (rtx aR aH aB aU) ra g1) (va_cwS 1 hts gL_room_L_next rfl rfl rfl (by decide +kernel) ⟨Nat.le_of_ble_eq_true rfl, Nat.le_of_ble_eq_true rfl⟩) (jPreS hP hD hK hX hT hS) rfl rfl hl.1 rfl (lv_room (Nat.le_of_ble_eq_true rfl)) dL_room_74 ⟨by show _ ≤ 24; omega, by show _ ≤ 3268; omega⟩) hS (fun g2 H locs _ hP hD hS => ?_)
      obtain ⟨v, hv, ev⟩ := nx_mod (g1 0) (k := 20) (by decide) (by decide)
      have hP : va_P D vwCl ((ra, .inl (cy 1, 1, .inl g2)) :: (sb, jE0 arr (nI ((L ++ hairT).length))) :: (arr, jE1 cy mz f) :: tl) H := hP
      have hD : va_D A ((ra, .inl (cy 1, 1, .inl g2)) :: (sb, jE0 arr (nI ((L ++ hairT).length))) :: (arr, jE1 cy mz f) :: tl) := hD
      obtain ⟨hP, hD⟩ := jrot hP hD
      refine lv_bipush (v := 20) hx hb dL_room_77 (by decide) ?_
      refine lv_irem hx hb dL_room_79 (by decide) ?_
      refine W.eq (g2 := F0 m 80 ls (.int (nI v) :: .int 1 :: .ref sb :: [])) (congrArg (fun z => F0 m 80 ls (.int z :: .int 1 :: .ref sb :: [])) ev) ?_
      refine xadd (z := nI (v + 1)) hx hb (ixAdd (a := 1) (c := v) (d := (v + 1)) rfl rfl (by omega)) dL_room_80 ?_
      refine xj_a (va_runV (As := [.int (nI (v + 1))]) (rest := []) ⟨hx, hb, hml, hown, hts⟩ (c_J4_append_bf812 l D cy A ((ra, .inl (cy 1, 1, .inl g2)) :: tl) (rtx aR aH aB aU) sb arr mz f (L ++ hairT) hB (v + 1) (by omega) (by rw [List.length_append]; have := (dig_len (v := v + 1)).2; show L.length + 6 + _ ≤ 74; omega)) (cwV 1 hts gL_room_J4_append_bf812 rfl rfl rfl (by decide +kernel) ⟨Nat.le_of_ble_eq_true rfl, Nat.le_of_ble_eq_true rfl⟩) (jPreV 0 hP hD hK hX hT hS rfl rfl) rfl rfl hl.1 rfl (lv_room (Nat.le_of_ble_eq_true rfl)) dL_room_81 ⟨by show _ ≤ 24; omega, by show _ ≤ 3268; omega⟩) hS (fun u H locs hu hP hD hS => ?_)
      obtain ⟨arr, mz, f⟩ := u
      have hB := hu
      have hP : va_P D vwCl ((sb, jE0 arr (nI (((L ++ hairT) ++ dig (v + 1)).length))) :: (arr, jE1 cy mz f) :: (ra, .inl (cy 1, 1, .inl g2)) :: tl) H := hP
      have hD : va_D A ((sb, jE0 arr (nI (((L ++ hairT) ++ dig (v + 1)).length))) :: (arr, jE1 cy mz f) :: (ra, .inl (cy 1, 1, .inl g2)) :: tl) := hD
      refine lv_pop hx hb dL_room_84 rfl ?_
      refine lv_goto (tgt := 105) hx hb dL_room_85 (by decide) ?_
      refine lv_iinc (v := nI (k + 1)) (lv' := [(3, .int (nI (k + 1))), (2, .ref sb), (0, .int (nI N)), (1, .ref ra)]) hx hb dL_room_105 hl (k := 0) rfl (ixAdd (a := k) (c := 1) (d := k + 1) rfl rfl rfl) (by decide) rfl (fun ls hl => ?_)
      refine lv_goto (tgt := 52) hx hb dL_room_108 (by decide) ?_
      exact ih (k + 1) (by omega) ((L ++ hairT) ++ dig (v + 1)) arr mz f g2 H locs ls _ _ (hR.hair (by omega)) hB hP hD hS (lv_sub hl [0, 1, 2, 3] rfl) (by omega) (by omega)

set_option maxHeartbeats 4000000 in
set_option maxRecDepth 100000 in
theorem c_L_room (l : Launch) (D : va_G) (cy : Nat → ClassId) (A : Nat → Prop) (tl : va_W) (ra aR aH aB aU N : Nat) (g : Nat → Int32) (hN : N ≤ 6) : Met l yL_room wsL_room ({ frames := 9, cells := 24, slots := 3268, locals := 420 } : Room) (va_Pc [.int (nI N), .ref ra] (fun U => (va_P D vwCl ((ra, .inl (cy 1, 1, .inl g)) :: tl) U.heap ∧ va_D A ((ra, .inl (cy 1, 1, .inl g)) :: tl)) ∧ va_K D vwCl (tysW cy) U ∧ SJ A U ∧ TXs A (rtx aR aH aB aU) U ∧ VR aR aH aB aU U)) (JQn D A (fun u : List Int32 × (Nat → Int32) × Nat × (Nat → Int32) => RTX N u.1 ∧ u.1.length ≤ 74 ∧ JF u.2.2.2 ∧ JL u.2.2.2 u.1) (fun u st => (st, .inr (9, [.ref u.2.2.1, .int 0, .int 0, .int 0])) :: (u.2.2.1, jE1 cy u.1.length u.2.2.2) :: (ra, .inl (cy 1, 1, .inl u.2.1)) :: tl)) 24 3268 A := by
  refine Met.ofW (cc := cL_room) (maxL := 4) (ret := some (.object "java/lang/String")) (by decide) rfl ?_
  intro p e s m args below meth c s₁ B hml hv
  obtain ⟨rfl, ⟨hP, hD⟩, hK, hX, hT, hV⟩ := hv
  have hx := B.exec
  have hb := B.bytes
  have hr := B.returns
  have hts := atoms_spec (ws := wsL_room) B.pre
  have hown : s.vm.findClass RL = some m.cls := findClass_of_methodNamed B.named
  have hlocks := B.notSynchronized
  have hS : va_S A s.heap s.heap [] := va_S.rf
  have hl := lv_entry ([.int (nI N), .ref ra]) (n := 4) (Nat.le_of_ble_eq_true rfl)
  rw [lg_entry_eq]
  generalize (lg_sl ([.int (nI N), .ref ra]) ++ List.replicate (4 - (lg_sl ([.int (nI N), .ref ra])).length) Slot.unset).toArray = ls at hl ⊢
  have hl : lv_has ls 4 [(0, .int (nI N)), (1, .ref ra)] := hl
  have inc4 : ∀ w ∈ u_ws RJ4 TJ4 4, w ∈ wsL_room := by decide +kernel
  refine xj_new (own := RL) (C := RJ4) (T := TJ4) (N := 4) (ci := 8) (fs := [.null, .int 0, .int 0, .int 0]) hx hb hts inc4 tyJ4 tyJ4_ok hown (hts (.classLink RL 74 RJ4) (by decide +kernel)) (hts (.instantiable RJ4 4) (by decide +kernel)) (hts (.initialized RJ4) (by decide +kernel)) hK hP hD hS hX rfl (by decide) (Nat.le_of_ble_eq_true rfl) (Nat.le_of_ble_eq_true rfl) dL_room_0 (fun sb H hst hP hD hS => ?_)
  refine lv_dup hx hb dL_room_3 rfl ?_
  refine va_ldcS hx hb hown hV.1 dL_room_4 ?_
  refine xj_v (va_runI (As := [.ref aR]) (rest := [.ref sb]) ⟨hx, hb, hml, hown, hts⟩ (c_J4_init_a7421 l D cy A ((ra, .inl (cy 1, 1, .inl g)) :: tl) (rtx aR aH aB aU) sb aR roomT (by simp) xfT.1 (by decide)) (cwI 1 hts gL_room_J4_init_a7421 rfl rfl rfl (hts (.initialized RJ4) (by decide +kernel)) (hts (.methodLink RL 78 yJ4_init_a7421) (by decide +kernel)) (hts (.instanceMethod yJ4_init_a7421) (by decide +kernel)) rfl (by decide +kernel) ⟨Nat.le_of_ble_eq_true rfl, Nat.le_of_ble_eq_true rfl⟩) (jPreS hP hD hK hX hT hS) rfl rfl hl.1 rfl (lv_room (Nat.le_of_ble_eq_true rfl)) dL_room_6 ⟨by show _ ≤ 24; omega, by show _ ≤ 3268; omega⟩) hS (fun u H locs hu hP hD hS => ?_)
  obtain ⟨arr, mz, f⟩ := u
  have hB := hu
  have hP : va_P D vwCl ((sb, jE0 arr (nI roomT.length)) :: (arr, jE1 cy mz f) :: (ra, .inl (cy 1, 1, .inl g)) :: tl) H := hP
  have hD : va_D A ((sb, jE0 arr (nI roomT.length)) :: (arr, jE1 cy mz f) :: (ra, .inl (cy 1, 1, .inl g)) :: tl) := hD
  refine lv_aload_n hx hb dL_room_9 rfl (lv_at hl 1 rfl) ?_
  obtain ⟨hP, hD⟩ := jrot3 hP hD
  refine xj_e (va_runS (As := [.ref ra]) (rest := [.ref sb]) ⟨hx, hb, hml, hown, hts⟩ (c_next_j l D cy A ((sb, jE0 arr (nI roomT.length)) :: (arr, jE1 cy mz f) :: tl) (rtx aR aH aB aU) ra g) (va_cwS 1 hts gL_room_L_next rfl rfl rfl (by decide +kernel) ⟨Nat.le_of_ble_eq_true rfl, Nat.le_of_ble_eq_true rfl⟩) (jPreS hP hD hK hX hT hS) rfl rfl hl.1 rfl (lv_room (Nat.le_of_ble_eq_true rfl)) dL_room_10 ⟨by show _ ≤ 24; omega, by show _ ≤ 3268; omega⟩) hS (fun g1 H locs _ hP hD hS => ?_)
  obtain ⟨v1, hv1, ev1⟩ := nx_mod (g 0) (k := 101) (by decide) (by decide)
  have hP : va_P D vwCl ((ra, .inl (cy 1, 1, .inl g1)) :: (sb, jE0 arr (nI roomT.length)) :: (arr, jE1 cy mz f) :: tl) H := hP
  have hD : va_D A ((ra, .inl (cy 1, 1, .inl g1)) :: (sb, jE0 arr (nI roomT.length)) :: (arr, jE1 cy mz f) :: tl) := hD
  obtain ⟨hP, hD⟩ := jrot hP hD
  refine lv_bipush (v := 101) hx hb dL_room_13 (by decide) ?_
  refine lv_irem hx hb dL_room_15 (by decide) ?_
  refine W.eq (g2 := F0 m 16 ls (.int (nI v1) :: .ref sb :: [])) (congrArg (fun z => F0 m 16 ls (.int z :: .ref sb :: [])) ev1) ?_
  refine xj_a (va_runV (As := [.int (nI v1)]) (rest := []) ⟨hx, hb, hml, hown, hts⟩ (c_J4_append_bf812 l D cy A ((ra, .inl (cy 1, 1, .inl g1)) :: tl) (rtx aR aH aB aU) sb arr mz f roomT hB v1 (by omega) (by have := (dig_len (v := v1)).2; show 5 + _ ≤ 74; omega)) (cwV 1 hts gL_room_J4_append_bf812 rfl rfl rfl (by decide +kernel) ⟨Nat.le_of_ble_eq_true rfl, Nat.le_of_ble_eq_true rfl⟩) (jPreV 0 hP hD hK hX hT hS rfl rfl) rfl rfl hl.1 rfl (lv_room (Nat.le_of_ble_eq_true rfl)) dL_room_16 ⟨by show _ ≤ 24; omega, by show _ ≤ 3268; omega⟩) hS (fun u H locs hu hP hD hS => ?_)
  obtain ⟨arr, mz, f⟩ := u
  have hB := hu
  have hP : va_P D vwCl ((sb, jE0 arr (nI ((roomT ++ dig v1).length))) :: (arr, jE1 cy mz f) :: (ra, .inl (cy 1, 1, .inl g1)) :: tl) H := hP
  have hD : va_D A ((sb, jE0 arr (nI ((roomT ++ dig v1).length))) :: (arr, jE1 cy mz f) :: (ra, .inl (cy 1, 1, .inl g1)) :: tl) := hD
  refine lv_bipush (v := 32) hx hb dL_room_19 (by decide) ?_
  refine xj_a (va_runV (As := [.int 32]) (rest := []) ⟨hx, hb, hml, hown, hts⟩ (c_J4_append_cf468 l D cy A ((ra, .inl (cy 1, 1, .inl g1)) :: tl) (rtx aR aH aB aU) sb arr mz f (roomT ++ dig v1) hB  (by simp only [List.length_append]; have := (dig_len (v := v1)).2; show 5 + _ + 1 ≤ 74; omega)) (cwV 1 hts gL_room_J4_append_cf468 rfl rfl rfl (by decide +kernel) ⟨Nat.le_of_ble_eq_true rfl, Nat.le_of_ble_eq_true rfl⟩) (jPreV 0 hP hD hK hX hT hS rfl rfl) rfl rfl hl.1 rfl (lv_room (Nat.le_of_ble_eq_true rfl)) dL_room_21 ⟨by show _ ≤ 24; omega, by show _ ≤ 3268; omega⟩) hS (fun u H locs hu hP hD hS => ?_)
  obtain ⟨arr, mz, f⟩ := u
  have hB := hu
  have hP : va_P D vwCl ((sb, jE0 arr (nI (((roomT ++ dig v1) ++ [32]).length))) :: (arr, jE1 cy mz f) :: (ra, .inl (cy 1, 1, .inl g1)) :: tl) H := hP
  have hD : va_D A ((sb, jE0 arr (nI (((roomT ++ dig v1) ++ [32]).length))) :: (arr, jE1 cy mz f) :: (ra, .inl (cy 1, 1, .inl g1)) :: tl) := hD
  refine lv_aload_n hx hb dL_room_24 rfl (lv_at hl 1 rfl) ?_
  obtain ⟨hP, hD⟩ := jrot3 hP hD
  refine xj_e (va_runS (As := [.ref ra]) (rest := [.ref sb]) ⟨hx, hb, hml, hown, hts⟩ (c_next_j l D cy A ((sb, jE0 arr (nI (((roomT ++ dig v1) ++ [32]).length))) :: (arr, jE1 cy mz f) :: tl) (rtx aR aH aB aU) ra g1) (va_cwS 1 hts gL_room_L_next rfl rfl rfl (by decide +kernel) ⟨Nat.le_of_ble_eq_true rfl, Nat.le_of_ble_eq_true rfl⟩) (jPreS hP hD hK hX hT hS) rfl rfl hl.1 rfl (lv_room (Nat.le_of_ble_eq_true rfl)) dL_room_25 ⟨by show _ ≤ 24; omega, by show _ ≤ 3268; omega⟩) hS (fun g2 H locs _ hP hD hS => ?_)
  obtain ⟨v2, hv2, ev2⟩ := nx_mod (g1 0) (k := 41) (by decide) (by decide)
  have hP : va_P D vwCl ((ra, .inl (cy 1, 1, .inl g2)) :: (sb, jE0 arr (nI (((roomT ++ dig v1) ++ [32]).length))) :: (arr, jE1 cy mz f) :: tl) H := hP
  have hD : va_D A ((ra, .inl (cy 1, 1, .inl g2)) :: (sb, jE0 arr (nI (((roomT ++ dig v1) ++ [32]).length))) :: (arr, jE1 cy mz f) :: tl) := hD
  obtain ⟨hP, hD⟩ := jrot hP hD
  refine lv_bipush (v := 41) hx hb dL_room_28 (by decide) ?_
  refine lv_irem hx hb dL_room_30 (by decide) ?_
  refine W.eq (g2 := F0 m 31 ls (.int (nI v2) :: .ref sb :: [])) (congrArg (fun z => F0 m 31 ls (.int z :: .ref sb :: [])) ev2) ?_
  refine xj_a (va_runV (As := [.int (nI v2)]) (rest := []) ⟨hx, hb, hml, hown, hts⟩ (c_J4_append_bf812 l D cy A ((ra, .inl (cy 1, 1, .inl g2)) :: tl) (rtx aR aH aB aU) sb arr mz f ((roomT ++ dig v1) ++ [32]) hB v2 (by omega) (by simp only [List.length_append]; have := (dig_len (v := v1)).2; have := (dig_len (v := v2)).2; show 5 + _ + 1 + _ ≤ 74; omega)) (cwV 1 hts gL_room_J4_append_bf812 rfl rfl rfl (by decide +kernel) ⟨Nat.le_of_ble_eq_true rfl, Nat.le_of_ble_eq_true rfl⟩) (jPreV 0 hP hD hK hX hT hS rfl rfl) rfl rfl hl.1 rfl (lv_room (Nat.le_of_ble_eq_true rfl)) dL_room_31 ⟨by show _ ≤ 24; omega, by show _ ≤ 3268; omega⟩) hS (fun u H locs hu hP hD hS => ?_)
  obtain ⟨arr, mz, f⟩ := u
  have hB := hu
  have hP : va_P D vwCl ((sb, jE0 arr (nI ((((roomT ++ dig v1) ++ [32]) ++ dig v2).length))) :: (arr, jE1 cy mz f) :: (ra, .inl (cy 1, 1, .inl g2)) :: tl) H := hP
  have hD : va_D A ((sb, jE0 arr (nI ((((roomT ++ dig v1) ++ [32]) ++ dig v2).length))) :: (arr, jE1 cy mz f) :: (ra, .inl (cy 1, 1, .inl g2)) :: tl) := hD
  refine lv_bipush (v := 32) hx hb dL_room_34 (by decide) ?_
  refine xj_a (va_runV (As := [.int 32]) (rest := []) ⟨hx, hb, hml, hown, hts⟩ (c_J4_append_cf468 l D cy A ((ra, .inl (cy 1, 1, .inl g2)) :: tl) (rtx aR aH aB aU) sb arr mz f (((roomT ++ dig v1) ++ [32]) ++ dig v2) hB  (by simp only [List.length_append]; have := (dig_len (v := v1)).2; have := (dig_len (v := v2)).2; show 5 + _ + 1 + _ + 1 ≤ 74; omega)) (cwV 1 hts gL_room_J4_append_cf468 rfl rfl rfl (by decide +kernel) ⟨Nat.le_of_ble_eq_true rfl, Nat.le_of_ble_eq_true rfl⟩) (jPreV 0 hP hD hK hX hT hS rfl rfl) rfl rfl hl.1 rfl (lv_room (Nat.le_of_ble_eq_true rfl)) dL_room_36 ⟨by show _ ≤ 24; omega, by show _ ≤ 3268; omega⟩) hS (fun u H locs hu hP hD hS => ?_)
  obtain ⟨arr, mz, f⟩ := u
  have hB := hu
  have hP : va_P D vwCl ((sb, jE0 arr (nI (((((roomT ++ dig v1) ++ [32]) ++ dig v2) ++ [32]).length))) :: (arr, jE1 cy mz f) :: (ra, .inl (cy 1, 1, .inl g2)) :: tl) H := hP
  have hD : va_D A ((sb, jE0 arr (nI (((((roomT ++ dig v1) ++ [32]) ++ dig v2) ++ [32]).length))) :: (arr, jE1 cy mz f) :: (ra, .inl (cy 1, 1, .inl g2)) :: tl) := hD
  refine lv_aload_n hx hb dL_room_39 rfl (lv_at hl 1 rfl) ?_
  obtain ⟨hP, hD⟩ := jrot3 hP hD
  refine xj_e (va_runS (As := [.ref ra]) (rest := [.ref sb]) ⟨hx, hb, hml, hown, hts⟩ (c_next_j l D cy A ((sb, jE0 arr (nI (((((roomT ++ dig v1) ++ [32]) ++ dig v2) ++ [32]).length))) :: (arr, jE1 cy mz f) :: tl) (rtx aR aH aB aU) ra g2) (va_cwS 1 hts gL_room_L_next rfl rfl rfl (by decide +kernel) ⟨Nat.le_of_ble_eq_true rfl, Nat.le_of_ble_eq_true rfl⟩) (jPreS hP hD hK hX hT hS) rfl rfl hl.1 rfl (lv_room (Nat.le_of_ble_eq_true rfl)) dL_room_40 ⟨by show _ ≤ 24; omega, by show _ ≤ 3268; omega⟩) hS (fun g3 H locs _ hP hD hS => ?_)
  obtain ⟨v3, hv3, ev3⟩ := nx_mod (g2 0) (k := 6) (by decide) (by decide)
  have hP : va_P D vwCl ((ra, .inl (cy 1, 1, .inl g3)) :: (sb, jE0 arr (nI (((((roomT ++ dig v1) ++ [32]) ++ dig v2) ++ [32]).length))) :: (arr, jE1 cy mz f) :: tl) H := hP
  have hD : va_D A ((ra, .inl (cy 1, 1, .inl g3)) :: (sb, jE0 arr (nI (((((roomT ++ dig v1) ++ [32]) ++ dig v2) ++ [32]).length))) :: (arr, jE1 cy mz f) :: tl) := hD
  obtain ⟨hP, hD⟩ := jrot hP hD
  refine lv_bipush (v := 6) hx hb dL_room_43 (by decide) ?_
  refine lv_irem hx hb dL_room_45 (by decide) ?_
  refine W.eq (g2 := F0 m 46 ls (.int (nI v3) :: .ref sb :: [])) (congrArg (fun z => F0 m 46 ls (.int z :: .ref sb :: [])) ev3) ?_
  refine xj_a (va_runV (As := [.int (nI v3)]) (rest := []) ⟨hx, hb, hml, hown, hts⟩ (c_J4_append_bf812 l D cy A ((ra, .inl (cy 1, 1, .inl g3)) :: tl) (rtx aR aH aB aU) sb arr mz f ((((roomT ++ dig v1) ++ [32]) ++ dig v2) ++ [32]) hB v3 (by omega) (by simp only [List.length_append]; have := (dig_len (v := v1)).2; have := (dig_len (v := v2)).2; have := (dig_len (v := v3)).2; show 5 + _ + 1 + _ + 1 + _ ≤ 74; omega)) (cwV 1 hts gL_room_J4_append_bf812 rfl rfl rfl (by decide +kernel) ⟨Nat.le_of_ble_eq_true rfl, Nat.le_of_ble_eq_true rfl⟩) (jPreV 0 hP hD hK hX hT hS rfl rfl) rfl rfl hl.1 rfl (lv_room (Nat.le_of_ble_eq_true rfl)) dL_room_46 ⟨by show _ ≤ 24; omega, by show _ ≤ 3268; omega⟩) hS (fun u H locs hu hP hD hS => ?_)
  obtain ⟨arr, mz, f⟩ := u
  have hB := hu
  have hP : va_P D vwCl ((sb, jE0 arr (nI ((((((roomT ++ dig v1) ++ [32]) ++ dig v2) ++ [32]) ++ dig v3).length))) :: (arr, jE1 cy mz f) :: (ra, .inl (cy 1, 1, .inl g3)) :: tl) H := hP
  have hD : va_D A ((sb, jE0 arr (nI ((((((roomT ++ dig v1) ++ [32]) ++ dig v2) ++ [32]) ++ dig v3).length))) :: (arr, jE1 cy mz f) :: (ra, .inl (cy 1, 1, .inl g3)) :: tl) := hD
  refine lv_astore_n (lv' := [(2, .ref sb), (0, .int (nI N)), (1, .ref ra)]) hx hb dL_room_49 rfl hl (by decide) rfl (fun ls hl => ?_)
  refine lv_iconst (v := 0) hx hb dL_room_50 (by decide) ?_
  refine lv_istore_n (lv' := [(3, .int 0), (2, .ref sb), (0, .int (nI N)), (1, .ref ra)]) hx hb dL_room_51 rfl hl (by decide) rfl (fun ls hl => ?_)
  exact cl_L_room_52 l D cy A tl ra aR aH aB aU N sb hN hx hb hr hlocks hml hown hts hK hX hT hV N 0 rfl (headT v1 v2 v3) arr mz f g3 H locs ls _ _ (RTk.z (by omega) (by omega) (by omega)) hB hP hD hS (lv_sub hl [0, 1, 2, 3] rfl) (by omega) (by omega)
