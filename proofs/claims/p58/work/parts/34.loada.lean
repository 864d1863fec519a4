theorem ld_ub {M : Mem} {x : Int32} (h : TF M) (h0 : ¬ x < 0) (hc : x ≤ M 10 1) : UB x 600 := by
  obtain ⟨k, hk, e⟩ := h
  exact (ub_le h0 hc e (by omega)).mono hk
def fX7_load (M : Mem) (x : Int32) : Int32 := if x < 0 then 0 else (if x ≤ (M 10 1) then (if ((gX3_parse M x) 9 2) = 0 then ((gX5_forget (gX0_forget (gX4_copyFrom (gX3_parse M x) 1 12))) 1 1) else 0) else 0)
def gX7_load (M : Mem) (x : Int32) : Mem := if x < 0 then M else (if x ≤ (M 10 1) then (if ((gX3_parse M x) 9 2) = 0 then (gX5_forget (gX0_forget (gX4_copyFrom (gX3_parse M x) 1 12))) else (gX3_parse M x)) else M)
def tX7_load (M : Mem) (x : Int32) : Nat := if x < 0 then 1 else (if x ≤ (M 10 1) then (if ((gX3_parse M x) 9 2) = 0 then 0 else 2) else 1)
set_option maxHeartbeats 4000000 in
set_option maxRecDepth 100000 in
theorem c_X7_load (l : Launch) (hl0 : l.stackTraces = false) (D : va_G) (cy : Nat → ClassId) (b n : Nat) (hn : 124 ≤ n) (M : Mem) (x : Int32) (htf : TF M) (hcd : CNT M 12) : vx_Met l yX7_load wsX7_load ({ frames := 7, cells := 1, slots := 6, locals := 152 } : Room) (CP D cy b n fT M [.ref (b + 0), .int x]) (CTi D cy b n fT (tX7_load M x) (fX7_load M x) (gX7_load M x)) (CX D cy b n fT (tX7_load M x) (gX7_load M x)) 1 6 (fr b) := by
  refine vx_ofW (cc := cX7_load) (maxL := 2) (ret := (some .int)) (by decide) rfl ?_
  intro p e s m args below meth c s₁ B hml hout hv
  obtain ⟨rfl, hP, hK, hX⟩ := hv
  have hx := B.exec
  have hb := B.bytes
  have hr := B.returns
  have hts := atoms_spec (ws := wsX7_load) B.pre
  have hown : s.vm.findClass RX7 = some m.cls := findClass_of_methodNamed B.named
  have hlocks := B.notSynchronized
  have lk0 := hts (.classLink RX7 96 "java/lang/IndexOutOfBoundsException") (by decide +kernel)
  have lk1 := hts (.initialized "java/lang/IndexOutOfBoundsException") (by decide +kernel)
  have lk2 := hts (.fieldLink RX7 19 "HygrometerRoom" "reader" "LHygrometerRoom$Reader;") (by decide +kernel)
  have lk3 := hts (.fieldLink RX7 77 "HygrometerRoom$Reader" "tokens" "LHygrometerRoom$Tokens;") (by decide +kernel)
  have lk4 := hts (.fieldLink RX7 81 "HygrometerRoom$Tokens" "filled" "I") (by decide +kernel)
  have lk5 := hts (.fieldLink RX7 104 "HygrometerRoom$Reader" "errorKind" "I") (by decide +kernel)
  have lk6 := hts (.fieldLink RX7 10 "HygrometerRoom" "room" "LHygrometerRoom$Room;") (by decide +kernel)
  have lk7 := hts (.fieldLink RX7 112 "HygrometerRoom$Reader" "draft" "LHygrometerRoom$Room;") (by decide +kernel)
  have lk8 := hts (.fieldLink RX7 26 "HygrometerRoom" "history" "LHygrometerRoom$History;") (by decide +kernel)
  have lk9 := hts (.fieldLink RX7 33 "HygrometerRoom" "slots" "LHygrometerRoom$Slots;") (by decide +kernel)
  have lk10 := hts (.fieldLink RX7 123 "HygrometerRoom$Room" "count" "I") (by decide +kernel)
  have lk11 := hts (.classLink RX7 107 "java/lang/IllegalArgumentException") (by decide +kernel)
  have lk12 := hts (.initialized "java/lang/IllegalArgumentException") (by decide +kernel)
  have at100 : ∀ w ∈ (vx_atS RX7 100 "java/lang/IndexOutOfBoundsException" ["java/lang/RuntimeException", "java/lang/Exception"]).filter goodWord, w ∈ wsX7_load := by decide +kernel
  have at111 : ∀ w ∈ (vx_atS RX7 111 "java/lang/IllegalArgumentException" ["java/lang/RuntimeException", "java/lang/Exception"]).filter goodWord, w ∈ wsX7_load := by decide +kernel
  have inc3 : ∀ w ∈ u_ws RX3 TX3 4, w ∈ wsX7_load := by decide +kernel
  have inc4 : ∀ w ∈ u_ws RX4 TX4 8, w ∈ wsX7_load := by decide +kernel
  have inc6 : ∀ w ∈ u_ws RX6 TX6 6, w ∈ wsX7_load := by decide +kernel
  have inc7 : ∀ w ∈ u_ws RX7 TX7 6, w ∈ wsX7_load := by decide +kernel
  have hS : va_S (fr b) s.heap s.heap [] := va_S.rf
  have hl := lv_entry ([.ref (b + 0), .int x]) (n := 2) (Nat.le_of_ble_eq_true rfl)
  rw [lg_entry_eq]
  generalize (lg_sl ([.ref (b + 0), .int x]) ++ List.replicate (2 - (lg_sl ([.ref (b + 0), .int x])).length) Slot.unset).toArray = ls at hl ⊢
  have hl : lv_has ls 2 [(0, .ref (b + 0)), (1, .int x)] := hl
  refine lv_iload_n hx hb dX7_load_0 rfl (lv_at hl 1 rfl) ?_
  refine lv_if_lt (tgt := 18) hx hb dX7_load_1 (by decide) (fun c1 => ?_) (fun c1 => ?_)
  · exact xth (cls := "java/lang/IndexOutOfBoundsException") (text := "the input buffer has no such length") hx hb hl0 hown hX (by decide +kernel) (by decide +kernel) (by decide +kernel) lk0 lk1 (fun w h => hts w (at100 w h)) (by decide +kernel) (by decide +kernel) hP hS rfl (by rw [gX7_load, if_pos c1] <;> rfl) (by rw [tX7_load, if_pos c1]; exact Or.inl ⟨rfl, rfl⟩) (hl.1.trans hml.symm) dX7_load_18 dX7_load_21 dX7_load_22 dX7_load_24 dX7_load_27 hout (Nat.le_of_ble_eq_true rfl) (Nat.le_of_ble_eq_true rfl) (Nat.le_of_ble_eq_true rfl) (Nat.le_of_ble_eq_true rfl) hlocks (Nat.le_of_ble_eq_true rfl) (Nat.le_of_ble_eq_true rfl)
  · refine lv_iload_n hx hb dX7_load_4 rfl (lv_at hl 1 rfl) ?_
    refine lv_aload_n hx hb dX7_load_5 rfl (lv_at hl 0 rfl) ?_
    refine xg (C := RX7) (T := TX7) (N := 6) (v := .ref (b + 9)) hx hb hts inc7 hown hK hP (by omega) (cell7 (by decide)) rfl 1 (by decide) lk2 (fun _ h => h) rfl dX7_load_6 ?_
    refine xg (C := RX3) (T := TX3) (N := 4) (v := .ref (b + 10)) hx hb hts inc3 hown hK hP (by omega) (cell3 (by decide)) rfl 0 (by decide) lk3 (fun _ h => h) rfl dX7_load_9 ?_
    refine xg (C := RX6) (T := TX6) (N := 6) (v := .int (M 10 1)) hx hb hts inc6 hown hK hP (by omega) (cell6 (by decide)) rfl 1 (by decide) lk4 (fun _ h => h) rfl dX7_load_12 ?_
    refine lv_icmp_le (tgt := 28) hx hb dX7_load_15 (by decide) (fun c15 => ?_) (fun c15 => ?_)
    · refine lv_aload_n hx hb dX7_load_28 rfl (lv_at hl 0 rfl) ?_
      refine xg (C := RX7) (T := TX7) (N := 6) (v := .ref (b + 9)) hx hb hts inc7 hown hK hP (by omega) (cell7 (by decide)) rfl 1 (by decide) lk2 (fun _ h => h) rfl dX7_load_29 ?_
      refine lv_iload_n hx hb dX7_load_32 rfl (lv_at hl 1 rfl) ?_
      refine xc_v (va_runV (As := [.int x]) (rest := []) ⟨hx, hb, hml, hown, hts⟩ (c_X3_parse l D cy b n hn M x (ld_ub htf c1 c15) htf hcd) (cwV 1 hts gX7_load_X3_parse rfl rfl rfl (by decide +kernel) ⟨Nat.le_of_ble_eq_true rfl, Nat.le_of_ble_eq_true rfl⟩) (xPreV hP hK hX hS (by omega) (cell3 (by decide)) rfl) rfl rfl hl.1 rfl (lv_room (Nat.le_of_ble_eq_true rfl)) dX7_load_33 ⟨Nat.le_of_ble_eq_true rfl, Nat.le_of_ble_eq_true rfl⟩) hS (fun H locs hP hS => ?_)
      refine lv_aload_n hx hb dX7_load_36 rfl (lv_at hl 0 rfl) ?_
      refine xg (C := RX7) (T := TX7) (N := 6) (v := .ref (b + 9)) hx hb hts inc7 hown hK hP (by omega) (cell7 (by decide)) rfl 1 (by decide) lk2 (fun _ h => h) rfl dX7_load_37 ?_
      refine xg (C := RX3) (T := TX3) (N := 4) (v := .int ((gX3_parse M x) 9 2)) hx hb hts inc3 hown hK hP (by omega) (cell3 (by decide)) rfl 2 (by decide) lk5 (fun _ h => h) rfl dX7_load_40 ?_
      refine lv_if_eq (tgt := 56) hx hb dX7_load_43 (by decide) (fun c43 => ?_) (fun c43 => ?_)
      · refine lv_aload_n hx hb dX7_load_56 rfl (lv_at hl 0 rfl) ?_
        refine xg (C := RX7) (T := TX7) (N := 6) (v := .ref (b + 1)) hx hb hts inc7 hown hK hP (by omega) (cell7 (by decide)) rfl 0 (by decide) lk6 (fun _ h => h) rfl dX7_load_57 ?_
        refine lv_aload_n hx hb dX7_load_60 rfl (lv_at hl 0 rfl) ?_
        refine xg (C := RX7) (T := TX7) (N := 6) (v := .ref (b + 9)) hx hb hts inc7 hown hK hP (by omega) (cell7 (by decide)) rfl 1 (by decide) lk2 (fun _ h => h) rfl dX7_load_61 ?_
        refine xg (C := RX3) (T := TX3) (N := 4) (v := .ref (b + 12)) hx hb hts inc3 hown hK hP (by omega) (cell3 (by decide)) rfl 1 (by decide) lk7 (fun _ h => h) rfl dX7_load_64 ?_
        refine xc_v (va_runV (As := [.ref (b + 12)]) (rest := []) ⟨hx, hb, hml, hown, hts⟩ (c_X4_copyFrom l D cy b n hn (gX3_parse M x) 1 12 (by decide) (by decide) (parse_cnt (ld_ub htf c1 c15) htf hcd)) (cwV 1 hts gX7_load_X4_copyFrom rfl rfl rfl (by decide +kernel) ⟨Nat.le_of_ble_eq_true rfl, Nat.le_of_ble_eq_true rfl⟩) (xPreV hP hK hX hS (by omega) (cell4 (by decide)) rfl) rfl rfl hl.1 rfl (lv_room (Nat.le_of_ble_eq_true rfl)) dX7_load_67 ⟨Nat.le_of_ble_eq_true rfl, Nat.le_of_ble_eq_true rfl⟩) hS (fun H locs hP hS => ?_)
        refine lv_aload_n hx hb dX7_load_70 rfl (lv_at hl 0 rfl) ?_
        refine xg (C := RX7) (T := TX7) (N := 6) (v := .ref (b + 20)) hx hb hts inc7 hown hK hP (by omega) (cell7 (by decide)) rfl 2 (by decide) lk8 (fun _ h => h) rfl dX7_load_71 ?_
        refine xc_v (va_runV (As := []) (rest := []) ⟨hx, hb, hml, hown, hts⟩ (c_X0_forget l D cy b n hn (gX4_copyFrom (gX3_parse M x) 1 12) ) (cwV 0 hts gX7_load_X0_forget rfl rfl rfl (by decide +kernel) ⟨Nat.le_of_ble_eq_true rfl, Nat.le_of_ble_eq_true rfl⟩) (xPreV hP hK hX hS (by omega) (cell0 (by decide)) rfl) rfl rfl hl.1 rfl (lv_room (Nat.le_of_ble_eq_true rfl)) dX7_load_74 ⟨Nat.le_of_ble_eq_true rfl, Nat.le_of_ble_eq_true rfl⟩) hS (fun H locs hP hS => ?_)
        refine lv_aload_n hx hb dX7_load_77 rfl (lv_at hl 0 rfl) ?_
        refine xg (C := RX7) (T := TX7) (N := 6) (v := .ref (b + 102)) hx hb hts inc7 hown hK hP (by omega) (cell7 (by decide)) rfl 3 (by decide) lk9 (fun _ h => h) rfl dX7_load_78 ?_
        refine xc_v (va_runV (As := []) (rest := []) ⟨hx, hb, hml, hown, hts⟩ (c_X5_forget l D cy b n hn (gX0_forget (gX4_copyFrom (gX3_parse M x) 1 12)) ) (cwV 0 hts gX7_load_X5_forget rfl rfl rfl (by decide +kernel) ⟨Nat.le_of_ble_eq_true rfl, Nat.le_of_ble_eq_true rfl⟩) (xPreV hP hK hX hS (by omega) (cell5 (by decide)) rfl) rfl rfl hl.1 rfl (lv_room (Nat.le_of_ble_eq_true rfl)) dX7_load_81 ⟨Nat.le_of_ble_eq_true rfl, Nat.le_of_ble_eq_true rfl⟩) hS (fun H locs hP hS => ?_)
        refine lv_aload_n hx hb dX7_load_84 rfl (lv_at hl 0 rfl) ?_
        refine xg (C := RX7) (T := TX7) (N := 6) (v := .ref (b + 1)) hx hb hts inc7 hown hK hP (by omega) (cell7 (by decide)) rfl 0 (by decide) lk6 (fun _ h => h) rfl dX7_load_85 ?_
        refine xg (C := RX4) (T := TX4) (N := 8) (v := .int ((gX5_forget (gX0_forget (gX4_copyFrom (gX3_parse M x) 1 12))) 1 1)) hx hb hts inc4 hown hK hP (by omega) (cell4 (by decide)) rfl 1 (by decide) lk10 (fun _ h => h) rfl dX7_load_88 ?_
        exact xt_i hx hb hr hlocks hP hS rfl (by rw [tX7_load, if_neg c1, if_pos c15, if_pos c43] <;> rfl) (by rw [gX7_load, if_neg c1, if_pos c15, if_pos c43] <;> rfl) (by rw [fX7_load, if_neg c1, if_pos c15, if_pos c43] <;> rfl) rfl (Nat.le_of_ble_eq_true rfl) (Nat.le_of_ble_eq_true rfl) dX7_load_91
      · exact xth (cls := "java/lang/IllegalArgumentException") (text := "the text has an error") hx hb hl0 hown hX (by decide +kernel) (by decide +kernel) (by decide +kernel) lk11 lk12 (fun w h => hts w (at111 w h)) (by decide +kernel) (by decide +kernel) hP hS rfl (by rw [gX7_load, if_neg c1, if_pos c15, if_neg c43] <;> rfl) (by rw [tX7_load, if_neg c1, if_pos c15, if_neg c43]; exact Or.inr (Or.inl ⟨rfl, rfl⟩)) (hl.1.trans hml.symm) dX7_load_46 dX7_load_49 dX7_load_50 dX7_load_52 dX7_load_55 hout (Nat.le_of_ble_eq_true rfl) (Nat.le_of_ble_eq_true rfl) (Nat.le_of_ble_eq_true rfl) (Nat.le_of_ble_eq_true rfl) hlocks (Nat.le_of_ble_eq_true rfl) (Nat.le_of_ble_eq_true rfl)
    · exact xth (cls := "java/lang/IndexOutOfBoundsException") (text := "the input buffer has no such length") hx hb hl0 hown hX (by decide +kernel) (by decide +kernel) (by decide +kernel) lk0 lk1 (fun w h => hts w (at100 w h)) (by decide +kernel) (by decide +kernel) hP hS rfl (by rw [gX7_load, if_neg c1, if_neg c15] <;> rfl) (by rw [tX7_load, if_neg c1, if_neg c15]; exact Or.inl ⟨rfl, rfl⟩) (hl.1.trans hml.symm) dX7_load_18 dX7_load_21 dX7_load_22 dX7_load_24 dX7_load_27 hout (Nat.le_of_ble_eq_true rfl) (Nat.le_of_ble_eq_true rfl) (Nat.le_of_ble_eq_true rfl) (Nat.le_of_ble_eq_true rfl) hlocks (Nat.le_of_ble_eq_true rfl) (Nat.le_of_ble_eq_true rfl)

