theorem hr_1 {M : Mem} {x : Int32} (h : ¬ fX7_isHair M x = 0) : (1 : Int32) = fX7_isHair M x := ((bv01 _).resolve_left h).symm
set_option maxHeartbeats 4000000 in
set_option maxRecDepth 100000 in
theorem c_L_act (l : Launch) (hl0 : l.stackTraces = false) (D : va_G) (cy : Nat → ClassId) (b n : Nat) (hn : 125 ≤ n) (M : Mem) {mx c0 : Nat} (hA : AST mx M c0) : Met l yL_act wsL_act ({ frames := 9, cells := 9, slots := 54, locals := 158 } : Room) (CP D cy b n fT M [.ref (b + 0), .ref (b + 124)]) (CQe D cy b n 1 (APOST mx M c0)) 9 54 (fr b) := by
  refine Met.ofW (cc := cL_act) (maxL := 32) (ret := some .boolean) (by decide) rfl ?_
  intro p e s m args below meth c s₁ B hml hv
  obtain ⟨rfl, hP, hK, hX⟩ := hv
  have hx := B.exec
  have hb := B.bytes
  have hr := B.returns
  have hts := atoms_spec (ws := wsL_act) B.pre
  have hown : s.vm.findClass RL = some m.cls := findClass_of_methodNamed B.named
  have hlocks := B.notSynchronized
  have hS : va_S (fr b) s.heap s.heap [] := va_S.rf
  have hl := lv_entry ([.ref (b + 0), .ref (b + 124)]) (n := 32) (Nat.le_of_ble_eq_true rfl)
  rw [lg_entry_eq]
  generalize (lg_sl ([.ref (b + 0), .ref (b + 124)]) ++ List.replicate (32 - (lg_sl ([.ref (b + 0), .ref (b + 124)])).length) Slot.unset).toArray = ls at hl ⊢
  have hl : lv_has ls 32 [(0, .ref (b + 0)), (1, .ref (b + 124))] := hl
  have hc6 := hA.2.2.1
  rcases Nat.eq_zero_or_pos c0 with hz | hc0
  · refine lv_aload_n hx hb dL_act_0 rfl (lv_at hl 0 rfl) ?_
    refine xc_i (va_runV (As := []) (rest := []) ⟨hx, hb, hml, hown, hts⟩ (c_X7_instrumentCount l D cy b n (by omega) M ) (cwV 0 hts gL_act_X7_instrumentCount rfl rfl rfl (by decide +kernel) ⟨Nat.le_of_ble_eq_true rfl, Nat.le_of_ble_eq_true rfl⟩) (xPreV hP hK hX hS (by omega) (cell7 (by decide)) rfl) rfl rfl hl.1 rfl (lv_room (Nat.le_of_ble_eq_true rfl)) dL_act_1 ⟨Nat.le_of_ble_eq_true rfl, Nat.le_of_ble_eq_true rfl⟩) hS (fun H locs hP hS => ?_)
    refine W.eq (g2 := F0 m 4 ls (.int (0 : Int32) :: [])) (congrArg (fun z => F0 m 4 ls (.int z :: [])) (hA.2.1.trans (by rw [hz]; rfl))) ?_
    refine lv_istore_n (lv' := [(2, .int (0 : Int32)), (0, .ref (b + 0)), (1, .ref (b + 124))]) hx hb dL_act_4 rfl hl (by decide) rfl (fun ls hl => ?_)
    refine lv_iload_n hx hb dL_act_5 rfl (lv_at hl 0 rfl) ?_
    refine lv_if_ne (tgt := 13) hx hb dL_act_6 (by decide) (fun c6 => absurd rfl c6) (fun c6 => ?_)
    refine lv_iconst (v := 0) hx hb dL_act_9 (by decide) ?_
    refine lv_goto (tgt := 19) hx hb dL_act_10 (by decide) ?_
    refine lv_istore_n (lv' := [(3, .int (0 : Int32)), (2, .int (0 : Int32)), (0, .ref (b + 0)), (1, .ref (b + 124))]) hx hb dL_act_19 rfl hl (by decide) rfl (fun ls hl => ?_)
    refine lv_iload_n hx hb dL_act_20 rfl (lv_at hl 1 rfl) ?_
    refine lv_if_le (tgt := 36) hx hb dL_act_21 (by decide) (fun c21 => ?_) (fun c21 => absurd (by decide) c21)
    refine lv_iconst (v := 0) hx hb dL_act_36 (by decide) ?_
    refine lv_istore (lv' := [(4, .int (0 : Int32)), (3, .int (0 : Int32)), (2, .int (0 : Int32)), (0, .ref (b + 0)), (1, .ref (b + 124))]) hx hb dL_act_37 hl (by decide) rfl (fun ls hl => ?_)
    refine lv_iload_n hx hb dL_act_39 rfl (lv_at hl 2 rfl) ?_
    refine lv_if_eq (tgt := 52) hx hb dL_act_40 (by decide) (fun c40 => ?_) (fun c40 => absurd rfl c40)
    refine lv_iconst (v := 1) hx hb dL_act_52 (by decide) ?_
    refine lv_goto (tgt := 57) hx hb dL_act_53 (by decide) ?_
    refine lv_istore (lv' := [(5, .int (1 : Int32)), (4, .int (0 : Int32)), (3, .int (0 : Int32)), (2, .int (0 : Int32)), (0, .ref (b + 0)), (1, .ref (b + 124))]) hx hb dL_act_57 hl (by decide) rfl (fun ls hl => ?_)
    refine lv_iload_n hx hb dL_act_59 rfl (lv_at hl 3 rfl) ?_
    refine lv_if_ne (tgt := 68) hx hb dL_act_60 (by decide) (fun c60 => absurd rfl c60) (fun c60 => ?_)
    refine lv_bipush (v := (-5)) hx hb dL_act_63 (by decide) ?_
    refine lv_goto (tgt := 70) hx hb dL_act_65 (by decide) ?_
    refine lv_istore (lv' := [(6, .int ((-5) : Int32)), (5, .int (1 : Int32)), (4, .int (0 : Int32)), (3, .int (0 : Int32)), (2, .int (0 : Int32)), (0, .ref (b + 0)), (1, .ref (b + 124))]) hx hb dL_act_70 hl (by decide) rfl (fun ls hl => ?_)
    refine lv_aload_n hx hb dL_act_72 rfl (lv_at hl 6 rfl) ?_
    refine xc_i (va_runS (As := [.ref (b + 124)]) (rest := []) ⟨hx, hb, hml, hown, hts⟩ (c_L_next l D cy b n (by omega) M ) (va_cwS 1 hts gL_act_L_next rfl rfl rfl (by decide +kernel) ⟨Nat.le_of_ble_eq_true rfl, Nat.le_of_ble_eq_true rfl⟩) (xPreS hP hK hX hS) rfl rfl hl.1 rfl (lv_room (Nat.le_of_ble_eq_true rfl)) dL_act_73 ⟨Nat.le_of_ble_eq_true rfl, Nat.le_of_ble_eq_true rfl⟩) hS (fun H locs hP hS => ?_)
    obtain ⟨P, eq_P⟩ : ∃ z, z = mU M 124 0 (nxS (M 124 0)) := ⟨_, rfl⟩
    rw [← eq_P] at hP
    have hEP : EQR M P := by rw [eq_P]; exact eqr_put _ _ _
    have hAP : AST mx P c0 := hA.eqr hEP
    obtain ⟨qs, hqs, eqs⟩ := nx_mod (M 124 0) (k := 11) (by decide) (by decide)
    refine lv_bipush (v := 11) hx hb dL_act_76 (by decide) ?_
    refine lv_irem hx hb dL_act_78 (by decide) ?_
    refine W.eq (g2 := F0 m 79 ls (.int (nI qs) :: [])) (congrArg (fun z => F0 m 79 ls (.int z :: [])) eqs) ?_
    rcases (by omega : qs = 0 ∨ qs = 1 ∨ qs = 2 ∨ qs = 3 ∨ qs = 4 ∨ qs = 5 ∨ qs = 6 ∨ qs = 7 ∨ qs = 8 ∨ qs = 9 ∨ qs = 10) with rfl | rfl | rfl | rfl | rfl | rfl | rfl | rfl | rfl | rfl | rfl
    · refine lv_tableIn (x := nI 0) (off := 53) (tgt := 132) hx hb dL_act_79 (by decide) (by decide) (by decide) (by decide) ?_
      exact act_advZ l hl0 D cy b n hn hx hb hr hlocks hml hown hts hK hX P hz _ _ H locs ls hAP (fun M1 h => h.eqr hc6 hEP) (Nat.le_of_ble_eq_true rfl) (Nat.le_of_ble_eq_true rfl) hP hS (lv_sub hl [5, 6, 4, 3, 2, 1, 0] rfl)
    · refine lv_tableIn (x := nI 1) (off := 53) (tgt := 132) hx hb dL_act_79 (by decide) (by decide) (by decide) (by decide) ?_
      exact act_advZ l hl0 D cy b n hn hx hb hr hlocks hml hown hts hK hX P hz _ _ H locs ls hAP (fun M1 h => h.eqr hc6 hEP) (Nat.le_of_ble_eq_true rfl) (Nat.le_of_ble_eq_true rfl) hP hS (lv_sub hl [5, 6, 4, 3, 2, 1, 0] rfl)
    · refine lv_tableIn (x := nI 2) (off := 53) (tgt := 132) hx hb dL_act_79 (by decide) (by decide) (by decide) (by decide) ?_
      exact act_advZ l hl0 D cy b n hn hx hb hr hlocks hml hown hts hK hX P hz _ _ H locs ls hAP (fun M1 h => h.eqr hc6 hEP) (Nat.le_of_ble_eq_true rfl) (Nat.le_of_ble_eq_true rfl) hP hS (lv_sub hl [5, 6, 4, 3, 2, 1, 0] rfl)
    · refine lv_tableIn (x := nI 3) (off := 123) (tgt := 202) hx hb dL_act_79 (by decide) (by decide) (by decide) (by decide) ?_
      exact act_hum l hl0 D cy b n hn hx hb hr hlocks hml hown hts hK hX P  _ _ H locs ls hAP (fun M1 h => h.eqr hc6 hEP) (Nat.le_of_ble_eq_true rfl) (Nat.le_of_ble_eq_true rfl) hP hS (lv_sub hl [5, 6] rfl)
    · refine lv_tableIn (x := nI 4) (off := 164) (tgt := 243) hx hb dL_act_79 (by decide) (by decide) (by decide) (by decide) ?_
      exact act_boxZ l hl0 D cy b n hn hx hb hr hlocks hml hown hts hK hX P hz _ _ H locs ls hAP (fun M1 h => h.eqr hc6 hEP) (Nat.le_of_ble_eq_true rfl) (Nat.le_of_ble_eq_true rfl) hP hS (lv_sub hl [5, 6, 4, 3, 2, 1, 0] rfl)
    · refine lv_tableIn (x := nI 5) (off := 240) (tgt := 319) hx hb dL_act_79 (by decide) (by decide) (by decide) (by decide) ?_
      exact act_outZ l hl0 D cy b n hn hx hb hr hlocks hml hown hts hK hX P hz _ _ H locs ls hAP (fun M1 h => h.eqr hc6 hEP) (Nat.le_of_ble_eq_true rfl) (Nat.le_of_ble_eq_true rfl) hP hS (lv_sub hl [5, 6, 4, 3, 2, 1, 0] rfl)
    · refine lv_tableIn (x := nI 6) (off := 312) (tgt := 391) hx hb dL_act_79 (by decide) (by decide) (by decide) (by decide) ?_
      exact act_calZ l hl0 D cy b n hn hx hb hr hlocks hml hown hts hK hX P hz _ _ H locs ls hAP (fun M1 h => h.eqr hc6 hEP) (Nat.le_of_ble_eq_true rfl) (Nat.le_of_ble_eq_true rfl) hP hS (lv_sub hl [5, 6, 4, 3, 2, 1, 0] rfl)
    · refine lv_tableIn (x := nI 7) (off := 409) (tgt := 488) hx hb dL_act_79 (by decide) (by decide) (by decide) (by decide) ?_
      exact act_tigZ l hl0 D cy b n hn hx hb hr hlocks hml hown hts hK hX P hz _ _ H locs ls hAP (fun M1 h => h.eqr hc6 hEP) (Nat.le_of_ble_eq_true rfl) (Nat.le_of_ble_eq_true rfl) hP hS (lv_sub hl [5, 6, 4, 3, 2, 1, 0] rfl)
    · refine lv_tableIn (x := nI 8) (off := 544) (tgt := 623) hx hb dL_act_79 (by decide) (by decide) (by decide) (by decide) ?_
      exact act_moiZ l hl0 D cy b n hn hx hb hr hlocks hml hown hts hK hX P hz _ _ H locs ls hAP (fun M1 h => h.eqr hc6 hEP) (Nat.le_of_ble_eq_true rfl) (Nat.le_of_ble_eq_true rfl) hP hS (lv_sub hl [5, 6, 4, 3, 2, 1, 0] rfl)
    · refine lv_tableIn (x := nI 9) (off := 621) (tgt := 700) hx hb dL_act_79 (by decide) (by decide) (by decide) (by decide) ?_
      exact act_addZ l hl0 D cy b n hn hx hb hr hlocks hml hown hts hK hX P hz _ _ H locs ls hAP (fun M1 h => h.eqr hc6 hEP) (Nat.le_of_ble_eq_true rfl) (Nat.le_of_ble_eq_true rfl) hP hS (lv_sub hl [5, 6, 4, 3, 2, 1, 0] rfl)
    · refine lv_tableOut (x := nI 10) (tgt := 826) hx hb dL_act_79 (by decide) (by decide) ?_
      exact act_tmp l hl0 D cy b n hn hx hb hr hlocks hml hown hts hK hX P  _ _ H locs ls hAP (fun M1 h => h.eqr hc6 hEP) (Nat.le_of_ble_eq_true rfl) (Nat.le_of_ble_eq_true rfl) hP hS (lv_sub hl [5, 6] rfl)
  · refine lv_aload_n hx hb dL_act_0 rfl (lv_at hl 0 rfl) ?_
    refine xc_i (va_runV (As := []) (rest := []) ⟨hx, hb, hml, hown, hts⟩ (c_X7_instrumentCount l D cy b n (by omega) M ) (cwV 0 hts gL_act_X7_instrumentCount rfl rfl rfl (by decide +kernel) ⟨Nat.le_of_ble_eq_true rfl, Nat.le_of_ble_eq_true rfl⟩) (xPreV hP hK hX hS (by omega) (cell7 (by decide)) rfl) rfl rfl hl.1 rfl (lv_room (Nat.le_of_ble_eq_true rfl)) dL_act_1 ⟨Nat.le_of_ble_eq_true rfl, Nat.le_of_ble_eq_true rfl⟩) hS (fun H locs hP hS => ?_)
    refine W.eq (g2 := F0 m 4 ls (.int (nI c0) :: [])) (congrArg (fun z => F0 m 4 ls (.int z :: [])) hA.2.1) ?_
    refine lv_istore_n (lv' := [(2, .int (nI c0)), (0, .ref (b + 0)), (1, .ref (b + 124))]) hx hb dL_act_4 rfl hl (by decide) rfl (fun ls hl => ?_)
    refine lv_iload_n hx hb dL_act_5 rfl (lv_at hl 0 rfl) ?_
    refine lv_if_ne (tgt := 13) hx hb dL_act_6 (by decide) (fun c6 => ?_) (fun c6 => absurd c6 (nI_ne0 hc0 (by omega)))
    refine lv_aload_n hx hb dL_act_13 rfl (lv_at hl 2 rfl) ?_
    refine xc_i (va_runS (As := [.ref (b + 124)]) (rest := []) ⟨hx, hb, hml, hown, hts⟩ (c_L_next l D cy b n (by omega) M ) (va_cwS 1 hts gL_act_L_next rfl rfl rfl (by decide +kernel) ⟨Nat.le_of_ble_eq_true rfl, Nat.le_of_ble_eq_true rfl⟩) (xPreS hP hK hX hS) rfl rfl hl.1 rfl (lv_room (Nat.le_of_ble_eq_true rfl)) dL_act_14 ⟨Nat.le_of_ble_eq_true rfl, Nat.le_of_ble_eq_true rfl⟩) hS (fun H locs hP hS => ?_)
    obtain ⟨Pa, eq_Pa⟩ : ∃ z, z = mU M 124 0 (nxS (M 124 0)) := ⟨_, rfl⟩
    rw [← eq_Pa] at hP
    have hEa : EQR M Pa := by rw [eq_Pa]; exact eqr_put _ _ _
    have hAa : AST mx Pa c0 := hA.eqr hEa
    obtain ⟨j, hj, ej⟩ := nx_mod (M 124 0) (k := c0) hc0 (by omega)
    have hj6 : j < 6 := by omega
    refine lv_iload_n hx hb dL_act_17 rfl (lv_at hl 0 rfl) ?_
    refine lv_irem hx hb dL_act_18 (nI_ne0 hc0 (by omega)) ?_
    refine W.eq (g2 := F0 m 19 ls (.int (nI j) :: [])) (congrArg (fun z => F0 m 19 ls (.int z :: [])) ej) ?_
    refine lv_istore_n (lv' := [(3, .int (nI j)), (2, .int (nI c0)), (0, .ref (b + 0)), (1, .ref (b + 124))]) hx hb dL_act_19 rfl hl (by decide) rfl (fun ls hl => ?_)
    refine lv_iload_n hx hb dL_act_20 rfl (lv_at hl 1 rfl) ?_
    refine lv_if_le (tgt := 36) hx hb dL_act_21 (by decide) (fun c21 => absurd c21 (by rw [show (0 : Int32) = nI 0 from rfl, nI_leI (by omega) (by omega)]; omega)) (fun c21 => ?_)
    refine lv_aload_n hx hb dL_act_24 rfl (lv_at hl 2 rfl) ?_
    refine lv_iload_n hx hb dL_act_25 rfl (lv_at hl 0 rfl) ?_
    refine xct_i (vx_runV (As := [.int (nI j)]) (rest := []) ⟨hx, hb, hml, hown, hts⟩ (c_X7_isHair l hl0 D cy b n (by omega) Pa (nI j) hAa.cnt) (cwV 1 hts gL_act_X7_isHair rfl rfl rfl (by decide +kernel) ⟨Nat.le_of_ble_eq_true rfl, Nat.le_of_ble_eq_true rfl⟩) (xPreV hP hK hX hS (by omega) (cell7 (by decide)) rfl) rfl rfl hl.1 rfl (lv_room (Nat.le_of_ble_eq_true rfl)) dL_act_26 ⟨Nat.le_of_ble_eq_true rfl, Nat.le_of_ble_eq_true rfl⟩) hS (fun E ce qx H locs hE _ _ _ _ _ => absurd (t0_isHair (t0_at hAa.2.1 hc6 hj)) (exn_ne hE)) (fun H locs _ hP hS => ?_)
    have k37 : ∀ (H : Heap) (locs : List Loc) (ls : Array Slot), va_P D vwCl (wL cy b fT Pa n) H → va_S (fr b) s.heap H locs → lv_has ls 32 [(3, .int (nI j)), (2, .int (nI c0)), (0, .ref (b + 0)), (1, .ref (b + 124))] → W p l e (headSpec wsL_act ({ frames := 9, cells := 9, slots := 54, locals := 158 } : Room)).room s m ([.ref (b + 0), .ref (b + 124)] : List Value).toArray below meth c H locs 1 6 (MQ below (CQe D cy b n 1 (APOST mx M c0)) ([.ref (b + 0), .ref (b + 124)] : List Value).toArray s 9 54 (fr b)) (F0 m 37 ls (.int (fX7_isHair Pa (nI j)) :: [])) := by
      intro H locs ls hP hS hl
      refine lv_istore (lv' := [(4, .int (fX7_isHair Pa (nI j))), (3, .int (nI j)), (2, .int (nI c0)), (0, .ref (b + 0)), (1, .ref (b + 124))]) hx hb dL_act_37 hl (by decide) rfl (fun ls hl => ?_)
      refine lv_iload_n hx hb dL_act_39 rfl (lv_at hl 2 rfl) ?_
      refine lv_if_eq (tgt := 52) hx hb dL_act_40 (by decide) (fun c40 => absurd c40 (nI_ne0 hc0 (by omega))) (fun c40 => ?_)
      refine lv_aload_n hx hb dL_act_43 rfl (lv_at hl 3 rfl) ?_
      refine lv_iload_n hx hb dL_act_44 rfl (lv_at hl 1 rfl) ?_
      refine xct_i (vx_runV (As := [.int (nI j)]) (rest := []) ⟨hx, hb, hml, hown, hts⟩ (c_X7_boxOf l hl0 D cy b n (by omega) Pa (nI j) hAa.cnt) (cwV 1 hts gL_act_X7_boxOf rfl rfl rfl (by decide +kernel) ⟨Nat.le_of_ble_eq_true rfl, Nat.le_of_ble_eq_true rfl⟩) (xPreV hP hK hX hS (by omega) (cell7 (by decide)) rfl) rfl rfl hl.1 rfl (lv_room (Nat.le_of_ble_eq_true rfl)) dL_act_45 ⟨Nat.le_of_ble_eq_true rfl, Nat.le_of_ble_eq_true rfl⟩) hS (fun E ce qx H locs hE _ _ _ _ _ => absurd (t0_boxOf (t0_at hAa.2.1 hc6 hj)) (exn_ne hE)) (fun H locs _ hP hS => ?_)
      refine lv_iconst (v := (-1)) hx hb dL_act_48 (by decide) ?_
      have k57 : ∀ (H : Heap) (locs : List Loc) (ls : Array Slot), va_P D vwCl (wL cy b fT Pa n) H → va_S (fr b) s.heap H locs → lv_has ls 32 [(4, .int (fX7_isHair Pa (nI j))), (3, .int (nI j)), (2, .int (nI c0)), (0, .ref (b + 0)), (1, .ref (b + 124))] → W p l e (headSpec wsL_act ({ frames := 9, cells := 9, slots := 54, locals := 158 } : Room)).room s m ([.ref (b + 0), .ref (b + 124)] : List Value).toArray below meth c H locs 2 12 (MQ below (CQe D cy b n 1 (APOST mx M c0)) ([.ref (b + 0), .ref (b + 124)] : List Value).toArray s 9 54 (fr b)) (F0 m 57 ls (.int (outF Pa (nI j)) :: [])) := by
        intro H locs ls hP hS hl
        refine lv_istore (lv' := [(5, .int (outF Pa (nI j))), (4, .int (fX7_isHair Pa (nI j))), (3, .int (nI j)), (2, .int (nI c0)), (0, .ref (b + 0)), (1, .ref (b + 124))]) hx hb dL_act_57 hl (by decide) rfl (fun ls hl => ?_)
        refine lv_iload_n hx hb dL_act_59 rfl (lv_at hl 3 rfl) ?_
        refine lv_if_ne (tgt := 68) hx hb dL_act_60 (by decide) (fun c60 => ?_) (fun c60 => absurd c60 (nI_ne0 hc0 (by omega)))
        refine lv_bipush (v := (-3)) hx hb dL_act_68 (by decide) ?_
        refine lv_istore (lv' := [(6, .int ((-3) : Int32)), (5, .int (outF Pa (nI j))), (4, .int (fX7_isHair Pa (nI j))), (3, .int (nI j)), (2, .int (nI c0)), (0, .ref (b + 0)), (1, .ref (b + 124))]) hx hb dL_act_70 hl (by decide) rfl (fun ls hl => ?_)
        refine lv_aload_n hx hb dL_act_72 rfl (lv_at hl 6 rfl) ?_
        refine xc_i (va_runS (As := [.ref (b + 124)]) (rest := []) ⟨hx, hb, hml, hown, hts⟩ (c_L_next l D cy b n (by omega) Pa ) (va_cwS 1 hts gL_act_L_next rfl rfl rfl (by decide +kernel) ⟨Nat.le_of_ble_eq_true rfl, Nat.le_of_ble_eq_true rfl⟩) (xPreS hP hK hX hS) rfl rfl hl.1 rfl (lv_room (Nat.le_of_ble_eq_true rfl)) dL_act_73 ⟨Nat.le_of_ble_eq_true rfl, Nat.le_of_ble_eq_true rfl⟩) hS (fun H locs hP hS => ?_)
        obtain ⟨P, eq_P⟩ : ∃ z, z = mU Pa 124 0 (nxS (Pa 124 0)) := ⟨_, rfl⟩
        rw [← eq_P] at hP
        have hEP : EQR Pa P := by rw [eq_P]; exact eqr_put _ _ _
        have hAP : AST mx P c0 := hAa.eqr hEP
        obtain ⟨qs, hqs, eqs⟩ := nx_mod (Pa 124 0) (k := 11) (by decide) (by decide)
        refine lv_bipush (v := 11) hx hb dL_act_76 (by decide) ?_
        refine lv_irem hx hb dL_act_78 (by decide) ?_
        refine W.eq (g2 := F0 m 79 ls (.int (nI qs) :: [])) (congrArg (fun z => F0 m 79 ls (.int z :: [])) eqs) ?_
        rw [← hr_eqr hEP hj6, ← outF_eqr hEP hj6] at hl
        rcases (by omega : qs = 0 ∨ qs = 1 ∨ qs = 2 ∨ qs = 3 ∨ qs = 4 ∨ qs = 5 ∨ qs = 6 ∨ qs = 7 ∨ qs = 8 ∨ qs = 9 ∨ qs = 10) with rfl | rfl | rfl | rfl | rfl | rfl | rfl | rfl | rfl | rfl | rfl
        · refine lv_tableIn (x := nI 0) (off := 53) (tgt := 132) hx hb dL_act_79 (by decide) (by decide) (by decide) (by decide) ?_
          exact act_advN l hl0 D cy b n hn hx hb hr hlocks hml hown hts hK hX P j hj _ _ H locs ls hAP (fun M1 h => (h.eqr hc6 hEP).eqr hc6 hEa) (Nat.le_of_ble_eq_true rfl) (Nat.le_of_ble_eq_true rfl) hP hS (lv_sub hl [5, 6, 4, 3, 2, 1, 0] rfl)
        · refine lv_tableIn (x := nI 1) (off := 53) (tgt := 132) hx hb dL_act_79 (by decide) (by decide) (by decide) (by decide) ?_
          exact act_advN l hl0 D cy b n hn hx hb hr hlocks hml hown hts hK hX P j hj _ _ H locs ls hAP (fun M1 h => (h.eqr hc6 hEP).eqr hc6 hEa) (Nat.le_of_ble_eq_true rfl) (Nat.le_of_ble_eq_true rfl) hP hS (lv_sub hl [5, 6, 4, 3, 2, 1, 0] rfl)
        · refine lv_tableIn (x := nI 2) (off := 53) (tgt := 132) hx hb dL_act_79 (by decide) (by decide) (by decide) (by decide) ?_
          exact act_advN l hl0 D cy b n hn hx hb hr hlocks hml hown hts hK hX P j hj _ _ H locs ls hAP (fun M1 h => (h.eqr hc6 hEP).eqr hc6 hEa) (Nat.le_of_ble_eq_true rfl) (Nat.le_of_ble_eq_true rfl) hP hS (lv_sub hl [5, 6, 4, 3, 2, 1, 0] rfl)
        · refine lv_tableIn (x := nI 3) (off := 123) (tgt := 202) hx hb dL_act_79 (by decide) (by decide) (by decide) (by decide) ?_
          exact act_hum l hl0 D cy b n hn hx hb hr hlocks hml hown hts hK hX P  _ _ H locs ls hAP (fun M1 h => (h.eqr hc6 hEP).eqr hc6 hEa) (Nat.le_of_ble_eq_true rfl) (Nat.le_of_ble_eq_true rfl) hP hS (lv_sub hl [5, 6] rfl)
        · refine lv_tableIn (x := nI 4) (off := 164) (tgt := 243) hx hb dL_act_79 (by decide) (by decide) (by decide) (by decide) ?_
          exact act_boxN l hl0 D cy b n hn hx hb hr hlocks hml hown hts hK hX P j hj _ _ H locs ls hAP (fun M1 h => (h.eqr hc6 hEP).eqr hc6 hEa) (Nat.le_of_ble_eq_true rfl) (Nat.le_of_ble_eq_true rfl) hP hS (lv_sub hl [5, 6, 4, 3, 2, 1, 0] rfl)
        · refine lv_tableIn (x := nI 5) (off := 240) (tgt := 319) hx hb dL_act_79 (by decide) (by decide) (by decide) (by decide) ?_
          exact act_outN l hl0 D cy b n hn hx hb hr hlocks hml hown hts hK hX P j hj _ _ H locs ls hAP (fun M1 h => (h.eqr hc6 hEP).eqr hc6 hEa) (Nat.le_of_ble_eq_true rfl) (Nat.le_of_ble_eq_true rfl) hP hS (lv_sub hl [5, 6, 4, 3, 2, 1, 0] rfl)
        · refine lv_tableIn (x := nI 6) (off := 312) (tgt := 391) hx hb dL_act_79 (by decide) (by decide) (by decide) (by decide) ?_
          exact act_calN l hl0 D cy b n hn hx hb hr hlocks hml hown hts hK hX P j hj _ _ H locs ls hAP (fun M1 h => (h.eqr hc6 hEP).eqr hc6 hEa) (Nat.le_of_ble_eq_true rfl) (Nat.le_of_ble_eq_true rfl) hP hS (lv_sub hl [5, 6, 4, 3, 2, 1, 0] rfl)
        · refine lv_tableIn (x := nI 7) (off := 409) (tgt := 488) hx hb dL_act_79 (by decide) (by decide) (by decide) (by decide) ?_
          exact act_tigN l hl0 D cy b n hn hx hb hr hlocks hml hown hts hK hX P j hj _ _ H locs ls hAP (fun M1 h => (h.eqr hc6 hEP).eqr hc6 hEa) (Nat.le_of_ble_eq_true rfl) (Nat.le_of_ble_eq_true rfl) hP hS (lv_sub hl [5, 6, 4, 3, 2, 1, 0] rfl)
        · refine lv_tableIn (x := nI 8) (off := 544) (tgt := 623) hx hb dL_act_79 (by decide) (by decide) (by decide) (by decide) ?_
          exact act_moiN l hl0 D cy b n hn hx hb hr hlocks hml hown hts hK hX P j hj _ _ H locs ls hAP (fun M1 h => (h.eqr hc6 hEP).eqr hc6 hEa) (Nat.le_of_ble_eq_true rfl) (Nat.le_of_ble_eq_true rfl) hP hS (lv_sub hl [5, 6, 4, 3, 2, 1, 0] rfl)
        · refine lv_tableIn (x := nI 9) (off := 621) (tgt := 700) hx hb dL_act_79 (by decide) (by decide) (by decide) (by decide) ?_
          exact act_addN l hl0 D cy b n hn hx hb hr hlocks hml hown hts hK hX P j hj _ _ H locs ls hAP (fun M1 h => (h.eqr hc6 hEP).eqr hc6 hEa) (Nat.le_of_ble_eq_true rfl) (Nat.le_of_ble_eq_true rfl) hP hS (lv_sub hl [5, 6, 4, 3, 2, 1, 0] rfl)
        · refine lv_tableOut (x := nI 10) (tgt := 826) hx hb dL_act_79 (by decide) (by decide) ?_
          exact act_tmp l hl0 D cy b n hn hx hb hr hlocks hml hown hts hK hX P  _ _ H locs ls hAP (fun M1 h => (h.eqr hc6 hEP).eqr hc6 hEa) (Nat.le_of_ble_eq_true rfl) (Nat.le_of_ble_eq_true rfl) hP hS (lv_sub hl [5, 6] rfl)
      refine lv_icmp_ne (tgt := 56) hx hb dL_act_49 (by decide) (fun c49 => ?_) (fun c49 => ?_)
      · refine lv_iconst (v := 0) hx hb dL_act_56 (by decide) ?_
        refine W.eq (g2 := F0 m 57 ls (.int (outF Pa (nI j)) :: [])) (congrArg (fun z => F0 m 57 ls (.int z :: [])) (outF_0 c49).symm) ?_
        refine W.widen (k := 2) (n := 12) (Nat.le_of_ble_eq_true rfl) (Nat.le_of_ble_eq_true rfl) ?_
        exact k57 H locs ls hP hS (lv_sub hl [0, 1, 2, 3, 4] rfl)
      · refine lv_iconst (v := 1) hx hb dL_act_52 (by decide) ?_
        refine lv_goto (tgt := 57) hx hb dL_act_53 (by decide) ?_
        refine W.eq (g2 := F0 m 57 ls (.int (outF Pa (nI j)) :: [])) (congrArg (fun z => F0 m 57 ls (.int z :: [])) (outF_1 c49).symm) ?_
        refine W.widen (k := 2) (n := 12) (Nat.le_of_ble_eq_true rfl) (Nat.le_of_ble_eq_true rfl) ?_
        exact k57 H locs ls hP hS (lv_sub hl [0, 1, 2, 3, 4] rfl)
    refine lv_if_eq (tgt := 36) hx hb dL_act_29 (by decide) (fun c29 => ?_) (fun c29 => ?_)
    · refine lv_iconst (v := 0) hx hb dL_act_36 (by decide) ?_
      refine W.eq (g2 := F0 m 37 ls (.int (fX7_isHair Pa (nI j)) :: [])) (congrArg (fun z => F0 m 37 ls (.int z :: [])) c29.symm) ?_
      refine W.widen (k := 1) (n := 6) (Nat.le_of_ble_eq_true rfl) (Nat.le_of_ble_eq_true rfl) ?_
      exact k37 H locs ls hP hS (lv_sub hl [0, 1, 2, 3] rfl)
    · refine lv_iconst (v := 1) hx hb dL_act_32 (by decide) ?_
      refine lv_goto (tgt := 37) hx hb dL_act_33 (by decide) ?_
      refine W.eq (g2 := F0 m 37 ls (.int (fX7_isHair Pa (nI j)) :: [])) (congrArg (fun z => F0 m 37 ls (.int z :: [])) (hr_1 c29)) ?_
      refine W.widen (k := 1) (n := 6) (Nat.le_of_ble_eq_true rfl) (Nat.le_of_ble_eq_true rfl) ?_
      exact k37 H locs ls hP hS (lv_sub hl [0, 1, 2, 3] rfl)
