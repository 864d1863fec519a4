set_option maxHeartbeats 4000000 in
set_option maxRecDepth 100000 in
/-- Instrument(): outside of every box -/
theorem c_X1_init (l : Launch) (D : va_G) (cy : Nat → ClassId) (b n : Nat) (F : Fla) (M : Mem) (o : Nat) (ho : o < n) (h_o : kd o = 1) : Met l yX1_init wsX1_init ({ frames := 1, cells := 0, slots := 0, locals := 12 } : Room) (CPz D cy b n F M [.ref (b + o)]) (CQv D cy b n F (mU M o 8 (-1))) 0 0 (fr b) := by
  refine Met.ofW (cc := cX1_init) (maxL := 1) (ret := none) (by decide) rfl ?_
  intro p e s m args below meth c s₁ B hml hv
  obtain ⟨rfl, hP, hK, hX, hO, hz⟩ := hv
  have hx := B.exec
  have hb := B.bytes
  have hr := B.returns
  have hts := atoms_spec (ws := wsX1_init) B.pre
  have hown : s.vm.findClass RX1 = some m.cls := findClass_of_methodNamed B.named
  have hlocks := B.notSynchronized
  have hin2 : meth.name = "<init>" := (name_of_methodNamed B.named B.method).1
  have hs0 := hz
  have lk0 := hts (.fieldLink RX1 9 "HygrometerRoom$Instrument" "box" "I") (by decide +kernel)
  have inc1 : ∀ w ∈ u_ws RX1 TX1 9, w ∈ wsX1_init := by decide +kernel
  have hS : va_S (fr b) s.heap s.heap [] := va_S.rf
  have hl := lv_entry ([.ref (b + o)]) (n := 1) (Nat.le_of_ble_eq_true rfl)
  rw [lg_entry_eq]
  generalize (lg_sl ([.ref (b + o)]) ++ List.replicate (1 - (lg_sl ([.ref (b + o)])).length) Slot.unset).toArray = ls at hl ⊢
  have hl : lv_has ls 1 [(0, .ref (b + o))] := hl
  refine lv_aload_n hx hb dX1_init_0 rfl (lv_at hl 0 rfl) ?_
  refine W.objInit hx hb hown (hts (.methodLink RX1 3 objectInit) (by decide +kernel)) (hts (.instanceMethod objectInit) (by decide +kernel)) (hts (.code objectInit ⟨#[0xb1]⟩ 1 none) (by decide +kernel)) rfl (by rw [hml]; exact hl.1) rfl dX1_init_1 (Nat.le_of_ble_eq_true rfl) (Nat.le_of_ble_eq_true rfl) ?_
  show W _ _ _ _ _ _ _ _ _ _ _ _ _ _ _ (F0 m 4 ls [])
  refine lv_aload_n hx hb dX1_init_4 rfl (lv_at hl 0 rfl) ?_
  refine lv_iconst (v := (-1)) hx hb dX1_init_5 (by decide) ?_
  refine xp (C := RX1) (T := TX1) (N := 9) (ci := 1) (ty := .int) (x := (-1 : Int32)) (o := o) hx hb hts inc1 tyX1 tyX1_ok nmX1 hown hK hP hS ho (fun _ => cell1 h_o) rfl 8 (by decide) rfl lk0 (fun _ h => h) rfl (tyX1_ok 8 (by decide)) rfl rfl (Nat.le_of_ble_eq_true rfl) dX1_init_6 (fun H locs hP hS => ?_)
  exact xev hx hb hr hlocks hP hS rfl rfl (Nat.le_refl _) dX1_init_9
/-- the instruments of the room at r, made one by one -/
def gI (M : Mem) (r : Nat) : Nat → Mem
  | 0 => M
  | i + 1 => mU (gI M r i) (r + 1 + 1 + i) 8 (-1)
def gX4_init (M : Mem) (r : Nat) : Mem := gI M r 6
theorem up_g {g : Nat → Nat} {L i : Nat} : va_up (fun j => cond (decide (j < i) || decide (L ≤ j)) (some (g j)) none) i (some (g i)) = fun j => cond (decide (j < i + 1) || decide (L ≤ j)) (some (g j)) none := by
  funext j
  unfold va_up
  by_cases e : j = i
  · rw [if_pos e, e]
    simp
  · rw [if_neg e]
    show cond (decide (j < i) || decide (L ≤ j)) (some (g j)) none = cond (decide (j < i + 1) || decide (L ≤ j)) (some (g j)) none
    rw [show decide (j < i + 1) = decide (j < i) by simp; omega]
theorem gI_ne {M : Mem} {r p : Nat} : ∀ i, (p < r + 1 + 1 ∨ r + 1 + 1 + i ≤ p) → gI M r i p = M p := by
  intro i
  induction i with
  | zero => intro _; rfl
  | succ i ih =>
    intro h
    show mU (gI M r i) (r + 1 + 1 + i) 8 (-1) p = M p
    rw [mU_ne _ _ _ (by omega), ih (by omega)]
theorem gX4_init_ne {M : Mem} {r p : Nat} (h : p < r + 1 + 1 ∨ r + 8 ≤ p) : gX4_init M r p = M p := gI_ne 6 (by omega)
set_option maxHeartbeats 4000000 in
set_option maxRecDepth 100000 in
/-- Room(): six instruments -/
theorem c_X4_init (l : Launch) (D : va_G) (cy : Nat → ClassId) (b : Nat) (F : Fla) (M : Mem) (r : Nat) (h_r : kd r = 4) (hF : ∀ p, r ≤ p → F p = fun _ => true) (hZ : ∀ p, r ≤ p → M p = fun _ => 0) : Met l yX4_init wsX4_init ({ frames := 2, cells := 7, slots := 60, locals := 32 } : Room) (CPz D cy b (r + 1) (fP F r) M [.ref (b + r)]) (CQv D cy b (r + 8) F (gX4_init M r)) 7 60 (fr b) := by
  refine Met.ofW (cc := cX4_init) (maxL := 2) (ret := none) (by decide) rfl ?_
  intro p e s m args below meth c s₁ B hml hv
  obtain ⟨rfl, hP, hK, hX, hO, hz⟩ := hv
  have hx := B.exec
  have hb := B.bytes
  have hr := B.returns
  have hts := atoms_spec (ws := wsX4_init) B.pre
  have hown : s.vm.findClass RX4 = some m.cls := findClass_of_methodNamed B.named
  have hlocks := B.notSynchronized
  have hin2 : meth.name = "<init>" := (name_of_methodNamed B.named B.method).1
  have hs0 := hz
  have lk0 := hts (.fieldLink RX4 11 "HygrometerRoom$Room" "instruments" "[LHygrometerRoom$Instrument;") (by decide +kernel)
  have inc1 : ∀ w ∈ u_ws RX1 TX1 9, w ∈ wsX4_init := by decide +kernel
  have inc4 : ∀ w ∈ u_ws RX4 TX4 8, w ∈ wsX4_init := by decide +kernel
  have hS : va_S (fr b) s.heap s.heap [] := va_S.rf
  have hl := lv_entry ([.ref (b + r)]) (n := 2) (Nat.le_of_ble_eq_true rfl)
  rw [lg_entry_eq]
  generalize (lg_sl ([.ref (b + r)]) ++ List.replicate (2 - (lg_sl ([.ref (b + r)])).length) Slot.unset).toArray = ls at hl ⊢
  have hl : lv_has ls 2 [(0, .ref (b + r))] := hl
  refine lv_aload_n hx hb dX4_init_0 rfl (lv_at hl 0 rfl) ?_
  refine W.objInit hx hb hown (hts (.methodLink RX4 3 objectInit) (by decide +kernel)) (hts (.instanceMethod objectInit) (by decide +kernel)) (hts (.code objectInit ⟨#[0xb1]⟩ 1 none) (by decide +kernel)) rfl (by rw [hml]; exact hl.1) rfl dX4_init_1 (Nat.le_of_ble_eq_true rfl) (Nat.le_of_ble_eq_true rfl) ?_
  show W _ _ _ _ _ _ _ _ _ _ _ _ _ _ _ (F0 m 4 ls [])
  refine lv_aload_n hx hb dX4_init_4 rfl (lv_at hl 0 rfl) ?_
  refine lv_bipush (v := 6) hx hb dX4_init_5 (by decide) ?_
  refine xnq (n := r + 1) (t0 := 3) (N := 6) (f := fun j => cond (decide (j < 0) || decide (6 ≤ j)) (some (b + (r + 1 + 1 + j))) none) hx hb hown (hts (.classLink RX4 9 RX1) (by decide +kernel)) hO.1 hK hP hS hz rfl (fun j hj => by rw [show (decide (j < 0) || decide (6 ≤ j)) = false by simp; omega]; rfl) (by rw [cell13 (kd_arr h_r), fA_at]) (by decide) rfl (Nat.le_of_ble_eq_true rfl) (Nat.le_of_ble_eq_true rfl) (Nat.le_of_ble_eq_true rfl) dX4_init_7 (fun H hP hS hz => ?_)
  refine xpF (C := RX4) (T := TX4) (N := 8) (ci := 4) (v := .ref (b + (r + 1))) (o := r) hx hb hts inc4 tyX4 tyX4_ok nmX4 hown hK hP hS (by omega) (fun _ => cell4 h_r) rfl 0 (by decide) rfl lk0 (fun _ h => h) rfl hin2 rfl (tyX4_ok 0 (by decide)) rfl rfl (Nat.le_of_ble_eq_true rfl) dX4_init_10 (fun H locs hP hS => ?_)
  have hw : wL cy b (fU (fA (fP F r) (r + 1) 6 0) r 0) M (r + 1 + 1) = wL cy b (fA F (r + 1) 6 0) M (r + 1 + 1) := wL_cell (fun q hq => by
    by_cases e1 : q = r
    · subst e1
      rw [cell4 h_r, cell4 h_r, fU_at, fA_ne _ (by omega), hF q (Nat.le_refl _)]
      rfl
    · rw [fU_ne _ _ e1]
      by_cases e2 : q = r + 1
      · rw [e2, fA_at, fA_at]
      · rw [fA_ne _ e2, fA_ne _ e2, fP_ne _ e1])
  rw [hw] at hP
  refine lv_iconst (v := 0) hx hb dX4_init_13 (by decide) ?_
  refine lv_istore_n (lv' := [(1, .int 0), (0, .ref (b + r))]) hx hb dX4_init_14 rfl hl (by decide) rfl (fun ls hl => ?_)
  have loop : ∀ (k i : Nat), i + k = 6 → ∀ (H : Heap) (locs : List Loc) (ls : Array Slot), va_P D vwCl (wL cy b (fA F (r + 1) 6 i) (gI M r i) (r + 1 + 1 + i)) H → va_S (fr b) s.heap H locs → H.size = b + (r + 1 + 1 + i) → lv_has ls 2 [(1, .int (nI i)), (0, .ref (b + r))] → W p l e ((headSpec wsX4_init ({ frames := 2, cells := 7, slots := 60, locals := 32 } : Room)).room) s m [Value.ref (b + r)].toArray below meth c H locs (1 + i) (6 + 9 * i) (MQ below (CQv D cy b (r + 8) F (gX4_init M r)) [Value.ref (b + r)].toArray s 7 60 (fr b)) (F0 m 15 ls []) := by
    intro k
    induction k with
    | zero =>
      intro i hi H locs ls hP hS hz hl
      have hi6 : i = 6 := by omega
      subst hi6
      have hc4 : cellR cy b r (fA F (r + 1) 6 6 r) (gI M r 6 r) = .inr (4, [.ref (b + (r + 1)), .int (gI M r 6 r 1), .int (gI M r 6 r 2), .int (gI M r 6 r 3), .int (gI M r 6 r 4), .int (gI M r 6 r 5), .int (gI M r 6 r 6), .int (gI M r 6 r 7)]) := by rw [cell4 h_r, fA_ne _ (by omega), hF r (Nat.le_refl _)]; rfl
      refine lv_iload_n hx hb dX4_init_15 rfl (lv_at hl 0 rfl) ?_
      refine lv_aload_n hx hb dX4_init_16 rfl (lv_at hl 1 rfl) ?_
      refine xg (C := RX4) (T := TX4) (N := 8) (v := .ref (b + (r + 1))) hx hb hts inc4 hown hK hP (by omega) hc4 rfl 0 (by decide) lk0 (fun _ h => h) rfl dX4_init_17 ?_
      refine xlen (v := 6) hx hb hK hP (o := r + 1) (by omega) 3 (cell13 (kd_arr h_r)) rfl rfl dX4_init_20 ?_
      refine lv_icmp_ge (tgt := 43) hx hb dX4_init_21 (by decide) (fun c21 => ?_) (fun c21 => absurd (by decide) c21)
      have hwe : wL cy b (fA F (r + 1) 6 6) (gI M r 6) (r + 1 + 1 + 6) = wL cy b F (gX4_init M r) (r + 8) := wL_congr (fun q hq => by
        by_cases e2 : q = r + 1
        · rw [e2, fA_at, hF _ (by omega)]
          funext j
          rcases Nat.lt_or_ge j 6 with h | h <;> simp [h]
        · rw [fA_ne _ e2]) (fun q hq => rfl)
      exact xev hx hb hr hlocks hP hS hwe rfl (Nat.le_refl _) dX4_init_43
    | succ k ih =>
      intro i hi H locs ls hP hS hz hl
      have hc4 : cellR cy b r (fA F (r + 1) 6 i r) (gI M r i r) = .inr (4, [.ref (b + (r + 1)), .int (gI M r i r 1), .int (gI M r i r 2), .int (gI M r i r 3), .int (gI M r i r 4), .int (gI M r i r 5), .int (gI M r i r 6), .int (gI M r i r 7)]) := by rw [cell4 h_r, fA_ne _ (by omega), hF r (Nat.le_refl _)]; rfl
      refine lv_iload_n hx hb dX4_init_15 rfl (lv_at hl 0 rfl) ?_
      refine lv_aload_n hx hb dX4_init_16 rfl (lv_at hl 1 rfl) ?_
      refine xg (C := RX4) (T := TX4) (N := 8) (v := .ref (b + (r + 1))) hx hb hts inc4 hown hK hP (by omega) hc4 rfl 0 (by decide) lk0 (fun _ h => h) rfl dX4_init_17 ?_
      refine xlen (v := 6) hx hb hK hP (o := r + 1) (by omega) 3 (cell13 (kd_arr h_r)) rfl rfl dX4_init_20 ?_
      refine lv_icmp_ge (tgt := 43) hx hb dX4_init_21 (by decide) (fun c21 => absurd c21 (by rw [show (6 : Int32) = nI 6 from rfl, nI_leI (by omega) (by omega)]; omega)) (fun c21 => ?_)
      refine lv_aload_n hx hb dX4_init_24 rfl (lv_at hl 1 rfl) ?_
      refine xg (C := RX4) (T := TX4) (N := 8) (v := .ref (b + (r + 1))) hx hb hts inc4 hown hK hP (by omega) hc4 rfl 0 (by decide) lk0 (fun _ h => h) rfl dX4_init_25 ?_
      refine lv_iload_n hx hb dX4_init_28 rfl (lv_at hl 0 rfl) ?_
      have hz0 : gI M r i (r + 1 + 1 + i) = fun _ => 0 := by rw [gI_ne i (by omega)]; exact hZ _ (by omega)
      refine xnewo (n := r + 1 + 1 + i) (C := RX1) (T := TX1) (N := 9) (ci := 1) (fs := [.int 0, .int 0, .int 0, .int 0, .int 0, .int 0, .int 0, .int 0, .int 0]) hx hb hts inc1 tyX1 tyX1_ok hown (hts (.classLink RX4 9 RX1) (by decide +kernel)) (hts (.instantiable RX1 9) (by decide +kernel)) (hts (.initialized RX1) (by decide +kernel)) hK hP hS hz rfl (fun j hj => by rcases (show j = 0 ∨ j = 1 ∨ j = 2 ∨ j = 3 ∨ j = 4 ∨ j = 5 ∨ j = 6 ∨ j = 7 ∨ j = 8 by omega) with rfl | rfl | rfl | rfl | rfl | rfl | rfl | rfl | rfl <;> rfl) (by rw [cell1 (kd_ins h_r (by omega)), hz0]; rfl) (by show 1 + i + 1 ≤ 7; omega) (by show 6 + 9 * i + 9 ≤ 60; omega) dX4_init_29 (fun H hP hS hz => ?_)
      rw [wL_cell (F' := fA F (r + 1) 6 i) (M' := gI M r i) (fun q hq => by
        by_cases e1 : q = r + 1 + 1 + i
        · rw [e1, cell1 (kd_ins h_r (by omega)), cell1 (kd_ins h_r (by omega))]
        · rw [fP_ne _ e1])] at hP
      refine lv_dup hx hb dX4_init_32 rfl ?_
      refine xcz (va_runIN (As := []) (rest := [.ref (b + (r + 1 + 1 + i)), .int (nI i), .ref (b + (r + 1))]) ⟨hx, hb, hml, hown, hts⟩ (c_X1_init l D cy b (r + 1 + 1 + i + 1) (fA F (r + 1) 6 i) (gI M r i) (r + 1 + 1 + i) (by omega) (kd_ins h_r (by omega))) ⟨va_cnB 0 hts gX4_init_X1_init_n17 rfl rfl rfl (hX.2.2.2.2.2.1 (RX4, 17, yX1_init) (by decide +kernel)) (hts (.initialized RX1) (by decide +kernel)) (by decide +kernel) ⟨Nat.le_of_ble_eq_true rfl, Nat.le_of_ble_eq_true rfl⟩, rfl, hts (.instanceMethod yX1_init) (by decide +kernel)⟩ (xPreZ hP hK hX hO hS hz) rfl rfl hl.1 rfl (lv_room (Nat.le_of_ble_eq_true rfl)) dX4_init_33 ⟨by show 1 + i + 1 + 0 ≤ 7; omega, by show 6 + 9 * i + 9 + 0 ≤ 60; omega⟩) hS hs0 (by omega) (by omega) (fun H locs hP hS hz => ?_)
      refine xaq (k := i) (o := r + 1) (t0 := 3) (N := 6) (C := (RX1, TX1, 9)) (ci := 1) (qk := r + 1 + 1 + i) (f := fun j => cond (decide (j < i) || decide (6 ≤ j)) (some (b + (r + 1 + 1 + j))) none) (F' := fA F (r + 1) 6 (i + 1)) hx hb hK hP hS (by omega) (by rw [cell13 (kd_arr h_r), fA_at]) (by
        rw [cell13 (kd_arr h_r), fA_at]
        exact congrArg (fun z => (.inl (cy 3, 6, .inr (.inr (.inr (.inr z)))) : va_E)) (up_g (g := fun j => b + (r + 1 + 1 + j))).symm) (fun q hq => by rw [fA_ne _ hq, fA_ne _ hq]) rfl (by omega) (cell1 (kd_ins h_r (by omega))) rfl (by omega) (by decide) dX4_init_36 (fun H locs hP hS => ?_)
      refine lv_iinc (v := nI (i + 1)) (lv' := [(1, .int (nI (i + 1))), (0, .ref (b + r))]) hx hb dX4_init_37 hl (k := 0) rfl (nI_1 i) (by decide) rfl (fun ls hl => ?_)
      refine lv_goto (tgt := 15) hx hb dX4_init_40 (by decide) ?_
      refine W.widen (k := 1 + (i + 1)) (n := 6 + 9 * (i + 1)) (by omega) (by omega) ?_
      exact xsz hP hs0 (by omega) (by omega) (fun hz => ih (i + 1) (by omega) H locs ls hP hS hz hl)
  exact xsz hP hs0 rfl (by omega) (fun hz => loop 6 0 rfl H locs ls hP hS hz hl)
set_option maxHeartbeats 4000000 in
set_option maxRecDepth 100000 in
/-- Tokens() -/
theorem c_X6_init (l : Launch) (D : va_G) (cy : Nat → ClassId) (b : Nat) (F : Fla) (M : Mem) (hF : ∀ p, 10 ≤ p → F p = fun _ => true) (hZ : ∀ p, 10 ≤ p → M p = fun _ => 0) : Met l yX6_init wsX6_init ({ frames := 1, cells := 1, slots := 600, locals := 12 } : Room) (CPz D cy b 11 (fP F 10) M [.ref (b + 10)]) (CQv D cy b 12 F M) 1 600 (fr b) := by
  refine Met.ofW (cc := cX6_init) (maxL := 1) (ret := none) (by decide) rfl ?_
  intro p e s m args below meth c s₁ B hml hv
  obtain ⟨rfl, hP, hK, hX, hO, hz⟩ := hv
  have hx := B.exec
  have hb := B.bytes
  have hr := B.returns
  have hts := atoms_spec (ws := wsX6_init) B.pre
  have hown : s.vm.findClass RX6 = some m.cls := findClass_of_methodNamed B.named
  have hlocks := B.notSynchronized
  have hin2 : meth.name = "<init>" := (name_of_methodNamed B.named B.method).1
  have hs0 := hz
  have lk0 := hts (.fieldLink RX6 9 "HygrometerRoom$Tokens" "bytes" "[B") (by decide +kernel)
  have inc6 : ∀ w ∈ u_ws RX6 TX6 6, w ∈ wsX6_init := by decide +kernel
  have hS : va_S (fr b) s.heap s.heap [] := va_S.rf
  have hl := lv_entry ([.ref (b + 10)]) (n := 1) (Nat.le_of_ble_eq_true rfl)
  rw [lg_entry_eq]
  generalize (lg_sl ([.ref (b + 10)]) ++ List.replicate (1 - (lg_sl ([.ref (b + 10)])).length) Slot.unset).toArray = ls at hl ⊢
  have hl : lv_has ls 1 [(0, .ref (b + 10))] := hl
  refine lv_aload_n hx hb dX6_init_0 rfl (lv_at hl 0 rfl) ?_
  refine W.objInit hx hb hown (hts (.methodLink RX6 3 objectInit) (by decide +kernel)) (hts (.instanceMethod objectInit) (by decide +kernel)) (hts (.code objectInit ⟨#[0xb1]⟩ 1 none) (by decide +kernel)) rfl (by rw [hml]; exact hl.1) rfl dX6_init_1 (Nat.le_of_ble_eq_true rfl) (Nat.le_of_ble_eq_true rfl) ?_
  show W _ _ _ _ _ _ _ _ _ _ _ _ _ _ _ (F0 m 4 ls [])
  refine lv_aload_n hx hb dX6_init_4 rfl (lv_at hl 0 rfl) ?_
  refine lv_sipush (v := 600) hx hb dX6_init_5 (by decide) ?_
  refine xna (n := 11) (t0 := 0) (N := 600) (ty := .byte) (atype := .byte) (a0 := (600, .inl (fun _ => 0))) hx hb rfl (hts (.arrayClass .byte) (by decide +kernel)) hK hP hS hz rfl (fun C h => by cases h) (fun cA => rfl) (by rw [cell10 (by decide), hZ _ (by decide)]; rfl) (by decide) rfl (Nat.le_of_ble_eq_true rfl) (Nat.le_of_ble_eq_true rfl) (Nat.le_of_ble_eq_true rfl) dX6_init_8 (fun H hP hS hz => ?_)
  refine xpF (C := RX6) (T := TX6) (N := 6) (ci := 6) (v := .ref (b + 11)) (o := 10) hx hb hts inc6 tyX6 tyX6_ok nmX6 hown hK hP hS (by omega) (fun _ => cell6 (by decide)) rfl 0 (by decide) rfl lk0 (fun _ h => h) rfl hin2 rfl (tyX6_ok 0 (by decide)) rfl rfl (Nat.le_of_ble_eq_true rfl) dX6_init_10 (fun H locs hP hS => ?_)
  have hw : wL cy b (fU (fP F 10) 10 0) (M) 12 = wL cy b F (M) 12 := wL_cell (fun q hq => by
    by_cases e1 : q = 10
    · subst e1
      rw [cell6 (by decide), cell6 (by decide), hF 10 (Nat.le_refl _)]
      rfl
    · rw [fU_ne _ _ e1]; rw [fP_ne _ e1])
  exact xev hx hb hr hlocks hP hS hw rfl (Nat.le_refl _) dX6_init_13
set_option maxHeartbeats 4000000 in
set_option maxRecDepth 100000 in
/-- Output() -/
theorem c_X2_init (l : Launch) (D : va_G) (cy : Nat → ClassId) (b : Nat) (F : Fla) (M : Mem) (hF : ∀ p, 121 ≤ p → F p = fun _ => true) (hZ : ∀ p, 121 ≤ p → M p = fun _ => 0) : Met l yX2_init wsX2_init ({ frames := 1, cells := 1, slots := 24, locals := 12 } : Room) (CPz D cy b 122 (fP F 121) M [.ref (b + 121)]) (CQv D cy b 123 F M) 1 24 (fr b) := by
  refine Met.ofW (cc := cX2_init) (maxL := 1) (ret := none) (by decide) rfl ?_
  intro p e s m args below meth c s₁ B hml hv
  obtain ⟨rfl, hP, hK, hX, hO, hz⟩ := hv
  have hx := B.exec
  have hb := B.bytes
  have hr := B.returns
  have hts := atoms_spec (ws := wsX2_init) B.pre
  have hown : s.vm.findClass RX2 = some m.cls := findClass_of_methodNamed B.named
  have hlocks := B.notSynchronized
  have hin2 : meth.name = "<init>" := (name_of_methodNamed B.named B.method).1
  have hs0 := hz
  have lk0 := hts (.fieldLink RX2 9 "HygrometerRoom$Output" "bytes" "[B") (by decide +kernel)
  have inc2 : ∀ w ∈ u_ws RX2 TX2 2, w ∈ wsX2_init := by decide +kernel
  have hS : va_S (fr b) s.heap s.heap [] := va_S.rf
  have hl := lv_entry ([.ref (b + 121)]) (n := 1) (Nat.le_of_ble_eq_true rfl)
  rw [lg_entry_eq]
  generalize (lg_sl ([.ref (b + 121)]) ++ List.replicate (1 - (lg_sl ([.ref (b + 121)])).length) Slot.unset).toArray = ls at hl ⊢
  have hl : lv_has ls 1 [(0, .ref (b + 121))] := hl
  refine lv_aload_n hx hb dX2_init_0 rfl (lv_at hl 0 rfl) ?_
  refine W.objInit hx hb hown (hts (.methodLink RX2 3 objectInit) (by decide +kernel)) (hts (.instanceMethod objectInit) (by decide +kernel)) (hts (.code objectInit ⟨#[0xb1]⟩ 1 none) (by decide +kernel)) rfl (by rw [hml]; exact hl.1) rfl dX2_init_1 (Nat.le_of_ble_eq_true rfl) (Nat.le_of_ble_eq_true rfl) ?_
  show W _ _ _ _ _ _ _ _ _ _ _ _ _ _ _ (F0 m 4 ls [])
  refine lv_aload_n hx hb dX2_init_4 rfl (lv_at hl 0 rfl) ?_
  refine lv_bipush (v := 24) hx hb dX2_init_5 (by decide) ?_
  refine xna (n := 122) (t0 := 0) (N := 24) (ty := .byte) (atype := .byte) (a0 := (24, .inl (fun _ => 0))) hx hb rfl (hts (.arrayClass .byte) (by decide +kernel)) hK hP hS hz rfl (fun C h => by cases h) (fun cA => rfl) (by rw [cell10 (by decide), hZ _ (by decide)]; rfl) (by decide) rfl (Nat.le_of_ble_eq_true rfl) (Nat.le_of_ble_eq_true rfl) (Nat.le_of_ble_eq_true rfl) dX2_init_7 (fun H hP hS hz => ?_)
  refine xpF (C := RX2) (T := TX2) (N := 2) (ci := 2) (v := .ref (b + 122)) (o := 121) hx hb hts inc2 tyX2 tyX2_ok nmX2 hown hK hP hS (by omega) (fun _ => cell2 (by decide)) rfl 0 (by decide) rfl lk0 (fun _ h => h) rfl hin2 rfl (tyX2_ok 0 (by decide)) rfl rfl (Nat.le_of_ble_eq_true rfl) dX2_init_9 (fun H locs hP hS => ?_)
  have hw : wL cy b (fU (fP F 121) 121 0) (M) 123 = wL cy b F (M) 123 := wL_cell (fun q hq => by
    by_cases e1 : q = 121
    · subst e1
      rw [cell2 (by decide), cell2 (by decide), hF 121 (Nat.le_refl _)]
      rfl
    · rw [fU_ne _ _ e1]; rw [fP_ne _ e1])
  exact xev hx hb hr hlocks hP hS hw rfl (Nat.le_refl _) dX2_init_12
def gX3_init (M : Mem) : Mem := mU (gX4_init M 12) 9 3 (-1)
set_option maxHeartbeats 4000000 in
set_option maxRecDepth 100000 in
/-- Reader() -/
theorem c_X3_init (l : Launch) (D : va_G) (cy : Nat → ClassId) (b : Nat) (F : Fla) (M : Mem) (hF : ∀ p, 9 ≤ p → F p = fun _ => true) (hZ : ∀ p, 9 ≤ p → M p = fun _ => 0) : Met l yX3_init wsX3_init ({ frames := 3, cells := 10, slots := 674, locals := 60 } : Room) (CPz D cy b 10 (fP F 9) M [.ref (b + 9)]) (CQv D cy b 20 F (gX3_init M)) 10 674 (fr b) := by
  refine Met.ofW (cc := cX3_init) (maxL := 1) (ret := none) (by decide) rfl ?_
  intro p e s m args below meth c s₁ B hml hv
  obtain ⟨rfl, hP, hK, hX, hO, hz⟩ := hv
  have hx := B.exec
  have hb := B.bytes
  have hr := B.returns
  have hts := atoms_spec (ws := wsX3_init) B.pre
  have hown : s.vm.findClass RX3 = some m.cls := findClass_of_methodNamed B.named
  have hlocks := B.notSynchronized
  have hin2 : meth.name = "<init>" := (name_of_methodNamed B.named B.method).1
  have hs0 := hz
  have lk0 := hts (.fieldLink RX3 12 "HygrometerRoom$Reader" "tokens" "LHygrometerRoom$Tokens;") (by decide +kernel)
  have lk1 := hts (.fieldLink RX3 21 "HygrometerRoom$Reader" "draft" "LHygrometerRoom$Room;") (by decide +kernel)
  have lk2 := hts (.fieldLink RX3 25 "HygrometerRoom$Reader" "errorOffset" "I") (by decide +kernel)
  have inc3 : ∀ w ∈ u_ws RX3 TX3 4, w ∈ wsX3_init := by decide +kernel
  have inc4 : ∀ w ∈ u_ws RX4 TX4 8, w ∈ wsX3_init := by decide +kernel
  have inc6 : ∀ w ∈ u_ws RX6 TX6 6, w ∈ wsX3_init := by decide +kernel
  have hS : va_S (fr b) s.heap s.heap [] := va_S.rf
  have hl := lv_entry ([.ref (b + 9)]) (n := 1) (Nat.le_of_ble_eq_true rfl)
  rw [lg_entry_eq]
  generalize (lg_sl ([.ref (b + 9)]) ++ List.replicate (1 - (lg_sl ([.ref (b + 9)])).length) Slot.unset).toArray = ls at hl ⊢
  have hl : lv_has ls 1 [(0, .ref (b + 9))] := hl
  refine lv_aload_n hx hb dX3_init_0 rfl (lv_at hl 0 rfl) ?_
  refine W.objInit hx hb hown (hts (.methodLink RX3 3 objectInit) (by decide +kernel)) (hts (.instanceMethod objectInit) (by decide +kernel)) (hts (.code objectInit ⟨#[0xb1]⟩ 1 none) (by decide +kernel)) rfl (by rw [hml]; exact hl.1) rfl dX3_init_1 (Nat.le_of_ble_eq_true rfl) (Nat.le_of_ble_eq_true rfl) ?_
  show W _ _ _ _ _ _ _ _ _ _ _ _ _ _ _ (F0 m 4 ls [])
  refine lv_aload_n hx hb dX3_init_4 rfl (lv_at hl 0 rfl) ?_
  refine xnewo (n := 10) (C := RX6) (T := TX6) (N := 6) (ci := 6) (fs := [.null, .int 0, .int 0, .int 0, .int 0, .int 0]) hx hb hts inc6 tyX6 tyX6_ok hown (hts (.classLink RX3 9 RX6) (by decide +kernel)) (hts (.instantiable RX6 6) (by decide +kernel)) (hts (.initialized RX6) (by decide +kernel)) hK hP hS hz rfl (fun j hj => by rcases (show j = 0 ∨ j = 1 ∨ j = 2 ∨ j = 3 ∨ j = 4 ∨ j = 5 by omega) with rfl | rfl | rfl | rfl | rfl | rfl <;> rfl) (by rw [cell6 (by decide), hZ _ (by decide)]; rfl) (Nat.le_of_ble_eq_true rfl) (Nat.le_of_ble_eq_true rfl) dX3_init_5 (fun H hP hS hz => ?_)
  refine lv_dup hx hb dX3_init_8 rfl ?_
  refine xcz (va_runIN (As := []) (rest := [.ref (b + 10), .ref (b + 9)]) ⟨hx, hb, hml, hown, hts⟩ (c_X6_init l D cy b (fP F 9) M (fun q hq => by rw [fP_ne _ (by omega)]; exact hF q (by omega)) (fun q hq => hZ q (by omega))) ⟨va_cnB 0 hts gX3_init_X6_init_n11 rfl rfl rfl (hX.2.2.2.2.2.1 (RX3, 11, yX6_init) (by decide +kernel)) (hts (.initialized RX6) (by decide +kernel)) (by decide +kernel) ⟨Nat.le_of_ble_eq_true rfl, Nat.le_of_ble_eq_true rfl⟩, rfl, hts (.instanceMethod yX6_init) (by decide +kernel)⟩ (xPreZ hP hK hX hO hS hz) rfl rfl hl.1 rfl (lv_room (Nat.le_of_ble_eq_true rfl)) dX3_init_9 ⟨Nat.le_of_ble_eq_true rfl, Nat.le_of_ble_eq_true rfl⟩) hS hs0 (by omega) (by omega) (fun H locs hP hS hz => ?_)
  refine xpF (C := RX3) (T := TX3) (N := 4) (ci := 3) (v := .ref (b + 10)) (o := 9) hx hb hts inc3 tyX3 tyX3_ok nmX3 hown hK hP hS (by omega) (fun _ => cell3 (by decide)) rfl 0 (by decide) rfl lk0 (fun _ h => h) rfl hin2 rfl (tyX3_ok 0 (by decide)) rfl rfl (Nat.le_of_ble_eq_true rfl) dX3_init_12 (fun H locs hP hS => ?_)
  refine lv_aload_n hx hb dX3_init_15 rfl (lv_at hl 0 rfl) ?_
  refine xsz hP hs0 rfl (by omega) (fun hz => ?_)
  refine xnewo (n := 12) (C := RX4) (T := TX4) (N := 8) (ci := 4) (fs := [.null, .int 0, .int 0, .int 0, .int 0, .int 0, .int 0, .int 0]) hx hb hts inc4 tyX4 tyX4_ok hown (hts (.classLink RX3 18 RX4) (by decide +kernel)) (hts (.instantiable RX4 8) (by decide +kernel)) (hts (.initialized RX4) (by decide +kernel)) hK hP hS hz rfl (fun j hj => by rcases (show j = 0 ∨ j = 1 ∨ j = 2 ∨ j = 3 ∨ j = 4 ∨ j = 5 ∨ j = 6 ∨ j = 7 by omega) with rfl | rfl | rfl | rfl | rfl | rfl | rfl | rfl <;> rfl) (by rw [cell4 (by decide), hZ _ (by decide)]; rfl) (Nat.le_of_ble_eq_true rfl) (Nat.le_of_ble_eq_true rfl) dX3_init_16 (fun H hP hS hz => ?_)
  refine lv_dup hx hb dX3_init_19 rfl ?_
  refine xcz (va_runI (As := []) (rest := [.ref (b + 12), .ref (b + 9)]) ⟨hx, hb, hml, hown, hts⟩ (c_X4_init l D cy b (fU (fP F 9) 9 0) M 12 (by decide) (fun q hq => by rw [fU_ne _ _ (by omega), fP_ne _ (by omega)]; exact hF q (by omega)) (fun q hq => hZ q (by omega))) (cwI 0 hts gX3_init_X4_init rfl rfl rfl (hts (.initialized RX4) (by decide +kernel)) (hts (.methodLink RX3 20 yX4_init) (by decide +kernel)) (hts (.instanceMethod yX4_init) (by decide +kernel)) rfl (by decide +kernel) ⟨Nat.le_of_ble_eq_true rfl, Nat.le_of_ble_eq_true rfl⟩) (xPreZ hP hK hX hO hS hz) rfl rfl hl.1 rfl (lv_room (Nat.le_of_ble_eq_true rfl)) dX3_init_20 ⟨Nat.le_of_ble_eq_true rfl, Nat.le_of_ble_eq_true rfl⟩) hS hs0 (by omega) (by omega) (fun H locs hP hS hz => ?_)
  refine xpF (C := RX3) (T := TX3) (N := 4) (ci := 3) (v := .ref (b + 12)) (o := 9) hx hb hts inc3 tyX3 tyX3_ok nmX3 hown hK hP hS (by omega) (fun _ => cell3 (by decide)) rfl 1 (by decide) rfl lk1 (fun _ h => h) rfl hin2 rfl (tyX3_ok 1 (by decide)) rfl rfl (Nat.le_of_ble_eq_true rfl) dX3_init_23 (fun H locs hP hS => ?_)
  refine lv_aload_n hx hb dX3_init_26 rfl (lv_at hl 0 rfl) ?_
  refine lv_iconst (v := (-1)) hx hb dX3_init_27 (by decide) ?_
  refine xp (C := RX3) (T := TX3) (N := 4) (ci := 3) (ty := .int) (x := (-1 : Int32)) (o := 9) hx hb hts inc3 tyX3 tyX3_ok nmX3 hown hK hP hS (by omega) (fun _ => cell3 (by decide)) rfl 3 (by decide) rfl lk2 (fun _ h => h) rfl (tyX3_ok 3 (by decide)) rfl rfl (Nat.le_of_ble_eq_true rfl) dX3_init_28 (fun H locs hP hS => ?_)
  have hw : wL cy b (fU (fU (fP F 9) 9 0) 9 1) (mU (gX4_init M 12) 9 3 (-1)) 20 = wL cy b F (mU (gX4_init M 12) 9 3 (-1)) 20 := wL_cell (fun q hq => by
    by_cases e1 : q = 9
    · subst e1
      rw [cell3 (by decide), cell3 (by decide), hF 9 (Nat.le_refl _)]
      rfl
    · rw [fU_ne _ _ e1]; rw [fU_ne _ _ e1]; rw [fP_ne _ e1])
  exact xev hx hb hr hlocks hP hS hw rfl (Nat.le_refl _) dX3_init_31
def gR0 (M : Mem) : Nat → Mem
  | 0 => M
  | i + 1 => gX4_init (gR0 M i) (22 + 8 * i)
theorem gR0_ne {M : Mem} {p : Nat} : ∀ i, (p < 22 ∨ 22 + 8 * i ≤ p) → gR0 M i p = M p := by
  intro i
  induction i with
  | zero => intro _; rfl
  | succ i ih =>
    intro h
    show gX4_init (gR0 M i) (22 + 8 * i) p = M p
    rw [gX4_init_ne (by omega), ih (by omega)]
def gR5 (M : Mem) : Nat → Mem
  | 0 => M
  | i + 1 => gX4_init (gR5 M i) (105 + 8 * i)
theorem gR5_ne {M : Mem} {p : Nat} : ∀ i, (p < 105 ∨ 105 + 8 * i ≤ p) → gR5 M i p = M p := by
  intro i
  induction i with
  | zero => intro _; rfl
  | succ i ih =>
    intro h
    show gX4_init (gR5 M i) (105 + 8 * i) p = M p
    rw [gX4_init_ne (by omega), ih (by omega)]
set_option maxHeartbeats 4000000 in
set_option maxRecDepth 100000 in
/-- History(): ten rooms -/
theorem c_X0_init (l : Launch) (D : va_G) (cy : Nat → ClassId) (b : Nat) (F : Fla) (M : Mem) (hF : ∀ p, 20 ≤ p → F p = fun _ => true) (hZ : ∀ p, 20 ≤ p → M p = fun _ => 0) : Met l yX0_init wsX0_init ({ frames := 3, cells := 81, slots := 690, locals := 80 } : Room) (CPz D cy b 21 (fP F 20) M [.ref (b + 20)]) (CQv D cy b 102 F (gR0 M 10)) 81 690 (fr b) := by
  refine Met.ofW (cc := cX0_init) (maxL := 2) (ret := none) (by decide) rfl ?_
  intro p e s m args below meth c s₁ B hml hv
  obtain ⟨rfl, hP, hK, hX, hO, hz⟩ := hv
  have hx := B.exec
  have hb := B.bytes
  have hr := B.returns
  have hts := atoms_spec (ws := wsX0_init) B.pre
  have hown : s.vm.findClass RX0 = some m.cls := findClass_of_methodNamed B.named
  have hlocks := B.notSynchronized
  have hin2 : meth.name = "<init>" := (name_of_methodNamed B.named B.method).1
  have hs0 := hz
  have lk0 := hts (.fieldLink RX0 11 "HygrometerRoom$History" "past" "[LHygrometerRoom$Room;") (by decide +kernel)
  have inc0 : ∀ w ∈ u_ws RX0 TX0 3, w ∈ wsX0_init := by decide +kernel
  have inc4 : ∀ w ∈ u_ws RX4 TX4 8, w ∈ wsX0_init := by decide +kernel
  have hS : va_S (fr b) s.heap s.heap [] := va_S.rf
  have hl := lv_entry ([.ref (b + 20)]) (n := 2) (Nat.le_of_ble_eq_true rfl)
  rw [lg_entry_eq]
  generalize (lg_sl ([.ref (b + 20)]) ++ List.replicate (2 - (lg_sl ([.ref (b + 20)])).length) Slot.unset).toArray = ls at hl ⊢
  have hl : lv_has ls 2 [(0, .ref (b + 20))] := hl
  refine lv_aload_n hx hb dX0_init_0 rfl (lv_at hl 0 rfl) ?_
  refine W.objInit hx hb hown (hts (.methodLink RX0 3 objectInit) (by decide +kernel)) (hts (.instanceMethod objectInit) (by decide +kernel)) (hts (.code objectInit ⟨#[0xb1]⟩ 1 none) (by decide +kernel)) rfl (by rw [hml]; exact hl.1) rfl dX0_init_1 (Nat.le_of_ble_eq_true rfl) (Nat.le_of_ble_eq_true rfl) ?_
  show W _ _ _ _ _ _ _ _ _ _ _ _ _ _ _ (F0 m 4 ls [])
  refine lv_aload_n hx hb dX0_init_4 rfl (lv_at hl 0 rfl) ?_
  refine lv_bipush (v := 10) hx hb dX0_init_5 (by decide) ?_
  refine xnq (n := 21) (t0 := 4) (N := 10) (f := fun j => cond (decide (j < 0) || decide (10 ≤ j)) (some (b + (22 + 8 * j))) none) hx hb hown (hts (.classLink RX0 9 RX4) (by decide +kernel)) hO.2 hK hP hS hz rfl (fun j hj => by rw [show (decide (j < 0) || decide (10 ≤ j)) = false by simp; omega]; rfl) (by rw [cell14 (by decide), fA_at]; rfl) (by decide) rfl (Nat.le_of_ble_eq_true rfl) (Nat.le_of_ble_eq_true rfl) (Nat.le_of_ble_eq_true rfl) dX0_init_7 (fun H hP hS hz => ?_)
  refine xpF (C := RX0) (T := TX0) (N := 3) (ci := 0) (v := .ref (b + 21)) (o := 20) hx hb hts inc0 tyX0 tyX0_ok nmX0 hown hK hP hS (by omega) (fun _ => cell0 (by decide)) rfl 0 (by decide) rfl lk0 (fun _ h => h) rfl hin2 rfl (tyX0_ok 0 (by decide)) rfl rfl (Nat.le_of_ble_eq_true rfl) dX0_init_10 (fun H locs hP hS => ?_)
  have hw : wL cy b (fU (fA (fP F 20) 21 10 0) 20 0) M 22 = wL cy b (fA F 21 10 0) M 22 := wL_cell (fun q hq => by
    by_cases e1 : q = 20
    · subst e1
      rw [cell0 (by decide), cell0 (by decide), fA_ne _ (by decide), hF 20 (Nat.le_refl _)]
      rfl
    · rw [fU_ne _ _ e1]; by_cases e2 : q = 21
      · rw [e2, fA_at, fA_at]
      · rw [fA_ne _ e2, fA_ne _ e2, fP_ne _ e1])
  rw [hw] at hP
  refine lv_iconst (v := 0) hx hb dX0_init_13 (by decide) ?_
  refine lv_istore_n (lv' := [(1, .int 0), (0, .ref (b + 20))]) hx hb dX0_init_14 rfl hl (by decide) rfl (fun ls hl => ?_)
  have loop : ∀ (k i : Nat), i + k = 10 → ∀ (H : Heap) (locs : List Loc) (ls : Array Slot), va_P D vwCl (wL cy b (fA F 21 10 i) (gR0 M i) (22 + 8 * i)) H → va_S (fr b) s.heap H locs → H.size = b + (22 + 8 * i) → lv_has ls 2 [(1, .int (nI i)), (0, .ref (b + 20))] → W p l e ((headSpec wsX0_init ({ frames := 3, cells := 81, slots := 690, locals := 80 } : Room)).room) s m [Value.ref (b + 20)].toArray below meth c H locs (1 + 8 * i) (10 + 68 * i) (MQ below (CQv D cy b 102 F (gR0 M 10)) [Value.ref (b + 20)].toArray s 81 690 (fr b)) (F0 m 15 ls []) := by
    intro k
    induction k with
    | zero =>
      intro i hi H locs ls hP hS hz hl
      have hi6 : i = 10 := by omega
      subst hi6
      have hck : cellR cy b 20 (fA F 21 10 10 20) (gR0 M 10 20) = .inr (0, [.ref (b + 21), .int (gR0 M 10 20 1), .int (gR0 M 10 20 2)]) := by rw [cell0 (show kd 20 = 0 by decide), fA_ne _ (by decide), hF 20 (Nat.le_refl _)]; rfl
      refine lv_iload_n hx hb dX0_init_15 rfl (lv_at hl 0 rfl) ?_
      refine lv_aload_n hx hb dX0_init_16 rfl (lv_at hl 1 rfl) ?_
      refine xg (C := RX0) (T := TX0) (N := 3) (v := .ref (b + 21)) hx hb hts inc0 hown hK hP (by omega) hck rfl 0 (by decide) lk0 (fun _ h => h) rfl dX0_init_17 ?_
      refine xlen (v := 10) hx hb hK hP (o := 21) (by omega) 4 (cell14 (by decide)) rfl rfl dX0_init_20 ?_
      refine lv_icmp_ge (tgt := 43) hx hb dX0_init_21 (by decide) (fun c21 => ?_) (fun c21 => absurd (by decide) c21)
      have hwe : wL cy b (fA F 21 10 10) (gR0 M 10) (22 + 8 * 10) = wL cy b F (gR0 M 10) 102 := wL_congr (fun q hq => by
        by_cases e2 : q = 21
        · rw [e2, fA_at, hF _ (by omega)]
          funext j
          rcases Nat.lt_or_ge j 10 with h | h <;> simp [h]
        · rw [fA_ne _ e2]) (fun q hq => rfl)
      exact xev hx hb hr hlocks hP hS hwe rfl (Nat.le_refl _) dX0_init_43
    | succ k ih =>
      intro i hi H locs ls hP hS hz hl
      have hck : cellR cy b 20 (fA F 21 10 i 20) (gR0 M i 20) = .inr (0, [.ref (b + 21), .int (gR0 M i 20 1), .int (gR0 M i 20 2)]) := by rw [cell0 (show kd 20 = 0 by decide), fA_ne _ (by decide), hF 20 (Nat.le_refl _)]; rfl
      refine lv_iload_n hx hb dX0_init_15 rfl (lv_at hl 0 rfl) ?_
      refine lv_aload_n hx hb dX0_init_16 rfl (lv_at hl 1 rfl) ?_
      refine xg (C := RX0) (T := TX0) (N := 3) (v := .ref (b + 21)) hx hb hts inc0 hown hK hP (by omega) hck rfl 0 (by decide) lk0 (fun _ h => h) rfl dX0_init_17 ?_
      refine xlen (v := 10) hx hb hK hP (o := 21) (by omega) 4 (cell14 (by decide)) rfl rfl dX0_init_20 ?_
      refine lv_icmp_ge (tgt := 43) hx hb dX0_init_21 (by decide) (fun c21 => absurd c21 (by rw [show (10 : Int32) = nI 10 from rfl, nI_leI (by omega) (by omega)]; omega)) (fun c21 => ?_)
      refine lv_aload_n hx hb dX0_init_24 rfl (lv_at hl 1 rfl) ?_
      refine xg (C := RX0) (T := TX0) (N := 3) (v := .ref (b + 21)) hx hb hts inc0 hown hK hP (by omega) hck rfl 0 (by decide) lk0 (fun _ h => h) rfl dX0_init_25 ?_
      refine lv_iload_n hx hb dX0_init_28 rfl (lv_at hl 0 rfl) ?_
      have hz0 : ∀ q, 22 + 8 * i ≤ q → gR0 M i q = fun _ => 0 := fun q hq => by rw [gR0_ne i (by omega)]; exact hZ _ (by omega)
      refine xnewo (n := 22 + 8 * i) (C := RX4) (T := TX4) (N := 8) (ci := 4) (fs := [.null, .int 0, .int 0, .int 0, .int 0, .int 0, .int 0, .int 0]) hx hb hts inc4 tyX4 tyX4_ok hown (hts (.classLink RX0 9 RX4) (by decide +kernel)) (hts (.instantiable RX4 8) (by decide +kernel)) (hts (.initialized RX4) (by decide +kernel)) hK hP hS hz rfl (fun j hj => by rcases (show j = 0 ∨ j = 1 ∨ j = 2 ∨ j = 3 ∨ j = 4 ∨ j = 5 ∨ j = 6 ∨ j = 7 by omega) with rfl | rfl | rfl | rfl | rfl | rfl | rfl | rfl <;> rfl) (by rw [cell4 (kd_his i (by omega)), hz0 _ (Nat.le_refl _)]; rfl) (by show 1 + 8 * i + 1 ≤ 81; omega) (by show 10 + 68 * i + 8 ≤ 690; omega) dX0_init_29 (fun H hP hS hz => ?_)
      refine lv_dup hx hb dX0_init_32 rfl ?_
      refine xcz (va_runI (As := []) (rest := [.ref (b + (22 + 8 * i)), .int (nI i), .ref (b + 21)]) ⟨hx, hb, hml, hown, hts⟩ (c_X4_init l D cy b (fA F 21 10 i) (gR0 M i) (22 + 8 * i) (kd_his i (by omega)) (fun q hq => by rw [fA_ne _ (by omega)]; exact hF q (by omega)) (fun q hq => hz0 q hq)) (cwI 0 hts gX0_init_X4_init rfl rfl rfl (hts (.initialized RX4) (by decide +kernel)) (hts (.methodLink RX0 17 yX4_init) (by decide +kernel)) (hts (.instanceMethod yX4_init) (by decide +kernel)) rfl (by decide +kernel) ⟨Nat.le_of_ble_eq_true rfl, Nat.le_of_ble_eq_true rfl⟩) (xPreZ hP hK hX hO hS hz) rfl rfl hl.1 rfl (lv_room (Nat.le_of_ble_eq_true rfl)) dX0_init_33 ⟨by show 1 + 8 * i + 1 + 7 ≤ 81; omega, by show 10 + 68 * i + 8 + 60 ≤ 690; omega⟩) hS hs0 (by omega) (by omega) (fun H locs hP hS hz => ?_)
      refine xaq (k := i) (o := 21) (t0 := 4) (N := 10) (C := (RX4, TX4, 8)) (ci := 4) (qk := 22 + 8 * i) (f := fun j => cond (decide (j < i) || decide (10 ≤ j)) (some (b + (22 + 8 * j))) none) (F' := fA F 21 10 (i + 1)) hx hb hK hP hS (by omega) (by rw [cell14 (by decide), fA_at]; rfl) (by
        rw [cell14 (by decide), fA_at]
        exact congrArg (fun z => (.inl (cy 4, 10, .inr (.inr (.inr (.inr z)))) : va_E)) (up_g (g := fun j => b + (22 + 8 * j))).symm) (fun q hq => by rw [fA_ne _ hq, fA_ne _ hq]) rfl (by omega) (cell4 (kd_his i (by omega))) rfl (by omega) (by decide) dX0_init_36 (fun H locs hP hS => ?_)
      refine lv_iinc (v := nI (i + 1)) (lv' := [(1, .int (nI (i + 1))), (0, .ref (b + 20))]) hx hb dX0_init_37 hl (k := 0) rfl (nI_1 i) (by decide) rfl (fun ls hl => ?_)
      refine lv_goto (tgt := 15) hx hb dX0_init_40 (by decide) ?_
      refine W.widen (k := 1 + 8 * (i + 1)) (n := 10 + 68 * (i + 1)) (by omega) (by omega) ?_
      exact xsz hP hs0 (by omega) (by omega) (fun hz => ih (i + 1) (by omega) H locs ls hP hS hz hl)
  exact xsz hP hs0 rfl (by omega) (fun hz => loop 10 0 rfl H locs ls hP hS hz hl)
set_option maxHeartbeats 4000000 in
set_option maxRecDepth 100000 in
/-- Slots(): two rooms -/
theorem c_X5_init (l : Launch) (D : va_G) (cy : Nat → ClassId) (b : Nat) (F : Fla) (M : Mem) (hF : ∀ p, 102 ≤ p → F p = fun _ => true) (hZ : ∀ p, 102 ≤ p → M p = fun _ => 0) : Met l yX5_init wsX5_init ({ frames := 3, cells := 18, slots := 140, locals := 80 } : Room) (CPz D cy b 103 (fP F 102) M [.ref (b + 102)]) (CQv D cy b 121 F (gR5 M 2)) 18 140 (fr b) := by
  refine Met.ofW (cc := cX5_init) (maxL := 2) (ret := none) (by decide) rfl ?_
  intro p e s m args below meth c s₁ B hml hv
  obtain ⟨rfl, hP, hK, hX, hO, hz⟩ := hv
  have hx := B.exec
  have hb := B.bytes
  have hr := B.returns
  have hts := atoms_spec (ws := wsX5_init) B.pre
  have hown : s.vm.findClass RX5 = some m.cls := findClass_of_methodNamed B.named
  have hlocks := B.notSynchronized
  have hin2 : meth.name = "<init>" := (name_of_methodNamed B.named B.method).1
  have hs0 := hz
  have lk0 := hts (.fieldLink RX5 11 "HygrometerRoom$Slots" "rooms" "[LHygrometerRoom$Room;") (by decide +kernel)
  have lk1 := hts (.fieldLink RX5 17 "HygrometerRoom$Slots" "used" "[Z") (by decide +kernel)
  have inc4 : ∀ w ∈ u_ws RX4 TX4 8, w ∈ wsX5_init := by decide +kernel
  have inc5 : ∀ w ∈ u_ws RX5 TX5 2, w ∈ wsX5_init := by decide +kernel
  have hS : va_S (fr b) s.heap s.heap [] := va_S.rf
  have hl := lv_entry ([.ref (b + 102)]) (n := 2) (Nat.le_of_ble_eq_true rfl)
  rw [lg_entry_eq]
  generalize (lg_sl ([.ref (b + 102)]) ++ List.replicate (2 - (lg_sl ([.ref (b + 102)])).length) Slot.unset).toArray = ls at hl ⊢
  have hl : lv_has ls 2 [(0, .ref (b + 102))] := hl
  refine lv_aload_n hx hb dX5_init_0 rfl (lv_at hl 0 rfl) ?_
  refine W.objInit hx hb hown (hts (.methodLink RX5 3 objectInit) (by decide +kernel)) (hts (.instanceMethod objectInit) (by decide +kernel)) (hts (.code objectInit ⟨#[0xb1]⟩ 1 none) (by decide +kernel)) rfl (by rw [hml]; exact hl.1) rfl dX5_init_1 (Nat.le_of_ble_eq_true rfl) (Nat.le_of_ble_eq_true rfl) ?_
  show W _ _ _ _ _ _ _ _ _ _ _ _ _ _ _ (F0 m 4 ls [])
  refine lv_aload_n hx hb dX5_init_4 rfl (lv_at hl 0 rfl) ?_
  refine lv_iconst (v := 2) hx hb dX5_init_5 (by decide) ?_
  refine xnq (n := 103) (t0 := 4) (N := 2) (f := fun j => cond (decide (j < 0) || decide (2 ≤ j)) (some (b + (105 + 8 * j))) none) hx hb hown (hts (.classLink RX5 9 RX4) (by decide +kernel)) hO.2 hK hP hS hz rfl (fun j hj => by rw [show (decide (j < 0) || decide (2 ≤ j)) = false by simp; omega]; rfl) (by rw [cell14 (by decide), fA_at]; rfl) (by decide) rfl (Nat.le_of_ble_eq_true rfl) (Nat.le_of_ble_eq_true rfl) (Nat.le_of_ble_eq_true rfl) dX5_init_6 (fun H hP hS hz => ?_)
  refine xpF (C := RX5) (T := TX5) (N := 2) (ci := 5) (v := .ref (b + 103)) (o := 102) hx hb hts inc5 tyX5 tyX5_ok nmX5 hown hK hP hS (by omega) (fun _ => cell5 (by decide)) rfl 0 (by decide) rfl lk0 (fun _ h => h) rfl hin2 rfl (tyX5_ok 0 (by decide)) rfl rfl (Nat.le_of_ble_eq_true rfl) dX5_init_9 (fun H locs hP hS => ?_)
  refine lv_aload_n hx hb dX5_init_12 rfl (lv_at hl 0 rfl) ?_
  refine lv_iconst (v := 2) hx hb dX5_init_13 (by decide) ?_
  refine xsz hP hs0 rfl (by omega) (fun hz => ?_)
  refine xna (n := 104) (t0 := 2) (N := 2) (ty := .boolean) (atype := .boolean) (a0 := (2, .inl (fun _ => 0))) hx hb rfl (hts (.arrayClass .boolean) (by decide +kernel)) hK hP hS hz rfl (fun C h => by cases h) (fun cA => rfl) (by rw [cell12 (by decide), hZ _ (by decide)]; rfl) (by decide) rfl (Nat.le_of_ble_eq_true rfl) (Nat.le_of_ble_eq_true rfl) (Nat.le_of_ble_eq_true rfl) dX5_init_14 (fun H hP hS hz => ?_)
  refine xpF (C := RX5) (T := TX5) (N := 2) (ci := 5) (v := .ref (b + 104)) (o := 102) hx hb hts inc5 tyX5 tyX5_ok nmX5 hown hK hP hS (by omega) (fun _ => cell5 (by decide)) rfl 1 (by decide) rfl lk1 (fun _ h => h) rfl hin2 rfl (tyX5_ok 1 (by decide)) rfl rfl (Nat.le_of_ble_eq_true rfl) dX5_init_16 (fun H locs hP hS => ?_)
  have hw : wL cy b (fU (fU (fA (fP F 102) 103 2 0) 102 0) 102 1) M 105 = wL cy b (fA F 103 2 0) M 105 := wL_cell (fun q hq => by
    by_cases e1 : q = 102
    · subst e1
      rw [cell5 (by decide), cell5 (by decide), fA_ne _ (by decide), hF 102 (Nat.le_refl _)]
      rfl
    · rw [fU_ne _ _ e1]; rw [fU_ne _ _ e1]; by_cases e2 : q = 103
      · rw [e2, fA_at, fA_at]
      · rw [fA_ne _ e2, fA_ne _ e2, fP_ne _ e1])
  rw [hw] at hP
  refine lv_iconst (v := 0) hx hb dX5_init_19 (by decide) ?_
  refine lv_istore_n (lv' := [(1, .int 0), (0, .ref (b + 102))]) hx hb dX5_init_20 rfl hl (by decide) rfl (fun ls hl => ?_)
  have loop : ∀ (k i : Nat), i + k = 2 → ∀ (H : Heap) (locs : List Loc) (ls : Array Slot), va_P D vwCl (wL cy b (fA F 103 2 i) (gR5 M i) (105 + 8 * i)) H → va_S (fr b) s.heap H locs → H.size = b + (105 + 8 * i) → lv_has ls 2 [(1, .int (nI i)), (0, .ref (b + 102))] → W p l e ((headSpec wsX5_init ({ frames := 3, cells := 18, slots := 140, locals := 80 } : Room)).room) s m [Value.ref (b + 102)].toArray below meth c H locs (2 + 8 * i) (4 + 68 * i) (MQ below (CQv D cy b 121 F (gR5 M 2)) [Value.ref (b + 102)].toArray s 18 140 (fr b)) (F0 m 21 ls []) := by
    intro k
    induction k with
    | zero =>
      intro i hi H locs ls hP hS hz hl
      have hi6 : i = 2 := by omega
      subst hi6
      have hck : cellR cy b 102 (fA F 103 2 2 102) (gR5 M 2 102) = .inr (5, [.ref (b + 103), .ref (b + 104)]) := by rw [cell5 (show kd 102 = 5 by decide), fA_ne _ (by decide), hF 102 (Nat.le_refl _)]; rfl
      refine lv_iload_n hx hb dX5_init_21 rfl (lv_at hl 0 rfl) ?_
      refine lv_aload_n hx hb dX5_init_22 rfl (lv_at hl 1 rfl) ?_
      refine xg (C := RX5) (T := TX5) (N := 2) (v := .ref (b + 103)) hx hb hts inc5 hown hK hP (by omega) hck rfl 0 (by decide) lk0 (fun _ h => h) rfl dX5_init_23 ?_
      refine xlen (v := 2) hx hb hK hP (o := 103) (by omega) 4 (cell14 (by decide)) rfl rfl dX5_init_26 ?_
      refine lv_icmp_ge (tgt := 49) hx hb dX5_init_27 (by decide) (fun c21 => ?_) (fun c21 => absurd (by decide) c21)
      have hwe : wL cy b (fA F 103 2 2) (gR5 M 2) (105 + 8 * 2) = wL cy b F (gR5 M 2) 121 := wL_congr (fun q hq => by
        by_cases e2 : q = 103
        · rw [e2, fA_at, hF _ (by omega)]
          funext j
          rcases Nat.lt_or_ge j 2 with h | h <;> simp [h]
        · rw [fA_ne _ e2]) (fun q hq => rfl)
      exact xev hx hb hr hlocks hP hS hwe rfl (Nat.le_refl _) dX5_init_49
    | succ k ih =>
      intro i hi H locs ls hP hS hz hl
      have hck : cellR cy b 102 (fA F 103 2 i 102) (gR5 M i 102) = .inr (5, [.ref (b + 103), .ref (b + 104)]) := by rw [cell5 (show kd 102 = 5 by decide), fA_ne _ (by decide), hF 102 (Nat.le_refl _)]; rfl
      refine lv_iload_n hx hb dX5_init_21 rfl (lv_at hl 0 rfl) ?_
      refine lv_aload_n hx hb dX5_init_22 rfl (lv_at hl 1 rfl) ?_
      refine xg (C := RX5) (T := TX5) (N := 2) (v := .ref (b + 103)) hx hb hts inc5 hown hK hP (by omega) hck rfl 0 (by decide) lk0 (fun _ h => h) rfl dX5_init_23 ?_
      refine xlen (v := 2) hx hb hK hP (o := 103) (by omega) 4 (cell14 (by decide)) rfl rfl dX5_init_26 ?_
      refine lv_icmp_ge (tgt := 49) hx hb dX5_init_27 (by decide) (fun c21 => absurd c21 (by rw [show (2 : Int32) = nI 2 from rfl, nI_leI (by omega) (by omega)]; omega)) (fun c21 => ?_)
      refine lv_aload_n hx hb dX5_init_30 rfl (lv_at hl 1 rfl) ?_
      refine xg (C := RX5) (T := TX5) (N := 2) (v := .ref (b + 103)) hx hb hts inc5 hown hK hP (by omega) hck rfl 0 (by decide) lk0 (fun _ h => h) rfl dX5_init_31 ?_
      refine lv_iload_n hx hb dX5_init_34 rfl (lv_at hl 0 rfl) ?_
      have hz0 : ∀ q, 105 + 8 * i ≤ q → gR5 M i q = fun _ => 0 := fun q hq => by rw [gR5_ne i (by omega)]; exact hZ _ (by omega)
      refine xnewo (n := 105 + 8 * i) (C := RX4) (T := TX4) (N := 8) (ci := 4) (fs := [.null, .int 0, .int 0, .int 0, .int 0, .int 0, .int 0, .int 0]) hx hb hts inc4 tyX4 tyX4_ok hown (hts (.classLink RX5 9 RX4) (by decide +kernel)) (hts (.instantiable RX4 8) (by decide +kernel)) (hts (.initialized RX4) (by decide +kernel)) hK hP hS hz rfl (fun j hj => by rcases (show j = 0 ∨ j = 1 ∨ j = 2 ∨ j = 3 ∨ j = 4 ∨ j = 5 ∨ j = 6 ∨ j = 7 by omega) with rfl | rfl | rfl | rfl | rfl | rfl | rfl | rfl <;> rfl) (by rw [cell4 (kd_slo i (by omega)), hz0 _ (Nat.le_refl _)]; rfl) (by show 2 + 8 * i + 1 ≤ 18; omega) (by show 4 + 68 * i + 8 ≤ 140; omega) dX5_init_35 (fun H hP hS hz => ?_)
      refine lv_dup hx hb dX5_init_38 rfl ?_
      refine xcz (va_runI (As := []) (rest := [.ref (b + (105 + 8 * i)), .int (nI i), .ref (b + 103)]) ⟨hx, hb, hml, hown, hts⟩ (c_X4_init l D cy b (fA F 103 2 i) (gR5 M i) (105 + 8 * i) (kd_slo i (by omega)) (fun q hq => by rw [fA_ne _ (by omega)]; exact hF q (by omega)) (fun q hq => hz0 q hq)) (cwI 0 hts gX5_init_X4_init rfl rfl rfl (hts (.initialized RX4) (by decide +kernel)) (hts (.methodLink RX5 21 yX4_init) (by decide +kernel)) (hts (.instanceMethod yX4_init) (by decide +kernel)) rfl (by decide +kernel) ⟨Nat.le_of_ble_eq_true rfl, Nat.le_of_ble_eq_true rfl⟩) (xPreZ hP hK hX hO hS hz) rfl rfl hl.1 rfl (lv_room (Nat.le_of_ble_eq_true rfl)) dX5_init_39 ⟨by show 2 + 8 * i + 1 + 7 ≤ 18; omega, by show 4 + 68 * i + 8 + 60 ≤ 140; omega⟩) hS hs0 (by omega) (by omega) (fun H locs hP hS hz => ?_)
      refine xaq (k := i) (o := 103) (t0 := 4) (N := 2) (C := (RX4, TX4, 8)) (ci := 4) (qk := 105 + 8 * i) (f := fun j => cond (decide (j < i) || decide (2 ≤ j)) (some (b + (105 + 8 * j))) none) (F' := fA F 103 2 (i + 1)) hx hb hK hP hS (by omega) (by rw [cell14 (by decide), fA_at]; rfl) (by
        rw [cell14 (by decide), fA_at]
        exact congrArg (fun z => (.inl (cy 4, 2, .inr (.inr (.inr (.inr z)))) : va_E)) (up_g (g := fun j => b + (105 + 8 * j))).symm) (fun q hq => by rw [fA_ne _ hq, fA_ne _ hq]) rfl (by omega) (cell4 (kd_slo i (by omega))) rfl (by omega) (by decide) dX5_init_42 (fun H locs hP hS => ?_)
      refine lv_iinc (v := nI (i + 1)) (lv' := [(1, .int (nI (i + 1))), (0, .ref (b + 102))]) hx hb dX5_init_43 hl (k := 0) rfl (nI_1 i) (by decide) rfl (fun ls hl => ?_)
      refine lv_goto (tgt := 21) hx hb dX5_init_46 (by decide) ?_
      refine W.widen (k := 2 + 8 * (i + 1)) (n := 4 + 68 * (i + 1)) (by omega) (by omega) ?_
      exact xsz hP hs0 (by omega) (by omega) (fun hz => ih (i + 1) (by omega) H locs ls hP hS hz hl)
  exact xsz hP hs0 rfl (by omega) (fun hz => loop 2 0 rfl H locs ls hP hS hz hl)

