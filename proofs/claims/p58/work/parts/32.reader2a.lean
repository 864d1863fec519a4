/-! what the room's methods leave as it is outside the room -/
def RF (r : Nat) (M M' : Mem) : Prop := ∀ p, (p < r ∨ r + 8 ≤ p) → M' p = M p
theorem RF.refl (r : Nat) (M : Mem) : RF r M M := fun _ _ => rfl
theorem RF.trans {r : Nat} {M M1 M2 : Mem} (h1 : RF r M M1) (h2 : RF r M1 M2) : RF r M M2 := fun p hp => (h2 p hp).trans (h1 p hp)
theorem RF.put {r o k : Nat} {M : Mem} {v : Int32} (h1 : r ≤ o) (h2 : o < r + 8) : RF r M (mU M o k v) := fun p hp => mU_ne M k v (by omega)
theorem begin_rf (M : Mem) (r : Nat) (x y z : Int32) : RF r M (gX4_begin M r x y z) := fun p hp => by unfold gX4_begin; simp only [mU, if_neg (show ¬ p = r by omega)]
theorem newHair_rf {M : Mem} {r : Nat} {x : Int32} (hc : CNT M r) : RF r M (gX4_newHair M r x) := fun p hp => by
  unfold gX4_newHair
  split
  · rfl
  · rename_i h
    have h6 : (M r 1).toNatClampNeg < 6 := ub_cl (N := 6) hc h
    rw [mU_ne _ _ _ (by omega), gX1_becomeHair_ne (by omega)]
theorem newBulb_rf {M : Mem} {r : Nat} {x : Int32} (hc : CNT M r) : RF r M (gX4_newBulb M r x) := fun p hp => by
  unfold gX4_newBulb
  split
  · rfl
  · rename_i h
    have h6 : (M r 1).toNatClampNeg < 6 := ub_cl (N := 6) hc h
    rw [mU_ne _ _ _ (by omega), gX1_becomeBulb_ne (by omega)]
theorem newHair_cnt {M : Mem} {r : Nat} {x : Int32} (hc : CNT M r) : CNT (gX4_newHair M r x) r := by
  unfold gX4_newHair
  split
  · exact hc
  · rename_i h
    unfold CNT
    rw [mU_at, gX1_becomeHair_ne (by omega)]
    exact ub_succ (N := 6) hc h
theorem newBulb_cnt {M : Mem} {r : Nat} {x : Int32} (hc : CNT M r) : CNT (gX4_newBulb M r x) r := by
  unfold gX4_newBulb
  split
  · exact hc
  · rename_i h
    unfold CNT
    rw [mU_at, gX1_becomeBulb_ne (by omega)]
    exact ub_succ (N := 6) hc h
theorem begin_cnt (M : Mem) (r : Nat) (x y z : Int32) : CNT (gX4_begin M r x y z) r := ⟨0, by decide, by unfold gX4_begin; simp only [mU, if_true]; rfl⟩
theorem copy58_rf (r q : Nat) : ∀ (k : Nat) (M : Mem) (j : Nat), CNT M r → j ≤ 6 → RF r M (LX4_copyFrom_58g r q k M j) ∧ LX4_copyFrom_58g r q k M j r = M r := by
  intro k
  induction k with
  | zero => intro M j _ _; exact ⟨RF.refl _ _, rfl⟩
  | succ k ih =>
    intro M j hc hj
    rw [LX4_copyFrom_58g]
    split
    · exact ⟨RF.refl _ _, rfl⟩
    · rename_i h
      have h6 := ub_lt hc hj h
      obtain ⟨i1, i2⟩ := ih (gX1_copyFrom M (r + 1 + 1 + j) (q + 1 + 1 + j)) (j + 1) (cnt_row (gX1_copyFrom_ne (by omega)) hc) (by omega)
      exact ⟨fun p hp => (i1 p hp).trans (gX1_copyFrom_ne (by omega)), i2.trans (gX1_copyFrom_ne (by omega))⟩
theorem copy_rf {M : Mem} {r q : Nat} (hc : CNT M q) : RF r M (gX4_copyFrom M r q) := by
  unfold gX4_copyFrom
  refine RF.trans ?_ (copy58_rf r q 7 _ 0 (cnt_put (by decide) (cnt_put (by decide) (cnt_put (by decide) (cnt_put (by decide) (cnt_put (by decide) (cnt_put (by decide) (by unfold CNT; rw [mU_at]; exact hc))))))) (by decide)).1
  intro p hp
  simp only [mU, if_neg (show ¬ p = r by omega)]
theorem copy_cnt {M : Mem} {r q : Nat} (hc : CNT M q) : CNT (gX4_copyFrom M r q) r := by
  unfold gX4_copyFrom
  refine cnt_row (copy58_rf r q 7 _ 0 ?_ (by decide)).2 ?_ <;>
    exact cnt_put (by decide) (cnt_put (by decide) (cnt_put (by decide) (cnt_put (by decide) (cnt_put (by decide) (cnt_put (by decide) (by unfold CNT; rw [mU_at]; exact hc))))))
theorem pass25_rf (r : Nat) (x : Int32) : ∀ (k : Nat) (M : Mem) (j : Nat), CNT M r → j ≤ 6 → RF r M (LX4_pass_25g r x k M j) := by
  intro k
  induction k with
  | zero => intro M j _ _; exact RF.refl _ _
  | succ k ih =>
    intro M j hc hj
    rw [LX4_pass_25g]
    split
    · exact RF.refl _ _
    · rename_i h
      have h6 := ub_lt hc hj h
      exact fun p hp => (ih _ (j + 1) (cnt_row (gX1_age_ne (by omega)) hc) (by omega) p hp).trans (gX1_age_ne (by omega))
theorem pass7_rf (r : Nat) (x : Int32) : ∀ (k : Nat) (M : Mem) (w : Int32) (i : Nat), CNT M r → RF r M (LX4_pass_7g r x k M w i) ∧ CNT (LX4_pass_7g r x k M w i) r := by
  intro k
  induction k with
  | zero => intro M w i hc; exact ⟨RF.refl _ _, hc⟩
  | succ k ih =>
    intro M w i hc
    have h1 : CNT (mU M r 2 (M r 2 + 1)) r := cnt_put (by decide) hc
    have h2 : CNT (LX4_pass_25g r x 7 (mU M r 2 (M r 2 + 1)) 0) r := cnt_row (LX4_pass_25_row r x _ _ _) h1
    have h3 : RF r M (LX4_pass_25g r x 7 (mU M r 2 (M r 2 + 1)) 0) := RF.trans (RF.put (by omega) (by omega)) (pass25_rf r x 7 _ 0 h1 (by decide))
    rw [LX4_pass_7g]
    split
    · exact ⟨RF.refl _ _, hc⟩
    · split
      · have h4 := gX4_bringHairs_cnt h2
        exact ⟨RF.trans (RF.trans h3 (fun p hp => gX4_bringHairs_ne (by omega))) (ih _ w (i + 1) h4).1, (ih _ w (i + 1) h4).2⟩
      · exact ⟨RF.trans h3 (ih _ w (i + 1) h2).1, (ih _ w (i + 1) h2).2⟩
theorem pass_rf {M : Mem} {r : Nat} {x : Int32} (hc : CNT M r) : RF r M (gX4_pass M r x) := (pass7_rf r x _ _ _ _ hc).1
theorem pass_cnt {M : Mem} {r : Nat} {x : Int32} (hc : CNT M r) : CNT (gX4_pass M r x) r := (pass7_rf r x _ _ _ _ hc).2
/-! the reader keeps its tokens in range and its draft's count -/
def RD (M : Mem) : Prop := TL M ∧ CNT M 12
theorem rd_row {M M' : Mem} (h10 : M' 10 = M 10) (h12 : M' 12 = M 12) (h : RD M) : RD M' := ⟨by unfold TL; rw [h10]; exact h.1, cnt_row h12 h.2⟩
theorem rd_fl {M : Mem} {x : Int32} (h : RD M) : RD (gX3_fail M x) := ⟨fl_tl h.1, fl_cnt (by decide) h.2⟩
theorem rd_tk {M : Mem} {x y : Int32} (h : RD M) : RD (gX3_takeNumber M x y) := ⟨tk_tl h.1, tk_cnt (by decide) (by decide) h.2⟩
theorem rd_nx {M : Mem} (h : RD M) : RD (gX6_next M) := ⟨nx_tl h.1, nx_cnt (by decide) h.2⟩
theorem rd_ti {M : Mem} (h : RD M) : RD (gX3_takeInstrument M) := rd_tk h
theorem rd_hair {M : Mem} {x : Int32} (h : RD M) : RD (gX4_newHair M 12 x) := ⟨by unfold TL; rw [newHair_rf h.2 10 (by decide)]; exact h.1, newHair_cnt h.2⟩
theorem rd_bulb {M : Mem} {x : Int32} (h : RD M) : RD (gX4_newBulb M 12 x) := ⟨by unfold TL; rw [newBulb_rf h.2 10 (by decide)]; exact h.1, newBulb_cnt h.2⟩
theorem rd_begin {M : Mem} {x y z : Int32} (h : RD M) : RD (gX4_begin M 12 x y z) := ⟨by unfold TL; rw [begin_rf M 12 x y z 10 (by decide)]; exact h.1, begin_cnt _ _ _ _ _⟩
theorem rd_pass {M : Mem} {x : Int32} (h : RD M) : RD (gX4_pass M 12 x) := ⟨by unfold TL; rw [pass_rf h.2 10 (by decide)]; exact h.1, pass_cnt h.2⟩
theorem rd_put12 {M : Mem} {v : Int32} {k : Nat} (hk : k ≠ 1) (h : RD M) : RD (mU M 12 k v) := ⟨by unfold TL; rw [mU_ne _ _ _ (by decide)]; exact h.1, cnt_put hk h.2⟩
theorem kd1_ne {o : Nat} (h : kd o = 1) : (10 : Nat) ≠ o ∧ (12 : Nat) ≠ o ∧ (9 : Nat) ≠ o ∧ (11 : Nat) ≠ o := ⟨fun e => by subst e; exact absurd h (by decide), fun e => by subst e; exact absurd h (by decide), fun e => by subst e; exact absurd h (by decide), fun e => by subst e; exact absurd h (by decide)⟩
theorem rd_puti {M : Mem} {v : Int32} {k o : Nat} (ho : kd o = 1) (h : RD M) : RD (mU M o k v) := rd_row (mU_ne _ _ _ (kd1_ne ho).1) (mU_ne _ _ _ (kd1_ne ho).2.1) h
theorem rd_tight {M : Mem} {o : Nat} (ho : kd o = 1) (h : RD M) : RD (gX1_tightenSpring M o) := rd_row (gX1_tightenSpring_ne (kd1_ne ho).1) (gX1_tightenSpring_ne (kd1_ne ho).2.1) h
theorem rd_rhum {M : Mem} (h : RD M) : RD (gX3_readHumidity M) := by
  unfold gX3_readHumidity
  (repeat' split) <;> repeat (first | with_reducible exact h | with_reducible apply rd_put12 (by decide) | with_reducible apply rd_tk)
theorem rd_rmin {M : Mem} (h : RD M) : RD (gX3_readMinutes M) := by
  unfold gX3_readMinutes
  (repeat' split) <;> repeat (first | with_reducible exact h | with_reducible apply rd_pass | with_reducible apply rd_tk)
theorem rd_rhair {M : Mem} (h : RD M) : RD (gX3_readHair M) := by
  unfold gX3_readHair
  (repeat' split) <;> repeat (first | with_reducible exact h | with_reducible apply rd_hair | with_reducible apply rd_tk | with_reducible apply rd_fl)
theorem rd_rbulb {M : Mem} (h : RD M) : RD (gX3_readBulb M) := by
  unfold gX3_readBulb
  (repeat' split) <;> repeat (first | with_reducible exact h | with_reducible apply rd_bulb | with_reducible apply rd_tk | with_reducible apply rd_fl)
theorem rd_rbox {M : Mem} {o : Nat} (ho : kd o = 1) (h : RD M) : RD (gX3_readBox M o) := by
  unfold gX3_readBox
  (repeat' split) <;> repeat (first | with_reducible exact h | with_reducible apply rd_puti ho | with_reducible apply rd_tk | with_reducible apply rd_fl)
theorem rd_rout {M : Mem} {o : Nat} (ho : kd o = 1) (h : RD M) : RD (gX3_readOut M o) := by
  unfold gX3_readOut
  (repeat' split) <;> repeat (first | with_reducible exact h | with_reducible apply rd_puti ho | with_reducible apply rd_tk | with_reducible apply rd_fl)
theorem rd_rtig {M : Mem} {o : Nat} (ho : kd o = 1) (h : RD M) : RD (gX3_readTighten M o) := by
  unfold gX3_readTighten
  (repeat' split) <;> repeat (first | with_reducible exact h | with_reducible apply rd_tight ho | with_reducible apply rd_tk | with_reducible apply rd_fl)
theorem rd_rmoi {M : Mem} {o : Nat} (ho : kd o = 1) (h : RD M) : RD (gX3_readMoisten M o) := by
  unfold gX3_readMoisten
  (repeat' split) <;> repeat (first | with_reducible exact h | with_reducible apply rd_puti ho | with_reducible apply rd_tk | with_reducible apply rd_fl)
theorem rdx1 {M : Mem} (h : RD M) : TL M := h.1
theorem rdx2 {M : Mem} (h : RD M) : CNT M 12 := h.2
theorem rdx3 {M : Mem} (h : RD M) : UB (gX6_next M 10 3) 600 ∧ UB (gX6_next M 10 4) 600 := nx_tv h.1
def gX3_readHead (M : Mem) : Mem := if (fX6_isWord (gX6_next M) 0) = 0 then (if ((gX3_takeNumber (gX3_takeNumber (gX3_takeNumber (gX3_fail (gX6_next M) (1 : Int32)) (0 : Int32) (100 : Int32)) (0 : Int32) (40 : Int32)) (0 : Int32) (5 : Int32)) 9 2) = 0 then (gX4_begin (gX3_takeNumber (gX3_takeNumber (gX3_takeNumber (gX3_fail (gX6_next M) (1 : Int32)) (0 : Int32) (100 : Int32)) (0 : Int32) (40 : Int32)) (0 : Int32) (5 : Int32)) 12 (fX3_takeNumber (gX3_fail (gX6_next M) (1 : Int32)) (0 : Int32) (100 : Int32)) (fX3_takeNumber (gX3_takeNumber (gX3_fail (gX6_next M) (1 : Int32)) (0 : Int32) (100 : Int32)) (0 : Int32) (40 : Int32)) (fX3_takeNumber (gX3_takeNumber (gX3_takeNumber (gX3_fail (gX6_next M) (1 : Int32)) (0 : Int32) (100 : Int32)) (0 : Int32) (40 : Int32)) (0 : Int32) (5 : Int32))) else (gX3_takeNumber (gX3_takeNumber (gX3_takeNumber (gX3_fail (gX6_next M) (1 : Int32)) (0 : Int32) (100 : Int32)) (0 : Int32) (40 : Int32)) (0 : Int32) (5 : Int32))) else (if ((gX3_takeNumber (gX3_takeNumber (gX3_takeNumber (gX6_next M) (0 : Int32) (100 : Int32)) (0 : Int32) (40 : Int32)) (0 : Int32) (5 : Int32)) 9 2) = 0 then (gX4_begin (gX3_takeNumber (gX3_takeNumber (gX3_takeNumber (gX6_next M) (0 : Int32) (100 : Int32)) (0 : Int32) (40 : Int32)) (0 : Int32) (5 : Int32)) 12 (fX3_takeNumber (gX6_next M) (0 : Int32) (100 : Int32)) (fX3_takeNumber (gX3_takeNumber (gX6_next M) (0 : Int32) (100 : Int32)) (0 : Int32) (40 : Int32)) (fX3_takeNumber (gX3_takeNumber (gX3_takeNumber (gX6_next M) (0 : Int32) (100 : Int32)) (0 : Int32) (40 : Int32)) (0 : Int32) (5 : Int32))) else (gX3_takeNumber (gX3_takeNumber (gX3_takeNumber (gX6_next M) (0 : Int32) (100 : Int32)) (0 : Int32) (40 : Int32)) (0 : Int32) (5 : Int32)))
set_option maxHeartbeats 4000000 in
set_option maxRecDepth 100000 in
theorem c_X3_readHead (l : Launch) (D : va_G) (cy : Nat → ClassId) (b n : Nat) (hn : 124 ≤ n) (M : Mem)  (hrd : RD M) : Met l yX3_readHead wsX3_readHead ({ frames := 5, cells := 0, slots := 0, locals := 107 } : Room) (CP D cy b n fT M [.ref (b + 9)]) (CQv D cy b n fT (gX3_readHead M)) 0 0 (fr b) := by
  refine Met.ofW (cc := cX3_readHead) (maxL := 4) (ret := none) (by decide) rfl ?_
  intro p e s m args below meth c s₁ B hml hv
  obtain ⟨rfl, hP, hK, hX⟩ := hv
  have hx := B.exec
  have hb := B.bytes
  have hr := B.returns
  have hts := atoms_spec (ws := wsX3_readHead) B.pre
  have hown : s.vm.findClass RX3 = some m.cls := findClass_of_methodNamed B.named
  have hlocks := B.notSynchronized
  have lk0 := hts (.fieldLink RX3 12 "HygrometerRoom$Reader" "tokens" "LHygrometerRoom$Tokens;") (by decide +kernel)
  have lk1 := hts (.fieldLink RX3 29 "HygrometerRoom$Reader" "errorKind" "I") (by decide +kernel)
  have lk2 := hts (.fieldLink RX3 21 "HygrometerRoom$Reader" "draft" "LHygrometerRoom$Room;") (by decide +kernel)
  have inc3 : ∀ w ∈ u_ws RX3 TX3 4, w ∈ wsX3_readHead := by decide +kernel
  obtain ⟨adK, adV, hvS, hwk⟩ := id hX.2.2.2.2.1
  have hST : ∀ w, w < 9 → ST b w (adK w) s := fun w hw => ⟨adV w, (hvS.1 w hw).1, (hvS.1 w hw).2.1, (hvS.1 w hw).2.2.1, (hvS.1 w hw).2.2.2⟩
  have hS : va_S (fr b) s.heap s.heap [] := va_S.rf
  have hl := lv_entry ([.ref (b + 9)]) (n := 4) (Nat.le_of_ble_eq_true rfl)
  rw [lg_entry_eq]
  generalize (lg_sl ([.ref (b + 9)]) ++ List.replicate (4 - (lg_sl ([.ref (b + 9)])).length) Slot.unset).toArray = ls at hl ⊢
  have hl : lv_has ls 4 [(0, .ref (b + 9))] := hl
  refine lv_aload_n hx hb dX3_readHead_0 rfl (lv_at hl 0 rfl) ?_
  refine xg (C := RX3) (T := TX3) (N := 4) (v := .ref (b + 10)) hx hb hts inc3 hown hK hP (by omega) (cell3 (by decide)) rfl 0 (by decide) lk0 (fun _ h => h) rfl dX3_readHead_1 ?_
  refine xc_v (va_runV (As := []) (rest := []) ⟨hx, hb, hml, hown, hts⟩ (c_X6_next l D cy b n hn M (rdx1 (by repeat (first | with_reducible exact hrd | with_reducible apply rd_tk | with_reducible apply rd_fl | with_reducible apply rd_nx | with_reducible apply rd_ti)))) (cwV 0 hts gX3_readHead_X6_next rfl rfl rfl (by decide +kernel) ⟨Nat.le_of_ble_eq_true rfl, Nat.le_of_ble_eq_true rfl⟩) (xPreV hP hK hX hS (by omega) (cell6 (by decide)) rfl) rfl rfl hl.1 rfl (lv_room (Nat.le_of_ble_eq_true rfl)) dX3_readHead_4 ⟨Nat.le_of_ble_eq_true rfl, Nat.le_of_ble_eq_true rfl⟩) hS (fun H locs hP hS => ?_)
  refine lv_aload_n hx hb dX3_readHead_7 rfl (lv_at hl 0 rfl) ?_
  refine xg (C := RX3) (T := TX3) (N := 4) (v := .ref (b + 10)) hx hb hts inc3 hown hK hP (by omega) (cell3 (by decide)) rfl 0 (by decide) lk0 (fun _ h => h) rfl dX3_readHead_8 ?_
  refine va_ldcS hx hb hown (hwk 0 (by decide)) dX3_readHead_11 ?_
  refine xc_i (va_runV (As := [.ref (adK 0)]) (rest := []) ⟨hx, hb, hml, hown, hts⟩ (c_X6_isWord l D cy b n hn (gX6_next M) 0 (adK 0) (by decide) (rdx3 hrd).1 (rdx3 hrd).2) (cwV 1 hts gX3_readHead_X6_isWord rfl rfl rfl (by decide +kernel) ⟨Nat.le_of_ble_eq_true rfl, Nat.le_of_ble_eq_true rfl⟩) (xPreVW hP hK hX (hST 0 (by decide)) hS (by omega) (cell6 (by decide)) rfl) rfl rfl hl.1 rfl (lv_room (Nat.le_of_ble_eq_true rfl)) dX3_readHead_13 ⟨Nat.le_of_ble_eq_true rfl, Nat.le_of_ble_eq_true rfl⟩) hS (fun H locs hP hS => ?_)
  refine lv_if_ne (tgt := 24) hx hb dX3_readHead_16 (by decide) (fun c16 => ?_) (fun c16 => ?_)
  · refine lv_aload_n hx hb dX3_readHead_24 rfl (lv_at hl 0 rfl) ?_
    refine lv_iconst (v := 0) hx hb dX3_readHead_25 (by decide) ?_
    refine lv_bipush (v := 100) hx hb dX3_readHead_26 (by decide) ?_
    refine xc_i (va_runV (As := [.int (0 : Int32), .int (100 : Int32)]) (rest := []) ⟨hx, hb, hml, hown, hts⟩ (c_X3_takeNumber l D cy b n hn (gX6_next M) (0 : Int32) (100 : Int32) (rdx1 (by repeat (first | with_reducible exact hrd | with_reducible apply rd_tk | with_reducible apply rd_fl | with_reducible apply rd_nx | with_reducible apply rd_ti)))) (cwV 2 hts gX3_readHead_X3_takeNumber rfl rfl rfl (by decide +kernel) ⟨Nat.le_of_ble_eq_true rfl, Nat.le_of_ble_eq_true rfl⟩) (xPreV hP hK hX hS (by omega) (cell3 (by decide)) rfl) rfl rfl hl.1 rfl (lv_room (Nat.le_of_ble_eq_true rfl)) dX3_readHead_28 ⟨Nat.le_of_ble_eq_true rfl, Nat.le_of_ble_eq_true rfl⟩) hS (fun H locs hP hS => ?_)
    refine lv_istore_n (lv' := [(1, .int (fX3_takeNumber (gX6_next M) (0 : Int32) (100 : Int32))), (0, .ref (b + 9))]) hx hb dX3_readHead_31 rfl hl (by decide) rfl (fun ls hl => ?_)
    refine lv_aload_n hx hb dX3_readHead_32 rfl (lv_at hl 1 rfl) ?_
    refine lv_iconst (v := 0) hx hb dX3_readHead_33 (by decide) ?_
    refine lv_bipush (v := 40) hx hb dX3_readHead_34 (by decide) ?_
    refine xc_i (va_runV (As := [.int (0 : Int32), .int (40 : Int32)]) (rest := []) ⟨hx, hb, hml, hown, hts⟩ (c_X3_takeNumber l D cy b n hn (gX3_takeNumber (gX6_next M) (0 : Int32) (100 : Int32)) (0 : Int32) (40 : Int32) (rdx1 (by repeat (first | with_reducible exact hrd | with_reducible apply rd_tk | with_reducible apply rd_fl | with_reducible apply rd_nx | with_reducible apply rd_ti)))) (cwV 2 hts gX3_readHead_X3_takeNumber rfl rfl rfl (by decide +kernel) ⟨Nat.le_of_ble_eq_true rfl, Nat.le_of_ble_eq_true rfl⟩) (xPreV hP hK hX hS (by omega) (cell3 (by decide)) rfl) rfl rfl hl.1 rfl (lv_room (Nat.le_of_ble_eq_true rfl)) dX3_readHead_36 ⟨Nat.le_of_ble_eq_true rfl, Nat.le_of_ble_eq_true rfl⟩) hS (fun H locs hP hS => ?_)
    refine lv_istore_n (lv' := [(2, .int (fX3_takeNumber (gX3_takeNumber (gX6_next M) (0 : Int32) (100 : Int32)) (0 : Int32) (40 : Int32))), (1, .int (fX3_takeNumber (gX6_next M) (0 : Int32) (100 : Int32))), (0, .ref (b + 9))]) hx hb dX3_readHead_39 rfl hl (by decide) rfl (fun ls hl => ?_)
    refine lv_aload_n hx hb dX3_readHead_40 rfl (lv_at hl 2 rfl) ?_
    refine lv_iconst (v := 0) hx hb dX3_readHead_41 (by decide) ?_
    refine lv_iconst (v := 5) hx hb dX3_readHead_42 (by decide) ?_
    refine xc_i (va_runV (As := [.int (0 : Int32), .int (5 : Int32)]) (rest := []) ⟨hx, hb, hml, hown, hts⟩ (c_X3_takeNumber l D cy b n hn (gX3_takeNumber (gX3_takeNumber (gX6_next M) (0 : Int32) (100 : Int32)) (0 : Int32) (40 : Int32)) (0 : Int32) (5 : Int32) (rdx1 (by repeat (first | with_reducible exact hrd | with_reducible apply rd_tk | with_reducible apply rd_fl | with_reducible apply rd_nx | with_reducible apply rd_ti)))) (cwV 2 hts gX3_readHead_X3_takeNumber rfl rfl rfl (by decide +kernel) ⟨Nat.le_of_ble_eq_true rfl, Nat.le_of_ble_eq_true rfl⟩) (xPreV hP hK hX hS (by omega) (cell3 (by decide)) rfl) rfl rfl hl.1 rfl (lv_room (Nat.le_of_ble_eq_true rfl)) dX3_readHead_43 ⟨Nat.le_of_ble_eq_true rfl, Nat.le_of_ble_eq_true rfl⟩) hS (fun H locs hP hS => ?_)
    refine lv_istore_n (lv' := [(3, .int (fX3_takeNumber (gX3_takeNumber (gX3_takeNumber (gX6_next M) (0 : Int32) (100 : Int32)) (0 : Int32) (40 : Int32)) (0 : Int32) (5 : Int32))), (2, .int (fX3_takeNumber (gX3_takeNumber (gX6_next M) (0 : Int32) (100 : Int32)) (0 : Int32) (40 : Int32))), (1, .int (fX3_takeNumber (gX6_next M) (0 : Int32) (100 : Int32))), (0, .ref (b + 9))]) hx hb dX3_readHead_46 rfl hl (by decide) rfl (fun ls hl => ?_)
    refine lv_aload_n hx hb dX3_readHead_47 rfl (lv_at hl 3 rfl) ?_
    refine xg (C := RX3) (T := TX3) (N := 4) (v := .int ((gX3_takeNumber (gX3_takeNumber (gX3_takeNumber (gX6_next M) (0 : Int32) (100 : Int32)) (0 : Int32) (40 : Int32)) (0 : Int32) (5 : Int32)) 9 2)) hx hb hts inc3 hown hK hP (by omega) (cell3 (by decide)) rfl 2 (by decide) lk1 (fun _ h => h) rfl dX3_readHead_48 ?_
    refine lv_if_ne (tgt := 64) hx hb dX3_readHead_51 (by decide) (fun c51 => ?_) (fun c51 => ?_)
    · exact xe_v hx hb hr hlocks hP hS rfl (by rw [gX3_readHead, if_neg c16, if_neg c51] <;> rfl) (Nat.le_of_ble_eq_true rfl) (Nat.le_of_ble_eq_true rfl) dX3_readHead_64
    · refine lv_aload_n hx hb dX3_readHead_54 rfl (lv_at hl 3 rfl) ?_
      refine xg (C := RX3) (T := TX3) (N := 4) (v := .ref (b + 12)) hx hb hts inc3 hown hK hP (by omega) (cell3 (by decide)) rfl 1 (by decide) lk2 (fun _ h => h) rfl dX3_readHead_55 ?_
      refine lv_iload_n hx hb dX3_readHead_58 rfl (lv_at hl 2 rfl) ?_
      refine lv_iload_n hx hb dX3_readHead_59 rfl (lv_at hl 1 rfl) ?_
      refine lv_iload_n hx hb dX3_readHead_60 rfl (lv_at hl 0 rfl) ?_
      refine xc_v (va_runV (As := [.int (fX3_takeNumber (gX6_next M) (0 : Int32) (100 : Int32)), .int (fX3_takeNumber (gX3_takeNumber (gX6_next M) (0 : Int32) (100 : Int32)) (0 : Int32) (40 : Int32)), .int (fX3_takeNumber (gX3_takeNumber (gX3_takeNumber (gX6_next M) (0 : Int32) (100 : Int32)) (0 : Int32) (40 : Int32)) (0 : Int32) (5 : Int32))]) (rest := []) ⟨hx, hb, hml, hown, hts⟩ (c_X4_begin l D cy b n hn (gX3_takeNumber (gX3_takeNumber (gX3_takeNumber (gX6_next M) (0 : Int32) (100 : Int32)) (0 : Int32) (40 : Int32)) (0 : Int32) (5 : Int32)) 12 (fX3_takeNumber (gX6_next M) (0 : Int32) (100 : Int32)) (fX3_takeNumber (gX3_takeNumber (gX6_next M) (0 : Int32) (100 : Int32)) (0 : Int32) (40 : Int32)) (fX3_takeNumber (gX3_takeNumber (gX3_takeNumber (gX6_next M) (0 : Int32) (100 : Int32)) (0 : Int32) (40 : Int32)) (0 : Int32) (5 : Int32)) (by decide)) (cwV 3 hts gX3_readHead_X4_begin rfl rfl rfl (by decide +kernel) ⟨Nat.le_of_ble_eq_true rfl, Nat.le_of_ble_eq_true rfl⟩) (xPreV hP hK hX hS (by omega) (cell4 (by decide)) rfl) rfl rfl hl.1 rfl (lv_room (Nat.le_of_ble_eq_true rfl)) dX3_readHead_61 ⟨Nat.le_of_ble_eq_true rfl, Nat.le_of_ble_eq_true rfl⟩) hS (fun H locs hP hS => ?_)
      exact xe_v hx hb hr hlocks hP hS rfl (by rw [gX3_readHead, if_neg c16, if_pos c51] <;> rfl) (Nat.le_of_ble_eq_true rfl) (Nat.le_of_ble_eq_true rfl) dX3_readHead_64
  · refine lv_aload_n hx hb dX3_readHead_19 rfl (lv_at hl 0 rfl) ?_
    refine lv_iconst (v := 1) hx hb dX3_readHead_20 (by decide) ?_
    refine xc_v (va_runV (As := [.int (1 : Int32)]) (rest := []) ⟨hx, hb, hml, hown, hts⟩ (c_X3_fail l D cy b n hn (gX6_next M) (1 : Int32)) (cwV 1 hts gX3_readHead_X3_fail rfl rfl rfl (by decide +kernel) ⟨Nat.le_of_ble_eq_true rfl, Nat.le_of_ble_eq_true rfl⟩) (xPreV hP hK hX hS (by omega) (cell3 (by decide)) rfl) rfl rfl hl.1 rfl (lv_room (Nat.le_of_ble_eq_true rfl)) dX3_readHead_21 ⟨Nat.le_of_ble_eq_true rfl, Nat.le_of_ble_eq_true rfl⟩) hS (fun H locs hP hS => ?_)
    refine lv_aload_n hx hb dX3_readHead_24 rfl (lv_at hl 0 rfl) ?_
    refine lv_iconst (v := 0) hx hb dX3_readHead_25 (by decide) ?_
    refine lv_bipush (v := 100) hx hb dX3_readHead_26 (by decide) ?_
    refine xc_i (va_runV (As := [.int (0 : Int32), .int (100 : Int32)]) (rest := []) ⟨hx, hb, hml, hown, hts⟩ (c_X3_takeNumber l D cy b n hn (gX3_fail (gX6_next M) (1 : Int32)) (0 : Int32) (100 : Int32) (rdx1 (by repeat (first | with_reducible exact hrd | with_reducible apply rd_tk | with_reducible apply rd_fl | with_reducible apply rd_nx | with_reducible apply rd_ti)))) (cwV 2 hts gX3_readHead_X3_takeNumber rfl rfl rfl (by decide +kernel) ⟨Nat.le_of_ble_eq_true rfl, Nat.le_of_ble_eq_true rfl⟩) (xPreV hP hK hX hS (by omega) (cell3 (by decide)) rfl) rfl rfl hl.1 rfl (lv_room (Nat.le_of_ble_eq_true rfl)) dX3_readHead_28 ⟨Nat.le_of_ble_eq_true rfl, Nat.le_of_ble_eq_true rfl⟩) hS (fun H locs hP hS => ?_)
    refine lv_istore_n (lv' := [(1, .int (fX3_takeNumber (gX3_fail (gX6_next M) (1 : Int32)) (0 : Int32) (100 : Int32))), (0, .ref (b + 9))]) hx hb dX3_readHead_31 rfl hl (by decide) rfl (fun ls hl => ?_)
    refine lv_aload_n hx hb dX3_readHead_32 rfl (lv_at hl 1 rfl) ?_
    refine lv_iconst (v := 0) hx hb dX3_readHead_33 (by decide) ?_
    refine lv_bipush (v := 40) hx hb dX3_readHead_34 (by decide) ?_
    refine xc_i (va_runV (As := [.int (0 : Int32), .int (40 : Int32)]) (rest := []) ⟨hx, hb, hml, hown, hts⟩ (c_X3_takeNumber l D cy b n hn (gX3_takeNumber (gX3_fail (gX6_next M) (1 : Int32)) (0 : Int32) (100 : Int32)) (0 : Int32) (40 : Int32) (rdx1 (by repeat (first | with_reducible exact hrd | with_reducible apply rd_tk | with_reducible apply rd_fl | with_reducible apply rd_nx | with_reducible apply rd_ti)))) (cwV 2 hts gX3_readHead_X3_takeNumber rfl rfl rfl (by decide +kernel) ⟨Nat.le_of_ble_eq_true rfl, Nat.le_of_ble_eq_true rfl⟩) (xPreV hP hK hX hS (by omega) (cell3 (by decide)) rfl) rfl rfl hl.1 rfl (lv_room (Nat.le_of_ble_eq_true rfl)) dX3_readHead_36 ⟨Nat.le_of_ble_eq_true rfl, Nat.le_of_ble_eq_true rfl⟩) hS (fun H locs hP hS => ?_)
    refine lv_istore_n (lv' := [(2, .int (fX3_takeNumber (gX3_takeNumber (gX3_fail (gX6_next M) (1 : Int32)) (0 : Int32) (100 : Int32)) (0 : Int32) (40 : Int32))), (1, .int (fX3_takeNumber (gX3_fail (gX6_next M) (1 : Int32)) (0 : Int32) (100 : Int32))), (0, .ref (b + 9))]) hx hb dX3_readHead_39 rfl hl (by decide) rfl (fun ls hl => ?_)
    refine lv_aload_n hx hb dX3_readHead_40 rfl (lv_at hl 2 rfl) ?_
    refine lv_iconst (v := 0) hx hb dX3_readHead_41 (by decide) ?_
    refine lv_iconst (v := 5) hx hb dX3_readHead_42 (by decide) ?_
    refine xc_i (va_runV (As := [.int (0 : Int32), .int (5 : Int32)]) (rest := []) ⟨hx, hb, hml, hown, hts⟩ (c_X3_takeNumber l D cy b n hn (gX3_takeNumber (gX3_takeNumber (gX3_fail (gX6_next M) (1 : Int32)) (0 : Int32) (100 : Int32)) (0 : Int32) (40 : Int32)) (0 : Int32) (5 : Int32) (rdx1 (by repeat (first | with_reducible exact hrd | with_reducible apply rd_tk | with_reducible apply rd_fl | with_reducible apply rd_nx | with_reducible apply rd_ti)))) (cwV 2 hts gX3_readHead_X3_takeNumber rfl rfl rfl (by decide +kernel) ⟨Nat.le_of_ble_eq_true rfl, Nat.le_of_ble_eq_true rfl⟩) (xPreV hP hK hX hS (by omega) (cell3 (by decide)) rfl) rfl rfl hl.1 rfl (lv_room (Nat.le_of_ble_eq_true rfl)) dX3_readHead_43 ⟨Nat.le_of_ble_eq_true rfl, Nat.le_of_ble_eq_true rfl⟩) hS (fun H locs hP hS => ?_)
    refine lv_istore_n (lv' := [(3, .int (fX3_takeNumber (gX3_takeNumber (gX3_takeNumber (gX3_fail (gX6_next M) (1 : Int32)) (0 : Int32) (100 : Int32)) (0 : Int32) (40 : Int32)) (0 : Int32) (5 : Int32))), (2, .int (fX3_takeNumber (gX3_takeNumber (gX3_fail (gX6_next M) (1 : Int32)) (0 : Int32) (100 : Int32)) (0 : Int32) (40 : Int32))), (1, .int (fX3_takeNumber (gX3_fail (gX6_next M) (1 : Int32)) (0 : Int32) (100 : Int32))), (0, .ref (b + 9))]) hx hb dX3_readHead_46 rfl hl (by decide) rfl (fun ls hl => ?_)
    refine lv_aload_n hx hb dX3_readHead_47 rfl (lv_at hl 3 rfl) ?_
    refine xg (C := RX3) (T := TX3) (N := 4) (v := .int ((gX3_takeNumber (gX3_takeNumber (gX3_takeNumber (gX3_fail (gX6_next M) (1 : Int32)) (0 : Int32) (100 : Int32)) (0 : Int32) (40 : Int32)) (0 : Int32) (5 : Int32)) 9 2)) hx hb hts inc3 hown hK hP (by omega) (cell3 (by decide)) rfl 2 (by decide) lk1 (fun _ h => h) rfl dX3_readHead_48 ?_
    refine lv_if_ne (tgt := 64) hx hb dX3_readHead_51 (by decide) (fun c51 => ?_) (fun c51 => ?_)
    · exact xe_v hx hb hr hlocks hP hS rfl (by rw [gX3_readHead, if_pos c16, if_neg c51] <;> rfl) (Nat.le_of_ble_eq_true rfl) (Nat.le_of_ble_eq_true rfl) dX3_readHead_64
    · refine lv_aload_n hx hb dX3_readHead_54 rfl (lv_at hl 3 rfl) ?_
      refine xg (C := RX3) (T := TX3) (N := 4) (v := .ref (b + 12)) hx hb hts inc3 hown hK hP (by omega) (cell3 (by decide)) rfl 1 (by decide) lk2 (fun _ h => h) rfl dX3_readHead_55 ?_
      refine lv_iload_n hx hb dX3_readHead_58 rfl (lv_at hl 2 rfl) ?_
      refine lv_iload_n hx hb dX3_readHead_59 rfl (lv_at hl 1 rfl) ?_
      refine lv_iload_n hx hb dX3_readHead_60 rfl (lv_at hl 0 rfl) ?_
      refine xc_v (va_runV (As := [.int (fX3_takeNumber (gX3_fail (gX6_next M) (1 : Int32)) (0 : Int32) (100 : Int32)), .int (fX3_takeNumber (gX3_takeNumber (gX3_fail (gX6_next M) (1 : Int32)) (0 : Int32) (100 : Int32)) (0 : Int32) (40 : Int32)), .int (fX3_takeNumber (gX3_takeNumber (gX3_takeNumber (gX3_fail (gX6_next M) (1 : Int32)) (0 : Int32) (100 : Int32)) (0 : Int32) (40 : Int32)) (0 : Int32) (5 : Int32))]) (rest := []) ⟨hx, hb, hml, hown, hts⟩ (c_X4_begin l D cy b n hn (gX3_takeNumber (gX3_takeNumber (gX3_takeNumber (gX3_fail (gX6_next M) (1 : Int32)) (0 : Int32) (100 : Int32)) (0 : Int32) (40 : Int32)) (0 : Int32) (5 : Int32)) 12 (fX3_takeNumber (gX3_fail (gX6_next M) (1 : Int32)) (0 : Int32) (100 : Int32)) (fX3_takeNumber (gX3_takeNumber (gX3_fail (gX6_next M) (1 : Int32)) (0 : Int32) (100 : Int32)) (0 : Int32) (40 : Int32)) (fX3_takeNumber (gX3_takeNumber (gX3_takeNumber (gX3_fail (gX6_next M) (1 : Int32)) (0 : Int32) (100 : Int32)) (0 : Int32) (40 : Int32)) (0 : Int32) (5 : Int32)) (by decide)) (cwV 3 hts gX3_readHead_X4_begin rfl rfl rfl (by decide +kernel) ⟨Nat.le_of_ble_eq_true rfl, Nat.le_of_ble_eq_true rfl⟩) (xPreV hP hK hX hS (by omega) (cell4 (by decide)) rfl) rfl rfl hl.1 rfl (lv_room (Nat.le_of_ble_eq_true rfl)) dX3_readHead_61 ⟨Nat.le_of_ble_eq_true rfl, Nat.le_of_ble_eq_true rfl⟩) hS (fun H locs hP hS => ?_)
      exact xe_v hx hb hr hlocks hP hS rfl (by rw [gX3_readHead, if_pos c16, if_pos c51] <;> rfl) (Nat.le_of_ble_eq_true rfl) (Nat.le_of_ble_eq_true rfl) dX3_readHead_64
def gX3_readLine (M : Mem) : Mem := if (fX6_isWord (gX6_next M) 1) = 0 then (if (fX6_isWord (gX6_next M) 2) = 0 then (if (fX6_isWord (gX6_next M) 3) = 0 then (if (fX6_isWord (gX6_next M) 4) = 0 then (if (fX6_isWord (gX6_next M) 5) = 0 then (if (fX6_isWord (gX6_next M) 6) = 0 then (if (fX6_isWord (gX6_next M) 7) = 0 then (if (fX6_isWord (gX6_next M) 8) = 0 then (gX3_fail (gX6_next M) (1 : Int32)) else (gX3_readMinutes (gX6_next M))) else (gX3_readHumidity (gX6_next M))) else (match fX3_takeInstrument (gX6_next M) with | none => (gX3_readMoisten_null (gX3_takeInstrument (gX6_next M))) | some o128 => (gX3_readMoisten (gX3_takeInstrument (gX6_next M)) o128))) else (match fX3_takeInstrument (gX6_next M) with | none => (gX3_readTighten_null (gX3_takeInstrument (gX6_next M))) | some o105 => (gX3_readTighten (gX3_takeInstrument (gX6_next M)) o105))) else (match fX3_takeInstrument (gX6_next M) with | none => (gX3_readOut_null (gX3_takeInstrument (gX6_next M))) | some o82 => (gX3_readOut (gX3_takeInstrument (gX6_next M)) o82))) else (match fX3_takeInstrument (gX6_next M) with | none => (gX3_readBox_null (gX3_takeInstrument (gX6_next M))) | some o59 => (gX3_readBox (gX3_takeInstrument (gX6_next M)) o59))) else (gX3_readBulb (gX6_next M))) else (gX3_readHair (gX6_next M))
set_option maxHeartbeats 4000000 in
set_option maxRecDepth 100000 in
theorem c_X3_readLine (l : Launch) (D : va_G) (cy : Nat → ClassId) (b n : Nat) (hn : 124 ≤ n) (M : Mem)  (hrd : RD M) : Met l yX3_readLine wsX3_readLine ({ frames := 5, cells := 0, slots := 0, locals := 110 } : Room) (CP D cy b n fT M [.ref (b + 9)]) (CQv D cy b n fT (gX3_readLine M)) 0 0 (fr b) := by
  refine Met.ofW (cc := cX3_readLine) (maxL := 1) (ret := none) (by decide) rfl ?_
  intro p e s m args below meth c s₁ B hml hv
  obtain ⟨rfl, hP, hK, hX⟩ := hv
  have hx := B.exec
  have hb := B.bytes
  have hr := B.returns
  have hts := atoms_spec (ws := wsX3_readLine) B.pre
  have hown : s.vm.findClass RX3 = some m.cls := findClass_of_methodNamed B.named
  have hlocks := B.notSynchronized
  have lk0 := hts (.fieldLink RX3 12 "HygrometerRoom$Reader" "tokens" "LHygrometerRoom$Tokens;") (by decide +kernel)
  have inc3 : ∀ w ∈ u_ws RX3 TX3 4, w ∈ wsX3_readLine := by decide +kernel
  obtain ⟨adK, adV, hvS, hwk⟩ := id hX.2.2.2.2.1
  have hST : ∀ w, w < 9 → ST b w (adK w) s := fun w hw => ⟨adV w, (hvS.1 w hw).1, (hvS.1 w hw).2.1, (hvS.1 w hw).2.2.1, (hvS.1 w hw).2.2.2⟩
  have hS : va_S (fr b) s.heap s.heap [] := va_S.rf
  have hl := lv_entry ([.ref (b + 9)]) (n := 1) (Nat.le_of_ble_eq_true rfl)
  rw [lg_entry_eq]
  generalize (lg_sl ([.ref (b + 9)]) ++ List.replicate (1 - (lg_sl ([.ref (b + 9)])).length) Slot.unset).toArray = ls at hl ⊢
  have hl : lv_has ls 1 [(0, .ref (b + 9))] := hl
  refine lv_aload_n hx hb dX3_readLine_0 rfl (lv_at hl 0 rfl) ?_
  refine xg (C := RX3) (T := TX3) (N := 4) (v := .ref (b + 10)) hx hb hts inc3 hown hK hP (by omega) (cell3 (by decide)) rfl 0 (by decide) lk0 (fun _ h => h) rfl dX3_readLine_1 ?_
  refine xc_v (va_runV (As := []) (rest := []) ⟨hx, hb, hml, hown, hts⟩ (c_X6_next l D cy b n hn M (rdx1 (by repeat (first | with_reducible exact hrd | with_reducible apply rd_tk | with_reducible apply rd_fl | with_reducible apply rd_nx | with_reducible apply rd_ti)))) (cwV 0 hts gX3_readLine_X6_next rfl rfl rfl (by decide +kernel) ⟨Nat.le_of_ble_eq_true rfl, Nat.le_of_ble_eq_true rfl⟩) (xPreV hP hK hX hS (by omega) (cell6 (by decide)) rfl) rfl rfl hl.1 rfl (lv_room (Nat.le_of_ble_eq_true rfl)) dX3_readLine_4 ⟨Nat.le_of_ble_eq_true rfl, Nat.le_of_ble_eq_true rfl⟩) hS (fun H locs hP hS => ?_)
  refine lv_aload_n hx hb dX3_readLine_7 rfl (lv_at hl 0 rfl) ?_
  refine xg (C := RX3) (T := TX3) (N := 4) (v := .ref (b + 10)) hx hb hts inc3 hown hK hP (by omega) (cell3 (by decide)) rfl 0 (by decide) lk0 (fun _ h => h) rfl dX3_readLine_8 ?_
  refine va_ldcS hx hb hown (hwk 1 (by decide)) dX3_readLine_11 ?_
  refine xc_i (va_runV (As := [.ref (adK 1)]) (rest := []) ⟨hx, hb, hml, hown, hts⟩ (c_X6_isWord l D cy b n hn (gX6_next M) 1 (adK 1) (by decide) (rdx3 hrd).1 (rdx3 hrd).2) (cwV 1 hts gX3_readLine_X6_isWord rfl rfl rfl (by decide +kernel) ⟨Nat.le_of_ble_eq_true rfl, Nat.le_of_ble_eq_true rfl⟩) (xPreVW hP hK hX (hST 1 (by decide)) hS (by omega) (cell6 (by decide)) rfl) rfl rfl hl.1 rfl (lv_room (Nat.le_of_ble_eq_true rfl)) dX3_readLine_13 ⟨Nat.le_of_ble_eq_true rfl, Nat.le_of_ble_eq_true rfl⟩) hS (fun H locs hP hS => ?_)
  refine lv_if_eq (tgt := 26) hx hb dX3_readLine_16 (by decide) (fun c16 => ?_) (fun c16 => ?_)
  · refine lv_aload_n hx hb dX3_readLine_26 rfl (lv_at hl 0 rfl) ?_
    refine xg (C := RX3) (T := TX3) (N := 4) (v := .ref (b + 10)) hx hb hts inc3 hown hK hP (by omega) (cell3 (by decide)) rfl 0 (by decide) lk0 (fun _ h => h) rfl dX3_readLine_27 ?_
    refine va_ldcS hx hb hown (hwk 2 (by decide)) dX3_readLine_30 ?_
    refine xc_i (va_runV (As := [.ref (adK 2)]) (rest := []) ⟨hx, hb, hml, hown, hts⟩ (c_X6_isWord l D cy b n hn (gX6_next M) 2 (adK 2) (by decide) (rdx3 hrd).1 (rdx3 hrd).2) (cwV 1 hts gX3_readLine_X6_isWord rfl rfl rfl (by decide +kernel) ⟨Nat.le_of_ble_eq_true rfl, Nat.le_of_ble_eq_true rfl⟩) (xPreVW hP hK hX (hST 2 (by decide)) hS (by omega) (cell6 (by decide)) rfl) rfl rfl hl.1 rfl (lv_room (Nat.le_of_ble_eq_true rfl)) dX3_readLine_32 ⟨Nat.le_of_ble_eq_true rfl, Nat.le_of_ble_eq_true rfl⟩) hS (fun H locs hP hS => ?_)
    refine lv_if_eq (tgt := 45) hx hb dX3_readLine_35 (by decide) (fun c35 => ?_) (fun c35 => ?_)
    · refine lv_aload_n hx hb dX3_readLine_45 rfl (lv_at hl 0 rfl) ?_
      refine xg (C := RX3) (T := TX3) (N := 4) (v := .ref (b + 10)) hx hb hts inc3 hown hK hP (by omega) (cell3 (by decide)) rfl 0 (by decide) lk0 (fun _ h => h) rfl dX3_readLine_46 ?_
      refine va_ldcS hx hb hown (hwk 3 (by decide)) dX3_readLine_49 ?_
      refine xc_i (va_runV (As := [.ref (adK 3)]) (rest := []) ⟨hx, hb, hml, hown, hts⟩ (c_X6_isWord l D cy b n hn (gX6_next M) 3 (adK 3) (by decide) (rdx3 hrd).1 (rdx3 hrd).2) (cwV 1 hts gX3_readLine_X6_isWord rfl rfl rfl (by decide +kernel) ⟨Nat.le_of_ble_eq_true rfl, Nat.le_of_ble_eq_true rfl⟩) (xPreVW hP hK hX (hST 3 (by decide)) hS (by omega) (cell6 (by decide)) rfl) rfl rfl hl.1 rfl (lv_room (Nat.le_of_ble_eq_true rfl)) dX3_readLine_51 ⟨Nat.le_of_ble_eq_true rfl, Nat.le_of_ble_eq_true rfl⟩) hS (fun H locs hP hS => ?_)
      refine lv_if_eq (tgt := 68) hx hb dX3_readLine_54 (by decide) (fun c54 => ?_) (fun c54 => ?_)
      · refine lv_aload_n hx hb dX3_readLine_68 rfl (lv_at hl 0 rfl) ?_
        refine xg (C := RX3) (T := TX3) (N := 4) (v := .ref (b + 10)) hx hb hts inc3 hown hK hP (by omega) (cell3 (by decide)) rfl 0 (by decide) lk0 (fun _ h => h) rfl dX3_readLine_69 ?_
        refine va_ldcS hx hb hown (hwk 4 (by decide)) dX3_readLine_72 ?_
        refine xc_i (va_runV (As := [.ref (adK 4)]) (rest := []) ⟨hx, hb, hml, hown, hts⟩ (c_X6_isWord l D cy b n hn (gX6_next M) 4 (adK 4) (by decide) (rdx3 hrd).1 (rdx3 hrd).2) (cwV 1 hts gX3_readLine_X6_isWord rfl rfl rfl (by decide +kernel) ⟨Nat.le_of_ble_eq_true rfl, Nat.le_of_ble_eq_true rfl⟩) (xPreVW hP hK hX (hST 4 (by decide)) hS (by omega) (cell6 (by decide)) rfl) rfl rfl hl.1 rfl (lv_room (Nat.le_of_ble_eq_true rfl)) dX3_readLine_74 ⟨Nat.le_of_ble_eq_true rfl, Nat.le_of_ble_eq_true rfl⟩) hS (fun H locs hP hS => ?_)
        refine lv_if_eq (tgt := 91) hx hb dX3_readLine_77 (by decide) (fun c77 => ?_) (fun c77 => ?_)
        · refine lv_aload_n hx hb dX3_readLine_91 rfl (lv_at hl 0 rfl) ?_
          refine xg (C := RX3) (T := TX3) (N := 4) (v := .ref (b + 10)) hx hb hts inc3 hown hK hP (by omega) (cell3 (by decide)) rfl 0 (by decide) lk0 (fun _ h => h) rfl dX3_readLine_92 ?_
          refine va_ldcS hx hb hown (hwk 5 (by decide)) dX3_readLine_95 ?_
          refine xc_i (va_runV (As := [.ref (adK 5)]) (rest := []) ⟨hx, hb, hml, hown, hts⟩ (c_X6_isWord l D cy b n hn (gX6_next M) 5 (adK 5) (by decide) (rdx3 hrd).1 (rdx3 hrd).2) (cwV 1 hts gX3_readLine_X6_isWord rfl rfl rfl (by decide +kernel) ⟨Nat.le_of_ble_eq_true rfl, Nat.le_of_ble_eq_true rfl⟩) (xPreVW hP hK hX (hST 5 (by decide)) hS (by omega) (cell6 (by decide)) rfl) rfl rfl hl.1 rfl (lv_room (Nat.le_of_ble_eq_true rfl)) dX3_readLine_97 ⟨Nat.le_of_ble_eq_true rfl, Nat.le_of_ble_eq_true rfl⟩) hS (fun H locs hP hS => ?_)
          refine lv_if_eq (tgt := 114) hx hb dX3_readLine_100 (by decide) (fun c100 => ?_) (fun c100 => ?_)
          · refine lv_aload_n hx hb dX3_readLine_114 rfl (lv_at hl 0 rfl) ?_
            refine xg (C := RX3) (T := TX3) (N := 4) (v := .ref (b + 10)) hx hb hts inc3 hown hK hP (by omega) (cell3 (by decide)) rfl 0 (by decide) lk0 (fun _ h => h) rfl dX3_readLine_115 ?_
            refine va_ldcS hx hb hown (hwk 6 (by decide)) dX3_readLine_118 ?_
            refine xc_i (va_runV (As := [.ref (adK 6)]) (rest := []) ⟨hx, hb, hml, hown, hts⟩ (c_X6_isWord l D cy b n hn (gX6_next M) 6 (adK 6) (by decide) (rdx3 hrd).1 (rdx3 hrd).2) (cwV 1 hts gX3_readLine_X6_isWord rfl rfl rfl (by decide +kernel) ⟨Nat.le_of_ble_eq_true rfl, Nat.le_of_ble_eq_true rfl⟩) (xPreVW hP hK hX (hST 6 (by decide)) hS (by omega) (cell6 (by decide)) rfl) rfl rfl hl.1 rfl (lv_room (Nat.le_of_ble_eq_true rfl)) dX3_readLine_120 ⟨Nat.le_of_ble_eq_true rfl, Nat.le_of_ble_eq_true rfl⟩) hS (fun H locs hP hS => ?_)
            refine lv_if_eq (tgt := 137) hx hb dX3_readLine_123 (by decide) (fun c123 => ?_) (fun c123 => ?_)
            · refine lv_aload_n hx hb dX3_readLine_137 rfl (lv_at hl 0 rfl) ?_
              refine xg (C := RX3) (T := TX3) (N := 4) (v := .ref (b + 10)) hx hb hts inc3 hown hK hP (by omega) (cell3 (by decide)) rfl 0 (by decide) lk0 (fun _ h => h) rfl dX3_readLine_138 ?_
              refine va_ldcS hx hb hown (hwk 7 (by decide)) dX3_readLine_141 ?_
              refine xc_i (va_runV (As := [.ref (adK 7)]) (rest := []) ⟨hx, hb, hml, hown, hts⟩ (c_X6_isWord l D cy b n hn (gX6_next M) 7 (adK 7) (by decide) (rdx3 hrd).1 (rdx3 hrd).2) (cwV 1 hts gX3_readLine_X6_isWord rfl rfl rfl (by decide +kernel) ⟨Nat.le_of_ble_eq_true rfl, Nat.le_of_ble_eq_true rfl⟩) (xPreVW hP hK hX (hST 7 (by decide)) hS (by omega) (cell6 (by decide)) rfl) rfl rfl hl.1 rfl (lv_room (Nat.le_of_ble_eq_true rfl)) dX3_readLine_143 ⟨Nat.le_of_ble_eq_true rfl, Nat.le_of_ble_eq_true rfl⟩) hS (fun H locs hP hS => ?_)
              refine lv_if_eq (tgt := 156) hx hb dX3_readLine_146 (by decide) (fun c146 => ?_) (fun c146 => ?_)
              · refine lv_aload_n hx hb dX3_readLine_156 rfl (lv_at hl 0 rfl) ?_
                refine xg (C := RX3) (T := TX3) (N := 4) (v := .ref (b + 10)) hx hb hts inc3 hown hK hP (by omega) (cell3 (by decide)) rfl 0 (by decide) lk0 (fun _ h => h) rfl dX3_readLine_157 ?_
                refine va_ldcS hx hb hown (hwk 8 (by decide)) dX3_readLine_160 ?_
                refine xc_i (va_runV (As := [.ref (adK 8)]) (rest := []) ⟨hx, hb, hml, hown, hts⟩ (c_X6_isWord l D cy b n hn (gX6_next M) 8 (adK 8) (by decide) (rdx3 hrd).1 (rdx3 hrd).2) (cwV 1 hts gX3_readLine_X6_isWord rfl rfl rfl (by decide +kernel) ⟨Nat.le_of_ble_eq_true rfl, Nat.le_of_ble_eq_true rfl⟩) (xPreVW hP hK hX (hST 8 (by decide)) hS (by omega) (cell6 (by decide)) rfl) rfl rfl hl.1 rfl (lv_room (Nat.le_of_ble_eq_true rfl)) dX3_readLine_162 ⟨Nat.le_of_ble_eq_true rfl, Nat.le_of_ble_eq_true rfl⟩) hS (fun H locs hP hS => ?_)
                refine lv_if_eq (tgt := 175) hx hb dX3_readLine_165 (by decide) (fun c165 => ?_) (fun c165 => ?_)
                · refine lv_aload_n hx hb dX3_readLine_175 rfl (lv_at hl 0 rfl) ?_
                  refine lv_iconst (v := 1) hx hb dX3_readLine_176 (by decide) ?_
                  refine xc_v (va_runV (As := [.int (1 : Int32)]) (rest := []) ⟨hx, hb, hml, hown, hts⟩ (c_X3_fail l D cy b n hn (gX6_next M) (1 : Int32)) (cwV 1 hts gX3_readLine_X3_fail rfl rfl rfl (by decide +kernel) ⟨Nat.le_of_ble_eq_true rfl, Nat.le_of_ble_eq_true rfl⟩) (xPreV hP hK hX hS (by omega) (cell3 (by decide)) rfl) rfl rfl hl.1 rfl (lv_room (Nat.le_of_ble_eq_true rfl)) dX3_readLine_177 ⟨Nat.le_of_ble_eq_true rfl, Nat.le_of_ble_eq_true rfl⟩) hS (fun H locs hP hS => ?_)
                  exact xe_v hx hb hr hlocks hP hS rfl (by rw [gX3_readLine, if_pos c16, if_pos c35, if_pos c54, if_pos c77, if_pos c100, if_pos c123, if_pos c146, if_pos c165] <;> rfl) (Nat.le_of_ble_eq_true rfl) (Nat.le_of_ble_eq_true rfl) dX3_readLine_180
                · refine lv_aload_n hx hb dX3_readLine_168 rfl (lv_at hl 0 rfl) ?_
                  refine xc_v (va_runV (As := []) (rest := []) ⟨hx, hb, hml, hown, hts⟩ (c_X3_readMinutes l D cy b n hn (gX6_next M) (rdx1 (by repeat (first | with_reducible exact hrd | with_reducible apply rd_tk | with_reducible apply rd_fl | with_reducible apply rd_nx | with_reducible apply rd_ti))) (rdx2 (by repeat (first | with_reducible exact hrd | with_reducible apply rd_tk | with_reducible apply rd_fl | with_reducible apply rd_nx | with_reducible apply rd_ti)))) (cwV 0 hts gX3_readLine_X3_readMinutes rfl rfl rfl (by decide +kernel) ⟨Nat.le_of_ble_eq_true rfl, Nat.le_of_ble_eq_true rfl⟩) (xPreV hP hK hX hS (by omega) (cell3 (by decide)) rfl) rfl rfl hl.1 rfl (lv_room (Nat.le_of_ble_eq_true rfl)) dX3_readLine_169 ⟨Nat.le_of_ble_eq_true rfl, Nat.le_of_ble_eq_true rfl⟩) hS (fun H locs hP hS => ?_)
                  refine lv_goto (tgt := 180) hx hb dX3_readLine_172 (by decide) ?_
                  exact xe_v hx hb hr hlocks hP hS rfl (by rw [gX3_readLine, if_pos c16, if_pos c35, if_pos c54, if_pos c77, if_pos c100, if_pos c123, if_pos c146, if_neg c165] <;> rfl) (Nat.le_of_ble_eq_true rfl) (Nat.le_of_ble_eq_true rfl) dX3_readLine_180
              · refine lv_aload_n hx hb dX3_readLine_149 rfl (lv_at hl 0 rfl) ?_
                refine xc_v (va_runV (As := []) (rest := []) ⟨hx, hb, hml, hown, hts⟩ (c_X3_readHumidity l D cy b n hn (gX6_next M) (rdx1 (by repeat (first | with_reducible exact hrd | with_reducible apply rd_tk | with_reducible apply rd_fl | with_reducible apply rd_nx | with_reducible apply rd_ti)))) (cwV 0 hts gX3_readLine_X3_readHumidity rfl rfl rfl (by decide +kernel) ⟨Nat.le_of_ble_eq_true rfl, Nat.le_of_ble_eq_true rfl⟩) (xPreV hP hK hX hS (by omega) (cell3 (by decide)) rfl) rfl rfl hl.1 rfl (lv_room (Nat.le_of_ble_eq_true rfl)) dX3_readLine_150 ⟨Nat.le_of_ble_eq_true rfl, Nat.le_of_ble_eq_true rfl⟩) hS (fun H locs hP hS => ?_)
                refine lv_goto (tgt := 180) hx hb dX3_readLine_153 (by decide) ?_
                exact xe_v hx hb hr hlocks hP hS rfl (by rw [gX3_readLine, if_pos c16, if_pos c35, if_pos c54, if_pos c77, if_pos c100, if_pos c123, if_neg c146] <;> rfl) (Nat.le_of_ble_eq_true rfl) (Nat.le_of_ble_eq_true rfl) dX3_readLine_180
            · refine lv_aload_n hx hb dX3_readLine_126 rfl (lv_at hl 0 rfl) ?_
              refine lv_aload_n hx hb dX3_readLine_127 rfl (lv_at hl 0 rfl) ?_
              refine xc_q (va_runV (As := []) (rest := [.ref (b + 9)]) ⟨hx, hb, hml, hown, hts⟩ (c_X3_takeInstrument l D cy b n hn (gX6_next M) (rdx1 (by repeat (first | with_reducible exact hrd | with_reducible apply rd_tk | with_reducible apply rd_fl | with_reducible apply rd_nx | with_reducible apply rd_ti))) (rdx2 (by repeat (first | with_reducible exact hrd | with_reducible apply rd_tk | with_reducible apply rd_fl | with_reducible apply rd_nx | with_reducible apply rd_ti)))) (cwV 0 hts gX3_readLine_X3_takeInstrument rfl rfl rfl (by decide +kernel) ⟨Nat.le_of_ble_eq_true rfl, Nat.le_of_ble_eq_true rfl⟩) (xPreV hP hK hX hS (by omega) (cell3 (by decide)) rfl) rfl rfl hl.1 rfl (lv_room (Nat.le_of_ble_eq_true rfl)) dX3_readLine_128 ⟨Nat.le_of_ble_eq_true rfl, Nat.le_of_ble_eq_true rfl⟩) hS (fun H locs hP hS => ?_)
              cases hq128 : fX3_takeInstrument (gX6_next M) with
              | none =>
                refine W.eq (g2 := F0 m 131 ls (.null :: .ref (b + 9) :: [])) rfl ?_
                refine xc_v (va_runV (As := [.null]) (rest := []) ⟨hx, hb, hml, hown, hts⟩ (c_X3_readMoisten_null l D cy b n hn (gX3_takeInstrument (gX6_next M)) ) (cwV 1 hts gX3_readLine_X3_readMoisten rfl rfl rfl (by decide +kernel) ⟨Nat.le_of_ble_eq_true rfl, Nat.le_of_ble_eq_true rfl⟩) (xPreV hP hK hX hS (by omega) (cell3 (by decide)) rfl) rfl rfl hl.1 rfl (lv_room (Nat.le_of_ble_eq_true rfl)) dX3_readLine_131 ⟨Nat.le_of_ble_eq_true rfl, Nat.le_of_ble_eq_true rfl⟩) hS (fun H locs hP hS => ?_)
                refine lv_goto (tgt := 180) hx hb dX3_readLine_134 (by decide) ?_
                exact xe_v hx hb hr hlocks hP hS rfl (by simp only [gX3_readLine, if_pos c16, if_pos c35, if_pos c54, if_pos c77, if_pos c100, if_neg c123, hq128]) (Nat.le_of_ble_eq_true rfl) (Nat.le_of_ble_eq_true rfl) dX3_readLine_180
              | some o128 =>
                refine W.eq (g2 := F0 m 131 ls (.ref (b + o128) :: .ref (b + 9) :: [])) rfl ?_
                refine xc_v (va_runV (As := [.ref (b + o128)]) (rest := []) ⟨hx, hb, hml, hown, hts⟩ (c_X3_readMoisten l D cy b n hn (gX3_takeInstrument (gX6_next M)) o128 (ti_kd (rd_nx hrd).2 hq128)) (cwV 1 hts gX3_readLine_X3_readMoisten rfl rfl rfl (by decide +kernel) ⟨Nat.le_of_ble_eq_true rfl, Nat.le_of_ble_eq_true rfl⟩) (xPreV hP hK hX hS (by omega) (cell3 (by decide)) rfl) rfl rfl hl.1 rfl (lv_room (Nat.le_of_ble_eq_true rfl)) dX3_readLine_131 ⟨Nat.le_of_ble_eq_true rfl, Nat.le_of_ble_eq_true rfl⟩) hS (fun H locs hP hS => ?_)
                refine lv_goto (tgt := 180) hx hb dX3_readLine_134 (by decide) ?_
                exact xe_v hx hb hr hlocks hP hS rfl (by simp only [gX3_readLine, if_pos c16, if_pos c35, if_pos c54, if_pos c77, if_pos c100, if_neg c123, hq128]) (Nat.le_of_ble_eq_true rfl) (Nat.le_of_ble_eq_true rfl) dX3_readLine_180
          · refine lv_aload_n hx hb dX3_readLine_103 rfl (lv_at hl 0 rfl) ?_
            refine lv_aload_n hx hb dX3_readLine_104 rfl (lv_at hl 0 rfl) ?_
            refine xc_q (va_runV (As := []) (rest := [.ref (b + 9)]) ⟨hx, hb, hml, hown, hts⟩ (c_X3_takeInstrument l D cy b n hn (gX6_next M) (rdx1 (by repeat (first | with_reducible exact hrd | with_reducible apply rd_tk | with_reducible apply rd_fl | with_reducible apply rd_nx | with_reducible apply rd_ti))) (rdx2 (by repeat (first | with_reducible exact hrd | with_reducible apply rd_tk | with_reducible apply rd_fl | with_reducible apply rd_nx | with_reducible apply rd_ti)))) (cwV 0 hts gX3_readLine_X3_takeInstrument rfl rfl rfl (by decide +kernel) ⟨Nat.le_of_ble_eq_true rfl, Nat.le_of_ble_eq_true rfl⟩) (xPreV hP hK hX hS (by omega) (cell3 (by decide)) rfl) rfl rfl hl.1 rfl (lv_room (Nat.le_of_ble_eq_true rfl)) dX3_readLine_105 ⟨Nat.le_of_ble_eq_true rfl, Nat.le_of_ble_eq_true rfl⟩) hS (fun H locs hP hS => ?_)
            cases hq105 : fX3_takeInstrument (gX6_next M) with
            | none =>
              refine W.eq (g2 := F0 m 108 ls (.null :: .ref (b + 9) :: [])) rfl ?_
              refine xc_v (va_runV (As := [.null]) (rest := []) ⟨hx, hb, hml, hown, hts⟩ (c_X3_readTighten_null l D cy b n hn (gX3_takeInstrument (gX6_next M)) ) (cwV 1 hts gX3_readLine_X3_readTighten rfl rfl rfl (by decide +kernel) ⟨Nat.le_of_ble_eq_true rfl, Nat.le_of_ble_eq_true rfl⟩) (xPreV hP hK hX hS (by omega) (cell3 (by decide)) rfl) rfl rfl hl.1 rfl (lv_room (Nat.le_of_ble_eq_true rfl)) dX3_readLine_108 ⟨Nat.le_of_ble_eq_true rfl, Nat.le_of_ble_eq_true rfl⟩) hS (fun H locs hP hS => ?_)
              refine lv_goto (tgt := 180) hx hb dX3_readLine_111 (by decide) ?_
              exact xe_v hx hb hr hlocks hP hS rfl (by simp only [gX3_readLine, if_pos c16, if_pos c35, if_pos c54, if_pos c77, if_neg c100, hq105]) (Nat.le_of_ble_eq_true rfl) (Nat.le_of_ble_eq_true rfl) dX3_readLine_180
            | some o105 =>
              refine W.eq (g2 := F0 m 108 ls (.ref (b + o105) :: .ref (b + 9) :: [])) rfl ?_
              refine xc_v (va_runV (As := [.ref (b + o105)]) (rest := []) ⟨hx, hb, hml, hown, hts⟩ (c_X3_readTighten l D cy b n hn (gX3_takeInstrument (gX6_next M)) o105 (ti_kd (rd_nx hrd).2 hq105)) (cwV 1 hts gX3_readLine_X3_readTighten rfl rfl rfl (by decide +kernel) ⟨Nat.le_of_ble_eq_true rfl, Nat.le_of_ble_eq_true rfl⟩) (xPreV hP hK hX hS (by omega) (cell3 (by decide)) rfl) rfl rfl hl.1 rfl (lv_room (Nat.le_of_ble_eq_true rfl)) dX3_readLine_108 ⟨Nat.le_of_ble_eq_true rfl, Nat.le_of_ble_eq_true rfl⟩) hS (fun H locs hP hS => ?_)
              refine lv_goto (tgt := 180) hx hb dX3_readLine_111 (by decide) ?_
              exact xe_v hx hb hr hlocks hP hS rfl (by simp only [gX3_readLine, if_pos c16, if_pos c35, if_pos c54, if_pos c77, if_neg c100, hq105]) (Nat.le_of_ble_eq_true rfl) (Nat.le_of_ble_eq_true rfl) dX3_readLine_180
        · refine lv_aload_n hx hb dX3_readLine_80 rfl (lv_at hl 0 rfl) ?_
          refine lv_aload_n hx hb dX3_readLine_81 rfl (lv_at hl 0 rfl) ?_
          refine xc_q (va_runV (As := []) (rest := [.ref (b + 9)]) ⟨hx, hb, hml, hown, hts⟩ (c_X3_takeInstrument l D cy b n hn (gX6_next M) (rdx1 (by repeat (first | with_reducible exact hrd | with_reducible apply rd_tk | with_reducible apply rd_fl | with_reducible apply rd_nx | with_reducible apply rd_ti))) (rdx2 (by repeat (first | with_reducible exact hrd | with_reducible apply rd_tk | with_reducible apply rd_fl | with_reducible apply rd_nx | with_reducible apply rd_ti)))) (cwV 0 hts gX3_readLine_X3_takeInstrument rfl rfl rfl (by decide +kernel) ⟨Nat.le_of_ble_eq_true rfl, Nat.le_of_ble_eq_true rfl⟩) (xPreV hP hK hX hS (by omega) (cell3 (by decide)) rfl) rfl rfl hl.1 rfl (lv_room (Nat.le_of_ble_eq_true rfl)) dX3_readLine_82 ⟨Nat.le_of_ble_eq_true rfl, Nat.le_of_ble_eq_true rfl⟩) hS (fun H locs hP hS => ?_)
          cases hq82 : fX3_takeInstrument (gX6_next M) with
          | none =>
            refine W.eq (g2 := F0 m 85 ls (.null :: .ref (b + 9) :: [])) rfl ?_
            refine xc_v (va_runV (As := [.null]) (rest := []) ⟨hx, hb, hml, hown, hts⟩ (c_X3_readOut_null l D cy b n hn (gX3_takeInstrument (gX6_next M)) ) (cwV 1 hts gX3_readLine_X3_readOut rfl rfl rfl (by decide +kernel) ⟨Nat.le_of_ble_eq_true rfl, Nat.le_of_ble_eq_true rfl⟩) (xPreV hP hK hX hS (by omega) (cell3 (by decide)) rfl) rfl rfl hl.1 rfl (lv_room (Nat.le_of_ble_eq_true rfl)) dX3_readLine_85 ⟨Nat.le_of_ble_eq_true rfl, Nat.le_of_ble_eq_true rfl⟩) hS (fun H locs hP hS => ?_)
            refine lv_goto (tgt := 180) hx hb dX3_readLine_88 (by decide) ?_
            exact xe_v hx hb hr hlocks hP hS rfl (by simp only [gX3_readLine, if_pos c16, if_pos c35, if_pos c54, if_neg c77, hq82]) (Nat.le_of_ble_eq_true rfl) (Nat.le_of_ble_eq_true rfl) dX3_readLine_180
          | some o82 =>
            refine W.eq (g2 := F0 m 85 ls (.ref (b + o82) :: .ref (b + 9) :: [])) rfl ?_
            refine xc_v (va_runV (As := [.ref (b + o82)]) (rest := []) ⟨hx, hb, hml, hown, hts⟩ (c_X3_readOut l D cy b n hn (gX3_takeInstrument (gX6_next M)) o82 (ti_kd (rd_nx hrd).2 hq82)) (cwV 1 hts gX3_readLine_X3_readOut rfl rfl rfl (by decide +kernel) ⟨Nat.le_of_ble_eq_true rfl, Nat.le_of_ble_eq_true rfl⟩) (xPreV hP hK hX hS (by omega) (cell3 (by decide)) rfl) rfl rfl hl.1 rfl (lv_room (Nat.le_of_ble_eq_true rfl)) dX3_readLine_85 ⟨Nat.le_of_ble_eq_true rfl, Nat.le_of_ble_eq_true rfl⟩) hS (fun H locs hP hS => ?_)
            refine lv_goto (tgt := 180) hx hb dX3_readLine_88 (by decide) ?_
            exact xe_v hx hb hr hlocks hP hS rfl (by simp only [gX3_readLine, if_pos c16, if_pos c35, if_pos c54, if_neg c77, hq82]) (Nat.le_of_ble_eq_true rfl) (Nat.le_of_ble_eq_true rfl) dX3_readLine_180
      · refine lv_aload_n hx hb dX3_readLine_57 rfl (lv_at hl 0 rfl) ?_
        refine lv_aload_n hx hb dX3_readLine_58 rfl (lv_at hl 0 rfl) ?_
        refine xc_q (va_runV (As := []) (rest := [.ref (b + 9)]) ⟨hx, hb, hml, hown, hts⟩ (c_X3_takeInstrument l D cy b n hn (gX6_next M) (rdx1 (by repeat (first | with_reducible exact hrd | with_reducible apply rd_tk | with_reducible apply rd_fl | with_reducible apply rd_nx | with_reducible apply rd_ti))) (rdx2 (by repeat (first | with_reducible exact hrd | with_reducible apply rd_tk | with_reducible apply rd_fl | with_reducible apply rd_nx | with_reducible apply rd_ti)))) (cwV 0 hts gX3_readLine_X3_takeInstrument rfl rfl rfl (by decide +kernel) ⟨Nat.le_of_ble_eq_true rfl, Nat.le_of_ble_eq_true rfl⟩) (xPreV hP hK hX hS (by omega) (cell3 (by decide)) rfl) rfl rfl hl.1 rfl (lv_room (Nat.le_of_ble_eq_true rfl)) dX3_readLine_59 ⟨Nat.le_of_ble_eq_true rfl, Nat.le_of_ble_eq_true rfl⟩) hS (fun H locs hP hS => ?_)
        cases hq59 : fX3_takeInstrument (gX6_next M) with
        | none =>
          refine W.eq (g2 := F0 m 62 ls (.null :: .ref (b + 9) :: [])) rfl ?_
          refine xc_v (va_runV (As := [.null]) (rest := []) ⟨hx, hb, hml, hown, hts⟩ (c_X3_readBox_null l D cy b n hn (gX3_takeInstrument (gX6_next M)) ) (cwV 1 hts gX3_readLine_X3_readBox rfl rfl rfl (by decide +kernel) ⟨Nat.le_of_ble_eq_true rfl, Nat.le_of_ble_eq_true rfl⟩) (xPreV hP hK hX hS (by omega) (cell3 (by decide)) rfl) rfl rfl hl.1 rfl (lv_room (Nat.le_of_ble_eq_true rfl)) dX3_readLine_62 ⟨Nat.le_of_ble_eq_true rfl, Nat.le_of_ble_eq_true rfl⟩) hS (fun H locs hP hS => ?_)
          refine lv_goto (tgt := 180) hx hb dX3_readLine_65 (by decide) ?_
          exact xe_v hx hb hr hlocks hP hS rfl (by simp only [gX3_readLine, if_pos c16, if_pos c35, if_neg c54, hq59]) (Nat.le_of_ble_eq_true rfl) (Nat.le_of_ble_eq_true rfl) dX3_readLine_180
        | some o59 =>
          refine W.eq (g2 := F0 m 62 ls (.ref (b + o59) :: .ref (b + 9) :: [])) rfl ?_
          refine xc_v (va_runV (As := [.ref (b + o59)]) (rest := []) ⟨hx, hb, hml, hown, hts⟩ (c_X3_readBox l D cy b n hn (gX3_takeInstrument (gX6_next M)) o59 (ti_kd (rd_nx hrd).2 hq59) (rdx1 (by repeat (first | with_reducible exact hrd | with_reducible apply rd_tk | with_reducible apply rd_fl | with_reducible apply rd_nx | with_reducible apply rd_ti)))) (cwV 1 hts gX3_readLine_X3_readBox rfl rfl rfl (by decide +kernel) ⟨Nat.le_of_ble_eq_true rfl, Nat.le_of_ble_eq_true rfl⟩) (xPreV hP hK hX hS (by omega) (cell3 (by decide)) rfl) rfl rfl hl.1 rfl (lv_room (Nat.le_of_ble_eq_true rfl)) dX3_readLine_62 ⟨Nat.le_of_ble_eq_true rfl, Nat.le_of_ble_eq_true rfl⟩) hS (fun H locs hP hS => ?_)
          refine lv_goto (tgt := 180) hx hb dX3_readLine_65 (by decide) ?_
          exact xe_v hx hb hr hlocks hP hS rfl (by simp only [gX3_readLine, if_pos c16, if_pos c35, if_neg c54, hq59]) (Nat.le_of_ble_eq_true rfl) (Nat.le_of_ble_eq_true rfl) dX3_readLine_180
    · refine lv_aload_n hx hb dX3_readLine_38 rfl (lv_at hl 0 rfl) ?_
      refine xc_v (va_runV (As := []) (rest := []) ⟨hx, hb, hml, hown, hts⟩ (c_X3_readBulb l D cy b n hn (gX6_next M) (rdx1 (by repeat (first | with_reducible exact hrd | with_reducible apply rd_tk | with_reducible apply rd_fl | with_reducible apply rd_nx | with_reducible apply rd_ti))) (rdx2 (by repeat (first | with_reducible exact hrd | with_reducible apply rd_tk | with_reducible apply rd_fl | with_reducible apply rd_nx | with_reducible apply rd_ti)))) (cwV 0 hts gX3_readLine_X3_readBulb rfl rfl rfl (by decide +kernel) ⟨Nat.le_of_ble_eq_true rfl, Nat.le_of_ble_eq_true rfl⟩) (xPreV hP hK hX hS (by omega) (cell3 (by decide)) rfl) rfl rfl hl.1 rfl (lv_room (Nat.le_of_ble_eq_true rfl)) dX3_readLine_39 ⟨Nat.le_of_ble_eq_true rfl, Nat.le_of_ble_eq_true rfl⟩) hS (fun H locs hP hS => ?_)
      refine lv_goto (tgt := 180) hx hb dX3_readLine_42 (by decide) ?_
      exact xe_v hx hb hr hlocks hP hS rfl (by rw [gX3_readLine, if_pos c16, if_neg c35] <;> rfl) (Nat.le_of_ble_eq_true rfl) (Nat.le_of_ble_eq_true rfl) dX3_readLine_180
  · refine lv_aload_n hx hb dX3_readLine_19 rfl (lv_at hl 0 rfl) ?_
    refine xc_v (va_runV (As := []) (rest := []) ⟨hx, hb, hml, hown, hts⟩ (c_X3_readHair l D cy b n hn (gX6_next M) (rdx1 (by repeat (first | with_reducible exact hrd | with_reducible apply rd_tk | with_reducible apply rd_fl | with_reducible apply rd_nx | with_reducible apply rd_ti))) (rdx2 (by repeat (first | with_reducible exact hrd | with_reducible apply rd_tk | with_reducible apply rd_fl | with_reducible apply rd_nx | with_reducible apply rd_ti)))) (cwV 0 hts gX3_readLine_X3_readHair rfl rfl rfl (by decide +kernel) ⟨Nat.le_of_ble_eq_true rfl, Nat.le_of_ble_eq_true rfl⟩) (xPreV hP hK hX hS (by omega) (cell3 (by decide)) rfl) rfl rfl hl.1 rfl (lv_room (Nat.le_of_ble_eq_true rfl)) dX3_readLine_20 ⟨Nat.le_of_ble_eq_true rfl, Nat.le_of_ble_eq_true rfl⟩) hS (fun H locs hP hS => ?_)
    refine lv_goto (tgt := 180) hx hb dX3_readLine_23 (by decide) ?_
    exact xe_v hx hb hr hlocks hP hS rfl (by rw [gX3_readLine, if_neg c16] <;> rfl) (Nat.le_of_ble_eq_true rfl) (Nat.le_of_ble_eq_true rfl) dX3_readLine_180
theorem rd_ite {c : Prop} [Decidable c] {A B : Mem} (ha : RD A) (hb : RD B) : RD (if c then A else B) := by
  split
  · exact ha
  · exact hb
theorem rd_head {M : Mem} (h : RD M) : RD (gX3_readHead M) := by
  unfold gX3_readHead
  repeat' (first | with_reducible exact h | with_reducible apply rd_ite | with_reducible apply rd_begin | with_reducible apply rd_tk | with_reducible apply rd_fl | with_reducible apply rd_nx)
theorem rd_line {M : Mem} (h : RD M) : RD (gX3_readLine M) := by
  have h2 := rd_nx h
  have h3 := rd_ti h2
  unfold gX3_readLine
  cases hq : fX3_takeInstrument (gX6_next M) with
  | none =>
    dsimp only
    repeat' (first
      | with_reducible exact rd_rhum h2
      | with_reducible exact rd_rmin h2
      | with_reducible exact rd_rhair h2
      | with_reducible exact rd_rbulb h2
      | with_reducible exact rd_fl h2
      | with_reducible exact h3
      | with_reducible apply rd_ite)
    all_goals exact h3
  | some o =>
    have hk := ti_kd h2.2 hq
    dsimp only
    repeat' (first
      | with_reducible exact rd_rhum h2
      | with_reducible exact rd_rmin h2
      | with_reducible exact rd_rhair h2
      | with_reducible exact rd_rbulb h2
      | with_reducible exact rd_fl h2
      | with_reducible exact rd_rbox hk h3
      | with_reducible exact rd_rout hk h3
      | with_reducible exact rd_rtig hk h3
      | with_reducible exact rd_rmoi hk h3
      | with_reducible apply rd_ite)
theorem rd_beg {M : Mem} {x : Int32} (hx : UB x 600) (hf : TF M) (hc : CNT M 12) : RD (gX6_begin M x) := by
  have hm : UB (xmin x (M 10 1)) 600 := by unfold xmin; split <;> assumption
  unfold gX6_begin
  exact ⟨⟨hm, ⟨0, by decide, rfl⟩⟩, cnt_putn (by decide) (cnt_putn (by decide) (cnt_putn (by decide) (cnt_putn (by decide) hc)))⟩
theorem pm_lt {x : Int32} {j : Nat} (hx : UB x 600) (hc : ¬ x < nI j) (hj : j ≤ 601 := by omega) : j < 601 := by
  obtain ⟨k, hk, rfl⟩ := hx
  rw [nI_ltI (by omega) (by omega)] at hc
  omega
def LX3_parse_24g (x : Int32) : Nat → Mem → Nat → Mem
  | 0, M, _ => M
  | k + 1, M, j => if x < (nI (j)) then (mU M 10 1 (0 : Int32)) else (if (M 9 2) = 0 then (if ((gX6_next M) 10 5) = 0 then (mU (gX6_next M) 10 1 (0 : Int32)) else (if ((gX6_next M) 10 5) = (3 : Int32) then (LX3_parse_24g x k (gX3_readLine (gX6_next M)) (j + 1)) else (LX3_parse_24g x k (gX3_fail (gX6_next M) (1 : Int32)) (j + 1)))) else (mU M 10 1 (0 : Int32)))
set_option maxHeartbeats 4000000 in
set_option maxRecDepth 100000 in
theorem cl_X3_parse_24 (l : Launch) (D : va_G) (cy : Nat → ClassId) (b n : Nat) (hn : 124 ≤ n) (x : Int32) (hux : UB x 600) {p : Program} {e : Env} {s : State} {m : MethodId} {args : Array Value} {below : List Frame} {meth : Method} {c : Code} (hx : p.tables.exec = Jvm.exec) (hb : c.code = cX3_parse) (hr : meth.sig.returnType = none) (hlocks : meth.locks = false) (hml : c.maxLocals = 3) (hown : s.vm.findClass RX3 = some m.cls) (hts : ∀ w ∈ wsX3_parse, w.before args s = true) (hK : va_K D vwCl (tysW cy) s) (hX : SX b s)  : ∀ (k : Nat) (M : Mem) (j : Nat) (H : Heap) (locs : List Loc) (ls : Array Slot), RD M → j ≤ 601 → 602 ≤ j + k → va_P D vwCl (wL cy b fT M n) H → va_S (fr b) s.heap H locs → lv_has ls 3 [(0, .ref (b + 9)), (1, .int x), (2, .int (nI (j)))] → W p l e (headSpec wsX3_parse ({ frames := 6, cells := 0, slots := 0, locals := 130 } : Room)).room s m args below meth c H locs 0 0 (MQ below (CQv D cy b n fT (LX3_parse_24g x k M j)) args s 0 0 (fr b)) (F0 m 24 ls []) := by
  have lk0 := hts (.fieldLink RX3 12 "HygrometerRoom$Reader" "tokens" "LHygrometerRoom$Tokens;") (by decide +kernel)
  have lk1 := hts (.fieldLink RX3 51 "HygrometerRoom$Tokens" "filled" "I") (by decide +kernel)
  have lk2 := hts (.fieldLink RX3 29 "HygrometerRoom$Reader" "errorKind" "I") (by decide +kernel)
  have lk3 := hts (.fieldLink RX3 42 "HygrometerRoom$Tokens" "kind" "I") (by decide +kernel)
  have inc3 : ∀ w ∈ u_ws RX3 TX3 4, w ∈ wsX3_parse := by decide +kernel
  have inc6 : ∀ w ∈ u_ws RX6 TX6 6, w ∈ wsX3_parse := by decide +kernel
  intro k
  induction k with
  | zero => intro M j H locs ls hrd hj hk hP hS hl; omega
  | succ k ih =>
    intro M j H locs ls hrd hj hk hP hS hl
    refine lv_iload_n hx hb dX3_parse_24 rfl (lv_at hl 2 rfl) ?_
    refine lv_iload_n hx hb dX3_parse_25 rfl (lv_at hl 1 rfl) ?_
    refine lv_icmp_gt (tgt := 85) hx hb dX3_parse_26 (by decide) (fun c26 => ?_) (fun c26 => ?_)
    · refine lv_aload_n hx hb dX3_parse_85 rfl (lv_at hl 0 rfl) ?_
      refine xg (C := RX3) (T := TX3) (N := 4) (v := .ref (b + 10)) hx hb hts inc3 hown hK hP (by omega) (cell3 (by decide)) rfl 0 (by decide) lk0 (fun _ h => h) rfl dX3_parse_86 ?_
      refine lv_iconst (v := 0) hx hb dX3_parse_89 (by decide) ?_
      refine xp (C := RX6) (T := TX6) (N := 6) (ci := 6) (ty := .int) (x := (0 : Int32)) hx hb hts inc6 tyX6 tyX6_ok nmX6 hown hK hP hS (by omega) (fun _ => cell6 (by decide)) rfl 1 (by decide) rfl lk1 (fun _ h => h) rfl (tyX6_ok 1 (by decide)) rfl rfl (Nat.le_of_ble_eq_true rfl) dX3_parse_90 (fun H locs hP hS => ?_)
      exact xe_v hx hb hr hlocks hP hS rfl (by rw [LX3_parse_24g, if_pos c26] <;> rfl) (Nat.le_of_ble_eq_true rfl) (Nat.le_of_ble_eq_true rfl) dX3_parse_93
    · have hj6 : j < 601 := pm_lt hux c26
      refine lv_aload_n hx hb dX3_parse_29 rfl (lv_at hl 0 rfl) ?_
      refine xg (C := RX3) (T := TX3) (N := 4) (v := .int (M 9 2)) hx hb hts inc3 hown hK hP (by omega) (cell3 (by decide)) rfl 2 (by decide) lk2 (fun _ h => h) rfl dX3_parse_30 ?_
      refine lv_if_ne (tgt := 85) hx hb dX3_parse_33 (by decide) (fun c33 => ?_) (fun c33 => ?_)
      · refine lv_aload_n hx hb dX3_parse_85 rfl (lv_at hl 0 rfl) ?_
        refine xg (C := RX3) (T := TX3) (N := 4) (v := .ref (b + 10)) hx hb hts inc3 hown hK hP (by omega) (cell3 (by decide)) rfl 0 (by decide) lk0 (fun _ h => h) rfl dX3_parse_86 ?_
        refine lv_iconst (v := 0) hx hb dX3_parse_89 (by decide) ?_
        refine xp (C := RX6) (T := TX6) (N := 6) (ci := 6) (ty := .int) (x := (0 : Int32)) hx hb hts inc6 tyX6 tyX6_ok nmX6 hown hK hP hS (by omega) (fun _ => cell6 (by decide)) rfl 1 (by decide) rfl lk1 (fun _ h => h) rfl (tyX6_ok 1 (by decide)) rfl rfl (Nat.le_of_ble_eq_true rfl) dX3_parse_90 (fun H locs hP hS => ?_)
        exact xe_v hx hb hr hlocks hP hS rfl (by rw [LX3_parse_24g, if_neg c26, if_neg c33] <;> rfl) (Nat.le_of_ble_eq_true rfl) (Nat.le_of_ble_eq_true rfl) dX3_parse_93
      · refine lv_aload_n hx hb dX3_parse_36 rfl (lv_at hl 0 rfl) ?_
        refine xg (C := RX3) (T := TX3) (N := 4) (v := .ref (b + 10)) hx hb hts inc3 hown hK hP (by omega) (cell3 (by decide)) rfl 0 (by decide) lk0 (fun _ h => h) rfl dX3_parse_37 ?_
        refine xc_v (va_runV (As := []) (rest := []) ⟨hx, hb, hml, hown, hts⟩ (c_X6_next l D cy b n hn M hrd.1) (cwV 0 hts gX3_parse_X6_next rfl rfl rfl (by decide +kernel) ⟨Nat.le_of_ble_eq_true rfl, Nat.le_of_ble_eq_true rfl⟩) (xPreV hP hK hX hS (by omega) (cell6 (by decide)) rfl) rfl rfl hl.1 rfl (lv_room (Nat.le_of_ble_eq_true rfl)) dX3_parse_40 ⟨Nat.le_of_ble_eq_true rfl, Nat.le_of_ble_eq_true rfl⟩) hS (fun H locs hP hS => ?_)
        refine lv_aload_n hx hb dX3_parse_43 rfl (lv_at hl 0 rfl) ?_
        refine xg (C := RX3) (T := TX3) (N := 4) (v := .ref (b + 10)) hx hb hts inc3 hown hK hP (by omega) (cell3 (by decide)) rfl 0 (by decide) lk0 (fun _ h => h) rfl dX3_parse_44 ?_
        refine xg (C := RX6) (T := TX6) (N := 6) (v := .int ((gX6_next M) 10 5)) hx hb hts inc6 hown hK hP (by omega) (cell6 (by decide)) rfl 5 (by decide) lk3 (fun _ h => h) rfl dX3_parse_47 ?_
        refine lv_if_ne (tgt := 56) hx hb dX3_parse_50 (by decide) (fun c50 => ?_) (fun c50 => ?_)
        · refine lv_aload_n hx hb dX3_parse_56 rfl (lv_at hl 0 rfl) ?_
          refine xg (C := RX3) (T := TX3) (N := 4) (v := .ref (b + 10)) hx hb hts inc3 hown hK hP (by omega) (cell3 (by decide)) rfl 0 (by decide) lk0 (fun _ h => h) rfl dX3_parse_57 ?_
          refine xg (C := RX6) (T := TX6) (N := 6) (v := .int ((gX6_next M) 10 5)) hx hb hts inc6 hown hK hP (by omega) (cell6 (by decide)) rfl 5 (by decide) lk3 (fun _ h => h) rfl dX3_parse_60 ?_
          refine lv_iconst (v := 3) hx hb dX3_parse_63 (by decide) ?_
          refine lv_icmp_ne (tgt := 74) hx hb dX3_parse_64 (by decide) (fun c64 => ?_) (fun c64 => ?_)
          · refine lv_aload_n hx hb dX3_parse_74 rfl (lv_at hl 0 rfl) ?_
            refine lv_iconst (v := 1) hx hb dX3_parse_75 (by decide) ?_
            refine xc_v (va_runV (As := [.int (1 : Int32)]) (rest := []) ⟨hx, hb, hml, hown, hts⟩ (c_X3_fail l D cy b n hn (gX6_next M) (1 : Int32)) (cwV 1 hts gX3_parse_X3_fail rfl rfl rfl (by decide +kernel) ⟨Nat.le_of_ble_eq_true rfl, Nat.le_of_ble_eq_true rfl⟩) (xPreV hP hK hX hS (by omega) (cell3 (by decide)) rfl) rfl rfl hl.1 rfl (lv_room (Nat.le_of_ble_eq_true rfl)) dX3_parse_76 ⟨Nat.le_of_ble_eq_true rfl, Nat.le_of_ble_eq_true rfl⟩) hS (fun H locs hP hS => ?_)
            refine lv_iinc (v := nI (j + 1)) (lv' := [(2, .int (nI (j + 1))), (0, .ref (b + 9)), (1, .int x)]) hx hb dX3_parse_79 hl (k := 2) rfl (ixAdd (a := j) (c := 1) (d := j + 1) rfl rfl (by omega)) (by decide) rfl (fun ls hl => ?_)
            refine lv_goto (tgt := 24) hx hb dX3_parse_82 (by decide) ?_
            rw [show LX3_parse_24g x (k + 1) M j = LX3_parse_24g x k (gX3_fail (gX6_next M) (1 : Int32)) (j + 1) from (by rw [LX3_parse_24g, if_neg c26, if_pos c33, if_neg c50, if_neg c64])]
            exact ih (gX3_fail (gX6_next M) (1 : Int32)) (j + 1) H locs ls (by repeat (first | with_reducible exact hrd | with_reducible apply rd_line | with_reducible apply rd_fl | with_reducible apply rd_nx)) (by omega) (by omega) hP hS (lv_sub hl [1, 2, 0] rfl)
          · refine lv_aload_n hx hb dX3_parse_67 rfl (lv_at hl 0 rfl) ?_
            refine xc_v (va_runV (As := []) (rest := []) ⟨hx, hb, hml, hown, hts⟩ (c_X3_readLine l D cy b n hn (gX6_next M) (rd_nx hrd)) (cwV 0 hts gX3_parse_X3_readLine rfl rfl rfl (by decide +kernel) ⟨Nat.le_of_ble_eq_true rfl, Nat.le_of_ble_eq_true rfl⟩) (xPreV hP hK hX hS (by omega) (cell3 (by decide)) rfl) rfl rfl hl.1 rfl (lv_room (Nat.le_of_ble_eq_true rfl)) dX3_parse_68 ⟨Nat.le_of_ble_eq_true rfl, Nat.le_of_ble_eq_true rfl⟩) hS (fun H locs hP hS => ?_)
            refine lv_goto (tgt := 79) hx hb dX3_parse_71 (by decide) ?_
            refine lv_iinc (v := nI (j + 1)) (lv' := [(2, .int (nI (j + 1))), (0, .ref (b + 9)), (1, .int x)]) hx hb dX3_parse_79 hl (k := 2) rfl (ixAdd (a := j) (c := 1) (d := j + 1) rfl rfl (by omega)) (by decide) rfl (fun ls hl => ?_)
            refine lv_goto (tgt := 24) hx hb dX3_parse_82 (by decide) ?_
            rw [show LX3_parse_24g x (k + 1) M j = LX3_parse_24g x k (gX3_readLine (gX6_next M)) (j + 1) from (by rw [LX3_parse_24g, if_neg c26, if_pos c33, if_neg c50, if_pos c64])]
            exact ih (gX3_readLine (gX6_next M)) (j + 1) H locs ls (by repeat (first | with_reducible exact hrd | with_reducible apply rd_line | with_reducible apply rd_fl | with_reducible apply rd_nx)) (by omega) (by omega) hP hS (lv_sub hl [1, 2, 0] rfl)
        · refine lv_goto (tgt := 85) hx hb dX3_parse_53 (by decide) ?_
          refine lv_aload_n hx hb dX3_parse_85 rfl (lv_at hl 0 rfl) ?_
          refine xg (C := RX3) (T := TX3) (N := 4) (v := .ref (b + 10)) hx hb hts inc3 hown hK hP (by omega) (cell3 (by decide)) rfl 0 (by decide) lk0 (fun _ h => h) rfl dX3_parse_86 ?_
          refine lv_iconst (v := 0) hx hb dX3_parse_89 (by decide) ?_
          refine xp (C := RX6) (T := TX6) (N := 6) (ci := 6) (ty := .int) (x := (0 : Int32)) hx hb hts inc6 tyX6 tyX6_ok nmX6 hown hK hP hS (by omega) (fun _ => cell6 (by decide)) rfl 1 (by decide) rfl lk1 (fun _ h => h) rfl (tyX6_ok 1 (by decide)) rfl rfl (Nat.le_of_ble_eq_true rfl) dX3_parse_90 (fun H locs hP hS => ?_)
          exact xe_v hx hb hr hlocks hP hS rfl (by rw [LX3_parse_24g, if_neg c26, if_pos c33, if_pos c50] <;> rfl) (Nat.le_of_ble_eq_true rfl) (Nat.le_of_ble_eq_true rfl) dX3_parse_93

def gX3_parse (M : Mem) (x : Int32) : Mem := LX3_parse_24g x 602 (gX3_readHead (gX6_begin (mU (mU M 9 2 (0 : Int32)) 9 3 ((-1) : Int32)) x)) 0
set_option maxHeartbeats 4000000 in
set_option maxRecDepth 100000 in
theorem c_X3_parse (l : Launch) (D : va_G) (cy : Nat → ClassId) (b n : Nat) (hn : 124 ≤ n) (M : Mem) (x : Int32) (hux : UB x 600) (htf : TF M) (hcd : CNT M 12) : Met l yX3_parse wsX3_parse ({ frames := 6, cells := 0, slots := 0, locals := 130 } : Room) (CP D cy b n fT M [.ref (b + 9), .int x]) (CQv D cy b n fT (gX3_parse M x)) 0 0 (fr b) := by
  refine Met.ofW (cc := cX3_parse) (maxL := 3) (ret := none) (by decide) rfl ?_
  intro p e s m args below meth c s₁ B hml hv
  obtain ⟨rfl, hP, hK, hX⟩ := hv
  have hx := B.exec
  have hb := B.bytes
  have hr := B.returns
  have hts := atoms_spec (ws := wsX3_parse) B.pre
  have hown : s.vm.findClass RX3 = some m.cls := findClass_of_methodNamed B.named
  have hlocks := B.notSynchronized
  have lk0 := hts (.fieldLink RX3 29 "HygrometerRoom$Reader" "errorKind" "I") (by decide +kernel)
  have lk1 := hts (.fieldLink RX3 25 "HygrometerRoom$Reader" "errorOffset" "I") (by decide +kernel)
  have lk2 := hts (.fieldLink RX3 12 "HygrometerRoom$Reader" "tokens" "LHygrometerRoom$Tokens;") (by decide +kernel)
  have inc3 : ∀ w ∈ u_ws RX3 TX3 4, w ∈ wsX3_parse := by decide +kernel
  have hS : va_S (fr b) s.heap s.heap [] := va_S.rf
  have hl := lv_entry ([.ref (b + 9), .int x]) (n := 3) (Nat.le_of_ble_eq_true rfl)
  rw [lg_entry_eq]
  generalize (lg_sl ([.ref (b + 9), .int x]) ++ List.replicate (3 - (lg_sl ([.ref (b + 9), .int x])).length) Slot.unset).toArray = ls at hl ⊢
  have hl : lv_has ls 3 [(0, .ref (b + 9)), (1, .int x)] := hl
  refine lv_aload_n hx hb dX3_parse_0 rfl (lv_at hl 0 rfl) ?_
  refine lv_iconst (v := 0) hx hb dX3_parse_1 (by decide) ?_
  refine xp (C := RX3) (T := TX3) (N := 4) (ci := 3) (ty := .int) (x := (0 : Int32)) hx hb hts inc3 tyX3 tyX3_ok nmX3 hown hK hP hS (by omega) (fun _ => cell3 (by decide)) rfl 2 (by decide) rfl lk0 (fun _ h => h) rfl (tyX3_ok 2 (by decide)) rfl rfl (Nat.le_of_ble_eq_true rfl) dX3_parse_2 (fun H locs hP hS => ?_)
  refine lv_aload_n hx hb dX3_parse_5 rfl (lv_at hl 0 rfl) ?_
  refine lv_iconst (v := (-1)) hx hb dX3_parse_6 (by decide) ?_
  refine xp (C := RX3) (T := TX3) (N := 4) (ci := 3) (ty := .int) (x := ((-1) : Int32)) hx hb hts inc3 tyX3 tyX3_ok nmX3 hown hK hP hS (by omega) (fun _ => cell3 (by decide)) rfl 3 (by decide) rfl lk1 (fun _ h => h) rfl (tyX3_ok 3 (by decide)) rfl rfl (Nat.le_of_ble_eq_true rfl) dX3_parse_7 (fun H locs hP hS => ?_)
  refine lv_aload_n hx hb dX3_parse_10 rfl (lv_at hl 0 rfl) ?_
  refine xg (C := RX3) (T := TX3) (N := 4) (v := .ref (b + 10)) hx hb hts inc3 hown hK hP (by omega) (cell3 (by decide)) rfl 0 (by decide) lk2 (fun _ h => h) rfl dX3_parse_11 ?_
  refine lv_iload_n hx hb dX3_parse_14 rfl (lv_at hl 1 rfl) ?_
  refine xc_v (va_runV (As := [.int x]) (rest := []) ⟨hx, hb, hml, hown, hts⟩ (c_X6_begin l D cy b n hn (mU (mU M 9 2 (0 : Int32)) 9 3 ((-1) : Int32)) x) (cwV 1 hts gX3_parse_X6_begin rfl rfl rfl (by decide +kernel) ⟨Nat.le_of_ble_eq_true rfl, Nat.le_of_ble_eq_true rfl⟩) (xPreV hP hK hX hS (by omega) (cell6 (by decide)) rfl) rfl rfl hl.1 rfl (lv_room (Nat.le_of_ble_eq_true rfl)) dX3_parse_15 ⟨Nat.le_of_ble_eq_true rfl, Nat.le_of_ble_eq_true rfl⟩) hS (fun H locs hP hS => ?_)
  refine lv_aload_n hx hb dX3_parse_18 rfl (lv_at hl 0 rfl) ?_
  refine xc_v (va_runV (As := []) (rest := []) ⟨hx, hb, hml, hown, hts⟩ (c_X3_readHead l D cy b n hn (gX6_begin (mU (mU M 9 2 (0 : Int32)) 9 3 ((-1) : Int32)) x) (rd_beg hux htf hcd)) (cwV 0 hts gX3_parse_X3_readHead rfl rfl rfl (by decide +kernel) ⟨Nat.le_of_ble_eq_true rfl, Nat.le_of_ble_eq_true rfl⟩) (xPreV hP hK hX hS (by omega) (cell3 (by decide)) rfl) rfl rfl hl.1 rfl (lv_room (Nat.le_of_ble_eq_true rfl)) dX3_parse_19 ⟨Nat.le_of_ble_eq_true rfl, Nat.le_of_ble_eq_true rfl⟩) hS (fun H locs hP hS => ?_)
  refine lv_iconst (v := 0) hx hb dX3_parse_22 (by decide) ?_
  refine lv_istore_n (lv' := [(2, .int (0 : Int32)), (0, .ref (b + 9)), (1, .int x)]) hx hb dX3_parse_23 rfl hl (by decide) rfl (fun ls hl => ?_)
  rw [show gX3_parse M x = LX3_parse_24g x 602 (gX3_readHead (gX6_begin (mU (mU M 9 2 (0 : Int32)) 9 3 ((-1) : Int32)) x)) 0 from (by rw [gX3_parse])]
  exact cl_X3_parse_24 l D cy b n hn x hux hx hb hr hlocks hml hown hts hK hX 602 (gX3_readHead (gX6_begin (mU (mU M 9 2 (0 : Int32)) 9 3 ((-1) : Int32)) x)) 0 H locs ls (rd_head (rd_beg hux htf hcd)) (by omega) (by omega) hP hS (lv_sub hl [1, 2, 0] rfl)
theorem parse24_rd (x : Int32) : ∀ (k : Nat) (M : Mem) (j : Nat), RD M → CNT (LX3_parse_24g x k M j) 12 := by
  intro k
  induction k with
  | zero => intro M j h; exact h.2
  | succ k ih =>
    intro M j h
    have he : CNT (mU M 10 1 0) 12 := cnt_putn (by decide) h.2
    have hn := rd_nx h
    have hne : CNT (mU (gX6_next M) 10 1 0) 12 := cnt_putn (by decide) hn.2
    rw [LX3_parse_24g]
    (repeat' split) <;> first
      | with_reducible exact he
      | with_reducible exact hne
      | with_reducible exact ih _ _ (rd_line hn)
      | with_reducible exact ih _ _ (rd_fl hn)
theorem parse_cnt {M : Mem} {x : Int32} (hx : UB x 600) (htf : TF M) (hc : CNT M 12) : CNT (gX3_parse M x) 12 := parse24_rd x _ _ _ (rd_head (rd_beg hx htf hc))

