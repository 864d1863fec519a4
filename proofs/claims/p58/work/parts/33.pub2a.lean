/-! the class's changes and outputs -/
abbrev CQd (D : va_G) (cy : Nat → ClassId) (b n : Nat) (F : Fla) (r : UInt64) (M : Mem) : Array Value → State → Outcome → State → Prop := va_Qd (fun x (_ : Unit) => x = r) (fun _ t => va_P D vwCl (wL cy b F M n) t.heap) (fun q => b ≤ q)
abbrev CQf (D : va_G) (cy : Nat → ClassId) (b n : Nat) (F : Fla) (r : UInt32) (M : Mem) : Array Value → State → Outcome → State → Prop := va_Qf (fun x (_ : Unit) => x = r) (fun _ t => va_P D vwCl (wL cy b F M n) t.heap) (fun q => b ≤ q)
section XD
variable {p : Program} {l : Launch} {e : Env} {R : Room} {s : State} {m : MethodId} {args : Array Value} {below : List Frame} {meth : Method} {c : Code} {H : Heap} {locs : List Loc} {cells slots : Nat} {Q : State → Prop}
variable {cc : ByteArray} {pc : Nat} {ls : Array Slot} {rest st0 : List Value} {D : va_G} {cy : Nat → ClassId} {b n : Nat} {F : Fla} {M : Mem} {H0 : Heap}
theorem xe_d (hexec : p.tables.exec = Jvm.exec) (hb : c.code = cc) (hr : meth.sig.returnType = some .double) (hlocks : meth.locks = false) {mc ms : Nat} {F1 : Fla} {v r : UInt64} {M1 : Mem} (hP : va_P D vwCl (wL cy b F M n) H) (hS : va_S (fr b) s.heap H locs) (hf : F = F1) (hM : M = M1) (hv : v = r) (h1 : cells ≤ mc) (h2 : slots ≤ ms) (hdg : decode cc pc = .ok (.dreturn, 1)) : W p l e R s m args below meth c H locs cells slots (MQ below (CQd D cy b n F1 r M1) args s mc ms (fr b)) (F0 m pc ls [.double v]) := by
  subst hf; subst hM; subst hv
  refine W.widen h1 h2 ?_
  exact W.dret hexec hb hr (fun t ht hW => ⟨⟨v, (), rfl, rfl, by show va_P _ _ _ t.heap; rw [ht]; exact hP⟩, hS.F ht⟩) hS.2.2 hdg hlocks
theorem xe_f (hexec : p.tables.exec = Jvm.exec) (hb : c.code = cc) (hr : meth.sig.returnType = some .float) (hlocks : meth.locks = false) {mc ms : Nat} {F1 : Fla} {v r : UInt32} {M1 : Mem} (hP : va_P D vwCl (wL cy b F M n) H) (hS : va_S (fr b) s.heap H locs) (hf : F = F1) (hM : M = M1) (hv : v = r) (h1 : cells ≤ mc) (h2 : slots ≤ ms) (hdg : decode cc pc = .ok (.freturn, 1)) : W p l e R s m args below meth c H locs cells slots (MQ below (CQf D cy b n F1 r M1) args s mc ms (fr b)) (F0 m pc ls [.float v]) := by
  subst hf; subst hM; subst hv
  refine W.widen h1 h2 ?_
  exact W.fret hexec hb hr (fun t ht hW => ⟨⟨v, (), rfl, rfl, by show va_P _ _ _ t.heap; rw [ht]; exact hP⟩, hS.F ht⟩) hS.2.2 hdg hlocks
theorem xc_d {mc ms : Nat} {F1 : Fla} {r : UInt64} {M1 : Mem} {a : Array Value} (hr : va_Run p l e R s m args below meth c H locs cells slots mc ms (F0 m pc ls st0) rest (CQd D cy b n F1 r M1 a) (fr b)) (hS : va_S (fr b) H0 H locs)
    (kk : ∀ (H1 : Heap) (locs1 : List Loc), va_P D vwCl (wL cy b F1 M1 n) H1 → va_S (fr b) H0 H1 locs1 → W p l e R s m args below meth c H1 locs1 (cells + mc) (slots + ms) Q (F0 m (pc + 3) ls (.double r :: rest))) : W p l e R s m args below meth c H locs cells slots Q (F0 m pc ls st0) :=
  va_calld hr hS (fun _ _ h => h) (fun _ h => h) (fun x u t H1 locs1 ht _ hp hB _ _ hS1 => by
    rw [show x = r from hp]
    exact kk H1 locs1 (by rw [← ht]; exact hB) hS1)
theorem xc_f {mc ms : Nat} {F1 : Fla} {r : UInt32} {M1 : Mem} {a : Array Value} (hr : va_Run p l e R s m args below meth c H locs cells slots mc ms (F0 m pc ls st0) rest (CQf D cy b n F1 r M1 a) (fr b)) (hS : va_S (fr b) H0 H locs)
    (kk : ∀ (H1 : Heap) (locs1 : List Loc), va_P D vwCl (wL cy b F1 M1 n) H1 → va_S (fr b) H0 H1 locs1 → W p l e R s m args below meth c H1 locs1 (cells + mc) (slots + ms) Q (F0 m (pc + 3) ls (.float r :: rest))) : W p l e R s m args below meth c H locs cells slots Q (F0 m pc ls st0) :=
  va_callf hr hS (fun _ _ h => h) (fun _ h => h) (fun x u t H1 locs1 ht _ hp hB _ _ hS1 => by
    rw [show x = r from hp]
    exact kk H1 locs1 (by rw [← ht]; exact hB) hS1)
end XD
theorem ub_two {x y N : Nat} (h0 : True) : True := trivial
theorem ub_le {x y : Int32} {N : Nat} (h0 : ¬ x < 0) (hc : x ≤ y) (hy : y = nI N) (hN : N < 2 ^ 31 := by decide) : UB x N := by
  obtain ⟨j, hj, rfl⟩ := nI_of h0
  rw [hy, nI_leI hj hN] at hc
  exact ⟨j, hc, rfl⟩
theorem ub_1 {x y : Int32} {N : Nat} (h0 : ¬ x < 1) (hc : x ≤ y) (hy : y = nI N) (hN : N < 2 ^ 31 := by decide) : UB x N := ub_le (fun h => h0 (Int32.lt_trans h (by decide))) hc hy hN
theorem UB.mono {x : Int32} {N K : Nat} (h : UB x N) (hk : N ≤ K) : UB x K := by
  obtain ⟨k, h1, h2⟩ := h
  exact ⟨k, by omega, h2⟩
theorem rec_ne {M : Mem} {q p : Nat} (hq : CNT M q) (hn : UB (M 20 1) 9) (hp : p < 20 ∨ 102 ≤ p) : gX0_record M q p = M p := by
  have h9 := ub_lt9 hn
  unfold gX0_record
  split <;> rw [mU_ne _ _ _ (by omega), mU_ne _ _ _ (by omega), copy_rf hq p (by omega)]
theorem slot_ge {M : Mem} {o : Nat} {x : Int32} (h : fX5_find M x = some o) : 105 ≤ o := by
  unfold fX5_find at h
  split at h
  · cases h
  · split at h
    · cases h
    · cases h
      omega
theorem rec_slot {M : Mem} {q o : Nat} {x : Int32} (hq : CNT M q) (hn : UB (M 20 1) 9) (hs : SC2 M) (h : fX5_find M x = some o) : CNT (gX0_record M q) o := cnt_row (rec_ne hq hn (Or.inr (by have := slot_ge h; omega))) (slot_cnt hs h)
theorem out0 (M : Mem) : OUT (mU M 121 1 0) := ⟨0, by decide, by rw [mU_at]; rfl⟩
theorem out_lt {M : Mem} {x : Int32} (h : OUT M) (h0 : ¬ x < 0) (hc : x < M 121 1) : x.toNatClampNeg < 24 := by
  obtain ⟨k, hk, e⟩ := h
  obtain ⟨j, hj, rfl⟩ := nI_of h0
  rw [e, nI_ltI hj (by omega)] at hc
  rw [nI_clamp hj]; omega
theorem put3_tf (x : Int32) : ∀ (k : Nat) (M : Mem) (v : Int32), TF M → TF (LX6_put_3g x k M v) := by
  intro k
  induction k with
  | zero => intro M v h; exact h
  | succ k ih =>
    intro M v h
    rw [LX6_put_3g]
    split
    · exact h
    · split
      · exact h
      · rename_i hc
        exact ih _ _ (tf_step h hc)
theorem put_tf {M : Mem} {x : Int32} (h : TF M) : TF (gX6_put M x) := put3_tf x _ _ _ h
def fX7_meanReading (M : Mem) : UInt64 := if (M 1 1) = 0 then FP.dconst0 else (FP.ddiv (FP.i2d (fX4_sumOfReadings M 1)) (FP.i2d (M 1 1)))
set_option maxHeartbeats 4000000 in
set_option maxRecDepth 100000 in
theorem c_X7_meanReading (l : Launch) (D : va_G) (cy : Nat → ClassId) (b n : Nat) (hn : 124 ≤ n) (M : Mem)  (hcnt : CNT M 1) (hnn : ¬ M 1 1 = 0 → vf_n64 (FP.ddiv (FP.i2d (fX4_sumOfReadings M 1)) (FP.i2d (M 1 1)))) : Met l yX7_meanReading wsX7_meanReading ({ frames := 6, cells := 0, slots := 0, locals := 127 } : Room) (CP D cy b n fT M [.ref (b + 0)]) (CQd D cy b n fT (fX7_meanReading M) M) 0 0 (fr b) := by
  refine Met.ofW (cc := cX7_meanReading) (maxL := 1) (ret := (some .double)) (by decide) rfl ?_
  intro p e s m args below meth c s₁ B hml hv
  obtain ⟨rfl, hP, hK, hX⟩ := hv
  have hx := B.exec
  have hb := B.bytes
  have hr := B.returns
  have hts := atoms_spec (ws := wsX7_meanReading) B.pre
  have hown : s.vm.findClass RX7 = some m.cls := findClass_of_methodNamed B.named
  have hlocks := B.notSynchronized
  have lk0 := hts (.fieldLink RX7 10 "HygrometerRoom" "room" "LHygrometerRoom$Room;") (by decide +kernel)
  have lk1 := hts (.fieldLink RX7 123 "HygrometerRoom$Room" "count" "I") (by decide +kernel)
  have inc4 : ∀ w ∈ u_ws RX4 TX4 8, w ∈ wsX7_meanReading := by decide +kernel
  have inc7 : ∀ w ∈ u_ws RX7 TX7 6, w ∈ wsX7_meanReading := by decide +kernel
  have hS : va_S (fr b) s.heap s.heap [] := va_S.rf
  have hl := lv_entry ([.ref (b + 0)]) (n := 1) (Nat.le_of_ble_eq_true rfl)
  rw [lg_entry_eq]
  generalize (lg_sl ([.ref (b + 0)]) ++ List.replicate (1 - (lg_sl ([.ref (b + 0)])).length) Slot.unset).toArray = ls at hl ⊢
  have hl : lv_has ls 1 [(0, .ref (b + 0))] := hl
  refine lv_aload_n hx hb dX7_meanReading_0 rfl (lv_at hl 0 rfl) ?_
  refine xg (C := RX7) (T := TX7) (N := 6) (v := .ref (b + 1)) hx hb hts inc7 hown hK hP (by omega) (cell7 (by decide)) rfl 0 (by decide) lk0 (fun _ h => h) rfl dX7_meanReading_1 ?_
  refine xg (C := RX4) (T := TX4) (N := 8) (v := .int (M 1 1)) hx hb hts inc4 hown hK hP (by omega) (cell4 (by decide)) rfl 1 (by decide) lk1 (fun _ h => h) rfl dX7_meanReading_4 ?_
  refine lv_if_ne (tgt := 12) hx hb dX7_meanReading_7 (by decide) (fun c7 => ?_) (fun c7 => ?_)
  · refine lv_aload_n hx hb dX7_meanReading_12 rfl (lv_at hl 0 rfl) ?_
    refine xg (C := RX7) (T := TX7) (N := 6) (v := .ref (b + 1)) hx hb hts inc7 hown hK hP (by omega) (cell7 (by decide)) rfl 0 (by decide) lk0 (fun _ h => h) rfl dX7_meanReading_13 ?_
    refine xc_i (va_runV (As := []) (rest := []) ⟨hx, hb, hml, hown, hts⟩ (c_X4_sumOfReadings l D cy b n hn M 1 (by decide) (by first | assumption | omega)) (cwV 0 hts gX7_meanReading_X4_sumOfReadings rfl rfl rfl (by decide +kernel) ⟨Nat.le_of_ble_eq_true rfl, Nat.le_of_ble_eq_true rfl⟩) (xPreV hP hK hX hS (by omega) (cell4 (by decide)) rfl) rfl rfl hl.1 rfl (lv_room (Nat.le_of_ble_eq_true rfl)) dX7_meanReading_16 ⟨Nat.le_of_ble_eq_true rfl, Nat.le_of_ble_eq_true rfl⟩) hS (fun H locs hP hS => ?_)
    refine lv_i2d hx hb dX7_meanReading_19 ?_
    refine lv_aload_n hx hb dX7_meanReading_20 rfl (lv_at hl 0 rfl) ?_
    refine xg (C := RX7) (T := TX7) (N := 6) (v := .ref (b + 1)) hx hb hts inc7 hown hK hP (by omega) (cell7 (by decide)) rfl 0 (by decide) lk0 (fun _ h => h) rfl dX7_meanReading_21 ?_
    refine xg (C := RX4) (T := TX4) (N := 8) (v := .int (M 1 1)) hx hb hts inc4 hown hK hP (by omega) (cell4 (by decide)) rfl 1 (by decide) lk1 (fun _ h => h) rfl dX7_meanReading_24 ?_
    refine lv_i2d hx hb dX7_meanReading_27 ?_
    refine lv_ddiv hx hb dX7_meanReading_28 (hnn c7) ?_
    exact xe_d hx hb hr hlocks hP hS rfl rfl (by rw [fX7_meanReading, if_neg c7] <;> rfl) (Nat.le_of_ble_eq_true rfl) (Nat.le_of_ble_eq_true rfl) dX7_meanReading_29
  · refine lv_dconst0 hx hb dX7_meanReading_10 ?_
    exact xe_d hx hb hr hlocks hP hS rfl rfl (by rw [fX7_meanReading, if_pos c7] <;> rfl) (Nat.le_of_ble_eq_true rfl) (Nat.le_of_ble_eq_true rfl) dX7_meanReading_11
def fX7_usableShare (M : Mem) : UInt32 := if (M 1 1) = 0 then FP.fconst0 else (FP.fdiv (FP.i2f (fX4_countUsable M 1)) (FP.i2f (M 1 1)))
set_option maxHeartbeats 4000000 in
set_option maxRecDepth 100000 in
theorem c_X7_usableShare (l : Launch) (D : va_G) (cy : Nat → ClassId) (b n : Nat) (hn : 124 ≤ n) (M : Mem)  (hcnt : CNT M 1) (hnn : ¬ M 1 1 = 0 → vf_n32 (FP.fdiv (FP.i2f (fX4_countUsable M 1)) (FP.i2f (M 1 1)))) : Met l yX7_usableShare wsX7_usableShare ({ frames := 3, cells := 0, slots := 0, locals := 62 } : Room) (CP D cy b n fT M [.ref (b + 0)]) (CQf D cy b n fT (fX7_usableShare M) M) 0 0 (fr b) := by
  refine Met.ofW (cc := cX7_usableShare) (maxL := 1) (ret := (some .float)) (by decide) rfl ?_
  intro p e s m args below meth c s₁ B hml hv
  obtain ⟨rfl, hP, hK, hX⟩ := hv
  have hx := B.exec
  have hb := B.bytes
  have hr := B.returns
  have hts := atoms_spec (ws := wsX7_usableShare) B.pre
  have hown : s.vm.findClass RX7 = some m.cls := findClass_of_methodNamed B.named
  have hlocks := B.notSynchronized
  have lk0 := hts (.fieldLink RX7 10 "HygrometerRoom" "room" "LHygrometerRoom$Room;") (by decide +kernel)
  have lk1 := hts (.fieldLink RX7 123 "HygrometerRoom$Room" "count" "I") (by decide +kernel)
  have inc4 : ∀ w ∈ u_ws RX4 TX4 8, w ∈ wsX7_usableShare := by decide +kernel
  have inc7 : ∀ w ∈ u_ws RX7 TX7 6, w ∈ wsX7_usableShare := by decide +kernel
  have hS : va_S (fr b) s.heap s.heap [] := va_S.rf
  have hl := lv_entry ([.ref (b + 0)]) (n := 1) (Nat.le_of_ble_eq_true rfl)
  rw [lg_entry_eq]
  generalize (lg_sl ([.ref (b + 0)]) ++ List.replicate (1 - (lg_sl ([.ref (b + 0)])).length) Slot.unset).toArray = ls at hl ⊢
  have hl : lv_has ls 1 [(0, .ref (b + 0))] := hl
  refine lv_aload_n hx hb dX7_usableShare_0 rfl (lv_at hl 0 rfl) ?_
  refine xg (C := RX7) (T := TX7) (N := 6) (v := .ref (b + 1)) hx hb hts inc7 hown hK hP (by omega) (cell7 (by decide)) rfl 0 (by decide) lk0 (fun _ h => h) rfl dX7_usableShare_1 ?_
  refine xg (C := RX4) (T := TX4) (N := 8) (v := .int (M 1 1)) hx hb hts inc4 hown hK hP (by omega) (cell4 (by decide)) rfl 1 (by decide) lk1 (fun _ h => h) rfl dX7_usableShare_4 ?_
  refine lv_if_ne (tgt := 12) hx hb dX7_usableShare_7 (by decide) (fun c7 => ?_) (fun c7 => ?_)
  · refine lv_aload_n hx hb dX7_usableShare_12 rfl (lv_at hl 0 rfl) ?_
    refine xg (C := RX7) (T := TX7) (N := 6) (v := .ref (b + 1)) hx hb hts inc7 hown hK hP (by omega) (cell7 (by decide)) rfl 0 (by decide) lk0 (fun _ h => h) rfl dX7_usableShare_13 ?_
    refine xc_i (va_runV (As := []) (rest := []) ⟨hx, hb, hml, hown, hts⟩ (c_X4_countUsable l D cy b n hn M 1 (by decide) (by first | assumption | omega)) (cwV 0 hts gX7_usableShare_X4_countUsable rfl rfl rfl (by decide +kernel) ⟨Nat.le_of_ble_eq_true rfl, Nat.le_of_ble_eq_true rfl⟩) (xPreV hP hK hX hS (by omega) (cell4 (by decide)) rfl) rfl rfl hl.1 rfl (lv_room (Nat.le_of_ble_eq_true rfl)) dX7_usableShare_16 ⟨Nat.le_of_ble_eq_true rfl, Nat.le_of_ble_eq_true rfl⟩) hS (fun H locs hP hS => ?_)
    refine lv_i2f hx hb dX7_usableShare_19 ?_
    refine lv_aload_n hx hb dX7_usableShare_20 rfl (lv_at hl 0 rfl) ?_
    refine xg (C := RX7) (T := TX7) (N := 6) (v := .ref (b + 1)) hx hb hts inc7 hown hK hP (by omega) (cell7 (by decide)) rfl 0 (by decide) lk0 (fun _ h => h) rfl dX7_usableShare_21 ?_
    refine xg (C := RX4) (T := TX4) (N := 8) (v := .int (M 1 1)) hx hb hts inc4 hown hK hP (by omega) (cell4 (by decide)) rfl 1 (by decide) lk1 (fun _ h => h) rfl dX7_usableShare_24 ?_
    refine lv_i2f hx hb dX7_usableShare_27 ?_
    refine lv_fdiv hx hb dX7_usableShare_28 (hnn c7) ?_
    exact xe_f hx hb hr hlocks hP hS rfl rfl (by rw [fX7_usableShare, if_neg c7] <;> rfl) (Nat.le_of_ble_eq_true rfl) (Nat.le_of_ble_eq_true rfl) dX7_usableShare_29
  · refine lv_fconst0 hx hb dX7_usableShare_10 ?_
    exact xe_f hx hb hr hlocks hP hS rfl rfl (by rw [fX7_usableShare, if_pos c7] <;> rfl) (Nat.le_of_ble_eq_true rfl) (Nat.le_of_ble_eq_true rfl) dX7_usableShare_11
def fX7_setHumidity (M : Mem) (x : Int32) : Int32 := if x < 0 then 0 else (if x ≤ (100 : Int32) then ((gX0_record M 1) 1 3) else 0)
def gX7_setHumidity (M : Mem) (x : Int32) : Mem := if x < 0 then M else (if x ≤ (100 : Int32) then (mU (gX0_record M 1) 1 3 x) else M)
def tX7_setHumidity (M : Mem) (x : Int32) : Nat := if x < 0 then 2 else (if x ≤ (100 : Int32) then 0 else 2)
set_option maxHeartbeats 4000000 in
set_option maxRecDepth 100000 in
theorem c_X7_setHumidity (l : Launch) (hl0 : l.stackTraces = false) (D : va_G) (cy : Nat → ClassId) (b n : Nat) (hn : 124 ≤ n) (M : Mem) (x : Int32) (hcnt : CNT M 1) (hnx : UB (M 20 1) 9) : vx_Met l yX7_setHumidity wsX7_setHumidity ({ frames := 6, cells := 1, slots := 6, locals := 90 } : Room) (CP D cy b n fT M [.ref (b + 0), .int x]) (CTi D cy b n fT (tX7_setHumidity M x) (fX7_setHumidity M x) (gX7_setHumidity M x)) (CX D cy b n fT (tX7_setHumidity M x) (gX7_setHumidity M x)) 1 6 (fr b) := by
  refine vx_ofW (cc := cX7_setHumidity) (maxL := 3) (ret := (some .int)) (by decide) rfl ?_
  intro p e s m args below meth c s₁ B hml hout hv
  obtain ⟨rfl, hP, hK, hX⟩ := hv
  have hx := B.exec
  have hb := B.bytes
  have hr := B.returns
  have hts := atoms_spec (ws := wsX7_setHumidity) B.pre
  have hown : s.vm.findClass RX7 = some m.cls := findClass_of_methodNamed B.named
  have hlocks := B.notSynchronized
  have lk0 := hts (.classLink RX7 107 "java/lang/IllegalArgumentException") (by decide +kernel)
  have lk1 := hts (.initialized "java/lang/IllegalArgumentException") (by decide +kernel)
  have lk2 := hts (.fieldLink RX7 26 "HygrometerRoom" "history" "LHygrometerRoom$History;") (by decide +kernel)
  have lk3 := hts (.fieldLink RX7 10 "HygrometerRoom" "room" "LHygrometerRoom$Room;") (by decide +kernel)
  have lk4 := hts (.fieldLink RX7 62 "HygrometerRoom$Room" "humidity" "I") (by decide +kernel)
  have at111 : ∀ w ∈ (vx_atS RX7 111 "java/lang/IllegalArgumentException" ["java/lang/RuntimeException", "java/lang/Exception"]).filter goodWord, w ∈ wsX7_setHumidity := by decide +kernel
  have inc4 : ∀ w ∈ u_ws RX4 TX4 8, w ∈ wsX7_setHumidity := by decide +kernel
  have inc7 : ∀ w ∈ u_ws RX7 TX7 6, w ∈ wsX7_setHumidity := by decide +kernel
  have hS : va_S (fr b) s.heap s.heap [] := va_S.rf
  have hl := lv_entry ([.ref (b + 0), .int x]) (n := 3) (Nat.le_of_ble_eq_true rfl)
  rw [lg_entry_eq]
  generalize (lg_sl ([.ref (b + 0), .int x]) ++ List.replicate (3 - (lg_sl ([.ref (b + 0), .int x])).length) Slot.unset).toArray = ls at hl ⊢
  have hl : lv_has ls 3 [(0, .ref (b + 0)), (1, .int x)] := hl
  refine lv_iload_n hx hb dX7_setHumidity_0 rfl (lv_at hl 1 rfl) ?_
  refine lv_if_lt (tgt := 10) hx hb dX7_setHumidity_1 (by decide) (fun c1 => ?_) (fun c1 => ?_)
  · exact xth (cls := "java/lang/IllegalArgumentException") (text := "the humidity is out of range") hx hb hl0 hown hX (by decide +kernel) (by decide +kernel) (by decide +kernel) lk0 lk1 (fun w h => hts w (at111 w h)) (by decide +kernel) (by decide +kernel) hP hS rfl (by rw [gX7_setHumidity, if_pos c1] <;> rfl) (by rw [tX7_setHumidity, if_pos c1]; exact Or.inr (Or.inl ⟨rfl, rfl⟩)) (hl.1.trans hml.symm) dX7_setHumidity_10 dX7_setHumidity_13 dX7_setHumidity_14 dX7_setHumidity_16 dX7_setHumidity_19 hout (Nat.le_of_ble_eq_true rfl) (Nat.le_of_ble_eq_true rfl) (Nat.le_of_ble_eq_true rfl) (Nat.le_of_ble_eq_true rfl) hlocks (Nat.le_of_ble_eq_true rfl) (Nat.le_of_ble_eq_true rfl)
  · refine lv_iload_n hx hb dX7_setHumidity_4 rfl (lv_at hl 1 rfl) ?_
    refine lv_bipush (v := 100) hx hb dX7_setHumidity_5 (by decide) ?_
    refine lv_icmp_le (tgt := 20) hx hb dX7_setHumidity_7 (by decide) (fun c7 => ?_) (fun c7 => ?_)
    · refine lv_aload_n hx hb dX7_setHumidity_20 rfl (lv_at hl 0 rfl) ?_
      refine xg (C := RX7) (T := TX7) (N := 6) (v := .ref (b + 20)) hx hb hts inc7 hown hK hP (by omega) (cell7 (by decide)) rfl 2 (by decide) lk2 (fun _ h => h) rfl dX7_setHumidity_21 ?_
      refine lv_aload_n hx hb dX7_setHumidity_24 rfl (lv_at hl 0 rfl) ?_
      refine xg (C := RX7) (T := TX7) (N := 6) (v := .ref (b + 1)) hx hb hts inc7 hown hK hP (by omega) (cell7 (by decide)) rfl 0 (by decide) lk3 (fun _ h => h) rfl dX7_setHumidity_25 ?_
      refine xc_v (va_runV (As := [.ref (b + 1)]) (rest := []) ⟨hx, hb, hml, hown, hts⟩ (c_X0_record l D cy b n hn M 1 (by decide) hnx hcnt) (cwV 1 hts gX7_setHumidity_X0_record rfl rfl rfl (by decide +kernel) ⟨Nat.le_of_ble_eq_true rfl, Nat.le_of_ble_eq_true rfl⟩) (xPreV hP hK hX hS (by omega) (cell0 (by decide)) rfl) rfl rfl hl.1 rfl (lv_room (Nat.le_of_ble_eq_true rfl)) dX7_setHumidity_28 ⟨Nat.le_of_ble_eq_true rfl, Nat.le_of_ble_eq_true rfl⟩) hS (fun H locs hP hS => ?_)
      refine lv_aload_n hx hb dX7_setHumidity_31 rfl (lv_at hl 0 rfl) ?_
      refine xg (C := RX7) (T := TX7) (N := 6) (v := .ref (b + 1)) hx hb hts inc7 hown hK hP (by omega) (cell7 (by decide)) rfl 0 (by decide) lk3 (fun _ h => h) rfl dX7_setHumidity_32 ?_
      refine xg (C := RX4) (T := TX4) (N := 8) (v := .int ((gX0_record M 1) 1 3)) hx hb hts inc4 hown hK hP (by omega) (cell4 (by decide)) rfl 3 (by decide) lk4 (fun _ h => h) rfl dX7_setHumidity_35 ?_
      refine lv_istore_n (lv' := [(2, .int ((gX0_record M 1) 1 3)), (0, .ref (b + 0)), (1, .int x)]) hx hb dX7_setHumidity_38 rfl hl (by decide) rfl (fun ls hl => ?_)
      refine lv_aload_n hx hb dX7_setHumidity_39 rfl (lv_at hl 1 rfl) ?_
      refine xg (C := RX7) (T := TX7) (N := 6) (v := .ref (b + 1)) hx hb hts inc7 hown hK hP (by omega) (cell7 (by decide)) rfl 0 (by decide) lk3 (fun _ h => h) rfl dX7_setHumidity_40 ?_
      refine lv_iload_n hx hb dX7_setHumidity_43 rfl (lv_at hl 2 rfl) ?_
      refine xp (C := RX4) (T := TX4) (N := 8) (ci := 4) (ty := .int) (x := x) hx hb hts inc4 tyX4 tyX4_ok nmX4 hown hK hP hS (by omega) (fun _ => cell4 (by decide)) rfl 3 (by decide) rfl lk4 (fun _ h => h) rfl (tyX4_ok 3 (by decide)) rfl rfl (Nat.le_of_ble_eq_true rfl) dX7_setHumidity_44 (fun H locs hP hS => ?_)
      refine lv_iload_n hx hb dX7_setHumidity_47 rfl (lv_at hl 0 rfl) ?_
      exact xt_i hx hb hr hlocks hP hS rfl (by rw [tX7_setHumidity, if_neg c1, if_pos c7] <;> rfl) (by rw [gX7_setHumidity, if_neg c1, if_pos c7] <;> rfl) (by rw [fX7_setHumidity, if_neg c1, if_pos c7] <;> rfl) rfl (Nat.le_of_ble_eq_true rfl) (Nat.le_of_ble_eq_true rfl) dX7_setHumidity_48
    · exact xth (cls := "java/lang/IllegalArgumentException") (text := "the humidity is out of range") hx hb hl0 hown hX (by decide +kernel) (by decide +kernel) (by decide +kernel) lk0 lk1 (fun w h => hts w (at111 w h)) (by decide +kernel) (by decide +kernel) hP hS rfl (by rw [gX7_setHumidity, if_neg c1, if_neg c7] <;> rfl) (by rw [tX7_setHumidity, if_neg c1, if_neg c7]; exact Or.inr (Or.inl ⟨rfl, rfl⟩)) (hl.1.trans hml.symm) dX7_setHumidity_10 dX7_setHumidity_13 dX7_setHumidity_14 dX7_setHumidity_16 dX7_setHumidity_19 hout (Nat.le_of_ble_eq_true rfl) (Nat.le_of_ble_eq_true rfl) (Nat.le_of_ble_eq_true rfl) (Nat.le_of_ble_eq_true rfl) hlocks (Nat.le_of_ble_eq_true rfl) (Nat.le_of_ble_eq_true rfl)
def fX7_setTemperature (M : Mem) (x : Int32) : Int32 := if x < 0 then 0 else (if x ≤ (40 : Int32) then ((gX0_record M 1) 1 4) else 0)
def gX7_setTemperature (M : Mem) (x : Int32) : Mem := if x < 0 then M else (if x ≤ (40 : Int32) then (mU (gX0_record M 1) 1 4 x) else M)
def tX7_setTemperature (M : Mem) (x : Int32) : Nat := if x < 0 then 2 else (if x ≤ (40 : Int32) then 0 else 2)
set_option maxHeartbeats 4000000 in
set_option maxRecDepth 100000 in
theorem c_X7_setTemperature (l : Launch) (hl0 : l.stackTraces = false) (D : va_G) (cy : Nat → ClassId) (b n : Nat) (hn : 124 ≤ n) (M : Mem) (x : Int32) (hcnt : CNT M 1) (hnx : UB (M 20 1) 9) : vx_Met l yX7_setTemperature wsX7_setTemperature ({ frames := 6, cells := 1, slots := 6, locals := 90 } : Room) (CP D cy b n fT M [.ref (b + 0), .int x]) (CTi D cy b n fT (tX7_setTemperature M x) (fX7_setTemperature M x) (gX7_setTemperature M x)) (CX D cy b n fT (tX7_setTemperature M x) (gX7_setTemperature M x)) 1 6 (fr b) := by
  refine vx_ofW (cc := cX7_setTemperature) (maxL := 3) (ret := (some .int)) (by decide) rfl ?_
  intro p e s m args below meth c s₁ B hml hout hv
  obtain ⟨rfl, hP, hK, hX⟩ := hv
  have hx := B.exec
  have hb := B.bytes
  have hr := B.returns
  have hts := atoms_spec (ws := wsX7_setTemperature) B.pre
  have hown : s.vm.findClass RX7 = some m.cls := findClass_of_methodNamed B.named
  have hlocks := B.notSynchronized
  have lk0 := hts (.classLink RX7 107 "java/lang/IllegalArgumentException") (by decide +kernel)
  have lk1 := hts (.initialized "java/lang/IllegalArgumentException") (by decide +kernel)
  have lk2 := hts (.fieldLink RX7 26 "HygrometerRoom" "history" "LHygrometerRoom$History;") (by decide +kernel)
  have lk3 := hts (.fieldLink RX7 10 "HygrometerRoom" "room" "LHygrometerRoom$Room;") (by decide +kernel)
  have lk4 := hts (.fieldLink RX7 132 "HygrometerRoom$Room" "temperature" "I") (by decide +kernel)
  have at111 : ∀ w ∈ (vx_atS RX7 111 "java/lang/IllegalArgumentException" ["java/lang/RuntimeException", "java/lang/Exception"]).filter goodWord, w ∈ wsX7_setTemperature := by decide +kernel
  have inc4 : ∀ w ∈ u_ws RX4 TX4 8, w ∈ wsX7_setTemperature := by decide +kernel
  have inc7 : ∀ w ∈ u_ws RX7 TX7 6, w ∈ wsX7_setTemperature := by decide +kernel
  have hS : va_S (fr b) s.heap s.heap [] := va_S.rf
  have hl := lv_entry ([.ref (b + 0), .int x]) (n := 3) (Nat.le_of_ble_eq_true rfl)
  rw [lg_entry_eq]
  generalize (lg_sl ([.ref (b + 0), .int x]) ++ List.replicate (3 - (lg_sl ([.ref (b + 0), .int x])).length) Slot.unset).toArray = ls at hl ⊢
  have hl : lv_has ls 3 [(0, .ref (b + 0)), (1, .int x)] := hl
  refine lv_iload_n hx hb dX7_setTemperature_0 rfl (lv_at hl 1 rfl) ?_
  refine lv_if_lt (tgt := 10) hx hb dX7_setTemperature_1 (by decide) (fun c1 => ?_) (fun c1 => ?_)
  · exact xth (cls := "java/lang/IllegalArgumentException") (text := "the temperature is out of range") hx hb hl0 hown hX (by decide +kernel) (by decide +kernel) (by decide +kernel) lk0 lk1 (fun w h => hts w (at111 w h)) (by decide +kernel) (by decide +kernel) hP hS rfl (by rw [gX7_setTemperature, if_pos c1] <;> rfl) (by rw [tX7_setTemperature, if_pos c1]; exact Or.inr (Or.inl ⟨rfl, rfl⟩)) (hl.1.trans hml.symm) dX7_setTemperature_10 dX7_setTemperature_13 dX7_setTemperature_14 dX7_setTemperature_16 dX7_setTemperature_19 hout (Nat.le_of_ble_eq_true rfl) (Nat.le_of_ble_eq_true rfl) (Nat.le_of_ble_eq_true rfl) (Nat.le_of_ble_eq_true rfl) hlocks (Nat.le_of_ble_eq_true rfl) (Nat.le_of_ble_eq_true rfl)
  · refine lv_iload_n hx hb dX7_setTemperature_4 rfl (lv_at hl 1 rfl) ?_
    refine lv_bipush (v := 40) hx hb dX7_setTemperature_5 (by decide) ?_
    refine lv_icmp_le (tgt := 20) hx hb dX7_setTemperature_7 (by decide) (fun c7 => ?_) (fun c7 => ?_)
    · refine lv_aload_n hx hb dX7_setTemperature_20 rfl (lv_at hl 0 rfl) ?_
      refine xg (C := RX7) (T := TX7) (N := 6) (v := .ref (b + 20)) hx hb hts inc7 hown hK hP (by omega) (cell7 (by decide)) rfl 2 (by decide) lk2 (fun _ h => h) rfl dX7_setTemperature_21 ?_
      refine lv_aload_n hx hb dX7_setTemperature_24 rfl (lv_at hl 0 rfl) ?_
      refine xg (C := RX7) (T := TX7) (N := 6) (v := .ref (b + 1)) hx hb hts inc7 hown hK hP (by omega) (cell7 (by decide)) rfl 0 (by decide) lk3 (fun _ h => h) rfl dX7_setTemperature_25 ?_
      refine xc_v (va_runV (As := [.ref (b + 1)]) (rest := []) ⟨hx, hb, hml, hown, hts⟩ (c_X0_record l D cy b n hn M 1 (by decide) hnx hcnt) (cwV 1 hts gX7_setTemperature_X0_record rfl rfl rfl (by decide +kernel) ⟨Nat.le_of_ble_eq_true rfl, Nat.le_of_ble_eq_true rfl⟩) (xPreV hP hK hX hS (by omega) (cell0 (by decide)) rfl) rfl rfl hl.1 rfl (lv_room (Nat.le_of_ble_eq_true rfl)) dX7_setTemperature_28 ⟨Nat.le_of_ble_eq_true rfl, Nat.le_of_ble_eq_true rfl⟩) hS (fun H locs hP hS => ?_)
      refine lv_aload_n hx hb dX7_setTemperature_31 rfl (lv_at hl 0 rfl) ?_
      refine xg (C := RX7) (T := TX7) (N := 6) (v := .ref (b + 1)) hx hb hts inc7 hown hK hP (by omega) (cell7 (by decide)) rfl 0 (by decide) lk3 (fun _ h => h) rfl dX7_setTemperature_32 ?_
      refine xg (C := RX4) (T := TX4) (N := 8) (v := .int ((gX0_record M 1) 1 4)) hx hb hts inc4 hown hK hP (by omega) (cell4 (by decide)) rfl 4 (by decide) lk4 (fun _ h => h) rfl dX7_setTemperature_35 ?_
      refine lv_istore_n (lv' := [(2, .int ((gX0_record M 1) 1 4)), (0, .ref (b + 0)), (1, .int x)]) hx hb dX7_setTemperature_38 rfl hl (by decide) rfl (fun ls hl => ?_)
      refine lv_aload_n hx hb dX7_setTemperature_39 rfl (lv_at hl 1 rfl) ?_
      refine xg (C := RX7) (T := TX7) (N := 6) (v := .ref (b + 1)) hx hb hts inc7 hown hK hP (by omega) (cell7 (by decide)) rfl 0 (by decide) lk3 (fun _ h => h) rfl dX7_setTemperature_40 ?_
      refine lv_iload_n hx hb dX7_setTemperature_43 rfl (lv_at hl 2 rfl) ?_
      refine xp (C := RX4) (T := TX4) (N := 8) (ci := 4) (ty := .int) (x := x) hx hb hts inc4 tyX4 tyX4_ok nmX4 hown hK hP hS (by omega) (fun _ => cell4 (by decide)) rfl 4 (by decide) rfl lk4 (fun _ h => h) rfl (tyX4_ok 4 (by decide)) rfl rfl (Nat.le_of_ble_eq_true rfl) dX7_setTemperature_44 (fun H locs hP hS => ?_)
      refine lv_iload_n hx hb dX7_setTemperature_47 rfl (lv_at hl 0 rfl) ?_
      exact xt_i hx hb hr hlocks hP hS rfl (by rw [tX7_setTemperature, if_neg c1, if_pos c7] <;> rfl) (by rw [gX7_setTemperature, if_neg c1, if_pos c7] <;> rfl) (by rw [fX7_setTemperature, if_neg c1, if_pos c7] <;> rfl) rfl (Nat.le_of_ble_eq_true rfl) (Nat.le_of_ble_eq_true rfl) dX7_setTemperature_48
    · exact xth (cls := "java/lang/IllegalArgumentException") (text := "the temperature is out of range") hx hb hl0 hown hX (by decide +kernel) (by decide +kernel) (by decide +kernel) lk0 lk1 (fun w h => hts w (at111 w h)) (by decide +kernel) (by decide +kernel) hP hS rfl (by rw [gX7_setTemperature, if_neg c1, if_neg c7] <;> rfl) (by rw [tX7_setTemperature, if_neg c1, if_neg c7]; exact Or.inr (Or.inl ⟨rfl, rfl⟩)) (hl.1.trans hml.symm) dX7_setTemperature_10 dX7_setTemperature_13 dX7_setTemperature_14 dX7_setTemperature_16 dX7_setTemperature_19 hout (Nat.le_of_ble_eq_true rfl) (Nat.le_of_ble_eq_true rfl) (Nat.le_of_ble_eq_true rfl) (Nat.le_of_ble_eq_true rfl) hlocks (Nat.le_of_ble_eq_true rfl) (Nat.le_of_ble_eq_true rfl)
def fX7_setSkill (M : Mem) (x : Int32) : Int32 := if x < 0 then 0 else (if x ≤ (5 : Int32) then ((gX0_record M 1) 1 5) else 0)
def gX7_setSkill (M : Mem) (x : Int32) : Mem := if x < 0 then M else (if x ≤ (5 : Int32) then (mU (gX0_record M 1) 1 5 x) else M)
def tX7_setSkill (M : Mem) (x : Int32) : Nat := if x < 0 then 2 else (if x ≤ (5 : Int32) then 0 else 2)
set_option maxHeartbeats 4000000 in
set_option maxRecDepth 100000 in
theorem c_X7_setSkill (l : Launch) (hl0 : l.stackTraces = false) (D : va_G) (cy : Nat → ClassId) (b n : Nat) (hn : 124 ≤ n) (M : Mem) (x : Int32) (hcnt : CNT M 1) (hnx : UB (M 20 1) 9) : vx_Met l yX7_setSkill wsX7_setSkill ({ frames := 6, cells := 1, slots := 6, locals := 90 } : Room) (CP D cy b n fT M [.ref (b + 0), .int x]) (CTi D cy b n fT (tX7_setSkill M x) (fX7_setSkill M x) (gX7_setSkill M x)) (CX D cy b n fT (tX7_setSkill M x) (gX7_setSkill M x)) 1 6 (fr b) := by
  refine vx_ofW (cc := cX7_setSkill) (maxL := 3) (ret := (some .int)) (by decide) rfl ?_
  intro p e s m args below meth c s₁ B hml hout hv
  obtain ⟨rfl, hP, hK, hX⟩ := hv
  have hx := B.exec
  have hb := B.bytes
  have hr := B.returns
  have hts := atoms_spec (ws := wsX7_setSkill) B.pre
  have hown : s.vm.findClass RX7 = some m.cls := findClass_of_methodNamed B.named
  have hlocks := B.notSynchronized
  have lk0 := hts (.classLink RX7 107 "java/lang/IllegalArgumentException") (by decide +kernel)
  have lk1 := hts (.initialized "java/lang/IllegalArgumentException") (by decide +kernel)
  have lk2 := hts (.fieldLink RX7 26 "HygrometerRoom" "history" "LHygrometerRoom$History;") (by decide +kernel)
  have lk3 := hts (.fieldLink RX7 10 "HygrometerRoom" "room" "LHygrometerRoom$Room;") (by decide +kernel)
  have lk4 := hts (.fieldLink RX7 135 "HygrometerRoom$Room" "skill" "I") (by decide +kernel)
  have at111 : ∀ w ∈ (vx_atS RX7 111 "java/lang/IllegalArgumentException" ["java/lang/RuntimeException", "java/lang/Exception"]).filter goodWord, w ∈ wsX7_setSkill := by decide +kernel
  have inc4 : ∀ w ∈ u_ws RX4 TX4 8, w ∈ wsX7_setSkill := by decide +kernel
  have inc7 : ∀ w ∈ u_ws RX7 TX7 6, w ∈ wsX7_setSkill := by decide +kernel
  have hS : va_S (fr b) s.heap s.heap [] := va_S.rf
  have hl := lv_entry ([.ref (b + 0), .int x]) (n := 3) (Nat.le_of_ble_eq_true rfl)
  rw [lg_entry_eq]
  generalize (lg_sl ([.ref (b + 0), .int x]) ++ List.replicate (3 - (lg_sl ([.ref (b + 0), .int x])).length) Slot.unset).toArray = ls at hl ⊢
  have hl : lv_has ls 3 [(0, .ref (b + 0)), (1, .int x)] := hl
  refine lv_iload_n hx hb dX7_setSkill_0 rfl (lv_at hl 1 rfl) ?_
  refine lv_if_lt (tgt := 9) hx hb dX7_setSkill_1 (by decide) (fun c1 => ?_) (fun c1 => ?_)
  · exact xthW (cls := "java/lang/IllegalArgumentException") (text := "the skill is out of range") hx hb hl0 hown hX (by decide +kernel) (by decide +kernel) (by decide +kernel) lk0 lk1 (fun w h => hts w (at111 w h)) (by decide +kernel) (by decide +kernel) hP hS rfl (by rw [gX7_setSkill, if_pos c1] <;> rfl) (by rw [tX7_setSkill, if_pos c1]; exact Or.inr (Or.inl ⟨rfl, rfl⟩)) (hl.1.trans hml.symm) dX7_setSkill_9 dX7_setSkill_12 dX7_setSkill_13 dX7_setSkill_16 dX7_setSkill_19 hout (Nat.le_of_ble_eq_true rfl) (Nat.le_of_ble_eq_true rfl) (Nat.le_of_ble_eq_true rfl) (Nat.le_of_ble_eq_true rfl) hlocks (Nat.le_of_ble_eq_true rfl) (Nat.le_of_ble_eq_true rfl)
  · refine lv_iload_n hx hb dX7_setSkill_4 rfl (lv_at hl 1 rfl) ?_
    refine lv_iconst (v := 5) hx hb dX7_setSkill_5 (by decide) ?_
    refine lv_icmp_le (tgt := 20) hx hb dX7_setSkill_6 (by decide) (fun c6 => ?_) (fun c6 => ?_)
    · refine lv_aload_n hx hb dX7_setSkill_20 rfl (lv_at hl 0 rfl) ?_
      refine xg (C := RX7) (T := TX7) (N := 6) (v := .ref (b + 20)) hx hb hts inc7 hown hK hP (by omega) (cell7 (by decide)) rfl 2 (by decide) lk2 (fun _ h => h) rfl dX7_setSkill_21 ?_
      refine lv_aload_n hx hb dX7_setSkill_24 rfl (lv_at hl 0 rfl) ?_
      refine xg (C := RX7) (T := TX7) (N := 6) (v := .ref (b + 1)) hx hb hts inc7 hown hK hP (by omega) (cell7 (by decide)) rfl 0 (by decide) lk3 (fun _ h => h) rfl dX7_setSkill_25 ?_
      refine xc_v (va_runV (As := [.ref (b + 1)]) (rest := []) ⟨hx, hb, hml, hown, hts⟩ (c_X0_record l D cy b n hn M 1 (by decide) hnx hcnt) (cwV 1 hts gX7_setSkill_X0_record rfl rfl rfl (by decide +kernel) ⟨Nat.le_of_ble_eq_true rfl, Nat.le_of_ble_eq_true rfl⟩) (xPreV hP hK hX hS (by omega) (cell0 (by decide)) rfl) rfl rfl hl.1 rfl (lv_room (Nat.le_of_ble_eq_true rfl)) dX7_setSkill_28 ⟨Nat.le_of_ble_eq_true rfl, Nat.le_of_ble_eq_true rfl⟩) hS (fun H locs hP hS => ?_)
      refine lv_aload_n hx hb dX7_setSkill_31 rfl (lv_at hl 0 rfl) ?_
      refine xg (C := RX7) (T := TX7) (N := 6) (v := .ref (b + 1)) hx hb hts inc7 hown hK hP (by omega) (cell7 (by decide)) rfl 0 (by decide) lk3 (fun _ h => h) rfl dX7_setSkill_32 ?_
      refine xg (C := RX4) (T := TX4) (N := 8) (v := .int ((gX0_record M 1) 1 5)) hx hb hts inc4 hown hK hP (by omega) (cell4 (by decide)) rfl 5 (by decide) lk4 (fun _ h => h) rfl dX7_setSkill_35 ?_
      refine lv_istore_n (lv' := [(2, .int ((gX0_record M 1) 1 5)), (0, .ref (b + 0)), (1, .int x)]) hx hb dX7_setSkill_38 rfl hl (by decide) rfl (fun ls hl => ?_)
      refine lv_aload_n hx hb dX7_setSkill_39 rfl (lv_at hl 1 rfl) ?_
      refine xg (C := RX7) (T := TX7) (N := 6) (v := .ref (b + 1)) hx hb hts inc7 hown hK hP (by omega) (cell7 (by decide)) rfl 0 (by decide) lk3 (fun _ h => h) rfl dX7_setSkill_40 ?_
      refine lv_iload_n hx hb dX7_setSkill_43 rfl (lv_at hl 2 rfl) ?_
      refine xp (C := RX4) (T := TX4) (N := 8) (ci := 4) (ty := .int) (x := x) hx hb hts inc4 tyX4 tyX4_ok nmX4 hown hK hP hS (by omega) (fun _ => cell4 (by decide)) rfl 5 (by decide) rfl lk4 (fun _ h => h) rfl (tyX4_ok 5 (by decide)) rfl rfl (Nat.le_of_ble_eq_true rfl) dX7_setSkill_44 (fun H locs hP hS => ?_)
      refine lv_iload_n hx hb dX7_setSkill_47 rfl (lv_at hl 0 rfl) ?_
      exact xt_i hx hb hr hlocks hP hS rfl (by rw [tX7_setSkill, if_neg c1, if_pos c6] <;> rfl) (by rw [gX7_setSkill, if_neg c1, if_pos c6] <;> rfl) (by rw [fX7_setSkill, if_neg c1, if_pos c6] <;> rfl) rfl (Nat.le_of_ble_eq_true rfl) (Nat.le_of_ble_eq_true rfl) dX7_setSkill_48
    · exact xthW (cls := "java/lang/IllegalArgumentException") (text := "the skill is out of range") hx hb hl0 hown hX (by decide +kernel) (by decide +kernel) (by decide +kernel) lk0 lk1 (fun w h => hts w (at111 w h)) (by decide +kernel) (by decide +kernel) hP hS rfl (by rw [gX7_setSkill, if_neg c1, if_neg c6] <;> rfl) (by rw [tX7_setSkill, if_neg c1, if_neg c6]; exact Or.inr (Or.inl ⟨rfl, rfl⟩)) (hl.1.trans hml.symm) dX7_setSkill_9 dX7_setSkill_12 dX7_setSkill_13 dX7_setSkill_16 dX7_setSkill_19 hout (Nat.le_of_ble_eq_true rfl) (Nat.le_of_ble_eq_true rfl) (Nat.le_of_ble_eq_true rfl) (Nat.le_of_ble_eq_true rfl) hlocks (Nat.le_of_ble_eq_true rfl) (Nat.le_of_ble_eq_true rfl)
def fX7_advance (M : Mem) (x : Int32) : Int32 := if x < (1 : Int32) then 0 else (if x ≤ (99 : Int32) then (if x ≤ ((9999 : Int32) - (M 1 2)) then (fX4_pass (gX0_record M 1) 1 x) else 0) else 0)
def gX7_advance (M : Mem) (x : Int32) : Mem := if x < (1 : Int32) then M else (if x ≤ (99 : Int32) then (if x ≤ ((9999 : Int32) - (M 1 2)) then (gX4_pass (gX0_record M 1) 1 x) else M) else M)
def tX7_advance (M : Mem) (x : Int32) : Nat := if x < (1 : Int32) then 2 else (if x ≤ (99 : Int32) then (if x ≤ ((9999 : Int32) - (M 1 2)) then 0 else 3) else 2)
set_option maxHeartbeats 4000000 in
set_option maxRecDepth 100000 in
theorem c_X7_advance (l : Launch) (hl0 : l.stackTraces = false) (D : va_G) (cy : Nat → ClassId) (b n : Nat) (hn : 124 ≤ n) (M : Mem) (x : Int32) (hcnt : CNT M 1) (hnx : UB (M 20 1) 9) : vx_Met l yX7_advance wsX7_advance ({ frames := 6, cells := 1, slots := 6, locals := 90 } : Room) (CP D cy b n fT M [.ref (b + 0), .int x]) (CTi D cy b n fT (tX7_advance M x) (fX7_advance M x) (gX7_advance M x)) (CX D cy b n fT (tX7_advance M x) (gX7_advance M x)) 1 6 (fr b) := by
  refine vx_ofW (cc := cX7_advance) (maxL := 2) (ret := (some .int)) (by decide) rfl ?_
  intro p e s m args below meth c s₁ B hml hout hv
  obtain ⟨rfl, hP, hK, hX⟩ := hv
  have hx := B.exec
  have hb := B.bytes
  have hr := B.returns
  have hts := atoms_spec (ws := wsX7_advance) B.pre
  have hown : s.vm.findClass RX7 = some m.cls := findClass_of_methodNamed B.named
  have hlocks := B.notSynchronized
  have lk0 := hts (.classLink RX7 107 "java/lang/IllegalArgumentException") (by decide +kernel)
  have lk1 := hts (.initialized "java/lang/IllegalArgumentException") (by decide +kernel)
  have lk2 := hts (.fieldLink RX7 10 "HygrometerRoom" "room" "LHygrometerRoom$Room;") (by decide +kernel)
  have lk3 := hts (.fieldLink RX7 129 "HygrometerRoom$Room" "minute" "I") (by decide +kernel)
  have lk4 := hts (.fieldLink RX7 26 "HygrometerRoom" "history" "LHygrometerRoom$History;") (by decide +kernel)
  have lk5 := hts (.classLink RX7 86 "java/lang/IllegalStateException") (by decide +kernel)
  have lk6 := hts (.initialized "java/lang/IllegalStateException") (by decide +kernel)
  have at90 : ∀ w ∈ (vx_atS RX7 90 "java/lang/IllegalStateException" ["java/lang/RuntimeException", "java/lang/Exception"]).filter goodWord, w ∈ wsX7_advance := by decide +kernel
  have at111 : ∀ w ∈ (vx_atS RX7 111 "java/lang/IllegalArgumentException" ["java/lang/RuntimeException", "java/lang/Exception"]).filter goodWord, w ∈ wsX7_advance := by decide +kernel
  have inc4 : ∀ w ∈ u_ws RX4 TX4 8, w ∈ wsX7_advance := by decide +kernel
  have inc7 : ∀ w ∈ u_ws RX7 TX7 6, w ∈ wsX7_advance := by decide +kernel
  have hS : va_S (fr b) s.heap s.heap [] := va_S.rf
  have hl := lv_entry ([.ref (b + 0), .int x]) (n := 2) (Nat.le_of_ble_eq_true rfl)
  rw [lg_entry_eq]
  generalize (lg_sl ([.ref (b + 0), .int x]) ++ List.replicate (2 - (lg_sl ([.ref (b + 0), .int x])).length) Slot.unset).toArray = ls at hl ⊢
  have hl : lv_has ls 2 [(0, .ref (b + 0)), (1, .int x)] := hl
  refine lv_iload_n hx hb dX7_advance_0 rfl (lv_at hl 1 rfl) ?_
  refine lv_iconst (v := 1) hx hb dX7_advance_1 (by decide) ?_
  refine lv_icmp_lt (tgt := 11) hx hb dX7_advance_2 (by decide) (fun c2 => ?_) (fun c2 => ?_)
  · exact xth (cls := "java/lang/IllegalArgumentException") (text := "the minutes are out of range") hx hb hl0 hown hX (by decide +kernel) (by decide +kernel) (by decide +kernel) lk0 lk1 (fun w h => hts w (at111 w h)) (by decide +kernel) (by decide +kernel) hP hS rfl (by rw [gX7_advance, if_pos c2] <;> rfl) (by rw [tX7_advance, if_pos c2]; exact Or.inr (Or.inl ⟨rfl, rfl⟩)) (hl.1.trans hml.symm) dX7_advance_11 dX7_advance_14 dX7_advance_15 dX7_advance_17 dX7_advance_20 hout (Nat.le_of_ble_eq_true rfl) (Nat.le_of_ble_eq_true rfl) (Nat.le_of_ble_eq_true rfl) (Nat.le_of_ble_eq_true rfl) hlocks (Nat.le_of_ble_eq_true rfl) (Nat.le_of_ble_eq_true rfl)
  · refine lv_iload_n hx hb dX7_advance_5 rfl (lv_at hl 1 rfl) ?_
    refine lv_bipush (v := 99) hx hb dX7_advance_6 (by decide) ?_
    refine lv_icmp_le (tgt := 21) hx hb dX7_advance_8 (by decide) (fun c8 => ?_) (fun c8 => ?_)
    · refine lv_iload_n hx hb dX7_advance_21 rfl (lv_at hl 1 rfl) ?_
      refine lv_sipush (v := 9999) hx hb dX7_advance_22 (by decide) ?_
      refine lv_aload_n hx hb dX7_advance_25 rfl (lv_at hl 0 rfl) ?_
      refine xg (C := RX7) (T := TX7) (N := 6) (v := .ref (b + 1)) hx hb hts inc7 hown hK hP (by omega) (cell7 (by decide)) rfl 0 (by decide) lk2 (fun _ h => h) rfl dX7_advance_26 ?_
      refine xg (C := RX4) (T := TX4) (N := 8) (v := .int (M 1 2)) hx hb hts inc4 hown hK hP (by omega) (cell4 (by decide)) rfl 2 (by decide) lk3 (fun _ h => h) rfl dX7_advance_29 ?_
      refine lv_isub hx hb dX7_advance_32 ?_
      refine lv_icmp_le (tgt := 46) hx hb dX7_advance_33 (by decide) (fun c33 => ?_) (fun c33 => ?_)
      · refine lv_aload_n hx hb dX7_advance_46 rfl (lv_at hl 0 rfl) ?_
        refine xg (C := RX7) (T := TX7) (N := 6) (v := .ref (b + 20)) hx hb hts inc7 hown hK hP (by omega) (cell7 (by decide)) rfl 2 (by decide) lk4 (fun _ h => h) rfl dX7_advance_47 ?_
        refine lv_aload_n hx hb dX7_advance_50 rfl (lv_at hl 0 rfl) ?_
        refine xg (C := RX7) (T := TX7) (N := 6) (v := .ref (b + 1)) hx hb hts inc7 hown hK hP (by omega) (cell7 (by decide)) rfl 0 (by decide) lk2 (fun _ h => h) rfl dX7_advance_51 ?_
        refine xc_v (va_runV (As := [.ref (b + 1)]) (rest := []) ⟨hx, hb, hml, hown, hts⟩ (c_X0_record l D cy b n hn M 1 (by decide) hnx hcnt) (cwV 1 hts gX7_advance_X0_record rfl rfl rfl (by decide +kernel) ⟨Nat.le_of_ble_eq_true rfl, Nat.le_of_ble_eq_true rfl⟩) (xPreV hP hK hX hS (by omega) (cell0 (by decide)) rfl) rfl rfl hl.1 rfl (lv_room (Nat.le_of_ble_eq_true rfl)) dX7_advance_54 ⟨Nat.le_of_ble_eq_true rfl, Nat.le_of_ble_eq_true rfl⟩) hS (fun H locs hP hS => ?_)
        refine lv_aload_n hx hb dX7_advance_57 rfl (lv_at hl 0 rfl) ?_
        refine xg (C := RX7) (T := TX7) (N := 6) (v := .ref (b + 1)) hx hb hts inc7 hown hK hP (by omega) (cell7 (by decide)) rfl 0 (by decide) lk2 (fun _ h => h) rfl dX7_advance_58 ?_
        refine lv_iload_n hx hb dX7_advance_61 rfl (lv_at hl 1 rfl) ?_
        refine xc_i (va_runV (As := [.int x]) (rest := []) ⟨hx, hb, hml, hown, hts⟩ (c_X4_pass l D cy b n hn (gX0_record M 1) 1 x (by decide) (cnt_row (rec_ne hcnt hnx (by omega)) hcnt) ((ub_1 (N := 99) c2 c8 rfl).mono (by omega))) (cwV 1 hts gX7_advance_X4_pass rfl rfl rfl (by decide +kernel) ⟨Nat.le_of_ble_eq_true rfl, Nat.le_of_ble_eq_true rfl⟩) (xPreV hP hK hX hS (by omega) (cell4 (by decide)) rfl) rfl rfl hl.1 rfl (lv_room (Nat.le_of_ble_eq_true rfl)) dX7_advance_62 ⟨Nat.le_of_ble_eq_true rfl, Nat.le_of_ble_eq_true rfl⟩) hS (fun H locs hP hS => ?_)
        exact xt_i hx hb hr hlocks hP hS rfl (by rw [tX7_advance, if_neg c2, if_pos c8, if_pos c33] <;> rfl) (by rw [gX7_advance, if_neg c2, if_pos c8, if_pos c33] <;> rfl) (by rw [fX7_advance, if_neg c2, if_pos c8, if_pos c33] <;> rfl) (by unfold fX4_pass; (repeat' split) <;> rfl) (Nat.le_of_ble_eq_true rfl) (Nat.le_of_ble_eq_true rfl) dX7_advance_65
      · exact xth (cls := "java/lang/IllegalStateException") (text := "the minute number would be too great") hx hb hl0 hown hX (by decide +kernel) (by decide +kernel) (by decide +kernel) lk5 lk6 (fun w h => hts w (at90 w h)) (by decide +kernel) (by decide +kernel) hP hS rfl (by rw [gX7_advance, if_neg c2, if_pos c8, if_neg c33] <;> rfl) (by rw [tX7_advance, if_neg c2, if_pos c8, if_neg c33]; exact Or.inr (Or.inr ⟨rfl, rfl⟩)) (hl.1.trans hml.symm) dX7_advance_36 dX7_advance_39 dX7_advance_40 dX7_advance_42 dX7_advance_45 hout (Nat.le_of_ble_eq_true rfl) (Nat.le_of_ble_eq_true rfl) (Nat.le_of_ble_eq_true rfl) (Nat.le_of_ble_eq_true rfl) hlocks (Nat.le_of_ble_eq_true rfl) (Nat.le_of_ble_eq_true rfl)
    · exact xth (cls := "java/lang/IllegalArgumentException") (text := "the minutes are out of range") hx hb hl0 hown hX (by decide +kernel) (by decide +kernel) (by decide +kernel) lk0 lk1 (fun w h => hts w (at111 w h)) (by decide +kernel) (by decide +kernel) hP hS rfl (by rw [gX7_advance, if_neg c2, if_neg c8] <;> rfl) (by rw [tX7_advance, if_neg c2, if_neg c8]; exact Or.inr (Or.inl ⟨rfl, rfl⟩)) (hl.1.trans hml.symm) dX7_advance_11 dX7_advance_14 dX7_advance_15 dX7_advance_17 dX7_advance_20 hout (Nat.le_of_ble_eq_true rfl) (Nat.le_of_ble_eq_true rfl) (Nat.le_of_ble_eq_true rfl) (Nat.le_of_ble_eq_true rfl) hlocks (Nat.le_of_ble_eq_true rfl) (Nat.le_of_ble_eq_true rfl)

