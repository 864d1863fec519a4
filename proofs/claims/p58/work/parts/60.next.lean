/-! the law's own numbers: the next one, and its remainders -/
def ush (x k : Int32) : Int32 := (x.toUInt32 >>> (k.toUInt32 &&& Int32.toUInt32 31)).toInt32
def nxA (x : Int32) : Int32 := x * 1103515245 + 12345
def nxS (x : Int32) : Int32 := nxA x ^^^ ush (nxA x) 15
def nxV (x : Int32) : Int32 := ush (nxS x) 9
theorem ush9 (x : Int32) : ∃ k, k < 2 ^ 23 ∧ ush x 9 = nI k := by
  refine ⟨(x.toUInt32 >>> 9).toNat, ?_, ?_⟩
  · rw [UInt32.toNat_shiftRight, Nat.shiftRight_eq_div_pow]
    have h := x.toUInt32.toNat_lt
    show x.toUInt32.toNat / 2 ^ 9 < 2 ^ 23
    omega
  · unfold ush
    rw [show (9 : Int32).toUInt32 &&& Int32.toUInt32 31 = 9 by decide]
    show (x.toUInt32 >>> 9).toInt32 = (UInt32.ofNat (x.toUInt32 >>> 9).toNat).toInt32
    rw [UInt32.ofNat_toNat]
theorem nx_mod (x : Int32) {k : Nat} (h0 : 0 < k) (hk : k ≤ 101) : ∃ j, j < k ∧ nxV x - nxV x / nI k * nI k = nI j := by
  obtain ⟨v, hv, e⟩ := ush9 (nxS x)
  refine ⟨v % k, Nat.mod_lt _ h0, ?_⟩
  unfold nxV
  rw [e]
  have e1 : nI v / nI k = nI (v / k) := by
    apply Int32.toInt_inj.mp
    have hd := Nat.div_le_self v k
    rw [Int32.toInt_div_of_ne_right _ _ (nI_neg (by omega)), nI_toInt (show v < 2 ^ 31 by omega), nI_toInt (show k < 2 ^ 31 by omega), nI_toInt (show v / k < 2 ^ 31 by omega)]
    rfl
  have hm : v / k * k ≤ v := Nat.div_mul_le_self v k
  rw [e1, show nI (v / k) * nI k = nI (v / k * k) from pk_mul _ _, pk_sub hm]
  congr 1
  have := Nat.div_add_mod v k
  have h2 : v / k * k = k * (v / k) := Nat.mul_comm _ _
  omega
set_option maxHeartbeats 4000000 in
set_option maxRecDepth 100000 in
theorem c_L_next (l : Launch) (D : va_G) (cy : Nat → ClassId) (b n : Nat) (hn : 125 ≤ n) (M : Mem) : Met l yL_next wsL_next ({ frames := 0, cells := 0, slots := 0, locals := 0 } : Room) (CP D cy b n fT M [.ref (b + 124)]) (CQi D cy b n fT (nxV (M 124 0)) (mU M 124 0 (nxS (M 124 0)))) 0 0 (fr b) := by
  refine Met.ofW (cc := cL_next) (maxL := 1) (ret := some .int) (by decide) rfl ?_
  intro p e s m args below meth c s₁ B hml hv
  obtain ⟨rfl, hP, hK, hX⟩ := hv
  have hx := B.exec
  have hb := B.bytes
  have hr := B.returns
  have hts := atoms_spec (ws := wsL_next) B.pre
  have hown : s.vm.findClass RL = some m.cls := findClass_of_methodNamed B.named
  have hlocks := B.notSynchronized
  have hS : va_S (fr b) s.heap s.heap [] := va_S.rf
  have hl := lv_entry ([.ref (b + 124)]) (n := 1) (Nat.le_of_ble_eq_true rfl)
  rw [lg_entry_eq]
  generalize (lg_sl ([.ref (b + 124)]) ++ List.replicate (1 - (lg_sl ([.ref (b + 124)])).length) Slot.unset).toArray = ls at hl ⊢
  have hl : lv_has ls 1 [(0, .ref (b + 124))] := hl
  have lk0 := hts (.constant RL 7 (1103515245)) (by decide +kernel)
  refine lv_aload_n hx hb dL_next_0 rfl (lv_at hl 0 rfl) ?_
  refine lv_iconst (v := 0) hx hb dL_next_1 (by decide) ?_
  refine lv_aload_n hx hb dL_next_2 rfl (lv_at hl 0 rfl) ?_
  refine lv_iconst (v := 0) hx hb dL_next_3 (by decide) ?_
  refine xil (j := 0) hx hb hK hP (by omega) (by decide) (ixIn (a := 0) rfl (by decide) (by decide)) rfl dL_next_4 ?_
  refine lv_ldc (v := 1103515245) hx hb hown lk0 dL_next_5 ?_
  refine lv_imul hx hb dL_next_7 ?_
  refine lv_sipush (v := 12345) hx hb dL_next_8 (by decide) ?_
  refine lv_iadd hx hb dL_next_11 ?_
  refine xis (j := 0) (x := nxA (M 124 0)) hx hb hK hP hS (by omega) (by decide) (ixIn (a := 0) rfl (by decide) (by decide)) rfl dL_next_12 (fun H locs hP hS => ?_)
  refine lv_aload_n hx hb dL_next_13 rfl (lv_at hl 0 rfl) ?_
  refine lv_iconst (v := 0) hx hb dL_next_14 (by decide) ?_
  refine lv_dup2_11 hx hb dL_next_15 rfl rfl ?_
  refine xil (j := 0) hx hb hK hP (by omega) (by decide) (ixIn (a := 0) rfl (by decide) (by decide)) rfl dL_next_16 ?_
  refine lv_aload_n hx hb dL_next_17 rfl (lv_at hl 0 rfl) ?_
  refine lv_iconst (v := 0) hx hb dL_next_18 (by decide) ?_
  refine xil (j := 0) hx hb hK hP (by omega) (by decide) (ixIn (a := 0) rfl (by decide) (by decide)) rfl dL_next_19 ?_
  refine lv_bipush (v := 15) hx hb dL_next_20 (by decide) ?_
  refine lv_iushr (v := ush (nxA (M 124 0)) 15) hx hb dL_next_22 (by rw [mU_at]; rfl) ?_
  refine lv_ixor hx hb dL_next_23 ?_
  refine W.eq (g2 := F0 m 24 ls (.int (nxS (M 124 0)) :: .int 0 :: .ref (b + 124) :: [])) (congrArg (fun z => F0 m 24 ls (.int z :: .int 0 :: .ref (b + 124) :: [])) (by rw [mU_at]; rfl)) ?_
  refine xis (j := 0) (x := nxS (M 124 0)) hx hb hK hP hS (by omega) (by decide) (ixIn (a := 0) rfl (by decide) (by decide)) rfl dL_next_24 (fun H locs hP hS => ?_)
  have em : mU (mU M 124 0 (nxA (M 124 0))) 124 0 (nxS (M 124 0)) = mU M 124 0 (nxS (M 124 0)) := by
    funext p k
    unfold mU upd
    by_cases hp : p = 124
    · simp only [hp, if_pos]
      split <;> rfl
    · simp only [if_neg hp]
  rw [em] at hP
  refine lv_aload_n hx hb dL_next_25 rfl (lv_at hl 0 rfl) ?_
  refine lv_iconst (v := 0) hx hb dL_next_26 (by decide) ?_
  refine xil (j := 0) hx hb hK hP (by omega) (by decide) (ixIn (a := 0) rfl (by decide) (by decide)) rfl dL_next_27 ?_
  refine lv_bipush (v := 9) hx hb dL_next_28 (by decide) ?_
  refine lv_iushr (v := nxV (M 124 0)) hx hb dL_next_30 (by rw [mU_at]; rfl) ?_
  exact xe_i hx hb hr hlocks hP hS rfl rfl rfl (Nat.le_of_ble_eq_true rfl) (Nat.le_of_ble_eq_true rfl) dL_next_31
