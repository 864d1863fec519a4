theorem inv_iok {mx c : Nat} {M : Mem} (h : INV mx M) (h1 : M 1 1 = nI c) (hc : c ≤ 6) : ∀ k, k < c → IOK (M (1 + 1 + 1 + k)) := fun k hk => by
  have := (inv_i1 h h1 hc hk).1
  rw [pl_nI (by omega)] at this
  exact this
set_option maxHeartbeats 4000000 in
set_option maxRecDepth 100000 in
theorem cl_L_comparisons (l : Launch) (hl0 : l.stackTraces = false) (D : va_G) (cy : Nat → ClassId) (b n : Nat) (hn : 124 ≤ n) (M : Mem) {mx : Nat} (hI : INV mx M) {c0 : Nat} (h1 : M 1 1 = nI c0) (hc6 : c0 ≤ 6) {p : Program} {e : Env} {s : State} {m : MethodId} {args : Array Value} {below : List Frame} {meth : Method} {c : Code} (hx : p.tables.exec = Jvm.exec) (hb : c.code = cL_comparisons) (hr : meth.sig.returnType = (some .boolean)) (hlocks : meth.locks = false) (hml : c.maxLocals = 14) (hown : s.vm.findClass RL = some m.cls) (hts : ∀ w ∈ wsL_comparisons, w.before args s = true) (hK : va_K D vwCl (tysW cy) s) (hX : SX b s) (hcn : CNT M 1) : ∀ (k : Nat) (j cells slots : Nat) (H : Heap) (locs : List Loc) (ls : Array Slot), j ≤ c0 → 7 ≤ j + k → cells + 11 * (6 - j) ≤ 66 → slots + 66 * (6 - j) ≤ 396 → va_P D vwCl (wL cy b fT M n) H → va_S (fr b) s.heap H locs → lv_has ls 14 [(1, .int (uS M j)), (2, .int (sS M j)), (3, .int (wS M j)), (4, .int (rS M j)), (5, .int (bS M j)), (6, .int (kS M j)), (7, .int (dS M j)), (8, .int (lS M j)), (9, .int (mS M j)), (10, .int (fX7_instrumentCount M)), (11, .int (nI (j))), (0, .ref (b + 0))] → W p l e (headSpec wsL_comparisons ({ frames := 8, cells := 66, slots := 396, locals := 149 } : Room)).room s m args below meth c H locs cells slots (MQ below (CQi D cy b n fT 1 M) args s 66 396 (fr b)) (F0 m 34 ls []) := by
  have lk0 := hts (.methodLink RL 196 Lib.Math.abs.name) (by decide +kernel)
  have lk1 := hts (.static Lib.Math.abs.name) (by decide +kernel)
  have lk2 := hts (.initialized "java/lang/Math") (by decide +kernel)
  have lk3 := hts (.code Lib.Math.abs.name Lib.Math.abs.code 1 (some .int)) (by decide +kernel)
  have lk4 := hts (.methodLink RL 155 Lib.Math.min.name) (by decide +kernel)
  have lk5 := hts (.static Lib.Math.min.name) (by decide +kernel)
  have lk6 := hts (.code Lib.Math.min.name Lib.Math.min.code 2 (some .int)) (by decide +kernel)
  have lk7 := hts (.methodLink RL 160 Lib.Math.max.name) (by decide +kernel)
  have lk8 := hts (.static Lib.Math.max.name) (by decide +kernel)
  have lk9 := hts (.code Lib.Math.max.name Lib.Math.max.code 2 (some .int)) (by decide +kernel)
  intro k
  induction k with
  | zero => intro j cells slots H locs ls hj hk; omega
  | succ k ih =>
    intro j cells slots H locs ls hj hk hcl hsl hP hS hl
    refine lv_iload hx hb dL_comparisons_34 (lv_at hl 10 rfl) ?_
    refine lv_iload hx hb dL_comparisons_36 (lv_at hl 9 rfl) ?_
    refine lv_icmp_ge (tgt := 271) hx hb dL_comparisons_38 (by decide) (fun c38 => ?_) (fun c38 => ?_)
    · have c38 : M 1 1 ≤ nI j := c38
      have hjc : j = c0 := by rw [h1, nI_leI (by omega) (by omega)] at c38; omega
      subst hjc
      refine lv_aload_n hx hb dL_comparisons_271 rfl (lv_at hl 11 rfl) ?_
      refine xc_i (va_runV (As := []) (rest := []) ⟨hx, hb, hml, hown, hts⟩ (c_X7_usableInstruments l D cy b n (by omega) M hcn) (cwV 0 hts gL_comparisons_X7_usableInstruments rfl rfl rfl (by decide +kernel) ⟨Nat.le_of_ble_eq_true rfl, Nat.le_of_ble_eq_true rfl⟩) (xPreV hP hK hX hS (by omega) (cell7 (by decide)) rfl) rfl rfl hl.1 rfl (lv_room (Nat.le_of_ble_eq_true rfl)) dL_comparisons_272 ⟨by show _ ≤ 66; omega, by show _ ≤ 396; omega⟩) hS (fun H locs hP hS => ?_)
      refine lv_iload_n hx hb dL_comparisons_275 rfl (lv_at hl 0 rfl) ?_
      refine lv_icmp_ne (tgt := 396) hx hb dL_comparisons_276 (by decide) (fun c276 => absurd (us_eq h1 hc6) c276) (fun c276 => ?_)
      refine lv_aload_n hx hb dL_comparisons_279 rfl (lv_at hl 11 rfl) ?_
      refine xc_i (va_runV (As := []) (rest := []) ⟨hx, hb, hml, hown, hts⟩ (c_X7_blend l D cy b n (by omega) M hcn) (cwV 0 hts gL_comparisons_X7_blend rfl rfl rfl (by decide +kernel) ⟨Nat.le_of_ble_eq_true rfl, Nat.le_of_ble_eq_true rfl⟩) (xPreV hP hK hX hS (by omega) (cell7 (by decide)) rfl) rfl rfl hl.1 rfl (lv_room (Nat.le_of_ble_eq_true rfl)) dL_comparisons_280 ⟨by show _ ≤ 66; omega, by show _ ≤ 396; omega⟩) hS (fun H locs hP hS => ?_)
      refine lv_iload_n hx hb dL_comparisons_283 rfl (lv_at hl 2 rfl) ?_
      have k294 : ∀ (H : Heap) (locs : List Loc) (ls : Array Slot), va_P D vwCl (wL cy b fT M n) H → va_S (fr b) s.heap H locs → lv_has ls 14 [(1, .int (uS M j)), (2, .int (sS M j)), (3, .int (wS M j)), (4, .int (rS M j)), (5, .int (bS M j)), (6, .int (kS M j)), (7, .int (dS M j)), (8, .int (lS M j)), (9, .int (mS M j)), (10, .int (fX7_instrumentCount M)), (11, .int (nI (j))), (0, .ref (b + 0))] → W p l e (headSpec wsL_comparisons ({ frames := 8, cells := 66, slots := 396, locals := 149 } : Room)).room s m args below meth c H locs (cells + 0) (slots + 0) (MQ below (CQi D cy b n fT 1 M) args s 66 396 (fr b)) (F0 m 294 ls (.int (fX7_blend M) :: .int (fX7_blend M) :: [])) := by
        intro H locs ls hP hS hl
        refine lv_icmp_ne (tgt := 396) hx hb dL_comparisons_294 (by decide) (fun c294 => absurd rfl c294) (fun c294 => ?_)
        refine lv_aload_n hx hb dL_comparisons_297 rfl (lv_at hl 11 rfl) ?_
        refine xc_i (va_runV (As := []) (rest := []) ⟨hx, hb, hml, hown, hts⟩ (c_X7_bestInstrument l D cy b n (by omega) M hcn) (cwV 0 hts gL_comparisons_X7_bestInstrument rfl rfl rfl (by decide +kernel) ⟨Nat.le_of_ble_eq_true rfl, Nat.le_of_ble_eq_true rfl⟩) (xPreV hP hK hX hS (by omega) (cell7 (by decide)) rfl) rfl rfl hl.1 rfl (lv_room (Nat.le_of_ble_eq_true rfl)) dL_comparisons_298 ⟨by show _ ≤ 66; omega, by show _ ≤ 396; omega⟩) hS (fun H locs hP hS => ?_)
        refine lv_iload hx hb dL_comparisons_301 (lv_at hl 4 rfl) ?_
        refine lv_icmp_ne (tgt := 396) hx hb dL_comparisons_303 (by decide) (fun c303 => absurd (be_eq h1 hc6) c303) (fun c303 => ?_)
        refine lv_aload_n hx hb dL_comparisons_306 rfl (lv_at hl 11 rfl) ?_
        refine xc_i (va_runV (As := []) (rest := []) ⟨hx, hb, hml, hown, hts⟩ (c_X7_slackestInstrument l D cy b n (by omega) M hcn) (cwV 0 hts gL_comparisons_X7_slackestInstrument rfl rfl rfl (by decide +kernel) ⟨Nat.le_of_ble_eq_true rfl, Nat.le_of_ble_eq_true rfl⟩) (xPreV hP hK hX hS (by omega) (cell7 (by decide)) rfl) rfl rfl hl.1 rfl (lv_room (Nat.le_of_ble_eq_true rfl)) dL_comparisons_307 ⟨by show _ ≤ 66; omega, by show _ ≤ 396; omega⟩) hS (fun H locs hP hS => ?_)
        refine lv_iload hx hb dL_comparisons_310 (lv_at hl 5 rfl) ?_
        refine lv_icmp_ne (tgt := 396) hx hb dL_comparisons_312 (by decide) (fun c312 => absurd (sl_eq h1 hc6) c312) (fun c312 => ?_)
        refine lv_aload_n hx hb dL_comparisons_315 rfl (lv_at hl 11 rfl) ?_
        refine xc_i (va_runV (As := []) (rest := []) ⟨hx, hb, hml, hown, hts⟩ (c_X7_disagreements l D cy b n (by omega) M hcn) (cwV 0 hts gL_comparisons_X7_disagreements rfl rfl rfl (by decide +kernel) ⟨Nat.le_of_ble_eq_true rfl, Nat.le_of_ble_eq_true rfl⟩) (xPreV hP hK hX hS (by omega) (cell7 (by decide)) rfl) rfl rfl hl.1 rfl (lv_room (Nat.le_of_ble_eq_true rfl)) dL_comparisons_316 ⟨by show _ ≤ 66; omega, by show _ ≤ 396; omega⟩) hS (fun H locs hP hS => ?_)
        refine lv_iload hx hb dL_comparisons_319 (lv_at hl 6 rfl) ?_
        refine lv_icmp_ne (tgt := 396) hx hb dL_comparisons_321 (by decide) (fun c321 => absurd (di_eq h1 hc6 (inv_iok hI h1 hc6)) c321) (fun c321 => ?_)
        refine lv_aload_n hx hb dL_comparisons_324 rfl (lv_at hl 11 rfl) ?_
        refine xc_i (va_runV (As := []) (rest := []) ⟨hx, hb, hml, hown, hts⟩ (c_X7_spread l D cy b n (by omega) M hcn) (cwV 0 hts gL_comparisons_X7_spread rfl rfl rfl (by decide +kernel) ⟨Nat.le_of_ble_eq_true rfl, Nat.le_of_ble_eq_true rfl⟩) (xPreV hP hK hX hS (by omega) (cell7 (by decide)) rfl) rfl rfl hl.1 rfl (lv_room (Nat.le_of_ble_eq_true rfl)) dL_comparisons_325 ⟨by show _ ≤ 66; omega, by show _ ≤ 396; omega⟩) hS (fun H locs hP hS => ?_)
        refine lv_iload_n hx hb dL_comparisons_328 rfl (lv_at hl 0 rfl) ?_
        refine lv_iconst (v := 2) hx hb dL_comparisons_329 (by decide) ?_
        have k342 : ∀ (H : Heap) (locs : List Loc) (ls : Array Slot), va_P D vwCl (wL cy b fT M n) H → va_S (fr b) s.heap H locs → lv_has ls 14 [(1, .int (uS M j)), (2, .int (sS M j)), (3, .int (wS M j)), (4, .int (rS M j)), (5, .int (bS M j)), (6, .int (kS M j)), (7, .int (dS M j)), (8, .int (lS M j)), (9, .int (mS M j)), (10, .int (fX7_instrumentCount M)), (11, .int (nI (j))), (0, .ref (b + 0))] → W p l e (headSpec wsL_comparisons ({ frames := 8, cells := 66, slots := 396, locals := 149 } : Room)).room s m args below meth c H locs (cells + 0) (slots + 0) (MQ below (CQi D cy b n fT 1 M) args s 66 396 (fr b)) (F0 m 342 ls (.int (fX7_spread M) :: .int (fX7_spread M) :: [])) := by
          intro H locs ls hP hS hl
          refine lv_icmp_ne (tgt := 396) hx hb dL_comparisons_342 (by decide) (fun c342 => absurd rfl c342) (fun c342 => ?_)
          refine lv_aload_n hx hb dL_comparisons_345 rfl (lv_at hl 11 rfl) ?_
          refine xc_d (va_runV (As := []) (rest := []) ⟨hx, hb, hml, hown, hts⟩ (c_X7_meanReading l D cy b n (by omega) M hcn (mr_nn h1 hc6)) (cwV 0 hts gL_comparisons_X7_meanReading rfl rfl rfl (by decide +kernel) ⟨Nat.le_of_ble_eq_true rfl, Nat.le_of_ble_eq_true rfl⟩) (xPreV hP hK hX hS (by omega) (cell7 (by decide)) rfl) rfl rfl hl.1 rfl (lv_room (Nat.le_of_ble_eq_true rfl)) dL_comparisons_346 ⟨by show _ ≤ 66; omega, by show _ ≤ 396; omega⟩) hS (fun H locs hP hS => ?_)
          refine lv_iload hx hb dL_comparisons_349 (lv_at hl 9 rfl) ?_
          have k365 : ∀ (H : Heap) (locs : List Loc) (ls : Array Slot), va_P D vwCl (wL cy b fT M n) H → va_S (fr b) s.heap H locs → lv_has ls 14 [(1, .int (uS M j)), (2, .int (sS M j)), (3, .int (wS M j)), (4, .int (rS M j)), (5, .int (bS M j)), (6, .int (kS M j)), (7, .int (dS M j)), (8, .int (lS M j)), (9, .int (mS M j)), (10, .int (fX7_instrumentCount M)), (11, .int (nI (j))), (0, .ref (b + 0))] → W p l e (headSpec wsL_comparisons ({ frames := 8, cells := 66, slots := 396, locals := 149 } : Room)).room s m args below meth c H locs (cells + 0) (slots + 0) (MQ below (CQi D cy b n fT 1 M) args s 66 396 (fr b)) (F0 m 365 ls (.double (fX7_meanReading M) :: .double (fX7_meanReading M) :: [])) := by
            intro H locs ls hP hS hl
            refine lv_dcmp hx hb dL_comparisons_365 ?_
            refine W.eq (g2 := F0 m 366 ls (.int 0 :: [])) (congrArg (fun z => F0 m 366 ls (.int z :: [])) (mr_cmp h1 hc6)) ?_
            refine lv_if_ne (tgt := 396) hx hb dL_comparisons_366 (by decide) (fun c366 => absurd rfl c366) (fun c366 => ?_)
            refine lv_aload_n hx hb dL_comparisons_369 rfl (lv_at hl 11 rfl) ?_
            refine xc_f (va_runV (As := []) (rest := []) ⟨hx, hb, hml, hown, hts⟩ (c_X7_usableShare l D cy b n (by omega) M hcn (sh_nn h1 hc6)) (cwV 0 hts gL_comparisons_X7_usableShare rfl rfl rfl (by decide +kernel) ⟨Nat.le_of_ble_eq_true rfl, Nat.le_of_ble_eq_true rfl⟩) (xPreV hP hK hX hS (by omega) (cell7 (by decide)) rfl) rfl rfl hl.1 rfl (lv_room (Nat.le_of_ble_eq_true rfl)) dL_comparisons_370 ⟨by show _ ≤ 66; omega, by show _ ≤ 396; omega⟩) hS (fun H locs hP hS => ?_)
            refine lv_iload hx hb dL_comparisons_373 (lv_at hl 9 rfl) ?_
            have k388 : ∀ (H : Heap) (locs : List Loc) (ls : Array Slot), va_P D vwCl (wL cy b fT M n) H → va_S (fr b) s.heap H locs → lv_has ls 14 [(1, .int (uS M j)), (2, .int (sS M j)), (3, .int (wS M j)), (4, .int (rS M j)), (5, .int (bS M j)), (6, .int (kS M j)), (7, .int (dS M j)), (8, .int (lS M j)), (9, .int (mS M j)), (10, .int (fX7_instrumentCount M)), (11, .int (nI (j))), (0, .ref (b + 0))] → W p l e (headSpec wsL_comparisons ({ frames := 8, cells := 66, slots := 396, locals := 149 } : Room)).room s m args below meth c H locs (cells + 0) (slots + 0) (MQ below (CQi D cy b n fT 1 M) args s 66 396 (fr b)) (F0 m 388 ls (.float (fX7_usableShare M) :: .float (fX7_usableShare M) :: [])) := by
              intro H locs ls hP hS hl
              refine lv_fcmp hx hb dL_comparisons_388 ?_
              refine W.eq (g2 := F0 m 389 ls (.int 0 :: [])) (congrArg (fun z => F0 m 389 ls (.int z :: [])) (sh_cmp h1 hc6)) ?_
              refine lv_if_ne (tgt := 396) hx hb dL_comparisons_389 (by decide) (fun c389 => absurd rfl c389) (fun c389 => ?_)
              refine lv_iconst (v := 1) hx hb dL_comparisons_392 (by decide) ?_
              refine lv_goto (tgt := 397) hx hb dL_comparisons_393 (by decide) ?_
              exact xe_z hx hb hr hlocks hP hS rfl rfl rfl rfl (by omega) (by omega) dL_comparisons_397
            refine lv_if_ne (tgt := 382) hx hb dL_comparisons_375 (by decide) (fun c375 => ?_) (fun c375 => ?_)
            · refine lv_iload_n hx hb dL_comparisons_382 rfl (lv_at hl 0 rfl) ?_
              refine lv_i2f hx hb dL_comparisons_383 ?_
              refine lv_iload hx hb dL_comparisons_384 (lv_at hl 9 rfl) ?_
              refine lv_i2f hx hb dL_comparisons_386 ?_
              refine lv_fdiv hx hb dL_comparisons_387 (sh_n h1 hc6 c375) ?_
              refine W.eq (g2 := F0 m 388 ls (.float (fX7_usableShare M) :: .float (fX7_usableShare M) :: [])) (congrArg (fun z => F0 m 388 ls (.float z :: .float (fX7_usableShare M) :: [])) (sh_eq h1 hc6 c375)) ?_
              refine W.widen (k := cells + 0) (n := slots + 0) (by omega) (by omega) ?_
              exact k388 H locs ls hP hS (lv_sub hl [0, 1, 2, 3, 4, 5, 6, 7, 8, 9, 10, 11] rfl)
            · refine lv_fconst0 hx hb dL_comparisons_378 ?_
              refine lv_goto (tgt := 388) hx hb dL_comparisons_379 (by decide) ?_
              refine W.eq (g2 := F0 m 388 ls (.float (fX7_usableShare M) :: .float (fX7_usableShare M) :: [])) (congrArg (fun z => F0 m 388 ls (.float z :: .float (fX7_usableShare M) :: [])) (sh_z c375)) ?_
              refine W.widen (k := cells + 0) (n := slots + 0) (by omega) (by omega) ?_
              exact k388 H locs ls hP hS (lv_sub hl [0, 1, 2, 3, 4, 5, 6, 7, 8, 9, 10, 11] rfl)
          refine lv_if_ne (tgt := 358) hx hb dL_comparisons_351 (by decide) (fun c351 => ?_) (fun c351 => ?_)
          · refine lv_iload hx hb dL_comparisons_358 (lv_at hl 3 rfl) ?_
            refine lv_i2d hx hb dL_comparisons_360 ?_
            refine lv_iload hx hb dL_comparisons_361 (lv_at hl 9 rfl) ?_
            refine lv_i2d hx hb dL_comparisons_363 ?_
            refine lv_ddiv hx hb dL_comparisons_364 (mr_n h1 hc6 c351) ?_
            refine W.eq (g2 := F0 m 365 ls (.double (fX7_meanReading M) :: .double (fX7_meanReading M) :: [])) (congrArg (fun z => F0 m 365 ls (.double z :: .double (fX7_meanReading M) :: [])) (mr_eq h1 hc6 c351)) ?_
            refine W.widen (k := cells + 0) (n := slots + 0) (by omega) (by omega) ?_
            exact k365 H locs ls hP hS (lv_sub hl [0, 1, 2, 3, 4, 5, 6, 7, 8, 9, 10, 11] rfl)
          · refine lv_dconst0 hx hb dL_comparisons_354 ?_
            refine lv_goto (tgt := 365) hx hb dL_comparisons_355 (by decide) ?_
            refine W.eq (g2 := F0 m 365 ls (.double (fX7_meanReading M) :: .double (fX7_meanReading M) :: [])) (congrArg (fun z => F0 m 365 ls (.double z :: .double (fX7_meanReading M) :: [])) (mr_z c351)) ?_
            refine W.widen (k := cells + 0) (n := slots + 0) (by omega) (by omega) ?_
            exact k365 H locs ls hP hS (lv_sub hl [0, 1, 2, 3, 4, 5, 6, 7, 8, 9, 10, 11] rfl)
        refine lv_icmp_ge (tgt := 337) hx hb dL_comparisons_330 (by decide) (fun c330 => ?_) (fun c330 => ?_)
        · refine lv_iload hx hb dL_comparisons_337 (lv_at hl 8 rfl) ?_
          refine lv_iload hx hb dL_comparisons_339 (lv_at hl 7 rfl) ?_
          refine lv_isub hx hb dL_comparisons_341 ?_
          refine W.eq (g2 := F0 m 342 ls (.int (fX7_spread M) :: .int (fX7_spread M) :: [])) (congrArg (fun z => F0 m 342 ls (.int z :: .int (fX7_spread M) :: [])) (sp_1 h1 hc6 c330)) ?_
          refine W.widen (k := cells + 0) (n := slots + 0) (by omega) (by omega) ?_
          exact k342 H locs ls hP hS (lv_sub hl [0, 1, 2, 3, 4, 5, 6, 7, 8, 9, 10, 11] rfl)
        · refine lv_iconst (v := 0) hx hb dL_comparisons_333 (by decide) ?_
          refine lv_goto (tgt := 342) hx hb dL_comparisons_334 (by decide) ?_
          refine W.eq (g2 := F0 m 342 ls (.int (fX7_spread M) :: .int (fX7_spread M) :: [])) (congrArg (fun z => F0 m 342 ls (.int z :: .int (fX7_spread M) :: [])) (sp_0 h1 hc6 c330)) ?_
          refine W.widen (k := cells + 0) (n := slots + 0) (by omega) (by omega) ?_
          exact k342 H locs ls hP hS (lv_sub hl [0, 1, 2, 3, 4, 5, 6, 7, 8, 9, 10, 11] rfl)
      refine lv_if_ne (tgt := 291) hx hb dL_comparisons_284 (by decide) (fun c284 => ?_) (fun c284 => ?_)
      · refine lv_iload_n hx hb dL_comparisons_291 rfl (lv_at hl 1 rfl) ?_
        refine lv_iload_n hx hb dL_comparisons_292 rfl (lv_at hl 2 rfl) ?_
        refine lv_idiv hx hb dL_comparisons_293 c284 ?_
        refine W.eq (g2 := F0 m 294 ls (.int (fX7_blend M) :: .int (fX7_blend M) :: [])) (congrArg (fun z => F0 m 294 ls (.int z :: .int (fX7_blend M) :: [])) (bl_n h1 hc6 c284)) ?_
        refine W.widen (k := cells + 0) (n := slots + 0) (by omega) (by omega) ?_
        exact k294 H locs ls hP hS (lv_sub hl [0, 1, 2, 3, 4, 5, 6, 7, 8, 9, 10, 11] rfl)
      · refine lv_iconst (v := (-1)) hx hb dL_comparisons_287 (by decide) ?_
        refine lv_goto (tgt := 294) hx hb dL_comparisons_288 (by decide) ?_
        refine W.eq (g2 := F0 m 294 ls (.int (fX7_blend M) :: .int (fX7_blend M) :: [])) (congrArg (fun z => F0 m 294 ls (.int z :: .int (fX7_blend M) :: [])) (bl_z h1 hc6 c284)) ?_
        refine W.widen (k := cells + 0) (n := slots + 0) (by omega) (by omega) ?_
        exact k294 H locs ls hP hS (lv_sub hl [0, 1, 2, 3, 4, 5, 6, 7, 8, 9, 10, 11] rfl)
    · have c38 : ¬ M 1 1 ≤ nI j := c38
      have hjc : j < c0 := by rw [h1, nI_leI (by omega) (by omega)] at c38; omega
      refine lv_aload_n hx hb dL_comparisons_41 rfl (lv_at hl 11 rfl) ?_
      refine lv_iload hx hb dL_comparisons_42 (lv_at hl 10 rfl) ?_
      refine xct_i (vx_runV (As := [.int (nI (j))]) (rest := []) ⟨hx, hb, hml, hown, hts⟩ (c_X7_readingOf l hl0 D cy b n (by omega) M (nI (j)) hcn) (cwV 1 hts gL_comparisons_X7_readingOf rfl rfl rfl (by decide +kernel) ⟨Nat.le_of_ble_eq_true rfl, Nat.le_of_ble_eq_true rfl⟩) (xPreV hP hK hX hS (by omega) (cell7 (by decide)) rfl) rfl rfl hl.1 rfl (lv_room (Nat.le_of_ble_eq_true rfl)) dL_comparisons_44 ⟨by show _ ≤ 66; omega, by show _ ≤ 396; omega⟩) hS (fun E ce q H locs hE _ _ _ _ _ => absurd (t0_readingOf (t0_at h1 hc6 hjc)) (exn_ne hE)) (fun H locs _ hP hS => ?_)
      refine lv_istore (lv' := [(12, .int (fX7_readingOf M (nI (j)))), (1, .int (uS M j)), (2, .int (sS M j)), (3, .int (wS M j)), (4, .int (rS M j)), (5, .int (bS M j)), (6, .int (kS M j)), (7, .int (dS M j)), (8, .int (lS M j)), (9, .int (mS M j)), (10, .int (fX7_instrumentCount M)), (11, .int (nI (j))), (0, .ref (b + 0))]) hx hb dL_comparisons_47 hl (by decide) rfl (fun ls hl => ?_)
      refine lv_aload_n hx hb dL_comparisons_49 rfl (lv_at hl 12 rfl) ?_
      refine lv_iload hx hb dL_comparisons_50 (lv_at hl 11 rfl) ?_
      refine xct_i (vx_runV (As := [.int (nI (j))]) (rest := []) ⟨hx, hb, hml, hown, hts⟩ (c_X7_whyUnusable l hl0 D cy b n (by omega) M (nI (j)) hcn) (cwV 1 hts gL_comparisons_X7_whyUnusable rfl rfl rfl (by decide +kernel) ⟨Nat.le_of_ble_eq_true rfl, Nat.le_of_ble_eq_true rfl⟩) (xPreV hP hK hX hS (by omega) (cell7 (by decide)) rfl) rfl rfl hl.1 rfl (lv_room (Nat.le_of_ble_eq_true rfl)) dL_comparisons_52 ⟨by show _ ≤ 66; omega, by show _ ≤ 396; omega⟩) hS (fun E ce q H locs hE _ _ _ _ _ => absurd (t0_whyUnusable (t0_at h1 hc6 hjc)) (exn_ne hE)) (fun H locs _ hP hS => ?_)
      have k63 : ∀ (H : Heap) (locs : List Loc) (ls : Array Slot), va_P D vwCl (wL cy b fT M n) H → va_S (fr b) s.heap H locs → lv_has ls 14 [(12, .int (fX7_readingOf M (nI (j)))), (1, .int (uS M j)), (2, .int (sS M j)), (3, .int (wS M j)), (4, .int (rS M j)), (5, .int (bS M j)), (6, .int (kS M j)), (7, .int (dS M j)), (8, .int (lS M j)), (9, .int (mS M j)), (10, .int (fX7_instrumentCount M)), (11, .int (nI (j))), (0, .ref (b + 0))] → W p l e (headSpec wsL_comparisons ({ frames := 8, cells := 66, slots := 396, locals := 149 } : Room)).room s m args below meth c H locs (cells + 2) (slots + 12) (MQ below (CQi D cy b n fT 1 M) args s 66 396 (fr b)) (F0 m 63 ls (.int (goodF M (nI j)) :: [])) := by
        intro H locs ls hP hS hl
        refine lv_istore (lv' := [(13, .int (goodF M (nI j))), (12, .int (fX7_readingOf M (nI (j)))), (1, .int (uS M j)), (2, .int (sS M j)), (3, .int (wS M j)), (4, .int (rS M j)), (5, .int (bS M j)), (6, .int (kS M j)), (7, .int (dS M j)), (8, .int (lS M j)), (9, .int (mS M j)), (10, .int (fX7_instrumentCount M)), (11, .int (nI (j))), (0, .ref (b + 0))]) hx hb dL_comparisons_63 hl (by decide) rfl (fun ls hl => ?_)
        refine lv_iload_n hx hb dL_comparisons_65 rfl (lv_at hl 2 rfl) ?_
        refine lv_iload hx hb dL_comparisons_66 (lv_at hl 0 rfl) ?_
        have k76 : ∀ (H : Heap) (locs : List Loc) (ls : Array Slot), va_P D vwCl (wL cy b fT M n) H → va_S (fr b) s.heap H locs → lv_has ls 14 [(13, .int (goodF M (nI j))), (12, .int (fX7_readingOf M (nI (j)))), (1, .int (uS M j)), (2, .int (sS M j)), (3, .int (wS M j)), (4, .int (rS M j)), (5, .int (bS M j)), (6, .int (kS M j)), (7, .int (dS M j)), (8, .int (lS M j)), (9, .int (mS M j)), (10, .int (fX7_instrumentCount M)), (11, .int (nI (j))), (0, .ref (b + 0))] → W p l e (headSpec wsL_comparisons ({ frames := 8, cells := 66, slots := 396, locals := 149 } : Room)).room s m args below meth c H locs (cells + 2) (slots + 12) (MQ below (CQi D cy b n fT 1 M) args s 66 396 (fr b)) (F0 m 76 ls (.int (goodF M (nI j)) :: .int (uS M j) :: [])) := by
          intro H locs ls hP hS hl
          refine lv_iadd hx hb dL_comparisons_76 ?_
          refine W.eq (g2 := F0 m 77 ls (.int (uS M (j + 1)) :: [])) (congrArg (fun z => F0 m 77 ls (.int z :: [])) (uS_s M j)) ?_
          refine lv_istore_n (lv' := [(1, .int (uS M (j + 1))), (13, .int (goodF M (nI j))), (12, .int (fX7_readingOf M (nI (j)))), (2, .int (sS M j)), (3, .int (wS M j)), (4, .int (rS M j)), (5, .int (bS M j)), (6, .int (kS M j)), (7, .int (dS M j)), (8, .int (lS M j)), (9, .int (mS M j)), (10, .int (fX7_instrumentCount M)), (11, .int (nI (j))), (0, .ref (b + 0))]) hx hb dL_comparisons_77 rfl hl (by decide) rfl (fun ls hl => ?_)
          refine lv_iload_n hx hb dL_comparisons_78 rfl (lv_at hl 3 rfl) ?_
          refine lv_iload hx hb dL_comparisons_79 (lv_at hl 2 rfl) ?_
          refine lv_aload_n hx hb dL_comparisons_81 rfl (lv_at hl 13 rfl) ?_
          refine lv_iload hx hb dL_comparisons_82 (lv_at hl 12 rfl) ?_
          refine xct_i (vx_runV (As := [.int (nI (j))]) (rest := [.int (fX7_readingOf M (nI (j))), .int (sS M j)]) ⟨hx, hb, hml, hown, hts⟩ (c_X7_weightOf l hl0 D cy b n (by omega) M (nI (j)) hcn) (cwV 1 hts gL_comparisons_X7_weightOf rfl rfl rfl (by decide +kernel) ⟨Nat.le_of_ble_eq_true rfl, Nat.le_of_ble_eq_true rfl⟩) (xPreV hP hK hX hS (by omega) (cell7 (by decide)) rfl) rfl rfl hl.1 rfl (lv_room (Nat.le_of_ble_eq_true rfl)) dL_comparisons_84 ⟨by show _ ≤ 66; omega, by show _ ≤ 396; omega⟩) hS (fun E ce q H locs hE _ _ _ _ _ => absurd (t0_weightOf (t0_at h1 hc6 hjc)) (exn_ne hE)) (fun H locs _ hP hS => ?_)
          refine lv_imul hx hb dL_comparisons_87 ?_
          refine lv_iadd hx hb dL_comparisons_88 ?_
          refine W.eq (g2 := F0 m 89 ls (.int (sS M (j + 1)) :: [])) (congrArg (fun z => F0 m 89 ls (.int z :: [])) (sS_s M j)) ?_
          refine lv_istore_n (lv' := [(2, .int (sS M (j + 1))), (1, .int (uS M (j + 1))), (13, .int (goodF M (nI j))), (12, .int (fX7_readingOf M (nI (j)))), (3, .int (wS M j)), (4, .int (rS M j)), (5, .int (bS M j)), (6, .int (kS M j)), (7, .int (dS M j)), (8, .int (lS M j)), (9, .int (mS M j)), (10, .int (fX7_instrumentCount M)), (11, .int (nI (j))), (0, .ref (b + 0))]) hx hb dL_comparisons_89 rfl hl (by decide) rfl (fun ls hl => ?_)
          refine lv_iload_n hx hb dL_comparisons_90 rfl (lv_at hl 4 rfl) ?_
          refine lv_aload_n hx hb dL_comparisons_91 rfl (lv_at hl 13 rfl) ?_
          refine lv_iload hx hb dL_comparisons_92 (lv_at hl 12 rfl) ?_
          refine xct_i (vx_runV (As := [.int (nI (j))]) (rest := [.int (wS M j)]) ⟨hx, hb, hml, hown, hts⟩ (c_X7_weightOf l hl0 D cy b n (by omega) M (nI (j)) hcn) (cwV 1 hts gL_comparisons_X7_weightOf rfl rfl rfl (by decide +kernel) ⟨Nat.le_of_ble_eq_true rfl, Nat.le_of_ble_eq_true rfl⟩) (xPreV hP hK hX hS (by omega) (cell7 (by decide)) rfl) rfl rfl hl.1 rfl (lv_room (Nat.le_of_ble_eq_true rfl)) dL_comparisons_94 ⟨by show _ ≤ 66; omega, by show _ ≤ 396; omega⟩) hS (fun E ce q H locs hE _ _ _ _ _ => absurd (t0_weightOf (t0_at h1 hc6 hjc)) (exn_ne hE)) (fun H locs _ hP hS => ?_)
          refine lv_iadd hx hb dL_comparisons_97 ?_
          refine W.eq (g2 := F0 m 98 ls (.int (wS M (j + 1)) :: [])) (congrArg (fun z => F0 m 98 ls (.int z :: [])) (wS_s M j)) ?_
          refine lv_istore_n (lv' := [(3, .int (wS M (j + 1))), (2, .int (sS M (j + 1))), (1, .int (uS M (j + 1))), (13, .int (goodF M (nI j))), (12, .int (fX7_readingOf M (nI (j)))), (4, .int (rS M j)), (5, .int (bS M j)), (6, .int (kS M j)), (7, .int (dS M j)), (8, .int (lS M j)), (9, .int (mS M j)), (10, .int (fX7_instrumentCount M)), (11, .int (nI (j))), (0, .ref (b + 0))]) hx hb dL_comparisons_98 rfl hl (by decide) rfl (fun ls hl => ?_)
          refine lv_iload hx hb dL_comparisons_99 (lv_at hl 5 rfl) ?_
          refine lv_iload hx hb dL_comparisons_101 (lv_at hl 4 rfl) ?_
          refine lv_iadd hx hb dL_comparisons_103 ?_
          refine W.eq (g2 := F0 m 104 ls (.int (rS M (j + 1)) :: [])) (congrArg (fun z => F0 m 104 ls (.int z :: [])) (rS_s M j)) ?_
          refine lv_istore (lv' := [(4, .int (rS M (j + 1))), (3, .int (wS M (j + 1))), (2, .int (sS M (j + 1))), (1, .int (uS M (j + 1))), (13, .int (goodF M (nI j))), (12, .int (fX7_readingOf M (nI (j)))), (5, .int (bS M j)), (6, .int (kS M j)), (7, .int (dS M j)), (8, .int (lS M j)), (9, .int (mS M j)), (10, .int (fX7_instrumentCount M)), (11, .int (nI (j))), (0, .ref (b + 0))]) hx hb dL_comparisons_104 hl (by decide) rfl (fun ls hl => ?_)
          refine lv_iload hx hb dL_comparisons_106 (lv_at hl 4 rfl) ?_
          have k150 : ∀ (H : Heap) (locs : List Loc) (ls : Array Slot), va_P D vwCl (wL cy b fT M n) H → va_S (fr b) s.heap H locs → lv_has ls 14 [(4, .int (rS M (j + 1))), (3, .int (wS M (j + 1))), (2, .int (sS M (j + 1))), (1, .int (uS M (j + 1))), (13, .int (goodF M (nI j))), (12, .int (fX7_readingOf M (nI (j)))), (5, .int (bS M j)), (6, .int (kS M j)), (7, .int (dS M j)), (8, .int (lS M j)), (9, .int (mS M j)), (10, .int (fX7_instrumentCount M)), (11, .int (nI (j))), (0, .ref (b + 0))] → W p l e (headSpec wsL_comparisons ({ frames := 8, cells := 66, slots := 396, locals := 149 } : Room)).room s m args below meth c H locs (cells + 5) (slots + 30) (MQ below (CQi D cy b n fT 1 M) args s 66 396 (fr b)) (F0 m 150 ls (.int (bS M (j + 1)) :: [])) := by
            intro H locs ls hP hS hl
            refine lv_istore (lv' := [(5, .int (bS M (j + 1))), (4, .int (rS M (j + 1))), (3, .int (wS M (j + 1))), (2, .int (sS M (j + 1))), (1, .int (uS M (j + 1))), (13, .int (goodF M (nI j))), (12, .int (fX7_readingOf M (nI (j)))), (6, .int (kS M j)), (7, .int (dS M j)), (8, .int (lS M j)), (9, .int (mS M j)), (10, .int (fX7_instrumentCount M)), (11, .int (nI (j))), (0, .ref (b + 0))]) hx hb dL_comparisons_150 hl (by decide) rfl (fun ls hl => ?_)
            refine lv_aload_n hx hb dL_comparisons_152 rfl (lv_at hl 13 rfl) ?_
            refine lv_iload hx hb dL_comparisons_153 (lv_at hl 12 rfl) ?_
            refine xct_i (vx_runV (As := [.int (nI (j))]) (rest := []) ⟨hx, hb, hml, hown, hts⟩ (c_X7_isHair l hl0 D cy b n (by omega) M (nI (j)) hcn) (cwV 1 hts gL_comparisons_X7_isHair rfl rfl rfl (by decide +kernel) ⟨Nat.le_of_ble_eq_true rfl, Nat.le_of_ble_eq_true rfl⟩) (xPreV hP hK hX hS (by omega) (cell7 (by decide)) rfl) rfl rfl hl.1 rfl (lv_room (Nat.le_of_ble_eq_true rfl)) dL_comparisons_155 ⟨by show _ ≤ 66; omega, by show _ ≤ 396; omega⟩) hS (fun E ce q H locs hE _ _ _ _ _ => absurd (t0_isHair (t0_at h1 hc6 hjc)) (exn_ne hE)) (fun H locs _ hP hS => ?_)
            have k188 : ∀ (H : Heap) (locs : List Loc) (ls : Array Slot), va_P D vwCl (wL cy b fT M n) H → va_S (fr b) s.heap H locs → lv_has ls 14 [(5, .int (bS M (j + 1))), (4, .int (rS M (j + 1))), (3, .int (wS M (j + 1))), (2, .int (sS M (j + 1))), (1, .int (uS M (j + 1))), (13, .int (goodF M (nI j))), (12, .int (fX7_readingOf M (nI (j)))), (6, .int (kS M j)), (7, .int (dS M j)), (8, .int (lS M j)), (9, .int (mS M j)), (10, .int (fX7_instrumentCount M)), (11, .int (nI (j))), (0, .ref (b + 0))] → W p l e (headSpec wsL_comparisons ({ frames := 8, cells := 66, slots := 396, locals := 149 } : Room)).room s m args below meth c H locs (cells + 8) (slots + 48) (MQ below (CQi D cy b n fT 1 M) args s 66 396 (fr b)) (F0 m 188 ls (.int (kS M (j + 1)) :: [])) := by
              intro H locs ls hP hS hl
              refine lv_istore (lv' := [(6, .int (kS M (j + 1))), (5, .int (bS M (j + 1))), (4, .int (rS M (j + 1))), (3, .int (wS M (j + 1))), (2, .int (sS M (j + 1))), (1, .int (uS M (j + 1))), (13, .int (goodF M (nI j))), (12, .int (fX7_readingOf M (nI (j)))), (7, .int (dS M j)), (8, .int (lS M j)), (9, .int (mS M j)), (10, .int (fX7_instrumentCount M)), (11, .int (nI (j))), (0, .ref (b + 0))]) hx hb dL_comparisons_188 hl (by decide) rfl (fun ls hl => ?_)
              refine lv_iload hx hb dL_comparisons_190 (lv_at hl 8 rfl) ?_
              refine lv_aload_n hx hb dL_comparisons_192 rfl (lv_at hl 13 rfl) ?_
              refine lv_iload hx hb dL_comparisons_193 (lv_at hl 12 rfl) ?_
              refine xct_i (vx_runV (As := [.int (nI (j))]) (rest := [.int (dS M j)]) ⟨hx, hb, hml, hown, hts⟩ (c_X7_boxOf l hl0 D cy b n (by omega) M (nI (j)) hcn) (cwV 1 hts gL_comparisons_X7_boxOf rfl rfl rfl (by decide +kernel) ⟨Nat.le_of_ble_eq_true rfl, Nat.le_of_ble_eq_true rfl⟩) (xPreV hP hK hX hS (by omega) (cell7 (by decide)) rfl) rfl rfl hl.1 rfl (lv_room (Nat.le_of_ble_eq_true rfl)) dL_comparisons_195 ⟨by show _ ≤ 66; omega, by show _ ≤ 396; omega⟩) hS (fun E ce q H locs hE _ _ _ _ _ => absurd (t0_boxOf (t0_at h1 hc6 hjc)) (exn_ne hE)) (fun H locs _ hP hS => ?_)
              have k224 : ∀ (H : Heap) (locs : List Loc) (ls : Array Slot), va_P D vwCl (wL cy b fT M n) H → va_S (fr b) s.heap H locs → lv_has ls 14 [(6, .int (kS M (j + 1))), (5, .int (bS M (j + 1))), (4, .int (rS M (j + 1))), (3, .int (wS M (j + 1))), (2, .int (sS M (j + 1))), (1, .int (uS M (j + 1))), (13, .int (goodF M (nI j))), (12, .int (fX7_readingOf M (nI (j)))), (7, .int (dS M j)), (8, .int (lS M j)), (9, .int (mS M j)), (10, .int (fX7_instrumentCount M)), (11, .int (nI (j))), (0, .ref (b + 0))] → W p l e (headSpec wsL_comparisons ({ frames := 8, cells := 66, slots := 396, locals := 149 } : Room)).room s m args below meth c H locs (cells + 11) (slots + 66) (MQ below (CQi D cy b n fT 1 M) args s 66 396 (fr b)) (F0 m 224 ls (.int (disF M (nI j)) :: .int (dS M j) :: [])) := by
                intro H locs ls hP hS hl
                refine lv_iadd hx hb dL_comparisons_224 ?_
                refine W.eq (g2 := F0 m 225 ls (.int (dS M (j + 1)) :: [])) (congrArg (fun z => F0 m 225 ls (.int z :: [])) (dS_s M j)) ?_
                refine lv_istore (lv' := [(7, .int (dS M (j + 1))), (6, .int (kS M (j + 1))), (5, .int (bS M (j + 1))), (4, .int (rS M (j + 1))), (3, .int (wS M (j + 1))), (2, .int (sS M (j + 1))), (1, .int (uS M (j + 1))), (13, .int (goodF M (nI j))), (12, .int (fX7_readingOf M (nI (j)))), (8, .int (lS M j)), (9, .int (mS M j)), (10, .int (fX7_instrumentCount M)), (11, .int (nI (j))), (0, .ref (b + 0))]) hx hb dL_comparisons_225 hl (by decide) rfl (fun ls hl => ?_)
                refine lv_iload hx hb dL_comparisons_227 (lv_at hl 7 rfl) ?_
                have k244 : ∀ (H : Heap) (locs : List Loc) (ls : Array Slot), va_P D vwCl (wL cy b fT M n) H → va_S (fr b) s.heap H locs → lv_has ls 14 [(7, .int (dS M (j + 1))), (6, .int (kS M (j + 1))), (5, .int (bS M (j + 1))), (4, .int (rS M (j + 1))), (3, .int (wS M (j + 1))), (2, .int (sS M (j + 1))), (1, .int (uS M (j + 1))), (13, .int (goodF M (nI j))), (12, .int (fX7_readingOf M (nI (j)))), (8, .int (lS M j)), (9, .int (mS M j)), (10, .int (fX7_instrumentCount M)), (11, .int (nI (j))), (0, .ref (b + 0))] → W p l e (headSpec wsL_comparisons ({ frames := 8, cells := 66, slots := 396, locals := 149 } : Room)).room s m args below meth c H locs (cells + 11) (slots + 66) (MQ below (CQi D cy b n fT 1 M) args s 66 396 (fr b)) (F0 m 244 ls (.int (lS M (j + 1)) :: [])) := by
                  intro H locs ls hP hS hl
                  refine lv_istore (lv' := [(8, .int (lS M (j + 1))), (7, .int (dS M (j + 1))), (6, .int (kS M (j + 1))), (5, .int (bS M (j + 1))), (4, .int (rS M (j + 1))), (3, .int (wS M (j + 1))), (2, .int (sS M (j + 1))), (1, .int (uS M (j + 1))), (13, .int (goodF M (nI j))), (12, .int (fX7_readingOf M (nI (j)))), (9, .int (mS M j)), (10, .int (fX7_instrumentCount M)), (11, .int (nI (j))), (0, .ref (b + 0))]) hx hb dL_comparisons_244 hl (by decide) rfl (fun ls hl => ?_)
                  refine lv_iload hx hb dL_comparisons_246 (lv_at hl 8 rfl) ?_
                  have k263 : ∀ (H : Heap) (locs : List Loc) (ls : Array Slot), va_P D vwCl (wL cy b fT M n) H → va_S (fr b) s.heap H locs → lv_has ls 14 [(8, .int (lS M (j + 1))), (7, .int (dS M (j + 1))), (6, .int (kS M (j + 1))), (5, .int (bS M (j + 1))), (4, .int (rS M (j + 1))), (3, .int (wS M (j + 1))), (2, .int (sS M (j + 1))), (1, .int (uS M (j + 1))), (13, .int (goodF M (nI j))), (12, .int (fX7_readingOf M (nI (j)))), (9, .int (mS M j)), (10, .int (fX7_instrumentCount M)), (11, .int (nI (j))), (0, .ref (b + 0))] → W p l e (headSpec wsL_comparisons ({ frames := 8, cells := 66, slots := 396, locals := 149 } : Room)).room s m args below meth c H locs (cells + 11) (slots + 66) (MQ below (CQi D cy b n fT 1 M) args s 66 396 (fr b)) (F0 m 263 ls (.int (mS M (j + 1)) :: [])) := by
                    intro H locs ls hP hS hl
                    refine lv_istore (lv' := [(9, .int (mS M (j + 1))), (8, .int (lS M (j + 1))), (7, .int (dS M (j + 1))), (6, .int (kS M (j + 1))), (5, .int (bS M (j + 1))), (4, .int (rS M (j + 1))), (3, .int (wS M (j + 1))), (2, .int (sS M (j + 1))), (1, .int (uS M (j + 1))), (13, .int (goodF M (nI j))), (12, .int (fX7_readingOf M (nI (j)))), (10, .int (fX7_instrumentCount M)), (11, .int (nI (j))), (0, .ref (b + 0))]) hx hb dL_comparisons_263 hl (by decide) rfl (fun ls hl => ?_)
                    refine lv_iinc (v := nI (j + 1)) (lv' := [(11, .int (nI (j + 1))), (9, .int (mS M (j + 1))), (8, .int (lS M (j + 1))), (7, .int (dS M (j + 1))), (6, .int (kS M (j + 1))), (5, .int (bS M (j + 1))), (4, .int (rS M (j + 1))), (3, .int (wS M (j + 1))), (2, .int (sS M (j + 1))), (1, .int (uS M (j + 1))), (13, .int (goodF M (nI j))), (12, .int (fX7_readingOf M (nI (j)))), (10, .int (fX7_instrumentCount M)), (0, .ref (b + 0))]) hx hb dL_comparisons_265 hl (k := 12) rfl (ixAdd (a := j) (c := 1) (d := j + 1) rfl rfl (by omega)) (by decide) rfl (fun ls hl => ?_)
                    refine lv_goto (tgt := 34) hx hb dL_comparisons_268 (by decide) ?_
                    exact ih (j + 1) (cells + 11) (slots + 66) H locs ls (by omega) (by omega) (by omega) (by omega) hP hS (lv_sub hl [9, 8, 7, 6, 5, 4, 3, 2, 1, 12, 0, 13] rfl)
                  refine lv_if_eq (tgt := 261) hx hb dL_comparisons_248 (by decide) (fun c248 => ?_) (fun c248 => ?_)
                  · refine lv_iload hx hb dL_comparisons_261 (lv_at hl 10 rfl) ?_
                    refine W.eq (g2 := F0 m 263 ls (.int (mS M (j + 1)) :: [])) (congrArg (fun z => F0 m 263 ls (.int z :: [])) (mS_a c248)) ?_
                    refine W.widen (k := cells + 11) (n := slots + 66) (by omega) (by omega) ?_
                    exact k263 H locs ls hP hS (lv_sub hl [0, 1, 2, 3, 4, 5, 6, 7, 8, 9, 10, 11, 12, 13] rfl)
                  · refine lv_iload hx hb dL_comparisons_251 (lv_at hl 10 rfl) ?_
                    refine lv_iload hx hb dL_comparisons_253 (lv_at hl 9 rfl) ?_
                    refine x_mmax hx hb (hml.trans hl.1.symm) hown lk7 lk8 lk2 lk9 (Nat.le_of_ble_eq_true rfl) (Nat.le_of_ble_eq_true rfl) (by show _ ≤ 66; omega) (by show _ ≤ 396; omega) dL_comparisons_255 ?_
                    refine lv_goto (tgt := 263) hx hb dL_comparisons_258 (by decide) ?_
                    refine W.eq (g2 := F0 m 263 ls (.int (mS M (j + 1)) :: [])) (congrArg (fun z => F0 m 263 ls (.int z :: [])) (mS_b c248)) ?_
                    refine W.widen (k := cells + 11) (n := slots + 66) (by omega) (by omega) ?_
                    exact k263 H locs ls hP hS (lv_sub hl [0, 1, 2, 3, 4, 5, 6, 7, 8, 9, 10, 11, 12, 13] rfl)
                refine lv_if_eq (tgt := 242) hx hb dL_comparisons_229 (by decide) (fun c229 => ?_) (fun c229 => ?_)
                · refine lv_iload hx hb dL_comparisons_242 (lv_at hl 9 rfl) ?_
                  refine W.eq (g2 := F0 m 244 ls (.int (lS M (j + 1)) :: [])) (congrArg (fun z => F0 m 244 ls (.int z :: [])) (lS_a c229)) ?_
                  refine W.widen (k := cells + 11) (n := slots + 66) (by omega) (by omega) ?_
                  exact k244 H locs ls hP hS (lv_sub hl [0, 1, 2, 3, 4, 5, 6, 7, 8, 9, 10, 11, 12, 13] rfl)
                · refine lv_iload hx hb dL_comparisons_232 (lv_at hl 9 rfl) ?_
                  refine lv_iload hx hb dL_comparisons_234 (lv_at hl 8 rfl) ?_
                  refine x_mmin hx hb (hml.trans hl.1.symm) hown lk4 lk5 lk2 lk6 (Nat.le_of_ble_eq_true rfl) (Nat.le_of_ble_eq_true rfl) (by show _ ≤ 66; omega) (by show _ ≤ 396; omega) dL_comparisons_236 ?_
                  refine lv_goto (tgt := 244) hx hb dL_comparisons_239 (by decide) ?_
                  refine W.eq (g2 := F0 m 244 ls (.int (lS M (j + 1)) :: [])) (congrArg (fun z => F0 m 244 ls (.int z :: [])) (lS_b c229)) ?_
                  refine W.widen (k := cells + 11) (n := slots + 66) (by omega) (by omega) ?_
                  exact k244 H locs ls hP hS (lv_sub hl [0, 1, 2, 3, 4, 5, 6, 7, 8, 9, 10, 11, 12, 13] rfl)
              refine lv_if_lt (tgt := 223) hx hb dL_comparisons_198 (by decide) (fun c198 => ?_) (fun c198 => ?_)
              · refine lv_iconst (v := 0) hx hb dL_comparisons_223 (by decide) ?_
                refine W.eq (g2 := F0 m 224 ls (.int (disF M (nI j)) :: .int (dS M j) :: [])) (congrArg (fun z => F0 m 224 ls (.int z :: .int (dS M j) :: [])) (dis_a c198)) ?_
                refine W.widen (k := cells + 11) (n := slots + 66) (by omega) (by omega) ?_
                exact k224 H locs ls hP hS (lv_sub hl [0, 1, 2, 3, 4, 5, 6, 7, 8, 9, 10, 11, 12, 13] rfl)
              · refine lv_aload_n hx hb dL_comparisons_201 rfl (lv_at hl 13 rfl) ?_
                refine lv_iload hx hb dL_comparisons_202 (lv_at hl 12 rfl) ?_
                refine xct_i (vx_runV (As := [.int (nI (j))]) (rest := [.int (dS M j)]) ⟨hx, hb, hml, hown, hts⟩ (c_X7_isSettled l hl0 D cy b n (by omega) M (nI (j)) hcn) (cwV 1 hts gL_comparisons_X7_isSettled rfl rfl rfl (by decide +kernel) ⟨Nat.le_of_ble_eq_true rfl, Nat.le_of_ble_eq_true rfl⟩) (xPreV hP hK hX hS (by omega) (cell7 (by decide)) rfl) rfl rfl hl.1 rfl (lv_room (Nat.le_of_ble_eq_true rfl)) dL_comparisons_204 ⟨by show _ ≤ 66; omega, by show _ ≤ 396; omega⟩) hS (fun E ce q H locs hE _ _ _ _ _ => absurd (t0_isSettled (t0_at h1 hc6 hjc)) (exn_ne hE)) (fun H locs _ hP hS => ?_)
                refine lv_if_eq (tgt := 223) hx hb dL_comparisons_207 (by decide) (fun c207 => ?_) (fun c207 => ?_)
                · refine lv_iconst (v := 0) hx hb dL_comparisons_223 (by decide) ?_
                  refine W.eq (g2 := F0 m 224 ls (.int (disF M (nI j)) :: .int (dS M j) :: [])) (congrArg (fun z => F0 m 224 ls (.int z :: .int (dS M j) :: [])) (dis_b c198 c207)) ?_
                  refine W.widen (k := cells + 11) (n := slots + 66) (by omega) (by omega) ?_
                  exact k224 H locs ls hP hS (lv_sub hl [0, 1, 2, 3, 4, 5, 6, 7, 8, 9, 10, 11, 12, 13] rfl)
                · refine lv_aload_n hx hb dL_comparisons_210 rfl (lv_at hl 13 rfl) ?_
                  refine lv_iload hx hb dL_comparisons_211 (lv_at hl 12 rfl) ?_
                  refine xct_i (vx_runV (As := [.int (nI (j))]) (rest := [.int (dS M j)]) ⟨hx, hb, hml, hown, hts⟩ (c_X7_errorOf l hl0 D cy b n (by omega) M (nI (j)) hcn) (cwV 1 hts gL_comparisons_X7_errorOf rfl rfl rfl (by decide +kernel) ⟨Nat.le_of_ble_eq_true rfl, Nat.le_of_ble_eq_true rfl⟩) (xPreV hP hK hX hS (by omega) (cell7 (by decide)) rfl) rfl rfl hl.1 rfl (lv_room (Nat.le_of_ble_eq_true rfl)) dL_comparisons_213 ⟨by show _ ≤ 66; omega, by show _ ≤ 396; omega⟩) hS (fun E ce q H locs hE _ _ _ _ _ => absurd (t0_errorOf (t0_at h1 hc6 hjc)) (exn_ne hE)) (fun H locs _ hP hS => ?_)
                  refine lv_if_eq (tgt := 223) hx hb dL_comparisons_216 (by decide) (fun c216 => ?_) (fun c216 => ?_)
                  · refine lv_iconst (v := 0) hx hb dL_comparisons_223 (by decide) ?_
                    refine W.eq (g2 := F0 m 224 ls (.int (disF M (nI j)) :: .int (dS M j) :: [])) (congrArg (fun z => F0 m 224 ls (.int z :: .int (dS M j) :: [])) (dis_c c198 c207 c216)) ?_
                    refine W.widen (k := cells + 11) (n := slots + 66) (by omega) (by omega) ?_
                    exact k224 H locs ls hP hS (lv_sub hl [0, 1, 2, 3, 4, 5, 6, 7, 8, 9, 10, 11, 12, 13] rfl)
                  · refine lv_iconst (v := 1) hx hb dL_comparisons_219 (by decide) ?_
                    refine lv_goto (tgt := 224) hx hb dL_comparisons_220 (by decide) ?_
                    refine W.eq (g2 := F0 m 224 ls (.int (disF M (nI j)) :: .int (dS M j) :: [])) (congrArg (fun z => F0 m 224 ls (.int z :: .int (dS M j) :: [])) (dis_d c198 c207 c216)) ?_
                    refine W.widen (k := cells + 11) (n := slots + 66) (by omega) (by omega) ?_
                    exact k224 H locs ls hP hS (lv_sub hl [0, 1, 2, 3, 4, 5, 6, 7, 8, 9, 10, 11, 12, 13] rfl)
            refine lv_if_eq (tgt := 186) hx hb dL_comparisons_158 (by decide) (fun c158 => ?_) (fun c158 => ?_)
            · refine lv_iload hx hb dL_comparisons_186 (lv_at hl 7 rfl) ?_
              refine W.eq (g2 := F0 m 188 ls (.int (kS M (j + 1)) :: [])) (congrArg (fun z => F0 m 188 ls (.int z :: [])) (kS_a c158)) ?_
              refine W.widen (k := cells + 8) (n := slots + 48) (by omega) (by omega) ?_
              exact k188 H locs ls hP hS (lv_sub hl [0, 1, 2, 3, 4, 5, 6, 7, 8, 9, 10, 11, 12, 13] rfl)
            · refine lv_iload hx hb dL_comparisons_161 (lv_at hl 7 rfl) ?_
              refine lv_if_lt (tgt := 181) hx hb dL_comparisons_163 (by decide) (fun c163 => ?_) (fun c163 => ?_)
              · refine lv_iload hx hb dL_comparisons_181 (lv_at hl 12 rfl) ?_
                refine lv_goto (tgt := 188) hx hb dL_comparisons_183 (by decide) ?_
                refine W.eq (g2 := F0 m 188 ls (.int (kS M (j + 1)) :: [])) (congrArg (fun z => F0 m 188 ls (.int z :: [])) (kS_b c158 c163)) ?_
                refine W.widen (k := cells + 8) (n := slots + 48) (by omega) (by omega) ?_
                exact k188 H locs ls hP hS (lv_sub hl [0, 1, 2, 3, 4, 5, 6, 7, 8, 9, 10, 11, 12, 13] rfl)
              · refine lv_aload_n hx hb dL_comparisons_166 rfl (lv_at hl 13 rfl) ?_
                refine lv_iload hx hb dL_comparisons_167 (lv_at hl 12 rfl) ?_
                refine xct_i (vx_runV (As := [.int (nI (j))]) (rest := []) ⟨hx, hb, hml, hown, hts⟩ (c_X7_slackOf l hl0 D cy b n (by omega) M (nI (j)) hcn) (cwV 1 hts gL_comparisons_X7_slackOf rfl rfl rfl (by decide +kernel) ⟨Nat.le_of_ble_eq_true rfl, Nat.le_of_ble_eq_true rfl⟩) (xPreV hP hK hX hS (by omega) (cell7 (by decide)) rfl) rfl rfl hl.1 rfl (lv_room (Nat.le_of_ble_eq_true rfl)) dL_comparisons_169 ⟨by show _ ≤ 66; omega, by show _ ≤ 396; omega⟩) hS (fun E ce q H locs hE _ _ _ _ _ => absurd (t0_slackOf (t0_at h1 hc6 hjc)) (exn_ne hE)) (fun H locs _ hP hS => ?_)
                refine lv_aload_n hx hb dL_comparisons_172 rfl (lv_at hl 13 rfl) ?_
                refine lv_iload hx hb dL_comparisons_173 (lv_at hl 7 rfl) ?_
                refine xct_i (vx_runV (As := [.int (kS M j)]) (rest := [.int (fX7_slackOf M (nI (j)))]) ⟨hx, hb, hml, hown, hts⟩ (c_X7_slackOf l hl0 D cy b n (by omega) M (kS M j) hcn) (cwV 1 hts gL_comparisons_X7_slackOf rfl rfl rfl (by decide +kernel) ⟨Nat.le_of_ble_eq_true rfl, Nat.le_of_ble_eq_true rfl⟩) (xPreV hP hK hX hS (by omega) (cell7 (by decide)) rfl) rfl rfl hl.1 rfl (lv_room (Nat.le_of_ble_eq_true rfl)) dL_comparisons_175 ⟨by show _ ≤ 66; omega, by show _ ≤ 396; omega⟩) hS (fun E ce q H locs hE _ _ _ _ _ => absurd (t0_slackOf (kS_at h1 hc6 hjc c163)) (exn_ne hE)) (fun H locs _ hP hS => ?_)
                refine lv_icmp_le (tgt := 186) hx hb dL_comparisons_178 (by decide) (fun c178 => ?_) (fun c178 => ?_)
                · refine lv_iload hx hb dL_comparisons_186 (lv_at hl 7 rfl) ?_
                  refine W.eq (g2 := F0 m 188 ls (.int (kS M (j + 1)) :: [])) (congrArg (fun z => F0 m 188 ls (.int z :: [])) (kS_c c158 c163 c178)) ?_
                  refine W.widen (k := cells + 8) (n := slots + 48) (by omega) (by omega) ?_
                  exact k188 H locs ls hP hS (lv_sub hl [0, 1, 2, 3, 4, 5, 6, 7, 8, 9, 10, 11, 12, 13] rfl)
                · refine lv_iload hx hb dL_comparisons_181 (lv_at hl 12 rfl) ?_
                  refine lv_goto (tgt := 188) hx hb dL_comparisons_183 (by decide) ?_
                  refine W.eq (g2 := F0 m 188 ls (.int (kS M (j + 1)) :: [])) (congrArg (fun z => F0 m 188 ls (.int z :: [])) (kS_d c158 c163 c178)) ?_
                  refine W.widen (k := cells + 8) (n := slots + 48) (by omega) (by omega) ?_
                  exact k188 H locs ls hP hS (lv_sub hl [0, 1, 2, 3, 4, 5, 6, 7, 8, 9, 10, 11, 12, 13] rfl)
          refine lv_if_eq (tgt := 148) hx hb dL_comparisons_108 (by decide) (fun c108 => ?_) (fun c108 => ?_)
          · refine lv_iload hx hb dL_comparisons_148 (lv_at hl 6 rfl) ?_
            refine W.eq (g2 := F0 m 150 ls (.int (bS M (j + 1)) :: [])) (congrArg (fun z => F0 m 150 ls (.int z :: [])) (bS_a c108)) ?_
            refine W.widen (k := cells + 5) (n := slots + 30) (by omega) (by omega) ?_
            exact k150 H locs ls hP hS (lv_sub hl [0, 1, 2, 3, 4, 5, 6, 7, 8, 9, 10, 11, 12, 13] rfl)
          · refine lv_iload hx hb dL_comparisons_111 (lv_at hl 6 rfl) ?_
            refine lv_if_lt (tgt := 143) hx hb dL_comparisons_113 (by decide) (fun c113 => ?_) (fun c113 => ?_)
            · refine lv_iload hx hb dL_comparisons_143 (lv_at hl 12 rfl) ?_
              refine lv_goto (tgt := 150) hx hb dL_comparisons_145 (by decide) ?_
              refine W.eq (g2 := F0 m 150 ls (.int (bS M (j + 1)) :: [])) (congrArg (fun z => F0 m 150 ls (.int z :: [])) (bS_b c108 c113)) ?_
              refine W.widen (k := cells + 5) (n := slots + 30) (by omega) (by omega) ?_
              exact k150 H locs ls hP hS (lv_sub hl [0, 1, 2, 3, 4, 5, 6, 7, 8, 9, 10, 11, 12, 13] rfl)
            · refine lv_iload hx hb dL_comparisons_116 (lv_at hl 5 rfl) ?_
              refine lv_aload_n hx hb dL_comparisons_118 rfl (lv_at hl 13 rfl) ?_
              refine xc_i (va_runV (As := []) (rest := [.int (fX7_readingOf M (nI (j)))]) ⟨hx, hb, hml, hown, hts⟩ (c_X7_humidity l D cy b n (by omega) M ) (cwV 0 hts gL_comparisons_X7_humidity rfl rfl rfl (by decide +kernel) ⟨Nat.le_of_ble_eq_true rfl, Nat.le_of_ble_eq_true rfl⟩) (xPreV hP hK hX hS (by omega) (cell7 (by decide)) rfl) rfl rfl hl.1 rfl (lv_room (Nat.le_of_ble_eq_true rfl)) dL_comparisons_119 ⟨by show _ ≤ 66; omega, by show _ ≤ 396; omega⟩) hS (fun H locs hP hS => ?_)
              refine lv_isub hx hb dL_comparisons_122 ?_
              refine x_mabs hx hb (hml.trans hl.1.symm) hown lk0 lk1 lk2 lk3 (Nat.le_of_ble_eq_true rfl) (Nat.le_of_ble_eq_true rfl) (by show _ ≤ 66; omega) (by show _ ≤ 396; omega) dL_comparisons_123 ?_
              refine lv_aload_n hx hb dL_comparisons_126 rfl (lv_at hl 13 rfl) ?_
              refine lv_iload hx hb dL_comparisons_127 (lv_at hl 6 rfl) ?_
              refine xct_i (vx_runV (As := [.int (bS M j)]) (rest := [.int (xabs ((fX7_readingOf M (nI (j))) - (fX7_humidity M)))]) ⟨hx, hb, hml, hown, hts⟩ (c_X7_readingOf l hl0 D cy b n (by omega) M (bS M j) hcn) (cwV 1 hts gL_comparisons_X7_readingOf rfl rfl rfl (by decide +kernel) ⟨Nat.le_of_ble_eq_true rfl, Nat.le_of_ble_eq_true rfl⟩) (xPreV hP hK hX hS (by omega) (cell7 (by decide)) rfl) rfl rfl hl.1 rfl (lv_room (Nat.le_of_ble_eq_true rfl)) dL_comparisons_129 ⟨by show _ ≤ 66; omega, by show _ ≤ 396; omega⟩) hS (fun E ce q H locs hE _ _ _ _ _ => absurd (t0_readingOf (bS_at h1 hc6 hjc c113)) (exn_ne hE)) (fun H locs _ hP hS => ?_)
              refine lv_aload_n hx hb dL_comparisons_132 rfl (lv_at hl 13 rfl) ?_
              refine xc_i (va_runV (As := []) (rest := [.int (fX7_readingOf M (bS M j)), .int (xabs ((fX7_readingOf M (nI (j))) - (fX7_humidity M)))]) ⟨hx, hb, hml, hown, hts⟩ (c_X7_humidity l D cy b n (by omega) M ) (cwV 0 hts gL_comparisons_X7_humidity rfl rfl rfl (by decide +kernel) ⟨Nat.le_of_ble_eq_true rfl, Nat.le_of_ble_eq_true rfl⟩) (xPreV hP hK hX hS (by omega) (cell7 (by decide)) rfl) rfl rfl hl.1 rfl (lv_room (Nat.le_of_ble_eq_true rfl)) dL_comparisons_133 ⟨by show _ ≤ 66; omega, by show _ ≤ 396; omega⟩) hS (fun H locs hP hS => ?_)
              refine lv_isub hx hb dL_comparisons_136 ?_
              refine x_mabs hx hb (hml.trans hl.1.symm) hown lk0 lk1 lk2 lk3 (Nat.le_of_ble_eq_true rfl) (Nat.le_of_ble_eq_true rfl) (by show _ ≤ 66; omega) (by show _ ≤ 396; omega) dL_comparisons_137 ?_
              refine lv_icmp_ge (tgt := 148) hx hb dL_comparisons_140 (by decide) (fun c140 => ?_) (fun c140 => ?_)
              · refine lv_iload hx hb dL_comparisons_148 (lv_at hl 6 rfl) ?_
                refine W.eq (g2 := F0 m 150 ls (.int (bS M (j + 1)) :: [])) (congrArg (fun z => F0 m 150 ls (.int z :: [])) (bS_c c108 c113 c140)) ?_
                refine W.widen (k := cells + 5) (n := slots + 30) (by omega) (by omega) ?_
                exact k150 H locs ls hP hS (lv_sub hl [0, 1, 2, 3, 4, 5, 6, 7, 8, 9, 10, 11, 12, 13] rfl)
              · refine lv_iload hx hb dL_comparisons_143 (lv_at hl 12 rfl) ?_
                refine lv_goto (tgt := 150) hx hb dL_comparisons_145 (by decide) ?_
                refine W.eq (g2 := F0 m 150 ls (.int (bS M (j + 1)) :: [])) (congrArg (fun z => F0 m 150 ls (.int z :: [])) (bS_d c108 c113 c140)) ?_
                refine W.widen (k := cells + 5) (n := slots + 30) (by omega) (by omega) ?_
                exact k150 H locs ls hP hS (lv_sub hl [0, 1, 2, 3, 4, 5, 6, 7, 8, 9, 10, 11, 12, 13] rfl)
        refine lv_if_eq (tgt := 75) hx hb dL_comparisons_68 (by decide) (fun c68 => ?_) (fun c68 => ?_)
        · refine lv_iconst (v := 0) hx hb dL_comparisons_75 (by decide) ?_
          refine W.eq (g2 := F0 m 76 ls (.int (goodF M (nI j)) :: .int (uS M j) :: [])) (congrArg (fun z => F0 m 76 ls (.int z :: .int (uS M j) :: [])) c68.symm) ?_
          refine W.widen (k := cells + 2) (n := slots + 12) (by omega) (by omega) ?_
          exact k76 H locs ls hP hS (lv_sub hl [0, 1, 2, 3, 4, 5, 6, 7, 8, 9, 10, 11, 12, 13] rfl)
        · refine lv_iconst (v := 1) hx hb dL_comparisons_71 (by decide) ?_
          refine lv_goto (tgt := 76) hx hb dL_comparisons_72 (by decide) ?_
          refine W.eq (g2 := F0 m 76 ls (.int (goodF M (nI j)) :: .int (uS M j) :: [])) (congrArg (fun z => F0 m 76 ls (.int z :: .int (uS M j) :: [])) (goodF_n c68).symm) ?_
          refine W.widen (k := cells + 2) (n := slots + 12) (by omega) (by omega) ?_
          exact k76 H locs ls hP hS (lv_sub hl [0, 1, 2, 3, 4, 5, 6, 7, 8, 9, 10, 11, 12, 13] rfl)
      refine lv_if_ne (tgt := 62) hx hb dL_comparisons_55 (by decide) (fun c55 => ?_) (fun c55 => ?_)
      · refine lv_iconst (v := 0) hx hb dL_comparisons_62 (by decide) ?_
        refine W.eq (g2 := F0 m 63 ls (.int (goodF M (nI j)) :: [])) (congrArg (fun z => F0 m 63 ls (.int z :: [])) (goodF_0 c55).symm) ?_
        refine W.widen (k := cells + 2) (n := slots + 12) (by omega) (by omega) ?_
        exact k63 H locs ls hP hS (lv_sub hl [0, 1, 2, 3, 4, 5, 6, 7, 8, 9, 10, 11, 12] rfl)
      · refine lv_iconst (v := 1) hx hb dL_comparisons_58 (by decide) ?_
        refine lv_goto (tgt := 63) hx hb dL_comparisons_59 (by decide) ?_
        refine W.eq (g2 := F0 m 63 ls (.int (goodF M (nI j)) :: [])) (congrArg (fun z => F0 m 63 ls (.int z :: [])) (goodF_1 c55).symm) ?_
        refine W.widen (k := cells + 2) (n := slots + 12) (by omega) (by omega) ?_
        exact k63 H locs ls hP hS (lv_sub hl [0, 1, 2, 3, 4, 5, 6, 7, 8, 9, 10, 11, 12] rfl)
set_option maxHeartbeats 4000000 in
set_option maxRecDepth 100000 in
theorem c_L_comparisons (l : Launch) (hl0 : l.stackTraces = false) (D : va_G) (cy : Nat → ClassId) (b n : Nat) (hn : 124 ≤ n) (M : Mem) {mx : Nat} (hI : INV mx M) : Met l yL_comparisons wsL_comparisons ({ frames := 8, cells := 66, slots := 396, locals := 149 } : Room) (CP D cy b n fT M [.ref (b + 0)]) (CQi D cy b n fT 1 M) 66 396 (fr b) := by
  obtain ⟨c0, hc6, h1⟩ := inv_cnt hI
  have hcn : CNT M 1 := ⟨c0, hc6, h1⟩
  refine Met.ofW (cc := cL_comparisons) (maxL := 14) (ret := some .boolean) (by decide) rfl ?_
  intro p e s m args below meth c s₁ B hml hv
  obtain ⟨rfl, hP, hK, hX⟩ := hv
  have hx := B.exec
  have hb := B.bytes
  have hr := B.returns
  have hts := atoms_spec (ws := wsL_comparisons) B.pre
  have hown : s.vm.findClass RL = some m.cls := findClass_of_methodNamed B.named
  have hlocks := B.notSynchronized
  have hS : va_S (fr b) s.heap s.heap [] := va_S.rf
  have hl := lv_entry ([.ref (b + 0)]) (n := 14) (Nat.le_of_ble_eq_true rfl)
  rw [lg_entry_eq]
  generalize (lg_sl ([.ref (b + 0)]) ++ List.replicate (14 - (lg_sl ([.ref (b + 0)])).length) Slot.unset).toArray = ls at hl ⊢
  have hl : lv_has ls 14 [(0, .ref (b + 0))] := hl
  refine lv_iconst (v := 0) hx hb dL_comparisons_0 (by decide) ?_
  refine lv_istore_n (lv' := [(1, .int (0 : Int32)), (0, .ref (b + 0))]) hx hb dL_comparisons_1 rfl hl (by decide) rfl (fun ls hl => ?_)
  refine lv_iconst (v := 0) hx hb dL_comparisons_2 (by decide) ?_
  refine lv_istore_n (lv' := [(2, .int (0 : Int32)), (1, .int (0 : Int32)), (0, .ref (b + 0))]) hx hb dL_comparisons_3 rfl hl (by decide) rfl (fun ls hl => ?_)
  refine lv_iconst (v := 0) hx hb dL_comparisons_4 (by decide) ?_
  refine lv_istore_n (lv' := [(3, .int (0 : Int32)), (2, .int (0 : Int32)), (1, .int (0 : Int32)), (0, .ref (b + 0))]) hx hb dL_comparisons_5 rfl hl (by decide) rfl (fun ls hl => ?_)
  refine lv_iconst (v := 0) hx hb dL_comparisons_6 (by decide) ?_
  refine lv_istore (lv' := [(4, .int (0 : Int32)), (3, .int (0 : Int32)), (2, .int (0 : Int32)), (1, .int (0 : Int32)), (0, .ref (b + 0))]) hx hb dL_comparisons_7 hl (by decide) rfl (fun ls hl => ?_)
  refine lv_iconst (v := (-1)) hx hb dL_comparisons_9 (by decide) ?_
  refine lv_istore (lv' := [(5, .int ((-1) : Int32)), (4, .int (0 : Int32)), (3, .int (0 : Int32)), (2, .int (0 : Int32)), (1, .int (0 : Int32)), (0, .ref (b + 0))]) hx hb dL_comparisons_10 hl (by decide) rfl (fun ls hl => ?_)
  refine lv_iconst (v := (-1)) hx hb dL_comparisons_12 (by decide) ?_
  refine lv_istore (lv' := [(6, .int ((-1) : Int32)), (5, .int ((-1) : Int32)), (4, .int (0 : Int32)), (3, .int (0 : Int32)), (2, .int (0 : Int32)), (1, .int (0 : Int32)), (0, .ref (b + 0))]) hx hb dL_comparisons_13 hl (by decide) rfl (fun ls hl => ?_)
  refine lv_iconst (v := 0) hx hb dL_comparisons_15 (by decide) ?_
  refine lv_istore (lv' := [(7, .int (0 : Int32)), (6, .int ((-1) : Int32)), (5, .int ((-1) : Int32)), (4, .int (0 : Int32)), (3, .int (0 : Int32)), (2, .int (0 : Int32)), (1, .int (0 : Int32)), (0, .ref (b + 0))]) hx hb dL_comparisons_16 hl (by decide) rfl (fun ls hl => ?_)
  refine lv_bipush (v := 100) hx hb dL_comparisons_18 (by decide) ?_
  refine lv_istore (lv' := [(8, .int (100 : Int32)), (7, .int (0 : Int32)), (6, .int ((-1) : Int32)), (5, .int ((-1) : Int32)), (4, .int (0 : Int32)), (3, .int (0 : Int32)), (2, .int (0 : Int32)), (1, .int (0 : Int32)), (0, .ref (b + 0))]) hx hb dL_comparisons_20 hl (by decide) rfl (fun ls hl => ?_)
  refine lv_iconst (v := 0) hx hb dL_comparisons_22 (by decide) ?_
  refine lv_istore (lv' := [(9, .int (0 : Int32)), (8, .int (100 : Int32)), (7, .int (0 : Int32)), (6, .int ((-1) : Int32)), (5, .int ((-1) : Int32)), (4, .int (0 : Int32)), (3, .int (0 : Int32)), (2, .int (0 : Int32)), (1, .int (0 : Int32)), (0, .ref (b + 0))]) hx hb dL_comparisons_23 hl (by decide) rfl (fun ls hl => ?_)
  refine lv_aload_n hx hb dL_comparisons_25 rfl (lv_at hl 9 rfl) ?_
  refine xc_i (va_runV (As := []) (rest := []) ⟨hx, hb, hml, hown, hts⟩ (c_X7_instrumentCount l D cy b n (by omega) M ) (cwV 0 hts gL_comparisons_X7_instrumentCount rfl rfl rfl (by decide +kernel) ⟨Nat.le_of_ble_eq_true rfl, Nat.le_of_ble_eq_true rfl⟩) (xPreV hP hK hX hS (by omega) (cell7 (by decide)) rfl) rfl rfl hl.1 rfl (lv_room (Nat.le_of_ble_eq_true rfl)) dL_comparisons_26 ⟨Nat.le_of_ble_eq_true rfl, Nat.le_of_ble_eq_true rfl⟩) hS (fun H locs hP hS => ?_)
  refine lv_istore (lv' := [(10, .int (fX7_instrumentCount M)), (9, .int (0 : Int32)), (8, .int (100 : Int32)), (7, .int (0 : Int32)), (6, .int ((-1) : Int32)), (5, .int ((-1) : Int32)), (4, .int (0 : Int32)), (3, .int (0 : Int32)), (2, .int (0 : Int32)), (1, .int (0 : Int32)), (0, .ref (b + 0))]) hx hb dL_comparisons_29 hl (by decide) rfl (fun ls hl => ?_)
  refine lv_iconst (v := 0) hx hb dL_comparisons_31 (by decide) ?_
  refine lv_istore (lv' := [(11, .int (0 : Int32)), (10, .int (fX7_instrumentCount M)), (9, .int (0 : Int32)), (8, .int (100 : Int32)), (7, .int (0 : Int32)), (6, .int ((-1) : Int32)), (5, .int ((-1) : Int32)), (4, .int (0 : Int32)), (3, .int (0 : Int32)), (2, .int (0 : Int32)), (1, .int (0 : Int32)), (0, .ref (b + 0))]) hx hb dL_comparisons_32 hl (by decide) rfl (fun ls hl => ?_)
  exact cl_L_comparisons l hl0 D cy b n hn M hI h1 hc6 hx hb hr hlocks hml hown hts hK hX hcn 7 0 0 0 H locs ls (by omega) (by omega) (by omega) (by omega) hP hS (lv_sub hl [10, 9, 8, 7, 6, 5, 4, 3, 2, 1, 0, 11] rfl)
