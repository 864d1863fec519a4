set_option maxHeartbeats 8000000 in
set_option maxRecDepth 100000 in
/-- THE LAW, from its entry -/
theorem whole_start {p : Program} {e : Env} {s : State} {m : MethodId} {below : List Frame} {meth : Method} {c : Code} (l : Launch) (hflags : l.flags = flags0) {b L : Nat} {xs : Nat → Int32} (hL : L ≤ 260) (C0 : lw_At p s m meth c b L xs) : W p l e room_1 s m #[Value.ref b] below meth c s.heap [] 0 0 (lw_Z below #[Value.ref b] s) (entryFrame m ([Value.ref b] : List Value).toArray 11) := by
  obtain ⟨hx, hb, hr, hml, hown, hts0, hXs, hbl, hlocks, hgv⟩ := id C0
  have hown : s.vm.findClass RL = some m.cls := hown
  have hb : c.code = cL_law := hb
  have hst : l.stackTraces = false := by
    unfold Launch.stackTraces
    rw [hflags]
    decide +kernel
  have hd0 := Drawn.sameBut.refl s.drawn lw_cs
  have hs : ∀ w ∈ pmL, w.before #[Value.ref b] s = true := flat_of_before _ hgv
  have hts6 := lw_hts6 hts0
  obtain ⟨cy, hcy⟩ := st_arr hts6
  obtain ⟨dC, dI, hcl⟩ := st_cls hts6
  obtain ⟨D, hD⟩ : ∃ D : va_G, D = (dC, dI) := ⟨_, rfl⟩
  have hK : va_K D vwCl (tysW cy) s := by rw [hD]; exact ⟨hcl, hcy⟩
  have hO : va_AO RX1 s ∧ va_AO RX4 s := ⟨va_AO.of (hts6 (.arrayOver (.object RX1)) (by decide +kernel)), va_AO.of (hts6 (.arrayOver (.object RX4)) (by decide +kernel))⟩
  have hts : ∀ w ∈ wsL_law, w.before #[Value.ref b] s = true := fun w h => hts6 w (wsL_law_in w h)
  obtain ⟨bb, hbb⟩ : ∃ z, z = s.heap.size := ⟨_, rfl⟩
  have hX : SX bb s := st_sx hbb hts6 hs
  obtain ⟨hJ, aR, aH, aB, aU, hV, hTx⟩ := st_sj hbb hts6 hs
  have hS : va_S (fr bb) s.heap s.heap [] := va_S.rf
  have hP : va_P D vwCl (wL cy bb fT (fun _ _ => 0) 0) s.heap := fun k q h => by simp [wL] at h
  have hs0 : s.heap.size = bb + 0 := by omega
  have hz : s.heap.size = bb + 0 := hs0
  have hbA : ¬ fr bb b := fun h => by
    have h : bb ≤ b := h
    omega
  have hl := lv_entry ([.ref b]) (n := 11) (Nat.le_of_ble_eq_true rfl)
  rw [lg_entry_eq]
  generalize (lg_sl ([.ref b]) ++ List.replicate (11 - (lg_sl ([.ref b])).length) Slot.unset).toArray = ls at hl ⊢
  have hl : lv_has ls 11 [(0, .ref b)] := hl
  refine xnewo (n := 0) (C := RX7) (T := TX7) (N := 6) (ci := 7) (fs := [.null, .null, .null, .null, .null, .null]) hx hb hts inlX7 tyX7 tyX7_ok hown (hts6 (.classLink RL 19 RX7) (by decide +kernel)) (hts6 (.instantiable RX7 6) (by decide +kernel)) (hts6 (.initialized RX7) (by decide +kernel)) hK hP hS hz rfl (fun j hj => by rcases (show j = 0 ∨ j = 1 ∨ j = 2 ∨ j = 3 ∨ j = 4 ∨ j = 5 by omega) with rfl | rfl | rfl | rfl | rfl | rfl <;> rfl) (by rw [cell7 (by decide)]; rfl) (Nat.le_of_ble_eq_true rfl) (Nat.le_of_ble_eq_true rfl) dL_law_0 (fun H hP hS hz => ?_)
  refine lv_dup hx hb dL_law_3 rfl ?_
  refine xcz (va_runI (As := []) (rest := [.ref (bb + 0)]) ⟨hx, hb, hml, hown, hts⟩ (c_X7_init l D cy bb (fun _ _ => 0) (fun q hq => rfl)) (cwI 0 hts gL_law_X7_init rfl rfl rfl (hts6 (.initialized RX7) (by decide +kernel)) (hts6 (.methodLink RL 257 yX7_init) (by decide +kernel)) (hts6 (.instanceMethod yX7_init) (by decide +kernel)) rfl (by decide +kernel) ⟨Nat.le_of_ble_eq_true rfl, Nat.le_of_ble_eq_true rfl⟩) (xPreZ hP hK hX hO hS hz) rfl rfl hl.1 rfl (lv_room (Nat.le_of_ble_eq_true rfl)) dL_law_4 ⟨Nat.le_of_ble_eq_true rfl, Nat.le_of_ble_eq_true rfl⟩) hS hs0 (by omega) (by omega) (fun H locs hP hS hz => ?_)
  refine lv_astore_n (lv' := [(1, .ref (bb + 0)), (0, .ref b)]) hx hb dL_law_7 rfl hl (by decide) rfl (fun ls hl => ?_)
  obtain ⟨f1, f2, f3, f4, f5⟩ := first_z
  have hA1 := f1 124 (Nat.le_refl _)
  have hOQ : OQ (gX7_init (fun _ _ => 0)) := ⟨f2, f3, f4, f5⟩
  generalize gX7_init (fun _ _ => 0) = A at hP hA1 hOQ
  refine lv_iconst (v := 1) hx hb dL_law_8 (by decide) ?_
  refine xna (n := 124) (t0 := 1) (N := 1) (ty := .int) (atype := .int) (a0 := (1, .inl (fun _ => 0))) hx hb rfl (hts6 (.arrayClass .int) (by decide +kernel)) hK hP hS hz rfl (fun C h => by cases h) (fun cA => rfl) (by rw [cell11 (by decide), hA1]; rfl) (by decide) rfl (Nat.le_of_ble_eq_true rfl) (Nat.le_of_ble_eq_true rfl) (Nat.le_of_ble_eq_true rfl) dL_law_9 (fun H hP hS hz => ?_)
  refine lv_dup hx hb dL_law_11 rfl ?_
  refine lv_iconst (v := 0) hx hb dL_law_12 (by decide) ?_
  refine W.widen (k := 130) (n := 1700) (Nat.le_of_ble_eq_true rfl) (Nat.le_of_ble_eq_true rfl) ?_
  have k27 : ∀ v : Int32, W p l e room_1 s m #[Value.ref b] below meth c H locs 130 1700 (lw_Z below #[Value.ref b] s) (F0 m 27 ls (.int v :: .int 0 :: .ref (bb + 124) :: .ref (bb + 124) :: [])) := by
    intro v
    refine xis (j := 0) (x := v) hx hb hK hP hS (by omega) (by decide) (ixIn (a := 0) rfl (by decide) (by decide)) rfl dL_law_27 (fun H locs hP hS => ?_)
    refine lv_astore_n (lv' := [(2, .ref (bb + 124)), (1, .ref (bb + 0)), (0, .ref b)]) hx hb dL_law_28 rfl hl (by decide) rfl (fun ls hl => ?_)
    refine lv_iconst (v := 1) hx hb dL_law_29 (by decide) ?_
    refine lv_istore_n (lv' := [(3, .int 1), (2, .ref (bb + 124)), (1, .ref (bb + 0)), (0, .ref b)]) hx hb dL_law_30 rfl hl (by decide) rfl (fun ls hl => ?_)
    refine lv_iconst (v := nI 0) hx hb dL_law_31 (by decide) ?_
    refine lv_istore (lv' := [(4, .int (nI 0)), (3, .int 1), (2, .ref (bb + 124)), (1, .ref (bb + 0)), (0, .ref b)]) hx hb dL_law_32 hl (by decide) rfl (fun ls hl => ?_)
    refine law_34 l hst D cy bb b L xs aR aH aB aU hx hb hml hown hts hK hX hJ hTx hV hXs hbl hbb hL (fun H locs ls cz sz hS hcz hsz => ?_) 2 0 rfl _ H locs ls 130 1700 (hOQ.eqr (eqr_put A 0 v)) hP hS (lv_sub hl [0, 1, 3, 2, 4] rfl) (by omega) (by omega)
    refine va_forget (fun q hq => by
      have h : bb ≤ q.base := hS.2.2 q hq
      omega) ?_
    refine W.widen (k := 600086) (n := 7301442) hcz hsz ?_
    exact lw_ret (d0 := s.drawn) hd0 hx hb hr hlocks dL_law_376
  refine lv_aload_n hx hb dL_law_13 rfl (lv_at hl 1 rfl) ?_
  refine va_slen hx hb hXs hbl hbA hS dL_law_14 ?_
  refine lv_if_ne (tgt := 24) hx hb dL_law_15 (by decide) (fun c15 => ?_) (fun c15 => ?_)
  · refine lv_aload_n hx hb dL_law_24 rfl (lv_at hl 1 rfl) ?_
    refine lv_iconst (v := nI 0) hx hb dL_law_25 (by decide) ?_
    refine va_sld hx hb hXs hbl hbA hS (vp_in_nI (by
      rcases Nat.eq_zero_or_pos L with h0 | h0
      · exact absurd (by rw [h0]; rfl) c15
      · exact h0) (by omega)) dL_law_26 ?_
    exact k27 _
  · refine lv_sipush (v := 1276) hx hb dL_law_18 (by decide) ?_
    refine lv_goto (tgt := 27) hx hb dL_law_21 (by decide) ?_
    exact k27 1276
set_option maxHeartbeats 4000000 in
theorem lw_walk (l : Launch) (hflags : l.flags = flags0) (b : Addr) (xs : List Int32) : MetFree l x (headSpec (Jvm.Cond.code x code maxLocals ret :: tables_1) room_1) (lw_P b xs) (fun _ _ _ _ _ => True) lw_Q := by
  refine MetFree.of_bodyS (code := code) (maxLocals := maxLocals) (ret := ret) (by decide) ?_ ?_
  · intro args s m h hn
    obtain ⟨meth, c, h1, h2, h3, h4, h5, h6, -, -⟩ := Cond.code_spec hn (atoms_spec (ws := Jvm.Cond.code x code maxLocals ret :: tables_1) h _ List.mem_cons_self)
    exact ⟨meth, c, h1, h2, h3, h4, h5, h6⟩
  · intro p e s m args below meth c s₁ B hml0 hP _
    obtain ⟨rfl, hx, hbd, hgv⟩ := hP
    obtain ⟨scr, harrAt, hlist, hof, hsmall⟩ := hx
    obtain ⟨hcb, hkn, -, -⟩ := State.arrayAt?_spec harrAt
    have hown : s.vm.findClass R_law = some m.cls := findClass_of_methodNamed B.named
    have hts0 : ∀ c ∈ (Jvm.Cond.code x code maxLocals ret :: tables_1), c.before #[Value.ref b] s = true := atoms_spec (ws := Jvm.Cond.code x code maxLocals ret :: tables_1) B.pre
    have hts : ∀ w ∈ lw_tbl, w.before #[Value.ref b] s = true := k2_hts_sels lw_privs (fun w hw => hts0 w (List.mem_cons_of_mem _ hw)) lw_privs_ok
    have hml : c.maxLocals = 11 := B.maxLocals_eq (hts0 _ List.mem_cons_self)
    have X₀ : Stand p l e room_1 s m #[Value.ref b] below meth c s₁ [] 0 0 := Stand.of_body B
    have hh0 : s₁.heap = s.heap := by rw [B.state]; rfl
    have hsz : scr.slots.size = xs.length := by rw [← Array.length_toList, hlist, List.length_map]
    have hval : ∀ j : Nat, j < xs.length → scr.slots[j]? = some (.int (xs.getD j 0)) := fun j hj => by
      rw [← Array.getElem?_toList, hlist]
      simp [hj]
    have hbl : b < s.heap.size := (Array.getElem?_eq_some_iff.mp hcb).1
    have hX : va_X b xs.length (fun j => xs.getD j 0) s s.heap := ⟨scr, hcb, hof, hkn, hsz, hval⟩
    have K : W p l e room_1 s m #[Value.ref b] below meth c s₁.heap [] 0 0 (lw_Z below #[Value.ref b] s) (entryFrame m ([Value.ref b] : List Value).toArray 11) := by
      rw [hh0]
      exact whole_start l hflags hbd ⟨B.exec, B.bytes, B.returns, hml, hown, hts, hX, hbl, B.notSynchronized, hgv⟩
    obtain ⟨t, a1, o, b1, b2, b3⟩ := K s₁ rfl X₀
    exact ⟨t, o, a1, b1, b2, b3⟩
theorem lw_pre_spec {args : Array Value} {s : State} (h : (Jvm.Cond.and given_1 narrow_1).before args s = true) (hr : rest_1_c.before args s = true) : ∃ (b : Addr) (xs : List Int32), lw_P b xs args s := by
  have hs := flat_of_before _ h
  have hq := flat_of_before _ hr
  have hc : (Cond.count 1).before args s = true := hs _ (by decide +kernel)
  have harr : (Cond.arrayOf (.arg 0) .int).before args s = true := hs _ (by decide +kernel)
  have hle : (Cond.le (.length (.arg 0)) (.int 260)).before args s = true := hs _ (by decide +kernel)
  have hlen : (Cond.isInt (.length (.arg 0))).before args s = true := hq _ (by decide +kernel)
  have hall : (Cond.all (.arg 0) (.isInt (.elem (.arg 0) (.index 0)))).before args s = true := hq _ (by decide +kernel)
  obtain ⟨b, xs, hb, hx⟩ := State.ints_of_pre rfl harr hlen hall
  have hsm : xs.length < 2 ^ 31 := hx.choose_spec.2.2.2
  have hev : (Term.length (.arg 0)).eval args s none [] s = some (.int xs.length.toInt32) := hx.length_eval hb
  have hv := Cond.le_ints hev (show (Term.int 260).eval args s none [] s = some (.int 260) from rfl)
  have hd : xs.length.toInt32 ≤ 260 := by
    simpa [Cond.before, Cond.holds, hv] using hle
  have hN : xs.length ≤ 260 := (Int32.ofNat_le_ofNat hsm (by decide)).mp (show Int32.ofNat xs.length ≤ Int32.ofNat 260 from hd)
  exact ⟨b, xs, Cond.one_arg hc (show args[0]? = some (.ref b) from hb), hx, hN, h⟩
theorem lw_comes (l : Launch) (hflags : l.flags = flags0) : Comes l x (Jvm.Cond.code x code maxLocals ret :: tables_1) room_1 (fun tb e args s => Calls_1 tb e args s ∧ rest_1 tb e args s ∧ Pre_1 tb e args s)
    (fun _ _ args s o t => lw_Q args s o t) := by
  intro p e ha hc hk s m args below hf hfit hheap happ hpre
  obtain ⟨b, xs, hP⟩ := lw_pre_spec hpre.2.2 hpre.2.1
  obtain ⟨k, o, h1, h2, h3, hQ⟩ := lw_walk l hflags b xs p e ha hc hk s m args below hf ((Spec.applies_iff_loose hf).mp happ).1 hP trivial
  exact ⟨k, o, h1, h2, h3, hQ⟩
theorem lw_frame {s t : State} {o : Outcome} {args : Array Value} (h : State.butDraws s t lw_cs (fun t1 => Framed s o t1 [] 600086 7301442)) :
    State.butDraws s t [Jvm.Choice.named "NaN.bits"] (fun t1 => Framed s o t1 (fieldLocs frame_1_writes args s ++ arrayLocs frame_1_arrays args s ++ staticLocs frame_1_statics s) 600086 7301442) := h
theorem lw_limb (L : Cond) (hL : ∀ (args : Array Value) (s t : State), L.after args s (.returned (some (.int 1))) t = true) :
    ArmFor flags0 classFile x code maxLocals ret World_1 tables_1 room_1 Calls_1 rest_1 Pre_1
      (fun tb e a s o t => postC L tb e a s o t ∧ State.butDraws s t [Jvm.Choice.named "NaN.bits"] (fun t1 => Framed s o t1 (fieldLocs frame_1_writes a s ++ arrayLocs frame_1_arrays a s ++ staticLocs frame_1_statics s) 600086 7301442)) := by
  intro l hflags _ _ p e ha hc hk s m args below hf hfit hheap happ hpre
  obtain ⟨k, o, h1, h2, h3, rfl, hF⟩ := lw_comes l hflags p e ha hc hk s m args below hf hfit hheap happ hpre
  exact ⟨k, _, h1, h2, h3, hL args s _, lw_frame hF⟩
theorem i_vc : Claimed_1_1 ∧ Claimed_1_2 := ⟨lw_limb limb_1_1 (fun args s t => by simp [limb_1_1, Cond.after, Cond.holds, Cond.value]), lw_limb limb_1_2 (fun args s t => Cond.after_iff.mpr (by
  first | (rw [show limb_1_2 = Cond.eq .result (.int 1) from rfl, Cond.eq_ints (x := 1) (y := 1) rfl rfl]; simp; done) | (simp [limb_1_2, Cond.value, Term.eval]; done)))⟩
