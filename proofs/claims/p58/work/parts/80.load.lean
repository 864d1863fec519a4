/-! the law's load(d, text) -/
theorem CPYb {D : va_G} {cy : Nat → ClassId} {b : Nat} {M : Mem} {z : Nat} {tx : List (Nat × List Int32)} {av : List Value} : FrameBlind (CPY D cy b M z tx av) := fun a U g mk q => ⟨q.1, q.2.1, va_K.moved (u := U) (U := U.calling g mk a) (Vm.Alike.refl U.vm) q.2.2.1, ⟨q.2.2.2.1.1.calling, q.2.2.2.1.2.calling⟩, q.2.2.2.2.calling⟩
abbrev QLD (D : va_G) (cy : Nat → ClassId) (b : Nat) (M0 : Mem) (X : List Int32) : Array Value → State → Outcome → State → Prop := va_Qi (fun x (M2 : Mem) => ∃ M1 k, BUF M0 M1 X k ∧ X.length ≤ k ∧ k ≤ 80 ∧ x = fX7_load M1 (nI X.length) ∧ M2 = gX7_load M1 (nI X.length)) (fun M2 t => va_P D vwCl (wL cy b fT M2 125) t.heap) (fr b)
set_option maxHeartbeats 4000000 in
set_option maxRecDepth 100000 in
theorem c_L_load (l : Launch) (hl0 : l.stackTraces = false) (D : va_G) (cy : Nat → ClassId) (b : Nat) (M0 : Mem) (z a : Nat) (X : List Int32) (hbz : b + 125 ≤ z) (hXl : X.length ≤ 74) (hXA : ASC X) (hM : M0 10 1 = 0) (hcd : CNT M0 12) (hld : ∀ M1 k, BUF M0 M1 X k → X.length ≤ k → k ≤ 80 → tX7_load M1 (nI X.length) = 0) : Met l yL_load wsL_load ({ frames := 8, cells := 2, slots := 11, locals := 220 } : Room) (CPY D cy b M0 z [(a, X)] [.ref (b + 0), .ref a]) (QLD D cy b M0 X) 2 11 (fr b) := by
  refine met_ofWH (cc := cL_load) (maxL := 4) (ret := some .int) (hh := [(6, 11, 12, 34), (6, 11, 16, 36)]) (by decide) rfl ?_
  intro p e s m args below meth c s₁ B hml hv
  obtain ⟨rfl, hP, hK, ⟨hX, hJ⟩, hT⟩ := hv
  have hx := B.exec
  have hb := B.bytes
  have hr := B.returns
  have hts := atoms_spec (ws := wsL_load) B.pre
  have hown : s.vm.findClass RL = some m.cls := findClass_of_methodNamed B.named
  have hlocks := B.notSynchronized
  have hS : va_S (fr b) s.heap s.heap [] := va_S.rf
  have hl := lv_entry ([.ref (b + 0), .ref a]) (n := 4) (Nat.le_of_ble_eq_true rfl)
  rw [lg_entry_eq]
  generalize (lg_sl ([.ref (b + 0), .ref a]) ++ List.replicate (4 - (lg_sl ([.ref (b + 0), .ref a])).length) Slot.unset).toArray = ls at hl ⊢
  have hl : lv_has ls 4 [(0, .ref (b + 0)), (1, .ref a)] := hl
  have hfr : ∀ q, exz b 125 z q → fr b q := fun q h => h.elim (fun x => x.1) (fun x => by show b ≤ q; omega)
  refine lv_aload_n hx hb dL_load_0 rfl (lv_at hl 0 rfl) ?_
  refine lv_aload_n hx hb dL_load_1 rfl (lv_at hl 1 rfl) ?_
  have hps : PreS s s.heap (CPY D cy b M0 z [(a, X)] [.ref (b + 0), .ref a]) [.ref (b + 0), .ref a] := ⟨CPYb, fun U hU hW => ⟨rfl, by rw [hU]; exact hP, va_K.moved hW.alike hK, ⟨hX.moved hU hS hW, hJ.moved hU va_S.rf hW⟩, hT.moved hU va_S.rf hW⟩⟩
  refine va_calli (va_runS (As := [.ref (b + 0), .ref a]) (rest := []) ⟨hx, hb, hml, hown, hts⟩ (c_L_type l D cy b M0 z a X hbz hXl hXA hM) (va_cwS 2 hts gL_load_L_type rfl rfl rfl (by decide +kernel) ⟨Nat.le_of_ble_eq_true rfl, Nat.le_of_ble_eq_true rfl⟩) hps rfl rfl hl.1 rfl (lv_room (Nat.le_of_ble_eq_true rfl)) dL_load_2 ⟨Nat.le_of_ble_eq_true rfl, Nat.le_of_ble_eq_true rfl⟩) hS (fun q _ h => hfr q h) hfr (fun x M1 t H locs ht _ hp hB _ _ hS => ?_)
  obtain ⟨rfl, k, hk1, hk2, hbuf⟩ := hp
  have hP : va_P D vwCl (wL cy b fT M1 125) H := by rw [← ht]; exact hB
  refine lv_istore_n (lv' := [(2, .int (nI X.length)), (0, .ref (b + 0)), (1, .ref a)]) hx hb dL_load_5 rfl hl (by decide) rfl (fun ls hl => ?_)
  refine lv_aload_n hx hb dL_load_6 rfl (lv_at hl 1 rfl) ?_
  refine lv_iload_n hx hb dL_load_7 rfl (lv_at hl 0 rfl) ?_
  have ht0 := hld M1 k hbuf hk1 hk2
  have hcd1 : CNT M1 12 := by
    unfold CNT at hcd ⊢
    rw [hbuf.2.2.1 12 (by decide) (by decide)]
    exact hcd
  refine xct_i (vx_runV (As := [.int (nI X.length)]) (rest := []) ⟨hx, hb, hml, hown, hts⟩ (c_X7_load l hl0 D cy b 125 (by omega) M1 (nI X.length) (hbuf.tf (by omega)) hcd1) (cwV 1 hts gL_load_X7_load rfl rfl rfl (by decide +kernel) ⟨Nat.le_of_ble_eq_true rfl, Nat.le_of_ble_eq_true rfl⟩) (xPreV hP hK hX hS (by omega) (cell7 (by decide)) rfl) rfl rfl hl.1 rfl (lv_room (Nat.le_of_ble_eq_true rfl)) dL_load_8 ⟨Nat.le_of_ble_eq_true rfl, Nat.le_of_ble_eq_true rfl⟩) hS (fun E ce q H locs hE hP hS hc hv hcl => ?_) (fun H locs hT hP hS => ?_)
  · rw [ht0] at hE
    rcases hE with ⟨e1, _⟩ | ⟨e1, _⟩ | ⟨e1, _⟩ <;> exact absurd e1 (by decide)
  · refine W.widen (k := 2) (n := 11) (Nat.le_of_ble_eq_true rfl) (Nat.le_of_ble_eq_true rfl) ?_
    exact W.iret hx hb hr (fun t ht hW => ⟨⟨_, _, rfl, ⟨M1, k, hbuf, hk1, hk2, rfl, rfl⟩, by show va_P _ _ _ t.heap; rw [ht]; exact hP⟩, hS.F ht⟩) hS.2.2 dL_load_11 hlocks
