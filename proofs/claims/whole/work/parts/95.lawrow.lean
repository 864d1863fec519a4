/-! the law's own rows -/
/-- what stays as it is through the law's loop -/
def LW (p : Program) (l : Launch) (s : State) (m : MethodId) (args : Array Value) (c : Code) (D : va_G) (cy : Nat → ClassId) (bb b L : Nat) (xs : Nat → Int32) : Prop :=
  p.tables.exec = Jvm.exec ∧ c.code = cL_law ∧ c.maxLocals = 9 ∧ (∀ w ∈ wsL_law, w.before args s = true) ∧ s.vm.findClass RL = some m.cls ∧ va_K D vwCl (tysW cy) s ∧ SX bb s ∧ va_X b L xs s s.heap ∧ b < s.heap.size ∧ bb = s.heap.size ∧ l.stackTraces = false ∧ L ≤ 3072
def lvL (b bb : Nat) (x : Int32) : List (Nat × Value) := [(0, .ref b), (1, .ref (bb + 0)), (2, .ref (bb + 124)), (3, .ref (bb + 133)), (4, .int x)]
section LAWR
variable {p : Program} {l : Launch} {e : Env} {s : State} {m : MethodId} {args : Array Value} {below : List Frame} {meth : Method} {c : Code} {H : Heap} {locs : List Loc} {cells slots : Nat} {Q : State → Prop}
variable {pc : Nat} {ls : Array Slot} {rest : List Value} {D : va_G} {cy : Nat → ClassId} {bb b L : Nat} {xs : Nat → Int32} {M : Mem} {k : Nat}
/-- one of the script's ints -/
theorem law_arg (j : Nat) (hW : LW p l s m args c D cy bb b L xs) (hk : 6 * k + 6 ≤ L) (hj : j < 6) (hS : va_S (fr bb) s.heap H locs) (h0 : ls[0]? = some (.val (.ref b))) (h4 : ls[4]? = some (.val (.int (nI (6 * k)))))
    (d0 : decode cL_law pc = .ok (.aload_n 0, 1)) (d1 : decode cL_law (pc + 1) = .ok (.iload 4, 2)) {n : Int} (d2 : decode cL_law (pc + 3) = .ok (.iconst n, 1)) (hn : Int32.ofInt n = nI j) (d3 : decode cL_law (pc + 4) = .ok (.iadd, 1)) (d4 : decode cL_law (pc + 5) = .ok (.iaload, 1))
    (kk : W p l e room_1 s m args below meth c H locs cells slots Q (F0 m (pc + 6) ls (.int (xs (6 * k + j)) :: rest))) : W p l e room_1 s m args below meth c H locs cells slots Q (F0 m pc ls rest) := by
  obtain ⟨hx, hb, hml, hts, hown, hK, hX, hXs, hbl, hbb, hst, hL⟩ := hW
  refine lv_aload_n hx hb d0 rfl h0 ?_
  refine lv_iload hx hb d1 h4 ?_
  refine lv_iconst (v := nI j) hx hb d2 hn ?_
  refine lv_iadd hx hb d3 ?_
  rw [nI_add]
  refine va_sld (A := fr bb) hx hb hXs hbl (by show ¬ bb ≤ b; omega) hS (vp_in_nI (by omega) (by omega)) d4 ?_
  rw [nI_clamp (by omega)]
  exact kk
/-- what a method of the class threw against what the reference says, and the answers: both are the same -/
theorem law_tail {kx v : Int32} (hW : LW p l s m args c D cy bb b L xs) (hP : va_P D vwCl (wL cy bb fT M 134) H) (hS : va_S (fr bb) s.heap H locs) (hc : cells ≤ 601024) (hs : slots ≤ 7293034) {x4 : Int32}
    (hl : lv_has ls 9 ((6, .int v) :: (5, .int kx) :: lvL b bb x4)) (ht : fX8_thrown M = kx) (hv : kx = 0 → M 133 0 = v)
    (d0 : decode cL_law pc = .ok (.aload_n 2, 1)) (d1 : decode cL_law (pc + 1) = .ok (.invokevirtual 141, 3)) (d2 : decode cL_law (pc + 4) = .ok (.iload 5, 2)) (d3 : decode cL_law (pc + 6) = .ok (.if_icmp .eq 5, 3)) (d4 : decode cL_law (pc + 11) = .ok (.iload 5, 2)) (d5 : decode cL_law (pc + 13) = .ok (.ifCond .ne 15, 3))
    (d6 : decode cL_law (pc + 16) = .ok (.aload_n 3, 1)) (d7 : decode cL_law (pc + 17) = .ok (.iconst 0, 1)) (d8 : decode cL_law (pc + 18) = .ok (.laload, 1)) (d9 : decode cL_law (pc + 19) = .ok (.iload 6, 2)) (d10 : decode cL_law (pc + 21) = .ok (.i2l, 1)) (d11 : decode cL_law (pc + 22) = .ok (.lcmp, 1)) (d12 : decode cL_law (pc + 23) = .ok (.ifCond .eq 5, 3)) {off : Int} (d13 : decode cL_law (pc + 28) = .ok (.goto off, 3)) (hoff : ((pc + 28 : Nat) : Int) + off = ((2726 : Nat) : Int))
    (kk : ∀ (H1 : Heap) (locs1 : List Loc) (ls1 : Array Slot), va_P D vwCl (wL cy bb fT M 134) H1 → va_S (fr bb) s.heap H1 locs1 → lv_has ls1 9 (lvL b bb x4) → W p l e room_1 s m args below meth c H1 locs1 cells slots Q (F0 m 2726 ls1 rest)) (hrest : (rest.map fun v => v.category).sum ≤ 7) : W p l e room_1 s m args below meth c H locs cells slots Q (F0 m pc ls rest) := by
  obtain ⟨hx, hb, hml, hts, hown, hK, hX, hXs, hbl, hbb, hst, hL⟩ := hW
  refine lv_aload_n hx hb d0 rfl (lv_at hl 4 rfl) ?_
  refine xc_i (va_runV (As := []) (rest := rest) ⟨hx, hb, hml, hown, hts⟩ (c_X8_thrown l D cy bb 134 (by decide) M) (cwV 0 hts gL_law_X8_thrown rfl rfl rfl (by decide +kernel) ⟨Nat.le_of_ble_eq_true rfl, Nat.le_of_ble_eq_true rfl⟩) (xPreV hP hK hX hS (by decide) (cell8 (by decide)) rfl) rfl rfl hl.1 rfl (lv_room (by omega)) d1 ⟨hc, hs⟩) hS (fun H locs hP hS => ?_)
  refine lv_iload hx hb d2 (lv_at hl 1 rfl) ?_
  have hend : W p l e room_1 s m args below meth c H locs cells slots Q (F0 m (pc + 28) ls rest) := lv_goto (tgt := 2726) hx hb d13 hoff (kk H locs ls hP hS (lv_sub hl [2, 3, 4, 5, 6] rfl))
  refine lv_icmp_eq (tgt := pc + 11) hx hb d3 (by omega) (fun _ => ?_) (fun h => absurd ht h)
  refine lv_iload hx hb d4 (lv_at hl 1 rfl) ?_
  refine lv_if_ne (tgt := pc + 28) hx hb d5 (by omega) (fun _ => hend) (fun h => ?_)
  have h0 : kx = 0 := h
  refine lv_aload_n hx hb d6 rfl (lv_at hl 5 rfl) ?_
  refine lv_iconst (v := 0) hx hb d7 (by decide) ?_
  refine xll (o := 133) (j := 0) hx hb hK hP (by decide) (by decide) (ixIn (a := 0) rfl (by decide) (by decide)) rfl d8 ?_
  refine lv_iload hx hb d9 (lv_at hl 0 rfl) ?_
  refine lv_i2l hx hb d10 rfl ?_
  refine W.lcmp hx hb d11 ?_
  refine lv_if_eq (tgt := pc + 28) hx hb d12 (by omega) (fun _ => hend) (fun h => absurd ?_ h)
  rw [hv h0]
  simp [lg_cmp]
end LAWR
