/-! .. of answers that are true or false; a share as a double -/
theorem fd64 : ∀ s n : Nat, s ≤ 6 → 0 < n → n ≤ 6 → vf_n64 (FP.f2d (FP.fdiv (FP.i2f (nI s)) (FP.i2f (nI n)))) := by
  have h : ∀ s : Fin 7, ∀ n : Fin 7, 0 < n.1 → (FP.f2d (FP.fdiv (FP.i2f (nI s.1)) (FP.i2f (nI n.1)))) &&& 0x7fffffffffffffff ≤ 0x7ff0000000000000 := by decide +kernel
  intro s n hs h0 hn
  exact h ⟨s, by omega⟩ ⟨n, by omega⟩ h0
theorem fd64_0 : vf_n64 (FP.f2d FP.fconst0) := by
  have h : (FP.f2d FP.fconst0) &&& 0x7fffffffffffffff ≤ 0x7ff0000000000000 := by decide +kernel
  exact h
theorem g_f2d {M N : Mem} (h : G M N) : vf_n64 (FP.f2d (fX7_usableShare M)) := by
  unfold fX7_usableShare
  by_cases h0 : M 1 1 = 0
  · rw [if_pos h0]
    exact fd64_0
  · rw [if_neg h0]
    obtain ⟨u, hu, eu⟩ := us_rng h
    obtain ⟨c, K, p, hg⟩ := id h
    have hc6 := hg.1.2.1.1
    have e1 : M 1 1 = nI c := hg.1.ra.many.trans hg.1.2.1.2.1
    have hc0 : 0 < c := by
      rcases Nat.eq_zero_or_pos c with e | e
      · exact absurd (by rw [e1, e]; rfl) h0
      · exact e
    rw [e1, eu]
    exact fd64 u c hu hc0 hc6
section LAWB
variable {p : Program} {l : Launch} {e : Env} {s : State} {m : MethodId} {args : Array Value} {below : List Frame} {meth : Method} {c : Code} {H : Heap} {locs : List Loc} {cells slots : Nat} {Q : State → Prop}
variable {pc : Nat} {ls : Array Slot} {rest : List Value} {D : va_G} {cy : Nat → ClassId} {bb b L : Nat} {xs : Nat → Int32} {M : Mem} {k : Nat}
theorem law_tailB {kx v : Int32} (hW : LW p l s m args c D cy bb b L xs) (hP : va_P D vwCl (wL cy bb fT M 134) H) (hS : va_S (fr bb) s.heap H locs) (hc : cells ≤ 601024) (hs : slots ≤ 7293034) {x4 : Int32}
    (hl : lv_has ls 9 ((6, .int v) :: (5, .int kx) :: lvL b bb x4)) (ht : fX8_thrown M = kx) (hv : kx = 0 → M 133 0 = if v = 0 then 0 else 1)
    (d0 : decode cL_law pc = .ok (.aload_n 2, 1)) (d1 : decode cL_law (pc + 1) = .ok (.invokevirtual 141, 3)) (d2 : decode cL_law (pc + 4) = .ok (.iload 5, 2)) (d3 : decode cL_law (pc + 6) = .ok (.if_icmp .eq 5, 3)) (d4 : decode cL_law (pc + 11) = .ok (.iload 5, 2)) (d5 : decode cL_law (pc + 13) = .ok (.ifCond .ne 22, 3))
    (d6 : decode cL_law (pc + 16) = .ok (.aload_n 3, 1)) (d7 : decode cL_law (pc + 17) = .ok (.iconst 0, 1)) (d8 : decode cL_law (pc + 18) = .ok (.laload, 1)) (d9 : decode cL_law (pc + 19) = .ok (.iload 6, 2)) (d10 : decode cL_law (pc + 21) = .ok (.ifCond .eq 7, 3)) (d10a : decode cL_law (pc + 24) = .ok (.lconst 1, 1)) (d10b : decode cL_law (pc + 25) = .ok (.goto 4, 3)) (d10c : decode cL_law (pc + 28) = .ok (.lconst 0, 1)) (d11 : decode cL_law (pc + 29) = .ok (.lcmp, 1)) (d12 : decode cL_law (pc + 30) = .ok (.ifCond .eq 5, 3)) {off : Int} (d13 : decode cL_law (pc + 35) = .ok (.goto off, 3)) (hoff : ((pc + 35 : Nat) : Int) + off = ((2726 : Nat) : Int))
    (kk : ∀ (H1 : Heap) (locs1 : List Loc) (ls1 : Array Slot), va_P D vwCl (wL cy bb fT M 134) H1 → va_S (fr bb) s.heap H1 locs1 → lv_has ls1 9 (lvL b bb x4) → W p l e room_1 s m args below meth c H1 locs1 cells slots Q (F0 m 2726 ls1 rest)) (hrest : (rest.map fun v => v.category).sum ≤ 7) : W p l e room_1 s m args below meth c H locs cells slots Q (F0 m pc ls rest) := by
  obtain ⟨hx, hb, hml, hts, hown, hK, hX, hXs, hbl, hbb, hst, hL⟩ := hW
  refine lv_aload_n hx hb d0 rfl (lv_at hl 4 rfl) ?_
  refine xc_i (va_runV (As := []) (rest := rest) ⟨hx, hb, hml, hown, hts⟩ (c_X8_thrown l D cy bb 134 (by decide) M) (cwV 0 hts gL_law_X8_thrown rfl rfl rfl (by decide +kernel) ⟨Nat.le_of_ble_eq_true rfl, Nat.le_of_ble_eq_true rfl⟩) (xPreV hP hK hX hS (by decide) (cell8 (by decide)) rfl) rfl rfl hl.1 rfl (lv_room (by omega)) d1 ⟨hc, hs⟩) hS (fun H locs hP hS => ?_)
  refine lv_iload hx hb d2 (lv_at hl 1 rfl) ?_
  have hend : W p l e room_1 s m args below meth c H locs cells slots Q (F0 m (pc + 35) ls rest) := lv_goto (tgt := 2726) hx hb d13 hoff (kk H locs ls hP hS (lv_sub hl [2, 3, 4, 5, 6] rfl))
  refine lv_icmp_eq (tgt := pc + 11) hx hb d3 (by omega) (fun _ => ?_) (fun h => absurd ht h)
  refine lv_iload hx hb d4 (lv_at hl 1 rfl) ?_
  refine lv_if_ne (tgt := pc + 35) hx hb d5 (by omega) (fun _ => hend) (fun h => ?_)
  have h0 : kx = 0 := h
  refine lv_aload_n hx hb d6 rfl (lv_at hl 5 rfl) ?_
  refine lv_iconst (v := 0) hx hb d7 (by decide) ?_
  refine xll (o := 133) (j := 0) hx hb hK hP (by decide) (by decide) (ixIn (a := 0) rfl (by decide) (by decide)) rfl d8 ?_
  rw [b01 (hv h0)]
  refine lv_iload hx hb d9 (lv_at hl 0 rfl) ?_
  refine lv_if_eq (tgt := pc + 28) hx hb d10 (by omega) (fun hz => ?_) (fun hz => ?_)
  · rw [if_pos hz]
    refine lv_lconst (v := 0) hx hb d10c (by decide) ?_
    refine W.lcmp hx hb d11 ?_
    exact lv_if_eq (tgt := pc + 35) hx hb d12 (by omega) (fun _ => hend) (fun h => absurd (by simp [lg_cmp]) h)
  · rw [if_neg hz]
    refine lv_lconst (v := 1) hx hb d10a (by decide) ?_
    refine lv_goto (tgt := pc + 29) hx hb d10b (by omega) ?_
    refine W.lcmp hx hb d11 ?_
    exact lv_if_eq (tgt := pc + 35) hx hb d12 (by omega) (fun _ => hend) (fun h => absurd (by simp [lg_cmp]) h)
end LAWB
