/-! the law's loop -/
theorem and63 (x : Int32) : ∃ j, j < 64 ∧ x &&& 63 = nI j := by
  refine ⟨(x &&& 63).toBitVec.toNat, ?_, ?_⟩
  · rw [Int32.toBitVec_and, BitVec.toNat_and]
    exact Nat.lt_of_le_of_lt Nat.and_le_right (by decide)
  · refine Int32.toBitVec_inj.mp (BitVec.eq_of_toNat_eq ?_)
    have h : (nI (x &&& 63).toBitVec.toNat).toBitVec.toNat = (x &&& 63).toBitVec.toNat % 2 ^ 32 := rfl
    rw [h, Nat.mod_eq_of_lt (BitVec.isLt _)]
section LAWL
variable {p : Program} {l : Launch} {e : Env} {s : State} {m : MethodId} {args : Array Value} {below : List Frame} {meth : Method} {c : Code} {H : Heap} {locs : List Loc} {cells slots : Nat} {Q : State → Prop} {ls : Array Slot} {D : va_G} {cy : Nat → ClassId} {bb b L : Nat} {xs : Nat → Int32} {M : Mem} {k : Nat}
/-- one round -/
theorem law_round (hW : LW p l s m args c D cy bb b L xs) (hk : 6 * k + 6 ≤ L) (hc : cells + 2 ≤ 601024) (hs : slots + 12 ≤ 7293034) (hG : G M M) (hP : va_P D vwCl (wL cy bb fT M 134) H) (hS : va_S (fr bb) s.heap H locs) (hl : lv_has ls 9 (lvL b bb (nI (6 * k))))
    (kk : ∀ (M1 : Mem) (H1 : Heap) (locs1 : List Loc) (ls1 : Array Slot), G M1 M1 → va_P D vwCl (wL cy bb fT M1 134) H1 → va_S (fr bb) s.heap H1 locs1 → lv_has ls1 9 (lvL b bb (nI (6 * k))) → W p l e room_1 s m args below meth c H1 locs1 (cells + 2) (slots + 12) Q (F0 m 2726 ls1 [])) : W p l e room_1 s m args below meth c H locs cells slots Q (F0 m 33 ls []) := by
  obtain ⟨hx, hb, hml, hts, hown, hK, hX, hXs, hbl, hbb, hst, hL⟩ := id hW
  refine lv_aload_n hx hb dL_law_33 rfl (lv_at hl 0 rfl) ?_
  refine lv_iload hx hb dL_law_34 (lv_at hl 4 rfl) ?_
  refine va_sld (A := fr bb) hx hb hXs hbl (by show ¬ bb ≤ b; omega) hS (vp_in_nI (by omega) (by omega)) dL_law_36 ?_
  refine lv_bipush (v := 63) hx hb dL_law_37 (by decide) ?_
  refine lv_iand hx hb dL_law_39 ?_
  obtain ⟨j, hj, ej⟩ := and63 (xs (nI (6 * k)).toNatClampNeg)
  rw [ej]
  rcases Nat.lt_or_ge j 55 with h55 | h55
  · rcases (show j = 0 ∨ j = 1 ∨ j = 2 ∨ j = 3 ∨ j = 4 ∨ j = 5 ∨ j = 6 ∨ j = 7 ∨ j = 8 ∨ j = 9 ∨ j = 10 ∨ j = 11 ∨ j = 12 ∨ j = 13 ∨ j = 14 ∨ j = 15 ∨ j = 16 ∨ j = 17 ∨ j = 18 ∨ j = 19 ∨ j = 20 ∨ j = 21 ∨ j = 22 ∨ j = 23 ∨ j = 24 ∨ j = 25 ∨ j = 26 ∨ j = 27 ∨ j = 28 ∨ j = 29 ∨ j = 30 ∨ j = 31 ∨ j = 32 ∨ j = 33 ∨ j = 34 ∨ j = 35 ∨ j = 36 ∨ j = 37 ∨ j = 38 ∨ j = 39 ∨ j = 40 ∨ j = 41 ∨ j = 42 ∨ j = 43 ∨ j = 44 ∨ j = 45 ∨ j = 46 ∨ j = 47 ∨ j = 48 ∨ j = 49 ∨ j = 50 ∨ j = 51 ∨ j = 52 ∨ j = 53 ∨ j = 54 by omega) with rfl | rfl | rfl | rfl | rfl | rfl | rfl | rfl | rfl | rfl | rfl | rfl | rfl | rfl | rfl | rfl | rfl | rfl | rfl | rfl | rfl | rfl | rfl | rfl | rfl | rfl | rfl | rfl | rfl | rfl | rfl | rfl | rfl | rfl | rfl | rfl | rfl | rfl | rfl | rfl | rfl | rfl | rfl | rfl | rfl | rfl | rfl | rfl | rfl | rfl | rfl | rfl | rfl | rfl | rfl
    · exact lv_tableIn (off := 236) (tgt := 276) hx hb dL_law_40 (by decide +kernel) (by decide +kernel) (by decide +kernel) (by decide) (law_0 hW hk hc hs hG hP hS hl kk)
    · exact lv_tableIn (off := 340) (tgt := 380) hx hb dL_law_40 (by decide +kernel) (by decide +kernel) (by decide +kernel) (by decide) (law_1 hW hk hc hs hG hP hS hl kk)
    · exact lv_tableIn (off := 396) (tgt := 436) hx hb dL_law_40 (by decide +kernel) (by decide +kernel) (by decide +kernel) (by decide) (law_2 hW hk hc hs hG hP hS hl kk)
    · exact lv_tableIn (off := 409) (tgt := 449) hx hb dL_law_40 (by decide +kernel) (by decide +kernel) (by decide +kernel) (by decide) (law_3 hW hk hc hs hG hP hS hl kk)
    · exact lv_tableIn (off := 422) (tgt := 462) hx hb dL_law_40 (by decide +kernel) (by decide +kernel) (by decide +kernel) (by decide) (law_4 hW hk hc hs hG hP hS hl kk)
    · exact lv_tableIn (off := 435) (tgt := 475) hx hb dL_law_40 (by decide +kernel) (by decide +kernel) (by decide +kernel) (by decide) (law_5 hW hk hc hs hG hP hS hl kk)
    · exact lv_tableIn (off := 448) (tgt := 488) hx hb dL_law_40 (by decide +kernel) (by decide +kernel) (by decide +kernel) (by decide) (law_6 hW hk hc hs hG hP hS hl kk)
    · exact lv_tableIn (off := 461) (tgt := 501) hx hb dL_law_40 (by decide +kernel) (by decide +kernel) (by decide +kernel) (by decide) (law_7 hW hk hc hs hG hP hS hl kk)
    · exact lv_tableIn (off := 474) (tgt := 514) hx hb dL_law_40 (by decide +kernel) (by decide +kernel) (by decide +kernel) (by decide) (law_8 hW hk hc hs hG hP hS hl kk)
    · exact lv_tableIn (off := 487) (tgt := 527) hx hb dL_law_40 (by decide +kernel) (by decide +kernel) (by decide +kernel) (by decide) (law_9 hW hk hc hs hG hP hS hl kk)
    · exact lv_tableIn (off := 543) (tgt := 583) hx hb dL_law_40 (by decide +kernel) (by decide +kernel) (by decide +kernel) (by decide) (law_10 hW hk hc hs hG hP hS hl kk)
    · exact lv_tableIn (off := 556) (tgt := 596) hx hb dL_law_40 (by decide +kernel) (by decide +kernel) (by decide +kernel) (by decide) (law_11 hW hk hc hs hG hP hS hl kk)
    · exact lv_tableIn (off := 619) (tgt := 659) hx hb dL_law_40 (by decide +kernel) (by decide +kernel) (by decide +kernel) (by decide) (law_12 hW hk hc hs hG hP hS hl kk)
    · exact lv_tableIn (off := 675) (tgt := 715) hx hb dL_law_40 (by decide +kernel) (by decide +kernel) (by decide +kernel) (by decide) (law_13 hW hk hc hs hG hP hS hl kk)
    · exact lv_tableIn (off := 731) (tgt := 771) hx hb dL_law_40 (by decide +kernel) (by decide +kernel) (by decide +kernel) (by decide) (law_14 hW hk hc hs hG hP hS hl kk)
    · exact lv_tableIn (off := 787) (tgt := 827) hx hb dL_law_40 (by decide +kernel) (by decide +kernel) (by decide +kernel) (by decide) (law_15 hW hk hc hs hG hP hS hl kk)
    · exact lv_tableIn (off := 843) (tgt := 883) hx hb dL_law_40 (by decide +kernel) (by decide +kernel) (by decide +kernel) (by decide) (law_16 hW hk hc hs hG hP hS hl kk)
    · exact lv_tableIn (off := 899) (tgt := 939) hx hb dL_law_40 (by decide +kernel) (by decide +kernel) (by decide +kernel) (by decide) (law_17 hW hk hc hs hG hP hS hl kk)
    · exact lv_tableIn (off := 955) (tgt := 995) hx hb dL_law_40 (by decide +kernel) (by decide +kernel) (by decide +kernel) (by decide) (law_18 hW hk hc hs hG hP hS hl kk)
    · exact lv_tableIn (off := 1011) (tgt := 1051) hx hb dL_law_40 (by decide +kernel) (by decide +kernel) (by decide +kernel) (by decide) (law_19 hW hk hc hs hG hP hS hl kk)
    · exact lv_tableIn (off := 1067) (tgt := 1107) hx hb dL_law_40 (by decide +kernel) (by decide +kernel) (by decide +kernel) (by decide) (law_20 hW hk hc hs hG hP hS hl kk)
    · exact lv_tableIn (off := 1123) (tgt := 1163) hx hb dL_law_40 (by decide +kernel) (by decide +kernel) (by decide +kernel) (by decide) (law_21 hW hk hc hs hG hP hS hl kk)
    · exact lv_tableIn (off := 1179) (tgt := 1219) hx hb dL_law_40 (by decide +kernel) (by decide +kernel) (by decide +kernel) (by decide) (law_22 hW hk hc hs hG hP hS hl kk)
    · exact lv_tableIn (off := 1235) (tgt := 1275) hx hb dL_law_40 (by decide +kernel) (by decide +kernel) (by decide +kernel) (by decide) (law_23 hW hk hc hs hG hP hS hl kk)
    · exact lv_tableIn (off := 1291) (tgt := 1331) hx hb dL_law_40 (by decide +kernel) (by decide +kernel) (by decide +kernel) (by decide) (law_24 hW hk hc hs hG hP hS hl kk)
    · exact lv_tableIn (off := 1354) (tgt := 1394) hx hb dL_law_40 (by decide +kernel) (by decide +kernel) (by decide +kernel) (by decide) (law_25 hW hk hc hs hG hP hS hl kk)
    · exact lv_tableIn (off := 1410) (tgt := 1450) hx hb dL_law_40 (by decide +kernel) (by decide +kernel) (by decide +kernel) (by decide) (law_26 hW hk hc hs hG hP hS hl kk)
    · exact lv_tableIn (off := 1466) (tgt := 1506) hx hb dL_law_40 (by decide +kernel) (by decide +kernel) (by decide +kernel) (by decide) (law_27 hW hk hc hs hG hP hS hl kk)
    · exact lv_tableIn (off := 1522) (tgt := 1562) hx hb dL_law_40 (by decide +kernel) (by decide +kernel) (by decide +kernel) (by decide) (law_28 hW hk hc hs hG hP hS hl kk)
    · exact lv_tableIn (off := 1535) (tgt := 1575) hx hb dL_law_40 (by decide +kernel) (by decide +kernel) (by decide +kernel) (by decide) (law_29 hW hk hc hs hG hP hS hl kk)
    · exact lv_tableIn (off := 1548) (tgt := 1588) hx hb dL_law_40 (by decide +kernel) (by decide +kernel) (by decide +kernel) (by decide) (law_30 hW hk hc hs hG hP hS hl kk)
    · exact lv_tableIn (off := 1561) (tgt := 1601) hx hb dL_law_40 (by decide +kernel) (by decide +kernel) (by decide +kernel) (by decide) (law_31 hW hk hc hs hG hP hS hl kk)
    · exact lv_tableIn (off := 1574) (tgt := 1614) hx hb dL_law_40 (by decide +kernel) (by decide +kernel) (by decide +kernel) (by decide) (law_32 hW hk hc hs hG hP hS hl kk)
    · exact lv_tableIn (off := 1587) (tgt := 1627) hx hb dL_law_40 (by decide +kernel) (by decide +kernel) (by decide +kernel) (by decide) (law_33 hW hk hc hs hG hP hS hl kk)
    · exact lv_tableIn (off := 1600) (tgt := 1640) hx hb dL_law_40 (by decide +kernel) (by decide +kernel) (by decide +kernel) (by decide) (law_34 hW hk hc hs hG hP hS hl kk)
    · exact lv_tableIn (off := 1668) (tgt := 1708) hx hb dL_law_40 (by decide +kernel) (by decide +kernel) (by decide +kernel) (by decide) (law_35 hW hk hc hs hG hP hS hl kk)
    · exact lv_tableIn (off := 1724) (tgt := 1764) hx hb dL_law_40 (by decide +kernel) (by decide +kernel) (by decide +kernel) (by decide) (law_36 hW hk hc hs hG hP hS hl kk)
    · exact lv_tableIn (off := 1737) (tgt := 1777) hx hb dL_law_40 (by decide +kernel) (by decide +kernel) (by decide +kernel) (by decide) (law_37 hW hk hc hs hG hP hS hl kk)
    · exact lv_tableIn (off := 1778) (tgt := 1818) hx hb dL_law_40 (by decide +kernel) (by decide +kernel) (by decide +kernel) (by decide) (law_38 hW hk hc hs hG hP hS hl kk)
    · exact lv_tableIn (off := 1821) (tgt := 1861) hx hb dL_law_40 (by decide +kernel) (by decide +kernel) (by decide +kernel) (by decide) (law_39 hW hk hc hs hG hP hS hl kk)
    · exact lv_tableIn (off := 1877) (tgt := 1917) hx hb dL_law_40 (by decide +kernel) (by decide +kernel) (by decide +kernel) (by decide) (law_40 hW hk hc hs hG hP hS hl kk)
    · exact lv_tableIn (off := 1933) (tgt := 1973) hx hb dL_law_40 (by decide +kernel) (by decide +kernel) (by decide +kernel) (by decide) (law_41 hW hk hc hs hG hP hS hl kk)
    · exact lv_tableIn (off := 1989) (tgt := 2029) hx hb dL_law_40 (by decide +kernel) (by decide +kernel) (by decide +kernel) (by decide) (law_42 hW hk hc hs hG hP hS hl kk)
    · exact lv_tableIn (off := 2045) (tgt := 2085) hx hb dL_law_40 (by decide +kernel) (by decide +kernel) (by decide +kernel) (by decide) (law_43 hW hk hc hs hG hP hS hl kk)
    · exact lv_tableIn (off := 2113) (tgt := 2153) hx hb dL_law_40 (by decide +kernel) (by decide +kernel) (by decide +kernel) (by decide) (law_44 hW hk hc hs hG hP hS hl kk)
    · exact lv_tableIn (off := 2169) (tgt := 2209) hx hb dL_law_40 (by decide +kernel) (by decide +kernel) (by decide +kernel) (by decide) (law_45 hW hk hc hs hG hP hS hl kk)
    · exact lv_tableIn (off := 2225) (tgt := 2265) hx hb dL_law_40 (by decide +kernel) (by decide +kernel) (by decide +kernel) (by decide) (law_46 hW hk hc hs hG hP hS hl kk)
    · exact lv_tableIn (off := 2281) (tgt := 2321) hx hb dL_law_40 (by decide +kernel) (by decide +kernel) (by decide +kernel) (by decide) (law_47 hW hk hc hs hG hP hS hl kk)
    · exact lv_tableIn (off := 2337) (tgt := 2377) hx hb dL_law_40 (by decide +kernel) (by decide +kernel) (by decide +kernel) (by decide) (law_48 hW hk hc hs hG hP hS hl kk)
    · exact lv_tableIn (off := 2405) (tgt := 2445) hx hb dL_law_40 (by decide +kernel) (by decide +kernel) (by decide +kernel) (by decide) (law_49 hW hk hc hs hG hP hS hl kk)
    · exact lv_tableIn (off := 2461) (tgt := 2501) hx hb dL_law_40 (by decide +kernel) (by decide +kernel) (by decide +kernel) (by decide) (law_50 hW hk hc hs hG hP hS hl kk)
    · exact lv_tableIn (off := 2505) (tgt := 2545) hx hb dL_law_40 (by decide +kernel) (by decide +kernel) (by decide +kernel) (by decide) (law_51 hW hk hc hs hG hP hS hl kk)
    · exact lv_tableIn (off := 2561) (tgt := 2601) hx hb dL_law_40 (by decide +kernel) (by decide +kernel) (by decide +kernel) (by decide) (law_52 hW hk hc hs hG hP hS hl kk)
    · exact lv_tableIn (off := 2617) (tgt := 2657) hx hb dL_law_40 (by decide +kernel) (by decide +kernel) (by decide +kernel) (by decide) (law_53 hW hk hc hs hG hP hS hl kk)
    · exact lv_tableIn (off := 2630) (tgt := 2670) hx hb dL_law_40 (by decide +kernel) (by decide +kernel) (by decide +kernel) (by decide) (law_54 hW hk hc hs hG hP hS hl kk)
  · refine lv_tableOut (tgt := 2726) hx hb dL_law_40 (Or.inr ?_) (by decide) ?_
    · rw [nI_toInt (by omega)]
      omega
    · refine W.widen (k := cells + 2) (n := slots + 12) (by omega) (by omega) ?_
      exact kk M H locs ls hG hP hS hl
theorem law_loop (hW : LW p l s m args c D cy bb b L xs) (kend : ∀ (k : Nat) (H : Heap) (locs : List Loc) (ls : Array Slot), k ≤ 512 → va_S (fr bb) s.heap H locs → W p l e room_1 s m args below meth c H locs (134 + 2 * k) (3165 + 12 * k) Q (F0 m 2732 ls [])) :
    ∀ (n k : Nat), 6 * k ≤ L → L ≤ 6 * k + 6 * n → ∀ (M : Mem) (H : Heap) (locs : List Loc) (ls : Array Slot), G M M → va_P D vwCl (wL cy bb fT M 134) H → va_S (fr bb) s.heap H locs → lv_has ls 9 (lvL b bb (nI (6 * k))) → W p l e room_1 s m args below meth c H locs (134 + 2 * k) (3165 + 12 * k) Q (F0 m 23 ls []) := by
  obtain ⟨hx, hb, hml, hts, hown, hK, hX, hXs, hbl, hbb, hst, hL⟩ := id hW
  intro n
  induction n with
  | zero =>
    intro k hk hn M H locs ls hG hP hS hl
    refine lv_iload hx hb dL_law_23 (lv_at hl 4 rfl) ?_
    refine lv_aload_n hx hb dL_law_25 rfl (lv_at hl 0 rfl) ?_
    refine va_slen (A := fr bb) hx hb hXs hbl (by show ¬ bb ≤ b; omega) hS dL_law_26 ?_
    refine lv_bipush (v := 6) hx hb dL_law_27 (by decide) ?_
    refine lv_isub hx hb dL_law_29 ?_
    have e1 : (nI L - 6).toInt = (L : Int) - 6 := sm_sub (sm_nI (by omega)) rfl (by omega) (by omega)
    refine lv_icmp_gt (tgt := 2732) hx hb dL_law_30 (by decide) (fun _ => kend k H locs ls (by omega) hS) (fun h => absurd ?_ h)
    show nI L - 6 < nI (6 * k)
    rw [Int32.lt_iff_toInt_lt, e1, sm_nI (by omega)]
    omega
  | succ n ih =>
    intro k hk hn M H locs ls hG hP hS hl
    refine lv_iload hx hb dL_law_23 (lv_at hl 4 rfl) ?_
    refine lv_aload_n hx hb dL_law_25 rfl (lv_at hl 0 rfl) ?_
    refine va_slen (A := fr bb) hx hb hXs hbl (by show ¬ bb ≤ b; omega) hS dL_law_26 ?_
    refine lv_bipush (v := 6) hx hb dL_law_27 (by decide) ?_
    refine lv_isub hx hb dL_law_29 ?_
    have e1 : (nI L - 6).toInt = (L : Int) - 6 := sm_sub (sm_nI (by omega)) rfl (by omega) (by omega)
    refine lv_icmp_gt (tgt := 2732) hx hb dL_law_30 (by decide) (fun _ => kend k H locs ls (by omega) hS) (fun h => ?_)
    have hk6 : 6 * k + 6 ≤ L := by
      have h : ¬ nI L - 6 < nI (6 * k) := h
      rw [Int32.lt_iff_toInt_lt, e1, sm_nI (by omega)] at h
      omega
    refine law_round hW hk6 (by omega) (by omega) hG hP hS hl (fun M1 H1 locs1 ls1 hG1 hP1 hS1 hl1 => ?_)
    refine lv_iinc (v := nI (6 * (k + 1))) (lv' := [(4, .int (nI (6 * (k + 1)))), (0, .ref b), (1, .ref (bb + 0)), (2, .ref (bb + 124)), (3, .ref (bb + 133))]) hx hb dL_law_2726 hl1 (k := 4) rfl ?_ (by decide) rfl (fun ls hl => ?_)
    · show nI (6 * k) + nI 6 = nI (6 * (k + 1))
      rw [nI_add]
      exact congrArg nI (by omega)
    · refine lv_goto (tgt := 23) hx hb dL_law_2729 (by decide) ?_
      exact ih (k + 1) (by omega) (by omega) M1 H1 locs1 ls hG1 hP1 hS1 (lv_sub hl [1, 2, 3, 4, 0] rfl)
end LAWL
