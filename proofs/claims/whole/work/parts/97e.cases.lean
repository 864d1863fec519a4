/-! the cases of the law -/
set_option maxHeartbeats 4000000 in
set_option maxRecDepth 100000 in
theorem law_31 {p : Program} {l : Launch} {e : Env} {s : State} {m : MethodId} {args : Array Value} {below : List Frame} {meth : Method} {c : Code} {H : Heap} {locs : List Loc} {cells slots : Nat} {Q : State → Prop} {ls : Array Slot} {D : va_G} {cy : Nat → ClassId} {bb b L : Nat} {xs : Nat → Int32} {M : Mem} {k : Nat} (hW : LW p l s m args c D cy bb b L xs) (hk : 6 * k + 6 ≤ L) (hc : cells + 2 ≤ 601024) (hs : slots + 12 ≤ 7293034) (hG : G M M) (hP : va_P D vwCl (wL cy bb fT M 134) H) (hS : va_S (fr bb) s.heap H locs) (hl : lv_has ls 9 (lvL b bb (nI (6 * k))))
    (kk : ∀ (M1 : Mem) (H1 : Heap) (locs1 : List Loc) (ls1 : Array Slot), G M1 M1 → va_P D vwCl (wL cy bb fT M1 134) H1 → va_S (fr bb) s.heap H1 locs1 → lv_has ls1 9 (lvL b bb (nI (6 * k))) → W p l e room_1 s m args below meth c H1 locs1 (cells + 2) (slots + 12) Q (F0 m 2726 ls1 [])) : W p l e room_1 s m args below meth c H locs cells slots Q (F0 m 1601 ls []) := by
  obtain ⟨hx, hb, hml, hts, hown, hK, hX, hXs, hbl, hbb, hst, hL⟩ := id hW
  refine lv_aload_n hx hb dL_law_1601 rfl (lv_at hl 1 rfl) ?_
  refine xc_i (va_runV (As := []) (rest := []) ⟨hx, hb, hml, hown, hts⟩ (c_X7_slackestInstrument l D cy bb 134 (by decide) M (g_cnt hG)) (cwV 0 hts gL_law_X7_slackestInstrument rfl rfl rfl (by decide +kernel) ⟨Nat.le_of_ble_eq_true rfl, Nat.le_of_ble_eq_true rfl⟩) (xPreV hP hK hX hS (by decide) (cell7 (by decide)) rfl) rfl rfl hl.1 rfl (lv_room (Nat.le_of_ble_eq_true rfl)) dL_law_1602 ⟨by show cells + _ ≤ 601024; omega, by show slots + _ ≤ 7293034; omega⟩) hS (fun H locs hP hS => ?_)
  have hG1 : G M M := hG
  have r1 : RES M M M (gX8_slackestInstrument M) [] 0 (fX7_slackestInstrument M) (fX8_slackestInstrument M) := rel_slackestInstrument hG1
  refine lv_aload_n hx hb dL_law_1605 rfl (lv_at hl 2 rfl) ?_
  refine xc_i (va_runV (As := []) (rest := [.int (fX7_slackestInstrument M)]) ⟨hx, hb, hml, hown, hts⟩ (c_X8_slackestInstrument l D cy bb 134 (by decide) M (g_mny hG1)) (cwV 0 hts gL_law_X8_slackestInstrument rfl rfl rfl (by decide +kernel) ⟨Nat.le_of_ble_eq_true rfl, Nat.le_of_ble_eq_true rfl⟩) (xPreV hP hK hX hS (by decide) (cell8 (by decide)) rfl) rfl rfl hl.1 rfl (lv_room (Nat.le_of_ble_eq_true rfl)) dL_law_1606 ⟨by show cells + _ + _ ≤ 601024; omega, by show slots + _ + _ ≤ 7293034; omega⟩) hS (fun H locs hP hS => ?_)
  obtain ⟨e1, e2⟩ := g_end0 r1
  refine lv_icmp_eq (tgt := 2726) hx hb dL_law_1609 (by decide) (fun _ => ?_) (fun h => absurd e2 h)
  refine W.widen (k := cells + 2) (n := slots + 12) (by omega) (by omega) ?_
  exact kk _ H locs ls e1 hP hS hl
set_option maxHeartbeats 4000000 in
set_option maxRecDepth 100000 in
theorem law_32 {p : Program} {l : Launch} {e : Env} {s : State} {m : MethodId} {args : Array Value} {below : List Frame} {meth : Method} {c : Code} {H : Heap} {locs : List Loc} {cells slots : Nat} {Q : State → Prop} {ls : Array Slot} {D : va_G} {cy : Nat → ClassId} {bb b L : Nat} {xs : Nat → Int32} {M : Mem} {k : Nat} (hW : LW p l s m args c D cy bb b L xs) (hk : 6 * k + 6 ≤ L) (hc : cells + 2 ≤ 601024) (hs : slots + 12 ≤ 7293034) (hG : G M M) (hP : va_P D vwCl (wL cy bb fT M 134) H) (hS : va_S (fr bb) s.heap H locs) (hl : lv_has ls 9 (lvL b bb (nI (6 * k))))
    (kk : ∀ (M1 : Mem) (H1 : Heap) (locs1 : List Loc) (ls1 : Array Slot), G M1 M1 → va_P D vwCl (wL cy bb fT M1 134) H1 → va_S (fr bb) s.heap H1 locs1 → lv_has ls1 9 (lvL b bb (nI (6 * k))) → W p l e room_1 s m args below meth c H1 locs1 (cells + 2) (slots + 12) Q (F0 m 2726 ls1 [])) : W p l e room_1 s m args below meth c H locs cells slots Q (F0 m 1614 ls []) := by
  obtain ⟨hx, hb, hml, hts, hown, hK, hX, hXs, hbl, hbb, hst, hL⟩ := id hW
  refine lv_aload_n hx hb dL_law_1614 rfl (lv_at hl 1 rfl) ?_
  refine xc_i (va_runV (As := []) (rest := []) ⟨hx, hb, hml, hown, hts⟩ (c_X7_disagreements l D cy bb 134 (by decide) M (g_cnt hG)) (cwV 0 hts gL_law_X7_disagreements rfl rfl rfl (by decide +kernel) ⟨Nat.le_of_ble_eq_true rfl, Nat.le_of_ble_eq_true rfl⟩) (xPreV hP hK hX hS (by decide) (cell7 (by decide)) rfl) rfl rfl hl.1 rfl (lv_room (Nat.le_of_ble_eq_true rfl)) dL_law_1615 ⟨by show cells + _ ≤ 601024; omega, by show slots + _ ≤ 7293034; omega⟩) hS (fun H locs hP hS => ?_)
  have hG1 : G M M := hG
  have r1 : RES M M M (gX8_disagreements M) [] 0 (fX7_disagreements M) (fX8_disagreements M) := rel_disagreements hG1
  refine lv_aload_n hx hb dL_law_1618 rfl (lv_at hl 2 rfl) ?_
  refine xc_i (va_runV (As := []) (rest := [.int (fX7_disagreements M)]) ⟨hx, hb, hml, hown, hts⟩ (c_X8_disagreements l D cy bb 134 (by decide) M (g_mny hG1) (g_bxs hG1) (g_tmp hG1)) (cwV 0 hts gL_law_X8_disagreements rfl rfl rfl (by decide +kernel) ⟨Nat.le_of_ble_eq_true rfl, Nat.le_of_ble_eq_true rfl⟩) (xPreV hP hK hX hS (by decide) (cell8 (by decide)) rfl) rfl rfl hl.1 rfl (lv_room (Nat.le_of_ble_eq_true rfl)) dL_law_1619 ⟨by show cells + _ + _ ≤ 601024; omega, by show slots + _ + _ ≤ 7293034; omega⟩) hS (fun H locs hP hS => ?_)
  obtain ⟨e1, e2⟩ := g_end0 r1
  refine lv_icmp_eq (tgt := 2726) hx hb dL_law_1622 (by decide) (fun _ => ?_) (fun h => absurd e2 h)
  refine W.widen (k := cells + 2) (n := slots + 12) (by omega) (by omega) ?_
  exact kk _ H locs ls e1 hP hS hl
set_option maxHeartbeats 4000000 in
set_option maxRecDepth 100000 in
theorem law_33 {p : Program} {l : Launch} {e : Env} {s : State} {m : MethodId} {args : Array Value} {below : List Frame} {meth : Method} {c : Code} {H : Heap} {locs : List Loc} {cells slots : Nat} {Q : State → Prop} {ls : Array Slot} {D : va_G} {cy : Nat → ClassId} {bb b L : Nat} {xs : Nat → Int32} {M : Mem} {k : Nat} (hW : LW p l s m args c D cy bb b L xs) (hk : 6 * k + 6 ≤ L) (hc : cells + 2 ≤ 601024) (hs : slots + 12 ≤ 7293034) (hG : G M M) (hP : va_P D vwCl (wL cy bb fT M 134) H) (hS : va_S (fr bb) s.heap H locs) (hl : lv_has ls 9 (lvL b bb (nI (6 * k))))
    (kk : ∀ (M1 : Mem) (H1 : Heap) (locs1 : List Loc) (ls1 : Array Slot), G M1 M1 → va_P D vwCl (wL cy bb fT M1 134) H1 → va_S (fr bb) s.heap H1 locs1 → lv_has ls1 9 (lvL b bb (nI (6 * k))) → W p l e room_1 s m args below meth c H1 locs1 (cells + 2) (slots + 12) Q (F0 m 2726 ls1 [])) : W p l e room_1 s m args below meth c H locs cells slots Q (F0 m 1627 ls []) := by
  obtain ⟨hx, hb, hml, hts, hown, hK, hX, hXs, hbl, hbb, hst, hL⟩ := id hW
  refine lv_aload_n hx hb dL_law_1627 rfl (lv_at hl 1 rfl) ?_
  refine xc_i (va_runV (As := []) (rest := []) ⟨hx, hb, hml, hown, hts⟩ (c_X7_spread l D cy bb 134 (by decide) M (g_cnt hG)) (cwV 0 hts gL_law_X7_spread rfl rfl rfl (by decide +kernel) ⟨Nat.le_of_ble_eq_true rfl, Nat.le_of_ble_eq_true rfl⟩) (xPreV hP hK hX hS (by decide) (cell7 (by decide)) rfl) rfl rfl hl.1 rfl (lv_room (Nat.le_of_ble_eq_true rfl)) dL_law_1628 ⟨by show cells + _ ≤ 601024; omega, by show slots + _ ≤ 7293034; omega⟩) hS (fun H locs hP hS => ?_)
  have hG1 : G M M := hG
  have r1 : RES M M M (gX8_spread M) [] 0 (fX7_spread M) (fX8_spread M) := rel_spread hG1
  refine lv_aload_n hx hb dL_law_1631 rfl (lv_at hl 2 rfl) ?_
  refine xc_i (va_runV (As := []) (rest := [.int (fX7_spread M)]) ⟨hx, hb, hml, hown, hts⟩ (c_X8_spread l D cy bb 134 (by decide) M (g_mny hG1) (g_bxs hG1) (g_tmp hG1)) (cwV 0 hts gL_law_X8_spread rfl rfl rfl (by decide +kernel) ⟨Nat.le_of_ble_eq_true rfl, Nat.le_of_ble_eq_true rfl⟩) (xPreV hP hK hX hS (by decide) (cell8 (by decide)) rfl) rfl rfl hl.1 rfl (lv_room (Nat.le_of_ble_eq_true rfl)) dL_law_1632 ⟨by show cells + _ + _ ≤ 601024; omega, by show slots + _ + _ ≤ 7293034; omega⟩) hS (fun H locs hP hS => ?_)
  obtain ⟨e1, e2⟩ := g_end0 r1
  refine lv_icmp_eq (tgt := 2726) hx hb dL_law_1635 (by decide) (fun _ => ?_) (fun h => absurd e2 h)
  refine W.widen (k := cells + 2) (n := slots + 12) (by omega) (by omega) ?_
  exact kk _ H locs ls e1 hP hS hl
set_option maxHeartbeats 4000000 in
set_option maxRecDepth 100000 in
theorem law_34 {p : Program} {l : Launch} {e : Env} {s : State} {m : MethodId} {args : Array Value} {below : List Frame} {meth : Method} {c : Code} {H : Heap} {locs : List Loc} {cells slots : Nat} {Q : State → Prop} {ls : Array Slot} {D : va_G} {cy : Nat → ClassId} {bb b L : Nat} {xs : Nat → Int32} {M : Mem} {k : Nat} (hW : LW p l s m args c D cy bb b L xs) (hk : 6 * k + 6 ≤ L) (hc : cells + 2 ≤ 601024) (hs : slots + 12 ≤ 7293034) (hG : G M M) (hP : va_P D vwCl (wL cy bb fT M 134) H) (hS : va_S (fr bb) s.heap H locs) (hl : lv_has ls 9 (lvL b bb (nI (6 * k))))
    (kk : ∀ (M1 : Mem) (H1 : Heap) (locs1 : List Loc) (ls1 : Array Slot), G M1 M1 → va_P D vwCl (wL cy bb fT M1 134) H1 → va_S (fr bb) s.heap H1 locs1 → lv_has ls1 9 (lvL b bb (nI (6 * k))) → W p l e room_1 s m args below meth c H1 locs1 (cells + 2) (slots + 12) Q (F0 m 2726 ls1 [])) : W p l e room_1 s m args below meth c H locs cells slots Q (F0 m 1640 ls []) := by
  obtain ⟨hx, hb, hml, hts, hown, hK, hX, hXs, hbl, hbb, hst, hL⟩ := id hW
  refine lv_aload_n hx hb dL_law_1640 rfl (lv_at hl 1 rfl) ?_
  refine law_arg 1 hW hk (by decide) hS (lv_at hl 0 rfl) (lv_at hl 4 rfl) dL_law_1641 dL_law_1642 dL_law_1644 rfl dL_law_1645 dL_law_1646 ?_
  refine law_arg 2 hW hk (by decide) hS (lv_at hl 0 rfl) (lv_at hl 4 rfl) dL_law_1647 dL_law_1648 dL_law_1650 rfl dL_law_1651 dL_law_1652 ?_
  refine lv_aload_n hx hb dL_law_1653 rfl (lv_at hl 3 rfl) ?_
  refine xc_i (vx_runSW (As := [.ref (bb + 0), .int (xs (6 * k + 1)), .int (xs (6 * k + 2)), .ref (bb + 133)]) (rest := []) ⟨hx, hb, hml, hown, hts⟩ (c_L_readingAfter l hst D cy bb 134 (by decide) M (xs (6 * k + 1)) (xs (6 * k + 2)) (g_cnt hG)) (vx_cwSW 4 hts gL_law_L_readingAfter rfl rfl rfl (by decide +kernel) ⟨Nat.le_of_ble_eq_true rfl, Nat.le_of_ble_eq_true rfl⟩) (xPreS hP hK hX hS) rfl rfl hl.1 rfl (lv_room (Nat.le_of_ble_eq_true rfl)) dL_law_1654 ⟨by show cells + _ ≤ 601024; omega, by show slots + _ ≤ 7293034; omega⟩) hS (fun H locs hP hS => ?_)
  have r0 := rel_readingAfter hG (xs (6 * k + 1)) (xs (6 * k + 2))
  obtain ⟨M1, hM1⟩ : ∃ z, z = gL_readingAfter M (xs (6 * k + 1)) (xs (6 * k + 2)) := ⟨_, rfl⟩
  rw [← hM1] at hP
  have hm : M1 = if tX7_readingAfter M (xs (6 * k + 1)) (xs (6 * k + 2)) = 0 then mU (gX7_readingAfter M (xs (6 * k + 1)) (xs (6 * k + 2))) 133 0 (fX7_readingAfter M (xs (6 * k + 1)) (xs (6 * k + 2))) else (gX7_readingAfter M (xs (6 * k + 1)) (xs (6 * k + 2))) := hM1
  have hG1 := g_mid hG r0 hm
  have r1 := rel_readingAfter hG1 (xs (6 * k + 1)) (xs (6 * k + 2))
  refine lv_istore (lv' := (5, .int (cd [1, 2] (tX7_readingAfter M (xs (6 * k + 1)) (xs (6 * k + 2))))) :: lvL b bb (nI (6 * k))) hx hb dL_law_1657 hl (by decide) rfl (fun ls hl => ?_)
  refine lv_aload_n hx hb dL_law_1659 rfl (lv_at hl 3 rfl) ?_
  refine law_arg 1 hW hk (by decide) hS (lv_at hl 1 rfl) (lv_at hl 5 rfl) dL_law_1660 dL_law_1661 dL_law_1663 rfl dL_law_1664 dL_law_1665 ?_
  refine law_arg 2 hW hk (by decide) hS (lv_at hl 1 rfl) (lv_at hl 5 rfl) dL_law_1666 dL_law_1667 dL_law_1669 rfl dL_law_1670 dL_law_1671 ?_
  refine xc_i (va_runV (As := [.int (xs (6 * k + 1)), .int (xs (6 * k + 2))]) (rest := []) ⟨hx, hb, hml, hown, hts⟩ (c_X8_readingAfter l D cy bb 134 (by decide) M1 (xs (6 * k + 1)) (xs (6 * k + 2)) (g_mny hG1) (g_bxs hG1) (g_tmp hG1)) (cwV 2 hts gL_law_X8_readingAfter rfl rfl rfl (by decide +kernel) ⟨Nat.le_of_ble_eq_true rfl, Nat.le_of_ble_eq_true rfl⟩) (xPreV hP hK hX hS (by decide) (cell8 (by decide)) rfl) rfl rfl hl.1 rfl (lv_room (Nat.le_of_ble_eq_true rfl)) dL_law_1672 ⟨by show cells + _ + _ ≤ 601024; omega, by show slots + _ + _ ≤ 7293034; omega⟩) hS (fun H locs hP hS => ?_)
  obtain ⟨e1, e2, e3⟩ := g_end (by decide) r1 hm
  obtain ⟨M2, hM2⟩ : ∃ z, z = gX8_readingAfter M1 (xs (6 * k + 1)) (xs (6 * k + 2)) := ⟨_, rfl⟩
  rw [← hM2] at hP e1 e2 e3
  refine lv_istore (lv' := (6, .int (fX8_readingAfter M1 (xs (6 * k + 1)) (xs (6 * k + 2)))) :: (5, .int (cd [1, 2] (tX7_readingAfter M (xs (6 * k + 1)) (xs (6 * k + 2))))) :: lvL b bb (nI (6 * k))) hx hb dL_law_1675 hl (by decide) rfl (fun ls hl => ?_)
  refine law_tail hW hP hS (by omega) (by omega) hl e2 (fun h => (e3 h).1.trans (e3 h).2) dL_law_1677 dL_law_1678 dL_law_1681 dL_law_1683 dL_law_1688 dL_law_1690 dL_law_1693 dL_law_1694 dL_law_1695 dL_law_1696 dL_law_1698 dL_law_1699 dL_law_1700 dL_law_1705 (by decide) (fun H locs ls hP hS hl => ?_) (by decide)
  refine W.widen (k := cells + 2) (n := slots + 12) (by omega) (by omega) ?_
  exact kk M2 H locs ls e1 hP hS hl
set_option maxHeartbeats 4000000 in
set_option maxRecDepth 100000 in
theorem law_35 {p : Program} {l : Launch} {e : Env} {s : State} {m : MethodId} {args : Array Value} {below : List Frame} {meth : Method} {c : Code} {H : Heap} {locs : List Loc} {cells slots : Nat} {Q : State → Prop} {ls : Array Slot} {D : va_G} {cy : Nat → ClassId} {bb b L : Nat} {xs : Nat → Int32} {M : Mem} {k : Nat} (hW : LW p l s m args c D cy bb b L xs) (hk : 6 * k + 6 ≤ L) (hc : cells + 2 ≤ 601024) (hs : slots + 12 ≤ 7293034) (hG : G M M) (hP : va_P D vwCl (wL cy bb fT M 134) H) (hS : va_S (fr bb) s.heap H locs) (hl : lv_has ls 9 (lvL b bb (nI (6 * k))))
    (kk : ∀ (M1 : Mem) (H1 : Heap) (locs1 : List Loc) (ls1 : Array Slot), G M1 M1 → va_P D vwCl (wL cy bb fT M1 134) H1 → va_S (fr bb) s.heap H1 locs1 → lv_has ls1 9 (lvL b bb (nI (6 * k))) → W p l e room_1 s m args below meth c H1 locs1 (cells + 2) (slots + 12) Q (F0 m 2726 ls1 [])) : W p l e room_1 s m args below meth c H locs cells slots Q (F0 m 1708 ls []) := by
  obtain ⟨hx, hb, hml, hts, hown, hK, hX, hXs, hbl, hbb, hst, hL⟩ := id hW
  refine lv_aload_n hx hb dL_law_1708 rfl (lv_at hl 1 rfl) ?_
  refine law_arg 1 hW hk (by decide) hS (lv_at hl 0 rfl) (lv_at hl 4 rfl) dL_law_1709 dL_law_1710 dL_law_1712 rfl dL_law_1713 dL_law_1714 ?_
  refine lv_aload_n hx hb dL_law_1715 rfl (lv_at hl 3 rfl) ?_
  refine xc_i (vx_runSW (As := [.ref (bb + 0), .int (xs (6 * k + 1)), .ref (bb + 133)]) (rest := []) ⟨hx, hb, hml, hown, hts⟩ (c_L_minutesUntilStill l hst D cy bb 134 (by decide) M (xs (6 * k + 1)) (g_cnt hG)) (vx_cwSW 3 hts gL_law_L_minutesUntilStill rfl rfl rfl (by decide +kernel) ⟨Nat.le_of_ble_eq_true rfl, Nat.le_of_ble_eq_true rfl⟩) (xPreS hP hK hX hS) rfl rfl hl.1 rfl (lv_room (Nat.le_of_ble_eq_true rfl)) dL_law_1716 ⟨by show cells + _ ≤ 601024; omega, by show slots + _ ≤ 7293034; omega⟩) hS (fun H locs hP hS => ?_)
  have r0 := rel_minutesUntilStill hG (xs (6 * k + 1))
  obtain ⟨M1, hM1⟩ : ∃ z, z = gL_minutesUntilStill M (xs (6 * k + 1)) := ⟨_, rfl⟩
  rw [← hM1] at hP
  have hm : M1 = if tX7_minutesUntilStill M (xs (6 * k + 1)) = 0 then mU (gX7_minutesUntilStill M (xs (6 * k + 1))) 133 0 (fX7_minutesUntilStill M (xs (6 * k + 1))) else (gX7_minutesUntilStill M (xs (6 * k + 1))) := hM1
  have hG1 := g_mid hG r0 hm
  have r1 := rel_minutesUntilStill hG1 (xs (6 * k + 1))
  refine lv_istore (lv' := (5, .int (cd [1] (tX7_minutesUntilStill M (xs (6 * k + 1))))) :: lvL b bb (nI (6 * k))) hx hb dL_law_1719 hl (by decide) rfl (fun ls hl => ?_)
  refine lv_aload_n hx hb dL_law_1721 rfl (lv_at hl 3 rfl) ?_
  refine law_arg 1 hW hk (by decide) hS (lv_at hl 1 rfl) (lv_at hl 5 rfl) dL_law_1722 dL_law_1723 dL_law_1725 rfl dL_law_1726 dL_law_1727 ?_
  refine xc_i (va_runV (As := [.int (xs (6 * k + 1))]) (rest := []) ⟨hx, hb, hml, hown, hts⟩ (c_X8_minutesUntilStill l D cy bb 134 (by decide) M1 (xs (6 * k + 1)) (g_mny hG1) (g_bxs hG1)) (cwV 1 hts gL_law_X8_minutesUntilStill rfl rfl rfl (by decide +kernel) ⟨Nat.le_of_ble_eq_true rfl, Nat.le_of_ble_eq_true rfl⟩) (xPreV hP hK hX hS (by decide) (cell8 (by decide)) rfl) rfl rfl hl.1 rfl (lv_room (Nat.le_of_ble_eq_true rfl)) dL_law_1728 ⟨by show cells + _ + _ ≤ 601024; omega, by show slots + _ + _ ≤ 7293034; omega⟩) hS (fun H locs hP hS => ?_)
  obtain ⟨e1, e2, e3⟩ := g_end (by decide) r1 hm
  obtain ⟨M2, hM2⟩ : ∃ z, z = gX8_minutesUntilStill M1 (xs (6 * k + 1)) := ⟨_, rfl⟩
  rw [← hM2] at hP e1 e2 e3
  refine lv_istore (lv' := (6, .int (fX8_minutesUntilStill M1 (xs (6 * k + 1)))) :: (5, .int (cd [1] (tX7_minutesUntilStill M (xs (6 * k + 1))))) :: lvL b bb (nI (6 * k))) hx hb dL_law_1731 hl (by decide) rfl (fun ls hl => ?_)
  refine law_tail hW hP hS (by omega) (by omega) hl e2 (fun h => (e3 h).1.trans (e3 h).2) dL_law_1733 dL_law_1734 dL_law_1737 dL_law_1739 dL_law_1744 dL_law_1746 dL_law_1749 dL_law_1750 dL_law_1751 dL_law_1752 dL_law_1754 dL_law_1755 dL_law_1756 dL_law_1761 (by decide) (fun H locs ls hP hS hl => ?_) (by decide)
  refine W.widen (k := cells + 2) (n := slots + 12) (by omega) (by omega) ?_
  exact kk M2 H locs ls e1 hP hS hl
set_option maxHeartbeats 4000000 in
set_option maxRecDepth 100000 in
theorem law_36 {p : Program} {l : Launch} {e : Env} {s : State} {m : MethodId} {args : Array Value} {below : List Frame} {meth : Method} {c : Code} {H : Heap} {locs : List Loc} {cells slots : Nat} {Q : State → Prop} {ls : Array Slot} {D : va_G} {cy : Nat → ClassId} {bb b L : Nat} {xs : Nat → Int32} {M : Mem} {k : Nat} (hW : LW p l s m args c D cy bb b L xs) (hk : 6 * k + 6 ≤ L) (hc : cells + 2 ≤ 601024) (hs : slots + 12 ≤ 7293034) (hG : G M M) (hP : va_P D vwCl (wL cy bb fT M 134) H) (hS : va_S (fr bb) s.heap H locs) (hl : lv_has ls 9 (lvL b bb (nI (6 * k))))
    (kk : ∀ (M1 : Mem) (H1 : Heap) (locs1 : List Loc) (ls1 : Array Slot), G M1 M1 → va_P D vwCl (wL cy bb fT M1 134) H1 → va_S (fr bb) s.heap H1 locs1 → lv_has ls1 9 (lvL b bb (nI (6 * k))) → W p l e room_1 s m args below meth c H1 locs1 (cells + 2) (slots + 12) Q (F0 m 2726 ls1 [])) : W p l e room_1 s m args below meth c H locs cells slots Q (F0 m 1764 ls []) := by
  obtain ⟨hx, hb, hml, hts, hown, hK, hX, hXs, hbl, hbb, hst, hL⟩ := id hW
  refine lv_aload_n hx hb dL_law_1764 rfl (lv_at hl 1 rfl) ?_
  refine xc_i (va_runV (As := []) (rest := []) ⟨hx, hb, hml, hown, hts⟩ (c_X7_hairDifference l D cy bb 134 (by decide) M (g_cnt hG)) (cwV 0 hts gL_law_X7_hairDifference rfl rfl rfl (by decide +kernel) ⟨Nat.le_of_ble_eq_true rfl, Nat.le_of_ble_eq_true rfl⟩) (xPreV hP hK hX hS (by decide) (cell7 (by decide)) rfl) rfl rfl hl.1 rfl (lv_room (Nat.le_of_ble_eq_true rfl)) dL_law_1765 ⟨by show cells + _ ≤ 601024; omega, by show slots + _ ≤ 7293034; omega⟩) hS (fun H locs hP hS => ?_)
  have hG1 : G M M := hG
  have r1 : RES M M M (gX8_hairDifference M) [] 0 (fX7_hairDifference M) (fX8_hairDifference M) := rel_hairDifference hG1
  refine lv_aload_n hx hb dL_law_1768 rfl (lv_at hl 2 rfl) ?_
  refine xc_i (va_runV (As := []) (rest := [.int (fX7_hairDifference M)]) ⟨hx, hb, hml, hown, hts⟩ (c_X8_hairDifference l D cy bb 134 (by decide) M (g_mny hG1)) (cwV 0 hts gL_law_X8_hairDifference rfl rfl rfl (by decide +kernel) ⟨Nat.le_of_ble_eq_true rfl, Nat.le_of_ble_eq_true rfl⟩) (xPreV hP hK hX hS (by decide) (cell8 (by decide)) rfl) rfl rfl hl.1 rfl (lv_room (Nat.le_of_ble_eq_true rfl)) dL_law_1769 ⟨by show cells + _ + _ ≤ 601024; omega, by show slots + _ + _ ≤ 7293034; omega⟩) hS (fun H locs hP hS => ?_)
  obtain ⟨e1, e2⟩ := g_end0 r1
  refine lv_icmp_eq (tgt := 2726) hx hb dL_law_1772 (by decide) (fun _ => ?_) (fun h => absurd e2 h)
  refine W.widen (k := cells + 2) (n := slots + 12) (by omega) (by omega) ?_
  exact kk _ H locs ls e1 hP hS hl
set_option maxHeartbeats 4000000 in
set_option maxRecDepth 100000 in
theorem law_37 {p : Program} {l : Launch} {e : Env} {s : State} {m : MethodId} {args : Array Value} {below : List Frame} {meth : Method} {c : Code} {H : Heap} {locs : List Loc} {cells slots : Nat} {Q : State → Prop} {ls : Array Slot} {D : va_G} {cy : Nat → ClassId} {bb b L : Nat} {xs : Nat → Int32} {M : Mem} {k : Nat} (hW : LW p l s m args c D cy bb b L xs) (hk : 6 * k + 6 ≤ L) (hc : cells + 2 ≤ 601024) (hs : slots + 12 ≤ 7293034) (hG : G M M) (hP : va_P D vwCl (wL cy bb fT M 134) H) (hS : va_S (fr bb) s.heap H locs) (hl : lv_has ls 9 (lvL b bb (nI (6 * k))))
    (kk : ∀ (M1 : Mem) (H1 : Heap) (locs1 : List Loc) (ls1 : Array Slot), G M1 M1 → va_P D vwCl (wL cy bb fT M1 134) H1 → va_S (fr bb) s.heap H1 locs1 → lv_has ls1 9 (lvL b bb (nI (6 * k))) → W p l e room_1 s m args below meth c H1 locs1 (cells + 2) (slots + 12) Q (F0 m 2726 ls1 [])) : W p l e room_1 s m args below meth c H locs cells slots Q (F0 m 1777 ls []) := by
  obtain ⟨hx, hb, hml, hts, hown, hK, hX, hXs, hbl, hbb, hst, hL⟩ := id hW
  refine lv_aload_n hx hb dL_law_1777 rfl (lv_at hl 1 rfl) ?_
  refine xc_d (va_runV (As := []) (rest := []) ⟨hx, hb, hml, hown, hts⟩ (c_X7_meanReading l D cy bb 134 (by decide) M (g_cnt hG) (g_mean hG)) (cwV 0 hts gL_law_X7_meanReading rfl rfl rfl (by decide +kernel) ⟨Nat.le_of_ble_eq_true rfl, Nat.le_of_ble_eq_true rfl⟩) (xPreV hP hK hX hS (by decide) (cell7 (by decide)) rfl) rfl rfl hl.1 rfl (lv_room (Nat.le_of_ble_eq_true rfl)) dL_law_1778 ⟨by show cells + _ ≤ 601024; omega, by show slots + _ ≤ 7293034; omega⟩) hS (fun H locs hP hS => ?_)
  obtain ⟨r1, r2, r3⟩ := rel_meanReading hG
  have e1 : G (gX8_meanReading M) (gX8_meanReading M) := g_both r1 (fun o ho => r3 o ho) (fun _ _ _ => rfl)
  refine lv_dstore (lv' := (5, .double (fX7_meanReading M)) :: lvL b bb (nI (6 * k))) hx hb dL_law_1781 hl (by decide) rfl (fun ls hl => ?_)
  refine lv_aload_n hx hb dL_law_1783 rfl (lv_at hl 3 rfl) ?_
  refine xc_d (va_runV (As := []) (rest := []) ⟨hx, hb, hml, hown, hts⟩ (c_X8_meanReading l D cy bb 134 (by decide) M (g_mny hG) (g_bxs hG) (g_tmp hG) fn64) (cwV 0 hts gL_law_X8_meanReading rfl rfl rfl (by decide +kernel) ⟨Nat.le_of_ble_eq_true rfl, Nat.le_of_ble_eq_true rfl⟩) (xPreV hP hK hX hS (by decide) (cell8 (by decide)) rfl) rfl rfl hl.1 rfl (lv_room (Nat.le_of_ble_eq_true rfl)) dL_law_1784 ⟨by show cells + _ + _ ≤ 601024; omega, by show slots + _ + _ ≤ 7293034; omega⟩) hS (fun H locs hP hS => ?_)
  rw [← r2]
  obtain ⟨v, hv0⟩ : ∃ z, z = (fX7_meanReading M) := ⟨_, rfl⟩
  rw [← hv0] at hl ⊢
  refine lv_dstore (lv' := (7, .double v) :: (5, .double v) :: lvL b bb (nI (6 * k))) hx hb dL_law_1787 hl (by decide) rfl (fun ls hl => ?_)
  obtain ⟨w, hw0⟩ : ∃ z, z = Op.cmpValue (FP.dcmp v v) CmpOp.l := ⟨_, rfl⟩
  have hend : W p l e room_1 s m args below meth c H locs (cells + 0 + 0) (slots + 0 + 0) Q (F0 m 1815 ls []) := by
    refine lv_goto (tgt := 2726) hx hb dL_law_1815 (by decide) ?_
    refine W.widen (k := cells + 2) (n := slots + 12) (by omega) (by omega) ?_
    exact kk _ H locs ls e1 hP hS (lv_sub hl [2, 3, 4, 5, 6] rfl)
  refine lv_dload hx hb dL_law_1789 (lv_at hl 1 rfl) ?_
  refine lv_dload hx hb dL_law_1791 (lv_at hl 0 rfl) ?_
  refine lv_dcmp hx hb dL_law_1793 ?_
  rw [← hw0]
  refine lv_if_eq (tgt := 1815) hx hb dL_law_1794 (by decide) (fun _ => hend) (fun h => ?_)
  refine lv_dload hx hb dL_law_1797 (lv_at hl 1 rfl) ?_
  refine lv_dload hx hb dL_law_1799 (lv_at hl 1 rfl) ?_
  refine lv_dcmp hx hb dL_law_1801 ?_
  rw [← hw0]
  refine lv_if_eq (tgt := 1813) hx hb dL_law_1802 (by decide) (fun h2 => absurd h2 h) (fun _ => ?_)
  refine lv_dload hx hb dL_law_1805 (lv_at hl 0 rfl) ?_
  refine lv_dload hx hb dL_law_1807 (lv_at hl 0 rfl) ?_
  refine lv_dcmp hx hb dL_law_1809 ?_
  rw [← hw0]
  exact lv_if_ne (tgt := 1815) hx hb dL_law_1810 (by decide) (fun _ => hend) (fun h2 => absurd h2 h)
set_option maxHeartbeats 4000000 in
set_option maxRecDepth 100000 in
theorem law_38 {p : Program} {l : Launch} {e : Env} {s : State} {m : MethodId} {args : Array Value} {below : List Frame} {meth : Method} {c : Code} {H : Heap} {locs : List Loc} {cells slots : Nat} {Q : State → Prop} {ls : Array Slot} {D : va_G} {cy : Nat → ClassId} {bb b L : Nat} {xs : Nat → Int32} {M : Mem} {k : Nat} (hW : LW p l s m args c D cy bb b L xs) (hk : 6 * k + 6 ≤ L) (hc : cells + 2 ≤ 601024) (hs : slots + 12 ≤ 7293034) (hG : G M M) (hP : va_P D vwCl (wL cy bb fT M 134) H) (hS : va_S (fr bb) s.heap H locs) (hl : lv_has ls 9 (lvL b bb (nI (6 * k))))
    (kk : ∀ (M1 : Mem) (H1 : Heap) (locs1 : List Loc) (ls1 : Array Slot), G M1 M1 → va_P D vwCl (wL cy bb fT M1 134) H1 → va_S (fr bb) s.heap H1 locs1 → lv_has ls1 9 (lvL b bb (nI (6 * k))) → W p l e room_1 s m args below meth c H1 locs1 (cells + 2) (slots + 12) Q (F0 m 2726 ls1 [])) : W p l e room_1 s m args below meth c H locs cells slots Q (F0 m 1818 ls []) := by
  obtain ⟨hx, hb, hml, hts, hown, hK, hX, hXs, hbl, hbb, hst, hL⟩ := id hW
  refine lv_aload_n hx hb dL_law_1818 rfl (lv_at hl 1 rfl) ?_
  refine xc_f (va_runV (As := []) (rest := []) ⟨hx, hb, hml, hown, hts⟩ (c_X7_usableShare l D cy bb 134 (by decide) M (g_cnt hG) (g_share hG)) (cwV 0 hts gL_law_X7_usableShare rfl rfl rfl (by decide +kernel) ⟨Nat.le_of_ble_eq_true rfl, Nat.le_of_ble_eq_true rfl⟩) (xPreV hP hK hX hS (by decide) (cell7 (by decide)) rfl) rfl rfl hl.1 rfl (lv_room (Nat.le_of_ble_eq_true rfl)) dL_law_1819 ⟨by show cells + _ ≤ 601024; omega, by show slots + _ ≤ 7293034; omega⟩) hS (fun H locs hP hS => ?_)
  obtain ⟨r1, r2, r3⟩ := rel_usableShare hG
  have e1 : G (gX8_usableShare M) (gX8_usableShare M) := g_both r1 (fun o ho => r3 o ho) (fun _ _ _ => rfl)
  refine lv_f2d hx hb dL_law_1822 (g_f2d hG) ?_
  refine lv_dstore (lv' := (5, .double (FP.f2d (fX7_usableShare M))) :: lvL b bb (nI (6 * k))) hx hb dL_law_1823 hl (by decide) rfl (fun ls hl => ?_)
  refine lv_aload_n hx hb dL_law_1825 rfl (lv_at hl 3 rfl) ?_
  refine xc_f (va_runV (As := []) (rest := []) ⟨hx, hb, hml, hown, hts⟩ (c_X8_usableShare l D cy bb 134 (by decide) M (g_mny hG) fn32) (cwV 0 hts gL_law_X8_usableShare rfl rfl rfl (by decide +kernel) ⟨Nat.le_of_ble_eq_true rfl, Nat.le_of_ble_eq_true rfl⟩) (xPreV hP hK hX hS (by decide) (cell8 (by decide)) rfl) rfl rfl hl.1 rfl (lv_room (Nat.le_of_ble_eq_true rfl)) dL_law_1826 ⟨by show cells + _ + _ ≤ 601024; omega, by show slots + _ + _ ≤ 7293034; omega⟩) hS (fun H locs hP hS => ?_)
  rw [← r2]
  refine lv_f2d hx hb dL_law_1829 (g_f2d hG) ?_
  obtain ⟨v, hv0⟩ : ∃ z, z = (FP.f2d (fX7_usableShare M)) := ⟨_, rfl⟩
  rw [← hv0] at hl ⊢
  refine lv_dstore (lv' := (7, .double v) :: (5, .double v) :: lvL b bb (nI (6 * k))) hx hb dL_law_1830 hl (by decide) rfl (fun ls hl => ?_)
  obtain ⟨w, hw0⟩ : ∃ z, z = Op.cmpValue (FP.dcmp v v) CmpOp.l := ⟨_, rfl⟩
  have hend : W p l e room_1 s m args below meth c H locs (cells + 0 + 0) (slots + 0 + 0) Q (F0 m 1858 ls []) := by
    refine lv_goto (tgt := 2726) hx hb dL_law_1858 (by decide) ?_
    refine W.widen (k := cells + 2) (n := slots + 12) (by omega) (by omega) ?_
    exact kk _ H locs ls e1 hP hS (lv_sub hl [2, 3, 4, 5, 6] rfl)
  refine lv_dload hx hb dL_law_1832 (lv_at hl 1 rfl) ?_
  refine lv_dload hx hb dL_law_1834 (lv_at hl 0 rfl) ?_
  refine lv_dcmp hx hb dL_law_1836 ?_
  rw [← hw0]
  refine lv_if_eq (tgt := 1858) hx hb dL_law_1837 (by decide) (fun _ => hend) (fun h => ?_)
  refine lv_dload hx hb dL_law_1840 (lv_at hl 1 rfl) ?_
  refine lv_dload hx hb dL_law_1842 (lv_at hl 1 rfl) ?_
  refine lv_dcmp hx hb dL_law_1844 ?_
  rw [← hw0]
  refine lv_if_eq (tgt := 1856) hx hb dL_law_1845 (by decide) (fun h2 => absurd h2 h) (fun _ => ?_)
  refine lv_dload hx hb dL_law_1848 (lv_at hl 0 rfl) ?_
  refine lv_dload hx hb dL_law_1850 (lv_at hl 0 rfl) ?_
  refine lv_dcmp hx hb dL_law_1852 ?_
  rw [← hw0]
  exact lv_if_ne (tgt := 1858) hx hb dL_law_1853 (by decide) (fun _ => hend) (fun h2 => absurd h2 h)
