/-! the cases of the law -/
set_option maxHeartbeats 4000000 in
set_option maxRecDepth 100000 in
theorem law_15 {p : Program} {l : Launch} {e : Env} {s : State} {m : MethodId} {args : Array Value} {below : List Frame} {meth : Method} {c : Code} {H : Heap} {locs : List Loc} {cells slots : Nat} {Q : State → Prop} {ls : Array Slot} {D : va_G} {cy : Nat → ClassId} {bb b L : Nat} {xs : Nat → Int32} {M : Mem} {k : Nat} (hW : LW p l s m args c D cy bb b L xs) (hk : 6 * k + 6 ≤ L) (hc : cells + 2 ≤ 601024) (hs : slots + 12 ≤ 7293034) (hG : G M M) (hP : va_P D vwCl (wL cy bb fT M 134) H) (hS : va_S (fr bb) s.heap H locs) (hl : lv_has ls 9 (lvL b bb (nI (6 * k))))
    (kk : ∀ (M1 : Mem) (H1 : Heap) (locs1 : List Loc) (ls1 : Array Slot), G M1 M1 → va_P D vwCl (wL cy bb fT M1 134) H1 → va_S (fr bb) s.heap H1 locs1 → lv_has ls1 9 (lvL b bb (nI (6 * k))) → W p l e room_1 s m args below meth c H1 locs1 (cells + 2) (slots + 12) Q (F0 m 2726 ls1 [])) : W p l e room_1 s m args below meth c H locs cells slots Q (F0 m 827 ls []) := by
  obtain ⟨hx, hb, hml, hts, hown, hK, hX, hXs, hbl, hbb, hst, hL⟩ := id hW
  refine lv_aload_n hx hb dL_law_827 rfl (lv_at hl 1 rfl) ?_
  refine law_arg 1 hW hk (by decide) hS (lv_at hl 0 rfl) (lv_at hl 4 rfl) dL_law_828 dL_law_829 dL_law_831 rfl dL_law_832 dL_law_833 ?_
  refine lv_aload_n hx hb dL_law_834 rfl (lv_at hl 3 rfl) ?_
  refine xc_i (vx_runSW (As := [.ref (bb + 0), .int (xs (6 * k + 1)), .ref (bb + 133)]) (rest := []) ⟨hx, hb, hml, hown, hts⟩ (c_L_slackOf l hst D cy bb 134 (by decide) M (xs (6 * k + 1)) (g_cnt hG)) (vx_cwSW 3 hts gL_law_L_slackOf rfl rfl rfl (by decide +kernel) ⟨Nat.le_of_ble_eq_true rfl, Nat.le_of_ble_eq_true rfl⟩) (xPreS hP hK hX hS) rfl rfl hl.1 rfl (lv_room (Nat.le_of_ble_eq_true rfl)) dL_law_835 ⟨by show cells + _ ≤ 601024; omega, by show slots + _ ≤ 7293034; omega⟩) hS (fun H locs hP hS => ?_)
  have r0 := rel_slackOf hG (xs (6 * k + 1))
  obtain ⟨M1, hM1⟩ : ∃ z, z = gL_slackOf M (xs (6 * k + 1)) := ⟨_, rfl⟩
  rw [← hM1] at hP
  have hm : M1 = if tX7_slackOf M (xs (6 * k + 1)) = 0 then mU M 133 0 (fX7_slackOf M (xs (6 * k + 1))) else M := hM1
  have hG1 := g_mid hG r0 hm
  have r1 := rel_slackOf hG1 (xs (6 * k + 1))
  refine lv_istore (lv' := (5, .int (cd [1] (tX7_slackOf M (xs (6 * k + 1))))) :: lvL b bb (nI (6 * k))) hx hb dL_law_838 hl (by decide) rfl (fun ls hl => ?_)
  refine lv_aload_n hx hb dL_law_840 rfl (lv_at hl 3 rfl) ?_
  refine law_arg 1 hW hk (by decide) hS (lv_at hl 1 rfl) (lv_at hl 5 rfl) dL_law_841 dL_law_842 dL_law_844 rfl dL_law_845 dL_law_846 ?_
  refine xc_i (va_runV (As := [.int (xs (6 * k + 1))]) (rest := []) ⟨hx, hb, hml, hown, hts⟩ (c_X8_slackOf l D cy bb 134 (by decide) M1 (xs (6 * k + 1)) (g_mny hG1)) (cwV 1 hts gL_law_X8_slackOf rfl rfl rfl (by decide +kernel) ⟨Nat.le_of_ble_eq_true rfl, Nat.le_of_ble_eq_true rfl⟩) (xPreV hP hK hX hS (by decide) (cell8 (by decide)) rfl) rfl rfl hl.1 rfl (lv_room (Nat.le_of_ble_eq_true rfl)) dL_law_847 ⟨by show cells + _ + _ ≤ 601024; omega, by show slots + _ + _ ≤ 7293034; omega⟩) hS (fun H locs hP hS => ?_)
  obtain ⟨e1, e2, e3⟩ := g_end (by decide) r1 hm
  obtain ⟨M2, hM2⟩ : ∃ z, z = gX8_slackOf M1 (xs (6 * k + 1)) := ⟨_, rfl⟩
  rw [← hM2] at hP e1 e2 e3
  refine lv_istore (lv' := (6, .int (fX8_slackOf M1 (xs (6 * k + 1)))) :: (5, .int (cd [1] (tX7_slackOf M (xs (6 * k + 1))))) :: lvL b bb (nI (6 * k))) hx hb dL_law_850 hl (by decide) rfl (fun ls hl => ?_)
  refine law_tail hW hP hS (by omega) (by omega) hl e2 (fun h => (e3 h).1.trans (e3 h).2) dL_law_852 dL_law_853 dL_law_856 dL_law_858 dL_law_863 dL_law_865 dL_law_868 dL_law_869 dL_law_870 dL_law_871 dL_law_873 dL_law_874 dL_law_875 dL_law_880 (by decide) (fun H locs ls hP hS hl => ?_) (by decide)
  refine W.widen (k := cells + 2) (n := slots + 12) (by omega) (by omega) ?_
  exact kk M2 H locs ls e1 hP hS hl
set_option maxHeartbeats 4000000 in
set_option maxRecDepth 100000 in
theorem law_16 {p : Program} {l : Launch} {e : Env} {s : State} {m : MethodId} {args : Array Value} {below : List Frame} {meth : Method} {c : Code} {H : Heap} {locs : List Loc} {cells slots : Nat} {Q : State → Prop} {ls : Array Slot} {D : va_G} {cy : Nat → ClassId} {bb b L : Nat} {xs : Nat → Int32} {M : Mem} {k : Nat} (hW : LW p l s m args c D cy bb b L xs) (hk : 6 * k + 6 ≤ L) (hc : cells + 2 ≤ 601024) (hs : slots + 12 ≤ 7293034) (hG : G M M) (hP : va_P D vwCl (wL cy bb fT M 134) H) (hS : va_S (fr bb) s.heap H locs) (hl : lv_has ls 9 (lvL b bb (nI (6 * k))))
    (kk : ∀ (M1 : Mem) (H1 : Heap) (locs1 : List Loc) (ls1 : Array Slot), G M1 M1 → va_P D vwCl (wL cy bb fT M1 134) H1 → va_S (fr bb) s.heap H1 locs1 → lv_has ls1 9 (lvL b bb (nI (6 * k))) → W p l e room_1 s m args below meth c H1 locs1 (cells + 2) (slots + 12) Q (F0 m 2726 ls1 [])) : W p l e room_1 s m args below meth c H locs cells slots Q (F0 m 883 ls []) := by
  obtain ⟨hx, hb, hml, hts, hown, hK, hX, hXs, hbl, hbb, hst, hL⟩ := id hW
  refine lv_aload_n hx hb dL_law_883 rfl (lv_at hl 1 rfl) ?_
  refine law_arg 1 hW hk (by decide) hS (lv_at hl 0 rfl) (lv_at hl 4 rfl) dL_law_884 dL_law_885 dL_law_887 rfl dL_law_888 dL_law_889 ?_
  refine lv_aload_n hx hb dL_law_890 rfl (lv_at hl 3 rfl) ?_
  refine xc_i (vx_runSW (As := [.ref (bb + 0), .int (xs (6 * k + 1)), .ref (bb + 133)]) (rest := []) ⟨hx, hb, hml, hown, hts⟩ (c_L_waterOf l hst D cy bb 134 (by decide) M (xs (6 * k + 1)) (g_cnt hG)) (vx_cwSW 3 hts gL_law_L_waterOf rfl rfl rfl (by decide +kernel) ⟨Nat.le_of_ble_eq_true rfl, Nat.le_of_ble_eq_true rfl⟩) (xPreS hP hK hX hS) rfl rfl hl.1 rfl (lv_room (Nat.le_of_ble_eq_true rfl)) dL_law_891 ⟨by show cells + _ ≤ 601024; omega, by show slots + _ ≤ 7293034; omega⟩) hS (fun H locs hP hS => ?_)
  have r0 := rel_waterOf hG (xs (6 * k + 1))
  obtain ⟨M1, hM1⟩ : ∃ z, z = gL_waterOf M (xs (6 * k + 1)) := ⟨_, rfl⟩
  rw [← hM1] at hP
  have hm : M1 = if tX7_waterOf M (xs (6 * k + 1)) = 0 then mU M 133 0 (fX7_waterOf M (xs (6 * k + 1))) else M := hM1
  have hG1 := g_mid hG r0 hm
  have r1 := rel_waterOf hG1 (xs (6 * k + 1))
  refine lv_istore (lv' := (5, .int (cd [1] (tX7_waterOf M (xs (6 * k + 1))))) :: lvL b bb (nI (6 * k))) hx hb dL_law_894 hl (by decide) rfl (fun ls hl => ?_)
  refine lv_aload_n hx hb dL_law_896 rfl (lv_at hl 3 rfl) ?_
  refine law_arg 1 hW hk (by decide) hS (lv_at hl 1 rfl) (lv_at hl 5 rfl) dL_law_897 dL_law_898 dL_law_900 rfl dL_law_901 dL_law_902 ?_
  refine xc_i (va_runV (As := [.int (xs (6 * k + 1))]) (rest := []) ⟨hx, hb, hml, hown, hts⟩ (c_X8_waterOf l D cy bb 134 (by decide) M1 (xs (6 * k + 1)) (g_mny hG1)) (cwV 1 hts gL_law_X8_waterOf rfl rfl rfl (by decide +kernel) ⟨Nat.le_of_ble_eq_true rfl, Nat.le_of_ble_eq_true rfl⟩) (xPreV hP hK hX hS (by decide) (cell8 (by decide)) rfl) rfl rfl hl.1 rfl (lv_room (Nat.le_of_ble_eq_true rfl)) dL_law_903 ⟨by show cells + _ + _ ≤ 601024; omega, by show slots + _ + _ ≤ 7293034; omega⟩) hS (fun H locs hP hS => ?_)
  obtain ⟨e1, e2, e3⟩ := g_end (by decide) r1 hm
  obtain ⟨M2, hM2⟩ : ∃ z, z = gX8_waterOf M1 (xs (6 * k + 1)) := ⟨_, rfl⟩
  rw [← hM2] at hP e1 e2 e3
  refine lv_istore (lv' := (6, .int (fX8_waterOf M1 (xs (6 * k + 1)))) :: (5, .int (cd [1] (tX7_waterOf M (xs (6 * k + 1))))) :: lvL b bb (nI (6 * k))) hx hb dL_law_906 hl (by decide) rfl (fun ls hl => ?_)
  refine law_tail hW hP hS (by omega) (by omega) hl e2 (fun h => (e3 h).1.trans (e3 h).2) dL_law_908 dL_law_909 dL_law_912 dL_law_914 dL_law_919 dL_law_921 dL_law_924 dL_law_925 dL_law_926 dL_law_927 dL_law_929 dL_law_930 dL_law_931 dL_law_936 (by decide) (fun H locs ls hP hS hl => ?_) (by decide)
  refine W.widen (k := cells + 2) (n := slots + 12) (by omega) (by omega) ?_
  exact kk M2 H locs ls e1 hP hS hl
set_option maxHeartbeats 4000000 in
set_option maxRecDepth 100000 in
theorem law_17 {p : Program} {l : Launch} {e : Env} {s : State} {m : MethodId} {args : Array Value} {below : List Frame} {meth : Method} {c : Code} {H : Heap} {locs : List Loc} {cells slots : Nat} {Q : State → Prop} {ls : Array Slot} {D : va_G} {cy : Nat → ClassId} {bb b L : Nat} {xs : Nat → Int32} {M : Mem} {k : Nat} (hW : LW p l s m args c D cy bb b L xs) (hk : 6 * k + 6 ≤ L) (hc : cells + 2 ≤ 601024) (hs : slots + 12 ≤ 7293034) (hG : G M M) (hP : va_P D vwCl (wL cy bb fT M 134) H) (hS : va_S (fr bb) s.heap H locs) (hl : lv_has ls 9 (lvL b bb (nI (6 * k))))
    (kk : ∀ (M1 : Mem) (H1 : Heap) (locs1 : List Loc) (ls1 : Array Slot), G M1 M1 → va_P D vwCl (wL cy bb fT M1 134) H1 → va_S (fr bb) s.heap H1 locs1 → lv_has ls1 9 (lvL b bb (nI (6 * k))) → W p l e room_1 s m args below meth c H1 locs1 (cells + 2) (slots + 12) Q (F0 m 2726 ls1 [])) : W p l e room_1 s m args below meth c H locs cells slots Q (F0 m 939 ls []) := by
  obtain ⟨hx, hb, hml, hts, hown, hK, hX, hXs, hbl, hbb, hst, hL⟩ := id hW
  refine lv_aload_n hx hb dL_law_939 rfl (lv_at hl 1 rfl) ?_
  refine law_arg 1 hW hk (by decide) hS (lv_at hl 0 rfl) (lv_at hl 4 rfl) dL_law_940 dL_law_941 dL_law_943 rfl dL_law_944 dL_law_945 ?_
  refine lv_aload_n hx hb dL_law_946 rfl (lv_at hl 3 rfl) ?_
  refine xc_i (vx_runSW (As := [.ref (bb + 0), .int (xs (6 * k + 1)), .ref (bb + 133)]) (rest := []) ⟨hx, hb, hml, hown, hts⟩ (c_L_depressionOf l hst D cy bb 134 (by decide) M (xs (6 * k + 1)) (g_cnt hG)) (vx_cwSW 3 hts gL_law_L_depressionOf rfl rfl rfl (by decide +kernel) ⟨Nat.le_of_ble_eq_true rfl, Nat.le_of_ble_eq_true rfl⟩) (xPreS hP hK hX hS) rfl rfl hl.1 rfl (lv_room (Nat.le_of_ble_eq_true rfl)) dL_law_947 ⟨by show cells + _ ≤ 601024; omega, by show slots + _ ≤ 7293034; omega⟩) hS (fun H locs hP hS => ?_)
  have r0 := rel_depressionOf hG (xs (6 * k + 1))
  obtain ⟨M1, hM1⟩ : ∃ z, z = gL_depressionOf M (xs (6 * k + 1)) := ⟨_, rfl⟩
  rw [← hM1] at hP
  have hm : M1 = if tX7_depressionOf M (xs (6 * k + 1)) = 0 then mU M 133 0 (fX7_depressionOf M (xs (6 * k + 1))) else M := hM1
  have hG1 := g_mid hG r0 hm
  have r1 := rel_depressionOf hG1 (xs (6 * k + 1))
  refine lv_istore (lv' := (5, .int (cd [1] (tX7_depressionOf M (xs (6 * k + 1))))) :: lvL b bb (nI (6 * k))) hx hb dL_law_950 hl (by decide) rfl (fun ls hl => ?_)
  refine lv_aload_n hx hb dL_law_952 rfl (lv_at hl 3 rfl) ?_
  refine law_arg 1 hW hk (by decide) hS (lv_at hl 1 rfl) (lv_at hl 5 rfl) dL_law_953 dL_law_954 dL_law_956 rfl dL_law_957 dL_law_958 ?_
  refine xc_i (va_runV (As := [.int (xs (6 * k + 1))]) (rest := []) ⟨hx, hb, hml, hown, hts⟩ (c_X8_depressionOf l D cy bb 134 (by decide) M1 (xs (6 * k + 1)) (g_mny hG1) (g_bxs hG1)) (cwV 1 hts gL_law_X8_depressionOf rfl rfl rfl (by decide +kernel) ⟨Nat.le_of_ble_eq_true rfl, Nat.le_of_ble_eq_true rfl⟩) (xPreV hP hK hX hS (by decide) (cell8 (by decide)) rfl) rfl rfl hl.1 rfl (lv_room (Nat.le_of_ble_eq_true rfl)) dL_law_959 ⟨by show cells + _ + _ ≤ 601024; omega, by show slots + _ + _ ≤ 7293034; omega⟩) hS (fun H locs hP hS => ?_)
  obtain ⟨e1, e2, e3⟩ := g_end (by decide) r1 hm
  obtain ⟨M2, hM2⟩ : ∃ z, z = gX8_depressionOf M1 (xs (6 * k + 1)) := ⟨_, rfl⟩
  rw [← hM2] at hP e1 e2 e3
  refine lv_istore (lv' := (6, .int (fX8_depressionOf M1 (xs (6 * k + 1)))) :: (5, .int (cd [1] (tX7_depressionOf M (xs (6 * k + 1))))) :: lvL b bb (nI (6 * k))) hx hb dL_law_962 hl (by decide) rfl (fun ls hl => ?_)
  refine law_tail hW hP hS (by omega) (by omega) hl e2 (fun h => (e3 h).1.trans (e3 h).2) dL_law_964 dL_law_965 dL_law_968 dL_law_970 dL_law_975 dL_law_977 dL_law_980 dL_law_981 dL_law_982 dL_law_983 dL_law_985 dL_law_986 dL_law_987 dL_law_992 (by decide) (fun H locs ls hP hS hl => ?_) (by decide)
  refine W.widen (k := cells + 2) (n := slots + 12) (by omega) (by omega) ?_
  exact kk M2 H locs ls e1 hP hS hl
set_option maxHeartbeats 4000000 in
set_option maxRecDepth 100000 in
theorem law_18 {p : Program} {l : Launch} {e : Env} {s : State} {m : MethodId} {args : Array Value} {below : List Frame} {meth : Method} {c : Code} {H : Heap} {locs : List Loc} {cells slots : Nat} {Q : State → Prop} {ls : Array Slot} {D : va_G} {cy : Nat → ClassId} {bb b L : Nat} {xs : Nat → Int32} {M : Mem} {k : Nat} (hW : LW p l s m args c D cy bb b L xs) (hk : 6 * k + 6 ≤ L) (hc : cells + 2 ≤ 601024) (hs : slots + 12 ≤ 7293034) (hG : G M M) (hP : va_P D vwCl (wL cy bb fT M 134) H) (hS : va_S (fr bb) s.heap H locs) (hl : lv_has ls 9 (lvL b bb (nI (6 * k))))
    (kk : ∀ (M1 : Mem) (H1 : Heap) (locs1 : List Loc) (ls1 : Array Slot), G M1 M1 → va_P D vwCl (wL cy bb fT M1 134) H1 → va_S (fr bb) s.heap H1 locs1 → lv_has ls1 9 (lvL b bb (nI (6 * k))) → W p l e room_1 s m args below meth c H1 locs1 (cells + 2) (slots + 12) Q (F0 m 2726 ls1 [])) : W p l e room_1 s m args below meth c H locs cells slots Q (F0 m 995 ls []) := by
  obtain ⟨hx, hb, hml, hts, hown, hK, hX, hXs, hbl, hbb, hst, hL⟩ := id hW
  refine lv_aload_n hx hb dL_law_995 rfl (lv_at hl 1 rfl) ?_
  refine law_arg 1 hW hk (by decide) hS (lv_at hl 0 rfl) (lv_at hl 4 rfl) dL_law_996 dL_law_997 dL_law_999 rfl dL_law_1000 dL_law_1001 ?_
  refine lv_aload_n hx hb dL_law_1002 rfl (lv_at hl 3 rfl) ?_
  refine xc_i (vx_runSW (As := [.ref (bb + 0), .int (xs (6 * k + 1)), .ref (bb + 133)]) (rest := []) ⟨hx, hb, hml, hown, hts⟩ (c_L_zeroOf l hst D cy bb 134 (by decide) M (xs (6 * k + 1)) (g_cnt hG)) (vx_cwSW 3 hts gL_law_L_zeroOf rfl rfl rfl (by decide +kernel) ⟨Nat.le_of_ble_eq_true rfl, Nat.le_of_ble_eq_true rfl⟩) (xPreS hP hK hX hS) rfl rfl hl.1 rfl (lv_room (Nat.le_of_ble_eq_true rfl)) dL_law_1003 ⟨by show cells + _ ≤ 601024; omega, by show slots + _ ≤ 7293034; omega⟩) hS (fun H locs hP hS => ?_)
  have r0 := rel_zeroOf hG (xs (6 * k + 1))
  obtain ⟨M1, hM1⟩ : ∃ z, z = gL_zeroOf M (xs (6 * k + 1)) := ⟨_, rfl⟩
  rw [← hM1] at hP
  have hm : M1 = if tX7_zeroOf M (xs (6 * k + 1)) = 0 then mU M 133 0 (fX7_zeroOf M (xs (6 * k + 1))) else M := hM1
  have hG1 := g_mid hG r0 hm
  have r1 := rel_zeroOf hG1 (xs (6 * k + 1))
  refine lv_istore (lv' := (5, .int (cd [1] (tX7_zeroOf M (xs (6 * k + 1))))) :: lvL b bb (nI (6 * k))) hx hb dL_law_1006 hl (by decide) rfl (fun ls hl => ?_)
  refine lv_aload_n hx hb dL_law_1008 rfl (lv_at hl 3 rfl) ?_
  refine law_arg 1 hW hk (by decide) hS (lv_at hl 1 rfl) (lv_at hl 5 rfl) dL_law_1009 dL_law_1010 dL_law_1012 rfl dL_law_1013 dL_law_1014 ?_
  refine xc_i (va_runV (As := [.int (xs (6 * k + 1))]) (rest := []) ⟨hx, hb, hml, hown, hts⟩ (c_X8_zeroOf l D cy bb 134 (by decide) M1 (xs (6 * k + 1)) (g_mny hG1)) (cwV 1 hts gL_law_X8_zeroOf rfl rfl rfl (by decide +kernel) ⟨Nat.le_of_ble_eq_true rfl, Nat.le_of_ble_eq_true rfl⟩) (xPreV hP hK hX hS (by decide) (cell8 (by decide)) rfl) rfl rfl hl.1 rfl (lv_room (Nat.le_of_ble_eq_true rfl)) dL_law_1015 ⟨by show cells + _ + _ ≤ 601024; omega, by show slots + _ + _ ≤ 7293034; omega⟩) hS (fun H locs hP hS => ?_)
  obtain ⟨e1, e2, e3⟩ := g_end (by decide) r1 hm
  obtain ⟨M2, hM2⟩ : ∃ z, z = gX8_zeroOf M1 (xs (6 * k + 1)) := ⟨_, rfl⟩
  rw [← hM2] at hP e1 e2 e3
  refine lv_istore (lv' := (6, .int (fX8_zeroOf M1 (xs (6 * k + 1)))) :: (5, .int (cd [1] (tX7_zeroOf M (xs (6 * k + 1))))) :: lvL b bb (nI (6 * k))) hx hb dL_law_1018 hl (by decide) rfl (fun ls hl => ?_)
  refine law_tail hW hP hS (by omega) (by omega) hl e2 (fun h => (e3 h).1.trans (e3 h).2) dL_law_1020 dL_law_1021 dL_law_1024 dL_law_1026 dL_law_1031 dL_law_1033 dL_law_1036 dL_law_1037 dL_law_1038 dL_law_1039 dL_law_1041 dL_law_1042 dL_law_1043 dL_law_1048 (by decide) (fun H locs ls hP hS hl => ?_) (by decide)
  refine W.widen (k := cells + 2) (n := slots + 12) (by omega) (by omega) ?_
  exact kk M2 H locs ls e1 hP hS hl
set_option maxHeartbeats 4000000 in
set_option maxRecDepth 100000 in
theorem law_19 {p : Program} {l : Launch} {e : Env} {s : State} {m : MethodId} {args : Array Value} {below : List Frame} {meth : Method} {c : Code} {H : Heap} {locs : List Loc} {cells slots : Nat} {Q : State → Prop} {ls : Array Slot} {D : va_G} {cy : Nat → ClassId} {bb b L : Nat} {xs : Nat → Int32} {M : Mem} {k : Nat} (hW : LW p l s m args c D cy bb b L xs) (hk : 6 * k + 6 ≤ L) (hc : cells + 2 ≤ 601024) (hs : slots + 12 ≤ 7293034) (hG : G M M) (hP : va_P D vwCl (wL cy bb fT M 134) H) (hS : va_S (fr bb) s.heap H locs) (hl : lv_has ls 9 (lvL b bb (nI (6 * k))))
    (kk : ∀ (M1 : Mem) (H1 : Heap) (locs1 : List Loc) (ls1 : Array Slot), G M1 M1 → va_P D vwCl (wL cy bb fT M1 134) H1 → va_S (fr bb) s.heap H1 locs1 → lv_has ls1 9 (lvL b bb (nI (6 * k))) → W p l e room_1 s m args below meth c H1 locs1 (cells + 2) (slots + 12) Q (F0 m 2726 ls1 [])) : W p l e room_1 s m args below meth c H locs cells slots Q (F0 m 1051 ls []) := by
  obtain ⟨hx, hb, hml, hts, hown, hK, hX, hXs, hbl, hbb, hst, hL⟩ := id hW
  refine lv_aload_n hx hb dL_law_1051 rfl (lv_at hl 1 rfl) ?_
  refine law_arg 1 hW hk (by decide) hS (lv_at hl 0 rfl) (lv_at hl 4 rfl) dL_law_1052 dL_law_1053 dL_law_1055 rfl dL_law_1056 dL_law_1057 ?_
  refine lv_aload_n hx hb dL_law_1058 rfl (lv_at hl 3 rfl) ?_
  refine xc_i (vx_runSW (As := [.ref (bb + 0), .int (xs (6 * k + 1)), .ref (bb + 133)]) (rest := []) ⟨hx, hb, hml, hown, hts⟩ (c_L_boxOf l hst D cy bb 134 (by decide) M (xs (6 * k + 1)) (g_cnt hG)) (vx_cwSW 3 hts gL_law_L_boxOf rfl rfl rfl (by decide +kernel) ⟨Nat.le_of_ble_eq_true rfl, Nat.le_of_ble_eq_true rfl⟩) (xPreS hP hK hX hS) rfl rfl hl.1 rfl (lv_room (Nat.le_of_ble_eq_true rfl)) dL_law_1059 ⟨by show cells + _ ≤ 601024; omega, by show slots + _ ≤ 7293034; omega⟩) hS (fun H locs hP hS => ?_)
  have r0 := rel_boxOf hG (xs (6 * k + 1))
  obtain ⟨M1, hM1⟩ : ∃ z, z = gL_boxOf M (xs (6 * k + 1)) := ⟨_, rfl⟩
  rw [← hM1] at hP
  have hm : M1 = if tX7_boxOf M (xs (6 * k + 1)) = 0 then mU M 133 0 (fX7_boxOf M (xs (6 * k + 1))) else M := hM1
  have hG1 := g_mid hG r0 hm
  have r1 := rel_boxOf hG1 (xs (6 * k + 1))
  refine lv_istore (lv' := (5, .int (cd [1] (tX7_boxOf M (xs (6 * k + 1))))) :: lvL b bb (nI (6 * k))) hx hb dL_law_1062 hl (by decide) rfl (fun ls hl => ?_)
  refine lv_aload_n hx hb dL_law_1064 rfl (lv_at hl 3 rfl) ?_
  refine law_arg 1 hW hk (by decide) hS (lv_at hl 1 rfl) (lv_at hl 5 rfl) dL_law_1065 dL_law_1066 dL_law_1068 rfl dL_law_1069 dL_law_1070 ?_
  refine xc_i (va_runV (As := [.int (xs (6 * k + 1))]) (rest := []) ⟨hx, hb, hml, hown, hts⟩ (c_X8_boxOf l D cy bb 134 (by decide) M1 (xs (6 * k + 1)) (g_mny hG1)) (cwV 1 hts gL_law_X8_boxOf rfl rfl rfl (by decide +kernel) ⟨Nat.le_of_ble_eq_true rfl, Nat.le_of_ble_eq_true rfl⟩) (xPreV hP hK hX hS (by decide) (cell8 (by decide)) rfl) rfl rfl hl.1 rfl (lv_room (Nat.le_of_ble_eq_true rfl)) dL_law_1071 ⟨by show cells + _ + _ ≤ 601024; omega, by show slots + _ + _ ≤ 7293034; omega⟩) hS (fun H locs hP hS => ?_)
  obtain ⟨e1, e2, e3⟩ := g_end (by decide) r1 hm
  obtain ⟨M2, hM2⟩ : ∃ z, z = gX8_boxOf M1 (xs (6 * k + 1)) := ⟨_, rfl⟩
  rw [← hM2] at hP e1 e2 e3
  refine lv_istore (lv' := (6, .int (fX8_boxOf M1 (xs (6 * k + 1)))) :: (5, .int (cd [1] (tX7_boxOf M (xs (6 * k + 1))))) :: lvL b bb (nI (6 * k))) hx hb dL_law_1074 hl (by decide) rfl (fun ls hl => ?_)
  refine law_tail hW hP hS (by omega) (by omega) hl e2 (fun h => (e3 h).1.trans (e3 h).2) dL_law_1076 dL_law_1077 dL_law_1080 dL_law_1082 dL_law_1087 dL_law_1089 dL_law_1092 dL_law_1093 dL_law_1094 dL_law_1095 dL_law_1097 dL_law_1098 dL_law_1099 dL_law_1104 (by decide) (fun H locs ls hP hS hl => ?_) (by decide)
  refine W.widen (k := cells + 2) (n := slots + 12) (by omega) (by omega) ?_
  exact kk M2 H locs ls e1 hP hS hl
set_option maxHeartbeats 4000000 in
set_option maxRecDepth 100000 in
theorem law_20 {p : Program} {l : Launch} {e : Env} {s : State} {m : MethodId} {args : Array Value} {below : List Frame} {meth : Method} {c : Code} {H : Heap} {locs : List Loc} {cells slots : Nat} {Q : State → Prop} {ls : Array Slot} {D : va_G} {cy : Nat → ClassId} {bb b L : Nat} {xs : Nat → Int32} {M : Mem} {k : Nat} (hW : LW p l s m args c D cy bb b L xs) (hk : 6 * k + 6 ≤ L) (hc : cells + 2 ≤ 601024) (hs : slots + 12 ≤ 7293034) (hG : G M M) (hP : va_P D vwCl (wL cy bb fT M 134) H) (hS : va_S (fr bb) s.heap H locs) (hl : lv_has ls 9 (lvL b bb (nI (6 * k))))
    (kk : ∀ (M1 : Mem) (H1 : Heap) (locs1 : List Loc) (ls1 : Array Slot), G M1 M1 → va_P D vwCl (wL cy bb fT M1 134) H1 → va_S (fr bb) s.heap H1 locs1 → lv_has ls1 9 (lvL b bb (nI (6 * k))) → W p l e room_1 s m args below meth c H1 locs1 (cells + 2) (slots + 12) Q (F0 m 2726 ls1 [])) : W p l e room_1 s m args below meth c H locs cells slots Q (F0 m 1107 ls []) := by
  obtain ⟨hx, hb, hml, hts, hown, hK, hX, hXs, hbl, hbb, hst, hL⟩ := id hW
  refine lv_aload_n hx hb dL_law_1107 rfl (lv_at hl 1 rfl) ?_
  refine law_arg 1 hW hk (by decide) hS (lv_at hl 0 rfl) (lv_at hl 4 rfl) dL_law_1108 dL_law_1109 dL_law_1111 rfl dL_law_1112 dL_law_1113 ?_
  refine lv_aload_n hx hb dL_law_1114 rfl (lv_at hl 3 rfl) ?_
  refine xc_i (vx_runSW (As := [.ref (bb + 0), .int (xs (6 * k + 1)), .ref (bb + 133)]) (rest := []) ⟨hx, hb, hml, hown, hts⟩ (c_L_surroundingOf l hst D cy bb 134 (by decide) M (xs (6 * k + 1)) (g_cnt hG)) (vx_cwSW 3 hts gL_law_L_surroundingOf rfl rfl rfl (by decide +kernel) ⟨Nat.le_of_ble_eq_true rfl, Nat.le_of_ble_eq_true rfl⟩) (xPreS hP hK hX hS) rfl rfl hl.1 rfl (lv_room (Nat.le_of_ble_eq_true rfl)) dL_law_1115 ⟨by show cells + _ ≤ 601024; omega, by show slots + _ ≤ 7293034; omega⟩) hS (fun H locs hP hS => ?_)
  have r0 := rel_surroundingOf hG (xs (6 * k + 1))
  obtain ⟨M1, hM1⟩ : ∃ z, z = gL_surroundingOf M (xs (6 * k + 1)) := ⟨_, rfl⟩
  rw [← hM1] at hP
  have hm : M1 = if tX7_surroundingOf M (xs (6 * k + 1)) = 0 then mU M 133 0 (fX7_surroundingOf M (xs (6 * k + 1))) else M := hM1
  have hG1 := g_mid hG r0 hm
  have r1 := rel_surroundingOf hG1 (xs (6 * k + 1))
  refine lv_istore (lv' := (5, .int (cd [1] (tX7_surroundingOf M (xs (6 * k + 1))))) :: lvL b bb (nI (6 * k))) hx hb dL_law_1118 hl (by decide) rfl (fun ls hl => ?_)
  refine lv_aload_n hx hb dL_law_1120 rfl (lv_at hl 3 rfl) ?_
  refine law_arg 1 hW hk (by decide) hS (lv_at hl 1 rfl) (lv_at hl 5 rfl) dL_law_1121 dL_law_1122 dL_law_1124 rfl dL_law_1125 dL_law_1126 ?_
  refine xc_i (va_runV (As := [.int (xs (6 * k + 1))]) (rest := []) ⟨hx, hb, hml, hown, hts⟩ (c_X8_surroundingOf l D cy bb 134 (by decide) M1 (xs (6 * k + 1)) (g_mny hG1) (g_bxs hG1)) (cwV 1 hts gL_law_X8_surroundingOf rfl rfl rfl (by decide +kernel) ⟨Nat.le_of_ble_eq_true rfl, Nat.le_of_ble_eq_true rfl⟩) (xPreV hP hK hX hS (by decide) (cell8 (by decide)) rfl) rfl rfl hl.1 rfl (lv_room (Nat.le_of_ble_eq_true rfl)) dL_law_1127 ⟨by show cells + _ + _ ≤ 601024; omega, by show slots + _ + _ ≤ 7293034; omega⟩) hS (fun H locs hP hS => ?_)
  obtain ⟨e1, e2, e3⟩ := g_end (by decide) r1 hm
  obtain ⟨M2, hM2⟩ : ∃ z, z = gX8_surroundingOf M1 (xs (6 * k + 1)) := ⟨_, rfl⟩
  rw [← hM2] at hP e1 e2 e3
  refine lv_istore (lv' := (6, .int (fX8_surroundingOf M1 (xs (6 * k + 1)))) :: (5, .int (cd [1] (tX7_surroundingOf M (xs (6 * k + 1))))) :: lvL b bb (nI (6 * k))) hx hb dL_law_1130 hl (by decide) rfl (fun ls hl => ?_)
  refine law_tail hW hP hS (by omega) (by omega) hl e2 (fun h => (e3 h).1.trans (e3 h).2) dL_law_1132 dL_law_1133 dL_law_1136 dL_law_1138 dL_law_1143 dL_law_1145 dL_law_1148 dL_law_1149 dL_law_1150 dL_law_1151 dL_law_1153 dL_law_1154 dL_law_1155 dL_law_1160 (by decide) (fun H locs ls hP hS hl => ?_) (by decide)
  refine W.widen (k := cells + 2) (n := slots + 12) (by omega) (by omega) ?_
  exact kk M2 H locs ls e1 hP hS hl
set_option maxHeartbeats 4000000 in
set_option maxRecDepth 100000 in
theorem law_21 {p : Program} {l : Launch} {e : Env} {s : State} {m : MethodId} {args : Array Value} {below : List Frame} {meth : Method} {c : Code} {H : Heap} {locs : List Loc} {cells slots : Nat} {Q : State → Prop} {ls : Array Slot} {D : va_G} {cy : Nat → ClassId} {bb b L : Nat} {xs : Nat → Int32} {M : Mem} {k : Nat} (hW : LW p l s m args c D cy bb b L xs) (hk : 6 * k + 6 ≤ L) (hc : cells + 2 ≤ 601024) (hs : slots + 12 ≤ 7293034) (hG : G M M) (hP : va_P D vwCl (wL cy bb fT M 134) H) (hS : va_S (fr bb) s.heap H locs) (hl : lv_has ls 9 (lvL b bb (nI (6 * k))))
    (kk : ∀ (M1 : Mem) (H1 : Heap) (locs1 : List Loc) (ls1 : Array Slot), G M1 M1 → va_P D vwCl (wL cy bb fT M1 134) H1 → va_S (fr bb) s.heap H1 locs1 → lv_has ls1 9 (lvL b bb (nI (6 * k))) → W p l e room_1 s m args below meth c H1 locs1 (cells + 2) (slots + 12) Q (F0 m 2726 ls1 [])) : W p l e room_1 s m args below meth c H locs cells slots Q (F0 m 1163 ls []) := by
  obtain ⟨hx, hb, hml, hts, hown, hK, hX, hXs, hbl, hbb, hst, hL⟩ := id hW
  refine lv_aload_n hx hb dL_law_1163 rfl (lv_at hl 1 rfl) ?_
  refine law_arg 1 hW hk (by decide) hS (lv_at hl 0 rfl) (lv_at hl 4 rfl) dL_law_1164 dL_law_1165 dL_law_1167 rfl dL_law_1168 dL_law_1169 ?_
  refine lv_aload_n hx hb dL_law_1170 rfl (lv_at hl 3 rfl) ?_
  refine xc_i (vx_runSW (As := [.ref (bb + 0), .int (xs (6 * k + 1)), .ref (bb + 133)]) (rest := []) ⟨hx, hb, hml, hown, hts⟩ (c_L_rawValue l hst D cy bb 134 (by decide) M (xs (6 * k + 1)) (g_cnt hG)) (vx_cwSW 3 hts gL_law_L_rawValue rfl rfl rfl (by decide +kernel) ⟨Nat.le_of_ble_eq_true rfl, Nat.le_of_ble_eq_true rfl⟩) (xPreS hP hK hX hS) rfl rfl hl.1 rfl (lv_room (Nat.le_of_ble_eq_true rfl)) dL_law_1171 ⟨by show cells + _ ≤ 601024; omega, by show slots + _ ≤ 7293034; omega⟩) hS (fun H locs hP hS => ?_)
  have r0 := rel_rawValue hG (xs (6 * k + 1))
  obtain ⟨M1, hM1⟩ : ∃ z, z = gL_rawValue M (xs (6 * k + 1)) := ⟨_, rfl⟩
  rw [← hM1] at hP
  have hm : M1 = if tX7_rawValue M (xs (6 * k + 1)) = 0 then mU M 133 0 (fX7_rawValue M (xs (6 * k + 1))) else M := hM1
  have hG1 := g_mid hG r0 hm
  have r1 := rel_rawValue hG1 (xs (6 * k + 1))
  refine lv_istore (lv' := (5, .int (cd [1] (tX7_rawValue M (xs (6 * k + 1))))) :: lvL b bb (nI (6 * k))) hx hb dL_law_1174 hl (by decide) rfl (fun ls hl => ?_)
  refine lv_aload_n hx hb dL_law_1176 rfl (lv_at hl 3 rfl) ?_
  refine law_arg 1 hW hk (by decide) hS (lv_at hl 1 rfl) (lv_at hl 5 rfl) dL_law_1177 dL_law_1178 dL_law_1180 rfl dL_law_1181 dL_law_1182 ?_
  refine xc_i (va_runV (As := [.int (xs (6 * k + 1))]) (rest := []) ⟨hx, hb, hml, hown, hts⟩ (c_X8_rawValue l D cy bb 134 (by decide) M1 (xs (6 * k + 1)) (g_mny hG1) (g_bxs hG1) (g_tmp hG1)) (cwV 1 hts gL_law_X8_rawValue rfl rfl rfl (by decide +kernel) ⟨Nat.le_of_ble_eq_true rfl, Nat.le_of_ble_eq_true rfl⟩) (xPreV hP hK hX hS (by decide) (cell8 (by decide)) rfl) rfl rfl hl.1 rfl (lv_room (Nat.le_of_ble_eq_true rfl)) dL_law_1183 ⟨by show cells + _ + _ ≤ 601024; omega, by show slots + _ + _ ≤ 7293034; omega⟩) hS (fun H locs hP hS => ?_)
  obtain ⟨e1, e2, e3⟩ := g_end (by decide) r1 hm
  obtain ⟨M2, hM2⟩ : ∃ z, z = gX8_rawValue M1 (xs (6 * k + 1)) := ⟨_, rfl⟩
  rw [← hM2] at hP e1 e2 e3
  refine lv_istore (lv' := (6, .int (fX8_rawValue M1 (xs (6 * k + 1)))) :: (5, .int (cd [1] (tX7_rawValue M (xs (6 * k + 1))))) :: lvL b bb (nI (6 * k))) hx hb dL_law_1186 hl (by decide) rfl (fun ls hl => ?_)
  refine law_tail hW hP hS (by omega) (by omega) hl e2 (fun h => (e3 h).1.trans (e3 h).2) dL_law_1188 dL_law_1189 dL_law_1192 dL_law_1194 dL_law_1199 dL_law_1201 dL_law_1204 dL_law_1205 dL_law_1206 dL_law_1207 dL_law_1209 dL_law_1210 dL_law_1211 dL_law_1216 (by decide) (fun H locs ls hP hS hl => ?_) (by decide)
  refine W.widen (k := cells + 2) (n := slots + 12) (by omega) (by omega) ?_
  exact kk M2 H locs ls e1 hP hS hl
set_option maxHeartbeats 4000000 in
set_option maxRecDepth 100000 in
theorem law_22 {p : Program} {l : Launch} {e : Env} {s : State} {m : MethodId} {args : Array Value} {below : List Frame} {meth : Method} {c : Code} {H : Heap} {locs : List Loc} {cells slots : Nat} {Q : State → Prop} {ls : Array Slot} {D : va_G} {cy : Nat → ClassId} {bb b L : Nat} {xs : Nat → Int32} {M : Mem} {k : Nat} (hW : LW p l s m args c D cy bb b L xs) (hk : 6 * k + 6 ≤ L) (hc : cells + 2 ≤ 601024) (hs : slots + 12 ≤ 7293034) (hG : G M M) (hP : va_P D vwCl (wL cy bb fT M 134) H) (hS : va_S (fr bb) s.heap H locs) (hl : lv_has ls 9 (lvL b bb (nI (6 * k))))
    (kk : ∀ (M1 : Mem) (H1 : Heap) (locs1 : List Loc) (ls1 : Array Slot), G M1 M1 → va_P D vwCl (wL cy bb fT M1 134) H1 → va_S (fr bb) s.heap H1 locs1 → lv_has ls1 9 (lvL b bb (nI (6 * k))) → W p l e room_1 s m args below meth c H1 locs1 (cells + 2) (slots + 12) Q (F0 m 2726 ls1 [])) : W p l e room_1 s m args below meth c H locs cells slots Q (F0 m 1219 ls []) := by
  obtain ⟨hx, hb, hml, hts, hown, hK, hX, hXs, hbl, hbb, hst, hL⟩ := id hW
  refine lv_aload_n hx hb dL_law_1219 rfl (lv_at hl 1 rfl) ?_
  refine law_arg 1 hW hk (by decide) hS (lv_at hl 0 rfl) (lv_at hl 4 rfl) dL_law_1220 dL_law_1221 dL_law_1223 rfl dL_law_1224 dL_law_1225 ?_
  refine lv_aload_n hx hb dL_law_1226 rfl (lv_at hl 3 rfl) ?_
  refine xc_i (vx_runSW (As := [.ref (bb + 0), .int (xs (6 * k + 1)), .ref (bb + 133)]) (rest := []) ⟨hx, hb, hml, hown, hts⟩ (c_L_readingOf l hst D cy bb 134 (by decide) M (xs (6 * k + 1)) (g_cnt hG)) (vx_cwSW 3 hts gL_law_L_readingOf rfl rfl rfl (by decide +kernel) ⟨Nat.le_of_ble_eq_true rfl, Nat.le_of_ble_eq_true rfl⟩) (xPreS hP hK hX hS) rfl rfl hl.1 rfl (lv_room (Nat.le_of_ble_eq_true rfl)) dL_law_1227 ⟨by show cells + _ ≤ 601024; omega, by show slots + _ ≤ 7293034; omega⟩) hS (fun H locs hP hS => ?_)
  have r0 := rel_readingOf hG (xs (6 * k + 1))
  obtain ⟨M1, hM1⟩ : ∃ z, z = gL_readingOf M (xs (6 * k + 1)) := ⟨_, rfl⟩
  rw [← hM1] at hP
  have hm : M1 = if tX7_readingOf M (xs (6 * k + 1)) = 0 then mU M 133 0 (fX7_readingOf M (xs (6 * k + 1))) else M := hM1
  have hG1 := g_mid hG r0 hm
  have r1 := rel_readingOf hG1 (xs (6 * k + 1))
  refine lv_istore (lv' := (5, .int (cd [1] (tX7_readingOf M (xs (6 * k + 1))))) :: lvL b bb (nI (6 * k))) hx hb dL_law_1230 hl (by decide) rfl (fun ls hl => ?_)
  refine lv_aload_n hx hb dL_law_1232 rfl (lv_at hl 3 rfl) ?_
  refine law_arg 1 hW hk (by decide) hS (lv_at hl 1 rfl) (lv_at hl 5 rfl) dL_law_1233 dL_law_1234 dL_law_1236 rfl dL_law_1237 dL_law_1238 ?_
  refine xc_i (va_runV (As := [.int (xs (6 * k + 1))]) (rest := []) ⟨hx, hb, hml, hown, hts⟩ (c_X8_readingOf l D cy bb 134 (by decide) M1 (xs (6 * k + 1)) (g_mny hG1) (g_bxs hG1) (g_tmp hG1)) (cwV 1 hts gL_law_X8_readingOf rfl rfl rfl (by decide +kernel) ⟨Nat.le_of_ble_eq_true rfl, Nat.le_of_ble_eq_true rfl⟩) (xPreV hP hK hX hS (by decide) (cell8 (by decide)) rfl) rfl rfl hl.1 rfl (lv_room (Nat.le_of_ble_eq_true rfl)) dL_law_1239 ⟨by show cells + _ + _ ≤ 601024; omega, by show slots + _ + _ ≤ 7293034; omega⟩) hS (fun H locs hP hS => ?_)
  obtain ⟨e1, e2, e3⟩ := g_end (by decide) r1 hm
  obtain ⟨M2, hM2⟩ : ∃ z, z = gX8_readingOf M1 (xs (6 * k + 1)) := ⟨_, rfl⟩
  rw [← hM2] at hP e1 e2 e3
  refine lv_istore (lv' := (6, .int (fX8_readingOf M1 (xs (6 * k + 1)))) :: (5, .int (cd [1] (tX7_readingOf M (xs (6 * k + 1))))) :: lvL b bb (nI (6 * k))) hx hb dL_law_1242 hl (by decide) rfl (fun ls hl => ?_)
  refine law_tail hW hP hS (by omega) (by omega) hl e2 (fun h => (e3 h).1.trans (e3 h).2) dL_law_1244 dL_law_1245 dL_law_1248 dL_law_1250 dL_law_1255 dL_law_1257 dL_law_1260 dL_law_1261 dL_law_1262 dL_law_1263 dL_law_1265 dL_law_1266 dL_law_1267 dL_law_1272 (by decide) (fun H locs ls hP hS hl => ?_) (by decide)
  refine W.widen (k := cells + 2) (n := slots + 12) (by omega) (by omega) ?_
  exact kk M2 H locs ls e1 hP hS hl
