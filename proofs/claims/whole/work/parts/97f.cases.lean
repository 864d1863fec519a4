/-! the cases of the law -/
set_option maxHeartbeats 4000000 in
set_option maxRecDepth 100000 in
theorem law_39 {p : Program} {l : Launch} {e : Env} {s : State} {m : MethodId} {args : Array Value} {below : List Frame} {meth : Method} {c : Code} {H : Heap} {locs : List Loc} {cells slots : Nat} {Q : State → Prop} {ls : Array Slot} {D : va_G} {cy : Nat → ClassId} {bb b L : Nat} {xs : Nat → Int32} {M : Mem} {k : Nat} (hW : LW p l s m args c D cy bb b L xs) (hk : 6 * k + 6 ≤ L) (hc : cells + 2 ≤ 601024) (hs : slots + 12 ≤ 7293034) (hG : G M M) (hP : va_P D vwCl (wL cy bb fT M 134) H) (hS : va_S (fr bb) s.heap H locs) (hl : lv_has ls 9 (lvL b bb (nI (6 * k))))
    (kk : ∀ (M1 : Mem) (H1 : Heap) (locs1 : List Loc) (ls1 : Array Slot), G M1 M1 → va_P D vwCl (wL cy bb fT M1 134) H1 → va_S (fr bb) s.heap H1 locs1 → lv_has ls1 9 (lvL b bb (nI (6 * k))) → W p l e room_1 s m args below meth c H1 locs1 (cells + 2) (slots + 12) Q (F0 m 2726 ls1 [])) : W p l e room_1 s m args below meth c H locs cells slots Q (F0 m 1861 ls []) := by
  obtain ⟨hx, hb, hml, hts, hown, hK, hX, hXs, hbl, hbb, hst, hL⟩ := id hW
  refine lv_aload_n hx hb dL_law_1861 rfl (lv_at hl 1 rfl) ?_
  refine law_arg 1 hW hk (by decide) hS (lv_at hl 0 rfl) (lv_at hl 4 rfl) dL_law_1862 dL_law_1863 dL_law_1865 rfl dL_law_1866 dL_law_1867 ?_
  refine lv_aload_n hx hb dL_law_1868 rfl (lv_at hl 3 rfl) ?_
  refine xc_i (vx_runSW (As := [.ref (bb + 0), .int (xs (6 * k + 1)), .ref (bb + 133)]) (rest := []) ⟨hx, hb, hml, hown, hts⟩ (c_L_advance l hst D cy bb 134 (by decide) M (xs (6 * k + 1)) (g_cnt hG) (g_hnx hG)) (vx_cwSW 3 hts gL_law_L_advance rfl rfl rfl (by decide +kernel) ⟨Nat.le_of_ble_eq_true rfl, Nat.le_of_ble_eq_true rfl⟩) (xPreS hP hK hX hS) rfl rfl hl.1 rfl (lv_room (Nat.le_of_ble_eq_true rfl)) dL_law_1869 ⟨by show cells + _ ≤ 601024; omega, by show slots + _ ≤ 7293034; omega⟩) hS (fun H locs hP hS => ?_)
  have r0 := rel_advance hG (xs (6 * k + 1))
  obtain ⟨M1, hM1⟩ : ∃ z, z = gL_advance M (xs (6 * k + 1)) := ⟨_, rfl⟩
  rw [← hM1] at hP
  have hm : M1 = if tX7_advance M (xs (6 * k + 1)) = 0 then mU (gX7_advance M (xs (6 * k + 1))) 133 0 (fX7_advance M (xs (6 * k + 1))) else (gX7_advance M (xs (6 * k + 1))) := hM1
  have hG1 := g_mid hG r0 hm
  have r1 := rel_advance hG1 (xs (6 * k + 1))
  refine lv_istore (lv' := (5, .int (cd [2, 3] (tX7_advance M (xs (6 * k + 1))))) :: lvL b bb (nI (6 * k))) hx hb dL_law_1872 hl (by decide) rfl (fun ls hl => ?_)
  refine lv_aload_n hx hb dL_law_1874 rfl (lv_at hl 3 rfl) ?_
  refine law_arg 1 hW hk (by decide) hS (lv_at hl 1 rfl) (lv_at hl 5 rfl) dL_law_1875 dL_law_1876 dL_law_1878 rfl dL_law_1879 dL_law_1880 ?_
  refine xc_i (va_runV (As := [.int (xs (6 * k + 1))]) (rest := []) ⟨hx, hb, hml, hown, hts⟩ (c_X8_advance l D cy bb 134 (by decide) M1 (xs (6 * k + 1)) (g_mny hG1) (g_bxs hG1) (g_ho hG1)) (cwV 1 hts gL_law_X8_advance rfl rfl rfl (by decide +kernel) ⟨Nat.le_of_ble_eq_true rfl, Nat.le_of_ble_eq_true rfl⟩) (xPreV hP hK hX hS (by decide) (cell8 (by decide)) rfl) rfl rfl hl.1 rfl (lv_room (Nat.le_of_ble_eq_true rfl)) dL_law_1881 ⟨by show cells + _ + _ ≤ 601024; omega, by show slots + _ + _ ≤ 7293034; omega⟩) hS (fun H locs hP hS => ?_)
  obtain ⟨e1, e2, e3⟩ := g_end (by decide) r1 hm
  obtain ⟨M2, hM2⟩ : ∃ z, z = gX8_advance M1 (xs (6 * k + 1)) := ⟨_, rfl⟩
  rw [← hM2] at hP e1 e2 e3
  refine lv_istore (lv' := (6, .int (fX8_advance M1 (xs (6 * k + 1)))) :: (5, .int (cd [2, 3] (tX7_advance M (xs (6 * k + 1))))) :: lvL b bb (nI (6 * k))) hx hb dL_law_1884 hl (by decide) rfl (fun ls hl => ?_)
  refine law_tail hW hP hS (by omega) (by omega) hl e2 (fun h => (e3 h).1.trans (e3 h).2) dL_law_1886 dL_law_1887 dL_law_1890 dL_law_1892 dL_law_1897 dL_law_1899 dL_law_1902 dL_law_1903 dL_law_1904 dL_law_1905 dL_law_1907 dL_law_1908 dL_law_1909 dL_law_1914 (by decide) (fun H locs ls hP hS hl => ?_) (by decide)
  refine W.widen (k := cells + 2) (n := slots + 12) (by omega) (by omega) ?_
  exact kk M2 H locs ls e1 hP hS hl
set_option maxHeartbeats 4000000 in
set_option maxRecDepth 100000 in
theorem law_40 {p : Program} {l : Launch} {e : Env} {s : State} {m : MethodId} {args : Array Value} {below : List Frame} {meth : Method} {c : Code} {H : Heap} {locs : List Loc} {cells slots : Nat} {Q : State → Prop} {ls : Array Slot} {D : va_G} {cy : Nat → ClassId} {bb b L : Nat} {xs : Nat → Int32} {M : Mem} {k : Nat} (hW : LW p l s m args c D cy bb b L xs) (hk : 6 * k + 6 ≤ L) (hc : cells + 2 ≤ 601024) (hs : slots + 12 ≤ 7293034) (hG : G M M) (hP : va_P D vwCl (wL cy bb fT M 134) H) (hS : va_S (fr bb) s.heap H locs) (hl : lv_has ls 9 (lvL b bb (nI (6 * k))))
    (kk : ∀ (M1 : Mem) (H1 : Heap) (locs1 : List Loc) (ls1 : Array Slot), G M1 M1 → va_P D vwCl (wL cy bb fT M1 134) H1 → va_S (fr bb) s.heap H1 locs1 → lv_has ls1 9 (lvL b bb (nI (6 * k))) → W p l e room_1 s m args below meth c H1 locs1 (cells + 2) (slots + 12) Q (F0 m 2726 ls1 [])) : W p l e room_1 s m args below meth c H locs cells slots Q (F0 m 1917 ls []) := by
  obtain ⟨hx, hb, hml, hts, hown, hK, hX, hXs, hbl, hbb, hst, hL⟩ := id hW
  refine lv_aload_n hx hb dL_law_1917 rfl (lv_at hl 1 rfl) ?_
  refine law_arg 1 hW hk (by decide) hS (lv_at hl 0 rfl) (lv_at hl 4 rfl) dL_law_1918 dL_law_1919 dL_law_1921 rfl dL_law_1922 dL_law_1923 ?_
  refine lv_aload_n hx hb dL_law_1924 rfl (lv_at hl 3 rfl) ?_
  refine xc_i (vx_runSW (As := [.ref (bb + 0), .int (xs (6 * k + 1)), .ref (bb + 133)]) (rest := []) ⟨hx, hb, hml, hown, hts⟩ (c_L_setHumidity l hst D cy bb 134 (by decide) M (xs (6 * k + 1)) (g_cnt hG) (g_hnx hG)) (vx_cwSW 3 hts gL_law_L_setHumidity rfl rfl rfl (by decide +kernel) ⟨Nat.le_of_ble_eq_true rfl, Nat.le_of_ble_eq_true rfl⟩) (xPreS hP hK hX hS) rfl rfl hl.1 rfl (lv_room (Nat.le_of_ble_eq_true rfl)) dL_law_1925 ⟨by show cells + _ ≤ 601024; omega, by show slots + _ ≤ 7293034; omega⟩) hS (fun H locs hP hS => ?_)
  have r0 := rel_setHumidity hG (xs (6 * k + 1))
  obtain ⟨M1, hM1⟩ : ∃ z, z = gL_setHumidity M (xs (6 * k + 1)) := ⟨_, rfl⟩
  rw [← hM1] at hP
  have hm : M1 = if tX7_setHumidity M (xs (6 * k + 1)) = 0 then mU (gX7_setHumidity M (xs (6 * k + 1))) 133 0 (fX7_setHumidity M (xs (6 * k + 1))) else (gX7_setHumidity M (xs (6 * k + 1))) := hM1
  have hG1 := g_mid hG r0 hm
  have r1 := rel_setHumidity hG1 (xs (6 * k + 1))
  refine lv_istore (lv' := (5, .int (cd [2] (tX7_setHumidity M (xs (6 * k + 1))))) :: lvL b bb (nI (6 * k))) hx hb dL_law_1928 hl (by decide) rfl (fun ls hl => ?_)
  refine lv_aload_n hx hb dL_law_1930 rfl (lv_at hl 3 rfl) ?_
  refine law_arg 1 hW hk (by decide) hS (lv_at hl 1 rfl) (lv_at hl 5 rfl) dL_law_1931 dL_law_1932 dL_law_1934 rfl dL_law_1935 dL_law_1936 ?_
  refine xc_i (va_runV (As := [.int (xs (6 * k + 1))]) (rest := []) ⟨hx, hb, hml, hown, hts⟩ (c_X8_setHumidity l D cy bb 134 (by decide) M1 (xs (6 * k + 1)) (g_ho hG1)) (cwV 1 hts gL_law_X8_setHumidity rfl rfl rfl (by decide +kernel) ⟨Nat.le_of_ble_eq_true rfl, Nat.le_of_ble_eq_true rfl⟩) (xPreV hP hK hX hS (by decide) (cell8 (by decide)) rfl) rfl rfl hl.1 rfl (lv_room (Nat.le_of_ble_eq_true rfl)) dL_law_1937 ⟨by show cells + _ + _ ≤ 601024; omega, by show slots + _ + _ ≤ 7293034; omega⟩) hS (fun H locs hP hS => ?_)
  obtain ⟨e1, e2, e3⟩ := g_end (by decide) r1 hm
  obtain ⟨M2, hM2⟩ : ∃ z, z = gX8_setHumidity M1 (xs (6 * k + 1)) := ⟨_, rfl⟩
  rw [← hM2] at hP e1 e2 e3
  refine lv_istore (lv' := (6, .int (fX8_setHumidity M1 (xs (6 * k + 1)))) :: (5, .int (cd [2] (tX7_setHumidity M (xs (6 * k + 1))))) :: lvL b bb (nI (6 * k))) hx hb dL_law_1940 hl (by decide) rfl (fun ls hl => ?_)
  refine law_tail hW hP hS (by omega) (by omega) hl e2 (fun h => (e3 h).1.trans (e3 h).2) dL_law_1942 dL_law_1943 dL_law_1946 dL_law_1948 dL_law_1953 dL_law_1955 dL_law_1958 dL_law_1959 dL_law_1960 dL_law_1961 dL_law_1963 dL_law_1964 dL_law_1965 dL_law_1970 (by decide) (fun H locs ls hP hS hl => ?_) (by decide)
  refine W.widen (k := cells + 2) (n := slots + 12) (by omega) (by omega) ?_
  exact kk M2 H locs ls e1 hP hS hl
set_option maxHeartbeats 4000000 in
set_option maxRecDepth 100000 in
theorem law_41 {p : Program} {l : Launch} {e : Env} {s : State} {m : MethodId} {args : Array Value} {below : List Frame} {meth : Method} {c : Code} {H : Heap} {locs : List Loc} {cells slots : Nat} {Q : State → Prop} {ls : Array Slot} {D : va_G} {cy : Nat → ClassId} {bb b L : Nat} {xs : Nat → Int32} {M : Mem} {k : Nat} (hW : LW p l s m args c D cy bb b L xs) (hk : 6 * k + 6 ≤ L) (hc : cells + 2 ≤ 601024) (hs : slots + 12 ≤ 7293034) (hG : G M M) (hP : va_P D vwCl (wL cy bb fT M 134) H) (hS : va_S (fr bb) s.heap H locs) (hl : lv_has ls 9 (lvL b bb (nI (6 * k))))
    (kk : ∀ (M1 : Mem) (H1 : Heap) (locs1 : List Loc) (ls1 : Array Slot), G M1 M1 → va_P D vwCl (wL cy bb fT M1 134) H1 → va_S (fr bb) s.heap H1 locs1 → lv_has ls1 9 (lvL b bb (nI (6 * k))) → W p l e room_1 s m args below meth c H1 locs1 (cells + 2) (slots + 12) Q (F0 m 2726 ls1 [])) : W p l e room_1 s m args below meth c H locs cells slots Q (F0 m 1973 ls []) := by
  obtain ⟨hx, hb, hml, hts, hown, hK, hX, hXs, hbl, hbb, hst, hL⟩ := id hW
  refine lv_aload_n hx hb dL_law_1973 rfl (lv_at hl 1 rfl) ?_
  refine law_arg 1 hW hk (by decide) hS (lv_at hl 0 rfl) (lv_at hl 4 rfl) dL_law_1974 dL_law_1975 dL_law_1977 rfl dL_law_1978 dL_law_1979 ?_
  refine lv_aload_n hx hb dL_law_1980 rfl (lv_at hl 3 rfl) ?_
  refine xc_i (vx_runSW (As := [.ref (bb + 0), .int (xs (6 * k + 1)), .ref (bb + 133)]) (rest := []) ⟨hx, hb, hml, hown, hts⟩ (c_L_setTemperature l hst D cy bb 134 (by decide) M (xs (6 * k + 1)) (g_cnt hG) (g_hnx hG)) (vx_cwSW 3 hts gL_law_L_setTemperature rfl rfl rfl (by decide +kernel) ⟨Nat.le_of_ble_eq_true rfl, Nat.le_of_ble_eq_true rfl⟩) (xPreS hP hK hX hS) rfl rfl hl.1 rfl (lv_room (Nat.le_of_ble_eq_true rfl)) dL_law_1981 ⟨by show cells + _ ≤ 601024; omega, by show slots + _ ≤ 7293034; omega⟩) hS (fun H locs hP hS => ?_)
  have r0 := rel_setTemperature hG (xs (6 * k + 1))
  obtain ⟨M1, hM1⟩ : ∃ z, z = gL_setTemperature M (xs (6 * k + 1)) := ⟨_, rfl⟩
  rw [← hM1] at hP
  have hm : M1 = if tX7_setTemperature M (xs (6 * k + 1)) = 0 then mU (gX7_setTemperature M (xs (6 * k + 1))) 133 0 (fX7_setTemperature M (xs (6 * k + 1))) else (gX7_setTemperature M (xs (6 * k + 1))) := hM1
  have hG1 := g_mid hG r0 hm
  have r1 := rel_setTemperature hG1 (xs (6 * k + 1))
  refine lv_istore (lv' := (5, .int (cd [2] (tX7_setTemperature M (xs (6 * k + 1))))) :: lvL b bb (nI (6 * k))) hx hb dL_law_1984 hl (by decide) rfl (fun ls hl => ?_)
  refine lv_aload_n hx hb dL_law_1986 rfl (lv_at hl 3 rfl) ?_
  refine law_arg 1 hW hk (by decide) hS (lv_at hl 1 rfl) (lv_at hl 5 rfl) dL_law_1987 dL_law_1988 dL_law_1990 rfl dL_law_1991 dL_law_1992 ?_
  refine xc_i (va_runV (As := [.int (xs (6 * k + 1))]) (rest := []) ⟨hx, hb, hml, hown, hts⟩ (c_X8_setTemperature l D cy bb 134 (by decide) M1 (xs (6 * k + 1)) (g_ho hG1)) (cwV 1 hts gL_law_X8_setTemperature rfl rfl rfl (by decide +kernel) ⟨Nat.le_of_ble_eq_true rfl, Nat.le_of_ble_eq_true rfl⟩) (xPreV hP hK hX hS (by decide) (cell8 (by decide)) rfl) rfl rfl hl.1 rfl (lv_room (Nat.le_of_ble_eq_true rfl)) dL_law_1993 ⟨by show cells + _ + _ ≤ 601024; omega, by show slots + _ + _ ≤ 7293034; omega⟩) hS (fun H locs hP hS => ?_)
  obtain ⟨e1, e2, e3⟩ := g_end (by decide) r1 hm
  obtain ⟨M2, hM2⟩ : ∃ z, z = gX8_setTemperature M1 (xs (6 * k + 1)) := ⟨_, rfl⟩
  rw [← hM2] at hP e1 e2 e3
  refine lv_istore (lv' := (6, .int (fX8_setTemperature M1 (xs (6 * k + 1)))) :: (5, .int (cd [2] (tX7_setTemperature M (xs (6 * k + 1))))) :: lvL b bb (nI (6 * k))) hx hb dL_law_1996 hl (by decide) rfl (fun ls hl => ?_)
  refine law_tail hW hP hS (by omega) (by omega) hl e2 (fun h => (e3 h).1.trans (e3 h).2) dL_law_1998 dL_law_1999 dL_law_2002 dL_law_2004 dL_law_2009 dL_law_2011 dL_law_2014 dL_law_2015 dL_law_2016 dL_law_2017 dL_law_2019 dL_law_2020 dL_law_2021 dL_law_2026 (by decide) (fun H locs ls hP hS hl => ?_) (by decide)
  refine W.widen (k := cells + 2) (n := slots + 12) (by omega) (by omega) ?_
  exact kk M2 H locs ls e1 hP hS hl
set_option maxHeartbeats 4000000 in
set_option maxRecDepth 100000 in
theorem law_42 {p : Program} {l : Launch} {e : Env} {s : State} {m : MethodId} {args : Array Value} {below : List Frame} {meth : Method} {c : Code} {H : Heap} {locs : List Loc} {cells slots : Nat} {Q : State → Prop} {ls : Array Slot} {D : va_G} {cy : Nat → ClassId} {bb b L : Nat} {xs : Nat → Int32} {M : Mem} {k : Nat} (hW : LW p l s m args c D cy bb b L xs) (hk : 6 * k + 6 ≤ L) (hc : cells + 2 ≤ 601024) (hs : slots + 12 ≤ 7293034) (hG : G M M) (hP : va_P D vwCl (wL cy bb fT M 134) H) (hS : va_S (fr bb) s.heap H locs) (hl : lv_has ls 9 (lvL b bb (nI (6 * k))))
    (kk : ∀ (M1 : Mem) (H1 : Heap) (locs1 : List Loc) (ls1 : Array Slot), G M1 M1 → va_P D vwCl (wL cy bb fT M1 134) H1 → va_S (fr bb) s.heap H1 locs1 → lv_has ls1 9 (lvL b bb (nI (6 * k))) → W p l e room_1 s m args below meth c H1 locs1 (cells + 2) (slots + 12) Q (F0 m 2726 ls1 [])) : W p l e room_1 s m args below meth c H locs cells slots Q (F0 m 2029 ls []) := by
  obtain ⟨hx, hb, hml, hts, hown, hK, hX, hXs, hbl, hbb, hst, hL⟩ := id hW
  refine lv_aload_n hx hb dL_law_2029 rfl (lv_at hl 1 rfl) ?_
  refine law_arg 1 hW hk (by decide) hS (lv_at hl 0 rfl) (lv_at hl 4 rfl) dL_law_2030 dL_law_2031 dL_law_2033 rfl dL_law_2034 dL_law_2035 ?_
  refine lv_aload_n hx hb dL_law_2036 rfl (lv_at hl 3 rfl) ?_
  refine xc_i (vx_runSW (As := [.ref (bb + 0), .int (xs (6 * k + 1)), .ref (bb + 133)]) (rest := []) ⟨hx, hb, hml, hown, hts⟩ (c_L_setSkill l hst D cy bb 134 (by decide) M (xs (6 * k + 1)) (g_cnt hG) (g_hnx hG)) (vx_cwSW 3 hts gL_law_L_setSkill rfl rfl rfl (by decide +kernel) ⟨Nat.le_of_ble_eq_true rfl, Nat.le_of_ble_eq_true rfl⟩) (xPreS hP hK hX hS) rfl rfl hl.1 rfl (lv_room (Nat.le_of_ble_eq_true rfl)) dL_law_2037 ⟨by show cells + _ ≤ 601024; omega, by show slots + _ ≤ 7293034; omega⟩) hS (fun H locs hP hS => ?_)
  have r0 := rel_setSkill hG (xs (6 * k + 1))
  obtain ⟨M1, hM1⟩ : ∃ z, z = gL_setSkill M (xs (6 * k + 1)) := ⟨_, rfl⟩
  rw [← hM1] at hP
  have hm : M1 = if tX7_setSkill M (xs (6 * k + 1)) = 0 then mU (gX7_setSkill M (xs (6 * k + 1))) 133 0 (fX7_setSkill M (xs (6 * k + 1))) else (gX7_setSkill M (xs (6 * k + 1))) := hM1
  have hG1 := g_mid hG r0 hm
  have r1 := rel_setSkill hG1 (xs (6 * k + 1))
  refine lv_istore (lv' := (5, .int (cd [2] (tX7_setSkill M (xs (6 * k + 1))))) :: lvL b bb (nI (6 * k))) hx hb dL_law_2040 hl (by decide) rfl (fun ls hl => ?_)
  refine lv_aload_n hx hb dL_law_2042 rfl (lv_at hl 3 rfl) ?_
  refine law_arg 1 hW hk (by decide) hS (lv_at hl 1 rfl) (lv_at hl 5 rfl) dL_law_2043 dL_law_2044 dL_law_2046 rfl dL_law_2047 dL_law_2048 ?_
  refine xc_i (va_runV (As := [.int (xs (6 * k + 1))]) (rest := []) ⟨hx, hb, hml, hown, hts⟩ (c_X8_setSkill l D cy bb 134 (by decide) M1 (xs (6 * k + 1)) (g_ho hG1)) (cwV 1 hts gL_law_X8_setSkill rfl rfl rfl (by decide +kernel) ⟨Nat.le_of_ble_eq_true rfl, Nat.le_of_ble_eq_true rfl⟩) (xPreV hP hK hX hS (by decide) (cell8 (by decide)) rfl) rfl rfl hl.1 rfl (lv_room (Nat.le_of_ble_eq_true rfl)) dL_law_2049 ⟨by show cells + _ + _ ≤ 601024; omega, by show slots + _ + _ ≤ 7293034; omega⟩) hS (fun H locs hP hS => ?_)
  obtain ⟨e1, e2, e3⟩ := g_end (by decide) r1 hm
  obtain ⟨M2, hM2⟩ : ∃ z, z = gX8_setSkill M1 (xs (6 * k + 1)) := ⟨_, rfl⟩
  rw [← hM2] at hP e1 e2 e3
  refine lv_istore (lv' := (6, .int (fX8_setSkill M1 (xs (6 * k + 1)))) :: (5, .int (cd [2] (tX7_setSkill M (xs (6 * k + 1))))) :: lvL b bb (nI (6 * k))) hx hb dL_law_2052 hl (by decide) rfl (fun ls hl => ?_)
  refine law_tail hW hP hS (by omega) (by omega) hl e2 (fun h => (e3 h).1.trans (e3 h).2) dL_law_2054 dL_law_2055 dL_law_2058 dL_law_2060 dL_law_2065 dL_law_2067 dL_law_2070 dL_law_2071 dL_law_2072 dL_law_2073 dL_law_2075 dL_law_2076 dL_law_2077 dL_law_2082 (by decide) (fun H locs ls hP hS hl => ?_) (by decide)
  refine W.widen (k := cells + 2) (n := slots + 12) (by omega) (by omega) ?_
  exact kk M2 H locs ls e1 hP hS hl
set_option maxHeartbeats 4000000 in
set_option maxRecDepth 100000 in
theorem law_43 {p : Program} {l : Launch} {e : Env} {s : State} {m : MethodId} {args : Array Value} {below : List Frame} {meth : Method} {c : Code} {H : Heap} {locs : List Loc} {cells slots : Nat} {Q : State → Prop} {ls : Array Slot} {D : va_G} {cy : Nat → ClassId} {bb b L : Nat} {xs : Nat → Int32} {M : Mem} {k : Nat} (hW : LW p l s m args c D cy bb b L xs) (hk : 6 * k + 6 ≤ L) (hc : cells + 2 ≤ 601024) (hs : slots + 12 ≤ 7293034) (hG : G M M) (hP : va_P D vwCl (wL cy bb fT M 134) H) (hS : va_S (fr bb) s.heap H locs) (hl : lv_has ls 9 (lvL b bb (nI (6 * k))))
    (kk : ∀ (M1 : Mem) (H1 : Heap) (locs1 : List Loc) (ls1 : Array Slot), G M1 M1 → va_P D vwCl (wL cy bb fT M1 134) H1 → va_S (fr bb) s.heap H1 locs1 → lv_has ls1 9 (lvL b bb (nI (6 * k))) → W p l e room_1 s m args below meth c H1 locs1 (cells + 2) (slots + 12) Q (F0 m 2726 ls1 [])) : W p l e room_1 s m args below meth c H locs cells slots Q (F0 m 2085 ls []) := by
  obtain ⟨hx, hb, hml, hts, hown, hK, hX, hXs, hbl, hbb, hst, hL⟩ := id hW
  refine lv_aload_n hx hb dL_law_2085 rfl (lv_at hl 1 rfl) ?_
  refine law_arg 1 hW hk (by decide) hS (lv_at hl 0 rfl) (lv_at hl 4 rfl) dL_law_2086 dL_law_2087 dL_law_2089 rfl dL_law_2090 dL_law_2091 ?_
  refine law_arg 2 hW hk (by decide) hS (lv_at hl 0 rfl) (lv_at hl 4 rfl) dL_law_2092 dL_law_2093 dL_law_2095 rfl dL_law_2096 dL_law_2097 ?_
  refine lv_aload_n hx hb dL_law_2098 rfl (lv_at hl 3 rfl) ?_
  refine xc_i (vx_runSW (As := [.ref (bb + 0), .int (xs (6 * k + 1)), .int (xs (6 * k + 2)), .ref (bb + 133)]) (rest := []) ⟨hx, hb, hml, hown, hts⟩ (c_L_putInBox l hst D cy bb 134 (by decide) M (xs (6 * k + 1)) (xs (6 * k + 2)) (g_cnt hG) (g_hnx hG)) (vx_cwSW 4 hts gL_law_L_putInBox rfl rfl rfl (by decide +kernel) ⟨Nat.le_of_ble_eq_true rfl, Nat.le_of_ble_eq_true rfl⟩) (xPreS hP hK hX hS) rfl rfl hl.1 rfl (lv_room (Nat.le_of_ble_eq_true rfl)) dL_law_2099 ⟨by show cells + _ ≤ 601024; omega, by show slots + _ ≤ 7293034; omega⟩) hS (fun H locs hP hS => ?_)
  have r0 := rel_putInBox hG (xs (6 * k + 1)) (xs (6 * k + 2))
  obtain ⟨M1, hM1⟩ : ∃ z, z = gL_putInBox M (xs (6 * k + 1)) (xs (6 * k + 2)) := ⟨_, rfl⟩
  rw [← hM1] at hP
  have hm : M1 = if tX7_putInBox M (xs (6 * k + 1)) (xs (6 * k + 2)) = 0 then mU (gX7_putInBox M (xs (6 * k + 1)) (xs (6 * k + 2))) 133 0 (fX7_putInBox M (xs (6 * k + 1)) (xs (6 * k + 2))) else (gX7_putInBox M (xs (6 * k + 1)) (xs (6 * k + 2))) := hM1
  have hG1 := g_mid hG r0 hm
  have r1 := rel_putInBox hG1 (xs (6 * k + 1)) (xs (6 * k + 2))
  refine lv_istore (lv' := (5, .int (cd [1, 2, 3] (tX7_putInBox M (xs (6 * k + 1)) (xs (6 * k + 2))))) :: lvL b bb (nI (6 * k))) hx hb dL_law_2102 hl (by decide) rfl (fun ls hl => ?_)
  refine lv_aload_n hx hb dL_law_2104 rfl (lv_at hl 3 rfl) ?_
  refine law_arg 1 hW hk (by decide) hS (lv_at hl 1 rfl) (lv_at hl 5 rfl) dL_law_2105 dL_law_2106 dL_law_2108 rfl dL_law_2109 dL_law_2110 ?_
  refine law_arg 2 hW hk (by decide) hS (lv_at hl 1 rfl) (lv_at hl 5 rfl) dL_law_2111 dL_law_2112 dL_law_2114 rfl dL_law_2115 dL_law_2116 ?_
  refine xc_i (va_runV (As := [.int (xs (6 * k + 1)), .int (xs (6 * k + 2))]) (rest := []) ⟨hx, hb, hml, hown, hts⟩ (c_X8_putInBox l D cy bb 134 (by decide) M1 (xs (6 * k + 1)) (xs (6 * k + 2)) (g_mny hG1) (g_bxs hG1) (g_ho hG1)) (cwV 2 hts gL_law_X8_putInBox rfl rfl rfl (by decide +kernel) ⟨Nat.le_of_ble_eq_true rfl, Nat.le_of_ble_eq_true rfl⟩) (xPreV hP hK hX hS (by decide) (cell8 (by decide)) rfl) rfl rfl hl.1 rfl (lv_room (Nat.le_of_ble_eq_true rfl)) dL_law_2117 ⟨by show cells + _ + _ ≤ 601024; omega, by show slots + _ + _ ≤ 7293034; omega⟩) hS (fun H locs hP hS => ?_)
  obtain ⟨e1, e2, e3⟩ := g_end (by decide) r1 hm
  obtain ⟨M2, hM2⟩ : ∃ z, z = gX8_putInBox M1 (xs (6 * k + 1)) (xs (6 * k + 2)) := ⟨_, rfl⟩
  rw [← hM2] at hP e1 e2 e3
  refine lv_istore (lv' := (6, .int (fX8_putInBox M1 (xs (6 * k + 1)) (xs (6 * k + 2)))) :: (5, .int (cd [1, 2, 3] (tX7_putInBox M (xs (6 * k + 1)) (xs (6 * k + 2))))) :: lvL b bb (nI (6 * k))) hx hb dL_law_2120 hl (by decide) rfl (fun ls hl => ?_)
  refine law_tail hW hP hS (by omega) (by omega) hl e2 (fun h => (e3 h).1.trans (e3 h).2) dL_law_2122 dL_law_2123 dL_law_2126 dL_law_2128 dL_law_2133 dL_law_2135 dL_law_2138 dL_law_2139 dL_law_2140 dL_law_2141 dL_law_2143 dL_law_2144 dL_law_2145 dL_law_2150 (by decide) (fun H locs ls hP hS hl => ?_) (by decide)
  refine W.widen (k := cells + 2) (n := slots + 12) (by omega) (by omega) ?_
  exact kk M2 H locs ls e1 hP hS hl
set_option maxHeartbeats 4000000 in
set_option maxRecDepth 100000 in
theorem law_44 {p : Program} {l : Launch} {e : Env} {s : State} {m : MethodId} {args : Array Value} {below : List Frame} {meth : Method} {c : Code} {H : Heap} {locs : List Loc} {cells slots : Nat} {Q : State → Prop} {ls : Array Slot} {D : va_G} {cy : Nat → ClassId} {bb b L : Nat} {xs : Nat → Int32} {M : Mem} {k : Nat} (hW : LW p l s m args c D cy bb b L xs) (hk : 6 * k + 6 ≤ L) (hc : cells + 2 ≤ 601024) (hs : slots + 12 ≤ 7293034) (hG : G M M) (hP : va_P D vwCl (wL cy bb fT M 134) H) (hS : va_S (fr bb) s.heap H locs) (hl : lv_has ls 9 (lvL b bb (nI (6 * k))))
    (kk : ∀ (M1 : Mem) (H1 : Heap) (locs1 : List Loc) (ls1 : Array Slot), G M1 M1 → va_P D vwCl (wL cy bb fT M1 134) H1 → va_S (fr bb) s.heap H1 locs1 → lv_has ls1 9 (lvL b bb (nI (6 * k))) → W p l e room_1 s m args below meth c H1 locs1 (cells + 2) (slots + 12) Q (F0 m 2726 ls1 [])) : W p l e room_1 s m args below meth c H locs cells slots Q (F0 m 2153 ls []) := by
  obtain ⟨hx, hb, hml, hts, hown, hK, hX, hXs, hbl, hbb, hst, hL⟩ := id hW
  refine lv_aload_n hx hb dL_law_2153 rfl (lv_at hl 1 rfl) ?_
  refine law_arg 1 hW hk (by decide) hS (lv_at hl 0 rfl) (lv_at hl 4 rfl) dL_law_2154 dL_law_2155 dL_law_2157 rfl dL_law_2158 dL_law_2159 ?_
  refine lv_aload_n hx hb dL_law_2160 rfl (lv_at hl 3 rfl) ?_
  refine xc_i (vx_runSW (As := [.ref (bb + 0), .int (xs (6 * k + 1)), .ref (bb + 133)]) (rest := []) ⟨hx, hb, hml, hown, hts⟩ (c_L_takeOut l hst D cy bb 134 (by decide) M (xs (6 * k + 1)) (g_cnt hG) (g_hnx hG)) (vx_cwSW 3 hts gL_law_L_takeOut rfl rfl rfl (by decide +kernel) ⟨Nat.le_of_ble_eq_true rfl, Nat.le_of_ble_eq_true rfl⟩) (xPreS hP hK hX hS) rfl rfl hl.1 rfl (lv_room (Nat.le_of_ble_eq_true rfl)) dL_law_2161 ⟨by show cells + _ ≤ 601024; omega, by show slots + _ ≤ 7293034; omega⟩) hS (fun H locs hP hS => ?_)
  have r0 := rel_takeOut hG (xs (6 * k + 1))
  obtain ⟨M1, hM1⟩ : ∃ z, z = gL_takeOut M (xs (6 * k + 1)) := ⟨_, rfl⟩
  rw [← hM1] at hP
  have hm : M1 = if tX7_takeOut M (xs (6 * k + 1)) = 0 then mU (gX7_takeOut M (xs (6 * k + 1))) 133 0 (fX7_takeOut M (xs (6 * k + 1))) else (gX7_takeOut M (xs (6 * k + 1))) := hM1
  have hG1 := g_mid hG r0 hm
  have r1 := rel_takeOut hG1 (xs (6 * k + 1))
  refine lv_istore (lv' := (5, .int (cd [1, 3] (tX7_takeOut M (xs (6 * k + 1))))) :: lvL b bb (nI (6 * k))) hx hb dL_law_2164 hl (by decide) rfl (fun ls hl => ?_)
  refine lv_aload_n hx hb dL_law_2166 rfl (lv_at hl 3 rfl) ?_
  refine law_arg 1 hW hk (by decide) hS (lv_at hl 1 rfl) (lv_at hl 5 rfl) dL_law_2167 dL_law_2168 dL_law_2170 rfl dL_law_2171 dL_law_2172 ?_
  refine xc_i (va_runV (As := [.int (xs (6 * k + 1))]) (rest := []) ⟨hx, hb, hml, hown, hts⟩ (c_X8_takeOut l D cy bb 134 (by decide) M1 (xs (6 * k + 1)) (g_mny hG1) (g_ho hG1)) (cwV 1 hts gL_law_X8_takeOut rfl rfl rfl (by decide +kernel) ⟨Nat.le_of_ble_eq_true rfl, Nat.le_of_ble_eq_true rfl⟩) (xPreV hP hK hX hS (by decide) (cell8 (by decide)) rfl) rfl rfl hl.1 rfl (lv_room (Nat.le_of_ble_eq_true rfl)) dL_law_2173 ⟨by show cells + _ + _ ≤ 601024; omega, by show slots + _ + _ ≤ 7293034; omega⟩) hS (fun H locs hP hS => ?_)
  obtain ⟨e1, e2, e3⟩ := g_end (by decide) r1 hm
  obtain ⟨M2, hM2⟩ : ∃ z, z = gX8_takeOut M1 (xs (6 * k + 1)) := ⟨_, rfl⟩
  rw [← hM2] at hP e1 e2 e3
  refine lv_istore (lv' := (6, .int (fX8_takeOut M1 (xs (6 * k + 1)))) :: (5, .int (cd [1, 3] (tX7_takeOut M (xs (6 * k + 1))))) :: lvL b bb (nI (6 * k))) hx hb dL_law_2176 hl (by decide) rfl (fun ls hl => ?_)
  refine law_tail hW hP hS (by omega) (by omega) hl e2 (fun h => (e3 h).1.trans (e3 h).2) dL_law_2178 dL_law_2179 dL_law_2182 dL_law_2184 dL_law_2189 dL_law_2191 dL_law_2194 dL_law_2195 dL_law_2196 dL_law_2197 dL_law_2199 dL_law_2200 dL_law_2201 dL_law_2206 (by decide) (fun H locs ls hP hS hl => ?_) (by decide)
  refine W.widen (k := cells + 2) (n := slots + 12) (by omega) (by omega) ?_
  exact kk M2 H locs ls e1 hP hS hl
set_option maxHeartbeats 4000000 in
set_option maxRecDepth 100000 in
theorem law_45 {p : Program} {l : Launch} {e : Env} {s : State} {m : MethodId} {args : Array Value} {below : List Frame} {meth : Method} {c : Code} {H : Heap} {locs : List Loc} {cells slots : Nat} {Q : State → Prop} {ls : Array Slot} {D : va_G} {cy : Nat → ClassId} {bb b L : Nat} {xs : Nat → Int32} {M : Mem} {k : Nat} (hW : LW p l s m args c D cy bb b L xs) (hk : 6 * k + 6 ≤ L) (hc : cells + 2 ≤ 601024) (hs : slots + 12 ≤ 7293034) (hG : G M M) (hP : va_P D vwCl (wL cy bb fT M 134) H) (hS : va_S (fr bb) s.heap H locs) (hl : lv_has ls 9 (lvL b bb (nI (6 * k))))
    (kk : ∀ (M1 : Mem) (H1 : Heap) (locs1 : List Loc) (ls1 : Array Slot), G M1 M1 → va_P D vwCl (wL cy bb fT M1 134) H1 → va_S (fr bb) s.heap H1 locs1 → lv_has ls1 9 (lvL b bb (nI (6 * k))) → W p l e room_1 s m args below meth c H1 locs1 (cells + 2) (slots + 12) Q (F0 m 2726 ls1 [])) : W p l e room_1 s m args below meth c H locs cells slots Q (F0 m 2209 ls []) := by
  obtain ⟨hx, hb, hml, hts, hown, hK, hX, hXs, hbl, hbb, hst, hL⟩ := id hW
  refine lv_aload_n hx hb dL_law_2209 rfl (lv_at hl 1 rfl) ?_
  refine law_arg 1 hW hk (by decide) hS (lv_at hl 0 rfl) (lv_at hl 4 rfl) dL_law_2210 dL_law_2211 dL_law_2213 rfl dL_law_2214 dL_law_2215 ?_
  refine lv_aload_n hx hb dL_law_2216 rfl (lv_at hl 3 rfl) ?_
  refine xc_i (vx_runSW (As := [.ref (bb + 0), .int (xs (6 * k + 1)), .ref (bb + 133)]) (rest := []) ⟨hx, hb, hml, hown, hts⟩ (c_L_calibrate l hst D cy bb 134 (by decide) M (xs (6 * k + 1)) (g_cnt hG) (g_hnx hG)) (vx_cwSW 3 hts gL_law_L_calibrate rfl rfl rfl (by decide +kernel) ⟨Nat.le_of_ble_eq_true rfl, Nat.le_of_ble_eq_true rfl⟩) (xPreS hP hK hX hS) rfl rfl hl.1 rfl (lv_room (Nat.le_of_ble_eq_true rfl)) dL_law_2217 ⟨by show cells + _ ≤ 601024; omega, by show slots + _ ≤ 7293034; omega⟩) hS (fun H locs hP hS => ?_)
  have r0 := rel_calibrate hG (xs (6 * k + 1))
  obtain ⟨M1, hM1⟩ : ∃ z, z = gL_calibrate M (xs (6 * k + 1)) := ⟨_, rfl⟩
  rw [← hM1] at hP
  have hm : M1 = if tX7_calibrate M (xs (6 * k + 1)) = 0 then mU (gX7_calibrate M (xs (6 * k + 1))) 133 0 (fX7_calibrate M (xs (6 * k + 1))) else (gX7_calibrate M (xs (6 * k + 1))) := hM1
  have hG1 := g_mid hG r0 hm
  have r1 := rel_calibrate hG1 (xs (6 * k + 1))
  refine lv_istore (lv' := (5, .int (cd [1, 3] (tX7_calibrate M (xs (6 * k + 1))))) :: lvL b bb (nI (6 * k))) hx hb dL_law_2220 hl (by decide) rfl (fun ls hl => ?_)
  refine lv_aload_n hx hb dL_law_2222 rfl (lv_at hl 3 rfl) ?_
  refine law_arg 1 hW hk (by decide) hS (lv_at hl 1 rfl) (lv_at hl 5 rfl) dL_law_2223 dL_law_2224 dL_law_2226 rfl dL_law_2227 dL_law_2228 ?_
  refine xc_i (va_runV (As := [.int (xs (6 * k + 1))]) (rest := []) ⟨hx, hb, hml, hown, hts⟩ (c_X8_calibrate l D cy bb 134 (by decide) M1 (xs (6 * k + 1)) (g_mny hG1) (g_bxs hG1) (g_tmp hG1) (g_ho hG1)) (cwV 1 hts gL_law_X8_calibrate rfl rfl rfl (by decide +kernel) ⟨Nat.le_of_ble_eq_true rfl, Nat.le_of_ble_eq_true rfl⟩) (xPreV hP hK hX hS (by decide) (cell8 (by decide)) rfl) rfl rfl hl.1 rfl (lv_room (Nat.le_of_ble_eq_true rfl)) dL_law_2229 ⟨by show cells + _ + _ ≤ 601024; omega, by show slots + _ + _ ≤ 7293034; omega⟩) hS (fun H locs hP hS => ?_)
  obtain ⟨e1, e2, e3⟩ := g_end (by decide) r1 hm
  obtain ⟨M2, hM2⟩ : ∃ z, z = gX8_calibrate M1 (xs (6 * k + 1)) := ⟨_, rfl⟩
  rw [← hM2] at hP e1 e2 e3
  refine lv_istore (lv' := (6, .int (fX8_calibrate M1 (xs (6 * k + 1)))) :: (5, .int (cd [1, 3] (tX7_calibrate M (xs (6 * k + 1))))) :: lvL b bb (nI (6 * k))) hx hb dL_law_2232 hl (by decide) rfl (fun ls hl => ?_)
  refine law_tail hW hP hS (by omega) (by omega) hl e2 (fun h => (e3 h).1.trans (e3 h).2) dL_law_2234 dL_law_2235 dL_law_2238 dL_law_2240 dL_law_2245 dL_law_2247 dL_law_2250 dL_law_2251 dL_law_2252 dL_law_2253 dL_law_2255 dL_law_2256 dL_law_2257 dL_law_2262 (by decide) (fun H locs ls hP hS hl => ?_) (by decide)
  refine W.widen (k := cells + 2) (n := slots + 12) (by omega) (by omega) ?_
  exact kk M2 H locs ls e1 hP hS hl
set_option maxHeartbeats 4000000 in
set_option maxRecDepth 100000 in
theorem law_46 {p : Program} {l : Launch} {e : Env} {s : State} {m : MethodId} {args : Array Value} {below : List Frame} {meth : Method} {c : Code} {H : Heap} {locs : List Loc} {cells slots : Nat} {Q : State → Prop} {ls : Array Slot} {D : va_G} {cy : Nat → ClassId} {bb b L : Nat} {xs : Nat → Int32} {M : Mem} {k : Nat} (hW : LW p l s m args c D cy bb b L xs) (hk : 6 * k + 6 ≤ L) (hc : cells + 2 ≤ 601024) (hs : slots + 12 ≤ 7293034) (hG : G M M) (hP : va_P D vwCl (wL cy bb fT M 134) H) (hS : va_S (fr bb) s.heap H locs) (hl : lv_has ls 9 (lvL b bb (nI (6 * k))))
    (kk : ∀ (M1 : Mem) (H1 : Heap) (locs1 : List Loc) (ls1 : Array Slot), G M1 M1 → va_P D vwCl (wL cy bb fT M1 134) H1 → va_S (fr bb) s.heap H1 locs1 → lv_has ls1 9 (lvL b bb (nI (6 * k))) → W p l e room_1 s m args below meth c H1 locs1 (cells + 2) (slots + 12) Q (F0 m 2726 ls1 [])) : W p l e room_1 s m args below meth c H locs cells slots Q (F0 m 2265 ls []) := by
  obtain ⟨hx, hb, hml, hts, hown, hK, hX, hXs, hbl, hbb, hst, hL⟩ := id hW
  refine lv_aload_n hx hb dL_law_2265 rfl (lv_at hl 1 rfl) ?_
  refine law_arg 1 hW hk (by decide) hS (lv_at hl 0 rfl) (lv_at hl 4 rfl) dL_law_2266 dL_law_2267 dL_law_2269 rfl dL_law_2270 dL_law_2271 ?_
  refine lv_aload_n hx hb dL_law_2272 rfl (lv_at hl 3 rfl) ?_
  refine xc_i (vx_runSW (As := [.ref (bb + 0), .int (xs (6 * k + 1)), .ref (bb + 133)]) (rest := []) ⟨hx, hb, hml, hown, hts⟩ (c_L_tighten l hst D cy bb 134 (by decide) M (xs (6 * k + 1)) (g_cnt hG) (g_hnx hG)) (vx_cwSW 3 hts gL_law_L_tighten rfl rfl rfl (by decide +kernel) ⟨Nat.le_of_ble_eq_true rfl, Nat.le_of_ble_eq_true rfl⟩) (xPreS hP hK hX hS) rfl rfl hl.1 rfl (lv_room (Nat.le_of_ble_eq_true rfl)) dL_law_2273 ⟨by show cells + _ ≤ 601024; omega, by show slots + _ ≤ 7293034; omega⟩) hS (fun H locs hP hS => ?_)
  have r0 := rel_tighten hG (xs (6 * k + 1))
  obtain ⟨M1, hM1⟩ : ∃ z, z = gL_tighten M (xs (6 * k + 1)) := ⟨_, rfl⟩
  rw [← hM1] at hP
  have hm : M1 = if tX7_tighten M (xs (6 * k + 1)) = 0 then mU (gX7_tighten M (xs (6 * k + 1))) 133 0 (fX7_tighten M (xs (6 * k + 1))) else (gX7_tighten M (xs (6 * k + 1))) := hM1
  have hG1 := g_mid hG r0 hm
  have r1 := rel_tighten hG1 (xs (6 * k + 1))
  refine lv_istore (lv' := (5, .int (cd [1, 3] (tX7_tighten M (xs (6 * k + 1))))) :: lvL b bb (nI (6 * k))) hx hb dL_law_2276 hl (by decide) rfl (fun ls hl => ?_)
  refine lv_aload_n hx hb dL_law_2278 rfl (lv_at hl 3 rfl) ?_
  refine law_arg 1 hW hk (by decide) hS (lv_at hl 1 rfl) (lv_at hl 5 rfl) dL_law_2279 dL_law_2280 dL_law_2282 rfl dL_law_2283 dL_law_2284 ?_
  refine xc_i (va_runV (As := [.int (xs (6 * k + 1))]) (rest := []) ⟨hx, hb, hml, hown, hts⟩ (c_X8_tighten l D cy bb 134 (by decide) M1 (xs (6 * k + 1)) (g_mny hG1) (g_ho hG1)) (cwV 1 hts gL_law_X8_tighten rfl rfl rfl (by decide +kernel) ⟨Nat.le_of_ble_eq_true rfl, Nat.le_of_ble_eq_true rfl⟩) (xPreV hP hK hX hS (by decide) (cell8 (by decide)) rfl) rfl rfl hl.1 rfl (lv_room (Nat.le_of_ble_eq_true rfl)) dL_law_2285 ⟨by show cells + _ + _ ≤ 601024; omega, by show slots + _ + _ ≤ 7293034; omega⟩) hS (fun H locs hP hS => ?_)
  obtain ⟨e1, e2, e3⟩ := g_end (by decide) r1 hm
  obtain ⟨M2, hM2⟩ : ∃ z, z = gX8_tighten M1 (xs (6 * k + 1)) := ⟨_, rfl⟩
  rw [← hM2] at hP e1 e2 e3
  refine lv_istore (lv' := (6, .int (fX8_tighten M1 (xs (6 * k + 1)))) :: (5, .int (cd [1, 3] (tX7_tighten M (xs (6 * k + 1))))) :: lvL b bb (nI (6 * k))) hx hb dL_law_2288 hl (by decide) rfl (fun ls hl => ?_)
  refine law_tail hW hP hS (by omega) (by omega) hl e2 (fun h => (e3 h).1.trans (e3 h).2) dL_law_2290 dL_law_2291 dL_law_2294 dL_law_2296 dL_law_2301 dL_law_2303 dL_law_2306 dL_law_2307 dL_law_2308 dL_law_2309 dL_law_2311 dL_law_2312 dL_law_2313 dL_law_2318 (by decide) (fun H locs ls hP hS hl => ?_) (by decide)
  refine W.widen (k := cells + 2) (n := slots + 12) (by omega) (by omega) ?_
  exact kk M2 H locs ls e1 hP hS hl
