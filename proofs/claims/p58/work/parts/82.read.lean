/-! tokens of a text in pieces; numbers; words -/
theorem getD_app (A B : List Int32) (i : Nat) : (A ++ B).getD (A.length + i) 0 = B.getD i 0 := by
  rw [List.getD_eq_getElem?_getD, List.getD_eq_getElem?_getD, List.getElem?_append_right (by omega)]
  congr 2
  omega
theorem getD_app0 (A B : List Int32) {i : Nat} (h : i < A.length) : (A ++ B).getD i 0 = A.getD i 0 := by
  rw [List.getD_eq_getElem?_getD, List.getD_eq_getElem?_getD, List.getElem?_append_left h]
theorem getD_mem {A : List Int32} {i : Nat} (h : i < A.length) : A.getD i 0 ∈ A := by
  rw [List.getD_eq_getElem?_getD, List.getElem?_eq_getElem h]
  exact List.getElem_mem h
/-- what stands at the end of a run -/
def stopK (K : Int32) (R : List Int32) : Prop := R = [] ∨ ¬ kN (R.getD 0 0) = K
/-- blanks, a run, and what follows -/
theorem next_list {M : Mem} {L P bl X R : List Int32} {K : Int32} (hB : BF M L) (hL : L = P ++ (bl ++ (X ++ R))) (hK : K = 1 ∨ K = 2) (he : M 10 4 = nI P.length) (hbl : ∀ x ∈ bl, kN x = 4) (hX : 0 < X.length) (hXK : ∀ x ∈ X, kN x = K) (hR : stopK K R) (h3 : K = 2 → X.length ≤ 3) (hj : fX6_isRun M = 0 ∨ 0 < bl.length) : TN M (gX6_next M) ∧ gX6_next M 10 3 = nI (P.length + bl.length) ∧ gX6_next M 10 4 = nI (P ++ (bl ++ X)).length ∧ gX6_next M 10 5 = K := by
  have hlen : L.length = P.length + (bl.length + (X.length + R.length)) := by rw [hL]; simp only [List.length_append]
  have gb : ∀ i, i < bl.length → L.getD (P.length + i) 0 = bl.getD i 0 := fun i hi => by rw [hL, getD_app, getD_app0 _ _ hi]
  have gx : ∀ i, i < X.length → L.getD (P.length + bl.length + i) 0 = X.getD i 0 := fun i hi => by rw [hL, Nat.add_assoc, getD_app, getD_app, getD_app0 _ _ hi]
  have gr : L.getD (P.length + bl.length + X.length) 0 = R.getD 0 0 := by
    rw [hL, Nat.add_assoc, getD_app, show bl.length + X.length = bl.length + (X.length + 0) by omega, getD_app, getD_app]
  have h := next_run (e := P.length) (s := P.length + bl.length) (t := P.length + bl.length + X.length) hB hK he (by omega) (by omega) (by omega) (fun j h1 h2 => by
    obtain ⟨i, rfl⟩ : ∃ i, j = P.length + i := ⟨j - P.length, by omega⟩
    rw [gb i (by omega)]
    exact hbl _ (getD_mem (by omega))) (fun j h1 h2 => by
    obtain ⟨i, rfl⟩ : ∃ i, j = P.length + bl.length + i := ⟨j - (P.length + bl.length), by omega⟩
    rw [gx i (by omega)]
    exact hXK _ (getD_mem (by omega))) (hR.elim (fun h => Or.inl (by rw [h] at hlen; simp at hlen; omega)) (fun h => Or.inr (by rw [gr]; exact h))) (fun hk => by have := h3 hk; omega) (hj.elim Or.inl (fun h => Or.inr (by omega)))
  refine ⟨h.1, h.2.1, ?_, h.2.2.2⟩
  rw [h.2.2.1]
  congr 1
  simp only [List.length_append]
  omega
/-- the bytes of the token -/
theorem tok_byte {M : Mem} {L P bl X R : List Int32} (hB : BF M L) (hL : L = P ++ (bl ++ (X ++ R))) {i : Nat} (hi : i < X.length) : M 11 (P.length + bl.length + i) = X.getD i 0 := by
  have hlen : L.length = P.length + (bl.length + (X.length + R.length)) := by rw [hL]; simp only [List.length_append]
  rw [hB.1 _ (by omega), hL, Nat.add_assoc, getD_app, getD_app, getD_app0 _ _ hi]
theorem sub48 {d : Nat} (h : d < 10) : nI (48 + d) - (48 : Int32) = nI d := by
  have : ∀ d, d < 10 → nI (48 + d) - (48 : Int32) = nI d := by decide +kernel
  exact this d h
theorem val_1 {M : Mem} {a x v : Nat} {f : Nat} (w : Nat) (hw : w < 2 ^ 20) (hx : M 11 a = nI (48 + x)) (hxl : x < 10) (ha : a < v) (hv : v < 2 ^ 20) (h4 : M 10 4 = nI v) : LX6_value_7f (f + 1) M (nI w) (nI a) = LX6_value_7f f M (nI (w * 10 + x)) (nI (a + 1)) := by
  rw [LX6_value_7f, h4, if_neg (nI_ge ha (by omega)), nI_clamp (by omega), hx, sub48 hxl, show nI w * (10 : Int32) = nI (w * 10) from pk_mul w 10, nI_add, ← nI_succ]
theorem val_0 {M : Mem} {v : Nat} {f : Nat} (w : Int32) (h4 : M 10 4 = nI v) (hv : v < 2 ^ 20) : LX6_value_7f (f + 1) M w (nI v) = w := by
  rw [LX6_value_7f, h4, if_pos (nI_le (Nat.le_refl _) (by omega))]
theorem val_dig {M : Mem} {a v : Nat} (hv : v ≤ 100) (ha : a < 2 ^ 10) (h3 : M 10 3 = nI a) (h4 : M 10 4 = nI (a + (dig v).length)) (hb : ∀ i, i < (dig v).length → M 11 (a + i) = (dig v).getD i 0) : fX6_value M = nI v := by
  have e0 : fX6_value M = LX6_value_7f 601 M (nI 0) (nI a) := by unfold fX6_value; rw [h3]; rfl
  rw [e0]
  by_cases h10 : v < 10
  · rw [dig1 h10] at h4 hb
    have h4 : M 10 4 = nI (a + 1) := h4
    have b0 : M 11 a = nI (48 + v) := hb 0 (by show 0 < 1; omega)
    rw [val_1 0 (by omega) b0 h10 (Nat.lt_succ_self a) (by omega) h4, val_0 _ h4 (by omega)]
    congr 1
    omega
  · by_cases h100 : v < 100
    · rw [dig2 h10 h100] at h4 hb
      have h4 : M 10 4 = nI (a + 1 + 1) := h4
      have b0 : M 11 a = nI (48 + v / 10) := hb 0 (by show 0 < 2; omega)
      have b1 : M 11 (a + 1) = nI (48 + v % 10) := hb 1 (by show 1 < 2; omega)
      rw [val_1 0 (by omega) b0 (by omega) (by omega) (by omega) h4, val_1 _ (by omega) b1 (by omega) (by omega) (by omega) h4, val_0 _ h4 (by omega)]
      congr 1
      omega
    · obtain rfl : v = 100 := by omega
      rw [dig3 h100] at h4 hb
      have h4 : M 10 4 = nI (a + 1 + 1 + 1) := h4
      have b0 : M 11 a = nI (48 + 1) := hb 0 (by decide)
      have b1 : M 11 (a + 1) = nI (48 + 0) := hb 1 (by decide)
      have b2 : M 11 (a + 1 + 1) = nI (48 + 0) := hb 2 (by decide)
      rw [val_1 0 (by omega) b0 (by omega) (by omega) (by omega) h4, val_1 _ (by omega) b1 (by omega) (by omega) (by omega) h4, val_1 _ (by omega) b2 (by omega) (by omega) (by omega) h4, val_0 _ h4 (by omega)]
theorem kN_dg {d : Nat} (h : d < 10) : kN (nI (48 + d)) = 2 := by
  have : ∀ d, d < 10 → kN (nI (48 + d)) = 2 := by decide +kernel
  exact this d h
theorem kN_dig {v : Nat} (hv : v ≤ 100) : ∀ x ∈ dig v, kN x = 2 := by
  intro x hx
  by_cases h10 : v < 10
  · rw [dig1 h10] at hx
    rw [List.mem_singleton.mp hx]
    exact kN_dg h10
  · by_cases h100 : v < 100
    · rw [dig2 h10 h100] at hx
      rcases List.mem_cons.mp hx with rfl | hx
      · exact kN_dg (by omega)
      · rw [List.mem_singleton.mp hx]
        exact kN_dg (by omega)
    · rw [dig3 h100] at hx
      revert x
      decide +kernel
/-- a blank and a number -/
theorem take_dig {M : Mem} {L P R : List Int32} {v lo hi : Nat} (hB : BF M L) (hL : L = P ++ ([32] ++ (dig v ++ R))) (he : M 10 4 = nI P.length) (hv : v ≤ 100) (h9 : M 9 2 = 0) (hlo : lo ≤ v) (hhi : v ≤ hi) (hh : hi ≤ 100) (hR : stopK 2 R) : fX3_takeNumber M (nI lo) (nI hi) = nI v ∧ gX3_takeNumber M (nI lo) (nI hi) = gX6_next M ∧ TN M (gX6_next M) ∧ gX6_next M 10 4 = nI (P ++ ([32] ++ dig v)).length := by
  have hl := hB.2.2
  have hlen : L.length = P.length + (1 + ((dig v).length + R.length)) := by rw [hL]; simp only [List.length_append]; rfl
  obtain ⟨t1, t2, t3, t4⟩ := next_list (bl := [32]) (X := dig v) hB hL (Or.inr rfl) he (by decide +kernel) (by have := (dig_len (v := v)).1; omega) (kN_dig hv) hR (fun _ => (dig_len (v := v)).2) (Or.inr (by decide))
  have t3' : gX6_next M 10 4 = nI (P.length + 1 + (dig v).length) := by
    rw [t3]
    congr 1
    simp only [List.length_append]
    show P.length + (1 + _) = _
    omega
  have hval : fX6_value (gX6_next M) = nI v := val_dig hv (show P.length + 1 < 2 ^ 10 by omega) t2 t3' (fun i hi => by
    have := tok_byte (bl := [32]) (hB.tn t1) hL hi
    exact this)
  refine ⟨?_, ?_, t1, t3⟩
  · unfold fX3_takeNumber
    rw [if_pos h9, if_pos t4, hval, if_neg (nI_nlt hlo (by omega)), if_pos (nI_le hhi (by omega))]
  · unfold gX3_takeNumber
    rw [if_pos h9, if_pos t4, hval, if_neg (nI_nlt hlo (by omega)), if_pos (nI_le hhi (by omega))]
/-- a word that is, that isn't -/
theorem word_loop {M : Mem} {w a : Nat} (hw : w < 9) (ha : a < 2 ^ 10) (h3 : M 10 3 = nI a) (hb : ∀ i, i < wrdN.getD w 0 → M 11 (a + i) = wCh w i) : ∀ (d f j : Nat), j + d = wrdN.getD w 0 → d < f → LX6_isWord_28f w f M j = 1 := by
  obtain ⟨e1, e2⟩ := wLen_eq w hw
  intro d
  induction d with
  | zero =>
    intro f j hj hf
    obtain ⟨f, rfl⟩ : ∃ g, f = g + 1 := ⟨f - 1, by omega⟩
    rw [LX6_isWord_28f, e1, if_pos (nI_le (by omega) (by omega))]
  | succ d ih =>
    intro f j hj hf
    obtain ⟨f, rfl⟩ : ∃ g, f = g + 1 := ⟨f - 1, by omega⟩
    rw [LX6_isWord_28f, e1, if_neg (nI_ge (by omega) (by omega)), h3, nI_add, nI_clamp (by omega), hb j (by omega), if_pos rfl]
    exact ih f (j + 1) (by omega) (by omega)
theorem word_yes {M : Mem} {w a : Nat} (hw : w < 9) (ha : a < 2 ^ 10) (h3 : M 10 3 = nI a) (h4 : M 10 4 = nI (a + wrdN.getD w 0)) (h5 : M 10 5 = 1) (hb : ∀ i, i < wrdN.getD w 0 → M 11 (a + i) = wCh w i) : fX6_isWord M w = 1 := by
  obtain ⟨e1, e2⟩ := wLen_eq w hw
  unfold fX6_isWord
  rw [if_pos h5, h4, h3, pk_sub (by omega), e1, show a + wrdN.getD w 0 - a = wrdN.getD w 0 by omega, if_pos rfl]
  exact word_loop hw ha h3 hb (wrdN.getD w 0) 9 0 (by omega) (by omega)
theorem word_len {M : Mem} {w a n : Nat} (hw : w < 9) (ha : a < 2 ^ 10) (hn : n < 2 ^ 10) (h3 : M 10 3 = nI a) (h4 : M 10 4 = nI (a + n)) (hne : n ≠ wrdN.getD w 0) : fX6_isWord M w = 0 := by
  obtain ⟨e1, e2⟩ := wLen_eq w hw
  unfold fX6_isWord
  by_cases h5 : M 10 5 = 1
  · rw [if_pos h5, h4, h3, pk_sub (by omega), e1, show a + n - a = n by omega, if_neg (nI_nq hne (by omega) (by omega))]
  · rw [if_neg h5]
theorem word_first {M : Mem} {w a : Nat} (hw : w < 9) (ha : a < 2 ^ 10) (h3 : M 10 3 = nI a) (h4 : M 10 4 = nI (a + wrdN.getD w 0)) (hne : ¬ M 11 a = wCh w 0) (h0 : 0 < wrdN.getD w 0) : fX6_isWord M w = 0 := by
  obtain ⟨e1, e2⟩ := wLen_eq w hw
  unfold fX6_isWord
  by_cases h5 : M 10 5 = 1
  · rw [if_pos h5, h4, h3, pk_sub (by omega), e1, show a + wrdN.getD w 0 - a = wrdN.getD w 0 by omega, if_pos rfl, LX6_isWord_28f, e1, if_neg (nI_ge h0 (by omega)), h3, nI_add, nI_clamp (by omega)]
    exact if_neg hne
  · rw [if_neg h5]
