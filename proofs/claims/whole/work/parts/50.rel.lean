/-! the class's room beside the reference's -/
def PTS (M : Mem) : Prop := ∀ j, j < 4 → M 125 j = fpV j
/-- the instrument's row, and its place in the reference's numbers -/
def RI (A B : Nat → Int32) (k : Nat) : Prop := bv (A 0) = B (8 * k + 8) ∧ A 1 = B (8 * k + 9) ∧ A 3 = B (8 * k + 10) ∧ A 4 = B (8 * k + 11) ∧ A 5 = B (8 * k + 12) ∧ A 6 = B (8 * k + 13) ∧ A 7 = B (8 * k + 14) ∧ A 8 = B (8 * k + 15)
def GI (B : Nat → Int32) (k : Nat) : Prop := (B (8 * k + 8) = 0 ∨ B (8 * k + 8) = 1) ∧ UB (B (8 * k + 9)) 20 ∧ UB (B (8 * k + 11)) 100 ∧ UB (B (8 * k + 12)) 50 ∧ UB (B (8 * k + 13)) 60 ∧ BX (B (8 * k + 15)) ∧ (B (8 * k + 8) = 0 → B (8 * k + 12) = 0)
def RH (A B : Nat → Int32) : Prop := A 1 = B 5 ∧ A 2 = B 0 ∧ A 3 = B 1 ∧ A 4 = B 2 ∧ A 5 = B 3 ∧ A 6 = B 4 ∧ A 7 = B 7
def GH (B : Nat → Int32) : Prop := True ∧ UB (B 1) 100 ∧ UB (B 2) 40 ∧ UB (B 3) 5 ∧ UB (B 4) 99
/-- the room at r is the reference's numbers B, c instruments -/
def RR (M : Mem) (r : Nat) (B : Nat → Int32) (c : Nat) : Prop := c ≤ 6 ∧ B 5 = nI c ∧ RH (M r) B ∧ GH B ∧ ∀ k, k < c → RI (M (r + 1 + 1 + k)) B k ∧ GI B k
/-- one instrument of it, beside the reference's now -/
def R1 (M N : Mem) (r o k : Nat) : Prop := PTS N ∧ RH (M r) (N 127) ∧ GH (N 127) ∧ RI (M o) (N 127) k ∧ GI (N 127) k
theorem RR.one {M N : Mem} {r c k : Nat} (h : RR M r (N 127) c) (hp : PTS N) (hk : k < c) : R1 M N r (r + 1 + 1 + k) k := ⟨hp, h.2.2.1, h.2.2.2.1, h.2.2.2.2 k hk⟩
theorem bv01 (x : Int32) : bv x = 0 ∨ bv x = 1 := by unfold bv; split <;> first | exact Or.inl rfl | exact Or.inr rfl
theorem hair_eq {M N : Mem} {r o k : Nat} (h : R1 M N r o k) : fX8_isOfHair N k = bv (M o 0) := by
  obtain ⟨-, -, -, hi, hg⟩ := h
  unfold fX8_isOfHair
  rw [hi.1]
  rcases hg.1 with e | e <;> rw [e] <;> decide
theorem boxed_eq {M N : Mem} {r o k : Nat} (h : R1 M N r o k) : fX1_isBoxed M o = fX8_isBoxed N k := by
  unfold fX1_isBoxed fX8_isBoxed
  rw [h.2.2.2.1.2.2.2.2.2.2.2]
theorem sur_eq {M N : Mem} {r o k : Nat} (h : R1 M N r o k) : fX4_surrounding M r o = fX8_around N k := by
  obtain ⟨hp, hh, -, hi, hg⟩ := h
  unfold fX4_surrounding fX7_fixedPointOr fX8_around fX8_isBoxed
  rw [hi.2.2.2.2.2.2.2, hh.2.2.1]
  rcases hg.2.2.2.2.2.1 with e | ⟨b, hb, e⟩
  · rw [e, if_pos (by decide), if_pos rfl, if_pos rfl]
  · have hn : ¬ nI b < 0 := fun hh => absurd hh (by rw [show (0 : Int32) = nI 0 from rfl, nI_ltI (by omega) (by omega)]; omega)
    have h4 : ¬ (4 : Int32) ≤ nI b := by rw [show (4 : Int32) = nI 4 from rfl, nI_leI (by omega) (by omega)]; omega
    have h1 : ¬ nI b = (-1 : Int32) := fun he => absurd (show (-1 : Int32) < 0 by decide) (by rw [← he]; exact hn)
    rw [e, if_neg hn, if_neg h4, if_neg h1, if_neg (by decide), nI_clamp (by omega)]
    exact (hp b (by omega)).symm
theorem flaw_eq {M N : Mem} {r o k : Nat} (h : R1 M N r o k) : fX1_flaw M o = fX8_flaw N k := by
  have hb := boxed_eq h
  have hh := hair_eq h
  obtain ⟨-, -, -, hi, hg⟩ := h
  unfold fX1_flaw fX8_flaw
  rw [hb, hh, hi.2.1, hi.2.2.2.2.1, hi.2.2.2.2.2.1]
  by_cases h0 : bv (M o 0) = 0
  · rw [if_pos h0, if_pos h0, hg.2.2.2.2.2.2 (hi.1 ▸ h0), if_pos (show (0 : Int32) ≤ 25 by decide)]
  · rw [if_neg h0, if_neg h0]
theorem weight_eq {M N : Mem} {r o k : Nat} (h : R1 M N r o k) : fX1_weight M o = fX8_weight N k := by
  unfold fX1_weight fX8_weight
  rw [flaw_eq h, hair_eq h, h.2.2.2.1.2.1]
theorem dep_eq {M N : Mem} {r o k : Nat} (h : R1 M N r o k) : fX4_depression M r o = fX8_depression N k := by
  unfold fX4_depression fX8_depression
  rw [sur_eq h, h.2.2.2.1.2.2.2.2.2.1, h.2.1.2.2.2.1]
theorem raw_eq {M N : Mem} {r o k : Nat} (h : R1 M N r o k) : fX4_raw M r o = fX8_raw N k := by
  unfold fX4_raw fX8_raw fX7_quotient
  rw [dep_eq h, hair_eq h, h.2.2.2.1.2.2.2.1, h.2.2.2.1.2.2.2.2.1, h.2.1.2.2.2.1, if_neg (tmp_ne h.2.2.1.2.2.1)]
theorem clip_eq (v : Int32) : xmax 0 (xmin 100 v) = if 0 ≤ v then (if v ≤ 100 then v else 100) else 0 := by
  unfold xmax xmin
  by_cases h1 : v < 100
  · rw [if_pos h1]
    by_cases h2 : 0 < v
    · rw [if_pos h2, if_pos (Int32.le_of_lt h2), if_pos (Int32.le_of_lt h1)]
    · rw [if_neg h2]
      by_cases h3 : 0 ≤ v
      · rw [if_pos h3, if_pos (Int32.le_of_lt h1)]
        exact Int32.le_antisymm h3 (Int32.not_lt.mp h2)
      · rw [if_neg h3]
  · rw [if_neg h1, if_pos (by decide), if_pos (Int32.le_trans (by decide) (Int32.not_lt.mp h1))]
    by_cases h3 : v ≤ 100
    · rw [if_pos h3]
      exact Int32.le_antisymm (Int32.not_lt.mp h1) h3
    · rw [if_neg h3]
theorem read_eq {M N : Mem} {r o k : Nat} (h : R1 M N r o k) : fX4_reading M r o = fX8_reading N k := by
  unfold fX4_reading fX8_reading
  rw [raw_eq h, h.2.2.2.1.2.2.2.2.2.2.1, clip_eq]
theorem ub_le0 {x : Int32} {N : Nat} (h : UB x N) (hN : N < 2 ^ 31 := by decide) : x ≤ 0 ↔ x = 0 := by
  obtain ⟨k, hk, rfl⟩ := h
  constructor
  · intro h
    rw [show (0 : Int32) = nI 0 from rfl, nI_leI (by omega) (by omega)] at h
    rw [show k = 0 by omega]; rfl
  · intro h
    rw [h]; decide
theorem set_eq {M N : Mem} {r o k : Nat} (h : R1 M N r o k) : fX4_settled M r o = fX8_hasSettled N k := by
  have hh := hair_eq h
  have hs := sur_eq h
  obtain ⟨-, -, -, hi, hg⟩ := h
  unfold fX4_settled fX8_hasSettled fX8_isStill
  rw [hh, hs, hi.2.2.2.1, hi.2.2.2.2.2.1]
  by_cases h0 : bv (M o 0) = 0
  · rw [if_pos h0, if_pos h0, h0]
    by_cases h1 : N 127 (8 * k + 13) = 0
    · rw [if_pos ((ub_le0 hg.2.2.2.2.1).mpr h1), if_pos h1]; decide
    · rw [if_neg (fun hc => h1 ((ub_le0 hg.2.2.2.2.1).mp hc)), if_neg h1]; decide
  · rw [if_neg h0, if_neg h0, (bv01 _).resolve_left h0]
    by_cases h1 : N 127 (8 * k + 11) = fX8_around N k
    · rw [if_pos h1]; decide
    · rw [if_neg h1]; decide
theorem still_eq {M N : Mem} {r o k : Nat} (h : R1 M N r o k) : fX4_still M r o = fX8_isStill N k := by
  have hh := hair_eq h
  have hs := sur_eq h
  obtain ⟨-, -, -, hi, hg⟩ := h
  unfold fX4_still fX4_settled fX8_isStill
  rw [hh, hs, hi.2.2.2.1, hi.2.2.2.2.2.1]
  by_cases h0 : bv (M o 0) = 0
  · rw [if_pos h0, if_pos h0, if_pos h0]
    by_cases h1 : N 127 (8 * k + 13) = 0
    · rw [if_pos ((ub_le0 hg.2.2.2.2.1).mpr h1), if_pos h1]; decide
    · rw [if_neg (fun hc => h1 ((ub_le0 hg.2.2.2.2.1).mp hc)), if_neg h1]; decide
  · rw [if_neg h0, if_neg h0, if_neg h0]
theorem obs_eq {M N : Mem} {r o k : Nat} (h : R1 M N r o k) : fX4_obstacle M r o = fX8_hindrance N k := by
  unfold fX4_obstacle fX8_hindrance
  rw [boxed_eq h, set_eq h]
theorem abs_eq (v : Int32) : xabs v = if v < 0 then -v else v := by
  unfold xabs
  by_cases h : 0 ≤ v
  · rw [if_pos h, if_neg (Int32.not_lt.mpr h)]
  · rw [if_neg h, if_pos (Int32.not_le.mp h)]
    exact Int32.zero_sub v
theorem dist_eq {M N : Mem} {r o k : Nat} (h : R1 M N r o k) : xabs (fX4_reading M r o - M r 3) = fX8_distance N k := by
  unfold fX8_distance fX8_without
  rw [read_eq h, h.2.1.2.2.1]
  unfold xabs
  split
  · rfl
  · exact Int32.zero_sub _
