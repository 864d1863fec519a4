/-! the law's acts: a theorem a case -/
theorem outF_eqr {M P : Mem} (h : EQR M P) {j : Nat} (hj : j < 6) : outF P (nI j) = outF M (nI j) := by
  unfold outF
  rw [show fX7_boxOf P (nI j) = fX7_boxOf M (nI j) from congrFun (h _ (by have := nI_100 hj; omega) (by have := nI_100 hj; omega)) 8]
theorem hr_eqr {M P : Mem} (h : EQR M P) {j : Nat} (hj : j < 6) : fX7_isHair P (nI j) = fX7_isHair M (nI j) := by
  unfold fX7_isHair
  rw [h _ (by have := nI_100 hj; omega) (by have := nI_100 hj; omega)]
theorem ra_tm {M : Mem} {x : Int32} (h : tX7_instrumentAt M x = 0) {m : Nat} (hm : m ≤ 200) : tX7_readingAfter M x (nI m) = 0 := by
  unfold tX7_readingAfter
  rw [if_pos h, if_neg (nI_pos (by omega)), if_pos (by rw [show (200 : Int32) = nI 200 from rfl, nI_leI (by omega) (by omega)]; exact hm)]
theorem ra_eqr {M P : Mem} (h : EQR M P) {x : Int32} (hx : x.toNatClampNeg < 100) {m : Nat} (hm : m ≤ 200) : fX7_readingAfter P x (nI m) = fX7_readingAfter M x (nI m) := by
  rw [ra_eq hm hx, ra_eq hm hx, h 1 (by decide) (by decide), h (pl x) (pl_ne hx) (by show 1 + 1 + 1 + x.toNatClampNeg ≠ 124; omega)]
theorem tg_a {M : Mem} {x : Int32} (h : fX7_isHair M x = 0) : (0 : Int32) = tgF M x := by unfold tgF; rw [if_pos h]
theorem tg_b {M : Mem} {x : Int32} (h : ¬ fX7_isHair M x = 0) (h1 : 20 ≤ fX7_wetnessOf M x) : (0 : Int32) = tgF M x := by unfold tgF; rw [if_neg h, if_pos h1]
theorem tg_c {M : Mem} {x : Int32} (h : ¬ fX7_isHair M x = 0) (h1 : ¬ 20 ≤ fX7_wetnessOf M x) : (1 : Int32) = tgF M x := by unfold tgF; rw [if_neg h, if_neg h1]
theorem tg_no {M : Mem} {x : Int32} (h : ¬ (¬ fX7_isHair M x = 0 ∧ ¬ fX7_hairsOf M x ≤ 0)) : fX7_isHair M x = 0 ∨ fX7_hairsOf M x ≤ 0 := by
  by_cases h0 : fX7_isHair M x = 0
  · exact Or.inl h0
  · by_cases h1 : fX7_hairsOf M x ≤ 0
    · exact Or.inr h1
    · exact absurd ⟨h0, h1⟩ h
