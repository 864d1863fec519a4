/-! a minute of one instrument -/
theorem sm_add {x y : Int32} {p q : Int} (hx : x.toInt = p) (hy : y.toInt = q) (h1 : -100000 ≤ p + q) (h2 : p + q ≤ 100000) : (x + y).toInt = p + q := by
  rw [Int32.toInt_add, hx, hy]
  exact Int.bmod_eq_of_le (by omega) (by omega)
theorem sm_sub {x y : Int32} {p q : Int} (hx : x.toInt = p) (hy : y.toInt = q) (h1 : -100000 ≤ p - q) (h2 : p - q ≤ 100000) : (x - y).toInt = p - q := by
  rw [Int32.toInt_sub, hx, hy]
  exact Int.bmod_eq_of_le (by omega) (by omega)
theorem sm_neg {x : Int32} {p : Int} (hx : x.toInt = p) (h1 : -100000 ≤ p) (h2 : p ≤ 100000) : (-x).toInt = -p := by
  rw [Int32.toInt_neg, hx]
  exact Int.bmod_eq_of_le (by omega) (by omega)
theorem sm_nI {k : Nat} (h : k ≤ 100000) : (nI k).toInt = (k : Int) := nI_toInt (by omega)
/-- the wetness after a minute, as the class and as the reference reckon it -/
def wetC (y w t : Int32) : Int32 := if y ≤ w then xmax y (w - t) else xmin y (w + t)
def wetR (y w t : Int32) : Int32 := if y - w ≤ t then (if -t ≤ y - w then w + (y - w) else w + -t) else (if -t ≤ t then w + t else w + -t)
theorem wet_eq {a b d : Nat} (ha : a ≤ 100) (hb : b ≤ 100) (hd : d ≤ 100) : wetC (nI b) (nI a) (nI d) = wetR (nI b) (nI a) (nI d) := by
  have ea := sm_nI (k := a) (by omega)
  have eb := sm_nI (k := b) (by omega)
  have ed := sm_nI (k := d) (by omega)
  have e1 := sm_sub eb ea (by omega) (by omega)
  have e2 := sm_neg ed (by omega) (by omega)
  have e3 := sm_add ea e1 (by omega) (by omega)
  have e4 := sm_add ea e2 (by omega) (by omega)
  have e5 := sm_add ea ed (by omega) (by omega)
  have e6 := sm_sub ea ed (by omega) (by omega)
  apply Int32.toInt_inj.mp
  unfold wetC wetR xmax xmin
  simp only [Int32.le_iff_toInt_le, Int32.lt_iff_toInt_lt]
  rw [ea, eb, ed, e1, e2, e5, e6]
  (repeat' split) <;> omega
theorem wet_ub {a b d : Nat} (ha : a ≤ 100) (hb : b ≤ 100) (hd : d ≤ 100) : UB (wetC (nI b) (nI a) (nI d)) 100 := by
  have ea := sm_nI (k := a) (by omega)
  have eb := sm_nI (k := b) (by omega)
  have ed := sm_nI (k := d) (by omega)
  have e5 := sm_add ea ed (by omega) (by omega)
  have e6 := sm_sub ea ed (by omega) (by omega)
  have h : 0 ≤ (wetC (nI b) (nI a) (nI d)).toInt ∧ (wetC (nI b) (nI a) (nI d)).toInt ≤ 100 := by
    unfold wetC xmax xmin
    simp only [Int32.le_iff_toInt_le, Int32.lt_iff_toInt_lt]
    rw [ea, eb, e5, e6]
    (repeat' split) <;> omega
  refine ⟨(wetC (nI b) (nI a) (nI d)).toInt.toNat, by omega, Int32.toInt_inj.mp ?_⟩
  rw [sm_nI (by omega)]
  omega
