/-! an instrument's row, aged; when it stands still -/
theorem mu_same (M : Mem) (v : Int32) (o k : Nat) : mU M o k v o k = v := by rw [mU_at]; exact if_pos rfl
def qR (h : Int32) : Int32 := if h = 0 then 0 else 20 / h
def ageR (A : Nat → Int32) (x y : Int32) : Nat → Int32 :=
  if bv (A 0) = 0 then upd A 6 (xmax 0 (A 6 - 1))
  else if A 1 ≤ 0 then (if x - x / 10 * 10 = 0 then upd A 5 (xmin 50 (A 5 + 1)) else A)
  else (if x - x / 10 * 10 = 0 then upd (upd A 4 (wetC y (A 4) (1 + qR (A 1)))) 5 (xmin 50 (A 5 + 1)) else upd A 4 (wetC y (A 4) (1 + qR (A 1))))
theorem row_wetC (M : Mem) (o : Nat) (y t : Int32) : gX1_moveWetness M o y t o = upd (M o) 4 (wetC y (M o 4) t) := by
  unfold gX1_moveWetness wetC
  by_cases c : y ≤ M o 4
  · rw [if_pos c, if_pos c, mU_at]
  · rw [if_neg c, if_neg c, mU_at]
theorem upd_ne {B : Nat → Int32} {i j : Nat} {v : Int32} (h : j ≠ i) : upd B i v j = B j := pk_un h
theorem upd_at {B : Nat → Int32} {i : Nat} {v : Int32} : upd B i v i = v := if_pos rfl
theorem age_row (M : Mem) (o : Nat) (x y : Int32) : gX1_age M o x y o = ageR (M o) x y := by
  unfold gX1_age ageR
  by_cases h0 : bv (M o 0) = 0
  · rw [if_pos h0, if_pos h0, mU_at]
  · rw [if_neg h0, if_neg h0]
    by_cases h1 : M o 1 ≤ 0
    · rw [if_pos h1, if_pos h1]
      by_cases h2 : x - x / 10 * 10 = 0
      · rw [if_pos h2, if_pos h2, mU_at]
      · rw [if_neg h2, if_neg h2]
    · rw [if_neg h1, if_neg h1]
      by_cases h2 : x - x / 10 * 10 = 0
      · rw [if_pos h2, if_pos h2, mU_at, row_wetC, upd_ne (by decide)]
        rfl
      · rw [if_neg h2, if_neg h2, row_wetC]
        rfl
theorem ageR_kp (A : Nat → Int32) (x y : Int32) {j : Nat} (h4 : j ≠ 4) (h5 : j ≠ 5) (h6 : j ≠ 6) : ageR A x y j = A j := by
  unfold ageR
  (repeat' split) <;> simp only [upd_ne h4, upd_ne h5, upd_ne h6]
theorem bv01 (x : Int32) : bv x = 0 ∨ bv x = 1 := by unfold bv; split <;> first | exact Or.inl rfl | exact Or.inr rfl
theorem bv_bv2 (x : Int32) : bv (bv x) = bv x := by rcases bv01 x with h | h <;> rw [h] <;> decide
theorem cp_row {M : Mem} {o q : Nat} (hne : q ≠ o) : gX1_copyFrom M o q o 0 = bv (M q 0) ∧ ∀ i, 1 ≤ i → i ≤ 8 → gX1_copyFrom M o q o i = M q i := by
  have hq : ∀ (M : Mem) (k : Nat) (v : Int32), mU M o k v q = M q := fun M k v => mU_ne M k v hne
  unfold gX1_copyFrom
  simp only [hq]
  refine ⟨?_, fun i h1 h2 => ?_⟩
  · repeat rw [mU_row (by decide)]
    rw [mu_same]
  · rcases (by omega : i = 1 ∨ i = 2 ∨ i = 3 ∨ i = 4 ∨ i = 5 ∨ i = 6 ∨ i = 7 ∨ i = 8) with rfl | rfl | rfl | rfl | rfl | rfl | rfl | rfl <;>
      (repeat rw [mU_row (by decide)]) <;> rw [mu_same]
/-- two rows that are one instrument's -/
def RQ (A B : Nat → Int32) : Prop := bv (A 0) = bv (B 0) ∧ ∀ i, 1 ≤ i → i ≤ 8 → A i = B i
theorem RQ.rf (A : Nat → Int32) : RQ A A := ⟨rfl, fun _ _ _ => rfl⟩
theorem RQ.sym {A B : Nat → Int32} (h : RQ A B) : RQ B A := ⟨h.1.symm, fun i a b => (h.2 i a b).symm⟩
theorem RQ.trans {A B C : Nat → Int32} (h : RQ A B) (h2 : RQ B C) : RQ A C := ⟨h.1.trans h2.1, fun i a b => (h.2 i a b).trans (h2.2 i a b)⟩
theorem cp_rq {M : Mem} {o q : Nat} (hne : q ≠ o) : RQ (gX1_copyFrom M o q o) (M q) := by
  obtain ⟨h0, hi⟩ := cp_row (M := M) hne
  exact ⟨by rw [h0, bv_bv2], hi⟩
theorem RQ.age {A B : Nat → Int32} (h : RQ A B) (x y : Int32) : RQ (ageR A x y) (ageR B x y) := by
  obtain ⟨h0, hi⟩ := h
  have h1 := hi 1 (by decide) (by decide)
  have h4 := hi 4 (by decide) (by decide)
  have h5 := hi 5 (by decide) (by decide)
  have h6 := hi 6 (by decide) (by decide)
  refine ⟨by rw [ageR_kp _ _ _ (by decide) (by decide) (by decide), ageR_kp _ _ _ (by decide) (by decide) (by decide)]; exact h0, fun i a b => ?_⟩
  unfold ageR
  rw [h0, h1, h4, h5, h6]
  have e := hi i a b
  (repeat' split) <;> first | exact e | (unfold upd; (repeat' split) <;> first | rfl | exact e)
theorem RQ.iok {A B : Nat → Int32} (h : RQ A B) (hb : IOK B) : IOK A := by
  obtain ⟨h0, hi⟩ := h
  obtain ⟨b1, b4, b5, b6, b8, c1, c2⟩ := hb
  unfold IOK
  rw [h0, hi 1 (by decide) (by decide), hi 4 (by decide) (by decide), hi 5 (by decide) (by decide), hi 6 (by decide) (by decide), hi 8 (by decide) (by decide)]
  exact ⟨b1, b4, b5, b6, b8, c1, c2⟩
/-- the surrounding humidity, whether it stands still, the reading: by the row -/
def surR (A : Nat → Int32) (h : Int32) : Int32 := if A 8 < 0 then h else if 4 ≤ A 8 then h else fpV (A 8).toNatClampNeg
def stillR (A : Nat → Int32) (h : Int32) : Int32 := if bv (A 0) = 0 then (if A 6 ≤ 0 then 1 else 0) else (if A 4 = surR A h then 1 else 0)
theorem sur_row (M : Mem) (o : Nat) : fX4_surrounding M 1 o = surR (M o) (M 1 3) := rfl
theorem still_row (M : Mem) (o : Nat) : fX4_still M 1 o = stillR (M o) (M 1 3) := by
  unfold fX4_still fX4_settled stillR
  by_cases h0 : bv (M o 0) = 0
  · rw [if_pos h0, if_pos h0, if_pos h0]
    by_cases h6 : M o 6 ≤ 0
    · rw [if_pos h6, if_pos h6, if_pos rfl]
    · rw [if_neg h6, if_neg h6, if_neg (by decide)]
  · rw [if_neg h0, if_neg h0, if_neg h0, sur_row]
theorem RQ.sur {A B : Nat → Int32} (h : RQ A B) (y : Int32) : surR A y = surR B y := by
  unfold surR
  rw [h.2 8 (by decide) (by decide)]
theorem RQ.still {A B : Nat → Int32} (h : RQ A B) (y : Int32) : stillR A y = stillR B y := by
  unfold stillR
  rw [h.1, h.sur, h.2 4 (by decide) (by decide), h.2 6 (by decide) (by decide)]
theorem surR_age (A : Nat → Int32) (x y h : Int32) : surR (ageR A x y) h = surR A h := by
  unfold surR
  rw [ageR_kp _ _ _ (by decide) (by decide) (by decide)]
/-- how far from standing still -/
def DST (A : Nat → Int32) (y : Int32) (d : Nat) : Prop := (bv (A 0) = 0 ∧ ∃ w, A 6 = nI w ∧ w ≤ d ∧ w ≤ 60) ∨ (¬ bv (A 0) = 0 ∧ ∃ a s t, A 4 = nI a ∧ y = nI s ∧ A 1 = nI t ∧ 1 ≤ t ∧ t ≤ 20 ∧ a ≤ 100 ∧ s ≤ 100 ∧ a ≤ s + d ∧ s ≤ a + d)
theorem dst_still {A : Nat → Int32} {h : Int32} (hD : DST A (surR A h) 0) : stillR A h = 1 := by
  unfold stillR
  rcases hD with ⟨h0, w, e, hw, -⟩ | ⟨h0, a, s, t, e4, es, -, -, -, ha, hs, h1, h2⟩
  · rw [if_pos h0, e, show w = 0 by omega, if_pos (by decide)]
  · rw [if_neg h0, e4, es, show a = s by omega, if_pos rfl]
theorem qR_step {t : Nat} (h1 : 1 ≤ t) (h2 : t ≤ 20) : ∃ d, 2 ≤ d ∧ d ≤ 21 ∧ 1 + qR (nI t) = nI d := by
  have : ∀ t : Fin 20, ∃ d : Fin 22, 2 ≤ d.1 ∧ 1 + qR (nI (t.1 + 1)) = nI d.1 := by decide
  obtain ⟨d, hd, e⟩ := this ⟨t - 1, by omega⟩
  have et : t - 1 + 1 = t := by omega
  rw [et] at e
  exact ⟨d.1, hd, by omega, e⟩
theorem wet_near {a b d n : Nat} (ha : a ≤ 100) (hb : b ≤ 100) (hd : d ≤ 100) (h1 : 1 ≤ d) (k1 : a ≤ b + (n + 1)) (k2 : b ≤ a + (n + 1)) : ∃ r, wetC (nI b) (nI a) (nI d) = nI r ∧ r ≤ 100 ∧ r ≤ b + n ∧ b ≤ r + n := by
  obtain ⟨r, hr, e⟩ := wet_ub ha hb hd
  refine ⟨r, e, hr, ?_⟩
  have ea := sm_nI (k := a) (by omega)
  have eb := sm_nI (k := b) (by omega)
  have ed := sm_nI (k := d) (by omega)
  have er := sm_nI (k := r) (by omega)
  have e5 := sm_add ea ed (by omega) (by omega)
  have e6 := sm_sub ea ed (by omega) (by omega)
  have h := congrArg Int32.toInt e
  rw [er] at h
  unfold wetC xmax xmin at h
  simp only [Int32.le_iff_toInt_le, Int32.lt_iff_toInt_lt] at h
  rw [ea, eb, e5, e6] at h
  (repeat' split at h) <;> (first | rw [e6] at h | rw [eb] at h | rw [e5] at h) <;> omega
theorem dst_age {A : Nat → Int32} {x y : Int32} {d : Nat} (hD : DST A y (d + 1)) : DST (ageR A x y) y d := by
  rcases hD with ⟨h0, w, e, hw, hw6⟩ | ⟨h0, a, s, t, e4, es, e1, t1, t2, ha, hs, h1, h2⟩
  · refine Or.inl ⟨by rw [ageR_kp _ _ _ (by decide) (by decide) (by decide)]; exact h0, w - 1, ?_, by omega, by omega⟩
    unfold ageR
    rw [if_pos h0, upd_at, e]
    have : ∀ w : Fin 61, xmax 0 (nI w.1 - 1) = nI (w.1 - 1) := by decide
    exact this ⟨w, by omega⟩
  · refine Or.inr ⟨by rw [ageR_kp _ _ _ (by decide) (by decide) (by decide)]; exact h0, ?_⟩
    obtain ⟨q, q1, q2, eq⟩ := qR_step t1 t2
    obtain ⟨r, er, r1, r2, r3⟩ := wet_near (n := d) ha hs (by omega) (show 1 ≤ q by omega) h1 h2
    have e4' : ageR A x y 4 = nI r := by
      unfold ageR
      have hp : ¬ A 1 ≤ 0 := by rw [e1, show (0 : Int32) = nI 0 from rfl, nI_leI (by omega) (by omega)]; omega
      rw [if_neg h0, if_neg hp, e1, e4, eq, es, er]
      split
      · rw [upd_ne (by decide), upd_at]
      · rw [upd_at]
    exact ⟨r, s, t, e4', es, by rw [ageR_kp _ _ _ (by decide) (by decide) (by decide)]; exact e1, t1, t2, r1, hs, r2, r3⟩
/-- from where it stands still within n minutes -/
theorem dst_of {A : Nat → Int32} {y : Int32} (hA : IOK A) (hy : UB y 100) (h : bv (A 0) = 0 ∨ ¬ A 1 = 0) : DST A y 100 := by
  obtain ⟨⟨t, ht, e1⟩, ⟨a, ha, e4⟩, -, ⟨w, hw, e6⟩, -⟩ := hA
  obtain ⟨s, hs, es⟩ := hy
  by_cases h0 : bv (A 0) = 0
  · exact Or.inl ⟨h0, w, e6, by omega, hw⟩
  · have h1 := h.resolve_left h0
    have ht0 : t ≠ 0 := fun e => h1 (by rw [e1, e]; rfl)
    exact Or.inr ⟨h0, a, s, t, e4, es, e1, by omega, ht, ha, hs, by omega, by omega⟩
theorem mus_g (x : Int32) : ∀ (k : Nat) (M : Mem) (j : Nat), EQP M (LX7_minutesUntilStill_14g x k M j) := by
  intro k
  induction k with
  | zero => intro M j; exact EQP.rf M
  | succ k ih =>
    intro M j
    rw [LX7_minutesUntilStill_14g]
    split
    · exact EQP.rf M
    · split
      · exact EQP.trans (fun p hp => gX1_age_ne hp) (ih _ _)
      · exact EQP.rf M
theorem cp_q (M : Mem) (q : Nat) : EQP M (gX1_copyFrom M 123 q) := fun p hp => gX1_copyFrom_ne hp
theorem mus_q (M : Mem) (x : Int32) : EQP M (gX7_minutesUntilStill M x) := by
  unfold gX7_minutesUntilStill
  split
  · exact EQP.trans (cp_q _ _) (mus_g _ _ _ _)
  · exact EQP.rf M
theorem ra_g (x y : Int32) : ∀ (k : Nat) (M : Mem) (j : Nat), EQP M (LX7_readingAfter_35g x y k M j) := by
  intro k
  induction k with
  | zero => intro M j; exact EQP.rf M
  | succ k ih =>
    intro M j
    rw [LX7_readingAfter_35g]
    split
    · exact EQP.rf M
    · exact EQP.trans (fun p hp => gX1_age_ne hp) (ih _ _)
theorem ra_q (M : Mem) (x y : Int32) : EQP M (gX7_readingAfter M x y) := by
  unfold gX7_readingAfter
  split
  · split
    · exact cp_q _ _
    · split
      · exact EQP.trans (cp_q _ _) (ra_g _ _ _ _ _)
      · exact cp_q _ _
  · exact EQP.rf M
theorem ra_t0 {M : Mem} {x : Int32} (h : tX7_instrumentAt M x = 0) : tX7_readingAfter M x 0 = 0 := by
  unfold tX7_readingAfter
  rw [if_pos h, if_neg (by decide), if_pos (by decide)]
theorem pl_ne {x : Int32} (hx : x.toNatClampNeg < 100) : pl x ≠ 123 := by show 1 + 1 + 1 + x.toNatClampNeg ≠ 123; omega
/-- the reading by the row -/
def rdR (A : Nat → Int32) (h t : Int32) : Int32 := xmax 0 (xmin 100 ((if bv (A 0) = 0 then 100 - (if t + 10 = 0 then 0 else (if A 6 = 0 then 0 else (100 - surR A h) * (t + 10) / 100) * 100 / (t + 10)) else A 4 - A 5 / 5) + A 7))
theorem read_row (M : Mem) (o : Nat) : fX4_reading M 1 o = rdR (M o) (M 1 3) (M 1 4) := rfl
theorem RQ.read {A B : Nat → Int32} (h : RQ A B) (y t : Int32) : rdR A y t = rdR B y t := by
  unfold rdR
  rw [h.1, h.sur, h.2 4 (by decide) (by decide), h.2 5 (by decide) (by decide), h.2 6 (by decide) (by decide), h.2 7 (by decide) (by decide)]
theorem ra_zero {M : Mem} {x : Int32} (h : tX7_instrumentAt M x = 0) (hx : x.toNatClampNeg < 100 := by first | assumption | (apply nI_100; assumption)) : fX7_readingAfter M x 0 = fX7_readingOf M x := by
  unfold fX7_readingAfter
  rw [if_neg (by decide), if_pos (by decide), LX7_readingAfter_35f, if_pos (by decide), read_row]
  show _ = fX4_reading M 1 (pl x)
  rw [read_row, (cp_rq (pl_ne hx)).read, cp_q _ _ 1 (by decide)]
theorem mus_pos (x : Int32) : ∀ (k : Nat) (M : Mem) (j : Nat), 1 ≤ j → j ≤ 201 → 202 ≤ k + j → ¬ LX7_minutesUntilStill_14f x k M j = 0 := by
  intro k
  induction k with
  | zero => intro M j h1 h2 h3; omega
  | succ k ih =>
    intro M j h1 h2 h3
    rw [LX7_minutesUntilStill_14f]
    by_cases hj : (200 : Int32) < nI j
    · rw [if_pos hj]; decide
    · have hj2 : j ≤ 200 := by
        rw [show (200 : Int32) = nI 200 from rfl] at hj
        by_cases h : j ≤ 200
        · exact h
        · exact absurd (nI_lt (by omega) (by omega)) hj
      rw [if_neg hj]
      split
      · exact ih _ _ (by omega) (by omega) (by omega)
      · exact nI_ne0 (by omega) (by omega)
theorem settled_01 (M : Mem) (x : Int32) : fX7_isSettled M x = 0 ∨ fX7_isSettled M x = 1 := by
  unfold fX7_isSettled fX4_settled
  (repeat' split) <;> simp
theorem still_hs (M : Mem) (x : Int32) : fX4_still M 1 (pl x) = if fX7_isHair M x = fX7_isSettled M x then 1 else 0 := by
  show fX4_still M 1 (pl x) = if bv (M (pl x) 0) = fX4_settled M 1 (pl x) then 1 else 0
  have h01 : fX4_settled M 1 (pl x) = 0 ∨ fX4_settled M 1 (pl x) = 1 := settled_01 M x
  unfold fX4_still
  rcases bv01 (M (pl x) 0) with h | h
  · rw [h, if_pos rfl]
    rcases h01 with e | e <;> rw [e] <;> rfl
  · rw [h, if_neg (by decide)]
    rcases h01 with e | e <;> rw [e] <;> rfl
theorem mus_zero {M : Mem} {x : Int32} (hI : I1 M x) (h : tX7_instrumentAt M x = 0) (hx : x.toNatClampNeg < 100 := by first | assumption | (apply nI_100; assumption)) : (if fX7_minutesUntilStill M x = 0 then (1 : Int32) else 0) = (if fX7_isHair M x = fX7_isSettled M x then 1 else 0) := by
  rw [← still_hs]
  unfold fX7_minutesUntilStill
  rw [LX7_minutesUntilStill_14f, if_neg (show ¬ (200 : Int32) < nI 0 by decide), still_row, still_row, cp_q _ _ 1 (by decide), (cp_rq (pl_ne hx)).still]
  have hs : stillR (M (pl x)) (M 1 3) = 0 ∨ stillR (M (pl x)) (M 1 3) = 1 := by
    unfold stillR
    (repeat' split) <;> simp
  rcases hs with e | e
  · rw [e, if_pos rfl, if_neg (mus_pos _ _ _ _ (by decide) (by decide) (by decide))]
  · rw [e, if_neg (show ¬ (1 : Int32) = 0 by decide)]
    rfl
theorem mus_lim (x : Int32) : ∀ (k : Nat) (M : Mem) (j d : Nat), DST (M 123) (surR (M 123) (M 1 3)) d → j + d ≤ 200 → 202 ≤ k + j → ¬ LX7_minutesUntilStill_14f x k M j = -1 := by
  intro k
  induction k with
  | zero => intro M j d hD h1 h2; omega
  | succ k ih =>
    intro M j d hD h1 h2
    rw [LX7_minutesUntilStill_14f, if_neg (show ¬ (200 : Int32) < nI j from nI_nlt (a := 200) (by omega) (by decide)), still_row]
    by_cases hs : stillR (M 123) (M 1 3) = 0
    · rw [if_pos hs]
      cases d with
      | zero => rw [dst_still hD] at hs; exact absurd hs (by decide)
      | succ d =>
        refine ih _ _ d ?_ (by omega) (by omega)
        rw [age_row, gX1_age_ne (by decide), surR_age, sur_row]
        exact dst_age hD
    · rw [if_neg hs]
      intro e
      have := congrArg Int32.toInt e
      rw [nI_toInt (by omega)] at this
      have h : (-1 : Int32).toInt = -1 := by decide
      omega
theorem mus_none {M : Mem} {x : Int32} (hI : I1 M x) (h : tX7_instrumentAt M x = 0) (hx : x.toNatClampNeg < 100 := by first | assumption | (apply nI_100; assumption)) : fX7_minutesUntilStill M x = (-1) → fX7_hairsOf M x = 0 := by
  intro hu
  show (if bv (M (pl x) 0) = 0 then (-1 : Int32) else M (pl x) 1) = 0
  by_cases hc : bv (M (pl x) 0) = 0 ∨ ¬ M (pl x) 1 = 0
  · exfalso
    refine mus_lim x 202 _ 0 100 ?_ (by decide) (by decide) hu
    have hq := cp_rq (M := M) (pl_ne hx)
    rw [cp_q _ _ 1 (by decide), hq.sur]
    refine dst_of (hq.iok hI.1) (sur_ub (o := pl x) hI.2.1) ?_
    rw [hq.1, hq.2 1 (by decide) (by decide)]
    exact hc
  · have h1 : ¬ bv (M (pl x) 0) = 0 := fun e => hc (Or.inl e)
    have h2 : M (pl x) 1 = 0 := by
      by_cases e : M (pl x) 1 = 0
      · exact e
      · exact absurd (Or.inr e) hc
    rw [if_neg h1, h2]
