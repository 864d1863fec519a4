/-! minutes that pass: each instrument's row by itself -/
def ageS : Nat → (Nat → Int32) → Int32 → Int32 → (Nat → Int32)
  | 0, A, _, _ => A
  | n + 1, A, mn, h => ageS n (ageR A (mn + 1) (surR A h)) (mn + 1) h
theorem rq_ageS : ∀ (n : Nat) {A B : Nat → Int32} (mn h : Int32), RQ A B → RQ (ageS n A mn h) (ageS n B mn h) := by
  intro n
  induction n with
  | zero => intro A B mn h hq; exact hq
  | succ n ih =>
    intro A B mn h hq
    rw [ageS, ageS]
    refine ih _ _ ?_
    rw [hq.sur]
    exact hq.age _ _
theorem surR_ub {A : Nat → Int32} {h : Int32} (hh : UB h 100) : UB (surR A h) 100 := by
  unfold surR
  split
  · exact hh
  · split
    · exact hh
    · exact fpV_ub _
theorem qR_ub {t : Int32} (h : UB t 20) : ∃ d, d ≤ 100 ∧ 1 + qR t = nI d := by
  obtain ⟨t, ht, rfl⟩ := h
  have : ∀ t : Fin 21, ∃ d : Fin 101, 1 + qR (nI t.1) = nI d.1 := by decide +kernel
  obtain ⟨d, e⟩ := this ⟨t, by omega⟩
  exact ⟨d.1, by omega, e⟩
theorem iok_age {A : Nat → Int32} {x y : Int32} (hA : IOK A) (hy : UB y 100) : IOK (ageR A x y) := by
  obtain ⟨h1, h4, h5, h6, h8, c1, c2⟩ := hA
  have k0 := ageR_kp A x y (j := 0) (by decide) (by decide) (by decide)
  have k1 := ageR_kp A x y (j := 1) (by decide) (by decide) (by decide)
  have k8 := ageR_kp A x y (j := 8) (by decide) (by decide) (by decide)
  have w6 : UB (xmax 0 (A 6 - 1)) 60 := by
    obtain ⟨w, hw, e⟩ := h6
    have : ∀ w : Fin 61, ∃ d : Fin 61, xmax 0 (nI w.1 - 1) = nI d.1 := by decide +kernel
    obtain ⟨d, e2⟩ := this ⟨w, by omega⟩
    exact ⟨d.1, by omega, by rw [e]; exact e2⟩
  have w5 : UB (xmin 50 (A 5 + 1)) 50 := by
    obtain ⟨w, hw, e⟩ := h5
    have : ∀ w : Fin 51, ∃ d : Fin 51, xmin 50 (nI w.1 + 1) = nI d.1 := by decide +kernel
    obtain ⟨d, e2⟩ := this ⟨w, by omega⟩
    exact ⟨d.1, by omega, by rw [e]; exact e2⟩
  have w4 : UB (wetC y (A 4) (1 + qR (A 1))) 100 := by
    obtain ⟨a, ha, e⟩ := h4
    obtain ⟨b, hb, e2⟩ := hy
    obtain ⟨d, hd, e3⟩ := qR_ub h1
    rw [e, e2, e3]
    exact wet_ub ha hb hd
  refine ⟨by rw [k1]; exact h1, ?_, ?_, ?_, by rw [k8]; exact h8, fun h => ?_, fun h => ?_⟩
  · unfold ageR
    (repeat' split) <;> first | exact h4 | (rw [upd_ne (by decide)]; exact h4) | (rw [upd_ne (by decide), upd_at]; exact w4) | (rw [upd_at]; exact w4)
  · unfold ageR
    (repeat' split) <;> first | exact h5 | (rw [upd_ne (by decide)]; exact h5) | (rw [upd_at]; exact w5)
  · unfold ageR
    (repeat' split) <;> first | exact h6 | (rw [upd_at]; exact w6) | (rw [upd_ne (by decide)]; exact h6) | (rw [upd_ne (by decide), upd_ne (by decide)]; exact h6)
  · rw [k0] at h
    unfold ageR
    rw [if_pos h, upd_ne (by decide)]
    exact c1 h
  · rw [k0] at h
    unfold ageR
    rw [if_neg h]
    (repeat' split) <;> first | exact c2 h | (rw [upd_ne (by decide)]; exact c2 h) | (rw [upd_ne (by decide), upd_ne (by decide)]; exact c2 h)
theorem iok_ageS : ∀ (n : Nat) {A : Nat → Int32} {mn h : Int32}, IOK A → UB h 100 → IOK (ageS n A mn h) := by
  intro n
  induction n with
  | zero => intro A mn h hA hh; exact hA
  | succ n ih => intro A mn h hA hh; rw [ageS]; exact ih (iok_age hA (surR_ub hh)) hh
theorem ageS_kp : ∀ (n : Nat) {A : Nat → Int32} {mn h : Int32} {j : Nat}, j ≠ 4 → j ≠ 5 → j ≠ 6 → ageS n A mn h j = A j := by
  intro n
  induction n with
  | zero => intro A mn h j _ _ _; rfl
  | succ n ih => intro A mn h j h4 h5 h6; rw [ageS, ih h4 h5 h6, ageR_kp _ _ _ h4 h5 h6]
/-- one minute of the room -/
def passM (M : Mem) : Mem := if ((LX4_pass_25g 1 0 7 (mU M 1 2 (M 1 2 + 1)) 0) 1 2) - ((LX4_pass_25g 1 0 7 (mU M 1 2 (M 1 2 + 1)) 0) 1 2) / (60 : Int32) * (60 : Int32) = 0 then gX4_bringHairs (LX4_pass_25g 1 0 7 (mU M 1 2 (M 1 2 + 1)) 0) 1 else LX4_pass_25g 1 0 7 (mU M 1 2 (M 1 2 + 1)) 0
def passN : Nat → Mem → Mem
  | 0, M => M
  | n + 1, M => passN n (passM M)
theorem pass25_x (x y : Int32) : ∀ (k : Nat) (M : Mem) (j : Nat), LX4_pass_25g 1 x k M j = LX4_pass_25g 1 y k M j := by
  intro k
  induction k with
  | zero => intro M j; rfl
  | succ k ih => intro M j; rw [LX4_pass_25g, LX4_pass_25g, ih]
theorem pass7_N (m : Nat) (hm : m ≤ 200) : ∀ (k : Nat) (M : Mem) (w : Int32) (i : Nat), i ≤ m → m < i + k → LX4_pass_7g 1 (nI m) k M w i = passN (m - i) M ∧ LX4_pass_7f 1 (nI m) k M w i = (passN (m - i) M) 1 7 - w := by
  intro k
  induction k with
  | zero => intro M w i h1 h2; omega
  | succ k ih =>
    intro M w i h1 h2
    rw [LX4_pass_7g, LX4_pass_7f]
    by_cases hi : i = m
    · subst hi
      have : nI i ≤ nI i := by rw [nI_leI (by omega) (by omega)]; omega
      rw [if_pos this, if_pos this, Nat.sub_self]
      exact ⟨rfl, rfl⟩
    · have hn : ¬ nI m ≤ nI i := nI_ge (by omega) (by omega)
      rw [if_neg hn, if_neg hn, show m - i = (m - (i + 1)) + 1 by omega, passN]
      have e := ih (passM M) w (i + 1) (by omega) (by omega)
      unfold passM at e ⊢
      rw [pass25_x (nI m) 0]
      by_cases hb : ((LX4_pass_25g 1 0 7 (mU M 1 2 (M 1 2 + 1)) 0) 1 2) - ((LX4_pass_25g 1 0 7 (mU M 1 2 (M 1 2 + 1)) 0) 1 2) / (60 : Int32) * (60 : Int32) = 0
      · rw [if_pos hb] at e ⊢
        rw [if_pos hb, if_pos hb]
        exact e
      · rw [if_neg hb] at e ⊢
        rw [if_neg hb, if_neg hb]
        exact e
theorem pass_N {M : Mem} {m : Nat} (hm : m ≤ 200) : gX4_pass M 1 (nI m) = passN m M ∧ fX4_pass M 1 (nI m) = (passN m M) 1 7 - M 1 7 := by
  have := pass7_N m hm 201 M (M 1 7) 0 (by omega) (by omega)
  rw [Nat.sub_zero] at this
  exact this
theorem pass25_rows {c : Nat} (hc : c ≤ 6) : ∀ (k : Nat) (M : Mem) (j : Nat), M 1 1 = nI c → j ≤ c → 7 ≤ j + k → (∀ i, j ≤ i → i < c → LX4_pass_25g 1 0 k M j (1 + 1 + 1 + i) = ageR (M (1 + 1 + 1 + i)) (M 1 2) (surR (M (1 + 1 + 1 + i)) (M 1 3))) ∧ ∀ p, (p < 1 + 1 + 1 + j ∨ 1 + 1 + 1 + c ≤ p) → LX4_pass_25g 1 0 k M j p = M p := by
  intro k
  induction k with
  | zero => intro M j h1 hj hk; omega
  | succ k ih =>
    intro M j h1 hj hk
    rw [LX4_pass_25g, h1]
    by_cases hjc : j = c
    · subst hjc
      rw [if_pos (by rw [nI_leI (by omega) (by omega)]; omega)]
      exact ⟨fun i h2 h3 => by omega, fun p _ => rfl⟩
    · rw [if_neg (nI_ge (by omega) (by omega))]
      have e1 : gX1_age M (1 + 1 + 1 + j) (M 1 2) (fX4_surrounding M 1 (1 + 1 + 1 + j)) 1 = M 1 := gX1_age_ne (by omega)
      obtain ⟨a, b⟩ := ih (gX1_age M (1 + 1 + 1 + j) (M 1 2) (fX4_surrounding M 1 (1 + 1 + 1 + j))) (j + 1) (by rw [e1]; exact h1) (by omega) (by omega)
      refine ⟨fun i h2 h3 => ?_, fun p hp => ?_⟩
      · by_cases hij : i = j
        · subst hij
          rw [b _ (Or.inl (by omega)), age_row, sur_row]
        · rw [a i (by omega) h3, gX1_age_ne (by omega), e1]
      · rw [b p (by omega), gX1_age_ne (by omega)]
theorem bring_row (M : Mem) : ∃ d, gX4_bringHairs M 1 1 = upd (upd (M 1) 6 (M 1 6 + d)) 7 (M 1 7 + d) ∧ d = xmin (M 1 5) (99 - M 1 6) := by
  refine ⟨_, ?_, rfl⟩
  unfold gX4_bringHairs
  rw [mU_at, mU_at, upd_ne (by decide)]
/-- what a minute leaves -/
theorem passM_rows {M : Mem} {c : Nat} (hc : c ≤ 6) (h1 : M 1 1 = nI c) : (∀ i, i < c → passM M (1 + 1 + 1 + i) = ageR (M (1 + 1 + 1 + i)) (M 1 2 + 1) (surR (M (1 + 1 + 1 + i)) (M 1 3))) ∧ (∀ p, (p < 1 ∨ 1 + 1 + 1 + c ≤ p ∨ p = 2) → passM M p = M p) ∧ passM M 1 2 = M 1 2 + 1 ∧ (∀ j, j ≠ 2 → j ≠ 6 → j ≠ 7 → passM M 1 j = M 1 j) ∧ ∃ d, passM M 1 6 = M 1 6 + d ∧ passM M 1 7 = M 1 7 + d ∧ (d = 0 ∨ d = xmin (M 1 5) (99 - M 1 6)) := by
  have r1 : mU M 1 2 (M 1 2 + 1) 1 = upd (M 1) 2 (M 1 2 + 1) := mU_at M 1 2 _
  obtain ⟨a, b⟩ := pass25_rows hc 7 (mU M 1 2 (M 1 2 + 1)) 0 (by rw [r1, upd_ne (by decide)]; exact h1) (by omega) (by omega)
  have b1 := b 1 (Or.inl (by omega))
  have x2 : mU M 1 2 (M 1 2 + 1) 1 2 = M 1 2 + 1 := by rw [r1, upd_at]
  have x3 : mU M 1 2 (M 1 2 + 1) 1 3 = M 1 3 := by rw [r1, upd_ne (by decide)]
  have a' : ∀ i, i < c → LX4_pass_25g 1 0 7 (mU M 1 2 (M 1 2 + 1)) 0 (1 + 1 + 1 + i) = ageR (M (1 + 1 + 1 + i)) (M 1 2 + 1) (surR (M (1 + 1 + 1 + i)) (M 1 3)) := fun i hi => by
    rw [a i (by omega) hi, x2, x3, mU_ne _ _ _ (by omega)]
  unfold passM
  by_cases hb : ((LX4_pass_25g 1 0 7 (mU M 1 2 (M 1 2 + 1)) 0) 1 2) - ((LX4_pass_25g 1 0 7 (mU M 1 2 (M 1 2 + 1)) 0) 1 2) / (60 : Int32) * (60 : Int32) = 0
  · rw [if_pos hb]
    obtain ⟨d, e, ed⟩ := bring_row (LX4_pass_25g 1 0 7 (mU M 1 2 (M 1 2 + 1)) 0)
    rw [b1, r1] at e ed
    rw [upd_ne (by decide), upd_ne (by decide)] at e
    rw [upd_ne (by decide), upd_ne (by decide)] at ed
    refine ⟨fun i hi => by rw [gX4_bringHairs_ne (by omega)]; exact a' i hi, fun p hp => by rw [gX4_bringHairs_ne (by omega), b p (by omega), mU_ne _ _ _ (by omega)], ?_, fun j h2 h6 h7 => ?_, d, ?_, ?_, Or.inr ed⟩
    · rw [e, upd_ne (by decide), upd_ne (by decide), upd_at]
    · rw [e, upd_ne h7, upd_ne h6, upd_ne h2]
    · rw [e, upd_ne (by decide), upd_at]
    · rw [e, upd_at]
  · rw [if_neg hb]
    refine ⟨a', fun p hp => by rw [b p (by omega), mU_ne _ _ _ (by omega)], ?_, fun j h2 h6 h7 => ?_, 0, ?_, ?_, Or.inl rfl⟩
    · rw [b1, r1, upd_at]
    · rw [b1, r1, upd_ne h2]
    · rw [b1, r1, upd_ne (by decide)]; grind
    · rw [b1, r1, upd_ne (by decide)]; grind
theorem bring_ub {s k : Int32} (hs : UB s 99) (hk : UB k 5) : UB (s + xmin k (99 - s)) 99 := by
  obtain ⟨s, hs, rfl⟩ := hs
  obtain ⟨k, hk, rfl⟩ := hk
  have : ∀ s : Fin 100, ∀ k : Fin 6, ∃ d : Fin 100, nI s.1 + xmin (nI k.1) (99 - nI s.1) = nI d.1 := by decide +kernel
  obtain ⟨d, e⟩ := this ⟨s, by omega⟩ ⟨k, by omega⟩
  exact ⟨d.1, by omega, e⟩
theorem inv_pass {mx : Nat} {M : Mem} (h : INV mx M) (hx : mx ≤ 100000) : INV (mx + 1) (passM M) := by
  obtain ⟨c, hc, h1, h2, h3, h4, h5, h6, h7, h8⟩ := h
  obtain ⟨a, b, b2, bj, d, d6, d7, dd⟩ := passM_rows hc h1
  have g : ∀ i, i < c → passM M (1 + 1 + 1 + i) 1 = M (1 + 1 + 1 + i) 1 ∧ passM M (1 + 1 + 1 + i) 2 = M (1 + 1 + 1 + i) 2 ∧ passM M (1 + 1 + 1 + i) 3 = M (1 + 1 + 1 + i) 3 := fun i hi => by
    rw [a i hi]
    exact ⟨ageR_kp _ _ _ (by decide) (by decide) (by decide), ageR_kp _ _ _ (by decide) (by decide) (by decide), ageR_kp _ _ _ (by decide) (by decide) (by decide)⟩
  refine ⟨c, hc, by rw [bj 1 (by decide) (by decide) (by decide)]; exact h1, ?_, by rw [bj 3 (by decide) (by decide) (by decide)]; exact h3, by rw [bj 4 (by decide) (by decide) (by decide)]; exact h4, by rw [bj 5 (by decide) (by decide) (by decide)]; exact h5, ?_, fun k hk => by rw [a k hk]; exact iok_age (h7 k hk) (surR_ub h3), ?_⟩
  · rw [b2]
    obtain ⟨q, hq, e⟩ := h2
    exact ⟨q + 1, by omega, by rw [e, nI_1]⟩
  · rw [d6]
    rcases dd with e | e
    · rw [e, show M 1 6 + 0 = M 1 6 by grind]; exact h6
    · rw [e]; exact bring_ub h6 h5
  · rw [SG_congr (g := fun k => hbR (M (1 + 1 + 1 + k))) (g' := fun k => hbR (passM M (1 + 1 + 1 + k))) (fun k hk => by show _ + _ = _ + _; rw [(g k hk).1, (g k hk).2.2]), SG_congr (g := fun k => M (1 + 1 + 1 + k) 2) (g' := fun k => passM M (1 + 1 + 1 + k) 2) (fun k hk => (g k hk).2.1), d6, d7]
    grind
theorem passN_all {c : Nat} (hc : c ≤ 6) : ∀ (n mx : Nat) (M : Mem), M 1 1 = nI c → INV mx M → mx + n ≤ 100000 → INV (mx + n) (passN n M) ∧ passN n M 1 1 = nI c ∧ (∀ i, i < c → passN n M (1 + 1 + 1 + i) = ageS n (M (1 + 1 + 1 + i)) (M 1 2) (M 1 3)) ∧ (∀ p, (p < 1 ∨ 1 + 1 + 1 + c ≤ p ∨ p = 2) → passN n M p = M p) ∧ passN n M 1 3 = M 1 3 ∧ passN n M 1 4 = M 1 4 ∧ passN n M 1 7 - M 1 7 = passN n M 1 6 - M 1 6 := by
  intro n
  induction n with
  | zero => intro mx M h1 hI hm; exact ⟨hI, h1, fun _ _ => rfl, fun _ _ => rfl, rfl, rfl, by show M 1 7 - M 1 7 = M 1 6 - M 1 6; grind⟩
  | succ n ih =>
    intro mx M h1 hI hm
    obtain ⟨a, b, b2, bj, d, d6, d7, dd⟩ := passM_rows hc h1
    have j1 := bj 1 (by decide) (by decide) (by decide)
    have j3 := bj 3 (by decide) (by decide) (by decide)
    have j4 := bj 4 (by decide) (by decide) (by decide)
    obtain ⟨q1, q2, q3, q4, q5, q6, q7⟩ := ih (mx + 1) (passM M) (by rw [j1]; exact h1) (inv_pass hI (by omega)) (by omega)
    rw [passN]
    refine ⟨by rw [show mx + (n + 1) = mx + 1 + n by omega]; exact q1, q2, fun i hi => ?_, fun p hp => by rw [q4 p hp, b p hp], by rw [q5, j3], by rw [q6, j4], ?_⟩
    · rw [q3 i hi, a i hi, b2, j3, ageS]
    · rw [d6, d7] at q7
      grind
/-- the forecast -/
theorem ra_S (x : Int32) (m : Nat) (hm : m ≤ 200) : ∀ (k : Nat) (M : Mem) (j : Nat), 1 ≤ j → j ≤ m + 1 → m + 1 < j + k → LX7_readingAfter_35f x (nI m) k M j = rdR (ageS (m + 1 - j) (M 123) (M 1 2 + nI (j - 1)) (M 1 3)) (M 1 3) (M 1 4) := by
  intro k
  induction k with
  | zero => intro M j h0 h1 h2; omega
  | succ k ih =>
    intro M j h0 h1 h2
    rw [LX7_readingAfter_35f]
    by_cases hj : j = m + 1
    · subst hj
      rw [if_pos (nI_lt (by omega) (by omega)), Nat.sub_self, read_row]
      rfl
    · rw [if_neg (nI_nlt (by omega) (by omega)), ih _ (j + 1) (by omega) (by omega) (by omega), gX1_age_ne (show (1 : Nat) ≠ 123 by decide), age_row, sur_row, show m + 1 - j = (m + 1 - (j + 1)) + 1 by omega, ageS, show j + 1 - 1 = (j - 1) + 1 by omega]
      have e : M 1 2 + nI (j - 1) + 1 = M 1 2 + nI (j - 1 + 1) := by rw [← nI_1]; grind
      rw [e, show j - 1 + 1 = j by omega]
theorem ra_eq {M : Mem} {x : Int32} {m : Nat} (hm : m ≤ 200) (hx : x.toNatClampNeg < 100) : fX7_readingAfter M x (nI m) = rdR (ageS m (M (pl x)) (M 1 2) (M 1 3)) (M 1 3) (M 1 4) := by
  unfold fX7_readingAfter
  rw [if_neg (nI_pos (by omega)), if_pos (by rw [show (200 : Int32) = nI 200 from rfl, nI_leI (by omega) (by omega)]; omega)]
  rw [ra_S x m hm 201 _ 1 (by omega) (by omega) (by omega), cp_q _ _ 1 (by decide), show m + 1 - 1 = m by omega, show M 1 2 + nI (1 - 1) = M 1 2 by show M 1 2 + 0 = M 1 2; grind]
  exact (rq_ageS _ _ _ (cp_rq (pl_ne hx))).read _ _
