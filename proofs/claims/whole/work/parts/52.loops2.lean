theorem di_eq {M N : Mem} {r c : Nat} (h : RA M N r c) : ∀ (f : Nat) (v : Int32) (j : Nat), j ≤ 6 → LX4_countDisagreeing_4f r f M v j = LX8_disagreements_4f f N v j := by
  intro f
  induction f with
  | zero => intro v j _; rfl
  | succ f ih =>
    intro v j hj
    rw [LX4_countDisagreeing_4f, LX8_disagreements_4f, h.many]
    by_cases hc : N 127 5 ≤ nI j
    · rw [if_pos hc, if_pos hc]; rfl
    · have hj2 := h.lt hj hc
      have h6 := h.six hj2
      have h1 := h.one hj2
      rw [if_neg hc, if_neg hc, boxed_eq h1, set_eq h1, read_eq h1, sur_eq h1, ih _ _ h6, ih _ _ h6]
      unfold fX8_hindrance
      by_cases hb : fX8_isBoxed N j = 0
      · rw [if_pos hb, if_pos hb, if_neg (show ¬ (1 : Int32) = 0 by decide)]
      · rw [if_neg hb, if_neg hb]
        by_cases hs : fX8_hasSettled N j = 0
        · rw [if_pos hs, if_pos hs, if_neg (show ¬ (2 : Int32) = 0 by decide)]
        · rw [if_neg hs, if_neg hs, if_pos rfl]
theorem disagree_eq {M N : Mem} {r c : Nat} (h : RA M N r c) : fX4_countDisagreeing M r = fX8_disagreements N := di_eq h 7 0 0 (by decide)
theorem xmin_eq (x y : Int32) : xmin x y = if x ≤ y then x else y := by
  unfold xmin
  by_cases h : y < x
  · rw [if_pos h, if_neg (Int32.not_le.mpr h)]
  · rw [if_neg h, if_pos (Int32.not_lt.mp h)]
theorem xmax_eq (x y : Int32) : xmax x y = if y ≤ x then x else y := by
  unfold xmax
  by_cases h : x < y
  · rw [if_pos h, if_neg (Int32.not_le.mpr h)]
  · rw [if_neg h, if_pos (Int32.not_lt.mp h)]
/-- the span so far: u instruments were usable -/
def SPN (u : Nat) (lo hi : Int32) : Prop := ∃ a b, a ≤ 100 ∧ b ≤ 100 ∧ lo = nI a ∧ hi = nI b ∧ (u = 0 → a = 100 ∧ b = 0) ∧ (u = 1 → a = b) ∧ (2 ≤ u → a ≤ b)
theorem nI_max {a b : Nat} (ha : a ≤ 100) (hb : b ≤ 100) : xmax (nI a) (nI b) = nI (max a b) := by
  rw [xmax_eq]
  by_cases h : b ≤ a
  · rw [if_pos (by rw [nI_leI (by omega) (by omega)]; exact h), Nat.max_eq_left h]
  · rw [if_neg (by rw [nI_leI (by omega) (by omega)]; exact h), Nat.max_eq_right (by omega)]
theorem nI_min {a b : Nat} (ha : a ≤ 100) (hb : b ≤ 100) : xmin (nI a) (nI b) = nI (min a b) := by
  rw [xmin_eq]
  by_cases h : a ≤ b
  · rw [if_pos (by rw [nI_leI (by omega) (by omega)]; exact h), Nat.min_eq_left h]
  · rw [if_neg (by rw [nI_leI (by omega) (by omega)]; exact h), Nat.min_eq_right (by omega)]
theorem spn_step {u : Nat} {lo hi v : Int32} (h : SPN u lo hi) (hv : UB v 100) : SPN (u + 1) (xmin lo v) (xmax hi v) := by
  obtain ⟨a, b, ha, hb, rfl, rfl, h0, h1, h2⟩ := h
  obtain ⟨d, hd, rfl⟩ := hv
  refine ⟨min a d, max b d, by omega, by omega, nI_min ha hd, nI_max hb hd, fun h => by omega, fun h => ?_, fun h => ?_⟩
  · have := h0 (by omega); omega
  · rcases Nat.lt_or_ge u 2 with h3 | h3
    · have := h1 (by omega); omega
    · have := h2 h3; omega
theorem spn_end {u : Nat} {lo hi : Int32} (h : SPN u lo hi) (hu : u ≤ 6) : xmax 0 (hi - lo) = if (2 : Int32) ≤ nI u then hi - lo else 0 := by
  obtain ⟨a, b, ha, hb, rfl, rfl, h0, h1, h2⟩ := h
  rw [show (2 : Int32) = nI 2 from rfl]
  by_cases hu2 : 2 ≤ u
  · have hab := h2 hu2
    rw [if_pos (by rw [nI_leI (by omega) (by omega)]; exact hu2), pk_sub hab]
    have := nI_max (a := 0) (b := b - a) (by omega) (by omega)
    rw [show (0 : Int32) = nI 0 from rfl, this, Nat.max_eq_right (by omega)]
  · rw [if_neg (by rw [nI_leI (by omega) (by omega)]; exact hu2)]
    rcases (by omega : u = 0 ∨ u = 1) with e | e
    · obtain ⟨e1, e2⟩ := h0 e
      rw [e1, e2]; decide
    · rw [h1 e, pk_sub (Nat.le_refl _), Nat.sub_self]; decide
/-- the usable from j on -/
theorem sp_eq {M N : Mem} {r c : Nat} (h : RA M N r c) : ∀ (f : Nat) (lo hi : Int32) (j u : Nat), j ≤ 6 → u ≤ j → 7 ≤ j + f → SPN u lo hi → fX8_usable N = LX8_usable_4f f N (nI u) j → LX4_readingSpan_7f r f M lo hi j = LX8_spread_7f f N lo hi j := by
  intro f
  induction f with
  | zero => intro lo hi j u hj _ hf; omega
  | succ f ih =>
    intro lo hi j u hj hu hf hs hus
    rw [LX4_readingSpan_7f, LX8_spread_7f, h.many]
    rw [LX8_usable_4f] at hus
    by_cases hc : N 127 5 ≤ nI j
    · rw [if_pos hc] at hus
      rw [if_pos hc, if_pos hc, hus, spn_end hs (by omega)]
      split <;> rfl
    · have hj2 := h.lt hj hc
      have h6 := h.six hj2
      have h1 := h.one hj2
      rw [if_neg hc] at hus
      rw [if_neg hc, if_neg hc, flaw_eq h1, read_eq h1]
      by_cases hf0 : fX8_flaw N j = 0
      · rw [if_pos hf0] at hus
        rw [if_pos hf0, ih _ _ _ (u + 1) h6 (by omega) (by omega) (spn_step hs (rd8_100 N j)) (hus.trans (by rw [nI_1])), xmin_eq, xmax_eq]
        simp only [if_pos hf0]
        by_cases a : lo ≤ fX8_reading N j
        · simp only [if_pos a]
          by_cases b : fX8_reading N j ≤ hi
          · simp only [if_pos b]
          · simp only [if_neg b]
        · simp only [if_neg a]
          by_cases b : fX8_reading N j ≤ hi
          · simp only [if_pos b]
          · simp only [if_neg b]
      · rw [if_neg hf0] at hus
        simp only [if_neg hf0]
        exact ih _ _ _ u h6 (by omega) (by omega) hs hus
theorem span_eq {M N : Mem} {r c : Nat} (h : RA M N r c) : fX4_readingSpan M r = fX8_spread N := sp_eq h 7 100 0 0 0 (by decide) (by decide) (by decide) ⟨100, 0, by decide, by decide, rfl, rfl, fun _ => ⟨rfl, rfl⟩, fun h => by omega, fun h => by omega⟩ rfl
theorem sum_ub {M N : Mem} {r c : Nat} (h : RA M N r c) : ∀ (f : Nat) (v : Int32) (j : Nat), j ≤ 6 → 7 ≤ j + f → UB v (100 * j) → UB (LX4_sumOfReadings_4f r f M v j) 600 ∧ LX8_meanReading_20f f N v j = FP.ddiv (FP.i2d (LX4_sumOfReadings_4f r f M v j)) (FP.i2d (M r 1)) := by
  intro f
  induction f with
  | zero => intro v j hj hf; omega
  | succ f ih =>
    intro v j hj hf hv
    rw [LX4_sumOfReadings_4f, LX8_meanReading_20f, h.many]
    by_cases hc : N 127 5 ≤ nI j
    · rw [if_pos hc, if_pos hc]
      exact ⟨hv.mono (by omega), rfl⟩
    · have hj2 := h.lt hj hc
      have h6 := h.six hj2
      rw [if_neg hc, if_neg hc, read_eq (h.one hj2)]
      have := ih _ (j + 1) h6 (by omega) (ub_plus hv (rd8_100 N j) (Nat.le_of_eq (by omega)))
      rw [h.many] at this
      exact this
