/-! the class's loops over the room beside the reference's -/
/-- the reading of the whole room -/
def RA (M N : Mem) (r c : Nat) : Prop := PTS N ∧ RR M r (N 127) c
theorem RA.one {M N : Mem} {r c k : Nat} (h : RA M N r c) (hk : k < c) : R1 M N r (r + 1 + 1 + k) k := h.2.one h.1 hk
theorem RA.many {M N : Mem} {r c : Nat} (h : RA M N r c) : M r 1 = N 127 5 := h.2.2.2.1.1
theorem RA.lt {M N : Mem} {r c j : Nat} (h : RA M N r c) (hj : j ≤ 6) (hc : ¬ N 127 5 ≤ nI j) : j < c := by
  have hc6 := h.2.1
  rw [h.2.2.1, nI_leI (by omega) (by omega)] at hc
  omega
theorem RA.mny {M N : Mem} {r c : Nat} (h : RA M N r c) : MNY N := ⟨c, h.2.1, h.2.2.1⟩
theorem RA.six {M N : Mem} {r c j : Nat} (h : RA M N r c) (hj : j < c) : j + 1 ≤ 6 := by have := h.2.1; omega
theorem us_eq {M N : Mem} {r c : Nat} (h : RA M N r c) : ∀ (f : Nat) (v : Int32) (j : Nat), j ≤ 6 → LX4_countUsable_4f r f M v j = LX8_usable_4f f N v j := by
  intro f
  induction f with
  | zero => intro v j _; rfl
  | succ f ih =>
    intro v j hj
    rw [LX4_countUsable_4f, LX8_usable_4f, h.many]
    by_cases hc : N 127 5 ≤ nI j
    · rw [if_pos hc, if_pos hc]
    · have hj2 := h.lt hj hc
      have h6 := h.six hj2
      rw [if_neg hc, if_neg hc, flaw_eq (h.one hj2), ih _ _ h6, ih _ _ h6]
theorem usable_eq {M N : Mem} {r c : Nat} (h : RA M N r c) : fX4_countUsable M r = fX8_usable N := us_eq h 7 0 0 (by decide)
theorem bl_eq {M N : Mem} {r c : Nat} (h : RA M N r c) : ∀ (f : Nat) (v w : Int32) (j : Nat), j ≤ 6 → LX4_blended_6f r f M v w j = LX8_blend_6f f N v w j := by
  intro f
  induction f with
  | zero => intro v w j _; rfl
  | succ f ih =>
    intro v w j hj
    rw [LX4_blended_6f, LX8_blend_6f, h.many]
    by_cases hc : N 127 5 ≤ nI j
    · rw [if_pos hc, if_pos hc]
      unfold fX7_quotient
      by_cases hw : w = 0
      · rw [if_pos hw, if_pos hw]; rfl
      · rw [if_neg hw, if_neg hw]; exact (if_neg hw).symm
    · have hj2 := h.lt hj hc
      have h6 := h.six hj2
      rw [if_neg hc, if_neg hc, read_eq (h.one hj2), weight_eq (h.one hj2), ih _ _ _ h6]
theorem blend_eq {M N : Mem} {r c : Nat} (h : RA M N r c) : fX4_blended M r = fX8_blend N := bl_eq h 7 0 0 0 (by decide)
theorem nr_eq {M N : Mem} {r c : Nat} (h : RA M N r c) : ∀ (f : Nat) (v w : Int32) (j : Nat), j ≤ 6 → (v = -1 ∨ ∃ i, i < c ∧ v = nI i ∧ w = fX8_distance N i) → LX4_nearest_6f r f M v w j = LX8_bestInstrument_4f f N v j := by
  intro f
  induction f with
  | zero => intro v w j _ _; rfl
  | succ f ih =>
    intro v w j hj hv
    rw [LX4_nearest_6f, LX8_bestInstrument_4f, h.many]
    by_cases hc : N 127 5 ≤ nI j
    · rw [if_pos hc, if_pos hc]; rfl
    · have hj2 := h.lt hj hc
      have h6 := h.six hj2
      have hn : (nI j = -1 ∨ ∃ i, i < c ∧ nI j = nI i ∧ fX8_distance N j = fX8_distance N i) := Or.inr ⟨j, hj2, rfl, rfl⟩
      rw [if_neg hc, if_neg hc, flaw_eq (h.one hj2), dist_eq (h.one hj2)]
      by_cases hf : fX8_flaw N j = 0
      · rw [if_pos hf, if_pos hf]
        by_cases hv1 : v = -1
        · rw [if_pos hv1, if_pos hv1]
          exact ih _ _ _ h6 hn
        · rw [if_neg hv1, if_neg hv1]
          obtain ⟨i, hi, e1, e2⟩ := hv.resolve_left hv1
          have e3 : v.toNatClampNeg = i := by rw [e1, nI_clamp (by have := h.2.1; omega)]
          rw [e3, ← e2, ih _ _ _ h6 hn, ih v w _ h6 hv]
      · rw [if_neg hf, if_neg hf]
        exact ih _ _ _ h6 hv
theorem best_eq {M N : Mem} {r c : Nat} (h : RA M N r c) : fX4_nearest M r = fX8_bestInstrument N := nr_eq h 7 (-1) 0 0 (by decide) (Or.inl rfl)
theorem sl_eq {M N : Mem} {r c : Nat} (h : RA M N r c) : ∀ (f : Nat) (v w : Int32) (j : Nat), j ≤ 6 → (v = -1 ∨ ∃ i, i < c ∧ v = nI i ∧ w = N 127 (8 * i + 12)) → LX4_slackest_6f r f M v w j = LX8_slackestInstrument_4f f N v j := by
  intro f
  induction f with
  | zero => intro v w j _ _; rfl
  | succ f ih =>
    intro v w j hj hv
    rw [LX4_slackest_6f, LX8_slackestInstrument_4f, h.many]
    by_cases hc : N 127 5 ≤ nI j
    · rw [if_pos hc, if_pos hc]; rfl
    · have hj2 := h.lt hj hc
      have h6 := h.six hj2
      have hn : (nI j = -1 ∨ ∃ i, i < c ∧ nI j = nI i ∧ N 127 (8 * j + 12) = N 127 (8 * i + 12)) := Or.inr ⟨j, hj2, rfl, rfl⟩
      rw [if_neg hc, if_neg hc, ← hair_eq (h.one hj2), (h.one hj2).2.2.2.1.2.2.2.2.1]
      by_cases hf : fX8_isOfHair N j = 0
      · rw [if_pos hf, if_pos hf]
        exact ih _ _ _ h6 hv
      · rw [if_neg hf, if_neg hf]
        by_cases hv1 : v = -1
        · rw [if_pos hv1, if_pos hv1]
          exact ih _ _ _ h6 hn
        · rw [if_neg hv1, if_neg hv1]
          obtain ⟨i, hi, e1, e2⟩ := hv.resolve_left hv1
          have e3 : v.toNatClampNeg = i := by rw [e1, nI_clamp (by have := h.2.1; omega)]
          rw [e3, ← e2, ih _ _ _ h6 hn, ih v w _ h6 hv]
theorem slackest_eq {M N : Mem} {r c : Nat} (h : RA M N r c) : fX4_slackest M r = fX8_slackestInstrument N := sl_eq h 7 (-1) 0 0 (by decide) (Or.inl rfl)
