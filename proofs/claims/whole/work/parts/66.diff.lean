/-! the hairs that came -/
def AF (M N : Mem) (r c : Nat) : Prop := N 127 6 = sumH M r c
theorem came_eq {M N : Mem} {r c : Nat} (h : RA M N r c) (w : Int32) : ∀ (f j : Nat), j ≤ c → 7 ≤ j + f → LX4_hairsThatCame_7f r f M (w + sumH M r j) j = w + sumH M r c := by
  intro f
  induction f with
  | zero => intro j hj hf; have := h.2.1; omega
  | succ f ih =>
    intro j hj hf
    have hc6 := h.2.1
    rw [LX4_hairsThatCame_7f, h.many]
    by_cases hc : N 127 5 ≤ nI j
    · have : c ≤ j := by
        rw [h.2.2.1, nI_leI (by omega) (by omega)] at hc
        exact hc
      rw [if_pos hc, show j = c by omega]
    · have hj2 := h.lt (by omega) hc
      rw [if_neg hc, Int32.add_assoc]
      exact ih (j + 1) hj2 (by omega)
theorem here_eq {M N : Mem} {r c : Nat} (h : RA M N r c) : ∀ (f : Nat) (v : Int32) (j : Nat), j ≤ 6 → 7 ≤ j + f → LX8_hairDifference_9f f N v j = fX8_without N ((LX4_hairsHere_7f r f M v j - N 127 6) - N 127 7) := by
  intro f
  induction f with
  | zero => intro v j hj hf; omega
  | succ f ih =>
    intro v j hj hf
    rw [LX8_hairDifference_9f, LX4_hairsHere_7f, h.many]
    by_cases hc : N 127 5 ≤ nI j
    · rw [if_pos hc, if_pos hc]; rfl
    · have hj2 := h.lt hj hc
      have h6 := h.six hj2
      have hi := (h.one hj2).2.2.2.1
      rw [if_neg hc, if_neg hc, hi.2.1, hi.2.2.1]
      exact ih _ _ h6 (by omega)
theorem diff_eq {M N : Mem} {c : Nat} (h : RA M N 1 c) (ha : AF M N 1 c) : fX7_hairDifference M = fX8_hairDifference N := by
  have hh := h.2.2.2.1
  have e1 : fX4_hairsThatCame M 1 = M 1 7 + sumH M 1 c := by
    have := came_eq h (M 1 7) 7 0 (Nat.zero_le _) (by decide)
    rw [show sumH M 1 0 = 0 from rfl, Int32.add_zero] at this
    exact this
  have e2 := here_eq h 7 (N 127 4) 0 (by decide) (by decide)
  have e3 : fX8_hairDifference N = LX8_hairDifference_9f 7 N (N 127 4) 0 := rfl
  have e4 : fX4_hairsHere M 1 = LX4_hairsHere_7f 1 7 M (N 127 4) 0 := by unfold fX4_hairsHere; rw [hh.2.2.2.2.2.1]
  unfold fX7_hairDifference
  rw [e1, e4, e3, e2, ha, hh.2.2.2.2.2.2]
  have e5 : ∀ a b c : Int32, a - (b + c) = a - c - b := fun a b c => by
    rw [Int32.sub_eq_add_neg, Int32.sub_eq_add_neg, Int32.sub_eq_add_neg, Int32.neg_add, Int32.sub_eq_add_neg, Int32.add_assoc, Int32.add_comm (-b)]
  rw [e5]
  unfold fX8_without xabs
  split
  · rfl
  · exact Int32.zero_sub _
