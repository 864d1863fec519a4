/-- one minute of the class's room -/
def gMin (M : Mem) (r : Nat) (x : Int32) : Mem := if ((LX4_pass_25g r x 7 (mU M r 2 ((M r 2) + (1 : Int32))) 0) r 2) - ((LX4_pass_25g r x 7 (mU M r 2 ((M r 2) + (1 : Int32))) 0) r 2) / (60 : Int32) * (60 : Int32) = 0 then gX4_bringHairs (LX4_pass_25g r x 7 (mU M r 2 ((M r 2) + (1 : Int32))) 0) r else LX4_pass_25g r x 7 (mU M r 2 ((M r 2) + (1 : Int32))) 0
theorem min_rel {M N : Mem} {r c : Nat} (x : Int32) (h : RA M N r c) (hr : kd r = 4) : RA (gMin M r x) (gX8_passesMinute N) r c ∧ gX8_passesMinute N 127 7 = N 127 7 + fX8_passesMinute N := by
  obtain ⟨N1, i1, i2, i3, i4, i5⟩ := ages_rel x 7 _ _ 0 (ra_min h) (Nat.zero_le _) (by decide)
  have e0 : LX4_pass_25g r x 7 (mU M r 2 (M r 2 + 1)) 0 r 2 = mU N 127 0 (N 127 0 + 1) 127 0 := i1.2.2.2.1.2.1.trans (i2 0 (by decide))
  have e7 : N1 127 7 = N 127 7 := (i2 7 (by decide)).trans (mU_row (by decide))
  unfold gMin gX8_passesMinute fX8_passesMinute
  rw [i4, i5, e0]
  by_cases c0 : mU N 127 0 (N 127 0 + 1) 127 0 - mU N 127 0 (N 127 0 + 1) 127 0 / 60 * 60 = 0
  · rw [if_pos c0, if_pos c0, if_pos c0]
    refine ⟨ra_bring i1 hr, ?_⟩
    rw [(br_at (N := N1) rfl).2, e7]
    rfl
  · rw [if_neg c0, if_neg c0, if_neg c0]
    exact ⟨i1, by rw [e7, Int32.add_zero]⟩
theorem pass_eq {r c : Nat} (x : Int32) (hr : kd r = 4) (w0 : Int32) : ∀ (f : Nat) (M N : Mem) (w : Int32) (i : Nat), RA M N r c → N 127 7 - w0 = w → RA (LX4_pass_7g r x f M w0 i) (LX8_passes_4g x f N w i) r c ∧ LX4_pass_7f r x f M w0 i = LX8_passes_4f x f N w i := by
  intro f
  induction f with
  | zero => intro M N w i h _; exact ⟨h, rfl⟩
  | succ f ih =>
    intro M N w i h hw
    have h7 : M r 7 = N 127 7 := h.2.2.2.1.2.2.2.2.2.2
    rw [LX4_pass_7g, LX8_passes_4g, LX4_pass_7f, LX8_passes_4f]
    by_cases hc : x ≤ nI i
    · rw [if_pos hc, if_pos hc, if_pos hc, if_pos hc, h7]
      exact ⟨h, hw⟩
    · rw [if_neg hc, if_neg hc, if_neg hc, if_neg hc]
      obtain ⟨m1, m2⟩ := min_rel x h hr
      have hw2 : gX8_passesMinute N 127 7 - w0 = w + fX8_passesMinute N := by
        rw [m2, ← hw, Int32.sub_eq_add_neg, Int32.sub_eq_add_neg, Int32.add_assoc, Int32.add_assoc, Int32.add_comm (fX8_passesMinute N)]
      obtain ⟨j1, j2⟩ := ih (gMin M r x) (gX8_passesMinute N) (w + fX8_passesMinute N) (i + 1) m1 hw2
      refine ⟨?_, ?_⟩
      · rw [← apply_ite (fun M' => LX4_pass_7g r x f M' w0 (i + 1))]
        exact j1
      · rw [← apply_ite (fun M' => LX4_pass_7f r x f M' w0 (i + 1))]
        exact j2
theorem pass_rel {M N : Mem} {r c : Nat} (x : Int32) (h : RA M N r c) (hr : kd r = 4) : RA (gX4_pass M r x) (gX8_passes N x) r c ∧ fX4_pass M r x = fX8_passes N x := by
  unfold gX4_pass gX8_passes fX4_pass fX8_passes
  refine pass_eq x hr (M r 7) 201 M N 0 0 h ?_
  rw [h.2.2.2.1.2.2.2.2.2.2]
  exact Int32.sub_self _
