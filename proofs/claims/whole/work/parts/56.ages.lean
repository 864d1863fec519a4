theorem gAge_at {N : Mem} {k j : Nat} (h : j ≠ 8 * k + 11) (h2 : j ≠ 8 * k + 12) (h3 : j ≠ 8 * k + 13) : gAge N k 127 j = N 127 j := by
  unfold gAge
  split
  · exact (slackens_at h2).trans (ages_at h h3)
  · exact ages_at h h3
theorem gAge_ne {N : Mem} {k p : Nat} (h : p ≠ 127) : gAge N k p = N p := by
  unfold gAge
  split
  · exact (slackens_ne h).trans (ages_ne h)
  · exact ages_ne h
theorem rh_row {A A' B B' : Nat → Int32} (ha : A' = A) (hb : ∀ j, j < 8 → B' j = B j) (h : RH A B) : RH A' B' := by
  rw [ha]
  unfold RH
  rw [hb 5 (by decide), hb 0 (by decide), hb 1 (by decide), hb 2 (by decide), hb 3 (by decide), hb 4 (by decide), hb 7 (by decide)]
  exact h
theorem gh_row {B B' : Nat → Int32} (hb : ∀ j, j < 8 → B' j = B j) (h : GH B) : GH B' := by
  unfold GH
  rw [hb 1 (by decide), hb 2 (by decide), hb 3 (by decide), hb 4 (by decide)]
  exact h
theorem pts_row {N N' : Mem} (h : N' 125 = N 125) (hp : PTS N) : PTS N' := fun j hj => by rw [h]; exact hp j hj
theorem ra_age {M N : Mem} {r c j : Nat} (h : RA M N r c) (hj : j < c) : RA (gX1_age M (r + 1 + 1 + j) (M r 2) (fX4_surrounding M r (r + 1 + 1 + j))) (gAge N j) r c := by
  have h1 := age_rel (h.one hj)
  have hc := h.2.1
  refine ⟨pts_row (gAge_ne (by decide)) h.1, hc, ?_, ?_, ?_, fun k hk => ?_⟩
  · rw [gAge_at (by omega) (by omega) (by omega)]; exact h.2.2.1
  · exact rh_row (gX1_age_ne (by omega)) (fun i hi => gAge_at (by omega) (by omega) (by omega)) h.2.2.2.1
  · exact gh_row (fun i hi => gAge_at (by omega) (by omega) (by omega)) h.2.2.2.2.1
  · by_cases e : k = j
    · rw [e]; exact h1
    · obtain ⟨a, b⟩ := h.2.2.2.2.2 k hk
      refine ⟨?_, gi_out (fun i h1 h2 => gAge_at (by omega) (by omega) (by omega)) b⟩
      rw [gX1_age_ne (by omega)]
      exact ri_out (fun i h1 h2 => gAge_at (by omega) (by omega) (by omega)) a
/-- the class's minute of all instruments beside the reference's, the apprentice apart -/
theorem ages_rel {r c : Nat} (x : Int32) : ∀ (f : Nat) (M N : Mem) (j : Nat), RA M N r c → j ≤ c → 7 ≤ j + f → ∃ N1, RA (LX4_pass_25g r x f M j) N1 r c ∧ (∀ i, i < 8 → N1 127 i = N 127 i) ∧ (∀ p, p ≠ 127 → N1 p = N p) ∧ LX8_passesMinute_12g f N j = (if N 127 0 - N 127 0 / 60 * 60 = 0 then gX8_brings N1 else N1) ∧ LX8_passesMinute_12f f N j = (if N 127 0 - N 127 0 / 60 * 60 = 0 then fX8_brings N1 else 0) := by
  intro f
  induction f with
  | zero => intro M N j h hj hf; have := h.2.1; omega
  | succ f ih =>
    intro M N j h hj hf
    have hc6 := h.2.1
    rw [LX4_pass_25g, LX8_passesMinute_12g, LX8_passesMinute_12f, h.many]
    by_cases hc : N 127 5 ≤ nI j
    · rw [if_pos hc, if_pos hc, if_pos hc]
      exact ⟨N, h, fun _ _ => rfl, fun _ _ => rfl, rfl, rfl⟩
    · have hj2 := h.lt (by omega) hc
      rw [if_neg hc, if_neg hc, if_neg hc]
      obtain ⟨N1, i1, i2, i3, i4, i5⟩ := ih _ (gAge N j) (j + 1) (ra_age h hj2) hj2 (by omega)
      refine ⟨N1, i1, fun i hi => (i2 i hi).trans (gAge_at (by omega) (by omega) (by omega)), fun p hp => (i3 p hp).trans (gAge_ne hp), ?_, ?_⟩
      · rw [gAge_at (by omega) (by omega) (by omega)] at i4
        rw [← i4]
        unfold gAge
        split <;> rfl
      · rw [gAge_at (by omega) (by omega) (by omega)] at i5
        rw [← i5]
        unfold gAge
        split <;> rfl
theorem bring_eq {s t : Int32} (hs : UB s 5) (ht : UB t 99) : xmin s (99 - t) = (if t + s ≤ 99 then s else 99 - t) ∧ UB (t + (if t + s ≤ 99 then s else 99 - t)) 99 := by
  obtain ⟨a, ha, rfl⟩ := hs
  obtain ⟨b, hb, rfl⟩ := ht
  have h1 : (99 : Int32) - nI b = nI (99 - b) := by rw [show (99 : Int32) = nI 99 from rfl, pk_sub hb]
  have h2 : nI b + nI a = nI (b + a) := nI_add _ _
  rw [h1, h2, nI_min (by omega) (by omega), show (99 : Int32) = nI 99 from rfl]
  by_cases h : b + a ≤ 99
  · rw [if_pos (by rw [nI_leI (by omega) (by omega)]; exact h), Nat.min_eq_left (by omega), h2]
    exact ⟨rfl, ⟨_, h, rfl⟩⟩
  · rw [if_neg (by rw [nI_leI (by omega) (by omega)]; exact h), Nat.min_eq_right (by omega), nI_add]
    exact ⟨rfl, ⟨_, by omega, rfl⟩⟩
