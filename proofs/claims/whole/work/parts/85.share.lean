/-! the mean and the share -/
theorem mean_g {N : Mem} {c : Nat} (h5 : N 127 5 = nI c) (hc6 : c ≤ 6) : ∀ (f : Nat) (v : Int32) (j : Nat), LX8_meanReading_20g f N v j = N := by
  intro f
  induction f with
  | zero => intro v j; rfl
  | succ f ih =>
    intro v j
    rw [LX8_meanReading_20g]
    split
    · rfl
    · exact ih _ _
theorem ra_told {M N : Mem} {r c : Nat} (h : RA M N r c) (v : Int32) : RA M (mU N 124 2 v) r c := ⟨pts_row (mU_ne _ _ _ (by decide)) h.1, rr_ext (fun _ _ _ => rfl) (fun t _ => by rw [mU_ne _ _ _ (by decide)]) h.2⟩
theorem g_mean {M N : Mem} (h : G M N) : ¬ M 1 1 = 0 → vf_n64 (FP.ddiv (FP.i2d (fX4_sumOfReadings M 1)) (FP.i2d (M 1 1))) := by
  obtain ⟨c, K, p, hg⟩ := id h
  intro h0
  have hc6 := hg.1.2.1.1
  have e1 : M 1 1 = nI c := hg.1.ra.many.trans hg.1.2.1.2.1
  have hc0 : 0 < c := by
    rcases Nat.eq_zero_or_pos c with e | e
    · exact absurd (by rw [e1, e]; rfl) h0
    · exact e
  obtain ⟨s, hs, es⟩ := (sum_ub hg.1.ra 7 0 0 (by decide) (by decide) ⟨0, by decide, rfl⟩).1
  have e2 : fX4_sumOfReadings M 1 = nI s := es
  rw [e1, e2]
  exact fn64 s c hs hc0 hc6
theorem us_rng {M N : Mem} (h : G M N) : ∃ u, u ≤ 6 ∧ fX4_countUsable M 1 = nI u := by
  obtain ⟨c, K, p, hg⟩ := id h
  rw [usable_eq hg.1.ra]
  obtain ⟨u, hu, eu⟩ := us_ub 7 N 0 0 hg.1.ra.mny ⟨0, by decide, rfl⟩ (by decide)
  exact ⟨u, hu, eu⟩
theorem g_share {M N : Mem} (h : G M N) : ¬ M 1 1 = 0 → vf_n32 (FP.fdiv (FP.i2f (fX4_countUsable M 1)) (FP.i2f (M 1 1))) := by
  obtain ⟨c, K, p, hg⟩ := id h
  intro h0
  have hc6 := hg.1.2.1.1
  have e1 : M 1 1 = nI c := hg.1.ra.many.trans hg.1.2.1.2.1
  have hc0 : 0 < c := by
    rcases Nat.eq_zero_or_pos c with e | e
    · exact absurd (by rw [e1, e]; rfl) h0
    · exact e
  obtain ⟨u, hu, eu⟩ := us_rng h
  rw [e1, eu]
  exact fn32 u c hu hc0 hc6
theorem rel_meanReading {M N : Mem} (h : G M N) : G M (gX8_meanReading N) ∧ fX7_meanReading M = fX8_meanReading N ∧ ∀ o, o < 124 → gX8_meanReading N o = N o := by
  obtain ⟨c, K, p, hg⟩ := id h
  have hr := ra_told hg.1.ra 0
  have e5 : mU N 124 2 0 127 5 = M 1 1 := hr.many.symm
  have e : gX8_meanReading N = mU N 124 2 0 := by
    unfold gX8_meanReading
    rw [mean_g hr.2.2.1 hr.2.1, ite_self]
  rw [e]
  refine ⟨g_told h 0, ?_, fun o ho => mU_ne _ _ _ (by omega)⟩
  unfold fX7_meanReading fX8_meanReading
  rw [e5]
  by_cases h0 : M 1 1 = 0
  · rw [if_pos h0, if_pos h0]
  · rw [if_neg h0, if_neg h0]
    exact (sum_ub hr 7 0 0 (by decide) (by decide) ⟨0, by decide, rfl⟩).2.symm
theorem rel_usableShare {M N : Mem} (h : G M N) : G M (gX8_usableShare N) ∧ fX7_usableShare M = fX8_usableShare N ∧ ∀ o, o < 124 → gX8_usableShare N o = N o := by
  obtain ⟨c, K, p, hg⟩ := id h
  have hr := ra_told hg.1.ra 0
  have e5 : mU N 124 2 0 127 5 = M 1 1 := hr.many.symm
  have e : gX8_usableShare N = mU N 124 2 0 := by
    unfold gX8_usableShare
    rw [ite_self]
  rw [e]
  refine ⟨g_told h 0, ?_, fun o ho => mU_ne _ _ _ (by omega)⟩
  unfold fX7_usableShare fX8_usableShare
  rw [e5, usable_eq hr]
