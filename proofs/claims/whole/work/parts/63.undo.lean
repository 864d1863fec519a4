theorem tb_rows {M : Mem} {p K : Nat} (hp : p < 10) (hK0 : 0 < K) (hK : K ≤ 10) (h1 : M 20 1 = nI p) (h2 : M 20 2 = nI K) :
    ∃ M2, gX0_takeBack M 1 = gX4_copyFrom M2 1 (22 + 8 * ((p + 9) % 10)) ∧ (∀ o, o ≠ 20 → M2 o = M o) ∧ M2 20 1 = nI ((p + 9) % 10) ∧ M2 20 2 = nI (K - 1) := by
  unfold gX0_takeBack
  have hk1 : nI K - 1 = nI (K - 1) := by rw [show (1 : Int32) = nI 1 from rfl, pk_sub (by omega)]
  by_cases h0 : M 20 1 ≤ 0
  · have hp0 : p = 0 := by rw [h1, show (0 : Int32) = nI 0 from rfl, nI_leI (by omega) (by omega)] at h0; omega
    rw [if_pos h0]
    have e1 : mU (mU M 20 1 (10 - 1)) 20 2 (mU M 20 1 (10 - 1) 20 2 - 1) 20 1 = nI 9 := by rw [mU_row (by decide), mu_same]; rfl
    refine ⟨mU (mU M 20 1 (10 - 1)) 20 2 (mU M 20 1 (10 - 1) 20 2 - 1), ?_, fun o ho => by rw [mU_ne _ _ _ ho, mU_ne _ _ _ ho], ?_, ?_⟩
    · rw [e1, hp0]; rfl
    · rw [e1, hp0]
    · rw [mu_same, mU_row (by decide), h2, hk1]
  · have hp1 : 0 < p := by rw [h1, show (0 : Int32) = nI 0 from rfl, nI_leI (by omega) (by omega)] at h0; omega
    rw [if_neg h0]
    have e0 : M 20 1 - 1 = nI ((p + 9) % 10) := by
      rw [h1, show (1 : Int32) = nI 1 from rfl, pk_sub (by omega), show (p + 9) % 10 = p - 1 by omega]
    have e1 : mU (mU M 20 1 (M 20 1 - 1)) 20 2 (mU M 20 1 (M 20 1 - 1) 20 2 - 1) 20 1 = nI ((p + 9) % 10) := by rw [mU_row (by decide), mu_same, e0]
    refine ⟨mU (mU M 20 1 (M 20 1 - 1)) 20 2 (mU M 20 1 (M 20 1 - 1) 20 2 - 1), ?_, fun o ho => by rw [mU_ne _ _ _ ho, mU_ne _ _ _ ho], e1, ?_⟩
    · rw [e1, nI_clamp (by omega)]
    · rw [mu_same, mU_row (by decide), h2, hk1]
theorem undo_rel {M N : Mem} {K p : Nat} (h : HR M N K p) (hp : PTS N) (hK0 : 0 < K) :
    HR (gX0_takeBack M 1) (gX8_undo N) (K - 1) ((p + 9) % 10) ∧ (∃ c, RB (gX0_takeBack M 1) (gX8_undo N) 1 c) ∧ gX0_takeBack M 1 20 2 = nI (K - 1) ∧ fX8_undo N = nI (K - 1) ∧ gX8_undo N 124 2 = 0 := by
  obtain ⟨hK, hp10, h1, h2, h6, hs⟩ := h
  obtain ⟨M2, m1, m2, m3, m4⟩ := tb_rows hp10 hK0 hK h1 h2
  have hne : ¬ N 124 6 = 0 := by
    intro e
    rw [h6] at e
    have := sm_nI (k := K) (by omega)
    rw [e, show (0 : Int32).toInt = 0 from rfl] at this
    omega
  have h6b : mU N 124 6 (N 124 6 - 1) 124 6 = nI (K - 1) := by
    rw [mu_same, h6, show (1 : Int32) = nI 1 from rfl, pk_sub (by omega)]
  obtain ⟨u1, u2, u3, u4, u5, u6⟩ := ud_loop (n := K - 1) (by omega) 57 (mU N 124 6 (N 124 6 - 1)) 0 (by omega) (by omega) h6b
  have hu : gX8_undo N = LX8_undo_25g 57 (mU N 124 6 (N 124 6 - 1)) 0 := by unfold gX8_undo; rw [if_neg hne]
  have hf : fX8_undo N = nI (K - 1) := by unfold fX8_undo; rw [if_neg hne]; exact u6
  obtain ⟨c, hc⟩ := hs (K - 1) (by omega)
  rw [show (p + 10 - K + (K - 1)) % 10 = (p + 9) % 10 by omega] at hc
  have hcM2 : RQ M2 (22 + 8 * ((p + 9) % 10)) (fun t => N 129 (56 * (K - 1) + t)) c := rq_ext (fun o h1 h2 => m2 o (by omega)) (fun _ _ => rfl) hc
  have hcp := rq_copy (r := 1) (Or.inr (by omega)) hcM2
  have hcnt := hcM2.cnt
  have hro : ∀ o, 9 ≤ o → o ≠ 20 → gX0_takeBack M 1 o = M o := fun o h1 h2 => by rw [m1]; exact (copy_rf hcnt o (by omega)).trans (m2 o h2)
  have h20 : gX0_takeBack M 1 20 = M2 20 := by rw [m1]; exact copy_rf hcnt 20 (by omega)
  have h129 : ∀ i, gX8_undo N 129 i = N 129 i := fun i => by rw [hu, u3 129 (by decide) (by decide), mU_ne _ _ _ (by decide)]
  refine ⟨⟨by omega, Nat.mod_lt _ (by decide), by rw [h20]; exact m3, by rw [h20]; exact m4, by rw [hu, u4 6 (by decide)]; exact h6b, fun i hi => ?_⟩, ⟨c, pts_row (by rw [hu, u3 125 (by decide) (by decide), mU_ne _ _ _ (by decide)]) hp, ?_⟩, by rw [h20]; exact m4, hf, by rw [hu]; exact u5⟩
  · obtain ⟨c2, hc2⟩ := hs i (by omega)
    refine ⟨c2, ?_⟩
    rw [show ((p + 9) % 10 + 10 - (K - 1) + i) % 10 = (p + 10 - K + i) % 10 by omega]
    exact rq_ext (fun o h1 h2 => hro o (by omega) (by omega)) (fun t ht => h129 _) hc2
  · rw [m1]
    refine rq_ext (fun _ _ _ => rfl) (fun t ht => ?_) hcp
    rw [hu, u1 t (Nat.zero_le _) ht, mU_ne _ _ _ (by decide)]
