/-! single changes -/
theorem mu_same (M : Mem) (v : Int32) (o k : Nat) : mU M o k v o k = v := by rw [mU_at]; exact if_pos rfl
theorem ra_inst {M N : Mem} {r c j i d : Nat} {v : Int32} (h : RA M N r c) (hj : j < c) (hd : (i = 1 ∧ d = 9) ∨ (i = 3 ∧ d = 10) ∨ (i = 4 ∧ d = 11) ∨ (i = 5 ∧ d = 12) ∨ (i = 6 ∧ d = 13) ∨ (i = 7 ∧ d = 14) ∨ (i = 8 ∧ d = 15)) (hg : GI (upd (N 127) (8 * j + d) v) j) : RA (mU M (r + 1 + 1 + j) i v) (mU N 127 (8 * j + d) v) r c := by
  have hd8 : 8 ≤ d ∧ d ≤ 15 := by omega
  obtain ⟨hp, hc, h5, hh, hgh, hk⟩ := h
  have hb : ∀ q, q ≠ 8 * j + d → mU N 127 (8 * j + d) v 127 q = N 127 q := fun q hq => mU_row hq
  refine ⟨pts_row (mU_ne _ _ _ (by decide)) hp, hc, ?_, ?_, ?_, fun k hk2 => ?_⟩
  · rw [hb _ (by omega)]; exact h5
  · exact rh_row (mU_ne _ _ _ (by omega)) (fun q hq => hb _ (by omega)) hh
  · exact gh_row (fun q hq => hb _ (by omega)) hgh
  · by_cases e : k = j
    · subst e
      rw [mU_at, mU_at]
      exact ⟨ri_put hd (hk k hk2).1, hg⟩
    · obtain ⟨a, b⟩ := hk k hk2
      refine ⟨?_, gi_out (fun q h1 h2 => hb _ (by omega)) b⟩
      rw [mU_ne _ _ _ (by omega)]
      exact ri_out (fun q h1 h2 => hb _ (by omega)) a
theorem ra_head {M N : Mem} {r c i d : Nat} {v : Int32} (h : RA M N r c) (hd : (i = 3 ∧ d = 1 ∧ UB v 100) ∨ (i = 4 ∧ d = 2 ∧ UB v 40) ∨ (i = 5 ∧ d = 3 ∧ UB v 5) ∨ (i = 6 ∧ d = 4 ∧ UB v 99)) : RA (mU M r i v) (mU N 127 d v) r c := by
  have hd8 : 1 ≤ d ∧ d ≤ 4 := by omega
  obtain ⟨hp, hc, h5, ⟨a1, a2, a3, a4, a5, a6, a7⟩, ⟨-, g1, g2, g3, g4⟩, hk⟩ := h
  have hb : ∀ q, q ≠ d → mU N 127 d v 127 q = N 127 q := fun q hq => mU_row hq
  refine ⟨pts_row (mU_ne _ _ _ (by decide)) hp, hc, ?_, ?_, ?_, fun k hk2 => ?_⟩
  · rw [hb _ (by omega)]; exact h5
  · rcases hd with ⟨rfl, rfl, -⟩ | ⟨rfl, rfl, -⟩ | ⟨rfl, rfl, -⟩ | ⟨rfl, rfl, -⟩ <;>
      refine ⟨?_, ?_, ?_, ?_, ?_, ?_, ?_⟩ <;> first
        | (rw [mu_same, mu_same])
        | (rw [mU_row (by decide), mU_row (by decide)]; assumption)
  · rcases hd with ⟨rfl, rfl, hv⟩ | ⟨rfl, rfl, hv⟩ | ⟨rfl, rfl, hv⟩ | ⟨rfl, rfl, hv⟩ <;>
      refine ⟨trivial, ?_, ?_, ?_, ?_⟩ <;> first
        | (rw [mu_same]; exact hv)
        | (rw [mU_row (by decide)]; assumption)
  · obtain ⟨a, b⟩ := hk k hk2
    refine ⟨?_, gi_out (fun q h1 h2 => hb _ (by omega)) b⟩
    rw [mU_ne _ _ _ (by omega)]
    exact ri_out (fun q h1 h2 => hb _ (by omega)) a
theorem gi_hairs {B : Nat → Int32} {k : Nat} {v : Int32} (hv : UB v 20) (h : GI B k) : GI (upd B (8 * k + 9) v) k := by
  obtain ⟨h0, h2, h3, h4, h5, h6, h7⟩ := h
  unfold GI upd
  rw [if_neg (show ¬ 8 * k + 8 = 8 * k + 9 by omega), if_pos rfl, if_neg (show ¬ 8 * k + 11 = 8 * k + 9 by omega), if_neg (show ¬ 8 * k + 12 = 8 * k + 9 by omega), if_neg (show ¬ 8 * k + 13 = 8 * k + 9 by omega), if_neg (show ¬ 8 * k + 15 = 8 * k + 9 by omega)]
  exact ⟨h0, hv, h3, h4, h5, h6, h7⟩
theorem gi_box {B : Nat → Int32} {k : Nat} {v : Int32} (hv : BX v) (h : GI B k) : GI (upd B (8 * k + 15) v) k := by
  obtain ⟨h0, h2, h3, h4, h5, h6, h7⟩ := h
  unfold GI upd
  rw [if_neg (show ¬ 8 * k + 8 = 8 * k + 15 by omega), if_neg (show ¬ 8 * k + 9 = 8 * k + 15 by omega), if_neg (show ¬ 8 * k + 11 = 8 * k + 15 by omega), if_neg (show ¬ 8 * k + 12 = 8 * k + 15 by omega), if_neg (show ¬ 8 * k + 13 = 8 * k + 15 by omega), if_pos rfl]
  exact ⟨h0, h2, h3, h4, h5, hv, h7⟩
theorem gi_free {B : Nat → Int32} {k d : Nat} {v : Int32} (hd : d = 10 ∨ d = 14) (h : GI B k) : GI (upd B (8 * k + d) v) k := by
  obtain ⟨h0, h2, h3, h4, h5, h6, h7⟩ := h
  unfold GI upd
  rw [if_neg (show ¬ 8 * k + 8 = 8 * k + d by omega), if_neg (show ¬ 8 * k + 9 = 8 * k + d by omega), if_neg (show ¬ 8 * k + 11 = 8 * k + d by omega), if_neg (show ¬ 8 * k + 12 = 8 * k + d by omega), if_neg (show ¬ 8 * k + 13 = 8 * k + d by omega), if_neg (show ¬ 8 * k + 15 = 8 * k + d by omega)]
  exact ⟨h0, h2, h3, h4, h5, h6, h7⟩
theorem gi_slack0 {B : Nat → Int32} {k : Nat} (h : GI B k) : GI (upd B (8 * k + 12) 0) k := by
  obtain ⟨h0, h2, h3, h4, h5, h6, h7⟩ := h
  unfold GI upd
  rw [if_neg (show ¬ 8 * k + 8 = 8 * k + 12 by omega), if_neg (show ¬ 8 * k + 9 = 8 * k + 12 by omega), if_neg (show ¬ 8 * k + 11 = 8 * k + 12 by omega), if_pos rfl, if_neg (show ¬ 8 * k + 13 = 8 * k + 12 by omega), if_neg (show ¬ 8 * k + 15 = 8 * k + 12 by omega)]
  exact ⟨h0, h2, h3, ⟨0, by decide, rfl⟩, h5, h6, fun _ => rfl⟩
theorem ub_dec {x : Int32} {N : Nat} (h : UB x N) (h0 : ¬ x = 0) : UB (x - 1) N := by
  obtain ⟨k, hk, rfl⟩ := h
  have hk0 : k ≠ 0 := fun e => h0 (by rw [e]; rfl)
  refine ⟨k - 1, by omega, ?_⟩
  rw [show (1 : Int32) = nI 1 from rfl, pk_sub (by omega)]
theorem ra_tighten {M N : Mem} {r c j : Nat} (h : RA M N r c) (hj : j < c) (h0 : ¬ N 127 (8 * j + 9) = 0) : RA (gX1_tightenSpring M (r + 1 + 1 + j)) (gX8_tightens N j) r c := by
  obtain ⟨a, g⟩ := h.2.2.2.2.2 j hj
  have s1 := ra_inst (i := 5) (d := 12) (v := 0) h hj (by decide) (gi_slack0 g)
  obtain ⟨a1, g1⟩ := s1.2.2.2.2.2 j hj
  unfold gX1_tightenSpring gX8_tightens
  rw [a1.2.2.2.1]
  by_cases hw : 20 ≤ mU N 127 (8 * j + 12) 0 127 (8 * j + 11)
  · rw [if_pos hw, if_pos hw]
    exact s1
  · rw [if_neg hw, if_neg hw, a1.2.1]
    have s2 := ra_inst (i := 1) (d := 9) (v := mU N 127 (8 * j + 12) 0 127 (8 * j + 9) - 1) s1 hj (by decide) (gi_hairs (ub_dec g1.2.1 (by rw [mU_row (by omega)]; exact h0)) g1)
    obtain ⟨a2, g2⟩ := s2.2.2.2.2.2 j hj
    rw [a2.2.2.1]
    exact ra_inst (i := 3) (d := 10) s2 hj (by decide) (gi_free (Or.inl rfl) g2)
theorem ra_moisten {M N : Mem} {r c j : Nat} (h : RA M N r c) (hj : j < c) : RA (mU M (r + 1 + 1 + j) 6 60) (gX8_moistens N j) r c := by
  obtain ⟨a, g⟩ := h.2.2.2.2.2 j hj
  exact ra_inst (i := 6) (d := 13) h hj (by decide) (gi_water ⟨60, by decide, rfl⟩ g)
