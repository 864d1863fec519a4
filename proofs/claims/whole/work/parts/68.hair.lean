theorem hh_rows {N : Mem} {c : Nat} (x : Int32) (h5 : N 127 5 = nI c) (hc : c < 6) : gX8_hangsHair N x 127 (8 * c + 8) = 1 ∧ gX8_hangsHair N x 127 (8 * c + 9) = x ∧ gX8_hangsHair N x 127 (8 * c + 10) = 0 ∧ gX8_hangsHair N x 127 (8 * c + 11) = N 127 1 ∧ gX8_hangsHair N x 127 (8 * c + 12) = 0 ∧ gX8_hangsHair N x 127 (8 * c + 13) = 0 ∧ gX8_hangsHair N x 127 (8 * c + 14) = 0 ∧ gX8_hangsHair N x 127 (8 * c + 15) = -1 ∧ gX8_hangsHair N x 127 5 = nI (c + 1) ∧ gX8_hangsHair N x 127 6 = N 127 6 + x ∧ ∀ t, t ≠ 5 → t ≠ 6 → (t < 8 * c + 8 ∨ 8 * c + 16 ≤ t) → gX8_hangsHair N x 127 t = N 127 t := by
  obtain ⟨a1, a2, a3, a4⟩ := hang_rows h5 hc
  have e : (N 127 5).toNatClampNeg = c := by rw [h5, nI_clamp (by omega)]
  unfold gX8_hangsHair
  rw [e]
  refine ⟨?_, ?_, ?_, ?_, ?_, ?_, ?_, ?_, ?_, ?_, fun t h1 h2 h3 => ?_⟩
  · rw [mU_row (by omega), mU_row (by omega), mU_row (by omega), mu_same]
  · rw [mU_row (by omega), mU_row (by omega), mu_same]
  · rw [mU_row (by omega), mU_row (by omega), mU_row (by omega), mU_row (by omega)]; exact a1 2 (by decide)
  · rw [mU_row (by omega), mu_same, mU_row (by omega), mU_row (by omega)]; exact a4 1 (by decide) (by omega)
  · rw [mU_row (by omega), mU_row (by omega), mU_row (by omega), mU_row (by omega)]; exact a1 4 (by decide)
  · rw [mU_row (by omega), mU_row (by omega), mU_row (by omega), mU_row (by omega)]; exact a1 5 (by decide)
  · rw [mU_row (by omega), mU_row (by omega), mU_row (by omega), mU_row (by omega)]; exact a1 6 (by decide)
  · rw [mU_row (by omega), mU_row (by omega), mU_row (by omega), mU_row (by omega)]; exact a2
  · rw [mU_row (by omega), mU_row (by omega), mU_row (by omega), mU_row (by omega)]; exact a3
  · rw [mu_same, mU_row (by omega), mU_row (by omega), mU_row (by omega), a4 6 (by decide) (by omega)]
  · rw [mU_row (by omega), mU_row (by omega), mU_row (by omega), mU_row (by omega)]; exact a4 t h1 h3
theorem hair_rel {M N : Mem} {r c : Nat} {x : Int32} (h : RA M N r c) (ha : AF M N r c) (hc : c < 6) (hx : UB x 20) : RA (gX4_newHair M r x) (gX8_hangsHair N x) r (c + 1) ∧ AF (gX4_newHair M r x) (gX8_hangsHair N x) r (c + 1) := by
  obtain ⟨hp, hc6, h5, hh, hg, hk⟩ := h
  obtain ⟨n0, n1, n2, n3, n4, n5, n6, n7, n8, n9, n10⟩ := hh_rows (N := N) x h5 hc
  have hr1 : M r 1 = nI c := hh.1.trans h5
  have e : (M r 1).toNatClampNeg = c := by rw [hr1, nI_clamp (by omega)]
  obtain ⟨b0, b1, b2, b3, b4, b5, b6, b7, b8⟩ := hair_rows (M := M) (o := r + 1 + 1 + c) x (M r 3)
  have hm : gX4_newHair M r x = mU (gX1_becomeHair M (r + 1 + 1 + c) x (M r 3)) r 1 (nI (c + 1)) := by
    unfold gX4_newHair
    rw [if_neg (by rw [hr1, show (6 : Int32) = nI 6 from rfl, nI_leI (by omega) (by omega)]; omega), e, gX1_becomeHair_ne (by omega), hr1, nI_1]
  have mo : gX4_newHair M r x (r + 1 + 1 + c) = gX1_becomeHair M (r + 1 + 1 + c) x (M r 3) (r + 1 + 1 + c) := by rw [hm]; exact mU_ne _ _ _ (by omega)
  have mr : ∀ j, j ≠ 1 → gX4_newHair M r x r j = M r j := fun j hj => by rw [hm, mU_row hj, gX1_becomeHair_ne (by omega)]
  have mk : ∀ k, k < c → gX4_newHair M r x (r + 1 + 1 + k) = M (r + 1 + 1 + k) := fun k hk => by rw [hm, mU_ne _ _ _ (by omega), gX1_becomeHair_ne (by omega)]
  refine ⟨⟨pts_row (hh_ne (by decide)) hp, by omega, n8, ?_, ?_, fun k hk2 => ?_⟩, ?_⟩
  · obtain ⟨a1, a2, a3, a4, a5, a6, a7⟩ := hh
    refine ⟨by rw [n8, hm, mu_same], ?_, ?_, ?_, ?_, ?_, ?_⟩ <;> rw [mr _ (by decide), n10 _ (by decide) (by decide) (by omega)] <;> assumption
  · obtain ⟨-, g1, g2, g3, g4⟩ := hg
    refine ⟨trivial, ?_, ?_, ?_, ?_⟩ <;> rw [n10 _ (by decide) (by decide) (by omega)] <;> assumption
  · by_cases ek : k = c
    · subst ek
      unfold RI GI
      rw [mo, n0, n1, n2, n3, n4, n5, n6, n7, b0, b1, b3, b4, b5, b6, b7, b8]
      exact ⟨⟨rfl, rfl, rfl, hh.2.2.1, rfl, rfl, rfl, rfl⟩, Or.inr rfl, hx, hg.2.1, ⟨0, by decide, rfl⟩, ⟨0, by decide, rfl⟩, Or.inl rfl, fun h => absurd h (by decide)⟩
    · obtain ⟨a, b⟩ := hk k (by omega)
      rw [mk k (by omega)]
      exact ⟨ri_out (fun j h1 h2 => n10 j (by omega) (by omega) (by omega)) a, gi_out (fun j h1 h2 => n10 j (by omega) (by omega) (by omega)) b⟩
  · show gX8_hangsHair N x 127 6 = sumH (gX4_newHair M r x) r c + gX4_newHair M r x (r + 1 + 1 + c) 2
    rw [n9, ha, mo, b2, sumH_row (M := M) (M' := gX4_newHair M r x) c (fun i hi => by rw [mk i hi])]
