/-! an instrument more -/
theorem hang_loop {a : Nat} (ha : 8 ≤ a) : ∀ (f : Nat) (N : Mem) (j : Nat), 9 ≤ j + f → j ≤ 8 → (∀ i, j ≤ i → i < 7 → LX8_hangs_12g f N a j 127 (a + i) = 0) ∧ LX8_hangs_12g f N a j 127 (a + 7) = -1 ∧ (∀ t, t ≠ 5 → t ≠ a + 7 → (t < a + j ∨ a + 8 ≤ t) → LX8_hangs_12g f N a j 127 t = N 127 t) := by
  intro f
  induction f with
  | zero => intro N j hf hj; omega
  | succ f ih =>
    intro N j hf hj
    rw [LX8_hangs_12g]
    by_cases hc : (8 : Int32) ≤ nI j
    · have h8 := lit_ge (N := 8) hc rfl (by omega)
      rw [if_pos hc]
      exact ⟨fun i h1 h2 => by omega, by rw [mU_row (by omega), mu_same], fun t h1 h2 h3 => by rw [mU_row h1, mU_row h2]⟩
    · have hj8 := lit_lt (N := 8) hc rfl hj
      rw [if_neg hc]
      obtain ⟨i1, i2, i3⟩ := ih (mU N 127 (a + j) 0) (j + 1) (by omega) (by omega)
      refine ⟨fun i h1 h2 => ?_, i2, fun t h1 h2 h3 => ?_⟩
      · by_cases e : i = j
        · rw [i3 _ (by omega) (by omega) (by omega), e, mu_same]
        · exact i1 i (by omega) h2
      · rw [i3 t h1 h2 (by omega), mU_row (by omega)]
theorem hang_rows {N : Mem} {c : Nat} (h5 : N 127 5 = nI c) (hc : c < 6) : (∀ i, i < 7 → gX8_hangs N 127 (8 * c + 8 + i) = 0) ∧ gX8_hangs N 127 (8 * c + 15) = -1 ∧ gX8_hangs N 127 5 = nI (c + 1) ∧ ∀ t, t ≠ 5 → (t < 8 * c + 8 ∨ 8 * c + 16 ≤ t) → gX8_hangs N 127 t = N 127 t := by
  have e : (N 127 5).toNatClampNeg = c := by rw [h5, nI_clamp (by omega)]
  have hm := hangs_many N
  rw [h5, nI_1] at hm
  refine ⟨?_, ?_, hm, ?_⟩ <;> unfold gX8_hangs <;> rw [e] <;> obtain ⟨i1, i2, i3⟩ := hang_loop (a := 8 * c + 8) (by omega) 9 N 0 (by omega) (by omega)
  · exact fun i hi => i1 i (Nat.zero_le _) hi
  · exact i2
  · exact fun t h1 h2 => i3 t h1 (by omega) (by omega)
theorem hair_rows {M : Mem} {o : Nat} (x y : Int32) : gX1_becomeHair M o x y o 0 = 1 ∧ gX1_becomeHair M o x y o 1 = x ∧ gX1_becomeHair M o x y o 2 = x ∧ gX1_becomeHair M o x y o 3 = 0 ∧ gX1_becomeHair M o x y o 4 = y ∧ gX1_becomeHair M o x y o 5 = 0 ∧ gX1_becomeHair M o x y o 6 = 0 ∧ gX1_becomeHair M o x y o 7 = 0 ∧ gX1_becomeHair M o x y o 8 = -1 := by
  unfold gX1_becomeHair gX1_clear
  refine ⟨?_, ?_, ?_, ?_, ?_, ?_, ?_, ?_, ?_⟩ <;> (repeat rw [mU_row (by decide)]) <;> rw [mu_same]
theorem bulb_rows {M : Mem} {o : Nat} (x : Int32) : gX1_becomeBulb M o x o 0 = 0 ∧ gX1_becomeBulb M o x o 1 = 0 ∧ gX1_becomeBulb M o x o 2 = 0 ∧ gX1_becomeBulb M o x o 3 = 0 ∧ gX1_becomeBulb M o x o 4 = 0 ∧ gX1_becomeBulb M o x o 5 = 0 ∧ gX1_becomeBulb M o x o 6 = x ∧ gX1_becomeBulb M o x o 7 = 0 ∧ gX1_becomeBulb M o x o 8 = -1 := by
  unfold gX1_becomeBulb gX1_clear
  refine ⟨?_, ?_, ?_, ?_, ?_, ?_, ?_, ?_, ?_⟩ <;> (repeat rw [mU_row (by decide)]) <;> rw [mu_same]
