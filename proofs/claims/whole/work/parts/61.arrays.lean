/-! the reference's loops over its numbers -/
theorem lit_ge {N j : Nat} {x : Int32} (hc : x ≤ nI j) (hx : x = nI N) (hj : j < 2 ^ 31) (hN : N < 2 ^ 31 := by decide) : N ≤ j := by
  rw [hx, nI_leI hN hj] at hc
  exact hc
theorem upd_at (B : Nat → Int32) (i : Nat) (v : Int32) : upd B i v i = v := if_pos rfl
theorem upd_ne (B : Nat → Int32) {i j : Nat} (v : Int32) (h : j ≠ i) : upd B i v j = B j := if_neg h
theorem rm_loop {n : Nat} (hn : n ≤ 9) : ∀ (f : Nat) (N : Mem) (j : Nat), 57 ≤ j + f → j ≤ 56 → N 124 6 = nI n → LX8_remembers_15g f N j 124 6 = nI (n + 1) ∧ (∀ i, 56 * n + j ≤ i → i < 56 * n + 56 → LX8_remembers_15g f N j 129 i = N 127 (i - 56 * n)) ∧ (∀ i, (i < 56 * n + j ∨ 56 * n + 56 ≤ i) → LX8_remembers_15g f N j 129 i = N 129 i) := by
  intro f
  induction f with
  | zero => intro N j hf hj; omega
  | succ f ih =>
    intro N j hf hj h6
    rw [LX8_remembers_15g]
    by_cases hc : (56 : Int32) ≤ nI j
    · have h56 := lit_ge (N := 56) hc rfl (by omega)
      rw [if_pos hc]
      refine ⟨by rw [mu_same, h6, nI_1], fun i h1 h2 => by omega, fun i h1 => by rw [mU_ne _ _ _ (by decide)]⟩
    · have hj6 := lit_lt (N := 56) hc rfl hj
      rw [if_neg hc, h6, nI_clamp (by omega)]
      obtain ⟨i1, i2, i3⟩ := ih (mU N 129 (56 * n + j) (N 127 j)) (j + 1) (by omega) (by omega) (by rw [mU_ne _ _ _ (by decide)]; exact h6)
      refine ⟨i1, fun i h1 h2 => ?_, fun i h1 => ?_⟩
      · by_cases e : i = 56 * n + j
        · rw [i3 i (by omega), mU_at, e, upd_at, show 56 * n + j - 56 * n = j by omega]
        · rw [i2 i (by omega) h2, mU_ne _ _ _ (by decide)]
      · rw [i3 i (by omega), mU_at, upd_ne _ _ (by omega)]
theorem fo_loop : ∀ (f : Nat) (N : Mem) (j : Nat), 505 ≤ j + f → j ≤ 504 → (∀ i, j ≤ i → i < 504 → LX8_forgetsOldest_3g f N j 129 i = N 129 (i + 56)) ∧ (∀ i, (i < j ∨ 504 ≤ i) → LX8_forgetsOldest_3g f N j 129 i = N 129 i) := by
  intro f
  induction f with
  | zero => intro N j hf hj; omega
  | succ f ih =>
    intro N j hf hj
    rw [LX8_forgetsOldest_3g]
    by_cases hc : (560 : Int32) ≤ nI (j + 56)
    · have h56 := lit_ge (N := 560) hc rfl (by omega)
      rw [if_pos hc]
      exact ⟨fun i h1 h2 => by omega, fun i h1 => by rw [mU_ne _ _ _ (by decide)]⟩
    · have hj6 := lit_lt (N := 560) (j := j + 56) hc rfl (by omega)
      rw [if_neg hc]
      obtain ⟨i1, i2⟩ := ih (mU N 129 j (N 129 (j + 56))) (j + 1) (by omega) (by omega)
      refine ⟨fun i h1 h2 => ?_, fun i h1 => ?_⟩
      · by_cases e : i = j
        · rw [i2 i (by omega), mU_at, e, upd_at]
        · rw [i1 i (by omega) h2, mU_at, upd_ne _ _ (by omega)]
      · rw [i2 i (by omega), mU_at, upd_ne _ _ (by omega)]
theorem pa_loop : ∀ (f : Nat) (N : Mem) (j : Nat), 57 ≤ j + f → j ≤ 56 → (∀ i, j ≤ i → i < 56 → LX8_putsAside_2g f N j 128 i = N 127 i) ∧ (∀ i, i < j → LX8_putsAside_2g f N j 128 i = N 128 i) := by
  intro f
  induction f with
  | zero => intro N j hf hj; omega
  | succ f ih =>
    intro N j hf hj
    rw [LX8_putsAside_2g]
    by_cases hc : (56 : Int32) ≤ nI j
    · have h56 := lit_ge (N := 56) hc rfl (by omega)
      rw [if_pos hc]
      exact ⟨fun i h1 h2 => by omega, fun _ _ => rfl⟩
    · have hj6 := lit_lt (N := 56) hc rfl hj
      rw [if_neg hc]
      obtain ⟨i1, i2⟩ := ih (mU N 128 j (N 127 j)) (j + 1) (by omega) (by omega)
      refine ⟨fun i h1 h2 => ?_, fun i h1 => ?_⟩
      · by_cases e : i = j
        · rw [i2 i (by omega), mU_at, e, upd_at]
        · rw [i1 i (by omega) h2, mU_ne _ _ _ (by decide)]
      · rw [i2 i (by omega), mU_at, upd_ne _ _ (by omega)]
theorem pb_loop : ∀ (f : Nat) (N : Mem) (j : Nat), 57 ≤ j + f → j ≤ 56 → (∀ i, j ≤ i → i < 56 → LX8_putsBack_2g f N j 127 i = N 128 i) ∧ (∀ i, (i < j ∨ 56 ≤ i) → LX8_putsBack_2g f N j 127 i = N 127 i) ∧ ∀ p, p ≠ 127 → LX8_putsBack_2g f N j p = N p := by
  intro f
  induction f with
  | zero => intro N j hf hj; omega
  | succ f ih =>
    intro N j hf hj
    rw [LX8_putsBack_2g]
    by_cases hc : (56 : Int32) ≤ nI j
    · have h56 := lit_ge (N := 56) hc rfl (by omega)
      rw [if_pos hc]
      exact ⟨fun i h1 h2 => by omega, fun _ _ => rfl, fun _ _ => rfl⟩
    · have hj6 := lit_lt (N := 56) hc rfl hj
      rw [if_neg hc]
      obtain ⟨i1, i2, i3⟩ := ih (mU N 127 j (N 128 j)) (j + 1) (by omega) (by omega)
      refine ⟨fun i h1 h2 => ?_, fun i h1 => ?_, fun p hp => (i3 p hp).trans (mU_ne _ _ _ hp)⟩
      · by_cases e : i = j
        · rw [i2 i (by omega), mU_at, e, upd_at]
        · rw [i1 i (by omega) h2, mU_ne _ _ _ (by decide)]
      · rw [i2 i (by omega), mU_at, upd_ne _ _ (by omega)]
theorem ud_loop {n : Nat} (hn : n ≤ 9) : ∀ (f : Nat) (N : Mem) (j : Nat), 57 ≤ j + f → j ≤ 56 → N 124 6 = nI n → (∀ i, j ≤ i → i < 56 → LX8_undo_25g f N j 127 i = N 129 (56 * n + i)) ∧ (∀ i, i < j → LX8_undo_25g f N j 127 i = N 127 i) ∧ (∀ p, p ≠ 127 → p ≠ 124 → LX8_undo_25g f N j p = N p) ∧ (∀ i, i ≠ 2 → LX8_undo_25g f N j 124 i = N 124 i) ∧ LX8_undo_25g f N j 124 2 = 0 ∧ LX8_undo_25f f N j = nI n := by
  intro f
  induction f with
  | zero => intro N j hf hj; omega
  | succ f ih =>
    intro N j hf hj h6
    rw [LX8_undo_25g, LX8_undo_25f]
    by_cases hc : (56 : Int32) ≤ nI j
    · have h56 := lit_ge (N := 56) hc rfl (by omega)
      rw [if_pos hc, if_pos hc]
      unfold gX8_told fX8_told
      exact ⟨fun i h1 h2 => by omega, fun i _ => by rw [mU_ne _ _ _ (by decide)], fun p _ h2 => mU_ne _ _ _ h2, fun i hi => mU_row hi, mu_same _ _ _ _, h6⟩
    · have hj6 := lit_lt (N := 56) hc rfl hj
      rw [if_neg hc, if_neg hc, h6, nI_clamp (by omega)]
      obtain ⟨i1, i2, i3, i4, i5, i6⟩ := ih (mU N 127 j (N 129 (56 * n + j))) (j + 1) (by omega) (by omega) (by rw [mU_ne _ _ _ (by decide)]; exact h6)
      refine ⟨fun i h1 h2 => ?_, fun i h1 => ?_, fun p h1 h2 => (i3 p h1 h2).trans (mU_ne _ _ _ h1), fun i hi => (i4 i hi).trans (by rw [mU_ne _ _ _ (by decide)]), i5, i6⟩
      · by_cases e : i = j
        · rw [i2 i (by omega), mU_at, e, upd_at]
        · rw [i1 i (by omega) h2, mU_ne _ _ _ (by decide)]
      · rw [i2 i (by omega), mU_at, upd_ne _ _ (by omega)]
