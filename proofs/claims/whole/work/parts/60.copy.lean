/-! a room copied -/
theorem bv_bv2 (x : Int32) : bv (bv x) = bv x := by rcases bv01 x with h | h <;> rw [h] <;> decide
theorem cp_row {M : Mem} {o q : Nat} (hne : q ≠ o) : gX1_copyFrom M o q o 0 = bv (M q 0) ∧ ∀ i, 1 ≤ i → i ≤ 8 → gX1_copyFrom M o q o i = M q i := by
  have hq : ∀ (M : Mem) (k : Nat) (v : Int32), mU M o k v q = M q := fun M k v => mU_ne M k v hne
  unfold gX1_copyFrom
  simp only [hq]
  refine ⟨?_, fun i h1 h2 => ?_⟩
  · repeat rw [mU_row (by decide)]
    rw [mu_same]
  · rcases (by omega : i = 1 ∨ i = 2 ∨ i = 3 ∨ i = 4 ∨ i = 5 ∨ i = 6 ∨ i = 7 ∨ i = 8) with rfl | rfl | rfl | rfl | rfl | rfl | rfl | rfl <;>
      (repeat rw [mU_row (by decide)]) <;> rw [mu_same]
theorem ri_copy {M : Mem} {o q k : Nat} {B : Nat → Int32} (hne : q ≠ o) (h : RI (M q) B k) : RI (gX1_copyFrom M o q o) B k := by
  obtain ⟨e0, ei⟩ := cp_row (M := M) hne
  obtain ⟨h0, h1, h2, h3, h4, h5, h6, h7⟩ := h
  refine ⟨?_, ?_, ?_, ?_, ?_, ?_, ?_, ?_⟩
  · rw [e0, bv_bv2]; exact h0
  all_goals (rw [ei _ (by decide) (by decide)]; assumption)
theorem cp58 {B : Nat → Int32} {r q c : Nat} (hd : q + 8 ≤ r ∨ r + 8 ≤ q) (hc : c ≤ 6) : ∀ (f : Nat) (M : Mem) (j : Nat), M r 1 = nI c → j ≤ c → 7 ≤ j + f → (∀ k, k < c → RI (M (q + 1 + 1 + k)) B k) →
    (∀ k, j ≤ k → k < c → RI (LX4_copyFrom_58g r q f M j (r + 1 + 1 + k)) B k) ∧ (∀ k, k < j → LX4_copyFrom_58g r q f M j (r + 1 + 1 + k) = M (r + 1 + 1 + k)) ∧ LX4_copyFrom_58g r q f M j r = M r := by
  intro f
  induction f with
  | zero => intro M j _ hj hf; omega
  | succ f ih =>
    intro M j h1 hj hf hq
    rw [LX4_copyFrom_58g, h1]
    by_cases hcj : nI c ≤ nI j
    · have : c ≤ j := by rw [nI_leI (by omega) (by omega)] at hcj; exact hcj
      rw [if_pos hcj]
      exact ⟨fun k h2 h3 => by omega, fun _ _ => rfl, rfl⟩
    · have hj2 : j < c := by rw [nI_leI (by omega) (by omega)] at hcj; omega
      rw [if_neg hcj]
      have hr : gX1_copyFrom M (r + 1 + 1 + j) (q + 1 + 1 + j) r = M r := gX1_copyFrom_ne (by omega)
      obtain ⟨i1, i2, i3⟩ := ih (gX1_copyFrom M (r + 1 + 1 + j) (q + 1 + 1 + j)) (j + 1) (by rw [hr]; exact h1) hj2 (by omega) (fun k hk => by rw [gX1_copyFrom_ne (by omega)]; exact hq k hk)
      refine ⟨fun k h2 h3 => ?_, fun k hk => (i2 k (by omega)).trans (gX1_copyFrom_ne (by omega)), i3.trans hr⟩
      by_cases e : k = j
      · subst e
        rw [i2 k (by omega)]
        exact ri_copy (by omega) (hq k h3)
      · exact i1 k (by omega) h3
theorem rr_copy {M : Mem} {B : Nat → Int32} {r q c : Nat} (hd : q + 8 ≤ r ∨ r + 8 ≤ q) (h : RR M q B c) : RR (gX4_copyFrom M r q) r B c := by
  obtain ⟨hc, h5, hh, hg, hk⟩ := h
  have hq : ∀ (M : Mem) (k : Nat) (v : Int32), mU M r k v q = M q := fun M k v => mU_ne M k v (by omega)
  have hqk : ∀ (M : Mem) (k j : Nat) (v : Int32), k < 6 → mU M r j v (q + 1 + 1 + k) = M (q + 1 + 1 + k) := fun M k j v hk => mU_ne M j v (by omega)
  unfold gX4_copyFrom
  simp only [hq]
  generalize hM : mU (mU (mU (mU (mU (mU (mU M r 1 (M q 1)) r 2 (M q 2)) r 3 (M q 3)) r 4 (M q 4)) r 5 (M q 5)) r 6 (M q 6)) r 7 (M q 7) = M1
  have m : ∀ i, 1 ≤ i → i ≤ 7 → M1 r i = M q i := by
    intro i h1 h2
    rw [← hM]
    rcases (by omega : i = 1 ∨ i = 2 ∨ i = 3 ∨ i = 4 ∨ i = 5 ∨ i = 6 ∨ i = 7) with rfl | rfl | rfl | rfl | rfl | rfl | rfl <;>
      (repeat rw [mU_row (by decide)]) <;> rw [mu_same]
  have mq : ∀ k, k < 6 → M1 (q + 1 + 1 + k) = M (q + 1 + 1 + k) := by
    intro k hk6
    rw [← hM]
    repeat rw [hqk _ _ _ _ hk6]
  obtain ⟨i1, i2, i3⟩ := cp58 (B := B) hd hc 7 M1 0 (by rw [m 1 (by decide) (by decide), hh.1, h5]) (Nat.zero_le _) (by decide) (fun k hk2 => by rw [mq k (by omega)]; exact (hk k hk2).1)
  refine ⟨hc, h5, ?_, hg, fun k hk2 => ⟨i1 k (Nat.zero_le _) hk2, (hk k hk2).2⟩⟩
  rw [i3]
  unfold RH
  rw [m 1 (by decide) (by decide), m 2 (by decide) (by decide), m 3 (by decide) (by decide), m 4 (by decide) (by decide), m 5 (by decide) (by decide), m 6 (by decide) (by decide), m 7 (by decide) (by decide)]
  exact hh
