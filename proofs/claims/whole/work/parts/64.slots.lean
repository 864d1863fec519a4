/-! the slots -/
theorem sv_loop {i0 : Nat} (hi0 : i0 < 2) : ∀ (f : Nat) (N : Mem) (j : Nat), 57 ≤ j + f → j ≤ 56 → (∀ t, j ≤ t → t < 56 → LX8_save_17g (nI i0) f N j 130 (t + 56 * i0) = N 127 t) ∧ (∀ t, (t < j + 56 * i0 ∨ 56 + 56 * i0 ≤ t) → LX8_save_17g (nI i0) f N j 130 t = N 130 t) ∧ (∀ p, p ≠ 130 → p ≠ 124 → LX8_save_17g (nI i0) f N j p = N p) ∧ (∀ t, t ≠ 2 → t ≠ 8 → LX8_save_17g (nI i0) f N j 124 t = N 124 t) ∧ LX8_save_17g (nI i0) f N j 124 2 = 0 ∧ LX8_save_17g (nI i0) f N j 124 8 = (N 124 8 ||| ((1 : Int32) <<< (nI i0 &&& 31))) ∧ LX8_save_17f (nI i0) f N j = N 127 0 := by
  have hcl : (nI i0).toNatClampNeg = i0 := nI_clamp (by omega)
  intro f
  induction f with
  | zero => intro N j hf hj; omega
  | succ f ih =>
    intro N j hf hj
    rw [LX8_save_17g, LX8_save_17f]
    by_cases hc : (56 : Int32) ≤ nI j
    · have h56 := lit_ge (N := 56) hc rfl (by omega)
      rw [if_pos hc, if_pos hc]
      unfold gX8_told fX8_told
      refine ⟨fun t h1 h2 => by omega, fun t _ => by rw [mU_ne _ _ _ (by decide), mU_ne _ _ _ (by decide)], fun p _ h2 => by rw [mU_ne _ _ _ h2, mU_ne _ _ _ h2], fun t h1 h2 => by rw [mU_row h1, mU_row h2], mu_same _ _ _ _, by rw [mU_row (by decide), mu_same], by rw [mU_ne _ _ _ (by decide)]⟩
    · have hj6 := lit_lt (N := 56) hc rfl hj
      rw [if_neg hc, if_neg hc, hcl]
      obtain ⟨i1, i2, i3, i4, i5, i6, i7⟩ := ih (mU N 130 (j + 56 * i0) (N 127 j)) (j + 1) (by omega) (by omega)
      refine ⟨fun t h1 h2 => ?_, fun t h1 => ?_, fun p h1 h2 => (i3 p h1 h2).trans (mU_ne _ _ _ h1), fun t h1 h2 => (i4 t h1 h2).trans (by rw [mU_ne _ _ _ (by decide)]), i5, by rw [i6, mU_ne _ _ _ (by decide)], by rw [i7, mU_ne _ _ _ (by decide)]⟩
      · by_cases e : t = j
        · rw [i2 _ (by omega), mU_at, e, upd_at]
        · rw [i1 t (by omega) h2, mU_ne _ _ _ (by decide)]
      · rw [i2 t (by omega), mU_at, upd_ne _ _ (by omega)]
theorem rs_loop {i0 : Nat} (hi0 : i0 < 2) : ∀ (f : Nat) (N : Mem) (j : Nat), 57 ≤ j + f → j ≤ 56 → (∀ t, j ≤ t → t < 56 → LX8_restore_38g (nI i0) f N j 127 t = N 130 (t + 56 * i0)) ∧ (∀ t, t < j → LX8_restore_38g (nI i0) f N j 127 t = N 127 t) ∧ (∀ p, p ≠ 127 → p ≠ 124 → LX8_restore_38g (nI i0) f N j p = N p) ∧ (∀ t, t ≠ 2 → LX8_restore_38g (nI i0) f N j 124 t = N 124 t) ∧ LX8_restore_38g (nI i0) f N j 124 2 = 0 ∧ LX8_restore_38f (nI i0) f N j = LX8_restore_38g (nI i0) f N j 127 0 := by
  have hcl : (nI i0).toNatClampNeg = i0 := nI_clamp (by omega)
  intro f
  induction f with
  | zero => intro N j hf hj; omega
  | succ f ih =>
    intro N j hf hj
    rw [LX8_restore_38g, LX8_restore_38f]
    by_cases hc : (56 : Int32) ≤ nI j
    · have h56 := lit_ge (N := 56) hc rfl (by omega)
      rw [if_pos hc, if_pos hc]
      unfold gX8_told fX8_told
      exact ⟨fun t h1 h2 => by omega, fun t _ => by rw [mU_ne _ _ _ (by decide)], fun p _ h2 => mU_ne _ _ _ h2, fun t h1 => mU_row h1, mu_same _ _ _ _, by rw [mU_ne _ _ _ (by decide)]⟩
    · have hj6 := lit_lt (N := 56) hc rfl hj
      rw [if_neg hc, if_neg hc, hcl]
      obtain ⟨i1, i2, i3, i4, i5, i6⟩ := ih (mU N 127 j (N 130 (j + 56 * i0))) (j + 1) (by omega) (by omega)
      refine ⟨fun t h1 h2 => ?_, fun t h1 => ?_, fun p h1 h2 => (i3 p h1 h2).trans (mU_ne _ _ _ h1), fun t h1 => (i4 t h1).trans (by rw [mU_ne _ _ _ (by decide)]), i5, i6⟩
      · by_cases e : t = j
        · rw [i2 t (by omega), mU_at, e, upd_at]
        · rw [i1 t (by omega) h2, mU_ne _ _ _ (by decide)]
      · rw [i2 t (by omega), mU_at, upd_ne _ _ (by omega)]
/-- the slots: the flags are the bits -/
def SL (M N : Mem) : Prop := (M 104 0 = 0 ∨ M 104 0 = 1) ∧ (M 104 1 = 0 ∨ M 104 1 = 1) ∧ N 124 8 = M 104 0 + 2 * M 104 1 ∧ ∀ i, i < 2 → ¬ M 104 i = 0 → ∃ c, RQ M (105 + 8 * i) (fun t => N 130 (t + 56 * i)) c
theorem sl_bit {M N : Mem} {i : Nat} (h : SL M N) (hi : i < 2) : ((N 124 8 >>> (nI i &&& 31)) &&& 1) = M 104 i := by
  obtain ⟨h0, h1, h8, -⟩ := h
  rw [h8]
  rcases (by omega : i = 0 ∨ i = 1) with rfl | rfl <;> rcases h0 with e | e <;> rcases h1 with e2 | e2 <;> rw [e, e2] <;> decide
theorem save_rel {M N : Mem} {c i : Nat} (h : SL M N) (hr : RB M N 1 c) (hi : i < 2) : SL (gX5_keep M (nI i) 1) (LX8_save_17g (nI i) 57 N 0) ∧ RB (gX5_keep M (nI i) 1) (LX8_save_17g (nI i) 57 N 0) 1 c ∧ gX5_keep M (nI i) 1 1 2 = LX8_save_17f (nI i) 57 N 0 := by
  obtain ⟨s1, s2, s3, s4, s5, s6, s7⟩ := sv_loop hi 57 N 0 (by omega) (by omega)
  have hcl : (nI i).toNatClampNeg = i := nI_clamp (by omega)
  have hs : ¬ fX7_isSlot M (nI i) = 0 := by
    rcases (by omega : i = 0 ∨ i = 1) with rfl | rfl <;> (unfold fX7_isSlot; decide)
  have hk : gX5_keep M (nI i) 1 = mU (gX4_copyFrom M (105 + 8 * i) 1) 104 i 1 := by unfold gX5_keep; rw [if_neg hs, hcl]
  have hcn := hr.2.cnt
  have hro : ∀ o, o ≠ 104 → (o < 105 + 8 * i ∨ 105 + 8 * i + 8 ≤ o) → gX5_keep M (nI i) 1 o = M o := fun o ho hh => by rw [hk, mU_ne _ _ _ ho]; exact copy_rf hcn o hh
  have h104 : gX5_keep M (nI i) 1 104 = upd (M 104) i 1 := by rw [hk, mU_at, copy_rf hcn 104 (by omega)]
  have hnew : RQ (gX5_keep M (nI i) 1) (105 + 8 * i) (N 127) c := by
    rw [hk]
    exact rq_ext (fun o h1 h2 => mU_ne _ _ _ (by omega)) (fun _ _ => rfl) (rq_copy (Or.inl (by omega)) hr.2)
  have hra : RB (gX5_keep M (nI i) 1) (LX8_save_17g (nI i) 57 N 0) 1 c := ⟨pts_row (s3 125 (by decide) (by decide)) hr.1, rq_ext (fun o h1 h2 => hro o (by omega) (by omega)) (fun t ht => by rw [s3 127 (by decide) (by decide)]) hr.2⟩
  refine ⟨?_, hra, ?_⟩
  · obtain ⟨a0, a1, a8, as⟩ := h
    unfold SL
    rw [h104, s6, a8]
    refine ⟨?_, ?_, ?_, fun k hk2 hne => ?_⟩
    · rcases (by omega : i = 0 ∨ i = 1) with rfl | rfl
      · exact Or.inr rfl
      · exact a0
    · rcases (by omega : i = 0 ∨ i = 1) with rfl | rfl
      · exact a1
      · exact Or.inr rfl
    · rcases (by omega : i = 0 ∨ i = 1) with rfl | rfl <;> rcases a0 with e | e <;> rcases a1 with e2 | e2 <;> unfold upd <;> rw [e, e2] <;> decide
    · by_cases e : k = i
      · subst e
        exact ⟨c, rq_ext (fun _ _ _ => rfl) (fun t ht => s1 t (Nat.zero_le _) ht) hnew⟩
      · rw [upd_ne _ _ e] at hne
        obtain ⟨c2, hc2⟩ := as k hk2 hne
        exact ⟨c2, rq_ext (fun o h1 h2 => hro o (by omega) (by omega)) (fun t ht => s2 _ (by omega)) hc2⟩
  · rw [s7, hro 1 (by omega) (by omega)]
    exact hr.2.1.2.2.1.2.1
