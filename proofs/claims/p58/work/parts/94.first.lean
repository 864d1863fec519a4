/-! the first state -/
theorem x70 (M : Mem) : LX7_init_70g 1 M = gX4_pass (mU (gX4_pass (mU (gX4_newBulb (gX4_newBulb (gX4_newHair (gX4_newHair (gX4_begin M 1 60 20 2) 1 10) 1 4) 1 30) 1 3) 1 3 50) 1 3) (1 + 1 + 1 + 1) 8 2) 1 2 := rfl
theorem cnt_ne {M : Mem} {o k : Nat} {v : Int32} (h : CNT M 1) (hk : o ≠ 1 ∨ k ≠ 1) : CNT (mU M o k v) 1 := by
  obtain ⟨c, hc, h1⟩ := h
  refine ⟨c, hc, ?_⟩
  by_cases ho : o = 1
  · subst ho
    rw [mU_at]
    unfold upd
    rw [if_neg (fun h => by rcases hk with h2 | h2 <;> omega)]
    exact h1
  · rw [mU_ne _ _ _ (fun h => ho h.symm)]
    exact h1
theorem l70_rf (M : Mem) : ∀ p, 9 ≤ p → LX7_init_70g 1 M p = M p := by
  intro p hp
  have hp' : p < 1 ∨ 1 + 8 ≤ p := Or.inr hp
  have c1 := begin_cnt M 1 60 20 2
  have c2 := newHair_cnt (x := 10) c1
  have c3 := newHair_cnt (x := 4) c2
  have c4 := newBulb_cnt (x := 30) c3
  have c5 := newBulb_cnt (x := 3) c4
  have c6 := cnt_ne (o := 1) (k := 3) (v := 50) c5 (Or.inr (by decide))
  have c7 := pass_cnt (x := 3) c6
  have c8 := cnt_ne (o := 1 + 1 + 1 + 1) (k := 8) (v := 2) c7 (Or.inl (by decide))
  rw [x70, pass_rf c8 p hp', mU_ne _ _ _ (by omega), pass_rf c6 p hp', mU_ne _ _ _ (by omega), newBulb_rf c4 p hp', newBulb_rf c3 p hp', newHair_rf c2 p hp', newHair_rf c1 p hp', begin_rf M 1 60 20 2 p hp']
theorem gR0_hd {M : Mem} {j : Nat} : ∀ i, gR0 M i (22 + 8 * j) = M (22 + 8 * j) := by
  intro i
  induction i with
  | zero => rfl
  | succ i ih =>
    show gX4_init (gR0 M i) (22 + 8 * i) (22 + 8 * j) = _
    rw [gX4_init_ne (by omega), ih]
theorem gR5_hd {M : Mem} {j : Nat} : ∀ i, gR5 M i (105 + 8 * j) = M (105 + 8 * j) := by
  intro i
  induction i with
  | zero => rfl
  | succ i ih =>
    show gX4_init (gR5 M i) (105 + 8 * i) (105 + 8 * j) = _
    rw [gX4_init_ne (by omega), ih]
theorem first_z : (∀ p, 124 ≤ p → gX7_init (fun _ _ => 0) p = fun _ => 0) ∧ gX7_init (fun _ _ => 0) 10 1 = 0 ∧ CNT (gX7_init (fun _ _ => 0)) 12 ∧ HC10 (gX7_init (fun _ _ => 0)) ∧ SC2 (gX7_init (fun _ _ => 0)) := by
  have key : ∀ p, 9 ≤ p → p ≠ 123 → gX7_init (fun _ _ => 0) p = gR5 (gR0 (gX3_init (gX4_init (fun _ _ => 0) 1)) 10) 2 p := fun p h1 h2 => by
    unfold gX7_init
    rw [l70_rf _ p h1, mU_ne _ _ _ h2]
  refine ⟨fun p hp => ?_, ?_, ⟨0, by decide, ?_⟩, fun i hi => ⟨0, by decide, ?_⟩, fun i hi => ⟨0, by decide, ?_⟩⟩
  · rw [key p (by omega) (by omega), gR5_ne 2 (by omega), gR0_ne 10 (by omega), gX3_ne (by omega), gX4_init_ne (by omega)]
  · rw [key 10 (by decide) (by decide), gR5_ne 2 (by omega), gR0_ne 10 (by omega), gX3_ne (by omega), gX4_init_ne (by omega)]
  · rw [key 12 (by decide) (by decide), gR5_ne 2 (by omega), gR0_ne 10 (by omega), gX3_ne (by omega), gX4_init_ne (by omega)]
    rfl
  · rw [key _ (by omega) (by omega), gR5_ne 2 (by omega), gR0_hd 10, gX3_ne (by omega), gX4_init_ne (by omega)]
    rfl
  · rw [key _ (by omega) (by omega), gR5_hd 2, gR0_ne 10 (by omega), gX3_ne (by omega), gX4_init_ne (by omega)]
    rfl
