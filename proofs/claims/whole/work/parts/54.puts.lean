theorem ri_put {A B : Nat → Int32} {k i d : Nat} {v : Int32} (hd : (i = 1 ∧ d = 9) ∨ (i = 3 ∧ d = 10) ∨ (i = 4 ∧ d = 11) ∨ (i = 5 ∧ d = 12) ∨ (i = 6 ∧ d = 13) ∨ (i = 7 ∧ d = 14) ∨ (i = 8 ∧ d = 15)) (h : RI A B k) : RI (upd A i v) (upd B (8 * k + d) v) k := by
  obtain ⟨h0, h1, h2, h3, h4, h5, h6, h7⟩ := h
  rcases hd with ⟨rfl, rfl⟩ | ⟨rfl, rfl⟩ | ⟨rfl, rfl⟩ | ⟨rfl, rfl⟩ | ⟨rfl, rfl⟩ | ⟨rfl, rfl⟩ | ⟨rfl, rfl⟩ <;>
    refine ⟨?_, ?_, ?_, ?_, ?_, ?_, ?_, ?_⟩ <;> unfold upd <;>
    first
      | (rw [if_pos rfl, if_pos rfl])
      | (rw [if_neg (by omega), if_neg (by omega)]; assumption)
theorem ri_out {A B B' : Nat → Int32} {k : Nat} (hb : ∀ j, 8 * k + 8 ≤ j → j ≤ 8 * k + 15 → B' j = B j) (h : RI A B k) : RI A B' k := by
  obtain ⟨h0, h1, h2, h3, h4, h5, h6, h7⟩ := h
  refine ⟨?_, ?_, ?_, ?_, ?_, ?_, ?_, ?_⟩ <;> rw [hb _ (by omega) (by omega)] <;> assumption
theorem gi_out {B B' : Nat → Int32} {k : Nat} (hb : ∀ j, 8 * k + 8 ≤ j → j ≤ 8 * k + 15 → B' j = B j) (h : GI B k) : GI B' k := by
  unfold GI
  rw [hb (8 * k + 8) (by omega) (by omega), hb (8 * k + 9) (by omega) (by omega), hb (8 * k + 11) (by omega) (by omega), hb (8 * k + 12) (by omega) (by omega), hb (8 * k + 13) (by omega) (by omega), hb (8 * k + 15) (by omega) (by omega)]
  exact h
theorem gi_water {B : Nat → Int32} {k : Nat} {v : Int32} (hv : UB v 60) (h : GI B k) : GI (upd B (8 * k + 13) v) k := by
  obtain ⟨h0, h1, h2, h3, h4, h5, h6⟩ := h
  unfold GI upd
  rw [if_neg (show ¬ 8 * k + 8 = 8 * k + 13 by omega), if_neg (show ¬ 8 * k + 9 = 8 * k + 13 by omega), if_neg (show ¬ 8 * k + 11 = 8 * k + 13 by omega), if_neg (show ¬ 8 * k + 12 = 8 * k + 13 by omega), if_pos rfl, if_neg (show ¬ 8 * k + 15 = 8 * k + 13 by omega)]
  exact ⟨h0, h1, h2, h3, hv, h5, h6⟩
theorem gi_slack {B : Nat → Int32} {k : Nat} {v : Int32} (hv : UB v 50) (h1 : B (8 * k + 8) = 1) (h : GI B k) : GI (upd B (8 * k + 12) v) k := by
  obtain ⟨h0, h2, h3, h4, h5, h6, h7⟩ := h
  unfold GI upd
  rw [if_neg (show ¬ 8 * k + 8 = 8 * k + 12 by omega), if_neg (show ¬ 8 * k + 9 = 8 * k + 12 by omega), if_neg (show ¬ 8 * k + 11 = 8 * k + 12 by omega), if_pos rfl, if_neg (show ¬ 8 * k + 13 = 8 * k + 12 by omega), if_neg (show ¬ 8 * k + 15 = 8 * k + 12 by omega)]
  exact ⟨h0, h2, h3, hv, h5, h6, fun hc => absurd (h1.symm.trans hc) (by decide)⟩
theorem gi_wet {B : Nat → Int32} {k : Nat} {v : Int32} (hv : UB v 100) (h : GI B k) : GI (upd B (8 * k + 11) v) k := by
  obtain ⟨h0, h2, h3, h4, h5, h6, h7⟩ := h
  unfold GI upd
  rw [if_neg (show ¬ 8 * k + 8 = 8 * k + 11 by omega), if_neg (show ¬ 8 * k + 9 = 8 * k + 11 by omega), if_pos rfl, if_neg (show ¬ 8 * k + 12 = 8 * k + 11 by omega), if_neg (show ¬ 8 * k + 13 = 8 * k + 11 by omega), if_neg (show ¬ 8 * k + 15 = 8 * k + 11 by omega)]
  exact ⟨h0, h2, hv, h4, h5, h6, h7⟩
theorem water_eq {x : Int32} (h : UB x 60) : xmax 0 (x - 1) = (if x ≤ 0 then x else x - 1) ∧ UB (if x ≤ 0 then x else x - 1) 60 := by
  obtain ⟨a, ha, rfl⟩ := h
  have : ∀ a : Fin 61, xmax 0 (nI a.1 - 1) = (if nI a.1 ≤ 0 then nI a.1 else nI a.1 - 1) ∧ (if nI a.1 ≤ 0 then nI a.1 else nI a.1 - 1) = nI (a.1 - 1) := by decide
  obtain ⟨e1, e2⟩ := this ⟨a, by omega⟩
  exact ⟨e1, ⟨a - 1, by omega, e2⟩⟩
theorem slack_eq {x : Int32} (h : UB x 50) : xmin 50 (x + 1) = (if 50 ≤ x then x else x + 1) ∧ UB (if 50 ≤ x then x else x + 1) 50 := by
  obtain ⟨a, ha, rfl⟩ := h
  have : ∀ a : Fin 51, xmin 50 (nI a.1 + 1) = (if 50 ≤ nI a.1 then nI a.1 else nI a.1 + 1) ∧ (if 50 ≤ nI a.1 then nI a.1 else nI a.1 + 1) = nI (min 50 (a.1 + 1)) := by decide
  obtain ⟨e1, e2⟩ := this ⟨a, by omega⟩
  exact ⟨e1, ⟨min 50 (a + 1), by omega, e2⟩⟩
theorem step_eq {x : Int32} (h : UB x 20) (h0 : ¬ x ≤ 0) : ¬ x = 0 ∧ UB (1 + 20 / x) 21 := by
  obtain ⟨a, ha, rfl⟩ := h
  have : ∀ a : Fin 21, ¬ nI a.1 ≤ 0 → ¬ nI a.1 = 0 ∧ 1 + 20 / nI a.1 = nI (1 + 20 / a.1) ∧ 1 + 20 / a.1 ≤ 21 := by decide
  obtain ⟨e1, e2, e3⟩ := this ⟨a, by omega⟩ h0
  exact ⟨e1, ⟨_, e3, e2⟩⟩
