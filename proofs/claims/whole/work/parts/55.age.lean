theorem upd_self (B : Nat → Int32) (i : Nat) : upd B i (B i) = B := by
  funext j
  unfold upd
  split
  · rename_i h; rw [h]
  · rfl
/-- one instrument's minute in the reference -/
def gAge (N : Mem) (k : Nat) : Mem := if ((gX8_ages N k) 127 0) - ((gX8_ages N k) 127 0) / (10 : Int32) * (10 : Int32) = 0 then gX8_slackens (gX8_ages N k) k else gX8_ages N k
theorem row_wetC (M : Mem) (o : Nat) (y t : Int32) : gX1_moveWetness M o y t o = upd (M o) 4 (wetC y (M o 4) t) := by
  unfold gX1_moveWetness wetC
  by_cases c : y ≤ M o 4
  · rw [if_pos c, if_pos c, mU_at]
  · rw [if_neg c, if_neg c, mU_at]
theorem row_wetR (N : Mem) (k : Nat) : gX8_soaks N k 127 = upd (N 127) (8 * k + 11) (wetR (fX8_around N k) (N 127 (8 * k + 11)) (1 + 20 / N 127 (8 * k + 9))) := by
  unfold gX8_soaks wetR
  by_cases c : fX8_around N k - N 127 (8 * k + 11) ≤ 1 + 20 / N 127 (8 * k + 9)
  · rw [if_pos c, if_pos c]
    by_cases c2 : -(1 + 20 / N 127 (8 * k + 9)) ≤ fX8_around N k - N 127 (8 * k + 11)
    · rw [if_pos c2, if_pos c2, mU_at]
    · rw [if_neg c2, if_neg c2, mU_at]
  · rw [if_neg c, if_neg c]
    by_cases c2 : -(1 + 20 / N 127 (8 * k + 9)) ≤ 1 + 20 / N 127 (8 * k + 9)
    · rw [if_pos c2, if_pos c2, mU_at]
    · rw [if_neg c2, if_neg c2, mU_at]
theorem row_slack {N : Mem} {k : Nat} (h : ¬ fX8_isOfHair N k = 0) : gX8_slackens N k 127 = upd (N 127) (8 * k + 12) (if 50 ≤ N 127 (8 * k + 12) then N 127 (8 * k + 12) else N 127 (8 * k + 12) + 1) := by
  unfold gX8_slackens
  rw [if_neg h]
  by_cases c : (50 : Int32) ≤ N 127 (8 * k + 12)
  · rw [if_pos c, if_pos c, upd_self]
  · rw [if_neg c, if_neg c, mU_at]
theorem row_water {N : Mem} {k : Nat} (h : fX8_isOfHair N k = 0) : gX8_ages N k 127 = upd (N 127) (8 * k + 13) (if N 127 (8 * k + 13) ≤ 0 then N 127 (8 * k + 13) else N 127 (8 * k + 13) - 1) := by
  unfold gX8_ages
  rw [if_pos h]
  by_cases c : N 127 (8 * k + 13) ≤ 0
  · rw [if_pos c, if_pos c, upd_self]
  · rw [if_neg c, if_neg c, mU_at]
theorem hair_row {N N' : Mem} {k : Nat} (h : N' 127 (8 * k + 8) = N 127 (8 * k + 8)) : fX8_isOfHair N' k = fX8_isOfHair N k := by unfold fX8_isOfHair; rw [h]
theorem around_ub {M N : Mem} {r o k : Nat} (h : R1 M N r o k) : UB (fX8_around N k) 100 := by
  obtain ⟨hp, -, hg, -, hgi⟩ := h
  unfold fX8_around
  split
  · exact hg.2.1
  · rename_i hb
    rcases hgi.2.2.2.2.2.1 with e | ⟨b, hb3, e⟩
    · exact absurd (by unfold fX8_isBoxed; rw [if_pos e]) hb
    · rw [e, nI_clamp (by omega), hp b (by omega)]
      have : ∀ b : Fin 4, [33, 43, 75, 97].getD b.1 0 ≤ 100 ∧ fpV b.1 = nI ([33, 43, 75, 97].getD b.1 0) := by decide
      obtain ⟨e1, e2⟩ := this ⟨b, by omega⟩
      exact ⟨_, e1, e2⟩
theorem age_rel {M N : Mem} {r o k : Nat} (h : R1 M N r o k) : RI (gX1_age M o (M r 2) (fX4_surrounding M r o) o) (gAge N k 127) k ∧ GI (gAge N k 127) k := by
  have hm : M r 2 = N 127 0 := h.2.1.2.1
  have h0 : gX8_ages N k 127 0 = N 127 0 := ages_at (by omega) (by omega)
  have h8 : gX8_ages N k 127 (8 * k + 8) = N 127 (8 * k + 8) := ages_at (by omega) (by omega)
  have hs := sur_eq h
  have hh := hair_eq h
  have hay := around_ub h
  obtain ⟨hp, hr, hg, hi, hgi⟩ := h
  unfold gAge
  rw [h0, hs, hm]
  unfold gX1_age
  by_cases hb : bv (M o 0) = 0
  · have hb8 : fX8_isOfHair N k = 0 := hh.trans hb
    have hsl : gX8_slackens (gX8_ages N k) k = gX8_ages N k := by
      unfold gX8_slackens
      rw [if_pos ((hair_row h8).trans hb8)]
    rw [if_pos hb, hsl, ite_self, row_water hb8, mU_at, hi.2.2.2.2.2.1, (water_eq hgi.2.2.2.2.1).1]
    exact ⟨ri_put (by decide) hi, gi_water (water_eq hgi.2.2.2.2.1).2 hgi⟩
  · have hb8 : ¬ fX8_isOfHair N k = 0 := fun e => hb (hh.symm.trans e)
    have hb1 : N 127 (8 * k + 8) = 1 := hgi.1.resolve_left (fun e => hb (hi.1.trans e))
    rw [if_neg hb, hi.2.1]
    by_cases hz : N 127 (8 * k + 9) ≤ 0
    · have ha : gX8_ages N k = N := by unfold gX8_ages; rw [if_neg hb8, if_pos hz]
      rw [if_pos hz, ha]
      by_cases hx : N 127 0 - N 127 0 / 10 * 10 = 0
      · rw [if_pos hx, if_pos hx, row_slack hb8, mU_at, hi.2.2.2.2.1, (slack_eq hgi.2.2.2.1).1]
        exact ⟨ri_put (by decide) hi, gi_slack (slack_eq hgi.2.2.2.1).2 hb1 hgi⟩
      · rw [if_neg hx, if_neg hx]
        exact ⟨hi, hgi⟩
    · have ha : gX8_ages N k = gX8_soaks N k := by unfold gX8_ages; rw [if_neg hb8, if_neg hz]
      obtain ⟨hne, hst⟩ := step_eq hgi.2.1 hz
      have hq : fX7_quotient M 20 (N 127 (8 * k + 9)) = 20 / N 127 (8 * k + 9) := by unfold fX7_quotient; rw [if_neg hne]
      have hw : wetC (fX8_around N k) (N 127 (8 * k + 11)) (1 + 20 / N 127 (8 * k + 9)) = wetR (fX8_around N k) (N 127 (8 * k + 11)) (1 + 20 / N 127 (8 * k + 9)) ∧ UB (wetC (fX8_around N k) (N 127 (8 * k + 11)) (1 + 20 / N 127 (8 * k + 9))) 100 := by
        obtain ⟨b, hb, e1⟩ := hay
        obtain ⟨a, ha, e2⟩ := hgi.2.2.1
        obtain ⟨d, hd, e3⟩ := hst
        rw [e1, e2, e3]
        exact ⟨wet_eq ha hb (by omega), wet_ub ha hb (by omega)⟩
      have hi2 : RI (upd (M o) 4 (wetC (fX8_around N k) (N 127 (8 * k + 11)) (1 + 20 / N 127 (8 * k + 9)))) (gX8_soaks N k 127) k := by
        rw [row_wetR, ← hw.1]
        exact ri_put (by decide) hi
      have hg2 : GI (gX8_soaks N k 127) k := by
        rw [row_wetR, ← hw.1]
        exact gi_wet hw.2 hgi
      have h81 : gX8_soaks N k 127 (8 * k + 8) = 1 := (soaks_at (by omega)).trans hb1
      rw [if_neg hz, hq, ha]
      by_cases hx : N 127 0 - N 127 0 / 10 * 10 = 0
      · rw [if_pos hx, if_pos hx, row_slack (fun e => hb8 ((hair_row (soaks_at (by omega))).symm.trans e)), mU_at, row_wetC, hi.2.2.2.1]
        have e5 := hi2.2.2.2.2.1
        rw [e5, (slack_eq hg2.2.2.2.1).1]
        exact ⟨ri_put (by decide) hi2, gi_slack (slack_eq hg2.2.2.2.1).2 h81 hg2⟩
      · rw [if_neg hx, if_neg hx, row_wetC, hi.2.2.2.1]
        exact ⟨hi2, hg2⟩
