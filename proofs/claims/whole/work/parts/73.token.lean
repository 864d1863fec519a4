/-! a token of both -/
def KK (a b : Int32) : Prop := b = kR a ∧ (a = 0 ∨ a = 1 ∨ a = 2 ∨ a = 3 ∨ a = 5)
/-- both scanners at t, the text's end e -/
def TS (M N : Mem) (e t : Nat) : Prop := e ≤ 600 ∧ t ≤ e ∧ M 10 2 = nI e ∧ N 124 15 = nI e ∧ M 10 4 = nI t ∧ N 124 18 = nI t ∧ KK (M 10 5) (N 124 16) ∧ ∀ j, j < e → M 11 j = N 131 j
/-- .. and the token between s and t -/
def TK (M N : Mem) (e t s : Nat) : Prop := TS M N e t ∧ s ≤ t ∧ M 10 3 = nI s ∧ N 124 17 = nI s ∧ (M 10 5 = 2 → fX6_value M = N 124 19) ∧ (M 10 5 = 1 → ∀ j, s ≤ j → j < t → kO (M 11 j) = 1) ∧ (¬ M 10 5 = 0 → s < t)
theorem KK.iff {a b k : Int32} (h : KK a b) (hk : k = 0 ∨ k = 1 ∨ k = 2 ∨ k = 3) : b = k ↔ a = k := by
  obtain ⟨rfl, h⟩ := h
  rcases h with rfl | rfl | rfl | rfl | rfl <;> rcases hk with rfl | rfl | rfl | rfl <;> decide
theorem nS_congr {B C : Nat → Int32} {e : Nat} (hb : ∀ j, j < e → B j = C j) (t : Nat) : nS B e t = nS C e t := scan_congr hb _ _
theorem nK_congr {B C : Nat → Int32} {e : Nat} (hb : ∀ j, j < e → B j = C j) (s : Nat) : nK B e s = nK C e s := by
  unfold nK
  by_cases h : s < e
  · rw [hb s h]
  · rw [if_neg h, if_neg h]
theorem nT_congr {B C : Nat → Int32} {e : Nat} (hb : ∀ j, j < e → B j = C j) (s : Nat) : nT B e s = nT C e s := by
  unfold nT
  by_cases h : s < e
  · rw [hb s h, scan_congr hb]
  · rw [if_neg h, if_neg h]
theorem vR_congr {B C : Nat → Int32} {e : Nat} (hb : ∀ j, j < e → B j = C j) (s : Nat) : ∀ f t v, vR B e s f t v = vR C e s f t v := by
  intro f
  induction f with
  | zero => intro t v; rfl
  | succ f ih =>
    intro t v
    rw [vR, vR]
    by_cases h : t < e
    · rw [hb t h, ih, ih]
    · rw [if_neg (fun h1 => h h1.1), if_neg (fun h1 => h h1.1)]
theorem dig_eq (v b : Int32) : v * 10 + (b - 48) = 10 * v + b - 48 := by
  rw [Int32.mul_comm, Int32.sub_eq_add_neg, Int32.sub_eq_add_neg, Int32.add_assoc]
theorem val_eq {M : Mem} {e s T : Nat} (he : e ≤ 600) (hT : T ≤ s + 3) (hTe : T ≤ e) (h4 : M 10 4 = nI T) : ∀ (f f2 t : Nat) (v : Int32), t ≤ e → e + 1 ≤ t + f → scan 2 (M 11) e f t = T → T + 1 ≤ t + f2 → LX6_value_7f f2 M v (nI t) = vR (M 11) e s f t v := by
  intro f
  induction f with
  | zero => intro f2 t v h1 h2; omega
  | succ f ih =>
    intro f2 t v h1 h2 hsc hf2
    have hge := scan_ge 2 (M 11) e (f + 1) t
    cases f2 with
    | zero => omega
    | succ g =>
      rw [LX6_value_7f, vR, h4]
      by_cases hc : t < e ∧ kO (M 11 t) = 2
      · have hsc2 : scan 2 (M 11) e f (t + 1) = T := by rw [← hsc, scan_in hc.1 hc.2]
        have hge2 := scan_ge 2 (M 11) e f (t + 1)
        rw [if_pos hc, if_neg (by rw [nI_leI (by omega) (by omega)]; omega), if_neg (by omega), show (nI t).toNatClampNeg = t from nI_clamp (by omega), nI_1, dig_eq]
        exact ih g (t + 1) _ (by omega) (by omega) hsc2 (by omega)
      · have : T = t := by rw [← hsc, scan, if_neg hc]
        rw [if_neg hc, if_pos (by rw [nI_leI (by omega) (by omega)]; omega)]
/-- the next token of both -/
theorem next_rel {M N : Mem} {e t : Nat} (h : TS M N e t) : ∃ t2 s2, TK (gX6_next M) (gX8_next N) e t2 s2 ∧ t ≤ s2 := by
  obtain ⟨he, ht, m2, n15, m4, n18, hk, hb⟩ := h
  obtain ⟨a3, a4, a5⟩ := cnext he ht m2 m4
  obtain ⟨hN15, b3, b4, b5, b6⟩ := rnext he ht n15 n18
  have hs1 := nS_le (B := M 11) ht
  have hs2 := nS_ge (M 11) e t
  have ht1 := nT_le (B := M 11) hs1
  have ht2 := nT_ge (M 11) e (nS (M 11) e t)
  have hs4 : nS (M 11) e t < e → ¬ kO (M 11 (nS (M 11) e t)) = 4 := scan_end 4 (M 11) e 601 t (by omega)
  rw [← nS_congr hb t, ← nK_congr hb, ← vR_congr hb] at b6
  rw [← nS_congr hb t, ← nT_congr hb] at b4
  rw [← nS_congr hb t] at b3
  rw [← nS_congr hb t, ← nT_congr hb, ← nK_congr hb] at b5
  have hrun : (N 124 16 = 1 ∨ N 124 16 = 2) ↔ (M 10 5 = 1 ∨ M 10 5 = 2) := by rw [hk.iff (by decide), hk.iff (by decide)]
  have hbad : nBad (nK (M 11) e (nS (M 11) e t)) (N 124 16 = 1 ∨ N 124 16 = 2) t (nS (M 11) e t) (nT (M 11) e (nS (M 11) e t)) ↔ nBad (nK (M 11) e (nS (M 11) e t)) (M 10 5 = 1 ∨ M 10 5 = 2) t (nS (M 11) e t) (nT (M 11) e (nS (M 11) e t)) := by
    unfold nBad; rw [hrun]
  have hM11 : gX6_next M 11 = M 11 := nx_sr M 11 (by decide)
  have hN131 : gX8_next N 131 = N 131 := (n8_nx N).1.1 131 (by decide)
  have hM2 : gX6_next M 10 2 = nI e := (nx_lo M (by decide)).trans m2
  refine ⟨nT (M 11) e (nS (M 11) e t), nS (M 11) e t, ⟨⟨he, ht1, hM2, hN15, a4, b4, ?_, fun j hj => by rw [hM11, hN131]; exact hb j hj⟩, ht2.1, a3, b3, fun h2 => ?_, fun h1 => ?_, fun h0 => ?_⟩, hs2⟩
  · rw [a5, b5]
    by_cases hbd : nBad (nK (M 11) e (nS (M 11) e t)) (M 10 5 = 1 ∨ M 10 5 = 2) t (nS (M 11) e t) (nT (M 11) e (nS (M 11) e t))
    · rw [if_pos hbd, if_pos (hbad.mpr hbd)]
      exact ⟨rfl, by decide⟩
    · rw [if_neg hbd, if_neg (fun hh => hbd (hbad.mp hh))]
      refine ⟨rfl, ?_⟩
      unfold nK
      split
      · rename_i hlt
        rcases kO_rng (M 11 (nS (M 11) e t)) with h | h | h | h | h
        · exact Or.inr (Or.inl h)
        · exact Or.inr (Or.inr (Or.inl h))
        · exact Or.inr (Or.inr (Or.inr (Or.inl h)))
        · exact absurd h (hs4 hlt)
        · exact Or.inr (Or.inr (Or.inr (Or.inr h)))
      · exact Or.inl rfl
  · rw [a5] at h2
    by_cases hbd : nBad (nK (M 11) e (nS (M 11) e t)) (M 10 5 = 1 ∨ M 10 5 = 2) t (nS (M 11) e t) (nT (M 11) e (nS (M 11) e t))
    · rw [if_pos hbd] at h2
      exact absurd h2 (by decide)
    · rw [if_neg hbd] at h2
      have hlen : nT (M 11) e (nS (M 11) e t) ≤ nS (M 11) e t + 3 := by
        rcases Nat.lt_or_ge (nS (M 11) e t + 3) (nT (M 11) e (nS (M 11) e t)) with hh | hh
        · exact absurd (Or.inr ⟨h2, hh⟩) hbd
        · exact hh
      have hlt : nS (M 11) e t < e := by
        rcases Nat.lt_or_ge (nS (M 11) e t) e with hh | hh
        · exact hh
        · unfold nK at h2; rw [if_neg (by omega)] at h2; exact absurd h2 (by decide)
      have hk2 : kO (M 11 (nS (M 11) e t)) = 2 := by unfold nK at h2; rwa [if_pos hlt] at h2
      have hsc : scan 2 (M 11) e 601 (nS (M 11) e t) = nT (M 11) e (nS (M 11) e t) := by
        unfold nT
        rw [if_pos hlt, if_pos (Or.inr hk2), hk2, scan_fuel 2 (M 11) e 601 600 (nS (M 11) e t + 1) (by omega) (by omega)]
        exact scan_in hlt hk2
      rw [b6 h2]
      unfold fX6_value
      rw [a3]
      have hv := val_eq (M := gX6_next M) (s := nS (M 11) e t) he hlen ht1 a4 601 601 (nS (M 11) e t) 0 hs1 (by omega) (by rw [hM11]; exact hsc) (by omega)
      rw [hM11] at hv
      exact hv
  · rw [a5] at h1
    by_cases hbd : nBad (nK (M 11) e (nS (M 11) e t)) (M 10 5 = 1 ∨ M 10 5 = 2) t (nS (M 11) e t) (nT (M 11) e (nS (M 11) e t))
    · rw [if_pos hbd] at h1
      exact absurd h1 (by decide)
    · rw [if_neg hbd] at h1
      have hlt : nS (M 11) e t < e := by
        rcases Nat.lt_or_ge (nS (M 11) e t) e with hh | hh
        · exact hh
        · unfold nK at h1; rw [if_neg (by omega)] at h1; exact absurd h1 (by decide)
      have hk1 : kO (M 11 (nS (M 11) e t)) = 1 := by unfold nK at h1; rwa [if_pos hlt] at h1
      intro j hj1 hj2
      rw [hM11]
      unfold nT at hj2
      rw [if_pos hlt, if_pos (Or.inl hk1), hk1] at hj2
      by_cases ej : j = nS (M 11) e t
      · rw [ej]; exact hk1
      · exact scan_all 1 (M 11) e 601 (nS (M 11) e t + 1) j (by omega) hj2
  · rcases Nat.lt_or_ge (nS (M 11) e t) e with hh | hh
    · exact ht2.2 hh
    · exfalso
      apply h0
      rw [a5]
      have hk0 : nK (M 11) e (nS (M 11) e t) = 0 := by unfold nK; rw [if_neg (by omega)]
      rw [hk0, if_neg]
      unfold nBad
      rintro (⟨h | h, -⟩ | ⟨h, -⟩) <;> exact absurd h (by decide)
/-- the reference's words -/
def KEYS (N : Mem) : Prop := ∀ w, w < 9 → ∀ j, j < 8 → N 126 (j + 8 * w) = (if j < wrdN.getD w 0 then (wrdB.getD w []).getD j 0 else 0)
theorem wCh_eq : ∀ w, w < 9 → ∀ j, j < wrdN.getD w 0 → wCh w j = (wrdB.getD w []).getD j 0 ∧ ¬ (wrdB.getD w []).getD j 0 = 0 := by decide +kernel
theorem kO_nz {x : Int32} (h : kO x = 1) : ¬ x = 0 := by
  rintro rfl
  exact absurd h (by decide)
theorem word_eq {M N : Mem} {e t s w : Nat} (h : TK M N e t s) (hK : KEYS N) (hw : w < 9) : fX6_isWord M w = fX8_isKey N w := by
  obtain ⟨⟨he, ht, m2, n15, m4, n18, hk, hb⟩, hst, m3, n17, -, hlet, -⟩ := h
  obtain ⟨hl1, hl2⟩ := wLen_eq w hw
  have hlet1 : ∀ j, s ≤ j → j < t → M 10 5 = 1 → ¬ N 131 j = 0 := fun j h1 h2 h3 => by rw [← hb j (by omega)]; exact kO_nz (hlet h3 j h1 h2)
  unfold fX6_isWord fX8_isKey
  by_cases h1 : M 10 5 = 1
  · rw [if_pos h1, if_pos ((hk.iff (by decide)).mpr h1), m4, m3, n18, n17, hl1, pk_sub hst]
    generalize hn : wrdN.getD w 0 = n at *
    have key : ∀ j, j < 8 → N 126 (j + 8 * w) = (if j < n then (wrdB.getD w []).getD j 0 else 0) := fun j hj => by rw [hK w hw j hj, hn]
    have ch : ∀ j, j < n → wCh w j = (wrdB.getD w []).getD j 0 ∧ ¬ (wrdB.getD w []).getD j 0 = 0 := fun j hj => wCh_eq w hw j (by rw [hn]; exact hj)
    have sj : ∀ j, j ≤ 8 → (nI s + nI j).toNatClampNeg = s + j := fun j hj => by rw [nI_add, nI_clamp (by omega)]
    by_cases hL : t - s = n
    · rw [if_pos (by rw [hL]), if_pos (by rw [show (8 : Int32) = nI 8 from rfl, nI_leI (by omega) (by omega)]; omega)]
      have A : ∀ f j, n ≤ j → j ≤ 8 → 9 ≤ j + f → LX8_isKey_26f w f N j = 1 := by
        intro f
        induction f with
        | zero => intro j _ _ h3; omega
        | succ f ih =>
          intro j hj1 hj2 hf
          rw [LX8_isKey_26f, n18, n17, pk_sub hst]
          by_cases h8 : (8 : Int32) ≤ nI j
          · rw [if_pos h8]
          · have hj8 := lit_lt (N := 8) h8 rfl hj2
            rw [if_neg h8, if_pos (show nI (t - s) ≤ nI j by rw [nI_leI (by omega) (by omega)]; omega), if_pos (by rw [key j hj8, if_neg (by omega)]), ih (j + 1) (by omega) (by omega) (by omega)]
      have Bq : ∀ f j, j ≤ n → 9 ≤ j + f → LX6_isWord_28f w f M j = LX8_isKey_26f w f N j := by
        intro f
        induction f with
        | zero => intro j hj1 hf; omega
        | succ f ih =>
          intro j hj1 hf
          by_cases hjn : j = n
          · rw [A (f + 1) j (by omega) (by omega) hf, LX6_isWord_28f, hl1, if_pos (by rw [hjn]; exact Int32.le_refl _)]
          · rw [LX6_isWord_28f, LX8_isKey_26f, hl1, m3, n18, n17, pk_sub hst, sj j (by omega)]
            rw [if_neg (show ¬ nI n ≤ nI j by rw [nI_leI (by omega) (by omega)]; omega), if_neg (show ¬ (8 : Int32) ≤ nI j by rw [show (8 : Int32) = nI 8 from rfl, nI_leI (by omega) (by omega)]; omega), if_neg (show ¬ nI (t - s) ≤ nI j by rw [nI_leI (by omega) (by omega)]; omega), key j (by omega), if_pos (show j < n by omega), (ch j (by omega)).1, hb (s + j) (by omega), ih (j + 1) (by omega) (by omega)]
      exact Bq 9 0 (by omega) (by omega)
    · rw [if_neg (fun hh => hL ((nI_eq (by omega) (by omega)).mp hh))]
      by_cases h8 : nI (t - s) ≤ (8 : Int32)
      · rw [if_pos h8]
        have hL8 : t - s ≤ 8 := by rw [show (8 : Int32) = nI 8 from rfl, nI_leI (by omega) (by omega)] at h8; exact h8
        have Cq : ∀ f j, j ≤ min (t - s) n → 9 ≤ j + f → LX8_isKey_26f w f N j = 0 := by
          intro f
          induction f with
          | zero => intro j hj1 hf; omega
          | succ f ih =>
            intro j hj1 hf
            rw [LX8_isKey_26f, n18, n17, pk_sub hst, sj j (by omega), if_neg (show ¬ (8 : Int32) ≤ nI j by rw [show (8 : Int32) = nI 8 from rfl, nI_leI (by omega) (by omega)]; omega), key j (by omega)]
            by_cases hq : j = min (t - s) n
            · rcases Nat.lt_or_ge (t - s) n with hh | hh
              · rw [if_pos (show nI (t - s) ≤ nI j by rw [nI_leI (by omega) (by omega)]; omega), if_pos (show j < n by omega), if_neg (fun e0 => (ch j (by omega)).2 e0.symm)]
              · rw [if_neg (show ¬ nI (t - s) ≤ nI j by rw [nI_leI (by omega) (by omega)]; omega), if_neg (show ¬ j < n by omega), if_neg (hlet1 (s + j) (by omega) (by omega) h1)]
            · rw [if_neg (show ¬ nI (t - s) ≤ nI j by rw [nI_leI (by omega) (by omega)]; omega), ih (j + 1) (by omega) (by omega)]
              exact ite_self _
        exact (Cq 9 0 (by omega) (by omega)).symm
      · rw [if_neg h8]
  · rw [if_neg h1, if_neg (fun hh => h1 ((hk.iff (by decide)).mp hh))]
