/-! what holds of a room: its numbers keep to their bounds, its hairs are counted -/
def BX (v : Int32) : Prop := v = -1 ∨ UB v 3
def IOK (A : Nat → Int32) : Prop := UB (A 1) 20 ∧ UB (A 4) 100 ∧ UB (A 5) 50 ∧ UB (A 6) 60 ∧ BX (A 8) ∧ (bv (A 0) = 0 → A 5 = 0) ∧ (¬ bv (A 0) = 0 → A 6 = 0)
/-- a sum over the first instruments -/
def SG (g : Nat → Int32) : Nat → Int32
  | 0 => 0
  | c + 1 => SG g c + g c
theorem SG_congr {g g' : Nat → Int32} : ∀ {c : Nat}, (∀ k, k < c → g' k = g k) → SG g' c = SG g c := by
  intro c
  induction c with
  | zero => intro _; rfl
  | succ c ih => intro h; rw [SG, SG, ih (fun k hk => h k (by omega)), h c (by omega)]
theorem SG_upd {g g' : Nat → Int32} : ∀ {c k : Nat}, k < c → (∀ j, j < c → j ≠ k → g' j = g j) → SG g' c = SG g c + (g' k - g k) := by
  intro c
  induction c with
  | zero => intro k hk; omega
  | succ c ih =>
    intro k hk h
    rw [SG, SG]
    by_cases he : k = c
    · subst he
      rw [SG_congr (fun j hj => h j (by omega) (by omega))]
      grind
    · rw [ih (by omega) (fun j hj hn => h j (by omega) hn), h c (by omega) (fun e => he e.symm)]
      grind
/-- the hairs that an instrument has and had, beside those that it got -/
def hbR (A : Nat → Int32) : Int32 := A 1 + A 3
def INV (mx : Nat) (M : Mem) : Prop := ∃ c, c ≤ 6 ∧ M 1 1 = nI c ∧ UB (M 1 2) mx ∧ UB (M 1 3) 100 ∧ UB (M 1 4) 40 ∧ UB (M 1 5) 5 ∧ UB (M 1 6) 99 ∧ (∀ k, k < c → IOK (M (1 + 1 + 1 + k))) ∧ M 1 6 + SG (fun k => hbR (M (1 + 1 + 1 + k))) c = M 1 7 + SG (fun k => M (1 + 1 + 1 + k) 2) c
/-- all but the probe is as it was -/
def EQP (M0 M : Mem) : Prop := ∀ p, p ≠ 123 → M p = M0 p
theorem EQP.rf (M : Mem) : EQP M M := fun _ _ => rfl
theorem EQP.trans {M0 M1 M2 : Mem} (h1 : EQP M0 M1) (h2 : EQP M1 M2) : EQP M0 M2 := fun p hp => (h2 p hp).trans (h1 p hp)
theorem INV.rows {mx : Nat} {M0 M : Mem} (h : INV mx M0) (hE : ∀ p, 1 ≤ p → p ≤ 8 → M p = M0 p) : INV mx M := by
  obtain ⟨c, hc, h1, h2, h3, h4, h5, h6, h7, h8⟩ := h
  have e1 := hE 1 (by decide) (by decide)
  have ek : ∀ k, k < c → M (1 + 1 + 1 + k) = M0 (1 + 1 + 1 + k) := fun k hk => hE _ (by omega) (by omega)
  refine ⟨c, hc, ?_⟩
  rw [e1, SG_congr (g := fun k => hbR (M0 (1 + 1 + 1 + k))) (g' := fun k => hbR (M (1 + 1 + 1 + k))) (fun k hk => by show hbR _ = hbR _; rw [ek k hk]), SG_congr (g := fun k => M0 (1 + 1 + 1 + k) 2) (g' := fun k => M (1 + 1 + 1 + k) 2) (fun k hk => by show M _ 2 = M0 _ 2; rw [ek k hk])]
  exact ⟨h1, h2, h3, h4, h5, h6, fun k hk => by rw [ek k hk]; exact h7 k hk, h8⟩
theorem INV.eqp {mx : Nat} {M0 M : Mem} (h : INV mx M0) (hE : EQP M0 M) : INV mx M := h.rows (fun p _ h8 => hE p (by omega))
theorem inv_cnt {mx : Nat} {M : Mem} (h : INV mx M) : CNT M 1 := by
  obtain ⟨c, hc, h1, -⟩ := h
  exact ⟨c, hc, h1⟩
theorem here_sum {M : Mem} {c : Nat} (h1 : M 1 1 = nI c) (hc : c ≤ 6) : ∀ (k : Nat) (u : Int32) (j : Nat), j ≤ c → 7 ≤ j + k → LX4_hairsHere_7f 1 k M u j = u + (SG (fun k => hbR (M (1 + 1 + 1 + k))) c - SG (fun k => hbR (M (1 + 1 + 1 + k))) j) := by
  intro k
  induction k with
  | zero => intro u j hj hk; omega
  | succ k ih =>
    intro u j hj hk
    rw [LX4_hairsHere_7f, h1]
    by_cases hjc : j = c
    · subst hjc
      rw [if_pos (by rw [nI_leI (by omega) (by omega)]; omega)]
      grind
    · rw [if_neg (nI_ge (by omega) (by omega)), ih _ _ (by omega) (by omega), SG]
      show u + hbR (M (1 + 1 + 1 + j)) + _ = _
      grind
theorem came_sum {M : Mem} {c : Nat} (h1 : M 1 1 = nI c) (hc : c ≤ 6) : ∀ (k : Nat) (u : Int32) (j : Nat), j ≤ c → 7 ≤ j + k → LX4_hairsThatCame_7f 1 k M u j = u + (SG (fun k => M (1 + 1 + 1 + k) 2) c - SG (fun k => M (1 + 1 + 1 + k) 2) j) := by
  intro k
  induction k with
  | zero => intro u j hj hk; omega
  | succ k ih =>
    intro u j hj hk
    rw [LX4_hairsThatCame_7f, h1]
    by_cases hjc : j = c
    · subst hjc
      rw [if_pos (by rw [nI_leI (by omega) (by omega)]; omega)]
      grind
    · rw [if_neg (nI_ge (by omega) (by omega)), ih _ _ (by omega) (by omega), SG]
      show u + M (1 + 1 + 1 + j) 2 + _ = _
      grind
theorem inv_hd {mx : Nat} {M : Mem} (h : INV mx M) : fX7_hairDifference M = 0 := by
  obtain ⟨c, hc, h1, -, -, -, -, -, -, h8⟩ := h
  unfold fX7_hairDifference fX4_hairsHere fX4_hairsThatCame
  rw [here_sum h1 hc _ _ _ (by omega) (by omega), came_sum h1 hc _ _ _ (by omega) (by omega), SG, SG]
  have e : M 1 6 + (SG (fun k => hbR (M (1 + 1 + 1 + k))) c - 0) - (M 1 7 + (SG (fun k => M (1 + 1 + 1 + k) 2) c - 0)) = 0 := by grind
  rw [e]
  rfl
/-! one instrument -/
/-- the place of an instrument -/
abbrev pl (x : Int32) : Nat := 1 + 1 + 1 + x.toNatClampNeg
def I1 (M : Mem) (x : Int32) : Prop := IOK (M (pl x)) ∧ UB (M 1 3) 100 ∧ UB (M 1 4) 40
theorem inv_i1 {mx c j : Nat} {M : Mem} (h : INV mx M) (h1 : M 1 1 = nI c) (hc6 : c ≤ 6) (hj : j < c) : I1 M (nI j) := by
  obtain ⟨c', hc', h1', -, h3, h4, -, -, h7, -⟩ := h
  have hj6 : j < c' := by
    rw [h1] at h1'
    have e := congrArg Int32.toNatClampNeg h1'
    rw [nI_clamp (by omega), nI_clamp (by omega)] at e
    omega
  exact ⟨by show IOK (M (1 + 1 + 1 + (nI j).toNatClampNeg)); rw [nI_clamp (by omega)]; exact h7 j hj6, h3, h4⟩
def outF (M : Mem) (x : Int32) : Int32 := if fX7_boxOf M x = (-1) then 1 else 0
theorem outF_0 {M : Mem} {x : Int32} (h : ¬ fX7_boxOf M x = (-1)) : outF M x = 0 := by unfold outF; rw [if_neg h]
theorem outF_1 {M : Mem} {x : Int32} (h : fX7_boxOf M x = (-1)) : outF M x = 1 := by unfold outF; rw [if_pos h]
theorem outF_box {M : Mem} {x : Int32} (h : outF M x = 0) : ¬ fX7_boxOf M x = (-1) := fun e => by rw [outF_1 e] at h; exact absurd h (by decide)
theorem outF_out {M : Mem} {x : Int32} (h : ¬ outF M x = 0) : fX7_boxOf M x = (-1) := by
  by_cases e : fX7_boxOf M x = (-1)
  · exact e
  · exact absurd (outF_0 e) h
theorem nI_100 {j : Nat} (h : j < 6) : (nI j).toNatClampNeg < 100 := by rw [nI_clamp (by omega)]; omega
theorem bx_in {v : Int32} (h : BX v) (hn : ¬ v = (-1)) : ¬ v < 0 ∧ ¬ (4 : Int32) ≤ v ∧ v.toNatClampNeg < 4 := by
  obtain ⟨k, hk, rfl⟩ := h.resolve_left hn
  exact ⟨nI_pos (by omega), by rw [show (4 : Int32) = nI 4 from rfl, nI_leI (by omega) (by omega)]; omega, by rw [nI_clamp (by omega)]; omega⟩
theorem fpV_ub (j : Nat) : UB (fpV j) 100 := by
  unfold fpV
  split
  · exact ⟨33, by decide, rfl⟩
  · exact ⟨43, by decide, rfl⟩
  · exact ⟨75, by decide, rfl⟩
  · exact ⟨97, by decide, rfl⟩
theorem sur_ub {M : Mem} {o : Nat} (h3 : UB (M 1 3) 100) : UB (fX4_surrounding M 1 o) 100 := by
  unfold fX4_surrounding fX7_fixedPointOr
  split
  · exact h3
  · split
    · exact h3
    · exact fpV_ub _
theorem fp_t0 {M : Mem} {x : Int32} (hI : I1 M x) (h : ¬ fX7_boxOf M x = (-1)) : tX7_fixedPoint M (fX7_boxOf M x) = 0 := by
  obtain ⟨h0, h4, -⟩ := bx_in hI.1.2.2.2.2.1 h
  have h0 : ¬ fX7_boxOf M x < 0 := h0
  have h4 : ¬ 4 ≤ fX7_boxOf M x := h4
  unfold tX7_fixedPoint fX7_isSalt
  rw [if_neg h0, if_neg h4, if_neg (by decide)]
theorem sur_box {M : Mem} {x : Int32} (hI : I1 M x) (h : outF M x = 0) : fX7_fixedPoint M (fX7_boxOf M x) = fX7_surroundingOf M x := by
  obtain ⟨h0, h4, -⟩ := bx_in hI.1.2.2.2.2.1 (outF_box h)
  have h0 : ¬ fX7_boxOf M x < 0 := h0
  have h4 : ¬ 4 ≤ fX7_boxOf M x := h4
  have e : fX7_surroundingOf M x = (if fX7_boxOf M x < 0 then M 1 3 else if 4 ≤ fX7_boxOf M x then M 1 3 else fpV (fX7_boxOf M x).toNatClampNeg) := rfl
  rw [e]
  unfold fX7_fixedPoint fX7_isSalt fX7_fixedPointOr
  rw [if_neg h0, if_neg h4, if_neg (by decide), if_neg h0, if_neg h4, if_neg h0, if_neg h4]
theorem sur_out {M : Mem} {x : Int32} (h : ¬ outF M x = 0) : fX7_humidity M = fX7_surroundingOf M x := by
  have e : M (pl x) 8 = -1 := outF_out h
  unfold fX7_humidity fX7_surroundingOf fX4_surrounding fX7_fixedPointOr
  rw [e, if_pos (by decide)]
theorem hair_w {M : Mem} {x : Int32} (hI : I1 M x) (h : ¬ bv (M (pl x) 0) = 0) : M (pl x) 6 = 0 := hI.1.2.2.2.2.2.2 h
theorem ub_le0 {x : Int32} {N : Nat} (h : UB x N) (hN : N < 2 ^ 31 := by decide) : x ≤ 0 ↔ x = 0 := by
  obtain ⟨k, hk, rfl⟩ := h
  constructor
  · intro h
    rw [show (0 : Int32) = nI 0 from rfl, nI_leI (by omega) (by omega)] at h
    rw [show k = 0 by omega]; rfl
  · intro h
    rw [h]; decide
theorem water_le {M : Mem} {x : Int32} (hI : I1 M x) : fX7_waterOf M x ≤ 0 ↔ M (pl x) 6 = 0 := by
  unfold fX7_waterOf
  by_cases hb : bv (M (pl x) 0) = 0
  · rw [if_pos hb]; exact ub_le0 hI.1.2.2.2.1
  · rw [if_neg hb]; exact ⟨fun _ => hair_w hI hb, fun _ => by decide⟩
theorem dep_none {M : Mem} {x : Int32} (hI : I1 M x) (h : fX7_waterOf M x ≤ 0) : (0 : Int32) = fX4_depression M 1 (pl x) := by
  unfold fX4_depression
  rw [if_pos ((water_le hI).mp h)]
theorem dep_some {M : Mem} {x : Int32} (hI : I1 M x) (h : ¬ fX7_waterOf M x ≤ 0) : ((100 : Int32) - fX7_surroundingOf M x) * (fX7_temperature M + 10) / 100 = fX4_depression M 1 (pl x) := by
  unfold fX4_depression
  rw [if_neg (fun e => h ((water_le hI).mpr e))]
  rfl
theorem tmp10 {M : Mem} {x : Int32} (hI : I1 M x) : ¬ fX7_temperature M + (10 : Int32) = 0 := by
  obtain ⟨k, hk, e⟩ := hI.2.2
  show ¬ M 1 4 + 10 = 0
  rw [e, show (10 : Int32) = nI 10 from rfl, nI_add]
  exact nI_ne0 (by omega) (by omega)
theorem raw_bulb {M : Mem} {x : Int32} (hI : I1 M x) (h : fX7_isHair M x = 0) : (100 : Int32) - fX4_depression M 1 (pl x) * 100 / (fX7_temperature M + 10) = fX7_rawValue M x := by
  have ht : ¬ M 1 4 + 10 = 0 := tmp10 hI
  unfold fX7_rawValue fX4_raw fX7_quotient
  rw [if_pos (show bv (M (pl x) 0) = 0 from h), if_neg ht]
  rfl
theorem raw_hair {M : Mem} {x : Int32} (hI : I1 M x) (h : ¬ fX7_isHair M x = 0) : fX7_wetnessOf M x - fX7_slackOf M x / 5 = fX7_rawValue M x := by
  unfold fX7_rawValue fX4_raw fX7_wetnessOf fX7_slackOf
  rw [if_neg (show ¬ bv (M (pl x) 0) = 0 from h), if_neg (show ¬ bv (M (pl x) 0) = 0 from h), if_neg (show ¬ bv (M (pl x) 0) = 0 from h)]
theorem set_b0 {M : Mem} {x : Int32} (h : fX7_isHair M x = 0) (hw : fX7_waterOf M x ≤ 0) : (0 : Int32) = fX7_isSettled M x := by
  have h : bv (M (pl x) 0) = 0 := h
  unfold fX7_waterOf at hw
  rw [if_pos h] at hw
  unfold fX7_isSettled fX4_settled
  rw [if_pos h, if_pos hw]
theorem set_b1 {M : Mem} {x : Int32} (hI : I1 M x) (h : fX7_isHair M x = 0) (hw : ¬ fX7_waterOf M x ≤ 0) : (1 : Int32) = fX7_isSettled M x := by
  have h : bv (M (pl x) 0) = 0 := h
  unfold fX7_waterOf at hw
  rw [if_pos h] at hw
  unfold fX7_isSettled fX4_settled
  rw [if_pos h, if_neg hw]
theorem set_h0 {M : Mem} {x : Int32} (h : ¬ fX7_isHair M x = 0) (hw : ¬ fX7_wetnessOf M x = fX7_surroundingOf M x) : (0 : Int32) = fX7_isSettled M x := by
  have h : ¬ bv (M (pl x) 0) = 0 := h
  unfold fX7_wetnessOf at hw
  rw [if_neg h] at hw
  have hw : ¬ M (pl x) 4 = fX4_surrounding M 1 (pl x) := hw
  unfold fX7_isSettled fX4_settled
  rw [if_neg h, if_neg hw]
theorem set_h1 {M : Mem} {x : Int32} (h : ¬ fX7_isHair M x = 0) (hw : fX7_wetnessOf M x = fX7_surroundingOf M x) : (1 : Int32) = fX7_isSettled M x := by
  have h : ¬ bv (M (pl x) 0) = 0 := h
  unfold fX7_wetnessOf at hw
  rw [if_neg h] at hw
  have hw : M (pl x) 4 = fX4_surrounding M 1 (pl x) := hw
  unfold fX7_isSettled fX4_settled
  rw [if_neg h, if_pos hw]
theorem box0 {M : Mem} {x : Int32} (h : ¬ outF M x = 0) : fX1_isBoxed M (pl x) = 0 := by
  unfold fX1_isBoxed
  exact if_pos (outF_out h)
theorem box1 {M : Mem} {x : Int32} (h : outF M x = 0) : fX1_isBoxed M (pl x) = 1 := by
  unfold fX1_isBoxed
  exact if_neg (outF_box h)
theorem why_box {M : Mem} {x : Int32} (h : outF M x = 0) : (1 : Int32) = fX7_whyUnusable M x := by
  unfold fX7_whyUnusable fX1_flaw
  rw [box1 h]
  rfl
theorem m1z : ¬ (-1 : Int32) = 0 := by decide
theorem why_h0 {M : Mem} {x : Int32} (hI : I1 M x) (h : ¬ outF M x = 0) (h2 : fX7_hairsOf M x = 0) : (2 : Int32) = fX7_whyUnusable M x := by
  unfold fX7_whyUnusable fX1_flaw
  unfold fX7_hairsOf at h2
  rw [box0 h, if_pos rfl]
  by_cases hb : bv (M (pl x) 0) = 0
  · rw [if_pos hb] at h2; exact absurd h2 m1z
  · rw [if_neg hb] at h2
    rw [if_neg hb, if_pos h2]
theorem why_w0 {M : Mem} {x : Int32} (hI : I1 M x) (h : ¬ outF M x = 0) (h2 : ¬ fX7_hairsOf M x = 0) (h3 : fX7_waterOf M x = 0) : (2 : Int32) = fX7_whyUnusable M x := by
  unfold fX7_whyUnusable fX1_flaw
  unfold fX7_waterOf at h3
  rw [box0 h, if_pos rfl]
  by_cases hb : bv (M (pl x) 0) = 0
  · rw [if_pos hb] at h3
    rw [if_pos hb, if_pos h3]
  · rw [if_neg hb] at h3; exact absurd h3 m1z
theorem why_ok {M : Mem} {x : Int32} (hI : I1 M x) (h : ¬ outF M x = 0) (h2 : ¬ fX7_hairsOf M x = 0) (h3 : ¬ fX7_waterOf M x = 0) (h4 : fX7_slackOf M x ≤ 25) : (0 : Int32) = fX7_whyUnusable M x := by
  unfold fX7_whyUnusable fX1_flaw
  unfold fX7_waterOf at h3
  unfold fX7_hairsOf at h2
  unfold fX7_slackOf at h4
  rw [box0 h, if_pos rfl]
  by_cases hb : bv (M (pl x) 0) = 0
  · rw [if_pos hb] at h3
    rw [if_pos hb, if_neg h3, if_pos (by rw [hI.1.2.2.2.2.2.1 hb]; decide)]
  · rw [if_neg hb] at h2 h4
    rw [if_neg hb, if_neg h2, if_pos h4]
theorem why_sl {M : Mem} {x : Int32} (hI : I1 M x) (h : ¬ outF M x = 0) (h2 : ¬ fX7_hairsOf M x = 0) (h3 : ¬ fX7_waterOf M x = 0) (h4 : ¬ fX7_slackOf M x ≤ 25) : (3 : Int32) = fX7_whyUnusable M x := by
  unfold fX7_whyUnusable fX1_flaw
  unfold fX7_hairsOf at h2
  unfold fX7_slackOf at h4
  rw [box0 h, if_pos rfl]
  by_cases hb : bv (M (pl x) 0) = 0
  · rw [if_pos hb] at h4; exact absurd (by decide) h4
  · rw [if_neg hb] at h2 h4
    rw [if_neg hb, if_neg h2, if_neg h4]
theorem wt_0 {M : Mem} {x : Int32} (h : ¬ fX7_whyUnusable M x = 0) : (0 : Int32) = fX7_weightOf M x := by
  have h : ¬ fX1_flaw M (pl x) = 0 := h
  unfold fX7_weightOf fX1_weight
  rw [if_neg h]
theorem wt_b {M : Mem} {x : Int32} (h : fX7_whyUnusable M x = 0) (h2 : fX7_isHair M x = 0) : (5 : Int32) = fX7_weightOf M x := by
  have h : fX1_flaw M (pl x) = 0 := h
  unfold fX7_weightOf fX1_weight
  rw [if_pos h, if_pos (show bv (M (pl x) 0) = 0 from h2)]
theorem wt_h {M : Mem} {x : Int32} (h : fX7_whyUnusable M x = 0) (h2 : ¬ fX7_isHair M x = 0) : fX7_hairsOf M x = fX7_weightOf M x := by
  have h : fX1_flaw M (pl x) = 0 := h
  unfold fX7_weightOf fX1_weight fX7_hairsOf
  rw [if_pos h, if_neg (show ¬ bv (M (pl x) 0) = 0 from h2), if_neg (show ¬ bv (M (pl x) 0) = 0 from h2)]
theorem depOf_b {M : Mem} {x : Int32} (h : fX7_isHair M x = 0) : fX4_depression M 1 (pl x) = fX7_depressionOf M x := by
  unfold fX7_depressionOf
  rw [if_pos (show bv (M (pl x) 0) = 0 from h)]
theorem depOf_h {M : Mem} {x : Int32} (h : ¬ fX7_isHair M x = 0) : (-1 : Int32) = fX7_depressionOf M x := by
  unfold fX7_depressionOf
  rw [if_neg (show ¬ bv (M (pl x) 0) = 0 from h)]
theorem ob2_1 {M : Mem} {x : Int32} (h : ¬ outF M x = 0) : (1 : Int32) = fX7_calibrationObstacle M x := by
  unfold fX7_calibrationObstacle fX4_obstacle
  rw [box0 h, if_pos rfl]
theorem ob2_2 {M : Mem} {x : Int32} (h : outF M x = 0) (h2 : fX7_isSettled M x = 0) : (2 : Int32) = fX7_calibrationObstacle M x := by
  have h2 : fX4_settled M 1 (pl x) = 0 := h2
  unfold fX7_calibrationObstacle fX4_obstacle
  rw [box1 h, if_neg (by decide), if_pos h2]
theorem ob2_0 {M : Mem} {x : Int32} (h : outF M x = 0) (h2 : ¬ fX7_isSettled M x = 0) : (0 : Int32) = fX7_calibrationObstacle M x := by
  have h2 : ¬ fX4_settled M 1 (pl x) = 0 := h2
  unfold fX7_calibrationObstacle fX4_obstacle
  rw [box1 h, if_neg (by decide), if_neg h2]
def two (B A : Nat → Int32) : Mem := fun p => match p with
  | 1 => B
  | _ => A
theorem ob_isHair {M M1 : Mem} {x : Int32} (h : EQP M M1) (hx : x.toNatClampNeg < 100) : fX7_isHair M1 x = fX7_isHair M x := by
  have e1 : M1 1 = M 1 := h 1 (by decide)
  have e2 : M1 (1 + 1 + 1 + x.toNatClampNeg) = M (1 + 1 + 1 + x.toNatClampNeg) := h _ (by omega)
  simp only [fX7_isHair, fX4_depression, fX4_surrounding, fX4_raw, fX4_reading, fX4_settled, fX4_obstacle, fX1_flaw, fX1_weight, fX1_isBoxed, fX7_fixedPointOr, fX7_quotient]
  (try rw [e1])
  (try rw [e2])
theorem ob_hairsOf {M M1 : Mem} {x : Int32} (h : EQP M M1) (hx : x.toNatClampNeg < 100) : fX7_hairsOf M1 x = fX7_hairsOf M x := by
  have e1 : M1 1 = M 1 := h 1 (by decide)
  have e2 : M1 (1 + 1 + 1 + x.toNatClampNeg) = M (1 + 1 + 1 + x.toNatClampNeg) := h _ (by omega)
  simp only [fX7_hairsOf, fX4_depression, fX4_surrounding, fX4_raw, fX4_reading, fX4_settled, fX4_obstacle, fX1_flaw, fX1_weight, fX1_isBoxed, fX7_fixedPointOr, fX7_quotient]
  (try rw [e1])
  (try rw [e2])
theorem ob_brokenOf {M M1 : Mem} {x : Int32} (h : EQP M M1) (hx : x.toNatClampNeg < 100) : fX7_brokenOf M1 x = fX7_brokenOf M x := by
  have e1 : M1 1 = M 1 := h 1 (by decide)
  have e2 : M1 (1 + 1 + 1 + x.toNatClampNeg) = M (1 + 1 + 1 + x.toNatClampNeg) := h _ (by omega)
  simp only [fX7_brokenOf, fX4_depression, fX4_surrounding, fX4_raw, fX4_reading, fX4_settled, fX4_obstacle, fX1_flaw, fX1_weight, fX1_isBoxed, fX7_fixedPointOr, fX7_quotient]
  (try rw [e1])
  (try rw [e2])
theorem ob_wetnessOf {M M1 : Mem} {x : Int32} (h : EQP M M1) (hx : x.toNatClampNeg < 100) : fX7_wetnessOf M1 x = fX7_wetnessOf M x := by
  have e1 : M1 1 = M 1 := h 1 (by decide)
  have e2 : M1 (1 + 1 + 1 + x.toNatClampNeg) = M (1 + 1 + 1 + x.toNatClampNeg) := h _ (by omega)
  simp only [fX7_wetnessOf, fX4_depression, fX4_surrounding, fX4_raw, fX4_reading, fX4_settled, fX4_obstacle, fX1_flaw, fX1_weight, fX1_isBoxed, fX7_fixedPointOr, fX7_quotient]
  (try rw [e1])
  (try rw [e2])
theorem ob_slackOf {M M1 : Mem} {x : Int32} (h : EQP M M1) (hx : x.toNatClampNeg < 100) : fX7_slackOf M1 x = fX7_slackOf M x := by
  have e1 : M1 1 = M 1 := h 1 (by decide)
  have e2 : M1 (1 + 1 + 1 + x.toNatClampNeg) = M (1 + 1 + 1 + x.toNatClampNeg) := h _ (by omega)
  simp only [fX7_slackOf, fX4_depression, fX4_surrounding, fX4_raw, fX4_reading, fX4_settled, fX4_obstacle, fX1_flaw, fX1_weight, fX1_isBoxed, fX7_fixedPointOr, fX7_quotient]
  (try rw [e1])
  (try rw [e2])
theorem ob_waterOf {M M1 : Mem} {x : Int32} (h : EQP M M1) (hx : x.toNatClampNeg < 100) : fX7_waterOf M1 x = fX7_waterOf M x := by
  have e1 : M1 1 = M 1 := h 1 (by decide)
  have e2 : M1 (1 + 1 + 1 + x.toNatClampNeg) = M (1 + 1 + 1 + x.toNatClampNeg) := h _ (by omega)
  simp only [fX7_waterOf, fX4_depression, fX4_surrounding, fX4_raw, fX4_reading, fX4_settled, fX4_obstacle, fX1_flaw, fX1_weight, fX1_isBoxed, fX7_fixedPointOr, fX7_quotient]
  (try rw [e1])
  (try rw [e2])
theorem ob_depressionOf {M M1 : Mem} {x : Int32} (h : EQP M M1) (hx : x.toNatClampNeg < 100) : fX7_depressionOf M1 x = fX7_depressionOf M x := by
  have e1 : M1 1 = M 1 := h 1 (by decide)
  have e2 : M1 (1 + 1 + 1 + x.toNatClampNeg) = M (1 + 1 + 1 + x.toNatClampNeg) := h _ (by omega)
  simp only [fX7_depressionOf, fX4_depression, fX4_surrounding, fX4_raw, fX4_reading, fX4_settled, fX4_obstacle, fX1_flaw, fX1_weight, fX1_isBoxed, fX7_fixedPointOr, fX7_quotient]
  (try rw [e1])
  (try rw [e2])
theorem ob_zeroOf {M M1 : Mem} {x : Int32} (h : EQP M M1) (hx : x.toNatClampNeg < 100) : fX7_zeroOf M1 x = fX7_zeroOf M x := by
  have e1 : M1 1 = M 1 := h 1 (by decide)
  have e2 : M1 (1 + 1 + 1 + x.toNatClampNeg) = M (1 + 1 + 1 + x.toNatClampNeg) := h _ (by omega)
  simp only [fX7_zeroOf, fX4_depression, fX4_surrounding, fX4_raw, fX4_reading, fX4_settled, fX4_obstacle, fX1_flaw, fX1_weight, fX1_isBoxed, fX7_fixedPointOr, fX7_quotient]
  (try rw [e1])
  (try rw [e2])
theorem ob_boxOf {M M1 : Mem} {x : Int32} (h : EQP M M1) (hx : x.toNatClampNeg < 100) : fX7_boxOf M1 x = fX7_boxOf M x := by
  have e1 : M1 1 = M 1 := h 1 (by decide)
  have e2 : M1 (1 + 1 + 1 + x.toNatClampNeg) = M (1 + 1 + 1 + x.toNatClampNeg) := h _ (by omega)
  simp only [fX7_boxOf, fX4_depression, fX4_surrounding, fX4_raw, fX4_reading, fX4_settled, fX4_obstacle, fX1_flaw, fX1_weight, fX1_isBoxed, fX7_fixedPointOr, fX7_quotient]
  (try rw [e1])
  (try rw [e2])
theorem ob_surroundingOf {M M1 : Mem} {x : Int32} (h : EQP M M1) (hx : x.toNatClampNeg < 100) : fX7_surroundingOf M1 x = fX7_surroundingOf M x := by
  have e1 : M1 1 = M 1 := h 1 (by decide)
  have e2 : M1 (1 + 1 + 1 + x.toNatClampNeg) = M (1 + 1 + 1 + x.toNatClampNeg) := h _ (by omega)
  simp only [fX7_surroundingOf, fX4_depression, fX4_surrounding, fX4_raw, fX4_reading, fX4_settled, fX4_obstacle, fX1_flaw, fX1_weight, fX1_isBoxed, fX7_fixedPointOr, fX7_quotient]
  (try rw [e1])
  (try rw [e2])
theorem ob_rawValue {M M1 : Mem} {x : Int32} (h : EQP M M1) (hx : x.toNatClampNeg < 100) : fX7_rawValue M1 x = fX7_rawValue M x := by
  have e1 : M1 1 = M 1 := h 1 (by decide)
  have e2 : M1 (1 + 1 + 1 + x.toNatClampNeg) = M (1 + 1 + 1 + x.toNatClampNeg) := h _ (by omega)
  simp only [fX7_rawValue, fX4_depression, fX4_surrounding, fX4_raw, fX4_reading, fX4_settled, fX4_obstacle, fX1_flaw, fX1_weight, fX1_isBoxed, fX7_fixedPointOr, fX7_quotient]
  (try rw [e1])
  (try rw [e2])
theorem ob_readingOf {M M1 : Mem} {x : Int32} (h : EQP M M1) (hx : x.toNatClampNeg < 100) : fX7_readingOf M1 x = fX7_readingOf M x := by
  have e1 : M1 1 = M 1 := h 1 (by decide)
  have e2 : M1 (1 + 1 + 1 + x.toNatClampNeg) = M (1 + 1 + 1 + x.toNatClampNeg) := h _ (by omega)
  simp only [fX7_readingOf, fX4_depression, fX4_surrounding, fX4_raw, fX4_reading, fX4_settled, fX4_obstacle, fX1_flaw, fX1_weight, fX1_isBoxed, fX7_fixedPointOr, fX7_quotient]
  (try rw [e1])
  (try rw [e2])
theorem ob_errorOf {M M1 : Mem} {x : Int32} (h : EQP M M1) (hx : x.toNatClampNeg < 100) : fX7_errorOf M1 x = fX7_errorOf M x := by
  have e1 : M1 1 = M 1 := h 1 (by decide)
  have e2 : M1 (1 + 1 + 1 + x.toNatClampNeg) = M (1 + 1 + 1 + x.toNatClampNeg) := h _ (by omega)
  simp only [fX7_errorOf, fX4_depression, fX4_surrounding, fX4_raw, fX4_reading, fX4_settled, fX4_obstacle, fX1_flaw, fX1_weight, fX1_isBoxed, fX7_fixedPointOr, fX7_quotient]
  (try rw [e1])
  (try rw [e2])
theorem ob_isSettled {M M1 : Mem} {x : Int32} (h : EQP M M1) (hx : x.toNatClampNeg < 100) : fX7_isSettled M1 x = fX7_isSettled M x := by
  have e1 : M1 1 = M 1 := h 1 (by decide)
  have e2 : M1 (1 + 1 + 1 + x.toNatClampNeg) = M (1 + 1 + 1 + x.toNatClampNeg) := h _ (by omega)
  show fX4_settled (two (M1 1) (M1 (1 + 1 + 1 + x.toNatClampNeg))) 1 0 = fX4_settled (two (M 1) (M (1 + 1 + 1 + x.toNatClampNeg))) 1 0
  rw [e1, e2]
theorem ob_whyUnusable {M M1 : Mem} {x : Int32} (h : EQP M M1) (hx : x.toNatClampNeg < 100) : fX7_whyUnusable M1 x = fX7_whyUnusable M x := by
  have e1 : M1 1 = M 1 := h 1 (by decide)
  have e2 : M1 (1 + 1 + 1 + x.toNatClampNeg) = M (1 + 1 + 1 + x.toNatClampNeg) := h _ (by omega)
  show fX1_flaw (two (M1 1) (M1 (1 + 1 + 1 + x.toNatClampNeg))) 0 = fX1_flaw (two (M 1) (M (1 + 1 + 1 + x.toNatClampNeg))) 0
  rw [e1, e2]
theorem ob_weightOf {M M1 : Mem} {x : Int32} (h : EQP M M1) (hx : x.toNatClampNeg < 100) : fX7_weightOf M1 x = fX7_weightOf M x := by
  have e1 : M1 1 = M 1 := h 1 (by decide)
  have e2 : M1 (1 + 1 + 1 + x.toNatClampNeg) = M (1 + 1 + 1 + x.toNatClampNeg) := h _ (by omega)
  show fX1_weight (two (M1 1) (M1 (1 + 1 + 1 + x.toNatClampNeg))) 0 = fX1_weight (two (M 1) (M (1 + 1 + 1 + x.toNatClampNeg))) 0
  rw [e1, e2]
theorem ob_calibrationObstacle {M M1 : Mem} {x : Int32} (h : EQP M M1) (hx : x.toNatClampNeg < 100) : fX7_calibrationObstacle M1 x = fX7_calibrationObstacle M x := by
  have e1 : M1 1 = M 1 := h 1 (by decide)
  have e2 : M1 (1 + 1 + 1 + x.toNatClampNeg) = M (1 + 1 + 1 + x.toNatClampNeg) := h _ (by omega)
  show fX4_obstacle (two (M1 1) (M1 (1 + 1 + 1 + x.toNatClampNeg))) 1 0 = fX4_obstacle (two (M 1) (M (1 + 1 + 1 + x.toNatClampNeg))) 1 0
  rw [e1, e2]
