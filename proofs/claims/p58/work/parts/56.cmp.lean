/-! the comparisons, as the law reckons them from instrument to instrument, beside the class's own -/
theorem xmin_eq (x y : Int32) : xmin x y = if x ≤ y then x else y := by
  unfold xmin
  by_cases h : y < x
  · rw [if_pos h, if_neg (Int32.not_le.mpr h)]
  · rw [if_neg h, if_pos (Int32.not_lt.mp h)]
theorem xmax_eq (x y : Int32) : xmax x y = if y ≤ x then x else y := by
  unfold xmax
  by_cases h : x < y
  · rw [if_pos h, if_neg (Int32.not_le.mpr h)]
  · rw [if_neg h, if_pos (Int32.not_lt.mp h)]
theorem clip_eq (v : Int32) : xmax 0 (xmin 100 v) = if 0 ≤ v then (if v ≤ 100 then v else 100) else 0 := by
  unfold xmax xmin
  by_cases h1 : v < 100
  · rw [if_pos h1]
    by_cases h2 : 0 < v
    · rw [if_pos h2, if_pos (Int32.le_of_lt h2), if_pos (Int32.le_of_lt h1)]
    · rw [if_neg h2]
      by_cases h3 : 0 ≤ v
      · rw [if_pos h3, if_pos (Int32.le_of_lt h1)]
        exact Int32.le_antisymm h3 (Int32.not_lt.mp h2)
      · rw [if_neg h3]
  · rw [if_neg h1, if_pos (by decide), if_pos (Int32.le_trans (by decide) (Int32.not_lt.mp h1))]
    by_cases h3 : v ≤ 100
    · rw [if_pos h3]
      exact Int32.le_antisymm (Int32.not_lt.mp h1) h3
    · rw [if_neg h3]
theorem rd_100 (M : Mem) (x : Int32) : UB (fX7_readingOf M x) 100 := by
  unfold fX7_readingOf fX4_reading
  rw [clip_eq]
  split
  · rename_i h0
    split
    · rename_i h1
      exact ub_le (N := 100) (fun h => absurd h0 (Int32.not_le.mpr h)) h1 rfl
    · exact ⟨100, by decide, rfl⟩
  · exact ⟨0, by decide, rfl⟩
/-- the span so far: u instruments were usable -/
def SPN (u : Nat) (lo hi : Int32) : Prop := ∃ a b, a ≤ 100 ∧ b ≤ 100 ∧ lo = nI a ∧ hi = nI b ∧ (u = 0 → a = 100 ∧ b = 0) ∧ (u = 1 → a = b) ∧ (2 ≤ u → a ≤ b)
theorem nI_max {a b : Nat} (ha : a ≤ 100) (hb : b ≤ 100) : xmax (nI a) (nI b) = nI (max a b) := by
  rw [xmax_eq]
  by_cases h : b ≤ a
  · rw [if_pos (by rw [nI_leI (by omega) (by omega)]; exact h), Nat.max_eq_left h]
  · rw [if_neg (by rw [nI_leI (by omega) (by omega)]; exact h), Nat.max_eq_right (by omega)]
theorem nI_min {a b : Nat} (ha : a ≤ 100) (hb : b ≤ 100) : xmin (nI a) (nI b) = nI (min a b) := by
  rw [xmin_eq]
  by_cases h : a ≤ b
  · rw [if_pos (by rw [nI_leI (by omega) (by omega)]; exact h), Nat.min_eq_left h]
  · rw [if_neg (by rw [nI_leI (by omega) (by omega)]; exact h), Nat.min_eq_right (by omega)]
theorem spn_step {u : Nat} {lo hi v : Int32} (h : SPN u lo hi) (hv : UB v 100) : SPN (u + 1) (xmin lo v) (xmax hi v) := by
  obtain ⟨a, b, ha, hb, rfl, rfl, h0, h1, h2⟩ := h
  obtain ⟨d, hd, rfl⟩ := hv
  refine ⟨min a d, max b d, by omega, by omega, nI_min ha hd, nI_max hb hd, fun h => by omega, fun h => ?_, fun h => ?_⟩
  · have := h0 (by omega); omega
  · rcases Nat.lt_or_ge u 2 with h3 | h3
    · have := h1 (by omega); omega
    · have := h2 h3; omega
theorem spn_end {u : Nat} {lo hi : Int32} (h : SPN u lo hi) (hu : u ≤ 6) : xmax 0 (hi - lo) = if (2 : Int32) ≤ nI u then hi - lo else 0 := by
  obtain ⟨a, b, ha, hb, rfl, rfl, h0, h1, h2⟩ := h
  rw [show (2 : Int32) = nI 2 from rfl]
  by_cases hu2 : 2 ≤ u
  · have hab := h2 hu2
    rw [if_pos (by rw [nI_leI (by omega) (by omega)]; exact hu2), pk_sub hab]
    have := nI_max (a := 0) (b := b - a) (by omega) (by omega)
    rw [show (0 : Int32) = nI 0 from rfl, this, Nat.max_eq_right (by omega)]
  · rw [if_neg (by rw [nI_leI (by omega) (by omega)]; exact hu2)]
    rcases (by omega : u = 0 ∨ u = 1) with e | e
    · obtain ⟨e1, e2⟩ := h0 e
      rw [e1, e2]; decide
    · rw [h1 e, pk_sub (Nat.le_refl _), Nat.sub_self]; decide
theorem ub_plus {x y : Int32} {A B L : Nat} (hx : UB x A) (hy : UB y B) (h : A + B ≤ L) : UB (x + y) L := by
  obtain ⟨a, ha, rfl⟩ := hx
  obtain ⟨c, hc, rfl⟩ := hy
  exact ⟨a + c, by omega, nI_add _ _⟩
def goodF (M : Mem) (x : Int32) : Int32 := if fX7_whyUnusable M x = 0 then 1 else 0
theorem goodF_0 {M : Mem} {x : Int32} (h : ¬ fX7_whyUnusable M x = 0) : goodF M x = 0 := if_neg h
theorem goodF_1 {M : Mem} {x : Int32} (h : fX7_whyUnusable M x = 0) : goodF M x = 1 := if_pos h
theorem goodF_n {M : Mem} {x : Int32} (h : ¬ goodF M x = 0) : goodF M x = 1 := by
  by_cases e : fX7_whyUnusable M x = 0
  · exact goodF_1 e
  · exact absurd (goodF_0 e) h
theorem goodF_p {M : Mem} {x : Int32} (h : ¬ goodF M x = 0) : fX7_whyUnusable M x = 0 := by
  by_cases e : fX7_whyUnusable M x = 0
  · exact e
  · exact absurd (goodF_0 e) h
theorem goodF_z {M : Mem} {x : Int32} (h : goodF M x = 0) : ¬ fX7_whyUnusable M x = 0 := fun e => by rw [goodF_1 e] at h; exact absurd h (by decide)
def disF (M : Mem) (x : Int32) : Int32 := if fX7_boxOf M x < 0 then 0 else if fX7_isSettled M x = 0 then 0 else if fX7_errorOf M x = 0 then 0 else 1
def uS (M : Mem) : Nat → Int32
  | 0 => 0
  | j + 1 => uS M j + goodF M (nI j)
def sS (M : Mem) : Nat → Int32
  | 0 => 0
  | j + 1 => sS M j + fX7_readingOf M (nI j) * fX7_weightOf M (nI j)
def wS (M : Mem) : Nat → Int32
  | 0 => 0
  | j + 1 => wS M j + fX7_weightOf M (nI j)
def rS (M : Mem) : Nat → Int32
  | 0 => 0
  | j + 1 => rS M j + fX7_readingOf M (nI j)
def bS (M : Mem) : Nat → Int32
  | 0 => -1
  | j + 1 => if goodF M (nI j) = 0 then bS M j else if bS M j < 0 then nI j else if xabs (fX7_readingOf M (bS M j) - fX7_humidity M) ≤ xabs (fX7_readingOf M (nI j) - fX7_humidity M) then bS M j else nI j
def kS (M : Mem) : Nat → Int32
  | 0 => -1
  | j + 1 => if fX7_isHair M (nI j) = 0 then kS M j else if kS M j < 0 then nI j else if fX7_slackOf M (nI j) ≤ fX7_slackOf M (kS M j) then kS M j else nI j
def dS (M : Mem) : Nat → Int32
  | 0 => 0
  | j + 1 => dS M j + disF M (nI j)
def lS (M : Mem) : Nat → Int32
  | 0 => 100
  | j + 1 => if goodF M (nI j) = 0 then lS M j else xmin (lS M j) (fX7_readingOf M (nI j))
def mS (M : Mem) : Nat → Int32
  | 0 => 0
  | j + 1 => if goodF M (nI j) = 0 then mS M j else xmax (mS M j) (fX7_readingOf M (nI j))
theorem uS_s (M : Mem) (j : Nat) : uS M j + goodF M (nI j) = uS M (j + 1) := rfl
theorem sS_s (M : Mem) (j : Nat) : sS M j + fX7_readingOf M (nI j) * fX7_weightOf M (nI j) = sS M (j + 1) := rfl
theorem wS_s (M : Mem) (j : Nat) : wS M j + fX7_weightOf M (nI j) = wS M (j + 1) := rfl
theorem rS_s (M : Mem) (j : Nat) : rS M j + fX7_readingOf M (nI j) = rS M (j + 1) := rfl
theorem dS_s (M : Mem) (j : Nat) : dS M j + disF M (nI j) = dS M (j + 1) := rfl
theorem bS_a {M : Mem} {j : Nat} (h : goodF M (nI j) = 0) : bS M j = bS M (j + 1) := by rw [bS, if_pos h]
theorem bS_b {M : Mem} {j : Nat} (h : ¬ goodF M (nI j) = 0) (h1 : bS M j < 0) : nI j = bS M (j + 1) := by rw [bS, if_neg h, if_pos h1]
theorem bS_c {M : Mem} {j : Nat} (h : ¬ goodF M (nI j) = 0) (h1 : ¬ bS M j < 0) (h2 : xabs (fX7_readingOf M (bS M j) - fX7_humidity M) ≤ xabs (fX7_readingOf M (nI j) - fX7_humidity M)) : bS M j = bS M (j + 1) := by rw [bS, if_neg h, if_neg h1, if_pos h2]
theorem bS_d {M : Mem} {j : Nat} (h : ¬ goodF M (nI j) = 0) (h1 : ¬ bS M j < 0) (h2 : ¬ xabs (fX7_readingOf M (bS M j) - fX7_humidity M) ≤ xabs (fX7_readingOf M (nI j) - fX7_humidity M)) : nI j = bS M (j + 1) := by rw [bS, if_neg h, if_neg h1, if_neg h2]
theorem kS_a {M : Mem} {j : Nat} (h : fX7_isHair M (nI j) = 0) : kS M j = kS M (j + 1) := by rw [kS, if_pos h]
theorem kS_b {M : Mem} {j : Nat} (h : ¬ fX7_isHair M (nI j) = 0) (h1 : kS M j < 0) : nI j = kS M (j + 1) := by rw [kS, if_neg h, if_pos h1]
theorem kS_c {M : Mem} {j : Nat} (h : ¬ fX7_isHair M (nI j) = 0) (h1 : ¬ kS M j < 0) (h2 : fX7_slackOf M (nI j) ≤ fX7_slackOf M (kS M j)) : kS M j = kS M (j + 1) := by rw [kS, if_neg h, if_neg h1, if_pos h2]
theorem kS_d {M : Mem} {j : Nat} (h : ¬ fX7_isHair M (nI j) = 0) (h1 : ¬ kS M j < 0) (h2 : ¬ fX7_slackOf M (nI j) ≤ fX7_slackOf M (kS M j)) : nI j = kS M (j + 1) := by rw [kS, if_neg h, if_neg h1, if_neg h2]
theorem dis_a {M : Mem} {x : Int32} (h : fX7_boxOf M x < 0) : (0 : Int32) = disF M x := by unfold disF; rw [if_pos h]
theorem dis_b {M : Mem} {x : Int32} (h : ¬ fX7_boxOf M x < 0) (h1 : fX7_isSettled M x = 0) : (0 : Int32) = disF M x := by unfold disF; rw [if_neg h, if_pos h1]
theorem dis_c {M : Mem} {x : Int32} (h : ¬ fX7_boxOf M x < 0) (h1 : ¬ fX7_isSettled M x = 0) (h2 : fX7_errorOf M x = 0) : (0 : Int32) = disF M x := by unfold disF; rw [if_neg h, if_neg h1, if_pos h2]
theorem dis_d {M : Mem} {x : Int32} (h : ¬ fX7_boxOf M x < 0) (h1 : ¬ fX7_isSettled M x = 0) (h2 : ¬ fX7_errorOf M x = 0) : (1 : Int32) = disF M x := by unfold disF; rw [if_neg h, if_neg h1, if_neg h2]
theorem lS_a {M : Mem} {j : Nat} (h : goodF M (nI j) = 0) : lS M j = lS M (j + 1) := by rw [lS, if_pos h]
theorem lS_b {M : Mem} {j : Nat} (h : ¬ goodF M (nI j) = 0) : xmin (lS M j) (fX7_readingOf M (nI j)) = lS M (j + 1) := by rw [lS, if_neg h]
theorem mS_a {M : Mem} {j : Nat} (h : goodF M (nI j) = 0) : mS M j = mS M (j + 1) := by rw [mS, if_pos h]
theorem mS_b {M : Mem} {j : Nat} (h : ¬ goodF M (nI j) = 0) : xmax (mS M j) (fX7_readingOf M (nI j)) = mS M (j + 1) := by rw [mS, if_neg h]
theorem nI_neg {i : Nat} (h : i < 2 ^ 31) : ¬ nI i = (-1) := fun e => by
  have := congrArg Int32.toInt e
  rw [nI_toInt h] at this
  have h1 : (-1 : Int32).toInt = -1 := by decide
  omega
theorem bS_rng (M : Mem) : ∀ j, j ≤ 6 → bS M j = (-1) ∨ ∃ i, i < j ∧ bS M j = nI i := by
  intro j
  induction j with
  | zero => intro _; exact Or.inl rfl
  | succ j ih =>
    intro hj
    have h := ih (by omega)
    have h' : bS M j = (-1) ∨ ∃ i, i < j + 1 ∧ bS M j = nI i := h.imp id (fun ⟨i, a, e⟩ => ⟨i, by omega, e⟩)
    rw [bS]
    split
    · exact h'
    · split
      · exact Or.inr ⟨j, by omega, rfl⟩
      · split
        · exact h'
        · exact Or.inr ⟨j, by omega, rfl⟩
theorem kS_rng (M : Mem) : ∀ j, j ≤ 6 → kS M j = (-1) ∨ ∃ i, i < j ∧ kS M j = nI i ∧ ¬ fX7_isHair M (nI i) = 0 := by
  intro j
  induction j with
  | zero => intro _; exact Or.inl rfl
  | succ j ih =>
    intro hj
    have h := ih (by omega)
    have h' : kS M j = (-1) ∨ ∃ i, i < j + 1 ∧ kS M j = nI i ∧ ¬ fX7_isHair M (nI i) = 0 := h.imp id (fun ⟨i, a, e⟩ => ⟨i, by omega, e⟩)
    rw [kS]
    split
    · exact h'
    · rename_i hh
      split
      · exact Or.inr ⟨j, by omega, rfl, hh⟩
      · split
        · exact h'
        · exact Or.inr ⟨j, by omega, rfl, hh⟩
theorem bS_at {M : Mem} {c j : Nat} (h1 : M 1 1 = nI c) (hc : c ≤ 6) (hj : j < c) (h : ¬ bS M j < 0) : tX7_instrumentAt M (bS M j) = 0 := by
  rcases bS_rng M j (by omega) with e | ⟨i, hi, e⟩
  · rw [e] at h; exact absurd (by decide) h
  · rw [e]; exact t0_at h1 hc (by omega)
theorem kS_at {M : Mem} {c j : Nat} (h1 : M 1 1 = nI c) (hc : c ≤ 6) (hj : j < c) (h : ¬ kS M j < 0) : tX7_instrumentAt M (kS M j) = 0 := by
  rcases kS_rng M j (by omega) with e | ⟨i, hi, e, -⟩
  · rw [e] at h; exact absurd (by decide) h
  · rw [e]; exact t0_at h1 hc (by omega)
section ENDS
variable {M : Mem} {c : Nat}
theorem pl_nI {j : Nat} (hj : j < 100) : pl (nI j) = 1 + 1 + 1 + j := by show 1 + 1 + 1 + (nI j).toNatClampNeg = _; rw [nI_clamp (by omega)]
theorem us_end (h1 : M 1 1 = nI c) (hc : c ≤ 6) : ∀ (k j : Nat), j ≤ c → 7 ≤ j + k → LX4_countUsable_4f 1 k M (uS M j) j = uS M c := by
  intro k
  induction k with
  | zero => intro j hj hk; omega
  | succ k ih =>
    intro j hj hk
    rw [LX4_countUsable_4f, h1]
    by_cases hjc : j = c
    · subst hjc
      rw [if_pos (by rw [nI_leI (by omega) (by omega)]; omega)]
    · have hp : fX1_flaw M (1 + 1 + 1 + j) = fX7_whyUnusable M (nI j) := by rw [← pl_nI (by omega)]; rfl
      have e := ih (j + 1) (by omega) (by omega)
      rw [uS] at e
      rw [if_neg (nI_ge (by omega) (by omega)), hp]
      by_cases hg : fX7_whyUnusable M (nI j) = 0
      · rw [if_pos hg, ← e, goodF_1 hg]
      · rw [if_neg hg, ← e, goodF_0 hg]
        congr 1
        grind
theorem us_eq (h1 : M 1 1 = nI c) (hc : c ≤ 6) : fX7_usableInstruments M = uS M c := us_end h1 hc 7 0 (by omega) (by omega)
theorem bl_end (h1 : M 1 1 = nI c) (hc : c ≤ 6) : ∀ (k j : Nat), j ≤ c → 7 ≤ j + k → LX4_blended_6f 1 k M (sS M j) (wS M j) j = if wS M c = 0 then -1 else sS M c / wS M c := by
  intro k
  induction k with
  | zero => intro j hj hk; omega
  | succ k ih =>
    intro j hj hk
    rw [LX4_blended_6f, h1]
    by_cases hjc : j = c
    · subst hjc
      rw [if_pos (by rw [nI_leI (by omega) (by omega)]; omega)]
      unfold fX7_quotient
      by_cases hw : wS M j = 0
      · rw [if_pos hw, if_pos hw]
      · rw [if_neg hw, if_neg hw, if_neg hw]
    · have hp : fX1_weight M (1 + 1 + 1 + j) = fX7_weightOf M (nI j) := by rw [← pl_nI (by omega)]; rfl
      have hr : fX4_reading M 1 (1 + 1 + 1 + j) = fX7_readingOf M (nI j) := by rw [← pl_nI (by omega)]; rfl
      rw [if_neg (nI_ge (by omega) (by omega)), hp, hr]
      exact ih (j + 1) (by omega) (by omega)
theorem bl_z (h1 : M 1 1 = nI c) (hc : c ≤ 6) (h : wS M c = 0) : (-1 : Int32) = fX7_blend M := by
  have e : fX7_blend M = _ := bl_end h1 hc 7 0 (by omega) (by omega)
  rw [e, if_pos h]
theorem bl_n (h1 : M 1 1 = nI c) (hc : c ≤ 6) (h : ¬ wS M c = 0) : sS M c / wS M c = fX7_blend M := by
  have e : fX7_blend M = _ := bl_end h1 hc 7 0 (by omega) (by omega)
  rw [e, if_neg h]
theorem be_end (h1 : M 1 1 = nI c) (hc : c ≤ 6) : ∀ (k j : Nat) (w : Int32), j ≤ c → 7 ≤ j + k → (bS M j = (-1) ∨ w = xabs (fX7_readingOf M (bS M j) - fX7_humidity M)) → LX4_nearest_6f 1 k M (bS M j) w j = bS M c := by
  intro k
  induction k with
  | zero => intro j w hj hk; omega
  | succ k ih =>
    intro j w hj hk hw
    rw [LX4_nearest_6f, h1]
    by_cases hjc : j = c
    · subst hjc
      rw [if_pos (by rw [nI_leI (by omega) (by omega)]; omega)]
    · have hp : fX1_flaw M (1 + 1 + 1 + j) = fX7_whyUnusable M (nI j) := by rw [← pl_nI (by omega)]; rfl
      have hr : fX4_reading M 1 (1 + 1 + 1 + j) = fX7_readingOf M (nI j) := by rw [← pl_nI (by omega)]; rfl
      have hh : M 1 3 = fX7_humidity M := rfl
      rw [if_neg (nI_ge (by omega) (by omega)), hp, hr, hh]
      have hrng := bS_rng M j (by omega)
      by_cases hg : fX7_whyUnusable M (nI j) = 0
      · have hgn : ¬ goodF M (nI j) = 0 := by rw [goodF_1 hg]; decide
        rw [if_pos hg]
        by_cases hb : bS M j = (-1)
        · have hl : bS M j < 0 := by rw [hb]; decide
          have e := bS_b hgn hl
          rw [if_pos hb, e]
          exact ih (j + 1) _ (by omega) (by omega) (Or.inr (by rw [← e]))
        · have hl : ¬ bS M j < 0 := by
            obtain ⟨i, hi, e⟩ := hrng.resolve_left hb
            rw [e]; exact nI_pos (by omega)
          rw [if_neg hb]
          have hw' := hw.resolve_left hb
          rw [hw']
          by_cases hd : xabs (fX7_readingOf M (bS M j) - fX7_humidity M) ≤ xabs (fX7_readingOf M (nI j) - fX7_humidity M)
          · have e := bS_c hgn hl hd
            rw [if_pos hd]
            have := ih (j + 1) (xabs (fX7_readingOf M (bS M j) - fX7_humidity M)) (by omega) (by omega) (Or.inr (by rw [← e]))
            rw [← e] at this
            exact this
          · have e := bS_d hgn hl hd
            rw [if_neg hd, e]
            exact ih (j + 1) _ (by omega) (by omega) (Or.inr (by rw [← e]))
      · have e := bS_a (goodF_0 hg)
        rw [if_neg hg]
        have := ih (j + 1) w (by omega) (by omega) (by rw [← e]; exact hw)
        rw [← e] at this
        exact this
theorem be_eq (h1 : M 1 1 = nI c) (hc : c ≤ 6) : fX7_bestInstrument M = bS M c := be_end h1 hc 7 0 0 (by omega) (by omega) (Or.inl rfl)
theorem slk_h {x : Int32} (h : ¬ fX7_isHair M x = 0) : fX7_slackOf M x = M (pl x) 5 := by
  unfold fX7_slackOf
  exact if_neg h
theorem sl_end (h1 : M 1 1 = nI c) (hc : c ≤ 6) : ∀ (k j : Nat) (w : Int32), j ≤ c → 7 ≤ j + k → (kS M j = (-1) ∨ w = fX7_slackOf M (kS M j)) → LX4_slackest_6f 1 k M (kS M j) w j = kS M c := by
  intro k
  induction k with
  | zero => intro j w hj hk; omega
  | succ k ih =>
    intro j w hj hk hw
    rw [LX4_slackest_6f, h1]
    by_cases hjc : j = c
    · subst hjc
      rw [if_pos (by rw [nI_leI (by omega) (by omega)]; omega)]
    · have hp : bv (M (1 + 1 + 1 + j) 0) = fX7_isHair M (nI j) := by rw [← pl_nI (by omega)]; rfl
      rw [if_neg (nI_ge (by omega) (by omega)), hp]
      have hrng := kS_rng M j (by omega)
      by_cases hg : fX7_isHair M (nI j) = 0
      · have e := kS_a hg
        rw [if_pos hg]
        have := ih (j + 1) w (by omega) (by omega) (by rw [← e]; exact hw)
        rw [← e] at this
        exact this
      · have hs : M (1 + 1 + 1 + j) 5 = fX7_slackOf M (nI j) := by rw [slk_h hg, pl_nI (by omega)]
        rw [if_neg hg, hs]
        by_cases hb : kS M j = (-1)
        · have hl : kS M j < 0 := by rw [hb]; decide
          have e := kS_b hg hl
          rw [if_pos hb, e]
          exact ih (j + 1) _ (by omega) (by omega) (Or.inr (by rw [← e]))
        · have hl : ¬ kS M j < 0 := by
            obtain ⟨i, hi, e, -⟩ := hrng.resolve_left hb
            rw [e]; exact nI_pos (by omega)
          rw [if_neg hb]
          have hw' := hw.resolve_left hb
          rw [hw']
          by_cases hd : fX7_slackOf M (nI j) ≤ fX7_slackOf M (kS M j)
          · have e := kS_c hg hl hd
            rw [if_pos hd]
            have := ih (j + 1) (fX7_slackOf M (kS M j)) (by omega) (by omega) (Or.inr (by rw [← e]))
            rw [← e] at this
            exact this
          · have e := kS_d hg hl hd
            rw [if_neg hd, e]
            exact ih (j + 1) _ (by omega) (by omega) (Or.inr (by rw [← e]))
theorem sl_eq (h1 : M 1 1 = nI c) (hc : c ≤ 6) : fX7_slackestInstrument M = kS M c := sl_end h1 hc 7 0 0 (by omega) (by omega) (Or.inl rfl)
theorem di_end (h1 : M 1 1 = nI c) (hc : c ≤ 6) (hB : ∀ k, k < c → IOK (M (1 + 1 + 1 + k))) : ∀ (k j : Nat), j ≤ c → 7 ≤ j + k → LX4_countDisagreeing_4f 1 k M (dS M j) j = dS M c := by
  intro k
  induction k with
  | zero => intro j hj hk; omega
  | succ k ih =>
    intro j hj hk
    rw [LX4_countDisagreeing_4f, h1]
    by_cases hjc : j = c
    · subst hjc
      rw [if_pos (by rw [nI_leI (by omega) (by omega)]; omega)]
    · have hp : fX1_isBoxed M (1 + 1 + 1 + j) = if fX7_boxOf M (nI j) = (-1) then 0 else 1 := by rw [← pl_nI (by omega)]; rfl
      have hst : fX4_settled M 1 (1 + 1 + 1 + j) = fX7_isSettled M (nI j) := by rw [← pl_nI (by omega)]; rfl
      have hr : fX4_reading M 1 (1 + 1 + 1 + j) = fX7_readingOf M (nI j) := by rw [← pl_nI (by omega)]; rfl
      have hsr : fX4_surrounding M 1 (1 + 1 + 1 + j) = fX7_surroundingOf M (nI j) := by rw [← pl_nI (by omega)]; rfl
      have hbx : BX (fX7_boxOf M (nI j)) := by
        have := (hB j (by omega)).2.2.2.2.1
        show BX (M (pl (nI j)) 8)
        rw [pl_nI (by omega)]; exact this
      have e := ih (j + 1) (by omega) (by omega)
      rw [dS] at e
      rw [if_neg (nI_ge (by omega) (by omega)), hp, hst, hr, hsr]
      have z : disF M (nI j) = 0 → LX4_countDisagreeing_4f 1 k M (dS M j) (j + 1) = dS M c := fun h => by rw [← e, h]; congr 1; grind
      by_cases hb : fX7_boxOf M (nI j) = (-1)
      · rw [if_pos hb, if_pos rfl]
        exact z (dis_a (by rw [hb]; decide)).symm
      · have hb0 := (bx_in hbx hb).1
        rw [if_neg hb, if_neg (by decide)]
        by_cases hs : fX7_isSettled M (nI j) = 0
        · rw [if_pos hs]
          exact z (dis_b hb0 hs).symm
        · rw [if_neg hs]
          by_cases hx : fX7_readingOf M (nI j) = fX7_surroundingOf M (nI j)
          · rw [if_pos hx]
            exact z (dis_c hb0 hs (by show fX7_readingOf M (nI j) - fX7_surroundingOf M (nI j) = 0; rw [hx]; grind)).symm
          · rw [if_neg hx, ← e, ← dis_d hb0 hs (fun h => hx (by have h : fX7_readingOf M (nI j) - fX7_surroundingOf M (nI j) = 0 := h; grind))]
theorem di_eq (h1 : M 1 1 = nI c) (hc : c ≤ 6) (hB : ∀ k, k < c → IOK (M (1 + 1 + 1 + k))) : fX7_disagreements M = dS M c := di_end h1 hc hB 7 0 (by omega) (by omega)
theorem spn_at (hc : c ≤ 6) : ∀ j, j ≤ 6 → ∃ u, u ≤ j ∧ uS M j = nI u ∧ SPN u (lS M j) (mS M j) := by
  intro j
  induction j with
  | zero => intro _; exact ⟨0, by omega, rfl, 100, 0, by decide, by decide, rfl, rfl, fun _ => ⟨rfl, rfl⟩, fun h => by omega, fun h => by omega⟩
  | succ j ih =>
    intro hj
    obtain ⟨u, hu, e, hs⟩ := ih (by omega)
    by_cases hg : goodF M (nI j) = 0
    · exact ⟨u, by omega, by rw [uS, hg, e]; grind, by rw [← lS_a hg, ← mS_a hg]; exact hs⟩
    · exact ⟨u + 1, by omega, by rw [uS, goodF_n hg, e, nI_1], by rw [← lS_b hg, ← mS_b hg]; exact spn_step hs (rd_100 M _)⟩
theorem sp_end (h1 : M 1 1 = nI c) (hc : c ≤ 6) : ∀ (k j : Nat), j ≤ c → 7 ≤ j + k → LX4_readingSpan_7f 1 k M (lS M j) (mS M j) j = xmax 0 (mS M c - lS M c) := by
  intro k
  induction k with
  | zero => intro j hj hk; omega
  | succ k ih =>
    intro j hj hk
    rw [LX4_readingSpan_7f, h1]
    by_cases hjc : j = c
    · subst hjc
      rw [if_pos (by rw [nI_leI (by omega) (by omega)]; omega)]
    · have hp : fX1_flaw M (1 + 1 + 1 + j) = fX7_whyUnusable M (nI j) := by rw [← pl_nI (by omega)]; rfl
      have hr : fX4_reading M 1 (1 + 1 + 1 + j) = fX7_readingOf M (nI j) := by rw [← pl_nI (by omega)]; rfl
      have e := ih (j + 1) (by omega) (by omega)
      rw [if_neg (nI_ge (by omega) (by omega)), hp, hr]
      by_cases hg : fX7_whyUnusable M (nI j) = 0
      · have hgn : ¬ goodF M (nI j) = 0 := by rw [goodF_1 hg]; decide
        rw [if_pos hg, lS_b hgn, mS_b hgn]
        exact e
      · rw [if_neg hg]
        rw [← lS_a (goodF_0 hg), ← mS_a (goodF_0 hg)] at e
        exact e
theorem sp_0 (h1 : M 1 1 = nI c) (hc : c ≤ 6) (h : ¬ 2 ≤ uS M c) : (0 : Int32) = fX7_spread M := by
  have e : fX7_spread M = _ := sp_end h1 hc 7 0 (by omega) (by omega)
  obtain ⟨u, hu, eu, hs⟩ := spn_at (M := M) hc c hc
  rw [e, spn_end hs (by omega), ← eu, if_neg h]
theorem sp_1 (h1 : M 1 1 = nI c) (hc : c ≤ 6) (h : 2 ≤ uS M c) : mS M c - lS M c = fX7_spread M := by
  have e : fX7_spread M = _ := sp_end h1 hc 7 0 (by omega) (by omega)
  obtain ⟨u, hu, eu, hs⟩ := spn_at (M := M) hc c hc
  rw [e, spn_end hs (by omega), ← eu, if_pos h]
theorem rs_end (h1 : M 1 1 = nI c) (hc : c ≤ 6) : ∀ (k j : Nat), j ≤ c → 7 ≤ j + k → LX4_sumOfReadings_4f 1 k M (rS M j) j = rS M c := by
  intro k
  induction k with
  | zero => intro j hj hk; omega
  | succ k ih =>
    intro j hj hk
    rw [LX4_sumOfReadings_4f, h1]
    by_cases hjc : j = c
    · subst hjc
      rw [if_pos (by rw [nI_leI (by omega) (by omega)]; omega)]
    · have hr : fX4_reading M 1 (1 + 1 + 1 + j) = fX7_readingOf M (nI j) := by rw [← pl_nI (by omega)]; rfl
      rw [if_neg (nI_ge (by omega) (by omega)), hr]
      exact ih (j + 1) (by omega) (by omega)
theorem rs_eq (h1 : M 1 1 = nI c) (hc : c ≤ 6) : fX4_sumOfReadings M 1 = rS M c := rs_end h1 hc 7 0 (by omega) (by omega)
theorem rS_ub (M : Mem) : ∀ j, j ≤ 6 → UB (rS M j) (100 * j) := by
  intro j
  induction j with
  | zero => intro _; exact ⟨0, by decide, rfl⟩
  | succ j ih => intro hj; rw [rS]; exact ub_plus (ih (by omega)) (rd_100 M _) (by omega)
theorem uS_ub (M : Mem) : ∀ j, j ≤ 6 → UB (uS M j) j := by
  intro j hj
  obtain ⟨u, hu, e, -⟩ := spn_at (M := M) (c := 6) (by decide) j hj
  exact ⟨u, hu, e⟩
theorem fn32 : ∀ s n : Nat, s ≤ 6 → 0 < n → n ≤ 6 → vf_n32 (FP.fdiv (FP.i2f (nI s)) (FP.i2f (nI n))) ∧ Op.cmpValue (FP.fcmp (FP.fdiv (FP.i2f (nI s)) (FP.i2f (nI n))) (FP.fdiv (FP.i2f (nI s)) (FP.i2f (nI n)))) .l = 0 := by
  have h : ∀ s : Fin 7, ∀ n : Fin 7, 0 < n.1 → (FP.fdiv (FP.i2f (nI s.1)) (FP.i2f (nI n.1))) &&& 0x7fffffff ≤ 0x7f800000 ∧ Op.cmpValue (FP.fcmp (FP.fdiv (FP.i2f (nI s.1)) (FP.i2f (nI n.1))) (FP.fdiv (FP.i2f (nI s.1)) (FP.i2f (nI n.1)))) .l = 0 := by decide +kernel
  intro s n hs h0 hn
  exact h ⟨s, by omega⟩ ⟨n, by omega⟩ h0
theorem fn64 : ∀ s n : Nat, s ≤ 600 → 0 < n → n ≤ 6 → vf_n64 (FP.ddiv (FP.i2d (nI s)) (FP.i2d (nI n))) ∧ Op.cmpValue (FP.dcmp (FP.ddiv (FP.i2d (nI s)) (FP.i2d (nI n))) (FP.ddiv (FP.i2d (nI s)) (FP.i2d (nI n)))) .l = 0 := by
  have h : ∀ s : Fin 601, ∀ n : Fin 7, 0 < n.1 → (FP.ddiv (FP.i2d (nI s.1)) (FP.i2d (nI n.1))) &&& 0x7fffffffffffffff ≤ 0x7ff0000000000000 ∧ Op.cmpValue (FP.dcmp (FP.ddiv (FP.i2d (nI s.1)) (FP.i2d (nI n.1))) (FP.ddiv (FP.i2d (nI s.1)) (FP.i2d (nI n.1)))) .l = 0 := by decide +kernel
  intro s n hs h0 hn
  exact h ⟨s, by omega⟩ ⟨n, by omega⟩ h0
theorem c_pos (h1 : M 1 1 = nI c) (h0 : ¬ M 1 1 = 0) : 0 < c := by
  rcases Nat.eq_zero_or_pos c with e | e
  · exact absurd (by rw [h1, e]; rfl) h0
  · exact e
theorem mr_nn (h1 : M 1 1 = nI c) (hc : c ≤ 6) : ¬ M 1 1 = 0 → vf_n64 (FP.ddiv (FP.i2d (fX4_sumOfReadings M 1)) (FP.i2d (M 1 1))) := by
  intro h0
  obtain ⟨k, hk, e⟩ := rS_ub M c hc
  rw [rs_eq h1 hc, e, h1]
  exact (fn64 k c (by omega) (c_pos h1 h0) hc).1
theorem mr_n (h1 : M 1 1 = nI c) (hc : c ≤ 6) (h0 : ¬ M 1 1 = 0) : vf_n64 (FP.ddiv (FP.i2d (rS M c)) (FP.i2d (M 1 1))) := by
  rw [← rs_eq h1 hc]
  exact mr_nn h1 hc h0
theorem mr_eq (h1 : M 1 1 = nI c) (hc : c ≤ 6) (h0 : ¬ M 1 1 = 0) : FP.ddiv (FP.i2d (rS M c)) (FP.i2d (M 1 1)) = fX7_meanReading M := by
  unfold fX7_meanReading
  rw [if_neg h0, rs_eq h1 hc]
theorem mr_z (h0 : M 1 1 = 0) : FP.dconst0 = fX7_meanReading M := by unfold fX7_meanReading; rw [if_pos h0]
theorem mr_cmp (h1 : M 1 1 = nI c) (hc : c ≤ 6) : Op.cmpValue (FP.dcmp (fX7_meanReading M) (fX7_meanReading M)) .l = 0 := by
  by_cases h0 : M 1 1 = 0
  · rw [← mr_z h0]; decide +kernel
  · obtain ⟨k, hk, e⟩ := rS_ub M c hc
    rw [← mr_eq h1 hc h0, e, h1]
    exact (fn64 k c (by omega) (c_pos h1 h0) hc).2
theorem sh_nn (h1 : M 1 1 = nI c) (hc : c ≤ 6) : ¬ M 1 1 = 0 → vf_n32 (FP.fdiv (FP.i2f (fX4_countUsable M 1)) (FP.i2f (M 1 1))) := by
  intro h0
  obtain ⟨k, hk, e⟩ := uS_ub M c hc
  rw [show fX4_countUsable M 1 = uS M c from us_eq h1 hc, e, h1]
  exact (fn32 k c (by omega) (c_pos h1 h0) hc).1
theorem sh_n (h1 : M 1 1 = nI c) (hc : c ≤ 6) (h0 : ¬ M 1 1 = 0) : vf_n32 (FP.fdiv (FP.i2f (uS M c)) (FP.i2f (M 1 1))) := by
  rw [← us_eq h1 hc]
  exact sh_nn h1 hc h0
theorem sh_eq (h1 : M 1 1 = nI c) (hc : c ≤ 6) (h0 : ¬ M 1 1 = 0) : FP.fdiv (FP.i2f (uS M c)) (FP.i2f (M 1 1)) = fX7_usableShare M := by
  unfold fX7_usableShare
  rw [if_neg h0, show fX4_countUsable M 1 = uS M c from us_eq h1 hc]
theorem sh_z (h0 : M 1 1 = 0) : FP.fconst0 = fX7_usableShare M := by unfold fX7_usableShare; rw [if_pos h0]
theorem sh_cmp (h1 : M 1 1 = nI c) (hc : c ≤ 6) : Op.cmpValue (FP.fcmp (fX7_usableShare M) (fX7_usableShare M)) .l = 0 := by
  by_cases h0 : M 1 1 = 0
  · rw [← sh_z h0]; decide +kernel
  · obtain ⟨k, hk, e⟩ := uS_ub M c hc
    rw [← sh_eq h1 hc h0, e, h1]
    exact (fn32 k c (by omega) (c_pos h1 h0) hc).2
end ENDS
