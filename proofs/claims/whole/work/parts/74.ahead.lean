/-! the reader, a token behind the reference -/
theorem RB.af {M N : Mem} {r c : Nat} (h : RB M N r c) : AF M N r c := h.2.2.1
theorem rb_of {M N : Mem} {r c : Nat} (h : RA M N r c) (ha : AF M N r c) (hb : BXS N) (hm : UB (N 127 0) 9999) : RB M N r c := ⟨h.1, h.2, ha, hb, hm⟩
/-- the minutes that pass -/
theorem pm_0 {M N : Mem} {r c : Nat} (h : RA M N r c) : gX8_passesMinute N 127 0 = N 127 0 + 1 := by
  obtain ⟨N1, i1, i2, i3, i4, i5⟩ := ages_rel 0 7 _ _ 0 (ra_min h) (Nat.zero_le _) (by decide)
  have e0 : N1 127 0 = N 127 0 + 1 := (i2 0 (by decide)).trans (mu_same _ _ _ _)
  unfold gX8_passesMinute
  rw [i4]
  split
  · rw [brings_at (by decide) (by decide), e0]
  · exact e0
theorem ps_0 {r c n : Nat} (hn : n ≤ 200) (hr : kd r = 4) : ∀ (f : Nat) (M N : Mem) (w : Int32) (i : Nat), RA M N r c → i ≤ n → n + 1 ≤ i + f → LX8_passes_4g (nI n) f N w i 127 0 = N 127 0 + nI (n - i) := by
  intro f
  induction f with
  | zero => intro M N w i h h1 h2; omega
  | succ f ih =>
    intro M N w i h h1 h2
    rw [LX8_passes_4g]
    by_cases hc : nI n ≤ nI i
    · have : n ≤ i := by rw [nI_leI (by omega) (by omega)] at hc; exact hc
      rw [if_pos hc, show n - i = 0 by omega]
      exact (Int32.add_zero _).symm
    · have : i < n := by rw [nI_leI (by omega) (by omega)] at hc; omega
      rw [if_neg hc, ih (gMin M r (nI n)) (gX8_passesMinute N) _ (i + 1) (min_rel (nI n) h hr).1 (by omega) (by omega), pm_0 h, Int32.add_assoc, show (1 : Int32) = nI 1 from rfl, nI_add, show 1 + (n - (i + 1)) = n - i by omega]
theorem pass_0 {M N : Mem} {r c n : Nat} (hn : n ≤ 200) (hr : kd r = 4) (h : RA M N r c) : gX8_passes N (nI n) 127 0 = N 127 0 + nI n := by
  unfold gX8_passes
  exact ps_0 hn hr 201 M N 0 0 h (Nat.zero_le _) (by omega)
theorem rb_ext {M M' N N' : Mem} {r c : Nat} (hm : ∀ o, r ≤ o → o < r + 8 → M' o = M o) (h5 : N' 125 = N 125) (h7 : N' 127 = N 127) (h : RB M N r c) : RB M' N' r c := ⟨pts_row h5 h.1, rq_ext hm (fun t _ => by rw [h7]) h.2⟩
theorem keys_row {N N' : Mem} (h : N' 126 = N 126) (hk : KEYS N) : KEYS N' := fun w hw j hj => by rw [h]; exact hk w hw j hj
theorem val_congr {M M' : Mem} (h4 : M' 10 4 = M 10 4) (h11 : M' 11 = M 11) : ∀ (f : Nat) (v i : Int32), LX6_value_7f f M' v i = LX6_value_7f f M v i := by
  intro f
  induction f with
  | zero => intro v i; rfl
  | succ f ih =>
    intro v i
    rw [LX6_value_7f, LX6_value_7f, h4, h11, ih]
/-- what a token needs of the two memories -/
theorem tk_ext {M M' N N' : Mem} {e t s : Nat} (hm : ∀ j, 2 ≤ j → j < 6 → M' 10 j = M 10 j) (h11 : M' 11 = M 11) (hn : ∀ j, 15 ≤ j → j < 20 → N' 124 j = N 124 j) (h131 : N' 131 = N 131) (h : TK M N e t s) : TK M' N' e t s := by
  obtain ⟨⟨he, ht, m2, n15, m4, n18, hk, hb⟩, hst, m3, n17, hv, hl, h0⟩ := h
  have e5 := hm 5 (by decide) (by decide)
  refine ⟨⟨he, ht, (hm 2 (by decide) (by decide)).trans m2, (hn 15 (by decide) (by decide)).trans n15, (hm 4 (by decide) (by decide)).trans m4, (hn 18 (by decide) (by decide)).trans n18, ?_, fun j hj => by rw [h11, h131]; exact hb j hj⟩, hst, (hm 3 (by decide) (by decide)).trans m3, (hn 17 (by decide) (by decide)).trans n17, ?_, ?_, ?_⟩
  · rw [e5, hn 16 (by decide) (by decide)]; exact hk
  · rw [e5, hn 19 (by decide) (by decide)]
    intro h2
    rw [← hv h2]
    unfold fX6_value
    rw [val_congr (hm 4 (by decide) (by decide)) h11, hm 3 (by decide) (by decide)]
  · rw [e5, h11]; exact hl
  · rw [e5]; exact h0
theorem next_row {M M' : Mem} {e t : Nat} (he : e ≤ 600) (ht : t ≤ e) (h2 : M 10 2 = nI e) (h4 : M 10 4 = nI t) (h10 : M' 10 = M 10) (h11 : M' 11 = M 11) : ∀ j, 2 ≤ j → j < 6 → gX6_next M' 10 j = gX6_next M 10 j := by
  obtain ⟨a3, a4, a5⟩ := cnext he ht h2 h4
  obtain ⟨b3, b4, b5⟩ := cnext (M := M') he ht (by rw [h10]; exact h2) (by rw [h10]; exact h4)
  rw [h11] at b3 b4 b5
  rw [h10] at b5
  intro j hj1 hj2
  rcases (by omega : j = 2 ∨ j = 3 ∨ j = 4 ∨ j = 5) with rfl | rfl | rfl | rfl
  · rw [nx_lo M' (by decide), nx_lo M (by decide), h10]
  · rw [a3, b3]
  · rw [a4, b4]
  · rw [a5, b5]
/-- at the same token -/
def AT (M N : Mem) (e t s : Nat) : Prop := (M 9 2 = 0 ∧ M 9 3 = -1) ∧ N 124 20 = 0 ∧ TK M N e t s
/-- the reference is a token ahead -/
def LA (M N : Mem) (e t : Nat) : Prop := e ≤ 600 ∧ t ≤ e ∧ M 10 2 = nI e ∧ M 10 4 = nI t ∧ (M 9 2 = 0 ∧ M 9 3 = -1) ∧ N 124 20 = 0 ∧ ∃ t2 s2, TK (gX6_next M) N e t2 s2 ∧ t ≤ s2
/-- both have told the same error -/
def ER (M N : Mem) : Prop := M 9 2 = N 124 20 ∧ ¬ M 9 2 = 0 ∧ M 9 3 = N 124 21
theorem at_ext {M M' N N' : Mem} {e t s : Nat} (h10 : M' 10 = M 10) (h11 : M' 11 = M 11) (h9 : M' 9 = M 9) (hn : N' 124 = N 124) (h131 : N' 131 = N 131) (h : AT M N e t s) : AT M' N' e t s :=
  ⟨by rw [h9]; exact h.1, by rw [hn]; exact h.2.1, tk_ext (fun j _ _ => by rw [h10]) h11 (fun j _ _ => by rw [hn]) h131 h.2.2⟩
theorem la_ext {M M' N N' : Mem} {e t : Nat} (h10 : M' 10 = M 10) (h11 : M' 11 = M 11) (h9 : M' 9 = M 9) (hn : N' 124 = N 124) (h131 : N' 131 = N 131) (h : LA M N e t) : LA M' N' e t := by
  obtain ⟨he, ht, h2, h4, h92, hf, t2, s2, hk, hs⟩ := h
  refine ⟨he, ht, by rw [h10]; exact h2, by rw [h10]; exact h4, by rw [h9]; exact h92, by rw [hn]; exact hf, t2, s2, ?_, hs⟩
  exact tk_ext (next_row he ht h2 h4 h10 h11) ((nx_sr M' 11 (by decide)).trans (h11.trans (nx_sr M 11 (by decide)).symm)) (fun j _ _ => by rw [hn]) h131 hk
theorem at_next {M N : Mem} {e t s : Nat} (h : AT M N e t s) : LA M (gX8_next N) e t := by
  obtain ⟨h9, hf, hk⟩ := h
  obtain ⟨t2, s2, k, hs⟩ := next_rel hk.1
  exact ⟨hk.1.1, hk.1.2.1, hk.1.2.2.1, hk.1.2.2.2.2.1, h9, (nx_f N).1.trans hf, t2, s2, k, hs⟩
theorem la_at {M N : Mem} {e t : Nat} (h : LA M N e t) : ∃ t2 s2, AT (gX6_next M) N e t2 s2 ∧ t ≤ s2 := by
  obtain ⟨he, ht, h2, h4, h92, hf, t2, s2, hk, hs⟩ := h
  exact ⟨t2, s2, ⟨by rw [nx_sr M 9 (by decide)]; exact h92, hf, hk⟩, hs⟩
/-- both tell an error at the token -/
theorem at_err {M N : Mem} {e t s : Nat} {x : Int32} (h : AT M N e t s) (hx : ¬ x = 0) : ER (gX3_fail M x) (gX8_errs N x) := by
  obtain ⟨h9, hf, hk⟩ := h
  have e1 : gX8_errs N x 124 20 = x := by unfold gX8_errs; rw [if_pos hf, mU_row (by decide), mu_same]
  have e2 : gX8_errs N x 124 21 = nI s := by unfold gX8_errs; rw [if_pos hf, mu_same, mU_row (by decide)]; exact hk.2.2.2.1
  have e3 : gX3_fail M x 9 3 = nI s := by unfold gX3_fail; rw [mu_same, mU_ne _ _ _ (by decide)]; exact hk.2.2.1
  refine ⟨by rw [fl_ek, e1], by rw [fl_ek]; exact hx, by rw [e3, e2]⟩
/-- nothing more is read behind an error -/
theorem er_take {M N : Mem} (h : ER M N) (x y : Int32) : gX3_takeNumber M x y = M := by unfold gX3_takeNumber; rw [if_neg h.2.1]
theorem er_f {M N : Mem} (h : ER M N) : ¬ N 124 20 = 0 := by rw [← h.1]; exact h.2.1
theorem here_er {N : Mem} (h : ¬ N 124 20 = 0) (x y : Int32) : gX8_here N x y = N ∧ fX8_here N x y = x := ⟨by unfold gX8_here; simp only [if_neg h], by unfold fX8_here; simp only [if_neg h]⟩
theorem errs_er {N : Mem} (h : ¬ N 124 20 = 0) (x : Int32) : gX8_errs N x = N := by unfold gX8_errs; rw [if_neg h]
theorem go_er {N : Mem} (h : ¬ N 124 20 = 0) : gX8_goesOn N = N := by unfold gX8_goesOn; rw [if_neg h]
theorem tn_er {N : Mem} (h : ¬ N 124 20 = 0) (x y : Int32) : gX8_takesNumber N x y = N := by
  unfold gX8_takesNumber
  rw [(here_er h x y).1, go_er h]
/-- a number taken by both; the reference doesn't go on yet -/
theorem take_here {M N : Mem} {e t : Nat} (h : LA M N e t) (x y : Int32) :
    (∃ v t2 s2, gX3_takeNumber M x y = gX6_next M ∧ fX3_takeNumber M x y = v ∧ gX8_here N x y = N ∧ fX8_here N x y = v ∧ AT (gX6_next M) N e t2 s2 ∧ t < t2 ∧ ¬ v < x ∧ v ≤ y) ∨ (ER (gX3_takeNumber M x y) (gX8_here N x y) ∧ fX3_takeNumber M x y = -1) := by
  obtain ⟨t2, s2, ha, hs⟩ := la_at h
  have h9 : M 9 2 = 0 := h.2.2.2.2.1.1
  have hf : N 124 20 = 0 := ha.2.1
  have hk := ha.2.2
  have k2 : N 124 16 = 2 ↔ gX6_next M 10 5 = 2 := hk.1.2.2.2.2.2.2.1.iff (by decide)
  unfold gX3_takeNumber fX3_takeNumber
  rw [if_pos h9, if_pos h9]
  by_cases hn : gX6_next M 10 5 = 2
  · have hv := hk.2.2.2.2.1 hn
    have hlt := hk.2.2.2.2.2.2 (by rw [hn]; decide)
    rw [if_pos hn, if_pos hn, hv]
    by_cases c1 : N 124 19 < x
    · rw [if_pos c1, if_pos c1]
      right
      refine ⟨?_, rfl⟩
      have : gX8_here N x y = gX8_errs N 2 := by
        unfold gX8_here
        rw [if_pos hf, if_pos (k2.mpr hn), if_pos hf, if_pos (by unfold fX8_in; rw [if_pos c1])]
        split <;> rfl
      rw [this]
      exact at_err ha (by decide)
    · rw [if_neg c1, if_neg c1]
      by_cases c2 : N 124 19 ≤ y
      · rw [if_pos c2, if_pos c2]
        left
        have hin : ¬ fX8_in N (N 124 19) x y = 0 := by unfold fX8_in; rw [if_neg c1, if_neg (Int32.not_lt.mpr c2)]; decide
        have e1 : gX8_here N x y = N := by
          unfold gX8_here
          rw [if_pos hf, if_pos (k2.mpr hn), if_pos hf, if_neg hin, if_pos hf]
        have e2 : fX8_here N x y = N 124 19 := by
          unfold fX8_here
          rw [if_pos hf, if_pos (k2.mpr hn), if_pos hf, if_neg hin, if_pos hf]
        exact ⟨_, t2, s2, rfl, rfl, e1, e2, ha, by omega, c1, c2⟩
      · rw [if_neg c2, if_neg c2]
        right
        refine ⟨?_, rfl⟩
        have : gX8_here N x y = gX8_errs N 2 := by
          unfold gX8_here
          rw [if_pos hf, if_pos (k2.mpr hn), if_pos hf, if_pos (by unfold fX8_in; rw [if_neg c1, if_pos (Int32.not_le.mp c2)])]
          split <;> rfl
        rw [this]
        exact at_err ha (by decide)
  · rw [if_neg hn, if_neg hn]
    right
    refine ⟨?_, rfl⟩
    have hE := at_err ha (x := 1) (by decide)
    have hne : ¬ gX8_errs N 1 124 20 = 0 := er_f hE
    have : gX8_here N x y = gX8_errs N 1 := by
      unfold gX8_here
      rw [if_pos hf, if_neg (fun hh => hn (k2.mp hh)), if_neg hne, if_neg hne]
    rw [this]
    exact hE
/-- .. and it goes on -/
theorem take_next {M N : Mem} {e t : Nat} (h : LA M N e t) (x y : Int32) :
    (∃ v t2, fX3_takeNumber M x y = v ∧ fX8_takesNumber N x y = v ∧ LA (gX3_takeNumber M x y) (gX8_takesNumber N x y) e t2 ∧ t < t2 ∧ ¬ v < x ∧ v ≤ y) ∨ ER (gX3_takeNumber M x y) (gX8_takesNumber N x y) := by
  unfold gX8_takesNumber fX8_takesNumber
  rcases take_here h x y with ⟨v, t2, s2, e1, e2, e3, e4, ha, hlt, hx, hy⟩ | ⟨hE, -⟩
  · left
    refine ⟨v, t2, e2, e4, ?_, hlt, hx, hy⟩
    rw [e1, e3]
    have : gX8_goesOn N = gX8_next N := by unfold gX8_goesOn; rw [if_pos ha.2.1]
    rw [this]
    exact at_next ha
  · right
    rw [go_er (er_f hE)]
    exact hE
