/-! the history -/
theorem ri_ext {A B B' : Nat → Int32} {k : Nat} (hk : k < 6) (hb : ∀ t, t < 56 → B' t = B t) (h : RI A B k) : RI A B' k := ri_out (fun j h1 h2 => hb j (by omega)) h
theorem gi_ext {B B' : Nat → Int32} {k : Nat} (hk : k < 6) (hb : ∀ t, t < 56 → B' t = B t) (h : GI B k) : GI B' k := gi_out (fun j h1 h2 => hb j (by omega)) h
theorem rr_ext {M M' : Mem} {r c : Nat} {B B' : Nat → Int32} (hm : ∀ o, r ≤ o → o < r + 8 → M' o = M o) (hb : ∀ t, t < 56 → B' t = B t) (h : RR M r B c) : RR M' r B' c := by
  obtain ⟨hc, h5, hh, hg, hk⟩ := h
  refine ⟨hc, by rw [hb 5 (by decide)]; exact h5, rh_row (hm r (by omega) (by omega)) (fun j hj => hb j (by omega)) hh, gh_row (fun j hj => hb j (by omega)) hg, fun k hk2 => ?_⟩
  rw [hm _ (by omega) (by omega)]
  exact ⟨ri_ext (by omega) hb (hk k hk2).1, gi_ext (by omega) hb (hk k hk2).2⟩
theorem RR.cnt {M : Mem} {r c : Nat} {B : Nat → Int32} (h : RR M r B c) : CNT M r := ⟨c, h.1, h.2.2.1.1.trans h.2.1⟩
/-- the hairs that the first c instruments had at first -/
def sumH (M : Mem) (r : Nat) : Nat → Int32
  | 0 => 0
  | k + 1 => sumH M r k + M (r + 1 + 1 + k) 2
theorem sumH_row {M M' : Mem} {r : Nat} : ∀ (k : Nat), (∀ i, i < k → M' (r + 1 + 1 + i) 2 = M (r + 1 + 1 + i) 2) → sumH M' r k = sumH M r k := by
  intro k
  induction k with
  | zero => intro _; rfl
  | succ k ih =>
    intro h
    show sumH M' r k + M' (r + 1 + 1 + k) 2 = sumH M r k + M (r + 1 + 1 + k) 2
    rw [ih (fun i hi => h i (by omega)), h k (by omega)]
theorem sumH_two {M M' : Mem} {r q : Nat} : ∀ (k : Nat), (∀ i, i < k → M' (r + 1 + 1 + i) 2 = M (q + 1 + 1 + i) 2) → sumH M' r k = sumH M q k := by
  intro k
  induction k with
  | zero => intro _; rfl
  | succ k ih =>
    intro h
    show sumH M' r k + M' (r + 1 + 1 + k) 2 = sumH M q k + M (q + 1 + 1 + k) 2
    rw [ih (fun i hi => h i (by omega)), h k (by omega)]
/-- .. with the hairs that came -/
def RQ (M : Mem) (r : Nat) (B : Nat → Int32) (c : Nat) : Prop := RR M r B c ∧ B 6 = sumH M r c ∧ (∀ j, j < 6 → BX (B (8 * j + 15))) ∧ UB (B 0) 9999
def RB (M N : Mem) (r c : Nat) : Prop := PTS N ∧ RQ M r (N 127) c
theorem RB.ra {M N : Mem} {r c : Nat} (h : RB M N r c) : RA M N r c := ⟨h.1, h.2.1⟩
theorem RB.bxs {M N : Mem} {r c : Nat} (h : RB M N r c) : BXS N := h.2.2.2.1
theorem RB.min {M N : Mem} {r c : Nat} (h : RB M N r c) : UB (N 127 0) 9999 := h.2.2.2.2
theorem RQ.cnt {M : Mem} {r c : Nat} {B : Nat → Int32} (h : RQ M r B c) : CNT M r := h.1.cnt
theorem rq_ext {M M' : Mem} {r c : Nat} {B B' : Nat → Int32} (hm : ∀ o, r ≤ o → o < r + 8 → M' o = M o) (hb : ∀ t, t < 56 → B' t = B t) (h : RQ M r B c) : RQ M' r B' c := by
  refine ⟨rr_ext hm hb h.1, ?_, fun j hj => by rw [hb _ (by omega)]; exact h.2.2.1 j hj, by rw [hb 0 (by decide)]; exact h.2.2.2⟩
  rw [hb 6 (by decide), h.2.1, sumH_row (M := M) (M' := M') c (fun i hi => by have := h.1.1; rw [hm _ (by omega) (by omega)])]
theorem cp58b {r q c : Nat} (hd : q + 8 ≤ r ∨ r + 8 ≤ q) (hc : c ≤ 6) : ∀ (f : Nat) (M : Mem) (j : Nat), M r 1 = nI c → j ≤ c → 7 ≤ j + f →
    (∀ k, j ≤ k → k < c → LX4_copyFrom_58g r q f M j (r + 1 + 1 + k) 2 = M (q + 1 + 1 + k) 2) ∧ (∀ k, k < j → LX4_copyFrom_58g r q f M j (r + 1 + 1 + k) = M (r + 1 + 1 + k)) := by
  intro f
  induction f with
  | zero => intro M j _ hj hf; omega
  | succ f ih =>
    intro M j h1 hj hf
    rw [LX4_copyFrom_58g, h1]
    by_cases hcj : nI c ≤ nI j
    · have : c ≤ j := by rw [nI_leI (by omega) (by omega)] at hcj; exact hcj
      rw [if_pos hcj]
      exact ⟨fun k h2 h3 => by omega, fun _ _ => rfl⟩
    · have hj2 : j < c := by rw [nI_leI (by omega) (by omega)] at hcj; omega
      rw [if_neg hcj]
      have hr : gX1_copyFrom M (r + 1 + 1 + j) (q + 1 + 1 + j) r = M r := gX1_copyFrom_ne (by omega)
      obtain ⟨i1, i2⟩ := ih (gX1_copyFrom M (r + 1 + 1 + j) (q + 1 + 1 + j)) (j + 1) (by rw [hr]; exact h1) hj2 (by omega)
      refine ⟨fun k h2 h3 => ?_, fun k hk => (i2 k (by omega)).trans (gX1_copyFrom_ne (by omega))⟩
      by_cases e : k = j
      · subst e
        rw [i2 k (by omega)]
        exact (cp_row (by omega)).2 2 (by decide) (by decide)
      · rw [i1 k (by omega) h3, gX1_copyFrom_ne (by omega)]
theorem rq_copy {M : Mem} {B : Nat → Int32} {r q c : Nat} (hd : q + 8 ≤ r ∨ r + 8 ≤ q) (h : RQ M q B c) : RQ (gX4_copyFrom M r q) r B c := by
  refine ⟨rr_copy hd h.1, ?_, h.2.2⟩
  obtain ⟨⟨hc, h5, hh, -, -⟩, h6, -⟩ := h
  rw [h6]
  have hq : ∀ (M : Mem) (k : Nat) (v : Int32), mU M r k v q = M q := fun M k v => mU_ne M k v (by omega)
  have hqk : ∀ (M : Mem) (k j : Nat) (v : Int32), k < 6 → mU M r j v (q + 1 + 1 + k) = M (q + 1 + 1 + k) := fun M k j v hk => mU_ne M j v (by omega)
  unfold gX4_copyFrom
  simp only [hq]
  generalize hM : mU (mU (mU (mU (mU (mU (mU M r 1 (M q 1)) r 2 (M q 2)) r 3 (M q 3)) r 4 (M q 4)) r 5 (M q 5)) r 6 (M q 6)) r 7 (M q 7) = M1
  have m1 : M1 r 1 = M q 1 := by
    rw [← hM]
    (repeat rw [mU_row (by decide)]) <;> rw [mu_same]
  have mq : ∀ k, k < 6 → M1 (q + 1 + 1 + k) = M (q + 1 + 1 + k) := by
    intro k hk6
    rw [← hM]
    repeat rw [hqk _ _ _ _ hk6]
  obtain ⟨i1, -⟩ := cp58b hd hc 7 M1 0 (by rw [m1, hh.1, h5]) (Nat.zero_le _) (by decide)
  exact (sumH_two c (fun i hi => by rw [i1 i (Nat.zero_le _) hi, mq i (by omega)])).symm
/-- K states kept, the next place is p -/
def HR (M N : Mem) (K p : Nat) : Prop := K ≤ 10 ∧ p < 10 ∧ M 20 1 = nI p ∧ M 20 2 = nI K ∧ N 124 6 = nI K ∧ ∀ i, i < K → ∃ c, RQ M (22 + 8 * ((p + 10 - K + i) % 10)) (fun t => N 129 (56 * i + t)) c
theorem rec_rows {M : Mem} {q p K : Nat} (hp : p < 10) (hK : K ≤ 10) (h1 : M 20 1 = nI p) (h2 : M 20 2 = nI K) (hc : CNT M q) :
    (∀ o, o ≠ 20 → gX0_record M q o = gX4_copyFrom M (22 + 8 * p) q o) ∧ gX0_record M q 20 1 = nI ((p + 1) % 10) ∧ gX0_record M q 20 2 = nI (min 10 (K + 1)) := by
  have h20 : gX4_copyFrom M (22 + 8 * p) q 20 = M 20 := copy_rf hc 20 (by omega)
  unfold gX0_record
  rw [h1, nI_clamp (by omega), h20, h1]
  have hkp : xmin 10 (nI K + 1) = nI (min 10 (K + 1)) := by
    rw [nI_1, show (10 : Int32) = nI 10 from rfl, nI_min (by omega) (by omega)]
  by_cases h9 : (10 : Int32) ≤ nI p + 1
  · have : p = 9 := by rw [nI_1, show (10 : Int32) = nI 10 from rfl, nI_leI (by omega) (by omega)] at h9; omega
    rw [if_pos h9]
    refine ⟨fun o ho => by rw [mU_ne _ _ _ ho, mU_ne _ _ _ ho], ?_, ?_⟩
    · rw [mU_row (by decide), mu_same, this]; rfl
    · rw [mu_same, mU_row (by decide), h20, h2, hkp]
  · have : p < 9 := by rw [nI_1, show (10 : Int32) = nI 10 from rfl, nI_leI (by omega) (by omega)] at h9; omega
    rw [if_neg h9]
    refine ⟨fun o ho => by rw [mU_ne _ _ _ ho, mU_ne _ _ _ ho], ?_, ?_⟩
    · rw [mU_row (by decide), mu_same, nI_1, Nat.mod_eq_of_lt (by omega)]
    · rw [mu_same, mU_row (by decide), h20, h2, hkp]
theorem rem_rows {N : Mem} {K : Nat} (hK : K ≤ 10) (h6 : N 124 6 = nI K) : gX8_remembers N 124 6 = nI (min 10 (K + 1)) ∧
    (K < 10 → (∀ t, t < 56 → gX8_remembers N 129 (56 * K + t) = N 127 t) ∧ ∀ i, i < 56 * K → gX8_remembers N 129 i = N 129 i) ∧
    (K = 10 → (∀ t, t < 56 → gX8_remembers N 129 (504 + t) = N 127 t) ∧ ∀ i, i < 504 → gX8_remembers N 129 i = N 129 (i + 56)) := by
  unfold gX8_remembers
  by_cases hc : N 124 6 = 10
  · have hK10 : K = 10 := by
      rcases Nat.lt_or_ge K 10 with h | h
      · exfalso
        rw [h6] at hc
        have := sm_nI (k := K) (by omega)
        rw [hc, show (10 : Int32).toInt = 10 from rfl] at this
        omega
      · omega
    rw [if_pos hc]
    have hf6 : gX8_forgetsOldest N 124 6 = nI 9 := by
      unfold gX8_forgetsOldest
      rw [(fo3 505 N 0 (by omega) (by omega)).1, hc]; rfl
    have hf127 : gX8_forgetsOldest N 127 = N 127 := (fo3 505 N 0 (by omega) (by omega)).2.2 127 (by decide) (by decide)
    obtain ⟨f1, f2⟩ := fo_loop 505 N 0 (by omega) (by omega)
    obtain ⟨i1, i2, i3⟩ := rm_loop (n := 9) (by decide) 57 (gX8_forgetsOldest N) 0 (by omega) (by omega) hf6
    refine ⟨by rw [i1, hK10]; rfl, fun h => by omega, fun _ => ⟨fun t ht => ?_, fun i hi => ?_⟩⟩
    · rw [i2 (504 + t) (by omega) (by omega), hf127, show 504 + t - 56 * 9 = t by omega]
    · rw [i3 i (by omega)]
      exact f1 i (by omega) hi
  · have hK9 : K < 10 := by
      rcases Nat.lt_or_ge K 10 with h | h
      · exact h
      · exact absurd (by rw [h6, show K = 10 by omega]; rfl) hc
    rw [if_neg hc]
    obtain ⟨i1, i2, i3⟩ := rm_loop (n := K) (by omega) 57 N 0 (by omega) (by omega) h6
    refine ⟨by rw [i1, Nat.min_eq_right (by omega)], fun _ => ⟨fun t ht => ?_, fun i hi => i3 i (by omega)⟩, fun h => by omega⟩
    rw [i2 (56 * K + t) (by omega) (by omega), show 56 * K + t - 56 * K = t by omega]
theorem record_rel {M N : Mem} {K p c : Nat} (h : HR M N K p) (hr : RB M N 1 c) : HR (gX0_record M 1) (gX8_remembers N) (min 10 (K + 1)) ((p + 1) % 10) ∧ RB (gX0_record M 1) (gX8_remembers N) 1 c := by
  obtain ⟨hK, hp, h1, h2, h6, hs⟩ := h
  have hcn := hr.2.cnt
  obtain ⟨r1, r2, r3⟩ := rec_rows hp hK h1 h2 hcn
  obtain ⟨s1, s2, s3⟩ := rem_rows hK h6
  have hro : ∀ o, o ≠ 20 → (o < 22 + 8 * p ∨ 22 + 8 * p + 8 ≤ o) → gX0_record M 1 o = M o := fun o ho hh => (r1 o ho).trans (copy_rf hcn o hh)
  have hnew : RQ (gX0_record M 1) (22 + 8 * p) (N 127) c := rq_ext (fun o h1 h2 => r1 o (by omega)) (fun _ _ => rfl) (rq_copy (Or.inl (by omega)) hr.2)
  refine ⟨⟨by omega, Nat.mod_lt _ (by decide), r2, r3, s1, fun i hi => ?_⟩, pts_row (rm_ne (by decide) (by decide)) hr.1, ?_⟩
  · rcases Nat.lt_or_ge K 10 with hK9 | hK9
    · obtain ⟨t1, t2⟩ := s2 hK9
      rw [Nat.min_eq_right (by omega)] at hi ⊢
      by_cases e : i = K
      · refine ⟨c, ?_⟩
        rw [show ((p + 1) % 10 + 10 - (K + 1) + i) % 10 = p by omega]
        exact rq_ext (fun _ _ _ => rfl) (fun t ht => by show gX8_remembers N 129 (56 * i + t) = N 127 t; rw [e]; exact t1 t ht) hnew
      · obtain ⟨c2, hc2⟩ := hs i (by omega)
        refine ⟨c2, ?_⟩
        rw [show ((p + 1) % 10 + 10 - (K + 1) + i) % 10 = (p + 10 - K + i) % 10 by omega]
        exact rq_ext (fun o h1 h2 => hro o (by omega) (by omega)) (fun t ht => t2 _ (by omega)) hc2
    · have hK10 : K = 10 := by omega
      obtain ⟨t1, t2⟩ := s3 hK10
      subst hK10
      rw [show min 10 (10 + 1) = 10 from rfl] at hi ⊢
      by_cases e : i = 9
      · refine ⟨c, ?_⟩
        rw [show ((p + 1) % 10 + 10 - 10 + i) % 10 = p by omega]
        exact rq_ext (fun _ _ _ => rfl) (fun t ht => by show gX8_remembers N 129 (56 * i + t) = N 127 t; rw [e]; exact t1 t ht) hnew
      · obtain ⟨c2, hc2⟩ := hs (i + 1) (by omega)
        refine ⟨c2, ?_⟩
        rw [show ((p + 1) % 10 + 10 - 10 + i) % 10 = (p + 10 - 10 + (i + 1)) % 10 by omega]
        exact rq_ext (fun o h1 h2 => hro o (by omega) (by omega)) (fun t ht => (t2 _ (by omega)).trans (by show N 129 (56 * i + t + 56) = N 129 (56 * (i + 1) + t); rw [show 56 * i + t + 56 = 56 * (i + 1) + t by omega])) hc2
  · refine rq_ext (fun o h1 h2 => hro o (by omega) (by omega)) (fun t ht => by rw [rm_127]) hr.2
