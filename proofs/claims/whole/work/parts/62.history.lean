/-! the history -/
theorem ri_ext {A B B' : Nat → Int32} {k : Nat} (hk : k < 6) (hb : ∀ t, t < 56 → B' t = B t) (h : RI A B k) : RI A B' k := ri_out (fun j h1 h2 => hb j (by omega)) h
theorem gi_ext {B B' : Nat → Int32} {k : Nat} (hk : k < 6) (hb : ∀ t, t < 56 → B' t = B t) (h : GI B k) : GI B' k := gi_out (fun j h1 h2 => hb j (by omega)) h
theorem rr_ext {M M' : Mem} {r c : Nat} {B B' : Nat → Int32} (hm : ∀ o, r ≤ o → o < r + 8 → M' o = M o) (hb : ∀ t, t < 56 → B' t = B t) (h : RR M r B c) : RR M' r B' c := by
  obtain ⟨hc, h5, hh, hg, hk⟩ := h
  refine ⟨hc, by rw [hb 5 (by decide)]; exact h5, rh_row (hm r (by omega) (by omega)) (fun j hj => hb j (by omega)) hh, gh_row (fun j hj => hb j (by omega)) hg, fun k hk2 => ?_⟩
  rw [hm _ (by omega) (by omega)]
  exact ⟨ri_ext (by omega) hb (hk k hk2).1, gi_ext (by omega) hb (hk k hk2).2⟩
theorem RR.cnt {M : Mem} {r c : Nat} {B : Nat → Int32} (h : RR M r B c) : CNT M r := ⟨c, h.1, h.2.2.1.1.trans h.2.1⟩
/-- K states kept, the next place is p -/
def HR (M N : Mem) (K p : Nat) : Prop := K ≤ 10 ∧ p < 10 ∧ M 20 1 = nI p ∧ M 20 2 = nI K ∧ N 124 6 = nI K ∧ ∀ i, i < K → ∃ c, RR M (22 + 8 * ((p + 10 - K + i) % 10)) (fun t => N 129 (56 * i + t)) c
theorem rec_rows {M : Mem} {q p K : Nat} (hp : p < 10) (hK : K ≤ 10) (h1 : M 20 1 = nI p) (h2 : M 20 2 = nI K) (hc : CNT M q) :
    (∀ o, o ≠ 20 → gX0_record M q o = gX4_copyFrom M (22 + 8 * p) q o) ∧ gX0_record M q 20 1 = nI ((p + 1) % 10) ∧ gX0_record M q 20 2 = nI (min 10 (K + 1)) := by
  have h20 : gX4_copyFrom M (22 + 8 * p) q 20 = M 20 := copy_rf hc 20 (by omega)
  unfold gX0_record
  rw [h1, nI_clamp (by omega), h20, h1]
  have hkp : xmin 10 (nI K + 1) = nI (min 10 (K + 1)) := by
    rw [nI_1, show (10 : Int32) = nI 10 from rfl, nI_min (by omega) (by omega)]
  by_cases h9 : (10 : Int32) ≤ nI p + 1
  · have : p = 9 := by rw [nI_1, show (10 : Int32) = nI 10 from rfl, nI_leI (by omega) (by omega)] at h9; omega
    rw [if_pos h9]
    refine ⟨fun o ho => by rw [mU_ne _ _ _ ho, mU_ne _ _ _ ho], ?_, ?_⟩
    · rw [mU_row (by decide), mu_same, this]; rfl
    · rw [mu_same, mU_row (by decide), h20, h2, hkp]
  · have : p < 9 := by rw [nI_1, show (10 : Int32) = nI 10 from rfl, nI_leI (by omega) (by omega)] at h9; omega
    rw [if_neg h9]
    refine ⟨fun o ho => by rw [mU_ne _ _ _ ho, mU_ne _ _ _ ho], ?_, ?_⟩
    · rw [mU_row (by decide), mu_same, nI_1, Nat.mod_eq_of_lt (by omega)]
    · rw [mu_same, mU_row (by decide), h20, h2, hkp]
theorem rem_rows {N : Mem} {K : Nat} (hK : K ≤ 10) (h6 : N 124 6 = nI K) : gX8_remembers N 124 6 = nI (min 10 (K + 1)) ∧
    (K < 10 → (∀ t, t < 56 → gX8_remembers N 129 (56 * K + t) = N 127 t) ∧ ∀ i, i < 56 * K → gX8_remembers N 129 i = N 129 i) ∧
    (K = 10 → (∀ t, t < 56 → gX8_remembers N 129 (504 + t) = N 127 t) ∧ ∀ i, i < 504 → gX8_remembers N 129 i = N 129 (i + 56)) := by
  unfold gX8_remembers
  by_cases hc : N 124 6 = 10
  · have hK10 : K = 10 := by
      rcases Nat.lt_or_ge K 10 with h | h
      · exfalso
        rw [h6] at hc
        have := sm_nI (k := K) (by omega)
        rw [hc, show (10 : Int32).toInt = 10 from rfl] at this
        omega
      · omega
    rw [if_pos hc]
    have hf6 : gX8_forgetsOldest N 124 6 = nI 9 := by
      unfold gX8_forgetsOldest
      rw [(fo3 505 N 0 (by omega) (by omega)).1, hc]; rfl
    have hf127 : gX8_forgetsOldest N 127 = N 127 := (fo3 505 N 0 (by omega) (by omega)).2.2 127 (by decide) (by decide)
    obtain ⟨f1, f2⟩ := fo_loop 505 N 0 (by omega) (by omega)
    obtain ⟨i1, i2, i3⟩ := rm_loop (n := 9) (by decide) 57 (gX8_forgetsOldest N) 0 (by omega) (by omega) hf6
    refine ⟨by rw [i1, hK10]; rfl, fun h => by omega, fun _ => ⟨fun t ht => ?_, fun i hi => ?_⟩⟩
    · rw [i2 (504 + t) (by omega) (by omega), hf127, show 504 + t - 56 * 9 = t by omega]
    · rw [i3 i (by omega)]
      exact f1 i (by omega) hi
  · have hK9 : K < 10 := by
      rcases Nat.lt_or_ge K 10 with h | h
      · exact h
      · exact absurd (by rw [h6, show K = 10 by omega]; rfl) hc
    rw [if_neg hc]
    obtain ⟨i1, i2, i3⟩ := rm_loop (n := K) (by omega) 57 N 0 (by omega) (by omega) h6
    refine ⟨by rw [i1, Nat.min_eq_right (by omega)], fun _ => ⟨fun t ht => ?_, fun i hi => i3 i (by omega)⟩, fun h => by omega⟩
    rw [i2 (56 * K + t) (by omega) (by omega), show 56 * K + t - 56 * K = t by omega]
theorem record_rel {M N : Mem} {K p c : Nat} (h : HR M N K p) (hr : RA M N 1 c) : HR (gX0_record M 1) (gX8_remembers N) (min 10 (K + 1)) ((p + 1) % 10) ∧ RA (gX0_record M 1) (gX8_remembers N) 1 c := by
  obtain ⟨hK, hp, h1, h2, h6, hs⟩ := h
  have hcn := hr.2.cnt
  obtain ⟨r1, r2, r3⟩ := rec_rows hp hK h1 h2 hcn
  obtain ⟨s1, s2, s3⟩ := rem_rows hK h6
  have hro : ∀ o, o ≠ 20 → (o < 22 + 8 * p ∨ 22 + 8 * p + 8 ≤ o) → gX0_record M 1 o = M o := fun o ho hh => (r1 o ho).trans (copy_rf hcn o hh)
  have hnew : RR (gX0_record M 1) (22 + 8 * p) (N 127) c := rr_ext (fun o h1 h2 => r1 o (by omega)) (fun _ _ => rfl) (rr_copy (Or.inl (by omega)) hr.2)
  refine ⟨⟨by omega, Nat.mod_lt _ (by decide), r2, r3, s1, fun i hi => ?_⟩, pts_row (rm_ne (by decide) (by decide)) hr.1, ?_⟩
  · rcases Nat.lt_or_ge K 10 with hK9 | hK9
    · obtain ⟨t1, t2⟩ := s2 hK9
      rw [Nat.min_eq_right (by omega)] at hi ⊢
      by_cases e : i = K
      · refine ⟨c, ?_⟩
        rw [show ((p + 1) % 10 + 10 - (K + 1) + i) % 10 = p by omega]
        exact rr_ext (fun _ _ _ => rfl) (fun t ht => by show gX8_remembers N 129 (56 * i + t) = N 127 t; rw [e]; exact t1 t ht) hnew
      · obtain ⟨c2, hc2⟩ := hs i (by omega)
        refine ⟨c2, ?_⟩
        rw [show ((p + 1) % 10 + 10 - (K + 1) + i) % 10 = (p + 10 - K + i) % 10 by omega]
        exact rr_ext (fun o h1 h2 => hro o (by omega) (by omega)) (fun t ht => t2 _ (by omega)) hc2
    · have hK10 : K = 10 := by omega
      obtain ⟨t1, t2⟩ := s3 hK10
      subst hK10
      rw [show min 10 (10 + 1) = 10 from rfl] at hi ⊢
      by_cases e : i = 9
      · refine ⟨c, ?_⟩
        rw [show ((p + 1) % 10 + 10 - 10 + i) % 10 = p by omega]
        exact rr_ext (fun _ _ _ => rfl) (fun t ht => by show gX8_remembers N 129 (56 * i + t) = N 127 t; rw [e]; exact t1 t ht) hnew
      · obtain ⟨c2, hc2⟩ := hs (i + 1) (by omega)
        refine ⟨c2, ?_⟩
        rw [show ((p + 1) % 10 + 10 - 10 + i) % 10 = (p + 10 - 10 + (i + 1)) % 10 by omega]
        exact rr_ext (fun o h1 h2 => hro o (by omega) (by omega)) (fun t ht => (t2 _ (by omega)).trans (by show N 129 (56 * i + t + 56) = N 129 (56 * (i + 1) + t); rw [show 56 * i + t + 56 = 56 * (i + 1) + t by omega])) hc2
  · refine rr_ext (fun o h1 h2 => hro o (by omega) (by omega)) (fun t ht => by rw [rm_127]) hr.2
