/-! a line of the description, of both -/
/-- the reader beside the reference: nothing told yet, and the rooms are the same; or an error told -/
def LB (M N : Mem) (e t c : Nat) : Prop := LA M N e t ∧ RB M N 12 c ∧ KEYS N
def AB (M N : Mem) (e t s c : Nat) : Prop := AT M N e t s ∧ RB M N 12 c ∧ KEYS N
/-- behind a line -/
def BL (M N : Mem) (e t : Nat) : Prop := (∃ t2 c2, t ≤ t2 ∧ LB M N e t2 c2) ∨ ER M N
theorem lb_at {M N : Mem} {e t c : Nat} (h : LB M N e t c) : ∃ t2 s2, AB (gX6_next M) N e t2 s2 c ∧ t ≤ s2 := by
  obtain ⟨t2, s2, ha, hs⟩ := la_at h.1
  exact ⟨t2, s2, ⟨ha, rb_ext (fun o h1 h2 => nx_sr M o (by omega)) rfl rfl h.2.1, h.2.2⟩, hs⟩
theorem ab_next {M N : Mem} {e t s c : Nat} (h : AB M N e t s c) : LB M (gX8_next N) e t c :=
  ⟨at_next h.1, rb_ext (fun _ _ _ => rfl) ((n8_nx N).1.1 125 (by decide)) ((n8_nx N).1.1 127 (by decide)) h.2.1, keys_row ((n8_nx N).1.1 126 (by decide)) h.2.2⟩
theorem lb_here {M N : Mem} {e t c : Nat} (h : LB M N e t c) (x y : Int32) :
    (∃ v t2 s2, gX3_takeNumber M x y = gX6_next M ∧ fX3_takeNumber M x y = v ∧ gX8_here N x y = N ∧ fX8_here N x y = v ∧ AB (gX6_next M) N e t2 s2 c ∧ t < t2 ∧ ¬ v < x ∧ v ≤ y) ∨ (ER (gX3_takeNumber M x y) (gX8_here N x y) ∧ fX3_takeNumber M x y = -1) := by
  rcases take_here h.1 x y with ⟨v, t2, s2, e1, e2, e3, e4, ha, hlt, hx, hy⟩ | h2
  · exact Or.inl ⟨v, t2, s2, e1, e2, e3, e4, ⟨ha, rb_ext (fun o h1 h2 => nx_sr M o (by omega)) rfl rfl h.2.1, h.2.2⟩, hlt, hx, hy⟩
  · exact Or.inr h2
theorem lb_take {M N : Mem} {e t c : Nat} (h : LB M N e t c) (x y : Int32) :
    (∃ v t2, fX3_takeNumber M x y = v ∧ fX8_takesNumber N x y = v ∧ LB (gX3_takeNumber M x y) (gX8_takesNumber N x y) e t2 c ∧ t < t2 ∧ ¬ v < x ∧ v ≤ y) ∨ ER (gX3_takeNumber M x y) (gX8_takesNumber N x y) := by
  rcases take_next h.1 x y with ⟨v, t2, e1, e2, ha, hlt, hx, hy⟩ | h2
  · refine Or.inl ⟨v, t2, e1, e2, ⟨ha, ?_, ?_⟩, hlt, hx, hy⟩
    · exact rb_ext (fun o h1 h2 => tk_sr M x y (by omega) (by omega)) ((nr_tn N x y).1 125 (by decide)) ((nr_tn N x y).1 127 (by decide)) h.2.1
    · exact keys_row ((nr_tn N x y).1 126 (by decide)) h.2.2
  · exact Or.inr h2
theorem LB.ok {M N : Mem} {e t c : Nat} (h : LB M N e t c) : M 9 2 = 0 ∧ N 124 20 = 0 := ⟨h.1.2.2.2.2.1.1, h.1.2.2.2.2.2.1⟩
/-- the rooms change behind a number -/
theorem lb_put {M M' N N' : Mem} {e t c c2 : Nat} (h : LB M N e t c) (hm : ∀ o, o < 12 → M' o = M o) (hn : ∀ o, o ≠ 127 → N' o = N o) (hr : RB M' N' 12 c2) : LB M' N' e t c2 :=
  ⟨la_ext (hm 10 (by decide)) (hm 11 (by decide)) (hm 9 (by decide)) (hn 124 (by decide)) (hn 131 (by decide)) h.1, hr, keys_row (hn 126 (by decide)) h.2.2⟩
theorem ab_put {M M' N N' : Mem} {e t s c c2 : Nat} (h : AB M N e t s c) (hm : ∀ o, o < 12 → M' o = M o) (hn : ∀ o, o ≠ 127 → N' o = N o) (hr : RB M' N' 12 c2) : AB M' N' e t s c2 :=
  ⟨at_ext (hm 10 (by decide)) (hm 11 (by decide)) (hm 9 (by decide)) (hn 124 (by decide)) (hn 131 (by decide)) h.1, hr, keys_row (hn 126 (by decide)) h.2.2⟩
theorem six_iff {M N : Mem} {c : Nat} (h : RB M N 12 c) : (M 12 1 = 6 ↔ N 127 5 = 6) ∧ (N 127 5 = 6 ↔ c = 6) := by
  have h1 : M 12 1 = N 127 5 := h.ra.many
  have h2 : N 127 5 = nI c := h.2.1.2.1
  have hc := h.2.1.1
  refine ⟨by rw [h1], ?_⟩
  rw [h2, show (6 : Int32) = nI 6 from rfl, nI_eq (by omega) (by omega)]
theorem rng_ub {v : Int32} {a b : Nat} (h1 : ¬ v < nI a) (h2 : v ≤ nI b) (hb : b < 2 ^ 31 := by decide) (ha : a < 2 ^ 31 := by decide) : UB v b := by
  refine ub_le (N := b) (hN := hb) (fun h => h1 ?_) h2 rfl
  exact Int32.lt_of_lt_of_le h (by rw [show (0 : Int32) = nI 0 from rfl, nI_leI (by decide) ha]; exact Nat.zero_le _)
theorem line_hair {M N : Mem} {e t s c : Nat} (h : AB M N e t s c) : BL (gX3_readHair M) (gX8_readsHair N) e t := by
  obtain ⟨s1, s2⟩ := six_iff h.2.1
  unfold gX3_readHair gX8_readsHair fX8_hasRoom gX8_hasRoom
  by_cases h6 : N 127 5 = 6
  · have hE := at_err h.1 (x := 4) (by decide)
    rw [if_pos (s1.mpr h6), er_take hE, if_neg hE.2.1]
    simp only [if_pos h6, if_pos]
    exact Or.inr hE
  · rw [if_neg (fun hh => h6 (s1.mp hh))]
    simp only [if_neg h6, if_neg (show ¬ (1 : Int32) = 0 by decide)]
    rcases lb_take (ab_next h) 1 20 with ⟨v, t2, e1, e2, hL, hlt, hx, hy⟩ | hE
    · rw [if_pos hL.ok.1, if_pos hL.ok.2, e1, e2]
      have hc6 : c < 6 := by
        have := h.2.1.2.1.1
        rcases Nat.lt_or_ge c 6 with h1 | h1
        · exact h1
        · exact absurd (s2.mpr (by omega)) h6
      have hr := hair_rel hL.2.1.ra hL.2.1.af hc6 (rng_ub (a := 1) (b := 20) hx hy)
      exact Or.inl ⟨t2, c + 1, by omega, lb_put hL (fun o ho => newHair_rf hL.2.1.2.cnt o (by omega)) (fun o ho => hh_ne ho) (rb_of hr.1 hr.2 (hh_bxs hL.2.1.bxs) (by rw [(hh_rows v hL.2.1.2.1.2.1 hc6).2.2.2.2.2.2.2.2.2.2 0 (by decide) (by decide) (by omega)]; exact hL.2.1.min))⟩
    · rw [if_neg hE.2.1, if_neg (er_f hE)]
      exact Or.inr hE
theorem line_bulb {M N : Mem} {e t s c : Nat} (h : AB M N e t s c) : BL (gX3_readBulb M) (gX8_readsBulb N) e t := by
  obtain ⟨s1, s2⟩ := six_iff h.2.1
  unfold gX3_readBulb gX8_readsBulb fX8_hasRoom gX8_hasRoom
  by_cases h6 : N 127 5 = 6
  · have hE := at_err h.1 (x := 4) (by decide)
    rw [if_pos (s1.mpr h6), er_take hE, if_neg hE.2.1]
    simp only [if_pos h6, if_pos]
    exact Or.inr hE
  · rw [if_neg (fun hh => h6 (s1.mp hh))]
    simp only [if_neg h6, if_neg (show ¬ (1 : Int32) = 0 by decide)]
    rcases lb_take (ab_next h) 0 60 with ⟨v, t2, e1, e2, hL, hlt, hx, hy⟩ | hE
    · rw [if_pos hL.ok.1, if_pos hL.ok.2, e1, e2]
      have hc6 : c < 6 := by
        have := h.2.1.2.1.1
        rcases Nat.lt_or_ge c 6 with h1 | h1
        · exact h1
        · exact absurd (s2.mpr (by omega)) h6
      have hr := bulb_rel hL.2.1.ra hL.2.1.af hc6 (rng_ub (a := 0) (b := 60) hx hy)
      exact Or.inl ⟨t2, c + 1, by omega, lb_put hL (fun o ho => newBulb_rf hL.2.1.2.cnt o (by omega)) (fun o ho => hb_ne ho) (rb_of hr.1 hr.2 (hb_bxs hL.2.1.bxs) (by rw [(hb_rows v hL.2.1.2.1.2.1 hc6).2.2.2.2.2.2.2.2.2 0 (by decide) (by omega)]; exact hL.2.1.min))⟩
    · rw [if_neg hE.2.1, if_neg (er_f hE)]
      exact Or.inr hE
/-- the hairs at first stay where another field is written -/
theorem rb_inst {M M' N N' : Mem} {c : Nat} (h : RB M N 12 c) (hr : RA M' N' 12 c) (ha : A2 12 M M') (h6 : N' 127 6 = N 127 6) (hb : BXS N') (h0 : N' 127 0 = N 127 0) : RB M' N' 12 c := rb_of hr (af_a2 h.2.1.1 h.af ha h6) hb (by rw [h0]; exact h.min)
/-- the number of an instrument -/
theorem lb_inst {M N : Mem} {e t c : Nat} (h : LB M N e t c) :
    (∃ k t2 s2, k < c ∧ gX3_takeInstrument M = gX6_next M ∧ fX3_takeInstrument M = some (12 + 1 + 1 + k) ∧ gX8_instrumentHere N = N ∧ fX8_instrumentHere N = nI k ∧ AB (gX6_next M) N e t2 s2 c ∧ t < t2) ∨ (ER (gX3_takeInstrument M) (gX8_instrumentHere N) ∧ fX3_takeInstrument M = none) := by
  have hc6 := h.2.1.2.1.1
  have hm : M 12 1 = N 127 5 := h.2.1.ra.many
  have h5 : N 127 5 = nI c := h.2.1.2.1.2.1
  unfold gX3_takeInstrument fX3_takeInstrument gX8_instrumentHere fX8_instrumentHere
  rw [hm]
  rcases lb_here h 0 (N 127 5 - 1) with ⟨v, t2, s2, e1, e2, e3, e4, ha, hlt, hx, hy⟩ | ⟨hE, e2⟩
  · left
    have hm2 : gX6_next M 12 1 = nI c := ha.2.1.ra.many.trans h5
    have hv0 : (0 : Int32) ≤ v := Int32.not_lt.mp hx
    have hvi := Int32.le_iff_toInt_le.mp hv0
    have hyi := Int32.le_iff_toInt_le.mp hy
    have e5 : (N 127 5 - 1).toInt = (c : Int) - 1 := by rw [h5]; exact sm_sub (sm_nI (by omega)) rfl (by omega) (by omega)
    rw [e5] at hyi
    rw [show (0 : Int32).toInt = 0 from rfl] at hvi
    have hk : v = nI v.toInt.toNat := Int32.toInt_inj.mp (by rw [sm_nI (by omega)]; omega)
    refine ⟨v.toInt.toNat, t2, s2, by omega, e1, ?_, e3, by rw [e4]; exact hk, ha, hlt⟩
    rw [e1, e2]
    unfold fX4_find
    rw [if_neg hx, hm2, hk, if_neg (by rw [nI_leI (by omega) (by omega)]; omega), nI_clamp (by omega), ← hk]
  · right
    refine ⟨hE, ?_⟩
    rw [e2]
    unfold fX4_find
    rw [if_pos (by decide)]
theorem line_box {M N : Mem} {e t s c : Nat} (h : AB M N e t s c) : BL (match fX3_takeInstrument M with | none => (gX3_readBox_null (gX3_takeInstrument M)) | some o => (gX3_readBox (gX3_takeInstrument M) o)) (gX8_readsBox N) e t := by
  unfold gX8_readsBox
  rcases lb_inst (ab_next h) with ⟨k, t2, s2, hkc, e1, e2, e3, e4, ha, hlt⟩ | ⟨hE, e2⟩
  · have hc6 := ha.2.1.2.1.1
    have hbx := boxed_eq (ha.2.1.ra.one hkc)
    rw [e2, e1, e3, e4, if_pos ha.1.2.1, nI_clamp (show k < 2 ^ 31 by omega)]
    show BL (gX3_readBox (gX6_next M) (12 + 1 + 1 + k)) _ e t
    unfold gX3_readBox
    rw [hbx, show (4 : Int32) - 1 = 3 from rfl]
    by_cases hb : fX8_isBoxed (gX8_next N) k = 0
    · rw [if_pos hb, if_pos hb, LX8_readsBox_29g]
      have hgo : gX8_goesOn (gX8_next N) = gX8_next (gX8_next N) := by unfold gX8_goesOn; rw [if_pos ha.1.2.1]
      rw [hgo]
      rcases lb_take (ab_next ha) 0 3 with ⟨v, t3, f1, f2, hL, hlt2, hx, hy⟩ | hE
      · rw [if_pos hL.ok.1, if_pos hL.ok.2, f1, f2, nI_clamp (show k < 2 ^ 31 by omega)]
        have hr := ra_inst (i := 8) (d := 15) (v := v) hL.2.1.ra hkc (by decide) (gi_box (Or.inr (rng_ub (a := 0) (b := 3) hx hy)) (hL.2.1.2.1.2.2.2.2 k hkc).2)
        exact Or.inl ⟨t3, c, by omega, lb_put hL (fun o ho => mU_ne _ _ _ (by omega)) (fun o ho => mU_ne _ _ _ ho) (rb_inst hL.2.1 hr (A2.put (by decide)) (mU_row (by omega)) (bxs_put (Or.inr (rng_ub (a := 0) (b := 3) hx hy)) hL.2.1.bxs) (mU_row (by omega)))⟩
      · rw [if_neg hE.2.1, if_neg (er_f hE)]
        exact Or.inr hE
    · rw [if_neg hb, if_neg hb, LX8_readsBox_29g]
      have hE := at_err ha.1 (x := 5) (by decide)
      rw [er_take hE, if_neg hE.2.1, go_er (er_f hE), tn_er (er_f hE), if_neg (er_f hE)]
      exact Or.inr hE
  · rw [e2, if_neg (er_f hE), LX8_readsBox_29g, go_er (er_f hE), tn_er (er_f hE), if_neg (er_f hE)]
    exact Or.inr hE
theorem line_out {M N : Mem} {e t s c : Nat} (h : AB M N e t s c) : BL (match fX3_takeInstrument M with | none => (gX3_readOut_null (gX3_takeInstrument M)) | some o => (gX3_readOut (gX3_takeInstrument M) o)) (gX8_readsOut N) e t := by
  unfold gX8_readsOut
  rcases lb_inst (ab_next h) with ⟨k, t2, s2, hkc, e1, e2, e3, e4, ha, hlt⟩ | ⟨hE, e2⟩
  · have hc6 := ha.2.1.2.1.1
    have hbx := boxed_eq (ha.2.1.ra.one hkc)
    rw [e2, e1, e3, e4, if_pos ha.1.2.1, nI_clamp (show k < 2 ^ 31 by omega)]
    show BL (gX3_readOut (gX6_next M) (12 + 1 + 1 + k)) _ e t
    unfold gX3_readOut
    rw [hbx]
    by_cases hb : fX8_isBoxed (gX8_next N) k = 0
    · have hE := at_err ha.1 (x := 5) (by decide)
      rw [if_pos hb, if_pos hb, LX8_readsOut_29g, if_neg (er_f hE)]
      exact Or.inr hE
    · rw [if_neg hb, if_neg hb, LX8_readsOut_29g, if_pos ha.1.2.1, nI_clamp (show k < 2 ^ 31 by omega)]
      have hr := ra_inst (i := 8) (d := 15) (v := -1) ha.2.1.ra hkc (by decide) (gi_box (Or.inl rfl) (ha.2.1.2.1.2.2.2.2 k hkc).2)
      exact Or.inl ⟨t2, c, by omega, ab_next (ab_put ha (fun o ho => mU_ne _ _ _ (by omega)) (fun o ho => mU_ne _ _ _ ho) (rb_inst ha.2.1 hr (A2.put (by decide)) (mU_row (by omega)) (bxs_put (Or.inl rfl) ha.2.1.bxs) (mU_row (by omega))))⟩
  · rw [e2, if_neg (er_f hE), LX8_readsOut_29g, if_neg (er_f hE)]
    exact Or.inr hE
theorem a2_tight (r : Nat) (M : Mem) (o : Nat) : A2 r M (gX1_tightenSpring M o) := by
  unfold gX1_tightenSpring
  split
  · exact A2.put (by decide)
  · exact ((A2.put (by decide)).trans (A2.put (by decide))).trans (A2.put (by decide))
theorem ti_lo (N : Mem) (k : Nat) {j : Nat} (hj : j < 8) : gX8_tightens N k 127 j = N 127 j := by
  unfold gX8_tightens
  split
  · exact mU_row (by omega)
  · rw [mU_row (by omega), mU_row (by omega), mU_row (by omega)]
theorem ti_bxs {N : Mem} {k : Nat} (h : BXS N) : BXS (gX8_tightens N k) := by
  unfold gX8_tightens
  split
  · exact bxs_putn (by omega) h
  · exact bxs_putn (by omega) (bxs_putn (by omega) (bxs_putn (by omega) h))
theorem line_tight {M N : Mem} {e t s c : Nat} (h : AB M N e t s c) : BL (match fX3_takeInstrument M with | none => (gX3_readTighten_null (gX3_takeInstrument M)) | some o => (gX3_readTighten (gX3_takeInstrument M) o)) (gX8_readsTighten N) e t := by
  unfold gX8_readsTighten
  rcases lb_inst (ab_next h) with ⟨k, t2, s2, hkc, e1, e2, e3, e4, ha, hlt⟩ | ⟨hE, e2⟩
  · have hc6 := ha.2.1.2.1.1
    have h1 := ha.2.1.ra.one hkc
    have hh := hair_eq h1
    have hha := h1.2.2.2.1.2.1
    rw [e2, e1, e3, e4, if_pos ha.1.2.1, nI_clamp (show k < 2 ^ 31 by omega)]
    show BL (gX3_readTighten (gX6_next M) (12 + 1 + 1 + k)) _ e t
    unfold gX3_readTighten
    rw [← hh, hha, show 8 * k + 9 = 8 * k + 9 from rfl]
    by_cases hb : fX8_isOfHair (gX8_next N) k = 0
    · have hE := at_err ha.1 (x := 3) (by decide)
      rw [if_pos hb, if_pos hb, LX8_readsTighten_29g, if_neg (er_f hE), LX8_readsTighten_55g, if_neg (er_f hE)]
      exact Or.inr hE
    · rw [if_neg hb, if_neg hb, LX8_readsTighten_29g, if_pos ha.1.2.1, nI_clamp (show k < 2 ^ 31 by omega)]
      by_cases h0 : gX8_next N 127 (8 * k + 9) = 0
      · have hE := at_err ha.1 (x := 5) (by decide)
        rw [if_pos h0, if_pos h0, LX8_readsTighten_55g, if_neg (er_f hE)]
        exact Or.inr hE
      · rw [if_neg h0, if_neg h0, LX8_readsTighten_55g, if_pos ha.1.2.1, nI_clamp (show k < 2 ^ 31 by omega)]
        have hr := ra_tighten ha.2.1.ra hkc h0
        exact Or.inl ⟨t2, c, by omega, ab_next (ab_put ha (fun o ho => gX1_tightenSpring_ne (by omega)) (fun o ho => ti_ne ho) (rb_inst ha.2.1 hr (a2_tight _ _ _) (ti_lo _ _ (by decide)) (ti_bxs ha.2.1.bxs) (ti_lo _ _ (by decide))))⟩
  · rw [e2, if_neg (er_f hE), LX8_readsTighten_29g, if_neg (er_f hE), LX8_readsTighten_55g, if_neg (er_f hE)]
    exact Or.inr hE
theorem line_moist {M N : Mem} {e t s c : Nat} (h : AB M N e t s c) : BL (match fX3_takeInstrument M with | none => (gX3_readMoisten_null (gX3_takeInstrument M)) | some o => (gX3_readMoisten (gX3_takeInstrument M) o)) (gX8_readsMoisten N) e t := by
  unfold gX8_readsMoisten
  rcases lb_inst (ab_next h) with ⟨k, t2, s2, hkc, e1, e2, e3, e4, ha, hlt⟩ | ⟨hE, e2⟩
  · have hc6 := ha.2.1.2.1.1
    have h1 := ha.2.1.ra.one hkc
    have hh := hair_eq h1
    rw [e2, e1, e3, e4, if_pos ha.1.2.1, nI_clamp (show k < 2 ^ 31 by omega)]
    show BL (gX3_readMoisten (gX6_next M) (12 + 1 + 1 + k)) _ e t
    unfold gX3_readMoisten
    rw [← hh]
    by_cases hb : fX8_isOfHair (gX8_next N) k = 0
    · rw [if_pos hb, if_pos hb, LX8_readsMoisten_29g, if_pos ha.1.2.1, nI_clamp (show k < 2 ^ 31 by omega)]
      have hr := ra_moisten ha.2.1.ra hkc
      exact Or.inl ⟨t2, c, by omega, ab_next (ab_put ha (fun o ho => mU_ne _ _ _ (by omega)) (fun o ho => mo_ne ho) (rb_inst ha.2.1 hr (A2.put (by decide)) (mU_row (by omega)) (bxs_putn (by omega) ha.2.1.bxs) (mU_row (by omega))))⟩
    · have hE := at_err ha.1 (x := 3) (by decide)
      rw [if_neg hb, if_neg hb, LX8_readsMoisten_29g, if_neg (er_f hE)]
      exact Or.inr hE
  · rw [e2, if_neg (er_f hE), LX8_readsMoisten_29g, if_neg (er_f hE)]
    exact Or.inr hE
theorem line_humid {M N : Mem} {e t s c : Nat} (h : AB M N e t s c) : BL (gX3_readHumidity M) (gX8_readsHumidity N) e t := by
  unfold gX3_readHumidity gX8_readsHumidity
  rcases lb_take (ab_next h) 0 100 with ⟨v, t2, e1, e2, hL, hlt, hx, hy⟩ | hE
  · rw [if_pos hL.ok.1, if_pos hL.ok.2, e1, e2]
    have hr := ra_head (i := 3) (d := 1) (v := v) hL.2.1.ra (Or.inl ⟨rfl, rfl, rng_ub (a := 0) (b := 100) hx hy⟩)
    exact Or.inl ⟨t2, c, by omega, lb_put hL (fun o ho => mU_ne _ _ _ (by omega)) (fun o ho => mU_ne _ _ _ ho) (rb_inst hL.2.1 hr (A2.put (by decide)) (mU_row (by decide)) (bxs_putn (by omega) hL.2.1.bxs) (mU_row (by decide)))⟩
  · rw [if_neg hE.2.1, if_neg (er_f hE)]
    exact Or.inr hE
theorem line_minutes {M N : Mem} {e t s c : Nat} (h : AB M N e t s c) : BL (gX3_readMinutes M) (gX8_readsMinutes N) e t := by
  unfold gX3_readMinutes gX8_readsMinutes
  have hn := ab_next h
  have hm : M 12 2 = gX8_next N 127 0 := hn.2.1.2.1.2.2.1.2.1
  have hmx : ∃ mx, xmin 99 (9999 - M 12 2) = mx ∧ (if 9999 - gX8_next N 127 0 ≤ 99 then LX8_readsMinutes_24g 1 (gX8_next N) (9999 - gX8_next N 127 0) else LX8_readsMinutes_24g 1 (gX8_next N) 99) = LX8_readsMinutes_24g 1 (gX8_next N) mx := by
    rw [hm]
    by_cases hc : 9999 - gX8_next N 127 0 ≤ 99
    · rw [if_pos hc]
      refine ⟨_, ?_, rfl⟩
      rw [xmin_eq]
      by_cases h2 : (99 : Int32) ≤ 9999 - gX8_next N 127 0
      · rw [if_pos h2]; exact Int32.le_antisymm h2 hc
      · rw [if_neg h2]
    · rw [if_neg hc]
      refine ⟨_, ?_, rfl⟩
      rw [xmin_eq, if_pos (Int32.le_of_lt (Int32.not_le.mp hc))]
  obtain ⟨mx, m1, m2⟩ := hmx
  rw [m1, m2, LX8_readsMinutes_24g]
  rcases lb_take hn 1 mx with ⟨v, t2, e1, e2, hL, hlt, hx, hy⟩ | hE
  · rw [if_pos hL.ok.1, if_pos hL.ok.2, e1, e2]
    have hr := (pass_rel v hL.2.1.ra (by decide)).1
    have ha := pass_af v hL.2.1.2.1.1 hL.2.1.af
    have e0 : gX8_takesNumber (gX8_next N) 1 mx 127 0 = gX8_next N 127 0 := by rw [(nr_tn _ _ _).1 127 (by decide)]
    have hmin : UB (gX8_passes (gX8_takesNumber (gX8_next N) 1 mx) v 127 0) 9999 := by
      obtain ⟨m, hm9, em⟩ := hn.2.1.min
      have e1 : (9999 : Int32) - M 12 2 = nI (9999 - m) := by rw [hm, em, show (9999 : Int32) = nI 9999 from rfl, pk_sub hm9]
      have e2 : ∃ q, q ≤ 99 ∧ q ≤ 9999 - m ∧ mx = nI q := by
        rw [← m1, e1, xmin_eq, show (99 : Int32) = nI 99 from rfl]
        by_cases hq : 99 ≤ 9999 - m
        · rw [if_pos (by rw [nI_leI (by omega) (by omega)]; exact hq)]; exact ⟨99, by decide, hq, rfl⟩
        · rw [if_neg (by rw [nI_leI (by omega) (by omega)]; exact hq)]; exact ⟨9999 - m, by omega, Nat.le_refl _, rfl⟩
      obtain ⟨q, q1, q2, q3⟩ := e2
      rw [q3] at hy
      obtain ⟨k, hk, ek⟩ := rng_ub (a := 1) (b := q) hx hy (by omega)
      rw [ek, pass_0 (by omega) (by decide) hL.2.1.ra, e0, em, nI_add]
      exact ⟨m + k, by omega, rfl⟩
    exact Or.inl ⟨t2, c, by omega, lb_put hL (fun o ho => pass_rf hL.2.1.2.cnt o (by omega)) (fun o ho => (nk_ps _ _).1 o ho) (rb_of hr ha ((nk_ps _ _).bxs hL.2.1.bxs) hmin)⟩
  · rw [if_neg hE.2.1, if_neg (er_f hE)]
    exact Or.inr hE
theorem line_rel {M N : Mem} {e t c : Nat} (h : LB M N e t c) : BL (gX3_readLine M) (gX8_readsLine N) e t := by
  obtain ⟨t2, s2, ha, hs⟩ := lb_at h
  have hst : s2 ≤ t2 := ha.1.2.2.2.1
  have hw : ∀ w, w < 9 → fX6_isWord (gX6_next M) w = fX8_isKey N w := fun w hw => word_eq ha.1.2.2 ha.2.2 hw
  have up : ∀ {A B : Mem}, BL A B e t2 → BL A B e t := fun hb => by
    rcases hb with ⟨t3, c3, h1, h2⟩ | hb
    · exact Or.inl ⟨t3, c3, by omega, h2⟩
    · exact Or.inr hb
  apply up
  unfold gX3_readLine gX8_readsLine
  rw [hw 1 (by decide), hw 2 (by decide), hw 3 (by decide), hw 4 (by decide), hw 5 (by decide), hw 6 (by decide), hw 7 (by decide), hw 8 (by decide)]
  by_cases h1 : fX8_isKey N 1 = 0
  · rw [if_pos h1, if_pos h1]
    by_cases h2 : fX8_isKey N 2 = 0
    · rw [if_pos h2, if_pos h2]
      by_cases h3 : fX8_isKey N 3 = 0
      · rw [if_pos h3, if_pos h3]
        by_cases h4 : fX8_isKey N 4 = 0
        · rw [if_pos h4, if_pos h4]
          by_cases h5 : fX8_isKey N 5 = 0
          · rw [if_pos h5, if_pos h5]
            by_cases h6 : fX8_isKey N 6 = 0
            · rw [if_pos h6, if_pos h6]
              by_cases h7 : fX8_isKey N 7 = 0
              · rw [if_pos h7, if_pos h7]
                by_cases h8 : fX8_isKey N 8 = 0
                · rw [if_pos h8, if_pos h8]
                  exact Or.inr (at_err ha.1 (by decide))
                · rw [if_neg h8, if_neg h8]
                  exact line_minutes ha
              · rw [if_neg h7, if_neg h7]
                exact line_humid ha
            · rw [if_neg h6, if_neg h6]
              exact line_moist ha
          · rw [if_neg h5, if_neg h5]
            exact line_tight ha
        · rw [if_neg h4, if_neg h4]
          exact line_out ha
      · rw [if_neg h3, if_neg h3]
        exact line_box ha
    · rw [if_neg h2, if_neg h2]
      exact line_bulb ha
  · rw [if_neg h1, if_neg h1]
    exact line_hair ha
