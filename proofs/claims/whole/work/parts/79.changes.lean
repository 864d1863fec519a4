/-! the changes -/
theorem in_yes {N : Mem} {x a b : Int32} (h1 : ¬ x < a) (h2 : x ≤ b) : ¬ fX8_in N x a b = 0 := by
  unfold fX8_in
  rw [if_neg h1, if_neg (Int32.not_lt.mpr h2)]
  decide
theorem in_no {N : Mem} {x a b : Int32} (h : x < a ∨ ¬ x ≤ b) : fX8_in N x a b = 0 := by
  unfold fX8_in
  rcases h with h | h
  · rw [if_pos h]
  · rw [if_pos (Int32.not_le.mp h), ite_self]
theorem rb_put {M M' N N' : Mem} {r c : Nat} (h : RB M N r c) (hr : RA M' N' r c) (ha : A2 r M M') (h6 : N' 127 6 = N 127 6) (hb : BXS N') (h0 : N' 127 0 = N 127 0) : RB M' N' r c := rb_of hr (af_a2 h.2.1.1 h.af ha h6) hb (by rw [h0]; exact h.min)
theorem rb_told {M N : Mem} {r c : Nat} (h : RB M N r c) (v : Int32) : RB M (mU N 124 2 v) r c := rb_ext (fun _ _ _ => rfl) (mU_ne _ _ _ (by decide)) (mU_ne _ _ _ (by decide)) h
theorem RES.chg {M N M' N' : Mem} {l : List Nat} {a b : Int32} {c K p c2 : Nat} (hg : Gc M N c K p) (hm : ∀ o, 9 ≤ o → M' o = gX0_record M 1 o) (hp : ∀ q, q ≠ 124 → q ≠ 127 → N' q = gX8_remembers N q) (h4 : ∀ j, j < 15 → j ≠ 2 → N' 124 j = gX8_remembers N 124 j) (h2 : N' 124 2 = 0) (hr : RB M' N' 1 c2) (ha : a = b) : RES M N M' N' l 0 a b := by
  have hnx : UB (M 20 1) 9 := ⟨p, by have := hg.2.1.2.1; omega, hg.2.1.2.2.1⟩
  refine ⟨⟨c2, _, _, gc_room (gc_record hg) hm hp h4 hr⟩, h2, fun _ => ha, fun q hq => ?_, fun o ho => ?_⟩
  · rw [hm q (by omega)]
    exact rec_ne hg.1.2.cnt hnx (Or.inr (by omega))
  · rw [hp o (by omega) (by omega)]
    exact rm_ne (by omega) (by omega)
theorem RES.no {M N N' : Mem} {l : List Nat} {t : Nat} {a b v : Int32} (h : G M N) (hN : N' = mU N 124 2 v) (hv : v = cd l t) (ht : t ≠ 0) : RES M N M N' l t a b := RES.obs h hN hv (fun hh => absurd hh ht)
theorem set_res {M N : Mem} {c K p : Nat} {i d : Nat} {x : Int32} (hg : Gc M N c K p) (hd : (i = 3 ∧ d = 1 ∧ UB x 100) ∨ (i = 4 ∧ d = 2 ∧ UB x 40) ∨ (i = 5 ∧ d = 3 ∧ UB x 5)) : RES M N (mU (gX0_record M 1) 1 i x) (gX8_sets N d x) [2] 0 (gX0_record M 1 1 i) (fX8_sets N d x) := by
  have hr := gc_record hg
  have hh := hr.1.2.1.2.2.1
  unfold gX8_sets fX8_sets gX8_told fX8_told
  refine RES.chg hg (fun o ho => mU_ne _ _ _ (by omega)) (fun q h1 h2 => by rw [mU_ne _ _ _ h1, mU_ne _ _ _ h2]) (fun j h1 h2 => by rw [mU_row h2, mU_ne _ _ _ (by decide)]) (mu_same _ _ _ _) (rb_told (rb_put hr.1 (ra_head hr.1.ra (by rcases hd with h | h | h; exact Or.inl h; exact Or.inr (Or.inl h); exact Or.inr (Or.inr (Or.inl h)))) (A2.put (by omega)) (mU_row (by omega)) (bxs_putn (by omega) hr.1.bxs) (mU_row (by omega))) 0) ?_
  rcases hd with ⟨rfl, rfl, -⟩ | ⟨rfl, rfl, -⟩ | ⟨rfl, rfl, -⟩
  · exact hh.2.2.1
  · exact hh.2.2.2.1
  · exact hh.2.2.2.2.1
theorem rel_setHumidity {M N : Mem} (h : G M N) (x : Int32) : RES M N (gX7_setHumidity M x) (gX8_setHumidity N x) [2] (tX7_setHumidity M x) (fX7_setHumidity M x) (fX8_setHumidity N x) := by
  obtain ⟨c, K, p, hg⟩ := id h
  unfold gX7_setHumidity gX8_setHumidity tX7_setHumidity fX7_setHumidity fX8_setHumidity
  by_cases h0 : x < 0
  · rw [if_pos h0, if_pos h0, if_pos h0, if_pos (in_no (Or.inl h0)), if_pos (in_no (Or.inl h0))]
    exact RES.no h rfl rfl (by decide)
  · rw [if_neg h0, if_neg h0, if_neg h0]
    by_cases h1 : x ≤ 100
    · rw [if_pos h1, if_pos h1, if_pos h1, if_neg (in_yes h0 h1), if_neg (in_yes h0 h1)]
      exact set_res hg (Or.inl ⟨rfl, rfl, rng_ub (a := 0) (b := 100) h0 h1⟩)
    · rw [if_neg h1, if_neg h1, if_neg h1, if_pos (in_no (Or.inr h1)), if_pos (in_no (Or.inr h1))]
      exact RES.no h rfl rfl (by decide)
theorem rel_setTemperature {M N : Mem} (h : G M N) (x : Int32) : RES M N (gX7_setTemperature M x) (gX8_setTemperature N x) [2] (tX7_setTemperature M x) (fX7_setTemperature M x) (fX8_setTemperature N x) := by
  obtain ⟨c, K, p, hg⟩ := id h
  unfold gX7_setTemperature gX8_setTemperature tX7_setTemperature fX7_setTemperature fX8_setTemperature
  by_cases h0 : x < 0
  · rw [if_pos h0, if_pos h0, if_pos h0, if_pos (in_no (Or.inl h0)), if_pos (in_no (Or.inl h0))]
    exact RES.no h rfl rfl (by decide)
  · rw [if_neg h0, if_neg h0, if_neg h0]
    by_cases h1 : x ≤ 40
    · rw [if_pos h1, if_pos h1, if_pos h1, if_neg (in_yes h0 h1), if_neg (in_yes h0 h1)]
      exact set_res hg (Or.inr (Or.inl ⟨rfl, rfl, rng_ub (a := 0) (b := 40) h0 h1⟩))
    · rw [if_neg h1, if_neg h1, if_neg h1, if_pos (in_no (Or.inr h1)), if_pos (in_no (Or.inr h1))]
      exact RES.no h rfl rfl (by decide)
theorem rel_setSkill {M N : Mem} (h : G M N) (x : Int32) : RES M N (gX7_setSkill M x) (gX8_setSkill N x) [2] (tX7_setSkill M x) (fX7_setSkill M x) (fX8_setSkill N x) := by
  obtain ⟨c, K, p, hg⟩ := id h
  unfold gX7_setSkill gX8_setSkill tX7_setSkill fX7_setSkill fX8_setSkill
  by_cases h0 : x < 0
  · rw [if_pos h0, if_pos h0, if_pos h0, if_pos (in_no (Or.inl h0)), if_pos (in_no (Or.inl h0))]
    exact RES.no h rfl rfl (by decide)
  · rw [if_neg h0, if_neg h0, if_neg h0]
    by_cases h1 : x ≤ 5
    · rw [if_pos h1, if_pos h1, if_pos h1, if_neg (in_yes h0 h1), if_neg (in_yes h0 h1)]
      exact set_res hg (Or.inr (Or.inr ⟨rfl, rfl, rng_ub (a := 0) (b := 5) h0 h1⟩))
    · rw [if_neg h1, if_neg h1, if_neg h1, if_pos (in_no (Or.inr h1)), if_pos (in_no (Or.inr h1))]
      exact RES.no h rfl rfl (by decide)
theorem rel_advance {M N : Mem} (h : G M N) (x : Int32) : RES M N (gX7_advance M x) (gX8_advance N x) [2, 3] (tX7_advance M x) (fX7_advance M x) (fX8_advance N x) := by
  obtain ⟨c, K, p, hg⟩ := id h
  unfold gX7_advance gX8_advance tX7_advance fX7_advance fX8_advance
  by_cases h0 : x < 1
  · rw [if_pos h0, if_pos h0, if_pos h0, if_pos (in_no (Or.inl h0)), if_pos (in_no (Or.inl h0))]
    exact RES.no h rfl rfl (by decide)
  · rw [if_neg h0, if_neg h0, if_neg h0]
    by_cases h1 : x ≤ 99
    · rw [if_pos h1, if_pos h1, if_pos h1, if_neg (in_yes h0 h1), if_neg (in_yes h0 h1)]
      obtain ⟨k, hk, ek⟩ := rng_ub (a := 1) (b := 99) h0 h1
      have hm : M 1 2 = N 127 0 := hg.1.2.1.2.2.1.2.1
      obtain ⟨m, hm9, em⟩ := hg.1.min
      have e1 : (9999 : Int32) - M 1 2 = nI (9999 - m) := by rw [hm, em, show (9999 : Int32) = nI 9999 from rfl, pk_sub hm9]
      have e2 : N 127 0 + x = nI (m + k) := by rw [em, ek, nI_add]
      by_cases h2 : k ≤ 9999 - m
      · have c1 : x ≤ 9999 - M 1 2 := by rw [e1, ek, nI_leI (by omega) (by omega)]; exact h2
        have c2 : N 127 0 + x ≤ 9999 := by rw [e2, show (9999 : Int32) = nI 9999 from rfl, nI_leI (by omega) (by omega)]; omega
        rw [if_pos c1, if_pos c1, if_pos c1, if_pos c2, if_pos c2]
        have hr := gc_record hg
        have hps := pass_rel x hr.1.ra (by decide)
        have hmin : UB (gX8_passes (gX8_remembers N) x 127 0) 9999 := by
          rw [ek, pass_0 (by omega) (by decide) hr.1.ra, rm_127, em, nI_add]
          exact ⟨m + k, by omega, rfl⟩
        have nk := nk_ps (gX8_remembers N) x
        unfold gX8_told fX8_told
        exact RES.chg hg (fun o ho => pass_rf hr.1.2.cnt o (by omega)) (fun q a b => by rw [mU_ne _ _ _ a, nk.1 q b]) (fun j a b => by rw [mU_row b, nk.1 124 (by decide)]) (mu_same _ _ _ _) (rb_told (rb_of hps.1 (pass_af x hr.1.2.1.1 hr.1.af) (nk.bxs hr.1.bxs) hmin) 0) hps.2
      · have c1 : ¬ x ≤ 9999 - M 1 2 := by rw [e1, ek, nI_leI (by omega) (by omega)]; exact h2
        have c2 : ¬ N 127 0 + x ≤ 9999 := by rw [e2, show (9999 : Int32) = nI 9999 from rfl, nI_leI (by omega) (by omega)]; omega
        rw [if_neg c1, if_neg c1, if_neg c1, if_neg c2, if_neg c2]
        exact RES.no h rfl rfl (by decide)
    · rw [if_neg h1, if_neg h1, if_neg h1, if_pos (in_no (Or.inr h1)), if_pos (in_no (Or.inr h1))]
      exact RES.no h rfl rfl (by decide)
/-- a number of an instrument written -/
theorem inst_res {M N : Mem} {c K p k i d : Nat} {v a b : Int32} {l : List Nat} (hg : Gc M N c K p) (hk : k < c) (hd : (i = 1 ∧ d = 9) ∨ (i = 3 ∧ d = 10) ∨ (i = 4 ∧ d = 11) ∨ (i = 5 ∧ d = 12) ∨ (i = 6 ∧ d = 13) ∨ (i = 7 ∧ d = 14) ∨ (i = 8 ∧ d = 15)) (hgi : GI (upd (gX8_remembers N 127) (8 * k + d) v) k) (hb : BXS (mU (gX8_remembers N) 127 (8 * k + d) v)) (ha : a = b) : RES M N (mU (gX0_record M 1) (1 + 1 + 1 + k) i v) (mU (mU (gX8_remembers N) 127 (8 * k + d) v) 124 2 0) l 0 a b := by
  have hr := gc_record hg
  have hc6 := hg.1.2.1.1
  refine RES.chg hg (fun o ho => mU_ne _ _ _ (by omega)) (fun q h1 h2 => by rw [mU_ne _ _ _ h1, mU_ne _ _ _ h2]) (fun j h1 h2 => by rw [mU_row h2, mU_ne _ _ _ (by decide)]) (mu_same _ _ _ _) (rb_told (rb_put hr.1 (ra_inst hr.1.ra hk hd hgi) (A2.put (by omega)) (mU_row (by omega)) hb (mU_row (by omega))) 0) ha
theorem gi_of {M N : Mem} {c K p k : Nat} (hg : Gc M N c K p) (hk : k < c) : GI (N 127) k := (hg.1.2.1.2.2.2.2 k hk).2
theorem rel_putInBox {M N : Mem} (h : G M N) (x y : Int32) : RES M N (gX7_putInBox M x y) (gX8_putInBox N x y) [1, 2, 3] (tX7_putInBox M x y) (fX7_putInBox M x y) (fX8_putInBox N x y) := by
  obtain ⟨c, K, p, hg⟩ := id h
  unfold gX7_putInBox gX8_putInBox tX7_putInBox fX8_putInBox
  rcases at_idx hg.1.ra x with ⟨e1, e2⟩ | ⟨k, hk, e0, ek, e1, e2⟩
  · rw [e1, if_neg (show ¬ (1 : Nat) = 0 by decide), if_neg (show ¬ (1 : Nat) = 0 by decide), if_pos e2, if_pos e2]
    exact RES.no h rfl rfl (by decide)
  · rw [if_pos e1, if_pos e1, if_neg e2, if_neg e2]
    unfold fX7_putInBox
    rw [ek]
    have hbx := boxed_eq (hg.1.ra.one hk)
    rcases salt_eq M N y with ⟨s1, s2⟩ | ⟨q, hq, s0, s1, s2⟩
    · rw [if_pos s1, if_pos s1, if_pos s2, if_pos s2]
      exact RES.no h rfl rfl (by decide)
    · rw [if_neg s1, if_neg s1, if_neg s1, if_neg s2, if_neg s2, hbx]
      by_cases hb : fX8_isBoxed N k = 0
      · rw [if_pos hb, if_pos hb, if_pos hb, if_pos hb, if_pos hb]
        have hr := gc_record hg
        refine inst_res (i := 8) (d := 15) hg hk (by decide) (gi_box (Or.inr ⟨q, by omega, s0⟩) (gi_of hr hk)) (bxs_put (Or.inr ⟨q, by omega, s0⟩) hr.1.bxs) ?_
        unfold fX8_told fX4_surrounding
        rw [mu_same, s0, fp_or hq, nI_clamp (show q < 2 ^ 31 by omega), mU_ne _ _ _ (by decide)]
        exact (hr.1.1 q hq).symm
      · rw [if_neg hb, if_neg hb, if_neg hb, if_neg hb]
        exact RES.no h rfl rfl (by decide)
theorem rel_takeOut {M N : Mem} (h : G M N) (x : Int32) : RES M N (gX7_takeOut M x) (gX8_takeOut N x) [1, 3] (tX7_takeOut M x) (fX7_takeOut M x) (fX8_takeOut N x) := by
  obtain ⟨c, K, p, hg⟩ := id h
  unfold gX7_takeOut gX8_takeOut tX7_takeOut fX8_takeOut
  rcases at_idx hg.1.ra x with ⟨e1, e2⟩ | ⟨k, hk, e0, ek, e1, e2⟩
  · rw [e1, if_neg (show ¬ (1 : Nat) = 0 by decide), if_neg (show ¬ (1 : Nat) = 0 by decide), if_pos e2, if_pos e2]
    exact RES.no h rfl rfl (by decide)
  · rw [if_pos e1, if_pos e1, if_neg e2, if_neg e2]
    unfold fX7_takeOut
    rw [ek, boxed_eq (hg.1.ra.one hk)]
    by_cases hb : fX8_isBoxed N k = 0
    · rw [if_pos hb, if_pos hb, if_pos hb, if_pos hb]
      exact RES.no h rfl rfl (by decide)
    · rw [if_neg hb, if_neg hb, if_neg hb, if_neg hb, if_neg hb]
      have hr := gc_record hg
      unfold gX8_sets fX8_sets gX8_told fX8_told
      exact inst_res (i := 8) (d := 15) hg hk (by decide) (gi_box (Or.inl rfl) (gi_of hr hk)) (bxs_put (Or.inl rfl) hr.1.bxs) (hr.1.ra.one hk).2.2.2.1.2.2.2.2.2.2.2
theorem around_row {N N' : Mem} (h5 : N' 125 = N 125) (h7 : N' 127 = N 127) (k : Nat) : fX8_around N' k = fX8_around N k := by
  unfold fX8_around fX8_isBoxed
  rw [h5, h7]
theorem raw_row {N N' : Mem} (h5 : N' 125 = N 125) (h7 : N' 127 = N 127) (k : Nat) : fX8_raw N' k = fX8_raw N k := by
  unfold fX8_raw fX8_depression fX8_isOfHair
  rw [around_row h5 h7, h7]
theorem rel_calibrate {M N : Mem} (h : G M N) (x : Int32) : RES M N (gX7_calibrate M x) (gX8_calibrate N x) [1, 3] (tX7_calibrate M x) (fX7_calibrate M x) (fX8_calibrate N x) := by
  obtain ⟨c, K, p, hg⟩ := id h
  unfold gX7_calibrate gX8_calibrate tX7_calibrate fX8_calibrate
  rcases at_idx hg.1.ra x with ⟨e1, e2⟩ | ⟨k, hk, e0, ek, e1, e2⟩
  · rw [e1, if_neg (show ¬ (1 : Nat) = 0 by decide), if_neg (show ¬ (1 : Nat) = 0 by decide), if_pos e2, if_pos e2]
    exact RES.no h rfl rfl (by decide)
  · rw [if_pos e1, if_pos e1, if_neg e2, if_neg e2]
    unfold fX7_calibrate
    rw [ek, obs_eq (hg.1.ra.one hk)]
    by_cases hb : fX8_hindrance N k = 0
    · rw [if_pos hb, if_pos hb, if_pos hb, if_pos hb, if_pos hb]
      have hr := gc_record hg
      have h1 := hr.1.ra.one hk
      unfold gX8_sets fX8_sets gX8_told fX8_told
      rw [show 1 + 1 + 1 + k = 1 + 1 + 1 + k from rfl, sur_eq h1, raw_eq h1, around_row (rm_ne (by decide) (by decide)) (rm_127 N), raw_row (rm_ne (by decide) (by decide)) (rm_127 N)]
      exact inst_res (i := 7) (d := 14) hg hk (by decide) (gi_free (Or.inr rfl) (gi_of hr hk)) (bxs_putn (by omega) hr.1.bxs) h1.2.2.2.1.2.2.2.2.2.2.1
    · rw [if_neg hb, if_neg hb, if_neg hb, if_neg hb]
      exact RES.no h rfl rfl (by decide)
theorem rel_tighten {M N : Mem} (h : G M N) (x : Int32) : RES M N (gX7_tighten M x) (gX8_tighten N x) [1, 3] (tX7_tighten M x) (fX7_tighten M x) (fX8_tighten N x) := by
  obtain ⟨c, K, p, hg⟩ := id h
  unfold gX7_tighten gX8_tighten tX7_tighten fX8_tighten
  rcases at_idx hg.1.ra x with ⟨e1, e2⟩ | ⟨k, hk, e0, ek, e1, e2⟩
  · rw [e1, if_neg (show ¬ (1 : Nat) = 0 by decide), if_neg (show ¬ (1 : Nat) = 0 by decide), if_pos e2, if_pos e2]
    exact RES.no h rfl rfl (by decide)
  · rw [if_pos e1, if_pos e1, if_neg e2, if_neg e2]
    unfold fX7_tighten
    have h1 := hg.1.ra.one hk
    rw [ek, ← hair_eq h1, h1.2.2.2.1.2.1]
    by_cases hb : fX8_isOfHair N k = 0
    · rw [if_pos hb, if_pos hb, if_pos hb, if_pos hb]
      exact RES.no h rfl rfl (by decide)
    · rw [if_neg hb, if_neg hb, if_neg hb, if_neg hb, if_neg hb]
      by_cases h0 : N 127 (8 * k + 9) = 0
      · rw [if_pos h0, if_pos h0, if_pos h0, if_pos h0]
        exact RES.no h rfl rfl (by decide)
      · rw [if_neg h0, if_neg h0, if_neg h0, if_neg h0, if_neg h0]
        have hr := gc_record hg
        have hc6 := hg.1.2.1.1
        have hrt := ra_tighten hr.1.ra hk (by rw [rm_127]; exact h0)
        unfold gX8_told fX8_told
        refine RES.chg hg (fun o ho => gX1_tightenSpring_ne (by omega)) (fun q a b => by rw [mU_ne _ _ _ a, ti_ne b]) (fun j a b => by rw [mU_row b, ti_ne (by decide)]) (mu_same _ _ _ _) (rb_told (rb_put hr.1 hrt (a2_tight _ _ _) (ti_lo _ _ (by decide)) (ti_bxs hr.1.bxs) (ti_lo _ _ (by decide))) 0) ?_
        unfold fX8_tightens
        (try rw [ite_self])
        exact (hr.1.ra.one hk).2.2.2.1.2.2.2.2.1
theorem rel_moisten {M N : Mem} (h : G M N) (x : Int32) : RES M N (gX7_moisten M x) (gX8_moisten N x) [1, 3] (tX7_moisten M x) (fX7_moisten M x) (fX8_moisten N x) := by
  obtain ⟨c, K, p, hg⟩ := id h
  unfold gX7_moisten gX8_moisten tX7_moisten fX8_moisten
  rcases at_idx hg.1.ra x with ⟨e1, e2⟩ | ⟨k, hk, e0, ek, e1, e2⟩
  · rw [e1, if_neg (show ¬ (1 : Nat) = 0 by decide), if_neg (show ¬ (1 : Nat) = 0 by decide), if_pos e2, if_pos e2]
    exact RES.no h rfl rfl (by decide)
  · rw [if_pos e1, if_pos e1, if_neg e2, if_neg e2]
    unfold fX7_moisten
    have h1 := hg.1.ra.one hk
    rw [ek, ← hair_eq h1]
    by_cases hb : fX8_isOfHair N k = 0
    · rw [if_pos hb, if_pos hb, if_pos hb, if_pos hb, if_pos hb]
      have hr := gc_record hg
      unfold gX8_moistens fX8_moistens gX8_told fX8_told
      exact inst_res (i := 6) (d := 13) hg hk (by decide) (gi_water ⟨60, by decide, rfl⟩ (gi_of hr hk)) (bxs_putn (by omega) hr.1.bxs) (hr.1.ra.one hk).2.2.2.1.2.2.2.2.2.1
    · rw [if_neg hb, if_neg hb, if_neg hb, if_neg hb]
      exact RES.no h rfl rfl (by decide)
theorem rel_addHairs {M N : Mem} (h : G M N) (x y : Int32) : RES M N (gX7_addHairs M x y) (gX8_addHairs N x y) [1, 2, 3] (tX7_addHairs M x y) (fX7_addHairs M x y) (fX8_addHairs N x y) := by
  obtain ⟨c, K, p, hg⟩ := id h
  unfold gX7_addHairs gX8_addHairs tX7_addHairs fX8_addHairs
  rcases at_idx hg.1.ra x with ⟨e1, e2⟩ | ⟨k, hk, e0, ek, e1, e2⟩
  · rw [e1, if_neg (show ¬ (1 : Nat) = 0 by decide), if_neg (show ¬ (1 : Nat) = 0 by decide), if_pos e2, if_pos e2]
    exact RES.no h rfl rfl (by decide)
  · rw [if_pos e1, if_pos e1, if_neg e2, if_neg e2]
    unfold fX7_addHairs
    have hc6 := hg.1.2.1.1
    have h1 := hg.1.ra.one hk
    have h16 : M 1 6 = N 127 4 := hg.1.2.1.2.2.1.2.2.2.2.2.1
    rw [ek, ← hair_eq h1, h1.2.2.2.1.2.1, h16]
    by_cases y0 : y < 1
    · rw [if_pos y0, if_pos y0, if_pos (in_no (Or.inl y0)), if_pos (in_no (Or.inl y0))]
      exact RES.no h rfl rfl (by decide)
    · rw [if_neg y0, if_neg y0, if_neg y0]
      by_cases y1 : y ≤ 20
      · rw [if_pos y1, if_pos y1, if_pos y1, if_neg (in_yes y0 y1), if_neg (in_yes y0 y1)]
        by_cases hb : fX8_isOfHair N k = 0
        · rw [if_pos hb, if_pos hb, if_pos hb, if_pos hb]
          exact RES.no h rfl rfl (by decide)
        · rw [if_neg hb, if_neg hb, if_neg hb, if_neg hb, if_neg hb]
          by_cases hs : N 127 4 < y
          · rw [if_pos hs, if_pos hs, if_neg (Int32.not_le.mpr hs), if_neg (Int32.not_le.mpr hs)]
            exact RES.no h rfl rfl (by decide)
          · rw [if_neg hs, if_neg hs, if_neg hs, if_pos (Int32.not_lt.mp hs), if_pos (Int32.not_lt.mp hs)]
            by_cases hh : N 127 (8 * k + 9) + y ≤ 20
            · rw [if_pos hh, if_pos hh, if_pos hh, if_pos hh, if_pos hh]
              have hr := gc_record hg
              obtain ⟨q, hq, eq⟩ := rng_ub (a := 1) (b := 20) y0 y1
              obtain ⟨st, hst, est⟩ := hg.1.2.1.2.2.2.1.2.2.2.2
              obtain ⟨ha, hha, eha⟩ := h1.2.2.2.2.2.1
              have hqs : q ≤ st := by
                have := Int32.not_lt.mp hs
                rw [est, eq, nI_leI (by omega) (by omega)] at this
                exact this
              have r4 : gX0_record M 1 1 6 = gX8_remembers N 127 4 := hr.1.2.1.2.2.1.2.2.2.2.2.1
              have u4 : UB (gX8_remembers N 127 4 - y) 99 := ⟨st - q, by omega, by rw [rm_127, est, eq, pk_sub hqs]⟩
              have s1 := ra_head (i := 6) (d := 4) hr.1.ra (Or.inr (Or.inr (Or.inr ⟨rfl, rfl, u4⟩)))
              have s1b := rb_put hr.1 s1 (A2.put (by decide)) (mU_row (by decide)) (bxs_putn (by omega) hr.1.bxs) (mU_row (by decide))
              have r9 := (s1.one hk).2.2.2.1.2.1
              have u9 : UB (mU (gX8_remembers N) 127 4 (gX8_remembers N 127 4 - y) 127 (8 * k + 9) + y) 20 := by
                rw [mU_row (by omega), rm_127]
                refine ⟨ha + q, ?_, by rw [eha, eq, nI_add]⟩
                rw [eha, eq, nI_add, show (20 : Int32) = nI 20 from rfl, nI_leI (by omega) (by omega)] at hh
                exact hh
              have s2 := ra_inst (i := 1) (d := 9) s1 hk (by decide) (gi_hairs u9 (s1.2.2.2.2.2 k hk).2)
              have s2b := rb_put s1b s2 (A2.put (by decide)) (mU_row (by omega)) (bxs_putn (by omega) s1b.bxs) (mU_row (by omega))
              rw [r4, show 1 + 1 + 1 + k = 1 + 1 + 1 + k from rfl, r9]
              unfold gX8_told fX8_told
              refine RES.chg hg (fun o ho => by rw [mU_ne _ _ _ (by omega), mU_ne _ _ _ (by omega)]) (fun q a b => by rw [mU_ne _ _ _ a, mU_ne _ _ _ b, mU_ne _ _ _ b]) (fun j a b => by rw [mU_row b, mU_ne _ _ _ (by decide), mU_ne _ _ _ (by decide)]) (mu_same _ _ _ _) (rb_told s2b 0) ?_
              rw [mu_same, mu_same]
            · rw [if_neg hh, if_neg hh, if_neg hh, if_neg hh]
              exact RES.no h rfl rfl (by decide)
      · rw [if_neg y1, if_neg y1, if_pos (in_no (Or.inr y1)), if_pos (in_no (Or.inr y1))]
        exact RES.no h rfl rfl (by decide)
