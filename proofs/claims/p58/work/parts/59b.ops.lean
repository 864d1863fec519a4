/-! springs and hairs; and a room without instruments -/
def fitF (M : Mem) (x y : Int32) : Int32 := if fX7_isHair M x = 0 then 0 else if fX7_hairStock M < y then 0 else if fX7_hairsOf M x + y ≤ 20 then 1 else 0
theorem fit_a {M : Mem} {x y : Int32} (h : fX7_isHair M x = 0) : (0 : Int32) = fitF M x y := by unfold fitF; rw [if_pos h]
theorem fit_b {M : Mem} {x y : Int32} (h : ¬ fX7_isHair M x = 0) (h1 : fX7_hairStock M < y) : (0 : Int32) = fitF M x y := by unfold fitF; rw [if_neg h, if_pos h1]
theorem fit_c {M : Mem} {x y : Int32} (h : ¬ fX7_isHair M x = 0) (h1 : ¬ fX7_hairStock M < y) (h2 : ¬ fX7_hairsOf M x + y ≤ 20) : (0 : Int32) = fitF M x y := by unfold fitF; rw [if_neg h, if_neg h1, if_neg h2]
theorem fit_d {M : Mem} {x y : Int32} (h : ¬ fX7_isHair M x = 0) (h1 : ¬ fX7_hairStock M < y) (h2 : fX7_hairsOf M x + y ≤ 20) : (1 : Int32) = fitF M x y := by unfold fitF; rw [if_neg h, if_neg h1, if_pos h2]
/-- what tightening leaves of the hairs -/
def tgF (M : Mem) (x : Int32) : Int32 := if fX7_isHair M x = 0 then 0 else if 20 ≤ fX7_wetnessOf M x then 0 else 1
section OPS2
variable {mx c : Nat} {P : Mem}
theorem ten20 {a : Nat} : (20 : Int32) ≤ nI a ∨ ¬ (20 : Int32) ≤ nI a := by
  by_cases h : (20 : Int32) ≤ nI a
  · exact Or.inl h
  · exact Or.inr h
theorem op_tig (h : AST mx P c) {j : Nat} (hj : j < c) (hh : ¬ fX7_isHair P (nI j) = 0) (ho : ¬ fX7_hairsOf P (nI j) ≤ 0) : tX7_tighten P (nI j) = 0 ∧ APOST mx P c (gX7_tighten P (nI j)) ∧ fX7_tighten P (nI j) = fX7_slackOf P (nI j) ∧ gX7_tighten P (nI j) 1 1 = nI c ∧ fX7_slackOf (gX7_tighten P (nI j)) (nI j) = 0 ∧ fX7_hairsOf (gX7_tighten P (nI j)) (nI j) = (if tgF P (nI j) = 0 then fX7_hairsOf P (nI j) else fX7_hairsOf P (nI j) - 1) := by
  have hc6 := h.2.2.1
  have ht := t0_at h.2.1 hc6 hj
  have hx : (nI j).toNatClampNeg < 6 := by rw [nI_clamp (by omega)]; omega
  have hb : ¬ bv (P (pl (nI j)) 0) = 0 := hh
  have eh : fX7_hairsOf P (nI j) = P (pl (nI j)) 1 := if_neg hb
  have ew : fX7_wetnessOf P (nI j) = P (pl (nI j)) 4 := if_neg hb
  have es : fX7_slackOf P (nI j) = P (pl (nI j)) 5 := if_neg hb
  rw [eh] at ho
  have h1 : ¬ P (pl (nI j)) 1 = 0 := fun e => ho (by rw [e]; decide)
  have r1 := rec1 h
  have rp := recp h hx
  have g : gX7_tighten P (nI j) = gX1_tightenSpring (gX0_record P 1) (pl (nI j)) := by unfold gX7_tighten; rw [if_pos ht, if_neg hb, if_neg h1]
  obtain ⟨a1, a4, a5, a6, a8, k1, k2⟩ := (inv_i1 h.1 h.2.1 hc6 hj).1
  have ne1 : (1 : Nat) ≠ pl (nI j) := by show 1 ≠ 1 + 1 + 1 + (nI j).toNatClampNeg; omega
  have hchg : ∀ p, 9 ≤ p → gX1_tightenSpring (gX0_record P 1) (pl (nI j)) p = gX0_record P 1 p := fun p hp => gX1_tightenSpring_ne (by show p ≠ 1 + 1 + 1 + (nI j).toNatClampNeg; omega)
  have hm1 : UB (P (pl (nI j)) 1 - 1) 20 := by
    obtain ⟨t, ht, e⟩ := a1
    rw [e] at ho
    have : 1 ≤ t := by
      rw [show (0 : Int32) = nI 0 from rfl, nI_leI (by omega) (by omega)] at ho; omega
    exact ⟨t - 1, by omega, by rw [e, show (1 : Int32) = nI 1 from rfl, pk_sub this]⟩
  -- the row behind the spring
  have row : ∃ A : Nat → Int32, gX1_tightenSpring (gX0_record P 1) (pl (nI j)) (pl (nI j)) = A ∧ A 0 = P (pl (nI j)) 0 ∧ A 2 = P (pl (nI j)) 2 ∧ A 4 = P (pl (nI j)) 4 ∧ A 5 = 0 ∧ A 6 = P (pl (nI j)) 6 ∧ A 8 = P (pl (nI j)) 8 ∧ A 1 = (if tgF P (nI j) = 0 then P (pl (nI j)) 1 else P (pl (nI j)) 1 - 1) ∧ A 1 + A 3 = P (pl (nI j)) 1 + P (pl (nI j)) 3 := by
    refine ⟨_, rfl, ?_⟩
    unfold gX1_tightenSpring tgF
    rw [if_neg hh, ew, mU_row (j := 4) (by decide), rp]
    by_cases hd : 20 ≤ P (pl (nI j)) 4
    · rw [if_pos hd, if_pos hd, if_pos rfl, mU_row (j := 0) (by decide), mU_row (j := 2) (by decide), mU_row (j := 4) (by decide), mU_row (j := 6) (by decide), mU_row (j := 8) (by decide), mU_row (j := 1) (by decide), mU_row (j := 3) (by decide), mu_same, rp]
      exact ⟨rfl, rfl, rfl, rfl, rfl, rfl, rfl, rfl⟩
    · rw [if_neg hd, if_neg hd, if_neg (by decide)]
      have e1 : mU (gX0_record P 1) (pl (nI j)) 5 0 (pl (nI j)) 1 = P (pl (nI j)) 1 := by rw [mU_row (by decide), rp]
      rw [e1]
      have e3 : mU (mU (gX0_record P 1) (pl (nI j)) 5 0) (pl (nI j)) 1 (P (pl (nI j)) 1 - 1) (pl (nI j)) 3 = P (pl (nI j)) 3 := by rw [mU_row (by decide), mU_row (by decide), rp]
      rw [e3]
      refine ⟨?_, ?_, ?_, ?_, ?_, ?_, ?_, ?_⟩
      · rw [mU_row (by decide), mU_row (by decide), mU_row (by decide), rp]
      · rw [mU_row (by decide), mU_row (by decide), mU_row (by decide), rp]
      · rw [mU_row (by decide), mU_row (by decide), mU_row (by decide), rp]
      · rw [mU_row (by decide), mU_row (by decide), mu_same]
      · rw [mU_row (by decide), mU_row (by decide), mU_row (by decide), rp]
      · rw [mU_row (by decide), mU_row (by decide), mU_row (by decide), rp]
      · rw [mU_row (by decide), mu_same]
      · rw [mU_row (j := 1) (by decide), mu_same, mu_same]; grind
  obtain ⟨A, eA, A0, A2, A4, A5, A6, A8, A1, A13⟩ := row
  refine ⟨by unfold tX7_tighten; rw [if_pos ht, if_neg hb, if_neg h1], ⟨?_, ?_⟩, ?_, ?_, ?_, ?_⟩
  · rw [g]
    refine (inv_ins (k := j) (rec_inv h) (by rw [r1]; exact h.2.1) hc6 hj (fun p hp _ => gX1_tightenSpring_ne (by rw [pl_nI' (by omega)]; exact hp)) ?_ ?_ ?_).up (by omega)
    · rw [← pl_nI' (j := j) (by omega), eA]
      unfold IOK
      rw [A0, A4, A5, A6, A8, A1]
      refine ⟨?_, a4, ⟨0, by decide, rfl⟩, a6, a8, fun _ => rfl, k2⟩
      split
      · exact a1
      · exact hm1
    · rw [← pl_nI' (j := j) (by omega), eA, rp]
      exact A13
    · rw [← pl_nI' (j := j) (by omega), eA, rp]
      exact A2
  · rw [g]; exact (rec_chg h).1.room hchg
  · unfold fX7_tighten
    rw [if_neg hb, if_neg h1, es]
    show gX0_record P 1 (pl (nI j)) 5 = P (pl (nI j)) 5
    rw [rp]
  · rw [g, gX1_tightenSpring_ne ne1, r1]; exact h.2.1
  · rw [g]
    show (if bv (gX1_tightenSpring (gX0_record P 1) (pl (nI j)) (pl (nI j)) 0) = 0 then (-1 : Int32) else gX1_tightenSpring (gX0_record P 1) (pl (nI j)) (pl (nI j)) 5) = 0
    rw [eA, A0, if_neg hb, A5]
  · rw [g, eh]
    show (if bv (gX1_tightenSpring (gX0_record P 1) (pl (nI j)) (pl (nI j)) 0) = 0 then (-1 : Int32) else gX1_tightenSpring (gX0_record P 1) (pl (nI j)) (pl (nI j)) 1) = _
    rw [eA, A0, if_neg hb, A1]
theorem op_tigR (h : AST mx P c) {j : Nat} (hj : j < c) (ho : fX7_isHair P (nI j) = 0 ∨ fX7_hairsOf P (nI j) ≤ 0) : tX7_tighten P (nI j) = 3 ∧ gX7_tighten P (nI j) = P := by
  have hc6 := h.2.2.1
  have ht := t0_at h.2.1 hc6 hj
  by_cases hb : bv (P (1 + 1 + 1 + (nI j).toNatClampNeg) 0) = 0
  · exact ⟨by unfold tX7_tighten; rw [if_pos ht, if_pos hb], by unfold gX7_tighten; rw [if_pos ht, if_pos hb]⟩
  · have ho := ho.resolve_left hb
    rw [show fX7_hairsOf P (nI j) = P (1 + 1 + 1 + (nI j).toNatClampNeg) 1 from if_neg hb] at ho
    have h1 : P (1 + 1 + 1 + (nI j).toNatClampNeg) 1 = 0 := (ub_le0 (inv_i1 h.1 h.2.1 hc6 hj).1.1).mp ho
    exact ⟨by unfold tX7_tighten; rw [if_pos ht, if_neg hb, if_pos h1], by unfold gX7_tighten; rw [if_pos ht, if_neg hb, if_pos h1]⟩
theorem op_add (h : AST mx P c) {j y : Nat} (hj : j < c) (y1 : 1 ≤ y) (y6 : y ≤ 6) (hf : ¬ fitF P (nI j) (nI y) = 0) : tX7_addHairs P (nI j) (nI y) = 0 ∧ APOST mx P c (gX7_addHairs P (nI j) (nI y)) ∧ fX7_addHairs P (nI j) (nI y) = fX7_hairsOf P (nI j) + nI y ∧ gX7_addHairs P (nI j) (nI y) 1 1 = nI c ∧ fX7_hairStock (gX7_addHairs P (nI j) (nI y)) = fX7_hairStock P - nI y := by
  have hc6 := h.2.2.1
  have ht := t0_at h.2.1 hc6 hj
  have hx : (nI j).toNatClampNeg < 6 := by rw [nI_clamp (by omega)]; omega
  have n1 : ¬ nI y < 1 := nI_nlt (a := y) (b := 1) y1 (by omega)
  have n20 : nI y ≤ 20 := by rw [show (20 : Int32) = nI 20 from rfl, nI_leI (by omega) (by omega)]; omega
  have hb : ¬ bv (P (pl (nI j)) 0) = 0 := fun e => hf (fit_a (M := P) (x := nI j) e).symm
  have hst : ¬ P 1 6 < nI y := fun e => hf (fit_b hb e).symm
  have eh : fX7_hairsOf P (nI j) = P (pl (nI j)) 1 := if_neg hb
  have hs : P (pl (nI j)) 1 + nI y ≤ 20 := by
    by_cases e : fX7_hairsOf P (nI j) + nI y ≤ 20
    · rw [eh] at e; exact e
    · exact absurd (fit_c hb hst e).symm hf
  have r1 := rec1 h
  have rp := recp h hx
  have ne1 : (1 : Nat) ≠ pl (nI j) := by show 1 ≠ 1 + 1 + 1 + (nI j).toNatClampNeg; omega
  obtain ⟨a1, a4, a5, a6, a8, k1, k2⟩ := (inv_i1 h.1 h.2.1 hc6 hj).1
  obtain ⟨b2, b3, b4, b5, b6⟩ := inv_b h.1
  have e1 : mU (gX0_record P 1) 1 6 (P 1 6 - nI y) (pl (nI j)) 1 = P (pl (nI j)) 1 := by rw [mU_ne _ _ _ ne1.symm, rp]
  have g : gX7_addHairs P (nI j) (nI y) = mU (mU (gX0_record P 1) 1 6 (P 1 6 - nI y)) (pl (nI j)) 1 (P (pl (nI j)) 1 + nI y) := by
    unfold gX7_addHairs
    rw [if_pos ht, if_neg n1, if_pos n20, if_neg hb, if_neg hst, if_pos hs, r1, e1]
  have u6 : UB (P 1 6 - nI y) 99 := by
    obtain ⟨k, hk, e⟩ := b6
    rw [e] at hst ⊢
    have : y ≤ k := by
      rcases Nat.lt_or_ge k y with hh | hh
      · exact absurd (nI_lt hh (by omega)) hst
      · exact hh
    exact ⟨k - y, by omega, by rw [pk_sub this]⟩
  have u1 : UB (P (pl (nI j)) 1 + nI y) 20 := by
    obtain ⟨k, hk, e⟩ := a1
    rw [e, nI_add] at hs ⊢
    rw [show (20 : Int32) = nI 20 from rfl, nI_leI (by omega) (by omega)] at hs
    exact ⟨k + y, hs, rfl⟩
  refine ⟨by unfold tX7_addHairs; rw [if_pos ht, if_neg n1, if_pos n20, if_neg hb, if_neg hst, if_pos hs], ⟨?_, ?_⟩, ?_, ?_, ?_⟩
  · rw [g]
    obtain ⟨c', hc', g1, g2, g3, g4, g5, g6, g7, g8⟩ := h.1
    have hcc : c' = c := by
      have h1 := h.2.1
      rw [g1] at h1
      have e := congrArg Int32.toNatClampNeg h1
      rw [nI_clamp (by omega), nI_clamp (by omega)] at e
      exact e
    subst hcc
    have row1 : mU (mU (gX0_record P 1) 1 6 (P 1 6 - nI y)) (pl (nI j)) 1 (P (pl (nI j)) 1 + nI y) 1 = upd (P 1) 6 (P 1 6 - nI y) := by rw [mU_ne _ _ _ ne1, mU_at, r1]
    have rowo : mU (mU (gX0_record P 1) 1 6 (P 1 6 - nI y)) (pl (nI j)) 1 (P (pl (nI j)) 1 + nI y) (1 + 1 + 1 + j) = upd (P (1 + 1 + 1 + j)) 1 (P (pl (nI j)) 1 + nI y) := by rw [← pl_nI' (j := j) (by omega), mU_at, mU_ne _ _ _ ne1.symm, rp]
    have rowk : ∀ k, k < c' → k ≠ j → mU (mU (gX0_record P 1) 1 6 (P 1 6 - nI y)) (pl (nI j)) 1 (P (pl (nI j)) 1 + nI y) (1 + 1 + 1 + k) = P (1 + 1 + 1 + k) := fun k hk hn => by rw [mU_ne _ _ _ (by rw [pl_nI' (by omega)]; omega), mU_ne _ _ _ (by omega), (rec_chg h).2 _ (by omega)]
    generalize mU (mU (gX0_record P 1) 1 6 (P 1 6 - nI y)) (pl (nI j)) 1 (P (pl (nI j)) 1 + nI y) = R at row1 rowo rowk
    refine ⟨c', hc', ?_⟩
    rw [row1, upd_ne (j := 1) (by decide), upd_ne (j := 2) (by decide), upd_ne (j := 3) (by decide), upd_ne (j := 4) (by decide), upd_ne (j := 5) (by decide), upd_ne (j := 7) (by decide), upd_at]
    refine ⟨g1, g2.mono (by omega), g3, g4, g5, u6, fun k hk => ?_, ?_⟩
    · by_cases e : k = j
      · subst e
        rw [rowo]
        unfold IOK
        rw [upd_at, upd_ne (j := 0) (by decide), upd_ne (j := 4) (by decide), upd_ne (j := 5) (by decide), upd_ne (j := 6) (by decide), upd_ne (j := 8) (by decide)]
        rw [pl_nI' (by omega)] at a4 a5 a6 a8 k1 k2 u1
        rw [pl_nI' (by omega)]
        exact ⟨u1, a4, a5, a6, a8, k1, k2⟩
      · rw [rowk k hk e]; exact g7 k hk
    · rw [SG_upd (g := fun k => hbR (P (1 + 1 + 1 + k))) (g' := fun k => hbR (R (1 + 1 + 1 + k))) hj (fun k hk hn => by show hbR _ = hbR _; rw [rowk k hk hn]), SG_congr (g := fun k => P (1 + 1 + 1 + k) 2) (g' := fun k => R (1 + 1 + 1 + k) 2) (fun k hk => ?_)]
      · have e : hbR (R (1 + 1 + 1 + j)) = hbR (P (1 + 1 + 1 + j)) + nI y := by
          rw [rowo]
          unfold hbR
          rw [upd_at, upd_ne (by decide), pl_nI' (by omega)]
          grind
        show _ + (_ + (hbR (R (1 + 1 + 1 + j)) - hbR (P (1 + 1 + 1 + j)))) = _
        rw [e]
        grind
      · show R _ 2 = P _ 2
        by_cases e : k = j
        · subst e; rw [rowo, upd_ne (by decide)]
        · rw [rowk k hk e]
  · rw [g]; exact (rec_chg h).1.room (fun p hp => by rw [mU_ne _ _ _ (show p ≠ pl (nI j) by show p ≠ 1 + 1 + 1 + (nI j).toNatClampNeg; omega), mU_ne _ _ _ (by omega)])
  · unfold fX7_addHairs
    rw [if_neg n1, if_pos n20, if_neg hb, if_neg hst, if_pos hs, r1, e1, eh]
    exact mu_same _ _ _ _
  · rw [g, mU_ne _ _ _ ne1, mU_row (by decide), r1]; exact h.2.1
  · rw [g]
    show mU _ _ _ _ 1 6 = _
    rw [mU_ne _ _ _ ne1, mu_same]
    rfl
theorem op_addR (h : AST mx P c) {j y : Nat} (hj : j < c) (y1 : 1 ≤ y) (y6 : y ≤ 6) (hf : fitF P (nI j) (nI y) = 0) : tX7_addHairs P (nI j) (nI y) = 3 ∧ gX7_addHairs P (nI j) (nI y) = P := by
  have hc6 := h.2.2.1
  have ht := t0_at h.2.1 hc6 hj
  have n1 : ¬ nI y < 1 := nI_nlt (a := y) (b := 1) y1 (by omega)
  have n20 : nI y ≤ 20 := by rw [show (20 : Int32) = nI 20 from rfl, nI_leI (by omega) (by omega)]; omega
  by_cases hb : bv (P (1 + 1 + 1 + (nI j).toNatClampNeg) 0) = 0
  · exact ⟨by unfold tX7_addHairs; rw [if_pos ht, if_neg n1, if_pos n20, if_pos hb], by unfold gX7_addHairs; rw [if_pos ht, if_neg n1, if_pos n20, if_pos hb]⟩
  · by_cases hst : P 1 6 < nI y
    · exact ⟨by unfold tX7_addHairs; rw [if_pos ht, if_neg n1, if_pos n20, if_neg hb, if_pos hst], by unfold gX7_addHairs; rw [if_pos ht, if_neg n1, if_pos n20, if_neg hb, if_pos hst]⟩
    · have eh : fX7_hairsOf P (nI j) = P (1 + 1 + 1 + (nI j).toNatClampNeg) 1 := if_neg hb
      have hs : ¬ P (1 + 1 + 1 + (nI j).toNatClampNeg) 1 + nI y ≤ 20 := fun e => by
        rw [← fit_d (M := P) (x := nI j) hb hst (by rw [eh]; exact e)] at hf
        exact absurd hf (by decide)
      exact ⟨by unfold tX7_addHairs; rw [if_pos ht, if_neg n1, if_pos n20, if_neg hb, if_neg hst, if_neg hs], by unfold gX7_addHairs; rw [if_pos ht, if_neg n1, if_pos n20, if_neg hb, if_neg hst, if_neg hs]⟩
/-- instruments that aren't there -/
theorem at_no {M : Mem} {x : Int32} (h : x < 0 ∨ M 1 1 ≤ x) : tX7_instrumentAt M x = 1 := by
  unfold tX7_instrumentAt
  by_cases h0 : x < 0
  · rw [if_pos h0]
  · rw [if_neg h0, if_pos (h.resolve_left h0)]
theorem no_box {M : Mem} {x y : Int32} (h : tX7_instrumentAt M x = 1) : tX7_putInBox M x y = 1 ∧ gX7_putInBox M x y = M := by
  have hn : ¬ tX7_instrumentAt M x = 0 := by rw [h]; decide
  exact ⟨by unfold tX7_putInBox; rw [if_neg hn, h], by unfold gX7_putInBox; rw [if_neg hn]⟩
theorem no_out {M : Mem} {x : Int32} (h : tX7_instrumentAt M x = 1) : tX7_takeOut M x = 1 ∧ gX7_takeOut M x = M := by
  have hn : ¬ tX7_instrumentAt M x = 0 := by rw [h]; decide
  exact ⟨by unfold tX7_takeOut; rw [if_neg hn, h], by unfold gX7_takeOut; rw [if_neg hn]⟩
theorem no_cal {M : Mem} {x : Int32} (h : tX7_instrumentAt M x = 1) : tX7_calibrate M x = 1 ∧ gX7_calibrate M x = M := by
  have hn : ¬ tX7_instrumentAt M x = 0 := by rw [h]; decide
  exact ⟨by unfold tX7_calibrate; rw [if_neg hn, h], by unfold gX7_calibrate; rw [if_neg hn]⟩
theorem no_tig {M : Mem} {x : Int32} (h : tX7_instrumentAt M x = 1) : tX7_tighten M x = 1 ∧ gX7_tighten M x = M := by
  have hn : ¬ tX7_instrumentAt M x = 0 := by rw [h]; decide
  exact ⟨by unfold tX7_tighten; rw [if_neg hn, h], by unfold gX7_tighten; rw [if_neg hn]⟩
theorem no_moi {M : Mem} {x : Int32} (h : tX7_instrumentAt M x = 1) : tX7_moisten M x = 1 ∧ gX7_moisten M x = M := by
  have hn : ¬ tX7_instrumentAt M x = 0 := by rw [h]; decide
  exact ⟨by unfold tX7_moisten; rw [if_neg hn, h], by unfold gX7_moisten; rw [if_neg hn]⟩
theorem no_add {M : Mem} {x y : Int32} (h : tX7_instrumentAt M x = 1) : tX7_addHairs M x y = 1 ∧ gX7_addHairs M x y = M := by
  have hn : ¬ tX7_instrumentAt M x = 0 := by rw [h]; decide
  exact ⟨by unfold tX7_addHairs; rw [if_neg hn, h], by unfold gX7_addHairs; rw [if_neg hn]⟩
/-! the calls that the law makes to see them refused -/
theorem ref_adv (M : Mem) : tX7_advance M 100 = 2 ∧ gX7_advance M 100 = M := ⟨by unfold tX7_advance; rw [if_neg (by decide), if_neg (by decide)], by unfold gX7_advance; rw [if_neg (by decide), if_neg (by decide)]⟩
theorem ref_hum (M : Mem) : tX7_setHumidity M (-1) = 2 ∧ gX7_setHumidity M (-1) = M := ⟨by unfold tX7_setHumidity; rw [if_pos (by decide)], by unfold gX7_setHumidity; rw [if_pos (by decide)]⟩
theorem ref_tmp (M : Mem) : tX7_setTemperature M 41 = 2 ∧ gX7_setTemperature M 41 = M := ⟨by unfold tX7_setTemperature; rw [if_neg (by decide), if_neg (by decide)], by unfold gX7_setTemperature; rw [if_neg (by decide), if_neg (by decide)]⟩
theorem ref_skl (M : Mem) : tX7_setSkill M 6 = 2 ∧ gX7_setSkill M 6 = M := ⟨by unfold tX7_setSkill; rw [if_neg (by decide), if_neg (by decide)], by unfold gX7_setSkill; rw [if_neg (by decide), if_neg (by decide)]⟩
theorem at_6 {mx : Nat} {M : Mem} (h : INV mx M) : tX7_instrumentAt M 6 = 1 := by
  obtain ⟨c, hc, h1, -⟩ := h
  exact at_no (Or.inr (by rw [h1, show (6 : Int32) = nI 6 from rfl, nI_leI (by omega) (by omega)]; exact hc))
end OPS2
