/-! what the reference's parser keeps: PR: its tokens stay in range, 'to' doesn't fall, nothing else of it changes but the tokens and the fault -/
def toN (M : Mem) : Nat := (M 124 18).toNatClampNeg
def PR (M M' : Mem) : Prop := WX M → WX M' ∧ toN M ≤ toN M'
/-- the rest of the object -/
def NQ (M M' : Mem) : Prop := (∀ p, p ≠ 124 → M' p = M p) ∧ ∀ j, (j < 15 ∨ 20 ≤ j) → M' 124 j = M 124 j
theorem NQ.refl (M : Mem) : NQ M M := ⟨fun _ _ => rfl, fun _ _ => rfl⟩
theorem NQ.trans {M M1 M2 : Mem} (h : NQ M M1) (h2 : NQ M1 M2) : NQ M M2 := ⟨fun p hp => (h2.1 p hp).trans (h.1 p hp), fun j hj => (h2.2 j hj).trans (h.2 j hj)⟩
theorem NQ.put {M : Mem} {j : Nat} {v : Int32} (h : 15 ≤ j ∧ j < 20) : NQ M (mU M 124 j v) := ⟨fun p hp => mU_ne _ _ _ hp, fun i hi => mU_row (by omega)⟩
theorem toN_step {M : Mem} (h : TX M) (hc : ¬ M 124 15 ≤ M 124 18) : toN (mU M 124 18 (M 124 18 + 1)) = toN M + 1 := by
  have h6 := tx_lt h hc
  obtain ⟨e, t, h1, h2, h3, h4⟩ := h
  unfold toN
  rw [mU_at, show upd (M 124) 18 (M 124 18 + 1) 18 = M 124 18 + 1 from rfl, h4, nI_1, nI_clamp (by omega), nI_clamp (by omega)]
theorem wx_step {M : Mem} (h : WX M) (hc : ¬ M 124 15 ≤ M 124 18) : WX (mU M 124 18 (M 124 18 + 1)) := by
  obtain ⟨e, t, f, h1, h2, h3, h4, h5, h6⟩ := h
  rw [h4, h5, nI_leI (by omega) (by omega)] at hc
  exact ⟨e, t + 1, f, h1, by omega, by omega, h4, by rw [mU_at]; show M 124 18 + 1 = _; rw [h5, nI_1], h6⟩
theorem sw0 (x : Int32) : ∀ (k : Nat) (M : Mem), NQ M (LX8_scansWord_0g x k M) ∧ (WX M → WX (LX8_scansWord_0g x k M) ∧ toN M ≤ toN (LX8_scansWord_0g x k M)) ∧ (TX M → 601 ≤ toN M + k → ¬ LX8_scansWord_0g x k M 124 16 = 0) := by
  intro k
  induction k with
  | zero => intro M; exact ⟨NQ.refl M, fun h => ⟨h, Nat.le_refl _⟩, fun h hk => tx_zero h hk⟩
  | succ k ih =>
    intro M
    have he : NQ M (mU M 124 16 1) ∧ (WX M → WX (mU M 124 16 1) ∧ toN M ≤ toN (mU M 124 16 1)) ∧ (TX M → 601 ≤ toN M + (k + 1) → ¬ mU M 124 16 1 124 16 = 0) := ⟨NQ.put (by decide), fun h => ⟨h, Nat.le_refl _⟩, fun _ _ h => absurd (show (1 : Int32) = 0 from h) (by decide)⟩
    have he2 : NQ M (mU (mU M 124 16 1) 124 16 4) ∧ (WX M → WX (mU (mU M 124 16 1) 124 16 4) ∧ toN M ≤ toN (mU (mU M 124 16 1) 124 16 4)) ∧ (TX M → 601 ≤ toN M + (k + 1) → ¬ mU (mU M 124 16 1) 124 16 4 124 16 = 0) := ⟨(NQ.put (by decide)).trans (NQ.put (by decide)), fun h => ⟨h, Nat.le_refl _⟩, fun _ _ h => absurd (show (4 : Int32) = 0 from h) (by decide)⟩
    rw [LX8_scansWord_0g]
    split
    · split
      · exact he
      · exact he2
    · rename_i hc
      split
      · split
        · exact he
        · exact he2
      · obtain ⟨i1, i2, i3⟩ := ih (mU M 124 18 (M 124 18 + 1))
        refine ⟨(NQ.put (by decide)).trans i1, fun h => ?_, fun h hk => i3 (tx_step h hc) (tx_fuel h hk)⟩
        obtain ⟨j1, j2⟩ := i2 (wx_step h hc)
        rw [toN_step h.tx hc] at j2
        exact ⟨j1, by omega⟩
theorem sn81 (x : Int32) (k : Nat) (M : Mem) : NQ M (LX8_scansNumber_81g x k M) ∧ (WX M → WX (LX8_scansNumber_81g x k M) ∧ toN M ≤ toN (LX8_scansNumber_81g x k M)) ∧ (0 < k → ¬ LX8_scansNumber_81g x k M 124 16 = 0) := by
  cases k with
  | zero => exact ⟨NQ.refl M, fun h => ⟨h, Nat.le_refl _⟩, fun h => absurd h (by decide)⟩
  | succ k =>
    rw [LX8_scansNumber_81g]
    (repeat' split) <;> first
      | exact ⟨NQ.put (by decide), fun h => ⟨h, Nat.le_refl _⟩, fun _ h => absurd (show (2 : Int32) = 0 from h) (by decide)⟩
      | exact ⟨(NQ.put (by decide)).trans (NQ.put (by decide)), fun h => ⟨h, Nat.le_refl _⟩, fun _ h => absurd (show (4 : Int32) = 0 from h) (by decide)⟩
theorem sn5 (x : Int32) : ∀ (k : Nat) (M : Mem), NQ M (LX8_scansNumber_5g x k M) ∧ (WX M → WX (LX8_scansNumber_5g x k M) ∧ toN M ≤ toN (LX8_scansNumber_5g x k M)) ∧ (TX M → 601 ≤ toN M + k → ¬ LX8_scansNumber_5g x k M 124 16 = 0) := by
  intro k
  induction k with
  | zero => intro M; exact ⟨NQ.refl M, fun h => ⟨h, Nat.le_refl _⟩, fun h hk => tx_zero h hk⟩
  | succ k ih =>
    intro M
    have he : NQ M (LX8_scansNumber_81g x 1 M) ∧ (WX M → WX (LX8_scansNumber_81g x 1 M) ∧ toN M ≤ toN (LX8_scansNumber_81g x 1 M)) ∧ (TX M → 601 ≤ toN M + (k + 1) → ¬ LX8_scansNumber_81g x 1 M 124 16 = 0) := ⟨(sn81 x 1 M).1, (sn81 x 1 M).2.1, fun _ _ => (sn81 x 1 M).2.2 (by decide)⟩
    rw [LX8_scansNumber_5g]
    split
    · exact he
    · rename_i hc
      split
      · exact he
      · split
        · obtain ⟨i1, i2, i3⟩ := ih (mU M 124 18 (M 124 18 + 1))
          refine ⟨(NQ.put (by decide)).trans i1, fun h => ?_, fun h hk => i3 (tx_step h hc) (tx_fuel h hk)⟩
          obtain ⟨j1, j2⟩ := i2 (wx_step h hc)
          rw [toN_step h.tx hc] at j2
          exact ⟨j1, by omega⟩
        · obtain ⟨M1, e1⟩ : ∃ y, y = mU M 124 19 ((10 : Int32) * M 124 19 + M 131 (M 124 18).toNatClampNeg - (48 : Int32)) := ⟨_, rfl⟩
          rw [← e1]
          have w1 : WX M → WX M1 := fun h => by rw [e1]; exact h
          have t1 : TX M → TX M1 := fun h => by rw [e1]; exact h
          have n1 : toN M1 = toN M := by rw [e1]; rfl
          have c1 : ¬ M1 124 15 ≤ M1 124 18 := by rw [e1]; exact hc
          have r1 : NQ M M1 := by rw [e1]; exact NQ.put (by decide)
          obtain ⟨i1, i2, i3⟩ := ih (mU M1 124 18 (M1 124 18 + 1))
          refine ⟨r1.trans ((NQ.put (by decide)).trans i1), fun h => ?_, fun h hk => i3 (tx_step (t1 h) c1) (tx_fuel (t1 h) (by unfold toN at n1 hk; rw [n1]; exact hk))⟩
          obtain ⟨j1, j2⟩ := i2 (wx_step (w1 h) c1)
          rw [toN_step (w1 h).tx c1] at j2
          exact ⟨j1, by omega⟩
theorem sw_first {M : Mem} {x : Int32} (h : WX M) (hc : ¬ M 124 15 ≤ M 124 18) (hl : ¬ fX8_isLetter M (M 131 (M 124 18).toNatClampNeg) = 0) : toN M < toN (gX8_scansWord M x) := by
  unfold gX8_scansWord
  rw [LX8_scansWord_0g, if_neg hc, if_neg hl]
  have := ((sw0 x 600 (mU M 124 18 (M 124 18 + 1))).2.1 (wx_step h hc)).2
  rw [toN_step h.tx hc] at this
  omega
theorem sn_first {M : Mem} {x : Int32} (h : WX M) (hc : ¬ M 124 15 ≤ M 124 18) (hl : ¬ fX8_isDigit M (M 131 (M 124 18).toNatClampNeg) = 0) : toN M < toN (gX8_scansNumber M x) := by
  unfold gX8_scansNumber
  obtain ⟨M0, e0⟩ : ∃ y, y = mU M 124 19 (0 : Int32) := ⟨_, rfl⟩
  rw [← e0]
  have w0 : WX M0 := by rw [e0]; exact h
  have n0 : toN M0 = toN M := by rw [e0]; rfl
  have c0 : ¬ M0 124 15 ≤ M0 124 18 := by rw [e0]; exact hc
  have l0 : ¬ fX8_isDigit M0 (M0 131 (M0 124 18).toNatClampNeg) = 0 := by rw [e0]; exact hl
  rw [LX8_scansNumber_5g, if_neg c0, if_neg l0]
  split
  · have := ((sn5 x 600 (mU M0 124 18 (M0 124 18 + 1))).2.1 (wx_step w0 c0)).2
    rw [toN_step w0.tx c0] at this
    omega
  · obtain ⟨M1, e1⟩ : ∃ y, y = mU M0 124 19 ((10 : Int32) * M0 124 19 + M0 131 (M0 124 18).toNatClampNeg - (48 : Int32)) := ⟨_, rfl⟩
    rw [← e1]
    have w1 : WX M1 := by rw [e1]; exact w0
    have n1 : toN M1 = toN M0 := by rw [e1]; rfl
    have c1 : ¬ M1 124 15 ≤ M1 124 18 := by rw [e1]; exact c0
    have := ((sn5 x 600 (mU M1 124 18 (M1 124 18 + 1))).2.1 (wx_step w1 c1)).2
    rw [toN_step w1.tx c1] at this
    omega
theorem fx_nle {M : Mem} (h : FX M) (hc : ¬ M 124 17 = M 124 15) : ¬ M 124 15 ≤ M 124 17 := by
  obtain ⟨e, t, h1, h2, h3, h4⟩ := h
  rw [h3, h4, nI_eq (by omega) (by omega)] at hc
  rw [h3, h4, nI_leI (by omega) (by omega)]
  omega
theorem fx_wx {M : Mem} (h : FX M) : WX (mU M 124 18 (M 124 17)) := by
  obtain ⟨e, t, h1, h2, h3, h4⟩ := h
  exact ⟨e, t, t, h1, Nat.le_refl _, h2, h3, h4, h4⟩
theorem nx103 (k : Nat) (M : Mem) (gl : Int32) : NQ M (LX8_next_103g (k + 1) M gl) ∧ (FX M → WX (LX8_next_103g (k + 1) M gl) ∧ (M 124 17).toNatClampNeg ≤ toN (LX8_next_103g (k + 1) M gl) ∧ (LX8_next_103g (k + 1) M gl 124 16 = 0 ∨ (M 124 17).toNatClampNeg < toN (LX8_next_103g (k + 1) M gl))) := by
  have r0 : NQ M (mU M 124 18 (M 124 17)) := NQ.put (by decide)
  rw [LX8_next_103g]
  split
  · exact ⟨r0.trans (NQ.put (by decide)), fun h => ⟨fx_wx h, Nat.le_refl _, Or.inl rfl⟩⟩
  · rename_i hc
    split
    · split
      · have key : ∀ v : Int32, FX M → WX (mU (mU (mU M 124 18 (M 124 17)) 124 18 ((mU M 124 18 (M 124 17)) 124 17 + 1)) 124 16 v) ∧ (M 124 17).toNatClampNeg < toN (mU (mU (mU M 124 18 (M 124 17)) 124 18 ((mU M 124 18 (M 124 17)) 124 17 + 1)) 124 16 v) := fun v h => by
          have hn := fx_nle h hc
          have h6 := fx_lt h hn
          have h1 := wx_step (fx_wx h) (show ¬ (mU M 124 18 (M 124 17)) 124 15 ≤ (mU M 124 18 (M 124 17)) 124 18 from hn)
          have h2 := toN_step (fx_wx h).tx (show ¬ (mU M 124 18 (M 124 17)) 124 15 ≤ (mU M 124 18 (M 124 17)) 124 18 from hn)
          refine ⟨h1, ?_⟩
          show (M 124 17).toNatClampNeg < toN (mU (mU M 124 18 (M 124 17)) 124 18 ((mU M 124 18 (M 124 17)) 124 18 + 1))
          rw [h2]
          exact Nat.lt_succ_self _
        split <;> exact ⟨(r0.trans (NQ.put (by decide))).trans (NQ.put (by decide)), fun h => ⟨(key _ h).1, Nat.le_of_lt (key _ h).2, Or.inr (key _ h).2⟩⟩
      · rename_i hl hd
        refine ⟨r0.trans ((NQ.put (by decide)).trans (sn5 gl 601 _).1), fun h => ?_⟩
        have hn := fx_nle h hc
        have h1 := sn_first (M := mU M 124 18 (M 124 17)) (x := gl) (fx_wx h) hn hd
        exact ⟨((sn5 gl 601 (mU (mU M 124 18 (M 124 17)) 124 19 0)).2.1 (fx_wx h)).1, Nat.le_of_lt h1, Or.inr h1⟩
    · rename_i hl
      refine ⟨r0.trans (sw0 gl 601 _).1, fun h => ?_⟩
      have hn := fx_nle h hc
      have h1 := sw_first (M := mU M 124 18 (M 124 17)) (x := gl) (fx_wx h) hn hl
      exact ⟨((sw0 gl 601 (mU M 124 18 (M 124 17))).2.1 (fx_wx h)).1, Nat.le_of_lt h1, Or.inr h1⟩
theorem nx82 (M : Mem) (nd : Int32) : NQ M (LX8_next_82g 1 M nd) ∧ (FX M → WX (LX8_next_82g 1 M nd) ∧ (M 124 17).toNatClampNeg ≤ toN (LX8_next_82g 1 M nd) ∧ (LX8_next_82g 1 M nd 124 16 = 0 ∨ (M 124 17).toNatClampNeg < toN (LX8_next_82g 1 M nd))) := by
  rw [LX8_next_82g]
  (repeat' split) <;> exact nx103 0 M _
theorem fxN_step {M : Mem} (h : FX M) (hc : ¬ M 124 15 ≤ M 124 17) : (mU M 124 17 (M 124 17 + 1) 124 17).toNatClampNeg = (M 124 17).toNatClampNeg + 1 := by
  have h6 := fx_lt h hc
  obtain ⟨e, t, h1, h2, h3, h4⟩ := h
  rw [mU_at, show upd (M 124) 17 (M 124 17 + 1) 17 = M 124 17 + 1 from rfl, h4, nI_1, nI_clamp (by omega), nI_clamp (by omega)]
theorem nx30 (nd : Int32) : ∀ (k : Nat) (M : Mem), NQ M (LX8_next_30g k M nd) ∧ (FX M → 601 ≤ (M 124 17).toNatClampNeg + k → WX (LX8_next_30g k M nd) ∧ (M 124 17).toNatClampNeg ≤ toN (LX8_next_30g k M nd) ∧ (LX8_next_30g k M nd 124 16 = 0 ∨ (M 124 17).toNatClampNeg < toN (LX8_next_30g k M nd))) := by
  intro k
  induction k with
  | zero => intro M; exact ⟨NQ.refl M, fun h hk => fx_zero h hk⟩
  | succ k ih =>
    intro M
    have h82 := nx82 M nd
    rw [LX8_next_30g]
    split
    · exact ⟨h82.1, fun h _ => h82.2 h⟩
    · rename_i hc
      have hi : NQ M (LX8_next_30g k (mU M 124 17 (M 124 17 + 1)) nd) ∧ (FX M → 601 ≤ (M 124 17).toNatClampNeg + (k + 1) → WX (LX8_next_30g k (mU M 124 17 (M 124 17 + 1)) nd) ∧ (M 124 17).toNatClampNeg ≤ toN (LX8_next_30g k (mU M 124 17 (M 124 17 + 1)) nd) ∧ (LX8_next_30g k (mU M 124 17 (M 124 17 + 1)) nd 124 16 = 0 ∨ (M 124 17).toNatClampNeg < toN (LX8_next_30g k (mU M 124 17 (M 124 17 + 1)) nd))) := by
        obtain ⟨i1, i2⟩ := ih (mU M 124 17 (M 124 17 + 1))
        refine ⟨(NQ.put (by decide)).trans i1, fun h hk => ?_⟩
        obtain ⟨j1, j2, j3⟩ := i2 (fx_step h hc) (fx_fuel h hk)
        rw [fxN_step h hc] at j2 j3
        exact ⟨j1, by omega, j3.elim Or.inl (fun h => Or.inr (by omega))⟩
      (repeat' split) <;> first
        | exact hi
        | exact ⟨h82.1, fun h _ => h82.2 h⟩
theorem nx22 (M : Mem) (nd : Int32) : NQ M (LX8_next_22g 1 M nd) ∧ (TX M → WX (LX8_next_22g 1 M nd) ∧ toN M ≤ toN (LX8_next_22g 1 M nd) ∧ (LX8_next_22g 1 M nd 124 16 = 0 ∨ toN M < toN (LX8_next_22g 1 M nd))) := by
  rw [LX8_next_22g]
  obtain ⟨i1, i2⟩ := nx30 nd 601 (mU M 124 17 (M 124 18))
  exact ⟨(NQ.put (by decide)).trans i1, fun h => i2 h (by omega)⟩
theorem n8_nx (M : Mem) : NQ M (gX8_next M) ∧ (TX M → WX (gX8_next M) ∧ toN M ≤ toN (gX8_next M) ∧ (gX8_next M 124 16 = 0 ∨ toN M < toN (gX8_next M))) := by
  unfold gX8_next
  (repeat' split) <;> exact nx22 M _
/-- the rest of the object, faults apart -/
def NR (M M' : Mem) : Prop := (∀ p, p ≠ 124 → M' p = M p) ∧ ∀ j, j < 15 → M' 124 j = M 124 j
theorem NR.refl (M : Mem) : NR M M := ⟨fun _ _ => rfl, fun _ _ => rfl⟩
theorem NR.trans {M M1 M2 : Mem} (h : NR M M1) (h2 : NR M1 M2) : NR M M2 := ⟨fun p hp => (h2.1 p hp).trans (h.1 p hp), fun j hj => (h2.2 j hj).trans (h.2 j hj)⟩
theorem NR.put {M : Mem} {j : Nat} {v : Int32} (h : 15 ≤ j) : NR M (mU M 124 j v) := ⟨fun p hp => mU_ne _ _ _ hp, fun i hi => mU_row (by omega)⟩
theorem NQ.nr {M M' : Mem} (h : NQ M M') : NR M M' := ⟨h.1, fun j hj => h.2 j (Or.inl hj)⟩
theorem nx_f (M : Mem) : gX8_next M 124 20 = M 124 20 ∧ gX8_next M 124 21 = M 124 21 := ⟨(n8_nx M).1.2 20 (by decide), (n8_nx M).1.2 21 (by decide)⟩
theorem nr_nx (M : Mem) : NR M (gX8_next M) := (n8_nx M).1.nr
theorem wx_nx {M : Mem} (h : WX M) : WX (gX8_next M) := ((n8_nx M).2 h.tx).1
theorem nr_er (M : Mem) (x : Int32) : NR M (gX8_errs M x) := by unfold gX8_errs; split <;> first | exact NR.refl M | exact (NR.put (by decide)).trans (NR.put (by decide))
theorem wx_er {M : Mem} {x : Int32} (h : WX M) : WX (gX8_errs M x) := by unfold gX8_errs; split <;> exact h
theorem to_er (M : Mem) (x : Int32) : toN (gX8_errs M x) = toN M := by unfold gX8_errs; split <;> rfl
theorem er_ne {M : Mem} {x : Int32} (hx : ¬ x = 0) : ¬ gX8_errs M x 124 20 = 0 := by
  unfold gX8_errs
  split
  · exact hx
  · assumption
def gX8_goesOn (M : Mem) : Mem := if (M 124 20) = 0 then (gX8_next M) else M
set_option maxHeartbeats 4000000 in
set_option maxRecDepth 100000 in
theorem c_X8_goesOn (l : Launch) (D : va_G) (cy : Nat → ClassId) (b n : Nat) (hn : 133 ≤ n) (M : Mem)  (hwx : WX M) : Met l yX8_goesOn wsX8_goesOn ({ frames := 3, cells := 0, slots := 0, locals := 63 } : Room) (CP D cy b n fT M [.ref (b + 124)]) (CQv D cy b n fT (gX8_goesOn M)) 0 0 (fr b) := by
  refine Met.ofW (cc := cX8_goesOn) (maxL := 1) (ret := none) (by decide) rfl ?_
  intro p e s m args below meth c s₁ B hml hv
  obtain ⟨rfl, hP, hK, hX⟩ := hv
  have hx := B.exec
  have hb := B.bytes
  have hr := B.returns
  have hts := atoms_spec (ws := wsX8_goesOn) B.pre
  have hown : s.vm.findClass RX8 = some m.cls := findClass_of_methodNamed B.named
  have hlocks := B.notSynchronized
  have lk0 := hts (.fieldLink RX8 138 "HygrometerRoomModel" "fault" "I") (by decide +kernel)
  have inc8 : ∀ w ∈ u_ws RX8 TX8 22, w ∈ wsX8_goesOn := by decide +kernel
  have hS : va_S (fr b) s.heap s.heap [] := va_S.rf
  have hl := lv_entry ([.ref (b + 124)]) (n := 1) (Nat.le_of_ble_eq_true rfl)
  rw [lg_entry_eq]
  generalize (lg_sl ([.ref (b + 124)]) ++ List.replicate (1 - (lg_sl ([.ref (b + 124)])).length) Slot.unset).toArray = ls at hl ⊢
  have hl : lv_has ls 1 [(0, .ref (b + 124))] := hl
  refine lv_aload_n hx hb dX8_goesOn_0 rfl (lv_at hl 0 rfl) ?_
  refine xg (C := RX8) (T := TX8) (N := 22) (v := .int (M 124 20)) hx hb hts inc8 hown hK hP (by omega) (cell8 (by decide)) rfl 20 (by decide) lk0 (fun _ h => h) rfl dX8_goesOn_1 ?_
  refine lv_if_ne (tgt := 11) hx hb dX8_goesOn_4 (by decide) (fun c4 => ?_) (fun c4 => ?_)
  · exact xe_v hx hb hr hlocks hP hS rfl (by rw [gX8_goesOn, if_neg c4] <;> rfl) (Nat.le_of_ble_eq_true rfl) (Nat.le_of_ble_eq_true rfl) dX8_goesOn_11
  · refine lv_aload_n hx hb dX8_goesOn_7 rfl (lv_at hl 0 rfl) ?_
    refine xc_v (va_runV (As := []) (rest := []) ⟨hx, hb, hml, hown, hts⟩ (c_X8_next l D cy b n hn M hwx.tx) (cwV 0 hts gX8_goesOn_X8_next rfl rfl rfl (by decide +kernel) ⟨Nat.le_of_ble_eq_true rfl, Nat.le_of_ble_eq_true rfl⟩) (xPreV hP hK hX hS (by omega) (cell8 (by decide)) rfl) rfl rfl hl.1 rfl (lv_room (Nat.le_of_ble_eq_true rfl)) dX8_goesOn_8 ⟨Nat.le_of_ble_eq_true rfl, Nat.le_of_ble_eq_true rfl⟩) hS (fun H locs hP hS => ?_)
    exact xe_v hx hb hr hlocks hP hS rfl (by rw [gX8_goesOn, if_pos c4] <;> rfl) (Nat.le_of_ble_eq_true rfl) (Nat.le_of_ble_eq_true rfl) dX8_goesOn_11
def fX8_here (M : Mem) (x : Int32) (y : Int32) : Int32 := if (M 124 20) = 0 then (if (M 124 16) = (2 : Int32) then (if (M 124 20) = 0 then (if (fX8_in M (M 124 19) x y) = 0 then (if ((gX8_errs M (2 : Int32)) 124 20) = 0 then ((gX8_errs M (2 : Int32)) 124 19) else x) else (if (M 124 20) = 0 then (M 124 19) else x)) else (if (M 124 20) = 0 then (M 124 19) else x)) else (if ((gX8_errs M (1 : Int32)) 124 20) = 0 then (if (fX8_in (gX8_errs M (1 : Int32)) ((gX8_errs M (1 : Int32)) 124 19) x y) = 0 then (if ((gX8_errs (gX8_errs M (1 : Int32)) (2 : Int32)) 124 20) = 0 then ((gX8_errs (gX8_errs M (1 : Int32)) (2 : Int32)) 124 19) else x) else (if ((gX8_errs M (1 : Int32)) 124 20) = 0 then ((gX8_errs M (1 : Int32)) 124 19) else x)) else (if ((gX8_errs M (1 : Int32)) 124 20) = 0 then ((gX8_errs M (1 : Int32)) 124 19) else x))) else (if (M 124 20) = 0 then (if (fX8_in M (M 124 19) x y) = 0 then (if ((gX8_errs M (2 : Int32)) 124 20) = 0 then ((gX8_errs M (2 : Int32)) 124 19) else x) else (if (M 124 20) = 0 then (M 124 19) else x)) else (if (M 124 20) = 0 then (M 124 19) else x))
def gX8_here (M : Mem) (x : Int32) (y : Int32) : Mem := if (M 124 20) = 0 then (if (M 124 16) = (2 : Int32) then (if (M 124 20) = 0 then (if (fX8_in M (M 124 19) x y) = 0 then (if ((gX8_errs M (2 : Int32)) 124 20) = 0 then (gX8_errs M (2 : Int32)) else (gX8_errs M (2 : Int32))) else (if (M 124 20) = 0 then M else M)) else (if (M 124 20) = 0 then M else M)) else (if ((gX8_errs M (1 : Int32)) 124 20) = 0 then (if (fX8_in (gX8_errs M (1 : Int32)) ((gX8_errs M (1 : Int32)) 124 19) x y) = 0 then (if ((gX8_errs (gX8_errs M (1 : Int32)) (2 : Int32)) 124 20) = 0 then (gX8_errs (gX8_errs M (1 : Int32)) (2 : Int32)) else (gX8_errs (gX8_errs M (1 : Int32)) (2 : Int32))) else (if ((gX8_errs M (1 : Int32)) 124 20) = 0 then (gX8_errs M (1 : Int32)) else (gX8_errs M (1 : Int32)))) else (if ((gX8_errs M (1 : Int32)) 124 20) = 0 then (gX8_errs M (1 : Int32)) else (gX8_errs M (1 : Int32))))) else (if (M 124 20) = 0 then (if (fX8_in M (M 124 19) x y) = 0 then (if ((gX8_errs M (2 : Int32)) 124 20) = 0 then (gX8_errs M (2 : Int32)) else (gX8_errs M (2 : Int32))) else (if (M 124 20) = 0 then M else M)) else (if (M 124 20) = 0 then M else M))
set_option maxHeartbeats 4000000 in
set_option maxRecDepth 100000 in
theorem c_X8_here (l : Launch) (D : va_G) (cy : Nat → ClassId) (b n : Nat) (hn : 133 ≤ n) (M : Mem) (x : Int32) (y : Int32)  : Met l yX8_here wsX8_here ({ frames := 1, cells := 0, slots := 0, locals := 22 } : Room) (CP D cy b n fT M [.ref (b + 124), .int x, .int y]) (CQi D cy b n fT (fX8_here M x y) (gX8_here M x y)) 0 0 (fr b) := by
  refine Met.ofW (cc := cX8_here) (maxL := 3) (ret := (some .int)) (by decide) rfl ?_
  intro p e s m args below meth c s₁ B hml hv
  obtain ⟨rfl, hP, hK, hX⟩ := hv
  have hx := B.exec
  have hb := B.bytes
  have hr := B.returns
  have hts := atoms_spec (ws := wsX8_here) B.pre
  have hown : s.vm.findClass RX8 = some m.cls := findClass_of_methodNamed B.named
  have hlocks := B.notSynchronized
  have lk0 := hts (.fieldLink RX8 138 "HygrometerRoomModel" "fault" "I") (by decide +kernel)
  have lk1 := hts (.fieldLink RX8 135 "HygrometerRoomModel" "value" "I") (by decide +kernel)
  have lk2 := hts (.fieldLink RX8 110 "HygrometerRoomModel" "kind" "I") (by decide +kernel)
  have inc8 : ∀ w ∈ u_ws RX8 TX8 22, w ∈ wsX8_here := by decide +kernel
  have hS : va_S (fr b) s.heap s.heap [] := va_S.rf
  have hl := lv_entry ([.ref (b + 124), .int x, .int y]) (n := 3) (Nat.le_of_ble_eq_true rfl)
  rw [lg_entry_eq]
  generalize (lg_sl ([.ref (b + 124), .int x, .int y]) ++ List.replicate (3 - (lg_sl ([.ref (b + 124), .int x, .int y])).length) Slot.unset).toArray = ls at hl ⊢
  have hl : lv_has ls 3 [(0, .ref (b + 124)), (1, .int x), (2, .int y)] := hl
  refine lv_aload_n hx hb dX8_here_0 rfl (lv_at hl 0 rfl) ?_
  refine xg (C := RX8) (T := TX8) (N := 22) (v := .int (M 124 20)) hx hb hts inc8 hown hK hP (by omega) (cell8 (by decide)) rfl 20 (by decide) lk0 (fun _ h => h) rfl dX8_here_1 ?_
  refine lv_if_ne (tgt := 20) hx hb dX8_here_4 (by decide) (fun c4 => ?_) (fun c4 => ?_)
  · refine lv_aload_n hx hb dX8_here_20 rfl (lv_at hl 0 rfl) ?_
    refine xg (C := RX8) (T := TX8) (N := 22) (v := .int (M 124 20)) hx hb hts inc8 hown hK hP (by omega) (cell8 (by decide)) rfl 20 (by decide) lk0 (fun _ h => h) rfl dX8_here_21 ?_
    refine lv_if_ne (tgt := 44) hx hb dX8_here_24 (by decide) (fun c24 => ?_) (fun c24 => ?_)
    · refine lv_aload_n hx hb dX8_here_44 rfl (lv_at hl 0 rfl) ?_
      refine xg (C := RX8) (T := TX8) (N := 22) (v := .int (M 124 20)) hx hb hts inc8 hown hK hP (by omega) (cell8 (by decide)) rfl 20 (by decide) lk0 (fun _ h => h) rfl dX8_here_45 ?_
      refine lv_if_ne (tgt := 56) hx hb dX8_here_48 (by decide) (fun c48 => ?_) (fun c48 => ?_)
      · refine lv_iload_n hx hb dX8_here_56 rfl (lv_at hl 1 rfl) ?_
        exact xe_i hx hb hr hlocks hP hS rfl (by rw [gX8_here, if_neg c4, if_neg c24, if_neg c48] <;> rfl) (by rw [fX8_here, if_neg c4, if_neg c24, if_neg c48] <;> rfl) (Nat.le_of_ble_eq_true rfl) (Nat.le_of_ble_eq_true rfl) dX8_here_57
      · refine lv_aload_n hx hb dX8_here_51 rfl (lv_at hl 0 rfl) ?_
        refine xg (C := RX8) (T := TX8) (N := 22) (v := .int (M 124 19)) hx hb hts inc8 hown hK hP (by omega) (cell8 (by decide)) rfl 19 (by decide) lk1 (fun _ h => h) rfl dX8_here_52 ?_
        exact xe_i hx hb hr hlocks hP hS rfl (by rw [gX8_here, if_neg c4, if_neg c24, if_pos c48] <;> rfl) (by rw [fX8_here, if_neg c4, if_neg c24, if_pos c48] <;> rfl) (Nat.le_of_ble_eq_true rfl) (Nat.le_of_ble_eq_true rfl) dX8_here_55
    · refine lv_aload_n hx hb dX8_here_27 rfl (lv_at hl 0 rfl) ?_
      refine xg (C := RX8) (T := TX8) (N := 22) (v := .int (M 124 19)) hx hb hts inc8 hown hK hP (by omega) (cell8 (by decide)) rfl 19 (by decide) lk1 (fun _ h => h) rfl dX8_here_28 ?_
      refine lv_iload_n hx hb dX8_here_31 rfl (lv_at hl 1 rfl) ?_
      refine lv_iload_n hx hb dX8_here_32 rfl (lv_at hl 2 rfl) ?_
      refine xc_i (va_runS (As := [.int (M 124 19), .int x, .int y]) (rest := []) ⟨hx, hb, hml, hown, hts⟩ (c_X8_in l D cy b n hn M (M 124 19) x y) (va_cwS 3 hts gX8_here_X8_in rfl rfl rfl (by decide +kernel) ⟨Nat.le_of_ble_eq_true rfl, Nat.le_of_ble_eq_true rfl⟩) (xPreS hP hK hX hS) rfl rfl hl.1 rfl (lv_room (Nat.le_of_ble_eq_true rfl)) dX8_here_33 ⟨Nat.le_of_ble_eq_true rfl, Nat.le_of_ble_eq_true rfl⟩) hS (fun H locs hP hS => ?_)
      refine lv_if_ne (tgt := 44) hx hb dX8_here_36 (by decide) (fun c36 => ?_) (fun c36 => ?_)
      · refine lv_aload_n hx hb dX8_here_44 rfl (lv_at hl 0 rfl) ?_
        refine xg (C := RX8) (T := TX8) (N := 22) (v := .int (M 124 20)) hx hb hts inc8 hown hK hP (by omega) (cell8 (by decide)) rfl 20 (by decide) lk0 (fun _ h => h) rfl dX8_here_45 ?_
        refine lv_if_ne (tgt := 56) hx hb dX8_here_48 (by decide) (fun c48 => ?_) (fun c48 => ?_)
        · refine lv_iload_n hx hb dX8_here_56 rfl (lv_at hl 1 rfl) ?_
          exact xe_i hx hb hr hlocks hP hS rfl (by rw [gX8_here, if_neg c4, if_pos c24, if_neg c36, if_neg c48] <;> rfl) (by rw [fX8_here, if_neg c4, if_pos c24, if_neg c36, if_neg c48] <;> rfl) (Nat.le_of_ble_eq_true rfl) (Nat.le_of_ble_eq_true rfl) dX8_here_57
        · refine lv_aload_n hx hb dX8_here_51 rfl (lv_at hl 0 rfl) ?_
          refine xg (C := RX8) (T := TX8) (N := 22) (v := .int (M 124 19)) hx hb hts inc8 hown hK hP (by omega) (cell8 (by decide)) rfl 19 (by decide) lk1 (fun _ h => h) rfl dX8_here_52 ?_
          exact xe_i hx hb hr hlocks hP hS rfl (by rw [gX8_here, if_neg c4, if_pos c24, if_neg c36, if_pos c48] <;> rfl) (by rw [fX8_here, if_neg c4, if_pos c24, if_neg c36, if_pos c48] <;> rfl) (Nat.le_of_ble_eq_true rfl) (Nat.le_of_ble_eq_true rfl) dX8_here_55
      · refine lv_aload_n hx hb dX8_here_39 rfl (lv_at hl 0 rfl) ?_
        refine lv_iconst (v := 2) hx hb dX8_here_40 (by decide) ?_
        refine xc_v (va_runV (As := [.int (2 : Int32)]) (rest := []) ⟨hx, hb, hml, hown, hts⟩ (c_X8_errs l D cy b n hn M (2 : Int32)) (cwV 1 hts gX8_here_X8_errs rfl rfl rfl (by decide +kernel) ⟨Nat.le_of_ble_eq_true rfl, Nat.le_of_ble_eq_true rfl⟩) (xPreV hP hK hX hS (by omega) (cell8 (by decide)) rfl) rfl rfl hl.1 rfl (lv_room (Nat.le_of_ble_eq_true rfl)) dX8_here_41 ⟨Nat.le_of_ble_eq_true rfl, Nat.le_of_ble_eq_true rfl⟩) hS (fun H locs hP hS => ?_)
        refine lv_aload_n hx hb dX8_here_44 rfl (lv_at hl 0 rfl) ?_
        refine xg (C := RX8) (T := TX8) (N := 22) (v := .int ((gX8_errs M (2 : Int32)) 124 20)) hx hb hts inc8 hown hK hP (by omega) (cell8 (by decide)) rfl 20 (by decide) lk0 (fun _ h => h) rfl dX8_here_45 ?_
        refine lv_if_ne (tgt := 56) hx hb dX8_here_48 (by decide) (fun c48 => ?_) (fun c48 => ?_)
        · refine lv_iload_n hx hb dX8_here_56 rfl (lv_at hl 1 rfl) ?_
          exact xe_i hx hb hr hlocks hP hS rfl (by rw [gX8_here, if_neg c4, if_pos c24, if_pos c36, if_neg c48] <;> rfl) (by rw [fX8_here, if_neg c4, if_pos c24, if_pos c36, if_neg c48] <;> rfl) (Nat.le_of_ble_eq_true rfl) (Nat.le_of_ble_eq_true rfl) dX8_here_57
        · refine lv_aload_n hx hb dX8_here_51 rfl (lv_at hl 0 rfl) ?_
          refine xg (C := RX8) (T := TX8) (N := 22) (v := .int ((gX8_errs M (2 : Int32)) 124 19)) hx hb hts inc8 hown hK hP (by omega) (cell8 (by decide)) rfl 19 (by decide) lk1 (fun _ h => h) rfl dX8_here_52 ?_
          exact xe_i hx hb hr hlocks hP hS rfl (by rw [gX8_here, if_neg c4, if_pos c24, if_pos c36, if_pos c48] <;> rfl) (by rw [fX8_here, if_neg c4, if_pos c24, if_pos c36, if_pos c48] <;> rfl) (Nat.le_of_ble_eq_true rfl) (Nat.le_of_ble_eq_true rfl) dX8_here_55
  · refine lv_aload_n hx hb dX8_here_7 rfl (lv_at hl 0 rfl) ?_
    refine xg (C := RX8) (T := TX8) (N := 22) (v := .int (M 124 16)) hx hb hts inc8 hown hK hP (by omega) (cell8 (by decide)) rfl 16 (by decide) lk2 (fun _ h => h) rfl dX8_here_8 ?_
    refine lv_iconst (v := 2) hx hb dX8_here_11 (by decide) ?_
    refine lv_icmp_eq (tgt := 20) hx hb dX8_here_12 (by decide) (fun c12 => ?_) (fun c12 => ?_)
    · refine lv_aload_n hx hb dX8_here_20 rfl (lv_at hl 0 rfl) ?_
      refine xg (C := RX8) (T := TX8) (N := 22) (v := .int (M 124 20)) hx hb hts inc8 hown hK hP (by omega) (cell8 (by decide)) rfl 20 (by decide) lk0 (fun _ h => h) rfl dX8_here_21 ?_
      refine lv_if_ne (tgt := 44) hx hb dX8_here_24 (by decide) (fun c24 => ?_) (fun c24 => ?_)
      · refine lv_aload_n hx hb dX8_here_44 rfl (lv_at hl 0 rfl) ?_
        refine xg (C := RX8) (T := TX8) (N := 22) (v := .int (M 124 20)) hx hb hts inc8 hown hK hP (by omega) (cell8 (by decide)) rfl 20 (by decide) lk0 (fun _ h => h) rfl dX8_here_45 ?_
        refine lv_if_ne (tgt := 56) hx hb dX8_here_48 (by decide) (fun c48 => ?_) (fun c48 => ?_)
        · refine lv_iload_n hx hb dX8_here_56 rfl (lv_at hl 1 rfl) ?_
          exact xe_i hx hb hr hlocks hP hS rfl (by rw [gX8_here, if_pos c4, if_pos c12, if_neg c24, if_neg c48] <;> rfl) (by rw [fX8_here, if_pos c4, if_pos c12, if_neg c24, if_neg c48] <;> rfl) (Nat.le_of_ble_eq_true rfl) (Nat.le_of_ble_eq_true rfl) dX8_here_57
        · refine lv_aload_n hx hb dX8_here_51 rfl (lv_at hl 0 rfl) ?_
          refine xg (C := RX8) (T := TX8) (N := 22) (v := .int (M 124 19)) hx hb hts inc8 hown hK hP (by omega) (cell8 (by decide)) rfl 19 (by decide) lk1 (fun _ h => h) rfl dX8_here_52 ?_
          exact xe_i hx hb hr hlocks hP hS rfl (by rw [gX8_here, if_pos c4, if_pos c12, if_neg c24, if_pos c48] <;> rfl) (by rw [fX8_here, if_pos c4, if_pos c12, if_neg c24, if_pos c48] <;> rfl) (Nat.le_of_ble_eq_true rfl) (Nat.le_of_ble_eq_true rfl) dX8_here_55
      · refine lv_aload_n hx hb dX8_here_27 rfl (lv_at hl 0 rfl) ?_
        refine xg (C := RX8) (T := TX8) (N := 22) (v := .int (M 124 19)) hx hb hts inc8 hown hK hP (by omega) (cell8 (by decide)) rfl 19 (by decide) lk1 (fun _ h => h) rfl dX8_here_28 ?_
        refine lv_iload_n hx hb dX8_here_31 rfl (lv_at hl 1 rfl) ?_
        refine lv_iload_n hx hb dX8_here_32 rfl (lv_at hl 2 rfl) ?_
        refine xc_i (va_runS (As := [.int (M 124 19), .int x, .int y]) (rest := []) ⟨hx, hb, hml, hown, hts⟩ (c_X8_in l D cy b n hn M (M 124 19) x y) (va_cwS 3 hts gX8_here_X8_in rfl rfl rfl (by decide +kernel) ⟨Nat.le_of_ble_eq_true rfl, Nat.le_of_ble_eq_true rfl⟩) (xPreS hP hK hX hS) rfl rfl hl.1 rfl (lv_room (Nat.le_of_ble_eq_true rfl)) dX8_here_33 ⟨Nat.le_of_ble_eq_true rfl, Nat.le_of_ble_eq_true rfl⟩) hS (fun H locs hP hS => ?_)
        refine lv_if_ne (tgt := 44) hx hb dX8_here_36 (by decide) (fun c36 => ?_) (fun c36 => ?_)
        · refine lv_aload_n hx hb dX8_here_44 rfl (lv_at hl 0 rfl) ?_
          refine xg (C := RX8) (T := TX8) (N := 22) (v := .int (M 124 20)) hx hb hts inc8 hown hK hP (by omega) (cell8 (by decide)) rfl 20 (by decide) lk0 (fun _ h => h) rfl dX8_here_45 ?_
          refine lv_if_ne (tgt := 56) hx hb dX8_here_48 (by decide) (fun c48 => ?_) (fun c48 => ?_)
          · refine lv_iload_n hx hb dX8_here_56 rfl (lv_at hl 1 rfl) ?_
            exact xe_i hx hb hr hlocks hP hS rfl (by rw [gX8_here, if_pos c4, if_pos c12, if_pos c24, if_neg c36, if_neg c48] <;> rfl) (by rw [fX8_here, if_pos c4, if_pos c12, if_pos c24, if_neg c36, if_neg c48] <;> rfl) (Nat.le_of_ble_eq_true rfl) (Nat.le_of_ble_eq_true rfl) dX8_here_57
          · refine lv_aload_n hx hb dX8_here_51 rfl (lv_at hl 0 rfl) ?_
            refine xg (C := RX8) (T := TX8) (N := 22) (v := .int (M 124 19)) hx hb hts inc8 hown hK hP (by omega) (cell8 (by decide)) rfl 19 (by decide) lk1 (fun _ h => h) rfl dX8_here_52 ?_
            exact xe_i hx hb hr hlocks hP hS rfl (by rw [gX8_here, if_pos c4, if_pos c12, if_pos c24, if_neg c36, if_pos c48] <;> rfl) (by rw [fX8_here, if_pos c4, if_pos c12, if_pos c24, if_neg c36, if_pos c48] <;> rfl) (Nat.le_of_ble_eq_true rfl) (Nat.le_of_ble_eq_true rfl) dX8_here_55
        · refine lv_aload_n hx hb dX8_here_39 rfl (lv_at hl 0 rfl) ?_
          refine lv_iconst (v := 2) hx hb dX8_here_40 (by decide) ?_
          refine xc_v (va_runV (As := [.int (2 : Int32)]) (rest := []) ⟨hx, hb, hml, hown, hts⟩ (c_X8_errs l D cy b n hn M (2 : Int32)) (cwV 1 hts gX8_here_X8_errs rfl rfl rfl (by decide +kernel) ⟨Nat.le_of_ble_eq_true rfl, Nat.le_of_ble_eq_true rfl⟩) (xPreV hP hK hX hS (by omega) (cell8 (by decide)) rfl) rfl rfl hl.1 rfl (lv_room (Nat.le_of_ble_eq_true rfl)) dX8_here_41 ⟨Nat.le_of_ble_eq_true rfl, Nat.le_of_ble_eq_true rfl⟩) hS (fun H locs hP hS => ?_)
          refine lv_aload_n hx hb dX8_here_44 rfl (lv_at hl 0 rfl) ?_
          refine xg (C := RX8) (T := TX8) (N := 22) (v := .int ((gX8_errs M (2 : Int32)) 124 20)) hx hb hts inc8 hown hK hP (by omega) (cell8 (by decide)) rfl 20 (by decide) lk0 (fun _ h => h) rfl dX8_here_45 ?_
          refine lv_if_ne (tgt := 56) hx hb dX8_here_48 (by decide) (fun c48 => ?_) (fun c48 => ?_)
          · refine lv_iload_n hx hb dX8_here_56 rfl (lv_at hl 1 rfl) ?_
            exact xe_i hx hb hr hlocks hP hS rfl (by rw [gX8_here, if_pos c4, if_pos c12, if_pos c24, if_pos c36, if_neg c48] <;> rfl) (by rw [fX8_here, if_pos c4, if_pos c12, if_pos c24, if_pos c36, if_neg c48] <;> rfl) (Nat.le_of_ble_eq_true rfl) (Nat.le_of_ble_eq_true rfl) dX8_here_57
          · refine lv_aload_n hx hb dX8_here_51 rfl (lv_at hl 0 rfl) ?_
            refine xg (C := RX8) (T := TX8) (N := 22) (v := .int ((gX8_errs M (2 : Int32)) 124 19)) hx hb hts inc8 hown hK hP (by omega) (cell8 (by decide)) rfl 19 (by decide) lk1 (fun _ h => h) rfl dX8_here_52 ?_
            exact xe_i hx hb hr hlocks hP hS rfl (by rw [gX8_here, if_pos c4, if_pos c12, if_pos c24, if_pos c36, if_pos c48] <;> rfl) (by rw [fX8_here, if_pos c4, if_pos c12, if_pos c24, if_pos c36, if_pos c48] <;> rfl) (Nat.le_of_ble_eq_true rfl) (Nat.le_of_ble_eq_true rfl) dX8_here_55
    · refine lv_aload_n hx hb dX8_here_15 rfl (lv_at hl 0 rfl) ?_
      refine lv_iconst (v := 1) hx hb dX8_here_16 (by decide) ?_
      refine xc_v (va_runV (As := [.int (1 : Int32)]) (rest := []) ⟨hx, hb, hml, hown, hts⟩ (c_X8_errs l D cy b n hn M (1 : Int32)) (cwV 1 hts gX8_here_X8_errs rfl rfl rfl (by decide +kernel) ⟨Nat.le_of_ble_eq_true rfl, Nat.le_of_ble_eq_true rfl⟩) (xPreV hP hK hX hS (by omega) (cell8 (by decide)) rfl) rfl rfl hl.1 rfl (lv_room (Nat.le_of_ble_eq_true rfl)) dX8_here_17 ⟨Nat.le_of_ble_eq_true rfl, Nat.le_of_ble_eq_true rfl⟩) hS (fun H locs hP hS => ?_)
      refine lv_aload_n hx hb dX8_here_20 rfl (lv_at hl 0 rfl) ?_
      refine xg (C := RX8) (T := TX8) (N := 22) (v := .int ((gX8_errs M (1 : Int32)) 124 20)) hx hb hts inc8 hown hK hP (by omega) (cell8 (by decide)) rfl 20 (by decide) lk0 (fun _ h => h) rfl dX8_here_21 ?_
      refine lv_if_ne (tgt := 44) hx hb dX8_here_24 (by decide) (fun c24 => ?_) (fun c24 => ?_)
      · refine lv_aload_n hx hb dX8_here_44 rfl (lv_at hl 0 rfl) ?_
        refine xg (C := RX8) (T := TX8) (N := 22) (v := .int ((gX8_errs M (1 : Int32)) 124 20)) hx hb hts inc8 hown hK hP (by omega) (cell8 (by decide)) rfl 20 (by decide) lk0 (fun _ h => h) rfl dX8_here_45 ?_
        refine lv_if_ne (tgt := 56) hx hb dX8_here_48 (by decide) (fun c48 => ?_) (fun c48 => ?_)
        · refine lv_iload_n hx hb dX8_here_56 rfl (lv_at hl 1 rfl) ?_
          exact xe_i hx hb hr hlocks hP hS rfl (by rw [gX8_here, if_pos c4, if_neg c12, if_neg c24, if_neg c48] <;> rfl) (by rw [fX8_here, if_pos c4, if_neg c12, if_neg c24, if_neg c48] <;> rfl) (Nat.le_of_ble_eq_true rfl) (Nat.le_of_ble_eq_true rfl) dX8_here_57
        · refine lv_aload_n hx hb dX8_here_51 rfl (lv_at hl 0 rfl) ?_
          refine xg (C := RX8) (T := TX8) (N := 22) (v := .int ((gX8_errs M (1 : Int32)) 124 19)) hx hb hts inc8 hown hK hP (by omega) (cell8 (by decide)) rfl 19 (by decide) lk1 (fun _ h => h) rfl dX8_here_52 ?_
          exact xe_i hx hb hr hlocks hP hS rfl (by rw [gX8_here, if_pos c4, if_neg c12, if_neg c24, if_pos c48] <;> rfl) (by rw [fX8_here, if_pos c4, if_neg c12, if_neg c24, if_pos c48] <;> rfl) (Nat.le_of_ble_eq_true rfl) (Nat.le_of_ble_eq_true rfl) dX8_here_55
      · refine lv_aload_n hx hb dX8_here_27 rfl (lv_at hl 0 rfl) ?_
        refine xg (C := RX8) (T := TX8) (N := 22) (v := .int ((gX8_errs M (1 : Int32)) 124 19)) hx hb hts inc8 hown hK hP (by omega) (cell8 (by decide)) rfl 19 (by decide) lk1 (fun _ h => h) rfl dX8_here_28 ?_
        refine lv_iload_n hx hb dX8_here_31 rfl (lv_at hl 1 rfl) ?_
        refine lv_iload_n hx hb dX8_here_32 rfl (lv_at hl 2 rfl) ?_
        refine xc_i (va_runS (As := [.int ((gX8_errs M (1 : Int32)) 124 19), .int x, .int y]) (rest := []) ⟨hx, hb, hml, hown, hts⟩ (c_X8_in l D cy b n hn (gX8_errs M (1 : Int32)) ((gX8_errs M (1 : Int32)) 124 19) x y) (va_cwS 3 hts gX8_here_X8_in rfl rfl rfl (by decide +kernel) ⟨Nat.le_of_ble_eq_true rfl, Nat.le_of_ble_eq_true rfl⟩) (xPreS hP hK hX hS) rfl rfl hl.1 rfl (lv_room (Nat.le_of_ble_eq_true rfl)) dX8_here_33 ⟨Nat.le_of_ble_eq_true rfl, Nat.le_of_ble_eq_true rfl⟩) hS (fun H locs hP hS => ?_)
        refine lv_if_ne (tgt := 44) hx hb dX8_here_36 (by decide) (fun c36 => ?_) (fun c36 => ?_)
        · refine lv_aload_n hx hb dX8_here_44 rfl (lv_at hl 0 rfl) ?_
          refine xg (C := RX8) (T := TX8) (N := 22) (v := .int ((gX8_errs M (1 : Int32)) 124 20)) hx hb hts inc8 hown hK hP (by omega) (cell8 (by decide)) rfl 20 (by decide) lk0 (fun _ h => h) rfl dX8_here_45 ?_
          refine lv_if_ne (tgt := 56) hx hb dX8_here_48 (by decide) (fun c48 => ?_) (fun c48 => ?_)
          · refine lv_iload_n hx hb dX8_here_56 rfl (lv_at hl 1 rfl) ?_
            exact xe_i hx hb hr hlocks hP hS rfl (by rw [gX8_here, if_pos c4, if_neg c12, if_pos c24, if_neg c36, if_neg c48] <;> rfl) (by rw [fX8_here, if_pos c4, if_neg c12, if_pos c24, if_neg c36, if_neg c48] <;> rfl) (Nat.le_of_ble_eq_true rfl) (Nat.le_of_ble_eq_true rfl) dX8_here_57
          · refine lv_aload_n hx hb dX8_here_51 rfl (lv_at hl 0 rfl) ?_
            refine xg (C := RX8) (T := TX8) (N := 22) (v := .int ((gX8_errs M (1 : Int32)) 124 19)) hx hb hts inc8 hown hK hP (by omega) (cell8 (by decide)) rfl 19 (by decide) lk1 (fun _ h => h) rfl dX8_here_52 ?_
            exact xe_i hx hb hr hlocks hP hS rfl (by rw [gX8_here, if_pos c4, if_neg c12, if_pos c24, if_neg c36, if_pos c48] <;> rfl) (by rw [fX8_here, if_pos c4, if_neg c12, if_pos c24, if_neg c36, if_pos c48] <;> rfl) (Nat.le_of_ble_eq_true rfl) (Nat.le_of_ble_eq_true rfl) dX8_here_55
        · refine lv_aload_n hx hb dX8_here_39 rfl (lv_at hl 0 rfl) ?_
          refine lv_iconst (v := 2) hx hb dX8_here_40 (by decide) ?_
          refine xc_v (va_runV (As := [.int (2 : Int32)]) (rest := []) ⟨hx, hb, hml, hown, hts⟩ (c_X8_errs l D cy b n hn (gX8_errs M (1 : Int32)) (2 : Int32)) (cwV 1 hts gX8_here_X8_errs rfl rfl rfl (by decide +kernel) ⟨Nat.le_of_ble_eq_true rfl, Nat.le_of_ble_eq_true rfl⟩) (xPreV hP hK hX hS (by omega) (cell8 (by decide)) rfl) rfl rfl hl.1 rfl (lv_room (Nat.le_of_ble_eq_true rfl)) dX8_here_41 ⟨Nat.le_of_ble_eq_true rfl, Nat.le_of_ble_eq_true rfl⟩) hS (fun H locs hP hS => ?_)
          refine lv_aload_n hx hb dX8_here_44 rfl (lv_at hl 0 rfl) ?_
          refine xg (C := RX8) (T := TX8) (N := 22) (v := .int ((gX8_errs (gX8_errs M (1 : Int32)) (2 : Int32)) 124 20)) hx hb hts inc8 hown hK hP (by omega) (cell8 (by decide)) rfl 20 (by decide) lk0 (fun _ h => h) rfl dX8_here_45 ?_
          refine lv_if_ne (tgt := 56) hx hb dX8_here_48 (by decide) (fun c48 => ?_) (fun c48 => ?_)
          · refine lv_iload_n hx hb dX8_here_56 rfl (lv_at hl 1 rfl) ?_
            exact xe_i hx hb hr hlocks hP hS rfl (by rw [gX8_here, if_pos c4, if_neg c12, if_pos c24, if_pos c36, if_neg c48] <;> rfl) (by rw [fX8_here, if_pos c4, if_neg c12, if_pos c24, if_pos c36, if_neg c48] <;> rfl) (Nat.le_of_ble_eq_true rfl) (Nat.le_of_ble_eq_true rfl) dX8_here_57
          · refine lv_aload_n hx hb dX8_here_51 rfl (lv_at hl 0 rfl) ?_
            refine xg (C := RX8) (T := TX8) (N := 22) (v := .int ((gX8_errs (gX8_errs M (1 : Int32)) (2 : Int32)) 124 19)) hx hb hts inc8 hown hK hP (by omega) (cell8 (by decide)) rfl 19 (by decide) lk1 (fun _ h => h) rfl dX8_here_52 ?_
            exact xe_i hx hb hr hlocks hP hS rfl (by rw [gX8_here, if_pos c4, if_neg c12, if_pos c24, if_pos c36, if_pos c48] <;> rfl) (by rw [fX8_here, if_pos c4, if_neg c12, if_pos c24, if_pos c36, if_pos c48] <;> rfl) (Nat.le_of_ble_eq_true rfl) (Nat.le_of_ble_eq_true rfl) dX8_here_55
theorem nr_go (M : Mem) : NR M (gX8_goesOn M) := by unfold gX8_goesOn; split <;> first | exact nr_nx M | exact NR.refl M
theorem wx_go {M : Mem} (h : WX M) : WX (gX8_goesOn M) := by unfold gX8_goesOn; split <;> first | exact wx_nx h | exact h
theorem nr_he (M : Mem) (x y : Int32) : NR M (gX8_here M x y) := by
  unfold gX8_here
  (repeat' split) <;> first | exact NR.refl M | exact nr_er M _ | exact (nr_er M _).trans (nr_er _ _)
theorem wx_he {M : Mem} {x y : Int32} (h : WX M) : WX (gX8_here M x y) := by
  unfold gX8_here
  (repeat' split) <;> repeat (first | exact h | apply wx_er)
def fX8_takesNumber (M : Mem) (x : Int32) (y : Int32) : Int32 := fX8_here M x y
def gX8_takesNumber (M : Mem) (x : Int32) (y : Int32) : Mem := gX8_goesOn (gX8_here M x y)
set_option maxHeartbeats 4000000 in
set_option maxRecDepth 100000 in
theorem c_X8_takesNumber (l : Launch) (D : va_G) (cy : Nat → ClassId) (b n : Nat) (hn : 133 ≤ n) (M : Mem) (x : Int32) (y : Int32) (hwx : WX M) : Met l yX8_takesNumber wsX8_takesNumber ({ frames := 4, cells := 0, slots := 0, locals := 83 } : Room) (CP D cy b n fT M [.ref (b + 124), .int x, .int y]) (CQi D cy b n fT (fX8_takesNumber M x y) (gX8_takesNumber M x y)) 0 0 (fr b) := by
  refine Met.ofW (cc := cX8_takesNumber) (maxL := 4) (ret := (some .int)) (by decide) rfl ?_
  intro p e s m args below meth c s₁ B hml hv
  obtain ⟨rfl, hP, hK, hX⟩ := hv
  have hx := B.exec
  have hb := B.bytes
  have hr := B.returns
  have hts := atoms_spec (ws := wsX8_takesNumber) B.pre
  have hown : s.vm.findClass RX8 = some m.cls := findClass_of_methodNamed B.named
  have hlocks := B.notSynchronized
  have hS : va_S (fr b) s.heap s.heap [] := va_S.rf
  have hl := lv_entry ([.ref (b + 124), .int x, .int y]) (n := 4) (Nat.le_of_ble_eq_true rfl)
  rw [lg_entry_eq]
  generalize (lg_sl ([.ref (b + 124), .int x, .int y]) ++ List.replicate (4 - (lg_sl ([.ref (b + 124), .int x, .int y])).length) Slot.unset).toArray = ls at hl ⊢
  have hl : lv_has ls 4 [(0, .ref (b + 124)), (1, .int x), (2, .int y)] := hl
  refine lv_aload_n hx hb dX8_takesNumber_0 rfl (lv_at hl 0 rfl) ?_
  refine lv_iload_n hx hb dX8_takesNumber_1 rfl (lv_at hl 1 rfl) ?_
  refine lv_iload_n hx hb dX8_takesNumber_2 rfl (lv_at hl 2 rfl) ?_
  refine xc_i (va_runV (As := [.int x, .int y]) (rest := []) ⟨hx, hb, hml, hown, hts⟩ (c_X8_here l D cy b n hn M x y) (cwV 2 hts gX8_takesNumber_X8_here rfl rfl rfl (by decide +kernel) ⟨Nat.le_of_ble_eq_true rfl, Nat.le_of_ble_eq_true rfl⟩) (xPreV hP hK hX hS (by omega) (cell8 (by decide)) rfl) rfl rfl hl.1 rfl (lv_room (Nat.le_of_ble_eq_true rfl)) dX8_takesNumber_3 ⟨Nat.le_of_ble_eq_true rfl, Nat.le_of_ble_eq_true rfl⟩) hS (fun H locs hP hS => ?_)
  refine lv_istore_n (lv' := [(3, .int (fX8_here M x y)), (0, .ref (b + 124)), (1, .int x), (2, .int y)]) hx hb dX8_takesNumber_6 rfl hl (by decide) rfl (fun ls hl => ?_)
  refine lv_aload_n hx hb dX8_takesNumber_7 rfl (lv_at hl 1 rfl) ?_
  refine xc_v (va_runV (As := []) (rest := []) ⟨hx, hb, hml, hown, hts⟩ (c_X8_goesOn l D cy b n hn (gX8_here M x y) (wx_he hwx)) (cwV 0 hts gX8_takesNumber_X8_goesOn rfl rfl rfl (by decide +kernel) ⟨Nat.le_of_ble_eq_true rfl, Nat.le_of_ble_eq_true rfl⟩) (xPreV hP hK hX hS (by omega) (cell8 (by decide)) rfl) rfl rfl hl.1 rfl (lv_room (Nat.le_of_ble_eq_true rfl)) dX8_takesNumber_8 ⟨Nat.le_of_ble_eq_true rfl, Nat.le_of_ble_eq_true rfl⟩) hS (fun H locs hP hS => ?_)
  refine lv_iload_n hx hb dX8_takesNumber_11 rfl (lv_at hl 0 rfl) ?_
  exact xe_i hx hb hr hlocks hP hS rfl (by rw [gX8_takesNumber] <;> rfl) (by rw [fX8_takesNumber] <;> rfl) (Nat.le_of_ble_eq_true rfl) (Nat.le_of_ble_eq_true rfl) dX8_takesNumber_12
theorem nr_tn (M : Mem) (x y : Int32) : NR M (gX8_takesNumber M x y) := (nr_he M x y).trans (nr_go _)
theorem wx_tn {M : Mem} {x y : Int32} (h : WX M) : WX (gX8_takesNumber M x y) := wx_go (wx_he h)
def fX8_instrumentHere (M : Mem) : Int32 := fX8_here M (0 : Int32) ((M 127 5) - (1 : Int32))
def gX8_instrumentHere (M : Mem) : Mem := gX8_here M (0 : Int32) ((M 127 5) - (1 : Int32))
set_option maxHeartbeats 4000000 in
set_option maxRecDepth 100000 in
theorem c_X8_instrumentHere (l : Launch) (D : va_G) (cy : Nat → ClassId) (b n : Nat) (hn : 133 ≤ n) (M : Mem)   : Met l yX8_instrumentHere wsX8_instrumentHere ({ frames := 2, cells := 0, slots := 0, locals := 44 } : Room) (CP D cy b n fT M [.ref (b + 124)]) (CQi D cy b n fT (fX8_instrumentHere M) (gX8_instrumentHere M)) 0 0 (fr b) := by
  refine Met.ofW (cc := cX8_instrumentHere) (maxL := 1) (ret := (some .int)) (by decide) rfl ?_
  intro p e s m args below meth c s₁ B hml hv
  obtain ⟨rfl, hP, hK, hX⟩ := hv
  have hx := B.exec
  have hb := B.bytes
  have hr := B.returns
  have hts := atoms_spec (ws := wsX8_instrumentHere) B.pre
  have hown : s.vm.findClass RX8 = some m.cls := findClass_of_methodNamed B.named
  have hlocks := B.notSynchronized
  have lk0 := hts (.fieldLink RX8 16 "HygrometerRoomModel" "now" "[I") (by decide +kernel)
  have inc8 : ∀ w ∈ u_ws RX8 TX8 22, w ∈ wsX8_instrumentHere := by decide +kernel
  have hS : va_S (fr b) s.heap s.heap [] := va_S.rf
  have hl := lv_entry ([.ref (b + 124)]) (n := 1) (Nat.le_of_ble_eq_true rfl)
  rw [lg_entry_eq]
  generalize (lg_sl ([.ref (b + 124)]) ++ List.replicate (1 - (lg_sl ([.ref (b + 124)])).length) Slot.unset).toArray = ls at hl ⊢
  have hl : lv_has ls 1 [(0, .ref (b + 124))] := hl
  refine lv_aload_n hx hb dX8_instrumentHere_0 rfl (lv_at hl 0 rfl) ?_
  refine lv_iconst (v := 0) hx hb dX8_instrumentHere_1 (by decide) ?_
  refine lv_aload_n hx hb dX8_instrumentHere_2 rfl (lv_at hl 0 rfl) ?_
  refine xg (C := RX8) (T := TX8) (N := 22) (v := .ref (b + 127)) hx hb hts inc8 hown hK hP (by omega) (cell8 (by decide)) rfl 3 (by decide) lk0 (fun _ h => h) rfl dX8_instrumentHere_3 ?_
  refine lv_iconst (v := 5) hx hb dX8_instrumentHere_6 (by decide) ?_
  refine xil (j := 5) hx hb hK hP (by omega) (by decide) (ixIn (a := 5) rfl (by first | decide | (simp only [lenOf]; omega) | omega) (by decide)) rfl dX8_instrumentHere_7 ?_
  refine lv_iconst (v := 1) hx hb dX8_instrumentHere_8 (by decide) ?_
  refine lv_isub hx hb dX8_instrumentHere_9 ?_
  refine xc_i (va_runV (As := [.int (0 : Int32), .int ((M 127 5) - (1 : Int32))]) (rest := []) ⟨hx, hb, hml, hown, hts⟩ (c_X8_here l D cy b n hn M (0 : Int32) ((M 127 5) - (1 : Int32))) (cwV 2 hts gX8_instrumentHere_X8_here rfl rfl rfl (by decide +kernel) ⟨Nat.le_of_ble_eq_true rfl, Nat.le_of_ble_eq_true rfl⟩) (xPreV hP hK hX hS (by omega) (cell8 (by decide)) rfl) rfl rfl hl.1 rfl (lv_room (Nat.le_of_ble_eq_true rfl)) dX8_instrumentHere_10 ⟨Nat.le_of_ble_eq_true rfl, Nat.le_of_ble_eq_true rfl⟩) hS (fun H locs hP hS => ?_)
  exact xe_i hx hb hr hlocks hP hS rfl (by rw [gX8_instrumentHere] <;> rfl) (by rw [fX8_instrumentHere] <;> rfl) (Nat.le_of_ble_eq_true rfl) (Nat.le_of_ble_eq_true rfl) dX8_instrumentHere_13
theorem nr_ih (M : Mem) : NR M (gX8_instrumentHere M) := nr_he M _ _
theorem wx_ih {M : Mem} (h : WX M) : WX (gX8_instrumentHere M) := wx_he h
def fX8_hasRoom (M : Mem) : Int32 := if (M 127 5) = (6 : Int32) then (0 : Int32) else (1 : Int32)
def gX8_hasRoom (M : Mem) : Mem := if (M 127 5) = (6 : Int32) then (gX8_errs M (4 : Int32)) else (gX8_next M)
set_option maxHeartbeats 4000000 in
set_option maxRecDepth 100000 in
theorem c_X8_hasRoom (l : Launch) (D : va_G) (cy : Nat → ClassId) (b n : Nat) (hn : 133 ≤ n) (M : Mem)  (hwx : WX M) : Met l yX8_hasRoom wsX8_hasRoom ({ frames := 3, cells := 0, slots := 0, locals := 63 } : Room) (CP D cy b n fT M [.ref (b + 124)]) (CQi D cy b n fT (fX8_hasRoom M) (gX8_hasRoom M)) 0 0 (fr b) := by
  refine Met.ofW (cc := cX8_hasRoom) (maxL := 1) (ret := (some .boolean)) (by decide) rfl ?_
  intro p e s m args below meth c s₁ B hml hv
  obtain ⟨rfl, hP, hK, hX⟩ := hv
  have hx := B.exec
  have hb := B.bytes
  have hr := B.returns
  have hts := atoms_spec (ws := wsX8_hasRoom) B.pre
  have hown : s.vm.findClass RX8 = some m.cls := findClass_of_methodNamed B.named
  have hlocks := B.notSynchronized
  have lk0 := hts (.fieldLink RX8 16 "HygrometerRoomModel" "now" "[I") (by decide +kernel)
  have inc8 : ∀ w ∈ u_ws RX8 TX8 22, w ∈ wsX8_hasRoom := by decide +kernel
  have hS : va_S (fr b) s.heap s.heap [] := va_S.rf
  have hl := lv_entry ([.ref (b + 124)]) (n := 1) (Nat.le_of_ble_eq_true rfl)
  rw [lg_entry_eq]
  generalize (lg_sl ([.ref (b + 124)]) ++ List.replicate (1 - (lg_sl ([.ref (b + 124)])).length) Slot.unset).toArray = ls at hl ⊢
  have hl : lv_has ls 1 [(0, .ref (b + 124))] := hl
  refine lv_aload_n hx hb dX8_hasRoom_0 rfl (lv_at hl 0 rfl) ?_
  refine xg (C := RX8) (T := TX8) (N := 22) (v := .ref (b + 127)) hx hb hts inc8 hown hK hP (by omega) (cell8 (by decide)) rfl 3 (by decide) lk0 (fun _ h => h) rfl dX8_hasRoom_1 ?_
  refine lv_iconst (v := 5) hx hb dX8_hasRoom_4 (by decide) ?_
  refine xil (j := 5) hx hb hK hP (by omega) (by decide) (ixIn (a := 5) rfl (by first | decide | (simp only [lenOf]; omega) | omega) (by decide)) rfl dX8_hasRoom_5 ?_
  refine lv_bipush (v := 6) hx hb dX8_hasRoom_6 (by decide) ?_
  refine lv_icmp_ne (tgt := 18) hx hb dX8_hasRoom_8 (by decide) (fun c8 => ?_) (fun c8 => ?_)
  · refine lv_aload_n hx hb dX8_hasRoom_18 rfl (lv_at hl 0 rfl) ?_
    refine xc_v (va_runV (As := []) (rest := []) ⟨hx, hb, hml, hown, hts⟩ (c_X8_next l D cy b n hn M hwx.tx) (cwV 0 hts gX8_hasRoom_X8_next rfl rfl rfl (by decide +kernel) ⟨Nat.le_of_ble_eq_true rfl, Nat.le_of_ble_eq_true rfl⟩) (xPreV hP hK hX hS (by omega) (cell8 (by decide)) rfl) rfl rfl hl.1 rfl (lv_room (Nat.le_of_ble_eq_true rfl)) dX8_hasRoom_19 ⟨Nat.le_of_ble_eq_true rfl, Nat.le_of_ble_eq_true rfl⟩) hS (fun H locs hP hS => ?_)
    refine lv_iconst (v := 1) hx hb dX8_hasRoom_22 (by decide) ?_
    exact xe_z hx hb hr hlocks hP hS rfl (by rw [gX8_hasRoom, if_neg c8] <;> rfl) (by rw [fX8_hasRoom, if_neg c8] <;> rfl) rfl (Nat.le_of_ble_eq_true rfl) (Nat.le_of_ble_eq_true rfl) dX8_hasRoom_23
  · refine lv_aload_n hx hb dX8_hasRoom_11 rfl (lv_at hl 0 rfl) ?_
    refine lv_iconst (v := 4) hx hb dX8_hasRoom_12 (by decide) ?_
    refine xc_v (va_runV (As := [.int (4 : Int32)]) (rest := []) ⟨hx, hb, hml, hown, hts⟩ (c_X8_errs l D cy b n hn M (4 : Int32)) (cwV 1 hts gX8_hasRoom_X8_errs rfl rfl rfl (by decide +kernel) ⟨Nat.le_of_ble_eq_true rfl, Nat.le_of_ble_eq_true rfl⟩) (xPreV hP hK hX hS (by omega) (cell8 (by decide)) rfl) rfl rfl hl.1 rfl (lv_room (Nat.le_of_ble_eq_true rfl)) dX8_hasRoom_13 ⟨Nat.le_of_ble_eq_true rfl, Nat.le_of_ble_eq_true rfl⟩) hS (fun H locs hP hS => ?_)
    refine lv_iconst (v := 0) hx hb dX8_hasRoom_16 (by decide) ?_
    exact xe_z hx hb hr hlocks hP hS rfl (by rw [gX8_hasRoom, if_pos c8] <;> rfl) (by rw [fX8_hasRoom, if_pos c8] <;> rfl) rfl (Nat.le_of_ble_eq_true rfl) (Nat.le_of_ble_eq_true rfl) dX8_hasRoom_17
theorem wx_in {M : Mem} {j : Nat} (h : WX M) (hc : ¬ M 124 18 - M 124 17 ≤ nI j) (hj : j < 600) : vp_in (M 124 17 + nI j) 600 := by
  obtain ⟨e, t, f, h1, h2, h3, h4, h5, h6⟩ := h
  rw [h5, h6, pk_sub h2, nI_leI (by omega) (by omega)] at hc
  rw [h6, nI_add]
  exact vp_in_nI (by omega) (by decide)
def LX8_isKey_26f (w : Nat) : Nat → Mem → Nat → Int32
  | 0, _, _ => 0
  | k + 1, M, j => if (8 : Int32) ≤ (nI (j)) then (1 : Int32) else (if ((M 124 18) - (M 124 17)) ≤ (nI (j)) then (if (0 : Int32) = (M 126 (j + 8 * w)) then (LX8_isKey_26f w k M (j + 1)) else (0 : Int32)) else (if (M 131 (((M 124 17) + (nI (j))).toNatClampNeg)) = (M 126 (j + 8 * w)) then (LX8_isKey_26f w k M (j + 1)) else (0 : Int32)))
set_option maxHeartbeats 4000000 in
set_option maxRecDepth 100000 in
theorem cl_X8_isKey_26 (l : Launch) (D : va_G) (cy : Nat → ClassId) (b n : Nat) (hn : 133 ≤ n) (w : Nat) (hw : w < 9) {p : Program} {e : Env} {s : State} {m : MethodId} {args : Array Value} {below : List Frame} {meth : Method} {c : Code} (hx : p.tables.exec = Jvm.exec) (hb : c.code = cX8_isKey) (hr : meth.sig.returnType = (some .boolean)) (hlocks : meth.locks = false) (hml : c.maxLocals = 4) (hown : s.vm.findClass RX8 = some m.cls) (hts : ∀ w ∈ wsX8_isKey, w.before args s = true) (hK : va_K D vwCl (tysW cy) s) (hX : SX b s)  : ∀ (k : Nat) (M : Mem) (j : Nat) (H : Heap) (locs : List Loc) (ls : Array Slot), WX M → j ≤ 8 → 9 ≤ j + k → va_P D vwCl (wL cy b fT M n) H → va_S (fr b) s.heap H locs → lv_has ls 4 [(0, .ref (b + 124)), (1, .int (nI (w))), (2, .int (nI (j)))] → W p l e (headSpec wsX8_isKey ({ frames := 0, cells := 0, slots := 0, locals := 0 } : Room)).room s m args below meth c H locs 0 0 (MQ below (CQi D cy b n fT (LX8_isKey_26f w k M j) M) args s 0 0 (fr b)) (F0 m 26 ls []) := by
  have lk0 := hts (.fieldLink RX8 113 "HygrometerRoomModel" "to" "I") (by decide +kernel)
  have lk1 := hts (.fieldLink RX8 116 "HygrometerRoomModel" "from" "I") (by decide +kernel)
  have lk2 := hts (.fieldLink RX8 13 "HygrometerRoomModel" "keys" "[I") (by decide +kernel)
  have lk3 := hts (.fieldLink RX8 28 "HygrometerRoomModel" "input" "[B") (by decide +kernel)
  have inc8 : ∀ w ∈ u_ws RX8 TX8 22, w ∈ wsX8_isKey := by decide +kernel
  intro k
  induction k with
  | zero => intro M j H locs ls hwx hj hk hP hS hl; omega
  | succ k ih =>
    intro M j H locs ls hwx hj hk hP hS hl
    refine lv_iload_n hx hb dX8_isKey_26 rfl (lv_at hl 2 rfl) ?_
    refine lv_bipush (v := 8) hx hb dX8_isKey_27 (by decide) ?_
    refine lv_icmp_ge (tgt := 82) hx hb dX8_isKey_29 (by decide) (fun c29 => ?_) (fun c29 => ?_)
    · refine lv_iconst (v := 1) hx hb dX8_isKey_82 (by decide) ?_
      exact xe_z hx hb hr hlocks hP hS rfl rfl (by rw [LX8_isKey_26f, if_pos c29] <;> rfl) rfl (Nat.le_of_ble_eq_true rfl) (Nat.le_of_ble_eq_true rfl) dX8_isKey_83
    · have hj8 := lit_lt (N := 8) c29 rfl hj
      refine lv_iconst (v := 0) hx hb dX8_isKey_32 (by decide) ?_
      refine lv_istore_n (lv' := [(3, .int (0 : Int32)), (0, .ref (b + 124)), (1, .int (nI (w))), (2, .int (nI (j)))]) hx hb dX8_isKey_33 rfl hl (by decide) rfl (fun ls hl => ?_)
      refine lv_iload_n hx hb dX8_isKey_34 rfl (lv_at hl 3 rfl) ?_
      refine lv_aload_n hx hb dX8_isKey_35 rfl (lv_at hl 1 rfl) ?_
      refine xg (C := RX8) (T := TX8) (N := 22) (v := .int (M 124 18)) hx hb hts inc8 hown hK hP (by omega) (cell8 (by decide)) rfl 18 (by decide) lk0 (fun _ h => h) rfl dX8_isKey_36 ?_
      refine lv_aload_n hx hb dX8_isKey_39 rfl (lv_at hl 1 rfl) ?_
      refine xg (C := RX8) (T := TX8) (N := 22) (v := .int (M 124 17)) hx hb hts inc8 hown hK hP (by omega) (cell8 (by decide)) rfl 17 (by decide) lk1 (fun _ h => h) rfl dX8_isKey_40 ?_
      refine lv_isub hx hb dX8_isKey_43 ?_
      refine lv_icmp_ge (tgt := 59) hx hb dX8_isKey_44 (by decide) (fun c44 => ?_) (fun c44 => ?_)
      · refine lv_iload_n hx hb dX8_isKey_59 rfl (lv_at hl 0 rfl) ?_
        refine lv_aload_n hx hb dX8_isKey_60 rfl (lv_at hl 1 rfl) ?_
        refine xg (C := RX8) (T := TX8) (N := 22) (v := .ref (b + 126)) hx hb hts inc8 hown hK hP (by omega) (cell8 (by decide)) rfl 1 (by decide) lk2 (fun _ h => h) rfl dX8_isKey_61 ?_
        refine lv_bipush (v := 8) hx hb dX8_isKey_64 (by decide) ?_
        refine lv_iload_n hx hb dX8_isKey_66 rfl (lv_at hl 2 rfl) ?_
        refine xmul (z := nI (8 * w)) hx hb (ixMul (a := 8) (c := w) (d := 8 * w) rfl rfl (by omega)) dX8_isKey_67 ?_
        refine lv_iload_n hx hb dX8_isKey_68 rfl (lv_at hl 3 rfl) ?_
        refine xadd (z := nI (j + 8 * w)) hx hb (ixAdd (a := 8 * w) (c := j) (d := j + 8 * w) rfl rfl (by omega)) dX8_isKey_69 ?_
        refine xil (j := j + 8 * w) hx hb hK hP (by omega) (by decide) (ixIn (a := j + 8 * w) rfl (by first | decide | (simp only [lenOf]; omega) | omega) (by decide)) (ixAt (a := j + 8 * w) rfl (by omega)) dX8_isKey_70 ?_
        refine lv_icmp_eq (tgt := 76) hx hb dX8_isKey_71 (by decide) (fun c71 => ?_) (fun c71 => ?_)
        · refine lv_iinc (v := nI (j + 1)) (lv' := [(2, .int (nI (j + 1))), (3, .int (0 : Int32)), (0, .ref (b + 124)), (1, .int (nI (w)))]) hx hb dX8_isKey_76 hl (k := 3) rfl (ixAdd (a := j) (c := 1) (d := j + 1) rfl rfl (by omega)) (by decide) rfl (fun ls hl => ?_)
          refine lv_goto (tgt := 26) hx hb dX8_isKey_79 (by decide) ?_
          rw [show LX8_isKey_26f w (k + 1) M j = LX8_isKey_26f w k M (j + 1) from (by rw [LX8_isKey_26f, if_neg c29, if_pos c44, if_pos c71])]
          exact ih M (j + 1) H locs ls hwx (by omega) (by omega) hP hS (lv_sub hl [2, 3, 0] rfl)
        · refine lv_iconst (v := 0) hx hb dX8_isKey_74 (by decide) ?_
          exact xe_z hx hb hr hlocks hP hS rfl rfl (by rw [LX8_isKey_26f, if_neg c29, if_pos c44, if_neg c71] <;> rfl) rfl (Nat.le_of_ble_eq_true rfl) (Nat.le_of_ble_eq_true rfl) dX8_isKey_75
      · refine lv_aload_n hx hb dX8_isKey_47 rfl (lv_at hl 1 rfl) ?_
        refine xg (C := RX8) (T := TX8) (N := 22) (v := .ref (b + 131)) hx hb hts inc8 hown hK hP (by omega) (cell8 (by decide)) rfl 9 (by decide) lk3 (fun _ h => h) rfl dX8_isKey_48 ?_
        refine lv_aload_n hx hb dX8_isKey_51 rfl (lv_at hl 1 rfl) ?_
        refine xg (C := RX8) (T := TX8) (N := 22) (v := .int (M 124 17)) hx hb hts inc8 hown hK hP (by omega) (cell8 (by decide)) rfl 17 (by decide) lk1 (fun _ h => h) rfl dX8_isKey_52 ?_
        refine lv_iload_n hx hb dX8_isKey_55 rfl (lv_at hl 3 rfl) ?_
        refine lv_iadd hx hb dX8_isKey_56 ?_
        refine xbl (j := ((M 124 17) + (nI (j))).toNatClampNeg) hx hb hK hP (by omega) (by decide) (wx_in hwx c44 (by omega)) rfl dX8_isKey_57 ?_
        refine lv_istore_n (lv' := [(3, .int (M 131 (((M 124 17) + (nI (j))).toNatClampNeg))), (0, .ref (b + 124)), (1, .int (nI (w))), (2, .int (nI (j)))]) hx hb dX8_isKey_58 rfl hl (by decide) rfl (fun ls hl => ?_)
        refine lv_iload_n hx hb dX8_isKey_59 rfl (lv_at hl 0 rfl) ?_
        refine lv_aload_n hx hb dX8_isKey_60 rfl (lv_at hl 1 rfl) ?_
        refine xg (C := RX8) (T := TX8) (N := 22) (v := .ref (b + 126)) hx hb hts inc8 hown hK hP (by omega) (cell8 (by decide)) rfl 1 (by decide) lk2 (fun _ h => h) rfl dX8_isKey_61 ?_
        refine lv_bipush (v := 8) hx hb dX8_isKey_64 (by decide) ?_
        refine lv_iload_n hx hb dX8_isKey_66 rfl (lv_at hl 2 rfl) ?_
        refine xmul (z := nI (8 * w)) hx hb (ixMul (a := 8) (c := w) (d := 8 * w) rfl rfl (by omega)) dX8_isKey_67 ?_
        refine lv_iload_n hx hb dX8_isKey_68 rfl (lv_at hl 3 rfl) ?_
        refine xadd (z := nI (j + 8 * w)) hx hb (ixAdd (a := 8 * w) (c := j) (d := j + 8 * w) rfl rfl (by omega)) dX8_isKey_69 ?_
        refine xil (j := j + 8 * w) hx hb hK hP (by omega) (by decide) (ixIn (a := j + 8 * w) rfl (by first | decide | (simp only [lenOf]; omega) | omega) (by decide)) (ixAt (a := j + 8 * w) rfl (by omega)) dX8_isKey_70 ?_
        refine lv_icmp_eq (tgt := 76) hx hb dX8_isKey_71 (by decide) (fun c71 => ?_) (fun c71 => ?_)
        · refine lv_iinc (v := nI (j + 1)) (lv' := [(2, .int (nI (j + 1))), (3, .int (M 131 (((M 124 17) + (nI (j))).toNatClampNeg))), (0, .ref (b + 124)), (1, .int (nI (w)))]) hx hb dX8_isKey_76 hl (k := 3) rfl (ixAdd (a := j) (c := 1) (d := j + 1) rfl rfl (by omega)) (by decide) rfl (fun ls hl => ?_)
          refine lv_goto (tgt := 26) hx hb dX8_isKey_79 (by decide) ?_
          rw [show LX8_isKey_26f w (k + 1) M j = LX8_isKey_26f w k M (j + 1) from (by rw [LX8_isKey_26f, if_neg c29, if_neg c44, if_pos c71])]
          exact ih M (j + 1) H locs ls hwx (by omega) (by omega) hP hS (lv_sub hl [2, 3, 0] rfl)
        · refine lv_iconst (v := 0) hx hb dX8_isKey_74 (by decide) ?_
          exact xe_z hx hb hr hlocks hP hS rfl rfl (by rw [LX8_isKey_26f, if_neg c29, if_neg c44, if_neg c71] <;> rfl) rfl (Nat.le_of_ble_eq_true rfl) (Nat.le_of_ble_eq_true rfl) dX8_isKey_75

def fX8_isKey (M : Mem) (w : Nat) : Int32 := if (M 124 16) = (1 : Int32) then (if ((M 124 18) - (M 124 17)) ≤ (8 : Int32) then (LX8_isKey_26f w 9 M 0) else (0 : Int32)) else (0 : Int32)
set_option maxHeartbeats 4000000 in
set_option maxRecDepth 100000 in
theorem c_X8_isKey (l : Launch) (D : va_G) (cy : Nat → ClassId) (b n : Nat) (hn : 133 ≤ n) (M : Mem) (w : Nat) (hw : w < 9) (hwx : WX M) : Met l yX8_isKey wsX8_isKey ({ frames := 0, cells := 0, slots := 0, locals := 0 } : Room) (CP D cy b n fT M [.ref (b + 124), .int (nI (w))]) (CQi D cy b n fT (fX8_isKey M w) M) 0 0 (fr b) := by
  refine Met.ofW (cc := cX8_isKey) (maxL := 4) (ret := (some .boolean)) (by decide) rfl ?_
  intro p e s m args below meth c s₁ B hml hv
  obtain ⟨rfl, hP, hK, hX⟩ := hv
  have hx := B.exec
  have hb := B.bytes
  have hr := B.returns
  have hts := atoms_spec (ws := wsX8_isKey) B.pre
  have hown : s.vm.findClass RX8 = some m.cls := findClass_of_methodNamed B.named
  have hlocks := B.notSynchronized
  have lk0 := hts (.fieldLink RX8 110 "HygrometerRoomModel" "kind" "I") (by decide +kernel)
  have lk1 := hts (.fieldLink RX8 113 "HygrometerRoomModel" "to" "I") (by decide +kernel)
  have lk2 := hts (.fieldLink RX8 116 "HygrometerRoomModel" "from" "I") (by decide +kernel)
  have inc8 : ∀ w ∈ u_ws RX8 TX8 22, w ∈ wsX8_isKey := by decide +kernel
  have hS : va_S (fr b) s.heap s.heap [] := va_S.rf
  have hl := lv_entry ([.ref (b + 124), .int (nI (w))]) (n := 4) (Nat.le_of_ble_eq_true rfl)
  rw [lg_entry_eq]
  generalize (lg_sl ([.ref (b + 124), .int (nI (w))]) ++ List.replicate (4 - (lg_sl ([.ref (b + 124), .int (nI (w))])).length) Slot.unset).toArray = ls at hl ⊢
  have hl : lv_has ls 4 [(0, .ref (b + 124)), (1, .int (nI (w)))] := hl
  refine lv_aload_n hx hb dX8_isKey_0 rfl (lv_at hl 0 rfl) ?_
  refine xg (C := RX8) (T := TX8) (N := 22) (v := .int (M 124 16)) hx hb hts inc8 hown hK hP (by omega) (cell8 (by decide)) rfl 16 (by decide) lk0 (fun _ h => h) rfl dX8_isKey_1 ?_
  refine lv_iconst (v := 1) hx hb dX8_isKey_4 (by decide) ?_
  refine lv_icmp_ne (tgt := 22) hx hb dX8_isKey_5 (by decide) (fun c5 => ?_) (fun c5 => ?_)
  · refine lv_iconst (v := 0) hx hb dX8_isKey_22 (by decide) ?_
    exact xe_z hx hb hr hlocks hP hS rfl rfl (by rw [fX8_isKey, if_neg c5] <;> rfl) rfl (Nat.le_of_ble_eq_true rfl) (Nat.le_of_ble_eq_true rfl) dX8_isKey_23
  · refine lv_aload_n hx hb dX8_isKey_8 rfl (lv_at hl 0 rfl) ?_
    refine xg (C := RX8) (T := TX8) (N := 22) (v := .int (M 124 18)) hx hb hts inc8 hown hK hP (by omega) (cell8 (by decide)) rfl 18 (by decide) lk1 (fun _ h => h) rfl dX8_isKey_9 ?_
    refine lv_aload_n hx hb dX8_isKey_12 rfl (lv_at hl 0 rfl) ?_
    refine xg (C := RX8) (T := TX8) (N := 22) (v := .int (M 124 17)) hx hb hts inc8 hown hK hP (by omega) (cell8 (by decide)) rfl 17 (by decide) lk2 (fun _ h => h) rfl dX8_isKey_13 ?_
    refine lv_isub hx hb dX8_isKey_16 ?_
    refine lv_bipush (v := 8) hx hb dX8_isKey_17 (by decide) ?_
    refine lv_icmp_le (tgt := 24) hx hb dX8_isKey_19 (by decide) (fun c19 => ?_) (fun c19 => ?_)
    · refine lv_iconst (v := 0) hx hb dX8_isKey_24 (by decide) ?_
      refine lv_istore_n (lv' := [(2, .int (0 : Int32)), (0, .ref (b + 124)), (1, .int (nI (w)))]) hx hb dX8_isKey_25 rfl hl (by decide) rfl (fun ls hl => ?_)
      rw [show fX8_isKey M w = LX8_isKey_26f w 9 M 0 from (by rw [fX8_isKey, if_pos c5, if_pos c19])]
      exact cl_X8_isKey_26 l D cy b n hn w hw hx hb hr hlocks hml hown hts hK hX 9 M 0 s.heap [] ls hwx (by omega) (by omega) hP hS (lv_sub hl [1, 2, 0] rfl)
    · refine lv_iconst (v := 0) hx hb dX8_isKey_22 (by decide) ?_
      exact xe_z hx hb hr hlocks hP hS rfl rfl (by rw [fX8_isKey, if_pos c5, if_neg c19] <;> rfl) rfl (Nat.le_of_ble_eq_true rfl) (Nat.le_of_ble_eq_true rfl) dX8_isKey_23
theorem fz_he {M : Mem} {x y : Int32} (h : gX8_here M x y 124 20 = 0) : M 124 20 = 0 ∧ gX8_here M x y = M ∧ fX8_here M x y = M 124 19 ∧ ¬ fX8_in M (M 124 19) x y = 0 ∧ M 124 16 = 2 := by
  unfold gX8_here at h ⊢
  unfold fX8_here
  by_cases h0 : M 124 20 = 0
  · simp only [if_pos h0] at h ⊢
    by_cases h1 : M 124 16 = (2 : Int32)
    · simp only [if_pos h1] at h ⊢
      by_cases h2 : fX8_in M (M 124 19) x y = 0
      · simp only [if_pos h2] at h
        split at h <;> exact absurd h (er_ne (by decide))
      · simp only [if_neg h2] at h ⊢
        refine ⟨h0, ?_, ?_, ?_, ?_⟩ <;> first | trivial | exact h2 | exact h1 | rfl
    · exfalso
      simp only [if_neg h1] at h
      have hz : ¬ gX8_errs M (1 : Int32) 124 20 = 0 := er_ne (by decide)
      simp only [if_neg hz] at h
      exact hz h
  · exfalso
    simp only [if_neg h0] at h
    exact h0 h
theorem fz_go {M : Mem} : gX8_goesOn M 124 20 = M 124 20 := by unfold gX8_goesOn; split <;> first | exact (nx_f M).1 | rfl
theorem fz_tn {M : Mem} {x y : Int32} (h : gX8_takesNumber M x y 124 20 = 0) : M 124 20 = 0 ∧ fX8_takesNumber M x y = M 124 19 ∧ ¬ fX8_in M (M 124 19) x y = 0 := by
  have h2 : gX8_here M x y 124 20 = 0 := (fz_go (M := gX8_here M x y)).symm.trans h
  exact ⟨(fz_he h2).1, (fz_he h2).2.2.1, (fz_he h2).2.2.2.1⟩
theorem in_rng {M : Mem} {v x y : Int32} (h : ¬ fX8_in M v x y = 0) : ¬ v < x ∧ v ≤ y := by
  unfold fX8_in at h
  split at h
  · exact absurd rfl h
  · rename_i h0
    split at h
    · exact absurd rfl h
    · rename_i h1
      exact ⟨h0, Int32.not_lt.mp h1⟩
theorem fz_ih {M : Mem} (hm : MNY M) (h : gX8_instrumentHere M 124 20 = 0) : M 124 20 = 0 ∧ gX8_instrumentHere M = M ∧ ¬ fX8_instrumentHere M < 0 ∧ (fX8_instrumentHere M).toNatClampNeg < 6 ∧ fX8_instrumentHere M < M 127 5 := by
  obtain ⟨h1, h2, h3, h4, -⟩ := fz_he (M := M) (x := 0) (y := M 127 5 - 1) h
  obtain ⟨r1, r2⟩ := in_rng h4
  have e : fX8_instrumentHere M = M 124 19 := h3
  obtain ⟨j, hj, ej⟩ := nI_of r1
  obtain ⟨c, hc, ec⟩ := hm
  rw [e]
  have hlt : j < c := by
    rcases Nat.lt_or_ge j c with h | h
    · exact h
    · exfalso
      rw [ej, ec] at r2
      have := Int32.le_iff_toInt_le.mp r2
      rw [nI_toInt hj, show (1 : Int32) = nI 1 from rfl, pk_sub_toInt (by omega) (by omega)] at this
      omega
  exact ⟨h1, h2, r1, by rw [ej, nI_clamp hj]; omega, by rw [ej, ec, nI_ltI hj (by omega)]; exact hlt⟩
