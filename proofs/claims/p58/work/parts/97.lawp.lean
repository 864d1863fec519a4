/-! what holds along the law's loops -/
def OQ (M : Mem) : Prop := M 10 1 = 0 ∧ CNT M 12 ∧ HC10 M ∧ SC2 M
def IU (q c : Nat) (Mb : Mem) (u : Nat) (M : Mem) : Prop := (∃ c', AST (70 * u) M c') ∧ OQ M ∧ RMQ M (105 + 8 * q) Mb 1 c ∧ ¬ M 104 q = 0
theorem cnt_eqp {M N : Mem} {r : Nat} (h : CNT M r) (he : N r = M r) : CNT N r := by
  unfold CNT at h ⊢
  rw [he]
  exact h
theorem OQ.of {M N : Mem} (h : OQ M) (h10 : N 10 = M 10) (h12 : N 12 = M 12) (hh : HC10 N) (hs : ∀ i, i < 2 → N (105 + 8 * i) = M (105 + 8 * i)) : OQ N :=
  ⟨by rw [h10]; exact h.1, cnt_eqp h.2.1 h12, hh, fun i hi => cnt_eqp (h.2.2.2 i hi) (hs i hi)⟩
theorem OQ.eqr {M N : Mem} (h : OQ M) (hE : EQR M N) : OQ N := h.of (hE 10 (by decide) (by decide)) (hE 12 (by decide) (by decide)) (fun i hi => cnt_eqp (h.2.2.1 i hi) (hE _ (by omega) (by omega))) (fun i hi => hE _ (by omega) (by omega))
theorem CHG.out {c : Nat} {M R R' : Mem} (h : CHG M c R) (hc : c ≤ 6) (hE : EQR R R') : CHG M c R' := by
  obtain ⟨nx, kp, b1, b2, e1, e2, e3, e4, e5, e6, e7⟩ := h
  have e20 := hE 20 (by decide) (by decide)
  exact ⟨nx, kp, b1, b2, e1, e2, by rw [e20]; exact e3, by rw [e20]; exact e4, e5.left hc (fun d hd => hE _ (by omega) (by omega)), fun i hi hn d hd => (hE _ (by omega) (by omega)).trans (e6 i hi hn d hd), fun p a p1 p2 => (hE p p1 p2).trans (e7 p a p1 p2)⟩
/-- the instruments' road leaves the count's room as it is: a count is there -/
theorem INV.ast {mx c : Nat} {M R : Mem} (hI : INV mx R) (h : CHG M c R) (hmx : mx ≤ 9000) : ∃ c', AST mx R c' := by
  obtain ⟨c', hc', h1, -⟩ := id hI
  obtain ⟨nx, kp, b1, b2, e1, e2, e3, e4, -⟩ := h
  exact ⟨c', hI, h1, hc', by rw [e3]; exact ub_nI (by unfold nxt; split <;> omega), by rw [e4]; exact ub_nI (by omega), hmx⟩
theorem IU.act {q c c' u : Nat} {Mb M R : Mem} (hq : q < 2) (hc : c ≤ 6) (h : IU q c Mb u M) (hA : AST (70 * u) M c') (hu : u < 14) (hI : INV (70 * (u + 1)) R) (hC : CHG M c' R) : IU q c Mb (u + 1) R := by
  obtain ⟨-, hO, hR, hf⟩ := h
  obtain ⟨nx, kp, b1, b2, e1, e2, e3, e4, e5, e6, e7⟩ := id hC
  refine ⟨hI.ast hC (by omega), hO.of (e7 10 (Or.inl (by decide)) (by decide) (by decide)) (e7 12 (Or.inl (by decide)) (by decide) (by decide)) (hc10_chg hA.2.2.1 hA.2.1 hO.2.2.1 hC) (fun i hi => e7 _ (Or.inr (by omega)) (by omega) (by omega)), hR.left hc (fun d hd => e7 _ (Or.inr (by omega)) (by omega) (by omega)), ?_⟩
  rw [e7 104 (Or.inr (by decide)) (by decide) (by decide)]
  exact hf
theorem AST.up {mx my c : Nat} {M : Mem} (h : AST mx M c) (hm : mx ≤ my) (hy : my ≤ 9000) : AST my M c := ⟨h.1.up hm, h.2.1, h.2.2.1, h.2.2.2.1, h.2.2.2.2.1, hy⟩
theorem IU.undo {q c c' u : Nat} {Mb M R : Mem} (hq : q < 2) (hc : c ≤ 6) (h : IU q c Mb u M) (hA : AST (70 * u) M c') (hu : u < 14) (hC : CHG M c' R) : IU q c Mb (u + 1) (gX7_undo R) := by
  obtain ⟨-, hO, hR, hf⟩ := h
  obtain ⟨u1, u2, u3, u4, u5⟩ := undo_chg hA hC
  obtain ⟨nx, kp, b1, b2, e1, e2, e3, e4, e5, e6, e7⟩ := id hC
  have hh := hc10_chg hA.2.2.1 hA.2.1 hO.2.2.1 hC
  refine ⟨⟨c', u3.up (by omega) (by omega)⟩, hO.of ((u5 10 (by decide)).trans (e7 10 (Or.inl (by decide)) (by decide) (by decide))) ((u5 12 (by decide)).trans (e7 12 (Or.inl (by decide)) (by decide) (by decide))) (fun i hi => cnt_eqp (hh i hi) (u5 _ (by omega))) (fun i hi => (u5 _ (by omega)).trans (e7 _ (Or.inr (by omega)) (by omega) (by omega))), hR.left hc (fun d hd => (u5 _ (by omega)).trans (e7 _ (Or.inr (by omega)) (by omega) (by omega))), ?_⟩
  rw [u5 104 (by decide), e7 104 (Or.inr (by decide)) (by decide) (by decide)]
  exact hf
/-- the state behind load and save -/
theorem IU.first {q c : Nat} {M0 M : Mem} (hq : q < 2) (hO : OQ M0) (hL : LDP M0 M c) : IU q c (gX7_save M (nI q)) 0 (gX7_save M (nI q)) ∧ gX7_save M (nI q) 1 1 = nI c ∧ gX7_save M (nI q) 1 2 = 0 := by
  obtain ⟨l1, l2, l3, l4, l5, l6, l7, l8⟩ := hL
  obtain ⟨s1, s2, s3, s4, s5⟩ := save_ok hq l1 l2 l3
  have e : ∀ p, p < 22 → gX7_save M (nI q) p = M p := fun p hp => s5 p (by omega) (by omega)
  have h1 : gX7_save M (nI q) 1 1 = nI c := by rw [e 1 (by decide)]; exact l2
  have hI : INV 0 (gX7_save M (nI q)) := l1.rows (fun p _ hp => e p (by omega))
  refine ⟨⟨⟨c, hI, h1, l3, by rw [e 20 (by decide), l4]; exact ub_0 _, by rw [e 20 (by decide), l5]; exact ub_0 _, by omega⟩, ⟨by rw [e 10 (by decide)]; exact l6, cnt_eqp l7 (e 12 (by decide)), fun i hi => ?_, fun i hi => ?_⟩, s3.trans ⟨fun i a b => by rw [e 1 (by decide)], fun k hk => by rw [e _ (by omega)]; exact ⟨rfl, fun _ _ _ => rfl⟩⟩, s4⟩, h1, ?_⟩
  · have : gX7_save M (nI q) (22 + 8 * i) = M0 (22 + 8 * i) := (s5 _ (by omega) (by omega)).trans (l8 _ (by omega) (by omega))
    exact cnt_eqp (hO.2.2.1 i hi) this
  · by_cases hiq : i = q
    · subst hiq
      exact ⟨c, l3, (s3.1 1 (by decide) (by decide)).trans l2⟩
    · have : gX7_save M (nI q) (105 + 8 * i) = M0 (105 + 8 * i) := (s5 _ (by omega) (by omega)).trans (l8 _ (by omega) (by omega))
      exact cnt_eqp (hO.2.2.2 i hi) this
  · rw [e 1 (by decide)]
    obtain ⟨z, hz, ez⟩ := (inv_b l1).1
    rw [ez, show z = 0 by omega]
    rfl
theorem IU.eqr {q c u : Nat} {Mb M N : Mem} (hq : q < 2) (hc : c ≤ 6) (h : IU q c Mb u M) (hE : EQR M N) : IU q c Mb u N := by
  obtain ⟨⟨c', hA⟩, hO, hR, hf⟩ := h
  refine ⟨⟨c', hA.eqr hE⟩, hO.eqr hE, hR.left hc (fun d hd => hE _ (by omega) (by omega)), ?_⟩
  rw [hE 104 (by decide) (by decide)]
  exact hf
theorem IU.rest {q c u c' : Nat} {Mb M : Mem} (hq : q < 2) (hc : c ≤ 6) (h : IU q c Mb u M) (hA : AST (70 * u) M c') (hb1 : Mb 1 1 = nI c) (hb2 : Mb 1 2 = 0) : tX7_restore M (nI q) = 0 ∧ fX7_restore M (nI q) = 0 ∧ sumF (gX7_restore M (nI q)) = sumF Mb ∧ OQ (gX7_restore M (nI q)) ∧ CNT (gX7_restore M (nI q)) 1 := by
  obtain ⟨-, hO, hR, hf⟩ := h
  obtain ⟨r1, r2, r3, r4⟩ := restore_ok hq hA hc hR hb1 hb2 hf
  obtain ⟨hC, hlo⟩ := rec_chg hA
  have hh := hc10_chg hA.2.2.1 hA.2.1 hO.2.2.1 hC
  obtain ⟨nx, kp, b1, b2, e1, e2, e3, e4, e5, e6, e7⟩ := id hC
  refine ⟨r1, r2, sum_rmq hc hb1 r3, hO.of ((r4 10 (by decide)).trans (hlo 10 (by decide))) ((r4 12 (by decide)).trans (hlo 12 (by decide))) (fun i hi => cnt_eqp (hh i hi) (r4 _ (by omega))) (fun i hi => (r4 _ (by omega)).trans (e7 _ (Or.inr (by omega)) (by omega) (by omega))), ⟨c, hc, (r3.1 1 (by decide) (by decide)).trans hb1⟩⟩
theorem lg_self (x : Int64) : lg_cmp x x = 0 := by
  unfold lg_cmp
  simp
theorem ref_out {M : Mem} : tX7_takeOut M (-1) = 1 ∧ gX7_takeOut M (-1) = M := no_out (at_no (Or.inl (by decide)))
