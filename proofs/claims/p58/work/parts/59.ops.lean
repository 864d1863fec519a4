/-! the changes: what each leaves of the room, and what it records -/
/-- two rooms alike -/
def RMQ (A : Mem) (r : Nat) (B : Mem) (q c : Nat) : Prop := (∀ i, 1 ≤ i → i ≤ 7 → A r i = B q i) ∧ ∀ k, k < c → RQ (A (r + 1 + 1 + k)) (B (q + 1 + 1 + k))
theorem cp58_rows {r q c : Nat} (hd : q + 8 ≤ r ∨ r + 8 ≤ q) (hc : c ≤ 6) : ∀ (f : Nat) (M : Mem) (j : Nat), M r 1 = nI c → j ≤ c → 7 ≤ j + f → (∀ k, j ≤ k → k < c → RQ (LX4_copyFrom_58g r q f M j (r + 1 + 1 + k)) (M (q + 1 + 1 + k))) ∧ (∀ k, k < j → LX4_copyFrom_58g r q f M j (r + 1 + 1 + k) = M (r + 1 + 1 + k)) ∧ LX4_copyFrom_58g r q f M j r = M r := by
  intro f
  induction f with
  | zero => intro M j h1 hj hf; omega
  | succ f ih =>
    intro M j h1 hj hf
    rw [LX4_copyFrom_58g, h1]
    by_cases hcj : nI c ≤ nI j
    · rw [nI_leI (by omega) (by omega)] at hcj
      rw [if_pos (by rw [nI_leI (by omega) (by omega)]; omega)]
      exact ⟨fun k h2 h3 => by omega, fun _ _ => rfl, rfl⟩
    · have hj2 : j < c := by rw [nI_leI (by omega) (by omega)] at hcj; omega
      rw [if_neg hcj]
      have hr : gX1_copyFrom M (r + 1 + 1 + j) (q + 1 + 1 + j) r = M r := gX1_copyFrom_ne (by omega)
      obtain ⟨i1, i2, i3⟩ := ih (gX1_copyFrom M (r + 1 + 1 + j) (q + 1 + 1 + j)) (j + 1) (by rw [hr]; exact h1) hj2 (by omega)
      refine ⟨fun k h2 h3 => ?_, fun k hk => (i2 k (by omega)).trans (gX1_copyFrom_ne (by omega)), i3.trans hr⟩
      by_cases e : k = j
      · subst e
        rw [i2 k (by omega)]
        exact cp_rq (by omega)
      · have := i1 k (by omega) h3
        rw [gX1_copyFrom_ne (show q + 1 + 1 + k ≠ r + 1 + 1 + j by omega)] at this
        exact this
theorem rm_copy {M : Mem} {r q c : Nat} (hd : q + 8 ≤ r ∨ r + 8 ≤ q) (hc : c ≤ 6) (h1 : M q 1 = nI c) : RMQ (gX4_copyFrom M r q) r M q c := by
  have hq : ∀ (M : Mem) (k : Nat) (v : Int32), mU M r k v q = M q := fun M k v => mU_ne M k v (by omega)
  have hqk : ∀ (M : Mem) (k j : Nat) (v : Int32), k < 6 → mU M r j v (q + 1 + 1 + k) = M (q + 1 + 1 + k) := fun M k j v hk => mU_ne M j v (by omega)
  unfold gX4_copyFrom
  simp only [hq]
  generalize hM : mU (mU (mU (mU (mU (mU (mU M r 1 (M q 1)) r 2 (M q 2)) r 3 (M q 3)) r 4 (M q 4)) r 5 (M q 5)) r 6 (M q 6)) r 7 (M q 7) = M1
  have m : ∀ i, 1 ≤ i → i ≤ 7 → M1 r i = M q i := by
    intro i h1 h2
    rw [← hM]
    rcases (by omega : i = 1 ∨ i = 2 ∨ i = 3 ∨ i = 4 ∨ i = 5 ∨ i = 6 ∨ i = 7) with rfl | rfl | rfl | rfl | rfl | rfl | rfl <;>
      (repeat rw [mU_row (by decide)]) <;> rw [mu_same]
  have mq : ∀ k, k < 6 → M1 (q + 1 + 1 + k) = M (q + 1 + 1 + k) := by
    intro k hk6
    rw [← hM]
    repeat rw [hqk _ _ _ _ hk6]
  obtain ⟨i1, i2, i3⟩ := cp58_rows hd hc 7 M1 0 (by rw [m 1 (by decide) (by decide), h1]) (Nat.zero_le _) (by decide)
  refine ⟨fun i a b => by rw [i3]; exact m i a b, fun k hk => ?_⟩
  have := i1 k (Nat.zero_le _) hk
  rw [mq k (by omega)] at this
  exact this
theorem RMQ.inv {A B : Mem} {mx c : Nat} (h : RMQ A 1 B 1 c) (h1 : B 1 1 = nI c) (hc6 : c ≤ 6) (hB : INV mx B) : INV mx A := by
  obtain ⟨c', hc', g1, g2, g3, g4, g5, g6, g7, g8⟩ := hB
  have hcc : c' = c := by
    rw [g1] at h1
    have e := congrArg Int32.toNatClampNeg h1
    rw [nI_clamp (by omega), nI_clamp (by omega)] at e
    exact e
  subst hcc
  obtain ⟨hh, hk⟩ := h
  refine ⟨c', hc', ?_⟩
  rw [hh 1 (by decide) (by decide), hh 2 (by decide) (by decide), hh 3 (by decide) (by decide), hh 4 (by decide) (by decide), hh 5 (by decide) (by decide), hh 6 (by decide) (by decide), hh 7 (by decide) (by decide)]
  refine ⟨g1, g2, g3, g4, g5, g6, fun k hkc => (hk k hkc).iok (g7 k hkc), ?_⟩
  rw [SG_congr (g := fun k => hbR (B (1 + 1 + 1 + k))) (g' := fun k => hbR (A (1 + 1 + 1 + k))) (fun k hkc => by show _ + _ = _ + _; rw [(hk k hkc).2 1 (by decide) (by decide), (hk k hkc).2 3 (by decide) (by decide)]), SG_congr (g := fun k => B (1 + 1 + 1 + k) 2) (g' := fun k => A (1 + 1 + 1 + k) 2) (fun k hkc => (hk k hkc).2 2 (by decide) (by decide))]
  exact g8
/-- the next place in the history -/
def nxt (i : Nat) : Nat := if i + 1 = 10 then 0 else i + 1
/-- M' is M with one change recorded -/
def CHG (M : Mem) (c : Nat) (M' : Mem) : Prop := ∃ nx kp, nx ≤ 9 ∧ kp ≤ 10 ∧ M 20 1 = nI nx ∧ M 20 2 = nI kp ∧ M' 20 1 = nI (nxt nx) ∧ M' 20 2 = nI (min 10 (kp + 1)) ∧ RMQ M' (22 + 8 * nx) M 1 c ∧ (∀ i, i < 10 → i ≠ nx → ∀ d, d < 8 → M' (22 + 8 * i + d) = M (22 + 8 * i + d)) ∧ ∀ p, (9 ≤ p ∧ p < 20 ∨ 102 ≤ p) → p ≠ 123 → p ≠ 124 → M' p = M p
/-- all but the probe and the law's own number is as it was -/
def EQR (M P : Mem) : Prop := ∀ p, p ≠ 123 → p ≠ 124 → P p = M p
theorem EQR.rf (M : Mem) : EQR M M := fun _ _ _ => rfl
theorem EQR.trans {M P Q : Mem} (h1 : EQR M P) (h2 : EQR P Q) : EQR M Q := fun p a b => (h2 p a b).trans (h1 p a b)
theorem EQR.of {M P : Mem} (h : EQP M P) : EQR M P := fun p a _ => h p a
theorem eqr_put (M : Mem) (j : Nat) (v : Int32) : EQR M (mU M 124 j v) := fun p _ h => mU_ne M j v h
def AST (mx : Nat) (M : Mem) (c : Nat) : Prop := INV mx M ∧ M 1 1 = nI c ∧ c ≤ 6 ∧ UB (M 20 1) 9 ∧ UB (M 20 2) 10 ∧ mx ≤ 9000
def APOST (mx : Nat) (M : Mem) (c : Nat) (M' : Mem) : Prop := INV (mx + 70) M' ∧ CHG M c M'
theorem AST.eqr {mx c : Nat} {M P : Mem} (h : AST mx M c) (hE : EQR M P) : AST mx P c := by
  obtain ⟨a, h1, h2, h3, h4, h5⟩ := h
  exact ⟨a.rows (fun p _ _ => hE p (by omega) (by omega)), by rw [hE 1 (by decide) (by decide)]; exact h1, h2, by rw [hE 20 (by decide) (by decide)]; exact h3, by rw [hE 20 (by decide) (by decide)]; exact h4, h5⟩
theorem AST.cnt {mx c : Nat} {M : Mem} (h : AST mx M c) : CNT M 1 := ⟨c, h.2.2.1, h.2.1⟩
theorem CHG.eqr {c : Nat} {M P M' : Mem} (hc : c ≤ 6) (hE : EQR M P) (h : CHG P c M') : CHG M c M' := by
  obtain ⟨nx, kp, h1, h2, h3, h4, h5, h6, ⟨h7, h7'⟩, h8, h9⟩ := h
  have e20 := hE 20 (by decide) (by decide)
  have e1 := hE 1 (by decide) (by decide)
  exact ⟨nx, kp, h1, h2, by rw [← e20]; exact h3, by rw [← e20]; exact h4, h5, h6, ⟨fun i a b => by rw [← e1]; exact h7 i a b, fun k hk => by rw [← hE _ (by omega) (by omega)]; exact h7' k hk⟩, fun i a b d hd => by rw [← hE _ (by omega) (by omega)]; exact h8 i a b d hd, fun p a b c => by rw [← hE p b c]; exact h9 p a b c⟩
theorem APOST.eqr {mx c : Nat} {M P M' : Mem} (hc : c ≤ 6) (hE : EQR M P) (h : APOST mx P c M') : APOST mx M c M' := ⟨h.1, h.2.eqr hc hE⟩
/-- what is changed behind the record lies in the room -/
theorem CHG.room {c : Nat} {M R R' : Mem} (h : CHG M c R) (hp : ∀ p, 9 ≤ p → R' p = R p) : CHG M c R' := by
  obtain ⟨nx, kp, h1, h2, h3, h4, h5, h6, ⟨h7, h7'⟩, h8, h9⟩ := h
  exact ⟨nx, kp, h1, h2, h3, h4, by rw [hp 20 (by decide)]; exact h5, by rw [hp 20 (by decide)]; exact h6, ⟨fun i a b => by rw [hp _ (by omega)]; exact h7 i a b, fun k hk => by rw [hp _ (by omega)]; exact h7' k hk⟩, fun i a b d hd => by rw [hp _ (by omega)]; exact h8 i a b d hd, fun p a b c => by rw [hp p (by omega)]; exact h9 p a b c⟩
theorem rec_chg {mx c : Nat} {M : Mem} (h : AST mx M c) : CHG M c (gX0_record M 1) ∧ (∀ p, p < 20 → gX0_record M 1 p = M p) := by
  obtain ⟨hI, h1, hc, ⟨nx, hn, e1⟩, ⟨kp, hk, e2⟩, -⟩ := h
  have hcn : CNT M 1 := ⟨c, hc, h1⟩
  refine ⟨?_, fun p hp => rec_ne hcn ⟨nx, hn, e1⟩ (Or.inl hp)⟩
  have hcl : (M 20 1).toNatClampNeg = nx := by rw [e1, nI_clamp (by omega)]
  have hrm := rm_copy (M := M) (r := 22 + 8 * nx) (q := 1) (by omega) hc h1
  have hrf : RF (22 + 8 * nx) M (gX4_copyFrom M (22 + 8 * nx) 1) := copy_rf hcn
  have r20 : gX4_copyFrom M (22 + 8 * nx) 1 20 = M 20 := hrf 20 (by omega)
  have hlt : ((10 : Int32) ≤ nI nx + 1) ↔ nx + 1 = 10 := by
    rw [show (10 : Int32) = nI 10 from rfl, nI_1, nI_leI (by omega) (by omega)]; omega
  have hmin : xmin 10 (nI kp + 1) = nI (min 10 (kp + 1)) := by
    have : ∀ k : Fin 11, xmin 10 (nI k.1 + 1) = nI (min 10 (k.1 + 1)) := by decide
    exact this ⟨kp, by omega⟩
  unfold gX0_record
  rw [hcl, r20]
  have key : ∀ v, CHG M c (mU (mU (gX4_copyFrom M (22 + 8 * nx) 1) 20 1 (nI (nxt nx))) 20 2 v) ∨ v ≠ nI (min 10 (kp + 1)) := fun v => by
    by_cases hv : v = nI (min 10 (kp + 1))
    · refine Or.inl ?_
      have ne : ∀ p, p ≠ 20 → mU (mU (gX4_copyFrom M (22 + 8 * nx) 1) 20 1 (nI (nxt nx))) 20 2 v p = gX4_copyFrom M (22 + 8 * nx) 1 p := fun p hp => by rw [mU_ne _ _ _ hp, mU_ne _ _ _ hp]
      refine ⟨nx, kp, hn, hk, e1, e2, ?_, ?_, ⟨fun i a b => by rw [ne _ (by omega)]; exact hrm.1 i a b, fun k hk => by rw [ne _ (by omega)]; exact hrm.2 k hk⟩, fun i a b d hd => ?_, fun p a b _ => ?_⟩
      · rw [mU_row (by decide), mu_same]
      · rw [mu_same, hv]
      · rw [ne _ (by omega)]; exact hrf _ (by omega)
      · rw [ne _ (by omega)]; exact hrf _ (by omega)
    · exact Or.inr hv
  by_cases hb : (10 : Int32) ≤ M 20 1 + 1
  · have hb' : nx + 1 = 10 := by rw [e1] at hb; exact hlt.mp hb
    rw [if_pos hb, mU_row (by decide), r20, e2, hmin, show (0 : Int32) = nI (nxt nx) by unfold nxt; rw [if_pos hb']; rfl]
    exact (key _).resolve_right (fun h => h rfl)
  · have hb' : ¬ nx + 1 = 10 := by rw [e1] at hb; exact fun h => hb (hlt.mpr h)
    rw [if_neg hb, mU_row (by decide), r20, e2, hmin, e1, nI_1, show nx + 1 = nxt nx by unfold nxt; rw [if_neg hb']]
    exact (key _).resolve_right (fun h => h rfl)
theorem INV.up {mx my : Nat} {M : Mem} (h : INV mx M) (hm : mx ≤ my) : INV my M := by
  obtain ⟨c, hc, h1, h2, h3⟩ := h
  exact ⟨c, hc, h1, h2.mono hm, h3⟩
theorem rec_inv {mx c : Nat} {M : Mem} (h : AST mx M c) : INV mx (gX0_record M 1) := h.1.rows (fun p _ _ => (rec_chg h).2 p (by omega))
/-- a change of one instrument -/
theorem inv_ins {mx c k : Nat} {M M' : Mem} (h : INV mx M) (h1 : M 1 1 = nI c) (hc : c ≤ 6) (hk : k < c) (hne : ∀ p, p ≠ 1 + 1 + 1 + k → p ≤ 8 → M' p = M p) (hok : IOK (M' (1 + 1 + 1 + k))) (hb : hbR (M' (1 + 1 + 1 + k)) = hbR (M (1 + 1 + 1 + k))) (h2 : M' (1 + 1 + 1 + k) 2 = M (1 + 1 + 1 + k) 2) : INV mx M' := by
  obtain ⟨c', hc', g1, g2, g3, g4, g5, g6, g7, g8⟩ := h
  have hcc : c' = c := by
    rw [g1] at h1
    have e := congrArg Int32.toNatClampNeg h1
    rw [nI_clamp (by omega), nI_clamp (by omega)] at e
    exact e
  subst hcc
  have e1 := hne 1 (by omega) (by omega)
  refine ⟨c', hc', ?_⟩
  rw [e1]
  refine ⟨g1, g2, g3, g4, g5, g6, fun j hj => ?_, ?_⟩
  · by_cases e : j = k
    · subst e; exact hok
    · rw [hne _ (by omega) (by omega)]; exact g7 j hj
  · rw [SG_congr (g := fun k => hbR (M (1 + 1 + 1 + k))) (g' := fun k => hbR (M' (1 + 1 + 1 + k))) (fun j hj => ?_), SG_congr (g := fun k => M (1 + 1 + 1 + k) 2) (g' := fun k => M' (1 + 1 + 1 + k) 2) (fun j hj => ?_)]
    · exact g8
    · show M' _ 2 = M _ 2
      by_cases e : j = k
      · subst e; exact h2
      · rw [hne _ (by omega) (by omega)]
    · show hbR _ = hbR _
      by_cases e : j = k
      · subst e; exact hb
      · rw [hne _ (by omega) (by omega)]
theorem inv_hdr {mx my : Nat} {M M' : Mem} (h : INV mx M) (hm : mx ≤ my) (hne : ∀ p, p ≠ 1 → p ≤ 8 → M' p = M p) (e1 : M' 1 1 = M 1 1) (e2 : M' 1 2 = M 1 2) (e3 : UB (M' 1 3) 100) (e4 : UB (M' 1 4) 40) (e5 : UB (M' 1 5) 5) (e6 : M' 1 6 = M 1 6) (e7 : M' 1 7 = M 1 7) : INV my M' := by
  obtain ⟨c, hc, g1, g2, g3, g4, g5, g6, g7, g8⟩ := h
  have ek : ∀ k, k < c → M' (1 + 1 + 1 + k) = M (1 + 1 + 1 + k) := fun k hk => hne _ (by omega) (by omega)
  refine ⟨c, hc, by rw [e1]; exact g1, by rw [e2]; exact g2.mono hm, e3, e4, e5, by rw [e6]; exact g6, fun k hk => by rw [ek k hk]; exact g7 k hk, ?_⟩
  rw [SG_congr (g := fun k => hbR (M (1 + 1 + 1 + k))) (g' := fun k => hbR (M' (1 + 1 + 1 + k))) (fun k hk => by show hbR _ = hbR _; rw [ek k hk]), SG_congr (g := fun k => M (1 + 1 + 1 + k) 2) (g' := fun k => M' (1 + 1 + 1 + k) 2) (fun k hk => by show M' _ 2 = M _ 2; rw [ek k hk]), e6, e7]
  exact g8
theorem pl_nI' {j : Nat} (hj : j < 100) : pl (nI j) = 1 + 1 + 1 + j := by show 1 + 1 + 1 + (nI j).toNatClampNeg = _; rw [nI_clamp (by omega)]
section OPS
variable {mx c : Nat} {P : Mem}
theorem inv_b {M : Mem} (h : INV mx M) : UB (M 1 2) mx ∧ UB (M 1 3) 100 ∧ UB (M 1 4) 40 ∧ UB (M 1 5) 5 ∧ UB (M 1 6) 99 := by
  obtain ⟨_, _, _, h2, h3, h4, h5, h6, _⟩ := h
  exact ⟨h2, h3, h4, h5, h6⟩
theorem rec1 (h : AST mx P c) : gX0_record P 1 1 = P 1 := (rec_chg h).2 1 (by decide)
theorem recp (h : AST mx P c) {x : Int32} (hx : x.toNatClampNeg < 6) : gX0_record P 1 (pl x) = P (pl x) := (rec_chg h).2 _ (by show 1 + 1 + 1 + x.toNatClampNeg < 20; omega)
theorem op_hum (h : AST mx P c) {v : Nat} (hv : v ≤ 100) : tX7_setHumidity P (nI v) = 0 ∧ fX7_setHumidity P (nI v) = fX7_humidity P ∧ APOST mx P c (gX7_setHumidity P (nI v)) ∧ fX7_humidity (gX7_setHumidity P (nI v)) = nI v := by
  have c0 : ¬ nI v < 0 := nI_pos (by omega)
  have c1 : nI v ≤ 100 := by rw [show (100 : Int32) = nI 100 from rfl, nI_leI (by omega) (by omega)]; exact hv
  obtain ⟨b2, b3, b4, b5, b6⟩ := inv_b h.1
  have r1 := rec1 h
  have g : gX7_setHumidity P (nI v) = mU (gX0_record P 1) 1 3 (nI v) := by unfold gX7_setHumidity; rw [if_neg c0, if_pos c1]
  refine ⟨by unfold tX7_setHumidity; rw [if_neg c0, if_pos c1], by unfold fX7_setHumidity; rw [if_neg c0, if_pos c1, r1]; rfl, ⟨?_, ?_⟩, ?_⟩
  · rw [g]
    refine inv_hdr (rec_inv h) (by omega) (fun p hp _ => mU_ne _ _ _ hp) (mU_row (by decide)) (mU_row (by decide)) ?_ ?_ ?_ (mU_row (by decide)) (mU_row (by decide))
    · rw [mu_same]; exact ⟨v, hv, rfl⟩
    · rw [mU_row (by decide), r1]; exact b4
    · rw [mU_row (by decide), r1]; exact b5
  · rw [g]; exact (rec_chg h).1.room (fun p hp => mU_ne _ _ _ (by omega))
  · rw [g]; exact mu_same _ _ _ _
theorem op_tmp (h : AST mx P c) {v : Nat} (hv : v ≤ 40) : tX7_setTemperature P (nI v) = 0 ∧ fX7_setTemperature P (nI v) = fX7_temperature P ∧ APOST mx P c (gX7_setTemperature P (nI v)) ∧ fX7_temperature (gX7_setTemperature P (nI v)) = nI v := by
  have c0 : ¬ nI v < 0 := nI_pos (by omega)
  have c1 : nI v ≤ 40 := by rw [show (40 : Int32) = nI 40 from rfl, nI_leI (by omega) (by omega)]; exact hv
  obtain ⟨b2, b3, b4, b5, b6⟩ := inv_b h.1
  have r1 := rec1 h
  have g : gX7_setTemperature P (nI v) = mU (gX0_record P 1) 1 4 (nI v) := by unfold gX7_setTemperature; rw [if_neg c0, if_pos c1]
  refine ⟨by unfold tX7_setTemperature; rw [if_neg c0, if_pos c1], by unfold fX7_setTemperature; rw [if_neg c0, if_pos c1, r1]; rfl, ⟨?_, ?_⟩, ?_⟩
  · rw [g]
    refine inv_hdr (rec_inv h) (by omega) (fun p hp _ => mU_ne _ _ _ hp) (mU_row (by decide)) (mU_row (by decide)) ?_ ?_ ?_ (mU_row (by decide)) (mU_row (by decide))
    · rw [mU_row (by decide), r1]; exact b3
    · rw [mu_same]; exact ⟨v, hv, rfl⟩
    · rw [mU_row (by decide), r1]; exact b5
  · rw [g]; exact (rec_chg h).1.room (fun p hp => mU_ne _ _ _ (by omega))
  · rw [g]; exact mu_same _ _ _ _
theorem op_skl (h : AST mx P c) {v : Nat} (hv : v ≤ 5) : tX7_setSkill P (nI v) = 0 ∧ ¬ fX7_setSkill P (nI v) < 0 ∧ APOST mx P c (gX7_setSkill P (nI v)) := by
  have c0 : ¬ nI v < 0 := nI_pos (by omega)
  have c1 : nI v ≤ 5 := by rw [show (5 : Int32) = nI 5 from rfl, nI_leI (by omega) (by omega)]; exact hv
  obtain ⟨b2, b3, b4, b5, b6⟩ := inv_b h.1
  have r1 := rec1 h
  have g : gX7_setSkill P (nI v) = mU (gX0_record P 1) 1 5 (nI v) := by unfold gX7_setSkill; rw [if_neg c0, if_pos c1]
  refine ⟨by unfold tX7_setSkill; rw [if_neg c0, if_pos c1], by unfold fX7_setSkill; rw [if_neg c0, if_pos c1, r1]; exact ub_ge b5, ⟨?_, ?_⟩⟩
  · rw [g]
    refine inv_hdr (rec_inv h) (by omega) (fun p hp _ => mU_ne _ _ _ hp) (mU_row (by decide)) (mU_row (by decide)) ?_ ?_ ?_ (mU_row (by decide)) (mU_row (by decide))
    · rw [mU_row (by decide), r1]; exact b3
    · rw [mU_row (by decide), r1]; exact b4
    · rw [mu_same]; exact ⟨v, hv, rfl⟩
  · rw [g]; exact (rec_chg h).1.room (fun p hp => mU_ne _ _ _ (by omega))
theorem op_adv (h : AST mx P c) {m : Nat} (h1 : 1 ≤ m) (hm : m ≤ 70) : tX7_advance P (nI m) = 0 ∧ APOST mx P c (gX7_advance P (nI m)) ∧ fX7_advance P (nI m) = fX7_hairStock (gX7_advance P (nI m)) - fX7_hairStock P ∧ gX7_advance P (nI m) 1 1 = nI c ∧ ∀ j, j < c → fX7_readingOf (gX7_advance P (nI m)) (nI j) = fX7_readingAfter P (nI j) (nI m) := by
  have c0 : ¬ nI m < 1 := nI_nlt (a := m) (b := 1) h1 (by omega)
  have c1 : nI m ≤ 99 := by rw [show (99 : Int32) = nI 99 from rfl, nI_leI (by omega) (by omega)]; omega
  obtain ⟨⟨mn, hmn, e2⟩, b3, b4, b5, b6⟩ := inv_b h.1
  have hmx := h.2.2.2.2.2
  have c2 : nI m ≤ 9999 - P 1 2 := by
    rw [e2, show (9999 : Int32) = nI 9999 from rfl, pk_sub (by omega), nI_leI (by omega) (by omega)]; omega
  have r1 := rec1 h
  have g : gX7_advance P (nI m) = passN m (gX0_record P 1) := by unfold gX7_advance; rw [if_neg c0, if_pos c1, if_pos c2, (pass_N (by omega)).1]
  have f : fX7_advance P (nI m) = (passN m (gX0_record P 1)) 1 7 - P 1 7 := by unfold fX7_advance; rw [if_neg c0, if_pos c1, if_pos c2, (pass_N (by omega)).2, r1]
  obtain ⟨q1, q2, q3, q4, q5, q6, q7⟩ := passN_all h.2.2.1 m mx (gX0_record P 1) (by rw [r1]; exact h.2.1) (rec_inv h) (by omega)
  refine ⟨by unfold tX7_advance; rw [if_neg c0, if_pos c1, if_pos c2], ⟨by rw [g]; exact q1.up (by omega), by rw [g]; exact (rec_chg h).1.room (fun p hp => q4 p (by have := h.2.2.1; omega))⟩, ?_, by rw [g]; exact q2, fun j hj => ?_⟩
  · rw [g, f]
    show _ = passN m (gX0_record P 1) 1 6 - P 1 6
    rw [r1] at q7
    exact q7
  · have hj6 : j < 6 := by have := h.2.2.1; omega
    have hx := nI_100 hj6
    rw [ra_eq (by omega) hx, g]
    show fX4_reading _ 1 (pl (nI j)) = _
    rw [read_row, q5, q6, pl_nI' (by omega), q3 j hj, r1, (rec_chg h).2 _ (by omega)]
theorem op_box (h : AST mx P c) {j q : Nat} (hj : j < c) (hq : q < 4) (ho : ¬ outF P (nI j) = 0) : tX7_putInBox P (nI j) (nI q) = 0 ∧ APOST mx P c (gX7_putInBox P (nI j) (nI q)) ∧ tX7_fixedPoint (gX7_putInBox P (nI j) (nI q)) (nI q) = 0 ∧ fX7_putInBox P (nI j) (nI q) = fX7_fixedPoint (gX7_putInBox P (nI j) (nI q)) (nI q) ∧ gX7_putInBox P (nI j) (nI q) 1 1 = nI c ∧ fX7_boxOf (gX7_putInBox P (nI j) (nI q)) (nI j) = nI q := by
  have hc6 := h.2.2.1
  have ht := t0_at h.2.1 hc6 hj
  have hx : (nI j).toNatClampNeg < 6 := by rw [nI_clamp (by omega)]; omega
  have n0 : ¬ nI q < 0 := nI_pos (by omega)
  have n4 : ¬ (4 : Int32) ≤ nI q := by rw [show (4 : Int32) = nI 4 from rfl, nI_leI (by omega) (by omega)]; omega
  have hs : ∀ M, ¬ fX7_isSalt M (nI q) = 0 := fun M => by unfold fX7_isSalt; rw [if_neg n0, if_neg n4]; decide
  have hb : fX1_isBoxed P (1 + 1 + 1 + (nI j).toNatClampNeg) = 0 := box0 ho
  have g : gX7_putInBox P (nI j) (nI q) = mU (gX0_record P 1) (pl (nI j)) 8 (nI q) := by unfold gX7_putInBox; rw [if_pos ht, if_neg (hs P), if_pos hb]
  have hi1 := (inv_i1 h.1 h.2.1 hc6 hj).1
  refine ⟨by unfold tX7_putInBox; rw [if_pos ht, if_neg (hs P), if_pos hb], ⟨?_, ?_⟩, ?_, ?_, ?_, ?_⟩
  · rw [g]
    refine (inv_ins (k := j) (rec_inv h) (by rw [rec1 h]; exact h.2.1) hc6 hj (fun p hp _ => mU_ne _ _ _ (by rw [pl_nI' (by omega)]; exact hp)) ?_ ?_ ?_).up (by omega)
    · rw [← pl_nI' (j := j) (by omega)]
      obtain ⟨a1, a4, a5, a6, a8, k1, k2⟩ := hi1
      unfold IOK
      rw [mU_row (j := 0) (by decide), mU_row (j := 1) (by decide), mU_row (j := 4) (by decide), mU_row (j := 5) (by decide), mU_row (j := 6) (by decide)]
      rw [mu_same, recp h hx]
      exact ⟨a1, a4, a5, a6, Or.inr ⟨q, by omega, rfl⟩, k1, k2⟩
    · rw [← pl_nI' (j := j) (by omega)]
      unfold hbR
      rw [mU_row (j := 1) (by decide), mU_row (j := 3) (by decide)]
    · rw [← pl_nI' (j := j) (by omega), mU_row (by decide)]
  · rw [g]; exact (rec_chg h).1.room (fun p hp => mU_ne _ _ _ (by show p ≠ 1 + 1 + 1 + (nI j).toNatClampNeg; omega))
  · unfold tX7_fixedPoint; rw [if_neg (hs _)]
  · unfold fX7_putInBox fX7_fixedPoint
    rw [if_neg (hs P), if_neg (hs _), if_pos hb]
    unfold fX4_surrounding fX7_fixedPointOr
    rw [mu_same, if_neg n0, if_neg n4, if_neg n0, if_neg n4]
  · rw [g, mU_ne _ _ _ (by show 1 ≠ 1 + 1 + 1 + (nI j).toNatClampNeg; omega), rec1 h]; exact h.2.1
  · rw [g]
    show mU _ _ 8 _ (pl (nI j)) 8 = _
    exact mu_same _ _ _ _
theorem op_boxR (h : AST mx P c) {j q : Nat} (hj : j < c) (hq : q < 4) (ho : outF P (nI j) = 0) : tX7_putInBox P (nI j) (nI q) = 3 ∧ gX7_putInBox P (nI j) (nI q) = P := by
  have ht := t0_at h.2.1 h.2.2.1 hj
  have n0 : ¬ nI q < 0 := nI_pos (by omega)
  have n4 : ¬ (4 : Int32) ≤ nI q := by rw [show (4 : Int32) = nI 4 from rfl, nI_leI (by omega) (by omega)]; omega
  have hs : ¬ fX7_isSalt P (nI q) = 0 := by unfold fX7_isSalt; rw [if_neg n0, if_neg n4]; decide
  have hb : ¬ fX1_isBoxed P (1 + 1 + 1 + (nI j).toNatClampNeg) = 0 := by rw [show fX1_isBoxed P (1 + 1 + 1 + (nI j).toNatClampNeg) = 1 from box1 ho]; decide
  exact ⟨by unfold tX7_putInBox; rw [if_pos ht, if_neg hs, if_neg hb], by unfold gX7_putInBox; rw [if_pos ht, if_neg hs, if_neg hb]⟩
theorem op_out (h : AST mx P c) {j : Nat} (hj : j < c) (ho : outF P (nI j) = 0) : tX7_takeOut P (nI j) = 0 ∧ APOST mx P c (gX7_takeOut P (nI j)) ∧ fX7_takeOut P (nI j) = fX7_boxOf P (nI j) ∧ gX7_takeOut P (nI j) 1 1 = nI c ∧ fX7_boxOf (gX7_takeOut P (nI j)) (nI j) = (-1) := by
  have hc6 := h.2.2.1
  have ht := t0_at h.2.1 hc6 hj
  have hx : (nI j).toNatClampNeg < 6 := by rw [nI_clamp (by omega)]; omega
  have hb : ¬ fX1_isBoxed P (1 + 1 + 1 + (nI j).toNatClampNeg) = 0 := by rw [show fX1_isBoxed P (1 + 1 + 1 + (nI j).toNatClampNeg) = 1 from box1 ho]; decide
  have g : gX7_takeOut P (nI j) = mU (gX0_record P 1) (pl (nI j)) 8 (-1) := by unfold gX7_takeOut; rw [if_pos ht, if_neg hb]
  have hi1 := (inv_i1 h.1 h.2.1 hc6 hj).1
  refine ⟨by unfold tX7_takeOut; rw [if_pos ht, if_neg hb], ⟨?_, ?_⟩, ?_, ?_, ?_⟩
  · rw [g]
    refine (inv_ins (k := j) (rec_inv h) (by rw [rec1 h]; exact h.2.1) hc6 hj (fun p hp _ => mU_ne _ _ _ (by rw [pl_nI' (by omega)]; exact hp)) ?_ ?_ ?_).up (by omega)
    · rw [← pl_nI' (j := j) (by omega)]
      obtain ⟨a1, a4, a5, a6, a8, k1, k2⟩ := hi1
      unfold IOK
      rw [mU_row (j := 0) (by decide), mU_row (j := 1) (by decide), mU_row (j := 4) (by decide), mU_row (j := 5) (by decide), mU_row (j := 6) (by decide)]
      rw [mu_same, recp h hx]
      exact ⟨a1, a4, a5, a6, Or.inl rfl, k1, k2⟩
    · rw [← pl_nI' (j := j) (by omega)]
      unfold hbR
      rw [mU_row (j := 1) (by decide), mU_row (j := 3) (by decide)]
    · rw [← pl_nI' (j := j) (by omega), mU_row (by decide)]
  · rw [g]; exact (rec_chg h).1.room (fun p hp => mU_ne _ _ _ (by show p ≠ 1 + 1 + 1 + (nI j).toNatClampNeg; omega))
  · unfold fX7_takeOut
    rw [if_neg hb]
    show gX0_record P 1 (pl (nI j)) 8 = P (pl (nI j)) 8
    rw [recp h hx]
  · rw [g, mU_ne _ _ _ (by show 1 ≠ 1 + 1 + 1 + (nI j).toNatClampNeg; omega), rec1 h]; exact h.2.1
  · rw [g]
    show mU _ _ 8 _ (pl (nI j)) 8 = _
    exact mu_same _ _ _ _
theorem op_outR (h : AST mx P c) {j : Nat} (hj : j < c) (ho : ¬ outF P (nI j) = 0) : tX7_takeOut P (nI j) = 3 ∧ gX7_takeOut P (nI j) = P := by
  have ht := t0_at h.2.1 h.2.2.1 hj
  have hb : fX1_isBoxed P (1 + 1 + 1 + (nI j).toNatClampNeg) = 0 := box0 ho
  exact ⟨by unfold tX7_takeOut; rw [if_pos ht, if_pos hb], by unfold gX7_takeOut; rw [if_pos ht, if_pos hb]⟩
theorem op_cal (h : AST mx P c) {j : Nat} (hj : j < c) (ho : fX7_calibrationObstacle P (nI j) = 0) : tX7_calibrate P (nI j) = 0 ∧ APOST mx P c (gX7_calibrate P (nI j)) ∧ fX7_calibrate P (nI j) = fX7_zeroOf P (nI j) ∧ gX7_calibrate P (nI j) 1 1 = nI c ∧ fX7_errorOf (gX7_calibrate P (nI j)) (nI j) = 0 := by
  have hc6 := h.2.2.1
  have ht := t0_at h.2.1 hc6 hj
  have hx : (nI j).toNatClampNeg < 6 := by rw [nI_clamp (by omega)]; omega
  have ho' : fX4_obstacle P 1 (1 + 1 + 1 + (nI j).toNatClampNeg) = 0 := ho
  have r1 := rec1 h
  have rp := recp h hx
  have g : gX7_calibrate P (nI j) = mU (gX0_record P 1) (pl (nI j)) 7 (fX4_surrounding (gX0_record P 1) 1 (pl (nI j)) - fX4_raw (gX0_record P 1) 1 (pl (nI j))) := by unfold gX7_calibrate; rw [if_pos ht, if_pos ho']
  have hi1 := (inv_i1 h.1 h.2.1 hc6 hj).1
  have ne1 : (1 : Nat) ≠ pl (nI j) := by show 1 ≠ 1 + 1 + 1 + (nI j).toNatClampNeg; omega
  refine ⟨by unfold tX7_calibrate; rw [if_pos ht, if_pos ho'], ⟨?_, ?_⟩, ?_, ?_, ?_⟩
  · rw [g]
    refine (inv_ins (k := j) (rec_inv h) (by rw [r1]; exact h.2.1) hc6 hj (fun p hp _ => mU_ne _ _ _ (by rw [pl_nI' (by omega)]; exact hp)) ?_ ?_ ?_).up (by omega)
    · rw [← pl_nI' (j := j) (by omega)]
      obtain ⟨a1, a4, a5, a6, a8, k1, k2⟩ := hi1
      unfold IOK
      rw [mU_row (j := 0) (by decide), mU_row (j := 1) (by decide), mU_row (j := 4) (by decide), mU_row (j := 5) (by decide), mU_row (j := 6) (by decide), mU_row (j := 8) (by decide)]
      rw [rp]
      exact ⟨a1, a4, a5, a6, a8, k1, k2⟩
    · rw [← pl_nI' (j := j) (by omega)]
      unfold hbR
      rw [mU_row (j := 1) (by decide), mU_row (j := 3) (by decide)]
    · rw [← pl_nI' (j := j) (by omega), mU_row (by decide)]
  · rw [g]; exact (rec_chg h).1.room (fun p hp => mU_ne _ _ _ (by show p ≠ 1 + 1 + 1 + (nI j).toNatClampNeg; omega))
  · unfold fX7_calibrate
    rw [if_pos ho']
    show gX0_record P 1 (pl (nI j)) 7 = P (pl (nI j)) 7
    rw [rp]
  · rw [g, mU_ne _ _ _ ne1, r1]; exact h.2.1
  · rw [g]
    generalize hR : gX0_record P 1 = R at r1 rp
    show fX4_reading (mU R (pl (nI j)) 7 (fX4_surrounding R 1 (pl (nI j)) - fX4_raw R 1 (pl (nI j)))) 1 (pl (nI j)) - fX4_surrounding (mU R (pl (nI j)) 7 (fX4_surrounding R 1 (pl (nI j)) - fX4_raw R 1 (pl (nI j)))) 1 (pl (nI j)) = 0
    generalize hz : fX4_surrounding R 1 (pl (nI j)) - fX4_raw R 1 (pl (nI j)) = z
    have es : fX4_surrounding (mU R (pl (nI j)) 7 z) 1 (pl (nI j)) = fX4_surrounding R 1 (pl (nI j)) := by
      unfold fX4_surrounding fX7_fixedPointOr
      rw [mU_row (by decide), mU_ne _ _ _ ne1]
    have er : fX4_raw (mU R (pl (nI j)) 7 z) 1 (pl (nI j)) = fX4_raw R 1 (pl (nI j)) := by
      unfold fX4_raw fX4_depression fX7_quotient
      rw [es, mU_row (by decide), mU_row (by decide), mU_row (by decide), mU_row (by decide), mU_ne _ _ _ ne1]
    unfold fX4_reading
    rw [er, es, mu_same, ← hz]
    have hsu : UB (fX4_surrounding R 1 (pl (nI j))) 100 := sur_ub (by rw [r1]; exact (inv_b h.1).2.1)
    rw [show fX4_raw R 1 (pl (nI j)) + (fX4_surrounding R 1 (pl (nI j)) - fX4_raw R 1 (pl (nI j))) = fX4_surrounding R 1 (pl (nI j)) by grind]
    obtain ⟨k, hk, e⟩ := hsu
    rw [e]
    have : ∀ k : Fin 101, xmax 0 (xmin 100 (nI k.1)) - nI k.1 = 0 := by decide +kernel
    exact this ⟨k, by omega⟩
theorem op_calR (h : AST mx P c) {j : Nat} (hj : j < c) (ho : ¬ fX7_calibrationObstacle P (nI j) = 0) : tX7_calibrate P (nI j) = 3 ∧ gX7_calibrate P (nI j) = P := by
  have ht := t0_at h.2.1 h.2.2.1 hj
  have ho' : ¬ fX4_obstacle P 1 (1 + 1 + 1 + (nI j).toNatClampNeg) = 0 := ho
  exact ⟨by unfold tX7_calibrate; rw [if_pos ht, if_neg ho'], by unfold gX7_calibrate; rw [if_pos ht, if_neg ho']⟩
theorem op_moi (h : AST mx P c) {j : Nat} (hj : j < c) (ho : fX7_isHair P (nI j) = 0) : tX7_moisten P (nI j) = 0 ∧ APOST mx P c (gX7_moisten P (nI j)) ∧ fX7_moisten P (nI j) = fX7_waterOf P (nI j) ∧ gX7_moisten P (nI j) 1 1 = nI c ∧ fX7_waterOf (gX7_moisten P (nI j)) (nI j) = 60 := by
  have hc6 := h.2.2.1
  have ht := t0_at h.2.1 hc6 hj
  have hx : (nI j).toNatClampNeg < 6 := by rw [nI_clamp (by omega)]; omega
  have hb : bv (P (1 + 1 + 1 + (nI j).toNatClampNeg) 0) = 0 := ho
  have r1 := rec1 h
  have rp := recp h hx
  have g : gX7_moisten P (nI j) = mU (gX0_record P 1) (pl (nI j)) 6 60 := by unfold gX7_moisten; rw [if_pos ht, if_pos hb]
  have hi1 := (inv_i1 h.1 h.2.1 hc6 hj).1
  have ne1 : (1 : Nat) ≠ pl (nI j) := by show 1 ≠ 1 + 1 + 1 + (nI j).toNatClampNeg; omega
  refine ⟨by unfold tX7_moisten; rw [if_pos ht, if_pos hb], ⟨?_, ?_⟩, ?_, ?_, ?_⟩
  · rw [g]
    refine (inv_ins (k := j) (rec_inv h) (by rw [r1]; exact h.2.1) hc6 hj (fun p hp _ => mU_ne _ _ _ (by rw [pl_nI' (by omega)]; exact hp)) ?_ ?_ ?_).up (by omega)
    · rw [← pl_nI' (j := j) (by omega)]
      obtain ⟨a1, a4, a5, a6, a8, k1, k2⟩ := hi1
      unfold IOK
      rw [mU_row (j := 0) (by decide), mU_row (j := 1) (by decide), mU_row (j := 4) (by decide), mU_row (j := 5) (by decide), mU_row (j := 8) (by decide)]
      rw [mu_same, rp]
      exact ⟨a1, a4, a5, ⟨60, by decide, rfl⟩, a8, k1, fun hh => absurd hb hh⟩
    · rw [← pl_nI' (j := j) (by omega)]
      unfold hbR
      rw [mU_row (j := 1) (by decide), mU_row (j := 3) (by decide)]
    · rw [← pl_nI' (j := j) (by omega), mU_row (by decide)]
  · rw [g]; exact (rec_chg h).1.room (fun p hp => mU_ne _ _ _ (by show p ≠ 1 + 1 + 1 + (nI j).toNatClampNeg; omega))
  · unfold fX7_moisten fX7_waterOf
    rw [if_pos hb, if_pos hb]
    show gX0_record P 1 (pl (nI j)) 6 = P (pl (nI j)) 6
    rw [rp]
  · rw [g, mU_ne _ _ _ ne1, r1]; exact h.2.1
  · rw [g]
    show (if bv (mU (gX0_record P 1) (pl (nI j)) 6 60 (pl (nI j)) 0) = 0 then mU (gX0_record P 1) (pl (nI j)) 6 60 (pl (nI j)) 6 else -1) = 60
    rw [mU_row (by decide), rp, if_pos hb, mu_same]
theorem op_moiR (h : AST mx P c) {j : Nat} (hj : j < c) (ho : ¬ fX7_isHair P (nI j) = 0) : tX7_moisten P (nI j) = 3 ∧ gX7_moisten P (nI j) = P := by
  have ht := t0_at h.2.1 h.2.2.1 hj
  have hb : ¬ bv (P (1 + 1 + 1 + (nI j).toNatClampNeg) 0) = 0 := ho
  exact ⟨by unfold tX7_moisten; rw [if_pos ht, if_neg hb], by unfold gX7_moisten; rw [if_pos ht, if_neg hb]⟩
end OPS
