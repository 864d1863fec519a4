/-! a description read by both -/
/-- behind the reading -/
def FIN (M N : Mem) : Prop := M 9 2 = N 124 20 ∧ (M 9 2 = 0 → M 9 3 = -1 ∧ ∃ c, RB M N 12 c) ∧ (¬ M 9 2 = 0 → M 9 3 = N 124 21) ∧ M 10 1 = 0
theorem er_ext {M N N' : Mem} (h : N' 124 = N 124) (hE : ER M N) : ER M N' := by unfold ER; rw [h]; exact hE
theorem er_fin {M N : Mem} (h : ER M N) : FIN (mU M 10 1 0) N := by
  refine ⟨?_, fun h0 => ?_, fun _ => ?_, mu_same _ _ _ _⟩
  · rw [mU_ne _ _ _ (by decide)]; exact h.1
  · rw [mU_ne _ _ _ (by decide)] at h0; exact absurd h0 h.2.1
  · rw [mU_ne _ _ _ (by decide)]; exact h.2.2
theorem text_er {x : Int32} {N : Mem} (h : ¬ N 124 20 = 0) : ∀ k, LX8_readsText_103g x k N = N := by
  intro k
  cases k with
  | zero => rfl
  | succ k => rw [LX8_readsText_103g, if_neg h]
theorem par_loop {e : Nat} (he : e ≤ 600) : ∀ (k : Nat) (M N : Mem) (j k2 : Nat), ((∃ t c, LB M N e t c ∧ j ≤ t) ∨ (ER M N ∧ j ≤ 601)) → 602 ≤ j + k → 602 ≤ j + k2 → FIN (LX3_parse_24g (nI e) k M j) (LX8_readsText_103g (nI e) k2 N) := by
  intro k
  induction k with
  | zero =>
    intro M N j k2 h h1
    rcases h with ⟨t, c, hL, hj⟩ | ⟨hE, hj⟩
    · have := hL.1.2.1; omega
    · omega
  | succ k ih =>
    intro M N j k2 h h1 h2
    rw [LX3_parse_24g]
    rcases h with ⟨t, c, hL, hj⟩ | ⟨hE, hj⟩
    · have hte := hL.1.2.1
      cases k2 with
      | zero => omega
      | succ k2 =>
        rw [LX8_readsText_103g, if_neg (by rw [nI_ltI (by omega) (by omega)]; omega), if_pos hL.ok.1, if_pos hL.ok.2]
        obtain ⟨t2, s2, ha, hs⟩ := lb_at hL
        have hk := ha.1.2.2
        have kk := hk.1.2.2.2.2.2.2.1
        by_cases h0 : gX6_next M 10 5 = 0
        · rw [if_pos h0, if_pos ((kk.iff (by decide)).mpr h0)]
          have h9 := ha.1.1
          refine ⟨?_, fun _ => ⟨?_, c, ?_⟩, fun hh => ?_, mu_same _ _ _ _⟩
          · rw [mU_ne _ _ _ (by decide), h9.1, ha.1.2.1]
          · rw [mU_ne _ _ _ (by decide), h9.2]
          · exact rb_ext (fun o h1 h2 => mU_ne _ _ _ (by omega)) rfl rfl ha.2.1
          · rw [mU_ne _ _ _ (by decide)] at hh; exact absurd h9.1 hh
        · have hst : s2 < t2 := hk.2.2.2.2.2.2 h0
          rw [if_neg h0, if_neg (fun hh => h0 ((kk.iff (by decide)).mp hh))]
          by_cases h3 : gX6_next M 10 5 = 3
          · rw [if_pos h3, if_pos ((kk.iff (by decide)).mpr h3)]
            have hb := line_rel (ab_next ha)
            refine ih _ _ (j + 1) k2 ?_ (by omega) (by omega)
            rcases hb with ⟨t3, c3, h4, h5⟩ | hE
            · exact Or.inl ⟨t3, c3, h5, by omega⟩
            · exact Or.inr ⟨hE, by omega⟩
          · rw [if_neg h3, if_neg (fun hh => h3 ((kk.iff (by decide)).mp hh))]
            exact ih _ _ (j + 1) k2 (Or.inr ⟨at_err ha.1 (by decide), by omega⟩) (by omega) (by omega)
    · rw [text_er (er_f hE), if_neg hE.2.1, ite_self]
      exact er_fin hE
/-- the reference's numbers at first -/
theorem zero_all (x : Int32) : ∀ (f : Nat) (N : Mem) (j : Nat), 57 ≤ j + f → j ≤ 56 → (∀ i, i < j → N 127 i = 0) → ∃ Nz : Mem, (∀ i, i < 56 → Nz 127 i = 0) ∧ (∀ p, p ≠ 127 → Nz p = N p) ∧ LX8_readsText_2g x f N j = LX8_readsText_2g x 1 Nz 56 := by
  intro f
  induction f with
  | zero => intro N j hf hj; omega
  | succ f ih =>
    intro N j hf hj hz
    by_cases hc : (56 : Int32) ≤ nI j
    · have h56 := lit_ge (N := 56) hc rfl (by omega)
      refine ⟨N, fun i hi => hz i (by omega), fun _ _ => rfl, ?_⟩
      rw [LX8_readsText_2g, LX8_readsText_2g, show j = 56 by omega]
      have : (56 : Int32) ≤ nI 56 := by decide
      rw [if_pos this, if_pos this]
    · have hj6 := lit_lt (N := 56) hc rfl hj
      obtain ⟨Nz, z1, z2, z3⟩ := ih (mU N 127 j 0) (j + 1) (by omega) (by omega) (fun i hi => by
        by_cases e : i = j
        · rw [e, mu_same]
        · rw [mU_row e]; exact hz i (by omega))
      refine ⟨Nz, z1, fun p hp => (z2 p hp).trans (mU_ne _ _ _ hp), ?_⟩
      rw [LX8_readsText_2g, if_neg hc]
      exact z3
/-- a room begun by the head -/
theorem begin_rb {M N : Mem} {x y z : Int32} (hp : PTS N) (h1 : N 127 1 = x) (h2 : N 127 2 = y) (h3 : N 127 3 = z) (hz : ∀ i, i < 56 → i ≠ 1 → i ≠ 2 → i ≠ 3 → N 127 i = 0) (hx : UB x 100) (hy : UB y 40) (hzz : UB z 5) : RB (gX4_begin M 12 x y z) N 12 0 := by
  have b : ∀ i, 1 ≤ i → i ≤ 7 → gX4_begin M 12 x y z 12 i = (if i = 3 then x else if i = 4 then y else if i = 5 then z else 0) := by
    intro i hi1 hi2
    unfold gX4_begin
    rcases (by omega : i = 1 ∨ i = 2 ∨ i = 3 ∨ i = 4 ∨ i = 5 ∨ i = 6 ∨ i = 7) with rfl | rfl | rfl | rfl | rfl | rfl | rfl <;>
      (repeat rw [mU_row (by decide)]) <;> rw [mu_same] <;> rfl
  refine ⟨hp, ⟨by decide, by rw [hz 5 (by decide) (by decide) (by decide) (by decide)]; rfl, ⟨?_, ?_, ?_, ?_, ?_, ?_, ?_⟩, ⟨trivial, by rw [h1]; exact hx, by rw [h2]; exact hy, by rw [h3]; exact hzz, ?_⟩, fun k hk => by omega⟩, ?_, fun j hj => by rw [hz _ (by omega) (by omega) (by omega) (by omega)]; exact Or.inr ⟨0, by decide, rfl⟩, by rw [hz 0 (by decide) (by decide) (by decide) (by decide)]; exact ⟨0, by decide, rfl⟩⟩
  · rw [b 1 (by decide) (by decide), hz 5 (by decide) (by decide) (by decide) (by decide)]; rfl
  · rw [b 2 (by decide) (by decide), hz 0 (by decide) (by decide) (by decide) (by decide)]; rfl
  · rw [b 3 (by decide) (by decide), h1]; rfl
  · rw [b 4 (by decide) (by decide), h2]; rfl
  · rw [b 5 (by decide) (by decide), h3]; rfl
  · rw [b 6 (by decide) (by decide), hz 4 (by decide) (by decide) (by decide) (by decide)]; rfl
  · rw [b 7 (by decide) (by decide), hz 7 (by decide) (by decide) (by decide) (by decide)]; rfl
  · rw [hz 4 (by decide) (by decide) (by decide) (by decide)]; exact ⟨0, by decide, rfl⟩
  · rw [hz 6 (by decide) (by decide) (by decide) (by decide)]; rfl
/-- the head's three numbers -/
theorem head_nums {M N : Mem} {e t : Nat} (h : LA M N e t ∨ ER M N) (hp : PTS N) (hK : KEYS N) (hz : ∀ i, i < 56 → N 127 i = 0) (x : Int32) :
    ∃ N2, LX8_readsText_65g x 1 N = LX8_readsText_103g x 602 N2 ∧
      BL (if gX3_takeNumber (gX3_takeNumber (gX3_takeNumber M 0 100) 0 40) 0 5 9 2 = 0 then gX4_begin (gX3_takeNumber (gX3_takeNumber (gX3_takeNumber M 0 100) 0 40) 0 5) 12 (fX3_takeNumber M 0 100) (fX3_takeNumber (gX3_takeNumber M 0 100) 0 40) (fX3_takeNumber (gX3_takeNumber (gX3_takeNumber M 0 100) 0 40) 0 5) else gX3_takeNumber (gX3_takeNumber (gX3_takeNumber M 0 100) 0 40) 0 5) N2 e 0 := by
  rw [LX8_readsText_65g]
  refine ⟨_, rfl, ?_⟩
  have bad : ∀ {A B : Mem}, ER A B → ∀ v, ER (gX3_takeNumber A 0 5) (mU (gX8_takesNumber B 0 5) 127 3 v) := fun hE v => by
    rw [er_take hE, tn_er (er_f hE)]
    exact er_ext (mU_ne _ _ _ (by decide)) hE
  have bad2 : ∀ {A B : Mem}, ER A B → ∀ v w, ER (gX3_takeNumber (gX3_takeNumber A 0 40) 0 5) (mU (gX8_takesNumber (mU (gX8_takesNumber B 0 40) 127 2 v) 0 5) 127 3 w) := fun hE v w => by
    refine bad ?_ w
    rw [er_take hE, tn_er (er_f hE)]
    exact er_ext (mU_ne _ _ _ (by decide)) hE
  have fin : ∀ {A B R : Mem}, ER A B → BL (if A 9 2 = 0 then R else A) B e 0 := fun hE => by
    rw [if_neg hE.2.1]
    exact Or.inr hE
  have step : ER (gX3_takeNumber M 0 100) (gX8_takesNumber N 0 100) → BL (if gX3_takeNumber (gX3_takeNumber (gX3_takeNumber M 0 100) 0 40) 0 5 9 2 = 0 then gX4_begin (gX3_takeNumber (gX3_takeNumber (gX3_takeNumber M 0 100) 0 40) 0 5) 12 (fX3_takeNumber M 0 100) (fX3_takeNumber (gX3_takeNumber M 0 100) 0 40) (fX3_takeNumber (gX3_takeNumber (gX3_takeNumber M 0 100) 0 40) 0 5) else gX3_takeNumber (gX3_takeNumber (gX3_takeNumber M 0 100) 0 40) 0 5) (mU (gX8_takesNumber (mU (gX8_takesNumber (mU (gX8_takesNumber N 0 100) 127 1 (fX8_takesNumber N 0 100)) 0 40) 127 2 (fX8_takesNumber (mU (gX8_takesNumber N 0 100) 127 1 (fX8_takesNumber N 0 100)) 0 40)) 0 5) 127 3 (fX8_takesNumber (mU (gX8_takesNumber (mU (gX8_takesNumber N 0 100) 127 1 (fX8_takesNumber N 0 100)) 0 40) 127 2 (fX8_takesNumber (mU (gX8_takesNumber N 0 100) 127 1 (fX8_takesNumber N 0 100)) 0 40)) 0 5)) e 0 := fun hE => fin (bad2 (er_ext (mU_ne _ _ _ (by decide)) hE) _ _)
  rcases h with hL | hE
  rotate_left
  · exact step (by rw [er_take hE, tn_er (er_f hE)]; exact hE)
  rcases take_next hL 0 100 with ⟨v1, t1, e1, f1, L1, l1, x1, y1⟩ | hE
  rotate_left
  · exact step hE
  rw [e1, f1]
  have L1' : LA (gX3_takeNumber M 0 100) (mU (gX8_takesNumber N 0 100) 127 1 v1) e t1 := la_ext rfl rfl rfl (mU_ne _ _ _ (by decide)) (mU_ne _ _ _ (by decide)) L1
  have n1 : ∀ p, p ≠ 124 → gX8_takesNumber N 0 100 p = N p := (nr_tn N 0 100).1
  generalize gX3_takeNumber M 0 100 = M1 at *
  generalize hB1 : mU (gX8_takesNumber N 0 100) 127 1 v1 = B1 at *
  rcases take_next L1' 0 40 with ⟨v2, t2, e2, f2, L2, l2, x2, y2⟩ | hE
  rotate_left
  · exact fin (bad (er_ext (mU_ne _ _ _ (by decide)) hE) _)
  rw [e2, f2]
  have L2' : LA (gX3_takeNumber M1 0 40) (mU (gX8_takesNumber B1 0 40) 127 2 v2) e t2 := la_ext rfl rfl rfl (mU_ne _ _ _ (by decide)) (mU_ne _ _ _ (by decide)) L2
  have n2 : ∀ p, p ≠ 124 → gX8_takesNumber B1 0 40 p = B1 p := (nr_tn B1 0 40).1
  generalize gX3_takeNumber M1 0 40 = M2 at *
  generalize hB2 : mU (gX8_takesNumber B1 0 40) 127 2 v2 = B2 at *
  rcases take_next L2' 0 5 with ⟨v3, t3, e3, f3, L3, l3, x3, y3⟩ | hE
  rotate_left
  · exact fin (er_ext (mU_ne _ _ _ (by decide)) hE)
  rw [e3, f3, if_pos L3.2.2.2.2.1.1]
  have n3 : ∀ p, p ≠ 124 → gX8_takesNumber B2 0 5 p = B2 p := (nr_tn B2 0 5).1
  have r : ∀ p, p ≠ 124 → p ≠ 127 → mU (gX8_takesNumber B2 0 5) 127 3 v3 p = N p := fun p hp hp2 => by
    rw [mU_ne _ _ _ hp2, n3 p hp, ← hB2, mU_ne _ _ _ hp2, n2 p hp, ← hB1, mU_ne _ _ _ hp2, n1 p hp]
  have r7 : ∀ i, mU (gX8_takesNumber B2 0 5) 127 3 v3 127 i = (if i = 3 then v3 else if i = 2 then v2 else if i = 1 then v1 else N 127 i) := fun i => by
    by_cases c3 : i = 3
    · rw [if_pos c3, c3, mu_same]
    · rw [if_neg c3, mU_row c3, n3 127 (by decide), ← hB2]
      by_cases c2 : i = 2
      · rw [if_pos c2, c2, mu_same]
      · rw [if_neg c2, mU_row c2, n2 127 (by decide), ← hB1]
        by_cases c1 : i = 1
        · rw [if_pos c1, c1, mu_same]
        · rw [if_neg c1, mU_row c1, n1 127 (by decide)]
  refine Or.inl ⟨t3, 0, Nat.zero_le _, la_ext (begin_rf _ 12 _ _ _ 10 (by decide)) (begin_rf _ 12 _ _ _ 11 (by decide)) (begin_rf _ 12 _ _ _ 9 (by decide)) (mU_ne _ _ _ (by decide)) (mU_ne _ _ _ (by decide)) L3, ?_, keys_row (r 126 (by decide) (by decide)) hK⟩
  refine begin_rb (pts_row (r 125 (by decide) (by decide)) hp) (r7 1) (r7 2) (r7 3) (fun i hi h1 h2 h3 => ?_) (rng_ub (a := 0) (b := 100) x1 y1) (rng_ub (a := 0) (b := 40) x2 y2) (rng_ub (a := 0) (b := 5) x3 y3)
  rw [r7, if_neg h3, if_neg h2, if_neg h1]
  exact hz i hi
/-- a text of e bytes -/
theorem parse_rel {M N : Mem} {e n : Nat} (hen : e ≤ n) (hn : n ≤ 600) (h1 : M 10 1 = nI n) (hb : ∀ j, j < e → M 11 j = N 131 j) (hp : PTS N) (hK : KEYS N) : FIN (gX3_parse M (nI e)) (gX8_readsText N (nI e)) := by
  unfold gX3_parse gX8_readsText
  obtain ⟨Nz, z1, z2, z3⟩ := zero_all (nI e) 57 N 0 (by decide) (by decide) (fun i hi => by omega)
  rw [z3, LX8_readsText_2g, if_pos (show (56 : Int32) ≤ nI 56 by decide)]
  generalize hN0 : mU (mU (mU (mU Nz 124 15 (nI e)) 124 20 0) 124 16 0) 124 18 0 = N0
  have o0 : ∀ p, p ≠ 124 → N0 p = Nz p := fun p hp => by rw [← hN0, mU_ne _ _ _ hp, mU_ne _ _ _ hp, mU_ne _ _ _ hp, mU_ne _ _ _ hp]
  have a15 : N0 124 15 = nI e := by rw [← hN0, mU_row (by decide), mU_row (by decide), mU_row (by decide), mu_same]
  have a20 : N0 124 20 = 0 := by rw [← hN0, mU_row (by decide), mU_row (by decide), mu_same]
  have a16 : N0 124 16 = 0 := by rw [← hN0, mU_row (by decide), mu_same]
  have a18 : N0 124 18 = nI 0 := by rw [← hN0, mu_same]; rfl
  generalize hM0 : gX6_begin (mU (mU M 9 2 0) 9 3 (-1)) (nI e) = M0
  have q9 : M0 9 2 = 0 ∧ M0 9 3 = -1 := by
    rw [← hM0]
    unfold gX6_begin
    rw [mU_ne (p := 9) _ _ _ (by decide), mU_ne (p := 9) _ _ _ (by decide), mU_ne (p := 9) _ _ _ (by decide), mU_ne (p := 9) _ _ _ (by decide)]
    exact ⟨by rw [mU_row (by decide), mu_same], mu_same _ _ _ _⟩
  have q11 : M0 11 = M 11 := by
    rw [← hM0]
    unfold gX6_begin
    rw [mU_ne (p := 11) _ _ _ (by decide), mU_ne (p := 11) _ _ _ (by decide), mU_ne (p := 11) _ _ _ (by decide), mU_ne (p := 11) _ _ _ (by decide), mU_ne (p := 11) _ _ _ (by decide), mU_ne (p := 11) _ _ _ (by decide)]
  have hx : xmin (nI e) (M 10 1) = nI e := by
    rw [h1, xmin_eq, if_pos (by rw [nI_leI (by omega) (by omega)]; exact hen)]
  have q2 : M0 10 2 = nI e := by
    rw [← hM0]
    unfold gX6_begin
    rw [mU_row (by decide), mU_row (by decide), mU_row (by decide), mu_same, mU_ne (p := 10) _ _ _ (by decide), mU_ne (p := 10) _ _ _ (by decide)]
    exact hx
  have q4 : M0 10 4 = nI 0 := by
    rw [← hM0]
    unfold gX6_begin
    rw [mU_row (by decide), mu_same]; rfl
  have q5 : M0 10 5 = 0 := by
    rw [← hM0]
    unfold gX6_begin
    rw [mu_same]
  have hts : TS M0 N0 e 0 := ⟨by omega, Nat.zero_le _, q2, a15, q4, a18, by rw [q5, a16]; exact ⟨rfl, Or.inl rfl⟩, fun j hj => by rw [q11, o0 131 (by decide), z2 131 (by decide)]; exact hb j hj⟩
  obtain ⟨t1, s1, hk, -⟩ := next_rel hts
  have hat : AT (gX6_next M0) (gX8_next N0) e t1 s1 := ⟨by rw [nx_sr M0 9 (by decide)]; exact q9, (nx_f N0).1.trans a20, hk⟩
  have o1 : ∀ p, p ≠ 124 → gX8_next N0 p = Nz p := fun p hp => ((n8_nx N0).1.1 p hp).trans (o0 p hp)
  have hK1 : KEYS (gX8_next N0) := keys_row ((o1 126 (by decide)).trans (z2 126 (by decide))) hK
  have hp1 : PTS (gX8_next N0) := pts_row ((o1 125 (by decide)).trans (z2 125 (by decide))) hp
  have hz1 : ∀ i, i < 56 → gX8_next N0 127 i = 0 := fun i hi => by rw [o1 127 (by decide)]; exact z1 i hi
  unfold gX3_readHead
  rw [word_eq hk hK1 (w := 0) (by decide)]
  have go : ∀ {A B : Mem}, BL A B e 0 → FIN (LX3_parse_24g (nI e) 602 A 0) (LX8_readsText_103g (nI e) 602 B) := fun hb => by
    refine par_loop (by omega) 602 _ _ 0 602 ?_ (by decide) (by decide)
    rcases hb with ⟨t3, c3, -, h5⟩ | hE
    · exact Or.inl ⟨t3, c3, h5, Nat.zero_le _⟩
    · exact Or.inr ⟨hE, by decide⟩
  by_cases hw : fX8_isKey (gX8_next N0) 0 = 0
  · rw [if_pos hw, if_pos hw]
    have hE := at_err hat (x := 1) (by decide)
    have nr := nr_er (gX8_next N0) 1
    obtain ⟨N2, e2, hb⟩ := head_nums (e := e) (t := 0) (Or.inr hE) (pts_row (nr.1 125 (by decide)) hp1) (keys_row (nr.1 126 (by decide)) hK1) (fun i hi => by rw [nr.1 127 (by decide)]; exact hz1 i hi) (nI e)
    rw [e2]
    exact go hb
  · rw [if_neg hw, if_neg hw]
    have nr := n8_nx (gX8_next N0)
    obtain ⟨N2, e2, hb⟩ := head_nums (Or.inl (at_next hat)) (pts_row (nr.1.1 125 (by decide)) hp1) (keys_row (nr.1.1 126 (by decide)) hK1) (fun i hi => by rw [nr.1.1 127 (by decide)]; exact hz1 i hi) (nI e)
    rw [e2]
    exact go hb
