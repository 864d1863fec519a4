/-! .. and of the premises on statics and strings -/
section START
variable {s : State} {b : Addr}
/-- the words of the Statement on the start, taken apart -/
abbrev pmL : List Cond := flatC (Jvm.Cond.and given_1 narrow_1)
def tmW (i : Nat) : Term := Term.string RX3 (wrdK.getD i 0)
/-- rows of the premises that stand side by side -/
theorem pm_blk {k n : Nat} {g : Nat → Cond} (h : (pmL.drop k).take n = (List.range n).map g) : ∀ j, j < n → g j ∈ pmL := fun j hj => by
  have h1 : g j ∈ (pmL.drop k).take n := by
    rw [h]
    exact List.mem_map.mpr ⟨j, List.mem_range.mpr hj, rfl⟩
  exact List.mem_of_mem_drop (List.mem_of_mem_take h1)
theorem wd_ne : ∀ i, i < 9 → ∀ j, j < 9 → wrdN.getD i 0 = wrdN.getD j 0 → (∀ k, k < wrdN.getD i 0 → (wrdB.getD i []).getD k 0 = (wrdB.getD j []).getD k 0) → i = j := by decide +kernel
theorem pm_ex : ∀ i, i < 9 → Cond.exactly (tmW i) "java/lang/String" ∈ pmL := by decide +kernel
theorem pm_co : ∀ i, i < 9 → Cond.eq (.field (tmW i) "java/lang/String" "coder" "B") (.int 0) ∈ pmL := by decide +kernel
theorem pm_ar : ∀ i, i < 9 → Cond.arrayOf (.field (tmW i) "java/lang/String" "value" "[B") .byte ∈ pmL := by decide +kernel
theorem pm_le : ∀ i, i < 9 → Cond.eq (.length (.field (tmW i) "java/lang/String" "value" "[B")) (.int (Int32.ofNat (wrdN.getD i 0))) ∈ pmL := by decide +kernel
theorem pm_el : ∀ i, i < 9 → ∀ j, j < wrdN.getD i 0 → Cond.eq (.elem (.field (tmW i) "java/lang/String" "value" "[B") (.int (Int32.ofNat j))) (.int ((wrdB.getD i []).getD j 0)) ∈ pmL := by
  intro i hi
  have : i = 0 ∨ i = 1 ∨ i = 2 ∨ i = 3 ∨ i = 4 ∨ i = 5 ∨ i = 6 ∨ i = 7 ∨ i = 8 := by omega
  rcases this with rfl | rfl | rfl | rfl | rfl | rfl | rfl | rfl | rfl
  · exact pm_blk (k := 405) (n := 4) (g := fun j => Cond.eq (.elem (.field (tmW 0) "java/lang/String" "value" "[B") (.int (Int32.ofNat j))) (.int ((wrdB.getD 0 []).getD j 0))) (by decide +kernel)
  · exact pm_blk (k := 413) (n := 4) (g := fun j => Cond.eq (.elem (.field (tmW 1) "java/lang/String" "value" "[B") (.int (Int32.ofNat j))) (.int ((wrdB.getD 1 []).getD j 0))) (by decide +kernel)
  · exact pm_blk (k := 421) (n := 4) (g := fun j => Cond.eq (.elem (.field (tmW 2) "java/lang/String" "value" "[B") (.int (Int32.ofNat j))) (.int ((wrdB.getD 2 []).getD j 0))) (by decide +kernel)
  · exact pm_blk (k := 429) (n := 3) (g := fun j => Cond.eq (.elem (.field (tmW 3) "java/lang/String" "value" "[B") (.int (Int32.ofNat j))) (.int ((wrdB.getD 3 []).getD j 0))) (by decide +kernel)
  · exact pm_blk (k := 436) (n := 3) (g := fun j => Cond.eq (.elem (.field (tmW 4) "java/lang/String" "value" "[B") (.int (Int32.ofNat j))) (.int ((wrdB.getD 4 []).getD j 0))) (by decide +kernel)
  · exact pm_blk (k := 443) (n := 7) (g := fun j => Cond.eq (.elem (.field (tmW 5) "java/lang/String" "value" "[B") (.int (Int32.ofNat j))) (.int ((wrdB.getD 5 []).getD j 0))) (by decide +kernel)
  · exact pm_blk (k := 454) (n := 7) (g := fun j => Cond.eq (.elem (.field (tmW 6) "java/lang/String" "value" "[B") (.int (Int32.ofNat j))) (.int ((wrdB.getD 6 []).getD j 0))) (by decide +kernel)
  · exact pm_blk (k := 465) (n := 8) (g := fun j => Cond.eq (.elem (.field (tmW 7) "java/lang/String" "value" "[B") (.int (Int32.ofNat j))) (.int ((wrdB.getD 7 []).getD j 0))) (by decide +kernel)
  · exact pm_blk (k := 477) (n := 7) (g := fun j => Cond.eq (.elem (.field (tmW 8) "java/lang/String" "value" "[B") (.int (Int32.ofNat j))) (.int ((wrdB.getD 8 []).getD j 0))) (by decide +kernel)
theorem pm_fp : ∀ j, j < 4 → Cond.eq (.elem (Term.static "HygrometerRoom" "FIXED_POINTS" "[I") (.int (Int32.ofNat j))) (.int (fpV j)) ∈ pmL := by decide +kernel
theorem pm_msg : ∀ q ∈ msgL, Cond.exactly (Term.string RX7 q.1) "java/lang/String" ∈ pmL ∧ Cond.stringRef RX7 q.1 q.2 ∈ lw_tb6 := by decide +kernel
theorem pm_wrd : ∀ i, i < 9 → Cond.stringRef RX3 (wrdK.getD i 0) (wrdT.getD i "") ∈ lw_tb6 := by decide +kernel
theorem pm_nst : ∀ q ∈ nstL, Cond.methodLinkNest q.1 q.2.1 q.2.2 RX7 ∈ lw_tb6 := by decide +kernel
theorem pm_exc : ∀ X ∈ excL, Cond.castable X X ∈ lw_tb6 := by decide +kernel
theorem pm_nca : ∀ q ∈ ncaL, Cond.not (.castable q.1 q.2) ∈ pmL := by decide +kernel
theorem pm_dcl : ∀ y ∈ dclL, Cond.declares y ∈ lw_tb6 := by decide +kernel
theorem st_words {A : Nat → Prop} (hs : ∀ w ∈ pmL, w.before #[Value.ref b] s = true) (hA : ∀ a : Nat, a < s.heap.size → ¬ A a) : ∃ adK adV : Nat → Nat, vk_S 9 wrdN wrdB adK adV A s s.heap ∧ ∀ i : Nat, i < 9 → (tmW i).eval #[Value.ref b] s none [] s = some (.ref (adK i)) := by
  have h31 : ∀ i, i < 9 → wrdN.getD i 0 < 2 ^ 31 := by decide +kernel
  have h0 : ∀ i : Nat, ∃ q : Nat × Nat, i < 9 → (tmW i).eval #[Value.ref b] s none [] s = some (.ref q.1) ∧ va_O "java/lang/String" q.1 A s s.heap ∧ va_OF "java/lang/String" "coder" "B" (.int 0) q.1 A s s.heap ∧ va_OF "java/lang/String" "value" "[B" (.ref q.2) q.1 A s s.heap ∧ va_T .byte q.2 (wrdN.getD i 0) (fun j => .int ((wrdB.getD i []).getD j 0)) A s s.heap := by
    intro i
    by_cases hi : i < 9
    · obtain ⟨a, c, cA, kA, q1, q2, q3, q4, q5, q6, -⟩ := Cond.exactly_spec (args := #[Value.ref b]) (first := s) (o := none) (s := s) (idx := []) (t := tmW i) (cls := "java/lang/String") (hs _ (pm_ex i hi))
      obtain ⟨t, ht, hT⟩ := va_Tof (f := fun j => .int ((wrdB.getD i []).getD j 0)) (A := A) (h31 i hi) (hs _ (pm_ar i hi)) (va_eqt (hs _ (pm_le i hi))) (fun j hj => va_eqt (hs _ (pm_el i hi j hj))) hA
      exact ⟨(a, t), fun _ => ⟨q1, va_Oof (hs _ (pm_ex i hi)) q1 hA, vk_OFof q1 (va_eqt (hs _ (pm_co i hi))) hA, vk_OFof q1 ht hA, hT⟩⟩
    · exact ⟨(0, 0), fun h => absurd h hi⟩
  refine ⟨fun i => (Classical.choose (h0 i)).1, fun i => (Classical.choose (h0 i)).2, ⟨fun i hi => (Classical.choose_spec (h0 i) hi).2, fun i j hi hj he => ?_⟩, fun i hi => (Classical.choose_spec (h0 i) hi).1⟩
  obtain ⟨-, -, -, f1, t1⟩ := Classical.choose_spec (h0 i) hi
  obtain ⟨-, -, -, f2, t2⟩ := Classical.choose_spec (h0 j) hj
  have he : (Classical.choose (h0 i)).1 = (Classical.choose (h0 j)).1 := he
  rw [he] at f1
  obtain ⟨cf, k, n, f, cell, g1, g2, g3, g4, g5, g6⟩ := f1
  obtain ⟨cf2, k2, n2, ff2, cell2, l1, l2, l3, l4, l5, l6⟩ := f2
  have e1 := Option.some.inj (g1.symm.trans l1)
  have e2 : f = ff2 := congrArg (fun z => z.2.2.2) e1
  have e3 := Option.some.inj (g3.symm.trans l3)
  rw [e2, e3] at g5
  have e4 := Option.some.inj (g5.symm.trans l5)
  have e5 : (Classical.choose (h0 i)).2 = (Classical.choose (h0 j)).2 := by injection e4
  rw [e5] at t1
  obtain ⟨c1, a1, -, -, n1, z1, w1, -⟩ := t1
  obtain ⟨c2, a2, -, -, m2, z2, w2, -⟩ := t2
  have e6 := Option.some.inj (a1.symm.trans a2)
  subst e6
  have hlt : ∀ i, i < 9 → wrdN.getD i 0 ≤ 8 := by decide +kernel
  have e7 : wrdN.getD i 0 = wrdN.getD j 0 := by
    have e8 : nI (wrdN.getD i 0) = nI (wrdN.getD j 0) := z1.symm.trans z2
    have e9 := congrArg Int32.toInt e8
    have := hlt i hi
    have := hlt j hj
    rw [sm_nI (by omega), sm_nI (by omega)] at e9
    omega
  refine wd_ne i hi j hj e7 (fun k hk => ?_)
  have e10 := Option.some.inj ((w1 k hk).symm.trans (w2 k (by omega)))
  injection e10
theorem st_sx {bb : Nat} (hbb : bb = s.heap.size) (hts : ∀ w ∈ lw_tb6, w.before #[Value.ref b] s = true) (hs : ∀ w ∈ pmL, w.before #[Value.ref b] s = true) : SX bb s := by
  have hA : ∀ a : Nat, a < s.heap.size → ¬ (fun q => bb ≤ q) a := fun a h h2 => by
    have h2 : bb ≤ a := h2
    omega
  refine ⟨?_, vx_Zqof (hts _ (by decide +kernel)) (hts (.initialized "java/lang/Throwable") (by decide +kernel)) (hs _ (by decide +kernel)) hA, vx_Zqof (hts _ (by decide +kernel)) (hts (.initialized "java/lang/Throwable") (by decide +kernel)) (hs _ (by decide +kernel)) hA, fun q hq => ?_, ?_, fun q hq => va_Nw.of rfl (hts _ (pm_nst q hq)), va_Zof (hts _ (by decide +kernel)) (hts (.initialized "java/lang/String") (by decide +kernel)) (va_eqt (hs _ (by decide +kernel))) hA, fun X hX => va_Nw.of rfl (hts _ (pm_exc X hX)), fun q hq => va_Nc.of (hs _ (pm_nca q hq)), va_Zqof (hts _ (by decide +kernel)) (hts (.initialized "jdk/internal/util/Preconditions") (by decide +kernel)) (hs _ (by decide +kernel)) hA, va_Nw.of rfl (hts _ (by decide +kernel)), fun y hy => va_Nw.of rfl (hts _ (pm_dcl y hy))⟩
  · obtain ⟨t, ht, hT⟩ := va_Tof (tm := Term.static "HygrometerRoom" "FIXED_POINTS" "[I") (ty := .int) (N := 4) (f := fun j => .int (fpV j)) (A := fun q => bb ≤ q) (by decide) (hs _ (by decide +kernel)) (va_eqt (hs _ (by decide +kernel))) (fun j hj => va_eqt (hs _ (pm_fp j hj))) hA
    exact ⟨t, va_Zof (hts _ (by decide +kernel)) (hts (.initialized "HygrometerRoom") (by decide +kernel)) ht hA, hT⟩
  · obtain ⟨a, c, cA, kA, q1, -⟩ := Cond.exactly_spec (args := #[Value.ref b]) (first := s) (o := none) (s := s) (idx := []) (hs _ (pm_msg q hq).1)
    exact ⟨a, vk_R.of (hts _ (pm_msg q hq).2) q1⟩
  · obtain ⟨adK, adV, h1, h2⟩ := st_words (A := fun q => bb ≤ q) hs hA
    exact ⟨adK, adV, h1, fun i hi => vk_R.of (hts _ (pm_wrd i hi)) (h2 i hi)⟩
/-- the law's four texts -/
def ltK (i : Nat) : Nat := [76, 91, 96, 98].getD i 0
def ltT (i : Nat) : String := ["room ", ";hair ", ";bulb ", ";humidity "].getD i ""
def ltL (i : Nat) : List Int32 := [roomT, hairT, bulbT, humT].getD i []
def tmL (i : Nat) : Term := Term.string RL (ltK i)
theorem pl_ex : ∀ i, i < 4 → Cond.exactly (tmL i) "java/lang/String" ∈ pmL ∧ Cond.eq (.field (tmL i) "java/lang/String" "coder" "B") (.int 0) ∈ pmL ∧ Cond.arrayOf (.field (tmL i) "java/lang/String" "value" "[B") .byte ∈ pmL ∧ Cond.eq (.length (.field (tmL i) "java/lang/String" "value" "[B")) (.int (Int32.ofNat (ltL i).length)) ∈ pmL ∧ Cond.stringRef RL (ltK i) (ltT i) ∈ lw_tb6 := by decide +kernel
theorem pl_el : ∀ i, i < 4 → ∀ j, j < (ltL i).length → Cond.eq (.elem (.field (tmL i) "java/lang/String" "value" "[B") (.int (Int32.ofNat j))) (.int ((ltL i).getD j 0)) ∈ pmL := by
  intro i hi
  have : i = 0 ∨ i = 1 ∨ i = 2 ∨ i = 3 := by omega
  rcases this with rfl | rfl | rfl | rfl
  · exact pm_blk (k := 990) (n := 5) (g := fun j => Cond.eq (.elem (.field (tmL 0) "java/lang/String" "value" "[B") (.int (Int32.ofNat j))) (.int ((ltL 0).getD j 0))) (by decide +kernel)
  · exact pm_blk (k := 999) (n := 6) (g := fun j => Cond.eq (.elem (.field (tmL 1) "java/lang/String" "value" "[B") (.int (Int32.ofNat j))) (.int ((ltL 1).getD j 0))) (by decide +kernel)
  · exact pm_blk (k := 1009) (n := 6) (g := fun j => Cond.eq (.elem (.field (tmL 2) "java/lang/String" "value" "[B") (.int (Int32.ofNat j))) (.int ((ltL 2).getD j 0))) (by decide +kernel)
  · exact pm_blk (k := 1019) (n := 10) (g := fun j => Cond.eq (.elem (.field (tmL 3) "java/lang/String" "value" "[B") (.int (Int32.ofNat j))) (.int ((ltL 3).getD j 0))) (by decide +kernel)
theorem pd_1 : ∀ j, j < 100 → Cond.eq (.elem (Term.static "java/lang/Integer" "DigitOnes" "[B") (.int (Int32.ofNat j))) (.int (dgO j)) ∈ pmL := pm_blk (k := 21) (n := 100) (g := fun j => Cond.eq (.elem (Term.static "java/lang/Integer" "DigitOnes" "[B") (.int (Int32.ofNat j))) (.int (dgO j))) (by decide +kernel)
theorem pd_2 : ∀ j, j < 100 → Cond.eq (.elem (Term.static "java/lang/Integer" "DigitTens" "[B") (.int (Int32.ofNat j))) (.int (dgT j)) ∈ pmL := pm_blk (k := 124) (n := 100) (g := fun j => Cond.eq (.elem (Term.static "java/lang/Integer" "DigitTens" "[B") (.int (Int32.ofNat j))) (.int (dgT j))) (by decide +kernel)
theorem st_txt {A : Nat → Prop} (hts : ∀ w ∈ lw_tb6, w.before #[Value.ref b] s = true) (hs : ∀ w ∈ pmL, w.before #[Value.ref b] s = true) (hA : ∀ a : Nat, a < s.heap.size → ¬ A a) {i : Nat} (hi : i < 4) : ∃ a, vk_R RL (ltK i) (ltT i) a s ∧ TX A a (ltL i) s := by
  obtain ⟨e1, e2, e3, e4, e5⟩ := pl_ex i hi
  have h31 : ∀ i, i < 4 → (ltL i).length < 2 ^ 31 := by decide +kernel
  obtain ⟨a, c, cA, kA, q1, -⟩ := Cond.exactly_spec (args := #[Value.ref b]) (first := s) (o := none) (s := s) (idx := []) (t := tmL i) (cls := "java/lang/String") (hs _ e1)
  obtain ⟨t, ht, hT⟩ := va_Tof (f := fun j => .int ((ltL i).getD j 0)) (A := A) (h31 i hi) (hs _ e3) (va_eqt (hs _ e4)) (fun j hj => va_eqt (hs _ (pl_el i hi j hj))) hA
  exact ⟨a, vk_R.of (hts _ e5) q1, t, va_Oof (hs _ e1) q1 hA, vk_OFof q1 (va_eqt (hs _ e2)) hA, vk_OFof q1 ht hA, hT⟩
theorem st_sj {bb : Nat} (hbb : bb = s.heap.size) (hts : ∀ w ∈ lw_tb6, w.before #[Value.ref b] s = true) (hs : ∀ w ∈ pmL, w.before #[Value.ref b] s = true) : SJ (fr bb) s ∧ ∃ aR aH aB aU, VR aR aH aB aU s ∧ TXs (fr bb) (rtx aR aH aB aU) s := by
  have hA : ∀ a : Nat, a < s.heap.size → ¬ (fr bb) a := fun a h h2 => by
    have h2 : bb ≤ a := h2
    omega
  refine ⟨⟨va_Zof (hts _ (by decide +kernel)) (hts (.initialized "java/lang/String") (by decide +kernel)) (va_eqt (hs _ (by decide +kernel))) hA, ?_, ?_, va_Zqof (hts _ (by decide +kernel)) (hts (.initialized "jdk/internal/util/Preconditions") (by decide +kernel)) (hs _ (by decide +kernel)) hA, va_Nw.of rfl (hts _ (by decide +kernel)), fun q hq => by show bb ≤ q; omega⟩, ?_⟩
  · obtain ⟨t, ht, hT⟩ := va_Tof (tm := Term.static "java/lang/Integer" "DigitOnes" "[B") (ty := .byte) (N := 100) (f := fun j => .int (dgO j)) (A := fr bb) (by decide) (hs _ (by decide +kernel)) (va_eqt (hs _ (by decide +kernel))) (fun j hj => va_eqt (hs _ (pd_1 j hj))) hA
    exact ⟨t, va_Zof (hts _ (by decide +kernel)) (hts (.initialized "java/lang/Integer") (by decide +kernel)) ht hA, hT⟩
  · obtain ⟨t, ht, hT⟩ := va_Tof (tm := Term.static "java/lang/Integer" "DigitTens" "[B") (ty := .byte) (N := 100) (f := fun j => .int (dgT j)) (A := fr bb) (by decide) (hs _ (by decide +kernel)) (va_eqt (hs _ (by decide +kernel))) (fun j hj => va_eqt (hs _ (pd_2 j hj))) hA
    exact ⟨t, va_Zof (hts _ (by decide +kernel)) (hts (.initialized "java/lang/Integer") (by decide +kernel)) ht hA, hT⟩
  · obtain ⟨aR, r1, t1⟩ := st_txt (A := fr bb) hts hs hA (show 0 < 4 by decide)
    obtain ⟨aH, r2, t2⟩ := st_txt (A := fr bb) hts hs hA (show 1 < 4 by decide)
    obtain ⟨aB, r3, t3⟩ := st_txt (A := fr bb) hts hs hA (show 2 < 4 by decide)
    obtain ⟨aU, r4, t4⟩ := st_txt (A := fr bb) hts hs hA (show 3 < 4 by decide)
    refine ⟨aR, aH, aB, aU, ⟨r1, r2, r3, r4⟩, fun q hq => ?_⟩
    simp only [List.mem_cons, List.not_mem_nil, or_false] at hq
    rcases hq with rfl | rfl | rfl | rfl
    · exact t1
    · exact t2
    · exact t3
    · exact t4
end START
