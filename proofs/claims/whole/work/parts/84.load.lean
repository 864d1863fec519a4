/-! append, load -/
theorem put_step {x v : Int32} {k j : Nat} {M : Mem} (hv : ¬ v < 0) (h : M 10 1 = nI j) (hj : j < 600) : LX6_put_3g x (k + 1) M v = LX6_put_3g x k (mU (mU M 11 j ((x >>> (v &&& 31)).toInt8.toInt32).toInt8.toInt32) 10 1 (nI (j + 1))) (v + (-8)) := by
  rw [LX6_put_3g, if_neg hv, if_neg (by rw [h, show (600 : Int32) = nI 600 from rfl, nI_leI (by omega) (by omega)]; omega), mU_ne (M := M) (o := 11) (p := 10) _ _ (by decide), h, nI_clamp (by omega), nI_1]
theorem put_rel {M N : Mem} {n : Nat} (hn : n + 4 ≤ 600) (h1 : M 10 1 = nI n) (h2 : N 124 10 = nI n) (hb : ∀ j, j < n → M 11 j = N 131 j) (x : Int32) :
    gX6_put M x 10 1 = nI (n + 4) ∧ gX8_feeds N x 124 10 = nI (n + 4) ∧ (∀ j, j < n + 4 → gX6_put M x 11 j = gX8_feeds N x 131 j) ∧ (∀ p, p ≠ 10 → p ≠ 11 → gX6_put M x p = M p) ∧ (∀ p, p ≠ 124 → p ≠ 131 → gX8_feeds N x p = N p) ∧ ∀ i, i ≠ 10 → gX8_feeds N x 124 i = N 124 i := by
  have e1 : gX6_put M x = mU (mU (mU (mU (mU (mU (mU (mU M 11 n ((x >>> ((24 : Int32) &&& 31)).toInt8.toInt32).toInt8.toInt32) 10 1 (nI (n + 1))) 11 (n + 1) ((x >>> ((16 : Int32) &&& 31)).toInt8.toInt32).toInt8.toInt32) 10 1 (nI (n + 2))) 11 (n + 2) ((x >>> ((8 : Int32) &&& 31)).toInt8.toInt32).toInt8.toInt32) 10 1 (nI (n + 3))) 11 (n + 3) x.toInt8.toInt32.toInt8.toInt32) 10 1 (nI (n + 4)) := by
    unfold gX6_put
    rw [put_step (j := n) (by decide) h1 (by omega), show (24 : Int32) + (-8) = 16 from rfl, put_step (j := n + 1) (by decide) (mu_same _ _ _ _) (by omega), show (16 : Int32) + (-8) = 8 from rfl, put_step (j := n + 2) (by decide) (mu_same _ _ _ _) (by omega), show (8 : Int32) + (-8) = 0 from rfl, put_step (j := n + 3) (by decide) (mu_same _ _ _ _) (by omega), show (0 : Int32) + (-8) = -8 from rfl, LX6_put_3g, if_pos (by decide)]
    rw [show x >>> ((0 : Int32) &&& 31) = x from by rw [show (0 : Int32) &&& 31 = 0 from rfl]; exact Int32.shiftRight_zero]
  have e2 : gX8_feeds N x = mU (mU (mU (mU (mU N 131 n ((x >>> ((24 : Int32) &&& 31)).toInt8.toInt32).toInt8.toInt32) 131 (n + 1) ((x >>> ((16 : Int32) &&& 31)).toInt8.toInt32).toInt8.toInt32) 131 (n + 2) ((x >>> ((8 : Int32) &&& 31)).toInt8.toInt32).toInt8.toInt32) 131 (n + 3) x.toInt8.toInt32.toInt8.toInt32) 124 10 (nI (n + 4)) := by
    unfold gX8_feeds
    rw [LX8_feeds_59g, show (N 124 10).toNatClampNeg = n by rw [h2, nI_clamp (by omega)]]
    rw [mU_ne (p := 124) _ _ _ (by decide), mU_ne (p := 124) _ _ _ (by decide), mU_ne (p := 124) _ _ _ (by decide), mU_ne (p := 124) _ _ _ (by decide), h2, nI_clamp (show n < 2 ^ 31 by omega)]
  rw [e1, e2]
  refine ⟨mu_same _ _ _ _, mu_same _ _ _ _, fun j hj => ?_, fun p a b => ?_, fun p a b => ?_, fun i a => ?_⟩
  · rw [mU_ne (p := 131) _ _ _ (by decide), mU_ne (p := 11) _ _ _ (by decide)]
    by_cases c3 : j = n + 3
    · rw [c3, mu_same, mu_same]
    · rw [mU_row c3, mU_row c3, mU_ne (p := 11) _ _ _ (by decide)]
      by_cases c2 : j = n + 2
      · rw [c2, mu_same, mu_same]
      · rw [mU_row c2, mU_row c2, mU_ne (p := 11) _ _ _ (by decide)]
        by_cases c1 : j = n + 1
        · rw [c1, mu_same, mu_same]
        · rw [mU_row c1, mU_row c1, mU_ne (p := 11) _ _ _ (by decide)]
          by_cases c0 : j = n
          · rw [c0, mu_same, mu_same]
          · rw [mU_row c0, mU_row c0]
            exact hb j (by omega)
  · rw [mU_ne _ _ _ a, mU_ne _ _ _ b, mU_ne _ _ _ a, mU_ne _ _ _ b, mU_ne _ _ _ a, mU_ne _ _ _ b, mU_ne _ _ _ a, mU_ne _ _ _ b]
  · rw [mU_ne _ _ _ a, mU_ne _ _ _ b, mU_ne _ _ _ b, mU_ne _ _ _ b, mU_ne _ _ _ b]
  · rw [mU_row a, mU_ne _ _ _ (by decide), mU_ne _ _ _ (by decide), mU_ne _ _ _ (by decide), mU_ne _ _ _ (by decide)]
/-- the input alone changes -/
theorem gc_in {M M' N N' : Mem} {c K p : Nat} (h : Gc M N c K p) (hm : ∀ o, o ≠ 10 → o ≠ 11 → M' o = M o) (hp : ∀ q, q ≠ 124 → q ≠ 131 → N' q = N q) (h4 : ∀ j, j ≠ 2 → j ≠ 10 → N' 124 j = N 124 j) (hi : IN M' N') : Gc M' N' c K p := by
  obtain ⟨h1, h2, h3, h5, -, ⟨ea, eb⟩, ⟨w, w6, wa, wb, wc⟩, ⟨i1, i2, i3⟩⟩ := h
  refine ⟨rb_ext (fun o _ ho => hm o (by omega) (by omega)) (hp 125 (by decide) (by decide)) (hp 127 (by decide) (by decide)) h1, hr_frame h2 (fun o _ ho => hm o (by omega) (by omega)) (h4 6 (by decide) (by decide)) (hp 129 (by decide) (by decide)), sl_frame h3 (fun o _ ho => hm o (by omega) (by omega)) (h4 8 (by decide) (by decide)) (hp 130 (by decide) (by decide)), keys_row (hp 126 (by decide) (by decide)) h5, hi, ⟨?_, ?_⟩, ⟨w, w6, ?_, ?_, ?_⟩, cnt_row (hm 12 (by decide) (by decide)) i1, fun i hi => cnt_row (hm _ (by omega) (by omega)) (i2 i hi), fun i hi => cnt_row (hm _ (by omega) (by omega)) (i3 i hi)⟩
  · rw [hm 9 (by decide) (by decide), h4 13 (by decide) (by decide)]; exact ea
  · rw [hm 9 (by decide) (by decide), h4 14 (by decide) (by decide)]; exact eb
  · rw [hm 121 (by decide) (by decide)]; exact wa
  · rw [h4 12 (by decide) (by decide)]; exact wb
  · rw [hm 122 (by decide) (by decide), hp 132 (by decide) (by decide)]; exact wc
theorem rel_append {M N : Mem} (h : G M N) (p1 p2 p3 p4 p5 : Int32) : RES M N (gX7_append M p1 p2 p3 p4 p5) (gX8_append N p1 p2 p3 p4 p5) [3] (tX7_append M p1 p2 p3 p4 p5) (fX7_append M p1 p2 p3 p4 p5) (fX8_append N p1 p2 p3 p4 p5) := by
  obtain ⟨c, K, p, hg⟩ := id h
  obtain ⟨n, n6, na, nb, nc⟩ := hg.2.2.2.2.1
  unfold gX7_append gX8_append tX7_append fX7_append fX8_append
  rw [na, nb]
  by_cases hc : nI n ≤ 580
  · have hn : n ≤ 580 := by rw [show (580 : Int32) = nI 580 from rfl, nI_leI (by omega) (by omega)] at hc; exact hc
    rw [if_pos hc, if_pos hc, if_pos hc, if_pos hc, if_pos hc]
    obtain ⟨a1, a2, a3, a4, a5, a6⟩ := put_rel (by omega) na nb nc p1
    obtain ⟨b1, b2, b3, b4, b5, b6⟩ := put_rel (by omega) a1 a2 a3 p2
    obtain ⟨c1, c2, c3, c4, c5, c6⟩ := put_rel (by omega) b1 b2 b3 p3
    obtain ⟨d1, d2, d3, d4, d5, d6⟩ := put_rel (by omega) c1 c2 c3 p4
    obtain ⟨e1, e2, e3, e4, e5, e6⟩ := put_rel (by omega) d1 d2 d3 p5
    have hm : ∀ o, o ≠ 10 → o ≠ 11 → gX6_put (gX6_put (gX6_put (gX6_put (gX6_put M p1) p2) p3) p4) p5 o = M o := fun o x y => by rw [e4 o x y, d4 o x y, c4 o x y, b4 o x y, a4 o x y]
    have hp : ∀ q, q ≠ 124 → q ≠ 131 → gX8_feeds (gX8_feeds (gX8_feeds (gX8_feeds (gX8_feeds N p1) p2) p3) p4) p5 q = N q := fun q x y => by rw [e5 q x y, d5 q x y, c5 q x y, b5 q x y, a5 q x y]
    unfold gX8_told fX8_told
    refine ⟨⟨c, K, p, gc_in hg hm (fun q x y => by rw [mU_ne _ _ _ x, hp q x y]) (fun j x y => by rw [mU_row x, e6 j y, d6 j y, c6 j y, b6 j y, a6 j y]) ⟨n + 4 + 4 + 4 + 4 + 4, by omega, e1, by rw [mU_row (by decide)]; exact e2, fun j hj => by rw [mU_ne _ _ _ (by decide)]; exact e3 j hj⟩⟩, mu_same _ _ _ _, fun _ => by rw [e1, e2], fun q hq => hm q (by omega) (by omega), fun o ho => by rw [mU_ne _ _ _ (by omega), hp o (by omega) (by omega)]⟩
  · rw [if_neg hc, if_neg hc, if_neg hc, if_neg hc, if_neg hc]
    exact RES.no h rfl rfl (by decide)
/-! what a description leaves as it was -/
def PF (M M' : Mem) : Prop := ∀ p, p ≠ 9 → p ≠ 10 → (p < 12 ∨ 20 ≤ p) → M' p = M p
theorem PF.refl (M : Mem) : PF M M := fun _ _ _ _ => rfl
theorem PF.trans {M M1 M2 : Mem} (h : PF M M1) (h2 : PF M1 M2) : PF M M2 := fun p a b c => (h2 p a b c).trans (h p a b c)
theorem pf_put {M : Mem} {o k : Nat} {v : Int32} (h : 12 ≤ o ∧ o < 20) : PF M (mU M o k v) := fun p _ _ _ => mU_ne _ _ _ (by omega)
theorem pf_rf {M M' : Mem} (h : RF 12 M M') : PF M M' := fun p _ _ c => h p (by omega)
theorem pf_fl (M : Mem) (x : Int32) : PF M (gX3_fail M x) := fun p a _ _ => fl_sr M x p a
theorem pf_tk (M : Mem) (x y : Int32) : PF M (gX3_takeNumber M x y) := fun p a b _ => tk_sr M x y a b
theorem pf_nx (M : Mem) : PF M (gX6_next M) := fun p _ b _ => nx_sr M p b
theorem pf_ite {c : Prop} [Decidable c] {M A B : Mem} (ha : PF M A) (hb : PF M B) : PF M (if c then A else B) := by split <;> assumption
theorem find_rng {M : Mem} {o : Nat} {x : Int32} (hc : CNT M 12) (h : fX4_find M 12 x = some o) : 12 ≤ o ∧ o < 20 := by
  unfold fX4_find at h
  split at h
  · exact absurd h (by simp)
  · split at h
    · exact absurd h (by simp)
    · rename_i h0 h1
      obtain ⟨k, hk, ek⟩ := hc
      rw [ek] at h1
      have hx0 := Int32.le_iff_toInt_le.mp (Int32.not_lt.mp h0)
      rw [show (0 : Int32).toInt = 0 from rfl] at hx0
      have hlt := Int32.lt_iff_toInt_lt.mp (Int32.not_le.mp h1)
      rw [sm_nI (by omega)] at hlt
      have hkx : x = nI x.toInt.toNat := Int32.toInt_inj.mp (by rw [sm_nI (by omega)]; omega)
      have hcl : x.toNatClampNeg = x.toInt.toNat := by rw [hkx, nI_clamp (by omega), ← hkx]
      have := Option.some.inj h
      rw [hcl] at this
      omega
theorem ti_rng {M : Mem} {o : Nat} (hc : CNT M 12) (h : fX3_takeInstrument M = some o) : 12 ≤ o ∧ o < 20 := find_rng (M := gX3_takeNumber M 0 (M 12 1 - 1)) (tk_cnt (by decide) (by decide) hc) h
theorem pf_hair {M : Mem} (h : RD M) : PF M (gX3_readHair M) := by
  unfold gX3_readHair
  have a := fun (A : Mem) (ha : RD A) (hA : PF M A) => pf_ite (c := gX3_takeNumber A 1 20 9 2 = 0) (hA.trans ((pf_tk A 1 20).trans (pf_rf (newHair_rf (x := fX3_takeNumber A 1 20) (rd_tk ha).2)))) (hA.trans (pf_tk A 1 20))
  exact pf_ite (a _ (rd_fl h) (pf_fl M 4)) (a _ h (PF.refl M))
theorem pf_bulb {M : Mem} (h : RD M) : PF M (gX3_readBulb M) := by
  unfold gX3_readBulb
  have a := fun (A : Mem) (ha : RD A) (hA : PF M A) => pf_ite (c := gX3_takeNumber A 0 60 9 2 = 0) (hA.trans ((pf_tk A 0 60).trans (pf_rf (newBulb_rf (x := fX3_takeNumber A 0 60) (rd_tk ha).2)))) (hA.trans (pf_tk A 0 60))
  exact pf_ite (a _ (rd_fl h) (pf_fl M 4)) (a _ h (PF.refl M))
theorem pf_hum (M : Mem) : PF M (gX3_readHumidity M) := by
  unfold gX3_readHumidity
  exact pf_ite ((pf_tk M 0 100).trans (pf_put (by decide))) (pf_tk M 0 100)
theorem pf_min {M : Mem} (h : RD M) : PF M (gX3_readMinutes M) := by
  unfold gX3_readMinutes
  exact pf_ite ((pf_tk M _ _).trans (pf_rf (pass_rf (rd_tk h).2))) (pf_tk M _ _)
theorem pf_box {M : Mem} {o : Nat} (ho : 12 ≤ o ∧ o < 20) : PF M (gX3_readBox M o) := by
  unfold gX3_readBox
  exact pf_ite (pf_ite ((pf_tk M _ _).trans (pf_put ho)) (pf_tk M _ _)) (pf_ite (((pf_fl M 5).trans (pf_tk _ _ _)).trans (pf_put ho)) ((pf_fl M 5).trans (pf_tk _ _ _)))
theorem pf_out {M : Mem} {o : Nat} (ho : 12 ≤ o ∧ o < 20) : PF M (gX3_readOut M o) := by
  unfold gX3_readOut
  exact pf_ite (pf_fl M 5) (pf_put ho)
theorem pf_tig {M : Mem} {o : Nat} (ho : 12 ≤ o ∧ o < 20) : PF M (gX3_readTighten M o) := by
  unfold gX3_readTighten
  exact pf_ite (pf_fl M 3) (pf_ite (pf_fl M 5) (fun p a b c => gX1_tightenSpring_ne (by omega)))
theorem pf_moi {M : Mem} {o : Nat} (ho : 12 ≤ o ∧ o < 20) : PF M (gX3_readMoisten M o) := by
  unfold gX3_readMoisten
  exact pf_ite (pf_put ho) (pf_fl M 3)
theorem pf_line {M : Mem} (h : RD M) : PF M (gX3_readLine M) := by
  have hn := rd_nx h
  have i := fun (f : Mem → Nat → Mem) (hf : ∀ o, (12 ≤ o ∧ o < 20) → PF (gX3_takeInstrument (gX6_next M)) (f (gX3_takeInstrument (gX6_next M)) o)) => show PF M (match fX3_takeInstrument (gX6_next M) with | none => gX3_takeInstrument (gX6_next M) | some o => f (gX3_takeInstrument (gX6_next M)) o) from by
    cases e : fX3_takeInstrument (gX6_next M) with
    | none => exact (pf_nx M).trans (pf_tk _ _ _)
    | some o => exact ((pf_nx M).trans (pf_tk _ _ _)).trans (hf o (ti_rng hn.2 e))
  unfold gX3_readLine
  refine pf_ite (pf_ite (pf_ite (pf_ite (pf_ite (pf_ite (pf_ite (pf_ite ?_ ?_) ?_) ?_) ?_) ?_) ?_) ?_) ?_
  · exact (pf_nx M).trans (pf_fl _ _)
  · exact (pf_nx M).trans (pf_min hn)
  · exact (pf_nx M).trans (pf_hum _)
  · exact i gX3_readMoisten (fun o ho => pf_moi ho)
  · exact i gX3_readTighten (fun o ho => pf_tig ho)
  · exact i gX3_readOut (fun o ho => pf_out ho)
  · exact i gX3_readBox (fun o ho => pf_box ho)
  · exact (pf_nx M).trans (pf_bulb hn)
  · exact (pf_nx M).trans (pf_hair hn)
theorem pf_head {M : Mem} (h : RD M) : PF M (gX3_readHead M) := by
  have t := fun (A : Mem) (x y z : Int32) => pf_ite (c := gX3_takeNumber (gX3_takeNumber (gX3_takeNumber A 0 100) 0 40) 0 5 9 2 = 0) ((((pf_tk A 0 100).trans (pf_tk _ 0 40)).trans (pf_tk _ 0 5)).trans (pf_rf (begin_rf _ 12 x y z))) (((pf_tk A 0 100).trans (pf_tk _ 0 40)).trans (pf_tk _ 0 5))
  unfold gX3_readHead
  exact pf_ite (((pf_nx M).trans (pf_fl _ 1)).trans (t _ _ _ _)) ((pf_nx M).trans (t _ _ _ _))
theorem pf_parse24 (x : Int32) : ∀ (k : Nat) (M : Mem) (j : Nat), RD M → PF M (LX3_parse_24g x k M j) := by
  intro k
  induction k with
  | zero => intro M j _; exact PF.refl M
  | succ k ih =>
    intro M j h
    have z : ∀ A : Mem, PF A (mU A 10 1 0) := fun A p _ b _ => mU_ne _ _ _ b
    rw [LX3_parse_24g]
    exact pf_ite (z M) (pf_ite (pf_ite ((pf_nx M).trans (z _)) (pf_ite (((pf_nx M).trans (pf_line (rd_nx h))).trans (ih _ _ (rd_line (rd_nx h)))) (((pf_nx M).trans (pf_fl _ 1)).trans (ih _ _ (rd_fl (rd_nx h)))))) (z M))
theorem pf_parse {M : Mem} {x : Int32} (hx : UB x 600) (hf : TF M) (hc : CNT M 12) : PF M (gX3_parse M x) := by
  unfold gX3_parse
  have hb : RD (gX6_begin (mU (mU M 9 2 0) 9 3 (-1)) x) := rd_beg hx (by unfold TF; rw [mU_ne _ _ _ (by decide), mU_ne _ _ _ (by decide)]; exact hf) (cnt_row (by rw [mU_ne _ _ _ (by decide), mU_ne _ _ _ (by decide)]) hc)
  have h0 : PF M (gX6_begin (mU (mU M 9 2 0) 9 3 (-1)) x) := fun p a b _ => by
    unfold gX6_begin
    rw [mU_ne _ _ _ b, mU_ne _ _ _ b, mU_ne _ _ _ b, mU_ne _ _ _ b, mU_ne _ _ _ a, mU_ne _ _ _ a]
  exact (h0.trans (pf_head hb)).trans (pf_parse24 x 602 _ 0 (rd_head hb))
/-! .. in the reference -/
def RG (N N' : Mem) : Prop := (∀ p, p ≠ 124 → p ≠ 127 → N' p = N p) ∧ ∀ j, j < 15 → N' 124 j = N 124 j
theorem RG.refl (N : Mem) : RG N N := ⟨fun _ _ _ => rfl, fun _ _ => rfl⟩
theorem RG.trans {N N1 N2 : Mem} (h : RG N N1) (h2 : RG N1 N2) : RG N N2 := ⟨fun p a b => (h2.1 p a b).trans (h.1 p a b), fun j hj => (h2.2 j hj).trans (h.2 j hj)⟩
theorem rg_nr {N N' : Mem} (h : NR N N') : RG N N' := ⟨fun p a _ => h.1 p a, h.2⟩
theorem rg_127 {N N' : Mem} (h : ∀ p, p ≠ 127 → N' p = N p) : RG N N' := ⟨fun p _ b => h p b, fun j _ => by rw [h 124 (by decide)]⟩
theorem rg_put (N : Mem) (i : Nat) (v : Int32) : RG N (mU N 127 i v) := rg_127 (fun p hp => mU_ne _ _ _ hp)
theorem rg_ite {c : Prop} [Decidable c] {M A B : Mem} (ha : RG M A) (hb : RG M B) : RG M (if c then A else B) := by split <;> assumption
theorem rg_nx (N : Mem) : RG N (gX8_next N) := rg_nr (nr_nx N)
theorem rg_er (N : Mem) (x : Int32) : RG N (gX8_errs N x) := rg_nr (nr_er N x)
theorem rg_tn (N : Mem) (x y : Int32) : RG N (gX8_takesNumber N x y) := rg_nr (nr_tn N x y)
theorem rg_go (N : Mem) : RG N (gX8_goesOn N) := rg_nr (nr_go N)
theorem rg_ni (N : Mem) : RG N (gX8_instrumentHere (gX8_next N)) := (rg_nx N).trans (rg_nr (nr_ih _))
theorem rg_rhair (N : Mem) : RG N (gX8_readsHair N) := by
  unfold gX8_readsHair
  exact rg_ite (rg_nr (nr_hr N)) (rg_ite (((rg_nr (nr_hr N)).trans (rg_tn _ _ _)).trans (rg_127 (fun p hp => hh_ne hp))) ((rg_nr (nr_hr N)).trans (rg_tn _ _ _)))
theorem rg_rbulb (N : Mem) : RG N (gX8_readsBulb N) := by
  unfold gX8_readsBulb
  exact rg_ite (rg_nr (nr_hr N)) (rg_ite (((rg_nr (nr_hr N)).trans (rg_tn _ _ _)).trans (rg_127 (fun p hp => hb_ne hp))) ((rg_nr (nr_hr N)).trans (rg_tn _ _ _)))
theorem rg_box29 (N : Mem) (v : Int32) : RG N (LX8_readsBox_29g 1 N v) := by
  rw [LX8_readsBox_29g]
  exact rg_ite (((rg_go N).trans (rg_tn _ _ _)).trans (rg_put _ _ _)) ((rg_go N).trans (rg_tn _ _ _))
theorem rg_rbox (N : Mem) : RG N (gX8_readsBox N) := by
  unfold gX8_readsBox
  exact rg_ite (rg_ite ((rg_ni N).trans (rg_box29 _ _)) (((rg_ni N).trans (rg_er _ _)).trans (rg_box29 _ _))) ((rg_ni N).trans (rg_box29 _ _))
theorem rg_out29 (N : Mem) (v : Int32) : RG N (LX8_readsOut_29g 1 N v) := by
  rw [LX8_readsOut_29g]
  exact rg_ite ((rg_put N _ _).trans (rg_nx _)) (RG.refl N)
theorem rg_rout (N : Mem) : RG N (gX8_readsOut N) := by
  unfold gX8_readsOut
  exact rg_ite (rg_ite (((rg_ni N).trans (rg_er _ _)).trans (rg_out29 _ _)) ((rg_ni N).trans (rg_out29 _ _))) ((rg_ni N).trans (rg_out29 _ _))
theorem rg_tig55 (N : Mem) (v : Int32) : RG N (LX8_readsTighten_55g 1 N v) := by
  rw [LX8_readsTighten_55g]
  exact rg_ite ((rg_127 (fun p hp => ti_ne hp)).trans (rg_nx _)) (RG.refl N)
theorem rg_tig29 (N : Mem) (v : Int32) : RG N (LX8_readsTighten_29g 1 N v) := by
  rw [LX8_readsTighten_29g]
  exact rg_ite (rg_ite ((rg_er N _).trans (rg_tig55 _ _)) (rg_tig55 N _)) (rg_tig55 N _)
theorem rg_rtig (N : Mem) : RG N (gX8_readsTighten N) := by
  unfold gX8_readsTighten
  exact rg_ite (rg_ite (((rg_ni N).trans (rg_er _ _)).trans (rg_tig29 _ _)) ((rg_ni N).trans (rg_tig29 _ _))) ((rg_ni N).trans (rg_tig29 _ _))
theorem rg_moi29 (N : Mem) (v : Int32) : RG N (LX8_readsMoisten_29g 1 N v) := by
  rw [LX8_readsMoisten_29g]
  exact rg_ite ((rg_127 (fun p hp => mo_ne hp)).trans (rg_nx _)) (RG.refl N)
theorem rg_rmoi (N : Mem) : RG N (gX8_readsMoisten N) := by
  unfold gX8_readsMoisten
  exact rg_ite (rg_ite ((rg_ni N).trans (rg_moi29 _ _)) (((rg_ni N).trans (rg_er _ _)).trans (rg_moi29 _ _))) ((rg_ni N).trans (rg_moi29 _ _))
theorem rg_rhum (N : Mem) : RG N (gX8_readsHumidity N) := by
  unfold gX8_readsHumidity
  exact rg_ite (((rg_nx N).trans (rg_tn _ _ _)).trans (rg_put _ _ _)) ((rg_nx N).trans (rg_tn _ _ _))
theorem rg_min24 (N : Mem) (v : Int32) : RG N (LX8_readsMinutes_24g 1 N v) := by
  rw [LX8_readsMinutes_24g]
  exact rg_ite ((rg_tn N _ _).trans (rg_127 (fun p hp => (nk_ps _ _).1 p hp))) (rg_tn N _ _)
theorem rg_rmin (N : Mem) : RG N (gX8_readsMinutes N) := by
  unfold gX8_readsMinutes
  exact rg_ite ((rg_nx N).trans (rg_min24 _ _)) ((rg_nx N).trans (rg_min24 _ _))
theorem rg_line (N : Mem) : RG N (gX8_readsLine N) := by
  unfold gX8_readsLine
  exact rg_ite (rg_ite (rg_ite (rg_ite (rg_ite (rg_ite (rg_ite (rg_ite (rg_er N _) (rg_rmin N)) (rg_rhum N)) (rg_rmoi N)) (rg_rtig N)) (rg_rout N)) (rg_rbox N)) (rg_rbulb N)) (rg_rhair N)
theorem rg_text103 (x : Int32) : ∀ (k : Nat) (N : Mem), RG N (LX8_readsText_103g x k N) := by
  intro k
  induction k with
  | zero => intro N; exact RG.refl N
  | succ k ih =>
    intro N
    rw [LX8_readsText_103g]
    exact rg_ite (rg_ite (RG.refl N) (rg_ite (((rg_nx N).trans (rg_line _)).trans (ih _)) ((rg_er N 1).trans (ih _)))) (RG.refl N)
theorem rg_text65 (x : Int32) (N : Mem) : RG N (LX8_readsText_65g x 1 N) := by
  rw [LX8_readsText_65g]
  exact ((((((rg_tn N _ _).trans (rg_put _ _ _)).trans (rg_tn _ _ _)).trans (rg_put _ _ _)).trans (rg_tn _ _ _)).trans (rg_put _ _ _)).trans (rg_text103 x _ _)
theorem rg_text2 (x : Int32) : ∀ (k : Nat) (N : Mem) (j : Nat), RG N (LX8_readsText_2g x k N j) := by
  intro k
  induction k with
  | zero => intro N j; exact RG.refl N
  | succ k ih =>
    intro N j
    have s0 : RG N (mU (mU (mU (mU N 124 15 x) 124 20 0) 124 16 0) 124 18 0) := rg_nr ((((NR.put (by decide)).trans (NR.put (by decide))).trans (NR.put (by decide))).trans (NR.put (by decide)))
    rw [LX8_readsText_2g]
    exact rg_ite (rg_ite (((s0.trans (rg_nx _)).trans (rg_er _ _)).trans (rg_text65 x _)) (((s0.trans (rg_nx _)).trans (rg_nx _)).trans (rg_text65 x _))) ((rg_put N _ _).trans (ih _ _))
theorem rg_text (N : Mem) (x : Int32) : RG N (gX8_readsText N x) := rg_text2 x _ _ _
theorem forget_rows (M : Mem) : gX5_forget M 104 0 = 0 ∧ gX5_forget M 104 1 = 0 ∧ ∀ p, p ≠ 104 → gX5_forget M p = M p := by
  have e : gX5_forget M = mU (mU M 104 0 0) 104 1 0 := by
    unfold gX5_forget
    rw [LX5_forget_2g, if_neg (by decide), LX5_forget_2g, if_neg (by decide), LX5_forget_2g, if_pos (by decide)]
  rw [e]
  exact ⟨by rw [mU_row (by decide), mu_same], mu_same _ _ _ _, fun p hp => by rw [mU_ne _ _ _ hp, mU_ne _ _ _ hp]⟩
theorem rel_load {M N : Mem} (h : G M N) (x : Int32) : RES M N (gX7_load M x) (gX8_load N x) [1, 2] (tX7_load M x) (fX7_load M x) (fX8_load N x) := by
  obtain ⟨c, K, p, hg⟩ := id h
  obtain ⟨n, n6, na, nb, nc⟩ := hg.2.2.2.2.1
  unfold gX7_load gX8_load tX7_load fX7_load fX8_load
  by_cases h0 : x < 0
  · rw [if_pos h0, if_pos h0, if_pos h0, if_pos (in_no (Or.inl h0)), if_pos (in_no (Or.inl h0))]
    exact RES.no h rfl rfl (by decide)
  · rw [if_neg h0, if_neg h0, if_neg h0, na, nb]
    by_cases h1 : x ≤ nI n
    · rw [if_pos h1, if_pos h1, if_pos h1, if_neg (in_yes h0 h1), if_neg (in_yes h0 h1), LX8_load_27g, LX8_load_27f]
      obtain ⟨e, he, rfl⟩ := rng_ub (a := 0) (b := n) h0 h1 (by omega)
      have htf : TF M := ⟨n, n6, na⟩
      have hxu : UB (nI e) 600 := ⟨e, by omega, rfl⟩
      have hf := parse_rel (M := M) (N := gX8_putsAside N) he n6 na (fun j hj => by rw [pa_ne (by decide)]; exact nc j (by omega)) (pts_row (pa_ne (by decide)) hg.1.1) (keys_row (pa_ne (by decide)) hg.2.2.2.1)
      have hpf := pf_parse hxu htf hg.2.2.2.2.2.2.2.1
      have hpc := parse_cnt hxu htf hg.2.2.2.2.2.2.2.1
      have hrg : ∀ q, q ≠ 124 → q ≠ 127 → q ≠ 128 → gX8_readsText (gX8_putsAside N) (nI e) q = N q := fun q a b d => ((rg_text _ _).1 q a b).trans (pa_ne d)
      have hrg4 : ∀ j, j < 15 → gX8_readsText (gX8_putsAside N) (nI e) 124 j = N 124 j := fun j hj => ((rg_text _ _).2 j hj).trans (by rw [pa_ne (by decide)])
      have h128 : ∀ t, t < 56 → gX8_readsText (gX8_putsAside N) (nI e) 128 t = N 127 t := fun t ht => by
        rw [(rg_text _ _).1 128 (by decide) (by decide)]
        exact (pa_loop 57 N 0 (by decide) (by decide)).1 t (Nat.zero_le _) ht
      obtain ⟨g1, g2, g3, g4⟩ := hf
      generalize gX3_parse M (nI e) = P at *
      generalize gX8_readsText (gX8_putsAside N) (nI e) = T at *
      obtain ⟨q1, q2, q3, q5, -, -, ⟨w, w6, wa, wb, wc⟩, ⟨i1, i2, i3⟩⟩ := hg
      have t20 : mU (mU (mU T 124 10 0) 124 13 (mU T 124 10 0 124 20)) 124 14 (-1) 124 20 = T 124 20 := by rw [mU_row (by decide), mU_row (by decide), mU_row (by decide)]
      have t21 : mU (mU (mU T 124 10 0) 124 13 (mU T 124 10 0 124 20)) 124 14 (-1) 124 21 = T 124 21 := by rw [mU_row (by decide), mU_row (by decide), mU_row (by decide)]
      have t13 : mU T 124 10 0 124 20 = T 124 20 := mU_row (by decide)
      rw [t20, t21, t13, ← g1]
      by_cases hk : P 9 2 = 0
      · rw [if_pos hk, if_pos hk, if_pos hk, if_pos hk, if_pos hk]
        obtain ⟨k3, c2, k4⟩ := g2 hk
        obtain ⟨f0, f1, f2⟩ := forget_rows (gX0_forget (gX4_copyFrom P 1 12))
        have z20 : ∀ p, p ≠ 20 → gX0_forget (gX4_copyFrom P 1 12) p = gX4_copyFrom P 1 12 p := fun p hp => by unfold gX0_forget; rw [mU_ne _ _ _ hp, mU_ne _ _ _ hp]
        have hM : ∀ o, 9 ≤ o → o ≠ 20 → o ≠ 104 → gX5_forget (gX0_forget (gX4_copyFrom P 1 12)) o = P o := fun o a b d => by rw [f2 o d, z20 o b]; exact copy_rf k4.2.cnt o (by omega)
        unfold gX8_told fX8_told
        generalize hN5 : mU (mU (mU (mU (mU T 124 10 0) 124 13 (P 9 2)) 124 14 (-1)) 124 6 0) 124 8 0 = N5
        have n5 : ∀ q, q ≠ 124 → N5 q = T q := fun q hq => by rw [← hN5, mU_ne _ _ _ hq, mU_ne _ _ _ hq, mU_ne _ _ _ hq, mU_ne _ _ _ hq, mU_ne _ _ _ hq]
        have hcp : RQ (gX4_copyFrom P 1 12) 1 (T 127) c2 := rq_copy (Or.inr (by decide)) k4.2
        have hrb : RB (gX5_forget (gX0_forget (gX4_copyFrom P 1 12))) (mU N5 124 2 0) 1 c2 := ⟨pts_row (by rw [mU_ne _ _ _ (by decide), n5 125 (by decide)]) k4.1, rq_ext (fun o a b => by rw [f2 o (by omega), z20 o (by omega)]) (fun t _ => by rw [mU_ne _ _ _ (by decide), n5 127 (by decide)]) hcp⟩
        refine ⟨⟨c2, 0, 0, hrb, ⟨by decide, by decide, ?_, ?_, ?_, fun i hi => by omega⟩, ⟨Or.inl f0, Or.inl f1, ?_, fun i hi hne => ?_⟩, keys_row (by rw [mU_ne _ _ _ (by decide), n5 126 (by decide), hrg 126 (by decide) (by decide) (by decide)]) q5, ⟨0, by decide, ?_, ?_, fun j hj => by omega⟩, ⟨?_, ?_⟩, ⟨w, w6, ?_, ?_, ?_⟩, ?_, fun i hi => ?_, fun i hi => ?_⟩, mu_same _ _ _ _, fun _ => ?_, fun q hq => ?_, fun o ho => ?_⟩
        · rw [f2 20 (by decide)]; unfold gX0_forget; rw [mU_row (by decide), mu_same]; rfl
        · rw [f2 20 (by decide)]; unfold gX0_forget; rw [mu_same]; rfl
        · rw [mU_row (by decide), ← hN5, mU_row (by decide), mu_same]; rfl
        · rw [f0, f1, mU_row (by decide), ← hN5, mu_same]; rfl
        · exfalso
          rcases (by omega : i = 0 ∨ i = 1) with rfl | rfl
          · exact hne f0
          · exact hne f1
        · rw [hM 10 (by decide) (by decide) (by decide), g4]; rfl
        · rw [mU_row (by decide), ← hN5, mU_row (by decide), mU_row (by decide), mU_row (by decide), mU_row (by decide), mu_same]; rfl
        · rw [hM 9 (by decide) (by decide) (by decide), mU_row (by decide), ← hN5, mU_row (by decide), mU_row (by decide), mU_row (by decide), mu_same]
        · rw [hM 9 (by decide) (by decide) (by decide), mU_row (by decide), ← hN5, mU_row (by decide), mU_row (by decide), mu_same, k3]
        · rw [hM 121 (by decide) (by decide) (by decide), hpf 121 (by decide) (by decide) (by decide)]; exact wa
        · rw [mU_row (by decide), ← hN5, mU_row (by decide), mU_row (by decide), mU_row (by decide), mU_row (by decide), mU_row (by decide), hrg4 12 (by decide)]; exact wb
        · rw [hM 122 (by decide) (by decide) (by decide), hpf 122 (by decide) (by decide) (by decide), mU_ne _ _ _ (by decide), n5 132 (by decide), hrg 132 (by decide) (by decide) (by decide)]; exact wc
        · exact cnt_row (hM 12 (by decide) (by decide) (by decide)) hpc
        · exact cnt_row ((hM _ (by omega) (by omega) (by omega)).trans (hpf _ (by omega) (by omega) (by omega))) (i2 i hi)
        · exact cnt_row ((hM _ (by omega) (by omega) (by omega)).trans (hpf _ (by omega) (by omega) (by omega))) (i3 i hi)
        · have := hrb.2.1.2.2.1.1
          rw [mU_ne (o := 124) (p := 127) _ _ _ (by decide)] at this
          exact this
        · rw [hM q (by omega) (by omega) (by omega), hpf q (by omega) (by omega) (by omega)]
        · rw [mU_ne _ _ _ (by omega), n5 o (by omega), hrg o (by omega) (by omega) (by omega)]
      · rw [if_neg hk, if_neg hk, if_neg hk, if_neg hk, if_neg hk]
        have k3 := g3 hk
        unfold gX8_refuse fX8_refuse
        generalize hN4 : mU (mU (mU (mU T 124 10 0) 124 13 (P 9 2)) 124 14 (-1)) 124 14 (T 124 21) = N4
        have n4 : ∀ q, q ≠ 124 → N4 q = T q := fun q hq => by rw [← hN4, mU_ne _ _ _ hq, mU_ne _ _ _ hq, mU_ne _ _ _ hq, mU_ne _ _ _ hq]
        obtain ⟨b1, b2, b3⟩ := pb_loop 57 N4 0 (by decide) (by decide)
        have pb : gX8_putsBack N4 = LX8_putsBack_2g 57 N4 0 := rfl
        have z : ∀ q, q ≠ 124 → q ≠ 127 → q ≠ 128 → mU (gX8_putsBack N4) 124 2 2 q = N q := fun q a b d => by rw [mU_ne _ _ _ a, pb, b3 q b, n4 q a, hrg q a b d]
        have z4 : ∀ j, j ≠ 2 → mU (gX8_putsBack N4) 124 2 2 124 j = N4 124 j := fun j a => by rw [mU_row a, pb, b3 124 (by decide)]
        have z7 : ∀ t, t < 56 → mU (gX8_putsBack N4) 124 2 2 127 t = N 127 t := fun t ht => by rw [mU_ne _ _ _ (by decide), pb, b1 t (Nat.zero_le _) ht, n4 128 (by decide), h128 t ht]
        refine ⟨⟨c, K, p, ⟨pts_row (z 125 (by decide) (by decide) (by decide)) q1.1, rq_ext (fun o a b => hpf o (by omega) (by omega) (by omega)) z7 q1.2⟩, hr_frame q2 (fun o a b => hpf o (by omega) (by omega) (by omega)) ?_ (z 129 (by decide) (by decide) (by decide)), sl_frame q3 (fun o a b => hpf o (by omega) (by omega) (by omega)) ?_ (z 130 (by decide) (by decide) (by decide)), keys_row (z 126 (by decide) (by decide) (by decide)) q5, ⟨0, by decide, by rw [g4]; rfl, ?_, fun j hj => by omega⟩, ⟨?_, ?_⟩, ⟨w, w6, ?_, ?_, ?_⟩, hpc, fun i hi => cnt_row (hpf _ (by omega) (by omega) (by omega)) (i2 i hi), fun i hi => cnt_row (hpf _ (by omega) (by omega) (by omega)) (i3 i hi)⟩, mu_same _ _ _ _, fun hh => absurd hh (by decide), fun q hq => hpf q (by omega) (by omega) (by omega), fun o ho => z o (by omega) (by omega) (by omega)⟩
        · rw [z4 6 (by decide), ← hN4, mU_row (by decide), mU_row (by decide), mU_row (by decide), mU_row (by decide), hrg4 6 (by decide)]
        · rw [z4 8 (by decide), ← hN4, mU_row (by decide), mU_row (by decide), mU_row (by decide), mU_row (by decide), hrg4 8 (by decide)]
        · rw [z4 10 (by decide), ← hN4, mU_row (by decide), mU_row (by decide), mU_row (by decide), mu_same]; rfl
        · rw [z4 13 (by decide), ← hN4, mU_row (by decide), mU_row (by decide), mu_same]
        · rw [z4 14 (by decide), ← hN4, mu_same]; exact k3
        · rw [hpf 121 (by decide) (by decide) (by decide)]; exact wa
        · rw [z4 12 (by decide), ← hN4, mU_row (by decide), mU_row (by decide), mU_row (by decide), mU_row (by decide), hrg4 12 (by decide)]; exact wb
        · rw [hpf 122 (by decide) (by decide) (by decide), z 132 (by decide) (by decide) (by decide)]; exact wc
    · rw [if_neg h1, if_neg h1, if_neg h1, if_pos (in_no (Or.inr h1)), if_pos (in_no (Or.inr h1))]
      exact RES.no h rfl rfl (by decide)
