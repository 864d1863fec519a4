/-! what the law's own road wants: the sum, taking back, saving, restoring, loading -/
theorem sumL_eq {A B : Mem} {c : Nat} (hc : c ≤ 6) (hA : A 1 1 = nI c) (hB : B 1 1 = nI c) (hr : ∀ k, k < c → RQ (A (1 + 1 + 1 + k)) (B (1 + 1 + 1 + k))) : ∀ (f j : Nat) (v : Int64), j ≤ c → sumL A f v j = sumL B f v j := by
  intro f
  induction f with
  | zero => intro j v _; rfl
  | succ f ih =>
    intro j v hjc
    rw [sumL, sumL, hA, hB]
    by_cases h : nI c ≤ nI j
    · rw [if_pos h, if_pos h]
    · rw [if_neg h, if_neg h]
      have hj : j < 2 ^ 31 := by omega
      have hjc : j < c := by rw [nI_leI (by omega) hj] at h; omega
      obtain ⟨q0, qi⟩ := hr j hjc
      have e : sumStep A v j = sumStep B v j := by
        unfold sumStep fX7_hairsOf fX7_brokenOf fX7_wetnessOf fX7_slackOf fX7_waterOf fX7_zeroOf fX7_boxOf
        rw [nI_clamp hj, q0, qi 1 (by decide) (by decide), qi 3 (by decide) (by decide), qi 4 (by decide) (by decide), qi 5 (by decide) (by decide), qi 6 (by decide) (by decide), qi 7 (by decide) (by decide), qi 8 (by decide) (by decide)]
      rw [e, ih _ _ (by omega)]
theorem sum_rmq {A B : Mem} {c : Nat} (hc : c ≤ 6) (hB : B 1 1 = nI c) (h : RMQ A 1 B 1 c) : sumF A = sumF B := by
  obtain ⟨hh, hr⟩ := h
  have hA : A 1 1 = nI c := (hh 1 (by decide) (by decide)).trans hB
  have e : sumHead A = sumHead B := by
    unfold sumHead fX7_minute fX7_humidity fX7_temperature fX7_skill fX7_hairStock
    rw [hh 2 (by decide) (by decide), hh 3 (by decide) (by decide), hh 4 (by decide) (by decide), hh 5 (by decide) (by decide), hh 6 (by decide) (by decide)]
  unfold sumF
  rw [e]
  exact sumL_eq hc hA hB hr 7 0 _ (Nat.zero_le _)
theorem RMQ.rf (A : Mem) (r c : Nat) : RMQ A r A r c := ⟨fun _ _ _ => rfl, fun _ _ => ⟨rfl, fun _ _ _ => rfl⟩⟩
theorem RMQ.trans {A B C : Mem} {r q p c : Nat} (h1 : RMQ A r B q c) (h2 : RMQ B q C p c) : RMQ A r C p c := ⟨fun i a b => (h1.1 i a b).trans (h2.1 i a b), fun k hk => ⟨(h1.2 k hk).1.trans (h2.2 k hk).1, fun i a b => ((h1.2 k hk).2 i a b).trans ((h2.2 k hk).2 i a b)⟩⟩
theorem RMQ.left {A A' B : Mem} {r q c : Nat} (h : RMQ A r B q c) (hc : c ≤ 6) (he : ∀ d, d < 8 → A' (r + d) = A (r + d)) : RMQ A' r B q c := by
  refine ⟨fun i a b => ?_, fun k hk => ?_⟩
  · have := he 0 (by decide)
    rw [Nat.add_zero] at this
    rw [this]
    exact h.1 i a b
  · rw [show r + 1 + 1 + k = r + (2 + k) by omega, he (2 + k) (by omega), show r + (2 + k) = r + 1 + 1 + k by omega]
    exact h.2 k hk
theorem RMQ.right {A B B' : Mem} {r q c : Nat} (h : RMQ A r B q c) (hc : c ≤ 6) (he : ∀ d, d < 8 → B' (q + d) = B (q + d)) : RMQ A r B' q c := by
  refine ⟨fun i a b => ?_, fun k hk => ?_⟩
  · have := he 0 (by decide)
    rw [Nat.add_zero] at this
    rw [this]
    exact h.1 i a b
  · rw [show q + 1 + 1 + k = q + (2 + k) by omega, he (2 + k) (by omega), show q + (2 + k) = q + 1 + 1 + k by omega]
    exact h.2 k hk
theorem copy_out {M : Mem} {r q c : Nat} (hc : c ≤ 6) (h1 : M q 1 = nI c) {p : Nat} (hp : p < r ∨ r + 8 ≤ p) : gX4_copyFrom M r q p = M p := copy_rf (q := q) ⟨c, hc, h1⟩ p hp
/-- undo behind a change -/
theorem undo_chg {M M' : Mem} {mx c : Nat} (hA : AST mx M c) (h : CHG M c M') : tX7_undo M' = 0 ∧ ¬ fX7_undo M' < 0 ∧ AST mx (gX7_undo M') c ∧ RMQ (gX7_undo M') 1 M 1 c ∧ ∀ p, (9 ≤ p ∧ p ≠ 20) → gX7_undo M' p = M' p := by
  obtain ⟨hI, h1, hc, hnx, hkp, hmx⟩ := hA
  obtain ⟨nx, kp, b1, b2, e1, e2, e3, e4, e5, e6, e7⟩ := h
  have hk1 : ¬ M' 20 2 = 0 := by rw [e4]; exact nI_ne0 (by omega) (by omega)
  have hcr : M' (22 + 8 * nx) 1 = nI c := (e5.1 1 (by decide) (by decide)).trans h1
  -- the state behind takeBack, told by place and number
  have key : ∃ N, gX7_undo M' = gX4_copyFrom N 1 (22 + 8 * nx) ∧ (∀ p, p ≠ 20 → N p = M' p) ∧ N 20 1 = nI nx ∧ N 20 2 = nI (min 10 (kp + 1) - 1) := by
    have e42 : nI (min 10 (kp + 1)) - (1 : Int32) = nI (min 10 (kp + 1) - 1) := by
      rw [show (1 : Int32) = nI 1 from rfl, pk_sub (by omega)]
    unfold gX7_undo
    rw [if_neg hk1]
    unfold gX0_takeBack
    by_cases hz : M' 20 1 ≤ 0
    · have hn9 : nx = 9 := by
        rw [e3, show (0 : Int32) = nI 0 from rfl, nI_leI (by unfold nxt; split <;> omega) (by omega)] at hz
        unfold nxt at hz
        split at hz <;> omega
      have e109 : (10 : Int32) - 1 = nI 9 := by decide
      refine ⟨mU (mU M' 20 1 (nI 9)) 20 2 (nI (min 10 (kp + 1) - 1)), ?_, fun p hp => by rw [mU_ne _ _ _ hp, mU_ne _ _ _ hp], by rw [mU_at]; unfold upd; rw [if_neg (by decide), mU_at]; unfold upd; rw [if_pos rfl, hn9], by rw [mU_at]; unfold upd; rw [if_pos rfl]⟩
      rw [if_pos hz, e109]
      have q1 : mU M' 20 1 (nI 9) 20 2 = M' 20 2 := by rw [mU_at]; unfold upd; rw [if_neg (by decide)]
      rw [q1, e4, e42]
      have q2 : mU (mU M' 20 1 (nI 9)) 20 2 (nI (min 10 (kp + 1) - 1)) 20 1 = nI 9 := by rw [mU_at]; unfold upd; rw [if_neg (by decide), mU_at]; unfold upd; rw [if_pos rfl]
      rw [q2, nI_clamp (by decide), hn9]
    · have hn9 : nxt nx = nx + 1 := by
        rw [e3, show (0 : Int32) = nI 0 from rfl, nI_leI (by unfold nxt; split <;> omega) (by omega)] at hz
        unfold nxt at hz ⊢
        split at hz <;> simp_all
      have e31 : M' 20 1 - 1 = nI nx := by rw [e3, hn9, show (1 : Int32) = nI 1 from rfl, pk_sub (by omega)]; rfl
      refine ⟨mU (mU M' 20 1 (nI nx)) 20 2 (nI (min 10 (kp + 1) - 1)), ?_, fun p hp => by rw [mU_ne _ _ _ hp, mU_ne _ _ _ hp], by rw [mU_at]; unfold upd; rw [if_neg (by decide), mU_at]; unfold upd; rw [if_pos rfl], by rw [mU_at]; unfold upd; rw [if_pos rfl]⟩
      rw [if_neg hz, e31]
      have q1 : mU M' 20 1 (nI nx) 20 2 = M' 20 2 := by rw [mU_at]; unfold upd; rw [if_neg (by decide)]
      rw [q1, e4, e42]
      have q2 : mU (mU M' 20 1 (nI nx)) 20 2 (nI (min 10 (kp + 1) - 1)) 20 1 = nI nx := by rw [mU_at]; unfold upd; rw [if_neg (by decide), mU_at]; unfold upd; rw [if_pos rfl]
      rw [q2, nI_clamp (by omega)]
  obtain ⟨N, g1, g2, g3, g4⟩ := key
  have hN1 : N (22 + 8 * nx) 1 = nI c := by rw [g2 _ (by omega)]; exact hcr
  have hrm := rm_copy (M := N) (r := 1) (q := 22 + 8 * nx) (by omega) hc hN1
  have hout : ∀ p, 9 ≤ p → gX7_undo M' p = N p := fun p hp => by rw [g1]; exact copy_out hc hN1 (by omega)
  have hR : RMQ (gX7_undo M') 1 M 1 c := by
    rw [g1]
    have e5' : RMQ N (22 + 8 * nx) M 1 c := e5.left hc (fun d hd => g2 _ (by omega))
    exact hrm.trans e5'
  refine ⟨by unfold tX7_undo; rw [if_neg hk1], ?_, ⟨hR.inv h1 hc hI, (hR.1 1 (by decide) (by decide)).trans h1, hc, ?_, ?_, hmx⟩, hR, fun p hp => (hout p hp.1).trans (g2 p hp.2)⟩
  · have : fX7_undo M' = gX7_undo M' 20 2 := by unfold fX7_undo gX7_undo; rw [if_neg hk1, if_neg hk1]
    rw [this, hout 20 (by decide), g4]
    exact nI_pos (by omega)
  · rw [hout 20 (by decide), g3]
    exact ub_nI b1
  · rw [hout 20 (by decide), g4]
    exact ub_nI (by omega)
/-- the rooms beside the draft keep their counts -/
theorem hc10_chg {M M' : Mem} {c : Nat} (hc : c ≤ 6) (h1 : M 1 1 = nI c) (hH : HC10 M) (h : CHG M c M') : HC10 M' := by
  obtain ⟨nx, kp, b1, b2, e1, e2, e3, e4, e5, e6, e7⟩ := h
  intro i hi
  by_cases hin : i = nx
  · subst hin
    exact ⟨c, hc, (e5.1 1 (by decide) (by decide)).trans h1⟩
  · have := e6 i hi hin 0 (by decide)
    rw [Nat.add_zero] at this
    unfold CNT
    rw [this]
    exact hH i hi
/-- what load leaves -/
def LDP (M0 M : Mem) (c : Nat) : Prop := INV 0 M ∧ M 1 1 = nI c ∧ c ≤ 6 ∧ M 20 1 = 0 ∧ M 20 2 = 0 ∧ M 10 1 = 0 ∧ CNT M 12 ∧ ∀ p, 21 ≤ p → p ≠ 104 → M p = M0 p
/-- the draft, seen as the room -/
def drM (M : Mem) : Mem := fun p => if p < 9 then M (p + 11) else M p
theorem dri_inv {c : Nat} {M : Mem} (h : DRI c M) : INV 0 (drM M) ∧ drM M 1 1 = nI c := by
  obtain ⟨a0, a1, a2, a3, a4, a5, a6, a7, a8⟩ := h
  have e1 : drM M 1 = M 12 := rfl
  have ek : ∀ k, k < c → drM M (1 + 1 + 1 + k) = M (14 + k) := fun k hk => by unfold drM; rw [if_pos (by omega), show 1 + 1 + 1 + k + 11 = 14 + k by omega]
  refine ⟨⟨c, a0, by rw [e1]; exact a1, by rw [e1, a2]; exact ub_0 0, by rw [e1]; exact a3, by rw [e1]; exact a4, by rw [e1]; exact a5, by rw [e1, a6]; exact ub_0 _, fun k hk => by rw [ek k hk]; exact (a8 k hk).1, ?_⟩, by rw [e1]; exact a1⟩
  rw [e1, a6, a7, SG_congr (g := fun k => drM M (1 + 1 + 1 + k) 2) (g' := fun k => hbR (drM M (1 + 1 + 1 + k))) (fun k hk => by
    show hbR _ = drM M _ 2
    rw [ek k hk]
    unfold hbR
    rw [(a8 k hk).2.1, (a8 k hk).2.2, Int32.add_zero])]
theorem forget5 (M : Mem) : ∀ p, p ≠ 104 → gX5_forget M p = M p := by
  intro p hp
  show LX5_forget_2g 3 M 0 p = M p
  rw [LX5_forget_2g]
  split
  · rfl
  · rw [LX5_forget_2g]
    split
    · exact mU_ne _ _ _ hp
    · rw [LX5_forget_2g]
      split
      · rw [mU_ne _ _ _ hp, mU_ne _ _ _ hp]
      · rw [LX5_forget_2g, mU_ne _ _ _ hp, mU_ne _ _ _ hp, mU_ne _ _ _ hp]
theorem load_ok {M0 M1 : Mem} {X : List Int32} {N k : Nat} (hN : N ≤ 6) (hX : RTX N X) (hX74 : X.length ≤ 74) (hb : BUF M0 M1 X k) (hk1 : X.length ≤ k) (hk2 : k ≤ 80) : tX7_load M1 (nI X.length) = 0 ∧ fX7_load M1 (nI X.length) = nI N ∧ LDP M0 (gX7_load M1 (nI X.length)) N := by
  obtain ⟨L0, h2, ⟨h, t, q, I, hh, ht, hq, hI, hIok, rfl⟩, hh2, rfl⟩ := hX
  obtain ⟨X, hXe⟩ : ∃ z, z = headT h t q ++ insTs I ++ humT ++ dig h2 := ⟨_, rfl⟩
  rw [← hXe] at hX74 hb hk1 ⊢
  have hlen : 15 ≤ X.length := by
    rw [hXe]
    simp only [List.length_append]
    have a1 : 5 ≤ (headT h t q).length := by
      unfold headT
      simp only [List.length_append]
      show 5 ≤ 5 + _ + 1 + _ + 1 + _
      omega
    have a2 : humT.length = 10 := rfl
    omega
  obtain ⟨T, hT⟩ : ∃ T, insTs I ++ (humT ++ dig h2) = [59] ++ T := by
    cases I with
    | nil => exact ⟨humW ++ ([32] ++ dig h2), rfl⟩
    | cons y I =>
      rw [insTs_cons]
      unfold insT
      split
      · exact ⟨hairW ++ ([32] ++ (dig y.2 ++ (insTs I ++ (humT ++ dig h2)))), by simp only [List.append_assoc]; rfl⟩
      · exact ⟨bulbW ++ ([32] ++ (dig y.2 ++ (insTs I ++ (humT ++ dig h2)))), by simp only [List.append_assoc]; rfl⟩
  have hXL : X = roomW ++ ([32] ++ (dig h ++ ([32] ++ (dig t ++ ([32] ++ (dig q ++ ([59] ++ T))))))) := by
    rw [hXe, ← hT]
    unfold headT
    simp only [List.append_assoc]
    rfl
  -- the beginning of parse
  obtain ⟨B, hBe⟩ : ∃ z, z = gX6_begin (mU (mU M1 9 2 (0 : Int32)) 9 3 ((-1) : Int32)) (nI X.length) := ⟨_, rfl⟩
  have m10 : (mU (mU M1 9 2 (0 : Int32)) 9 3 ((-1) : Int32)) 10 = M1 10 := by rw [mU_ne _ _ _ (by decide), mU_ne _ _ _ (by decide)]
  have b10 : B 10 = upd (upd (upd (upd (M1 10) 2 (nI X.length)) 3 0) 4 0) 5 0 := by
    rw [hBe]
    unfold gX6_begin
    simp only [mU_at, m10]
    congr 3
    rw [hb.1]
    unfold xmin
    rw [if_neg (nI_nlt hk1 (by omega))]
  have bne : ∀ p, p ≠ 9 → p ≠ 10 → B p = M1 p := fun p p1 p2 => by
    rw [hBe]
    unfold gX6_begin
    simp only [mU, if_neg p1, if_neg p2]
  have b92 : B 9 2 = 0 := by
    rw [hBe]
    unfold gX6_begin
    rw [mU_ne _ _ _ (by decide), mU_ne _ _ _ (by decide), mU_ne _ _ _ (by decide), mU_ne _ _ _ (by decide), mU_at]
    unfold upd
    rw [if_neg (by decide), mU_at]
    unfold upd
    rw [if_pos rfl]
  have hBF : BF B X := ⟨fun j hj => by rw [bne 11 (by decide) (by decide), hb.2.1 j (by omega)]; unfold padN; rw [if_pos hj], by rw [b10]; rfl, hX74⟩
  obtain ⟨C, P, r1, r2, r3, r4, r5, r6, r7, r8⟩ := read_head hh ht hq hBF hXL (by rw [b10]; rfl) (by rw [b10]; rfl) b92
  rw [← hT] at r4
  obtain ⟨G, s1, s2, s3, s4, s5⟩ := parse_lines (M0 := B) (n := X.length) hh2 (by omega) I 602 0 0 C P hIok (by omega) (by omega) (by omega) ⟨r2, r3, r5, r6, r8⟩ r4
  have hp : gX3_parse M1 (nI X.length) = G := by
    unfold gX3_parse
    rw [← hBe, r1, s1]
  rw [Nat.zero_add, hI] at s5
  have c0 : ¬ nI X.length < 0 := nI_pos (by omega)
  have c1 : nI X.length ≤ M1 10 1 := by rw [hb.1]; exact nI_le hk1 (by omega)
  have hc12 : CNT G 12 := ⟨N, hN, s5.2.1⟩
  obtain ⟨i1, i2⟩ := dri_inv s5
  have hrm := rm_copy (M := G) (r := 1) (q := 12) (by omega) hN s5.2.1
  have hrm' : RMQ (gX4_copyFrom G 1 12) 1 (drM G) 1 N := ⟨fun i a b => hrm.1 i a b, fun j hj => by
    have e : drM G (1 + 1 + 1 + j) = G (12 + 1 + 1 + j) := by unfold drM; rw [if_pos (by omega), show 1 + 1 + 1 + j + 11 = 12 + 1 + 1 + j by omega]
    have := hrm.2 j hj
    show RQ (gX4_copyFrom G 1 12 (1 + 1 + 1 + j)) _
    rw [e]
    exact this⟩
  have hcp : ∀ p, 9 ≤ p → gX4_copyFrom G 1 12 p = G p := fun p hp => copy_out hN s5.2.1 (by omega)
  obtain ⟨F, hF⟩ : ∃ z, z = gX5_forget (gX0_forget (gX4_copyFrom G 1 12)) := ⟨_, rfl⟩
  have f0 : ∀ p, p ≠ 104 → p ≠ 20 → F p = gX4_copyFrom G 1 12 p := fun p p1 p2 => by
    rw [hF, forget5 _ p p1]
    unfold gX0_forget
    rw [mU_ne _ _ _ p2, mU_ne _ _ _ p2]
  have f20 : F 20 1 = 0 ∧ F 20 2 = 0 := by
    rw [hF, forget5 _ 20 (by decide)]
    unfold gX0_forget
    rw [mU_at]
    unfold upd
    refine ⟨?_, by rw [if_pos rfl]⟩
    rw [if_neg (by decide), mU_at]
    unfold upd
    rw [if_pos rfl]
  have hg : gX7_load M1 (nI X.length) = F := by
    unfold gX7_load
    rw [if_neg c0, if_pos c1, hp, if_pos s3, hF]
  have hF1 : F 1 1 = nI N := by
    rw [f0 1 (by decide) (by decide)]
    exact (hrm.1 1 (by decide) (by decide)).trans s5.2.1
  refine ⟨by unfold tX7_load; rw [if_neg c0, if_pos c1, hp, if_pos s3], by unfold fX7_load; rw [if_neg c0, if_pos c1, hp, if_pos s3, ← hF, hF1], ?_⟩
  rw [hg]
  refine ⟨(hrm'.inv i2 hN i1).rows (fun p a b => f0 p (by omega) (by omega)), hF1, hN, f20.1, f20.2, by rw [f0 10 (by decide) (by decide), hcp 10 (by decide)]; exact s4, ?_, fun p p1 p2 => ?_⟩
  · unfold CNT
    rw [f0 12 (by decide) (by decide), hcp 12 (by decide)]
    exact hc12
  · rw [f0 p p2 (by omega), hcp p (by omega), s2 p (by omega) (by omega) (by omega), bne p (by omega) (by omega), hb.2.2.1 p (by omega) (by omega)]
/-- save -/
theorem slot_1 {q : Nat} (hq : q < 2) (M : Mem) : fX7_isSlot M (nI q) = 1 := by
  unfold fX7_isSlot
  rw [if_neg (nI_pos (by omega)), if_neg (show ¬ (2 : Int32) ≤ nI q from (nI_ge hq (by omega) : ¬ nI 2 ≤ nI q))]
theorem save_ok {M : Mem} {c q : Nat} (hq : q < 2) (hI : INV 0 M) (h1 : M 1 1 = nI c) (hc : c ≤ 6) : tX7_save M (nI q) = 0 ∧ fX7_save M (nI q) = 0 ∧ RMQ (gX7_save M (nI q)) (105 + 8 * q) M 1 c ∧ ¬ gX7_save M (nI q) 104 q = 0 ∧ ∀ p, p ≠ 104 → (p < 105 + 8 * q ∨ 105 + 8 * q + 8 ≤ p) → gX7_save M (nI q) p = M p := by
  have hs := slot_1 hq M
  have hg : gX7_save M (nI q) = mU (gX4_copyFrom M (105 + 8 * q) 1) 104 q 1 := by
    unfold gX7_save gX5_keep
    rw [hs, if_neg (by decide), if_neg (by decide), nI_clamp (by omega)]
  have hrm := rm_copy (M := M) (r := 105 + 8 * q) (q := 1) (by omega) hc h1
  have ho : ∀ p, p ≠ 104 → (p < 105 + 8 * q ∨ 105 + 8 * q + 8 ≤ p) → gX7_save M (nI q) p = M p := fun p p1 p2 => by
    rw [hg, mU_ne _ _ _ p1]
    exact copy_out hc h1 p2
  refine ⟨by unfold tX7_save; rw [hs, if_neg (by decide)], ?_, ?_, ?_, ho⟩
  · have : fX7_save M (nI q) = gX7_save M (nI q) 1 2 := by unfold fX7_save gX7_save; rw [hs, if_neg (by decide), if_neg (by decide)]
    rw [this, ho 1 (by decide) (by omega)]
    obtain ⟨z, hz, e⟩ := (inv_b hI).1
    rw [e, show z = 0 by omega]
    rfl
  · rw [hg]
    exact hrm.left hc (fun d hd => mU_ne _ _ _ (by omega))
  · rw [hg, mU_at]
    unfold upd
    rw [if_pos rfl]
    decide
/-- restore -/
theorem restore_ok {M Mb : Mem} {mx c c0 q : Nat} (hq : q < 2) (hA : AST mx M c0) (hc : c ≤ 6) (hs : RMQ M (105 + 8 * q) Mb 1 c) (hb1 : Mb 1 1 = nI c) (hb2 : Mb 1 2 = 0) (hf : ¬ M 104 q = 0) : tX7_restore M (nI q) = 0 ∧ fX7_restore M (nI q) = 0 ∧ RMQ (gX7_restore M (nI q)) 1 Mb 1 c ∧ (∀ p, 9 ≤ p → gX7_restore M (nI q) p = gX0_record M 1 p) := by
  have hsl := slot_1 hq M
  have hfind : fX5_find M (nI q) = some (105 + 8 * q) := by
    unfold fX5_find
    rw [hsl, if_neg (by decide), nI_clamp (by omega), if_neg hf]
  obtain ⟨hch, hlo⟩ := rec_chg hA
  obtain ⟨nx, kp, b1, b2, e1, e2, e3, e4, e5, e6, e7⟩ := hch
  have hrec : ∀ p, 102 ≤ p → p ≠ 123 → p ≠ 124 → gX0_record M 1 p = M p := fun p p1 p2 p3 => e7 p (Or.inr p1) p2 p3
  have hs' : RMQ (gX0_record M 1) (105 + 8 * q) Mb 1 c := hs.left hc (fun d hd => hrec _ (by omega) (by omega) (by omega))
  have h1' : gX0_record M 1 (105 + 8 * q) 1 = nI c := (hs'.1 1 (by decide) (by decide)).trans hb1
  have hrm := (rm_copy (M := gX0_record M 1) (r := 1) (q := 105 + 8 * q) (by omega) hc h1').trans hs'
  have hg : gX7_restore M (nI q) = gX4_copyFrom (gX0_record M 1) 1 (105 + 8 * q) := by
    unfold gX7_restore
    rw [hsl, if_neg (by decide), hfind]
  refine ⟨by unfold tX7_restore; rw [hsl, if_neg (by decide), hfind], ?_, by rw [hg]; exact hrm, fun p hp => by rw [hg]; exact copy_out hc h1' (by omega)⟩
  have : fX7_restore M (nI q) = gX7_restore M (nI q) 1 2 := by
    unfold fX7_restore gX7_restore
    rw [hsl, if_neg (by decide), if_neg (by decide), hfind]
  rw [this, hg]
  exact (hrm.1 2 (by decide) (by decide)).trans hb2
