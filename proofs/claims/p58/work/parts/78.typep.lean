/-! what the law's type(d, text) puts into the buffer -/
def pby (x v : Int32) : Int32 := ((x >>> (v &&& 31)).toInt8.toInt32).toInt8.toInt32
theorem put_step {M : Mem} {x v : Int32} {a k : Nat} (h : M 10 1 = nI a) (ha : a < 600) (hv : ¬ v < 0) : LX6_put_3g x (k + 1) M v = LX6_put_3g x k (mU (mU M 11 a (pby x v)) 10 1 (nI (a + 1))) (v + (-8)) := by
  rw [LX6_put_3g, if_neg hv, h, show (600 : Int32) = nI 600 from rfl, if_neg (nI_ge ha (by omega)), nI_clamp (by omega)]
  have e : (mU M 11 a (pby x v)) 10 1 + (1 : Int32) = nI (a + 1) := by
    rw [mU_ne _ _ _ (by decide), h, nI_succ]
  show LX6_put_3g x k (mU (mU M 11 a (pby x v)) 10 1 ((mU M 11 a (pby x v)) 10 1 + (1 : Int32))) (v + (-8)) = _
  rw [e]
theorem put_1 {M : Mem} {v : Int32} {a : Nat} : (mU (mU M 11 a v) 10 1 (nI (a + 1))) 10 1 = nI (a + 1) := by rw [mU_at]; unfold upd; rw [if_pos rfl]
/-- c bytes more behind a -/
def PUTS (M M' : Mem) (a c : Nat) (f : Nat → Int32) : Prop := M' 10 1 = nI (a + c) ∧ (∀ i, i < c → M' 11 (a + i) = f i) ∧ (∀ j, j < a → M' 11 j = M 11 j) ∧ (∀ p, p ≠ 10 → p ≠ 11 → M' p = M p) ∧ ∀ k, k ≠ 1 → M' 10 k = M 10 k
theorem PUTS.one {M : Mem} {v : Int32} {a : Nat} : PUTS M (mU (mU M 11 a v) 10 1 (nI (a + 1))) a 1 (fun _ => v) := by
  refine ⟨put_1, fun i hi => ?_, fun j hj => ?_, fun p h1 h2 => ?_, fun k hk => ?_⟩
  · rw [mU_ne _ _ _ (by decide), mU_at]; unfold upd; rw [if_pos (by omega)]
  · rw [mU_ne _ _ _ (by decide), mU_at]; unfold upd; rw [if_neg (by omega)]
  · rw [mU_ne _ _ _ h1, mU_ne _ _ _ h2]
  · rw [mU_at]; unfold upd; rw [if_neg hk, mU_ne _ _ _ (by decide)]
theorem PUTS.app {M M1 M2 : Mem} {a c d : Nat} {f g : Nat → Int32} (h : PUTS M M1 a c f) (h2 : PUTS M1 M2 (a + c) d g) : PUTS M M2 a (c + d) (fun i => if i < c then f i else g (i - c)) := by
  obtain ⟨h1, h3, h4, h5, h6⟩ := h
  obtain ⟨g1, g3, g4, g5, g6⟩ := h2
  refine ⟨by rw [g1, Nat.add_assoc], fun i hi => ?_, fun j hj => (g4 j (by omega)).trans (h4 j hj), fun p q1 q2 => (g5 p q1 q2).trans (h5 p q1 q2), fun k hk => (g6 k hk).trans (h6 k hk)⟩
  by_cases hc : i < c
  · simp only [if_pos hc]
    rw [g4 _ (by omega), h3 i hc]
  · simp only [if_neg hc]
    rw [← g3 (i - c) (by omega)]
    congr 1
    omega
theorem PUTS.fill {M M' : Mem} {a c : Nat} {f : Nat → Int32} (h : PUTS M M' a c f) : M' 10 1 = nI (a + c) := h.1
theorem put_puts {M : Mem} {x : Int32} {a : Nat} (h : M 10 1 = nI a) (ha : a + 4 ≤ 600) : PUTS M (gX6_put M x) a 4 (fun i => pby x (nI (24 - 8 * i))) := by
  have e : gX6_put M x = LX6_put_3g x 5 M 24 := rfl
  have p0 := PUTS.one (M := M) (v := pby x 24) (a := a)
  have p1 := p0.app (PUTS.one (v := pby x 16) (a := a + 1))
  have p2 := p1.app (PUTS.one (v := pby x 8) (a := a + 2))
  have p3 := p2.app (PUTS.one (v := pby x 0) (a := a + 3))
  rw [e, put_step h (by omega) (by decide), put_step (v := 24 + -8) put_1 (by omega) (by decide), put_step (v := 24 + -8 + -8) put_1 (by omega) (by decide), put_step (v := 24 + -8 + -8 + -8) put_1 (by omega) (by decide), LX6_put_3g, if_pos (by decide)]
  refine ⟨p3.1, fun i hi => ?_, p3.2.2.1, p3.2.2.2.1, p3.2.2.2.2⟩
  refine (p3.2.1 i hi).trans ?_
  have : i = 0 ∨ i = 1 ∨ i = 2 ∨ i = 3 := by omega
  rcases this with rfl | rfl | rfl | rfl <;> rfl
theorem append_puts {M : Mem} {p1 p2 p3 p4 p5 : Int32} {a : Nat} (h : M 10 1 = nI a) (ha : a ≤ 580) : PUTS M (gX7_append M p1 p2 p3 p4 p5) a 20 (fun i => pby ([p1, p2, p3, p4, p5].getD (i / 4) 0) (nI (24 - 8 * (i % 4)))) := by
  have e : gX7_append M p1 p2 p3 p4 p5 = gX6_put (gX6_put (gX6_put (gX6_put (gX6_put M p1) p2) p3) p4) p5 := by
    unfold gX7_append
    rw [if_pos (by rw [h]; exact (nI_le ha (by omega) : nI a ≤ nI 580))]
  have q1 := put_puts (x := p1) h (by omega)
  have q2 := q1.app (put_puts (x := p2) q1.fill (by omega))
  have q3 := q2.app (put_puts (x := p3) q2.fill (by omega))
  have q4 := q3.app (put_puts (x := p4) q3.fill (by omega))
  have q5 := q4.app (put_puts (x := p5) q4.fill (by omega))
  rw [e]
  refine ⟨q5.1, fun i hi => ?_, q5.2.2.1, q5.2.2.2.1, q5.2.2.2.2⟩
  refine (q5.2.1 i hi).trans ?_
  have : ∀ i, i < 20 → i = 0 ∨ i = 1 ∨ i = 2 ∨ i = 3 ∨ i = 4 ∨ i = 5 ∨ i = 6 ∨ i = 7 ∨ i = 8 ∨ i = 9 ∨ i = 10 ∨ i = 11 ∨ i = 12 ∨ i = 13 ∨ i = 14 ∨ i = 15 ∨ i = 16 ∨ i = 17 ∨ i = 18 ∨ i = 19 := by omega
  rcases this i hi with rfl | rfl | rfl | rfl | rfl | rfl | rfl | rfl | rfl | rfl | rfl | rfl | rfl | rfl | rfl | rfl | rfl | rfl | rfl | rfl <;> rfl
/-- one letter more in a word -/
def wcs (v x : Int32) : Int32 := v <<< ((8 : Int32) &&& 31) ||| x
theorem wcs_nat (v : Int32) {c : Nat} (hc : c < 128) : (wcs v (nI c)).toBitVec.toNat = 256 * (v.toBitVec.toNat % 2 ^ 24) + c := by
  unfold wcs
  rw [Int32.toBitVec_or, BitVec.toNat_or, Int32.toBitVec_shiftLeft]
  have e : ((8 : Int32) &&& 31).toBitVec.smod 32 = 8#32 := by decide
  rw [e]
  have e1 : (v.toBitVec <<< 8#32).toNat = 256 * (v.toBitVec.toNat % 2 ^ 24) := by
    show (v.toBitVec <<< (8#32).toNat).toNat = _
    rw [BitVec.toNat_shiftLeft, Nat.shiftLeft_eq]
    have := v.toBitVec.isLt
    show v.toBitVec.toNat * 2 ^ 8 % 2 ^ 32 = _
    omega
  have e2 : (nI c).toBitVec.toNat = c := by
    show (BitVec.ofNat 32 c).toNat = c
    rw [BitVec.toNat_ofNat]
    omega
  rw [e1, e2]
  exact (Nat.two_pow_add_eq_or_of_lt (i := 8) (b := c) (by omega) _).symm
theorem word_nat (v : Int32) {c0 c1 c2 c3 : Nat} (h0 : c0 < 128) (h1 : c1 < 128) (h2 : c2 < 128) (h3 : c3 < 128) : (wcs (wcs (wcs (wcs v (nI c0)) (nI c1)) (nI c2)) (nI c3)).toBitVec.toNat = c0 * 2 ^ 24 + c1 * 2 ^ 16 + c2 * 2 ^ 8 + c3 := by
  rw [wcs_nat _ h3, wcs_nat _ h2, wcs_nat _ h1, wcs_nat _ h0]
  omega
theorem pby_nat {x : Int32} {n k : Nat} (hn : x.toBitVec.toNat = n) (h : n < 2 ^ 31) (hk : k = 24 ∨ k = 16 ∨ k = 8 ∨ k = 0) (hc : n / 2 ^ k % 256 < 128) : pby x (nI k) = nI (n / 2 ^ k % 256) := by
  have hb : ∀ m : Int, (m.bmod (2 ^ 8)).bmod (2 ^ 8) = m.bmod (2 ^ 8) := fun m => Int.bmod_bmod
  apply Int32.toInt_inj.mp
  unfold pby
  have hx : x.toInt = (n : Int) := by
    rw [← Int32.toInt_toBitVec, BitVec.toInt_eq_toNat_of_lt (by rw [hn]; omega), hn]
  have hs : (x >>> (nI k &&& 31)).toInt = (n / 2 ^ k : Nat) := by
    rw [← Int32.toInt_toBitVec, Int32.toBitVec_shiftRight]
    have e : (nI k &&& 31).toBitVec.smod 32 = BitVec.ofNat 32 k := by rcases hk with rfl | rfl | rfl | rfl <;> decide
    rw [e]
    show (x.toBitVec.sshiftRight (BitVec.ofNat 32 k).toNat).toInt = _
    rw [BitVec.toInt_sshiftRight, BitVec.toNat_ofNat, Nat.mod_eq_of_lt (by omega), Int32.toInt_toBitVec, hx, Int.shiftRight_eq_div_pow]
    rfl
  rw [Int8.toInt_toInt32, Int32.toInt_toInt8, Int8.toInt_toInt32, Int32.toInt_toInt8, hb, hs, nI_toInt (by omega)]
  unfold Int.bmod
  dsimp only
  split <;> omega
/-- the five words, letter after letter -/
def stepN (ch : Nat → Int32) : Nat → (Nat → Int32) → Nat → Int32
  | 0, f => f
  | q + 1, f => upd (stepN ch q f) (q / 4) (wcs (stepN ch q f (q / 4)) (ch q))
theorem stepN_at (ch : Nat → Int32) (f : Nat → Int32) {i : Nat} (hi : i < 5) : stepN ch 20 f i = wcs (wcs (wcs (wcs (f i) (ch (4 * i))) (ch (4 * i + 1))) (ch (4 * i + 2))) (ch (4 * i + 3)) := by
  have : i = 0 ∨ i = 1 ∨ i = 2 ∨ i = 3 ∨ i = 4 := by omega
  rcases this with rfl | rfl | rfl | rfl | rfl <;> rfl
/-- a letter of the text, blanks behind it -/
def chX (X : List Int32) (j : Nat) : Int32 := if j < X.length then chF (X.getD j 0) else 32
def ASC (X : List Int32) : Prop := ∀ x ∈ X, ∃ c, c < 128 ∧ x = nI c
def padN (X : List Int32) (j : Nat) : Int32 := if j < X.length then X.getD j 0 else 32
theorem chF_nI {c : Nat} (h : c < 128) : chF (nI c) = nI c := by
  have : ∀ c, c < 128 → chF (nI c) = nI c := by decide +kernel
  exact this c h
theorem chX_pad {X : List Int32} (h : ASC X) (j : Nat) : chX X j = padN X j ∧ ∃ c, c < 128 ∧ padN X j = nI c := by
  unfold chX padN
  by_cases hj : j < X.length
  · rw [if_pos hj, if_pos hj]
    have hm : X.getD j 0 ∈ X := by
      rw [List.getD_eq_getElem?_getD, List.getElem?_eq_getElem hj]
      exact List.getElem_mem hj
    obtain ⟨c, hc, e⟩ := h _ hm
    exact ⟨by rw [e, chF_nI hc], c, hc, e⟩
  · rw [if_neg hj, if_neg hj]
    exact ⟨rfl, 32, by decide, rfl⟩
/-- the buffer after some chunks of twenty letters -/
def BUF (M0 M : Mem) (X : List Int32) (k : Nat) : Prop := M 10 1 = nI k ∧ (∀ j, j < k → M 11 j = padN X j) ∧ (∀ p, p ≠ 10 → p ≠ 11 → M p = M0 p) ∧ ∀ i, i ≠ 1 → M 10 i = M0 10 i
theorem BUF.step {M0 M : Mem} {X : List Int32} {k : Nat} (h : BUF M0 M X k) (hk : k ≤ 580) (hX : ASC X) (f : Nat → Int32) : BUF M0 (gX7_append M (stepN (fun q => chX X (k + q)) 20 f 0) (stepN (fun q => chX X (k + q)) 20 f 1) (stepN (fun q => chX X (k + q)) 20 f 2) (stepN (fun q => chX X (k + q)) 20 f 3) (stepN (fun q => chX X (k + q)) 20 f 4)) X (k + 20) := by
  obtain ⟨h1, h2, h3, h4⟩ := h
  have hp := append_puts (p1 := stepN (fun q => chX X (k + q)) 20 f 0) (p2 := stepN (fun q => chX X (k + q)) 20 f 1) (p3 := stepN (fun q => chX X (k + q)) 20 f 2) (p4 := stepN (fun q => chX X (k + q)) 20 f 3) (p5 := stepN (fun q => chX X (k + q)) 20 f 4) h1 hk
  refine ⟨hp.1, fun j hj => ?_, fun p a b => (hp.2.2.2.1 p a b).trans (h3 p a b), fun i hi => (hp.2.2.2.2 i hi).trans (h4 i hi)⟩
  by_cases hl : j < k
  · rw [hp.2.2.1 j hl, h2 j hl]
  · obtain ⟨i, rfl⟩ : ∃ i, j = k + i := ⟨j - k, by omega⟩
    rw [hp.2.1 i (by omega)]
    have hi5 : i / 4 < 5 := by omega
    have e5 : [stepN (fun q => chX X (k + q)) 20 f 0, stepN (fun q => chX X (k + q)) 20 f 1, stepN (fun q => chX X (k + q)) 20 f 2, stepN (fun q => chX X (k + q)) 20 f 3, stepN (fun q => chX X (k + q)) 20 f 4].getD (i / 4) 0 = stepN (fun q => chX X (k + q)) 20 f (i / 4) := by
      have : i / 4 = 0 ∨ i / 4 = 1 ∨ i / 4 = 2 ∨ i / 4 = 3 ∨ i / 4 = 4 := by omega
      rcases this with e | e | e | e | e <;> rw [e] <;> rfl
    dsimp only
    rw [e5, stepN_at _ _ hi5]
    obtain ⟨a0, c0, d0, e0⟩ := chX_pad hX (k + 4 * (i / 4))
    obtain ⟨a1, c1, d1, e1⟩ := chX_pad hX (k + (4 * (i / 4) + 1))
    obtain ⟨a2, c2, d2, e2⟩ := chX_pad hX (k + (4 * (i / 4) + 2))
    obtain ⟨a3, c3, d3, e3⟩ := chX_pad hX (k + (4 * (i / 4) + 3))
    rw [a0, a1, a2, a3, e0, e1, e2, e3]
    have hw := word_nat (f (i / 4)) d0 d1 d2 d3
    have hr : i % 4 = 0 ∨ i % 4 = 1 ∨ i % 4 = 2 ∨ i % 4 = 3 := by omega
    rcases hr with e | e | e | e
    · rw [show k + i = k + 4 * (i / 4) by omega, e0, e, show 24 - 8 * 0 = 24 from rfl, pby_nat hw (by omega) (by omega) (by omega)]
      congr 1
      omega
    · rw [show k + i = k + (4 * (i / 4) + 1) by omega, e1, e, show 24 - 8 * 1 = 16 from rfl, pby_nat hw (by omega) (by omega) (by omega)]
      congr 1
      omega
    · rw [show k + i = k + (4 * (i / 4) + 2) by omega, e2, e, show 24 - 8 * 2 = 8 from rfl, pby_nat hw (by omega) (by omega) (by omega)]
      congr 1
      omega
    · rw [show k + i = k + (4 * (i / 4) + 3) by omega, e3, e, show 24 - 8 * 3 = 0 from rfl, pby_nat hw (by omega) (by omega) (by omega)]
      congr 1
      omega
theorem BUF.z {M : Mem} {X : List Int32} (h : M 10 1 = 0) : BUF M M X 0 := ⟨h, fun j hj => absurd hj (Nat.not_lt_zero j), fun _ _ _ => rfl, fun _ _ => rfl⟩
theorem BUF.tf {M0 M : Mem} {X : List Int32} {k : Nat} (h : BUF M0 M X k) (hk : k ≤ 600) : TF M := ⟨k, hk, h.1⟩
