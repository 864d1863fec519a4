/-! the reader's tokens, over a text that is known -/
def kN (x : Int32) : Int32 := fX6_kindOf (fun _ _ => 0) x
theorem kN_eq (M : Mem) (x : Int32) : fX6_kindOf M x = kN x := rfl
/-- the buffer holds this text, and this is its length -/
def BF (M : Mem) (L : List Int32) : Prop := (∀ j, j < L.length → M 11 j = L.getD j 0) ∧ M 10 2 = nI L.length ∧ L.length ≤ 74
/-- nothing but the token's fields is written -/
def TN (M N : Mem) : Prop := (∀ p, p ≠ 10 → N p = M p) ∧ N 10 1 = M 10 1 ∧ N 10 2 = M 10 2
theorem TN.rf (M : Mem) : TN M M := ⟨fun _ _ => rfl, rfl, rfl⟩
theorem TN.trans {M N R : Mem} (h1 : TN M N) (h2 : TN N R) : TN M R := ⟨fun p hp => (h2.1 p hp).trans (h1.1 p hp), h2.2.1.trans h1.2.1, h2.2.2.trans h1.2.2⟩
theorem TN.put (M : Mem) {k : Nat} (v : Int32) (hk : 3 ≤ k) : TN M (mU M 10 k v) := ⟨fun p hp => mU_ne M k v hp, by rw [mU_at]; unfold upd; rw [if_neg (by omega)], by rw [mU_at]; unfold upd; rw [if_neg (by omega)]⟩
theorem BF.tn {M N : Mem} {L : List Int32} (h : BF M L) (hN : TN M N) : BF N L := ⟨fun j hj => by rw [hN.1 11 (by decide)]; exact h.1 j hj, hN.2.2.trans h.2.1, h.2.2⟩
theorem u10_at (M : Mem) (k : Nat) (v : Int32) : mU M 10 k v 10 k = v := by rw [mU_at]; unfold upd; rw [if_pos rfl]
theorem u10_ne (M : Mem) {k i : Nat} (v : Int32) (h : i ≠ k) : mU M 10 k v 10 i = M 10 i := by rw [mU_at]; unfold upd; rw [if_neg h]
theorem tk_blank {L : List Int32} {s : Nat} (hs : s ≤ L.length) (hend : s = L.length ∨ ¬ kN (L.getD s 0) = 4) (eb rb : Int32) : ∀ (d f a : Nat) (M : Mem), BF M L → a + d = s → d < f → M 10 4 = nI a → (∀ j, a ≤ j → j < s → kN (L.getD j 0) = 4) → ∃ N, LX6_next_10g f M eb rb = LX6_next_50g 1 N eb rb ∧ TN M N ∧ N 10 4 = nI s ∧ N 10 5 = M 10 5 := by
  intro d
  induction d with
  | zero =>
    intro f a M hB ha hf he hbl
    obtain rfl : a = s := by omega
    obtain ⟨f, rfl⟩ : ∃ g, f = g + 1 := ⟨f - 1, by omega⟩
    have hn := hB.2.2
    refine ⟨M, ?_, TN.rf M, he, rfl⟩
    rw [LX6_next_10g, hB.2.1, he]
    rcases Nat.lt_or_ge a L.length with hl | hl
    · rw [if_neg (nI_ge hl (by omega)), nI_clamp (by omega), hB.1 a hl, kN_eq, if_neg (hend.resolve_left (by omega))]
    · rw [if_pos (nI_le hl (by omega))]
  | succ d ih =>
    intro f a M hB ha hf he hbl
    obtain ⟨f, rfl⟩ : ∃ g, f = g + 1 := ⟨f - 1, by omega⟩
    have hn := hB.2.2
    have hM : TN M (mU M 10 4 (nI (a + 1))) := TN.put M _ (by decide)
    obtain ⟨N, h1, h2, h3, h4⟩ := ih f (a + 1) (mU M 10 4 (nI (a + 1))) (hB.tn hM) (by omega) (by omega) (u10_at _ _ _) (fun j h1 h2 => hbl j (by omega) h2)
    refine ⟨N, ?_, hM.trans h2, h3, h4.trans (u10_ne M _ (by decide))⟩
    rw [LX6_next_10g, hB.2.1, he, if_neg (nI_ge (by omega) (by omega)), nI_clamp (by omega), hB.1 a (by omega), kN_eq, hbl a (Nat.le_refl _) (by omega), if_pos rfl, ← h1, ← nI_succ]
theorem isRun_1 {M : Mem} (h : M 10 5 = 1 ∨ M 10 5 = 2) : fX6_isRun M = 1 := by
  unfold fX6_isRun
  rcases h with h | h <;> rw [h] <;> rfl
theorem tk_run {L : List Int32} {t : Nat} {K : Int32} (hK : K = 1 ∨ K = 2) (ht : t ≤ L.length) (hend : t = L.length ∨ ¬ kN (L.getD t 0) = K) (eb rb : Int32) : ∀ (d f a : Nat) (M : Mem), BF M L → a + d = t → d < f → M 10 4 = nI a → M 10 5 = K → (∀ j, a ≤ j → j < t → kN (L.getD j 0) = K) → ∃ N, LX6_next_106g f M eb rb = LX6_next_156g 1 N eb rb ∧ TN M N ∧ N 10 4 = nI t ∧ N 10 5 = K ∧ N 10 3 = M 10 3 := by
  intro d
  induction d with
  | zero =>
    intro f a M hB ha hf he hk hbl
    obtain rfl : a = t := by omega
    obtain ⟨f, rfl⟩ : ∃ g, f = g + 1 := ⟨f - 1, by omega⟩
    have hn := hB.2.2
    refine ⟨M, ?_, TN.rf M, he, hk, rfl⟩
    rw [LX6_next_106g, isRun_1 (by rw [hk]; exact hK), if_neg (by decide), hB.2.1, he]
    rcases Nat.lt_or_ge a L.length with hl | hl
    · rw [if_neg (nI_ge hl (by omega)), nI_clamp (by omega), hB.1 a hl, kN_eq, hk, if_neg (hend.resolve_left (by omega))]
    · rw [if_pos (nI_le hl (by omega))]
  | succ d ih =>
    intro f a M hB ha hf he hk hbl
    obtain ⟨f, rfl⟩ : ∃ g, f = g + 1 := ⟨f - 1, by omega⟩
    have hn := hB.2.2
    have hM : TN M (mU M 10 4 (nI (a + 1))) := TN.put M _ (by decide)
    obtain ⟨N, h1, h2, h3, h4, h5⟩ := ih f (a + 1) (mU M 10 4 (nI (a + 1))) (hB.tn hM) (by omega) (by omega) (u10_at _ _ _) ((u10_ne M _ (by decide)).trans hk) (fun j h1 h2 => hbl j (by omega) h2)
    refine ⟨N, ?_, hM.trans h2, h3, h4, h5.trans (u10_ne M _ (by decide))⟩
    rw [LX6_next_106g, isRun_1 (by rw [hk]; exact hK), if_neg (by decide), hB.2.1, he, if_neg (nI_ge (by omega) (by omega)), nI_clamp (by omega), hB.1 a (by omega), kN_eq, hbl a (Nat.le_refl _) (by omega), hk, if_pos rfl, ← h1, ← nI_succ]
theorem tk_first {M : Mem} {L : List Int32} {s : Nat} (eb rb : Int32) (hB : BF M L) (hs : s < L.length) (he : M 10 4 = nI s) : LX6_next_50g 1 M eb rb = LX6_next_89g 1 (mU (mU M 10 3 (nI s)) 10 5 (kN (L.getD s 0))) eb rb := by
  have hn := hB.2.2
  rw [LX6_next_50g, he, u10_ne M _ (by decide), u10_at, hB.2.1, if_neg (nI_ge hs (by omega)), nI_clamp (by omega), kN_eq, mU_ne M _ _ (show 11 ≠ 10 by decide), hB.1 s hs]
/-- a run of letters or of digits -/
theorem next_run {M : Mem} {L : List Int32} (hB : BF M L) {e s t : Nat} {K : Int32} (hK : K = 1 ∨ K = 2) (he : M 10 4 = nI e) (hes : e ≤ s) (hst : s < t) (ht : t ≤ L.length) (hbl : ∀ j, e ≤ j → j < s → kN (L.getD j 0) = 4) (hr : ∀ j, s ≤ j → j < t → kN (L.getD j 0) = K) (hend : t = L.length ∨ ¬ kN (L.getD t 0) = K) (h3 : K = 2 → t ≤ s + 3) (hj : fX6_isRun M = 0 ∨ s ≠ e) : TN M (gX6_next M) ∧ gX6_next M 10 3 = nI s ∧ gX6_next M 10 4 = nI t ∧ gX6_next M 10 5 = K := by
  have hn := hB.2.2
  have hKs := hr s (Nat.le_refl _) hst
  obtain ⟨N, n1, n2, n3, n4⟩ := tk_blank (s := s) (by omega) (Or.inr (by rw [hKs]; rcases hK with h | h <;> rw [h] <;> decide)) (M 10 4) (fX6_isRun M) (s - e) 601 e M hB (by omega) (by omega) he hbl
  have hB1 := hB.tn n2
  have hf := tk_first (M 10 4) (fX6_isRun M) hB1 (by omega) n3
  rw [hKs] at hf
  obtain ⟨N1, hN1⟩ : ∃ z, z = mU (mU N 10 3 (nI s)) 10 5 K := ⟨_, rfl⟩
  rw [← hN1] at hf
  have t1 : TN N N1 := by rw [hN1]; exact (TN.put N _ (by decide)).trans (TN.put _ _ (by decide))
  have e14 : N1 10 4 = nI s := by rw [hN1, u10_ne _ _ (by decide), u10_ne _ _ (by decide), n3]
  have e15 : N1 10 5 = K := by rw [hN1, u10_at]
  have e13 : N1 10 3 = nI s := by rw [hN1, u10_ne _ _ (by decide), u10_at]
  have t2 : TN N1 (mU N1 10 4 (nI (s + 1))) := TN.put N1 _ (by decide)
  obtain ⟨N2, r1, r2, r3, r4, r5⟩ := tk_run (t := t) hK ht hend (M 10 4) (fX6_isRun M) (t - (s + 1)) 601 (s + 1) (mU N1 10 4 (nI (s + 1))) ((hB1.tn t1).tn t2) (by omega) (by omega) (u10_at _ _ _) ((u10_ne _ _ (by decide)).trans e15) (fun j h1 h2 => hr j (by omega) h2)
  have e23 : N2 10 3 = nI s := r5.trans ((u10_ne _ _ (by decide)).trans e13)
  have hg : gX6_next M = N2 := by
    have q1 : gX6_next M = LX6_next_106g 601 (mU N1 10 4 (nI (s + 1))) (M 10 4) (fX6_isRun M) := by
      show LX6_next_10g 601 M (M 10 4) (fX6_isRun M) = _
      rw [n1, hf, LX6_next_89g, e15, if_neg (by rcases hK with h | h <;> rw [h] <;> decide), e14, ← nI_succ]
    have q2 : ∀ jn, jn = 0 → LX6_next_181g 1 N2 jn = N2 := by
      rintro jn rfl
      rw [LX6_next_181g, if_pos rfl]
      by_cases h2 : K = 2
      · rw [r4, h2, if_pos rfl, r3, e23, pk_sub (by omega), if_pos (show nI (t - s) ≤ (3 : Int32) from (nI_le (by have := h3 h2; omega) (by omega) : nI (t - s) ≤ nI 3))]
      · rw [r4, if_neg h2]
    rw [q1, r1, LX6_next_156g, isRun_1 (by rw [r4]; exact hK), if_neg (by decide)]
    rcases hj with hj | hj
    · rw [hj, if_pos rfl]
      exact q2 0 rfl
    · by_cases hz : fX6_isRun M = 0
      · rw [if_pos hz]
        exact q2 0 rfl
      · rw [if_neg hz, e23, he, if_neg (nI_nq hj (by omega) (by omega))]
        exact q2 0 rfl
  rw [hg]
  exact ⟨((n2.trans t1).trans t2).trans r2, e23, r3, r4⟩
/-- a semicolon -/
theorem next_semi {M : Mem} {L : List Int32} (hB : BF M L) {e : Nat} (he : M 10 4 = nI e) (hst : e < L.length) (hK : kN (L.getD e 0) = 3) : TN M (gX6_next M) ∧ gX6_next M 10 3 = nI e ∧ gX6_next M 10 4 = nI (e + 1) ∧ gX6_next M 10 5 = 3 := by
  have hn := hB.2.2
  obtain ⟨N, n1, n2, n3, n4⟩ := tk_blank (s := e) (by omega) (Or.inr (by rw [hK]; decide)) (M 10 4) (fX6_isRun M) 0 601 e M hB (by omega) (by omega) he (fun j h1 h2 => by omega)
  have hB1 := hB.tn n2
  have hf := tk_first (M 10 4) (fX6_isRun M) hB1 hst n3
  rw [hK] at hf
  obtain ⟨N1, hN1⟩ : ∃ z, z = mU (mU N 10 3 (nI e)) 10 5 (3 : Int32) := ⟨_, rfl⟩
  rw [← hN1] at hf
  have t1 : TN N N1 := by rw [hN1]; exact (TN.put N _ (by decide)).trans (TN.put _ _ (by decide))
  have e14 : N1 10 4 = nI e := by rw [hN1, u10_ne _ _ (by decide), u10_ne _ _ (by decide), n3]
  have e15 : N1 10 5 = 3 := by rw [hN1, u10_at]
  have e13 : N1 10 3 = nI e := by rw [hN1, u10_ne _ _ (by decide), u10_at]
  obtain ⟨N2, hN2⟩ : ∃ z, z = mU N1 10 4 (nI (e + 1)) := ⟨_, rfl⟩
  have t2 : TN N1 N2 := by rw [hN2]; exact TN.put N1 _ (by decide)
  have r5 : N2 10 5 = 3 := by rw [hN2, u10_ne _ _ (by decide), e15]
  have r3 : N2 10 3 = nI e := by rw [hN2, u10_ne _ _ (by decide), e13]
  have r4 : N2 10 4 = nI (e + 1) := by rw [hN2, u10_at]
  have hrun : fX6_isRun N2 = 0 := by unfold fX6_isRun; rw [r5]; rfl
  have hg : gX6_next M = N2 := by
    show LX6_next_10g 601 M (M 10 4) (fX6_isRun M) = _
    rw [n1, hf, LX6_next_89g, e15, if_neg (by decide), e14, ← nI_succ, ← hN2, LX6_next_106g, hrun, if_pos rfl, LX6_next_156g, hrun, if_pos rfl, LX6_next_181g, if_pos rfl, r5, if_neg (by decide)]
  rw [hg]
  exact ⟨(n2.trans t1).trans t2, r3, r4, r5⟩
/-- the end -/
theorem next_fin {M : Mem} {L : List Int32} (hB : BF M L) (he : M 10 4 = nI L.length) : TN M (gX6_next M) ∧ gX6_next M 10 5 = 0 := by
  have hn := hB.2.2
  obtain ⟨N, n1, n2, n3, n4⟩ := tk_blank (s := L.length) (Nat.le_refl _) (Or.inl rfl) (M 10 4) (fX6_isRun M) 0 601 L.length M hB (by omega) (by omega) he (fun j h1 h2 => by omega)
  have hB1 := hB.tn n2
  obtain ⟨N2, hN2⟩ : ∃ z, z = mU (mU N 10 3 (nI L.length)) 10 5 (0 : Int32) := ⟨_, rfl⟩
  have t1 : TN N N2 := by rw [hN2]; exact (TN.put N _ (by decide)).trans (TN.put _ _ (by decide))
  have r5 : N2 10 5 = 0 := by rw [hN2, u10_at]
  have hrun : fX6_isRun N2 = 0 := by unfold fX6_isRun; rw [r5]; rfl
  have hg : gX6_next M = N2 := by
    show LX6_next_10g 601 M (M 10 4) (fX6_isRun M) = _
    rw [n1, LX6_next_50g, n3, u10_ne N _ (by decide), u10_at, hB1.2.1, if_pos (nI_le (Nat.le_refl _) (by omega)), ← hN2, LX6_next_89g, r5, if_pos rfl, LX6_next_106g, hrun, if_pos rfl, LX6_next_156g, hrun, if_pos rfl, LX6_next_181g, if_pos rfl, r5, if_neg (by decide)]
  rw [hg]
  exact ⟨n2.trans t1, r5⟩
