/-! the forecasts -/
/-- an instrument's minute, by its numbers -/
def wetA (A : Nat → Int32) (s t : Int32) : Nat → Int32 := upd A 4 (if s ≤ A 4 then xmax s (A 4 - t) else xmin s (A 4 + t))
def slkA (A : Nat → Int32) : Nat → Int32 := upd A 5 (xmin 50 (A 5 + 1))
def ageR (A : Nat → Int32) (m s : Int32) : Nat → Int32 := if bv (A 0) = 0 then upd A 6 (xmax 0 (A 6 - 1)) else if A 1 ≤ 0 then (if m - m / 10 * 10 = 0 then slkA A else A) else (if m - m / 10 * 10 = 0 then slkA (wetA A s (1 + fX7_quotient (fun _ _ => 0) 20 (A 1))) else wetA A s (1 + fX7_quotient (fun _ _ => 0) 20 (A 1)))
theorem wet_row (M : Mem) (o : Nat) (s t : Int32) : gX1_moveWetness M o s t o = wetA (M o) s t := by
  unfold gX1_moveWetness wetA
  by_cases c : s ≤ M o 4
  · rw [if_pos c, if_pos c, mU_at]
  · rw [if_neg c, if_neg c, mU_at]
theorem age_row (M : Mem) (o : Nat) (m s : Int32) : gX1_age M o m s o = ageR (M o) m s := by
  unfold ageR gX1_age slkA
  by_cases c0 : bv (M o 0) = 0
  · rw [if_pos c0, if_pos c0, mU_at]
  · rw [if_neg c0, if_neg c0]
    by_cases c1 : M o 1 ≤ 0
    · rw [if_pos c1, if_pos c1]
      by_cases c2 : m - m / 10 * 10 = 0
      · rw [if_pos c2, if_pos c2, mU_at]
      · rw [if_neg c2, if_neg c2]
    · rw [if_neg c1, if_neg c1]
      by_cases c2 : m - m / 10 * 10 = 0
      · rw [if_pos c2, if_pos c2, mU_at, wet_row]
        rfl
      · rw [if_neg c2, if_neg c2, wet_row]
        rfl
def ag (h m : Int32) (A : Nat → Int32) : Nat → Int32 := ageR A m (fX7_fixedPointOr (fun _ _ => 0) (A 8) h)
def ageN (h : Int32) : Nat → Int32 → (Nat → Int32) → (Nat → Int32)
  | 0, _, A => A
  | n + 1, m, A => ageN h n (m + 1) (ag h (m + 1) A)
theorem ag_row (M : Mem) (r o : Nat) (m : Int32) : gX1_age M o m (fX4_surrounding M r o) o = ag (M r 3) m (M o) := by rw [age_row]; rfl
theorem rows_25 {r c : Nat} (x : Int32) (hc : c ≤ 6) : ∀ (f : Nat) (V : Mem) (j : Nat), V r 1 = nI c → j ≤ c → 7 ≤ j + f →
    (∀ k, j ≤ k → k < c → LX4_pass_25g r x f V j (r + 1 + 1 + k) = ag (V r 3) (V r 2) (V (r + 1 + 1 + k))) ∧ (∀ k, k < j → LX4_pass_25g r x f V j (r + 1 + 1 + k) = V (r + 1 + 1 + k)) ∧ LX4_pass_25g r x f V j r = V r := by
  intro f
  induction f with
  | zero => intro V j h1 hj hf; omega
  | succ f ih =>
    intro V j h1 hj hf
    rw [LX4_pass_25g, h1]
    by_cases hcj : nI c ≤ nI j
    · have : c ≤ j := by rw [nI_leI (by omega) (by omega)] at hcj; exact hcj
      rw [if_pos hcj]
      exact ⟨fun k h2 h3 => by omega, fun _ _ => rfl, rfl⟩
    · have hj2 : j < c := by rw [nI_leI (by omega) (by omega)] at hcj; omega
      rw [if_neg hcj]
      have hr : gX1_age V (r + 1 + 1 + j) (V r 2) (fX4_surrounding V r (r + 1 + 1 + j)) r = V r := gX1_age_ne (by omega)
      obtain ⟨i1, i2, i3⟩ := ih (gX1_age V (r + 1 + 1 + j) (V r 2) (fX4_surrounding V r (r + 1 + 1 + j))) (j + 1) (by rw [hr]; exact h1) hj2 (by omega)
      refine ⟨fun k h2 h3 => ?_, fun k hk => (i2 k (by omega)).trans (gX1_age_ne (by omega)), i3.trans hr⟩
      by_cases e : k = j
      · subst e
        rw [i2 k (by omega), ag_row]
      · rw [i1 k (by omega) h3, hr, gX1_age_ne (by omega)]
theorem min_rows {r c : Nat} (x : Int32) (hc : c ≤ 6) {V : Mem} (h1 : V r 1 = nI c) : (∀ k, k < c → gMin V r x (r + 1 + 1 + k) = ag (V r 3) (V r 2 + 1) (V (r + 1 + 1 + k))) ∧ gMin V r x r 1 = V r 1 ∧ gMin V r x r 2 = V r 2 + 1 ∧ gMin V r x r 3 = V r 3 ∧ gMin V r x r 4 = V r 4 := by
  have hr : ∀ j, j ≠ 2 → mU V r 2 (V r 2 + 1) r j = V r j := fun j hj => mU_row hj
  obtain ⟨i1, i2, i3⟩ := rows_25 x hc 7 (mU V r 2 (V r 2 + 1)) 0 (by rw [hr 1 (by decide)]; exact h1) (Nat.zero_le _) (by decide)
  have k1 : ∀ k, k < c → LX4_pass_25g r x 7 (mU V r 2 (V r 2 + 1)) 0 (r + 1 + 1 + k) = ag (V r 3) (V r 2 + 1) (V (r + 1 + 1 + k)) := fun k hk => by
    rw [i1 k (Nat.zero_le _) hk, hr 3 (by decide), mu_same, mU_ne _ _ _ (by omega)]
  have br : ∀ (W : Mem) (j : Nat), j ≠ 6 → j ≠ 7 → gX4_bringHairs W r r j = W r j := fun W j a b => by
    unfold gX4_bringHairs
    rw [mU_row b, mU_row a]
  unfold gMin
  refine ⟨fun k hk => ?_, ?_, ?_, ?_, ?_⟩
  · split
    · rw [gX4_bringHairs_ne (by omega)]; exact k1 k hk
    · exact k1 k hk
  · split
    · rw [br _ _ (by decide) (by decide), i3]; exact hr 1 (by decide)
    · rw [i3]; exact hr 1 (by decide)
  · split
    · rw [br _ _ (by decide) (by decide), i3]; exact mu_same _ _ _ _
    · rw [i3]; exact mu_same _ _ _ _
  · split
    · rw [br _ _ (by decide) (by decide), i3]; exact hr 3 (by decide)
    · rw [i3]; exact hr 3 (by decide)
  · split
    · rw [br _ _ (by decide) (by decide), i3]; exact hr 4 (by decide)
    · rw [i3]; exact hr 4 (by decide)
theorem pass_rows {r c n : Nat} (hc : c ≤ 6) (hn : n ≤ 200) (w0 : Int32) : ∀ (f : Nat) (V : Mem) (i : Nat), V r 1 = nI c → i ≤ n → n + 1 ≤ i + f →
    (∀ k, k < c → LX4_pass_7g r (nI n) f V w0 i (r + 1 + 1 + k) = ageN (V r 3) (n - i) (V r 2) (V (r + 1 + 1 + k))) ∧ LX4_pass_7g r (nI n) f V w0 i r 3 = V r 3 ∧ LX4_pass_7g r (nI n) f V w0 i r 4 = V r 4 := by
  intro f
  induction f with
  | zero => intro V i h1 hi hf; omega
  | succ f ih =>
    intro V i h1 hi hf
    by_cases hci : nI n ≤ nI i
    · have : n ≤ i := by rw [nI_leI (by omega) (by omega)] at hci; exact hci
      rw [LX4_pass_7g, if_pos hci, show n - i = 0 by omega]
      exact ⟨fun _ _ => rfl, rfl, rfl⟩
    · have hin : i < n := by rw [nI_leI (by omega) (by omega)] at hci; omega
      have e : LX4_pass_7g r (nI n) (f + 1) V w0 i = LX4_pass_7g r (nI n) f (gMin V r (nI n)) w0 (i + 1) := by
        rw [LX4_pass_7g, if_neg hci]
        unfold gMin
        split <;> rfl
      rw [e]
      obtain ⟨m1, m2, m3, m4, m5⟩ := min_rows (nI n) hc h1
      obtain ⟨j1, j2, j3⟩ := ih (gMin V r (nI n)) (i + 1) (by rw [m2]; exact h1) (by omega) (by omega)
      refine ⟨fun k hk => ?_, by rw [j2, m4], by rw [j3, m5]⟩
      rw [j1 k hk, m1 k hk, m3, m4, show n - i = (n - (i + 1)) + 1 by omega, ageN]
/-- the numbers that a minute needs: the first is a flag -/
def SA (A B : Nat → Int32) : Prop := bv (A 0) = bv (B 0) ∧ ∀ i, 1 ≤ i → i ≤ 8 → A i = B i
theorem SA.put {A B : Nat → Int32} {i : Nat} {v : Int32} (h : SA A B) (hi : 1 ≤ i) : SA (upd A i v) (upd B i v) := by
  refine ⟨by rw [upd_ne _ _ (by omega), upd_ne _ _ (by omega)]; exact h.1, fun j h1 h2 => ?_⟩
  by_cases e : j = i
  · rw [e, upd_at, upd_at]
  · rw [upd_ne _ _ e, upd_ne _ _ e]; exact h.2 j h1 h2
theorem sa_wet {A B : Nat → Int32} (h : SA A B) (s t : Int32) : SA (wetA A s t) (wetA B s t) := by
  unfold wetA
  rw [h.2 4 (by decide) (by decide)]
  exact h.put (by decide)
theorem sa_slk {A B : Nat → Int32} (h : SA A B) : SA (slkA A) (slkA B) := by
  unfold slkA
  rw [h.2 5 (by decide) (by decide)]
  exact h.put (by decide)
theorem sa_age {A B : Nat → Int32} (h : SA A B) (m s : Int32) : SA (ageR A m s) (ageR B m s) := by
  unfold ageR
  rw [h.1, h.2 1 (by decide) (by decide), h.2 6 (by decide) (by decide)]
  (repeat' split)
  · exact h.put (by decide)
  · exact sa_slk h
  · exact h
  · exact sa_slk (sa_wet h _ _)
  · exact sa_wet h _ _
theorem sa_ag {A B : Nat → Int32} (h : SA A B) (hm m : Int32) : SA (ag hm m A) (ag hm m B) := by
  unfold ag
  rw [h.2 8 (by decide) (by decide)]
  exact sa_age h _ _
theorem sa_n (hm : Int32) : ∀ (n : Nat) (m : Int32) (A B : Nat → Int32), SA A B → SA (ageN hm n m A) (ageN hm n m B) := by
  intro n
  induction n with
  | zero => intro m A B h; exact h
  | succ n ih => intro m A B h; exact ih (m + 1) _ _ (sa_ag h hm (m + 1))
theorem read_row {M M' : Mem} {r o o' : Nat} (h3 : M' r 3 = M r 3) (h4 : M' r 4 = M r 4) (ho : SA (M' o') (M o)) : fX4_reading M' r o' = fX4_reading M r o := by
  unfold fX4_reading fX4_raw fX4_depression fX4_surrounding fX7_quotient fX7_fixedPointOr
  rw [h3, h4, ho.1, ho.2 4 (by decide) (by decide), ho.2 5 (by decide) (by decide), ho.2 6 (by decide) (by decide), ho.2 7 (by decide) (by decide), ho.2 8 (by decide) (by decide)]
theorem still_row {M M' : Mem} {r o o' : Nat} (h3 : M' r 3 = M r 3) (ho : SA (M' o') (M o)) : fX4_still M' r o' = fX4_still M r o := by
  unfold fX4_still fX4_settled fX4_surrounding fX7_fixedPointOr
  rw [h3, ho.1, ho.2 4 (by decide) (by decide), ho.2 6 (by decide) (by decide), ho.2 8 (by decide) (by decide)]
/-- the probe's minutes -/
theorem probe_loop {n : Nat} (hn : n ≤ 200) (x : Int32) : ∀ (f : Nat) (M : Mem) (j : Nat), 1 ≤ j → j ≤ n + 1 → n + 2 ≤ j + f →
    LX7_readingAfter_35f x (nI n) f M j = fX4_reading (LX7_readingAfter_35g x (nI n) f M j) 1 123 ∧ (∀ p, p ≠ 123 → LX7_readingAfter_35g x (nI n) f M j p = M p) ∧ LX7_readingAfter_35g x (nI n) f M j 123 = ageN (M 1 3) (n + 1 - j) (M 1 2 + nI (j - 1)) (M 123) := by
  intro f
  induction f with
  | zero => intro M j h1 h2 h3; omega
  | succ f ih =>
    intro M j h1 h2 h3
    rw [LX7_readingAfter_35f, LX7_readingAfter_35g]
    by_cases hc : nI n < nI j
    · have : n < j := by rw [nI_ltI (by omega) (by omega)] at hc; exact hc
      rw [if_pos hc, if_pos hc, show n + 1 - j = 0 by omega]
      exact ⟨rfl, fun _ _ => rfl, rfl⟩
    · have hjn : j ≤ n := by rw [nI_ltI (by omega) (by omega)] at hc; omega
      rw [if_neg hc, if_neg hc]
      have hne : ∀ p, p ≠ 123 → gX1_age M 123 (M 1 2 + nI j) (fX4_surrounding M 1 123) p = M p := fun p hp => gX1_age_ne hp
      obtain ⟨i1, i2, i3⟩ := ih (gX1_age M 123 (M 1 2 + nI j) (fX4_surrounding M 1 123)) (j + 1) (by omega) (by omega) (by omega)
      refine ⟨i1, fun p hp => (i2 p hp).trans (hne p hp), ?_⟩
      rw [i3, hne 1 (by decide), ag_row, show n + 1 - j = (n + 1 - (j + 1)) + 1 by omega, ageN]
      have e : M 1 2 + nI (j - 1) + 1 = M 1 2 + nI j := by rw [Int32.add_assoc, nI_1, show j - 1 + 1 = j by omega]
      rw [e, show j + 1 - 1 = j by omega]
/-- the reference's numbers put aside and back -/
theorem gc_aside {M M' N N' : Mem} {c K p : Nat} (h : Gc M N c K p) (hm : ∀ o, o < 123 → M' o = M o) (hp : ∀ q, 125 ≤ q → q < 133 → q ≠ 127 → q ≠ 128 → N' q = N q) (h7 : ∀ t, t < 56 → N' 127 t = N 127 t) (h4 : ∀ j, j < 15 → j ≠ 2 → N' 124 j = N 124 j) : Gc M' N' c K p := by
  obtain ⟨h1, h2, h3, h5, ⟨n, n6, na, nb, nc⟩, ⟨ea, eb⟩, ⟨w, w6, wa, wb, wc⟩, ⟨i1, i2, i3⟩⟩ := h
  refine ⟨⟨pts_row (hp 125 (by decide) (by decide) (by decide) (by decide)) h1.1, rq_ext (fun o _ ho => hm o (by omega)) h7 h1.2⟩, hr_frame h2 (fun o _ ho => hm o (by omega)) (h4 6 (by decide) (by decide)) (hp 129 (by decide) (by decide) (by decide) (by decide)), sl_frame h3 (fun o _ ho => hm o (by omega)) (h4 8 (by decide) (by decide)) (hp 130 (by decide) (by decide) (by decide) (by decide)), keys_row (hp 126 (by decide) (by decide) (by decide) (by decide)) h5, ⟨n, n6, ?_, ?_, ?_⟩, ⟨?_, ?_⟩, ⟨w, w6, ?_, ?_, ?_⟩, cnt_row (hm 12 (by decide)) i1, fun i hi => cnt_row (hm _ (by omega)) (i2 i hi), fun i hi => cnt_row (hm _ (by omega)) (i3 i hi)⟩
  · rw [hm 10 (by decide)]; exact na
  · rw [h4 10 (by decide) (by decide)]; exact nb
  · rw [hm 11 (by decide), hp 131 (by decide) (by decide) (by decide) (by decide)]; exact nc
  · rw [hm 9 (by decide), h4 13 (by decide) (by decide)]; exact ea
  · rw [hm 9 (by decide), h4 14 (by decide) (by decide)]; exact eb
  · rw [hm 121 (by decide)]; exact wa
  · rw [h4 12 (by decide) (by decide)]; exact wb
  · rw [hm 122 (by decide), hp 132 (by decide) (by decide) (by decide) (by decide)]; exact wc
theorem fore_back {M M' N P : Mem} {l : List Nat} {a b v : Int32} {c K p t : Nat} (hg : Gc M N c K p) (hm : ∀ o, o ≠ 123 → M' o = M o) (hP : NK (gX8_putsAside N) P) (hv : v = cd l t) (hab : t = 0 → a = b) : RES M N M' (mU (gX8_putsBack P) 124 2 v) l t a b := by
  obtain ⟨b1, b2, b3⟩ := pb_loop 57 P 0 (by decide) (by decide)
  have a1 := (pa_loop 57 N 0 (by decide) (by decide)).1
  have pb : gX8_putsBack P = LX8_putsBack_2g 57 P 0 := rfl
  have h8 : ∀ t, t < 56 → P 128 t = N 127 t := fun t ht => by rw [hP.1 128 (by decide)]; exact a1 t (Nat.zero_le _) ht
  have hq : ∀ q, q ≠ 124 → q ≠ 127 → q ≠ 128 → mU (gX8_putsBack P) 124 2 v q = N q := fun q h1 h2 h3 => by
    rw [mU_ne _ _ _ h1, pb, b3 q h2, hP.1 q h2, pa_ne h3]
  refine ⟨⟨c, K, p, gc_aside hg (fun o ho => hm o (by omega)) (fun q h1 h2 h3 h4 => hq q (by omega) h3 h4) (fun t ht => ?_) (fun j h1 h2 => ?_)⟩, by rw [mu_same]; exact hv, hab, fun q hq2 => hm q (by omega), fun o ho => hq o (by omega) (by omega) (by omega)⟩
  · rw [mU_ne _ _ _ (by decide), pb, b1 t (Nat.zero_le _) ht]
    exact h8 t ht
  · rw [mU_row h2, pb, b3 124 (by decide), hP.1 124 (by decide), pa_ne (by decide)]
theorem aside_ra {M N : Mem} {c : Nat} (h : RA M N 1 c) : RA M (gX8_putsAside N) 1 c := ⟨pts_row (pa_ne (by decide)) h.1, rr_ext (fun _ _ _ => rfl) (fun t _ => by rw [pa_ne (by decide)]) h.2⟩
theorem sa_probe {M : Mem} {o : Nat} (h : o ≠ 123) : SA (gX1_copyFrom M 123 o 123) (M o) := by
  obtain ⟨a, b⟩ := cp_row (M := M) (o := 123) (q := o) h
  exact ⟨by rw [a, bv_bv2], b⟩
theorem probe_ne {M : Mem} {o : Nat} : ∀ p, p ≠ 123 → gX1_copyFrom M 123 o p = M p := fun p hp => gX1_copyFrom_ne hp
theorem rel_readingAfter {M N : Mem} (h : G M N) (x y : Int32) : RES M N (gX7_readingAfter M x y) (gX8_readingAfter N x y) [1, 2] (tX7_readingAfter M x y) (fX7_readingAfter M x y) (fX8_readingAfter N x y) := by
  obtain ⟨c, K, p, hg⟩ := id h
  unfold gX7_readingAfter gX8_readingAfter tX7_readingAfter fX8_readingAfter
  rcases at_idx hg.1.ra x with ⟨e1, e2⟩ | ⟨k, hk, e0, ek, e1, e2⟩
  · rw [e1, if_neg (show ¬ (1 : Nat) = 0 by decide), if_neg (show ¬ (1 : Nat) = 0 by decide), if_pos e2, if_pos e2]
    exact RES.no h rfl rfl (by decide)
  · rw [if_pos e1, if_pos e1, if_neg e2, if_neg e2]
    unfold fX7_readingAfter
    rw [ek]
    have hc6 := hg.1.2.1.1
    have no : RES M N (gX1_copyFrom M 123 (1 + 1 + 1 + k)) (gX8_refuse N 2) [1, 2] 2 0 (fX8_refuse N 2) :=
      ⟨⟨c, K, p, gc_told (gc_ext hg (fun o ho => probe_ne o (by omega)) (fun _ _ _ _ => rfl) (fun _ _ _ => rfl)) 2⟩, mu_same _ _ _ _, fun hh => absurd hh (by decide), fun q hq => probe_ne q (by omega), fun o ho => mU_ne _ _ _ (by omega)⟩
    by_cases h0 : y < 0
    · rw [if_pos h0, if_pos h0, if_pos h0, if_pos (in_no (Or.inl h0)), if_pos (in_no (Or.inl h0))]
      exact no
    · rw [if_neg h0, if_neg h0, if_neg h0]
      by_cases h1 : y ≤ 200
      · rw [if_pos h1, if_pos h1, if_pos h1, if_neg (in_yes h0 h1), if_neg (in_yes h0 h1), LX8_readingAfter_41g, LX8_readingAfter_41f, ek]
        obtain ⟨n, hn, rfl⟩ := rng_ub (a := 0) (b := 200) h0 h1
        obtain ⟨l1, l2, l3⟩ := probe_loop hn x 201 (gX1_copyFrom M 123 (1 + 1 + 1 + k)) 1 (Nat.le_refl _) (by omega) (by omega)
        have hra := aside_ra hg.1.ra
        have hps := (pass_rel (nI n) hra (by decide)).1
        obtain ⟨p1, p2, p3⟩ := pass_rows (r := 1) hc6 hn (M 1 7) 201 M 0 (hg.1.ra.many.trans hg.1.2.1.2.1) (Nat.zero_le _) (by omega)
        refine fore_back (P := gX8_passes (gX8_putsAside N) (nI n)) (v := 0) hg (fun o ho => (l2 o ho).trans (probe_ne o ho)) (nk_ps _ _) rfl (fun _ => ?_)
        show _ = fX8_reading (gX8_passes (gX8_putsAside N) (nI n)) k
        rw [l1, ← read_eq (hps.one hk)]
        refine read_row ?_ ?_ ?_
        · rw [l2 1 (by decide), probe_ne 1 (by decide)]; exact p2.symm
        · rw [l2 1 (by decide), probe_ne 1 (by decide)]; exact p3.symm
        · rw [l3, probe_ne 1 (by decide)]
          show SA _ (LX4_pass_7g 1 (nI n) 201 M (M 1 7) 0 (1 + 1 + 1 + k))
          rw [p1 k hk, show n + 1 - 1 = n - 0 by omega, show M 1 2 + nI (1 - 1) = M 1 2 from Int32.add_zero _]
          exact sa_n _ _ _ _ _ (sa_probe (by omega))
      · rw [if_neg h1, if_neg h1, if_neg h1, if_pos (in_no (Or.inr h1)), if_pos (in_no (Or.inr h1))]
        exact no
/-- until it is still -/
theorem still_loop {c k : Nat} (hk : k < c) (x : Int32) (hx : x.toNatClampNeg = k) {m0 : Int32} : ∀ (f : Nat) (M V N : Mem) (j : Nat), RA V N 1 c → SA (M 123) (V (1 + 1 + 1 + k)) → V 1 3 = M 1 3 → V 1 2 = M 1 2 + nI j → j ≤ 200 → 201 ≤ j + f →
    ∃ P, NK N P ∧ LX8_minutesUntilStill_20g x f N j = mU (gX8_putsBack P) 124 2 0 ∧ LX7_minutesUntilStill_14f x (f + 1) M j = LX8_minutesUntilStill_20f x f N j ∧ ∀ p, p ≠ 123 → LX7_minutesUntilStill_14g x (f + 1) M j p = M p := by
  intro f
  induction f with
  | zero => intro M V N j h1 h2 h3 h4 h5 h6; omega
  | succ f ih =>
    intro M V N j h1 h2 h3 h4 h5 h6
    have hst : fX4_still M 1 123 = fX8_isStill N k := (still_row h3.symm h2).trans (still_eq (h1.one hk))
    rw [LX8_minutesUntilStill_20g, LX7_minutesUntilStill_14f, LX8_minutesUntilStill_20f, LX7_minutesUntilStill_14g, hx, hst]
    have hc : ¬ (200 : Int32) < nI j := by rw [show (200 : Int32) = nI 200 from rfl, nI_ltI (by omega) (by omega)]; omega
    rw [if_neg hc, if_neg hc]
    by_cases hs : fX8_isStill N k = 0
    · rw [if_pos hs, if_pos hs, if_pos hs, if_pos hs]
      by_cases h200 : (200 : Int32) ≤ nI j
      · have hj : j = 200 := by rw [show (200 : Int32) = nI 200 from rfl, nI_leI (by omega) (by omega)] at h200; omega
        rw [if_pos h200, if_pos h200, LX8_minutesUntilStill_46g, LX8_minutesUntilStill_46f, hx, if_pos hs, if_pos hs]
        have hc2 : (200 : Int32) < nI (j + 1) := by rw [hj]; decide
        rw [LX7_minutesUntilStill_14f, LX7_minutesUntilStill_14g, if_pos hc2, if_pos hc2]
        exact ⟨N, NK.refl N, rfl, rfl, fun p hp => gX1_age_ne hp⟩
      · have hj : j < 200 := by rw [show (200 : Int32) = nI 200 from rfl, nI_leI (by omega) (by omega)] at h200; omega
        rw [if_neg h200, if_neg h200]
        have hc6 := h1.2.1
        obtain ⟨m1, m2, m3, m4, m5⟩ := min_rows (r := 1) (c := c) x hc6 (h1.many.trans h1.2.2.1)
        have hne : ∀ p, p ≠ 123 → gX1_age M 123 (M 1 2 + nI j + 1) (fX4_surrounding M 1 123) p = M p := fun p hp => gX1_age_ne hp
        obtain ⟨P, q1, q2, q3, q4⟩ := ih (gX1_age M 123 (M 1 2 + nI j + 1) (fX4_surrounding M 1 123)) (gMin V 1 x) (gX8_passesMinute N) (j + 1) (min_rel x h1 (by decide)).1 (by
          rw [ag_row, m1 k hk, h3, h4]
          exact sa_ag h2 _ _) (by rw [m4, hne 1 (by decide)]; exact h3) (by rw [m3, hne 1 (by decide), h4, Int32.add_assoc, nI_1]) (by omega) (by omega)
        exact ⟨P, (nk_pm N).trans q1, q2, q3, fun p hp => (q4 p hp).trans (hne p hp)⟩
    · rw [if_neg hs, if_neg hs, if_neg hs, if_neg hs, LX8_minutesUntilStill_46g, LX8_minutesUntilStill_46f, hx, if_neg hs, if_neg hs]
      exact ⟨N, NK.refl N, rfl, rfl, fun _ _ => rfl⟩
theorem rel_minutesUntilStill {M N : Mem} (h : G M N) (x : Int32) : RES M N (gX7_minutesUntilStill M x) (gX8_minutesUntilStill N x) [1] (tX7_minutesUntilStill M x) (fX7_minutesUntilStill M x) (fX8_minutesUntilStill N x) := by
  obtain ⟨c, K, p, hg⟩ := id h
  unfold gX7_minutesUntilStill gX8_minutesUntilStill tX7_minutesUntilStill fX8_minutesUntilStill
  rcases at_idx hg.1.ra x with ⟨e1, e2⟩ | ⟨k, hk, e0, ek, e1, e2⟩
  · rw [e1, if_neg (show ¬ (1 : Nat) = 0 by decide), if_neg (show ¬ (1 : Nat) = 0 by decide), if_pos e2, if_pos e2]
    exact RES.no h rfl rfl (by decide)
  · rw [if_pos e1, if_pos e1, if_neg e2, if_neg e2]
    unfold fX7_minutesUntilStill
    rw [ek]
    have hc6 := hg.1.2.1.1
    obtain ⟨P, q1, q2, q3, q4⟩ := still_loop (m0 := 0) hk x ek 201 (gX1_copyFrom M 123 (1 + 1 + 1 + k)) M (gX8_putsAside N) 0 (aside_ra hg.1.ra) (sa_probe (by omega)) (by rw [probe_ne 1 (by decide)]) (by rw [probe_ne 1 (by decide)]; exact (Int32.add_zero _).symm) (Nat.zero_le _) (by decide)
    rw [q2, q3]
    exact fore_back (v := 0) hg (fun o ho => (q4 o ho).trans (probe_ne o ho)) q1 rfl (fun _ => rfl)
