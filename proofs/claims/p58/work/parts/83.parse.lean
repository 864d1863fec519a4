/-! the reader's draft; a whole text of room(k, r) is read -/
def DRI (c : Nat) (M : Mem) : Prop := c ≤ 6 ∧ M 12 1 = nI c ∧ M 12 2 = 0 ∧ UB (M 12 3) 100 ∧ UB (M 12 4) 40 ∧ UB (M 12 5) 5 ∧ M 12 6 = 0 ∧ M 12 7 = 0 ∧ ∀ k, k < c → IOK (M (14 + k)) ∧ M (14 + k) 3 = 0 ∧ M (14 + k) 1 = M (14 + k) 2
theorem DRI.tn {c : Nat} {M N : Mem} (h : DRI c M) (hN : TN M N) : DRI c N := by
  unfold DRI at h ⊢
  rw [hN.1 12 (by decide)]
  refine ⟨h.1, h.2.1, h.2.2.1, h.2.2.2.1, h.2.2.2.2.1, h.2.2.2.2.2.1, h.2.2.2.2.2.2.1, h.2.2.2.2.2.2.2.1, fun k hk => ?_⟩
  rw [hN.1 (14 + k) (by omega)]
  exact h.2.2.2.2.2.2.2.2 k hk
/-- nothing is written but the reader and its draft -/
def KP (M N : Mem) : Prop := ∀ p, p ≠ 9 → p ≠ 10 → (p < 12 ∨ 20 ≤ p) → N p = M p
theorem KP.rf (M : Mem) : KP M M := fun _ _ _ _ => rfl
theorem KP.trans {M N R : Mem} (h1 : KP M N) (h2 : KP N R) : KP M R := fun p a b c => (h2 p a b c).trans (h1 p a b c)
theorem TN.kp {M N : Mem} (h : TN M N) : KP M N := fun p _ b _ => h.1 p b
theorem KP.put (M : Mem) {o : Nat} (k : Nat) (v : Int32) (ho : 12 ≤ o ∧ o < 20) : KP M (mU M o k v) := fun p _ _ c => mU_ne M k v (by omega)
theorem ub_nI {v N : Nat} (h : v ≤ N) : UB (nI v) N := ⟨v, h, rfl⟩
theorem ub_0 (N : Nat) : UB 0 N := ⟨0, Nat.zero_le _, rfl⟩
theorem dr_begin {M : Mem} {h t q : Nat} (hh : h ≤ 100) (ht : t ≤ 40) (hq : q ≤ 5) : DRI 0 (gX4_begin M 12 (nI h) (nI t) (nI q)) ∧ ∀ p, p ≠ 12 → gX4_begin M 12 (nI h) (nI t) (nI q) p = M p := by
  have e : gX4_begin M 12 (nI h) (nI t) (nI q) 12 = upd (upd (upd (upd (upd (upd (upd (M 12) 1 0) 2 0) 3 (nI h)) 4 (nI t)) 5 (nI q)) 6 0) 7 0 := by
    unfold gX4_begin
    simp only [mU_at]
  refine ⟨⟨by omega, ?_, ?_, ?_, ?_, ?_, ?_, ?_, fun k hk => absurd hk (Nat.not_lt_zero k)⟩, fun p hp => by unfold gX4_begin; simp only [mU, if_neg hp]⟩
  all_goals rw [e]
  · rfl
  · rfl
  · exact ub_nI hh
  · exact ub_nI ht
  · exact ub_nI hq
  · rfl
  · rfl
theorem cnt_6 {c : Nat} (hc : c < 6) : ¬ (6 : Int32) ≤ nI c := show ¬ nI 6 ≤ nI c from nI_ge hc (by omega)
/-- one row more in the draft -/
theorem dr_more {c : Nat} {M N : Mem} (h : DRI c M) (hc : c < 6) (h12 : ∀ k, k ≠ 1 → N 12 k = M 12 k) (h1 : N 12 1 = nI (c + 1)) (hrow : ∀ p, p ≠ 12 → p ≠ 14 + c → N p = M p) (hok : IOK (N (14 + c)) ∧ N (14 + c) 3 = 0 ∧ N (14 + c) 1 = N (14 + c) 2) : DRI (c + 1) N := by
  obtain ⟨_, _, a2, a3, a4, a5, a6, a7, a8⟩ := h
  refine ⟨by omega, h1, ?_, ?_, ?_, ?_, ?_, ?_, fun k hk => ?_⟩
  · rw [h12 2 (by decide)]; exact a2
  · rw [h12 3 (by decide)]; exact a3
  · rw [h12 4 (by decide)]; exact a4
  · rw [h12 5 (by decide)]; exact a5
  · rw [h12 6 (by decide)]; exact a6
  · rw [h12 7 (by decide)]; exact a7
  · by_cases hkc : k = c
    · subst hkc; exact hok
    · rw [hrow (14 + k) (by omega) (by omega)]
      exact a8 k (by omega)
theorem dr_hair {c n : Nat} {M : Mem} (h : DRI c M) (hc : c < 6) (hn : n ≤ 20) : DRI (c + 1) (gX4_newHair M 12 (nI n)) ∧ ∀ p, p ≠ 12 → p ≠ 14 + c → gX4_newHair M 12 (nI n) p = M p := by
  obtain ⟨R, hR⟩ : ∃ z, z = gX1_becomeHair M (14 + c) (nI n) (M 12 3) := ⟨_, rfl⟩
  have eR : ∀ p, p ≠ 14 + c → R p = M p := fun p hp => by rw [hR]; unfold gX1_becomeHair gX1_clear; simp only [mU, if_neg hp]
  have e : gX4_newHair M 12 (nI n) = mU R 12 1 (nI (c + 1)) := by
    unfold gX4_newHair
    rw [h.2.1, if_neg (cnt_6 hc), nI_clamp (by omega), show 12 + 1 + 1 + c = 14 + c by omega, ← hR, eR 12 (by omega), h.2.1, ← nI_succ]
  have er : R (14 + c) = upd (upd (upd (upd (upd (upd (upd (upd (upd (upd (upd (upd (upd (M (14 + c)) 0 0) 1 0) 2 0) 3 0) 4 0) 5 0) 6 0) 7 0) 8 (-1)) 0 1) 1 (nI n)) 2 (nI n)) 4 (M 12 3) := by
    rw [hR]
    unfold gX1_becomeHair gX1_clear
    simp only [mU_at]
  have e2 : mU R 12 1 (nI (c + 1)) (14 + c) = R (14 + c) := mU_ne R _ _ (by omega)
  rw [e]
  refine ⟨dr_more h hc (fun k hk => ?_) ?_ (fun p p1 p2 => by rw [mU_ne R _ _ p1, eR p p2]) ?_, fun p p1 p2 => by rw [mU_ne R _ _ p1, eR p p2]⟩
  · rw [mU_at]; unfold upd; rw [if_neg hk, eR 12 (by omega)]
  · rw [mU_at]; unfold upd; rw [if_pos rfl]
  · rw [e2, er]
    exact ⟨⟨ub_nI hn, h.2.2.2.1, ub_0 _, ub_0 _, Or.inl rfl, fun _ => rfl, fun _ => rfl⟩, rfl, rfl⟩
theorem dr_bulb {c n : Nat} {M : Mem} (h : DRI c M) (hc : c < 6) (hn : n ≤ 60) : DRI (c + 1) (gX4_newBulb M 12 (nI n)) ∧ ∀ p, p ≠ 12 → p ≠ 14 + c → gX4_newBulb M 12 (nI n) p = M p := by
  obtain ⟨R, hR⟩ : ∃ z, z = gX1_becomeBulb M (14 + c) (nI n) := ⟨_, rfl⟩
  have eR : ∀ p, p ≠ 14 + c → R p = M p := fun p hp => by rw [hR]; unfold gX1_becomeBulb gX1_clear; simp only [mU, if_neg hp]
  have e : gX4_newBulb M 12 (nI n) = mU R 12 1 (nI (c + 1)) := by
    unfold gX4_newBulb
    rw [h.2.1, if_neg (cnt_6 hc), nI_clamp (by omega), show 12 + 1 + 1 + c = 14 + c by omega, ← hR, eR 12 (by omega), h.2.1, ← nI_succ]
  have er : R (14 + c) = upd (upd (upd (upd (upd (upd (upd (upd (upd (upd (M (14 + c)) 0 0) 1 0) 2 0) 3 0) 4 0) 5 0) 6 0) 7 0) 8 (-1)) 6 (nI n) := by
    rw [hR]
    unfold gX1_becomeBulb gX1_clear
    simp only [mU_at]
  have e2 : mU R 12 1 (nI (c + 1)) (14 + c) = R (14 + c) := mU_ne R _ _ (by omega)
  rw [e]
  refine ⟨dr_more h hc (fun k hk => ?_) ?_ (fun p p1 p2 => by rw [mU_ne R _ _ p1, eR p p2]) ?_, fun p p1 p2 => by rw [mU_ne R _ _ p1, eR p p2]⟩
  · rw [mU_at]; unfold upd; rw [if_neg hk, eR 12 (by omega)]
  · rw [mU_at]; unfold upd; rw [if_pos rfl]
  · rw [e2, er]
    exact ⟨⟨ub_0 _, ub_0 _, ub_0 _, ub_nI hn, Or.inl rfl, fun _ => rfl, fun h => absurd rfl h⟩, rfl, rfl⟩
theorem dr_hum {c v : Nat} {M : Mem} (h : DRI c M) (hv : v ≤ 100) : DRI c (mU M 12 3 (nI v)) := by
  obtain ⟨a0, a1, a2, a3, a4, a5, a6, a7, a8⟩ := h
  have e : ∀ k, k ≠ 3 → mU M 12 3 (nI v) 12 k = M 12 k := fun k hk => by rw [mU_at]; unfold upd; rw [if_neg hk]
  refine ⟨a0, ?_, ?_, ?_, ?_, ?_, ?_, ?_, fun k hk => ?_⟩
  · rw [e 1 (by decide)]; exact a1
  · rw [e 2 (by decide)]; exact a2
  · rw [mU_at]; unfold upd; rw [if_pos rfl]; exact ub_nI hv
  · rw [e 4 (by decide)]; exact a4
  · rw [e 5 (by decide)]; exact a5
  · rw [e 6 (by decide)]; exact a6
  · rw [e 7 (by decide)]; exact a7
  · rw [mU_ne M _ _ (by omega)]
    exact a8 k hk
/-- one number more is taken -/
theorem take_step {M : Mem} {L P R : List Int32} {v lo hi : Nat} (hB : BF M L) (hL : L = P ++ ([32] ++ (dig v ++ R))) (he : M 10 4 = nI P.length) (hv : v ≤ 100) (h9 : M 9 2 = 0) (hlo : lo ≤ v) (hhi : v ≤ hi) (hh : hi ≤ 100) (hR : stopK 2 R) : fX3_takeNumber M (nI lo) (nI hi) = nI v ∧ ∃ N, gX3_takeNumber M (nI lo) (nI hi) = N ∧ TN M N ∧ BF N L ∧ L = (P ++ ([32] ++ dig v)) ++ R ∧ N 10 4 = nI (P ++ ([32] ++ dig v)).length ∧ N 9 2 = 0 := by
  obtain ⟨a, b, c, d⟩ := take_dig hB hL he hv h9 hlo hhi hh hR
  refine ⟨a, _, b, c, hB.tn c, by rw [hL]; simp only [List.append_assoc], d, by rw [c.1 9 (by decide)]; exact h9⟩
def roomW : List Int32 := [114, 111, 111, 109]
def hairW : List Int32 := [104, 97, 105, 114]
def bulbW : List Int32 := [98, 117, 108, 98]
def humW : List Int32 := [104, 117, 109, 105, 100, 105, 116, 121]
theorem kN_W : (∀ x ∈ roomW, kN x = 1) ∧ (∀ x ∈ hairW, kN x = 1) ∧ (∀ x ∈ bulbW, kN x = 1) ∧ ∀ x ∈ humW, kN x = 1 := by decide +kernel
theorem wCh_W : (∀ i, i < 4 → roomW.getD i 0 = wCh 0 i) ∧ (∀ i, i < 4 → hairW.getD i 0 = wCh 1 i) ∧ (∀ i, i < 4 → bulbW.getD i 0 = wCh 2 i) ∧ ∀ i, i < 8 → humW.getD i 0 = wCh 7 i := by decide +kernel
theorem stop32 {K : Int32} (hK : K = 1 ∨ K = 2) (R : List Int32) : stopK K ([32] ++ R) := Or.inr (by show ¬ kN 32 = K; rcases hK with h | h <;> rw [h] <;> decide +kernel)
theorem stop59 {K : Int32} (hK : K = 1 ∨ K = 2) (R : List Int32) : stopK K ([59] ++ R) := Or.inr (by show ¬ kN 59 = K; rcases hK with h | h <;> rw [h] <;> decide +kernel)
/-- a word is read at the cursor -/
theorem word_step {M : Mem} {L P R : List Int32} (X : List Int32) (hB : BF M L) (hL : L = P ++ (X ++ ([32] ++ R))) (he : M 10 4 = nI P.length) (hX : 0 < X.length) (hXK : ∀ x ∈ X, kN x = 1) (hj : fX6_isRun M = 0) : ∃ N, gX6_next M = N ∧ TN M N ∧ BF N L ∧ L = (P ++ X) ++ ([32] ++ R) ∧ N 10 3 = nI P.length ∧ N 10 4 = nI (P.length + X.length) ∧ N 10 4 = nI (P ++ X).length ∧ N 10 5 = 1 ∧ ∀ i, i < X.length → N 11 (P.length + i) = X.getD i 0 := by
  have hL' : L = P ++ ([] ++ (X ++ ([32] ++ R))) := hL
  obtain ⟨t1, t2, t3, t4⟩ := next_list (bl := []) (X := X) hB hL' (Or.inl rfl) he (fun x hx => absurd hx List.not_mem_nil) hX hXK (stop32 (Or.inl rfl) R) (fun h => absurd h (by decide)) (Or.inl hj)
  have t3' : gX6_next M 10 4 = nI (P ++ X).length := t3
  refine ⟨_, rfl, t1, hB.tn t1, by rw [hL]; simp only [List.append_assoc], t2, by rw [t3', List.length_append], t3', t4, fun i hi => tok_byte (bl := []) (hB.tn t1) hL' hi⟩
theorem read_head {M : Mem} {L R : List Int32} {h t q : Nat} (hh : h ≤ 100) (ht : t ≤ 40) (hq : q ≤ 5) (hB : BF M L) (hL : L = roomW ++ ([32] ++ (dig h ++ ([32] ++ (dig t ++ ([32] ++ (dig q ++ ([59] ++ R)))))))) (he : M 10 4 = 0) (h5 : M 10 5 = 0) (h9 : M 9 2 = 0) : ∃ N P, gX3_readHead M = N ∧ KP M N ∧ BF N L ∧ L = P ++ ([59] ++ R) ∧ N 10 4 = nI P.length ∧ N 9 2 = 0 ∧ N 10 1 = M 10 1 ∧ DRI 0 N := by
  have hl := hB.2.2
  obtain ⟨N1, n1, n2, n3, n4, n5, n6, n7, n8, n9⟩ := word_step (P := []) roomW hB hL he (by decide) kN_W.1 (by unfold fX6_isRun; rw [h5]; rfl)
  have w1 : fX6_isWord N1 0 = 1 := word_yes (a := 0) (by decide) (by decide) n5 (by rw [n6]; rfl) n8 (fun i hi => by have := n9 i hi; rw [show ([] : List Int32).length + i = 0 + i from rfl] at this; rw [this]; exact wCh_W.1 i hi)
  obtain ⟨a1, M1, b1, c1, d1, e1, f1, g1⟩ := take_step (lo := 0) (hi := 100) n3 n4 n7 hh (by rw [n2.1 9 (by decide)]; exact h9) (by omega) hh (by omega) (stop32 (Or.inr rfl) _)
  obtain ⟨a2, M2, b2, c2, d2, e2, f2, g2⟩ := take_step (lo := 0) (hi := 40) d1 e1 f1 (by omega) g1 (by omega) ht (by omega) (stop32 (Or.inr rfl) _)
  obtain ⟨a3, M3, b3, c3, d3, e3, f3, g3⟩ := take_step (lo := 0) (hi := 5) d2 e2 f2 (by omega) g2 (by omega) hq (by omega) (stop59 (Or.inr rfl) _)
  have a1 : fX3_takeNumber N1 0 100 = nI h := a1
  have a2 : fX3_takeNumber M1 0 40 = nI t := a2
  have a3 : fX3_takeNumber M2 0 5 = nI q := a3
  have b1 : gX3_takeNumber N1 0 100 = M1 := b1
  have b2 : gX3_takeNumber M1 0 40 = M2 := b2
  have b3 : gX3_takeNumber M2 0 5 = M3 := b3
  obtain ⟨k1, k2⟩ := dr_begin (M := M3) hh ht hq
  refine ⟨gX4_begin M3 12 (nI h) (nI t) (nI q), _, ?_, ?_, ?_, e3, ?_, ?_, ?_, k1⟩
  · unfold gX3_readHead
    rw [n1, w1, if_neg (by decide), b1, b2, b3, if_pos g3, a1, a2, a3]
  · exact (((n2.trans c1).trans c2).trans c3).kp.trans (fun p _ _ hp => k2 p (by omega))
  · exact ⟨fun j hj => by rw [k2 11 (by decide)]; exact d3.1 j hj, by rw [k2 10 (by decide)]; exact d3.2.1, hl⟩
  · rw [k2 10 (by decide)]; exact f3
  · rw [k2 9 (by decide)]; exact g3
  · rw [k2 10 (by decide)]; exact (((n2.trans c1).trans c2).trans c3).2.1
/-- the state between two lines -/
def LST (M0 M : Mem) (L P : List Int32) (c : Nat) : Prop := KP M0 M ∧ BF M L ∧ M 10 4 = nI P.length ∧ M 9 2 = 0 ∧ DRI c M
theorem semi_step {M0 M : Mem} {L P R : List Int32} {c : Nat} (h : LST M0 M L P c) (hL : L = P ++ ([59] ++ R)) : ∃ N, gX6_next M = N ∧ N 10 5 = 3 ∧ LST M0 N L (P ++ [59]) c ∧ L = (P ++ [59]) ++ R ∧ fX6_isRun N = 0 := by
  obtain ⟨h0, h1, h2, h3, h4⟩ := h
  have hlen : L.length = P.length + (1 + R.length) := by rw [hL]; simp only [List.length_append]; rfl
  have h59 : L.getD P.length 0 = 59 := by
    have := getD_app P ([59] ++ R) 0
    rw [hL]
    exact this
  obtain ⟨t1, t2, t3, t4⟩ := next_semi h1 h2 (by omega) (by rw [h59]; decide +kernel)
  refine ⟨_, rfl, t4, ⟨h0.trans t1.kp, h1.tn t1, ?_, by rw [t1.1 9 (by decide)]; exact h3, h4.tn t1⟩, by rw [hL]; simp only [List.append_assoc], ?_⟩
  · rw [t3]; congr 1; simp
  · unfold fX6_isRun; rw [t4]; rfl
theorem line_hair {M0 M : Mem} {L P R : List Int32} {c n : Nat} (h : LST M0 M L P c) (hr : fX6_isRun M = 0) (hc : c < 6) (h1 : 1 ≤ n) (h20 : n ≤ 20) (hL : L = P ++ (hairW ++ ([32] ++ (dig n ++ ([59] ++ R))))) : ∃ N P', gX3_readLine M = N ∧ LST M0 N L P' (c + 1) ∧ L = P' ++ ([59] ++ R) := by
  obtain ⟨k0, k1, k2, k3, k4⟩ := h
  have hl := k1.2.2
  have hlen : L.length = P.length + (4 + (1 + ((dig n).length + (1 + R.length)))) := by rw [hL]; simp only [List.length_append]; rfl
  obtain ⟨N1, n1, n2, n3, n4, n5, n6, n7, n8, n9⟩ := word_step hairW k1 hL k2 (by decide) kN_W.2.1 hr
  have w1 : fX6_isWord N1 1 = 1 := word_yes (by decide) (by omega) n5 n6 n8 (fun i hi => (n9 i hi).trans (wCh_W.2.1 i hi))
  have d1 := k4.tn n2
  obtain ⟨a1, M1, b1, c1, e1, f1, g1, i1⟩ := take_step (lo := 1) (hi := 20) n3 n4 n7 (by omega) (by rw [n2.1 9 (by decide)]; exact k3) h1 h20 (by omega) (stop59 (Or.inr rfl) R)
  have a1 : fX3_takeNumber N1 1 20 = nI n := a1
  have b1 : gX3_takeNumber N1 1 20 = M1 := b1
  obtain ⟨q1, q2⟩ := dr_hair (d1.tn c1) hc h20
  refine ⟨gX4_newHair M1 12 (nI n), _, ?_, ⟨((k0.trans n2.kp).trans c1.kp).trans (fun p _ _ hp => q2 p (by omega) (by omega)), ⟨fun j hj => by rw [q2 11 (by decide) (by omega)]; exact e1.1 j hj, by rw [q2 10 (by decide) (by omega)]; exact e1.2.1, hl⟩, by rw [q2 10 (by decide) (by omega)]; exact g1, by rw [q2 9 (by decide) (by omega)]; exact i1, q1⟩, f1⟩
  unfold gX3_readLine
  rw [n1, w1, if_neg (by decide)]
  unfold gX3_readHair
  rw [d1.2.1, if_neg (show ¬ nI c = (6 : Int32) from nI_nq (b := 6) (by omega) (by omega) (by omega)), b1, if_pos i1, a1]
theorem line_bulb {M0 M : Mem} {L P R : List Int32} {c n : Nat} (h : LST M0 M L P c) (hr : fX6_isRun M = 0) (hc : c < 6) (h60 : n ≤ 60) (hL : L = P ++ (bulbW ++ ([32] ++ (dig n ++ ([59] ++ R))))) : ∃ N P', gX3_readLine M = N ∧ LST M0 N L P' (c + 1) ∧ L = P' ++ ([59] ++ R) := by
  obtain ⟨k0, k1, k2, k3, k4⟩ := h
  have hl := k1.2.2
  have hlen : L.length = P.length + (4 + (1 + ((dig n).length + (1 + R.length)))) := by rw [hL]; simp only [List.length_append]; rfl
  obtain ⟨N1, n1, n2, n3, n4, n5, n6, n7, n8, n9⟩ := word_step bulbW k1 hL k2 (by decide) kN_W.2.2.1 hr
  have w1 : fX6_isWord N1 1 = 0 := word_first (by decide) (show P.length < 2 ^ 10 by omega) n5 n6 (by have := n9 0 (by decide); rw [Nat.add_zero] at this; rw [this]; decide +kernel) (by decide)
  have w2 : fX6_isWord N1 2 = 1 := word_yes (by decide) (by omega) n5 n6 n8 (fun i hi => (n9 i hi).trans (wCh_W.2.2.1 i hi))
  have d1 := k4.tn n2
  obtain ⟨a1, M1, b1, c1, e1, f1, g1, i1⟩ := take_step (lo := 0) (hi := 60) n3 n4 n7 (by omega) (by rw [n2.1 9 (by decide)]; exact k3) (by omega) h60 (by omega) (stop59 (Or.inr rfl) R)
  have a1 : fX3_takeNumber N1 0 60 = nI n := a1
  have b1 : gX3_takeNumber N1 0 60 = M1 := b1
  obtain ⟨q1, q2⟩ := dr_bulb (d1.tn c1) hc h60
  refine ⟨gX4_newBulb M1 12 (nI n), _, ?_, ⟨((k0.trans n2.kp).trans c1.kp).trans (fun p _ _ hp => q2 p (by omega) (by omega)), ⟨fun j hj => by rw [q2 11 (by decide) (by omega)]; exact e1.1 j hj, by rw [q2 10 (by decide) (by omega)]; exact e1.2.1, hl⟩, by rw [q2 10 (by decide) (by omega)]; exact g1, by rw [q2 9 (by decide) (by omega)]; exact i1, q1⟩, f1⟩
  unfold gX3_readLine
  rw [n1, w1, if_pos rfl, w2, if_neg (by decide)]
  unfold gX3_readBulb
  rw [d1.2.1, if_neg (show ¬ nI c = (6 : Int32) from nI_nq (b := 6) (by omega) (by omega) (by omega)), b1, if_pos i1, a1]
theorem line_hum {M0 M : Mem} {L P : List Int32} {c n : Nat} (h : LST M0 M L P c) (hr : fX6_isRun M = 0) (hn : n ≤ 100) (hL : L = P ++ (humW ++ ([32] ++ (dig n ++ [])))) : ∃ N, gX3_readLine M = N ∧ LST M0 N L L c := by
  obtain ⟨k0, k1, k2, k3, k4⟩ := h
  have hl := k1.2.2
  have hlen : L.length = P.length + (8 + (1 + ((dig n).length + 0))) := by rw [hL]; simp only [List.length_append]; rfl
  obtain ⟨N1, n1, n2, n3, n4, n5, n6, n7, n8, n9⟩ := word_step humW k1 hL k2 (by decide) kN_W.2.2.2 hr
  have hw : ∀ w, w < 9 → (8 : Nat) ≠ wrdN.getD w 0 → fX6_isWord N1 w = 0 := fun w h1 h2 => word_len h1 (show P.length < 2 ^ 10 by omega) (by decide) n5 n6 h2
  have w7 : fX6_isWord N1 7 = 1 := word_yes (by decide) (by omega) n5 n6 n8 (fun i hi => (n9 i hi).trans (wCh_W.2.2.2 i hi))
  have d1 := k4.tn n2
  obtain ⟨a1, M1, b1, c1, e1, f1, g1, i1⟩ := take_step (lo := 0) (hi := 100) n3 n4 n7 (by omega) (by rw [n2.1 9 (by decide)]; exact k3) (by omega) hn (by omega) (Or.inl rfl)
  have a1 : fX3_takeNumber N1 0 100 = nI n := a1
  have b1 : gX3_takeNumber N1 0 100 = M1 := b1
  have q1 := dr_hum (d1.tn c1) hn
  have g1 : M1 10 4 = nI L.length := by rw [g1, show L.length = ((P ++ humW ++ ([32] ++ dig n)) ++ []).length from by rw [← f1], List.append_nil]
  refine ⟨mU M1 12 3 (nI n), ?_, ⟨((k0.trans n2.kp).trans c1.kp).trans (KP.put M1 _ _ (by decide)), ⟨fun j hj => by rw [mU_ne M1 _ _ (by decide)]; exact e1.1 j hj, by rw [mU_ne M1 _ _ (by decide)]; exact e1.2.1, hl⟩, by rw [mU_ne M1 _ _ (by decide)]; exact g1, by rw [mU_ne M1 _ _ (by decide)]; exact i1, q1⟩⟩
  unfold gX3_readLine
  rw [n1, hw 1 (by decide) (by decide), if_pos rfl, hw 2 (by decide) (by decide), if_pos rfl, hw 3 (by decide) (by decide), if_pos rfl, hw 4 (by decide) (by decide), if_pos rfl, hw 5 (by decide) (by decide), if_pos rfl, hw 6 (by decide) (by decide), if_pos rfl, w7, if_neg (by decide)]
  unfold gX3_readHumidity
  rw [b1, if_pos i1, a1]
/-- one line of the loop -/
theorem parse_one {M0 M : Mem} {L P R : List Int32} {c f j n : Nat} (h : LST M0 M L P c) (hL : L = P ++ ([59] ++ R)) (hj : j ≤ n) (hn : n < 2 ^ 20) : ∃ N, LX3_parse_24g (nI n) (f + 1) M j = LX3_parse_24g (nI n) f (gX3_readLine N) (j + 1) ∧ LST M0 N L (P ++ [59]) c ∧ L = (P ++ [59]) ++ R ∧ fX6_isRun N = 0 := by
  obtain ⟨N, s1, s2, s3, s4, s5⟩ := semi_step h hL
  refine ⟨N, ?_, s3, s4, s5⟩
  rw [LX3_parse_24g, if_neg (nI_nlt hj (by omega)), if_pos h.2.2.2.1, s1, s2, if_neg (by decide), if_pos rfl]
theorem insTs_cons (x : Bool × Nat) (I : List (Bool × Nat)) : insTs (x :: I) = insT x ++ insTs I := rfl
theorem parse_lines {M0 : Mem} {L : List Int32} {n h2 : Nat} (hh : h2 ≤ 100) (hn : n < 2 ^ 20) : ∀ (I : List (Bool × Nat)) (f c j : Nat) (M : Mem) (P : List Int32), (∀ x ∈ I, insOk x) → c + I.length ≤ 6 → I.length + 2 ≤ f → j + I.length + 1 ≤ n → LST M0 M L P c → L = P ++ (insTs I ++ (humT ++ dig h2)) → ∃ N, LX3_parse_24g (nI n) f M j = N ∧ KP M0 N ∧ N 9 2 = 0 ∧ N 10 1 = 0 ∧ DRI (c + I.length) N := by
  intro I
  induction I with
  | nil =>
    intro f c j M P _ hc hf hj h hL
    obtain ⟨f, rfl⟩ : ∃ g, f = g + 1 + 1 := ⟨f - 2, by have : 0 + 2 ≤ f := hf; omega⟩
    have hL1 : L = P ++ ([59] ++ (humW ++ ([32] ++ (dig h2 ++ [])))) := by rw [hL, List.append_nil]; rfl
    have hj1 : j + 0 + 1 ≤ n := hj
    obtain ⟨N, p1, p2, p3, p4⟩ := parse_one (f := f + 1) h hL1 (show j ≤ n by omega) hn
    obtain ⟨N2, r1, r2⟩ := line_hum p2 p4 hh p3
    obtain ⟨t1, t2⟩ := next_fin r2.2.1 r2.2.2.1
    refine ⟨_, rfl, ?_, ?_, ?_, ?_⟩
    all_goals rw [p1, r1, LX3_parse_24g, if_neg (nI_nlt (by omega) (by omega)), if_pos r2.2.2.2.1, if_pos t2]
    · exact r2.1.trans (t1.kp.trans (fun p _ hp _ => mU_ne _ _ _ hp))
    · rw [mU_ne _ _ _ (by decide), t1.1 9 (by decide)]
      exact r2.2.2.2.1
    · rw [mU_at]; unfold upd; rw [if_pos rfl]
    · have := r2.2.2.2.2.tn t1
      unfold DRI at this ⊢
      rw [mU_ne _ _ _ (show 12 ≠ 10 by decide)]
      refine ⟨this.1, this.2.1, this.2.2.1, this.2.2.2.1, this.2.2.2.2.1, this.2.2.2.2.2.1, this.2.2.2.2.2.2.1, this.2.2.2.2.2.2.2.1, fun k hk => ?_⟩
      rw [mU_ne _ _ _ (show 14 + k ≠ 10 by omega)]
      exact this.2.2.2.2.2.2.2.2 k hk
  | cons x I ih =>
    intro f c j M P hI hc hf hj h hL
    rw [List.length_cons] at hc hf hj
    obtain ⟨f, rfl⟩ : ∃ g, f = g + 1 := ⟨f - 1, by omega⟩
    have hx := hI x List.mem_cons_self
    have hT : ∃ T, insTs I ++ (humT ++ dig h2) = [59] ++ T := by
      cases I with
      | nil => exact ⟨humW ++ ([32] ++ dig h2), rfl⟩
      | cons y I =>
        rw [insTs_cons]
        unfold insT
        split
        · exact ⟨hairW ++ ([32] ++ (dig y.2 ++ (insTs I ++ (humT ++ dig h2)))), by simp only [List.append_assoc]; rfl⟩
        · exact ⟨bulbW ++ ([32] ++ (dig y.2 ++ (insTs I ++ (humT ++ dig h2)))), by simp only [List.append_assoc]; rfl⟩
    obtain ⟨T, hT⟩ := hT
    have hstep : ∃ N P', gX3_readLine N = gX3_readLine N ∧ True := ⟨M, P, rfl, trivial⟩
    unfold insOk at hx
    rw [insTs_cons] at hL
    unfold insT at hL
    by_cases hb : x.1 = true
    · rw [if_pos hb] at hx hL
      have hL1 : L = P ++ ([59] ++ (hairW ++ ([32] ++ (dig x.2 ++ ([59] ++ T))))) := by rw [hL, ← hT]; simp only [List.append_assoc]; rfl
      obtain ⟨N, p1, p2, p3, p4⟩ := parse_one (f := f) h hL1 (show j ≤ n by omega) hn
      obtain ⟨N2, P2, r1, r2, r3⟩ := line_hair p2 p4 (by omega) hx.1 hx.2 p3
      rw [← hT] at r3
      obtain ⟨N3, u1, u2⟩ := ih f (c + 1) (j + 1) N2 P2 (fun y hy => hI y (List.mem_cons_of_mem _ hy)) (by omega) (by omega) (by omega) r2 r3
      refine ⟨N3, by rw [p1, r1, u1], u2.1, u2.2.1, u2.2.2.1, ?_⟩
      rw [List.length_cons, show c + (I.length + 1) = c + 1 + I.length by omega]
      exact u2.2.2.2
    · rw [if_neg hb] at hx hL
      have hL1 : L = P ++ ([59] ++ (bulbW ++ ([32] ++ (dig x.2 ++ ([59] ++ T))))) := by rw [hL, ← hT]; simp only [List.append_assoc]; rfl
      obtain ⟨N, p1, p2, p3, p4⟩ := parse_one (f := f) h hL1 (show j ≤ n by omega) hn
      obtain ⟨N2, P2, r1, r2, r3⟩ := line_bulb p2 p4 (by omega) hx p3
      rw [← hT] at r3
      obtain ⟨N3, u1, u2⟩ := ih f (c + 1) (j + 1) N2 P2 (fun y hy => hI y (List.mem_cons_of_mem _ hy)) (by omega) (by omega) (by omega) r2 r3
      refine ⟨N3, by rw [p1, r1, u1], u2.1, u2.2.1, u2.2.2.1, ?_⟩
      rw [List.length_cons, show c + (I.length + 1) = c + 1 + I.length by omega]
      exact u2.2.2.2
