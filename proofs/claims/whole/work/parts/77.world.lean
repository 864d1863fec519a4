/-! the whole of both -/
def IN (M N : Mem) : Prop := ∃ n, n ≤ 600 ∧ M 10 1 = nI n ∧ N 124 10 = nI n ∧ ∀ j, j < n → M 11 j = N 131 j
def EK (M N : Mem) : Prop := M 9 2 = N 124 13 ∧ M 9 3 = N 124 14
def OU (M N : Mem) : Prop := ∃ w, w ≤ 24 ∧ M 121 1 = nI w ∧ N 124 12 = nI w ∧ ∀ j, j < w → M 122 j = N 132 j
def CI (M : Mem) : Prop := CNT M 12 ∧ HC10 M ∧ SC2 M
def Gc (M N : Mem) (c K p : Nat) : Prop := RB M N 1 c ∧ HR M N K p ∧ SL M N ∧ KEYS N ∧ IN M N ∧ EK M N ∧ OU M N ∧ CI M
def G (M N : Mem) : Prop := ∃ c K p, Gc M N c K p
theorem gc_ext {M M' N N' : Mem} {c K p : Nat} (h : Gc M N c K p) (hm : ∀ o, o < 123 → M' o = M o) (hp : ∀ q, 125 ≤ q → q < 133 → q ≠ 128 → N' q = N q) (h4 : ∀ j, j < 15 → j ≠ 2 → N' 124 j = N 124 j) : Gc M' N' c K p := by
  obtain ⟨h1, h2, h3, h5, ⟨n, n6, na, nb, nc⟩, ⟨ea, eb⟩, ⟨w, w6, wa, wb, wc⟩, ⟨i1, i2, i3⟩⟩ := h
  refine ⟨rb_ext (fun o _ ho => hm o (by omega)) (hp 125 (by decide) (by decide) (by decide)) (hp 127 (by decide) (by decide) (by decide)) h1, hr_frame h2 (fun o _ ho => hm o (by omega)) (h4 6 (by decide) (by decide)) (hp 129 (by decide) (by decide) (by decide)), sl_frame h3 (fun o _ ho => hm o (by omega)) (h4 8 (by decide) (by decide)) (hp 130 (by decide) (by decide) (by decide)), keys_row (hp 126 (by decide) (by decide) (by decide)) h5, ⟨n, n6, ?_, ?_, ?_⟩, ⟨?_, ?_⟩, ⟨w, w6, ?_, ?_, ?_⟩, cnt_row (hm 12 (by decide)) i1, fun i hi => cnt_row (hm _ (by omega)) (i2 i hi), fun i hi => cnt_row (hm _ (by omega)) (i3 i hi)⟩
  · rw [hm 10 (by decide)]; exact na
  · rw [h4 10 (by decide) (by decide)]; exact nb
  · rw [hm 11 (by decide), hp 131 (by decide) (by decide) (by decide)]; exact nc
  · rw [hm 9 (by decide), h4 13 (by decide) (by decide)]; exact ea
  · rw [hm 9 (by decide), h4 14 (by decide) (by decide)]; exact eb
  · rw [hm 121 (by decide)]; exact wa
  · rw [h4 12 (by decide) (by decide)]; exact wb
  · rw [hm 122 (by decide), hp 132 (by decide) (by decide) (by decide)]; exact wc
theorem g_ext {M M' N N' : Mem} (h : G M N) (hm : ∀ o, o < 123 → M' o = M o) (hp : ∀ q, 125 ≤ q → q < 133 → q ≠ 128 → N' q = N q) (h4 : ∀ j, j < 15 → j ≠ 2 → N' 124 j = N 124 j) : G M' N' := by
  obtain ⟨c, K, p, h⟩ := h
  exact ⟨c, K, p, gc_ext h hm hp h4⟩
theorem g_both {M M' N N' : Mem} (h : G M N) (hm : ∀ o, o < 124 → M' o = M o) (hp : ∀ q, 124 ≤ q → q < 133 → N' q = N q) : G M' N' := g_ext h (fun o ho => hm o (by omega)) (fun q h1 h2 _ => hp q (by omega) h2) (fun j _ _ => by rw [hp 124 (by decide) (by decide)])
/-- the answer told, or the refusal -/
theorem gc_told {M N : Mem} {c K p : Nat} (h : Gc M N c K p) (v : Int32) : Gc M (mU N 124 2 v) c K p := gc_ext h (fun _ _ => rfl) (fun q h1 _ _ => mU_ne _ _ _ (by omega)) (fun j _ h2 => mU_row h2)
theorem g_told {M N : Mem} (h : G M N) (v : Int32) : G M (mU N 124 2 v) := by
  obtain ⟨c, K, p, h⟩ := h
  exact ⟨c, K, p, gc_told h v⟩
/-- the room changes, and nothing else -/
theorem gc_room {M M' N N' : Mem} {c c2 K p : Nat} (h : Gc M N c K p) (hm : ∀ o, 9 ≤ o → M' o = M o) (hp : ∀ q, q ≠ 124 → q ≠ 127 → N' q = N q) (h4 : ∀ j, j < 15 → j ≠ 2 → N' 124 j = N 124 j) (hr : RB M' N' 1 c2) : Gc M' N' c2 K p := by
  obtain ⟨h1, h2, h3, h5, ⟨n, n6, na, nb, nc⟩, ⟨ea, eb⟩, ⟨w, w6, wa, wb, wc⟩, ⟨i1, i2, i3⟩⟩ := h
  refine ⟨hr, hr_frame h2 (fun o ho _ => hm o (by omega)) (h4 6 (by decide) (by decide)) (hp 129 (by decide) (by decide)), sl_frame h3 (fun o ho _ => hm o (by omega)) (h4 8 (by decide) (by decide)) (hp 130 (by decide) (by decide)), keys_row (hp 126 (by decide) (by decide)) h5, ⟨n, n6, ?_, ?_, ?_⟩, ⟨?_, ?_⟩, ⟨w, w6, ?_, ?_, ?_⟩, cnt_row (hm 12 (by decide)) i1, fun i hi => cnt_row (hm _ (by omega)) (i2 i hi), fun i hi => cnt_row (hm _ (by omega)) (i3 i hi)⟩
  · rw [hm 10 (by decide)]; exact na
  · rw [h4 10 (by decide) (by decide)]; exact nb
  · rw [hm 11 (by decide), hp 131 (by decide) (by decide)]; exact nc
  · rw [hm 9 (by decide), h4 13 (by decide) (by decide)]; exact ea
  · rw [hm 9 (by decide), h4 14 (by decide) (by decide)]; exact eb
  · rw [hm 121 (by decide)]; exact wa
  · rw [h4 12 (by decide) (by decide)]; exact wb
  · rw [hm 122 (by decide), hp 132 (by decide) (by decide)]; exact wc
theorem rm_124 {N : Mem} {j : Nat} (hj : j ≠ 6) : gX8_remembers N 124 j = N 124 j := by
  unfold gX8_remembers
  split
  · exact ((rm15 _ _ _).2 j hj).trans ((fo3 505 N 0 (by omega) (by omega)).2.1 j hj)
  · exact (rm15 _ _ _).2 j hj
/-- the state is kept before a change -/
theorem gc_record {M N : Mem} {c K p : Nat} (h : Gc M N c K p) : Gc (gX0_record M 1) (gX8_remembers N) c (min 10 (K + 1)) ((p + 1) % 10) := by
  obtain ⟨h1, h2, h3, h5, ⟨n, n6, na, nb, nc⟩, ⟨ea, eb⟩, ⟨w, w6, wa, wb, wc⟩, ⟨i1, i2, i3⟩⟩ := h
  have hcn := h1.2.cnt
  have hnx : UB (M 20 1) 9 := ⟨p, by have := h2.2.1; omega, h2.2.2.1⟩
  have hrec : ∀ o, (o < 20 ∨ 102 ≤ o) → gX0_record M 1 o = M o := fun o ho => rec_ne hcn hnx ho
  have hrm : ∀ q, q ≠ 124 → q ≠ 129 → gX8_remembers N q = N q := fun q a b => rm_ne a b
  obtain ⟨g1, g2⟩ := record_rel h2 h1
  refine ⟨g2, g1, sl_frame h3 (fun o ho _ => hrec o (by omega)) (rm_124 (by decide)) (hrm 130 (by decide) (by decide)), keys_row (hrm 126 (by decide) (by decide)) h5, ⟨n, n6, ?_, ?_, ?_⟩, ⟨?_, ?_⟩, ⟨w, w6, ?_, ?_, ?_⟩, cnt_row (hrec 12 (by decide)) i1, fun i hi => ?_, fun i hi => cnt_row (hrec _ (by omega)) (i3 i hi)⟩
  · rw [hrec 10 (by decide)]; exact na
  · rw [rm_124 (by decide)]; exact nb
  · rw [hrec 11 (by decide), hrm 131 (by decide) (by decide)]; exact nc
  · rw [hrec 9 (by decide), rm_124 (by decide)]; exact ea
  · rw [hrec 9 (by decide), rm_124 (by decide)]; exact eb
  · rw [hrec 121 (by decide)]; exact wa
  · rw [rm_124 (by decide)]; exact wb
  · rw [hrec 122 (by decide), hrm 132 (by decide) (by decide)]; exact wc
  · obtain ⟨r1, -, -⟩ := rec_rows h2.2.1 h2.1 h2.2.2.1 h2.2.2.2.1 hcn
    by_cases e : i = p
    · rw [e]
      exact cnt_row (r1 _ (by omega)) (copy_cnt hcn)
    · exact cnt_row ((r1 _ (by omega)).trans (copy_rf hcn _ (by omega))) (i2 i hi)
/-- what the law's catch makes of a throw -/
def cd (l : List Nat) (T : Nat) : Int32 := if T = 0 then 0 else nI (l.idxOf T + 1)
/-- a call of both: the answers are the same, and so are the states behind it -/
def RES (M N M' N' : Mem) (l : List Nat) (t : Nat) (a b : Int32) : Prop := G M' N' ∧ N' 124 2 = cd l t ∧ (t = 0 → a = b) ∧ (∀ q, 124 ≤ q → M' q = M q) ∧ ∀ o, (o < 124 ∨ 133 ≤ o) → N' o = N o
theorem RES.obs {M N N' : Mem} {l : List Nat} {t : Nat} {a b v : Int32} (h : G M N) (hN : N' = mU N 124 2 v) (hv : v = cd l t) (ha : t = 0 → a = b) : RES M N M N' l t a b := by
  subst hN
  exact ⟨g_told h v, by rw [mu_same]; exact hv, ha, fun _ _ => rfl, fun o ho => mU_ne _ _ _ (by omega)⟩
/-- the number of an instrument -/
theorem at_idx {M N : Mem} {c : Nat} (h : RA M N 1 c) (x : Int32) : (tX7_instrumentAt M x = 1 ∧ fX8_is N x = 0) ∨ ∃ k, k < c ∧ x = nI k ∧ x.toNatClampNeg = k ∧ tX7_instrumentAt M x = 0 ∧ ¬ fX8_is N x = 0 := by
  have hc6 := h.2.1
  have h5 : N 127 5 = nI c := h.2.2.1
  unfold tX7_instrumentAt fX8_is fX8_in
  rw [h.many, h5]
  have e5 : (nI c - 1).toInt = (c : Int) - 1 := sm_sub (sm_nI (by omega)) rfl (by omega) (by omega)
  by_cases h0 : x < 0
  · left
    rw [if_pos h0, if_pos h0]
    exact ⟨rfl, rfl⟩
  · have hx0 := Int32.le_iff_toInt_le.mp (Int32.not_lt.mp h0)
    rw [show (0 : Int32).toInt = 0 from rfl] at hx0
    rw [if_neg h0, if_neg h0]
    by_cases h1 : nI c ≤ x
    · left
      rw [if_pos h1, if_pos]
      · exact ⟨rfl, rfl⟩
      · rw [Int32.lt_iff_toInt_lt, e5]
        have := Int32.le_iff_toInt_le.mp h1
        rw [sm_nI (by omega)] at this
        omega
    · right
      have hlt := Int32.lt_iff_toInt_lt.mp (Int32.not_le.mp h1)
      rw [sm_nI (by omega)] at hlt
      have hk : x = nI x.toInt.toNat := Int32.toInt_inj.mp (by rw [sm_nI (by omega)]; omega)
      refine ⟨x.toInt.toNat, by omega, hk, ?_, ?_, ?_⟩
      · rw [hk, nI_clamp (by omega), ← hk]
      · rw [if_neg h1]
      · rw [if_neg]
        · decide
        · rw [Int32.lt_iff_toInt_lt, e5]; omega
theorem rel_inst {M N N' : Mem} {x : Int32} {t : Nat} {a b : Int32} (h : G M N) (ht : t = if tX7_instrumentAt M x = 0 then 0 else tX7_instrumentAt M x) (hN0 : fX8_is N x = 0 → N' = mU N 124 2 1) (hN1 : ¬ fX8_is N x = 0 → N' = mU N 124 2 0) (hv : ∀ k, R1 M N 1 (1 + 1 + 1 + k) k → x.toNatClampNeg = k → ¬ fX8_is N x = 0 → a = b) : RES M N M N' [1] t a b := by
  obtain ⟨c, K, p, hg⟩ := id h
  rcases at_idx hg.1.ra x with ⟨e1, e2⟩ | ⟨k, hk, e0, ek, e1, e2⟩
  · rw [e1] at ht
    subst ht
    exact RES.obs h (hN0 e2) rfl (fun hh => absurd hh (by decide))
  · rw [e1] at ht
    subst ht
    exact RES.obs h (hN1 e2) rfl (fun _ => hv k (hg.1.ra.one hk) ek e2)
