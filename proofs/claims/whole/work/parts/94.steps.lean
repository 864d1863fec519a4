/-! what a round of the law hands from call to call -/
theorem g_cnt {M N : Mem} (h : G M N) : CNT M 1 := by
  obtain ⟨c, K, p, h⟩ := h
  exact h.1.2.cnt
theorem g_hnx {M N : Mem} (h : G M N) : UB (M 20 1) 9 := by
  obtain ⟨c, K, p, h⟩ := h
  exact ⟨p, by have := h.2.1.2.1; omega, h.2.1.2.2.1⟩
theorem g_tf {M N : Mem} (h : G M N) : TF M := by
  obtain ⟨c, K, p, -, -, -, -, ⟨n, n6, na, -, -⟩, -⟩ := h
  exact ⟨n, n6, na⟩
theorem g_cd {M N : Mem} (h : G M N) : CNT M 12 := by
  obtain ⟨c, K, p, -, -, -, -, -, -, -, i1, -, -⟩ := h
  exact i1
theorem g_hh {M N : Mem} (h : G M N) : HC10 M := by
  obtain ⟨c, K, p, -, -, -, -, -, -, -, -, i2, -⟩ := h
  exact i2
theorem g_sc {M N : Mem} (h : G M N) : SC2 M := by
  obtain ⟨c, K, p, -, -, -, -, -, -, -, -, -, i3⟩ := h
  exact i3
theorem g_ot {M N : Mem} (h : G M N) : OUT M := by
  obtain ⟨c, K, p, -, -, -, -, -, -, ⟨w, w6, wa, -, -⟩, -⟩ := h
  exact ⟨w, w6, wa⟩
theorem g_mny {M N : Mem} (h : G M N) : MNY N := by
  obtain ⟨c, K, p, h⟩ := h
  exact h.1.ra.mny
theorem g_bxs {M N : Mem} (h : G M N) : BXS N := by
  obtain ⟨c, K, p, h⟩ := h
  exact h.1.bxs
theorem g_tmp {M N : Mem} (h : G M N) : TMP N := by
  obtain ⟨c, K, p, h⟩ := h
  exact h.1.ra.2.2.2.2.1.2.2.1
theorem g_ho {M N : Mem} (h : G M N) : UB (N 124 6) 10 := by
  obtain ⟨c, K, p, h⟩ := h
  exact ⟨K, h.2.1.1, h.2.1.2.2.2.2.1⟩
theorem g_hcn {M N : Mem} (h : G M N) : UB (N 124 10) 600 := by
  obtain ⟨c, K, p, -, -, -, -, ⟨n, n6, -, nb, -⟩, -⟩ := h
  exact ⟨n, n6, nb⟩
theorem g_how {M N : Mem} (h : G M N) : UB (N 124 12) 60 := by
  obtain ⟨c, K, p, -, -, -, -, -, -, ⟨w, w6, -, wb, -⟩, -⟩ := h
  exact ⟨w, by omega, wb⟩
theorem cd_0 {l : List Nat} {t : Nat} (hl : l.length ≤ 3) (h : cd l t = 0) : t = 0 := by
  unfold cd at h
  split at h
  · assumption
  · exfalso
    have h1 : l.idxOf t ≤ l.length := List.idxOf_le_length
    have h2 : (nI (l.idxOf t + 1)).toInt = ((l.idxOf t + 1 : Nat) : Int) := sm_nI (by omega)
    rw [h, show (0 : Int32).toInt = 0 from rfl] at h2
    omega
/-- the class's own call is over, its answer noted at place 133 -/
theorem g_mid {M A X M1 : Mem} {lst : List Nat} {t : Nat} {a b v : Int32} (h : G M M) (r : RES M M A X lst t a b) (h1 : M1 = if t = 0 then mU A 133 0 v else A) : G M M1 := by
  refine g_both h (fun _ _ => rfl) (fun q h2 h3 => ?_)
  rw [h1]
  split
  · rw [mU_ne _ _ _ (by omega)]
    exact r.2.2.2.1 q h2
  · exact r.2.2.2.1 q h2
/-- .. and the reference's: what the law asks, and the state of the next round -/
theorem g_end {M A M1 N2 : Mem} {lst : List Nat} {t : Nat} {a b v : Int32} (hl : lst.length ≤ 3) (r : RES M M1 A N2 lst t a b) (h1 : M1 = if t = 0 then mU A 133 0 v else A) : G N2 N2 ∧ fX8_thrown N2 = cd lst t ∧ (cd lst t = 0 → N2 133 0 = v ∧ a = b) := by
  refine ⟨g_both r.1 (fun o ho => ?_) (fun _ _ _ => rfl), r.2.1, fun hz => ?_⟩
  · rw [r.2.2.2.2 o (Or.inl ho), h1]
    split
    · rw [mU_ne _ _ _ (by omega)]
    · rfl
  · have h0 := cd_0 hl hz
    refine ⟨?_, r.2.2.1 h0⟩
    rw [r.2.2.2.2 133 (Or.inr (Nat.le_refl _)), h1, if_pos h0, mu_same]
/-- a call that throws nothing -/
theorem g_mid0 {M A X : Mem} {lst : List Nat} {t : Nat} {a b : Int32} (h : G M M) (r : RES M M A X lst t a b) : G M A := g_both h (fun _ _ => rfl) (fun q h2 _ => r.2.2.2.1 q h2)
theorem g_end0 {M A N2 : Mem} {lst : List Nat} {a b : Int32} (r : RES M A A N2 lst 0 a b) : G N2 N2 ∧ a = b := ⟨g_both r.1 (fun o ho => r.2.2.2.2 o (Or.inl ho)) (fun _ _ _ => rfl), r.2.2.1 rfl⟩
theorem b01 {x v : Int32} (h : x = if v = 0 then (0 : Int32) else 1) : x.toInt64 = if v = 0 then (0 : Int64) else 1 := by
  rw [h]
  split <;> rfl
