/-! the reference's scanner -/
theorem scan_fuel (k : Int32) (B : Nat → Int32) (e : Nat) : ∀ f g t, e ≤ t + f → e ≤ t + g → scan k B e f t = scan k B e g t := by
  intro f
  induction f with
  | zero =>
    intro g t h1 h2
    cases g with
    | zero => rfl
    | succ g => rw [scan, scan_out (Or.inl (by omega))]
  | succ f ih =>
    intro g t h1 h2
    cases g with
    | zero => rw [scan_out (Or.inl (by omega)), scan]
    | succ g =>
      rw [scan, scan, ih g (t + 1) (by omega) (by omega)]
theorem r30 {e : Nat} (he : e ≤ 600) (nd : Int32) : ∀ (f : Nat) (M : Mem) (t : Nat), M 124 15 = nI e → M 124 17 = nI t → t ≤ e → e + 1 ≤ t + f → LX8_next_30g f M nd = LX8_next_82g 1 (mU M 124 17 (nI (scan 4 (M 131) e f t))) nd := by
  intro f
  induction f with
  | zero => intro M t h2 h4 ht hf; omega
  | succ f ih =>
    intro M t h2 h4 ht hf
    rw [LX8_next_30g, h2]
    by_cases hc : e ≤ t
    · rw [if_pos (by rw [h4, nI_leI (by omega) (by omega)]; exact hc), scan_out (Or.inl hc), mU_self h4]
    · rw [if_neg (by rw [h4, nI_leI (by omega) (by omega)]; exact hc)]
      have hcl : (M 124 17).toNatClampNeg = t := by rw [h4, nI_clamp (by omega)]
      rw [hcl]
      have h := ih (mU M 124 17 (M 124 17 + 1)) (t + 1) (by rw [mU_row (by decide)]; exact h2) (by rw [mu_same, h4, nI_1])
      rw [mU_mU, mU_ne _ _ _ (by decide)] at h
      by_cases hk : M 131 t = 32
      · rw [if_pos hk, scan_in (by omega) ((kO_4 _).mpr (Or.inl hk)), h (by omega) (by omega)]
      · rw [if_neg hk]
        by_cases hk2 : M 131 t = 10
        · rw [if_pos hk2, scan_in (by omega) ((kO_4 _).mpr (Or.inr hk2)), h (by omega) (by omega)]
        · rw [if_neg hk2, scan_out (Or.inr (fun hh => by rcases (kO_4 _).mp hh with h1 | h1 <;> contradiction)), mU_self h4]
theorem r0 {e : Nat} (he : e ≤ 600) (x : Int32) : ∀ (f : Nat) (M : Mem) (t : Nat), M 124 15 = nI e → M 124 18 = nI t → t ≤ e → e + 1 ≤ t + f → LX8_scansWord_0g x f M = mU (mU M 124 18 (nI (scan 1 (M 131) e f t))) 124 16 (if x = 0 then 1 else 4) := by
  intro f
  induction f with
  | zero => intro M t h2 h4 ht hf; omega
  | succ f ih =>
    intro M t h2 h4 ht hf
    rw [LX8_scansWord_0g, h2, mU_mU]
    have hend : (if x = 0 then mU M 124 16 1 else mU M 124 16 4) = mU M 124 16 (if x = 0 then 1 else 4) := by split <;> rfl
    rw [hend]
    by_cases hc : e ≤ t
    · rw [if_pos (by rw [h4, nI_leI (by omega) (by omega)]; exact hc), scan_out (Or.inl hc), mU_self h4]
    · rw [if_neg (by rw [h4, nI_leI (by omega) (by omega)]; exact hc)]
      have hcl : (M 124 18).toNatClampNeg = t := by rw [h4, nI_clamp (by omega)]
      rw [hcl]
      by_cases hk : kO (M 131 t) = 1
      · rw [if_neg ((kO_1 M _).mp hk), scan_in (by omega) hk]
        have h := ih (mU M 124 18 (M 124 18 + 1)) (t + 1) (by rw [mU_row (by decide)]; exact h2) (by rw [mu_same, h4, nI_1]) (by omega) (by omega)
        rw [h, mU_mU, mU_ne _ _ _ (by decide)]
      · have hk0 : fX8_isLetter M (M 131 t) = 0 := Decidable.byContradiction (fun hh => hk ((kO_1 M _).mpr hh))
        rw [if_pos hk0, scan_out (Or.inr hk), mU_self h4]
/-- the value as the reference reckons it: three digits at most -/
def vR (B : Nat → Int32) (e s : Nat) : Nat → Nat → Int32 → Int32
  | 0, _, v => v
  | f + 1, t, v => if t < e ∧ kO (B t) = 2 then (if s + 3 ≤ t then vR B e s f (t + 1) v else vR B e s f (t + 1) (10 * v + B t - 48)) else v
theorem r5 {e s : Nat} (he : e ≤ 600) (x : Int32) : ∀ (f : Nat) (M : Mem) (t : Nat) (v : Int32), M 124 15 = nI e → M 124 18 = nI t → M 124 17 = nI s → M 124 19 = v → s ≤ t → t ≤ e → e + 1 ≤ t + f → LX8_scansNumber_5g x f M = LX8_scansNumber_81g x 1 (mU (mU M 124 19 (vR (M 131) e s f t v)) 124 18 (nI (scan 2 (M 131) e f t))) := by
  intro f
  induction f with
  | zero => intro M t v h2 h4 h3 hv hst ht hf; omega
  | succ f ih =>
    intro M t v h2 h4 h3 hv hst ht hf
    rw [LX8_scansNumber_5g, h2, vR]
    by_cases hc : e ≤ t
    · rw [if_pos (by rw [h4, nI_leI (by omega) (by omega)]; exact hc), scan_out (Or.inl hc), if_neg (fun hh => by omega), mU_self hv, mU_self h4]
    · rw [if_neg (by rw [h4, nI_leI (by omega) (by omega)]; exact hc)]
      have hcl : (M 124 18).toNatClampNeg = t := by rw [h4, nI_clamp (by omega)]
      rw [hcl]
      by_cases hk : kO (M 131 t) = 2
      · rw [if_neg ((kO_d M _).mp hk), scan_in (by omega) hk, if_pos (show t < e ∧ kO (M 131 t) = 2 from ⟨by omega, hk⟩)]
        have h3' : (3 : Int32) ≤ M 124 18 - M 124 17 ↔ s + 3 ≤ t := by
          rw [h4, h3, pk_sub hst, show (3 : Int32) = nI 3 from rfl, nI_leI (by omega) (by omega)]
          omega
        by_cases hl : s + 3 ≤ t
        · rw [if_pos (h3'.mpr hl), if_pos hl]
          have h := ih (mU M 124 18 (M 124 18 + 1)) (t + 1) v (by rw [mU_row (by decide)]; exact h2) (by rw [mu_same, h4, nI_1]) (by rw [mU_row (by decide)]; exact h3) (by rw [mU_row (by decide)]; exact hv) (by omega) (by omega) (by omega)
          rw [h, mU_comm M 124 _ _ (show (18 : Nat) ≠ 19 by decide), mU_mU, mU_ne _ _ _ (by decide)]
        · rw [if_neg (fun hh => hl (h3'.mp hh)), if_neg hl]
          have h := ih (mU (mU M 124 19 (10 * M 124 19 + M 131 t - 48)) 124 18 ((mU M 124 19 (10 * M 124 19 + M 131 t - 48)) 124 18 + 1)) (t + 1) (10 * v + M 131 t - 48) (by rw [mU_row (by decide), mU_row (by decide)]; exact h2) (by rw [mu_same, mU_row (by decide), h4, nI_1]) (by rw [mU_row (by decide), mU_row (by decide)]; exact h3) (by rw [mU_row (by decide), mu_same, hv]) (by omega) (by omega) (by omega)
          rw [h, mU_comm (mU M 124 19 _) 124 _ _ (show (18 : Nat) ≠ 19 by decide), mU_mU, mU_mU, mU_ne _ _ _ (by decide), mU_ne _ _ _ (by decide)]
      · have hk0 : fX8_isDigit M (M 131 t) = 0 := Decidable.byContradiction (fun hh => hk ((kO_d M _).mpr hh))
        rw [if_pos hk0, scan_out (Or.inr hk), if_neg (fun hh => hk hh.2), mU_self hv, mU_self h4]
theorem r81 {s t : Nat} (hst : s ≤ t) (ht : t ≤ 600) (x : Int32) {M : Mem} (h8 : M 124 18 = nI t) (h7 : M 124 17 = nI s) : LX8_scansNumber_81g x 1 M = mU M 124 16 (if x = 0 ∧ t ≤ s + 3 then 2 else 4) := by
  rw [LX8_scansNumber_81g, mU_row (show (18 : Nat) ≠ 16 by decide), mU_row (show (17 : Nat) ≠ 16 by decide), h8, h7, mU_mU]
  have hlen : nI t - nI s ≤ (3 : Int32) ↔ t ≤ s + 3 := by
    rw [pk_sub hst, show (3 : Int32) = nI 3 from rfl, nI_leI (by omega) (by omega)]
    omega
  by_cases hx : x = 0
  · rw [if_pos hx]
    by_cases hl : t ≤ s + 3
    · rw [if_pos (hlen.mpr hl), if_pos ⟨hx, hl⟩]
    · rw [if_neg (fun hh => hl (hlen.mp hh)), if_neg (fun hh => hl hh.2)]
  · rw [if_neg hx, if_neg (fun hh => hx hh.1)]
/-- the kind as the reference has it -/
def kR (k : Int32) : Int32 := if k = 5 then 4 else k
theorem r103 {e t s : Nat} (he : e ≤ 600) (hse : s ≤ e) (gl : Int32) {M : Mem} (h15 : M 124 15 = nI e) (h17 : M 124 17 = nI s) (h4 : s < e → ¬ kO (M 131 s) = 4) :
    LX8_next_103g 1 M gl 124 15 = nI e ∧ LX8_next_103g 1 M gl 124 17 = nI s ∧ LX8_next_103g 1 M gl 124 18 = nI (nT (M 131) e s) ∧
    LX8_next_103g 1 M gl 124 16 = (if ((nK (M 131) e s = 1 ∨ nK (M 131) e s = 2) ∧ ¬ gl = 0) ∨ (nK (M 131) e s = 2 ∧ s + 3 < nT (M 131) e s) then 4 else kR (nK (M 131) e s)) ∧
    (nK (M 131) e s = 2 → LX8_next_103g 1 M gl 124 19 = vR (M 131) e s 601 s 0) := by
  rw [LX8_next_103g]
  have hcl : (M 124 17).toNatClampNeg = s := by rw [h17, nI_clamp (by omega)]
  have a17 : mU M 124 18 (M 124 17) 124 17 = nI s := by rw [mU_row (by decide)]; exact h17
  have a15 : mU M 124 18 (M 124 17) 124 15 = nI e := by rw [mU_row (by decide)]; exact h15
  have a131 : mU M 124 18 (M 124 17) 131 = M 131 := mU_ne _ _ _ (by decide)
  have a18 : mU M 124 18 (M 124 17) 124 18 = nI s := by rw [mu_same]; exact h17
  have hT0 := nT_ge (M 131) e s
  have hT1 := nT_le (B := M 131) hse
  generalize hM1 : mU M 124 18 (M 124 17) = M1 at *
  rw [a17, a15, a131, show (nI s).toNatClampNeg = s from nI_clamp (by omega)]
  by_cases hc : s = e
  · have hk : nK (M 131) e s = 0 := by unfold nK; rw [if_neg (by omega)]
    have hT : nT (M 131) e s = s := by unfold nT; rw [if_neg (by omega)]
    rw [if_pos (by rw [hc]), hk, hT, mU_row (by decide), mU_row (by decide), mU_row (by decide), mu_same]
    exact ⟨a15, a17, a18, rfl, fun h => absurd h (by decide)⟩
  · have hlt : s < e := by omega
    have hk : nK (M 131) e s = kO (M 131 s) := by unfold nK; rw [if_pos hlt]
    rw [if_neg (fun hh => hc ((nI_eq (by omega) (by omega)).mp hh)), hk]
    by_cases h1 : kO (M 131 s) = 1
    · have hT : nT (M 131) e s = scan 1 (M 131) e 601 s := by
        unfold nT
        rw [if_pos hlt, if_pos (Or.inl h1), h1, scan_fuel 1 (M 131) e 601 600 (s + 1) (by omega) (by omega)]
        exact (scan_in hlt h1).symm
      rw [if_neg ((kO_1 M1 _).mp h1)]
      unfold gX8_scansWord
      rw [r0 he gl 601 M1 s a15 a18 hse (by omega), a131, ← hT, h1]
      refine ⟨by rw [mU_row (by decide), mU_row (by decide)]; exact a15, by rw [mU_row (by decide), mU_row (by decide)]; exact a17, by rw [mU_row (by decide), mu_same], ?_, fun h => absurd h (by decide)⟩
      rw [mu_same]
      by_cases hg : gl = 0
      · rw [if_pos hg, if_neg (by rintro (⟨-, h⟩ | ⟨h, -⟩); exact h hg; exact absurd h (by decide))]; rfl
      · rw [if_neg hg, if_pos (Or.inl ⟨Or.inl rfl, hg⟩)]
    · have hl : fX8_isLetter M1 (M 131 s) = 0 := Decidable.byContradiction (fun hh => h1 ((kO_1 M1 _).mpr hh))
      rw [if_pos hl]
      by_cases h2 : kO (M 131 s) = 2
      · have hT : nT (M 131) e s = scan 2 (M 131) e 601 s := by
          unfold nT
          rw [if_pos hlt, if_pos (Or.inr h2), h2, scan_fuel 2 (M 131) e 601 600 (s + 1) (by omega) (by omega)]
          exact (scan_in hlt h2).symm
        rw [if_neg ((kO_d M1 _).mp h2)]
        unfold gX8_scansNumber
        rw [r5 (s := s) he gl 601 (mU M1 124 19 0) s 0 (by rw [mU_row (by decide)]; exact a15) (by rw [mU_row (by decide)]; exact a18) (by rw [mU_row (by decide)]; exact a17) (mu_same _ _ _ _) (Nat.le_refl _) hse (by omega), mU_ne (M := M1) (o := 124) (p := 131) _ _ (by decide), a131, ← hT, mU_mU]
        rw [r81 (s := s) (t := nT (M 131) e s) hT0.1 (by omega) gl (mu_same _ _ _ _) (by rw [mU_row (by decide), mU_row (by decide)]; exact a17), h2]
        refine ⟨by rw [mU_row (by decide), mU_row (by decide), mU_row (by decide)]; exact a15, by rw [mU_row (by decide), mU_row (by decide), mU_row (by decide)]; exact a17, by rw [mU_row (by decide), mu_same], ?_, fun _ => by rw [mU_row (by decide), mU_row (by decide), mu_same]⟩
        rw [mu_same]
        by_cases hg : gl = 0
        · by_cases hlen : nT (M 131) e s ≤ s + 3
          · rw [if_pos ⟨hg, hlen⟩, if_neg (by rintro (⟨-, h⟩ | ⟨-, h⟩); exact h hg; omega)]; rfl
          · rw [if_neg (fun hh => hlen hh.2), if_pos (Or.inr ⟨rfl, by omega⟩)]
        · rw [if_neg (fun hh => hg hh.1), if_pos (Or.inl ⟨Or.inr rfl, hg⟩)]
      · have hd : fX8_isDigit M1 (M 131 s) = 0 := Decidable.byContradiction (fun hh => h2 ((kO_d M1 _).mpr hh))
        have hT : nT (M 131) e s = s + 1 := by unfold nT; rw [if_pos hlt, if_neg (by rintro (h | h) <;> contradiction)]
        rw [if_pos hd, mU_ne (M := M1) (o := 124) (p := 131) _ _ (by decide), mU_row (M := M1) (show (17 : Nat) ≠ 18 by decide), a17, a131, show (nI s).toNatClampNeg = s from nI_clamp (by omega), nI_1, hT]
        by_cases h59 : M 131 s = 59
        · have h3 : kO (M 131 s) = 3 := (kO_3 _).mpr h59
          rw [if_pos h59, h3]
          refine ⟨by rw [mU_row (by decide), mU_row (by decide)]; exact a15, by rw [mU_row (by decide), mU_row (by decide)]; exact a17, by rw [mU_row (by decide), mu_same], ?_, fun h => absurd h (by decide)⟩
          rw [mu_same, if_neg (by rintro (⟨h | h, -⟩ | ⟨h, -⟩) <;> exact absurd h (by decide))]; rfl
        · have h3 : ¬ kO (M 131 s) = 3 := fun h => h59 ((kO_3 _).mp h)
          have h5 : kO (M 131 s) = 5 := by
            rcases kO_rng (M 131 s) with h | h | h | h | h
            · exact absurd h h1
            · exact absurd h h2
            · exact absurd h h3
            · exact absurd h (h4 hlt)
            · exact h
          rw [if_neg h59, h5]
          refine ⟨by rw [mU_row (by decide), mU_row (by decide)]; exact a15, by rw [mU_row (by decide), mU_row (by decide)]; exact a17, by rw [mU_row (by decide), mu_same], ?_, fun h => absurd h (by decide)⟩
          rw [mu_same, if_neg (by rintro (⟨h | h, -⟩ | ⟨h, -⟩) <;> exact absurd h (by decide))]; rfl
/-- the reference's next token, row by row -/
theorem rnext {M : Mem} {e t : Nat} (he : e ≤ 600) (ht : t ≤ e) (h15 : M 124 15 = nI e) (h18 : M 124 18 = nI t) :
    gX8_next M 124 15 = nI e ∧ gX8_next M 124 17 = nI (nS (M 131) e t) ∧ gX8_next M 124 18 = nI (nT (M 131) e (nS (M 131) e t)) ∧
    gX8_next M 124 16 = (if nBad (nK (M 131) e (nS (M 131) e t)) (M 124 16 = 1 ∨ M 124 16 = 2) t (nS (M 131) e t) (nT (M 131) e (nS (M 131) e t)) then 4 else kR (nK (M 131) e (nS (M 131) e t))) ∧
    (nK (M 131) e (nS (M 131) e t) = 2 → gX8_next M 124 19 = vR (M 131) e (nS (M 131) e t) 601 (nS (M 131) e t) 0) := by
  have hs1 := nS_le (B := M 131) ht
  have hs2 := nS_ge (M 131) e t
  have hs4 : nS (M 131) e t < e → ¬ kO (M 131 (nS (M 131) e t)) = 4 := scan_end 4 (M 131) e 601 t (by omega)
  have key : ∀ nd : Int32, ∃ gl : Int32, LX8_next_22g 1 M nd = LX8_next_103g 1 (mU M 124 17 (nI (nS (M 131) e t))) gl ∧ (¬ gl = 0 ↔ (¬ nd = 0 ∧ nS (M 131) e t = t)) := by
    intro nd
    rw [LX8_next_22g, r30 he nd 601 (mU M 124 17 (M 124 18)) t (by rw [mU_row (by decide)]; exact h15) (by rw [mu_same]; exact h18) ht (by omega), mU_mU, mU_ne (M := M) (o := 124) (p := 131) _ _ (by decide), show scan 4 (M 131) e 601 t = nS (M 131) e t from rfl, LX8_next_82g]
    rw [mu_same, mU_row (show (18 : Nat) ≠ 17 by decide), h18]
    by_cases hn : nd = 0
    · rw [if_pos hn]
      exact ⟨0, rfl, by simp [hn]⟩
    · rw [if_neg hn]
      by_cases hst : nS (M 131) e t = t
      · rw [if_pos (by rw [hst])]
        exact ⟨1, rfl, by simp [hn, hst]⟩
      · rw [if_neg (fun hh => hst ((nI_eq (by omega) (by omega)).mp hh))]
        exact ⟨0, rfl, by simp [hst]⟩
  have fin : ∀ nd : Int32, (¬ nd = 0 ↔ (M 124 16 = 1 ∨ M 124 16 = 2)) → gX8_next M = LX8_next_22g 1 M nd → 
    gX8_next M 124 15 = nI e ∧ gX8_next M 124 17 = nI (nS (M 131) e t) ∧ gX8_next M 124 18 = nI (nT (M 131) e (nS (M 131) e t)) ∧
    gX8_next M 124 16 = (if nBad (nK (M 131) e (nS (M 131) e t)) (M 124 16 = 1 ∨ M 124 16 = 2) t (nS (M 131) e t) (nT (M 131) e (nS (M 131) e t)) then 4 else kR (nK (M 131) e (nS (M 131) e t))) ∧
    (nK (M 131) e (nS (M 131) e t) = 2 → gX8_next M 124 19 = vR (M 131) e (nS (M 131) e t) 601 (nS (M 131) e t) 0) := by
    intro nd hnd hg
    obtain ⟨gl, k1, k2⟩ := key nd
    rw [hg, k1]
    have h := r103 (t := t) he hs1 gl (M := mU M 124 17 (nI (nS (M 131) e t))) (by rw [mU_row (by decide)]; exact h15) (mu_same _ _ _ _) (by rw [mU_ne _ _ _ (by decide)]; exact hs4)
    rw [mU_ne (M := M) (o := 124) (p := 131) _ _ (by decide)] at h
    obtain ⟨a0, a1, a2, a3, a4⟩ := h
    refine ⟨a0, a1, a2, ?_, a4⟩
    rw [a3]
    generalize nK (M 131) e (nS (M 131) e t) = k
    have hb : (((k = 1 ∨ k = 2) ∧ ¬ gl = 0) ∨ (k = 2 ∧ nS (M 131) e t + 3 < nT (M 131) e (nS (M 131) e t))) ↔ nBad k (M 124 16 = 1 ∨ M 124 16 = 2) t (nS (M 131) e t) (nT (M 131) e (nS (M 131) e t)) := by
      unfold nBad
      rw [k2, hnd]
    by_cases h : nBad k (M 124 16 = 1 ∨ M 124 16 = 2) t (nS (M 131) e t) (nT (M 131) e (nS (M 131) e t))
    · rw [if_pos (hb.mpr h), if_pos h]
    · rw [if_neg (fun hh => h (hb.mp hh)), if_neg h]
  by_cases h1 : M 124 16 = 1
  · exact fin 1 ⟨fun _ => Or.inl h1, fun _ => by decide⟩ (by unfold gX8_next; rw [if_pos h1])
  · by_cases h2 : M 124 16 = 2
    · exact fin 1 ⟨fun _ => Or.inr h2, fun _ => by decide⟩ (by unfold gX8_next; rw [if_neg h1, if_pos h2])
    · exact fin 0 ⟨fun h => absurd rfl h, fun h => by rcases h with h | h <;> contradiction⟩ (by unfold gX8_next; rw [if_neg h1, if_neg h2])
