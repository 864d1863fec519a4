/-! the two scanners side by side -/
theorem mU_mU (M : Mem) (o k : Nat) (v w : Int32) : mU (mU M o k v) o k w = mU M o k w := by
  funext p j
  by_cases h : p = o
  · subst h
    rw [mU_at, mU_at, mU_at]
    unfold upd
    split <;> rfl
  · rw [mU_ne _ _ _ h, mU_ne _ _ _ h, mU_ne _ _ _ h]
theorem mU_self {M : Mem} {o k : Nat} {v : Int32} (h : M o k = v) : mU M o k v = M := by
  funext p j
  by_cases hp : p = o
  · subst hp
    rw [mU_at, ← h, upd_self]
  · rw [mU_ne _ _ _ hp]
theorem mU_comm (M : Mem) (o : Nat) {k i : Nat} (v w : Int32) (h : k ≠ i) : mU (mU M o k v) o i w = mU (mU M o i w) o k v := by
  funext p j
  by_cases hp : p = o
  · subst hp
    rw [mU_at, mU_at, mU_at, mU_at]
    unfold upd
    by_cases h1 : j = i
    · rw [if_pos h1, if_neg (by omega), if_pos h1]
    · rw [if_neg h1]
      by_cases h2 : j = k
      · rw [if_pos h2, if_pos h2]
      · rw [if_neg h2, if_neg h2, if_neg h1]
  · rw [mU_ne _ _ _ hp, mU_ne _ _ _ hp, mU_ne _ _ _ hp, mU_ne _ _ _ hp]
/-- the kind of a sign -/
def kO (x : Int32) : Int32 := fX6_kindOf (fun _ _ => 0) x
theorem kO_eq (M : Mem) (x : Int32) : fX6_kindOf M x = kO x := rfl
theorem kO_rng (x : Int32) : kO x = 1 ∨ kO x = 2 ∨ kO x = 3 ∨ kO x = 4 ∨ kO x = 5 := by
  unfold kO fX6_kindOf
  (repeat' split) <;> decide
theorem i_ltn {a b : Int32} (h : a < b) : ¬ b ≤ a := Int32.not_le.mpr h
theorem kO_1 (M : Mem) (x : Int32) : kO x = 1 ↔ ¬ fX8_isLetter M x = 0 := by
  unfold kO fX6_kindOf fX8_isLetter
  (repeat' split) <;> decide
theorem kO_2 (M : Mem) (x : Int32) : kO x = 2 ↔ fX8_isLetter M x = 0 ∧ ¬ fX8_isDigit M x = 0 := by
  unfold kO fX6_kindOf fX8_isLetter fX8_isDigit
  (repeat' split) <;> decide
theorem kO_l (M : Mem) (x : Int32) (h : ¬ fX8_isDigit M x = 0) : fX8_isLetter M x = 0 := by
  unfold fX8_isLetter
  unfold fX8_isDigit at h
  by_cases h1 : x < 97
  · rw [if_pos h1]
  · exfalso
    apply h
    by_cases h2 : x < 48
    · rw [if_pos h2]
    · rw [if_neg h2, if_pos (Int32.lt_of_lt_of_le (by decide) (Int32.not_lt.mp h1))]
theorem kO_d (M : Mem) (x : Int32) : kO x = 2 ↔ ¬ fX8_isDigit M x = 0 := ⟨fun h => ((kO_2 M x).mp h).2, fun h => (kO_2 M x).mpr ⟨kO_l M x h, h⟩⟩
theorem kO_4 (x : Int32) : kO x = 4 ↔ (x = 32 ∨ x = 10) := by
  constructor
  · intro h
    unfold kO fX6_kindOf at h
    revert h
    (repeat' split) <;> intro h <;> first | exact absurd h (by decide) | (left; assumption) | (right; assumption)
  · rintro (rfl | rfl) <;> decide
theorem kO_3 (x : Int32) : kO x = 3 ↔ x = 59 := by
  constructor
  · intro h
    unfold kO fX6_kindOf at h
    revert h
    (repeat' split) <;> intro h <;> first | exact absurd h (by decide) | assumption
  · rintro rfl; decide
/-- on from t while the kind is k, at most to e -/
def scan (k : Int32) (B : Nat → Int32) (e : Nat) : Nat → Nat → Nat
  | 0, t => t
  | f + 1, t => if t < e ∧ kO (B t) = k then scan k B e f (t + 1) else t
theorem scan_ge (k : Int32) (B : Nat → Int32) (e : Nat) : ∀ f t, t ≤ scan k B e f t := by
  intro f
  induction f with
  | zero => intro t; exact Nat.le_refl _
  | succ f ih =>
    intro t
    rw [scan]
    split
    · exact Nat.le_of_lt (ih (t + 1))
    · exact Nat.le_refl _
theorem scan_le (k : Int32) (B : Nat → Int32) (e : Nat) : ∀ f t, t ≤ e → scan k B e f t ≤ e := by
  intro f
  induction f with
  | zero => intro t h; exact h
  | succ f ih =>
    intro t h
    rw [scan]
    split
    · rename_i h1; exact ih (t + 1) h1.1
    · exact h
theorem scan_all (k : Int32) (B : Nat → Int32) (e : Nat) : ∀ f t j, t ≤ j → j < scan k B e f t → kO (B j) = k := by
  intro f
  induction f with
  | zero => intro t j h h2; rw [scan] at h2; omega
  | succ f ih =>
    intro t j h h2
    rw [scan] at h2
    split at h2
    · rename_i h1
      by_cases e1 : j = t
      · rw [e1]; exact h1.2
      · exact ih (t + 1) j (by omega) h2
    · omega
theorem scan_end (k : Int32) (B : Nat → Int32) (e : Nat) : ∀ f t, e + 1 ≤ t + f → scan k B e f t < e → ¬ kO (B (scan k B e f t)) = k := by
  intro f
  induction f with
  | zero => intro t h h2; rw [scan] at h2; omega
  | succ f ih =>
    intro t h h2
    rw [scan] at h2 ⊢
    split at h2
    · rename_i h1
      rw [if_pos h1]
      exact ih (t + 1) (by omega) h2
    · rename_i h1
      rw [if_neg h1]
      exact fun hk => h1 ⟨h2, hk⟩
theorem scan_congr {k : Int32} {B C : Nat → Int32} {e : Nat} (hb : ∀ j, j < e → B j = C j) : ∀ f t, scan k B e f t = scan k C e f t := by
  intro f
  induction f with
  | zero => intro t; rfl
  | succ f ih =>
    intro t
    rw [scan, scan]
    by_cases h : t < e
    · rw [hb t h, ih]
    · rw [if_neg (fun h1 => h h1.1), if_neg (fun h1 => h h1.1)]
theorem scan_in {k : Int32} {B : Nat → Int32} {e f t : Nat} (h : t < e) (hk : kO (B t) = k) : scan k B e (f + 1) t = scan k B e f (t + 1) := by rw [scan, if_pos ⟨h, hk⟩]
theorem scan_out {k : Int32} {B : Nat → Int32} {e f t : Nat} (h : e ≤ t ∨ ¬ kO (B t) = k) : scan k B e (f + 1) t = t := by
  rw [scan, if_neg]
  rintro ⟨h1, h2⟩
  rcases h with h | h
  · omega
  · exact h h2
/-! the class's scanner -/
theorem c10 {e : Nat} (he : e ≤ 600) (eb rb : Int32) : ∀ (f : Nat) (M : Mem) (t : Nat), M 10 2 = nI e → M 10 4 = nI t → t ≤ e → e + 1 ≤ t + f → LX6_next_10g f M eb rb = LX6_next_50g 1 (mU M 10 4 (nI (scan 4 (M 11) e f t))) eb rb := by
  intro f
  induction f with
  | zero => intro M t h2 h4 ht hf; omega
  | succ f ih =>
    intro M t h2 h4 ht hf
    rw [LX6_next_10g, h2]
    by_cases hc : e ≤ t
    · rw [if_pos (by rw [h4, nI_leI (by omega) (by omega)]; exact hc), scan_out (Or.inl hc), mU_self h4]
    · rw [if_neg (by rw [h4, nI_leI (by omega) (by omega)]; exact hc), kO_eq]
      have hcl : (M 10 4).toNatClampNeg = t := by rw [h4, nI_clamp (by omega)]
      rw [hcl]
      by_cases hk : kO (M 11 t) = 4
      · rw [if_pos hk, scan_in (by omega) hk]
        have h := ih (mU M 10 4 (M 10 4 + 1)) (t + 1) (by rw [mU_row (by decide)]; exact h2) (by rw [mu_same, h4, nI_1]) (by omega) (by omega)
        rw [h, mU_mU, mU_ne _ _ _ (by decide)]
      · rw [if_neg hk, scan_out (Or.inr hk), mU_self h4]
theorem run_eq {M : Mem} {k : Int32} (h5 : M 10 5 = k) : fX6_isRun M = (if k = 1 ∨ k = 2 then 1 else 0) := by
  unfold fX6_isRun
  rw [h5]
  by_cases h1 : k = 1
  · rw [if_pos h1, if_pos (Or.inl h1)]
  · rw [if_neg h1]
    by_cases h2 : k = 2
    · rw [if_pos h2, if_pos (Or.inr h2)]
    · rw [if_neg h2, if_neg (by rintro (h | h) <;> contradiction)]
theorem c106 {e : Nat} (he : e ≤ 600) (eb rb : Int32) {k : Int32} (hk : k = 1 ∨ k = 2) : ∀ (f : Nat) (M : Mem) (t : Nat), M 10 5 = k → M 10 2 = nI e → M 10 4 = nI t → t ≤ e → e + 1 ≤ t + f → LX6_next_106g f M eb rb = LX6_next_156g 1 (mU M 10 4 (nI (scan k (M 11) e f t))) eb rb := by
  intro f
  induction f with
  | zero => intro M t h5 h2 h4 ht hf; omega
  | succ f ih =>
    intro M t h5 h2 h4 ht hf
    rw [LX6_next_106g, run_eq h5, if_pos hk, if_neg (show ¬ (1 : Int32) = 0 by decide), h2, h5]
    by_cases hc : e ≤ t
    · rw [if_pos (by rw [h4, nI_leI (by omega) (by omega)]; exact hc), scan_out (Or.inl hc), mU_self h4]
    · rw [if_neg (by rw [h4, nI_leI (by omega) (by omega)]; exact hc), kO_eq]
      have hcl : (M 10 4).toNatClampNeg = t := by rw [h4, nI_clamp (by omega)]
      rw [hcl]
      by_cases hk2 : kO (M 11 t) = k
      · rw [if_pos hk2, scan_in (by omega) hk2]
        have h := ih (mU M 10 4 (M 10 4 + 1)) (t + 1) (by rw [mU_row (by decide)]; exact h5) (by rw [mU_row (by decide)]; exact h2) (by rw [mu_same, h4, nI_1]) (by omega) (by omega)
        rw [h, mU_mU, mU_ne _ _ _ (by decide)]
      · rw [if_neg hk2, scan_out (Or.inr hk2), mU_self h4]
theorem c106n (eb rb : Int32) {k : Int32} (hk : ¬ (k = 1 ∨ k = 2)) (f : Nat) (M : Mem) (h5 : M 10 5 = k) : LX6_next_106g (f + 1) M eb rb = LX6_next_156g 1 M eb rb := by
  rw [LX6_next_106g, run_eq h5, if_neg hk, if_pos rfl]
/-- where the token begins, its kind as it stands, where it ends -/
def nS (B : Nat → Int32) (e t : Nat) : Nat := scan 4 B e 601 t
def nK (B : Nat → Int32) (e s : Nat) : Int32 := if s < e then kO (B s) else 0
def nT (B : Nat → Int32) (e s : Nat) : Nat := if s < e then (if kO (B s) = 1 ∨ kO (B s) = 2 then scan (kO (B s)) B e 601 (s + 1) else s + 1) else s
/-- glued to the token before, or too long a number -/
abbrev nBad (k : Int32) (run : Prop) (t s t' : Nat) : Prop := ((k = 1 ∨ k = 2) ∧ run ∧ s = t) ∨ (k = 2 ∧ s + 3 < t')
theorem c156 {t s t' : Nat} (hs : s ≤ 600) (ht : t ≤ 600) (ht' : t' ≤ 600) (hst : s ≤ t') {M : Mem} {rb k : Int32} (h5 : M 10 5 = k) (h3 : M 10 3 = nI s) (h4 : M 10 4 = nI t') :
    LX6_next_156g 1 M (nI t) rb = (if nBad k (¬ rb = 0) t s t' then mU M 10 5 5 else M) := by
  have q : ∀ jn : Int32, LX6_next_181g 1 M jn = if jn = 0 then (if k = 2 then (if nI t' - nI s ≤ 3 then M else mU M 10 5 5) else M) else mU M 10 5 5 := fun jn => by rw [LX6_next_181g, h5, h3, h4]
  have hlen : nI t' - nI s ≤ (3 : Int32) ↔ t' ≤ s + 3 := by
    rw [pk_sub hst, show (3 : Int32) = nI 3 from rfl, nI_leI (by omega) (by omega)]
    omega
  rw [LX6_next_156g, run_eq h5, h3]
  simp only [q]
  unfold nBad
  by_cases hk : k = 1 ∨ k = 2
  · rw [if_pos hk, if_neg (show ¬ (1 : Int32) = 0 by decide)]
    by_cases hr : rb = 0
    · rw [if_pos hr, if_pos trivial]
      by_cases h2 : k = 2
      · rw [if_pos h2]
        by_cases h : t' ≤ s + 3
        · rw [if_pos (hlen.mpr h), if_neg (by rintro (⟨-, h1, -⟩ | ⟨-, h1⟩); exact h1 hr; omega)]
        · rw [if_neg (fun hh => h (hlen.mp hh)), if_pos (Or.inr ⟨h2, by omega⟩)]
      · rw [if_neg h2, if_neg (by rintro (⟨-, h1, -⟩ | ⟨h1, -⟩); exact h1 hr; exact h2 h1)]
    · rw [if_neg hr]
      by_cases he : s = t
      · rw [if_pos (by rw [he]), if_neg (show ¬ (1 : Int32) = 0 by decide), if_pos (Or.inl ⟨hk, hr, he⟩)]
      · rw [if_neg (fun hh => he ((nI_eq (by omega) (by omega)).mp hh)), if_pos trivial]
        by_cases h2 : k = 2
        · rw [if_pos h2]
          by_cases h : t' ≤ s + 3
          · rw [if_pos (hlen.mpr h), if_neg (by rintro (⟨-, -, h1⟩ | ⟨-, h1⟩); exact he h1; omega)]
          · rw [if_neg (fun hh => h (hlen.mp hh)), if_pos (Or.inr ⟨h2, by omega⟩)]
        · rw [if_neg h2, if_neg (by rintro (⟨-, -, h1⟩ | ⟨h1, -⟩); exact he h1; exact h2 h1)]
  · rw [if_neg hk, if_pos rfl, if_pos trivial, if_neg (fun h2 => hk (Or.inr h2)), if_neg (by rintro (⟨h1, -⟩ | ⟨h1, -⟩); exact hk h1; exact hk (Or.inr h1))]
theorem nS_le {B : Nat → Int32} {e t : Nat} (h : t ≤ e) : nS B e t ≤ e := scan_le _ _ _ _ _ h
theorem nS_ge (B : Nat → Int32) (e t : Nat) : t ≤ nS B e t := scan_ge _ _ _ _ _
theorem nT_le {B : Nat → Int32} {e s : Nat} (h : s ≤ e) : nT B e s ≤ e := by
  unfold nT
  split
  · rename_i h1
    split
    · exact scan_le _ _ _ _ _ h1
    · exact h1
  · exact h
theorem nT_ge (B : Nat → Int32) (e s : Nat) : s ≤ nT B e s ∧ (s < e → s < nT B e s) := by
  unfold nT
  split
  · rename_i h1
    split
    · have := scan_ge (kO (B s)) B e 601 (s + 1); omega
    · omega
  · omega
/-- the class's next token, row by row -/
theorem cnext {M : Mem} {e t : Nat} (he : e ≤ 600) (ht : t ≤ e) (h2 : M 10 2 = nI e) (h4 : M 10 4 = nI t) :
    gX6_next M 10 3 = nI (nS (M 11) e t) ∧ gX6_next M 10 4 = nI (nT (M 11) e (nS (M 11) e t)) ∧
    gX6_next M 10 5 = (if nBad (nK (M 11) e (nS (M 11) e t)) (M 10 5 = 1 ∨ M 10 5 = 2) t (nS (M 11) e t) (nT (M 11) e (nS (M 11) e t)) then 5 else nK (M 11) e (nS (M 11) e t)) := by
  have hs1 := nS_le (B := M 11) ht
  have hs2 := nS_ge (M 11) e t
  have ht1 := nT_le (B := M 11) hs1
  have ht2 := nT_ge (M 11) e (nS (M 11) e t)
  have hrb : (¬ fX6_isRun M = 0) ↔ (M 10 5 = 1 ∨ M 10 5 = 2) := by
    rw [run_eq rfl]
    by_cases h : M 10 5 = 1 ∨ M 10 5 = 2
    · rw [if_pos h]; exact ⟨fun _ => h, fun _ => by decide⟩
    · rw [if_neg h]; exact ⟨fun hh => absurd rfl hh, fun hh => absurd hh h⟩
  have key : ∃ M5 : Mem, gX6_next M = LX6_next_156g 1 M5 (nI t) (fX6_isRun M) ∧ M5 10 3 = nI (nS (M 11) e t) ∧ M5 10 4 = nI (nT (M 11) e (nS (M 11) e t)) ∧ M5 10 5 = nK (M 11) e (nS (M 11) e t) := by
    unfold gX6_next
    rw [c10 he _ _ 601 M t h2 h4 ht (by omega), LX6_next_50g]
    show ∃ M5 : Mem, (if mU (mU M 10 4 (nI (nS (M 11) e t))) 10 3 _ 10 2 ≤ _ then _ else _) = _ ∧ _
    have e1 : mU (mU M 10 4 (nI (nS (M 11) e t))) 10 3 (mU M 10 4 (nI (nS (M 11) e t)) 10 4) = mU (mU M 10 4 (nI (nS (M 11) e t))) 10 3 (nI (nS (M 11) e t)) := by rw [mu_same]
    rw [show scan 4 (M 11) e 601 t = nS (M 11) e t from rfl, e1]
    generalize hM2 : mU (mU M 10 4 (nI (nS (M 11) e t))) 10 3 (nI (nS (M 11) e t)) = M2
    have a2 : M2 10 2 = nI e := by rw [← hM2, mU_row (by decide), mU_row (by decide)]; exact h2
    have a3 : M2 10 3 = nI (nS (M 11) e t) := by rw [← hM2, mu_same]
    have a4 : M2 10 4 = nI (nS (M 11) e t) := by rw [← hM2, mU_row (by decide), mu_same]
    have a11 : M2 11 = M 11 := by rw [← hM2, mU_ne _ _ _ (by decide), mU_ne _ _ _ (by decide)]
    rw [a2, a3]
    rw [show (nI (nS (M 11) e t)).toNatClampNeg = nS (M 11) e t from nI_clamp (by omega), kO_eq, a11, h4]
    generalize nS (M 11) e t = s at *
    by_cases hc : e ≤ s
    · have hk : nK (M 11) e s = 0 := by unfold nK; rw [if_neg (by omega)]
      have hT : nT (M 11) e s = s := by unfold nT; rw [if_neg (by omega)]
      rw [if_pos (by rw [nI_leI (by omega) (by omega)]; exact hc), LX6_next_89g, mu_same, if_pos rfl, hk, hT]
      rw [c106n _ _ (k := 0) (by decide) 600 _ (mu_same _ _ _ _)]
      exact ⟨_, rfl, by rw [mU_row (by decide)]; exact a3, by rw [mU_row (by decide)]; exact a4, mu_same _ _ _ _⟩
    · have hk : nK (M 11) e s = kO (M 11 s) := by unfold nK; rw [if_pos (by omega)]
      rw [if_neg (by rw [nI_leI (by omega) (by omega)]; exact hc), LX6_next_89g, mu_same, hk]
      have hk0 : ¬ kO (M 11 s) = 0 := by rcases kO_rng (M 11 s) with h | h | h | h | h <;> rw [h] <;> decide
      rw [if_neg hk0, mU_row (show (4 : Nat) ≠ 5 by decide), a4, nI_1]
      by_cases hr : kO (M 11 s) = 1 ∨ kO (M 11 s) = 2
      · have hT : nT (M 11) e s = scan (kO (M 11 s)) (M 11) e 601 (s + 1) := by unfold nT; rw [if_pos (by omega), if_pos hr]
        rw [c106 he _ _ hr 601 _ (s + 1) (by rw [mU_row (by decide), mu_same]) (by rw [mU_row (by decide), mU_row (by decide)]; exact a2) (mu_same _ _ _ _) (by omega) (by omega), mU_mU, mU_ne (M := mU M2 10 5 (kO (M 11 s))) (o := 10) (p := 11) _ _ (by decide), mU_ne (M := M2) (o := 10) (p := 11) _ _ (by decide), a11, ← hT]
        exact ⟨_, rfl, by rw [mU_row (by decide), mU_row (by decide)]; exact a3, mu_same _ _ _ _, by rw [mU_row (by decide), mu_same]⟩
      · have hT : nT (M 11) e s = s + 1 := by unfold nT; rw [if_pos (by omega), if_neg hr]
        rw [c106n _ _ (k := kO (M 11 s)) hr 600 _ (by rw [mU_row (by decide), mu_same]), hT]
        exact ⟨_, rfl, by rw [mU_row (by decide), mU_row (by decide)]; exact a3, mu_same _ _ _ _, by rw [mU_row (by decide), mu_same]⟩
  obtain ⟨M5, k1, k3, k4, k5⟩ := key
  rw [k1, c156 (by omega) (by omega) (by omega) ht2.1 k5 k3 k4]
  have hb : nBad (nK (M 11) e (nS (M 11) e t)) (¬ fX6_isRun M = 0) t (nS (M 11) e t) (nT (M 11) e (nS (M 11) e t)) ↔ nBad (nK (M 11) e (nS (M 11) e t)) (M 10 5 = 1 ∨ M 10 5 = 2) t (nS (M 11) e t) (nT (M 11) e (nS (M 11) e t)) := by
    unfold nBad; rw [hrb]
  by_cases h : nBad (nK (M 11) e (nS (M 11) e t)) (M 10 5 = 1 ∨ M 10 5 = 2) t (nS (M 11) e t) (nT (M 11) e (nS (M 11) e t))
  · rw [if_pos (hb.mpr h), if_pos h]
    exact ⟨by rw [mU_row (by decide)]; exact k3, by rw [mU_row (by decide)]; exact k4, mu_same _ _ _ _⟩
  · rw [if_neg (fun hh => h (hb.mp hh)), if_neg h]
    exact ⟨k3, k4, k5⟩
