/-! the hairs at first: kept by minutes -/
def A2 (r : Nat) (M M' : Mem) : Prop := ∀ k, k < 6 → M' (r + 1 + 1 + k) 2 = M (r + 1 + 1 + k) 2
theorem A2.refl (r : Nat) (M : Mem) : A2 r M M := fun _ _ => rfl
theorem A2.trans {r : Nat} {M M1 M2 : Mem} (h : A2 r M M1) (h2 : A2 r M1 M2) : A2 r M M2 := fun k hk => (h2 k hk).trans (h k hk)
theorem A2.put {r o i : Nat} {M : Mem} {v : Int32} (h : 2 ≠ i) : A2 r M (mU M o i v) := fun k hk => by
  by_cases e : r + 1 + 1 + k = o
  · rw [e]; exact mU_row h
  · rw [mU_ne _ _ _ e]
theorem a2_wet (r : Nat) (M : Mem) (o : Nat) (x y : Int32) : A2 r M (gX1_moveWetness M o x y) := by
  unfold gX1_moveWetness
  split <;> exact A2.put (by decide)
theorem a2_age (r : Nat) (M : Mem) (o : Nat) (x y : Int32) : A2 r M (gX1_age M o x y) := by
  unfold gX1_age
  split
  · exact A2.put (by decide)
  · split
    · split
      · exact A2.put (by decide)
      · exact A2.refl r M
    · split
      · exact (a2_wet r M o _ _).trans (A2.put (by decide))
      · exact a2_wet r M o _ _
theorem a2_25 (r : Nat) (x : Int32) : ∀ (f : Nat) (M : Mem) (j : Nat), A2 r M (LX4_pass_25g r x f M j) := by
  intro f
  induction f with
  | zero => intro M j; exact A2.refl r M
  | succ f ih =>
    intro M j
    rw [LX4_pass_25g]
    split
    · exact A2.refl r M
    · exact (a2_age r M _ _ _).trans (ih _ _)
theorem a2_bring (r q : Nat) (M : Mem) : A2 r M (gX4_bringHairs M q) := by
  unfold gX4_bringHairs
  exact (A2.put (by decide)).trans (A2.put (by decide))
theorem a2_7 (r : Nat) (x : Int32) : ∀ (f : Nat) (M : Mem) (w : Int32) (i : Nat), A2 r M (LX4_pass_7g r x f M w i) := by
  intro f
  induction f with
  | zero => intro M w i; exact A2.refl r M
  | succ f ih =>
    intro M w i
    rw [LX4_pass_7g]
    split
    · exact A2.refl r M
    · have h1 : A2 r M (LX4_pass_25g r x 7 (mU M r 2 (M r 2 + 1)) 0) := A2.trans (fun k hk => by rw [mU_ne _ _ _ (by omega)]) (a2_25 r x 7 _ 0)
      split
      · exact (h1.trans (a2_bring r r _)).trans (ih _ _ _)
      · exact h1.trans (ih _ _ _)
theorem af_a2 {M M' N N' : Mem} {r c : Nat} (hc : c ≤ 6) (h : AF M N r c) (ha : A2 r M M') (hn : N' 127 6 = N 127 6) : AF M' N' r c := by
  unfold AF
  rw [hn, h, sumH_row (M := M) (M' := M') c (fun i hi => ha i (by omega))]
theorem pass_af {M N : Mem} {r c : Nat} (x : Int32) (hc : c ≤ 6) (h : AF M N r c) : AF (gX4_pass M r x) (gX8_passes N x) r c := af_a2 hc h (a2_7 r x _ _ _ _) ((nk_ps N x).2.1 6 (by decide))
