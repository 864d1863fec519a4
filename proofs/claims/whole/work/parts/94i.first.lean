/-! the first state: both constructors make the same room -/
theorem begin_rb1 {M N : Mem} {x y z : Int32} (hp : PTS N) (h1 : N 127 1 = x) (h2 : N 127 2 = y) (h3 : N 127 3 = z) (hz : ∀ i, i < 56 → i ≠ 1 → i ≠ 2 → i ≠ 3 → N 127 i = 0) (hx : UB x 100) (hy : UB y 40) (hzz : UB z 5) : RB (gX4_begin M 1 x y z) N 1 0 := by
  have b : ∀ i, 1 ≤ i → i ≤ 7 → gX4_begin M 1 x y z 1 i = (if i = 3 then x else if i = 4 then y else if i = 5 then z else 0) := by
    intro i hi1 hi2
    unfold gX4_begin
    rcases (by omega : i = 1 ∨ i = 2 ∨ i = 3 ∨ i = 4 ∨ i = 5 ∨ i = 6 ∨ i = 7) with rfl | rfl | rfl | rfl | rfl | rfl | rfl <;>
      (repeat rw [mU_row (by decide)]) <;> rw [mu_same] <;> rfl
  refine ⟨hp, ⟨by decide, by rw [hz 5 (by decide) (by decide) (by decide) (by decide)]; rfl, ⟨?_, ?_, ?_, ?_, ?_, ?_, ?_⟩, ⟨trivial, by rw [h1]; exact hx, by rw [h2]; exact hy, by rw [h3]; exact hzz, ?_⟩, fun k hk => by omega⟩, ?_, fun j hj => by rw [hz _ (by omega) (by omega) (by omega) (by omega)]; exact Or.inr ⟨0, by decide, rfl⟩, by rw [hz 0 (by decide) (by decide) (by decide) (by decide)]; exact ⟨0, by decide, rfl⟩⟩
  · rw [b 1 (by decide) (by decide), hz 5 (by decide) (by decide) (by decide) (by decide)]; rfl
  · rw [b 2 (by decide) (by decide), hz 0 (by decide) (by decide) (by decide) (by decide)]; rfl
  · rw [b 3 (by decide) (by decide), h1]; rfl
  · rw [b 4 (by decide) (by decide), h2]; rfl
  · rw [b 5 (by decide) (by decide), h3]; rfl
  · rw [b 6 (by decide) (by decide), hz 4 (by decide) (by decide) (by decide) (by decide)]; rfl
  · rw [b 7 (by decide) (by decide), hz 7 (by decide) (by decide) (by decide) (by decide)]; rfl
  · rw [hz 4 (by decide) (by decide) (by decide) (by decide)]; exact ⟨0, by decide, rfl⟩
  · rw [hz 6 (by decide) (by decide) (by decide) (by decide)]; rfl

theorem fs_begin {A B : Mem} (hp : PTS B) (hz : ∀ i, i < 56 → B 127 i = 0) : RB (gX4_begin A 1 60 20 2) (mU (mU (mU B 127 1 60) 127 2 20) 127 3 2) 1 0 := by
  refine begin_rb1 (pts_row ?_ hp) ?_ ?_ ?_ (fun i hi h1 h2 h3 => ?_) ⟨60, by decide, rfl⟩ ⟨20, by decide, rfl⟩ ⟨2, by decide, rfl⟩
  · rw [mU_ne _ _ _ (by decide), mU_ne _ _ _ (by decide), mU_ne _ _ _ (by decide)]
  · rw [mU_row (by decide), mU_row (by decide), mu_same]
  · rw [mU_row (by decide), mu_same]
  · rw [mu_same]
  · rw [mU_row h3, mU_row h2, mU_row h1]
    exact hz i hi
theorem fs_hair {M N : Mem} {c : Nat} {x : Int32} (h : RB M N 1 c) (hc : c < 6) (hx : UB x 20) : RB (gX4_newHair M 1 x) (gX8_hangsHair N x) 1 (c + 1) ∧ RF 1 M (gX4_newHair M 1 x) ∧ (∀ p, p ≠ 127 → gX8_hangsHair N x p = N p) ∧ gX8_hangsHair N x 127 0 = N 127 0 := by
  obtain ⟨h1, h2⟩ := hair_rel h.ra h.af hc hx
  have e0 : gX8_hangsHair N x 127 0 = N 127 0 := (hh_rows x h.2.1.2.1 hc).2.2.2.2.2.2.2.2.2.2 0 (by decide) (by decide) (by omega)
  exact ⟨rb_of h1 h2 (hh_bxs h.bxs) (by rw [e0]; exact h.min), newHair_rf h.2.cnt, fun p hp => hh_ne hp, e0⟩
theorem fs_bulb {M N : Mem} {c : Nat} {x : Int32} (h : RB M N 1 c) (hc : c < 6) (hx : UB x 60) : RB (gX4_newBulb M 1 x) (gX8_hangsBulb N x) 1 (c + 1) ∧ RF 1 M (gX4_newBulb M 1 x) ∧ (∀ p, p ≠ 127 → gX8_hangsBulb N x p = N p) ∧ gX8_hangsBulb N x 127 0 = N 127 0 := by
  obtain ⟨h1, h2⟩ := bulb_rel h.ra h.af hc hx
  have e0 : gX8_hangsBulb N x 127 0 = N 127 0 := (hb_rows x h.2.1.2.1 hc).2.2.2.2.2.2.2.2.2 0 (by decide) (by omega)
  exact ⟨rb_of h1 h2 (hb_bxs h.bxs) (by rw [e0]; exact h.min), newBulb_rf h.2.cnt, fun p hp => hb_ne hp, e0⟩
theorem fs_pass {M N : Mem} {c n : Nat} (hn : n ≤ 10) (h : RB M N 1 c) {k : Nat} (hk : k ≤ 100) (h0 : N 127 0 = nI k) : RB (gX4_pass M 1 (nI n)) (gX8_passes N (nI n)) 1 c ∧ RF 1 M (gX4_pass M 1 (nI n)) ∧ (∀ p, p ≠ 127 → gX8_passes N (nI n) p = N p) ∧ gX8_passes N (nI n) 127 0 = nI (k + n) := by
  have e0 : gX8_passes N (nI n) 127 0 = nI (k + n) := by
    rw [pass_0 (by omega) (by decide) h.ra, h0, nI_add]
  exact ⟨rb_of (pass_rel (nI n) h.ra (by decide)).1 (pass_af (nI n) h.2.1.1 h.af) ((nk_ps N (nI n)).bxs h.bxs) (by rw [e0]; exact ⟨k + n, by omega, rfl⟩), pass_rf h.2.cnt, (nk_ps N (nI n)).1, e0⟩
theorem fs_hum {M N : Mem} {c : Nat} (h : RB M N 1 c) : RB (mU M 1 3 50) (mU N 127 1 50) 1 c ∧ RF 1 M (mU M 1 3 50) ∧ (∀ p, p ≠ 127 → mU N 127 1 50 p = N p) ∧ mU N 127 1 50 127 0 = N 127 0 :=
  ⟨rb_put h (ra_head h.ra (Or.inl ⟨rfl, rfl, 50, by decide, rfl⟩)) (A2.put (by decide)) (mU_row (by decide)) (fun j hj => by rw [mU_row (by omega)]; exact h.bxs j hj) (mU_row (by decide)), fun p hp => mU_ne _ _ _ (by omega), fun p hp => mU_ne _ _ _ hp, mU_row (by decide)⟩
theorem fs_box {M N : Mem} {c : Nat} (h : RB M N 1 c) (hc : 1 < c) : RB (mU M (1 + 1 + 1 + 1) 8 2) (mU N 127 23 2) 1 c ∧ RF 1 M (mU M (1 + 1 + 1 + 1) 8 2) ∧ (∀ p, p ≠ 127 → mU N 127 23 2 p = N p) ∧ mU N 127 23 2 127 0 = N 127 0 := by
  have hbx : BX (2 : Int32) := Or.inr ⟨2, by decide, rfl⟩
  refine ⟨rb_put h (ra_inst (j := 1) (i := 8) (d := 15) h.ra hc (by decide) (gi_box hbx (h.2.1.2.2.2.2 1 hc).2)) (A2.put (by decide)) (mU_row (by decide)) (fun j hj => ?_) (mU_row (by decide)), fun p hp => mU_ne _ _ _ (by omega), fun p hp => mU_ne _ _ _ hp, mU_row (by decide)⟩
  by_cases e : 8 * j + 15 = 23
  · rw [e, mu_same]
    exact hbx
  · rw [mU_row e]
    exact h.bxs j hj
theorem x70 (M : Mem) : LX7_init_70g 1 M = gX4_pass (mU (gX4_pass (mU (gX4_newBulb (gX4_newBulb (gX4_newHair (gX4_newHair (gX4_begin M 1 60 20 2) 1 10) 1 4) 1 30) 1 3) 1 3 50) 1 3) (1 + 1 + 1 + 1) 8 2) 1 2 := rfl
theorem x495 (M : Mem) : LX8_init_495g 1 M = gX8_passes (mU (gX8_passes (mU (gX8_hangsBulb (gX8_hangsBulb (gX8_hangsHair (gX8_hangsHair (mU (mU (mU M 127 1 60) 127 2 20) 127 3 2) 10) 4) 30) 3) 127 1 50) 3) 127 23 2) 2 := rfl
/-- the rooms of both, made beside each other -/
theorem first_room {A B : Mem} (hp : PTS B) (hz : ∀ i, i < 56 → B 127 i = 0) : RB (LX7_init_70g 1 A) (LX8_init_495g 1 B) 1 4 ∧ RF 1 A (LX7_init_70g 1 A) ∧ ∀ p, p ≠ 127 → LX8_init_495g 1 B p = B p := by
  rw [x70, x495]
  have a1 := fs_begin (A := A) hp hz
  have b1 := begin_rf A 1 60 20 2
  have d1 : ∀ p, p ≠ 127 → mU (mU (mU B 127 1 60) 127 2 20) 127 3 2 p = B p := fun p hp => by rw [mU_ne _ _ _ hp, mU_ne _ _ _ hp, mU_ne _ _ _ hp]
  have e1 : mU (mU (mU B 127 1 60) 127 2 20) 127 3 2 127 0 = 0 := by
    rw [mU_row (by decide), mU_row (by decide), mU_row (by decide)]
    exact hz 0 (by decide)
  generalize gX4_begin A 1 60 20 2 = m1 at a1 b1 ⊢
  generalize mU (mU (mU B 127 1 60) 127 2 20) 127 3 2 = n1 at a1 d1 e1 ⊢
  obtain ⟨a2, b2, d2, e2⟩ := fs_hair (x := 10) a1 (by decide) ⟨10, by decide, rfl⟩
  generalize gX4_newHair m1 1 10 = m2 at a2 b2 ⊢
  generalize gX8_hangsHair n1 10 = n2 at a2 d2 e2 ⊢
  obtain ⟨a3, b3, d3, e3⟩ := fs_hair (x := 4) a2 (by decide) ⟨4, by decide, rfl⟩
  generalize gX4_newHair m2 1 4 = m3 at a3 b3 ⊢
  generalize gX8_hangsHair n2 4 = n3 at a3 d3 e3 ⊢
  obtain ⟨a4, b4, d4, e4⟩ := fs_bulb (x := 30) a3 (by decide) ⟨30, by decide, rfl⟩
  generalize gX4_newBulb m3 1 30 = m4 at a4 b4 ⊢
  generalize gX8_hangsBulb n3 30 = n4 at a4 d4 e4 ⊢
  obtain ⟨a5, b5, d5, e5⟩ := fs_bulb (x := 3) a4 (by decide) ⟨3, by decide, rfl⟩
  generalize gX4_newBulb m4 1 3 = m5 at a5 b5 ⊢
  generalize gX8_hangsBulb n4 3 = n5 at a5 d5 e5 ⊢
  obtain ⟨a6, b6, d6, e6⟩ := fs_hum a5
  generalize mU m5 1 3 50 = m6 at a6 b6 ⊢
  generalize mU n5 127 1 50 = n6 at a6 d6 e6 ⊢
  obtain ⟨a7, b7, d7, e7⟩ := fs_pass (n := 3) (k := 0) (by decide) a6 (by decide) (((((e6.trans e5).trans e4).trans e3).trans e2).trans e1)
  rw [show (nI 3 : Int32) = 3 from rfl] at a7 b7 d7 e7
  generalize gX4_pass m6 1 3 = m7 at a7 b7 ⊢
  generalize gX8_passes n6 3 = n7 at a7 d7 e7 ⊢
  obtain ⟨a8, b8, d8, e8⟩ := fs_box a7 (by decide)
  generalize mU m7 (1 + 1 + 1 + 1) 8 2 = m8 at a8 b8 ⊢
  generalize mU n7 127 23 2 = n8 at a8 d8 e8 ⊢
  obtain ⟨a9, b9, d9, e9⟩ := fs_pass (n := 2) (k := 0 + 3) (by decide) a8 (by decide) (e8.trans e7)
  rw [show (nI 2 : Int32) = 2 from rfl] at a9 b9 d9
  refine ⟨a9, fun p hp => ?_, fun p hp => ?_⟩
  · rw [b9 p hp, b8 p hp, b7 p hp, b6 p hp, b5 p hp, b4 p hp, b3 p hp, b2 p hp, b1 p hp]
  · rw [d9 p hp, d8 p hp, d7 p hp, d6 p hp, d5 p hp, d4 p hp, d3 p hp, d2 p hp, d1 p hp]
/-- what the class's constructor leaves beside the room -/
theorem gi_hi {M : Mem} {r p : Nat} (hp : r + 8 ≤ p) : ∀ i, i ≤ 6 → gI M r i p = M p := by
  intro i
  induction i with
  | zero => intro _; rfl
  | succ i ih =>
    intro hi
    show mU (gI M r i) (r + 1 + 1 + i) 8 (-1) p = _
    rw [mU_ne _ _ _ (by omega), ih (by omega)]
theorem gi_col {M : Mem} {r p j : Nat} (hj : j ≠ 8) : ∀ i, gI M r i p j = M p j := by
  intro i
  induction i with
  | zero => rfl
  | succ i ih =>
    show mU (gI M r i) (r + 1 + 1 + i) 8 (-1) p j = _
    by_cases e : p = r + 1 + 1 + i
    · rw [e, mU_row hj, ← e, ih]
    · rw [mU_ne _ _ _ e, ih]
theorem r0_hi {M : Mem} {p : Nat} (hp : 102 ≤ p) : ∀ i, i ≤ 10 → gR0 M i p = M p := by
  intro i
  induction i with
  | zero => intro _; rfl
  | succ i ih =>
    intro hi
    show gI (gR0 M i) (22 + 8 * i) 6 p = _
    rw [gi_hi (by omega) 6 (by decide), ih (by omega)]
theorem r0_col {M : Mem} {p j : Nat} (hj : j ≠ 8) : ∀ i, gR0 M i p j = M p j := by
  intro i
  induction i with
  | zero => rfl
  | succ i ih =>
    show gI (gR0 M i) (22 + 8 * i) 6 p j = _
    rw [gi_col hj, ih]
theorem r5_hi {M : Mem} {p : Nat} (hp : 121 ≤ p) : ∀ i, i ≤ 2 → gR5 M i p = M p := by
  intro i
  induction i with
  | zero => intro _; rfl
  | succ i ih =>
    intro hi
    show gI (gR5 M i) (105 + 8 * i) 6 p = _
    rw [gi_hi (by omega) 6 (by decide), ih (by omega)]
theorem r5_col {M : Mem} {p j : Nat} (hj : j ≠ 8) : ∀ i, gR5 M i p j = M p j := by
  intro i
  induction i with
  | zero => rfl
  | succ i ih =>
    show gI (gR5 M i) (105 + 8 * i) 6 p j = _
    rw [gi_col hj, ih]
def gA0 (M : Mem) : Mem := mU (gR5 (gR0 (gX3_init (gX4_init M 1)) 10) 2) 123 8 (-1)
theorem a0_hi {M : Mem} {p : Nat} (hp : 124 ≤ p) : gA0 M p = M p := by
  unfold gA0
  rw [mU_ne _ _ _ (by omega), r5_hi (by omega) 2 (by decide), r0_hi (by omega) 10 (by decide)]
  show mU (gI (gI M 1 6) 12 6) 9 3 (-1) p = _
  rw [mU_ne _ _ _ (by omega), gi_hi (by omega) 6 (by decide), gi_hi (by omega) 6 (by decide)]
theorem a0_col {M : Mem} {p j : Nat} (hj : j ≠ 8) (h9 : p ≠ 9 ∨ j ≠ 3) : gA0 M p j = M p j := by
  have e0 : ∀ X : Mem, mU X 123 8 (-1) p j = X p j := fun X => by
    by_cases e : p = 123
    · rw [e, mU_row hj]
    · rw [mU_ne _ _ _ e]
  have e1 : ∀ X : Mem, mU X 9 3 (-1) p j = X p j := fun X => by
    by_cases e : p = 9
    · rw [e, mU_row (h9.resolve_left (fun h => h e))]
    · rw [mU_ne _ _ _ e]
  unfold gA0
  rw [e0, r5_col hj, r0_col hj]
  show mU (gI (gI M 1 6) 12 6) 9 3 (-1) p j = _
  rw [e1, gi_col hj, gi_col hj]
theorem a0_93 {M : Mem} : gA0 M 9 3 = -1 := by
  unfold gA0
  rw [mU_ne _ _ _ (by decide), r5_col (by decide), r0_col (by decide)]
  show mU (gI (gI M 1 6) 12 6) 9 3 (-1) 9 3 = _
  rw [mu_same]
theorem x7i (M : Mem) : gX7_init M = LX7_init_70g 1 (gA0 M) := rfl
def gB0 (A : Mem) : Mem := mU (gFill 126 keyV (gFill 125 ptsV A 4) 72) 124 14 (-1)
theorem x8i (A : Mem) : gX8_init A = LX8_init_495g 1 (gB0 A) := rfl
theorem b0_ne {A : Mem} {p : Nat} (h4 : p ≠ 124) (h5 : p ≠ 125) (h6 : p ≠ 126) : gB0 A p = A p := by
  unfold gB0
  rw [mU_ne _ _ _ h4, gFill_ne h6, gFill_ne h5]
theorem b0_4 {A : Mem} {j : Nat} (hj : j ≠ 14) : gB0 A 124 j = A 124 j := by
  unfold gB0
  rw [mU_row hj, gFill_ne (by decide), gFill_ne (by decide)]
theorem b0_44 {A : Mem} : gB0 A 124 14 = -1 := mu_same _ _ _ _
theorem b0_5 {A : Mem} {j : Nat} (hj : j < 4) : gB0 A 125 j = ptsV.getD j 0 := by
  unfold gB0
  rw [mU_ne _ _ _ (by decide), gFill_ne (by decide), gFill_at 4 j hj]
theorem b0_6 {A : Mem} {j : Nat} (hj : j < 72) : gB0 A 126 j = keyV.getD j 0 := by
  unfold gB0
  rw [mU_ne _ _ _ (by decide), gFill_at 72 j hj]
theorem key_at : ∀ w, w < 9 → ∀ j, j < 8 → keyV.getD (j + 8 * w) 0 = (if j < wrdN.getD w 0 then (wrdB.getD w []).getD j 0 else 0) := by decide +kernel
theorem pts_at : ∀ j, j < 4 → ptsV.getD j 0 = fpV j := by decide +kernel
/-- above its own rows the class's constructor changes nothing -/
theorem init_hi {p : Nat} (hp : 124 ≤ p) {B : Mem} (hb : PTS B) (hz : ∀ i, i < 56 → B 127 i = 0) : gX7_init (fun _ _ => 0) p = fun _ => 0 := by
  rw [x7i, (first_room (A := gA0 fun _ _ => 0) hb hz).2.1 p (by omega), a0_hi hp]
theorem init_z {p : Nat} (hp : 124 ≤ p) : gX7_init (fun _ _ => 0) p = fun _ => 0 :=
  init_hi (B := fun p j => if p = 125 then fpV j else 0) hp (fun j _ => rfl) (fun i _ => rfl)
/-- both constructors leave the same state -/
theorem g_first : G (gX8_init (gX7_init fun _ _ => 0)) (gX8_init (gX7_init fun _ _ => 0)) := by
  obtain ⟨A, hA⟩ : ∃ z, z = gX7_init fun _ _ => 0 := ⟨_, rfl⟩
  have hz : ∀ p, 124 ≤ p → A p = fun _ => 0 := fun p hp => by rw [hA]; exact init_z hp
  rw [← hA]
  have hp : PTS (gB0 A) := fun j hj => by rw [b0_5 hj]; exact pts_at j hj
  have h7 : ∀ i, i < 56 → gB0 A 127 i = 0 := fun i _ => by rw [b0_ne (by decide) (by decide) (by decide), hz 127 (by decide)]
  obtain ⟨r1, r2, r3⟩ := first_room (A := gA0 fun _ _ => 0) hp h7
  rw [← x7i, ← hA, ← x8i] at r1
  rw [← x7i, ← hA] at r2
  rw [← x8i] at r3
  obtain ⟨B, hB⟩ : ∃ z, z = gX8_init A := ⟨_, rfl⟩
  rw [← hB] at r1 r3 ⊢
  have hlo : ∀ p, p < 124 → B p = A p := fun p h => by rw [r3 p (by omega), b0_ne (by omega) (by omega) (by omega)]
  have hc : ∀ p j, 9 ≤ p → p < 124 → j ≠ 8 → (p ≠ 9 ∨ j ≠ 3) → B p j = 0 := fun p j h1 h2 h3 h4 => by rw [hlo p h2, r2 p (by omega), a0_col h3 h4]
  have h4 : ∀ j, j ≠ 14 → B 124 j = 0 := fun j hj => by rw [r3 124 (by decide), b0_4 hj, hz 124 (by decide)]
  have u0 : ∀ {x : Int32} {n : Nat}, x = 0 → UB x n := fun h => ⟨0, Nat.zero_le _, h⟩
  refine ⟨4, 0, 0, rb_ext (fun o h1 h2 => hlo o (by omega)) rfl rfl r1, ⟨by decide, by decide, hc 20 1 (by decide) (by decide) (by decide) (Or.inl (by decide)), hc 20 2 (by decide) (by decide) (by decide) (Or.inl (by decide)), h4 6 (by decide), fun i hi => absurd hi (Nat.not_lt_zero i)⟩, ⟨Or.inl (hc 104 0 (by decide) (by decide) (by decide) (Or.inl (by decide))), Or.inl (hc 104 1 (by decide) (by decide) (by decide) (Or.inl (by decide))), ?_, fun i hi h0 => absurd (hc 104 i (by decide) (by decide) (by omega) (Or.inl (by decide))) h0⟩, fun w hw j hj => ?_, ⟨0, by decide, hc 10 1 (by decide) (by decide) (by decide) (Or.inl (by decide)), h4 10 (by decide), fun j hj => absurd hj (Nat.not_lt_zero j)⟩, ⟨?_, ?_⟩, ⟨0, by decide, hc 121 1 (by decide) (by decide) (by decide) (Or.inl (by decide)), h4 12 (by decide), fun j hj => absurd hj (Nat.not_lt_zero j)⟩, u0 (hc 12 1 (by decide) (by decide) (by decide) (Or.inl (by decide))), fun i hi => u0 (hc _ 1 (by omega) (by omega) (by decide) (Or.inl (by omega))), fun i hi => u0 (hc _ 1 (by omega) (by omega) (by decide) (Or.inl (by omega)))⟩
  · rw [h4 8 (by decide), hc 104 0 (by decide) (by decide) (by decide) (Or.inl (by decide)), hc 104 1 (by decide) (by decide) (by decide) (Or.inl (by decide))]
    rfl
  · rw [r3 126 (by decide), b0_6 (by omega)]
    exact key_at w hw j hj
  · rw [hc 9 2 (by decide) (by decide) (by decide) (Or.inr (by decide)), h4 13 (by decide)]
  · rw [hlo 9 (by decide), r2 9 (by decide), a0_93, r3 124 (by decide), b0_44]
