abbrev vwCl : List vw_C := [(RX0, TX0, 3), (RX1, TX1, 9), (RX2, TX2, 2), (RX3, TX3, 4), (RX4, TX4, 8), (RX5, TX5, 2), (RX6, TX6, 6), (RX7, TX7, 6), (RJ4, TJ4, 4), (RJ0, TJ0, 4)]
/-! the world as one picture: every object of the class and the law's int[1] lies at a fixed place behind the base b, in the order in which they are made -/
abbrev Mem : Type := Nat → Nat → Int32
abbrev Fla : Type := Nat → Nat → Bool
/-- a place of the picture is written -/
def mU (M : Mem) (o k : Nat) (v : Int32) : Mem := fun p => if p = o then upd (M o) k v else M p
def fU (F : Fla) (o k : Nat) : Fla := fun p => if p = o then (fun j => if j = k then true else F o j) else F p
/-- all references are set -/
abbrev fT : Fla := fun _ _ => true
abbrev fN : Fla := fun _ _ => false
theorem mU_at (M : Mem) (o k : Nat) (v : Int32) : mU M o k v o = upd (M o) k v := if_pos rfl
theorem mU_ne (M : Mem) {o p : Nat} (k : Nat) (v : Int32) (h : p ≠ o) : mU M o k v p = M p := if_neg h
theorem fU_at (F : Fla) (o k : Nat) : fU F o k o = (fun j => if j = k then true else F o j) := if_pos rfl
theorem fU_ne (F : Fla) {o p : Nat} (k : Nat) (h : p ≠ o) : fU F o k p = F p := if_neg h
/-- the kinds of the places: 0 to 8 the classes of vwCl, 10 byte[], 11 int[], 12 boolean[], 13 Instrument[], 14 Room[] -/
def kdL : List Nat := [7,
  4, 13, 1, 1, 1, 1, 1, 1,
  3, 6, 10,
  4, 13, 1, 1, 1, 1, 1, 1,
  0, 14,
  4, 13, 1, 1, 1, 1, 1, 1, 4, 13, 1, 1, 1, 1, 1, 1, 4, 13, 1, 1, 1, 1, 1, 1, 4, 13, 1, 1, 1, 1, 1, 1, 4, 13, 1, 1, 1, 1, 1, 1,
  4, 13, 1, 1, 1, 1, 1, 1, 4, 13, 1, 1, 1, 1, 1, 1, 4, 13, 1, 1, 1, 1, 1, 1, 4, 13, 1, 1, 1, 1, 1, 1, 4, 13, 1, 1, 1, 1, 1, 1,
  5, 14, 12,
  4, 13, 1, 1, 1, 1, 1, 1, 4, 13, 1, 1, 1, 1, 1, 1,
  2, 10, 1,
  11]
def kd (o : Nat) : Nat := kdL.getD o 99
/-- how long the arrays are -/
def lenOf (o : Nat) : Nat := match o with
  | 11 => 600
  | 21 => 10
  | 103 => 2
  | 104 => 2
  | 122 => 24
  | 124 => 1
  | _ => 6
/-- where the first room of an array of rooms lies -/
def rbOf (o : Nat) : Nat := if o = 21 then 22 else 105
/-- a flag, 0 or 1 -/
def bv (x : Int32) : Int32 := if x = 0 then 0 else 1
theorem bv_bv (x : Int32) : bv (bv x) = bv x := by unfold bv; split <;> rfl
theorem bv_1 : bv 1 = 1 := rfl
theorem bv_0 : bv 0 = 0 := rfl
theorem bv_z (x : Int32) : bv x = 0 ↔ x = 0 := by unfold bv; split <;> simp_all
theorem bv_nar (x : Int32) : narrow .boolean (.int (bv x)) = .int (bv x) := by unfold bv; split <;> rfl
theorem bv_fit (x : Int32) : fits .boolean (.int (bv x)) = true := by unfold bv; split <;> rfl
def wR (f : Bool) (a : Nat) : Value := cond f (.ref a) .null
/-- a cell, by its place, the flags of its references and its numbers -/
def cellR (cy : Nat → ClassId) (b o : Nat) (f : Nat → Bool) (m : Nat → Int32) : va_E := match kd o with
  | 0 => .inr (0, [wR (f 0) (b + 21), .int (m 1), .int (m 2)])
  | 1 => .inr (1, [.int (bv (m 0)), .int (m 1), .int (m 2), .int (m 3), .int (m 4), .int (m 5), .int (m 6), .int (m 7), .int (m 8)])
  | 2 => .inr (2, [wR (f 0) (b + 122), .int (m 1)])
  | 3 => .inr (3, [wR (f 0) (b + 10), wR (f 1) (b + 12), .int (m 2), .int (m 3)])
  | 4 => .inr (4, [wR (f 0) (b + (o + 1)), .int (m 1), .int (m 2), .int (m 3), .int (m 4), .int (m 5), .int (m 6), .int (m 7)])
  | 5 => .inr (5, [wR (f 0) (b + 103), wR (f 1) (b + 104)])
  | 6 => .inr (6, [wR (f 0) (b + 11), .int (m 1), .int (m 2), .int (m 3), .int (m 4), .int (m 5)])
  | 7 => .inr (7, [wR (f 0) (b + 1), wR (f 1) (b + 9), wR (f 2) (b + 20), wR (f 3) (b + 102), wR (f 4) (b + 121), wR (f 5) (b + 123)])
  | 10 => .inl (cy 0, lenOf o, .inl m)
  | 11 => .inl (cy 1, lenOf o, .inl m)
  | 12 => .inl (cy 2, lenOf o, .inl m)
  | 13 => .inl (cy 3, 6, .inr (.inr (.inr (.inr (fun j => cond (f j) (some (b + (o + 1 + j))) none)))))
  | 14 => .inl (cy 4, lenOf o, .inr (.inr (.inr (.inr (fun j => cond (f j) (some (b + (rbOf o + 8 * j))) none)))))
  | _ => .inl (cy 1, lenOf o, .inl m)
theorem cell0 {cy : Nat → ClassId} {b o : Nat} {f : Nat → Bool} {m : Nat → Int32} (h : kd o = 0) : cellR cy b o f m = .inr (0, [wR (f 0) (b + 21), .int (m 1), .int (m 2)]) := by unfold cellR; rw [h] <;> rfl
theorem cell1 {cy : Nat → ClassId} {b o : Nat} {f : Nat → Bool} {m : Nat → Int32} (h : kd o = 1) : cellR cy b o f m = .inr (1, [.int (bv (m 0)), .int (m 1), .int (m 2), .int (m 3), .int (m 4), .int (m 5), .int (m 6), .int (m 7), .int (m 8)]) := by unfold cellR; rw [h] <;> rfl
theorem cell2 {cy : Nat → ClassId} {b o : Nat} {f : Nat → Bool} {m : Nat → Int32} (h : kd o = 2) : cellR cy b o f m = .inr (2, [wR (f 0) (b + 122), .int (m 1)]) := by unfold cellR; rw [h] <;> rfl
theorem cell3 {cy : Nat → ClassId} {b o : Nat} {f : Nat → Bool} {m : Nat → Int32} (h : kd o = 3) : cellR cy b o f m = .inr (3, [wR (f 0) (b + 10), wR (f 1) (b + 12), .int (m 2), .int (m 3)]) := by unfold cellR; rw [h] <;> rfl
theorem cell4 {cy : Nat → ClassId} {b o : Nat} {f : Nat → Bool} {m : Nat → Int32} (h : kd o = 4) : cellR cy b o f m = .inr (4, [wR (f 0) (b + (o + 1)), .int (m 1), .int (m 2), .int (m 3), .int (m 4), .int (m 5), .int (m 6), .int (m 7)]) := by unfold cellR; rw [h] <;> rfl
theorem cell5 {cy : Nat → ClassId} {b o : Nat} {f : Nat → Bool} {m : Nat → Int32} (h : kd o = 5) : cellR cy b o f m = .inr (5, [wR (f 0) (b + 103), wR (f 1) (b + 104)]) := by unfold cellR; rw [h] <;> rfl
theorem cell6 {cy : Nat → ClassId} {b o : Nat} {f : Nat → Bool} {m : Nat → Int32} (h : kd o = 6) : cellR cy b o f m = .inr (6, [wR (f 0) (b + 11), .int (m 1), .int (m 2), .int (m 3), .int (m 4), .int (m 5)]) := by unfold cellR; rw [h] <;> rfl
theorem cell7 {cy : Nat → ClassId} {b o : Nat} {f : Nat → Bool} {m : Nat → Int32} (h : kd o = 7) : cellR cy b o f m = .inr (7, [wR (f 0) (b + 1), wR (f 1) (b + 9), wR (f 2) (b + 20), wR (f 3) (b + 102), wR (f 4) (b + 121), wR (f 5) (b + 123)]) := by unfold cellR; rw [h] <;> rfl
theorem cell10 {cy : Nat → ClassId} {b o : Nat} {f : Nat → Bool} {m : Nat → Int32} (h : kd o = 10) : cellR cy b o f m = .inl (cy 0, lenOf o, .inl m) := by unfold cellR; rw [h] <;> rfl
theorem cell11 {cy : Nat → ClassId} {b o : Nat} {f : Nat → Bool} {m : Nat → Int32} (h : kd o = 11) : cellR cy b o f m = .inl (cy 1, lenOf o, .inl m) := by unfold cellR; rw [h] <;> rfl
theorem cell12 {cy : Nat → ClassId} {b o : Nat} {f : Nat → Bool} {m : Nat → Int32} (h : kd o = 12) : cellR cy b o f m = .inl (cy 2, lenOf o, .inl m) := by unfold cellR; rw [h] <;> rfl
theorem cell13 {cy : Nat → ClassId} {b o : Nat} {f : Nat → Bool} {m : Nat → Int32} (h : kd o = 13) : cellR cy b o f m = .inl (cy 3, 6, .inr (.inr (.inr (.inr (fun j => cond (f j) (some (b + (o + 1 + j))) none))))) := by unfold cellR; rw [h] <;> rfl
theorem cell14 {cy : Nat → ClassId} {b o : Nat} {f : Nat → Bool} {m : Nat → Int32} (h : kd o = 14) : cellR cy b o f m = .inl (cy 4, lenOf o, .inr (.inr (.inr (.inr (fun j => cond (f j) (some (b + (rbOf o + 8 * j))) none))))) := by unfold cellR; rw [h] <;> rfl
def wL (cy : Nat → ClassId) (b : Nat) (F : Fla) (M : Mem) (n : Nat) : va_W := (List.range n).map (fun o => (b + o, cellR cy b o (F o) (M o)))
theorem wL_get {cy : Nat → ClassId} {b : Nat} {F : Fla} {M : Mem} {n o : Nat} (h : o < n) : (wL cy b F M n)[o]? = some (b + o, cellR cy b o (F o) (M o)) := by
  unfold wL
  rw [List.getElem?_map, List.getElem?_range h]
  rfl
theorem wL_len {cy : Nat → ClassId} {b : Nat} {F : Fla} {M : Mem} {n : Nat} : (wL cy b F M n).length = n := by simp [wL]
theorem wL_inv {cy : Nat → ClassId} {b : Nat} {F : Fla} {M : Mem} {n k : Nat} {q : Nat × va_E} (h : (wL cy b F M n)[k]? = some q) : k < n ∧ q = (b + k, cellR cy b k (F k) (M k)) := by
  have hk : k < n := by
    have := (List.getElem?_eq_some_iff.mp h).1
    rwa [wL_len] at this
  rw [wL_get hk] at h
  exact ⟨hk, (Option.some.inj h).symm⟩
theorem wL_D {cy : Nat → ClassId} {b : Nat} {F : Fla} {M : Mem} {n : Nat} : va_D (fun q => b ≤ q) (wL cy b F M n) := by
  refine ⟨fun i j p q hi hj h => ?_, fun k q hk => ?_⟩
  · obtain ⟨-, rfl⟩ := wL_inv hi
    obtain ⟨-, rfl⟩ := wL_inv hj
    have h : b + i = b + j := h
    omega
  · obtain ⟨-, rfl⟩ := wL_inv hk
    exact Nat.le_add_right b k
/-- one place written -/
theorem wL_set {cy : Nat → ClassId} {b : Nat} {F F' : Fla} {M M' : Mem} {n o : Nat} {e : va_E} (he : cellR cy b o (F' o) (M' o) = e) (hF : ∀ p, p ≠ o → F' p = F p) (hM : ∀ p, p ≠ o → M' p = M p) : (wL cy b F M n).set o (b + o, e) = wL cy b F' M' n := by
  refine List.ext_getElem? fun k => ?_
  by_cases hk : k < n
  · rw [wL_get (F := F') hk]
    by_cases hko : k = o
    · subst hko
      rw [List.getElem?_set_self (by rw [wL_len]; exact hk), he]
    · rw [List.getElem?_set_ne (Ne.symm hko), wL_get hk, hF k hko, hM k hko]
  · rw [List.getElem?_eq_none (by rw [List.length_set, wL_len]; omega), List.getElem?_eq_none (by rw [wL_len]; omega)]
/-- one place more -/
theorem wL_push {cy : Nat → ClassId} {b : Nat} {F : Fla} {M : Mem} {n : Nat} {e : va_E} (he : cellR cy b n (F n) (M n) = e) : wL cy b F M n ++ [(b + n, e)] = wL cy b F M (n + 1) := by
  unfold wL
  rw [List.range_succ, List.map_append, List.map_singleton, he]
theorem wL_congr {cy : Nat → ClassId} {b : Nat} {F F' : Fla} {M M' : Mem} {n : Nat} (hF : ∀ p, p < n → F' p = F p) (hM : ∀ p, p < n → M' p = M p) : wL cy b F M n = wL cy b F' M' n := by
  refine List.ext_getElem? fun k => ?_
  by_cases hk : k < n
  · rw [wL_get hk, wL_get hk, hF k hk, hM k hk]
  · rw [List.getElem?_eq_none (by rw [wL_len]; omega), List.getElem?_eq_none (by rw [wL_len]; omega)]
/-- the kinds of the arrays -/
def tysW (cy : Nat → ClassId) : List (ClassId × FieldType) := [(cy 0, .byte), (cy 1, .int), (cy 2, .boolean), (cy 3, .object RX1), (cy 4, .object RX4)]
/-- the places of rooms -/
theorem kd_lt {o k : Nat} (h : kd o = k) (hk : k < 99) : o < 125 := by
  by_cases ho : o < 125
  · exact ho
  · exfalso
    unfold kd at h
    rw [List.getD_eq_getElem?_getD, List.getElem?_eq_none (by show 125 ≤ o; omega)] at h
    simp at h
    omega
theorem kd_room : ∀ r, r < 125 → kd r = 4 → r < 114 ∧ kd (r + 1) = 13 ∧ kd (r + 1 + 1 + 0) = 1 ∧ kd (r + 1 + 1 + 1) = 1 ∧ kd (r + 1 + 1 + 2) = 1 ∧ kd (r + 1 + 1 + 3) = 1 ∧ kd (r + 1 + 1 + 4) = 1 ∧ kd (r + 1 + 1 + 5) = 1 := by decide +kernel
theorem kd_arr {r : Nat} (h : kd r = 4) : kd (r + 1) = 13 := (kd_room r (kd_lt h (by decide)) h).2.1
theorem kd_rlt {r : Nat} (h : kd r = 4) : r < 114 := (kd_room r (kd_lt h (by decide)) h).1
theorem kd_ins {r : Nat} (h : kd r = 4) {j : Nat} (hj : j < 6) : kd (r + 1 + 1 + j) = 1 := by
  obtain ⟨-, -, h0, h1, h2, h3, h4, h5⟩ := kd_room r (kd_lt h (by decide)) h
  rcases (show j = 0 ∨ j = 1 ∨ j = 2 ∨ j = 3 ∨ j = 4 ∨ j = 5 by omega) with rfl | rfl | rfl | rfl | rfl | rfl <;> assumption
theorem kd_i124 : ∀ o, o < 125 → kd o = 1 → o < 124 := by decide +kernel
theorem kd_ilt {o : Nat} (h : kd o = 1) : o < 124 := kd_i124 o (kd_lt h (by decide)) h
theorem kd_his : ∀ j, j < 10 → kd (22 + 8 * j) = 4 := by decide +kernel
theorem kd_slo : ∀ j, j < 2 → kd (105 + 8 * j) = 4 := by decide +kernel
