/-! what the start gives -/
section START
variable {s : State} {b : Addr}
theorem st_arr (hts : ∀ w ∈ lw_tb6, w.before #[Value.ref b] s = true) : ∃ cy : Nat → ClassId, ∀ (k : Nat) (q : ClassId × FieldType), (tysW cy)[k]? = some q → ArrOfT s q.1 q.2 ∧ va_RA s q.1 q.2 := by
  obtain ⟨c0, k0, p0, a0, b0, d0⟩ := Cond.arrayClass_spec (args := #[Value.ref b]) (first := s) (o := none) (s := s) (idx := []) (hts (.arrayClass .byte) (by decide +kernel))
  obtain ⟨c1, k1, p1, a1, b1, d1⟩ := Cond.arrayClass_spec (args := #[Value.ref b]) (first := s) (o := none) (s := s) (idx := []) (hts (.arrayClass .int) (by decide +kernel))
  obtain ⟨c2, k2, p2, a2, b2, d2⟩ := Cond.arrayClass_spec (args := #[Value.ref b]) (first := s) (o := none) (s := s) (idx := []) (hts (.arrayClass .boolean) (by decide +kernel))
  obtain ⟨p3, c3, k3, e3, -, b3, d3, a3⟩ := Cond.arrayOver_spec (args := #[Value.ref b]) (first := s) (o := none) (s := s) (idx := []) (n := RX1) (hts (.arrayOver (.object RX1)) (by decide +kernel))
  obtain ⟨p4, c4, k4, e4, -, b4, d4, a4⟩ := Cond.arrayOver_spec (args := #[Value.ref b]) (first := s) (o := none) (s := s) (idx := []) (n := RX4) (hts (.arrayOver (.object RX4)) (by decide +kernel))
  refine ⟨fun k => match k with
    | 0 => c0
    | 1 => c1
    | 2 => c2
    | 3 => c3
    | _ => c4, fun k q hq => ?_⟩
  match k, hq with
  | 0, hq =>
    obtain rfl := Option.some.inj hq
    exact ⟨fun n z => ⟨(fun k h => by cases h), k0, b0, p0, d0⟩, a0⟩
  | 1, hq =>
    obtain rfl := Option.some.inj hq
    exact ⟨fun n z => ⟨(fun k h => by cases h), k1, b1, p1, d1⟩, a1⟩
  | 2, hq =>
    obtain rfl := Option.some.inj hq
    exact ⟨fun n z => ⟨(fun k h => by cases h), k2, b2, p2, d2⟩, a2⟩
  | 3, hq =>
    obtain rfl := Option.some.inj hq
    exact ⟨fun n z => ⟨(fun k h => by cases h), k3, b3, p3, d3⟩, k3, p3, b3, d3, e3, a3⟩
  | 4, hq =>
    obtain rfl := Option.some.inj hq
    exact ⟨fun n z => ⟨(fun k h => by cases h), k4, b4, p4, d4⟩, k4, p4, b4, d4, e4, a4⟩
  | k + 5, hq => exact absurd hq (by simp [tysW])
theorem st_cls (hts : ∀ w ∈ lw_tb6, w.before #[Value.ref b] s = true) : ∃ (dC : Nat → ClassId) (dI : Nat → Nat → Nat), ∀ (k : Nat) (q : vw_C), vwCl[k]? = some q → u_Kn s q.1 q.2.1 q.2.2 (dC k) (dI k) := by
  obtain ⟨c0, i0, h0⟩ := u_known (C := RX0) (T := TX0) (N := 3) (n := 3) hts inX0 (hts (.instantiable RX0 3) (by decide +kernel))
  obtain ⟨c1, i1, h1⟩ := u_known (C := RX1) (T := TX1) (N := 9) (n := 9) hts inX1 (hts (.instantiable RX1 9) (by decide +kernel))
  obtain ⟨c2, i2, h2⟩ := u_known (C := RX2) (T := TX2) (N := 2) (n := 2) hts inX2 (hts (.instantiable RX2 2) (by decide +kernel))
  obtain ⟨c3, i3, h3⟩ := u_known (C := RX3) (T := TX3) (N := 4) (n := 4) hts inX3 (hts (.instantiable RX3 4) (by decide +kernel))
  obtain ⟨c4, i4, h4⟩ := u_known (C := RX4) (T := TX4) (N := 8) (n := 8) hts inX4 (hts (.instantiable RX4 8) (by decide +kernel))
  obtain ⟨c5, i5, h5⟩ := u_known (C := RX5) (T := TX5) (N := 2) (n := 2) hts inX5 (hts (.instantiable RX5 2) (by decide +kernel))
  obtain ⟨c6, i6, h6⟩ := u_known (C := RX6) (T := TX6) (N := 6) (n := 6) hts inX6 (hts (.instantiable RX6 6) (by decide +kernel))
  obtain ⟨c7, i7, h7⟩ := u_known (C := RX7) (T := TX7) (N := 6) (n := 6) hts inX7 (hts (.instantiable RX7 6) (by decide +kernel))
  obtain ⟨c8, i8, h8⟩ := u_known (C := RJ4) (T := TJ4) (N := 4) (n := 4) hts inJ4 (hts (.instantiable RJ4 4) (by decide +kernel))
  obtain ⟨c9, i9, h9⟩ := u_known (C := RJ0) (T := TJ0) (N := 4) (n := 4) hts inJ0 (hts (.instantiable RJ0 4) (by decide +kernel))
  refine ⟨fun k => match k with
    | 0 => c0
    | 1 => c1
    | 2 => c2
    | 3 => c3
    | 4 => c4
    | 5 => c5
    | 6 => c6
    | 7 => c7
    | 8 => c8
    | _ => c9, fun k => match k with
    | 0 => i0
    | 1 => i1
    | 2 => i2
    | 3 => i3
    | 4 => i4
    | 5 => i5
    | 6 => i6
    | 7 => i7
    | 8 => i8
    | _ => i9, fun k q hq => ?_⟩
  match k, hq with
  | 0, hq =>
    obtain rfl := Option.some.inj hq
    exact h0
  | 1, hq =>
    obtain rfl := Option.some.inj hq
    exact h1
  | 2, hq =>
    obtain rfl := Option.some.inj hq
    exact h2
  | 3, hq =>
    obtain rfl := Option.some.inj hq
    exact h3
  | 4, hq =>
    obtain rfl := Option.some.inj hq
    exact h4
  | 5, hq =>
    obtain rfl := Option.some.inj hq
    exact h5
  | 6, hq =>
    obtain rfl := Option.some.inj hq
    exact h6
  | 7, hq =>
    obtain rfl := Option.some.inj hq
    exact h7
  | 8, hq =>
    obtain rfl := Option.some.inj hq
    exact h8
  | 9, hq =>
    obtain rfl := Option.some.inj hq
    exact h9
  | k + 10, hq => exact absurd hq (by simp [vwCl])
end START
