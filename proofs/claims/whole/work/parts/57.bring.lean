theorem br_at {N : Mem} {t : Int32} (h : (if N 127 4 + N 127 3 ≤ 99 then N 127 3 else 99 - N 127 4) = t) : gX8_brings N 127 4 = N 127 4 + t ∧ gX8_brings N 127 7 = N 127 7 + t := by
  have u : ∀ (M : Mem) (v : Int32) (k : Nat), mU M 127 k v 127 k = v := fun M v k => by rw [mU_at]; exact if_pos rfl
  unfold gX8_brings
  by_cases c : N 127 4 + N 127 3 ≤ 99
  · rw [if_pos c] at h
    rw [if_pos c, h, u, mU_row (by decide), u, mU_row (by decide)]
    exact ⟨rfl, rfl⟩
  · rw [if_neg c] at h
    rw [if_neg c, h, u, mU_row (by decide), u, mU_row (by decide)]
    exact ⟨rfl, rfl⟩
theorem ra_bring {M N : Mem} {r c : Nat} (h : RA M N r c) (hr : kd r = 4) : RA (gX4_bringHairs M r) (gX8_brings N) r c := by
  obtain ⟨hp, hc, h5, hh, hg, hk⟩ := h
  obtain ⟨a1, a2, a3, a4, a5, a6, a7⟩ := hh
  obtain ⟨b1, b2⟩ := bring_eq hg.2.2.2.1 hg.2.2.2.2
  obtain ⟨e4, e7⟩ := br_at (N := N) rfl
  have u : ∀ (M : Mem) (v : Int32) (k : Nat), mU M r k v r k = v := fun M v k => by rw [mU_at]; exact if_pos rfl
  have hb : ∀ j, j ≠ 4 → j ≠ 7 → gX8_brings N 127 j = N 127 j := fun j h1 h2 => brings_at h1 h2
  have c7 : gX4_bringHairs M r r 7 = N 127 7 + (if N 127 4 + N 127 3 ≤ 99 then N 127 3 else 99 - N 127 4) := by
    unfold gX4_bringHairs
    rw [u, mU_row (by decide), a5, a6, a7, b1]
  have c6 : gX4_bringHairs M r r 6 = N 127 4 + (if N 127 4 + N 127 3 ≤ 99 then N 127 3 else 99 - N 127 4) := by
    unfold gX4_bringHairs
    rw [mU_row (by decide), u, a5, a6, b1]
  have cx : ∀ j, j ≠ 6 → j ≠ 7 → gX4_bringHairs M r r j = M r j := fun j h1 h2 => by
    unfold gX4_bringHairs
    rw [mU_row h2, mU_row h1]
  refine ⟨pts_row (brings_ne (by decide)) hp, hc, ?_, ⟨?_, ?_, ?_, ?_, ?_, ?_, ?_⟩, ⟨trivial, ?_, ?_, ?_, ?_⟩, fun k hk2 => ?_⟩
  · rw [hb _ (by decide) (by decide)]; exact h5
  · rw [cx _ (by decide) (by decide), hb _ (by decide) (by decide)]; exact a1
  · rw [cx _ (by decide) (by decide), hb _ (by decide) (by decide)]; exact a2
  · rw [cx _ (by decide) (by decide), hb _ (by decide) (by decide)]; exact a3
  · rw [cx _ (by decide) (by decide), hb _ (by decide) (by decide)]; exact a4
  · rw [cx _ (by decide) (by decide), hb _ (by decide) (by decide)]; exact a5
  · rw [c6, e4]
  · rw [c7, e7]
  · rw [hb _ (by decide) (by decide)]; exact hg.2.1
  · rw [hb _ (by decide) (by decide)]; exact hg.2.2.1
  · rw [hb _ (by decide) (by decide)]; exact hg.2.2.2.1
  · rw [e4]; exact b2
  · obtain ⟨i, g⟩ := hk k hk2
    refine ⟨?_, gi_out (fun j h1 h2 => hb j (by omega) (by omega)) g⟩
    rw [gX4_bringHairs_ne (by omega)]
    exact ri_out (fun j h1 h2 => hb j (by omega) (by omega)) i
theorem ra_min {M N : Mem} {r c : Nat} (h : RA M N r c) : RA (mU M r 2 (M r 2 + 1)) (mU N 127 0 (N 127 0 + 1)) r c := by
  obtain ⟨hp, hc, h5, ⟨a1, a2, a3, a4, a5, a6, a7⟩, hg, hk⟩ := h
  have u : ∀ (M : Mem) (v : Int32) (o k : Nat), mU M o k v o k = v := fun M v o k => by rw [mU_at]; exact if_pos rfl
  have hb : ∀ j, j ≠ 0 → mU N 127 0 (N 127 0 + 1) 127 j = N 127 j := fun j h1 => mU_row h1
  refine ⟨pts_row (mU_ne _ _ _ (by decide)) hp, hc, ?_, ⟨?_, ?_, ?_, ?_, ?_, ?_, ?_⟩, ⟨trivial, ?_, ?_, ?_, ?_⟩, fun k hk2 => ?_⟩
  · rw [hb _ (by decide)]; exact h5
  · rw [mU_row (by decide), hb _ (by decide)]; exact a1
  · rw [u, u, a2]
  · rw [mU_row (by decide), hb _ (by decide)]; exact a3
  · rw [mU_row (by decide), hb _ (by decide)]; exact a4
  · rw [mU_row (by decide), hb _ (by decide)]; exact a5
  · rw [mU_row (by decide), hb _ (by decide)]; exact a6
  · rw [mU_row (by decide), hb _ (by decide)]; exact a7
  · rw [hb _ (by decide)]; exact hg.2.1
  · rw [hb _ (by decide)]; exact hg.2.2.1
  · rw [hb _ (by decide)]; exact hg.2.2.2.1
  · rw [hb _ (by decide)]; exact hg.2.2.2.2
  · obtain ⟨i, g⟩ := hk k hk2
    refine ⟨?_, gi_out (fun j h1 h2 => hb j (by omega)) g⟩
    rw [mU_ne _ _ _ (by omega)]
    exact ri_out (fun j h1 h2 => hb j (by omega)) i
