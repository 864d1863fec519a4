theorem hr_frame {M M' N N' : Mem} {K p : Nat} (h : HR M N K p) (hm : ∀ o, 20 ≤ o → o < 102 → M' o = M o) (h6 : N' 124 6 = N 124 6) (h129 : N' 129 = N 129) : HR M' N' K p := by
  obtain ⟨a, b, c, d, e, f⟩ := h
  refine ⟨a, b, by rw [hm 20 (by decide) (by decide)]; exact c, by rw [hm 20 (by decide) (by decide)]; exact d, h6.trans e, fun i hi => ?_⟩
  obtain ⟨c2, hc2⟩ := f i hi
  exact ⟨c2, rq_ext (fun o h1 h2 => hm o (by omega) (by omega)) (fun t ht => by rw [h129]) hc2⟩
theorem sl_frame {M M' N N' : Mem} (h : SL M N) (hm : ∀ o, 104 ≤ o → o < 121 → M' o = M o) (h8 : N' 124 8 = N 124 8) (h130 : N' 130 = N 130) : SL M' N' := by
  obtain ⟨a, b, c, d⟩ := h
  unfold SL
  rw [hm 104 (by decide) (by decide), h8]
  refine ⟨a, b, c, fun i hi hne => ?_⟩
  obtain ⟨c2, hc2⟩ := d i hi hne
  exact ⟨c2, rq_ext (fun o h1 h2 => hm o (by omega) (by omega)) (fun t ht => by rw [h130]) hc2⟩
theorem restore_rel {M N : Mem} {K p c i : Nat} (h : HR M N K p) (hr : RB M N 1 c) (hsl : SL M N) (hi : i < 2) (hne : ¬ M 104 i = 0) :
    HR (gX4_copyFrom (gX0_record M 1) 1 (105 + 8 * i)) (LX8_restore_38g (nI i) 57 (gX8_remembers N) 0) (min 10 (K + 1)) ((p + 1) % 10) ∧ (∃ c2, RB (gX4_copyFrom (gX0_record M 1) 1 (105 + 8 * i)) (LX8_restore_38g (nI i) 57 (gX8_remembers N) 0) 1 c2) ∧ SL (gX4_copyFrom (gX0_record M 1) 1 (105 + 8 * i)) (LX8_restore_38g (nI i) 57 (gX8_remembers N) 0) ∧ gX4_copyFrom (gX0_record M 1) 1 (105 + 8 * i) 1 2 = LX8_restore_38f (nI i) 57 (gX8_remembers N) 0 := by
  obtain ⟨g1, g2⟩ := record_rel h hr
  obtain ⟨s1, s2, s3, s4, s5, s6⟩ := rs_loop hi 57 (gX8_remembers N) 0 (by omega) (by omega)
  have hp := h.2.1
  have hK := h.1
  have hcn := hr.2.cnt
  obtain ⟨r1, -, -⟩ := rec_rows hp hK h.2.2.1 h.2.2.2.1 hcn
  have hrec : ∀ o, 102 ≤ o → gX0_record M 1 o = M o := fun o h1 => (r1 o (by omega)).trans (copy_rf hcn o (by omega))
  have hsl1 : SL (gX0_record M 1) (gX8_remembers N) := by
    refine sl_frame hsl (fun o h1 h2 => hrec o (by omega)) ?_ (rm_ne (by decide) (by decide))
    unfold gX8_remembers
    split
    · exact ((rm15 _ _ _).2 8 (by decide)).trans ((fo3 505 N 0 (by omega) (by omega)).2.1 8 (by decide))
    · exact (rm15 _ _ _).2 8 (by decide)
  have hne1 : ¬ gX0_record M 1 104 i = 0 := by rw [hrec 104 (by decide)]; exact hne
  obtain ⟨c2, hc2⟩ := hsl1.2.2.2 i hi hne1
  have hcp := rq_copy (r := 1) (Or.inr (by omega)) hc2
  have hfr : ∀ o, 9 ≤ o → gX4_copyFrom (gX0_record M 1) 1 (105 + 8 * i) o = gX0_record M 1 o := fun o h1 => copy_rf hc2.cnt o (by omega)
  have hra : RB (gX4_copyFrom (gX0_record M 1) 1 (105 + 8 * i)) (LX8_restore_38g (nI i) 57 (gX8_remembers N) 0) 1 c2 := ⟨pts_row (s3 125 (by decide) (by decide)) g2.1, rq_ext (fun _ _ _ => rfl) (fun t ht => s1 t (Nat.zero_le _) ht) hcp⟩
  refine ⟨hr_frame g1 (fun o h1 h2 => hfr o (by omega)) (s4 6 (by decide)) (s3 129 (by decide) (by decide)), ⟨c2, hra⟩, sl_frame hsl1 (fun o h1 h2 => hfr o (by omega)) (s4 8 (by decide)) (s3 130 (by decide) (by decide)), ?_⟩
  rw [s6]
  exact hra.2.1.2.2.1.2.1
