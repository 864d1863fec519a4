/-! states kept and brought back -/
theorem slot_eq (M N : Mem) (x : Int32) : (fX7_isSlot M x = 0 ∧ fX8_in N x 0 1 = 0) ∨ (∃ i, i < 2 ∧ x = nI i ∧ ¬ fX7_isSlot M x = 0 ∧ ¬ fX8_in N x 0 1 = 0) := by
  unfold fX7_isSlot
  by_cases h0 : x < 0
  · rw [if_pos h0]; exact Or.inl ⟨rfl, in_no (Or.inl h0)⟩
  · rw [if_neg h0]
    by_cases h4 : (2 : Int32) ≤ x
    · rw [if_pos h4]; exact Or.inl ⟨rfl, in_no (Or.inr (fun h => absurd (Int32.le_trans h4 h) (by decide)))⟩
    · have h3 : x ≤ 1 := by
        rw [Int32.le_iff_toInt_le]
        have := Int32.lt_iff_toInt_lt.mp (Int32.not_le.mp h4)
        rw [show (2 : Int32).toInt = 2 from rfl] at this
        rw [show (1 : Int32).toInt = 1 from rfl]
        omega
      obtain ⟨k, hk, ek⟩ := ub_le (N := 1) h0 h3 rfl
      rw [if_neg h4]
      exact Or.inr ⟨k, by omega, ek, by decide, in_yes h0 h3⟩
theorem find_eq {M : Mem} {i : Nat} (hi : i < 2) (hs : ¬ fX7_isSlot M (nI i) = 0) : fX5_find M (nI i) = if M 104 i = 0 then none else some (105 + 8 * i) := by
  unfold fX5_find
  rw [if_neg hs, nI_clamp (by omega)]
theorem rel_restore {M N : Mem} (h : G M N) (x : Int32) : RES M N (gX7_restore M x) (gX8_restore N x) [1, 3] (tX7_restore M x) (fX7_restore M x) (fX8_restore N x) := by
  obtain ⟨c, K, p, hg⟩ := id h
  unfold gX7_restore gX8_restore tX7_restore fX7_restore fX8_restore
  rcases slot_eq M N x with ⟨e1, e2⟩ | ⟨i, hi, rfl, e1, e2⟩
  · rw [if_pos e1, if_pos e1, if_pos e1, if_pos e2, if_pos e2]
    exact RES.no h rfl rfl (by decide)
  · rw [if_neg e1, if_neg e1, if_neg e1, if_neg e2, if_neg e2, sl_bit hg.2.2.1 hi, find_eq hi e1]
    by_cases h0 : M 104 i = 0
    · rw [if_pos h0, if_pos h0, if_pos h0]
      exact RES.no h rfl rfl (by decide)
    · rw [if_neg h0, if_neg h0, if_neg h0]
      obtain ⟨q1, ⟨c2, q2⟩, q3, q4⟩ := restore_rel hg.2.1 hg.1 hg.2.2.1 hi h0
      obtain ⟨s1, s2, s3, s4, s5, s6⟩ := rs_loop hi 57 (gX8_remembers N) 0 (by omega) (by omega)
      have hr := gc_record hg
      have hcn : CNT (gX0_record M 1) (105 + 8 * i) := hr.2.2.2.2.2.2.2.2.2 i hi
      exact RES.chg hg (fun o ho => copy_rf hcn o (by omega)) (fun q a b => s3 q b a) (fun j a b => s4 j b) s5 q2 q4
theorem tb_frame {M N : Mem} {K p : Nat} (h : HR M N K p) (hh : HC10 M) (hK0 : 0 < K) : ∀ o, 9 ≤ o → o ≠ 20 → gX0_takeBack M 1 o = M o := by
  obtain ⟨M2, m1, m2, m3, m4⟩ := tb_rows h.2.1 hK0 h.1 h.2.2.1 h.2.2.2.1
  intro o h1 h2
  have hcn : CNT M2 (22 + 8 * ((p + 9) % 10)) := cnt_row (m2 _ (by omega)) (hh _ (by omega))
  rw [m1]
  exact (copy_rf hcn o (by omega)).trans (m2 o h2)
theorem rel_undo {M N : Mem} (h : G M N) : RES M N (gX7_undo M) (gX8_undo N) [3] (tX7_undo M) (fX7_undo M) (fX8_undo N) := by
  obtain ⟨c, K, p, hg⟩ := id h
  have hh := hg.2.1
  have hK := hh.1
  have h20 : M 20 2 = nI K := hh.2.2.2.1
  have h6 : N 124 6 = nI K := hh.2.2.2.2.1
  unfold gX7_undo tX7_undo fX7_undo
  by_cases hz : K = 0
  · have z1 : M 20 2 = 0 := by rw [h20, hz]; rfl
    have z2 : N 124 6 = 0 := by rw [h6, hz]; rfl
    rw [if_pos z1, if_pos z1, if_pos z1]
    have e : gX8_undo N = mU N 124 2 1 := by unfold gX8_undo; rw [if_pos z2]; rfl
    exact RES.no (v := 1) h e rfl (by decide)
  · have hne : ∀ {v : Int32}, v = nI K → ¬ v = 0 := fun e e0 => by
      rw [e] at e0
      have := sm_nI (k := K) (by omega)
      rw [e0, show (0 : Int32).toInt = 0 from rfl] at this
      omega
    rw [if_neg (hne h20), if_neg (hne h20), if_neg (hne h20)]
    obtain ⟨u1, ⟨c2, u2⟩, u3, u4, u5⟩ := undo_rel hh hg.1.1 (by omega)
    have hro := tb_frame hh hg.2.2.2.2.2.2.2.2.1 (by omega)
    have h6b : mU N 124 6 (N 124 6 - 1) 124 6 = nI (K - 1) := by
      rw [mu_same, h6, show (1 : Int32) = nI 1 from rfl, pk_sub (by omega)]
    obtain ⟨v1, v2, v3, v4, v5, v6⟩ := ud_loop (n := K - 1) (by omega) 57 (mU N 124 6 (N 124 6 - 1)) 0 (by omega) (by omega) h6b
    have hu : gX8_undo N = LX8_undo_25g 57 (mU N 124 6 (N 124 6 - 1)) 0 := by unfold gX8_undo; rw [if_neg (hne h6)]
    have hn : ∀ q, q ≠ 124 → q ≠ 127 → gX8_undo N q = N q := fun q a b => by rw [hu, v3 q b a, mU_ne _ _ _ a]
    have hn4 : ∀ j, j ≠ 2 → j ≠ 6 → gX8_undo N 124 j = N 124 j := fun j a b => by rw [hu, v4 j a, mU_row b]
    obtain ⟨h1, h2, h3, h5, ⟨n, n6, na, nb, nc⟩, ⟨ea, eb⟩, ⟨w, w6, wa, wb, wc⟩, ⟨i1, i2, i3⟩⟩ := hg
    refine ⟨⟨c2, K - 1, (p + 9) % 10, u2, u1, sl_frame h3 (fun o ho _ => hro o (by omega) (by omega)) (hn4 8 (by decide) (by decide)) (hn 130 (by decide) (by decide)), keys_row (hn 126 (by decide) (by decide)) h5, ⟨n, n6, ?_, ?_, ?_⟩, ⟨?_, ?_⟩, ⟨w, w6, ?_, ?_, ?_⟩, cnt_row (hro 12 (by decide) (by decide)) i1, fun i hi => cnt_row (hro _ (by omega) (by omega)) (i2 i hi), fun i hi => cnt_row (hro _ (by omega) (by omega)) (i3 i hi)⟩, u5, fun _ => by rw [u3, u4], fun q hq => hro q (by omega) (by omega), fun o ho => hn o (by omega) (by omega)⟩
    · rw [hro 10 (by decide) (by decide)]; exact na
    · rw [hn4 10 (by decide) (by decide)]; exact nb
    · rw [hro 11 (by decide) (by decide), hn 131 (by decide) (by decide)]; exact nc
    · rw [hro 9 (by decide) (by decide), hn4 13 (by decide) (by decide)]; exact ea
    · rw [hro 9 (by decide) (by decide), hn4 14 (by decide) (by decide)]; exact eb
    · rw [hro 121 (by decide) (by decide)]; exact wa
    · rw [hn4 12 (by decide) (by decide)]; exact wb
    · rw [hro 122 (by decide) (by decide), hn 132 (by decide) (by decide)]; exact wc
theorem rel_save {M N : Mem} (h : G M N) (x : Int32) : RES M N (gX7_save M x) (gX8_save N x) [1] (tX7_save M x) (fX7_save M x) (fX8_save N x) := by
  obtain ⟨c, K, p, hg⟩ := id h
  unfold gX7_save gX8_save tX7_save fX7_save fX8_save
  rcases slot_eq M N x with ⟨e1, e2⟩ | ⟨i, hi, rfl, e1, e2⟩
  · rw [if_pos e1, if_pos e1, if_pos e1, if_pos e2, if_pos e2]
    exact RES.no h rfl rfl (by decide)
  · rw [if_neg e1, if_neg e1, if_neg e1, if_neg e2, if_neg e2]
    obtain ⟨q1, q2, q3⟩ := save_rel hg.2.2.1 hg.1 hi
    obtain ⟨s1, s2, s3, s4, s5, s6, s7⟩ := sv_loop hi 57 N 0 (by omega) (by omega)
    have hcl : (nI i).toNatClampNeg = i := nI_clamp (by omega)
    have hk : gX5_keep M (nI i) 1 = mU (gX4_copyFrom M (105 + 8 * i) 1) 104 i 1 := by unfold gX5_keep; rw [if_neg e1, hcl]
    have hcn := hg.1.2.cnt
    have hro : ∀ o, o ≠ 104 → (o < 105 + 8 * i ∨ 105 + 8 * i + 8 ≤ o) → gX5_keep M (nI i) 1 o = M o := fun o ho hh => by rw [hk, mU_ne _ _ _ ho]; exact copy_rf hcn o hh
    obtain ⟨h1, h2, h3, h5, ⟨n, n6, na, nb, nc⟩, ⟨ea, eb⟩, ⟨w, w6, wa, wb, wc⟩, ⟨i1, i2, i3⟩⟩ := hg
    refine ⟨⟨c, K, p, q2, hr_frame h2 (fun o ho ho2 => hro o (by omega) (by omega)) (s4 6 (by decide) (by decide)) (s3 129 (by decide) (by decide)), q1, keys_row (s3 126 (by decide) (by decide)) h5, ⟨n, n6, ?_, ?_, ?_⟩, ⟨?_, ?_⟩, ⟨w, w6, ?_, ?_, ?_⟩, cnt_row (hro 12 (by decide) (by omega)) i1, fun j hj => cnt_row (hro _ (by omega) (by omega)) (i2 j hj), fun j hj => ?_⟩, s5, fun _ => q3, fun q hq => hro q (by omega) (by omega), fun o ho => s3 o (by omega) (by omega)⟩
    · rw [hro 10 (by decide) (by omega)]; exact na
    · rw [s4 10 (by decide) (by decide)]; exact nb
    · rw [hro 11 (by decide) (by omega), s3 131 (by decide) (by decide)]; exact nc
    · rw [hro 9 (by decide) (by omega), s4 13 (by decide) (by decide)]; exact ea
    · rw [hro 9 (by decide) (by omega), s4 14 (by decide) (by decide)]; exact eb
    · rw [hro 121 (by decide) (by omega)]; exact wa
    · rw [s4 12 (by decide) (by decide)]; exact wb
    · rw [hro 122 (by decide) (by omega), s3 132 (by decide) (by decide)]; exact wc
    · by_cases e : j = i
      · rw [e]
        exact cnt_row (by rw [hk, mU_ne _ _ _ (by omega)]) (copy_cnt hcn)
      · exact cnt_row (hro _ (by omega) (by omega)) (i3 j hj)
