/-! the output -/
def OW (M N : Mem) (w : Nat) : Prop := w ≤ 24 ∧ M 121 1 = nI w ∧ N 124 12 = nI w ∧ ∀ j, j < w → M 122 j = N 132 j
/-- .. and nothing else has changed -/
def OS (M0 N0 M N : Mem) (w : Nat) : Prop := OW M N w ∧ (∀ p, p ≠ 121 → p ≠ 122 → M p = M0 p) ∧ (∀ p, p ≠ 124 → p ≠ 132 → N p = N0 p) ∧ ∀ i, i ≠ 12 → i ≠ 2 → N 124 i = N0 124 i
theorem os_sign {M0 N0 M N : Mem} {w : Nat} (h : OS M0 N0 M N w) (hw : w < 24) (v : Int32) : OS M0 N0 (gX2_sign M v) (gX8_writes N v) (w + 1) := by
  obtain ⟨⟨h0, h1, h2, h3⟩, f1, f2, f3⟩ := h
  have hc : ¬ (24 : Int32) ≤ M 121 1 := by rw [h1, show (24 : Int32) = nI 24 from rfl, nI_leI (by omega) (by omega)]; omega
  have e1 : gX2_sign M v = mU (mU M 122 w v.toInt8.toInt32.toInt8.toInt32) 121 1 (nI (w + 1)) := by
    unfold gX2_sign
    rw [if_neg hc, mU_ne (M := M) (o := 122) (p := 121) _ _ (by decide), h1, nI_clamp (by omega), nI_1]
  have e2 : gX8_writes N v = mU (mU N 132 w v.toInt8.toInt32.toInt8.toInt32) 124 12 (nI (w + 1)) := by
    unfold gX8_writes
    rw [mU_ne (M := N) (o := 132) (p := 124) _ _ (by decide), h2, nI_clamp (by omega), nI_1]
  rw [e1, e2]
  refine ⟨⟨hw, mu_same _ _ _ _, mu_same _ _ _ _, fun j hj => ?_⟩, fun p a b => by rw [mU_ne _ _ _ a, mU_ne _ _ _ b]; exact f1 p a b, fun p a b => by rw [mU_ne _ _ _ a, mU_ne _ _ _ b]; exact f2 p a b, fun i a b => by rw [mU_row a, mU_ne _ _ _ (by decide)]; exact f3 i a b⟩
  rw [mU_ne (p := 122) _ _ _ (by decide), mU_ne (p := 132) _ _ _ (by decide)]
  by_cases e : j = w
  · rw [e, mu_same, mu_same]
  · rw [mU_row e, mU_row e]
    exact h3 j (by omega)
theorem os_told {M0 N0 M N : Mem} {w : Nat} (h : OS M0 N0 M N w) (v : Int32) : OS M0 N0 M (mU N 124 2 v) w := by
  obtain ⟨⟨h0, h1, h2, h3⟩, f1, f2, f3⟩ := h
  exact ⟨⟨h0, h1, by rw [mU_row (by decide)]; exact h2, by rw [mU_ne _ _ _ (by decide)]; exact h3⟩, f1, fun p a b => by rw [mU_ne _ _ _ a]; exact f2 p a b, fun i a b => by rw [mU_row b]; exact f3 i a b⟩
theorem os_ra {M0 N0 M N : Mem} {w c : Nat} (h : OS M0 N0 M N w) (hr : RA M0 N0 1 c) : RA M N 1 c := ⟨pts_row (h.2.2.1 125 (by decide) (by decide)) hr.1, rr_ext (fun o h1 h2 => h.2.1 o (by omega) (by omega)) (fun t _ => by rw [h.2.2.1 127 (by decide) (by decide)]) hr.2⟩
theorem os_g {M0 N0 M N : Mem} {w c K p : Nat} (h : OS M0 N0 M N w) (hg : Gc M0 N0 c K p) : Gc M N c K p := by
  obtain ⟨h1, h2, h3, h5, ⟨n, n6, na, nb, nc⟩, ⟨ea, eb⟩, -, ⟨i1, i2, i3⟩⟩ := hg
  obtain ⟨⟨w0, w1, w2, w3⟩, f1, f2, f3⟩ := h
  refine ⟨rb_ext (fun o a b => f1 o (by omega) (by omega)) (f2 125 (by decide) (by decide)) (f2 127 (by decide) (by decide)) h1, hr_frame h2 (fun o a b => f1 o (by omega) (by omega)) (f3 6 (by decide) (by decide)) (f2 129 (by decide) (by decide)), sl_frame h3 (fun o a b => f1 o (by omega) (by omega)) (f3 8 (by decide) (by decide)) (f2 130 (by decide) (by decide)), keys_row (f2 126 (by decide) (by decide)) h5, ⟨n, n6, ?_, ?_, ?_⟩, ⟨?_, ?_⟩, ⟨w, w0, w1, w2, w3⟩, cnt_row (f1 12 (by decide) (by decide)) i1, fun i hi => cnt_row (f1 _ (by omega) (by omega)) (i2 i hi), fun i hi => cnt_row (f1 _ (by omega) (by omega)) (i3 i hi)⟩
  · rw [f1 10 (by decide) (by decide)]; exact na
  · rw [f3 10 (by decide) (by decide)]; exact nb
  · rw [f1 11 (by decide) (by decide), f2 131 (by decide) (by decide)]; exact nc
  · rw [f1 9 (by decide) (by decide), f3 13 (by decide) (by decide)]; exact ea
  · rw [f1 9 (by decide) (by decide), f3 14 (by decide) (by decide)]; exact eb
/-- a reading written -/
theorem os_read {M0 N0 M N : Mem} {w c k : Nat} (h : OS M0 N0 M N w) (hw : w + 3 ≤ 24) (hr : RA M0 N0 1 c) (hk : k < c) : ∃ w2, w < w2 ∧ w2 ≤ w + 3 ∧ OS M0 N0 (gX2_number M (fX4_reading M 1 (1 + 1 + 1 + k))) (gX8_writesReading N k) w2 := by
  rw [read_eq ((os_ra h hr).one hk)]
  obtain ⟨a, ha, ea⟩ := rd8_100 N k
  unfold gX2_number gX8_writesReading
  rw [ea]
  by_cases h100 : a = 100
  · subst h100
    rw [if_neg (show ¬ nI 100 < 100 by decide), if_neg (show ¬ nI 100 < 10 by decide), if_pos (show nI 100 = 100 by decide), if_neg (show ¬ nI 100 ≤ 9 by decide), show (48 : Int32) + nI 100 / 100 = 49 by decide]
    exact ⟨w + 3, by omega, by omega, os_sign (os_sign (os_sign h (by omega) _) (by omega) _) (by omega) _⟩
  · rw [if_pos (show nI a < 100 by rw [show (100 : Int32) = nI 100 from rfl, nI_ltI (by omega) (by omega)]; omega), if_neg (show ¬ nI a = 100 by rw [show (100 : Int32) = nI 100 from rfl, nI_eq (by omega) (by omega)]; exact h100)]
    by_cases h10 : a < 10
    · rw [if_pos (show nI a < 10 by rw [show (10 : Int32) = nI 10 from rfl, nI_ltI (by omega) (by omega)]; exact h10), if_pos (show nI a ≤ 9 by rw [show (9 : Int32) = nI 9 from rfl, nI_leI (by omega) (by omega)]; omega)]
      exact ⟨w + 1, by omega, by omega, os_sign h (by omega) _⟩
    · rw [if_neg (show ¬ nI a < 10 by rw [show (10 : Int32) = nI 10 from rfl, nI_ltI (by omega) (by omega)]; exact h10), if_neg (show ¬ nI a ≤ 9 by rw [show (9 : Int32) = nI 9 from rfl, nI_leI (by omega) (by omega)]; omega)]
      exact ⟨w + 2, by omega, by omega, os_sign (os_sign h (by omega) _) (by omega) _⟩
theorem os_start {M N : Mem} : OS M N (mU M 121 1 0) (mU N 124 12 0) 0 := ⟨⟨by decide, mu_same _ _ _ _, mu_same _ _ _ _, fun j hj => by omega⟩, fun p a _ => mU_ne _ _ _ a, fun p a _ => mU_ne _ _ _ a, fun i a _ => mU_row a⟩
theorem os_res {M N M' N' : Mem} {l : List Nat} {a b : Int32} {w c K p : Nat} (hg : Gc M N c K p) (h : OS M N M' N' w) (h2 : N' 124 2 = 0) (hab : a = b) : RES M N M' N' l 0 a b :=
  ⟨⟨c, K, p, os_g h hg⟩, h2, fun _ => hab, fun q hq => h.2.1 q (by omega) (by omega), fun o ho => h.2.2.1 o (by omega) (by omega)⟩
theorem reads_loop {M0 N0 : Mem} {c : Nat} (hr : RA M0 N0 1 c) : ∀ (f : Nat) (M N : Mem) (j w : Nat), OS M0 N0 M N w → (w + 1 ≤ 4 * j ∨ (j = 0 ∧ w = 0)) → j ≤ c → 7 ≤ j + f →
    ∃ w2, OS M0 N0 (LX7_writeReadings_10g f M j) (LX8_writeReadings_7g f N j) w2 ∧ LX8_writeReadings_7g f N j 124 2 = 0 ∧ LX7_writeReadings_10f f M j = LX8_writeReadings_7f f N j := by
  have hc6 := hr.2.1
  intro f
  induction f with
  | zero => intro M N j w h hw hj hf; omega
  | succ f ih =>
    intro M N j w h hw hj hf
    have h1 := os_ra h hr
    rw [LX7_writeReadings_10g, LX8_writeReadings_7g, LX7_writeReadings_10f, LX8_writeReadings_7f, h1.many]
    by_cases hc : N 127 5 ≤ nI j
    · rw [if_pos hc, if_pos hc, if_pos hc, if_pos hc]
      refine ⟨w, os_told h 0, mu_same _ _ _ _, ?_⟩
      rw [h.1.2.1]
      exact h.1.2.2.1.symm
    · have hjc := h1.lt (by omega) hc
      rw [if_neg hc, if_neg hc, if_neg hc, if_neg hc]
      by_cases h0 : nI j ≤ 0
      · have hj0 : j = 0 := by rw [show (0 : Int32) = nI 0 from rfl, nI_leI (by omega) (by omega)] at h0; omega
        rw [if_pos h0, if_pos h0, if_pos h0, if_pos h0]
        obtain ⟨w2, a1, a2, a3⟩ := os_read h (by omega) hr hjc
        exact ih _ _ (j + 1) w2 a3 (by omega) hjc (by omega)
      · have hj0 : j ≠ 0 := fun e => h0 (by rw [e]; decide)
        rw [if_neg h0, if_neg h0, if_neg h0, if_neg h0]
        obtain ⟨w2, a1, a2, a3⟩ := os_read (os_sign h (by omega) 32) (by omega) hr hjc
        exact ih _ _ (j + 1) w2 a3 (by omega) hjc (by omega)
theorem rel_writeReadings {M N : Mem} (h : G M N) : RES M N (gX7_writeReadings M) (gX8_writeReadings N) [] 0 (fX7_writeReadings M) (fX8_writeReadings N) := by
  obtain ⟨c, K, p, hg⟩ := id h
  obtain ⟨w2, a1, a2, a3⟩ := reads_loop hg.1.ra 7 _ _ 0 0 (os_start (M := M) (N := N)) (Or.inr ⟨rfl, rfl⟩) (Nat.zero_le _) (by decide)
  exact os_res hg a1 a2 a3
theorem os_box {M0 N0 M N : Mem} {w c k : Nat} (h : OS M0 N0 M N w) (hw : w + 2 ≤ 24) (hr : RA M0 N0 1 c) (hk : k < c) (hb : ¬ fX8_isBoxed N k = 0) : OS M0 N0 (gX2_number (gX2_sign M 115) (gX2_sign M 115 (1 + 1 + 1 + k) 8)) (gX8_writes (gX8_writes N 115) (48 + gX8_writes N 115 127 (8 * k + 15))) (w + 2) := by
  have hc6 := hr.2.1
  have hs := os_sign h (by omega) 115
  have h1 := (os_ra hs hr).one hk
  have e8 : gX2_sign M 115 (1 + 1 + 1 + k) 8 = gX8_writes N 115 127 (8 * k + 15) := h1.2.2.2.1.2.2.2.2.2.2.2
  rw [e8]
  have hbx : fX8_isBoxed (gX8_writes N 115) k = fX8_isBoxed N k := by unfold fX8_isBoxed; rw [wr_127]
  rcases h1.2.2.2.2.2.2.2.2.2.1 with e | ⟨q, hq, e⟩
  · exact absurd (by rw [← hbx]; unfold fX8_isBoxed; rw [if_pos e]) hb
  · rw [e]
    have hd : ∀ q : Fin 4, gX2_number (gX2_sign M 115) (nI q.1) = gX2_sign (gX2_sign M 115) (48 + nI q.1) := by
      intro q
      have : ∀ q : Fin 4, nI q.1 < 100 ∧ nI q.1 < 10 ∧ 48 + (nI q.1 - nI q.1 / 10 * 10) = 48 + nI q.1 := by decide
      obtain ⟨d1, d2, d3⟩ := this q
      unfold gX2_number
      rw [if_pos d1, if_pos d2, d3]
    rw [hd ⟨q, by omega⟩]
    exact os_sign hs (by omega) _
theorem rel_writeInstrument {M N : Mem} (h : G M N) (x : Int32) : RES M N (gX7_writeInstrument M x) (gX8_writeInstrument N x) [1] (tX7_writeInstrument M x) (fX7_writeInstrument M x) (fX8_writeInstrument N x) := by
  obtain ⟨c, K, p, hg⟩ := id h
  unfold gX7_writeInstrument gX8_writeInstrument tX7_writeInstrument fX8_writeInstrument
  simp only [ite_self]
  rcases at_idx hg.1.ra x with ⟨e1, e2⟩ | ⟨k, hk, e0, ek, e1, e2⟩
  · rw [e1, if_neg (show ¬ (1 : Nat) = 0 by decide), if_neg (show ¬ (1 : Nat) = 0 by decide), if_pos e2, if_pos e2]
    exact RES.no h rfl rfl (by decide)
  · rw [if_pos e1, if_pos e1, if_neg e2, if_neg e2]
    unfold fX7_writeInstrument
    rw [ek]
    have hr := hg.1.ra
    have hc6 := hr.2.1
    have hst := os_start (M := M) (N := N)
    have h1 := (os_ra hst hr).one hk
    have tail : ∀ {A B : Mem} {w : Nat}, OS M N A B w → w ≤ 5 → RES M N (LX7_writeInstrument_70g x 1 A) (LX8_writeInstrument_61g x 1 B) [1] 0 (LX7_writeInstrument_70f x 1 A) (LX8_writeInstrument_61f x 1 B) := by
      intro A B w hs hw
      rw [LX7_writeInstrument_70g, LX8_writeInstrument_61g, LX7_writeInstrument_70f, LX8_writeInstrument_61f, ek, boxed_eq ((os_ra hs hr).one hk)]
      by_cases hb : fX8_isBoxed B k = 0
      · rw [if_pos hb, if_pos hb, if_pos hb, if_pos hb, LX7_writeInstrument_97g, LX8_writeInstrument_94g, LX7_writeInstrument_97f, LX8_writeInstrument_94f]
        exact os_res hg (os_told hs 0) (mu_same _ _ _ _) (hs.1.2.1.trans hs.1.2.2.1.symm)
      · rw [if_neg hb, if_neg hb, if_neg hb, if_neg hb, LX7_writeInstrument_97g, LX8_writeInstrument_94g, LX7_writeInstrument_97f, LX8_writeInstrument_94f]
        have hs2 := os_box hs (by omega) hr hk hb
        exact os_res hg (os_told hs2 0) (mu_same _ _ _ _) (hs2.1.2.1.trans hs2.1.2.2.1.symm)
    have mid : ∀ v : Int32, RES M N (if fX4_settled (gX2_number (gX2_sign (mU M 121 1 0) v) (fX4_reading (gX2_sign (mU M 121 1 0) v) 1 (1 + 1 + 1 + k))) 1 (1 + 1 + 1 + k) = 0 then LX7_writeInstrument_70g x 1 (gX2_number (gX2_sign (mU M 121 1 0) v) (fX4_reading (gX2_sign (mU M 121 1 0) v) 1 (1 + 1 + 1 + k))) else LX7_writeInstrument_70g x 1 (gX2_sign (gX2_number (gX2_sign (mU M 121 1 0) v) (fX4_reading (gX2_sign (mU M 121 1 0) v) 1 (1 + 1 + 1 + k))) 42)) (LX8_writeInstrument_42g x 1 (gX8_writes (mU N 124 12 0) v)) [1] 0 (if fX4_settled (gX2_number (gX2_sign (mU M 121 1 0) v) (fX4_reading (gX2_sign (mU M 121 1 0) v) 1 (1 + 1 + 1 + k))) 1 (1 + 1 + 1 + k) = 0 then LX7_writeInstrument_70f x 1 (gX2_number (gX2_sign (mU M 121 1 0) v) (fX4_reading (gX2_sign (mU M 121 1 0) v) 1 (1 + 1 + 1 + k))) else LX7_writeInstrument_70f x 1 (gX2_sign (gX2_number (gX2_sign (mU M 121 1 0) v) (fX4_reading (gX2_sign (mU M 121 1 0) v) 1 (1 + 1 + 1 + k))) 42)) (LX8_writeInstrument_42f x 1 (gX8_writes (mU N 124 12 0) v)) := by
      intro v
      have s1 := os_sign hst (by decide) v
      obtain ⟨w2, a1, a2, a3⟩ := os_read s1 (by decide) hr hk
      rw [LX8_writeInstrument_42g, LX8_writeInstrument_42f, ek, set_eq ((os_ra a3 hr).one hk)]
      by_cases hs : fX8_hasSettled (gX8_writesReading (gX8_writes (mU N 124 12 0) v) k) k = 0
      · rw [if_pos hs, if_pos hs, if_pos hs, if_pos hs]
        exact tail a3 (by omega)
      · rw [if_neg hs, if_neg hs, if_neg hs, if_neg hs]
        exact tail (os_sign a3 (by omega) 42) (by omega)
    rw [← hair_eq h1]
    by_cases hb : fX8_isOfHair (mU N 124 12 0) k = 0
    · rw [if_pos hb, if_pos hb, if_pos hb, if_pos hb]
      exact mid 98
    · rw [if_neg hb, if_neg hb, if_neg hb, if_neg hb]
      exact mid 104
