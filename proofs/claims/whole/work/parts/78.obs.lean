/-! the observers of an instrument -/
theorem rel_isHair {M N : Mem} (h : G M N) (x : Int32) : RES M N M (gX8_isHair N x) [1] (tX7_isHair M x) (fX7_isHair M x) (fX8_isHair N x) := by
  refine rel_inst (x := x) h ?_ (fun hc => ?_) (fun hc => ?_) (fun k hr ek hc => ?_)
  · rfl
  · unfold gX8_isHair; rw [if_pos hc]; rfl
  · unfold gX8_isHair; rw [if_neg hc]; rfl
  · unfold fX7_isHair fX8_isHair
    rw [if_neg hc, ek]
    exact (hair_eq hr).symm
theorem rel_zeroOf {M N : Mem} (h : G M N) (x : Int32) : RES M N M (gX8_zeroOf N x) [1] (tX7_zeroOf M x) (fX7_zeroOf M x) (fX8_zeroOf N x) := by
  refine rel_inst (x := x) h ?_ (fun hc => ?_) (fun hc => ?_) (fun k hr ek hc => ?_)
  · rfl
  · unfold gX8_zeroOf; rw [if_pos hc]; rfl
  · unfold gX8_zeroOf; rw [if_neg hc]; rfl
  · unfold fX7_zeroOf fX8_zeroOf
    rw [if_neg hc, ek]
    exact hr.2.2.2.1.2.2.2.2.2.2.1
theorem rel_boxOf {M N : Mem} (h : G M N) (x : Int32) : RES M N M (gX8_boxOf N x) [1] (tX7_boxOf M x) (fX7_boxOf M x) (fX8_boxOf N x) := by
  refine rel_inst (x := x) h ?_ (fun hc => ?_) (fun hc => ?_) (fun k hr ek hc => ?_)
  · rfl
  · unfold gX8_boxOf; rw [if_pos hc]; rfl
  · unfold gX8_boxOf; rw [if_neg hc]; rfl
  · unfold fX7_boxOf fX8_boxOf
    rw [if_neg hc, ek]
    exact hr.2.2.2.1.2.2.2.2.2.2.2
theorem rel_surroundingOf {M N : Mem} (h : G M N) (x : Int32) : RES M N M (gX8_surroundingOf N x) [1] (tX7_surroundingOf M x) (fX7_surroundingOf M x) (fX8_surroundingOf N x) := by
  refine rel_inst (x := x) h ?_ (fun hc => ?_) (fun hc => ?_) (fun k hr ek hc => ?_)
  · rfl
  · unfold gX8_surroundingOf; rw [if_pos hc]; rfl
  · unfold gX8_surroundingOf; rw [if_neg hc]; rfl
  · unfold fX7_surroundingOf fX8_surroundingOf
    rw [if_neg hc, ek]
    exact sur_eq hr
theorem rel_rawValue {M N : Mem} (h : G M N) (x : Int32) : RES M N M (gX8_rawValue N x) [1] (tX7_rawValue M x) (fX7_rawValue M x) (fX8_rawValue N x) := by
  refine rel_inst (x := x) h ?_ (fun hc => ?_) (fun hc => ?_) (fun k hr ek hc => ?_)
  · rfl
  · unfold gX8_rawValue; rw [if_pos hc]; rfl
  · unfold gX8_rawValue; rw [if_neg hc]; rfl
  · unfold fX7_rawValue fX8_rawValue
    rw [if_neg hc, ek]
    exact raw_eq hr
theorem rel_readingOf {M N : Mem} (h : G M N) (x : Int32) : RES M N M (gX8_readingOf N x) [1] (tX7_readingOf M x) (fX7_readingOf M x) (fX8_readingOf N x) := by
  refine rel_inst (x := x) h ?_ (fun hc => ?_) (fun hc => ?_) (fun k hr ek hc => ?_)
  · rfl
  · unfold gX8_readingOf; rw [if_pos hc]; rfl
  · unfold gX8_readingOf; rw [if_neg hc]; rfl
  · unfold fX7_readingOf fX8_readingOf
    rw [if_neg hc, ek]
    exact read_eq hr
theorem rel_isSettled {M N : Mem} (h : G M N) (x : Int32) : RES M N M (gX8_isSettled N x) [1] (tX7_isSettled M x) (fX7_isSettled M x) (fX8_isSettled N x) := by
  refine rel_inst (x := x) h ?_ (fun hc => ?_) (fun hc => ?_) (fun k hr ek hc => ?_)
  · rfl
  · unfold gX8_isSettled; rw [if_pos hc]; rfl
  · unfold gX8_isSettled; rw [if_neg hc]; rfl
  · unfold fX7_isSettled fX8_isSettled
    rw [if_neg hc, ek]
    exact set_eq hr
theorem rel_whyUnusable {M N : Mem} (h : G M N) (x : Int32) : RES M N M (gX8_whyUnusable N x) [1] (tX7_whyUnusable M x) (fX7_whyUnusable M x) (fX8_whyUnusable N x) := by
  refine rel_inst (x := x) h ?_ (fun hc => ?_) (fun hc => ?_) (fun k hr ek hc => ?_)
  · rfl
  · unfold gX8_whyUnusable; rw [if_pos hc]; rfl
  · unfold gX8_whyUnusable; rw [if_neg hc]; rfl
  · unfold fX7_whyUnusable fX8_whyUnusable
    rw [if_neg hc, ek]
    exact flaw_eq hr
theorem rel_weightOf {M N : Mem} (h : G M N) (x : Int32) : RES M N M (gX8_weightOf N x) [1] (tX7_weightOf M x) (fX7_weightOf M x) (fX8_weightOf N x) := by
  refine rel_inst (x := x) h ?_ (fun hc => ?_) (fun hc => ?_) (fun k hr ek hc => ?_)
  · rfl
  · unfold gX8_weightOf; rw [if_pos hc]; rfl
  · unfold gX8_weightOf; rw [if_neg hc]; rfl
  · unfold fX7_weightOf fX8_weightOf
    rw [if_neg hc, ek]
    exact weight_eq hr
theorem rel_calibrationObstacle {M N : Mem} (h : G M N) (x : Int32) : RES M N M (gX8_calibrationObstacle N x) [1] (tX7_calibrationObstacle M x) (fX7_calibrationObstacle M x) (fX8_calibrationObstacle N x) := by
  refine rel_inst (x := x) h ?_ (fun hc => ?_) (fun hc => ?_) (fun k hr ek hc => ?_)
  · rfl
  · unfold gX8_calibrationObstacle; rw [if_pos hc]; rfl
  · unfold gX8_calibrationObstacle; rw [if_neg hc]; rfl
  · unfold fX7_calibrationObstacle fX8_calibrationObstacle
    rw [if_neg hc, ek]
    exact obs_eq hr
theorem rel_errorOf {M N : Mem} (h : G M N) (x : Int32) : RES M N M (gX8_errorOf N x) [1] (tX7_errorOf M x) (fX7_errorOf M x) (fX8_errorOf N x) := by
  refine rel_inst (x := x) h ?_ (fun hc => ?_) (fun hc => ?_) (fun k hr ek hc => ?_)
  · rfl
  · unfold gX8_errorOf; rw [if_pos hc]; rfl
  · unfold gX8_errorOf; rw [if_neg hc]; rfl
  · unfold fX7_errorOf fX8_errorOf
    rw [if_neg hc, ek, read_eq hr, sur_eq hr]
    rfl
theorem kind_g (N : Mem) (x y : Int32) (z : Nat) : (fX8_is N x = 0 → gX8_ofKind N x y z = mU N 124 2 1) ∧ (¬ fX8_is N x = 0 → gX8_ofKind N x y z = mU N 124 2 0) := by
  unfold gX8_ofKind
  refine ⟨fun hc => ?_, fun hc => ?_⟩
  · rw [if_pos hc]; rfl
  · rw [if_neg hc]; split <;> rfl
theorem rel_hairsOf {M N : Mem} (h : G M N) (x : Int32) : RES M N M (gX8_hairsOf N x) [1] (tX7_hairsOf M x) (fX7_hairsOf M x) (fX8_hairsOf N x) := by
  refine rel_inst (x := x) h ?_ (fun hc => ?_) (fun hc => ?_) (fun k hr ek hc => ?_)
  · unfold tX7_hairsOf; rw [ite_self]
  · exact (kind_g N x 1 1).1 hc
  · exact (kind_g N x 1 1).2 hc
  · unfold fX7_hairsOf fX8_hairsOf fX8_ofKind
    rw [if_neg hc, ek, hair_eq hr]
    by_cases hb : bv (M (1 + 1 + 1 + k) 0) = 0
    · rw [if_pos hb, hb, if_neg (by decide)]; rfl
    · rw [if_neg hb, (bv01 _).resolve_left hb, if_pos rfl]
      exact hr.2.2.2.1.2.1
theorem rel_brokenOf {M N : Mem} (h : G M N) (x : Int32) : RES M N M (gX8_brokenOf N x) [1] (tX7_brokenOf M x) (fX7_brokenOf M x) (fX8_brokenOf N x) := by
  refine rel_inst (x := x) h ?_ (fun hc => ?_) (fun hc => ?_) (fun k hr ek hc => ?_)
  · unfold tX7_brokenOf; rw [ite_self]
  · exact (kind_g N x 1 2).1 hc
  · exact (kind_g N x 1 2).2 hc
  · unfold fX7_brokenOf fX8_brokenOf fX8_ofKind
    rw [if_neg hc, ek, hair_eq hr]
    by_cases hb : bv (M (1 + 1 + 1 + k) 0) = 0
    · rw [if_pos hb, hb, if_neg (by decide)]; rfl
    · rw [if_neg hb, (bv01 _).resolve_left hb, if_pos rfl]
      exact hr.2.2.2.1.2.2.1
theorem rel_wetnessOf {M N : Mem} (h : G M N) (x : Int32) : RES M N M (gX8_wetnessOf N x) [1] (tX7_wetnessOf M x) (fX7_wetnessOf M x) (fX8_wetnessOf N x) := by
  refine rel_inst (x := x) h ?_ (fun hc => ?_) (fun hc => ?_) (fun k hr ek hc => ?_)
  · unfold tX7_wetnessOf; rw [ite_self]
  · exact (kind_g N x 1 3).1 hc
  · exact (kind_g N x 1 3).2 hc
  · unfold fX7_wetnessOf fX8_wetnessOf fX8_ofKind
    rw [if_neg hc, ek, hair_eq hr]
    by_cases hb : bv (M (1 + 1 + 1 + k) 0) = 0
    · rw [if_pos hb, hb, if_neg (by decide)]; rfl
    · rw [if_neg hb, (bv01 _).resolve_left hb, if_pos rfl]
      exact hr.2.2.2.1.2.2.2.1
theorem rel_slackOf {M N : Mem} (h : G M N) (x : Int32) : RES M N M (gX8_slackOf N x) [1] (tX7_slackOf M x) (fX7_slackOf M x) (fX8_slackOf N x) := by
  refine rel_inst (x := x) h ?_ (fun hc => ?_) (fun hc => ?_) (fun k hr ek hc => ?_)
  · unfold tX7_slackOf; rw [ite_self]
  · exact (kind_g N x 1 4).1 hc
  · exact (kind_g N x 1 4).2 hc
  · unfold fX7_slackOf fX8_slackOf fX8_ofKind
    rw [if_neg hc, ek, hair_eq hr]
    by_cases hb : bv (M (1 + 1 + 1 + k) 0) = 0
    · rw [if_pos hb, hb, if_neg (by decide)]; rfl
    · rw [if_neg hb, (bv01 _).resolve_left hb, if_pos rfl]
      exact hr.2.2.2.1.2.2.2.2.1
theorem rel_waterOf {M N : Mem} (h : G M N) (x : Int32) : RES M N M (gX8_waterOf N x) [1] (tX7_waterOf M x) (fX7_waterOf M x) (fX8_waterOf N x) := by
  refine rel_inst (x := x) h ?_ (fun hc => ?_) (fun hc => ?_) (fun k hr ek hc => ?_)
  · unfold tX7_waterOf; rw [ite_self]
  · exact (kind_g N x 0 5).1 hc
  · exact (kind_g N x 0 5).2 hc
  · unfold fX7_waterOf fX8_waterOf fX8_ofKind
    rw [if_neg hc, ek, hair_eq hr]
    by_cases hb : bv (M (1 + 1 + 1 + k) 0) = 0
    · rw [if_pos hb, hb, if_pos rfl]
      exact hr.2.2.2.1.2.2.2.2.2.1
    · rw [if_neg hb, if_neg hb]; rfl
theorem rel_depressionOf {M N : Mem} (h : G M N) (x : Int32) : RES M N M (gX8_depressionOf N x) [1] (tX7_depressionOf M x) (fX7_depressionOf M x) (fX8_depressionOf N x) := by
  refine rel_inst (x := x) h ?_ (fun hc => ?_) (fun hc => ?_) (fun k hr ek hc => ?_)
  · unfold tX7_depressionOf; rw [ite_self]
  · unfold gX8_depressionOf; rw [if_pos hc]; rfl
  · unfold gX8_depressionOf; rw [if_neg hc]; split <;> rfl
  · unfold fX7_depressionOf fX8_depressionOf
    rw [if_neg hc, ek, hair_eq hr, dep_eq hr]
    by_cases hb : bv (M (1 + 1 + 1 + k) 0) = 0
    · rw [if_pos hb, if_pos hb]; rfl
    · rw [if_neg hb, if_neg hb]; rfl
theorem rel_errorKind {M N : Mem} (h : G M N) : RES M N M (gX8_errorKind N) [] 0 (fX7_errorKind M) (fX8_errorKind N) := by
  obtain ⟨c, K, p, hg⟩ := id h
  exact RES.obs (v := 0) h rfl rfl (fun _ => hg.2.2.2.2.2.1.1)
theorem rel_errorOffset {M N : Mem} (h : G M N) : RES M N M (gX8_errorOffset N) [] 0 (fX7_errorOffset M) (fX8_errorOffset N) := by
  obtain ⟨c, K, p, hg⟩ := id h
  exact RES.obs (v := 0) h rfl rfl (fun _ => hg.2.2.2.2.2.1.2)
theorem rel_minute {M N : Mem} (h : G M N) : RES M N M (gX8_minute N) [] 0 (fX7_minute M) (fX8_minute N) := by
  obtain ⟨c, K, p, hg⟩ := id h
  exact RES.obs (v := 0) h rfl rfl (fun _ => hg.1.2.1.2.2.1.2.1)
theorem rel_humidity {M N : Mem} (h : G M N) : RES M N M (gX8_humidity N) [] 0 (fX7_humidity M) (fX8_humidity N) := by
  obtain ⟨c, K, p, hg⟩ := id h
  exact RES.obs (v := 0) h rfl rfl (fun _ => hg.1.2.1.2.2.1.2.2.1)
theorem rel_temperature {M N : Mem} (h : G M N) : RES M N M (gX8_temperature N) [] 0 (fX7_temperature M) (fX8_temperature N) := by
  obtain ⟨c, K, p, hg⟩ := id h
  exact RES.obs (v := 0) h rfl rfl (fun _ => hg.1.2.1.2.2.1.2.2.2.1)
theorem rel_skill {M N : Mem} (h : G M N) : RES M N M (gX8_skill N) [] 0 (fX7_skill M) (fX8_skill N) := by
  obtain ⟨c, K, p, hg⟩ := id h
  exact RES.obs (v := 0) h rfl rfl (fun _ => hg.1.2.1.2.2.1.2.2.2.2.1)
theorem rel_hairStock {M N : Mem} (h : G M N) : RES M N M (gX8_hairStock N) [] 0 (fX7_hairStock M) (fX8_hairStock N) := by
  obtain ⟨c, K, p, hg⟩ := id h
  exact RES.obs (v := 0) h rfl rfl (fun _ => hg.1.2.1.2.2.1.2.2.2.2.2.1)
theorem rel_instrumentCount {M N : Mem} (h : G M N) : RES M N M (gX8_instrumentCount N) [] 0 (fX7_instrumentCount M) (fX8_instrumentCount N) := by
  obtain ⟨c, K, p, hg⟩ := id h
  exact RES.obs (v := 0) h rfl rfl (fun _ => hg.1.2.1.2.2.1.1)
theorem rel_usableInstruments {M N : Mem} (h : G M N) : RES M N M (gX8_usableInstruments N) [] 0 (fX7_usableInstruments M) (fX8_usableInstruments N) := by
  obtain ⟨c, K, p, hg⟩ := id h
  exact RES.obs (v := 0) h rfl rfl (fun _ => usable_eq hg.1.ra)
theorem gl_many {N : Mem} {c j : Nat} (h5 : N 127 5 = nI c) (hc6 : c ≤ 6) (hj : j ≤ 6) (hc : ¬ N 127 5 ≤ nI j) : j + 1 ≤ 6 := by
  rw [h5, nI_leI (by omega) (by omega)] at hc
  omega
theorem gl_blend {N : Mem} {c : Nat} (h5 : N 127 5 = nI c) (hc6 : c ≤ 6) : ∀ (f : Nat) (v w : Int32) (j : Nat), j ≤ 6 → 7 ≤ j + f → LX8_blend_6g f N v w j = mU N 124 2 0 := by
  intro f
  induction f with
  | zero => intro v w j h1 h2; omega
  | succ f ih =>
    intro v w j h1 h2
    rw [LX8_blend_6g]
    by_cases hc : N 127 5 ≤ nI j
    · rw [if_pos hc]
      (repeat' split) <;> rfl
    · have h6 := gl_many h5 hc6 h1 hc
      rw [if_neg hc]
      (repeat' split) <;> exact ih _ _ _ h6 (by omega)
theorem rel_blend {M N : Mem} (h : G M N) : RES M N M (gX8_blend N) [] 0 (fX7_blend M) (fX8_blend N) := by
  obtain ⟨c, K, p, hg⟩ := id h
  exact RES.obs (v := 0) h (gl_blend hg.1.2.1.2.1 hg.1.2.1.1 7 0 0 0 (by decide) (by decide)) rfl (fun _ => blend_eq hg.1.ra)
theorem gl_bestInstrument {N : Mem} {c : Nat} (h5 : N 127 5 = nI c) (hc6 : c ≤ 6) : ∀ (f : Nat) (v : Int32) (j : Nat), j ≤ 6 → 7 ≤ j + f → LX8_bestInstrument_4g f N v j = mU N 124 2 0 := by
  intro f
  induction f with
  | zero => intro v j h1 h2; omega
  | succ f ih =>
    intro v j h1 h2
    rw [LX8_bestInstrument_4g]
    by_cases hc : N 127 5 ≤ nI j
    · rw [if_pos hc]
      (repeat' split) <;> rfl
    · have h6 := gl_many h5 hc6 h1 hc
      rw [if_neg hc]
      (repeat' split) <;> exact ih _ _ h6 (by omega)
theorem rel_bestInstrument {M N : Mem} (h : G M N) : RES M N M (gX8_bestInstrument N) [] 0 (fX7_bestInstrument M) (fX8_bestInstrument N) := by
  obtain ⟨c, K, p, hg⟩ := id h
  exact RES.obs (v := 0) h (gl_bestInstrument hg.1.2.1.2.1 hg.1.2.1.1 7 (-1) 0 (by decide) (by decide)) rfl (fun _ => best_eq hg.1.ra)
theorem gl_slackestInstrument {N : Mem} {c : Nat} (h5 : N 127 5 = nI c) (hc6 : c ≤ 6) : ∀ (f : Nat) (v : Int32) (j : Nat), j ≤ 6 → 7 ≤ j + f → LX8_slackestInstrument_4g f N v j = mU N 124 2 0 := by
  intro f
  induction f with
  | zero => intro v j h1 h2; omega
  | succ f ih =>
    intro v j h1 h2
    rw [LX8_slackestInstrument_4g]
    by_cases hc : N 127 5 ≤ nI j
    · rw [if_pos hc]
      (repeat' split) <;> rfl
    · have h6 := gl_many h5 hc6 h1 hc
      rw [if_neg hc]
      (repeat' split) <;> exact ih _ _ h6 (by omega)
theorem rel_slackestInstrument {M N : Mem} (h : G M N) : RES M N M (gX8_slackestInstrument N) [] 0 (fX7_slackestInstrument M) (fX8_slackestInstrument N) := by
  obtain ⟨c, K, p, hg⟩ := id h
  exact RES.obs (v := 0) h (gl_slackestInstrument hg.1.2.1.2.1 hg.1.2.1.1 7 (-1) 0 (by decide) (by decide)) rfl (fun _ => slackest_eq hg.1.ra)
theorem gl_disagreements {N : Mem} {c : Nat} (h5 : N 127 5 = nI c) (hc6 : c ≤ 6) : ∀ (f : Nat) (v : Int32) (j : Nat), j ≤ 6 → 7 ≤ j + f → LX8_disagreements_4g f N v j = mU N 124 2 0 := by
  intro f
  induction f with
  | zero => intro v j h1 h2; omega
  | succ f ih =>
    intro v j h1 h2
    rw [LX8_disagreements_4g]
    by_cases hc : N 127 5 ≤ nI j
    · rw [if_pos hc]
      (repeat' split) <;> rfl
    · have h6 := gl_many h5 hc6 h1 hc
      rw [if_neg hc]
      (repeat' split) <;> exact ih _ _ h6 (by omega)
theorem rel_disagreements {M N : Mem} (h : G M N) : RES M N M (gX8_disagreements N) [] 0 (fX7_disagreements M) (fX8_disagreements N) := by
  obtain ⟨c, K, p, hg⟩ := id h
  exact RES.obs (v := 0) h (gl_disagreements hg.1.2.1.2.1 hg.1.2.1.1 7 0 0 (by decide) (by decide)) rfl (fun _ => disagree_eq hg.1.ra)
theorem gl_spread {N : Mem} {c : Nat} (h5 : N 127 5 = nI c) (hc6 : c ≤ 6) : ∀ (f : Nat) (v w : Int32) (j : Nat), j ≤ 6 → 7 ≤ j + f → LX8_spread_7g f N v w j = mU N 124 2 0 := by
  intro f
  induction f with
  | zero => intro v w j h1 h2; omega
  | succ f ih =>
    intro v w j h1 h2
    rw [LX8_spread_7g]
    by_cases hc : N 127 5 ≤ nI j
    · rw [if_pos hc]
      (repeat' split) <;> rfl
    · have h6 := gl_many h5 hc6 h1 hc
      rw [if_neg hc]
      (repeat' split) <;> exact ih _ _ _ h6 (by omega)
theorem rel_spread {M N : Mem} (h : G M N) : RES M N M (gX8_spread N) [] 0 (fX7_spread M) (fX8_spread N) := by
  obtain ⟨c, K, p, hg⟩ := id h
  exact RES.obs (v := 0) h (gl_spread hg.1.2.1.2.1 hg.1.2.1.1 7 100 0 0 (by decide) (by decide)) rfl (fun _ => span_eq hg.1.ra)
theorem gl_hairDifference {N : Mem} {c : Nat} (h5 : N 127 5 = nI c) (hc6 : c ≤ 6) : ∀ (f : Nat) (v : Int32) (j : Nat), j ≤ 6 → 7 ≤ j + f → LX8_hairDifference_9g f N v j = mU N 124 2 0 := by
  intro f
  induction f with
  | zero => intro v j h1 h2; omega
  | succ f ih =>
    intro v j h1 h2
    rw [LX8_hairDifference_9g]
    by_cases hc : N 127 5 ≤ nI j
    · rw [if_pos hc]
      (repeat' split) <;> rfl
    · have h6 := gl_many h5 hc6 h1 hc
      rw [if_neg hc]
      (repeat' split) <;> exact ih _ _ h6 (by omega)
theorem rel_hairDifference {M N : Mem} (h : G M N) : RES M N M (gX8_hairDifference N) [] 0 (fX7_hairDifference M) (fX8_hairDifference N) := by
  obtain ⟨c, K, p, hg⟩ := id h
  exact RES.obs (v := 0) h (gl_hairDifference hg.1.2.1.2.1 hg.1.2.1.1 7 (N 127 4) 0 (by decide) (by decide)) rfl (fun _ => diff_eq hg.1.ra hg.1.af)
theorem salt_eq (M N : Mem) (x : Int32) : (fX7_isSalt M x = 0 ∧ fX8_in N x 0 3 = 0) ∨ (∃ k, k < 4 ∧ x = nI k ∧ ¬ fX7_isSalt M x = 0 ∧ ¬ fX8_in N x 0 3 = 0) := by
  unfold fX7_isSalt fX8_in
  by_cases h0 : x < 0
  · rw [if_pos h0, if_pos h0]; exact Or.inl ⟨rfl, rfl⟩
  · rw [if_neg h0, if_neg h0]
    by_cases h4 : (4 : Int32) ≤ x
    · rw [if_pos h4, if_pos (Int32.lt_of_lt_of_le (by decide) h4)]; exact Or.inl ⟨rfl, rfl⟩
    · have h3 : x ≤ 3 := by
        rw [Int32.le_iff_toInt_le]
        have := Int32.lt_iff_toInt_lt.mp (Int32.not_le.mp h4)
        rw [show (4 : Int32).toInt = 4 from rfl] at this
        rw [show (3 : Int32).toInt = 3 from rfl]
        omega
      obtain ⟨k, hk, ek⟩ := ub_le (N := 3) h0 h3 rfl
      rw [if_neg h4, if_neg (Int32.not_lt.mpr h3)]
      exact Or.inr ⟨k, by omega, ek, by decide, by decide⟩
theorem fp_or {M : Mem} {k : Nat} (hk : k < 4) (v : Int32) : fX7_fixedPointOr M (nI k) v = fpV k := by
  unfold fX7_fixedPointOr
  rw [if_neg (by rw [show (0 : Int32) = nI 0 from rfl, nI_ltI (by omega) (by omega)]; omega), if_neg (by rw [show (4 : Int32) = nI 4 from rfl, nI_leI (by omega) (by omega)]; omega), nI_clamp (by omega)]
theorem rel_fixedPoint {M N : Mem} (h : G M N) (x : Int32) : RES M N M (gX8_fixedPoint N x) [2] (tX7_fixedPoint M x) (fX7_fixedPoint M x) (fX8_fixedPoint N x) := by
  obtain ⟨c, K, p, hg⟩ := id h
  unfold gX8_fixedPoint tX7_fixedPoint fX7_fixedPoint fX8_fixedPoint
  rcases salt_eq M N x with ⟨e1, e2⟩ | ⟨k, hk, e0, e1, e2⟩
  · rw [if_pos e1, if_pos e2, if_pos e2]
    exact RES.obs (v := 1) h rfl rfl (fun hh => absurd hh (by decide))
  · rw [if_neg e1, if_neg e2, if_neg e2, if_neg e1]
    refine RES.obs (v := 0) h rfl rfl (fun _ => ?_)
    rw [e0, fp_or hk, nI_clamp (show k < 2 ^ 31 by omega)]
    exact (hg.1.1 k hk).symm
theorem rel_outputByte {M N : Mem} (h : G M N) (x : Int32) : RES M N M (gX8_outputByte N x) [1] (tX7_outputByte M x) (fX7_outputByte M x) (fX8_outputByte N x) := by
  obtain ⟨c, K, p, hg⟩ := id h
  obtain ⟨w, w6, wa, wb, wc⟩ := hg.2.2.2.2.2.2.1
  unfold gX8_outputByte tX7_outputByte fX7_outputByte fX8_outputByte
  rw [wa, wb]
  unfold fX8_in
  have e5 : (nI w - 1).toInt = (w : Int) - 1 := sm_sub (sm_nI (by omega)) rfl (by omega) (by omega)
  by_cases h0 : x < 0
  · rw [if_pos h0, if_pos h0, if_pos rfl, if_pos rfl]
    exact RES.obs (v := 1) h rfl rfl (fun hh => absurd hh (by decide))
  · have hx0 := Int32.le_iff_toInt_le.mp (Int32.not_lt.mp h0)
    rw [show (0 : Int32).toInt = 0 from rfl] at hx0
    rw [if_neg h0, if_neg h0, if_neg h0]
    by_cases h1 : x < nI w
    · have hlt := Int32.lt_iff_toInt_lt.mp h1
      rw [sm_nI (by omega)] at hlt
      have hk : x = nI x.toInt.toNat := Int32.toInt_inj.mp (by rw [sm_nI (by omega)]; omega)
      have hcl : x.toNatClampNeg = x.toInt.toNat := by rw [hk, nI_clamp (by omega), ← hk]
      have hn : ¬ nI w - 1 < x := by rw [Int32.lt_iff_toInt_lt, e5]; omega
      rw [if_pos h1, if_pos h1, if_neg hn, if_neg (show ¬ (1 : Int32) = 0 by decide), if_neg (show ¬ (1 : Int32) = 0 by decide), hcl]
      exact RES.obs (v := 0) h rfl rfl (fun _ => wc _ (by omega))
    · have hge := Int32.le_iff_toInt_le.mp (Int32.not_lt.mp h1)
      rw [sm_nI (by omega)] at hge
      have hn : nI w - 1 < x := by rw [Int32.lt_iff_toInt_lt, e5]; omega
      rw [if_neg h1, if_neg h1, if_pos hn, if_pos rfl, if_pos rfl]
      exact RES.obs (v := 1) h rfl rfl (fun hh => absurd hh (by decide))
