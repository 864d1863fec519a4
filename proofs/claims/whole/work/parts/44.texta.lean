/-! what a line keeps, and that reading goes on -/
def RW (M M' : Mem) : Prop := RV M → RV M' ∧ toN M ≤ toN M'
theorem RW.refl (M : Mem) : RW M M := fun h => ⟨h, Nat.le_refl _⟩
theorem RW.trans {M M1 M2 : Mem} (h : RW M M1) (h2 : RW M1 M2) : RW M M2 := fun r => ⟨(h2 (h r).1).1, Nat.le_trans (h r).2 (h2 (h r).1).2⟩
theorem rw_nx (M : Mem) : RW M (gX8_next M) := fun h => ⟨rv_nx h, ((n8_nx M).2 h.1.tx).2.1⟩
theorem rw_er (M : Mem) (x : Int32) : RW M (gX8_errs M x) := fun h => ⟨rv_er h, Nat.le_of_eq (to_er M x).symm⟩
theorem rw_go (M : Mem) : RW M (gX8_goesOn M) := by unfold gX8_goesOn; split <;> first | exact rw_nx M | exact RW.refl M
theorem rw_he (M : Mem) (x y : Int32) : RW M (gX8_here M x y) := by
  unfold gX8_here
  (repeat' split) <;> first | with_reducible exact RW.refl M | with_reducible exact rw_er M _ | with_reducible exact (rw_er M _).trans (rw_er _ _)
theorem rw_tn (M : Mem) (x y : Int32) : RW M (gX8_takesNumber M x y) := (rw_he M x y).trans (rw_go _)
theorem rw_ih (M : Mem) : RW M (gX8_instrumentHere M) := rw_he M _ _
theorem rw_hr (M : Mem) : RW M (gX8_hasRoom M) := by unfold gX8_hasRoom; split <;> first | exact rw_er M _ | exact rw_nx M
theorem rw_row {M M' : Mem} (e : M' 124 = M 124) (hm : MNY M → MNY M') (hb : BXS M → BXS M') : RW M M' := fun h => ⟨⟨wx_row e h.1, hm h.2.1, hb h.2.2⟩, Nat.le_of_eq (by unfold toN; rw [e])⟩
theorem rw_nk {M M' : Mem} (h : NK M M') : RW M M' := rw_row (h.1 124 (by decide)) h.mny h.bxs
theorem bxs_put {M : Mem} {i : Nat} {v : Int32} (hv : BX v) (h : BXS M) : BXS (mU M 127 i v) := by
  intro j hj
  by_cases e : 8 * j + 15 = i
  · rw [mU_at, ← e, show ∀ (f : Nat → Int32) (k : Nat) (v : Int32), upd f k v k = v from fun f k v => if_pos rfl]
    exact hv
  · rw [mU_row e]
    exact h j hj
theorem bxs_putn {M : Mem} {i : Nat} {v : Int32} (hi : ∀ j, 8 * j + 15 ≠ i) (h : BXS M) : BXS (mU M 127 i v) := by
  intro j hj
  rw [mU_row (hi j)]
  exact h j hj
theorem mny_put {M : Mem} {i : Nat} {v : Int32} (hi : 5 ≠ i) (h : MNY M) : MNY (mU M 127 i v) := by unfold MNY; rw [mU_row hi]; exact h
theorem rw_put (M : Mem) {i : Nat} {v : Int32} (h5 : 5 ≠ i) (hi : ∀ j, 8 * j + 15 ≠ i) : RW M (mU M 127 i v) := rw_row (mU_ne _ _ _ (by decide)) (mny_put h5) (bxs_putn hi)
theorem rw_box (M : Mem) {i : Nat} {v : Int32} (h5 : 5 ≠ i) (hv : BX v) : RW M (mU M 127 i v) := rw_row (mU_ne _ _ _ (by decide)) (mny_put h5) (bxs_put hv)
theorem hangs_bxs : ∀ (k : Nat) (M : Mem) (a j : Nat), BXS M → BXS (LX8_hangs_12g k M a j) := by
  intro k
  induction k with
  | zero => intro M a j h; exact h
  | succ k ih =>
    intro M a j h
    rw [LX8_hangs_12g]
    split
    · exact bxs_putn (fun j => by omega) (bxs_put (Or.inl rfl) h)
    · exact ih _ _ _ (bxs_put (Or.inr ⟨0, by decide, rfl⟩) h)
theorem hangs_ne {M : Mem} {p : Nat} (hp : p ≠ 127) : gX8_hangs M p = M p := (hangs12 9 M _ 0 (by omega) (by omega) (by omega)).2 p hp
theorem hh_ne {M : Mem} {x : Int32} {p : Nat} (hp : p ≠ 127) : gX8_hangsHair M x p = M p := by
  unfold gX8_hangsHair
  repeat rw [mU_ne _ _ _ hp]
  exact hangs_ne hp
theorem hb_ne {M : Mem} {x : Int32} {p : Nat} (hp : p ≠ 127) : gX8_hangsBulb M x p = M p := by
  unfold gX8_hangsBulb
  repeat rw [mU_ne _ _ _ hp]
  exact hangs_ne hp
theorem hh_many (M : Mem) (x : Int32) : gX8_hangsHair M x 127 5 = M 127 5 + 1 := by
  unfold gX8_hangsHair
  repeat rw [mU_row (by omega)]
  exact hangs_many M
theorem hb_many (M : Mem) (x : Int32) : gX8_hangsBulb M x 127 5 = M 127 5 + 1 := by
  unfold gX8_hangsBulb
  repeat rw [mU_row (by omega)]
  exact hangs_many M
theorem hh_bxs {M : Mem} {x : Int32} (h : BXS M) : BXS (gX8_hangsHair M x) := by
  unfold gX8_hangsHair
  repeat (with_reducible refine bxs_putn (fun j => ?_) ?_; · omega)
  exact hangs_bxs _ _ _ _ h
theorem hb_bxs {M : Mem} {x : Int32} (h : BXS M) : BXS (gX8_hangsBulb M x) := by
  unfold gX8_hangsBulb
  repeat (with_reducible refine bxs_putn (fun j => ?_) ?_; · omega)
  exact hangs_bxs _ _ _ _ h
theorem mny_one {M M' : Mem} (h : ¬ M 127 5 = (6 : Int32)) (hm : MNY M) (e : M' 127 5 = M 127 5 + 1) : MNY M' := by
  obtain ⟨c, hc, e0⟩ := hm
  rw [e0] at h
  refine ⟨c + 1, ?_, by rw [e, e0, nI_1]⟩
  rcases Nat.lt_or_ge c 6 with h6 | h6
  · exact h6
  · exact absurd (by rw [show c = 6 by omega]; rfl) h
theorem rw_rhair (M : Mem) : RW M (gX8_readsHair M) := by
  unfold gX8_readsHair
  split
  · exact rw_hr M
  · rename_i h6
    have h127 : ∀ x y, gX8_takesNumber (gX8_hasRoom M) x y 127 = M 127 := fun x y => ((nr_tn _ x y).1 127 (by decide)).trans ((nr_hr M).1 127 (by decide))
    split
    · refine ((rw_hr M).trans (rw_tn _ _ _)).trans (rw_row (hh_ne (by decide)) (fun hm => mny_one (by rw [h127]; exact hr_six h6) hm (hh_many _ _)) hh_bxs)
    · exact (rw_hr M).trans (rw_tn _ _ _)
theorem rw_rbulb (M : Mem) : RW M (gX8_readsBulb M) := by
  unfold gX8_readsBulb
  split
  · exact rw_hr M
  · rename_i h6
    have h127 : ∀ x y, gX8_takesNumber (gX8_hasRoom M) x y 127 = M 127 := fun x y => ((nr_tn _ x y).1 127 (by decide)).trans ((nr_hr M).1 127 (by decide))
    split
    · refine ((rw_hr M).trans (rw_tn _ _ _)).trans (rw_row (hb_ne (by decide)) (fun hm => mny_one (by rw [h127]; exact hr_six h6) hm (hb_many _ _)) hb_bxs)
    · exact (rw_hr M).trans (rw_tn _ _ _)
theorem rw_ni (M : Mem) : RW M (gX8_instrumentHere (gX8_next M)) := (rw_nx M).trans (rw_ih _)
theorem bx_tn {M : Mem} (h : gX8_takesNumber M 0 3 124 20 = 0) : BX (fX8_takesNumber M 0 3) := by
  obtain ⟨h1, h2, h3⟩ := fz_tn h
  obtain ⟨r1, r2⟩ := in_rng h3
  rw [h2]
  exact Or.inr (ub_le (N := 3) r1 r2 rfl)
theorem rw_box29 (M : Mem) (v : Int32) : RW M (LX8_readsBox_29g 1 M v) := by
  rw [LX8_readsBox_29g]
  split
  · rename_i h
    exact ((rw_go M).trans (rw_tn _ _ _)).trans (rw_box _ (by omega) (bx_tn h))
  · exact (rw_go M).trans (rw_tn _ _ _)
theorem rw_rbox (M : Mem) : RW M (gX8_readsBox M) := by
  unfold gX8_readsBox
  (repeat' split) <;> (refine RW.trans ?_ (rw_box29 _ _); first | with_reducible exact rw_ni M | with_reducible exact (rw_ni M).trans (rw_er _ _))
theorem rw_out29 (M : Mem) (v : Int32) : RW M (LX8_readsOut_29g 1 M v) := by
  rw [LX8_readsOut_29g]
  split
  · exact (rw_box M (by omega) (Or.inl rfl)).trans (rw_nx _)
  · exact RW.refl M
theorem rw_rout (M : Mem) : RW M (gX8_readsOut M) := by
  unfold gX8_readsOut
  (repeat' split) <;> (refine RW.trans ?_ (rw_out29 _ _); first | with_reducible exact rw_ni M | with_reducible exact (rw_ni M).trans (rw_er _ _))
theorem rw_ti (M : Mem) (k : Nat) : RW M (gX8_tightens M k) := by
  unfold gX8_tightens
  split
  · exact rw_put M (by omega) (fun j => by omega)
  · exact ((rw_put M (by omega) (fun j => by omega)).trans (rw_put _ (by omega) (fun j => by omega))).trans (rw_put _ (by omega) (fun j => by omega))
theorem rw_mo (M : Mem) (k : Nat) : RW M (gX8_moistens M k) := by
  unfold gX8_moistens
  exact rw_put M (by omega) (fun j => by omega)
theorem rw_tig55 (M : Mem) (v : Int32) : RW M (LX8_readsTighten_55g 1 M v) := by
  rw [LX8_readsTighten_55g]
  split
  · exact (rw_ti M _).trans (rw_nx _)
  · exact RW.refl M
theorem rw_tig29 (M : Mem) (v : Int32) : RW M (LX8_readsTighten_29g 1 M v) := by
  rw [LX8_readsTighten_29g]
  (repeat' split) <;> (refine RW.trans ?_ (rw_tig55 _ _); first | with_reducible exact RW.refl M | with_reducible exact rw_er M _)
theorem rw_rtig (M : Mem) : RW M (gX8_readsTighten M) := by
  unfold gX8_readsTighten
  (repeat' split) <;> (refine RW.trans ?_ (rw_tig29 _ _); first | with_reducible exact rw_ni M | with_reducible exact (rw_ni M).trans (rw_er _ _))
theorem rw_moi29 (M : Mem) (v : Int32) : RW M (LX8_readsMoisten_29g 1 M v) := by
  rw [LX8_readsMoisten_29g]
  split
  · exact (rw_mo M _).trans (rw_nx _)
  · exact RW.refl M
theorem rw_rmoi (M : Mem) : RW M (gX8_readsMoisten M) := by
  unfold gX8_readsMoisten
  (repeat' split) <;> (refine RW.trans ?_ (rw_moi29 _ _); first | with_reducible exact rw_ni M | with_reducible exact (rw_ni M).trans (rw_er _ _))
theorem rw_rhum (M : Mem) : RW M (gX8_readsHumidity M) := by
  unfold gX8_readsHumidity
  split
  · exact ((rw_nx M).trans (rw_tn _ _ _)).trans (rw_put _ (by omega) (fun j => by omega))
  · exact (rw_nx M).trans (rw_tn _ _ _)
theorem rw_min24 (M : Mem) (v : Int32) : RW M (LX8_readsMinutes_24g 1 M v) := by
  rw [LX8_readsMinutes_24g]
  split
  · exact (rw_tn M _ _).trans (rw_nk (nk_ps _ _))
  · exact rw_tn M _ _
theorem rw_rmin (M : Mem) : RW M (gX8_readsMinutes M) := by
  unfold gX8_readsMinutes
  split <;> (refine RW.trans ?_ (rw_min24 _ _); exact rw_nx M)
theorem rw_line (M : Mem) : RW M (gX8_readsLine M) := by
  unfold gX8_readsLine
  repeat' split
  · exact rw_er M _
  · exact rw_rmin M
  · exact rw_rhum M
  · exact rw_rmoi M
  · exact rw_rtig M
  · exact rw_rout M
  · exact rw_rbox M
  · exact rw_rbulb M
  · exact rw_rhair M
theorem rv_line {M : Mem} (h : RV M) : RV (gX8_readsLine M) := (rw_line M h).1
theorem key_0 {M : Mem} {w : Nat} (h : M 124 16 = 0) : fX8_isKey M w = 0 := by
  unfold fX8_isKey
  rw [h]
  rfl
theorem line_0 {M : Mem} (h : M 124 16 = 0) : ¬ gX8_readsLine M 124 20 = 0 := by
  unfold gX8_readsLine
  simp only [key_0 h, if_true]
  exact er_ne (by decide)
theorem rv_to {M : Mem} (h : RV M) : toN M ≤ 600 := by
  obtain ⟨e, t, f, h1, h2, h3, h4, h5, h6⟩ := h.1
  unfold toN
  rw [h5, nI_clamp (by omega)]
  omega
theorem rt_line {M : Mem} {k : Nat} (hrv : RV M) (hf : ¬ M 124 20 = 0 ∨ 602 ≤ toN M + (k + 1)) (h0 : M 124 20 = 0) : ¬ gX8_readsLine (gX8_next M) 124 20 = 0 ∨ 602 ≤ toN (gX8_readsLine (gX8_next M)) + k := by
  have hk := hf.resolve_left (fun h => h h0)
  have h2 := (rw_line _ (rv_nx hrv)).2
  rcases ((n8_nx M).2 hrv.1.tx).2.2 with h | h
  · exact Or.inl (line_0 h)
  · exact Or.inr (by omega)
theorem rt_k {M : Mem} {k : Nat} (hrv : RV M) (hf : ¬ M 124 20 = 0 ∨ 602 ≤ toN M + (k + 1)) (h0 : M 124 20 = 0) : 0 < k := by
  have hk := hf.resolve_left (fun h => h h0)
  have h2 := rv_to hrv
  omega
theorem z_step {M : Mem} {j : Nat} (hz : ∀ i, i < j → M 127 i = 0) : ∀ i, i < j + 1 → mU M 127 j 0 127 i = 0 := by
  intro i hi
  by_cases e : i = j
  · subst e
    rw [mU_at]
    exact if_pos rfl
  · rw [mU_row e]
    exact hz i (by omega)
theorem z_all {M : Mem} {j : Nat} (hz : ∀ i, i < j → M 127 i = 0) (hc : (56 : Int32) ≤ nI j) (hj : j ≤ 56) : ∀ i, i < 56 → M 127 i = 0 := by
  rw [show (56 : Int32) = nI 56 from rfl, nI_leI (by decide) (by omega)] at hc
  intro i hi
  exact hz i (by omega)
theorem tx_start {M : Mem} {x : Int32} (hx : UB x 600) : TX (mU (mU (mU (mU M 124 15 x) 124 20 (0 : Int32)) 124 16 (0 : Int32)) 124 18 (0 : Int32)) := by
  obtain ⟨e, he, rfl⟩ := hx
  exact ⟨e, 0, he, Nat.zero_le _, rfl, rfl⟩
theorem rv_start {M : Mem} {x : Int32} (hx : UB x 600) (hz : ∀ i, i < 56 → M 127 i = 0) : RV (gX8_next (mU (mU (mU (mU M 124 15 x) 124 20 (0 : Int32)) 124 16 (0 : Int32)) 124 18 (0 : Int32))) := by
  have e : gX8_next (mU (mU (mU (mU M 124 15 x) 124 20 (0 : Int32)) 124 16 (0 : Int32)) 124 18 (0 : Int32)) 127 = M 127 := (n8_nx _).1.1 127 (by decide)
  refine ⟨((n8_nx _).2 (tx_start hx)).1, ⟨0, by decide, ?_⟩, fun j hj => ?_⟩
  · rw [e]; exact hz 5 (by decide)
  · rw [e, hz _ (by omega)]; exact Or.inr ⟨0, by decide, rfl⟩
theorem rv_tp {M : Mem} {i : Nat} {v : Int32} {x y : Int32} (h5 : 5 ≠ i) (hi : ∀ j, 8 * j + 15 ≠ i) (h : RV M) : RV (mU (gX8_takesNumber M x y) 127 i v) := (rw_put _ h5 hi (rv_tn h)).1
def LX8_readsText_103g (x : Int32) : Nat → Mem → Mem
  | 0, M => M
  | k + 1, M => if (M 124 20) = 0 then (if (M 124 16) = 0 then M else (if (M 124 16) = (3 : Int32) then (LX8_readsText_103g x k (gX8_readsLine (gX8_next M))) else (LX8_readsText_103g x k (gX8_errs M (1 : Int32))))) else M
set_option maxHeartbeats 4000000 in
set_option maxRecDepth 100000 in
theorem cl_X8_readsText_103 (l : Launch) (D : va_G) (cy : Nat → ClassId) (b n : Nat) (hn : 133 ≤ n) (x : Int32)  {p : Program} {e : Env} {s : State} {m : MethodId} {args : Array Value} {below : List Frame} {meth : Method} {c : Code} (hx : p.tables.exec = Jvm.exec) (hb : c.code = cX8_readsText) (hr : meth.sig.returnType = none) (hlocks : meth.locks = false) (hml : c.maxLocals = 3) (hown : s.vm.findClass RX8 = some m.cls) (hts : ∀ w ∈ wsX8_readsText, w.before args s = true) (hK : va_K D vwCl (tysW cy) s) (hX : SX b s)  : ∀ (k : Nat) (M : Mem)  (H : Heap) (locs : List Loc) (ls : Array Slot), RV M → (¬ M 124 20 = 0 ∨ 602 ≤ toN M + k) → 0 < k → va_P D vwCl (wL cy b fT M n) H → va_S (fr b) s.heap H locs → lv_has ls 3 [(0, .ref (b + 124))] → W p l e (headSpec wsX8_readsText ({ frames := 9, cells := 0, slots := 0, locals := 195 } : Room)).room s m args below meth c H locs 0 0 (MQ below (CQv D cy b n fT (LX8_readsText_103g x k M)) args s 0 0 (fr b)) (F0 m 103 ls []) := by
  have lk0 := hts (.fieldLink RX8 138 "HygrometerRoomModel" "fault" "I") (by decide +kernel)
  have lk1 := hts (.fieldLink RX8 110 "HygrometerRoomModel" "kind" "I") (by decide +kernel)
  have inc8 : ∀ w ∈ u_ws RX8 TX8 22, w ∈ wsX8_readsText := by decide +kernel
  intro k
  induction k with
  | zero => intro M H locs ls hrv hf hk hP hS hl; omega
  | succ k ih =>
    intro M H locs ls hrv hf hk hP hS hl
    refine lv_aload_n hx hb dX8_readsText_103 rfl (lv_at hl 0 rfl) ?_
    refine xg (C := RX8) (T := TX8) (N := 22) (v := .int (M 124 20)) hx hb hts inc8 hown hK hP (by omega) (cell8 (by decide)) rfl 20 (by decide) lk0 (fun _ h => h) rfl dX8_readsText_104 ?_
    refine lv_if_ne (tgt := 144) hx hb dX8_readsText_107 (by decide) (fun c107 => ?_) (fun c107 => ?_)
    · exact xe_v hx hb hr hlocks hP hS rfl (by rw [LX8_readsText_103g, if_neg c107] <;> rfl) (Nat.le_of_ble_eq_true rfl) (Nat.le_of_ble_eq_true rfl) dX8_readsText_144
    · refine lv_aload_n hx hb dX8_readsText_110 rfl (lv_at hl 0 rfl) ?_
      refine xg (C := RX8) (T := TX8) (N := 22) (v := .int (M 124 16)) hx hb hts inc8 hown hK hP (by omega) (cell8 (by decide)) rfl 16 (by decide) lk1 (fun _ h => h) rfl dX8_readsText_111 ?_
      refine lv_if_eq (tgt := 144) hx hb dX8_readsText_114 (by decide) (fun c114 => ?_) (fun c114 => ?_)
      · exact xe_v hx hb hr hlocks hP hS rfl (by rw [LX8_readsText_103g, if_pos c107, if_pos c114] <;> rfl) (Nat.le_of_ble_eq_true rfl) (Nat.le_of_ble_eq_true rfl) dX8_readsText_144
      · refine lv_aload_n hx hb dX8_readsText_117 rfl (lv_at hl 0 rfl) ?_
        refine xg (C := RX8) (T := TX8) (N := 22) (v := .int (M 124 16)) hx hb hts inc8 hown hK hP (by omega) (cell8 (by decide)) rfl 16 (by decide) lk1 (fun _ h => h) rfl dX8_readsText_118 ?_
        refine lv_iconst (v := 3) hx hb dX8_readsText_121 (by decide) ?_
        refine lv_icmp_ne (tgt := 136) hx hb dX8_readsText_122 (by decide) (fun c122 => ?_) (fun c122 => ?_)
        · refine lv_aload_n hx hb dX8_readsText_136 rfl (lv_at hl 0 rfl) ?_
          refine lv_iconst (v := 1) hx hb dX8_readsText_137 (by decide) ?_
          refine xc_v (va_runV (As := [.int (1 : Int32)]) (rest := []) ⟨hx, hb, hml, hown, hts⟩ (c_X8_errs l D cy b n hn M (1 : Int32)) (cwV 1 hts gX8_readsText_X8_errs rfl rfl rfl (by decide +kernel) ⟨Nat.le_of_ble_eq_true rfl, Nat.le_of_ble_eq_true rfl⟩) (xPreV hP hK hX hS (by omega) (cell8 (by decide)) rfl) rfl rfl hl.1 rfl (lv_room (Nat.le_of_ble_eq_true rfl)) dX8_readsText_138 ⟨Nat.le_of_ble_eq_true rfl, Nat.le_of_ble_eq_true rfl⟩) hS (fun H locs hP hS => ?_)
          refine lv_goto (tgt := 103) hx hb dX8_readsText_141 (by decide) ?_
          rw [show LX8_readsText_103g x (k + 1) M = LX8_readsText_103g x k (gX8_errs M (1 : Int32)) from (by rw [LX8_readsText_103g, if_pos c107, if_neg c114, if_neg c122])]
          exact ih (gX8_errs M (1 : Int32)) H locs ls (by first | with_reducible exact rv_line (rv_nx hrv) | with_reducible exact rv_er hrv) (by first | with_reducible exact rt_line hrv hf c107 | with_reducible exact Or.inl (er_ne (by decide))) (rt_k hrv hf c107) hP hS (lv_sub hl [0] rfl)
        · refine lv_aload_n hx hb dX8_readsText_125 rfl (lv_at hl 0 rfl) ?_
          refine xc_v (va_runV (As := []) (rest := []) ⟨hx, hb, hml, hown, hts⟩ (c_X8_next l D cy b n hn M hrv.1.tx) (cwV 0 hts gX8_readsText_X8_next rfl rfl rfl (by decide +kernel) ⟨Nat.le_of_ble_eq_true rfl, Nat.le_of_ble_eq_true rfl⟩) (xPreV hP hK hX hS (by omega) (cell8 (by decide)) rfl) rfl rfl hl.1 rfl (lv_room (Nat.le_of_ble_eq_true rfl)) dX8_readsText_126 ⟨Nat.le_of_ble_eq_true rfl, Nat.le_of_ble_eq_true rfl⟩) hS (fun H locs hP hS => ?_)
          refine lv_aload_n hx hb dX8_readsText_129 rfl (lv_at hl 0 rfl) ?_
          refine xc_v (va_runV (As := []) (rest := []) ⟨hx, hb, hml, hown, hts⟩ (c_X8_readsLine l D cy b n hn (gX8_next M) (rv_nx hrv)) (cwV 0 hts gX8_readsText_X8_readsLine rfl rfl rfl (by decide +kernel) ⟨Nat.le_of_ble_eq_true rfl, Nat.le_of_ble_eq_true rfl⟩) (xPreV hP hK hX hS (by omega) (cell8 (by decide)) rfl) rfl rfl hl.1 rfl (lv_room (Nat.le_of_ble_eq_true rfl)) dX8_readsText_130 ⟨Nat.le_of_ble_eq_true rfl, Nat.le_of_ble_eq_true rfl⟩) hS (fun H locs hP hS => ?_)
          refine lv_goto (tgt := 103) hx hb dX8_readsText_133 (by decide) ?_
          rw [show LX8_readsText_103g x (k + 1) M = LX8_readsText_103g x k (gX8_readsLine (gX8_next M)) from (by rw [LX8_readsText_103g, if_pos c107, if_neg c114, if_pos c122])]
          exact ih (gX8_readsLine (gX8_next M)) H locs ls (by first | with_reducible exact rv_line (rv_nx hrv) | with_reducible exact rv_er hrv) (by first | with_reducible exact rt_line hrv hf c107 | with_reducible exact Or.inl (er_ne (by decide))) (rt_k hrv hf c107) hP hS (lv_sub hl [0] rfl)

def LX8_readsText_65g (x : Int32) : Nat → Mem → Mem
  | 0, M => M
  | k + 1, M => LX8_readsText_103g x 602 (mU (gX8_takesNumber (mU (gX8_takesNumber (mU (gX8_takesNumber M (0 : Int32) (100 : Int32)) 127 1 (fX8_takesNumber M (0 : Int32) (100 : Int32))) (0 : Int32) (40 : Int32)) 127 2 (fX8_takesNumber (mU (gX8_takesNumber M (0 : Int32) (100 : Int32)) 127 1 (fX8_takesNumber M (0 : Int32) (100 : Int32))) (0 : Int32) (40 : Int32))) (0 : Int32) (5 : Int32)) 127 3 (fX8_takesNumber (mU (gX8_takesNumber (mU (gX8_takesNumber M (0 : Int32) (100 : Int32)) 127 1 (fX8_takesNumber M (0 : Int32) (100 : Int32))) (0 : Int32) (40 : Int32)) 127 2 (fX8_takesNumber (mU (gX8_takesNumber M (0 : Int32) (100 : Int32)) 127 1 (fX8_takesNumber M (0 : Int32) (100 : Int32))) (0 : Int32) (40 : Int32))) (0 : Int32) (5 : Int32)))
set_option maxHeartbeats 4000000 in
set_option maxRecDepth 100000 in
theorem cl_X8_readsText_65 (l : Launch) (D : va_G) (cy : Nat → ClassId) (b n : Nat) (hn : 133 ≤ n) (x : Int32)  {p : Program} {e : Env} {s : State} {m : MethodId} {args : Array Value} {below : List Frame} {meth : Method} {c : Code} (hx : p.tables.exec = Jvm.exec) (hb : c.code = cX8_readsText) (hr : meth.sig.returnType = none) (hlocks : meth.locks = false) (hml : c.maxLocals = 3) (hown : s.vm.findClass RX8 = some m.cls) (hts : ∀ w ∈ wsX8_readsText, w.before args s = true) (hK : va_K D vwCl (tysW cy) s) (hX : SX b s)  : ∀ (k : Nat) (M : Mem)  (H : Heap) (locs : List Loc) (ls : Array Slot), RV M → 0 < k → va_P D vwCl (wL cy b fT M n) H → va_S (fr b) s.heap H locs → lv_has ls 3 [(0, .ref (b + 124))] → W p l e (headSpec wsX8_readsText ({ frames := 9, cells := 0, slots := 0, locals := 195 } : Room)).room s m args below meth c H locs 0 0 (MQ below (CQv D cy b n fT (LX8_readsText_65g x k M)) args s 0 0 (fr b)) (F0 m 65 ls []) := by
  have lk0 := hts (.fieldLink RX8 16 "HygrometerRoomModel" "now" "[I") (by decide +kernel)
  have inc8 : ∀ w ∈ u_ws RX8 TX8 22, w ∈ wsX8_readsText := by decide +kernel
  intro k
  induction k with
  | zero => intro M H locs ls hrv hk hP hS hl; omega
  | succ k ih =>
    intro M H locs ls hrv hk hP hS hl
    refine lv_aload_n hx hb dX8_readsText_65 rfl (lv_at hl 0 rfl) ?_
    refine xg (C := RX8) (T := TX8) (N := 22) (v := .ref (b + 127)) hx hb hts inc8 hown hK hP (by omega) (cell8 (by decide)) rfl 3 (by decide) lk0 (fun _ h => h) rfl dX8_readsText_66 ?_
    refine lv_iconst (v := 1) hx hb dX8_readsText_69 (by decide) ?_
    refine lv_aload_n hx hb dX8_readsText_70 rfl (lv_at hl 0 rfl) ?_
    refine lv_iconst (v := 0) hx hb dX8_readsText_71 (by decide) ?_
    refine lv_bipush (v := 100) hx hb dX8_readsText_72 (by decide) ?_
    refine xc_i (va_runV (As := [.int (0 : Int32), .int (100 : Int32)]) (rest := [.int (1 : Int32), .ref (b + 127)]) ⟨hx, hb, hml, hown, hts⟩ (c_X8_takesNumber l D cy b n hn M (0 : Int32) (100 : Int32) hrv.1) (cwV 2 hts gX8_readsText_X8_takesNumber rfl rfl rfl (by decide +kernel) ⟨Nat.le_of_ble_eq_true rfl, Nat.le_of_ble_eq_true rfl⟩) (xPreV hP hK hX hS (by omega) (cell8 (by decide)) rfl) rfl rfl hl.1 rfl (lv_room (Nat.le_of_ble_eq_true rfl)) dX8_readsText_74 ⟨Nat.le_of_ble_eq_true rfl, Nat.le_of_ble_eq_true rfl⟩) hS (fun H locs hP hS => ?_)
    refine xis (j := 1) (x := fX8_takesNumber M (0 : Int32) (100 : Int32)) hx hb hK hP hS (by omega) (by decide) (ixIn (a := 1) rfl (by first | decide | (simp only [lenOf]; omega) | omega) (by decide)) rfl dX8_readsText_77 (fun H locs hP hS => ?_)
    refine lv_aload_n hx hb dX8_readsText_78 rfl (lv_at hl 0 rfl) ?_
    refine xg (C := RX8) (T := TX8) (N := 22) (v := .ref (b + 127)) hx hb hts inc8 hown hK hP (by omega) (cell8 (by decide)) rfl 3 (by decide) lk0 (fun _ h => h) rfl dX8_readsText_79 ?_
    refine lv_iconst (v := 2) hx hb dX8_readsText_82 (by decide) ?_
    refine lv_aload_n hx hb dX8_readsText_83 rfl (lv_at hl 0 rfl) ?_
    refine lv_iconst (v := 0) hx hb dX8_readsText_84 (by decide) ?_
    refine lv_bipush (v := 40) hx hb dX8_readsText_85 (by decide) ?_
    refine xc_i (va_runV (As := [.int (0 : Int32), .int (40 : Int32)]) (rest := [.int (2 : Int32), .ref (b + 127)]) ⟨hx, hb, hml, hown, hts⟩ (c_X8_takesNumber l D cy b n hn (mU (gX8_takesNumber M (0 : Int32) (100 : Int32)) 127 1 (fX8_takesNumber M (0 : Int32) (100 : Int32))) (0 : Int32) (40 : Int32) (rv_tp (by decide) (fun j => by omega) hrv).1) (cwV 2 hts gX8_readsText_X8_takesNumber rfl rfl rfl (by decide +kernel) ⟨Nat.le_of_ble_eq_true rfl, Nat.le_of_ble_eq_true rfl⟩) (xPreV hP hK hX hS (by omega) (cell8 (by decide)) rfl) rfl rfl hl.1 rfl (lv_room (Nat.le_of_ble_eq_true rfl)) dX8_readsText_87 ⟨Nat.le_of_ble_eq_true rfl, Nat.le_of_ble_eq_true rfl⟩) hS (fun H locs hP hS => ?_)
    refine xis (j := 2) (x := fX8_takesNumber (mU (gX8_takesNumber M (0 : Int32) (100 : Int32)) 127 1 (fX8_takesNumber M (0 : Int32) (100 : Int32))) (0 : Int32) (40 : Int32)) hx hb hK hP hS (by omega) (by decide) (ixIn (a := 2) rfl (by first | decide | (simp only [lenOf]; omega) | omega) (by decide)) rfl dX8_readsText_90 (fun H locs hP hS => ?_)
    refine lv_aload_n hx hb dX8_readsText_91 rfl (lv_at hl 0 rfl) ?_
    refine xg (C := RX8) (T := TX8) (N := 22) (v := .ref (b + 127)) hx hb hts inc8 hown hK hP (by omega) (cell8 (by decide)) rfl 3 (by decide) lk0 (fun _ h => h) rfl dX8_readsText_92 ?_
    refine lv_iconst (v := 3) hx hb dX8_readsText_95 (by decide) ?_
    refine lv_aload_n hx hb dX8_readsText_96 rfl (lv_at hl 0 rfl) ?_
    refine lv_iconst (v := 0) hx hb dX8_readsText_97 (by decide) ?_
    refine lv_iconst (v := 5) hx hb dX8_readsText_98 (by decide) ?_
    refine xc_i (va_runV (As := [.int (0 : Int32), .int (5 : Int32)]) (rest := [.int (3 : Int32), .ref (b + 127)]) ⟨hx, hb, hml, hown, hts⟩ (c_X8_takesNumber l D cy b n hn (mU (gX8_takesNumber (mU (gX8_takesNumber M (0 : Int32) (100 : Int32)) 127 1 (fX8_takesNumber M (0 : Int32) (100 : Int32))) (0 : Int32) (40 : Int32)) 127 2 (fX8_takesNumber (mU (gX8_takesNumber M (0 : Int32) (100 : Int32)) 127 1 (fX8_takesNumber M (0 : Int32) (100 : Int32))) (0 : Int32) (40 : Int32))) (0 : Int32) (5 : Int32) (rv_tp (by decide) (fun j => by omega) (rv_tp (by decide) (fun j => by omega) hrv)).1) (cwV 2 hts gX8_readsText_X8_takesNumber rfl rfl rfl (by decide +kernel) ⟨Nat.le_of_ble_eq_true rfl, Nat.le_of_ble_eq_true rfl⟩) (xPreV hP hK hX hS (by omega) (cell8 (by decide)) rfl) rfl rfl hl.1 rfl (lv_room (Nat.le_of_ble_eq_true rfl)) dX8_readsText_99 ⟨Nat.le_of_ble_eq_true rfl, Nat.le_of_ble_eq_true rfl⟩) hS (fun H locs hP hS => ?_)
    refine xis (j := 3) (x := fX8_takesNumber (mU (gX8_takesNumber (mU (gX8_takesNumber M (0 : Int32) (100 : Int32)) 127 1 (fX8_takesNumber M (0 : Int32) (100 : Int32))) (0 : Int32) (40 : Int32)) 127 2 (fX8_takesNumber (mU (gX8_takesNumber M (0 : Int32) (100 : Int32)) 127 1 (fX8_takesNumber M (0 : Int32) (100 : Int32))) (0 : Int32) (40 : Int32))) (0 : Int32) (5 : Int32)) hx hb hK hP hS (by omega) (by decide) (ixIn (a := 3) rfl (by first | decide | (simp only [lenOf]; omega) | omega) (by decide)) rfl dX8_readsText_102 (fun H locs hP hS => ?_)
    rw [show LX8_readsText_65g x (k + 1) M = LX8_readsText_103g x 602 (mU (gX8_takesNumber (mU (gX8_takesNumber (mU (gX8_takesNumber M (0 : Int32) (100 : Int32)) 127 1 (fX8_takesNumber M (0 : Int32) (100 : Int32))) (0 : Int32) (40 : Int32)) 127 2 (fX8_takesNumber (mU (gX8_takesNumber M (0 : Int32) (100 : Int32)) 127 1 (fX8_takesNumber M (0 : Int32) (100 : Int32))) (0 : Int32) (40 : Int32))) (0 : Int32) (5 : Int32)) 127 3 (fX8_takesNumber (mU (gX8_takesNumber (mU (gX8_takesNumber M (0 : Int32) (100 : Int32)) 127 1 (fX8_takesNumber M (0 : Int32) (100 : Int32))) (0 : Int32) (40 : Int32)) 127 2 (fX8_takesNumber (mU (gX8_takesNumber M (0 : Int32) (100 : Int32)) 127 1 (fX8_takesNumber M (0 : Int32) (100 : Int32))) (0 : Int32) (40 : Int32))) (0 : Int32) (5 : Int32))) from (by rw [LX8_readsText_65g])]
    exact cl_X8_readsText_103 l D cy b n hn x hx hb hr hlocks hml hown hts hK hX 602 (mU (gX8_takesNumber (mU (gX8_takesNumber (mU (gX8_takesNumber M (0 : Int32) (100 : Int32)) 127 1 (fX8_takesNumber M (0 : Int32) (100 : Int32))) (0 : Int32) (40 : Int32)) 127 2 (fX8_takesNumber (mU (gX8_takesNumber M (0 : Int32) (100 : Int32)) 127 1 (fX8_takesNumber M (0 : Int32) (100 : Int32))) (0 : Int32) (40 : Int32))) (0 : Int32) (5 : Int32)) 127 3 (fX8_takesNumber (mU (gX8_takesNumber (mU (gX8_takesNumber M (0 : Int32) (100 : Int32)) 127 1 (fX8_takesNumber M (0 : Int32) (100 : Int32))) (0 : Int32) (40 : Int32)) 127 2 (fX8_takesNumber (mU (gX8_takesNumber M (0 : Int32) (100 : Int32)) 127 1 (fX8_takesNumber M (0 : Int32) (100 : Int32))) (0 : Int32) (40 : Int32))) (0 : Int32) (5 : Int32))) H locs ls (rv_tp (by decide) (fun j => by omega) (rv_tp (by decide) (fun j => by omega) (rv_tp (by decide) (fun j => by omega) hrv))) (Or.inr (by omega)) (by decide) hP hS (lv_sub hl [0] rfl)

def LX8_readsText_2g (x : Int32) : Nat → Mem → Nat → Mem
  | 0, M, _ => M
  | k + 1, M, j => if (56 : Int32) ≤ (nI (j)) then (if (fX8_isKey (gX8_next (mU (mU (mU (mU M 124 15 x) 124 20 (0 : Int32)) 124 16 (0 : Int32)) 124 18 (0 : Int32))) 0) = 0 then (LX8_readsText_65g x 1 (gX8_errs (gX8_next (mU (mU (mU (mU M 124 15 x) 124 20 (0 : Int32)) 124 16 (0 : Int32)) 124 18 (0 : Int32))) (1 : Int32))) else (LX8_readsText_65g x 1 (gX8_next (gX8_next (mU (mU (mU (mU M 124 15 x) 124 20 (0 : Int32)) 124 16 (0 : Int32)) 124 18 (0 : Int32)))))) else (LX8_readsText_2g x k (mU M 127 j (0 : Int32)) (j + 1))
set_option maxHeartbeats 4000000 in
set_option maxRecDepth 100000 in
theorem cl_X8_readsText_2 (l : Launch) (D : va_G) (cy : Nat → ClassId) (b n : Nat) (hn : 133 ≤ n) (x : Int32) (hux : UB x 600) {p : Program} {e : Env} {s : State} {m : MethodId} {args : Array Value} {below : List Frame} {meth : Method} {c : Code} (hx : p.tables.exec = Jvm.exec) (hb : c.code = cX8_readsText) (hr : meth.sig.returnType = none) (hlocks : meth.locks = false) (hml : c.maxLocals = 3) (hown : s.vm.findClass RX8 = some m.cls) (hts : ∀ w ∈ wsX8_readsText, w.before args s = true) (hK : va_K D vwCl (tysW cy) s) (hX : SX b s)  : ∀ (k : Nat) (M : Mem) (j : Nat) (H : Heap) (locs : List Loc) (ls : Array Slot), (∀ i, i < j → M 127 i = 0) → j ≤ 56 → 57 ≤ j + k → va_P D vwCl (wL cy b fT M n) H → va_S (fr b) s.heap H locs → lv_has ls 3 [(0, .ref (b + 124)), (1, .int x), (2, .int (nI (j)))] → W p l e (headSpec wsX8_readsText ({ frames := 9, cells := 0, slots := 0, locals := 195 } : Room)).room s m args below meth c H locs 0 0 (MQ below (CQv D cy b n fT (LX8_readsText_2g x k M j)) args s 0 0 (fr b)) (F0 m 2 ls []) := by
  have lk0 := hts (.fieldLink RX8 119 "HygrometerRoomModel" "textEnd" "I") (by decide +kernel)
  have lk1 := hts (.fieldLink RX8 138 "HygrometerRoomModel" "fault" "I") (by decide +kernel)
  have lk2 := hts (.fieldLink RX8 110 "HygrometerRoomModel" "kind" "I") (by decide +kernel)
  have lk3 := hts (.fieldLink RX8 113 "HygrometerRoomModel" "to" "I") (by decide +kernel)
  have lk4 := hts (.fieldLink RX8 16 "HygrometerRoomModel" "now" "[I") (by decide +kernel)
  have inc8 : ∀ w ∈ u_ws RX8 TX8 22, w ∈ wsX8_readsText := by decide +kernel
  intro k
  induction k with
  | zero => intro M j H locs ls hz hj hk hP hS hl; omega
  | succ k ih =>
    intro M j H locs ls hz hj hk hP hS hl
    refine lv_iload_n hx hb dX8_readsText_2 rfl (lv_at hl 2 rfl) ?_
    refine lv_bipush (v := 56) hx hb dX8_readsText_3 (by decide) ?_
    refine lv_icmp_ge (tgt := 21) hx hb dX8_readsText_5 (by decide) (fun c5 => ?_) (fun c5 => ?_)
    · have hz56 := z_all hz c5 hj
      refine lv_aload_n hx hb dX8_readsText_21 rfl (lv_at hl 0 rfl) ?_
      refine lv_iload_n hx hb dX8_readsText_22 rfl (lv_at hl 1 rfl) ?_
      refine xp (C := RX8) (T := TX8) (N := 22) (ci := 8) (ty := .int) (x := x) hx hb hts inc8 tyX8 tyX8_ok nmX8 hown hK hP hS (by omega) (fun _ => cell8 (by decide)) rfl 15 (by decide) rfl lk0 (fun _ h => h) rfl (tyX8_ok 15 (by decide)) rfl rfl (Nat.le_of_ble_eq_true rfl) dX8_readsText_23 (fun H locs hP hS => ?_)
      refine lv_aload_n hx hb dX8_readsText_26 rfl (lv_at hl 0 rfl) ?_
      refine lv_iconst (v := 0) hx hb dX8_readsText_27 (by decide) ?_
      refine xp (C := RX8) (T := TX8) (N := 22) (ci := 8) (ty := .int) (x := (0 : Int32)) hx hb hts inc8 tyX8 tyX8_ok nmX8 hown hK hP hS (by omega) (fun _ => cell8 (by decide)) rfl 20 (by decide) rfl lk1 (fun _ h => h) rfl (tyX8_ok 20 (by decide)) rfl rfl (Nat.le_of_ble_eq_true rfl) dX8_readsText_28 (fun H locs hP hS => ?_)
      refine lv_aload_n hx hb dX8_readsText_31 rfl (lv_at hl 0 rfl) ?_
      refine lv_iconst (v := 0) hx hb dX8_readsText_32 (by decide) ?_
      refine xp (C := RX8) (T := TX8) (N := 22) (ci := 8) (ty := .int) (x := (0 : Int32)) hx hb hts inc8 tyX8 tyX8_ok nmX8 hown hK hP hS (by omega) (fun _ => cell8 (by decide)) rfl 16 (by decide) rfl lk2 (fun _ h => h) rfl (tyX8_ok 16 (by decide)) rfl rfl (Nat.le_of_ble_eq_true rfl) dX8_readsText_33 (fun H locs hP hS => ?_)
      refine lv_aload_n hx hb dX8_readsText_36 rfl (lv_at hl 0 rfl) ?_
      refine lv_iconst (v := 0) hx hb dX8_readsText_37 (by decide) ?_
      refine xp (C := RX8) (T := TX8) (N := 22) (ci := 8) (ty := .int) (x := (0 : Int32)) hx hb hts inc8 tyX8 tyX8_ok nmX8 hown hK hP hS (by omega) (fun _ => cell8 (by decide)) rfl 18 (by decide) rfl lk3 (fun _ h => h) rfl (tyX8_ok 18 (by decide)) rfl rfl (Nat.le_of_ble_eq_true rfl) dX8_readsText_38 (fun H locs hP hS => ?_)
      refine lv_aload_n hx hb dX8_readsText_41 rfl (lv_at hl 0 rfl) ?_
      refine xc_v (va_runV (As := []) (rest := []) ⟨hx, hb, hml, hown, hts⟩ (c_X8_next l D cy b n hn (mU (mU (mU (mU M 124 15 x) 124 20 (0 : Int32)) 124 16 (0 : Int32)) 124 18 (0 : Int32)) (tx_start hux)) (cwV 0 hts gX8_readsText_X8_next rfl rfl rfl (by decide +kernel) ⟨Nat.le_of_ble_eq_true rfl, Nat.le_of_ble_eq_true rfl⟩) (xPreV hP hK hX hS (by omega) (cell8 (by decide)) rfl) rfl rfl hl.1 rfl (lv_room (Nat.le_of_ble_eq_true rfl)) dX8_readsText_42 ⟨Nat.le_of_ble_eq_true rfl, Nat.le_of_ble_eq_true rfl⟩) hS (fun H locs hP hS => ?_)
      refine lv_aload_n hx hb dX8_readsText_45 rfl (lv_at hl 0 rfl) ?_
      refine lv_iconst (v := 0) hx hb dX8_readsText_46 (by decide) ?_
      refine xc_i (va_runV (As := [.int (0 : Int32)]) (rest := []) ⟨hx, hb, hml, hown, hts⟩ (c_X8_isKey l D cy b n hn (gX8_next (mU (mU (mU (mU M 124 15 x) 124 20 (0 : Int32)) 124 16 (0 : Int32)) 124 18 (0 : Int32))) 0 (by decide) (rv_start hux hz56).1) (cwV 1 hts gX8_readsText_X8_isKey rfl rfl rfl (by decide +kernel) ⟨Nat.le_of_ble_eq_true rfl, Nat.le_of_ble_eq_true rfl⟩) (xPreV hP hK hX hS (by omega) (cell8 (by decide)) rfl) rfl rfl hl.1 rfl (lv_room (Nat.le_of_ble_eq_true rfl)) dX8_readsText_47 ⟨Nat.le_of_ble_eq_true rfl, Nat.le_of_ble_eq_true rfl⟩) hS (fun H locs hP hS => ?_)
      refine lv_if_eq (tgt := 60) hx hb dX8_readsText_50 (by decide) (fun c50 => ?_) (fun c50 => ?_)
      · refine lv_aload_n hx hb dX8_readsText_60 rfl (lv_at hl 0 rfl) ?_
        refine lv_iconst (v := 1) hx hb dX8_readsText_61 (by decide) ?_
        refine xc_v (va_runV (As := [.int (1 : Int32)]) (rest := []) ⟨hx, hb, hml, hown, hts⟩ (c_X8_errs l D cy b n hn (gX8_next (mU (mU (mU (mU M 124 15 x) 124 20 (0 : Int32)) 124 16 (0 : Int32)) 124 18 (0 : Int32))) (1 : Int32)) (cwV 1 hts gX8_readsText_X8_errs rfl rfl rfl (by decide +kernel) ⟨Nat.le_of_ble_eq_true rfl, Nat.le_of_ble_eq_true rfl⟩) (xPreV hP hK hX hS (by omega) (cell8 (by decide)) rfl) rfl rfl hl.1 rfl (lv_room (Nat.le_of_ble_eq_true rfl)) dX8_readsText_62 ⟨Nat.le_of_ble_eq_true rfl, Nat.le_of_ble_eq_true rfl⟩) hS (fun H locs hP hS => ?_)
        rw [show LX8_readsText_2g x (k + 1) M j = LX8_readsText_65g x 1 (gX8_errs (gX8_next (mU (mU (mU (mU M 124 15 x) 124 20 (0 : Int32)) 124 16 (0 : Int32)) 124 18 (0 : Int32))) (1 : Int32)) from (by rw [LX8_readsText_2g, if_pos c5, if_pos c50])]
        exact cl_X8_readsText_65 l D cy b n hn x hx hb hr hlocks hml hown hts hK hX 1 (gX8_errs (gX8_next (mU (mU (mU (mU M 124 15 x) 124 20 (0 : Int32)) 124 16 (0 : Int32)) 124 18 (0 : Int32))) (1 : Int32)) H locs ls (by first | with_reducible exact rv_nx (rv_start hux hz56) | with_reducible exact rv_er (rv_start hux hz56)) (by decide) hP hS (lv_sub hl [0] rfl)
      · refine lv_aload_n hx hb dX8_readsText_53 rfl (lv_at hl 0 rfl) ?_
        refine xc_v (va_runV (As := []) (rest := []) ⟨hx, hb, hml, hown, hts⟩ (c_X8_next l D cy b n hn (gX8_next (mU (mU (mU (mU M 124 15 x) 124 20 (0 : Int32)) 124 16 (0 : Int32)) 124 18 (0 : Int32))) (rv_start hux hz56).1.tx) (cwV 0 hts gX8_readsText_X8_next rfl rfl rfl (by decide +kernel) ⟨Nat.le_of_ble_eq_true rfl, Nat.le_of_ble_eq_true rfl⟩) (xPreV hP hK hX hS (by omega) (cell8 (by decide)) rfl) rfl rfl hl.1 rfl (lv_room (Nat.le_of_ble_eq_true rfl)) dX8_readsText_54 ⟨Nat.le_of_ble_eq_true rfl, Nat.le_of_ble_eq_true rfl⟩) hS (fun H locs hP hS => ?_)
        refine lv_goto (tgt := 65) hx hb dX8_readsText_57 (by decide) ?_
        rw [show LX8_readsText_2g x (k + 1) M j = LX8_readsText_65g x 1 (gX8_next (gX8_next (mU (mU (mU (mU M 124 15 x) 124 20 (0 : Int32)) 124 16 (0 : Int32)) 124 18 (0 : Int32)))) from (by rw [LX8_readsText_2g, if_pos c5, if_neg c50])]
        exact cl_X8_readsText_65 l D cy b n hn x hx hb hr hlocks hml hown hts hK hX 1 (gX8_next (gX8_next (mU (mU (mU (mU M 124 15 x) 124 20 (0 : Int32)) 124 16 (0 : Int32)) 124 18 (0 : Int32)))) H locs ls (by first | with_reducible exact rv_nx (rv_start hux hz56) | with_reducible exact rv_er (rv_start hux hz56)) (by decide) hP hS (lv_sub hl [0] rfl)
    · have hj6 := lit_lt (N := 56) c5 rfl hj
      refine lv_aload_n hx hb dX8_readsText_8 rfl (lv_at hl 0 rfl) ?_
      refine xg (C := RX8) (T := TX8) (N := 22) (v := .ref (b + 127)) hx hb hts inc8 hown hK hP (by omega) (cell8 (by decide)) rfl 3 (by decide) lk4 (fun _ h => h) rfl dX8_readsText_9 ?_
      refine lv_iload_n hx hb dX8_readsText_12 rfl (lv_at hl 2 rfl) ?_
      refine lv_iconst (v := 0) hx hb dX8_readsText_13 (by decide) ?_
      refine xis (j := j) (x := (0 : Int32)) hx hb hK hP hS (by omega) (by decide) (ixIn (a := j) rfl (by first | decide | (simp only [lenOf]; omega) | omega) (by decide)) (ixAt (a := j) rfl (by omega)) dX8_readsText_14 (fun H locs hP hS => ?_)
      refine lv_iinc (v := nI (j + 1)) (lv' := [(2, .int (nI (j + 1))), (0, .ref (b + 124)), (1, .int x)]) hx hb dX8_readsText_15 hl (k := 2) rfl (ixAdd (a := j) (c := 1) (d := j + 1) rfl rfl (by omega)) (by decide) rfl (fun ls hl => ?_)
      refine lv_goto (tgt := 2) hx hb dX8_readsText_18 (by decide) ?_
      rw [show LX8_readsText_2g x (k + 1) M j = LX8_readsText_2g x k (mU M 127 j (0 : Int32)) (j + 1) from (by rw [LX8_readsText_2g, if_neg c5])]
      exact ih (mU M 127 j (0 : Int32)) (j + 1) H locs ls (z_step hz) (by omega) (by omega) hP hS (lv_sub hl [1, 2, 0] rfl)

def gX8_readsText (M : Mem) (x : Int32) : Mem := LX8_readsText_2g x 57 M 0
set_option maxHeartbeats 4000000 in
set_option maxRecDepth 100000 in
theorem c_X8_readsText (l : Launch) (D : va_G) (cy : Nat → ClassId) (b n : Nat) (hn : 133 ≤ n) (M : Mem) (x : Int32) (hux : UB x 600) : Met l yX8_readsText wsX8_readsText ({ frames := 9, cells := 0, slots := 0, locals := 195 } : Room) (CP D cy b n fT M [.ref (b + 124), .int x]) (CQv D cy b n fT (gX8_readsText M x)) 0 0 (fr b) := by
  refine Met.ofW (cc := cX8_readsText) (maxL := 3) (ret := none) (by decide) rfl ?_
  intro p e s m args below meth c s₁ B hml hv
  obtain ⟨rfl, hP, hK, hX⟩ := hv
  have hx := B.exec
  have hb := B.bytes
  have hr := B.returns
  have hts := atoms_spec (ws := wsX8_readsText) B.pre
  have hown : s.vm.findClass RX8 = some m.cls := findClass_of_methodNamed B.named
  have hlocks := B.notSynchronized
  have hS : va_S (fr b) s.heap s.heap [] := va_S.rf
  have hl := lv_entry ([.ref (b + 124), .int x]) (n := 3) (Nat.le_of_ble_eq_true rfl)
  rw [lg_entry_eq]
  generalize (lg_sl ([.ref (b + 124), .int x]) ++ List.replicate (3 - (lg_sl ([.ref (b + 124), .int x])).length) Slot.unset).toArray = ls at hl ⊢
  have hl : lv_has ls 3 [(0, .ref (b + 124)), (1, .int x)] := hl
  refine lv_iconst (v := 0) hx hb dX8_readsText_0 (by decide) ?_
  refine lv_istore_n (lv' := [(2, .int (0 : Int32)), (0, .ref (b + 124)), (1, .int x)]) hx hb dX8_readsText_1 rfl hl (by decide) rfl (fun ls hl => ?_)
  rw [show gX8_readsText M x = LX8_readsText_2g x 57 M 0 from (by rw [gX8_readsText])]
  exact cl_X8_readsText_2 l D cy b n hn x hux hx hb hr hlocks hml hown hts hK hX 57 M 0 s.heap [] ls (fun i h => absurd h (by omega)) (by omega) (by omega) hP hS (lv_sub hl [1, 2, 0] rfl)
