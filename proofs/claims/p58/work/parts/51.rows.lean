/-! rows for the law's own methods -/
abbrev CQl (D : va_G) (cy : Nat → ClassId) (b n : Nat) (F : Fla) (r : Int64) (M : Mem) : Array Value → State → Outcome → State → Prop := va_Ql (fun x (_ : Unit) => x = r) (fun _ t => va_P D vwCl (wL cy b F M n) t.heap) (fun q => b ≤ q)
/-- an answer, and a picture that is only told by what it keeps -/
abbrev CQe (D : va_G) (cy : Nat → ClassId) (b n : Nat) (r : Int32) (P : Mem → Prop) : Array Value → State → Outcome → State → Prop := va_Qi (fun x (M1 : Mem) => x = r ∧ P M1) (fun M1 t => va_P D vwCl (wL cy b fT M1 n) t.heap) (fun q => b ≤ q)
section XLR
variable {p : Program} {l : Launch} {e : Env} {R : Room} {s : State} {m : MethodId} {args : Array Value} {below : List Frame} {meth : Method} {c : Code} {H : Heap} {locs : List Loc} {cells slots : Nat} {Q : State → Prop}
variable {cc : ByteArray} {pc : Nat} {ls : Array Slot} {rest st0 : List Value} {D : va_G} {cy : Nat → ClassId} {b n : Nat} {F : Fla} {M : Mem} {H0 : Heap}
theorem xc_l {mc ms : Nat} {F1 : Fla} {r : Int64} {M1 : Mem} {a : Array Value} (hr : va_Run p l e R s m args below meth c H locs cells slots mc ms (F0 m pc ls st0) rest (CQl D cy b n F1 r M1 a) (fr b)) (hS : va_S (fr b) H0 H locs)
    (kk : ∀ (H1 : Heap) (locs1 : List Loc), va_P D vwCl (wL cy b F1 M1 n) H1 → va_S (fr b) H0 H1 locs1 → W p l e R s m args below meth c H1 locs1 (cells + mc) (slots + ms) Q (F0 m (pc + 3) ls (.long r :: rest))) : W p l e R s m args below meth c H locs cells slots Q (F0 m pc ls st0) :=
  va_calll hr hS (fun _ _ h => h) (fun _ h => h) (fun x u t H1 locs1 ht _ hp hB _ _ hS1 => by
    rw [show x = r from hp]
    exact kk H1 locs1 (by rw [← ht]; exact hB) hS1)
theorem xc_e {mc ms : Nat} {r : Int32} {P : Mem → Prop} {a : Array Value} (hr : va_Run p l e R s m args below meth c H locs cells slots mc ms (F0 m pc ls st0) rest (CQe D cy b n r P a) (fr b)) (hS : va_S (fr b) H0 H locs)
    (kk : ∀ (M1 : Mem) (H1 : Heap) (locs1 : List Loc), P M1 → va_P D vwCl (wL cy b fT M1 n) H1 → va_S (fr b) H0 H1 locs1 → W p l e R s m args below meth c H1 locs1 (cells + mc) (slots + ms) Q (F0 m (pc + 3) ls (.int r :: rest))) : W p l e R s m args below meth c H locs cells slots Q (F0 m pc ls st0) :=
  va_calli hr hS (fun _ _ h => h) (fun _ h => h) (fun x u t H1 locs1 ht _ hp hB _ _ hS1 => by
    rw [show x = r from hp.1]
    exact kk u H1 locs1 hp.2 (by rw [← ht]; exact hB) hS1)
theorem xe_l (hexec : p.tables.exec = Jvm.exec) (hb : c.code = cc) (hr : meth.sig.returnType = some .long) (hlocks : meth.locks = false) {mc ms : Nat} {F1 : Fla} {v r : Int64} {M1 : Mem} (hP : va_P D vwCl (wL cy b F M n) H) (hS : va_S (fr b) s.heap H locs) (hf : F = F1) (hM : M = M1) (hv : v = r) (h1 : cells ≤ mc) (h2 : slots ≤ ms) (hdg : decode cc pc = .ok (.lreturn, 1)) : W p l e R s m args below meth c H locs cells slots (MQ below (CQl D cy b n F1 r M1) args s mc ms (fr b)) (F0 m pc ls [.long v]) := by
  subst hf; subst hM; subst hv
  refine W.widen h1 h2 ?_
  exact W.lret hexec hb hr (fun t ht hW => ⟨⟨v, (), rfl, rfl, by show va_P _ _ _ t.heap; rw [ht]; exact hP⟩, hS.F ht⟩) hS.2.2 hdg hlocks
theorem xe_e (hexec : p.tables.exec = Jvm.exec) (hb : c.code = cc) {ty : FieldType} (hr : meth.sig.returnType = some ty) (hlocks : meth.locks = false) {mc ms : Nat} {v r : Int32} {P : Mem → Prop} (hP : va_P D vwCl (wL cy b fT M n) H) (hS : va_S (fr b) s.heap H locs) (hM : P M) (hv : v = r) (hn : narrow ty (.int v) = .int v) (h1 : cells ≤ mc) (h2 : slots ≤ ms) (hdg : decode cc pc = .ok (.ireturn, 1)) : W p l e R s m args below meth c H locs cells slots (MQ below (CQe D cy b n r P) args s mc ms (fr b)) (F0 m pc ls [.int v]) := by
  subst hv
  refine W.widen h1 h2 ?_
  exact W.zret hexec hb hr hn (fun t ht hW => ⟨⟨v, M, rfl, ⟨rfl, hM⟩, by show va_P _ _ _ t.heap; rw [ht]; exact hP⟩, hS.F ht⟩) hS.2.2 hdg hlocks
end XLR
/-- the instruments that are there -/
theorem t0_at {M : Mem} {c j : Nat} (h1 : M 1 1 = nI c) (hc : c ≤ 6) (hj : j < c) : tX7_instrumentAt M (nI j) = 0 := by
  unfold tX7_instrumentAt
  rw [if_neg (nI_pos (by omega)), h1, if_neg (nI_ge hj (by omega))]
theorem t0_isHair {M : Mem} {x : Int32} (h : tX7_instrumentAt M x = 0) : tX7_isHair M x = 0 := by
  unfold tX7_isHair
  rw [if_pos h]
theorem t0_hairsOf {M : Mem} {x : Int32} (h : tX7_instrumentAt M x = 0) : tX7_hairsOf M x = 0 := by
  unfold tX7_hairsOf
  rw [if_pos h]
  (repeat' split) <;> rfl
theorem t0_brokenOf {M : Mem} {x : Int32} (h : tX7_instrumentAt M x = 0) : tX7_brokenOf M x = 0 := by
  unfold tX7_brokenOf
  rw [if_pos h]
  (repeat' split) <;> rfl
theorem t0_wetnessOf {M : Mem} {x : Int32} (h : tX7_instrumentAt M x = 0) : tX7_wetnessOf M x = 0 := by
  unfold tX7_wetnessOf
  rw [if_pos h]
  (repeat' split) <;> rfl
theorem t0_slackOf {M : Mem} {x : Int32} (h : tX7_instrumentAt M x = 0) : tX7_slackOf M x = 0 := by
  unfold tX7_slackOf
  rw [if_pos h]
  (repeat' split) <;> rfl
theorem t0_waterOf {M : Mem} {x : Int32} (h : tX7_instrumentAt M x = 0) : tX7_waterOf M x = 0 := by
  unfold tX7_waterOf
  rw [if_pos h]
  (repeat' split) <;> rfl
theorem t0_depressionOf {M : Mem} {x : Int32} (h : tX7_instrumentAt M x = 0) : tX7_depressionOf M x = 0 := by
  unfold tX7_depressionOf
  rw [if_pos h]
  (repeat' split) <;> rfl
theorem t0_zeroOf {M : Mem} {x : Int32} (h : tX7_instrumentAt M x = 0) : tX7_zeroOf M x = 0 := by
  unfold tX7_zeroOf
  rw [if_pos h]
theorem t0_boxOf {M : Mem} {x : Int32} (h : tX7_instrumentAt M x = 0) : tX7_boxOf M x = 0 := by
  unfold tX7_boxOf
  rw [if_pos h]
theorem t0_surroundingOf {M : Mem} {x : Int32} (h : tX7_instrumentAt M x = 0) : tX7_surroundingOf M x = 0 := by
  unfold tX7_surroundingOf
  rw [if_pos h]
theorem t0_rawValue {M : Mem} {x : Int32} (h : tX7_instrumentAt M x = 0) : tX7_rawValue M x = 0 := by
  unfold tX7_rawValue
  rw [if_pos h]
theorem t0_readingOf {M : Mem} {x : Int32} (h : tX7_instrumentAt M x = 0) : tX7_readingOf M x = 0 := by
  unfold tX7_readingOf
  rw [if_pos h]
theorem t0_errorOf {M : Mem} {x : Int32} (h : tX7_instrumentAt M x = 0) : tX7_errorOf M x = 0 := by
  unfold tX7_errorOf
  rw [if_pos h]
theorem t0_isSettled {M : Mem} {x : Int32} (h : tX7_instrumentAt M x = 0) : tX7_isSettled M x = 0 := by
  unfold tX7_isSettled
  rw [if_pos h]
theorem t0_whyUnusable {M : Mem} {x : Int32} (h : tX7_instrumentAt M x = 0) : tX7_whyUnusable M x = 0 := by
  unfold tX7_whyUnusable
  rw [if_pos h]
theorem t0_weightOf {M : Mem} {x : Int32} (h : tX7_instrumentAt M x = 0) : tX7_weightOf M x = 0 := by
  unfold tX7_weightOf
  rw [if_pos h]
theorem t0_calibrationObstacle {M : Mem} {x : Int32} (h : tX7_instrumentAt M x = 0) : tX7_calibrationObstacle M x = 0 := by
  unfold tX7_calibrationObstacle
  rw [if_pos h]
theorem t0_minutesUntilStill {M : Mem} {x : Int32} (h : tX7_instrumentAt M x = 0) : tX7_minutesUntilStill M x = 0 := by
  unfold tX7_minutesUntilStill
  rw [if_pos h]
