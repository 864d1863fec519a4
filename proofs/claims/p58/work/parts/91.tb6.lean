/-! a private method of the builder's superclass is its own choice, whatever the receiver is: six words more -/
theorem sel_priv {C : String} {y y0 : MethodName} {s : State} {args : Array Value} (hy : y.cls ≠ "java/lang/invoke/MethodHandle" ∧ y.cls ≠ "java/lang/invoke/VarHandle") (h0 : (Cond.selects C y0 y0).before args s = true) (he : y0.cls = y.cls) (hpriv : (Cond.privateMethod y).before args s = true) (hinst : (Cond.instanceMethod y).before args s = true) : (Cond.selects C y y).before args s = true := by
  obtain ⟨c, r, m, hc, -, hm0, -, k, hk, hni⟩ := Cond.selects_spec (show (Cond.selects C y0 y0).holds args s none s [] = true from h0)
  obtain ⟨mk, methM, hnamed, hmethM, -, -⟩ := Cond.instanceMethod_spec hinst
  have hfound : s.methodFound? y.cls y.name y.desc = some mk := State.methodFound?_of_named hnamed hy
  have hsel : selectMethod {} s.vm c mk = .method mk := selectMethod_private hmethM (Cond.privateMethod_at hpriv mk methM hnamed hmethM)
  have hcls : mk.cls = m.cls := by
    have e1 := findClass_of_methodNamed hnamed
    have e2 := findClass_of_methodNamed hm0
    rw [he] at e2
    exact Option.some.inj (e1.symm.trans e2)
  simp only [Cond.before, Cond.holds, Cond.value, hc, hfound, hnamed, hsel, hcls, hk]
  simp
  exact hni
def six : List MethodName := [yJ5_appendNull_278bc, yJ5_ensureCapacityInternal_d00df, yJ5_newCapacity_0f7a4, yJ5_putStringAt_47b60, yJ5_inflateIfNeededFor_a7421, yJ5_inflate_da8c8]
def lw_tb6 : List Cond := six.map (fun y => Cond.selects RJ4 y y) ++ lw_tbl
theorem six_tb : ∀ y ∈ six, (y.cls ≠ "java/lang/invoke/MethodHandle" ∧ y.cls ≠ "java/lang/invoke/VarHandle") ∧ yJ5_isLatin1_aae02.cls = y.cls ∧ Cond.privateMethod y ∈ lw_tbl ∧ Cond.instanceMethod y ∈ lw_tbl := by decide +kernel
theorem lw_hts6 {s : State} {args : Array Value} (hts : ∀ w ∈ lw_tbl, w.before args s = true) : ∀ w ∈ lw_tb6, w.before args s = true := by
  intro w hw
  rcases List.mem_append.mp hw with hw | hw
  · obtain ⟨y, hy, rfl⟩ := List.mem_map.mp hw
    obtain ⟨a, b, c, d⟩ := six_tb y hy
    exact sel_priv a (hts (.selects RJ4 yJ5_isLatin1_aae02 yJ5_isLatin1_aae02) (by decide +kernel)) b (hts _ c) (hts _ d)
  · exact hts w hw
