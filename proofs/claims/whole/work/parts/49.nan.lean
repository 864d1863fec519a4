/-! the divisions of the shares and means are numbers -/
theorem fn32 : FN32 := by
  have h : ∀ s : Fin 7, ∀ n : Fin 7, 0 < n.1 → (FP.fdiv (FP.i2f (nI s.1)) (FP.i2f (nI n.1))) &&& 0x7fffffff ≤ 0x7f800000 := by decide +kernel
  intro s n hs h0 hn
  exact h ⟨s, by omega⟩ ⟨n, by omega⟩ h0
theorem fn64 : FN64 := by
  have h : ∀ s : Fin 601, ∀ n : Fin 7, 0 < n.1 → (FP.ddiv (FP.i2d (nI s.1)) (FP.i2d (nI n.1))) &&& 0x7fffffffffffffff ≤ 0x7ff0000000000000 := by decide +kernel
  intro s n hs h0 hn
  exact h ⟨s, by omega⟩ ⟨n, by omega⟩ h0
