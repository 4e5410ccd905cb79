/-! the pool grows -/
theorem mvz_mem {M : Nat → Nat → Int32} {S : SZ} {v i : Nat} {h p : Int32} (hS : WS S) (hi : i ∈ mL S) (h1 : i < 1000 ∨ 4000 ≤ i) : i ∈ mL (mvz M S v h p) := by
  unfold mvz bgz
  split
  · exact hi
  · split
    · rw [mL_mem] at hi ⊢
      refine ⟨hi.1, ?_⟩
      have := hi.2
      unfold mA at this
      unfold mA addS3
      simp only
      have := hS.c3
      omega
    · exact hi
