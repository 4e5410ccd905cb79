/-! tick: how many rows are played -/
theorem tk_k {I M : Nat → Nat → Int32} {S : SZ} {j r m k : Nat} (h : Pin I M S r) (hj : j < S.1) (hk : k ≤ m) (h1 : ∀ i, i < k → ¬ anN I j r i = 0) (h2 : k = m ∨ anN I j r k = 0) : k = tkN M m j r ∧ r + k ≤ 200 ∧ (anN I j r k = 0 ↔ lenM M j 200 ≤ r + tkN M m j r) := by
  have hl := lenM_le M j 200
  have hr := h.2.2.2.2.2.1.1.1
  have hb : ∀ i, i ≤ k → r + i ≤ 200 := by
    intro i
    induction i with
    | zero => exact fun _ => hr
    | succ i ih =>
      intro hi
      have h9 := ih (by omega)
      have := h1 i (by omega)
      rw [anN_len h hj h9] at this
      omega
  have hk2 := hb k (Nat.le_refl _)
  have e := anN_len h hj hk2
  have hlt : ∀ i, i < k → r + i < lenM M j 200 := fun i hi => by
    have := h1 i hi
    rw [anN_len h hj (hb i (by omega))] at this
    omega
  have hK : k = tkN M m j r := by
    unfold tkN
    rcases Nat.eq_zero_or_pos k with q | q
    · subst q
      rcases h2 with w | w
      · omega
      · have := e.mp w; omega
    · have := hlt (k - 1) (by omega)
      rcases h2 with w | w
      · omega
      · have := e.mp w; omega
  exact ⟨hK, hk2, by rw [← hK]; exact e⟩
