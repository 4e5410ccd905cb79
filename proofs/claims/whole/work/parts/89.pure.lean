/-! the relation: sounding, time -/
theorem c_so {I M : Nat → Nat → Int32} {S : SZ} (h : RLo I M S) (x w : Int32) : soC S x w = nI (kso I x w) := by
  unfold soC kso
  rw [lhas_isi h]
  rcases ix_2 w with ⟨q, e⟩ | ⟨q, e⟩ | ⟨q, e⟩ | ⟨q, e⟩ | ⟨q, e⟩ | ⟨q, e⟩
  · rw [e, if_neg (by decide), if_pos (Or.inl q)]; split <;> rfl
  · rw [e, if_neg (by decide), if_pos (Or.inr (Or.inl q))]; split <;> rfl
  · rw [e, if_neg (by decide), if_pos (Or.inr (Or.inr (Or.inl q)))]; split <;> rfl
  · rw [e, if_neg (by decide), if_pos (Or.inr (Or.inr (Or.inr (Or.inl q))))]; split <;> rfl
  · rw [e, if_neg (by decide), if_pos (Or.inr (Or.inr (Or.inr (Or.inr q))))]; split <;> rfl
  · rw [if_pos e, if_neg q]; rfl
theorem s_so {I M : Nat → Nat → Int32} {S : SZ} (h : RLo I M S) {x w : Int32} (q : kso I x w = 0) : ltell I x w = M (8000 + x.toNatClampNeg) (ixS 2 w).toNatClampNeg := by
  have h3 := h.2.1
  unfold kso at q
  by_cases hw : w = 110 ∨ w = 111 ∨ w = 102 ∨ w = 108 ∨ w = 118
  · rw [if_pos hw] at q
    by_cases hl : lhas I x = 0
    · rw [if_pos hl] at q; cases q
    · have hl2 := hl
      rw [lhas_isi h] at hl2
      obtain ⟨m, hm, rfl⟩ := isi_n hl2 (by omega)
      unfold ltell
      rw [if_neg hl, nI_clamp (n := m) (by omega)]
      have e := h.2.2 m hm
      rcases ix_2 w with ⟨q, e9⟩ | ⟨q, e9⟩ | ⟨q, e9⟩ | ⟨q, e9⟩ | ⟨q, e9⟩ | ⟨q, e9⟩
      · rw [e9, q, if_pos rfl]; exact e 0 (by decide)
      · rw [e9, q, if_neg (by decide), if_pos rfl]; exact e 1 (by decide)
      · rw [e9, q, if_neg (by decide), if_neg (by decide), if_pos rfl]; exact e 2 (by decide)
      · rw [e9, q, if_neg (by decide), if_neg (by decide), if_neg (by decide), if_pos rfl]; exact e 3 (by decide)
      · rw [e9, q, if_neg (by decide), if_neg (by decide), if_neg (by decide), if_neg (by decide)]; exact e 4 (by decide)
      · exact absurd hw q
  · rw [if_neg hw] at q; cases q
