/-! the relation: tellings -/
theorem c_va (n d q : Int32) : vaC n d q = nI (kva n d q) := by
  unfold vaC kva; rw [vok_isi, isi_wi, isi_wi, isi_wi]
  split
  · rfl
  · split
    · rfl
    · split <;> rfl
theorem c_us (n u : Int32) : usC n u = nI (kus n u) := by
  unfold usC kus; rw [vok_isi, isi_wi, isi_wi]
  split
  · rfl
  · split <;> rfl
theorem c_mk (w : Int32) : mkC w = nI (kmk w) := by
  unfold mkC kmk
  by_cases h : isi w 97 99 = 0
  · rw [if_pos h, if_neg]
    · rfl
    · rintro (e | e | e) <;> rw [e] at h <;> exact absurd h (by decide)
  · rw [if_neg h, if_pos (isi_3 h)]; rfl
theorem c_sp (f g : Int32) : spC f g = nI (ksp f g) := by
  unfold spC ksp; rw [isi_wi, isi_wi]
  split
  · rfl
  · split <;> rfl
theorem c_tm (r : Int32) : tmC r = nI (ktm r) := by
  unfold tmC ktm; rw [isi_wi]
  split <;> rfl
theorem k_vok {n : Int32} (h : ¬ vok n = 0) : ∃ v, v < 12 ∧ n = nI v ∧ n.toNatClampNeg = v := by
  rw [vok_isi, isi_wi] at h
  obtain ⟨v, hv, e1, e2⟩ := k_wi (n := 11) rfl (by decide) h
  exact ⟨v, by omega, e1, e2⟩
