/-! the relation: the log told -/
theorem lhas_isi {I M : Nat → Nat → Int32} {S : SZ} (h : RLo I M S) (x : Int32) : lhas I x = isi x 0 (nI S.2.2.1 - 1) := by
  have h3 := h.2.1
  unfold lhas isi
  rw [h.1]
  by_cases h1 : x < 0
  · rw [if_pos h1, if_pos h1]
  · rw [if_neg h1, if_neg h1]
    obtain ⟨m, hm, rfl⟩ := nI_of h1
    have e : (nI S.2.2.1 - 1 < nI m) ↔ S.2.2.1 ≤ m := by
      rcases Nat.eq_zero_or_pos S.2.2.1 with q | q
      · rw [q]
        refine ⟨fun _ => Nat.zero_le _, fun _ => ?_⟩
        rw [Int32.lt_iff_toInt_lt, nI_toInt hm]
        have : (nI 0 - 1).toInt = -1 := by decide
        omega
      · obtain ⟨k, hk⟩ : ∃ k, S.2.2.1 = k + 1 := ⟨S.2.2.1 - 1, by omega⟩
        rw [hk, nI_pred, nI_ltI (by omega) hm]
        omega
    by_cases h2 : S.2.2.1 ≤ m
    · rw [if_pos ((nI_leI (by omega) hm).mpr h2), if_pos (e.mpr h2)]
    · rw [if_neg (fun q => h2 ((nI_leI (by omega) hm).mp q)), if_neg (fun q => h2 (e.mp q)), if_neg (fun q => by
        have := (ge_L (c := 300) (n := 300) rfl hm (by decide)).mp q
        omega)]
theorem so_let : ∀ n, n < 256 → (n = 110 ∧ ixS 2 (nI n) = 0) ∨ (n = 111 ∧ ixS 2 (nI n) = 1) ∨ (n = 102 ∧ ixS 2 (nI n) = 2) ∨ (n = 108 ∧ ixS 2 (nI n) = 3) ∨ (n = 118 ∧ ixS 2 (nI n) = 4) ∨ (n ≠ 110 ∧ n ≠ 111 ∧ n ≠ 102 ∧ n ≠ 108 ∧ n ≠ 118 ∧ ixS 2 (nI n) < 0) := by decide +kernel
theorem ix_2 (w : Int32) : (w = 110 ∧ ixS 2 w = 0) ∨ (w = 111 ∧ ixS 2 w = 1) ∨ (w = 102 ∧ ixS 2 w = 2) ∨ (w = 108 ∧ ixS 2 w = 3) ∨ (w = 118 ∧ ixS 2 w = 4) ∨ (¬ (w = 110 ∨ w = 111 ∨ w = 102 ∨ w = 108 ∨ w = 118) ∧ ixS 2 w < 0) := by
  by_cases h1 : w < 0
  · refine Or.inr (Or.inr (Or.inr (Or.inr (Or.inr ⟨?_, by unfold ixS; rw [if_pos h1]; decide⟩))))
    rintro (rfl | rfl | rfl | rfl | rfl) <;> exact absurd h1 (by decide)
  · by_cases h2 : 255 < w
    · refine Or.inr (Or.inr (Or.inr (Or.inr (Or.inr ⟨?_, by unfold ixS; rw [if_neg h1, if_pos h2]; decide⟩))))
      rintro (rfl | rfl | rfl | rfl | rfl) <;> exact absurd h2 (by decide)
    · obtain ⟨n, hn, rfl⟩ := w_small h1 h2
      rcases so_let n hn with ⟨rfl, e⟩ | ⟨rfl, e⟩ | ⟨rfl, e⟩ | ⟨rfl, e⟩ | ⟨rfl, e⟩ | ⟨a, b, c, d, f, e⟩
      · exact Or.inl ⟨rfl, e⟩
      · exact Or.inr (Or.inl ⟨rfl, e⟩)
      · exact Or.inr (Or.inr (Or.inl ⟨rfl, e⟩))
      · exact Or.inr (Or.inr (Or.inr (Or.inl ⟨rfl, e⟩)))
      · exact Or.inr (Or.inr (Or.inr (Or.inr (Or.inl ⟨rfl, e⟩))))
      · refine Or.inr (Or.inr (Or.inr (Or.inr (Or.inr ⟨?_, e⟩))))
        rintro (q | q | q | q | q)
        · exact a (nI_inj (by omega) (by decide) q)
        · exact b (nI_inj (by omega) (by decide) q)
        · exact c (nI_inj (by omega) (by decide) q)
        · exact d (nI_inj (by omega) (by decide) q)
        · exact f (nI_inj (by omega) (by decide) q)
theorem lts_ck {I M : Nat → Nat → Int32} {S : SZ} (h : RLo I M S) {s : Int64} : ∀ k, k ≤ S.2.2.1 → lts I s k = ckS M s k
  | 0, _ => rfl
  | k + 1, hk => by
    have e0 := h.2.2 k (by omega) 0 (by decide)
    have e2 := h.2.2 k (by omega) 2 (by decide)
    have e4 := h.2.2 k (by omega) 4 (by decide)
    unfold lts ckS
    rw [lts_ck h k (by omega), show I 18 k = M (8000 + k) 0 from e0, show I 20 k = M (8000 + k) 2 from e2, show I 22 k = M (8000 + k) 4 from e4]
theorem sum_sm {I M : Nat → Nat → Int32} {S : SZ} (h : RLo I M S) : ∀ k, k ≤ S.2.2.1 → sumB (I 22) k = smM M k
  | 0, _ => rfl
  | k + 1, hk => by
    have e4 := h.2.2 k (by omega) 4 (by decide)
    unfold sumB smM
    rw [sum_sm h k (by omega), show I 22 k = M (8000 + k) 4 from e4]
