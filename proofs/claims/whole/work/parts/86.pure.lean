/-! the relation: borrowing, playing or not -/
theorem len_t {I M : Nat → Nat → Int32} (hV : RVa I M) (n : Int32) : ∀ m k, m + k = 12 → (lent I n m k = 1 ∧ ∃ i, k ≤ i ∧ i < 12 ∧ ¬ nI i = n ∧ M (20 + i) 3 = n) ∨ (lent I n m k = 0 ∧ ∀ i, k ≤ i → i < 12 → nI i = n ∨ ¬ M (20 + i) 3 = n)
  | 0, k, hk => Or.inr ⟨rfl, fun i h1 h2 => absurd h2 (by omega)⟩
  | m + 1, k, hk => by
    have ih := len_t hV n m (k + 1) (by omega)
    have e := (hV k (by omega)).1 3 (by decide)
    have w : (nI k = n ∨ ¬ M (20 + k) 3 = n) → (lent I n m (k + 1) = 1 ∧ ∃ i, k ≤ i ∧ i < 12 ∧ ¬ nI i = n ∧ M (20 + i) 3 = n) ∨ (lent I n m (k + 1) = 0 ∧ ∀ i, k ≤ i → i < 12 → nI i = n ∨ ¬ M (20 + i) 3 = n) := fun q => by
      rcases ih with ⟨a, i, h1, h2⟩ | ⟨a, b⟩
      · exact Or.inl ⟨a, i, by omega, h2⟩
      · refine Or.inr ⟨a, fun i h1 h2 => ?_⟩
        rcases Nat.lt_or_ge k i with z | z
        · exact b i z h2
        · rw [show i = k by omega]; exact q
    unfold lent
    rw [e]
    by_cases c : nI k = n
    · rw [if_pos c]; exact w (Or.inl c)
    · rw [if_neg c]
      by_cases d : M (20 + k) 3 = n
      · rw [if_pos d]; exact Or.inl ⟨rfl, k, Nat.le_refl _, by omega, c, d⟩
      · rw [if_neg d]; exact w (Or.inr d)
theorem len_B {M : Nat → Nat → Int32} (n : Int32) : ∀ k, (lenB M n k = 1 ∧ ∃ i, i < k ∧ ¬ nI i = n ∧ M (20 + i) 3 = n) ∨ (lenB M n k = 0 ∧ ∀ i, i < k → nI i = n ∨ ¬ M (20 + i) 3 = n)
  | 0 => Or.inr ⟨rfl, fun i hi => absurd hi (Nat.not_lt_zero _)⟩
  | k + 1 => by
    have ih := len_B (M := M) n k
    unfold lenB
    have w : (nI k = n ∨ ¬ M (20 + k) 3 = n) → (lenB M n k ||| 0 = 1 ∧ ∃ i, i < k + 1 ∧ ¬ nI i = n ∧ M (20 + i) 3 = n) ∨ (lenB M n k ||| 0 = 0 ∧ ∀ i, i < k + 1 → nI i = n ∨ ¬ M (20 + i) 3 = n) := fun q => by
      rcases ih with ⟨a, i, h1, h2⟩ | ⟨a, b⟩
      · exact Or.inl ⟨by rw [a]; rfl, i, by omega, h2⟩
      · refine Or.inr ⟨by rw [a]; rfl, fun i h1 => ?_⟩
        rcases Nat.lt_or_ge i k with z | z
        · exact b i z
        · rw [show i = k by omega]; exact q
    by_cases c : nI k = n
    · rw [if_pos c]; exact w (Or.inl c)
    · rw [if_neg c]
      by_cases d : M (20 + k) 3 = n
      · rw [if_pos d]
        refine Or.inl ⟨?_, k, Nat.lt_succ_self k, c, d⟩
        rcases ih with ⟨a, -⟩ | ⟨a, -⟩ <;> rw [a] <;> rfl
      · rw [if_neg d]; exact w (Or.inr d)
theorem len_eq {I M : Nat → Nat → Int32} (hV : RVa I M) (n : Int32) : lent I n 12 0 = lenB M n 12 := by
  rcases len_t hV n 12 0 rfl with ⟨a, i, -, h1, h2, h3⟩ | ⟨a, b⟩
  · rcases len_B (M := M) n 12 with ⟨c, -⟩ | ⟨c, d⟩
    · rw [a, c]
    · exact absurd (d i h1) (fun z => z.elim h2 (fun w => w h3))
  · rcases len_B (M := M) n 12 with ⟨c, i, h1, h2, h3⟩ | ⟨c, -⟩
    · exact absurd (b i (Nat.zero_le _) h1) (fun z => z.elim h2 (fun w => w h3))
    · rw [a, c]
theorem c_bo {I M : Nat → Nat → Int32} (hV : RVa I M) (n o : Int32) : boC M n o = nI (kbo I n o) := by
  unfold boC kbo
  rw [← vok_isi, ← vok_isi]
  by_cases h1 : vok n = 0
  · rw [if_pos h1, if_pos h1]; rfl
  · rw [if_neg h1, if_neg h1]
    by_cases h2 : vok o = 0
    · rw [if_pos h2, if_pos h2]; rfl
    · rw [if_neg h2, if_neg h2]
      obtain ⟨w, hw, -, e⟩ := k_vok h2
      rw [e, (hV w hw).1 3 (by decide), len_eq hV n]
      split
      · rfl
      · split
        · split <;> rfl
        · rfl
