/-! the relation: load -/
theorem rsA_n {I : Nat → Nat → Int32} {a : Nat} : ∀ k, (a < 24 ∨ 24 + k ≤ a) → rsA I k a = I a
  | 0, _ => rfl
  | k + 1, h => by
    unfold rsA rsV
    rw [up2_row (by omega), up2_row (by omega), up2_row (by omega), up2_row (by omega), up2_row (by omega), up2_row (by omega), up2_row (by omega), rsA_n k (by omega)]
theorem rsA_b {I : Nat → Nat → Int32} {a b : Nat} (hb : b < 4) : ∀ k, rsA I k a b = I a b
  | 0 => rfl
  | k + 1 => by
    unfold rsA rsV
    rw [up2_n (Or.inr (by omega)), up2_n (Or.inr (by omega)), up2_n (Or.inr (by omega)), up2_n (Or.inr (by omega)), up2_n (Or.inr (by omega)), up2_n (Or.inr (by omega)), up2_n (Or.inr (by omega)), rsA_b hb k]
theorem rsA_v {I : Nat → Nat → Int32} {v : Nat} : ∀ k, v < k → rsA I k (24 + v) 4 = 0 ∧ rsA I k (24 + v) 7 = -1000 ∧ rsA I k (24 + v) 8 = 0 ∧ rsA I k (24 + v) 9 = 0 ∧ rsA I k (24 + v) 10 = -1
  | 0, h => absurd h (Nat.not_lt_zero _)
  | k + 1, h => by
    by_cases e : v = k
    · subst e
      unfold rsA rsV
      refine ⟨?_, ?_, ?_, ?_, ?_⟩
      · rw [up2_n (Or.inr (by decide)), up2_n (Or.inr (by decide)), up2_n (Or.inr (by decide)), up2_n (Or.inr (by decide)), up2_n (Or.inr (by decide)), up2_n (Or.inr (by decide)), up2_s]
      · rw [up2_n (Or.inr (by decide)), up2_n (Or.inr (by decide)), up2_n (Or.inr (by decide)), up2_s]
      · rw [up2_n (Or.inr (by decide)), up2_n (Or.inr (by decide)), up2_s]
      · rw [up2_n (Or.inr (by decide)), up2_s]
      · rw [up2_s]
    · have ih := rsA_v (I := I) (v := v) k (by omega)
      have f : rsA I (k + 1) (24 + v) = rsA I k (24 + v) := by
        show rsV (rsA I k) k (24 + v) = _
        unfold rsV
        rw [up2_row (by omega), up2_row (by omega), up2_row (by omega), up2_row (by omega), up2_row (by omega), up2_row (by omega), up2_row (by omega)]
      rw [f]; exact ih
theorem ldV_a {J : Nat → Nat → Int32} {a : Nat} : ∀ k, (a < 20 ∨ 20 + k ≤ a) → ldV J k a = J a
  | 0, _ => rfl
  | k + 1, h => by
    unfold ldV
    rw [up2_row (by omega), up2_row (by omega), up2_row (by omega), ldV_a k (by omega)]
theorem ldV_b {J : Nat → Nat → Int32} {a b : Nat} (h6 : b ≠ 6) (h7 : b ≠ 7) (h9 : b ≠ 9) : ∀ k, ldV J k a b = J a b
  | 0 => rfl
  | k + 1 => by
    unfold ldV
    rw [up2_n (Or.inr h7), up2_n (Or.inr h6), up2_n (Or.inr h9), ldV_b h6 h7 h9 k]
theorem ldV_v {J : Nat → Nat → Int32} {v : Nat} : ∀ k, v < k → ldV J k (20 + v) 9 = 0 ∧ ldV J k (20 + v) 6 = -1 ∧ ldV J k (20 + v) 7 = 0
  | 0, h => absurd h (Nat.not_lt_zero _)
  | k + 1, h => by
    by_cases e : v = k
    · subst e
      unfold ldV
      refine ⟨?_, ?_, ?_⟩
      · rw [up2_n (Or.inr (by decide)), up2_n (Or.inr (by decide)), up2_s]
      · rw [up2_n (Or.inr (by decide)), up2_s]
      · rw [up2_s]
    · have ih := ldV_v (J := J) (v := v) k (by omega)
      have f : ldV J (k + 1) (20 + v) = ldV J k (20 + v) := by
        show up2 (up2 (up2 (ldV J k) (20 + k) 9 0) (20 + k) 6 (-1)) (20 + k) 7 0 (20 + v) = _
        rw [up2_row (by omega), up2_row (by omega), up2_row (by omega)]
      rw [f]; exact ih
theorem anyF_iff {g : Nat → Int32} : ∀ n a, anyF g n a = 0 ↔ ∀ k, a ≤ k → k < a + n → g k = 0
  | 0, a => ⟨fun _ k h1 h2 => absurd h2 (by omega), fun _ => rfl⟩
  | n + 1, a => by
    unfold anyF
    by_cases e : g a = 0
    · rw [if_pos e, anyF_iff n (a + 1)]
      constructor
      · intro h k h1 h2
        by_cases w : k = a
        · rw [w]; exact e
        · exact h k (by omega) (by omega)
      · intro h k h1 h2; exact h k (by omega) (by omega)
    · rw [if_neg e]
      exact ⟨fun z => absurd z n10, fun z => absurd (z a (Nat.le_refl _) (by omega)) e⟩
theorem crw_iff {g : Nat → Int32} : ∀ n, n < 100000 → (crw g n = 0 ↔ ∀ k, k < n → g k = 0)
  | 0, _ => ⟨fun _ k h => absurd h (Nat.not_lt_zero _), fun _ => rfl⟩
  | n + 1, hn => by
    unfold crw
    by_cases e : g n = 0
    · rw [if_pos e, crw_iff n (by omega)]
      constructor
      · intro h k hk
        by_cases w : k = n
        · rw [w]; exact e
        · exact h k (by omega)
      · intro h k hk; exact h k (by omega)
    · rw [if_neg e, nI_1]
      exact ⟨fun z => absurd z (nI_ne0 (by omega) (by omega)), fun z => absurd (z n (Nat.lt_succ_self n)) e⟩
theorem any_len {I M : Nat → Nat → Int32} {S : SZ} (h : RR I M S) {j : Nat} (hj : j < S.1) : anyF (I (8 + j)) 200 0 = 0 ↔ lenM M j 200 = 0 := by
  have hl := lenM_le M j 200
  have hc := crw_len h hj 200 (Nat.le_refl _)
  rw [anyF_iff]
  have e := crw_iff (g := I (8 + j)) 200 (by decide)
  rw [hc] at e
  constructor
  · intro w
    have := e.mpr (fun k hk => w k (Nat.zero_le _) (by omega))
    rcases Nat.eq_zero_or_pos (lenM M j 200) with q | q
    · exact q
    · exact absurd this (nI_ne0 q (by omega))
  · intro w k _ hk
    exact e.mp (by rw [w]; rfl) k (by omega)
