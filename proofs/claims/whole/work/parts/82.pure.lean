/-! the relation: the end of playing -/
theorem epl_n {J : Nat → Nat → Int32} {a : Nat} : ∀ k, a ≠ 21 → (a < 24 ∨ 24 + k ≤ a) → epl J k a = J a
  | 0, _, _ => rfl
  | k + 1, h1, h => by unfold epl; rw [up2_row (by omega), enH_n (by omega) h1, epl_n k h1 (by omega)]
theorem epl_b {J : Nat → Nat → Int32} {v b : Nat} (hb : b < 4) : ∀ k, epl J k (24 + v) b = J (24 + v) b
  | 0 => rfl
  | k + 1 => by
    unfold epl
    rw [up2_n (Or.inr (by omega))]
    by_cases e : v = k
    · subst e; rw [enH_v (by omega) (by omega) (by omega), epl_b hb v]
    · rw [enH_n (by omega) (by omega), epl_b hb k]
theorem epl_4 {J : Nat → Nat → Int32} {v : Nat} : ∀ k, v < k → epl J k (24 + v) 4 = 0
  | 0, h => absurd h (Nat.not_lt_zero _)
  | k + 1, h => by
    unfold epl
    by_cases e : v = k
    · subst e; rw [up2_s]
    · rw [up2_row (by omega), enH_n (by omega) (by omega), epl_4 k (by omega)]
theorem enV_7z {Q : Nat → Nat → Int32} {v : Nat} : ∀ k, v < k → k ≤ 12 → enV Q k (20 + v) 7 = 0
  | 0, h, _ => absurd h (Nat.not_lt_zero _)
  | k + 1, h, hk => by
    unfold enV
    by_cases e : v = k
    · subst e
      by_cases c : enV Q v (20 + v) 7 = 0
      · rw [if_pos c, up2_n (Or.inr (by decide))]; exact c
      · rw [if_neg c]; exact endI_7
    · split
      · rw [up2_row (by omega), enV_7z k (by omega) (by omega)]
      · rw [endI_n (by omega) (by omega), up2_row (by omega), enV_7z k (by omega) (by omega)]
theorem end_all {J Q : Nat → Nat → Int32} {S : SZ} {r : Nat} (hL : RLo J Q S) (h2 : J 3 4 = nI r) (h3 : Q 0 7 = nI r) (hix : IXP Q S) (hV : ∀ v, v < 12 → VTo J Q v) : ∀ k, k ≤ 12 → RLo (epl J k) (enV Q k) S
  | 0, _ => hL
  | k + 1, hk => by
    have ih := end_all hL h2 h3 hix hV k (by omega)
    have e3 : epl J k 3 4 = nI r := by rw [epl_n k (by omega) (by omega)]; exact h2
    have e0 : enV Q k 0 7 = nI r := by rw [enV_n (by omega) k (by omega)]; exact h3
    have ek : epl J k (24 + k) = J (24 + k) := epl_n k (by omega) (by omega)
    have e7 : enV Q k (20 + k) 7 = Q (20 + k) 7 := enV_7 k (Nat.le_refl _) (by omega)
    have e8 : enV Q k (20 + k) 8 = Q (20 + k) 8 := enV_8 (by omega) (by decide) (by decide) k (by omega)
    have hv := hV k (by omega)
    have hi := hix k (by omega)
    unfold epl enV
    generalize epl J k = L at ih e3 ek ⊢
    generalize enV Q k = P at ih e0 e7 e8 ⊢
    rcases hv with ⟨t1, t2, t3, t4⟩ | ⟨t1, t2, t3, t4⟩ | ⟨t1, t2, t3, t4⟩
    · rw [if_pos (e7.trans t1)]
      have e10 : L (24 + k) 10 < 0 := by rw [ek, t4]; decide
      refine RLo_c ih (by rw [up2_row (by omega), enH_17]) (fun b hb => ?_) (fun n => up2_row (by omega))
      rw [up2_row (by omega)]
      unfold enH
      rw [fin_neg e10, up2_row (by omega), up2_row (by omega), up2_row (by omega)]
    · rw [if_neg (by rw [e7, t1]; decide)]
      have hE := end_log (J := L) (Q := up2 P (20 + k) 9 0) (S := S) (v := k) (r := r) (by omega) (RLo_c ih rfl (fun _ _ => rfl) (fun n => up2_row (by omega))) e3 (by rw [up2_row (by omega)]; exact e0) (by rw [up2_n (Or.inr (by decide)), e8, ek]; exact t4) (by rw [up2_n (Or.inr (by decide)), e8]; exact hi (by rw [t1]; decide))
      exact RLo_c hE (by rw [up2_row (by omega)]) (fun b hb => up2_row (by omega)) (fun _ => rfl)
    · rw [if_neg (by rw [e7, t1]; decide)]
      have hE := end_log (J := L) (Q := up2 P (20 + k) 9 0) (S := S) (v := k) (r := r) (by omega) (RLo_c ih rfl (fun _ _ => rfl) (fun n => up2_row (by omega))) e3 (by rw [up2_row (by omega)]; exact e0) (by rw [up2_n (Or.inr (by decide)), e8, ek]; exact t4) (by rw [up2_n (Or.inr (by decide)), e8]; exact hi (by rw [t1]; decide))
      exact RLo_c hE (by rw [up2_row (by omega)]) (fun b hb => up2_row (by omega)) (fun _ => rfl)
