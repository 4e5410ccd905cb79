def I8c : Nat → Nat → Int32 := viI (up2 (up2 (up2 (up2 (up2 (up2 (up2 (up2 (up2 (up2 (up2 (up2 (up2 (up2 (up2 (up2 I0c 2 3 0) 15 0 1) 15 1 0) 15 2 100) 15 3 0) 15 4 97) 17 6 0) 3 4 0) 3 5 1000) 3 6 3) 3 7 0) 3 8 0) 3 9 0) 3 10 0) 3 11 0) 3 12 0) 12
def R8c : Nat → Nat → Option Nat := viR (up2 (up2 (up2 (up2 (up2 (up2 (up2 (up2 (up2 (up2 (up2 (up2 (up2 (up2 (up2 (fun _ _ => none) 0 0 (some 1)) 2 0 (some 12)) 2 1 (some 13)) 2 2 (some 14)) 0 1 (some 2)) 3 0 (some 15)) 3 1 (some 16)) 17 0 (some 18)) 17 1 (some 19)) 17 2 (some 20)) 17 3 (some 21)) 17 4 (some 22)) 17 5 (some 23)) 3 2 (some 17)) 3 3 none) 12
def L8c : List Nat := viL ((((((((((((((([0] ++ [1]) ++ [2]) ++ [12]) ++ [13]) ++ [14]) ++ [3]) ++ [15]) ++ [16]) ++ [17]) ++ [18]) ++ [19]) ++ [20]) ++ [21]) ++ [22]) ++ [23]) 12
def I9f (I8 : Nat → Nat → Int32) : Nat → Nat → Int32 := up2 (up2 (up2 (up2 I8 0 6 0) 0 7 (-1)) 0 8 400) 0 9 0
def R9f (R8 : Nat → Nat → Option Nat) : Nat → Nat → Option Nat := up2 (up2 (up2 (up2 R8 0 2 (some 3)) 0 3 (some 15)) 0 4 (some 16)) 0 5 (some 17)
theorem viI_v {I : Nat → Nat → Int32} {v b : Nat} : ∀ k, v < k → viI I k (24 + v) b = v5 (viI I v) v (24 + v) b
  | 0, h => absurd h (Nat.not_lt_zero v)
  | k + 1, h => by
    rcases Nat.lt_or_ge v k with q | q
    · show v5 (viI I k) k (24 + v) b = _
      rw [v5_n (by omega), viI_v k q]
    · have : v = k := by omega
      subst this; rfl
def INI (J : Nat → Nat → Int32) : Prop := J 99 0 = -1 ∧ (J 0 6 = 0 ∧ J 0 7 = -1 ∧ J 0 8 = 400 ∧ J 0 9 = 0) ∧ J 2 3 = 0 ∧ (J 15 0 = 1 ∧ J 15 1 = 0 ∧ J 15 2 = 100 ∧ J 15 3 = 0 ∧ J 15 4 = 97) ∧ J 17 6 = 0 ∧ (J 3 4 = 0 ∧ J 3 5 = 1000 ∧ J 3 6 = 3 ∧ J 3 7 = 0 ∧ J 3 8 = 0 ∧ J 3 9 = 0 ∧ J 3 10 = 0 ∧ J 3 11 = 0 ∧ J 3 12 = 0) ∧ (∀ i, i < 4 → ∀ r, J (8 + i) r = 0) ∧ ∀ v, v < 12 → J (24 + v) 0 = 0 ∧ J (24 + v) 1 = 0 ∧ J (24 + v) 2 = 10 ∧ J (24 + v) 3 = nI v ∧ J (24 + v) 4 = 0 ∧ J (24 + v) 5 = 0 ∧ J (24 + v) 6 = 0 ∧ J (24 + v) 7 = -1000 ∧ J (24 + v) 8 = 0 ∧ J (24 + v) 9 = 0 ∧ J (24 + v) 10 = -1
theorem I8c_n {a b : Nat} (h : a < 24 ∨ 36 ≤ a) : I8c a b = up2 (up2 (up2 (up2 (up2 (up2 (up2 (up2 (up2 (up2 (up2 (up2 (up2 (up2 (up2 (up2 I0c 2 3 0) 15 0 1) 15 1 0) 15 2 100) 15 3 0) 15 4 97) 17 6 0) 3 4 0) 3 5 1000) 3 6 3) 3 7 0) 3 8 0) 3 9 0) 3 10 0) 3 11 0) 3 12 0 a b := by
  unfold I8c; rw [viI_n 12 (fun j hj => by omega)]
theorem i0_all {I9 I8 : Nat → Nat → Int32} (h9 : I9 = up2 (up2 (up2 (up2 I8 0 6 0) 0 7 (-1)) 0 8 400) 0 9 0) (h8 : I8 = I8c) {n b : Nat} (h : 4 ≤ n ∧ n < 12) : I9 n b = 0 := by
  subst h9; subst h8
  rw [up2_row (by omega), up2_row (by omega), up2_row (by omega), up2_row (by omega), I8c_n (by omega)]
  repeat rw [up2_row (by omega)]
  exact if_neg (by omega)
theorem i99_all {I8 : Nat → Nat → Int32} (h8 : I8 = I8c) : up2 (up2 (up2 (up2 I8 0 6 0) 0 7 (-1)) 0 8 400) 0 9 0 99 0 = -1 := by
  subst h8
  rw [up2_row (by omega), up2_row (by omega), up2_row (by omega), up2_row (by omega), I8c_n (by omega)]
  repeat rw [up2_row (by omega)]
  exact if_pos rfl
theorem r0_all {R8 : Nat → Nat → Option Nat} (h8 : R8 = R8c) {n b : Nat} (h : 4 ≤ n ∧ n < 12) : up2 (up2 (up2 (up2 R8 0 2 (some 3)) 0 3 (some 15)) 0 4 (some 16)) 0 5 (some 17) n b = none := by
  subst h8
  rw [up2_row (by omega), up2_row (by omega), up2_row (by omega), up2_row (by omega)]
  unfold R8c
  rw [viR_n (by omega)]
  repeat rw [up2_row (by omega)]
theorem cl_all {L8 : List Nat} (h8 : L8 = L8c) {i : Nat} (h : i < 36) : i ∈ L8 ∨ (∃ j, j < 4 ∧ i = 4 + j) ∨ ∃ j, j < 4 ∧ i = 8 + j := by
  subst h8
  rcases (show (4 ≤ i ∧ i < 8) ∨ (8 ≤ i ∧ i < 12) ∨ 24 ≤ i ∨ i = 0 ∨ i = 1 ∨ i = 2 ∨ i = 3 ∨ i = 12 ∨ i = 13 ∨ i = 14 ∨ i = 15 ∨ i = 16 ∨ i = 17 ∨ i = 18 ∨ i = 19 ∨ i = 20 ∨ i = 21 ∨ i = 22 ∨ i = 23 by omega) with h1 | h1 | h1 | h1
  · exact Or.inr (Or.inl ⟨i - 4, by omega, by omega⟩)
  · exact Or.inr (Or.inr ⟨i - 8, by omega, by omega⟩)
  · exact Or.inl ((viL_mem 12).mpr (Or.inr ⟨i - 24, by omega, by omega⟩))
  · refine Or.inl ((viL_mem 12).mpr (Or.inl ?_))
    simp
    omega
theorem paR_1 {R : Nat → Nat → Option Nat} (h : ∀ b, R 1 b = none) : ∀ k b, k ≤ 4 → paR R k 1 b = if b < k then some (4 + b) else none
  | 0, b, _ => by rw [if_neg (Nat.not_lt_zero b)]; exact h b
  | k + 1, b, hk => by
    unfold paR
    by_cases hb : b = k
    · subst hb; rw [up2_s, if_pos (Nat.lt_succ_self b)]
    · rw [up2_n (Or.inr hb), up2_row (by omega), paR_1 h k b (by omega)]
      by_cases h2 : b < k
      · rw [if_pos h2, if_pos (by omega)]
      · rw [if_neg h2, if_neg (by omega)]
theorem paR_4 {R : Nat → Nat → Option Nat} {j : Nat} (h : ∀ b, R (4 + j) b = none) : ∀ k b, k ≤ 4 → j < k → paR R k (4 + j) b = if b = 0 then some (8 + j) else none
  | 0, b, _, hj => absurd hj (Nat.not_lt_zero j)
  | k + 1, b, hk, hj => by
    unfold paR
    rw [up2_row (by omega)]
    rcases Nat.lt_or_ge j k with q | q
    · rw [up2_row (by omega), paR_4 h k b (by omega) q]
    · have : j = k := by omega
      subst this
      by_cases hb : b = 0
      · subst hb; rw [up2_s, if_pos rfl]
      · rw [up2_n (Or.inr hb), if_neg hb, paR_n (by omega) j (fun j2 hj2 => by omega), h b]
theorem viR_16 {R : Nat → Nat → Option Nat} (h : ∀ b, R 16 b = none) : ∀ k b, viR R k 16 b = if b < k then some (24 + b) else none
  | 0, b => by rw [if_neg (Nat.not_lt_zero b)]; exact h b
  | k + 1, b => by
    unfold viR
    by_cases hb : b = k
    · subst hb; rw [up2_s, if_pos (Nat.lt_succ_self b)]
    · rw [up2_n (Or.inr hb), viR_16 h k b]
      by_cases h2 : b < k
      · rw [if_pos h2, if_pos (by omega)]
      · rw [if_neg h2, if_neg (by omega)]
theorem cr_all {R9 R8 : Nat → Nat → Option Nat} {I9 : Nat → Nat → Int32} (h9 : R9 = up2 (up2 (up2 (up2 R8 0 2 (some 3)) 0 3 (some 15)) 0 4 (some 16)) 0 5 (some 17)) (h8 : R8 = R8c) (h99 : I9 99 0 = -1) {i : Nat} (hi : i < 36) : paR R9 4 i = cR I9 i := by
  have hP : cP I9 = none := by unfold cP; rw [h99]; rfl
  funext b
  by_cases h1 : i = 1
  · subst h1
    rw [paR_1 (fun b => by subst h9; subst h8; unfold R8c; (repeat rw [up2_row (by omega)]); rw [viR_n (by decide)]; (repeat rw [up2_row (by omega)])) 4 b (Nat.le_refl 4)]
    rfl
  · by_cases h4 : 4 ≤ i ∧ i < 8
    · obtain ⟨j, rfl⟩ : ∃ j, i = 4 + j := ⟨i - 4, by omega⟩
      rw [paR_4 (fun b => by rw [h9]; exact r0_all h8 (by omega)) 4 b (Nat.le_refl 4) (by omega)]
      unfold cR
      simp only [show ¬ 4 + j = 0 by omega, show ¬ 4 + j = 1 by omega, show ¬ 4 + j = 2 by omega, show ¬ 4 + j = 3 by omega, h4, and_self, if_true, if_false]
      by_cases hb : b = 0
      · rw [if_pos hb, if_pos hb]; congr 1; omega
      · rw [if_neg hb, if_neg hb]
    · rw [paR_n h1 4 (fun j hj => by omega), h9, h8]
      by_cases h0 : i = 0
      · subst h0
        show _ = [some 1, some 2, some 3, some 15, some 16, some 17].getD b none
        rcases (show b = 0 ∨ b = 1 ∨ b = 2 ∨ b = 3 ∨ b = 4 ∨ b = 5 ∨ 6 ≤ b by omega) with rfl | rfl | rfl | rfl | rfl | rfl | h6
        · simp [up2, R8c, viR_n]
        · simp [up2, R8c, viR_n]
        · simp [up2]
        · simp [up2]
        · simp [up2]
        · simp [up2]
        · obtain ⟨d, rfl⟩ : ∃ d, b = d + 6 := ⟨b - 6, by omega⟩
          simp [up2, R8c, viR_n]
      · (repeat rw [up2_row h0])
        unfold R8c
        by_cases h16 : i = 16
        · subst h16
          rw [viR_16 (fun b => by repeat rw [up2_row (by omega)])]
          rfl
        · rw [viR_n h16]
          by_cases h2 : i = 2
          · subst h2
            show _ = [some 12, some 13, some 14].getD b none
            rcases (show b = 0 ∨ b = 1 ∨ b = 2 ∨ 3 ≤ b by omega) with rfl | rfl | rfl | h6
            · simp [up2]
            · simp [up2]
            · simp [up2]
            · obtain ⟨d, rfl⟩ : ∃ d, b = d + 3 := ⟨b - 3, by omega⟩
              simp [up2]
          · by_cases h3 : i = 3
            · subst h3
              show _ = [some 15, some 16, some 17, cP I9].getD b none
              rw [hP]
              rcases (show b = 0 ∨ b = 1 ∨ b = 2 ∨ b = 3 ∨ 4 ≤ b by omega) with rfl | rfl | rfl | rfl | h6
              · simp [up2]
              · simp [up2]
              · simp [up2]
              · simp [up2]
              · obtain ⟨d, rfl⟩ : ∃ d, b = d + 4 := ⟨b - 4, by omega⟩
                simp [up2]
            · by_cases h17 : i = 17
              · subst h17
                show _ = [some 18, some 19, some 20, some 21, some 22, some 23].getD b none
                rcases (show b = 0 ∨ b = 1 ∨ b = 2 ∨ b = 3 ∨ b = 4 ∨ b = 5 ∨ 6 ≤ b by omega) with rfl | rfl | rfl | rfl | rfl | rfl | h6
                · simp [up2]
                · simp [up2]
                · simp [up2]
                · simp [up2]
                · simp [up2]
                · simp [up2]
                · obtain ⟨d, rfl⟩ : ∃ d, b = d + 6 := ⟨b - 6, by omega⟩
                  simp [up2]
              · (repeat rw [up2_row (by omega)])
                unfold cR
                simp only [h0, h1, h2, h3, h4, h16, h17, if_false]
theorem ini_all {I9 I8 : Nat → Nat → Int32} (h9 : I9 = up2 (up2 (up2 (up2 I8 0 6 0) 0 7 (-1)) 0 8 400) 0 9 0) (h8 : I8 = I8c) : INI I9 := by
  have hv : ∀ v b, v < 12 → I9 (24 + v) b = v5 (viI (up2 (up2 (up2 (up2 (up2 (up2 (up2 (up2 (up2 (up2 (up2 (up2 (up2 (up2 (up2 (up2 I0c 2 3 0) 15 0 1) 15 1 0) 15 2 100) 15 3 0) 15 4 97) 17 6 0) 3 4 0) 3 5 1000) 3 6 3) 3 7 0) 3 8 0) 3 9 0) 3 10 0) 3 11 0) 3 12 0) v) v (24 + v) b := by
    intro v b hv
    subst h9; subst h8
    rw [up2_row (by omega), up2_row (by omega), up2_row (by omega), up2_row (by omega)]
    exact viI_v 12 hv
  have e : ∀ a b, (0 < a ∧ a < 24) → I9 a b = up2 (up2 (up2 (up2 (up2 (up2 (up2 (up2 (up2 (up2 (up2 (up2 (up2 (up2 (up2 (up2 I0c 2 3 0) 15 0 1) 15 1 0) 15 2 100) 15 3 0) 15 4 97) 17 6 0) 3 4 0) 3 5 1000) 3 6 3) 3 7 0) 3 8 0) 3 9 0) 3 10 0) 3 11 0) 3 12 0 a b := by
    intro a b h
    subst h9; subst h8
    rw [up2_row (by omega), up2_row (by omega), up2_row (by omega), up2_row (by omega), I8c_n (by omega)]
  refine ⟨by rw [h9]; exact i99_all h8, ⟨by rw [h9]; simp [up2], by rw [h9]; simp [up2], by rw [h9]; simp [up2], by rw [h9]; simp [up2]⟩, by rw [e _ _ (by decide)]; simp [up2], ⟨by rw [e _ _ (by decide)]; simp [up2], by rw [e _ _ (by decide)]; simp [up2], by rw [e _ _ (by decide)]; simp [up2], by rw [e _ _ (by decide)]; simp [up2], by rw [e _ _ (by decide)]; simp [up2]⟩, by rw [e _ _ (by decide)]; simp [up2], ⟨by rw [e _ _ (by decide)]; simp [up2], by rw [e _ _ (by decide)]; simp [up2], by rw [e _ _ (by decide)]; simp [up2], by rw [e _ _ (by decide)]; simp [up2], by rw [e _ _ (by decide)]; simp [up2], by rw [e _ _ (by decide)]; simp [up2], by rw [e _ _ (by decide)]; simp [up2], by rw [e _ _ (by decide)]; simp [up2], by rw [e _ _ (by decide)]; simp [up2]⟩, fun i hi r => i0_all h9 h8 (by omega), fun v hv12 => ?_⟩
  refine ⟨?_, ?_, ?_, ?_, ?_, ?_, ?_, ?_, ?_, ?_, ?_⟩ <;> (rw [hv _ _ hv12]; simp [v5, up2])

