/-! a new reference -/
def I8z : Nat → Nat → Int32 := fun _ _ => 0
def R8z : Nat → Nat → Option Nat := fun _ _ => none
theorem RS8z : RS R8z [] := fun _ _ _ h => absurd h (by simp [R8z])
def S00z : SZ := (0, 0, 0, 0, 0, 0)
def iL (k : Nat) : List Nat := [0, 1, 2, 3, 4, 5, 6] ++ (List.range k).map (fun q => 20 + q)
theorem iL_mem {k i : Nat} : i ∈ iL k ↔ i < 7 ∨ ∃ q, q < k ∧ i = 20 + q := by
  unfold iL
  rw [List.mem_append, List.mem_map]
  constructor
  · rintro (h | ⟨q, h1, h2⟩)
    · simp at h; omega
    · exact Or.inr ⟨q, List.mem_range.mp h1, h2.symm⟩
  · rintro (h | ⟨q, h1, h2⟩)
    · left; simp; omega
    · exact Or.inr ⟨q, List.mem_range.mpr h1, h2.symm⟩
theorem iL_s {k : Nat} : iL k ++ [20 + k] = iL (k + 1) := by
  unfold iL
  rw [List.range_succ, List.map_append, List.append_assoc]
  rfl
def iR (k : Nat) : Nat → Nat → Option Nat := fun a => if a = 4 then (fun b => if b < k then some (20 + b) else none) else if a < 7 then mR S00z a else fun _ => none
theorem iR_n {k a : Nat} (h : a ≠ 4) (h7 : a < 7) : iR k a = mR S00z a := by
  unfold iR
  rw [if_neg h, if_pos h7]
theorem iR_s {k : Nat} : up2 (iR k) 4 k (some (20 + k)) = iR (k + 1) := by
  funext a b
  by_cases h : a = 4
  · subst h
    by_cases hb : b = k
    · subst hb; rw [up2_s]; unfold iR; rw [if_pos rfl, if_pos (Nat.lt_succ_self b)]
    · rw [up2_n (Or.inr hb)]
      unfold iR
      rw [if_pos rfl, if_pos rfl]
      by_cases h2 : b < k
      · rw [if_pos h2, if_pos (by omega)]
      · rw [if_neg h2, if_neg (by omega)]
  · rw [up2_row h]
    unfold iR
    rw [if_neg h, if_neg h]
theorem iR_no {k n : Nat} (hn : 20 + k ≤ n) (h9 : n < 99999) : ∀ i ∈ iL k, ∀ b, iR k i b ≠ some n := fun i hi b e => by
  unfold iR at e
  by_cases h : i = 4
  · rw [if_pos h] at e
    by_cases hb : b < k
    · rw [if_pos hb] at e; injection e with e; omega
    · rw [if_neg hb] at e; cases e
  · rw [if_neg h] at e
    by_cases h7 : i < 7
    · rw [if_pos h7] at e
      have e1 : ∀ j, (if b = 1 then mE j 0 else none) = some n → False := fun j w => by
        by_cases hb : b = 1
        · rw [if_pos hb] at w
          have w2 : some 99999 = some n := w
          injection w2 with w2
          omega
        · rw [if_neg hb] at w; cases w
      rcases (show i = 0 ∨ i = 1 ∨ i = 2 ∨ i = 3 ∨ i = 5 ∨ i = 6 by omega) with rfl | rfl | rfl | rfl | rfl | rfl
      · rcases (show b = 0 ∨ b = 1 ∨ b = 2 ∨ b = 3 ∨ b = 4 ∨ b = 5 ∨ 6 ≤ b by omega) with rfl | rfl | rfl | rfl | rfl | rfl | h6
        · have w : some 1 = some n := e
          injection w with w; omega
        · have w : some 2 = some n := e
          injection w with w; omega
        · have w : some 3 = some n := e
          injection w with w; omega
        · have w : some 4 = some n := e
          injection w with w; omega
        · have w : some 5 = some n := e
          injection w with w; omega
        · have w : some 6 = some n := e
          injection w with w; omega
        · obtain ⟨d, rfl⟩ : ∃ d, b = d + 6 := ⟨b - 6, by omega⟩
          have w : (none : Option Nat) = some n := e
          cases w
      · exact e1 1 e
      · exact e1 2 e
      · exact e1 3 e
      · rw [mR_0 (by decide)] at e; cases e
      · rw [mR_0 (by decide)] at e; cases e
    · rw [if_neg h7] at e; cases e
theorem iR_0 {x1 x2 x3 : Option Nat} (h1 : x1 = some 99999) (h2 : x2 = some 99999) (h3 : x3 = some 99999) : ∀ i ∈ [0, 1, 2, 3, 4, 5, 6], up2 (up2 (up2 (up2 (up2 (up2 (up2 (up2 (up2 R8z 1 1 x1) 0 0 (some 1)) 2 1 x2) 0 1 (some 2)) 3 1 x3) 0 2 (some 3)) 0 3 (some 4)) 0 4 (some 5)) 0 5 (some 6) i = iR 0 i := by
  subst h1; subst h2; subst h3
  intro i hi
  simp only [List.mem_cons, List.not_mem_nil, or_false] at hi
  funext b
  rcases hi with rfl | rfl | rfl | rfl | rfl | rfl | rfl
  · rcases (show b = 0 ∨ b = 1 ∨ b = 2 ∨ b = 3 ∨ b = 4 ∨ b = 5 ∨ 6 ≤ b by omega) with rfl | rfl | rfl | rfl | rfl | rfl | h6
    · rfl
    · rfl
    · rfl
    · rfl
    · rfl
    · rfl
    · obtain ⟨d, rfl⟩ : ∃ d, b = d + 6 := ⟨b - 6, by omega⟩
      have e : iR 0 0 (d + 6) = none := rfl
      rw [e]
      simp [up2, R8z]
  · by_cases hb : b = 1
    · subst hb; rfl
    · have e : iR 0 1 b = if b = 1 then mE 1 0 else none := rfl
      rw [e, if_neg hb]
      simp [up2, R8z, hb]
  · by_cases hb : b = 1
    · subst hb; rfl
    · have e : iR 0 2 b = if b = 1 then mE 2 0 else none := rfl
      rw [e, if_neg hb]
      simp [up2, R8z, hb]
  · by_cases hb : b = 1
    · subst hb; rfl
    · have e : iR 0 3 b = if b = 1 then mE 3 0 else none := rfl
      rw [e, if_neg hb]
      simp [up2, R8z, hb]
  · simp [up2, R8z, iR]
  · simp [up2, R8z, iR, mR]
  · simp [up2, R8z, iR, mR]
def vI8 (J : Nat → Nat → Int32) : Nat → Nat → Nat → Int32
  | 0 => J
  | k + 1 => up2 (up2 (up2 (up2 (upr (vI8 J k) (20 + k) (fun _ => 0)) (20 + k) 2 10) (20 + k) 6 (-1)) (20 + k) 8 (-1)) (20 + k) 3 (nI k)
theorem vI8_n {J : Nat → Nat → Int32} {a : Nat} (h : a < 20) : ∀ k, vI8 J k a = J a
  | 0 => rfl
  | k + 1 => by
    unfold vI8
    rw [up2_row (by omega), up2_row (by omega), up2_row (by omega), up2_row (by omega), upr_n (by omega), vI8_n h k]
theorem vI8_v {J : Nat → Nat → Int32} {v b : Nat} : ∀ k, v < k → vI8 J k (20 + v) b = if b = 3 then nI v else if b = 8 then -1 else if b = 6 then -1 else if b = 2 then 10 else 0
  | 0, h => absurd h (Nat.not_lt_zero v)
  | k + 1, h => by
    by_cases e : v = k
    · subst e
      unfold vI8
      by_cases h3 : b = 3
      · subst h3; rw [up2_s, if_pos rfl]
      · rw [up2_n (Or.inr h3), if_neg h3]
        by_cases h8 : b = 8
        · subst h8; rw [up2_s, if_pos rfl]
        · rw [up2_n (Or.inr h8), if_neg h8]
          by_cases h6 : b = 6
          · subst h6; rw [up2_s, if_pos rfl]
          · rw [up2_n (Or.inr h6), if_neg h6]
            by_cases h2 : b = 2
            · subst h2; rw [up2_s, if_pos rfl]
            · rw [up2_n (Or.inr h2), if_neg h2, upr_s]
    · unfold vI8
      rw [up2_row (by omega), up2_row (by omega), up2_row (by omega), up2_row (by omega), upr_n (by omega), vI8_v k (by omega)]
/-- what a new reference holds -/
def IN8 (J : Nat → Nat → Int32) : Prop := (J 0 6 = -1 ∧ J 0 7 = 0 ∧ J 0 8 = 0 ∧ J 0 9 = 0 ∧ J 0 10 = 0 ∧ J 0 11 = 0 ∧ J 0 12 = 0 ∧ J 0 13 = 400 ∧ J 0 14 = 0 ∧ J 0 15 = 0 ∧ J 0 16 = 0 ∧ J 0 17 = 97) ∧ J 1 2 = 0 ∧ J 2 2 = 0 ∧ J 3 2 = 0 ∧ (J 5 0 = 1 ∧ J 5 1 = 0 ∧ J 5 2 = 100 ∧ J 5 3 = 0) ∧ ∀ v b, v < 12 → J (20 + v) b = if b = 3 then nI v else if b = 8 then -1 else if b = 6 then -1 else if b = 2 then 10 else 0
theorem WS00 : WS S00z := ⟨by decide, by decide, by decide, by decide, by decide, by decide, Or.inl rfl, by decide, by decide⟩
theorem iL_12 {i : Nat} (h : i ∈ mL S00z) : i ∈ iL 12 := by
  have := (mL_mem.mp h).2
  unfold mA S00z at this
  simp only at this
  refine iL_mem.mpr ?_
  rcases (show i < 7 ∨ (20 ≤ i ∧ i < 32) by omega) with q | q
  · exact Or.inl q
  · exact Or.inr ⟨i - 20, by omega, by omega⟩
theorem iR_12 {i : Nat} (h : i ∈ mL S00z) : mR S00z i = iR 12 i := by
  have := (mL_mem.mp h).2
  unfold mA S00z at this
  simp only at this
  rcases (show i = 4 ∨ (i < 7 ∧ i ≠ 4) ∨ (20 ≤ i ∧ i < 32) by omega) with q | q | q
  · subst q; rfl
  · rw [iR_n q.2 q.1]
  · unfold iR
    rw [if_neg (by omega), if_neg (by omega)]
    funext k
    exact mR_0 (by omega) k
theorem iR_v {k n : Nat} (h : 7 ≤ n) : ∀ b, iR k n b = none := fun b => by
  unfold iR
  rw [if_neg (by omega), if_neg (by omega)]
