def v5 (I : Nat → Nat → Int32) (k : Nat) : Nat → Nat → Int32 := (up2 (up2 (up2 (up2 (up2 (up2 (up2 (up2 (up2 (up2 (up2 I (24 + k) 0 0) (24 + k) 1 0) (24 + k) 2 10) (24 + k) 4 0) (24 + k) 5 0) (24 + k) 6 0) (24 + k) 7 (-1000)) (24 + k) 8 0) (24 + k) 9 0) (24 + k) 10 (-1)) (24 + k) 3 (nI k))
def viI (I : Nat → Nat → Int32) : Nat → Nat → Nat → Int32
  | 0 => I
  | k + 1 => v5 (viI I k) k
def viR (R : Nat → Nat → Option Nat) : Nat → Nat → Nat → Option Nat
  | 0 => R
  | k + 1 => up2 (viR R k) 16 k (some (24 + k))
def viL (L : List Nat) : Nat → List Nat
  | 0 => L
  | k + 1 => viL L k ++ [24 + k]
def viS (S : List Nat) : Nat → List Nat
  | 0 => S
  | k + 1 => (24 + k) :: viS S k
theorem viL_mem {L : List Nat} {i : Nat} : ∀ k, i ∈ viL L k ↔ i ∈ L ∨ ∃ j, j < k ∧ i = 24 + j
  | 0 => by simp [viL]
  | k + 1 => by
    simp only [viL, List.mem_append, List.mem_singleton, viL_mem k]
    constructor
    · rintro ((h | ⟨j, h1, h2⟩) | h)
      · exact Or.inl h
      · exact Or.inr ⟨j, by omega, h2⟩
      · exact Or.inr ⟨k, by omega, h⟩
    · rintro (h | ⟨j, h1, h2⟩)
      · exact Or.inl (Or.inl h)
      · rcases Nat.lt_or_ge j k with q | q
        · exact Or.inl (Or.inr ⟨j, q, h2⟩)
        · exact Or.inr (by rw [h2]; omega)
theorem viS_mem {L : List Nat} {i : Nat} : ∀ k, i ∈ viS L k ↔ i ∈ L ∨ ∃ j, j < k ∧ i = 24 + j
  | 0 => by simp [viS]
  | k + 1 => by
    simp only [viS, List.mem_cons, viS_mem k]
    constructor
    · rintro (h | h | ⟨j, h1, h2⟩)
      · exact Or.inr ⟨k, by omega, h⟩
      · exact Or.inl h
      · exact Or.inr ⟨j, by omega, h2⟩
    · rintro (h | ⟨j, h1, h2⟩)
      · exact Or.inr (Or.inl h)
      · rcases Nat.lt_or_ge j k with q | q
        · exact Or.inr (Or.inr ⟨j, q, h2⟩)
        · exact Or.inl (by rw [h2]; omega)
theorem v5_n {I : Nat → Nat → Int32} {k a : Nat} (h : a ≠ 24 + k) : v5 I k a = I a := by
  unfold v5; rw [up2_row h, up2_row h, up2_row h, up2_row h, up2_row h, up2_row h, up2_row h, up2_row h, up2_row h, up2_row h, up2_row h]
theorem viI_n {I : Nat → Nat → Int32} {a : Nat} : ∀ k, (∀ j, j < k → a ≠ 24 + j) → viI I k a = I a
  | 0, _ => rfl
  | k + 1, h => by unfold viI; rw [v5_n (h k (Nat.lt_succ_self k)), viI_n k (fun j hj => h j (by omega))]
theorem viR_n {R : Nat → Nat → Option Nat} {a : Nat} (h : a ≠ 16) : ∀ k, viR R k a = R a
  | 0 => rfl
  | k + 1 => by unfold viR; rw [up2_row h, viR_n h k]
theorem viR_S {R : Nat → Nat → Option Nat} {S : List Nat} (h : RS R S) : ∀ k, RS (viR R k) (viS S k)
  | 0 => h
  | k + 1 => RS_up (viR_S h k)
theorem SX_T {X : EN} : SX X (fun _ => True) := by
  obtain ⟨p, l, e, R, s, m, args, below, meth, c, Q, nL, A, H0⟩ := X
  trivial
