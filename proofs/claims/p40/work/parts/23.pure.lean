def v5 (I : Nat → Nat → Int32) (k : Nat) : Nat → Nat → Int32 := (up2 (up2 (up2 (up2 (up2 (up2 (up2 (up2 (up2 (up2 (up2 I (24 + k) 0 0) (24 + k) 1 0) (24 + k) 2 10) (24 + k) 4 0) (24 + k) 5 0) (24 + k) 6 0) (24 + k) 7 (-1000)) (24 + k) 8 0) (24 + k) 9 0) (24 + k) 10 (-1)) (24 + k) 3 (nI k))
def viI (I : Nat → Nat → Int32) : Nat → Nat → Nat → Int32
  | 0 => I
  | k + 1 => v5 (viI I k) k
def viR (R : Nat → Nat → Option Nat) : Nat → Nat → Nat → Option Nat
  | 0 => R
  | k + 1 => up2 (viR R k) 16 k (some (24 + k))
def viL (L : List Nat) : Nat → List Nat
  | 0 => L
  | k + 1 => viL L k ++ [24 + k]
def viS (S : List Nat) : Nat → List Nat
  | 0 => S
  | k + 1 => (24 + k) :: viS S k
theorem viL_mem {L : List Nat} {i : Nat} : ∀ k, i ∈ viL L k ↔ i ∈ L ∨ ∃ j, j < k ∧ i = 24 + j
  | 0 => by simp [viL]
  | k + 1 => by
    simp only [viL, List.mem_append, List.mem_singleton, viL_mem k]
    constructor
    · rintro ((h | ⟨j, h1, h2⟩) | h)
      · exact Or.inl h
      · exact Or.inr ⟨j, by omega, h2⟩
      · exact Or.inr ⟨k, by omega, h⟩
    · rintro (h | ⟨j, h1, h2⟩)
      · exact Or.inl (Or.inl h)
      · rcases Nat.lt_or_ge j k with q | q
        · exact Or.inl (Or.inr ⟨j, q, h2⟩)
        · exact Or.inr (by rw [h2]; omega)
theorem viS_mem {L : List Nat} {i : Nat} : ∀ k, i ∈ viS L k ↔ i ∈ L ∨ ∃ j, j < k ∧ i = 24 + j
  | 0 => by simp [viS]
  | k + 1 => by
    simp only [viS, List.mem_cons, viS_mem k]
    constructor
    · rintro (h | h | ⟨j, h1, h2⟩)
      · exact Or.inr ⟨k, by omega, h⟩
      · exact Or.inl h
      · exact Or.inr ⟨j, by omega, h2⟩
    · rintro (h | ⟨j, h1, h2⟩)
      · exact Or.inr (Or.inl h)
      · rcases Nat.lt_or_ge j k with q | q
        · exact Or.inr (Or.inr ⟨j, q, h2⟩)
        · exact Or.inl (by rw [h2]; omega)
theorem v5_n {I : Nat → Nat → Int32} {k a : Nat} (h : a ≠ 24 + k) : v5 I k a = I a := by
  unfold v5; rw [up2_row h, up2_row h, up2_row h, up2_row h, up2_row h, up2_row h, up2_row h, up2_row h, up2_row h, up2_row h, up2_row h]
theorem viI_n {I : Nat → Nat → Int32} {a : Nat} : ∀ k, (∀ j, j < k → a ≠ 24 + j) → viI I k a = I a
  | 0, _ => rfl
  | k + 1, h => by unfold viI; rw [v5_n (h k (Nat.lt_succ_self k)), viI_n k (fun j hj => h j (by omega))]
theorem viR_n {R : Nat → Nat → Option Nat} {a : Nat} (h : a ≠ 16) : ∀ k, viR R k a = R a
  | 0 => rfl
  | k + 1 => by unfold viR; rw [up2_row h, viR_n h k]
theorem viR_S {R : Nat → Nat → Option Nat} {S : List Nat} (h : RS R S) : ∀ k, RS (viR R k) (viS S k)
  | 0 => h
  | k + 1 => RS_up (viR_S h k)
theorem SX_T {X : EN} : SX X (fun _ => True) := by
  obtain ⟨p, l, e, R, s, m, args, below, meth, c, Q, nL, A, H0⟩ := X
  trivial
def I0c : Nat → Nat → Int32 := fun a _ => if a = 99 then -1 else 0
def paR (R : Nat → Nat → Option Nat) : Nat → Nat → Nat → Option Nat
  | 0 => R
  | k + 1 => up2 (up2 (paR R k) (4 + k) 0 (some (8 + k))) 1 k (some (4 + k))
def paL (L : List Nat) : Nat → List Nat
  | 0 => L
  | k + 1 => paL L k ++ [4 + k] ++ [8 + k]
def paS (S : List Nat) : Nat → List Nat
  | 0 => S
  | k + 1 => (4 + k) :: (8 + k) :: paS S k
theorem paL_mem {L : List Nat} {i : Nat} : ∀ k, i ∈ paL L k ↔ i ∈ L ∨ (∃ j, j < k ∧ i = 4 + j) ∨ ∃ j, j < k ∧ i = 8 + j
  | 0 => by simp [paL]
  | k + 1 => by
    simp only [paL, List.mem_append, List.mem_singleton, paL_mem k]
    constructor
    · rintro (((h | ⟨j, h1, h2⟩ | ⟨j, h1, h2⟩) | h) | h)
      · exact Or.inl h
      · exact Or.inr (Or.inl ⟨j, by omega, h2⟩)
      · exact Or.inr (Or.inr ⟨j, by omega, h2⟩)
      · exact Or.inr (Or.inl ⟨k, by omega, h⟩)
      · exact Or.inr (Or.inr ⟨k, by omega, h⟩)
    · rintro (h | ⟨j, h1, h2⟩ | ⟨j, h1, h2⟩)
      · exact Or.inl (Or.inl (Or.inl h))
      · rcases Nat.lt_or_ge j k with q | q
        · exact Or.inl (Or.inl (Or.inr (Or.inl ⟨j, q, h2⟩)))
        · exact Or.inl (Or.inr (by omega))
      · rcases Nat.lt_or_ge j k with q | q
        · exact Or.inl (Or.inl (Or.inr (Or.inr ⟨j, q, h2⟩)))
        · exact Or.inr (by omega)
theorem paS_mem {L : List Nat} {i : Nat} : ∀ k, i ∈ paS L k → i ∈ L ∨ (∃ j, j < k ∧ i = 4 + j) ∨ ∃ j, j < k ∧ i = 8 + j
  | 0, h => Or.inl h
  | k + 1, h => by
    simp only [paS, List.mem_cons] at h
    rcases h with h | h | h
    · exact Or.inr (Or.inl ⟨k, by omega, h⟩)
    · exact Or.inr (Or.inr ⟨k, by omega, h⟩)
    · rcases paS_mem k h with h | ⟨j, h1, h2⟩ | ⟨j, h1, h2⟩
      · exact Or.inl h
      · exact Or.inr (Or.inl ⟨j, by omega, h2⟩)
      · exact Or.inr (Or.inr ⟨j, by omega, h2⟩)
theorem paR_n {R : Nat → Nat → Option Nat} {a : Nat} (h : a ≠ 1) : ∀ k, (∀ j, j < k → a ≠ 4 + j) → paR R k a = R a
  | 0, _ => rfl
  | k + 1, h2 => by unfold paR; rw [up2_row h, up2_row (h2 k (Nat.lt_succ_self k)), paR_n h k (fun j hj => h2 j (by omega))]
theorem paR_S {R : Nat → Nat → Option Nat} {S : List Nat} (h : RS R S) : ∀ k, RS (paR R k) (paS S k)
  | 0 => h
  | k + 1 => by
    have := RS_up (i := 1) (k := k) (x := 4 + k) (RS_up (i := 4 + k) (k := 0) (x := 8 + k) (paR_S h k))
    exact this

