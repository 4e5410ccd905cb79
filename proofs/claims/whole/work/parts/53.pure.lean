/-! what stands on scanning -/
theorem up2_ext {α : Type} {g h : Nat → Nat → α} {a b i : Nat} {x : α} (e : g i = h i) : up2 g a b x i = up2 h a b x i := by
  funext k
  unfold up2
  by_cases q : i = a
  · rw [if_pos q, if_pos q, e]
  · rw [if_neg q, if_neg q, e]
theorem scL_lo {S : SZ} (hS : WS S) {n t : Nat} (hn : n ≤ 804) (h : 9 ≤ t) (h2 : t < 20) : t ∉ scL S n := fun q => by
  have := cap_le hn
  rcases scL_mem.mp q with w | w | ⟨-, w⟩ | ⟨k, w1, w2⟩
  · exact f_lo (by omega) h2 hS w
  · omega
  · omega
  · omega
theorem scA_804' (M : Nat → Nat → Int32) (j : Nat) : (scA M j 200).length ≤ 804 := scA_804 M j (Nat.le_refl _)
def scq (xs : List (Nat × Nat × Nat)) (i k : Nat) : Int32 := if k = 0 then nI (xs.getD i (0, 0, 0)).1 else if k = 1 then nI (xs.getD i (0, 0, 0)).2.1 else if k = 2 then nI (xs.getD i (0, 0, 0)).2.2 else 0
theorem scI_q {M : Nat → Nat → Int32} {xs : List (Nat × Nat × Nat)} {i k : Nat} (h : i < xs.length) : scI M xs (9000 + i) k = scq xs i k := scI_t h
def scC (S : SZ) (M : Nat → Nat → Int32) (v x w : Int32) : Int32 := if isi v 0 (nI S.1 - 1) = 0 then 1 else if ixS 0 w < 0 then 2 else if isi x 0 (nI (scA M v.toNatClampNeg 200).length - 1) = 0 then 3 else 0
def asN (I : Nat → Nat → Int32) (a b : Nat) : Nat → Int32
  | 0 => 1
  | k + 1 => if asN I a b k = 0 then 0 else if I a k = I b k then 1 else 0
theorem asN_up {I : Nat → Nat → Int32} {a b k : Nat} (h : asN I a b k = 0) : ∀ n, asN I a b (k + n) = 0
  | 0 => h
  | n + 1 => by
    show (if asN I a b (k + n) = 0 then (0 : Int32) else _) = 0
    rw [if_pos (asN_up h n)]
theorem asN_01 (I : Nat → Nat → Int32) (a b : Nat) : ∀ k, asN I a b k = 0 ∨ asN I a b k = 1
  | 0 => Or.inr rfl
  | k + 1 => by
    unfold asN
    split
    · exact Or.inl rfl
    · split
      · exact Or.inr rfl
      · exact Or.inl rfl
theorem asN_3 {I : Nat → Nat → Int32} {a b k : Nat} (h : asN I a b k = 0) (hk : k ≤ 3) : asN I a b 3 = 0 := by
  have := asN_up h (3 - k)
  rwa [show k + (3 - k) = 3 by omega] at this
/-- is note n among the first i that were scanned -/
def fnM (M : Nat → Nat → Int32) (xs : List (Nat × Nat × Nat)) (n : Nat) : Nat → Int32
  | 0 => 0
  | i + 1 => fnM M xs n i ||| (if M (7000 + n) 0 = scq xs i 0 then (if M (7000 + n) 1 = scq xs i 1 then (if M (7000 + n) 2 = scq xs i 2 then 1 else 0) else 0) else 0)
def muQ (M : Nat → Nat → Int32) (xs : List (Nat × Nat × Nat)) (q0 : Int32) : Nat → Int32
  | 0 => q0
  | n + 1 => muQ M xs q0 n &&& fnM M xs n xs.length
theorem fnM_01 (M : Nat → Nat → Int32) (xs : List (Nat × Nat × Nat)) (n : Nat) : ∀ i, fnM M xs n i = 0 ∨ fnM M xs n i = 1
  | 0 => Or.inl rfl
  | i + 1 => by
    unfold fnM
    refine or_01 (fnM_01 M xs n i) ?_
    split
    · split
      · split
        · exact Or.inr rfl
        · exact Or.inl rfl
      · exact Or.inl rfl
    · exact Or.inl rfl
theorem and_01 {x y : Int32} (hx : x = 0 ∨ x = 1) (hy : y = 0 ∨ y = 1) : x &&& y = 0 ∨ x &&& y = 1 := by
  rcases hx with rfl | rfl <;> rcases hy with rfl | rfl <;> decide
theorem muQ_01 {M : Nat → Nat → Int32} {xs : List (Nat × Nat × Nat)} {q0 : Int32} (h : q0 = 0 ∨ q0 = 1) : ∀ n, muQ M xs q0 n = 0 ∨ muQ M xs q0 n = 1
  | 0 => h
  | n + 1 => and_01 (muQ_01 h n) (fnM_01 M xs n _)
theorem asN_v {I M : Nat → Nat → Int32} {xs : List (Nat × Nat × Nat)} {n i : Nat} (h1 : ∀ k, I (7000 + n) k = M (7000 + n) k) (h2 : ∀ k, I (9000 + i) k = scq xs i k) : asN I (7000 + n) (9000 + i) 3 = if M (7000 + n) 0 = scq xs i 0 then (if M (7000 + n) 1 = scq xs i 1 then (if M (7000 + n) 2 = scq xs i 2 then 1 else 0) else 0) else 0 := by
  unfold asN asN asN asN
  rw [h1, h1, h1, h2, h2, h2]
  by_cases q0 : M (7000 + n) 0 = scq xs i 0
  · by_cases q1 : M (7000 + n) 1 = scq xs i 1
    · by_cases q2 : M (7000 + n) 2 = scq xs i 2 <;> simp [q0, q1, q2]
    · simp [q0, q1]
  · simp [q0]
def q0M (S : SZ) (xs : List (Nat × Nat × Nat)) : Int32 := if xs.length = S.2.1 then 1 else 0
theorem q0M_01 (S : SZ) (xs : List (Nat × Nat × Nat)) : q0M S xs = 0 ∨ q0M S xs = 1 := by
  unfold q0M
  split
  · exact Or.inr rfl
  · exact Or.inl rfl
