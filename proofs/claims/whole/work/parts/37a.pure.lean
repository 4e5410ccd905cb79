def isi (v a b : Int32) : Int32 := if v < a then 0 else if b < v then 0 else 1
theorem nz_isi (v a b : Int32) : narrow .boolean (.int (isi v a b)) = .int (isi v a b) := by
  unfold isi
  by_cases h : v < a
  · rw [if_pos h]; rfl
  · rw [if_neg h]
    by_cases h2 : b < v
    · rw [if_pos h2]; rfl
    · rw [if_neg h2]; rfl
/-- the length of a roll, row by row, track by track -/
def lenR (M : Nat → Nat → Int32) (j r q : Nat) : Nat → Nat
  | 0 => q
  | t + 1 => if M (6000 + 200 * j + r) t = 0 then lenR M j r q t else r + 1
def lenM (M : Nat → Nat → Int32) (j : Nat) : Nat → Nat
  | 0 => 0
  | r + 1 => lenR M j r (lenM M j r) 16
def bM (M : Nat → Nat → Int32) (j r t : Nat) : Int32 := M (6000 + 200 * j + r) t
theorem hdF_size : (⟨"java/util/List", "size", "()I"⟩ : MethodName).cls ≠ "java/lang/invoke/MethodHandle" ∧ (⟨"java/util/List", "size", "()I"⟩ : MethodName).cls ≠ "java/lang/invoke/VarHandle" ∧ (parseMethodDescriptor (⟨"java/util/List", "size", "()I"⟩ : MethodName).desc).map (fun d => d.parameters.length) = some 0 := by decide +kernel
theorem hdF_add : (⟨"java/util/List", "add", "(Ljava/lang/Object;)Z"⟩ : MethodName).cls ≠ "java/lang/invoke/MethodHandle" ∧ (⟨"java/util/List", "add", "(Ljava/lang/Object;)Z"⟩ : MethodName).cls ≠ "java/lang/invoke/VarHandle" ∧ (parseMethodDescriptor (⟨"java/util/List", "add", "(Ljava/lang/Object;)Z"⟩ : MethodName).desc).map (fun d => d.parameters.length) = some 1 := by decide +kernel
theorem hdF_get : (⟨"java/util/List", "get", "(I)Ljava/lang/Object;"⟩ : MethodName).cls ≠ "java/lang/invoke/MethodHandle" ∧ (⟨"java/util/List", "get", "(I)Ljava/lang/Object;"⟩ : MethodName).cls ≠ "java/lang/invoke/VarHandle" ∧ (parseMethodDescriptor (⟨"java/util/List", "get", "(I)Ljava/lang/Object;"⟩ : MethodName).desc).map (fun d => d.parameters.length) = some 1 := by decide +kernel
theorem hdF_iterator : (⟨"java/util/List", "iterator", "()Ljava/util/Iterator;"⟩ : MethodName).cls ≠ "java/lang/invoke/MethodHandle" ∧ (⟨"java/util/List", "iterator", "()Ljava/util/Iterator;"⟩ : MethodName).cls ≠ "java/lang/invoke/VarHandle" ∧ (parseMethodDescriptor (⟨"java/util/List", "iterator", "()Ljava/util/Iterator;"⟩ : MethodName).desc).map (fun d => d.parameters.length) = some 0 := by decide +kernel
theorem hdF_clear : (⟨"java/util/List", "clear", "()V"⟩ : MethodName).cls ≠ "java/lang/invoke/MethodHandle" ∧ (⟨"java/util/List", "clear", "()V"⟩ : MethodName).cls ≠ "java/lang/invoke/VarHandle" ∧ (parseMethodDescriptor (⟨"java/util/List", "clear", "()V"⟩ : MethodName).desc).map (fun d => d.parameters.length) = some 0 := by decide +kernel
theorem hdF_isEmpty : (⟨"java/util/List", "isEmpty", "()Z"⟩ : MethodName).cls ≠ "java/lang/invoke/MethodHandle" ∧ (⟨"java/util/List", "isEmpty", "()Z"⟩ : MethodName).cls ≠ "java/lang/invoke/VarHandle" ∧ (parseMethodDescriptor (⟨"java/util/List", "isEmpty", "()Z"⟩ : MethodName).desc).map (fun d => d.parameters.length) = some 0 := by decide +kernel
theorem hdF_hasNext : (⟨"java/util/Iterator", "hasNext", "()Z"⟩ : MethodName).cls ≠ "java/lang/invoke/MethodHandle" ∧ (⟨"java/util/Iterator", "hasNext", "()Z"⟩ : MethodName).cls ≠ "java/lang/invoke/VarHandle" ∧ (parseMethodDescriptor (⟨"java/util/Iterator", "hasNext", "()Z"⟩ : MethodName).desc).map (fun d => d.parameters.length) = some 0 := by decide +kernel
theorem hdF_next : (⟨"java/util/Iterator", "next", "()Ljava/lang/Object;"⟩ : MethodName).cls ≠ "java/lang/invoke/MethodHandle" ∧ (⟨"java/util/Iterator", "next", "()Ljava/lang/Object;"⟩ : MethodName).cls ≠ "java/lang/invoke/VarHandle" ∧ (parseMethodDescriptor (⟨"java/util/Iterator", "next", "()Ljava/lang/Object;"⟩ : MethodName).desc).map (fun d => d.parameters.length) = some 0 := by decide +kernel
def hoM (M : Nat → Nat → Int32) (j t : Nat) : Nat → Nat
  | 0 => 0
  | r + 1 => if M (6000 + 200 * j + r) t = 0 then hoM M j t r else hoM M j t r + 1
def apR (M : Nat → Nat → Int32) (i j r q : Nat) : Nat → Nat
  | 0 => q
  | t + 1 => if M (6000 + 200 * i + r) t = M (6000 + 200 * j + r) t then apR M i j r q t else apR M i j r q t + 1
def apM (M : Nat → Nat → Int32) (i j : Nat) : Nat → Nat
  | 0 => 0
  | r + 1 => apR M i j r (apM M i j r) 16
theorem apR_le (M : Nat → Nat → Int32) (i j r q : Nat) : ∀ t, apR M i j r q t ≤ q + t
  | 0 => Nat.le_refl _
  | t + 1 => by
    have := apR_le M i j r q t
    unfold apR
    by_cases h : M (6000 + 200 * i + r) t = M (6000 + 200 * j + r) t
    · rw [if_pos h]; omega
    · rw [if_neg h]; omega
theorem z10 {p : Prop} [Decidable p] (h : (if p then (1 : Int32) else 0) = 0) : ¬ p := fun q => by rw [if_pos q] at h; exact absurd h (by decide)
theorem z11 {p : Prop} [Decidable p] (h : ¬ (if p then (1 : Int32) else 0) = 0) : p := Decidable.byContradiction fun q => h (if_neg q)
theorem up2_ss {α : Type} {g : Nat → Nat → α} {i k : Nat} {x y : α} : up2 (up2 g i k x) i k y = up2 g i k y := by
  funext a b
  unfold up2
  by_cases h : a = i
  · by_cases h2 : b = k
    · simp only [h, h2, if_true]
    · simp only [h, h2, if_true, if_false]
  · simp only [h, if_false]
def hoC (S : SZ) (v r t : Int32) : Int32 := if isi v 0 (nI S.1 - 1) = 0 then 1 else if isi r 0 199 = 0 then 2 else if isi t 0 15 = 0 then 2 else 0
theorem isi_wi {v a b : Int32} : isi v a b = wi v a b := by
  unfold isi wi
  by_cases h : v < a
  · rw [if_pos h, if_pos h]
  · rw [if_neg h, if_neg h]
    by_cases h2 : b < v
    · rw [if_pos h2, if_neg (fun q => absurd (Int32.lt_iff_toInt_lt.mp h2) (Int.not_lt.mpr (Int32.le_iff_toInt_le.mp q)))]
    · rw [if_neg h2, if_pos (Int32.le_iff_toInt_le.mpr (Int.not_lt.mp (fun q => h2 (Int32.lt_iff_toInt_lt.mpr q))))]
theorem isi_01 {v a b : Int32} (h : ¬ isi v a b = 0) : isi v a b = 1 := by
  unfold isi at h ⊢
  by_cases h1 : v < a
  · rw [if_pos h1] at h; exact absurd rfl h
  · rw [if_neg h1] at h ⊢
    by_cases h2 : b < v
    · rw [if_pos h2] at h; exact absurd rfl h
    · rw [if_neg h2]
theorem isi_k {v b : Int32} {n : Nat} (h : ¬ isi v 0 b = 0) (hb : b = nI n) (hn : n < 2 ^ 31) : ∃ m, m ≤ n ∧ v = nI m := wi_nat (isi_wi ▸ isi_01 h) (by decide) hb hn
theorem isi_n {v : Int32} {n : Nat} (h : ¬ isi v 0 (nI n - 1) = 0) (hn : n < 100000) : ∃ m, m < n ∧ v = nI m := by
  cases n with
  | zero =>
    refine absurd ?_ h
    unfold isi
    by_cases h1 : v < 0
    · rw [if_pos h1]
    · rw [if_neg h1]
      refine if_pos ?_
      rw [Int32.lt_iff_toInt_lt] at h1 ⊢
      rw [show (nI 0 - 1 : Int32) = -1 by decide, show (-1 : Int32).toInt = -1 by decide]
      rw [show (0 : Int32).toInt = 0 by decide] at h1
      omega
  | succ n =>
    have e : nI (n + 1) - 1 = nI n := by
      have k := pk_sub (a := n + 1) (b := 1) (by omega)
      rw [Nat.add_sub_cancel] at k
      exact k
    obtain ⟨m, hm, e2⟩ := isi_k h e (by omega)
    exact ⟨m, by omega, e2⟩
theorem z01 {p : Prop} [Decidable p] (h : (if p then (0 : Int32) else 1) = 0) : p := Decidable.byContradiction fun q => by rw [if_neg q] at h; exact absurd h (by decide)
theorem z00 {p : Prop} [Decidable p] (h : ¬ (if p then (0 : Int32) else 1) = 0) : ¬ p := fun q => h (if_pos q)
theorem hoC_0 {S : SZ} (hS : WS S) {v r t : Int32} (h : hoC S v r t = 0) : ∃ j i k, j < S.1 ∧ i < 200 ∧ k < 16 ∧ v = nI j ∧ r = nI i ∧ t = nI k := by
  unfold hoC at h
  by_cases h1 : isi v 0 (nI S.1 - 1) = 0
  · rw [if_pos h1] at h; exact absurd h (by decide)
  · rw [if_neg h1] at h
    by_cases h2 : isi r 0 199 = 0
    · rw [if_pos h2] at h; exact absurd h (by decide)
    · rw [if_neg h2] at h
      by_cases h3 : isi t 0 15 = 0
      · rw [if_pos h3] at h; exact absurd h (by decide)
      · obtain ⟨j, hj, rfl⟩ := isi_n h1 (by have := hS.1; omega)
        obtain ⟨i, hi, rfl⟩ := isi_k (n := 199) h2 (by decide) (by decide)
        obtain ⟨k, hk, rfl⟩ := isi_k (n := 15) h3 (by decide) (by decide)
        exact ⟨j, i, k, hj, by omega, by omega, rfl, rfl, rfl⟩
