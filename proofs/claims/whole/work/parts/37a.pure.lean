def isi (v a b : Int32) : Int32 := if v < a then 0 else if b < v then 0 else 1
theorem nz_isi (v a b : Int32) : narrow .boolean (.int (isi v a b)) = .int (isi v a b) := by
  unfold isi
  by_cases h : v < a
  · rw [if_pos h]; rfl
  · rw [if_neg h]
    by_cases h2 : b < v
    · rw [if_pos h2]; rfl
    · rw [if_neg h2]; rfl
/-- the length of a roll, row by row, track by track -/
def lenR (M : Nat → Nat → Int32) (j r q : Nat) : Nat → Nat
  | 0 => q
  | t + 1 => if M (6000 + 200 * j + r) t = 0 then lenR M j r q t else r + 1
def lenM (M : Nat → Nat → Int32) (j : Nat) : Nat → Nat
  | 0 => 0
  | r + 1 => lenR M j r (lenM M j r) 16
def bM (M : Nat → Nat → Int32) (j r t : Nat) : Int32 := M (6000 + 200 * j + r) t
theorem hdF_size : (⟨"java/util/List", "size", "()I"⟩ : MethodName).cls ≠ "java/lang/invoke/MethodHandle" ∧ (⟨"java/util/List", "size", "()I"⟩ : MethodName).cls ≠ "java/lang/invoke/VarHandle" ∧ (parseMethodDescriptor (⟨"java/util/List", "size", "()I"⟩ : MethodName).desc).map (fun d => d.parameters.length) = some 0 := by decide +kernel
theorem hdF_add : (⟨"java/util/List", "add", "(Ljava/lang/Object;)Z"⟩ : MethodName).cls ≠ "java/lang/invoke/MethodHandle" ∧ (⟨"java/util/List", "add", "(Ljava/lang/Object;)Z"⟩ : MethodName).cls ≠ "java/lang/invoke/VarHandle" ∧ (parseMethodDescriptor (⟨"java/util/List", "add", "(Ljava/lang/Object;)Z"⟩ : MethodName).desc).map (fun d => d.parameters.length) = some 1 := by decide +kernel
theorem hdF_get : (⟨"java/util/List", "get", "(I)Ljava/lang/Object;"⟩ : MethodName).cls ≠ "java/lang/invoke/MethodHandle" ∧ (⟨"java/util/List", "get", "(I)Ljava/lang/Object;"⟩ : MethodName).cls ≠ "java/lang/invoke/VarHandle" ∧ (parseMethodDescriptor (⟨"java/util/List", "get", "(I)Ljava/lang/Object;"⟩ : MethodName).desc).map (fun d => d.parameters.length) = some 1 := by decide +kernel
theorem hdF_iterator : (⟨"java/util/List", "iterator", "()Ljava/util/Iterator;"⟩ : MethodName).cls ≠ "java/lang/invoke/MethodHandle" ∧ (⟨"java/util/List", "iterator", "()Ljava/util/Iterator;"⟩ : MethodName).cls ≠ "java/lang/invoke/VarHandle" ∧ (parseMethodDescriptor (⟨"java/util/List", "iterator", "()Ljava/util/Iterator;"⟩ : MethodName).desc).map (fun d => d.parameters.length) = some 0 := by decide +kernel
theorem hdF_clear : (⟨"java/util/List", "clear", "()V"⟩ : MethodName).cls ≠ "java/lang/invoke/MethodHandle" ∧ (⟨"java/util/List", "clear", "()V"⟩ : MethodName).cls ≠ "java/lang/invoke/VarHandle" ∧ (parseMethodDescriptor (⟨"java/util/List", "clear", "()V"⟩ : MethodName).desc).map (fun d => d.parameters.length) = some 0 := by decide +kernel
theorem hdF_isEmpty : (⟨"java/util/List", "isEmpty", "()Z"⟩ : MethodName).cls ≠ "java/lang/invoke/MethodHandle" ∧ (⟨"java/util/List", "isEmpty", "()Z"⟩ : MethodName).cls ≠ "java/lang/invoke/VarHandle" ∧ (parseMethodDescriptor (⟨"java/util/List", "isEmpty", "()Z"⟩ : MethodName).desc).map (fun d => d.parameters.length) = some 0 := by decide +kernel
theorem hdF_hasNext : (⟨"java/util/Iterator", "hasNext", "()Z"⟩ : MethodName).cls ≠ "java/lang/invoke/MethodHandle" ∧ (⟨"java/util/Iterator", "hasNext", "()Z"⟩ : MethodName).cls ≠ "java/lang/invoke/VarHandle" ∧ (parseMethodDescriptor (⟨"java/util/Iterator", "hasNext", "()Z"⟩ : MethodName).desc).map (fun d => d.parameters.length) = some 0 := by decide +kernel
theorem hdF_next : (⟨"java/util/Iterator", "next", "()Ljava/lang/Object;"⟩ : MethodName).cls ≠ "java/lang/invoke/MethodHandle" ∧ (⟨"java/util/Iterator", "next", "()Ljava/lang/Object;"⟩ : MethodName).cls ≠ "java/lang/invoke/VarHandle" ∧ (parseMethodDescriptor (⟨"java/util/Iterator", "next", "()Ljava/lang/Object;"⟩ : MethodName).desc).map (fun d => d.parameters.length) = some 0 := by decide +kernel
def hoM (M : Nat → Nat → Int32) (j t : Nat) : Nat → Nat
  | 0 => 0
  | r + 1 => if M (6000 + 200 * j + r) t = 0 then hoM M j t r else hoM M j t r + 1
def apR (M : Nat → Nat → Int32) (i j r q : Nat) : Nat → Nat
  | 0 => q
  | t + 1 => if M (6000 + 200 * i + r) t = M (6000 + 200 * j + r) t then apR M i j r q t else apR M i j r q t + 1
def apM (M : Nat → Nat → Int32) (i j : Nat) : Nat → Nat
  | 0 => 0
  | r + 1 => apR M i j r (apM M i j r) 16
theorem apR_le (M : Nat → Nat → Int32) (i j r q : Nat) : ∀ t, apR M i j r q t ≤ q + t
  | 0 => Nat.le_refl _
  | t + 1 => by
    have := apR_le M i j r q t
    unfold apR
    by_cases h : M (6000 + 200 * i + r) t = M (6000 + 200 * j + r) t
    · rw [if_pos h]; omega
    · rw [if_neg h]; omega
theorem z10 {p : Prop} [Decidable p] (h : (if p then (1 : Int32) else 0) = 0) : ¬ p := fun q => by rw [if_pos q] at h; exact absurd h (by decide)
theorem z11 {p : Prop} [Decidable p] (h : ¬ (if p then (1 : Int32) else 0) = 0) : p := Decidable.byContradiction fun q => h (if_neg q)
theorem up2_ss {α : Type} {g : Nat → Nat → α} {i k : Nat} {x y : α} : up2 (up2 g i k x) i k y = up2 g i k y := by
  funext a b
  unfold up2
  by_cases h : a = i
  · by_cases h2 : b = k
    · simp only [h, h2, if_true]
    · simp only [h, h2, if_true, if_false]
  · simp only [h, if_false]
def hoC (S : SZ) (v r t : Int32) : Int32 := if isi v 0 (nI S.1 - 1) = 0 then 1 else if isi r 0 199 = 0 then 2 else if isi t 0 15 = 0 then 2 else 0
