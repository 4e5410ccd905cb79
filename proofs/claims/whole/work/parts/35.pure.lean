/-! the pool of the reference: names, kinds, lengths, references; S = (rolls, notes, soundings, the three capacities) -/
abbrev SZ : Type := Nat × Nat × Nat × Nat × Nat × Nat
def mK (i : Nat) : Nat := if i = 0 then 12 else if i < 4 then 3 else if i = 4 then 24 else if i = 5 then 20 else if i < 8 then 21 else if i = 8 then 3 else if i < 11 then 2 else if i = 11 then 20 else if i < 20 then 0 else if i < 32 then 11 else if i < 1000 then 0 else if i < 5000 then 25 else if i < 5004 then 26 else if i < 6000 then 0 else if i < 6800 then 21 else if i < 7000 then 0 else 20
def mN (i : Nat) : Nat := if i = 4 then 12 else if i = 5 then 4 else if i = 6 then 16 else if i = 7 then 16 else if i = 11 then 4 else if i < 1000 then 0 else if i < 5000 then i % 1000 else if i < 5004 then 200 else if i < 7000 then 16 else if i < 8000 then 3 else if i < 9000 then 5 else 3
def mE (j c : Nat) : Option Nat := if c = 0 then some 99999 else some (1000 * j + c)
def mR (S : SZ) (i k : Nat) : Option Nat :=
  if i = 0 then [some 1, some 2, some 3, some 4, some 5, some 6].getD k none
  else if i = 1 then (if k = 1 then mE 1 S.2.2.2.1 else none)
  else if i = 2 then (if k = 1 then mE 2 S.2.2.2.2.1 else none)
  else if i = 3 then (if k = 1 then mE 3 S.2.2.2.2.2 else none)
  else if i = 4 then (if k < 12 then some (20 + k) else none)
  else if i < 1000 then none
  else if i < 2000 then (if k < S.1 then some (5000 + k) else none)
  else if i < 3000 then (if k < S.2.1 then some (7000 + k) else none)
  else if i < 4000 then (if k < S.2.2.1 then some (8000 + k) else none)
  else if i < 5000 then none
  else if i < 5004 then (if k < 200 then some (6000 + 200 * (i - 5000) + k) else none)
  else none
def mA (S : SZ) (i : Nat) : Prop := i < 7 ∨ (20 ≤ i ∧ i < 32) ∨ (0 < S.2.2.2.1 ∧ i = 1000 + S.2.2.2.1) ∨ (0 < S.2.2.2.2.1 ∧ i = 2000 + S.2.2.2.2.1) ∨ (0 < S.2.2.2.2.2 ∧ i = 3000 + S.2.2.2.2.2) ∨ (5000 ≤ i ∧ i < 5000 + S.1) ∨ (6000 ≤ i ∧ i < 6000 + 200 * S.1) ∨ (7000 ≤ i ∧ i < 7000 + S.2.1) ∨ (8000 ≤ i ∧ i < 8000 + S.2.2.1)
def mAb (S : SZ) (i : Nat) : Bool := decide (i < 7 ∨ (20 ≤ i ∧ i < 32) ∨ (0 < S.2.2.2.1 ∧ i = 1000 + S.2.2.2.1) ∨ (0 < S.2.2.2.2.1 ∧ i = 2000 + S.2.2.2.2.1) ∨ (0 < S.2.2.2.2.2 ∧ i = 3000 + S.2.2.2.2.2) ∨ (5000 ≤ i ∧ i < 5000 + S.1) ∨ (6000 ≤ i ∧ i < 6000 + 200 * S.1) ∨ (7000 ≤ i ∧ i < 7000 + S.2.1) ∨ (8000 ≤ i ∧ i < 8000 + S.2.2.1))
def mL (S : SZ) : List Nat := (List.range 9000).filter (mAb S)
theorem mL_mem {S : SZ} {i : Nat} : i ∈ mL S ↔ i < 9000 ∧ mA S i := by
  unfold mL
  rw [List.mem_filter, List.mem_range]
  unfold mAb mA
  rw [decide_eq_true_eq]
theorem mL_nd {S : SZ} : (mL S).Nodup := List.nodup_range.filter _
/-- the sizes fit -/
def WS (S : SZ) : Prop := S.1 ≤ 4 ∧ S.2.1 ≤ 40 ∧ S.2.2.1 ≤ 300 ∧ S.1 ≤ S.2.2.2.1 ∧ S.2.1 ≤ S.2.2.2.2.1 ∧ S.2.2.1 ≤ S.2.2.2.2.2 ∧ (S.2.2.2.1 = 0 ∨ S.2.2.2.1 = 10) ∧ S.2.2.2.2.1 ∈ [0, 10, 15, 22, 33, 49] ∧ S.2.2.2.2.2 ∈ [0, 10, 15, 22, 33, 49, 73, 109, 163, 244, 366]
theorem WS.c1 {S : SZ} (h : WS S) : S.2.2.2.1 ≤ 10 := by rcases h.2.2.2.2.2.2.1 with e | e <;> omega
theorem WS.c2 {S : SZ} (h : WS S) : S.2.2.2.2.1 ≤ 49 := by
  have := h.2.2.2.2.2.2.2.1
  simp only [List.mem_cons, List.not_mem_nil, or_false] at this
  omega
theorem WS.c3 {S : SZ} (h : WS S) : S.2.2.2.2.2 ≤ 366 := by
  have := h.2.2.2.2.2.2.2.2
  simp only [List.mem_cons, List.not_mem_nil, or_false] at this
  omega
theorem m_lo {S : SZ} {i : Nat} (h : i < 7) : i ∈ mL S := mL_mem.mpr ⟨by omega, Or.inl h⟩
theorem m_v {S : SZ} {v : Nat} (h : v < 12) : 20 + v ∈ mL S := mL_mem.mpr ⟨by omega, Or.inr (Or.inl (by omega))⟩
theorem m_e1 {S : SZ} (hS : WS S) (h : 0 < S.2.2.2.1) : 1000 + S.2.2.2.1 ∈ mL S := mL_mem.mpr ⟨by have := hS.c1; omega, Or.inr (Or.inr (Or.inl ⟨h, rfl⟩))⟩
theorem m_e2 {S : SZ} (hS : WS S) (h : 0 < S.2.2.2.2.1) : 2000 + S.2.2.2.2.1 ∈ mL S := mL_mem.mpr ⟨by have := hS.c2; omega, Or.inr (Or.inr (Or.inr (Or.inl ⟨h, rfl⟩)))⟩
theorem m_e3 {S : SZ} (hS : WS S) (h : 0 < S.2.2.2.2.2) : 3000 + S.2.2.2.2.2 ∈ mL S := mL_mem.mpr ⟨by have := hS.c3; omega, Or.inr (Or.inr (Or.inr (Or.inr (Or.inl ⟨h, rfl⟩))))⟩
theorem m_o {S : SZ} (hS : WS S) {j : Nat} (h : j < S.1) : 5000 + j ∈ mL S := mL_mem.mpr ⟨by have := hS.1; omega, by unfold mA; omega⟩
theorem m_r {S : SZ} (hS : WS S) {j r : Nat} (h : j < S.1) (hr : r < 200) : 6000 + 200 * j + r ∈ mL S := mL_mem.mpr ⟨by have := hS.1; omega, by unfold mA; omega⟩
theorem m_n {S : SZ} (hS : WS S) {n : Nat} (h : n < S.2.1) : 7000 + n ∈ mL S := mL_mem.mpr ⟨by have := hS.2.1; omega, by unfold mA; omega⟩
theorem m_s {S : SZ} (hS : WS S) {n : Nat} (h : n < S.2.2.1) : 8000 + n ∈ mL S := mL_mem.mpr ⟨by have := hS.2.2.1; omega, by unfold mA; omega⟩
theorem mK_v {v : Nat} (h : v < 12) : mK (20 + v) = 11 := by
  unfold mK
  repeat rw [if_neg (by omega)]
  exact if_pos (by omega)
theorem mK_e {x : Nat} (h : 1000 ≤ x) (h2 : x < 5000) : mK x = 25 := by
  unfold mK
  repeat rw [if_neg (by omega)]
  exact if_pos (by omega)
theorem mN_e {j c : Nat} (h : 1 ≤ j) (h2 : j ≤ 4) (h3 : c < 1000) : mN (1000 * j + c) = c := by
  unfold mN
  repeat rw [if_neg (by omega)]
  rw [if_pos (by omega)]
  omega
theorem mK_o {j : Nat} (h : j < 4) : mK (5000 + j) = 26 := by
  unfold mK
  repeat rw [if_neg (by omega)]
  exact if_pos (by omega)
theorem mN_o {j : Nat} (h : j < 4) : mN (5000 + j) = 200 := by
  unfold mN
  repeat rw [if_neg (by omega)]
  exact if_pos (by omega)
theorem mK_r {j r : Nat} (h : j < 4) (hr : r < 200) : mK (6000 + 200 * j + r) = 21 := by
  unfold mK
  repeat rw [if_neg (by omega)]
  exact if_pos (by omega)
theorem mN_r {j r : Nat} (h : j < 4) (hr : r < 200) : mN (6000 + 200 * j + r) = 16 := by
  unfold mN
  repeat rw [if_neg (by omega)]
  exact if_pos (by omega)
theorem mK_h {x : Nat} (h : 7000 ≤ x) : mK x = 20 := by
  unfold mK
  repeat rw [if_neg (by omega)]
theorem mN_n {n : Nat} (h : n < 1000) : mN (7000 + n) = 3 := by
  unfold mN
  repeat rw [if_neg (by omega)]
  exact if_pos (by omega)
theorem mN_s {n : Nat} (h : n < 1000) : mN (8000 + n) = 5 := by
  unfold mN
  repeat rw [if_neg (by omega)]
  exact if_pos (by omega)
theorem mN_t {n : Nat} : mN (9000 + n) = 3 := by
  unfold mN
  repeat rw [if_neg (by omega)]
theorem mR_v {S : SZ} {v : Nat} (h : v < 12) : mR S 4 v = some (20 + v) := if_pos h
theorem mR_1 {S : SZ} {c k : Nat} (h : c < 1000) : mR S (1000 + c) k = if k < S.1 then some (5000 + k) else none := by
  unfold mR
  repeat rw [if_neg (by omega)]
  exact if_pos (by omega)
theorem mR_2 {S : SZ} {c k : Nat} (h : c < 1000) : mR S (2000 + c) k = if k < S.2.1 then some (7000 + k) else none := by
  unfold mR
  repeat rw [if_neg (by omega)]
  exact if_pos (by omega)
theorem mR_3 {S : SZ} {c k : Nat} (h : c < 1000) : mR S (3000 + c) k = if k < S.2.2.1 then some (8000 + k) else none := by
  unfold mR
  repeat rw [if_neg (by omega)]
  exact if_pos (by omega)
theorem mR_o {S : SZ} {j k : Nat} (h : j < 4) (hk : k < 200) : mR S (5000 + j) k = some (6000 + 200 * j + k) := by
  unfold mR
  repeat rw [if_neg (by omega)]
  rw [if_pos (by omega), if_pos hk, Nat.add_sub_cancel_left]
theorem mE_p {j c : Nat} (h : 0 < c) : mE j c = some (1000 * j + c) := if_neg (by omega)
abbrev mf (dT : Nat → ClassId) (ad : Nat → Nat) (M : Nat → Nat → Int32) (S : SZ) : Nat → va_E := pf dT mK mN M (mR S) ad
