/-! a row keeps the reference sound -/
theorem PI_py {M : Nat → Nat → Int32} {S : SZ} {j r : Nat} (h : PI M S) : PI (pyM M S j r) (pyZ M S j r) := by
  have h9 := plS_PI (PI_cod (j := j) (r := r) (n := 16) h) 12 (Nat.le_refl _)
  have hv9 : ∀ v b, v < 12 → pyM M S j r (20 + v) b = (plS (codI (rdI M j r 16)) S 12).1 (20 + v) b := fun v b hv => pyM_v hv
  have hr9 : ∀ a, a = 1 ∨ a = 2 ∨ a = 3 → pyM M S j r a = (plS (codI (rdI M j r 16)) S 12).1 a := fun a ha => by
    unfold pyM pyD pyC
    rw [upr_n (by omega), up2_row (by omega), up2_row (by omega)]
  have eZ : pyZ M S j r = (plS (codI (rdI M j r 16)) S 12).2 := by unfold pyZ; rfl
  rw [eZ]
  generalize plS (codI (rdI M j r 16)) S 12 = P at h9 hv9 hr9 ⊢
  obtain ⟨h1, h2, h3, h4, h5⟩ := h9
  refine ⟨h1, by rw [hr9 1 (Or.inl rfl)]; exact h2, by rw [hr9 2 (Or.inr (Or.inl rfl))]; exact h3, by rw [hr9 3 (Or.inr (Or.inr rfl))]; exact h4, fun v hv h7 hn => ?_⟩
  rw [hv9 v 8 hv] at hn ⊢
  rw [hv9 v 7 hv] at h7
  exact h5 v hv h7 hn
theorem plS_S1 {M : Nat → Nat → Int32} {S : SZ} : ∀ v, (plS M S v).2.1 = S.1
  | 0 => rfl
  | v + 1 => by
    rw [plS_s]
    show (mvz _ _ _ _ _).1 = _
    unfold mvz
    split
    · exact plS_S1 v
    · rw [bgz_1.1]; exact plS_S1 v
theorem pyZ_1 {M : Nat → Nat → Int32} {S : SZ} {j r : Nat} : (pyZ M S j r).1 = S.1 := plS_S1 12
theorem pyZ_PC {M : Nat → Nat → Int32} {S : SZ} {j r : Nat} (h : PI M S) : PC S ≤ PC (pyZ M S j r) ∧ PS S ≤ PS (pyZ M S j r) := plS_le (PI_cod (j := j) (r := r) (n := 16) h) (v := 0) (w := 12) (Nat.zero_le _) (Nat.le_refl _)
theorem plS_mem {M : Nat → Nat → Int32} {S : SZ} {i : Nat} (h : PI M S) (h1 : i < 1000 ∨ 4000 ≤ i) (hi : i ∈ mL S) : ∀ v, v ≤ 12 → i ∈ mL (plS M S v).2
  | 0, _ => hi
  | v + 1, hv => by
    rw [plS_s]
    exact mvz_mem (plS_PI h v (by omega)).1 (plS_mem h h1 hi v (by omega)) h1
theorem pyZ_mem {M : Nat → Nat → Int32} {S : SZ} {i j r : Nat} (h : PI M S) (hi : i ∈ mL S) (h1 : i < 1000 ∨ 4000 ≤ i) : i ∈ mL (pyZ M S j r) := plS_mem (PI_cod (j := j) (r := r) (n := 16) h) h1 hi 12 (Nat.le_refl _)
def tkS (M : Nat → Nat → Int32) (S : SZ) (j r : Nat) : Nat → (Nat → Nat → Int32) × SZ
  | 0 => (M, S)
  | k + 1 => (pyM (tkS M S j r k).1 (tkS M S j r k).2 j (r + k), pyZ (tkS M S j r k).1 (tkS M S j r k).2 j (r + k))
theorem tkS_s {M : Nat → Nat → Int32} {S : SZ} {j r k : Nat} : tkS M S j r (k + 1) = (pyM (tkS M S j r k).1 (tkS M S j r k).2 j (r + k), pyZ (tkS M S j r k).1 (tkS M S j r k).2 j (r + k)) := rfl
def tkN (M : Nat → Nat → Int32) (m j r : Nat) : Nat := min m (lenM M j 200 - r)
def tiC (M : Nat → Nat → Int32) (t : Int32) : Int32 := if M 0 6 < 0 then 1 else if isi t 1 100 = 0 then 2 else 0
theorem isi_1 {t : Int32} (h : ¬ isi t 1 100 = 0) : ∃ m, m ≤ 100 ∧ t = nI m := wi_nat (n := 100) (isi_wi ▸ isi_01 h) (by decide) rfl (by decide)
def enV (Q : Nat → Nat → Int32) : Nat → Nat → Nat → Int32
  | 0 => Q
  | i + 1 => if enV Q i (20 + i) 7 = 0 then up2 (enV Q i) (20 + i) 9 0 else endI (up2 (enV Q i) (20 + i) 9 0) i
theorem enV_n {Q : Nat → Nat → Int32} {a : Nat} (h : a < 20 ∨ (32 ≤ a ∧ a < 8000)) : ∀ i, i ≤ 12 → enV Q i a = Q a
  | 0, _ => rfl
  | i + 1, hi => by
    unfold enV
    split
    · rw [up2_row (by omega), enV_n h i (by omega)]
    · rw [endI_n (by omega) (by omega), up2_row (by omega), enV_n h i (by omega)]
theorem enV_8 {Q : Nat → Nat → Int32} {w b : Nat} (hw : w < 12) (h7 : b ≠ 7) (h9 : b ≠ 9) : ∀ i, i ≤ 12 → enV Q i (20 + w) b = Q (20 + w) b
  | 0, _ => rfl
  | i + 1, hi => by
    unfold enV
    by_cases e : w = i
    · subst e
      split
      · rw [up2_n (Or.inr h9), enV_8 hw h7 h9 w (by omega)]
      · rw [endI_v h7 (by omega), up2_n (Or.inr h9), enV_8 hw h7 h9 w (by omega)]
    · split
      · rw [up2_row (by omega), enV_8 hw h7 h9 i (by omega)]
      · rw [endI_n (by omega) (by omega), up2_row (by omega), enV_8 hw h7 h9 i (by omega)]
def tkF (M : Nat → Nat → Int32) (S : SZ) (m j r : Nat) : Nat → Nat → Int32 := if lenM M j 200 ≤ r + tkN M m j r then up2 (enV (tkS M S j r (tkN M m j r)).1 12) 0 6 (-1) else (tkS M S j r (tkN M m j r)).1
theorem enV_7 {Q : Nat → Nat → Int32} {w : Nat} : ∀ i, i ≤ w → w < 12 → enV Q i (20 + w) 7 = Q (20 + w) 7
  | 0, _, _ => rfl
  | i + 1, h, hw => by
    unfold enV
    split
    · rw [up2_row (by omega), enV_7 i (by omega) hw]
    · rw [endI_n (by omega) (by omega), up2_row (by omega), enV_7 i (by omega) hw]
