/-! a roll is loaded; rows are played -/
def ld1 (M : Nat → Nat → Int32) : Nat → Nat → Int32 := up2 (up2 (up2 (up2 (up2 (up2 (up2 (up2 (up2 M 3 0 (M 3 0 + 1)) 3 2 0) 0 11 0) 0 12 0) 0 7 0) 0 8 1000) 0 9 3) 0 10 0) 0 16 0
def ldV (J : Nat → Nat → Int32) : Nat → Nat → Nat → Int32
  | 0 => J
  | k + 1 => up2 (up2 (up2 (ldV J k) (20 + k) 9 0) (20 + k) 6 (-1)) (20 + k) 7 0
def ld2 (M : Nat → Nat → Int32) : Nat → Nat → Int32 := upr (ldV (upr (ld1 M) 7 (fun _ => 0)) 12) 6 (ldV (upr (ld1 M) 7 (fun _ => 0)) 12 7)
def ldF (M : Nat → Nat → Int32) (j : Nat) : Nat → Nat → Int32 := up2 (ld2 M) 0 6 (if nI (lenM (ld2 M) j 200) ≤ 0 then -1 else nI j)
theorem ldV_n {J : Nat → Nat → Int32} {a : Nat} (h : a < 20 ∨ 32 ≤ a) : ∀ k, k ≤ 12 → ldV J k a = J a
  | 0, _ => rfl
  | k + 1, hk => by
    unfold ldV
    rw [up2_row (by omega), up2_row (by omega), up2_row (by omega), ldV_n h k (by omega)]
theorem lenR_le (M : Nat → Nat → Int32) (j r q : Nat) (h : q ≤ r + 1) : ∀ t, lenR M j r q t ≤ r + 1
  | 0 => h
  | t + 1 => by
    unfold lenR
    split
    · exact lenR_le M j r q h t
    · exact Nat.le_refl _
theorem lenM_le (M : Nat → Nat → Int32) (j : Nat) : ∀ r, lenM M j r ≤ r
  | 0 => Nat.le_refl _
  | r + 1 => lenR_le M j r _ (Nat.le_succ_of_le (lenM_le M j r)) 16
theorem lenR_ext {M Q : Nat → Nat → Int32} {j r q : Nat} (h : Q (6000 + 200 * j + r) = M (6000 + 200 * j + r)) : ∀ t, lenR Q j r q t = lenR M j r q t
  | 0 => rfl
  | t + 1 => by unfold lenR; rw [h, lenR_ext h t]
theorem lenM_ext {M Q : Nat → Nat → Int32} {j : Nat} : ∀ n, (∀ r, r < n → Q (6000 + 200 * j + r) = M (6000 + 200 * j + r)) → lenM Q j n = lenM M j n
  | 0, _ => rfl
  | n + 1, h => by
    show lenR Q j n (lenM Q j n) 16 = lenR M j n (lenM M j n) 16
    rw [lenM_ext n (fun r hr => h r (by omega)), lenR_ext (h n (Nat.lt_succ_self n))]
theorem plS_row {M : Nat → Nat → Int32} {S : SZ} {a : Nat} (q : 32 ≤ a) (q2 : a < 8000) : ∀ v, v ≤ 12 → (plS M S v).1 a = M a
  | 0, _ => rfl
  | v + 1, hv => by
    rw [plS_s]
    show mvM _ _ _ _ _ a = _
    rw [mvM_r (by omega) (by omega) (by omega) q2, plS_row q q2 v (by omega)]
theorem plS_lo {M : Nat → Nat → Int32} {S : SZ} {a : Nat} (q : a < 20) (q0 : a ≠ 0) (q3 : a ≠ 3) : ∀ v, (plS M S v).1 a = M a
  | 0 => rfl
  | v + 1 => by
    rw [plS_s]
    show mvM _ _ _ _ _ a = _
    rw [mvM_r (by omega) q0 q3 (by omega), plS_lo q q0 q3 v]
theorem plS_0 {M : Nat → Nat → Int32} {S : SZ} {b : Nat} (q : b ≠ 11) (q2 : b ≠ 12) : ∀ v, (plS M S v).1 0 b = M 0 b
  | 0 => rfl
  | v + 1 => by
    rw [plS_s]
    show mvM _ _ _ _ _ 0 b = _
    rw [mvM_0 q q2, plS_0 q q2 v]
theorem pyM_row {M : Nat → Nat → Int32} {S : SZ} {j r a : Nat} (q : 32 ≤ a) (q2 : a < 8000) : pyM M S j r a = M a := by
  unfold pyM pyD pyC
  rw [upr_n (by omega), up2_row (by omega), up2_row (by omega), plS_row q q2 12 (Nat.le_refl _), codI_n (by omega), rdI_n (by omega)]
theorem pyM_0 {M : Nat → Nat → Int32} {S : SZ} {j r b : Nat} (q7 : b ≠ 7) (q8 : b ≠ 8) (q11 : b ≠ 11) (q12 : b ≠ 12) : pyM M S j r 0 b = codI (rdI M j r 16) 0 b := by
  unfold pyM pyD pyC
  rw [upr_n (by omega), up2_n (Or.inr q7), up2_n (Or.inr q8), plS_0 q11 q12 12]
theorem pyM_6 {M : Nat → Nat → Int32} {S : SZ} {j r : Nat} : pyM M S j r 0 6 = M 0 6 := by
  rw [pyM_0 (by decide) (by decide) (by decide) (by decide), codI_0 (by decide) (by decide), rdI_n (by decide)]
theorem pyM_7 {M : Nat → Nat → Int32} {S : SZ} {j r : Nat} : pyM M S j r 0 7 = M 0 7 + 1 := by
  unfold pyM pyD pyC
  rw [upr_n (by omega), up2_s, up2_n (Or.inr (by decide)), plS_0 (by decide) (by decide) 12, codI_0 (by decide) (by decide), rdI_n (by decide)]
theorem pyM_16 {M : Nat → Nat → Int32} {S : SZ} {j r : Nat} (h : M 0 16 = 0 ∨ M 0 16 = 1) : pyM M S j r 0 16 = 0 ∨ pyM M S j r 0 16 = 1 := by
  rw [pyM_0 (by decide) (by decide) (by decide) (by decide)]
  exact codI_16 (by rw [rdI_n (by decide)]; exact h)
theorem pyM_v {M : Nat → Nat → Int32} {S : SZ} {j r v b : Nat} (hv : v < 12) : pyM M S j r (20 + v) b = (plS (codI (rdI M j r 16)) S 12).1 (20 + v) b := by
  unfold pyM pyD pyC
  rw [upr_n (by omega), up2_row (by omega), up2_row (by omega)]
