/-! codes of the reference's methods (0: none thrown), and what they make -/
def r1C (S : SZ) (v : Int32) : Int32 := if isi v 0 (nI S.1 - 1) = 0 then 1 else 0
def hlC (S : SZ) (v t : Int32) : Int32 := if isi v 0 (nI S.1 - 1) = 0 then 1 else if isi t 0 15 = 0 then 2 else 0
def unC (S : SZ) (v w : Int32) : Int32 := if isi v 0 (nI S.1 - 1) = 0 then 1 else if isi w 0 (nI S.1 - 1) = 0 then 1 else 0
def paC (S : SZ) (v : Int32) : Int32 := if isi v 0 (nI S.1 - 1) = 0 then 1 else if v ≤ 0 then 2 else 0
def vaC (n d r : Int32) : Int32 := if isi n 0 11 = 0 then 1 else if isi d 0 5 = 0 then 2 else if isi r 0 9 = 0 then 2 else 0
def usC (n u : Int32) : Int32 := if isi n 0 11 = 0 then 1 else if isi u 0 99 = 0 then 2 else 0
def lenB (M : Nat → Nat → Int32) (n : Int32) : Nat → Int32
  | 0 => 0
  | k + 1 => lenB M n k ||| (if nI k = n then 0 else if M (20 + k) 3 = n then 1 else 0)
def boC (M : Nat → Nat → Int32) (n o : Int32) : Int32 := if isi n 0 11 = 0 then 1 else if isi o 0 11 = 0 then 1 else if o = n then 0 else if M (20 + o.toNatClampNeg) 3 = o then (if lenB M n 12 = 0 then 0 else 2) else 2
def mkC (w : Int32) : Int32 := if isi w 97 99 = 0 then 1 else 0
def asC (M : Nat → Nat → Int32) (t : Int32) : Int32 := if M 0 6 < 0 then 1 else if isi t (-2) 2 = 0 then 2 else 0
def opC (M : Nat → Nat → Int32) (n : Int32) : Int32 := if M 0 6 < 0 then 1 else if isi n 0 11 = 0 then 2 else 0
def ixS (i : Nat) (w : Int32) : Int32 := if w < 0 then -1 else if 255 < w then -1 else fix9 (zByt.getD i []) w.toInt8.toInt32 (zLen.getD i 0) 0
def soC (S : SZ) (x w : Int32) : Int32 := if ixS 2 w < 0 then 1 else if isi x 0 (nI S.2.2.1 - 1) = 0 then 2 else 0
def spC (f g : Int32) : Int32 := if isi f 100 900 = 0 then 1 else if isi g 0 50 = 0 then 1 else 0
def tmC (r : Int32) : Int32 := if isi r 0 200 = 0 then 1 else 0
def loM (M : Nat → Nat → Int32) : Nat → Nat
  | 0 => 0
  | k + 1 => if M (8000 + (k + 1)) 4 ≤ M (8000 + loM M k) 4 then loM M k else k + 1
def parM (M : Nat → Nat → Int32) (j : Nat) : Nat → Nat
  | 0 => 0
  | k + 1 => if nI (apM M j (parM M j k) 200) ≤ nI (apM M j (k + 1) 200) then parM M j k else k + 1
def tmM (f g : Nat) : Nat → Int64
  | 0 => 0
  | k + 1 => tmM f g k + 1000000 / (nI f + nI k * nI g / 10).toInt64
def codI (M : Nat → Nat → Int32) : Nat → Nat → Int32 :=
  if M 0 17 = 97 then (if M 7 14 = 0 then (if M 7 13 = 0 then (if M 0 16 = 0 then up2 (up2 M 0 16 0) 0 9 (mx2 0 (mn2 6 (M 0 9 + (-1)))) else up2 (up2 M 0 16 1) 0 9 (mx2 0 (mn2 6 (M 0 9 + 1)))) else up2 (up2 M 0 16 1) 0 9 (mx2 0 (mn2 6 (M 0 9 + 1)))) else up2 (up2 M 0 16 0) 0 9 (mx2 0 (mn2 6 (M 0 9 + (-1)))))
  else if M 0 17 = 98 then up2 M 0 9 (mx2 0 (mn2 6 (M 0 9 + ((0 + (if M 7 13 = 0 then 0 else if M 6 13 = 0 then 1 else 0)) - (if M 7 14 = 0 then 0 else if M 6 14 = 0 then 1 else 0)))))
  else if M 7 13 = 0 then (if M 7 14 = 0 then up2 M 0 9 (mx2 0 (mn2 6 (M 0 9 + cmp3 3 (M 0 9)))) else up2 M 0 9 (mx2 0 (mn2 6 (M 0 9 + (-2)))))
  else if M 7 14 = 0 then up2 M 0 9 (mx2 0 (mn2 6 (M 0 9 + 2))) else up2 M 0 9 (mx2 0 (mn2 6 (M 0 9 + 0)))
def endI (M : Nat → Nat → Int32) (v : Nat) : Nat → Nat → Int32 := if M (20 + v) 8 < 0 then up2 M (20 + v) 7 0 else up2 (up2 M (8000 + (M (20 + v) 8).toNatClampNeg) 3 (M 0 7 - 1)) (20 + v) 7 0
theorem isi_m {v b : Int32} {n : Nat} (h : ¬ isi v 0 b = 0) (hb : b = nI n) (hn : n < 2 ^ 31) : ∃ m, m ≤ n ∧ v = nI m := isi_k h hb hn
theorem nz_m {x : Int32} (h : x = 0 ∨ x = 1) : narrow .boolean (.int x) = .int x := nz_01 h
theorem fz_m {x : Int32} (h : x = 0 ∨ x = 1) : fits .boolean (.int x) = true := by rcases h with rfl | rfl <;> rfl
theorem isi_3 {w : Int32} (h : ¬ isi w 97 99 = 0) : w = 97 ∨ w = 98 ∨ w = 99 := by
  unfold isi at h
  by_cases h1 : w < 97
  · rw [if_pos h1] at h; exact absurd rfl h
  · rw [if_neg h1] at h
    by_cases h2 : 99 < w
    · rw [if_pos h2] at h; exact absurd rfl h
    · rw [Int32.lt_iff_toInt_lt] at h1 h2
      rw [show (97 : Int32).toInt = 97 by decide] at h1
      rw [show (99 : Int32).toInt = 99 by decide] at h2
      rcases (show w.toInt = 97 ∨ w.toInt = 98 ∨ w.toInt = 99 by omega) with e | e | e
      · exact Or.inl (Int32.toInt_inj.mp e)
      · exact Or.inr (Or.inl (Int32.toInt_inj.mp e))
      · exact Or.inr (Or.inr (Int32.toInt_inj.mp e))
theorem or_01 {x y : Int32} (hx : x = 0 ∨ x = 1) (hy : y = 0 ∨ y = 1) : x ||| y = 0 ∨ x ||| y = 1 := by
  rcases hx with rfl | rfl <;> rcases hy with rfl | rfl <;> decide
theorem tm_ne {f g k : Nat} (h1 : 100 ≤ f) (h2 : f ≤ 900) (h3 : g ≤ 50) (hk : k ≤ 200) : ¬ (nI f + nI k * nI g / 10).toInt64 = 0 := by
  have hm : k * g ≤ 10000 := Nat.le_trans (Nat.mul_le_mul hk h3) (by decide)
  have e1 : nI k * nI g = nI (k * g) := pk_mul k g
  have e2 : nI (k * g) / 10 = nI (k * g / 10) := pk_div (a := k * g) (d := 10) (by omega) (by omega) (by omega)
  have e3 : nI f + nI (k * g / 10) = nI (f + k * g / 10) := nI_add f (k * g / 10)
  have h5 : f + k * g / 10 < 2 ^ 31 := by omega
  rw [e1, e2, e3]
  intro h
  have h6 := congrArg Int64.toInt h
  rw [Int32.toInt_toInt64, nI_toInt h5, show (0 : Int64).toInt = 0 by decide] at h6
  omega
theorem pa_up {M : Nat → Nat → Int32} {j k b b2 : Nat} (hk : 1 ≤ k) (hb : b = parM M j (k - 1) ∧ b < k) (h : (nI (apM M j b 200) ≤ nI (apM M j k 200) ∧ b2 = b) ∨ (¬ nI (apM M j b 200) ≤ nI (apM M j k 200) ∧ b2 = k)) : b2 = parM M j (k + 1 - 1) ∧ b2 < k + 1 := by
  obtain ⟨q, rfl⟩ : ∃ q, k = q + 1 := ⟨k - 1, by omega⟩
  obtain ⟨h1, h2⟩ := hb
  rw [Nat.add_sub_cancel] at h1
  rw [Nat.add_sub_cancel, parM, ← h1]
  rcases h with ⟨c, e⟩ | ⟨c, e⟩
  · rw [if_pos c, e]; exact ⟨rfl, by omega⟩
  · rw [if_neg c, e]; exact ⟨rfl, by omega⟩
theorem lo_up {M : Nat → Nat → Int32} {k b b2 : Nat} (hk : 1 ≤ k) (hb : b = loM M (k - 1) ∧ b < k) (h : (M (8000 + k) 4 ≤ M (8000 + b) 4 ∧ b2 = b) ∨ (¬ M (8000 + k) 4 ≤ M (8000 + b) 4 ∧ b2 = k)) : b2 = loM M (k + 1 - 1) ∧ b2 < k + 1 := by
  obtain ⟨q, rfl⟩ : ∃ q, k = q + 1 := ⟨k - 1, by omega⟩
  obtain ⟨h1, h2⟩ := hb
  rw [Nat.add_sub_cancel] at h1
  rw [Nat.add_sub_cancel, loM, ← h1]
  rcases h with ⟨c, e⟩ | ⟨c, e⟩
  · rw [if_pos c, e]; exact ⟨rfl, by omega⟩
  · rw [if_neg c, e]; exact ⟨rfl, by omega⟩
theorem fix9_lt (bs : List Int32) (c : Int32) : ∀ n k, ¬ fix9 bs c n k < 0 → k + n < 1000 → ∃ j, j < k + n ∧ fix9 bs c n k = nI j
  | 0, k, h, _ => absurd (show (-1 : Int32) < 0 by decide) h
  | n + 1, k, h, hn => by
    unfold fix9 at h ⊢
    by_cases q : bs.getD k 0 = c
    · rw [if_pos q]; exact ⟨k, by omega, rfl⟩
    · rw [if_neg q] at h ⊢
      obtain ⟨j, hj, e⟩ := fix9_lt bs c n (k + 1) h (by omega)
      exact ⟨j, by omega, e⟩
theorem ix_lt {i : Nat} {w : Int32} (hi : i < 3) (h : ¬ ixS i w < 0) : ∃ k, k < zLen.getD i 0 ∧ ixS i w = nI k := by
  unfold ixS at h ⊢
  by_cases h1 : w < 0
  · rw [if_pos h1] at h; exact absurd (by decide) h
  · rw [if_neg h1] at h ⊢
    by_cases h2 : 255 < w
    · rw [if_pos h2] at h; exact absurd (by decide) h
    · rw [if_neg h2] at h ⊢
      obtain ⟨j, hj, e⟩ := fix9_lt _ _ _ 0 h (by rcases (show i = 0 ∨ i = 1 ∨ i = 2 by omega) with rfl | rfl | rfl <;> decide)
      exact ⟨j, by omega, e⟩
theorem nI_if0 {x : Int32} {n : Nat} (h : n < 2 ^ 31) (hx : x = nI n) : (if x = 0 then (1 : Int32) else 0) = if n = 0 then 1 else 0 := by
  subst hx
  by_cases q : n = 0
  · rw [if_pos q, q]; rfl
  · rw [if_neg q, if_neg (nI_ne0 (Nat.pos_of_ne_zero q) h)]
theorem isi_200 {t : Int32} (h : ¬ isi t 0 200 = 0) : ∃ m, m ≤ 200 ∧ t = nI m := isi_k (n := 200) h (by decide) (by decide)
theorem tm_k {t : Int32} {k : Nat} (hk : k ≤ 200 ∧ (isi t 0 200 = 0 ∨ k ≤ t.toNatClampNeg)) (h : ¬ mn2 200 t ≤ nI k) : k + 1 ≤ 200 ∧ (isi t 0 200 = 0 ∨ k + 1 ≤ t.toNatClampNeg) := by
  obtain ⟨h1, h2⟩ := hk
  unfold mn2 at h
  by_cases q : t < 200
  · rw [if_pos q] at h
    by_cases h3 : isi t 0 200 = 0
    · refine ⟨?_, Or.inl h3⟩
      rw [Int32.le_iff_toInt_le, nI_toInt (by omega)] at h
      rw [Int32.lt_iff_toInt_lt, show (200 : Int32).toInt = 200 by decide] at q
      omega
    · obtain ⟨m, hm, rfl⟩ := isi_200 h3
      rw [nI_clamp (by omega)]
      have : ¬ m ≤ k := fun r => h ((nI_leI (by omega) (by omega)).mpr r)
      exact ⟨by omega, Or.inr (by omega)⟩
  · rw [if_neg q] at h
    have : ¬ 200 ≤ k := fun r => h ((nI_leI (a := 200) (b := k) (by omega) (by omega)).mpr r)
    refine ⟨by omega, ?_⟩
    rcases h2 with h2 | h2
    · exact Or.inl h2
    · by_cases h3 : isi t 0 200 = 0
      · exact Or.inl h3
      · obtain ⟨m, hm, rfl⟩ := isi_200 h3
        have : ¬ m < 200 := fun r => q ((nI_ltI (a := m) (b := 200) (by omega) (by omega)).mpr r)
        rw [nI_clamp (by omega)]
        exact Or.inr (by omega)
theorem tm_e {t : Int32} {k : Nat} (hk : k ≤ 200 ∧ (isi t 0 200 = 0 ∨ k ≤ t.toNatClampNeg)) (h : mn2 200 t ≤ nI k) (h3 : ¬ isi t 0 200 = 0) : k = t.toNatClampNeg := by
  obtain ⟨h1, h2⟩ := hk
  have h2 := h2.resolve_left h3
  obtain ⟨m, hm, rfl⟩ := isi_200 h3
  rw [nI_clamp (by omega)] at h2 ⊢
  unfold mn2 at h
  by_cases q : nI m < 200
  · rw [if_pos q] at h
    have := (nI_leI (by omega) (by omega)).mp h
    omega
  · have : ¬ m < 200 := fun r => q ((nI_ltI (a := m) (b := 200) (by omega) (by omega)).mpr r)
    rw [if_neg q] at h
    have := (nI_leI (a := 200) (b := k) (by omega) (by omega)).mp h
    omega
