/-! the relation: a row is read, the code makes the level -/
theorem ir_01 (x t : Int32) : ir x t = 0 ∨ ir x t = 1 := by
  unfold ir; split
  · exact Or.inl rfl
  · exact Or.inr rfl
theorem mk_cod {I M : Nat → Nat → Int32} {X : Int32} (m13 : M 7 13 = ir X 13) (m14 : M 7 14 = ir X 14) (p13 : M 6 13 = ir (I 3 12) 13) (p14 : M 6 14 = ir (I 3 12) 14) (hl : I 3 6 = M 0 9) (hlat : I 3 10 = M 0 16) (h01 : M 0 16 = 0 ∨ M 0 16 = 1) (hmk : I 15 4 = M 0 17) (h3 : M 0 17 = 97 ∨ M 0 17 = 98 ∨ M 0 17 = 99) : mkl I X 3 6 = codI M 0 9 ∧ mkl I X 3 10 = codI M 0 16 := by
  unfold mkl codI
  rw [hmk, m13, m14, p13, p14]
  have n98 : ¬ (98 : Int32) = 97 := by decide
  have n99 : ¬ (99 : Int32) = 97 := by decide
  have n998 : ¬ (99 : Int32) = 98 := by decide
  rcases h3 with e | e | e
  · rw [e, if_pos rfl, if_pos rfl]
    unfold mvL latI
    rcases ir_01 X 13 with a | a <;> rcases ir_01 X 14 with b | b <;> rcases h01 with c | c <;> simp [a, b, c, up2, hl, hlat]
  · rw [e, if_neg n98, if_pos rfl, if_neg n98, if_pos rfl]
    unfold mvL
    rw [up2_s, up2_s, up2_n (Or.inr (by decide)), up2_n (Or.inr (by decide)), hl, hlat]
    refine ⟨?_, rfl⟩
    rcases ir_01 X 13 with a | a <;> rcases ir_01 X 14 with b | b <;> rcases ir_01 (I 3 12) 13 with c | c <;> rcases ir_01 (I 3 12) 14 with d | d <;> rw [a, b, c, d] <;> rfl
  · rw [e, if_neg n99, if_neg n998, if_neg n99, if_neg n998]
    unfold mvL
    rcases ir_01 X 13 with a | a <;> rcases ir_01 X 14 with b | b <;> rw [a, b] <;> simp [up2, hl, hlat] <;> rfl
theorem codI_b {M : Nat → Nat → Int32} {b : Nat} (h9 : b ≠ 9) (h16 : b ≠ 16) : codI M 0 b = M 0 b := by
  unfold codI
  split
  · split
    · split
      · split
        · rw [up2_n (Or.inr h9), up2_n (Or.inr h16)]
        · rw [up2_n (Or.inr h9), up2_n (Or.inr h16)]
      · rw [up2_n (Or.inr h9), up2_n (Or.inr h16)]
    · rw [up2_n (Or.inr h9), up2_n (Or.inr h16)]
  · split
    · exact up2_n (Or.inr h9)
    · split
      · split
        · exact up2_n (Or.inr h9)
        · exact up2_n (Or.inr h9)
      · split
        · exact up2_n (Or.inr h9)
        · exact up2_n (Or.inr h9)
theorem bt_dv {x e t : Nat} : bt (x / 2 ^ e) t = bt x (t + e) := by
  unfold bt; rw [Nat.testBit_div_two_pow]
theorem bt_ml {x e t : Nat} (ht : t < 16) : bt (x * 2 ^ e % 65536) t = if t < e then 0 else bt x (t - e) := by
  unfold bt
  rw [show (65536 : Nat) = 2 ^ 16 from rfl, Nat.testBit_mod_two_pow, Nat.mul_comm, Nat.testBit_two_pow_mul]
  by_cases h : t < e
  · rw [if_pos h]; simp [ht]; intro q; omega
  · rw [if_neg h]; simp [ht, Nat.le_of_not_lt h]
theorem isi_15 {n : Nat} (h : n < 2 ^ 31) : isi (nI n) 0 15 = if n < 16 then 1 else 0 := by
  unfold isi
  rw [if_neg (nI_pos h)]
  by_cases q : n < 16
  · rw [if_pos q, if_neg (fun z => by have := (gt_L (c := 15) (n := 15) rfl h (by decide)).mp z; omega)]
  · rw [if_neg q, if_pos ((gt_L (c := 15) (n := 15) rfl h (by decide)).mpr (by omega))]
theorem nI_if (x t : Nat) : (if nI (bt x t) = 0 then (0 : Int32) else 1) = nI (bt x t) := by
  rcases bt_01 x t with e | e <;> rw [e] <;> rfl
theorem ro_pos {M : Nat → Nat → Int32} {j r x e : Nat} (hx : x < 65536) (h : ∀ t, t < 16 → M (6000 + 200 * j + r) t = nI (bt x t)) (hs : M 0 10 = nI e) (he : e ≤ 2) : ∀ t, t < 16 → roV M j r t = nI (bt (x / 2 ^ e) t) := fun t ht => by
  unfold roV
  rw [hs, nI_add, isi_15 (by omega), bt_dv]
  by_cases q : t + e < 16
  · rw [if_pos q, if_neg n10, nI_clamp (by omega), h _ q, nI_if]
  · rw [if_neg q, if_pos rfl, bt_hi hx (by omega)]; rfl
theorem ro_neg {M : Nat → Nat → Int32} {j r x e : Nat} (hx : x < 65536) (h : ∀ t, t < 16 → M (6000 + 200 * j + r) t = nI (bt x t)) (hs : ∀ t, nI t + M 0 10 = nI t - nI e) (he : e ≤ 2) : ∀ t, t < 16 → roV M j r t = nI (bt (x * 2 ^ e % 65536) t) := fun t ht => by
  unfold roV
  rw [hs, bt_ml ht]
  by_cases q : t < e
  · rw [if_pos q]
    have e0 : isi (nI t - nI e) 0 15 = 0 := by unfold isi; rw [if_pos (pk_sneg (by omega) q)]
    rw [e0, if_pos rfl]; rfl
  · rw [if_neg q, pk_sub (by omega), isi_15 (by omega), if_pos (show t - e < 16 by omega), if_neg n10, nI_clamp (by omega), h _ (by omega), nI_if]
def asd (d : Int32) : Prop := d = 0 ∨ d = 1 ∨ d = 2 ∨ d = -1 ∨ d = -2
theorem rh_bits {I M : Nat → Nat → Int32} {S : SZ} (h : RR I M S) {j r : Nat} (hj : j < S.1) (hr : r < 200) (h4 : I 3 4 = nI r) (h7 : I 3 7 = M 0 10) (hd : asd (M 0 10)) : ∃ y, y < 65536 ∧ rh I j = nI y ∧ ∀ t, t < 16 → roV M j r t = nI (bt y t) := by
  obtain ⟨x, hx, e1, e2, e3⟩ := h.2.2 j (by have := h.2.1; omega) r hr
  have hb : rb I j (I 3 4) = nI x := by rw [h4, rb_nI hr, e1]
  unfold rh
  rw [hb, h7]
  rcases hd with d | d | d | d | d
  · refine ⟨x / 2 ^ 0, Nat.lt_of_le_of_lt (Nat.div_le_self _ _) hx, ?_, ro_pos hx (e3 hj) (e := 0) d (by decide)⟩
    rw [d, if_neg (by decide), pk_shrN (by omega) _ 0 (by decide)]
  · refine ⟨x / 2 ^ 1, Nat.lt_of_le_of_lt (Nat.div_le_self _ _) hx, ?_, ro_pos hx (e3 hj) (e := 1) d (by decide)⟩
    rw [d, if_neg (by decide), pk_shrN (by omega) _ 1 (by decide)]
  · refine ⟨x / 2 ^ 2, Nat.lt_of_le_of_lt (Nat.div_le_self _ _) hx, ?_, ro_pos hx (e3 hj) (e := 2) d (by decide)⟩
    rw [d, if_neg (by decide), pk_shrN (by omega) _ 2 (by decide)]
  · refine ⟨x * 2 ^ 1 % 65536, Nat.mod_lt _ (by decide), ?_, ro_neg hx (e3 hj) (e := 1) (fun t => by rw [d]; exact add_m1 (nI t)) (by decide)⟩
    rw [d, if_pos (by decide), pk_shlN _ 1 (by decide) (by omega), pk_andN (by omega) 16 (by decide)]
  · refine ⟨x * 2 ^ 2 % 65536, Nat.mod_lt _ (by decide), ?_, ro_neg hx (e3 hj) (e := 2) (fun t => by rw [d]; exact (Int32.sub_eq_add_neg (nI t) 2).symm) (by decide)⟩
    rw [d, if_pos (by decide), pk_shlN _ 2 (by decide) (by omega), pk_andN (by omega) 16 (by decide)]
