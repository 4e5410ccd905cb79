/-! bits: a row of the class as a number below 65536 -/
def bt (x t : Nat) : Nat := (x.testBit t).toNat
def pop (x : Nat) : Nat → Nat
  | 0 => 0
  | t + 1 => pop x t + bt x t
def sumN (f : Nat → Nat) : Nat → Nat
  | 0 => 0
  | n + 1 => sumN f n + f n
theorem bt_le (x t : Nat) : bt x t ≤ 1 := by unfold bt; cases x.testBit t <;> decide
theorem bt_01 (x t : Nat) : bt x t = 0 ∨ bt x t = 1 := by unfold bt; cases x.testBit t <;> simp
theorem bt_div (x t : Nat) : x / 2 ^ t % 2 = bt x t := by
  unfold bt
  rw [Nat.testBit_eq_decide_div_mod_eq]
  rcases Nat.mod_two_eq_zero_or_one (x / 2 ^ t) with h | h <;> rw [h] <;> rfl
theorem nI_and {a b : Nat} (ha : a < 2 ^ 32) (hb : b < 2 ^ 32) : nI a &&& nI b = nI (a &&& b) := by
  apply Int32.toBitVec_inj.mp
  apply BitVec.eq_of_toNat_eq
  rw [Int32.toBitVec_and, BitVec.toNat_and, pk_tn ha, pk_tn hb, pk_tn (Nat.lt_of_le_of_lt Nat.and_le_left ha)]
theorem nI_xor {a b : Nat} (ha : a < 2 ^ 32) (hb : b < 2 ^ 32) : nI a ^^^ nI b = nI (a ^^^ b) := by
  apply Int32.toBitVec_inj.mp
  apply BitVec.eq_of_toNat_eq
  rw [Int32.toBitVec_xor, BitVec.toNat_xor, pk_tn ha, pk_tn hb, pk_tn (Nat.xor_lt_two_pow ha hb)]
theorem nI_or {a b : Nat} (ha : a < 2 ^ 32) (hb : b < 2 ^ 32) : nI a ||| nI b = nI (a ||| b) := by
  apply Int32.toBitVec_inj.mp
  apply BitVec.eq_of_toNat_eq
  rw [Int32.toBitVec_or, BitVec.toNat_or, pk_tn ha, pk_tn hb, pk_tn (Nat.or_lt_two_pow ha hb)]
theorem nI_inj {a b : Nat} (ha : a < 2 ^ 31) (hb : b < 2 ^ 31) (h : nI a = nI b) : a = b := (nI_eq ha hb).mp h
theorem nI_and16 {x y : Nat} (hx : x < 65536) (hy : y < 65536) : nI x &&& nI y = nI (x &&& y) := nI_and (by omega) (by omega)
theorem and16 {x y : Nat} (hx : x < 65536) : x &&& y < 65536 := Nat.lt_of_le_of_lt Nat.and_le_left hx
theorem xor16 {x y : Nat} (hx : x < 65536) (hy : y < 65536) : x ^^^ y < 65536 := Nat.xor_lt_two_pow (n := 16) hx hy
theorem or16 {x y : Nat} (hx : x < 65536) (hy : y < 65536) : x ||| y < 65536 := Nat.or_lt_two_pow (n := 16) hx hy
theorem bt_and (x y t : Nat) : bt (x &&& y) t = if bt y t = 0 then 0 else bt x t := by
  unfold bt; rw [Nat.testBit_and]; cases x.testBit t <;> cases y.testBit t <;> rfl
theorem bt_xor (x y t : Nat) : bt (x ^^^ y) t = if bt x t = bt y t then 0 else 1 := by
  unfold bt; rw [Nat.testBit_xor]; cases x.testBit t <;> cases y.testBit t <;> rfl
theorem bt_or (x y t : Nat) : bt (x ||| y) t = if bt y t = 0 then bt x t else 1 := by
  unfold bt; rw [Nat.testBit_or]; cases x.testBit t <;> cases y.testBit t <;> rfl
theorem bt_p2 (k t : Nat) : bt (2 ^ k) t = if t = k then 1 else 0 := by
  unfold bt; rw [Nat.testBit_two_pow]
  by_cases h : k = t
  · rw [if_pos h.symm]; simp [h]
  · rw [if_neg (fun q => h q.symm)]; simp [h]
theorem bt_0 (t : Nat) : bt 0 t = 0 := by unfold bt; rw [Nat.zero_testBit]; rfl
theorem bt_hi {x t : Nat} (hx : x < 65536) (ht : 16 ≤ t) : bt x t = 0 := by
  unfold bt
  rw [Nat.testBit_lt_two_pow (Nat.lt_of_lt_of_le hx (show 2 ^ 16 ≤ 2 ^ t from Nat.pow_le_pow_right (by decide) ht))]
  rfl
theorem bt_ext {x y : Nat} (hx : x < 65536) (hy : y < 65536) (h : ∀ t, t < 16 → bt x t = bt y t) : x = y := by
  apply Nat.eq_of_testBit_eq
  intro t
  have e : bt x t = bt y t := by
    by_cases q : t < 16
    · exact h t q
    · rw [bt_hi hx (by omega), bt_hi hy (by omega)]
  unfold bt at e
  revert e
  cases x.testBit t <;> cases y.testBit t <;> simp
theorem sh31 : ∀ t, t < 16 → ((nI t &&& 31).toBitVec.smod 32).toNat = t := by decide +kernel
theorem ir_nI {x t : Nat} (hx : x < 65536) (ht : t < 16) : ir (nI x) (nI t) = nI (bt x t) := by
  unfold ir
  rw [pk_shrN (by omega) _ t (sh31 t ht), pk_andN (n := x / 2 ^ t) (Nat.lt_of_le_of_lt (Nat.div_le_self _ _) (by omega)) 1 (by decide), show 2 ^ 1 = 2 from rfl, bt_div]
  rcases bt_01 x t with h | h <;> rw [h] <;> decide
theorem one_shl : ∀ t, t < 16 → (1 : Int32) <<< (nI t &&& 31) = nI (2 ^ t) := by decide +kernel
theorem p2_16 : ∀ t, t < 16 → 2 ^ t < 65536 := by decide
theorem m1_nI : (-1 : Int32) = nI 4294967295 := by decide
theorem bt_m1 : ∀ t, t < 16 → bt 4294967295 t = 1 := by decide +kernel
theorem bt_12 : ∀ t, t < 16 → bt 4294963200 t = if t < 12 then 0 else 1 := by decide +kernel
theorem bt_4095 : ∀ t, t < 16 → bt 4095 t = if t < 12 then 1 else 0 := by decide +kernel
def phN (x t : Nat) (is : Int32) : Nat := if is = 0 then x &&& (2 ^ t ^^^ 4294967295) else x ||| 2 ^ t
theorem phv_nI {x t : Nat} {is : Int32} (hx : x < 65536) (ht : t < 16) : phv (nI x) (nI t) is = nI (phN x t is) := by
  have h2 := p2_16 t ht
  unfold phv phN
  rw [one_shl t ht]
  split
  · rw [m1_nI, nI_xor (by omega) (by decide), nI_and (by omega) (Nat.xor_lt_two_pow (by omega) (by decide))]
  · rw [nI_or (by omega) (by omega)]
theorem phN_lt {x t : Nat} {is : Int32} (hx : x < 65536) (ht : t < 16) : phN x t is < 65536 := by
  unfold phN
  split
  · exact and16 hx
  · exact or16 hx (p2_16 t ht)
theorem bt_phN {x t s : Nat} {is : Int32} (hs : s < 16) : bt (phN x t is) s = if s = t then (if is = 0 then 0 else 1) else bt x s := by
  unfold phN
  split
  · rw [bt_and, bt_xor, bt_p2, bt_m1 s hs]
    by_cases h : s = t
    · rw [if_pos h, if_pos h]; rfl
    · rw [if_neg h, if_neg h]; rfl
  · rw [bt_or, bt_p2]
    by_cases h : s = t
    · rw [if_pos h, if_pos h]; rfl
    · rw [if_neg h, if_neg h]; rfl
def n1 (x : Nat) : Nat := x - (x / 2 &&& 1431655765)
def n2 (a : Nat) : Nat := (a &&& 858993459) + (a / 4 &&& 858993459)
def n3 (b : Nat) : Nat := (b + b / 16) &&& 252645135
def n4 (c : Nat) : Nat := c + c / 256
def n5 (d : Nat) : Nat := d + d / 65536
def nbc (x : Nat) : Nat := n5 (n4 (n3 (n2 (n1 x)))) &&& 63
def b1 (a : Int32) : Int32 := a - (ush a 1 &&& 1431655765)
def b2 (a : Int32) : Int32 := (a &&& 858993459) + (ush a 2 &&& 858993459)
def b3 (b : Int32) : Int32 := (b + ush b 4) &&& 252645135
def b4 (b : Int32) : Int32 := b + ush b 8
def b5 (b : Int32) : Int32 := b + ush b 16
theorem bcnt_b (x : Int32) : bcnt x = b5 (b4 (b3 (b2 (b1 x)))) &&& 63 := rfl
theorem ush_nI {x : Nat} (hx : x < 2 ^ 32) (s : Int32) (k : Nat) (hs : ((s.toUInt32 &&& Int32.toUInt32 31).toBitVec % 32).toNat = k) : ush (nI x) s = nI (x / 2 ^ k) := pk_ushrN hx s k hs
theorem b1_n {x : Nat} (hx : x < 65536) : b1 (nI x) = nI (n1 x) ∧ n1 x < 65536 := by
  unfold b1 n1
  refine ⟨?_, by omega⟩
  have h9 : x / 2 &&& 1431655765 ≤ x := Nat.le_trans Nat.and_le_left (Nat.div_le_self _ _)
  rw [show (1431655765 : Int32) = nI 1431655765 by decide, ush_nI (by omega) 1 1 (by decide), nI_and (by omega) (by decide), pk_sub h9]
theorem b2_n {x : Nat} (hx : x < 65536) : b2 (nI x) = nI (n2 x) ∧ n2 x < 131072 := by
  unfold b2 n2
  have h1 : x &&& 858993459 ≤ x := Nat.and_le_left
  have h2 : x / 4 &&& 858993459 ≤ x / 4 := Nat.and_le_left
  refine ⟨?_, by omega⟩
  rw [show (858993459 : Int32) = nI 858993459 by decide, ush_nI (by omega) 2 2 (by decide), nI_and (by omega) (by decide), nI_and (by omega) (by decide), nI_add]
theorem b3_n {x : Nat} (hx : x < 131072) : b3 (nI x) = nI (n3 x) ∧ n3 x < 262144 := by
  unfold b3 n3
  have h1 : (x + x / 16) &&& 252645135 ≤ x + x / 16 := Nat.and_le_left
  refine ⟨?_, by omega⟩
  rw [show (252645135 : Int32) = nI 252645135 by decide, ush_nI (by omega) 4 4 (by decide), nI_add, nI_and (by omega) (by decide)]
theorem b4_n {x : Nat} (hx : x < 262144) : b4 (nI x) = nI (n4 x) ∧ n4 x < 524288 := by
  unfold b4 n4
  refine ⟨?_, by omega⟩
  rw [ush_nI (by omega) 8 8 (by decide), nI_add]
theorem b5_n {x : Nat} (hx : x < 524288) : b5 (nI x) = nI (n5 x) ∧ n5 x < 1048576 := by
  unfold b5 n5
  refine ⟨?_, by omega⟩
  rw [ush_nI (by omega) 16 16 (by decide), nI_add]
theorem bcnt_nbc {x : Nat} (hx : x < 65536) : bcnt (nI x) = nI (nbc x) := by
  have h1 := b1_n hx
  have h2 := b2_n h1.2
  have h3 := b3_n h2.2
  have h4 := b4_n h3.2
  have h5 := b5_n h4.2
  rw [bcnt_b, h1.1, h2.1, h3.1, h4.1, h5.1, show (63 : Int32) = nI 63 by decide, nI_and (by omega) (by decide)]
  rfl
def pop16 (x : Nat) : Nat := x % 2 + x / 2 % 2 + x / 4 % 2 + x / 8 % 2 + x / 16 % 2 + x / 32 % 2 + x / 64 % 2 + x / 128 % 2 + x / 256 % 2 + x / 512 % 2 + x / 1024 % 2 + x / 2048 % 2 + x / 4096 % 2 + x / 8192 % 2 + x / 16384 % 2 + x / 32768 % 2
def pop8 (x : Nat) : Nat := x % 2 + x / 2 % 2 + x / 4 % 2 + x / 8 % 2 + x / 16 % 2 + x / 32 % 2 + x / 64 % 2 + x / 128 % 2
theorem and_app {u v p q : Nat} (hv : v < 256) (hq : q < 256) : (256 * u + v) &&& (256 * p + q) = 256 * (u &&& p) + (v &&& q) := by
  apply Nat.eq_of_testBit_eq
  intro j
  have hvq : v &&& q < 2 ^ 8 := Nat.lt_of_le_of_lt Nat.and_le_left hv
  rw [Nat.testBit_and, show (256 : Nat) = 2 ^ 8 from rfl, Nat.testBit_two_pow_mul_add _ hv, Nat.testBit_two_pow_mul_add _ hq, Nat.testBit_two_pow_mul_add _ hvq, Nat.testBit_and, Nat.testBit_and]
  split <;> rfl
theorem k1a : ∀ a, a < 2 → ∀ b, b < 256 → (128 * a + b / 2) &&& 85 = b / 2 &&& 85 := by decide +kernel
theorem k1b : ∀ b, b < 256 → b / 2 &&& 85 = b / 2 &&& 1431655765 ∧ b / 2 &&& 5592405 = b / 2 &&& 1431655765 ∧ n1 b < 171 := by decide +kernel
theorem n1_app {a b : Nat} (ha : a < 256) (hb : b < 256) : n1 (256 * a + b) = 256 * n1 a + n1 b := by
  unfold n1
  rw [show (256 * a + b) / 2 = 256 * (a / 2) + (128 * (a % 2) + b / 2) by omega, show 1431655765 = 256 * 5592405 + 85 by decide, and_app (by omega) (by omega), k1a _ (by omega) _ hb, (k1b b hb).1, (k1b a ha).2.1, ← (show 1431655765 = 256 * 5592405 + 85 by decide)]
  have h1 : a / 2 &&& 1431655765 ≤ a / 2 := Nat.and_le_left
  have h2 : b / 2 &&& 1431655765 ≤ b / 2 := Nat.and_le_left
  omega
theorem k2a : ∀ a, a < 4 → ∀ b, b < 256 → (64 * a + b / 4) &&& 51 = b / 4 &&& 51 := by decide +kernel
theorem k2b : ∀ b, b < 256 → (b &&& 51) + (b / 4 &&& 51) = n2 b ∧ (b &&& 3355443) + (b / 4 &&& 3355443) = n2 b ∧ n2 b < 103 := by decide +kernel
theorem n2_app {a b : Nat} (ha : a < 256) (hb : b < 256) : n2 (256 * a + b) = 256 * n2 a + n2 b := by
  rw [← (k2b b hb).1, ← (k2b a ha).2.1]
  unfold n2
  rw [show (256 * a + b) / 4 = 256 * (a / 4) + (64 * (a % 4) + b / 4) by omega, show 858993459 = 256 * 3355443 + 51 by decide, and_app (by omega) (by omega), and_app (by omega) (by omega), k2a _ (by omega) _ hb]
  omega
theorem k3a : ∀ a, a < 16 → ∀ b, b < 85 → (b + (16 * (a % 8) + b / 16)) &&& 15 = (b + b / 16) &&& 15 := by decide +kernel
theorem k3b : ∀ b, b < 256 → (b + b / 16) &&& 15 = (b + b / 16) % 16 ∧ (b + b / 16) &&& 986895 = n3 b := by decide +kernel
theorem k3c : ∀ b, b < 256 → n2 (n1 b) < 69 ∧ n2 (n1 b) % 16 < 5 ∧ n3 (n2 (n1 b)) = pop8 b ∧ (n2 (n1 b) + n2 (n1 b) / 16) &&& 15 = pop8 b ∧ pop8 b < 9 := by decide +kernel
theorem n3_app {a b : Nat} (ha : a < 256) (hb : b < 256) : n3 (n2 (n1 (256 * a + b))) = 256 * pop8 a + pop8 b := by
  have hA := k3c a ha
  have hB := k3c b hb
  rw [n1_app ha hb, n2_app (by have := (k1b a ha).2.2; omega) (by have := (k1b b hb).2.2; omega), ← hA.2.2.1, ← hB.2.2.2.1, ← (k3b (n2 (n1 a)) (by omega)).2]
  generalize n2 (n1 a) = u at hA ⊢
  generalize n2 (n1 b) = v at hB ⊢
  unfold n3
  have e := k3a (u % 16) (by omega) v (by omega)
  rw [show u % 16 % 8 = u % 16 by omega] at e
  rw [show 256 * u + v + (256 * u + v) / 16 = 256 * (u + u / 16) + (v + (16 * (u % 16) + v / 16)) by omega, show 252645135 = 256 * 986895 + 15 by decide, and_app (by omega) (by omega), e]
theorem pop16_8 (x : Nat) : pop8 (x / 256) + pop8 (x % 256) = pop16 x := by
  have l0 : x % 256 % 2 = x % 2 := by omega
  have l1 : x % 256 / 2 % 2 = x / 2 % 2 := by omega
  have l2 : x % 256 / 4 % 2 = x / 4 % 2 := by omega
  have l3 : x % 256 / 8 % 2 = x / 8 % 2 := by omega
  have l4 : x % 256 / 16 % 2 = x / 16 % 2 := by omega
  have l5 : x % 256 / 32 % 2 = x / 32 % 2 := by omega
  have l6 : x % 256 / 64 % 2 = x / 64 % 2 := by omega
  have l7 : x % 256 / 128 % 2 = x / 128 % 2 := by omega
  have h1 : x / 256 / 2 % 2 = x / 512 % 2 := by omega
  have h2 : x / 256 / 4 % 2 = x / 1024 % 2 := by omega
  have h3 : x / 256 / 8 % 2 = x / 2048 % 2 := by omega
  have h4 : x / 256 / 16 % 2 = x / 4096 % 2 := by omega
  have h5 : x / 256 / 32 % 2 = x / 8192 % 2 := by omega
  have h6 : x / 256 / 64 % 2 = x / 16384 % 2 := by omega
  have h7 : x / 256 / 128 % 2 = x / 32768 % 2 := by omega
  unfold pop8 pop16
  rw [l0, l1, l2, l3, l4, l5, l6, l7, h1, h2, h3, h4, h5, h6, h7]
  generalize x % 2 = a0
  generalize x / 2 % 2 = a1
  generalize x / 4 % 2 = a2
  generalize x / 8 % 2 = a3
  generalize x / 16 % 2 = a4
  generalize x / 32 % 2 = a5
  generalize x / 64 % 2 = a6
  generalize x / 128 % 2 = a7
  generalize x / 256 % 2 = a8
  generalize x / 512 % 2 = a9
  generalize x / 1024 % 2 = a10
  generalize x / 2048 % 2 = a11
  generalize x / 4096 % 2 = a12
  generalize x / 8192 % 2 = a13
  generalize x / 16384 % 2 = a14
  generalize x / 32768 % 2 = a15
  omega
theorem nbc_pop {x : Nat} (hx : x < 65536) : nbc x = pop16 x := by
  have ha : x / 256 < 256 := by omega
  have hb : x % 256 < 256 := by omega
  have e : x = 256 * (x / 256) + x % 256 := by omega
  have h1 := n3_app ha hb
  rw [← e] at h1
  have q1 := (k3c _ ha).2.2.2.2
  have q2 := (k3c _ hb).2.2.2.2
  have e5 : n5 (n4 (n3 (n2 (n1 x)))) = 256 * pop8 (x / 256) + (pop8 (x / 256) + pop8 (x % 256)) := by
    rw [h1]; unfold n5 n4; omega
  unfold nbc
  rw [e5, show (63 : Nat) = 2 ^ 6 - 1 from rfl, Nat.and_two_pow_sub_one_eq_mod]
  have e6 := pop16_8 x
  omega
theorem pop16_pop (x : Nat) : pop16 x = pop x 16 := by
  simp only [pop, pop16, ← bt_div, Nat.zero_add, Nat.pow_zero, Nat.div_one, Nat.reducePow]
theorem bcnt_nI {x : Nat} (hx : x < 65536) : bcnt (nI x) = nI (pop x 16) := by
  rw [bcnt_nbc hx, ← pop16_pop, nbc_pop hx]
theorem pop_le (x : Nat) : ∀ n, pop x n ≤ n
  | 0 => Nat.le_refl _
  | n + 1 => by unfold pop; have := pop_le x n; have := bt_le x n; omega
theorem pop_ext {x y : Nat} : ∀ n, (∀ t, t < n → bt x t = bt y t) → pop x n = pop y n
  | 0, _ => rfl
  | n + 1, h => by unfold pop; rw [h n (Nat.lt_succ_self n), pop_ext n (fun t ht => h t (Nat.lt_succ_of_lt ht))]
theorem sumB_N {h : Nat → Int32} {f : Nat → Nat} : ∀ n, (∀ r, r < n → h r = nI (f r)) → sumB h n = nI (sumN f n)
  | 0, _ => rfl
  | n + 1, e => by unfold sumB sumN; rw [sumB_N n (fun r hr => e r (by omega)), e n (by omega), nI_add]
theorem sumN_ext {f g : Nat → Nat} : ∀ n, (∀ r, r < n → f r = g r) → sumN f n = sumN g n
  | 0, _ => rfl
  | n + 1, e => by unfold sumN; rw [sumN_ext n (fun r hr => e r (by omega)), e n (by omega)]
