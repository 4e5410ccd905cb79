/-! the relation: time -/
theorem tm_nat {f g k : Nat} (hf : 100 ≤ f) (hf2 : f ≤ 900) (hg : g ≤ 50) (hk : k ≤ 200) : nI f + nI k * nI g / 10 = nI (f + k * g / 10) ∧ 100 ≤ f + k * g / 10 ∧ f + k * g / 10 ≤ 1900 := by
  have h1 : k * g ≤ 200 * 50 := Nat.mul_le_mul hk hg
  refine ⟨?_, by omega, by omega⟩
  rw [pk_mul, show (10 : Int32) = nI 10 from rfl, pk_div (by omega) (by decide) (by decide), nI_add]
theorem tms_tm {I M : Nat → Nat → Int32} (h : RSe I M) {f g : Nat} (hf : 100 ≤ f) (hf2 : f ≤ 900) (hg : g ≤ 50) (e1 : M 0 13 = nI f) (e2 : M 0 14 = nI g) : ∀ k, k ≤ 200 → tms I k = tmM f g k
  | 0, _ => rfl
  | k + 1, hk => by
    obtain ⟨a, b, c⟩ := tm_nat hf hf2 hg (show k ≤ 200 by omega)
    unfold tms tmM mrw
    rw [tms_tm h hf hf2 hg e1 e2 k (by omega), h.2.2.2.2.1, h.2.2.2.2.2.1, e1, e2, a, if_neg (nI_nle (by omega) (by omega))]
    congr 1
    generalize f + k * g / 10 = n at b c ⊢
    have hd : 1000000 / n ≤ 10000 := by
      have := Nat.div_le_div_left b (show 0 < 100 by decide) (a := 1000000)
      omega
    rw [show (1000000 : Int32) = nI 1000000 from rfl, pk_div (by decide) (by omega) (by omega), nI_l (by omega), nI_l (by omega), show (1000000 : Int64) = lN 1000000 from rfl, pk_lDiv (by decide) (by omega) (by omega)]
