/-! the relation: tick -/
def Pin (I M : Nat → Nat → Int32) (S : SZ) (r : Nat) : Prop := RR I M S ∧ RSe I M ∧ RVa I M ∧ RCo I M ∧ RLo I M S ∧ PLy I M r ∧ PI M S
theorem pr_tk {I M : Nat → Nat → Int32} {S : SZ} {j r : Nat} (h : Pin I M S r) (hj : j < S.1) : ∀ k, r + k ≤ 200 → Pin (prI I j k) (tkS M S j r k).1 (tkS M S j r k).2 (r + k) ∧ (tkS M S j r k).2.1 = S.1 ∧ (∀ a, a ≠ 3 → a < 17 → prI I j k a = I a) ∧ (∀ a, a ≠ 0 → a ≠ 3 → a ≠ 6 → a ≠ 7 → (a < 20 ∨ (32 ≤ a ∧ a < 8000)) → (tkS M S j r k).1 a = M a) ∧ (tkS M S j r k).1 0 6 = M 0 6
  | 0, _ => ⟨h, rfl, fun _ _ _ => rfl, fun _ _ _ _ _ _ => rfl, rfl⟩
  | k + 1, hk => by
    obtain ⟨⟨p1, p2, p3, p4, p5, p6, p7⟩, i1, i2, i3, i4⟩ := pr_tk h hj k (by omega)
    have e1 : prI I j (k + 1) = plr (prI I j k) j := rfl
    rw [tkS_s, e1]
    generalize tkS M S j r k = P at p1 p2 p3 p4 p5 p6 p7 i1 i3 i4 ⊢
    generalize prI I j k = K at p1 p2 p3 p4 p5 p6 i2 ⊢
    have hj2 : j < P.2.1 := by rw [i1]; exact hj
    obtain ⟨s1, s2, s3, s4, s5, s6, s7, s8⟩ := st_row p1 p2 p3 p4 p5 p6 p7 hj2 (show r + k < 200 by omega)
    have hz1 : (pyZ P.1 P.2 j (r + k)).1 = P.2.1 := pyZ_1
    have hPy := PI_py (j := j) (r := r + k) p7
    dsimp only
    refine ⟨⟨?_, s1, s2, s3, s4, s5, hPy⟩, hz1.trans i1, fun a q1 q2 => (s6 a q1 q2).trans (i2 a q1 q2), fun a q0 q3 q6 q7 q => (s7 a q0 q3 q6 q7 q).trans (i3 a q0 q3 q6 q7 q), s8.trans i4⟩
    have h4 := p1.2.1
    exact RR_c p1 (by rw [s6 0 (by decide) (by decide)]) (fun i hi => s6 (8 + i) (by omega) (by omega)) (fun a q1 q2 => s7 a (by omega) (by omega) (by omega) (by omega) (by omega)) hz1
theorem anN_len {I M : Nat → Nat → Int32} {S : SZ} {j r k : Nat} (h : Pin I M S r) (hj : j < S.1) (hk : r + k ≤ 200) : anN I j r k = 0 ↔ lenM M j 200 ≤ r + k := by
  have hR := h.1
  have h4 := hR.2.1
  have hp := (pr_tk h hj k hk).2.2.1 (8 + j) (by omega) (by omega)
  unfold anN
  rw [hp, anyF_iff]
  have hz : ∀ q, q < 200 → (I (8 + j) q = 0 ↔ ∀ t, t < 16 → M (6000 + 200 * j + q) t = 0) := fun q hq => by
    obtain ⟨x, hx, e1, e2, e3⟩ := hR.2.2 j (by omega) q hq
    rw [e1]
    constructor
    · intro w t ht
      have h0 : x = 0 := by
        rcases Nat.eq_zero_or_pos x with z | z
        · exact z
        · exact absurd w (nI_ne0 z (by omega))
      rw [e3 hj t ht, h0, bt_0]; rfl
    · intro w
      have h0 : x = 0 := bt_all0 hx (fun t ht => nI_bt0.mp (by rw [← e3 hj t ht]; exact w t ht))
      rw [h0]; rfl
  have hlen : ∀ n, n ≤ 200 → ∀ b, (lenM M j n ≤ b ↔ ∀ q, b ≤ q → q < n → ∀ t, t < 16 → M (6000 + 200 * j + q) t = 0) := fun n => by
    induction n with
    | zero => exact fun _ b => ⟨fun _ q _ hq => absurd hq (Nat.not_lt_zero _), fun _ => Nat.zero_le _⟩
    | succ n ih =>
      intro hn b
      have ihn := ih (by omega) b
      by_cases z : ∀ t, t < 16 → M (6000 + 200 * j + n) t = 0
      · have e : lenM M j (n + 1) = lenM M j n := lenR_0 16 z
        rw [e, ihn]
        constructor
        · intro w q h1 h2
          by_cases c : q = n
          · rw [c]; exact z
          · exact w q h1 (by omega)
        · intro w q h1 h2; exact w q h1 (by omega)
      · have e : lenM M j (n + 1) = n + 1 := lenR_1 16 (Classical.byContradiction (fun w => z (fun t ht => Classical.byContradiction (fun w2 => w ⟨t, ht, w2⟩))))
        rw [e]
        constructor
        · intro w q h1 h2; exact absurd h2 (by omega)
        · intro w
          apply Classical.byContradiction
          intro c
          exact z (w n (by omega) (Nat.lt_succ_self n))
  rw [hlen 200 (Nat.le_refl _) (r + k)]
  constructor
  · intro w q h1 h2; exact (hz q h2).mp (w q h1 (by omega))
  · intro w q h1 h2; exact (hz q (by omega)).mpr (w q h1 (by omega))
