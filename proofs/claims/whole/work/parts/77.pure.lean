/-! the relation: a row is played -/
def PLy (I M : Nat → Nat → Int32) (r : Nat) : Prop := (r ≤ 200 ∧ I 3 4 = nI r ∧ M 0 7 = nI r) ∧ (I 3 5 = M 0 8 ∧ I 3 6 = M 0 9) ∧ (I 3 7 = M 0 10 ∧ asd (M 0 10)) ∧ (I 3 10 = M 0 16 ∧ (M 0 16 = 0 ∨ M 0 16 = 1)) ∧ (∃ x, x < 65536 ∧ I 3 12 = nI x ∧ ∀ t, t < 16 → M 6 t = nI (bt x t)) ∧ ∀ w, w < 12 → VSt I M w
/-- what a row starts from -/
theorem row_in {I M : Nat → Nat → Int32} {S : SZ} {j r y : Nat} (hS : RSe I M) (hV : RVa I M) (hK : RCo I M) (hL : RLo I M S) (hP : PLy I M r) (hy : y < 65536) (e : ∀ t, t < 16 → roV M j r t = nI (bt y t)) : RRow (up2 (mkl I (nI y)) 3 11 (ir (nI y) 12)) (codI (rdI M j r 16)) S r ∧ (∀ t, t < 16 → codI (rdI M j r 16) 7 t = nI (bt y t)) ∧ mkl I (nI y) 3 10 = codI (rdI M j r 16) 0 16 := by
  obtain ⟨⟨h1, h2, h3⟩, ⟨h4, h5⟩, -, ⟨h8, h9⟩, ⟨x, hx, h10, h11⟩, h12⟩ := hP
  obtain ⟨s1, s2, s3, s4, -⟩ := hS
  have e7 : ∀ t, t < 16 → rdI M j r 16 7 t = nI (bt y t) := fun t ht => by
    unfold rdI; rw [upr_s, if_pos ht]; exact e t ht
  have e0 : rdI M j r 16 0 = M 0 := rdI_n (by decide)
  have e6 : rdI M j r 16 6 = M 6 := rdI_n (by decide)
  have i13 : (13 : Int32) = nI 13 := rfl
  have i14 : (14 : Int32) = nI 14 := rfl
  have hc := mk_cod (I := I) (M := rdI M j r 16) (X := nI y) (by rw [e7 13 (by decide), i13, ir_nI hy (by decide)]) (by rw [e7 14 (by decide), i14, ir_nI hy (by decide)]) (by rw [e6, h11 13 (by decide), h10, i13, ir_nI hx (by decide)]) (by rw [e6, h11 14 (by decide), h10, i14, ir_nI hx (by decide)]) (by rw [e0]; exact h5) (by rw [e0]; exact h8) (by rw [e0]; exact h9) (by rw [e0]; exact s3) (by rw [e0]; exact s4)
  have fa : ∀ a, a ≠ 3 → up2 (mkl I (nI y)) 3 11 (ir (nI y) 12) a = I a := fun a ha => by rw [up2_row ha, mkl_n ha]
  have fA : ∀ a, a ≠ 0 → a ≠ 7 → codI (rdI M j r 16) a = M a := fun a q1 q2 => by rw [codI_n q1, rdI_n q2]
  have fa3 : ∀ b, b ≠ 6 → b ≠ 10 → b ≠ 11 → up2 (mkl I (nI y)) 3 11 (ir (nI y) 12) 3 b = I 3 b := fun b q1 q2 q3 => by rw [up2_n (Or.inr q3), mkl_3 q1 q2]
  have fA0 : ∀ b, b ≠ 9 → b ≠ 16 → codI (rdI M j r 16) 0 b = M 0 b := fun b q1 q2 => by rw [codI_b q1 q2, e0]
  refine ⟨⟨⟨h1, by rw [fa3 4 (by decide) (by decide) (by decide)]; exact h2, by rw [fA0 7 (by decide) (by decide)]; exact h3⟩, ⟨by rw [fa3 5 (by decide) (by decide) (by decide), fA0 8 (by decide) (by decide)]; exact h4, by rw [up2_n (Or.inr (by decide))]; exact hc.1⟩, ⟨fun b hb => by rw [fa 15 (by decide), fA 5 (by decide) (by decide)]; exact s1 b hb, by rw [fA 5 (by decide) (by decide)]; exact s2⟩, fun v hv => by rw [fa (24 + v) (by omega), fA (20 + v) (by omega) (by omega)]; exact hV v hv, ⟨by rw [fa3 8 (by decide) (by decide) (by decide), fA0 11 (by decide) (by decide)]; exact hK.1, by rw [fa3 9 (by decide) (by decide) (by decide), fA0 12 (by decide) (by decide)]; exact hK.2⟩, RLo_c hL (by rw [fa 17 (by decide)]) (fun b hb => fa _ (by omega)) (fun n => fA _ (by omega) (by omega)), fun w hw => VSt_c (h12 w hw) (fa _ (by omega)) (fA _ (by omega) (by omega))⟩, fun t ht => by rw [codI_n (by decide)]; exact e7 t ht, hc.2⟩
theorem plS_at {A : Nat → Nat → Int32} {S : SZ} {v : Nat} : ∀ d, v + 1 + d ≤ 12 → (plS A S (v + 1 + d)).1 (20 + v) = (plS A S (v + 1)).1 (20 + v)
  | 0, _ => rfl
  | d + 1, h => by
    have ih := plS_at (A := A) (S := S) (v := v) d (by omega)
    rw [show v + 1 + (d + 1) = (v + 1 + d) + 1 by omega, plS_s]
    generalize plS A S (v + 1 + d) = P at ih ⊢
    generalize hoV P.1 (v + 1 + d) 12 = h9
    dsimp only
    rw [mvM_r (by omega) (by omega) (by omega) (by omega)]
    exact ih
theorem drw_us {K A : Nat → Nat → Int32} {S T : SZ} {r : Nat} (w : RRow K (plS A S 12).1 T r) : ∀ k, k ≤ 12 → drw K k = K 15 3 + usV A S k
  | 0, _ => (Int32.add_zero _).symm
  | k + 1, hk => by
    have ih := drw_us w k (by omega)
    have ha := plS_at (A := A) (S := S) (v := k) (11 - k) (by omega)
    rw [show k + 1 + (11 - k) = 12 by omega] at ha
    have hb := (w.2.2.2.1 k (by omega)).1 2 (by decide)
    obtain ⟨ho, -, -⟩ := w.2.2.2.2.2.2 k (by omega)
    unfold drw usV
    rw [ih, ← ha]
    generalize plS A S 12 = P at hb ho ⊢
    rcases ho with ⟨a, b⟩ | ⟨a, b, -, -⟩
    · rw [a, b, if_pos rfl, if_pos rfl, Int32.add_zero]
    · rw [a, b, if_neg n10, if_neg n10, hb, Int32.add_assoc]
