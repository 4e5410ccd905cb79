/-! the relation: a row as a whole -/
theorem RSe_c {I J M Q : Nat → Nat → Int32} (h : RSe I M) (h1 : J 15 = I 15) (h2 : J 0 8 = I 0 8) (h3 : J 0 9 = I 0 9) (h4 : Q 5 = M 5) (h5 : ∀ b, b = 13 ∨ b = 14 ∨ b = 17 → Q 0 b = M 0 b) : RSe J Q := by
  unfold RSe at h ⊢
  rw [h1, h2, h3, h4, h5 13 (Or.inl rfl), h5 14 (Or.inr (Or.inl rfl)), h5 17 (Or.inr (Or.inr rfl))]; exact h
theorem mv3_n {I : Nat → Nat → Int32} {v a : Nat} (h : a ≠ 24 + v) (h3 : a ≠ 3) (h4 : a < 17) : mv3 I v a = I a := by
  have e2 : mv2 I v a = I a := by
    unfold mv2
    split
    · rfl
    · split
      · split
        · exact enH_n h (by omega)
        · rfl
      · exact enH_n h (by omega)
  unfold mv3
  split
  · exact e2
  · rw [bgS_n h h3 (Or.inl h4), e2]
theorem mvs_n {I : Nat → Nat → Int32} {fed : Int32} {a : Nat} (h3 : a ≠ 3) (h4 : a < 17) : ∀ k, mvs I fed k a = I a
  | 0 => rfl
  | k + 1 => by unfold mvs; rw [mv3_n (by omega) h3 h4, mvV_n (by omega) h3, mvs_n h3 h4 k]
theorem plS_n {A : Nat → Nat → Int32} {S : SZ} {a : Nat} (h0 : a ≠ 0) (h3 : a ≠ 3) (h : a < 20 ∨ (32 ≤ a ∧ a < 8000)) : ∀ k, k ≤ 12 → (plS A S k).1 a = A a
  | 0, _ => rfl
  | k + 1, hk => by
    have ih := plS_n (A := A) (S := S) h0 h3 h k (by omega)
    rw [plS_s]
    generalize plS A S k = P at ih ⊢
    generalize hoV P.1 k 12 = h9
    dsimp only
    rw [mvM_r (by omega) h0 h3 (by omega)]
    exact ih
theorem sub3 (a b c : Int32) : a - (b + c) = a - b - c := by
  rw [Int32.sub_eq_add_neg a (b + c), Int32.neg_add, Int32.sub_eq_add_neg (-b) c, Int32.sub_eq_add_neg (a - b) c, Int32.sub_eq_add_neg a b, Int32.add_assoc]
theorem st_row {I M : Nat → Nat → Int32} {S : SZ} {j r : Nat} (hR : RR I M S) (hS : RSe I M) (hV : RVa I M) (hK : RCo I M) (hL : RLo I M S) (hP : PLy I M r) (hPI : PI M S) (hj : j < S.1) (hr : r < 200) : RSe (plr I j) (pyM M S j r) ∧ RVa (plr I j) (pyM M S j r) ∧ RCo (plr I j) (pyM M S j r) ∧ RLo (plr I j) (pyM M S j r) (pyZ M S j r) ∧ PLy (plr I j) (pyM M S j r) (r + 1) ∧ (∀ a, a ≠ 3 → a < 17 → plr I j a = I a) ∧ (∀ a, a ≠ 0 → a ≠ 3 → a ≠ 6 → a ≠ 7 → (a < 20 ∨ (32 ≤ a ∧ a < 8000)) → pyM M S j r a = M a) ∧ pyM M S j r 0 6 = M 0 6 := by
  obtain ⟨y, hy, e1, e2⟩ := rh_bits hR hj hr hP.1.2.1 hP.2.2.1.1 hP.2.2.1.2
  obtain ⟨w, h7, hlt⟩ := row_in (j := j) hS hV hK hL hP hy e2
  have hPA := PI_cod (j := j) (r := r) (n := 16) hPI
  have w12 := st_all w hPA hy h7 up2_s 12 (Nat.le_refl _)
  have hd := drw_us w12 12 (Nat.le_refl _)
  have eA0 : ∀ b, b ≠ 9 → b ≠ 16 → codI (rdI M j r 16) 0 b = M 0 b := fun b q1 q2 => by rw [codI_b q1 q2, rdI_n (by decide)]
  have fp : ∀ a, a ≠ 0 → a ≠ 3 → a ≠ 7 → (a < 20 ∨ (32 ≤ a ∧ a < 8000)) → (plS (codI (rdI M j r 16)) S 12).1 a = M a := fun a q0 q3 q7 q => by rw [plS_n q0 q3 q 12 (Nat.le_refl _), codI_n q0, rdI_n q7]
  have fp0 : ∀ b, b ≠ 9 → b ≠ 11 → b ≠ 12 → b ≠ 16 → (plS (codI (rdI M j r 16)) S 12).1 0 b = M 0 b := fun b q1 q2 q3 q4 => by rw [plS_0 q2 q3 12, eA0 b q1 q4]
  have fp16 : (plS (codI (rdI M j r 16)) S 12).1 0 16 = codI (rdI M j r 16) 0 16 := plS_0 (b := 16) (by decide) (by decide) 12
  have fp7 : ∀ t, t < 16 → (plS (codI (rdI M j r 16)) S 12).1 7 t = nI (bt y t) := fun t ht => by rw [(plS_b 12 (Nat.le_refl _)).2]; exact h7 t ht
  have fk : ∀ a, a ≠ 3 → a < 17 → mvs (up2 (mkl I (nI y)) 3 11 (ir (nI y) 12)) (ffd (up2 (mkl I (nI y)) 3 11 (ir (nI y) 12)) (nI y) 12) 12 a = I a := fun a q1 q2 => by rw [mvs_n q1 q2, up2_row q1, mkl_n q1]
  have fk3 : ∀ b, b ≠ 6 → b ≠ 8 → b ≠ 9 → b ≠ 10 → b ≠ 11 → mvs (up2 (mkl I (nI y)) 3 11 (ir (nI y) 12)) (ffd (up2 (mkl I (nI y)) 3 11 (ir (nI y) 12)) (nI y) 12) 12 3 b = I 3 b := fun b q1 q2 q3 q4 q5 => by rw [mvs_3 q2 q3, up2_n (Or.inr q5), mkl_3 q1 q4]
  have fk10 : mvs (up2 (mkl I (nI y)) 3 11 (ir (nI y) 12)) (ffd (up2 (mkl I (nI y)) 3 11 (ir (nI y) 12)) (nI y) 12) 12 3 10 = codI (rdI M j r 16) 0 16 := by rw [mvs_3 (by decide) (by decide), up2_n (Or.inr (by decide))]; exact hlt
  have h01 : codI (rdI M j r 16) 0 16 = 0 ∨ codI (rdI M j r 16) 0 16 = 1 := by rw [← hlt]; exact mkl_310 (by rw [hP.2.2.2.1.1]; exact hP.2.2.2.1.2)
  have eI : plr I j = up2 (up2 (mvSu (mvs (up2 (mkl I (nI y)) 3 11 (ir (nI y) 12)) (ffd (up2 (mkl I (nI y)) 3 11 (ir (nI y) 12)) (nI y) 12) 12)) 3 12 (nI y)) 3 4 (mvSu (mvs (up2 (mkl I (nI y)) 3 11 (ir (nI y) 12)) (ffd (up2 (mkl I (nI y)) 3 11 (ir (nI y) 12)) (nI y) 12) 12) 3 4 + 1) := by unfold plr; rw [e1]
  have eZ : pyZ M S j r = (plS (codI (rdI M j r 16)) S 12).2 := by unfold pyZ; rfl
  rw [eI, eZ]
  unfold pyM pyD pyC
  generalize usV (codI (rdI M j r 16)) S 12 = us at hd ⊢
  generalize plS (codI (rdI M j r 16)) S 12 = P at w12 hd fp fp0 fp16 fp7 ⊢
  generalize codI (rdI M j r 16) 0 16 = lat at h01 fk10 fp16
  generalize mvs (up2 (mkl I (nI y)) 3 11 (ir (nI y) 12)) (ffd (up2 (mkl I (nI y)) 3 11 (ir (nI y) 12)) (nI y) 12) 12 = K at w12 hd fk fk3 fk10 ⊢
  clear hPA h7 hlt eA0 eI eZ w
  obtain ⟨⟨w1, w2, w3⟩, ⟨w4, w5⟩, ⟨w6, w7⟩, w8, w9, w10, w11⟩ := w12
  have eS : mvSu K = up2 K 3 5 (mx2 0 (mn2 1000 (P.1 0 8 + P.1 5 2) - P.1 5 3 - us)) := by
    unfold mvSu
    rw [hd, w4, w6 2 (by decide), w6 3 (by decide)]
    rw [sub3]
  rw [eS]
  generalize mx2 0 (mn2 1000 (P.1 0 8 + P.1 5 2) - P.1 5 3 - us) = su
  have gk : ∀ a, a ≠ 3 → up2 (up2 (up2 K 3 5 su) 3 12 (nI y)) 3 4 (up2 K 3 5 su 3 4 + 1) a = K a := fun a q => by rw [up2_row q, up2_row q, up2_row q]
  have gk3 : ∀ b, b ≠ 4 → b ≠ 5 → b ≠ 12 → up2 (up2 (up2 K 3 5 su) 3 12 (nI y)) 3 4 (up2 K 3 5 su 3 4 + 1) 3 b = K 3 b := fun b q1 q2 q3 => by rw [up2_n (Or.inr q1), up2_n (Or.inr q3), up2_n (Or.inr q2)]
  have gp : ∀ a, a ≠ 0 → a ≠ 6 → upr (up2 (up2 P.1 0 8 su) 0 7 (up2 P.1 0 8 su 0 7 + 1)) 6 (up2 (up2 P.1 0 8 su) 0 7 (up2 P.1 0 8 su 0 7 + 1) 7) a = P.1 a := fun a q1 q2 => by rw [upr_n q2, up2_row q1, up2_row q1]
  have gp0 : ∀ b, b ≠ 7 → b ≠ 8 → upr (up2 (up2 P.1 0 8 su) 0 7 (up2 P.1 0 8 su 0 7 + 1)) 6 (up2 (up2 P.1 0 8 su) 0 7 (up2 P.1 0 8 su 0 7 + 1) 7) 0 b = P.1 0 b := fun b q1 q2 => by rw [upr_n (by decide), up2_n (Or.inr q1), up2_n (Or.inr q2)]
  refine ⟨?_, ?_, ?_, ?_, ?_, ?_, ?_, ?_⟩
  · exact RSe_c hS (by rw [gk 15 (by decide), fk 15 (by decide) (by decide)]) (by rw [gk 0 (by decide), fk 0 (by decide) (by decide)]) (by rw [gk 0 (by decide), fk 0 (by decide) (by decide)]) (by rw [gp 5 (by decide) (by decide), fp 5 (by decide) (by decide) (by decide) (by decide)]) (fun b hb => by rw [gp0 b (by omega) (by omega), fp0 b (by omega) (by omega) (by omega) (by omega)])
  · intro v hv
    rw [gk (24 + v) (by omega), gp (20 + v) (by omega) (by omega)]; exact w8 v hv
  · exact ⟨by rw [gk3 8 (by decide) (by decide) (by decide), gp0 11 (by decide) (by decide)]; exact w9.1, by rw [gk3 9 (by decide) (by decide) (by decide), gp0 12 (by decide) (by decide)]; exact w9.2⟩
  · exact RLo_c w10 (by rw [gk 17 (by decide)]) (fun b hb => gk _ (by omega)) (fun n => gp _ (by omega) (by omega))
  · refine ⟨⟨by omega, ?_, ?_⟩, ⟨?_, ?_⟩, ⟨?_, ?_⟩, ⟨?_, ?_⟩, ⟨y, hy, ?_, ?_⟩, fun v hv => ?_⟩
    · rw [up2_s, up2_n (Or.inr (by decide)), w2, nI_1]
    · rw [upr_n (by decide), up2_s, up2_n (Or.inr (by decide)), w3, nI_1]
    · rw [up2_n (Or.inr (by decide)), up2_n (Or.inr (by decide)), up2_s, upr_n (by decide), up2_n (Or.inr (by decide)), up2_s]
    · rw [gk3 6 (by decide) (by decide) (by decide), gp0 9 (by decide) (by decide)]; exact w5
    · rw [gk3 7 (by decide) (by decide) (by decide), fk3 7 (by decide) (by decide) (by decide) (by decide) (by decide), gp0 10 (by decide) (by decide), fp0 10 (by decide) (by decide) (by decide) (by decide)]; exact hP.2.2.1.1
    · rw [gp0 10 (by decide) (by decide), fp0 10 (by decide) (by decide) (by decide) (by decide)]; exact hP.2.2.1.2
    · rw [gk3 10 (by decide) (by decide) (by decide), fk10, gp0 16 (by decide) (by decide), fp16]
    · rw [gp0 16 (by decide) (by decide), fp16]; exact h01
    · rw [up2_n (Or.inr (by decide)), up2_s]
    · intro t ht
      rw [upr_s, up2_row (by decide), up2_row (by decide)]; exact fp7 t ht
    · exact VSt_c (w11 v hv) (gk _ (by omega)) (gp _ (by omega) (by omega))
  · intro a q1 q2
    rw [gk a q1, fk a q1 q2]
  · intro a q0 q3 q6 q7 q
    rw [gp a q0 q6, fp a q0 q3 q7 q]
  · rw [gp0 6 (by decide) (by decide), fp0 6 (by decide) (by decide) (by decide) (by decide)]
