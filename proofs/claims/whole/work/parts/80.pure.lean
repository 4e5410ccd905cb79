/-! the relation: load as a whole -/
theorem bgP_n {I : Nat → Nat → Int32} {j a : Nat} (h : a < 24 ∨ 36 ≤ a) (h3 : a ≠ 3) (h17 : a ≠ 17) (h99 : a ≠ 99) : bgP I j a = I a := by
  unfold bgP bg0 setP
  rw [rsA_n 12 (by omega), up2_row h17, up2_row h3, up2_row h3, up2_row h3, up2_row h3, up2_row h3, up2_row h3, up2_row h3, up2_row h3, up2_row h3, up2_row h99]
theorem bgP_b {I : Nat → Nat → Int32} {j v b : Nat} (hv : v < 12) (hb : b < 4) : bgP I j (24 + v) b = I (24 + v) b := by
  unfold bgP bg0 setP
  rw [rsA_b hb, up2_row (by omega), up2_row (by omega), up2_row (by omega), up2_row (by omega), up2_row (by omega), up2_row (by omega), up2_row (by omega), up2_row (by omega), up2_row (by omega), up2_row (by omega), up2_row (by omega)]
theorem bgP_99 {I : Nat → Nat → Int32} {j : Nat} : bgP I j 99 0 = if anyF (I (8 + j)) 200 0 = 0 then -1 else nI j := by
  unfold bgP bg0 setP
  rw [rsA_n 12 (by omega), up2_row (by decide), up2_row (by decide), up2_row (by decide), up2_row (by decide), up2_row (by decide), up2_row (by decide), up2_row (by decide), up2_row (by decide), up2_row (by decide), up2_row (by decide), up2_s]
theorem bgP_17 {I : Nat → Nat → Int32} {j : Nat} : bgP I j 17 6 = 0 := by
  unfold bgP
  rw [rsA_n 12 (by omega), up2_s]
theorem bgP_3 {I : Nat → Nat → Int32} {j : Nat} : bgP I j 3 4 = 0 ∧ bgP I j 3 5 = 1000 ∧ bgP I j 3 6 = 3 ∧ bgP I j 3 7 = 0 ∧ bgP I j 3 8 = 0 ∧ bgP I j 3 9 = 0 ∧ bgP I j 3 10 = 0 ∧ bgP I j 3 12 = 0 := by
  unfold bgP
  rw [rsA_n (a := 3) 12 (by omega), up2_row (a := 3) (by decide)]
  unfold bg0
  refine ⟨?_, ?_, ?_, ?_, ?_, ?_, ?_, ?_⟩ <;> simp [up2]
theorem ld2_n {M : Nat → Nat → Int32} {a : Nat} (h : a < 20 ∨ 32 ≤ a) (h0 : a ≠ 0) (h3 : a ≠ 3) (h6 : a ≠ 6) (h7 : a ≠ 7) : ld2 M a = M a := by
  unfold ld2 ld1
  rw [upr_n h6, ldV_a 12 (by omega), upr_n h7, up2_row h0, up2_row h0, up2_row h0, up2_row h0, up2_row h0, up2_row h0, up2_row h0, up2_row h3, up2_row h3]
theorem ldF_n {M : Nat → Nat → Int32} {j a : Nat} (h : a < 20 ∨ 32 ≤ a) (h0 : a ≠ 0) (h3 : a ≠ 3) (h6 : a ≠ 6) (h7 : a ≠ 7) : ldF M j a = M a := by
  unfold ldF; rw [up2_row h0, ld2_n h h0 h3 h6 h7]
theorem ldF_b {M : Nat → Nat → Int32} {j v b : Nat} (hv : v < 12) (hb : b < 4) : ldF M j (20 + v) b = M (20 + v) b := by
  unfold ldF ld2 ld1
  rw [up2_row (by omega), upr_n (by omega), ldV_b (by omega) (by omega) (by omega), upr_n (by omega), up2_row (by omega), up2_row (by omega), up2_row (by omega), up2_row (by omega), up2_row (by omega), up2_row (by omega), up2_row (by omega), up2_row (by omega), up2_row (by omega)]
theorem ldF_v {M : Nat → Nat → Int32} {j v : Nat} (hv : v < 12) : ldF M j (20 + v) 9 = 0 ∧ ldF M j (20 + v) 6 = -1 ∧ ldF M j (20 + v) 7 = 0 := by
  unfold ldF ld2
  rw [up2_row (by omega), upr_n (by omega)]
  exact ldV_v 12 hv
theorem ldF_6 {M : Nat → Nat → Int32} {j t : Nat} : ldF M j 6 t = 0 := by
  unfold ldF ld2
  rw [up2_row (by decide), upr_s, ldV_a 12 (by omega), upr_s]
theorem ld2_0 {M : Nat → Nat → Int32} {b : Nat} : ld2 M 0 b = ld1 M 0 b := by
  unfold ld2
  rw [upr_n (by decide), ldV_a 12 (by omega), upr_n (by decide)]
theorem ldF_06 {M : Nat → Nat → Int32} {j : Nat} : ldF M j 0 6 = if lenM M j 200 = 0 then -1 else nI j := by
  have e : lenM (ld2 M) j 200 = lenM M j 200 := lenM_ext 200 (fun r _ => ld2_n (by omega) (by omega) (by omega) (by omega) (by omega))
  have hl := lenM_le M j 200
  unfold ldF
  rw [up2_s, e]
  by_cases q : lenM M j 200 = 0
  · rw [if_pos q, q, if_pos (by decide)]
  · rw [if_neg q, if_neg (nI_nle (by omega) (by omega))]
theorem ldF_0 {M : Nat → Nat → Int32} {j : Nat} : ldF M j 0 7 = 0 ∧ ldF M j 0 8 = 1000 ∧ ldF M j 0 9 = 3 ∧ ldF M j 0 10 = 0 ∧ ldF M j 0 11 = 0 ∧ ldF M j 0 12 = 0 ∧ ldF M j 0 16 = 0 ∧ ∀ b, b = 13 ∨ b = 14 ∨ b = 17 → ldF M j 0 b = M 0 b := by
  unfold ldF
  refine ⟨?_, ?_, ?_, ?_, ?_, ?_, ?_, fun b hb => ?_⟩
  · rw [up2_n (Or.inr (by decide)), ld2_0]; simp [ld1, up2]
  · rw [up2_n (Or.inr (by decide)), ld2_0]; simp [ld1, up2]
  · rw [up2_n (Or.inr (by decide)), ld2_0]; simp [ld1, up2]
  · rw [up2_n (Or.inr (by decide)), ld2_0]; simp [ld1, up2]
  · rw [up2_n (Or.inr (by decide)), ld2_0]; simp [ld1, up2]
  · rw [up2_n (Or.inr (by decide)), ld2_0]; simp [ld1, up2]
  · rw [up2_n (Or.inr (by decide)), ld2_0]; simp [ld1, up2]
  · rw [up2_n (Or.inr (by omega)), ld2_0]
    rcases hb with rfl | rfl | rfl <;> simp [ld1, up2]
theorem st_load {I M : Nat → Nat → Int32} {S : SZ} {j : Nat} (hR : RR I M S) (hS : RSe I M) (hV : RVa I M) (hj : j < S.1) : RR (bgP I j) (ldF M j) (clrS3 S) ∧ RSe (bgP I j) (ldF M j) ∧ RVa (bgP I j) (ldF M j) ∧ RCo (bgP I j) (ldF M j) ∧ RLo (bgP I j) (ldF M j) (clrS3 S) ∧ PLy (bgP I j) (ldF M j) 0 ∧ bgP I j 99 0 = ldF M j 0 6 ∧ (ldF M j 0 6 = -1 ∨ ldF M j 0 6 = nI j) ∧ crw (bgP I j (8 + j)) 200 = nI (lenM (ldF M j) j 200) ∧ (∀ v, v < 12 → ldF M j (20 + v) 7 = 0) := by
  have h4 := hR.2.1
  have q3 := bgP_3 (I := I) (j := j)
  have q0 := ldF_0 (M := M) (j := j)
  have hR2 : RR (bgP I j) (ldF M j) (clrS3 S) := RR_c hR (by rw [bgP_n (by omega) (by omega) (by omega) (by omega)]) (fun i hi => bgP_n (by omega) (by omega) (by omega) (by omega)) (fun a h1 h2 => ldF_n (by omega) (by omega) (by omega) (by omega) (by omega)) rfl
  refine ⟨hR2, RSe_c hS (bgP_n (by omega) (by omega) (by omega) (by omega)) (by rw [bgP_n (by omega) (by omega) (by omega) (by omega)]) (by rw [bgP_n (by omega) (by omega) (by omega) (by omega)]) (ldF_n (by omega) (by omega) (by omega) (by omega) (by omega)) q0.2.2.2.2.2.2.2, ?_, ⟨by rw [q3.2.2.2.2.1, q0.2.2.2.2.1], by rw [q3.2.2.2.2.2.1, q0.2.2.2.2.2.1]⟩, ⟨bgP_17, Nat.zero_le _, fun n hn => absurd (show n < 0 from hn) (Nat.not_lt_zero _)⟩, ?_, ?_, ?_, ?_, fun v hv => (ldF_v hv).2.2⟩
  · intro v hv
    have hv2 := hV v hv
    refine ⟨fun b hb => by rw [bgP_b hv hb, ldF_b hv hb]; exact hv2.1 b hb, ?_, ?_⟩
    · rw [ldF_b hv (by decide)]; exact hv2.2.1
    · rw [ldF_b hv (by decide)]; exact hv2.2.2
  · refine ⟨⟨by decide, q3.1, q0.1⟩, ⟨by rw [q3.2.1, q0.2.1], by rw [q3.2.2.1, q0.2.2.1]⟩, ⟨by rw [q3.2.2.2.1, q0.2.2.2.1], Or.inl q0.2.2.2.1⟩, ⟨by rw [q3.2.2.2.2.2.2.1, q0.2.2.2.2.2.2.1], Or.inl q0.2.2.2.2.2.2.1⟩, ⟨0, by decide, q3.2.2.2.2.2.2.2, fun t ht => by rw [ldF_6, bt_0]; rfl⟩, fun v hv => ?_⟩
    have a1 : bgP I j (24 + v) 4 = 0 ∧ bgP I j (24 + v) 7 = -1000 ∧ bgP I j (24 + v) 8 = 0 ∧ bgP I j (24 + v) 9 = 0 ∧ bgP I j (24 + v) 10 = -1 := rsA_v 12 hv
    have a2 := ldF_v (M := M) (j := j) hv
    exact ⟨Or.inl ⟨a2.1, a1.1⟩, Or.inl ⟨a2.2.1, a1.2.1⟩, Or.inl ⟨a2.2.2, a1.2.2.1, a1.2.2.2.1, a1.2.2.2.2⟩⟩
  · rw [bgP_99, ldF_06]
    have e := any_len hR hj
    by_cases w : lenM M j 200 = 0
    · rw [if_pos w, if_pos (e.mpr w)]
    · rw [if_neg w, if_neg (fun z => w (e.mp z))]
  · rw [ldF_06]
    split
    · exact Or.inl rfl
    · exact Or.inr rfl
  · exact crw_len hR2 hj 200 (Nat.le_refl _)
