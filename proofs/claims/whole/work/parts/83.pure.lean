/-! the relation: tick as a whole -/
def Off (I M : Nat → Nat → Int32) (S : SZ) : Prop := RR I M S ∧ RSe I M ∧ RVa I M ∧ RCo I M ∧ RLo I M S ∧ (∀ v, v < 12 → I (24 + v) 4 = 0) ∧ ∀ v, v < 12 → M (20 + v) 7 = 0
theorem enV_b {Q : Nat → Nat → Int32} {v b : Nat} (hv : v < 12) (hb : b < 4) : ∀ k, k ≤ 12 → enV Q k (20 + v) b = Q (20 + v) b := fun k hk => enV_8 hv (by omega) (by omega) k hk
theorem enV_0 {Q : Nat → Nat → Int32} : enV Q 12 0 = Q 0 := enV_n (by omega) 12 (Nat.le_refl _)
/-- playing ends -/
theorem st_off {I M : Nat → Nat → Int32} {S : SZ} {r : Nat} (h : Pin I M S r) : Off (setP (epl I 12) (-1)) (up2 (enV M 12) 0 6 (-1)) S := by
  obtain ⟨p1, p2, p3, p4, p5, p6, p7⟩ := h
  have hE := end_all p5 p6.1.2.1 p6.1.2.2 p7.2.2.2.2 (fun v hv => (p6.2.2.2.2.2 v hv).2.2) 12 (Nat.le_refl _)
  have fi : ∀ a, a ≠ 21 → a < 24 → setP (epl I 12) (-1) a = I a := fun a q1 q2 => by unfold setP; rw [up2_row (by omega), epl_n 12 q1 (by omega)]
  have fm : ∀ a, a ≠ 0 → (a < 20 ∨ (32 ≤ a ∧ a < 8000)) → up2 (enV M 12) 0 6 (-1) a = M a := fun a q1 q2 => by rw [up2_row q1, enV_n q2 12 (Nat.le_refl _)]
  have fm0 : ∀ b, b ≠ 6 → up2 (enV M 12) 0 6 (-1) 0 b = M 0 b := fun b q => by rw [up2_n (Or.inr q), enV_0]
  refine ⟨RR_c p1 (by rw [fi 0 (by decide) (by decide)]) (fun i hi => fi _ (by omega) (by omega)) (fun a q1 q2 => fm a (by omega) (by omega)) rfl, RSe_c p2 (fi 15 (by decide) (by decide)) (by rw [fi 0 (by decide) (by decide)]) (by rw [fi 0 (by decide) (by decide)]) (fm 5 (by decide) (by decide)) (fun b hb => fm0 b (by omega)), ?_, ⟨by rw [fi 3 (by decide) (by decide), fm0 11 (by decide)]; exact p4.1, by rw [fi 3 (by decide) (by decide), fm0 12 (by decide)]; exact p4.2⟩, RLo_c hE (by unfold setP; rw [up2_row (by decide)]) (fun b hb => by unfold setP; rw [up2_row (by omega)]) (fun n => up2_row (by omega)), fun v hv => ?_, fun v hv => ?_⟩
  · intro v hv
    have hv2 := p3 v hv
    have e1 : ∀ b, b < 4 → setP (epl I 12) (-1) (24 + v) b = I (24 + v) b := fun b hb => by unfold setP; rw [up2_row (by omega), epl_b hb]
    have e2 : ∀ b, b < 4 → up2 (enV M 12) 0 6 (-1) (20 + v) b = M (20 + v) b := fun b hb => by rw [up2_row (by omega), enV_b hv hb 12 (Nat.le_refl _)]
    exact ⟨fun b hb => by rw [e1 b hb, e2 b hb]; exact hv2.1 b hb, by rw [e2 1 (by decide)]; exact hv2.2.1, by rw [e2 3 (by decide)]; exact hv2.2.2⟩
  · unfold setP; rw [up2_row (by omega), epl_4 12 hv]
  · rw [up2_row (by omega), enV_7z 12 hv (Nat.le_refl _)]
