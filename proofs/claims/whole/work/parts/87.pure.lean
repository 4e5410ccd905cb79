/-! the relation: playing or not; the log told -/
theorem isB_eq {I M : Nat → Nat → Int32} (h : I 99 0 = M 0 6) : isB I = if M 0 6 < 0 then 0 else 1 := by
  unfold isB cP; rw [h]
  by_cases c : M 0 6 < 0
  · rw [if_pos c, if_pos c, if_pos rfl]
  · rw [if_neg c, if_neg c, if_neg (by intro z; cases z)]
theorem isB_0 {I M : Nat → Nat → Int32} (h : I 99 0 = M 0 6) : isB I = 0 ↔ M 0 6 < 0 := by
  rw [isB_eq h]
  by_cases c : M 0 6 < 0
  · rw [if_pos c]; exact ⟨fun _ => c, fun _ => rfl⟩
  · rw [if_neg c]; exact ⟨fun z => absurd z n10, fun z => absurd z c⟩
theorem c_pl {I M : Nat → Nat → Int32} (h : I 99 0 = M 0 6) : (if M 0 6 < 0 then (1 : Int32) else 0) = nI (kpl I) := by
  unfold kpl
  by_cases c : M 0 6 < 0
  · rw [if_pos c, if_pos ((isB_0 h).mpr c)]; rfl
  · rw [if_neg c, if_neg (fun z => c ((isB_0 h).mp z))]; rfl
theorem c_as {I M : Nat → Nat → Int32} (h : I 99 0 = M 0 6) (t : Int32) : asC M t = nI (kas I t) := by
  unfold asC kas; rw [isi_wi]
  by_cases c : M 0 6 < 0
  · rw [if_pos c, if_pos ((isB_0 h).mpr c)]; rfl
  · rw [if_neg c, if_neg (fun z => c ((isB_0 h).mp z))]; split <;> rfl
theorem c_ti {I M : Nat → Nat → Int32} (h : I 99 0 = M 0 6) (t : Int32) : tiC M t = nI (kti I t) := by
  unfold tiC kti; rw [isi_wi]
  by_cases c : M 0 6 < 0
  · rw [if_pos c, if_pos ((isB_0 h).mpr c)]; rfl
  · rw [if_neg c, if_neg (fun z => c ((isB_0 h).mp z))]; split <;> rfl
theorem c_op {I M : Nat → Nat → Int32} (h : I 99 0 = M 0 6) (n : Int32) : opC M n = nI (kop I n) := by
  unfold opC kop; rw [vok_isi]
  by_cases c : M 0 6 < 0
  · rw [if_pos c, if_pos ((isB_0 h).mpr c)]; rfl
  · rw [if_neg c, if_neg (fun z => c ((isB_0 h).mp z))]; split <;> rfl
theorem c_lo {I M : Nat → Nat → Int32} {S : SZ} (h : RLo I M S) : (if S.2.2.1 = 0 then (1 : Int32) else 0) = nI (klo I) := by
  unfold klo; rw [h.1]
  have := h.2.1
  by_cases c : S.2.2.1 = 0
  · rw [if_pos c, if_pos (by rw [c]; rfl)]; rfl
  · rw [if_neg c, if_neg (nI_ne0 (by omega) (by omega))]; rfl
theorem lfl_lo {I M : Nat → Nat → Int32} {S : SZ} (h : RLo I M S) : ∀ n k, k + 1 + n ≤ S.2.2.1 → lfl I n (k + 1) (loM M k) = loM M (k + n) ∧ loM M k ≤ k
  | 0, k, _ => ⟨rfl, by
      induction k with
      | zero => exact Nat.le_refl _
      | succ k ih => unfold loM; split; exact Nat.le_succ_of_le (ih (by omega)); exact Nat.le_refl _⟩
  | n + 1, k, hk => by
    have hb : loM M k ≤ k := (lfl_lo h 0 k (by omega)).2
    have e1 := h.2.2 (k + 1) (by omega) 4 (by decide)
    have e2 := h.2.2 (loM M k) (by omega) 4 (by decide)
    have ih := (lfl_lo h n (k + 1) (by omega)).1
    have e : loM M (k + 1) = if M (8000 + (k + 1)) 4 ≤ M (8000 + loM M k) 4 then loM M k else k + 1 := rfl
    refine ⟨?_, hb⟩
    unfold lfl
    rw [e1, e2, show k + (n + 1) = k + 1 + n by omega, ← ih, e]
    split <;> rfl
