/-! the relation: isMusic -/
def PMu (M : Nat → Nat → Int32) (j : Nat) (fa la pa : Nat → Nat) (k : Nat) : Prop := stN M j (fa k) (pa k) = 1 ∧ lsF M j (fa k) (pa k) - fa k + 1 = la k
theorem isc_PM {I M : Nat → Nat → Int32} {S : SZ} {fa la pa : Nat → Nat} (h : RR I M S) (hn : RN I M S fa la pa) {j : Nat} (hj : j < S.1) : ∀ n k, k + n = S.2.1 → (isc I j fa n k = 1 ∧ ∀ i, k ≤ i → i < S.2.1 → PMu M j fa la pa i) ∨ (isc I j fa n k = 0 ∧ ∃ i, i < S.2.1 ∧ ¬ PMu M j fa la pa i)
  | 0, k, hk => Or.inl ⟨rfl, fun i h1 h2 => absurd h2 (by omega)⟩
  | n + 1, k, hk => by
    obtain ⟨⟨e1, e2, e3⟩, -, l1, l2, l3, l4⟩ := hn.2.2.1 k (by omega)
    unfold isc
    rw [e3, e2, isb_st h hj (by omega) l4]
    by_cases c : stN M j (fa k) (pa k) = 0
    · rw [c, if_pos (show nI 0 = 0 from rfl)]
      exact Or.inr ⟨rfl, k, by omega, fun z => by rw [z.1] at c; cases c⟩
    · have c1 := (stN_01 M j (fa k) (pa k)).resolve_left c
      have hm0 : ¬ M (6000 + 200 * j + fa k) (pa k) = 0 := fun z => by
        unfold stN at c1; rw [if_pos z] at c1; cases c1
      have hls := lsF_in M j (pa k) (show fa k < 200 by omega)
      rw [c1, if_neg (show ¬ nI 1 = 0 by decide), mnw_lsF h hj (by omega) (by omega) hm0, pk_sub hls.1, nI_1]
      by_cases w : lsF M j (fa k) (pa k) - fa k + 1 = la k
      · rw [if_pos (congrArg nI w)]
        rcases isc_PM h hn hj n (k + 1) (by omega) with ⟨a, b⟩ | a
        · refine Or.inl ⟨a, fun i h1 h2 => ?_⟩
          rcases Nat.lt_or_ge k i with q | q
          · exact b i q h2
          · rw [show i = k by omega]; exact ⟨c1, w⟩
        · exact Or.inr a
      · rw [if_neg (fun z => w (nI_inj (by omega) (by omega) z))]
        exact Or.inr ⟨rfl, k, by omega, fun z => w z.2⟩
def mtI (M : Nat → Nat → Int32) (xs : List N3) (k i : Nat) : Prop := M (7000 + k) 0 = scq xs i 0 ∧ M (7000 + k) 1 = scq xs i 1 ∧ M (7000 + k) 2 = scq xs i 2
theorem fnM_mt (M : Nat → Nat → Int32) (xs : List N3) (k : Nat) : ∀ n, (fnM M xs k n = 1 ∧ ∃ i, i < n ∧ mtI M xs k i) ∨ (fnM M xs k n = 0 ∧ ∀ i, i < n → ¬ mtI M xs k i)
  | 0 => Or.inr ⟨rfl, fun i hi => absurd hi (Nat.not_lt_zero _)⟩
  | n + 1 => by
    have ih := fnM_mt M xs k n
    unfold fnM
    by_cases c : mtI M xs k n
    · rw [if_pos c.1, if_pos c.2.1, if_pos c.2.2]
      refine Or.inl ⟨?_, n, Nat.lt_succ_self n, c⟩
      rcases ih with ⟨a, -⟩ | ⟨a, -⟩ <;> rw [a] <;> rfl
    · have e : (if M (7000 + k) 0 = scq xs n 0 then (if M (7000 + k) 1 = scq xs n 1 then (if M (7000 + k) 2 = scq xs n 2 then (1 : Int32) else 0) else 0) else 0) = 0 := by
        split
        · split
          · split
            · rename_i a b d; exact absurd ⟨a, b, d⟩ c
            · rfl
          · rfl
        · rfl
      rw [e]
      rcases ih with ⟨a, i, hi, b⟩ | ⟨a, b⟩
      · exact Or.inl ⟨by rw [a]; rfl, i, by omega, b⟩
      · refine Or.inr ⟨by rw [a]; rfl, fun i hi => ?_⟩
        rcases Nat.lt_or_ge i n with q | q
        · exact b i q
        · rw [show i = n by omega]; exact c
theorem fnM_PM {I M : Nat → Nat → Int32} {S : SZ} {fa la pa : Nat → Nat} (hn : RN I M S fa la pa) {j k : Nat} (hk : k < S.2.1) : (fnM M (scA M j 200) k (scA M j 200).length = 1 ∧ PMu M j fa la pa k) ∨ (fnM M (scA M j 200) k (scA M j 200).length = 0 ∧ ¬ PMu M j fa la pa k) := by
  obtain ⟨-, ⟨e1, e2, e3⟩, l1, l2, l3, l4⟩ := hn.2.2.1 k hk
  have hmem := scA_mem M j
  have hA : ∀ z, z ∈ scA M j 200 ↔ isIt M j 200 z := fun z => hmem z 200
  clear hmem
  generalize scA M j 200 = xs at hA ⊢
  rcases fnM_mt M xs k xs.length with ⟨a, i, hi, b1, b2, b3⟩ | ⟨a, b⟩
  · refine Or.inl ⟨a, ?_⟩
    have hz := (hA _).mp (gdm (d := (0, 0, 0)) hi)
    obtain ⟨z1, z2, z3, z4⟩ := hz
    have z5 : (xs.getD i (0, 0, 0)).2.1 = lsF M j (xs.getD i (0, 0, 0)).1 (xs.getD i (0, 0, 0)).2.2 - (xs.getD i (0, 0, 0)).1 + 1 := congrArg (fun z => z.2.1) z4
    have hls := lsF_in M j (xs.getD i (0, 0, 0)).2.2 z1
    have f1 : fa k = (xs.getD i (0, 0, 0)).1 := nI_inj (by omega) (by omega) (e1.symm.trans b1)
    have f2 : la k = (xs.getD i (0, 0, 0)).2.1 := nI_inj (by omega) (by omega) (e2.symm.trans b2)
    have f3 : pa k = (xs.getD i (0, 0, 0)).2.2 := nI_inj (by omega) (by omega) (e3.symm.trans b3)
    exact ⟨by rw [f1, f3]; exact z3, by rw [f1, f3, f2]; exact z5.symm⟩
  · refine Or.inr ⟨a, fun w => ?_⟩
    have hz : itN M j (fa k) (pa k) ∈ xs := (hA _).mpr ⟨show fa k < 200 by omega, l4, w.1, rfl⟩
    obtain ⟨i, hi, e⟩ := mgd (d := (0, 0, 0)) hz
    refine b i hi ⟨?_, ?_, ?_⟩
    · rw [e1]; show _ = nI (xs.getD i (0, 0, 0)).1; rw [e]; rfl
    · rw [e2]; show _ = nI (xs.getD i (0, 0, 0)).2.1; rw [e, ← w.2]; rfl
    · rw [e3]; show _ = nI (xs.getD i (0, 0, 0)).2.2; rw [e]; rfl
theorem muQ_PM {I M : Nat → Nat → Int32} {S : SZ} {fa la pa : Nat → Nat} (hn : RN I M S fa la pa) {j : Nat} {q0 : Int32} (hq : q0 = 0 ∨ q0 = 1) : ∀ n, n ≤ S.2.1 → (muQ M (scA M j 200) q0 n = 1 ∧ q0 = 1 ∧ ∀ i, i < n → PMu M j fa la pa i) ∨ (muQ M (scA M j 200) q0 n = 0 ∧ (q0 = 0 ∨ ∃ i, i < n ∧ ¬ PMu M j fa la pa i))
  | 0, _ => by
    rcases hq with e | e
    · exact Or.inr ⟨e, Or.inl e⟩
    · exact Or.inl ⟨e, e, fun i hi => absurd hi (Nat.not_lt_zero _)⟩
  | n + 1, hk => by
    have ih := muQ_PM hn (j := j) hq n (by omega)
    have hf := fnM_PM hn (j := j) (show n < S.2.1 by omega)
    show (muQ M (scA M j 200) q0 n &&& fnM M (scA M j 200) n (scA M j 200).length = 1 ∧ _) ∨ (muQ M (scA M j 200) q0 n &&& fnM M (scA M j 200) n (scA M j 200).length = 0 ∧ _)
    rcases ih with ⟨a, b, d⟩ | ⟨a, b⟩
    · rcases hf with ⟨f, g⟩ | ⟨f, g⟩
      · refine Or.inl ⟨by rw [a, f]; rfl, b, fun i hi => ?_⟩
        rcases Nat.lt_or_ge i n with q | q
        · exact d i q
        · rw [show i = n by omega]; exact g
      · exact Or.inr ⟨by rw [a, f]; rfl, Or.inr ⟨n, Nat.lt_succ_self n, g⟩⟩
    · refine Or.inr ⟨?_, ?_⟩
      · rcases hf with ⟨f, -⟩ | ⟨f, -⟩ <;> rw [a, f] <;> rfl
      · rcases b with b | ⟨i, hi, b⟩
        · exact Or.inl b
        · exact Or.inr ⟨i, by omega, b⟩
theorem iscn_PM {I M : Nat → Nat → Int32} {S : SZ} {fa la pa : Nat → Nat} (h : RR I M S) (hn : RN I M S fa la pa) {j : Nat} (hj : j < S.1) : (iscn I j S.2.1 fa = 1 ∧ (scA M j 200).length = S.2.1 ∧ ∀ i, i < S.2.1 → PMu M j fa la pa i) ∨ (iscn I j S.2.1 fa = 0 ∧ ¬ ((scA M j 200).length = S.2.1 ∧ ∀ i, i < S.2.1 → PMu M j fa la pa i)) := by
  have hle := scA_le M j
  have h40 := hn.2.1
  have hi := isc_PM h hn hj S.2.1 0 (Nat.zero_add _)
  have hs := sc_cnt h hj
  unfold iscn
  by_cases c : (scA M j 200).length = S.2.1
  · rw [if_pos (hs.trans (congrArg nI c))]
    rcases hi with ⟨a, b⟩ | ⟨a, i, hi, b⟩
    · exact Or.inl ⟨a, c, fun i h2 => b i (Nat.zero_le _) h2⟩
    · exact Or.inr ⟨a, fun w => b (w.2 i hi)⟩
  · rw [if_neg (fun z => c (nI_inj (by omega) (by omega) (hs.symm.trans z)))]
    exact Or.inr ⟨rfl, fun w => c w.1⟩
theorem mu_is {I M : Nat → Nat → Int32} {S : SZ} {fa la pa : Nat → Nat} (h : RR I M S) (hn : RN I M S fa la pa) {j : Nat} (hj : j < S.1) : iscn I j S.2.1 fa = muQ M (scA M j 200) (q0M S (scA M j 200)) S.2.1 := by
  have hq : q0M S (scA M j 200) = 0 ∨ q0M S (scA M j 200) = 1 := by
    unfold q0M; split
    · exact Or.inr rfl
    · exact Or.inl rfl
  have h1 : q0M S (scA M j 200) = 1 → (scA M j 200).length = S.2.1 := fun z => by
    unfold q0M at z
    by_cases c : (scA M j 200).length = S.2.1
    · exact c
    · rw [if_neg c] at z; exact absurd z (by decide)
  have h0 : q0M S (scA M j 200) = 0 → ¬ (scA M j 200).length = S.2.1 := fun z c => by
    unfold q0M at z; rw [if_pos c] at z; exact absurd z (by decide)
  rcases iscn_PM h hn hj with ⟨a, b, c⟩ | ⟨a, b⟩
  · rcases muQ_PM hn (j := j) hq S.2.1 (Nat.le_refl _) with ⟨d, e, f⟩ | ⟨d, e⟩
    · rw [a, d]
    · rcases e with e | ⟨i, hi, e⟩
      · exact absurd b (h0 e)
      · exact absurd (c i hi) e
  · rcases muQ_PM hn (j := j) hq S.2.1 (Nat.le_refl _) with ⟨d, e, f⟩ | ⟨d, e⟩
    · exact absurd ⟨h1 e, f⟩ b
    · rw [a, d]
