/-! the log's order (of the class alone): what isSound asks of it, kept while rolls are played -/
theorem nI_m1 {n : Nat} (h : n < 2 ^ 31) : ¬ nI n = -1 := fun e => nI_pos h (by rw [e]; decide)
def lfi (I : Nat → Nat → Int32) (v r n : Nat) : Prop := ∃ o f, o ≤ f ∧ f < r ∧ I 19 n = nI o ∧ I 20 n = nI f ∧ ((I 21 n = -1 ∧ ¬ (I (24 + v) 8 = 0 ∧ I (24 + v) 9 = 0) ∧ I (24 + v) 10 = nI n) ∨ ∃ e, f ≤ e ∧ e < r ∧ I 21 n = nI e)
def LVo (I : Nat → Nat → Int32) (v r : Nat) : Prop := (∀ n, n < lgn I → I 18 n = nI v → lfi I v r n) ∧ (∀ m n, m < n → n < lgn I → I 18 m = nI v → I 18 n = nI v → ∃ e f, e < f ∧ f < 200 ∧ I 21 m = nI e ∧ I 20 n = nI f) ∧ (I (24 + v) 10 = -1 ∨ ∃ n, n < lgn I ∧ I (24 + v) 10 = nI n ∧ I 18 n = nI v ∧ I 21 n = -1) ∧ (¬ I (24 + v) 4 = 0 → ∃ o, o ≤ r ∧ I (24 + v) 5 = nI o)
def LC (I : Nat → Nat → Int32) : Prop := LI I ∧ ∀ n, n < lgn I → ∃ v, v < 12 ∧ I 18 n = nI v
theorem lgn_e {I J : Nat → Nat → Int32} (h : J 17 6 = I 17 6) : lgn J = lgn I := by unfold lgn; rw [h]
theorem LI_le {I : Nat → Nat → Int32} (h : LI I) : lgn I ≤ 300 := h.at.2
theorem LVo_r {I : Nat → Nat → Int32} {v r s : Nat} (h : LVo I v r) (hs : r ≤ s) : LVo I v s := by
  obtain ⟨h1, h2, h3, h4⟩ := h
  refine ⟨fun n hn e => ?_, h2, h3, fun q => ?_⟩
  · obtain ⟨o, f, a, b, c, d, x⟩ := h1 n hn e
    refine ⟨o, f, a, by omega, c, d, ?_⟩
    rcases x with x | ⟨e, y, z, w⟩
    · exact Or.inl x
    · exact Or.inr ⟨e, y, by omega, w⟩
  · obtain ⟨o, a, b⟩ := h4 q
    exact ⟨o, by omega, b⟩
/-- nothing of the note's own log changes -/
theorem LVo_m {I J : Nat → Nat → Int32} {v r : Nat} (h : LVo I v r) (h1 : J 17 6 = I 17 6) (h2 : ∀ b, b < 4 → J (18 + b) = I (18 + b)) (h10 : J (24 + v) 10 = I (24 + v) 10) (h89 : ¬ (I (24 + v) 8 = 0 ∧ I (24 + v) 9 = 0) → ¬ (J (24 + v) 8 = 0 ∧ J (24 + v) 9 = 0)) (h45 : ¬ J (24 + v) 4 = 0 → ∃ o, o ≤ r ∧ J (24 + v) 5 = nI o) : LVo J v r := by
  have e0 := lgn_e h1
  have q18 : J 18 = I 18 := h2 0 (by decide)
  have q19 : J 19 = I 19 := h2 1 (by decide)
  have q20 : J 20 = I 20 := h2 2 (by decide)
  have q21 : J 21 = I 21 := h2 3 (by decide)
  obtain ⟨a1, a2, a3, -⟩ := h
  unfold LVo
  rw [e0, q18, q20, q21, h10]
  refine ⟨fun n hn e => ?_, a2, a3, h45⟩
  obtain ⟨o, f, a, b, c, d, x⟩ := a1 n hn e
  unfold lfi
  rw [q19, q20, q21, h10]
  refine ⟨o, f, a, b, c, d, ?_⟩
  rcases x with ⟨x, y, z⟩ | x
  · exact Or.inl ⟨x, h89 y, z⟩
  · exact Or.inr x
theorem LVo_c {I J : Nat → Nat → Int32} {v r : Nat} (h : LVo I v r) (h1 : J 17 6 = I 17 6) (h2 : ∀ b, b < 4 → J (18 + b) = I (18 + b)) (h3 : ∀ b, 4 ≤ b → J (24 + v) b = I (24 + v) b) : LVo J v r := by
  refine LVo_m h h1 h2 (h3 10 (by decide)) (fun q => ?_) (fun q => ?_)
  · rw [h3 8 (by decide), h3 9 (by decide)]; exact q
  · rw [h3 4 (by decide)] at q
    rw [h3 5 (by decide)]
    exact h.2.2.2 q
theorem LVo_mv {I : Nat → Nat → Int32} {v r : Nat} {x : Int32} (h : LVo I v r) (h34 : I 3 4 = nI r) : LVo (mvV I v x) v r := by
  have l17 : ∀ a, a = 17 ∨ (18 ≤ a ∧ a < 22) → mvV I v x a = I a := fun a ha => mvV_n (by omega) (by omega)
  refine LVo_m h (by rw [l17 17 (Or.inl rfl)]) (fun b hb => l17 _ (Or.inr (by omega))) ?_ ?_ ?_
  · unfold mvV
    split
    · split
      · rfl
      · split
        · exact up2_n (Or.inr (by decide))
        · unfold clV; split
          · rw [up2_n (Or.inr (by decide)), up2_n (Or.inr (by decide)), up2_n (Or.inr (by decide))]
          · rw [up2_n (Or.inr (by decide)), up2_n (Or.inr (by decide)), up2_n (Or.inr (by decide)), up2_n (Or.inr (by decide)), up2_n (Or.inr (by decide))]
    · split
      · unfold opV; rw [up2_row (by omega), up2_n (Or.inr (by decide)), up2_n (Or.inr (by decide)), up2_n (Or.inr (by decide))]
      · exact up2_n (Or.inr (by decide))
  · intro q
    unfold mvV
    split
    · split
      · exact q
      · split
        · rw [up2_n (Or.inr (by decide)), up2_n (Or.inr (by decide))]; exact q
        · unfold clV
          rw [up2_n (b := 8) (k := 6) (Or.inr (by decide))]
          split
          · rw [up2_n (Or.inr (by decide)), up2_n (Or.inr (by decide)), up2_n (Or.inr (by decide)), up2_n (Or.inr (by decide)), up2_n (Or.inr (by decide)), up2_n (Or.inr (by decide))]; exact q
          · rw [up2_s]; exact fun z => absurd z.2 (by decide)
    · split
      · unfold opV; rw [up2_row (by omega), up2_n (Or.inr (by decide)), up2_n (Or.inr (by decide)), up2_n (Or.inr (by decide)), up2_n (Or.inr (by decide)), up2_n (Or.inr (by decide)), up2_n (Or.inr (by decide))]; exact q
      · rw [up2_n (Or.inr (by decide)), up2_n (Or.inr (by decide))]; exact q
  · unfold mvV
    split
    · split
      · exact h.2.2.2
      · split
        · rw [up2_n (Or.inr (by decide)), up2_n (Or.inr (by decide))]; exact h.2.2.2
        · intro q
          exfalso
          apply q
          unfold clV; split
          · rw [up2_n (Or.inr (by decide)), up2_s]
          · rw [up2_n (Or.inr (by decide)), up2_n (Or.inr (by decide)), up2_n (Or.inr (by decide)), up2_s]
    · split
      · intro _
        refine ⟨r, Nat.le_refl _, ?_⟩
        unfold opV
        rw [up2_row (by omega), up2_s, up2_row (by omega)]; exact h34
      · rw [up2_n (Or.inr (by decide)), up2_n (Or.inr (by decide))]; exact h.2.2.2
theorem lhas_n {I : Nat → Nat → Int32} (h : LI I) {n : Nat} (hn : n < lgn I) : ¬ lhas I (nI n) = 0 := by
  have ha := h.at
  unfold lhas
  rw [if_neg (nI_pos (by omega)), ha.1, if_neg (fun q => by have := (nI_leI (by omega) (by omega)).mp q; omega), if_neg (fun q => by have := (ge_L (c := 300) (n := 300) rfl (by omega) (by decide)).mp q; omega)]
  decide
theorem lhas_0 {I : Nat → Nat → Int32} {x : Int32} (h : x = -1) : lhas I x = 0 := by unfold lhas; rw [if_pos (by rw [h]; decide)]
/-- what ends is finished, in the log too -/
theorem en_21 {I : Nat → Nat → Int32} {v r : Nat} (hL : LI I) (h : LVo I v r) (h34 : I 3 4 = nI r) : (I (24 + v) 10 = -1 ∧ enH I v 21 = I 21) ∨ ∃ n, n < lgn I ∧ 1 ≤ r ∧ I (24 + v) 10 = nI n ∧ I 18 n = nI v ∧ I 21 n = -1 ∧ ∀ m, enH I v 21 m = if m = n then nI (r - 1) else I 21 m := by
  have e21 : enH I v 21 = fin I (I (24 + v) 10) (I 3 4 - 1) 21 := by
    unfold enH; rw [up2_row (by omega), up2_row (by omega), up2_row (by omega)]
  rcases h.2.2.1 with q | ⟨n, hn, q1, q2, q3⟩
  · refine Or.inl ⟨q, ?_⟩
    rw [e21]; unfold fin; rw [if_pos (lhas_0 q)]
  · obtain ⟨o, f, a, b, -⟩ := h.1 n hn q2
    obtain ⟨k, rfl⟩ : ∃ k, r = k + 1 := ⟨r - 1, by omega⟩
    refine Or.inr ⟨n, hn, by omega, q1, q2, q3, fun m => ?_⟩
    have hl := LI_le hL
    rw [e21, q1, h34, nI_pred]
    unfold fin
    rw [if_neg (lhas_n hL hn), nI_clamp (by omega)]
    by_cases hm : m = n
    · subst hm; rw [up2_s, if_pos rfl]; rfl
    · rw [up2_n (Or.inr hm), if_neg hm]
theorem enH_r {I : Nat → Nat → Int32} {v a : Nat} (h : a ≠ 21) (h2 : a < 24) : enH I v a = I a := enH_n (by omega) h
theorem LVo_en {I : Nat → Nat → Int32} {v r : Nat} (hL : LI I) (h : LVo I v r) (h34 : I 3 4 = nI r) : LVo (enH I v) v r := by
  have hl := LI_le hL
  have e0 : lgn (enH I v) = lgn I := lgn_e (by rw [enH_r (by decide) (by decide)])
  have q18 : enH I v 18 = I 18 := enH_r (by decide) (by decide)
  have q19 : enH I v 19 = I 19 := enH_r (by decide) (by decide)
  have q20 : enH I v 20 = I 20 := enH_r (by decide) (by decide)
  obtain ⟨k8, k9, k10⟩ := enH_3v (I := I) (v := v)
  have h21 := en_21 hL h h34
  unfold LVo
  rw [e0, q18, q20, enH_v (b := 4) (by decide) (by decide) (by decide), enH_v (b := 5) (by decide) (by decide) (by decide)]
  refine ⟨fun n hn e => ?_, fun m n hmn hn e1 e2 => ?_, Or.inl k10, h.2.2.2⟩
  · obtain ⟨o, f, a, b, c, d, x⟩ := h.1 n hn e
    unfold lfi
    rw [q19, q20]
    refine ⟨o, f, a, b, c, d, Or.inr ?_⟩
    rcases h21 with ⟨z1, z2⟩ | ⟨n0, z1, z2, z3, z4, z5, z6⟩
    · rw [z2]
      rcases x with ⟨x1, x2, x3⟩ | x
      · rw [z1] at x3; exact absurd x3.symm (nI_m1 (by omega))
      · exact x
    · rw [z6 n]
      by_cases hn0 : n = n0
      · rw [if_pos hn0]; exact ⟨r - 1, by omega, by omega, rfl⟩
      · rw [if_neg hn0]
        rcases x with ⟨x1, x2, x3⟩ | x
        · rw [z3] at x3; exact absurd (nI_inj (by omega) (by omega) x3).symm hn0
        · exact x
  · obtain ⟨e, f, a, b, c, d⟩ := h.2.1 m n hmn hn e1 e2
    refine ⟨e, f, a, b, ?_, d⟩
    rcases h21 with ⟨z1, z2⟩ | ⟨n0, z1, z2, z3, z4, z5, z6⟩
    · rw [z2]; exact c
    · rw [z6 m, if_neg (fun q => by rw [q, z5] at c; exact nI_m1 (by omega) c.symm)]; exact c
theorem LVo_eo {I : Nat → Nat → Int32} {v w r s : Nat} (hL : LI I) (h : LVo I v r) (h34 : I 3 4 = nI r) (hw : LVo I w s) (hv : v < 12) (hw2 : w < 12) (hne : w ≠ v) : LVo (enH I v) w s := by
  have hl := LI_le hL
  have e0 : lgn (enH I v) = lgn I := lgn_e (by rw [enH_r (by decide) (by decide)])
  have q18 : enH I v 18 = I 18 := enH_r (by decide) (by decide)
  have q19 : enH I v 19 = I 19 := enH_r (by decide) (by decide)
  have q20 : enH I v 20 = I 20 := enH_r (by decide) (by decide)
  have qw : enH I v (24 + w) = I (24 + w) := enH_n (by omega) (by omega)
  have h21 : ∀ n, I 18 n = nI w → enH I v 21 n = I 21 n := fun n e => by
    rcases en_21 hL h h34 with ⟨z1, z2⟩ | ⟨n0, z1, z2, z3, z4, z5, z6⟩
    · rw [z2]
    · rw [z6 n, if_neg (fun q => by rw [q, z4] at e; exact hne (nI_inj (by omega) (by omega) e).symm)]
  unfold LVo
  rw [e0, q18, q20, qw]
  obtain ⟨a1, a2, a3, a4⟩ := hw
  refine ⟨fun n hn e => ?_, fun m n hmn hn e1 e2 => ?_, ?_, a4⟩
  · obtain ⟨o, f, a, b, c, d, x⟩ := a1 n hn e
    unfold lfi
    rw [q19, q20, qw, h21 n e]
    exact ⟨o, f, a, b, c, d, x⟩
  · rw [h21 m e1]; exact a2 m n hmn hn e1 e2
  · rcases a3 with q | ⟨n, b1, b2, b3, b4⟩
    · exact Or.inl q
    · exact Or.inr ⟨n, b1, b2, b3, by rw [h21 n b3]; exact b4⟩
/-- what begins, in the log -/
theorem bg_lg {I : Nat → Nat → Int32} {v : Nat} (hL : LI I) (hv : v < 12) : (lgn I = 300 ∧ (∀ a, 17 ≤ a → a < 23 → bgS I v (lgn I) a = I a) ∧ bgS I v (lgn I) (24 + v) 10 = -1) ∨ (lgn I < 300 ∧ bgS I v (lgn I) 17 6 = nI (lgn I + 1) ∧ (∀ n, bgS I v (lgn I) 18 n = if n = lgn I then nI v else I 18 n) ∧ (∀ n, bgS I v (lgn I) 19 n = if n = lgn I then I (24 + v) 5 else I 19 n) ∧ (∀ n, bgS I v (lgn I) 20 n = if n = lgn I then I 3 4 else I 20 n) ∧ (∀ n, bgS I v (lgn I) 21 n = if n = lgn I then -1 else I 21 n) ∧ bgS I v (lgn I) (24 + v) 10 = nI (lgn I)) := by
  have hl := LI_le hL
  rcases Nat.lt_or_ge (lgn I) 300 with q | q
  · refine Or.inr ⟨q, ?_⟩
    have hn : ¬ 300 ≤ lgn I := by omega
    have hk := kpR_n hl
    rw [if_pos q] at hk
    generalize lgn I = c at q hn hk hl ⊢
    unfold bgS kpI
    rw [if_neg hn]
    refine ⟨?_, fun n => ?_, fun n => ?_, fun n => ?_, fun n => ?_, ?_⟩
    · rw [up2_row (by omega), up2_row (by omega), up2_s, nI_1]
    · rw [up2_row (by omega), up2_row (by omega), up2_row (by omega), up2_row (by omega), up2_row (by omega), up2_row (by omega), up2_row (by omega)]
      by_cases e : n = c
      · subst e; rw [up2_s, if_pos rfl]
      · rw [up2_n (Or.inr e), if_neg e, up2_row (by omega)]
    · rw [up2_row (by omega), up2_row (by omega), up2_row (by omega), up2_row (by omega), up2_row (by omega), up2_row (by omega)]
      by_cases e : n = c
      · subst e; rw [up2_s, if_pos rfl]
      · rw [up2_n (Or.inr e), if_neg e, up2_row (by omega), up2_row (by omega)]
    · rw [up2_row (by omega), up2_row (by omega), up2_row (by omega), up2_row (by omega), up2_row (by omega)]
      by_cases e : n = c
      · subst e; rw [up2_s, if_pos rfl]
      · rw [up2_n (Or.inr e), if_neg e, up2_row (by omega), up2_row (by omega), up2_row (by omega)]
    · rw [up2_row (by omega), up2_row (by omega), up2_row (by omega), up2_row (by omega)]
      by_cases e : n = c
      · subst e; rw [up2_s, if_pos rfl]
      · rw [up2_n (Or.inr e), if_neg e, up2_row (by omega), up2_row (by omega), up2_row (by omega), up2_row (by omega)]
    · rw [up2_row (by omega), up2_s]; exact hk
  · have e : lgn I = 300 := by omega
    refine Or.inl ⟨e, fun a h1 h2 => ?_, ?_⟩
    · rw [e]; unfold bgS kpI
      rw [if_pos (Nat.le_refl _), up2_row (by omega), up2_row (by omega), up2_row (by omega)]
    · rw [e]; unfold bgS
      rw [up2_row (by omega), up2_s]; rfl
theorem bgS_8 {I : Nat → Nat → Int32} {v c : Nat} (hv : v < 12) : bgS I v c (24 + v) 8 = 1 := by
  unfold bgS kpI
  rw [up2_row (by omega), up2_n (Or.inr (by decide))]
  split
  · rw [up2_s]
  · rw [up2_row (by omega), up2_row (by omega), up2_row (by omega), up2_row (by omega), up2_row (by omega), up2_row (by omega), up2_s]
theorem LVo_bg {I : Nat → Nat → Int32} {v r : Nat} (hL : LI I) (h : LVo I v r) (h34 : I 3 4 = nI r) (hr : r < 200) (hv : v < 12) (h8 : I (24 + v) 8 = 0) (h9 : I (24 + v) 9 = 0) (h4 : ¬ I (24 + v) 4 = 0) : LVo (bgS I v (lgn I)) v (r + 1) := by
  have hl := LI_le hL
  have k8 := bgS_8 (I := I) (v := v) (c := lgn I) hv
  have k4 : bgS I v (lgn I) (24 + v) 4 = I (24 + v) 4 := bgS_v (by decide) (by decide)
  have k5 : bgS I v (lgn I) (24 + v) 5 = I (24 + v) 5 := bgS_v (by decide) (by decide)
  obtain ⟨o0, ho, h5⟩ := h.2.2.2 h4
  have hfin : ∀ n, n < lgn I → I 18 n = nI v → ∃ o f, o ≤ f ∧ f < r ∧ I 19 n = nI o ∧ I 20 n = nI f ∧ ∃ e, f ≤ e ∧ e < r ∧ I 21 n = nI e := fun n hn e => by
    obtain ⟨o, f, a, b, c, d, x⟩ := h.1 n hn e
    rcases x with ⟨x1, x2, x3⟩ | x
    · exact absurd ⟨h8, h9⟩ x2
    · exact ⟨o, f, a, b, c, d, x⟩
  rcases bg_lg hL hv with ⟨z0, z1, z2⟩ | ⟨z0, z1, z2, z3, z4, z5, z6⟩
  · have e0 : lgn (bgS I v (lgn I)) = lgn I := lgn_e (by rw [z1 17 (by decide) (by decide)])
    unfold LVo
    rw [e0, z1 18 (by decide) (by decide), z1 20 (by decide) (by decide), z1 21 (by decide) (by decide), k4, k5]
    refine ⟨fun n hn e => ?_, h.2.1, Or.inl z2, fun _ => ⟨o0, by omega, h5⟩⟩
    obtain ⟨o, f, a, b, c, d, e2, x1, x2, x3⟩ := hfin n hn e
    unfold lfi
    rw [z1 19 (by decide) (by decide), z1 20 (by decide) (by decide), z1 21 (by decide) (by decide)]
    exact ⟨o, f, a, by omega, c, d, Or.inr ⟨e2, x1, by omega, x3⟩⟩
  · have e0 : lgn (bgS I v (lgn I)) = lgn I + 1 := by
      show (bgS I v (lgn I) 17 6).toNatClampNeg = lgn I + 1
      rw [z1, nI_clamp (by omega)]
    generalize bgS I v (lgn I) = J at k8 k4 k5 z1 z2 z3 z4 z5 z6 e0 ⊢
    unfold LVo
    rw [e0, k4, k5]
    refine ⟨fun n hn e => ?_, fun m n hmn hn e1 e2 => ?_, Or.inr ⟨lgn I, by omega, z6, by rw [z2, if_pos rfl], by rw [z5, if_pos rfl]⟩, fun _ => ⟨o0, by omega, h5⟩⟩
    · unfold lfi
      rw [z3 n, z4 n, z5 n]
      by_cases hn0 : n = lgn I
      · rw [if_pos hn0, if_pos hn0, if_pos hn0]
        refine ⟨o0, r, ho, by omega, h5, h34, Or.inl ⟨rfl, fun q => ?_, by rw [z6, hn0]⟩⟩
        rw [k8] at q; exact absurd q.1 (by decide)
      · rw [if_neg hn0, if_neg hn0, if_neg hn0]
        rw [z2 n, if_neg hn0] at e
        obtain ⟨o, f, a, b, c, d, e2, x1, x2, x3⟩ := hfin n (by omega) e
        exact ⟨o, f, a, by omega, c, d, Or.inr ⟨e2, x1, by omega, x3⟩⟩
    · have hm0 : m ≠ lgn I := by omega
      rw [z2 m, if_neg hm0] at e1
      rw [z5 m, if_neg hm0, z4 n]
      by_cases hn0 : n = lgn I
      · rw [if_pos hn0]
        obtain ⟨o, f, a, b, c, d, e3, x1, x2, x3⟩ := hfin m (by omega) e1
        exact ⟨e3, r, by omega, by omega, x3, h34⟩
      · rw [if_neg hn0]
        rw [z2 n, if_neg hn0] at e2
        exact h.2.1 m n hmn (by omega) e1 e2
theorem LVo_bo {I : Nat → Nat → Int32} {v w s : Nat} (hL : LI I) (hw : LVo I w s) (hv : v < 12) (hw2 : w < 12) (hne : w ≠ v) : LVo (bgS I v (lgn I)) w s := by
  have hl := LI_le hL
  have qw : bgS I v (lgn I) (24 + w) = I (24 + w) := bgS_n (by omega) (by omega) (by omega)
  obtain ⟨a1, a2, a3, a4⟩ := hw
  rcases bg_lg hL hv with ⟨z0, z1, z2⟩ | ⟨z0, z1, z2, z3, z4, z5, z6⟩
  · have e0 : lgn (bgS I v (lgn I)) = lgn I := lgn_e (by rw [z1 17 (by decide) (by decide)])
    unfold LVo
    rw [e0, z1 18 (by decide) (by decide), z1 20 (by decide) (by decide), z1 21 (by decide) (by decide), qw]
    refine ⟨fun n hn e => ?_, a2, a3, a4⟩
    unfold lfi
    rw [z1 19 (by decide) (by decide), z1 20 (by decide) (by decide), z1 21 (by decide) (by decide), qw]
    exact a1 n hn e
  · have e0 : lgn (bgS I v (lgn I)) = lgn I + 1 := by
      show (bgS I v (lgn I) 17 6).toNatClampNeg = lgn I + 1
      rw [z1, nI_clamp (by omega)]
    generalize bgS I v (lgn I) = J at qw z1 z2 z3 z4 z5 z6 e0 ⊢
    have nc : ∀ n, J 18 n = nI w → n ≠ lgn I := fun n e q => by
      rw [z2 n, if_pos q] at e
      exact hne (nI_inj (by omega) (by omega) e).symm
    unfold LVo
    rw [e0, qw]
    refine ⟨fun n hn e => ?_, fun m n hmn hn e1 e2 => ?_, ?_, a4⟩
    · have hn0 := nc n e
      rw [z2 n, if_neg hn0] at e
      unfold lfi
      rw [z3 n, z4 n, z5 n, if_neg hn0, if_neg hn0, if_neg hn0, qw]
      exact a1 n (by omega) e
    · have hm0 := nc m e1
      have hn0 := nc n e2
      rw [z2 m, if_neg hm0] at e1
      rw [z2 n, if_neg hn0] at e2
      rw [z5 m, if_neg hm0, z4 n, if_neg hn0]
      exact a2 m n hmn (by omega) e1 e2
    · rcases a3 with q | ⟨n, b1, b2, b3, b4⟩
      · exact Or.inl q
      · have hn0 : n ≠ lgn I := by omega
        exact Or.inr ⟨n, by omega, b2, by rw [z2 n, if_neg hn0]; exact b3, by rw [z5 n, if_neg hn0]; exact b4⟩
