/-! a row is played -/
def roV (M : Nat → Nat → Int32) (j r t : Nat) : Int32 := if isi (nI t + M 0 10) 0 15 = 0 then 0 else if M (6000 + 200 * j + r) (nI t + M 0 10).toNatClampNeg = 0 then 0 else 1
def rdI (M : Nat → Nat → Int32) (j r n : Nat) : Nat → Nat → Int32 := upr M 7 (fun b => if b < n then roV M j r b else 0)
theorem rdI_n {M : Nat → Nat → Int32} {j r n a : Nat} (h : a ≠ 7) : rdI M j r n a = M a := upr_n h
theorem rdI_0 {M : Nat → Nat → Int32} {j r : Nat} : upr M 7 (fun _ => 0) = rdI M j r 0 := by
  unfold rdI
  congr 1
theorem rdI_s {M : Nat → Nat → Int32} {j r n : Nat} {x : Int32} (h : roV M j r n = x) : up2 (rdI M j r n) 7 n x = rdI M j r (n + 1) := by
  unfold rdI
  refine upr_up ?_ (fun b hb => ?_)
  · rw [if_pos (Nat.lt_succ_self n)]; exact h
  · by_cases q : b < n
    · rw [if_pos q, if_pos (by omega)]
    · rw [if_neg q, if_neg (by omega)]
theorem codI_n {M : Nat → Nat → Int32} {a : Nat} (h : a ≠ 0) : codI M a = M a := by
  unfold codI
  repeat' split
  all_goals (first | rw [up2_row h, up2_row h] | rw [up2_row h])
theorem codI_0 {M : Nat → Nat → Int32} {b : Nat} (h : b ≠ 9) (h2 : b ≠ 16) : codI M 0 b = M 0 b := by
  unfold codI
  repeat' split
  all_goals (first | rw [up2_n (Or.inr h), up2_n (Or.inr h2)] | rw [up2_n (Or.inr h)])
theorem codI_16 {M : Nat → Nat → Int32} (h : M 0 16 = 0 ∨ M 0 16 = 1) : codI M 0 16 = 0 ∨ codI M 0 16 = 1 := by
  unfold codI
  repeat' split
  all_goals first
    | (rw [up2_n (Or.inr (by decide)), up2_s]; exact Or.inl rfl)
    | (rw [up2_n (Or.inr (by decide)), up2_s]; exact Or.inr rfl)
    | (rw [up2_n (Or.inr (by decide))]; exact h)
def hoV (M : Nat → Nat → Int32) (v : Nat) : Nat → Int32
  | 0 => 0
  | k + 1 => hoV M v k ||| (if M (20 + k) 3 = nI v then (if M 7 k = 0 then 0 else 1) else 0)
def plS (M : Nat → Nat → Int32) (S : SZ) : Nat → (Nat → Nat → Int32) × SZ
  | 0 => (M, S)
  | v + 1 => (mvM (plS M S v).1 (plS M S v).2 v (hoV (plS M S v).1 v 12) ((plS M S v).1 7 12), mvz (plS M S v).1 (plS M S v).2 v (hoV (plS M S v).1 v 12) ((plS M S v).1 7 12))
def usV (M : Nat → Nat → Int32) (S : SZ) : Nat → Int32
  | 0 => 0
  | v + 1 => usV M S v + (if (plS M S (v + 1)).1 (20 + v) 9 = 0 then 0 else (plS M S (v + 1)).1 (20 + v) 2)
theorem plS_s {M : Nat → Nat → Int32} {S : SZ} {v : Nat} : plS M S (v + 1) = (mvM (plS M S v).1 (plS M S v).2 v (hoV (plS M S v).1 v 12) ((plS M S v).1 7 12), mvz (plS M S v).1 (plS M S v).2 v (hoV (plS M S v).1 v 12) ((plS M S v).1 7 12)) := rfl
theorem plS_PI {M : Nat → Nat → Int32} {S : SZ} (h : PI M S) : ∀ v, v ≤ 12 → PI (plS M S v).1 (plS M S v).2
  | 0, _ => h
  | v + 1, hv => by
    have h9 := PI_mv (M := (plS M S v).1) (S := (plS M S v).2) (v := v) (h := hoV (plS M S v).1 v 12) (p := (plS M S v).1 7 12) (by omega) (plS_PI h v (by omega))
    rw [plS_s]
    exact h9
theorem plS_PC {M : Nat → Nat → Int32} {S : SZ} (h : PI M S) {v : Nat} (hv : v ≤ 12) : ∀ d, v + d ≤ 12 → PC (plS M S v).2 ≤ PC (plS M S (v + d)).2 ∧ PS (plS M S v).2 ≤ PS (plS M S (v + d)).2
  | 0, _ => ⟨Nat.le_refl _, Nat.le_refl _⟩
  | d + 1, hd => by
    have h1 := plS_PC h hv d (by omega)
    have h2 := PC_mvz (M := (plS M S (v + d)).1) (v := v + d) (h := hoV (plS M S (v + d)).1 (v + d) 12) (p := (plS M S (v + d)).1 7 12) (plS_PI h (v + d) (by omega)).1
    have e : (plS M S (v + (d + 1))).2 = mvz (plS M S (v + d)).1 (plS M S (v + d)).2 (v + d) (hoV (plS M S (v + d)).1 (v + d) 12) ((plS M S (v + d)).1 7 12) := by
      rw [show v + (d + 1) = (v + d) + 1 from rfl, plS_s]
    rw [e]
    omega
theorem plS_le {M : Nat → Nat → Int32} {S : SZ} (h : PI M S) {v w : Nat} (hv : v ≤ w) (hw : w ≤ 12) : PC (plS M S v).2 ≤ PC (plS M S w).2 ∧ PS (plS M S v).2 ≤ PS (plS M S w).2 := by
  have := plS_PC h (v := v) (by omega) (w - v) (by omega)
  rwa [show v + (w - v) = w by omega] at this
def pyC (M : Nat → Nat → Int32) (S : SZ) (A : Nat → Nat → Int32) : Nat → Nat → Int32 := up2 (plS A S 12).1 0 8 (mx2 0 (mn2 1000 ((plS A S 12).1 0 8 + (plS A S 12).1 5 2) - (plS A S 12).1 5 3 - usV A S 12))
def pyD (M : Nat → Nat → Int32) (S : SZ) (j r : Nat) : Nat → Nat → Int32 := up2 (pyC M S (codI (rdI M j r 16))) 0 7 (pyC M S (codI (rdI M j r 16)) 0 7 + 1)
def pyM (M : Nat → Nat → Int32) (S : SZ) (j r : Nat) : Nat → Nat → Int32 := upr (pyD M S j r) 6 (pyD M S j r 7)
def pyZ (M : Nat → Nat → Int32) (S : SZ) (j r : Nat) : SZ := (plS (codI (rdI M j r 16)) S 12).2
theorem PI_cod {M : Nat → Nat → Int32} {S : SZ} {j r n : Nat} (h : PI M S) : PI (codI (rdI M j r n)) S := by
  obtain ⟨h1, h2, h3, h4, h5⟩ := h
  refine ⟨h1, ?_, ?_, ?_, fun v hv h7 hn => ?_⟩
  · rw [codI_n (by decide), rdI_n (by decide)]; exact h2
  · rw [codI_n (by decide), rdI_n (by decide)]; exact h3
  · rw [codI_n (by decide), rdI_n (by decide)]; exact h4
  · rw [codI_n (by omega), rdI_n (by omega)] at h7 hn ⊢
    exact h5 v hv h7 hn
theorem mR_6 {S : SZ} (hS : WS S) {i k : Nat} (hi : i ∈ mL S) (h : mR S i k = some 6) : i = 0 ∧ k = 5 := by
  have c1 := hS.c1; have c2 := hS.c2; have c3 := hS.c3
  have eC : ∀ (q c : Nat), 0 < q → mE q c = some 6 → False := fun q c hq e => by
    unfold mE at e
    by_cases h0 : c = 0
    · rw [if_pos h0] at e; injection e with e; omega
    · rw [if_neg h0] at e; injection e with e; omega
  unfold mR at h
  by_cases h0 : i = 0
  · rw [if_pos h0] at h
    refine ⟨h0, ?_⟩
    rcases (show k = 0 ∨ k = 1 ∨ k = 2 ∨ k = 3 ∨ k = 4 ∨ k = 5 ∨ 6 ≤ k by omega) with rfl | rfl | rfl | rfl | rfl | rfl | h6
    · exact absurd h (by decide)
    · exact absurd h (by decide)
    · exact absurd h (by decide)
    · exact absurd h (by decide)
    · exact absurd h (by decide)
    · rfl
    · obtain ⟨d, rfl⟩ : ∃ d, k = d + 6 := ⟨k - 6, by omega⟩
      exact absurd h (by simp)
  · exfalso
    rw [if_neg h0] at h
    repeat' split at h
    all_goals first
      | exact eC _ _ (by decide) h
      | (injection h with h; omega)
      | cases h
theorem g_ren7 {X : EN} {D : va_G} {dT : Nat → ClassId} {T : SZ} {I : Nat → Nat → Int32} {a : Nat → Nat} {lv : List (Nat × Value)} {ce sl pc : Nat} {st : List Value} (hT : WS T) (hk : GG X D (va_up a 6 (a 7)) (mL T) (pf dT mK mN (upr I 6 (I 7)) (mR T) (va_up a 6 (a 7))) lv ce sl pc st) : GG X D a (mL T ++ [7]) (pf dT mK mN I (up2 (mR T) 0 5 (some 7)) a) lv ce sl pc st := by
  refine g_ren (fun i => if i = 6 then 7 else i) (fun i hi => ?_) ?_ (fun i hi => ?_) hk
  · show (if i = 6 then 7 else i) ∈ _
    by_cases h : i = 6
    · rw [if_pos h]; exact List.mem_append_right _ (List.mem_singleton.mpr rfl)
    · rw [if_neg h]; exact List.mem_append_left _ hi
  · refine List.pairwise_map.mpr (List.Pairwise.imp_of_mem (fun {x y} hx hy h e => ?_) (mL_nd (S := T)))
    have hx7 : x ≠ 7 := fun q => f_lo (n := 7) (by decide) (by decide) hT (q ▸ hx)
    have hy7 : y ≠ 7 := fun q => f_lo (n := 7) (by decide) (by decide) hT (q ▸ hy)
    by_cases h1 : x = 6
    · by_cases h2 : y = 6
      · exact h (h1.trans h2.symm)
      · simp only [h1, if_true, h2, if_false] at e; exact hy7 e.symm
    · by_cases h2 : y = 6
      · simp only [h1, if_false, h2, if_true] at e; exact hx7 e
      · simp only [h1, h2, if_false] at e; exact h e
  · show _ = a (if i = 6 then 7 else i) ∧ _ = pf dT mK mN I (up2 (mR T) 0 5 (some 7)) a (if i = 6 then 7 else i)
    by_cases h : i = 6
    · subst h
      rw [if_pos rfl]
      refine ⟨if_pos rfl, ?_⟩
      rw [pf_ia (K := mK) (i := 6) (kd := 21) rfl (Or.inr rfl), pf_ia (K := mK) (i := 7) (kd := 21) rfl (Or.inr rfl), upr_s]
      rfl
    · rw [if_neg h]
      refine ⟨va_up_ne _ _ h, ?_⟩
      rw [pf_I (I := I) (I2 := upr I 6 (I 7)) (upr_n h)]
      unfold pf
      have er : ∀ k, (mR T i k).map (va_up a 6 (a 7)) = (up2 (mR T) 0 5 (some 7) i k).map a := fun k => by
        by_cases q : i = 0 ∧ k = 5
        · obtain ⟨rfl, rfl⟩ := q
          rw [up2_s]
          show some (va_up a 6 (a 7) 6) = some (a 7)
          rw [show va_up a 6 (a 7) 6 = a 7 from if_pos rfl]
        · rw [up2_n (by omega)]
          cases e : mR T i k with
          | none => rfl
          | some y =>
            have hy : y ≠ 6 := fun w => q (mR_6 hT hi (by rw [e, w]))
            show some (va_up a 6 (a 7) y) = some (a y)
            rw [va_up_ne _ _ hy]
      have ek : ∀ (bs : List Bool) (k : Nat), kmap (va_up a 6 (a 7)) (I i) (mR T i) bs k = kmap a (I i) (up2 (mR T) 0 5 (some 7) i) bs k := by
        intro bs
        induction bs with
        | nil => intro k; rfl
        | cons b bs ih =>
          intro k
          have e9 := er k
          cases b with
          | true =>
            show Value.int (I i k) :: kmap _ _ _ bs (k + 1) = Value.int (I i k) :: kmap _ _ _ bs (k + 1)
            rw [ih (k + 1)]
          | false =>
            show va_re (va_up a 6 (a 7)) (mR T i k) :: kmap _ _ _ bs (k + 1) = va_re a (up2 (mR T) 0 5 (some 7) i k) :: kmap _ _ _ bs (k + 1)
            rw [ih (k + 1)]
            congr 1
            revert e9
            cases mR T i k with
            | none => cases up2 (mR T) 0 5 (some 7) i k with
              | none => intro _; rfl
              | some y => intro q; exact absurd q (by simp)
            | some x => cases up2 (mR T) 0 5 (some 7) i k with
              | none => intro q; exact absurd q (by simp)
              | some y => intro q; simp only [Option.map_some, Option.some.injEq] at q; show Value.ref _ = Value.ref _; rw [q]
      by_cases k20 : mK i < 20
      · rw [if_pos k20, if_pos k20, ek]
      · rw [if_neg k20, if_neg k20]
        by_cases k22 : mK i < 22
        · rw [if_pos k22, if_pos k22]
        · rw [if_neg k22, if_neg k22, show (fun j => (mR T i j).map (va_up a 6 (a 7))) = (fun j => (up2 (mR T) 0 5 (some 7) i j).map a) from funext er]
theorem AGm_ren {L : List Nat} {a b : Nat → Nat} {x : Nat} (h : AGm L a b) : AGm L a (va_up b 6 x) := fun i hi h6 h1 => (va_up_ne _ _ h6).trans (h i hi h6 h1)
