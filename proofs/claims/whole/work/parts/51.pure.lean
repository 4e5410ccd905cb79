/-! adding a note that was scanned -/
theorem scR_o {S : SZ} {n a : Nat} (h : a ≠ 8) (h2 : a ≠ 4000 + cap n) : scR S n a = mR S a := by
  unfold scR
  rw [if_neg h, if_neg (fun q => h2 q.2)]
theorem k_add8 {D : va_G} {dT : Nat → ClassId} {Z : ZT} {ad : Nat → Nat} (I : Nat → Nat → Int32) (S : SZ) (hS : WS S) (n : Nat) (hlt : n < 804) (hw : I 8 2 = nI n) (hz : ad 99999 = Z.1) :
    ∀ l8, BI l8 yJx4a65c_add_9ea2d wsJx4a65c_add_9ea2d (rm_Jx4a65c_add_9ea2d (gC n (cap n)) (gS n (cap n))) D (tyl dT) Z ad (scL S n ++ [9000 + n]) (pf dT mK mN I (scR S n) ad) [.ref (ad 8), .ref (ad (9000 + n))] (gC n (cap n)) (gS n (cap n)) (fun r u => (∃ ad2 : Nat → Nat, (∀ i, i < 4000 ∨ 5000 ≤ i → ad2 i = ad i) ∧ u = (ad2, scL S (n + 1), pf dT mK mN (up2 (up2 I 8 0 (I 8 0 + 1)) 8 2 (nI (n + 1))) (scR S (n + 1)) ad2)) ∧ 1 = r) := by
  intro l8
  have hc9 := cap_le (n := n) (by omega)
  have hc8 := cap_le (n := n + 1) (by omega)
  have hsc := cap_ge (n := n) (by omega)
  have hsc2 := cap_ge (n := n + 1) (by omega)
  have hc1 := cap_1 (n := n) (by omega)
  have hcs : cap (n + 1) = ncap n (cap n) := rfl
  have hnd := scL_nd hS (n := n + 1) (by omega)
  have hm8 : (8 : Nat) ∈ scL S n ++ [9000 + n] := List.mem_append_left _ (scL_mem.mpr (Or.inr (Or.inl rfl)))
  have hfin : ∀ r u, ((∃ ad2 : Nat → Nat, (∀ i, i ≠ 4000 + cap (n + 1) → ad2 i = ad i) ∧ u = (ad2, scL S (n + 1), pf dT mK mN (up2 (up2 I 8 0 (I 8 0 + 1)) 8 2 (nI (n + 1))) (scR S (n + 1)) ad2)) ∧ (1 : Int32) = r) → ∃ u2, UC u u2 ∧ ((∃ ad2 : Nat → Nat, (∀ i, i < 4000 ∨ 5000 ≤ i → ad2 i = ad i) ∧ u2 = (ad2, scL S (n + 1), pf dT mK mN (up2 (up2 I 8 0 (I 8 0 + 1)) 8 2 (nI (n + 1))) (scR S (n + 1)) ad2)) ∧ 1 = r) := by
    rintro r u ⟨⟨ad2, ha, rfl⟩, hr⟩
    exact ⟨_, ⟨fun _ h => h, hnd, fun _ _ => ⟨rfl, rfl⟩⟩, ⟨ad2, fun i hi => ha i (by omega), rfl⟩, hr⟩
  have hel : ∀ k, k < cap n → ∀ y, scR S n (4000 + cap n) k = some y → y ∈ scL S n ++ [9000 + n] ∧ mK y = 20 := fun k hk y hy => by
    rw [scR_e (by omega)] at hy
    by_cases q : k < n
    · rw [if_pos q] at hy; cases hy; exact ⟨List.mem_append_left _ (scL_mem.mpr (Or.inr (Or.inr (Or.inr ⟨k, q, rfl⟩)))), mK_h (by omega)⟩
    · rw [if_neg q] at hy; cases hy
  have hin : ∀ i ∈ scL S (n + 1), i ∈ scL S n ++ [9000 + n] ∨ i = 4000 + cap (n + 1) := fun i hi => by
    rcases scL_mem.mp hi with w | w | ⟨-, w⟩ | ⟨k, w1, w2⟩
    · exact Or.inl (List.mem_append_left _ (scL_mem.mpr (Or.inl w)))
    · exact Or.inl (List.mem_append_left _ (scL_mem.mpr (Or.inr (Or.inl w))))
    · exact Or.inr w
    · rcases Nat.lt_or_ge k n with q | q
      · exact Or.inl (List.mem_append_left _ (scL_mem.mpr (Or.inr (Or.inr (Or.inr ⟨k, q, w2⟩)))))
      · exact Or.inl (List.mem_append_right _ (List.mem_singleton.mpr (by omega)))
  have hmK : mK (9000 + n) = 20 := mK_h (by omega)
  rcases Nat.lt_or_ge n (cap n) with q | q
  · have en : cap (n + 1) = cap n := by rw [hcs]; exact if_pos q
    have hN4 := mN_e (j := 4) (c := cap n) (by omega) (by omega) (by omega)
    rw [show 1000 * 4 = 4000 from rfl] at hN4
    refine bi_imp (v_add (D := D) (dT := dT) (Z := Z) (I := I) (Rr := scR S n) (ad := ad) (L := scL S n ++ [9000 + n]) 8 (cap n) n (4000 + cap n) (4000 + cap (n + 1)) (9000 + n) hm8 rfl hw hsc hc1 (by omega) (fun h => ⟨List.mem_append_left _ (scL_mem.mpr (Or.inr (Or.inr (Or.inl ⟨h, rfl⟩)))), mK_e (by omega) (by omega), by rw [scR_8, if_pos rfl, mE_p h], hN4⟩) (fun h => absurd h (by omega)) hz (fun h => absurd h (by omega)) 20 "[I" (Or.inl ⟨rfl, rfl⟩) hel (List.mem_append_right _ (List.mem_singleton.mpr rfl)) (Or.inl hmK) (scL S (n + 1)) (scR S (n + 1)) hnd (fun i hi => ?_) (fun i hi => ?_) l8) hfin
    · rcases hin i hi with w | w
      · exact Or.inl w
      · exact Or.inl (List.mem_append_left _ (scL_mem.mpr (Or.inr (Or.inr (Or.inl ⟨by omega, by rw [w, en]⟩)))))
    · funext k
      unfold adR
      rw [if_pos q]
      by_cases h8 : i = 8
      · subst h8
        rw [up2_row (by omega), scR_8, scR_8, en]
      · by_cases h2 : i = 4000 + cap n
        · subst h2
          rw [← en, scR_e (by omega), en]
          by_cases hk : k = n
          · subst hk; rw [up2_s, if_pos (Nat.lt_succ_self _)]
          · rw [up2_n (Or.inr hk), scR_e (by omega)]
            by_cases hk2 : k < n
            · rw [if_pos hk2, if_pos (by omega)]
            · rw [if_neg hk2, if_neg (by omega)]
        · rw [up2_row h2, scR_o h8 (by rw [en]; exact h2), scR_o h8 h2]
  · have hsc3 : n = cap n := by omega
    have hgt : cap n < cap (n + 1) := by omega
    have hnl : 4000 + cap (n + 1) ∉ scL S n ++ [9000 + n] := fun w => by
      rcases List.mem_append.mp w with w | w
      · rcases scL_mem.mp w with w | w | ⟨-, w⟩ | ⟨k, w1, w2⟩
        · have := (mL_mem.mp w).2
          have := hS.c1; have := hS.c2; have := hS.c3; have := hS.1; have := hS.2.1; have := hS.2.2.1
          unfold mA at *
          omega
        · omega
        · omega
        · omega
      · have := List.mem_singleton.mp w; omega
    have hN4 := mN_e (j := 4) (c := cap (n + 1)) (by omega) (by omega) (by omega)
    rw [show 1000 * 4 = 4000 from rfl] at hN4
    have hN5 := mN_e (j := 4) (c := cap n) (by omega) (by omega) (by omega)
    rw [show 1000 * 4 = 4000 from rfl] at hN5
    have hrow : ∀ k, scR S n (4000 + cap (n + 1)) k = none := fun k => by
      rw [scR_o (by omega) (by omega), mR_0 (by omega)]
    refine bi_imp (v_add (D := D) (dT := dT) (Z := Z) (I := I) (Rr := scR S n) (ad := ad) (L := scL S n ++ [9000 + n]) 8 (cap n) n (4000 + cap n) (4000 + cap (n + 1)) (9000 + n) hm8 rfl hw hsc hc1 (by omega) (fun h => ⟨List.mem_append_left _ (scL_mem.mpr (Or.inr (Or.inr (Or.inl ⟨h, rfl⟩)))), mK_e (by omega) (by omega), by rw [scR_8, if_pos rfl, mE_p h], hN5⟩) (fun h => by rw [scR_8, if_pos rfl, h]; rfl) hz (fun h => ⟨hnl, fun i hi k w => ?_, mK_e (by omega) (by omega), hN4, hrow⟩) 20 "[I" (Or.inl ⟨rfl, rfl⟩) hel (List.mem_append_right _ (List.mem_singleton.mpr rfl)) (Or.inl hmK) (scL S (n + 1)) (scR S (n + 1)) hnd (fun i hi => ?_) (fun i hi => ?_) l8) hfin
    · by_cases h8 : i = 8
      · subst h8
        rw [scR_8] at w
        by_cases hk : k = 1
        · rw [if_pos hk] at w
          unfold mE at w
          by_cases h0 : cap n = 0
          · rw [if_pos h0] at w; injection w with w; omega
          · rw [if_neg h0] at w; injection w with w; omega
        · rw [if_neg hk] at w; cases w
      · by_cases h2 : i = 4000 + cap n
        · subst h2
          by_cases h0 : 0 < cap n
          · rw [scR_e h0] at w
            by_cases hk : k < n
            · rw [if_pos hk] at w; injection w with w; omega
            · rw [if_neg hk] at w; cases w
          · unfold scR at w
            rw [if_neg h8, if_neg (by omega), mR_0 (by omega)] at w; cases w
        · rw [scR_o h8 h2] at w
          rcases List.mem_append.mp hi with z | z
          · rcases scL_mem.mp z with z | z | ⟨-, z⟩ | ⟨k9, z1, z2⟩
            · rcases mR_cl hS z w with y | y
              · exact hnl (List.mem_append_left _ (scL_mem.mpr (Or.inl y)))
              · omega
            · exact h8 z
            · exact h2 z
            · rw [z2, mR_0 (by omega)] at w; cases w
          · rw [List.mem_singleton.mp z, mR_0 (by omega)] at w; cases w
    · rcases hin i hi with w | w
      · exact Or.inl w
      · exact Or.inr ⟨hsc3, w⟩
    · funext k
      unfold adR
      rw [if_neg (by omega)]
      have lhs8 : ∀ k, scR S (n + 1) 8 k = if k = 1 then some (4000 + cap (n + 1)) else none := fun k => by
        rw [scR_8, mE_p (by omega)]
      have lhsE : ∀ k, scR S (n + 1) (4000 + cap (n + 1)) k = if k < n + 1 then some (9000 + k) else none := fun k => scR_e (by omega)
      by_cases q0 : cap n = 0
      · rw [if_pos q0]
        by_cases h2 : i = 4000 + cap (n + 1)
        · subst h2
          rw [lhsE]
          by_cases hk : k = 0
          · subst hk; rw [up2_s, if_pos (by omega)]; congr 1; omega
          · rw [up2_n (Or.inr hk), up2_row (by omega), hrow, if_neg (by omega)]
        · rw [up2_row h2]
          by_cases h1 : i = 8
          · subst h1
            rw [lhs8]
            by_cases hk : k = 1
            · subst hk; rw [up2_s, if_pos rfl]
            · rw [up2_n (Or.inr hk), if_neg hk, scR_8, if_neg hk]
          · rw [up2_row h1, scR_o h1 h2]
            by_cases h3 : i = 4000 + cap n
            · unfold scR
              rw [if_neg h1, if_neg (by omega)]
            · rw [scR_o h1 h3]
      · rw [if_neg q0]
        by_cases h2 : i = 4000 + cap (n + 1)
        · subst h2
          rw [lhsE]
          by_cases hk : k = n
          · subst hk; rw [up2_s, if_pos (Nat.lt_succ_self _)]
          · rw [up2_n (Or.inr hk), up2_row (by omega), if_pos rfl, hN5, scR_e (by omega), hrow]
            by_cases hk2 : k < n
            · rw [if_pos (by omega), if_pos (by omega), if_pos hk2]
            · rw [if_neg (by omega)]
              by_cases hk3 : k < cap n
              · omega
              · rw [if_neg hk3]
        · rw [up2_row h2]
          by_cases h1 : i = 8
          · subst h1
            rw [lhs8]
            by_cases hk : k = 1
            · subst hk; rw [up2_s, if_pos rfl]
            · rw [up2_n (Or.inr hk), if_neg hk, if_neg (by omega), scR_8, if_neg hk]
          · rw [up2_row h1, if_neg h2]
            have h3 : i ≠ 4000 + cap n := fun w => by
              rcases scL_mem.mp hi with z | z | ⟨-, z⟩ | ⟨k9, z1, z2⟩
              · have := (mL_mem.mp z).2
                have := hS.c1; have := hS.c2; have := hS.c3; have := hS.1; have := hS.2.1; have := hS.2.2.1
                unfold mA at *
                omega
              · omega
              · omega
              · omega
            rw [scR_o h1 h2, scR_o h1 h3]
theorem scL_nin {S : SZ} {n : Nat} (hn : n ≤ 804) : 9000 + n ∉ scL S n := fun h => by
  have := cap_le hn
  rcases scL_mem.mp h with w | w | ⟨-, w⟩ | ⟨k, w1, w2⟩
  · have := (mL_mem.mp w).1; omega
  · omega
  · omega
  · omega
theorem scL_no {S : SZ} (hS : WS S) {n t : Nat} (hn : n ≤ 804) (ht : t ∉ scL S n) (h9 : t < 99999) : ∀ i ∈ scL S n, ∀ k, scR S n i k ≠ some t := fun i hi k w => by
  by_cases h8 : i = 8
  · subst h8
    rw [scR_8] at w
    by_cases hk : k = 1
    · rw [if_pos hk] at w
      unfold mE at w
      by_cases h0 : cap n = 0
      · rw [if_pos h0] at w; injection w with w; omega
      · rw [if_neg h0] at w; injection w with w
        exact ht (scL_mem.mpr (Or.inr (Or.inr (Or.inl ⟨by omega, by omega⟩))))
    · rw [if_neg hk] at w; cases w
  · by_cases h2 : i = 4000 + cap n
    · subst h2
      by_cases h0 : 0 < cap n
      · rw [scR_e h0] at w
        by_cases hk : k < n
        · rw [if_pos hk] at w; injection w with w
          exact ht (scL_mem.mpr (Or.inr (Or.inr (Or.inr ⟨k, hk, w.symm⟩))))
        · rw [if_neg hk] at w; cases w
      · unfold scR at w
        rw [if_neg h8, if_neg (by omega), mR_0 (by omega)] at w; cases w
    · rw [scR_o h8 h2] at w
      rcases scL_mem.mp hi with z | z | ⟨-, z⟩ | ⟨k9, z1, z2⟩
      · rcases mR_cl hS z w with y | y
        · exact ht (scL_mem.mpr (Or.inl y))
        · omega
      · exact h8 z
      · exact h2 z
      · rw [z2, mR_0 (by omega)] at w; cases w
theorem scR_0 {S : SZ} {n t : Nat} (h : (8 < t ∧ t < 1000) ∨ 5004 ≤ t) (hn : n ≤ 804) : ∀ k, scR S n t k = none := fun k => by
  rw [scR_n (by omega) (by omega) hn, mR_0 (by omega)]
theorem scR_00 {S : SZ} {x : Option Nat} (hx : x = some 99999) : up2 (mR S) 8 1 x = scR S 0 := by
  subst hx
  funext a k
  by_cases h : a = 8
  · subst h
    rw [scR_8]
    by_cases hk : k = 1
    · subst hk; rw [up2_s, if_pos rfl]; rfl
    · rw [up2_n (Or.inr hk), if_neg hk, mR_0 (by omega)]
  · rw [up2_row h]
    unfold scR
    rw [if_neg h, if_neg (fun q => absurd q.1 (by decide))]
theorem scL_00 {S : SZ} : mL S ++ [8] = scL S 0 := by
  unfold scL
  rw [show cap 0 = 0 from rfl, if_pos rfl, List.range_zero, List.map_nil, List.append_nil, List.append_nil]
theorem scI_00 {M : Nat → Nat → Int32} : up2 (upr M 8 (fun _ => 0)) 8 0 0 = scI M [] := by
  funext a b
  by_cases h : a = 8
  · subst h
    show _ = if b = 0 then nI 0 else if b = 2 then nI 0 else 0
    by_cases hb : b = 0
    · subst hb; rw [up2_s]; rfl
    · rw [up2_n (Or.inr hb), upr_s, if_neg hb]
      split <;> rfl
  · rw [up2_row h, upr_n h]
    unfold scI
    rw [if_neg h, if_neg (by simp)]
theorem mL_84 {S : SZ} (hS : WS S) {i : Nat} (hi : i ∈ mL S) : i ≠ 8 ∧ ¬ (4000 ≤ i ∧ i < 5000) := by
  have := (mL_mem.mp hi).2
  have := hS.c1; have := hS.c2; have := hS.c3
  unfold mA at *
  omega
theorem len1 {q r : Nat} (h : r ≤ q) : nI q - nI r + 1 = nI (q - r + 1) := by rw [pk_sub h, nI_1]
