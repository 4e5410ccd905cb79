/-! rolls: length, holes, unlike, parent, roll, copy -/
theorem lenR_0 {M : Nat → Nat → Int32} {j r q : Nat} : ∀ n, (∀ t, t < n → M (6000 + 200 * j + r) t = 0) → lenR M j r q n = q
  | 0, _ => rfl
  | n + 1, h => by
    unfold lenR
    rw [if_pos (h n (Nat.lt_succ_self n))]
    exact lenR_0 n (fun t ht => h t (Nat.lt_succ_of_lt ht))
theorem lenR_1 {M : Nat → Nat → Int32} {j r q : Nat} : ∀ n, (∃ t, t < n ∧ ¬ M (6000 + 200 * j + r) t = 0) → lenR M j r q n = r + 1
  | 0, h => by obtain ⟨t, ht, -⟩ := h; exact absurd ht (Nat.not_lt_zero t)
  | n + 1, h => by
    unfold lenR
    by_cases e : M (6000 + 200 * j + r) n = 0
    · rw [if_pos e]
      obtain ⟨t, ht, hn⟩ := h
      refine lenR_1 n ⟨t, ?_, hn⟩
      rcases Nat.lt_or_ge t n with q | q
      · exact q
      · rw [show t = n by omega] at hn; exact absurd e hn
    · rw [if_neg e]
theorem bt_all0 {x : Nat} (hx : x < 65536) (h : ∀ t, t < 16 → bt x t = 0) : x = 0 := bt_ext hx (by decide) (fun t ht => by rw [h t ht, bt_0])
theorem crw_len {I M : Nat → Nat → Int32} {S : SZ} (h : RR I M S) {j : Nat} (hj : j < S.1) : ∀ n, n ≤ 200 → crw (I (8 + j)) n = nI (lenM M j n)
  | 0, _ => rfl
  | n + 1, hn => by
    obtain ⟨x, hx, e1, e2, e3⟩ := h.2.2 j (by have := h.2.1; omega) n (by omega)
    unfold crw lenM
    rw [e1, crw_len h hj n (by omega)]
    by_cases h0 : x = 0
    · subst h0
      rw [if_pos (show nI 0 = 0 from rfl), lenR_0 16 (fun t ht => by rw [e3 hj t ht, bt_0]; rfl)]
    · rw [if_neg (nI_ne0 (by omega) (by omega)), lenR_1 16, nI_1]
      apply Classical.byContradiction
      intro w
      apply h0
      refine bt_all0 hx (fun t ht => Classical.byContradiction (fun w2 => w ⟨t, ht, ?_⟩))
      rw [e3 hj t ht]
      exact fun w3 => w2 (nI_bt0.mp w3)
theorem len_up {M : Nat → Nat → Int32} {x : Int32} {j n : Nat} : lenM (up2 M 0 15 x) j n = lenM M j n := lenM_ext n (fun r _ => up2_row (by omega))
theorem s_length {I M : Nat → Nat → Int32} {S : SZ} (h : RR I M S) {v : Int32} (q : kr1 I v = 0) : crw (I (8 + v.toNatClampNeg)) 200 = nI (lenM (up2 M 0 15 0) v.toNatClampNeg 200) := by
  have h1 : ¬ rp I v = 0 := fun e => by unfold kr1 at q; rw [if_pos e] at q; cases q
  obtain ⟨j, hj, hj4, rfl, e⟩ := k_r h h1
  rw [e, len_up, crw_len h hj 200 (Nat.le_refl _)]
theorem pop_one (x k : Nat) : ∀ n, pop (x &&& 2 ^ k) n = if k < n then bt x k else 0
  | 0 => rfl
  | n + 1 => by
    unfold pop
    rw [pop_one x k n, bt_and, bt_p2]
    by_cases h : n = k
    · subst h; rw [if_neg (Nat.lt_irrefl _), if_pos rfl, if_pos (Nat.lt_succ_self _), if_neg (by decide), Nat.zero_add]
    · rw [if_neg h, if_pos rfl, Nat.add_zero]
      by_cases h2 : k < n
      · rw [if_pos h2, if_pos (by omega)]
      · rw [if_neg h2, if_neg (by omega)]
theorem hoM_n {I M : Nat → Nat → Int32} {S : SZ} (h : RR I M S) {j k : Nat} (hj : j < S.1) (hk : k < 16) : ∀ n, n ≤ 200 → sumB (fun q => bcnt (I (8 + j) q &&& (1 <<< (nI k &&& 31)))) n = nI (hoM M j k n)
  | 0, _ => rfl
  | n + 1, hn => by
    obtain ⟨x, hx, e1, e2, e3⟩ := h.2.2 j (by have := h.2.1; omega) n (by omega)
    unfold sumB hoM
    rw [hoM_n h hj hk n (by omega), e1, one_shl k hk, nI_and16 hx (p2_16 k hk), bcnt_nI (and16 hx), pop_one, if_pos hk, e3 hj k hk]
    rcases bt_01 x k with e | e <;> rw [e]
    · rw [if_pos (by decide)]; exact Int32.add_zero _
    · rw [if_neg (by decide), nI_add]
theorem ho_up {M : Nat → Nat → Int32} {x : Int32} {j t : Nat} : ∀ n, hoM (up2 M 0 15 x) j t n = hoM M j t n
  | 0 => rfl
  | n + 1 => by unfold hoM; rw [ho_up n, up2_row (by omega)]
theorem s_holes {I M : Nat → Nat → Int32} {S : SZ} (h : RR I M S) {v t : Int32} (q : kho I v t = 0) : sumB (fun q => bcnt (I (8 + v.toNatClampNeg) q &&& (1 <<< (t &&& 31)))) 200 = nI (hoM (up2 M 0 15 0) v.toNatClampNeg t.toNatClampNeg 200) := by
  unfold kho at q
  by_cases h1 : rp I v = 0
  · rw [if_pos h1] at q; cases q
  · rw [if_neg h1] at q
    by_cases h2 : wi t 0 15 = 0
    · rw [if_pos h2] at q; cases q
    · obtain ⟨j, hj, hj4, rfl, e⟩ := k_r h h1
      obtain ⟨k, hk, rfl, e2⟩ := k_wi (n := 15) rfl (by decide) h2
      rw [e, e2, ho_up, hoM_n h hj (by omega) 200 (Nat.le_refl _)]
theorem apR_pop {M : Nat → Nat → Int32} {i j r q x y : Nat} : ∀ n, n ≤ 16 → (∀ t, t < 16 → M (6000 + 200 * i + r) t = nI (bt x t)) → (∀ t, t < 16 → M (6000 + 200 * j + r) t = nI (bt y t)) → apR M i j r q n = q + pop (x ^^^ y) n
  | 0, _, _, _ => rfl
  | n + 1, hn, h1, h2 => by
    unfold apR pop
    rw [apR_pop n (by omega) h1 h2, h1 n (by omega), h2 n (by omega), bt_xor]
    have e : nI (bt x n) = nI (bt y n) ↔ bt x n = bt y n := by rcases bt_01 x n with a | a <;> rcases bt_01 y n with b | b <;> rw [a, b] <;> decide
    by_cases w : bt x n = bt y n
    · rw [if_pos w, if_pos (e.mpr w)]; rfl
    · rw [if_neg w, if_neg (fun z => w (e.mp z))]; rfl
theorem dis_ap {I M : Nat → Nat → Int32} {S : SZ} (h : RR I M S) {i j : Nat} (hi : i < S.1) (hj : j < S.1) : dis I i j = nI (apM M i j 200) := by
  have h4 := h.2.1
  have : ∀ n, n ≤ 200 → sumB (fun r => bcnt (I (8 + i) r ^^^ I (8 + j) r)) n = nI (apM M i j n) := by
    intro n
    induction n with
    | zero => exact fun _ => rfl
    | succ n ih =>
      intro hn
      obtain ⟨x, hx, e1, e2, e3⟩ := h.2.2 i (by omega) n (by omega)
      obtain ⟨y, hy, f1, f2, f3⟩ := h.2.2 j (by omega) n (by omega)
      unfold sumB apM
      rw [ih (by omega), e1, f1, nI_xor (by omega) (by omega), bcnt_nI (xor16 hx hy), apR_pop 16 (Nat.le_refl _) (e3 hi) (f3 hj), nI_add]
  exact this 200 (Nat.le_refl _)
theorem apR_up {M : Nat → Nat → Int32} {x : Int32} {i j r q : Nat} : ∀ n, apR (up2 M 0 15 x) i j r q n = apR M i j r q n
  | 0 => rfl
  | n + 1 => by unfold apR; rw [apR_up n, up2_row (by omega), up2_row (by omega)]
theorem ap_up {M : Nat → Nat → Int32} {x : Int32} {i j : Nat} : ∀ n, apM (up2 M 0 15 x) i j n = apM M i j n
  | 0 => rfl
  | n + 1 => by unfold apM; rw [ap_up n, apR_up]
theorem s_unlike {I M : Nat → Nat → Int32} {S : SZ} (h : RR I M S) {v w : Int32} (q : kun I v w = 0) : dis I v.toNatClampNeg w.toNatClampNeg = nI (apM (up2 M 0 15 0) v.toNatClampNeg w.toNatClampNeg 200) := by
  unfold kun at q
  by_cases h1 : rp I v = 0
  · rw [if_pos h1] at q; cases q
  · rw [if_neg h1] at q
    by_cases h2 : rp I w = 0
    · rw [if_pos h2] at q; cases q
    · obtain ⟨i, hi, hi4, rfl, e⟩ := k_r h h1
      obtain ⟨j, hj, hj4, rfl, e2⟩ := k_r h h2
      rw [e, e2, ap_up, dis_ap h hi hj]
theorem pfl_par {I M : Nat → Nat → Int32} {i : Nat} (hd : ∀ k, k < i → dis I i k = nI (apM M i k 200)) : ∀ n k, k + 1 + n ≤ i → pfl I i n (k + 1) (parM M i k) (dis I i (parM M i k)) = parM M i (k + n)
  | 0, _, _ => rfl
  | n + 1, k, h => by
    unfold pfl
    have hb : ∀ k, k < i → parM M i k < i := by
      intro k
      induction k with
      | zero => exact id
      | succ k ih => intro w; unfold parM; split; exact ih (by omega); exact w
    have e : parM M i (k + 1) = if nI (apM M i (parM M i k) 200) ≤ nI (apM M i (k + 1) 200) then parM M i k else k + 1 := rfl
    rw [hd (k + 1) (by omega), hd (parM M i k) (hb k (by omega))]
    rw [show k + (n + 1) = k + 1 + n by omega]
    split
    · rename_i c
      rw [if_pos c] at e
      have := pfl_par hd n (k + 1) (by omega)
      rw [e, hd (parM M i k) (hb k (by omega))] at this
      rw [this]
    · rename_i c
      rw [if_neg c] at e
      have := pfl_par hd n (k + 1) (by omega)
      rw [e, hd (k + 1) (by omega)] at this
      rw [this]
theorem par_up {M : Nat → Nat → Int32} {x : Int32} {j : Nat} : ∀ n, parM (up2 M 0 15 x) j n = parM M j n
  | 0 => rfl
  | n + 1 => by unfold parM; rw [par_up n, ap_up, ap_up]
theorem s_parent {I M : Nat → Nat → Int32} {S : SZ} (h : RR I M S) {v : Int32} (q : kpa I v = 0) : nI (pfl I v.toNatClampNeg (v.toNatClampNeg - 1) 1 0 (dis I v.toNatClampNeg 0)) = nI (parM (up2 M 0 15 0) v.toNatClampNeg (v.toNatClampNeg - 1)) := by
  unfold kpa at q
  by_cases h1 : rp I v = 0
  · rw [if_pos h1] at q; cases q
  · rw [if_neg h1] at q
    obtain ⟨i, hi, hi4, rfl, e⟩ := k_r h h1
    by_cases h0 : nI i = 0
    · rw [if_pos h0] at q; cases q
    · have hi0 : 0 < i := by
        rcases Nat.eq_zero_or_pos i with w | w
        · subst w; exact absurd rfl h0
        · exact w
      rw [e, par_up]
      have := pfl_par (I := I) (M := M) (i := i) (fun k hk => dis_ap h hi (by omega)) (i - 1) 0 (by omega)
      rw [show 0 + (i - 1) = i - 1 from Nat.zero_add _] at this
      exact congrArg nI this
/-- roll -/
theorem RR_roll {I M : Nat → Nat → Int32} {S : SZ} (h : RR I M S) (h4 : S.1 < 4) : RR (up2 I 0 6 (I 0 6 + 1)) (roM M S.1) (addS1 S) := by
  refine ⟨by rw [up2_s, h.1, nI_1]; rfl, h4, fun j hj r hr => ?_⟩
  obtain ⟨x, hx, e1, e2, e3⟩ := h.2.2 j hj r hr
  refine ⟨x, hx, by rw [up2_row (by omega)]; exact e1, fun q => e2 (by have : S.1 + 1 ≤ j := q; omega), fun q t ht => ?_⟩
  have q2 : j < S.1 + 1 := q
  unfold roM
  rw [up2_row (by omega), up2_row (by omega)]
  unfold rwM
  by_cases w : j = S.1
  · rw [if_pos (by omega), e2 (by omega), bt_0]; rfl
  · rw [if_neg (by omega)]; exact e3 (by omega) t ht
/-- copy -/
theorem RR_copy {I M : Nat → Nat → Int32} {S : SZ} (h : RR I M S) (h4 : S.1 < 4) {j0 : Nat} (hj0 : j0 < S.1) : RR (upr (up2 I 0 6 (I 0 6 + 1)) (8 + S.1) (fun q => if q < 200 then (up2 I 0 6 (I 0 6 + 1)) (8 + j0) q else (up2 I 0 6 (I 0 6 + 1)) (8 + S.1) q)) (coM M j0 S.1) (addS1 S) := by
  refine ⟨by rw [upr_n (by omega), up2_s, h.1, nI_1]; rfl, h4, fun j hj r hr => ?_⟩
  by_cases w : j = S.1
  · subst w
    obtain ⟨x, hx, e1, e2, e3⟩ := h.2.2 j0 (by omega) r hr
    refine ⟨x, hx, ?_, fun q => absurd (show S.1 + 1 ≤ S.1 from q) (by omega), fun _ t ht => ?_⟩
    · rw [upr_s]
      show (if r < 200 then _ else _) = _
      rw [if_pos hr, up2_row (by omega)]; exact e1
    · unfold coM
      rw [up2_row (by omega), up2_row (by omega)]
      unfold cpM
      rw [if_pos (by omega), show 6000 + 200 * S.1 + r - (6000 + 200 * S.1) = r by omega]
      exact e3 hj0 t ht
  · obtain ⟨x, hx, e1, e2, e3⟩ := h.2.2 j hj r hr
    refine ⟨x, hx, ?_, fun q => e2 (by have : S.1 + 1 ≤ j := q; omega), fun q t ht => ?_⟩
    · rw [upr_n (by omega), up2_row (by omega)]; exact e1
    · have q2 : j < S.1 + 1 := q
      unfold coM
      rw [up2_row (by omega), up2_row (by omega)]
      unfold cpM
      rw [if_neg (by omega)]; exact e3 (by omega) t ht
/-- the checksum of the rolls -/
theorem ars_ck {I M : Nat → Nat → Int32} {S : SZ} (h : RR I M S) {j r : Nat} (hj : j < S.1) (hr : r < 200) {s : Int64} : ∀ n, n ≤ 16 → ars I j s r n = ckR M j r s n
  | 0, _ => rfl
  | n + 1, hn => by
    unfold ars ckR
    rw [ars_ck h hj hr n (by omega), h.hh hj hr (by omega)]
theorem ckR_0 {M : Nat → Nat → Int32} {j r : Nat} {s : Int64} : ∀ n, (∀ t, t < n → M (6000 + 200 * j + r) t = 0) → ckR M j r s n = s
  | 0, _ => rfl
  | n + 1, h => by
    unfold ckR
    rw [if_pos (h n (Nat.lt_succ_self n))]
    exact ckR_0 n (fun t ht => h t (Nat.lt_succ_of_lt ht))
theorem ats_ck {I M : Nat → Nat → Int32} {S : SZ} (h : RR I M S) {j : Nat} (hj : j < S.1) {s : Int64} : ∀ n, n ≤ 200 → ats I j s n = ckJ M j s n
  | 0, _ => rfl
  | n + 1, hn => by
    obtain ⟨x, hx, e1, e2, e3⟩ := h.2.2 j (by have := h.2.1; omega) n (by omega)
    unfold ats ckJ
    rw [ats_ck h hj n (by omega)]
    split
    · rename_i c
      rw [e1] at c
      have h0 : x = 0 := by
        rcases Nat.eq_zero_or_pos x with w | w
        · exact w
        · exact absurd c (nI_ne0 w (by omega))
      subst h0
      rw [ckR_0 16 (fun t ht => by rw [e3 hj t ht, bt_0]; rfl)]
    · exact ars_ck h hj (by omega) 16 (Nat.le_refl _)
theorem cks_ck {I M : Nat → Nat → Int32} {S : SZ} (h : RR I M S) : ∀ n, n ≤ S.1 → cks I n = ckA M n
  | 0, _ => rfl
  | n + 1, hn => by
    unfold cks ckA
    rw [cks_ck h n (by omega), ats_ck h (by omega) 200 (Nat.le_refl _)]
