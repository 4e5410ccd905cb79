/-! the relation: where the notes of a roll begin, how many, which -/
def stN (M : Nat → Nat → Int32) (j r t : Nat) : Nat := if M (6000 + 200 * j + r) t = 0 then 0 else if goM M j r t = 0 then 1 else 0
theorem rb_sub {I M : Nat → Nat → Int32} {S : SZ} (h : RR I M S) {j r d : Nat} (hj : j < S.1) (hr : r < 200) (hd : d ≤ 2) : ∃ x, x < 65536 ∧ rb I j (nI r - nI d) = nI x ∧ (r < d → x = 0) ∧ (d ≤ r → ∀ t, t < 16 → M (6000 + 200 * j + (r - d)) t = nI (bt x t)) := by
  rcases Nat.lt_or_ge r d with w | w
  · refine ⟨0, by decide, ?_, fun _ => rfl, fun q => absurd q (by omega)⟩
    unfold rb
    rw [if_pos (pk_sneg (by omega) w)]; rfl
  · obtain ⟨x, hx, e1, e2, e3⟩ := h.2.2 j (by have := h.2.1; omega) (r - d) (by omega)
    refine ⟨x, hx, ?_, fun q => absurd q (by omega), fun _ => e3 hj⟩
    rw [pk_sub w, rb_nI (by omega)]; exact e1
theorem bt_not {x t : Nat} (ht : t < 16) : bt (x ^^^ 4294967295) t = if bt x t = 0 then 1 else 0 := by
  rw [bt_xor, bt_m1 t ht]
  rcases bt_01 x t with e | e <;> rw [e] <;> rfl
theorem fb_st {I M : Nat → Nat → Int32} {S : SZ} (h : RR I M S) {j r : Nat} (hj : j < S.1) (hr : r < 200) : ∃ y, y < 4096 ∧ fb I j (nI r) = nI y ∧ ∀ t, t < 12 → bt y t = stN M j r t := by
  obtain ⟨x, hx, e1, e2, e3⟩ := h.2.2 j (by have := h.2.1; omega) r hr
  obtain ⟨x1, hx1, a1, a2, a3⟩ := rb_sub h hj hr (d := 1) (by decide)
  obtain ⟨x2, hx2, b1, b2, b3⟩ := rb_sub h hj hr (d := 2) (by decide)
  refine ⟨((x &&& (x1 ^^^ 4294967295)) &&& (x2 ^^^ 4294967295)) &&& 4095, Nat.and_lt_two_pow (n := 12) _ (by decide), ?_, fun t ht => ?_⟩
  · unfold fb
    have z1 : x1 ^^^ 4294967295 < 2 ^ 32 := Nat.xor_lt_two_pow (n := 32) (by omega) (by decide)
    have z2 : x2 ^^^ 4294967295 < 2 ^ 32 := Nat.xor_lt_two_pow (n := 32) (by omega) (by decide)
    have z3 : x &&& (x1 ^^^ 4294967295) < 65536 := and16 hx
    have z4 : (x &&& (x1 ^^^ 4294967295)) &&& (x2 ^^^ 4294967295) < 65536 := and16 z3
    have p1 : nI 4294967295 = (-1 : Int32) := m1_nI.symm
    rw [← p1]
    have c1 : nI r - 1 = nI r - nI 1 := rfl
    have c2 : nI r - 2 = nI r - nI 2 := rfl
    have c3 : (4095 : Int32) = nI 4095 := rfl
    rw [c1, c2, c3, a1, b1, rb_nI hr, e1, nI_xor (by omega) (by omega), nI_xor (by omega) (by omega), nI_and (by omega) z1, nI_and (by omega) z2, nI_and (by omega) (by omega)]
  · rw [bt_and, bt_4095 t (by omega), if_pos ht, if_neg (by decide), bt_and, bt_not (by omega), bt_and, bt_not (by omega)]
    unfold stN goM
    rw [e3 hj t (by omega)]
    by_cases hx0 : bt x t = 0
    · rw [if_pos (nI_bt0.mpr hx0), hx0]
      rcases bt_01 x1 t with a | a <;> rcases bt_01 x2 t with b | b <;> rw [a, b] <;> rfl
    · rw [if_neg (fun z => hx0 (nI_bt0.mp z))]
      have hx1' : bt x t = 1 := (bt_01 x t).resolve_left hx0
      rw [hx1']
      by_cases r0 : r = 0
      · rw [a2 (by omega), b2 (by omega), bt_0, if_pos r0]; rfl
      · rw [if_neg r0, a3 (by omega) t (by omega)]
        by_cases q1 : bt x1 t = 0
        · rw [if_pos q1, if_pos (nI_bt0.mpr q1)]
          by_cases r1 : r ≤ 1
          · rw [b2 (by omega), bt_0, if_pos r1]; rfl
          · rw [if_neg r1, b3 (by omega) t (by omega)]
            by_cases q2 : bt x2 t = 0
            · rw [if_pos q2, if_pos (nI_bt0.mpr q2)]; rfl
            · rw [if_neg q2, if_neg (fun z => q2 (nI_bt0.mp z))]; rfl
        · rw [if_neg q1, if_neg (fun z => q1 (nI_bt0.mp z))]
          rcases bt_01 x2 t with b | b <;> rw [b] <;> rfl
theorem stN_01 (M : Nat → Nat → Int32) (j r t : Nat) : stN M j r t = 0 ∨ stN M j r t = 1 := by
  unfold stN
  split
  · exact Or.inl rfl
  · split
    · exact Or.inr rfl
    · exact Or.inl rfl
theorem isb_st {I M : Nat → Nat → Int32} {S : SZ} (h : RR I M S) {j r t : Nat} (hj : j < S.1) (hr : r < 200) (ht : t < 12) : isb I j (nI r) (nI t) = nI (stN M j r t) := by
  obtain ⟨y, hy, e, f⟩ := fb_st h hj hr
  show ir (fb I j (nI r)) (nI t) = _
  rw [e, ir_nI (by omega) (by omega), f t ht]
theorem pop_12 {y : Nat} (hy : y < 4096) : pop y 16 = pop y 12 := by
  have e : ∀ t, 12 ≤ t → bt y t = 0 := fun t ht => by
    unfold bt
    rw [Nat.testBit_lt_two_pow (Nat.lt_of_lt_of_le hy (show 2 ^ 12 ≤ 2 ^ t from Nat.pow_le_pow_right (by decide) ht))]; rfl
  show pop y 12 + bt y 12 + bt y 13 + bt y 14 + bt y 15 = pop y 12
  rw [e 12 (by omega), e 13 (by omega), e 14 (by omega), e 15 (by omega)]
  rfl
theorem pop_sum {y : Nat} {f : Nat → Nat} : ∀ n, (∀ t, t < n → bt y t = f t) → pop y n = sumN f n
  | 0, _ => rfl
  | n + 1, h => by unfold pop sumN; rw [pop_sum n (fun t ht => h t (by omega)), h n (by omega)]
theorem bcnt_fb {I M : Nat → Nat → Int32} {S : SZ} (h : RR I M S) {j r : Nat} (hj : j < S.1) (hr : r < 200) : bcnt (fb I j (nI r)) = nI (sumN (stN M j r) 12) := by
  obtain ⟨y, hy, e, f⟩ := fb_st h hj hr
  rw [e, bcnt_nI (by omega), pop_12 hy, pop_sum 12 f]
abbrev N3 := Nat × Nat × Nat
def itN (M : Nat → Nat → Int32) (j r t : Nat) : N3 := (r, lsF M j r t - r + 1, t)
def stL (M : Nat → Nat → Int32) (j r t : Nat) : List N3 := if stN M j r t = 0 then [] else [itN M j r t]
theorem scT_s (M : Nat → Nat → Int32) (j r : Nat) (xs : List N3) (t : Nat) : scT M j r xs (t + 1) = scT M j r xs t ++ stL M j r t := by
  show (if M (6000 + 200 * j + r) t = 0 then scT M j r xs t else if goM M j r t = 0 then scT M j r xs t ++ [(r, lsF M j r t - r + 1, t)] else scT M j r xs t) = _
  unfold stL stN
  by_cases h1 : M (6000 + 200 * j + r) t = 0
  · rw [if_pos h1, if_pos h1, if_pos rfl, List.append_nil]
  · rw [if_neg h1, if_neg h1]
    by_cases h2 : goM M j r t = 0
    · rw [if_pos h2, if_pos h2, if_neg (by decide)]; rfl
    · rw [if_neg h2, if_neg h2, if_pos rfl, List.append_nil]
theorem scT_app (M : Nat → Nat → Int32) (j r : Nat) (xs : List N3) : ∀ t, scT M j r xs t = xs ++ scT M j r [] t
  | 0 => (List.append_nil xs).symm
  | t + 1 => by rw [scT_s, scT_s, scT_app M j r xs t, List.append_assoc]
theorem scT_ln (M : Nat → Nat → Int32) (j r : Nat) : ∀ t, (scT M j r [] t).length = sumN (stN M j r) t
  | 0 => rfl
  | t + 1 => by
    rw [scT_s, List.length_append, scT_ln M j r t]
    show sumN (stN M j r) t + (stL M j r t).length = sumN (stN M j r) t + stN M j r t
    unfold stL
    rcases stN_01 M j r t with e | e <;> rw [e] <;> rfl
theorem scA_s (M : Nat → Nat → Int32) (j r : Nat) : scA M j (r + 1) = scA M j r ++ scT M j r [] 12 := scT_app M j r (scA M j r) 12
theorem scA_ln (M : Nat → Nat → Int32) (j : Nat) : ∀ n, (scA M j n).length = sumN (fun r => sumN (stN M j r) 12) n
  | 0 => rfl
  | n + 1 => by rw [scA_s, List.length_append, scA_ln M j n, scT_ln]; rfl
/-- scanned -/
theorem sc_cnt {I M : Nat → Nat → Int32} {S : SZ} (h : RR I M S) {j : Nat} (hj : j < S.1) : sumB (fun q => bcnt (fb I j (nI q))) 200 = nI (scA M j 200).length := by
  have e : ∀ n, n ≤ 200 → sumB (fun q => bcnt (fb I j (nI q))) n = nI (scA M j n).length := fun n hn => by
    rw [scA_ln]
    exact sumB_N n (fun r hr => bcnt_fb h hj (by omega))
  exact e 200 (Nat.le_refl _)
theorem sumN_le {f : Nat → Nat} {b : Nat} : ∀ n, (∀ k, k < n → f k ≤ b) → sumN f n ≤ n * b
  | 0, _ => Nat.zero_le _
  | n + 1, h => by
    unfold sumN
    have := sumN_le n (fun k hk => h k (by omega))
    have := h n (by omega)
    rw [Nat.succ_mul]; omega
theorem scA_le (M : Nat → Nat → Int32) (j : Nat) : (scA M j 200).length ≤ 2400 := by
  have e : ∀ n, (scA M j n).length ≤ n * 12 := fun n => by
    rw [scA_ln]
    exact sumN_le (b := 12) n (fun r _ => Nat.le_trans (sumN_le (b := 1) 12 (fun t _ => by rcases stN_01 M j r t with e | e <;> omega)) (by decide))
  exact e 200
theorem mnw_ls {I M : Nat → Nat → Int32} {S : SZ} (h : RR I M S) {j t : Nat} (hj : j < S.1) (ht : t < 16) : ∀ n k q, n + k = 200 → q < k → k ≤ q + 2 → mnw I j (nI t) n k q = lsM M j t n k q
  | 0, _, _, _, _, _ => rfl
  | n + 1, k, q, hk, h1, h2 => by
    unfold mnw lsM
    rw [h.hh hj (by omega) ht, if_neg (show ¬ q + 2 < k by omega), pk_sub (by omega)]
    by_cases e : M (6000 + 200 * j + k) t = 0
    · rw [if_pos e, if_pos e]
      by_cases w : k - q < 2
      · rw [if_pos ((lt_L (c := 2) (n := 2) rfl (by omega) (by decide)).mpr w)]
        exact mnw_ls h hj ht n (k + 1) q (by omega) (by omega) (by omega)
      · rw [if_neg (fun z => w ((lt_L (c := 2) (n := 2) rfl (by omega) (by decide)).mp z))]
        cases n with
        | zero => rfl
        | succ n => unfold lsM; rw [if_pos (by omega)]
    · rw [if_neg e, if_neg e]
      exact mnw_ls h hj ht n (k + 1) k (by omega) (by omega) (by omega)
theorem mnw_lsF {I M : Nat → Nat → Int32} {S : SZ} (h : RR I M S) {j r t : Nat} (hj : j < S.1) (ht : t < 16) (hr : r < 200) (hm : ¬ M (6000 + 200 * j + r) t = 0) : mnw I j (nI t) (199 - r) (r + 1) r = lsF M j r t := by
  unfold lsF
  rw [show 200 - r = (199 - r) + 1 by omega, mnw_ls h hj ht (199 - r) (r + 1) r (by omega) (by omega) (by omega)]
  show _ = if r + 2 < r then r else lsM M j t (199 - r) (r + 1) (if M (6000 + 200 * j + r) t = 0 then r else r)
  rw [if_neg (by omega), if_neg hm]
theorem lsM_ge (M : Nat → Nat → Int32) (j t : Nat) : ∀ n k q, q ≤ k → q ≤ lsM M j t n k q
  | 0, _, _, _ => Nat.le_refl _
  | n + 1, k, q, h => by
    unfold lsM
    split
    · exact Nat.le_refl _
    · split
      · exact lsM_ge M j t n (k + 1) q (by omega)
      · exact Nat.le_trans h (lsM_ge M j t n (k + 1) k (by omega))
theorem lsM_lt (M : Nat → Nat → Int32) (j t : Nat) : ∀ n k q, q < k + n → 1 ≤ k + n → lsM M j t n k q < k + n
  | 0, _, _, h, _ => h
  | n + 1, k, q, h, h1 => by
    unfold lsM
    split
    · exact h
    · have := lsM_lt M j t n (k + 1)
      split
      · have := this q (by omega) (by omega); omega
      · have := this k (by omega) (by omega); omega
theorem lsF_in (M : Nat → Nat → Int32) (j t : Nat) {r : Nat} (hr : r < 200) : r ≤ lsF M j r t ∧ lsF M j r t < 200 := by
  unfold lsF
  have h1 := lsM_ge M j t (200 - r) r r (Nat.le_refl _)
  have h2 := lsM_lt M j t (200 - r) r r (by omega) (by omega)
  exact ⟨h1, by omega⟩
def isIt (M : Nat → Nat → Int32) (j n : Nat) (z : N3) : Prop := z.1 < n ∧ z.2.2 < 12 ∧ stN M j z.1 z.2.2 = 1 ∧ z = itN M j z.1 z.2.2
theorem scT_mem (M : Nat → Nat → Int32) (j r : Nat) (z : N3) : ∀ t, z ∈ scT M j r [] t ↔ z.1 = r ∧ z.2.2 < t ∧ stN M j r z.2.2 = 1 ∧ z = itN M j r z.2.2
  | 0 => ⟨fun h => absurd h (by show ¬ z ∈ []; exact List.not_mem_nil), fun h => absurd h.2.1 (Nat.not_lt_zero _)⟩
  | t + 1 => by
    rw [scT_s, List.mem_append, scT_mem M j r z t]
    unfold stL
    constructor
    · rintro (h | h)
      · exact ⟨h.1, by omega, h.2.2⟩
      · rcases stN_01 M j r t with e | e
        · rw [e, if_pos rfl] at h; exact absurd h List.not_mem_nil
        · rw [e, if_neg (by decide)] at h
          rw [List.mem_singleton] at h
          subst h
          exact ⟨rfl, Nat.lt_succ_self _, e, rfl⟩
    · rintro ⟨h1, h2, h3, h4⟩
      rcases Nat.lt_or_ge z.2.2 t with w | w
      · exact Or.inl ⟨h1, w, h3, h4⟩
      · have e : z.2.2 = t := by omega
        rw [e] at h3 h4
        right
        rw [h3, if_neg (by decide), List.mem_singleton]; exact h4
theorem scA_mem (M : Nat → Nat → Int32) (j : Nat) (z : N3) : ∀ n, z ∈ scA M j n ↔ isIt M j n z
  | 0 => ⟨fun h => absurd h (by show ¬ z ∈ []; exact List.not_mem_nil), fun h => absurd h.1 (Nat.not_lt_zero _)⟩
  | n + 1 => by
    rw [scA_s, List.mem_append, scA_mem M j z n, scT_mem]
    unfold isIt
    constructor
    · rintro (h | h)
      · exact ⟨by omega, h.2⟩
      · obtain ⟨h1, h2, h3, h4⟩ := h
        exact ⟨by omega, h2, by rw [h1]; exact h3, by rw [h1]; exact h4⟩
    · rintro ⟨h1, h2, h3, h4⟩
      rcases Nat.lt_or_ge z.1 n with w | w
      · exact Or.inl ⟨w, h2, h3, h4⟩
      · have e : z.1 = n := by omega
        rw [e] at h3 h4
        exact Or.inr ⟨e, h2, h3, h4⟩
