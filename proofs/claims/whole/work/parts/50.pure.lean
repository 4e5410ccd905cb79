/-! scanning: the notes that are found, the list that holds them -/
def cap : Nat → Nat
  | 0 => 0
  | n + 1 => ncap n (cap n)
def gNn : Nat → Nat
  | 0 => 0
  | n + 1 => gNn n + gC n (cap n)
def gTn : Nat → Nat
  | 0 => 0
  | n + 1 => gTn n + gS n (cap n)
theorem cap_inv : ∀ n, n ≤ 804 → n ≤ cap n ∧ ((cap n = 0 ∧ gNn n = 0 ∧ gTn n = 0) ∨ (cap n = 10 ∧ gNn n = 1 ∧ gTn n = 10) ∨ (cap n = 15 ∧ gNn n = 2 ∧ gTn n = 25) ∨ (cap n = 22 ∧ gNn n = 3 ∧ gTn n = 47) ∨ (cap n = 33 ∧ gNn n = 4 ∧ gTn n = 80) ∨ (cap n = 49 ∧ gNn n = 5 ∧ gTn n = 129) ∨ (cap n = 73 ∧ gNn n = 6 ∧ gTn n = 202) ∨ (cap n = 109 ∧ gNn n = 7 ∧ gTn n = 311) ∨ (cap n = 163 ∧ gNn n = 8 ∧ gTn n = 474) ∨ (cap n = 244 ∧ gNn n = 9 ∧ gTn n = 718) ∨ (cap n = 366 ∧ gNn n = 10 ∧ gTn n = 1084) ∨ (cap n = 549 ∧ gNn n = 11 ∧ gTn n = 1633) ∨ (cap n = 823 ∧ gNn n = 12 ∧ gTn n = 2456))
  | 0, _ => ⟨Nat.le_refl _, Or.inl ⟨rfl, rfl, rfl⟩⟩
  | n + 1, h => by
    obtain ⟨h1, h2⟩ := cap_inv n (by omega)
    unfold cap gNn gTn gS gC ncap
    by_cases q : n < cap n
    · simp only [if_pos q]
      exact ⟨q, h2⟩
    · simp only [if_neg q]
      rcases h2 with ⟨a, b, c⟩ | ⟨a, b, c⟩ | ⟨a, b, c⟩ | ⟨a, b, c⟩ | ⟨a, b, c⟩ | ⟨a, b, c⟩ | ⟨a, b, c⟩ | ⟨a, b, c⟩ | ⟨a, b, c⟩ | ⟨a, b, c⟩ | ⟨a, b, c⟩ | ⟨a, b, c⟩ | ⟨a, b, c⟩ <;> rw [a] at q h1 ⊢ <;> rw [b, c]
      · exact ⟨by rw [if_pos rfl]; omega, by decide⟩
      · exact ⟨by rw [if_neg (by decide)]; omega, by decide⟩
      · exact ⟨by rw [if_neg (by decide)]; omega, by decide⟩
      · exact ⟨by rw [if_neg (by decide)]; omega, by decide⟩
      · exact ⟨by rw [if_neg (by decide)]; omega, by decide⟩
      · exact ⟨by rw [if_neg (by decide)]; omega, by decide⟩
      · exact ⟨by rw [if_neg (by decide)]; omega, by decide⟩
      · exact ⟨by rw [if_neg (by decide)]; omega, by decide⟩
      · exact ⟨by rw [if_neg (by decide)]; omega, by decide⟩
      · exact ⟨by rw [if_neg (by decide)]; omega, by decide⟩
      · exact ⟨by rw [if_neg (by decide)]; omega, by decide⟩
      · exact ⟨by rw [if_neg (by decide)]; omega, by decide⟩
      · exact absurd h (by omega)
theorem cap_ge {n : Nat} (h : n ≤ 804) : n ≤ cap n := (cap_inv n h).1
theorem cap_le {n : Nat} (h : n ≤ 804) : cap n ≤ 823 := by
  rcases (cap_inv n h).2 with ⟨a, b, c⟩ | ⟨a, b, c⟩ | ⟨a, b, c⟩ | ⟨a, b, c⟩ | ⟨a, b, c⟩ | ⟨a, b, c⟩ | ⟨a, b, c⟩ | ⟨a, b, c⟩ | ⟨a, b, c⟩ | ⟨a, b, c⟩ | ⟨a, b, c⟩ | ⟨a, b, c⟩ | ⟨a, b, c⟩ <;> omega
theorem gN_le {n : Nat} (h : n ≤ 804) : gNn n ≤ 12 := by
  rcases (cap_inv n h).2 with ⟨a, b, c⟩ | ⟨a, b, c⟩ | ⟨a, b, c⟩ | ⟨a, b, c⟩ | ⟨a, b, c⟩ | ⟨a, b, c⟩ | ⟨a, b, c⟩ | ⟨a, b, c⟩ | ⟨a, b, c⟩ | ⟨a, b, c⟩ | ⟨a, b, c⟩ | ⟨a, b, c⟩ | ⟨a, b, c⟩ <;> omega
theorem gT_le {n : Nat} (h : n ≤ 804) : gTn n ≤ 2456 := by
  rcases (cap_inv n h).2 with ⟨a, b, c⟩ | ⟨a, b, c⟩ | ⟨a, b, c⟩ | ⟨a, b, c⟩ | ⟨a, b, c⟩ | ⟨a, b, c⟩ | ⟨a, b, c⟩ | ⟨a, b, c⟩ | ⟨a, b, c⟩ | ⟨a, b, c⟩ | ⟨a, b, c⟩ | ⟨a, b, c⟩ | ⟨a, b, c⟩ <;> omega
theorem cap_1 {n : Nat} (h : n ≤ 804) : cap n ≠ 1 := by
  rcases (cap_inv n h).2 with ⟨a, b, c⟩ | ⟨a, b, c⟩ | ⟨a, b, c⟩ | ⟨a, b, c⟩ | ⟨a, b, c⟩ | ⟨a, b, c⟩ | ⟨a, b, c⟩ | ⟨a, b, c⟩ | ⟨a, b, c⟩ | ⟨a, b, c⟩ | ⟨a, b, c⟩ | ⟨a, b, c⟩ | ⟨a, b, c⟩ <;> omega
theorem cap_0 {n : Nat} (h : n ≤ 804) (h0 : cap n = 0) : n = 0 := by have := cap_ge h; omega
def goM (M : Nat → Nat → Int32) (j r t : Nat) : Int32 := if r = 0 then 0 else if M (6000 + 200 * j + (r - 1)) t = 0 then (if r ≤ 1 then 0 else if M (6000 + 200 * j + (r - 2)) t = 0 then 0 else 1) else 1
def lsM (M : Nat → Nat → Int32) (j t : Nat) : Nat → Nat → Nat → Nat
  | 0, _, q => q
  | n + 1, k, q => if q + 2 < k then q else lsM M j t n (k + 1) (if M (6000 + 200 * j + k) t = 0 then q else k)
def lsF (M : Nat → Nat → Int32) (j r t : Nat) : Nat := lsM M j t (200 - r) r r
def scT (M : Nat → Nat → Int32) (j r : Nat) (xs : List (Nat × Nat × Nat)) : Nat → List (Nat × Nat × Nat)
  | 0 => xs
  | t + 1 => if M (6000 + 200 * j + r) t = 0 then scT M j r xs t else if goM M j r t = 0 then scT M j r xs t ++ [(r, lsF M j r t - r + 1, t)] else scT M j r xs t
def scA (M : Nat → Nat → Int32) (j : Nat) : Nat → List (Nat × Nat × Nat)
  | 0 => []
  | r + 1 => scT M j r (scA M j r) 12
/-- how many notes of a pitch begin ahead of row r -/
def cnt (M : Nat → Nat → Int32) (j t : Nat) : Nat → Nat
  | 0 => 0
  | r + 1 => if M (6000 + 200 * j + r) t = 0 then cnt M j t r else if goM M j r t = 0 then cnt M j t r + 1 else cnt M j t r
theorem cnt_3 (M : Nat → Nat → Int32) (j t : Nat) : ∀ r, 3 * cnt M j t r ≤ r + 2 ∧ (0 < r → M (6000 + 200 * j + (r - 1)) t = 0 → 3 * cnt M j t r ≤ r + 1) ∧ (1 < r → M (6000 + 200 * j + (r - 1)) t = 0 → M (6000 + 200 * j + (r - 2)) t = 0 → 3 * cnt M j t r ≤ r)
  | 0 => ⟨by show 3 * 0 ≤ 0 + 2; omega, fun h => absurd h (by decide), fun h => absurd h (by decide)⟩
  | r + 1 => by
    obtain ⟨h1, h2, h3⟩ := cnt_3 M j t r
    unfold cnt
    rw [Nat.add_sub_cancel, show r + 1 - 2 = r - 1 by omega]
    by_cases hc : M (6000 + 200 * j + r) t = 0
    · rw [if_pos hc]
      refine ⟨by omega, fun _ _ => by omega, fun q _ w => ?_⟩
      have := h2 (by omega) w
      omega
    · rw [if_neg hc]
      refine ⟨?_, fun _ w => absurd w hc, fun _ w => absurd w hc⟩
      by_cases hg : goM M j r t = 0
      · rw [if_pos hg]
        unfold goM at hg
        by_cases r0 : r = 0
        · subst r0
          show 3 * (0 + 1) ≤ _
          omega
        · rw [if_neg r0] at hg
          by_cases q1 : M (6000 + 200 * j + (r - 1)) t = 0
          · rw [if_pos q1] at hg
            by_cases r1 : r ≤ 1
            · have := h2 (by omega) q1
              omega
            · rw [if_neg r1] at hg
              by_cases q2 : M (6000 + 200 * j + (r - 2)) t = 0
              · have := h3 (by omega) q1 q2
                omega
              · rw [if_neg q2] at hg; exact absurd hg (by decide)
          · rw [if_neg q1] at hg; exact absurd hg (by decide)
      · rw [if_neg hg]
        omega
/-- sums over the pitches -/
def smN (f : Nat → Nat) : Nat → Nat
  | 0 => 0
  | k + 1 => smN f k + f k
theorem smN_le {f : Nat → Nat} {b : Nat} (h : ∀ k, f k ≤ b) : ∀ n, smN f n ≤ n * b
  | 0 => by unfold smN; omega
  | n + 1 => by
    have := smN_le h n
    have := h n
    unfold smN
    rw [Nat.succ_mul]
    omega
theorem smN_ext {f g : Nat → Nat} : ∀ n, (∀ k, k < n → f k = g k) → smN f n = smN g n
  | 0, _ => rfl
  | n + 1, h => by unfold smN; rw [smN_ext n (fun k hk => h k (by omega)), h n (Nat.lt_succ_self n)]
theorem smN_up {f g : Nat → Nat} {t : Nat} (h : ∀ k, k ≠ t → f k = g k) : ∀ n, t < n → smN f n + g t = smN g n + f t
  | 0, hn => absurd hn (Nat.not_lt_zero t)
  | n + 1, hn => by
    unfold smN
    by_cases q : n = t
    · subst q
      rw [smN_ext n (fun k hk => h k (by omega))]
      omega
    · have := smN_up h n (by omega)
      rw [h n q]
      omega
def mixc (M : Nat → Nat → Int32) (j r t : Nat) : Nat → Nat := fun k => if k < t then cnt M j k (r + 1) else cnt M j k r
theorem scT_len {M : Nat → Nat → Int32} {j r : Nat} {xs : List (Nat × Nat × Nat)} (h : xs.length = smN (fun k => cnt M j k r) 12) : ∀ t, t ≤ 12 → (scT M j r xs t).length = smN (mixc M j r t) 12
  | 0, _ => h.trans (smN_ext 12 (fun k _ => (if_neg (Nat.not_lt_zero k)).symm))
  | t + 1, ht => by
    have ih := scT_len h t (by omega)
    have e := smN_up (f := mixc M j r t) (g := mixc M j r (t + 1)) (t := t) (fun k hk => by
      unfold mixc
      by_cases q : k < t
      · rw [if_pos q, if_pos (by omega)]
      · rw [if_neg q, if_neg (by omega)]) 12 (by omega)
    have e1 : mixc M j r t t = cnt M j t r := if_neg (Nat.lt_irrefl t)
    have e2 : mixc M j r (t + 1) t = cnt M j t (r + 1) := if_pos (Nat.lt_succ_self t)
    rw [e1, e2] at e
    have e3 : cnt M j t (r + 1) = if M (6000 + 200 * j + r) t = 0 then cnt M j t r else if goM M j r t = 0 then cnt M j t r + 1 else cnt M j t r := rfl
    unfold scT
    by_cases hc : M (6000 + 200 * j + r) t = 0
    · rw [if_pos hc] at e3 ⊢
      omega
    · rw [if_neg hc] at e3 ⊢
      by_cases hg : goM M j r t = 0
      · rw [if_pos hg] at e3 ⊢
        rw [List.length_append, List.length_singleton]
        omega
      · rw [if_neg hg] at e3 ⊢
        omega
theorem scA_len (M : Nat → Nat → Int32) (j : Nat) : ∀ r, (scA M j r).length = smN (fun k => cnt M j k r) 12
  | 0 => rfl
  | r + 1 => by
    unfold scA
    rw [scT_len (scA_len M j r) 12 (Nat.le_refl _)]
    exact smN_ext 12 (fun k hk => if_pos hk)
theorem cnt_67 (M : Nat → Nat → Int32) (j t : Nat) {r : Nat} (h : r ≤ 200) : cnt M j t r ≤ 67 := by
  have := (cnt_3 M j t r).1
  omega
theorem scA_804 (M : Nat → Nat → Int32) (j : Nat) {r : Nat} (h : r ≤ 200) : (scA M j r).length ≤ 804 := by
  rw [scA_len]
  exact smN_le (b := 67) (fun k => cnt_67 M j k h) 12
theorem scT_804 (M : Nat → Nat → Int32) (j : Nat) {r t : Nat} (h : r < 200) (ht : t ≤ 12) : (scT M j r (scA M j r) t).length ≤ 804 := by
  rw [scT_len (scA_len M j r) t ht]
  refine smN_le (b := 67) (fun k => ?_) 12
  unfold mixc
  split
  · exact cnt_67 M j k (by omega)
  · exact cnt_67 M j k (by omega)
/-- one more is found: there was room -/
theorem scT_lt {M : Nat → Nat → Int32} {j r t : Nat} (h : r < 200) (ht : t < 12) (hc : ¬ M (6000 + 200 * j + r) t = 0) (hg : goM M j r t = 0) : (scT M j r (scA M j r) t).length < 804 := by
  have := scT_804 M j h (show t + 1 ≤ 12 by omega)
  unfold scT at this
  rw [if_neg hc, if_pos hg, List.length_append, List.length_singleton] at this
  omega
def scL (S : SZ) (n : Nat) : List Nat := ((mL S ++ [8]) ++ (if cap n = 0 then [] else [4000 + cap n])) ++ (List.range n).map (fun k => 9000 + k)
theorem scL_mem {S : SZ} {n i : Nat} : i ∈ scL S n ↔ i ∈ mL S ∨ i = 8 ∨ (0 < cap n ∧ i = 4000 + cap n) ∨ ∃ k, k < n ∧ i = 9000 + k := by
  unfold scL
  rw [List.mem_append, List.mem_append, List.mem_append, List.mem_singleton, List.mem_map]
  by_cases h : cap n = 0
  · rw [if_pos h]
    constructor
    · rintro (((w | w) | w) | ⟨k, h1, h2⟩)
      · exact Or.inl w
      · exact Or.inr (Or.inl w)
      · exact absurd w List.not_mem_nil
      · exact Or.inr (Or.inr (Or.inr ⟨k, List.mem_range.mp h1, h2.symm⟩))
    · rintro (w | w | ⟨w, -⟩ | ⟨k, h1, h2⟩)
      · exact Or.inl (Or.inl (Or.inl w))
      · exact Or.inl (Or.inl (Or.inr w))
      · omega
      · exact Or.inr ⟨k, List.mem_range.mpr h1, h2.symm⟩
  · rw [if_neg h]
    constructor
    · rintro (((w | w) | w) | ⟨k, h1, h2⟩)
      · exact Or.inl w
      · exact Or.inr (Or.inl w)
      · exact Or.inr (Or.inr (Or.inl ⟨by omega, List.mem_singleton.mp w⟩))
      · exact Or.inr (Or.inr (Or.inr ⟨k, List.mem_range.mp h1, h2.symm⟩))
    · rintro (w | w | ⟨-, w⟩ | ⟨k, h1, h2⟩)
      · exact Or.inl (Or.inl (Or.inl w))
      · exact Or.inl (Or.inl (Or.inr w))
      · exact Or.inl (Or.inr (List.mem_singleton.mpr w))
      · exact Or.inr ⟨k, List.mem_range.mpr h1, h2.symm⟩
theorem scL_nd {S : SZ} (hS : WS S) {n : Nat} (hn : n ≤ 804) : (scL S n).Nodup := by
  have hc := cap_le hn
  unfold scL
  rw [List.nodup_append]
  refine ⟨?_, ?_, ?_⟩
  · rw [List.nodup_append]
    refine ⟨nd_app mL_nd (f_lo (by decide) (by decide) hS), ?_, ?_⟩
    · split
      · exact List.nodup_nil
      · exact List.nodup_cons.mpr ⟨List.not_mem_nil, List.nodup_nil⟩
    · intro a ha b hb e
      split at hb
      · exact absurd hb List.not_mem_nil
      · have hb := List.mem_singleton.mp hb
        rcases List.mem_append.mp ha with w | w
        · have := (mL_mem.mp w).2
          have := hS.c1; have := hS.c2; have := hS.c3
          unfold mA at *
          omega
        · have := List.mem_singleton.mp w; omega
  · exact List.pairwise_map.mpr (List.Pairwise.imp (fun h e => h (by omega)) List.nodup_range)
  · intro a ha b hb e
    obtain ⟨k, -, rfl⟩ := List.mem_map.mp hb
    rcases List.mem_append.mp ha with w | w
    · rcases List.mem_append.mp w with w | w
      · have := (mL_mem.mp w).1; omega
      · have := List.mem_singleton.mp w; omega
    · split at w
      · exact absurd w List.not_mem_nil
      · have := List.mem_singleton.mp w; omega
def scR (S : SZ) (n : Nat) : Nat → Nat → Option Nat := fun a => if a = 8 then (fun k => if k = 1 then mE 4 (cap n) else none) else if 0 < cap n ∧ a = 4000 + cap n then (fun k => if k < n then some (9000 + k) else none) else mR S a
theorem scR_8 {S : SZ} {n k : Nat} : scR S n 8 k = if k = 1 then mE 4 (cap n) else none := rfl
theorem scR_e {S : SZ} {n k : Nat} (h : 0 < cap n) : scR S n (4000 + cap n) k = if k < n then some (9000 + k) else none := by
  unfold scR
  rw [if_neg (by omega), if_pos ⟨h, rfl⟩]
theorem scR_n {S : SZ} {n a : Nat} (h : a ≠ 8) (h2 : ¬ (4000 ≤ a ∧ a < 5000)) (hn : n ≤ 804) : scR S n a = mR S a := by
  have := cap_le hn
  unfold scR
  rw [if_neg h, if_neg (by omega)]
def scI (M : Nat → Nat → Int32) (xs : List (Nat × Nat × Nat)) : Nat → Nat → Int32 := fun a => if a = 8 then (fun b => if b = 0 then nI xs.length else if b = 2 then nI xs.length else 0) else if 9000 ≤ a ∧ a < 9000 + xs.length then (fun b => if b = 0 then nI (xs.getD (a - 9000) (0, 0, 0)).1 else if b = 1 then nI (xs.getD (a - 9000) (0, 0, 0)).2.1 else if b = 2 then nI (xs.getD (a - 9000) (0, 0, 0)).2.2 else 0) else M a
theorem scI_n {M : Nat → Nat → Int32} {xs : List (Nat × Nat × Nat)} {a : Nat} (h : a ≠ 8) (h2 : a < 9000) : scI M xs a = M a := by
  unfold scI
  rw [if_neg h, if_neg (by omega)]
theorem scI_82 {M : Nat → Nat → Int32} {xs : List (Nat × Nat × Nat)} : scI M xs 8 2 = nI xs.length := rfl
theorem scI_80 {M : Nat → Nat → Int32} {xs : List (Nat × Nat × Nat)} : scI M xs 8 0 = nI xs.length := rfl
theorem scI_t {M : Nat → Nat → Int32} {xs : List (Nat × Nat × Nat)} {k b : Nat} (h : k < xs.length) : scI M xs (9000 + k) b = if b = 0 then nI (xs.getD k (0, 0, 0)).1 else if b = 1 then nI (xs.getD k (0, 0, 0)).2.1 else if b = 2 then nI (xs.getD k (0, 0, 0)).2.2 else 0 := by
  unfold scI
  rw [if_neg (by omega), if_pos (by omega), show 9000 + k - 9000 = k by omega]
theorem scI_add {M : Nat → Nat → Int32} {xs : List (Nat × Nat × Nat)} {x y z : Nat} : up2 (up2 (up2 (up2 (up2 (upr (scI M xs) (9000 + xs.length) (fun _ => 0)) (9000 + xs.length) 0 (nI x)) (9000 + xs.length) 1 (nI y)) (9000 + xs.length) 2 (nI z)) 8 0 (nI xs.length + 1)) 8 2 (nI (xs.length + 1)) = scI M (xs ++ [(x, y, z)]) := by
  funext a b
  have hl : (xs ++ [(x, y, z)]).length = xs.length + 1 := by rw [List.length_append, List.length_singleton]
  by_cases h8 : a = 8
  · subst h8
    show _ = if b = 0 then nI (xs ++ [(x, y, z)]).length else if b = 2 then nI (xs ++ [(x, y, z)]).length else 0
    rw [hl]
    by_cases h2 : b = 2
    · subst h2; rw [up2_s]; rfl
    · rw [up2_n (Or.inr h2)]
      by_cases h0 : b = 0
      · subst h0; rw [up2_s, nI_1]; rfl
      · rw [up2_n (Or.inr h0), up2_row (by omega), up2_row (by omega), up2_row (by omega), upr_n (by omega), if_neg h0, if_neg h2]
        show (if b = 0 then _ else if b = 2 then _ else (0 : Int32)) = 0
        rw [if_neg h0, if_neg h2]
  · rw [up2_row h8, up2_row h8]
    by_cases hn : a = 9000 + xs.length
    · subst hn
      rw [scI_t (by rw [hl]; omega)]
      rw [show (xs ++ [(x, y, z)]).getD xs.length (0, 0, 0) = (x, y, z) by simp]
      by_cases h2 : b = 2
      · subst h2; rw [up2_s]; rfl
      · rw [up2_n (Or.inr h2)]
        by_cases h1 : b = 1
        · subst h1; rw [up2_s]; rfl
        · rw [up2_n (Or.inr h1)]
          by_cases h0 : b = 0
          · subst h0; rw [up2_s]; rfl
          · rw [up2_n (Or.inr h0), upr_s, if_neg h0, if_neg h1, if_neg h2]
    · rw [up2_row hn, up2_row hn, up2_row hn, upr_n hn]
      unfold scI
      rw [if_neg h8, if_neg h8, hl]
      by_cases q : 9000 ≤ a ∧ a < 9000 + xs.length
      · rw [if_pos q, if_pos (show 9000 ≤ a ∧ a < 9000 + (xs.length + 1) by omega)]
        rw [show (xs ++ [(x, y, z)]).getD (a - 9000) (0, 0, 0) = xs.getD (a - 9000) (0, 0, 0) by
          rw [List.getD_eq_getElem?_getD, List.getD_eq_getElem?_getD, List.getElem?_append_left (by omega)]]
      · rw [if_neg q, if_neg (by omega)]
theorem LV_8 {S : SZ} {M : Nat → Nat → Int32} {xs : List (Nat × Nat × Nat)} (hn : xs.length ≤ 804) : LV (scL S xs.length) (scR S xs.length) (scI M xs) 8 xs.length 9000 := by
  have h1 := cap_ge hn
  have h2 := cap_le hn
  refine ⟨scL_mem.mpr (Or.inr (Or.inl rfl)), rfl, rfl, by omega, fun h0 => ?_⟩
  have h3 : 0 < cap xs.length := by omega
  have hN := mN_e (j := 4) (c := cap xs.length) (by omega) (by omega) (by omega)
  rw [show 1000 * 4 = 4000 from rfl] at hN
  exact ⟨4000 + cap xs.length, scL_mem.mpr (Or.inr (Or.inr (Or.inl ⟨h3, rfl⟩))), mK_e (by omega) (by omega), by rw [scR_8, if_pos rfl, mE_p h3], by rw [hN]; exact h1, by rw [hN]; omega, fun k hk => by rw [scR_e h3, if_pos hk]⟩
theorem sub1 {r : Nat} (h : 0 < r) : nI r - 1 = nI (r - 1) := by
  obtain ⟨k, rfl⟩ : ∃ k, r = k + 1 := ⟨r - 1, by omega⟩
  exact nI_pred k
theorem sub2 {r : Nat} (h : 1 < r) : nI r - 2 = nI (r - 2) := pk_sub (a := r) (b := 2) (by omega)
theorem r_le0 {r : Nat} (h : nI r ≤ 0) (hr : r ≤ 200) : r = 0 := by
  have := (nI_leI (a := r) (b := 0) (by omega) (by omega)).mp h
  omega
theorem r_gt0 {r : Nat} (h : ¬ nI r ≤ 0) : ¬ r = 0 := fun e => h (by rw [e]; decide)
