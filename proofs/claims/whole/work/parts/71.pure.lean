/-! what is arranged is the music -/
theorem sumN_0 {f : Nat → Nat} : ∀ n, (∀ k, k < n → f k = 0) → sumN f n = 0
  | 0, _ => rfl
  | n + 1, h => by unfold sumN; rw [sumN_0 n (fun k hk => h k (by omega)), h n (by omega)]
theorem sumN_add {f g : Nat → Nat} : ∀ n, sumN (fun k => f k + g k) n = sumN f n + sumN g n
  | 0 => rfl
  | n + 1 => by unfold sumN; rw [sumN_add n]; omega
theorem sumN_swap {f : Nat → Nat → Nat} {m : Nat} : ∀ n, sumN (fun r => sumN (fun t => f r t) m) n = sumN (fun t => sumN (fun r => f r t) n) m
  | 0 => (sumN_0 m (fun _ _ => rfl)).symm
  | n + 1 => by
    have e : (fun t => sumN (fun r => f r t) (n + 1)) = (fun t => sumN (fun r => f r t) n + f n t) := rfl
    rw [e, sumN_add, ← sumN_swap n]; rfl
theorem sumN_one {a v : Nat} : ∀ n, sumN (fun r => if a = r then v else 0) n = if a < n then v else 0
  | 0 => (if_neg (Nat.not_lt_zero a)).symm
  | n + 1 => by
    unfold sumN
    rw [sumN_one n]
    by_cases h : a = n
    · subst h; rw [if_neg (Nat.lt_irrefl _), if_pos rfl, if_pos (Nat.lt_succ_self _), Nat.zero_add]
    · rw [if_neg h, Nat.add_zero]
      by_cases h2 : a < n
      · rw [if_pos h2, if_pos (by omega)]
      · rw [if_neg h2, if_neg (by omega)]
theorem sumN_k {v : Nat} : ∀ n, sumN (fun _ => v) n = n * v
  | 0 => (Nat.zero_mul v).symm
  | n + 1 => by unfold sumN; rw [sumN_k n, Nat.succ_mul]
/-- how the notes lie -/
def MU (fa la pa : Nat → Nat) (c : Nat) : Prop := (∀ n, n < c → 1 ≤ la n ∧ la n ≤ 60 ∧ fa n + la n ≤ 200 ∧ pa n < 12) ∧ ∀ m n, m < c → n < c → m ≠ n → pa m = pa n → fa m + la m + 2 ≤ fa n ∨ fa n + la n + 2 ≤ fa m
theorem RN.mu {I M : Nat → Nat → Int32} {S : SZ} {fa la pa : Nat → Nat} (h : RN I M S fa la pa) : MU fa la pa S.2.1 := ⟨fun n hn => (h.2.2.1 n hn).2.2, h.2.2.2⟩
theorem C_near {fa la pa : Nat → Nat} {c n r : Nat} {br : Int32} (h : MU fa la pa c) (hn : n < c) (h1 : fa n ≤ r + 2) (h2 : r ≤ fa n + la n + 1) : CN fa la pa br c r (pa n) ↔ fa n ≤ r ∧ r < fa n + la n ∧ hol br (r - fa n) (la n) := by
  constructor
  · rintro ⟨m, hm, a, b, d, e⟩
    by_cases w : m = n
    · subst w; exact ⟨b, d, e⟩
    · have := h.2 m n hm hn w a
      omega
  · rintro ⟨b, d, e⟩
    exact ⟨n, hn, rfl, b, d, e⟩
theorem hol_0 {br : Int32} {l : Nat} : hol br 0 l := Or.inr (Or.inl (by decide))
/-- the holes of a roll, by notes -/
def HC (Q : Nat → Nat → Int32) (j : Nat) (D : Nat → Nat → Prop) : Prop := ∀ r t, r < 200 → t < 12 → (¬ Q (6000 + 200 * j + r) t = 0 ↔ D r t)
theorem AI.hc {K Q : Nat → Nat → Int32} {j : Nat} {D : Nat → Nat → Prop} (h : AI K Q j D) : HC Q j D := fun r t hr ht => by
  obtain ⟨x, h1, h2, h3, h4⟩ := h r hr
  rw [h3 t (by omega), ← h4 t ht]
  exact ⟨fun z => (bt_01 x t).resolve_left (fun w => z (nI_bt0.mpr w)), fun z w => by rw [nI_bt0.mp w] at z; cases z⟩
theorem st_iff {Q : Nat → Nat → Int32} {j r t : Nat} {D : Nat → Nat → Prop} (h : HC Q j D) (hr : r < 200) (ht : t < 12) : stN Q j r t = 1 ↔ D r t ∧ (1 ≤ r → ¬ D (r - 1) t) ∧ (2 ≤ r → ¬ D (r - 2) t) := by
  unfold stN goM
  have h0 := h r t hr ht
  have h1 := h (r - 1) t (by omega) ht
  have h2 := h (r - 2) t (by omega) ht
  by_cases c0 : Q (6000 + 200 * j + r) t = 0
  · rw [if_pos c0]; exact ⟨fun z => absurd z (by decide), fun z => absurd c0 (h0.mpr z.1)⟩
  · rw [if_neg c0]
    have d0 := h0.mp c0
    by_cases r0 : r = 0
    · rw [if_pos r0, if_pos rfl]; exact ⟨fun _ => ⟨d0, fun z => by omega, fun z => by omega⟩, fun _ => rfl⟩
    · rw [if_neg r0]
      by_cases c1 : Q (6000 + 200 * j + (r - 1)) t = 0
      · rw [if_pos c1]
        have d1 : ¬ D (r - 1) t := fun z => (h1.mpr z) c1
        by_cases r1 : r ≤ 1
        · rw [if_pos r1, if_pos rfl]; exact ⟨fun _ => ⟨d0, fun _ => d1, fun z => by omega⟩, fun _ => rfl⟩
        · rw [if_neg r1]
          by_cases c2 : Q (6000 + 200 * j + (r - 2)) t = 0
          · rw [if_pos c2, if_pos rfl]; exact ⟨fun _ => ⟨d0, fun _ => d1, fun _ z => (h2.mpr z) c2⟩, fun _ => rfl⟩
          · rw [if_neg c2, if_neg (by decide)]; exact ⟨fun z => absurd z (by decide), fun z => absurd (h2.mp c2) (z.2.2 (by omega))⟩
      · rw [if_neg c1, if_neg (by decide)]; exact ⟨fun z => absurd z (by decide), fun z => absurd (h1.mp c1) (z.2.1 (by omega))⟩
theorem st_note {Q : Nat → Nat → Int32} {j r t c : Nat} {fa la pa : Nat → Nat} {br : Int32} (h : HC Q j (CN fa la pa br c)) (hm : MU fa la pa c) (hr : r < 200) (ht : t < 12) : stN Q j r t = 1 ↔ ∃ n, n < c ∧ fa n = r ∧ pa n = t := by
  rw [st_iff h hr ht]
  constructor
  · rintro ⟨⟨m, hm1, a, b, d, e⟩, g1, g2⟩
    refine ⟨m, hm1, ?_, a⟩
    apply Classical.byContradiction
    intro w
    by_cases w1 : (r - 1 - fa m) % 4 = 3
    · refine g2 (by omega) ⟨m, hm1, a, by omega, by omega, Or.inr (Or.inl (by omega))⟩
    · exact g1 (by omega) ⟨m, hm1, a, by omega, by omega, Or.inr (Or.inl w1)⟩
  · rintro ⟨n, hn, rfl, rfl⟩
    have hl := hm.1 n hn
    refine ⟨(C_near hm hn (by omega) (by omega)).mpr ⟨Nat.le_refl _, by omega, by rw [Nat.sub_self]; exact hol_0⟩, fun z w => ?_, fun z w => ?_⟩
    · have := ((C_near hm hn (by omega) (by omega)).mp w).1; omega
    · have := ((C_near hm hn (by omega) (by omega)).mp w).1; omega
theorem ind_one {fa la pa : Nat → Nat} {c : Nat} (hm : MU fa la pa c) (r t : Nat) : ∀ n, n ≤ c → (sumN (fun k => if fa k = r then (if pa k = t then 1 else 0) else 0) n = 1 ∧ ∃ k, k < n ∧ fa k = r ∧ pa k = t) ∨ (sumN (fun k => if fa k = r then (if pa k = t then 1 else 0) else 0) n = 0 ∧ ¬ ∃ k, k < n ∧ fa k = r ∧ pa k = t)
  | 0, _ => Or.inr ⟨rfl, fun ⟨k, hk, _⟩ => by omega⟩
  | n + 1, hn => by
    have ih := ind_one hm r t n (by omega)
    unfold sumN
    by_cases a : fa n = r
    · rw [if_pos a]
      by_cases b : pa n = t
      · rw [if_pos b]
        rcases ih with ⟨_, k, hk, e1, e2⟩ | ⟨e, _⟩
        · have := hm.2 k n (by omega) (by omega) (by omega) (by omega); omega
        · exact Or.inl ⟨by rw [e], n, Nat.lt_succ_self n, a, b⟩
      · rw [if_neg b]
        rcases ih with ⟨e, k, hk, e1⟩ | ⟨e, e1⟩
        · exact Or.inl ⟨e, k, by omega, e1⟩
        · refine Or.inr ⟨e, ?_⟩
          rintro ⟨k, hk, e2, e3⟩
          by_cases w : k = n
          · subst w; exact b e3
          · exact e1 ⟨k, by omega, e2, e3⟩
    · rw [if_neg a]
      rcases ih with ⟨e, k, hk, e1⟩ | ⟨e, e1⟩
      · exact Or.inl ⟨e, k, by omega, e1⟩
      · refine Or.inr ⟨e, ?_⟩
        rintro ⟨k, hk, e2, e3⟩
        by_cases w : k = n
        · subst w; exact a e2
        · exact e1 ⟨k, by omega, e2, e3⟩
theorem st_ind {Q : Nat → Nat → Int32} {j r t c : Nat} {fa la pa : Nat → Nat} {br : Int32} (h : HC Q j (CN fa la pa br c)) (hm : MU fa la pa c) (hr : r < 200) (ht : t < 12) : stN Q j r t = sumN (fun k => if fa k = r then (if pa k = t then 1 else 0) else 0) c := by
  have e := st_note h hm hr ht
  rcases ind_one hm r t c (Nat.le_refl _) with ⟨a, b⟩ | ⟨a, b⟩
  · rw [a]; exact e.mpr b
  · rw [a]; exact (stN_01 Q j r t).resolve_right (fun z => b (e.mp z))
theorem ar_cnt {Q : Nat → Nat → Int32} {j c : Nat} {fa la pa : Nat → Nat} {br : Int32} (h : HC Q j (CN fa la pa br c)) (hm : MU fa la pa c) : (scA Q j 200).length = c := by
  have e1 : ∀ n, n ≤ 200 → (scA Q j n).length = sumN (fun r => sumN (fun t => sumN (fun k => if fa k = r then (if pa k = t then 1 else 0) else 0) c) 12) n := fun n hn => by
    rw [scA_ln]
    exact sumN_ext n (fun r hr => sumN_ext 12 (fun t ht => st_ind h hm (by omega) ht))
  have e2 : ∀ n, sumN (fun r => sumN (fun t => sumN (fun k => if fa k = r then (if pa k = t then 1 else 0) else 0) c) 12) n = sumN (fun k => sumN (fun r => if fa k = r then sumN (fun t => if pa k = t then 1 else 0) 12 else 0) n) c := fun n => by
    rw [← sumN_swap n]
    refine sumN_ext n (fun r hr => ?_)
    have e4 : sumN (fun t => sumN (fun k => if fa k = r then (if pa k = t then 1 else 0) else 0) c) 12 = sumN (fun k => sumN (fun t => if fa k = r then (if pa k = t then 1 else 0) else 0) 12) c := sumN_swap 12
    rw [e4]
    refine sumN_ext c (fun k hk => ?_)
    by_cases w : fa k = r
    · rw [if_pos w]; exact sumN_ext 12 (fun t ht => if_pos w)
    · rw [if_neg w]; exact sumN_0 12 (fun t ht => if_neg w)
  rw [e1 200 (Nat.le_refl _), e2 200]
  have e3 : ∀ k, k < c → sumN (fun r => if fa k = r then sumN (fun t => if pa k = t then 1 else 0) 12 else 0) 200 = 1 := fun k hk => by
    have hk2 := hm.1 k hk
    rw [sumN_one 200, if_pos (by omega), sumN_one 12, if_pos (by omega)]
  rw [sumN_ext c e3, sumN_k, Nat.mul_one]
theorem ls_end {Q : Nat → Nat → Int32} {j t e : Nat} (h : ∀ r, e < r → r ≤ e + 2 → r < 200 → Q (6000 + 200 * j + r) t = 0) : ∀ n, n + (e + 1) = 200 → lsM Q j t n (e + 1) e = e
  | 0, _ => rfl
  | 1, hn => by
    unfold lsM
    rw [if_neg (by omega), if_pos (h (e + 1) (by omega) (by omega) (by omega))]; rfl
  | 2, hn => by
    unfold lsM
    rw [if_neg (by omega), if_pos (h (e + 1) (by omega) (by omega) (by omega))]
    unfold lsM
    rw [if_neg (by omega), if_pos (h (e + 1 + 1) (by omega) (by omega) (by omega))]; rfl
  | n + 3, hn => by
    unfold lsM
    rw [if_neg (by omega), if_pos (h (e + 1) (by omega) (by omega) (by omega))]
    unfold lsM
    rw [if_neg (by omega), if_pos (h (e + 1 + 1) (by omega) (by omega) (by omega))]
    unfold lsM
    rw [if_pos (by omega)]
theorem ls_run {Q : Nat → Nat → Int32} {j c m : Nat} {fa la pa : Nat → Nat} {br : Int32} (h : HC Q j (CN fa la pa br c)) (hm : MU fa la pa c) (hmc : m < c) : ∀ n k q, n + k = 200 → k ≤ fa m + la m → fa m ≤ q → ((k = fa m ∧ q = fa m) ∨ q < k) → k ≤ q + 2 → (k = q + 2 → ¬ hol br (k - 1 - fa m) (la m)) → (k = fa m + la m → q + 1 = k) → lsM Q j (pa m) n k q = fa m + la m - 1
  | n, k, q, hk, h1, h2, h3, h4, h5, h6 => by
    have hl := hm.1 m hmc
    by_cases w : k = fa m + la m
    · have hq := h6 w
      obtain ⟨e, he⟩ : ∃ e, e = q := ⟨_, rfl⟩
      have hke : k = e + 1 := by omega
      rw [hke, ← he]
      rw [ls_end (e := e) (fun r hr1 hr2 hr3 => ?_) n (by omega)]
      · omega
      · apply Classical.byContradiction
        intro z
        have := ((C_near hm hmc (by omega) (by omega)).mp ((h r (pa m) hr3 hl.2.2.2).mp z)).2.1
        omega
    · cases n with
      | zero => omega
      | succ n =>
        unfold lsM
        rw [if_neg (by omega)]
        have hc := (h k (pa m) (by omega) hl.2.2.2).trans (C_near (br := br) hm hmc (r := k) (by omega) (by omega))
        by_cases d : Q (6000 + 200 * j + k) (pa m) = 0
        · rw [if_pos d]
          have hnh : ¬ hol br (k - fa m) (la m) := fun z => (hc.mpr ⟨by omega, by omega, z⟩) d
          have hnf : k ≠ fa m := fun z => hnh (by rw [z, Nat.sub_self]; exact hol_0)
          have hqk : k = q + 1 := by
            rcases h3 with ⟨a, b⟩ | a
            · exact absurd a hnf
            · by_cases w2 : k = q + 2
              · exfalso
                apply h5 w2
                refine Or.inr (Or.inl (fun z => hnh (Or.inr (Or.inl ?_))))
                omega
              · omega
          have hne : ¬ k + 1 = fa m + la m := fun z => hnh (Or.inr (Or.inr (by omega)))
          exact ls_run h hm hmc n (k + 1) q (by omega) (by omega) h2 (Or.inr (by omega)) (by omega) (fun _ => by rw [show k + 1 - 1 = k by omega]; exact hnh) (fun z => absurd z hne)
        · rw [if_neg d]
          exact ls_run h hm hmc n (k + 1) k (by omega) (by omega) (by omega) (Or.inr (by omega)) (by omega) (fun z => by omega) (fun z => by omega)
theorem ar_PM {Q : Nat → Nat → Int32} {j c : Nat} {fa la pa : Nat → Nat} {br : Int32} (h : HC Q j (CN fa la pa br c)) (hm : MU fa la pa c) {m : Nat} (hmc : m < c) : PMu Q j fa la pa m := by
  have hl := hm.1 m hmc
  refine ⟨(st_note h hm (by omega) hl.2.2.2).mpr ⟨m, hmc, rfl, rfl⟩, ?_⟩
  unfold lsF
  rw [ls_run h hm hmc (200 - fa m) (fa m) (fa m) (by omega) (by omega) (Nat.le_refl _) (Or.inl ⟨rfl, rfl⟩) (by omega) (fun z => by omega) (fun z => by omega)]
  omega
