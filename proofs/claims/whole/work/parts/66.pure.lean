/-! the relation: music -/
def RN (I M : Nat → Nat → Int32) (S : SZ) (fa la pa : Nat → Nat) : Prop := I 2 3 = nI S.2.1 ∧ S.2.1 ≤ 40 ∧ (∀ n, n < S.2.1 → (I 12 n = nI (fa n) ∧ I 13 n = nI (la n) ∧ I 14 n = nI (pa n)) ∧ (M (7000 + n) 0 = nI (fa n) ∧ M (7000 + n) 1 = nI (la n) ∧ M (7000 + n) 2 = nI (pa n)) ∧ 1 ≤ la n ∧ la n ≤ 60 ∧ fa n + la n ≤ 200 ∧ pa n < 12) ∧ ∀ m n, m < S.2.1 → n < S.2.1 → m ≠ n → pa m = pa n → fa m + la m + 2 ≤ fa n ∨ fa n + la n + 2 ≤ fa m
theorem RN_c {I J M M2 : Nat → Nat → Int32} {S S2 : SZ} {fa la pa : Nat → Nat} (h : RN I M S fa la pa) (h1 : J 2 3 = I 2 3) (h2 : J 12 = I 12) (h3 : J 13 = I 13) (h4 : J 14 = I 14) (h5 : ∀ n, n < S.2.1 → M2 (7000 + n) = M (7000 + n)) (h6 : S2.2.1 = S.2.1) : RN J M2 S2 fa la pa := by
  refine ⟨h1.trans (h6 ▸ h.1), h6 ▸ h.2.1, fun n hn => ?_, fun m n hm hn => h.2.2.2 m n (h6 ▸ hm) (h6 ▸ hn)⟩
  have hn2 : n < S.2.1 := h6 ▸ hn
  rw [h2, h3, h4, h5 n hn2]
  exact h.2.2.1 n hn2
def nrN (fa la pa : Nat → Nat) (f l p k : Nat) : Prop := pa k = p ∧ fa k < f + l + 2 ∧ f < fa k + la k + 2
theorem ntn_N {I M : Nat → Nat → Int32} {S : SZ} {fa la pa : Nat → Nat} (h : RN I M S fa la pa) {f l p : Nat} (hf : f < 200) (hl : l ≤ 60) (hp : p < 12) : ∀ n k, k + n = S.2.1 → (ntn I (nI f) (nI l) (nI p) n k = 0 ∧ ∀ i, k ≤ i → i < S.2.1 → ¬ nrN fa la pa f l p i) ∨ (ntn I (nI f) (nI l) (nI p) n k = 1 ∧ ∃ i, i < S.2.1 ∧ nrN fa la pa f l p i)
  | 0, k, hk => Or.inl ⟨rfl, fun i h1 h2 => absurd h2 (by omega)⟩
  | n + 1, k, hk => by
    obtain ⟨⟨e1, e2, e3⟩, -, l1, l2, l3, l4⟩ := h.2.2.1 k (by omega)
    have ih := ntn_N h hf hl hp n (k + 1) (by omega)
    unfold ntn
    rw [e1, e2, e3, nI_add, show nI (f + l) + 2 = nI (f + l + 2) from nI_add _ 2, nI_add, show nI (fa k + la k) + 2 = nI (fa k + la k + 2) from nI_add _ 2]
    have w : ¬ nrN fa la pa f l p k → (ntn I (nI f) (nI l) (nI p) n (k + 1) = 0 ∧ ∀ i, k ≤ i → i < S.2.1 → ¬ nrN fa la pa f l p i) ∨ (ntn I (nI f) (nI l) (nI p) n (k + 1) = 1 ∧ ∃ i, i < S.2.1 ∧ nrN fa la pa f l p i) := fun q => by
      rcases ih with ⟨a, b⟩ | a
      · refine Or.inl ⟨a, fun i h1 h2 => ?_⟩
        rcases Nat.lt_or_ge k i with w | w
        · exact b i w h2
        · rw [show i = k by omega]; exact q
      · exact Or.inr a
    by_cases c1 : pa k = p
    · rw [if_pos (congrArg nI c1)]
      by_cases c2 : fa k < f + l + 2
      · rw [if_pos ((nI_ltI (by omega) (by omega)).mpr c2)]
        by_cases c3 : f < fa k + la k + 2
        · rw [if_pos ((nI_ltI (by omega) (by omega)).mpr c3)]
          exact Or.inr ⟨rfl, k, by omega, c1, c2, c3⟩
        · rw [if_neg (fun z => c3 ((nI_ltI (by omega) (by omega)).mp z))]
          exact w (fun z => c3 z.2.2)
      · rw [if_neg (fun z => c2 ((nI_ltI (by omega) (by omega)).mp z))]
        exact w (fun z => c2 z.2.1)
    · rw [if_neg (fun z => c1 (nI_inj (by omega) (by omega) z))]
      exact w (fun z => c1 z.1)
theorem farM_N {I M : Nat → Nat → Int32} {S : SZ} {fa la pa : Nat → Nat} (h : RN I M S fa la pa) {f l p : Nat} (hf : f < 200) (hl : l ≤ 60) (hp : p < 12) : ∀ n, n ≤ S.2.1 → (farM M (nI f) (nI l) (nI p) n = 1 ∧ ∀ i, i < n → ¬ nrN fa la pa f l p i) ∨ (farM M (nI f) (nI l) (nI p) n = 0 ∧ ∃ i, i < S.2.1 ∧ nrN fa la pa f l p i)
  | 0, hk => Or.inl ⟨rfl, fun i h1 => absurd h1 (by omega)⟩
  | n + 1, hk => by
    obtain ⟨-, ⟨e1, e2, e3⟩, l1, l2, l3, l4⟩ := h.2.2.1 n (by omega)
    have ih := farM_N h hf hl hp n (by omega)
    unfold farM
    rw [e1, e2, e3, nI_add, show nI (fa n + la n) + 2 = nI (fa n + la n + 2) from nI_add _ 2, nI_add, show nI (f + l) + 2 = nI (f + l + 2) from nI_add _ 2]
    have w : ¬ nrN fa la pa f l p n → (farM M (nI f) (nI l) (nI p) n &&& 1 = 1 ∧ ∀ i, i < n + 1 → ¬ nrN fa la pa f l p i) ∨ (farM M (nI f) (nI l) (nI p) n &&& 1 = 0 ∧ ∃ i, i < S.2.1 ∧ nrN fa la pa f l p i) := fun q => by
      rcases ih with ⟨a, b⟩ | ⟨a, b⟩
      · refine Or.inl ⟨by rw [a]; rfl, fun i h1 => ?_⟩
        rcases Nat.lt_or_ge i n with w | w
        · exact b i w
        · rw [show i = n by omega]; exact q
      · exact Or.inr ⟨by rw [a]; rfl, b⟩
    by_cases c1 : pa n = p
    · rw [if_pos (congrArg nI c1)]
      by_cases c3 : fa n + la n + 2 ≤ f
      · rw [if_pos ((nI_leI (by omega) (by omega)).mpr c3)]
        exact w (fun z => by have := z.2.2; omega)
      · rw [if_neg (fun z => c3 ((nI_leI (by omega) (by omega)).mp z))]
        by_cases c2 : fa n < f + l + 2
        · rw [if_pos ((nI_ltI (by omega) (by omega)).mpr c2)]
          refine Or.inr ⟨?_, n, by omega, c1, c2, by omega⟩
          rcases ih with ⟨a, b⟩ | ⟨a, b⟩ <;> rw [a] <;> rfl
        · rw [if_neg (fun z => c2 ((nI_ltI (by omega) (by omega)).mp z))]
          exact w (fun z => c2 z.2.1)
    · rw [if_neg (fun z => c1 (nI_inj (by omega) (by omega) z))]
      exact w (fun z => c1 z.1)
theorem k_wi1 {x : Int32} (h : ¬ wi x 1 60 = 0) : ∃ m, 1 ≤ m ∧ m ≤ 60 ∧ x = nI m := by
  unfold wi at h
  by_cases h1 : x < 1
  · rw [if_pos h1] at h; exact absurd rfl h
  · rw [if_neg h1] at h
    by_cases h2 : x ≤ 60
    · have h0 : ¬ x < 0 := by
        rw [Int32.lt_iff_toInt_lt] at h1 ⊢
        have e0 : (0 : Int32).toInt = 0 := rfl
        have e1 : (1 : Int32).toInt = 1 := rfl
        omega
      obtain ⟨m, hm, rfl⟩ := nI_of h0
      refine ⟨m, ?_, (le_L (c := 60) (n := 60) rfl hm (by decide)).mp h2, rfl⟩
      rcases Nat.eq_zero_or_pos m with w | w
      · subst w; exact absurd (by decide) h1
      · exact w
    · rw [if_neg h2] at h; exact absurd rfl h
theorem wi_last {f l : Nat} (hf : f < 200) (h1 : 1 ≤ l) (h2 : l ≤ 60) : wi (nI f + nI l - 1) 0 199 = if 200 < f + l then 0 else 1 := by
  obtain ⟨k, rfl⟩ : ∃ k, l = k + 1 := ⟨l - 1, by omega⟩
  rw [nI_add, ← Nat.add_assoc, nI_pred]
  unfold wi
  rw [if_neg (nI_pos (by omega))]
  by_cases c : 200 < f + k + 1
  · rw [if_pos c, if_neg (fun z => by have := (le_L (c := 199) (n := 199) rfl (show f + k < 2 ^ 31 by omega) (by decide)).mp z; omega)]
  · rw [if_neg c, if_pos ((le_L (c := 199) (n := 199) rfl (show f + k < 2 ^ 31 by omega) (by decide)).mpr (by omega))]
theorem c_no {I M : Nat → Nat → Int32} {S : SZ} {fa la pa : Nat → Nat} (h : RN I M S fa la pa) (f l p : Int32) : noC M S f l p = nI (kno I S.2.1 f l p) := by
  unfold noC kno
  rw [isi_wi, isi_wi, isi_wi]
  by_cases h1 : wi f 0 199 = 0
  · rw [if_pos h1, if_pos h1]; rfl
  · rw [if_neg h1, if_neg h1]
    by_cases h2 : wi l 1 60 = 0
    · rw [if_pos h2, if_pos h2]; rfl
    · rw [if_neg h2, if_neg h2]
      by_cases h3 : wi p 0 11 = 0
      · rw [if_pos h3, if_pos h3]; rfl
      · rw [if_neg h3, if_neg h3]
        obtain ⟨fn, hf, rfl, -⟩ := k_wi (n := 199) rfl (by decide) h1
        obtain ⟨ln, hl, hl2, rfl⟩ := k_wi1 h2
        obtain ⟨pn, hp, rfl, -⟩ := k_wi (n := 11) rfl (by decide) h3
        rw [wi_last (by omega) hl hl2, nI_add]
        by_cases h4 : 200 < fn + ln
        · rw [if_pos ((gt_L (c := 200) (n := 200) rfl (by omega) (by decide)).mpr h4), if_pos (if_pos h4)]; rfl
        · rw [if_neg (fun z => h4 ((gt_L (c := 200) (n := 200) rfl (by omega) (by decide)).mp z)), if_neg (show ¬ (if 200 < fn + ln then (0 : Int32) else 1) = 0 by rw [if_neg h4]; decide)]
          rcases ntn_N h (f := fn) (l := ln) (p := pn) (by omega) (by omega) (by omega) S.2.1 0 (Nat.zero_add _) with ⟨a, b⟩ | ⟨a, i, hi, b⟩
          · rcases farM_N h (f := fn) (l := ln) (p := pn) (by omega) (by omega) (by omega) S.2.1 (Nat.le_refl _) with ⟨a2, b2⟩ | ⟨a2, i, hi, b2⟩
            · rw [a, a2, if_neg (by decide), if_pos rfl]
              by_cases c : S.2.1 < 40
              · rw [if_pos c, if_pos c]; rfl
              · rw [if_neg c, if_neg c]; rfl
            · exact absurd b2 (b i (Nat.zero_le _) hi)
          · rcases farM_N h (f := fn) (l := ln) (p := pn) (by omega) (by omega) (by omega) S.2.1 (Nat.le_refl _) with ⟨a2, b2⟩ | ⟨a2, i, hi, b2⟩
            · exact absurd b (b2 i hi)
            · rw [a, a2, if_pos rfl, if_neg (by decide)]; rfl
theorem k_no {I M : Nat → Nat → Int32} {S : SZ} {fa la pa : Nat → Nat} (h : RN I M S fa la pa) {f l p : Int32} (q : kno I S.2.1 f l p = 0) : ∃ fn ln pn : Nat, f = nI fn ∧ l = nI ln ∧ p = nI pn ∧ 1 ≤ ln ∧ ln ≤ 60 ∧ fn + ln ≤ 200 ∧ pn < 12 ∧ S.2.1 < 40 ∧ ∀ i, i < S.2.1 → ¬ nrN fa la pa fn ln pn i := by
  unfold kno at q
  by_cases h1 : wi f 0 199 = 0
  · rw [if_pos h1] at q; cases q
  · rw [if_neg h1] at q
    by_cases h2 : wi l 1 60 = 0
    · rw [if_pos h2] at q; cases q
    · rw [if_neg h2] at q
      by_cases h3 : wi p 0 11 = 0
      · rw [if_pos h3] at q; cases q
      · rw [if_neg h3] at q
        obtain ⟨fn, hf, rfl, -⟩ := k_wi (n := 199) rfl (by decide) h1
        obtain ⟨ln, hl, hl2, rfl⟩ := k_wi1 h2
        obtain ⟨pn, hp, rfl, -⟩ := k_wi (n := 11) rfl (by decide) h3
        rw [wi_last (by omega) hl hl2] at q
        by_cases h4 : 200 < fn + ln
        · rw [if_pos (if_pos h4)] at q; cases q
        · rw [if_neg (show ¬ (if 200 < fn + ln then (0 : Int32) else 1) = 0 by rw [if_neg h4]; decide)] at q
          rcases ntn_N h (f := fn) (l := ln) (p := pn) (by omega) (by omega) (by omega) S.2.1 0 (Nat.zero_add _) with ⟨a, b⟩ | ⟨a, i, hi, b⟩
          · rw [a, if_pos rfl] at q
            by_cases c : S.2.1 < 40
            · exact ⟨fn, ln, pn, rfl, rfl, rfl, hl, hl2, by omega, by omega, c, fun i hi => b i (Nat.zero_le _) hi⟩
            · rw [if_neg c] at q; cases q
          · rw [a, if_neg (by decide)] at q; cases q
/-- note -/
theorem RN_note {I M : Nat → Nat → Int32} {S : SZ} {fa la pa : Nat → Nat} (h : RN I M S fa la pa) {f l p : Int32} (q : kno I S.2.1 f l p = 0) : ∃ fb lb pb, RN (typ (up2 I 0 7 (-1)) S.2.1 f l p) (up2 (up2 (up2 (ntM (up2 M 0 15 0) S.2.1 f l p) (7000 + S.2.1) 2 p) 2 0 ((up2 (ntM (up2 M 0 15 0) S.2.1 f l p) (7000 + S.2.1) 2 p) 2 0 + 1)) 2 2 (nI (S.2.1 + 1))) (addS2 S) fb lb pb := by
  obtain ⟨fn, ln, pn, rfl, rfl, rfl, hl, hl2, h2, hp, h40, hnr⟩ := k_no h q
  refine ⟨fun k => if k = S.2.1 then fn else fa k, fun k => if k = S.2.1 then ln else la k, fun k => if k = S.2.1 then pn else pa k, ?_, h40, fun n hn => ?_, fun m n hm hn hmn hpp => ?_⟩
  · unfold typ; rw [up2_s, nI_1]; rfl
  · have hn2 : n < S.2.1 + 1 := hn
    dsimp only
    unfold typ ntM
    rw [up2_row (a := 12) (by omega), up2_row (a := 13) (by omega), up2_row (a := 14) (by omega), up2_row (a := 7000 + n) (by omega), up2_row (a := 7000 + n) (by omega)]
    by_cases w : n = S.2.1
    · subst w
      rw [if_pos rfl, if_pos rfl, if_pos rfl]
      refine ⟨⟨?_, ?_, ?_⟩, ⟨?_, ?_, ?_⟩, hl, hl2, h2, hp⟩
      · rw [up2_row (by omega), up2_row (by omega), up2_s]
      · rw [up2_row (by omega), up2_s]
      · rw [up2_s]
      · rw [up2_n (Or.inr (by decide)), up2_n (Or.inr (by decide)), up2_s]
      · rw [up2_n (Or.inr (by decide)), up2_s]
      · rw [up2_s]
    · rw [if_neg w, if_neg w, if_neg w]
      have e9 := h.2.2.1 n (by omega)
      rw [up2_row (a := 12) (by omega), up2_row (a := 12) (by omega), up2_n (a := 12) (Or.inr w), up2_row (a := 12) (by omega), up2_row (a := 13) (by omega), up2_n (a := 13) (Or.inr w), up2_row (a := 13) (by omega), up2_row (a := 13) (by omega), up2_n (a := 14) (Or.inr w), up2_row (a := 14) (by omega), up2_row (a := 14) (by omega), up2_row (a := 14) (by omega), up2_row (a := 7000 + n) (by omega), up2_row (a := 7000 + n) (by omega), up2_row (a := 7000 + n) (by omega), upr_n (a := 7000 + n) (by omega), up2_row (a := 7000 + n) (by omega)]
      exact e9
  · have hm2 : m < S.2.1 + 1 := hm
    have hn2 : n < S.2.1 + 1 := hn
    dsimp only at hpp ⊢
    by_cases wm : m = S.2.1
    · have wn : n ≠ S.2.1 := by omega
      rw [if_pos wm, if_neg wn] at hpp
      rw [if_pos wm, if_pos wm, if_neg wn, if_neg wn]
      have := hnr n (by omega)
      unfold nrN at this
      omega
    · by_cases wn : n = S.2.1
      · rw [if_neg wm, if_pos wn] at hpp
        rw [if_neg wm, if_neg wm, if_pos wn, if_pos wn]
        have := hnr m (by omega)
        unfold nrN at this
        omega
      · rw [if_neg wm, if_neg wn] at hpp
        rw [if_neg wm, if_neg wm, if_neg wn, if_neg wn]
        exact h.2.2.2 m n (by omega) (by omega) hmn hpp
/-- wipe -/
theorem RN_wipe {I M : Nat → Nat → Int32} {S : SZ} {fa la pa : Nat → Nat} : RN (up2 (up2 I 0 7 (-1)) 2 3 0) (up2 (up2 M 2 0 (M 2 0 + 1)) 2 2 0) (clrS2 S) fa la pa :=
  ⟨by rw [up2_s]; rfl, Nat.zero_le _, fun n hn => absurd (show n < 0 from hn) (Nat.not_lt_zero _), fun m n hm => absurd (show m < 0 from hm) (Nat.not_lt_zero _)⟩
