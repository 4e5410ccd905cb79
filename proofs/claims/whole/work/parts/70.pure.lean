/-! the relation: arrange; what is arranged is the music -/
def hol (br : Int32) (k l : Nat) : Prop := br = 0 ∨ ¬ k % 4 = 3 ∨ k + 1 = l
theorem rem4 {k : Nat} (hk : k < 1000) : (nI k - nI k / 4 * 4 = 3) = (k % 4 = 3) := by
  have := pk_rem (a := k) (d := 4) (by omega) (by decide) (by decide)
  rw [show (4 : Int32) = nI 4 from rfl, this]
  exact propext ⟨fun z => nI_inj (by omega) (by decide) z, fun z => by rw [z]; rfl⟩
theorem pnb_hol {br : Int32} {k l : Nat} (hk : k < l) (hl : l ≤ 60) : pnb br k l = 0 ↔ hol br k l := by
  unfold pnb hol
  obtain ⟨m, rfl⟩ : ∃ m, l = m + 1 := ⟨l - 1, by omega⟩
  rw [nI_pred]
  by_cases c : br = 0
  · rw [if_pos c]; exact ⟨fun _ => Or.inl c, fun _ => rfl⟩
  · rw [if_neg c]
    have e := rem4 (k := k) (by omega)
    by_cases d : k % 4 = 3
    · rw [if_pos (e.mpr d)]
      by_cases f : m ≤ k
      · rw [if_pos ((nI_leI (by omega) (by omega)).mpr f)]; exact ⟨fun _ => Or.inr (Or.inr (by omega)), fun _ => rfl⟩
      · rw [if_neg (fun z => f ((nI_leI (by omega) (by omega)).mp z))]
        exact ⟨fun z => absurd z (by decide), fun z => by rcases z with z | z | z; exact absurd z c; exact absurd d z; omega⟩
    · rw [if_neg (fun z => d (e.mp z))]; exact ⟨fun _ => Or.inr (Or.inl d), fun _ => rfl⟩
theorem brv_hol {br : Int32} {k l : Nat} (hk : k < l) (hl : l ≤ 60) : (brv br k l = 1 ∧ hol br k l) ∨ (brv br k l = 0 ∧ ¬ hol br k l) := by
  unfold brv hol
  obtain ⟨m, rfl⟩ : ∃ m, l = m + 1 := ⟨l - 1, by omega⟩
  rw [nI_pred]
  by_cases c : br = 0
  · rw [if_pos c]; exact Or.inl ⟨rfl, Or.inl c⟩
  · rw [if_neg c]
    have e := rem4 (k := k) (by omega)
    by_cases d : k % 4 = 3
    · rw [if_pos (e.mpr d)]
      by_cases f : k = m
      · rw [if_pos (congrArg nI f)]; exact Or.inl ⟨rfl, Or.inr (Or.inr (by omega))⟩
      · rw [if_neg (fun z => f (nI_inj (by omega) (by omega) z))]
        refine Or.inr ⟨rfl, ?_⟩
        rintro (z | z | z)
        · exact c z
        · exact z d
        · omega
    · rw [if_neg (fun z => d (e.mp z))]; exact Or.inl ⟨rfl, Or.inr (Or.inl d)⟩
/-- the rows of roll j in both, its holes at the notes' tracks being D -/
def AI (K Q : Nat → Nat → Int32) (j : Nat) (D : Nat → Nat → Prop) : Prop := ∀ r, r < 200 → ∃ x, x < 65536 ∧ K (8 + j) r = nI x ∧ (∀ t, t < 16 → Q (6000 + 200 * j + r) t = nI (bt x t)) ∧ ∀ t, t < 12 → (bt x t = 1 ↔ D r t)
theorem AI_c {K Q : Nat → Nat → Int32} {j : Nat} {D E : Nat → Nat → Prop} (h : AI K Q j D) (e : ∀ r t, r < 200 → t < 12 → (D r t ↔ E r t)) : AI K Q j E := fun r hr => by
  obtain ⟨x, h1, h2, h3, h4⟩ := h r hr
  exact ⟨x, h1, h2, h3, fun t ht => (h4 t ht).trans (e r t hr ht)⟩
theorem AI_1 {K Q : Nat → Nat → Int32} {j r0 t0 : Nat} {D : Nat → Nat → Prop} (h : AI K Q j D) (hr0 : r0 < 200) (ht0 : t0 < 12) : AI (ph K j (nI r0) (nI t0) 1) (up2 Q (6000 + 200 * j + r0) t0 1) j (fun r t => D r t ∨ (r = r0 ∧ t = t0)) := fun r hr => by
  obtain ⟨x, hx, h2, h3, h4⟩ := h r hr
  rw [ph_nI hr0]
  by_cases e : r = r0
  · subst e
    refine ⟨phN x t0 1, phN_lt hx (by omega), by rw [up2_s, h2, phv_nI hx (by omega)], fun t ht => ?_, fun t ht => ?_⟩
    · rw [bt_phN ht]
      by_cases w : t = t0
      · subst w; rw [up2_s, if_pos rfl]; rfl
      · rw [up2_n (Or.inr w), if_neg w]; exact h3 t ht
    · rw [bt_phN (by omega)]
      by_cases w : t = t0
      · rw [if_pos w]; exact ⟨fun _ => Or.inr ⟨rfl, w⟩, fun _ => rfl⟩
      · rw [if_neg w]
        exact (h4 t ht).trans ⟨Or.inl, fun z => z.resolve_right (fun q => w q.2)⟩
  · refine ⟨x, hx, by rw [up2_n (Or.inr e)]; exact h2, fun t ht => by rw [up2_row (by omega)]; exact h3 t ht, fun t ht => ?_⟩
    exact (h4 t ht).trans ⟨Or.inl, fun z => z.resolve_right (fun q => e q.1)⟩
theorem AI_0 {K Q : Nat → Nat → Int32} {j r0 t0 : Nat} {D : Nat → Nat → Prop} (h : AI K Q j D) (hr0 : r0 < 200) (ht0 : t0 < 12) (hn : ¬ D r0 t0) : up2 Q (6000 + 200 * j + r0) t0 0 = Q := by
  obtain ⟨x, hx, h2, h3, h4⟩ := h r0 hr0
  apply up2_id
  rw [h3 t0 (by omega), (bt_01 x t0).resolve_right (fun z => hn ((h4 t0 ht0).mp z))]; rfl
/-- the cells of one note up to its k-th row -/
def clN (br : Int32) (f l p k r t : Nat) : Prop := p = t ∧ f ≤ r ∧ r < f + k ∧ hol br (r - f) l
theorem AI_note {K Q : Nat → Nat → Int32} {j n f l p : Nat} {br : Int32} {D : Nat → Nat → Prop} (h : AI K Q j D) (h12 : K 12 n = nI f) (h14 : K 14 n = nI p) (hl : l ≤ 60) (hfl : f + l ≤ 200) (hp : p < 12) (hD : ∀ r, f ≤ r → r < f + l → ¬ D r p) : ∀ k, k ≤ l → AI (pnt K j n br l k) (arK Q j f l p br k) j (fun r t => D r t ∨ clN br f l p k r t)
  | 0, _ => AI_c h (fun r t _ _ => ⟨Or.inl, fun z => z.resolve_right (fun q => by have := q.2.1; have := q.2.2.1; omega)⟩)
  | k + 1, hk => by
    have ih := AI_note (br := br) h h12 h14 hl hfl hp hD k (by omega)
    unfold pnt arK
    rw [h12, h14, nI_add]
    have hs : hol br k l → ∀ r t, (D r t ∨ clN br f l p k r t) ∨ (r = f + k ∧ t = p) ↔ (D r t ∨ clN br f l p (k + 1) r t) := fun hh r t => by
      constructor
      · rintro ((a | a) | ⟨a, b⟩)
        · exact Or.inl a
        · exact Or.inr ⟨a.1, a.2.1, by have := a.2.2.1; omega, a.2.2.2⟩
        · exact Or.inr ⟨b.symm, by omega, by omega, by rw [a, show f + k - f = k by omega]; exact hh⟩
      · rintro (a | ⟨a, b, d, e⟩)
        · exact Or.inl (Or.inl a)
        · by_cases w : r = f + k
          · exact Or.inr ⟨w, a.symm⟩
          · exact Or.inl (Or.inr ⟨a, b, by omega, e⟩)
    have hn : ¬ hol br k l → ∀ r t, (D r t ∨ clN br f l p k r t) ↔ (D r t ∨ clN br f l p (k + 1) r t) := fun hh r t => by
      constructor
      · rintro (a | a)
        · exact Or.inl a
        · exact Or.inr ⟨a.1, a.2.1, by have := a.2.2.1; omega, a.2.2.2⟩
      · rintro (a | ⟨a, b, d, e⟩)
        · exact Or.inl a
        · by_cases w : r = f + k
          · subst w; rw [show f + k - f = k by omega] at e; exact absurd e hh
          · exact Or.inr ⟨a, b, by omega, e⟩
    rcases brv_hol (br := br) (k := k) (l := l) (by omega) hl with ⟨a, b⟩ | ⟨a, b⟩
    · rw [if_pos ((pnb_hol (by omega) hl).mpr b), a]
      exact AI_c (AI_1 ih (by omega) hp) (fun r t _ _ => hs b r t)
    · rw [if_neg (fun z => b ((pnb_hol (by omega) hl).mp z)), a, AI_0 ih (by omega) hp]
      · exact AI_c ih (fun r t _ _ => hn b r t)
      · rintro (z | z)
        · exact hD (f + k) (by omega) (by omega) z
        · have := z.2.2.1; omega
/-- the cells of the first n notes -/
def CN (fa la pa : Nat → Nat) (br : Int32) (n r t : Nat) : Prop := ∃ m, m < n ∧ clN br (fa m) (la m) (pa m) (la m) r t
theorem AI_all {I M K Q : Nat → Nat → Int32} {S : SZ} {fa la pa : Nat → Nat} (hn : RN I M S fa la pa) {j : Nat} {br : Int32} (h : AI K Q j (fun _ _ => False)) (h12 : K 12 = I 12) (h14 : K 14 = I 14) (hj : j < 4) : ∀ n, n ≤ S.2.1 → AI (pall K j br la n) (arN Q j fa la pa br n) j (CN fa la pa br n)
  | 0, _ => AI_c h (fun r t _ _ => ⟨fun z => z.elim, fun z => by obtain ⟨m, hm, -⟩ := z; omega⟩)
  | n + 1, hk => by
    have ih := AI_all hn (br := br) h h12 h14 hj n (by omega)
    obtain ⟨⟨e1, e2, e3⟩, -, l1, l2, l3, l4⟩ := hn.2.2.1 n (by omega)
    unfold pall arN
    refine AI_c (AI_note ih (f := fa n) (l := la n) (p := pa n) (by rw [pall_row (by omega), h12]; exact e1) (by rw [pall_row (by omega), h14]; exact e3) l2 l3 l4 ?_ (la n) (Nat.le_refl _)) (fun r t _ _ => ?_)
    · rintro r h1 h2 ⟨m, hm, a, b, d, -⟩
      have := hn.2.2.2 m n (by omega) (by omega) (by omega) a
      omega
    · constructor
      · rintro (⟨m, hm, z⟩ | z)
        · exact ⟨m, by omega, z⟩
        · exact ⟨n, Nat.lt_succ_self n, z⟩
      · rintro ⟨m, hm, z⟩
        rcases Nat.lt_or_ge m n with w | w
        · exact Or.inl ⟨m, w, z⟩
        · have : m = n := by omega
          subst this; exact Or.inr z
theorem lt232 : (4294963200 : Nat) < 2 ^ 32 := by decide
/-- both clear the notes' tracks -/
theorem AI_clr {I M : Nat → Nat → Int32} {S : SZ} (h : RR I M S) {j : Nat} (hj : j < S.1) : AI (upr I (8 + j) (fun q => if q < 200 then I (8 + j) q &&& (-4096) else I (8 + j) q)) (arC M j 200 0) j (fun _ _ => False) := fun r hr => by
  obtain ⟨x, hx, e1, e2, e3⟩ := h.2.2 j (by have := h.2.1; omega) r hr
  refine ⟨x &&& 4294963200, and16 hx, ?_, fun t ht => ?_, fun t ht => ?_⟩
  · rw [upr_s]
    show (if r < 200 then _ else _) = _
    rw [if_pos hr, e1, show (-4096 : Int32) = nI 4294963200 by decide, nI_and (by omega) lt232]
  · rw [bt_and, bt_12 t ht]
    unfold arC
    by_cases w : t < 12
    · rw [if_pos w, if_pos rfl, if_pos (by omega)]; rfl
    · rw [if_neg w, if_neg (show ¬ (1 : Nat) = 0 by decide), if_neg (by omega)]; exact e3 hj t ht
  · rw [bt_and, bt_12 t (by omega), if_pos ht, if_pos rfl]
    exact ⟨fun z => absurd z (by decide), fun z => z.elim⟩
