/-! which addresses stay; clearing; what the methods that make cells compute -/
def AGm (L : List Nat) (a b : Nat → Nat) : Prop := ∀ i, (i ∈ L ∨ i = 99999) → i ≠ 6 → (i < 1000 ∨ 4000 ≤ i) → b i = a i
theorem AGm_rf {L : List Nat} {a : Nat → Nat} : AGm L a a := fun _ _ _ _ => rfl
theorem AGm_new {L : List Nat} {a b : Nat → Nat} {n q : Nat} (h : AGm L a b) (hn : n ∉ L) (h9 : n ≠ 99999) : AGm L a (va_up b n q) := fun i hi h6 h1 => (va_up_ne _ _ (fun e => by rcases hi with w | w; exact hn (e ▸ w); exact h9 (e ▸ w))).trans (h i hi h6 h1)
theorem AGm_add {L : List Nat} {a b c : Nat → Nat} (h : AGm L a b) (h2 : ∀ i, i < 1000 ∨ 4000 ≤ i → c i = b i) : AGm L a c := fun i hi h6 h1 => (h2 i h1).trans (h i hi h6 h1)
theorem AGm_tr {L L2 : List Nat} {a b c : Nat → Nat} (h : AGm L a b) (h2 : AGm L2 b c) (hs : ∀ i ∈ L, i ∈ L2) : AGm L a c := fun i hi h6 h1 => (h2 i (hi.elim (fun w => Or.inl (hs i w)) Or.inr) h6 h1).trans (h i hi h6 h1)
theorem AGm_sub {L L2 : List Nat} {a b : Nat → Nat} (h : AGm L2 a b) (hs : ∀ i ∈ L, i ∈ L2) : AGm L a b := fun i hi h6 h1 => h i (hi.elim (fun w => Or.inl (hs i w)) Or.inr) h6 h1
theorem AGm_z {L : List Nat} {a b : Nat → Nat} {x : Nat} (h : AGm L a b) (hz : a 99999 = x) : b 99999 = x := (h 99999 (Or.inr rfl) (by decide) (Or.inr (by decide))).trans hz
theorem UC_mk {ad ad2 : Nat → Nat} {L L2 : List Nat} {f f2 : Nat → va_E} (h1 : ∀ i ∈ L2, i ∈ L) (h2 : L2.Nodup) (h3 : ∀ i ∈ L2, ad2 i = ad i ∧ f2 i = f i) : UC (ad, L, f) (ad2, L2, f2) := ⟨h1, h2, h3⟩
theorem nm_app {L : List Nat} {t n : Nat} (h : t ∉ L) (h2 : t ≠ n) : t ∉ L ++ [n] := fun q => by
  rcases List.mem_append.mp q with w | w
  · exact h w
  · exact h2 (List.mem_singleton.mp w)
theorem no_app {L : List Nat} {R : Nat → Nat → Option Nat} {t n j : Nat} {x : Option Nat} (h : ∀ i ∈ L, ∀ k, R i k ≠ some t) (hx : x ≠ some t) (hn : ∀ k, R n k = none) : ∀ i ∈ L ++ [n], ∀ k, up2 R n j x i k ≠ some t := fun i hi k e => by
  by_cases hin : i = n
  · subst hin
    by_cases hk : k = j
    · subst hk; rw [up2_s] at e; exact hx e
    · rw [up2_n (Or.inr hk), hn] at e; cases e
  · rw [up2_row hin] at e
    rcases List.mem_append.mp hi with w | w
    · exact h i w k e
    · exact hin (List.mem_singleton.mp w)
theorem no_app0 {L : List Nat} {R : Nat → Nat → Option Nat} {t n : Nat} (h : ∀ i ∈ L, ∀ k, R i k ≠ some t) (hn : ∀ k, R n k = none) : ∀ i ∈ L ++ [n], ∀ k, R i k ≠ some t := fun i hi k e => by
  rcases List.mem_append.mp hi with w | w
  · exact h i w k e
  · rw [List.mem_singleton.mp w, hn] at e; cases e
theorem nd_app {L : List Nat} {n : Nat} (h : L.Nodup) (hn : n ∉ L) : (L ++ [n]).Nodup := by
  rw [List.nodup_append]
  exact ⟨h, List.nodup_cons.mpr ⟨List.not_mem_nil, List.nodup_nil⟩, fun a ha b hb e => hn (by rw [List.mem_singleton] at hb; rw [← hb, ← e]; exact ha)⟩
theorem gC_le (s c : Nat) : gC s c ≤ 1 := by unfold gC; split <;> omega
theorem gS_2 {S : SZ} (hS : WS S) (h : S.2.1 < 40) : gS S.2.1 S.2.2.2.2.1 ≤ 49 := by
  unfold gS
  split
  · omega
  · exact (WS_2 hS h).c2
theorem gS_1 {S : SZ} (hS : WS S) (h : S.1 < 4) : gS S.1 S.2.2.2.1 ≤ 10 := by
  unfold gS
  split
  · omega
  · exact (WS_1 hS h).c1
theorem gS_3 {S : SZ} (hS : WS S) (h : S.2.2.1 < 300) : gS S.2.2.1 S.2.2.2.2.2 ≤ 366 := by
  unfold gS
  split
  · omega
  · exact (WS_3 hS h).c3
theorem g_ren {X : EN} {D : va_G} {ad ad2 : Nat → Nat} {L L2 : List Nat} {f f2 : Nat → va_E} {lv : List (Nat × Value)} {ce sl pc : Nat} {st : List Value} (sg : Nat → Nat) (hs : ∀ i ∈ L2, sg i ∈ L) (hn : (L2.map sg).Nodup) (hf : ∀ i ∈ L2, ad2 i = ad (sg i) ∧ f2 i = f (sg i)) (hk : GG X D ad2 L2 f2 lv ce sl pc st) : GG X D ad L f lv ce sl pc st := by
  refine g_L (L2 := L2.map sg) (fun i hi => ?_) hn ?_
  · obtain ⟨j, hj, rfl⟩ := List.mem_map.mp hi
    exact hs j hj
  · obtain ⟨p, l, e, R, s, m, args, below, meth, c, Q, nL2, A, H0⟩ := X
    intro H locs ls hP hD hS hl
    have e : pw ad (L2.map sg) f = pw ad2 L2 f2 := by
      unfold pw
      rw [List.map_map]
      apply List.map_congr_left
      intro i hi
      show (ad (sg i), f (sg i)) = (ad2 i, f2 i)
      rw [(hf i hi).1, (hf i hi).2]
    rw [e] at hP hD
    exact hk H locs ls hP hD hS hl
def clrS2 (S : SZ) : SZ := (S.1, 0, S.2.2.1, S.2.2.2.1, S.2.2.2.2.1, S.2.2.2.2.2)
theorem WS_c2 {S : SZ} (hS : WS S) : WS (clrS2 S) := by
  obtain ⟨h1, h2, h3, h4, h5, h6, h7, h8, h9⟩ := hS
  exact ⟨h1, Nat.zero_le _, h3, h4, Nat.zero_le _, h6, h7, h8, h9⟩
theorem mL_c2 {S : SZ} {i : Nat} (h : i ∈ mL (clrS2 S)) : i ∈ mL S := by
  rw [mL_mem] at h ⊢
  refine ⟨h.1, ?_⟩
  have := h.2
  unfold mA clrS2 at this
  unfold mA
  simp only at this
  omega
theorem mR_c2 {S : SZ} {i : Nat} (h2 : ¬ (2000 ≤ i ∧ i < 3000)) : mR (clrS2 S) i = mR S i := by
  funext k
  unfold mR
  rcases (show i < 2000 ∨ 3000 ≤ i by omega) with q | q
  · simp only [clrS2, q, if_true, if_false]
    try rfl
  · have q1 : ¬ i < 2000 := by omega
    have q2 : ¬ i < 3000 := by omega
    simp only [clrS2, q1, q2, if_false]
    try rfl
theorem k_clr2 {D : va_G} {dT : Nat → ClassId} {Z : ZT} {ad : Nat → Nat} (M : Nat → Nat → Int32) (S : SZ) (hS : WS S) (hw : M 2 2 = nI S.2.1) (hz : ad 99999 = Z.1) : ∀ l8, BV l8 yJx4a65c_clear_da8c8 wsJx4a65c_clear_da8c8 rm_Jx4a65c_clear_da8c8 D (tyl dT) Z ad (mL S) (pf dT mK mN M (mR S) ad) [.ref (ad 2)] 0 0 (fun u => u = (ad, mL (clrS2 S), mf dT ad (up2 (up2 M 2 0 (M 2 0 + 1)) 2 2 0) (clrS2 S))) := by
  intro l8
  have hc9 := hS.c2
  have hsc : S.2.1 ≤ S.2.2.2.2.1 := hS.2.2.2.2.1
  have hl : 2 ∈ mL S := m_lo (by decide)
  by_cases h0 : S.2.2.2.2.1 = 0
  · have hn0 : S.2.1 = 0 := by omega
    refine bv_imp (k_Jx4a65c_clear_da8c8B (K := mK) (N := mN) (I := M) (Rr := mR S) 2 hl rfl 99999 hz (by show mE 2 S.2.2.2.2.1 = _; rw [h0]; rfl) (by rw [hw, hn0]; rfl) l8) ?_
    rintro u rfl
    refine ⟨(ad, mL (clrS2 S), mf dT ad (up2 (up2 M 2 0 (M 2 0 + 1)) 2 2 0) (clrS2 S)), UC_mk (fun i hi => mL_c2 (S := S) hi) mL_nd (fun i hi => ⟨rfl, pf_R (R2 := mR (clrS2 S)) ?_⟩), rfl⟩
    refine mR_c2 (fun q => ?_)
    have := (mL_mem.mp hi).2
    unfold mA clrS2 at this
    simp only at this
    have c1 := hS.c1; have c2 := hS.c2; have c3 := hS.c3; have d1 := hS.1; have d2 := hS.2.1; have d3 := hS.2.2.1
    omega
  · refine bv_imp (k_Jx4a65c_clear_da8c8A (K := mK) (N := mN) (I := M) (Rr := mR S) 2 hl rfl (2000 + S.2.2.2.2.1) (m_e2 hS (by omega)) (mK_e (by omega) (by omega)) (mR_21 (by omega)) S.2.1 (by rw [mN_2 hS]; exact hsc) (by rw [mN_2 hS]; omega) hw l8) ?_
    rintro u rfl
    refine ⟨(ad, mL (clrS2 S), mf dT ad (up2 (up2 M 2 0 (M 2 0 + 1)) 2 2 0) (clrS2 S)), UC_mk (fun i hi => mL_c2 (S := S) hi) mL_nd (fun i hi => ⟨rfl, pf_R (R2 := mR (clrS2 S)) ?_⟩), rfl⟩
    by_cases he : i = 2000 + S.2.2.2.2.1
    · subst he
      funext k
      rw [show 2000 + S.2.2.2.2.1 = 2000 + (clrS2 S).2.2.2.2.1 from rfl, mR_2 (by show S.2.2.2.2.1 < 1000; omega), show (clrS2 S).2.1 = 0 from rfl, if_neg (Nat.not_lt_zero k)]
      show none = clR (mR S) (2000 + S.2.2.2.2.1) S.2.1 (2000 + S.2.2.2.2.1) k
      unfold clR
      rw [if_pos rfl]
      by_cases hk : k < S.2.1
      · rw [if_pos hk]
      · rw [if_neg hk, mR_2 (by omega), if_neg hk]
    · rw [show clR (mR S) (2000 + S.2.2.2.2.1) S.2.1 i = mR S i by unfold clR; rw [if_neg he]]
      refine mR_c2 (fun q => ?_)
      have := (mL_mem.mp hi).2
      unfold mA clrS2 at this
      simp only at this
      have c1 := hS.c1; have c2 := hS.c2; have c3 := hS.c3; have d1 := hS.1; have d2 := hS.2.1; have d3 := hS.2.2.1
      omega
def clrS3 (S : SZ) : SZ := (S.1, S.2.1, 0, S.2.2.2.1, S.2.2.2.2.1, S.2.2.2.2.2)
theorem WS_c3 {S : SZ} (hS : WS S) : WS (clrS3 S) := by
  obtain ⟨h1, h2, h3, h4, h5, h6, h7, h8, h9⟩ := hS
  exact ⟨h1, h2, Nat.zero_le _, h4, h5, Nat.zero_le _, h7, h8, h9⟩
theorem mL_c3 {S : SZ} {i : Nat} (h : i ∈ mL (clrS3 S)) : i ∈ mL S := by
  rw [mL_mem] at h ⊢
  refine ⟨h.1, ?_⟩
  have := h.2
  unfold mA clrS3 at this
  unfold mA
  simp only at this
  omega
theorem mR_c3 {S : SZ} {i : Nat} (h2 : ¬ (3000 ≤ i ∧ i < 4000)) : mR (clrS3 S) i = mR S i := by
  funext k
  unfold mR
  rcases (show i < 3000 ∨ 4000 ≤ i by omega) with q | q
  · simp only [clrS3, q, if_true, if_false]
    try rfl
  · have q1 : ¬ i < 3000 := by omega
    have q2 : ¬ i < 4000 := by omega
    simp only [clrS3, q1, q2, if_false]
    try rfl
theorem k_clr3 {D : va_G} {dT : Nat → ClassId} {Z : ZT} {ad : Nat → Nat} (M : Nat → Nat → Int32) (S : SZ) (hS : WS S) (hw : M 3 2 = nI S.2.2.1) (hz : ad 99999 = Z.1) : ∀ l8, BV l8 yJx4a65c_clear_da8c8 wsJx4a65c_clear_da8c8 rm_Jx4a65c_clear_da8c8 D (tyl dT) Z ad (mL S) (pf dT mK mN M (mR S) ad) [.ref (ad 3)] 0 0 (fun u => u = (ad, mL (clrS3 S), mf dT ad (up2 (up2 M 3 0 (M 3 0 + 1)) 3 2 0) (clrS3 S))) := by
  intro l8
  have hc9 := hS.c3
  have hsc : S.2.2.1 ≤ S.2.2.2.2.2 := hS.2.2.2.2.2.1
  have hl : 3 ∈ mL S := m_lo (by decide)
  by_cases h0 : S.2.2.2.2.2 = 0
  · have hn0 : S.2.2.1 = 0 := by omega
    refine bv_imp (k_Jx4a65c_clear_da8c8B (K := mK) (N := mN) (I := M) (Rr := mR S) 3 hl rfl 99999 hz (by show mE 3 S.2.2.2.2.2 = _; rw [h0]; rfl) (by rw [hw, hn0]; rfl) l8) ?_
    rintro u rfl
    refine ⟨(ad, mL (clrS3 S), mf dT ad (up2 (up2 M 3 0 (M 3 0 + 1)) 3 2 0) (clrS3 S)), UC_mk (fun i hi => mL_c3 (S := S) hi) mL_nd (fun i hi => ⟨rfl, pf_R (R2 := mR (clrS3 S)) ?_⟩), rfl⟩
    refine mR_c3 (fun q => ?_)
    have := (mL_mem.mp hi).2
    unfold mA clrS3 at this
    simp only at this
    have c1 := hS.c1; have c2 := hS.c2; have c3 := hS.c3; have d1 := hS.1; have d2 := hS.2.1; have d3 := hS.2.2.1
    omega
  · refine bv_imp (k_Jx4a65c_clear_da8c8A (K := mK) (N := mN) (I := M) (Rr := mR S) 3 hl rfl (3000 + S.2.2.2.2.2) (m_e3 hS (by omega)) (mK_e (by omega) (by omega)) (mR_31 (by omega)) S.2.2.1 (by rw [mN_3 hS]; exact hsc) (by rw [mN_3 hS]; omega) hw l8) ?_
    rintro u rfl
    refine ⟨(ad, mL (clrS3 S), mf dT ad (up2 (up2 M 3 0 (M 3 0 + 1)) 3 2 0) (clrS3 S)), UC_mk (fun i hi => mL_c3 (S := S) hi) mL_nd (fun i hi => ⟨rfl, pf_R (R2 := mR (clrS3 S)) ?_⟩), rfl⟩
    by_cases he : i = 3000 + S.2.2.2.2.2
    · subst he
      funext k
      rw [show 3000 + S.2.2.2.2.2 = 3000 + (clrS3 S).2.2.2.2.2 from rfl, mR_3 (by show S.2.2.2.2.2 < 1000; omega), show (clrS3 S).2.2.1 = 0 from rfl, if_neg (Nat.not_lt_zero k)]
      show none = clR (mR S) (3000 + S.2.2.2.2.2) S.2.2.1 (3000 + S.2.2.2.2.2) k
      unfold clR
      rw [if_pos rfl]
      by_cases hk : k < S.2.2.1
      · rw [if_pos hk]
      · rw [if_neg hk, mR_3 (by omega), if_neg hk]
    · rw [show clR (mR S) (3000 + S.2.2.2.2.2) S.2.2.1 i = mR S i by unfold clR; rw [if_neg he]]
      refine mR_c3 (fun q => ?_)
      have := (mL_mem.mp hi).2
      unfold mA clrS3 at this
      simp only at this
      have c1 := hS.c1; have c2 := hS.c2; have c3 := hS.c3; have d1 := hS.1; have d2 := hS.2.1; have d3 := hS.2.2.1
      omega
def farM (M : Nat → Nat → Int32) (f l p : Int32) : Nat → Int32
  | 0 => 1
  | k + 1 => farM M f l p k &&& (if M (7000 + k) 2 = p then (if M (7000 + k) 0 + M (7000 + k) 1 + 2 ≤ f then 1 else if M (7000 + k) 0 < f + l + 2 then 0 else 1) else 1)
def noC (M : Nat → Nat → Int32) (S : SZ) (f l p : Int32) : Int32 := if isi f 0 199 = 0 then 1 else if isi l 1 60 = 0 then 1 else if isi p 0 11 = 0 then 1 else if 200 < f + l then 1 else if farM M f l p S.2.1 = 0 then 2 else if S.2.1 < 40 then 0 else 3
def ntM (M : Nat → Nat → Int32) (n : Nat) (f l p : Int32) : Nat → Nat → Int32 := up2 (up2 (upr M (7000 + n) (fun _ => 0)) (7000 + n) 0 f) (7000 + n) 1 l
theorem farM_15 (M : Nat → Nat → Int32) (f l p x : Int32) : ∀ k, farM (up2 M 0 15 x) f l p k = farM M f l p k
  | 0 => rfl
  | k + 1 => by unfold farM; rw [farM_15 M f l p x k, up2_row (show 7000 + k ≠ 0 by omega)]
def smM (M : Nat → Nat → Int32) : Nat → Int32
  | 0 => 0
  | k + 1 => smM M k + M (8000 + k) 4
def ckR (M : Nat → Nat → Int32) (j r : Nat) (s : Int64) : Nat → Int64
  | 0 => s
  | t + 1 => if M (6000 + 200 * j + r) t = 0 then ckR M j r s t else 31 * ckR M j r s t + (16 * nI r).toInt64 + (nI t).toInt64
def ckJ (M : Nat → Nat → Int32) (j : Nat) (s : Int64) : Nat → Int64
  | 0 => s
  | r + 1 => ckR M j r (ckJ M j s r) 16
def ckA (M : Nat → Nat → Int32) : Nat → Int64
  | 0 => 7
  | j + 1 => ckJ M j (ckA M j) 200
def ckS (M : Nat → Nat → Int32) (s : Int64) : Nat → Int64
  | 0 => s
  | k + 1 => 31 * (31 * (31 * ckS M s k + (M (8000 + k) 0).toInt64) + (M (8000 + k) 2).toInt64) + (M (8000 + k) 4).toInt64
def rwL (S : SZ) (n : Nat) : List Nat := (mL S ++ [5000 + S.1]) ++ (List.range n).map (fun k => 6000 + 200 * S.1 + k)
theorem rwL_mem {S : SZ} {n i : Nat} : i ∈ rwL S n ↔ i ∈ mL S ∨ i = 5000 + S.1 ∨ ∃ k, k < n ∧ i = 6000 + 200 * S.1 + k := by
  unfold rwL
  rw [List.mem_append, List.mem_append, List.mem_singleton, List.mem_map, or_assoc]
  constructor
  · rintro (h | h | ⟨k, h1, h2⟩)
    · exact Or.inl h
    · exact Or.inr (Or.inl h)
    · exact Or.inr (Or.inr ⟨k, List.mem_range.mp h1, h2.symm⟩)
  · rintro (h | h | ⟨k, h1, h2⟩)
    · exact Or.inl h
    · exact Or.inr (Or.inl h)
    · exact Or.inr (Or.inr ⟨k, List.mem_range.mpr h1, h2.symm⟩)
theorem rwL_s {S : SZ} {n : Nat} : rwL S n ++ [6000 + 200 * S.1 + n] = rwL S (n + 1) := by
  unfold rwL
  rw [List.range_succ, List.map_append, List.append_assoc (mL S ++ [5000 + S.1])]
  rfl
theorem rwL_0 {S : SZ} : mL S ++ [5000 + S.1] = rwL S 0 := by
  unfold rwL
  rw [List.range_zero, List.map_nil, List.append_nil]
theorem mA_7 {S : SZ} (hS : WS S) {i : Nat} (h : i ∈ mL S) : (i < 1000 ∨ 2000 ≤ i ∨ i = 1000 + S.2.2.2.1) ∧ (i < 2000 ∨ 3000 ≤ i ∨ i = 2000 + S.2.2.2.2.1) ∧ (i < 3000 ∨ 4000 ≤ i ∨ i = 3000 + S.2.2.2.2.2) := by
  have := (mL_mem.mp h).2
  have c1 := hS.c1; have c2 := hS.c2; have c3 := hS.c3
  unfold mA at this
  refine ⟨?_, ?_, ?_⟩ <;> omega
theorem k_add1' {D : va_G} {dT : Nat → ClassId} {Z : ZT} {ad : Nat → Nat} (M : Nat → Nat → Int32) (S : SZ) (hS : WS S) (hlt : S.1 < 4) (hw : M 1 2 = nI S.1) (hz : ad 99999 = Z.1) : ∀ l8, BI l8 yJx4a65c_add_9ea2d wsJx4a65c_add_9ea2d (rm_Jx4a65c_add_9ea2d (gC S.1 S.2.2.2.1) (gS S.1 S.2.2.2.1)) D (tyl dT) Z ad (rwL S 200) (pf dT mK mN M (mR S) ad) [.ref (ad 1), .ref (ad (5000 + S.1))] (gC S.1 S.2.2.2.1) (gS S.1 S.2.2.2.1) (fun r u => (∃ ad2 : Nat → Nat, (∀ i, i < 1000 ∨ 2000 ≤ i → ad2 i = ad i) ∧ u = (ad2, mL (addS1 S), mf dT ad2 (up2 (up2 M 1 0 (M 1 0 + 1)) 1 2 (nI (S.1 + 1))) (addS1 S))) ∧ 1 = r) := by
  have hW := WS_1 hS hlt
  refine k_add1 M S hS hlt hw hz _ _ (fun i hi => rwL_mem.mpr (Or.inl hi)) (rwL_mem.mpr (Or.inr (Or.inl rfl))) (fun i hi => ?_) (fun i hi k y hy => ?_) mL_nd (fun i hi => ⟨?_, ?_⟩)
  · rcases rwL_mem.mp hi with w | w | ⟨k, w1, w2⟩
    · exact (mA_7 hS w).1
    · omega
    · omega
  · rcases rwL_mem.mp hi with w | w | ⟨k9, w1, w2⟩
    · exact (mR_cl hS w hy).elim (fun q => Or.inl (rwL_mem.mpr (Or.inl q))) Or.inr
    · subst w
      by_cases hk : k < 200
      · rw [mR_o hlt hk] at hy; cases hy
        exact Or.inl (rwL_mem.mpr (Or.inr (Or.inr ⟨k, hk, rfl⟩)))
      · unfold mR at hy
        simp only [show ¬ 5000 + S.1 = 0 by omega, show ¬ 5000 + S.1 = 1 by omega, show ¬ 5000 + S.1 = 2 by omega, show ¬ 5000 + S.1 = 3 by omega, show ¬ 5000 + S.1 = 4 by omega, show ¬ 5000 + S.1 < 1000 by omega, show ¬ 5000 + S.1 < 2000 by omega, show ¬ 5000 + S.1 < 3000 by omega, show ¬ 5000 + S.1 < 4000 by omega, show ¬ 5000 + S.1 < 5000 by omega, show 5000 + S.1 < 5004 by omega, hk, if_true, if_false] at hy
        cases hy
    · rw [w2, mR_0 (by omega)] at hy; cases hy
  · have := (mL_mem.mp hi).2
    have h9 := (mL_mem.mp hi).1
    unfold mA addS1 at this
    simp only at this
    by_cases hc : i = 1000 + ncap S.1 S.2.2.2.1
    · exact Or.inr hc
    · refine Or.inl (rwL_mem.mpr ?_)
      by_cases h5 : i = 5000 + S.1
      · exact Or.inr (Or.inl h5)
      · by_cases h6 : 6000 + 200 * S.1 ≤ i ∧ i < 6000 + 200 * S.1 + 200
        · exact Or.inr (Or.inr ⟨i - (6000 + 200 * S.1), by omega, by omega⟩)
        · refine Or.inl (mL_mem.mpr ⟨h9, ?_⟩)
          unfold mA
          omega
  · exact (mA_7 hW hi).1
theorem k_add2' {D : va_G} {dT : Nat → ClassId} {Z : ZT} {ad : Nat → Nat} (M : Nat → Nat → Int32) (S : SZ) (hS : WS S) (hlt : S.2.1 < 40) (hw : M 2 2 = nI S.2.1) (hz : ad 99999 = Z.1) : ∀ l8, BI l8 yJx4a65c_add_9ea2d wsJx4a65c_add_9ea2d (rm_Jx4a65c_add_9ea2d (gC S.2.1 S.2.2.2.2.1) (gS S.2.1 S.2.2.2.2.1)) D (tyl dT) Z ad (mL S ++ [7000 + S.2.1]) (pf dT mK mN M (mR S) ad) [.ref (ad 2), .ref (ad (7000 + S.2.1))] (gC S.2.1 S.2.2.2.2.1) (gS S.2.1 S.2.2.2.2.1) (fun r u => (∃ ad2 : Nat → Nat, (∀ i, i < 2000 ∨ 3000 ≤ i → ad2 i = ad i) ∧ u = (ad2, mL (addS2 S), mf dT ad2 (up2 (up2 M 2 0 (M 2 0 + 1)) 2 2 (nI (S.2.1 + 1))) (addS2 S))) ∧ 1 = r) := by
  have hW := WS_2 hS hlt
  refine k_add2 M S hS hlt hw hz _ _ (fun i hi => List.mem_append_left _ hi) (List.mem_append_right _ (List.mem_singleton.mpr rfl)) (fun i hi => ?_) (fun i hi k y hy => ?_) mL_nd (fun i hi => ⟨?_, ?_⟩)
  · rcases List.mem_append.mp hi with w | w
    · exact (mA_7 hS w).2.1
    · have := List.mem_singleton.mp w; omega
  · rcases List.mem_append.mp hi with w | w
    · exact (mR_cl hS w hy).elim (fun q => Or.inl (List.mem_append_left _ q)) Or.inr
    · rw [List.mem_singleton.mp w, mR_0 (by omega)] at hy; cases hy
  · have := (mL_mem.mp hi).2
    have h9 := (mL_mem.mp hi).1
    unfold mA addS2 at this
    simp only at this
    by_cases hc : i = 2000 + ncap S.2.1 S.2.2.2.2.1
    · exact Or.inr hc
    · refine Or.inl ?_
      by_cases h5 : i = 7000 + S.2.1
      · exact List.mem_append_right _ (List.mem_singleton.mpr h5)
      · refine List.mem_append_left _ (mL_mem.mpr ⟨h9, ?_⟩)
        unfold mA
        omega
  · exact (mA_7 hW hi).2.1
theorem k_add3' {D : va_G} {dT : Nat → ClassId} {Z : ZT} {ad : Nat → Nat} (M : Nat → Nat → Int32) (S : SZ) (hS : WS S) (hlt : S.2.2.1 < 300) (hw : M 3 2 = nI S.2.2.1) (hz : ad 99999 = Z.1) : ∀ l8, BI l8 yJx4a65c_add_9ea2d wsJx4a65c_add_9ea2d (rm_Jx4a65c_add_9ea2d (gC S.2.2.1 S.2.2.2.2.2) (gS S.2.2.1 S.2.2.2.2.2)) D (tyl dT) Z ad ((mL S ++ [7]) ++ [8000 + S.2.2.1]) (pf dT mK mN M (mR S) ad) [.ref (ad 3), .ref (ad (8000 + S.2.2.1))] (gC S.2.2.1 S.2.2.2.2.2) (gS S.2.2.1 S.2.2.2.2.2) (fun r u => (∃ ad2 : Nat → Nat, (∀ i, i < 3000 ∨ 4000 ≤ i → ad2 i = ad i) ∧ u = (ad2, mL (addS3 S) ++ [7], mf dT ad2 (up2 (up2 M 3 0 (M 3 0 + 1)) 3 2 (nI (S.2.2.1 + 1))) (addS3 S))) ∧ 1 = r) := by
  have hW := WS_3 hS hlt
  refine k_add3 M S hS hlt hw hz _ _ (fun i hi => List.mem_append_left _ (List.mem_append_left _ hi)) (List.mem_append_right _ (List.mem_singleton.mpr rfl)) (fun i hi => ?_) (fun i hi k y hy => ?_) (nd_app mL_nd (f_lo (by decide) (by decide) hW)) (fun i hi => ⟨?_, ?_⟩)
  · rcases List.mem_append.mp hi with w | w
    · rcases List.mem_append.mp w with w | w
      · exact (mA_7 hS w).2.2
      · have := List.mem_singleton.mp w; omega
    · have := List.mem_singleton.mp w; omega
  · rcases List.mem_append.mp hi with w | w
    · rcases List.mem_append.mp w with w | w
      · exact (mR_cl hS w hy).elim (fun q => Or.inl (List.mem_append_left _ (List.mem_append_left _ q))) Or.inr
      · rw [List.mem_singleton.mp w, mR_0 (by omega)] at hy; cases hy
    · rw [List.mem_singleton.mp w, mR_0 (by omega)] at hy; cases hy
  · rcases List.mem_append.mp hi with hi | hi
    · have := (mL_mem.mp hi).2
      have h9 := (mL_mem.mp hi).1
      unfold mA addS3 at this
      simp only at this
      by_cases hc : i = 3000 + ncap S.2.2.1 S.2.2.2.2.2
      · exact Or.inr hc
      · refine Or.inl ?_
        by_cases h5 : i = 8000 + S.2.2.1
        · exact List.mem_append_right _ (List.mem_singleton.mpr h5)
        · refine List.mem_append_left _ (List.mem_append_left _ (mL_mem.mpr ⟨h9, ?_⟩))
          unfold mA
          omega
    · exact Or.inl (List.mem_append_left _ (List.mem_append_right _ hi))
  · rcases List.mem_append.mp hi with hi | hi
    · exact (mA_7 hW hi).2.2
    · have := List.mem_singleton.mp hi; omega
