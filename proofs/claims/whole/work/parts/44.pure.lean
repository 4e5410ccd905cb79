/-! List.add over the reference's pool -/
def ncap (s c : Nat) : Nat := if s < c then c else if c = 0 then 10 else c + c / 2
def gC (s c : Nat) : Nat := if s < c then 0 else 1
def gS (s c : Nat) : Nat := if s < c then 0 else ncap s c
def adR (Rr : Nat → Nat → Option Nat) (l e eN s c x : Nat) : Nat → Nat → Option Nat := if s < c then up2 Rr e s (some x) else if c = 0 then up2 (up2 Rr l 1 (some eN)) eN 0 (some x) else up2 (up2 (fun a => if a = eN then fun k => if k < mN e then Rr e k else Rr eN k else Rr a) l 1 (some eN)) eN s (some x)
theorem pf_R {dT : Nat → ClassId} {K N : Nat → Nat} {I : Nat → Nat → Int32} {R R2 : Nat → Nat → Option Nat} {ad : Nat → Nat} {i : Nat} (h : R2 i = R i) : pf dT K N I R2 ad i = pf dT K N I R ad i := by
  unfold pf
  rw [h]
theorem pf_I {dT : Nat → ClassId} {K N : Nat → Nat} {I I2 : Nat → Nat → Int32} {R : Nat → Nat → Option Nat} {ad : Nat → Nat} {i : Nat} (h : I2 i = I i) : pf dT K N I2 R ad i = pf dT K N I R ad i := by
  unfold pf
  rw [h]
theorem v_add {D : va_G} {dT : Nat → ClassId} {Z : ZT} {I : Nat → Nat → Int32} {Rr : Nat → Nat → Option Nat} {ad : Nat → Nat} {L : List Nat} (l c s e eN x : Nat) (hl : l ∈ L) (hlk : mK l = 3) (hs : I l 2 = nI s) (hsc : s ≤ c) (hc1 : c ≠ 1) (hc6 : c ≤ 60000) (hc : 0 < c → e ∈ L ∧ mK e = 25 ∧ Rr l 1 = some e ∧ mN e = c) (hc0 : c = 0 → Rr l 1 = some 99999) (hz : ad 99999 = Z.1)
    (hN : s = c → eN ∉ L ∧ (∀ i ∈ L, ∀ k, Rr i k ≠ some eN) ∧ mK eN = 25 ∧ mN eN = ncap s c ∧ ∀ k, Rr eN k = none) (kd : Nat) (C : String) (hC : (C = "[I" ∧ kd = 20) ∨ (C = "[[Z" ∧ kd = 26)) (hel : ∀ k, k < c → ∀ y, Rr e k = some y → y ∈ L ∧ mK y = kd) (hxL : x ∈ L) (hkx : mK x = 20 ∨ mK x = 26)
    (L2 : List Nat) (R2 : Nat → Nat → Option Nat) (hnd : L2.Nodup) (hL2 : ∀ i ∈ L2, i ∈ L ∨ (s = c ∧ i = eN)) (hR2 : ∀ i ∈ L2, R2 i = adR Rr l e eN s c x i) :
    ∀ l8, BI l8 yJx4a65c_add_9ea2d wsJx4a65c_add_9ea2d (rm_Jx4a65c_add_9ea2d (gC s c) (gS s c)) D (tyl dT) Z ad L (pf dT mK mN I Rr ad) [.ref (ad l), .ref (ad x)] (gC s c) (gS s c) (fun r u => (∃ ad2 : Nat → Nat, (∀ i, i ≠ eN → ad2 i = ad i) ∧ u = (ad2, L2, pf dT mK mN (up2 (up2 I l 0 (I l 0 + 1)) l 2 (nI (s + 1))) R2 ad2)) ∧ 1 = r) := by
  intro l8
  rcases Nat.lt_or_ge s c with h | h
  · obtain ⟨e1, e2, e3, e4⟩ := hc (by omega)
    have h1 := k_Jx4a65c_add_9ea2dR (D := D) (dT := dT) (Z := Z) (K := mK) (N := mN) (I := I) (Rr := Rr) (ad := ad) (L := L) l hl hlk e e1 e2 e3 s (by omega) (by omega) (by omega) hs x hxL hkx l8
    rw [show gC s c = 0 from if_pos h, show gS s c = 0 from if_pos h]
    refine bi_imp h1 ?_
    rintro r u ⟨rfl, hr⟩
    refine ⟨(ad, L2, pf dT mK mN (up2 (up2 I l 0 (I l 0 + 1)) l 2 (nI (s + 1))) R2 ad), ⟨fun i hi => (hL2 i hi).resolve_right (fun q => by omega), hnd, fun i hi => ⟨rfl, pf_R ?_⟩⟩, ⟨ad, fun _ _ => rfl, rfl⟩, hr⟩
    rw [hR2 i hi, adR, if_pos h]
  · have hsc2 : s = c := by omega
    obtain ⟨n1, n2, n3, n4, n5⟩ := hN hsc2
    rcases Nat.eq_zero_or_pos c with h0 | h0
    · subst hsc2
      subst h0
      have h1 := k_Jx4a65c_add_9ea2dB (D := D) (dT := dT) (Z := Z) (K := mK) (N := mN) (I := I) (Rr := Rr) (ad := ad) (L := L) l hl hlk 99999 hz (hc0 rfl) eN n1 n2 n3 n5 n4 hs x hxL hkx l8
      refine bi_imp h1 ?_
      rintro r u ⟨⟨q, rfl⟩, hr⟩
      refine ⟨(va_up ad eN q, L2, pf dT mK mN (up2 (up2 I l 0 (I l 0 + 1)) l 2 (nI (0 + 1))) R2 (va_up ad eN q)), ⟨fun i hi => ?_, hnd, fun i hi => ⟨rfl, pf_R ?_⟩⟩, ⟨va_up ad eN q, fun i hi => va_up_ne _ _ hi, rfl⟩, hr⟩
      · rcases hL2 i hi with q | ⟨-, q⟩
        · exact List.mem_append_left _ q
        · exact List.mem_append_right _ (List.mem_singleton.mpr q)
      · rw [hR2 i hi, adR, if_neg (by omega), if_pos rfl]
    · obtain ⟨e1, e2, e3, e4⟩ := hc h0
      have hN2 : mN eN = c + c / 2 := by rw [n4, ncap, if_neg (by omega), if_neg (by omega)]
      have h1 := k_Jx4a65c_add_9ea2dA (D := D) (dT := dT) (Z := Z) (K := mK) (N := mN) (I := I) (Rr := Rr) (ad := ad) (L := L) l hl hlk e e1 e2 e3 c e4 (by omega) hc6 eN n1 n2 n3 n5 hN2 kd C hC hel (hsc2 ▸ hs) x hxL hkx l8
      rw [show gC s c = 1 from if_neg (by omega), show gS s c = c + c / 2 by rw [gS, if_neg (by omega), ncap, if_neg (by omega), if_neg (by omega)]]
      refine bi_imp h1 ?_
      rintro r u ⟨⟨q, rfl⟩, hr⟩
      refine ⟨(va_up ad eN q, L2, pf dT mK mN (up2 (up2 I l 0 (I l 0 + 1)) l 2 (nI (s + 1))) R2 (va_up ad eN q)), ⟨fun i hi => ?_, hnd, fun i hi => ⟨rfl, ?_⟩⟩, ⟨va_up ad eN q, fun i hi => va_up_ne _ _ hi, rfl⟩, hr⟩
      · rcases hL2 i hi with q | ⟨-, q⟩
        · exact List.mem_append_left _ q
        · exact List.mem_append_right _ (List.mem_singleton.mpr q)
      · rw [hsc2]
        refine pf_R ?_
        rw [hR2 i hi, adR, if_neg (by omega), if_neg (by omega), hsc2]
def addS1 (S : SZ) : SZ := (S.1 + 1, S.2.1, S.2.2.1, ncap S.1 S.2.2.2.1, S.2.2.2.2.1, S.2.2.2.2.2)
def addS2 (S : SZ) : SZ := (S.1, S.2.1 + 1, S.2.2.1, S.2.2.2.1, ncap S.2.1 S.2.2.2.2.1, S.2.2.2.2.2)
def addS3 (S : SZ) : SZ := (S.1, S.2.1, S.2.2.1 + 1, S.2.2.2.1, S.2.2.2.2.1, ncap S.2.2.1 S.2.2.2.2.2)
theorem WS_1 {S : SZ} (hS : WS S) (h : S.1 < 4) : WS (addS1 S) := by
  obtain ⟨h1, h2, h3, h4, h5, h6, h7, h8, h9⟩ := hS
  refine ⟨by show S.1 + 1 ≤ 4; omega, h2, h3, ?_, h5, h6, ?_, h8, h9⟩
  · show S.1 + 1 ≤ ncap S.1 S.2.2.2.1
    unfold ncap
    rcases h7 with e | e <;> rw [e] at h4 ⊢
    · rw [if_neg (by omega), if_pos rfl]; omega
    · rw [if_pos (by omega)]; omega
  · show ncap S.1 S.2.2.2.1 = 0 ∨ ncap S.1 S.2.2.2.1 = 10
    unfold ncap
    rcases h7 with e | e <;> rw [e] at h4 ⊢
    · rw [if_neg (by omega), if_pos rfl]; exact Or.inr rfl
    · rw [if_pos (by omega)]; exact Or.inr rfl
theorem WS_2 {S : SZ} (hS : WS S) (h : S.2.1 < 40) : WS (addS2 S) := by
  obtain ⟨h1, h2, h3, h4, h5, h6, h7, h8, h9⟩ := hS
  simp only [List.mem_cons, List.not_mem_nil, or_false] at h8
  have hn : S.2.1 + 1 ≤ ncap S.2.1 S.2.2.2.2.1 ∧ (ncap S.2.1 S.2.2.2.2.1 = 0 ∨ ncap S.2.1 S.2.2.2.2.1 = 10 ∨ ncap S.2.1 S.2.2.2.2.1 = 15 ∨ ncap S.2.1 S.2.2.2.2.1 = 22 ∨ ncap S.2.1 S.2.2.2.2.1 = 33 ∨ ncap S.2.1 S.2.2.2.2.1 = 49) := by
    unfold ncap
    by_cases q : S.2.1 < S.2.2.2.2.1
    · rw [if_pos q]; exact ⟨by omega, h8⟩
    · rw [if_neg q]
      by_cases q0 : S.2.2.2.2.1 = 0
      · rw [if_pos q0]; omega
      · rw [if_neg q0]; omega
  refine ⟨h1, by show S.2.1 + 1 ≤ 40; omega, h3, h4, hn.1, h6, h7, ?_, h9⟩
  simp only [List.mem_cons, List.not_mem_nil, or_false]
  exact hn.2
theorem WS_3 {S : SZ} (hS : WS S) (h : S.2.2.1 < 300) : WS (addS3 S) := by
  obtain ⟨h1, h2, h3, h4, h5, h6, h7, h8, h9⟩ := hS
  simp only [List.mem_cons, List.not_mem_nil, or_false] at h9
  have hn : S.2.2.1 + 1 ≤ ncap S.2.2.1 S.2.2.2.2.2 ∧ (ncap S.2.2.1 S.2.2.2.2.2 = 0 ∨ ncap S.2.2.1 S.2.2.2.2.2 = 10 ∨ ncap S.2.2.1 S.2.2.2.2.2 = 15 ∨ ncap S.2.2.1 S.2.2.2.2.2 = 22 ∨ ncap S.2.2.1 S.2.2.2.2.2 = 33 ∨ ncap S.2.2.1 S.2.2.2.2.2 = 49 ∨ ncap S.2.2.1 S.2.2.2.2.2 = 73 ∨ ncap S.2.2.1 S.2.2.2.2.2 = 109 ∨ ncap S.2.2.1 S.2.2.2.2.2 = 163 ∨ ncap S.2.2.1 S.2.2.2.2.2 = 244 ∨ ncap S.2.2.1 S.2.2.2.2.2 = 366) := by
    unfold ncap
    by_cases q : S.2.2.1 < S.2.2.2.2.2
    · rw [if_pos q]; exact ⟨by omega, h9⟩
    · rw [if_neg q]
      by_cases q0 : S.2.2.2.2.2 = 0
      · rw [if_pos q0]; omega
      · rw [if_neg q0]; omega
  refine ⟨h1, h2, by show S.2.2.1 + 1 ≤ 300; omega, h4, h5, hn.1, h7, h8, ?_⟩
  simp only [List.mem_cons, List.not_mem_nil, or_false]
  exact hn.2
theorem mR_a1 {S : SZ} {i : Nat} (h : i ≠ 1) (h2 : ¬ (1000 ≤ i ∧ i < 2000)) : mR (addS1 S) i = mR S i := by
  funext k
  unfold mR
  rcases (show i < 1000 ∨ 2000 ≤ i by omega) with q | q
  · simp only [addS1, h, q, if_true, if_false]
    try rfl
  · have q1 : ¬ i < 1000 := by omega
    have q2 : ¬ i < 2000 := by omega
    simp only [addS1, h, q1, q2, if_false]
    try rfl
theorem mR_a2 {S : SZ} {i : Nat} (h : i ≠ 2) (h2 : ¬ (2000 ≤ i ∧ i < 3000)) : mR (addS2 S) i = mR S i := by
  funext k
  unfold mR
  rcases (show i < 2000 ∨ 3000 ≤ i by omega) with q | q
  · simp only [addS2, h, q, if_true, if_false]
    try rfl
  · have q1 : ¬ i < 2000 := by omega
    have q2 : ¬ i < 3000 := by omega
    simp only [addS2, h, q1, q2, if_false]
    try rfl
theorem mR_a3 {S : SZ} {i : Nat} (h : i ≠ 3) (h2 : ¬ (3000 ≤ i ∧ i < 4000)) : mR (addS3 S) i = mR S i := by
  funext k
  unfold mR
  rcases (show i < 3000 ∨ 4000 ≤ i by omega) with q | q
  · simp only [addS3, h, q, if_true, if_false]
    try rfl
  · have q1 : ¬ i < 3000 := by omega
    have q2 : ¬ i < 4000 := by omega
    simp only [addS3, h, q1, q2, if_false]
    try rfl
def zR (R : Nat → Nat → Option Nat) (n : Nat) : Nat → Nat → Option Nat := fun a => if a = n then fun _ => none else R a
theorem zR_n {R : Nat → Nat → Option Nat} {n a : Nat} (h : a ≠ n) : zR R n a = R a := if_neg h
theorem zR_s {R : Nat → Nat → Option Nat} {n : Nat} (k : Nat) : zR R n n k = none := by unfold zR; rw [if_pos rfl]
theorem k_add1 {D : va_G} {dT : Nat → ClassId} {Z : ZT} {ad : Nat → Nat} (M : Nat → Nat → Int32) (S : SZ) (hS : WS S) (hlt : S.1 < 4) (hw : M 1 2 = nI S.1) (hz : ad 99999 = Z.1) (L L2 : List Nat) (hLs : ∀ i ∈ mL S, i ∈ L) (hx : 5000 + S.1 ∈ L) (hL7 : ∀ i ∈ L, i < 1000 ∨ 2000 ≤ i ∨ i = 1000 + S.2.2.2.1) (hno : ∀ i ∈ L, ∀ k y, mR S i k = some y → y ∈ L ∨ y = 99999) (hnd : L2.Nodup) (hL2 : ∀ i ∈ L2, (i ∈ L ∨ i = 1000 + ncap S.1 S.2.2.2.1) ∧ (i < 1000 ∨ 2000 ≤ i ∨ i = 1000 + ncap S.1 S.2.2.2.1)) :
    ∀ l8, BI l8 yJx4a65c_add_9ea2d wsJx4a65c_add_9ea2d (rm_Jx4a65c_add_9ea2d (gC S.1 S.2.2.2.1) (gS S.1 S.2.2.2.1)) D (tyl dT) Z ad L (pf dT mK mN M (mR S) ad) [.ref (ad 1), .ref (ad (5000 + S.1))] (gC S.1 S.2.2.2.1) (gS S.1 S.2.2.2.1) (fun r u => (∃ ad2 : Nat → Nat, (∀ i, i < 1000 ∨ 2000 ≤ i → ad2 i = ad i) ∧ u = (ad2, L2, mf dT ad2 (up2 (up2 M 1 0 (M 1 0 + 1)) 1 2 (nI (S.1 + 1))) (addS1 S))) ∧ 1 = r) := by
  intro l8
  have hc9 := hS.c1
  have hsc : S.1 ≤ S.2.2.2.1 := hS.2.2.2.1
  have hc1 : S.2.2.2.1 ≠ 1 := by
    have := hS.2.2.2.2.2.2.1
    skip
    omega
  have hn6 : ncap S.1 S.2.2.2.1 < 1000 ∧ 0 < ncap S.1 S.2.2.2.1 ∧ (S.1 = S.2.2.2.1 → S.2.2.2.1 < ncap S.1 S.2.2.2.1) := by
    unfold ncap
    by_cases q : S.1 < S.2.2.2.1
    · rw [if_pos q]; omega
    · rw [if_neg q]
      by_cases q0 : S.2.2.2.1 = 0
      · rw [if_pos q0]; omega
      · rw [if_neg q0]; omega
  have hl : 1 ∈ L := hLs _ (m_lo (by decide))
  have hfin : ∀ r u, ((∃ ad2 : Nat → Nat, (∀ i, i ≠ 1000 + ncap S.1 S.2.2.2.1 → ad2 i = ad i) ∧ u = (ad2, L2, pf dT mK mN (up2 (up2 M 1 0 (M 1 0 + 1)) 1 2 (nI (S.1 + 1))) (mR (addS1 S)) ad2)) ∧ (1 : Int32) = r) → ∃ u2, UC u u2 ∧ ((∃ ad2 : Nat → Nat, (∀ i, i < 1000 ∨ 2000 ≤ i → ad2 i = ad i) ∧ u2 = (ad2, L2, mf dT ad2 (up2 (up2 M 1 0 (M 1 0 + 1)) 1 2 (nI (S.1 + 1))) (addS1 S))) ∧ 1 = r) := by
    rintro r u ⟨⟨ad2, ha, rfl⟩, hr⟩
    exact ⟨_, ⟨fun _ h => h, hnd, fun _ _ => ⟨rfl, rfl⟩⟩, ⟨ad2, fun i hi => ha i (by omega), rfl⟩, hr⟩
  have hel : ∀ k, k < S.2.2.2.1 → ∀ y, mR S (1000 + S.2.2.2.1) k = some y → y ∈ L ∧ mK y = 26 := fun k hk y hy => by
    rw [mR_1 (by omega)] at hy
    by_cases q : k < S.1
    · rw [if_pos q] at hy; cases hy; exact ⟨hLs _ (m_o hS q), (mK_o (by omega))⟩
    · rw [if_neg q] at hy; cases hy
  rcases Nat.lt_or_ge S.1 S.2.2.2.1 with q | q
  · have en : ncap S.1 S.2.2.2.1 = S.2.2.2.1 := if_pos q
    refine bi_imp (v_add (D := D) (dT := dT) (Z := Z) (I := M) (Rr := mR S) (ad := ad) (L := L) 1 S.2.2.2.1 S.1 (1000 + S.2.2.2.1) (1000 + ncap S.1 S.2.2.2.1) (5000 + S.1) hl rfl hw hsc hc1 (by omega) (fun h => ⟨hLs _ (m_e1 hS h), mK_e (by omega) (by omega), mR_11 h, mN_1 hS⟩) (fun h => absurd h (by omega)) hz (fun h => absurd h (by omega)) 26 "[[Z" (Or.inr ⟨rfl, rfl⟩) hel hx (Or.inr (mK_o (by omega))) L2 (mR (addS1 S)) hnd (fun i hi => ?_) (fun i hi => ?_) l8) hfin
    · rcases (hL2 i hi).1 with w | w
      · exact Or.inl w
      · refine Or.inl ?_
        rw [w, en]
        exact hLs _ (m_e1 hS (by omega))
    · funext k
      have hw2 := (hL2 i hi).2
      unfold adR
      rw [if_pos q]
      by_cases h1 : i = 1
      · subst h1
        rw [up2_row (by omega)]
        show (if k = 1 then mE 1 (ncap S.1 S.2.2.2.1) else none) = _
        rw [en]; rfl
      · by_cases h2 : i = 1000 + S.2.2.2.1
        · subst h2
          rw [show 1000 + S.2.2.2.1 = 1000 + (addS1 S).2.2.2.1 from by rw [show (addS1 S).2.2.2.1 = ncap S.1 S.2.2.2.1 from rfl, en], mR_1 (by show ncap S.1 S.2.2.2.1 < 1000; omega), show (addS1 S).1 = S.1 + 1 from rfl]
          rw [show 1000 + (addS1 S).2.2.2.1 = 1000 + S.2.2.2.1 from by rw [show (addS1 S).2.2.2.1 = ncap S.1 S.2.2.2.1 from rfl, en]]
          by_cases hk : k = S.1
          · subst hk; rw [up2_s, if_pos (Nat.lt_succ_self _)]
          · rw [up2_n (Or.inr hk), mR_1 (by omega)]
            by_cases hk2 : k < S.1
            · rw [if_pos hk2, if_pos (by omega)]
            · rw [if_neg hk2, if_neg (by omega)]
        · rw [up2_row h2, mR_a1 h1 (by omega)]
  · have hsc2 : S.1 = S.2.2.2.1 := by omega
    have hgt := hn6.2.2 hsc2
    have hnl : 1000 + ncap S.1 S.2.2.2.1 ∉ L := fun w => by rcases hL7 _ w with z | z | z <;> omega
    refine bi_f (f := pf dT mK mN M (zR (mR S) (1000 + ncap S.1 S.2.2.2.1)) ad) (fun i hi => pf_R (zR_n (fun w => hnl (w ▸ hi)))) ?_
    refine bi_imp (v_add (D := D) (dT := dT) (Z := Z) (I := M) (Rr := zR (mR S) (1000 + ncap S.1 S.2.2.2.1)) (ad := ad) (L := L) 1 S.2.2.2.1 S.1 (1000 + S.2.2.2.1) (1000 + ncap S.1 S.2.2.2.1) (5000 + S.1) hl rfl hw hsc hc1 (by omega) (fun h => ⟨hLs _ (m_e1 hS h), mK_e (by omega) (by omega), (congrFun (zR_n (by omega)) 1).trans (mR_11 h), mN_1 hS⟩) (fun h => (congrFun (zR_n (by omega)) 1).trans (by show mE 1 S.2.2.2.1 = _; rw [h]; rfl)) hz (fun h => ⟨hnl, fun i hi k w => ?_, mK_e (by omega) (by omega), ?_, fun k => zR_s k⟩) 26 "[[Z" (Or.inr ⟨rfl, rfl⟩) (fun k hk y hy => hel k hk y ((congrFun (zR_n (by omega)) k).symm.trans hy)) hx (Or.inr (mK_o (by omega))) L2 (mR (addS1 S)) hnd (fun i hi => ?_) (fun i hi => ?_) l8) hfin
    · rw [zR_n (a := i) (fun w => hnl (by rw [← w]; exact hi))] at w
      rcases hno i hi k _ w with w | w
      · exact hnl w
      · omega
    · have := mN_e (j := 1) (c := ncap S.1 S.2.2.2.1) (by omega) (by omega) (by omega)
      rw [Nat.mul_one] at this
      exact this
    · rcases (hL2 i hi).1 with w | w
      · exact Or.inl w
      · exact Or.inr ⟨hsc2, w⟩
    · funext k
      have hw2 := (hL2 i hi).2
      unfold adR
      rw [if_neg (by omega)]
      have lhs3 : ∀ k, mR (addS1 S) 1 k = if k = 1 then some (1000 + ncap S.1 S.2.2.2.1) else none := fun k => by
        show (if k = 1 then mE 1 (ncap S.1 S.2.2.2.1) else none) = _
        rw [mE_p (by omega)]
      have lhsE : ∀ k, mR (addS1 S) (1000 + ncap S.1 S.2.2.2.1) k = if k < S.1 + 1 then some (5000 + k) else none := fun k => mR_1 (S := addS1 S) (c := ncap S.1 S.2.2.2.1) (by omega)
      by_cases q0 : S.2.2.2.1 = 0
      · rw [if_pos q0]
        by_cases h2 : i = 1000 + ncap S.1 S.2.2.2.1
        · subst h2
          rw [lhsE]
          by_cases hk : k = 0
          · subst hk; rw [up2_s, if_pos (by omega)]; congr 1; omega
          · rw [up2_n (Or.inr hk), up2_row (by omega), zR_s, if_neg (by omega)]
        · rw [up2_row h2]
          by_cases h1 : i = 1
          · subst h1
            rw [lhs3]
            by_cases hk : k = 1
            · subst hk; rw [up2_s, if_pos rfl]
            · rw [up2_n (Or.inr hk), if_neg hk, zR_n (by omega)]
              show none = (if k = 1 then _ else none)
              rw [if_neg hk]
          · rw [up2_row h1, mR_a1 h1 (by omega), zR_n h2]
      · rw [if_neg q0]
        by_cases h2 : i = 1000 + ncap S.1 S.2.2.2.1
        · subst h2
          rw [lhsE]
          by_cases hk : k = S.1
          · subst hk; rw [up2_s, if_pos (Nat.lt_succ_self _)]
          · rw [up2_n (Or.inr hk), up2_row (by omega), if_pos rfl, mN_1 hS, zR_n (by omega), mR_1 (by omega), zR_s]
            by_cases hk2 : k < S.1
            · rw [if_pos (by omega), if_pos (by omega), if_pos hk2]
            · rw [if_neg (by omega)]
              by_cases hk3 : k < S.2.2.2.1
              · omega
              · rw [if_neg hk3]
        · rw [up2_row h2]
          by_cases h1 : i = 1
          · subst h1
            rw [lhs3]
            by_cases hk : k = 1
            · subst hk; rw [up2_s, if_pos rfl]
            · rw [up2_n (Or.inr hk), if_neg hk, if_neg (by omega), zR_n (by omega)]
              show none = (if k = 1 then _ else none)
              rw [if_neg hk]
          · rw [up2_row h1, if_neg h2, mR_a1 h1 (by omega), zR_n h2]
theorem k_add2 {D : va_G} {dT : Nat → ClassId} {Z : ZT} {ad : Nat → Nat} (M : Nat → Nat → Int32) (S : SZ) (hS : WS S) (hlt : S.2.1 < 40) (hw : M 2 2 = nI S.2.1) (hz : ad 99999 = Z.1) (L L2 : List Nat) (hLs : ∀ i ∈ mL S, i ∈ L) (hx : 7000 + S.2.1 ∈ L) (hL7 : ∀ i ∈ L, i < 2000 ∨ 3000 ≤ i ∨ i = 2000 + S.2.2.2.2.1) (hno : ∀ i ∈ L, ∀ k y, mR S i k = some y → y ∈ L ∨ y = 99999) (hnd : L2.Nodup) (hL2 : ∀ i ∈ L2, (i ∈ L ∨ i = 2000 + ncap S.2.1 S.2.2.2.2.1) ∧ (i < 2000 ∨ 3000 ≤ i ∨ i = 2000 + ncap S.2.1 S.2.2.2.2.1)) :
    ∀ l8, BI l8 yJx4a65c_add_9ea2d wsJx4a65c_add_9ea2d (rm_Jx4a65c_add_9ea2d (gC S.2.1 S.2.2.2.2.1) (gS S.2.1 S.2.2.2.2.1)) D (tyl dT) Z ad L (pf dT mK mN M (mR S) ad) [.ref (ad 2), .ref (ad (7000 + S.2.1))] (gC S.2.1 S.2.2.2.2.1) (gS S.2.1 S.2.2.2.2.1) (fun r u => (∃ ad2 : Nat → Nat, (∀ i, i < 2000 ∨ 3000 ≤ i → ad2 i = ad i) ∧ u = (ad2, L2, mf dT ad2 (up2 (up2 M 2 0 (M 2 0 + 1)) 2 2 (nI (S.2.1 + 1))) (addS2 S))) ∧ 1 = r) := by
  intro l8
  have hc9 := hS.c2
  have hsc : S.2.1 ≤ S.2.2.2.2.1 := hS.2.2.2.2.1
  have hc1 : S.2.2.2.2.1 ≠ 1 := by
    have := hS.2.2.2.2.2.2.2.1
    simp only [List.mem_cons, List.not_mem_nil, or_false] at this
    omega
  have hn6 : ncap S.2.1 S.2.2.2.2.1 < 1000 ∧ 0 < ncap S.2.1 S.2.2.2.2.1 ∧ (S.2.1 = S.2.2.2.2.1 → S.2.2.2.2.1 < ncap S.2.1 S.2.2.2.2.1) := by
    unfold ncap
    by_cases q : S.2.1 < S.2.2.2.2.1
    · rw [if_pos q]; omega
    · rw [if_neg q]
      by_cases q0 : S.2.2.2.2.1 = 0
      · rw [if_pos q0]; omega
      · rw [if_neg q0]; omega
  have hl : 2 ∈ L := hLs _ (m_lo (by decide))
  have hfin : ∀ r u, ((∃ ad2 : Nat → Nat, (∀ i, i ≠ 2000 + ncap S.2.1 S.2.2.2.2.1 → ad2 i = ad i) ∧ u = (ad2, L2, pf dT mK mN (up2 (up2 M 2 0 (M 2 0 + 1)) 2 2 (nI (S.2.1 + 1))) (mR (addS2 S)) ad2)) ∧ (1 : Int32) = r) → ∃ u2, UC u u2 ∧ ((∃ ad2 : Nat → Nat, (∀ i, i < 2000 ∨ 3000 ≤ i → ad2 i = ad i) ∧ u2 = (ad2, L2, mf dT ad2 (up2 (up2 M 2 0 (M 2 0 + 1)) 2 2 (nI (S.2.1 + 1))) (addS2 S))) ∧ 1 = r) := by
    rintro r u ⟨⟨ad2, ha, rfl⟩, hr⟩
    exact ⟨_, ⟨fun _ h => h, hnd, fun _ _ => ⟨rfl, rfl⟩⟩, ⟨ad2, fun i hi => ha i (by omega), rfl⟩, hr⟩
  have hel : ∀ k, k < S.2.2.2.2.1 → ∀ y, mR S (2000 + S.2.2.2.2.1) k = some y → y ∈ L ∧ mK y = 20 := fun k hk y hy => by
    rw [mR_2 (by omega)] at hy
    by_cases q : k < S.2.1
    · rw [if_pos q] at hy; cases hy; exact ⟨hLs _ (m_n hS q), (mK_h (by omega))⟩
    · rw [if_neg q] at hy; cases hy
  rcases Nat.lt_or_ge S.2.1 S.2.2.2.2.1 with q | q
  · have en : ncap S.2.1 S.2.2.2.2.1 = S.2.2.2.2.1 := if_pos q
    refine bi_imp (v_add (D := D) (dT := dT) (Z := Z) (I := M) (Rr := mR S) (ad := ad) (L := L) 2 S.2.2.2.2.1 S.2.1 (2000 + S.2.2.2.2.1) (2000 + ncap S.2.1 S.2.2.2.2.1) (7000 + S.2.1) hl rfl hw hsc hc1 (by omega) (fun h => ⟨hLs _ (m_e2 hS h), mK_e (by omega) (by omega), mR_21 h, mN_2 hS⟩) (fun h => absurd h (by omega)) hz (fun h => absurd h (by omega)) 20 "[I" (Or.inl ⟨rfl, rfl⟩) hel hx (Or.inl (mK_h (by omega))) L2 (mR (addS2 S)) hnd (fun i hi => ?_) (fun i hi => ?_) l8) hfin
    · rcases (hL2 i hi).1 with w | w
      · exact Or.inl w
      · refine Or.inl ?_
        rw [w, en]
        exact hLs _ (m_e2 hS (by omega))
    · funext k
      have hw2 := (hL2 i hi).2
      unfold adR
      rw [if_pos q]
      by_cases h1 : i = 2
      · subst h1
        rw [up2_row (by omega)]
        show (if k = 1 then mE 2 (ncap S.2.1 S.2.2.2.2.1) else none) = _
        rw [en]; rfl
      · by_cases h2 : i = 2000 + S.2.2.2.2.1
        · subst h2
          rw [show 2000 + S.2.2.2.2.1 = 2000 + (addS2 S).2.2.2.2.1 from by rw [show (addS2 S).2.2.2.2.1 = ncap S.2.1 S.2.2.2.2.1 from rfl, en], mR_2 (by show ncap S.2.1 S.2.2.2.2.1 < 1000; omega), show (addS2 S).2.1 = S.2.1 + 1 from rfl]
          rw [show 2000 + (addS2 S).2.2.2.2.1 = 2000 + S.2.2.2.2.1 from by rw [show (addS2 S).2.2.2.2.1 = ncap S.2.1 S.2.2.2.2.1 from rfl, en]]
          by_cases hk : k = S.2.1
          · subst hk; rw [up2_s, if_pos (Nat.lt_succ_self _)]
          · rw [up2_n (Or.inr hk), mR_2 (by omega)]
            by_cases hk2 : k < S.2.1
            · rw [if_pos hk2, if_pos (by omega)]
            · rw [if_neg hk2, if_neg (by omega)]
        · rw [up2_row h2, mR_a2 h1 (by omega)]
  · have hsc2 : S.2.1 = S.2.2.2.2.1 := by omega
    have hgt := hn6.2.2 hsc2
    have hnl : 2000 + ncap S.2.1 S.2.2.2.2.1 ∉ L := fun w => by rcases hL7 _ w with z | z | z <;> omega
    refine bi_f (f := pf dT mK mN M (zR (mR S) (2000 + ncap S.2.1 S.2.2.2.2.1)) ad) (fun i hi => pf_R (zR_n (fun w => hnl (w ▸ hi)))) ?_
    refine bi_imp (v_add (D := D) (dT := dT) (Z := Z) (I := M) (Rr := zR (mR S) (2000 + ncap S.2.1 S.2.2.2.2.1)) (ad := ad) (L := L) 2 S.2.2.2.2.1 S.2.1 (2000 + S.2.2.2.2.1) (2000 + ncap S.2.1 S.2.2.2.2.1) (7000 + S.2.1) hl rfl hw hsc hc1 (by omega) (fun h => ⟨hLs _ (m_e2 hS h), mK_e (by omega) (by omega), (congrFun (zR_n (by omega)) 1).trans (mR_21 h), mN_2 hS⟩) (fun h => (congrFun (zR_n (by omega)) 1).trans (by show mE 2 S.2.2.2.2.1 = _; rw [h]; rfl)) hz (fun h => ⟨hnl, fun i hi k w => ?_, mK_e (by omega) (by omega), ?_, fun k => zR_s k⟩) 20 "[I" (Or.inl ⟨rfl, rfl⟩) (fun k hk y hy => hel k hk y ((congrFun (zR_n (by omega)) k).symm.trans hy)) hx (Or.inl (mK_h (by omega))) L2 (mR (addS2 S)) hnd (fun i hi => ?_) (fun i hi => ?_) l8) hfin
    · rw [zR_n (a := i) (fun w => hnl (by rw [← w]; exact hi))] at w
      rcases hno i hi k _ w with w | w
      · exact hnl w
      · omega
    · have := mN_e (j := 2) (c := ncap S.2.1 S.2.2.2.2.1) (by omega) (by omega) (by omega)
      rw [show 1000 * 2 = 2000 from rfl] at this
      exact this
    · rcases (hL2 i hi).1 with w | w
      · exact Or.inl w
      · exact Or.inr ⟨hsc2, w⟩
    · funext k
      have hw2 := (hL2 i hi).2
      unfold adR
      rw [if_neg (by omega)]
      have lhs3 : ∀ k, mR (addS2 S) 2 k = if k = 1 then some (2000 + ncap S.2.1 S.2.2.2.2.1) else none := fun k => by
        show (if k = 1 then mE 2 (ncap S.2.1 S.2.2.2.2.1) else none) = _
        rw [mE_p (by omega)]
      have lhsE : ∀ k, mR (addS2 S) (2000 + ncap S.2.1 S.2.2.2.2.1) k = if k < S.2.1 + 1 then some (7000 + k) else none := fun k => mR_2 (S := addS2 S) (c := ncap S.2.1 S.2.2.2.2.1) (by omega)
      by_cases q0 : S.2.2.2.2.1 = 0
      · rw [if_pos q0]
        by_cases h2 : i = 2000 + ncap S.2.1 S.2.2.2.2.1
        · subst h2
          rw [lhsE]
          by_cases hk : k = 0
          · subst hk; rw [up2_s, if_pos (by omega)]; congr 1; omega
          · rw [up2_n (Or.inr hk), up2_row (by omega), zR_s, if_neg (by omega)]
        · rw [up2_row h2]
          by_cases h1 : i = 2
          · subst h1
            rw [lhs3]
            by_cases hk : k = 1
            · subst hk; rw [up2_s, if_pos rfl]
            · rw [up2_n (Or.inr hk), if_neg hk, zR_n (by omega)]
              show none = (if k = 1 then _ else none)
              rw [if_neg hk]
          · rw [up2_row h1, mR_a2 h1 (by omega), zR_n h2]
      · rw [if_neg q0]
        by_cases h2 : i = 2000 + ncap S.2.1 S.2.2.2.2.1
        · subst h2
          rw [lhsE]
          by_cases hk : k = S.2.1
          · subst hk; rw [up2_s, if_pos (Nat.lt_succ_self _)]
          · rw [up2_n (Or.inr hk), up2_row (by omega), if_pos rfl, mN_2 hS, zR_n (by omega), mR_2 (by omega), zR_s]
            by_cases hk2 : k < S.2.1
            · rw [if_pos (by omega), if_pos (by omega), if_pos hk2]
            · rw [if_neg (by omega)]
              by_cases hk3 : k < S.2.2.2.2.1
              · omega
              · rw [if_neg hk3]
        · rw [up2_row h2]
          by_cases h1 : i = 2
          · subst h1
            rw [lhs3]
            by_cases hk : k = 1
            · subst hk; rw [up2_s, if_pos rfl]
            · rw [up2_n (Or.inr hk), if_neg hk, if_neg (by omega), zR_n (by omega)]
              show none = (if k = 1 then _ else none)
              rw [if_neg hk]
          · rw [up2_row h1, if_neg h2, mR_a2 h1 (by omega), zR_n h2]
theorem k_add3 {D : va_G} {dT : Nat → ClassId} {Z : ZT} {ad : Nat → Nat} (M : Nat → Nat → Int32) (S : SZ) (hS : WS S) (hlt : S.2.2.1 < 300) (hw : M 3 2 = nI S.2.2.1) (hz : ad 99999 = Z.1) (L L2 : List Nat) (hLs : ∀ i ∈ mL S, i ∈ L) (hx : 8000 + S.2.2.1 ∈ L) (hL7 : ∀ i ∈ L, i < 3000 ∨ 4000 ≤ i ∨ i = 3000 + S.2.2.2.2.2) (hno : ∀ i ∈ L, ∀ k y, mR S i k = some y → y ∈ L ∨ y = 99999) (hnd : L2.Nodup) (hL2 : ∀ i ∈ L2, (i ∈ L ∨ i = 3000 + ncap S.2.2.1 S.2.2.2.2.2) ∧ (i < 3000 ∨ 4000 ≤ i ∨ i = 3000 + ncap S.2.2.1 S.2.2.2.2.2)) :
    ∀ l8, BI l8 yJx4a65c_add_9ea2d wsJx4a65c_add_9ea2d (rm_Jx4a65c_add_9ea2d (gC S.2.2.1 S.2.2.2.2.2) (gS S.2.2.1 S.2.2.2.2.2)) D (tyl dT) Z ad L (pf dT mK mN M (mR S) ad) [.ref (ad 3), .ref (ad (8000 + S.2.2.1))] (gC S.2.2.1 S.2.2.2.2.2) (gS S.2.2.1 S.2.2.2.2.2) (fun r u => (∃ ad2 : Nat → Nat, (∀ i, i < 3000 ∨ 4000 ≤ i → ad2 i = ad i) ∧ u = (ad2, L2, mf dT ad2 (up2 (up2 M 3 0 (M 3 0 + 1)) 3 2 (nI (S.2.2.1 + 1))) (addS3 S))) ∧ 1 = r) := by
  intro l8
  have hc9 := hS.c3
  have hsc : S.2.2.1 ≤ S.2.2.2.2.2 := hS.2.2.2.2.2.1
  have hc1 : S.2.2.2.2.2 ≠ 1 := by
    have := hS.2.2.2.2.2.2.2.2
    simp only [List.mem_cons, List.not_mem_nil, or_false] at this
    omega
  have hn6 : ncap S.2.2.1 S.2.2.2.2.2 < 1000 ∧ 0 < ncap S.2.2.1 S.2.2.2.2.2 ∧ (S.2.2.1 = S.2.2.2.2.2 → S.2.2.2.2.2 < ncap S.2.2.1 S.2.2.2.2.2) := by
    unfold ncap
    by_cases q : S.2.2.1 < S.2.2.2.2.2
    · rw [if_pos q]; omega
    · rw [if_neg q]
      by_cases q0 : S.2.2.2.2.2 = 0
      · rw [if_pos q0]; omega
      · rw [if_neg q0]; omega
  have hl : 3 ∈ L := hLs _ (m_lo (by decide))
  have hfin : ∀ r u, ((∃ ad2 : Nat → Nat, (∀ i, i ≠ 3000 + ncap S.2.2.1 S.2.2.2.2.2 → ad2 i = ad i) ∧ u = (ad2, L2, pf dT mK mN (up2 (up2 M 3 0 (M 3 0 + 1)) 3 2 (nI (S.2.2.1 + 1))) (mR (addS3 S)) ad2)) ∧ (1 : Int32) = r) → ∃ u2, UC u u2 ∧ ((∃ ad2 : Nat → Nat, (∀ i, i < 3000 ∨ 4000 ≤ i → ad2 i = ad i) ∧ u2 = (ad2, L2, mf dT ad2 (up2 (up2 M 3 0 (M 3 0 + 1)) 3 2 (nI (S.2.2.1 + 1))) (addS3 S))) ∧ 1 = r) := by
    rintro r u ⟨⟨ad2, ha, rfl⟩, hr⟩
    exact ⟨_, ⟨fun _ h => h, hnd, fun _ _ => ⟨rfl, rfl⟩⟩, ⟨ad2, fun i hi => ha i (by omega), rfl⟩, hr⟩
  have hel : ∀ k, k < S.2.2.2.2.2 → ∀ y, mR S (3000 + S.2.2.2.2.2) k = some y → y ∈ L ∧ mK y = 20 := fun k hk y hy => by
    rw [mR_3 (by omega)] at hy
    by_cases q : k < S.2.2.1
    · rw [if_pos q] at hy; cases hy; exact ⟨hLs _ (m_s hS q), (mK_h (by omega))⟩
    · rw [if_neg q] at hy; cases hy
  rcases Nat.lt_or_ge S.2.2.1 S.2.2.2.2.2 with q | q
  · have en : ncap S.2.2.1 S.2.2.2.2.2 = S.2.2.2.2.2 := if_pos q
    refine bi_imp (v_add (D := D) (dT := dT) (Z := Z) (I := M) (Rr := mR S) (ad := ad) (L := L) 3 S.2.2.2.2.2 S.2.2.1 (3000 + S.2.2.2.2.2) (3000 + ncap S.2.2.1 S.2.2.2.2.2) (8000 + S.2.2.1) hl rfl hw hsc hc1 (by omega) (fun h => ⟨hLs _ (m_e3 hS h), mK_e (by omega) (by omega), mR_31 h, mN_3 hS⟩) (fun h => absurd h (by omega)) hz (fun h => absurd h (by omega)) 20 "[I" (Or.inl ⟨rfl, rfl⟩) hel hx (Or.inl (mK_h (by omega))) L2 (mR (addS3 S)) hnd (fun i hi => ?_) (fun i hi => ?_) l8) hfin
    · rcases (hL2 i hi).1 with w | w
      · exact Or.inl w
      · refine Or.inl ?_
        rw [w, en]
        exact hLs _ (m_e3 hS (by omega))
    · funext k
      have hw2 := (hL2 i hi).2
      unfold adR
      rw [if_pos q]
      by_cases h1 : i = 3
      · subst h1
        rw [up2_row (by omega)]
        show (if k = 1 then mE 3 (ncap S.2.2.1 S.2.2.2.2.2) else none) = _
        rw [en]; rfl
      · by_cases h2 : i = 3000 + S.2.2.2.2.2
        · subst h2
          rw [show 3000 + S.2.2.2.2.2 = 3000 + (addS3 S).2.2.2.2.2 from by rw [show (addS3 S).2.2.2.2.2 = ncap S.2.2.1 S.2.2.2.2.2 from rfl, en], mR_3 (by show ncap S.2.2.1 S.2.2.2.2.2 < 1000; omega), show (addS3 S).2.2.1 = S.2.2.1 + 1 from rfl]
          rw [show 3000 + (addS3 S).2.2.2.2.2 = 3000 + S.2.2.2.2.2 from by rw [show (addS3 S).2.2.2.2.2 = ncap S.2.2.1 S.2.2.2.2.2 from rfl, en]]
          by_cases hk : k = S.2.2.1
          · subst hk; rw [up2_s, if_pos (Nat.lt_succ_self _)]
          · rw [up2_n (Or.inr hk), mR_3 (by omega)]
            by_cases hk2 : k < S.2.2.1
            · rw [if_pos hk2, if_pos (by omega)]
            · rw [if_neg hk2, if_neg (by omega)]
        · rw [up2_row h2, mR_a3 h1 (by omega)]
  · have hsc2 : S.2.2.1 = S.2.2.2.2.2 := by omega
    have hgt := hn6.2.2 hsc2
    have hnl : 3000 + ncap S.2.2.1 S.2.2.2.2.2 ∉ L := fun w => by rcases hL7 _ w with z | z | z <;> omega
    refine bi_f (f := pf dT mK mN M (zR (mR S) (3000 + ncap S.2.2.1 S.2.2.2.2.2)) ad) (fun i hi => pf_R (zR_n (fun w => hnl (w ▸ hi)))) ?_
    refine bi_imp (v_add (D := D) (dT := dT) (Z := Z) (I := M) (Rr := zR (mR S) (3000 + ncap S.2.2.1 S.2.2.2.2.2)) (ad := ad) (L := L) 3 S.2.2.2.2.2 S.2.2.1 (3000 + S.2.2.2.2.2) (3000 + ncap S.2.2.1 S.2.2.2.2.2) (8000 + S.2.2.1) hl rfl hw hsc hc1 (by omega) (fun h => ⟨hLs _ (m_e3 hS h), mK_e (by omega) (by omega), (congrFun (zR_n (by omega)) 1).trans (mR_31 h), mN_3 hS⟩) (fun h => (congrFun (zR_n (by omega)) 1).trans (by show mE 3 S.2.2.2.2.2 = _; rw [h]; rfl)) hz (fun h => ⟨hnl, fun i hi k w => ?_, mK_e (by omega) (by omega), ?_, fun k => zR_s k⟩) 20 "[I" (Or.inl ⟨rfl, rfl⟩) (fun k hk y hy => hel k hk y ((congrFun (zR_n (by omega)) k).symm.trans hy)) hx (Or.inl (mK_h (by omega))) L2 (mR (addS3 S)) hnd (fun i hi => ?_) (fun i hi => ?_) l8) hfin
    · rw [zR_n (a := i) (fun w => hnl (by rw [← w]; exact hi))] at w
      rcases hno i hi k _ w with w | w
      · exact hnl w
      · omega
    · have := mN_e (j := 3) (c := ncap S.2.2.1 S.2.2.2.2.2) (by omega) (by omega) (by omega)
      rw [show 1000 * 3 = 3000 from rfl] at this
      exact this
    · rcases (hL2 i hi).1 with w | w
      · exact Or.inl w
      · exact Or.inr ⟨hsc2, w⟩
    · funext k
      have hw2 := (hL2 i hi).2
      unfold adR
      rw [if_neg (by omega)]
      have lhs3 : ∀ k, mR (addS3 S) 3 k = if k = 1 then some (3000 + ncap S.2.2.1 S.2.2.2.2.2) else none := fun k => by
        show (if k = 1 then mE 3 (ncap S.2.2.1 S.2.2.2.2.2) else none) = _
        rw [mE_p (by omega)]
      have lhsE : ∀ k, mR (addS3 S) (3000 + ncap S.2.2.1 S.2.2.2.2.2) k = if k < S.2.2.1 + 1 then some (8000 + k) else none := fun k => mR_3 (S := addS3 S) (c := ncap S.2.2.1 S.2.2.2.2.2) (by omega)
      by_cases q0 : S.2.2.2.2.2 = 0
      · rw [if_pos q0]
        by_cases h2 : i = 3000 + ncap S.2.2.1 S.2.2.2.2.2
        · subst h2
          rw [lhsE]
          by_cases hk : k = 0
          · subst hk; rw [up2_s, if_pos (by omega)]; congr 1; omega
          · rw [up2_n (Or.inr hk), up2_row (by omega), zR_s, if_neg (by omega)]
        · rw [up2_row h2]
          by_cases h1 : i = 3
          · subst h1
            rw [lhs3]
            by_cases hk : k = 1
            · subst hk; rw [up2_s, if_pos rfl]
            · rw [up2_n (Or.inr hk), if_neg hk, zR_n (by omega)]
              show none = (if k = 1 then _ else none)
              rw [if_neg hk]
          · rw [up2_row h1, mR_a3 h1 (by omega), zR_n h2]
      · rw [if_neg q0]
        by_cases h2 : i = 3000 + ncap S.2.2.1 S.2.2.2.2.2
        · subst h2
          rw [lhsE]
          by_cases hk : k = S.2.2.1
          · subst hk; rw [up2_s, if_pos (Nat.lt_succ_self _)]
          · rw [up2_n (Or.inr hk), up2_row (by omega), if_pos rfl, mN_3 hS, zR_n (by omega), mR_3 (by omega), zR_s]
            by_cases hk2 : k < S.2.2.1
            · rw [if_pos (by omega), if_pos (by omega), if_pos hk2]
            · rw [if_neg (by omega)]
              by_cases hk3 : k < S.2.2.2.2.2
              · omega
              · rw [if_neg hk3]
        · rw [up2_row h2]
          by_cases h1 : i = 3
          · subst h1
            rw [lhs3]
            by_cases hk : k = 1
            · subst hk; rw [up2_s, if_pos rfl]
            · rw [up2_n (Or.inr hk), if_neg hk, if_neg (by omega), zR_n (by omega)]
              show none = (if k = 1 then _ else none)
              rw [if_neg hk]
          · rw [up2_row h1, if_neg h2, mR_a3 h1 (by omega), zR_n h2]
