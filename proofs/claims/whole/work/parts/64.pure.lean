/-! the relation of the class (I) and the reference (M, S): rolls -/
def RR (I M : Nat → Nat → Int32) (S : SZ) : Prop := I 0 6 = nI S.1 ∧ S.1 ≤ 4 ∧ ∀ j, j < 4 → ∀ r, r < 200 → ∃ x, x < 65536 ∧ I (8 + j) r = nI x ∧ (S.1 ≤ j → x = 0) ∧ (j < S.1 → ∀ t, t < 16 → M (6000 + 200 * j + r) t = nI (bt x t))
theorem lt_L {m n : Nat} {c : Int32} (hc : c = nI n) (hm : m < 2 ^ 31) (hn : n < 2 ^ 31) : nI m < c ↔ m < n := by subst hc; exact nI_ltI hm hn
theorem gt_L {m n : Nat} {c : Int32} (hc : c = nI n) (hm : m < 2 ^ 31) (hn : n < 2 ^ 31) : c < nI m ↔ n < m := by subst hc; exact nI_ltI hn hm
theorem le_L {m n : Nat} {c : Int32} (hc : c = nI n) (hm : m < 2 ^ 31) (hn : n < 2 ^ 31) : nI m ≤ c ↔ m ≤ n := by subst hc; exact nI_leI hm hn
theorem ge_L {m n : Nat} {c : Int32} (hc : c = nI n) (hm : m < 2 ^ 31) (hn : n < 2 ^ 31) : c ≤ nI m ↔ n ≤ m := by subst hc; exact nI_leI hn hm
theorem RR_c {I J M M2 : Nat → Nat → Int32} {S S2 : SZ} (h : RR I M S) (h1 : J 0 6 = I 0 6) (h2 : ∀ j, j < 4 → J (8 + j) = I (8 + j)) (h3 : ∀ a, 6000 ≤ a → a < 6800 → M2 a = M a) (h4 : S2.1 = S.1) : RR J M2 S2 := by
  refine ⟨h1.trans (h4 ▸ h.1), h4 ▸ h.2.1, fun j hj r hr => ?_⟩
  obtain ⟨x, hx, e1, e2, e3⟩ := h.2.2 j hj r hr
  refine ⟨x, hx, by rw [h2 j hj]; exact e1, by rw [h4]; exact e2, fun q t ht => ?_⟩
  rw [h3 _ (by omega) (by omega)]
  exact e3 (h4 ▸ q) t ht
theorem nI_bt01 (x t : Nat) : nI (bt x t) = 0 ∨ nI (bt x t) = 1 := by rcases bt_01 x t with h | h <;> rw [h] <;> decide
theorem nI_bt0 {x t : Nat} : nI (bt x t) = 0 ↔ bt x t = 0 := by rcases bt_01 x t with h | h <;> rw [h] <;> decide
theorem RR.hb {I M : Nat → Nat → Int32} {S : SZ} (h : RR I M S) : ∀ j i k, j < S.1 → i < 200 → k < 16 → M (6000 + 200 * j + i) k = 0 ∨ M (6000 + 200 * j + i) k = 1 := by
  intro j i k hj hi hk
  obtain ⟨x, hx, e1, e2, e3⟩ := h.2.2 j (by have := h.2.1; omega) i hi
  rw [e3 hj k hk]
  exact nI_bt01 x k
theorem rp_isi {I : Nat → Nat → Int32} {n : Nat} (h : I 0 6 = nI n) (h4 : n ≤ 4) (v : Int32) : rp I v = isi v 0 (nI n - 1) := by
  unfold rp isi
  by_cases h1 : v < 0
  · rw [if_pos h1, if_pos h1]
  · rw [if_neg h1, if_neg h1, h]
    obtain ⟨m, hm, rfl⟩ := nI_of h1
    have e : (nI n - 1 < nI m) ↔ n ≤ m := by
      rcases Nat.eq_zero_or_pos n with q | q
      · subst q
        refine ⟨fun _ => Nat.zero_le _, fun _ => ?_⟩
        rw [Int32.lt_iff_toInt_lt, nI_toInt hm]
        have : (nI 0 - 1).toInt = -1 := by decide
        omega
      · obtain ⟨k, rfl⟩ : ∃ k, n = k + 1 := ⟨n - 1, by omega⟩
        rw [nI_pred, nI_ltI (by omega) hm]
        omega
    by_cases h2 : n ≤ m
    · rw [if_pos ((nI_leI (by omega) hm).mpr h2), if_pos (e.mpr h2)]
    · rw [if_neg (fun q => h2 ((nI_leI (by omega) hm).mp q)), if_neg (fun q => h2 (e.mp q)), if_neg (fun q => by
        have := (ge_L (c := 4) (n := 4) rfl hm (by decide)).mp q
        omega)]
theorem vok_isi (v : Int32) : vok v = isi v 0 11 := by
  unfold vok isi
  by_cases h1 : v < 0
  · rw [if_pos h1, if_pos h1]
  · rw [if_neg h1, if_neg h1]
    obtain ⟨m, hm, rfl⟩ := nI_of h1
    by_cases h2 : m < 12
    · rw [if_pos ((lt_L (c := 12) (n := 12) rfl hm (by decide)).mpr h2), if_neg (fun q => by have := (gt_L (c := 11) (n := 11) rfl hm (by decide)).mp q; omega)]
    · rw [if_neg (fun q => h2 ((lt_L (c := 12) (n := 12) rfl hm (by decide)).mp q)), if_pos ((gt_L (c := 11) (n := 11) rfl hm (by decide)).mpr (by omega))]
theorem c_ho {I : Nat → Nat → Int32} {S : SZ} (h : I 0 6 = nI S.1) (h4 : S.1 ≤ 4) (v r t : Int32) : hoC S v r t = nI (kpu I v r t) := by
  unfold hoC kpu; rw [rp_isi h h4, isi_wi, isi_wi, isi_wi]
  split
  · rfl
  · split
    · rfl
    · split <;> rfl
theorem c_r1 {I : Nat → Nat → Int32} {S : SZ} (h : I 0 6 = nI S.1) (h4 : S.1 ≤ 4) (v : Int32) : r1C S v = nI (kr1 I v) := by
  unfold r1C kr1; rw [rp_isi h h4]; split <;> rfl
theorem c_hl {I : Nat → Nat → Int32} {S : SZ} (h : I 0 6 = nI S.1) (h4 : S.1 ≤ 4) (v t : Int32) : hlC S v t = nI (kho I v t) := by
  unfold hlC kho; rw [rp_isi h h4, isi_wi, isi_wi]
  split
  · rfl
  · split <;> rfl
theorem c_un {I : Nat → Nat → Int32} {S : SZ} (h : I 0 6 = nI S.1) (h4 : S.1 ≤ 4) (v w : Int32) : unC S v w = nI (kun I v w) := by
  unfold unC kun; rw [rp_isi h h4, rp_isi h h4]
  split
  · rfl
  · split <;> rfl
theorem lt4_nI {n : Nat} (h4 : n ≤ 4) : nI n < 4 ↔ n < 4 := lt_L rfl (by omega) (by decide)
theorem c_cp {I : Nat → Nat → Int32} {S : SZ} (h : I 0 6 = nI S.1) (h4 : S.1 ≤ 4) (v : Int32) : cpC S v = nI (kcp I v) := by
  unfold cpC kcp; rw [rp_isi h h4, h]
  split
  · rfl
  · by_cases q : S.1 < 4
    · rw [if_pos q, if_pos ((lt4_nI h4).mpr q)]; rfl
    · rw [if_neg q, if_neg (fun w => q ((lt4_nI h4).mp w))]; rfl
theorem c_rl {I : Nat → Nat → Int32} {S : SZ} (h : I 0 6 = nI S.1) (h4 : S.1 ≤ 4) : krl I = if S.1 < 4 then 0 else 1 := by
  unfold krl; rw [h]
  by_cases q : S.1 < 4
  · rw [if_pos q, if_pos ((lt4_nI h4).mpr q)]
  · rw [if_neg q, if_neg (fun w => q ((lt4_nI h4).mp w))]
theorem c_pa {I : Nat → Nat → Int32} {S : SZ} (h : I 0 6 = nI S.1) (h4 : S.1 ≤ 4) (v : Int32) : paC S v = nI (kpa I v) := by
  unfold paC kpa; rw [rp_isi h h4]
  by_cases q : isi v 0 (nI S.1 - 1) = 0
  · rw [if_pos q, if_pos q]; rfl
  · rw [if_neg q, if_neg q]
    obtain ⟨m, hm, rfl⟩ := isi_n q (by omega)
    by_cases h0 : m = 0
    · subst h0; rw [if_pos (by decide), if_pos (by decide)]; rfl
    · rw [if_neg (nI_nle (by omega) (by omega)), if_neg (nI_ne0 (by omega) (by omega))]; rfl
theorem k_r {I M : Nat → Nat → Int32} {S : SZ} (h : RR I M S) {v : Int32} (q : ¬ rp I v = 0) : ∃ j, j < S.1 ∧ j < 4 ∧ v = nI j ∧ v.toNatClampNeg = j := by
  rw [rp_isi h.1 h.2.1] at q
  have h4 := h.2.1
  obtain ⟨j, hj, rfl⟩ := isi_n q (by omega)
  exact ⟨j, hj, by omega, rfl, nI_clamp (by omega)⟩
theorem k_wi {x : Int32} {n : Nat} {b : Int32} (hb : b = nI n) (hn : n < 100000) (h : ¬ wi x 0 b = 0) : ∃ m, m ≤ n ∧ x = nI m ∧ x.toNatClampNeg = m := by
  obtain ⟨m, hm, rfl⟩ := isi_k (n := n) (by rw [isi_wi]; exact h) hb (by omega)
  exact ⟨m, hm, rfl, nI_clamp (by omega)⟩
theorem k_ho {I M : Nat → Nat → Int32} {S : SZ} (h : RR I M S) {v r t : Int32} (q : kpu I v r t = 0) : ∃ j i k, j < S.1 ∧ j < 4 ∧ i < 200 ∧ k < 16 ∧ v = nI j ∧ r = nI i ∧ t = nI k := by
  unfold kpu at q
  by_cases h1 : rp I v = 0
  · rw [if_pos h1] at q; cases q
  · rw [if_neg h1] at q
    by_cases h2 : wi r 0 199 = 0
    · rw [if_pos h2] at q; cases q
    · rw [if_neg h2] at q
      by_cases h3 : wi t 0 15 = 0
      · rw [if_pos h3] at q; cases q
      · obtain ⟨j, hj, hj4, e1, -⟩ := k_r h h1
        obtain ⟨i, hi, e2, -⟩ := k_wi (n := 199) rfl (by decide) h2
        obtain ⟨k, hk, e3, -⟩ := k_wi (n := 15) rfl (by decide) h3
        exact ⟨j, i, k, hj, hj4, by omega, by omega, e1, e2, e3⟩
theorem rb_nI {I : Nat → Nat → Int32} {j r : Nat} (hr : r < 200) : rb I j (nI r) = I (8 + j) r := by
  unfold rb
  rw [if_neg (nI_pos (by omega)), if_neg (fun q => by have := (ge_L (c := 200) (n := 200) rfl (show r < 2 ^ 31 by omega) (by decide)).mp q; omega), nI_clamp (by omega)]
theorem hh_ir (I : Nat → Nat → Int32) (i : Nat) (r t : Int32) : hh I i r t = ir (rb I i r) t := rfl
theorem RR.hh {I M : Nat → Nat → Int32} {S : SZ} (h : RR I M S) {j r t : Nat} (hj : j < S.1) (hr : r < 200) (ht : t < 16) : hh I j (nI r) (nI t) = M (6000 + 200 * j + r) t := by
  obtain ⟨x, hx, e1, e2, e3⟩ := h.2.2 j (by have := h.2.1; omega) r hr
  rw [hh_ir, rb_nI hr, e1, ir_nI hx ht, e3 hj t ht]
/-- hole -/
theorem s_hole {I M : Nat → Nat → Int32} {S : SZ} (h : RR I M S) {v r t : Int32} (q : kpu I v r t = 0) : hh I v.toNatClampNeg r t = (if M (6000 + 200 * v.toNatClampNeg + r.toNatClampNeg) t.toNatClampNeg = 0 then 0 else 1) ∧ hh I v.toNatClampNeg r t = M (6000 + 200 * v.toNatClampNeg + r.toNatClampNeg) t.toNatClampNeg := by
  obtain ⟨j, i, k, hj, hj4, hi, hk, rfl, rfl, rfl⟩ := k_ho h q
  rw [nI_clamp (n := j) (by omega), nI_clamp (n := i) (by omega), nI_clamp (n := k) (by omega), h.hh hj hi hk]
  refine ⟨?_, rfl⟩
  rcases h.hb j i k hj hi hk with e | e <;> rw [e] <;> rfl
theorem fga_n {I : Nat → Nat → Int32} {r : Int32} {a b : Nat} (h : a ≠ 0 ∨ b ≠ 7) : fga I r a b = I a b := by
  unfold fga; split
  · exact up2_n h
  · rfl
theorem ph_nI {I : Nat → Nat → Int32} {j i : Nat} {t is : Int32} (hi : i < 200) : ph I j (nI i) t is = up2 I (8 + j) i (phv (I (8 + j) i) t is) := by
  unfold ph
  rw [if_neg (nI_pos (by omega)), if_pos ((lt_L (c := 200) (n := 200) rfl (by omega) (by decide)).mpr hi), nI_clamp (by omega)]
/-- one hole is punched or mended, in both -/
theorem RR_ph {I M : Nat → Nat → Int32} {S : SZ} (h : RR I M S) {j i k : Nat} {q : Int32} (hj : j < S.1) (hi : i < 200) (hk : k < 16) (hq : q = 0 ∨ q = 1) : RR (ph I j (nI i) (nI k) q) (up2 M (6000 + 200 * j + i) k q) S := by
  have h4 := h.2.1
  rw [ph_nI hi]
  refine ⟨by rw [up2_row (by omega)]; exact h.1, h4, fun j2 hj2 r hr => ?_⟩
  obtain ⟨x, hx, e1, e2, e3⟩ := h.2.2 j2 hj2 r hr
  by_cases e : j2 = j ∧ r = i
  · obtain ⟨rfl, rfl⟩ := e
    refine ⟨phN x k q, phN_lt hx hk, by rw [up2_s, e1, phv_nI hx hk], fun w => absurd hj (by omega), fun w t ht => ?_⟩
    rw [bt_phN ht]
    by_cases e4 : t = k
    · subst e4; rw [up2_s, if_pos rfl]
      rcases hq with rfl | rfl <;> rfl
    · rw [up2_n (Or.inr e4), if_neg e4, e3 w t ht]
  · refine ⟨x, hx, ?_, e2, fun w t ht => ?_⟩
    · rw [up2_n (by omega)]; exact e1
    · rw [up2_row (by omega)]; exact e3 w t ht
theorem up2_id {I : Nat → Nat → Int32} {a b : Nat} {x : Int32} (h : I a b = x) : up2 I a b x = I := by
  funext c d
  unfold up2
  by_cases h1 : c = a
  · rw [if_pos h1]
    by_cases h2 : d = b
    · rw [if_pos h2, h1, h2, h]
    · rw [if_neg h2]
  · rw [if_neg h1]
/-- punch -/
theorem s_punch {I M : Nat → Nat → Int32} {S : SZ} (h : RR I M S) {v r t q : Int32} (hq : q = 0 ∨ q = 1) (hc : kpu I v r t = 0) : RR (pnI I v r t q) (up2 M (6000 + 200 * v.toNatClampNeg + r.toNatClampNeg) t.toNatClampNeg q) S := by
  obtain ⟨j, i, k, hj, hj4, hi, hk, rfl, rfl, rfl⟩ := k_ho h hc
  unfold pnI
  rw [nI_clamp (n := j) (by omega), nI_clamp (n := i) (by omega), nI_clamp (n := k) (by omega)]
  by_cases e : hh I j (nI i) (nI k) = q
  · rw [if_pos e, up2_id ((h.hh hj hi hk).symm.trans e)]; exact h
  · rw [if_neg e]
    exact RR_c (RR_ph h hj hi hk hq) (fga_n (Or.inr (by decide))) (fun a ha => funext fun b => fga_n (Or.inl (by omega))) (fun _ _ _ => rfl) rfl
