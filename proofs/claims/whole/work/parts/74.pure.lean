/-! the relation: a valve ends and begins sounding -/
theorem cl_no {r rs : Nat} (h : rs ≤ 9) (hr : r ≤ 200) : ¬ nI r < -1000 + nI rs := by
  rw [Int32.lt_iff_toInt_lt, nI_toInt (by omega)]
  have e : ∀ k, k < 10 → ((-1000 : Int32) + nI k).toInt = -1000 + (k : Int) := by decide
  rw [e rs (by omega)]
  omega
theorem anw_go {J Q : Nat → Nat → Int32} {S : SZ} {r v : Nat} (w : RRow J Q S r) (hv : v < 12) : anw J v = 0 ↔ goJ Q v = 0 := by
  obtain ⟨⟨h1, h2, h3⟩, ⟨h4, h5⟩, ⟨h6, g, hg, h7⟩, h8, -, h10, h11⟩ := w
  obtain ⟨ho, hc, ht⟩ := h11 v hv
  obtain ⟨hb, ⟨rs, hrs, hr1⟩, -⟩ := h8 v hv
  have hb0 := hb 0 (by decide)
  have hb1 := hb 1 (by decide)
  have h151 := h6 1 (by decide)
  unfold anw ird goJ dueM
  rw [h2, h3, h4, h151, hb0, hb1]
  have hcl := cl_no hrs h1
  have m1 : (-1 : Int32) < 0 := by decide
  rcases ho with ⟨a, b⟩ | ⟨a, b, c, d⟩
  · simp [a, b]
  · rcases ht with ⟨t1, t2, t3, t4⟩ | ⟨t1, t2, t3, t4⟩ | ⟨t1, t2, t3, t4⟩
    · by_cases q1 : nI r < Q (20 + v) 5 + Q (20 + v) 0
      · simp [a, b, d, t1, t2, q1]
      · rcases hc with ⟨e1, e2⟩ | ⟨n, hn, e1, e2⟩
        · simp [a, b, d, t1, t2, q1, e1, e2, hr1, hcl, m1]
        · have hn0 : ¬ nI n < 0 := nI_pos (by omega)
          by_cases q2 : nI r < nI n + Q (20 + v) 1 <;> simp [a, b, d, t1, t2, q1, e1, e2, hn0, q2]
    · simp [a, b, t1, t2]
    · by_cases q1 : nI r < Q (20 + v) 5 + Q (20 + v) 0
      · simp [a, b, d, t1, t2, q1]
      · rcases hc with ⟨e1, e2⟩ | ⟨n, hn, e1, e2⟩
        · simp [a, b, d, t1, t2, q1, e1, e2, hr1, hcl, m1]
        · have hn0 : ¬ nI n < 0 := nI_pos (by omega)
          by_cases q2 : nI r < nI n + Q (20 + v) 1 <;> simp [a, b, d, t1, t2, q1, e1, e2, hn0, q2]
theorem go_open {Q : Nat → Nat → Int32} {v : Nat} (h : ¬ goJ Q v = 0) : ¬ Q (20 + v) 9 = 0 ∧ ¬ Q (20 + v) 7 = 1 := by
  unfold goJ at h
  by_cases a : Q (20 + v) 9 = 0
  · rw [if_pos a] at h; exact absurd rfl h
  · rw [if_neg a] at h
    by_cases b : Q (20 + v) 7 = 1
    · rw [if_pos b] at h; exact absurd rfl h
    · exact ⟨a, b⟩
theorem goJ_C {Q : Nat → Nat → Int32} {v : Nat} {p : Int32} (hv : v < 12) : goJ (moCf Q v p) v = goJ Q v := by
  have e : ∀ b, b ≠ 7 → moCf Q v p (20 + v) b = Q (20 + v) b := fun b hb => moCf_v hb hv
  have e7 : (moCf Q v p (20 + v) 7 = 1) ↔ (Q (20 + v) 7 = 1) := by
    unfold moCf
    by_cases a : Q (20 + v) 7 = 2
    · rw [if_pos a]
      by_cases b : p = 0
      · rw [if_pos b, endI_7, a]; exact ⟨fun z => absurd z (by decide), fun z => absurd z (by decide)⟩
      · rw [if_neg b]
    · rw [if_neg a]
  unfold goJ dueM
  rw [e 9 (by decide), e 5 (by decide), e 0 (by decide), e 6 (by decide), e 1 (by decide), moCf_n (a := 0) (by omega) (by omega), moCf_n (a := 5) (by omega) (by omega)]
  by_cases a : Q (20 + v) 9 = 0
  · rw [if_pos a, if_pos a]
  · rw [if_neg a, if_neg a]
    by_cases b : Q (20 + v) 7 = 1
    · rw [if_pos b, if_pos (e7.mpr b)]
    · rw [if_neg b, if_neg (fun z => b (e7.mp z))]
theorem fin_21 {I : Nat → Nat → Int32} {c n : Nat} {x : Int32} (h : I 17 6 = nI c) (hc : c ≤ 300) (hn : n < c) : fin I (nI n) x = up2 I 21 n x := by
  have a1 : ¬ nI c ≤ nI n := fun z => by have := (nI_leI (a := c) (b := n) (by omega) (by omega)).mp z; omega
  have a2 : ¬ (300 : Int32) ≤ nI n := fun z => by have := (ge_L (c := 300) (n := 300) (m := n) rfl (by omega) (by decide)).mp z; omega
  have a3 : lhas I (nI n) = 1 := by unfold lhas; rw [if_neg (nI_pos (by omega)), h, if_neg a1, if_neg a2]
  unfold fin
  rw [a3, if_neg n10, nI_clamp (by omega)]
theorem fin_neg {I : Nat → Nat → Int32} {ix x : Int32} (h : ix < 0) : fin I ix x = I := by
  unfold fin lhas; rw [if_pos h, if_pos rfl]
theorem enH_n {I : Nat → Nat → Int32} {v a : Nat} (h : a ≠ 24 + v) (h2 : a ≠ 21) : enH I v a = I a := by
  unfold enH; rw [up2_row h, up2_row h, up2_row h, fin_n h2]
theorem enH_v {I : Nat → Nat → Int32} {v b : Nat} (h8 : b ≠ 8) (h9 : b ≠ 9) (h10 : b ≠ 10) : enH I v (24 + v) b = I (24 + v) b := by
  unfold enH; rw [up2_n (Or.inr h9), up2_n (Or.inr h8), up2_n (Or.inr h10), fin_n (by omega)]
theorem enH_3v {I : Nat → Nat → Int32} {v : Nat} : enH I v (24 + v) 8 = 0 ∧ enH I v (24 + v) 9 = 0 ∧ enH I v (24 + v) 10 = -1 := by
  unfold enH
  exact ⟨by rw [up2_n (Or.inr (by decide)), up2_s], up2_s, by rw [up2_n (Or.inr (by decide)), up2_n (Or.inr (by decide)), up2_s]⟩
/-- the log when a sounding ends -/
theorem end_log {J Q : Nat → Nat → Int32} {S : SZ} {v r : Nat} (hv : v < 12) (hL : RLo J Q S) (h2 : J 3 4 = nI r) (h3 : Q 0 7 = nI r) (h8 : J (24 + v) 10 = Q (20 + v) 8) (hix : ¬ Q (20 + v) 8 < 0 → ∃ n, n < S.2.2.1 ∧ Q (20 + v) 8 = nI n) : RLo (enH J v) (endI Q v) S := by
  have e17 : enH J v 17 6 = J 17 6 := enH_17 6
  refine ⟨e17.trans hL.1, hL.2.1, fun n hn b hb => ?_⟩
  have hL3 := hL.2.2 n hn b hb
  unfold enH endI
  rw [up2_row (by omega), up2_row (by omega), up2_row (by omega), h8, h2, h3]
  by_cases q : Q (20 + v) 8 < 0
  · rw [if_pos q, fin_neg q, up2_row (a := 8000 + n) (by omega)]; exact hL3
  · obtain ⟨m, hm, e⟩ := hix q
    rw [if_neg q, e, fin_21 hL.1 hL.2.1 hm, up2_row (a := 8000 + n) (by omega), nI_clamp (n := m) (by have := hL.2.1; omega)]
    by_cases w : b = 3 ∧ n = m
    · obtain ⟨rfl, rfl⟩ := w; rw [up2_s, up2_s]
    · rw [up2_n (by omega), up2_n (by omega)]; exact hL3
/-- a sounding ends -/
theorem st_end {J Q : Nat → Nat → Int32} {S : SZ} {r v : Nat} (w : RRow J Q S r) (hv : v < 12) (h8 : J (24 + v) 10 = Q (20 + v) 8) (hix : ¬ Q (20 + v) 8 < 0 → ∃ n, n < S.2.2.1 ∧ Q (20 + v) 8 = nI n) : RRow (enH J v) (endI Q v) S r := by
  have w0 := w
  obtain ⟨⟨h1, h2, h3⟩, ⟨h4, h5⟩, ⟨h6, g, hg, h7⟩, h9, hk, hL, h11⟩ := w
  obtain ⟨ho, hc, ht⟩ := h11 v hv
  have f : ∀ b, b ≠ 7 → endI Q v (20 + v) b = Q (20 + v) b := fun b hb => endI_v hb hv
  have f2 : ∀ b, b ≠ 8 → b ≠ 9 → b ≠ 10 → enH J v (24 + v) b = J (24 + v) b := fun b h8 h9 h10 => enH_v h8 h9 h10
  refine RRow_v (v := v) w0 (fun a q1 q2 q3 => enH_n q1 (by omega)) (fun b _ _ => enH_3) (fun b hb => f2 b (by omega) (by omega) (by omega)) (fun a q1 q2 q3 q4 => endI_n q1 q4) (fun b _ _ => by rw [endI_n (by omega) (by omega)]) (fun b hb => f b (by omega)) ?_ (end_log hv hL h2 h3 h8 hix) ?_
  · exact ⟨by rw [enH_3, endI_n (by omega) (by omega)]; exact hk.1, by rw [enH_3, endI_n (by omega) (by omega)]; exact hk.2⟩
  · have e := enH_3v (I := J) (v := v)
    unfold VSt VOp VCl VTo
    rw [f 9 (by decide), f 4 (by decide), f 5 (by decide), f 6 (by decide), endI_7, f2 4 (by decide) (by decide) (by decide), f2 5 (by decide) (by decide) (by decide), f2 6 (by decide) (by decide) (by decide), f2 7 (by decide) (by decide) (by decide), e.1, e.2.1, e.2.2]
    exact ⟨ho, hc, Or.inl ⟨rfl, rfl, rfl, rfl⟩⟩
theorem bgM_end {Q : Nat → Nat → Int32} {S : SZ} {v : Nat} (hv : v < 12) (h : Q (20 + v) 7 = 2) : bgM Q S v = bgM (endI Q v) S v := by
  have e1 : bgE Q v = endI Q v := by unfold bgE; rw [if_pos h]
  have e2 : bgE (endI Q v) v = endI Q v := by unfold bgE; rw [if_neg (by rw [endI_7]; decide)]
  have e0 : endI Q v 0 = Q 0 := endI_n (by omega) (by omega)
  have e5 : endI Q v (20 + v) 5 = Q (20 + v) 5 := endI_v (by decide) hv
  have f1 : bg1 Q v = bg1 (endI Q v) v := by unfold bg1; rw [e1, e2, e0]
  have f2 : ∀ n, bg2 Q n v = bg2 (endI Q v) n v := fun n => by unfold bg2; rw [f1, e0, e5]
  unfold bgM
  rw [f1, f2]
theorem bgS_n {I : Nat → Nat → Int32} {v c a : Nat} (h : a ≠ 24 + v) (h3 : a ≠ 3) (hl : a < 17 ∨ 22 < a) : bgS I v c a = I a := by
  unfold bgS; rw [up2_row h3, up2_row h, kpI_n hl, up2_row h]
theorem bgS_v {I : Nat → Nat → Int32} {v c b : Nat} (h8 : b ≠ 8) (h10 : b ≠ 10) : bgS I v c (24 + v) b = I (24 + v) b := by
  unfold bgS; rw [up2_row (by omega), up2_n (Or.inr h10), kpI_n (by omega), up2_n (Or.inr h8)]
theorem kpR_n {c : Nat} (h : c ≤ 300) : kpR c = if c < 300 then nI c else -1 := by
  unfold kpR
  by_cases q : c < 300
  · rw [if_neg (by omega), if_pos q, nI_1, nI_pred]
  · rw [if_pos (by omega), if_neg q]
/-- a sounding begins -/
theorem st_beg {J Q : Nat → Nat → Int32} {S : SZ} {r v : Nat} (w : RRow J Q S r) (hv : v < 12) (h0 : Q (20 + v) 7 = 0) (h9 : J (24 + v) 9 = 0) (ho : ¬ Q (20 + v) 9 = 0) : RRow (bgS J v S.2.2.1) (bgM Q S v) (bgz S) r := by
  have w0 := w
  obtain ⟨⟨h1, h2, h3⟩, ⟨h4, h5⟩, ⟨h6, g, hg, h7⟩, hva, hk, hL, h11⟩ := w
  obtain ⟨hop, hc, ht⟩ := h11 v hv
  have hop2 := hop.resolve_left (fun z => ho z.1)
  have f : ∀ b, b ≠ 7 → b ≠ 8 → bgM Q S v (20 + v) b = Q (20 + v) b := fun b q1 q2 => bgM_v hv q1 q2
  have f2 : ∀ b, b ≠ 8 → b ≠ 10 → bgS J v S.2.2.1 (24 + v) b = J (24 + v) b := fun b q1 q2 => bgS_v q1 q2
  have eE : bgE Q v = Q := by unfold bgE; rw [if_neg (by rw [h0]; decide)]
  have hkp := kpR_n hL.2.1
  refine RRow_v (v := v) w0 (fun a q1 q2 q3 => bgS_n q1 q2 q3) (fun b _ q => bgS_3 q) (fun b hb => f2 b (by omega) (by omega)) (fun a q1 q2 q3 q4 => bgM_n q1 q2 q3 q4) (fun b _ q => bgM_0 q) (fun b hb => f b (by omega) (by omega)) ?_ ?_ ?_
  · constructor
    · rw [bgS_3 (by decide), bgM_0 (by decide)]; exact hk.1
    · unfold bgS bgM
      rw [up2_s, hk.2]
      by_cases q : S.2.2.1 < 300
      · rw [if_pos q, up2_row (by omega), up2_row (by omega)]
        unfold bg2
        rw [up2_row (by omega), up2_row (by omega), up2_row (by omega), up2_row (by omega), up2_row (by omega), upr_n (by omega), up2_row (by omega)]
        unfold bg1
        rw [up2_s]
      · rw [if_neg q, up2_row (by omega)]
        unfold bg1
        rw [up2_s]
  · by_cases q : S.2.2.1 < 300
    · have ez : bgz S = addS3 S := by unfold bgz; rw [if_pos q]
      rw [ez]
      refine ⟨?_, by show S.2.2.1 + 1 ≤ 300; omega, fun n hn b hb => ?_⟩
      · unfold bgS kpI
        rw [up2_row (by omega), up2_row (by omega), if_neg (by omega), up2_s, nI_1]; rfl
      · have hn2 : n < S.2.2.1 + 1 := hn
        unfold bgS kpI bgM bg2
        rw [up2_row (a := 18 + b) (by omega), up2_row (a := 18 + b) (by omega), if_neg (by omega), up2_row (a := 18 + b) (by omega), if_pos q, up2_row (a := 8000 + n) (by omega), up2_row (a := 8000 + n) (by omega)]
        by_cases e : n = S.2.2.1
        · rw [e, h2, h3, h4, h5, hop2.2.2.2]
          have hb5 : b = 0 ∨ b = 1 ∨ b = 2 ∨ b = 3 ∨ b = 4 := by omega
          rcases hb5 with rfl | rfl | rfl | rfl | rfl
          · rw [up2_row (a := 18 + 0) (by omega), up2_row (a := 18 + 0) (by omega), up2_row (a := 18 + 0) (by omega), up2_row (a := 18 + 0) (by omega), up2_s, up2_n (a := 8000 + S.2.2.1) (Or.inr (by decide)), up2_n (a := 8000 + S.2.2.1) (Or.inr (by decide)), up2_n (a := 8000 + S.2.2.1) (Or.inr (by decide)), up2_n (a := 8000 + S.2.2.1) (Or.inr (by decide)), up2_s]
          · rw [up2_row (a := 18 + 1) (by omega), up2_row (a := 18 + 1) (by omega), up2_row (a := 18 + 1) (by omega), up2_s, up2_n (a := 8000 + S.2.2.1) (Or.inr (by decide)), up2_n (a := 8000 + S.2.2.1) (Or.inr (by decide)), up2_n (a := 8000 + S.2.2.1) (Or.inr (by decide)), up2_s]
          · rw [up2_row (a := 18 + 2) (by omega), up2_row (a := 18 + 2) (by omega), up2_s, up2_n (a := 8000 + S.2.2.1) (Or.inr (by decide)), up2_n (a := 8000 + S.2.2.1) (Or.inr (by decide)), up2_s]
          · rw [up2_row (a := 18 + 3) (by omega), up2_s, up2_n (a := 8000 + S.2.2.1) (Or.inr (by decide)), up2_s]
          · rw [up2_s, up2_s]
        · have hL3 := hL.2.2 n (by omega) b hb
          rw [up2_n (a := 18 + b) (Or.inr e), up2_n (a := 18 + b) (Or.inr e), up2_n (a := 18 + b) (Or.inr e), up2_n (a := 18 + b) (Or.inr e), up2_n (a := 18 + b) (Or.inr e), up2_row (a := 18 + b) (by omega), up2_row (a := 8000 + n) (by omega), up2_row (a := 8000 + n) (by omega), up2_row (a := 8000 + n) (by omega), up2_row (a := 8000 + n) (by omega), up2_row (a := 8000 + n) (by omega), upr_n (by omega), up2_row (a := 8000 + n) (by omega)]
          unfold bg1
          rw [up2_row (a := 8000 + n) (by omega), up2_row (a := 8000 + n) (by omega), eE]; exact hL3
    · have ez : bgz S = S := by unfold bgz; rw [if_neg q]
      rw [ez]
      refine ⟨?_, hL.2.1, fun n hn b hb => ?_⟩
      · unfold bgS kpI
        rw [up2_row (by omega), up2_row (by omega), if_pos (by omega), up2_row (by omega)]; exact hL.1
      · have hL3 := hL.2.2 n hn b hb
        unfold bgS kpI bgM bg1
        rw [up2_row (a := 18 + b) (by omega), up2_row (a := 18 + b) (by omega), if_pos (by omega), up2_row (a := 18 + b) (by omega), if_neg q, up2_row (a := 8000 + n) (by omega), up2_row (a := 8000 + n) (by omega), up2_row (a := 8000 + n) (by omega), eE]; exact hL3
  · have e8 : bgS J v S.2.2.1 (24 + v) 8 = 1 := by unfold bgS; rw [up2_row (by omega), up2_n (Or.inr (by decide)), kpI_n (by omega), up2_s]
    have e10 : bgS J v S.2.2.1 (24 + v) 10 = kpR S.2.2.1 := by unfold bgS; rw [up2_row (by omega), up2_s]
    have g7 : bgM Q S v (20 + v) 7 = 1 := by
      unfold bgM
      split
      · rw [up2_row (by omega), up2_row (by omega)]
        unfold bg2
        rw [up2_row (by omega), up2_row (by omega), up2_row (by omega), up2_row (by omega), up2_row (by omega), upr_n (by omega), up2_n (Or.inr (by decide))]
        unfold bg1
        rw [up2_row (by omega), up2_s]
      · rw [up2_n (Or.inr (by decide))]
        unfold bg1
        rw [up2_row (by omega), up2_s]
    unfold VSt VOp VCl VTo
    rw [f 9 (by decide) (by decide), f 4 (by decide) (by decide), f 5 (by decide) (by decide), f 6 (by decide) (by decide), g7, bgM_8 hv, f2 4 (by decide) (by decide), f2 5 (by decide) (by decide), f2 6 (by decide) (by decide), f2 7 (by decide) (by decide), f2 9 (by decide) (by decide), e8, e10, hkp]
    exact ⟨hop, hc, Or.inr (Or.inl ⟨rfl, rfl, h9, rfl⟩)⟩
