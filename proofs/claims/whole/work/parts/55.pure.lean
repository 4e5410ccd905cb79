/-! playing: what the soundings cost; a sounding begins; a valve moves; a row is played; a roll is loaded -/
def gi3 (c : Nat) : Nat := if c = 0 then 0 else if c = 10 then 1 else if c = 15 then 2 else if c = 22 then 3 else if c = 33 then 4 else if c = 49 then 5 else if c = 73 then 6 else if c = 109 then 7 else if c = 163 then 8 else if c = 244 then 9 else 10
def gs3 (c : Nat) : Nat := if c = 0 then 0 else if c = 10 then 10 else if c = 15 then 25 else if c = 22 then 47 else if c = 33 then 80 else if c = 49 then 129 else if c = 73 then 202 else if c = 109 then 311 else if c = 163 then 474 else if c = 244 then 718 else 1084
def PC (S : SZ) : Nat := S.2.2.1 + gi3 S.2.2.2.2.2
def PS (S : SZ) : Nat := 5 * S.2.2.1 + gs3 S.2.2.2.2.2
theorem c3_cases {S : SZ} (hS : WS S) : S.2.2.2.2.2 = 0 ∨ S.2.2.2.2.2 = 10 ∨ S.2.2.2.2.2 = 15 ∨ S.2.2.2.2.2 = 22 ∨ S.2.2.2.2.2 = 33 ∨ S.2.2.2.2.2 = 49 ∨ S.2.2.2.2.2 = 73 ∨ S.2.2.2.2.2 = 109 ∨ S.2.2.2.2.2 = 163 ∨ S.2.2.2.2.2 = 244 ∨ S.2.2.2.2.2 = 366 := by
  have h := hS.2.2.2.2.2.2.2.2
  simp only [List.mem_cons, List.not_mem_nil, or_false] at h
  exact h
theorem PC_le {S : SZ} (hS : WS S) : PC S ≤ 310 ∧ PS S ≤ 2584 := by
  have h3 := hS.2.2.1
  have hc : gi3 S.2.2.2.2.2 ≤ 10 ∧ gs3 S.2.2.2.2.2 ≤ 1084 := by
    rcases c3_cases hS with e | e | e | e | e | e | e | e | e | e | e <;> rw [e] <;> decide
  unfold PC PS
  omega
theorem PC_add {S : SZ} (hS : WS S) (h : S.2.2.1 < 300) : PC (addS3 S) = PC S + (1 + gC S.2.2.1 S.2.2.2.2.2) ∧ PS (addS3 S) = PS S + (5 + gS S.2.2.1 S.2.2.2.2.2) := by
  have hc : gi3 (ncap S.2.2.1 S.2.2.2.2.2) = gi3 S.2.2.2.2.2 + gC S.2.2.1 S.2.2.2.2.2 ∧ gs3 (ncap S.2.2.1 S.2.2.2.2.2) = gs3 S.2.2.2.2.2 + gS S.2.2.1 S.2.2.2.2.2 := by
    have hle := hS.2.2.2.2.2.1
    unfold gC gS ncap
    by_cases q : S.2.2.1 < S.2.2.2.2.2
    · simp only [if_pos q, Nat.add_zero, and_self]
    · simp only [if_neg q]
      rcases c3_cases hS with e | e | e | e | e | e | e | e | e | e | e <;> rw [e] at q hle ⊢ <;> first | decide | exact absurd h (by omega)
  show S.2.2.1 + 1 + gi3 (ncap S.2.2.1 S.2.2.2.2.2) = S.2.2.1 + gi3 S.2.2.2.2.2 + (1 + gC S.2.2.1 S.2.2.2.2.2) ∧ 5 * (S.2.2.1 + 1) + gs3 (ncap S.2.2.1 S.2.2.2.2.2) = 5 * S.2.2.1 + gs3 S.2.2.2.2.2 + (5 + gS S.2.2.1 S.2.2.2.2.2)
  omega
theorem endI_n {M : Nat → Nat → Int32} {v a : Nat} (h : a ≠ 20 + v) (h2 : a < 8000) : endI M v a = M a := by
  unfold endI
  split
  · exact up2_row h
  · rw [up2_row h, up2_row (by omega)]
theorem endI_v {M : Nat → Nat → Int32} {v b : Nat} (h : b ≠ 7) (hv : v < 12) : endI M v (20 + v) b = M (20 + v) b := by
  unfold endI
  split
  · exact up2_n (Or.inr h)
  · rw [up2_n (Or.inr h), up2_row (by omega)]
theorem endI_7 {M : Nat → Nat → Int32} {v : Nat} : endI M v (20 + v) 7 = 0 := by
  unfold endI
  split
  · exact up2_s
  · exact up2_s
def bgE (M : Nat → Nat → Int32) (v : Nat) : Nat → Nat → Int32 := if M (20 + v) 7 = 2 then endI M v else M
theorem bgE_n {M : Nat → Nat → Int32} {v a : Nat} (h : a ≠ 20 + v) (h2 : a < 8000) : bgE M v a = M a := by
  unfold bgE
  split
  · exact endI_n h h2
  · rfl
theorem bgE_v {M : Nat → Nat → Int32} {v b : Nat} (h : b ≠ 7) (hv : v < 12) : bgE M v (20 + v) b = M (20 + v) b := by
  unfold bgE
  split
  · exact endI_v h hv
  · rfl
def bg1 (M : Nat → Nat → Int32) (v : Nat) : Nat → Nat → Int32 := up2 (up2 (bgE M v) (20 + v) 7 1) 0 12 (M 0 12 + 1)
def bg2 (M : Nat → Nat → Int32) (n v : Nat) : Nat → Nat → Int32 := up2 (up2 (up2 (up2 (up2 (upr (up2 (bg1 M v) (20 + v) 8 (nI n)) (8000 + n) (fun _ => 0)) (8000 + n) 0 (nI v)) (8000 + n) 1 (M (20 + v) 5)) (8000 + n) 2 (M 0 7)) (8000 + n) 3 (-1)) (8000 + n) 4 (M 0 8 * (M 0 9 + 1) / 70)
def bgz (S : SZ) : SZ := if S.2.2.1 < 300 then addS3 S else S
def bgM (M : Nat → Nat → Int32) (S : SZ) (v : Nat) : Nat → Nat → Int32 := if S.2.2.1 < 300 then up2 (up2 (bg2 M S.2.2.1 v) 3 0 (bg2 M S.2.2.1 v 3 0 + 1)) 3 2 (nI (S.2.2.1 + 1)) else up2 (bg1 M v) (20 + v) 8 (-1)
theorem PC_bgz {S : SZ} (hS : WS S) : PC S ≤ PC (bgz S) ∧ PS S ≤ PS (bgz S) := by
  unfold bgz
  by_cases h : S.2.2.1 < 300
  · rw [if_pos h]; have := PC_add hS h; omega
  · rw [if_neg h]; omega
theorem WS_bgz {S : SZ} (hS : WS S) : WS (bgz S) := by
  unfold bgz
  by_cases h : S.2.2.1 < 300
  · rw [if_pos h]; exact WS_3 hS h
  · rw [if_neg h]; exact hS
theorem bg1_n {M : Nat → Nat → Int32} {v a : Nat} (h : a ≠ 20 + v) (h0 : a ≠ 0) (h2 : a < 8000) : bg1 M v a = M a := by
  unfold bg1
  rw [up2_row h0, up2_row h, bgE_n h h2]
theorem bg2_n {M : Nat → Nat → Int32} {n v a : Nat} (h : a ≠ 20 + v) (h0 : a ≠ 0) (h2 : a < 8000) : bg2 M n v a = M a := by
  unfold bg2
  rw [up2_row (by omega), up2_row (by omega), up2_row (by omega), up2_row (by omega), up2_row (by omega), upr_n (by omega), up2_row h, bg1_n h h0 h2]
theorem bgM_n {M : Nat → Nat → Int32} {S : SZ} {v a : Nat} (h : a ≠ 20 + v) (h0 : a ≠ 0) (h3 : a ≠ 3) (h2 : a < 8000) : bgM M S v a = M a := by
  unfold bgM
  split
  · rw [up2_row h3, up2_row h3, bg2_n h h0 h2]
  · rw [up2_row h, bg1_n h h0 h2]
theorem bgM_32 {M : Nat → Nat → Int32} {S : SZ} {v : Nat} (h : M 3 2 = nI S.2.2.1) : bgM M S v 3 2 = nI (bgz S).2.2.1 := by
  unfold bgM bgz
  by_cases q : S.2.2.1 < 300
  · rw [if_pos q, if_pos q, up2_s]; rfl
  · rw [if_neg q, if_neg q, up2_row (by omega), bg1_n (by omega) (by omega) (by omega)]; exact h
theorem bgM_0 {M : Nat → Nat → Int32} {S : SZ} {v b : Nat} (h : b ≠ 12) : bgM M S v 0 b = M 0 b := by
  have e1 : bg1 M v 0 b = M 0 b := by
    unfold bg1
    rw [up2_n (Or.inr h), up2_row (by omega), bgE_n (by omega) (by omega)]
  unfold bgM
  split
  · rw [up2_row (by omega), up2_row (by omega)]
    unfold bg2
    rw [up2_row (by omega), up2_row (by omega), up2_row (by omega), up2_row (by omega), up2_row (by omega), upr_n (by omega), up2_row (by omega)]
    exact e1
  · rw [up2_row (by omega)]; exact e1
theorem bgM_v {M : Nat → Nat → Int32} {S : SZ} {v b : Nat} (hv : v < 12) (h7 : b ≠ 7) (h8 : b ≠ 8) : bgM M S v (20 + v) b = M (20 + v) b := by
  have e1 : bg1 M v (20 + v) b = M (20 + v) b := by
    unfold bg1
    rw [up2_row (by omega), up2_n (Or.inr h7), bgE_v h7 hv]
  unfold bgM
  split
  · rw [up2_row (by omega), up2_row (by omega)]
    unfold bg2
    rw [up2_row (by omega), up2_row (by omega), up2_row (by omega), up2_row (by omega), up2_row (by omega), upr_n (by omega), up2_n (Or.inr h8)]
    exact e1
  · rw [up2_n (Or.inr h8)]; exact e1
theorem bgM_8 {M : Nat → Nat → Int32} {S : SZ} {v : Nat} (hv : v < 12) : bgM M S v (20 + v) 8 = if S.2.2.1 < 300 then nI S.2.2.1 else -1 := by
  unfold bgM
  by_cases q : S.2.2.1 < 300
  · rw [if_pos q, if_pos q, up2_row (by omega), up2_row (by omega)]
    unfold bg2
    rw [up2_row (by omega), up2_row (by omega), up2_row (by omega), up2_row (by omega), up2_row (by omega), upr_n (by omega), up2_s]
  · rw [if_neg q, if_neg q, up2_s]
def mo1 (M : Nat → Nat → Int32) (v : Nat) (h : Int32) : Nat → Nat → Int32 := up2 M (20 + v) 4 (if h = 0 then M (20 + v) 4 + 1 else 0)
def moA (M : Nat → Nat → Int32) (v : Nat) (h : Int32) : Nat → Nat → Int32 := if h = 0 then mo1 M v h else if M (20 + v) 9 = 0 then up2 (up2 (up2 (mo1 M v h) (20 + v) 9 1) (20 + v) 5 (M 0 7)) 0 11 (M 0 11 + 1) else mo1 M v h
def moBf (J : Nat → Nat → Int32) (v : Nat) : Nat → Nat → Int32 := if J (20 + v) 9 = 0 then J else if J (20 + v) 4 ≤ J 5 0 then J else up2 (up2 (up2 J (20 + v) 9 0) (20 + v) 6 (J 0 7)) (20 + v) 7 (if J (20 + v) 7 = 1 then 2 else J (20 + v) 7)
def moB (M : Nat → Nat → Int32) (v : Nat) (h : Int32) : Nat → Nat → Int32 := moBf (moA M v h) v
def moCf (J : Nat → Nat → Int32) (v : Nat) (p : Int32) : Nat → Nat → Int32 := if J (20 + v) 7 = 2 then (if p = 0 then endI J v else J) else J
def moC (M : Nat → Nat → Int32) (v : Nat) (h p : Int32) : Nat → Nat → Int32 := moCf (moB M v h) v p
def dueM (J : Nat → Nat → Int32) (v : Nat) : Int32 := if J 0 7 < J (20 + v) 5 + J (20 + v) 0 then 0 else if J (20 + v) 6 < 0 then 1 else if J 0 7 < J (20 + v) 6 + J (20 + v) 1 then 0 else 1
def goJ (J : Nat → Nat → Int32) (v : Nat) : Int32 := if J (20 + v) 9 = 0 then 0 else if J (20 + v) 7 = 1 then 0 else if dueM J v = 0 then 0 else if J 0 8 < J 5 1 then 0 else 1
def mvM (M : Nat → Nat → Int32) (S : SZ) (v : Nat) (h p : Int32) : Nat → Nat → Int32 := if goJ (moC M v h p) v = 0 then moC M v h p else bgM (moC M v h p) S v
def mvz (M : Nat → Nat → Int32) (S : SZ) (v : Nat) (h p : Int32) : SZ := if goJ (moC M v h p) v = 0 then S else bgz S
theorem mo1_n {M : Nat → Nat → Int32} {v a : Nat} {h : Int32} (q : a ≠ 20 + v) : mo1 M v h a = M a := up2_row q
theorem mo1_v {M : Nat → Nat → Int32} {v b : Nat} {h : Int32} (q : b ≠ 4) : mo1 M v h (20 + v) b = M (20 + v) b := up2_n (Or.inr q)
theorem moA_n {M : Nat → Nat → Int32} {v a : Nat} {h : Int32} (q : a ≠ 20 + v) (q0 : a ≠ 0) : moA M v h a = M a := by
  unfold moA
  split
  · exact mo1_n q
  · split
    · rw [up2_row q0, up2_row q, up2_row q, mo1_n q]
    · exact mo1_n q
theorem moA_0 {M : Nat → Nat → Int32} {v b : Nat} {h : Int32} (q : b ≠ 11) : moA M v h 0 b = M 0 b := by
  have e : mo1 M v h 0 = M 0 := mo1_n (by omega)
  unfold moA
  split
  · rw [e]
  · split
    · rw [up2_n (Or.inr q), up2_row (by omega), up2_row (by omega), e]
    · rw [e]
theorem moA_v {M : Nat → Nat → Int32} {v b : Nat} {h : Int32} (q4 : b ≠ 4) (q9 : b ≠ 9) (q5 : b ≠ 5) : moA M v h (20 + v) b = M (20 + v) b := by
  unfold moA
  split
  · exact mo1_v q4
  · split
    · rw [up2_row (by omega), up2_n (Or.inr q5), up2_n (Or.inr q9), mo1_v q4]
    · exact mo1_v q4
theorem moBf_n {J : Nat → Nat → Int32} {v a : Nat} (q : a ≠ 20 + v) : moBf J v a = J a := by
  unfold moBf
  split
  · rfl
  · split
    · rfl
    · rw [up2_row q, up2_row q, up2_row q]
theorem moBf_v {J : Nat → Nat → Int32} {v b : Nat} (q9 : b ≠ 9) (q6 : b ≠ 6) (q7 : b ≠ 7) : moBf J v (20 + v) b = J (20 + v) b := by
  unfold moBf
  split
  · rfl
  · split
    · rfl
    · rw [up2_n (Or.inr q7), up2_n (Or.inr q6), up2_n (Or.inr q9)]
theorem moB_n {M : Nat → Nat → Int32} {v a : Nat} {h : Int32} (q : a ≠ 20 + v) : moB M v h a = moA M v h a := moBf_n q
theorem moB_v {M : Nat → Nat → Int32} {v b : Nat} {h : Int32} (q9 : b ≠ 9) (q6 : b ≠ 6) (q7 : b ≠ 7) : moB M v h (20 + v) b = moA M v h (20 + v) b := moBf_v q9 q6 q7
theorem moCf_n {J : Nat → Nat → Int32} {v a : Nat} {p : Int32} (q : a ≠ 20 + v) (q2 : a < 8000) : moCf J v p a = J a := by
  unfold moCf
  split
  · split
    · exact endI_n q q2
    · rfl
  · rfl
theorem moCf_v {J : Nat → Nat → Int32} {v b : Nat} {p : Int32} (q7 : b ≠ 7) (hv : v < 12) : moCf J v p (20 + v) b = J (20 + v) b := by
  unfold moCf
  split
  · split
    · exact endI_v q7 hv
    · rfl
  · rfl
theorem moC_n {M : Nat → Nat → Int32} {v a : Nat} {h p : Int32} (q : a ≠ 20 + v) (q2 : a < 8000) : moC M v h p a = moB M v h a := moCf_n q q2
theorem moC_v {M : Nat → Nat → Int32} {v b : Nat} {h p : Int32} (q7 : b ≠ 7) (hv : v < 12) : moC M v h p (20 + v) b = moB M v h (20 + v) b := moCf_v q7 hv
theorem moC_8 {M : Nat → Nat → Int32} {v : Nat} {h p : Int32} (hv : v < 12) : moC M v h p (20 + v) 8 = M (20 + v) 8 := by
  rw [moC_v (by decide) hv, moB_v (by decide) (by decide) (by decide), moA_v (by decide) (by decide) (by decide)]
theorem moC_r {M : Nat → Nat → Int32} {v a : Nat} {h p : Int32} (q : a ≠ 20 + v) (q0 : a ≠ 0) (q2 : a < 8000) : moC M v h p a = M a := by
  rw [moC_n q q2, moB_n q, moA_n q q0]
theorem moC_0 {M : Nat → Nat → Int32} {v b : Nat} {h p : Int32} (q : b ≠ 11) : moC M v h p 0 b = M 0 b := by
  rw [moC_n (by omega) (by omega), moB_n (by omega), moA_0 q]
theorem moB_7n {M : Nat → Nat → Int32} {v : Nat} {h : Int32} (q : ¬ moB M v h (20 + v) 7 = 0) : ¬ M (20 + v) 7 = 0 := by
  rw [← moA_v (M := M) (h := h) (v := v) (b := 7) (by decide) (by decide) (by decide)]
  revert q
  unfold moB moBf
  split
  · exact id
  · split
    · exact id
    · intro q e
      rw [up2_s, e] at q
      exact q (by decide)
theorem moC_7n {M : Nat → Nat → Int32} {v : Nat} {h p : Int32} (q : ¬ moC M v h p (20 + v) 7 = 0) : ¬ M (20 + v) 7 = 0 := by
  refine moB_7n (h := h) ?_
  revert q
  unfold moC moCf
  split
  · split
    · intro q; exact absurd endI_7 q
    · exact id
  · exact id
/-- every index that a valve keeps is one of a sounding -/
def IXP (M : Nat → Nat → Int32) (S : SZ) : Prop := ∀ v, v < 12 → ¬ M (20 + v) 7 = 0 → ¬ M (20 + v) 8 < 0 → ∃ n, n < S.2.2.1 ∧ M (20 + v) 8 = nI n
def PI (M : Nat → Nat → Int32) (S : SZ) : Prop := WS S ∧ M 1 2 = nI S.1 ∧ M 2 2 = nI S.2.1 ∧ M 3 2 = nI S.2.2.1 ∧ IXP M S
theorem bgz_1 {S : SZ} : (bgz S).1 = S.1 ∧ (bgz S).2.1 = S.2.1 ∧ S.2.2.1 ≤ (bgz S).2.2.1 := by
  unfold bgz
  split
  · exact ⟨rfl, rfl, Nat.le_succ _⟩
  · exact ⟨rfl, rfl, Nat.le_refl _⟩
theorem PI_bgM {M : Nat → Nat → Int32} {S : SZ} {v : Nat} (hv : v < 12) (h : PI M S) : PI (bgM M S v) (bgz S) := by
  obtain ⟨h1, h2, h3, h4, h5⟩ := h
  have hz := bgz_1 (S := S)
  refine ⟨WS_bgz h1, ?_, ?_, bgM_32 h4, fun w hw h7 hn => ?_⟩
  · rw [bgM_n (by omega) (by omega) (by omega) (by omega), h2, hz.1]
  · rw [bgM_n (by omega) (by omega) (by omega) (by omega), h3, hz.2.1]
  · by_cases e : w = v
    · subst e
      rw [bgM_8 hv] at hn ⊢
      by_cases q : S.2.2.1 < 300
      · rw [if_pos q]
        exact ⟨S.2.2.1, by unfold bgz; rw [if_pos q]; exact Nat.lt_succ_self _, rfl⟩
      · rw [if_neg q] at hn; exact absurd (by decide) hn
    · rw [bgM_n (by omega) (by omega) (by omega) (by omega)] at h7 hn ⊢
      obtain ⟨n, hn1, hn2⟩ := h5 w hw h7 hn
      exact ⟨n, by omega, hn2⟩
theorem PI_moC {M : Nat → Nat → Int32} {S : SZ} {v : Nat} {h p : Int32} (hv : v < 12) (hP : PI M S) : PI (moC M v h p) S := by
  obtain ⟨h1, h2, h3, h4, h5⟩ := hP
  refine ⟨h1, ?_, ?_, ?_, fun w hw h7 hn => ?_⟩
  · rw [moC_r (by omega) (by omega) (by omega)]; exact h2
  · rw [moC_r (by omega) (by omega) (by omega)]; exact h3
  · rw [moC_r (by omega) (by omega) (by omega)]; exact h4
  · by_cases e : w = v
    · subst e
      rw [moC_8 hv] at hn ⊢
      exact h5 w hw (moC_7n h7) hn
    · rw [moC_r (by omega) (by omega) (by omega)] at h7 hn ⊢
      exact h5 w hw h7 hn
theorem PI_mv {M : Nat → Nat → Int32} {S : SZ} {v : Nat} {h p : Int32} (hv : v < 12) (hP : PI M S) : PI (mvM M S v h p) (mvz M S v h p) := by
  unfold mvM mvz
  by_cases q : goJ (moC M v h p) v = 0
  · rw [if_pos q, if_pos q]; exact PI_moC hv hP
  · rw [if_neg q, if_neg q]; exact PI_bgM hv (PI_moC hv hP)
theorem PC_mvz {M : Nat → Nat → Int32} {S : SZ} {v : Nat} {h p : Int32} (hS : WS S) : PC S ≤ PC (mvz M S v h p) ∧ PS S ≤ PS (mvz M S v h p) := by
  unfold mvz
  split
  · exact ⟨Nat.le_refl _, Nat.le_refl _⟩
  · exact PC_bgz hS
theorem mvM_r {M : Nat → Nat → Int32} {S : SZ} {v a : Nat} {h p : Int32} (q : a ≠ 20 + v) (q0 : a ≠ 0) (q3 : a ≠ 3) (q2 : a < 8000) : mvM M S v h p a = M a := by
  unfold mvM
  split
  · exact moC_r q q0 q2
  · rw [bgM_n q q0 q3 q2, moC_r q q0 q2]
theorem mvM_0 {M : Nat → Nat → Int32} {S : SZ} {v b : Nat} {h p : Int32} (q : b ≠ 11) (q2 : b ≠ 12) : mvM M S v h p 0 b = M 0 b := by
  unfold mvM
  split
  · exact moC_0 q
  · rw [bgM_0 q2, moC_0 q]
