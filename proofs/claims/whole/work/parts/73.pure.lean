/-! the relation: settings, valves, log, playing; a valve moves -/
def RSe (I M : Nat → Nat → Int32) : Prop := (∀ b, b < 4 → I 15 b = M 5 b) ∧ (∃ g, g ≤ 3 ∧ M 5 0 = nI g) ∧ I 15 4 = M 0 17 ∧ (M 0 17 = 97 ∨ M 0 17 = 98 ∨ M 0 17 = 99) ∧ I 0 8 = M 0 13 ∧ I 0 9 = M 0 14 ∧ (∃ f, 100 ≤ f ∧ f ≤ 900 ∧ M 0 13 = nI f) ∧ ∃ g, g ≤ 50 ∧ M 0 14 = nI g
def RVa (I M : Nat → Nat → Int32) : Prop := ∀ v, v < 12 → (∀ b, b < 4 → I (24 + v) b = M (20 + v) b) ∧ (∃ n, n ≤ 9 ∧ M (20 + v) 1 = nI n) ∧ ∃ w, w < 12 ∧ M (20 + v) 3 = nI w
def RLo (I M : Nat → Nat → Int32) (S : SZ) : Prop := I 17 6 = nI S.2.2.1 ∧ S.2.2.1 ≤ 300 ∧ ∀ n, n < S.2.2.1 → ∀ b, b < 5 → I (18 + b) n = M (8000 + n) b
def RCo (I M : Nat → Nat → Int32) : Prop := I 3 8 = M 0 11 ∧ I 3 9 = M 0 12
def VOp (I M : Nat → Nat → Int32) (v : Nat) : Prop := (M (20 + v) 9 = 0 ∧ I (24 + v) 4 = 0) ∨ (M (20 + v) 9 = 1 ∧ I (24 + v) 4 = 1 ∧ I (24 + v) 6 = M (20 + v) 4 ∧ I (24 + v) 5 = M (20 + v) 5)
def VCl (I M : Nat → Nat → Int32) (v : Nat) : Prop := (M (20 + v) 6 = -1 ∧ I (24 + v) 7 = -1000) ∨ ∃ n, n ≤ 200 ∧ M (20 + v) 6 = nI n ∧ I (24 + v) 7 = nI n
def VTo (I M : Nat → Nat → Int32) (v : Nat) : Prop := (M (20 + v) 7 = 0 ∧ I (24 + v) 8 = 0 ∧ I (24 + v) 9 = 0 ∧ I (24 + v) 10 = -1) ∨ (M (20 + v) 7 = 1 ∧ I (24 + v) 8 = 1 ∧ I (24 + v) 9 = 0 ∧ I (24 + v) 10 = M (20 + v) 8) ∨ (M (20 + v) 7 = 2 ∧ I (24 + v) 8 = 0 ∧ I (24 + v) 9 = 1 ∧ I (24 + v) 10 = M (20 + v) 8)
def VSt (I M : Nat → Nat → Int32) (v : Nat) : Prop := VOp I M v ∧ VCl I M v ∧ VTo I M v
theorem VSt_c {I J M Q : Nat → Nat → Int32} {v : Nat} (h : VSt I M v) (h1 : J (24 + v) = I (24 + v)) (h2 : Q (20 + v) = M (20 + v)) : VSt J Q v := by
  unfold VSt VOp VCl VTo at h ⊢; rw [h1, h2]; exact h
/-- within a row -/
def RRow (J Q : Nat → Nat → Int32) (S : SZ) (r : Nat) : Prop := (r ≤ 200 ∧ J 3 4 = nI r ∧ Q 0 7 = nI r) ∧ (J 3 5 = Q 0 8 ∧ J 3 6 = Q 0 9) ∧ ((∀ b, b < 4 → J 15 b = Q 5 b) ∧ ∃ g, g ≤ 3 ∧ Q 5 0 = nI g) ∧ RVa J Q ∧ RCo J Q ∧ RLo J Q S ∧ ∀ w, w < 12 → VSt J Q w
theorem RVa_c {J K Q P : Nat → Nat → Int32} {v : Nat} (h : RVa J Q) (j1 : ∀ w, w < 12 → w ≠ v → K (24 + w) = J (24 + w)) (j3 : ∀ b, b < 4 → K (24 + v) b = J (24 + v) b) (q1 : ∀ w, w < 12 → w ≠ v → P (20 + w) = Q (20 + w)) (q3 : ∀ b, b < 4 → P (20 + v) b = Q (20 + v) b) : RVa K P := fun w hw => by
  have hw2 := h w hw
  by_cases e : w = v
  · subst e
    refine ⟨fun b hb => by rw [j3 b hb, q3 b hb]; exact hw2.1 b hb, ?_, ?_⟩
    · rw [q3 1 (by decide)]; exact hw2.2.1
    · rw [q3 3 (by decide)]; exact hw2.2.2
  · rw [j1 w hw e, q1 w hw e]; exact hw2
theorem RRow_v {J K Q P : Nat → Nat → Int32} {S T : SZ} {r v : Nat} (h : RRow J Q S r) (j1 : ∀ a, a ≠ 24 + v → a ≠ 3 → (a < 17 ∨ 22 < a) → K a = J a) (j2 : ∀ b, b ≠ 8 → b ≠ 9 → K 3 b = J 3 b) (j3 : ∀ b, b < 4 → K (24 + v) b = J (24 + v) b) (q1 : ∀ a, a ≠ 20 + v → a ≠ 0 → a ≠ 3 → a < 8000 → P a = Q a) (q2 : ∀ b, b ≠ 11 → b ≠ 12 → P 0 b = Q 0 b) (q3 : ∀ b, b < 4 → P (20 + v) b = Q (20 + v) b) (c : RCo K P) (l : RLo K P T) (s : VSt K P v) : RRow K P T r := by
  obtain ⟨⟨h1, h2, h3⟩, ⟨h4, h5⟩, ⟨h6, h7⟩, h8, -, -, h11⟩ := h
  have w1 : ∀ w, w < 12 → w ≠ v → K (24 + w) = J (24 + w) := fun w hw e => j1 _ (by omega) (by omega) (by omega)
  have w2 : ∀ w, w < 12 → w ≠ v → P (20 + w) = Q (20 + w) := fun w hw e => q1 _ (by omega) (by omega) (by omega) (by omega)
  by_cases hv : v < 12
  · refine ⟨⟨h1, by rw [j2 4 (by decide) (by decide)]; exact h2, by rw [q2 7 (by decide) (by decide)]; exact h3⟩, ⟨by rw [j2 5 (by decide) (by decide), q2 8 (by decide) (by decide)]; exact h4, by rw [j2 6 (by decide) (by decide), q2 9 (by decide) (by decide)]; exact h5⟩, ⟨fun b hb => by rw [j1 15 (by omega) (by omega) (by omega), q1 5 (by omega) (by omega) (by omega) (by omega)]; exact h6 b hb, by rw [q1 5 (by omega) (by omega) (by omega) (by omega)]; exact h7⟩, RVa_c h8 w1 j3 w2 q3, c, l, fun w hw => ?_⟩
    by_cases e : w = v
    · subst e; exact s
    · exact VSt_c (h11 w hw) (w1 w hw e) (w2 w hw e)
  · refine ⟨⟨h1, by rw [j2 4 (by decide) (by decide)]; exact h2, by rw [q2 7 (by decide) (by decide)]; exact h3⟩, ⟨by rw [j2 5 (by decide) (by decide), q2 8 (by decide) (by decide)]; exact h4, by rw [j2 6 (by decide) (by decide), q2 9 (by decide) (by decide)]; exact h5⟩, ⟨fun b hb => ?_, ?_⟩, RVa_c h8 w1 j3 w2 q3, c, l, fun w hw => VSt_c (h11 w hw) (w1 w hw (by omega)) (w2 w hw (by omega))⟩
    · rw [j1 15 (by omega) (by omega) (by omega), q1 5 (by omega) (by omega) (by omega) (by omega)]; exact h6 b hb
    · rw [q1 5 (by omega) (by omega) (by omega) (by omega)]; exact h7
theorem RLo_c {J K Q P : Nat → Nat → Int32} {S : SZ} (h : RLo J Q S) (h1 : K 17 6 = J 17 6) (h2 : ∀ b, b < 5 → K (18 + b) = J (18 + b)) (h3 : ∀ n, P (8000 + n) = Q (8000 + n)) : RLo K P S :=
  ⟨h1.trans h.1, h.2.1, fun n hn b hb => by rw [h2 b hb, h3 n]; exact h.2.2 n hn b hb⟩
theorem clV_n {I : Nat → Nat → Int32} {v a : Nat} (h : a ≠ 24 + v) : clV I v a = I a := by
  unfold clV; split
  · rw [up2_row h, up2_row h]
  · rw [up2_row h, up2_row h, up2_row h, up2_row h]
theorem mvV_n {I : Nat → Nat → Int32} {v a : Nat} {x : Int32} (h : a ≠ 24 + v) (h3 : a ≠ 3) : mvV I v x a = I a := by
  unfold mvV
  split
  · split
    · rfl
    · split
      · exact up2_row h
      · rw [clV_n h, up2_row h]
  · split
    · unfold opV; rw [up2_row h3, up2_row h, up2_row h, up2_row h]
    · exact up2_row h
theorem mvV_b {I : Nat → Nat → Int32} {v b : Nat} {x : Int32} (h : b < 4) : mvV I v x (24 + v) b = I (24 + v) b := by
  unfold mvV
  split
  · split
    · rfl
    · split
      · exact up2_n (Or.inr (by omega))
      · unfold clV; split
        · rw [up2_n (Or.inr (by omega)), up2_n (Or.inr (by omega)), up2_n (Or.inr (by omega))]
        · rw [up2_n (Or.inr (by omega)), up2_n (Or.inr (by omega)), up2_n (Or.inr (by omega)), up2_n (Or.inr (by omega)), up2_n (Or.inr (by omega))]
  · split
    · unfold opV; rw [up2_row (by omega), up2_n (Or.inr (by omega)), up2_n (Or.inr (by omega)), up2_n (Or.inr (by omega))]
    · exact up2_n (Or.inr (by omega))
theorem n10 : ¬ (1 : Int32) = 0 := by decide
/-- a valve opens, stays or closes -/
theorem st1 {J Q : Nat → Nat → Int32} {S : SZ} {r v : Nat} {h : Int32} (w : RRow J Q S r) (hv : v < 12) (hh : h = 0 ∨ h = 1) : RRow (mvV J v h) (moB Q v h) S r := by
  have w0 := w
  obtain ⟨⟨h1, h2, h3⟩, ⟨h4, h5⟩, ⟨h6, g, hg, h7⟩, h8, ⟨h9, h9b⟩, h10, h11⟩ := w
  have hs := h11 v hv
  have hgap : J 15 0 = nI g := (h6 0 (by decide)).trans h7
  refine RRow_v (v := v) w0 (fun a h1 h2 _ => mvV_n h1 h2) (fun b h1 _ => mvV_3 h1) (fun b hb => mvV_b hb) (fun a q1 q2 _ _ => by rw [moB_n q1, moA_n q1 q2]) (fun b q1 _ => by rw [moB_n (by omega), moA_0 q1]) (fun b hb => by rw [moB_v (by omega) (by omega) (by omega), moA_v (by omega) (by omega) (by omega)]) ?_ (RLo_c h10 (mvV_17 6) (fun b hb => mvV_n (by omega) (by omega)) (fun n => by rw [moB_n (by omega), moA_n (by omega) (by omega)])) ?_
  · constructor
    · show mvV J v h 3 8 = moB Q v h 0 11
      rw [moB_n (by omega)]
      unfold mvV moA
      rcases hh with rfl | rfl
      · rw [if_pos rfl, if_pos rfl]
        have e : mo1 Q v 0 0 11 = Q 0 11 := by unfold mo1; exact congrFun (up2_row (by omega)) 11
        rw [e, ← h9]
        split
        · rfl
        · split
          · rw [up2_row (by omega)]
          · rw [clV_n (by omega), up2_row (by omega)]
      · rw [if_neg n10, if_neg n10]
        rcases hs.1 with ⟨a, b⟩ | ⟨a, b, -, -⟩
        · rw [a, b, if_pos rfl, if_pos rfl]
          unfold opV
          rw [up2_s, up2_s, up2_row (by omega), h9]
        · rw [a, b, if_neg n10, if_neg n10]
          unfold mo1
          rw [up2_row (by omega), up2_row (by omega), h9]
    · show mvV J v h 3 9 = moB Q v h 0 12
      rw [moB_n (by omega), moA_0 (by decide), mvV_3 (by decide)]; exact h9b
  · obtain ⟨ho, hc, ht⟩ := hs
    rcases hh with rfl | rfl
    · rcases ho with ⟨a, b⟩ | ⟨a, b, c, d⟩
      · have eJ : mvV J v 0 = J := by unfold mvV; rw [if_pos rfl, if_pos b]
        have eA : moA Q v 0 = up2 Q (20 + v) 4 (Q (20 + v) 4 + 1) := by unfold moA mo1; rw [if_pos rfl, if_pos rfl]
        have eQ : moB Q v 0 = up2 Q (20 + v) 4 (Q (20 + v) 4 + 1) := by
          unfold moB moBf; rw [eA, if_pos]
          rw [up2_n (Or.inr (by decide))]; exact a
        rw [eJ, eQ]
        have f : ∀ b, b ≠ 4 → up2 Q (20 + v) 4 (Q (20 + v) 4 + 1) (20 + v) b = Q (20 + v) b := fun b hb => up2_n (Or.inr hb)
        unfold VSt VOp VCl VTo
        rw [f 9 (by decide), f 6 (by decide), f 7 (by decide), f 8 (by decide)]
        exact ⟨Or.inl ⟨a, b⟩, hc, ht⟩
      · have eA : moA Q v 0 = up2 Q (20 + v) 4 (Q (20 + v) 4 + 1) := by unfold moA mo1; rw [if_pos rfl, if_pos rfl]
        have f : ∀ b, b ≠ 4 → up2 Q (20 + v) 4 (Q (20 + v) 4 + 1) (20 + v) b = Q (20 + v) b := fun b hb => up2_n (Or.inr hb)
        by_cases m : Q (20 + v) 4 + 1 ≤ nI g
        · have eJ : mvV J v 0 = up2 J (24 + v) 6 (Q (20 + v) 4 + 1) := by unfold mvV; rw [if_pos rfl, if_neg (by rw [b]; decide), hgap, c, if_pos m]
          have eQ : moB Q v 0 = up2 Q (20 + v) 4 (Q (20 + v) 4 + 1) := by
            unfold moB moBf; rw [eA, f 9 (by decide), if_neg (by rw [a]; decide), up2_s, up2_row (by omega), h7, if_pos m]
          have f2 : ∀ b, b ≠ 6 → up2 J (24 + v) 6 (Q (20 + v) 4 + 1) (24 + v) b = J (24 + v) b := fun b hb => up2_n (Or.inr hb)
          rw [eJ, eQ]
          unfold VSt VOp VCl VTo
          rw [f 9 (by decide), f 6 (by decide), f 7 (by decide), f 8 (by decide), f 5 (by decide), f2 4 (by decide), f2 5 (by decide), f2 7 (by decide), f2 8 (by decide), f2 9 (by decide), f2 10 (by decide), up2_s, up2_s]
          exact ⟨Or.inr ⟨a, b, rfl, d⟩, hc, ht⟩
        · have eJ : mvV J v 0 = clV (up2 J (24 + v) 6 (Q (20 + v) 4 + 1)) v := by unfold mvV; rw [if_pos rfl, if_neg (by rw [b]; decide), hgap, c, if_neg m]
          have eQ : moB Q v 0 = up2 (up2 (up2 (up2 Q (20 + v) 4 (Q (20 + v) 4 + 1)) (20 + v) 9 0) (20 + v) 6 (nI r)) (20 + v) 7 (if Q (20 + v) 7 = 1 then 2 else Q (20 + v) 7) := by
            unfold moB moBf; rw [eA, f 9 (by decide), if_neg (by rw [a]; decide), up2_s, up2_row (a := 5) (by omega), h7, if_neg m, up2_row (a := 0) (by omega), h3, f 7 (by decide)]
          rw [eQ, eJ]
          have f2 : ∀ b, b ≠ 6 → up2 J (24 + v) 6 (Q (20 + v) 4 + 1) (24 + v) b = J (24 + v) b := fun b hb => up2_n (Or.inr hb)
          have f3 : up2 J (24 + v) 6 (Q (20 + v) 4 + 1) 3 4 = nI r := by rw [up2_row (by omega)]; exact h2
          rcases ht with ⟨t1, t2, t3, t4⟩ | ⟨t1, t2, t3, t4⟩ | ⟨t1, t2, t3, t4⟩
          · have eC : clV (up2 J (24 + v) 6 (Q (20 + v) 4 + 1)) v = up2 (up2 (up2 J (24 + v) 6 (Q (20 + v) 4 + 1)) (24 + v) 4 0) (24 + v) 7 (nI r) := by unfold clV; rw [f2 8 (by decide), t2, if_pos rfl, f3]
            rw [eC, t1]
            unfold VSt VOp VCl VTo
            simp [up2, t2, t3, t4]
            exact Or.inr ⟨r, h1, rfl⟩
          · have eC : clV (up2 J (24 + v) 6 (Q (20 + v) 4 + 1)) v = up2 (up2 (up2 (up2 (up2 J (24 + v) 6 (Q (20 + v) 4 + 1)) (24 + v) 4 0) (24 + v) 7 (nI r)) (24 + v) 8 0) (24 + v) 9 1 := by unfold clV; rw [f2 8 (by decide), t2, if_neg (by decide), f3]
            rw [eC, t1]
            unfold VSt VOp VCl VTo
            simp [up2, t2, t3, t4]
            exact Or.inr ⟨r, h1, rfl⟩
          · have eC : clV (up2 J (24 + v) 6 (Q (20 + v) 4 + 1)) v = up2 (up2 (up2 J (24 + v) 6 (Q (20 + v) 4 + 1)) (24 + v) 4 0) (24 + v) 7 (nI r) := by unfold clV; rw [f2 8 (by decide), t2, if_pos rfl, f3]
            rw [eC, t1]
            unfold VSt VOp VCl VTo
            simp [up2, t2, t3, t4]
            exact Or.inr ⟨r, h1, rfl⟩
    · have hg0 : (0 : Int32) ≤ nI g := nI_pos' (by omega)
      rcases ho with ⟨a, b⟩ | ⟨a, b, c, d⟩
      · have eJ : mvV J v 1 = up2 (up2 (up2 (up2 J (24 + v) 6 0) (24 + v) 4 1) (24 + v) 5 (nI r)) 3 8 (J 3 8 + 1) := by
          unfold mvV; rw [if_neg n10, if_pos b]; unfold opV
          rw [up2_row (a := 3) (by omega), h2]
        have eA : moA Q v 1 = up2 (up2 (up2 (up2 Q (20 + v) 4 0) (20 + v) 9 1) (20 + v) 5 (nI r)) 0 11 (Q 0 11 + 1) := by unfold moA mo1; rw [if_neg n10, if_neg n10, if_pos a, h3]
        have eQ : moB Q v 1 = up2 (up2 (up2 (up2 Q (20 + v) 4 0) (20 + v) 9 1) (20 + v) 5 (nI r)) 0 11 (Q 0 11 + 1) := by
          unfold moB moBf; rw [eA, if_neg, if_pos]
          · rw [up2_row (by omega), up2_n (Or.inr (by decide)), up2_n (Or.inr (by decide)), up2_s, up2_row (a := 5) (by omega), up2_row (a := 5) (by omega), up2_row (a := 5) (by omega), up2_row (a := 5) (by omega), h7]; exact hg0
          · rw [up2_row (by omega), up2_n (Or.inr (by decide)), up2_s]; decide
        rw [eJ, eQ]
        rw [show VSt (up2 (up2 (up2 (up2 J (24 + v) 6 0) (24 + v) 4 1) (24 + v) 5 (nI r)) 3 8 (J 3 8 + 1)) (up2 (up2 (up2 (up2 Q (20 + v) 4 0) (20 + v) 9 1) (20 + v) 5 (nI r)) 0 11 (Q 0 11 + 1)) v = VSt (up2 (up2 (up2 J (24 + v) 6 0) (24 + v) 4 1) (24 + v) 5 (nI r)) (up2 (up2 (up2 Q (20 + v) 4 0) (20 + v) 9 1) (20 + v) 5 (nI r)) v from by unfold VSt VOp VCl VTo; rw [up2_row (a := 24 + v) (by omega), up2_row (a := 20 + v) (by omega)]]
        unfold VCl at hc
        unfold VTo at ht
        unfold VSt VOp VCl VTo
        simp [up2]
        exact ⟨hc, ht⟩
      · have eJ : mvV J v 1 = up2 J (24 + v) 6 0 := by unfold mvV; rw [if_neg n10, if_neg (by rw [b]; decide)]
        have eA : moA Q v 1 = up2 Q (20 + v) 4 0 := by unfold moA mo1; rw [if_neg n10, if_neg n10, if_neg (by rw [a]; decide)]
        have eQ : moB Q v 1 = up2 Q (20 + v) 4 0 := by
          unfold moB moBf; rw [eA, up2_n (b := 9) (Or.inr (by decide)), if_neg (by rw [a]; decide), up2_s, up2_row (by omega), h7, if_pos hg0]
        rw [eJ, eQ]
        unfold VCl at hc
        unfold VTo at ht
        unfold VSt VOp VCl VTo
        simp [up2, a, b, d]
        exact ⟨hc, ht⟩
