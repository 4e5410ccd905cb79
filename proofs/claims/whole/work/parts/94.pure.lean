/-! THE RELATION kept by what changes the state -/
theorem st_fl {I J M : Nat → Nat → Int32} {S : SZ} {cd : Nat} {C : Int32} {α : Type} {R : α → (Nat → Nat → Int32) → Prop} {x y : α} (h : REL I M S) (hc : C = nI cd) (hn : ¬ C = 0) (w : WF cd I J R x) : up2 M 0 15 C 0 15 = nI cd ∧ (cd = 0 → x = y) ∧ REL J (up2 M 0 15 C) S :=
  ⟨by rw [up2_s]; exact hc, fun q => absurd (hc.trans (by rw [q]; rfl)) hn, by rw [w.2 (fun q => hn (hc.trans (by rw [q]; rfl)))]; exact REL_up h⟩
theorem st_mu {I J M N : Nat → Nat → Int32} {S : SZ} {cd : Nat} {C : Int32} {α : Type} {R : α → (Nat → Nat → Int32) → Prop} {x y : α} (h : REL I M S) (hc : C = nI cd) (hcd : cd ≤ 9) (w : WF cd I J R x) (hN : cd = 0 → R x J → x = y ∧ N 0 15 = 0 ∧ REL J N S) : (if C = 0 then N else up2 M 0 15 C) 0 15 = nI cd ∧ (cd = 0 → x = y) ∧ REL J (if C = 0 then N else up2 M 0 15 C) S := by
  by_cases q : C = 0
  · have q2 : cd = 0 := (nI_z (by omega)).mp (hc.symm.trans q)
    obtain ⟨a, b, c⟩ := hN q2 (w.1 q2)
    rw [if_pos q]
    exact ⟨b.trans (by rw [q2]; rfl), fun _ => a, c⟩
  · rw [if_neg q]; exact st_fl h hc q w
theorem AR_c {I J : Nat → Nat → Int32} {S T : SZ} {fa : Nat → Nat} (h : AR I S fa) (h7 : J 0 7 = I 0 7) (h8 : ∀ j, j < S.1 → j < 4 → J (8 + j) = I (8 + j)) (h13 : J 13 = I 13) (h14 : J 14 = I 14) (h1 : S.1 ≤ T.1) (h2 : T.2.1 = S.2.1) (h4 : S.1 ≤ 4) : AR J T fa := by
  rcases h with q | ⟨j, a, b, c⟩
  · exact Or.inl (h7.trans q)
  · exact Or.inr ⟨j, by omega, h7.trans b, by rw [h2, iscn_ext (h8 j a (by omega)) h13 h14]; exact c⟩
theorem pn_0 {I : Nat → Nat → Int32} {j i b : Nat} {v t q : Int32} (hv : v.toNatClampNeg = j) (hi : i < 200) (hb : b ≠ 7) : pnI I v (nI i) t q 0 b = I 0 b := by
  unfold pnI
  rw [hv]
  split
  · rfl
  · rw [fga_n (Or.inr hb), ph_nI hi, up2_row (by omega)]
theorem pn_n {I : Nat → Nat → Int32} {j i a : Nat} {v t q : Int32} (hv : v.toNatClampNeg = j) (hi : i < 200) (ha : a ≠ 0) (ha2 : a ≠ 8 + j) : pnI I v (nI i) t q a = I a := by
  unfold pnI
  rw [hv]
  split
  · rfl
  · have e : fga (ph I j (nI i) t q) v a = ph I j (nI i) t q a := funext fun b => fga_n (Or.inl ha)
    rw [e, ph_nI hi, up2_row ha2]
theorem st_punch {I J M : Nat → Nat → Int32} {S : SZ} {x : Int64} (h : REL I M S) (v r t q : Int32) (hq : q = 0 ∨ q = 1) (w : WF (kpu I v r t) I J (fun x J => ∃ u, (kpu I v r t = 0 ∧ pnI I v r t q = J ∧ hh I v.toNatClampNeg r t = u) ∧ cvB u = x) x) : (if hoC S v r t = 0 then up2 (up2 M 0 15 0) (6000 + 200 * v.toNatClampNeg + r.toNatClampNeg) t.toNatClampNeg q else up2 M 0 15 (hoC S v r t)) 0 15 = nI (kpu I v r t) ∧ (kpu I v r t = 0 → x = cvB (if hoC S v r t = 0 then M (6000 + 200 * v.toNatClampNeg + r.toNatClampNeg) t.toNatClampNeg else 0)) ∧ REL J (if hoC S v r t = 0 then up2 (up2 M 0 15 0) (6000 + 200 * v.toNatClampNeg + r.toNatClampNeg) t.toNatClampNeg q else up2 M 0 15 (hoC S v r t)) S := by
  have e := c_ho h.2.1.1 h.2.1.2.1 v r t
  refine st_mu h e (by unfold kpu; (repeat' split) <;> decide) w (fun c ⟨u, ⟨_, e1, e2⟩, e3⟩ => ⟨?_, ?_, ?_⟩)
  · rw [e, c, if_pos nI00, ← e3, ← e2, (s_hole h.2.1 c).2]
  · rw [up2_row (by omega), up2_s]
  · have hR := s_punch (RR_up (b := 15) (x := 0) h.2.1) hq c
    obtain ⟨j, i, k, hj, hj4, hi, hk, rfl, rfl, rfl⟩ := k_ho h.2.1 c
    have hcj : (nI j).toNatClampNeg = j := nI_clamp (by omega)
    rw [nI_clamp (n := j) (by omega), nI_clamp (n := i) (by omega), nI_clamp (n := k) (by omega)] at hR ⊢
    subst e1
    have fn : ∀ a, a ≠ 0 → a ≠ 8 + j → pnI I (nI j) (nI i) (nI k) q a = I a := fun a q1 q2 => pn_n hcj hi q1 q2
    have fm : ∀ a, a < 6000 ∨ 6800 ≤ a → up2 (up2 M 0 15 0) (6000 + 200 * j + i) k q a = up2 M 0 15 0 a := fun a ha => up2_row (by omega)
    have hu := REL_up (x := 0) h
    obtain ⟨fa, la, pa, hn, ha⟩ := hu.2.2.1
    refine REL_c hu ⟨hu.1.1, by rw [fm 1 (by omega)]; exact hu.1.2.1, by rw [fm 2 (by omega)]; exact hu.1.2.2.1, by rw [fm 3 (by omega)]; exact hu.1.2.2.2⟩ hR ⟨fa, la, pa, RN_c hn (by rw [fn 2 (by omega) (by omega)]) (fn 12 (by omega) (by omega)) (fn 13 (by omega) (by omega)) (fn 14 (by omega) (by omega)) (fun n _ => fm _ (by omega)) rfl, ?_⟩ (RSe_c hu.2.2.2.1 (fn 15 (by omega) (by omega)) (pn_0 hcj hi (by decide)) (pn_0 hcj hi (by decide)) (fm 5 (by omega)) (fun b _ => by rw [fm 0 (by omega)])) (fun v hv => ?_) (fn 3 (by omega) (by omega)) (by rw [fn 99 (by omega) (by omega)]) (fun a q1 q2 => fn a (by omega) (by omega)) (fun v hv b _ => by rw [fn (24 + v) (by omega) (by omega)]) (fun b _ _ => by rw [fm 0 (by omega)]) (by rw [fm 0 (by omega)]) (fm 6 (by omega)) (fun v hv b _ => by rw [fm (20 + v) (by omega)]) (fun n => fm _ (by omega)) (Nat.le_refl _) rfl
    · by_cases c1 : hh I (nI j).toNatClampNeg (nI i) (nI k) = q
      · have e9 : pnI I (nI j) (nI i) (nI k) q = I := by unfold pnI; rw [if_pos c1]
        rw [e9]; exact ha
      · by_cases c2 : I 0 7 = nI j
        · refine Or.inl ?_
          unfold pnI
          rw [if_neg c1]
          unfold fga
          rw [hcj, ph_nI hi, up2_row (a := 0) (by omega), if_pos c2, up2_s]
        · have e7 : pnI I (nI j) (nI i) (nI k) q 0 7 = I 0 7 := by
            unfold pnI
            rw [if_neg c1]
            unfold fga
            rw [hcj, ph_nI hi, up2_row (a := 0) (by omega), if_neg c2, up2_row (by omega)]
          rcases ha with z | ⟨j2, a1, a2, a3⟩
          · exact Or.inl (e7.trans z)
          · have hne : j2 ≠ j := fun z => c2 (a2.trans (by rw [z]))
            exact Or.inr ⟨j2, a1, e7.trans a2, by rw [iscn_ext (fn _ (by omega) (by omega)) (fn 13 (by omega) (by omega)) (fn 14 (by omega) (by omega))]; exact a3⟩
    · rw [fn (24 + v) (by omega) (by omega), fm (20 + v) (by omega)]; exact hu.2.2.2.2.1 v hv
/-- a new roll -/
theorem REL_ro {I J M Q : Nat → Nat → Int32} {S : SZ} (h : REL I M S) (h4 : S.1 < 4) (hR : RR J Q (addS1 S)) (fi : ∀ a, a ≠ 0 → a ≠ 8 + S.1 → J a = I a) (fi0 : ∀ b, b ≠ 6 → J 0 b = I 0 b) (fq : ∀ a, a ≠ 1 → ¬ (6000 + 200 * S.1 ≤ a ∧ a < 6000 + 200 * S.1 + 200) → Q a = M a) (q12 : Q 1 2 = nI (S.1 + 1)) : REL J Q (addS1 S) := by
  obtain ⟨fa, la, pa, hn, ha⟩ := h.2.2.1
  refine REL_c h ⟨WS_1 h.1.1 h4, q12, by rw [fq 2 (by omega) (by omega)]; exact h.1.2.2.1, by rw [fq 3 (by omega) (by omega)]; exact h.1.2.2.2⟩ hR ⟨fa, la, pa, RN_c hn (by rw [fi 2 (by omega) (by omega)]) (fi 12 (by omega) (by omega)) (fi 13 (by omega) (by omega)) (fi 14 (by omega) (by omega)) (fun n hn2 => fq _ (by omega) (by omega)) rfl, AR_c ha (fi0 7 (by decide)) (fun j hj _ => fi _ (by omega) (by omega)) (fi 13 (by omega) (by omega)) (fi 14 (by omega) (by omega)) (Nat.le_succ _) rfl (by omega)⟩ (RSe_c h.2.2.2.1 (fi 15 (by omega) (by omega)) (fi0 8 (by decide)) (fi0 9 (by decide)) (fq 5 (by omega) (by omega)) (fun b _ => by rw [fq 0 (by omega) (by omega)])) (fun v hv => ?_) (fi 3 (by omega) (by omega)) (by rw [fi 99 (by omega) (by omega)]) (fun a q1 q2 => fi a (by omega) (by omega)) (fun v hv b _ => by rw [fi (24 + v) (by omega) (by omega)]) (fun b _ _ => by rw [fq 0 (by omega) (by omega)]) (by rw [fq 0 (by omega) (by omega)]) (fq 6 (by omega) (by omega)) (fun v hv b _ => by rw [fq (20 + v) (by omega) (by omega)]) (fun n => fq _ (by omega) (by omega)) (Nat.le_succ _) rfl
  rw [fi (24 + v) (by omega) (by omega), fq (20 + v) (by omega) (by omega)]; exact h.2.2.2.2.1 v hv
theorem st_roll {I J M : Nat → Nat → Int32} {S : SZ} {x : Int64} (h : REL I M S) (h4 : S.1 < 4) (w : WF (krl I) I J (fun x J => ∃ u, (krl I = 0 ∧ up2 I 0 6 (I 0 6 + 1) = J ∧ I 0 6 + 1 - 1 = u) ∧ cvI u = x) x) : roM (up2 M 0 15 0) S.1 0 15 = nI (krl I) ∧ (krl I = 0 → x = cvI (nI S.1)) ∧ REL J (roM (up2 M 0 15 0) S.1) (addS1 S) := by
  have e := c_rl h.2.1.1 h.2.1.2.1
  rw [if_pos h4] at e
  obtain ⟨u, ⟨-, rfl, e2⟩, e3⟩ := w.1 e
  refine ⟨?_, fun _ => ?_, ?_⟩
  · rw [e]; unfold roM
    rw [up2_row (by omega), up2_row (by omega), rwM_n (by omega), up2_s]; rfl
  · rw [← e3, ← e2, h.2.1.1, nI_1, nI_pred]
  · refine REL_ro (REL_up (x := 0) h) h4 (RR_roll (RR_up h.2.1) h4) (fun a q1 q2 => up2_row q1) (fun b q => up2_n (Or.inr q)) (fun a q1 q2 => ?_) ?_
    · unfold roM; rw [up2_row q1, up2_row q1, rwM_n q2]
    · unfold roM; rw [up2_s]
theorem st_copy {I J M : Nat → Nat → Int32} {S : SZ} {x : Int64} (h : REL I M S) (v : Int32) (hC : cpC S v = 0) (w : WF (kcp I v) I J (fun x J => ∃ u, (kcp I v = 0 ∧ upr (up2 I 0 6 (I 0 6 + 1)) (8 + S.1) (fun q => if q < 200 then (up2 I 0 6 (I 0 6 + 1)) (8 + v.toNatClampNeg) q else (up2 I 0 6 (I 0 6 + 1)) (8 + S.1) q) = J ∧ nI S.1 = u) ∧ cvI u = x) x) : coM (up2 M 0 15 0) v.toNatClampNeg S.1 0 15 = nI (kcp I v) ∧ (kcp I v = 0 → x = cvI (nI S.1)) ∧ REL J (coM (up2 M 0 15 0) v.toNatClampNeg S.1) (addS1 S) := by
  have e := c_cp h.2.1.1 h.2.1.2.1 v
  have e0 : kcp I v = 0 := (nI_z (by unfold kcp; (repeat' split) <;> decide)).mp (e.symm.trans hC)
  obtain ⟨u, ⟨-, rfl, e2⟩, e3⟩ := w.1 e0
  have hrp : ¬ rp I v = 0 := fun z => by unfold kcp at e0; rw [if_pos z] at e0; cases e0
  have h4 : S.1 < 4 := by
    unfold kcp at e0
    rw [if_neg hrp, h.2.1.1] at e0
    by_cases c : nI S.1 < 4
    · exact (lt4_nI h.2.1.2.1).mp c
    · rw [if_neg c] at e0; cases e0
  obtain ⟨j, hj, hj4, rfl, ej⟩ := k_r h.2.1 hrp
  rw [ej]
  refine ⟨?_, fun _ => ?_, ?_⟩
  · rw [e0]; unfold coM
    rw [up2_row (by omega), up2_row (by omega), cpM_n (by omega), up2_s]; rfl
  · rw [← e3, ← e2]
  · refine REL_ro (REL_up (x := 0) h) h4 (RR_copy (RR_up h.2.1) h4 hj) (fun a q1 q2 => by rw [upr_n q2, up2_row q1]) (fun b q => by rw [upr_n (by omega), up2_n (Or.inr q)]) (fun a q1 q2 => ?_) ?_
    · unfold coM; rw [up2_row q1, up2_row q1, cpM_n q2]
    · unfold coM; rw [up2_s]
/-- the music changes -/
theorem REL_mu {I J M Q : Nat → Nat → Int32} {S T : SZ} (h : REL I M S) (hz : RZ Q T) (hN : ∃ fa la pa, RN J Q T fa la pa) (h7 : J 0 7 = -1) (fi : ∀ a, a ≠ 0 → a ≠ 2 → a ≠ 12 → a ≠ 13 → a ≠ 14 → J a = I a) (fi0 : ∀ b, b ≠ 7 → J 0 b = I 0 b) (fq : ∀ a, a ≠ 2 → (a < 7000 ∨ 8000 ≤ a) → Q a = M a) (hT1 : T.1 = S.1) (hT3 : T.2.2.1 = S.2.2.1) : REL J Q T := by
  obtain ⟨fa, la, pa, hn⟩ := hN
  refine REL_c h hz (RR_c h.2.1 (fi0 6 (by decide)) (fun j hj => fi _ (by omega) (by omega) (by omega) (by omega) (by omega)) (fun a q1 q2 => fq a (by omega) (by omega)) hT1) ⟨fa, la, pa, hn, Or.inl h7⟩ (RSe_c h.2.2.2.1 (fi 15 (by decide) (by decide) (by decide) (by decide) (by decide)) (fi0 8 (by decide)) (fi0 9 (by decide)) (fq 5 (by omega) (by omega)) (fun b _ => by rw [fq 0 (by omega) (by omega)])) (fun v hv => ?_) (fi 3 (by decide) (by decide) (by decide) (by decide) (by decide)) (by rw [fi 99 (by decide) (by decide) (by decide) (by decide) (by decide)]) (fun a q1 q2 => fi a (by omega) (by omega) (by omega) (by omega) (by omega)) (fun v hv b _ => by rw [fi (24 + v) (by omega) (by omega) (by omega) (by omega) (by omega)]) (fun b _ _ => by rw [fq 0 (by omega) (by omega)]) (by rw [fq 0 (by omega) (by omega)]) (fq 6 (by omega) (by omega)) (fun v hv b _ => by rw [fq (20 + v) (by omega) (by omega)]) (fun n => fq _ (by omega) (by omega)) (by omega) hT3
  rw [fi (24 + v) (by omega) (by omega) (by omega) (by omega) (by omega), fq (20 + v) (by omega) (by omega)]; exact h.2.2.2.2.1 v hv
theorem st_note9 {I J M : Nat → Nat → Int32} {S : SZ} {x : Int64} (h : REL I M S) (f l p : Int32) (hC : noC M S f l p = 0) (w : WF (kno I S.2.1 f l p) I J (fun x J => ∃ u, (kno I S.2.1 f l p = 0 ∧ typ (up2 I 0 7 (-1)) S.2.1 f l p = J ∧ nI S.2.1 + 1 = u) ∧ cvI u = x) x) : up2 (up2 (up2 (ntM (up2 M 0 15 0) S.2.1 f l p) (7000 + S.2.1) 2 p) 2 0 ((up2 (ntM (up2 M 0 15 0) S.2.1 f l p) (7000 + S.2.1) 2 p) 2 0 + 1)) 2 2 (nI (S.2.1 + 1)) 0 15 = nI (kno I S.2.1 f l p) ∧ (kno I S.2.1 f l p = 0 → x = cvI (nI (S.2.1 + 1))) ∧ REL J (up2 (up2 (up2 (ntM (up2 M 0 15 0) S.2.1 f l p) (7000 + S.2.1) 2 p) 2 0 ((up2 (ntM (up2 M 0 15 0) S.2.1 f l p) (7000 + S.2.1) 2 p) 2 0 + 1)) 2 2 (nI (S.2.1 + 1))) (addS2 S) := by
  obtain ⟨fa, la, pa, hn, -⟩ := h.2.2.1
  have e := c_no hn f l p
  have e0 : kno I S.2.1 f l p = 0 := (nI_z (by unfold kno; (repeat' split) <;> decide)).mp (e.symm.trans hC)
  obtain ⟨u, ⟨-, rfl, e2⟩, e3⟩ := w.1 e0
  obtain ⟨-, -, -, -, -, -, -, -, -, -, h40, -⟩ := k_no hn e0
  have fq : ∀ a, a ≠ 2 → (a < 7000 ∨ 8000 ≤ a) → up2 (up2 (up2 (ntM (up2 M 0 15 0) S.2.1 f l p) (7000 + S.2.1) 2 p) 2 0 ((up2 (ntM (up2 M 0 15 0) S.2.1 f l p) (7000 + S.2.1) 2 p) 2 0 + 1)) 2 2 (nI (S.2.1 + 1)) a = up2 M 0 15 0 a := fun a q1 q2 => by
    unfold ntM
    rw [up2_row q1, up2_row q1, up2_row (by omega), up2_row (by omega), up2_row (by omega), upr_n (by omega)]
  refine ⟨?_, fun _ => ?_, ?_⟩
  · rw [fq 0 (by omega) (by omega), up2_s, e0]; rfl
  · rw [← e3, ← e2, nI_1]
  · have hu := REL_up (x := 0) h
    refine REL_mu hu ⟨WS_2 h.1.1 h40, by rw [fq 1 (by omega) (by omega)]; exact hu.1.2.1, by rw [up2_s]; rfl, by rw [fq 3 (by omega) (by omega)]; exact hu.1.2.2.2⟩ (RN_note hn e0) ?_ (fun a q1 q2 q3 q4 q5 => ?_) (fun b q => ?_) fq rfl rfl
    · unfold typ; rw [up2_row (by omega), up2_row (by omega), up2_row (by omega), up2_row (by omega), up2_s]
    · unfold typ; rw [up2_row q2, up2_row q5, up2_row q4, up2_row q3, up2_row q1]
    · unfold typ; rw [up2_row (by omega), up2_row (by omega), up2_row (by omega), up2_row (by omega), up2_n (Or.inr q)]
theorem st_wipe {I J M : Nat → Nat → Int32} {S : SZ} (h : REL I M S) (e : up2 (up2 I 0 7 (-1)) 2 3 0 = J) : I 2 3 = nI S.2.1 ∧ REL J (up2 (up2 M 2 0 (M 2 0 + 1)) 2 2 0) (clrS2 S) := by
  obtain ⟨fa, la, pa, hn, -⟩ := h.2.2.1
  subst e
  refine ⟨hn.1, REL_mu h ⟨WS_c2 h.1.1, by rw [up2_row (by omega), up2_row (by omega)]; exact h.1.2.1, by rw [up2_s]; rfl, by rw [up2_row (by omega), up2_row (by omega)]; exact h.1.2.2.2⟩ ⟨fa, la, pa, RN_wipe⟩ (by rw [up2_row (by omega), up2_s]) (fun a q1 q2 _ _ _ => by rw [up2_row q2, up2_row q1]) (fun b q => by rw [up2_row (by omega), up2_n (Or.inr q)]) (fun a q1 _ => by rw [up2_row q1, up2_row q1]) rfl rfl⟩
theorem st_arrange {I J M : Nat → Nat → Int32} {S : SZ} {x : Int64} {fa la pa : Nat → Nat} (h : REL I M S) (hn : RN I M S fa la pa) (v z : Int32) (hC : r1C S v = 0) (w : WF (kr1 I v) I J (fun x J => ∃ u, (kr1 I v = 0 ∧ arr1 I v z la S.2.1 = J ∧ sumB (fun q => bcnt (arr1 I v z la S.2.1 (8 + v.toNatClampNeg) q &&& 4095)) 200 = u) ∧ cvI u = x) x) : arN (arC (up2 M 0 15 0) v.toNatClampNeg 200 0) v.toNatClampNeg fa la pa z S.2.1 0 15 = nI (kr1 I v) ∧ (kr1 I v = 0 → x = cvI (nI (hsM (arN (arC (up2 M 0 15 0) v.toNatClampNeg 200 0) v.toNatClampNeg fa la pa z S.2.1) v.toNatClampNeg 12))) ∧ REL J (arN (arC (up2 M 0 15 0) v.toNatClampNeg 200 0) v.toNatClampNeg fa la pa z S.2.1) S := by
  have e := c_r1 h.2.1.1 h.2.1.2.1 v
  have e0 : kr1 I v = 0 := (nI_z (by unfold kr1; (repeat' split) <;> decide)).mp (e.symm.trans hC)
  obtain ⟨u, ⟨-, rfl, e2⟩, e3⟩ := w.1 e0
  obtain ⟨a1, a2, a3, a4, j, hj, rfl⟩ := s_arr (br := z) h.2.1 hn e0
  have h4 := h.2.1.2.1
  have ej : (nI j).toNatClampNeg = j := nI_clamp (by omega)
  rw [ej] at a1 a2 a3 a4 ⊢
  have hlq : ∀ n, n < S.2.1 → fa n + la n ≤ 200 := fun n hn2 => (hn.2.2.1 n hn2).2.2.2.2.1
  have fq : ∀ a, (a < 6000 ∨ 6800 ≤ a) → arN (arC (up2 M 0 15 0) j 200 0) j fa la pa z S.2.1 a = up2 M 0 15 0 a := fun a ha => by rw [arN_n (by omega) _ hlq, arC_n (by omega)]
  have fi : ∀ a, a ≠ 0 → a ≠ 8 + j → arr1 I (nI j) z la S.2.1 a = I a := fun a q1 q2 => by
    unfold arr1; rw [ej, up2_row q1, pall_row q2, upr_n q2]
  have fi0 : ∀ b, b ≠ 7 → arr1 I (nI j) z la S.2.1 0 b = I 0 b := fun b q => by
    unfold arr1; rw [ej, up2_n (Or.inr q), pall_row (by omega), upr_n (by omega)]
  have hu := REL_up (x := 0) h
  refine ⟨by rw [fq 0 (by omega), up2_s, e0]; rfl, fun _ => ?_, ?_⟩
  · rw [← e3, ← e2, ej, a3]
  · refine REL_c hu ⟨h.1.1, by rw [fq 1 (by omega)]; exact hu.1.2.1, by rw [fq 2 (by omega)]; exact hu.1.2.2.1, by rw [fq 3 (by omega)]; exact hu.1.2.2.2⟩ a1 ⟨fa, la, pa, a2, Or.inr ⟨j, hj, by unfold arr1; rw [up2_s], a4⟩⟩ (RSe_c hu.2.2.2.1 (fi 15 (by omega) (by omega)) (fi0 8 (by decide)) (fi0 9 (by decide)) (fq 5 (by omega)) (fun b _ => by rw [fq 0 (by omega)])) (fun v hv => ?_) (fi 3 (by omega) (by omega)) (by rw [fi 99 (by omega) (by omega)]) (fun a q1 q2 => fi a (by omega) (by omega)) (fun v hv b _ => by rw [fi (24 + v) (by omega) (by omega)]) (fun b _ _ => by rw [fq 0 (by omega)]) (by rw [fq 0 (by omega)]) (fq 6 (by omega)) (fun v hv b _ => by rw [fq (20 + v) (by omega)]) (fun n => fq _ (by omega)) (Nat.le_refl _) rfl
    rw [fi (24 + v) (by omega) (by omega), fq (20 + v) (by omega)]; exact hu.2.2.2.2.1 v hv
