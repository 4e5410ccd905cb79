/-! THE RELATION kept: tellings -/
theorem RVa_u {I M : Nat → Nat → Int32} {v b : Nat} {x : Int32} (h : RVa I M) (h1 : b = 1 → ∃ n, n ≤ 9 ∧ x = nI n) (h3 : b = 3 → ∃ n, n < 12 ∧ x = nI n) : RVa (up2 I (24 + v) b x) (up2 M (20 + v) b x) := fun w hw => by
  obtain ⟨a1, a2, a3⟩ := h w hw
  by_cases e : w = v
  · subst e
    refine ⟨fun c hc => ?_, ?_, ?_⟩
    · by_cases d : c = b
      · rw [d, up2_s, up2_s]
      · rw [up2_n (Or.inr d), up2_n (Or.inr d)]; exact a1 c hc
    · by_cases d : b = 1
      · obtain ⟨n, q1, q2⟩ := h1 d
        exact ⟨n, q1, by rw [d, up2_s]; exact q2⟩
      · rw [up2_n (Or.inr (fun z => d z.symm))]; exact a2
    · by_cases d : b = 3
      · obtain ⟨n, q1, q2⟩ := h3 d
        exact ⟨n, q1, by rw [d, up2_s]; exact q2⟩
      · rw [up2_n (Or.inr (fun z => d z.symm))]; exact a3
  · rw [up2_row (a := 24 + w) (by omega), up2_row (a := 20 + w) (by omega)]; exact ⟨a1, a2, a3⟩
/-- a valve is told something -/
theorem REL_va {I J M Q : Nat → Nat → Int32} {S : SZ} {v : Nat} (h : REL I M S) (hv : v < 12) (hV : RVa J Q) (fi : ∀ a, a ≠ 24 + v → J a = I a) (fi4 : ∀ b, 4 ≤ b → J (24 + v) b = I (24 + v) b) (fq : ∀ a, a ≠ 20 + v → Q a = M a) (fq4 : ∀ b, 4 ≤ b → Q (20 + v) b = M (20 + v) b) : REL J Q S := by
  obtain ⟨fa, la, pa, hn, ha⟩ := h.2.2.1
  refine REL_c h ⟨h.1.1, by rw [fq 1 (by omega)]; exact h.1.2.1, by rw [fq 2 (by omega)]; exact h.1.2.2.1, by rw [fq 3 (by omega)]; exact h.1.2.2.2⟩ (RR_c h.2.1 (by rw [fi 0 (by omega)]) (fun j hj => fi _ (by omega)) (fun a q1 q2 => fq a (by omega)) rfl) ⟨fa, la, pa, RN_c hn (by rw [fi 2 (by omega)]) (fi 12 (by omega)) (fi 13 (by omega)) (fi 14 (by omega)) (fun n _ => fq _ (by omega)) rfl, AR_c ha (by rw [fi 0 (by omega)]) (fun j _ hj => fi _ (by omega)) (fi 13 (by omega)) (fi 14 (by omega)) (Nat.le_refl _) rfl h.2.1.2.1⟩ (RSe_c h.2.2.2.1 (fi 15 (by omega)) (by rw [fi 0 (by omega)]) (by rw [fi 0 (by omega)]) (fq 5 (by omega)) (fun b _ => by rw [fq 0 (by omega)])) hV (fi 3 (by omega)) (by rw [fi 99 (by omega)]) (fun a q1 q2 => fi a (by omega)) (fun w hw b hb => ?_) (fun b _ _ => by rw [fq 0 (by omega)]) (by rw [fq 0 (by omega)]) (fq 6 (by omega)) (fun w hw b hb => ?_) (fun n => fq _ (by omega)) (Nat.le_refl _) rfl
  · by_cases e : w = v
    · subst e; exact fi4 b hb
    · rw [fi (24 + w) (by omega)]
  · by_cases e : w = v
    · subst e; exact fq4 b hb
    · rw [fq (20 + w) (by omega)]
theorem st_valve {I J M : Nat → Nat → Int32} {S : SZ} {x : Int64} (h : REL I M S) (n d q : Int32) (w : WF (kva n d q) I J (fun x J => ∃ u, (kva n d q = 0 ∧ up2 (up2 I (24 + n.toNatClampNeg) 0 d) (24 + n.toNatClampNeg) 1 q = J ∧ I (24 + n.toNatClampNeg) 0 = u) ∧ cvI u = x) x) : (if vaC n d q = 0 then up2 (up2 (up2 M 0 15 0) (20 + n.toNatClampNeg) 0 d) (20 + n.toNatClampNeg) 1 q else up2 M 0 15 (vaC n d q)) 0 15 = nI (kva n d q) ∧ (kva n d q = 0 → x = cvI (if vaC n d q = 0 then M (20 + n.toNatClampNeg) 0 else 0)) ∧ REL J (if vaC n d q = 0 then up2 (up2 (up2 M 0 15 0) (20 + n.toNatClampNeg) 0 d) (20 + n.toNatClampNeg) 1 q else up2 M 0 15 (vaC n d q)) S := by
  have e := c_va n d q
  refine st_mu h e (by unfold kva; (repeat' split) <;> decide) w (fun c ⟨u, ⟨_, e1, e2⟩, e3⟩ => ?_)
  have hvk : ¬ vok n = 0 := fun z => by unfold kva at c; rw [if_pos z] at c; cases c
  have hq : ¬ wi q 0 9 = 0 := fun z => by
    unfold kva at c; rw [if_neg hvk, if_pos z] at c
    by_cases y : wi d 0 5 = 0
    · rw [if_pos y] at c; cases c
    · rw [if_neg y] at c; cases c
  obtain ⟨v, hv, -, ev⟩ := k_vok hvk
  obtain ⟨m, hm, eq, -⟩ := k_wi (n := 9) rfl (by decide) hq
  subst e1
  rw [e, c, if_pos nI00, ev]
  have hu := REL_up (x := 0) h
  refine ⟨by rw [← e3, ← e2, ev]; exact congrArg cvI ((h.2.2.2.2.1 v hv).1 0 (by decide)), by rw [up2_row (by omega), up2_row (by omega), up2_s], ?_⟩
  exact REL_va hu hv (RVa_u (RVa_u hu.2.2.2.2.1 (fun z => by cases z) (fun z => by cases z)) (fun _ => ⟨m, hm, eq⟩) (fun z => by cases z)) (fun a q1 => by rw [up2_row q1, up2_row q1]) (fun b hb => by rw [up2_n (Or.inr (by omega)), up2_n (Or.inr (by omega))]) (fun a q1 => by rw [up2_row q1, up2_row q1]) (fun b hb => by rw [up2_n (Or.inr (by omega)), up2_n (Or.inr (by omega))])
theorem st_use {I J M : Nat → Nat → Int32} {S : SZ} {x : Int64} (h : REL I M S) (n d : Int32) (w : WF (kus n d) I J (fun x J => ∃ u, (kus n d = 0 ∧ up2 I (24 + n.toNatClampNeg) 2 d = J ∧ I (24 + n.toNatClampNeg) 2 = u) ∧ cvI u = x) x) : (if usC n d = 0 then up2 (up2 M 0 15 0) (20 + n.toNatClampNeg) 2 d else up2 M 0 15 (usC n d)) 0 15 = nI (kus n d) ∧ (kus n d = 0 → x = cvI (if usC n d = 0 then M (20 + n.toNatClampNeg) 2 else 0)) ∧ REL J (if usC n d = 0 then up2 (up2 M 0 15 0) (20 + n.toNatClampNeg) 2 d else up2 M 0 15 (usC n d)) S := by
  have e := c_us n d
  refine st_mu h e (by unfold kus; (repeat' split) <;> decide) w (fun c ⟨u, ⟨_, e1, e2⟩, e3⟩ => ?_)
  have hvk : ¬ vok n = 0 := fun z => by unfold kus at c; rw [if_pos z] at c; cases c
  obtain ⟨v, hv, -, ev⟩ := k_vok hvk
  subst e1
  rw [e, c, if_pos nI00, ev]
  have hu := REL_up (x := 0) h
  refine ⟨by rw [← e3, ← e2, ev]; exact congrArg cvI ((h.2.2.2.2.1 v hv).1 2 (by decide)), by rw [up2_row (by omega), up2_s], ?_⟩
  exact REL_va hu hv (RVa_u hu.2.2.2.2.1 (fun z => by cases z) (fun z => by cases z)) (fun a q1 => up2_row q1) (fun b hb => up2_n (Or.inr (by omega))) (fun a q1 => up2_row q1) (fun b hb => up2_n (Or.inr (by omega)))
theorem st_borrow {I J M : Nat → Nat → Int32} {S : SZ} {x : Int64} (h : REL I M S) (n d : Int32) (w : WF (kbo I n d) I J (fun x J => ∃ u, (kbo I n d = 0 ∧ up2 I (24 + n.toNatClampNeg) 3 d = J ∧ I (24 + n.toNatClampNeg) 3 = u) ∧ cvI u = x) x) : (if boC M n d = 0 then up2 (up2 M 0 15 0) (20 + n.toNatClampNeg) 3 d else up2 M 0 15 (boC M n d)) 0 15 = nI (kbo I n d) ∧ (kbo I n d = 0 → x = cvI (if boC M n d = 0 then M (20 + n.toNatClampNeg) 3 else 0)) ∧ REL J (if boC M n d = 0 then up2 (up2 M 0 15 0) (20 + n.toNatClampNeg) 3 d else up2 M 0 15 (boC M n d)) S := by
  have e := c_bo h.2.2.2.2.1 n d
  refine st_mu h e (by unfold kbo; (repeat' split) <;> decide) w (fun c ⟨u, ⟨_, e1, e2⟩, e3⟩ => ?_)
  have hvk : ¬ vok n = 0 := fun z => by unfold kbo at c; rw [if_pos z] at c; cases c
  have hvd : ¬ vok d = 0 := fun z => by unfold kbo at c; rw [if_neg hvk, if_pos z] at c; cases c
  obtain ⟨v, hv, -, ev⟩ := k_vok hvk
  obtain ⟨u2, hu2, ed, -⟩ := k_vok hvd
  subst e1
  rw [e, c, if_pos nI00, ev]
  have hu := REL_up (x := 0) h
  refine ⟨by rw [← e3, ← e2, ev]; exact congrArg cvI ((h.2.2.2.2.1 v hv).1 3 (by decide)), by rw [up2_row (by omega), up2_s], ?_⟩
  exact REL_va hu hv (RVa_u hu.2.2.2.2.1 (fun z => by cases z) (fun _ => ⟨u2, hu2, ed⟩)) (fun a q1 => up2_row q1) (fun b hb => up2_n (Or.inr (by omega))) (fun a q1 => up2_row q1) (fun b hb => up2_n (Or.inr (by omega)))
/-- what is told for all -/
theorem REL_se {I J M Q : Nat → Nat → Int32} {S : SZ} (h : REL I M S) (hSe : RSe J Q) (fi : ∀ a, a ≠ 0 → a ≠ 15 → J a = I a) (fi0 : ∀ b, b ≠ 8 → b ≠ 9 → J 0 b = I 0 b) (fq : ∀ a, a ≠ 0 → a ≠ 5 → Q a = M a) (fq0 : ∀ b, b ≠ 13 → b ≠ 14 → b ≠ 17 → Q 0 b = M 0 b) : REL J Q S := by
  obtain ⟨fa, la, pa, hn, ha⟩ := h.2.2.1
  refine REL_c h ⟨h.1.1, by rw [fq 1 (by omega) (by omega)]; exact h.1.2.1, by rw [fq 2 (by omega) (by omega)]; exact h.1.2.2.1, by rw [fq 3 (by omega) (by omega)]; exact h.1.2.2.2⟩ (RR_c h.2.1 (fi0 6 (by decide) (by decide)) (fun j hj => fi _ (by omega) (by omega)) (fun a q1 q2 => fq a (by omega) (by omega)) rfl) ⟨fa, la, pa, RN_c hn (by rw [fi 2 (by omega) (by omega)]) (fi 12 (by omega) (by omega)) (fi 13 (by omega) (by omega)) (fi 14 (by omega) (by omega)) (fun n _ => fq _ (by omega) (by omega)) rfl, AR_c ha (fi0 7 (by decide) (by decide)) (fun j _ hj => fi _ (by omega) (by omega)) (fi 13 (by omega) (by omega)) (fi 14 (by omega) (by omega)) (Nat.le_refl _) rfl h.2.1.2.1⟩ hSe (fun v hv => ?_) (fi 3 (by omega) (by omega)) (by rw [fi 99 (by omega) (by omega)]) (fun a q1 q2 => fi a (by omega) (by omega)) (fun w hw b hb => by rw [fi (24 + w) (by omega) (by omega)]) (fun b q1 q2 => fq0 b (by omega) (by omega) (by omega)) (fq0 16 (by decide) (by decide) (by decide)) (fq 6 (by omega) (by omega)) (fun w hw b hb => by rw [fq (20 + w) (by omega) (by omega)]) (fun n => fq _ (by omega) (by omega)) (Nat.le_refl _) rfl
  rw [fi (24 + v) (by omega) (by omega), fq (20 + v) (by omega) (by omega)]; exact h.2.2.2.2.1 v hv
theorem se_let : ∀ n, n < 256 → (n = 103 ∧ ixS 1 (nI n) = 0) ∨ (n = 108 ∧ ixS 1 (nI n) = 1) ∨ (n = 112 ∧ ixS 1 (nI n) = 2) ∨ (n = 107 ∧ ixS 1 (nI n) = 3) ∨ (n ≠ 103 ∧ n ≠ 108 ∧ n ≠ 112 ∧ n ≠ 107 ∧ ixS 1 (nI n) < 0) := by decide +kernel
theorem ix_1 (w : Int32) : (w = 103 ∧ ixS 1 w = 0) ∨ (w = 108 ∧ ixS 1 w = 1) ∨ (w = 112 ∧ ixS 1 w = 2) ∨ (w = 107 ∧ ixS 1 w = 3) ∨ (¬ (w = 103 ∨ w = 108 ∨ w = 112 ∨ w = 107) ∧ ixS 1 w < 0) := by
  by_cases h1 : w < 0
  · refine Or.inr (Or.inr (Or.inr (Or.inr ⟨?_, by unfold ixS; rw [if_pos h1]; decide⟩)))
    rintro (rfl | rfl | rfl | rfl) <;> exact absurd h1 (by decide)
  · by_cases h2 : 255 < w
    · refine Or.inr (Or.inr (Or.inr (Or.inr ⟨?_, by unfold ixS; rw [if_neg h1, if_pos h2]; decide⟩)))
      rintro (rfl | rfl | rfl | rfl) <;> exact absurd h2 (by decide)
    · obtain ⟨n, hn, rfl⟩ := w_small h1 h2
      rcases se_let n hn with ⟨rfl, e⟩ | ⟨rfl, e⟩ | ⟨rfl, e⟩ | ⟨rfl, e⟩ | ⟨a, b, c, d, e⟩
      · exact Or.inl ⟨rfl, e⟩
      · exact Or.inr (Or.inl ⟨rfl, e⟩)
      · exact Or.inr (Or.inr (Or.inl ⟨rfl, e⟩))
      · exact Or.inr (Or.inr (Or.inr (Or.inl ⟨rfl, e⟩)))
      · refine Or.inr (Or.inr (Or.inr (Or.inr ⟨?_, e⟩)))
        rintro (q | q | q | q)
        · exact a (nI_inj (by omega) (by decide) q)
        · exact b (nI_inj (by omega) (by decide) q)
        · exact c (nI_inj (by omega) (by decide) q)
        · exact d (nI_inj (by omega) (by decide) q)
theorem kse_k {w n m : Int32} (h : fmo w = m) (h0 : 0 ≤ m) : kse w n = if wi n 0 m = 0 then 1 else 0 := by unfold kse; rw [h, if_pos h0]
theorem c_se (w n : Int32) : seC w n = nI (kse w n) := by
  unfold seC
  rw [isi_wi]
  rcases ix_1 w with ⟨q, e⟩ | ⟨q, e⟩ | ⟨q, e⟩ | ⟨q, e⟩ | ⟨q, e⟩
  · rw [e, if_neg (by decide), q, kse_k (m := 3) (by decide) (by decide)]
    show (if wi n 0 3 = 0 then _ else _) = _
    split <;> rfl
  · rw [e, if_neg (by decide), q, kse_k (m := 999) (by decide) (by decide)]
    show (if wi n 0 999 = 0 then _ else _) = _
    split <;> rfl
  · rw [e, if_neg (by decide), q, kse_k (m := 300) (by decide) (by decide)]
    show (if wi n 0 300 = 0 then _ else _) = _
    split <;> rfl
  · rw [e, if_neg (by decide), q, kse_k (m := 99) (by decide) (by decide)]
    show (if wi n 0 99 = 0 then _ else _) = _
    split <;> rfl
  · rw [if_pos e]
    have hf : fmo w = -1 := by
      unfold fmo
      rw [if_neg (fun z => q (Or.inl z)), if_neg (fun z => q (Or.inr (Or.inl z))), if_neg (fun z => q (Or.inr (Or.inr (Or.inl z)))), if_neg (fun z => q (Or.inr (Or.inr (Or.inr z))))]
    unfold kse; rw [hf]; rfl
/-- one number told, in both -/
theorem RSe_u {I M : Nat → Nat → Int32} {b : Nat} {x : Int32} (h : RSe I M) (hb : b < 4) (h0 : b = 0 → ∃ g, g ≤ 3 ∧ x = nI g) : RSe (up2 I 15 b x) (up2 M 5 b x) := by
  obtain ⟨a1, a2, a3, a4, a5, a6, a7, a8⟩ := h
  refine ⟨fun c hc => ?_, ?_, by rw [up2_n (Or.inr (by omega)), up2_row (by omega)]; exact a3, by rw [up2_row (by omega)]; exact a4, by rw [up2_row (by omega), up2_row (by omega)]; exact a5, by rw [up2_row (by omega), up2_row (by omega)]; exact a6, by rw [up2_row (by omega)]; exact a7, by rw [up2_row (by omega)]; exact a8⟩
  · by_cases d : c = b
    · rw [d, up2_s, up2_s]
    · rw [up2_n (Or.inr d), up2_n (Or.inr d)]; exact a1 c hc
  · by_cases d : b = 0
    · obtain ⟨g, q1, q2⟩ := h0 d
      exact ⟨g, q1, by rw [d, up2_s]; exact q2⟩
    · rw [up2_n (Or.inr (fun z => d z.symm))]; exact a2
theorem st_set {I J M : Nat → Nat → Int32} {S : SZ} {x : Int64} (h : REL I M S) (t n : Int32) (w : WF (kse t n) I J (fun x J => ∃ u, (kse t n = 0 ∧ exI I t n = J ∧ exR I t = u) ∧ cvI u = x) x) : (if seC t n = 0 then up2 (up2 M 0 15 0) 5 (ixS 1 t).toNatClampNeg n else up2 M 0 15 (seC t n)) 0 15 = nI (kse t n) ∧ (kse t n = 0 → x = cvI (if seC t n = 0 then M 5 (ixS 1 t).toNatClampNeg else 0)) ∧ REL J (if seC t n = 0 then up2 (up2 M 0 15 0) 5 (ixS 1 t).toNatClampNeg n else up2 M 0 15 (seC t n)) S := by
  have e := c_se t n
  refine st_mu h e (by unfold kse; (repeat' split) <;> decide) w (fun c ⟨u, ⟨_, e1, e2⟩, e3⟩ => ?_)
  have hu := REL_up (x := 0) h
  have hm : ∃ b, b < 4 ∧ (ixS 1 t).toNatClampNeg = b ∧ exI I t n = up2 I 15 b n ∧ exR I t = I 15 b ∧ (b = 0 → ∃ g, g ≤ 3 ∧ n = nI g) := by
    rcases ix_1 t with ⟨q, e⟩ | ⟨q, e⟩ | ⟨q, e⟩ | ⟨q, e⟩ | ⟨q, e⟩
    · refine ⟨0, by decide, by rw [e]; rfl, by rw [q]; rfl, by rw [q]; rfl, fun _ => ?_⟩
      rw [q, kse_k (m := 3) (by decide) (by decide)] at c
      have hw : ¬ wi n 0 3 = 0 := fun z => by rw [if_pos z] at c; cases c
      obtain ⟨g, hg, eg, -⟩ := k_wi (n := 3) rfl (by decide) hw
      exact ⟨g, hg, eg⟩
    · exact ⟨1, by decide, by rw [e]; rfl, by rw [q]; rfl, by rw [q]; rfl, fun z => by cases z⟩
    · exact ⟨2, by decide, by rw [e]; rfl, by rw [q]; rfl, by rw [q]; rfl, fun z => by cases z⟩
    · exact ⟨3, by decide, by rw [e]; rfl, by rw [q]; rfl, by rw [q]; rfl, fun z => by cases z⟩
    · have : seC t n = 1 := by unfold seC; rw [if_pos e]
      rw [c_se, c] at this; exact absurd this.symm n10
  obtain ⟨b, hb, f1, f2, f3, f4⟩ := hm
  rw [e, c, if_pos nI00, f1]
  rw [f2] at e1
  subst e1
  rw [f3] at e2
  refine ⟨by rw [← e3, ← e2]; exact congrArg cvI (h.2.2.2.1.1 b hb), by rw [up2_row (by omega), up2_s], ?_⟩
  exact REL_se hu (RSe_u hu.2.2.2.1 hb f4) (fun a q1 q2 => up2_row q2) (fun b _ _ => by rw [up2_row (by omega)]) (fun a q1 q2 => up2_row q2) (fun b _ _ _ => by rw [up2_row (by omega)])
theorem st_maker {I J M : Nat → Nat → Int32} {S : SZ} {x : Int64} (h : REL I M S) (t : Int32) (w : WF (kmk t) I J (fun x J => ∃ u, (kmk t = 0 ∧ up2 I 15 4 t = J ∧ I 15 4 = u) ∧ cvI u = x) x) : (if mkC t = 0 then up2 (up2 M 0 15 0) 0 17 t else up2 M 0 15 (mkC t)) 0 15 = nI (kmk t) ∧ (kmk t = 0 → x = cvI (if mkC t = 0 then M 0 17 else 45)) ∧ REL J (if mkC t = 0 then up2 (up2 M 0 15 0) 0 17 t else up2 M 0 15 (mkC t)) S := by
  have e := c_mk t
  refine st_mu h e (by unfold kmk; (repeat' split) <;> decide) w (fun c ⟨u, ⟨_, e1, e2⟩, e3⟩ => ?_)
  have ht : t = 97 ∨ t = 98 ∨ t = 99 := by
    unfold kmk at c
    by_cases z : t = 97 ∨ t = 98 ∨ t = 99
    · exact z
    · rw [if_neg z] at c; cases c
  subst e1
  rw [e, c, if_pos nI00]
  have hu := REL_up (x := 0) h
  refine ⟨by rw [← e3, ← e2]; exact congrArg cvI h.2.2.2.1.2.2.1, by rw [up2_n (Or.inr (by decide)), up2_s], ?_⟩
  obtain ⟨a1, a2, a3, a4, a5, a6, a7, a8⟩ := hu.2.2.2.1
  refine REL_se hu ⟨fun b hb => ?_, by rw [up2_row (by omega)]; exact a2, by rw [up2_s, up2_s], by rw [up2_s]; exact ht, by rw [up2_row (by omega), up2_n (Or.inr (by decide))]; exact a5, by rw [up2_row (by omega), up2_n (Or.inr (by decide))]; exact a6, by rw [up2_n (Or.inr (by decide))]; exact a7, by rw [up2_n (Or.inr (by decide))]; exact a8⟩ (fun a q1 q2 => up2_row q2) (fun b _ _ => by rw [up2_row (by omega)]) (fun a q1 q2 => up2_row q1) (fun b _ _ q => up2_n (Or.inr q))
  rw [up2_n (Or.inr (by omega)), up2_row (a := 5) (by omega)]; exact a1 b hb
theorem st_speed {I J M : Nat → Nat → Int32} {S : SZ} {x : Int64} (h : REL I M S) (f g : Int32) (w : WF (ksp f g) I J (fun x J => ∃ u, (ksp f g = 0 ∧ up2 (up2 I 0 8 f) 0 9 g = J ∧ I 0 8 = u) ∧ cvI u = x) x) : (if spC f g = 0 then up2 (up2 (up2 M 0 15 0) 0 13 f) 0 14 g else up2 M 0 15 (spC f g)) 0 15 = nI (ksp f g) ∧ (ksp f g = 0 → x = cvI (if spC f g = 0 then M 0 13 else 0)) ∧ REL J (if spC f g = 0 then up2 (up2 (up2 M 0 15 0) 0 13 f) 0 14 g else up2 M 0 15 (spC f g)) S := by
  have e := c_sp f g
  refine st_mu h e (by unfold ksp; (repeat' split) <;> decide) w (fun c ⟨u, ⟨_, e1, e2⟩, e3⟩ => ?_)
  have hf : ¬ wi f 100 900 = 0 := fun z => by unfold ksp at c; rw [if_pos z] at c; cases c
  have hg : ¬ wi g 0 50 = 0 := fun z => by unfold ksp at c; rw [if_neg hf, if_pos z] at c; cases c
  obtain ⟨gn, hgn, eg, -⟩ := k_wi (n := 50) rfl (by decide) hg
  have hfn : ∃ n, 100 ≤ n ∧ n ≤ 900 ∧ f = nI n := by
    unfold wi at hf
    by_cases z : f < 100
    · rw [if_pos z] at hf; exact absurd rfl hf
    · rw [if_neg z] at hf
      by_cases y : f ≤ 900
      · have h0 : ¬ f < 0 := fun q => z (Int32.lt_trans q (by decide))
        obtain ⟨m, hm, rfl⟩ := nI_of h0
        refine ⟨m, ?_, (le_L (c := 900) (n := 900) rfl hm (by decide)).mp y, rfl⟩
        rcases Nat.lt_or_ge m 100 with q | q
        · exact absurd ((lt_L (c := 100) (n := 100) rfl hm (by decide)).mpr q) z
        · exact q
      · rw [if_neg y] at hf; exact absurd rfl hf
  subst e1
  rw [e, c, if_pos nI00]
  have hu := REL_up (x := 0) h
  refine ⟨by rw [← e3, ← e2]; exact congrArg cvI h.2.2.2.1.2.2.2.2.1, by rw [up2_n (Or.inr (by decide)), up2_n (Or.inr (by decide)), up2_s], ?_⟩
  obtain ⟨a1, a2, a3, a4, a5, a6, a7, a8⟩ := hu.2.2.2.1
  obtain ⟨n, n1, n2, n3⟩ := hfn
  refine REL_se hu ⟨fun b hb => by rw [up2_row (by omega), up2_row (by omega), up2_row (a := 5) (by omega), up2_row (a := 5) (by omega)]; exact a1 b hb, by rw [up2_row (by omega), up2_row (by omega)]; exact a2, by rw [up2_row (by omega), up2_row (by omega), up2_n (Or.inr (by decide)), up2_n (Or.inr (by decide))]; exact a3, by rw [up2_n (Or.inr (by decide)), up2_n (Or.inr (by decide))]; exact a4, by rw [up2_n (Or.inr (by decide)), up2_s, up2_n (Or.inr (by decide)), up2_s], by rw [up2_s, up2_s], ⟨n, n1, n2, by rw [up2_n (Or.inr (by decide)), up2_s]; exact n3⟩, ⟨gn, hgn, by rw [up2_s]; exact eg⟩⟩ (fun a q1 q2 => by rw [up2_row q1, up2_row q1]) (fun b q1 q2 => by rw [up2_n (Or.inr q2), up2_n (Or.inr q1)]) (fun a q1 q2 => by rw [up2_row q1, up2_row q1]) (fun b q1 q2 q3 => by rw [up2_n (Or.inr q2), up2_n (Or.inr q1)])
