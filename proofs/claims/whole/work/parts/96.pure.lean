/-! THE RELATION kept: playing -/
theorem st_aside {I J M : Nat → Nat → Int32} {S : SZ} {x : Int64} (h : REL I M S) (t : Int32) (w : WF (kas I t) I J (fun x J => ∃ u, (kas I t = 0 ∧ up2 I 3 7 t = J ∧ I 3 7 = u) ∧ cvI u = x) x) : (if asC M t = 0 then up2 (up2 M 0 15 0) 0 10 t else up2 M 0 15 (asC M t)) 0 15 = nI (kas I t) ∧ (kas I t = 0 → x = cvI (if asC M t = 0 then M 0 10 else 0)) ∧ REL J (if asC M t = 0 then up2 (up2 M 0 15 0) 0 10 t else up2 M 0 15 (asC M t)) S := by
  have e := c_as h.b99 t
  refine st_mu h e (by unfold kas; (repeat' split) <;> decide) w (fun c ⟨u, ⟨_, e1, e2⟩, e3⟩ => ?_)
  have hb : ¬ isB I = 0 := fun z => by unfold kas at c; rw [if_pos z] at c; cases c
  have ht : asd t := by
    have hw : ¬ wi t (-2) 2 = 0 := fun z => by unfold kas at c; rw [if_neg hb, if_pos z] at c; cases c
    unfold wi at hw
    by_cases z : t < -2
    · rw [if_pos z] at hw; exact absurd rfl hw
    · rw [if_neg z] at hw
      by_cases y : t ≤ 2
      · have q1 : ¬ t.toInt < (-2 : Int32).toInt := fun q => z (Int32.lt_iff_toInt_lt.mpr q)
        have q2 : t.toInt ≤ (2 : Int32).toInt := Int32.le_iff_toInt_le.mp y
        rw [show (-2 : Int32).toInt = -2 by decide] at q1
        rw [show (2 : Int32).toInt = 2 by decide] at q2
        have q3 : ∀ s : Int32, t.toInt = s.toInt → t = s := fun s => Int32.toInt_inj.mp
        rcases (show t.toInt = 0 ∨ t.toInt = 1 ∨ t.toInt = 2 ∨ t.toInt = -1 ∨ t.toInt = -2 by omega) with q | q | q | q | q
        · exact Or.inl (q3 0 (q.trans (by decide)))
        · exact Or.inr (Or.inl (q3 1 (q.trans (by decide))))
        · exact Or.inr (Or.inr (Or.inl (q3 2 (q.trans (by decide)))))
        · exact Or.inr (Or.inr (Or.inr (Or.inl (q3 (-1) (q.trans (by decide))))))
        · exact Or.inr (Or.inr (Or.inr (Or.inr (q3 (-2) (q.trans (by decide))))))
      · rw [if_neg y] at hw; exact absurd rfl hw
  have hu := REL_up (x := 0) h
  subst e1
  rw [e, c, if_pos nI00]
  obtain ⟨r, hp0⟩ := on_P h (fun z => hb ((isB_0 h.b99).mpr z))
  refine ⟨by rw [← e3, ← e2]; exact congrArg cvI hp0.2.1.2.2.1.1, by rw [up2_n (Or.inr (by decide)), up2_s], ?_⟩
  have h0 : ¬ up2 M 0 15 0 0 6 < 0 := by rw [up2_n (Or.inr (by decide))]; exact fun z => hb ((isB_0 h.b99).mpr z)
  obtain ⟨b1, b2, ⟨fa, la, pa, b3, b4⟩, b5, b6, b7, b8, r, hr, hg, hp⟩ := hu
  have fi3 : ∀ b, b ≠ 7 → up2 I 3 7 t 3 b = I 3 b := fun b q => up2_n (Or.inr q)
  have fq0 : ∀ b, b ≠ 10 → up2 (up2 M 0 15 0) 0 10 t 0 b = up2 M 0 15 0 0 b := fun b q => up2_n (Or.inr q)
  refine ⟨⟨b1.1, by rw [up2_row (by omega)]; exact b1.2.1, by rw [up2_row (by omega)]; exact b1.2.2.1, by rw [up2_row (by omega)]; exact b1.2.2.2⟩, RR_c b2 (by rw [up2_row (by omega)]) (fun j hj => up2_row (by omega)) (fun a q1 q2 => up2_row (by omega)) rfl, ⟨fa, la, pa, RN_c b3 (by rw [up2_row (by omega)]) (up2_row (by omega)) (up2_row (by omega)) (up2_row (by omega)) (fun n _ => up2_row (by omega)) rfl, AR_c b4 (by rw [up2_row (by omega)]) (fun j _ hj => up2_row (by omega)) (up2_row (by omega)) (up2_row (by omega)) (Nat.le_refl _) rfl b2.2.1⟩, RSe_c b5 (up2_row (by omega)) (by rw [up2_row (by omega)]) (by rw [up2_row (by omega)]) (up2_row (by omega)) (fun b hb => fq0 b (by omega)), fun v hv => by rw [up2_row (a := 24 + v) (by omega), up2_row (a := 20 + v) (by omega)]; exact b6 v hv, ⟨by rw [fi3 8 (by decide), fq0 11 (by decide)]; exact b7.1, by rw [fi3 9 (by decide), fq0 12 (by decide)]; exact b7.2⟩, RLo_c b8 (by rw [up2_row (by omega)]) (fun b hb => up2_row (by omega)) (fun n => up2_row (by omega)), r, hr, LG_c hg (by rw [up2_row (by omega)]) (fun b hb => up2_row (by omega)) (fun v b hv _ => by rw [up2_row (by omega)]) (fi3 8 (by decide)), ?_⟩
  rcases hp with ⟨⟨a1, a2⟩, -⟩ | ⟨⟨j, c1, c2, c3⟩, c4, c5⟩
  · rw [a2] at h0; exact absurd (by decide) h0
  · refine Or.inr ⟨⟨j, c1, by rw [up2_row (by omega)]; exact c2, by rw [fq0 6 (by decide)]; exact c3⟩, PLy_c c4 (fun b hb => fi3 b (by omega)) ⟨by rw [up2_s, up2_s], by rw [up2_s]; exact ht⟩ (fun b hb => fq0 b (by omega)) (up2_row (by omega)) (fun v hv b _ => by rw [up2_row (by omega)]) (fun v hv b _ => by rw [up2_row (by omega)]), IXP_c c5 (fun v hv b _ => by rw [up2_row (by omega)]) rfl⟩
theorem ldF_15 {M : Nat → Nat → Int32} {j : Nat} : ldF M j 0 15 = M 0 15 := by
  unfold ldF
  rw [up2_n (Or.inr (by decide)), ld2_0]
  unfold ld1
  rw [up2_n (Or.inr (by decide)), up2_n (Or.inr (by decide)), up2_n (Or.inr (by decide)), up2_n (Or.inr (by decide)), up2_n (Or.inr (by decide)), up2_n (Or.inr (by decide)), up2_n (Or.inr (by decide)), up2_row (by omega), up2_row (by omega)]
theorem ldF_32 {M : Nat → Nat → Int32} {j : Nat} : ldF M j 3 2 = 0 := by
  unfold ldF ld2
  rw [up2_row (by omega), upr_n (by omega), ldV_a 12 (by omega), upr_n (by omega)]
  unfold ld1
  rw [up2_row (by omega), up2_row (by omega), up2_row (by omega), up2_row (by omega), up2_row (by omega), up2_row (by omega), up2_row (by omega), up2_s]
theorem st_load9 {I J M : Nat → Nat → Int32} {S : SZ} {x : Int64} (h : REL I M S) (v : Int32) (hC : r1C S v = 0) (w : WF (kr1 I v) I J (fun x J => ∃ u, (kr1 I v = 0 ∧ bgP I v.toNatClampNeg = J ∧ crw (bgP I v.toNatClampNeg (8 + v.toNatClampNeg)) 200 = u) ∧ cvI u = x) x) : ldF (up2 M 0 15 0) v.toNatClampNeg 0 15 = nI (kr1 I v) ∧ (kr1 I v = 0 → x = cvI (nI (lenM (ldF (up2 M 0 15 0) v.toNatClampNeg) v.toNatClampNeg 200))) ∧ REL J (ldF (up2 M 0 15 0) v.toNatClampNeg) (clrS3 S) := by
  have e := c_r1 h.2.1.1 h.2.1.2.1 v
  have e0 : kr1 I v = 0 := (nI_z (by unfold kr1; (repeat' split) <;> decide)).mp (e.symm.trans hC)
  obtain ⟨u, ⟨-, rfl, e2⟩, e3⟩ := w.1 e0
  have hrp : ¬ rp I v = 0 := fun z => by unfold kr1 at e0; rw [if_pos z] at e0; cases e0
  obtain ⟨j, hj, hj4, rfl, ej⟩ := k_r h.2.1 hrp
  rw [ej] at e2 ⊢
  have hu := REL_up (x := 0) h
  obtain ⟨fa, la, pa, hn, ha⟩ := hu.2.2.1
  obtain ⟨s1, s2, s3, s4, s5, s6, s7, s8, s9, s10⟩ := st_load hu.2.1 hu.2.2.2.1 hu.2.2.2.2.1 hj
  refine ⟨by rw [ldF_15, up2_s, e0]; rfl, fun _ => by rw [← e3, ← e2, s9], ?_⟩
  have hix : IXP (ldF (up2 M 0 15 0) j) (clrS3 S) := fun v hv q => absurd (s10 v hv) q
  have fi : ∀ a, a < 24 → a ≠ 3 → a ≠ 17 → bgP I j a = I a := fun a q1 q2 q3 => bgP_n (by omega) q2 q3 (by omega)
  have hz : RZ (ldF (up2 M 0 15 0) j) (clrS3 S) := ⟨WS_c3 h.1.1, by rw [ldF_n (by omega) (by omega) (by omega) (by omega) (by omega)]; exact hu.1.2.1, by rw [ldF_n (by omega) (by omega) (by omega) (by omega) (by omega)]; exact hu.1.2.2.1, ldF_32⟩
  refine ⟨hz, s1, ⟨fa, la, pa, RN_c hn (by rw [fi 2 (by decide) (by decide) (by decide)]) (fi 12 (by decide) (by decide) (by decide)) (fi 13 (by decide) (by decide) (by decide)) (fi 14 (by decide) (by decide) (by decide)) (fun n _ => ldF_n (by omega) (by omega) (by omega) (by omega) (by omega)) rfl, AR_c ha (by rw [fi 0 (by decide) (by decide) (by decide)]) (fun i _ hi => fi _ (by omega) (by omega) (by omega)) (fi 13 (by decide) (by decide) (by decide)) (fi 14 (by decide) (by decide) (by decide)) (Nat.le_refl _) rfl h.2.1.2.1⟩, s2, s3, s4, s5, 0, Nat.zero_le _, LG_bg, ?_⟩
  rcases s8 with q | q
  · refine Or.inl ⟨⟨s7.trans q, q⟩, ⟨0, Nat.zero_le _, s6.1.2.1⟩, ?_, ⟨0, Nat.zero_le _, s6.1.2.2⟩, s6.2.2.2.1.2, fun v hv => ?_, s10⟩
    · rw [s6.2.2.2.1.1]; exact s6.2.2.2.1.2
    · unfold bgP; exact (rsA_v (I := up2 (bg0 I j) 17 6 0) (v := v) 12 hv).1
  · exact Or.inr ⟨⟨j, hj, s7.trans q, q⟩, s6, hix⟩
theorem mv3_hi {K : Nat → Nat → Int32} {v a : Nat} (hv : v < 12) (ha : 36 ≤ a) : mv3 K v a = K a := by
  have h2 : mv2 K v a = K a := by
    unfold mv2; split
    · rfl
    · split
      · split
        · exact enH_n (by omega) (by omega)
        · rfl
      · exact enH_n (by omega) (by omega)
  unfold mv3; split
  · exact h2
  · rw [bgS_n (by omega) (by omega) (by omega)]; exact h2
theorem mvs_hi {I : Nat → Nat → Int32} {fd : Int32} {a : Nat} (ha : 36 ≤ a) : ∀ k, k ≤ 12 → mvs I fd k a = I a
  | 0, _ => rfl
  | k + 1, hk => by
    have e : mvs I fd (k + 1) = mv3 (mvV (mvs I fd k) k (ir fd (nI k))) k := rfl
    rw [e, mv3_hi (by omega) ha, mvV_n (by omega) (by omega), mvs_hi ha k (by omega)]
theorem prI_99 {I : Nat → Nat → Int32} {i : Nat} : ∀ k, prI I i k 99 0 = I 99 0
  | 0 => rfl
  | k + 1 => by
    have e : ∀ K : Nat → Nat → Int32, plr K i 99 = K 99 := fun K => by
      unfold plr
      rw [up2_row (by omega), up2_row (by omega)]
      unfold mvSu
      rw [up2_row (by omega), mvs_hi (by omega) 12 (Nat.le_refl _), up2_row (by omega), mkl_n (by omega)]
    have e2 : prI I i (k + 1) = plr (prI I i k) i := rfl
    rw [e2, e, prI_99 k]
theorem mvz_2 {M : Nat → Nat → Int32} {S : SZ} {v : Nat} {h p : Int32} : (mvz M S v h p).2.1 = S.2.1 := by
  unfold mvz; split
  · rfl
  · exact bgz_1.2.1
theorem plS_S2 {M : Nat → Nat → Int32} {S : SZ} : ∀ v, (plS M S v).2.2.1 = S.2.1
  | 0 => rfl
  | v + 1 => by
    rw [plS_s]
    exact mvz_2.trans (plS_S2 v)
theorem pyZ_2 {M : Nat → Nat → Int32} {S : SZ} {j r : Nat} : (pyZ M S j r).2.1 = S.2.1 := by
  unfold pyZ
  exact plS_S2 12
theorem tkS_2 {M : Nat → Nat → Int32} {S : SZ} {j r : Nat} : ∀ k, (tkS M S j r k).2.2.1 = S.2.1
  | 0 => rfl
  | k + 1 => by
    have i := tkS_2 (M := M) (S := S) (j := j) (r := r) k
    rw [tkS_s]
    generalize tkS M S j r k = q at i ⊢
    show (pyZ q.1 q.2 j (r + k)).2.1 = S.2.1
    rw [pyZ_2, i]
theorem pyM_15 {M : Nat → Nat → Int32} {S : SZ} {j r : Nat} : pyM M S j r 0 15 = M 0 15 := by
  rw [pyM_0 (by decide) (by decide) (by decide) (by decide), codI_0 (by decide) (by decide), rdI_n (by decide)]
theorem pyMZ_15 {M : Nat → Nat → Int32} {S : SZ} {j r : Nat} {z : SZ} : (pyM M S j r, z).1 0 15 = M 0 15 := by
  have e : (pyM M S j r, z).1 = pyM M S j r := by dsimp only
  rw [e, pyM_15]
theorem tkS_151 {M : Nat → Nat → Int32} {S : SZ} {j r k : Nat} : (tkS M S j r (k + 1)).1 0 15 = (tkS M S j r k).1 0 15 := by
  rw [tkS_s, pyMZ_15]
theorem tkS_15 {M : Nat → Nat → Int32} {S : SZ} {j r : Nat} (k : Nat) : (tkS M S j r k).1 0 15 = M 0 15 := by
  induction k with
  | zero => rfl
  | succ k i => rw [tkS_151, i]
theorem st_tick {I J M : Nat → Nat → Int32} {S : SZ} {x : Int64} (h : REL I M S) {a r0 j0 : Nat} (ha : I 3 4 = nI a) (ha2 : a ≤ 200) (hr0 : M 0 7 = nI r0) (hr02 : r0 ≤ 200) (hj0 : j0 < S.1) (hM : M 0 6 = nI j0) (t : Int32) (hC : tiC M t = 0) (w : WF (kti I t) I J (fun x J => ∃ u, (kti I t = 0 ∧ ∃ i k, i < 4 ∧ I 99 0 = nI i ∧ k ≤ t.toNatClampNeg ∧ nI k = u ∧ (∀ j, j < k → ¬ anN I i a j = 0) ∧ (k = t.toNatClampNeg ∨ anN I i a k = 0) ∧ eplN (prI I i k) (anN I i a k) = J) ∧ cvI u = x) x) : tkF (up2 M 0 15 0) S t.toNatClampNeg j0 r0 0 15 = nI (kti I t) ∧ (kti I t = 0 → x = cvI (nI (tkN (up2 M 0 15 0) t.toNatClampNeg j0 r0))) ∧ REL J (tkF (up2 M 0 15 0) S t.toNatClampNeg j0 r0) ((tkS (up2 M 0 15 0) S j0 r0 (tkN (up2 M 0 15 0) t.toNatClampNeg j0 r0)).2) := by
  have e := c_ti h.b99 t
  have e0 : kti I t = 0 := (nI_z (by unfold kti; (repeat' split) <;> decide)).mp (e.symm.trans hC)
  obtain ⟨u, ⟨-, i, k, hi, h99, hk, hku, hk1, hk2, hJ⟩, e3⟩ := w.1 e0
  have h4 := h.2.1.2.1
  have hij : i = j0 := nI_inj (by omega) (by omega) (h99.symm.trans (h.b99.trans hM))
  subst hij
  obtain ⟨b1, b2, ⟨fa, la, pa, b3, b4⟩, b5, b6, b7, b8, r, hr, hg, hp⟩ := REL_up (x := 0) h
  rcases hp with ⟨⟨a1, -⟩, -⟩ | ⟨-, c4, c5⟩
  · rw [h99] at a1; exact absurd a1 (nI_m1 (by omega))
  · have hra : r = a := nI_inj (by omega) (by omega) (c4.1.2.1.symm.trans ha)
    have hrr : r = r0 := nI_inj (by omega) (by omega) (c4.1.2.2.symm.trans ((up2_n (Or.inr (by decide))).trans hr0))
    subst hra
    subst hrr
    have hPin : Pin I (up2 M 0 15 0) S r := ⟨b2, b5, b6, b7, b8, c4, b1.1, b1.2.1, b1.2.2.1, b1.2.2.2, c5⟩
    obtain ⟨z1, z2, z3⟩ := tk_k hPin hj0 hk hk1 hk2
    obtain ⟨p1, p2, p3, p4, p5⟩ := pr_tk hPin hj0 k z2
    obtain ⟨g1, g2⟩ := LG_pr (i := i) hg c4.1.2.1 k z2
    have hN15 := tkS_15 (M := up2 M 0 15 0) (S := S) (j := i) (r := r) k
    rw [up2_s] at hN15
    rw [← z1] at z3
    unfold tkF
    rw [← z1]
    subst hJ
    unfold eplN
    by_cases hz : anN I i r k = 0
    · rw [if_pos hz, if_pos (z3.mp hz)]
      have hoff := st_off p1
      obtain ⟨o1, o2, o3, o4, o5, o6, o7⟩ := hoff
      have hq0 : ∀ b, b ≠ 6 → up2 (enV (tkS (up2 M 0 15 0) S i r k).1 12) 0 6 (-1) 0 b = (tkS (up2 M 0 15 0) S i r k).1 0 b := fun b q => by rw [up2_n (Or.inr q), enV_0]
      have fe : ∀ q, q ≠ 0 → (q < 20 ∨ (32 ≤ q ∧ q < 8000)) → up2 (enV (tkS (up2 M 0 15 0) S i r k).1 12) 0 6 (-1) q = (tkS (up2 M 0 15 0) S i r k).1 q := fun q q1 q2 => by rw [up2_row q1, enV_n q2 12 (Nat.le_refl _)]
      have fj : ∀ q, q ≠ 21 → q < 24 → setP (epl (prI I i k) 12) (-1) q = prI I i k q := fun q q1 q2 => by unfold setP; rw [up2_row (by omega), epl_n 12 q1 (by omega)]
      obtain ⟨y1, y2⟩ := LG_ep g1 g2 12 (Nat.le_refl _)
      refine ⟨by rw [hq0 15 (by decide), hN15, e0]; rfl, fun _ => by rw [← e3, ← hku], ⟨p1.2.2.2.2.2.2.1, by rw [fe 1 (by decide) (by decide)]; exact p1.2.2.2.2.2.2.2.1, by rw [fe 2 (by decide) (by decide)]; exact p1.2.2.2.2.2.2.2.2.1, by rw [fe 3 (by decide) (by decide)]; exact p1.2.2.2.2.2.2.2.2.2.1⟩, o1, ⟨fa, la, pa, RN_c b3 (by rw [fj 2 (by decide) (by decide), p3 2 (by decide) (by decide)]) (by rw [fj 12 (by decide) (by decide), p3 12 (by decide) (by decide)]) (by rw [fj 13 (by decide) (by decide), p3 13 (by decide) (by decide)]) (by rw [fj 14 (by decide) (by decide), p3 14 (by decide) (by decide)]) (fun n hn => by rw [fe _ (by omega) (by have := b3.2.1; omega), p4 _ (by omega) (by omega) (by omega) (by omega) (by have := b3.2.1; omega)]) (tkS_2 k), ?_⟩, o2, o3, o4, o5, r + k, z2, LG_c y1 (by unfold setP; rw [up2_row (by omega)]) (fun b hb => by unfold setP; rw [up2_row (by omega)]) (fun v b hv _ => by unfold setP; rw [up2_row (by omega)]) (by unfold setP; rw [up2_row (by omega)]), Or.inl ⟨⟨by unfold setP; rw [up2_s], by rw [up2_s]⟩, ⟨r + k, z2, by rw [fj 3 (by decide) (by decide)]; exact g2⟩, ?_, ⟨r + k, z2, by rw [hq0 7 (by decide)]; exact p1.2.2.2.2.2.1.1.2.2⟩, by rw [hq0 16 (by decide)]; exact p1.2.2.2.2.2.1.2.2.2.1.2, o6, o7⟩⟩
      · exact AR_c b4 (by rw [fj 0 (by decide) (by decide), p3 0 (by decide) (by decide)]) (fun q _ hq => by rw [fj _ (by omega) (by omega), p3 _ (by omega) (by omega)]) (by rw [fj 13 (by decide) (by decide), p3 13 (by decide) (by decide)]) (by rw [fj 14 (by decide) (by decide), p3 14 (by decide) (by decide)]) (by rw [p2]; exact Nat.le_refl _) (tkS_2 k) h4
      · rw [fj 3 (by decide) (by decide), p1.2.2.2.2.2.1.2.2.2.1.1]; exact p1.2.2.2.2.2.1.2.2.2.1.2
    · rw [if_neg hz, if_neg (fun q => hz (z3.mpr q))]
      refine ⟨by rw [hN15, e0]; rfl, fun _ => by rw [← e3, ← hku], ⟨p1.2.2.2.2.2.2.1, p1.2.2.2.2.2.2.2.1, p1.2.2.2.2.2.2.2.2.1, p1.2.2.2.2.2.2.2.2.2.1⟩, p1.1, ⟨fa, la, pa, RN_c b3 (by rw [p3 2 (by decide) (by decide)]) (p3 12 (by decide) (by decide)) (p3 13 (by decide) (by decide)) (p3 14 (by decide) (by decide)) (fun n hn => p4 _ (by omega) (by omega) (by omega) (by omega) (by have := b3.2.1; omega)) (tkS_2 k), AR_c b4 (by rw [p3 0 (by decide) (by decide)]) (fun q _ hq => p3 _ (by omega) (by omega)) (p3 13 (by decide) (by decide)) (p3 14 (by decide) (by decide)) (by rw [p2]; exact Nat.le_refl _) (tkS_2 k) h4⟩, p1.2.1, p1.2.2.1, p1.2.2.2.1, p1.2.2.2.2.1, r + k, z2, g1, Or.inr ⟨⟨i, by rw [p2]; exact hj0, ?_, ?_⟩, p1.2.2.2.2.2.1, p1.2.2.2.2.2.2.2.2.2.2⟩⟩
      · rw [prI_99]; exact h99
      · rw [p5, up2_n (Or.inr (by decide))]; exact hM
/-- what a studio answers by itself -/
theorem st_isSound {I J M : Nat → Nat → Int32} {S : SZ} {fa la pa : Nat → Nat} {q : Int32} (h : REL I M S) (hn : RN I M S fa la pa) (ha : AR I S fa) (hq : (if lio I S.2.2.1 0 (fun _ => -1) = 0 then 0 else if ark I S.2.1 fa = 0 then 0 else 1) = q) : q = 1 := by
  obtain ⟨r, hr, hg, -⟩ := h.2.2.2.2.2.2.2
  have hl := h.2.2.2.2.2.2.1
  have h4 := h.2.1.2.1
  rw [lio_at hg hr hl.1 hl.2.1, if_neg n10] at hq
  have hk : ark I S.2.1 fa = 1 := by
    unfold ark
    rcases ha with z | ⟨j, a1, a2, a3⟩
    · rw [z, if_pos (by unfold rp; rw [if_pos (by decide)])]
    · rw [a2, nI_clamp (by omega), a3]
      split
      · rfl
      · rw [if_neg n10]
  rw [hk, if_neg n10] at hq
  exact hq.symm
theorem REL_23 {I M : Nat → Nat → Int32} {S : SZ} {g : Nat → Int32} (h : REL I M S) : REL (upr I 23 g) M S := by
  obtain ⟨fa, la, pa, hn, ha⟩ := h.2.2.1
  obtain ⟨-, -, -, -, -, hC, hL, r, hr, hg, hp⟩ := id h
  have f : ∀ a, a ≠ 23 → upr I 23 g a = I a := fun a q => upr_n q
  refine ⟨h.1, RR_c h.2.1 (by rw [f 0 (by decide)]) (fun j hj => f _ (by omega)) (fun _ _ _ => rfl) rfl, ⟨fa, la, pa, RN_c hn (by rw [f 2 (by decide)]) (f 12 (by decide)) (f 13 (by decide)) (f 14 (by decide)) (fun _ _ => rfl) rfl, AR_c ha (by rw [f 0 (by decide)]) (fun j _ hj => f _ (by omega)) (f 13 (by decide)) (f 14 (by decide)) (Nat.le_refl _) rfl h.2.1.2.1⟩, RSe_c h.2.2.2.1 (f 15 (by decide)) (by rw [f 0 (by decide)]) (by rw [f 0 (by decide)]) rfl (fun _ _ => rfl), fun v hv => by rw [f (24 + v) (by omega)]; exact h.2.2.2.2.1 v hv, ⟨by rw [f 3 (by decide)]; exact hC.1, by rw [f 3 (by decide)]; exact hC.2⟩, RLo_c hL (by rw [f 17 (by decide)]) (fun b hb => f _ (by omega)) (fun _ => rfl), r, hr, LG_c hg (by rw [f 17 (by decide)]) (fun b hb => f _ (by omega)) (fun v b hv _ => by rw [f (24 + v) (by omega)]) (by rw [f 3 (by decide)]), ?_⟩
  rcases hp with ⟨⟨a1, a2⟩, a3, a4, a5, a6, a7, a8⟩ | ⟨⟨j, b1, b2, b3⟩, b4, b5⟩
  · exact Or.inl ⟨⟨by rw [f 99 (by decide)]; exact a1, a2⟩, by rw [f 3 (by decide)]; exact a3, by rw [f 3 (by decide)]; exact a4, a5, a6, fun v hv => by rw [f (24 + v) (by omega)]; exact a7 v hv, a8⟩
  · exact Or.inr ⟨⟨j, b1, by rw [f 99 (by decide)]; exact b2, b3⟩, PLy_c b4 (fun b _ => by rw [f 3 (by decide)]) ⟨by rw [f 3 (by decide)]; exact b4.2.2.1.1, b4.2.2.1.2⟩ (fun _ _ => rfl) rfl (fun v hv b _ => by rw [f (24 + v) (by omega)]) (fun _ _ _ _ => rfl), b5⟩
/-- where both begin -/
theorem REL_0 {I M : Nat → Nat → Int32} (hI : INI I) (hM : IN8 M) : REL I M S00z := by
  obtain ⟨i1, ⟨i2, i3, i4, i5⟩, i6, ⟨i7, i8, i9, i10, i11⟩, i12, ⟨i13, i14, i15, i16, i17, i18, i19, i20, i21⟩, i22, i23⟩ := hI
  obtain ⟨⟨m1, m2, m3, m4, m5, m6, m7, m8, m9, m10, m11, m12⟩, m13, m14, m15, ⟨m16, m17, m18, m19⟩, m20⟩ := hM
  have hlg : lgn I = 0 := by unfold lgn; rw [i12]; rfl
  refine ⟨⟨by unfold WS S00z; decide, m13, m14, m15⟩, ⟨i2, by decide, fun j hj r hr => ⟨0, by decide, i22 j hj r, fun _ => rfl, fun q => absurd (show j < 0 from q) (Nat.not_lt_zero _)⟩⟩, ⟨fun _ => 0, fun _ => 0, fun _ => 0, ⟨i6, by decide, fun n hn => absurd (show n < 0 from hn) (Nat.not_lt_zero _), fun m n hm => absurd (show m < 0 from hm) (Nat.not_lt_zero _)⟩, Or.inl i3⟩, ⟨fun b hb => ?_, ⟨1, by decide, m16⟩, by rw [i11, m12], Or.inl m12, by rw [i4, m8], by rw [i5, m9], ⟨400, by decide, by decide, m8⟩, ⟨0, by decide, m9⟩⟩, fun v hv => ?_, ⟨by rw [i17, m6], by rw [i18, m7]⟩, ⟨i12, by decide, fun n hn => absurd (show n < 0 from hn) (Nat.not_lt_zero _)⟩, 0, by decide, ⟨⟨⟨0, by decide, i12⟩, fun n hn => by rw [hlg] at hn; omega⟩, fun v hv => ?_, ⟨0, by decide, i17⟩⟩, Or.inl ⟨⟨i1, m1⟩, ⟨0, by decide, i13⟩, Or.inl i19, ⟨0, by decide, m2⟩, Or.inl m11, fun v hv => (i23 v hv).2.2.2.2.1, fun v hv => ?_⟩⟩
  · rcases (show b = 0 ∨ b = 1 ∨ b = 2 ∨ b = 3 by omega) with rfl | rfl | rfl | rfl
    · rw [i7, m16]
    · rw [i8, m17]
    · rw [i9, m18]
    · rw [i10, m19]
  · obtain ⟨v0, v1, v2, v3, -⟩ := i23 v hv
    refine ⟨fun b hb => ?_, ⟨0, by decide, by rw [m20 v 1 hv]; rfl⟩, ⟨v, hv, by rw [m20 v 3 hv]; rfl⟩⟩
    rcases (show b = 0 ∨ b = 1 ∨ b = 2 ∨ b = 3 by omega) with rfl | rfl | rfl | rfl
    · rw [v0, m20 v 0 hv]; rfl
    · rw [v1, m20 v 1 hv]; rfl
    · rw [v2, m20 v 2 hv]; rfl
    · rw [v3, m20 v 3 hv]; rfl
  · exact ⟨fun n hn => by rw [hlg] at hn; omega, fun m n hmn hn => by rw [hlg] at hn; omega, Or.inl (i23 v hv).2.2.2.2.2.2.2.2.2.2, fun q => absurd (i23 v hv).2.2.2.2.1 q⟩
  · rw [m20 v 7 hv]; rfl
theorem st_lo {I M : Nat → Nat → Int32} {S : SZ} (h : REL I M S) : I 17 6 = nI S.2.2.1 := h.2.2.2.2.2.2.1.1
theorem st_ck {I M : Nat → Nat → Int32} {S : SZ} (h : REL I M S) : lts I (cks I S.1) S.2.2.1 = ckS M (ckA M S.1) S.2.2.1 := by
  rw [cks_ck h.2.1 S.1 (Nat.le_refl _)]
  exact lts_ck h.2.2.2.2.2.2.1 S.2.2.1 (Nat.le_refl _)
theorem st_ip {I M : Nat → Nat → Int32} {S : SZ} (h : REL I M S) : isB I = if M 0 6 < 0 then 0 else 1 := isB_eq h.b99
theorem st_heard {I J M : Nat → Nat → Int32} {S : SZ} {x : UInt64} {q : UInt32} (h : REL I M S) (hm : M 0 11 ≤ 0 ∨ FP.fdiv (FP.i2f (M 0 12)) (FP.i2f (M 0 11)) = q) (w : WF (khs I) I J (fun x J => ∃ u, (khs I = 0 ∧ I = J ∧ FP.fdiv (FP.i2f (I 3 9)) (FP.i2f (I 3 8)) = u) ∧ FP.f2d u = x) x) : up2 M 0 15 (if M 0 11 ≤ 0 then 1 else 0) 0 15 = nI (khs I) ∧ (khs I = 0 → x = FP.f2d q ∧ vf_n32 q) ∧ REL J (up2 M 0 15 (if M 0 11 ≤ 0 then 1 else 0)) S := by
  obtain ⟨r, hr, hg, -⟩ := h.2.2.2.2.2.2.2
  obtain ⟨m, hm1, hm2⟩ := hg.2.2
  obtain ⟨c1, c2⟩ := h.2.2.2.2.2.1
  have e : (if M 0 11 ≤ 0 then (1 : Int32) else 0) = nI (khs I) := by
    unfold khs
    rw [← c1, hm2]
    by_cases z : m = 0
    · rw [z]; rfl
    · rw [if_neg (nI_nle (by omega) (by omega)), if_neg (nI_ne0 (by omega) (by omega))]; rfl
  have hk : khs I = 0 → (∃ u, (khs I = 0 ∧ I = J ∧ FP.fdiv (FP.i2f (I 3 9)) (FP.i2f (I 3 8)) = u) ∧ FP.f2d u = x) → I = J ∧ (x = FP.f2d q ∧ vf_n32 q) := fun z ⟨u, ⟨_, e1, e2⟩, e3⟩ => by
    have hn : ¬ M 0 11 ≤ 0 := fun y => by rw [if_pos y, z] at e; exact absurd e n10
    have hq := hm.resolve_left hn
    rw [c1, c2, hq] at e2
    refine ⟨e1, by rw [← e3, e2], ?_⟩
    rw [← hq]
    exact nn_fdiv (fun y => hn (by rw [y]; decide))
  refine ⟨by rw [up2_s]; exact e, fun z => (hk z (w.1 z)).2, ?_⟩
  by_cases z : khs I = 0
  · rw [← (hk z (w.1 z)).1]; exact REL_up h
  · rw [w.2 z]; exact REL_up h
theorem st_mean {I J M : Nat → Nat → Int32} {S : SZ} {x q : UInt64} (h : REL I M S) (hm : S.2.2.1 = 0 ∨ FP.ddiv (FP.i2d (smM M S.2.2.1)) (FP.i2d (nI S.2.2.1)) = q) (w : WF (klo I) I J (fun x J => klo I = 0 ∧ I = J ∧ FP.ddiv (FP.i2d (sumB (I 22) S.2.2.1)) (FP.i2d (I 17 6)) = x) x) : up2 M 0 15 (if S.2.2.1 = 0 then 1 else 0) 0 15 = nI (klo I) ∧ (klo I = 0 → x = q ∧ vf_n64 q) ∧ REL J (up2 M 0 15 (if S.2.2.1 = 0 then 1 else 0)) S := by
  have hl := h.2.2.2.2.2.2.1
  have e := c_lo hl
  have hk : klo I = 0 → (klo I = 0 ∧ I = J ∧ FP.ddiv (FP.i2d (sumB (I 22) S.2.2.1)) (FP.i2d (I 17 6)) = x) → I = J ∧ (x = q ∧ vf_n64 q) := fun z ⟨_, e1, e2⟩ => by
    have hn : ¬ S.2.2.1 = 0 := fun y => by rw [if_pos y, z] at e; exact absurd e n10
    have hq := hm.resolve_left hn
    rw [sum_sm hl S.2.2.1 (Nat.le_refl _), hl.1, hq] at e2
    refine ⟨e1, e2.symm, ?_⟩
    rw [← hq]
    exact nn_ddiv (nI_ne0 (by omega) (by have := hl.2.1; omega))
  refine ⟨by rw [up2_s]; exact e, fun z => (hk z (w.1 z)).2, ?_⟩
  by_cases z : klo I = 0
  · rw [← (hk z (w.1 z)).1]; exact REL_up h
  · rw [w.2 z]; exact REL_up h
