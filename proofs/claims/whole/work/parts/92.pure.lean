/-! the log's order, row by row -/
theorem mv3_34 {K : Nat → Nat → Int32} {v : Nat} : mv3 K v 3 4 = K 3 4 := by
  have h2 : mv2 K v 3 4 = K 3 4 := by
    unfold mv2; split
    · rfl
    · split
      · split
        · rw [enH_r (by decide) (by decide)]
        · rfl
      · rw [enH_r (by decide) (by decide)]
  unfold mv3; split
  · exact h2
  · unfold bgS kpI
    rw [up2_n (Or.inr (by decide)), up2_row (by omega)]
    split
    · rw [up2_row (by omega)]; exact h2
    · rw [up2_row (by omega), up2_row (by omega), up2_row (by omega), up2_row (by omega), up2_row (by omega), up2_row (by omega), up2_row (by omega)]; exact h2
theorem LC_e {I J : Nat → Nat → Int32} (h : LC I) (h1 : J 17 6 = I 17 6) (h2 : J 18 = I 18) : LC J := ⟨h.1.of h1, fun n hn => by rw [h2]; exact h.2 n (lgn_e h1 ▸ hn)⟩
theorem LC_en {I : Nat → Nat → Int32} {v : Nat} (h : LC I) : LC (enH I v) := LC_e h (by rw [enH_r (by decide) (by decide)]) (enH_r (by decide) (by decide))
theorem LC_mv {I : Nat → Nat → Int32} {v : Nat} {x : Int32} (h : LC I) : LC (mvV I v x) := LC_e h (by rw [mvV_n (by omega) (by omega)]) (mvV_n (by omega) (by omega))
theorem LC_bg {I : Nat → Nat → Int32} {v : Nat} (h : LC I) (hv : v < 12) : LC (bgS I v (lgn I)) := by
  rcases bg_lg h.1 hv with ⟨z0, z1, z2⟩ | ⟨z0, z1, z2, z3, z4, z5, z6⟩
  · exact LC_e h (by rw [z1 17 (by decide) (by decide)]) (z1 18 (by decide) (by decide))
  · have e0 : lgn (bgS I v (lgn I)) = lgn I + 1 := by
      show (bgS I v (lgn I) 17 6).toNatClampNeg = lgn I + 1
      rw [z1, nI_clamp (by omega)]
    refine ⟨⟨lgn I + 1, by omega, z1⟩, fun n hn => ?_⟩
    rw [e0] at hn
    rw [z2 n]
    by_cases hn0 : n = lgn I
    · rw [if_pos hn0]; exact ⟨v, hv, rfl⟩
    · rw [if_neg hn0]; exact h.2 n (by omega)
theorem mv2_w {K : Nat → Nat → Int32} {v r : Nat} (hC : LC K) (h : LVo K v r) (h34 : K 3 4 = nI r) : LC (mv2 K v) ∧ LVo (mv2 K v) v r ∧ mv2 K v 3 4 = nI r ∧ mv2 K v (24 + v) 4 = K (24 + v) 4 ∧ (¬ anw K v = 0 → mv2 K v (24 + v) 8 = 0 ∧ mv2 K v (24 + v) 9 = 0 ∧ ¬ K (24 + v) 4 = 0) := by
  have ha : ¬ anw K v = 0 → K (24 + v) 8 = 0 ∧ ¬ K (24 + v) 4 = 0 := fun q => by
    unfold anw ird at q
    by_cases h4 : K (24 + v) 4 = 0
    · rw [if_pos h4, if_pos rfl] at q; exact absurd rfl q
    · rw [if_neg h4] at q
      by_cases h8 : K (24 + v) 8 = 0
      · exact ⟨h8, h4⟩
      · rw [if_neg h8, if_pos rfl] at q; exact absurd rfl q
  have he : LC (enH K v) ∧ LVo (enH K v) v r ∧ enH K v 3 4 = nI r ∧ enH K v (24 + v) 4 = K (24 + v) 4 := ⟨LC_en hC, LVo_en hC.1 h h34, by rw [enH_r (by decide) (by decide)]; exact h34, enH_v (by decide) (by decide) (by decide)⟩
  obtain ⟨k8, k9, -⟩ := enH_3v (I := K) (v := v)
  unfold mv2
  by_cases h9 : K (24 + v) 9 = 0
  · rw [if_pos h9]
    exact ⟨hC, h, h34, rfl, fun q => ⟨(ha q).1, h9, (ha q).2⟩⟩
  · rw [if_neg h9]
    by_cases hg : anw K v = 0
    · rw [if_pos hg]
      split
      · exact ⟨he.1, he.2.1, he.2.2.1, he.2.2.2, fun q => absurd hg q⟩
      · exact ⟨hC, h, h34, rfl, fun q => absurd hg q⟩
    · rw [if_neg hg]
      exact ⟨he.1, he.2.1, he.2.2.1, he.2.2.2, fun q => ⟨k8, k9, (ha q).2⟩⟩
theorem mv2_o {K : Nat → Nat → Int32} {v w r s : Nat} (hC : LC K) (h : LVo K v r) (h34 : K 3 4 = nI r) (hw : LVo K w s) (hv : v < 12) (hw2 : w < 12) (hne : w ≠ v) : LVo (mv2 K v) w s := by
  unfold mv2
  split
  · exact hw
  · split
    · split
      · exact LVo_eo hC.1 h h34 hw hv hw2 hne
      · exact hw
    · exact LVo_eo hC.1 h h34 hw hv hw2 hne
/-- a valve's step in a row -/
theorem LVo_st {J : Nat → Nat → Int32} {v r : Nat} {x : Int32} (hC : LC J) (h : LVo J v r) (h34 : J 3 4 = nI r) (hr : r < 200) (hv : v < 12) : LC (mv3 (mvV J v x) v) ∧ LVo (mv3 (mvV J v x) v) v (r + 1) ∧ ∀ w s, w < 12 → w ≠ v → LVo J w s → LVo (mv3 (mvV J v x) v) w s := by
  have hC1 := LC_mv (v := v) (x := x) hC
  have h1 := LVo_mv (x := x) h h34
  have h341 : mvV J v x 3 4 = nI r := (mvV_3 (by decide)).trans h34
  have hw1 : ∀ w s, w < 12 → w ≠ v → LVo J w s → LVo (mvV J v x) w s := fun w s hw hne q => LVo_c q (by rw [mvV_n (by omega) (by omega)]) (fun b hb => mvV_n (by omega) (by omega)) (fun b _ => by rw [mvV_n (by omega) (by omega)])
  generalize mvV J v x = K at hC1 h1 h341 hw1 ⊢
  obtain ⟨a1, a2, a3, a4, a5⟩ := mv2_w hC1 h1 h341
  unfold mv3
  by_cases hg : anw K v = 0
  · rw [if_pos hg]
    exact ⟨a1, LVo_r a2 (Nat.le_succ r), fun w s hw hne q => mv2_o hC1 h1 h341 (hw1 w s hw hne q) hv hw hne⟩
  · rw [if_neg hg]
    obtain ⟨b1, b2, b3⟩ := a5 hg
    exact ⟨LC_bg a1 hv, LVo_bg a1.1 a2 a3 hr hv b1 b2 (by rw [a4]; exact b3), fun w s hw hne q => LVo_bo a1.1 (mv2_o hC1 h1 h341 (hw1 w s hw hne q) hv hw hne) hv hw hne⟩
theorem mv3_38 {K : Nat → Nat → Int32} {v : Nat} : mv3 K v 3 8 = K 3 8 := by
  have h2 : mv2 K v 3 8 = K 3 8 := by
    unfold mv2; split
    · rfl
    · split
      · split
        · rw [enH_r (by decide) (by decide)]
        · rfl
      · rw [enH_r (by decide) (by decide)]
  unfold mv3; split
  · exact h2
  · unfold bgS kpI
    rw [up2_n (Or.inr (by decide)), up2_row (by omega)]
    split
    · rw [up2_row (by omega)]; exact h2
    · rw [up2_row (by omega), up2_row (by omega), up2_row (by omega), up2_row (by omega), up2_row (by omega), up2_row (by omega), up2_row (by omega)]; exact h2
theorem mv_38 {I : Nat → Nat → Int32} {v n : Nat} {x : Int32} (h : ∃ m, m ≤ n ∧ I 3 8 = nI m) : ∃ m, m ≤ n + 1 ∧ mvV I v x 3 8 = nI m := by
  obtain ⟨m, h1, h2⟩ := h
  have hs : ∀ J : Nat → Nat → Int32, J 3 8 = I 3 8 → ∃ m, m ≤ n + 1 ∧ J 3 8 = nI m := fun J e => ⟨m, by omega, e.trans h2⟩
  unfold mvV
  split
  · split
    · exact hs _ rfl
    · split
      · exact hs _ (by rw [up2_row (by omega)])
      · exact hs _ (by rw [clV_n (by omega), up2_row (by omega)])
  · split
    · refine ⟨m + 1, by omega, ?_⟩
      unfold opV
      rw [up2_s, up2_row (by omega), h2, nI_1]
    · exact hs _ (by rw [up2_row (by omega)])
def LG (I : Nat → Nat → Int32) (r : Nat) : Prop := LC I ∧ (∀ v, v < 12 → LVo I v r) ∧ ∃ m, m ≤ 12 * r ∧ I 3 8 = nI m
theorem LG_c {I J : Nat → Nat → Int32} {r : Nat} (h : LG I r) (h1 : J 17 6 = I 17 6) (h2 : ∀ b, b < 4 → J (18 + b) = I (18 + b)) (h3 : ∀ v b, v < 12 → 4 ≤ b → J (24 + v) b = I (24 + v) b) (h38 : J 3 8 = I 3 8) : LG J r := ⟨LC_e h.1 h1 (h2 0 (by decide)), fun v hv => LVo_c (h.2.1 v hv) h1 h2 (fun b hb => h3 v b hv hb), by rw [h38]; exact h.2.2⟩
theorem LG_all {a : Nat → Nat → Int32} {r : Nat} {fd : Int32} (h : LG a r) (h34 : a 3 4 = nI r) (hr : r < 200) : ∀ k, k ≤ 12 → LC (mvs a fd k) ∧ mvs a fd k 3 4 = nI r ∧ (∀ v, v < 12 → LVo (mvs a fd k) v (if v < k then r + 1 else r)) ∧ ∃ m, m ≤ 12 * r + k ∧ mvs a fd k 3 8 = nI m
  | 0, _ => ⟨h.1, h34, fun v hv => by rw [if_neg (Nat.not_lt_zero v)]; exact h.2.1 v hv, h.2.2⟩
  | k + 1, hk => by
    obtain ⟨i1, i2, i3, i4⟩ := LG_all h h34 hr k (by omega)
    have e : mvs a fd (k + 1) = mv3 (mvV (mvs a fd k) k (ir fd (nI k))) k := rfl
    rw [e]
    have ik := i3 k (by omega)
    rw [if_neg (Nat.lt_irrefl k)] at ik
    obtain ⟨s1, s2, s3⟩ := LVo_st (x := ir fd (nI k)) i1 ik i2 hr (by omega)
    refine ⟨s1, by rw [mv3_34, mvV_3 (by decide)]; exact i2, fun v hv => ?_, by rw [mv3_38]; exact mv_38 i4⟩
    by_cases e2 : v = k
    · subst e2; rw [if_pos (Nat.lt_succ_self v)]; exact s2
    · have q := s3 v _ hv e2 (i3 v hv)
      by_cases e3 : v < k
      · rw [if_pos (by omega)]; rw [if_pos e3] at q; exact q
      · rw [if_neg (by omega)]; rw [if_neg e3] at q; exact q
theorem LG_row {I : Nat → Nat → Int32} {r i : Nat} (h : LG I r) (h34 : I 3 4 = nI r) (hr : r < 200) : LG (plr I i) (r + 1) ∧ plr I i 3 4 = nI (r + 1) := by
  have e : plr I i = up2 (up2 (mvSu (mvs (up2 (mkl I (rh I i)) 3 11 (ir (rh I i) 12)) (ffd (up2 (mkl I (rh I i)) 3 11 (ir (rh I i) 12)) (rh I i) 12) 12)) 3 12 (rh I i)) 3 4 (mvSu (mvs (up2 (mkl I (rh I i)) 3 11 (ir (rh I i) 12)) (ffd (up2 (mkl I (rh I i)) 3 11 (ir (rh I i) 12)) (rh I i) 12) 12) 3 4 + 1) := rfl
  rw [e]
  generalize rh I i = x
  have ha : LG (up2 (mkl I x) 3 11 (ir x 12)) r := LG_c h (by rw [up2_row (by omega), mkl_n (by omega)]) (fun b hb => by rw [up2_row (by omega), mkl_n (by omega)]) (fun v b hv _ => by rw [up2_row (by omega), mkl_n (by omega)]) (by rw [up2_n (Or.inr (by decide)), mkl_3 (by decide) (by decide)])
  have ha4 : up2 (mkl I x) 3 11 (ir x 12) 3 4 = nI r := by rw [up2_n (Or.inr (by decide)), mkl_3 (by decide) (by decide)]; exact h34
  generalize up2 (mkl I x) 3 11 (ir x 12) = a at ha ha4 ⊢
  obtain ⟨b1, b2, b3, b4⟩ := LG_all (fd := ffd a x 12) ha ha4 hr 12 (Nat.le_refl _)
  generalize mvs a (ffd a x 12) 12 = m at b1 b2 b3 b4 ⊢
  have hm : LG m (r + 1) := ⟨b1, fun v hv => by have := b3 v hv; rw [if_pos hv] at this; exact this, by obtain ⟨m9, c1, c2⟩ := b4; exact ⟨m9, by omega, c2⟩⟩
  constructor
  · exact LG_c hm (by rw [up2_row (by omega), up2_row (by omega)]; unfold mvSu; rw [up2_row (by omega)]) (fun b hb => by rw [up2_row (by omega), up2_row (by omega)]; unfold mvSu; rw [up2_row (by omega)]) (fun v b hv _ => by rw [up2_row (by omega), up2_row (by omega)]; unfold mvSu; rw [up2_row (by omega)]) (by rw [up2_n (Or.inr (by decide)), up2_n (Or.inr (by decide)), mvSu_3 (by decide)])
  · rw [up2_s, mvSu_3 (by decide), b2, nI_1]
theorem LG_pr {I : Nat → Nat → Int32} {r i : Nat} (h : LG I r) (h34 : I 3 4 = nI r) : ∀ k, r + k ≤ 200 → LG (prI I i k) (r + k) ∧ prI I i k 3 4 = nI (r + k)
  | 0, _ => ⟨h, h34⟩
  | k + 1, hk => by
    obtain ⟨i1, i2⟩ := LG_pr h h34 k (by omega)
    have hq : r + k < 200 := by omega
    exact LG_row i1 i2 hq
theorem LG_ep {I : Nat → Nat → Int32} {r : Nat} (h : LG I r) (h34 : I 3 4 = nI r) : ∀ k, k ≤ 12 → LG (epl I k) r ∧ epl I k 3 4 = nI r
  | 0, _ => ⟨h, h34⟩
  | k + 1, hk => by
    obtain ⟨i1, i2⟩ := LG_ep h h34 k (by omega)
    have e : epl I (k + 1) = up2 (enH (epl I k) k) (24 + k) 4 0 := rfl
    rw [e]
    generalize epl I k = K at i1 i2 ⊢
    refine ⟨⟨LC_e (LC_en (v := k) i1.1) (by rw [up2_row (by omega)]) (up2_row (by omega)), fun v hv => ?_, by rw [up2_row (by omega), enH_r (by decide) (by decide)]; exact i1.2.2⟩, by rw [up2_row (by omega), enH_r (by decide) (by decide)]; exact i2⟩
    by_cases e2 : v = k
    · subst e2
      refine LVo_m (LVo_en i1.1.1 (i1.2.1 v hv) i2) (by rw [up2_row (by omega)]) (fun b hb => up2_row (by omega)) (up2_n (Or.inr (by decide))) (fun q => ?_) (fun q => ?_)
      · rw [up2_n (Or.inr (by decide)), up2_n (Or.inr (by decide))]; exact q
      · rw [up2_s] at q; exact absurd rfl q
    · exact LVo_c (LVo_eo i1.1.1 (i1.2.1 k (by omega)) i2 (i1.2.1 v hv) (by omega) hv e2) (by rw [up2_row (by omega)]) (fun b hb => up2_row (by omega)) (fun b _ => by rw [up2_row (by omega)])
theorem LG_bg {I : Nat → Nat → Int32} {i : Nat} : LG (bgP I i) 0 := by
  have h17 : bgP I i 17 6 = nI 0 := bgP_17
  have hl : lgn (bgP I i) = 0 := by unfold lgn; rw [h17]; rfl
  refine ⟨⟨⟨0, by decide, h17⟩, fun n hn => by rw [hl] at hn; omega⟩, fun v hv => ?_, ⟨0, by decide, bgP_3.2.2.2.2.1⟩⟩
  have hv2 : bgP I i (24 + v) 4 = 0 ∧ bgP I i (24 + v) 10 = -1 := by
    unfold bgP
    obtain ⟨a, -, -, -, b⟩ := rsA_v (I := up2 (bg0 I i) 17 6 0) (v := v) 12 hv
    exact ⟨a, b⟩
  refine ⟨fun n hn => by rw [hl] at hn; omega, fun m n hmn hn => by rw [hl] at hn; omega, Or.inl hv2.2, fun q => absurd hv2.1 q⟩
/-- the order holds -/
theorem lio_ok {I : Nat → Nat → Int32} {r : Nat} (h : LG I r) (hr : r ≤ 200) : ∀ n k g, k + n = lgn I → (∀ v, v < 12 → g v = -1 ∨ ∃ m, m < k ∧ I 18 m = nI v ∧ g v = if I 21 m = -1 then 200 else I 21 m) → lio I n k g = 1
  | 0, _, _, _, _ => rfl
  | n + 1, k, g, hk, hg => by
    have hkl : k < lgn I := by omega
    obtain ⟨v, hv, e18⟩ := h.1.2 k hkl
    obtain ⟨o, f, a, b, c, d, x⟩ := (h.2.1 v hv).1 k hkl e18
    have hcl : (I 18 k).toNatClampNeg = v := by rw [e18, nI_clamp (by omega)]
    have hw : lwt I k = 1 := by
      unfold lwt
      rw [c, d, if_neg (fun q => by have := (nI_ltI (by omega) (by omega)).mp q; omega)]
      rcases x with ⟨x1, -, -⟩ | ⟨e, y1, y2, y3⟩
      · rw [if_pos x1]
      · rw [y3, if_neg (nI_m1 (by omega)), if_neg (fun q => by have := (nI_ltI (by omega) (by omega)).mp q; omega)]
    have hlt : g v < I 20 k := by
      rcases hg v hv with q | ⟨m, q1, q2, q3⟩
      · rw [q, d, Int32.lt_iff_toInt_lt, nI_toInt (by omega)]
        have : (-1 : Int32).toInt = -1 := by decide
        omega
      · obtain ⟨e, f2, w1, w2, w3, w4⟩ := (h.2.1 v hv).2.1 m k q1 hkl q2 e18
        rw [q3, w3, if_neg (nI_m1 (by omega)), w4]
        exact (nI_ltI (by omega) (by omega)).mpr w1
    unfold lio
    rw [hcl, hw, if_neg (by rw [e18]; exact nI_pos (by omega)), if_neg (by rw [e18]; exact fun q => by have := (ge_L (c := 12) (n := 12) rfl (by omega) (by decide)).mp q; omega), if_neg n10, if_pos hlt]
    refine lio_ok h hr n (k + 1) _ (by omega) (fun w hw2 => ?_)
    by_cases e2 : w = v
    · subst e2
      exact Or.inr ⟨k, Nat.lt_succ_self k, e18, by unfold upd; rw [if_pos rfl]⟩
    · have e3 : upd g v (if I 21 k = -1 then 200 else I 21 k) w = g w := by unfold upd; rw [if_neg e2]
      rw [e3]
      rcases hg w hw2 with q | ⟨m, q1, q2⟩
      · exact Or.inl q
      · exact Or.inr ⟨m, by omega, q2⟩
theorem lio_at {I : Nat → Nat → Int32} {r c : Nat} (h : LG I r) (hr : r ≤ 200) (hc : I 17 6 = nI c) (h300 : c ≤ 300) : lio I c 0 (fun _ => -1) = 1 := by
  have e : lgn I = c := by unfold lgn; rw [hc, nI_clamp (by omega)]
  exact lio_ok h hr c 0 _ (by omega) (fun v _ => Or.inl rfl)
