/-! the relation: arrange as a whole -/
theorem RR_AI {I M K Q : Nat → Nat → Int32} {S : SZ} {j : Nat} {D : Nat → Nat → Prop} (h : RR I M S) (hj : j < S.1) (a : AI K Q j D) (h1 : K 0 6 = I 0 6) (h2 : ∀ i, i < 4 → i ≠ j → K (8 + i) = I (8 + i)) (h3 : ∀ a, ¬ (6000 + 200 * j ≤ a ∧ a < 6000 + 200 * j + 200) → Q a = M a) : RR K Q S := by
  refine ⟨h1.trans h.1, h.2.1, fun i hi r hr => ?_⟩
  by_cases e : i = j
  · subst e
    obtain ⟨x, hx, e1, e2, e3⟩ := a r hr
    exact ⟨x, hx, e1, fun q => by omega, fun _ => e2⟩
  · obtain ⟨x, hx, e1, e2, e3⟩ := h.2.2 i hi r hr
    refine ⟨x, hx, by rw [h2 i hi e]; exact e1, e2, fun q t ht => ?_⟩
    rw [h3 _ (by omega)]; exact e3 q t ht
theorem RR_up {I M : Nat → Nat → Int32} {S : SZ} {x : Int32} {b : Nat} (h : RR I M S) : RR I (up2 M 0 b x) S := RR_c h rfl (fun _ _ => rfl) (fun a h1 h2 => up2_row (by omega)) rfl
theorem RN_up {I M : Nat → Nat → Int32} {S : SZ} {fa la pa : Nat → Nat} {x : Int32} {b : Nat} (h : RN I M S fa la pa) : RN I (up2 M 0 b x) S fa la pa := RN_c h rfl rfl rfl rfl (fun n _ => up2_row (by omega)) rfl
theorem pop_4095 {x : Nat} : ∀ n, n ≤ 12 → pop (x &&& 4095) n = pop x n
  | 0, _ => rfl
  | n + 1, h => by unfold pop; rw [pop_4095 n (by omega), bt_and, bt_4095 n (by omega), if_pos (show n < 12 by omega), if_neg (show ¬ (1 : Nat) = 0 by decide)]
theorem hoM_sum {Q : Nat → Nat → Int32} {j t : Nat} {f : Nat → Nat} : ∀ n, (∀ r, r < n → (if Q (6000 + 200 * j + r) t = 0 then 0 else 1) = f r) → hoM Q j t n = sumN f n
  | 0, _ => rfl
  | n + 1, h => by
    unfold hoM sumN
    rw [hoM_sum n (fun r hr => h r (by omega)), ← h n (by omega)]
    split <;> rfl
theorem hsM_sum {Q : Nat → Nat → Int32} {j : Nat} : ∀ n, hsM Q j n = sumN (fun t => hoM Q j t 200) n
  | 0 => rfl
  | n + 1 => by show hsM Q j n + hoM Q j n 200 = sumN (fun t => hoM Q j t 200) n + hoM Q j n 200; rw [hsM_sum n]
theorem ar_sum {K Q : Nat → Nat → Int32} {j : Nat} {D : Nat → Nat → Prop} (a : AI K Q j D) : sumB (fun q => bcnt (K (8 + j) q &&& 4095)) 200 = nI (hsM Q j 12) := by
  have e1 : ∀ n, n ≤ 200 → sumB (fun q => bcnt (K (8 + j) q &&& 4095)) n = nI (sumN (fun r => sumN (fun t => if Q (6000 + 200 * j + r) t = 0 then 0 else 1) 12) n) := fun n hn => by
    refine sumB_N n (fun r hr => ?_)
    obtain ⟨x, hx, e1, e2, e3⟩ := a r (by omega)
    have hy : x &&& 4095 < 4096 := Nat.and_lt_two_pow (n := 12) _ (by decide)
    rw [e1, show (4095 : Int32) = nI 4095 from rfl, nI_and (by omega) (by decide), bcnt_nI (by omega), pop_12 hy, pop_4095 12 (Nat.le_refl _)]
    refine congrArg nI (pop_sum 12 (fun t ht => ?_))
    rw [e2 t (by omega)]
    rcases bt_01 x t with q | q <;> rw [q] <;> rfl
  rw [e1 200 (Nat.le_refl _), sumN_swap 200, hsM_sum]
  refine congrArg nI (sumN_ext 12 (fun t ht => ?_))
  exact (hoM_sum 200 (fun r hr => rfl)).symm
theorem sc_up {M : Nat → Nat → Int32} {x : Int32} {j r t : Nat} : stN (up2 M 0 15 x) j r t = stN M j r t := by
  unfold stN goM
  rw [up2_row (by omega), up2_row (by omega), up2_row (by omega)]
theorem lsM_up {M : Nat → Nat → Int32} {x : Int32} {j t : Nat} : ∀ n k q, lsM (up2 M 0 15 x) j t n k q = lsM M j t n k q
  | 0, _, _ => rfl
  | n + 1, k, q => by unfold lsM; rw [up2_row (by omega), lsM_up n]
theorem stL_up {M : Nat → Nat → Int32} {x : Int32} {j r t : Nat} : stL (up2 M 0 15 x) j r t = stL M j r t := by
  unfold stL itN lsF
  rw [sc_up, lsM_up]
theorem scT_up {M : Nat → Nat → Int32} {x : Int32} {j r : Nat} {xs : List N3} : ∀ n, scT (up2 M 0 15 x) j r xs n = scT M j r xs n
  | 0 => rfl
  | n + 1 => by rw [scT_s, scT_s, scT_up n, stL_up]
theorem scA_up {M : Nat → Nat → Int32} {x : Int32} {j : Nat} : ∀ n, scA (up2 M 0 15 x) j n = scA M j n
  | 0 => rfl
  | n + 1 => by rw [scA_s, scA_s, scA_up n, scT_up]
/-- scanned -/
theorem s_scanned {I M : Nat → Nat → Int32} {S : SZ} (h : RR I M S) {v : Int32} (q : kr1 I v = 0) : sumB (fun q => bcnt (fb I v.toNatClampNeg (nI q))) 200 = nI (scA (up2 M 0 15 0) v.toNatClampNeg 200).length := by
  have h1 : ¬ rp I v = 0 := fun e => by unfold kr1 at q; rw [if_pos e] at q; cases q
  obtain ⟨j, hj, hj4, rfl, e⟩ := k_r h h1
  rw [e, scA_up, sc_cnt h hj]
theorem s_scan2 {I M : Nat → Nat → Int32} {S : SZ} (h : RR I M S) {v x w : Int32} (q : ksc I v x w = 0) : scv I v x w = scq (scA (up2 M 0 15 0) v.toNatClampNeg 200) x.toNatClampNeg (ixS 0 w).toNatClampNeg := by
  rw [scA_up]; exact s_scan h q
theorem scC_up {M : Nat → Nat → Int32} {S : SZ} {y : Int32} (v x w : Int32) : scC S (up2 M 0 15 y) v x w = scC S M v x w := by
  unfold scC; rw [scA_up]
theorem s_isMusic {I M : Nat → Nat → Int32} {S : SZ} {fa la pa : Nat → Nat} (h : RR I M S) (hn : RN I M S fa la pa) {v : Int32} (q : kr1 I v = 0) : iscn I v.toNatClampNeg S.2.1 fa = muQ M (scA (up2 M 0 15 0) v.toNatClampNeg 200) (q0M S (scA (up2 M 0 15 0) v.toNatClampNeg 200)) S.2.1 := by
  have h1 : ¬ rp I v = 0 := fun e => by unfold kr1 at q; rw [if_pos e] at q; cases q
  obtain ⟨j, hj, hj4, rfl, e⟩ := k_r h h1
  rw [e, scA_up, mu_is h hn hj]
/-- arrange -/
theorem s_arr {I M : Nat → Nat → Int32} {S : SZ} {fa la pa : Nat → Nat} (h : RR I M S) (hn : RN I M S fa la pa) {v br : Int32} (q : kr1 I v = 0) : RR (arr1 I v br la S.2.1) (arN (arC (up2 M 0 15 0) v.toNatClampNeg 200 0) v.toNatClampNeg fa la pa br S.2.1) S ∧ RN (arr1 I v br la S.2.1) (arN (arC (up2 M 0 15 0) v.toNatClampNeg 200 0) v.toNatClampNeg fa la pa br S.2.1) S fa la pa ∧ sumB (fun q => bcnt (arr1 I v br la S.2.1 (8 + v.toNatClampNeg) q &&& 4095)) 200 = nI (hsM (arN (arC (up2 M 0 15 0) v.toNatClampNeg 200 0) v.toNatClampNeg fa la pa br S.2.1) v.toNatClampNeg 12) ∧ iscn (arr1 I v br la S.2.1) v.toNatClampNeg S.2.1 fa = 1 ∧ ∃ j, j < S.1 ∧ v = nI j := by
  have h1 : ¬ rp I v = 0 := fun e => by unfold kr1 at q; rw [if_pos e] at q; cases q
  obtain ⟨j, hj, hj4, rfl, e⟩ := k_r h h1
  rw [e]
  have hA := AI_all (fa := fa) (la := la) (pa := pa) (br := br) (RN_up (b := 15) (x := 0) hn) (AI_clr (RR_up (b := 15) (x := 0) h) hj) (upr_n (by omega)) (upr_n (by omega)) hj4 S.2.1 (Nat.le_refl _)
  have hfr : ∀ a, a ≠ 8 + j → pall (upr I (8 + j) (fun q => if q < 200 then I (8 + j) q &&& (-4096) else I (8 + j) q)) j br la S.2.1 a = I a := fun a ha => by rw [pall_row ha, upr_n ha]
  have hlq : ∀ n, n < S.2.1 → fa n + la n ≤ 200 := fun n hn2 => (hn.2.2.1 n hn2).2.2.2.2.1
  have hfq : ∀ a, ¬ (6000 + 200 * j ≤ a ∧ a < 6000 + 200 * j + 200) → arN (arC (up2 M 0 15 0) j 200 0) j fa la pa br S.2.1 a = up2 M 0 15 0 a := fun a ha => by rw [arN_n ha _ hlq, arC_n ha]
  have eK : ∀ a, a ≠ 0 → arr1 I (nI j) br la S.2.1 a = pall (upr I (8 + j) (fun q => if q < 200 then I (8 + j) q &&& (-4096) else I (8 + j) q)) j br la S.2.1 a := fun a ha => by unfold arr1; rw [e, up2_row ha]
  have eK0 : arr1 I (nI j) br la S.2.1 0 6 = I 0 6 := by unfold arr1; rw [e, up2_n (Or.inr (by decide)), hfr 0 (by omega)]
  have hA2 : AI (arr1 I (nI j) br la S.2.1) (arN (arC (up2 M 0 15 0) j 200 0) j fa la pa br S.2.1) j (CN fa la pa br S.2.1) := fun r hr => by
    rw [eK (8 + j) (by omega)]; exact hA r hr
  have hR : RR (arr1 I (nI j) br la S.2.1) (arN (arC (up2 M 0 15 0) j 200 0) j fa la pa br S.2.1) S := RR_AI (RR_up h) hj hA2 eK0 (fun i hi hij => by rw [eK _ (by omega), hfr _ (by omega)]) hfq
  have hN : RN (arr1 I (nI j) br la S.2.1) (arN (arC (up2 M 0 15 0) j 200 0) j fa la pa br S.2.1) S fa la pa := RN_c (RN_up hn) (by rw [eK 2 (by omega), hfr 2 (by omega)]) (by rw [eK 12 (by omega), hfr 12 (by omega)]) (by rw [eK 13 (by omega), hfr 13 (by omega)]) (by rw [eK 14 (by omega), hfr 14 (by omega)]) (fun n hn2 => hfq _ (by have := hn.2.1; omega)) rfl
  refine ⟨hR, hN, ar_sum hA2, ?_, j, hj, rfl⟩
  have hc := hA2.hc
  rcases iscn_PM hR hN hj with ⟨a, -⟩ | ⟨a, b⟩
  · exact a
  · exact absurd ⟨ar_cnt hc hn.mu, fun i hi => ar_PM hc hn.mu hi⟩ b
