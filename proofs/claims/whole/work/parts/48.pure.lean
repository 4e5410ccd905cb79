/-! set, roll, copy, arrange of the reference -/
def gtab (k : Nat) : Int32 := ([3, 999, 300, 99] : List Int32).getD k 0
def seC (w n : Int32) : Int32 := if ixS 1 w < 0 then 1 else if isi n 0 (gtab (ixS 1 w).toNatClampNeg) = 0 then 1 else 0
theorem gt_eq {M : Nat → Nat → Int32} {k : Nat} (h : k < 4) : up2 (up2 (up2 (up2 M 11 0 3) 11 1 999) 11 2 300) 11 3 99 11 k = gtab k := by
  rcases (show k = 0 ∨ k = 1 ∨ k = 2 ∨ k = 3 by omega) with rfl | rfl | rfl | rfl <;> simp [up2, gtab]
theorem mx0 {k : Nat} (h : k < 4) : mx2 0 (nI k) = nI k := by
  rcases (show k = 0 ∨ k = 1 ∨ k = 2 ∨ k = 3 by omega) with rfl | rfl | rfl | rfl <;> decide
def rlA (ad : Nat → Nat) (S : SZ) (q : Nat) : Nat → Nat := fun i => if i = 5000 + S.1 then q else if 6000 + 200 * S.1 ≤ i ∧ i < 6000 + 200 * S.1 + 200 then q + 1 + (i - (6000 + 200 * S.1)) else ad i
def rwM (M : Nat → Nat → Int32) (n : Nat) : Nat → Nat → Int32 := fun a => if 6000 + 200 * n ≤ a ∧ a < 6000 + 200 * n + 200 then fun _ => 0 else M a
theorem rwM_n {M : Nat → Nat → Int32} {n a : Nat} (h : ¬ (6000 + 200 * n ≤ a ∧ a < 6000 + 200 * n + 200)) : rwM M n a = M a := if_neg h
theorem rlA_o {ad : Nat → Nat} {S : SZ} {q : Nat} : rlA ad S q (5000 + S.1) = q := if_pos rfl
theorem rlA_n {ad : Nat → Nat} {S : SZ} (hS : WS S) (hlt : S.1 < 4) {q i : Nat} (h : i ∈ mL S ∨ i = 99999) : rlA ad S q i = ad i := by
  have h1 : i ≠ 5000 + S.1 := fun e => by
    rcases h with h | h
    · exact f_o hS (Nat.le_refl _) hlt (e ▸ h)
    · omega
  have h2 : ¬ (6000 + 200 * S.1 ≤ i ∧ i < 6000 + 200 * S.1 + 200) := fun e => by
    rcases h with h | h
    · have := f_r hS (Nat.le_refl S.1) hlt (show i - (6000 + 200 * S.1) < 200 by omega)
      rw [show 6000 + 200 * S.1 + (i - (6000 + 200 * S.1)) = i by omega] at this
      exact this h
    · omega
  unfold rlA
  rw [if_neg h1, if_neg h2]
theorem mR_oN {S : SZ} {j k : Nat} (h : j < 4) : mR S (5000 + j) k = if k < 200 then some (6000 + 200 * j + k) else none := by
  by_cases hk : k < 200
  · rw [mR_o h hk, if_pos hk]
  · rw [if_neg hk]
    unfold mR
    simp only [show ¬ 5000 + j = 0 by omega, show ¬ 5000 + j = 1 by omega, show ¬ 5000 + j = 2 by omega, show ¬ 5000 + j = 3 by omega, show ¬ 5000 + j = 4 by omega, show ¬ 5000 + j < 1000 by omega, show ¬ 5000 + j < 2000 by omega, show ¬ 5000 + j < 3000 by omega, show ¬ 5000 + j < 4000 by omega, show ¬ 5000 + j < 5000 by omega, show 5000 + j < 5004 by omega, hk, if_true, if_false]
theorem cg2 {α β γ : Type} (f : α → β → γ) {a a2 : α} {b b2 : β} (h : a = a2) (h2 : b = b2) : f a b = f a2 b2 := by rw [h, h2]
theorem pw_roll {dT : Nat → ClassId} {ad : Nat → Nat} {M : Nat → Nat → Int32} {S : SZ} (hS : WS S) (hlt : S.1 < 4) (q : Nat) : pw ad (mL S) (pf dT mK mN M (mR S) ad) ++ ((q, (.inl (dT 26, 200, .inr (.inr (.inr (.inr (fun k => if k < 200 then some (q + 1 + k) else none))))) : va_E)) :: (List.range 200).map (fun k => (q + 1 + k, (.inl (dT 21, 16, .inl (fun _ => 0)) : va_E)))) = pw (rlA ad S q) (rwL S 200) (pf dT mK mN (rwM M S.1) (mR S) (rlA ad S q)) := by
  unfold rwL pw
  rw [List.map_append, List.map_append, List.append_assoc]
  refine cg2 (· ++ ·) ?_ ?_
  · apply List.map_congr_left
    intro i hi
    rw [rlA_n hS hlt (Or.inl hi)]
    have h2 : ¬ (6000 + 200 * S.1 ≤ i ∧ i < 6000 + 200 * S.1 + 200) := fun e => by
      have := f_r hS (Nat.le_refl S.1) hlt (show i - (6000 + 200 * S.1) < 200 by omega)
      rw [show 6000 + 200 * S.1 + (i - (6000 + 200 * S.1)) = i by omega] at this
      exact this hi
    rw [pf_I (I := M) (I2 := rwM M S.1) (rwM_n h2)]
    refine congrArg (Prod.mk (ad i)) ?_
    refine pf_ad (fun k j e => (rlA_n hS hlt ?_).symm)
    exact mR_cl hS hi e
  · rw [List.map_singleton, List.singleton_append]
    refine cg2 List.cons ?_ ?_
    · rw [rlA_o]
      congr 1
      rw [pf_ra (mK_o hlt) (by decide), mN_o hlt]
      have e : (fun k => if k < 200 then some (q + 1 + k) else none) = (fun j => (mR S (5000 + S.1) j).map (rlA ad S q)) := by
        funext k
        rw [mR_oN hlt]
        by_cases hk : k < 200
        · rw [if_pos hk, if_pos hk, Option.map_some]
          unfold rlA
          rw [if_neg (by omega), if_pos (by omega)]
          congr 1
          omega
        · rw [if_neg hk, if_neg hk]; rfl
      rw [e]
    · rw [List.map_map]
      apply List.map_congr_left
      intro k hk
      have hk2 := List.mem_range.mp hk
      show _ = (rlA ad S q (6000 + 200 * S.1 + k), pf dT mK mN (rwM M S.1) (mR S) (rlA ad S q) (6000 + 200 * S.1 + k))
      rw [pf_ia (mK_r hlt hk2) (Or.inr rfl), mN_r hlt hk2]
      unfold rlA rwM
      rw [if_neg (by omega), if_pos (by omega), if_pos (by omega)]
      congr 1
      omega
def roM (M : Nat → Nat → Int32) (n : Nat) : Nat → Nat → Int32 := up2 (up2 (rwM M n) 1 0 (rwM M n 1 0 + 1)) 1 2 (nI (n + 1))
theorem LV_up {L L2 : List Nat} {R R2 : Nat → Nat → Option Nat} {M M2 : Nat → Nat → Int32} {l s b : Nat} (h : LV L R M l s b) (hL : ∀ i ∈ L, i ∈ L2) (hR : ∀ i ∈ L, R2 i = R i) (hM : M2 l 2 = M l 2) : LV L2 R2 M2 l s b := by
  obtain ⟨h1, h2, h3, h4, h5⟩ := h
  refine ⟨hL _ h1, h2, hM.trans h3, h4, fun h0 => ?_⟩
  obtain ⟨e, e1, e2, e3, e4, e5, e6⟩ := h5 h0
  exact ⟨e, hL _ e1, e2, by rw [hR _ h1]; exact e3, e4, e5, fun k hk => by rw [hR _ e1]; exact e6 k hk⟩
/-- copying: the first r rows are there -/
def cpR (S : SZ) (r : Nat) : Nat → Nat → Option Nat := fun a => if a = 5000 + S.1 then (fun k => if k < r then some (6000 + 200 * S.1 + k) else none) else mR S a
def cpM (M : Nat → Nat → Int32) (j n r : Nat) : Nat → Nat → Int32 := fun a => if 6000 + 200 * n ≤ a ∧ a < 6000 + 200 * n + r then M (6000 + 200 * j + (a - (6000 + 200 * n))) else M a
theorem cpR_n {S : SZ} {r a : Nat} (h : a ≠ 5000 + S.1) : cpR S r a = mR S a := if_neg h
theorem cpM_n {M : Nat → Nat → Int32} {j n r a : Nat} (h : ¬ (6000 + 200 * n ≤ a ∧ a < 6000 + 200 * n + r)) : cpM M j n r a = M a := if_neg h
theorem cpR_0 {S : SZ} : zR (mR S) (5000 + S.1) = cpR S 0 := by
  funext a
  unfold zR cpR
  by_cases h : a = 5000 + S.1
  · rw [if_pos h, if_pos h]; rfl
  · rw [if_neg h, if_neg h]
theorem cpR_200 {S : SZ} (hlt : S.1 < 4) : cpR S 200 = mR S := by
  funext a
  unfold cpR
  by_cases h : a = 5000 + S.1
  · rw [if_pos h, h]; funext k; rw [mR_oN hlt]
  · rw [if_neg h]
theorem cpM_0 {M : Nat → Nat → Int32} {j n : Nat} : M = cpM M j n 0 := by
  funext a
  rw [cpM_n (by omega)]
theorem cpR_s {S : SZ} {r : Nat} : up2 (cpR S r) (5000 + S.1) r (some (6000 + 200 * S.1 + r)) = cpR S (r + 1) := by
  funext a k
  by_cases h : a = 5000 + S.1
  · subst h
    by_cases hk : k = r
    · subst hk; rw [up2_s]; unfold cpR; rw [if_pos rfl, if_pos (Nat.lt_succ_self k)]
    · rw [up2_n (Or.inr hk)]
      unfold cpR
      rw [if_pos rfl, if_pos rfl]
      by_cases h2 : k < r
      · rw [if_pos h2, if_pos (by omega)]
      · rw [if_neg h2, if_neg (by omega)]
  · rw [up2_row h, cpR_n h, cpR_n h]
theorem cpM_s {M : Nat → Nat → Int32} {j n r : Nat} (hj : j < n) (hr : r < 200) : upr (cpM M j n r) (6000 + 200 * n + r) (cpM M j n r (6000 + 200 * j + r)) = cpM M j n (r + 1) := by
  have e : cpM M j n r (6000 + 200 * j + r) = M (6000 + 200 * j + r) := cpM_n (by omega)
  rw [e]
  funext a
  by_cases h : a = 6000 + 200 * n + r
  · subst h
    rw [upr_s]
    unfold cpM
    rw [if_pos (by omega)]
    congr 1
    omega
  · rw [upr_n h]
    unfold cpM
    by_cases h2 : 6000 + 200 * n ≤ a ∧ a < 6000 + 200 * n + r
    · rw [if_pos h2, if_pos (by omega)]
    · rw [if_neg h2, if_neg (by omega)]
def cpC (S : SZ) (v : Int32) : Int32 := if isi v 0 (nI S.1 - 1) = 0 then 1 else if S.1 < 4 then 0 else 2
def coM (M : Nat → Nat → Int32) (j n : Nat) : Nat → Nat → Int32 := up2 (up2 (cpM M j n 200) 1 0 (cpM M j n 200 1 0 + 1)) 1 2 (nI (n + 1))
theorem rwL_no {S : SZ} (hS : WS S) {r n : Nat} (hlt : S.1 < 4) (hr : r < 200) (hn : n = 6000 + 200 * S.1 + r) : ∀ i ∈ rwL S r, ∀ k, cpR S r i k ≠ some n := fun i hi k e => by
  subst hn
  by_cases h : i = 5000 + S.1
  · unfold cpR at e
    rw [if_pos h] at e
    by_cases hk : k < r
    · rw [if_pos hk] at e; injection e with e; omega
    · rw [if_neg hk] at e; cases e
  · rw [cpR_n h] at e
    rcases rwL_mem.mp hi with w | w | ⟨k9, w1, w2⟩
    · rcases mR_cl hS w e with q | q
      · exact f_r hS (Nat.le_refl _) hlt hr q
      · omega
    · exact h w
    · rw [w2, mR_0 (by omega)] at e; cases e
theorem rwL_nin {S : SZ} (hS : WS S) {r : Nat} (hlt : S.1 < 4) (hr : r < 200) : 6000 + 200 * S.1 + r ∉ rwL S r := fun h => by
  rcases rwL_mem.mp h with w | w | ⟨k9, w1, w2⟩
  · exact f_r hS (Nat.le_refl _) hlt hr w
  · omega
  · omega
/-- arranging: the notes' tracks are cleared up to row r, track t -/
def arC (M : Nat → Nat → Int32) (j r t : Nat) : Nat → Nat → Int32 := fun a b => if 6000 + 200 * j ≤ a ∧ a < 6000 + 200 * j + 200 ∧ b < 12 ∧ (a < 6000 + 200 * j + r ∨ (a = 6000 + 200 * j + r ∧ b < t)) then 0 else M a b
theorem arC_n {M : Nat → Nat → Int32} {j r t a : Nat} (h : ¬ (6000 + 200 * j ≤ a ∧ a < 6000 + 200 * j + 200)) : arC M j r t a = M a := by
  funext b
  exact if_neg (fun q => h ⟨q.1, q.2.1⟩)
theorem arC_0 {M : Nat → Nat → Int32} {j : Nat} : M = arC M j 0 0 := by
  funext a b
  exact (if_neg (by omega)).symm
theorem arC_s {M : Nat → Nat → Int32} {j r t : Nat} (hr : r < 200) (ht : t < 12) : up2 (arC M j r t) (6000 + 200 * j + r) t 0 = arC M j r (t + 1) := by
  funext a b
  by_cases h : a = 6000 + 200 * j + r ∧ b = t
  · obtain ⟨rfl, rfl⟩ := h
    rw [up2_s]
    exact (if_pos (by omega)).symm
  · rw [up2_n (by omega)]
    unfold arC
    by_cases q : 6000 + 200 * j ≤ a ∧ a < 6000 + 200 * j + 200 ∧ b < 12 ∧ (a < 6000 + 200 * j + r ∨ (a = 6000 + 200 * j + r ∧ b < t))
    · rw [if_pos q, if_pos (by omega)]
    · rw [if_neg q, if_neg (by omega)]
theorem arC_r {M : Nat → Nat → Int32} {j r : Nat} : arC M j r 12 = arC M j (r + 1) 0 := by
  funext a b
  unfold arC
  by_cases q : 6000 + 200 * j ≤ a ∧ a < 6000 + 200 * j + 200 ∧ b < 12 ∧ (a < 6000 + 200 * j + r ∨ (a = 6000 + 200 * j + r ∧ b < 12))
  · rw [if_pos q, if_pos (by omega)]
  · rw [if_neg q, if_neg (by omega)]
def brv (br : Int32) (m l : Nat) : Int32 := if br = 0 then 1 else if nI m - nI m / 4 * 4 = 3 then (if nI m = nI l - 1 then 1 else 0) else 1
def arK (M : Nat → Nat → Int32) (j f l p : Nat) (br : Int32) : Nat → Nat → Nat → Int32
  | 0 => M
  | m + 1 => up2 (arK M j f l p br m) (6000 + 200 * j + (f + m)) p (brv br m l)
def arN (M : Nat → Nat → Int32) (j : Nat) (fa la pa : Nat → Nat) (br : Int32) : Nat → Nat → Nat → Int32
  | 0 => M
  | k + 1 => arK (arN M j fa la pa br k) j (fa k) (la k) (pa k) br (la k)
theorem itM_comm {M : Nat → Nat → Int32} {t l k a b : Nat} {v : Int32} (h : a ≠ t) (h2 : a ≠ l) : up2 (itM M t l k) a b v = itM (up2 M a b v) t l k := by
  funext x y
  by_cases hx : x = t
  · subst hx
    rw [up2_row (Ne.symm h)]
    unfold itM
    rw [if_pos rfl, if_pos rfl, up2_row (Ne.symm h2)]
  · rw [itM_n hx]
    by_cases hy : x = a ∧ y = b
    · obtain ⟨rfl, rfl⟩ := hy; rw [up2_s, up2_s]
    · rw [up2_n (by omega), up2_n (by omega), itM_n hx]
theorem arK_n {M : Nat → Nat → Int32} {j f l p a : Nat} {br : Int32} : ∀ m, f + m ≤ 200 → ¬ (6000 + 200 * j ≤ a ∧ a < 6000 + 200 * j + 200) → arK M j f l p br m a = M a
  | 0, _, _ => rfl
  | m + 1, h, h2 => by unfold arK; rw [up2_row (by omega), arK_n m (by omega) h2]
theorem arN_n {M : Nat → Nat → Int32} {j a : Nat} {fa la pa : Nat → Nat} {br : Int32} (h2 : ¬ (6000 + 200 * j ≤ a ∧ a < 6000 + 200 * j + 200)) : ∀ k, (∀ n, n < k → fa n + la n ≤ 200) → arN M j fa la pa br k a = M a
  | 0, _ => rfl
  | k + 1, h => by unfold arN; rw [arK_n _ (h k (Nat.lt_succ_self k)) h2, arN_n h2 k (fun n hn => h n (by omega))]
def hsM (M : Nat → Nat → Int32) (j : Nat) : Nat → Nat
  | 0 => 0
  | t + 1 => hsM M j t + hoM M j t 200
