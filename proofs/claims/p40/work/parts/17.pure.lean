def wi (n a b : Int32) : Int32 := if n < a then 0 else if n ≤ b then 1 else 0
def rp (I : Nat → Nat → Int32) (r : Int32) : Int32 := if r < 0 then 0 else if I 0 6 ≤ r then 0 else if 4 ≤ r then 0 else 1
def vok (n : Int32) : Int32 := if n < 0 then 0 else if n < 12 then 1 else 0
theorem rp_ix {I : Nat → Nat → Int32} {r : Int32} (h : ¬ rp I r = 0) : r = nI r.toNatClampNeg ∧ r.toNatClampNeg < 4 := by
  unfold rp at h
  by_cases h1 : r < 0
  · rw [if_pos h1] at h; exact absurd rfl h
  · rw [if_neg h1] at h
    by_cases h2 : I 0 6 ≤ r
    · rw [if_pos h2] at h; exact absurd rfl h
    · rw [if_neg h2] at h
      by_cases h3 : 4 ≤ r
      · rw [if_pos h3] at h; exact absurd rfl h
      · obtain ⟨j, hj, e⟩ := nI_of h1
        subst e
        rw [nI_clamp hj]
        exact ⟨rfl, Nat.lt_of_not_le (fun q => h3 ((nI_leI (a := 4) (b := j) (by omega) hj).mpr q))⟩
theorem rp_1 {I : Nat → Nat → Int32} {r : Int32} (h : ¬ rp I r = 0) : rp I r = 1 := by
  unfold rp at h ⊢
  by_cases h1 : r < 0
  · rw [if_pos h1] at h; exact absurd rfl h
  · rw [if_neg h1] at h ⊢
    by_cases h2 : I 0 6 ≤ r
    · rw [if_pos h2] at h; exact absurd rfl h
    · rw [if_neg h2] at h ⊢
      by_cases h3 : 4 ≤ r
      · rw [if_pos h3] at h; exact absurd rfl h
      · rw [if_neg h3]
theorem vok_ix {r : Int32} (h1 : ¬ r < 0) (h2 : r < 12) : r = nI r.toNatClampNeg ∧ r.toNatClampNeg < 12 := by
  obtain ⟨j, hj, e⟩ := nI_of h1
  subst e
  rw [nI_clamp hj]
  exact ⟨rfl, (nI_ltI (a := j) (b := 12) hj (by omega)).mp h2⟩
theorem nz_hh (I : Nat → Nat → Int32) (i : Nat) (r t : Int32) : narrow .boolean (.int (hh I i r t)) = .int (hh I i r t) := by unfold hh; split <;> rfl
def fga (I : Nat → Nat → Int32) (r : Int32) : Nat → Nat → Int32 := if I 0 7 = r then up2 I 0 7 (-1) else I
def pnI (I : Nat → Nat → Int32) (r row t is : Int32) : Nat → Nat → Int32 := if hh I r.toNatClampNeg row t = is then I else fga (ph I r.toNatClampNeg row t is) r
def kpu (I : Nat → Nat → Int32) (r row t : Int32) : Nat := if rp I r = 0 then 1 else if wi row 0 199 = 0 then 2 else if wi t 0 15 = 0 then 2 else 0
def kr1 (I : Nat → Nat → Int32) (r : Int32) : Nat := if rp I r = 0 then 1 else 0
def kho (I : Nat → Nat → Int32) (r t : Int32) : Nat := if rp I r = 0 then 1 else if wi t 0 15 = 0 then 2 else 0
def kcp (I : Nat → Nat → Int32) (r : Int32) : Nat := if rp I r = 0 then 1 else if I 0 6 < 4 then 0 else 2
def kun (I : Nat → Nat → Int32) (r o : Int32) : Nat := if rp I r = 0 then 1 else if rp I o = 0 then 1 else 0
def kpa (I : Nat → Nat → Int32) (r : Int32) : Nat := if rp I r = 0 then 1 else if r = 0 then 2 else 0
def dis (I : Nat → Nat → Int32) (i j : Nat) : Int32 := sumB (fun r => bcnt (I (8 + i) r ^^^ I (8 + j) r)) 200
def pfl (I : Nat → Nat → Int32) (i : Nat) : Nat → Nat → Nat → Int32 → Nat
  | 0, _, b, _ => b
  | n + 1, k, b, w => if w ≤ dis I i k then pfl I i n (k + 1) b w else pfl I i n (k + 1) k (dis I i k)
def kno (I : Nat → Nat → Int32) (c : Nat) (f l p : Int32) : Nat := if wi f 0 199 = 0 then 1 else if wi l 1 60 = 0 then 1 else if wi p 0 11 = 0 then 1 else if wi (f + l - 1) 0 199 = 0 then 1 else if ntn I f l p c 0 = 0 then (if c < 40 then 0 else 3) else 2
def krl (I : Nat → Nat → Int32) : Nat := if I 0 6 < 4 then 0 else 1
def arr1 (I : Nat → Nat → Int32) (r br : Int32) (ln : Nat → Nat) (c : Nat) : Nat → Nat → Int32 := up2 (pall (upr I (8 + r.toNatClampNeg) (fun q => if q < 200 then I (8 + r.toNatClampNeg) q &&& (-4096) else I (8 + r.toNatClampNeg) q)) r.toNatClampNeg br ln c) 0 7 r
def ksc (I : Nat → Nat → Int32) (r x w : Int32) : Nat := if rp I r = 0 then 1 else if w = 102 ∨ w = 108 ∨ w = 112 then (if fnote I r.toNatClampNeg x = -1 then 3 else 0) else 2
def kva (n d r : Int32) : Nat := if vok n = 0 then 1 else if wi d 0 5 = 0 then 2 else if wi r 0 9 = 0 then 2 else 0
def kus (n u : Int32) : Nat := if vok n = 0 then 1 else if wi u 0 99 = 0 then 2 else 0
def lent (I : Nat → Nat → Int32) (n : Int32) : Nat → Nat → Int32
  | 0, _ => 0
  | m + 1, k => if nI k = n then lent I n m (k + 1) else if I (24 + k) 3 = n then 1 else lent I n m (k + 1)
def kbo (I : Nat → Nat → Int32) (n o : Int32) : Nat := if vok n = 0 then 1 else if vok o = 0 then 1 else if o = n then 0 else if I (24 + o.toNatClampNeg) 3 = o then (if lent I n 12 0 = 0 then 0 else 2) else 2
def kse (w n : Int32) : Nat := if 0 ≤ fmo w then (if wi n 0 (fmo w) = 0 then 1 else 0) else 1
def kmk (w : Int32) : Nat := if w = 97 ∨ w = 98 ∨ w = 99 then 0 else 1
def kas (I : Nat → Nat → Int32) (t : Int32) : Nat := if isB I = 0 then 1 else if wi t (-2) 2 = 0 then 2 else 0
def kti (I : Nat → Nat → Int32) (t : Int32) : Nat := if isB I = 0 then 1 else if wi t 1 100 = 0 then 2 else 0
def kpl (I : Nat → Nat → Int32) : Nat := if isB I = 0 then 1 else 0
def kop (I : Nat → Nat → Int32) (n : Int32) : Nat := if isB I = 0 then 1 else if vok n = 0 then 2 else 0
def kso (I : Nat → Nat → Int32) (x w : Int32) : Nat := if w = 110 ∨ w = 111 ∨ w = 102 ∨ w = 108 ∨ w = 118 then (if lhas I x = 0 then 2 else 0) else 1
def klo (I : Nat → Nat → Int32) : Nat := if I 17 6 = 0 then 1 else 0
def ksp (f g : Int32) : Nat := if wi f 100 900 = 0 then 1 else if wi g 0 50 = 0 then 1 else 0
def ktm (r : Int32) : Nat := if wi r 0 200 = 0 then 1 else 0
def mrw (I : Nat → Nat → Int32) (k : Nat) : Int32 := if I 0 8 + nI k * I 0 9 / 10 ≤ 0 then 0 else 1000000 / (I 0 8 + nI k * I 0 9 / 10)
def tms (I : Nat → Nat → Int32) : Nat → Int64
  | 0 => 0
  | k + 1 => tms I k + (mrw I k).toInt64
def cks (I : Nat → Nat → Int32) : Nat → Int64
  | 0 => 7
  | k + 1 => ats I k (cks I k) 200
def ark (I : Nat → Nat → Int32) (c : Nat) (fa : Nat → Nat) : Int32 := if rp I (I 0 7) = 0 then 1 else if iscn I (I 0 7).toNatClampNeg c fa = 0 then 0 else 1
theorem nz3 {x : Int32} (h : x = 97 ∨ x = 98 ∨ x = 99) : narrow .char (.int x) = .int x := by rcases h with rfl | rfl | rfl <;> rfl
theorem fz3 {x : Int32} (h : x = 97 ∨ x = 98 ∨ x = 99) : fits .char (.int x) = true := by rcases h with rfl | rfl | rfl <;> rfl
theorem nz_iau (I : Nat → Nat → Int32) (v : Nat) : narrow .boolean (.int (iau I v)) = .int (iau I v) := by unfold iau; split <;> (try split) <;> rfl
theorem nz_isB (I : Nat → Nat → Int32) : narrow .boolean (.int (isB I)) = .int (isB I) := by unfold isB; split <;> rfl
theorem isc_01 (I : Nat → Nat → Int32) (i : Nat) (fa : Nat → Nat) : ∀ n k, isc I i fa n k = 0 ∨ isc I i fa n k = 1
  | 0, _ => Or.inr rfl
  | n + 1, k => by
    unfold isc
    split
    · exact Or.inl rfl
    · split
      · exact isc_01 I i fa n (k + 1)
      · exact Or.inl rfl
theorem nz_iscn (I : Nat → Nat → Int32) (i c : Nat) (fa : Nat → Nat) : narrow .boolean (.int (iscn I i c fa)) = .int (iscn I i c fa) := by
  unfold iscn; split
  · exact nz_01 (isc_01 I i fa c 0)
  · rfl
theorem wi_nat {x a b : Int32} {n : Nat} (h : wi x a b = 1) (ha : 0 ≤ a) (hb : b = nI n) (hn : n < 2 ^ 31) : ∃ m, m ≤ n ∧ x = nI m := by
  unfold wi at h
  by_cases h1 : x < a
  · rw [if_pos h1] at h; exact absurd h (by decide)
  · rw [if_neg h1] at h
    by_cases h2 : x ≤ b
    · have h0 : ¬ x < 0 := by
        rw [Int32.lt_iff_toInt_lt] at h1 ⊢
        rw [Int32.le_iff_toInt_le] at ha
        omega
      obtain ⟨j, hj, e⟩ := nI_of h0
      subst e; subst hb
      exact ⟨j, (nI_leI hj hn).mp h2, rfl⟩
    · rw [if_neg h2] at h; exact absurd h (by decide)
theorem fbit_form (b : Int32) : ∀ n k left, n + k = 12 → ∃ j, j < 12 ∧ fbit b n k left = nI j
  | 0, _, _, _ => ⟨0, by decide, rfl⟩
  | n + 1, k, left, h => by
    unfold fbit
    split
    · exact fbit_form b n (k + 1) left (by omega)
    · split
      · exact ⟨k, by omega, rfl⟩
      · exact fbit_form b n (k + 1) _ (by omega)
theorem fnw_form (I : Nat → Nat → Int32) (i : Nat) : ∀ n k left, n + k = 200 → fnw I i n k left = -1 ∨ ∃ a t, a < 200 ∧ t < 12 ∧ fnw I i n k left = nI (a * 16 + t)
  | 0, _, _, _ => Or.inl rfl
  | n + 1, k, left, h => by
    unfold fnw
    split
    · exact fnw_form I i n (k + 1) _ (by omega)
    · obtain ⟨j, hj, e⟩ := fbit_form (fb I i (nI k)) 12 0 left rfl
      refine Or.inr ⟨k, j, by omega, hj, ?_⟩
      rw [e, ← nI_add]
      congr 1
      exact pk_mul k 16
theorem fnote_form {I : Nat → Nat → Int32} {i : Nat} {x : Int32} (h : ¬ fnote I i x = -1) : ∃ a t, a < 200 ∧ t < 12 ∧ fnote I i x = nI (a * 16 + t) := by
  unfold fnote at h ⊢
  by_cases h1 : 0 ≤ x
  · rw [if_pos h1] at h ⊢
    exact (fnw_form I i 200 0 x rfl).resolve_left h
  · rw [if_neg h1] at h; exact absurd rfl h
theorem d16 {a t : Nat} (ha : a < 200) (ht : t < 12) : nI (a * 16 + t) / 16 = nI a := by
  have := pk_div (a := a * 16 + t) (d := 16) (by omega) (by omega) (by omega)
  rw [show (a * 16 + t) / 16 = a by omega] at this
  exact this
theorem r16 {a t : Nat} (ha : a < 200) (ht : t < 12) : nI (a * 16 + t) - nI (a * 16 + t) / 16 * 16 = nI t := by
  have := pk_rem (a := a * 16 + t) (d := 16) (by omega) (by omega) (by omega)
  rw [show (a * 16 + t) % 16 = t by omega] at this
  exact this
theorem rp_in {I : Nat → Nat → Int32} {np k : Nat} (h : I 0 6 = nI np) (hk : k < np) (h4 : k < 4) (hb : np < 2 ^ 31 := by omega) : rp I (nI k) = 1 := by
  unfold rp
  rw [if_neg (nI_pos (by omega)), h, if_neg (fun q => by have := (nI_leI hb (by omega)).mp q; omega), if_neg (fun q => by have := (nI_leI (a := 4) (b := k) (by omega) (by omega)).mp q; omega)]
theorem rp_lt {I : Nat → Nat → Int32} {np i : Nat} (h : I 0 6 = nI np) (h4 : np ≤ 4) (hr : rp I (nI i) = 1) (hi : i < 2 ^ 31) : i < np := by
  unfold rp at hr
  rw [if_neg (nI_pos hi)] at hr
  by_cases h2 : I 0 6 ≤ nI i
  · rw [if_pos h2] at hr; exact absurd hr (by decide)
  · rw [h] at h2
    exact Nat.lt_of_not_le (fun q => h2 ((nI_leI (by omega) hi).mpr q))
theorem rp_ne {I : Nat → Nat → Int32} {np : Nat} {r : Int32} (h : I 0 6 = nI np) (hr : rp I r = 1) (h4 : np ≤ 4) : np ≠ r.toNatClampNeg := by
  have h0 : ¬ rp I r = 0 := by rw [hr]; decide
  have e := (rp_ix h0).1
  have hl := (rp_ix h0).2
  rw [e] at hr
  have := rp_lt h h4 hr (by omega)
  omega
theorem np_lt {I : Nat → Nat → Int32} {np : Nat} (h : I 0 6 = nI np) (h4 : np ≤ 4) (hw : I 0 6 < 4) : np < 4 := by
  rw [h] at hw
  exact (nI_ltI (a := np) (b := 4) (by omega) (by omega)).mp hw
def scv (I : Nat → Nat → Int32) (r x w : Int32) : Int32 := if w = 102 then fnote I r.toNatClampNeg x / 16 else if w = 112 then fnote I r.toNatClampNeg x - fnote I r.toNatClampNeg x / 16 * 16 else nI (mnw I r.toNatClampNeg (fnote I r.toNatClampNeg x - fnote I r.toNatClampNeg x / 16 * 16) (199 - (fnote I r.toNatClampNeg x / 16).toNatClampNeg) ((fnote I r.toNatClampNeg x / 16).toNatClampNeg + 1) (fnote I r.toNatClampNeg x / 16).toNatClampNeg) - fnote I r.toNatClampNeg x / 16 + 1
def prI (I : Nat → Nat → Int32) (i : Nat) : Nat → Nat → Nat → Int32
  | 0 => I
  | k + 1 => plr (prI I i k) i
def anN (I : Nat → Nat → Int32) (i a k : Nat) : Int32 := anyF (prI I i k (8 + i)) (200 - (a + k)) (a + k)
theorem mvV_3 {I : Nat → Nat → Int32} {v : Nat} {x : Int32} {b : Nat} (h : b ≠ 8) : mvV I v x 3 b = I 3 b := by
  unfold mvV
  split
  · split
    · rfl
    · split
      · rw [up2_row (by omega)]
      · unfold clV; split
        · rw [up2_row (by omega), up2_row (by omega), up2_row (by omega)]
        · rw [up2_row (by omega), up2_row (by omega), up2_row (by omega), up2_row (by omega), up2_row (by omega)]
  · split
    · unfold opV; rw [up2_n (Or.inr h), up2_row (by omega), up2_row (by omega), up2_row (by omega)]
    · rw [up2_row (by omega)]
theorem enH_3 {I : Nat → Nat → Int32} {v b : Nat} : enH I v 3 b = I 3 b := by
  unfold enH; rw [up2_row (by omega), up2_row (by omega), up2_row (by omega), fin_n (by decide)]
theorem mv2_3 {I : Nat → Nat → Int32} {v b : Nat} : mv2 I v 3 b = I 3 b := by
  unfold mv2
  split
  · rfl
  · split
    · split
      · exact enH_3
      · rfl
    · exact enH_3
theorem bgS_3 {I : Nat → Nat → Int32} {v c b : Nat} (h : b ≠ 9) : bgS I v c 3 b = I 3 b := by
  unfold bgS; rw [up2_n (Or.inr h), up2_row (by omega), kpI_n (by omega), up2_row (by omega)]
theorem mv3_3 {I : Nat → Nat → Int32} {v b : Nat} (h : b ≠ 9) : mv3 I v 3 b = I 3 b := by
  unfold mv3; split
  · exact mv2_3
  · rw [bgS_3 h, mv2_3]
theorem mvs_3 {I : Nat → Nat → Int32} {fed : Int32} {b : Nat} (h8 : b ≠ 8) (h9 : b ≠ 9) : ∀ k, mvs I fed k 3 b = I 3 b
  | 0 => rfl
  | k + 1 => by unfold mvs; rw [mv3_3 h9, mvV_3 h8, mvs_3 h8 h9 k]
theorem mkl_3 {I : Nat → Nat → Int32} {x : Int32} {b : Nat} (h : b ≠ 6) (h2 : b ≠ 10) : mkl I x 3 b = I 3 b := by
  have e : ∀ (J : Nat → Nat → Int32) (q : Int32), mvL J q 3 b = J 3 b := fun J q => up2_n (Or.inr h)
  unfold mkl
  split
  · rw [e]; unfold latI; split
    · split
      · rfl
      · exact up2_n (Or.inr h2)
    · exact up2_n (Or.inr h2)
  · split
    · rw [e]
    · split
      · split <;> rw [e]
      · rw [e]
theorem mkl_310 {I : Nat → Nat → Int32} {x : Int32} (hb : I 3 10 = 0 ∨ I 3 10 = 1) : mkl I x 3 10 = 0 ∨ mkl I x 3 10 = 1 := by
  have e : ∀ (J : Nat → Nat → Int32) (q : Int32), mvL J q 3 10 = J 3 10 := fun J q => up2_n (Or.inr (by decide))
  unfold mkl
  split
  · rw [e]; unfold latI; split
    · split
      · exact hb
      · rw [up2_s]; exact Or.inr rfl
    · rw [up2_s]; exact Or.inl rfl
  · split
    · rw [e]; exact hb
    · split
      · split <;> (rw [e]; exact hb)
      · rw [e]; exact hb
theorem mvSu_3 {I : Nat → Nat → Int32} {b : Nat} (h : b ≠ 5) : mvSu I 3 b = I 3 b := up2_n (Or.inr h)
theorem plr_34 {I : Nat → Nat → Int32} {i : Nat} : plr I i 3 4 = I 3 4 + 1 := by
  dsimp only [plr]
  rw [up2_s, mvSu_3 (by decide), mvs_3 (by decide) (by decide), up2_n (Or.inr (by decide)), mkl_3 (by decide) (by decide)]
theorem plr_310 {I : Nat → Nat → Int32} {i : Nat} (hb : I 3 10 = 0 ∨ I 3 10 = 1) : plr I i 3 10 = 0 ∨ plr I i 3 10 = 1 := by
  dsimp only [plr]
  rw [up2_n (Or.inr (by decide)), up2_n (Or.inr (by decide)), mvSu_3 (by decide), mvs_3 (by decide) (by decide), up2_n (Or.inr (by decide))]
  exact mkl_310 hb
theorem LI_plr {I : Nat → Nat → Int32} {i : Nat} (h : LI I) : LI (plr I i) := by
  have h1 : LI (up2 (mkl I (rh I i)) 3 11 (ir (rh I i) 12)) := h.of ((congrFun (up2_row (by decide)) 6).trans (congrFun (mkl_n (by decide)) 6))
  have h2 := LI_mvs (fed := ffd (up2 (mkl I (rh I i)) 3 11 (ir (rh I i) 12)) (rh I i) 12) h1 12
  refine h2.of ?_
  dsimp only [plr, mvSu]
  rw [up2_row (by decide), up2_row (by decide), up2_row (by decide)]
theorem anyF_0 (g : Nat → Int32) (a : Nat) : anyF g 0 a = 0 := rfl
theorem anyF_01 (g : Nat → Int32) : ∀ n a, anyF g n a = 0 ∨ anyF g n a = 1
  | 0, _ => Or.inl rfl
  | n + 1, a => by
    unfold anyF; split
    · exact anyF_01 g n (a + 1)
    · exact Or.inr rfl
theorem any_lt {g : Nat → Int32} {a : Nat} (h : ¬ anyF g (200 - a) a = 0) : a < 200 := by
  rcases Nat.lt_or_ge a 200 with q | q
  · exact q
  · rw [show 200 - a = 0 by omega] at h; exact absurd rfl h
def eplN (J : Nat → Nat → Int32) (z : Int32) : Nat → Nat → Int32 := if z = 0 then setP (epl J 12) (-1) else J
theorem lio_01 (I : Nat → Nat → Int32) : ∀ n k g, lio I n k g = 0 ∨ lio I n k g = 1
  | 0, _, _ => Or.inr rfl
  | n + 1, k, g => by
    unfold lio
    split
    · exact Or.inl rfl
    · split
      · exact Or.inl rfl
      · split
        · exact Or.inl rfl
        · split
          · exact lio_01 I n (k + 1) _
          · exact Or.inl rfl
theorem isB_some {I : Nat → Nat → Int32} (hp : I 99 0 = -1 ∨ ∃ i, i < 4 ∧ I 99 0 = nI i) (h : ¬ isB I = 0) : ∃ i, i < 4 ∧ I 99 0 = nI i ∧ cP I = some (4 + i) := by
  rcases hp with e | ⟨i, hi, e⟩
  · exfalso; apply h; unfold isB cP; rw [e]; rfl
  · refine ⟨i, hi, e, ?_⟩
    unfold cP; rw [e, if_neg (nI_pos (by omega)), nI_clamp (by omega)]
theorem row_2 {I J : Nat → Nat → Int32} {c : Nat} {q : Int32} {h : Nat → Int32} (e : ∃ g, upr I 23 g = J ∧ lio I c 0 h = q) : J 2 = I 2 := by
  obtain ⟨g, rfl, -⟩ := e; exact upr_n (by decide)
theorem row_12 {I J : Nat → Nat → Int32} {c : Nat} {q : Int32} {h : Nat → Int32} (e : ∃ g, upr I 23 g = J ∧ lio I c 0 h = q) : J 12 = I 12 := by
  obtain ⟨g, rfl, -⟩ := e; exact upr_n (by decide)
theorem rb_ext {I J : Nat → Nat → Int32} {i : Nat} (h : J (8 + i) = I (8 + i)) (x : Int32) : rb J i x = rb I i x := by unfold rb; rw [h]
theorem fb_ext {I J : Nat → Nat → Int32} {i : Nat} (h : J (8 + i) = I (8 + i)) (x : Int32) : fb J i x = fb I i x := by unfold fb; rw [rb_ext h, rb_ext h, rb_ext h]
theorem isb_ext {I J : Nat → Nat → Int32} {i : Nat} (h : J (8 + i) = I (8 + i)) (x t : Int32) : isb J i x t = isb I i x t := by unfold isb; rw [fb_ext h]
theorem hh_ext {I J : Nat → Nat → Int32} {i : Nat} (h : J (8 + i) = I (8 + i)) (x t : Int32) : hh J i x t = hh I i x t := by unfold hh; rw [rb_ext h]
theorem mnw_ext {I J : Nat → Nat → Int32} {i : Nat} {t : Int32} (h : J (8 + i) = I (8 + i)) : ∀ n k l, mnw J i t n k l = mnw I i t n k l
  | 0, _, _ => rfl
  | n + 1, k, l => by unfold mnw; rw [hh_ext h, mnw_ext h n, mnw_ext h n]
theorem isc_ext {I J : Nat → Nat → Int32} {i : Nat} {fa : Nat → Nat} (h : J (8 + i) = I (8 + i)) (h13 : J 13 = I 13) (h14 : J 14 = I 14) : ∀ n k, isc J i fa n k = isc I i fa n k
  | 0, _ => rfl
  | n + 1, k => by unfold isc; rw [isb_ext h, mnw_ext h, h13, h14, isc_ext h h13 h14 n]
theorem iscn_ext {I J : Nat → Nat → Int32} {i c : Nat} {fa : Nat → Nat} (h : J (8 + i) = I (8 + i)) (h13 : J 13 = I 13) (h14 : J 14 = I 14) : iscn J i c fa = iscn I i c fa := by
  unfold iscn
  rw [show (fun r => bcnt (fb J i (nI r))) = (fun r => bcnt (fb I i (nI r))) from funext (fun r => by rw [fb_ext h]), isc_ext h h13 h14]
theorem ark_row {I J : Nat → Nat → Int32} {c : Nat} {fa : Nat → Nat} {g : Nat → Int32} (e : upr I 23 g = J) : ark I c fa = ark J c fa := by
  subst e
  unfold ark
  have h0 : upr I 23 g 0 = I 0 := upr_n (by decide)
  have er : ∀ r, rp (upr I 23 g) r = rp I r := fun r => by unfold rp; rw [h0]
  rw [er, h0]
  by_cases hr : rp I (I 0 7) = 0
  · rw [if_pos hr, if_pos hr]
  · rw [if_neg hr, if_neg hr, iscn_ext (I := I) (J := upr I 23 g) (upr_n (by have := (rp_ix hr).2; omega)) (upr_n (by decide)) (upr_n (by decide))]

