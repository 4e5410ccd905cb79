def ntn (I : Nat → Nat → Int32) (f l p : Int32) : Nat → Nat → Int32
  | 0, _ => 0
  | n + 1, k => if I 14 k = p then (if I 12 k < f + l + 2 then (if f < I 12 k + I 13 k + 2 then 1 else ntn I f l p n (k + 1)) else ntn I f l p n (k + 1)) else ntn I f l p n (k + 1)
def typ (I : Nat → Nat → Int32) (c : Nat) (f l p : Int32) : Nat → Nat → Int32 := up2 (up2 (up2 (up2 I 12 c f) 13 c l) 14 c p) 2 3 (nI c + 1)
def pnb (br : Int32) (k len : Nat) : Int32 := if br = 0 then 0 else if nI k - nI k / 4 * 4 = 3 then (if nI len - 1 ≤ nI k then 0 else 1) else 0
def pnt (I : Nat → Nat → Int32) (i n : Nat) (br : Int32) (len : Nat) : Nat → Nat → Nat → Int32
  | 0 => I
  | k + 1 => if pnb br k len = 0 then ph (pnt I i n br len k) i (I 12 n + nI k) (I 14 n) 1 else pnt I i n br len k
def pall (I : Nat → Nat → Int32) (i : Nat) (br : Int32) (ln : Nat → Nat) : Nat → Nat → Nat → Int32
  | 0 => I
  | n + 1 => pnt (pall I i br ln n) i n br (ln n) (ln n)
theorem ph_row {I : Nat → Nat → Int32} {i a : Nat} {row t is : Int32} (h : a ≠ 8 + i) : ph I i row t is a = I a := by
  unfold ph
  split
  · rfl
  · split
    · exact up2_row h
    · rfl
theorem pnt_row {I : Nat → Nat → Int32} {i n a : Nat} {br : Int32} {len : Nat} (h : a ≠ 8 + i) : ∀ k, pnt I i n br len k a = I a
  | 0 => rfl
  | k + 1 => by
    unfold pnt
    split
    · rw [ph_row h, pnt_row h k]
    · exact pnt_row h k
theorem pall_row {I : Nat → Nat → Int32} {i a : Nat} {br : Int32} {ln : Nat → Nat} (h : a ≠ 8 + i) : ∀ n, pall I i br ln n a = I a
  | 0 => rfl
  | n + 1 => by unfold pall; rw [pnt_row h, pall_row h n]
def isc (I : Nat → Nat → Int32) (i : Nat) (fa : Nat → Nat) : Nat → Nat → Int32
  | 0, _ => 1
  | n + 1, k => if isb I i (nI (fa k)) (I 14 k) = 0 then 0 else if nI (mnw I i (I 14 k) (199 - fa k) (fa k + 1) (fa k)) - nI (fa k) + 1 = I 13 k then isc I i fa n (k + 1) else 0
def iscn (I : Nat → Nat → Int32) (i c : Nat) (fa : Nat → Nat) : Int32 := if sumB (fun r => bcnt (fb I i (nI r))) 200 = nI c then isc I i fa c 0 else 0
def fmo (w : Int32) : Int32 := if w = 103 then 3 else if w = 108 then 999 else if w = 112 then 300 else if w = 107 then 99 else -1
def exI (I : Nat → Nat → Int32) (w n : Int32) : Nat → Nat → Int32 := if w = 103 then up2 I 15 0 n else if w = 108 then up2 I 15 1 n else if w = 112 then up2 I 15 2 n else up2 I 15 3 n
def exR (I : Nat → Nat → Int32) (w : Int32) : Int32 := if w = 103 then I 15 0 else if w = 108 then I 15 1 else if w = 112 then I 15 2 else I 15 3
def rsV (I : Nat → Nat → Int32) (v : Nat) : Nat → Nat → Int32 := up2 (up2 (up2 (up2 (up2 (up2 (up2 I (24 + v) 4 0) (24 + v) 5 0) (24 + v) 6 0) (24 + v) 7 (-1000)) (24 + v) 8 0) (24 + v) 9 0) (24 + v) 10 (-1)
def iau (I : Nat → Nat → Int32) (v : Nat) : Int32 := if I (24 + v) 8 = 0 then (if I (24 + v) 9 = 0 then 0 else 1) else 1
def ird (I : Nat → Nat → Int32) (v : Nat) (row : Int32) : Int32 := if I (24 + v) 4 = 0 then 0 else if I (24 + v) 8 = 0 then (if row < I (24 + v) 5 + I (24 + v) 0 then 0 else if row < I (24 + v) 7 + I (24 + v) 1 then 0 else 1) else 0
def lhas (I : Nat → Nat → Int32) (ix : Int32) : Int32 := if ix < 0 then 0 else if I 17 6 ≤ ix then 0 else if 300 ≤ ix then 0 else 1
def kpI (I : Nat → Nat → Int32) (c : Nat) (n o f l : Int32) : Nat → Nat → Int32 := if 300 ≤ c then I else up2 (up2 (up2 (up2 (up2 (up2 I 18 c n) 19 c o) 20 c f) 21 c (-1)) 22 c l) 17 6 (nI c + 1)
def kpR (c : Nat) : Int32 := if 300 ≤ c then -1 else nI c + 1 - 1
def fin (I : Nat → Nat → Int32) (ix v : Int32) : Nat → Nat → Int32 := if lhas I ix = 0 then I else up2 I 21 ix.toNatClampNeg v
theorem vin300 {I : Nat → Nat → Int32} {x : Int32} (h : ¬ lhas I x = 0) : vp_in x 300 := by
  unfold lhas at h
  by_cases h1 : x < 0
  · rw [if_pos h1] at h; exact absurd rfl h
  · rw [if_neg h1] at h
    by_cases h2 : I 17 6 ≤ x
    · rw [if_pos h2] at h; exact absurd rfl h
    · rw [if_neg h2] at h
      by_cases h3 : 300 ≤ x
      · rw [if_pos h3] at h; exact absurd rfl h
      · rw [vp_in_iff]
        rw [Int32.lt_iff_toInt_lt] at h1
        rw [Int32.le_iff_toInt_le] at h3
        have e0 : (0 : Int32).toInt = 0 := rfl
        have e2 : (300 : Int32).toInt = 300 := rfl
        omega
theorem vin12 {x : Int32} (h1 : ¬ x < 0) (h2 : ¬ 12 ≤ x) : vp_in x 12 := by
  rw [vp_in_iff]
  rw [Int32.lt_iff_toInt_lt] at h1
  rw [Int32.le_iff_toInt_le] at h2
  have e0 : (0 : Int32).toInt = 0 := rfl
  have e2 : (12 : Int32).toInt = 12 := rfl
  omega
def ltell (I : Nat → Nat → Int32) (ix w : Int32) : Int32 := if lhas I ix = 0 then 0 else if w = 110 then I 18 ix.toNatClampNeg else if w = 111 then I 19 ix.toNatClampNeg else if w = 102 then I 20 ix.toNatClampNeg else if w = 108 then I 21 ix.toNatClampNeg else I 22 ix.toNatClampNeg
def lfl (I : Nat → Nat → Int32) : Nat → Nat → Nat → Nat
  | 0, _, b => b
  | n + 1, k, b => if I 22 k ≤ I 22 b then lfl I n (k + 1) b else lfl I n (k + 1) k
def lts (I : Nat → Nat → Int32) (s : Int64) : Nat → Int64
  | 0 => s
  | k + 1 => 31 * (31 * (31 * lts I s k + (I 18 k).toInt64) + (I 20 k).toInt64) + (I 22 k).toInt64
def lwt (I : Nat → Nat → Int32) (k : Nat) : Int32 := if I 20 k < I 19 k then 0 else if I 21 k = -1 then 1 else if I 21 k < I 20 k then 0 else 1
def lio (I : Nat → Nat → Int32) : Nat → Nat → (Nat → Int32) → Int32
  | 0, _, _ => 1
  | n + 1, k, g => if I 18 k < 0 then 0 else if 12 ≤ I 18 k then 0 else if lwt I k = 0 then 0 else if g (I 18 k).toNatClampNeg < I 20 k then lio I n (k + 1) (upd g (I 18 k).toNatClampNeg (if I 21 k = -1 then 200 else I 21 k)) else 0
theorem upr_up2 {I : Nat → Nat → Int32} {c k : Nat} {g : Nat → Int32} {x : Int32} : up2 (upr I c g) c k x = upr I c (upd g k x) := upr_up (by simp [upd]) (fun j h => by simp [upd, h])
theorem lwt_row {I J : Nat → Nat → Int32} {k : Nat} (h1 : J 19 = I 19) (h2 : J 20 = I 20) (h3 : J 21 = I 21) : lwt J k = lwt I k := by unfold lwt; rw [h1, h2, h3]
theorem lio_ext {I : Nat → Nat → Int32} : ∀ (n k : Nat) (g h : Nat → Int32), (∀ j, j < 12 → g j = h j) → lio I n k g = lio I n k h
  | 0, _, _, _, _ => rfl
  | n + 1, k, g, h, e => by
    unfold lio
    by_cases h1 : I 18 k < 0
    · rw [if_pos h1, if_pos h1]
    · rw [if_neg h1, if_neg h1]
      by_cases h2 : 12 ≤ I 18 k
      · rw [if_pos h2, if_pos h2]
      · rw [if_neg h2, if_neg h2]
        have h3 := vp_in_iff.mp (vin12 h1 h2)
        have h4 : (I 18 k).toNatClampNeg < 12 := by
          have := (I 18 k).toNatClampNeg
          have e1 : (I 18 k).toNatClampNeg = (I 18 k).toInt.toNat := rfl
          omega
        rw [e _ h4, lio_ext n (k + 1) (upd g (I 18 k).toNatClampNeg (if I 21 k = -1 then 200 else I 21 k)) (upd h (I 18 k).toNatClampNeg (if I 21 k = -1 then 200 else I 21 k)) (fun j hj => by unfold upd; split <;> first | rfl | exact e j hj)]
theorem lio12 {I : Nat → Nat → Int32} {c : Nat} {g : Nat → Int32} : lio I c 0 (fun r => if r < 12 then -1 else g r) = lio I c 0 (fun _ => -1) := lio_ext c 0 _ _ (fun j hj => if_pos hj)

