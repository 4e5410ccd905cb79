def ush (x k : Int32) : Int32 := (x.toUInt32 >>> (k.toUInt32 &&& Int32.toUInt32 31)).toInt32
def bcnt (x : Int32) : Int32 :=
  let a := x - (ush x 1 &&& 1431655765)
  let b := (a &&& 858993459) + (ush a 2 &&& 858993459)
  let c := (b + ush b 4) &&& 252645135
  let d := c + ush c 8
  let e := d + ush d 16
  e &&& 63
def rb (I : Nat → Nat → Int32) (i : Nat) (row : Int32) : Int32 := if row < 0 then 0 else if 200 ≤ row then 0 else I (8 + i) row.toNatClampNeg
def hh (I : Nat → Nat → Int32) (i : Nat) (row t : Int32) : Int32 := if ((rb I i row) >>> (t &&& 31)) &&& 1 = 0 then 0 else 1
def phv (b t is : Int32) : Int32 := if is = 0 then b &&& ((1 <<< (t &&& 31)) ^^^ (-1)) else b ||| (1 <<< (t &&& 31))
def ph (I : Nat → Nat → Int32) (i : Nat) (row t is : Int32) : Nat → Nat → Int32 := if row < 0 then I else if row < 200 then up2 I (8 + i) row.toNatClampNeg (phv (I (8 + i) row.toNatClampNeg) t is) else I
def crw (g : Nat → Int32) : Nat → Int32
  | 0 => 0
  | n + 1 => if g n = 0 then crw g n else nI n + 1
def anyF (g : Nat → Int32) : Nat → Nat → Int32
  | 0, _ => 0
  | n + 1, a => if g a = 0 then anyF g n (a + 1) else 1
def sumB (h : Nat → Int32) : Nat → Int32
  | 0 => 0
  | n + 1 => sumB h n + h n
def fb (I : Nat → Nat → Int32) (i : Nat) (row : Int32) : Int32 := (((rb I i row) &&& ((rb I i (row - 1)) ^^^ (-1))) &&& ((rb I i (row - 2)) ^^^ (-1))) &&& 4095
def isb (I : Nat → Nat → Int32) (i : Nat) (row p : Int32) : Int32 := if ((fb I i row) >>> (p &&& 31)) &&& 1 = 0 then 0 else 1
def fbit (b : Int32) : Nat → Nat → Int32 → Int32
  | 0, _, _ => 0
  | n + 1, k, left => if (b >>> (nI k &&& 31)) &&& 1 = 0 then fbit b n (k + 1) left else if left = 0 then nI k else fbit b n (k + 1) (left + (-1))
def fnw (I : Nat → Nat → Int32) (i : Nat) : Nat → Nat → Int32 → Int32
  | 0, _, _ => -1
  | n + 1, k, left => if bcnt (fb I i (nI k)) ≤ left then fnw I i n (k + 1) (left - bcnt (fb I i (nI k))) else nI k * 16 + fbit (fb I i (nI k)) 12 0 left
def fnote (I : Nat → Nat → Int32) (i : Nat) (ix : Int32) : Int32 := if 0 ≤ ix then fnw I i 200 0 ix else -1
def mnw (I : Nat → Nat → Int32) (i : Nat) (p : Int32) : Nat → Nat → Nat → Nat
  | 0, _, last => last
  | n + 1, k, last => if hh I i (nI k) p = 0 then (if nI k - nI last < 2 then mnw I i p n (k + 1) last else last) else mnw I i p n (k + 1) k
def ars (I : Nat → Nat → Int32) (i : Nat) (s : Int64) (r : Nat) : Nat → Int64
  | 0 => s
  | t + 1 => if hh I i (nI r) (nI t) = 0 then ars I i s r t else (31 * ars I i s r t + (16 * nI r).toInt64) + (nI t).toInt64
def ats (I : Nat → Nat → Int32) (i : Nat) (s : Int64) : Nat → Int64
  | 0 => s
  | r + 1 => if I (8 + i) r = 0 then ats I i s r else ars I i (ats I i s r) r 16
def upr (I : Nat → Nat → Int32) (c : Nat) (g : Nat → Int32) : Nat → Nat → Int32 := fun a => if a = c then g else I a
theorem upr_s {I : Nat → Nat → Int32} {c : Nat} {g : Nat → Int32} : upr I c g c = g := if_pos rfl
theorem upr_n {I : Nat → Nat → Int32} {c a : Nat} {g : Nat → Int32} (h : a ≠ c) : upr I c g a = I a := if_neg h
theorem upr_id {I : Nat → Nat → Int32} {c : Nat} {g : Nat → Int32} (h : ∀ k, g k = I c k) : upr I c g = I := by
  funext a b
  unfold upr
  by_cases ha : a = c
  · rw [if_pos ha, ha, h]
  · rw [if_neg ha]
theorem upr_up {I : Nat → Nat → Int32} {c k : Nat} {g g2 : Nat → Int32} {x : Int32} (h1 : g2 k = x) (h2 : ∀ j, j ≠ k → g2 j = g j) : up2 (upr I c g) c k x = upr I c g2 := by
  funext a b
  unfold up2 upr
  by_cases ha : a = c
  · subst ha
    simp only [if_true]
    by_cases hb : b = k
    · subst hb; rw [if_pos rfl, h1]
    · rw [if_neg hb, h2 b hb]
  · simp only [if_neg ha]
theorem vin200 {x : Int32} (h1 : ¬ x < 0) (h2 : ¬ 200 ≤ x) : vp_in x 200 := by
  rw [vp_in_iff]
  rw [Int32.lt_iff_toInt_lt] at h1
  rw [Int32.le_iff_toInt_le] at h2
  have e0 : (0 : Int32).toInt = 0 := rfl
  have e2 : (200 : Int32).toInt = 200 := rfl
  omega
theorem vin200b {x : Int32} (h1 : ¬ x < 0) (h2 : x < 200) : vp_in x 200 := by
  rw [vp_in_iff]
  rw [Int32.lt_iff_toInt_lt] at h1 h2
  have e0 : (0 : Int32).toInt = 0 := rfl
  have e2 : (200 : Int32).toInt = 200 := rfl
  omega
theorem nI_pos2 {n : Nat} (h : n < 2 ^ 31) : 0 ≤ nI n := nI_pos' h
theorem rowk {k : Nat} {x : Int32} (hx : x = nI k - 1) (h : ¬ x < 0) : 0 < k := by
  rcases Nat.eq_zero_or_pos k with h0 | h0
  · subst h0; subst hx; exact absurd (by decide) h
  · exact h0
theorem rowk0 {k : Nat} {x : Int32} (hx : x = nI k - 1) (h : x < 0) : ¬ (0 < k ∧ k ≤ 200) := by
  rintro ⟨h0, h1⟩
  obtain ⟨j, rfl⟩ : ∃ j, k = j + 1 := ⟨k - 1, by omega⟩
  rw [hx, nI_pred] at h
  exact nI_pos (by omega) h
theorem g_dec (x : Int32) : x + Int32.ofInt (-1) = x + (-1) := by
  rw [show Int32.ofInt (-1) = (-1 : Int32) from by decide]
theorem ite_lt {α : Type} {j k : Nat} {a b : α} (h : j ≠ k) : (if j < k + 1 then a else b) = if j < k then a else b := by
  by_cases h3 : j < k
  · rw [if_pos h3, if_pos (by omega)]
  · rw [if_neg h3, if_neg (by omega)]
theorem add_m1 (x : Int32) : x + (-1) = x - 1 := (Int32.sub_eq_add_neg x 1).symm

