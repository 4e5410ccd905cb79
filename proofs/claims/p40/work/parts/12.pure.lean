def ir (x t : Int32) : Int32 := if (x >>> (t &&& 31)) &&& 1 = 0 then 0 else 1
theorem nz_ir (x t : Int32) : narrow .boolean (.int (ir x t)) = .int (ir x t) := by unfold ir; split <;> rfl
theorem fz_ir (x t : Int32) : fits .boolean (.int (ir x t)) = true := by unfold ir; split <;> rfl
theorem nz_01 {x : Int32} (h : x = 0 ∨ x = 1) : narrow .boolean (.int x) = .int x := by rcases h with rfl | rfl <;> rfl
def cmp3 (x y : Int32) : Int32 := if y ≤ x then (if x = y then 0 else 1) else -1
def isB (I : Nat → Nat → Int32) : Int32 := if cP I = none then 0 else 1
def mvL (I : Nat → Nat → Int32) (st : Int32) : Nat → Nat → Int32 := up2 I 3 6 (mx2 0 (mn2 6 (I 3 6 + st)))
def latI (I : Nat → Nat → Int32) (m l : Int32) : Nat → Nat → Int32 := if l = 0 then (if m = 0 then I else up2 I 3 10 1) else up2 I 3 10 0
def mkl (I : Nat → Nat → Int32) (x : Int32) : Nat → Nat → Int32 :=
  if I 15 4 = 97 then mvL (latI I (ir x 13) (ir x 14)) (if latI I (ir x 13) (ir x 14) 3 10 = 0 then -1 else 1)
  else if I 15 4 = 98 then mvL I ((if ir x 13 = 0 then 0 else if ir (I 3 12) 13 = 0 then 1 else 0) - (if ir x 14 = 0 then 0 else if ir (I 3 12) 14 = 0 then 1 else 0))
  else if ir x 13 = 0 then (if ir x 14 = 0 then mvL I (cmp3 3 (I 3 6)) else mvL I (0 - 2))
  else mvL I (2 - (if ir x 14 = 0 then 0 else 2))
def rh (I : Nat → Nat → Int32) (i : Nat) : Int32 := if I 3 7 < 0 then ((rb I i (I 3 4)) <<< ((-(I 3 7)) &&& 31)) &&& 65535 else (rb I i (I 3 4)) >>> ((I 3 7) &&& 31)
def ffd (I : Nat → Nat → Int32) (x : Int32) : Nat → Int32
  | 0 => 0
  | k + 1 => if ir x (nI k) = 0 then ffd I x k else ffd I x k ||| (1 <<< ((I (24 + k) 3) &&& 31))
def opV (I : Nat → Nat → Int32) (v : Nat) : Nat → Nat → Int32 := up2 (up2 (up2 I (24 + v) 4 1) (24 + v) 5 (I 3 4)) 3 8 (I 3 8 + 1)
def clV (I : Nat → Nat → Int32) (v : Nat) : Nat → Nat → Int32 := if I (24 + v) 8 = 0 then up2 (up2 I (24 + v) 4 0) (24 + v) 7 (I 3 4) else up2 (up2 (up2 (up2 I (24 + v) 4 0) (24 + v) 7 (I 3 4)) (24 + v) 8 0) (24 + v) 9 1
def mvV (I : Nat → Nat → Int32) (v : Nat) (fd : Int32) : Nat → Nat → Int32 :=
  if fd = 0 then (if I (24 + v) 4 = 0 then I else if I (24 + v) 6 + 1 ≤ I 15 0 then up2 I (24 + v) 6 (I (24 + v) 6 + 1) else clV (up2 I (24 + v) 6 (I (24 + v) 6 + 1)) v)
  else if I (24 + v) 4 = 0 then opV (up2 I (24 + v) 6 0) v else up2 I (24 + v) 6 0
def enH (I : Nat → Nat → Int32) (v : Nat) : Nat → Nat → Int32 := up2 (up2 (up2 (fin I (I (24 + v) 10) (I 3 4 - 1)) (24 + v) 10 (-1)) (24 + v) 8 0) (24 + v) 9 0
def bgS (I : Nat → Nat → Int32) (v c : Nat) : Nat → Nat → Int32 := up2 (up2 (kpI (up2 I (24 + v) 8 1) c (nI v) (I (24 + v) 5) (I 3 4) (I 3 5 * (I 3 6 + 1) / 70)) (24 + v) 10 (kpR c)) 3 9 (I 3 9 + 1)
def lgn (I : Nat → Nat → Int32) : Nat := (I 17 6).toNatClampNeg
def anw (I : Nat → Nat → Int32) (v : Nat) : Int32 := if ird I v (I 3 4) = 0 then 0 else if I 3 5 < I 15 1 then 0 else 1
def mv2 (I : Nat → Nat → Int32) (v : Nat) : Nat → Nat → Int32 := if I (24 + v) 9 = 0 then I else if anw I v = 0 then (if I 3 11 = 0 then enH I v else I) else enH I v
def mv3 (I : Nat → Nat → Int32) (v : Nat) : Nat → Nat → Int32 := if anw I v = 0 then mv2 I v else bgS (mv2 I v) v (lgn (mv2 I v))
def mvs (I : Nat → Nat → Int32) (fed : Int32) : Nat → Nat → Nat → Int32
  | 0 => I
  | k + 1 => mv3 (mvV (mvs I fed k) k (ir fed (nI k))) k
def drw (I : Nat → Nat → Int32) : Nat → Int32
  | 0 => I 15 3
  | k + 1 => if I (24 + k) 4 = 0 then drw I k else drw I k + I (24 + k) 2
def mvSu (I : Nat → Nat → Int32) : Nat → Nat → Int32 := up2 I 3 5 (mx2 0 (mn2 1000 (I 3 5 + I 15 2) - drw I 12))
def epl (I : Nat → Nat → Int32) : Nat → Nat → Nat → Int32
  | 0 => I
  | k + 1 => up2 (enH (epl I k) k) (24 + k) 4 0
def plr (I : Nat → Nat → Int32) (i : Nat) : Nat → Nat → Int32 :=
  let x := rh I i
  let a := up2 (mkl I x) 3 11 (ir x 12)
  let b := mvSu (mvs a (ffd a x 12) 12)
  up2 (up2 b 3 12 x) 3 4 (b 3 4 + 1)
def rsA (I : Nat → Nat → Int32) : Nat → Nat → Nat → Int32
  | 0 => I
  | k + 1 => rsV (rsA I k) k
def bg0 (I : Nat → Nat → Int32) (i : Nat) : Nat → Nat → Int32 := up2 (up2 (up2 (up2 (up2 (up2 (up2 (up2 (up2 (setP I (if anyF (I (8 + i)) 200 0 = 0 then -1 else nI i)) 3 4 0) 3 5 1000) 3 6 3) 3 7 0) 3 8 0) 3 9 0) 3 10 0) 3 11 0) 3 12 0
def bgP (I : Nat → Nat → Int32) (i : Nat) : Nat → Nat → Int32 := rsA (up2 (bg0 I i) 17 6 0) 12
def LI (I : Nat → Nat → Int32) : Prop := ∃ c, c ≤ 300 ∧ I 17 6 = nI c
theorem LI.at {I : Nat → Nat → Int32} (h : LI I) : I 17 6 = nI (lgn I) ∧ lgn I ≤ 300 := by
  obtain ⟨c, h1, h2⟩ := h
  unfold lgn
  rw [h2, nI_clamp (by omega)]
  exact ⟨rfl, h1⟩
theorem LI.of {I J : Nat → Nat → Int32} (h : LI I) (e : J 17 6 = I 17 6) : LI J := by
  obtain ⟨c, h1, h2⟩ := h
  exact ⟨c, h1, e.trans h2⟩
theorem fin_n {I : Nat → Nat → Int32} {x v : Int32} {a : Nat} (h : a ≠ 21) : fin I x v a = I a := by
  unfold fin; split
  · rfl
  · exact up2_row h
theorem enH_17 {I : Nat → Nat → Int32} {v : Nat} (b : Nat) : enH I v 17 b = I 17 b := by
  unfold enH; rw [up2_row (by omega), up2_row (by omega), up2_row (by omega), fin_n (by decide)]
theorem clV_17 {I : Nat → Nat → Int32} {v : Nat} (b : Nat) : clV I v 17 b = I 17 b := by
  unfold clV; split
  · rw [up2_row (by omega), up2_row (by omega)]
  · rw [up2_row (by omega), up2_row (by omega), up2_row (by omega), up2_row (by omega)]
theorem mvV_17 {I : Nat → Nat → Int32} {v : Nat} {x : Int32} (b : Nat) : mvV I v x 17 b = I 17 b := by
  unfold mvV
  split
  · split
    · rfl
    · split
      · rw [up2_row (by omega)]
      · rw [clV_17, up2_row (by omega)]
  · split
    · unfold opV; rw [up2_row (by omega), up2_row (by omega), up2_row (by omega), up2_row (by omega)]
    · rw [up2_row (by omega)]
theorem mv2_17 {I : Nat → Nat → Int32} {v : Nat} (b : Nat) : mv2 I v 17 b = I 17 b := by
  unfold mv2
  split
  · rfl
  · split
    · split
      · exact enH_17 b
      · rfl
    · exact enH_17 b
theorem kpI_17 {I : Nat → Nat → Int32} {c : Nat} {n o f l : Int32} (hc : I 17 6 = nI c) (h : c ≤ 300) : ∃ d, d ≤ 300 ∧ kpI I c n o f l 17 6 = nI d := by
  unfold kpI
  split
  · exact ⟨c, h, hc⟩
  · exact ⟨c + 1, by omega, by rw [up2_s]; exact nI_1 c⟩
theorem LI_bgS {I : Nat → Nat → Int32} {v : Nat} (h : LI I) : LI (bgS I v (lgn I)) := by
  have h1 := h.at
  obtain ⟨d, hd, e⟩ := kpI_17 (I := up2 I (24 + v) 8 1) (c := lgn I) (n := nI v) (o := I (24 + v) 5) (f := I 3 4) (l := I 3 5 * (I 3 6 + 1) / 70) (by rw [up2_row (by omega)]; exact h1.1) h1.2
  exact ⟨d, hd, by unfold bgS; rw [up2_row (by omega), up2_row (by omega)]; exact e⟩
theorem LI_mv3 {I : Nat → Nat → Int32} {v : Nat} (h : LI I) : LI (mv3 I v) := by
  unfold mv3
  split
  · exact h.of (mv2_17 6)
  · exact LI_bgS (h.of (mv2_17 6))
theorem LI_mvs {I : Nat → Nat → Int32} {fed : Int32} (h : LI I) : ∀ k, LI (mvs I fed k)
  | 0 => h
  | k + 1 => LI_mv3 ((LI_mvs h k).of (mvV_17 6))
def bgS0 (I : Nat → Nat → Int32) (v : Nat) : Nat → Nat → Int32 := up2 (kpI (up2 I (24 + v) 8 1) (lgn I) (nI v) (I (24 + v) 5) (I 3 4) (I 3 5 * (I 3 6 + 1) / 70)) (24 + v) 10 (kpR (lgn I))
theorem kpI_n {I : Nat → Nat → Int32} {c a : Nat} {n o f l : Int32} (h : a < 17 ∨ 22 < a) : kpI I c n o f l a = I a := by
  unfold kpI; split
  · rfl
  · rw [up2_row (by omega), up2_row (by omega), up2_row (by omega), up2_row (by omega), up2_row (by omega), up2_row (by omega)]
theorem bgS0_39 {I : Nat → Nat → Int32} {v : Nat} : bgS0 I v 3 9 = I 3 9 := by
  unfold bgS0; rw [up2_row (by omega), kpI_n (by omega), up2_row (by omega)]
theorem mvL_n {I : Nat → Nat → Int32} {q : Int32} {a : Nat} (h : a ≠ 3) : mvL I q a = I a := up2_row h
theorem latI_n {I : Nat → Nat → Int32} {m q : Int32} {a : Nat} (h : a ≠ 3) : latI I m q a = I a := by
  unfold latI; split
  · split
    · rfl
    · exact up2_row h
  · exact up2_row h
theorem mkl_n {I : Nat → Nat → Int32} {x : Int32} {a : Nat} (h : a ≠ 3) : mkl I x a = I a := by
  unfold mkl
  split
  · rw [mvL_n h, latI_n h]
  · split
    · exact mvL_n h
    · split
      · split
        · exact mvL_n h
        · exact mvL_n h
      · exact mvL_n h
theorem i10 : ((1 : Int32) = 0) = False := eq_false (by decide)

