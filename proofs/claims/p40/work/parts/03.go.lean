
def pw (ad : Nat → Nat) (L : List Nat) (f : Nat → va_E) : va_W := L.map (fun i => (ad i, f i))
theorem pw_get {ad : Nat → Nat} {L : List Nat} {f : Nat → va_E} {i : Nat} (h : i ∈ L) : ∃ k : Nat, L[k]? = some i ∧ (pw ad L f)[k]? = some (ad i, f i) := by
  obtain ⟨k, hk⟩ := List.getElem?_of_mem h
  exact ⟨k, hk, by simp [pw, hk]⟩
theorem pw_at {ad : Nat → Nat} {L : List Nat} {f : Nat → va_E} {k : Nat} {q : Nat × va_E} (h : (pw ad L f)[k]? = some q) : ∃ i, L[k]? = some i ∧ q = (ad i, f i) := by
  simp only [pw, List.getElem?_map] at h
  cases hk : L[k]? with
  | none => rw [hk] at h; cases h
  | some i => rw [hk] at h; exact ⟨i, rfl, (Option.some.inj h).symm⟩
theorem pw_set {ad : Nat → Nat} {L : List Nat} {f : Nat → va_E} {A : Nat → Prop} (hD : va_D A (pw ad L f)) {k i : Nat} {e : va_E} (hk : L[k]? = some i) : (pw ad L f).set k (ad i, e) = pw ad L (va_up f i e) := by
  apply List.ext_getElem?
  intro j
  have hlt : k < L.length := (List.getElem?_eq_some_iff.mp hk).1
  by_cases hj : j = k
  · subst hj
    rw [List.getElem?_set_self (by simpa [pw] using hlt)]
    simp [pw, hk, va_up]
  · rw [List.getElem?_set_ne (fun h => hj h.symm)]
    simp only [pw, List.getElem?_map]
    cases h2 : L[j]? with
    | none => rfl
    | some i2 =>
      have hne : i2 ≠ i := by
        intro e2
        subst e2
        exact hj (hD.1 j k (ad i2, f i2) (ad i2, f i2) (by simp [pw, h2]) (by simp [pw, hk]) rfl)
      simp [va_up, hne]
theorem pw_up_self {f : Nat → va_E} {i : Nat} {e : va_E} : va_up f i e i = e := if_pos rfl
theorem pw_push {ad : Nat → Nat} {L : List Nat} {f : Nat → va_E} {q a : Nat} {e : va_E} (hq : q ∉ L) (ha : ad q = a) : pw ad L f ++ [(a, e)] = pw ad (L ++ [q]) (va_up f q e) := by
  have h1 : L.map (fun i => (ad i, f i)) = L.map (fun i => (ad i, va_up f q e i)) := by
    apply List.map_congr_left
    intro i hi
    have : i ≠ q := fun h => hq (h ▸ hi)
    simp [va_up, this]
  unfold pw
  rw [List.map_append, h1, ← ha]
  simp [va_up]
theorem pw_congr {ad : Nat → Nat} {L : List Nat} {f g : Nat → va_E} (h : ∀ i, i ∈ L → f i = g i) : pw ad L f = pw ad L g := by
  unfold pw
  apply List.map_congr_left
  intro i hi
  rw [h i hi]

def PP (D : va_G) (tys : List (ClassId × FieldType)) (ad : Nat → Nat) (L : List Nat) (f : Nat → va_E) (sz : Nat) : State → Prop := fun U => U.heap.size = sz ∧ va_P D vwCl (pw ad L f) U.heap ∧ va_K D vwCl tys U ∧ va_D (fun _ => True) (pw ad L f)
abbrev US : Type := List Nat × (Nat → va_E)
def AT (D : va_G) (tys : List (ClassId × FieldType)) (ad : Nat → Nat) (A : Nat → Prop) : US → State → Prop := fun u t => va_P D vwCl (pw ad u.1 u.2) t.heap ∧ va_K D vwCl tys t ∧ va_D A (pw ad u.1 u.2)
abbrev EN : Type := Program × Launch × Env × Room × State × MethodId × Array Value × List Frame × Method × Code × (State → Prop) × Nat × (Nat → Prop) × Heap
def WB (X : EN) (w : Cond) : Prop := match X with
  | (_, _, _, _, s, _, args, _) => w.before args s = true
def CX (X : EN) (D : va_G) (tys : List (ClassId × FieldType)) (cc : ByteArray) (own : String) (Ts : List Cond) (rm : Room) (nL : Nat) : Prop := match X with
  | (p, _, _, R, s, m, args, _, meth, c, _, nL2, A, H0) => p.tables.exec = Jvm.exec ∧ c.code = cc ∧ c.maxLocals = nL ∧ s.vm.findClass own = some m.cls ∧ (∀ w ∈ Ts, w.before args s = true) ∧ va_K D vwCl tys s ∧ (∀ q, H0.size ≤ q → A q) ∧ R = rm ∧ nL2 = nL ∧ meth.locks = false
def GG (X : EN) (D : va_G) (ad : Nat → Nat) (L : List Nat) (f : Nat → va_E) (lv : List (Nat × Value)) (ce sl pc : Nat) (st : List Value) : Prop := match X with
  | (p, l, e, R, s, m, args, below, meth, c, Q, nL, A, H0) => ∀ (H : Heap) (locs : List Loc) (ls : Array Slot), va_P D vwCl (pw ad L f) H → va_D A (pw ad L f) → va_S A H0 H locs → lv_has ls nL lv → W p l e R s m args below meth c H locs ce sl Q (F0 m pc ls st)
theorem CX.wb {X : EN} {D : va_G} {tys : List (ClassId × FieldType)} {cc : ByteArray} {own : String} {Ts : List Cond} {rm : Room} {nL : Nat} (hX : CX X D tys cc own Ts rm nL) {w : Cond} (h : w ∈ Ts) : WB X w := hX.2.2.2.2.1 w h
def kmap (ad : Nat → Nat) (I : Nat → Int32) (Rr : Nat → Option Nat) : List Bool → Nat → List Value
  | [], _ => []
  | b :: bs, k => (match b with | true => .int (I k) | false => va_re ad (Rr k)) :: kmap ad I Rr bs (k + 1)
theorem kmap_len {ad : Nat → Nat} {I : Nat → Int32} {Rr : Nat → Option Nat} : ∀ (bs : List Bool) (k : Nat), (kmap ad I Rr bs k).length = bs.length
  | [], _ => rfl
  | b :: bs, k => by simp [kmap, kmap_len bs (k + 1)]
theorem kmap_I {ad : Nat → Nat} {I : Nat → Int32} {Rr : Nat → Option Nat} : ∀ (bs : List Bool) (k j : Nat), bs[j]? = some true → (kmap ad I Rr bs k)[j]? = some (.int (I (k + j)))
  | [], _, _, h => by simp at h
  | b :: bs, k, 0, h => by
    have : b = true := by simpa using h
    subst this; rfl
  | b :: bs, k, j + 1, h => by
    have h2 : bs[j]? = some true := by simpa using h
    have := kmap_I (ad := ad) (I := I) (Rr := Rr) bs (k + 1) j h2
    simp only [kmap, List.getElem?_cons_succ]
    rw [this, show k + 1 + j = k + (j + 1) by omega]
theorem kmap_R {ad : Nat → Nat} {I : Nat → Int32} {Rr : Nat → Option Nat} : ∀ (bs : List Bool) (k j : Nat), bs[j]? = some false → (kmap ad I Rr bs k)[j]? = some (va_re ad (Rr (k + j)))
  | [], _, _, h => by simp at h
  | b :: bs, k, 0, h => by
    have : b = false := by simpa using h
    subst this; rfl
  | b :: bs, k, j + 1, h => by
    have h2 : bs[j]? = some false := by simpa using h
    have := kmap_R (ad := ad) (I := I) (Rr := Rr) bs (k + 1) j h2
    simp only [kmap, List.getElem?_cons_succ]
    rw [this, show k + 1 + j = k + (j + 1) by omega]
theorem kmap_ext {ad : Nat → Nat} {I I2 : Nat → Int32} {Rr R2 : Nat → Option Nat} : ∀ (bs : List Bool) (k : Nat), (∀ j, k ≤ j → I j = I2 j) → (∀ j, k ≤ j → Rr j = R2 j) → kmap ad I Rr bs k = kmap ad I2 R2 bs k
  | [], _, _, _ => rfl
  | b :: bs, k, h1, h2 => by
    simp only [kmap]
    rw [kmap_ext bs (k + 1) (fun j hj => h1 j (by omega)) (fun j hj => h2 j (by omega)), h1 k (Nat.le_refl k), h2 k (Nat.le_refl k)]
theorem kmap_setI {ad : Nat → Nat} {I : Nat → Int32} {Rr : Nat → Option Nat} {x : Int32} : ∀ (bs : List Bool) (k j : Nat), bs[j]? = some true → (kmap ad I Rr bs k).set j (.int x) = kmap ad (fun b => if b = k + j then x else I b) Rr bs k
  | [], _, _, h => by simp at h
  | b :: bs, k, 0, h => by
    have : b = true := by simpa using h
    subst this
    simp only [kmap, List.set_cons_zero, Nat.add_zero, if_true]
    rw [kmap_ext (I2 := fun b => if b = k then x else I b) (R2 := Rr) bs (k + 1) (fun j hj => (if_neg (show ¬ j = k by omega)).symm) (fun _ _ => rfl)]
  | b :: bs, k, j + 1, h => by
    have h2 : bs[j]? = some true := by simpa using h
    have := kmap_setI (ad := ad) (I := I) (Rr := Rr) (x := x) bs (k + 1) j h2
    simp only [kmap, List.set_cons_succ]
    rw [this, show k + 1 + j = k + (j + 1) by omega, if_neg (show ¬ k = k + (j + 1) by omega)]
theorem kmap_setR {ad : Nat → Nat} {I : Nat → Int32} {Rr : Nat → Option Nat} {x : Option Nat} : ∀ (bs : List Bool) (k j : Nat), bs[j]? = some false → (kmap ad I Rr bs k).set j (va_re ad x) = kmap ad I (fun b => if b = k + j then x else Rr b) bs k
  | [], _, _, h => by simp at h
  | b :: bs, k, 0, h => by
    have : b = false := by simpa using h
    subst this
    simp only [kmap, List.set_cons_zero, Nat.add_zero, if_true]
    rw [kmap_ext (I2 := I) (R2 := fun b => if b = k then x else Rr b) bs (k + 1) (fun _ _ => rfl) (fun j hj => (if_neg (show ¬ j = k by omega)).symm)]
  | b :: bs, k, j + 1, h => by
    have h2 : bs[j]? = some false := by simpa using h
    have := kmap_setR (ad := ad) (I := I) (Rr := Rr) (x := x) bs (k + 1) j h2
    simp only [kmap, List.set_cons_succ]
    rw [this, show k + 1 + j = k + (j + 1) by omega, if_neg (show ¬ k = k + (j + 1) by omega)]
def up2 {α : Type} (g : Nat → Nat → α) (i k : Nat) (x : α) : Nat → Nat → α := fun a b => if a = i then (if b = k then x else g a b) else g a b
theorem up2_s {α : Type} {g : Nat → Nat → α} {i k : Nat} {x : α} : up2 g i k x i k = x := by simp [up2]
theorem up2_n {α : Type} {g : Nat → Nat → α} {i k a b : Nat} {x : α} (h : a ≠ i ∨ b ≠ k) : up2 g i k x a b = g a b := by
  unfold up2
  by_cases h1 : a = i
  · rw [if_pos h1, if_neg (h.resolve_left (fun h => h h1))]
  · rw [if_neg h1]
theorem up2_row {α : Type} {g : Nat → Nat → α} {i k a : Nat} {x : α} (h : a ≠ i) : up2 g i k x a = g a := by
  funext b
  exact up2_n (Or.inl h)

def ksh : Nat → List Bool := fun k => match k with
  | 0 => [false, true, true, true]
  | 1 => [false, false, false, false, true, false]
  | 2 => [false, true, true, true]
  | 3 => [false, true]
  | 4 => [false, false, false, true]
  | 5 => [false]
  | 6 => [false, false, false, false, true, true, true, true, true, true, true, true, true]
  | 7 => [true, true, true, true, true]
  | 8 => [false, false, false, false, false, false, true]
  | 9 => [true, true, true, true, true, true, true, true, true, true, true]
  | 10 => [false, false, false, false, false, false, true, true, true, true]
  | 11 => [false, true]
  | 12 => [true]
  | _ => []

def pf (dT : Nat → ClassId) (K N : Nat → Nat) (I : Nat → Nat → Int32) (Rr : Nat → Nat → Option Nat) (ad : Nat → Nat) : Nat → va_E := fun i =>
  if K i < 18 then .inr (K i, kmap ad (I i) (Rr i) (ksh (K i)) 0)
  else if K i < 22 then .inl (dT (K i), N i, .inl (I i))
  else .inl (dT (K i), N i, .inr (.inr (.inr (.inr (fun j => (Rr i j).map ad)))))
def tyl (dT : Nat → ClassId) : List (ClassId × FieldType) := [(dT 20, .int), (dT 18, .byte), (dT 22, .object "Perforatum$Paper"), (dT 23, .object "Perforatum$Valve"), (dT 19, .char)]
section PFR
variable {dT : Nat → ClassId} {K N : Nat → Nat} {I : Nat → Nat → Int32} {Rr : Nat → Nat → Option Nat} {ad : Nat → Nat}
theorem pf_obj {i kd : Nat} (hK : K i = kd) (h : kd < 18) : pf dT K N I Rr ad i = .inr (kd, kmap ad (I i) (Rr i) (ksh kd) 0) := by
  unfold pf; rw [hK, if_pos h]
theorem pf_ia {i kd : Nat} (hK : K i = kd) (h : 18 ≤ kd ∧ kd < 22) : pf dT K N I Rr ad i = .inl (dT kd, N i, .inl (I i)) := by
  unfold pf; rw [hK, if_neg (by omega), if_pos (by omega)]
theorem pf_ra {i kd : Nat} (hK : K i = kd) (h : 22 ≤ kd) : pf dT K N I Rr ad i = .inl (dT kd, N i, .inr (.inr (.inr (.inr (fun j => (Rr i j).map ad))))) := by
  unfold pf; rw [hK, if_neg (by omega), if_neg (by omega)]
theorem pf_putI {i kd k : Nat} {x : Int32} (hK : K i = kd) (h : kd < 18) (hs : (ksh kd)[k]? = some true) : va_up (pf dT K N I Rr ad) i (.inr (kd, (kmap ad (I i) (Rr i) (ksh kd) 0).set k (.int x))) = pf dT K N (up2 I i k x) Rr ad := by
  funext j
  by_cases hj : j = i
  · subst hj
    rw [pw_up_self, pf_obj hK h, kmap_setI _ _ _ hs]
    congr 2
    exact kmap_ext _ _ (fun b _ => by simp [up2]) (fun _ _ => rfl)
  · have e : va_up (pf dT K N I Rr ad) i (.inr (kd, (kmap ad (I i) (Rr i) (ksh kd) 0).set k (.int x))) j = pf dT K N I Rr ad j := if_neg hj
    rw [e]
    unfold pf
    rw [up2_row hj]
theorem pf_putR {i kd k : Nat} {x : Option Nat} (hK : K i = kd) (h : kd < 18) (hs : (ksh kd)[k]? = some false) : va_up (pf dT K N I Rr ad) i (.inr (kd, (kmap ad (I i) (Rr i) (ksh kd) 0).set k (va_re ad x))) = pf dT K N I (up2 Rr i k x) ad := by
  funext j
  by_cases hj : j = i
  · subst hj
    rw [pw_up_self, pf_obj hK h, kmap_setR _ _ _ hs]
    congr 2
    exact kmap_ext _ _ (fun _ _ => rfl) (fun b _ => by simp [up2])
  · have e : va_up (pf dT K N I Rr ad) i (.inr (kd, (kmap ad (I i) (Rr i) (ksh kd) 0).set k (va_re ad x))) j = pf dT K N I Rr ad j := if_neg hj
    rw [e]
    unfold pf
    rw [up2_row hj]
theorem pf_stI {i kd k : Nat} {x : Int32} (hK : K i = kd) (h : 18 ≤ kd ∧ kd < 22) : va_up (pf dT K N I Rr ad) i (.inl (dT kd, N i, .inl (upd (I i) k x))) = pf dT K N (up2 I i k x) Rr ad := by
  funext j
  by_cases hj : j = i
  · subst hj
    rw [pw_up_self, pf_ia hK h]
    congr 4
    funext b
    simp [up2, upd]
  · have e : va_up (pf dT K N I Rr ad) i (.inl (dT kd, N i, .inl (upd (I i) k x))) j = pf dT K N I Rr ad j := if_neg hj
    rw [e]
    unfold pf
    rw [up2_row hj]
theorem pf_stR {i kd k v : Nat} (hK : K i = kd) (h : 22 ≤ kd) : va_up (pf dT K N I Rr ad) i (.inl (dT kd, N i, .inr (.inr (.inr (.inr (va_up (fun j => (Rr i j).map ad) k (some (ad v)))))))) = pf dT K N I (up2 Rr i k (some v)) ad := by
  funext j
  by_cases hj : j = i
  · subst hj
    rw [pw_up_self, pf_ra hK h]
    congr 7
    funext b
    by_cases hb : b = k
    · simp [up2, va_up, hb]
    · simp [up2, va_up, hb]
  · have e : va_up (pf dT K N I Rr ad) i (.inl (dT kd, N i, .inr (.inr (.inr (.inr (va_up (fun j => (Rr i j).map ad) k (some (ad v)))))))) j = pf dT K N I Rr ad j := if_neg hj
    rw [e]
    unfold pf
    rw [up2_row hj]
end PFR

section GGR
variable {X : EN} {D : va_G} {tys : List (ClassId × FieldType)} {cc : ByteArray} {own : String} {Ts : List Cond} {rm : Room} {nL : Nat} {ad : Nat → Nat} {L : List Nat} {f : Nat → va_E} {lv : List (Nat × Value)} {ce sl pc : Nat} {st : List Value}
theorem g_iadd (hX : CX X D tys cc own Ts rm nL) {x y : Int32} (hdg : decode cc pc = .ok (.iadd, 1)) (hk : GG X D ad L f lv ce sl (pc + 1) (.int (x + y) :: st)) : GG X D ad L f lv ce sl pc (.int y :: .int x :: st) := by
  obtain ⟨p, l, e, R, s, m, args, below, meth, c, Q, nL2, A, H0⟩ := X
  obtain ⟨hx, hb, hml, hown, hts, hK, hA, rfl, rfl, hlk⟩ := hX
  intro H locs ls hP hD hS hl
  exact lv_iadd hx hb hdg (hk H locs ls hP hD hS hl)
theorem g_isub (hX : CX X D tys cc own Ts rm nL) {x y : Int32} (hdg : decode cc pc = .ok (.isub, 1)) (hk : GG X D ad L f lv ce sl (pc + 1) (.int (x - y) :: st)) : GG X D ad L f lv ce sl pc (.int y :: .int x :: st) := by
  obtain ⟨p, l, e, R, s, m, args, below, meth, c, Q, nL2, A, H0⟩ := X
  obtain ⟨hx, hb, hml, hown, hts, hK, hA, rfl, rfl, hlk⟩ := hX
  intro H locs ls hP hD hS hl
  exact lv_isub hx hb hdg (hk H locs ls hP hD hS hl)
theorem g_imul (hX : CX X D tys cc own Ts rm nL) {x y : Int32} (hdg : decode cc pc = .ok (.imul, 1)) (hk : GG X D ad L f lv ce sl (pc + 1) (.int (x * y) :: st)) : GG X D ad L f lv ce sl pc (.int y :: .int x :: st) := by
  obtain ⟨p, l, e, R, s, m, args, below, meth, c, Q, nL2, A, H0⟩ := X
  obtain ⟨hx, hb, hml, hown, hts, hK, hA, rfl, rfl, hlk⟩ := hX
  intro H locs ls hP hD hS hl
  exact lv_imul hx hb hdg (hk H locs ls hP hD hS hl)
theorem g_iand (hX : CX X D tys cc own Ts rm nL) {x y : Int32} (hdg : decode cc pc = .ok (.iand, 1)) (hk : GG X D ad L f lv ce sl (pc + 1) (.int (x &&& y) :: st)) : GG X D ad L f lv ce sl pc (.int y :: .int x :: st) := by
  obtain ⟨p, l, e, R, s, m, args, below, meth, c, Q, nL2, A, H0⟩ := X
  obtain ⟨hx, hb, hml, hown, hts, hK, hA, rfl, rfl, hlk⟩ := hX
  intro H locs ls hP hD hS hl
  exact lv_iand hx hb hdg (hk H locs ls hP hD hS hl)
theorem g_ior (hX : CX X D tys cc own Ts rm nL) {x y : Int32} (hdg : decode cc pc = .ok (.ior, 1)) (hk : GG X D ad L f lv ce sl (pc + 1) (.int (x ||| y) :: st)) : GG X D ad L f lv ce sl pc (.int y :: .int x :: st) := by
  obtain ⟨p, l, e, R, s, m, args, below, meth, c, Q, nL2, A, H0⟩ := X
  obtain ⟨hx, hb, hml, hown, hts, hK, hA, rfl, rfl, hlk⟩ := hX
  intro H locs ls hP hD hS hl
  exact lv_ior hx hb hdg (hk H locs ls hP hD hS hl)
theorem g_ixor (hX : CX X D tys cc own Ts rm nL) {x y : Int32} (hdg : decode cc pc = .ok (.ixor, 1)) (hk : GG X D ad L f lv ce sl (pc + 1) (.int (x ^^^ y) :: st)) : GG X D ad L f lv ce sl pc (.int y :: .int x :: st) := by
  obtain ⟨p, l, e, R, s, m, args, below, meth, c, Q, nL2, A, H0⟩ := X
  obtain ⟨hx, hb, hml, hown, hts, hK, hA, rfl, rfl, hlk⟩ := hX
  intro H locs ls hP hD hS hl
  exact lv_ixor hx hb hdg (hk H locs ls hP hD hS hl)
theorem g_ladd (hX : CX X D tys cc own Ts rm nL) {x y : Int64} (hdg : decode cc pc = .ok (.ladd, 1)) (hk : GG X D ad L f lv ce sl (pc + 1) (.long (x + y) :: st)) : GG X D ad L f lv ce sl pc (.long y :: .long x :: st) := by
  obtain ⟨p, l, e, R, s, m, args, below, meth, c, Q, nL2, A, H0⟩ := X
  obtain ⟨hx, hb, hml, hown, hts, hK, hA, rfl, rfl, hlk⟩ := hX
  intro H locs ls hP hD hS hl
  exact lv_ladd hx hb hdg (hk H locs ls hP hD hS hl)
theorem g_lsub (hX : CX X D tys cc own Ts rm nL) {x y : Int64} (hdg : decode cc pc = .ok (.lsub, 1)) (hk : GG X D ad L f lv ce sl (pc + 1) (.long (x - y) :: st)) : GG X D ad L f lv ce sl pc (.long y :: .long x :: st) := by
  obtain ⟨p, l, e, R, s, m, args, below, meth, c, Q, nL2, A, H0⟩ := X
  obtain ⟨hx, hb, hml, hown, hts, hK, hA, rfl, rfl, hlk⟩ := hX
  intro H locs ls hP hD hS hl
  exact lv_lsub hx hb hdg (hk H locs ls hP hD hS hl)
theorem g_lmul (hX : CX X D tys cc own Ts rm nL) {x y : Int64} (hdg : decode cc pc = .ok (.lmul, 1)) (hk : GG X D ad L f lv ce sl (pc + 1) (.long (x * y) :: st)) : GG X D ad L f lv ce sl pc (.long y :: .long x :: st) := by
  obtain ⟨p, l, e, R, s, m, args, below, meth, c, Q, nL2, A, H0⟩ := X
  obtain ⟨hx, hb, hml, hown, hts, hK, hA, rfl, rfl, hlk⟩ := hX
  intro H locs ls hP hD hS hl
  exact lv_lmul hx hb hdg (hk H locs ls hP hD hS hl)
theorem g_ishl (hX : CX X D tys cc own Ts rm nL) {x y : Int32} (hdg : decode cc pc = .ok (.ishl, 1)) (hk : GG X D ad L f lv ce sl (pc + 1) (.int (x <<< (y &&& 31)) :: st)) : GG X D ad L f lv ce sl pc (.int y :: .int x :: st) := by
  obtain ⟨p, l, e, R, s, m, args, below, meth, c, Q, nL2, A, H0⟩ := X
  obtain ⟨hx, hb, hml, hown, hts, hK, hA, rfl, rfl, hlk⟩ := hX
  intro H locs ls hP hD hS hl
  exact lv_ishl hx hb hdg (hk H locs ls hP hD hS hl)
theorem g_ishr (hX : CX X D tys cc own Ts rm nL) {x y : Int32} (hdg : decode cc pc = .ok (.ishr, 1)) (hk : GG X D ad L f lv ce sl (pc + 1) (.int (x >>> (y &&& 31)) :: st)) : GG X D ad L f lv ce sl pc (.int y :: .int x :: st) := by
  obtain ⟨p, l, e, R, s, m, args, below, meth, c, Q, nL2, A, H0⟩ := X
  obtain ⟨hx, hb, hml, hown, hts, hK, hA, rfl, rfl, hlk⟩ := hX
  intro H locs ls hP hD hS hl
  exact lv_ishr hx hb hdg (hk H locs ls hP hD hS hl)
theorem g_iushr (hX : CX X D tys cc own Ts rm nL) {x y : Int32} (hdg : decode cc pc = .ok (.iushr, 1)) (hk : GG X D ad L f lv ce sl (pc + 1) (.int ((x.toUInt32 >>> (y.toUInt32 &&& Int32.toUInt32 31)).toInt32) :: st)) : GG X D ad L f lv ce sl pc (.int y :: .int x :: st) := by
  obtain ⟨p, l, e, R, s, m, args, below, meth, c, Q, nL2, A, H0⟩ := X
  obtain ⟨hx, hb, hml, hown, hts, hK, hA, rfl, rfl, hlk⟩ := hX
  intro H locs ls hP hD hS hl
  exact lv_iushr hx hb hdg rfl (hk H locs ls hP hD hS hl)
theorem g_idiv (hX : CX X D tys cc own Ts rm nL) {x y : Int32} (hdg : decode cc pc = .ok (.idiv, 1)) (hne : ¬ y = 0) (hk : GG X D ad L f lv ce sl (pc + 1) (.int (x / y) :: st)) : GG X D ad L f lv ce sl pc (.int y :: .int x :: st) := by
  obtain ⟨p, l, e, R, s, m, args, below, meth, c, Q, nL2, A, H0⟩ := X
  obtain ⟨hx, hb, hml, hown, hts, hK, hA, rfl, rfl, hlk⟩ := hX
  intro H locs ls hP hD hS hl
  exact lv_idiv hx hb hdg hne (hk H locs ls hP hD hS hl)
theorem g_irem (hX : CX X D tys cc own Ts rm nL) {x y : Int32} (hdg : decode cc pc = .ok (.irem, 1)) (hne : ¬ y = 0) (hk : GG X D ad L f lv ce sl (pc + 1) (.int (x - x / y * y) :: st)) : GG X D ad L f lv ce sl pc (.int y :: .int x :: st) := by
  obtain ⟨p, l, e, R, s, m, args, below, meth, c, Q, nL2, A, H0⟩ := X
  obtain ⟨hx, hb, hml, hown, hts, hK, hA, rfl, rfl, hlk⟩ := hX
  intro H locs ls hP hD hS hl
  exact lv_irem hx hb hdg hne (hk H locs ls hP hD hS hl)
theorem g_ldiv (hX : CX X D tys cc own Ts rm nL) {x y : Int64} (hdg : decode cc pc = .ok (.ldiv, 1)) (hne : ¬ y = 0) (hk : GG X D ad L f lv ce sl (pc + 1) (.long (x / y) :: st)) : GG X D ad L f lv ce sl pc (.long y :: .long x :: st) := by
  obtain ⟨p, l, e, R, s, m, args, below, meth, c, Q, nL2, A, H0⟩ := X
  obtain ⟨hx, hb, hml, hown, hts, hK, hA, rfl, rfl, hlk⟩ := hX
  intro H locs ls hP hD hS hl
  exact lv_ldiv hx hb hdg hne (hk H locs ls hP hD hS hl)
theorem g_ineg (hX : CX X D tys cc own Ts rm nL) {x : Int32} (hdg : decode cc pc = .ok (.ineg, 1)) (hk : GG X D ad L f lv ce sl (pc + 1) (.int (-x) :: st)) : GG X D ad L f lv ce sl pc (.int x :: st) := by
  obtain ⟨p, l, e, R, s, m, args, below, meth, c, Q, nL2, A, H0⟩ := X
  obtain ⟨hx, hb, hml, hown, hts, hK, hA, rfl, rfl, hlk⟩ := hX
  intro H locs ls hP hD hS hl
  exact lv_ineg hx hb hdg (hk H locs ls hP hD hS hl)
theorem g_i2l (hX : CX X D tys cc own Ts rm nL) {x : Int32} (hdg : decode cc pc = .ok (.i2l, 1)) (hk : GG X D ad L f lv ce sl (pc + 1) (.long x.toInt64 :: st)) : GG X D ad L f lv ce sl pc (.int x :: st) := by
  obtain ⟨p, l, e, R, s, m, args, below, meth, c, Q, nL2, A, H0⟩ := X
  obtain ⟨hx, hb, hml, hown, hts, hK, hA, rfl, rfl, hlk⟩ := hX
  intro H locs ls hP hD hS hl
  exact lv_i2l hx hb hdg rfl (hk H locs ls hP hD hS hl)
theorem g_i2c (hX : CX X D tys cc own Ts rm nL) {x : Int32} (hdg : decode cc pc = .ok (.i2c, 1)) (hk : GG X D ad L f lv ce sl (pc + 1) (.int ((x.toUInt32 % 65536).toInt32) :: st)) : GG X D ad L f lv ce sl pc (.int x :: st) := by
  obtain ⟨p, l, e, R, s, m, args, below, meth, c, Q, nL2, A, H0⟩ := X
  obtain ⟨hx, hb, hml, hown, hts, hK, hA, rfl, rfl, hlk⟩ := hX
  intro H locs ls hP hD hS hl
  exact lv_i2c hx hb hdg rfl (hk H locs ls hP hD hS hl)
theorem g_i2b (hX : CX X D tys cc own Ts rm nL) {x : Int32} (hdg : decode cc pc = .ok (.i2b, 1)) (hk : GG X D ad L f lv ce sl (pc + 1) (.int x.toInt8.toInt32 :: st)) : GG X D ad L f lv ce sl pc (.int x :: st) := by
  obtain ⟨p, l, e, R, s, m, args, below, meth, c, Q, nL2, A, H0⟩ := X
  obtain ⟨hx, hb, hml, hown, hts, hK, hA, rfl, rfl, hlk⟩ := hX
  intro H locs ls hP hD hS hl
  exact lv_i2b hx hb hdg rfl (hk H locs ls hP hD hS hl)
theorem g_lcmp (hX : CX X D tys cc own Ts rm nL) {x y : Int64} (hdg : decode cc pc = .ok (.lcmp, 1)) (hk : GG X D ad L f lv ce sl (pc + 1) (.int (lg_cmp x y) :: st)) : GG X D ad L f lv ce sl pc (.long y :: .long x :: st) := by
  obtain ⟨p, l, e, R, s, m, args, below, meth, c, Q, nL2, A, H0⟩ := X
  obtain ⟨hx, hb, hml, hown, hts, hK, hA, rfl, rfl, hlk⟩ := hX
  intro H locs ls hP hD hS hl
  exact W.lcmp hx hb hdg (hk H locs ls hP hD hS hl)
theorem g_i2f (hX : CX X D tys cc own Ts rm nL) {x : Int32} (hdg : decode cc pc = .ok (.i2f, 1)) (hk : GG X D ad L f lv ce sl (pc + 1) (.float (FP.i2f x) :: st)) : GG X D ad L f lv ce sl pc (.int x :: st) := by
  obtain ⟨p, l, e, R, s, m, args, below, meth, c, Q, nL2, A, H0⟩ := X
  obtain ⟨hx, hb, hml, hown, hts, hK, hA, rfl, rfl, hlk⟩ := hX
  intro H locs ls hP hD hS hl
  exact lv_i2f hx hb hdg (hk H locs ls hP hD hS hl)
theorem g_i2d (hX : CX X D tys cc own Ts rm nL) {x : Int32} (hdg : decode cc pc = .ok (.i2d, 1)) (hk : GG X D ad L f lv ce sl (pc + 1) (.double (FP.i2d x) :: st)) : GG X D ad L f lv ce sl pc (.int x :: st) := by
  obtain ⟨p, l, e, R, s, m, args, below, meth, c, Q, nL2, A, H0⟩ := X
  obtain ⟨hx, hb, hml, hown, hts, hK, hA, rfl, rfl, hlk⟩ := hX
  intro H locs ls hP hD hS hl
  exact lv_i2d hx hb hdg (hk H locs ls hP hD hS hl)
theorem g_dcmp (hX : CX X D tys cc own Ts rm nL) {x y : UInt64} {op : CmpOp} (hdg : decode cc pc = .ok (.dcmp op, 1)) (hk : GG X D ad L f lv ce sl (pc + 1) (.int (Op.cmpValue (FP.dcmp x y) op) :: st)) : GG X D ad L f lv ce sl pc (.double y :: .double x :: st) := by
  obtain ⟨p, l, e, R, s, m, args, below, meth, c, Q, nL2, A, H0⟩ := X
  obtain ⟨hx, hb, hml, hown, hts, hK, hA, rfl, rfl, hlk⟩ := hX
  intro H locs ls hP hD hS hl
  exact lv_dcmp hx hb hdg (hk H locs ls hP hD hS hl)
theorem g_fcmp (hX : CX X D tys cc own Ts rm nL) {x y : UInt32} {op : CmpOp} (hdg : decode cc pc = .ok (.fcmp op, 1)) (hk : GG X D ad L f lv ce sl (pc + 1) (.int (Op.cmpValue (FP.fcmp x y) op) :: st)) : GG X D ad L f lv ce sl pc (.float y :: .float x :: st) := by
  obtain ⟨p, l, e, R, s, m, args, below, meth, c, Q, nL2, A, H0⟩ := X
  obtain ⟨hx, hb, hml, hown, hts, hK, hA, rfl, rfl, hlk⟩ := hX
  intro H locs ls hP hD hS hl
  exact lv_fcmp hx hb hdg (hk H locs ls hP hD hS hl)
theorem g_iconst (hX : CX X D tys cc own Ts rm nL) {n : Int} (v : Int32) (hdg : decode cc pc = .ok (.iconst n, 1)) (hv : Int32.ofInt n = v) (hk : GG X D ad L f lv ce sl (pc + 1) (.int v :: st)) : GG X D ad L f lv ce sl pc st := by
  obtain ⟨p, l, e, R, s, m, args, below, meth, c, Q, nL2, A, H0⟩ := X
  obtain ⟨hx, hb, hml, hown, hts, hK, hA, rfl, rfl, hlk⟩ := hX
  intro H locs ls hP hD hS hl
  exact lv_iconst hx hb hdg hv (hk H locs ls hP hD hS hl)
theorem g_bipush (hX : CX X D tys cc own Ts rm nL) {n : Int} (v : Int32) (hdg : decode cc pc = .ok (.bipush n, 2)) (hv : (Int8.ofInt n).toInt32 = v) (hk : GG X D ad L f lv ce sl (pc + 2) (.int v :: st)) : GG X D ad L f lv ce sl pc st := by
  obtain ⟨p, l, e, R, s, m, args, below, meth, c, Q, nL2, A, H0⟩ := X
  obtain ⟨hx, hb, hml, hown, hts, hK, hA, rfl, rfl, hlk⟩ := hX
  intro H locs ls hP hD hS hl
  exact lv_bipush hx hb hdg hv (hk H locs ls hP hD hS hl)
theorem g_sipush (hX : CX X D tys cc own Ts rm nL) {n : Int} (v : Int32) (hdg : decode cc pc = .ok (.sipush n, 3)) (hv : (Int16.ofInt n).toInt32 = v) (hk : GG X D ad L f lv ce sl (pc + 3) (.int v :: st)) : GG X D ad L f lv ce sl pc st := by
  obtain ⟨p, l, e, R, s, m, args, below, meth, c, Q, nL2, A, H0⟩ := X
  obtain ⟨hx, hb, hml, hown, hts, hK, hA, rfl, rfl, hlk⟩ := hX
  intro H locs ls hP hD hS hl
  exact lv_sipush hx hb hdg hv (hk H locs ls hP hD hS hl)
theorem g_lconst (hX : CX X D tys cc own Ts rm nL) {n : Fin 2} (v : Int64) (hdg : decode cc pc = .ok (.lconst n, 1)) (hv : Int64.ofNat (n : Nat) = v) (hk : GG X D ad L f lv ce sl (pc + 1) (.long v :: st)) : GG X D ad L f lv ce sl pc st := by
  obtain ⟨p, l, e, R, s, m, args, below, meth, c, Q, nL2, A, H0⟩ := X
  obtain ⟨hx, hb, hml, hown, hts, hK, hA, rfl, rfl, hlk⟩ := hX
  intro H locs ls hP hD hS hl
  exact lv_lconst hx hb hdg hv (hk H locs ls hP hD hS hl)
theorem g_fconst0 (hX : CX X D tys cc own Ts rm nL) (hdg : decode cc pc = .ok (.fconst 0, 1)) (hk : GG X D ad L f lv ce sl (pc + 1) (.float FP.fconst0 :: st)) : GG X D ad L f lv ce sl pc st := by
  obtain ⟨p, l, e, R, s, m, args, below, meth, c, Q, nL2, A, H0⟩ := X
  obtain ⟨hx, hb, hml, hown, hts, hK, hA, rfl, rfl, hlk⟩ := hX
  intro H locs ls hP hD hS hl
  exact lv_fconst0 hx hb hdg (hk H locs ls hP hD hS hl)
theorem g_dconst0 (hX : CX X D tys cc own Ts rm nL) (hdg : decode cc pc = .ok (.dconst 0, 1)) (hk : GG X D ad L f lv ce sl (pc + 1) (.double FP.dconst0 :: st)) : GG X D ad L f lv ce sl pc st := by
  obtain ⟨p, l, e, R, s, m, args, below, meth, c, Q, nL2, A, H0⟩ := X
  obtain ⟨hx, hb, hml, hown, hts, hK, hA, rfl, rfl, hlk⟩ := hX
  intro H locs ls hP hD hS hl
  exact lv_dconst0 hx hb hdg (hk H locs ls hP hD hS hl)
theorem g_ldc (hX : CX X D tys cc own Ts rm nL) {ix : Nat} (v : Int32) (hc : Jvm.Cond.constant own ix v ∈ Ts) (hdg : decode cc pc = .ok (.ldc ix, 2)) (hk : GG X D ad L f lv ce sl (pc + 2) (.int v :: st)) : GG X D ad L f lv ce sl pc st := by
  obtain ⟨p, l, e, R, s, m, args, below, meth, c, Q, nL2, A, H0⟩ := X
  obtain ⟨hx, hb, hml, hown, hts, hK, hA, rfl, rfl, hlk⟩ := hX
  intro H locs ls hP hD hS hl
  exact lv_ldc hx hb hown (hts _ hc) hdg (hk H locs ls hP hD hS hl)
theorem g_ldcw (hX : CX X D tys cc own Ts rm nL) {ix : Nat} (v : Int32) (hc : Jvm.Cond.constant own ix v ∈ Ts) (hdg : decode cc pc = .ok (.ldc_w ix, 3)) (hk : GG X D ad L f lv ce sl (pc + 3) (.int v :: st)) : GG X D ad L f lv ce sl pc st := by
  obtain ⟨p, l, e, R, s, m, args, below, meth, c, Q, nL2, A, H0⟩ := X
  obtain ⟨hx, hb, hml, hown, hts, hK, hA, rfl, rfl, hlk⟩ := hX
  intro H locs ls hP hD hS hl
  exact lv_ldcw hx hb hown (hts _ hc) hdg (hk H locs ls hP hD hS hl)
theorem g_ldc2 (hX : CX X D tys cc own Ts rm nL) {ix : Nat} (v : Int64) (hc : Jvm.Cond.constantLong own ix v ∈ Ts) (hdg : decode cc pc = .ok (.ldc2_w ix, 3)) (hk : GG X D ad L f lv ce sl (pc + 3) (.long v :: st)) : GG X D ad L f lv ce sl pc st := by
  obtain ⟨p, l, e, R, s, m, args, below, meth, c, Q, nL2, A, H0⟩ := X
  obtain ⟨hx, hb, hml, hown, hts, hK, hA, rfl, rfl, hlk⟩ := hX
  intro H locs ls hP hD hS hl
  exact lv_ldc2 hx hb hown (hts _ hc) hdg (hk H locs ls hP hD hS hl)
theorem g_null (hX : CX X D tys cc own Ts rm nL) (hdg : decode cc pc = .ok (.aconst_null, 1)) (hk : GG X D ad L f lv ce sl (pc + 1) (.null :: st)) : GG X D ad L f lv ce sl pc st := by
  obtain ⟨p, l, e, R, s, m, args, below, meth, c, Q, nL2, A, H0⟩ := X
  obtain ⟨hx, hb, hml, hown, hts, hK, hA, rfl, rfl, hlk⟩ := hX
  intro H locs ls hP hD hS hl
  exact lv_null hx hb hdg (hk H locs ls hP hD hS hl)
theorem g_dup (hX : CX X D tys cc own Ts rm nL) {v : Value} (hdg : decode cc pc = .ok (.dup, 1)) (hv : v.category = 1) (hk : GG X D ad L f lv ce sl (pc + 1) (v :: v :: st)) : GG X D ad L f lv ce sl pc (v :: st) := by
  obtain ⟨p, l, e, R, s, m, args, below, meth, c, Q, nL2, A, H0⟩ := X
  obtain ⟨hx, hb, hml, hown, hts, hK, hA, rfl, rfl, hlk⟩ := hX
  intro H locs ls hP hD hS hl
  exact lv_dup hx hb hdg hv (hk H locs ls hP hD hS hl)
theorem g_pop (hX : CX X D tys cc own Ts rm nL) {v : Value} (hdg : decode cc pc = .ok (.pop, 1)) (hv : v.category = 1) (hk : GG X D ad L f lv ce sl (pc + 1) st) : GG X D ad L f lv ce sl pc (v :: st) := by
  obtain ⟨p, l, e, R, s, m, args, below, meth, c, Q, nL2, A, H0⟩ := X
  obtain ⟨hx, hb, hml, hown, hts, hK, hA, rfl, rfl, hlk⟩ := hX
  intro H locs ls hP hD hS hl
  exact lv_pop hx hb hdg hv (hk H locs ls hP hD hS hl)
theorem g_dup2 (hX : CX X D tys cc own Ts rm nL) {v1 v2 : Value} (hdg : decode cc pc = .ok (.dup2, 1)) (h1 : v1.category = 1) (h2 : v2.category = 1) (hk : GG X D ad L f lv ce sl (pc + 1) (v1 :: v2 :: v1 :: v2 :: st)) : GG X D ad L f lv ce sl pc (v1 :: v2 :: st) := by
  obtain ⟨p, l, e, R, s, m, args, below, meth, c, Q, nL2, A, H0⟩ := X
  obtain ⟨hx, hb, hml, hown, hts, hK, hA, rfl, rfl, hlk⟩ := hX
  intro H locs ls hP hD hS hl
  exact lv_dup2_11 hx hb hdg h1 h2 (hk H locs ls hP hD hS hl)
def mn2 (x y : Int32) : Int32 := if y < x then y else x
def mx2 (x y : Int32) : Int32 := if x < y then y else x
theorem g_mmin (hX : CX X D tys cc own Ts rm nL) {ix : Nat} {x y : Int32} (h1 : Cond.methodLink own ix Lib.Math.min.name ∈ Ts) (h2 : Cond.static Lib.Math.min.name ∈ Ts) (h3 : Cond.initialized "java/lang/Math" ∈ Ts) (h4 : Cond.code Lib.Math.min.name Lib.Math.min.code 2 (some .int) ∈ Ts) (hfr : 1 ≤ rm.frames) (hlo : (st.map fun v => v.category).sum + 13 ≤ rm.locals) (hc : ce ≤ rm.cells) (hs : sl ≤ rm.slots) (hdg : decode cc pc = .ok (.invokestatic ix, 3)) (hk : GG X D ad L f lv ce sl (pc + 3) (.int (mn2 x y) :: st)) : GG X D ad L f lv ce sl pc (.int y :: .int x :: st) := by
  obtain ⟨p, l, e, R, s, m, args, below, meth, c, Q, nL2, A, H0⟩ := X
  obtain ⟨hx, hb, hml, hown, hts, hK, hA, rfl, rfl, hlk⟩ := hX
  intro H locs ls hP hD hS hl
  exact va_mmin hx hb (hml.trans hl.1.symm) hown (hts _ h1) (hts _ h2) (hts _ h3) (hts _ h4) hfr hlo hc hs hdg (hk H locs ls hP hD hS hl)
theorem g_mmax (hX : CX X D tys cc own Ts rm nL) {ix : Nat} {x y : Int32} (h1 : Cond.methodLink own ix Lib.Math.max.name ∈ Ts) (h2 : Cond.static Lib.Math.max.name ∈ Ts) (h3 : Cond.initialized "java/lang/Math" ∈ Ts) (h4 : Cond.code Lib.Math.max.name Lib.Math.max.code 2 (some .int) ∈ Ts) (hfr : 1 ≤ rm.frames) (hlo : (st.map fun v => v.category).sum + 13 ≤ rm.locals) (hc : ce ≤ rm.cells) (hs : sl ≤ rm.slots) (hdg : decode cc pc = .ok (.invokestatic ix, 3)) (hk : GG X D ad L f lv ce sl (pc + 3) (.int (mx2 x y) :: st)) : GG X D ad L f lv ce sl pc (.int y :: .int x :: st) := by
  obtain ⟨p, l, e, R, s, m, args, below, meth, c, Q, nL2, A, H0⟩ := X
  obtain ⟨hx, hb, hml, hown, hts, hK, hA, rfl, rfl, hlk⟩ := hX
  intro H locs ls hP hD hS hl
  exact va_mmax hx hb (hml.trans hl.1.symm) hown (hts _ h1) (hts _ h2) (hts _ h3) (hts _ h4) hfr hlo hc hs hdg (hk H locs ls hP hD hS hl)
theorem g_iload_n (hX : CX X D tys cc own Ts rm nL) (j : Nat) {k : Fin 4} {i : Nat} {x : Int32} (hj : lv[j]? = some (i, .int x)) (hdg : decode cc pc = .ok (.iload_n k, 1)) (hi : (k : Nat) = i) (hk : GG X D ad L f lv ce sl (pc + 1) (.int x :: st)) : GG X D ad L f lv ce sl pc st := by
  obtain ⟨p, l, e, R, s, m, args, below, meth, c, Q, nL2, A, H0⟩ := X
  obtain ⟨hx, hb, hml, hown, hts, hK, hA, rfl, rfl, hlk⟩ := hX
  intro H locs ls hP hD hS hl
  exact lv_iload_n hx hb hdg hi (lv_at hl j hj) (hk H locs ls hP hD hS hl)
theorem g_iload (hX : CX X D tys cc own Ts rm nL) (j : Nat) {i : Nat} {x : Int32} (hj : lv[j]? = some (i, .int x)) (hdg : decode cc pc = .ok (.iload i, 2)) (hk : GG X D ad L f lv ce sl (pc + 2) (.int x :: st)) : GG X D ad L f lv ce sl pc st := by
  obtain ⟨p, l, e, R, s, m, args, below, meth, c, Q, nL2, A, H0⟩ := X
  obtain ⟨hx, hb, hml, hown, hts, hK, hA, rfl, rfl, hlk⟩ := hX
  intro H locs ls hP hD hS hl
  exact lv_iload hx hb hdg (lv_at hl j hj) (hk H locs ls hP hD hS hl)
theorem g_lload_n (hX : CX X D tys cc own Ts rm nL) (j : Nat) {k : Fin 4} {i : Nat} {x : Int64} (hj : lv[j]? = some (i, .long x)) (hdg : decode cc pc = .ok (.lload_n k, 1)) (hi : (k : Nat) = i) (hk : GG X D ad L f lv ce sl (pc + 1) (.long x :: st)) : GG X D ad L f lv ce sl pc st := by
  obtain ⟨p, l, e, R, s, m, args, below, meth, c, Q, nL2, A, H0⟩ := X
  obtain ⟨hx, hb, hml, hown, hts, hK, hA, rfl, rfl, hlk⟩ := hX
  intro H locs ls hP hD hS hl
  exact lv_lload_n hx hb hdg hi (lv_at hl j hj) (hk H locs ls hP hD hS hl)
theorem g_lload (hX : CX X D tys cc own Ts rm nL) (j : Nat) {i : Nat} {x : Int64} (hj : lv[j]? = some (i, .long x)) (hdg : decode cc pc = .ok (.lload i, 2)) (hk : GG X D ad L f lv ce sl (pc + 2) (.long x :: st)) : GG X D ad L f lv ce sl pc st := by
  obtain ⟨p, l, e, R, s, m, args, below, meth, c, Q, nL2, A, H0⟩ := X
  obtain ⟨hx, hb, hml, hown, hts, hK, hA, rfl, rfl, hlk⟩ := hX
  intro H locs ls hP hD hS hl
  exact lv_lload hx hb hdg (lv_at hl j hj) (hk H locs ls hP hD hS hl)
theorem g_aload_n (hX : CX X D tys cc own Ts rm nL) (j : Nat) {k : Fin 4} {i : Nat} {x : Nat} (hj : lv[j]? = some (i, .ref x)) (hdg : decode cc pc = .ok (.aload_n k, 1)) (hi : (k : Nat) = i) (hk : GG X D ad L f lv ce sl (pc + 1) (.ref x :: st)) : GG X D ad L f lv ce sl pc st := by
  obtain ⟨p, l, e, R, s, m, args, below, meth, c, Q, nL2, A, H0⟩ := X
  obtain ⟨hx, hb, hml, hown, hts, hK, hA, rfl, rfl, hlk⟩ := hX
  intro H locs ls hP hD hS hl
  exact lv_aload_n hx hb hdg hi (lv_at hl j hj) (hk H locs ls hP hD hS hl)
theorem g_aload (hX : CX X D tys cc own Ts rm nL) (j : Nat) {i : Nat} {x : Nat} (hj : lv[j]? = some (i, .ref x)) (hdg : decode cc pc = .ok (.aload i, 2)) (hk : GG X D ad L f lv ce sl (pc + 2) (.ref x :: st)) : GG X D ad L f lv ce sl pc st := by
  obtain ⟨p, l, e, R, s, m, args, below, meth, c, Q, nL2, A, H0⟩ := X
  obtain ⟨hx, hb, hml, hown, hts, hK, hA, rfl, rfl, hlk⟩ := hX
  intro H locs ls hP hD hS hl
  exact lv_aload hx hb hdg (lv_at hl j hj) (hk H locs ls hP hD hS hl)
theorem g_fload_n (hX : CX X D tys cc own Ts rm nL) (j : Nat) {k : Fin 4} {i : Nat} {x : UInt32} (hj : lv[j]? = some (i, .float x)) (hdg : decode cc pc = .ok (.fload_n k, 1)) (hi : (k : Nat) = i) (hk : GG X D ad L f lv ce sl (pc + 1) (.float x :: st)) : GG X D ad L f lv ce sl pc st := by
  obtain ⟨p, l, e, R, s, m, args, below, meth, c, Q, nL2, A, H0⟩ := X
  obtain ⟨hx, hb, hml, hown, hts, hK, hA, rfl, rfl, hlk⟩ := hX
  intro H locs ls hP hD hS hl
  exact lv_fload_n hx hb hdg hi (lv_at hl j hj) (hk H locs ls hP hD hS hl)
theorem g_fload (hX : CX X D tys cc own Ts rm nL) (j : Nat) {i : Nat} {x : UInt32} (hj : lv[j]? = some (i, .float x)) (hdg : decode cc pc = .ok (.fload i, 2)) (hk : GG X D ad L f lv ce sl (pc + 2) (.float x :: st)) : GG X D ad L f lv ce sl pc st := by
  obtain ⟨p, l, e, R, s, m, args, below, meth, c, Q, nL2, A, H0⟩ := X
  obtain ⟨hx, hb, hml, hown, hts, hK, hA, rfl, rfl, hlk⟩ := hX
  intro H locs ls hP hD hS hl
  exact lv_fload hx hb hdg (lv_at hl j hj) (hk H locs ls hP hD hS hl)
theorem g_dload_n (hX : CX X D tys cc own Ts rm nL) (j : Nat) {k : Fin 4} {i : Nat} {x : UInt64} (hj : lv[j]? = some (i, .double x)) (hdg : decode cc pc = .ok (.dload_n k, 1)) (hi : (k : Nat) = i) (hk : GG X D ad L f lv ce sl (pc + 1) (.double x :: st)) : GG X D ad L f lv ce sl pc st := by
  obtain ⟨p, l, e, R, s, m, args, below, meth, c, Q, nL2, A, H0⟩ := X
  obtain ⟨hx, hb, hml, hown, hts, hK, hA, rfl, rfl, hlk⟩ := hX
  intro H locs ls hP hD hS hl
  exact lv_dload_n hx hb hdg hi (lv_at hl j hj) (hk H locs ls hP hD hS hl)
theorem g_dload (hX : CX X D tys cc own Ts rm nL) (j : Nat) {i : Nat} {x : UInt64} (hj : lv[j]? = some (i, .double x)) (hdg : decode cc pc = .ok (.dload i, 2)) (hk : GG X D ad L f lv ce sl (pc + 2) (.double x :: st)) : GG X D ad L f lv ce sl pc st := by
  obtain ⟨p, l, e, R, s, m, args, below, meth, c, Q, nL2, A, H0⟩ := X
  obtain ⟨hx, hb, hml, hown, hts, hK, hA, rfl, rfl, hlk⟩ := hX
  intro H locs ls hP hD hS hl
  exact lv_dload hx hb hdg (lv_at hl j hj) (hk H locs ls hP hD hS hl)
theorem g_istore_n (hX : CX X D tys cc own Ts rm nL) {k : Fin 4} {i : Nat} {x : Int32} (lv2 : List (Nat × Value)) (hl2 : (i, Value.int x) :: lv.filter (fun q => !(q.1 == i) && !(q.1 + 1 == i && q.2.category == 2)) = lv2) (hdg : decode cc pc = .ok (.istore_n k, 1)) (hi : (k : Nat) = i) (hn : i < nL) (hk : GG X D ad L f lv2 ce sl (pc + 1) st) : GG X D ad L f lv ce sl pc (.int x :: st) := by
  obtain ⟨p, l, e, R, s, m, args, below, meth, c, Q, nL2, A, H0⟩ := X
  obtain ⟨hx, hb, hml, hown, hts, hK, hA, rfl, rfl, hlk⟩ := hX
  intro H locs ls hP hD hS hl
  exact lv_istore_n hx hb hdg hi hl hn hl2 (fun ls2 hl2 => hk H locs ls2 hP hD hS hl2)
theorem g_istore (hX : CX X D tys cc own Ts rm nL) {i : Nat} {x : Int32} (lv2 : List (Nat × Value)) (hl2 : (i, Value.int x) :: lv.filter (fun q => !(q.1 == i) && !(q.1 + 1 == i && q.2.category == 2)) = lv2) (hdg : decode cc pc = .ok (.istore i, 2)) (hn : i < nL) (hk : GG X D ad L f lv2 ce sl (pc + 2) st) : GG X D ad L f lv ce sl pc (.int x :: st) := by
  obtain ⟨p, l, e, R, s, m, args, below, meth, c, Q, nL2, A, H0⟩ := X
  obtain ⟨hx, hb, hml, hown, hts, hK, hA, rfl, rfl, hlk⟩ := hX
  intro H locs ls hP hD hS hl
  exact lv_istore hx hb hdg hl hn hl2 (fun ls2 hl2 => hk H locs ls2 hP hD hS hl2)
theorem g_astore_n (hX : CX X D tys cc own Ts rm nL) {k : Fin 4} {i : Nat} {x : Nat} (lv2 : List (Nat × Value)) (hl2 : (i, Value.ref x) :: lv.filter (fun q => !(q.1 == i) && !(q.1 + 1 == i && q.2.category == 2)) = lv2) (hdg : decode cc pc = .ok (.astore_n k, 1)) (hi : (k : Nat) = i) (hn : i < nL) (hk : GG X D ad L f lv2 ce sl (pc + 1) st) : GG X D ad L f lv ce sl pc (.ref x :: st) := by
  obtain ⟨p, l, e, R, s, m, args, below, meth, c, Q, nL2, A, H0⟩ := X
  obtain ⟨hx, hb, hml, hown, hts, hK, hA, rfl, rfl, hlk⟩ := hX
  intro H locs ls hP hD hS hl
  exact lv_astore_n hx hb hdg hi hl hn hl2 (fun ls2 hl2 => hk H locs ls2 hP hD hS hl2)
theorem g_astore (hX : CX X D tys cc own Ts rm nL) {i : Nat} {x : Nat} (lv2 : List (Nat × Value)) (hl2 : (i, Value.ref x) :: lv.filter (fun q => !(q.1 == i) && !(q.1 + 1 == i && q.2.category == 2)) = lv2) (hdg : decode cc pc = .ok (.astore i, 2)) (hn : i < nL) (hk : GG X D ad L f lv2 ce sl (pc + 2) st) : GG X D ad L f lv ce sl pc (.ref x :: st) := by
  obtain ⟨p, l, e, R, s, m, args, below, meth, c, Q, nL2, A, H0⟩ := X
  obtain ⟨hx, hb, hml, hown, hts, hK, hA, rfl, rfl, hlk⟩ := hX
  intro H locs ls hP hD hS hl
  exact lv_astore hx hb hdg hl hn hl2 (fun ls2 hl2 => hk H locs ls2 hP hD hS hl2)
theorem g_lstore_n (hX : CX X D tys cc own Ts rm nL) {k : Fin 4} {i : Nat} {x : Int64} (lv2 : List (Nat × Value)) (hl2 : (i, Value.long x) :: lv.filter (fun q => !(q.1 == i) && (!(q.1 == i + 1) && !(q.1 + 1 == i && q.2.category == 2))) = lv2) (hdg : decode cc pc = .ok (.lstore_n k, 1)) (hi : (k : Nat) = i) (hn : i + 1 < nL) (hk : GG X D ad L f lv2 ce sl (pc + 1) st) : GG X D ad L f lv ce sl pc (.long x :: st) := by
  obtain ⟨p, l, e, R, s, m, args, below, meth, c, Q, nL2, A, H0⟩ := X
  obtain ⟨hx, hb, hml, hown, hts, hK, hA, rfl, rfl, hlk⟩ := hX
  intro H locs ls hP hD hS hl
  exact lv_lstore_n hx hb hdg hi hl hn hl2 (fun ls2 hl2 => hk H locs ls2 hP hD hS hl2)
theorem g_lstore (hX : CX X D tys cc own Ts rm nL) {i : Nat} {x : Int64} (lv2 : List (Nat × Value)) (hl2 : (i, Value.long x) :: lv.filter (fun q => !(q.1 == i) && (!(q.1 == i + 1) && !(q.1 + 1 == i && q.2.category == 2))) = lv2) (hdg : decode cc pc = .ok (.lstore i, 2)) (hn : i + 1 < nL) (hk : GG X D ad L f lv2 ce sl (pc + 2) st) : GG X D ad L f lv ce sl pc (.long x :: st) := by
  obtain ⟨p, l, e, R, s, m, args, below, meth, c, Q, nL2, A, H0⟩ := X
  obtain ⟨hx, hb, hml, hown, hts, hK, hA, rfl, rfl, hlk⟩ := hX
  intro H locs ls hP hD hS hl
  exact lv_lstore hx hb hdg hl hn hl2 (fun ls2 hl2 => hk H locs ls2 hP hD hS hl2)
theorem g_fstore_n (hX : CX X D tys cc own Ts rm nL) {k : Fin 4} {i : Nat} {x : UInt32} (lv2 : List (Nat × Value)) (hl2 : (i, Value.float x) :: lv.filter (fun q => !(q.1 == i) && !(q.1 + 1 == i && q.2.category == 2)) = lv2) (hdg : decode cc pc = .ok (.fstore_n k, 1)) (hi : (k : Nat) = i) (hn : i < nL) (hk : GG X D ad L f lv2 ce sl (pc + 1) st) : GG X D ad L f lv ce sl pc (.float x :: st) := by
  obtain ⟨p, l, e, R, s, m, args, below, meth, c, Q, nL2, A, H0⟩ := X
  obtain ⟨hx, hb, hml, hown, hts, hK, hA, rfl, rfl, hlk⟩ := hX
  intro H locs ls hP hD hS hl
  exact lv_fstore_n hx hb hdg hi hl hn hl2 (fun ls2 hl2 => hk H locs ls2 hP hD hS hl2)
theorem g_fstore (hX : CX X D tys cc own Ts rm nL) {i : Nat} {x : UInt32} (lv2 : List (Nat × Value)) (hl2 : (i, Value.float x) :: lv.filter (fun q => !(q.1 == i) && !(q.1 + 1 == i && q.2.category == 2)) = lv2) (hdg : decode cc pc = .ok (.fstore i, 2)) (hn : i < nL) (hk : GG X D ad L f lv2 ce sl (pc + 2) st) : GG X D ad L f lv ce sl pc (.float x :: st) := by
  obtain ⟨p, l, e, R, s, m, args, below, meth, c, Q, nL2, A, H0⟩ := X
  obtain ⟨hx, hb, hml, hown, hts, hK, hA, rfl, rfl, hlk⟩ := hX
  intro H locs ls hP hD hS hl
  exact lv_fstore hx hb hdg hl hn hl2 (fun ls2 hl2 => hk H locs ls2 hP hD hS hl2)
theorem g_dstore_n (hX : CX X D tys cc own Ts rm nL) {k : Fin 4} {i : Nat} {x : UInt64} (lv2 : List (Nat × Value)) (hl2 : (i, Value.double x) :: lv.filter (fun q => !(q.1 == i) && (!(q.1 == i + 1) && !(q.1 + 1 == i && q.2.category == 2))) = lv2) (hdg : decode cc pc = .ok (.dstore_n k, 1)) (hi : (k : Nat) = i) (hn : i + 1 < nL) (hk : GG X D ad L f lv2 ce sl (pc + 1) st) : GG X D ad L f lv ce sl pc (.double x :: st) := by
  obtain ⟨p, l, e, R, s, m, args, below, meth, c, Q, nL2, A, H0⟩ := X
  obtain ⟨hx, hb, hml, hown, hts, hK, hA, rfl, rfl, hlk⟩ := hX
  intro H locs ls hP hD hS hl
  exact lv_dstore_n hx hb hdg hi hl hn hl2 (fun ls2 hl2 => hk H locs ls2 hP hD hS hl2)
theorem g_dstore (hX : CX X D tys cc own Ts rm nL) {i : Nat} {x : UInt64} (lv2 : List (Nat × Value)) (hl2 : (i, Value.double x) :: lv.filter (fun q => !(q.1 == i) && (!(q.1 == i + 1) && !(q.1 + 1 == i && q.2.category == 2))) = lv2) (hdg : decode cc pc = .ok (.dstore i, 2)) (hn : i + 1 < nL) (hk : GG X D ad L f lv2 ce sl (pc + 2) st) : GG X D ad L f lv ce sl pc (.double x :: st) := by
  obtain ⟨p, l, e, R, s, m, args, below, meth, c, Q, nL2, A, H0⟩ := X
  obtain ⟨hx, hb, hml, hown, hts, hK, hA, rfl, rfl, hlk⟩ := hX
  intro H locs ls hP hD hS hl
  exact lv_dstore hx hb hdg hl hn hl2 (fun ls2 hl2 => hk H locs ls2 hP hD hS hl2)
theorem g_iinc (hX : CX X D tys cc own Ts rm nL) {i k : Nat} {n : Int} {x : Int32} (v : Int32) (lv2 : List (Nat × Value)) (hk2 : lv[k]? = some (i, .int x)) (hv : x + Int32.ofInt n = v) (hl2 : (i, Value.int v) :: lv.filter (fun q => !(q.1 == i) && !(q.1 + 1 == i && q.2.category == 2)) = lv2) (hdg : decode cc pc = .ok (.iinc i n, 3)) (hn : i < nL) (hk : GG X D ad L f lv2 ce sl (pc + 3) st) : GG X D ad L f lv ce sl pc st := by
  obtain ⟨p, l, e, R, s, m, args, below, meth, c, Q, nL2, A, H0⟩ := X
  obtain ⟨hx, hb, hml, hown, hts, hK, hA, rfl, rfl, hlk⟩ := hX
  intro H locs ls hP hD hS hl
  exact lv_iinc hx hb hdg hl hk2 hv hn hl2 (fun ls2 hl2 => hk H locs ls2 hP hD hS hl2)
theorem g_if_eq (hX : CX X D tys cc own Ts rm nL) {x : Int32} {off : Int} {tgt : Nat} (hdg : decode cc pc = .ok (.ifCond .eq off, 3)) (ht : (pc : Int) + off = (tgt : Int)) (kt : x = 0 → GG X D ad L f lv ce sl tgt st) (kf : ¬ x = 0 → GG X D ad L f lv ce sl (pc + 3) st) : GG X D ad L f lv ce sl pc (.int x :: st) := by
  obtain ⟨p, l, e, R, s, m, args, below, meth, c, Q, nL2, A, H0⟩ := X
  obtain ⟨hx, hb, hml, hown, hts, hK, hA, rfl, rfl, hlk⟩ := hX
  intro H locs ls hP hD hS hl
  exact lv_if_eq hx hb hdg ht (fun h => kt h H locs ls hP hD hS hl) (fun h => kf h H locs ls hP hD hS hl)
theorem g_icmp_eq (hX : CX X D tys cc own Ts rm nL) {x y : Int32} {off : Int} {tgt : Nat} (hdg : decode cc pc = .ok (.if_icmp .eq off, 3)) (ht : (pc : Int) + off = (tgt : Int)) (kt : x = y → GG X D ad L f lv ce sl tgt st) (kf : ¬ x = y → GG X D ad L f lv ce sl (pc + 3) st) : GG X D ad L f lv ce sl pc (.int y :: .int x :: st) := by
  obtain ⟨p, l, e, R, s, m, args, below, meth, c, Q, nL2, A, H0⟩ := X
  obtain ⟨hx, hb, hml, hown, hts, hK, hA, rfl, rfl, hlk⟩ := hX
  intro H locs ls hP hD hS hl
  exact lv_icmp_eq hx hb hdg ht (fun h => kt h H locs ls hP hD hS hl) (fun h => kf h H locs ls hP hD hS hl)
theorem g_if_ne (hX : CX X D tys cc own Ts rm nL) {x : Int32} {off : Int} {tgt : Nat} (hdg : decode cc pc = .ok (.ifCond .ne off, 3)) (ht : (pc : Int) + off = (tgt : Int)) (kt : ¬ x = 0 → GG X D ad L f lv ce sl tgt st) (kf : x = 0 → GG X D ad L f lv ce sl (pc + 3) st) : GG X D ad L f lv ce sl pc (.int x :: st) := by
  obtain ⟨p, l, e, R, s, m, args, below, meth, c, Q, nL2, A, H0⟩ := X
  obtain ⟨hx, hb, hml, hown, hts, hK, hA, rfl, rfl, hlk⟩ := hX
  intro H locs ls hP hD hS hl
  exact lv_if_ne hx hb hdg ht (fun h => kt h H locs ls hP hD hS hl) (fun h => kf h H locs ls hP hD hS hl)
theorem g_icmp_ne (hX : CX X D tys cc own Ts rm nL) {x y : Int32} {off : Int} {tgt : Nat} (hdg : decode cc pc = .ok (.if_icmp .ne off, 3)) (ht : (pc : Int) + off = (tgt : Int)) (kt : ¬ x = y → GG X D ad L f lv ce sl tgt st) (kf : x = y → GG X D ad L f lv ce sl (pc + 3) st) : GG X D ad L f lv ce sl pc (.int y :: .int x :: st) := by
  obtain ⟨p, l, e, R, s, m, args, below, meth, c, Q, nL2, A, H0⟩ := X
  obtain ⟨hx, hb, hml, hown, hts, hK, hA, rfl, rfl, hlk⟩ := hX
  intro H locs ls hP hD hS hl
  exact lv_icmp_ne hx hb hdg ht (fun h => kt h H locs ls hP hD hS hl) (fun h => kf h H locs ls hP hD hS hl)
theorem g_if_lt (hX : CX X D tys cc own Ts rm nL) {x : Int32} {off : Int} {tgt : Nat} (hdg : decode cc pc = .ok (.ifCond .lt off, 3)) (ht : (pc : Int) + off = (tgt : Int)) (kt : x < 0 → GG X D ad L f lv ce sl tgt st) (kf : ¬ x < 0 → GG X D ad L f lv ce sl (pc + 3) st) : GG X D ad L f lv ce sl pc (.int x :: st) := by
  obtain ⟨p, l, e, R, s, m, args, below, meth, c, Q, nL2, A, H0⟩ := X
  obtain ⟨hx, hb, hml, hown, hts, hK, hA, rfl, rfl, hlk⟩ := hX
  intro H locs ls hP hD hS hl
  exact lv_if_lt hx hb hdg ht (fun h => kt h H locs ls hP hD hS hl) (fun h => kf h H locs ls hP hD hS hl)
theorem g_icmp_lt (hX : CX X D tys cc own Ts rm nL) {x y : Int32} {off : Int} {tgt : Nat} (hdg : decode cc pc = .ok (.if_icmp .lt off, 3)) (ht : (pc : Int) + off = (tgt : Int)) (kt : x < y → GG X D ad L f lv ce sl tgt st) (kf : ¬ x < y → GG X D ad L f lv ce sl (pc + 3) st) : GG X D ad L f lv ce sl pc (.int y :: .int x :: st) := by
  obtain ⟨p, l, e, R, s, m, args, below, meth, c, Q, nL2, A, H0⟩ := X
  obtain ⟨hx, hb, hml, hown, hts, hK, hA, rfl, rfl, hlk⟩ := hX
  intro H locs ls hP hD hS hl
  exact lv_icmp_lt hx hb hdg ht (fun h => kt h H locs ls hP hD hS hl) (fun h => kf h H locs ls hP hD hS hl)
theorem g_if_ge (hX : CX X D tys cc own Ts rm nL) {x : Int32} {off : Int} {tgt : Nat} (hdg : decode cc pc = .ok (.ifCond .ge off, 3)) (ht : (pc : Int) + off = (tgt : Int)) (kt : 0 ≤ x → GG X D ad L f lv ce sl tgt st) (kf : ¬ 0 ≤ x → GG X D ad L f lv ce sl (pc + 3) st) : GG X D ad L f lv ce sl pc (.int x :: st) := by
  obtain ⟨p, l, e, R, s, m, args, below, meth, c, Q, nL2, A, H0⟩ := X
  obtain ⟨hx, hb, hml, hown, hts, hK, hA, rfl, rfl, hlk⟩ := hX
  intro H locs ls hP hD hS hl
  exact lv_if_ge hx hb hdg ht (fun h => kt h H locs ls hP hD hS hl) (fun h => kf h H locs ls hP hD hS hl)
theorem g_icmp_ge (hX : CX X D tys cc own Ts rm nL) {x y : Int32} {off : Int} {tgt : Nat} (hdg : decode cc pc = .ok (.if_icmp .ge off, 3)) (ht : (pc : Int) + off = (tgt : Int)) (kt : y ≤ x → GG X D ad L f lv ce sl tgt st) (kf : ¬ y ≤ x → GG X D ad L f lv ce sl (pc + 3) st) : GG X D ad L f lv ce sl pc (.int y :: .int x :: st) := by
  obtain ⟨p, l, e, R, s, m, args, below, meth, c, Q, nL2, A, H0⟩ := X
  obtain ⟨hx, hb, hml, hown, hts, hK, hA, rfl, rfl, hlk⟩ := hX
  intro H locs ls hP hD hS hl
  exact lv_icmp_ge hx hb hdg ht (fun h => kt h H locs ls hP hD hS hl) (fun h => kf h H locs ls hP hD hS hl)
theorem g_if_gt (hX : CX X D tys cc own Ts rm nL) {x : Int32} {off : Int} {tgt : Nat} (hdg : decode cc pc = .ok (.ifCond .gt off, 3)) (ht : (pc : Int) + off = (tgt : Int)) (kt : 0 < x → GG X D ad L f lv ce sl tgt st) (kf : ¬ 0 < x → GG X D ad L f lv ce sl (pc + 3) st) : GG X D ad L f lv ce sl pc (.int x :: st) := by
  obtain ⟨p, l, e, R, s, m, args, below, meth, c, Q, nL2, A, H0⟩ := X
  obtain ⟨hx, hb, hml, hown, hts, hK, hA, rfl, rfl, hlk⟩ := hX
  intro H locs ls hP hD hS hl
  exact lv_if_gt hx hb hdg ht (fun h => kt h H locs ls hP hD hS hl) (fun h => kf h H locs ls hP hD hS hl)
theorem g_icmp_gt (hX : CX X D tys cc own Ts rm nL) {x y : Int32} {off : Int} {tgt : Nat} (hdg : decode cc pc = .ok (.if_icmp .gt off, 3)) (ht : (pc : Int) + off = (tgt : Int)) (kt : y < x → GG X D ad L f lv ce sl tgt st) (kf : ¬ y < x → GG X D ad L f lv ce sl (pc + 3) st) : GG X D ad L f lv ce sl pc (.int y :: .int x :: st) := by
  obtain ⟨p, l, e, R, s, m, args, below, meth, c, Q, nL2, A, H0⟩ := X
  obtain ⟨hx, hb, hml, hown, hts, hK, hA, rfl, rfl, hlk⟩ := hX
  intro H locs ls hP hD hS hl
  exact lv_icmp_gt hx hb hdg ht (fun h => kt h H locs ls hP hD hS hl) (fun h => kf h H locs ls hP hD hS hl)
theorem g_if_le (hX : CX X D tys cc own Ts rm nL) {x : Int32} {off : Int} {tgt : Nat} (hdg : decode cc pc = .ok (.ifCond .le off, 3)) (ht : (pc : Int) + off = (tgt : Int)) (kt : x ≤ 0 → GG X D ad L f lv ce sl tgt st) (kf : ¬ x ≤ 0 → GG X D ad L f lv ce sl (pc + 3) st) : GG X D ad L f lv ce sl pc (.int x :: st) := by
  obtain ⟨p, l, e, R, s, m, args, below, meth, c, Q, nL2, A, H0⟩ := X
  obtain ⟨hx, hb, hml, hown, hts, hK, hA, rfl, rfl, hlk⟩ := hX
  intro H locs ls hP hD hS hl
  exact lv_if_le hx hb hdg ht (fun h => kt h H locs ls hP hD hS hl) (fun h => kf h H locs ls hP hD hS hl)
theorem g_icmp_le (hX : CX X D tys cc own Ts rm nL) {x y : Int32} {off : Int} {tgt : Nat} (hdg : decode cc pc = .ok (.if_icmp .le off, 3)) (ht : (pc : Int) + off = (tgt : Int)) (kt : x ≤ y → GG X D ad L f lv ce sl tgt st) (kf : ¬ x ≤ y → GG X D ad L f lv ce sl (pc + 3) st) : GG X D ad L f lv ce sl pc (.int y :: .int x :: st) := by
  obtain ⟨p, l, e, R, s, m, args, below, meth, c, Q, nL2, A, H0⟩ := X
  obtain ⟨hx, hb, hml, hown, hts, hK, hA, rfl, rfl, hlk⟩ := hX
  intro H locs ls hP hD hS hl
  exact lv_icmp_le hx hb hdg ht (fun h => kt h H locs ls hP hD hS hl) (fun h => kf h H locs ls hP hD hS hl)
theorem g_acmp_eq (hX : CX X D tys cc own Ts rm nL) {rx ry : Option Nat} {off : Int} {tgt : Nat} (hdg : decode cc pc = .ok (.if_acmp .eq off, 3)) (ht : (pc : Int) + off = (tgt : Int)) (kt : rx = ry → GG X D ad L f lv ce sl tgt st) (kf : ¬ rx = ry → GG X D ad L f lv ce sl (pc + 3) st) : GG X D ad L f lv ce sl pc (va_rf ry :: va_rf rx :: st) := by
  obtain ⟨p, l, e, R, s, m, args, below, meth, c, Q, nL2, A, H0⟩ := X
  obtain ⟨hx, hb, hml, hown, hts, hK, hA, rfl, rfl, hlk⟩ := hX
  intro H locs ls hP hD hS hl
  exact lv_acmp_eq hx hb hdg ht (fun h => kt h H locs ls hP hD hS hl) (fun h => kf h H locs ls hP hD hS hl)
theorem g_acmp_ne (hX : CX X D tys cc own Ts rm nL) {rx ry : Option Nat} {off : Int} {tgt : Nat} (hdg : decode cc pc = .ok (.if_acmp .ne off, 3)) (ht : (pc : Int) + off = (tgt : Int)) (kt : ¬ rx = ry → GG X D ad L f lv ce sl tgt st) (kf : rx = ry → GG X D ad L f lv ce sl (pc + 3) st) : GG X D ad L f lv ce sl pc (va_rf ry :: va_rf rx :: st) := by
  obtain ⟨p, l, e, R, s, m, args, below, meth, c, Q, nL2, A, H0⟩ := X
  obtain ⟨hx, hb, hml, hown, hts, hK, hA, rfl, rfl, hlk⟩ := hX
  intro H locs ls hP hD hS hl
  exact lv_acmp_ne hx hb hdg ht (fun h => kt h H locs ls hP hD hS hl) (fun h => kf h H locs ls hP hD hS hl)
theorem g_goto (hX : CX X D tys cc own Ts rm nL) {off : Int} {tgt : Nat} (hdg : decode cc pc = .ok (.goto off, 3)) (ht : (pc : Int) + off = (tgt : Int)) (hk : GG X D ad L f lv ce sl tgt st) : GG X D ad L f lv ce sl pc st := by
  obtain ⟨p, l, e, R, s, m, args, below, meth, c, Q, nL2, A, H0⟩ := X
  obtain ⟨hx, hb, hml, hown, hts, hK, hA, rfl, rfl, hlk⟩ := hX
  intro H locs ls hP hD hS hl
  exact lv_goto hx hb hdg ht (hk H locs ls hP hD hS hl)
theorem g_ifnonnull (hX : CX X D tys cc own Ts rm nL) {x : Nat} {off : Int} {tgt : Nat} (hdg : decode cc pc = .ok (.ifnonnull off, 3)) (ht : (pc : Int) + off = (tgt : Int)) (hk : GG X D ad L f lv ce sl tgt st) : GG X D ad L f lv ce sl pc (.ref x :: st) := by
  obtain ⟨p, l, e, R, s, m, args, below, meth, c, Q, nL2, A, H0⟩ := X
  obtain ⟨hx, hb, hml, hown, hts, hK, hA, rfl, rfl, hlk⟩ := hX
  intro H locs ls hP hD hS hl
  exact lv_ifnonnull hx hb hdg ht (hk H locs ls hP hD hS hl)
theorem g_ifnull (hX : CX X D tys cc own Ts rm nL) {x : Nat} {off : Int} (hdg : decode cc pc = .ok (.ifnull off, 3)) (hk : GG X D ad L f lv ce sl (pc + 3) st) : GG X D ad L f lv ce sl pc (.ref x :: st) := by
  obtain ⟨p, l, e, R, s, m, args, below, meth, c, Q, nL2, A, H0⟩ := X
  obtain ⟨hx, hb, hml, hown, hts, hK, hA, rfl, rfl, hlk⟩ := hX
  intro H locs ls hP hD hS hl
  exact lv_ifnull hx hb hdg (hk H locs ls hP hD hS hl)
theorem g_ifnullN (hX : CX X D tys cc own Ts rm nL) {off : Int} {tgt : Nat} (hdg : decode cc pc = .ok (.ifnull off, 3)) (ht : (pc : Int) + off = (tgt : Int)) (hk : GG X D ad L f lv ce sl tgt st) : GG X D ad L f lv ce sl pc (.null :: st) := by
  obtain ⟨p, l, e, R, s, m, args, below, meth, c, Q, nL2, A, H0⟩ := X
  obtain ⟨hx, hb, hml, hown, hts, hK, hA, rfl, rfl, hlk⟩ := hX
  intro H locs ls hP hD hS hl
  exact lv_ifnullN hx hb hdg ht (hk H locs ls hP hD hS hl)
theorem g_ifnonnullN (hX : CX X D tys cc own Ts rm nL) {off : Int} (hdg : decode cc pc = .ok (.ifnonnull off, 3)) (hk : GG X D ad L f lv ce sl (pc + 3) st) : GG X D ad L f lv ce sl pc (.null :: st) := by
  obtain ⟨p, l, e, R, s, m, args, below, meth, c, Q, nL2, A, H0⟩ := X
  obtain ⟨hx, hb, hml, hown, hts, hK, hA, rfl, rfl, hlk⟩ := hX
  intro H locs ls hP hD hS hl
  exact lv_ifnonnullN hx hb hdg (hk H locs ls hP hD hS hl)
theorem g_stk {st2 : List Value} (h : st = st2) (hk : GG X D ad L f lv ce sl pc st2) : GG X D ad L f lv ce sl pc st := h ▸ hk
theorem g_topi {x : Int32} (hk : ∀ y : Int32, y = x → GG X D ad L f lv ce sl pc (.int y :: st)) : GG X D ad L f lv ce sl pc (.int x :: st) := hk x rfl
theorem g_topl {x : Int64} (hk : ∀ y : Int64, y = x → GG X D ad L f lv ce sl pc (.long y :: st)) : GG X D ad L f lv ce sl pc (.long x :: st) := hk x rfl
theorem g_eqi {x y : Int32} (h : x = y) (hk : GG X D ad L f lv ce sl pc (.int y :: st)) : GG X D ad L f lv ce sl pc (.int x :: st) := h ▸ hk
theorem g_lv {lv2 : List (Nat × Value)} (ks : List Nat) (h : lv_pick lv ks = lv2) (hk : GG X D ad L f lv2 ce sl pc st) : GG X D ad L f lv ce sl pc st := by
  obtain ⟨p, l, e, R, s, m, args, below, meth, c, Q, nL2, A, H0⟩ := X
  intro H locs ls hP hD hS hl
  exact hk H locs ls hP hD hS (lv_sub hl ks h)
theorem g_f {g : Nat → va_E} (h : ∀ i, i ∈ L → f i = g i) (hk : GG X D ad L g lv ce sl pc st) : GG X D ad L f lv ce sl pc st := by
  obtain ⟨p, l, e, R, s, m, args, below, meth, c, Q, nL2, A, H0⟩ := X
  intro H locs ls hP hD hS hl
  rw [pw_congr h] at hP hD
  exact hk H locs ls hP hD hS hl
theorem g_widen {k n : Nat} (h1 : ce ≤ k) (h2 : sl ≤ n) (hk : GG X D ad L f lv k n pc st) : GG X D ad L f lv ce sl pc st := by
  obtain ⟨p, l, e, R, s, m, args, below, meth, c, Q, nL2, A, H0⟩ := X
  intro H locs ls hP hD hS hl
  exact W.widen h1 h2 (hk H locs ls hP hD hS hl)

variable {dT : Nat → ClassId} {K N : Nat → Nat} {I : Nat → Nat → Int32} {Rr : Nat → Nat → Option Nat}
theorem g_getI (hX : CX X D tys cc own Ts rm nL) {i : Nat} (kd k : Nat) {ix : Nat} {C ref : String} {T : u_T} {n : Nat} (hin : ∀ w ∈ u_ws C T n, w ∈ Ts) (hL : i ∈ L) (hKi : K i = kd) (h20 : kd < 18) (hc : vwCl[kd]? = some (C, T, n)) (hk : k < n) (hs : (ksh kd)[k]? = some true) (hlink : Cond.fieldLink own ix ref (T k).2.1 (T k).2.2.1 ∈ Ts) (hsame : (T k).1 = ref) (hdg : decode cc pc = .ok (.getfield ix, 3)) (kk : GG X D ad L (pf dT K N I Rr ad) lv ce sl (pc + 3) (.int (I i k) :: st)) : GG X D ad L (pf dT K N I Rr ad) lv ce sl pc (.ref (ad i) :: st) := by
  obtain ⟨p, l, e, R, s, m, args, below, meth, c, Q, nL2, A, H0⟩ := X
  obtain ⟨hx, hb, hml, hown, hts, hK, hA, rfl, rfl, hlk⟩ := hX
  intro H locs ls hP hD hS hl
  obtain ⟨j0, hj0, hj⟩ := pw_get (ad := ad) (f := pf dT K N I Rr ad) hL
  rw [pf_obj hKi h20] at hj
  exact va_get hx hb hts hin hown hK hP j0 hj hc k hk (hts _ hlink) (fun x h => hsame ▸ h) (by have := kmap_I (ad := ad) (I := I i) (Rr := Rr i) _ 0 _ hs; rw [Nat.zero_add] at this; exact this) hdg (kk H locs ls hP hD hS hl)
theorem g_getR (hX : CX X D tys cc own Ts rm nL) {i : Nat} (kd k : Nat) {ix : Nat} {C ref : String} {T : u_T} {n : Nat} (hin : ∀ w ∈ u_ws C T n, w ∈ Ts) (hL : i ∈ L) (hKi : K i = kd) (h20 : kd < 18) (hc : vwCl[kd]? = some (C, T, n)) (hk : k < n) (hs : (ksh kd)[k]? = some false) (hlink : Cond.fieldLink own ix ref (T k).2.1 (T k).2.2.1 ∈ Ts) (hsame : (T k).1 = ref) (hdg : decode cc pc = .ok (.getfield ix, 3)) (kk : GG X D ad L (pf dT K N I Rr ad) lv ce sl (pc + 3) (va_re ad (Rr i k) :: st)) : GG X D ad L (pf dT K N I Rr ad) lv ce sl pc (.ref (ad i) :: st) := by
  obtain ⟨p, l, e, R, s, m, args, below, meth, c, Q, nL2, A, H0⟩ := X
  obtain ⟨hx, hb, hml, hown, hts, hK, hA, rfl, rfl, hlk⟩ := hX
  intro H locs ls hP hD hS hl
  obtain ⟨j0, hj0, hj⟩ := pw_get (ad := ad) (f := pf dT K N I Rr ad) hL
  rw [pf_obj hKi h20] at hj
  exact va_get hx hb hts hin hown hK hP j0 hj hc k hk (hts _ hlink) (fun x h => hsame ▸ h) (by have := kmap_R (ad := ad) (I := I i) (Rr := Rr i) _ 0 _ hs; rw [Nat.zero_add] at this; exact this) hdg (kk H locs ls hP hD hS hl)
theorem g_getRs (hX : CX X D tys cc own Ts rm nL) {i : Nat} (kd k : Nat) {ix : Nat} {C ref : String} {T : u_T} {n : Nat} (hin : ∀ w ∈ u_ws C T n, w ∈ Ts) (hL : i ∈ L) (hKi : K i = kd) (h20 : kd < 18) (hc : vwCl[kd]? = some (C, T, n)) (hk : k < n) (hs : (ksh kd)[k]? = some false) (hlink : Cond.fieldLink own ix ref (T k).2.1 (T k).2.2.1 ∈ Ts) (hsame : (T k).1 = ref) {j : Nat} (hr : Rr i k = some j) (hdg : decode cc pc = .ok (.getfield ix, 3)) (kk : GG X D ad L (pf dT K N I Rr ad) lv ce sl (pc + 3) (.ref (ad j) :: st)) : GG X D ad L (pf dT K N I Rr ad) lv ce sl pc (.ref (ad i) :: st) := by
  obtain ⟨p, l, e, R, s, m, args, below, meth, c, Q, nL2, A, H0⟩ := X
  obtain ⟨hx, hb, hml, hown, hts, hK, hA, rfl, rfl, hlk⟩ := hX
  intro H locs ls hP hD hS hl
  obtain ⟨j0, hj0, hj⟩ := pw_get (ad := ad) (f := pf dT K N I Rr ad) hL
  rw [pf_obj hKi h20] at hj
  exact va_get hx hb hts hin hown hK hP j0 hj hc k hk (hts _ hlink) (fun x h => hsame ▸ h) (by have := kmap_R (ad := ad) (I := I i) (Rr := Rr i) _ 0 _ hs; rw [Nat.zero_add, hr] at this; exact this) hdg (kk H locs ls hP hD hS hl)
theorem g_putI (hX : CX X D tys cc own Ts rm nL) {i : Nat} (kd k : Nat) {ix : Nat} {C ref : String} {T : u_T} {n : Nat} (hin : ∀ w ∈ u_ws C T n, w ∈ Ts) (hL : i ∈ L) (hKi : K i = kd) (h20 : kd < 18) (hc : vwCl[kd]? = some (C, T, n)) (hk : k < n) (hs : (ksh kd)[k]? = some true) (hlink : Cond.fieldLink own ix ref (T k).2.1 (T k).2.2.1 ∈ Ts) (hsame : (T k).1 = ref) {ty0 : Nat → FieldType} (hty : ∀ k, k < n → parseFieldDescriptor (T k).2.2.1 = some (ty0 k)) (hnm : ∀ a, a < n → ∀ b, b < n → a ≠ b → (T a).2.1 ≠ (T b).2.1) (hfin : (T k).2.2.2 = false) {ty : FieldType} (hd : parseFieldDescriptor (T k).2.2.1 = some ty) {x : Int32} (hn : narrow ty (.int x) = .int x) (hfit : fits ty (.int x) = true) (hdg : decode cc pc = .ok (.putfield ix, 3)) (kk : GG X D ad L (pf dT K N (up2 I i k x) Rr ad) lv ce sl (pc + 3) st) : GG X D ad L (pf dT K N I Rr ad) lv ce sl pc (.int x :: .ref (ad i) :: st) := by
  obtain ⟨p, l, e, R, s, m, args, below, meth, c, Q, nL2, A, H0⟩ := X
  obtain ⟨hx, hb, hml, hown, hts, hK, hA, rfl, rfl, hlk⟩ := hX
  intro H locs ls hP hD hS hl
  obtain ⟨j0, hj0, hj⟩ := pw_get (ad := ad) (f := pf dT K N I Rr ad) hL
  have hj2 := hj
  rw [pf_obj hKi h20] at hj2
  have hle : k < (kmap ad (I i) (Rr i) (ksh kd) 0).length := by rw [kmap_len]; exact (List.getElem?_eq_some_iff.mp hs).1
  refine va_put hx hb hts hin ty0 hty hnm hown hK hP hD hS j0 hj2 hc k hk (hts _ hlink) (fun x h => hsame ▸ h) hfin hd hn hfit hle hdg (fun H1 locs1 hP1 hD1 hS1 => ?_)
  rw [pw_set hD hj0, pf_putI hKi h20 hs] at hP1 hD1
  exact kk H1 locs1 ls hP1 hD1 hS1 hl
theorem g_putR (hX : CX X D tys cc own Ts rm nL) {i : Nat} (kd k : Nat) {ix : Nat} {C ref : String} {T : u_T} {n : Nat} (hin : ∀ w ∈ u_ws C T n, w ∈ Ts) (hL : i ∈ L) (hKi : K i = kd) (h20 : kd < 18) (hc : vwCl[kd]? = some (C, T, n)) (hk : k < n) (hs : (ksh kd)[k]? = some false) (hlink : Cond.fieldLink own ix ref (T k).2.1 (T k).2.2.1 ∈ Ts) (hsame : (T k).1 = ref) {ty0 : Nat → FieldType} (hty : ∀ k, k < n → parseFieldDescriptor (T k).2.2.1 = some (ty0 k)) (hnm : ∀ a, a < n → ∀ b, b < n → a ≠ b → (T a).2.1 ≠ (T b).2.1) (hfin : (T k).2.2.2 = false) {ty : FieldType} (hd : parseFieldDescriptor (T k).2.2.1 = some ty) {x : Option Nat} {v : Value} (hv : v = va_re ad x) (hn : narrow ty v = v) (hfit : fits ty v = true) (hdg : decode cc pc = .ok (.putfield ix, 3)) (kk : GG X D ad L (pf dT K N I (up2 Rr i k x) ad) lv ce sl (pc + 3) st) : GG X D ad L (pf dT K N I Rr ad) lv ce sl pc (v :: .ref (ad i) :: st) := by
  obtain ⟨p, l, e, R, s, m, args, below, meth, c, Q, nL2, A, H0⟩ := X
  obtain ⟨hx, hb, hml, hown, hts, hK, hA, rfl, rfl, hlk⟩ := hX
  intro H locs ls hP hD hS hl
  obtain ⟨j0, hj0, hj⟩ := pw_get (ad := ad) (f := pf dT K N I Rr ad) hL
  have hj2 := hj
  rw [pf_obj hKi h20] at hj2
  have hle : k < (kmap ad (I i) (Rr i) (ksh kd) 0).length := by rw [kmap_len]; exact (List.getElem?_eq_some_iff.mp hs).1
  refine va_put hx hb hts hin ty0 hty hnm hown hK hP hD hS j0 hj2 hc k hk (hts _ hlink) (fun x h => hsame ▸ h) hfin hd hn hfit hle hdg (fun H1 locs1 hP1 hD1 hS1 => ?_)
  rw [hv, pw_set hD hj0, pf_putR hKi h20 hs] at hP1 hD1
  exact kk H1 locs1 ls hP1 hD1 hS1 hl
theorem g_iald (hX : CX X D tys cc own Ts rm nL) {i : Nat} {x : Int32} (hT : tys = tyl dT) (hL : i ∈ L) (hKi : K i = 20) (hi : vp_in x (N i)) (hdg : decode cc pc = .ok (.iaload, 1)) (kk : GG X D ad L (pf dT K N I Rr ad) lv ce sl (pc + 1) (.int (I i x.toNatClampNeg) :: st)) : GG X D ad L (pf dT K N I Rr ad) lv ce sl pc (.int x :: .ref (ad i) :: st) := by
  obtain ⟨p, l, e, R, s, m, args, below, meth, c, Q, nL2, A, H0⟩ := X
  obtain ⟨hx, hb, hml, hown, hts, hK, hA, rfl, rfl, hlk⟩ := hX
  intro H locs ls hP hD hS hl
  obtain ⟨j0, hj0, hj⟩ := pw_get (ad := ad) (f := pf dT K N I Rr ad) hL
  rw [pf_ia hKi (by omega)] at hj
  subst hT
  exact va_iald hx hb hK hP j0 0 hj rfl hi hdg (kk H locs ls hP hD hS hl)
theorem g_bald (hX : CX X D tys cc own Ts rm nL) {i : Nat} {x : Int32} (hT : tys = tyl dT) (hL : i ∈ L) (hKi : K i = 18) (hi : vp_in x (N i)) (hdg : decode cc pc = .ok (.baload, 1)) (kk : GG X D ad L (pf dT K N I Rr ad) lv ce sl (pc + 1) (.int (I i x.toNatClampNeg) :: st)) : GG X D ad L (pf dT K N I Rr ad) lv ce sl pc (.int x :: .ref (ad i) :: st) := by
  obtain ⟨p, l, e, R, s, m, args, below, meth, c, Q, nL2, A, H0⟩ := X
  obtain ⟨hx, hb, hml, hown, hts, hK, hA, rfl, rfl, hlk⟩ := hX
  intro H locs ls hP hD hS hl
  obtain ⟨j0, hj0, hj⟩ := pw_get (ad := ad) (f := pf dT K N I Rr ad) hL
  rw [pf_ia hKi (by omega)] at hj
  subst hT
  exact va_bald hx hb hK hP j0 1 hj rfl hi hdg (kk H locs ls hP hD hS hl)
theorem g_cald (hX : CX X D tys cc own Ts rm nL) {i : Nat} {x : Int32} (hT : tys = tyl dT) (hL : i ∈ L) (hKi : K i = 19) (hi : vp_in x (N i)) (hdg : decode cc pc = .ok (.caload, 1)) (kk : GG X D ad L (pf dT K N I Rr ad) lv ce sl (pc + 1) (.int (I i x.toNatClampNeg) :: st)) : GG X D ad L (pf dT K N I Rr ad) lv ce sl pc (.int x :: .ref (ad i) :: st) := by
  obtain ⟨p, l, e, R, s, m, args, below, meth, c, Q, nL2, A, H0⟩ := X
  obtain ⟨hx, hb, hml, hown, hts, hK, hA, rfl, rfl, hlk⟩ := hX
  intro H locs ls hP hD hS hl
  obtain ⟨j0, hj0, hj⟩ := pw_get (ad := ad) (f := pf dT K N I Rr ad) hL
  rw [pf_ia hKi (by omega)] at hj
  subst hT
  exact va_cald hx hb hK hP j0 4 hj rfl hi hdg (kk H locs ls hP hD hS hl)
theorem g_iast (hX : CX X D tys cc own Ts rm nL) {i : Nat} {x v : Int32} (hT : tys = tyl dT) (hL : i ∈ L) (hKi : K i = 20) (hi : vp_in x (N i)) (hdg : decode cc pc = .ok (.iastore, 1)) (kk : GG X D ad L (pf dT K N (up2 I i x.toNatClampNeg v) Rr ad) lv ce sl (pc + 1) st) : GG X D ad L (pf dT K N I Rr ad) lv ce sl pc (.int v :: .int x :: .ref (ad i) :: st) := by
  obtain ⟨p, l, e, R, s, m, args, below, meth, c, Q, nL2, A, H0⟩ := X
  obtain ⟨hx, hb, hml, hown, hts, hK, hA, rfl, rfl, hlk⟩ := hX
  intro H locs ls hP hD hS hl
  obtain ⟨j0, hj0, hj⟩ := pw_get (ad := ad) (f := pf dT K N I Rr ad) hL
  have hj2 := hj
  rw [pf_ia hKi (by omega)] at hj2
  subst hT
  refine va_iast hx hb hK hP hD hS j0 0 hj2 rfl hi hdg (fun H1 locs1 hP1 hD1 hS1 => ?_)
  rw [pw_set hD hj0, pf_stI hKi (by omega)] at hP1 hD1
  exact kk H1 locs1 ls hP1 hD1 hS1 hl
theorem g_bast (hX : CX X D tys cc own Ts rm nL) {i : Nat} {x v : Int32} (hT : tys = tyl dT) (hL : i ∈ L) (hKi : K i = 18) (hi : vp_in x (N i)) (hdg : decode cc pc = .ok (.bastore, 1)) (kk : GG X D ad L (pf dT K N (up2 I i x.toNatClampNeg (vp_nar .byte v)) Rr ad) lv ce sl (pc + 1) st) : GG X D ad L (pf dT K N I Rr ad) lv ce sl pc (.int v :: .int x :: .ref (ad i) :: st) := by
  obtain ⟨p, l, e, R, s, m, args, below, meth, c, Q, nL2, A, H0⟩ := X
  obtain ⟨hx, hb, hml, hown, hts, hK, hA, rfl, rfl, hlk⟩ := hX
  intro H locs ls hP hD hS hl
  obtain ⟨j0, hj0, hj⟩ := pw_get (ad := ad) (f := pf dT K N I Rr ad) hL
  have hj2 := hj
  rw [pf_ia hKi (by omega)] at hj2
  subst hT
  refine va_bast hx hb hK hP hD hS j0 1 hj2 rfl hi hdg (fun H1 locs1 hP1 hD1 hS1 => ?_)
  rw [pw_set hD hj0, pf_stI hKi (by omega)] at hP1 hD1
  exact kk H1 locs1 ls hP1 hD1 hS1 hl
theorem g_cast (hX : CX X D tys cc own Ts rm nL) {i : Nat} {x v : Int32} (hT : tys = tyl dT) (hL : i ∈ L) (hKi : K i = 19) (hi : vp_in x (N i)) (hdg : decode cc pc = .ok (.castore, 1)) (kk : GG X D ad L (pf dT K N (up2 I i x.toNatClampNeg (vp_nar .char v)) Rr ad) lv ce sl (pc + 1) st) : GG X D ad L (pf dT K N I Rr ad) lv ce sl pc (.int v :: .int x :: .ref (ad i) :: st) := by
  obtain ⟨p, l, e, R, s, m, args, below, meth, c, Q, nL2, A, H0⟩ := X
  obtain ⟨hx, hb, hml, hown, hts, hK, hA, rfl, rfl, hlk⟩ := hX
  intro H locs ls hP hD hS hl
  obtain ⟨j0, hj0, hj⟩ := pw_get (ad := ad) (f := pf dT K N I Rr ad) hL
  have hj2 := hj
  rw [pf_ia hKi (by omega)] at hj2
  subst hT
  refine va_cast hx hb hK hP hD hS j0 4 hj2 rfl hi hdg (fun H1 locs1 hP1 hD1 hS1 => ?_)
  rw [pw_set hD hj0, pf_stI hKi (by omega)] at hP1 hD1
  exact kk H1 locs1 ls hP1 hD1 hS1 hl
theorem g_aald22 (hX : CX X D tys cc own Ts rm nL) {i : Nat} {x : Int32} (hT : tys = tyl dT) (hL : i ∈ L) (hKi : K i = 22) (hi : vp_in x (N i)) (hdg : decode cc pc = .ok (.aaload, 1)) (kk : GG X D ad L (pf dT K N I Rr ad) lv ce sl (pc + 1) (va_re ad (Rr i x.toNatClampNeg) :: st)) : GG X D ad L (pf dT K N I Rr ad) lv ce sl pc (.int x :: .ref (ad i) :: st) := by
  obtain ⟨p, l, e, R, s, m, args, below, meth, c, Q, nL2, A, H0⟩ := X
  obtain ⟨hx, hb, hml, hown, hts, hK, hA, rfl, rfl, hlk⟩ := hX
  intro H locs ls hP hD hS hl
  obtain ⟨j0, hj0, hj⟩ := pw_get (ad := ad) (f := pf dT K N I Rr ad) hL
  rw [pf_ra hKi (by omega)] at hj
  subst hT
  exact va_aldq hx hb hK hP j0 2 hj rfl hi hdg (kk H locs ls hP hD hS hl)
theorem g_aast22 (hX : CX X D tys cc own Ts rm nL) {i v : Nat} {x : Int32} (hT : tys = tyl dT) (hL : i ∈ L) (hKi : K i = 22) (hLv : v ∈ L) (hKv : K v = 5) (hi : vp_in x (N i)) (hdg : decode cc pc = .ok (.aastore, 1)) (kk : GG X D ad L (pf dT K N I (up2 Rr i x.toNatClampNeg (some v)) ad) lv ce sl (pc + 1) st) : GG X D ad L (pf dT K N I Rr ad) lv ce sl pc (.ref (ad v) :: .int x :: .ref (ad i) :: st) := by
  obtain ⟨p, l, e, R, s, m, args, below, meth, c, Q, nL2, A, H0⟩ := X
  obtain ⟨hx, hb, hml, hown, hts, hK, hA, rfl, rfl, hlk⟩ := hX
  intro H locs ls hP hD hS hl
  obtain ⟨j0, hj0, hj⟩ := pw_get (ad := ad) (f := pf dT K N I Rr ad) hL
  have hj2 := hj
  rw [pf_ra hKi (by omega)] at hj2
  obtain ⟨jv, hjv, hv⟩ := pw_get (ad := ad) (f := pf dT K N I Rr ad) hLv
  rw [pf_obj hKv (by omega)] at hv
  subst hT
  refine va_astq hx hb hK hP hD hS j0 2 jv 5 hj2 rfl hv rfl hi hdg (fun H1 locs1 hP1 hD1 hS1 => ?_)
  rw [pw_set hD hj0, pf_stR hKi (by omega)] at hP1 hD1
  exact kk H1 locs1 ls hP1 hD1 hS1 hl
theorem g_aald23 (hX : CX X D tys cc own Ts rm nL) {i : Nat} {x : Int32} (hT : tys = tyl dT) (hL : i ∈ L) (hKi : K i = 23) (hi : vp_in x (N i)) (hdg : decode cc pc = .ok (.aaload, 1)) (kk : GG X D ad L (pf dT K N I Rr ad) lv ce sl (pc + 1) (va_re ad (Rr i x.toNatClampNeg) :: st)) : GG X D ad L (pf dT K N I Rr ad) lv ce sl pc (.int x :: .ref (ad i) :: st) := by
  obtain ⟨p, l, e, R, s, m, args, below, meth, c, Q, nL2, A, H0⟩ := X
  obtain ⟨hx, hb, hml, hown, hts, hK, hA, rfl, rfl, hlk⟩ := hX
  intro H locs ls hP hD hS hl
  obtain ⟨j0, hj0, hj⟩ := pw_get (ad := ad) (f := pf dT K N I Rr ad) hL
  rw [pf_ra hKi (by omega)] at hj
  subst hT
  exact va_aldq hx hb hK hP j0 3 hj rfl hi hdg (kk H locs ls hP hD hS hl)
theorem g_aast23 (hX : CX X D tys cc own Ts rm nL) {i v : Nat} {x : Int32} (hT : tys = tyl dT) (hL : i ∈ L) (hKi : K i = 23) (hLv : v ∈ L) (hKv : K v = 9) (hi : vp_in x (N i)) (hdg : decode cc pc = .ok (.aastore, 1)) (kk : GG X D ad L (pf dT K N I (up2 Rr i x.toNatClampNeg (some v)) ad) lv ce sl (pc + 1) st) : GG X D ad L (pf dT K N I Rr ad) lv ce sl pc (.ref (ad v) :: .int x :: .ref (ad i) :: st) := by
  obtain ⟨p, l, e, R, s, m, args, below, meth, c, Q, nL2, A, H0⟩ := X
  obtain ⟨hx, hb, hml, hown, hts, hK, hA, rfl, rfl, hlk⟩ := hX
  intro H locs ls hP hD hS hl
  obtain ⟨j0, hj0, hj⟩ := pw_get (ad := ad) (f := pf dT K N I Rr ad) hL
  have hj2 := hj
  rw [pf_ra hKi (by omega)] at hj2
  obtain ⟨jv, hjv, hv⟩ := pw_get (ad := ad) (f := pf dT K N I Rr ad) hLv
  rw [pf_obj hKv (by omega)] at hv
  subst hT
  refine va_astq hx hb hK hP hD hS j0 3 jv 9 hj2 rfl hv rfl hi hdg (fun H1 locs1 hP1 hD1 hS1 => ?_)
  rw [pw_set hD hj0, pf_stR hKi (by omega)] at hP1 hD1
  exact kk H1 locs1 ls hP1 hD1 hS1 hl
theorem g_alen20 (hX : CX X D tys cc own Ts rm nL) {i : Nat} (hT : tys = tyl dT) (v : Int32) (hL : i ∈ L) (hKi : K i = 20) (hv : Int32.ofNat (N i) = v) (hdg : decode cc pc = .ok (.arraylength, 1)) (kk : GG X D ad L (pf dT K N I Rr ad) lv ce sl (pc + 1) (.int v :: st)) : GG X D ad L (pf dT K N I Rr ad) lv ce sl pc (.ref (ad i) :: st) := by
  obtain ⟨p, l, e, R, s, m, args, below, meth, c, Q, nL2, A, H0⟩ := X
  obtain ⟨hx, hb, hml, hown, hts, hK, hA, rfl, rfl, hlk⟩ := hX
  intro H locs ls hP hD hS hl
  obtain ⟨j0, hj0, hj⟩ := pw_get (ad := ad) (f := pf dT K N I Rr ad) hL
  rw [pf_ia hKi (by omega)] at hj
  subst hT
  exact va_alen hx hb hK hP j0 0 hj rfl hv hdg (kk H locs ls hP hD hS hl)
theorem g_alen18 (hX : CX X D tys cc own Ts rm nL) {i : Nat} (hT : tys = tyl dT) (v : Int32) (hL : i ∈ L) (hKi : K i = 18) (hv : Int32.ofNat (N i) = v) (hdg : decode cc pc = .ok (.arraylength, 1)) (kk : GG X D ad L (pf dT K N I Rr ad) lv ce sl (pc + 1) (.int v :: st)) : GG X D ad L (pf dT K N I Rr ad) lv ce sl pc (.ref (ad i) :: st) := by
  obtain ⟨p, l, e, R, s, m, args, below, meth, c, Q, nL2, A, H0⟩ := X
  obtain ⟨hx, hb, hml, hown, hts, hK, hA, rfl, rfl, hlk⟩ := hX
  intro H locs ls hP hD hS hl
  obtain ⟨j0, hj0, hj⟩ := pw_get (ad := ad) (f := pf dT K N I Rr ad) hL
  rw [pf_ia hKi (by omega)] at hj
  subst hT
  exact va_alen hx hb hK hP j0 1 hj rfl hv hdg (kk H locs ls hP hD hS hl)
theorem g_alen19 (hX : CX X D tys cc own Ts rm nL) {i : Nat} (hT : tys = tyl dT) (v : Int32) (hL : i ∈ L) (hKi : K i = 19) (hv : Int32.ofNat (N i) = v) (hdg : decode cc pc = .ok (.arraylength, 1)) (kk : GG X D ad L (pf dT K N I Rr ad) lv ce sl (pc + 1) (.int v :: st)) : GG X D ad L (pf dT K N I Rr ad) lv ce sl pc (.ref (ad i) :: st) := by
  obtain ⟨p, l, e, R, s, m, args, below, meth, c, Q, nL2, A, H0⟩ := X
  obtain ⟨hx, hb, hml, hown, hts, hK, hA, rfl, rfl, hlk⟩ := hX
  intro H locs ls hP hD hS hl
  obtain ⟨j0, hj0, hj⟩ := pw_get (ad := ad) (f := pf dT K N I Rr ad) hL
  rw [pf_ia hKi (by omega)] at hj
  subst hT
  exact va_alen hx hb hK hP j0 4 hj rfl hv hdg (kk H locs ls hP hD hS hl)
theorem g_alen22 (hX : CX X D tys cc own Ts rm nL) {i : Nat} (hT : tys = tyl dT) (v : Int32) (hL : i ∈ L) (hKi : K i = 22) (hv : Int32.ofNat (N i) = v) (hdg : decode cc pc = .ok (.arraylength, 1)) (kk : GG X D ad L (pf dT K N I Rr ad) lv ce sl (pc + 1) (.int v :: st)) : GG X D ad L (pf dT K N I Rr ad) lv ce sl pc (.ref (ad i) :: st) := by
  obtain ⟨p, l, e, R, s, m, args, below, meth, c, Q, nL2, A, H0⟩ := X
  obtain ⟨hx, hb, hml, hown, hts, hK, hA, rfl, rfl, hlk⟩ := hX
  intro H locs ls hP hD hS hl
  obtain ⟨j0, hj0, hj⟩ := pw_get (ad := ad) (f := pf dT K N I Rr ad) hL
  rw [pf_ra hKi (by omega)] at hj
  subst hT
  exact va_alen hx hb hK hP j0 2 hj rfl hv hdg (kk H locs ls hP hD hS hl)
theorem g_alen23 (hX : CX X D tys cc own Ts rm nL) {i : Nat} (hT : tys = tyl dT) (v : Int32) (hL : i ∈ L) (hKi : K i = 23) (hv : Int32.ofNat (N i) = v) (hdg : decode cc pc = .ok (.arraylength, 1)) (kk : GG X D ad L (pf dT K N I Rr ad) lv ce sl (pc + 1) (.int v :: st)) : GG X D ad L (pf dT K N I Rr ad) lv ce sl pc (.ref (ad i) :: st) := by
  obtain ⟨p, l, e, R, s, m, args, below, meth, c, Q, nL2, A, H0⟩ := X
  obtain ⟨hx, hb, hml, hown, hts, hK, hA, rfl, rfl, hlk⟩ := hX
  intro H locs ls hP hD hS hl
  obtain ⟨j0, hj0, hj⟩ := pw_get (ad := ad) (f := pf dT K N I Rr ad) hL
  rw [pf_ra hKi (by omega)] at hj
  subst hT
  exact va_alen hx hb hK hP j0 3 hj rfl hv hdg (kk H locs ls hP hD hS hl)
end GGR
