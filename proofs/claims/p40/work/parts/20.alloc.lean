abbrev UA : Type := (Nat → Nat) × List Nat × (Nat → va_E)
def AW (D : va_G) (tys : List (ClassId × FieldType)) (A : Nat → Prop) : UA → State → Prop := fun u t => va_P D vwCl (pw u.1 u.2.1 u.2.2) t.heap ∧ va_K D vwCl tys t ∧ va_D A (pw u.1 u.2.1 u.2.2)
theorem kmap_ad {ad ad2 : Nat → Nat} {I : Nat → Int32} {Rr : Nat → Option Nat} (h : ∀ k j, Rr k = some j → ad j = ad2 j) : ∀ (bs : List Bool) (k : Nat), kmap ad I Rr bs k = kmap ad2 I Rr bs k
  | [], _ => rfl
  | b :: bs, k => by
    simp only [kmap]
    rw [kmap_ad h bs (k + 1)]
    cases b with
    | true => rfl
    | false =>
      have e : va_re ad (Rr k) = va_re ad2 (Rr k) := by
        unfold va_re
        cases hr : Rr k with
        | none => rfl
        | some j => simp only [Option.map_some]; rw [h k j hr]
      simp only [e]
theorem pf_ad {dT : Nat → ClassId} {K N : Nat → Nat} {I : Nat → Nat → Int32} {Rr : Nat → Nat → Option Nat} {ad ad2 : Nat → Nat} {i : Nat} (h : ∀ k j, Rr i k = some j → ad j = ad2 j) : pf dT K N I Rr ad i = pf dT K N I Rr ad2 i := by
  unfold pf
  rw [kmap_ad h]
  have e : (fun j => (Rr i j).map ad) = (fun j => (Rr i j).map ad2) := by
    funext j
    cases hr : Rr i j with
    | none => rfl
    | some q => simp only [Option.map_some]; rw [h j q hr]
  rw [e]
theorem pw_new {dT : Nat → ClassId} {K N : Nat → Nat} {I : Nat → Nat → Int32} {Rr : Nat → Nat → Option Nat} {ad : Nat → Nat} {L : List Nat} {n q : Nat} {e : va_E} (hn : n ∉ L) (hR : ∀ i ∈ L, ∀ k, Rr i k ≠ some n) (he : pf dT K N I Rr (va_up ad n q) n = e) : pw ad L (pf dT K N I Rr ad) ++ [(q, e)] = pw (va_up ad n q) (L ++ [n]) (pf dT K N I Rr (va_up ad n q)) := by
  unfold pw
  rw [List.map_append]
  congr 1
  · apply List.map_congr_left
    intro i hi
    have h1 : i ≠ n := fun h => hn (h ▸ hi)
    rw [va_up_ne _ _ h1, pf_ad (ad2 := va_up ad n q) (fun k j hj => (va_up_ne _ _ (fun h => hR i hi k (hj.trans (congrArg some h)))).symm)]
  · simp only [List.map_cons, List.map_nil]
    rw [he, show va_up ad n q n = q from if_pos rfl]
theorem tyl_K {D : va_G} {dT : Nat → ClassId} {s : State} {k : Nat} {q : ClassId × FieldType} (hK : va_K D vwCl (tyl dT) s) (h : (tyl dT)[k]? = some q) : va_RA s q.1 q.2 := (hK.2 k q h).2
theorem pw_P {D : va_G} {ad : Nat → Nat} {L L2 : List Nat} {f : Nat → va_E} {H : Heap} (h : va_P D vwCl (pw ad L f) H) (hs : ∀ i ∈ L2, i ∈ L) : va_P D vwCl (pw ad L2 f) H := by
  intro k q hk
  obtain ⟨i, hi, rfl⟩ := pw_at hk
  obtain ⟨j, hj, hq⟩ := pw_get (ad := ad) (f := f) (hs i (List.mem_of_getElem? hi))
  exact h j _ hq
theorem pw_D {A : Nat → Prop} {ad : Nat → Nat} {L L2 : List Nat} {f : Nat → va_E} (h : va_D A (pw ad L f)) (hs : ∀ i ∈ L2, i ∈ L) (hn : L2.Nodup) : va_D A (pw ad L2 f) := by
  refine ⟨fun a b x y ha hb hxy => ?_, fun k q hk => ?_⟩
  · obtain ⟨i, hi, rfl⟩ := pw_at ha
    obtain ⟨j, hj, rfl⟩ := pw_at hb
    obtain ⟨p1, e1, e2⟩ := pw_get (ad := ad) (f := f) (hs i (List.mem_of_getElem? hi))
    obtain ⟨p2, e3, e4⟩ := pw_get (ad := ad) (f := f) (hs j (List.mem_of_getElem? hj))
    have e5 := h.1 p1 p2 _ _ e2 e4 hxy
    subst e5
    have e6 : i = j := Option.some.inj (e1.symm.trans e3)
    subst e6
    exact (List.getElem?_inj (List.getElem?_eq_some_iff.mp hi).1 hn).mp (hi.trans hj.symm)
  · obtain ⟨i, hi, rfl⟩ := pw_at hk
    obtain ⟨j, hj, hq⟩ := pw_get (ad := ad) (f := f) (hs i (List.mem_of_getElem? hi))
    exact h.2 j _ hq

section GGN
variable {X : EN} {D : va_G} {tys : List (ClassId × FieldType)} {cc : ByteArray} {own : String} {Ts : List Cond} {rm : Room} {nL : Nat} {ad : Nat → Nat} {L : List Nat} {f : Nat → va_E} {lv : List (Nat × Value)} {ce sl pc : Nat} {st : List Value}
theorem g_L {L2 : List Nat} (hs : ∀ i ∈ L2, i ∈ L) (hn : L2.Nodup) (hk : GG X D ad L2 f lv ce sl pc st) : GG X D ad L f lv ce sl pc st := by
  obtain ⟨p, l, e, R, s, m, args, below, meth, c, Q, nL2, A, H0⟩ := X
  intro H locs ls hP hD hS hl
  exact hk H locs ls (pw_P hP hs) (pw_D hD hs hn) hS hl
theorem g_ad {ad2 : Nat → Nat} {f2 : Nat → va_E} (h : ∀ i ∈ L, ad i = ad2 i) (hf : ∀ i ∈ L, f i = f2 i) (hk : GG X D ad2 L f2 lv ce sl pc st) : GG X D ad L f lv ce sl pc st := by
  obtain ⟨p, l, e, R, s, m, args, below, meth, c, Q, nL2, A, H0⟩ := X
  intro H locs ls hP hD hS hl
  have e : pw ad L f = pw ad2 L f2 := by
    unfold pw
    apply List.map_congr_left
    intro i hi
    rw [h i hi, hf i hi]
  rw [e] at hP hD
  exact hk H locs ls hP hD hS hl
theorem g_lvs {lv2 : List (Nat × Value)} {st2 : List Value} (h : lv = lv2) (h2 : st = st2) (hk : GG X D ad L f lv2 ce sl pc st2) : GG X D ad L f lv ce sl pc st := h ▸ h2 ▸ hk
theorem g_objInit (hX : CX X D tys cc own Ts rm nL) {ix b : Nat} (h1 : Cond.methodLink own ix objectInit ∈ Ts) (h2 : Cond.instanceMethod objectInit ∈ Ts) (h3 : Cond.code objectInit ⟨#[0xb1]⟩ 1 none ∈ Ts) (hdg : decode cc pc = .ok (.invokespecial ix, 3)) (hf : 1 ≤ rm.frames) (hlo : 12 ≤ rm.locals) (hk : GG X D ad L f lv ce sl (pc + 3) []) : GG X D ad L f lv ce sl pc [.ref b] := by
  obtain ⟨p, l, e, R, s, m, args, below, meth, c, Q, nL2, A, H0⟩ := X
  obtain ⟨hx, hb, hml, hown, hts, hK, hA, rfl, rfl, hlk⟩ := hX
  intro H locs ls hP hD hS hl
  refine W.objInit hx hb hown (hts _ h1) (hts _ h2) (hts _ h3) rfl (hl.1.trans hml.symm) rfl hdg hf hlo ?_
  exact W.eq (g2 := F0 m (pc + 3) ls []) rfl (hk H locs ls hP hD hS hl)
variable {dT : Nat → ClassId} {K N : Nat → Nat} {I : Nat → Nat → Int32} {Rr : Nat → Nat → Option Nat}
theorem g_putRF (hX : CX X D tys cc own Ts rm nL) (hW : WN X "<init>") {i : Nat} (kd k : Nat) {ix : Nat} {C ref : String} {T : u_T} {n : Nat} (hin : ∀ w ∈ u_ws C T n, w ∈ Ts) (hL : i ∈ L) (hKi : K i = kd) (h20 : kd < 18) (hc : vwCl[kd]? = some (C, T, n)) (hk : k < n) (hs : (ksh kd)[k]? = some false) (hlink : Cond.fieldLink own ix ref (T k).2.1 (T k).2.2.1 ∈ Ts) (hsame : (T k).1 = ref) {ty0 : Nat → FieldType} (hty : ∀ k, k < n → parseFieldDescriptor (T k).2.2.1 = some (ty0 k)) (hnm : ∀ a, a < n → ∀ b, b < n → a ≠ b → (T a).2.1 ≠ (T b).2.1) (hfin : (T k).2.2.2 = true) (hdecl : (T k).1 = own) {ty : FieldType} (hd : parseFieldDescriptor (T k).2.2.1 = some ty) {x : Option Nat} {v : Value} (hv : v = va_re ad x) (hn : narrow ty v = v) (hfit : fits ty v = true) (hdg : decode cc pc = .ok (.putfield ix, 3)) (kk : GG X D ad L (pf dT K N I (up2 Rr i k x) ad) lv ce sl (pc + 3) st) : GG X D ad L (pf dT K N I Rr ad) lv ce sl pc (v :: .ref (ad i) :: st) := by
  obtain ⟨p, l, e, R, s, m, args, below, meth, c, Q, nL2, A, H0⟩ := X
  obtain ⟨hx, hb, hml, hown, hts, hK, hA, rfl, rfl, hlk⟩ := hX
  intro H locs ls hP hD hS hl
  obtain ⟨j0, hj0, hj⟩ := pw_get (ad := ad) (f := pf dT K N I Rr ad) hL
  have hj2 := hj
  rw [pf_obj hKi h20] at hj2
  have hle : k < (kmap ad (I i) (Rr i) (ksh kd) 0).length := by rw [kmap_len]; exact (List.getElem?_eq_some_iff.mp hs).1
  refine va_putF hx hb hts hin ty0 hty hnm hown hK hP hD hS j0 hj2 hc k hk (hts _ hlink) (fun x h => hsame ▸ h) hfin hW hdecl hd hn hfit hle hdg (fun H1 locs1 hP1 hD1 hS1 => ?_)
  rw [hv, pw_set hD hj0, pf_putR hKi h20 hs] at hP1 hD1
  exact kk H1 locs1 ls hP1 hD1 hS1 hl
theorem g_new (hX : CX X D tys cc own Ts rm nL) (kd : Nat) (n : Nat) (hn : n ∉ L) (hR : ∀ i ∈ L, ∀ k, Rr i k ≠ some n) (hKn : K n = kd) (h20 : kd < 18) (hIn : ∀ k, I n k = 0) (hRn : ∀ k, Rr n k = none) {ix m : Nat} {C : String} {T : u_T} {ty0 : Nat → FieldType} (hin : ∀ w ∈ u_ws C T m, w ∈ Ts) (hty : ∀ k, k < m → parseFieldDescriptor (T k).2.2.1 = some (ty0 k)) (hcl : Cond.classLink own ix C ∈ Ts) (hinst : Cond.instantiable C m ∈ Ts) (hini : Cond.initialized C ∈ Ts) (hc : vwCl[kd]? = some (C, T, m)) (hdef : ∀ j, j < m → defaultValue (ty0 j) = vp_V (kmap (fun x => x) (fun _ => 0) (fun _ => none) (ksh kd) 0) j) (hce : ce + 1 ≤ rm.cells) (hsl : sl + m ≤ rm.slots) (hdg : decode cc pc = .ok (.new ix, 3))
    (kk : ∀ q, GG X D (va_up ad n q) (L ++ [n]) (pf dT K N I Rr (va_up ad n q)) lv (ce + 1) (sl + m) (pc + 3) (.ref (va_up ad n q n) :: st)) : GG X D ad L (pf dT K N I Rr ad) lv ce sl pc st := by
  obtain ⟨p, l, e, R, s, m, args, below, meth, c, Q, nL2, A, H0⟩ := X
  obtain ⟨hx, hb, hml, hown, hts, hK, hA, rfl, rfl, hlk⟩ := hX
  intro H locs ls hP hD hS hl
  refine va_new (ci := kd) hx hb hts hin ty0 hty hown (hts _ hcl) (hts _ hinst) (hts _ hini) hK hP hD hS hA hc hdef hce hsl hdg (fun q H1 hP1 hD1 hS1 => ?_)
  have he : pf dT K N I Rr (va_up ad n q) n = .inr (kd, kmap (fun x => x) (fun _ => 0) (fun _ => none) (ksh kd) 0) := by
    rw [pf_obj hKn h20, kmap_ext (I2 := fun _ => 0) (R2 := fun _ => none) _ _ (fun j _ => hIn j) (fun j _ => hRn j), kmap_ad (ad2 := fun x => x) (fun k j (h : (none : Option Nat) = some j) => nomatch h)]
  rw [pw_new hn hR he] at hP1 hD1
  have := kk q H1 locs ls hP1 hD1 hS1 hl
  rw [show va_up ad n q n = q from if_pos rfl] at this
  exact this
theorem g_newI (hX : CX X D (tyl dT) cc own Ts rm nL) (n : Nat) (hn : n ∉ L) (hR : ∀ i ∈ L, ∀ k, Rr i k ≠ some n) (len : Nat) (hKn : K n = 20) (hNn : N n = len) (hIn : ∀ k, I n k = 0) {x : Int32} (hx9 : x = nI len) (hb9 : len < 100000) (harr : Cond.arrayClass .int ∈ Ts) (hce : ce + 1 ≤ rm.cells) (hsl : sl + len ≤ rm.slots) (hdg : decode cc pc = .ok (.newarray .int, 2))
    (kk : ∀ q, GG X D (va_up ad n q) (L ++ [n]) (pf dT K N I Rr (va_up ad n q)) lv (ce + 1) (sl + len) (pc + 2) (.ref (va_up ad n q n) :: st)) : GG X D ad L (pf dT K N I Rr ad) lv ce sl pc (.int x :: st) := by
  obtain ⟨p, l, e, R, s, m, args, below, meth, c, Q, nL2, A, H0⟩ := X
  obtain ⟨hx, hb, hml, hown, hts, hK, hA, rfl, rfl, hlk⟩ := hX
  intro H locs ls hP hD hS hl
  subst hx9
  refine va_newa (atype := .int) (ty := .int) (N' := len) (a0 := (len, .inl (fun _ => 0))) hx hb (hts _ harr) rfl hK hP hD hS hA (fun cA => rfl) (nI_pos (by omega)) (nI_clamp (by omega)) (by simp only [componentBytes]; omega) hce hsl hdg (fun q cA H1 hK1 hP1 hD1 hS1 => ?_)
  have e1 : cA = dT 20 := by
    have h1 : va_RA s cA .int := (hK1.2 ((tyl dT).length) (cA, .int) (by simp)).2
    have h2 : va_RA s (dT 20) .int := tyl_K (k := 0) hK rfl
    exact Option.some.inj ((show s.vm.findClass _ = some cA from h1).symm.trans (show s.vm.findClass _ = some (dT 20) from h2))
  subst e1
  have he : pf dT K N I Rr (va_up ad n q) n = .inl (dT 20, len, .inl (fun _ => 0)) := by
    rw [pf_ia hKn (by omega), hNn, show I n = fun _ => 0 from funext hIn]
  rw [pw_new hn hR he] at hP1 hD1
  have := kk q H1 locs ls hP1 hD1 hS1 hl
  rw [show va_up ad n q n = q from if_pos rfl] at this
  exact this
theorem g_newB (hX : CX X D (tyl dT) cc own Ts rm nL) (n : Nat) (hn : n ∉ L) (hR : ∀ i ∈ L, ∀ k, Rr i k ≠ some n) (len : Nat) (hKn : K n = 18) (hNn : N n = len) (hIn : ∀ k, I n k = 0) {x : Int32} (hx9 : x = nI len) (hb9 : len < 100000) (harr : Cond.arrayClass .byte ∈ Ts) (hce : ce + 1 ≤ rm.cells) (hsl : sl + len ≤ rm.slots) (hdg : decode cc pc = .ok (.newarray .byte, 2))
    (kk : ∀ q, GG X D (va_up ad n q) (L ++ [n]) (pf dT K N I Rr (va_up ad n q)) lv (ce + 1) (sl + len) (pc + 2) (.ref (va_up ad n q n) :: st)) : GG X D ad L (pf dT K N I Rr ad) lv ce sl pc (.int x :: st) := by
  obtain ⟨p, l, e, R, s, m, args, below, meth, c, Q, nL2, A, H0⟩ := X
  obtain ⟨hx, hb, hml, hown, hts, hK, hA, rfl, rfl, hlk⟩ := hX
  intro H locs ls hP hD hS hl
  subst hx9
  refine va_newa (atype := .byte) (ty := .byte) (N' := len) (a0 := (len, .inl (fun _ => 0))) hx hb (hts _ harr) rfl hK hP hD hS hA (fun cA => rfl) (nI_pos (by omega)) (nI_clamp (by omega)) (by simp only [componentBytes]; omega) hce hsl hdg (fun q cA H1 hK1 hP1 hD1 hS1 => ?_)
  have e1 : cA = dT 18 := by
    have h1 : va_RA s cA .byte := (hK1.2 ((tyl dT).length) (cA, .byte) (by simp)).2
    have h2 : va_RA s (dT 18) .byte := tyl_K (k := 1) hK rfl
    exact Option.some.inj ((show s.vm.findClass _ = some cA from h1).symm.trans (show s.vm.findClass _ = some (dT 18) from h2))
  subst e1
  have he : pf dT K N I Rr (va_up ad n q) n = .inl (dT 18, len, .inl (fun _ => 0)) := by
    rw [pf_ia hKn (by omega), hNn, show I n = fun _ => 0 from funext hIn]
  rw [pw_new hn hR he] at hP1 hD1
  have := kk q H1 locs ls hP1 hD1 hS1 hl
  rw [show va_up ad n q n = q from if_pos rfl] at this
  exact this
theorem g_newC (hX : CX X D (tyl dT) cc own Ts rm nL) (n : Nat) (hn : n ∉ L) (hR : ∀ i ∈ L, ∀ k, Rr i k ≠ some n) (len : Nat) (hKn : K n = 19) (hNn : N n = len) (hIn : ∀ k, I n k = 0) {x : Int32} (hx9 : x = nI len) (hb9 : len < 100000) (harr : Cond.arrayClass .char ∈ Ts) (hce : ce + 1 ≤ rm.cells) (hsl : sl + len ≤ rm.slots) (hdg : decode cc pc = .ok (.newarray .char, 2))
    (kk : ∀ q, GG X D (va_up ad n q) (L ++ [n]) (pf dT K N I Rr (va_up ad n q)) lv (ce + 1) (sl + len) (pc + 2) (.ref (va_up ad n q n) :: st)) : GG X D ad L (pf dT K N I Rr ad) lv ce sl pc (.int x :: st) := by
  obtain ⟨p, l, e, R, s, m, args, below, meth, c, Q, nL2, A, H0⟩ := X
  obtain ⟨hx, hb, hml, hown, hts, hK, hA, rfl, rfl, hlk⟩ := hX
  intro H locs ls hP hD hS hl
  subst hx9
  refine va_newa (atype := .char) (ty := .char) (N' := len) (a0 := (len, .inl (fun _ => 0))) hx hb (hts _ harr) rfl hK hP hD hS hA (fun cA => rfl) (nI_pos (by omega)) (nI_clamp (by omega)) (by simp only [componentBytes]; omega) hce hsl hdg (fun q cA H1 hK1 hP1 hD1 hS1 => ?_)
  have e1 : cA = dT 19 := by
    have h1 : va_RA s cA .char := (hK1.2 ((tyl dT).length) (cA, .char) (by simp)).2
    have h2 : va_RA s (dT 19) .char := tyl_K (k := 4) hK rfl
    exact Option.some.inj ((show s.vm.findClass _ = some cA from h1).symm.trans (show s.vm.findClass _ = some (dT 19) from h2))
  subst e1
  have he : pf dT K N I Rr (va_up ad n q) n = .inl (dT 19, len, .inl (fun _ => 0)) := by
    rw [pf_ia hKn (by omega), hNn, show I n = fun _ => 0 from funext hIn]
  rw [pw_new hn hR he] at hP1 hD1
  have := kk q H1 locs ls hP1 hD1 hS1 hl
  rw [show va_up ad n q n = q from if_pos rfl] at this
  exact this
theorem g_newR22 (hX : CX X D (tyl dT) cc own Ts rm nL) (n : Nat) (hn : n ∉ L) (hR : ∀ i ∈ L, ∀ k, Rr i k ≠ some n) (len : Nat) (hKn : K n = 22) (hNn : N n = len) (hRn : ∀ k, Rr n k = none) {ix : Nat} {x : Int32} (hx9 : x = nI len) (hb9 : len < 100000) (hcl : Cond.classLink own ix "Perforatum$Paper" ∈ Ts) (hover : WB X (Cond.arrayOver (.object "Perforatum$Paper"))) (hce : ce + 1 ≤ rm.cells) (hsl : sl + len ≤ rm.slots) (hdg : decode cc pc = .ok (.anewarray ix, 3))
    (kk : ∀ q, GG X D (va_up ad n q) (L ++ [n]) (pf dT K N I Rr (va_up ad n q)) lv (ce + 1) (sl + len) (pc + 3) (.ref (va_up ad n q n) :: st)) : GG X D ad L (pf dT K N I Rr ad) lv ce sl pc (.int x :: st) := by
  obtain ⟨p, l, e, R, s, m, args, below, meth, c, Q, nL2, A, H0⟩ := X
  obtain ⟨hx, hb, hml, hown, hts, hK, hA, rfl, rfl, hlk⟩ := hX
  intro H locs ls hP hD hS hl
  subst hx9
  refine va_newq (N' := len) hx hb hown (hts _ hcl) (va_AO.of hover) hK hP hD hS hA (nI_pos (by omega)) (nI_clamp (by omega)) (by omega) hce hsl hdg (fun q cA H1 hK1 hP1 hD1 hS1 => ?_)
  have e1 : cA = dT 22 := by
    obtain ⟨-, -, -, -, -, h1⟩ : va_RA s cA (.object "Perforatum$Paper") := (hK1.2 ((tyl dT).length) (cA, .object "Perforatum$Paper") (by simp)).2
    obtain ⟨-, -, -, -, -, h2⟩ : va_RA s (dT 22) (.object "Perforatum$Paper") := tyl_K (k := 2) hK rfl
    exact Option.some.inj (h1.symm.trans h2)
  subst e1
  have he : pf dT K N I Rr (va_up ad n q) n = .inl (dT 22, len, .inr (.inr (.inr (.inr (fun _ => none))))) := by
    rw [pf_ra hKn (by omega), hNn, show (fun j => (Rr n j).map (va_up ad n q)) = fun _ => none from funext (fun j => by rw [hRn j]; rfl)]
  rw [pw_new hn hR he] at hP1 hD1
  have := kk q H1 locs ls hP1 hD1 hS1 hl
  rw [show va_up ad n q n = q from if_pos rfl] at this
  exact this
theorem g_newR23 (hX : CX X D (tyl dT) cc own Ts rm nL) (n : Nat) (hn : n ∉ L) (hR : ∀ i ∈ L, ∀ k, Rr i k ≠ some n) (len : Nat) (hKn : K n = 23) (hNn : N n = len) (hRn : ∀ k, Rr n k = none) {ix : Nat} {x : Int32} (hx9 : x = nI len) (hb9 : len < 100000) (hcl : Cond.classLink own ix "Perforatum$Valve" ∈ Ts) (hover : WB X (Cond.arrayOver (.object "Perforatum$Valve"))) (hce : ce + 1 ≤ rm.cells) (hsl : sl + len ≤ rm.slots) (hdg : decode cc pc = .ok (.anewarray ix, 3))
    (kk : ∀ q, GG X D (va_up ad n q) (L ++ [n]) (pf dT K N I Rr (va_up ad n q)) lv (ce + 1) (sl + len) (pc + 3) (.ref (va_up ad n q n) :: st)) : GG X D ad L (pf dT K N I Rr ad) lv ce sl pc (.int x :: st) := by
  obtain ⟨p, l, e, R, s, m, args, below, meth, c, Q, nL2, A, H0⟩ := X
  obtain ⟨hx, hb, hml, hown, hts, hK, hA, rfl, rfl, hlk⟩ := hX
  intro H locs ls hP hD hS hl
  subst hx9
  refine va_newq (N' := len) hx hb hown (hts _ hcl) (va_AO.of hover) hK hP hD hS hA (nI_pos (by omega)) (nI_clamp (by omega)) (by omega) hce hsl hdg (fun q cA H1 hK1 hP1 hD1 hS1 => ?_)
  have e1 : cA = dT 23 := by
    obtain ⟨-, -, -, -, -, h1⟩ : va_RA s cA (.object "Perforatum$Valve") := (hK1.2 ((tyl dT).length) (cA, .object "Perforatum$Valve") (by simp)).2
    obtain ⟨-, -, -, -, -, h2⟩ : va_RA s (dT 23) (.object "Perforatum$Valve") := tyl_K (k := 3) hK rfl
    exact Option.some.inj (h1.symm.trans h2)
  subst e1
  have he : pf dT K N I Rr (va_up ad n q) n = .inl (dT 23, len, .inr (.inr (.inr (.inr (fun _ => none))))) := by
    rw [pf_ra hKn (by omega), hNn, show (fun j => (Rr n j).map (va_up ad n q)) = fun _ => none from funext (fun j => by rw [hRn j]; rfl)]
  rw [pw_new hn hR he] at hP1 hD1
  have := kk q H1 locs ls hP1 hD1 hS1 hl
  rw [show va_up ad n q n = q from if_pos rfl] at this
  exact this
end GGN
def NI (l : Launch) (y : MethodName) (ws : List Cond) (rm : Room) (D : va_G) (tys : List (ClassId × FieldType)) (ad : Nat → Nat) (L : List Nat) (f : Nat → va_E) (av : List Value) (mc ms : Nat) (xw : State → Prop) (post : Int32 → UA → Prop) : Prop := ∀ sz, Met l y ws rm (va_Pc av (fun U => PP D tys ad L f sz U ∧ xw U)) (va_Qi post (AW D tys (va_A (pw ad L f) sz)) (va_A (pw ad L f) sz)) mc ms (va_A (pw ad L f) sz)
def ENI (X : EN) (D : va_G) (tys : List (ClassId × FieldType)) (ret : Option FieldType) (mc ms : Nat) (post : Int32 → UA → Prop) : Prop := match X with
  | (_, _, _, _, s, _, args, below, meth, _, Q, _, A, H0) => Q = MQ below (va_Qi post (AW D tys A) A) args s mc ms A ∧ meth.sig.returnType = ret ∧ H0 = s.heap
def NV (l : Launch) (y : MethodName) (ws : List Cond) (rm : Room) (D : va_G) (tys : List (ClassId × FieldType)) (ad : Nat → Nat) (L : List Nat) (f : Nat → va_E) (av : List Value) (mc ms : Nat) (xw : State → Prop) (post : UA → Prop) : Prop := ∀ sz, Met l y ws rm (va_Pc av (fun U => PP D tys ad L f sz U ∧ xw U)) (va_Qv post (AW D tys (va_A (pw ad L f) sz)) (va_A (pw ad L f) sz)) mc ms (va_A (pw ad L f) sz)
def ENV (X : EN) (D : va_G) (tys : List (ClassId × FieldType)) (ret : Option FieldType) (mc ms : Nat) (post : UA → Prop) : Prop := match X with
  | (_, _, _, _, s, _, args, below, meth, _, Q, _, A, H0) => Q = MQ below (va_Qv post (AW D tys A) A) args s mc ms A ∧ meth.sig.returnType = ret ∧ H0 = s.heap
def NQ (l : Launch) (y : MethodName) (ws : List Cond) (rm : Room) (D : va_G) (tys : List (ClassId × FieldType)) (ad : Nat → Nat) (L : List Nat) (f : Nat → va_E) (av : List Value) (mc ms : Nat) (xw : State → Prop) (post : Option Nat → UA → Prop) : Prop := ∀ sz, Met l y ws rm (va_Pc av (fun U => PP D tys ad L f sz U ∧ xw U)) (va_Qq post (AW D tys (va_A (pw ad L f) sz)) (va_A (pw ad L f) sz)) mc ms (va_A (pw ad L f) sz)
def ENQ (X : EN) (D : va_G) (tys : List (ClassId × FieldType)) (ret : Option FieldType) (mc ms : Nat) (post : Option Nat → UA → Prop) : Prop := match X with
  | (_, _, _, _, s, _, args, below, meth, _, Q, _, A, H0) => Q = MQ below (va_Qq post (AW D tys A) A) args s mc ms A ∧ meth.sig.returnType = ret ∧ H0 = s.heap
def SX (X : EN) (xw : State → Prop) : Prop := match X with
  | (_, _, _, _, s, _) => xw s
def va_NwX (X : EN) (w : Cond) : Prop := match X with
  | (_, _, _, _, s, _) => va_Nw w s
def xAO (cs : List String) : State → Prop := fun U => ∀ C ∈ cs, va_AO C U
theorem xAO_ok {cs : List String} : (∀ (U V : State), U.vm.Alike V.vm → xAO cs U → xAO cs V) := fun U V h hx C hC => va_AO.moved h (hx C hC)
def xNL (qs : List (String × Nat × MethodName × String)) : State → Prop := fun U => ∀ q ∈ qs, va_Nw (.methodLinkNest q.1 q.2.1 q.2.2.1 q.2.2.2) U
theorem xNL_ok {qs : List (String × Nat × MethodName × String)} : ∀ U V : State, (U.vm = V.vm ∨ U.WarmedH V.vm) → xNL qs U → xNL qs V := fun U V h hx q hq => h.elim (fun h => va_Nw.same rfl h (hx q hq)) (fun h => va_Nw.warmM h (hx q hq))
def xcw : State → Prop := fun U => xAO ["Perforatum$Paper", "Perforatum$Valve"] U ∧ xNL [("Perforatum", 17, yX0_init, "Perforatum"), ("Perforatum", 57, yX1_init, "Perforatum"), ("Perforatum$Player", 11, yX3_init, "Perforatum"), ("Perforatum$Player", 26, yX4_init, "Perforatum")] U
theorem xcw_ok : ∀ U V : State, (U.vm = V.vm ∨ U.WarmedH V.vm) → xcw U → xcw V := fun U V h hx => ⟨xAO_ok U V (h.elim (fun h => h ▸ Vm.Alike.refl U.vm) (fun h => h.alike)) hx.1, xNL_ok U V h hx.2⟩
theorem SX.xAO {X : EN} {C : String} (h : SX X xcw) (hC : C ∈ ["Perforatum$Paper", "Perforatum$Valve"]) : WB X (Cond.arrayOver (.object C)) := va_AO.use (h.1 C hC)
theorem SX.xNL {X : EN} {a : String} {i : Nat} {y : MethodName} {hst : String} (h : SX X xcw) (hq : (a, i, y, hst) ∈ [("Perforatum", 17, yX0_init, "Perforatum"), ("Perforatum", 57, yX1_init, "Perforatum"), ("Perforatum$Player", 11, yX3_init, "Perforatum"), ("Perforatum$Player", 26, yX4_init, "Perforatum")]) : va_NwX X (.methodLinkNest a i y hst) := h.2 _ hq
theorem ni_of {l : Launch} {y : MethodName} {ws ws2 : List Cond} {rm : Room} {D : va_G} {tys : List (ClassId × FieldType)} {ad : Nat → Nat} {L : List Nat} {f : Nat → va_E} {av : List Value} {mc ms : Nat} {xw : State → Prop} {post : Int32 → UA → Prop} {cc : ByteArray} {maxL : Nat} {own : String} (ret : Option FieldType) (lv0 : List (Nat × Value)) (hy : plainName y.cls = true) (ho : y.cls = own) (hw : ws = Cond.code y cc maxL ret :: ws2) (hlv : lv_args 0 av = lv0) (hlen : (lg_sl av).length ≤ maxL)
    (body : ∀ X : EN, CX X D tys cc own ws rm maxL → ENI X D tys ret mc ms post → WN X y.name → SX X xw → GG X D ad L f lv0 0 0 0 []) : NI l y ws rm D tys ad L f av mc ms xw post := by
  subst ho
  intro sz
  refine Met.ofW (cc := cc) (maxL := maxL) (ret := ret) hy hw ?_
  intro p e s m args below meth c s₁ B hml hv
  obtain ⟨rfl, ⟨hsz, hP, hK, hD0⟩, hxw⟩ := hv
  have hts := atoms_spec (ws := ws) B.pre
  have hown : s.vm.findClass y.cls = some m.cls := findClass_of_methodNamed B.named
  have hnm := (name_of_methodNamed B.named B.method).1
  subst hsz
  have hD := hD0.self (sz := s.heap.size)
  have hl := lv_entry av (n := maxL) hlen
  rw [lg_entry_eq]
  exact body (p, l, e, (headSpec ws rm).room, s, m, av.toArray, below, meth, c, _, maxL, va_A (pw ad L f) s.heap.size, s.heap) ⟨B.exec, B.bytes, hml, hown, hts, hK, fun q h => Or.inr h, rfl, rfl, B.notSynchronized⟩ ⟨rfl, B.returns, rfl⟩ hnm hxw s.heap [] _ hP hD va_S.rf (hlv ▸ hl)
theorem nv_of {l : Launch} {y : MethodName} {ws ws2 : List Cond} {rm : Room} {D : va_G} {tys : List (ClassId × FieldType)} {ad : Nat → Nat} {L : List Nat} {f : Nat → va_E} {av : List Value} {mc ms : Nat} {xw : State → Prop} {post : UA → Prop} {cc : ByteArray} {maxL : Nat} {own : String}  (lv0 : List (Nat × Value)) (hy : plainName y.cls = true) (ho : y.cls = own) (hw : ws = Cond.code y cc maxL none :: ws2) (hlv : lv_args 0 av = lv0) (hlen : (lg_sl av).length ≤ maxL)
    (body : ∀ X : EN, CX X D tys cc own ws rm maxL → ENV X D tys none mc ms post → WN X y.name → SX X xw → GG X D ad L f lv0 0 0 0 []) : NV l y ws rm D tys ad L f av mc ms xw post := by
  subst ho
  intro sz
  refine Met.ofW (cc := cc) (maxL := maxL) (ret := none) hy hw ?_
  intro p e s m args below meth c s₁ B hml hv
  obtain ⟨rfl, ⟨hsz, hP, hK, hD0⟩, hxw⟩ := hv
  have hts := atoms_spec (ws := ws) B.pre
  have hown : s.vm.findClass y.cls = some m.cls := findClass_of_methodNamed B.named
  have hnm := (name_of_methodNamed B.named B.method).1
  subst hsz
  have hD := hD0.self (sz := s.heap.size)
  have hl := lv_entry av (n := maxL) hlen
  rw [lg_entry_eq]
  exact body (p, l, e, (headSpec ws rm).room, s, m, av.toArray, below, meth, c, _, maxL, va_A (pw ad L f) s.heap.size, s.heap) ⟨B.exec, B.bytes, hml, hown, hts, hK, fun q h => Or.inr h, rfl, rfl, B.notSynchronized⟩ ⟨rfl, B.returns, rfl⟩ hnm hxw s.heap [] _ hP hD va_S.rf (hlv ▸ hl)
theorem nq_of {l : Launch} {y : MethodName} {ws ws2 : List Cond} {rm : Room} {D : va_G} {tys : List (ClassId × FieldType)} {ad : Nat → Nat} {L : List Nat} {f : Nat → va_E} {av : List Value} {mc ms : Nat} {xw : State → Prop} {post : Option Nat → UA → Prop} {cc : ByteArray} {maxL : Nat} {own : String} (ret : Option FieldType) (lv0 : List (Nat × Value)) (hy : plainName y.cls = true) (ho : y.cls = own) (hw : ws = Cond.code y cc maxL ret :: ws2) (hlv : lv_args 0 av = lv0) (hlen : (lg_sl av).length ≤ maxL)
    (body : ∀ X : EN, CX X D tys cc own ws rm maxL → ENQ X D tys ret mc ms post → WN X y.name → SX X xw → GG X D ad L f lv0 0 0 0 []) : NQ l y ws rm D tys ad L f av mc ms xw post := by
  subst ho
  intro sz
  refine Met.ofW (cc := cc) (maxL := maxL) (ret := ret) hy hw ?_
  intro p e s m args below meth c s₁ B hml hv
  obtain ⟨rfl, ⟨hsz, hP, hK, hD0⟩, hxw⟩ := hv
  have hts := atoms_spec (ws := ws) B.pre
  have hown : s.vm.findClass y.cls = some m.cls := findClass_of_methodNamed B.named
  have hnm := (name_of_methodNamed B.named B.method).1
  subst hsz
  have hD := hD0.self (sz := s.heap.size)
  have hl := lv_entry av (n := maxL) hlen
  rw [lg_entry_eq]
  exact body (p, l, e, (headSpec ws rm).room, s, m, av.toArray, below, meth, c, _, maxL, va_A (pw ad L f) s.heap.size, s.heap) ⟨B.exec, B.bytes, hml, hown, hts, hK, fun q h => Or.inr h, rfl, rfl, B.notSynchronized⟩ ⟨rfl, B.returns, rfl⟩ hnm hxw s.heap [] _ hP hD va_S.rf (hlv ▸ hl)
section GGM
variable {X : EN} {D : va_G} {tys : List (ClassId × FieldType)} {cc : ByteArray} {own : String} {Ts : List Cond} {rm : Room} {nL : Nat} {ad : Nat → Nat} {L : List Nat} {f : Nat → va_E} {lv : List (Nat × Value)} {ce sl pc : Nat} {st : List Value}
theorem n_iret (hX : CX X D tys cc own Ts rm nL) {mc ms : Nat} {v : Int32} {post : Int32 → UA → Prop}  (hE : ENI X D tys (some .int) mc ms post) (hdg : decode cc pc = .ok (.ireturn, 1)) (hce : ce ≤ mc) (hsl : sl ≤ ms) (hp : post v (ad, L, f)) : GG X D ad L f lv ce sl pc [.int v] := by
  obtain ⟨p, l, e, R, s, m, args, below, meth, c, Q, nL2, A, H0⟩ := X
  obtain ⟨hx, hb, hml, hown, hts, hK, hA, rfl, rfl, hlk⟩ := hX
  obtain ⟨rfl, hr, rfl⟩ := hE
  intro H locs ls hP hD hS hl
  refine W.widen hce hsl ?_
  exact W.iret hx hb hr (fun t ht hW => ⟨⟨v, (ad, L, f), rfl, hp, by rw [ht]; exact hP, va_K.moved hW.alike hK, hD⟩, hS.F ht⟩) hS.2.2 hdg
theorem n_zret (hX : CX X D tys cc own Ts rm nL) {mc ms : Nat} {v : Int32} {post : Int32 → UA → Prop} {ty : FieldType} (hn : narrow ty (.int v) = .int v) (hE : ENI X D tys (some ty) mc ms post) (hdg : decode cc pc = .ok (.ireturn, 1)) (hce : ce ≤ mc) (hsl : sl ≤ ms) (hp : post v (ad, L, f)) : GG X D ad L f lv ce sl pc [.int v] := by
  obtain ⟨p, l, e, R, s, m, args, below, meth, c, Q, nL2, A, H0⟩ := X
  obtain ⟨hx, hb, hml, hown, hts, hK, hA, rfl, rfl, hlk⟩ := hX
  obtain ⟨rfl, hr, rfl⟩ := hE
  intro H locs ls hP hD hS hl
  refine W.widen hce hsl ?_
  exact W.zret hx hb hr hn (fun t ht hW => ⟨⟨v, (ad, L, f), rfl, hp, by rw [ht]; exact hP, va_K.moved hW.alike hK, hD⟩, hS.F ht⟩) hS.2.2 hdg
theorem n_vret (hX : CX X D tys cc own Ts rm nL) {mc ms : Nat}  {post : UA → Prop}  (hE : ENV X D tys none mc ms post) (hdg : decode cc pc = .ok (.return_, 1)) (hce : ce ≤ mc) (hsl : sl ≤ ms) (hp : post (ad, L, f)) : GG X D ad L f lv ce sl pc [] := by
  obtain ⟨p, l, e, R, s, m, args, below, meth, c, Q, nL2, A, H0⟩ := X
  obtain ⟨hx, hb, hml, hown, hts, hK, hA, rfl, rfl, hlk⟩ := hX
  obtain ⟨rfl, hr, rfl⟩ := hE
  intro H locs ls hP hD hS hl
  refine W.widen hce hsl ?_
  exact W.vret hx hb hr (fun t ht hW => ⟨⟨(ad, L, f), rfl, hp, by rw [ht]; exact hP, va_K.moved hW.alike hK, hD⟩, hS.F ht⟩) hS.2.2 hdg
theorem n_aret (hX : CX X D tys cc own Ts rm nL) {mc ms : Nat} (v : Option Nat) {val : Value} {rt : FieldType} {post : Option Nat → UA → Prop} (hval : val = va_rf v) (hE : ENQ X D tys (some rt) mc ms post) (hrt : (∃ n, rt = FieldType.object n) ∨ ∃ t, rt = FieldType.array t) (hdg : decode cc pc = .ok (.areturn, 1)) (hce : ce ≤ mc) (hsl : sl ≤ ms) (hp : post v (ad, L, f)) : GG X D ad L f lv ce sl pc [val] := by
  obtain ⟨p, l, e, R, s, m, args, below, meth, c, Q, nL2, A, H0⟩ := X
  obtain ⟨hx, hb, hml, hown, hts, hK, hA, rfl, rfl, hlk⟩ := hX
  obtain ⟨rfl, hr, rfl⟩ := hE
  intro H locs ls hP hD hS hl
  refine W.widen hce hsl ?_
  subst hval
  exact W.aret hx hb hr hrt (va_rf_or v) (fun t ht hW => ⟨⟨v, (ad, L, f), rfl, hp, by rw [ht]; exact hP, va_K.moved hW.alike hK, hD⟩, hS.F ht⟩) hS.2.2 hdg
theorem n_callI_V (hX : CX X D tys cc own Ts rm nL) {y : MethodName} {ws ws2 : List Cond} {rm2 : Room} {bytes : ByteArray} {maxL ix mc ms : Nat} {ret : Option FieldType} {xw : State → Prop} {post : Int32 → UA → Prop} (hxm : ∀ U V : State, (U.vm = V.vm ∨ U.WarmedH V.vm) → xw U → xw V) (hxw : SX X xw) {C : String} {b : Nat} (As : List Value) {st0 : List Value} (hLb : b ∈ L) {kd n2 : Nat} {fs : List Value} {T : u_T} (hfb : f b = .inr (kd, fs)) (hcl : vwCl[kd]? = some (C, T, n2)) (hM : ∀ l, NI l y ws rm2 D tys ad L f (.ref (ad b) :: As) mc ms xw post) (hG : GoodIn Ts (wsV own ix C y ws)) (hw : ws = Cond.code y bytes maxL ret :: ws2) (hrc : rm2.cells = mc) (hrs : rm2.slots = ms) (hd : y.cls = C ∧ y.cls ≠ "java/lang/invoke/MethodHandle" ∧ y.cls ≠ "java/lang/invoke/VarHandle" ∧ (parseMethodDescriptor y.desc).map (fun d => d.parameters.length) = some As.length) (hR : rm2.frames + 1 ≤ rm.frames ∧ 8 + (maxL + 11) + rm2.locals ≤ rm.locals) (hf : ce + mc ≤ rm.cells ∧ sl + ms ≤ rm.slots) (hst0 : st0 = As.reverse ++ .ref (ad b) :: st) (hst : (st.map fun v => v.category).sum ≤ 8) (hdg : decode cc pc = .ok (.invokevirtual ix, 3)) (kk : ∀ (r : Int32) (ad2 : Nat → Nat) (L2 : List Nat) (f2 : Nat → va_E), post r (ad2, L2, f2) → GG X D ad2 L2 f2 lv (ce + mc) (sl + ms) (pc + 3) (.int r :: st)) : GG X D ad L f lv ce sl pc st0 := by
  obtain ⟨p, l, e, R, s, m, args, below, meth, c, Q, nL2, A, H0⟩ := X
  obtain ⟨hx, hb, hml, hown, hts, hK, hA, rfl, rfl, hlk⟩ := hX
  intro H locs ls hP hD hS hl
  have hFc : ∀ q, va_A (pw ad L f) H.size q → A q := fun q hq => hq.elim (fun ⟨k, e, hk⟩ => hD.2 k _ hk) (fun h => hA q (Nat.le_trans hS.1 h))
  obtain ⟨jb, hjb, hbk⟩ := pw_get (ad := ad) (f := f) hLb
  rw [hfb] at hbk
  refine va_calli (va_runV (As := As) (rest := st) ⟨hx, hb, hml, hown, hts⟩ (hM l H.size) (cwV As.length hts hG hw hrc hrs hd hR) ⟨fun a U g mk q => by obtain ⟨q0, ⟨q1, qP, qK, qD⟩, qX⟩ := q; exact ⟨q0, ⟨q1, qP, va_K.moved (u := U) (U := U.calling g mk a) (Vm.Alike.refl U.vm) qK, qD⟩, hxm U (U.calling g mk a) (Or.inl rfl) qX⟩, va_recv hK hP hcl hbk, fun U hU hW => ⟨rfl, ⟨by rw [hU], by rw [hU]; exact hP, va_K.moved hW.alike hK, hD.weaken (fun _ _ _ _ => trivial)⟩, hxm s U (Or.inr hW) hxw⟩⟩ rfl rfl hl.1 hst0 (lv_room hst) hdg hf) hS (fun q _ h => hFc q h) hFc (fun r u t H1 locs1 ht hvm hw2 hB hz1 hk1 hS1 => ?_)
  obtain ⟨hP1, hK1, hD1⟩ := hB
  rw [ht] at hP1
  exact kk r u.1 u.2.1 u.2.2 hw2 H1 locs1 ls hP1 (hD1.weaken (fun _ _ _ h => hFc _ h)) hS1 hl
theorem n_callV_V (hX : CX X D tys cc own Ts rm nL) {y : MethodName} {ws ws2 : List Cond} {rm2 : Room} {bytes : ByteArray} {maxL ix mc ms : Nat} {ret : Option FieldType} {xw : State → Prop} {post : UA → Prop} (hxm : ∀ U V : State, (U.vm = V.vm ∨ U.WarmedH V.vm) → xw U → xw V) (hxw : SX X xw) {C : String} {b : Nat} (As : List Value) {st0 : List Value} (hLb : b ∈ L) {kd n2 : Nat} {fs : List Value} {T : u_T} (hfb : f b = .inr (kd, fs)) (hcl : vwCl[kd]? = some (C, T, n2)) (hM : ∀ l, NV l y ws rm2 D tys ad L f (.ref (ad b) :: As) mc ms xw post) (hG : GoodIn Ts (wsV own ix C y ws)) (hw : ws = Cond.code y bytes maxL ret :: ws2) (hrc : rm2.cells = mc) (hrs : rm2.slots = ms) (hd : y.cls = C ∧ y.cls ≠ "java/lang/invoke/MethodHandle" ∧ y.cls ≠ "java/lang/invoke/VarHandle" ∧ (parseMethodDescriptor y.desc).map (fun d => d.parameters.length) = some As.length) (hR : rm2.frames + 1 ≤ rm.frames ∧ 8 + (maxL + 11) + rm2.locals ≤ rm.locals) (hf : ce + mc ≤ rm.cells ∧ sl + ms ≤ rm.slots) (hst0 : st0 = As.reverse ++ .ref (ad b) :: st) (hst : (st.map fun v => v.category).sum ≤ 8) (hdg : decode cc pc = .ok (.invokevirtual ix, 3)) (kk : ∀ (ad2 : Nat → Nat) (L2 : List Nat) (f2 : Nat → va_E), post (ad2, L2, f2) → GG X D ad2 L2 f2 lv (ce + mc) (sl + ms) (pc + 3) st) : GG X D ad L f lv ce sl pc st0 := by
  obtain ⟨p, l, e, R, s, m, args, below, meth, c, Q, nL2, A, H0⟩ := X
  obtain ⟨hx, hb, hml, hown, hts, hK, hA, rfl, rfl, hlk⟩ := hX
  intro H locs ls hP hD hS hl
  have hFc : ∀ q, va_A (pw ad L f) H.size q → A q := fun q hq => hq.elim (fun ⟨k, e, hk⟩ => hD.2 k _ hk) (fun h => hA q (Nat.le_trans hS.1 h))
  obtain ⟨jb, hjb, hbk⟩ := pw_get (ad := ad) (f := f) hLb
  rw [hfb] at hbk
  refine va_callv (va_runV (As := As) (rest := st) ⟨hx, hb, hml, hown, hts⟩ (hM l H.size) (cwV As.length hts hG hw hrc hrs hd hR) ⟨fun a U g mk q => by obtain ⟨q0, ⟨q1, qP, qK, qD⟩, qX⟩ := q; exact ⟨q0, ⟨q1, qP, va_K.moved (u := U) (U := U.calling g mk a) (Vm.Alike.refl U.vm) qK, qD⟩, hxm U (U.calling g mk a) (Or.inl rfl) qX⟩, va_recv hK hP hcl hbk, fun U hU hW => ⟨rfl, ⟨by rw [hU], by rw [hU]; exact hP, va_K.moved hW.alike hK, hD.weaken (fun _ _ _ _ => trivial)⟩, hxm s U (Or.inr hW) hxw⟩⟩ rfl rfl hl.1 hst0 (lv_room hst) hdg hf) hS (fun q _ h => hFc q h) hFc (fun u t H1 locs1 ht hvm hw2 hB hz1 hk1 hS1 => ?_)
  obtain ⟨hP1, hK1, hD1⟩ := hB
  rw [ht] at hP1
  exact kk u.1 u.2.1 u.2.2 hw2 H1 locs1 ls hP1 (hD1.weaken (fun _ _ _ h => hFc _ h)) hS1 hl
theorem n_callV_I (hX : CX X D tys cc own Ts rm nL) {y : MethodName} {ws ws2 : List Cond} {rm2 : Room} {bytes : ByteArray} {maxL ix mc ms : Nat} {xw : State → Prop} {post : UA → Prop} (hxm : ∀ U V : State, (U.vm = V.vm ∨ U.WarmedH V.vm) → xw U → xw V) (hxw : SX X xw) {b : Nat} (As : List Value) {st0 : List Value} (hM : ∀ l, NV l y ws rm2 D tys ad L f (.ref (ad b) :: As) mc ms xw post) (hG : GoodIn Ts ws) (hw : ws = Cond.code y bytes maxL none :: ws2) (hrc : rm2.cells = mc) (hrs : rm2.slots = ms) (hini : Cond.initialized y.cls ∈ Ts) (hlk2 : Cond.methodLink own ix y ∈ Ts) (hin : Cond.instanceMethod y ∈ Ts) (hy1 : y.name = "<init>") (hd : y.cls ≠ "java/lang/invoke/MethodHandle" ∧ y.cls ≠ "java/lang/invoke/VarHandle" ∧ (parseMethodDescriptor y.desc).map (fun d => d.parameters.length) = some As.length) (hR : rm2.frames + 1 ≤ rm.frames ∧ 8 + (maxL + 11) + rm2.locals ≤ rm.locals) (hf : ce + mc ≤ rm.cells ∧ sl + ms ≤ rm.slots) (hst0 : st0 = As.reverse ++ .ref (ad b) :: st) (hst : (st.map fun v => v.category).sum ≤ 8) (hdg : decode cc pc = .ok (.invokespecial ix, 3)) (kk : ∀ (ad2 : Nat → Nat) (L2 : List Nat) (f2 : Nat → va_E), post (ad2, L2, f2) → GG X D ad2 L2 f2 lv (ce + mc) (sl + ms) (pc + 3) st) : GG X D ad L f lv ce sl pc st0 := by
  obtain ⟨p, l, e, R, s, m, args, below, meth, c, Q, nL2, A, H0⟩ := X
  obtain ⟨hx, hb, hml, hown, hts, hK, hA, rfl, rfl, hlk⟩ := hX
  intro H locs ls hP hD hS hl
  have hFc : ∀ q, va_A (pw ad L f) H.size q → A q := fun q hq => hq.elim (fun ⟨k, e, hk⟩ => hD.2 k _ hk) (fun h => hA q (Nat.le_trans hS.1 h))
  refine va_callv (va_runI (As := As) (rest := st) ⟨hx, hb, hml, hown, hts⟩ (hM l H.size) (cwI As.length hts hG hw hrc hrs (hts _ hini) (hts _ hlk2) (hts _ hin) hy1 hd hR) ⟨fun a U g mk q => by obtain ⟨q0, ⟨q1, qP, qK, qD⟩, qX⟩ := q; exact ⟨q0, ⟨q1, qP, va_K.moved (u := U) (U := U.calling g mk a) (Vm.Alike.refl U.vm) qK, qD⟩, hxm U (U.calling g mk a) (Or.inl rfl) qX⟩, fun U hU hW => ⟨rfl, ⟨by rw [hU], by rw [hU]; exact hP, va_K.moved hW.alike hK, hD.weaken (fun _ _ _ _ => trivial)⟩, hxm s U (Or.inr hW) hxw⟩⟩ rfl rfl hl.1 hst0 (lv_room hst) hdg hf) hS (fun q _ h => hFc q h) hFc (fun u t H1 locs1 ht hvm hw2 hB hz1 hk1 hS1 => ?_)
  obtain ⟨hP1, hK1, hD1⟩ := hB
  rw [ht] at hP1
  exact kk u.1 u.2.1 u.2.2 hw2 H1 locs1 ls hP1 (hD1.weaken (fun _ _ _ h => hFc _ h)) hS1 hl
theorem n_callV_IN (hX : CX X D tys cc own Ts rm nL) {y : MethodName} {ws ws2 : List Cond} {rm2 : Room} {bytes : ByteArray} {maxL ix mc ms : Nat} {xw : State → Prop} {post : UA → Prop} (hxm : ∀ U V : State, (U.vm = V.vm ∨ U.WarmedH V.vm) → xw U → xw V) (hxw : SX X xw) {b : Nat} (As : List Value) {st0 : List Value} (hM : ∀ l, NV l y ws rm2 D tys ad L f (.ref (ad b) :: As) mc ms xw post) (hG : GoodIn Ts ws) (hw : ws = Cond.code y bytes maxL none :: ws2) (hrc : rm2.cells = mc) (hrs : rm2.slots = ms) (hini : Cond.initialized y.cls ∈ Ts) {host : String} (hlk2 : va_NwX X (.methodLinkNest own ix y host)) (hin : Cond.instanceMethod y ∈ Ts) (hy1 : y.name = "<init>") (hd : y.cls ≠ "java/lang/invoke/MethodHandle" ∧ y.cls ≠ "java/lang/invoke/VarHandle" ∧ (parseMethodDescriptor y.desc).map (fun d => d.parameters.length) = some As.length) (hR : rm2.frames + 1 ≤ rm.frames ∧ 8 + (maxL + 11) + rm2.locals ≤ rm.locals) (hf : ce + mc ≤ rm.cells ∧ sl + ms ≤ rm.slots) (hst0 : st0 = As.reverse ++ .ref (ad b) :: st) (hst : (st.map fun v => v.category).sum ≤ 8) (hdg : decode cc pc = .ok (.invokespecial ix, 3)) (kk : ∀ (ad2 : Nat → Nat) (L2 : List Nat) (f2 : Nat → va_E), post (ad2, L2, f2) → GG X D ad2 L2 f2 lv (ce + mc) (sl + ms) (pc + 3) st) : GG X D ad L f lv ce sl pc st0 := by
  obtain ⟨p, l, e, R, s, m, args, below, meth, c, Q, nL2, A, H0⟩ := X
  obtain ⟨hx, hb, hml, hown, hts, hK, hA, rfl, rfl, hlk⟩ := hX
  intro H locs ls hP hD hS hl
  have hFc : ∀ q, va_A (pw ad L f) H.size q → A q := fun q hq => hq.elim (fun ⟨k, e, hk⟩ => hD.2 k _ hk) (fun h => hA q (Nat.le_trans hS.1 h))
  refine va_callv (va_runIN (As := As) (rest := st) ⟨hx, hb, hml, hown, hts⟩ (hM l H.size) (⟨va_cnB As.length hts hG hw hrc hrs hlk2 (hts _ hini) hd hR, hy1, hts _ hin⟩) ⟨fun a U g mk q => by obtain ⟨q0, ⟨q1, qP, qK, qD⟩, qX⟩ := q; exact ⟨q0, ⟨q1, qP, va_K.moved (u := U) (U := U.calling g mk a) (Vm.Alike.refl U.vm) qK, qD⟩, hxm U (U.calling g mk a) (Or.inl rfl) qX⟩, fun U hU hW => ⟨rfl, ⟨by rw [hU], by rw [hU]; exact hP, va_K.moved hW.alike hK, hD.weaken (fun _ _ _ _ => trivial)⟩, hxm s U (Or.inr hW) hxw⟩⟩ rfl rfl hl.1 hst0 (lv_room hst) hdg hf) hS (fun q _ h => hFc q h) hFc (fun u t H1 locs1 ht hvm hw2 hB hz1 hk1 hS1 => ?_)
  obtain ⟨hP1, hK1, hD1⟩ := hB
  rw [ht] at hP1
  exact kk u.1 u.2.1 u.2.2 hw2 H1 locs1 ls hP1 (hD1.weaken (fun _ _ _ h => hFc _ h)) hS1 hl
theorem n_callQ_V (hX : CX X D tys cc own Ts rm nL) {y : MethodName} {ws ws2 : List Cond} {rm2 : Room} {bytes : ByteArray} {maxL ix mc ms : Nat} {ret : Option FieldType} {xw : State → Prop} {post : Option Nat → UA → Prop} (hxm : ∀ U V : State, (U.vm = V.vm ∨ U.WarmedH V.vm) → xw U → xw V) (hxw : SX X xw) {C : String} {b : Nat} (As : List Value) {st0 : List Value} (hLb : b ∈ L) {kd n2 : Nat} {fs : List Value} {T : u_T} (hfb : f b = .inr (kd, fs)) (hcl : vwCl[kd]? = some (C, T, n2)) (hM : ∀ l, NQ l y ws rm2 D tys ad L f (.ref (ad b) :: As) mc ms xw post) (hG : GoodIn Ts (wsV own ix C y ws)) (hw : ws = Cond.code y bytes maxL ret :: ws2) (hrc : rm2.cells = mc) (hrs : rm2.slots = ms) (hd : y.cls = C ∧ y.cls ≠ "java/lang/invoke/MethodHandle" ∧ y.cls ≠ "java/lang/invoke/VarHandle" ∧ (parseMethodDescriptor y.desc).map (fun d => d.parameters.length) = some As.length) (hR : rm2.frames + 1 ≤ rm.frames ∧ 8 + (maxL + 11) + rm2.locals ≤ rm.locals) (hf : ce + mc ≤ rm.cells ∧ sl + ms ≤ rm.slots) (hst0 : st0 = As.reverse ++ .ref (ad b) :: st) (hst : (st.map fun v => v.category).sum ≤ 8) (hdg : decode cc pc = .ok (.invokevirtual ix, 3)) (kk : ∀ (r : Option Nat) (ad2 : Nat → Nat) (L2 : List Nat) (f2 : Nat → va_E), post r (ad2, L2, f2) → GG X D ad2 L2 f2 lv (ce + mc) (sl + ms) (pc + 3) (va_rf r :: st)) : GG X D ad L f lv ce sl pc st0 := by
  obtain ⟨p, l, e, R, s, m, args, below, meth, c, Q, nL2, A, H0⟩ := X
  obtain ⟨hx, hb, hml, hown, hts, hK, hA, rfl, rfl, hlk⟩ := hX
  intro H locs ls hP hD hS hl
  have hFc : ∀ q, va_A (pw ad L f) H.size q → A q := fun q hq => hq.elim (fun ⟨k, e, hk⟩ => hD.2 k _ hk) (fun h => hA q (Nat.le_trans hS.1 h))
  obtain ⟨jb, hjb, hbk⟩ := pw_get (ad := ad) (f := f) hLb
  rw [hfb] at hbk
  refine va_callq (va_runV (As := As) (rest := st) ⟨hx, hb, hml, hown, hts⟩ (hM l H.size) (cwV As.length hts hG hw hrc hrs hd hR) ⟨fun a U g mk q => by obtain ⟨q0, ⟨q1, qP, qK, qD⟩, qX⟩ := q; exact ⟨q0, ⟨q1, qP, va_K.moved (u := U) (U := U.calling g mk a) (Vm.Alike.refl U.vm) qK, qD⟩, hxm U (U.calling g mk a) (Or.inl rfl) qX⟩, va_recv hK hP hcl hbk, fun U hU hW => ⟨rfl, ⟨by rw [hU], by rw [hU]; exact hP, va_K.moved hW.alike hK, hD.weaken (fun _ _ _ _ => trivial)⟩, hxm s U (Or.inr hW) hxw⟩⟩ rfl rfl hl.1 hst0 (lv_room hst) hdg hf) hS (fun q _ h => hFc q h) hFc (fun r u t H1 locs1 ht hvm hw2 hB hz1 hk1 hS1 => ?_)
  obtain ⟨hP1, hK1, hD1⟩ := hB
  rw [ht] at hP1
  exact kk r u.1 u.2.1 u.2.2 hw2 H1 locs1 ls hP1 (hD1.weaken (fun _ _ _ h => hFc _ h)) hS1 hl
end GGM
def RS (R : Nat → Nat → Option Nat) (S : List Nat) : Prop := ∀ i k j, R i k = some j → j ∈ S
theorem RS_up {R : Nat → Nat → Option Nat} {S : List Nat} {i k x : Nat} (h : RS R S) : RS (up2 R i k (some x)) (x :: S) := by
  intro a b j hj
  unfold up2 at hj
  split at hj
  · split at hj
    · cases hj; exact List.mem_cons_self
    · exact List.mem_cons_of_mem _ (h a b j hj)
  · exact List.mem_cons_of_mem _ (h a b j hj)
theorem RS_upN {R : Nat → Nat → Option Nat} {S : List Nat} {i k : Nat} (h : RS R S) : RS (up2 R i k none) S := by
  intro a b j hj
  unfold up2 at hj
  split at hj
  · split at hj
    · cases hj
    · exact h a b j hj
  · exact h a b j hj
theorem RS_no {R : Nat → Nat → Option Nat} {S L : List Nat} {n : Nat} (h : RS R S) (hn : n ∉ S) : ∀ i ∈ L, ∀ k, R i k ≠ some n := fun i _ k e => hn (h i k n e)
def AG (L : List Nat) (a b : Nat → Nat) : Prop := ∀ i ∈ L, b i = a i
theorem AG_rf {L : List Nat} {a : Nat → Nat} : AG L a a := fun _ _ => rfl
theorem AG_new {L : List Nat} {a b : Nat → Nat} {n q : Nat} (h : AG L a b) (hn : n ∉ L) : AG L a (va_up b n q) := fun i hi => (va_up_ne _ _ (fun e : i = n => hn (e ▸ hi))).trans (h i hi)
theorem AG_tr {L L2 : List Nat} {a b c : Nat → Nat} (h : AG L a b) (h2 : AG L2 b c) (hs : ∀ i ∈ L, i ∈ L2) : AG L a c := fun i hi => (h2 i (hs i hi)).trans (h i hi)
