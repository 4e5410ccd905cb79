theorem nm_ZZ : "[" ++ (FieldType.array .boolean).toString = "[[Z" := by decide +kernel
theorem nm_Z : (FieldType.array .boolean).toString = "[Z" := by decide +kernel
theorem nm_O : "[" ++ (FieldType.object "java/lang/Object").toString = "[Ljava/lang/Object;" := by decide +kernel
theorem ty_20 {D : va_G} {dT : Nat → ClassId} {s : State} (hK : va_K D vwCl (tyl dT) s) : s.vm.findClass "[I" = some (dT 20) := va_nm_int (hK.2 0 _ rfl).2
theorem ty_21 {D : va_G} {dT : Nat → ClassId} {s : State} (hK : va_K D vwCl (tyl dT) s) : s.vm.findClass "[Z" = some (dT 21) := va_nm_boolean (hK.2 1 _ rfl).2
theorem ty_25 {D : va_G} {dT : Nat → ClassId} {s : State} (hK : va_K D vwCl (tyl dT) s) : s.vm.findClass "[Ljava/lang/Object;" = some (dT 25) := va_nmO (hK.2 5 _ rfl).2 nm_O
theorem ty_26 {D : va_G} {dT : Nat → ClassId} {s : State} (hK : va_K D vwCl (tyl dT) s) : s.vm.findClass "[[Z" = some (dT 26) := by
  have h : s.vm.findClass ("[" ++ (FieldType.array .boolean).toString) = some (dT 26) := (hK.2 6 _ rfl).2
  rw [nm_ZZ] at h
  exact h
theorem cell_none {cA : ClassId} {x : vp_A} : (vp_cell cA x).vm = .none := by
  obtain ⟨n, f | f | f | f | f⟩ := x <;> rfl
theorem cell_cls {cA : ClassId} {x : vp_A} : (vp_cell cA x).cls = cA := by
  obtain ⟨n, f | f | f | f | f⟩ := x <;> rfl
theorem pf_arr {dT : Nat → ClassId} {K N : Nat → Nat} {I : Nat → Nat → Int32} {Rr : Nat → Nat → Option Nat} {ad : Nat → Nat} {i kd : Nat} (hK : K i = kd) (h : 20 ≤ kd) : ∃ x : vp_A, pf dT K N I Rr ad i = .inl (dT kd, x) := by
  unfold pf
  rw [hK, if_neg (by omega)]
  by_cases h2 : kd < 22
  · rw [if_pos h2]; exact ⟨_, rfl⟩
  · rw [if_neg h2]; exact ⟨_, rfl⟩
theorem outer_ext (c : ClassId) (N h0 : Nat) (v : Value) : ∀ i, ∃ sl : Array Value, Jvm.Free.Multi.outerC c N h0 i = { cls := c, slots := sl, vm := .none }
  | 0 => ⟨_, rfl⟩
  | i + 1 => by
    obtain ⟨sl, h⟩ := outer_ext c N h0 v i
    show ∃ sl2, (Jvm.Free.Multi.outerC c N h0 i).setSlot i (.ref (h0 + 1 + i)) = _
    rw [h]
    exact ⟨_, rfl⟩
theorem cell_ext {c : Cell} {cA : ClassId} {n : Nat} {F : Nat → Value} (h1 : ∃ sl : Array Value, c = { cls := cA, slots := sl, vm := .none }) (h3 : c.slots = (arrV cA n F).slots) : c = arrV cA n F := by
  obtain ⟨sl, rfl⟩ := h1
  simp only at h3
  subst h3
  rfl
theorem pf_putQ {dT : Nat → ClassId} {K N : Nat → Nat} {I : Nat → Nat → Int32} {Rr : Nat → Nat → Option Nat} {ad : Nat → Nat} {i kd k : Nat} {x : Option Nat} (hK : K i = kd) (h : 22 ≤ kd) : va_up (pf dT K N I Rr ad) i (.inl (dT kd, N i, .inr (.inr (.inr (.inr (va_up (fun j => (Rr i j).map ad) k (x.map ad))))))) = pf dT K N I (up2 Rr i k x) ad := by
  funext j
  by_cases hj : j = i
  · subst hj
    rw [pf_ra hK h, show va_up (pf dT K N I Rr ad) j _ j = _ from if_pos rfl]
    congr 7
    funext b
    by_cases hb : b = k
    · subst hb; rw [up2_s]; exact if_pos rfl
    · rw [up2_n (Or.inr hb)]; exact if_neg hb
  · rw [va_up_ne _ _ hj]
    unfold pf
    rw [up2_row hj]
section GGS
variable {X : EN} {D : va_G} {dT : Nat → ClassId} {cc : ByteArray} {own : String} {Ts : List Cond} {rm : Room} {nL : Nat} {ad : Nat → Nat} {L : List Nat} {f : Nat → va_E} {lv : List (Nat × Value)} {ce sl pc : Nat} {st : List Value} {Z : ZT} {K N : Nat → Nat} {I : Nat → Nat → Int32} {Rr : Nat → Nat → Option Nat}
theorem g_dupx1 (hX : CX X D (tyl dT) cc own Ts rm nL) {va vb : Value} (hdg : decode cc pc = .ok (.dup_x1, 1)) (hva : va.category = 1) (hvb : vb.category = 1) (hk : GG X D ad L f lv ce sl (pc + 1) (va :: vb :: va :: st)) : GG X D ad L f lv ce sl pc (va :: vb :: st) := by
  obtain ⟨p, l, e, R, s, m, args, below, meth, c, Q, nL2, A, H0⟩ := X
  obtain ⟨hx, hb, hml, hown, hts, hK, hA, rfl, rfl, hlk⟩ := hX
  intro H locs ls hP hD hS hl
  exact lv_dup_x1 hx hb hdg hva hvb (hk H locs ls hP hD hS hl)
theorem g_aald26 (hX : CX X D (tyl dT) cc own Ts rm nL) {i : Nat} {x : Int32} (hL : i ∈ L) (hKi : K i = 26) (hi : vp_in x (N i)) (hdg : decode cc pc = .ok (.aaload, 1)) (kk : GG X D ad L (pf dT K N I Rr ad) lv ce sl (pc + 1) (va_re ad (Rr i x.toNatClampNeg) :: st)) : GG X D ad L (pf dT K N I Rr ad) lv ce sl pc (.int x :: .ref (ad i) :: st) := by
  obtain ⟨p, l, e, R, s, m, args, below, meth, c, Q, nL2, A, H0⟩ := X
  obtain ⟨hx, hb, hml, hown, hts, hK, hA, rfl, rfl, hlk⟩ := hX
  intro H locs ls hP hD hS hl
  obtain ⟨j0, hj0, hj⟩ := pw_get (ad := ad) (f := (pf dT K N I Rr ad)) hL
  rw [pf_ra hKi (by omega)] at hj
  have hlt : x.toNatClampNeg < N i := Nat.not_le.mp fun q => hi (Or.inr q)
  exact W.aald (v := va_rf ((Rr i x.toNatClampNeg).map ad)) (ty := .array .boolean) hx hb (hP j0 _ hj) ((hK.2 6 _ rfl).1 (N i) (fun j => va_rf ((Rr i j).map ad))) rfl (fun q => by cases q) (by show ¬ (x < 0 ∨ (arrV _ _ _).slots.size ≤ _); rw [arrV_size]; exact hi) (by show (arrV _ _ _).slots[_]? = _; rw [arrV_read _ _ hlt]) rfl rfl hdg (kk H locs ls hP hD hS hl)
theorem b_getsZ (hX : CX X D (tyl dT) cc own Ts rm nL) (hM0 : XMX X Z) {ix : Nat} (hlink : Cond.fieldLink own ix "java/util/ArrayList" "DEFAULTCAPACITY_EMPTY_ELEMENTDATA" "[Ljava/lang/Object;" ∈ Ts) (hdg : decode cc pc = .ok (.getstatic ix, 3)) (kk : GG X D ad L f lv ce sl (pc + 3) (.ref Z.1 :: st)) : GG X D ad L f lv ce sl pc st := by
  obtain ⟨p, l, e, R, s, m, args, below, meth, c, Q, nL2, A, H0⟩ := X
  obtain ⟨hx, hb, hml, hown, hts, hK, hA, rfl, rfl, hlk⟩ := hX
  obtain ⟨hXM, rfl⟩ := hM0
  intro H locs ls hP hD hS hl
  exact va_gets hx hb hXM.1 hS hown (hts _ hlink) (fun x h => h) hdg (kk H locs ls hP hD hS hl)
theorem b_getsC (hX : CX X D (tyl dT) cc own Ts rm nL) (hM0 : XMX X Z) {ix : Nat} (hlink : Cond.fieldLink own ix "java/lang/String" "COMPACT_STRINGS" "Z" ∈ Ts) (hdg : decode cc pc = .ok (.getstatic ix, 3)) (kk : GG X D ad L f lv ce sl (pc + 3) (.int 1 :: st)) : GG X D ad L f lv ce sl pc st := by
  obtain ⟨p, l, e, R, s, m, args, below, meth, c, Q, nL2, A, H0⟩ := X
  obtain ⟨hx, hb, hml, hown, hts, hK, hA, rfl, rfl, hlk⟩ := hX
  obtain ⟨hXM, rfl⟩ := hM0
  intro H locs ls hP hD hS hl
  exact va_gets hx hb hXM.2.2.1 hS hown (hts _ hlink) (fun x h => h) hdg (kk H locs ls hP hD hS hl)
theorem b_tlen (hX : CX X D (tyl dT) cc own Ts rm nL) (hM0 : XMX X Z) (hdg : decode cc pc = .ok (.arraylength, 1)) (kk : GG X D ad L f lv ce sl (pc + 1) (.int 0 :: st)) : GG X D ad L f lv ce sl pc (.ref Z.1 :: st) := by
  obtain ⟨p, l, e, R, s, m, args, below, meth, c, Q, nL2, A, H0⟩ := X
  obtain ⟨hx, hb, hml, hown, hts, hK, hA, rfl, rfl, hlk⟩ := hX
  obtain ⟨hXM, rfl⟩ := hM0
  intro H locs ls hP hD hS hl
  exact va_tlen hx hb hXM.2.1 hS rfl hdg (kk H locs ls hP hD hS hl)
theorem b_ldcS (hX : CX X D (tyl dT) cc own Ts rm nL) (hM0 : XMX X Z) (ho : own = "PerforatumModel") (i : Nat) {ix : Nat} (hi : i < 3) (hix : (zSt.getD i (0, "")).1 = ix) (hdg : decode cc pc = .ok (.ldc ix, 2)) (kk : GG X D ad L f lv ce sl (pc + 2) (.ref (Z.2.1 i) :: st)) : GG X D ad L f lv ce sl pc st := by
  subst ho; subst hix
  obtain ⟨p, l, e, R, s, m, args, below, meth, c, Q, nL2, A, H0⟩ := X
  obtain ⟨hx, hb, hml, hown, hts, hK, hA, rfl, rfl, hlk⟩ := hX
  obtain ⟨hXM, rfl⟩ := hM0
  intro H locs ls hP hD hS hl
  exact va_ldcS hx hb hown (hXM.2.2.2.2.2.2.2.2.2.2.2.1 i hi) hdg (kk H locs ls hP hD hS hl)
theorem b_sval (hX : CX X D (tyl dT) cc own Ts rm nL) (hM0 : XMX X Z) {i ix : Nat} (hi : i < 3) (hlink : Cond.fieldLink own ix "java/lang/String" "value" "[B" ∈ Ts) (hdg : decode cc pc = .ok (.getfield ix, 3)) (kk : GG X D ad L f lv ce sl (pc + 3) (.ref (Z.2.2.1 i) :: st)) : GG X D ad L f lv ce sl pc (.ref (Z.2.1 i) :: st) := by
  obtain ⟨p, l, e, R, s, m, args, below, meth, c, Q, nL2, A, H0⟩ := X
  obtain ⟨hx, hb, hml, hown, hts, hK, hA, rfl, rfl, hlk⟩ := hX
  obtain ⟨hXM, rfl⟩ := hM0
  intro H locs ls hP hD hS hl
  exact vk_getf hx hb (hXM.2.2.2.1.1 i hi).2.2.1 hS hown (hts _ hlink) (fun x h => h) hdg (kk H locs ls hP hD hS hl)
theorem b_scod (hX : CX X D (tyl dT) cc own Ts rm nL) (hM0 : XMX X Z) {i ix : Nat} (hi : i < 3) (hlink : Cond.fieldLink own ix "java/lang/String" "coder" "B" ∈ Ts) (hdg : decode cc pc = .ok (.getfield ix, 3)) (kk : GG X D ad L f lv ce sl (pc + 3) (.int 0 :: st)) : GG X D ad L f lv ce sl pc (.ref (Z.2.1 i) :: st) := by
  obtain ⟨p, l, e, R, s, m, args, below, meth, c, Q, nL2, A, H0⟩ := X
  obtain ⟨hx, hb, hml, hown, hts, hK, hA, rfl, rfl, hlk⟩ := hX
  obtain ⟨hXM, rfl⟩ := hM0
  intro H locs ls hP hD hS hl
  exact vk_getf hx hb (hXM.2.2.2.1.1 i hi).2.1 hS hown (hts _ hlink) (fun x h => h) hdg (kk H locs ls hP hD hS hl)
theorem b_slen (hX : CX X D (tyl dT) cc own Ts rm nL) (hM0 : XMX X Z) {i : Nat} (hi : i < 3) (hdg : decode cc pc = .ok (.arraylength, 1)) (kk : GG X D ad L f lv ce sl (pc + 1) (.int (nI (zLen.getD i 0)) :: st)) : GG X D ad L f lv ce sl pc (.ref (Z.2.2.1 i) :: st) := by
  obtain ⟨p, l, e, R, s, m, args, below, meth, c, Q, nL2, A, H0⟩ := X
  obtain ⟨hx, hb, hml, hown, hts, hK, hA, rfl, rfl, hlk⟩ := hX
  obtain ⟨hXM, rfl⟩ := hM0
  intro H locs ls hP hD hS hl
  exact va_tlen hx hb (hXM.2.2.2.1.1 i hi).2.2.2 hS rfl hdg (kk H locs ls hP hD hS hl)
theorem b_sbyte (hX : CX X D (tyl dT) cc own Ts rm nL) (hM0 : XMX X Z) {i : Nat} {x : Int32} (hi : i < 3) (hin : vp_in x (zLen.getD i 0)) (hdg : decode cc pc = .ok (.baload, 1)) (kk : GG X D ad L f lv ce sl (pc + 1) (.int ((zByt.getD i []).getD x.toNatClampNeg 0) :: st)) : GG X D ad L f lv ce sl pc (.int x :: .ref (Z.2.2.1 i) :: st) := by
  obtain ⟨p, l, e, R, s, m, args, below, meth, c, Q, nL2, A, H0⟩ := X
  obtain ⟨hx, hb, hml, hown, hts, hK, hA, rfl, rfl, hlk⟩ := hX
  obtain ⟨hXM, rfl⟩ := hM0
  intro H locs ls hP hD hS hl
  exact va_tb hx hb (hXM.2.2.2.1.1 i hi).2.2.2 hS hin rfl hdg (kk H locs ls hP hD hS hl)
theorem b_cast20 (hX : CX X D (tyl dT) cc own Ts rm nL) {i ix : Nat} (hL : i ∈ L) (hKi : K i = 20) (hlink : Cond.classLink own ix "[I" ∈ Ts) (hdg : decode cc pc = .ok (.checkcast ix, 3)) (kk : GG X D ad L (pf dT K N I Rr ad) lv ce sl (pc + 3) (.ref (ad i) :: st)) : GG X D ad L (pf dT K N I Rr ad) lv ce sl pc (.ref (ad i) :: st) := by
  obtain ⟨p, l, e, R, s, m, args, below, meth, c, Q, nL2, A, H0⟩ := X
  obtain ⟨hx, hb, hml, hown, hts, hK, hA, rfl, rfl, hlk⟩ := hX
  intro H locs ls hP hD hS hl
  obtain ⟨j0, hj0, hj⟩ := pw_get (ad := ad) (f := (pf dT K N I Rr ad)) hL
  obtain ⟨x, hx9⟩ := pf_arr (dT := dT) (N := N) (I := I) (Rr := Rr) (ad := ad) hKi (by omega)
  rw [hx9] at hj
  exact va_castA hx hb hown (hts _ hlink) hP j0 hj (ty_20 hK) hdg (kk H locs ls hP hD hS hl)
theorem b_ast25_20 (hX : CX X D (tyl dT) cc own Ts rm nL) (hM0 : XMX X Z) {i j : Nat} {x : Int32} (hL : i ∈ L) (hKi : K i = 25) (hLj : j ∈ L) (hKj : K j = 20) (hi : vp_in x (N i)) (hdg : decode cc pc = .ok (.aastore, 1)) (kk : GG X D ad L (pf dT K N I (up2 Rr i x.toNatClampNeg (some j)) ad) lv ce sl (pc + 1) st) : GG X D ad L (pf dT K N I Rr ad) lv ce sl pc (.ref (ad j) :: .int x :: .ref (ad i) :: st) := by
  obtain ⟨p, l, e, R, s, m, args, below, meth, c, Q, nL2, A, H0⟩ := X
  obtain ⟨hx, hb, hml, hown, hts, hK, hA, rfl, rfl, hlk⟩ := hX
  obtain ⟨hXM, rfl⟩ := hM0
  intro H locs ls hP hD hS hl
  obtain ⟨j0, hj0, hj⟩ := pw_get (ad := ad) (f := (pf dT K N I Rr ad)) hL
  obtain ⟨j1, hj1, hjj⟩ := pw_get (ad := ad) (f := (pf dT K N I Rr ad)) hLj
  obtain ⟨xa, hx9⟩ := pf_arr (dT := dT) (N := N) (I := I) (Rr := Rr) (ad := ad) hKj (by omega)
  rw [hx9] at hjj
  have hj2 := hj
  rw [pf_ra hKi (by omega)] at hj2
  have hlt : x.toNatClampNeg < N i := Nat.not_le.mp fun q => hi (Or.inr q)
  have h0 : ¬ x < 0 := fun q => hi (Or.inl q)
  obtain ⟨kA, comp, k1, k2, k3, -⟩ := (hK.2 5 _ rfl).2
  obtain ⟨kE, hkE, -⟩ := Vm.findClass_spec k3
  obtain ⟨c0, t1, f1, f2, f3⟩ := Cond.castable_spec (va_Nw.use (A := args) rfl (hXM.2.2.2.2.2.1 ("[I", "java/lang/Object") (by simp [zCa])))
  cases (ty_20 hK).symm.trans f1
  cases k3.symm.trans f2
  obtain ⟨kC, hkC, -⟩ := Vm.findClass_spec (ty_20 hK)
  have hcell : H[ad j]? = some (vp_cell (dT 20) xa) := hP j1 _ hjj
  refine W.aast hx hb (hP j0 _ hj2) (fun q h => by cases h) (fun h => by cases h) k1 k2 rfl hkE ⟨h0, by show _ < (arrV _ _ _).slots.size; rw [arrV_size]; exact hlt⟩ hcell (fun q h => by rw [cell_none] at h; cases h) (by rw [cell_cls]; exact hkC) (by rw [cell_cls]; exact f3) rfl rfl hdg fun H1 e9 z oq => ?_
  have hset : (pw ad L (pf dT K N I Rr ad)).set j0 (ad i, .inl (dT 25, N i, .inr (.inr (.inr (.inr (va_up (fun q => (Rr i q).map ad) x.toNatClampNeg ((some j).map ad))))))) = pw ad L (pf dT K N I (up2 Rr i x.toNatClampNeg (some j)) ad) := by
    rw [pw_set hD hj0, pf_putQ hKi (by omega)]
  have hcell1 : H1[ad i]? = some (vp_cell (dT 25) (N i, .inr (.inr (.inr (.inr (va_up (fun q => (Rr i q).map ad) x.toNatClampNeg ((some j).map ad))))))) := by
    rw [e9, vp_cell_q, vp_cell_q, arrV_store]
    congr 2
    funext q
    by_cases hq : q = x.toNatClampNeg
    · subst hq
      simp [updV, va_up, va_rf]
    · simp [updV, va_up, hq]
  exact kk H1 _ ls (hset ▸ hP.set hD hj hcell1 oq) (hset ▸ hD.set hj) (hS.put z oq (hD.2 j0 _ hj2)) hl
theorem b_cast21 (hX : CX X D (tyl dT) cc own Ts rm nL) {i ix : Nat} (hL : i ∈ L) (hKi : K i = 21) (hlink : Cond.classLink own ix "[Z" ∈ Ts) (hdg : decode cc pc = .ok (.checkcast ix, 3)) (kk : GG X D ad L (pf dT K N I Rr ad) lv ce sl (pc + 3) (.ref (ad i) :: st)) : GG X D ad L (pf dT K N I Rr ad) lv ce sl pc (.ref (ad i) :: st) := by
  obtain ⟨p, l, e, R, s, m, args, below, meth, c, Q, nL2, A, H0⟩ := X
  obtain ⟨hx, hb, hml, hown, hts, hK, hA, rfl, rfl, hlk⟩ := hX
  intro H locs ls hP hD hS hl
  obtain ⟨j0, hj0, hj⟩ := pw_get (ad := ad) (f := (pf dT K N I Rr ad)) hL
  obtain ⟨x, hx9⟩ := pf_arr (dT := dT) (N := N) (I := I) (Rr := Rr) (ad := ad) hKi (by omega)
  rw [hx9] at hj
  exact va_castA hx hb hown (hts _ hlink) hP j0 hj (ty_21 hK) hdg (kk H locs ls hP hD hS hl)
theorem b_cast26 (hX : CX X D (tyl dT) cc own Ts rm nL) {i ix : Nat} (hL : i ∈ L) (hKi : K i = 26) (hlink : Cond.classLink own ix "[[Z" ∈ Ts) (hdg : decode cc pc = .ok (.checkcast ix, 3)) (kk : GG X D ad L (pf dT K N I Rr ad) lv ce sl (pc + 3) (.ref (ad i) :: st)) : GG X D ad L (pf dT K N I Rr ad) lv ce sl pc (.ref (ad i) :: st) := by
  obtain ⟨p, l, e, R, s, m, args, below, meth, c, Q, nL2, A, H0⟩ := X
  obtain ⟨hx, hb, hml, hown, hts, hK, hA, rfl, rfl, hlk⟩ := hX
  intro H locs ls hP hD hS hl
  obtain ⟨j0, hj0, hj⟩ := pw_get (ad := ad) (f := (pf dT K N I Rr ad)) hL
  obtain ⟨x, hx9⟩ := pf_arr (dT := dT) (N := N) (I := I) (Rr := Rr) (ad := ad) hKi (by omega)
  rw [hx9] at hj
  exact va_castA hx hb hown (hts _ hlink) hP j0 hj (ty_26 hK) hdg (kk H locs ls hP hD hS hl)
theorem b_ast25_26 (hX : CX X D (tyl dT) cc own Ts rm nL) (hM0 : XMX X Z) {i j : Nat} {x : Int32} (hL : i ∈ L) (hKi : K i = 25) (hLj : j ∈ L) (hKj : K j = 26) (hi : vp_in x (N i)) (hdg : decode cc pc = .ok (.aastore, 1)) (kk : GG X D ad L (pf dT K N I (up2 Rr i x.toNatClampNeg (some j)) ad) lv ce sl (pc + 1) st) : GG X D ad L (pf dT K N I Rr ad) lv ce sl pc (.ref (ad j) :: .int x :: .ref (ad i) :: st) := by
  obtain ⟨p, l, e, R, s, m, args, below, meth, c, Q, nL2, A, H0⟩ := X
  obtain ⟨hx, hb, hml, hown, hts, hK, hA, rfl, rfl, hlk⟩ := hX
  obtain ⟨hXM, rfl⟩ := hM0
  intro H locs ls hP hD hS hl
  obtain ⟨j0, hj0, hj⟩ := pw_get (ad := ad) (f := (pf dT K N I Rr ad)) hL
  obtain ⟨j1, hj1, hjj⟩ := pw_get (ad := ad) (f := (pf dT K N I Rr ad)) hLj
  obtain ⟨xa, hx9⟩ := pf_arr (dT := dT) (N := N) (I := I) (Rr := Rr) (ad := ad) hKj (by omega)
  rw [hx9] at hjj
  have hj2 := hj
  rw [pf_ra hKi (by omega)] at hj2
  have hlt : x.toNatClampNeg < N i := Nat.not_le.mp fun q => hi (Or.inr q)
  have h0 : ¬ x < 0 := fun q => hi (Or.inl q)
  obtain ⟨kA, comp, k1, k2, k3, -⟩ := (hK.2 5 _ rfl).2
  obtain ⟨kE, hkE, -⟩ := Vm.findClass_spec k3
  obtain ⟨c0, t1, f1, f2, f3⟩ := Cond.castable_spec (va_Nw.use (A := args) rfl (hXM.2.2.2.2.2.1 ("[[Z", "java/lang/Object") (by simp [zCa])))
  cases (ty_26 hK).symm.trans f1
  cases k3.symm.trans f2
  obtain ⟨kC, hkC, -⟩ := Vm.findClass_spec (ty_26 hK)
  have hcell : H[ad j]? = some (vp_cell (dT 26) xa) := hP j1 _ hjj
  refine W.aast hx hb (hP j0 _ hj2) (fun q h => by cases h) (fun h => by cases h) k1 k2 rfl hkE ⟨h0, by show _ < (arrV _ _ _).slots.size; rw [arrV_size]; exact hlt⟩ hcell (fun q h => by rw [cell_none] at h; cases h) (by rw [cell_cls]; exact hkC) (by rw [cell_cls]; exact f3) rfl rfl hdg fun H1 e9 z oq => ?_
  have hset : (pw ad L (pf dT K N I Rr ad)).set j0 (ad i, .inl (dT 25, N i, .inr (.inr (.inr (.inr (va_up (fun q => (Rr i q).map ad) x.toNatClampNeg ((some j).map ad))))))) = pw ad L (pf dT K N I (up2 Rr i x.toNatClampNeg (some j)) ad) := by
    rw [pw_set hD hj0, pf_putQ hKi (by omega)]
  have hcell1 : H1[ad i]? = some (vp_cell (dT 25) (N i, .inr (.inr (.inr (.inr (va_up (fun q => (Rr i q).map ad) x.toNatClampNeg ((some j).map ad))))))) := by
    rw [e9, vp_cell_q, vp_cell_q, arrV_store]
    congr 2
    funext q
    by_cases hq : q = x.toNatClampNeg
    · subst hq
      simp [updV, va_up, va_rf]
    · simp [updV, va_up, hq]
  exact kk H1 _ ls (hset ▸ hP.set hD hj hcell1 oq) (hset ▸ hD.set hj) (hS.put z oq (hD.2 j0 _ hj2)) hl
theorem b_astN25 (hX : CX X D (tyl dT) cc own Ts rm nL) {i : Nat} {x : Int32} (hL : i ∈ L) (hKi : K i = 25) (hi : vp_in x (N i)) (hdg : decode cc pc = .ok (.aastore, 1)) (kk : GG X D ad L (pf dT K N I (up2 Rr i x.toNatClampNeg none) ad) lv ce sl (pc + 1) st) : GG X D ad L (pf dT K N I Rr ad) lv ce sl pc (.null :: .int x :: .ref (ad i) :: st) := by
  obtain ⟨p, l, e, R, s, m, args, below, meth, c, Q, nL2, A, H0⟩ := X
  obtain ⟨hx, hb, hml, hown, hts, hK, hA, rfl, rfl, hlk⟩ := hX
  intro H locs ls hP hD hS hl
  obtain ⟨j0, hj0, hj⟩ := pw_get (ad := ad) (f := (pf dT K N I Rr ad)) hL
  have hj2 := hj
  rw [pf_ra hKi (by omega)] at hj2
  refine va_astqN hx hb hK hP hD hS j0 5 hj2 rfl hi hdg (fun H1 locs1 hP1 hD1 hS1 => ?_)
  rw [pw_set hD hj0, show va_up (fun j => (Rr i j).map ad) x.toNatClampNeg none = va_up (fun j => (Rr i j).map ad) x.toNatClampNeg ((none : Option Nat).map ad) from rfl, pf_putQ hKi (by omega)] at hP1 hD1
  exact kk H1 locs1 ls hP1 hD1 hS1 hl
theorem b_ast26 (hX : CX X D (tyl dT) cc own Ts rm nL) (hM0 : XMX X Z) {i j : Nat} {x : Int32} (hL : i ∈ L) (hKi : K i = 26) (hLj : j ∈ L) (hKj : K j = 21) (hi : vp_in x (N i)) (hdg : decode cc pc = .ok (.aastore, 1)) (kk : GG X D ad L (pf dT K N I (up2 Rr i x.toNatClampNeg (some j)) ad) lv ce sl (pc + 1) st) : GG X D ad L (pf dT K N I Rr ad) lv ce sl pc (.ref (ad j) :: .int x :: .ref (ad i) :: st) := by
  obtain ⟨p, l, e, R, s, m, args, below, meth, c, Q, nL2, A, H0⟩ := X
  obtain ⟨hx, hb, hml, hown, hts, hK, hA, rfl, rfl, hlk⟩ := hX
  obtain ⟨hXM, rfl⟩ := hM0
  intro H locs ls hP hD hS hl
  obtain ⟨j0, hj0, hj⟩ := pw_get (ad := ad) (f := (pf dT K N I Rr ad)) hL
  obtain ⟨j1, hj1, hjj⟩ := pw_get (ad := ad) (f := (pf dT K N I Rr ad)) hLj
  obtain ⟨xa, hx9⟩ := pf_arr (dT := dT) (N := N) (I := I) (Rr := Rr) (ad := ad) hKj (by omega)
  rw [hx9] at hjj
  have hj2 := hj
  rw [pf_ra hKi (by omega)] at hj2
  have hlt : x.toNatClampNeg < N i := Nat.not_le.mp fun q => hi (Or.inr q)
  have h0 : ¬ x < 0 := fun q => hi (Or.inl q)
  obtain ⟨comp, cA, kA, g1, -, k1, k2, g2⟩ := Jvm.Stand.arrayOver_specB (args := #[]) (first := s) (o := none) (idx := []) (hXM.2.2.2.2.2.2.2.2.1)
  rw [nm_ZZ] at g2
  cases g2.symm.trans (ty_26 hK)
  rw [nm_Z] at g1
  cases g1.symm.trans (ty_21 hK)
  obtain ⟨kC, hkC, -⟩ := Vm.findClass_spec (ty_21 hK)
  have hcell : H[ad j]? = some (vp_cell (dT 21) xa) := hP j1 _ hjj
  refine W.aast hx hb (hP j0 _ hj2) (fun q h => by cases h) (fun h => by cases h) k1 k2 rfl hkC ⟨h0, by show _ < (arrV _ _ _).slots.size; rw [arrV_size]; exact hlt⟩ hcell (fun q h => by rw [cell_none] at h; cases h) (by rw [cell_cls]; exact hkC) (by rw [cell_cls]; exact va_asg _ _) rfl rfl hdg fun H1 e9 z oq => ?_
  have hset : (pw ad L (pf dT K N I Rr ad)).set j0 (ad i, .inl (dT 26, N i, .inr (.inr (.inr (.inr (va_up (fun q => (Rr i q).map ad) x.toNatClampNeg ((some j).map ad))))))) = pw ad L (pf dT K N I (up2 Rr i x.toNatClampNeg (some j)) ad) := by
    rw [pw_set hD hj0, pf_putQ hKi (by omega)]
  have hcell1 : H1[ad i]? = some (vp_cell (dT 26) (N i, .inr (.inr (.inr (.inr (va_up (fun q => (Rr i q).map ad) x.toNatClampNeg ((some j).map ad))))))) := by
    rw [e9, vp_cell_q, vp_cell_q, arrV_store]
    congr 2
    funext q
    by_cases hq : q = x.toNatClampNeg
    · subst hq
      simp [updV, va_up, va_rf]
    · simp [updV, va_up, hq]
  exact kk H1 _ ls (hset ▸ hP.set hD hj hcell1 oq) (hset ▸ hD.set hj) (hS.put z oq (hD.2 j0 _ hj2)) hl
theorem b_ldcM (hX : CX X D (tyl dT) cc own Ts rm nL) (hM0 : XMX X Z) {ix : Nat} (hlink : Cond.classLink own ix "[Ljava/lang/Object;" ∈ Ts) (hdg : decode cc pc = .ok (.ldc ix, 2)) (kk : GG X D ad L f lv ce sl (pc + 2) (.ref Z.2.2.2 :: st)) : GG X D ad L f lv ce sl pc st := by
  obtain ⟨p, l, e, R, s, m, args, below, meth, c, Q, nL2, A, H0⟩ := X
  obtain ⟨hx, hb, hml, hown, hts, hK, hA, rfl, rfl, hlk⟩ := hX
  obtain ⟨hXM, rfl⟩ := hM0
  intro H locs ls hP hD hS hl
  exact va_ldcM hx hb hown (hts _ hlink) hXM.2.2.2.2.2.2.2.2.2.1 hdg (kk H locs ls hP hD hS hl)
theorem b_getC (hX : CX X D (tyl dT) cc own Ts rm nL) (hM0 : XMX X Z) {i ix : Nat} (hL : i ∈ L) (hKi : K i = 25) (h1 : Cond.methodLink own ix ⟨"java/lang/Object", "getClass", "()Ljava/lang/Class;"⟩ ∈ Ts) (h2 : Cond.selects "[Ljava/lang/Object;" ⟨"java/lang/Object", "getClass", "()Ljava/lang/Class;"⟩ ⟨"java/lang/Object", "getClass", "()Ljava/lang/Class;"⟩ ∈ Ts) (h3 : Cond.instanceMethod ⟨"java/lang/Object", "getClass", "()Ljava/lang/Class;"⟩ ∈ Ts) (h4 : Cond.native ⟨"java/lang/Object", "getClass", "()Ljava/lang/Class;"⟩ ∈ Ts) (hfr : 1 ≤ rm.frames) (hlo : (st.map fun v => v.category).sum + 14 ≤ rm.locals) (hdg : decode cc pc = .ok (.invokevirtual ix, 3)) (kk : GG X D ad L (pf dT K N I Rr ad) lv ce sl (pc + 3) (.ref Z.2.2.2 :: st)) : GG X D ad L (pf dT K N I Rr ad) lv ce sl pc (.ref (ad i) :: st) := by
  obtain ⟨p, l, e, R, s, m, args, below, meth, c, Q, nL2, A, H0⟩ := X
  obtain ⟨hx, hb, hml, hown, hts, hK, hA, rfl, rfl, hlk⟩ := hX
  obtain ⟨hXM, rfl⟩ := hM0
  intro H locs ls hP hD hS hl
  obtain ⟨j0, hj0, hj⟩ := pw_get (ad := ad) (f := (pf dT K N I Rr ad)) hL
  obtain ⟨x, hx9⟩ := pf_arr (dT := dT) (N := N) (I := I) (Rr := Rr) (ad := ad) hKi (by omega)
  rw [hx9] at hj
  exact va_getC hx hb (hml.trans hl.1.symm) hown (hts _ h1) (va_Dc.use hXM.2.2.2.2.2.2.2.2.2.2.1) (hts _ h2) (hts _ h3) (hts _ h4) hXM.2.2.2.2.2.2.2.2.2.1 ⟨_, hP j0 _ hj, by rw [cell_none]; rfl, by rw [cell_cls]; exact ty_25 hK⟩ hfr hlo hdg (kk H locs ls hP hD hS hl)
theorem pf_upr {i kd : Nat} {g : Nat → Option Nat} (hK : K i = kd) (h : 22 ≤ kd) : va_up (pf dT K N I Rr ad) i (.inl (dT kd, N i, .inr (.inr (.inr (.inr (fun k => (g k).map ad)))))) = pf dT K N I (fun a => if a = i then g else Rr a) ad := by
  funext j
  by_cases hj : j = i
  · subst hj
    rw [pf_ra hK h, show va_up (pf dT K N I Rr ad) j _ j = _ from if_pos rfl, if_pos rfl]
  · rw [va_up_ne _ _ hj]
    unfold pf
    simp only [if_neg hj]
theorem b_copyq (hX : CX X D (tyl dT) cc own Ts rm nL) (hM0 : XMX X Z) {i j ix kd n : Nat} {C : String} (hL : i ∈ L) (hKi : K i = 25) (hLj : j ∈ L) (hKj : K j = 25) (hC : (C = "[I" ∧ kd = 20) ∨ (C = "[[Z" ∧ kd = 26)) (hn : n ≤ N i) (hn2 : n ≤ N j) (h31 : n < 2 ^ 31) (hel : ∀ k, k < n → ∀ y, Rr i k = some y → y ∈ L ∧ K y = kd) (h1 : Cond.methodLink own ix arraycopyName ∈ Ts) (h2 : Cond.native arraycopyName ∈ Ts) (h3 : Cond.static arraycopyName ∈ Ts) (h4 : Cond.initialized "java/lang/System" ∈ Ts) (hfr : 1 ≤ rm.frames) (hlo : (st.map fun v => v.category).sum + (nativeFrameWords "java/lang/System" "arraycopy" 5 + 11) ≤ rm.locals) (hdg : decode cc pc = .ok (.invokestatic ix, 3)) (kk : GG X D ad L (pf dT K N I (fun a => if a = j then fun k => if k < n then Rr i k else Rr j k else Rr a) ad) lv ce sl (pc + 3) st) : GG X D ad L (pf dT K N I Rr ad) lv ce sl pc (.int (nI n) :: .int 0 :: .ref (ad j) :: .int 0 :: .ref (ad i) :: st) := by
  obtain ⟨p, l, e, R, s, m, args, below, meth, c, Q, nL2, A, H0⟩ := X
  obtain ⟨hx, hb, hml, hown, hts, hK, hA, rfl, rfl, hlk⟩ := hX
  obtain ⟨hXM, rfl⟩ := hM0
  intro H locs ls hP hD hS hl
  obtain ⟨j0, hj0, hj⟩ := pw_get (ad := ad) (f := (pf dT K N I Rr ad)) hL
  obtain ⟨j1, hj1, hjj⟩ := pw_get (ad := ad) (f := (pf dT K N I Rr ad)) hLj
  rw [pf_ra hKi (by omega)] at hj
  rw [pf_ra hKj (by omega)] at hjj
  have ec : (nI n).toNatClampNeg = n := nI_clamp h31
  have e0 : (0 : Int32).toNatClampNeg = 0 := by decide
  refine va_copyq (C := C) hx hb (hml.trans hl.1.symm) hown (hts _ h1) (hts _ h2) (hts _ h3) (hts _ h4) hK hP hD hS j0 j1 5 5 hj hjj rfl rfl (by decide) (by decide) (nI_pos h31) (by rw [ec, e0]; omega) (by rw [ec, e0]; omega) (fun k hk y hy => ?_) (fun comp c0 hc1 hc2 => ?_) hfr hlo hdg (fun H1 locs1 hP1 hD1 hS1 => ?_)
  · rw [ec] at hk
    rw [e0, Nat.zero_add] at hy
    cases hr : Rr i k with
    | none => rw [hr] at hy; cases hy
    | some y0 =>
      rw [hr] at hy
      cases hy
      obtain ⟨m1, m2⟩ := hel k hk y0 hr
      obtain ⟨j2, hj2, hjy⟩ := pw_get (ad := ad) (f := (pf dT K N I Rr ad)) m1
      rcases hC with ⟨rfl, rfl⟩ | ⟨rfl, rfl⟩
      · obtain ⟨x, hx9⟩ := pf_arr (dT := dT) (N := N) (I := I) (Rr := Rr) (ad := ad) m2 (by omega)
        rw [hx9] at hjy
        exact ⟨_, hP j2 _ hjy, by rw [cell_none]; rfl, by rw [cell_cls]; exact ty_20 hK⟩
      · obtain ⟨x, hx9⟩ := pf_arr (dT := dT) (N := N) (I := I) (Rr := Rr) (ad := ad) m2 (by omega)
        rw [hx9] at hjy
        exact ⟨_, hP j2 _ hjy, by rw [cell_none]; rfl, by rw [cell_cls]; exact ty_26 hK⟩
  · rcases hC with ⟨rfl, rfl⟩ | ⟨rfl, rfl⟩
    · exact vb_asgC (hXM.2.2.2.2.2.1 ("[I", "java/lang/Object") (by simp [zCa])) comp c0 hc1 hc2
    · exact vb_asgC (hXM.2.2.2.2.2.1 ("[[Z", "java/lang/Object") (by simp [zCa])) comp c0 hc1 hc2
  · rw [ec, e0] at hP1 hD1
    have e9 : va_cpy (fun k => (Rr i k).map ad) (fun k => (Rr j k).map ad) 0 0 n = fun k => ((fun k => if k < n then Rr i k else Rr j k) k).map ad := by
      funext k
      unfold va_cpy
      by_cases hk : k < n
      · rw [if_pos ⟨Nat.zero_le _, by omega⟩]
        simp only [hk, if_true, Nat.sub_zero, Nat.zero_add]
      · rw [if_neg (by omega)]
        simp only [hk, if_false]
    rw [e9, pw_set hD hj1, pf_upr hKj (by omega)] at hP1 hD1
    exact kk H1 locs1 ls hP1 hD1 hS1 hl
theorem b_clone (hX : CX X D (tyl dT) cc own Ts rm nL) (hM0 : XMX X Z) {i ix : Nat} (n : Nat) (hn : n ∉ L) (hR : ∀ i ∈ L, ∀ k, Rr i k ≠ some n) (hL : i ∈ L) (hKi : K i = 21) (hKn : K n = 21) (hNn : N n = N i) (h1 : Cond.methodLink own ix ⟨"[Z", "clone", "()Ljava/lang/Object;"⟩ ∈ Ts) (h2 : Cond.sameMethod "[Z" "java/lang/Object" "clone" "()Ljava/lang/Object;" ∈ Ts) (h3 : Cond.native ⟨"java/lang/Object", "clone", "()Ljava/lang/Object;"⟩ ∈ Ts) (h4 : Cond.instanceMethod ⟨"java/lang/Object", "clone", "()Ljava/lang/Object;"⟩ ∈ Ts) (h5 : Cond.selects "[Z" ⟨"[Z", "clone", "()Ljava/lang/Object;"⟩ ⟨"java/lang/Object", "clone", "()Ljava/lang/Object;"⟩ ∈ Ts) (h01 : ∀ k, k < N i → I i k = 0 ∨ I i k = 1) (hfr : 1 ≤ rm.frames) (hlo : (st.map fun v => v.category).sum + 14 ≤ rm.locals) (hce : ce + 1 ≤ rm.cells) (hsl : sl + N i ≤ rm.slots) (hdg : decode cc pc = .ok (.invokevirtual ix, 3))
    (kk : ∀ q, GG X D (va_up ad n q) (L ++ [n]) (pf dT K N (upr I n (I i)) Rr (va_up ad n q)) lv (ce + 1) (sl + N i) (pc + 3) (.ref (va_up ad n q n) :: st)) : GG X D ad L (pf dT K N I Rr ad) lv ce sl pc (.ref (ad i) :: st) := by
  obtain ⟨p, l, e, R, s, m, args, below, meth, c, Q, nL2, A, H0⟩ := X
  obtain ⟨hx, hb, hml, hown, hts, hK, hA, rfl, rfl, hlk⟩ := hX
  obtain ⟨hXM, rfl⟩ := hM0
  intro H locs ls hP hD hS hl
  obtain ⟨j0, hj0, hj⟩ := pw_get (ad := ad) (f := (pf dT K N I Rr ad)) hL
  rw [pf_ia hKi (by omega)] at hj
  refine va_clone hx hb (hml.trans hl.1.symm) hown (hts _ h1) (hts _ h2) (hts _ h3) (hts _ h4) (hts _ h5) (hXM.2.2.2.2.2.1 ("[Z", "java/lang/Cloneable") (by simp [zCa])) hK hP hD hS hA j0 1 hj rfl (ty_21 hK) (va_fit (F := fun j => .int (I i j)) (fun k hk => by rcases h01 k hk with h | h <;> (rw [h]; rfl))) hfr hlo hce hsl hdg (fun q H1 hK1 hP1 hD1 hS1 => ?_)
  have e1 : (pf dT K N I Rr ad) = pf dT K N I Rr ad := rfl
  have hw : pw ad L (pf dT K N I Rr ad) = pw ad L (pf dT K N (upr I n (I i)) Rr ad) := pw_congr (fun k hk => by
    have : k ≠ n := fun h => hn (h ▸ hk)
    unfold pf upr
    rw [if_neg this])
  have he : pf dT K N (upr I n (I i)) Rr (va_up ad n q) n = .inl (dT 21, N i, .inl (I i)) := by
    rw [pf_ia hKn (by omega), hNn]
    unfold upr
    rw [if_pos rfl]
  rw [hw, pw_new hn hR he] at hP1 hD1
  have := kk q H1 locs ls hP1 hD1 hS1 hl
  rw [show va_up ad n q n = q from if_pos rfl] at this
  exact this
theorem b_newR26 (hX : CX X D (tyl dT) cc own Ts rm nL) (hM0 : XMX X Z) (n : Nat) (hn : n ∉ L) (hR : ∀ i ∈ L, ∀ k, Rr i k ≠ some n) (len : Nat) (hKn : K n = 26) (hNn : N n = len) (hRn : ∀ k, Rr n k = none) {ix : Nat} {x : Int32} (hx9 : x = nI len) (hb9 : len < 100000) (hcl : Cond.classLink own ix "[Z" ∈ Ts) (hce : ce + 1 ≤ rm.cells) (hsl : sl + len ≤ rm.slots) (hdg : decode cc pc = .ok (.anewarray ix, 3))
    (kk : ∀ q, GG X D (va_up ad n q) (L ++ [n]) (pf dT K N I Rr (va_up ad n q)) lv (ce + 1) (sl + len) (pc + 3) (.ref (va_up ad n q n) :: st)) : GG X D ad L (pf dT K N I Rr ad) lv ce sl pc (.int x :: st) := by
  obtain ⟨p, l, e, R, s, m, args, below, meth, c, Q, nL2, A, H0⟩ := X
  obtain ⟨hx, hb, hml, hown, hts, hK, hA, rfl, rfl, hlk⟩ := hX
  obtain ⟨hXM, rfl⟩ := hM0
  intro H locs ls hP hD hS hl
  subst hx9
  intro T hT X
  have ec : (nI len).toNatClampNeg = len := nI_clamp (by omega)
  obtain ⟨vm₁, cA, kA, comp, hW, g1, g2, g3, g4, X', step⟩ := X.anewarrayArrK hx hown (index := ix) (ty := .boolean) (by rw [nm_Z]; exact hts _ hcl) (hXM.2.2.2.2.2.2.2.2.1) (g := F0 m pc ls (.int (nI len) :: st)) rfl (by rw [hb]; exact hdg) rfl (nI_pos (by omega)) (by rw [ec]; omega) hce (by rw [ec]; exact hsl)
  rw [nm_ZZ] at g1
  cases g1.symm.trans (ty_26 hK)
  rw [ec] at X' step
  generalize hH1 : H.push ({ cls := dT 26, slots := Array.replicate len .null, vm := .none } : Cell) = H1
  have z1 : H1.size = H.size + 1 := by rw [← hH1, Array.size_push]
  have e1 : H1[H.size]? = some (arrV (dT 26) len (fun _ => .null)) := by rw [← hH1, Array.getElem?_push_size, ← arrV_new]
  have o1 : ∀ q : Nat, q < H.size → H1[q]? = H[q]? := fun q hq => by rw [← hH1, Array.getElem?_push, if_neg (Nat.ne_of_lt hq)]
  have hk : ∀ (k : Nat) (y : Nat × va_E), (pw ad L (pf dT K N I Rr ad))[k]? = some y → H1[y.1]? = H[y.1]? := fun k y hy => o1 y.1 ((hP k y hy).lt)
  have he : pf dT K N I Rr (va_up ad n H.size) n = .inl (dT 26, len, .inr (.inr (.inr (.inr (fun _ => none))))) := by
    rw [pf_ra hKn (by omega), hNn, show (fun j => (Rr n j).map (va_up ad n H.size)) = fun _ => none from funext (fun j => by rw [hRn j]; rfl)]
  have hP1 : va_P D vwCl (pw ad L (pf dT K N I Rr ad) ++ [(H.size, .inl (dT 26, len, .inr (.inr (.inr (.inr (fun _ => none))))))]) H1 := (hP.kept hk).app (fun k y hy => by
    have hz : k < 1 := (List.getElem?_eq_some_iff.mp hy).1
    rw [show k = 0 by omega] at hy
    cases hy
    show H1[H.size]? = some (vp_cell _ _)
    rw [vp_cell_q]
    exact e1)
  have hD1 : va_D A (pw ad L (pf dT K N I Rr ad) ++ [(H.size, .inl (dT 26, len, .inr (.inr (.inr (.inr (fun _ => none))))))]) := hD.push hP rfl (hA _ hS.1)
  rw [pw_new hn hR he] at hP1 hD1
  have kq := kk H.size H1 locs ls hP1 hD1 ⟨Nat.le_trans hS.1 (by omega), fun y h1 h2 => (o1 y (Nat.lt_of_lt_of_le h1 hS.1)).trans (hS.2.1 y h1 h2), hS.2.2⟩ hl
  rw [show va_up ad n H.size n = H.size from if_pos rfl] at kq
  obtain ⟨t, b1, b2⟩ := kq ((T.setVm vm₁).pushCell { cls := dT 26, slots := Array.replicate len .null, vm := .none }) (by rw [← hH1, ← hT]; rfl) X'
  refine ⟨t, step t ?_, b2⟩
  rw [hT]
  exact b1
theorem b_multi (hX : CX X D (tyl dT) cc own Ts rm nL) (hM0 : XMX X Z) (ad2 : Nat → Nat → Nat) (L2 : List Nat) (f2 : Nat → Nat → va_E) (hpw : ∀ q, pw ad L f ++ ((q, (.inl (dT 26, 200, .inr (.inr (.inr (.inr (fun k => if k < 200 then some (q + 1 + k) else none))))) : va_E)) :: (List.range 200).map (fun k => (q + 1 + k, (.inl (dT 21, 16, .inl (fun _ => 0)) : va_E)))) = pw (ad2 q) L2 (f2 q)) {ix : Nat} {va vb : Int32} (h200 : va = 200) (h16 : vb = 16) (hlink : Cond.classLink own ix "[[Z" ∈ Ts) (harr : Cond.arrayClass .boolean ∈ Ts) (hce : ce + 201 ≤ rm.cells) (hsl : sl + 3400 ≤ rm.slots) (hdg : decode cc pc = .ok (.multianewarray ix 2, 4))
    (kk : ∀ q, GG X D (ad2 q) L2 (f2 q) lv (ce + 201) (sl + 3400) (pc + 4) (.ref q :: st)) : GG X D ad L f lv ce sl pc (.int vb :: .int va :: st) := by
  obtain ⟨p, l, e, R, s, m, args, below, meth, c, Q, nL2, A, H0⟩ := X
  obtain ⟨hx, hb, hml, hown, hts, hK, hA, rfl, rfl, hlk⟩ := hX
  obtain ⟨hXM, rfl⟩ := hM0
  intro H locs ls hP hD hS hl
  subst h200; subst h16
  intro T hT X
  obtain ⟨vm₁, cA, comp, hW, hfA, hfC, hO, hI, X1, step⟩ := X.multianewarray2F hx hown (index := ix) (ty := .boolean) (by rw [nm_ZZ]; exact hts _ hlink) (hXM.2.2.2.2.2.2.2.2.1) (hts _ harr) (g := F0 m pc ls (.int 16 :: .int 200 :: st)) rfl (by rw [hb]; exact hdg) rfl (by decide) (by decide) (by decide) (by decide) (by decide) rfl rfl (by show ce + (1 + 200) ≤ _; omega) (by show sl + (200 + 200 * 16) ≤ _; omega)
  rw [nm_ZZ] at hfA
  rw [nm_Z] at hfC
  cases hfA.symm.trans (ty_26 hK)
  cases hfC.symm.trans (ty_21 hK)
  have e200 : (200 : Int32).toNatClampNeg = 200 := by decide
  have e16 : (16 : Int32).toNatClampNeg = 16 := by decide
  rw [e200, e16] at X1 step
  obtain ⟨f1, f2', f3, f4⟩ := Jvm.Free.Multi.fill_facts (T.setVm vm₁) (dT 26) (dT 21) 200 16 (defaultValue .boolean) 200
  have fo := fun (a : Addr) (ha : a < T.heap.size) => Jvm.Free.Multi.fill_old (T.setVm vm₁) (dT 26) (dT 21) 200 16 (defaultValue .boolean) (a := a) ha 200
  have fi := fun (j : Nat) (hj : j < 200) => Jvm.Free.Multi.fill_inner (T.setVm vm₁) (dT 26) (dT 21) 200 16 (defaultValue .boolean) 200 j hj
  obtain ⟨o1, o2, o3⟩ := Jvm.Free.Multi.outerC_facts (dT 26) 200 T.heap.size 200
  have os := fun (j : Nat) (hj : j < 200) => Jvm.Free.Multi.outerC_slot (dT 26) 200 T.heap.size 200 j hj
  have eT1 : (T.setVm vm₁).heap = H := hT
  rw [eT1] at f1 f2' fi
  rw [hT] at fo o1 o2 o3 os step
  have fo' : ∀ a : Nat, a < H.size → (Jvm.Free.Multi.fill (T.setVm vm₁) (dT 26) (dT 21) 200 16 (defaultValue .boolean) 200).heap[a]? = H[a]? := fun a ha => (fo a ha).trans (by rw [eT1])
  generalize hH1 : (Jvm.Free.Multi.fill (T.setVm vm₁) (dT 26) (dT 21) 200 16 (defaultValue .boolean) 200).heap = H1 at f1 f2' fi fo'
  have hout : Jvm.Free.Multi.outerC (dT 26) 200 H.size 200 = vp_cell (dT 26) (200, .inr (.inr (.inr (.inr (fun k => if k < 200 then some (H.size + 1 + k) else none))))) := by
    rw [vp_cell_q]
    have hs : (Jvm.Free.Multi.outerC (dT 26) 200 H.size 200).slots = (arrV (dT 26) 200 (fun j => va_rf (if j < 200 then some (H.size + 1 + j) else none))).slots := by
      apply Array.ext_getElem?
      intro j
      by_cases hj : j < 200
      · rw [os j hj, arrV_read _ _ hj, if_pos hj, if_pos hj]; rfl
      · rw [Array.getElem?_eq_none (by rw [o3]; omega), Array.getElem?_eq_none (by rw [arrV_size]; omega)]
    exact cell_ext (outer_ext _ _ _ .null _) hs
  generalize hWn : ((H.size, (.inl (dT 26, 200, .inr (.inr (.inr (.inr (fun k => if k < 200 then some (H.size + 1 + k) else none))))) : va_E)) :: (List.range 200).map (fun k => (H.size + 1 + k, (.inl (dT 21, 16, .inl (fun _ => 0)) : va_E)))) = Wn
  have hnew : ∀ (k : Nat) (y : Nat × va_E), Wn[k]? = some y → y.1 = H.size + k ∧ va_at D vwCl y H1 := by
    intro k y hy
    rw [← hWn] at hy
    cases k with
    | zero =>
      cases hy
      exact ⟨rfl, by show H1[H.size]? = some (vp_cell _ _); rw [f2', hout]⟩
    | succ k =>
      rw [List.getElem?_cons_succ, List.getElem?_map] at hy
      by_cases hk : k < 200
      · rw [List.getElem?_range hk] at hy
        cases hy
        refine ⟨by show H.size + 1 + k = H.size + (k + 1); omega, ?_⟩
        show H1[H.size + 1 + k]? = some (vp_cell _ _)
        rw [fi k hk, vp_cell_i, ← arrV_new]
        rfl
      · rw [List.getElem?_eq_none (by rw [List.length_range]; omega)] at hy
        cases hy
  have hP1 : va_P D vwCl (pw ad L f ++ Wn) H1 := (hP.kept (fun k y hy => fo' y.1 ((hP k y hy).lt))).app (fun k y hy => (hnew k y hy).2)
  have hD1 : va_D A (pw ad L f ++ Wn) := by
    refine ⟨fun a b x y ha hb9 hxy => ?_, fun k y hy => ?_⟩
    · by_cases h1 : a < (pw ad L f).length
      · rw [List.getElem?_append_left h1] at ha
        by_cases h2 : b < (pw ad L f).length
        · rw [List.getElem?_append_left h2] at hb9
          exact hD.1 a b x y ha hb9 hxy
        · rw [List.getElem?_append_right (by omega)] at hb9
          have := (hP a x ha).lt
          have := (hnew _ y hb9).1
          omega
      · rw [List.getElem?_append_right (by omega)] at ha
        by_cases h2 : b < (pw ad L f).length
        · rw [List.getElem?_append_left h2] at hb9
          have := (hP b y hb9).lt
          have := (hnew _ x ha).1
          omega
        · rw [List.getElem?_append_right (by omega)] at hb9
          have := (hnew _ x ha).1
          have := (hnew _ y hb9).1
          omega
    · by_cases h1 : k < (pw ad L f).length
      · rw [List.getElem?_append_left h1] at hy
        exact hD.2 k y hy
      · rw [List.getElem?_append_right (by omega)] at hy
        rw [(hnew _ y hy).1]
        exact hA _ (Nat.le_trans hS.1 (Nat.le_add_right _ _))
  rw [← hWn, hpw] at hP1 hD1
  obtain ⟨t, b1, b2⟩ := kk H.size H1 locs ls hP1 hD1 ⟨Nat.le_trans hS.1 (by rw [f1]; omega), fun y h1 h2 => (fo' y (Nat.lt_of_lt_of_le h1 hS.1)).trans (hS.2.1 y h1 h2), hS.2.2⟩ hl _ hH1 X1
  exact ⟨t, step t b1, b2⟩
end GGS
