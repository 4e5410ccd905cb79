def WN (X : EN) (n : String) : Prop := match X with
  | (_, _, _, _, _, _, _, _, meth, _) => meth.name = n
def NT (X : EN) : Prop := match X with
  | (_, l, _) => l.stackTraces = false
def CI (l : Launch) (y : MethodName) (ws : List Cond) (rm : Room) (D : va_G) (tys : List (ClassId × FieldType)) (ad : Nat → Nat) (L : List Nat) (f : Nat → va_E) (av : List Value) (mc ms : Nat) (post : Int32 → US → Prop) : Prop := ∀ sz, Met l y ws rm (va_Pc av (PP D tys ad L f sz)) (va_Qi post (AT D tys ad (va_A (pw ad L f) sz)) (va_A (pw ad L f) sz)) mc ms (va_A (pw ad L f) sz)
def EI (X : EN) (D : va_G) (tys : List (ClassId × FieldType)) (ad : Nat → Nat) (ret : Option FieldType) (mc ms : Nat) (post : Int32 → US → Prop) : Prop := match X with
  | (_, _, _, _, s, _, args, below, meth, _, Q, _, A, H0) => Q = MQ below (va_Qi post (AT D tys ad A) A) args s mc ms A ∧ meth.sig.returnType = ret ∧ H0 = s.heap
def CL (l : Launch) (y : MethodName) (ws : List Cond) (rm : Room) (D : va_G) (tys : List (ClassId × FieldType)) (ad : Nat → Nat) (L : List Nat) (f : Nat → va_E) (av : List Value) (mc ms : Nat) (post : Int64 → US → Prop) : Prop := ∀ sz, Met l y ws rm (va_Pc av (PP D tys ad L f sz)) (va_Ql post (AT D tys ad (va_A (pw ad L f) sz)) (va_A (pw ad L f) sz)) mc ms (va_A (pw ad L f) sz)
def EL (X : EN) (D : va_G) (tys : List (ClassId × FieldType)) (ad : Nat → Nat) (ret : Option FieldType) (mc ms : Nat) (post : Int64 → US → Prop) : Prop := match X with
  | (_, _, _, _, s, _, args, below, meth, _, Q, _, A, H0) => Q = MQ below (va_Ql post (AT D tys ad A) A) args s mc ms A ∧ meth.sig.returnType = ret ∧ H0 = s.heap
def CF (l : Launch) (y : MethodName) (ws : List Cond) (rm : Room) (D : va_G) (tys : List (ClassId × FieldType)) (ad : Nat → Nat) (L : List Nat) (f : Nat → va_E) (av : List Value) (mc ms : Nat) (post : UInt32 → US → Prop) : Prop := ∀ sz, Met l y ws rm (va_Pc av (PP D tys ad L f sz)) (va_Qf post (AT D tys ad (va_A (pw ad L f) sz)) (va_A (pw ad L f) sz)) mc ms (va_A (pw ad L f) sz)
def EF (X : EN) (D : va_G) (tys : List (ClassId × FieldType)) (ad : Nat → Nat) (ret : Option FieldType) (mc ms : Nat) (post : UInt32 → US → Prop) : Prop := match X with
  | (_, _, _, _, s, _, args, below, meth, _, Q, _, A, H0) => Q = MQ below (va_Qf post (AT D tys ad A) A) args s mc ms A ∧ meth.sig.returnType = ret ∧ H0 = s.heap
def CZ (l : Launch) (y : MethodName) (ws : List Cond) (rm : Room) (D : va_G) (tys : List (ClassId × FieldType)) (ad : Nat → Nat) (L : List Nat) (f : Nat → va_E) (av : List Value) (mc ms : Nat) (post : UInt64 → US → Prop) : Prop := ∀ sz, Met l y ws rm (va_Pc av (PP D tys ad L f sz)) (va_Qd post (AT D tys ad (va_A (pw ad L f) sz)) (va_A (pw ad L f) sz)) mc ms (va_A (pw ad L f) sz)
def EZ (X : EN) (D : va_G) (tys : List (ClassId × FieldType)) (ad : Nat → Nat) (ret : Option FieldType) (mc ms : Nat) (post : UInt64 → US → Prop) : Prop := match X with
  | (_, _, _, _, s, _, args, below, meth, _, Q, _, A, H0) => Q = MQ below (va_Qd post (AT D tys ad A) A) args s mc ms A ∧ meth.sig.returnType = ret ∧ H0 = s.heap
def CV (l : Launch) (y : MethodName) (ws : List Cond) (rm : Room) (D : va_G) (tys : List (ClassId × FieldType)) (ad : Nat → Nat) (L : List Nat) (f : Nat → va_E) (av : List Value) (mc ms : Nat) (post : US → Prop) : Prop := ∀ sz, Met l y ws rm (va_Pc av (PP D tys ad L f sz)) (va_Qv post (AT D tys ad (va_A (pw ad L f) sz)) (va_A (pw ad L f) sz)) mc ms (va_A (pw ad L f) sz)
def EV (X : EN) (D : va_G) (tys : List (ClassId × FieldType)) (ad : Nat → Nat) (ret : Option FieldType) (mc ms : Nat) (post : US → Prop) : Prop := match X with
  | (_, _, _, _, s, _, args, below, meth, _, Q, _, A, H0) => Q = MQ below (va_Qv post (AT D tys ad A) A) args s mc ms A ∧ meth.sig.returnType = ret ∧ H0 = s.heap
def CQ (l : Launch) (y : MethodName) (ws : List Cond) (rm : Room) (D : va_G) (tys : List (ClassId × FieldType)) (ad : Nat → Nat) (L : List Nat) (f : Nat → va_E) (av : List Value) (mc ms : Nat) (post : Option Nat → US → Prop) : Prop := ∀ sz, Met l y ws rm (va_Pc av (PP D tys ad L f sz)) (va_Qe ad post (AT D tys ad (va_A (pw ad L f) sz)) (va_A (pw ad L f) sz)) mc ms (va_A (pw ad L f) sz)
def EQ (X : EN) (D : va_G) (tys : List (ClassId × FieldType)) (ad : Nat → Nat) (ret : Option FieldType) (mc ms : Nat) (post : Option Nat → US → Prop) : Prop := match X with
  | (_, _, _, _, s, _, args, below, meth, _, Q, _, A, H0) => Q = MQ below (va_Qe ad post (AT D tys ad A) A) args s mc ms A ∧ meth.sig.returnType = ret ∧ H0 = s.heap
theorem ci_of {l : Launch} {y : MethodName} {ws ws2 : List Cond} {rm : Room} {D : va_G} {tys : List (ClassId × FieldType)} {ad : Nat → Nat} {L : List Nat} {f : Nat → va_E} {av : List Value} {mc ms : Nat} {post : Int32 → US → Prop} {cc : ByteArray} {maxL : Nat} {own : String} (ret : Option FieldType) (lv0 : List (Nat × Value)) (hy : plainName y.cls = true) (ho : y.cls = own) (hw : ws = Cond.code y cc maxL ret :: ws2) (hlv : lv_args 0 av = lv0) (hlen : (lg_sl av).length ≤ maxL)
    (body : ∀ X : EN, CX X D tys cc own ws rm maxL → EI X D tys ad ret mc ms post → WN X y.name → GG X D ad L f lv0 0 0 0 []) : CI l y ws rm D tys ad L f av mc ms post := by
  subst ho
  intro sz
  refine Met.ofW (cc := cc) (maxL := maxL) (ret := ret) hy hw ?_
  intro p e s m args below meth c s₁ B hml hv
  obtain ⟨rfl, hsz, hP, hK, hD0⟩ := hv
  have hts := atoms_spec (ws := ws) B.pre
  have hown : s.vm.findClass y.cls = some m.cls := findClass_of_methodNamed B.named
  have hnm := (name_of_methodNamed B.named B.method).1
  subst hsz
  have hD := hD0.self (sz := s.heap.size)
  have hl := lv_entry av (n := maxL) hlen
  rw [lg_entry_eq]
  exact body (p, l, e, (headSpec ws rm).room, s, m, av.toArray, below, meth, c, _, maxL, va_A (pw ad L f) s.heap.size, s.heap) ⟨B.exec, B.bytes, hml, hown, hts, hK, fun q h => Or.inr h, rfl, rfl, B.notSynchronized⟩ ⟨rfl, B.returns, rfl⟩ hnm s.heap [] _ hP hD va_S.rf (hlv ▸ hl)
theorem cl_of {l : Launch} {y : MethodName} {ws ws2 : List Cond} {rm : Room} {D : va_G} {tys : List (ClassId × FieldType)} {ad : Nat → Nat} {L : List Nat} {f : Nat → va_E} {av : List Value} {mc ms : Nat} {post : Int64 → US → Prop} {cc : ByteArray} {maxL : Nat} {own : String}  (lv0 : List (Nat × Value)) (hy : plainName y.cls = true) (ho : y.cls = own) (hw : ws = Cond.code y cc maxL (some .long) :: ws2) (hlv : lv_args 0 av = lv0) (hlen : (lg_sl av).length ≤ maxL)
    (body : ∀ X : EN, CX X D tys cc own ws rm maxL → EL X D tys ad (some .long) mc ms post → WN X y.name → GG X D ad L f lv0 0 0 0 []) : CL l y ws rm D tys ad L f av mc ms post := by
  subst ho
  intro sz
  refine Met.ofW (cc := cc) (maxL := maxL) (ret := (some .long)) hy hw ?_
  intro p e s m args below meth c s₁ B hml hv
  obtain ⟨rfl, hsz, hP, hK, hD0⟩ := hv
  have hts := atoms_spec (ws := ws) B.pre
  have hown : s.vm.findClass y.cls = some m.cls := findClass_of_methodNamed B.named
  have hnm := (name_of_methodNamed B.named B.method).1
  subst hsz
  have hD := hD0.self (sz := s.heap.size)
  have hl := lv_entry av (n := maxL) hlen
  rw [lg_entry_eq]
  exact body (p, l, e, (headSpec ws rm).room, s, m, av.toArray, below, meth, c, _, maxL, va_A (pw ad L f) s.heap.size, s.heap) ⟨B.exec, B.bytes, hml, hown, hts, hK, fun q h => Or.inr h, rfl, rfl, B.notSynchronized⟩ ⟨rfl, B.returns, rfl⟩ hnm s.heap [] _ hP hD va_S.rf (hlv ▸ hl)
theorem cf_of {l : Launch} {y : MethodName} {ws ws2 : List Cond} {rm : Room} {D : va_G} {tys : List (ClassId × FieldType)} {ad : Nat → Nat} {L : List Nat} {f : Nat → va_E} {av : List Value} {mc ms : Nat} {post : UInt32 → US → Prop} {cc : ByteArray} {maxL : Nat} {own : String}  (lv0 : List (Nat × Value)) (hy : plainName y.cls = true) (ho : y.cls = own) (hw : ws = Cond.code y cc maxL (some .float) :: ws2) (hlv : lv_args 0 av = lv0) (hlen : (lg_sl av).length ≤ maxL)
    (body : ∀ X : EN, CX X D tys cc own ws rm maxL → EF X D tys ad (some .float) mc ms post → WN X y.name → GG X D ad L f lv0 0 0 0 []) : CF l y ws rm D tys ad L f av mc ms post := by
  subst ho
  intro sz
  refine Met.ofW (cc := cc) (maxL := maxL) (ret := (some .float)) hy hw ?_
  intro p e s m args below meth c s₁ B hml hv
  obtain ⟨rfl, hsz, hP, hK, hD0⟩ := hv
  have hts := atoms_spec (ws := ws) B.pre
  have hown : s.vm.findClass y.cls = some m.cls := findClass_of_methodNamed B.named
  have hnm := (name_of_methodNamed B.named B.method).1
  subst hsz
  have hD := hD0.self (sz := s.heap.size)
  have hl := lv_entry av (n := maxL) hlen
  rw [lg_entry_eq]
  exact body (p, l, e, (headSpec ws rm).room, s, m, av.toArray, below, meth, c, _, maxL, va_A (pw ad L f) s.heap.size, s.heap) ⟨B.exec, B.bytes, hml, hown, hts, hK, fun q h => Or.inr h, rfl, rfl, B.notSynchronized⟩ ⟨rfl, B.returns, rfl⟩ hnm s.heap [] _ hP hD va_S.rf (hlv ▸ hl)
theorem cz_of {l : Launch} {y : MethodName} {ws ws2 : List Cond} {rm : Room} {D : va_G} {tys : List (ClassId × FieldType)} {ad : Nat → Nat} {L : List Nat} {f : Nat → va_E} {av : List Value} {mc ms : Nat} {post : UInt64 → US → Prop} {cc : ByteArray} {maxL : Nat} {own : String}  (lv0 : List (Nat × Value)) (hy : plainName y.cls = true) (ho : y.cls = own) (hw : ws = Cond.code y cc maxL (some .double) :: ws2) (hlv : lv_args 0 av = lv0) (hlen : (lg_sl av).length ≤ maxL)
    (body : ∀ X : EN, CX X D tys cc own ws rm maxL → EZ X D tys ad (some .double) mc ms post → WN X y.name → GG X D ad L f lv0 0 0 0 []) : CZ l y ws rm D tys ad L f av mc ms post := by
  subst ho
  intro sz
  refine Met.ofW (cc := cc) (maxL := maxL) (ret := (some .double)) hy hw ?_
  intro p e s m args below meth c s₁ B hml hv
  obtain ⟨rfl, hsz, hP, hK, hD0⟩ := hv
  have hts := atoms_spec (ws := ws) B.pre
  have hown : s.vm.findClass y.cls = some m.cls := findClass_of_methodNamed B.named
  have hnm := (name_of_methodNamed B.named B.method).1
  subst hsz
  have hD := hD0.self (sz := s.heap.size)
  have hl := lv_entry av (n := maxL) hlen
  rw [lg_entry_eq]
  exact body (p, l, e, (headSpec ws rm).room, s, m, av.toArray, below, meth, c, _, maxL, va_A (pw ad L f) s.heap.size, s.heap) ⟨B.exec, B.bytes, hml, hown, hts, hK, fun q h => Or.inr h, rfl, rfl, B.notSynchronized⟩ ⟨rfl, B.returns, rfl⟩ hnm s.heap [] _ hP hD va_S.rf (hlv ▸ hl)
theorem cv_of {l : Launch} {y : MethodName} {ws ws2 : List Cond} {rm : Room} {D : va_G} {tys : List (ClassId × FieldType)} {ad : Nat → Nat} {L : List Nat} {f : Nat → va_E} {av : List Value} {mc ms : Nat} {post : US → Prop} {cc : ByteArray} {maxL : Nat} {own : String}  (lv0 : List (Nat × Value)) (hy : plainName y.cls = true) (ho : y.cls = own) (hw : ws = Cond.code y cc maxL none :: ws2) (hlv : lv_args 0 av = lv0) (hlen : (lg_sl av).length ≤ maxL)
    (body : ∀ X : EN, CX X D tys cc own ws rm maxL → EV X D tys ad none mc ms post → WN X y.name → GG X D ad L f lv0 0 0 0 []) : CV l y ws rm D tys ad L f av mc ms post := by
  subst ho
  intro sz
  refine Met.ofW (cc := cc) (maxL := maxL) (ret := none) hy hw ?_
  intro p e s m args below meth c s₁ B hml hv
  obtain ⟨rfl, hsz, hP, hK, hD0⟩ := hv
  have hts := atoms_spec (ws := ws) B.pre
  have hown : s.vm.findClass y.cls = some m.cls := findClass_of_methodNamed B.named
  have hnm := (name_of_methodNamed B.named B.method).1
  subst hsz
  have hD := hD0.self (sz := s.heap.size)
  have hl := lv_entry av (n := maxL) hlen
  rw [lg_entry_eq]
  exact body (p, l, e, (headSpec ws rm).room, s, m, av.toArray, below, meth, c, _, maxL, va_A (pw ad L f) s.heap.size, s.heap) ⟨B.exec, B.bytes, hml, hown, hts, hK, fun q h => Or.inr h, rfl, rfl, B.notSynchronized⟩ ⟨rfl, B.returns, rfl⟩ hnm s.heap [] _ hP hD va_S.rf (hlv ▸ hl)
theorem cq_of {l : Launch} {y : MethodName} {ws ws2 : List Cond} {rm : Room} {D : va_G} {tys : List (ClassId × FieldType)} {ad : Nat → Nat} {L : List Nat} {f : Nat → va_E} {av : List Value} {mc ms : Nat} {post : Option Nat → US → Prop} {cc : ByteArray} {maxL : Nat} {own : String} (ret : Option FieldType) (lv0 : List (Nat × Value)) (hy : plainName y.cls = true) (ho : y.cls = own) (hw : ws = Cond.code y cc maxL ret :: ws2) (hlv : lv_args 0 av = lv0) (hlen : (lg_sl av).length ≤ maxL)
    (body : ∀ X : EN, CX X D tys cc own ws rm maxL → EQ X D tys ad ret mc ms post → WN X y.name → GG X D ad L f lv0 0 0 0 []) : CQ l y ws rm D tys ad L f av mc ms post := by
  subst ho
  intro sz
  refine Met.ofW (cc := cc) (maxL := maxL) (ret := ret) hy hw ?_
  intro p e s m args below meth c s₁ B hml hv
  obtain ⟨rfl, hsz, hP, hK, hD0⟩ := hv
  have hts := atoms_spec (ws := ws) B.pre
  have hown : s.vm.findClass y.cls = some m.cls := findClass_of_methodNamed B.named
  have hnm := (name_of_methodNamed B.named B.method).1
  subst hsz
  have hD := hD0.self (sz := s.heap.size)
  have hl := lv_entry av (n := maxL) hlen
  rw [lg_entry_eq]
  exact body (p, l, e, (headSpec ws rm).room, s, m, av.toArray, below, meth, c, _, maxL, va_A (pw ad L f) s.heap.size, s.heap) ⟨B.exec, B.bytes, hml, hown, hts, hK, fun q h => Or.inr h, rfl, rfl, B.notSynchronized⟩ ⟨rfl, B.returns, rfl⟩ hnm s.heap [] _ hP hD va_S.rf (hlv ▸ hl)
section GGC
variable {X : EN} {D : va_G} {tys : List (ClassId × FieldType)} {cc : ByteArray} {own : String} {Ts : List Cond} {rm : Room} {nL : Nat} {ad : Nat → Nat} {L : List Nat} {f : Nat → va_E} {lv : List (Nat × Value)} {ce sl pc : Nat} {st : List Value}
theorem g_iret (hX : CX X D tys cc own Ts rm nL) {mc ms : Nat} {v : Int32} {post : Int32 → US → Prop}  (hE : EI X D tys ad (some .int) mc ms post) (hdg : decode cc pc = .ok (.ireturn, 1)) (hce : ce ≤ mc) (hsl : sl ≤ ms) (hp : post v (L, f)) : GG X D ad L f lv ce sl pc [.int v] := by
  obtain ⟨p, l, e, R, s, m, args, below, meth, c, Q, nL2, A, H0⟩ := X
  obtain ⟨hx, hb, hml, hown, hts, hK, hA, rfl, rfl, hlk⟩ := hX
  obtain ⟨rfl, hr, rfl⟩ := hE
  intro H locs ls hP hD hS hl
  refine W.widen hce hsl ?_
  exact W.iret hx hb hr (fun t ht hW => ⟨⟨v, (L, f), rfl, hp, by rw [ht]; exact hP, va_K.moved hW.alike hK, hD⟩, hS.F ht⟩) hS.2.2 hdg
theorem g_zret (hX : CX X D tys cc own Ts rm nL) {mc ms : Nat} {v : Int32} {post : Int32 → US → Prop} {ty : FieldType} (hn : narrow ty (.int v) = .int v) (hE : EI X D tys ad (some ty) mc ms post) (hdg : decode cc pc = .ok (.ireturn, 1)) (hce : ce ≤ mc) (hsl : sl ≤ ms) (hp : post v (L, f)) : GG X D ad L f lv ce sl pc [.int v] := by
  obtain ⟨p, l, e, R, s, m, args, below, meth, c, Q, nL2, A, H0⟩ := X
  obtain ⟨hx, hb, hml, hown, hts, hK, hA, rfl, rfl, hlk⟩ := hX
  obtain ⟨rfl, hr, rfl⟩ := hE
  intro H locs ls hP hD hS hl
  refine W.widen hce hsl ?_
  exact W.zret hx hb hr hn (fun t ht hW => ⟨⟨v, (L, f), rfl, hp, by rw [ht]; exact hP, va_K.moved hW.alike hK, hD⟩, hS.F ht⟩) hS.2.2 hdg
theorem g_lret (hX : CX X D tys cc own Ts rm nL) {mc ms : Nat} {v : Int64} {post : Int64 → US → Prop}  (hE : EL X D tys ad (some .long) mc ms post) (hdg : decode cc pc = .ok (.lreturn, 1)) (hce : ce ≤ mc) (hsl : sl ≤ ms) (hp : post v (L, f)) : GG X D ad L f lv ce sl pc [.long v] := by
  obtain ⟨p, l, e, R, s, m, args, below, meth, c, Q, nL2, A, H0⟩ := X
  obtain ⟨hx, hb, hml, hown, hts, hK, hA, rfl, rfl, hlk⟩ := hX
  obtain ⟨rfl, hr, rfl⟩ := hE
  intro H locs ls hP hD hS hl
  refine W.widen hce hsl ?_
  exact W.lret hx hb hr (fun t ht hW => ⟨⟨v, (L, f), rfl, hp, by rw [ht]; exact hP, va_K.moved hW.alike hK, hD⟩, hS.F ht⟩) hS.2.2 hdg
theorem g_fret (hX : CX X D tys cc own Ts rm nL) {mc ms : Nat} {v : UInt32} {post : UInt32 → US → Prop}  (hE : EF X D tys ad (some .float) mc ms post) (hdg : decode cc pc = .ok (.freturn, 1)) (hce : ce ≤ mc) (hsl : sl ≤ ms) (hp : post v (L, f)) : GG X D ad L f lv ce sl pc [.float v] := by
  obtain ⟨p, l, e, R, s, m, args, below, meth, c, Q, nL2, A, H0⟩ := X
  obtain ⟨hx, hb, hml, hown, hts, hK, hA, rfl, rfl, hlk⟩ := hX
  obtain ⟨rfl, hr, rfl⟩ := hE
  intro H locs ls hP hD hS hl
  refine W.widen hce hsl ?_
  exact W.fret hx hb hr (fun t ht hW => ⟨⟨v, (L, f), rfl, hp, by rw [ht]; exact hP, va_K.moved hW.alike hK, hD⟩, hS.F ht⟩) hS.2.2 hdg
theorem g_dret (hX : CX X D tys cc own Ts rm nL) {mc ms : Nat} {v : UInt64} {post : UInt64 → US → Prop}  (hE : EZ X D tys ad (some .double) mc ms post) (hdg : decode cc pc = .ok (.dreturn, 1)) (hce : ce ≤ mc) (hsl : sl ≤ ms) (hp : post v (L, f)) : GG X D ad L f lv ce sl pc [.double v] := by
  obtain ⟨p, l, e, R, s, m, args, below, meth, c, Q, nL2, A, H0⟩ := X
  obtain ⟨hx, hb, hml, hown, hts, hK, hA, rfl, rfl, hlk⟩ := hX
  obtain ⟨rfl, hr, rfl⟩ := hE
  intro H locs ls hP hD hS hl
  refine W.widen hce hsl ?_
  exact W.dret hx hb hr (fun t ht hW => ⟨⟨v, (L, f), rfl, hp, by rw [ht]; exact hP, va_K.moved hW.alike hK, hD⟩, hS.F ht⟩) hS.2.2 hdg
theorem g_vret (hX : CX X D tys cc own Ts rm nL) {mc ms : Nat}  {post : US → Prop}  (hE : EV X D tys ad none mc ms post) (hdg : decode cc pc = .ok (.return_, 1)) (hce : ce ≤ mc) (hsl : sl ≤ ms) (hp : post (L, f)) : GG X D ad L f lv ce sl pc [] := by
  obtain ⟨p, l, e, R, s, m, args, below, meth, c, Q, nL2, A, H0⟩ := X
  obtain ⟨hx, hb, hml, hown, hts, hK, hA, rfl, rfl, hlk⟩ := hX
  obtain ⟨rfl, hr, rfl⟩ := hE
  intro H locs ls hP hD hS hl
  refine W.widen hce hsl ?_
  exact W.vret hx hb hr (fun t ht hW => ⟨⟨(L, f), rfl, hp, by rw [ht]; exact hP, va_K.moved hW.alike hK, hD⟩, hS.F ht⟩) hS.2.2 hdg
theorem g_aret (hX : CX X D tys cc own Ts rm nL) {mc ms : Nat} (v : Option Nat) {val : Value} {rt : FieldType} {post : Option Nat → US → Prop} (hval : val = va_re ad v) (hE : EQ X D tys ad (some rt) mc ms post) (hrt : (∃ n, rt = FieldType.object n) ∨ ∃ t, rt = FieldType.array t) (hdg : decode cc pc = .ok (.areturn, 1)) (hce : ce ≤ mc) (hsl : sl ≤ ms) (hp : post v (L, f)) : GG X D ad L f lv ce sl pc [val] := by
  obtain ⟨p, l, e, R, s, m, args, below, meth, c, Q, nL2, A, H0⟩ := X
  obtain ⟨hx, hb, hml, hown, hts, hK, hA, rfl, rfl, hlk⟩ := hX
  obtain ⟨rfl, hr, rfl⟩ := hE
  intro H locs ls hP hD hS hl
  refine W.widen hce hsl ?_
  subst hval
  exact W.aret hx hb hr hrt (va_re_or ad v) (fun t ht hW => ⟨⟨v, (L, f), rfl, hp, by rw [ht]; exact hP, va_K.moved hW.alike hK, hD⟩, hS.F ht⟩) hS.2.2 hdg
theorem g_callI_V (hX : CX X D tys cc own Ts rm nL) {y : MethodName} {ws ws2 : List Cond} {rm2 : Room} {bytes : ByteArray} {maxL ix mc ms : Nat} {ret : Option FieldType} {post : Int32 → US → Prop} {C : String} {b : Nat} (As : List Value) {st0 : List Value} (hLb : b ∈ L) {kd n2 : Nat} {fs : List Value} {T : u_T} (hfb : f b = .inr (kd, fs)) (hcl : vwCl[kd]? = some (C, T, n2)) (hM : ∀ l, CI l y ws rm2 D tys ad L f (.ref (ad b) :: As) mc ms post) (hG : GoodIn Ts (wsV own ix C y ws)) (hw : ws = Cond.code y bytes maxL ret :: ws2) (hrc : rm2.cells = mc) (hrs : rm2.slots = ms) (hd : y.cls = C ∧ y.cls ≠ "java/lang/invoke/MethodHandle" ∧ y.cls ≠ "java/lang/invoke/VarHandle" ∧ (parseMethodDescriptor y.desc).map (fun d => d.parameters.length) = some As.length) (hR : rm2.frames + 1 ≤ rm.frames ∧ 8 + (maxL + 11) + rm2.locals ≤ rm.locals) (hf : ce + mc ≤ rm.cells ∧ sl + ms ≤ rm.slots) (hst0 : st0 = As.reverse ++ .ref (ad b) :: st) (hst : (st.map fun v => v.category).sum ≤ 8) (hdg : decode cc pc = .ok (.invokevirtual ix, 3)) (kk : ∀ (r : Int32) (L2 : List Nat) (f2 : Nat → va_E), post r (L2, f2) → GG X D ad L2 f2 lv (ce + mc) (sl + ms) (pc + 3) (.int r :: st)) : GG X D ad L f lv ce sl pc st0 := by
  obtain ⟨p, l, e, R, s, m, args, below, meth, c, Q, nL2, A, H0⟩ := X
  obtain ⟨hx, hb, hml, hown, hts, hK, hA, rfl, rfl, hlk⟩ := hX
  intro H locs ls hP hD hS hl
  have hFc : ∀ q, va_A (pw ad L f) H.size q → A q := fun q hq => hq.elim (fun ⟨k, e, hk⟩ => hD.2 k _ hk) (fun h => hA q (Nat.le_trans hS.1 h))
  obtain ⟨jb, hjb, hbk⟩ := pw_get (ad := ad) (f := f) hLb
  rw [hfb] at hbk
  refine va_calli (va_runV (As := As) (rest := st) ⟨hx, hb, hml, hown, hts⟩ (hM l H.size) (cwV As.length hts hG hw hrc hrs hd hR) ⟨fun a U g mk q => by obtain ⟨q0, q1, qP, qK, qD⟩ := q; exact ⟨q0, q1, qP, va_K.moved (u := U) (U := U.calling g mk a) (Vm.Alike.refl U.vm) qK, qD⟩, va_recv hK hP hcl hbk, fun U hU hW => ⟨rfl, by rw [hU], by rw [hU]; exact hP, va_K.moved hW.alike hK, hD.weaken (fun _ _ _ _ => trivial)⟩⟩ rfl rfl hl.1 hst0 (lv_room hst) hdg hf) hS (fun q _ h => hFc q h) hFc (fun r u t H1 locs1 ht hvm hw2 hB hz1 hk1 hS1 => ?_)
  obtain ⟨hP1, hK1, hD1⟩ := hB
  rw [ht] at hP1
  exact kk r u.1 u.2 hw2 H1 locs1 ls hP1 (hD1.weaken (fun _ _ _ h => hFc _ h)) hS1 hl
theorem g_callI_S (hX : CX X D tys cc own Ts rm nL) {y : MethodName} {ws ws2 : List Cond} {rm2 : Room} {bytes : ByteArray} {maxL ix mc ms : Nat} {ret : Option FieldType} {post : Int32 → US → Prop} (As : List Value) {st0 : List Value} (hM : ∀ l, CI l y ws rm2 D tys ad L f As mc ms post) (hG : GoodIn Ts (va_wsS own ix y ws)) (hw : ws = Cond.code y bytes maxL ret :: ws2) (hrc : rm2.cells = mc) (hrs : rm2.slots = ms) (hd : y.cls ≠ "java/lang/invoke/MethodHandle" ∧ y.cls ≠ "java/lang/invoke/VarHandle" ∧ (parseMethodDescriptor y.desc).map (fun d => d.parameters.length) = some As.length) (hR : rm2.frames + 1 ≤ rm.frames ∧ 8 + (maxL + 11) + rm2.locals ≤ rm.locals) (hf : ce + mc ≤ rm.cells ∧ sl + ms ≤ rm.slots) (hst0 : st0 = As.reverse ++ st) (hst : (st.map fun v => v.category).sum ≤ 8) (hdg : decode cc pc = .ok (.invokestatic ix, 3)) (kk : ∀ (r : Int32) (L2 : List Nat) (f2 : Nat → va_E), post r (L2, f2) → GG X D ad L2 f2 lv (ce + mc) (sl + ms) (pc + 3) (.int r :: st)) : GG X D ad L f lv ce sl pc st0 := by
  obtain ⟨p, l, e, R, s, m, args, below, meth, c, Q, nL2, A, H0⟩ := X
  obtain ⟨hx, hb, hml, hown, hts, hK, hA, rfl, rfl, hlk⟩ := hX
  intro H locs ls hP hD hS hl
  have hFc : ∀ q, va_A (pw ad L f) H.size q → A q := fun q hq => hq.elim (fun ⟨k, e, hk⟩ => hD.2 k _ hk) (fun h => hA q (Nat.le_trans hS.1 h))
  refine va_calli (va_runS (As := As) (rest := st) ⟨hx, hb, hml, hown, hts⟩ (hM l H.size) (va_cwS As.length hts hG hw hrc hrs hd hR) ⟨fun a U g mk q => by obtain ⟨q0, q1, qP, qK, qD⟩ := q; exact ⟨q0, q1, qP, va_K.moved (u := U) (U := U.calling g mk a) (Vm.Alike.refl U.vm) qK, qD⟩, fun U hU hW => ⟨rfl, by rw [hU], by rw [hU]; exact hP, va_K.moved hW.alike hK, hD.weaken (fun _ _ _ _ => trivial)⟩⟩ rfl rfl hl.1 hst0 (lv_room hst) hdg hf) hS (fun q _ h => hFc q h) hFc (fun r u t H1 locs1 ht hvm hw2 hB hz1 hk1 hS1 => ?_)
  obtain ⟨hP1, hK1, hD1⟩ := hB
  rw [ht] at hP1
  exact kk r u.1 u.2 hw2 H1 locs1 ls hP1 (hD1.weaken (fun _ _ _ h => hFc _ h)) hS1 hl
theorem g_callL_V (hX : CX X D tys cc own Ts rm nL) {y : MethodName} {ws ws2 : List Cond} {rm2 : Room} {bytes : ByteArray} {maxL ix mc ms : Nat} {ret : Option FieldType} {post : Int64 → US → Prop} {C : String} {b : Nat} (As : List Value) {st0 : List Value} (hLb : b ∈ L) {kd n2 : Nat} {fs : List Value} {T : u_T} (hfb : f b = .inr (kd, fs)) (hcl : vwCl[kd]? = some (C, T, n2)) (hM : ∀ l, CL l y ws rm2 D tys ad L f (.ref (ad b) :: As) mc ms post) (hG : GoodIn Ts (wsV own ix C y ws)) (hw : ws = Cond.code y bytes maxL ret :: ws2) (hrc : rm2.cells = mc) (hrs : rm2.slots = ms) (hd : y.cls = C ∧ y.cls ≠ "java/lang/invoke/MethodHandle" ∧ y.cls ≠ "java/lang/invoke/VarHandle" ∧ (parseMethodDescriptor y.desc).map (fun d => d.parameters.length) = some As.length) (hR : rm2.frames + 1 ≤ rm.frames ∧ 8 + (maxL + 11) + rm2.locals ≤ rm.locals) (hf : ce + mc ≤ rm.cells ∧ sl + ms ≤ rm.slots) (hst0 : st0 = As.reverse ++ .ref (ad b) :: st) (hst : (st.map fun v => v.category).sum ≤ 8) (hdg : decode cc pc = .ok (.invokevirtual ix, 3)) (kk : ∀ (r : Int64) (L2 : List Nat) (f2 : Nat → va_E), post r (L2, f2) → GG X D ad L2 f2 lv (ce + mc) (sl + ms) (pc + 3) (.long r :: st)) : GG X D ad L f lv ce sl pc st0 := by
  obtain ⟨p, l, e, R, s, m, args, below, meth, c, Q, nL2, A, H0⟩ := X
  obtain ⟨hx, hb, hml, hown, hts, hK, hA, rfl, rfl, hlk⟩ := hX
  intro H locs ls hP hD hS hl
  have hFc : ∀ q, va_A (pw ad L f) H.size q → A q := fun q hq => hq.elim (fun ⟨k, e, hk⟩ => hD.2 k _ hk) (fun h => hA q (Nat.le_trans hS.1 h))
  obtain ⟨jb, hjb, hbk⟩ := pw_get (ad := ad) (f := f) hLb
  rw [hfb] at hbk
  refine va_calll (va_runV (As := As) (rest := st) ⟨hx, hb, hml, hown, hts⟩ (hM l H.size) (cwV As.length hts hG hw hrc hrs hd hR) ⟨fun a U g mk q => by obtain ⟨q0, q1, qP, qK, qD⟩ := q; exact ⟨q0, q1, qP, va_K.moved (u := U) (U := U.calling g mk a) (Vm.Alike.refl U.vm) qK, qD⟩, va_recv hK hP hcl hbk, fun U hU hW => ⟨rfl, by rw [hU], by rw [hU]; exact hP, va_K.moved hW.alike hK, hD.weaken (fun _ _ _ _ => trivial)⟩⟩ rfl rfl hl.1 hst0 (lv_room hst) hdg hf) hS (fun q _ h => hFc q h) hFc (fun r u t H1 locs1 ht hvm hw2 hB hz1 hk1 hS1 => ?_)
  obtain ⟨hP1, hK1, hD1⟩ := hB
  rw [ht] at hP1
  exact kk r u.1 u.2 hw2 H1 locs1 ls hP1 (hD1.weaken (fun _ _ _ h => hFc _ h)) hS1 hl
theorem g_callL_S (hX : CX X D tys cc own Ts rm nL) {y : MethodName} {ws ws2 : List Cond} {rm2 : Room} {bytes : ByteArray} {maxL ix mc ms : Nat} {ret : Option FieldType} {post : Int64 → US → Prop} (As : List Value) {st0 : List Value} (hM : ∀ l, CL l y ws rm2 D tys ad L f As mc ms post) (hG : GoodIn Ts (va_wsS own ix y ws)) (hw : ws = Cond.code y bytes maxL ret :: ws2) (hrc : rm2.cells = mc) (hrs : rm2.slots = ms) (hd : y.cls ≠ "java/lang/invoke/MethodHandle" ∧ y.cls ≠ "java/lang/invoke/VarHandle" ∧ (parseMethodDescriptor y.desc).map (fun d => d.parameters.length) = some As.length) (hR : rm2.frames + 1 ≤ rm.frames ∧ 8 + (maxL + 11) + rm2.locals ≤ rm.locals) (hf : ce + mc ≤ rm.cells ∧ sl + ms ≤ rm.slots) (hst0 : st0 = As.reverse ++ st) (hst : (st.map fun v => v.category).sum ≤ 8) (hdg : decode cc pc = .ok (.invokestatic ix, 3)) (kk : ∀ (r : Int64) (L2 : List Nat) (f2 : Nat → va_E), post r (L2, f2) → GG X D ad L2 f2 lv (ce + mc) (sl + ms) (pc + 3) (.long r :: st)) : GG X D ad L f lv ce sl pc st0 := by
  obtain ⟨p, l, e, R, s, m, args, below, meth, c, Q, nL2, A, H0⟩ := X
  obtain ⟨hx, hb, hml, hown, hts, hK, hA, rfl, rfl, hlk⟩ := hX
  intro H locs ls hP hD hS hl
  have hFc : ∀ q, va_A (pw ad L f) H.size q → A q := fun q hq => hq.elim (fun ⟨k, e, hk⟩ => hD.2 k _ hk) (fun h => hA q (Nat.le_trans hS.1 h))
  refine va_calll (va_runS (As := As) (rest := st) ⟨hx, hb, hml, hown, hts⟩ (hM l H.size) (va_cwS As.length hts hG hw hrc hrs hd hR) ⟨fun a U g mk q => by obtain ⟨q0, q1, qP, qK, qD⟩ := q; exact ⟨q0, q1, qP, va_K.moved (u := U) (U := U.calling g mk a) (Vm.Alike.refl U.vm) qK, qD⟩, fun U hU hW => ⟨rfl, by rw [hU], by rw [hU]; exact hP, va_K.moved hW.alike hK, hD.weaken (fun _ _ _ _ => trivial)⟩⟩ rfl rfl hl.1 hst0 (lv_room hst) hdg hf) hS (fun q _ h => hFc q h) hFc (fun r u t H1 locs1 ht hvm hw2 hB hz1 hk1 hS1 => ?_)
  obtain ⟨hP1, hK1, hD1⟩ := hB
  rw [ht] at hP1
  exact kk r u.1 u.2 hw2 H1 locs1 ls hP1 (hD1.weaken (fun _ _ _ h => hFc _ h)) hS1 hl
theorem g_callF_V (hX : CX X D tys cc own Ts rm nL) {y : MethodName} {ws ws2 : List Cond} {rm2 : Room} {bytes : ByteArray} {maxL ix mc ms : Nat} {ret : Option FieldType} {post : UInt32 → US → Prop} {C : String} {b : Nat} (As : List Value) {st0 : List Value} (hLb : b ∈ L) {kd n2 : Nat} {fs : List Value} {T : u_T} (hfb : f b = .inr (kd, fs)) (hcl : vwCl[kd]? = some (C, T, n2)) (hM : ∀ l, CF l y ws rm2 D tys ad L f (.ref (ad b) :: As) mc ms post) (hG : GoodIn Ts (wsV own ix C y ws)) (hw : ws = Cond.code y bytes maxL ret :: ws2) (hrc : rm2.cells = mc) (hrs : rm2.slots = ms) (hd : y.cls = C ∧ y.cls ≠ "java/lang/invoke/MethodHandle" ∧ y.cls ≠ "java/lang/invoke/VarHandle" ∧ (parseMethodDescriptor y.desc).map (fun d => d.parameters.length) = some As.length) (hR : rm2.frames + 1 ≤ rm.frames ∧ 8 + (maxL + 11) + rm2.locals ≤ rm.locals) (hf : ce + mc ≤ rm.cells ∧ sl + ms ≤ rm.slots) (hst0 : st0 = As.reverse ++ .ref (ad b) :: st) (hst : (st.map fun v => v.category).sum ≤ 8) (hdg : decode cc pc = .ok (.invokevirtual ix, 3)) (kk : ∀ (r : UInt32) (L2 : List Nat) (f2 : Nat → va_E), post r (L2, f2) → GG X D ad L2 f2 lv (ce + mc) (sl + ms) (pc + 3) (.float r :: st)) : GG X D ad L f lv ce sl pc st0 := by
  obtain ⟨p, l, e, R, s, m, args, below, meth, c, Q, nL2, A, H0⟩ := X
  obtain ⟨hx, hb, hml, hown, hts, hK, hA, rfl, rfl, hlk⟩ := hX
  intro H locs ls hP hD hS hl
  have hFc : ∀ q, va_A (pw ad L f) H.size q → A q := fun q hq => hq.elim (fun ⟨k, e, hk⟩ => hD.2 k _ hk) (fun h => hA q (Nat.le_trans hS.1 h))
  obtain ⟨jb, hjb, hbk⟩ := pw_get (ad := ad) (f := f) hLb
  rw [hfb] at hbk
  refine va_callf (va_runV (As := As) (rest := st) ⟨hx, hb, hml, hown, hts⟩ (hM l H.size) (cwV As.length hts hG hw hrc hrs hd hR) ⟨fun a U g mk q => by obtain ⟨q0, q1, qP, qK, qD⟩ := q; exact ⟨q0, q1, qP, va_K.moved (u := U) (U := U.calling g mk a) (Vm.Alike.refl U.vm) qK, qD⟩, va_recv hK hP hcl hbk, fun U hU hW => ⟨rfl, by rw [hU], by rw [hU]; exact hP, va_K.moved hW.alike hK, hD.weaken (fun _ _ _ _ => trivial)⟩⟩ rfl rfl hl.1 hst0 (lv_room hst) hdg hf) hS (fun q _ h => hFc q h) hFc (fun r u t H1 locs1 ht hvm hw2 hB hz1 hk1 hS1 => ?_)
  obtain ⟨hP1, hK1, hD1⟩ := hB
  rw [ht] at hP1
  exact kk r u.1 u.2 hw2 H1 locs1 ls hP1 (hD1.weaken (fun _ _ _ h => hFc _ h)) hS1 hl
theorem g_callF_S (hX : CX X D tys cc own Ts rm nL) {y : MethodName} {ws ws2 : List Cond} {rm2 : Room} {bytes : ByteArray} {maxL ix mc ms : Nat} {ret : Option FieldType} {post : UInt32 → US → Prop} (As : List Value) {st0 : List Value} (hM : ∀ l, CF l y ws rm2 D tys ad L f As mc ms post) (hG : GoodIn Ts (va_wsS own ix y ws)) (hw : ws = Cond.code y bytes maxL ret :: ws2) (hrc : rm2.cells = mc) (hrs : rm2.slots = ms) (hd : y.cls ≠ "java/lang/invoke/MethodHandle" ∧ y.cls ≠ "java/lang/invoke/VarHandle" ∧ (parseMethodDescriptor y.desc).map (fun d => d.parameters.length) = some As.length) (hR : rm2.frames + 1 ≤ rm.frames ∧ 8 + (maxL + 11) + rm2.locals ≤ rm.locals) (hf : ce + mc ≤ rm.cells ∧ sl + ms ≤ rm.slots) (hst0 : st0 = As.reverse ++ st) (hst : (st.map fun v => v.category).sum ≤ 8) (hdg : decode cc pc = .ok (.invokestatic ix, 3)) (kk : ∀ (r : UInt32) (L2 : List Nat) (f2 : Nat → va_E), post r (L2, f2) → GG X D ad L2 f2 lv (ce + mc) (sl + ms) (pc + 3) (.float r :: st)) : GG X D ad L f lv ce sl pc st0 := by
  obtain ⟨p, l, e, R, s, m, args, below, meth, c, Q, nL2, A, H0⟩ := X
  obtain ⟨hx, hb, hml, hown, hts, hK, hA, rfl, rfl, hlk⟩ := hX
  intro H locs ls hP hD hS hl
  have hFc : ∀ q, va_A (pw ad L f) H.size q → A q := fun q hq => hq.elim (fun ⟨k, e, hk⟩ => hD.2 k _ hk) (fun h => hA q (Nat.le_trans hS.1 h))
  refine va_callf (va_runS (As := As) (rest := st) ⟨hx, hb, hml, hown, hts⟩ (hM l H.size) (va_cwS As.length hts hG hw hrc hrs hd hR) ⟨fun a U g mk q => by obtain ⟨q0, q1, qP, qK, qD⟩ := q; exact ⟨q0, q1, qP, va_K.moved (u := U) (U := U.calling g mk a) (Vm.Alike.refl U.vm) qK, qD⟩, fun U hU hW => ⟨rfl, by rw [hU], by rw [hU]; exact hP, va_K.moved hW.alike hK, hD.weaken (fun _ _ _ _ => trivial)⟩⟩ rfl rfl hl.1 hst0 (lv_room hst) hdg hf) hS (fun q _ h => hFc q h) hFc (fun r u t H1 locs1 ht hvm hw2 hB hz1 hk1 hS1 => ?_)
  obtain ⟨hP1, hK1, hD1⟩ := hB
  rw [ht] at hP1
  exact kk r u.1 u.2 hw2 H1 locs1 ls hP1 (hD1.weaken (fun _ _ _ h => hFc _ h)) hS1 hl
theorem g_callZ_V (hX : CX X D tys cc own Ts rm nL) {y : MethodName} {ws ws2 : List Cond} {rm2 : Room} {bytes : ByteArray} {maxL ix mc ms : Nat} {ret : Option FieldType} {post : UInt64 → US → Prop} {C : String} {b : Nat} (As : List Value) {st0 : List Value} (hLb : b ∈ L) {kd n2 : Nat} {fs : List Value} {T : u_T} (hfb : f b = .inr (kd, fs)) (hcl : vwCl[kd]? = some (C, T, n2)) (hM : ∀ l, CZ l y ws rm2 D tys ad L f (.ref (ad b) :: As) mc ms post) (hG : GoodIn Ts (wsV own ix C y ws)) (hw : ws = Cond.code y bytes maxL ret :: ws2) (hrc : rm2.cells = mc) (hrs : rm2.slots = ms) (hd : y.cls = C ∧ y.cls ≠ "java/lang/invoke/MethodHandle" ∧ y.cls ≠ "java/lang/invoke/VarHandle" ∧ (parseMethodDescriptor y.desc).map (fun d => d.parameters.length) = some As.length) (hR : rm2.frames + 1 ≤ rm.frames ∧ 8 + (maxL + 11) + rm2.locals ≤ rm.locals) (hf : ce + mc ≤ rm.cells ∧ sl + ms ≤ rm.slots) (hst0 : st0 = As.reverse ++ .ref (ad b) :: st) (hst : (st.map fun v => v.category).sum ≤ 8) (hdg : decode cc pc = .ok (.invokevirtual ix, 3)) (kk : ∀ (r : UInt64) (L2 : List Nat) (f2 : Nat → va_E), post r (L2, f2) → GG X D ad L2 f2 lv (ce + mc) (sl + ms) (pc + 3) (.double r :: st)) : GG X D ad L f lv ce sl pc st0 := by
  obtain ⟨p, l, e, R, s, m, args, below, meth, c, Q, nL2, A, H0⟩ := X
  obtain ⟨hx, hb, hml, hown, hts, hK, hA, rfl, rfl, hlk⟩ := hX
  intro H locs ls hP hD hS hl
  have hFc : ∀ q, va_A (pw ad L f) H.size q → A q := fun q hq => hq.elim (fun ⟨k, e, hk⟩ => hD.2 k _ hk) (fun h => hA q (Nat.le_trans hS.1 h))
  obtain ⟨jb, hjb, hbk⟩ := pw_get (ad := ad) (f := f) hLb
  rw [hfb] at hbk
  refine va_calld (va_runV (As := As) (rest := st) ⟨hx, hb, hml, hown, hts⟩ (hM l H.size) (cwV As.length hts hG hw hrc hrs hd hR) ⟨fun a U g mk q => by obtain ⟨q0, q1, qP, qK, qD⟩ := q; exact ⟨q0, q1, qP, va_K.moved (u := U) (U := U.calling g mk a) (Vm.Alike.refl U.vm) qK, qD⟩, va_recv hK hP hcl hbk, fun U hU hW => ⟨rfl, by rw [hU], by rw [hU]; exact hP, va_K.moved hW.alike hK, hD.weaken (fun _ _ _ _ => trivial)⟩⟩ rfl rfl hl.1 hst0 (lv_room hst) hdg hf) hS (fun q _ h => hFc q h) hFc (fun r u t H1 locs1 ht hvm hw2 hB hz1 hk1 hS1 => ?_)
  obtain ⟨hP1, hK1, hD1⟩ := hB
  rw [ht] at hP1
  exact kk r u.1 u.2 hw2 H1 locs1 ls hP1 (hD1.weaken (fun _ _ _ h => hFc _ h)) hS1 hl
theorem g_callZ_S (hX : CX X D tys cc own Ts rm nL) {y : MethodName} {ws ws2 : List Cond} {rm2 : Room} {bytes : ByteArray} {maxL ix mc ms : Nat} {ret : Option FieldType} {post : UInt64 → US → Prop} (As : List Value) {st0 : List Value} (hM : ∀ l, CZ l y ws rm2 D tys ad L f As mc ms post) (hG : GoodIn Ts (va_wsS own ix y ws)) (hw : ws = Cond.code y bytes maxL ret :: ws2) (hrc : rm2.cells = mc) (hrs : rm2.slots = ms) (hd : y.cls ≠ "java/lang/invoke/MethodHandle" ∧ y.cls ≠ "java/lang/invoke/VarHandle" ∧ (parseMethodDescriptor y.desc).map (fun d => d.parameters.length) = some As.length) (hR : rm2.frames + 1 ≤ rm.frames ∧ 8 + (maxL + 11) + rm2.locals ≤ rm.locals) (hf : ce + mc ≤ rm.cells ∧ sl + ms ≤ rm.slots) (hst0 : st0 = As.reverse ++ st) (hst : (st.map fun v => v.category).sum ≤ 8) (hdg : decode cc pc = .ok (.invokestatic ix, 3)) (kk : ∀ (r : UInt64) (L2 : List Nat) (f2 : Nat → va_E), post r (L2, f2) → GG X D ad L2 f2 lv (ce + mc) (sl + ms) (pc + 3) (.double r :: st)) : GG X D ad L f lv ce sl pc st0 := by
  obtain ⟨p, l, e, R, s, m, args, below, meth, c, Q, nL2, A, H0⟩ := X
  obtain ⟨hx, hb, hml, hown, hts, hK, hA, rfl, rfl, hlk⟩ := hX
  intro H locs ls hP hD hS hl
  have hFc : ∀ q, va_A (pw ad L f) H.size q → A q := fun q hq => hq.elim (fun ⟨k, e, hk⟩ => hD.2 k _ hk) (fun h => hA q (Nat.le_trans hS.1 h))
  refine va_calld (va_runS (As := As) (rest := st) ⟨hx, hb, hml, hown, hts⟩ (hM l H.size) (va_cwS As.length hts hG hw hrc hrs hd hR) ⟨fun a U g mk q => by obtain ⟨q0, q1, qP, qK, qD⟩ := q; exact ⟨q0, q1, qP, va_K.moved (u := U) (U := U.calling g mk a) (Vm.Alike.refl U.vm) qK, qD⟩, fun U hU hW => ⟨rfl, by rw [hU], by rw [hU]; exact hP, va_K.moved hW.alike hK, hD.weaken (fun _ _ _ _ => trivial)⟩⟩ rfl rfl hl.1 hst0 (lv_room hst) hdg hf) hS (fun q _ h => hFc q h) hFc (fun r u t H1 locs1 ht hvm hw2 hB hz1 hk1 hS1 => ?_)
  obtain ⟨hP1, hK1, hD1⟩ := hB
  rw [ht] at hP1
  exact kk r u.1 u.2 hw2 H1 locs1 ls hP1 (hD1.weaken (fun _ _ _ h => hFc _ h)) hS1 hl
theorem g_callV_V (hX : CX X D tys cc own Ts rm nL) {y : MethodName} {ws ws2 : List Cond} {rm2 : Room} {bytes : ByteArray} {maxL ix mc ms : Nat} {ret : Option FieldType} {post : US → Prop} {C : String} {b : Nat} (As : List Value) {st0 : List Value} (hLb : b ∈ L) {kd n2 : Nat} {fs : List Value} {T : u_T} (hfb : f b = .inr (kd, fs)) (hcl : vwCl[kd]? = some (C, T, n2)) (hM : ∀ l, CV l y ws rm2 D tys ad L f (.ref (ad b) :: As) mc ms post) (hG : GoodIn Ts (wsV own ix C y ws)) (hw : ws = Cond.code y bytes maxL ret :: ws2) (hrc : rm2.cells = mc) (hrs : rm2.slots = ms) (hd : y.cls = C ∧ y.cls ≠ "java/lang/invoke/MethodHandle" ∧ y.cls ≠ "java/lang/invoke/VarHandle" ∧ (parseMethodDescriptor y.desc).map (fun d => d.parameters.length) = some As.length) (hR : rm2.frames + 1 ≤ rm.frames ∧ 8 + (maxL + 11) + rm2.locals ≤ rm.locals) (hf : ce + mc ≤ rm.cells ∧ sl + ms ≤ rm.slots) (hst0 : st0 = As.reverse ++ .ref (ad b) :: st) (hst : (st.map fun v => v.category).sum ≤ 8) (hdg : decode cc pc = .ok (.invokevirtual ix, 3)) (kk : ∀ (L2 : List Nat) (f2 : Nat → va_E), post (L2, f2) → GG X D ad L2 f2 lv (ce + mc) (sl + ms) (pc + 3) st) : GG X D ad L f lv ce sl pc st0 := by
  obtain ⟨p, l, e, R, s, m, args, below, meth, c, Q, nL2, A, H0⟩ := X
  obtain ⟨hx, hb, hml, hown, hts, hK, hA, rfl, rfl, hlk⟩ := hX
  intro H locs ls hP hD hS hl
  have hFc : ∀ q, va_A (pw ad L f) H.size q → A q := fun q hq => hq.elim (fun ⟨k, e, hk⟩ => hD.2 k _ hk) (fun h => hA q (Nat.le_trans hS.1 h))
  obtain ⟨jb, hjb, hbk⟩ := pw_get (ad := ad) (f := f) hLb
  rw [hfb] at hbk
  refine va_callv (va_runV (As := As) (rest := st) ⟨hx, hb, hml, hown, hts⟩ (hM l H.size) (cwV As.length hts hG hw hrc hrs hd hR) ⟨fun a U g mk q => by obtain ⟨q0, q1, qP, qK, qD⟩ := q; exact ⟨q0, q1, qP, va_K.moved (u := U) (U := U.calling g mk a) (Vm.Alike.refl U.vm) qK, qD⟩, va_recv hK hP hcl hbk, fun U hU hW => ⟨rfl, by rw [hU], by rw [hU]; exact hP, va_K.moved hW.alike hK, hD.weaken (fun _ _ _ _ => trivial)⟩⟩ rfl rfl hl.1 hst0 (lv_room hst) hdg hf) hS (fun q _ h => hFc q h) hFc (fun u t H1 locs1 ht hvm hw2 hB hz1 hk1 hS1 => ?_)
  obtain ⟨hP1, hK1, hD1⟩ := hB
  rw [ht] at hP1
  exact kk u.1 u.2 hw2 H1 locs1 ls hP1 (hD1.weaken (fun _ _ _ h => hFc _ h)) hS1 hl
theorem g_callV_S (hX : CX X D tys cc own Ts rm nL) {y : MethodName} {ws ws2 : List Cond} {rm2 : Room} {bytes : ByteArray} {maxL ix mc ms : Nat} {ret : Option FieldType} {post : US → Prop} (As : List Value) {st0 : List Value} (hM : ∀ l, CV l y ws rm2 D tys ad L f As mc ms post) (hG : GoodIn Ts (va_wsS own ix y ws)) (hw : ws = Cond.code y bytes maxL ret :: ws2) (hrc : rm2.cells = mc) (hrs : rm2.slots = ms) (hd : y.cls ≠ "java/lang/invoke/MethodHandle" ∧ y.cls ≠ "java/lang/invoke/VarHandle" ∧ (parseMethodDescriptor y.desc).map (fun d => d.parameters.length) = some As.length) (hR : rm2.frames + 1 ≤ rm.frames ∧ 8 + (maxL + 11) + rm2.locals ≤ rm.locals) (hf : ce + mc ≤ rm.cells ∧ sl + ms ≤ rm.slots) (hst0 : st0 = As.reverse ++ st) (hst : (st.map fun v => v.category).sum ≤ 8) (hdg : decode cc pc = .ok (.invokestatic ix, 3)) (kk : ∀ (L2 : List Nat) (f2 : Nat → va_E), post (L2, f2) → GG X D ad L2 f2 lv (ce + mc) (sl + ms) (pc + 3) st) : GG X D ad L f lv ce sl pc st0 := by
  obtain ⟨p, l, e, R, s, m, args, below, meth, c, Q, nL2, A, H0⟩ := X
  obtain ⟨hx, hb, hml, hown, hts, hK, hA, rfl, rfl, hlk⟩ := hX
  intro H locs ls hP hD hS hl
  have hFc : ∀ q, va_A (pw ad L f) H.size q → A q := fun q hq => hq.elim (fun ⟨k, e, hk⟩ => hD.2 k _ hk) (fun h => hA q (Nat.le_trans hS.1 h))
  refine va_callv (va_runS (As := As) (rest := st) ⟨hx, hb, hml, hown, hts⟩ (hM l H.size) (va_cwS As.length hts hG hw hrc hrs hd hR) ⟨fun a U g mk q => by obtain ⟨q0, q1, qP, qK, qD⟩ := q; exact ⟨q0, q1, qP, va_K.moved (u := U) (U := U.calling g mk a) (Vm.Alike.refl U.vm) qK, qD⟩, fun U hU hW => ⟨rfl, by rw [hU], by rw [hU]; exact hP, va_K.moved hW.alike hK, hD.weaken (fun _ _ _ _ => trivial)⟩⟩ rfl rfl hl.1 hst0 (lv_room hst) hdg hf) hS (fun q _ h => hFc q h) hFc (fun u t H1 locs1 ht hvm hw2 hB hz1 hk1 hS1 => ?_)
  obtain ⟨hP1, hK1, hD1⟩ := hB
  rw [ht] at hP1
  exact kk u.1 u.2 hw2 H1 locs1 ls hP1 (hD1.weaken (fun _ _ _ h => hFc _ h)) hS1 hl
theorem g_callV_I (hX : CX X D tys cc own Ts rm nL) {y : MethodName} {ws ws2 : List Cond} {rm2 : Room} {bytes : ByteArray} {maxL ix mc ms : Nat} {post : US → Prop} {b : Nat} (As : List Value) {st0 : List Value} (hM : ∀ l, CV l y ws rm2 D tys ad L f (.ref (ad b) :: As) mc ms post) (hG : GoodIn Ts ws) (hw : ws = Cond.code y bytes maxL none :: ws2) (hrc : rm2.cells = mc) (hrs : rm2.slots = ms) (hini : Cond.initialized y.cls ∈ Ts) (hlk2 : Cond.methodLink own ix y ∈ Ts) (hin : Cond.instanceMethod y ∈ Ts) (hy1 : y.name = "<init>") (hd : y.cls ≠ "java/lang/invoke/MethodHandle" ∧ y.cls ≠ "java/lang/invoke/VarHandle" ∧ (parseMethodDescriptor y.desc).map (fun d => d.parameters.length) = some As.length) (hR : rm2.frames + 1 ≤ rm.frames ∧ 8 + (maxL + 11) + rm2.locals ≤ rm.locals) (hf : ce + mc ≤ rm.cells ∧ sl + ms ≤ rm.slots) (hst0 : st0 = As.reverse ++ .ref (ad b) :: st) (hst : (st.map fun v => v.category).sum ≤ 8) (hdg : decode cc pc = .ok (.invokespecial ix, 3)) (kk : ∀ (L2 : List Nat) (f2 : Nat → va_E), post (L2, f2) → GG X D ad L2 f2 lv (ce + mc) (sl + ms) (pc + 3) st) : GG X D ad L f lv ce sl pc st0 := by
  obtain ⟨p, l, e, R, s, m, args, below, meth, c, Q, nL2, A, H0⟩ := X
  obtain ⟨hx, hb, hml, hown, hts, hK, hA, rfl, rfl, hlk⟩ := hX
  intro H locs ls hP hD hS hl
  have hFc : ∀ q, va_A (pw ad L f) H.size q → A q := fun q hq => hq.elim (fun ⟨k, e, hk⟩ => hD.2 k _ hk) (fun h => hA q (Nat.le_trans hS.1 h))
  refine va_callv (va_runI (As := As) (rest := st) ⟨hx, hb, hml, hown, hts⟩ (hM l H.size) (cwI As.length hts hG hw hrc hrs (hts _ hini) (hts _ hlk2) (hts _ hin) hy1 hd hR) ⟨fun a U g mk q => by obtain ⟨q0, q1, qP, qK, qD⟩ := q; exact ⟨q0, q1, qP, va_K.moved (u := U) (U := U.calling g mk a) (Vm.Alike.refl U.vm) qK, qD⟩, fun U hU hW => ⟨rfl, by rw [hU], by rw [hU]; exact hP, va_K.moved hW.alike hK, hD.weaken (fun _ _ _ _ => trivial)⟩⟩ rfl rfl hl.1 hst0 (lv_room hst) hdg hf) hS (fun q _ h => hFc q h) hFc (fun u t H1 locs1 ht hvm hw2 hB hz1 hk1 hS1 => ?_)
  obtain ⟨hP1, hK1, hD1⟩ := hB
  rw [ht] at hP1
  exact kk u.1 u.2 hw2 H1 locs1 ls hP1 (hD1.weaken (fun _ _ _ h => hFc _ h)) hS1 hl
theorem g_callQ_V (hX : CX X D tys cc own Ts rm nL) {y : MethodName} {ws ws2 : List Cond} {rm2 : Room} {bytes : ByteArray} {maxL ix mc ms : Nat} {ret : Option FieldType} {post : Option Nat → US → Prop} {C : String} {b : Nat} (As : List Value) {st0 : List Value} (hLb : b ∈ L) {kd n2 : Nat} {fs : List Value} {T : u_T} (hfb : f b = .inr (kd, fs)) (hcl : vwCl[kd]? = some (C, T, n2)) (hM : ∀ l, CQ l y ws rm2 D tys ad L f (.ref (ad b) :: As) mc ms post) (hG : GoodIn Ts (wsV own ix C y ws)) (hw : ws = Cond.code y bytes maxL ret :: ws2) (hrc : rm2.cells = mc) (hrs : rm2.slots = ms) (hd : y.cls = C ∧ y.cls ≠ "java/lang/invoke/MethodHandle" ∧ y.cls ≠ "java/lang/invoke/VarHandle" ∧ (parseMethodDescriptor y.desc).map (fun d => d.parameters.length) = some As.length) (hR : rm2.frames + 1 ≤ rm.frames ∧ 8 + (maxL + 11) + rm2.locals ≤ rm.locals) (hf : ce + mc ≤ rm.cells ∧ sl + ms ≤ rm.slots) (hst0 : st0 = As.reverse ++ .ref (ad b) :: st) (hst : (st.map fun v => v.category).sum ≤ 8) (hdg : decode cc pc = .ok (.invokevirtual ix, 3)) (kk : ∀ (r : Option Nat) (L2 : List Nat) (f2 : Nat → va_E), post r (L2, f2) → GG X D ad L2 f2 lv (ce + mc) (sl + ms) (pc + 3) (va_re ad r :: st)) : GG X D ad L f lv ce sl pc st0 := by
  obtain ⟨p, l, e, R, s, m, args, below, meth, c, Q, nL2, A, H0⟩ := X
  obtain ⟨hx, hb, hml, hown, hts, hK, hA, rfl, rfl, hlk⟩ := hX
  intro H locs ls hP hD hS hl
  have hFc : ∀ q, va_A (pw ad L f) H.size q → A q := fun q hq => hq.elim (fun ⟨k, e, hk⟩ => hD.2 k _ hk) (fun h => hA q (Nat.le_trans hS.1 h))
  obtain ⟨jb, hjb, hbk⟩ := pw_get (ad := ad) (f := f) hLb
  rw [hfb] at hbk
  refine va_calle (va_runV (As := As) (rest := st) ⟨hx, hb, hml, hown, hts⟩ (hM l H.size) (cwV As.length hts hG hw hrc hrs hd hR) ⟨fun a U g mk q => by obtain ⟨q0, q1, qP, qK, qD⟩ := q; exact ⟨q0, q1, qP, va_K.moved (u := U) (U := U.calling g mk a) (Vm.Alike.refl U.vm) qK, qD⟩, va_recv hK hP hcl hbk, fun U hU hW => ⟨rfl, by rw [hU], by rw [hU]; exact hP, va_K.moved hW.alike hK, hD.weaken (fun _ _ _ _ => trivial)⟩⟩ rfl rfl hl.1 hst0 (lv_room hst) hdg hf) hS (fun q _ h => hFc q h) hFc (fun r u t H1 locs1 ht hvm hw2 hB hz1 hk1 hS1 => ?_)
  obtain ⟨hP1, hK1, hD1⟩ := hB
  rw [ht] at hP1
  exact kk r u.1 u.2 hw2 H1 locs1 ls hP1 (hD1.weaken (fun _ _ _ h => hFc _ h)) hS1 hl
theorem g_callQ_S (hX : CX X D tys cc own Ts rm nL) {y : MethodName} {ws ws2 : List Cond} {rm2 : Room} {bytes : ByteArray} {maxL ix mc ms : Nat} {ret : Option FieldType} {post : Option Nat → US → Prop} (As : List Value) {st0 : List Value} (hM : ∀ l, CQ l y ws rm2 D tys ad L f As mc ms post) (hG : GoodIn Ts (va_wsS own ix y ws)) (hw : ws = Cond.code y bytes maxL ret :: ws2) (hrc : rm2.cells = mc) (hrs : rm2.slots = ms) (hd : y.cls ≠ "java/lang/invoke/MethodHandle" ∧ y.cls ≠ "java/lang/invoke/VarHandle" ∧ (parseMethodDescriptor y.desc).map (fun d => d.parameters.length) = some As.length) (hR : rm2.frames + 1 ≤ rm.frames ∧ 8 + (maxL + 11) + rm2.locals ≤ rm.locals) (hf : ce + mc ≤ rm.cells ∧ sl + ms ≤ rm.slots) (hst0 : st0 = As.reverse ++ st) (hst : (st.map fun v => v.category).sum ≤ 8) (hdg : decode cc pc = .ok (.invokestatic ix, 3)) (kk : ∀ (r : Option Nat) (L2 : List Nat) (f2 : Nat → va_E), post r (L2, f2) → GG X D ad L2 f2 lv (ce + mc) (sl + ms) (pc + 3) (va_re ad r :: st)) : GG X D ad L f lv ce sl pc st0 := by
  obtain ⟨p, l, e, R, s, m, args, below, meth, c, Q, nL2, A, H0⟩ := X
  obtain ⟨hx, hb, hml, hown, hts, hK, hA, rfl, rfl, hlk⟩ := hX
  intro H locs ls hP hD hS hl
  have hFc : ∀ q, va_A (pw ad L f) H.size q → A q := fun q hq => hq.elim (fun ⟨k, e, hk⟩ => hD.2 k _ hk) (fun h => hA q (Nat.le_trans hS.1 h))
  refine va_calle (va_runS (As := As) (rest := st) ⟨hx, hb, hml, hown, hts⟩ (hM l H.size) (va_cwS As.length hts hG hw hrc hrs hd hR) ⟨fun a U g mk q => by obtain ⟨q0, q1, qP, qK, qD⟩ := q; exact ⟨q0, q1, qP, va_K.moved (u := U) (U := U.calling g mk a) (Vm.Alike.refl U.vm) qK, qD⟩, fun U hU hW => ⟨rfl, by rw [hU], by rw [hU]; exact hP, va_K.moved hW.alike hK, hD.weaken (fun _ _ _ _ => trivial)⟩⟩ rfl rfl hl.1 hst0 (lv_room hst) hdg hf) hS (fun q _ h => hFc q h) hFc (fun r u t H1 locs1 ht hvm hw2 hB hz1 hk1 hS1 => ?_)
  obtain ⟨hP1, hK1, hD1⟩ := hB
  rw [ht] at hP1
  exact kk r u.1 u.2 hw2 H1 locs1 ls hP1 (hD1.weaken (fun _ _ _ h => hFc _ h)) hS1 hl
end GGC
