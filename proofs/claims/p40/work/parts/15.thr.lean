def xbc : List (String × String) := [("java/util/NoSuchElementException", "java/util/NoSuchElementException"), ("java/lang/UnsupportedOperationException", "java/lang/UnsupportedOperationException"), ("java/lang/IllegalStateException", "java/lang/IllegalStateException"), ("java/lang/IllegalArgumentException", "java/lang/IllegalArgumentException"), ("java/lang/ArithmeticException", "java/lang/ArithmeticException"), ("java/lang/IndexOutOfBoundsException", "java/lang/IndexOutOfBoundsException")]
def xbd : List MethodName := [Bundle.initS "java/util/NoSuchElementException", Bundle.initS "java/lang/UnsupportedOperationException", Bundle.initS "java/lang/IllegalStateException", Bundle.initS "java/lang/IllegalArgumentException", Bundle.initS "java/lang/ArithmeticException", Bundle.initS "java/lang/IndexOutOfBoundsException", Bundle.initS "java/lang/RuntimeException", Bundle.initS "java/lang/Exception", Bundle.initS "java/lang/Throwable"]
def xbad : List Cond := xbc.map (fun q => Cond.castable q.1 q.2) ++ xbd.map Cond.declares
def xstr : List (Nat × String) := [(102, "no roll has a lower number"), (113, "too near to another note of its pitch"), (122, "40 notes are typed already"), (144, "a note has no such thing"), (150, "no such note"), (182, "borrowed notes make no chains"), (190, "no such thing is told for all"), (196, "no such maker"), (238, "a sounding has no such thing"), (243, "no such sounding"), (249, "no sounding is kept"), (269, "no valve was opened"), (284, "a number is out of range"), (291, "no such roll"), (294, "no roll is played"), (296, "there are 4 rolls already")]
theorem strV {u U : State} (hv : u.vm = U.vm) {own tx : String} {k : Nat} (h : (Cond.stringRef own k tx).before #[] u = true) : (Cond.stringRef own k tx).before #[] U = true := by
  have e1 : (Cond.stringRef own k tx).before #[] (u.setVm U.vm) = true := by rw [← hv]; exact h
  exact e1
def XB (A : Nat → Prop) (U : State) (H : Heap) : Prop := vx_Zq Bundle.tN "UNASSIGNED_STACK" Bundle.steD A U H ∧ vx_Zq Bundle.tN "SUPPRESSED_SENTINEL" Bundle.listD A U H ∧ (∀ q ∈ xbc, va_Nw (.castable q.1 q.2) U) ∧ (∀ y ∈ xbd, va_Nw (.declares y) U) ∧ ∀ q ∈ xstr, (Cond.stringRef "Perforatum" q.1 q.2).before #[] U = true
theorem XB.moved {A : Nat → Prop} {u U : State} {H : Heap} (hvm : u.vm.Alike U.vm) (hv : u.vm = U.vm) (h : XB A u H) : XB A U H := ⟨vx_Zq.moved hvm h.1, vx_Zq.moved hvm h.2.1, fun q hq => va_Nw.same rfl hv (h.2.2.1 q hq), fun y hy => va_Nw.same rfl hv (h.2.2.2.1 y hy), fun q hq => strV hv (h.2.2.2.2 q hq)⟩
theorem XB.call {A B : Nat → Prop} {s U : State} {H : Heap} (hW : s.WarmedH U.vm) (hq : ∀ a : Nat, a < s.heap.size → ¬ A a → H[a]? = s.heap[a]?) (hAB : ∀ q, B q → A q) (h : XB A s s.heap) : XB B U H := ⟨((vx_Zq.moved hW.alike h.1).kept hq).narrow hAB, ((vx_Zq.moved hW.alike h.2.1).kept hq).narrow hAB, fun q hq => va_Nw.warmC hW (h.2.2.1 q hq), fun y hy => va_Nw.warmD hW (h.2.2.2.1 y hy), fun q hq => Cond.stringRef_warmed hW (h.2.2.2.2 q hq)⟩
def PT (D : va_G) (tys : List (ClassId × FieldType)) (ad : Nat → Nat) (L : List Nat) (f : Nat → va_E) (sz : Nat) : State → Prop := fun U => PP D tys ad L f sz U ∧ XB (va_A (pw ad L f) sz) U U.heap
def XC (D : va_G) (tys : List (ClassId × FieldType)) (ad : Nat → Nat) (A : Nat → Prop) (xp : String → US → Prop) : String → State → State → Prop := vx_X (S := US) (fun _ => True) (fun E u t => xp E u ∧ AT D tys ad A u t) A

def TI (l : Launch) (y : MethodName) (ws : List Cond) (rm : Room) (D : va_G) (tys : List (ClassId × FieldType)) (ad : Nat → Nat) (L : List Nat) (f : Nat → va_E) (av : List Value) (mc ms : Nat) (post : Int32 → US → Prop) (xp : String → US → Prop) : Prop := ∀ sz, vx_Met l y ws rm (va_Pc av (PT D tys ad L f sz)) (va_Qi post (AT D tys ad (va_A (pw ad L f) sz)) (va_A (pw ad L f) sz)) (XC D tys ad (va_A (pw ad L f) sz) xp) mc ms (va_A (pw ad L f) sz)
def FI (X : EN) (D : va_G) (tys : List (ClassId × FieldType)) (ad : Nat → Nat) (ret : Option FieldType) (mc ms : Nat) (post : Int32 → US → Prop) (xp : String → US → Prop) : Prop := match X with
  | (_, l, _, _, s, _, args, below, meth, c, Q, _, A, H0) => Q = vx_MQ below (va_Qi post (AT D tys ad A) A) (XC D tys ad A xp) args s mc ms A ∧ meth.sig.returnType = ret ∧ H0 = s.heap ∧ (∀ x ∈ c.exceptionTable.toList, False) ∧ l.stackTraces = false ∧ XB A s s.heap
def TL (l : Launch) (y : MethodName) (ws : List Cond) (rm : Room) (D : va_G) (tys : List (ClassId × FieldType)) (ad : Nat → Nat) (L : List Nat) (f : Nat → va_E) (av : List Value) (mc ms : Nat) (post : Int64 → US → Prop) (xp : String → US → Prop) : Prop := ∀ sz, vx_Met l y ws rm (va_Pc av (PT D tys ad L f sz)) (va_Ql post (AT D tys ad (va_A (pw ad L f) sz)) (va_A (pw ad L f) sz)) (XC D tys ad (va_A (pw ad L f) sz) xp) mc ms (va_A (pw ad L f) sz)
def FL (X : EN) (D : va_G) (tys : List (ClassId × FieldType)) (ad : Nat → Nat) (ret : Option FieldType) (mc ms : Nat) (post : Int64 → US → Prop) (xp : String → US → Prop) : Prop := match X with
  | (_, l, _, _, s, _, args, below, meth, c, Q, _, A, H0) => Q = vx_MQ below (va_Ql post (AT D tys ad A) A) (XC D tys ad A xp) args s mc ms A ∧ meth.sig.returnType = ret ∧ H0 = s.heap ∧ (∀ x ∈ c.exceptionTable.toList, False) ∧ l.stackTraces = false ∧ XB A s s.heap
def TF (l : Launch) (y : MethodName) (ws : List Cond) (rm : Room) (D : va_G) (tys : List (ClassId × FieldType)) (ad : Nat → Nat) (L : List Nat) (f : Nat → va_E) (av : List Value) (mc ms : Nat) (post : UInt32 → US → Prop) (xp : String → US → Prop) : Prop := ∀ sz, vx_Met l y ws rm (va_Pc av (PT D tys ad L f sz)) (va_Qf post (AT D tys ad (va_A (pw ad L f) sz)) (va_A (pw ad L f) sz)) (XC D tys ad (va_A (pw ad L f) sz) xp) mc ms (va_A (pw ad L f) sz)
def FF (X : EN) (D : va_G) (tys : List (ClassId × FieldType)) (ad : Nat → Nat) (ret : Option FieldType) (mc ms : Nat) (post : UInt32 → US → Prop) (xp : String → US → Prop) : Prop := match X with
  | (_, l, _, _, s, _, args, below, meth, c, Q, _, A, H0) => Q = vx_MQ below (va_Qf post (AT D tys ad A) A) (XC D tys ad A xp) args s mc ms A ∧ meth.sig.returnType = ret ∧ H0 = s.heap ∧ (∀ x ∈ c.exceptionTable.toList, False) ∧ l.stackTraces = false ∧ XB A s s.heap
def TZ (l : Launch) (y : MethodName) (ws : List Cond) (rm : Room) (D : va_G) (tys : List (ClassId × FieldType)) (ad : Nat → Nat) (L : List Nat) (f : Nat → va_E) (av : List Value) (mc ms : Nat) (post : UInt64 → US → Prop) (xp : String → US → Prop) : Prop := ∀ sz, vx_Met l y ws rm (va_Pc av (PT D tys ad L f sz)) (va_Qd post (AT D tys ad (va_A (pw ad L f) sz)) (va_A (pw ad L f) sz)) (XC D tys ad (va_A (pw ad L f) sz) xp) mc ms (va_A (pw ad L f) sz)
def FZ (X : EN) (D : va_G) (tys : List (ClassId × FieldType)) (ad : Nat → Nat) (ret : Option FieldType) (mc ms : Nat) (post : UInt64 → US → Prop) (xp : String → US → Prop) : Prop := match X with
  | (_, l, _, _, s, _, args, below, meth, c, Q, _, A, H0) => Q = vx_MQ below (va_Qd post (AT D tys ad A) A) (XC D tys ad A xp) args s mc ms A ∧ meth.sig.returnType = ret ∧ H0 = s.heap ∧ (∀ x ∈ c.exceptionTable.toList, False) ∧ l.stackTraces = false ∧ XB A s s.heap
def TV (l : Launch) (y : MethodName) (ws : List Cond) (rm : Room) (D : va_G) (tys : List (ClassId × FieldType)) (ad : Nat → Nat) (L : List Nat) (f : Nat → va_E) (av : List Value) (mc ms : Nat) (post : US → Prop) (xp : String → US → Prop) : Prop := ∀ sz, vx_Met l y ws rm (va_Pc av (PT D tys ad L f sz)) (va_Qv post (AT D tys ad (va_A (pw ad L f) sz)) (va_A (pw ad L f) sz)) (XC D tys ad (va_A (pw ad L f) sz) xp) mc ms (va_A (pw ad L f) sz)
def FV (X : EN) (D : va_G) (tys : List (ClassId × FieldType)) (ad : Nat → Nat) (ret : Option FieldType) (mc ms : Nat) (post : US → Prop) (xp : String → US → Prop) : Prop := match X with
  | (_, l, _, _, s, _, args, below, meth, c, Q, _, A, H0) => Q = vx_MQ below (va_Qv post (AT D tys ad A) A) (XC D tys ad A xp) args s mc ms A ∧ meth.sig.returnType = ret ∧ H0 = s.heap ∧ (∀ x ∈ c.exceptionTable.toList, False) ∧ l.stackTraces = false ∧ XB A s s.heap
def TQ (l : Launch) (y : MethodName) (ws : List Cond) (rm : Room) (D : va_G) (tys : List (ClassId × FieldType)) (ad : Nat → Nat) (L : List Nat) (f : Nat → va_E) (av : List Value) (mc ms : Nat) (post : Option Nat → US → Prop) (xp : String → US → Prop) : Prop := ∀ sz, vx_Met l y ws rm (va_Pc av (PT D tys ad L f sz)) (va_Qe ad post (AT D tys ad (va_A (pw ad L f) sz)) (va_A (pw ad L f) sz)) (XC D tys ad (va_A (pw ad L f) sz) xp) mc ms (va_A (pw ad L f) sz)
def FQ (X : EN) (D : va_G) (tys : List (ClassId × FieldType)) (ad : Nat → Nat) (ret : Option FieldType) (mc ms : Nat) (post : Option Nat → US → Prop) (xp : String → US → Prop) : Prop := match X with
  | (_, l, _, _, s, _, args, below, meth, c, Q, _, A, H0) => Q = vx_MQ below (va_Qe ad post (AT D tys ad A) A) (XC D tys ad A xp) args s mc ms A ∧ meth.sig.returnType = ret ∧ H0 = s.heap ∧ (∀ x ∈ c.exceptionTable.toList, False) ∧ l.stackTraces = false ∧ XB A s s.heap
theorem ti_of {l : Launch} (hl9 : l.stackTraces = false) {y : MethodName} {ws ws2 : List Cond} {rm : Room} {D : va_G} {tys : List (ClassId × FieldType)} {ad : Nat → Nat} {L : List Nat} {f : Nat → va_E} {av : List Value} {mc ms : Nat} {post : Int32 → US → Prop} {xp : String → US → Prop} {cc : ByteArray} {maxL : Nat} {own : String} (ret : Option FieldType) (lv0 : List (Nat × Value)) (hy : plainName y.cls = true) (ho : y.cls = own) (hw : ws = Cond.code y cc maxL ret :: ws2) (hlv : lv_args 0 av = lv0) (hlen : (lg_sl av).length ≤ maxL)
    (body : ∀ X : EN, CX X D tys cc own ws rm maxL → FI X D tys ad ret mc ms post xp → WN X y.name → GG X D ad L f lv0 0 0 0 []) : TI l y ws rm D tys ad L f av mc ms post xp := by
  subst ho
  intro sz
  refine vx_ofW (cc := cc) (maxL := maxL) (ret := ret) hy hw ?_
  intro p e s m args below meth c s₁ B hml hxt hv
  obtain ⟨rfl, ⟨hsz, hP, hK, hD0⟩, hXB⟩ := hv
  have hts := atoms_spec (ws := ws) B.pre
  have hown : s.vm.findClass y.cls = some m.cls := findClass_of_methodNamed B.named
  have hnm := (name_of_methodNamed B.named B.method).1
  subst hsz
  have hD := hD0.self (sz := s.heap.size)
  have hl := lv_entry av (n := maxL) hlen
  rw [lg_entry_eq]
  exact body (p, l, e, (headSpec ws rm).room, s, m, av.toArray, below, meth, c, _, maxL, va_A (pw ad L f) s.heap.size, s.heap) ⟨B.exec, B.bytes, hml, hown, hts, hK, fun q h => Or.inr h, rfl, rfl, B.notSynchronized⟩ ⟨rfl, B.returns, rfl, hxt, hl9, hXB⟩ hnm s.heap [] _ hP hD va_S.rf (hlv ▸ hl)
theorem tl_of {l : Launch} (hl9 : l.stackTraces = false) {y : MethodName} {ws ws2 : List Cond} {rm : Room} {D : va_G} {tys : List (ClassId × FieldType)} {ad : Nat → Nat} {L : List Nat} {f : Nat → va_E} {av : List Value} {mc ms : Nat} {post : Int64 → US → Prop} {xp : String → US → Prop} {cc : ByteArray} {maxL : Nat} {own : String}  (lv0 : List (Nat × Value)) (hy : plainName y.cls = true) (ho : y.cls = own) (hw : ws = Cond.code y cc maxL (some .long) :: ws2) (hlv : lv_args 0 av = lv0) (hlen : (lg_sl av).length ≤ maxL)
    (body : ∀ X : EN, CX X D tys cc own ws rm maxL → FL X D tys ad (some .long) mc ms post xp → WN X y.name → GG X D ad L f lv0 0 0 0 []) : TL l y ws rm D tys ad L f av mc ms post xp := by
  subst ho
  intro sz
  refine vx_ofW (cc := cc) (maxL := maxL) (ret := (some .long)) hy hw ?_
  intro p e s m args below meth c s₁ B hml hxt hv
  obtain ⟨rfl, ⟨hsz, hP, hK, hD0⟩, hXB⟩ := hv
  have hts := atoms_spec (ws := ws) B.pre
  have hown : s.vm.findClass y.cls = some m.cls := findClass_of_methodNamed B.named
  have hnm := (name_of_methodNamed B.named B.method).1
  subst hsz
  have hD := hD0.self (sz := s.heap.size)
  have hl := lv_entry av (n := maxL) hlen
  rw [lg_entry_eq]
  exact body (p, l, e, (headSpec ws rm).room, s, m, av.toArray, below, meth, c, _, maxL, va_A (pw ad L f) s.heap.size, s.heap) ⟨B.exec, B.bytes, hml, hown, hts, hK, fun q h => Or.inr h, rfl, rfl, B.notSynchronized⟩ ⟨rfl, B.returns, rfl, hxt, hl9, hXB⟩ hnm s.heap [] _ hP hD va_S.rf (hlv ▸ hl)
theorem tf_of {l : Launch} (hl9 : l.stackTraces = false) {y : MethodName} {ws ws2 : List Cond} {rm : Room} {D : va_G} {tys : List (ClassId × FieldType)} {ad : Nat → Nat} {L : List Nat} {f : Nat → va_E} {av : List Value} {mc ms : Nat} {post : UInt32 → US → Prop} {xp : String → US → Prop} {cc : ByteArray} {maxL : Nat} {own : String}  (lv0 : List (Nat × Value)) (hy : plainName y.cls = true) (ho : y.cls = own) (hw : ws = Cond.code y cc maxL (some .float) :: ws2) (hlv : lv_args 0 av = lv0) (hlen : (lg_sl av).length ≤ maxL)
    (body : ∀ X : EN, CX X D tys cc own ws rm maxL → FF X D tys ad (some .float) mc ms post xp → WN X y.name → GG X D ad L f lv0 0 0 0 []) : TF l y ws rm D tys ad L f av mc ms post xp := by
  subst ho
  intro sz
  refine vx_ofW (cc := cc) (maxL := maxL) (ret := (some .float)) hy hw ?_
  intro p e s m args below meth c s₁ B hml hxt hv
  obtain ⟨rfl, ⟨hsz, hP, hK, hD0⟩, hXB⟩ := hv
  have hts := atoms_spec (ws := ws) B.pre
  have hown : s.vm.findClass y.cls = some m.cls := findClass_of_methodNamed B.named
  have hnm := (name_of_methodNamed B.named B.method).1
  subst hsz
  have hD := hD0.self (sz := s.heap.size)
  have hl := lv_entry av (n := maxL) hlen
  rw [lg_entry_eq]
  exact body (p, l, e, (headSpec ws rm).room, s, m, av.toArray, below, meth, c, _, maxL, va_A (pw ad L f) s.heap.size, s.heap) ⟨B.exec, B.bytes, hml, hown, hts, hK, fun q h => Or.inr h, rfl, rfl, B.notSynchronized⟩ ⟨rfl, B.returns, rfl, hxt, hl9, hXB⟩ hnm s.heap [] _ hP hD va_S.rf (hlv ▸ hl)
theorem tz_of {l : Launch} (hl9 : l.stackTraces = false) {y : MethodName} {ws ws2 : List Cond} {rm : Room} {D : va_G} {tys : List (ClassId × FieldType)} {ad : Nat → Nat} {L : List Nat} {f : Nat → va_E} {av : List Value} {mc ms : Nat} {post : UInt64 → US → Prop} {xp : String → US → Prop} {cc : ByteArray} {maxL : Nat} {own : String}  (lv0 : List (Nat × Value)) (hy : plainName y.cls = true) (ho : y.cls = own) (hw : ws = Cond.code y cc maxL (some .double) :: ws2) (hlv : lv_args 0 av = lv0) (hlen : (lg_sl av).length ≤ maxL)
    (body : ∀ X : EN, CX X D tys cc own ws rm maxL → FZ X D tys ad (some .double) mc ms post xp → WN X y.name → GG X D ad L f lv0 0 0 0 []) : TZ l y ws rm D tys ad L f av mc ms post xp := by
  subst ho
  intro sz
  refine vx_ofW (cc := cc) (maxL := maxL) (ret := (some .double)) hy hw ?_
  intro p e s m args below meth c s₁ B hml hxt hv
  obtain ⟨rfl, ⟨hsz, hP, hK, hD0⟩, hXB⟩ := hv
  have hts := atoms_spec (ws := ws) B.pre
  have hown : s.vm.findClass y.cls = some m.cls := findClass_of_methodNamed B.named
  have hnm := (name_of_methodNamed B.named B.method).1
  subst hsz
  have hD := hD0.self (sz := s.heap.size)
  have hl := lv_entry av (n := maxL) hlen
  rw [lg_entry_eq]
  exact body (p, l, e, (headSpec ws rm).room, s, m, av.toArray, below, meth, c, _, maxL, va_A (pw ad L f) s.heap.size, s.heap) ⟨B.exec, B.bytes, hml, hown, hts, hK, fun q h => Or.inr h, rfl, rfl, B.notSynchronized⟩ ⟨rfl, B.returns, rfl, hxt, hl9, hXB⟩ hnm s.heap [] _ hP hD va_S.rf (hlv ▸ hl)
theorem tv_of {l : Launch} (hl9 : l.stackTraces = false) {y : MethodName} {ws ws2 : List Cond} {rm : Room} {D : va_G} {tys : List (ClassId × FieldType)} {ad : Nat → Nat} {L : List Nat} {f : Nat → va_E} {av : List Value} {mc ms : Nat} {post : US → Prop} {xp : String → US → Prop} {cc : ByteArray} {maxL : Nat} {own : String}  (lv0 : List (Nat × Value)) (hy : plainName y.cls = true) (ho : y.cls = own) (hw : ws = Cond.code y cc maxL none :: ws2) (hlv : lv_args 0 av = lv0) (hlen : (lg_sl av).length ≤ maxL)
    (body : ∀ X : EN, CX X D tys cc own ws rm maxL → FV X D tys ad none mc ms post xp → WN X y.name → GG X D ad L f lv0 0 0 0 []) : TV l y ws rm D tys ad L f av mc ms post xp := by
  subst ho
  intro sz
  refine vx_ofW (cc := cc) (maxL := maxL) (ret := none) hy hw ?_
  intro p e s m args below meth c s₁ B hml hxt hv
  obtain ⟨rfl, ⟨hsz, hP, hK, hD0⟩, hXB⟩ := hv
  have hts := atoms_spec (ws := ws) B.pre
  have hown : s.vm.findClass y.cls = some m.cls := findClass_of_methodNamed B.named
  have hnm := (name_of_methodNamed B.named B.method).1
  subst hsz
  have hD := hD0.self (sz := s.heap.size)
  have hl := lv_entry av (n := maxL) hlen
  rw [lg_entry_eq]
  exact body (p, l, e, (headSpec ws rm).room, s, m, av.toArray, below, meth, c, _, maxL, va_A (pw ad L f) s.heap.size, s.heap) ⟨B.exec, B.bytes, hml, hown, hts, hK, fun q h => Or.inr h, rfl, rfl, B.notSynchronized⟩ ⟨rfl, B.returns, rfl, hxt, hl9, hXB⟩ hnm s.heap [] _ hP hD va_S.rf (hlv ▸ hl)
theorem tq_of {l : Launch} (hl9 : l.stackTraces = false) {y : MethodName} {ws ws2 : List Cond} {rm : Room} {D : va_G} {tys : List (ClassId × FieldType)} {ad : Nat → Nat} {L : List Nat} {f : Nat → va_E} {av : List Value} {mc ms : Nat} {post : Option Nat → US → Prop} {xp : String → US → Prop} {cc : ByteArray} {maxL : Nat} {own : String} (ret : Option FieldType) (lv0 : List (Nat × Value)) (hy : plainName y.cls = true) (ho : y.cls = own) (hw : ws = Cond.code y cc maxL ret :: ws2) (hlv : lv_args 0 av = lv0) (hlen : (lg_sl av).length ≤ maxL)
    (body : ∀ X : EN, CX X D tys cc own ws rm maxL → FQ X D tys ad ret mc ms post xp → WN X y.name → GG X D ad L f lv0 0 0 0 []) : TQ l y ws rm D tys ad L f av mc ms post xp := by
  subst ho
  intro sz
  refine vx_ofW (cc := cc) (maxL := maxL) (ret := ret) hy hw ?_
  intro p e s m args below meth c s₁ B hml hxt hv
  obtain ⟨rfl, ⟨hsz, hP, hK, hD0⟩, hXB⟩ := hv
  have hts := atoms_spec (ws := ws) B.pre
  have hown : s.vm.findClass y.cls = some m.cls := findClass_of_methodNamed B.named
  have hnm := (name_of_methodNamed B.named B.method).1
  subst hsz
  have hD := hD0.self (sz := s.heap.size)
  have hl := lv_entry av (n := maxL) hlen
  rw [lg_entry_eq]
  exact body (p, l, e, (headSpec ws rm).room, s, m, av.toArray, below, meth, c, _, maxL, va_A (pw ad L f) s.heap.size, s.heap) ⟨B.exec, B.bytes, hml, hown, hts, hK, fun q h => Or.inr h, rfl, rfl, B.notSynchronized⟩ ⟨rfl, B.returns, rfl, hxt, hl9, hXB⟩ hnm s.heap [] _ hP hD va_S.rf (hlv ▸ hl)
section GGT
variable {X : EN} {D : va_G} {tys : List (ClassId × FieldType)} {cc : ByteArray} {own : String} {Ts : List Cond} {rm : Room} {nL : Nat} {ad : Nat → Nat} {L : List Nat} {f : Nat → va_E} {lv : List (Nat × Value)} {ce sl pc : Nat} {st : List Value}
theorem t_iret (hX : CX X D tys cc own Ts rm nL) {mc ms : Nat} {v : Int32} {post : Int32 → US → Prop} {xp : String → US → Prop}  (hE : FI X D tys ad (some .int) mc ms post xp) (hdg : decode cc pc = .ok (.ireturn, 1)) (hce : ce ≤ mc) (hsl : sl ≤ ms) (hp : post v (L, f)) : GG X D ad L f lv ce sl pc [.int v] := by
  obtain ⟨p, l, e, R, s, m, args, below, meth, c, Q, nL2, A, H0⟩ := X
  obtain ⟨hx, hb, hml, hown, hts, hK, hA, rfl, rfl, hlk⟩ := hX
  obtain ⟨rfl, hr, rfl, -, -, -⟩ := hE
  intro H locs ls hP hD hS hl
  refine W.widen hce hsl (vx_ret ?_)
  exact W.iret hx hb hr (fun t ht hW => ⟨⟨v, (L, f), rfl, hp, by rw [ht]; exact hP, va_K.moved hW.alike hK, hD⟩, hS.F ht⟩) hS.2.2 hdg
theorem t_zret (hX : CX X D tys cc own Ts rm nL) {mc ms : Nat} {v : Int32} {post : Int32 → US → Prop} {xp : String → US → Prop} {ty : FieldType} (hn : narrow ty (.int v) = .int v) (hE : FI X D tys ad (some ty) mc ms post xp) (hdg : decode cc pc = .ok (.ireturn, 1)) (hce : ce ≤ mc) (hsl : sl ≤ ms) (hp : post v (L, f)) : GG X D ad L f lv ce sl pc [.int v] := by
  obtain ⟨p, l, e, R, s, m, args, below, meth, c, Q, nL2, A, H0⟩ := X
  obtain ⟨hx, hb, hml, hown, hts, hK, hA, rfl, rfl, hlk⟩ := hX
  obtain ⟨rfl, hr, rfl, -, -, -⟩ := hE
  intro H locs ls hP hD hS hl
  refine W.widen hce hsl (vx_ret ?_)
  exact W.zret hx hb hr hn (fun t ht hW => ⟨⟨v, (L, f), rfl, hp, by rw [ht]; exact hP, va_K.moved hW.alike hK, hD⟩, hS.F ht⟩) hS.2.2 hdg
theorem t_lret (hX : CX X D tys cc own Ts rm nL) {mc ms : Nat} {v : Int64} {post : Int64 → US → Prop} {xp : String → US → Prop}  (hE : FL X D tys ad (some .long) mc ms post xp) (hdg : decode cc pc = .ok (.lreturn, 1)) (hce : ce ≤ mc) (hsl : sl ≤ ms) (hp : post v (L, f)) : GG X D ad L f lv ce sl pc [.long v] := by
  obtain ⟨p, l, e, R, s, m, args, below, meth, c, Q, nL2, A, H0⟩ := X
  obtain ⟨hx, hb, hml, hown, hts, hK, hA, rfl, rfl, hlk⟩ := hX
  obtain ⟨rfl, hr, rfl, -, -, -⟩ := hE
  intro H locs ls hP hD hS hl
  refine W.widen hce hsl (vx_ret ?_)
  exact W.lret hx hb hr (fun t ht hW => ⟨⟨v, (L, f), rfl, hp, by rw [ht]; exact hP, va_K.moved hW.alike hK, hD⟩, hS.F ht⟩) hS.2.2 hdg
theorem t_fret (hX : CX X D tys cc own Ts rm nL) {mc ms : Nat} {v : UInt32} {post : UInt32 → US → Prop} {xp : String → US → Prop}  (hE : FF X D tys ad (some .float) mc ms post xp) (hdg : decode cc pc = .ok (.freturn, 1)) (hce : ce ≤ mc) (hsl : sl ≤ ms) (hp : post v (L, f)) : GG X D ad L f lv ce sl pc [.float v] := by
  obtain ⟨p, l, e, R, s, m, args, below, meth, c, Q, nL2, A, H0⟩ := X
  obtain ⟨hx, hb, hml, hown, hts, hK, hA, rfl, rfl, hlk⟩ := hX
  obtain ⟨rfl, hr, rfl, -, -, -⟩ := hE
  intro H locs ls hP hD hS hl
  refine W.widen hce hsl (vx_ret ?_)
  exact W.fret hx hb hr (fun t ht hW => ⟨⟨v, (L, f), rfl, hp, by rw [ht]; exact hP, va_K.moved hW.alike hK, hD⟩, hS.F ht⟩) hS.2.2 hdg
theorem t_dret (hX : CX X D tys cc own Ts rm nL) {mc ms : Nat} {v : UInt64} {post : UInt64 → US → Prop} {xp : String → US → Prop}  (hE : FZ X D tys ad (some .double) mc ms post xp) (hdg : decode cc pc = .ok (.dreturn, 1)) (hce : ce ≤ mc) (hsl : sl ≤ ms) (hp : post v (L, f)) : GG X D ad L f lv ce sl pc [.double v] := by
  obtain ⟨p, l, e, R, s, m, args, below, meth, c, Q, nL2, A, H0⟩ := X
  obtain ⟨hx, hb, hml, hown, hts, hK, hA, rfl, rfl, hlk⟩ := hX
  obtain ⟨rfl, hr, rfl, -, -, -⟩ := hE
  intro H locs ls hP hD hS hl
  refine W.widen hce hsl (vx_ret ?_)
  exact W.dret hx hb hr (fun t ht hW => ⟨⟨v, (L, f), rfl, hp, by rw [ht]; exact hP, va_K.moved hW.alike hK, hD⟩, hS.F ht⟩) hS.2.2 hdg
theorem t_vret (hX : CX X D tys cc own Ts rm nL) {mc ms : Nat}  {post : US → Prop} {xp : String → US → Prop}  (hE : FV X D tys ad none mc ms post xp) (hdg : decode cc pc = .ok (.return_, 1)) (hce : ce ≤ mc) (hsl : sl ≤ ms) (hp : post (L, f)) : GG X D ad L f lv ce sl pc [] := by
  obtain ⟨p, l, e, R, s, m, args, below, meth, c, Q, nL2, A, H0⟩ := X
  obtain ⟨hx, hb, hml, hown, hts, hK, hA, rfl, rfl, hlk⟩ := hX
  obtain ⟨rfl, hr, rfl, -, -, -⟩ := hE
  intro H locs ls hP hD hS hl
  refine W.widen hce hsl (vx_ret ?_)
  exact W.vret hx hb hr (fun t ht hW => ⟨⟨(L, f), rfl, hp, by rw [ht]; exact hP, va_K.moved hW.alike hK, hD⟩, hS.F ht⟩) hS.2.2 hdg
theorem t_aret (hX : CX X D tys cc own Ts rm nL) {mc ms : Nat} (v : Option Nat) {val : Value} {rt : FieldType} {post : Option Nat → US → Prop} {xp : String → US → Prop} (hval : val = va_re ad v) (hE : FQ X D tys ad (some rt) mc ms post xp) (hrt : (∃ n, rt = FieldType.object n) ∨ ∃ t, rt = FieldType.array t) (hdg : decode cc pc = .ok (.areturn, 1)) (hce : ce ≤ mc) (hsl : sl ≤ ms) (hp : post v (L, f)) : GG X D ad L f lv ce sl pc [val] := by
  obtain ⟨p, l, e, R, s, m, args, below, meth, c, Q, nL2, A, H0⟩ := X
  obtain ⟨hx, hb, hml, hown, hts, hK, hA, rfl, rfl, hlk⟩ := hX
  obtain ⟨rfl, hr, rfl, -, -, -⟩ := hE
  intro H locs ls hP hD hS hl
  refine W.widen hce hsl (vx_ret ?_)
  subst hval
  exact W.aret hx hb hr hrt (va_re_or ad v) (fun t ht hW => ⟨⟨v, (L, f), rfl, hp, by rw [ht]; exact hP, va_K.moved hW.alike hK, hD⟩, hS.F ht⟩) hS.2.2 hdg
def XQ (X : EN) (D : va_G) (tys : List (ClassId × FieldType)) (ad : Nat → Nat) (mc ms : Nat) (xp : String → US → Prop) : Prop := match X with
  | (_, l, _, _, s, _, args, below, _, c, Q, _, A, H0) => (∃ Qc, Q = vx_MQ below Qc (XC D tys ad A xp) args s mc ms A) ∧ H0 = s.heap ∧ (∀ x ∈ c.exceptionTable.toList, False) ∧ l.stackTraces = false ∧ XB A s s.heap
theorem FI.x {ret : Option FieldType} {mc ms : Nat} {post : Int32 → US → Prop} {xp : String → US → Prop} (h : FI X D tys ad ret mc ms post xp) : XQ X D tys ad mc ms xp := by
  obtain ⟨p, l, e, R, s, m, args, below, meth, c, Q, nL2, A, H0⟩ := X
  exact ⟨⟨_, h.1⟩, h.2.2.1, h.2.2.2.1, h.2.2.2.2.1, h.2.2.2.2.2⟩
theorem FL.x {ret : Option FieldType} {mc ms : Nat} {post : Int64 → US → Prop} {xp : String → US → Prop} (h : FL X D tys ad ret mc ms post xp) : XQ X D tys ad mc ms xp := by
  obtain ⟨p, l, e, R, s, m, args, below, meth, c, Q, nL2, A, H0⟩ := X
  exact ⟨⟨_, h.1⟩, h.2.2.1, h.2.2.2.1, h.2.2.2.2.1, h.2.2.2.2.2⟩
theorem FF.x {ret : Option FieldType} {mc ms : Nat} {post : UInt32 → US → Prop} {xp : String → US → Prop} (h : FF X D tys ad ret mc ms post xp) : XQ X D tys ad mc ms xp := by
  obtain ⟨p, l, e, R, s, m, args, below, meth, c, Q, nL2, A, H0⟩ := X
  exact ⟨⟨_, h.1⟩, h.2.2.1, h.2.2.2.1, h.2.2.2.2.1, h.2.2.2.2.2⟩
theorem FZ.x {ret : Option FieldType} {mc ms : Nat} {post : UInt64 → US → Prop} {xp : String → US → Prop} (h : FZ X D tys ad ret mc ms post xp) : XQ X D tys ad mc ms xp := by
  obtain ⟨p, l, e, R, s, m, args, below, meth, c, Q, nL2, A, H0⟩ := X
  exact ⟨⟨_, h.1⟩, h.2.2.1, h.2.2.2.1, h.2.2.2.2.1, h.2.2.2.2.2⟩
theorem FV.x {ret : Option FieldType} {mc ms : Nat} {post : US → Prop} {xp : String → US → Prop} (h : FV X D tys ad ret mc ms post xp) : XQ X D tys ad mc ms xp := by
  obtain ⟨p, l, e, R, s, m, args, below, meth, c, Q, nL2, A, H0⟩ := X
  exact ⟨⟨_, h.1⟩, h.2.2.1, h.2.2.2.1, h.2.2.2.2.1, h.2.2.2.2.2⟩
theorem FQ.x {ret : Option FieldType} {mc ms : Nat} {post : Option Nat → US → Prop} {xp : String → US → Prop} (h : FQ X D tys ad ret mc ms post xp) : XQ X D tys ad mc ms xp := by
  obtain ⟨p, l, e, R, s, m, args, below, meth, c, Q, nL2, A, H0⟩ := X
  exact ⟨⟨_, h.1⟩, h.2.2.1, h.2.2.2.1, h.2.2.2.2.1, h.2.2.2.2.2⟩
theorem t_throwS (hX : CX X D tys cc own Ts rm nL) {mc ms : Nat} {xp : String → US → Prop} (hQ : XQ X D tys ad mc ms xp) {text : String} {ik is ic : Nat} (cls : String) (ho : own = "Perforatum") (hcls : Bundle.fit cls = true) (hk : Cond.classLink own ik cls ∈ Ts) (hini : Cond.initialized cls ∈ Ts) (hstr : (is, text) ∈ xstr) (hat1 : ∀ w ∈ (vx_atS own ic cls ["java/lang/RuntimeException", "java/lang/Exception"]).filter goodWord, w ∈ Ts) (hat2 : ∀ w ∈ (vx_atS own ic cls ["java/lang/RuntimeException", "java/lang/Exception"]).filter (fun w => !goodWord w), w ∈ xbad) (hgood : ∀ w ∈ Cond.classLink own ik cls :: Cond.initialized cls :: vx_atS own ic cls ["java/lang/RuntimeException", "java/lang/Exception"], vx_ot w = true)
    (d0 : decode cc pc = .ok (.new ik, 3)) (d3 : decode cc (pc + 3) = .ok (.dup, 1)) (d4 : decode cc (pc + 4) = .ok (.ldc is, 2)) (d6 : decode cc (pc + 6) = .ok (.invokespecial ic, 3)) (d9 : decode cc (pc + 9) = .ok (.athrow, 1)) (hRf : 5 < rm.frames) (hRl : (st.map fun v => v.category).sum + 82 ≤ rm.locals) (hRc : ce + 1 ≤ rm.cells) (hRs : sl + 6 ≤ rm.slots) (hce : ce + 1 ≤ mc) (hsl : sl + 6 ≤ ms) (hp : xp cls (L, f)) : GG X D ad L f lv ce sl pc st := by
  obtain ⟨p, l, e, R, s, m, args, below, meth, c, Q, nL2, A, H0⟩ := X
  obtain ⟨hx, hb, hml, hown, hts, hK, hA, rfl, rfl, hlk⟩ := hX
  obtain ⟨⟨Qc, rfl⟩, rfl, hxt, hl9, hXB⟩ := hQ
  intro H locs ls hP hD hS hl
  subst ho
  obtain ⟨k9, cf9, i9, a9, -, -, -, -, -, hev⟩ := Cond.stringRef_spec hown (hXB.2.2.2.2 _ hstr)
  have h3 : ∀ w ∈ xbad, w.before args s = true := by
    intro w hw
    rcases List.mem_append.mp hw with h | h
    · obtain ⟨q, hq, rfl⟩ := List.mem_map.mp h
      exact va_Nw.use rfl (hXB.2.2.1 q hq)
    · obtain ⟨q, hq, rfl⟩ := List.mem_map.mp h
      exact va_Nw.use rfl (hXB.2.2.2.1 q hq)
  refine vx_throwS (names := ["java/lang/RuntimeException", "java/lang/Exception"]) hx hb hl9 hown hcls (by decide +kernel) (hts _ hk) (hts _ hini) (vk_R.of (hXB.2.2.2.2 _ hstr) hev) (vx_hat (fun w hw => hts w (hat1 w hw)) hat2 h3) hgood hXB.1 hXB.2.1 hS (hl.1.trans hml.symm) d0 d3 d4 d6 d9 (fun x hx9 => (hxt x hx9).elim) hRf hRl hRc hRs hlk (fun t hvm hz hk9 => ?_) hS.2.2 hce hsl
  refine ⟨(L, f), trivial, ⟨hp, hP.kept (fun k q hq => hk9 q.1 ((hP k q hq).lt)), va_K.moved hvm hK, hD⟩, Nat.le_trans hS.1 hz, fun q h1 h2 => (hk9 q (Nat.lt_of_lt_of_le h1 hS.1)).trans (hS.2.1 q h1 h2)⟩
theorem t_throwSW (hX : CX X D tys cc own Ts rm nL) {mc ms : Nat} {xp : String → US → Prop} (hQ : XQ X D tys ad mc ms xp) {text : String} {ik is ic : Nat} (cls : String) (ho : own = "Perforatum") (hcls : Bundle.fit cls = true) (hk : Cond.classLink own ik cls ∈ Ts) (hini : Cond.initialized cls ∈ Ts) (hstr : (is, text) ∈ xstr) (hat1 : ∀ w ∈ (vx_atS own ic cls ["java/lang/RuntimeException", "java/lang/Exception"]).filter goodWord, w ∈ Ts) (hat2 : ∀ w ∈ (vx_atS own ic cls ["java/lang/RuntimeException", "java/lang/Exception"]).filter (fun w => !goodWord w), w ∈ xbad) (hgood : ∀ w ∈ Cond.classLink own ik cls :: Cond.initialized cls :: vx_atS own ic cls ["java/lang/RuntimeException", "java/lang/Exception"], vx_ot w = true)
    (d0 : decode cc pc = .ok (.new ik, 3)) (d3 : decode cc (pc + 3) = .ok (.dup, 1)) (d4 : decode cc (pc + 4) = .ok (.ldc_w is, 3)) (d6 : decode cc (pc + 7) = .ok (.invokespecial ic, 3)) (d9 : decode cc (pc + 10) = .ok (.athrow, 1)) (hRf : 5 < rm.frames) (hRl : (st.map fun v => v.category).sum + 82 ≤ rm.locals) (hRc : ce + 1 ≤ rm.cells) (hRs : sl + 6 ≤ rm.slots) (hce : ce + 1 ≤ mc) (hsl : sl + 6 ≤ ms) (hp : xp cls (L, f)) : GG X D ad L f lv ce sl pc st := by
  obtain ⟨p, l, e, R, s, m, args, below, meth, c, Q, nL2, A, H0⟩ := X
  obtain ⟨hx, hb, hml, hown, hts, hK, hA, rfl, rfl, hlk⟩ := hX
  obtain ⟨⟨Qc, rfl⟩, rfl, hxt, hl9, hXB⟩ := hQ
  intro H locs ls hP hD hS hl
  subst ho
  obtain ⟨k9, cf9, i9, a9, -, -, -, -, -, hev⟩ := Cond.stringRef_spec hown (hXB.2.2.2.2 _ hstr)
  have h3 : ∀ w ∈ xbad, w.before args s = true := by
    intro w hw
    rcases List.mem_append.mp hw with h | h
    · obtain ⟨q, hq, rfl⟩ := List.mem_map.mp h
      exact va_Nw.use rfl (hXB.2.2.1 q hq)
    · obtain ⟨q, hq, rfl⟩ := List.mem_map.mp h
      exact va_Nw.use rfl (hXB.2.2.2.1 q hq)
  refine vx_throwSW (names := ["java/lang/RuntimeException", "java/lang/Exception"]) hx hb hl9 hown hcls (by decide +kernel) (hts _ hk) (hts _ hini) (vk_R.of (hXB.2.2.2.2 _ hstr) hev) (vx_hat (fun w hw => hts w (hat1 w hw)) hat2 h3) hgood hXB.1 hXB.2.1 hS (hl.1.trans hml.symm) d0 d3 d4 d6 d9 (fun x hx9 => (hxt x hx9).elim) hRf hRl hRc hRs hlk (fun t hvm hz hk9 => ?_) hS.2.2 hce hsl
  refine ⟨(L, f), trivial, ⟨hp, hP.kept (fun k q hq => hk9 q.1 ((hP k q hq).lt)), va_K.moved hvm hK, hD⟩, Nat.le_trans hS.1 hz, fun q h1 h2 => (hk9 q (Nat.lt_of_lt_of_le h1 hS.1)).trans (hS.2.1 q h1 h2)⟩
theorem vx_calle {p : Program} {l : Launch} {e : Env} {R : Room} {s : State} {m : MethodId} {args a : Array Value} {below : List Frame} {meth : Method} {c : Code} {H H0 : Heap} {locs : List Loc} {cells slots mc ms pc : Nat} {Q : State → Prop} {ls : Array Slot} {rest st0 : List Value} {A0 A1 : Nat → Prop} {free : Addr → Prop} {ad : Nat → Nat} {S SX : Type} {post : Option Nat → S → Prop} {px : SX → Prop} {B : S → State → Prop} {BX : String → SX → State → Prop} {AX : Nat → Prop} (hr : vx_Run p l e R s m args below meth c H locs cells slots mc ms (F0 m pc ls st0) rest (va_Qe ad post B A1 a) (vx_X px BX AX) free) (hS : va_S A0 H0 H locs) (hA : ∀ q, q < H.size → A1 q → A0 q) (hf : ∀ q, free q → A0 q) (hAX : ∀ q, q < H.size → AX q → A0 q)
    (kx : ∀ (E : String) (ce : Cell) (q9 : Addr) (u : SX) (t : State) (H1 : Heap) (locs1 : List Loc), t.heap = H1 → s.vm.Alike t.vm → px u → BX E u t → H.size ≤ H1.size → (∀ q : Nat, q < H.size → ¬ AX q → H1[q]? = H[q]?) → va_S A0 H0 H1 locs1 → H1[q9]? = some ce → ce.vm = .none → s.vm.findClass E = some ce.cls → vx_W p l e R s m args below meth c H1 locs1 (cells + mc) (slots + ms) Q (F0 m pc ls rest) q9)
    (kk : ∀ (r : Option Nat) (u : S) (t : State) (H1 : Heap) (locs1 : List Loc), t.heap = H1 → s.vm.Alike t.vm → post r u → B u t → H.size ≤ H1.size → (∀ q : Nat, q < H.size → ¬ A1 q → H1[q]? = H[q]?) → va_S A0 H0 H1 locs1 → W p l e R s m args below meth c H1 locs1 (cells + mc) (slots + ms) Q (F0 m (pc + 3) ls (va_re ad r :: rest))) : W p l e R s m args below meth c H locs cells slots Q (F0 m pc ls st0) := by
  intro T hT X
  rcases hr T hT X with ⟨v, st₀, t, T', L, h0, X', hL, e1, e2, ⟨⟨r, u, hv, hp, hb⟩, hF⟩, st⟩ | ⟨q, st₀, t, T', L, E, ce, h0, X', hL, e1, e2, ⟨u, hp, hb, hF⟩, hce, hcv, hcl, st⟩
  · cases hv
    obtain ⟨k1, k2, k3⟩ := vx_keep h0 e1 hS hA hf hL hF
    obtain ⟨t2, a1, b1⟩ := kk r u t T'.heap (locs ++ L) e1.symm (by rw [← e2]; exact X'.warmed.alike) hp hb k1 k2 k3 T' rfl X'
    exact ⟨t2, st t2 a1, b1⟩
  · obtain ⟨k1, k2, k3⟩ := vx_keep h0 e1 hS hAX hf hL hF
    obtain ⟨t2, a1, b1⟩ := kx E ce q u t T'.heap (locs ++ L) e1.symm (by rw [← e2]; exact X'.warmed.alike) hp hb k1 k2 k3 (by rw [e1]; exact hce) hcv hcl T' rfl X'
    exact ⟨t2, st.trans a1, b1⟩
theorem t_callI_V (hX : CX X D tys cc own Ts rm nL) {y : MethodName} {ws ws2 : List Cond} {rm2 : Room} {bytes : ByteArray} {maxL ix mc ms mc0 ms0 : Nat} {ret : Option FieldType} {post : Int32 → US → Prop} {xp xp0 : String → US → Prop} (hQ : XQ X D tys ad mc0 ms0 xp0) {C : String} {b : Nat} (As : List Value) {st0 : List Value} (hLb : b ∈ L) {kd n2 : Nat} {fs : List Value} {T : u_T} (hfb : f b = .inr (kd, fs)) (hcl : vwCl[kd]? = some (C, T, n2)) (hM : ∀ l : Launch, l.stackTraces = false → TI l y ws rm2 D tys ad L f (.ref (ad b) :: As) mc ms post xp) (hG : GoodIn Ts (wsV own ix C y ws)) (hw : ws = Cond.code y bytes maxL ret :: ws2) (hrc : rm2.cells = mc) (hrs : rm2.slots = ms) (hd : y.cls = C ∧ y.cls ≠ "java/lang/invoke/MethodHandle" ∧ y.cls ≠ "java/lang/invoke/VarHandle" ∧ (parseMethodDescriptor y.desc).map (fun d => d.parameters.length) = some As.length) (hR : rm2.frames + 1 ≤ rm.frames ∧ 8 + (maxL + 11) + rm2.locals ≤ rm.locals) (hf : ce + mc ≤ rm.cells ∧ sl + ms ≤ rm.slots) (hce0 : ce + mc ≤ mc0) (hsl0 : sl + ms ≤ ms0) (hxx : ∀ E u, xp E u → xp0 E u) (hst0 : st0 = As.reverse ++ .ref (ad b) :: st) (hst : (st.map fun v => v.category).sum ≤ 8) (hdg : decode cc pc = .ok (.invokevirtual ix, 3)) (kk : ∀ (r : Int32) (L2 : List Nat) (f2 : Nat → va_E), post r (L2, f2) → GG X D ad L2 f2 lv (ce + mc) (sl + ms) (pc + 3) (.int r :: st)) : GG X D ad L f lv ce sl pc st0 := by
  obtain ⟨p, l, e, R, s, m, args, below, meth, c, Q, nL2, A, H0⟩ := X
  obtain ⟨hx, hb, hml, hown, hts, hK, hA, rfl, rfl, hlk⟩ := hX
  obtain ⟨⟨Qc, rfl⟩, rfl, hxt, hl9, hXB⟩ := hQ
  intro H locs ls hP hD hS hl
  have hFc : ∀ q, va_A (pw ad L f) H.size q → A q := fun q hq => hq.elim (fun ⟨k, e, hk⟩ => hD.2 k _ hk) (fun h => hA q (Nat.le_trans hS.1 h))
  obtain ⟨jb, hjb, hbk⟩ := pw_get (ad := ad) (f := f) hLb
  rw [hfb] at hbk
  refine vx_calli (vx_runV (As := As) (rest := st) ⟨hx, hb, hml, hown, hts⟩ (hM l hl9 H.size) (cwV As.length hts hG hw hrc hrs hd hR) ⟨fun a U g mk q => by obtain ⟨q0, ⟨q1, qP, qK, qD⟩, qX⟩ := q; exact ⟨q0, ⟨q1, qP, va_K.moved (u := U) (U := U.calling g mk a) (Vm.Alike.refl U.vm) qK, qD⟩, XB.moved (u := U) (U := U.calling g mk a) (Vm.Alike.refl U.vm) rfl qX⟩, va_recv hK hP hcl hbk, fun U hU hW => ⟨rfl, ⟨by rw [hU], by rw [hU]; exact hP, va_K.moved hW.alike hK, hD.weaken (fun _ _ _ _ => trivial)⟩, by rw [hU]; exact XB.call hW (fun a h1 h2 => hS.2.1 a h1 h2) hFc hXB⟩⟩ rfl rfl hl.1 hst0 (lv_room hst) hdg hf) hS (fun q _ h => hFc q h) hFc (fun q _ h => hFc q h) (fun E cel q9 u t H1 locs1 ht hvm _ hB hz1 hk1 hS1 hcell hcv hcl => ?_) (fun r u t H1 locs1 ht hvm hw2 hB hz1 hk1 hS1 => ?_)
  · obtain ⟨hpx, hP1, hK1, hD1⟩ := hB
    rw [ht] at hP1
    refine vx_out (fun x hx9 => (hxt x hx9).elim) hlk hcell hcv hcl (fun t2 ht2 hvm2 => ⟨u, trivial, ⟨hxx E u hpx, by rw [ht2]; exact hP1, va_K.moved hvm2 hK, hD1.weaken (fun _ _ _ h => hFc _ h)⟩, hS1.F ht2⟩) hS1.2.2 hce0 hsl0
  · obtain ⟨hP1, hK1, hD1⟩ := hB
    rw [ht] at hP1
    exact kk r u.1 u.2 hw2 H1 locs1 ls hP1 (hD1.weaken (fun _ _ _ h => hFc _ h)) hS1 hl
theorem t_callI_S (hX : CX X D tys cc own Ts rm nL) {y : MethodName} {ws ws2 : List Cond} {rm2 : Room} {bytes : ByteArray} {maxL ix mc ms mc0 ms0 : Nat} {ret : Option FieldType} {post : Int32 → US → Prop} {xp xp0 : String → US → Prop} (hQ : XQ X D tys ad mc0 ms0 xp0) (As : List Value) {st0 : List Value} (hM : ∀ l : Launch, l.stackTraces = false → TI l y ws rm2 D tys ad L f As mc ms post xp) (hG : GoodIn Ts (va_wsS own ix y ws)) (hw : ws = Cond.code y bytes maxL ret :: ws2) (hrc : rm2.cells = mc) (hrs : rm2.slots = ms) (hd : y.cls ≠ "java/lang/invoke/MethodHandle" ∧ y.cls ≠ "java/lang/invoke/VarHandle" ∧ (parseMethodDescriptor y.desc).map (fun d => d.parameters.length) = some As.length) (hR : rm2.frames + 1 ≤ rm.frames ∧ 8 + (maxL + 11) + rm2.locals ≤ rm.locals) (hf : ce + mc ≤ rm.cells ∧ sl + ms ≤ rm.slots) (hce0 : ce + mc ≤ mc0) (hsl0 : sl + ms ≤ ms0) (hxx : ∀ E u, xp E u → xp0 E u) (hst0 : st0 = As.reverse ++ st) (hst : (st.map fun v => v.category).sum ≤ 8) (hdg : decode cc pc = .ok (.invokestatic ix, 3)) (kk : ∀ (r : Int32) (L2 : List Nat) (f2 : Nat → va_E), post r (L2, f2) → GG X D ad L2 f2 lv (ce + mc) (sl + ms) (pc + 3) (.int r :: st)) : GG X D ad L f lv ce sl pc st0 := by
  obtain ⟨p, l, e, R, s, m, args, below, meth, c, Q, nL2, A, H0⟩ := X
  obtain ⟨hx, hb, hml, hown, hts, hK, hA, rfl, rfl, hlk⟩ := hX
  obtain ⟨⟨Qc, rfl⟩, rfl, hxt, hl9, hXB⟩ := hQ
  intro H locs ls hP hD hS hl
  have hFc : ∀ q, va_A (pw ad L f) H.size q → A q := fun q hq => hq.elim (fun ⟨k, e, hk⟩ => hD.2 k _ hk) (fun h => hA q (Nat.le_trans hS.1 h))
  refine vx_calli (vx_runS (As := As) (rest := st) ⟨hx, hb, hml, hown, hts⟩ (hM l hl9 H.size) (va_cwS As.length hts hG hw hrc hrs hd hR) ⟨fun a U g mk q => by obtain ⟨q0, ⟨q1, qP, qK, qD⟩, qX⟩ := q; exact ⟨q0, ⟨q1, qP, va_K.moved (u := U) (U := U.calling g mk a) (Vm.Alike.refl U.vm) qK, qD⟩, XB.moved (u := U) (U := U.calling g mk a) (Vm.Alike.refl U.vm) rfl qX⟩, fun U hU hW => ⟨rfl, ⟨by rw [hU], by rw [hU]; exact hP, va_K.moved hW.alike hK, hD.weaken (fun _ _ _ _ => trivial)⟩, by rw [hU]; exact XB.call hW (fun a h1 h2 => hS.2.1 a h1 h2) hFc hXB⟩⟩ rfl rfl hl.1 hst0 (lv_room hst) hdg hf) hS (fun q _ h => hFc q h) hFc (fun q _ h => hFc q h) (fun E cel q9 u t H1 locs1 ht hvm _ hB hz1 hk1 hS1 hcell hcv hcl => ?_) (fun r u t H1 locs1 ht hvm hw2 hB hz1 hk1 hS1 => ?_)
  · obtain ⟨hpx, hP1, hK1, hD1⟩ := hB
    rw [ht] at hP1
    refine vx_out (fun x hx9 => (hxt x hx9).elim) hlk hcell hcv hcl (fun t2 ht2 hvm2 => ⟨u, trivial, ⟨hxx E u hpx, by rw [ht2]; exact hP1, va_K.moved hvm2 hK, hD1.weaken (fun _ _ _ h => hFc _ h)⟩, hS1.F ht2⟩) hS1.2.2 hce0 hsl0
  · obtain ⟨hP1, hK1, hD1⟩ := hB
    rw [ht] at hP1
    exact kk r u.1 u.2 hw2 H1 locs1 ls hP1 (hD1.weaken (fun _ _ _ h => hFc _ h)) hS1 hl
theorem t_callL_V (hX : CX X D tys cc own Ts rm nL) {y : MethodName} {ws ws2 : List Cond} {rm2 : Room} {bytes : ByteArray} {maxL ix mc ms mc0 ms0 : Nat} {ret : Option FieldType} {post : Int64 → US → Prop} {xp xp0 : String → US → Prop} (hQ : XQ X D tys ad mc0 ms0 xp0) {C : String} {b : Nat} (As : List Value) {st0 : List Value} (hLb : b ∈ L) {kd n2 : Nat} {fs : List Value} {T : u_T} (hfb : f b = .inr (kd, fs)) (hcl : vwCl[kd]? = some (C, T, n2)) (hM : ∀ l : Launch, l.stackTraces = false → TL l y ws rm2 D tys ad L f (.ref (ad b) :: As) mc ms post xp) (hG : GoodIn Ts (wsV own ix C y ws)) (hw : ws = Cond.code y bytes maxL ret :: ws2) (hrc : rm2.cells = mc) (hrs : rm2.slots = ms) (hd : y.cls = C ∧ y.cls ≠ "java/lang/invoke/MethodHandle" ∧ y.cls ≠ "java/lang/invoke/VarHandle" ∧ (parseMethodDescriptor y.desc).map (fun d => d.parameters.length) = some As.length) (hR : rm2.frames + 1 ≤ rm.frames ∧ 8 + (maxL + 11) + rm2.locals ≤ rm.locals) (hf : ce + mc ≤ rm.cells ∧ sl + ms ≤ rm.slots) (hce0 : ce + mc ≤ mc0) (hsl0 : sl + ms ≤ ms0) (hxx : ∀ E u, xp E u → xp0 E u) (hst0 : st0 = As.reverse ++ .ref (ad b) :: st) (hst : (st.map fun v => v.category).sum ≤ 8) (hdg : decode cc pc = .ok (.invokevirtual ix, 3)) (kk : ∀ (r : Int64) (L2 : List Nat) (f2 : Nat → va_E), post r (L2, f2) → GG X D ad L2 f2 lv (ce + mc) (sl + ms) (pc + 3) (.long r :: st)) : GG X D ad L f lv ce sl pc st0 := by
  obtain ⟨p, l, e, R, s, m, args, below, meth, c, Q, nL2, A, H0⟩ := X
  obtain ⟨hx, hb, hml, hown, hts, hK, hA, rfl, rfl, hlk⟩ := hX
  obtain ⟨⟨Qc, rfl⟩, rfl, hxt, hl9, hXB⟩ := hQ
  intro H locs ls hP hD hS hl
  have hFc : ∀ q, va_A (pw ad L f) H.size q → A q := fun q hq => hq.elim (fun ⟨k, e, hk⟩ => hD.2 k _ hk) (fun h => hA q (Nat.le_trans hS.1 h))
  obtain ⟨jb, hjb, hbk⟩ := pw_get (ad := ad) (f := f) hLb
  rw [hfb] at hbk
  refine vx_calll (vx_runV (As := As) (rest := st) ⟨hx, hb, hml, hown, hts⟩ (hM l hl9 H.size) (cwV As.length hts hG hw hrc hrs hd hR) ⟨fun a U g mk q => by obtain ⟨q0, ⟨q1, qP, qK, qD⟩, qX⟩ := q; exact ⟨q0, ⟨q1, qP, va_K.moved (u := U) (U := U.calling g mk a) (Vm.Alike.refl U.vm) qK, qD⟩, XB.moved (u := U) (U := U.calling g mk a) (Vm.Alike.refl U.vm) rfl qX⟩, va_recv hK hP hcl hbk, fun U hU hW => ⟨rfl, ⟨by rw [hU], by rw [hU]; exact hP, va_K.moved hW.alike hK, hD.weaken (fun _ _ _ _ => trivial)⟩, by rw [hU]; exact XB.call hW (fun a h1 h2 => hS.2.1 a h1 h2) hFc hXB⟩⟩ rfl rfl hl.1 hst0 (lv_room hst) hdg hf) hS (fun q _ h => hFc q h) hFc (fun q _ h => hFc q h) (fun E cel q9 u t H1 locs1 ht hvm _ hB hz1 hk1 hS1 hcell hcv hcl => ?_) (fun r u t H1 locs1 ht hvm hw2 hB hz1 hk1 hS1 => ?_)
  · obtain ⟨hpx, hP1, hK1, hD1⟩ := hB
    rw [ht] at hP1
    refine vx_out (fun x hx9 => (hxt x hx9).elim) hlk hcell hcv hcl (fun t2 ht2 hvm2 => ⟨u, trivial, ⟨hxx E u hpx, by rw [ht2]; exact hP1, va_K.moved hvm2 hK, hD1.weaken (fun _ _ _ h => hFc _ h)⟩, hS1.F ht2⟩) hS1.2.2 hce0 hsl0
  · obtain ⟨hP1, hK1, hD1⟩ := hB
    rw [ht] at hP1
    exact kk r u.1 u.2 hw2 H1 locs1 ls hP1 (hD1.weaken (fun _ _ _ h => hFc _ h)) hS1 hl
theorem t_callL_S (hX : CX X D tys cc own Ts rm nL) {y : MethodName} {ws ws2 : List Cond} {rm2 : Room} {bytes : ByteArray} {maxL ix mc ms mc0 ms0 : Nat} {ret : Option FieldType} {post : Int64 → US → Prop} {xp xp0 : String → US → Prop} (hQ : XQ X D tys ad mc0 ms0 xp0) (As : List Value) {st0 : List Value} (hM : ∀ l : Launch, l.stackTraces = false → TL l y ws rm2 D tys ad L f As mc ms post xp) (hG : GoodIn Ts (va_wsS own ix y ws)) (hw : ws = Cond.code y bytes maxL ret :: ws2) (hrc : rm2.cells = mc) (hrs : rm2.slots = ms) (hd : y.cls ≠ "java/lang/invoke/MethodHandle" ∧ y.cls ≠ "java/lang/invoke/VarHandle" ∧ (parseMethodDescriptor y.desc).map (fun d => d.parameters.length) = some As.length) (hR : rm2.frames + 1 ≤ rm.frames ∧ 8 + (maxL + 11) + rm2.locals ≤ rm.locals) (hf : ce + mc ≤ rm.cells ∧ sl + ms ≤ rm.slots) (hce0 : ce + mc ≤ mc0) (hsl0 : sl + ms ≤ ms0) (hxx : ∀ E u, xp E u → xp0 E u) (hst0 : st0 = As.reverse ++ st) (hst : (st.map fun v => v.category).sum ≤ 8) (hdg : decode cc pc = .ok (.invokestatic ix, 3)) (kk : ∀ (r : Int64) (L2 : List Nat) (f2 : Nat → va_E), post r (L2, f2) → GG X D ad L2 f2 lv (ce + mc) (sl + ms) (pc + 3) (.long r :: st)) : GG X D ad L f lv ce sl pc st0 := by
  obtain ⟨p, l, e, R, s, m, args, below, meth, c, Q, nL2, A, H0⟩ := X
  obtain ⟨hx, hb, hml, hown, hts, hK, hA, rfl, rfl, hlk⟩ := hX
  obtain ⟨⟨Qc, rfl⟩, rfl, hxt, hl9, hXB⟩ := hQ
  intro H locs ls hP hD hS hl
  have hFc : ∀ q, va_A (pw ad L f) H.size q → A q := fun q hq => hq.elim (fun ⟨k, e, hk⟩ => hD.2 k _ hk) (fun h => hA q (Nat.le_trans hS.1 h))
  refine vx_calll (vx_runS (As := As) (rest := st) ⟨hx, hb, hml, hown, hts⟩ (hM l hl9 H.size) (va_cwS As.length hts hG hw hrc hrs hd hR) ⟨fun a U g mk q => by obtain ⟨q0, ⟨q1, qP, qK, qD⟩, qX⟩ := q; exact ⟨q0, ⟨q1, qP, va_K.moved (u := U) (U := U.calling g mk a) (Vm.Alike.refl U.vm) qK, qD⟩, XB.moved (u := U) (U := U.calling g mk a) (Vm.Alike.refl U.vm) rfl qX⟩, fun U hU hW => ⟨rfl, ⟨by rw [hU], by rw [hU]; exact hP, va_K.moved hW.alike hK, hD.weaken (fun _ _ _ _ => trivial)⟩, by rw [hU]; exact XB.call hW (fun a h1 h2 => hS.2.1 a h1 h2) hFc hXB⟩⟩ rfl rfl hl.1 hst0 (lv_room hst) hdg hf) hS (fun q _ h => hFc q h) hFc (fun q _ h => hFc q h) (fun E cel q9 u t H1 locs1 ht hvm _ hB hz1 hk1 hS1 hcell hcv hcl => ?_) (fun r u t H1 locs1 ht hvm hw2 hB hz1 hk1 hS1 => ?_)
  · obtain ⟨hpx, hP1, hK1, hD1⟩ := hB
    rw [ht] at hP1
    refine vx_out (fun x hx9 => (hxt x hx9).elim) hlk hcell hcv hcl (fun t2 ht2 hvm2 => ⟨u, trivial, ⟨hxx E u hpx, by rw [ht2]; exact hP1, va_K.moved hvm2 hK, hD1.weaken (fun _ _ _ h => hFc _ h)⟩, hS1.F ht2⟩) hS1.2.2 hce0 hsl0
  · obtain ⟨hP1, hK1, hD1⟩ := hB
    rw [ht] at hP1
    exact kk r u.1 u.2 hw2 H1 locs1 ls hP1 (hD1.weaken (fun _ _ _ h => hFc _ h)) hS1 hl
theorem t_callV_V (hX : CX X D tys cc own Ts rm nL) {y : MethodName} {ws ws2 : List Cond} {rm2 : Room} {bytes : ByteArray} {maxL ix mc ms mc0 ms0 : Nat} {ret : Option FieldType} {post : US → Prop} {xp xp0 : String → US → Prop} (hQ : XQ X D tys ad mc0 ms0 xp0) {C : String} {b : Nat} (As : List Value) {st0 : List Value} (hLb : b ∈ L) {kd n2 : Nat} {fs : List Value} {T : u_T} (hfb : f b = .inr (kd, fs)) (hcl : vwCl[kd]? = some (C, T, n2)) (hM : ∀ l : Launch, l.stackTraces = false → TV l y ws rm2 D tys ad L f (.ref (ad b) :: As) mc ms post xp) (hG : GoodIn Ts (wsV own ix C y ws)) (hw : ws = Cond.code y bytes maxL ret :: ws2) (hrc : rm2.cells = mc) (hrs : rm2.slots = ms) (hd : y.cls = C ∧ y.cls ≠ "java/lang/invoke/MethodHandle" ∧ y.cls ≠ "java/lang/invoke/VarHandle" ∧ (parseMethodDescriptor y.desc).map (fun d => d.parameters.length) = some As.length) (hR : rm2.frames + 1 ≤ rm.frames ∧ 8 + (maxL + 11) + rm2.locals ≤ rm.locals) (hf : ce + mc ≤ rm.cells ∧ sl + ms ≤ rm.slots) (hce0 : ce + mc ≤ mc0) (hsl0 : sl + ms ≤ ms0) (hxx : ∀ E u, xp E u → xp0 E u) (hst0 : st0 = As.reverse ++ .ref (ad b) :: st) (hst : (st.map fun v => v.category).sum ≤ 8) (hdg : decode cc pc = .ok (.invokevirtual ix, 3)) (kk : ∀ (L2 : List Nat) (f2 : Nat → va_E), post (L2, f2) → GG X D ad L2 f2 lv (ce + mc) (sl + ms) (pc + 3) st) : GG X D ad L f lv ce sl pc st0 := by
  obtain ⟨p, l, e, R, s, m, args, below, meth, c, Q, nL2, A, H0⟩ := X
  obtain ⟨hx, hb, hml, hown, hts, hK, hA, rfl, rfl, hlk⟩ := hX
  obtain ⟨⟨Qc, rfl⟩, rfl, hxt, hl9, hXB⟩ := hQ
  intro H locs ls hP hD hS hl
  have hFc : ∀ q, va_A (pw ad L f) H.size q → A q := fun q hq => hq.elim (fun ⟨k, e, hk⟩ => hD.2 k _ hk) (fun h => hA q (Nat.le_trans hS.1 h))
  obtain ⟨jb, hjb, hbk⟩ := pw_get (ad := ad) (f := f) hLb
  rw [hfb] at hbk
  refine vx_callv (vx_runV (As := As) (rest := st) ⟨hx, hb, hml, hown, hts⟩ (hM l hl9 H.size) (cwV As.length hts hG hw hrc hrs hd hR) ⟨fun a U g mk q => by obtain ⟨q0, ⟨q1, qP, qK, qD⟩, qX⟩ := q; exact ⟨q0, ⟨q1, qP, va_K.moved (u := U) (U := U.calling g mk a) (Vm.Alike.refl U.vm) qK, qD⟩, XB.moved (u := U) (U := U.calling g mk a) (Vm.Alike.refl U.vm) rfl qX⟩, va_recv hK hP hcl hbk, fun U hU hW => ⟨rfl, ⟨by rw [hU], by rw [hU]; exact hP, va_K.moved hW.alike hK, hD.weaken (fun _ _ _ _ => trivial)⟩, by rw [hU]; exact XB.call hW (fun a h1 h2 => hS.2.1 a h1 h2) hFc hXB⟩⟩ rfl rfl hl.1 hst0 (lv_room hst) hdg hf) hS (fun q _ h => hFc q h) hFc (fun q _ h => hFc q h) (fun E cel q9 u t H1 locs1 ht hvm _ hB hz1 hk1 hS1 hcell hcv hcl => ?_) (fun u t H1 locs1 ht hvm hw2 hB hz1 hk1 hS1 => ?_)
  · obtain ⟨hpx, hP1, hK1, hD1⟩ := hB
    rw [ht] at hP1
    refine vx_out (fun x hx9 => (hxt x hx9).elim) hlk hcell hcv hcl (fun t2 ht2 hvm2 => ⟨u, trivial, ⟨hxx E u hpx, by rw [ht2]; exact hP1, va_K.moved hvm2 hK, hD1.weaken (fun _ _ _ h => hFc _ h)⟩, hS1.F ht2⟩) hS1.2.2 hce0 hsl0
  · obtain ⟨hP1, hK1, hD1⟩ := hB
    rw [ht] at hP1
    exact kk u.1 u.2 hw2 H1 locs1 ls hP1 (hD1.weaken (fun _ _ _ h => hFc _ h)) hS1 hl
theorem t_callV_S (hX : CX X D tys cc own Ts rm nL) {y : MethodName} {ws ws2 : List Cond} {rm2 : Room} {bytes : ByteArray} {maxL ix mc ms mc0 ms0 : Nat} {ret : Option FieldType} {post : US → Prop} {xp xp0 : String → US → Prop} (hQ : XQ X D tys ad mc0 ms0 xp0) (As : List Value) {st0 : List Value} (hM : ∀ l : Launch, l.stackTraces = false → TV l y ws rm2 D tys ad L f As mc ms post xp) (hG : GoodIn Ts (va_wsS own ix y ws)) (hw : ws = Cond.code y bytes maxL ret :: ws2) (hrc : rm2.cells = mc) (hrs : rm2.slots = ms) (hd : y.cls ≠ "java/lang/invoke/MethodHandle" ∧ y.cls ≠ "java/lang/invoke/VarHandle" ∧ (parseMethodDescriptor y.desc).map (fun d => d.parameters.length) = some As.length) (hR : rm2.frames + 1 ≤ rm.frames ∧ 8 + (maxL + 11) + rm2.locals ≤ rm.locals) (hf : ce + mc ≤ rm.cells ∧ sl + ms ≤ rm.slots) (hce0 : ce + mc ≤ mc0) (hsl0 : sl + ms ≤ ms0) (hxx : ∀ E u, xp E u → xp0 E u) (hst0 : st0 = As.reverse ++ st) (hst : (st.map fun v => v.category).sum ≤ 8) (hdg : decode cc pc = .ok (.invokestatic ix, 3)) (kk : ∀ (L2 : List Nat) (f2 : Nat → va_E), post (L2, f2) → GG X D ad L2 f2 lv (ce + mc) (sl + ms) (pc + 3) st) : GG X D ad L f lv ce sl pc st0 := by
  obtain ⟨p, l, e, R, s, m, args, below, meth, c, Q, nL2, A, H0⟩ := X
  obtain ⟨hx, hb, hml, hown, hts, hK, hA, rfl, rfl, hlk⟩ := hX
  obtain ⟨⟨Qc, rfl⟩, rfl, hxt, hl9, hXB⟩ := hQ
  intro H locs ls hP hD hS hl
  have hFc : ∀ q, va_A (pw ad L f) H.size q → A q := fun q hq => hq.elim (fun ⟨k, e, hk⟩ => hD.2 k _ hk) (fun h => hA q (Nat.le_trans hS.1 h))
  refine vx_callv (vx_runS (As := As) (rest := st) ⟨hx, hb, hml, hown, hts⟩ (hM l hl9 H.size) (va_cwS As.length hts hG hw hrc hrs hd hR) ⟨fun a U g mk q => by obtain ⟨q0, ⟨q1, qP, qK, qD⟩, qX⟩ := q; exact ⟨q0, ⟨q1, qP, va_K.moved (u := U) (U := U.calling g mk a) (Vm.Alike.refl U.vm) qK, qD⟩, XB.moved (u := U) (U := U.calling g mk a) (Vm.Alike.refl U.vm) rfl qX⟩, fun U hU hW => ⟨rfl, ⟨by rw [hU], by rw [hU]; exact hP, va_K.moved hW.alike hK, hD.weaken (fun _ _ _ _ => trivial)⟩, by rw [hU]; exact XB.call hW (fun a h1 h2 => hS.2.1 a h1 h2) hFc hXB⟩⟩ rfl rfl hl.1 hst0 (lv_room hst) hdg hf) hS (fun q _ h => hFc q h) hFc (fun q _ h => hFc q h) (fun E cel q9 u t H1 locs1 ht hvm _ hB hz1 hk1 hS1 hcell hcv hcl => ?_) (fun u t H1 locs1 ht hvm hw2 hB hz1 hk1 hS1 => ?_)
  · obtain ⟨hpx, hP1, hK1, hD1⟩ := hB
    rw [ht] at hP1
    refine vx_out (fun x hx9 => (hxt x hx9).elim) hlk hcell hcv hcl (fun t2 ht2 hvm2 => ⟨u, trivial, ⟨hxx E u hpx, by rw [ht2]; exact hP1, va_K.moved hvm2 hK, hD1.weaken (fun _ _ _ h => hFc _ h)⟩, hS1.F ht2⟩) hS1.2.2 hce0 hsl0
  · obtain ⟨hP1, hK1, hD1⟩ := hB
    rw [ht] at hP1
    exact kk u.1 u.2 hw2 H1 locs1 ls hP1 (hD1.weaken (fun _ _ _ h => hFc _ h)) hS1 hl
theorem t_callQ_V (hX : CX X D tys cc own Ts rm nL) {y : MethodName} {ws ws2 : List Cond} {rm2 : Room} {bytes : ByteArray} {maxL ix mc ms mc0 ms0 : Nat} {ret : Option FieldType} {post : Option Nat → US → Prop} {xp xp0 : String → US → Prop} (hQ : XQ X D tys ad mc0 ms0 xp0) {C : String} {b : Nat} (As : List Value) {st0 : List Value} (hLb : b ∈ L) {kd n2 : Nat} {fs : List Value} {T : u_T} (hfb : f b = .inr (kd, fs)) (hcl : vwCl[kd]? = some (C, T, n2)) (hM : ∀ l : Launch, l.stackTraces = false → TQ l y ws rm2 D tys ad L f (.ref (ad b) :: As) mc ms post xp) (hG : GoodIn Ts (wsV own ix C y ws)) (hw : ws = Cond.code y bytes maxL ret :: ws2) (hrc : rm2.cells = mc) (hrs : rm2.slots = ms) (hd : y.cls = C ∧ y.cls ≠ "java/lang/invoke/MethodHandle" ∧ y.cls ≠ "java/lang/invoke/VarHandle" ∧ (parseMethodDescriptor y.desc).map (fun d => d.parameters.length) = some As.length) (hR : rm2.frames + 1 ≤ rm.frames ∧ 8 + (maxL + 11) + rm2.locals ≤ rm.locals) (hf : ce + mc ≤ rm.cells ∧ sl + ms ≤ rm.slots) (hce0 : ce + mc ≤ mc0) (hsl0 : sl + ms ≤ ms0) (hxx : ∀ E u, xp E u → xp0 E u) (hst0 : st0 = As.reverse ++ .ref (ad b) :: st) (hst : (st.map fun v => v.category).sum ≤ 8) (hdg : decode cc pc = .ok (.invokevirtual ix, 3)) (kk : ∀ (r : Option Nat) (L2 : List Nat) (f2 : Nat → va_E), post r (L2, f2) → GG X D ad L2 f2 lv (ce + mc) (sl + ms) (pc + 3) (va_re ad r :: st)) : GG X D ad L f lv ce sl pc st0 := by
  obtain ⟨p, l, e, R, s, m, args, below, meth, c, Q, nL2, A, H0⟩ := X
  obtain ⟨hx, hb, hml, hown, hts, hK, hA, rfl, rfl, hlk⟩ := hX
  obtain ⟨⟨Qc, rfl⟩, rfl, hxt, hl9, hXB⟩ := hQ
  intro H locs ls hP hD hS hl
  have hFc : ∀ q, va_A (pw ad L f) H.size q → A q := fun q hq => hq.elim (fun ⟨k, e, hk⟩ => hD.2 k _ hk) (fun h => hA q (Nat.le_trans hS.1 h))
  obtain ⟨jb, hjb, hbk⟩ := pw_get (ad := ad) (f := f) hLb
  rw [hfb] at hbk
  refine vx_calle (vx_runV (As := As) (rest := st) ⟨hx, hb, hml, hown, hts⟩ (hM l hl9 H.size) (cwV As.length hts hG hw hrc hrs hd hR) ⟨fun a U g mk q => by obtain ⟨q0, ⟨q1, qP, qK, qD⟩, qX⟩ := q; exact ⟨q0, ⟨q1, qP, va_K.moved (u := U) (U := U.calling g mk a) (Vm.Alike.refl U.vm) qK, qD⟩, XB.moved (u := U) (U := U.calling g mk a) (Vm.Alike.refl U.vm) rfl qX⟩, va_recv hK hP hcl hbk, fun U hU hW => ⟨rfl, ⟨by rw [hU], by rw [hU]; exact hP, va_K.moved hW.alike hK, hD.weaken (fun _ _ _ _ => trivial)⟩, by rw [hU]; exact XB.call hW (fun a h1 h2 => hS.2.1 a h1 h2) hFc hXB⟩⟩ rfl rfl hl.1 hst0 (lv_room hst) hdg hf) hS (fun q _ h => hFc q h) hFc (fun q _ h => hFc q h) (fun E cel q9 u t H1 locs1 ht hvm _ hB hz1 hk1 hS1 hcell hcv hcl => ?_) (fun r u t H1 locs1 ht hvm hw2 hB hz1 hk1 hS1 => ?_)
  · obtain ⟨hpx, hP1, hK1, hD1⟩ := hB
    rw [ht] at hP1
    refine vx_out (fun x hx9 => (hxt x hx9).elim) hlk hcell hcv hcl (fun t2 ht2 hvm2 => ⟨u, trivial, ⟨hxx E u hpx, by rw [ht2]; exact hP1, va_K.moved hvm2 hK, hD1.weaken (fun _ _ _ h => hFc _ h)⟩, hS1.F ht2⟩) hS1.2.2 hce0 hsl0
  · obtain ⟨hP1, hK1, hD1⟩ := hB
    rw [ht] at hP1
    exact kk r u.1 u.2 hw2 H1 locs1 ls hP1 (hD1.weaken (fun _ _ _ h => hFc _ h)) hS1 hl
theorem t_callQ_S (hX : CX X D tys cc own Ts rm nL) {y : MethodName} {ws ws2 : List Cond} {rm2 : Room} {bytes : ByteArray} {maxL ix mc ms mc0 ms0 : Nat} {ret : Option FieldType} {post : Option Nat → US → Prop} {xp xp0 : String → US → Prop} (hQ : XQ X D tys ad mc0 ms0 xp0) (As : List Value) {st0 : List Value} (hM : ∀ l : Launch, l.stackTraces = false → TQ l y ws rm2 D tys ad L f As mc ms post xp) (hG : GoodIn Ts (va_wsS own ix y ws)) (hw : ws = Cond.code y bytes maxL ret :: ws2) (hrc : rm2.cells = mc) (hrs : rm2.slots = ms) (hd : y.cls ≠ "java/lang/invoke/MethodHandle" ∧ y.cls ≠ "java/lang/invoke/VarHandle" ∧ (parseMethodDescriptor y.desc).map (fun d => d.parameters.length) = some As.length) (hR : rm2.frames + 1 ≤ rm.frames ∧ 8 + (maxL + 11) + rm2.locals ≤ rm.locals) (hf : ce + mc ≤ rm.cells ∧ sl + ms ≤ rm.slots) (hce0 : ce + mc ≤ mc0) (hsl0 : sl + ms ≤ ms0) (hxx : ∀ E u, xp E u → xp0 E u) (hst0 : st0 = As.reverse ++ st) (hst : (st.map fun v => v.category).sum ≤ 8) (hdg : decode cc pc = .ok (.invokestatic ix, 3)) (kk : ∀ (r : Option Nat) (L2 : List Nat) (f2 : Nat → va_E), post r (L2, f2) → GG X D ad L2 f2 lv (ce + mc) (sl + ms) (pc + 3) (va_re ad r :: st)) : GG X D ad L f lv ce sl pc st0 := by
  obtain ⟨p, l, e, R, s, m, args, below, meth, c, Q, nL2, A, H0⟩ := X
  obtain ⟨hx, hb, hml, hown, hts, hK, hA, rfl, rfl, hlk⟩ := hX
  obtain ⟨⟨Qc, rfl⟩, rfl, hxt, hl9, hXB⟩ := hQ
  intro H locs ls hP hD hS hl
  have hFc : ∀ q, va_A (pw ad L f) H.size q → A q := fun q hq => hq.elim (fun ⟨k, e, hk⟩ => hD.2 k _ hk) (fun h => hA q (Nat.le_trans hS.1 h))
  refine vx_calle (vx_runS (As := As) (rest := st) ⟨hx, hb, hml, hown, hts⟩ (hM l hl9 H.size) (va_cwS As.length hts hG hw hrc hrs hd hR) ⟨fun a U g mk q => by obtain ⟨q0, ⟨q1, qP, qK, qD⟩, qX⟩ := q; exact ⟨q0, ⟨q1, qP, va_K.moved (u := U) (U := U.calling g mk a) (Vm.Alike.refl U.vm) qK, qD⟩, XB.moved (u := U) (U := U.calling g mk a) (Vm.Alike.refl U.vm) rfl qX⟩, fun U hU hW => ⟨rfl, ⟨by rw [hU], by rw [hU]; exact hP, va_K.moved hW.alike hK, hD.weaken (fun _ _ _ _ => trivial)⟩, by rw [hU]; exact XB.call hW (fun a h1 h2 => hS.2.1 a h1 h2) hFc hXB⟩⟩ rfl rfl hl.1 hst0 (lv_room hst) hdg hf) hS (fun q _ h => hFc q h) hFc (fun q _ h => hFc q h) (fun E cel q9 u t H1 locs1 ht hvm _ hB hz1 hk1 hS1 hcell hcv hcl => ?_) (fun r u t H1 locs1 ht hvm hw2 hB hz1 hk1 hS1 => ?_)
  · obtain ⟨hpx, hP1, hK1, hD1⟩ := hB
    rw [ht] at hP1
    refine vx_out (fun x hx9 => (hxt x hx9).elim) hlk hcell hcv hcl (fun t2 ht2 hvm2 => ⟨u, trivial, ⟨hxx E u hpx, by rw [ht2]; exact hP1, va_K.moved hvm2 hK, hD1.weaken (fun _ _ _ h => hFc _ h)⟩, hS1.F ht2⟩) hS1.2.2 hce0 hsl0
  · obtain ⟨hP1, hK1, hD1⟩ := hB
    rw [ht] at hP1
    exact kk r u.1 u.2 hw2 H1 locs1 ls hP1 (hD1.weaken (fun _ _ _ h => hFc _ h)) hS1 hl
end GGT
abbrev xIO : String := "java/lang/IndexOutOfBoundsException"
abbrev xIA : String := "java/lang/IllegalArgumentException"
abbrev xIS : String := "java/lang/IllegalStateException"
abbrev xNS : String := "java/util/NoSuchElementException"
abbrev xUO : String := "java/lang/UnsupportedOperationException"
abbrev xAE : String := "java/lang/ArithmeticException"
section CTT
variable {X : EN} {D : va_G} {dT : Nat → ClassId} {cc : ByteArray} {own : String} {Ts : List Cond} {rm : Room} {nL : Nat} {ad : Nat → Nat} {I I0 : Nat → Nat → Int32} {lv : List (Nat × Value)} {ce sl pc : Nat} {st : List Value}
abbrev KTI (y : MethodName) (ws : List Cond) (rm : Room) (D : va_G) (dT : Nat → ClassId) (ad : Nat → Nat) (I : Nat → Nat → Int32) (av : List Value) (mc ms : Nat) (Rel : Int32 → (Nat → Nat → Int32) → Prop) (XR : String → Prop) : Prop := ∀ l : Launch, l.stackTraces = false → TI l y ws rm D (tyl dT) ad cL (kf dT ad I) av mc ms (fun r u => ∃ J, u = (cL, kf dT ad J) ∧ Rel r J) (fun E u => u = (cL, kf dT ad I) ∧ XR E)
abbrev KTL (y : MethodName) (ws : List Cond) (rm : Room) (D : va_G) (dT : Nat → ClassId) (ad : Nat → Nat) (I : Nat → Nat → Int32) (av : List Value) (mc ms : Nat) (Rel : Int64 → (Nat → Nat → Int32) → Prop) (XR : String → Prop) : Prop := ∀ l : Launch, l.stackTraces = false → TL l y ws rm D (tyl dT) ad cL (kf dT ad I) av mc ms (fun r u => ∃ J, u = (cL, kf dT ad J) ∧ Rel r J) (fun E u => u = (cL, kf dT ad I) ∧ XR E)
abbrev KTF (y : MethodName) (ws : List Cond) (rm : Room) (D : va_G) (dT : Nat → ClassId) (ad : Nat → Nat) (I : Nat → Nat → Int32) (av : List Value) (mc ms : Nat) (Rel : UInt32 → (Nat → Nat → Int32) → Prop) (XR : String → Prop) : Prop := ∀ l : Launch, l.stackTraces = false → TF l y ws rm D (tyl dT) ad cL (kf dT ad I) av mc ms (fun r u => ∃ J, u = (cL, kf dT ad J) ∧ Rel r J) (fun E u => u = (cL, kf dT ad I) ∧ XR E)
abbrev KTZ (y : MethodName) (ws : List Cond) (rm : Room) (D : va_G) (dT : Nat → ClassId) (ad : Nat → Nat) (I : Nat → Nat → Int32) (av : List Value) (mc ms : Nat) (Rel : UInt64 → (Nat → Nat → Int32) → Prop) (XR : String → Prop) : Prop := ∀ l : Launch, l.stackTraces = false → TZ l y ws rm D (tyl dT) ad cL (kf dT ad I) av mc ms (fun r u => ∃ J, u = (cL, kf dT ad J) ∧ Rel r J) (fun E u => u = (cL, kf dT ad I) ∧ XR E)
abbrev KTV (y : MethodName) (ws : List Cond) (rm : Room) (D : va_G) (dT : Nat → ClassId) (ad : Nat → Nat) (I : Nat → Nat → Int32) (av : List Value) (mc ms : Nat) (Rel : (Nat → Nat → Int32) → Prop) (XR : String → Prop) : Prop := ∀ l : Launch, l.stackTraces = false → TV l y ws rm D (tyl dT) ad cL (kf dT ad I) av mc ms (fun u => ∃ J, u = (cL, kf dT ad J) ∧ Rel J) (fun E u => u = (cL, kf dT ad I) ∧ XR E)
abbrev KTQ (y : MethodName) (ws : List Cond) (rm : Room) (D : va_G) (dT : Nat → ClassId) (ad : Nat → Nat) (I : Nat → Nat → Int32) (av : List Value) (mc ms : Nat) (Rel : Option Nat → (Nat → Nat → Int32) → Prop) (XR : String → Prop) : Prop := ∀ l : Launch, l.stackTraces = false → TQ l y ws rm D (tyl dT) ad cL (kf dT ad I) av mc ms (fun r u => ∃ J, u = (cL, kf dT ad J) ∧ Rel r J) (fun E u => u = (cL, kf dT ad I) ∧ XR E)
theorem ct_callI_V (hX : CX X D (tyl dT) cc own Ts rm nL) {y : MethodName} {ws ws2 : List Cond} {rm2 : Room} {bytes : ByteArray} {maxL ix mc ms mc0 ms0 : Nat} {ret : Option FieldType} {Rel : Int32 → (Nat → Nat → Int32) → Prop} {XR XR0 : String → Prop} (hQ : XQ X D (tyl dT) ad mc0 ms0 (fun E u => u = (cL, kf dT ad I0) ∧ XR0 E)) {C : String} {b : Nat} (As : List Value) {st0 : List Value} (kd : Nat) {n2 : Nat} {T : u_T} (hb36 : b < 36) (hKb : cK b = kd) (h20 : kd < 20) (hcl : vwCl[kd]? = some (C, T, n2)) (hM : KTI y ws rm2 D dT ad I (.ref (ad b) :: As) mc ms Rel XR) (hG : GoodIn Ts (wsV own ix C y ws)) (hw : ws = Cond.code y bytes maxL ret :: ws2) (hrc : rm2.cells = mc) (hrs : rm2.slots = ms) (hd : y.cls = C ∧ y.cls ≠ "java/lang/invoke/MethodHandle" ∧ y.cls ≠ "java/lang/invoke/VarHandle" ∧ (parseMethodDescriptor y.desc).map (fun d => d.parameters.length) = some As.length) (hR : rm2.frames + 1 ≤ rm.frames ∧ 8 + (maxL + 11) + rm2.locals ≤ rm.locals) (hf : ce + mc ≤ rm.cells ∧ sl + ms ≤ rm.slots) (hce0 : ce + mc ≤ mc0) (hsl0 : sl + ms ≤ ms0) (hxx : ∀ E, XR E → I = I0 ∧ XR0 E) (hst0 : st0 = As.reverse ++ .ref (ad b) :: st) (hst : (st.map fun v => v.category).sum ≤ 8) (hdg : decode cc pc = .ok (.invokevirtual ix, 3)) (kk : ∀ (r : Int32) (J : Nat → Nat → Int32), Rel r J → CG X D dT ad J lv (ce + mc) (sl + ms) (pc + 3) (.int r :: st)) : CG X D dT ad I lv ce sl pc st0 := t_callI_V hX hQ As (List.mem_range.mpr hb36) (pf_obj hKb h20) hcl hM hG hw hrc hrs hd hR hf hce0 hsl0 (fun E u h => ⟨h.1.trans (by rw [(hxx E h.2).1]), (hxx E h.2).2⟩) hst0 hst hdg (fun r L2 f2 hp => by obtain ⟨J, he, hr⟩ := hp; cases he; exact kk r J hr)
theorem ct_callI_S (hX : CX X D (tyl dT) cc own Ts rm nL) {y : MethodName} {ws ws2 : List Cond} {rm2 : Room} {bytes : ByteArray} {maxL ix mc ms mc0 ms0 : Nat} {ret : Option FieldType} {Rel : Int32 → (Nat → Nat → Int32) → Prop} {XR XR0 : String → Prop} (hQ : XQ X D (tyl dT) ad mc0 ms0 (fun E u => u = (cL, kf dT ad I0) ∧ XR0 E)) (As : List Value) {st0 : List Value} (hM : KTI y ws rm2 D dT ad I As mc ms Rel XR) (hG : GoodIn Ts (va_wsS own ix y ws)) (hw : ws = Cond.code y bytes maxL ret :: ws2) (hrc : rm2.cells = mc) (hrs : rm2.slots = ms) (hd : y.cls ≠ "java/lang/invoke/MethodHandle" ∧ y.cls ≠ "java/lang/invoke/VarHandle" ∧ (parseMethodDescriptor y.desc).map (fun d => d.parameters.length) = some As.length) (hR : rm2.frames + 1 ≤ rm.frames ∧ 8 + (maxL + 11) + rm2.locals ≤ rm.locals) (hf : ce + mc ≤ rm.cells ∧ sl + ms ≤ rm.slots) (hce0 : ce + mc ≤ mc0) (hsl0 : sl + ms ≤ ms0) (hxx : ∀ E, XR E → I = I0 ∧ XR0 E) (hst0 : st0 = As.reverse ++ st) (hst : (st.map fun v => v.category).sum ≤ 8) (hdg : decode cc pc = .ok (.invokestatic ix, 3)) (kk : ∀ (r : Int32) (J : Nat → Nat → Int32), Rel r J → CG X D dT ad J lv (ce + mc) (sl + ms) (pc + 3) (.int r :: st)) : CG X D dT ad I lv ce sl pc st0 := t_callI_S hX hQ As hM hG hw hrc hrs hd hR hf hce0 hsl0 (fun E u h => ⟨h.1.trans (by rw [(hxx E h.2).1]), (hxx E h.2).2⟩) hst0 hst hdg (fun r L2 f2 hp => by obtain ⟨J, he, hr⟩ := hp; cases he; exact kk r J hr)
theorem ct_callL_V (hX : CX X D (tyl dT) cc own Ts rm nL) {y : MethodName} {ws ws2 : List Cond} {rm2 : Room} {bytes : ByteArray} {maxL ix mc ms mc0 ms0 : Nat} {ret : Option FieldType} {Rel : Int64 → (Nat → Nat → Int32) → Prop} {XR XR0 : String → Prop} (hQ : XQ X D (tyl dT) ad mc0 ms0 (fun E u => u = (cL, kf dT ad I0) ∧ XR0 E)) {C : String} {b : Nat} (As : List Value) {st0 : List Value} (kd : Nat) {n2 : Nat} {T : u_T} (hb36 : b < 36) (hKb : cK b = kd) (h20 : kd < 20) (hcl : vwCl[kd]? = some (C, T, n2)) (hM : KTL y ws rm2 D dT ad I (.ref (ad b) :: As) mc ms Rel XR) (hG : GoodIn Ts (wsV own ix C y ws)) (hw : ws = Cond.code y bytes maxL ret :: ws2) (hrc : rm2.cells = mc) (hrs : rm2.slots = ms) (hd : y.cls = C ∧ y.cls ≠ "java/lang/invoke/MethodHandle" ∧ y.cls ≠ "java/lang/invoke/VarHandle" ∧ (parseMethodDescriptor y.desc).map (fun d => d.parameters.length) = some As.length) (hR : rm2.frames + 1 ≤ rm.frames ∧ 8 + (maxL + 11) + rm2.locals ≤ rm.locals) (hf : ce + mc ≤ rm.cells ∧ sl + ms ≤ rm.slots) (hce0 : ce + mc ≤ mc0) (hsl0 : sl + ms ≤ ms0) (hxx : ∀ E, XR E → I = I0 ∧ XR0 E) (hst0 : st0 = As.reverse ++ .ref (ad b) :: st) (hst : (st.map fun v => v.category).sum ≤ 8) (hdg : decode cc pc = .ok (.invokevirtual ix, 3)) (kk : ∀ (r : Int64) (J : Nat → Nat → Int32), Rel r J → CG X D dT ad J lv (ce + mc) (sl + ms) (pc + 3) (.long r :: st)) : CG X D dT ad I lv ce sl pc st0 := t_callL_V hX hQ As (List.mem_range.mpr hb36) (pf_obj hKb h20) hcl hM hG hw hrc hrs hd hR hf hce0 hsl0 (fun E u h => ⟨h.1.trans (by rw [(hxx E h.2).1]), (hxx E h.2).2⟩) hst0 hst hdg (fun r L2 f2 hp => by obtain ⟨J, he, hr⟩ := hp; cases he; exact kk r J hr)
theorem ct_callL_S (hX : CX X D (tyl dT) cc own Ts rm nL) {y : MethodName} {ws ws2 : List Cond} {rm2 : Room} {bytes : ByteArray} {maxL ix mc ms mc0 ms0 : Nat} {ret : Option FieldType} {Rel : Int64 → (Nat → Nat → Int32) → Prop} {XR XR0 : String → Prop} (hQ : XQ X D (tyl dT) ad mc0 ms0 (fun E u => u = (cL, kf dT ad I0) ∧ XR0 E)) (As : List Value) {st0 : List Value} (hM : KTL y ws rm2 D dT ad I As mc ms Rel XR) (hG : GoodIn Ts (va_wsS own ix y ws)) (hw : ws = Cond.code y bytes maxL ret :: ws2) (hrc : rm2.cells = mc) (hrs : rm2.slots = ms) (hd : y.cls ≠ "java/lang/invoke/MethodHandle" ∧ y.cls ≠ "java/lang/invoke/VarHandle" ∧ (parseMethodDescriptor y.desc).map (fun d => d.parameters.length) = some As.length) (hR : rm2.frames + 1 ≤ rm.frames ∧ 8 + (maxL + 11) + rm2.locals ≤ rm.locals) (hf : ce + mc ≤ rm.cells ∧ sl + ms ≤ rm.slots) (hce0 : ce + mc ≤ mc0) (hsl0 : sl + ms ≤ ms0) (hxx : ∀ E, XR E → I = I0 ∧ XR0 E) (hst0 : st0 = As.reverse ++ st) (hst : (st.map fun v => v.category).sum ≤ 8) (hdg : decode cc pc = .ok (.invokestatic ix, 3)) (kk : ∀ (r : Int64) (J : Nat → Nat → Int32), Rel r J → CG X D dT ad J lv (ce + mc) (sl + ms) (pc + 3) (.long r :: st)) : CG X D dT ad I lv ce sl pc st0 := t_callL_S hX hQ As hM hG hw hrc hrs hd hR hf hce0 hsl0 (fun E u h => ⟨h.1.trans (by rw [(hxx E h.2).1]), (hxx E h.2).2⟩) hst0 hst hdg (fun r L2 f2 hp => by obtain ⟨J, he, hr⟩ := hp; cases he; exact kk r J hr)
theorem ct_callV_V (hX : CX X D (tyl dT) cc own Ts rm nL) {y : MethodName} {ws ws2 : List Cond} {rm2 : Room} {bytes : ByteArray} {maxL ix mc ms mc0 ms0 : Nat} {ret : Option FieldType} {Rel : (Nat → Nat → Int32) → Prop} {XR XR0 : String → Prop} (hQ : XQ X D (tyl dT) ad mc0 ms0 (fun E u => u = (cL, kf dT ad I0) ∧ XR0 E)) {C : String} {b : Nat} (As : List Value) {st0 : List Value} (kd : Nat) {n2 : Nat} {T : u_T} (hb36 : b < 36) (hKb : cK b = kd) (h20 : kd < 20) (hcl : vwCl[kd]? = some (C, T, n2)) (hM : KTV y ws rm2 D dT ad I (.ref (ad b) :: As) mc ms Rel XR) (hG : GoodIn Ts (wsV own ix C y ws)) (hw : ws = Cond.code y bytes maxL ret :: ws2) (hrc : rm2.cells = mc) (hrs : rm2.slots = ms) (hd : y.cls = C ∧ y.cls ≠ "java/lang/invoke/MethodHandle" ∧ y.cls ≠ "java/lang/invoke/VarHandle" ∧ (parseMethodDescriptor y.desc).map (fun d => d.parameters.length) = some As.length) (hR : rm2.frames + 1 ≤ rm.frames ∧ 8 + (maxL + 11) + rm2.locals ≤ rm.locals) (hf : ce + mc ≤ rm.cells ∧ sl + ms ≤ rm.slots) (hce0 : ce + mc ≤ mc0) (hsl0 : sl + ms ≤ ms0) (hxx : ∀ E, XR E → I = I0 ∧ XR0 E) (hst0 : st0 = As.reverse ++ .ref (ad b) :: st) (hst : (st.map fun v => v.category).sum ≤ 8) (hdg : decode cc pc = .ok (.invokevirtual ix, 3)) (kk : ∀ J : Nat → Nat → Int32, Rel J → CG X D dT ad J lv (ce + mc) (sl + ms) (pc + 3) st) : CG X D dT ad I lv ce sl pc st0 := t_callV_V hX hQ As (List.mem_range.mpr hb36) (pf_obj hKb h20) hcl hM hG hw hrc hrs hd hR hf hce0 hsl0 (fun E u h => ⟨h.1.trans (by rw [(hxx E h.2).1]), (hxx E h.2).2⟩) hst0 hst hdg (fun L2 f2 hp => by obtain ⟨J, he, hr⟩ := hp; cases he; exact kk J hr)
theorem ct_callV_S (hX : CX X D (tyl dT) cc own Ts rm nL) {y : MethodName} {ws ws2 : List Cond} {rm2 : Room} {bytes : ByteArray} {maxL ix mc ms mc0 ms0 : Nat} {ret : Option FieldType} {Rel : (Nat → Nat → Int32) → Prop} {XR XR0 : String → Prop} (hQ : XQ X D (tyl dT) ad mc0 ms0 (fun E u => u = (cL, kf dT ad I0) ∧ XR0 E)) (As : List Value) {st0 : List Value} (hM : KTV y ws rm2 D dT ad I As mc ms Rel XR) (hG : GoodIn Ts (va_wsS own ix y ws)) (hw : ws = Cond.code y bytes maxL ret :: ws2) (hrc : rm2.cells = mc) (hrs : rm2.slots = ms) (hd : y.cls ≠ "java/lang/invoke/MethodHandle" ∧ y.cls ≠ "java/lang/invoke/VarHandle" ∧ (parseMethodDescriptor y.desc).map (fun d => d.parameters.length) = some As.length) (hR : rm2.frames + 1 ≤ rm.frames ∧ 8 + (maxL + 11) + rm2.locals ≤ rm.locals) (hf : ce + mc ≤ rm.cells ∧ sl + ms ≤ rm.slots) (hce0 : ce + mc ≤ mc0) (hsl0 : sl + ms ≤ ms0) (hxx : ∀ E, XR E → I = I0 ∧ XR0 E) (hst0 : st0 = As.reverse ++ st) (hst : (st.map fun v => v.category).sum ≤ 8) (hdg : decode cc pc = .ok (.invokestatic ix, 3)) (kk : ∀ J : Nat → Nat → Int32, Rel J → CG X D dT ad J lv (ce + mc) (sl + ms) (pc + 3) st) : CG X D dT ad I lv ce sl pc st0 := t_callV_S hX hQ As hM hG hw hrc hrs hd hR hf hce0 hsl0 (fun E u h => ⟨h.1.trans (by rw [(hxx E h.2).1]), (hxx E h.2).2⟩) hst0 hst hdg (fun L2 f2 hp => by obtain ⟨J, he, hr⟩ := hp; cases he; exact kk J hr)
theorem ct_callQ_V (hX : CX X D (tyl dT) cc own Ts rm nL) {y : MethodName} {ws ws2 : List Cond} {rm2 : Room} {bytes : ByteArray} {maxL ix mc ms mc0 ms0 : Nat} {ret : Option FieldType} {Rel : Option Nat → (Nat → Nat → Int32) → Prop} {XR XR0 : String → Prop} (hQ : XQ X D (tyl dT) ad mc0 ms0 (fun E u => u = (cL, kf dT ad I0) ∧ XR0 E)) {C : String} {b : Nat} (As : List Value) {st0 : List Value} (kd : Nat) {n2 : Nat} {T : u_T} (hb36 : b < 36) (hKb : cK b = kd) (h20 : kd < 20) (hcl : vwCl[kd]? = some (C, T, n2)) (hM : KTQ y ws rm2 D dT ad I (.ref (ad b) :: As) mc ms Rel XR) (hG : GoodIn Ts (wsV own ix C y ws)) (hw : ws = Cond.code y bytes maxL ret :: ws2) (hrc : rm2.cells = mc) (hrs : rm2.slots = ms) (hd : y.cls = C ∧ y.cls ≠ "java/lang/invoke/MethodHandle" ∧ y.cls ≠ "java/lang/invoke/VarHandle" ∧ (parseMethodDescriptor y.desc).map (fun d => d.parameters.length) = some As.length) (hR : rm2.frames + 1 ≤ rm.frames ∧ 8 + (maxL + 11) + rm2.locals ≤ rm.locals) (hf : ce + mc ≤ rm.cells ∧ sl + ms ≤ rm.slots) (hce0 : ce + mc ≤ mc0) (hsl0 : sl + ms ≤ ms0) (hxx : ∀ E, XR E → I = I0 ∧ XR0 E) (hst0 : st0 = As.reverse ++ .ref (ad b) :: st) (hst : (st.map fun v => v.category).sum ≤ 8) (hdg : decode cc pc = .ok (.invokevirtual ix, 3)) (kk : ∀ (r : Option Nat) (J : Nat → Nat → Int32), Rel r J → CG X D dT ad J lv (ce + mc) (sl + ms) (pc + 3) (va_re ad r :: st)) : CG X D dT ad I lv ce sl pc st0 := t_callQ_V hX hQ As (List.mem_range.mpr hb36) (pf_obj hKb h20) hcl hM hG hw hrc hrs hd hR hf hce0 hsl0 (fun E u h => ⟨h.1.trans (by rw [(hxx E h.2).1]), (hxx E h.2).2⟩) hst0 hst hdg (fun r L2 f2 hp => by obtain ⟨J, he, hr⟩ := hp; cases he; exact kk r J hr)
theorem ct_callQ_S (hX : CX X D (tyl dT) cc own Ts rm nL) {y : MethodName} {ws ws2 : List Cond} {rm2 : Room} {bytes : ByteArray} {maxL ix mc ms mc0 ms0 : Nat} {ret : Option FieldType} {Rel : Option Nat → (Nat → Nat → Int32) → Prop} {XR XR0 : String → Prop} (hQ : XQ X D (tyl dT) ad mc0 ms0 (fun E u => u = (cL, kf dT ad I0) ∧ XR0 E)) (As : List Value) {st0 : List Value} (hM : KTQ y ws rm2 D dT ad I As mc ms Rel XR) (hG : GoodIn Ts (va_wsS own ix y ws)) (hw : ws = Cond.code y bytes maxL ret :: ws2) (hrc : rm2.cells = mc) (hrs : rm2.slots = ms) (hd : y.cls ≠ "java/lang/invoke/MethodHandle" ∧ y.cls ≠ "java/lang/invoke/VarHandle" ∧ (parseMethodDescriptor y.desc).map (fun d => d.parameters.length) = some As.length) (hR : rm2.frames + 1 ≤ rm.frames ∧ 8 + (maxL + 11) + rm2.locals ≤ rm.locals) (hf : ce + mc ≤ rm.cells ∧ sl + ms ≤ rm.slots) (hce0 : ce + mc ≤ mc0) (hsl0 : sl + ms ≤ ms0) (hxx : ∀ E, XR E → I = I0 ∧ XR0 E) (hst0 : st0 = As.reverse ++ st) (hst : (st.map fun v => v.category).sum ≤ 8) (hdg : decode cc pc = .ok (.invokestatic ix, 3)) (kk : ∀ (r : Option Nat) (J : Nat → Nat → Int32), Rel r J → CG X D dT ad J lv (ce + mc) (sl + ms) (pc + 3) (va_re ad r :: st)) : CG X D dT ad I lv ce sl pc st0 := t_callQ_S hX hQ As hM hG hw hrc hrs hd hR hf hce0 hsl0 (fun E u h => ⟨h.1.trans (by rw [(hxx E h.2).1]), (hxx E h.2).2⟩) hst0 hst hdg (fun r L2 f2 hp => by obtain ⟨J, he, hr⟩ := hp; cases he; exact kk r J hr)
end CTT
theorem hat_115 : ∀ w ∈ (vx_atS RX6 115 "java/lang/UnsupportedOperationException" ["java/lang/RuntimeException", "java/lang/Exception"]).filter (fun w => !goodWord w), w ∈ xbad := by decide +kernel
theorem hgd_115 : ∀ w ∈ Cond.classLink RX6 111 "java/lang/UnsupportedOperationException" :: Cond.initialized "java/lang/UnsupportedOperationException" :: vx_atS RX6 115 "java/lang/UnsupportedOperationException" ["java/lang/RuntimeException", "java/lang/Exception"], vx_ot w = true := by decide +kernel
theorem hat_124 : ∀ w ∈ (vx_atS RX6 124 "java/lang/IllegalStateException" ["java/lang/RuntimeException", "java/lang/Exception"]).filter (fun w => !goodWord w), w ∈ xbad := by decide +kernel
theorem hgd_124 : ∀ w ∈ Cond.classLink RX6 120 "java/lang/IllegalStateException" :: Cond.initialized "java/lang/IllegalStateException" :: vx_atS RX6 124 "java/lang/IllegalStateException" ["java/lang/RuntimeException", "java/lang/Exception"], vx_ot w = true := by decide +kernel
theorem hat_146 : ∀ w ∈ (vx_atS RX6 146 "java/lang/IllegalArgumentException" ["java/lang/RuntimeException", "java/lang/Exception"]).filter (fun w => !goodWord w), w ∈ xbad := by decide +kernel
theorem hgd_146 : ∀ w ∈ Cond.classLink RX6 142 "java/lang/IllegalArgumentException" :: Cond.initialized "java/lang/IllegalArgumentException" :: vx_atS RX6 146 "java/lang/IllegalArgumentException" ["java/lang/RuntimeException", "java/lang/Exception"], vx_ot w = true := by decide +kernel
theorem hat_271 : ∀ w ∈ (vx_atS RX6 271 "java/lang/ArithmeticException" ["java/lang/RuntimeException", "java/lang/Exception"]).filter (fun w => !goodWord w), w ∈ xbad := by decide +kernel
theorem hgd_271 : ∀ w ∈ Cond.classLink RX6 267 "java/lang/ArithmeticException" :: Cond.initialized "java/lang/ArithmeticException" :: vx_atS RX6 271 "java/lang/ArithmeticException" ["java/lang/RuntimeException", "java/lang/Exception"], vx_ot w = true := by decide +kernel
theorem hat_293 : ∀ w ∈ (vx_atS RX6 293 "java/lang/IndexOutOfBoundsException" ["java/lang/RuntimeException", "java/lang/Exception"]).filter (fun w => !goodWord w), w ∈ xbad := by decide +kernel
theorem hgd_293 : ∀ w ∈ Cond.classLink RX6 289 "java/lang/IndexOutOfBoundsException" :: Cond.initialized "java/lang/IndexOutOfBoundsException" :: vx_atS RX6 293 "java/lang/IndexOutOfBoundsException" ["java/lang/RuntimeException", "java/lang/Exception"], vx_ot w = true := by decide +kernel

