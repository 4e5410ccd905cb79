abbrev ZT : Type := Nat × (Nat → Nat) × (Nat → Nat) × Nat
def zFw : List (String × MethodName × MethodName) := [(RJx4a65c, ⟨"java/util/List", "size", "()I"⟩, yJx4a65c_size_8abf5), (RJx4a65c, ⟨"java/util/List", "add", "(Ljava/lang/Object;)Z"⟩, yJx4a65c_add_9ea2d), (RJx4a65c, ⟨"java/util/List", "get", "(I)Ljava/lang/Object;"⟩, yJx4a65c_get_915e3), (RJx4a65c, ⟨"java/util/List", "iterator", "()Ljava/util/Iterator;"⟩, yJx4a65c_iterator_32c93), (RJx4a65c, ⟨"java/util/List", "clear", "()V"⟩, yJx4a65c_clear_da8c8), (RJx4a65c, ⟨"java/util/List", "isEmpty", "()Z"⟩, yJx4a65c_isEmpty_aae02), (RJx35411, ⟨"java/util/Iterator", "hasNext", "()Z"⟩, yJx35411_hasNext_aae02), (RJx35411, ⟨"java/util/Iterator", "next", "()Ljava/lang/Object;"⟩, yJx35411_next_0502b)]
def zCa : List (String × String) := [("[I", "java/lang/Object"), ("[[Z", "java/lang/Object"), ("[Z", "java/lang/Cloneable")]
def zNL : List (String × Nat × MethodName × String) := [("PerforatumModel", 47, yX7_init, "PerforatumModel")]
def zFN : Cond := Cond.fieldLinkNest "java/util/ArrayList$Itr" 28 "java/util/ArrayList" "size" "I" "java/util/ArrayList"
def zAO : List String := ["PerforatumModel$Valve", "java/lang/Object"]
def zSt : List (Nat × String) := [(125, "flp"), (145, "glpk"), (222, "noflv")]
def zLen : List Nat := [3, 4, 5]
def zByt : List (List Int32) := [[102, 108, 112], [103, 108, 112, 107], [110, 111, 102, 108, 118]]
def zAZ (U : State) : Prop := (Cond.arrayOver (.array .boolean)).before #[] U = true
theorem zAZ.moved {u U : State} (hvm : u.vm.Alike U.vm) (h : zAZ u) : zAZ U := Jvm.Stand.arrayOver_alikeB hvm h
/-- what tables alone say -/
def XW (Z : ZT) (U : State) : Prop := (∀ q ∈ zFw, va_Fw q.1 q.2.1 q.2.2 U) ∧ (∀ q ∈ zCa, va_Nw (.castable q.1 q.2) U) ∧ xNL zNL U ∧ xAO zAO U ∧ zAZ U ∧ va_Mi "[Ljava/lang/Object;" Z.2.2.2 U ∧ va_Dc U ∧ (∀ i, i < 3 → vk_R "PerforatumModel" (zSt.getD i (0, "")).1 (zSt.getD i (0, "")).2 (Z.2.1 i) U) ∧ va_Nw zFN U
def XM (Z : ZT) (A : Nat → Prop) (U : State) (H : Heap) : Prop := va_Z "java/util/ArrayList" "DEFAULTCAPACITY_EMPTY_ELEMENTDATA" "[Ljava/lang/Object;" (.ref Z.1) A U H ∧ va_T (.object "java/lang/Object") Z.1 0 (fun _ => .null) A U H ∧ va_Z "java/lang/String" "COMPACT_STRINGS" "Z" (.int 1) A U H ∧ vk_S 3 zLen zByt Z.2.1 Z.2.2.1 A U H ∧ XW Z U
theorem zFw_ok : ∀ q ∈ zFw, q.2.1.cls ≠ "java/lang/invoke/MethodHandle" ∧ q.2.1.cls ≠ "java/lang/invoke/VarHandle" := by decide +kernel
theorem XW.ok {Z : ZT} : ∀ U V : State, (U.vm = V.vm ∨ U.WarmedH V.vm) → XW Z U → XW Z V := by
  intro U V h hx
  have al : U.vm.Alike V.vm := h.elim (fun h => h ▸ Vm.Alike.refl U.vm) (fun h => h.alike)
  obtain ⟨h1, h2, h3, h4, h5, h6, h7, h8, h9⟩ := hx
  exact ⟨fun q hq => (h1 q hq).moved (zFw_ok q hq) al, fun q hq => h.elim (fun h => va_Nw.same rfl h (h2 q hq)) (fun h => va_Nw.warmC h (h2 q hq)), xNL_ok U V h h3, xAO_ok U V al h4, h5.moved al, h6.moved al, h7.moved al, fun i hi => h.elim (fun h => vk_R.same h.symm (h8 i hi)) (fun h => vk_R.warm h (h8 i hi)), h.elim (fun h => va_Nw.same rfl h h9) (fun h => va_Nw.warmF h h9)⟩
theorem XM.moved {Z : ZT} {A : Nat → Prop} {u U : State} {H : Heap} (hv : u.vm = U.vm) (h : XM Z A u H) : XM Z A U H := by
  have al : u.vm.Alike U.vm := hv ▸ Vm.Alike.refl u.vm
  exact ⟨va_Z.moved al h.1, va_T.moved al h.2.1, va_Z.moved al h.2.2.1, vk_S.moved al h.2.2.2.1, XW.ok u U (Or.inl hv) h.2.2.2.2⟩
theorem XM.call {Z : ZT} {A B : Nat → Prop} {s U : State} {H : Heap} (hW : s.WarmedH U.vm) (hq : ∀ a : Nat, a < s.heap.size → ¬ A a → H[a]? = s.heap[a]?) (hAB : ∀ q, B q → A q) (h : XM Z A s s.heap) : XM Z B U H :=
  ⟨((va_Z.moved hW.alike h.1).kept hq).narrow hAB, ((va_T.moved hW.alike h.2.1).kept hq).narrow hAB, ((va_Z.moved hW.alike h.2.2.1).kept hq).narrow hAB, ((vk_S.moved hW.alike h.2.2.2.1).kept hq).narrow hAB, XW.ok s U (Or.inr hW) h.2.2.2.2⟩
def PM (Z : ZT) (D : va_G) (tys : List (ClassId × FieldType)) (ad : Nat → Nat) (L : List Nat) (f : Nat → va_E) (sz : Nat) : State → Prop := fun U => PP D tys ad L f sz U ∧ XM Z (va_A (pw ad L f) sz) U U.heap
def XMX (X : EN) (Z : ZT) : Prop := match X with
  | (_, _, _, _, s, _, _, _, _, _, _, _, A, H0) => XM Z A s s.heap ∧ H0 = s.heap
def BI (l : Launch) (y : MethodName) (ws : List Cond) (rm : Room) (D : va_G) (tys : List (ClassId × FieldType)) (Z : ZT) (ad : Nat → Nat) (L : List Nat) (f : Nat → va_E) (av : List Value) (mc ms : Nat) (post : Int32 → UA → Prop) : Prop := ∀ sz, Met l y ws rm (va_Pc av (PM Z D tys ad L f sz)) (va_Qi post (AW D tys (va_A (pw ad L f) sz)) (va_A (pw ad L f) sz)) mc ms (va_A (pw ad L f) sz)
def EBI (X : EN) (D : va_G) (tys : List (ClassId × FieldType)) (ret : Option FieldType) (mc ms : Nat) (post : Int32 → UA → Prop) : Prop := match X with
  | (_, _, _, _, s, _, args, below, meth, _, Q, _, A, H0) => Q = MQ below (va_Qi post (AW D tys A) A) args s mc ms A ∧ meth.sig.returnType = ret ∧ H0 = s.heap
def BL (l : Launch) (y : MethodName) (ws : List Cond) (rm : Room) (D : va_G) (tys : List (ClassId × FieldType)) (Z : ZT) (ad : Nat → Nat) (L : List Nat) (f : Nat → va_E) (av : List Value) (mc ms : Nat) (post : Int64 → UA → Prop) : Prop := ∀ sz, Met l y ws rm (va_Pc av (PM Z D tys ad L f sz)) (va_Ql post (AW D tys (va_A (pw ad L f) sz)) (va_A (pw ad L f) sz)) mc ms (va_A (pw ad L f) sz)
def EBL (X : EN) (D : va_G) (tys : List (ClassId × FieldType)) (ret : Option FieldType) (mc ms : Nat) (post : Int64 → UA → Prop) : Prop := match X with
  | (_, _, _, _, s, _, args, below, meth, _, Q, _, A, H0) => Q = MQ below (va_Ql post (AW D tys A) A) args s mc ms A ∧ meth.sig.returnType = ret ∧ H0 = s.heap
def BF (l : Launch) (y : MethodName) (ws : List Cond) (rm : Room) (D : va_G) (tys : List (ClassId × FieldType)) (Z : ZT) (ad : Nat → Nat) (L : List Nat) (f : Nat → va_E) (av : List Value) (mc ms : Nat) (post : UInt32 → UA → Prop) : Prop := ∀ sz, Met l y ws rm (va_Pc av (PM Z D tys ad L f sz)) (va_Qf post (AW D tys (va_A (pw ad L f) sz)) (va_A (pw ad L f) sz)) mc ms (va_A (pw ad L f) sz)
def EBF (X : EN) (D : va_G) (tys : List (ClassId × FieldType)) (ret : Option FieldType) (mc ms : Nat) (post : UInt32 → UA → Prop) : Prop := match X with
  | (_, _, _, _, s, _, args, below, meth, _, Q, _, A, H0) => Q = MQ below (va_Qf post (AW D tys A) A) args s mc ms A ∧ meth.sig.returnType = ret ∧ H0 = s.heap
def BZ (l : Launch) (y : MethodName) (ws : List Cond) (rm : Room) (D : va_G) (tys : List (ClassId × FieldType)) (Z : ZT) (ad : Nat → Nat) (L : List Nat) (f : Nat → va_E) (av : List Value) (mc ms : Nat) (post : UInt64 → UA → Prop) : Prop := ∀ sz, Met l y ws rm (va_Pc av (PM Z D tys ad L f sz)) (va_Qd post (AW D tys (va_A (pw ad L f) sz)) (va_A (pw ad L f) sz)) mc ms (va_A (pw ad L f) sz)
def EBZ (X : EN) (D : va_G) (tys : List (ClassId × FieldType)) (ret : Option FieldType) (mc ms : Nat) (post : UInt64 → UA → Prop) : Prop := match X with
  | (_, _, _, _, s, _, args, below, meth, _, Q, _, A, H0) => Q = MQ below (va_Qd post (AW D tys A) A) args s mc ms A ∧ meth.sig.returnType = ret ∧ H0 = s.heap
def BV (l : Launch) (y : MethodName) (ws : List Cond) (rm : Room) (D : va_G) (tys : List (ClassId × FieldType)) (Z : ZT) (ad : Nat → Nat) (L : List Nat) (f : Nat → va_E) (av : List Value) (mc ms : Nat) (post : UA → Prop) : Prop := ∀ sz, Met l y ws rm (va_Pc av (PM Z D tys ad L f sz)) (va_Qv post (AW D tys (va_A (pw ad L f) sz)) (va_A (pw ad L f) sz)) mc ms (va_A (pw ad L f) sz)
def EBV (X : EN) (D : va_G) (tys : List (ClassId × FieldType)) (ret : Option FieldType) (mc ms : Nat) (post : UA → Prop) : Prop := match X with
  | (_, _, _, _, s, _, args, below, meth, _, Q, _, A, H0) => Q = MQ below (va_Qv post (AW D tys A) A) args s mc ms A ∧ meth.sig.returnType = ret ∧ H0 = s.heap
def BQ (l : Launch) (y : MethodName) (ws : List Cond) (rm : Room) (D : va_G) (tys : List (ClassId × FieldType)) (Z : ZT) (ad : Nat → Nat) (L : List Nat) (f : Nat → va_E) (av : List Value) (mc ms : Nat) (post : Option Nat → UA → Prop) : Prop := ∀ sz, Met l y ws rm (va_Pc av (PM Z D tys ad L f sz)) (va_Qq post (AW D tys (va_A (pw ad L f) sz)) (va_A (pw ad L f) sz)) mc ms (va_A (pw ad L f) sz)
def EBQ (X : EN) (D : va_G) (tys : List (ClassId × FieldType)) (ret : Option FieldType) (mc ms : Nat) (post : Option Nat → UA → Prop) : Prop := match X with
  | (_, _, _, _, s, _, args, below, meth, _, Q, _, A, H0) => Q = MQ below (va_Qq post (AW D tys A) A) args s mc ms A ∧ meth.sig.returnType = ret ∧ H0 = s.heap
theorem bi_of {l : Launch} {y : MethodName} {ws ws2 : List Cond} {rm : Room} {D : va_G} {tys : List (ClassId × FieldType)} {Z : ZT} {ad : Nat → Nat} {L : List Nat} {f : Nat → va_E} {av : List Value} {mc ms : Nat} {post : Int32 → UA → Prop} {cc : ByteArray} {maxL : Nat} {own : String} (ret : Option FieldType) (lv0 : List (Nat × Value)) (hy : plainName y.cls = true) (ho : y.cls = own) (hw : ws = Cond.code y cc maxL ret :: ws2) (hlv : lv_args 0 av = lv0) (hlen : (lg_sl av).length ≤ maxL)
    (body : ∀ X : EN, CX X D tys cc own ws rm maxL → EBI X D tys ret mc ms post → WN X y.name → XMX X Z → GG X D ad L f lv0 0 0 0 []) : BI l y ws rm D tys Z ad L f av mc ms post := by
  subst ho
  intro sz
  refine Met.ofW (cc := cc) (maxL := maxL) (ret := ret) hy hw ?_
  intro p e s m args below meth c s₁ B hml hv
  obtain ⟨rfl, ⟨hsz, hP, hK, hD0⟩, hxw⟩ := hv
  have hts := atoms_spec (ws := ws) B.pre
  have hown : s.vm.findClass y.cls = some m.cls := findClass_of_methodNamed B.named
  have hnm := (name_of_methodNamed B.named B.method).1
  subst hsz
  have hD := hD0.self (sz := s.heap.size)
  have hl := lv_entry av (n := maxL) hlen
  rw [lg_entry_eq]
  exact body (p, l, e, (headSpec ws rm).room, s, m, av.toArray, below, meth, c, _, maxL, va_A (pw ad L f) s.heap.size, s.heap) ⟨B.exec, B.bytes, hml, hown, hts, hK, fun q h => Or.inr h, rfl, rfl, B.notSynchronized⟩ ⟨rfl, B.returns, rfl⟩ hnm ⟨hxw, rfl⟩ s.heap [] _ hP hD va_S.rf (hlv ▸ hl)
theorem bl_of {l : Launch} {y : MethodName} {ws ws2 : List Cond} {rm : Room} {D : va_G} {tys : List (ClassId × FieldType)} {Z : ZT} {ad : Nat → Nat} {L : List Nat} {f : Nat → va_E} {av : List Value} {mc ms : Nat} {post : Int64 → UA → Prop} {cc : ByteArray} {maxL : Nat} {own : String}  (lv0 : List (Nat × Value)) (hy : plainName y.cls = true) (ho : y.cls = own) (hw : ws = Cond.code y cc maxL (some .long) :: ws2) (hlv : lv_args 0 av = lv0) (hlen : (lg_sl av).length ≤ maxL)
    (body : ∀ X : EN, CX X D tys cc own ws rm maxL → EBL X D tys (some .long) mc ms post → WN X y.name → XMX X Z → GG X D ad L f lv0 0 0 0 []) : BL l y ws rm D tys Z ad L f av mc ms post := by
  subst ho
  intro sz
  refine Met.ofW (cc := cc) (maxL := maxL) (ret := (some .long)) hy hw ?_
  intro p e s m args below meth c s₁ B hml hv
  obtain ⟨rfl, ⟨hsz, hP, hK, hD0⟩, hxw⟩ := hv
  have hts := atoms_spec (ws := ws) B.pre
  have hown : s.vm.findClass y.cls = some m.cls := findClass_of_methodNamed B.named
  have hnm := (name_of_methodNamed B.named B.method).1
  subst hsz
  have hD := hD0.self (sz := s.heap.size)
  have hl := lv_entry av (n := maxL) hlen
  rw [lg_entry_eq]
  exact body (p, l, e, (headSpec ws rm).room, s, m, av.toArray, below, meth, c, _, maxL, va_A (pw ad L f) s.heap.size, s.heap) ⟨B.exec, B.bytes, hml, hown, hts, hK, fun q h => Or.inr h, rfl, rfl, B.notSynchronized⟩ ⟨rfl, B.returns, rfl⟩ hnm ⟨hxw, rfl⟩ s.heap [] _ hP hD va_S.rf (hlv ▸ hl)
theorem bf_of {l : Launch} {y : MethodName} {ws ws2 : List Cond} {rm : Room} {D : va_G} {tys : List (ClassId × FieldType)} {Z : ZT} {ad : Nat → Nat} {L : List Nat} {f : Nat → va_E} {av : List Value} {mc ms : Nat} {post : UInt32 → UA → Prop} {cc : ByteArray} {maxL : Nat} {own : String}  (lv0 : List (Nat × Value)) (hy : plainName y.cls = true) (ho : y.cls = own) (hw : ws = Cond.code y cc maxL (some .float) :: ws2) (hlv : lv_args 0 av = lv0) (hlen : (lg_sl av).length ≤ maxL)
    (body : ∀ X : EN, CX X D tys cc own ws rm maxL → EBF X D tys (some .float) mc ms post → WN X y.name → XMX X Z → GG X D ad L f lv0 0 0 0 []) : BF l y ws rm D tys Z ad L f av mc ms post := by
  subst ho
  intro sz
  refine Met.ofW (cc := cc) (maxL := maxL) (ret := (some .float)) hy hw ?_
  intro p e s m args below meth c s₁ B hml hv
  obtain ⟨rfl, ⟨hsz, hP, hK, hD0⟩, hxw⟩ := hv
  have hts := atoms_spec (ws := ws) B.pre
  have hown : s.vm.findClass y.cls = some m.cls := findClass_of_methodNamed B.named
  have hnm := (name_of_methodNamed B.named B.method).1
  subst hsz
  have hD := hD0.self (sz := s.heap.size)
  have hl := lv_entry av (n := maxL) hlen
  rw [lg_entry_eq]
  exact body (p, l, e, (headSpec ws rm).room, s, m, av.toArray, below, meth, c, _, maxL, va_A (pw ad L f) s.heap.size, s.heap) ⟨B.exec, B.bytes, hml, hown, hts, hK, fun q h => Or.inr h, rfl, rfl, B.notSynchronized⟩ ⟨rfl, B.returns, rfl⟩ hnm ⟨hxw, rfl⟩ s.heap [] _ hP hD va_S.rf (hlv ▸ hl)
theorem bz_of {l : Launch} {y : MethodName} {ws ws2 : List Cond} {rm : Room} {D : va_G} {tys : List (ClassId × FieldType)} {Z : ZT} {ad : Nat → Nat} {L : List Nat} {f : Nat → va_E} {av : List Value} {mc ms : Nat} {post : UInt64 → UA → Prop} {cc : ByteArray} {maxL : Nat} {own : String}  (lv0 : List (Nat × Value)) (hy : plainName y.cls = true) (ho : y.cls = own) (hw : ws = Cond.code y cc maxL (some .double) :: ws2) (hlv : lv_args 0 av = lv0) (hlen : (lg_sl av).length ≤ maxL)
    (body : ∀ X : EN, CX X D tys cc own ws rm maxL → EBZ X D tys (some .double) mc ms post → WN X y.name → XMX X Z → GG X D ad L f lv0 0 0 0 []) : BZ l y ws rm D tys Z ad L f av mc ms post := by
  subst ho
  intro sz
  refine Met.ofW (cc := cc) (maxL := maxL) (ret := (some .double)) hy hw ?_
  intro p e s m args below meth c s₁ B hml hv
  obtain ⟨rfl, ⟨hsz, hP, hK, hD0⟩, hxw⟩ := hv
  have hts := atoms_spec (ws := ws) B.pre
  have hown : s.vm.findClass y.cls = some m.cls := findClass_of_methodNamed B.named
  have hnm := (name_of_methodNamed B.named B.method).1
  subst hsz
  have hD := hD0.self (sz := s.heap.size)
  have hl := lv_entry av (n := maxL) hlen
  rw [lg_entry_eq]
  exact body (p, l, e, (headSpec ws rm).room, s, m, av.toArray, below, meth, c, _, maxL, va_A (pw ad L f) s.heap.size, s.heap) ⟨B.exec, B.bytes, hml, hown, hts, hK, fun q h => Or.inr h, rfl, rfl, B.notSynchronized⟩ ⟨rfl, B.returns, rfl⟩ hnm ⟨hxw, rfl⟩ s.heap [] _ hP hD va_S.rf (hlv ▸ hl)
theorem bv_of {l : Launch} {y : MethodName} {ws ws2 : List Cond} {rm : Room} {D : va_G} {tys : List (ClassId × FieldType)} {Z : ZT} {ad : Nat → Nat} {L : List Nat} {f : Nat → va_E} {av : List Value} {mc ms : Nat} {post : UA → Prop} {cc : ByteArray} {maxL : Nat} {own : String}  (lv0 : List (Nat × Value)) (hy : plainName y.cls = true) (ho : y.cls = own) (hw : ws = Cond.code y cc maxL none :: ws2) (hlv : lv_args 0 av = lv0) (hlen : (lg_sl av).length ≤ maxL)
    (body : ∀ X : EN, CX X D tys cc own ws rm maxL → EBV X D tys none mc ms post → WN X y.name → XMX X Z → GG X D ad L f lv0 0 0 0 []) : BV l y ws rm D tys Z ad L f av mc ms post := by
  subst ho
  intro sz
  refine Met.ofW (cc := cc) (maxL := maxL) (ret := none) hy hw ?_
  intro p e s m args below meth c s₁ B hml hv
  obtain ⟨rfl, ⟨hsz, hP, hK, hD0⟩, hxw⟩ := hv
  have hts := atoms_spec (ws := ws) B.pre
  have hown : s.vm.findClass y.cls = some m.cls := findClass_of_methodNamed B.named
  have hnm := (name_of_methodNamed B.named B.method).1
  subst hsz
  have hD := hD0.self (sz := s.heap.size)
  have hl := lv_entry av (n := maxL) hlen
  rw [lg_entry_eq]
  exact body (p, l, e, (headSpec ws rm).room, s, m, av.toArray, below, meth, c, _, maxL, va_A (pw ad L f) s.heap.size, s.heap) ⟨B.exec, B.bytes, hml, hown, hts, hK, fun q h => Or.inr h, rfl, rfl, B.notSynchronized⟩ ⟨rfl, B.returns, rfl⟩ hnm ⟨hxw, rfl⟩ s.heap [] _ hP hD va_S.rf (hlv ▸ hl)
theorem bq_of {l : Launch} {y : MethodName} {ws ws2 : List Cond} {rm : Room} {D : va_G} {tys : List (ClassId × FieldType)} {Z : ZT} {ad : Nat → Nat} {L : List Nat} {f : Nat → va_E} {av : List Value} {mc ms : Nat} {post : Option Nat → UA → Prop} {cc : ByteArray} {maxL : Nat} {own : String} (ret : Option FieldType) (lv0 : List (Nat × Value)) (hy : plainName y.cls = true) (ho : y.cls = own) (hw : ws = Cond.code y cc maxL ret :: ws2) (hlv : lv_args 0 av = lv0) (hlen : (lg_sl av).length ≤ maxL)
    (body : ∀ X : EN, CX X D tys cc own ws rm maxL → EBQ X D tys ret mc ms post → WN X y.name → XMX X Z → GG X D ad L f lv0 0 0 0 []) : BQ l y ws rm D tys Z ad L f av mc ms post := by
  subst ho
  intro sz
  refine Met.ofW (cc := cc) (maxL := maxL) (ret := ret) hy hw ?_
  intro p e s m args below meth c s₁ B hml hv
  obtain ⟨rfl, ⟨hsz, hP, hK, hD0⟩, hxw⟩ := hv
  have hts := atoms_spec (ws := ws) B.pre
  have hown : s.vm.findClass y.cls = some m.cls := findClass_of_methodNamed B.named
  have hnm := (name_of_methodNamed B.named B.method).1
  subst hsz
  have hD := hD0.self (sz := s.heap.size)
  have hl := lv_entry av (n := maxL) hlen
  rw [lg_entry_eq]
  exact body (p, l, e, (headSpec ws rm).room, s, m, av.toArray, below, meth, c, _, maxL, va_A (pw ad L f) s.heap.size, s.heap) ⟨B.exec, B.bytes, hml, hown, hts, hK, fun q h => Or.inr h, rfl, rfl, B.notSynchronized⟩ ⟨rfl, B.returns, rfl⟩ hnm ⟨hxw, rfl⟩ s.heap [] _ hP hD va_S.rf (hlv ▸ hl)
section GGB
variable {X : EN} {D : va_G} {tys : List (ClassId × FieldType)} {cc : ByteArray} {own : String} {Ts : List Cond} {rm : Room} {nL : Nat} {ad : Nat → Nat} {L : List Nat} {f : Nat → va_E} {lv : List (Nat × Value)} {ce sl pc : Nat} {st : List Value} {Z : ZT}
theorem b_iret (hX : CX X D tys cc own Ts rm nL) {mc ms : Nat} {v : Int32} {post : Int32 → UA → Prop}  (hE : EBI X D tys (some .int) mc ms post) (hdg : decode cc pc = .ok (.ireturn, 1)) (hce : ce ≤ mc) (hsl : sl ≤ ms) (hp : post v (ad, L, f)) : GG X D ad L f lv ce sl pc [.int v] := by
  obtain ⟨p, l, e, R, s, m, args, below, meth, c, Q, nL2, A, H0⟩ := X
  obtain ⟨hx, hb, hml, hown, hts, hK, hA, rfl, rfl, hlk⟩ := hX
  obtain ⟨rfl, hr, rfl⟩ := hE
  intro H locs ls hP hD hS hl
  refine W.widen hce hsl ?_
  exact W.iret hx hb hr (fun t ht hW => ⟨⟨v, (ad, L, f), rfl, hp, by rw [ht]; exact hP, va_K.moved hW.alike hK, hD⟩, hS.F ht⟩) hS.2.2 hdg
theorem b_zret (hX : CX X D tys cc own Ts rm nL) {mc ms : Nat} {v : Int32} {post : Int32 → UA → Prop} {ty : FieldType} (hn : narrow ty (.int v) = .int v) (hE : EBI X D tys (some ty) mc ms post) (hdg : decode cc pc = .ok (.ireturn, 1)) (hce : ce ≤ mc) (hsl : sl ≤ ms) (hp : post v (ad, L, f)) : GG X D ad L f lv ce sl pc [.int v] := by
  obtain ⟨p, l, e, R, s, m, args, below, meth, c, Q, nL2, A, H0⟩ := X
  obtain ⟨hx, hb, hml, hown, hts, hK, hA, rfl, rfl, hlk⟩ := hX
  obtain ⟨rfl, hr, rfl⟩ := hE
  intro H locs ls hP hD hS hl
  refine W.widen hce hsl ?_
  exact W.zret hx hb hr hn (fun t ht hW => ⟨⟨v, (ad, L, f), rfl, hp, by rw [ht]; exact hP, va_K.moved hW.alike hK, hD⟩, hS.F ht⟩) hS.2.2 hdg
theorem b_lret (hX : CX X D tys cc own Ts rm nL) {mc ms : Nat} {v : Int64} {post : Int64 → UA → Prop}  (hE : EBL X D tys (some .long) mc ms post) (hdg : decode cc pc = .ok (.lreturn, 1)) (hce : ce ≤ mc) (hsl : sl ≤ ms) (hp : post v (ad, L, f)) : GG X D ad L f lv ce sl pc [.long v] := by
  obtain ⟨p, l, e, R, s, m, args, below, meth, c, Q, nL2, A, H0⟩ := X
  obtain ⟨hx, hb, hml, hown, hts, hK, hA, rfl, rfl, hlk⟩ := hX
  obtain ⟨rfl, hr, rfl⟩ := hE
  intro H locs ls hP hD hS hl
  refine W.widen hce hsl ?_
  exact W.lret hx hb hr (fun t ht hW => ⟨⟨v, (ad, L, f), rfl, hp, by rw [ht]; exact hP, va_K.moved hW.alike hK, hD⟩, hS.F ht⟩) hS.2.2 hdg
theorem b_fret (hX : CX X D tys cc own Ts rm nL) {mc ms : Nat} {v : UInt32} {post : UInt32 → UA → Prop}  (hE : EBF X D tys (some .float) mc ms post) (hdg : decode cc pc = .ok (.freturn, 1)) (hce : ce ≤ mc) (hsl : sl ≤ ms) (hp : post v (ad, L, f)) : GG X D ad L f lv ce sl pc [.float v] := by
  obtain ⟨p, l, e, R, s, m, args, below, meth, c, Q, nL2, A, H0⟩ := X
  obtain ⟨hx, hb, hml, hown, hts, hK, hA, rfl, rfl, hlk⟩ := hX
  obtain ⟨rfl, hr, rfl⟩ := hE
  intro H locs ls hP hD hS hl
  refine W.widen hce hsl ?_
  exact W.fret hx hb hr (fun t ht hW => ⟨⟨v, (ad, L, f), rfl, hp, by rw [ht]; exact hP, va_K.moved hW.alike hK, hD⟩, hS.F ht⟩) hS.2.2 hdg
theorem b_dret (hX : CX X D tys cc own Ts rm nL) {mc ms : Nat} {v : UInt64} {post : UInt64 → UA → Prop}  (hE : EBZ X D tys (some .double) mc ms post) (hdg : decode cc pc = .ok (.dreturn, 1)) (hce : ce ≤ mc) (hsl : sl ≤ ms) (hp : post v (ad, L, f)) : GG X D ad L f lv ce sl pc [.double v] := by
  obtain ⟨p, l, e, R, s, m, args, below, meth, c, Q, nL2, A, H0⟩ := X
  obtain ⟨hx, hb, hml, hown, hts, hK, hA, rfl, rfl, hlk⟩ := hX
  obtain ⟨rfl, hr, rfl⟩ := hE
  intro H locs ls hP hD hS hl
  refine W.widen hce hsl ?_
  exact W.dret hx hb hr (fun t ht hW => ⟨⟨v, (ad, L, f), rfl, hp, by rw [ht]; exact hP, va_K.moved hW.alike hK, hD⟩, hS.F ht⟩) hS.2.2 hdg
theorem b_vret (hX : CX X D tys cc own Ts rm nL) {mc ms : Nat}  {post : UA → Prop}  (hE : EBV X D tys none mc ms post) (hdg : decode cc pc = .ok (.return_, 1)) (hce : ce ≤ mc) (hsl : sl ≤ ms) (hp : post (ad, L, f)) : GG X D ad L f lv ce sl pc [] := by
  obtain ⟨p, l, e, R, s, m, args, below, meth, c, Q, nL2, A, H0⟩ := X
  obtain ⟨hx, hb, hml, hown, hts, hK, hA, rfl, rfl, hlk⟩ := hX
  obtain ⟨rfl, hr, rfl⟩ := hE
  intro H locs ls hP hD hS hl
  refine W.widen hce hsl ?_
  exact W.vret hx hb hr (fun t ht hW => ⟨⟨(ad, L, f), rfl, hp, by rw [ht]; exact hP, va_K.moved hW.alike hK, hD⟩, hS.F ht⟩) hS.2.2 hdg
theorem b_aret (hX : CX X D tys cc own Ts rm nL) {mc ms : Nat} (v : Option Nat) {val : Value} {rt : FieldType} {post : Option Nat → UA → Prop} (hval : val = va_rf v) (hE : EBQ X D tys (some rt) mc ms post) (hrt : (∃ n, rt = FieldType.object n) ∨ ∃ t, rt = FieldType.array t) (hdg : decode cc pc = .ok (.areturn, 1)) (hce : ce ≤ mc) (hsl : sl ≤ ms) (hp : post v (ad, L, f)) : GG X D ad L f lv ce sl pc [val] := by
  obtain ⟨p, l, e, R, s, m, args, below, meth, c, Q, nL2, A, H0⟩ := X
  obtain ⟨hx, hb, hml, hown, hts, hK, hA, rfl, rfl, hlk⟩ := hX
  obtain ⟨rfl, hr, rfl⟩ := hE
  intro H locs ls hP hD hS hl
  refine W.widen hce hsl ?_
  subst hval
  exact W.aret hx hb hr hrt (va_rf_or v) (fun t ht hW => ⟨⟨v, (ad, L, f), rfl, hp, by rw [ht]; exact hP, va_K.moved hW.alike hK, hD⟩, hS.F ht⟩) hS.2.2 hdg
theorem b_callI_V (hX : CX X D tys cc own Ts rm nL) (hM0 : XMX X Z) {y : MethodName} {ws ws2 : List Cond} {rm2 : Room} {bytes : ByteArray} {maxL ix mc ms : Nat} {ret : Option FieldType} {post : Int32 → UA → Prop} {C : String} {b : Nat} (As : List Value) {st0 : List Value} (hLb : b ∈ L) {kd n2 : Nat} {fs : List Value} {T : u_T} (hfb : f b = .inr (kd, fs)) (hcl : vwCl[kd]? = some (C, T, n2)) (hM : ∀ l, BI l y ws rm2 D tys Z ad L f (.ref (ad b) :: As) mc ms post) (hG : GoodIn Ts (wsV own ix C y ws)) (hw : ws = Cond.code y bytes maxL ret :: ws2) (hrc : rm2.cells = mc) (hrs : rm2.slots = ms) (hd : y.cls = C ∧ y.cls ≠ "java/lang/invoke/MethodHandle" ∧ y.cls ≠ "java/lang/invoke/VarHandle" ∧ (parseMethodDescriptor y.desc).map (fun d => d.parameters.length) = some As.length) (hR : rm2.frames + 1 ≤ rm.frames ∧ 8 + (maxL + 11) + rm2.locals ≤ rm.locals) (hf : ce + mc ≤ rm.cells ∧ sl + ms ≤ rm.slots) (hst0 : st0 = As.reverse ++ .ref (ad b) :: st) (hst : (st.map fun v => v.category).sum ≤ 8) (hdg : decode cc pc = .ok (.invokevirtual ix, 3)) (kk : ∀ (r : Int32) (ad2 : Nat → Nat) (L2 : List Nat) (f2 : Nat → va_E), post r (ad2, L2, f2) → GG X D ad2 L2 f2 lv (ce + mc) (sl + ms) (pc + 3) (.int r :: st)) : GG X D ad L f lv ce sl pc st0 := by
  obtain ⟨p, l, e, R, s, m, args, below, meth, c, Q, nL2, A, H0⟩ := X
  obtain ⟨hx, hb, hml, hown, hts, hK, hA, rfl, rfl, hlk⟩ := hX
  obtain ⟨hXM, rfl⟩ := hM0
  intro H locs ls hP hD hS hl
  have hFc : ∀ q, va_A (pw ad L f) H.size q → A q := fun q hq => hq.elim (fun ⟨k, e, hk⟩ => hD.2 k _ hk) (fun h => hA q (Nat.le_trans hS.1 h))
  obtain ⟨jb, hjb, hbk⟩ := pw_get (ad := ad) (f := f) hLb
  rw [hfb] at hbk
  refine va_calli (va_runV (As := As) (rest := st) ⟨hx, hb, hml, hown, hts⟩ (hM l H.size) (cwV As.length hts hG hw hrc hrs hd hR) ⟨fun a U g mk q => by obtain ⟨q0, ⟨q1, qP, qK, qD⟩, qX⟩ := q; exact ⟨q0, ⟨q1, qP, va_K.moved (u := U) (U := U.calling g mk a) (Vm.Alike.refl U.vm) qK, qD⟩, XM.moved (u := U) (U := U.calling g mk a) rfl qX⟩, va_recv hK hP hcl hbk, fun U hU hW => ⟨rfl, ⟨by rw [hU], by rw [hU]; exact hP, va_K.moved hW.alike hK, hD.weaken (fun _ _ _ _ => trivial)⟩, by rw [hU]; exact XM.call hW (fun a h1 h2 => hS.2.1 a h1 h2) hFc hXM⟩⟩ rfl rfl hl.1 hst0 (lv_room hst) hdg hf) hS (fun q _ h => hFc q h) hFc (fun r u t H1 locs1 ht hvm hw2 hB hz1 hk1 hS1 => ?_)
  obtain ⟨hP1, hK1, hD1⟩ := hB
  rw [ht] at hP1
  exact kk r u.1 u.2.1 u.2.2 hw2 H1 locs1 ls hP1 (hD1.weaken (fun _ _ _ h => hFc _ h)) hS1 hl
theorem b_callI_F (hX : CX X D tys cc own Ts rm nL) (hM0 : XMX X Z) {y : MethodName} {ws ws2 : List Cond} {rm2 : Room} {bytes : ByteArray} {maxL ix mc ms : Nat} {ret : Option FieldType} {post : Int32 → UA → Prop} {x : MethodName} {cnt : Nat} {C : String} {b : Nat} (As : List Value) {st0 : List Value} (hLb : b ∈ L) {kd n2 : Nat} {fs : List Value} {T : u_T} (hfb : f b = .inr (kd, fs)) (hcl : vwCl[kd]? = some (C, T, n2)) (hM : ∀ l, BI l y ws rm2 D tys Z ad L f (.ref (ad b) :: As) mc ms post) (hG : GoodIn Ts (va_wsF own ix C x y ws)) (hF : (C, x, y) ∈ zFw) (hw : ws = Cond.code y bytes maxL ret :: ws2) (hrc : rm2.cells = mc) (hrs : rm2.slots = ms) (hd : x.cls ≠ "java/lang/invoke/MethodHandle" ∧ x.cls ≠ "java/lang/invoke/VarHandle" ∧ (parseMethodDescriptor x.desc).map (fun d => d.parameters.length) = some As.length) (hR : rm2.frames + 1 ≤ rm.frames ∧ 8 + (maxL + 11) + rm2.locals ≤ rm.locals) (hf : ce + mc ≤ rm.cells ∧ sl + ms ≤ rm.slots) (hst0 : st0 = As.reverse ++ .ref (ad b) :: st) (hst : (st.map fun v => v.category).sum ≤ 8) (hdg : decode cc pc = .ok (.invokeinterface ix cnt, 5)) (kk : ∀ (r : Int32) (ad2 : Nat → Nat) (L2 : List Nat) (f2 : Nat → va_E), post r (ad2, L2, f2) → GG X D ad2 L2 f2 lv (ce + mc) (sl + ms) (pc + 5) (.int r :: st)) : GG X D ad L f lv ce sl pc st0 := by
  obtain ⟨p, l, e, R, s, m, args, below, meth, c, Q, nL2, A, H0⟩ := X
  obtain ⟨hx, hb, hml, hown, hts, hK, hA, rfl, rfl, hlk⟩ := hX
  obtain ⟨hXM, rfl⟩ := hM0
  intro H locs ls hP hD hS hl
  have hFc : ∀ q, va_A (pw ad L f) H.size q → A q := fun q hq => hq.elim (fun ⟨k, e, hk⟩ => hD.2 k _ hk) (fun h => hA q (Nat.le_trans hS.1 h))
  obtain ⟨jb, hjb, hbk⟩ := pw_get (ad := ad) (f := f) hLb
  rw [hfb] at hbk
  obtain ⟨hat, hrecv⟩ : (∃ cC, ClassAt s C cC) ∧ True := ⟨⟨_, (hK.1 kd _ hcl).2⟩, trivial⟩
  obtain ⟨cC, hat⟩ := hat
  refine va_callFi (va_runF (As := As) (rest := st) hat ⟨hx, hb, hml, hown, hts⟩ (hM l H.size) (va_cwF As.length hts hG hw hrc hrs (hXM.2.2.2.2.1 _ hF) hd hR) ⟨fun a U g mk q => by obtain ⟨q0, ⟨q1, qP, qK, qD⟩, qX⟩ := q; exact ⟨q0, ⟨q1, qP, va_K.moved (u := U) (U := U.calling g mk a) (Vm.Alike.refl U.vm) qK, qD⟩, XM.moved (u := U) (U := U.calling g mk a) rfl qX⟩, va_recv hK hP hcl hbk, fun U hU hW => ⟨rfl, ⟨by rw [hU], by rw [hU]; exact hP, va_K.moved hW.alike hK, hD.weaken (fun _ _ _ _ => trivial)⟩, by rw [hU]; exact XM.call hW (fun a h1 h2 => hS.2.1 a h1 h2) hFc hXM⟩⟩ rfl rfl hl.1 hst0 (lv_room hst) hdg hf) hS (fun q _ h => hFc q h) hFc (fun r u t H1 locs1 ht hvm hw2 hB hz1 hk1 hS1 => ?_)
  obtain ⟨hP1, hK1, hD1⟩ := hB
  rw [ht] at hP1
  exact kk r u.1 u.2.1 u.2.2 hw2 H1 locs1 ls hP1 (hD1.weaken (fun _ _ _ h => hFc _ h)) hS1 hl
theorem b_callI_S (hX : CX X D tys cc own Ts rm nL) (hM0 : XMX X Z) {y : MethodName} {ws ws2 : List Cond} {rm2 : Room} {bytes : ByteArray} {maxL ix mc ms : Nat} {ret : Option FieldType} {post : Int32 → UA → Prop} (As : List Value) {st0 : List Value} (hM : ∀ l, BI l y ws rm2 D tys Z ad L f As mc ms post) (hG : GoodIn Ts (va_wsS own ix y ws)) (hw : ws = Cond.code y bytes maxL ret :: ws2) (hrc : rm2.cells = mc) (hrs : rm2.slots = ms) (hd : y.cls ≠ "java/lang/invoke/MethodHandle" ∧ y.cls ≠ "java/lang/invoke/VarHandle" ∧ (parseMethodDescriptor y.desc).map (fun d => d.parameters.length) = some As.length) (hR : rm2.frames + 1 ≤ rm.frames ∧ 8 + (maxL + 11) + rm2.locals ≤ rm.locals) (hf : ce + mc ≤ rm.cells ∧ sl + ms ≤ rm.slots) (hst0 : st0 = As.reverse ++ st) (hst : (st.map fun v => v.category).sum ≤ 8) (hdg : decode cc pc = .ok (.invokestatic ix, 3)) (kk : ∀ (r : Int32) (ad2 : Nat → Nat) (L2 : List Nat) (f2 : Nat → va_E), post r (ad2, L2, f2) → GG X D ad2 L2 f2 lv (ce + mc) (sl + ms) (pc + 3) (.int r :: st)) : GG X D ad L f lv ce sl pc st0 := by
  obtain ⟨p, l, e, R, s, m, args, below, meth, c, Q, nL2, A, H0⟩ := X
  obtain ⟨hx, hb, hml, hown, hts, hK, hA, rfl, rfl, hlk⟩ := hX
  obtain ⟨hXM, rfl⟩ := hM0
  intro H locs ls hP hD hS hl
  have hFc : ∀ q, va_A (pw ad L f) H.size q → A q := fun q hq => hq.elim (fun ⟨k, e, hk⟩ => hD.2 k _ hk) (fun h => hA q (Nat.le_trans hS.1 h))
  refine va_calli (va_runS (As := As) (rest := st) ⟨hx, hb, hml, hown, hts⟩ (hM l H.size) (va_cwS As.length hts hG hw hrc hrs hd hR) ⟨fun a U g mk q => by obtain ⟨q0, ⟨q1, qP, qK, qD⟩, qX⟩ := q; exact ⟨q0, ⟨q1, qP, va_K.moved (u := U) (U := U.calling g mk a) (Vm.Alike.refl U.vm) qK, qD⟩, XM.moved (u := U) (U := U.calling g mk a) rfl qX⟩, fun U hU hW => ⟨rfl, ⟨by rw [hU], by rw [hU]; exact hP, va_K.moved hW.alike hK, hD.weaken (fun _ _ _ _ => trivial)⟩, by rw [hU]; exact XM.call hW (fun a h1 h2 => hS.2.1 a h1 h2) hFc hXM⟩⟩ rfl rfl hl.1 hst0 (lv_room hst) hdg hf) hS (fun q _ h => hFc q h) hFc (fun r u t H1 locs1 ht hvm hw2 hB hz1 hk1 hS1 => ?_)
  obtain ⟨hP1, hK1, hD1⟩ := hB
  rw [ht] at hP1
  exact kk r u.1 u.2.1 u.2.2 hw2 H1 locs1 ls hP1 (hD1.weaken (fun _ _ _ h => hFc _ h)) hS1 hl
theorem b_callL_V (hX : CX X D tys cc own Ts rm nL) (hM0 : XMX X Z) {y : MethodName} {ws ws2 : List Cond} {rm2 : Room} {bytes : ByteArray} {maxL ix mc ms : Nat} {ret : Option FieldType} {post : Int64 → UA → Prop} {C : String} {b : Nat} (As : List Value) {st0 : List Value} (hLb : b ∈ L) {kd n2 : Nat} {fs : List Value} {T : u_T} (hfb : f b = .inr (kd, fs)) (hcl : vwCl[kd]? = some (C, T, n2)) (hM : ∀ l, BL l y ws rm2 D tys Z ad L f (.ref (ad b) :: As) mc ms post) (hG : GoodIn Ts (wsV own ix C y ws)) (hw : ws = Cond.code y bytes maxL ret :: ws2) (hrc : rm2.cells = mc) (hrs : rm2.slots = ms) (hd : y.cls = C ∧ y.cls ≠ "java/lang/invoke/MethodHandle" ∧ y.cls ≠ "java/lang/invoke/VarHandle" ∧ (parseMethodDescriptor y.desc).map (fun d => d.parameters.length) = some As.length) (hR : rm2.frames + 1 ≤ rm.frames ∧ 8 + (maxL + 11) + rm2.locals ≤ rm.locals) (hf : ce + mc ≤ rm.cells ∧ sl + ms ≤ rm.slots) (hst0 : st0 = As.reverse ++ .ref (ad b) :: st) (hst : (st.map fun v => v.category).sum ≤ 8) (hdg : decode cc pc = .ok (.invokevirtual ix, 3)) (kk : ∀ (r : Int64) (ad2 : Nat → Nat) (L2 : List Nat) (f2 : Nat → va_E), post r (ad2, L2, f2) → GG X D ad2 L2 f2 lv (ce + mc) (sl + ms) (pc + 3) (.long r :: st)) : GG X D ad L f lv ce sl pc st0 := by
  obtain ⟨p, l, e, R, s, m, args, below, meth, c, Q, nL2, A, H0⟩ := X
  obtain ⟨hx, hb, hml, hown, hts, hK, hA, rfl, rfl, hlk⟩ := hX
  obtain ⟨hXM, rfl⟩ := hM0
  intro H locs ls hP hD hS hl
  have hFc : ∀ q, va_A (pw ad L f) H.size q → A q := fun q hq => hq.elim (fun ⟨k, e, hk⟩ => hD.2 k _ hk) (fun h => hA q (Nat.le_trans hS.1 h))
  obtain ⟨jb, hjb, hbk⟩ := pw_get (ad := ad) (f := f) hLb
  rw [hfb] at hbk
  refine va_calll (va_runV (As := As) (rest := st) ⟨hx, hb, hml, hown, hts⟩ (hM l H.size) (cwV As.length hts hG hw hrc hrs hd hR) ⟨fun a U g mk q => by obtain ⟨q0, ⟨q1, qP, qK, qD⟩, qX⟩ := q; exact ⟨q0, ⟨q1, qP, va_K.moved (u := U) (U := U.calling g mk a) (Vm.Alike.refl U.vm) qK, qD⟩, XM.moved (u := U) (U := U.calling g mk a) rfl qX⟩, va_recv hK hP hcl hbk, fun U hU hW => ⟨rfl, ⟨by rw [hU], by rw [hU]; exact hP, va_K.moved hW.alike hK, hD.weaken (fun _ _ _ _ => trivial)⟩, by rw [hU]; exact XM.call hW (fun a h1 h2 => hS.2.1 a h1 h2) hFc hXM⟩⟩ rfl rfl hl.1 hst0 (lv_room hst) hdg hf) hS (fun q _ h => hFc q h) hFc (fun r u t H1 locs1 ht hvm hw2 hB hz1 hk1 hS1 => ?_)
  obtain ⟨hP1, hK1, hD1⟩ := hB
  rw [ht] at hP1
  exact kk r u.1 u.2.1 u.2.2 hw2 H1 locs1 ls hP1 (hD1.weaken (fun _ _ _ h => hFc _ h)) hS1 hl
theorem b_callL_F (hX : CX X D tys cc own Ts rm nL) (hM0 : XMX X Z) {y : MethodName} {ws ws2 : List Cond} {rm2 : Room} {bytes : ByteArray} {maxL ix mc ms : Nat} {ret : Option FieldType} {post : Int64 → UA → Prop} {x : MethodName} {cnt : Nat} {C : String} {b : Nat} (As : List Value) {st0 : List Value} (hLb : b ∈ L) {kd n2 : Nat} {fs : List Value} {T : u_T} (hfb : f b = .inr (kd, fs)) (hcl : vwCl[kd]? = some (C, T, n2)) (hM : ∀ l, BL l y ws rm2 D tys Z ad L f (.ref (ad b) :: As) mc ms post) (hG : GoodIn Ts (va_wsF own ix C x y ws)) (hF : (C, x, y) ∈ zFw) (hw : ws = Cond.code y bytes maxL ret :: ws2) (hrc : rm2.cells = mc) (hrs : rm2.slots = ms) (hd : x.cls ≠ "java/lang/invoke/MethodHandle" ∧ x.cls ≠ "java/lang/invoke/VarHandle" ∧ (parseMethodDescriptor x.desc).map (fun d => d.parameters.length) = some As.length) (hR : rm2.frames + 1 ≤ rm.frames ∧ 8 + (maxL + 11) + rm2.locals ≤ rm.locals) (hf : ce + mc ≤ rm.cells ∧ sl + ms ≤ rm.slots) (hst0 : st0 = As.reverse ++ .ref (ad b) :: st) (hst : (st.map fun v => v.category).sum ≤ 8) (hdg : decode cc pc = .ok (.invokeinterface ix cnt, 5)) (kk : ∀ (r : Int64) (ad2 : Nat → Nat) (L2 : List Nat) (f2 : Nat → va_E), post r (ad2, L2, f2) → GG X D ad2 L2 f2 lv (ce + mc) (sl + ms) (pc + 5) (.long r :: st)) : GG X D ad L f lv ce sl pc st0 := by
  obtain ⟨p, l, e, R, s, m, args, below, meth, c, Q, nL2, A, H0⟩ := X
  obtain ⟨hx, hb, hml, hown, hts, hK, hA, rfl, rfl, hlk⟩ := hX
  obtain ⟨hXM, rfl⟩ := hM0
  intro H locs ls hP hD hS hl
  have hFc : ∀ q, va_A (pw ad L f) H.size q → A q := fun q hq => hq.elim (fun ⟨k, e, hk⟩ => hD.2 k _ hk) (fun h => hA q (Nat.le_trans hS.1 h))
  obtain ⟨jb, hjb, hbk⟩ := pw_get (ad := ad) (f := f) hLb
  rw [hfb] at hbk
  obtain ⟨hat, hrecv⟩ : (∃ cC, ClassAt s C cC) ∧ True := ⟨⟨_, (hK.1 kd _ hcl).2⟩, trivial⟩
  obtain ⟨cC, hat⟩ := hat
  refine va_callFl (va_runF (As := As) (rest := st) hat ⟨hx, hb, hml, hown, hts⟩ (hM l H.size) (va_cwF As.length hts hG hw hrc hrs (hXM.2.2.2.2.1 _ hF) hd hR) ⟨fun a U g mk q => by obtain ⟨q0, ⟨q1, qP, qK, qD⟩, qX⟩ := q; exact ⟨q0, ⟨q1, qP, va_K.moved (u := U) (U := U.calling g mk a) (Vm.Alike.refl U.vm) qK, qD⟩, XM.moved (u := U) (U := U.calling g mk a) rfl qX⟩, va_recv hK hP hcl hbk, fun U hU hW => ⟨rfl, ⟨by rw [hU], by rw [hU]; exact hP, va_K.moved hW.alike hK, hD.weaken (fun _ _ _ _ => trivial)⟩, by rw [hU]; exact XM.call hW (fun a h1 h2 => hS.2.1 a h1 h2) hFc hXM⟩⟩ rfl rfl hl.1 hst0 (lv_room hst) hdg hf) hS (fun q _ h => hFc q h) hFc (fun r u t H1 locs1 ht hvm hw2 hB hz1 hk1 hS1 => ?_)
  obtain ⟨hP1, hK1, hD1⟩ := hB
  rw [ht] at hP1
  exact kk r u.1 u.2.1 u.2.2 hw2 H1 locs1 ls hP1 (hD1.weaken (fun _ _ _ h => hFc _ h)) hS1 hl
theorem b_callL_S (hX : CX X D tys cc own Ts rm nL) (hM0 : XMX X Z) {y : MethodName} {ws ws2 : List Cond} {rm2 : Room} {bytes : ByteArray} {maxL ix mc ms : Nat} {ret : Option FieldType} {post : Int64 → UA → Prop} (As : List Value) {st0 : List Value} (hM : ∀ l, BL l y ws rm2 D tys Z ad L f As mc ms post) (hG : GoodIn Ts (va_wsS own ix y ws)) (hw : ws = Cond.code y bytes maxL ret :: ws2) (hrc : rm2.cells = mc) (hrs : rm2.slots = ms) (hd : y.cls ≠ "java/lang/invoke/MethodHandle" ∧ y.cls ≠ "java/lang/invoke/VarHandle" ∧ (parseMethodDescriptor y.desc).map (fun d => d.parameters.length) = some As.length) (hR : rm2.frames + 1 ≤ rm.frames ∧ 8 + (maxL + 11) + rm2.locals ≤ rm.locals) (hf : ce + mc ≤ rm.cells ∧ sl + ms ≤ rm.slots) (hst0 : st0 = As.reverse ++ st) (hst : (st.map fun v => v.category).sum ≤ 8) (hdg : decode cc pc = .ok (.invokestatic ix, 3)) (kk : ∀ (r : Int64) (ad2 : Nat → Nat) (L2 : List Nat) (f2 : Nat → va_E), post r (ad2, L2, f2) → GG X D ad2 L2 f2 lv (ce + mc) (sl + ms) (pc + 3) (.long r :: st)) : GG X D ad L f lv ce sl pc st0 := by
  obtain ⟨p, l, e, R, s, m, args, below, meth, c, Q, nL2, A, H0⟩ := X
  obtain ⟨hx, hb, hml, hown, hts, hK, hA, rfl, rfl, hlk⟩ := hX
  obtain ⟨hXM, rfl⟩ := hM0
  intro H locs ls hP hD hS hl
  have hFc : ∀ q, va_A (pw ad L f) H.size q → A q := fun q hq => hq.elim (fun ⟨k, e, hk⟩ => hD.2 k _ hk) (fun h => hA q (Nat.le_trans hS.1 h))
  refine va_calll (va_runS (As := As) (rest := st) ⟨hx, hb, hml, hown, hts⟩ (hM l H.size) (va_cwS As.length hts hG hw hrc hrs hd hR) ⟨fun a U g mk q => by obtain ⟨q0, ⟨q1, qP, qK, qD⟩, qX⟩ := q; exact ⟨q0, ⟨q1, qP, va_K.moved (u := U) (U := U.calling g mk a) (Vm.Alike.refl U.vm) qK, qD⟩, XM.moved (u := U) (U := U.calling g mk a) rfl qX⟩, fun U hU hW => ⟨rfl, ⟨by rw [hU], by rw [hU]; exact hP, va_K.moved hW.alike hK, hD.weaken (fun _ _ _ _ => trivial)⟩, by rw [hU]; exact XM.call hW (fun a h1 h2 => hS.2.1 a h1 h2) hFc hXM⟩⟩ rfl rfl hl.1 hst0 (lv_room hst) hdg hf) hS (fun q _ h => hFc q h) hFc (fun r u t H1 locs1 ht hvm hw2 hB hz1 hk1 hS1 => ?_)
  obtain ⟨hP1, hK1, hD1⟩ := hB
  rw [ht] at hP1
  exact kk r u.1 u.2.1 u.2.2 hw2 H1 locs1 ls hP1 (hD1.weaken (fun _ _ _ h => hFc _ h)) hS1 hl
theorem b_callV_V (hX : CX X D tys cc own Ts rm nL) (hM0 : XMX X Z) {y : MethodName} {ws ws2 : List Cond} {rm2 : Room} {bytes : ByteArray} {maxL ix mc ms : Nat} {ret : Option FieldType} {post : UA → Prop} {C : String} {b : Nat} (As : List Value) {st0 : List Value} (hLb : b ∈ L) {kd n2 : Nat} {fs : List Value} {T : u_T} (hfb : f b = .inr (kd, fs)) (hcl : vwCl[kd]? = some (C, T, n2)) (hM : ∀ l, BV l y ws rm2 D tys Z ad L f (.ref (ad b) :: As) mc ms post) (hG : GoodIn Ts (wsV own ix C y ws)) (hw : ws = Cond.code y bytes maxL ret :: ws2) (hrc : rm2.cells = mc) (hrs : rm2.slots = ms) (hd : y.cls = C ∧ y.cls ≠ "java/lang/invoke/MethodHandle" ∧ y.cls ≠ "java/lang/invoke/VarHandle" ∧ (parseMethodDescriptor y.desc).map (fun d => d.parameters.length) = some As.length) (hR : rm2.frames + 1 ≤ rm.frames ∧ 8 + (maxL + 11) + rm2.locals ≤ rm.locals) (hf : ce + mc ≤ rm.cells ∧ sl + ms ≤ rm.slots) (hst0 : st0 = As.reverse ++ .ref (ad b) :: st) (hst : (st.map fun v => v.category).sum ≤ 8) (hdg : decode cc pc = .ok (.invokevirtual ix, 3)) (kk : ∀ (ad2 : Nat → Nat) (L2 : List Nat) (f2 : Nat → va_E), post (ad2, L2, f2) → GG X D ad2 L2 f2 lv (ce + mc) (sl + ms) (pc + 3) st) : GG X D ad L f lv ce sl pc st0 := by
  obtain ⟨p, l, e, R, s, m, args, below, meth, c, Q, nL2, A, H0⟩ := X
  obtain ⟨hx, hb, hml, hown, hts, hK, hA, rfl, rfl, hlk⟩ := hX
  obtain ⟨hXM, rfl⟩ := hM0
  intro H locs ls hP hD hS hl
  have hFc : ∀ q, va_A (pw ad L f) H.size q → A q := fun q hq => hq.elim (fun ⟨k, e, hk⟩ => hD.2 k _ hk) (fun h => hA q (Nat.le_trans hS.1 h))
  obtain ⟨jb, hjb, hbk⟩ := pw_get (ad := ad) (f := f) hLb
  rw [hfb] at hbk
  refine va_callv (va_runV (As := As) (rest := st) ⟨hx, hb, hml, hown, hts⟩ (hM l H.size) (cwV As.length hts hG hw hrc hrs hd hR) ⟨fun a U g mk q => by obtain ⟨q0, ⟨q1, qP, qK, qD⟩, qX⟩ := q; exact ⟨q0, ⟨q1, qP, va_K.moved (u := U) (U := U.calling g mk a) (Vm.Alike.refl U.vm) qK, qD⟩, XM.moved (u := U) (U := U.calling g mk a) rfl qX⟩, va_recv hK hP hcl hbk, fun U hU hW => ⟨rfl, ⟨by rw [hU], by rw [hU]; exact hP, va_K.moved hW.alike hK, hD.weaken (fun _ _ _ _ => trivial)⟩, by rw [hU]; exact XM.call hW (fun a h1 h2 => hS.2.1 a h1 h2) hFc hXM⟩⟩ rfl rfl hl.1 hst0 (lv_room hst) hdg hf) hS (fun q _ h => hFc q h) hFc (fun u t H1 locs1 ht hvm hw2 hB hz1 hk1 hS1 => ?_)
  obtain ⟨hP1, hK1, hD1⟩ := hB
  rw [ht] at hP1
  exact kk u.1 u.2.1 u.2.2 hw2 H1 locs1 ls hP1 (hD1.weaken (fun _ _ _ h => hFc _ h)) hS1 hl
theorem b_callV_F (hX : CX X D tys cc own Ts rm nL) (hM0 : XMX X Z) {y : MethodName} {ws ws2 : List Cond} {rm2 : Room} {bytes : ByteArray} {maxL ix mc ms : Nat} {ret : Option FieldType} {post : UA → Prop} {x : MethodName} {cnt : Nat} {C : String} {b : Nat} (As : List Value) {st0 : List Value} (hLb : b ∈ L) {kd n2 : Nat} {fs : List Value} {T : u_T} (hfb : f b = .inr (kd, fs)) (hcl : vwCl[kd]? = some (C, T, n2)) (hM : ∀ l, BV l y ws rm2 D tys Z ad L f (.ref (ad b) :: As) mc ms post) (hG : GoodIn Ts (va_wsF own ix C x y ws)) (hF : (C, x, y) ∈ zFw) (hw : ws = Cond.code y bytes maxL ret :: ws2) (hrc : rm2.cells = mc) (hrs : rm2.slots = ms) (hd : x.cls ≠ "java/lang/invoke/MethodHandle" ∧ x.cls ≠ "java/lang/invoke/VarHandle" ∧ (parseMethodDescriptor x.desc).map (fun d => d.parameters.length) = some As.length) (hR : rm2.frames + 1 ≤ rm.frames ∧ 8 + (maxL + 11) + rm2.locals ≤ rm.locals) (hf : ce + mc ≤ rm.cells ∧ sl + ms ≤ rm.slots) (hst0 : st0 = As.reverse ++ .ref (ad b) :: st) (hst : (st.map fun v => v.category).sum ≤ 8) (hdg : decode cc pc = .ok (.invokeinterface ix cnt, 5)) (kk : ∀ (ad2 : Nat → Nat) (L2 : List Nat) (f2 : Nat → va_E), post (ad2, L2, f2) → GG X D ad2 L2 f2 lv (ce + mc) (sl + ms) (pc + 5) st) : GG X D ad L f lv ce sl pc st0 := by
  obtain ⟨p, l, e, R, s, m, args, below, meth, c, Q, nL2, A, H0⟩ := X
  obtain ⟨hx, hb, hml, hown, hts, hK, hA, rfl, rfl, hlk⟩ := hX
  obtain ⟨hXM, rfl⟩ := hM0
  intro H locs ls hP hD hS hl
  have hFc : ∀ q, va_A (pw ad L f) H.size q → A q := fun q hq => hq.elim (fun ⟨k, e, hk⟩ => hD.2 k _ hk) (fun h => hA q (Nat.le_trans hS.1 h))
  obtain ⟨jb, hjb, hbk⟩ := pw_get (ad := ad) (f := f) hLb
  rw [hfb] at hbk
  obtain ⟨hat, hrecv⟩ : (∃ cC, ClassAt s C cC) ∧ True := ⟨⟨_, (hK.1 kd _ hcl).2⟩, trivial⟩
  obtain ⟨cC, hat⟩ := hat
  refine va_callFv (va_runF (As := As) (rest := st) hat ⟨hx, hb, hml, hown, hts⟩ (hM l H.size) (va_cwF As.length hts hG hw hrc hrs (hXM.2.2.2.2.1 _ hF) hd hR) ⟨fun a U g mk q => by obtain ⟨q0, ⟨q1, qP, qK, qD⟩, qX⟩ := q; exact ⟨q0, ⟨q1, qP, va_K.moved (u := U) (U := U.calling g mk a) (Vm.Alike.refl U.vm) qK, qD⟩, XM.moved (u := U) (U := U.calling g mk a) rfl qX⟩, va_recv hK hP hcl hbk, fun U hU hW => ⟨rfl, ⟨by rw [hU], by rw [hU]; exact hP, va_K.moved hW.alike hK, hD.weaken (fun _ _ _ _ => trivial)⟩, by rw [hU]; exact XM.call hW (fun a h1 h2 => hS.2.1 a h1 h2) hFc hXM⟩⟩ rfl rfl hl.1 hst0 (lv_room hst) hdg hf) hS (fun q _ h => hFc q h) hFc (fun u t H1 locs1 ht hvm hw2 hB hz1 hk1 hS1 => ?_)
  obtain ⟨hP1, hK1, hD1⟩ := hB
  rw [ht] at hP1
  exact kk u.1 u.2.1 u.2.2 hw2 H1 locs1 ls hP1 (hD1.weaken (fun _ _ _ h => hFc _ h)) hS1 hl
theorem b_callV_S (hX : CX X D tys cc own Ts rm nL) (hM0 : XMX X Z) {y : MethodName} {ws ws2 : List Cond} {rm2 : Room} {bytes : ByteArray} {maxL ix mc ms : Nat} {ret : Option FieldType} {post : UA → Prop} (As : List Value) {st0 : List Value} (hM : ∀ l, BV l y ws rm2 D tys Z ad L f As mc ms post) (hG : GoodIn Ts (va_wsS own ix y ws)) (hw : ws = Cond.code y bytes maxL ret :: ws2) (hrc : rm2.cells = mc) (hrs : rm2.slots = ms) (hd : y.cls ≠ "java/lang/invoke/MethodHandle" ∧ y.cls ≠ "java/lang/invoke/VarHandle" ∧ (parseMethodDescriptor y.desc).map (fun d => d.parameters.length) = some As.length) (hR : rm2.frames + 1 ≤ rm.frames ∧ 8 + (maxL + 11) + rm2.locals ≤ rm.locals) (hf : ce + mc ≤ rm.cells ∧ sl + ms ≤ rm.slots) (hst0 : st0 = As.reverse ++ st) (hst : (st.map fun v => v.category).sum ≤ 8) (hdg : decode cc pc = .ok (.invokestatic ix, 3)) (kk : ∀ (ad2 : Nat → Nat) (L2 : List Nat) (f2 : Nat → va_E), post (ad2, L2, f2) → GG X D ad2 L2 f2 lv (ce + mc) (sl + ms) (pc + 3) st) : GG X D ad L f lv ce sl pc st0 := by
  obtain ⟨p, l, e, R, s, m, args, below, meth, c, Q, nL2, A, H0⟩ := X
  obtain ⟨hx, hb, hml, hown, hts, hK, hA, rfl, rfl, hlk⟩ := hX
  obtain ⟨hXM, rfl⟩ := hM0
  intro H locs ls hP hD hS hl
  have hFc : ∀ q, va_A (pw ad L f) H.size q → A q := fun q hq => hq.elim (fun ⟨k, e, hk⟩ => hD.2 k _ hk) (fun h => hA q (Nat.le_trans hS.1 h))
  refine va_callv (va_runS (As := As) (rest := st) ⟨hx, hb, hml, hown, hts⟩ (hM l H.size) (va_cwS As.length hts hG hw hrc hrs hd hR) ⟨fun a U g mk q => by obtain ⟨q0, ⟨q1, qP, qK, qD⟩, qX⟩ := q; exact ⟨q0, ⟨q1, qP, va_K.moved (u := U) (U := U.calling g mk a) (Vm.Alike.refl U.vm) qK, qD⟩, XM.moved (u := U) (U := U.calling g mk a) rfl qX⟩, fun U hU hW => ⟨rfl, ⟨by rw [hU], by rw [hU]; exact hP, va_K.moved hW.alike hK, hD.weaken (fun _ _ _ _ => trivial)⟩, by rw [hU]; exact XM.call hW (fun a h1 h2 => hS.2.1 a h1 h2) hFc hXM⟩⟩ rfl rfl hl.1 hst0 (lv_room hst) hdg hf) hS (fun q _ h => hFc q h) hFc (fun u t H1 locs1 ht hvm hw2 hB hz1 hk1 hS1 => ?_)
  obtain ⟨hP1, hK1, hD1⟩ := hB
  rw [ht] at hP1
  exact kk u.1 u.2.1 u.2.2 hw2 H1 locs1 ls hP1 (hD1.weaken (fun _ _ _ h => hFc _ h)) hS1 hl
theorem b_callV_I (hX : CX X D tys cc own Ts rm nL) (hM0 : XMX X Z) {y : MethodName} {ws ws2 : List Cond} {rm2 : Room} {bytes : ByteArray} {maxL ix mc ms : Nat} {post : UA → Prop} {b : Nat} (As : List Value) {st0 : List Value} (hM : ∀ l, BV l y ws rm2 D tys Z ad L f (.ref (ad b) :: As) mc ms post) (hG : GoodIn Ts ws) (hw : ws = Cond.code y bytes maxL none :: ws2) (hrc : rm2.cells = mc) (hrs : rm2.slots = ms) (hini : Cond.initialized y.cls ∈ Ts) (hlk2 : Cond.methodLink own ix y ∈ Ts) (hin : Cond.instanceMethod y ∈ Ts) (hy1 : y.name = "<init>") (hd : y.cls ≠ "java/lang/invoke/MethodHandle" ∧ y.cls ≠ "java/lang/invoke/VarHandle" ∧ (parseMethodDescriptor y.desc).map (fun d => d.parameters.length) = some As.length) (hR : rm2.frames + 1 ≤ rm.frames ∧ 8 + (maxL + 11) + rm2.locals ≤ rm.locals) (hf : ce + mc ≤ rm.cells ∧ sl + ms ≤ rm.slots) (hst0 : st0 = As.reverse ++ .ref (ad b) :: st) (hst : (st.map fun v => v.category).sum ≤ 8) (hdg : decode cc pc = .ok (.invokespecial ix, 3)) (kk : ∀ (ad2 : Nat → Nat) (L2 : List Nat) (f2 : Nat → va_E), post (ad2, L2, f2) → GG X D ad2 L2 f2 lv (ce + mc) (sl + ms) (pc + 3) st) : GG X D ad L f lv ce sl pc st0 := by
  obtain ⟨p, l, e, R, s, m, args, below, meth, c, Q, nL2, A, H0⟩ := X
  obtain ⟨hx, hb, hml, hown, hts, hK, hA, rfl, rfl, hlk⟩ := hX
  obtain ⟨hXM, rfl⟩ := hM0
  intro H locs ls hP hD hS hl
  have hFc : ∀ q, va_A (pw ad L f) H.size q → A q := fun q hq => hq.elim (fun ⟨k, e, hk⟩ => hD.2 k _ hk) (fun h => hA q (Nat.le_trans hS.1 h))
  refine va_callv (va_runI (As := As) (rest := st) ⟨hx, hb, hml, hown, hts⟩ (hM l H.size) (cwI As.length hts hG hw hrc hrs (hts _ hini) (hts _ hlk2) (hts _ hin) hy1 hd hR) ⟨fun a U g mk q => by obtain ⟨q0, ⟨q1, qP, qK, qD⟩, qX⟩ := q; exact ⟨q0, ⟨q1, qP, va_K.moved (u := U) (U := U.calling g mk a) (Vm.Alike.refl U.vm) qK, qD⟩, XM.moved (u := U) (U := U.calling g mk a) rfl qX⟩, fun U hU hW => ⟨rfl, ⟨by rw [hU], by rw [hU]; exact hP, va_K.moved hW.alike hK, hD.weaken (fun _ _ _ _ => trivial)⟩, by rw [hU]; exact XM.call hW (fun a h1 h2 => hS.2.1 a h1 h2) hFc hXM⟩⟩ rfl rfl hl.1 hst0 (lv_room hst) hdg hf) hS (fun q _ h => hFc q h) hFc (fun u t H1 locs1 ht hvm hw2 hB hz1 hk1 hS1 => ?_)
  obtain ⟨hP1, hK1, hD1⟩ := hB
  rw [ht] at hP1
  exact kk u.1 u.2.1 u.2.2 hw2 H1 locs1 ls hP1 (hD1.weaken (fun _ _ _ h => hFc _ h)) hS1 hl
theorem b_callV_IN (hX : CX X D tys cc own Ts rm nL) (hM0 : XMX X Z) {y : MethodName} {ws ws2 : List Cond} {rm2 : Room} {bytes : ByteArray} {maxL ix mc ms : Nat} {post : UA → Prop} {b : Nat} (As : List Value) {st0 : List Value} (hM : ∀ l, BV l y ws rm2 D tys Z ad L f (.ref (ad b) :: As) mc ms post) (hG : GoodIn Ts ws) (hw : ws = Cond.code y bytes maxL none :: ws2) (hrc : rm2.cells = mc) (hrs : rm2.slots = ms) (hini : Cond.initialized y.cls ∈ Ts) {host : String} (hlk2 : (own, ix, y, host) ∈ zNL) (hin : Cond.instanceMethod y ∈ Ts) (hy1 : y.name = "<init>") (hd : y.cls ≠ "java/lang/invoke/MethodHandle" ∧ y.cls ≠ "java/lang/invoke/VarHandle" ∧ (parseMethodDescriptor y.desc).map (fun d => d.parameters.length) = some As.length) (hR : rm2.frames + 1 ≤ rm.frames ∧ 8 + (maxL + 11) + rm2.locals ≤ rm.locals) (hf : ce + mc ≤ rm.cells ∧ sl + ms ≤ rm.slots) (hst0 : st0 = As.reverse ++ .ref (ad b) :: st) (hst : (st.map fun v => v.category).sum ≤ 8) (hdg : decode cc pc = .ok (.invokespecial ix, 3)) (kk : ∀ (ad2 : Nat → Nat) (L2 : List Nat) (f2 : Nat → va_E), post (ad2, L2, f2) → GG X D ad2 L2 f2 lv (ce + mc) (sl + ms) (pc + 3) st) : GG X D ad L f lv ce sl pc st0 := by
  obtain ⟨p, l, e, R, s, m, args, below, meth, c, Q, nL2, A, H0⟩ := X
  obtain ⟨hx, hb, hml, hown, hts, hK, hA, rfl, rfl, hlk⟩ := hX
  obtain ⟨hXM, rfl⟩ := hM0
  intro H locs ls hP hD hS hl
  have hFc : ∀ q, va_A (pw ad L f) H.size q → A q := fun q hq => hq.elim (fun ⟨k, e, hk⟩ => hD.2 k _ hk) (fun h => hA q (Nat.le_trans hS.1 h))
  refine va_callv (va_runIN (As := As) (rest := st) ⟨hx, hb, hml, hown, hts⟩ (hM l H.size) (⟨va_cnB As.length hts hG hw hrc hrs (hXM.2.2.2.2.2.2.1 _ hlk2) (hts _ hini) hd hR, hy1, hts _ hin⟩) ⟨fun a U g mk q => by obtain ⟨q0, ⟨q1, qP, qK, qD⟩, qX⟩ := q; exact ⟨q0, ⟨q1, qP, va_K.moved (u := U) (U := U.calling g mk a) (Vm.Alike.refl U.vm) qK, qD⟩, XM.moved (u := U) (U := U.calling g mk a) rfl qX⟩, fun U hU hW => ⟨rfl, ⟨by rw [hU], by rw [hU]; exact hP, va_K.moved hW.alike hK, hD.weaken (fun _ _ _ _ => trivial)⟩, by rw [hU]; exact XM.call hW (fun a h1 h2 => hS.2.1 a h1 h2) hFc hXM⟩⟩ rfl rfl hl.1 hst0 (lv_room hst) hdg hf) hS (fun q _ h => hFc q h) hFc (fun u t H1 locs1 ht hvm hw2 hB hz1 hk1 hS1 => ?_)
  obtain ⟨hP1, hK1, hD1⟩ := hB
  rw [ht] at hP1
  exact kk u.1 u.2.1 u.2.2 hw2 H1 locs1 ls hP1 (hD1.weaken (fun _ _ _ h => hFc _ h)) hS1 hl
theorem b_callQ_V (hX : CX X D tys cc own Ts rm nL) (hM0 : XMX X Z) {y : MethodName} {ws ws2 : List Cond} {rm2 : Room} {bytes : ByteArray} {maxL ix mc ms : Nat} {ret : Option FieldType} {post : Option Nat → UA → Prop} {C : String} {b : Nat} (As : List Value) {st0 : List Value} (hLb : b ∈ L) {kd n2 : Nat} {fs : List Value} {T : u_T} (hfb : f b = .inr (kd, fs)) (hcl : vwCl[kd]? = some (C, T, n2)) (hM : ∀ l, BQ l y ws rm2 D tys Z ad L f (.ref (ad b) :: As) mc ms post) (hG : GoodIn Ts (wsV own ix C y ws)) (hw : ws = Cond.code y bytes maxL ret :: ws2) (hrc : rm2.cells = mc) (hrs : rm2.slots = ms) (hd : y.cls = C ∧ y.cls ≠ "java/lang/invoke/MethodHandle" ∧ y.cls ≠ "java/lang/invoke/VarHandle" ∧ (parseMethodDescriptor y.desc).map (fun d => d.parameters.length) = some As.length) (hR : rm2.frames + 1 ≤ rm.frames ∧ 8 + (maxL + 11) + rm2.locals ≤ rm.locals) (hf : ce + mc ≤ rm.cells ∧ sl + ms ≤ rm.slots) (hst0 : st0 = As.reverse ++ .ref (ad b) :: st) (hst : (st.map fun v => v.category).sum ≤ 8) (hdg : decode cc pc = .ok (.invokevirtual ix, 3)) (kk : ∀ (r : Option Nat) (ad2 : Nat → Nat) (L2 : List Nat) (f2 : Nat → va_E), post r (ad2, L2, f2) → GG X D ad2 L2 f2 lv (ce + mc) (sl + ms) (pc + 3) (va_rf r :: st)) : GG X D ad L f lv ce sl pc st0 := by
  obtain ⟨p, l, e, R, s, m, args, below, meth, c, Q, nL2, A, H0⟩ := X
  obtain ⟨hx, hb, hml, hown, hts, hK, hA, rfl, rfl, hlk⟩ := hX
  obtain ⟨hXM, rfl⟩ := hM0
  intro H locs ls hP hD hS hl
  have hFc : ∀ q, va_A (pw ad L f) H.size q → A q := fun q hq => hq.elim (fun ⟨k, e, hk⟩ => hD.2 k _ hk) (fun h => hA q (Nat.le_trans hS.1 h))
  obtain ⟨jb, hjb, hbk⟩ := pw_get (ad := ad) (f := f) hLb
  rw [hfb] at hbk
  refine va_callq (va_runV (As := As) (rest := st) ⟨hx, hb, hml, hown, hts⟩ (hM l H.size) (cwV As.length hts hG hw hrc hrs hd hR) ⟨fun a U g mk q => by obtain ⟨q0, ⟨q1, qP, qK, qD⟩, qX⟩ := q; exact ⟨q0, ⟨q1, qP, va_K.moved (u := U) (U := U.calling g mk a) (Vm.Alike.refl U.vm) qK, qD⟩, XM.moved (u := U) (U := U.calling g mk a) rfl qX⟩, va_recv hK hP hcl hbk, fun U hU hW => ⟨rfl, ⟨by rw [hU], by rw [hU]; exact hP, va_K.moved hW.alike hK, hD.weaken (fun _ _ _ _ => trivial)⟩, by rw [hU]; exact XM.call hW (fun a h1 h2 => hS.2.1 a h1 h2) hFc hXM⟩⟩ rfl rfl hl.1 hst0 (lv_room hst) hdg hf) hS (fun q _ h => hFc q h) hFc (fun r u t H1 locs1 ht hvm hw2 hB hz1 hk1 hS1 => ?_)
  obtain ⟨hP1, hK1, hD1⟩ := hB
  rw [ht] at hP1
  exact kk r u.1 u.2.1 u.2.2 hw2 H1 locs1 ls hP1 (hD1.weaken (fun _ _ _ h => hFc _ h)) hS1 hl
theorem b_callQ_F (hX : CX X D tys cc own Ts rm nL) (hM0 : XMX X Z) {y : MethodName} {ws ws2 : List Cond} {rm2 : Room} {bytes : ByteArray} {maxL ix mc ms : Nat} {ret : Option FieldType} {post : Option Nat → UA → Prop} {x : MethodName} {cnt : Nat} {C : String} {b : Nat} (As : List Value) {st0 : List Value} (hLb : b ∈ L) {kd n2 : Nat} {fs : List Value} {T : u_T} (hfb : f b = .inr (kd, fs)) (hcl : vwCl[kd]? = some (C, T, n2)) (hM : ∀ l, BQ l y ws rm2 D tys Z ad L f (.ref (ad b) :: As) mc ms post) (hG : GoodIn Ts (va_wsF own ix C x y ws)) (hF : (C, x, y) ∈ zFw) (hw : ws = Cond.code y bytes maxL ret :: ws2) (hrc : rm2.cells = mc) (hrs : rm2.slots = ms) (hd : x.cls ≠ "java/lang/invoke/MethodHandle" ∧ x.cls ≠ "java/lang/invoke/VarHandle" ∧ (parseMethodDescriptor x.desc).map (fun d => d.parameters.length) = some As.length) (hR : rm2.frames + 1 ≤ rm.frames ∧ 8 + (maxL + 11) + rm2.locals ≤ rm.locals) (hf : ce + mc ≤ rm.cells ∧ sl + ms ≤ rm.slots) (hst0 : st0 = As.reverse ++ .ref (ad b) :: st) (hst : (st.map fun v => v.category).sum ≤ 8) (hdg : decode cc pc = .ok (.invokeinterface ix cnt, 5)) (kk : ∀ (r : Option Nat) (ad2 : Nat → Nat) (L2 : List Nat) (f2 : Nat → va_E), post r (ad2, L2, f2) → GG X D ad2 L2 f2 lv (ce + mc) (sl + ms) (pc + 5) (va_rf r :: st)) : GG X D ad L f lv ce sl pc st0 := by
  obtain ⟨p, l, e, R, s, m, args, below, meth, c, Q, nL2, A, H0⟩ := X
  obtain ⟨hx, hb, hml, hown, hts, hK, hA, rfl, rfl, hlk⟩ := hX
  obtain ⟨hXM, rfl⟩ := hM0
  intro H locs ls hP hD hS hl
  have hFc : ∀ q, va_A (pw ad L f) H.size q → A q := fun q hq => hq.elim (fun ⟨k, e, hk⟩ => hD.2 k _ hk) (fun h => hA q (Nat.le_trans hS.1 h))
  obtain ⟨jb, hjb, hbk⟩ := pw_get (ad := ad) (f := f) hLb
  rw [hfb] at hbk
  obtain ⟨hat, hrecv⟩ : (∃ cC, ClassAt s C cC) ∧ True := ⟨⟨_, (hK.1 kd _ hcl).2⟩, trivial⟩
  obtain ⟨cC, hat⟩ := hat
  refine va_callFq (va_runF (As := As) (rest := st) hat ⟨hx, hb, hml, hown, hts⟩ (hM l H.size) (va_cwF As.length hts hG hw hrc hrs (hXM.2.2.2.2.1 _ hF) hd hR) ⟨fun a U g mk q => by obtain ⟨q0, ⟨q1, qP, qK, qD⟩, qX⟩ := q; exact ⟨q0, ⟨q1, qP, va_K.moved (u := U) (U := U.calling g mk a) (Vm.Alike.refl U.vm) qK, qD⟩, XM.moved (u := U) (U := U.calling g mk a) rfl qX⟩, va_recv hK hP hcl hbk, fun U hU hW => ⟨rfl, ⟨by rw [hU], by rw [hU]; exact hP, va_K.moved hW.alike hK, hD.weaken (fun _ _ _ _ => trivial)⟩, by rw [hU]; exact XM.call hW (fun a h1 h2 => hS.2.1 a h1 h2) hFc hXM⟩⟩ rfl rfl hl.1 hst0 (lv_room hst) hdg hf) hS (fun q _ h => hFc q h) hFc (fun r u t H1 locs1 ht hvm hw2 hB hz1 hk1 hS1 => ?_)
  obtain ⟨hP1, hK1, hD1⟩ := hB
  rw [ht] at hP1
  exact kk r u.1 u.2.1 u.2.2 hw2 H1 locs1 ls hP1 (hD1.weaken (fun _ _ _ h => hFc _ h)) hS1 hl
theorem b_callQ_S (hX : CX X D tys cc own Ts rm nL) (hM0 : XMX X Z) {y : MethodName} {ws ws2 : List Cond} {rm2 : Room} {bytes : ByteArray} {maxL ix mc ms : Nat} {ret : Option FieldType} {post : Option Nat → UA → Prop} (As : List Value) {st0 : List Value} (hM : ∀ l, BQ l y ws rm2 D tys Z ad L f As mc ms post) (hG : GoodIn Ts (va_wsS own ix y ws)) (hw : ws = Cond.code y bytes maxL ret :: ws2) (hrc : rm2.cells = mc) (hrs : rm2.slots = ms) (hd : y.cls ≠ "java/lang/invoke/MethodHandle" ∧ y.cls ≠ "java/lang/invoke/VarHandle" ∧ (parseMethodDescriptor y.desc).map (fun d => d.parameters.length) = some As.length) (hR : rm2.frames + 1 ≤ rm.frames ∧ 8 + (maxL + 11) + rm2.locals ≤ rm.locals) (hf : ce + mc ≤ rm.cells ∧ sl + ms ≤ rm.slots) (hst0 : st0 = As.reverse ++ st) (hst : (st.map fun v => v.category).sum ≤ 8) (hdg : decode cc pc = .ok (.invokestatic ix, 3)) (kk : ∀ (r : Option Nat) (ad2 : Nat → Nat) (L2 : List Nat) (f2 : Nat → va_E), post r (ad2, L2, f2) → GG X D ad2 L2 f2 lv (ce + mc) (sl + ms) (pc + 3) (va_rf r :: st)) : GG X D ad L f lv ce sl pc st0 := by
  obtain ⟨p, l, e, R, s, m, args, below, meth, c, Q, nL2, A, H0⟩ := X
  obtain ⟨hx, hb, hml, hown, hts, hK, hA, rfl, rfl, hlk⟩ := hX
  obtain ⟨hXM, rfl⟩ := hM0
  intro H locs ls hP hD hS hl
  have hFc : ∀ q, va_A (pw ad L f) H.size q → A q := fun q hq => hq.elim (fun ⟨k, e, hk⟩ => hD.2 k _ hk) (fun h => hA q (Nat.le_trans hS.1 h))
  refine va_callq (va_runS (As := As) (rest := st) ⟨hx, hb, hml, hown, hts⟩ (hM l H.size) (va_cwS As.length hts hG hw hrc hrs hd hR) ⟨fun a U g mk q => by obtain ⟨q0, ⟨q1, qP, qK, qD⟩, qX⟩ := q; exact ⟨q0, ⟨q1, qP, va_K.moved (u := U) (U := U.calling g mk a) (Vm.Alike.refl U.vm) qK, qD⟩, XM.moved (u := U) (U := U.calling g mk a) rfl qX⟩, fun U hU hW => ⟨rfl, ⟨by rw [hU], by rw [hU]; exact hP, va_K.moved hW.alike hK, hD.weaken (fun _ _ _ _ => trivial)⟩, by rw [hU]; exact XM.call hW (fun a h1 h2 => hS.2.1 a h1 h2) hFc hXM⟩⟩ rfl rfl hl.1 hst0 (lv_room hst) hdg hf) hS (fun q _ h => hFc q h) hFc (fun r u t H1 locs1 ht hvm hw2 hB hz1 hk1 hS1 => ?_)
  obtain ⟨hP1, hK1, hD1⟩ := hB
  rw [ht] at hP1
  exact kk r u.1 u.2.1 u.2.2 hw2 H1 locs1 ls hP1 (hD1.weaken (fun _ _ _ h => hFc _ h)) hS1 hl
end GGB
