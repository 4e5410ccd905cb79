/-! a world as a list of cells, walked by the rows of the pool -/
def wa (ws : va_W) : Nat → Nat := fun i => ((ws[i]?).map Prod.fst).getD 0
def wf (ws : va_W) : Nat → va_E := fun i => ((ws[i]?).map Prod.snd).getD (.inr (0, []))
def wl (ws : va_W) : List Nat := List.range ws.length
theorem pw_w (ws : va_W) : pw (wa ws) (wl ws) (wf ws) = ws := by
  apply List.ext_getElem?
  intro k
  unfold pw wl
  rw [List.getElem?_map]
  rcases Nat.lt_or_ge k ws.length with h | h
  · rw [List.getElem?_range h, List.getElem?_eq_getElem h]
    simp only [Option.map_some]
    unfold wa wf
    rw [List.getElem?_eq_getElem h]
    rfl
  · rw [List.getElem?_eq_none (by rw [List.length_range]; exact h), List.getElem?_eq_none h]; rfl
abbrev GW (X : EN) (D : va_G) (ws : va_W) (lv : List (Nat × Value)) (ce sl pc : Nat) (st : List Value) : Prop := GG X D (wa ws) (wl ws) (wf ws) lv ce sl pc st
theorem app_l {α : Type} {a b : List α} {i : Nat} {p : α} (h : a[i]? = some p) : (a ++ b)[i]? = some p := by
  rw [List.getElem?_append_left (List.getElem?_eq_some_iff.mp h).1]; exact h
theorem app_r {α : Type} {a b : List α} {i : Nat} {p : α} (h : b[i]? = some p) : (a ++ b)[a.length + i]? = some p := by
  rw [List.getElem?_append_right (Nat.le_add_right _ _), Nat.add_sub_cancel_left]; exact h
theorem P_l {D : va_G} {cl : List vw_C} {a b : va_W} {H : Heap} (h : va_P D cl (a ++ b) H) : va_P D cl a H := fun k q hk => h k q (app_l hk)
theorem P_r {D : va_G} {cl : List vw_C} {a b : va_W} {H : Heap} (h : va_P D cl (a ++ b) H) : va_P D cl b H := fun k q hk => h _ q (app_r hk)
theorem D_l {A : Nat → Prop} {a b : va_W} (h : va_D A (a ++ b)) : va_D A a := ⟨fun i j p q hi hj e => h.1 i j p q (app_l hi) (app_l hj) e, fun k q hk => h.2 k q (app_l hk)⟩
theorem D_r {A : Nat → Prop} {a b : va_W} (h : va_D A (a ++ b)) : va_D A b := ⟨fun i j p q hi hj e => by
    have := h.1 _ _ p q (app_r (a := a) hi) (app_r (a := a) hj) e
    omega, fun k q hk => h.2 _ q (app_r hk)⟩
theorem D_x {A : Nat → Prop} {a b : va_W} (h : va_D A (a ++ b)) : ∀ (i j : Nat) (p q : Nat × va_E), a[i]? = some p → b[j]? = some q → p.1 ≠ q.1 := by
  intro i j p q hi hj e
  have h1 := h.1 _ _ p q (app_l (b := b) hi) (app_r (a := a) hj) e
  have h2 := (List.getElem?_eq_some_iff.mp hi).1
  omega
/-- a part of the world is called on, the rest stays -/
theorem fr_W {D : va_G} {cl : List vw_C} {A0 : Nat → Prop} {w1 wc w2 w3 : va_W} {H H1 : Heap} (hP : va_P D cl (w1 ++ wc ++ w2) H) (hD : va_D A0 (w1 ++ wc ++ w2)) (hk : ∀ q : Nat, q < H.size → ¬ va_A wc H.size q → H1[q]? = H[q]?) (hF : ∀ q, va_A wc H.size q → A0 q) (hP1 : va_P D cl w3 H1) (hD1 : va_D (va_A wc H.size) w3) : va_P D cl (w1 ++ w3 ++ w2) H1 ∧ va_D A0 (w1 ++ w3 ++ w2) := by
  have a1 : ∀ (k : Nat) (q : Nat × va_E), w1[k]? = some q → q.1 < H.size ∧ ¬ va_A wc H.size q.1 := by
    intro k q hq
    have hl := (hP k q (app_l (app_l hq))).lt
    refine ⟨hl, fun h => ?_⟩
    rcases h with ⟨j, e, h⟩ | h
    · exact D_x (D_l hD) k j q (q.1, e) hq h rfl
    · omega
  have a2 : ∀ (k : Nat) (q : Nat × va_E), w2[k]? = some q → q.1 < H.size ∧ ¬ va_A wc H.size q.1 := by
    intro k q hq
    have hl := (P_r hP k q hq).lt
    refine ⟨hl, fun h => ?_⟩
    rcases h with ⟨j, e, h⟩ | h
    · exact D_x hD _ k (q.1, e) q (app_r h) hq rfl
    · omega
  refine ⟨va_P.app (va_P.app (fun k q hq => (P_l (P_l hP) k q hq).kept (hk q.1 (a1 k q hq).1 (a1 k q hq).2)) hP1) (fun k q hq => (P_r hP k q hq).kept (hk q.1 (a2 k q hq).1 (a2 k q hq).2)), ?_⟩
  have hD3 : va_D A0 w3 := hD1.weaken (fun k q _ h => hF q.1 h)
  refine va_D.app (va_D.app (D_l (D_l hD)) hD3 (fun i j x y hx hy hxy => (a1 i x hx).2 (by rw [hxy]; exact hD1.2 j y hy))) (D_r hD) (fun i j x y hx hy hxy => ?_)
  rcases List.mem_append.mp (List.mem_of_getElem? hx) with h | h
  · obtain ⟨k, hk2⟩ := List.getElem?_of_mem h
    exact D_x hD k j x y (app_l hk2) hy hxy
  · obtain ⟨k, hk2⟩ := List.getElem?_of_mem h
    exact (a2 j y hy).2 (by rw [← hxy]; exact hD1.2 k x hk2)
theorem fr_F {A0 : Nat → Prop} {w1 wc w2 : va_W} {H0 H : Heap} {locs : List Loc} (hD : va_D A0 (w1 ++ wc ++ w2)) (hS : va_S A0 H0 H locs) (hA : ∀ q, H0.size ≤ q → A0 q) : ∀ q, va_A wc H.size q → A0 q := fun q hq => hq.elim (fun ⟨k, e, hk⟩ => (D_r (D_l hD)).2 k _ hk) (fun h => hA q (Nat.le_trans hS.1 h))
def tyL (dT : Nat → ClassId) : List (ClassId × FieldType) := tyl dT ++ [(dT 27, .long), (dT 28, .double)]
theorem K_l {D : va_G} {dT : Nat → ClassId} {U : State} (h : va_K D vwCl (tyL dT) U) : va_K D vwCl (tyl dT) U := h.sub [0, 1, 2, 3, 4, 5, 6] rfl
def eJ (dT : Nat → ClassId) (g : Nat → Int64) : va_E := .inl (dT 27, 1, .inr (.inl g))
def eD (dT : Nat → ClassId) (g : Nat → UInt64) : va_E := .inl (dT 28, 1, .inr (.inr (.inr (.inl g))))
/-- of two of the exceptions one isn't the other -/
def exs : List String := [xNS, xUO, xIS, xIA, xAE, xIO]
def NC (U : State) : Prop := ∀ E ∈ exs, ∀ F ∈ exs, E ≠ F → va_Nc E F U
theorem NC.moved {u U : State} (hvm : u.vm.Alike U.vm) (h : NC u) : NC U := fun E hE F hF n => va_Nc.moved hvm (h E hE F hF n)
def PW (D : va_G) (dT : Nat → ClassId) (w0 : va_W) (sz : Nat) : State → Prop := fun U => U.heap.size = sz ∧ va_P D vwCl w0 U.heap ∧ va_K D vwCl (tyL dT) U ∧ va_D (fun _ => True) w0 ∧ XB (va_A w0 sz) U U.heap ∧ NC U
def BW9 (D : va_G) (dT : Nat → ClassId) (A : Nat → Prop) : va_W → State → Prop := fun w t => va_P D vwCl w t.heap ∧ va_K D vwCl (tyL dT) t ∧ va_D A w
/-- a wrapper's contract -/
def WI (l : Launch) (y : MethodName) (ws : List Cond) (rm : Room) (D : va_G) (dT : Nat → ClassId) (w0 : va_W) (av : List Value) (mc ms : Nat) (post : Int32 → va_W → Prop) : Prop := ∀ sz, Met l y ws rm (va_Pc av (PW D dT w0 sz)) (va_Qi post (BW9 D dT (va_A w0 sz)) (va_A w0 sz)) mc ms (va_A w0 sz)
def EWI (X : EN) (D : va_G) (dT : Nat → ClassId) (hh : List (Nat × Nat × Nat × Nat)) (mc ms : Nat) (post : Int32 → va_W → Prop) : Prop := match X with
  | (_, l, _, _, s, _, args, below, meth, c, Q, _, A, H0) => Q = MQ below (va_Qi post (BW9 D dT A) A) args s mc ms A ∧ meth.sig.returnType = some .int ∧ H0 = s.heap ∧ c.exceptionTable.toList = tableOf hh ∧ l.stackTraces = false ∧ XB A s s.heap ∧ NC s
theorem wi_of {l : Launch} (hl9 : l.stackTraces = false) {y : MethodName} {ws ws2 : List Cond} {rm : Room} {D : va_G} {dT : Nat → ClassId} {w0 : va_W} {av : List Value} {mc ms : Nat} {post : Int32 → va_W → Prop} {cc : ByteArray} {maxL : Nat} {own : String} {hh : List (Nat × Nat × Nat × Nat)} (lv0 : List (Nat × Value)) (hy : plainName y.cls = true) (ho : y.cls = own) (hw : ws = Cond.codeWith y cc maxL (some .int) hh :: ws2) (hlv : lv_args 0 av = lv0) (hlen : (lg_sl av).length ≤ maxL)
    (body : ∀ X : EN, CX X D (tyL dT) cc own ws rm maxL → EWI X D dT hh mc ms post → GW X D w0 lv0 0 0 0 []) : WI l y ws rm D dT w0 av mc ms post := by
  subst ho
  intro sz
  refine MetFree.of_bodyS (code := cc) (maxLocals := maxL) (ret := some .int) hy ?_ ?_
  · intro args s m h hn
    obtain ⟨m9, meth, c, hn9, h1, h2, h3, h4, -, h5, h6, -⟩ := Cond.codeWith_spec (atoms_spec (ws := ws) h _ (by rw [hw]; exact List.mem_cons_self))
    cases hn.symm.trans hn9
    exact ⟨meth, c, h1, h2, h3, h4, h5, h6⟩
  · intro p e s m args below meth c s₁ B hml hv _
    obtain ⟨rfl, hsz, hP, hK, hD0, hXB, hNC⟩ := hv
    have hts := atoms_spec (ws := ws) B.pre
    have hown : s.vm.findClass y.cls = some m.cls := findClass_of_methodNamed B.named
    have htab := vx_table (x := y) B (hts (Cond.codeWith y cc maxL (some .int) hh) (by rw [hw]; exact List.mem_cons_self))
    subst hsz
    have hD := hD0.self (sz := s.heap.size)
    have hh0 : s₁.heap = s.heap := by rw [B.state]; rfl
    have hl := lv_entry av (n := maxL) hlen
    have K := body (p, l, e, (headSpec ws rm).room, s, m, av.toArray, below, meth, c, _, maxL, va_A w0 s.heap.size, s.heap) ⟨B.exec, B.bytes, hml, hown, hts, hK, fun q h => Or.inr h, rfl, rfl, B.notSynchronized⟩ ⟨rfl, B.returns, rfl, htab, hl9, hXB, hNC⟩ s.heap [] _ (by rw [pw_w]; exact hP) (by rw [pw_w]; exact hD) va_S.rf (hlv ▸ hl)
    rw [← lg_entry_eq] at K
    obtain ⟨t, a1, o, b1, b2, b3⟩ := K s₁ hh0 (Stand.of_body B)
    exact ⟨t, o, a1, b1, b2, ⟨b3.1, b3.2⟩⟩
theorem xbc_in {E : String} (h : E ∈ exs) : (E, E) ∈ xbc := by
  simp only [exs, List.mem_cons, List.not_mem_nil, or_false] at h
  rcases h with rfl | rfl | rfl | rfl | rfl | rfl <;> decide
section GWR
variable {X : EN} {D : va_G} {dT : Nat → ClassId} {cc : ByteArray} {own : String} {Ts : List Cond} {rm : Room} {nL : Nat} {ad : Nat → Nat} {I : Nat → Nat → Int32} {ws : va_W} {lv : List (Nat × Value)} {ce sl pc : Nat} {st : List Value}
theorem gw_w {ws2 : va_W} (h : ws = ws2) (hk : GW X D ws2 lv ce sl pc st) : GW X D ws lv ce sl pc st := h ▸ hk
theorem w_iret (hX : CX X D (tyL dT) cc own Ts rm nL) {hh : List (Nat × Nat × Nat × Nat)} {mc ms : Nat} {v : Int32} {post : Int32 → va_W → Prop} (hE : EWI X D dT hh mc ms post) (hdg : decode cc pc = .ok (.ireturn, 1)) (hce : ce ≤ mc) (hsl : sl ≤ ms) (hp : post v ws) : GW X D ws lv ce sl pc [.int v] := by
  obtain ⟨p, l, e, R, s, m, args, below, meth, c, Q, nL2, A, H0⟩ := X
  obtain ⟨hx, hb, hml, hown, hts, hK, hA, rfl, rfl, hlk⟩ := hX
  obtain ⟨rfl, hr, rfl, -, -, -, -⟩ := hE
  intro H locs ls hP hD hS hl
  rw [pw_w] at hP hD
  refine W.widen hce hsl ?_
  exact W.iret hx hb hr (fun t ht hW => ⟨⟨v, ws, rfl, hp, by rw [ht]; exact hP, va_K.moved hW.alike hK, hD⟩, hS.F ht⟩) hS.2.2 hdg
theorem w_last (hX : CX X D (tyL dT) cc own Ts rm nL) {w1 w2 : va_W} {o : Nat} {g : Nat → Int64} {x : Int64} (hdg : decode cc pc = .ok (.lastore, 1)) (kk : GW X D (w1 ++ (o, eJ dT (vp_updL g 0 x)) :: w2) lv ce sl (pc + 1) st) : GW X D (w1 ++ (o, eJ dT g) :: w2) lv ce sl pc (.long x :: .int 0 :: .ref o :: st) := by
  obtain ⟨p, l, e, R, s, m, args, below, meth, c, Q, nL2, A, H0⟩ := X
  obtain ⟨hx, hb, hml, hown, hts, hK, hA, rfl, rfl, hlk⟩ := hX
  intro H locs ls hP hD hS hl
  rw [pw_w] at hP hD
  refine va_last hx hb hK hP hD hS w1.length 7 (n := 1) (f := g) (cA := dT 27) (by rw [List.getElem?_append_right (Nat.le_refl _), Nat.sub_self]; rfl) rfl (g_vin (k := 0) (by decide) (by decide)) hdg (fun H1 locs1 hP1 hD1 hS1 => ?_)
  have e : (w1 ++ (o, eJ dT g) :: w2).set w1.length (o, .inl (dT 27, 1, .inr (.inl (vp_updL g (0 : Int32).toNatClampNeg x)))) = w1 ++ (o, eJ dT (vp_updL g 0 x)) :: w2 := by
    rw [List.set_append_right _ _ (Nat.le_refl _), Nat.sub_self]; rfl
  rw [e] at hP1 hD1
  exact kk H1 locs1 ls (by rw [pw_w]; exact hP1) (by rw [pw_w]; exact hD1) hS1 hl
theorem w_dast (hX : CX X D (tyL dT) cc own Ts rm nL) {w1 w2 : va_W} {o : Nat} {g : Nat → UInt64} {x : UInt64} (hdg : decode cc pc = .ok (.dastore, 1)) (kk : GW X D (w1 ++ (o, eD dT (vf_upd g 0 x)) :: w2) lv ce sl (pc + 1) st) : GW X D (w1 ++ (o, eD dT g) :: w2) lv ce sl pc (.double x :: .int 0 :: .ref o :: st) := by
  obtain ⟨p, l, e, R, s, m, args, below, meth, c, Q, nL2, A, H0⟩ := X
  obtain ⟨hx, hb, hml, hown, hts, hK, hA, rfl, rfl, hlk⟩ := hX
  intro H locs ls hP hD hS hl
  rw [pw_w] at hP hD
  refine va_dast hx hb hK hP hD hS w1.length 8 (n := 1) (f := g) (cA := dT 28) (by rw [List.getElem?_append_right (Nat.le_refl _), Nat.sub_self]; rfl) rfl (g_vin (k := 0) (by decide) (by decide)) hdg (fun H1 locs1 hP1 hD1 hS1 => ?_)
  have e : (w1 ++ (o, eD dT g) :: w2).set w1.length (o, .inl (dT 28, 1, .inr (.inr (.inr (.inl (vf_upd g (0 : Int32).toNatClampNeg x)))))) = w1 ++ (o, eD dT (vf_upd g 0 x)) :: w2 := by
    rw [List.set_append_right _ _ (Nat.le_refl _), Nat.sub_self]; rfl
  rw [e] at hP1 hD1
  exact kk H1 locs1 ls (by rw [pw_w]; exact hP1) (by rw [pw_w]; exact hD1) hS1 hl
theorem w_lald (hX : CX X D (tyL dT) cc own Ts rm nL) {w1 w2 : va_W} {o : Nat} {g : Nat → Int64} (hdg : decode cc pc = .ok (.laload, 1)) (kk : GW X D (w1 ++ (o, eJ dT g) :: w2) lv ce sl (pc + 1) (.long (g 0) :: st)) : GW X D (w1 ++ (o, eJ dT g) :: w2) lv ce sl pc (.int 0 :: .ref o :: st) := by
  obtain ⟨p, l, e, R, s, m, args, below, meth, c, Q, nL2, A, H0⟩ := X
  obtain ⟨hx, hb, hml, hown, hts, hK, hA, rfl, rfl, hlk⟩ := hX
  intro H locs ls hP hD hS hl
  have hP9 := hP
  rw [pw_w] at hP9
  exact va_lald hx hb hK hP9 w1.length 7 (n := 1) (f := g) (cA := dT 27) (by rw [List.getElem?_append_right (Nat.le_refl _), Nat.sub_self]; rfl) rfl (g_vin (k := 0) (by decide) (by decide)) hdg (kk H locs ls hP hD hS hl)
theorem w_dald (hX : CX X D (tyL dT) cc own Ts rm nL) {w1 w2 : va_W} {o : Nat} {g : Nat → UInt64} (hdg : decode cc pc = .ok (.daload, 1)) (kk : GW X D (w1 ++ (o, eD dT g) :: w2) lv ce sl (pc + 1) (.double (g 0) :: st)) : GW X D (w1 ++ (o, eD dT g) :: w2) lv ce sl pc (.int 0 :: .ref o :: st) := by
  obtain ⟨p, l, e, R, s, m, args, below, meth, c, Q, nL2, A, H0⟩ := X
  obtain ⟨hx, hb, hml, hown, hts, hK, hA, rfl, rfl, hlk⟩ := hX
  intro H locs ls hP hD hS hl
  have hP9 := hP
  rw [pw_w] at hP9
  exact va_dald hx hb hK hP9 w1.length 8 (n := 1) (f := g) (cA := dT 28) (by rw [List.getElem?_append_right (Nat.le_refl _), Nat.sub_self]; rfl) rfl (g_vin (k := 0) (by decide) (by decide)) hdg (kk H locs ls hP hD hS hl)
theorem g_f2d (hX : CX X D (tyL dT) cc own Ts rm nL) {x : UInt32} (hdg : decode cc pc = .ok (.f2d, 1)) (hne : vf_n64 (FP.f2d x)) (hk : GW X D ws lv ce sl (pc + 1) (.double (FP.f2d x) :: st)) : GW X D ws lv ce sl pc (.float x :: st) := by
  obtain ⟨p, l, e, R, s, m, args, below, meth, c, Q, nL2, A, H0⟩ := X
  obtain ⟨hx, hb, hml, hown, hts, hK, hA, rfl, rfl, hlk⟩ := hX
  intro H locs ls hP hD hS hl
  exact lv_f2d hx hb hdg hne (hk H locs ls hP hD hS hl)

theorem w_callI (hX : CX X D (tyL dT) cc RL Ts rm nL) {hh : List (Nat × Nat × Nat × Nat)} {mc9 ms9 : Nat} {post : Int32 → va_W → Prop} (hE : EWI X D dT hh mc9 ms9 post) {w1 w2 : va_W} {y : MethodName} {ws1 ws2 : List Cond} {rm2 : Room} {bytes : ByteArray} {maxL ix mc ms : Nat} {ret : Option FieldType} {Rel : Int32 → (Nat → Nat → Int32) → Prop} {XR : String → Prop} (As : List Value) {st0 : List Value} (hM : KTI y ws1 rm2 D dT ad I (.ref (ad 0) :: As) mc ms Rel XR) (hG : GoodIn Ts (wsV RL ix RX6 y ws1)) (hw : ws1 = Cond.code y bytes maxL ret :: ws2) (hrc : rm2.cells = mc) (hrs : rm2.slots = ms) (hd : y.cls = RX6 ∧ y.cls ≠ "java/lang/invoke/MethodHandle" ∧ y.cls ≠ "java/lang/invoke/VarHandle" ∧ (parseMethodDescriptor y.desc).map (fun d => d.parameters.length) = some As.length) (hR : rm2.frames + 1 ≤ rm.frames ∧ 8 + (maxL + 11) + rm2.locals ≤ rm.locals) (hf : ce + mc ≤ rm.cells ∧ sl + ms ≤ rm.slots) (hst0 : st0 = As.reverse ++ .ref (ad 0) :: st) (hst : (st.map fun v => v.category).sum ≤ 8) (hdg : decode cc pc = .ok (.invokevirtual ix, 3))
    (kx : ∀ E, XR E → ∃ (pre suf : List ExceptionTableEntry) (x : ExceptionTableEntry), tableOf hh = pre ++ x :: suf ∧ (∀ z ∈ pre, z.catchType ≠ 0 ∧ ∃ nm ∈ exs, Cond.classLink RL z.catchType nm ∈ Ts ∧ E ≠ nm) ∧ E ∈ exs ∧ covers x pc = true ∧ x.catchType ≠ 0 ∧ Cond.classLink RL x.catchType E ∈ Ts ∧ ∀ q9, GW X D (w1 ++ pw ad cL (kf dT ad I) ++ w2) lv (ce + mc) (sl + ms) x.handlerPc [.ref q9])
    (kk : ∀ (r : Int32) (J : Nat → Nat → Int32), Rel r J → GW X D (w1 ++ pw ad cL (kf dT ad J) ++ w2) lv (ce + mc) (sl + ms) (pc + 3) (.int r :: st)) : GW X D (w1 ++ pw ad cL (kf dT ad I) ++ w2) lv ce sl pc st0 := by
  obtain ⟨p, l, e, R, s, m, args, below, meth, c, Q, nL2, A, H0⟩ := X
  obtain ⟨hx, hb, hml, hown, hts, hK, hA, rfl, rfl, hlk⟩ := hX
  obtain ⟨rfl, hr, rfl, htab, hl9, hXB, hNC⟩ := hE
  intro H locs ls hP hD hS hl
  rw [pw_w] at hP hD
  have hFc := fr_F hD hS hA
  have hPc := P_r (P_l hP)
  have hDc := D_r (D_l hD)
  obtain ⟨jb, hjb, hbk⟩ := pw_get (ad := ad) (f := kf dT ad I) (i := 0) (L := cL) (List.mem_range.mpr (by decide))
  rw [show kf dT ad I 0 = .inr (10, kmap ad (I 0) (cR I 0) (ksh 10) 0) from pf_obj rfl (by decide)] at hbk
  refine vx_calli (vx_runV (As := As) (rest := st) ⟨hx, hb, hml, hown, hts⟩ (hM l hl9 H.size) (cwV As.length hts hG hw hrc hrs hd hR) ⟨fun a U g mk q => by obtain ⟨q0, ⟨q1, qP, qK, qD⟩, qX⟩ := q; exact ⟨q0, ⟨q1, qP, va_K.moved (u := U) (U := U.calling g mk a) (Vm.Alike.refl U.vm) qK, qD⟩, XB.moved (u := U) (U := U.calling g mk a) (Vm.Alike.refl U.vm) rfl qX⟩, va_recv hK hPc (ci := 10) (q := (RX6, TX6, 10)) rfl hbk, fun U hU hW => ⟨rfl, ⟨by rw [hU], by rw [hU]; exact hPc, K_l (va_K.moved hW.alike hK), hDc.weaken (fun _ _ _ _ => trivial)⟩, by rw [hU]; exact XB.call hW (fun a h1 h2 => hS.2.1 a h1 h2) hFc hXB⟩⟩ rfl rfl hl.1 hst0 (lv_room hst) hdg hf) hS (fun q _ h => hFc q h) hFc (fun q _ h => hFc q h) (fun E cel q9 u t H1 locs1 ht hvm _ hB hz1 hk1 hS1 hcell hcv hcl => ?_) (fun r u t H1 locs1 ht hvm hw2 hB hz1 hk1 hS1 => ?_)
  · obtain ⟨⟨rfl, hXR⟩, hP1, hK1, hD1⟩ := hB
    rw [ht] at hP1
    obtain ⟨pre, suf, x, e1, e2, e3, e4, e5, e6, e7⟩ := kx E hXR
    obtain ⟨hP3, hD3⟩ := fr_W hP hD hk1 hFc hP1 hD1
    refine vx_catch hown pre x suf (htab.trans e1) (fun z hz => ?_) e4 e5 (hts _ e6) (va_Nw.use rfl (hXB.2.2.1 (E, E) (xbc_in e3))) hcell hcv hcl (e7 q9 H1 locs1 ls (by rw [pw_w]; exact hP3) (by rw [pw_w]; exact hD3) hS1 hl)
    obtain ⟨z1, nm, z2, z3, z4⟩ := e2 z hz
    exact Or.inr ⟨z1, nm, hts _ z3, hNC E e3 nm z2 z4⟩
  · obtain ⟨hP1, hK1, hD1⟩ := hB
    rw [ht] at hP1
    obtain ⟨J, rfl, hJ⟩ := hw2
    obtain ⟨hP3, hD3⟩ := fr_W hP hD hk1 hFc hP1 hD1
    exact kk r J hJ H1 locs1 ls (by rw [pw_w]; exact hP3) (by rw [pw_w]; exact hD3) hS1 hl
theorem w_callL (hX : CX X D (tyL dT) cc RL Ts rm nL) {hh : List (Nat × Nat × Nat × Nat)} {mc9 ms9 : Nat} {post : Int32 → va_W → Prop} (hE : EWI X D dT hh mc9 ms9 post) {w1 w2 : va_W} {y : MethodName} {ws1 ws2 : List Cond} {rm2 : Room} {bytes : ByteArray} {maxL ix mc ms : Nat} {ret : Option FieldType} {Rel : Int64 → (Nat → Nat → Int32) → Prop} {XR : String → Prop} (As : List Value) {st0 : List Value} (hM : KTL y ws1 rm2 D dT ad I (.ref (ad 0) :: As) mc ms Rel XR) (hG : GoodIn Ts (wsV RL ix RX6 y ws1)) (hw : ws1 = Cond.code y bytes maxL ret :: ws2) (hrc : rm2.cells = mc) (hrs : rm2.slots = ms) (hd : y.cls = RX6 ∧ y.cls ≠ "java/lang/invoke/MethodHandle" ∧ y.cls ≠ "java/lang/invoke/VarHandle" ∧ (parseMethodDescriptor y.desc).map (fun d => d.parameters.length) = some As.length) (hR : rm2.frames + 1 ≤ rm.frames ∧ 8 + (maxL + 11) + rm2.locals ≤ rm.locals) (hf : ce + mc ≤ rm.cells ∧ sl + ms ≤ rm.slots) (hst0 : st0 = As.reverse ++ .ref (ad 0) :: st) (hst : (st.map fun v => v.category).sum ≤ 8) (hdg : decode cc pc = .ok (.invokevirtual ix, 3))
    (kx : ∀ E, XR E → ∃ (pre suf : List ExceptionTableEntry) (x : ExceptionTableEntry), tableOf hh = pre ++ x :: suf ∧ (∀ z ∈ pre, z.catchType ≠ 0 ∧ ∃ nm ∈ exs, Cond.classLink RL z.catchType nm ∈ Ts ∧ E ≠ nm) ∧ E ∈ exs ∧ covers x pc = true ∧ x.catchType ≠ 0 ∧ Cond.classLink RL x.catchType E ∈ Ts ∧ ∀ q9, GW X D (w1 ++ pw ad cL (kf dT ad I) ++ w2) lv (ce + mc) (sl + ms) x.handlerPc [.ref q9])
    (kk : ∀ (r : Int64) (J : Nat → Nat → Int32), Rel r J → GW X D (w1 ++ pw ad cL (kf dT ad J) ++ w2) lv (ce + mc) (sl + ms) (pc + 3) (.long r :: st)) : GW X D (w1 ++ pw ad cL (kf dT ad I) ++ w2) lv ce sl pc st0 := by
  obtain ⟨p, l, e, R, s, m, args, below, meth, c, Q, nL2, A, H0⟩ := X
  obtain ⟨hx, hb, hml, hown, hts, hK, hA, rfl, rfl, hlk⟩ := hX
  obtain ⟨rfl, hr, rfl, htab, hl9, hXB, hNC⟩ := hE
  intro H locs ls hP hD hS hl
  rw [pw_w] at hP hD
  have hFc := fr_F hD hS hA
  have hPc := P_r (P_l hP)
  have hDc := D_r (D_l hD)
  obtain ⟨jb, hjb, hbk⟩ := pw_get (ad := ad) (f := kf dT ad I) (i := 0) (L := cL) (List.mem_range.mpr (by decide))
  rw [show kf dT ad I 0 = .inr (10, kmap ad (I 0) (cR I 0) (ksh 10) 0) from pf_obj rfl (by decide)] at hbk
  refine vx_calll (vx_runV (As := As) (rest := st) ⟨hx, hb, hml, hown, hts⟩ (hM l hl9 H.size) (cwV As.length hts hG hw hrc hrs hd hR) ⟨fun a U g mk q => by obtain ⟨q0, ⟨q1, qP, qK, qD⟩, qX⟩ := q; exact ⟨q0, ⟨q1, qP, va_K.moved (u := U) (U := U.calling g mk a) (Vm.Alike.refl U.vm) qK, qD⟩, XB.moved (u := U) (U := U.calling g mk a) (Vm.Alike.refl U.vm) rfl qX⟩, va_recv hK hPc (ci := 10) (q := (RX6, TX6, 10)) rfl hbk, fun U hU hW => ⟨rfl, ⟨by rw [hU], by rw [hU]; exact hPc, K_l (va_K.moved hW.alike hK), hDc.weaken (fun _ _ _ _ => trivial)⟩, by rw [hU]; exact XB.call hW (fun a h1 h2 => hS.2.1 a h1 h2) hFc hXB⟩⟩ rfl rfl hl.1 hst0 (lv_room hst) hdg hf) hS (fun q _ h => hFc q h) hFc (fun q _ h => hFc q h) (fun E cel q9 u t H1 locs1 ht hvm _ hB hz1 hk1 hS1 hcell hcv hcl => ?_) (fun r u t H1 locs1 ht hvm hw2 hB hz1 hk1 hS1 => ?_)
  · obtain ⟨⟨rfl, hXR⟩, hP1, hK1, hD1⟩ := hB
    rw [ht] at hP1
    obtain ⟨pre, suf, x, e1, e2, e3, e4, e5, e6, e7⟩ := kx E hXR
    obtain ⟨hP3, hD3⟩ := fr_W hP hD hk1 hFc hP1 hD1
    refine vx_catch hown pre x suf (htab.trans e1) (fun z hz => ?_) e4 e5 (hts _ e6) (va_Nw.use rfl (hXB.2.2.1 (E, E) (xbc_in e3))) hcell hcv hcl (e7 q9 H1 locs1 ls (by rw [pw_w]; exact hP3) (by rw [pw_w]; exact hD3) hS1 hl)
    obtain ⟨z1, nm, z2, z3, z4⟩ := e2 z hz
    exact Or.inr ⟨z1, nm, hts _ z3, hNC E e3 nm z2 z4⟩
  · obtain ⟨hP1, hK1, hD1⟩ := hB
    rw [ht] at hP1
    obtain ⟨J, rfl, hJ⟩ := hw2
    obtain ⟨hP3, hD3⟩ := fr_W hP hD hk1 hFc hP1 hD1
    exact kk r J hJ H1 locs1 ls (by rw [pw_w]; exact hP3) (by rw [pw_w]; exact hD3) hS1 hl
theorem w_callF (hX : CX X D (tyL dT) cc RL Ts rm nL) {hh : List (Nat × Nat × Nat × Nat)} {mc9 ms9 : Nat} {post : Int32 → va_W → Prop} (hE : EWI X D dT hh mc9 ms9 post) {w1 w2 : va_W} {y : MethodName} {ws1 ws2 : List Cond} {rm2 : Room} {bytes : ByteArray} {maxL ix mc ms : Nat} {ret : Option FieldType} {Rel : UInt32 → (Nat → Nat → Int32) → Prop} {XR : String → Prop} (As : List Value) {st0 : List Value} (hM : KTF y ws1 rm2 D dT ad I (.ref (ad 0) :: As) mc ms Rel XR) (hG : GoodIn Ts (wsV RL ix RX6 y ws1)) (hw : ws1 = Cond.code y bytes maxL ret :: ws2) (hrc : rm2.cells = mc) (hrs : rm2.slots = ms) (hd : y.cls = RX6 ∧ y.cls ≠ "java/lang/invoke/MethodHandle" ∧ y.cls ≠ "java/lang/invoke/VarHandle" ∧ (parseMethodDescriptor y.desc).map (fun d => d.parameters.length) = some As.length) (hR : rm2.frames + 1 ≤ rm.frames ∧ 8 + (maxL + 11) + rm2.locals ≤ rm.locals) (hf : ce + mc ≤ rm.cells ∧ sl + ms ≤ rm.slots) (hst0 : st0 = As.reverse ++ .ref (ad 0) :: st) (hst : (st.map fun v => v.category).sum ≤ 8) (hdg : decode cc pc = .ok (.invokevirtual ix, 3))
    (kx : ∀ E, XR E → ∃ (pre suf : List ExceptionTableEntry) (x : ExceptionTableEntry), tableOf hh = pre ++ x :: suf ∧ (∀ z ∈ pre, z.catchType ≠ 0 ∧ ∃ nm ∈ exs, Cond.classLink RL z.catchType nm ∈ Ts ∧ E ≠ nm) ∧ E ∈ exs ∧ covers x pc = true ∧ x.catchType ≠ 0 ∧ Cond.classLink RL x.catchType E ∈ Ts ∧ ∀ q9, GW X D (w1 ++ pw ad cL (kf dT ad I) ++ w2) lv (ce + mc) (sl + ms) x.handlerPc [.ref q9])
    (kk : ∀ (r : UInt32) (J : Nat → Nat → Int32), Rel r J → GW X D (w1 ++ pw ad cL (kf dT ad J) ++ w2) lv (ce + mc) (sl + ms) (pc + 3) (.float r :: st)) : GW X D (w1 ++ pw ad cL (kf dT ad I) ++ w2) lv ce sl pc st0 := by
  obtain ⟨p, l, e, R, s, m, args, below, meth, c, Q, nL2, A, H0⟩ := X
  obtain ⟨hx, hb, hml, hown, hts, hK, hA, rfl, rfl, hlk⟩ := hX
  obtain ⟨rfl, hr, rfl, htab, hl9, hXB, hNC⟩ := hE
  intro H locs ls hP hD hS hl
  rw [pw_w] at hP hD
  have hFc := fr_F hD hS hA
  have hPc := P_r (P_l hP)
  have hDc := D_r (D_l hD)
  obtain ⟨jb, hjb, hbk⟩ := pw_get (ad := ad) (f := kf dT ad I) (i := 0) (L := cL) (List.mem_range.mpr (by decide))
  rw [show kf dT ad I 0 = .inr (10, kmap ad (I 0) (cR I 0) (ksh 10) 0) from pf_obj rfl (by decide)] at hbk
  refine vx_callf (vx_runV (As := As) (rest := st) ⟨hx, hb, hml, hown, hts⟩ (hM l hl9 H.size) (cwV As.length hts hG hw hrc hrs hd hR) ⟨fun a U g mk q => by obtain ⟨q0, ⟨q1, qP, qK, qD⟩, qX⟩ := q; exact ⟨q0, ⟨q1, qP, va_K.moved (u := U) (U := U.calling g mk a) (Vm.Alike.refl U.vm) qK, qD⟩, XB.moved (u := U) (U := U.calling g mk a) (Vm.Alike.refl U.vm) rfl qX⟩, va_recv hK hPc (ci := 10) (q := (RX6, TX6, 10)) rfl hbk, fun U hU hW => ⟨rfl, ⟨by rw [hU], by rw [hU]; exact hPc, K_l (va_K.moved hW.alike hK), hDc.weaken (fun _ _ _ _ => trivial)⟩, by rw [hU]; exact XB.call hW (fun a h1 h2 => hS.2.1 a h1 h2) hFc hXB⟩⟩ rfl rfl hl.1 hst0 (lv_room hst) hdg hf) hS (fun q _ h => hFc q h) hFc (fun q _ h => hFc q h) (fun E cel q9 u t H1 locs1 ht hvm _ hB hz1 hk1 hS1 hcell hcv hcl => ?_) (fun r u t H1 locs1 ht hvm hw2 hB hz1 hk1 hS1 => ?_)
  · obtain ⟨⟨rfl, hXR⟩, hP1, hK1, hD1⟩ := hB
    rw [ht] at hP1
    obtain ⟨pre, suf, x, e1, e2, e3, e4, e5, e6, e7⟩ := kx E hXR
    obtain ⟨hP3, hD3⟩ := fr_W hP hD hk1 hFc hP1 hD1
    refine vx_catch hown pre x suf (htab.trans e1) (fun z hz => ?_) e4 e5 (hts _ e6) (va_Nw.use rfl (hXB.2.2.1 (E, E) (xbc_in e3))) hcell hcv hcl (e7 q9 H1 locs1 ls (by rw [pw_w]; exact hP3) (by rw [pw_w]; exact hD3) hS1 hl)
    obtain ⟨z1, nm, z2, z3, z4⟩ := e2 z hz
    exact Or.inr ⟨z1, nm, hts _ z3, hNC E e3 nm z2 z4⟩
  · obtain ⟨hP1, hK1, hD1⟩ := hB
    rw [ht] at hP1
    obtain ⟨J, rfl, hJ⟩ := hw2
    obtain ⟨hP3, hD3⟩ := fr_W hP hD hk1 hFc hP1 hD1
    exact kk r J hJ H1 locs1 ls (by rw [pw_w]; exact hP3) (by rw [pw_w]; exact hD3) hS1 hl
theorem w_callZ (hX : CX X D (tyL dT) cc RL Ts rm nL) {hh : List (Nat × Nat × Nat × Nat)} {mc9 ms9 : Nat} {post : Int32 → va_W → Prop} (hE : EWI X D dT hh mc9 ms9 post) {w1 w2 : va_W} {y : MethodName} {ws1 ws2 : List Cond} {rm2 : Room} {bytes : ByteArray} {maxL ix mc ms : Nat} {ret : Option FieldType} {Rel : UInt64 → (Nat → Nat → Int32) → Prop} {XR : String → Prop} (As : List Value) {st0 : List Value} (hM : KTZ y ws1 rm2 D dT ad I (.ref (ad 0) :: As) mc ms Rel XR) (hG : GoodIn Ts (wsV RL ix RX6 y ws1)) (hw : ws1 = Cond.code y bytes maxL ret :: ws2) (hrc : rm2.cells = mc) (hrs : rm2.slots = ms) (hd : y.cls = RX6 ∧ y.cls ≠ "java/lang/invoke/MethodHandle" ∧ y.cls ≠ "java/lang/invoke/VarHandle" ∧ (parseMethodDescriptor y.desc).map (fun d => d.parameters.length) = some As.length) (hR : rm2.frames + 1 ≤ rm.frames ∧ 8 + (maxL + 11) + rm2.locals ≤ rm.locals) (hf : ce + mc ≤ rm.cells ∧ sl + ms ≤ rm.slots) (hst0 : st0 = As.reverse ++ .ref (ad 0) :: st) (hst : (st.map fun v => v.category).sum ≤ 8) (hdg : decode cc pc = .ok (.invokevirtual ix, 3))
    (kx : ∀ E, XR E → ∃ (pre suf : List ExceptionTableEntry) (x : ExceptionTableEntry), tableOf hh = pre ++ x :: suf ∧ (∀ z ∈ pre, z.catchType ≠ 0 ∧ ∃ nm ∈ exs, Cond.classLink RL z.catchType nm ∈ Ts ∧ E ≠ nm) ∧ E ∈ exs ∧ covers x pc = true ∧ x.catchType ≠ 0 ∧ Cond.classLink RL x.catchType E ∈ Ts ∧ ∀ q9, GW X D (w1 ++ pw ad cL (kf dT ad I) ++ w2) lv (ce + mc) (sl + ms) x.handlerPc [.ref q9])
    (kk : ∀ (r : UInt64) (J : Nat → Nat → Int32), Rel r J → GW X D (w1 ++ pw ad cL (kf dT ad J) ++ w2) lv (ce + mc) (sl + ms) (pc + 3) (.double r :: st)) : GW X D (w1 ++ pw ad cL (kf dT ad I) ++ w2) lv ce sl pc st0 := by
  obtain ⟨p, l, e, R, s, m, args, below, meth, c, Q, nL2, A, H0⟩ := X
  obtain ⟨hx, hb, hml, hown, hts, hK, hA, rfl, rfl, hlk⟩ := hX
  obtain ⟨rfl, hr, rfl, htab, hl9, hXB, hNC⟩ := hE
  intro H locs ls hP hD hS hl
  rw [pw_w] at hP hD
  have hFc := fr_F hD hS hA
  have hPc := P_r (P_l hP)
  have hDc := D_r (D_l hD)
  obtain ⟨jb, hjb, hbk⟩ := pw_get (ad := ad) (f := kf dT ad I) (i := 0) (L := cL) (List.mem_range.mpr (by decide))
  rw [show kf dT ad I 0 = .inr (10, kmap ad (I 0) (cR I 0) (ksh 10) 0) from pf_obj rfl (by decide)] at hbk
  refine vx_calld (vx_runV (As := As) (rest := st) ⟨hx, hb, hml, hown, hts⟩ (hM l hl9 H.size) (cwV As.length hts hG hw hrc hrs hd hR) ⟨fun a U g mk q => by obtain ⟨q0, ⟨q1, qP, qK, qD⟩, qX⟩ := q; exact ⟨q0, ⟨q1, qP, va_K.moved (u := U) (U := U.calling g mk a) (Vm.Alike.refl U.vm) qK, qD⟩, XB.moved (u := U) (U := U.calling g mk a) (Vm.Alike.refl U.vm) rfl qX⟩, va_recv hK hPc (ci := 10) (q := (RX6, TX6, 10)) rfl hbk, fun U hU hW => ⟨rfl, ⟨by rw [hU], by rw [hU]; exact hPc, K_l (va_K.moved hW.alike hK), hDc.weaken (fun _ _ _ _ => trivial)⟩, by rw [hU]; exact XB.call hW (fun a h1 h2 => hS.2.1 a h1 h2) hFc hXB⟩⟩ rfl rfl hl.1 hst0 (lv_room hst) hdg hf) hS (fun q _ h => hFc q h) hFc (fun q _ h => hFc q h) (fun E cel q9 u t H1 locs1 ht hvm _ hB hz1 hk1 hS1 hcell hcv hcl => ?_) (fun r u t H1 locs1 ht hvm hw2 hB hz1 hk1 hS1 => ?_)
  · obtain ⟨⟨rfl, hXR⟩, hP1, hK1, hD1⟩ := hB
    rw [ht] at hP1
    obtain ⟨pre, suf, x, e1, e2, e3, e4, e5, e6, e7⟩ := kx E hXR
    obtain ⟨hP3, hD3⟩ := fr_W hP hD hk1 hFc hP1 hD1
    refine vx_catch hown pre x suf (htab.trans e1) (fun z hz => ?_) e4 e5 (hts _ e6) (va_Nw.use rfl (hXB.2.2.1 (E, E) (xbc_in e3))) hcell hcv hcl (e7 q9 H1 locs1 ls (by rw [pw_w]; exact hP3) (by rw [pw_w]; exact hD3) hS1 hl)
    obtain ⟨z1, nm, z2, z3, z4⟩ := e2 z hz
    exact Or.inr ⟨z1, nm, hts _ z3, hNC E e3 nm z2 z4⟩
  · obtain ⟨hP1, hK1, hD1⟩ := hB
    rw [ht] at hP1
    obtain ⟨J, rfl, hJ⟩ := hw2
    obtain ⟨hP3, hD3⟩ := fr_W hP hD hk1 hFc hP1 hD1
    exact kk r J hJ H1 locs1 ls (by rw [pw_w]; exact hP3) (by rw [pw_w]; exact hD3) hS1 hl
/-- the law's world -/
def LW (dT : Nat → ClassId) (ad : Nat → Nat) (I : Nat → Nat → Int32) (o : Nat) (g : Nat → Int64) (o2 : Nat) (g2 : Nat → UInt64) (ad8 : Nat → Nat) (M : Nat → Nat → Int32) (S : SZ) : va_W := (o2, eD dT g2) :: (pw ad cL (kf dT ad I) ++ ((o, eJ dT g) :: pw ad8 (mL S) (mf dT ad8 M S)))
def WJ (dT : Nat → ClassId) (ad : Nat → Nat) (I : Nat → Nat → Int32) (o : Nat) (g : Nat → Int64) : va_W := [] ++ pw ad cL (kf dT ad I) ++ [(o, eJ dT g)]
def WD (dT : Nat → ClassId) (ad : Nat → Nat) (I : Nat → Nat → Int32) (o2 : Nat) (g2 : Nat → UInt64) : va_W := [(o2, eD dT g2)] ++ pw ad cL (kf dT ad I) ++ []
def XLX (X : EN) (Z : ZT) : Prop := match X with
  | (_, l, _, _, s, _, _, _, _, _, _, _, A, H0) => XB A s s.heap ∧ NC s ∧ XM Z A s s.heap ∧ H0 = s.heap ∧ l.stackTraces = false
variable {o o2 : Nat} {g : Nat → Int64} {g2 : Nat → UInt64} {ad8 : Nat → Nat} {M : Nat → Nat → Int32} {S : SZ} {Z : ZT}
theorem LW_J : LW dT ad I o g o2 g2 ad8 M S = [(o2, eD dT g2)] ++ WJ dT ad I o g ++ pw ad8 (mL S) (mf dT ad8 M S) := by simp [LW, WJ]
theorem LW_D : LW dT ad I o g o2 g2 ad8 M S = [] ++ WD dT ad I o2 g2 ++ ((o, eJ dT g) :: pw ad8 (mL S) (mf dT ad8 M S)) := by simp [LW, WD]
theorem LW_C : LW dT ad I o g o2 g2 ad8 M S = [(o2, eD dT g2)] ++ pw ad cL (kf dT ad I) ++ ((o, eJ dT g) :: pw ad8 (mL S) (mf dT ad8 M S)) := by simp [LW]
theorem LW_M : LW dT ad I o g o2 g2 ad8 M S = ((o2, eD dT g2) :: (pw ad cL (kf dT ad I) ++ [(o, eJ dT g)])) ++ pw ad8 (mL S) (mf dT ad8 M S) ++ [] := by simp [LW]
/-- the law calls a wrapper -/
theorem l_callS (hX : CX X D (tyL dT) cc RL Ts rm nL) (hL : XLX X Z) {w1 wc w2 : va_W} {y : MethodName} {ws1 ws2 : List Cond} {rm2 : Room} {bytes : ByteArray} {maxL ix mc ms : Nat} {hh : List (Nat × Nat × Nat × Nat)} {ret : Option FieldType} {post : Int32 → va_W → Prop} (As : List Value) {st0 : List Value} (hM : ∀ l : Launch, l.stackTraces = false → WI l y ws1 rm2 D dT wc As mc ms post) (hG : GoodIn Ts (va_wsS RL ix y ws1)) (hw : ws1 = Cond.codeWith y bytes maxL ret hh :: ws2) (hrc : rm2.cells = mc) (hrs : rm2.slots = ms) (hd : y.cls ≠ "java/lang/invoke/MethodHandle" ∧ y.cls ≠ "java/lang/invoke/VarHandle" ∧ (parseMethodDescriptor y.desc).map (fun d => d.parameters.length) = some As.length) (hR : rm2.frames + 1 ≤ rm.frames ∧ 8 + (maxL + 11) + rm2.locals ≤ rm.locals) (hf : ce + mc ≤ rm.cells ∧ sl + ms ≤ rm.slots) (hst0 : st0 = As.reverse ++ st) (hst : (st.map fun v => v.category).sum ≤ 8) (hdg : decode cc pc = .ok (.invokestatic ix, 3)) (kk : ∀ (r : Int32) (w3 : va_W), post r w3 → GW X D (w1 ++ w3 ++ w2) lv (ce + mc) (sl + ms) (pc + 3) (.int r :: st)) : GW X D (w1 ++ wc ++ w2) lv ce sl pc st0 := by
  obtain ⟨p, l, e, R, s, m, args, below, meth, c, Q, nL2, A, H0⟩ := X
  obtain ⟨hx, hb, hml, hown, hts, hK, hA, rfl, rfl, hlk⟩ := hX
  obtain ⟨hXB, hNC, hXM, rfl, hl9⟩ := hL
  intro H locs ls hP hD hS hl
  rw [pw_w] at hP hD
  have hFc := fr_F hD hS hA
  have hPc := P_r (P_l hP)
  have hDc := D_r (D_l hD)
  refine va_calli (vx_runSW (As := As) (rest := st) ⟨hx, hb, hml, hown, hts⟩ (hM l hl9 H.size) (vx_cwSW As.length hts hG hw hrc hrs hd hR) ⟨fun a U g mk q => by obtain ⟨q0, q1, qP, qK, qD, qX, qN⟩ := q; exact ⟨q0, q1, qP, va_K.moved (u := U) (U := U.calling g mk a) (Vm.Alike.refl U.vm) qK, qD, XB.moved (u := U) (U := U.calling g mk a) (Vm.Alike.refl U.vm) rfl qX, NC.moved (u := U) (U := U.calling g mk a) (Vm.Alike.refl U.vm) qN⟩, fun U hU hW => ⟨rfl, by rw [hU], by rw [hU]; exact hPc, va_K.moved hW.alike hK, hDc.weaken (fun _ _ _ _ => trivial), by rw [hU]; exact XB.call hW (fun a h1 h2 => hS.2.1 a h1 h2) hFc hXB, NC.moved hW.alike hNC⟩⟩ rfl rfl hl.1 hst0 (lv_room hst) hdg hf) hS (fun q _ h => hFc q h) hFc (fun r u t H1 locs1 ht hvm hw2 hB hz1 hk1 hS1 => ?_)
  obtain ⟨hP1, hK1, hD1⟩ := hB
  rw [ht] at hP1
  obtain ⟨hP3, hD3⟩ := fr_W hP hD hk1 hFc hP1 hD1
  exact kk r u hw2 H1 locs1 ls (by rw [pw_w]; exact hP3) (by rw [pw_w]; exact hD3) hS1 hl
theorem l_callCI (hX : CX X D (tyL dT) cc RL Ts rm nL) {y : MethodName} {ws1 ws2 : List Cond} {rm2 : Room} {bytes : ByteArray} {maxL ix : Nat} {ret : Option FieldType} {Rel : Int32 → (Nat → Nat → Int32) → Prop} {st0 : List Value} (hM : KI y ws1 rm2 D dT ad I [.ref (ad 0)] Rel) (hG : GoodIn Ts (wsV RL ix RX6 y ws1)) (hw : ws1 = Cond.code y bytes maxL ret :: ws2) (hrc : rm2.cells = 0) (hrs : rm2.slots = 0) (hd : y.cls = RX6 ∧ y.cls ≠ "java/lang/invoke/MethodHandle" ∧ y.cls ≠ "java/lang/invoke/VarHandle" ∧ (parseMethodDescriptor y.desc).map (fun d => d.parameters.length) = some 0) (hR : rm2.frames + 1 ≤ rm.frames ∧ 8 + (maxL + 11) + rm2.locals ≤ rm.locals) (hf : ce ≤ rm.cells ∧ sl ≤ rm.slots) (hst0 : st0 = .ref (ad 0) :: st) (hst : (st.map fun v => v.category).sum ≤ 8) (hdg : decode cc pc = .ok (.invokevirtual ix, 3)) (kk : ∀ (r : Int32) (J : Nat → Nat → Int32), Rel r J → GW X D (LW dT ad J o g o2 g2 ad8 M S) lv ce sl (pc + 3) (.int r :: st)) : GW X D (LW dT ad I o g o2 g2 ad8 M S) lv ce sl pc st0 := by
  obtain ⟨p, l, e, R, s, m, args, below, meth, c, Q, nL2, A, H0⟩ := X
  obtain ⟨hx, hb, hml, hown, hts, hK, hA, rfl, rfl, hlk⟩ := hX
  intro H locs ls hP hD hS hl
  rw [pw_w, LW_C] at hP hD
  have hFc := fr_F hD hS hA
  have hPc := P_r (P_l hP)
  have hDc := D_r (D_l hD)
  obtain ⟨jb, hjb, hbk⟩ := pw_get (ad := ad) (f := kf dT ad I) (i := 0) (L := cL) (List.mem_range.mpr (by decide))
  rw [show kf dT ad I 0 = .inr (10, kmap ad (I 0) (cR I 0) (ksh 10) 0) from pf_obj rfl (by decide)] at hbk
  refine va_calli (va_runV (As := []) (rest := st) ⟨hx, hb, hml, hown, hts⟩ (hM l H.size) (cwV 0 hts hG hw hrc hrs hd hR) ⟨fun a U g mk q => by obtain ⟨q0, q1, qP, qK, qD⟩ := q; exact ⟨q0, q1, qP, va_K.moved (u := U) (U := U.calling g mk a) (Vm.Alike.refl U.vm) qK, qD⟩, va_recv hK hPc (ci := 10) (q := (RX6, TX6, 10)) rfl hbk, fun U hU hW => ⟨rfl, by rw [hU], by rw [hU]; exact hPc, K_l (va_K.moved hW.alike hK), hDc.weaken (fun _ _ _ _ => trivial)⟩⟩ rfl rfl hl.1 hst0 (lv_room hst) hdg hf) hS (fun q _ h => hFc q h) hFc (fun r u t H1 locs1 ht hvm hw2 hB hz1 hk1 hS1 => ?_)
  obtain ⟨hP1, hK1, hD1⟩ := hB
  rw [ht] at hP1
  obtain ⟨J, rfl, hJ⟩ := hw2
  obtain ⟨hP3, hD3⟩ := fr_W hP hD hk1 hFc hP1 hD1
  refine kk r J hJ H1 locs1 ls ?_ ?_ hS1 hl
  · rw [pw_w, LW_C]; exact hP3
  · rw [pw_w, LW_C]; exact hD3
theorem l_callCL (hX : CX X D (tyL dT) cc RL Ts rm nL) {y : MethodName} {ws1 ws2 : List Cond} {rm2 : Room} {bytes : ByteArray} {maxL ix : Nat} {ret : Option FieldType} {Rel : Int64 → (Nat → Nat → Int32) → Prop} {st0 : List Value} (hM : KL y ws1 rm2 D dT ad I [.ref (ad 0)] Rel) (hG : GoodIn Ts (wsV RL ix RX6 y ws1)) (hw : ws1 = Cond.code y bytes maxL ret :: ws2) (hrc : rm2.cells = 0) (hrs : rm2.slots = 0) (hd : y.cls = RX6 ∧ y.cls ≠ "java/lang/invoke/MethodHandle" ∧ y.cls ≠ "java/lang/invoke/VarHandle" ∧ (parseMethodDescriptor y.desc).map (fun d => d.parameters.length) = some 0) (hR : rm2.frames + 1 ≤ rm.frames ∧ 8 + (maxL + 11) + rm2.locals ≤ rm.locals) (hf : ce ≤ rm.cells ∧ sl ≤ rm.slots) (hst0 : st0 = .ref (ad 0) :: st) (hst : (st.map fun v => v.category).sum ≤ 8) (hdg : decode cc pc = .ok (.invokevirtual ix, 3)) (kk : ∀ (r : Int64) (J : Nat → Nat → Int32), Rel r J → GW X D (LW dT ad J o g o2 g2 ad8 M S) lv ce sl (pc + 3) (.long r :: st)) : GW X D (LW dT ad I o g o2 g2 ad8 M S) lv ce sl pc st0 := by
  obtain ⟨p, l, e, R, s, m, args, below, meth, c, Q, nL2, A, H0⟩ := X
  obtain ⟨hx, hb, hml, hown, hts, hK, hA, rfl, rfl, hlk⟩ := hX
  intro H locs ls hP hD hS hl
  rw [pw_w, LW_C] at hP hD
  have hFc := fr_F hD hS hA
  have hPc := P_r (P_l hP)
  have hDc := D_r (D_l hD)
  obtain ⟨jb, hjb, hbk⟩ := pw_get (ad := ad) (f := kf dT ad I) (i := 0) (L := cL) (List.mem_range.mpr (by decide))
  rw [show kf dT ad I 0 = .inr (10, kmap ad (I 0) (cR I 0) (ksh 10) 0) from pf_obj rfl (by decide)] at hbk
  refine va_calll (va_runV (As := []) (rest := st) ⟨hx, hb, hml, hown, hts⟩ (hM l H.size) (cwV 0 hts hG hw hrc hrs hd hR) ⟨fun a U g mk q => by obtain ⟨q0, q1, qP, qK, qD⟩ := q; exact ⟨q0, q1, qP, va_K.moved (u := U) (U := U.calling g mk a) (Vm.Alike.refl U.vm) qK, qD⟩, va_recv hK hPc (ci := 10) (q := (RX6, TX6, 10)) rfl hbk, fun U hU hW => ⟨rfl, by rw [hU], by rw [hU]; exact hPc, K_l (va_K.moved hW.alike hK), hDc.weaken (fun _ _ _ _ => trivial)⟩⟩ rfl rfl hl.1 hst0 (lv_room hst) hdg hf) hS (fun q _ h => hFc q h) hFc (fun r u t H1 locs1 ht hvm hw2 hB hz1 hk1 hS1 => ?_)
  obtain ⟨hP1, hK1, hD1⟩ := hB
  rw [ht] at hP1
  obtain ⟨J, rfl, hJ⟩ := hw2
  obtain ⟨hP3, hD3⟩ := fr_W hP hD hk1 hFc hP1 hD1
  refine kk r J hJ H1 locs1 ls ?_ ?_ hS1 hl
  · rw [pw_w, LW_C]; exact hP3
  · rw [pw_w, LW_C]; exact hD3
theorem l_callMI (hX : CX X D (tyL dT) cc RL Ts rm nL) (hL : XLX X Z) {y : MethodName} {ws1 ws2 : List Cond} {rm2 : Room} {bytes : ByteArray} {maxL ix mc ms : Nat} {ret : Option FieldType} {post : Int32 → UA → Prop} {m0 : Nat} (h8 : ad8 0 = m0) (As : List Value) {st0 : List Value} (hM : ∀ l, BI l y ws1 rm2 D (tyl dT) Z ad8 (mL S) (mf dT ad8 M S) (.ref (ad8 0) :: As) mc ms post) (hG : GoodIn Ts (wsV RL ix RX8 y ws1)) (hw : ws1 = Cond.code y bytes maxL ret :: ws2) (hrc : rm2.cells = mc) (hrs : rm2.slots = ms) (hd : y.cls = RX8 ∧ y.cls ≠ "java/lang/invoke/MethodHandle" ∧ y.cls ≠ "java/lang/invoke/VarHandle" ∧ (parseMethodDescriptor y.desc).map (fun d => d.parameters.length) = some As.length) (hR : rm2.frames + 1 ≤ rm.frames ∧ 8 + (maxL + 11) + rm2.locals ≤ rm.locals) (hf : ce + mc ≤ rm.cells ∧ sl + ms ≤ rm.slots) (hst0 : st0 = As.reverse ++ .ref m0 :: st) (hst : (st.map fun v => v.category).sum ≤ 8) (hdg : decode cc pc = .ok (.invokevirtual ix, 3)) (kk : ∀ (r : Int32) (u : UA), post r u → ∃ ad2 M2 S2, u = (ad2, mL S2, mf dT ad2 M2 S2) ∧ GW X D (LW dT ad I o g o2 g2 ad2 M2 S2) lv (ce + mc) (sl + ms) (pc + 3) (.int r :: st)) : GW X D (LW dT ad I o g o2 g2 ad8 M S) lv ce sl pc st0 := by
  obtain ⟨p, l, e, R, s, m, args, below, meth, c, Q, nL2, A, H0⟩ := X
  obtain ⟨hx, hb, hml, hown, hts, hK, hA, rfl, rfl, hlk⟩ := hX
  obtain ⟨hXB, hNC, hXM, rfl, hl9⟩ := hL
  subst h8
  intro H locs ls hP hD hS hl
  rw [pw_w, LW_M] at hP hD
  have hFc := fr_F hD hS hA
  have hPc := P_r (P_l hP)
  have hDc := D_r (D_l hD)
  obtain ⟨jb, hjb, hbk⟩ := pw_get (ad := ad8) (f := mf dT ad8 M S) (i := 0) (L := mL S) (m_lo (by decide))
  rw [show mf dT ad8 M S 0 = .inr (12, kmap ad8 (M 0) (mR S 0) (ksh 12) 0) from pf_obj rfl (by decide)] at hbk
  refine va_calli (va_runV (As := As) (rest := st) ⟨hx, hb, hml, hown, hts⟩ (hM l H.size) (cwV As.length hts hG hw hrc hrs hd hR) ⟨fun a U g mk q => by obtain ⟨q0, ⟨q1, qP, qK, qD⟩, qX⟩ := q; exact ⟨q0, ⟨q1, qP, va_K.moved (u := U) (U := U.calling g mk a) (Vm.Alike.refl U.vm) qK, qD⟩, XM.moved (u := U) (U := U.calling g mk a) rfl qX⟩, va_recv hK hPc (ci := 12) (q := (RX8, TX8, 18)) rfl hbk, fun U hU hW => ⟨rfl, ⟨by rw [hU], by rw [hU]; exact hPc, K_l (va_K.moved hW.alike hK), hDc.weaken (fun _ _ _ _ => trivial)⟩, by rw [hU]; exact XM.call hW (fun a h1 h2 => hS.2.1 a h1 h2) hFc hXM⟩⟩ rfl rfl hl.1 hst0 (lv_room hst) hdg hf) hS (fun q _ h => hFc q h) hFc (fun r u t H1 locs1 ht hvm hw2 hB hz1 hk1 hS1 => ?_)
  obtain ⟨hP1, hK1, hD1⟩ := hB
  rw [ht] at hP1
  obtain ⟨ad2, M2, S2, rfl, hk2⟩ := kk r u hw2
  dsimp only at hP1 hD1
  obtain ⟨hP3, hD3⟩ := fr_W hP hD hk1 hFc hP1 hD1
  refine hk2 H1 locs1 ls ?_ ?_ hS1 hl
  · rw [pw_w, LW_M]; exact hP3
  · rw [pw_w, LW_M]; exact hD3
theorem l_callML (hX : CX X D (tyL dT) cc RL Ts rm nL) (hL : XLX X Z) {y : MethodName} {ws1 ws2 : List Cond} {rm2 : Room} {bytes : ByteArray} {maxL ix mc ms : Nat} {ret : Option FieldType} {post : Int64 → UA → Prop} {m0 : Nat} (h8 : ad8 0 = m0) (As : List Value) {st0 : List Value} (hM : ∀ l, BL l y ws1 rm2 D (tyl dT) Z ad8 (mL S) (mf dT ad8 M S) (.ref (ad8 0) :: As) mc ms post) (hG : GoodIn Ts (wsV RL ix RX8 y ws1)) (hw : ws1 = Cond.code y bytes maxL ret :: ws2) (hrc : rm2.cells = mc) (hrs : rm2.slots = ms) (hd : y.cls = RX8 ∧ y.cls ≠ "java/lang/invoke/MethodHandle" ∧ y.cls ≠ "java/lang/invoke/VarHandle" ∧ (parseMethodDescriptor y.desc).map (fun d => d.parameters.length) = some As.length) (hR : rm2.frames + 1 ≤ rm.frames ∧ 8 + (maxL + 11) + rm2.locals ≤ rm.locals) (hf : ce + mc ≤ rm.cells ∧ sl + ms ≤ rm.slots) (hst0 : st0 = As.reverse ++ .ref m0 :: st) (hst : (st.map fun v => v.category).sum ≤ 8) (hdg : decode cc pc = .ok (.invokevirtual ix, 3)) (kk : ∀ (r : Int64) (u : UA), post r u → ∃ ad2 M2 S2, u = (ad2, mL S2, mf dT ad2 M2 S2) ∧ GW X D (LW dT ad I o g o2 g2 ad2 M2 S2) lv (ce + mc) (sl + ms) (pc + 3) (.long r :: st)) : GW X D (LW dT ad I o g o2 g2 ad8 M S) lv ce sl pc st0 := by
  obtain ⟨p, l, e, R, s, m, args, below, meth, c, Q, nL2, A, H0⟩ := X
  obtain ⟨hx, hb, hml, hown, hts, hK, hA, rfl, rfl, hlk⟩ := hX
  obtain ⟨hXB, hNC, hXM, rfl, hl9⟩ := hL
  subst h8
  intro H locs ls hP hD hS hl
  rw [pw_w, LW_M] at hP hD
  have hFc := fr_F hD hS hA
  have hPc := P_r (P_l hP)
  have hDc := D_r (D_l hD)
  obtain ⟨jb, hjb, hbk⟩ := pw_get (ad := ad8) (f := mf dT ad8 M S) (i := 0) (L := mL S) (m_lo (by decide))
  rw [show mf dT ad8 M S 0 = .inr (12, kmap ad8 (M 0) (mR S 0) (ksh 12) 0) from pf_obj rfl (by decide)] at hbk
  refine va_calll (va_runV (As := As) (rest := st) ⟨hx, hb, hml, hown, hts⟩ (hM l H.size) (cwV As.length hts hG hw hrc hrs hd hR) ⟨fun a U g mk q => by obtain ⟨q0, ⟨q1, qP, qK, qD⟩, qX⟩ := q; exact ⟨q0, ⟨q1, qP, va_K.moved (u := U) (U := U.calling g mk a) (Vm.Alike.refl U.vm) qK, qD⟩, XM.moved (u := U) (U := U.calling g mk a) rfl qX⟩, va_recv hK hPc (ci := 12) (q := (RX8, TX8, 18)) rfl hbk, fun U hU hW => ⟨rfl, ⟨by rw [hU], by rw [hU]; exact hPc, K_l (va_K.moved hW.alike hK), hDc.weaken (fun _ _ _ _ => trivial)⟩, by rw [hU]; exact XM.call hW (fun a h1 h2 => hS.2.1 a h1 h2) hFc hXM⟩⟩ rfl rfl hl.1 hst0 (lv_room hst) hdg hf) hS (fun q _ h => hFc q h) hFc (fun r u t H1 locs1 ht hvm hw2 hB hz1 hk1 hS1 => ?_)
  obtain ⟨hP1, hK1, hD1⟩ := hB
  rw [ht] at hP1
  obtain ⟨ad2, M2, S2, rfl, hk2⟩ := kk r u hw2
  dsimp only at hP1 hD1
  obtain ⟨hP3, hD3⟩ := fr_W hP hD hk1 hFc hP1 hD1
  refine hk2 H1 locs1 ls ?_ ?_ hS1 hl
  · rw [pw_w, LW_M]; exact hP3
  · rw [pw_w, LW_M]; exact hD3
theorem l_callMF (hX : CX X D (tyL dT) cc RL Ts rm nL) (hL : XLX X Z) {y : MethodName} {ws1 ws2 : List Cond} {rm2 : Room} {bytes : ByteArray} {maxL ix mc ms : Nat} {ret : Option FieldType} {post : UInt32 → UA → Prop} {m0 : Nat} (h8 : ad8 0 = m0) (As : List Value) {st0 : List Value} (hM : ∀ l, BF l y ws1 rm2 D (tyl dT) Z ad8 (mL S) (mf dT ad8 M S) (.ref (ad8 0) :: As) mc ms post) (hG : GoodIn Ts (wsV RL ix RX8 y ws1)) (hw : ws1 = Cond.code y bytes maxL ret :: ws2) (hrc : rm2.cells = mc) (hrs : rm2.slots = ms) (hd : y.cls = RX8 ∧ y.cls ≠ "java/lang/invoke/MethodHandle" ∧ y.cls ≠ "java/lang/invoke/VarHandle" ∧ (parseMethodDescriptor y.desc).map (fun d => d.parameters.length) = some As.length) (hR : rm2.frames + 1 ≤ rm.frames ∧ 8 + (maxL + 11) + rm2.locals ≤ rm.locals) (hf : ce + mc ≤ rm.cells ∧ sl + ms ≤ rm.slots) (hst0 : st0 = As.reverse ++ .ref m0 :: st) (hst : (st.map fun v => v.category).sum ≤ 8) (hdg : decode cc pc = .ok (.invokevirtual ix, 3)) (kk : ∀ (r : UInt32) (u : UA), post r u → ∃ ad2 M2 S2, u = (ad2, mL S2, mf dT ad2 M2 S2) ∧ GW X D (LW dT ad I o g o2 g2 ad2 M2 S2) lv (ce + mc) (sl + ms) (pc + 3) (.float r :: st)) : GW X D (LW dT ad I o g o2 g2 ad8 M S) lv ce sl pc st0 := by
  obtain ⟨p, l, e, R, s, m, args, below, meth, c, Q, nL2, A, H0⟩ := X
  obtain ⟨hx, hb, hml, hown, hts, hK, hA, rfl, rfl, hlk⟩ := hX
  obtain ⟨hXB, hNC, hXM, rfl, hl9⟩ := hL
  subst h8
  intro H locs ls hP hD hS hl
  rw [pw_w, LW_M] at hP hD
  have hFc := fr_F hD hS hA
  have hPc := P_r (P_l hP)
  have hDc := D_r (D_l hD)
  obtain ⟨jb, hjb, hbk⟩ := pw_get (ad := ad8) (f := mf dT ad8 M S) (i := 0) (L := mL S) (m_lo (by decide))
  rw [show mf dT ad8 M S 0 = .inr (12, kmap ad8 (M 0) (mR S 0) (ksh 12) 0) from pf_obj rfl (by decide)] at hbk
  refine va_callf (va_runV (As := As) (rest := st) ⟨hx, hb, hml, hown, hts⟩ (hM l H.size) (cwV As.length hts hG hw hrc hrs hd hR) ⟨fun a U g mk q => by obtain ⟨q0, ⟨q1, qP, qK, qD⟩, qX⟩ := q; exact ⟨q0, ⟨q1, qP, va_K.moved (u := U) (U := U.calling g mk a) (Vm.Alike.refl U.vm) qK, qD⟩, XM.moved (u := U) (U := U.calling g mk a) rfl qX⟩, va_recv hK hPc (ci := 12) (q := (RX8, TX8, 18)) rfl hbk, fun U hU hW => ⟨rfl, ⟨by rw [hU], by rw [hU]; exact hPc, K_l (va_K.moved hW.alike hK), hDc.weaken (fun _ _ _ _ => trivial)⟩, by rw [hU]; exact XM.call hW (fun a h1 h2 => hS.2.1 a h1 h2) hFc hXM⟩⟩ rfl rfl hl.1 hst0 (lv_room hst) hdg hf) hS (fun q _ h => hFc q h) hFc (fun r u t H1 locs1 ht hvm hw2 hB hz1 hk1 hS1 => ?_)
  obtain ⟨hP1, hK1, hD1⟩ := hB
  rw [ht] at hP1
  obtain ⟨ad2, M2, S2, rfl, hk2⟩ := kk r u hw2
  dsimp only at hP1 hD1
  obtain ⟨hP3, hD3⟩ := fr_W hP hD hk1 hFc hP1 hD1
  refine hk2 H1 locs1 ls ?_ ?_ hS1 hl
  · rw [pw_w, LW_M]; exact hP3
  · rw [pw_w, LW_M]; exact hD3
theorem l_callMZ (hX : CX X D (tyL dT) cc RL Ts rm nL) (hL : XLX X Z) {y : MethodName} {ws1 ws2 : List Cond} {rm2 : Room} {bytes : ByteArray} {maxL ix mc ms : Nat} {ret : Option FieldType} {post : UInt64 → UA → Prop} {m0 : Nat} (h8 : ad8 0 = m0) (As : List Value) {st0 : List Value} (hM : ∀ l, BZ l y ws1 rm2 D (tyl dT) Z ad8 (mL S) (mf dT ad8 M S) (.ref (ad8 0) :: As) mc ms post) (hG : GoodIn Ts (wsV RL ix RX8 y ws1)) (hw : ws1 = Cond.code y bytes maxL ret :: ws2) (hrc : rm2.cells = mc) (hrs : rm2.slots = ms) (hd : y.cls = RX8 ∧ y.cls ≠ "java/lang/invoke/MethodHandle" ∧ y.cls ≠ "java/lang/invoke/VarHandle" ∧ (parseMethodDescriptor y.desc).map (fun d => d.parameters.length) = some As.length) (hR : rm2.frames + 1 ≤ rm.frames ∧ 8 + (maxL + 11) + rm2.locals ≤ rm.locals) (hf : ce + mc ≤ rm.cells ∧ sl + ms ≤ rm.slots) (hst0 : st0 = As.reverse ++ .ref m0 :: st) (hst : (st.map fun v => v.category).sum ≤ 8) (hdg : decode cc pc = .ok (.invokevirtual ix, 3)) (kk : ∀ (r : UInt64) (u : UA), post r u → ∃ ad2 M2 S2, u = (ad2, mL S2, mf dT ad2 M2 S2) ∧ GW X D (LW dT ad I o g o2 g2 ad2 M2 S2) lv (ce + mc) (sl + ms) (pc + 3) (.double r :: st)) : GW X D (LW dT ad I o g o2 g2 ad8 M S) lv ce sl pc st0 := by
  obtain ⟨p, l, e, R, s, m, args, below, meth, c, Q, nL2, A, H0⟩ := X
  obtain ⟨hx, hb, hml, hown, hts, hK, hA, rfl, rfl, hlk⟩ := hX
  obtain ⟨hXB, hNC, hXM, rfl, hl9⟩ := hL
  subst h8
  intro H locs ls hP hD hS hl
  rw [pw_w, LW_M] at hP hD
  have hFc := fr_F hD hS hA
  have hPc := P_r (P_l hP)
  have hDc := D_r (D_l hD)
  obtain ⟨jb, hjb, hbk⟩ := pw_get (ad := ad8) (f := mf dT ad8 M S) (i := 0) (L := mL S) (m_lo (by decide))
  rw [show mf dT ad8 M S 0 = .inr (12, kmap ad8 (M 0) (mR S 0) (ksh 12) 0) from pf_obj rfl (by decide)] at hbk
  refine va_calld (va_runV (As := As) (rest := st) ⟨hx, hb, hml, hown, hts⟩ (hM l H.size) (cwV As.length hts hG hw hrc hrs hd hR) ⟨fun a U g mk q => by obtain ⟨q0, ⟨q1, qP, qK, qD⟩, qX⟩ := q; exact ⟨q0, ⟨q1, qP, va_K.moved (u := U) (U := U.calling g mk a) (Vm.Alike.refl U.vm) qK, qD⟩, XM.moved (u := U) (U := U.calling g mk a) rfl qX⟩, va_recv hK hPc (ci := 12) (q := (RX8, TX8, 18)) rfl hbk, fun U hU hW => ⟨rfl, ⟨by rw [hU], by rw [hU]; exact hPc, K_l (va_K.moved hW.alike hK), hDc.weaken (fun _ _ _ _ => trivial)⟩, by rw [hU]; exact XM.call hW (fun a h1 h2 => hS.2.1 a h1 h2) hFc hXM⟩⟩ rfl rfl hl.1 hst0 (lv_room hst) hdg hf) hS (fun q _ h => hFc q h) hFc (fun r u t H1 locs1 ht hvm hw2 hB hz1 hk1 hS1 => ?_)
  obtain ⟨hP1, hK1, hD1⟩ := hB
  rw [ht] at hP1
  obtain ⟨ad2, M2, S2, rfl, hk2⟩ := kk r u hw2
  dsimp only at hP1 hD1
  obtain ⟨hP3, hD3⟩ := fr_W hP hD hk1 hFc hP1 hD1
  refine hk2 H1 locs1 ls ?_ ?_ hS1 hl
  · rw [pw_w, LW_M]; exact hP3
  · rw [pw_w, LW_M]; exact hD3
/-- the law reads its script -/
def XSX (X : EN) (b L : Nat) (xs : Nat → Int32) : Prop := match X with
  | (_, _, _, _, s, _, _, _, _, _, _, _, A, H0) => va_X b L xs s H0 ∧ b < H0.size ∧ ¬ A b
theorem l_sld (hX : CX X D (tyL dT) cc RL Ts rm nL) {b L : Nat} {xs : Nat → Int32} (hs : XSX X b L xs) {i : Int32} (hin : vp_in i L) (hdg : decode cc pc = .ok (.iaload, 1)) (kk : GW X D ws lv ce sl (pc + 1) (.int (xs i.toNatClampNeg) :: st)) : GW X D ws lv ce sl pc (.int i :: .ref b :: st) := by
  obtain ⟨p, l, e, R, s, m, args, below, meth, c, Q, nL2, A, H0⟩ := X
  obtain ⟨hx, hb, hml, hown, hts, hK, hA, rfl, rfl, hlk⟩ := hX
  obtain ⟨h1, h2, h3⟩ := hs
  intro H locs ls hP hD hS hl
  exact va_sld hx hb h1 h2 h3 hS hin hdg (kk H locs ls hP hD hS hl)
theorem l_slen (hX : CX X D (tyL dT) cc RL Ts rm nL) {b L : Nat} {xs : Nat → Int32} (hs : XSX X b L xs) (hdg : decode cc pc = .ok (.arraylength, 1)) (kk : GW X D ws lv ce sl (pc + 1) (.int (nI L) :: st)) : GW X D ws lv ce sl pc (.ref b :: st) := by
  obtain ⟨p, l, e, R, s, m, args, below, meth, c, Q, nL2, A, H0⟩ := X
  obtain ⟨hx, hb, hml, hown, hts, hK, hA, rfl, rfl, hlk⟩ := hX
  obtain ⟨h1, h2, h3⟩ := hs
  intro H locs ls hP hD hS hl
  exact va_slen hx hb h1 h2 h3 hS hdg (kk H locs ls hP hD hS hl)
theorem l_tabIn (hX : CX X D (tyL dT) cc RL Ts rm nL) {dflt lo hi : Int} {offs : Array Int} {len : Nat} {x : Int32} {off : Int} (tgt : Nat) (hdg : decode cc pc = .ok (.tableswitch dflt lo hi offs, len)) (h1 : ¬ x.toInt < lo) (h2 : ¬ hi < x.toInt) (ho : offs[(x.toInt - lo).toNat]? = some off) (ht : (pc : Int) + off = (tgt : Int)) (kk : GW X D ws lv ce sl tgt st) : GW X D ws lv ce sl pc (.int x :: st) := by
  obtain ⟨p, l, e, R, s, m, args, below, meth, c, Q, nL2, A, H0⟩ := X
  obtain ⟨hx, hb, hml, hown, hts, hK, hA, rfl, rfl, hlk⟩ := hX
  intro H locs ls hP hD hS hl
  exact lv_tableIn hx hb hdg h1 h2 ho ht (kk H locs ls hP hD hS hl)
theorem l_tabOut (hX : CX X D (tyL dT) cc RL Ts rm nL) {dflt lo hi : Int} {offs : Array Int} {len : Nat} {x : Int32} (tgt : Nat) (hdg : decode cc pc = .ok (.tableswitch dflt lo hi offs, len)) (h : x.toInt < lo ∨ hi < x.toInt) (ht : (pc : Int) + dflt = (tgt : Int)) (kk : GW X D ws lv ce sl tgt st) : GW X D ws lv ce sl pc (.int x :: st) := by
  obtain ⟨p, l, e, R, s, m, args, below, meth, c, Q, nL2, A, H0⟩ := X
  obtain ⟨hx, hb, hml, hown, hts, hK, hA, rfl, rfl, hlk⟩ := hX
  intro H locs ls hP hD hS hl
  exact lv_tableOut hx hb hdg h ht (kk H locs ls hP hD hS hl)
end GWR
