section GGH
variable {X : EN} {D : va_G} {dT : Nat → ClassId} {cc : ByteArray} {own : String} {Ts : List Cond} {rm : Room} {nL : Nat} {ad : Nat → Nat} {L : List Nat} {f : Nat → va_E} {lv : List (Nat × Value)} {ce sl pc : Nat} {st : List Value} {Z : ZT} {K N : Nat → Nat} {I : Nat → Nat → Int32} {Rr : Nat → Nat → Option Nat}
theorem h_iald (hX : CX X D (tyl dT) cc own Ts rm nL) {i : Nat} (k : Nat) {x : Int32} (hxk : x = nI k) (hkn : k < N i) (h31 : N i < 2 ^ 31) (hL : i ∈ L) (hKi : K i = 20) (hdg : decode cc pc = .ok (.iaload, 1)) (kk : GG X D ad L (pf dT K N I Rr ad) lv ce sl (pc + 1) (.int (I i k) :: st)) : GG X D ad L (pf dT K N I Rr ad) lv ce sl pc (.int x :: .ref (ad i) :: st) := by
  subst hxk
  exact g_iald hX rfl hL hKi (vp_in_nI hkn h31) hdg (by rw [nI_clamp (by omega)]; exact kk)
theorem h_zald (hX : CX X D (tyl dT) cc own Ts rm nL) {i : Nat} (k : Nat) {x : Int32} (hxk : x = nI k) (hkn : k < N i) (h31 : N i < 2 ^ 31) (hL : i ∈ L) (hKi : K i = 21) (hdg : decode cc pc = .ok (.baload, 1)) (kk : GG X D ad L (pf dT K N I Rr ad) lv ce sl (pc + 1) (.int (I i k) :: st)) : GG X D ad L (pf dT K N I Rr ad) lv ce sl pc (.int x :: .ref (ad i) :: st) := by
  subst hxk
  exact g_zald hX rfl hL hKi (vp_in_nI hkn h31) hdg (by rw [nI_clamp (by omega)]; exact kk)
theorem h_iast (hX : CX X D (tyl dT) cc own Ts rm nL) {i : Nat} (k : Nat) {x : Int32} (hxk : x = nI k) (hkn : k < N i) (h31 : N i < 2 ^ 31) {v : Int32} (hL : i ∈ L) (hKi : K i = 20) (hdg : decode cc pc = .ok (.iastore, 1)) (kk : GG X D ad L (pf dT K N (up2 I i k v) Rr ad) lv ce sl (pc + 1) st) : GG X D ad L (pf dT K N I Rr ad) lv ce sl pc (.int v :: .int x :: .ref (ad i) :: st) := by
  subst hxk
  exact g_iast hX rfl hL hKi (vp_in_nI hkn h31) hdg (by rw [nI_clamp (by omega)]; exact kk)
theorem h_zast (hX : CX X D (tyl dT) cc own Ts rm nL) {i : Nat} (k : Nat) {x : Int32} (hxk : x = nI k) (hkn : k < N i) (h31 : N i < 2 ^ 31) {v : Int32} (hv : v = 0 ∨ v = 1) (hL : i ∈ L) (hKi : K i = 21) (hdg : decode cc pc = .ok (.bastore, 1)) (kk : GG X D ad L (pf dT K N (up2 I i k v) Rr ad) lv ce sl (pc + 1) st) : GG X D ad L (pf dT K N I Rr ad) lv ce sl pc (.int v :: .int x :: .ref (ad i) :: st) := by
  subst hxk
  have e : vp_nar .boolean v = v := by rcases hv with h | h <;> (subst h; decide)
  exact g_zast hX rfl hL hKi (vp_in_nI hkn h31) hdg (by rw [nI_clamp (by omega), e]; exact kk)
theorem h_aald24 (hX : CX X D (tyl dT) cc own Ts rm nL) {i : Nat} (k : Nat) {x : Int32} (hxk : x = nI k) (hkn : k < N i) (h31 : N i < 2 ^ 31) {j : Nat} (hr : Rr i k = some j) (hL : i ∈ L) (hKi : K i = 24) (hdg : decode cc pc = .ok (.aaload, 1)) (kk : GG X D ad L (pf dT K N I Rr ad) lv ce sl (pc + 1) (.ref (ad j) :: st)) : GG X D ad L (pf dT K N I Rr ad) lv ce sl pc (.int x :: .ref (ad i) :: st) := by
  subst hxk
  exact g_aald24 hX rfl hL hKi (vp_in_nI hkn h31) hdg (by rw [nI_clamp (by omega), hr]; exact kk)
theorem h_aald25 (hX : CX X D (tyl dT) cc own Ts rm nL) {i : Nat} (k : Nat) {x : Int32} (hxk : x = nI k) (hkn : k < N i) (h31 : N i < 2 ^ 31) {j : Nat} (hr : Rr i k = some j) (hL : i ∈ L) (hKi : K i = 25) (hdg : decode cc pc = .ok (.aaload, 1)) (kk : GG X D ad L (pf dT K N I Rr ad) lv ce sl (pc + 1) (.ref (ad j) :: st)) : GG X D ad L (pf dT K N I Rr ad) lv ce sl pc (.int x :: .ref (ad i) :: st) := by
  subst hxk
  exact g_aald25 hX rfl hL hKi (vp_in_nI hkn h31) hdg (by rw [nI_clamp (by omega), hr]; exact kk)
theorem h_aald26 (hX : CX X D (tyl dT) cc own Ts rm nL) {i : Nat} (k : Nat) {x : Int32} (hxk : x = nI k) (hkn : k < N i) (h31 : N i < 2 ^ 31) {j : Nat} (hr : Rr i k = some j) (hL : i ∈ L) (hKi : K i = 26) (hdg : decode cc pc = .ok (.aaload, 1)) (kk : GG X D ad L (pf dT K N I Rr ad) lv ce sl (pc + 1) (.ref (ad j) :: st)) : GG X D ad L (pf dT K N I Rr ad) lv ce sl pc (.int x :: .ref (ad i) :: st) := by
  subst hxk
  exact g_aald26 hX hL hKi (vp_in_nI hkn h31) hdg (by rw [nI_clamp (by omega), hr]; exact kk)
theorem h_ast24 (hX : CX X D (tyl dT) cc own Ts rm nL) {i v : Nat} (k : Nat) {x : Int32} (hxk : x = nI k) (hkn : k < N i) (h31 : N i < 2 ^ 31) (hL : i ∈ L) (hKi : K i = 24) (hLv : v ∈ L) (hKv : K v = 11) (hdg : decode cc pc = .ok (.aastore, 1)) (kk : GG X D ad L (pf dT K N I (up2 Rr i k (some v)) ad) lv ce sl (pc + 1) st) : GG X D ad L (pf dT K N I Rr ad) lv ce sl pc (.ref (ad v) :: .int x :: .ref (ad i) :: st) := by
  subst hxk
  exact g_aast24 hX rfl hL hKi hLv hKv (vp_in_nI hkn h31) hdg (by rw [nI_clamp (by omega)]; exact kk)
theorem h_ast26 (hX : CX X D (tyl dT) cc own Ts rm nL) (hM0 : XMX X Z) {i v : Nat} (k : Nat) {x : Int32} (hxk : x = nI k) (hkn : k < N i) (h31 : N i < 2 ^ 31) (hL : i ∈ L) (hKi : K i = 26) (hLv : v ∈ L) (hKv : K v = 21) (hdg : decode cc pc = .ok (.aastore, 1)) (kk : GG X D ad L (pf dT K N I (up2 Rr i k (some v)) ad) lv ce sl (pc + 1) st) : GG X D ad L (pf dT K N I Rr ad) lv ce sl pc (.ref (ad v) :: .int x :: .ref (ad i) :: st) := by
  subst hxk
  exact b_ast26 hX hM0 hL hKi hLv hKv (vp_in_nI hkn h31) hdg (by rw [nI_clamp (by omega)]; exact kk)
theorem h_ast25 (hX : CX X D (tyl dT) cc own Ts rm nL) (hM0 : XMX X Z) {i v : Nat} (k : Nat) {x : Int32} (hxk : x = nI k) (hkn : k < N i) (h31 : N i < 2 ^ 31) (hL : i ∈ L) (hKi : K i = 25) (hLv : v ∈ L) (hKv : K v = 20 ∨ K v = 26) (hdg : decode cc pc = .ok (.aastore, 1)) (kk : GG X D ad L (pf dT K N I (up2 Rr i k (some v)) ad) lv ce sl (pc + 1) st) : GG X D ad L (pf dT K N I Rr ad) lv ce sl pc (.ref (ad v) :: .int x :: .ref (ad i) :: st) := by
  subst hxk
  rcases hKv with hKv | hKv
  · exact b_ast25_20 hX hM0 hL hKi hLv hKv (vp_in_nI hkn h31) hdg (by rw [nI_clamp (by omega)]; exact kk)
  · exact b_ast25_26 hX hM0 hL hKi hLv hKv (vp_in_nI hkn h31) hdg (by rw [nI_clamp (by omega)]; exact kk)
theorem h_astN (hX : CX X D (tyl dT) cc own Ts rm nL) {i : Nat} (k : Nat) {x : Int32} (hxk : x = nI k) (hkn : k < N i) (h31 : N i < 2 ^ 31) (hL : i ∈ L) (hKi : K i = 25) (hdg : decode cc pc = .ok (.aastore, 1)) (kk : GG X D ad L (pf dT K N I (up2 Rr i k none) ad) lv ce sl (pc + 1) st) : GG X D ad L (pf dT K N I Rr ad) lv ce sl pc (.null :: .int x :: .ref (ad i) :: st) := by
  subst hxk
  exact b_astN25 hX hL hKi (vp_in_nI hkn h31) hdg (by rw [nI_clamp (by omega)]; exact kk)
theorem b_getMC (hX : CX X D (tyl dT) cc own Ts rm nL) {i ix : Nat} (hin : ∀ w ∈ u_ws RJx4a65c TJx4a65c 3, w ∈ Ts) (hL : i ∈ L) (hKi : K i = 3) (hlink : Cond.fieldLink own ix "java/util/ArrayList" "modCount" "I" ∈ Ts) (hsf : Cond.sameField "java/util/ArrayList" "java/util/AbstractList" "modCount" "I" ∈ Ts) (hdg : decode cc pc = .ok (.getfield ix, 3)) (kk : GG X D ad L (pf dT K N I Rr ad) lv ce sl (pc + 3) (.int (I i 0) :: st)) : GG X D ad L (pf dT K N I Rr ad) lv ce sl pc (.ref (ad i) :: st) := by
  obtain ⟨p, l, e, R, s, m, args, below, meth, c, Q, nL2, A, H0⟩ := X
  obtain ⟨hx, hb, hml, hown, hts, hK, hA, rfl, rfl, hlk⟩ := hX
  intro H locs ls hP hD hS hl
  obtain ⟨j0, hj0, hj⟩ := pw_get (ad := ad) (f := (pf dT K N I Rr ad)) hL
  rw [pf_obj hKi (by decide)] at hj
  exact va_get hx hb hts hin hown hK hP j0 hj rfl 0 (by decide) (hts _ hlink) (u_same (hts _ hsf)) rfl hdg (kk H locs ls hP hD hS hl)
theorem b_putMC (hX : CX X D (tyl dT) cc own Ts rm nL) {i ix : Nat} {x : Int32} (hin : ∀ w ∈ u_ws RJx4a65c TJx4a65c 3, w ∈ Ts) (hL : i ∈ L) (hKi : K i = 3) (hlink : Cond.fieldLink own ix "java/util/ArrayList" "modCount" "I" ∈ Ts) (hsf : Cond.sameField "java/util/ArrayList" "java/util/AbstractList" "modCount" "I" ∈ Ts) (hdg : decode cc pc = .ok (.putfield ix, 3)) (kk : GG X D ad L (pf dT K N (up2 I i 0 x) Rr ad) lv ce sl (pc + 3) st) : GG X D ad L (pf dT K N I Rr ad) lv ce sl pc (.int x :: .ref (ad i) :: st) := by
  obtain ⟨p, l, e, R, s, m, args, below, meth, c, Q, nL2, A, H0⟩ := X
  obtain ⟨hx, hb, hml, hown, hts, hK, hA, rfl, rfl, hlk⟩ := hX
  intro H locs ls hP hD hS hl
  obtain ⟨j0, hj0, hj⟩ := pw_get (ad := ad) (f := (pf dT K N I Rr ad)) hL
  have hj2 := hj
  rw [pf_obj hKi (by decide)] at hj2
  refine va_put hx hb hts hin tyJx4a65c tyJx4a65c_ok nmJx4a65c hown hK hP hD hS j0 hj2 rfl 0 (by decide) (hts _ hlink) (u_same (hts _ hsf)) rfl (ty := .int) (by decide +kernel) rfl rfl (by rw [kmap_len]; decide) hdg (fun H1 locs1 hP1 hD1 hS1 => ?_)
  rw [pw_set hD hj0, pf_putI hKi (by decide) rfl] at hP1 hD1
  exact kk H1 locs1 ls hP1 hD1 hS1 hl
theorem b_getSN (hX : CX X D (tyl dT) cc own Ts rm nL) (hM0 : XMX X Z) (ho : own = "java/util/ArrayList$Itr") {i : Nat} (hin : ∀ w ∈ u_ws RJx4a65c TJx4a65c 3, w ∈ Ts) (hL : i ∈ L) (hKi : K i = 3) (hdg : decode cc pc = .ok (.getfield 28, 3)) (kk : GG X D ad L (pf dT K N I Rr ad) lv ce sl (pc + 3) (.int (I i 2) :: st)) : GG X D ad L (pf dT K N I Rr ad) lv ce sl pc (.ref (ad i) :: st) := by
  subst ho
  obtain ⟨p, l, e, R, s, m, args, below, meth, c, Q, nL2, A, H0⟩ := X
  obtain ⟨hx, hb, hml, hown, hts, hK, hA, rfl, rfl, hlk⟩ := hX
  obtain ⟨hXM, rfl⟩ := hM0
  intro H locs ls hP hD hS hl
  obtain ⟨j0, hj0, hj⟩ := pw_get (ad := ad) (f := (pf dT K N I Rr ad)) hL
  rw [pf_obj hKi (by decide)] at hj
  exact va_getN hx hb hts hin hown hK hP j0 hj rfl 2 (by decide) (va_Nw.use rfl hXM.2.2.2.2.2.2.2.2.2.2.2.2) (fun x h => h) rfl hdg (kk H locs ls hP hD hS hl)
theorem b_callI_VS (hX : CX X D (tyl dT) cc own Ts rm nL) (hM0 : XMX X Z) {i : Nat} (hi : i < 3) {y : MethodName} {ws ws2 : List Cond} {rm2 : Room} {bytes : ByteArray} {maxL ix mc ms : Nat} {ret : Option FieldType} {post : Int32 → UA → Prop} (As : List Value) {st0 : List Value} (hM : ∀ l, BI l y ws rm2 D (tyl dT) Z ad L f (.ref (Z.2.1 i) :: As) mc ms post) (hG : GoodIn Ts (wsV own ix "java/lang/String" y ws)) (hw : ws = Cond.code y bytes maxL ret :: ws2) (hrc : rm2.cells = mc) (hrs : rm2.slots = ms) (hd : y.cls = "java/lang/String" ∧ y.cls ≠ "java/lang/invoke/MethodHandle" ∧ y.cls ≠ "java/lang/invoke/VarHandle" ∧ (parseMethodDescriptor y.desc).map (fun d => d.parameters.length) = some As.length) (hR : rm2.frames + 1 ≤ rm.frames ∧ 8 + (maxL + 11) + rm2.locals ≤ rm.locals) (hf : ce + mc ≤ rm.cells ∧ sl + ms ≤ rm.slots) (hst0 : st0 = As.reverse ++ .ref (Z.2.1 i) :: st) (hst : (st.map fun v => v.category).sum ≤ 8) (hdg : decode cc pc = .ok (.invokevirtual ix, 3)) (kk : ∀ (r : Int32) (ad2 : Nat → Nat) (L2 : List Nat) (f2 : Nat → va_E), post r (ad2, L2, f2) → GG X D ad2 L2 f2 lv (ce + mc) (sl + ms) (pc + 3) (.int r :: st)) : GG X D ad L f lv ce sl pc st0 := by
  obtain ⟨p, l, e, R, s, m, args, below, meth, c, Q, nL2, A, H0⟩ := X
  obtain ⟨hx, hb, hml, hown, hts, hK, hA, rfl, rfl, hlk⟩ := hX
  obtain ⟨hXM, rfl⟩ := hM0
  intro H locs ls hP hD hS hl
  have hFc : ∀ q, va_A (pw ad L f) H.size q → A q := fun q hq => hq.elim (fun ⟨k, e, hk⟩ => hD.2 k _ hk) (fun h => hA q (Nat.le_trans hS.1 h))
  refine va_calli (va_runV (As := As) (rest := st) ⟨hx, hb, hml, hown, hts⟩ (hM l H.size) (cwV As.length hts hG hw hrc hrs hd hR) ⟨fun a U g mk q => by obtain ⟨q0, ⟨q1, qP, qK, qD⟩, qX⟩ := q; exact ⟨q0, ⟨q1, qP, va_K.moved (u := U) (U := U.calling g mk a) (Vm.Alike.refl U.vm) qK, qD⟩, XM.moved (u := U) (U := U.calling g mk a) rfl qX⟩, vk_recv hXM.2.2.2.1 hi hS, fun U hU hW => ⟨rfl, ⟨by rw [hU], by rw [hU]; exact hP, va_K.moved hW.alike hK, hD.weaken (fun _ _ _ _ => trivial)⟩, by rw [hU]; exact XM.call hW (fun a h1 h2 => hS.2.1 a h1 h2) hFc hXM⟩⟩ rfl rfl hl.1 hst0 (lv_room hst) hdg hf) hS (fun q _ h => hFc q h) hFc (fun r u t H1 locs1 ht hvm hw2 hB hz1 hk1 hS1 => ?_)
  obtain ⟨hP1, hK1, hD1⟩ := hB
  rw [ht] at hP1
  exact kk r u.1 u.2.1 u.2.2 hw2 H1 locs1 ls hP1 (hD1.weaken (fun _ _ _ h => hFc _ h)) hS1 hl
end GGH
theorem XMX.ao {X : EN} {Z : ZT} {C : String} (h : XMX X Z) (hC : C ∈ zAO) : WB X (Cond.arrayOver (.object C)) := by
  obtain ⟨p, l, e, R, s, m, args, below, meth, c, Q, nL2, A, H0⟩ := X
  obtain ⟨h1, -⟩ := h
  exact va_AO.use (h1.2.2.2.2.2.2.2.1 C hC)
theorem n31 {n : Nat} (h : n < 100000) : n < 2 ^ 31 := Nat.lt_of_lt_of_le h (by decide)
