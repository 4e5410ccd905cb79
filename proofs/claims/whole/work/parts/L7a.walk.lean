/-! the law's loop, and the making of its two -/
theorem and63 (x : Int32) : ∃ k, k < 64 ∧ x &&& 63 = nI k := by
  have e : nI x.toUInt32.toNat = x := by
    apply Int32.toBitVec_inj.mp
    simp [nI]
  refine ⟨x.toUInt32.toNat &&& 63, Nat.lt_of_le_of_lt Nat.and_le_right (by decide), ?_⟩
  have h := nI_and (a := x.toUInt32.toNat) (b := 63) x.toUInt32.toNat_lt (by decide)
  rw [e] at h
  exact h
theorem nI_ge5 {i L : Nat} (hi : i < 3000) (hL : L < 3000) : (nI L - 5 < nI i) ↔ L < i + 5 := by
  rcases Nat.lt_or_ge L 5 with h | h
  · have : nI L - 5 < 0 := by
      rcases (show L = 0 ∨ L = 1 ∨ L = 2 ∨ L = 3 ∨ L = 4 by omega) with rfl | rfl | rfl | rfl | rfl <;> decide
    exact ⟨fun _ => by omega, fun _ => Int32.lt_of_lt_of_le this (nI_pos' (by omega))⟩
  · obtain ⟨k, rfl⟩ : ∃ k, L = k + 5 := ⟨L - 5, by omega⟩
    have e : nI (k + 5) - 5 = nI k := by
      rw [← nI_add k 5]
      exact Int32.add_sub_cancel _ _
    rw [e, nI_ltI (by omega) (by omega)]
    omega
section LWK
variable {X : EN} {D : va_G} {dT : Nat → ClassId} {ad : Nat → Nat} {ws : va_W} {lv : List (Nat × Value)} {ce sl pc : Nat} {st : List Value} {b m0 o o2 L : Nat} {xs : Nat → Int32} {Z : ZT}
theorem gw_pm {ws2 : va_W} (hp : ∀ H, va_P D vwCl ws H → va_P D vwCl ws2 H) (hd : ∀ A, va_D A ws → va_D A ws2) (hk : GW X D ws2 lv ce sl pc st) : GW X D ws lv ce sl pc st := by
  obtain ⟨p, l, e, R, s, m, args, below, meth, c, Q, nL2, A, H0⟩ := X
  intro H locs ls hP hD hS hl
  rw [pw_w] at hP hD
  exact hk H locs ls (by rw [pw_w]; exact hp H hP) (by rw [pw_w]; exact hd A hD) hS hl
theorem P_sw {a b : va_W} {H : Heap} (h : va_P D vwCl (a ++ b) H) : va_P D vwCl (b ++ a) H := va_P.app (P_r h) (P_l h)
theorem D_sw {A : Nat → Prop} {a b : va_W} (h : va_D A (a ++ b)) : va_D A (b ++ a) := va_D.app (D_r h) (D_l h) (fun i j x y hx hy e => D_x h j i y x hy hx e.symm)
theorem P_sw2 {a b c : va_W} {H : Heap} (h : va_P D vwCl (a ++ (b ++ c)) H) : va_P D vwCl (a ++ (c ++ b)) H := va_P.app (P_l h) (P_sw (P_r h))
theorem D_sw2 {A : Nat → Prop} {a b c : va_W} (h : va_D A (a ++ (b ++ c))) : va_D A (a ++ (c ++ b)) := va_D.app (D_l h) (D_sw (D_r h)) (fun i j x y hx hy e => by
  rcases List.mem_append.mp (List.mem_of_getElem? hy) with q | q
  · obtain ⟨k, hk⟩ := List.getElem?_of_mem q
    exact D_x h i _ x y hx (app_r hk) e
  · obtain ⟨k, hk⟩ := List.getElem?_of_mem q
    exact D_x h i k x y hx (app_l hk) e)
theorem l_new (hX : CX X D (tyL dT) cL_law RL wsL_law room_1 9) (kd : Nat) {ix m : Nat} {C : String} {T : u_T} {ty0 : Nat → FieldType} (hin : ∀ w ∈ u_ws C T m, w ∈ wsL_law) (hty : ∀ k, k < m → parseFieldDescriptor (T k).2.2.1 = some (ty0 k)) (hcl : Cond.classLink RL ix C ∈ wsL_law) (hinst : Cond.instantiable C m ∈ wsL_law) (hini : Cond.initialized C ∈ wsL_law) (hc : vwCl[kd]? = some (C, T, m)) (hdef : ∀ j, j < m → defaultValue (ty0 j) = vp_V (kmap (fun x => x) (fun _ => 0) (fun _ => none) (ksh kd) 0) j) (hce : ce + 1 ≤ 603072) (hsl : sl + m ≤ 7198825) (hdg : decode cL_law pc = .ok (.new ix, 3))
    (kk : ∀ q, GW X D (ws ++ [(q, .inr (kd, kmap (fun x => x) (fun _ => 0) (fun _ => none) (ksh kd) 0))]) lv (ce + 1) (sl + m) (pc + 3) (.ref q :: st)) : GW X D ws lv ce sl pc st := by
  obtain ⟨p, l, e, R, s, m9, args, below, meth, c, Q, nL2, A, H0⟩ := X
  obtain ⟨hx, hb, hml, hown, hts, hK, hA, rfl, rfl, hlk⟩ := hX
  intro H locs ls hP hD hS hl
  rw [pw_w] at hP hD
  refine va_new (ci := kd) hx hb hts hin ty0 hty hown (hts _ hcl) (hts _ hinst) (hts _ hini) hK hP hD hS hA hc hdef hce hsl hdg (fun q H1 hP1 hD1 hS1 => ?_)
  exact kk q H1 locs ls (by rw [pw_w]; exact hP1) (by rw [pw_w]; exact hD1) hS1 hl
theorem l_newJ (hX : CX X D (tyL dT) cL_law RL wsL_law room_1 9) (hce : ce + 1 ≤ 603072) (hsl : sl + 1 ≤ 7198825) (harr : Cond.arrayClass .long ∈ wsL_law) (hdg : decode cL_law pc = .ok (.newarray .long, 2))
    (kk : ∀ q, GW X D (ws ++ [(q, eJ dT (fun _ => 0))]) lv (ce + 1) (sl + 1) (pc + 2) (.ref q :: st)) : GW X D ws lv ce sl pc (.int 1 :: st) := by
  obtain ⟨p, l, e, R, s, m, args, below, meth, c, Q, nL2, A, H0⟩ := X
  obtain ⟨hx, hb, hml, hown, hts, hK, hA, rfl, rfl, hlk⟩ := hX
  intro H locs ls hP hD hS hl
  rw [pw_w] at hP hD
  refine va_newa (atype := .long) (ty := .long) (N' := 1) (a0 := (1, .inr (.inl (fun _ => 0)))) hx hb (hts _ harr) rfl hK hP hD hS hA (fun cA => rfl) (by decide) (by decide) (by simp only [componentBytes]; omega) hce hsl hdg (fun q cA H1 hK1 hP1 hD1 hS1 => ?_)
  have e1 : cA = dT 27 := by
    have h1 : va_RA s cA .long := (hK1.2 ((tyL dT).length) (cA, .long) (by simp)).2
    have h2 : va_RA s (dT 27) .long := (hK.2 7 _ rfl).2
    exact Option.some.inj ((show s.vm.findClass _ = some cA from h1).symm.trans (show s.vm.findClass _ = some (dT 27) from h2))
  subst e1
  exact kk q H1 locs ls (by rw [pw_w]; exact hP1) (by rw [pw_w]; exact hD1) hS1 hl
theorem l_newD (hX : CX X D (tyL dT) cL_law RL wsL_law room_1 9) (hce : ce + 1 ≤ 603072) (hsl : sl + 1 ≤ 7198825) (harr : Cond.arrayClass .double ∈ wsL_law) (hdg : decode cL_law pc = .ok (.newarray .double, 2))
    (kk : ∀ q, GW X D (ws ++ [(q, eD dT (fun _ => 0))]) lv (ce + 1) (sl + 1) (pc + 2) (.ref q :: st)) : GW X D ws lv ce sl pc (.int 1 :: st) := by
  obtain ⟨p, l, e, R, s, m, args, below, meth, c, Q, nL2, A, H0⟩ := X
  obtain ⟨hx, hb, hml, hown, hts, hK, hA, rfl, rfl, hlk⟩ := hX
  intro H locs ls hP hD hS hl
  rw [pw_w] at hP hD
  refine va_newa (atype := .double) (ty := .double) (N' := 1) (a0 := (1, .inr (.inr (.inr (.inl (fun _ => 0)))))) hx hb (hts _ harr) rfl hK hP hD hS hA (fun cA => rfl) (by decide) (by decide) (by simp only [componentBytes]; omega) hce hsl hdg (fun q cA H1 hK1 hP1 hD1 hS1 => ?_)
  have e1 : cA = dT 28 := by
    have h1 : va_RA s cA .double := (hK1.2 ((tyL dT).length) (cA, .double) (by simp)).2
    have h2 : va_RA s (dT 28) .double := (hK.2 8 _ rfl).2
    exact Option.some.inj ((show s.vm.findClass _ = some cA from h1).symm.trans (show s.vm.findClass _ = some (dT 28) from h2))
  subst e1
  exact kk q H1 locs ls (by rw [pw_w]; exact hP1) (by rw [pw_w]; exact hD1) hS1 hl
/-- the class is made -/
theorem l_initC (hX : CX X D (tyL dT) cL_law RL wsL_law room_1 9) (hxw : SX X xcw) {w1 w2 : va_W} {q : Nat} (hce : ce + 35 ≤ 603072) (hsl : sl + 2613 ≤ 7198825) (h1 : Cond.initialized RX6 ∈ wsL_law) (h2 : Cond.methodLink RL 132 yX6_init ∈ wsL_law) (h3 : Cond.instanceMethod yX6_init ∈ wsL_law) (hst : (st.map fun v => v.category).sum ≤ 8) (hdg : decode cL_law pc = .ok (.invokespecial 132, 3))
    (kk : ∀ (a : Nat → Nat) (J : Nat → Nat → Int32), a 0 = q → INI J → GW X D (w1 ++ pw a cL (kf dT a J) ++ w2) lv (ce + 35) (sl + 2613) (pc + 3) st) : GW X D (w1 ++ [(q, .inr (10, kmap (fun x => x) (fun _ => 0) (fun _ => none) (ksh 10) 0))] ++ w2) lv ce sl pc (.ref q :: st) := by
  obtain ⟨p, l, e, R, s, m, args, below, meth, c, Q, nL2, A, H0⟩ := X
  obtain ⟨hx, hb, hml, hown, hts, hK, hA, rfl, rfl, hlk⟩ := hX
  intro H locs ls hP hD hS hl
  rw [pw_w] at hP hD
  have e0 : ([(q, .inr (10, kmap (fun x => x) (fun _ => 0) (fun _ => none) (ksh 10) 0))] : va_W) = pw (fun _ => q) [0] (pf dT cK cN I0c (fun _ _ => none) (fun _ => q)) := by
    have he : pf dT cK cN I0c (fun _ _ => none) (fun _ => q) 0 = .inr (10, kmap (fun x => x) (fun _ => 0) (fun _ => none) (ksh 10) 0) := by
      rw [pf_obj (kd := 10) rfl (by decide)]
      exact congrArg (fun z => (Sum.inr (10, z) : va_E)) ((kmap_ext (I2 := fun _ => 0) (R2 := fun _ => none) (ksh 10) 0 (fun j _ => rfl) (fun j _ => rfl)).trans (kmap_ad (ad2 := fun x => x) (fun k j (h : (none : Option Nat) = some j) => (nomatch h)) (ksh 10) 0))
    show _ = [(q, pf dT cK cN I0c (fun _ _ => none) (fun _ => q) 0)]
    rw [he]
  rw [e0] at hP hD
  have hFc := fr_F hD hS hA
  have hPc := P_r (P_l hP)
  have hDc := D_r (D_l hD)
  refine va_callv (va_runI (As := []) (rest := st) ⟨hx, hb, hml, hown, hts⟩ (k_X6_init (D := D) (dT := dT) (fun _ => q) l H.size) (cwI 0 hts gL_law_X6_init rfl rfl rfl (hts _ h1) (hts _ h2) (hts _ h3) rfl hd_X6_init ⟨Nat.le_of_ble_eq_true rfl, Nat.le_of_ble_eq_true rfl⟩) ⟨fun a U g mk q => by obtain ⟨q0, ⟨q1, qP, qK, qD⟩, qX⟩ := q; exact ⟨q0, ⟨q1, qP, va_K.moved (u := U) (U := U.calling g mk a) (Vm.Alike.refl U.vm) qK, qD⟩, xcw_ok U (U.calling g mk a) (Or.inl rfl) qX⟩, fun U hU hW => ⟨rfl, ⟨by rw [hU], by rw [hU]; exact hPc, K_l (va_K.moved hW.alike hK), hDc.weaken (fun _ _ _ _ => trivial)⟩, xcw_ok s U (Or.inr hW) hxw⟩⟩ rfl rfl hl.1 rfl (lv_room hst) hdg ⟨hce, hsl⟩) hS (fun q _ h => hFc q h) hFc (fun u t H1 locs1 ht hvm hw2 hB hz1 hk1 hS1 => ?_)
  obtain ⟨hP1, hK1, hD1⟩ := hB
  rw [ht] at hP1
  obtain ⟨a, hag, J, rfl, hJ⟩ := hw2
  dsimp only at hP1 hD1
  obtain ⟨hP3, hD3⟩ := fr_W hP hD hk1 hFc hP1 hD1
  exact kk a J (hag 0 (List.mem_singleton.mpr rfl)) hJ H1 locs1 ls (by rw [pw_w]; exact hP3) (by rw [pw_w]; exact hD3) hS1 hl
/-- the reference is made -/
theorem l_initM (hX : CX X D (tyL dT) cL_law RL wsL_law room_1 9) (hL : XLX X Z) {w1 w2 : va_W} {q : Nat} (hce : ce + 18 ≤ 603072) (hsl : sl + 161 ≤ 7198825) (h1 : Cond.initialized RX8 ∈ wsL_law) (h2 : Cond.methodLink RL 135 yX8_init ∈ wsL_law) (h3 : Cond.instanceMethod yX8_init ∈ wsL_law) (hst : (st.map fun v => v.category).sum ≤ 8) (hdg : decode cL_law pc = .ok (.invokespecial 135, 3))
    (kk : ∀ (a : Nat → Nat) (J : Nat → Nat → Int32), a 0 = q → a 99999 = Z.1 → IN8 J → GW X D (w1 ++ pw a (mL S00z) (mf dT a J S00z) ++ w2) lv (ce + 18) (sl + 161) (pc + 3) st) : GW X D (w1 ++ [(q, .inr (12, kmap (fun x => x) (fun _ => 0) (fun _ => none) (ksh 12) 0))] ++ w2) lv ce sl pc (.ref q :: st) := by
  obtain ⟨p, l, e, R, s, m, args, below, meth, c, Q, nL2, A, H0⟩ := X
  obtain ⟨hx, hb, hml, hown, hts, hK, hA, rfl, rfl, hlk⟩ := hX
  obtain ⟨hXB, hNC, hXM, rfl, hl9⟩ := hL
  intro H locs ls hP hD hS hl
  rw [pw_w] at hP hD
  obtain ⟨a0, ha0, ha9⟩ : ∃ a0 : Nat → Nat, a0 0 = q ∧ a0 99999 = Z.1 := ⟨fun i => if i = 99999 then Z.1 else q, rfl, rfl⟩
  have e0 : ([(q, .inr (12, kmap (fun x => x) (fun _ => 0) (fun _ => none) (ksh 12) 0))] : va_W) = pw a0 [0] (pf dT mK mN I8z R8z a0) := by
    have he : pf dT mK mN I8z R8z a0 0 = .inr (12, kmap (fun x => x) (fun _ => 0) (fun _ => none) (ksh 12) 0) := by
      rw [pf_obj (kd := 12) rfl (by decide)]
      exact congrArg (fun z => (Sum.inr (12, z) : va_E)) ((kmap_ext (I2 := fun _ => 0) (R2 := fun _ => none) (ksh 12) 0 (fun j _ => rfl) (fun j _ => rfl)).trans (kmap_ad (ad2 := fun x => x) (fun k j (h : (none : Option Nat) = some j) => (nomatch h)) (ksh 12) 0))
    show _ = [(a0 0, pf dT mK mN I8z R8z a0 0)]
    rw [he, ha0]
  rw [e0] at hP hD
  have hFc := fr_F hD hS hA
  have hPc := P_r (P_l hP)
  have hDc := D_r (D_l hD)
  refine va_callv (va_runI (As := []) (rest := st) ⟨hx, hb, hml, hown, hts⟩ (k_X8_init (D := D) (dT := dT) (Z := Z) (ad := a0) ha9 l H.size) (cwI 0 hts gL_law_X8_init rfl rfl rfl (hts _ h1) (hts _ h2) (hts _ h3) rfl hd_X8_init.2 ⟨Nat.le_of_ble_eq_true rfl, Nat.le_of_ble_eq_true rfl⟩) ⟨fun a U g mk q => by obtain ⟨q0, ⟨q1, qP, qK, qD⟩, qX⟩ := q; exact ⟨q0, ⟨q1, qP, va_K.moved (u := U) (U := U.calling g mk a) (Vm.Alike.refl U.vm) qK, qD⟩, XM.moved (u := U) (U := U.calling g mk a) rfl qX⟩, fun U hU hW => ⟨rfl, ⟨by rw [hU], by rw [hU]; exact hPc, K_l (va_K.moved hW.alike hK), hDc.weaken (fun _ _ _ _ => trivial)⟩, by rw [hU]; exact XM.call hW (fun a h1 h2 => hS.2.1 a h1 h2) hFc hXM⟩⟩ rfl rfl hl.1 (by rw [ha0]; rfl) (lv_room hst) hdg ⟨hce, hsl⟩) hS (fun q _ h => hFc q h) hFc (fun u t H1 locs1 ht hvm hw2 hB hz1 hk1 hS1 => ?_)
  obtain ⟨hP1, hK1, hD1⟩ := hB
  rw [ht] at hP1
  obtain ⟨a, hag, J, hJ, rfl⟩ := hw2
  dsimp only at hP1 hD1
  obtain ⟨hP3, hD3⟩ := fr_W hP hD hk1 hFc hP1 hD1
  exact kk a J ((hag 0 (Or.inl (List.mem_singleton.mpr rfl)) (by decide) (Or.inl (by decide))).trans ha0) (AGm_z hag ha9) hJ H1 locs1 ls (by rw [pw_w]; exact hP3) (by rw [pw_w]; exact hD3) hS1 hl
/-- one turn -/
theorem l_turn (hX : CX X D (tyL dT) cL_law RL wsL_law room_1 9) (hL : XLX X Z) (hs : XSX X b L xs) {i : Nat} (hi : i + 5 ≤ L) (hL2 : L ≤ 2560) {ce sl : Nat} (hce : ce + 862 ≤ 603072) (hsl : sl + 5100 ≤ 7198825) (hN : NX X D dT Z ad b m0 o o2 (nI i) 2327 (ce + 862) (sl + 5100)) (k : Nat) (hk : k < 64) {I M : Nat → Nat → Int32} {S : SZ} {g : Nat → Int64} {g2 : Nat → UInt64} {ad8 : Nat → Nat} (hr : REL I M S) (h8 : ad8 0 = m0) (h9 : ad8 99999 = Z.1) : GW X D (LW dT ad I o g o2 g2 ad8 M S) (lvW b (ad 0) m0 o o2 (nI i)) ce sl 44 [.int (nI k)] := by
  rcases (show k = 0 ∨ k = 1 ∨ k = 2 ∨ k = 3 ∨ k = 4 ∨ k = 5 ∨ k = 6 ∨ k = 7 ∨ k = 8 ∨ k = 9 ∨ k = 10 ∨ k = 11 ∨ k = 12 ∨ k = 13 ∨ k = 14 ∨ k = 15 ∨ k = 16 ∨ k = 17 ∨ k = 18 ∨ k = 19 ∨ k = 20 ∨ k = 21 ∨ k = 22 ∨ k = 23 ∨ k = 24 ∨ k = 25 ∨ k = 26 ∨ k = 27 ∨ k = 28 ∨ k = 29 ∨ k = 30 ∨ k = 31 ∨ k = 32 ∨ k = 33 ∨ k = 34 ∨ k = 35 ∨ k = 36 ∨ 37 ≤ k by omega) with rfl | rfl | rfl | rfl | rfl | rfl | rfl | rfl | rfl | rfl | rfl | rfl | rfl | rfl | rfl | rfl | rfl | rfl | rfl | rfl | rfl | rfl | rfl | rfl | rfl | rfl | rfl | rfl | rfl | rfl | rfl | rfl | rfl | rfl | rfl | rfl | rfl | hk2
  · exact l_tabIn hX (off := 164) 208 dL_law_44 (by decide) (by decide) rfl (by decide) (lc_roll hX hL hs hi hL2 hce hsl hN hr h8 h9)
  · exact l_tabIn hX (off := 208) 252 dL_law_44 (by decide) (by decide) rfl (by decide) (lc_punch hX hL hs hi hL2 hce hsl hN hr h8 h9)
  · exact l_tabIn hX (off := 323) 367 dL_law_44 (by decide) (by decide) rfl (by decide) (lc_hole hX hL hs hi hL2 hce hsl hN hr h8 h9)
  · exact l_tabIn hX (off := 410) 454 dL_law_44 (by decide) (by decide) rfl (by decide) (lc_length hX hL hs hi hL2 hce hsl hN hr h8 h9)
  · exact l_tabIn hX (off := 466) 510 dL_law_44 (by decide) (by decide) rfl (by decide) (lc_holes hX hL hs hi hL2 hce hsl hN hr h8 h9)
  · exact l_tabIn hX (off := 534) 578 dL_law_44 (by decide) (by decide) rfl (by decide) (lc_copy hX hL hs hi hL2 hce hsl hN hr h8 h9)
  · exact l_tabIn hX (off := 590) 634 dL_law_44 (by decide) (by decide) rfl (by decide) (lc_unlike hX hL hs hi hL2 hce hsl hN hr h8 h9)
  · exact l_tabIn hX (off := 658) 702 dL_law_44 (by decide) (by decide) rfl (by decide) (lc_parent hX hL hs hi hL2 hce hsl hN hr h8 h9)
  · exact l_tabIn hX (off := 714) 758 dL_law_44 (by decide) (by decide) rfl (by decide) (lc_note hX hL hs hi hL2 hce hsl hN hr h8 h9)
  · exact l_tabIn hX (off := 794) 838 dL_law_44 (by decide) (by decide) rfl (by decide) (lc_wipe hX hL hs hi hL2 hce hsl hN hr h8 h9)
  · exact l_tabIn hX (off := 807) 851 dL_law_44 (by decide) (by decide) rfl (by decide) (lc_arrange hX hL hs hi hL2 hce hsl hN hr h8 h9)
  · exact l_tabIn hX (off := 891) 935 dL_law_44 (by decide) (by decide) rfl (by decide) (lc_scanned hX hL hs hi hL2 hce hsl hN hr h8 h9)
  · exact l_tabIn hX (off := 947) 991 dL_law_44 (by decide) (by decide) rfl (by decide) (lc_scan hX hL hs hi hL2 hce hsl hN hr h8 h9)
  · exact l_tabIn hX (off := 1029) 1073 dL_law_44 (by decide) (by decide) rfl (by decide) (lc_isMusic hX hL hs hi hL2 hce hsl hN hr h8 h9)
  · exact l_tabIn hX (off := 1092) 1136 dL_law_44 (by decide) (by decide) rfl (by decide) (lc_valve hX hL hs hi hL2 hce hsl hN hr h8 h9)
  · exact l_tabIn hX (off := 1172) 1216 dL_law_44 (by decide) (by decide) rfl (by decide) (lc_use hX hL hs hi hL2 hce hsl hN hr h8 h9)
  · exact l_tabIn hX (off := 1240) 1284 dL_law_44 (by decide) (by decide) rfl (by decide) (lc_borrow hX hL hs hi hL2 hce hsl hN hr h8 h9)
  · exact l_tabIn hX (off := 1308) 1352 dL_law_44 (by decide) (by decide) rfl (by decide) (lc_set hX hL hs hi hL2 hce hsl hN hr h8 h9)
  · exact l_tabIn hX (off := 1378) 1422 dL_law_44 (by decide) (by decide) rfl (by decide) (lc_maker hX hL hs hi hL2 hce hsl hN hr h8 h9)
  · exact l_tabIn hX (off := 1436) 1480 dL_law_44 (by decide) (by decide) rfl (by decide) (lc_load hX hL hs hi hL2 hce hsl hN hr h8 h9)
  · exact l_tabIn hX (off := 1492) 1536 dL_law_44 (by decide) (by decide) rfl (by decide) (lc_aside hX hL hs hi hL2 hce hsl hN hr h8 h9)
  · exact l_tabIn hX (off := 1548) 1592 dL_law_44 (by decide) (by decide) rfl (by decide) (lc_tick hX hL hs hi hL2 hce hsl hN hr h8 h9)
  · exact l_tabIn hX (off := 1604) 1648 dL_law_44 (by decide) (by decide) rfl (by decide) (lc_isPlaying hX hL hs hi hL2 hce hsl hN hr h8 h9)
  · exact l_tabIn hX (off := 1617) 1661 dL_law_44 (by decide) (by decide) rfl (by decide) (lc_row hX hL hs hi hL2 hce hsl hN hr h8 h9)
  · exact l_tabIn hX (off := 1661) 1705 dL_law_44 (by decide) (by decide) rfl (by decide) (lc_suction hX hL hs hi hL2 hce hsl hN hr h8 h9)
  · exact l_tabIn hX (off := 1705) 1749 dL_law_44 (by decide) (by decide) rfl (by decide) (lc_level hX hL hs hi hL2 hce hsl hN hr h8 h9)
  · exact l_tabIn hX (off := 1749) 1793 dL_law_44 (by decide) (by decide) rfl (by decide) (lc_isOpen hX hL hs hi hL2 hce hsl hN hr h8 h9)
  · exact l_tabIn hX (off := 1812) 1856 dL_law_44 (by decide) (by decide) rfl (by decide) (lc_isHeard hX hL hs hi hL2 hce hsl hN hr h8 h9)
  · exact l_tabIn hX (off := 1875) 1919 dL_law_44 (by decide) (by decide) rfl (by decide) (lc_soundings hX hL hs hi hL2 hce hsl hN hr h8 h9)
  · exact l_tabIn hX (off := 1888) 1932 dL_law_44 (by decide) (by decide) rfl (by decide) (lc_sounding hX hL hs hi hL2 hce hsl hN hr h8 h9)
  · exact l_tabIn hX (off := 1958) 2002 dL_law_44 (by decide) (by decide) rfl (by decide) (lc_loudest hX hL hs hi hL2 hce hsl hN hr h8 h9)
  · exact l_tabIn hX (off := 2002) 2046 dL_law_44 (by decide) (by decide) rfl (by decide) (lc_speed hX hL hs hi hL2 hce hsl hN hr h8 h9)
  · exact l_tabIn hX (off := 2070) 2114 dL_law_44 (by decide) (by decide) rfl (by decide) (lc_time hX hL hs hi hL2 hce hsl hN hr h8 h9)
  · exact l_tabIn hX (off := 2125) 2169 dL_law_44 (by decide) (by decide) rfl (by decide) (lc_checksum hX hL hs hi hL2 hce hsl hN hr h8 h9)
  · exact l_tabIn hX (off := 2139) 2183 dL_law_44 (by decide) (by decide) rfl (by decide) (lc_heardShare hX hL hs hi hL2 hce hsl hN hr h8 h9)
  · exact l_tabIn hX (off := 2205) 2249 dL_law_44 (by decide) (by decide) rfl (by decide) (lc_meanLoud hX hL hs hi hL2 hce hsl hN hr h8 h9)
  · exact l_tabIn hX (off := 2270) 2314 dL_law_44 (by decide) (by decide) rfl (by decide) (lc_isSound hX hL hs hi hL2 hce hsl hN hr h8 h9)
  · exact l_tabOut hX 2327 dL_law_44 (Or.inr (by rw [nI_toInt (by omega)]; omega)) (by decide) (g_widen (by omega) (by omega) (hN I M S ad8 g g2 hr h8 h9))
theorem l_loop (hX : CX X D (tyL dT) cL_law RL wsL_law room_1 9) (hL : XLX X Z) (hs : XSX X b L xs) (hL2 : L ≤ 2560) (hend : ∀ (ws : va_W) (lv : List (Nat × Value)) (ce sl : Nat), ce ≤ 603072 → sl ≤ 7198825 → GW X D ws lv ce sl 2334 [.int 1]) : ∀ (n i ce sl : Nat), i ≤ 2560 + 5 → L < i + 5 * n + 5 → ce + 862 * n ≤ 603072 → sl + 5100 * n ≤ 7198825 → NX X D dT Z ad b m0 o o2 (nI i) 28 ce sl := by
  intro n
  induction n with
  | zero =>
    intro i ce sl hi hn hce hsl I M S ad8 g g2 hr h8 h9
    refine g_iload hX 0 rfl dL_law_28 ?_
    refine g_aload_n hX 5 rfl dL_law_30 rfl ?_
    refine l_slen hX hs dL_law_31 ?_
    refine g_iconst hX 5 dL_law_32 rfl ?_
    refine g_isub hX dL_law_33 ?_
    refine g_icmp_gt (tgt := 2333) hX dL_law_34 (by decide) (fun _ => ?_) (fun c => absurd ((nI_ge5 (by omega) (by omega)).mpr (by omega)) c)
    refine g_iconst hX 1 dL_law_2333 rfl ?_
    exact hend _ _ _ _ (by omega) (by omega)
  | succ n ih =>
    intro i ce sl hi hn hce hsl I M S ad8 g g2 hr h8 h9
    have hc3 : ce + 862 + 862 * n ≤ 603072 := by omega
    have hc4 : sl + 5100 + 5100 * n ≤ 7198825 := by omega
    have hc1 : ce + 862 ≤ 603072 := Nat.le_trans (Nat.le_add_right _ _) hc3
    have hc2 : sl + 5100 ≤ 7198825 := Nat.le_trans (Nat.le_add_right _ _) hc4
    refine g_iload hX 0 rfl dL_law_28 ?_
    refine g_aload_n hX 5 rfl dL_law_30 rfl ?_
    refine l_slen hX hs dL_law_31 ?_
    refine g_iconst hX 5 dL_law_32 rfl ?_
    refine g_isub hX dL_law_33 ?_
    refine g_icmp_gt (tgt := 2333) hX dL_law_34 (by decide) (fun _ => ?_) (fun c => ?_)
    · refine g_iconst hX 1 dL_law_2333 rfl ?_
      exact hend _ _ _ _ (by omega) (by omega)
    · have hi5 : i + 5 ≤ L := by
        rcases Nat.lt_or_ge L (i + 5) with q | q
        · exact absurd ((nI_ge5 (by omega) (by omega)).mpr q) c
        · exact q
      refine g_aload_n hX 5 rfl dL_law_37 rfl ?_
      refine g_iload hX 0 rfl dL_law_38 ?_
      refine l_sld hX hs (g_vin (by omega) (by omega)) dL_law_40 ?_
      refine g_bipush hX 63 dL_law_41 rfl ?_
      refine g_iand hX dL_law_43 ?_
      obtain ⟨k, hk, ek⟩ := and63 (xs (nI i).toNatClampNeg)
      refine g_eqi ek ?_
      refine l_turn hX hL hs hi5 hL2 (ce := ce) (sl := sl) hc1 hc2 (fun J Q T a8 g3 g4 hr2 h82 h92 => ?_) k hk hr h8 h9
      refine g_iinc hX (k := 0) (n := 5) (nI (i + 5)) (lvW b (ad 0) m0 o o2 (nI (i + 5))) rfl (by rw [show Int32.ofInt 5 = nI 5 from by decide]; exact nI_add i 5) rfl dL_law_2327 (by decide) ?_
      refine g_goto (tgt := 28) hX dL_law_2330 (by decide) ?_
      exact ih (i + 5) (ce + 862) (sl + 5100) (by omega) (by omega) hc3 hc4 J Q T a8 g3 g4 hr2 h82 h92
end LWK
