abbrev rm_X8_scanned : Room := { frames := 8, cells := 817, slots := 4871, locals := 218 }
theorem hd_X8_scanned : yX8_scanned.cls = RX8 ∧ yX8_scanned.cls ≠ "java/lang/invoke/MethodHandle" ∧ yX8_scanned.cls ≠ "java/lang/invoke/VarHandle" ∧ (parseMethodDescriptor yX8_scanned.desc).map (fun d => d.parameters.length) = some 1 := by decide +kernel
set_option maxRecDepth 100000 in
set_option maxHeartbeats 4000000 in
theorem k_X8_scanned {D : va_G} {dT : Nat → ClassId} {Z : ZT} {ad : Nat → Nat} (M : Nat → Nat → Int32) (S : SZ) (hS : WS S) (hw1 : M 1 2 = nI S.1) (hw2 : M 2 2 = nI S.2.1) (hw3 : M 3 2 = nI S.2.2.1) (hz : ad 99999 = Z.1) (v : Int32) : ∀ l8, BI l8 yX8_scanned wsX8_scanned rm_X8_scanned D (tyl dT) Z ad (mL S) (pf dT mK mN M (mR S) ad) [.ref (ad 0), .int v] 817 4871 (fun r u => (∃ ad2, AGm (mL S) ad ad2 ∧ u = (ad2, mL S, mf dT ad2 (up2 M 0 15 (r1C S v)) S)) ∧ (if r1C S v = 0 then nI (scA (up2 M 0 15 0) v.toNatClampNeg 200).length else 0) = r) := by
  intro l9
  refine bi_of (own := RX8) (cc := cX8_scanned) (maxL := 2) (some .int) [(0, .ref (ad 0)), (1, .int v)] (by decide) rfl rfl rfl (Nat.le_of_ble_eq_true rfl) ?_
  intro X hX hE hN hM
  have hS1 := hS.1
  have hS2 := hS.2.1
  have hS3 := hS.2.2.1
  refine g_aload_n hX 0 rfl dX8_scanned_0 rfl ?_
  refine g_aload_n hX 0 rfl dX8_scanned_1 rfl ?_
  refine g_iload_n hX 1 rfl dX8_scanned_2 rfl ?_
  refine b_callI_V hX hM (b := 0) [.int v] (m_lo (by decide)) (pf_obj rfl (by decide)) rfl (k_X8_isRoll (m_lo (by decide)) rfl (m_lo (by decide)) rfl rfl v) gX8_scanned_X8_isRoll rfl rfl rfl hd_X8_isRoll ⟨Nat.le_of_ble_eq_true rfl, Nat.le_of_ble_eq_true rfl⟩ ⟨Nat.le_of_ble_eq_true rfl, Nat.le_of_ble_eq_true rfl⟩ rfl (Nat.le_of_ble_eq_true rfl) dX8_scanned_3 (fun r9 ad9 L9 f9 hp9 => ?_)
  obtain ⟨he9, hr9⟩ := hp9
  cases he9
  subst hr9
  refine g_eqi (y := isi v 0 (nI S.1 - 1)) (by rw [hw1]) ?_
  refine g_iconst hX (1) dX8_scanned_6 rfl ?_
  refine b_callI_V hX hM (b := 0) [.int (isi v 0 (nI S.1 - 1)), .int 1] (m_lo (by decide)) (pf_obj rfl (by decide)) rfl (k_X8_no (m_lo (by decide)) rfl (isi v 0 (nI S.1 - 1)) 1) gX8_scanned_X8_no rfl rfl rfl hd_X8_no ⟨Nat.le_of_ble_eq_true rfl, Nat.le_of_ble_eq_true rfl⟩ ⟨Nat.le_of_ble_eq_true rfl, Nat.le_of_ble_eq_true rfl⟩ rfl (Nat.le_of_ble_eq_true rfl) dX8_scanned_7 (fun r9 ad9 L9 f9 hp9 => ?_)
  obtain ⟨he9, hr9⟩ := hp9
  cases he9
  subst hr9
  refine g_if_eq (tgt := 17) hX dX8_scanned_10 (by decide) (fun c_10 => ?_) (fun c_10 => ?_)
  · have c_10 := z10 c_10
    rw [show (up2 M 0 15 (if (isi v 0 (nI S.1 - 1)) = 0 then 1 else 0)) = up2 M 0 15 0 from by simp [up2_ss, c_10]]
    obtain ⟨j, hj, rfl⟩ := isi_n c_10 (by have := hS.1; omega)
    refine g_aload_n hX 0 rfl dX8_scanned_17 rfl ?_
    refine g_iload_n hX 1 rfl dX8_scanned_18 rfl ?_
    refine b_callQ_V hX hM (b := 0) [.int (nI j)] (m_lo (by decide)) (pf_obj rfl (by decide)) rfl (k_X8_scan (up2 M 0 15 0) S hS ((up2_n (Or.inl (by decide))).trans hw1) ((up2_n (Or.inl (by decide))).trans hw2) ((up2_n (Or.inl (by decide))).trans hw3) hz j hj) gX8_scanned_X8_scan rfl rfl rfl hd_X8_scan ⟨Nat.le_of_ble_eq_true rfl, Nat.le_of_ble_eq_true rfl⟩ ⟨Nat.le_of_ble_eq_true rfl, Nat.le_of_ble_eq_true rfl⟩ rfl (Nat.le_of_ble_eq_true rfl) dX8_scanned_19 (fun r9 a1 L9 f9 hp9 => ?_)
    obtain ⟨x9, ga1, he9, hr9⟩ := hp9
    cases he9
    subst hr9
    have aga1 : AGm (mL S) ad a1 := AGm_tr AGm_rf ga1 (fun _ h => h)
    refine g_lvs (lv2 := [(0, .ref (a1 0)), (1, .int (nI j))]) (st2 := [.ref (a1 8)]) (by rw [← ga1 0 (Or.inl (m_lo (by decide))) (by decide) (Or.inl (by decide))]) rfl ?_
    have hna1 : (scA (up2 M 0 15 0) j 200).length ≤ 804 := scA_804' _ _
    refine b_callI_F hX hM (b := 8) [] (scL_mem.mpr (Or.inr (Or.inl rfl))) (pf_obj rfl (by decide)) rfl (k_Jx4a65c_size_8abf5 8 (scL_mem.mpr (Or.inr (Or.inl rfl))) rfl) gX8_scanned_Jx4a65c_size_8abf5_f54Jx4a65c (by decide +kernel) rfl rfl rfl hdF_size ⟨Nat.le_of_ble_eq_true rfl, Nat.le_of_ble_eq_true rfl⟩ ⟨Nat.le_of_ble_eq_true rfl, Nat.le_of_ble_eq_true rfl⟩ rfl (Nat.le_of_ble_eq_true rfl) dX8_scanned_22 (fun r9 ad9 L9 f9 hp9 => ?_)
    obtain ⟨he9, hr9⟩ := hp9
    cases he9
    subst hr9
    refine g_eqi (y := (nI (scA (up2 M 0 15 0) j 200).length)) scI_82 ?_
    refine g_L (L2 := mL S) (fun i hi => scL_mem.mpr (Or.inl hi)) mL_nd ?_
    refine g_f (g := pf dT mK mN (up2 M 0 15 0) (mR S) a1) (fun i hi => (pf_I (scI_n (xs := (scA (up2 M 0 15 0) j 200)) (mL_84 hS hi).1 (mL_mem.mp hi).1)).trans (pf_R (scR_n (mL_84 hS hi).1 (mL_84 hS hi).2 hna1))) ?_
    refine b_iret hX hE dX8_scanned_27 (by omega) (by omega) ?_
    exact ⟨⟨_, aga1, congrArg (fun z => (a1, mL S, mf dT a1 z S)) (by simp [r1C, c_10])⟩, by simp [r1C, c_10, nI_clamp (n := j) (by have := hS.1; omega)]⟩
  · have c_10 := z11 c_10
    refine g_iconst hX (0) dX8_scanned_13 rfl ?_
    refine g_goto (tgt := 27) hX dX8_scanned_14 (by decide) ?_
    refine b_iret hX hE dX8_scanned_27 (by omega) (by omega) ?_
    exact ⟨⟨_, AGm_rf, congrArg (fun z => (ad, mL S, mf dT ad z S)) (by simp [r1C, c_10])⟩, by simp [r1C, c_10]⟩
abbrev rm_X8_scan_ : Room := { frames := 8, cells := 817, slots := 4871, locals := 218 }
theorem hd_X8_scan_ : yX8_scan_.cls = RX8 ∧ yX8_scan_.cls ≠ "java/lang/invoke/MethodHandle" ∧ yX8_scan_.cls ≠ "java/lang/invoke/VarHandle" ∧ (parseMethodDescriptor yX8_scan_.desc).map (fun d => d.parameters.length) = some 3 := by decide +kernel
set_option maxRecDepth 100000 in
set_option maxHeartbeats 4000000 in
theorem k_X8_scan_ {D : va_G} {dT : Nat → ClassId} {Z : ZT} {ad : Nat → Nat} (M : Nat → Nat → Int32) (S : SZ) (hS : WS S) (hw1 : M 1 2 = nI S.1) (hw2 : M 2 2 = nI S.2.1) (hw3 : M 3 2 = nI S.2.2.1) (hz : ad 99999 = Z.1) (v x w : Int32) : ∀ l8, BI l8 yX8_scan_ wsX8_scan_ rm_X8_scan_ D (tyl dT) Z ad (mL S) (pf dT mK mN M (mR S) ad) [.ref (ad 0), .int v, .int x, .int w] 817 4871 (fun r u => (∃ ad2, AGm (mL S) ad ad2 ∧ u = (ad2, mL S, mf dT ad2 (up2 M 0 15 (scC S (up2 M 0 15 0) v x w)) S)) ∧ (if scC S (up2 M 0 15 0) v x w = 0 then scq (scA (up2 M 0 15 0) v.toNatClampNeg 200) x.toNatClampNeg (ixS 0 w).toNatClampNeg else 0) = r) := by
  intro l9
  refine bi_of (own := RX8) (cc := cX8_scan_) (maxL := 5) (some .int) [(0, .ref (ad 0)), (1, .int v), (2, .int x), (3, .int w)] (by decide) rfl rfl rfl (Nat.le_of_ble_eq_true rfl) ?_
  intro X hX hE hN hM
  have q_w1 : Cond.classLink RX8 117 "[I" ∈ wsX8_scan_ := List.mem_of_getElem? (i := 1) rfl
  have hS1 := hS.1
  have hS2 := hS.2.1
  have hS3 := hS.2.2.1
  refine g_aload_n hX 0 rfl dX8_scan__0 rfl ?_
  refine g_aload_n hX 0 rfl dX8_scan__1 rfl ?_
  refine g_iload_n hX 1 rfl dX8_scan__2 rfl ?_
  refine b_callI_V hX hM (b := 0) [.int v] (m_lo (by decide)) (pf_obj rfl (by decide)) rfl (k_X8_isRoll (m_lo (by decide)) rfl (m_lo (by decide)) rfl rfl v) gX8_scan__X8_isRoll rfl rfl rfl hd_X8_isRoll ⟨Nat.le_of_ble_eq_true rfl, Nat.le_of_ble_eq_true rfl⟩ ⟨Nat.le_of_ble_eq_true rfl, Nat.le_of_ble_eq_true rfl⟩ rfl (Nat.le_of_ble_eq_true rfl) dX8_scan__3 (fun r9 ad9 L9 f9 hp9 => ?_)
  obtain ⟨he9, hr9⟩ := hp9
  cases he9
  subst hr9
  refine g_eqi (y := isi v 0 (nI S.1 - 1)) (by rw [hw1]) ?_
  refine g_iconst hX (1) dX8_scan__6 rfl ?_
  refine b_callI_V hX hM (b := 0) [.int (isi v 0 (nI S.1 - 1)), .int 1] (m_lo (by decide)) (pf_obj rfl (by decide)) rfl (k_X8_no (m_lo (by decide)) rfl (isi v 0 (nI S.1 - 1)) 1) gX8_scan__X8_no rfl rfl rfl hd_X8_no ⟨Nat.le_of_ble_eq_true rfl, Nat.le_of_ble_eq_true rfl⟩ ⟨Nat.le_of_ble_eq_true rfl, Nat.le_of_ble_eq_true rfl⟩ rfl (Nat.le_of_ble_eq_true rfl) dX8_scan__7 (fun r9 ad9 L9 f9 hp9 => ?_)
  obtain ⟨he9, hr9⟩ := hp9
  cases he9
  subst hr9
  refine g_if_ne (tgt := 35) hX dX8_scan__10 (by decide) (fun c_10 => ?_) (fun c_10 => ?_)
  · have c_10 := z11 c_10
    refine g_iconst hX (0) dX8_scan__35 rfl ?_
    refine b_iret hX hE dX8_scan__36 (by omega) (by omega) ?_
    exact ⟨⟨_, AGm_rf, congrArg (fun z => (ad, mL S, mf dT ad z S)) (by simp [up2_ss, scC, c_10])⟩, by simp [scC, c_10]⟩
  · have c_10 := z10 c_10
    refine g_aload_n hX 0 rfl dX8_scan__13 rfl ?_
    refine b_ldcS hX hM rfl 0 (by decide) rfl dX8_scan__14 ?_
    refine g_iload_n hX 3 rfl dX8_scan__16 rfl ?_
    refine b_callI_VS hX hM (i := 0) (by decide) [.int w] (k_J0_indexOf_0f7a4 0 (by decide) w) gX8_scan__J0_indexOf_0f7a4 rfl rfl rfl hd_J0_indexOf_0f7a4 ⟨Nat.le_of_ble_eq_true rfl, Nat.le_of_ble_eq_true rfl⟩ ⟨Nat.le_of_ble_eq_true rfl, Nat.le_of_ble_eq_true rfl⟩ rfl (Nat.le_of_ble_eq_true rfl) dX8_scan__17 (fun r9 ad9 L9 f9 hp9 => ?_)
    obtain ⟨he9, hr9⟩ := hp9
    cases he9
    subst hr9
    refine g_eqi (y := ixS 0 w) rfl ?_
    refine g_if_lt (tgt := 27) hX dX8_scan__20 (by decide) (fun c_20 => ?_) (fun c_20 => ?_)
    · refine g_iconst hX (0) dX8_scan__27 rfl ?_
      refine g_iconst hX (2) dX8_scan__28 rfl ?_
      refine b_callI_V hX hM (b := 0) [.int 0, .int 2] (m_lo (by decide)) (pf_obj rfl (by decide)) rfl (k_X8_no (m_lo (by decide)) rfl 0 2) gX8_scan__X8_no rfl rfl rfl hd_X8_no ⟨Nat.le_of_ble_eq_true rfl, Nat.le_of_ble_eq_true rfl⟩ ⟨Nat.le_of_ble_eq_true rfl, Nat.le_of_ble_eq_true rfl⟩ rfl (Nat.le_of_ble_eq_true rfl) dX8_scan__29 (fun r9 ad9 L9 f9 hp9 => ?_)
      obtain ⟨he9, hr9⟩ := hp9
      cases he9
      subst hr9
      rw [show (if (0 : Int32) = 0 then (2 : Int32) else 0) = 2 from by decide]
      refine g_eqi (y := 1) (by decide) ?_
      refine g_if_eq (tgt := 37) hX dX8_scan__32 (by decide) (fun c_32 => ?_) (fun c_32 => ?_)
      · first | exact absurd c_32 (by decide) | exact absurd (by decide) c_32
      · refine g_iconst hX (0) dX8_scan__35 rfl ?_
        refine b_iret hX hE dX8_scan__36 (by omega) (by omega) ?_
        exact ⟨⟨_, AGm_rf, congrArg (fun z => (ad, mL S, mf dT ad z S)) (by simp [up2_ss, scC, c_10, c_20])⟩, by simp [scC, c_10, c_20]⟩
    · refine g_iconst hX (1) dX8_scan__23 rfl ?_
      refine g_goto (tgt := 28) hX dX8_scan__24 (by decide) ?_
      refine g_iconst hX (2) dX8_scan__28 rfl ?_
      refine b_callI_V hX hM (b := 0) [.int 1, .int 2] (m_lo (by decide)) (pf_obj rfl (by decide)) rfl (k_X8_no (m_lo (by decide)) rfl 1 2) gX8_scan__X8_no rfl rfl rfl hd_X8_no ⟨Nat.le_of_ble_eq_true rfl, Nat.le_of_ble_eq_true rfl⟩ ⟨Nat.le_of_ble_eq_true rfl, Nat.le_of_ble_eq_true rfl⟩ rfl (Nat.le_of_ble_eq_true rfl) dX8_scan__29 (fun r9 ad9 L9 f9 hp9 => ?_)
      obtain ⟨he9, hr9⟩ := hp9
      cases he9
      subst hr9
      rw [show (if (1 : Int32) = 0 then (2 : Int32) else 0) = 0 from by decide]
      refine g_eqi (y := 0) (by decide) ?_
      refine g_if_eq (tgt := 37) hX dX8_scan__32 (by decide) (fun c_32 => ?_) (fun c_32 => ?_)
      · rw [show (up2 (up2 M 0 15 (if (isi v 0 (nI S.1 - 1)) = 0 then 1 else 0)) 0 15 0) = up2 M 0 15 0 from by simp [up2_ss, c_10]]
        obtain ⟨j, hj, rfl⟩ := isi_n c_10 (by have := hS.1; omega)
        refine g_aload_n hX 0 rfl dX8_scan__37 rfl ?_
        refine g_iload_n hX 1 rfl dX8_scan__38 rfl ?_
        refine b_callQ_V hX hM (b := 0) [.int (nI j)] (m_lo (by decide)) (pf_obj rfl (by decide)) rfl (k_X8_scan (up2 M 0 15 0) S hS ((up2_n (Or.inl (by decide))).trans hw1) ((up2_n (Or.inl (by decide))).trans hw2) ((up2_n (Or.inl (by decide))).trans hw3) hz j hj) gX8_scan__X8_scan rfl rfl rfl hd_X8_scan ⟨Nat.le_of_ble_eq_true rfl, Nat.le_of_ble_eq_true rfl⟩ ⟨Nat.le_of_ble_eq_true rfl, Nat.le_of_ble_eq_true rfl⟩ rfl (Nat.le_of_ble_eq_true rfl) dX8_scan__39 (fun r9 a1 L9 f9 hp9 => ?_)
        obtain ⟨x9, ga1, he9, hr9⟩ := hp9
        cases he9
        subst hr9
        have aga1 : AGm (mL S) ad a1 := AGm_tr AGm_rf ga1 (fun _ h => h)
        refine g_lvs (lv2 := [(0, .ref (a1 0)), (1, .int (nI j)), (2, .int x), (3, .int w)]) (st2 := [.ref (a1 8)]) (by rw [← ga1 0 (Or.inl (m_lo (by decide))) (by decide) (Or.inl (by decide))]) rfl ?_
        have hna1 : (scA (up2 M 0 15 0) j 200).length ≤ 804 := scA_804' _ _
        refine g_astore hX [(4, .ref (a1 8)), (0, .ref (a1 0)), (1, .int (nI j)), (2, .int x), (3, .int w)] rfl dX8_scan__42 (by decide) ?_
        refine g_aload_n hX 1 rfl dX8_scan__44 rfl ?_
        refine g_iload_n hX 3 rfl dX8_scan__45 rfl ?_
        refine g_iconst hX (0) dX8_scan__46 rfl ?_
        refine g_aload hX 0 rfl dX8_scan__47 ?_
        refine b_callI_F hX hM (b := 8) [] (scL_mem.mpr (Or.inr (Or.inl rfl))) (pf_obj rfl (by decide)) rfl (k_Jx4a65c_size_8abf5 8 (scL_mem.mpr (Or.inr (Or.inl rfl))) rfl) gX8_scan__Jx4a65c_size_8abf5_f54Jx4a65c (by decide +kernel) rfl rfl rfl hdF_size ⟨Nat.le_of_ble_eq_true rfl, Nat.le_of_ble_eq_true rfl⟩ ⟨Nat.le_of_ble_eq_true rfl, Nat.le_of_ble_eq_true rfl⟩ rfl (Nat.le_of_ble_eq_true rfl) dX8_scan__49 (fun r9 ad9 L9 f9 hp9 => ?_)
        obtain ⟨he9, hr9⟩ := hp9
        cases he9
        subst hr9
        refine g_eqi (y := (nI (scA (up2 M 0 15 0) j 200).length)) scI_82 ?_
        refine g_iconst hX (1) dX8_scan__54 rfl ?_
        refine g_isub hX dX8_scan__55 ?_
        refine b_callI_S hX hM [.int x, .int 0, .int ((nI (scA (up2 M 0 15 0) j 200).length) - 1)] (k_X8_isIn x 0 ((nI (scA (up2 M 0 15 0) j 200).length) - 1)) gX8_scan__X8_isIn rfl rfl rfl hd_X8_isIn.2 ⟨Nat.le_of_ble_eq_true rfl, Nat.le_of_ble_eq_true rfl⟩ ⟨Nat.le_of_ble_eq_true rfl, Nat.le_of_ble_eq_true rfl⟩ rfl (Nat.le_of_ble_eq_true rfl) dX8_scan__56 (fun r9 ad9 L9 f9 hp9 => ?_)
        obtain ⟨he9, hr9⟩ := hp9
        cases he9
        subst hr9
        refine g_iconst hX (3) dX8_scan__59 rfl ?_
        refine b_callI_V hX hM (b := 0) [.int (isi x 0 ((nI (scA (up2 M 0 15 0) j 200).length) - 1)), .int 3] (scL_mem.mpr (Or.inl (m_lo (by decide)))) (pf_obj rfl (by decide)) rfl (k_X8_no (scL_mem.mpr (Or.inl (m_lo (by decide)))) rfl (isi x 0 ((nI (scA (up2 M 0 15 0) j 200).length) - 1)) 3) gX8_scan__X8_no rfl rfl rfl hd_X8_no ⟨Nat.le_of_ble_eq_true rfl, Nat.le_of_ble_eq_true rfl⟩ ⟨Nat.le_of_ble_eq_true rfl, Nat.le_of_ble_eq_true rfl⟩ rfl (Nat.le_of_ble_eq_true rfl) dX8_scan__60 (fun r9 ad9 L9 f9 hp9 => ?_)
        obtain ⟨he9, hr9⟩ := hp9
        cases he9
        subst hr9
        refine g_if_eq (tgt := 70) hX dX8_scan__63 (by decide) (fun c_63 => ?_) (fun c_63 => ?_)
        · have c_63 := z10 c_63
          rw [show (up2 (scI (up2 M 0 15 0) (scA (up2 M 0 15 0) j 200)) 0 15 (if (isi x 0 ((nI (scA (up2 M 0 15 0) j 200).length) - 1)) = 0 then 3 else 0)) = (up2 (scI (up2 M 0 15 0) (scA (up2 M 0 15 0) j 200)) 0 15 0) from by simp [c_63]]
          obtain ⟨i, hi, rfl⟩ := isi_n c_63 (by have := hna1; omega)
          obtain ⟨k, hk, hik⟩ := ix_lt (i := 0) (by decide) c_20
          have hk3 : k < 3 := hk
          refine g_aload hX 0 rfl dX8_scan__70 ?_
          refine g_iload_n hX 3 rfl dX8_scan__72 rfl ?_
          refine b_callQ_F hX hM (b := 8) [.int (nI i)] (scL_mem.mpr (Or.inr (Or.inl rfl))) (pf_obj rfl (by decide)) rfl (v_get 8 ((scA (up2 M 0 15 0) j 200).length) 9000 i (LV_up (LV_8 (S := S) (M := (up2 M 0 15 0)) (xs := (scA (up2 M 0 15 0) j 200)) hna1) (fun _ h => h) (fun _ _ => rfl) (up2_n (Or.inl (by decide)))) hi) gX8_scan__Jx4a65c_get_915e3_f81Jx4a65c (by decide +kernel) rfl rfl rfl hdF_get ⟨Nat.le_of_ble_eq_true rfl, Nat.le_of_ble_eq_true rfl⟩ ⟨Nat.le_of_ble_eq_true rfl, Nat.le_of_ble_eq_true rfl⟩ rfl (Nat.le_of_ble_eq_true rfl) dX8_scan__73 (fun r9 ad9 L9 f9 hp9 => ?_)
          obtain ⟨he9, hr9⟩ := hp9
          cases he9
          subst hr9
          refine b_cast20 (i := (9000 + i)) hX (scL_mem.mpr (Or.inr (Or.inr (Or.inr ⟨_, hi, rfl⟩)))) (mK_h (by omega)) q_w1 dX8_scan__78 ?_
          refine b_ldcS hX hM rfl 0 (by decide) rfl dX8_scan__81 ?_
          refine g_iload_n hX 4 rfl dX8_scan__83 rfl ?_
          refine b_callI_VS hX hM (i := 0) (by decide) [.int w] (k_J0_indexOf_0f7a4 0 (by decide) w) gX8_scan__J0_indexOf_0f7a4 rfl rfl rfl hd_J0_indexOf_0f7a4 ⟨Nat.le_of_ble_eq_true rfl, Nat.le_of_ble_eq_true rfl⟩ ⟨Nat.le_of_ble_eq_true rfl, Nat.le_of_ble_eq_true rfl⟩ rfl (Nat.le_of_ble_eq_true rfl) dX8_scan__84 (fun r9 ad9 L9 f9 hp9 => ?_)
          obtain ⟨he9, hr9⟩ := hp9
          cases he9
          subst hr9
          refine g_eqi (y := nI k) hik ?_
          refine h_iald (i := (9000 + i)) hX k rfl (by rw [mN_t]; omega) (by rw [mN_t]; decide) (scL_mem.mpr (Or.inr (Or.inr (Or.inr ⟨_, hi, rfl⟩)))) (mK_h (by omega)) dX8_scan__87 ?_
          refine g_eqi (y := scq (scA (up2 M 0 15 0) j 200) i k) ((congrFun (up2_row (by omega)) k).trans (scI_q hi)) ?_
          refine g_lv [1, 2, 3, 4] rfl ?_
          refine g_lvs (lv2 := [(0, .ref (a1 0)), (1, .int (nI j)), (2, .int (nI i)), (3, .int w)]) (st2 := [.int (scq (scA (up2 M 0 15 0) j 200) i k)]) rfl rfl ?_
          refine g_L (L2 := mL S) (fun i hi => scL_mem.mpr (Or.inl hi)) mL_nd ?_
          refine g_f (g := pf dT mK mN (up2 (up2 M 0 15 0) 0 15 0) (mR S) a1) (fun i hi => (pf_I (up2_ext (scI_n (xs := (scA (up2 M 0 15 0) j 200)) (mL_84 hS hi).1 (mL_mem.mp hi).1))).trans (pf_R (scR_n (mL_84 hS hi).1 (mL_84 hS hi).2 hna1))) ?_
          refine b_iret hX hE dX8_scan__88 (by omega) (by omega) ?_
          exact ⟨⟨_, aga1, congrArg (fun z => (a1, mL S, mf dT a1 z S)) (by simp [up2_ss, scC, c_10, c_20, c_63, nI_clamp (n := j) (by have := hS.1; omega), hik, show ¬ nI k < 0 from nI_pos (by omega), nI_clamp (n := k) (by omega), nI_clamp (n := i) (by have := hna1; omega)])⟩, by simp [scC, c_10, c_20, c_63, nI_clamp (n := j) (by have := hS.1; omega), hik, show ¬ nI k < 0 from nI_pos (by omega), nI_clamp (n := k) (by omega), nI_clamp (n := i) (by have := hna1; omega)]⟩
        · have c_63 := z11 c_63
          refine g_iconst hX (0) dX8_scan__66 rfl ?_
          refine g_goto (tgt := 88) hX dX8_scan__67 (by decide) ?_
          refine g_lv [1, 2, 3, 4] rfl ?_
          refine g_lvs (lv2 := [(0, .ref (a1 0)), (1, .int (nI j)), (2, .int x), (3, .int w)]) (st2 := [.int 0]) rfl rfl ?_
          refine g_L (L2 := mL S) (fun i hi => scL_mem.mpr (Or.inl hi)) mL_nd ?_
          refine g_f (g := pf dT mK mN (up2 (up2 M 0 15 0) 0 15 (if (isi x 0 ((nI (scA (up2 M 0 15 0) j 200).length) - 1)) = 0 then 3 else 0)) (mR S) a1) (fun i hi => (pf_I (up2_ext (scI_n (xs := (scA (up2 M 0 15 0) j 200)) (mL_84 hS hi).1 (mL_mem.mp hi).1))).trans (pf_R (scR_n (mL_84 hS hi).1 (mL_84 hS hi).2 hna1))) ?_
          refine b_iret hX hE dX8_scan__88 (by omega) (by omega) ?_
          exact ⟨⟨_, aga1, congrArg (fun z => (a1, mL S, mf dT a1 z S)) (by simp [up2_ss, scC, c_10, c_20, c_63, nI_clamp (n := j) (by have := hS.1; omega)])⟩, by simp [scC, c_10, c_20, c_63, nI_clamp (n := j) (by have := hS.1; omega)]⟩
      · first | exact absurd c_32 (by decide) | exact absurd (by decide) c_32
abbrev rm_X8_areSame : Room := { frames := 0, cells := 0, slots := 0, locals := 0 }
theorem hd_X8_areSame : yX8_areSame.cls = RX8 ∧ yX8_areSame.cls ≠ "java/lang/invoke/MethodHandle" ∧ yX8_areSame.cls ≠ "java/lang/invoke/VarHandle" ∧ (parseMethodDescriptor yX8_areSame.desc).map (fun d => d.parameters.length) = some 2 := by decide +kernel
set_option maxRecDepth 100000 in
set_option maxHeartbeats 4000000 in
theorem k_X8_areSame {D : va_G} {dT : Nat → ClassId} {Z : ZT} {K N : Nat → Nat} {I : Nat → Nat → Int32} {Rr : Nat → Nat → Option Nat} {ad : Nat → Nat} {L : List Nat} (a b : Nat) (ha : a ∈ L) (hka : K a = 20) (hna : N a = 3) (hb : b ∈ L) (hkb : K b = 20) (hnb : N b = 3) : ∀ l8, BI l8 yX8_areSame wsX8_areSame rm_X8_areSame D (tyl dT) Z ad L (pf dT K N I Rr ad) [.ref (ad a), .ref (ad b)] 0 0 (fun r u => u = (ad, L, pf dT K N I Rr ad) ∧ asN I a b 3 = r) := by
  intro l9
  refine bi_of (own := RX8) (cc := cX8_areSame) (maxL := 4) (some .boolean) [(0, .ref (ad a)), (1, .ref (ad b))] (by decide) rfl rfl rfl (Nat.le_of_ble_eq_true rfl) ?_
  intro X hX hE hN hM
  refine g_aload_n hX 0 rfl dX8_areSame_0 rfl ?_
  refine g_alen20 (i := a) hX rfl (nI 3) ha hka (by rw [hna]; rfl) dX8_areSame_1 ?_
  refine g_aload_n hX 1 rfl dX8_areSame_2 rfl ?_
  refine g_alen20 (i := b) hX rfl (nI 3) hb hkb (by rw [hnb]; rfl) dX8_areSame_3 ?_
  refine g_icmp_ne (tgt := 11) hX dX8_areSame_4 (by decide) (fun c_4 => ?_) (fun c_4 => ?_)
  · exact absurd c_4 (by decide)
  · have c_4 := c_4
    refine g_iconst hX (1) dX8_areSame_7 rfl ?_
    refine g_goto (tgt := 12) hX dX8_areSame_8 (by decide) ?_
    refine g_istore_n hX [(2, .int 1), (0, .ref (ad a)), (1, .ref (ad b))] rfl dX8_areSame_12 rfl (by decide) ?_
    refine g_iconst hX (0) dX8_areSame_13 rfl ?_
    refine g_istore_n hX [(3, .int 0), (2, .int 1), (0, .ref (ad a)), (1, .ref (ad b))] rfl dX8_areSame_14 rfl (by decide) ?_
    have lp_15 : ∀ (n9 : Nat) (k : Nat) (q : Int32), 3 - k < n9 → (k ≤ 3) → (q = asN I a b k) → GG X D ad L (pf dT K N I Rr ad) [(3, .int (nI k)), (2, .int q), (0, .ref (ad a)), (1, .ref (ad b))] (0) (0) 15 [] := by
      intro n9
      induction n9 with
      | zero => intro k q h9; exact absurd h9 (Nat.not_lt_zero _)
      | succ n9 ih9 =>
        intro k q h9 hk hq
        have ih_15 := ih9
        refine g_iload_n hX 1 rfl dX8_areSame_15 rfl ?_
        refine g_if_eq (tgt := 46) hX dX8_areSame_16 (by decide) (fun c_16 => ?_) (fun c_16 => ?_)
        · refine g_iload_n hX 1 rfl dX8_areSame_46 rfl ?_
          refine b_zret hX (nz_01 (hq ▸ asN_01 I a b k)) hE dX8_areSame_47 (by omega) (by omega) ?_
          exact ⟨rfl, by rw [c_16]; exact asN_3 (hq.symm.trans c_16) hk⟩
        · refine g_iload_n hX 0 rfl dX8_areSame_19 rfl ?_
          refine g_aload_n hX 2 rfl dX8_areSame_20 rfl ?_
          refine g_alen20 (i := a) hX rfl (nI 3) ha hka (by rw [hna]; rfl) dX8_areSame_21 ?_
          refine g_icmp_ge (tgt := 46) hX dX8_areSame_22 (by decide) (fun c_22 => ?_) (fun c_22 => ?_)
          · have c_22 : 3 ≤ k := (nI_leI (a := 3) (b := k) (by omega) (by omega)).mp c_22
            refine g_iload_n hX 1 rfl dX8_areSame_46 rfl ?_
            refine b_zret hX (nz_01 (hq ▸ asN_01 I a b k)) hE dX8_areSame_47 (by omega) (by omega) ?_
            exact ⟨rfl, by rw [hq, show k = 3 by omega]⟩
          · have c_22 : ¬ 3 ≤ k := fun h9 => c_22 ((nI_leI (a := 3) (b := k) (by omega) (by omega)).mpr h9)
            refine g_aload_n hX 2 rfl dX8_areSame_25 rfl ?_
            refine g_iload_n hX 0 rfl dX8_areSame_26 rfl ?_
            refine h_iald (i := a) hX k rfl (by rw [hna]; omega) (by rw [hna]; decide) ha hka dX8_areSame_27 ?_
            refine g_aload_n hX 3 rfl dX8_areSame_28 rfl ?_
            refine g_iload_n hX 0 rfl dX8_areSame_29 rfl ?_
            refine h_iald (i := b) hX k rfl (by rw [hnb]; omega) (by rw [hnb]; decide) hb hkb dX8_areSame_30 ?_
            refine g_icmp_ne (tgt := 38) hX dX8_areSame_31 (by decide) (fun c_31 => ?_) (fun c_31 => ?_)
            · have c_31 := c_31
              refine g_iconst hX (0) dX8_areSame_38 rfl ?_
              refine g_istore_n hX [(2, .int 0), (3, .int (nI k)), (0, .ref (ad a)), (1, .ref (ad b))] rfl dX8_areSame_39 rfl (by decide) ?_
              refine g_iinc hX (nI (k + 1)) [(3, .int (nI (k + 1))), (2, .int 0), (0, .ref (ad a)), (1, .ref (ad b))] (k := 1) rfl (g_inc k) rfl dX8_areSame_40 (by decide) ?_
              refine g_goto (tgt := 15) hX dX8_areSame_43 (by decide) ?_
              refine g_lv [0, 1, 2, 3] rfl ?_
              exact ih_15 (k + 1) 0 (by omega) (by omega) (by rw [asN, ← hq, if_neg c_16, if_neg c_31])
            · have c_31 := c_31
              refine g_iconst hX (1) dX8_areSame_34 rfl ?_
              refine g_goto (tgt := 39) hX dX8_areSame_35 (by decide) ?_
              refine g_istore_n hX [(2, .int 1), (3, .int (nI k)), (0, .ref (ad a)), (1, .ref (ad b))] rfl dX8_areSame_39 rfl (by decide) ?_
              refine g_iinc hX (nI (k + 1)) [(3, .int (nI (k + 1))), (2, .int 1), (0, .ref (ad a)), (1, .ref (ad b))] (k := 1) rfl (g_inc k) rfl dX8_areSame_40 (by decide) ?_
              refine g_goto (tgt := 15) hX dX8_areSame_43 (by decide) ?_
              refine g_lv [0, 1, 2, 3] rfl ?_
              exact ih_15 (k + 1) 1 (by omega) (by omega) (by rw [asN, ← hq, if_neg c_16, if_pos c_31])
    refine g_lv [0, 1, 2, 3] rfl ?_
    exact lp_15 _ 0 1 (Nat.lt_succ_self _) (Nat.zero_le _) rfl
abbrev rm_X8_isMusic : Room := { frames := 8, cells := 858, slots := 5035, locals := 218 }
theorem hd_X8_isMusic : yX8_isMusic.cls = RX8 ∧ yX8_isMusic.cls ≠ "java/lang/invoke/MethodHandle" ∧ yX8_isMusic.cls ≠ "java/lang/invoke/VarHandle" ∧ (parseMethodDescriptor yX8_isMusic.desc).map (fun d => d.parameters.length) = some 1 := by decide +kernel
set_option maxRecDepth 100000 in
set_option maxHeartbeats 4000000 in
theorem k_X8_isMusic {D : va_G} {dT : Nat → ClassId} {Z : ZT} {ad : Nat → Nat} (M : Nat → Nat → Int32) (S : SZ) (hS : WS S) (hw1 : M 1 2 = nI S.1) (hw2 : M 2 2 = nI S.2.1) (hw3 : M 3 2 = nI S.2.2.1) (hz : ad 99999 = Z.1) (v : Int32) : ∀ l8, BI l8 yX8_isMusic wsX8_isMusic rm_X8_isMusic D (tyl dT) Z ad (mL S) (pf dT mK mN M (mR S) ad) [.ref (ad 0), .int v] 858 5035 (fun r u => (∃ ad2, AGm (mL S) ad ad2 ∧ u = (ad2, mL S, mf dT ad2 (up2 M 0 15 (r1C S v)) S)) ∧ (if r1C S v = 0 then muQ M (scA (up2 M 0 15 0) v.toNatClampNeg 200) (q0M S (scA (up2 M 0 15 0) v.toNatClampNeg 200)) S.2.1 else 0) = r) := by
  intro l9
  refine bi_of (own := RX8) (cc := cX8_isMusic) (maxL := 9) (some .boolean) [(0, .ref (ad 0)), (1, .int v)] (by decide) rfl rfl rfl (Nat.le_of_ble_eq_true rfl) ?_
  intro X hX hE hN hM
  have q_w1 : Cond.fieldLink RX8 16 "PerforatumModel" "music" "Ljava/util/List;" ∈ wsX8_isMusic := List.mem_of_getElem? (i := 1) rfl
  have q_inX8 : ∀ w ∈ wsX80, w ∈ wsX8_isMusic := by decide +kernel
  have q_w2 : Cond.classLink RX8 117 "[I" ∈ wsX8_isMusic := List.mem_of_getElem? (i := 2) rfl
  have hS1 := hS.1
  have hS2 := hS.2.1
  have hS3 := hS.2.2.1
  refine g_aload_n hX 0 rfl dX8_isMusic_0 rfl ?_
  refine g_aload_n hX 0 rfl dX8_isMusic_1 rfl ?_
  refine g_iload_n hX 1 rfl dX8_isMusic_2 rfl ?_
  refine b_callI_V hX hM (b := 0) [.int v] (m_lo (by decide)) (pf_obj rfl (by decide)) rfl (k_X8_isRoll (m_lo (by decide)) rfl (m_lo (by decide)) rfl rfl v) gX8_isMusic_X8_isRoll rfl rfl rfl hd_X8_isRoll ⟨Nat.le_of_ble_eq_true rfl, Nat.le_of_ble_eq_true rfl⟩ ⟨Nat.le_of_ble_eq_true rfl, Nat.le_of_ble_eq_true rfl⟩ rfl (Nat.le_of_ble_eq_true rfl) dX8_isMusic_3 (fun r9 ad9 L9 f9 hp9 => ?_)
  obtain ⟨he9, hr9⟩ := hp9
  cases he9
  subst hr9
  refine g_eqi (y := isi v 0 (nI S.1 - 1)) (by rw [hw1]) ?_
  refine g_iconst hX (1) dX8_isMusic_6 rfl ?_
  refine b_callI_V hX hM (b := 0) [.int (isi v 0 (nI S.1 - 1)), .int 1] (m_lo (by decide)) (pf_obj rfl (by decide)) rfl (k_X8_no (m_lo (by decide)) rfl (isi v 0 (nI S.1 - 1)) 1) gX8_isMusic_X8_no rfl rfl rfl hd_X8_no ⟨Nat.le_of_ble_eq_true rfl, Nat.le_of_ble_eq_true rfl⟩ ⟨Nat.le_of_ble_eq_true rfl, Nat.le_of_ble_eq_true rfl⟩ rfl (Nat.le_of_ble_eq_true rfl) dX8_isMusic_7 (fun r9 ad9 L9 f9 hp9 => ?_)
  obtain ⟨he9, hr9⟩ := hp9
  cases he9
  subst hr9
  refine g_if_eq (tgt := 15) hX dX8_isMusic_10 (by decide) (fun c_10 => ?_) (fun c_10 => ?_)
  · have c_10 := z10 c_10
    rw [show (up2 M 0 15 (if (isi v 0 (nI S.1 - 1)) = 0 then 1 else 0)) = up2 M 0 15 0 from by simp [up2_ss, c_10]]
    obtain ⟨j, hj, rfl⟩ := isi_n c_10 (by have := hS.1; omega)
    refine g_aload_n hX 0 rfl dX8_isMusic_15 rfl ?_
    refine g_iload_n hX 1 rfl dX8_isMusic_16 rfl ?_
    refine b_callQ_V hX hM (b := 0) [.int (nI j)] (m_lo (by decide)) (pf_obj rfl (by decide)) rfl (k_X8_scan (up2 M 0 15 0) S hS ((up2_n (Or.inl (by decide))).trans hw1) ((up2_n (Or.inl (by decide))).trans hw2) ((up2_n (Or.inl (by decide))).trans hw3) hz j hj) gX8_isMusic_X8_scan rfl rfl rfl hd_X8_scan ⟨Nat.le_of_ble_eq_true rfl, Nat.le_of_ble_eq_true rfl⟩ ⟨Nat.le_of_ble_eq_true rfl, Nat.le_of_ble_eq_true rfl⟩ rfl (Nat.le_of_ble_eq_true rfl) dX8_isMusic_17 (fun r9 a1 L9 f9 hp9 => ?_)
    obtain ⟨x9, ga1, he9, hr9⟩ := hp9
    cases he9
    subst hr9
    have aga1 : AGm (mL S) ad a1 := AGm_tr AGm_rf ga1 (fun _ h => h)
    refine g_lvs (lv2 := [(0, .ref (a1 0)), (1, .int (nI j))]) (st2 := [.ref (a1 8)]) (by rw [← ga1 0 (Or.inl (m_lo (by decide))) (by decide) (Or.inl (by decide))]) rfl ?_
    have hna1 : (scA (up2 M 0 15 0) j 200).length ≤ 804 := scA_804' _ _
    refine g_astore_n hX [(2, .ref (a1 8)), (0, .ref (a1 0)), (1, .int (nI j))] rfl dX8_isMusic_20 rfl (by decide) ?_
    refine g_aload_n hX 0 rfl dX8_isMusic_21 rfl ?_
    refine b_callI_F hX hM (b := 8) [] (scL_mem.mpr (Or.inr (Or.inl rfl))) (pf_obj rfl (by decide)) rfl (k_Jx4a65c_size_8abf5 8 (scL_mem.mpr (Or.inr (Or.inl rfl))) rfl) gX8_isMusic_Jx4a65c_size_8abf5_f54Jx4a65c (by decide +kernel) rfl rfl rfl hdF_size ⟨Nat.le_of_ble_eq_true rfl, Nat.le_of_ble_eq_true rfl⟩ ⟨Nat.le_of_ble_eq_true rfl, Nat.le_of_ble_eq_true rfl⟩ rfl (Nat.le_of_ble_eq_true rfl) dX8_isMusic_22 (fun r9 ad9 L9 f9 hp9 => ?_)
    obtain ⟨he9, hr9⟩ := hp9
    cases he9
    subst hr9
    refine g_eqi (y := (nI (scA (up2 M 0 15 0) j 200).length)) scI_82 ?_
    refine g_aload_n hX 1 rfl dX8_isMusic_27 rfl ?_
    refine g_getRs (i := 0) hX 12 1 q_inX8 (scL_mem.mpr (Or.inl (m_lo (by decide)))) rfl (by decide) rfl (by decide) rfl q_w1 rfl (j := 2) ((congrFun (scR_n (by omega) (by omega) hna1) 1).trans rfl) dX8_isMusic_28 ?_
    refine b_callI_F hX hM (b := 2) [] (scL_mem.mpr (Or.inl (m_lo (by decide)))) (pf_obj rfl (by decide)) rfl (k_Jx4a65c_size_8abf5 2 (scL_mem.mpr (Or.inl (m_lo (by decide)))) rfl) gX8_isMusic_Jx4a65c_size_8abf5_f54Jx4a65c (by decide +kernel) rfl rfl rfl hdF_size ⟨Nat.le_of_ble_eq_true rfl, Nat.le_of_ble_eq_true rfl⟩ ⟨Nat.le_of_ble_eq_true rfl, Nat.le_of_ble_eq_true rfl⟩ rfl (Nat.le_of_ble_eq_true rfl) dX8_isMusic_31 (fun r9 ad9 L9 f9 hp9 => ?_)
    obtain ⟨he9, hr9⟩ := hp9
    cases he9
    subst hr9
    refine g_eqi (y := (nI S.2.1)) ((congrFun (scI_n (xs := (scA (up2 M 0 15 0) j 200)) (by omega) (by omega)) 2).trans ((up2_n (Or.inl (by decide))).trans hw2)) ?_
    refine g_icmp_ne (tgt := 43) hX dX8_isMusic_36 (by decide) (fun c_36 => ?_) (fun c_36 => ?_)
    · have c_36 : ¬ (scA (up2 M 0 15 0) j 200).length = S.2.1 := fun h9 => c_36 (by rw [h9])
      refine g_iconst hX (0) dX8_isMusic_43 rfl ?_
      refine g_eqi (y := q0M S (scA (up2 M 0 15 0) j 200)) (by rw [q0M, if_neg c_36]) ?_
      refine g_istore_n hX [(3, .int (q0M S (scA (up2 M 0 15 0) j 200))), (2, .ref (a1 8)), (0, .ref (a1 0)), (1, .int (nI j))] rfl dX8_isMusic_44 rfl (by decide) ?_
      refine g_aload_n hX 2 rfl dX8_isMusic_45 rfl ?_
      refine g_getRs (i := 0) hX 12 1 q_inX8 (scL_mem.mpr (Or.inl (m_lo (by decide)))) rfl (by decide) rfl (by decide) rfl q_w1 rfl (j := 2) ((congrFun (scR_n (by omega) (by omega) hna1) 1).trans rfl) dX8_isMusic_46 ?_
      refine b_callQ_F hX hM (b := 2) [] (scL_mem.mpr (Or.inl (m_lo (by decide)))) (pf_obj rfl (by decide)) rfl (v_iter 2 (S.2.1) 7000 10 (LV_up (LV_2 hS (M := (up2 M 0 15 0)) ((up2_n (Or.inl (by decide))).trans hw2)) (fun i hi => scL_mem.mpr (Or.inl hi)) (fun i hi => scR_n (n := (scA (up2 M 0 15 0) j 200).length) (mL_84 hS hi).1 (mL_84 hS hi).2 hna1) (congrFun (scI_n (xs := (scA (up2 M 0 15 0) j 200)) (by decide) (by decide)) 2)) rfl (scL_lo hS hna1 (by decide) (by decide)) (scL_no hS hna1 (scL_lo hS hna1 (by decide) (by decide)) (by decide)) (scR_0 (by decide) hna1)) gX8_isMusic_Jx4a65c_iterator_32c93_f104Jx4a65c (by decide +kernel) rfl rfl rfl hdF_iterator ⟨Nat.le_of_ble_eq_true rfl, Nat.le_of_ble_eq_true rfl⟩ ⟨Nat.le_of_ble_eq_true rfl, Nat.le_of_ble_eq_true rfl⟩ rfl (Nat.le_of_ble_eq_true rfl) dX8_isMusic_49 (fun r9 ad9 L9 f9 hp9 => ?_)
      obtain ⟨qa2, he9, hr9⟩ := hp9
      cases he9
      subst hr9
      obtain ⟨a2, ha2⟩ : ∃ z9, z9 = va_up a1 10 qa2 := ⟨_, rfl⟩
      have va2 : qa2 = a2 10 := by rw [ha2]; exact (if_pos rfl).symm
      have ga2 : ∀ i, i ∈ (scL S (scA (up2 M 0 15 0) j 200).length) → a2 i = a1 i := fun i hi => by rw [ha2]; exact va_up_ne _ _ (fun h => (scL_lo hS hna1 (by decide) (by decide)) (h ▸ hi))
      have aga2 : AGm (mL S) ad a2 := by rw [ha2]; exact AGm_new aga1 (f_lo (by decide) (by decide) hS) (by omega)
      rw [← ha2]
      refine g_lvs (lv2 := [(3, .int (q0M S (scA (up2 M 0 15 0) j 200))), (2, .ref (a2 8)), (0, .ref (a2 0)), (1, .int (nI j))]) (st2 := [.ref (a2 10)]) (by rw [ga2 8 (scL_mem.mpr (Or.inr (Or.inl rfl))), ga2 0 (scL_mem.mpr (Or.inl (m_lo (by decide))))]) (by rw [va2]; rfl) ?_
      refine g_astore hX [(4, .ref (a2 10)), (3, .int (q0M S (scA (up2 M 0 15 0) j 200))), (2, .ref (a2 8)), (0, .ref (a2 0)), (1, .int (nI j))] rfl dX8_isMusic_54 (by decide) ?_
      have lp_56 : ∀ (n9 : Nat) (k : Nat) (q : Int32) (a : Nat → Nat), S.2.1 - k < n9 → (k ≤ S.2.1) → (q = muQ M (scA (up2 M 0 15 0) j 200) (q0M S (scA (up2 M 0 15 0) j 200)) k) → (AGm (mL S) ad a) → GG X D a ((scL S (scA (up2 M 0 15 0) j 200).length) ++ [10]) (pf dT mK mN (itM (scI (up2 M 0 15 0) (scA (up2 M 0 15 0) j 200)) 10 2 k) (up2 (scR S (scA (up2 M 0 15 0) j 200).length) 10 3 (some 2)) a) [(4, .ref (a 10)), (3, .int q), (2, .ref (a 8)), (0, .ref (a 0)), (1, .int (nI j))] (0 + 817 + 1 + k) (0 + 4871 + 4 + 4 * k) 56 [] := by
        intro n9
        induction n9 with
        | zero => intro k q a h9; exact absurd h9 (Nat.not_lt_zero _)
        | succ n9 ih9 =>
          intro k q a h9 hk hq hag
          have ih_56 := ih9
          refine g_aload hX 0 rfl dX8_isMusic_56 ?_
          refine b_callI_F hX hM (b := 10) [] (List.mem_append_right _ (List.mem_singleton.mpr rfl)) (pf_obj rfl (by decide)) rfl (v_has 2 (S.2.1) 7000 10 k (LV_it (l2 := 2) (k := k) (LV_up (LV_2 hS (M := (up2 M 0 15 0)) ((up2_n (Or.inl (by decide))).trans hw2)) (fun i hi => scL_mem.mpr (Or.inl hi)) (fun i hi => scR_n (n := (scA (up2 M 0 15 0) j 200).length) (mL_84 hS hi).1 (mL_84 hS hi).2 hna1) (congrFun (scI_n (xs := (scA (up2 M 0 15 0) j 200)) (by decide) (by decide)) 2)) rfl) (List.mem_append_right _ (List.mem_singleton.mpr rfl)) rfl up2_s (by omega) itM_0) gX8_isMusic_Jx35411_hasNext_aae02_f108Jx35411 (by decide +kernel) rfl rfl rfl hdF_hasNext ⟨Nat.le_of_ble_eq_true rfl, Nat.le_of_ble_eq_true rfl⟩ ⟨by show _ ≤ 858; omega, by show _ ≤ 5035; omega⟩ rfl (Nat.le_of_ble_eq_true rfl) dX8_isMusic_58 (fun r9 ad9 L9 f9 hp9 => ?_)
          obtain ⟨he9, hr9⟩ := hp9
          cases he9
          subst hr9
          refine g_if_eq (tgt := 134) hX dX8_isMusic_63 (by decide) (fun c_63 => ?_) (fun c_63 => ?_)
          · have c_63 := z01 c_63
            subst c_63
            refine g_lv [1, 2, 3, 4] rfl ?_
            refine g_lvs (lv2 := [(3, .int q), (2, .ref (a 8)), (0, .ref (a 0)), (1, .int (nI j))]) (st2 := []) rfl rfl ?_
            refine g_L (L2 := scL S (scA (up2 M 0 15 0) j 200).length) (fun i hi => List.mem_append_left _ hi) (scL_nd hS (scA_804' _ _)) ?_
            refine g_f (g := pf dT mK mN (scI (up2 M 0 15 0) (scA (up2 M 0 15 0) j 200)) (scR S (scA (up2 M 0 15 0) j 200).length) a) (fun i hi => (pf_I (itM_n (fun h => (scL_lo hS hna1 (by decide) (by decide)) (h ▸ hi)))).trans (pf_R (up2_row (fun h => (scL_lo hS hna1 (by decide) (by decide)) (h ▸ hi))))) ?_
            refine g_lv [0, 2, 3] rfl ?_
            refine g_lvs (lv2 := [(3, .int q), (0, .ref (a 0)), (1, .int (nI j))]) (st2 := []) rfl rfl ?_
            refine g_L (L2 := mL S) (fun i hi => scL_mem.mpr (Or.inl hi)) mL_nd ?_
            refine g_f (g := pf dT mK mN (up2 M 0 15 0) (mR S) a) (fun i hi => (pf_I (scI_n (xs := (scA (up2 M 0 15 0) j 200)) (mL_84 hS hi).1 (mL_mem.mp hi).1)).trans (pf_R (scR_n (mL_84 hS hi).1 (mL_84 hS hi).2 hna1))) ?_
            refine g_iload_n hX 0 rfl dX8_isMusic_134 rfl ?_
            refine b_zret hX (nz_01 (by rw [hq]; exact muQ_01 (q0M_01 _ _) S.2.1)) hE dX8_isMusic_135 (by omega) (by omega) ?_
            exact ⟨⟨_, hag, congrArg (fun z => (a, mL S, mf dT a z S)) (by simp [r1C, c_10])⟩, by rw [show r1C S (nI j) = 0 by simp [r1C, c_10], if_pos rfl, nI_clamp (n := j) (by have := hS.1; omega), hq]⟩
          · have c_63 := z00 c_63
            refine g_aload hX 0 rfl dX8_isMusic_66 ?_
            refine b_callQ_F hX hM (b := 10) [] (List.mem_append_right _ (List.mem_singleton.mpr rfl)) (pf_obj rfl (by decide)) rfl (v_next 2 (S.2.1) 7000 10 k (LV_it (l2 := 2) (k := k) (LV_up (LV_2 hS (M := (up2 M 0 15 0)) ((up2_n (Or.inl (by decide))).trans hw2)) (fun i hi => scL_mem.mpr (Or.inl hi)) (fun i hi => scR_n (n := (scA (up2 M 0 15 0) j 200).length) (mL_84 hS hi).1 (mL_84 hS hi).2 hna1) (congrFun (scI_n (xs := (scA (up2 M 0 15 0) j 200)) (by decide) (by decide)) 2)) rfl) (List.mem_append_right _ (List.mem_singleton.mpr rfl)) rfl up2_s (by omega)) gX8_isMusic_Jx35411_next_0502b_f114Jx35411 (by decide +kernel) rfl rfl rfl hdF_next ⟨Nat.le_of_ble_eq_true rfl, Nat.le_of_ble_eq_true rfl⟩ ⟨by show _ ≤ 858; omega, by show _ ≤ 5035; omega⟩ rfl (Nat.le_of_ble_eq_true rfl) dX8_isMusic_68 (fun r9 ad9 L9 f9 hp9 => ?_)
            obtain ⟨he9, hr9⟩ := hp9
            cases he9
            subst hr9
            refine b_cast20 (i := (7000 + k)) hX (List.mem_append_left _ (scL_mem.mpr (Or.inl (m_n hS (by omega))))) (mK_h (by omega)) q_w2 dX8_isMusic_73 ?_
            refine g_astore hX [(5, .ref (a (7000 + k))), (4, .ref (a 10)), (3, .int q), (2, .ref (a 8)), (0, .ref (a 0)), (1, .int (nI j))] rfl dX8_isMusic_76 (by decide) ?_
            refine g_iconst hX (0) dX8_isMusic_78 rfl ?_
            refine g_istore hX [(6, .int 0), (5, .ref (a (7000 + k))), (4, .ref (a 10)), (3, .int q), (2, .ref (a 8)), (0, .ref (a 0)), (1, .int (nI j))] rfl dX8_isMusic_79 (by decide) ?_
            refine g_aload_n hX 4 rfl dX8_isMusic_81 rfl ?_
            refine b_callQ_F hX hM (b := 8) [] (List.mem_append_left _ (scL_mem.mpr (Or.inr (Or.inl rfl)))) (pf_obj rfl (by decide)) rfl (v_iter 8 ((scA (up2 M 0 15 0) j 200).length) 9000 9 (LV_it (l2 := 2) (k := (k + 1)) (LV_8 (S := S) (M := (up2 M 0 15 0)) (xs := (scA (up2 M 0 15 0) j 200)) hna1) rfl) rfl (nm_app (scL_lo hS hna1 (by decide) (by decide)) (by decide)) (no_app (scL_no hS hna1 (scL_lo hS hna1 (by decide) (by decide)) (by decide)) (by decide) (scR_0 (by decide) hna1)) (fun k9 => (up2_n (Or.inl (by decide))).trans ((scR_0 (by decide) hna1) k9))) gX8_isMusic_Jx4a65c_iterator_32c93_f104Jx4a65c (by decide +kernel) rfl rfl rfl hdF_iterator ⟨Nat.le_of_ble_eq_true rfl, Nat.le_of_ble_eq_true rfl⟩ ⟨by show _ ≤ 858; omega, by show _ ≤ 5035; omega⟩ rfl (Nat.le_of_ble_eq_true rfl) dX8_isMusic_82 (fun r9 ad9 L9 f9 hp9 => ?_)
            obtain ⟨qa3, he9, hr9⟩ := hp9
            cases he9
            subst hr9
            obtain ⟨a3, ha3⟩ : ∃ z9, z9 = va_up a 9 qa3 := ⟨_, rfl⟩
            have va3 : qa3 = a3 9 := by rw [ha3]; exact (if_pos rfl).symm
            have ga3 : ∀ i, i ∈ ((scL S (scA (up2 M 0 15 0) j 200).length) ++ [10]) → a3 i = a i := fun i hi => by rw [ha3]; exact va_up_ne _ _ (fun h => (nm_app (scL_lo hS hna1 (by decide) (by decide)) (by decide)) (h ▸ hi))
            have aga3 : AGm (mL S) ad a3 := by rw [ha3]; exact AGm_new hag (f_lo (by decide) (by decide) hS) (by omega)
            rw [← ha3]
            refine g_lvs (lv2 := [(6, .int 0), (5, .ref (a3 (7000 + k))), (4, .ref (a3 10)), (3, .int q), (2, .ref (a3 8)), (0, .ref (a3 0)), (1, .int (nI j))]) (st2 := [.ref (a3 9)]) (by rw [ga3 (7000 + k) (List.mem_append_left _ (scL_mem.mpr (Or.inl (m_n hS (by omega))))), ga3 10 (List.mem_append_right _ (List.mem_singleton.mpr rfl)), ga3 8 (List.mem_append_left _ (scL_mem.mpr (Or.inr (Or.inl rfl)))), ga3 0 (List.mem_append_left _ (scL_mem.mpr (Or.inl (m_lo (by decide)))))]) (by rw [va3]; rfl) ?_
            refine g_astore hX [(7, .ref (a3 9)), (6, .int 0), (5, .ref (a3 (7000 + k))), (4, .ref (a3 10)), (3, .int q), (2, .ref (a3 8)), (0, .ref (a3 0)), (1, .int (nI j))] rfl dX8_isMusic_87 (by decide) ?_
            have lp_89 : ∀ (n9 : Nat) (i : Nat) (f : Int32), (scA (up2 M 0 15 0) j 200).length - i < n9 → (i ≤ (scA (up2 M 0 15 0) j 200).length) → (f = fnM M (scA (up2 M 0 15 0) j 200) k i) → GG X D a3 (((scL S (scA (up2 M 0 15 0) j 200).length) ++ [10]) ++ [9]) (pf dT mK mN (itM (itM (scI (up2 M 0 15 0) (scA (up2 M 0 15 0) j 200)) 10 2 (k + 1)) 9 8 i) (up2 (up2 (scR S (scA (up2 M 0 15 0) j 200).length) 10 3 (some 2)) 9 3 (some 8)) a3) [(7, .ref (a3 9)), (6, .int f), (5, .ref (a3 (7000 + k))), (4, .ref (a3 10)), (3, .int q), (2, .ref (a3 8)), (0, .ref (a3 0)), (1, .int (nI j))] (0 + 817 + 1 + k + 1) (0 + 4871 + 4 + 4 * k + 4) 89 [] := by
              intro n9
              induction n9 with
              | zero => intro i f h9; exact absurd h9 (Nat.not_lt_zero _)
              | succ n9 ih9 =>
                intro i f h9 hi hf
                have ih_89 := ih9
                refine g_aload hX 0 rfl dX8_isMusic_89 ?_
                refine b_callI_F hX hM (b := 9) [] (List.mem_append_right _ (List.mem_singleton.mpr rfl)) (pf_obj rfl (by decide)) rfl (v_has 8 ((scA (up2 M 0 15 0) j 200).length) 9000 9 i (LV_it (l2 := 8) (k := i) (LV_it (l2 := 2) (k := (k + 1)) (LV_8 (S := S) (M := (up2 M 0 15 0)) (xs := (scA (up2 M 0 15 0) j 200)) hna1) rfl) rfl) (List.mem_append_right _ (List.mem_singleton.mpr rfl)) rfl up2_s (by omega) itM_0) gX8_isMusic_Jx35411_hasNext_aae02_f108Jx35411 (by decide +kernel) rfl rfl rfl hdF_hasNext ⟨Nat.le_of_ble_eq_true rfl, Nat.le_of_ble_eq_true rfl⟩ ⟨by show _ ≤ 858; omega, by show _ ≤ 5035; omega⟩ rfl (Nat.le_of_ble_eq_true rfl) dX8_isMusic_91 (fun r9 ad9 L9 f9 hp9 => ?_)
                obtain ⟨he9, hr9⟩ := hp9
                cases he9
                subst hr9
                refine g_if_eq (tgt := 126) hX dX8_isMusic_96 (by decide) (fun c_96 => ?_) (fun c_96 => ?_)
                · have c_96 := z01 c_96
                  refine g_lv [1, 2, 3, 4, 5, 6, 7] rfl ?_
                  refine g_lvs (lv2 := [(6, .int f), (5, .ref (a3 (7000 + k))), (4, .ref (a3 10)), (3, .int q), (2, .ref (a3 8)), (0, .ref (a3 0)), (1, .int (nI j))]) (st2 := []) rfl rfl ?_
                  refine g_L (L2 := (scL S (scA (up2 M 0 15 0) j 200).length) ++ [10]) (fun i hi => List.mem_append_left _ hi) (nd_app (scL_nd hS (scA_804' _ _)) (scL_lo hS (scA_804' _ _) (by decide) (by decide))) ?_
                  refine g_f (g := pf dT mK mN (itM (scI (up2 M 0 15 0) (scA (up2 M 0 15 0) j 200)) 10 2 (k + 1)) (up2 (scR S (scA (up2 M 0 15 0) j 200).length) 10 3 (some 2)) a3) (fun i hi => (pf_I (itM_n (fun h => (nm_app (scL_lo hS hna1 (by decide) (by decide)) (by decide)) (h ▸ hi)))).trans (pf_R (up2_row (fun h => (nm_app (scL_lo hS hna1 (by decide) (by decide)) (by decide)) (h ▸ hi))))) ?_
                  refine g_iload_n hX 3 rfl dX8_isMusic_126 rfl ?_
                  refine g_iload hX 0 rfl dX8_isMusic_127 ?_
                  refine g_iand hX dX8_isMusic_129 ?_
                  refine g_istore_n hX [(3, .int (q &&& f)), (6, .int f), (5, .ref (a3 (7000 + k))), (4, .ref (a3 10)), (2, .ref (a3 8)), (0, .ref (a3 0)), (1, .int (nI j))] rfl dX8_isMusic_130 rfl (by decide) ?_
                  refine g_goto (tgt := 56) hX dX8_isMusic_131 (by decide) ?_
                  refine g_lv [3, 0, 4, 5, 6] rfl ?_
                  refine g_widen (k := 0 + 817 + 1 + (k + 1)) (n := 0 + 4871 + 4 + 4 * (k + 1)) (by omega) (by omega) ?_
                  exact ih_56 (k + 1) (q &&& f) a3 (by omega) (by omega) (by rw [muQ, ← hq, hf, c_96]) (aga3)
                · have c_96 := z00 c_96
                  refine g_aload hX 0 rfl dX8_isMusic_99 ?_
                  refine b_callQ_F hX hM (b := 9) [] (List.mem_append_right _ (List.mem_singleton.mpr rfl)) (pf_obj rfl (by decide)) rfl (v_next 8 ((scA (up2 M 0 15 0) j 200).length) 9000 9 i (LV_it (l2 := 8) (k := i) (LV_it (l2 := 2) (k := (k + 1)) (LV_8 (S := S) (M := (up2 M 0 15 0)) (xs := (scA (up2 M 0 15 0) j 200)) hna1) rfl) rfl) (List.mem_append_right _ (List.mem_singleton.mpr rfl)) rfl up2_s (by omega)) gX8_isMusic_Jx35411_next_0502b_f114Jx35411 (by decide +kernel) rfl rfl rfl hdF_next ⟨Nat.le_of_ble_eq_true rfl, Nat.le_of_ble_eq_true rfl⟩ ⟨by show _ ≤ 858; omega, by show _ ≤ 5035; omega⟩ rfl (Nat.le_of_ble_eq_true rfl) dX8_isMusic_101 (fun r9 ad9 L9 f9 hp9 => ?_)
                  obtain ⟨he9, hr9⟩ := hp9
                  cases he9
                  subst hr9
                  refine b_cast20 (i := (9000 + i)) hX (List.mem_append_left _ (List.mem_append_left _ (scL_mem.mpr (Or.inr (Or.inr (Or.inr ⟨_, (by omega), rfl⟩)))))) (mK_h (by omega)) q_w2 dX8_isMusic_106 ?_
                  refine g_astore hX [(8, .ref (a3 (9000 + i))), (7, .ref (a3 9)), (6, .int f), (5, .ref (a3 (7000 + k))), (4, .ref (a3 10)), (3, .int q), (2, .ref (a3 8)), (0, .ref (a3 0)), (1, .int (nI j))] rfl dX8_isMusic_109 (by decide) ?_
                  refine g_iload hX 2 rfl dX8_isMusic_111 ?_
                  refine g_aload hX 3 rfl dX8_isMusic_113 ?_
                  refine g_aload hX 0 rfl dX8_isMusic_115 ?_
                  refine b_callI_S hX hM [.ref (a3 (7000 + k)), .ref (a3 (9000 + i))] (k_X8_areSame (7000 + k) (9000 + i) (List.mem_append_left _ (List.mem_append_left _ (scL_mem.mpr (Or.inl (m_n hS (by omega)))))) (mK_h (by omega)) (mN_n (by omega)) (List.mem_append_left _ (List.mem_append_left _ (scL_mem.mpr (Or.inr (Or.inr (Or.inr ⟨_, (by omega), rfl⟩)))))) (mK_h (by omega)) mN_t) gX8_isMusic_X8_areSame rfl rfl rfl hd_X8_areSame.2 ⟨Nat.le_of_ble_eq_true rfl, Nat.le_of_ble_eq_true rfl⟩ ⟨by show _ ≤ 858; omega, by show _ ≤ 5035; omega⟩ rfl (Nat.le_of_ble_eq_true rfl) dX8_isMusic_117 (fun r9 ad9 L9 f9 hp9 => ?_)
                  obtain ⟨he9, hr9⟩ := hp9
                  cases he9
                  subst hr9
                  refine g_eqi (y := (if M (7000 + k) 0 = scq (scA (up2 M 0 15 0) j 200) i 0 then (if M (7000 + k) 1 = scq (scA (up2 M 0 15 0) j 200) i 1 then (if M (7000 + k) 2 = scq (scA (up2 M 0 15 0) j 200) i 2 then 1 else 0) else 0) else 0)) (asN_v (M := M) (fun b9 => ((congrFun (itM_n (by omega)) b9).trans ((congrFun (itM_n (by omega)) b9).trans ((congrFun (scI_n (by omega) (by omega)) b9).trans (congrFun (up2_row (by omega)) b9))))) (fun b9 => ((congrFun (itM_n (by omega)) b9).trans ((congrFun (itM_n (by omega)) b9).trans (scI_q (by omega)))))) ?_
                  refine g_ior hX dX8_isMusic_120 ?_
                  refine g_istore hX [(6, .int (f ||| (if M (7000 + k) 0 = scq (scA (up2 M 0 15 0) j 200) i 0 then (if M (7000 + k) 1 = scq (scA (up2 M 0 15 0) j 200) i 1 then (if M (7000 + k) 2 = scq (scA (up2 M 0 15 0) j 200) i 2 then 1 else 0) else 0) else 0))), (8, .ref (a3 (9000 + i))), (7, .ref (a3 9)), (5, .ref (a3 (7000 + k))), (4, .ref (a3 10)), (3, .int q), (2, .ref (a3 8)), (0, .ref (a3 0)), (1, .int (nI j))] rfl dX8_isMusic_121 (by decide) ?_
                  refine g_goto (tgt := 89) hX dX8_isMusic_123 (by decide) ?_
                  refine g_lv [2, 0, 3, 4, 5, 6, 7, 8] rfl ?_
                  exact ih_89 (i + 1) (f ||| (if M (7000 + k) 0 = scq (scA (up2 M 0 15 0) j 200) i 0 then (if M (7000 + k) 1 = scq (scA (up2 M 0 15 0) j 200) i 1 then (if M (7000 + k) 2 = scq (scA (up2 M 0 15 0) j 200) i 2 then 1 else 0) else 0) else 0)) (by omega) (by omega) (by rw [hf, fnM])
            refine g_lv [0, 1, 2, 3, 4, 5, 6, 7] rfl ?_
            exact lp_89 _ 0 0 (Nat.lt_succ_self _) (Nat.zero_le _) rfl
      refine g_lv [0, 1, 2, 3, 4] rfl ?_
      refine g_widen (k := 0 + 817 + 1 + 0) (n := 0 + 4871 + 4 + 4 * 0) (by omega) (by omega) ?_
      exact lp_56 _ 0 (q0M S (scA (up2 M 0 15 0) j 200)) a2 (Nat.lt_succ_self _) (Nat.zero_le _) rfl (aga2)
    · have c_36 : (scA (up2 M 0 15 0) j 200).length = S.2.1 := (nI_eq (a := (scA (up2 M 0 15 0) j 200).length) (b := S.2.1) (by have := scA_804' (up2 M 0 15 0) j; omega) (by omega)).mp c_36
      refine g_iconst hX (1) dX8_isMusic_39 rfl ?_
      refine g_goto (tgt := 44) hX dX8_isMusic_40 (by decide) ?_
      refine g_eqi (y := q0M S (scA (up2 M 0 15 0) j 200)) (by rw [q0M, if_pos c_36]) ?_
      refine g_istore_n hX [(3, .int (q0M S (scA (up2 M 0 15 0) j 200))), (2, .ref (a1 8)), (0, .ref (a1 0)), (1, .int (nI j))] rfl dX8_isMusic_44 rfl (by decide) ?_
      refine g_aload_n hX 2 rfl dX8_isMusic_45 rfl ?_
      refine g_getRs (i := 0) hX 12 1 q_inX8 (scL_mem.mpr (Or.inl (m_lo (by decide)))) rfl (by decide) rfl (by decide) rfl q_w1 rfl (j := 2) ((congrFun (scR_n (by omega) (by omega) hna1) 1).trans rfl) dX8_isMusic_46 ?_
      refine b_callQ_F hX hM (b := 2) [] (scL_mem.mpr (Or.inl (m_lo (by decide)))) (pf_obj rfl (by decide)) rfl (v_iter 2 (S.2.1) 7000 10 (LV_up (LV_2 hS (M := (up2 M 0 15 0)) ((up2_n (Or.inl (by decide))).trans hw2)) (fun i hi => scL_mem.mpr (Or.inl hi)) (fun i hi => scR_n (n := (scA (up2 M 0 15 0) j 200).length) (mL_84 hS hi).1 (mL_84 hS hi).2 hna1) (congrFun (scI_n (xs := (scA (up2 M 0 15 0) j 200)) (by decide) (by decide)) 2)) rfl (scL_lo hS hna1 (by decide) (by decide)) (scL_no hS hna1 (scL_lo hS hna1 (by decide) (by decide)) (by decide)) (scR_0 (by decide) hna1)) gX8_isMusic_Jx4a65c_iterator_32c93_f104Jx4a65c (by decide +kernel) rfl rfl rfl hdF_iterator ⟨Nat.le_of_ble_eq_true rfl, Nat.le_of_ble_eq_true rfl⟩ ⟨Nat.le_of_ble_eq_true rfl, Nat.le_of_ble_eq_true rfl⟩ rfl (Nat.le_of_ble_eq_true rfl) dX8_isMusic_49 (fun r9 ad9 L9 f9 hp9 => ?_)
      obtain ⟨qa4, he9, hr9⟩ := hp9
      cases he9
      subst hr9
      obtain ⟨a4, ha4⟩ : ∃ z9, z9 = va_up a1 10 qa4 := ⟨_, rfl⟩
      have va4 : qa4 = a4 10 := by rw [ha4]; exact (if_pos rfl).symm
      have ga4 : ∀ i, i ∈ (scL S (scA (up2 M 0 15 0) j 200).length) → a4 i = a1 i := fun i hi => by rw [ha4]; exact va_up_ne _ _ (fun h => (scL_lo hS hna1 (by decide) (by decide)) (h ▸ hi))
      have aga4 : AGm (mL S) ad a4 := by rw [ha4]; exact AGm_new aga1 (f_lo (by decide) (by decide) hS) (by omega)
      rw [← ha4]
      refine g_lvs (lv2 := [(3, .int (q0M S (scA (up2 M 0 15 0) j 200))), (2, .ref (a4 8)), (0, .ref (a4 0)), (1, .int (nI j))]) (st2 := [.ref (a4 10)]) (by rw [ga4 8 (scL_mem.mpr (Or.inr (Or.inl rfl))), ga4 0 (scL_mem.mpr (Or.inl (m_lo (by decide))))]) (by rw [va4]; rfl) ?_
      refine g_astore hX [(4, .ref (a4 10)), (3, .int (q0M S (scA (up2 M 0 15 0) j 200))), (2, .ref (a4 8)), (0, .ref (a4 0)), (1, .int (nI j))] rfl dX8_isMusic_54 (by decide) ?_
      have lp_56 : ∀ (n9 : Nat) (k : Nat) (q : Int32) (a : Nat → Nat), S.2.1 - k < n9 → (k ≤ S.2.1) → (q = muQ M (scA (up2 M 0 15 0) j 200) (q0M S (scA (up2 M 0 15 0) j 200)) k) → (AGm (mL S) ad a) → GG X D a ((scL S (scA (up2 M 0 15 0) j 200).length) ++ [10]) (pf dT mK mN (itM (scI (up2 M 0 15 0) (scA (up2 M 0 15 0) j 200)) 10 2 k) (up2 (scR S (scA (up2 M 0 15 0) j 200).length) 10 3 (some 2)) a) [(4, .ref (a 10)), (3, .int q), (2, .ref (a 8)), (0, .ref (a 0)), (1, .int (nI j))] (0 + 817 + 1 + k) (0 + 4871 + 4 + 4 * k) 56 [] := by
        intro n9
        induction n9 with
        | zero => intro k q a h9; exact absurd h9 (Nat.not_lt_zero _)
        | succ n9 ih9 =>
          intro k q a h9 hk hq hag
          have ih_56 := ih9
          refine g_aload hX 0 rfl dX8_isMusic_56 ?_
          refine b_callI_F hX hM (b := 10) [] (List.mem_append_right _ (List.mem_singleton.mpr rfl)) (pf_obj rfl (by decide)) rfl (v_has 2 (S.2.1) 7000 10 k (LV_it (l2 := 2) (k := k) (LV_up (LV_2 hS (M := (up2 M 0 15 0)) ((up2_n (Or.inl (by decide))).trans hw2)) (fun i hi => scL_mem.mpr (Or.inl hi)) (fun i hi => scR_n (n := (scA (up2 M 0 15 0) j 200).length) (mL_84 hS hi).1 (mL_84 hS hi).2 hna1) (congrFun (scI_n (xs := (scA (up2 M 0 15 0) j 200)) (by decide) (by decide)) 2)) rfl) (List.mem_append_right _ (List.mem_singleton.mpr rfl)) rfl up2_s (by omega) itM_0) gX8_isMusic_Jx35411_hasNext_aae02_f108Jx35411 (by decide +kernel) rfl rfl rfl hdF_hasNext ⟨Nat.le_of_ble_eq_true rfl, Nat.le_of_ble_eq_true rfl⟩ ⟨by show _ ≤ 858; omega, by show _ ≤ 5035; omega⟩ rfl (Nat.le_of_ble_eq_true rfl) dX8_isMusic_58 (fun r9 ad9 L9 f9 hp9 => ?_)
          obtain ⟨he9, hr9⟩ := hp9
          cases he9
          subst hr9
          refine g_if_eq (tgt := 134) hX dX8_isMusic_63 (by decide) (fun c_63 => ?_) (fun c_63 => ?_)
          · have c_63 := z01 c_63
            subst c_63
            refine g_lv [1, 2, 3, 4] rfl ?_
            refine g_lvs (lv2 := [(3, .int q), (2, .ref (a 8)), (0, .ref (a 0)), (1, .int (nI j))]) (st2 := []) rfl rfl ?_
            refine g_L (L2 := scL S (scA (up2 M 0 15 0) j 200).length) (fun i hi => List.mem_append_left _ hi) (scL_nd hS (scA_804' _ _)) ?_
            refine g_f (g := pf dT mK mN (scI (up2 M 0 15 0) (scA (up2 M 0 15 0) j 200)) (scR S (scA (up2 M 0 15 0) j 200).length) a) (fun i hi => (pf_I (itM_n (fun h => (scL_lo hS hna1 (by decide) (by decide)) (h ▸ hi)))).trans (pf_R (up2_row (fun h => (scL_lo hS hna1 (by decide) (by decide)) (h ▸ hi))))) ?_
            refine g_lv [0, 2, 3] rfl ?_
            refine g_lvs (lv2 := [(3, .int q), (0, .ref (a 0)), (1, .int (nI j))]) (st2 := []) rfl rfl ?_
            refine g_L (L2 := mL S) (fun i hi => scL_mem.mpr (Or.inl hi)) mL_nd ?_
            refine g_f (g := pf dT mK mN (up2 M 0 15 0) (mR S) a) (fun i hi => (pf_I (scI_n (xs := (scA (up2 M 0 15 0) j 200)) (mL_84 hS hi).1 (mL_mem.mp hi).1)).trans (pf_R (scR_n (mL_84 hS hi).1 (mL_84 hS hi).2 hna1))) ?_
            refine g_iload_n hX 0 rfl dX8_isMusic_134 rfl ?_
            refine b_zret hX (nz_01 (by rw [hq]; exact muQ_01 (q0M_01 _ _) S.2.1)) hE dX8_isMusic_135 (by omega) (by omega) ?_
            exact ⟨⟨_, hag, congrArg (fun z => (a, mL S, mf dT a z S)) (by simp [r1C, c_10])⟩, by rw [show r1C S (nI j) = 0 by simp [r1C, c_10], if_pos rfl, nI_clamp (n := j) (by have := hS.1; omega), hq]⟩
          · have c_63 := z00 c_63
            refine g_aload hX 0 rfl dX8_isMusic_66 ?_
            refine b_callQ_F hX hM (b := 10) [] (List.mem_append_right _ (List.mem_singleton.mpr rfl)) (pf_obj rfl (by decide)) rfl (v_next 2 (S.2.1) 7000 10 k (LV_it (l2 := 2) (k := k) (LV_up (LV_2 hS (M := (up2 M 0 15 0)) ((up2_n (Or.inl (by decide))).trans hw2)) (fun i hi => scL_mem.mpr (Or.inl hi)) (fun i hi => scR_n (n := (scA (up2 M 0 15 0) j 200).length) (mL_84 hS hi).1 (mL_84 hS hi).2 hna1) (congrFun (scI_n (xs := (scA (up2 M 0 15 0) j 200)) (by decide) (by decide)) 2)) rfl) (List.mem_append_right _ (List.mem_singleton.mpr rfl)) rfl up2_s (by omega)) gX8_isMusic_Jx35411_next_0502b_f114Jx35411 (by decide +kernel) rfl rfl rfl hdF_next ⟨Nat.le_of_ble_eq_true rfl, Nat.le_of_ble_eq_true rfl⟩ ⟨by show _ ≤ 858; omega, by show _ ≤ 5035; omega⟩ rfl (Nat.le_of_ble_eq_true rfl) dX8_isMusic_68 (fun r9 ad9 L9 f9 hp9 => ?_)
            obtain ⟨he9, hr9⟩ := hp9
            cases he9
            subst hr9
            refine b_cast20 (i := (7000 + k)) hX (List.mem_append_left _ (scL_mem.mpr (Or.inl (m_n hS (by omega))))) (mK_h (by omega)) q_w2 dX8_isMusic_73 ?_
            refine g_astore hX [(5, .ref (a (7000 + k))), (4, .ref (a 10)), (3, .int q), (2, .ref (a 8)), (0, .ref (a 0)), (1, .int (nI j))] rfl dX8_isMusic_76 (by decide) ?_
            refine g_iconst hX (0) dX8_isMusic_78 rfl ?_
            refine g_istore hX [(6, .int 0), (5, .ref (a (7000 + k))), (4, .ref (a 10)), (3, .int q), (2, .ref (a 8)), (0, .ref (a 0)), (1, .int (nI j))] rfl dX8_isMusic_79 (by decide) ?_
            refine g_aload_n hX 4 rfl dX8_isMusic_81 rfl ?_
            refine b_callQ_F hX hM (b := 8) [] (List.mem_append_left _ (scL_mem.mpr (Or.inr (Or.inl rfl)))) (pf_obj rfl (by decide)) rfl (v_iter 8 ((scA (up2 M 0 15 0) j 200).length) 9000 9 (LV_it (l2 := 2) (k := (k + 1)) (LV_8 (S := S) (M := (up2 M 0 15 0)) (xs := (scA (up2 M 0 15 0) j 200)) hna1) rfl) rfl (nm_app (scL_lo hS hna1 (by decide) (by decide)) (by decide)) (no_app (scL_no hS hna1 (scL_lo hS hna1 (by decide) (by decide)) (by decide)) (by decide) (scR_0 (by decide) hna1)) (fun k9 => (up2_n (Or.inl (by decide))).trans ((scR_0 (by decide) hna1) k9))) gX8_isMusic_Jx4a65c_iterator_32c93_f104Jx4a65c (by decide +kernel) rfl rfl rfl hdF_iterator ⟨Nat.le_of_ble_eq_true rfl, Nat.le_of_ble_eq_true rfl⟩ ⟨by show _ ≤ 858; omega, by show _ ≤ 5035; omega⟩ rfl (Nat.le_of_ble_eq_true rfl) dX8_isMusic_82 (fun r9 ad9 L9 f9 hp9 => ?_)
            obtain ⟨qa5, he9, hr9⟩ := hp9
            cases he9
            subst hr9
            obtain ⟨a5, ha5⟩ : ∃ z9, z9 = va_up a 9 qa5 := ⟨_, rfl⟩
            have va5 : qa5 = a5 9 := by rw [ha5]; exact (if_pos rfl).symm
            have ga5 : ∀ i, i ∈ ((scL S (scA (up2 M 0 15 0) j 200).length) ++ [10]) → a5 i = a i := fun i hi => by rw [ha5]; exact va_up_ne _ _ (fun h => (nm_app (scL_lo hS hna1 (by decide) (by decide)) (by decide)) (h ▸ hi))
            have aga5 : AGm (mL S) ad a5 := by rw [ha5]; exact AGm_new hag (f_lo (by decide) (by decide) hS) (by omega)
            rw [← ha5]
            refine g_lvs (lv2 := [(6, .int 0), (5, .ref (a5 (7000 + k))), (4, .ref (a5 10)), (3, .int q), (2, .ref (a5 8)), (0, .ref (a5 0)), (1, .int (nI j))]) (st2 := [.ref (a5 9)]) (by rw [ga5 (7000 + k) (List.mem_append_left _ (scL_mem.mpr (Or.inl (m_n hS (by omega))))), ga5 10 (List.mem_append_right _ (List.mem_singleton.mpr rfl)), ga5 8 (List.mem_append_left _ (scL_mem.mpr (Or.inr (Or.inl rfl)))), ga5 0 (List.mem_append_left _ (scL_mem.mpr (Or.inl (m_lo (by decide)))))]) (by rw [va5]; rfl) ?_
            refine g_astore hX [(7, .ref (a5 9)), (6, .int 0), (5, .ref (a5 (7000 + k))), (4, .ref (a5 10)), (3, .int q), (2, .ref (a5 8)), (0, .ref (a5 0)), (1, .int (nI j))] rfl dX8_isMusic_87 (by decide) ?_
            have lp_89 : ∀ (n9 : Nat) (i : Nat) (f : Int32), (scA (up2 M 0 15 0) j 200).length - i < n9 → (i ≤ (scA (up2 M 0 15 0) j 200).length) → (f = fnM M (scA (up2 M 0 15 0) j 200) k i) → GG X D a5 (((scL S (scA (up2 M 0 15 0) j 200).length) ++ [10]) ++ [9]) (pf dT mK mN (itM (itM (scI (up2 M 0 15 0) (scA (up2 M 0 15 0) j 200)) 10 2 (k + 1)) 9 8 i) (up2 (up2 (scR S (scA (up2 M 0 15 0) j 200).length) 10 3 (some 2)) 9 3 (some 8)) a5) [(7, .ref (a5 9)), (6, .int f), (5, .ref (a5 (7000 + k))), (4, .ref (a5 10)), (3, .int q), (2, .ref (a5 8)), (0, .ref (a5 0)), (1, .int (nI j))] (0 + 817 + 1 + k + 1) (0 + 4871 + 4 + 4 * k + 4) 89 [] := by
              intro n9
              induction n9 with
              | zero => intro i f h9; exact absurd h9 (Nat.not_lt_zero _)
              | succ n9 ih9 =>
                intro i f h9 hi hf
                have ih_89 := ih9
                refine g_aload hX 0 rfl dX8_isMusic_89 ?_
                refine b_callI_F hX hM (b := 9) [] (List.mem_append_right _ (List.mem_singleton.mpr rfl)) (pf_obj rfl (by decide)) rfl (v_has 8 ((scA (up2 M 0 15 0) j 200).length) 9000 9 i (LV_it (l2 := 8) (k := i) (LV_it (l2 := 2) (k := (k + 1)) (LV_8 (S := S) (M := (up2 M 0 15 0)) (xs := (scA (up2 M 0 15 0) j 200)) hna1) rfl) rfl) (List.mem_append_right _ (List.mem_singleton.mpr rfl)) rfl up2_s (by omega) itM_0) gX8_isMusic_Jx35411_hasNext_aae02_f108Jx35411 (by decide +kernel) rfl rfl rfl hdF_hasNext ⟨Nat.le_of_ble_eq_true rfl, Nat.le_of_ble_eq_true rfl⟩ ⟨by show _ ≤ 858; omega, by show _ ≤ 5035; omega⟩ rfl (Nat.le_of_ble_eq_true rfl) dX8_isMusic_91 (fun r9 ad9 L9 f9 hp9 => ?_)
                obtain ⟨he9, hr9⟩ := hp9
                cases he9
                subst hr9
                refine g_if_eq (tgt := 126) hX dX8_isMusic_96 (by decide) (fun c_96 => ?_) (fun c_96 => ?_)
                · have c_96 := z01 c_96
                  refine g_lv [1, 2, 3, 4, 5, 6, 7] rfl ?_
                  refine g_lvs (lv2 := [(6, .int f), (5, .ref (a5 (7000 + k))), (4, .ref (a5 10)), (3, .int q), (2, .ref (a5 8)), (0, .ref (a5 0)), (1, .int (nI j))]) (st2 := []) rfl rfl ?_
                  refine g_L (L2 := (scL S (scA (up2 M 0 15 0) j 200).length) ++ [10]) (fun i hi => List.mem_append_left _ hi) (nd_app (scL_nd hS (scA_804' _ _)) (scL_lo hS (scA_804' _ _) (by decide) (by decide))) ?_
                  refine g_f (g := pf dT mK mN (itM (scI (up2 M 0 15 0) (scA (up2 M 0 15 0) j 200)) 10 2 (k + 1)) (up2 (scR S (scA (up2 M 0 15 0) j 200).length) 10 3 (some 2)) a5) (fun i hi => (pf_I (itM_n (fun h => (nm_app (scL_lo hS hna1 (by decide) (by decide)) (by decide)) (h ▸ hi)))).trans (pf_R (up2_row (fun h => (nm_app (scL_lo hS hna1 (by decide) (by decide)) (by decide)) (h ▸ hi))))) ?_
                  refine g_iload_n hX 3 rfl dX8_isMusic_126 rfl ?_
                  refine g_iload hX 0 rfl dX8_isMusic_127 ?_
                  refine g_iand hX dX8_isMusic_129 ?_
                  refine g_istore_n hX [(3, .int (q &&& f)), (6, .int f), (5, .ref (a5 (7000 + k))), (4, .ref (a5 10)), (2, .ref (a5 8)), (0, .ref (a5 0)), (1, .int (nI j))] rfl dX8_isMusic_130 rfl (by decide) ?_
                  refine g_goto (tgt := 56) hX dX8_isMusic_131 (by decide) ?_
                  refine g_lv [3, 0, 4, 5, 6] rfl ?_
                  refine g_widen (k := 0 + 817 + 1 + (k + 1)) (n := 0 + 4871 + 4 + 4 * (k + 1)) (by omega) (by omega) ?_
                  exact ih_56 (k + 1) (q &&& f) a5 (by omega) (by omega) (by rw [muQ, ← hq, hf, c_96]) (aga5)
                · have c_96 := z00 c_96
                  refine g_aload hX 0 rfl dX8_isMusic_99 ?_
                  refine b_callQ_F hX hM (b := 9) [] (List.mem_append_right _ (List.mem_singleton.mpr rfl)) (pf_obj rfl (by decide)) rfl (v_next 8 ((scA (up2 M 0 15 0) j 200).length) 9000 9 i (LV_it (l2 := 8) (k := i) (LV_it (l2 := 2) (k := (k + 1)) (LV_8 (S := S) (M := (up2 M 0 15 0)) (xs := (scA (up2 M 0 15 0) j 200)) hna1) rfl) rfl) (List.mem_append_right _ (List.mem_singleton.mpr rfl)) rfl up2_s (by omega)) gX8_isMusic_Jx35411_next_0502b_f114Jx35411 (by decide +kernel) rfl rfl rfl hdF_next ⟨Nat.le_of_ble_eq_true rfl, Nat.le_of_ble_eq_true rfl⟩ ⟨by show _ ≤ 858; omega, by show _ ≤ 5035; omega⟩ rfl (Nat.le_of_ble_eq_true rfl) dX8_isMusic_101 (fun r9 ad9 L9 f9 hp9 => ?_)
                  obtain ⟨he9, hr9⟩ := hp9
                  cases he9
                  subst hr9
                  refine b_cast20 (i := (9000 + i)) hX (List.mem_append_left _ (List.mem_append_left _ (scL_mem.mpr (Or.inr (Or.inr (Or.inr ⟨_, (by omega), rfl⟩)))))) (mK_h (by omega)) q_w2 dX8_isMusic_106 ?_
                  refine g_astore hX [(8, .ref (a5 (9000 + i))), (7, .ref (a5 9)), (6, .int f), (5, .ref (a5 (7000 + k))), (4, .ref (a5 10)), (3, .int q), (2, .ref (a5 8)), (0, .ref (a5 0)), (1, .int (nI j))] rfl dX8_isMusic_109 (by decide) ?_
                  refine g_iload hX 2 rfl dX8_isMusic_111 ?_
                  refine g_aload hX 3 rfl dX8_isMusic_113 ?_
                  refine g_aload hX 0 rfl dX8_isMusic_115 ?_
                  refine b_callI_S hX hM [.ref (a5 (7000 + k)), .ref (a5 (9000 + i))] (k_X8_areSame (7000 + k) (9000 + i) (List.mem_append_left _ (List.mem_append_left _ (scL_mem.mpr (Or.inl (m_n hS (by omega)))))) (mK_h (by omega)) (mN_n (by omega)) (List.mem_append_left _ (List.mem_append_left _ (scL_mem.mpr (Or.inr (Or.inr (Or.inr ⟨_, (by omega), rfl⟩)))))) (mK_h (by omega)) mN_t) gX8_isMusic_X8_areSame rfl rfl rfl hd_X8_areSame.2 ⟨Nat.le_of_ble_eq_true rfl, Nat.le_of_ble_eq_true rfl⟩ ⟨by show _ ≤ 858; omega, by show _ ≤ 5035; omega⟩ rfl (Nat.le_of_ble_eq_true rfl) dX8_isMusic_117 (fun r9 ad9 L9 f9 hp9 => ?_)
                  obtain ⟨he9, hr9⟩ := hp9
                  cases he9
                  subst hr9
                  refine g_eqi (y := (if M (7000 + k) 0 = scq (scA (up2 M 0 15 0) j 200) i 0 then (if M (7000 + k) 1 = scq (scA (up2 M 0 15 0) j 200) i 1 then (if M (7000 + k) 2 = scq (scA (up2 M 0 15 0) j 200) i 2 then 1 else 0) else 0) else 0)) (asN_v (M := M) (fun b9 => ((congrFun (itM_n (by omega)) b9).trans ((congrFun (itM_n (by omega)) b9).trans ((congrFun (scI_n (by omega) (by omega)) b9).trans (congrFun (up2_row (by omega)) b9))))) (fun b9 => ((congrFun (itM_n (by omega)) b9).trans ((congrFun (itM_n (by omega)) b9).trans (scI_q (by omega)))))) ?_
                  refine g_ior hX dX8_isMusic_120 ?_
                  refine g_istore hX [(6, .int (f ||| (if M (7000 + k) 0 = scq (scA (up2 M 0 15 0) j 200) i 0 then (if M (7000 + k) 1 = scq (scA (up2 M 0 15 0) j 200) i 1 then (if M (7000 + k) 2 = scq (scA (up2 M 0 15 0) j 200) i 2 then 1 else 0) else 0) else 0))), (8, .ref (a5 (9000 + i))), (7, .ref (a5 9)), (5, .ref (a5 (7000 + k))), (4, .ref (a5 10)), (3, .int q), (2, .ref (a5 8)), (0, .ref (a5 0)), (1, .int (nI j))] rfl dX8_isMusic_121 (by decide) ?_
                  refine g_goto (tgt := 89) hX dX8_isMusic_123 (by decide) ?_
                  refine g_lv [2, 0, 3, 4, 5, 6, 7, 8] rfl ?_
                  exact ih_89 (i + 1) (f ||| (if M (7000 + k) 0 = scq (scA (up2 M 0 15 0) j 200) i 0 then (if M (7000 + k) 1 = scq (scA (up2 M 0 15 0) j 200) i 1 then (if M (7000 + k) 2 = scq (scA (up2 M 0 15 0) j 200) i 2 then 1 else 0) else 0) else 0)) (by omega) (by omega) (by rw [hf, fnM])
            refine g_lv [0, 1, 2, 3, 4, 5, 6, 7] rfl ?_
            exact lp_89 _ 0 0 (Nat.lt_succ_self _) (Nat.zero_le _) rfl
      refine g_lv [0, 1, 2, 3, 4] rfl ?_
      refine g_widen (k := 0 + 817 + 1 + 0) (n := 0 + 4871 + 4 + 4 * 0) (by omega) (by omega) ?_
      exact lp_56 _ 0 (q0M S (scA (up2 M 0 15 0) j 200)) a4 (Nat.lt_succ_self _) (Nat.zero_le _) rfl (aga4)
  · have c_10 := z11 c_10
    refine g_iconst hX (0) dX8_isMusic_13 rfl ?_
    refine b_zret hX rfl hE dX8_isMusic_14 (by omega) (by omega) ?_
    exact ⟨⟨_, AGm_rf, congrArg (fun z => (ad, mL S, mf dT ad z S)) (by simp [r1C, c_10])⟩, by simp [r1C, c_10]⟩
