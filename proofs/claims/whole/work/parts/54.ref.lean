abbrev rm_X8_scanned : Room := { frames := 8, cells := 817, slots := 4871, locals := 218 }
theorem hd_X8_scanned : yX8_scanned.cls = RX8 ∧ yX8_scanned.cls ≠ "java/lang/invoke/MethodHandle" ∧ yX8_scanned.cls ≠ "java/lang/invoke/VarHandle" ∧ (parseMethodDescriptor yX8_scanned.desc).map (fun d => d.parameters.length) = some 1 := by decide +kernel
set_option maxRecDepth 100000 in
set_option maxHeartbeats 4000000 in
theorem k_X8_scanned {D : va_G} {dT : Nat → ClassId} {Z : ZT} {ad : Nat → Nat} (M : Nat → Nat → Int32) (S : SZ) (hS : WS S) (hw1 : M 1 2 = nI S.1) (hw2 : M 2 2 = nI S.2.1) (hw3 : M 3 2 = nI S.2.2.1) (hz : ad 99999 = Z.1) (v : Int32) : ∀ l8, BI l8 yX8_scanned wsX8_scanned rm_X8_scanned D (tyl dT) Z ad (mL S) (pf dT mK mN M (mR S) ad) [.ref (ad 0), .int v] 817 4871 (fun r u => (∃ ad2, AGm (mL S) ad ad2 ∧ u = (ad2, mL S, mf dT ad2 (up2 M 0 15 (r1C S v)) S)) ∧ (if r1C S v = 0 then nI (scA (up2 M 0 15 0) v.toNatClampNeg 200).length else 0) = r) := by
  intro l9
  refine bi_of (own := RX8) (cc := cX8_scanned) (maxL := 2) (some .int) [(0, .ref (ad 0)), (1, .int v)] (by decide) rfl rfl rfl (Nat.le_of_ble_eq_true rfl) ?_
  intro X hX hE hN hM
  have hS1 := hS.1
  have hS2 := hS.2.1
  have hS3 := hS.2.2.1
  refine g_aload_n hX 0 rfl dX8_scanned_0 rfl ?_
  refine g_aload_n hX 0 rfl dX8_scanned_1 rfl ?_
  refine g_iload_n hX 1 rfl dX8_scanned_2 rfl ?_
  refine b_callI_V hX hM (b := 0) [.int v] (m_lo (by decide)) (pf_obj rfl (by decide)) rfl (k_X8_isRoll (m_lo (by decide)) rfl (m_lo (by decide)) rfl rfl v) gX8_scanned_X8_isRoll rfl rfl rfl hd_X8_isRoll ⟨Nat.le_of_ble_eq_true rfl, Nat.le_of_ble_eq_true rfl⟩ ⟨Nat.le_of_ble_eq_true rfl, Nat.le_of_ble_eq_true rfl⟩ rfl (Nat.le_of_ble_eq_true rfl) dX8_scanned_3 (fun r9 ad9 L9 f9 hp9 => ?_)
  obtain ⟨he9, hr9⟩ := hp9
  cases he9
  subst hr9
  refine g_eqi (y := isi v 0 (nI S.1 - 1)) (by rw [hw1]) ?_
  refine g_iconst hX (1) dX8_scanned_6 rfl ?_
  refine b_callI_V hX hM (b := 0) [.int (isi v 0 (nI S.1 - 1)), .int 1] (m_lo (by decide)) (pf_obj rfl (by decide)) rfl (k_X8_no (m_lo (by decide)) rfl (isi v 0 (nI S.1 - 1)) 1) gX8_scanned_X8_no rfl rfl rfl hd_X8_no ⟨Nat.le_of_ble_eq_true rfl, Nat.le_of_ble_eq_true rfl⟩ ⟨Nat.le_of_ble_eq_true rfl, Nat.le_of_ble_eq_true rfl⟩ rfl (Nat.le_of_ble_eq_true rfl) dX8_scanned_7 (fun r9 ad9 L9 f9 hp9 => ?_)
  obtain ⟨he9, hr9⟩ := hp9
  cases he9
  subst hr9
  refine g_if_eq (tgt := 17) hX dX8_scanned_10 (by decide) (fun c_10 => ?_) (fun c_10 => ?_)
  · have c_10 := z10 c_10
    rw [show (up2 M 0 15 (if (isi v 0 (nI S.1 - 1)) = 0 then 1 else 0)) = up2 M 0 15 0 from by simp [up2_ss, c_10]]
    obtain ⟨j, hj, rfl⟩ := isi_n c_10 (by have := hS.1; omega)
    refine g_aload_n hX 0 rfl dX8_scanned_17 rfl ?_
    refine g_iload_n hX 1 rfl dX8_scanned_18 rfl ?_
    refine b_callQ_V hX hM (b := 0) [.int (nI j)] (m_lo (by decide)) (pf_obj rfl (by decide)) rfl (k_X8_scan (up2 M 0 15 0) S hS ((up2_n (Or.inl (by decide))).trans hw1) ((up2_n (Or.inl (by decide))).trans hw2) ((up2_n (Or.inl (by decide))).trans hw3) hz j hj) gX8_scanned_X8_scan rfl rfl rfl hd_X8_scan ⟨Nat.le_of_ble_eq_true rfl, Nat.le_of_ble_eq_true rfl⟩ ⟨Nat.le_of_ble_eq_true rfl, Nat.le_of_ble_eq_true rfl⟩ rfl (Nat.le_of_ble_eq_true rfl) dX8_scanned_19 (fun r9 a1 L9 f9 hp9 => ?_)
    obtain ⟨x9, ga1, he9, hr9⟩ := hp9
    cases he9
    subst hr9
    have aga1 : AGm (mL S) ad a1 := AGm_tr AGm_rf ga1 (fun _ h => h)
    refine g_lvs (lv2 := [(0, .ref (a1 0)), (1, .int (nI j))]) (st2 := [.ref (a1 8)]) (by rw [← ga1 0 (Or.inl (m_lo (by decide))) (by decide) (Or.inl (by decide))]) rfl ?_
    have hna1 : (scA (up2 M 0 15 0) j 200).length ≤ 804 := scA_804' _ _
    refine b_callI_F hX hM (b := 8) [] (scL_mem.mpr (Or.inr (Or.inl rfl))) (pf_obj rfl (by decide)) rfl (k_Jx4a65c_size_8abf5 8 (scL_mem.mpr (Or.inr (Or.inl rfl))) rfl) gX8_scanned_Jx4a65c_size_8abf5_f54Jx4a65c (by decide +kernel) rfl rfl rfl hdF_size ⟨Nat.le_of_ble_eq_true rfl, Nat.le_of_ble_eq_true rfl⟩ ⟨Nat.le_of_ble_eq_true rfl, Nat.le_of_ble_eq_true rfl⟩ rfl (Nat.le_of_ble_eq_true rfl) dX8_scanned_22 (fun r9 ad9 L9 f9 hp9 => ?_)
    obtain ⟨he9, hr9⟩ := hp9
    cases he9
    subst hr9
    refine g_eqi (y := (nI (scA (up2 M 0 15 0) j 200).length)) scI_82 ?_
    refine g_L (L2 := mL S) (fun i hi => scL_mem.mpr (Or.inl hi)) mL_nd ?_
    refine g_f (g := pf dT mK mN (up2 M 0 15 0) (mR S) a1) (fun i hi => (pf_I (scI_n (xs := (scA (up2 M 0 15 0) j 200)) (mL_84 hS hi).1 (mL_mem.mp hi).1)).trans (pf_R (scR_n (mL_84 hS hi).1 (mL_84 hS hi).2 hna1))) ?_
    refine b_iret hX hE dX8_scanned_27 (by omega) (by omega) ?_
    exact ⟨⟨_, aga1, congrArg (fun z => (a1, mL S, mf dT a1 z S)) (by simp [r1C, c_10])⟩, by simp [r1C, c_10, nI_clamp (n := j) (by have := hS.1; omega)]⟩
  · have c_10 := z11 c_10
    refine g_iconst hX (0) dX8_scanned_13 rfl ?_
    refine g_goto (tgt := 27) hX dX8_scanned_14 (by decide) ?_
    refine b_iret hX hE dX8_scanned_27 (by omega) (by omega) ?_
    exact ⟨⟨_, AGm_rf, congrArg (fun z => (ad, mL S, mf dT ad z S)) (by simp [r1C, c_10])⟩, by simp [r1C, c_10]⟩
abbrev rm_X8_scan_ : Room := { frames := 8, cells := 817, slots := 4871, locals := 218 }
theorem hd_X8_scan_ : yX8_scan_.cls = RX8 ∧ yX8_scan_.cls ≠ "java/lang/invoke/MethodHandle" ∧ yX8_scan_.cls ≠ "java/lang/invoke/VarHandle" ∧ (parseMethodDescriptor yX8_scan_.desc).map (fun d => d.parameters.length) = some 3 := by decide +kernel
set_option maxRecDepth 100000 in
set_option maxHeartbeats 4000000 in
theorem k_X8_scan_ {D : va_G} {dT : Nat → ClassId} {Z : ZT} {ad : Nat → Nat} (M : Nat → Nat → Int32) (S : SZ) (hS : WS S) (hw1 : M 1 2 = nI S.1) (hw2 : M 2 2 = nI S.2.1) (hw3 : M 3 2 = nI S.2.2.1) (hz : ad 99999 = Z.1) (v x w : Int32) : ∀ l8, BI l8 yX8_scan_ wsX8_scan_ rm_X8_scan_ D (tyl dT) Z ad (mL S) (pf dT mK mN M (mR S) ad) [.ref (ad 0), .int v, .int x, .int w] 817 4871 (fun r u => (∃ ad2, AGm (mL S) ad ad2 ∧ u = (ad2, mL S, mf dT ad2 (up2 M 0 15 (scC S (up2 M 0 15 0) v x w)) S)) ∧ (if scC S (up2 M 0 15 0) v x w = 0 then scq (scA (up2 M 0 15 0) v.toNatClampNeg 200) x.toNatClampNeg (ixS 0 w).toNatClampNeg else 0) = r) := by
  intro l9
  refine bi_of (own := RX8) (cc := cX8_scan_) (maxL := 5) (some .int) [(0, .ref (ad 0)), (1, .int v), (2, .int x), (3, .int w)] (by decide) rfl rfl rfl (Nat.le_of_ble_eq_true rfl) ?_
  intro X hX hE hN hM
  have q_w1 : Cond.classLink RX8 117 "[I" ∈ wsX8_scan_ := List.mem_of_getElem? (i := 1) rfl
  have hS1 := hS.1
  have hS2 := hS.2.1
  have hS3 := hS.2.2.1
  refine g_aload_n hX 0 rfl dX8_scan__0 rfl ?_
  refine g_aload_n hX 0 rfl dX8_scan__1 rfl ?_
  refine g_iload_n hX 1 rfl dX8_scan__2 rfl ?_
  refine b_callI_V hX hM (b := 0) [.int v] (m_lo (by decide)) (pf_obj rfl (by decide)) rfl (k_X8_isRoll (m_lo (by decide)) rfl (m_lo (by decide)) rfl rfl v) gX8_scan__X8_isRoll rfl rfl rfl hd_X8_isRoll ⟨Nat.le_of_ble_eq_true rfl, Nat.le_of_ble_eq_true rfl⟩ ⟨Nat.le_of_ble_eq_true rfl, Nat.le_of_ble_eq_true rfl⟩ rfl (Nat.le_of_ble_eq_true rfl) dX8_scan__3 (fun r9 ad9 L9 f9 hp9 => ?_)
  obtain ⟨he9, hr9⟩ := hp9
  cases he9
  subst hr9
  refine g_eqi (y := isi v 0 (nI S.1 - 1)) (by rw [hw1]) ?_
  refine g_iconst hX (1) dX8_scan__6 rfl ?_
  refine b_callI_V hX hM (b := 0) [.int (isi v 0 (nI S.1 - 1)), .int 1] (m_lo (by decide)) (pf_obj rfl (by decide)) rfl (k_X8_no (m_lo (by decide)) rfl (isi v 0 (nI S.1 - 1)) 1) gX8_scan__X8_no rfl rfl rfl hd_X8_no ⟨Nat.le_of_ble_eq_true rfl, Nat.le_of_ble_eq_true rfl⟩ ⟨Nat.le_of_ble_eq_true rfl, Nat.le_of_ble_eq_true rfl⟩ rfl (Nat.le_of_ble_eq_true rfl) dX8_scan__7 (fun r9 ad9 L9 f9 hp9 => ?_)
  obtain ⟨he9, hr9⟩ := hp9
  cases he9
  subst hr9
  refine g_if_ne (tgt := 35) hX dX8_scan__10 (by decide) (fun c_10 => ?_) (fun c_10 => ?_)
  · have c_10 := z11 c_10
    refine g_iconst hX (0) dX8_scan__35 rfl ?_
    refine b_iret hX hE dX8_scan__36 (by omega) (by omega) ?_
    exact ⟨⟨_, AGm_rf, congrArg (fun z => (ad, mL S, mf dT ad z S)) (by simp [up2_ss, scC, c_10])⟩, by simp [scC, c_10]⟩
  · have c_10 := z10 c_10
    refine g_aload_n hX 0 rfl dX8_scan__13 rfl ?_
    refine b_ldcS hX hM rfl 0 (by decide) rfl dX8_scan__14 ?_
    refine g_iload_n hX 3 rfl dX8_scan__16 rfl ?_
    refine b_callI_VS hX hM (i := 0) (by decide) [.int w] (k_J0_indexOf_0f7a4 0 (by decide) w) gX8_scan__J0_indexOf_0f7a4 rfl rfl rfl hd_J0_indexOf_0f7a4 ⟨Nat.le_of_ble_eq_true rfl, Nat.le_of_ble_eq_true rfl⟩ ⟨Nat.le_of_ble_eq_true rfl, Nat.le_of_ble_eq_true rfl⟩ rfl (Nat.le_of_ble_eq_true rfl) dX8_scan__17 (fun r9 ad9 L9 f9 hp9 => ?_)
    obtain ⟨he9, hr9⟩ := hp9
    cases he9
    subst hr9
    refine g_eqi (y := ixS 0 w) rfl ?_
    refine g_if_lt (tgt := 27) hX dX8_scan__20 (by decide) (fun c_20 => ?_) (fun c_20 => ?_)
    · refine g_iconst hX (0) dX8_scan__27 rfl ?_
      refine g_iconst hX (2) dX8_scan__28 rfl ?_
      refine b_callI_V hX hM (b := 0) [.int 0, .int 2] (m_lo (by decide)) (pf_obj rfl (by decide)) rfl (k_X8_no (m_lo (by decide)) rfl 0 2) gX8_scan__X8_no rfl rfl rfl hd_X8_no ⟨Nat.le_of_ble_eq_true rfl, Nat.le_of_ble_eq_true rfl⟩ ⟨Nat.le_of_ble_eq_true rfl, Nat.le_of_ble_eq_true rfl⟩ rfl (Nat.le_of_ble_eq_true rfl) dX8_scan__29 (fun r9 ad9 L9 f9 hp9 => ?_)
      obtain ⟨he9, hr9⟩ := hp9
      cases he9
      subst hr9
      rw [show (if (0 : Int32) = 0 then (2 : Int32) else 0) = 2 from by decide]
      refine g_eqi (y := 1) (by decide) ?_
      refine g_if_eq (tgt := 37) hX dX8_scan__32 (by decide) (fun c_32 => ?_) (fun c_32 => ?_)
      · first | exact absurd c_32 (by decide) | exact absurd (by decide) c_32
      · refine g_iconst hX (0) dX8_scan__35 rfl ?_
        refine b_iret hX hE dX8_scan__36 (by omega) (by omega) ?_
        exact ⟨⟨_, AGm_rf, congrArg (fun z => (ad, mL S, mf dT ad z S)) (by simp [up2_ss, scC, c_10, c_20])⟩, by simp [scC, c_10, c_20]⟩
    · refine g_iconst hX (1) dX8_scan__23 rfl ?_
      refine g_goto (tgt := 28) hX dX8_scan__24 (by decide) ?_
      refine g_iconst hX (2) dX8_scan__28 rfl ?_
      refine b_callI_V hX hM (b := 0) [.int 1, .int 2] (m_lo (by decide)) (pf_obj rfl (by decide)) rfl (k_X8_no (m_lo (by decide)) rfl 1 2) gX8_scan__X8_no rfl rfl rfl hd_X8_no ⟨Nat.le_of_ble_eq_true rfl, Nat.le_of_ble_eq_true rfl⟩ ⟨Nat.le_of_ble_eq_true rfl, Nat.le_of_ble_eq_true rfl⟩ rfl (Nat.le_of_ble_eq_true rfl) dX8_scan__29 (fun r9 ad9 L9 f9 hp9 => ?_)
      obtain ⟨he9, hr9⟩ := hp9
      cases he9
      subst hr9
      rw [show (if (1 : Int32) = 0 then (2 : Int32) else 0) = 0 from by decide]
      refine g_eqi (y := 0) (by decide) ?_
      refine g_if_eq (tgt := 37) hX dX8_scan__32 (by decide) (fun c_32 => ?_) (fun c_32 => ?_)
      · rw [show (up2 (up2 M 0 15 (if (isi v 0 (nI S.1 - 1)) = 0 then 1 else 0)) 0 15 0) = up2 M 0 15 0 from by simp [up2_ss, c_10]]
        obtain ⟨j, hj, rfl⟩ := isi_n c_10 (by have := hS.1; omega)
        refine g_aload_n hX 0 rfl dX8_scan__37 rfl ?_
        refine g_iload_n hX 1 rfl dX8_scan__38 rfl ?_
        refine b_callQ_V hX hM (b := 0) [.int (nI j)] (m_lo (by decide)) (pf_obj rfl (by decide)) rfl (k_X8_scan (up2 M 0 15 0) S hS ((up2_n (Or.inl (by decide))).trans hw1) ((up2_n (Or.inl (by decide))).trans hw2) ((up2_n (Or.inl (by decide))).trans hw3) hz j hj) gX8_scan__X8_scan rfl rfl rfl hd_X8_scan ⟨Nat.le_of_ble_eq_true rfl, Nat.le_of_ble_eq_true rfl⟩ ⟨Nat.le_of_ble_eq_true rfl, Nat.le_of_ble_eq_true rfl⟩ rfl (Nat.le_of_ble_eq_true rfl) dX8_scan__39 (fun r9 a1 L9 f9 hp9 => ?_)
        obtain ⟨x9, ga1, he9, hr9⟩ := hp9
        cases he9
        subst hr9
        have aga1 : AGm (mL S) ad a1 := AGm_tr AGm_rf ga1 (fun _ h => h)
        refine g_lvs (lv2 := [(0, .ref (a1 0)), (1, .int (nI j)), (2, .int x), (3, .int w)]) (st2 := [.ref (a1 8)]) (by rw [← ga1 0 (Or.inl (m_lo (by decide))) (by decide) (Or.inl (by decide))]) rfl ?_
        have hna1 : (scA (up2 M 0 15 0) j 200).length ≤ 804 := scA_804' _ _
        refine g_astore hX [(4, .ref (a1 8)), (0, .ref (a1 0)), (1, .int (nI j)), (2, .int x), (3, .int w)] rfl dX8_scan__42 (by decide) ?_
        refine g_aload_n hX 1 rfl dX8_scan__44 rfl ?_
        refine g_iload_n hX 3 rfl dX8_scan__45 rfl ?_
        refine g_iconst hX (0) dX8_scan__46 rfl ?_
        refine g_aload hX 0 rfl dX8_scan__47 ?_
        refine b_callI_F hX hM (b := 8) [] (scL_mem.mpr (Or.inr (Or.inl rfl))) (pf_obj rfl (by decide)) rfl (k_Jx4a65c_size_8abf5 8 (scL_mem.mpr (Or.inr (Or.inl rfl))) rfl) gX8_scan__Jx4a65c_size_8abf5_f54Jx4a65c (by decide +kernel) rfl rfl rfl hdF_size ⟨Nat.le_of_ble_eq_true rfl, Nat.le_of_ble_eq_true rfl⟩ ⟨Nat.le_of_ble_eq_true rfl, Nat.le_of_ble_eq_true rfl⟩ rfl (Nat.le_of_ble_eq_true rfl) dX8_scan__49 (fun r9 ad9 L9 f9 hp9 => ?_)
        obtain ⟨he9, hr9⟩ := hp9
        cases he9
        subst hr9
        refine g_eqi (y := (nI (scA (up2 M 0 15 0) j 200).length)) scI_82 ?_
        refine g_iconst hX (1) dX8_scan__54 rfl ?_
        refine g_isub hX dX8_scan__55 ?_
        refine b_callI_S hX hM [.int x, .int 0, .int ((nI (scA (up2 M 0 15 0) j 200).length) - 1)] (k_X8_isIn x 0 ((nI (scA (up2 M 0 15 0) j 200).length) - 1)) gX8_scan__X8_isIn rfl rfl rfl hd_X8_isIn.2 ⟨Nat.le_of_ble_eq_true rfl, Nat.le_of_ble_eq_true rfl⟩ ⟨Nat.le_of_ble_eq_true rfl, Nat.le_of_ble_eq_true rfl⟩ rfl (Nat.le_of_ble_eq_true rfl) dX8_scan__56 (fun r9 ad9 L9 f9 hp9 => ?_)
        obtain ⟨he9, hr9⟩ := hp9
        cases he9
        subst hr9
        refine g_iconst hX (3) dX8_scan__59 rfl ?_
        refine b_callI_V hX hM (b := 0) [.int (isi x 0 ((nI (scA (up2 M 0 15 0) j 200).length) - 1)), .int 3] (scL_mem.mpr (Or.inl (m_lo (by decide)))) (pf_obj rfl (by decide)) rfl (k_X8_no (scL_mem.mpr (Or.inl (m_lo (by decide)))) rfl (isi x 0 ((nI (scA (up2 M 0 15 0) j 200).length) - 1)) 3) gX8_scan__X8_no rfl rfl rfl hd_X8_no ⟨Nat.le_of_ble_eq_true rfl, Nat.le_of_ble_eq_true rfl⟩ ⟨Nat.le_of_ble_eq_true rfl, Nat.le_of_ble_eq_true rfl⟩ rfl (Nat.le_of_ble_eq_true rfl) dX8_scan__60 (fun r9 ad9 L9 f9 hp9 => ?_)
        obtain ⟨he9, hr9⟩ := hp9
        cases he9
        subst hr9
        refine g_if_eq (tgt := 70) hX dX8_scan__63 (by decide) (fun c_63 => ?_) (fun c_63 => ?_)
        · have c_63 := z10 c_63
          rw [show (up2 (scI (up2 M 0 15 0) (scA (up2 M 0 15 0) j 200)) 0 15 (if (isi x 0 ((nI (scA (up2 M 0 15 0) j 200).length) - 1)) = 0 then 3 else 0)) = (up2 (scI (up2 M 0 15 0) (scA (up2 M 0 15 0) j 200)) 0 15 0) from by simp [c_63]]
          obtain ⟨i, hi, rfl⟩ := isi_n c_63 (by have := hna1; omega)
          obtain ⟨k, hk, hik⟩ := ix_lt (i := 0) (by decide) c_20
          have hk3 : k < 3 := hk
          refine g_aload hX 0 rfl dX8_scan__70 ?_
          refine g_iload_n hX 3 rfl dX8_scan__72 rfl ?_
          refine b_callQ_F hX hM (b := 8) [.int (nI i)] (scL_mem.mpr (Or.inr (Or.inl rfl))) (pf_obj rfl (by decide)) rfl (v_get 8 ((scA (up2 M 0 15 0) j 200).length) 9000 i (LV_up (LV_8 (S := S) (M := (up2 M 0 15 0)) (xs := (scA (up2 M 0 15 0) j 200)) hna1) (fun _ h => h) (fun _ _ => rfl) (up2_n (Or.inl (by decide)))) hi) gX8_scan__Jx4a65c_get_915e3_f81Jx4a65c (by decide +kernel) rfl rfl rfl hdF_get ⟨Nat.le_of_ble_eq_true rfl, Nat.le_of_ble_eq_true rfl⟩ ⟨Nat.le_of_ble_eq_true rfl, Nat.le_of_ble_eq_true rfl⟩ rfl (Nat.le_of_ble_eq_true rfl) dX8_scan__73 (fun r9 ad9 L9 f9 hp9 => ?_)
          obtain ⟨he9, hr9⟩ := hp9
          cases he9
          subst hr9
          refine b_cast20 (i := (9000 + i)) hX (scL_mem.mpr (Or.inr (Or.inr (Or.inr ⟨_, hi, rfl⟩)))) (mK_h (by omega)) q_w1 dX8_scan__78 ?_
          refine b_ldcS hX hM rfl 0 (by decide) rfl dX8_scan__81 ?_
          refine g_iload_n hX 4 rfl dX8_scan__83 rfl ?_
          refine b_callI_VS hX hM (i := 0) (by decide) [.int w] (k_J0_indexOf_0f7a4 0 (by decide) w) gX8_scan__J0_indexOf_0f7a4 rfl rfl rfl hd_J0_indexOf_0f7a4 ⟨Nat.le_of_ble_eq_true rfl, Nat.le_of_ble_eq_true rfl⟩ ⟨Nat.le_of_ble_eq_true rfl, Nat.le_of_ble_eq_true rfl⟩ rfl (Nat.le_of_ble_eq_true rfl) dX8_scan__84 (fun r9 ad9 L9 f9 hp9 => ?_)
          obtain ⟨he9, hr9⟩ := hp9
          cases he9
          subst hr9
          refine g_eqi (y := nI k) hik ?_
          refine h_iald (i := (9000 + i)) hX k rfl (by rw [mN_t]; omega) (by rw [mN_t]; decide) (scL_mem.mpr (Or.inr (Or.inr (Or.inr ⟨_, hi, rfl⟩)))) (mK_h (by omega)) dX8_scan__87 ?_
          refine g_eqi (y := scq (scA (up2 M 0 15 0) j 200) i k) ((congrFun (up2_row (by omega)) k).trans (scI_q hi)) ?_
          refine g_lv [1, 2, 3, 4] rfl ?_
          refine g_lvs (lv2 := [(0, .ref (a1 0)), (1, .int (nI j)), (2, .int (nI i)), (3, .int w)]) (st2 := [.int (scq (scA (up2 M 0 15 0) j 200) i k)]) rfl rfl ?_
          refine g_L (L2 := mL S) (fun i hi => scL_mem.mpr (Or.inl hi)) mL_nd ?_
          refine g_f (g := pf dT mK mN (up2 (up2 M 0 15 0) 0 15 0) (mR S) a1) (fun i hi => (pf_I (up2_ext (scI_n (xs := (scA (up2 M 0 15 0) j 200)) (mL_84 hS hi).1 (mL_mem.mp hi).1))).trans (pf_R (scR_n (mL_84 hS hi).1 (mL_84 hS hi).2 hna1))) ?_
          refine b_iret hX hE dX8_scan__88 (by omega) (by omega) ?_
          exact ⟨⟨_, aga1, congrArg (fun z => (a1, mL S, mf dT a1 z S)) (by simp [up2_ss, scC, c_10, c_20, c_63, nI_clamp (n := j) (by have := hS.1; omega), hik, show ¬ nI k < 0 from nI_pos (by omega), nI_clamp (n := k) (by omega), nI_clamp (n := i) (by have := hna1; omega)])⟩, by simp [scC, c_10, c_20, c_63, nI_clamp (n := j) (by have := hS.1; omega), hik, show ¬ nI k < 0 from nI_pos (by omega), nI_clamp (n := k) (by omega), nI_clamp (n := i) (by have := hna1; omega)]⟩
        · have c_63 := z11 c_63
          refine g_iconst hX (0) dX8_scan__66 rfl ?_
          refine g_goto (tgt := 88) hX dX8_scan__67 (by decide) ?_
          refine g_lv [1, 2, 3, 4] rfl ?_
          refine g_lvs (lv2 := [(0, .ref (a1 0)), (1, .int (nI j)), (2, .int x), (3, .int w)]) (st2 := [.int 0]) rfl rfl ?_
          refine g_L (L2 := mL S) (fun i hi => scL_mem.mpr (Or.inl hi)) mL_nd ?_
          refine g_f (g := pf dT mK mN (up2 (up2 M 0 15 0) 0 15 (if (isi x 0 ((nI (scA (up2 M 0 15 0) j 200).length) - 1)) = 0 then 3 else 0)) (mR S) a1) (fun i hi => (pf_I (up2_ext (scI_n (xs := (scA (up2 M 0 15 0) j 200)) (mL_84 hS hi).1 (mL_mem.mp hi).1))).trans (pf_R (scR_n (mL_84 hS hi).1 (mL_84 hS hi).2 hna1))) ?_
          refine b_iret hX hE dX8_scan__88 (by omega) (by omega) ?_
          exact ⟨⟨_, aga1, congrArg (fun z => (a1, mL S, mf dT a1 z S)) (by simp [up2_ss, scC, c_10, c_20, c_63, nI_clamp (n := j) (by have := hS.1; omega)])⟩, by simp [scC, c_10, c_20, c_63, nI_clamp (n := j) (by have := hS.1; omega)]⟩
      · first | exact absurd c_32 (by decide) | exact absurd (by decide) c_32
